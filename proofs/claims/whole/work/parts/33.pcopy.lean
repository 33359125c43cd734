/-! THE PURE LAYER: copy, feed -/
set_option maxHeartbeats 4000000 in
set_option maxRecDepth 100000 in
/-- a stretch of a row, or none -/
theorem pz_str (N : Nat) {rw : zOS} {r m : Nat} (hr : r < 8) (hm : m ≤ 40) (hs : rw.2 1 r = nI m) (x n : Int32) : (fX7_isStretch N rw (nI r) x n = some 0 ∧ (n < 0 ∨ x < 0 ∨ (m : Int) < x.toInt + n.toInt)) ∨ ∃ j k, j + k ≤ m ∧ x = nI j ∧ n = nI k ∧ fX7_isStretch N rw (nI r) x n = some 1 := by
  have r1 := pz_row1 N hr
  have i0 := pz_ni hr (N := 8) (by omega)
  have cl := nI_clamp (show r < 2 ^ 31 by omega)
  by_cases h1 : n < 0
  · exact .inl ⟨by simp only [fX7_isStretch, r1.1, h1, ↓reduceIte, Option.bind_some, or_self, or_false, false_or, or_true, true_or, and_true, true_and, and_false, false_and, not_true_eq_false, not_false_eq_true, pz_10, pz_01, eq_self], .inl h1⟩
  by_cases h2 : x < 0
  · exact .inl ⟨by simp only [fX7_isStretch, r1.1, h1, h2, ↓reduceIte, Option.bind_some, or_self, or_false, false_or, or_true, true_or, and_true, true_and, and_false, false_and, not_true_eq_false, not_false_eq_true, pz_10, pz_01, eq_self], .inr (.inl h2)⟩
  obtain ⟨k, hk, rfl⟩ := nI_of h1
  obtain ⟨j, hj, rfl⟩ := nI_of h2
  have e : (nI m - nI k).toInt = (m : Int) - k := by
    have := Int32.toInt_sub (nI m) (nI k)
    rw [nI_toInt (by omega), nI_toInt hk] at this
    rw [this, Int.bmod_def]
    omega
  have f : nI m - nI k < nI j ↔ m < j + k := by
    rw [Int32.lt_iff_toInt_lt, e, nI_toInt hj]
    omega
  by_cases h3 : m < j + k
  · refine .inl ⟨by simp only [fX7_isStretch, r1.1, h1, h2, i0, cl, hs, f, h3, ↓reduceIte, Option.bind_some, or_self, or_false, false_or, or_true, true_or, and_true, true_and, and_false, false_and, not_true_eq_false, not_false_eq_true, pz_10, pz_01, eq_self], .inr (.inr ?_)⟩
    rw [nI_toInt hj, nI_toInt hk]; omega
  · exact .inr ⟨j, k, by omega, rfl, rfl, by simp only [fX7_isStretch, r1.1, h1, h2, i0, cl, hs, f, h3, ↓reduceIte, Option.bind_some, or_self, or_false, false_or, or_true, true_or, and_true, true_and, and_false, false_and, not_true_eq_false, not_false_eq_true, pz_10, pz_01, eq_self]⟩
theorem pz_sum64 (x y : Int32) {m : Nat} (hm : m ≤ 40) : (nI m).toInt64 < x.toInt64 + y.toInt64 ↔ (m : Int) < x.toInt + y.toInt := by
  have h1 := Int32.toInt_lt x
  have h2 := Int32.le_toInt x
  have h3 := Int32.toInt_lt y
  have h4 := Int32.le_toInt y
  rw [Int64.lt_iff_toInt_lt, Int64.toInt_add, Int32.toInt_toInt64, Int32.toInt_toInt64, Int32.toInt_toInt64, nI_toInt (by omega), Int.bmod_def]
  omega
theorem pz_cpy_up (f : Nat → Int32) {s d k : Nat} (h : d ≤ s ∨ s + k < d) : upd (va_cpy f f s d k) (d + k) (va_cpy f f s d k (s + k)) = va_cpy f f s d (k + 1) := by
  funext i
  have e : va_cpy f f s d k (s + k) = f (s + k) := by
    unfold va_cpy
    by_cases c : d ≤ s + k ∧ s + k < d + k
    · omega
    · rw [if_neg c]
  rw [e]
  unfold upd va_cpy
  by_cases c : i = d + k
  · subst c
    rw [if_pos rfl, if_pos (by omega)]
    congr 1
    omega
  · rw [if_neg c]
    by_cases c2 : d ≤ i ∧ i < d + k
    · rw [if_pos c2, if_pos (by omega)]
    · rw [if_neg c2, if_neg (by omega)]
theorem pz_cpy_dn (f : Nat → Int32) {s d k : Nat} (n : Nat) (h : s ≤ d ∨ d + n ≤ s) (hk : k < n) : upd (va_cpy f f (s + (n - k)) (d + (n - k)) k) (d + (n - 1 - k)) (va_cpy f f (s + (n - k)) (d + (n - k)) k (s + (n - 1 - k))) = va_cpy f f (s + (n - (k + 1))) (d + (n - (k + 1))) (k + 1) := by
  funext i
  have e : va_cpy f f (s + (n - k)) (d + (n - k)) k (s + (n - 1 - k)) = f (s + (n - 1 - k)) := by
    unfold va_cpy
    by_cases c : d + (n - k) ≤ s + (n - 1 - k) ∧ s + (n - 1 - k) < d + (n - k) + k
    · omega
    · rw [if_neg c]
  rw [e]
  unfold upd va_cpy
  by_cases c : i = d + (n - 1 - k)
  · subst c
    rw [if_pos rfl, if_pos (by omega)]
    congr 1
    omega
  · rw [if_neg c]
    by_cases c2 : d + (n - k) ≤ i ∧ i < d + (n - k) + k
    · rw [if_pos c2, if_pos (by omega)]
      congr 1
      omega
    · rw [if_neg c2, if_neg (by omega)]
theorem pz_cpy0 (f : Nat → Int32) (s d : Nat) : va_cpy f f s d 0 = f := by
  funext i
  unfold va_cpy
  rw [if_neg (by omega)]
set_option maxHeartbeats 4000000 in
set_option maxRecDepth 100000 in
theorem pz_copy_up (N : Nat) {a i b j m : Nat} (ha : a < 8) (hb : b < 8) (hi : i + m ≤ 40) (hj : j + m ≤ 40) (h : j ≤ i) : ∀ (n k : Nat) (mo : zMS) (f : Nat → Int32), k ≤ m → m - k < n → mo.1.2 4 = va_cpy f f (40 * a + i) (40 * b + j) k → fX12_copy_l2 N (nI a) (nI i) (nI b) (nI j) (nI m) 1 n (nI k) mo = some (zMA mo 4 (va_cpy f f (40 * a + i) (40 * b + j) m)) := by
  intro n
  induction n with
  | zero => intro k mo f h1 h2; omega
  | succ n ih =>
    intro k mo f h1 h2 h3
    rcases Nat.lt_or_ge k m with h4 | h4
    · have g1 : ¬ nI m ≤ nI k := nI_ge h4 (by omega)
      have g2 : (40 : Int32) * nI a + nI i + nI k = nI (40 * a + i + k) := by rw [show (40 : Int32) = nI 40 from rfl, pk_mul, nI_add, nI_add]
      have g3 : (40 : Int32) * nI b + nI j + nI k = nI (40 * b + j + k) := by rw [show (40 : Int32) = nI 40 from rfl, pk_mul, nI_add, nI_add]
      have g4 := pz_ni (show 40 * a + i + k < 320 by omega) (by omega)
      have g5 := pz_ni (show 40 * b + j + k < 320 by omega) (by omega)
      simp only [fX12_copy_l2, g1, g2, g3, g4, g5, nI_clamp (show 40 * a + i + k < 2 ^ 31 by omega), nI_clamp (show 40 * b + j + k < 2 ^ 31 by omega), nI_1, ↓reduceIte, Option.bind_some, or_self, or_false, false_or, or_true, true_or, and_true, true_and, and_false, false_and, not_true_eq_false, not_false_eq_true, pz_10, pz_01, eq_self]
      rw [ih (k + 1) _ f (by omega) (by omega) ?_, pz_MAA]
      rw [pz_MA, h3, pz_cpy_up f (by omega)]
    · have e : k = m := by omega
      subst e
      have g1 : nI k ≤ nI k := Int32.le_refl _
      simp only [fX12_copy_l2, g1, ↓reduceIte, Option.bind_some, or_self, or_false, false_or, or_true, true_or, and_true, true_and, and_false, false_and, not_true_eq_false, not_false_eq_true]
      rw [← h3, pz_MA0]
set_option maxHeartbeats 4000000 in
set_option maxRecDepth 100000 in
theorem pz_copy_dn (N : Nat) {a i b j m : Nat} (ha : a < 8) (hb : b < 8) (hi : i + m ≤ 40) (hj : j + m ≤ 40) (h : i < j) : ∀ (n k : Nat) (mo : zMS) (f : Nat → Int32), k ≤ m → m - k < n → mo.1.2 4 = va_cpy f f (40 * a + i + (m - k)) (40 * b + j + (m - k)) k → fX12_copy_l1 N (nI a) (nI i) (nI b) (nI j) (nI m) 0 n (nI k) mo = some (zMA mo 4 (va_cpy f f (40 * a + i) (40 * b + j) m)) := by
  intro n
  induction n with
  | zero => intro k mo f h1 h2; omega
  | succ n ih =>
    intro k mo f h1 h2 h3
    rcases Nat.lt_or_ge k m with h4 | h4
    · have g1 : ¬ nI m ≤ nI k := nI_ge h4 (by omega)
      have g0 : nI m - (1 : Int32) - nI k = nI (m - 1 - k) := by rw [show (1 : Int32) = nI 1 from rfl, pk_sub (by omega), pk_sub (by omega)]
      have g2 : (40 : Int32) * nI a + nI i + nI (m - 1 - k) = nI (40 * a + i + (m - 1 - k)) := by rw [show (40 : Int32) = nI 40 from rfl, pk_mul, nI_add, nI_add]
      have g3 : (40 : Int32) * nI b + nI j + nI (m - 1 - k) = nI (40 * b + j + (m - 1 - k)) := by rw [show (40 : Int32) = nI 40 from rfl, pk_mul, nI_add, nI_add]
      have g4 := pz_ni (show 40 * a + i + (m - 1 - k) < 320 by omega) (by omega)
      have g5 := pz_ni (show 40 * b + j + (m - 1 - k) < 320 by omega) (by omega)
      simp only [fX12_copy_l1, g1, g0, g2, g3, g4, g5, nI_clamp (show 40 * a + i + (m - 1 - k) < 2 ^ 31 by omega), nI_clamp (show 40 * b + j + (m - 1 - k) < 2 ^ 31 by omega), nI_1, ↓reduceIte, Option.bind_some, or_self, or_false, false_or, or_true, true_or, and_true, true_and, and_false, false_and, not_true_eq_false, not_false_eq_true, pz_10, pz_01, eq_self]
      rw [ih (k + 1) _ f (by omega) (by omega) ?_, pz_MAA]
      rw [pz_MA, h3]
      exact pz_cpy_dn f m (by omega) h4
    · have e : k = m := by omega
      subst e
      have g1 : nI k ≤ nI k := Int32.le_refl _
      simp only [fX12_copy_l1, g1, ↓reduceIte, Option.bind_some, or_self, or_false, false_or, or_true, true_or, and_true, true_and, and_false, false_and, not_true_eq_false, not_false_eq_true]
      rw [Nat.sub_self, Nat.add_zero, Nat.add_zero] at h3
      rw [← h3, pz_MA0]
theorem pz_rw_cpy {rw : zOS} {mo : zMS} (h : pz_rw rw mo) {a i b j n ma mb : Nat} (ha : a < 8) (hb : b < 8) (hma : rw.2 1 a = nI ma) (hmb : rw.2 1 b = nI mb) (la : ma ≤ 40) (lb : mb ≤ 40) (hi : i + n ≤ ma) (hj : j + n ≤ mb) : pz_rw (zpA rw 2 (va_cpy (rw.2 2) (rw.2 2) (a * 40 + i) (b * 40 + j) n)) (zMA mo 4 (va_cpy (mo.1.2 4) (mo.1.2 4) (40 * a + i) (40 * b + j) n)) := by
  intro q hq
  obtain ⟨k1, k2, m', k3, k4, k5, k6⟩ := h q hq
  refine ⟨k1, k2, m', k3, k4, k5, ?_⟩
  intro x hx
  show va_cpy (rw.2 2) (rw.2 2) (a * 40 + i) (b * 40 + j) n (q * 40 + x) = va_cpy (mo.1.2 4) (mo.1.2 4) (40 * a + i) (40 * b + j) n (q * 40 + x)
  unfold va_cpy
  rw [Nat.mul_comm 40 a, Nat.mul_comm 40 b]
  split
  · next c =>
    obtain ⟨-, -, m2, l3, l4, -, l6⟩ := h a ha
    have e1 : m2 = ma := (nI_eq (by omega) (by omega)).mp (l4.symm.trans hma)
    have := l6 (i + (q * 40 + x - (b * 40 + j))) (by omega)
    rw [show a * 40 + i + (q * 40 + x - (b * 40 + j)) = a * 40 + (i + (q * 40 + x - (b * 40 + j))) by omega]
    exact this
  · exact k6 x hx
set_option maxHeartbeats 4000000 in
set_option maxRecDepth 100000 in
theorem ps_copy {N : Nat} (hN : 200000 ≤ N) : zStep_copy N pz_Inv := by
  intro KL kc on rw rd ft tr la mo hI x1 x2 x3 x4 x5
  rcases pz_ix x1 8 with h | ⟨a, ha, rfl⟩
  · simp only [fX11_copy, fX12_copy, (pz_row0 N h).1, (pz_row0 N h).2, ↓reduceIte, Option.bind_some, or_self, or_false, false_or, or_true, true_or, and_true, true_and, and_false, false_and, not_true_eq_false, not_false_eq_true, pz_10, pz_01, eq_self]
    exact ⟨_, _, rfl, rfl, rfl, pz_th 0 hI⟩
  have ra := pz_row1 N ha
  rcases pz_ix x3 8 with h | ⟨b, hb, rfl⟩
  · simp only [fX11_copy, fX12_copy, ra.1, ra.2, (pz_row0 N h).1, (pz_row0 N h).2, ↓reduceIte, Option.bind_some, or_self, or_false, false_or, or_true, true_or, and_true, true_and, and_false, false_and, not_true_eq_false, not_false_eq_true, pz_10, pz_01, eq_self]
    exact ⟨_, _, rfl, rfl, rfl, pz_th 0 hI⟩
  have rb := pz_row1 N hb
  have ia := pz_ni ha (N := 8) (by omega)
  have ib := pz_ni hb (N := 8) (by omega)
  have ca := nI_clamp (show a < 2 ^ 31 by omega)
  have cb := nI_clamp (show b < 2 ^ 31 by omega)
  obtain ⟨ga1, ga2, ma, ga3, ga4, ga5, ga6⟩ := hI.2.2.1 a ha
  obtain ⟨gb1, gb2, mb, gb3, gb4, gb5, gb6⟩ := hI.2.2.1 b hb
  rcases pz_miss N hI.2.2.1 ha with ⟨g, g7⟩ | ⟨g, g8, g7⟩
  · have g8 : mo.1.2 2 a < 0 := by rw [g]; decide
    simp only [fX11_copy, fX12_copy, fX11_found, fX12_finding, ra.1, ra.2, rb.1, rb.2, ia, ca, g7, g8, ↓reduceIte, Option.bind_some, or_self, or_false, false_or, or_true, true_or, and_true, true_and, and_false, false_and, not_true_eq_false, not_false_eq_true, pz_10, pz_01, eq_self]
    exact ⟨_, _, rfl, rfl, rfl, pz_st 1 hI⟩
  have g9 : ¬ mo.1.2 2 a < 0 := Int32.not_lt.mpr g8
  rcases pz_miss N hI.2.2.1 hb with ⟨k, k7⟩ | ⟨k, k8, k7⟩
  · have k8 : ¬ 0 ≤ mo.1.2 2 b := by rw [k]; decide
    simp only [fX11_copy, fX12_copy, fX11_found, fX12_finding, ra.1, ra.2, rb.1, rb.2, ia, ca, ib, cb, g7, g9, k7, k8, ↓reduceIte, Option.bind_some, or_self, or_false, false_or, or_true, true_or, and_true, true_and, and_false, false_and, not_true_eq_false, not_false_eq_true, pz_10, pz_01, eq_self]
    exact ⟨_, _, rfl, rfl, rfl, pz_st 1 hI⟩
  by_cases e9 : ¬ mo.1.2 2 a = mo.1.2 2 b
  · have e := e9
    have el : fX7_areOfOneLane N rw (nI a) (nI b) = some 0 := by
      simp only [fX7_areOfOneLane, ra.1, rb.1, ia, ib, ca, cb, ga1, gb1, e, ↓reduceIte, Option.bind_some, or_self, or_false, false_or, or_true, true_or, and_true, true_and, and_false, false_and, not_true_eq_false, not_false_eq_true, pz_10, pz_01, eq_self]
    simp only [fX11_copy, fX12_copy, fX11_found, fX12_finding, ra.1, ra.2, rb.1, rb.2, ia, ca, ib, cb, g7, g9, k7, k8, el, e, ↓reduceIte, Option.bind_some, or_self, or_false, false_or, or_true, true_or, and_true, true_and, and_false, false_and, not_true_eq_false, not_false_eq_true, pz_10, pz_01, eq_self]
    exact ⟨_, _, rfl, rfl, rfl, pz_st 5 hI⟩
  have e := Decidable.not_not.mp e9
  have g9b : ¬ mo.1.2 2 b < 0 := Int32.not_lt.mpr k8
  have el : fX7_areOfOneLane N rw (nI a) (nI b) = some 1 := by
    simp only [fX7_areOfOneLane, ra.1, rb.1, ia, ib, ca, cb, ga1, gb1, e, ↓reduceIte, Option.bind_some, or_self, or_false, false_or, or_true, true_or, and_true, true_and, and_false, false_and, not_true_eq_false, not_false_eq_true, pz_10, pz_01, eq_self]
  have bad : ∀ (u : x2 < 0 ∨ x4 < 0 ∨ x5 < 0 ∨ (ma : Int) < x2.toInt + x5.toInt ∨ (mb : Int) < x4.toInt + x5.toInt), fX12_copy N mo (nI a) x2 (nI b) x4 x5 = some ((-1000010 : Int32) - 2, zMi (zMi (zMi mo 0 0) 1 0) 1 2) := by
    intro u
    simp only [fX12_copy, fX12_finding, ra.2, rb.2, ia, ca, ib, cb, g9, g9b, k8, e, ga5, gb5, lg_cmp_gt, lg_cmp_le, ↓reduceIte, Option.bind_some, or_self, or_false, false_or, or_true, true_or, and_true, true_and, and_false, false_and, not_true_eq_false, not_false_eq_true, pz_10, pz_01, eq_self]
    by_cases u1 : x2 < 0
    · simp only [u1, ↓reduceIte, Option.bind_some, or_self, or_false, false_or, or_true, true_or, and_true, true_and, and_false, false_and, not_true_eq_false, not_false_eq_true]
    by_cases u2 : x4 < 0
    · simp only [u1, u2, ↓reduceIte, Option.bind_some, or_self, or_false, false_or, or_true, true_or, and_true, true_and, and_false, false_and, not_true_eq_false, not_false_eq_true]
    by_cases u3 : x5 < 0
    · simp only [u1, u2, u3, ↓reduceIte, Option.bind_some, or_self, or_false, false_or, or_true, true_or, and_true, true_and, and_false, false_and, not_true_eq_false, not_false_eq_true]
    by_cases u4 : (nI ma).toInt64 < x2.toInt64 + x5.toInt64
    · simp only [u1, u2, u3, u4, ↓reduceIte, Option.bind_some, or_self, or_false, false_or, or_true, true_or, and_true, true_and, and_false, false_and, not_true_eq_false, not_false_eq_true]
    have u5 : ¬ x4.toInt64 + x5.toInt64 ≤ (nI mb).toInt64 := by
      rw [Int64.not_le, pz_sum64 _ _ gb3]
      rw [pz_sum64 _ _ ga3] at u4
      rcases u with u | u | u | u | u
      · exact absurd u u1
      · exact absurd u u2
      · exact absurd u u3
      · exact absurd u u4
      · exact u
    simp only [u1, u2, u3, u4, u5, ↓reduceIte, Option.bind_some, or_self, or_false, false_or, or_true, true_or, and_true, true_and, and_false, false_and, not_true_eq_false, not_false_eq_true]
  rcases pz_str N ha ga3 ga4 x2 x5 with ⟨s1, s2⟩ | ⟨i, n, s1, rfl, rfl, s2⟩
  · rw [bad (by rcases s2 with s2 | s2 | s2; exact .inr (.inr (.inl s2)); exact .inl s2; exact .inr (.inr (.inr (.inl s2))))]
    simp only [fX11_copy, fX11_found, ra.1, rb.1, g7, k7, el, s1, ↓reduceIte, Option.bind_some, or_self, or_false, false_or, or_true, true_or, and_true, true_and, and_false, false_and, not_true_eq_false, not_false_eq_true, pz_10, pz_01, eq_self]
    exact ⟨_, _, rfl, rfl, rfl, pz_st 2 hI⟩
  rcases pz_str N hb gb3 gb4 x4 (nI n) with ⟨t1, t2⟩ | ⟨j, n2, t1, rfl, t3, t2⟩
  · rw [bad (by rcases t2 with t2 | t2 | t2; exact .inr (.inr (.inl t2)); exact .inr (.inl t2); exact .inr (.inr (.inr (.inr t2))))]
    simp only [fX11_copy, fX11_found, ra.1, rb.1, g7, k7, el, s2, t1, ↓reduceIte, Option.bind_some, or_self, or_false, false_or, or_true, true_or, and_true, true_and, and_false, false_and, not_true_eq_false, not_false_eq_true, pz_10, pz_01, eq_self]
    exact ⟨_, _, rfl, rfl, rfl, pz_st 2 hI⟩
  have t4 : n2 = n := by
    rcases Nat.lt_or_ge n (2 ^ 31) with h | h
    · exact ((nI_eq h (by omega)).mp t3).symm
    · omega
  subst t4
  have hx : nI a * (40 : Int32) + nI i = nI (a * 40 + i) := by rw [show (40 : Int32) = nI 40 from rfl, pk_mul, nI_add]
  have hy : nI b * (40 : Int32) + nI j = nI (b * 40 + j) := by rw [show (40 : Int32) = nI 40 from rfl, pk_mul, nI_add]
  have em : fX7_move N rw (nI a) (nI i) (nI b) (nI j) (nI n2) = some (zpA rw 2 (va_cpy (rw.2 2) (rw.2 2) (a * 40 + i) (b * 40 + j) n2)) := by
    have u1 : ¬ nI (a * 40 + i) < 0 := nI_pos (by omega)
    have u2 : ¬ nI (b * 40 + j) < 0 := nI_pos (by omega)
    have u3 : ¬ nI n2 < 0 := nI_pos (by omega)
    have u4 : ¬ 320 < a * 40 + i + n2 := by omega
    have u5 : ¬ 320 < b * 40 + j + n2 := by omega
    simp only [fX7_move, s2, t2, hx, hy, u1, u2, u3, u4, u5, nI_clamp (show a * 40 + i < 2 ^ 31 by omega), nI_clamp (show b * 40 + j < 2 ^ 31 by omega), nI_clamp (show n2 < 2 ^ 31 by omega), ↓reduceIte, Option.bind_some, or_self, or_false, false_or, or_true, true_or, and_true, true_and, and_false, false_and, not_true_eq_false, not_false_eq_true, pz_10, pz_01, eq_self]
  have v1 : ¬ nI i < 0 := nI_pos (by omega)
  have v2 : ¬ nI j < 0 := nI_pos (by omega)
  have v3 : ¬ nI n2 < 0 := nI_pos (by omega)
  have v4 : ¬ (nI ma).toInt64 < (nI i).toInt64 + (nI n2).toInt64 := by
    rw [pz_sum64 _ _ ga3, nI_toInt (by omega), nI_toInt (by omega)]; omega
  have v5 : (nI j).toInt64 + (nI n2).toInt64 ≤ (nI mb).toInt64 := by
    rw [← Int64.not_lt, pz_sum64 _ _ gb3, nI_toInt (by omega), nI_toInt (by omega)]; omega
  have fin := pz_rw_cpy (mo := zMi (zMi mo 0 0) 1 0) hI.2.2.1 ha hb ga4 gb4 ga3 gb3 s1 t1
  have er : fX12_copy N mo (nI a) (nI i) (nI b) (nI j) (nI n2) = some (nI n2, zMA (zMi (zMi mo 0 0) 1 0) 4 (va_cpy (mo.1.2 4) (mo.1.2 4) (40 * a + i) (40 * b + j) n2)) := by
    simp only [fX12_copy, ra.2, rb.2, ia, ca, ib, cb, g9, g9b, k8, e, ga5, gb5, lg_cmp_gt, lg_cmp_le, v1, v2, v3, v4, v5, ↓reduceIte, Option.bind_some, or_self, or_false, false_or, or_true, true_or, and_true, true_and, and_false, false_and, not_true_eq_false, not_false_eq_true, pz_10, pz_01, eq_self]
    by_cases c : i < j
    · rw [if_pos (nI_lt c (by omega)), show (0 : Int32) = nI 0 from rfl]
      have := pz_copy_dn N ha hb (show i + n2 ≤ 40 by omega) (show j + n2 ≤ 40 by omega) c N 0 (zMi (zMi mo 0 0) 1 0) (mo.1.2 4) (by omega) (by omega) (pz_cpy0 _ _ _).symm
      rw [show (0 : Int32) = nI 0 from rfl] at this
      rw [this]
      rfl
    · rw [if_neg (nI_nlt (by omega) (by omega))]
      have := pz_copy_up N ha hb (show i + n2 ≤ 40 by omega) (show j + n2 ≤ 40 by omega) (by omega) N 0 (zMi (zMi mo 0 0) 1 0) (mo.1.2 4) (by omega) (by omega) (pz_cpy0 _ _ _).symm
      rw [show nI 0 = 0 from rfl] at this
      rw [this]
      rfl
  rw [er]
  simp only [fX11_copy, fX11_fine, ra.1, rb.1, g7, k7, el, s2, t2, em, ↓reduceIte, Option.bind_some, or_self, or_false, false_or, or_true, true_or, and_true, true_and, and_false, false_and, not_true_eq_false, not_false_eq_true, pz_10, pz_01, eq_self]
  exact ⟨_, _, rfl, rfl, rfl, hI.1, rfl, fin, hI.2.2.2.1, hI.2.2.2.2.1, hI.2.2.2.2.2⟩
