/-! THE PURE LAYER: think, two, alone, best, make -/
set_option maxHeartbeats 4000000 in
set_option maxRecDepth 100000 in
theorem pz_thk (N : Nat) (p : Int32) {j : Nat} (hj : j ≤ 60) : ∀ n k v, k ≤ j → j - k < n → ∃ u, fX2_thought_l1 N p (nI j) n v (nI k) = some u ∧ fX12_think_l1 N p (nI j) n v (nI k) = some u := by
  intro n
  induction n with
  | zero => intro k v h1 h2; omega
  | succ n ih =>
    intro k v h1 h2
    rcases Nat.lt_or_ge k j with h3 | h3
    · have g1 : ¬ nI j ≤ nI k := nI_ge h3 (by omega)
      by_cases c : (1000 : Int32) - v * p / 1000 = 0
      · obtain ⟨u, e1, e2⟩ := ih (k + 1) 0 (by omega) (by omega)
        refine ⟨u, ?_, ?_⟩
        · simp only [fX2_thought_l1, g1, c, nI_1, ↓reduceIte, Option.bind_some, or_self, or_false, false_or, or_true, true_or, and_true, true_and, and_false, false_and, not_true_eq_false, not_false_eq_true]; exact e1
        · simp only [fX12_think_l1, g1, c, nI_1, ↓reduceIte, Option.bind_some, or_self, or_false, false_or, or_true, true_or, and_true, true_and, and_false, false_and, not_true_eq_false, not_false_eq_true]; exact e2
      · obtain ⟨u, e1, e2⟩ := ih (k + 1) (v * (1000 - p) / (1000 - v * p / 1000)) (by omega) (by omega)
        refine ⟨u, ?_, ?_⟩
        · simp only [fX2_thought_l1, g1, c, nI_1, ↓reduceIte, Option.bind_some, or_self, or_false, false_or, or_true, true_or, and_true, true_and, and_false, false_and, not_true_eq_false, not_false_eq_true]; exact e1
        · simp only [fX12_think_l1, g1, c, nI_1, ↓reduceIte, Option.bind_some, or_self, or_false, false_or, or_true, true_or, and_true, true_and, and_false, false_and, not_true_eq_false, not_false_eq_true]; exact e2
    · have e : k = j := by omega
      subst e
      have g1 : nI k ≤ nI k := Int32.le_refl _
      exact ⟨v, by simp only [fX2_thought_l1, g1, ↓reduceIte, Option.bind_some, or_self, or_false, false_or, or_true, true_or, and_true, true_and, and_false, false_and, not_true_eq_false, not_false_eq_true], by simp only [fX12_think_l1, g1, ↓reduceIte, Option.bind_some, or_self, or_false, false_or, or_true, true_or, and_true, true_and, and_false, false_and, not_true_eq_false, not_false_eq_true]⟩
set_option maxHeartbeats 4000000 in
set_option maxRecDepth 100000 in
theorem ps_think {N : Nat} (hN : 200000 ≤ N) : zStep_think N pz_Inv := by
  intro KL kc on rw rd ft tr la mo hI x1 x2 x3
  rcases pz_wi N x1 0 1000 with h1 | ⟨h1, -⟩
  · simp only [fX11_think, fX12_think, pz_in_0_1000, h1, ↓reduceIte, Option.bind_some, or_self, or_false, false_or, or_true, true_or, and_true, true_and, and_false, false_and, not_true_eq_false, not_false_eq_true, pz_10, pz_01, eq_self]
    exact ⟨_, _, rfl, rfl, rfl, pz_th 0 hI⟩
  rcases pz_wi N x2 0 1000 with h2 | ⟨h2, -⟩
  · simp only [fX11_think, fX12_think, pz_in_0_1000, h1, h2, ↓reduceIte, Option.bind_some, or_self, or_false, false_or, or_true, true_or, and_true, true_and, and_false, false_and, not_true_eq_false, not_false_eq_true, pz_10, pz_01, eq_self]
    exact ⟨_, _, rfl, rfl, rfl, pz_th 0 hI⟩
  rcases pz_wiN N x3 0 60 0 60 with h3 | ⟨h3, j, -, hj, rfl⟩
  · simp only [fX11_think, fX12_think, pz_in_0_1000, pz_in_0_60, h1, h2, h3, ↓reduceIte, Option.bind_some, or_self, or_false, false_or, or_true, true_or, and_true, true_and, and_false, false_and, not_true_eq_false, not_false_eq_true, pz_10, pz_01, eq_self]
    exact ⟨_, _, rfl, rfl, rfl, pz_th 0 hI⟩
  obtain ⟨u, e1, e2⟩ := pz_thk N x2 hj N 0 x1 (by omega) (by omega)
  rw [show nI 0 = (0 : Int32) from rfl] at e1 e2
  simp only [fX11_think, fX12_think, fX2_thought, pz_in_0_1000, pz_in_0_60, h1, h2, h3, e1, e2, ↓reduceIte, Option.bind_some, or_self, or_false, false_or, or_true, true_or, and_true, true_and, and_false, false_and, not_true_eq_false, not_false_eq_true, pz_10, pz_01, eq_self]
  exact ⟨_, _, rfl, rfl, rfl, pz_th 0 hI⟩
theorem pz_pp {a b : Int32} (ha : 0 < a) (hb : 0 < b) : ¬ a + b = 0 := by
  intro h
  have h1 := Int32.lt_iff_toInt_lt.mp ha
  have h2 := Int32.lt_iff_toInt_lt.mp hb
  have h3 := congrArg Int32.toInt h
  have h0 : (0 : Int32).toInt = 0 := rfl
  have l1 := Int32.toInt_lt a
  have l2 := Int32.toInt_lt b
  rw [Int32.toInt_add, Int.bmod_def] at h3
  omega
/-- the land told, for the foretold -/
theorem pz_val2 (N : Nat) (hN : 200000 ≤ N) {KL : List Nat} {kc : Nat → zKC} {L : zLS} {A H : Nat → Int32} {mo : zMS} {K P Q T : Nat} (hm : mo.1.2 5 = A) (h : pz_A A K P Q T) (hL : pz_L KL kc L A H K P Q) (x : Int32) : fX4_valueAt N L x = some (pz_vo A Q x) ∧ fX12_valueOf N mo x = some (pz_vo A Q x) := by
  subst hm
  exact pz_value N hN h hL x
set_option maxHeartbeats 4000000 in
set_option maxRecDepth 100000 in
theorem pz_two (N : Nat) (hN : 200000 ≤ N) {KL : List Nat} {kc : Nat → zKC} {L : zLS} {H : Nat → Int32} {mo : zMS} {K P Q T : Nat} (h : pz_A (mo.1.2 5) K P Q T) (hL : pz_L KL kc L (mo.1.2 5) H K P Q) (hl : L.1.1 3 = mo.1.2 5 5) (w x3 : Int32) {j : Nat} (hj : j ≤ T) : ∀ n k c v, k ≤ T → k - j < n → ∃ u, fX2_ofTwo_l1 N L (nI j) w x3 n c v (nI k - 1) = some u ∧ fX12_two_l1 N mo (nI j) w x3 n c v (nI k - 1) = some u := by
  have hT := (pz_A_n h).1
  have k5 : (5 : Int32).toNatClampNeg = 5 := rfl
  intro n
  induction n with
  | zero => intro k c v h1 h2; omega
  | succ n ih =>
    intro k c v h1 h2
    rcases Nat.lt_or_ge j k with h3 | h3
    · obtain ⟨k, rfl⟩ : ∃ i, k = i + 1 := ⟨k - 1, by omega⟩
      rw [nI_pred]
      have g1 : ¬ nI k < nI j := nI_nlt (by omega) (by omega)
      have g4 : nI k + (-1 : Int32) = nI k - 1 := (Int32.sub_eq_add_neg _ _).symm
      obtain ⟨v1, v2⟩ := pz_value N hN h hL (nI k)
      have ec := Int32.mul_comm (pz_vo (mo.1.2 5) Q (nI k)) w
      by_cases c1 : 0 < pz_vo (mo.1.2 5) Q (nI k) - v * (1000 - mo.1.2 5 5) / 1000
      · by_cases c2 : 0 < w * pz_vo (mo.1.2 5) Q (nI k) / 100 - pz_vo (mo.1.2 5) Q (nI k) / 2
        · have c3 := pz_pp c1 c2
          obtain ⟨u, e1, e2⟩ := ih k (1000 * (pz_vo (mo.1.2 5) Q (nI k) - v * (1000 - mo.1.2 5 5) / 1000) / (pz_vo (mo.1.2 5) Q (nI k) - v * (1000 - mo.1.2 5 5) / 1000 + (w * pz_vo (mo.1.2 5) Q (nI k) / 100 - pz_vo (mo.1.2 5) Q (nI k) / 2))) ((1000 * (pz_vo (mo.1.2 5) Q (nI k) - v * (1000 - mo.1.2 5 5) / 1000) / (pz_vo (mo.1.2 5) Q (nI k) - v * (1000 - mo.1.2 5 5) / 1000 + (w * pz_vo (mo.1.2 5) Q (nI k) / 100 - pz_vo (mo.1.2 5) Q (nI k) / 2)) * (pz_vo (mo.1.2 5) Q (nI k) / 2) + (1000 - 1000 * (pz_vo (mo.1.2 5) Q (nI k) - v * (1000 - mo.1.2 5 5) / 1000) / (pz_vo (mo.1.2 5) Q (nI k) - v * (1000 - mo.1.2 5 5) / 1000 + (w * pz_vo (mo.1.2 5) Q (nI k) / 100 - pz_vo (mo.1.2 5) Q (nI k) / 2))) * pz_vo (mo.1.2 5) Q (nI k)) / 1000) (by omega) (by omega)
          refine ⟨u, ?_, ?_⟩
          · simp only [fX2_ofTwo_l1, g1, g4, v1, hl, c1, c2, c3, ↓reduceIte, Option.bind_some, or_self, or_false, false_or, or_true, true_or, and_true, true_and, and_false, false_and, not_true_eq_false, not_false_eq_true]; exact e1
          · simp only [fX12_two_l1, g1, g4, v2, k5, ec, c1, c2, c3, ↓reduceIte, Option.bind_some, or_self, or_false, false_or, or_true, true_or, and_true, true_and, and_false, false_and, not_true_eq_false, not_false_eq_true]; exact e2
        · obtain ⟨u, e1, e2⟩ := ih k 1000 (pz_vo (mo.1.2 5) Q (nI k) / 2) (by omega) (by omega)
          refine ⟨u, ?_, ?_⟩
          · simp only [fX2_ofTwo_l1, g1, g4, v1, hl, c1, c2, ↓reduceIte, Option.bind_some, or_self, or_false, false_or, or_true, true_or, and_true, true_and, and_false, false_and, not_true_eq_false, not_false_eq_true]; exact e1
          · simp only [fX12_two_l1, g1, g4, v2, k5, ec, c1, c2, ↓reduceIte, Option.bind_some, or_self, or_false, false_or, or_true, true_or, and_true, true_and, and_false, false_and, not_true_eq_false, not_false_eq_true]; exact e2
      · obtain ⟨u, e1, e2⟩ := ih k 0 (v * (1000 - mo.1.2 5 5) / 1000) (by omega) (by omega)
        refine ⟨u, ?_, ?_⟩
        · simp only [fX2_ofTwo_l1, g1, g4, v1, hl, c1, ↓reduceIte, Option.bind_some, or_self, or_false, false_or, or_true, true_or, and_true, true_and, and_false, false_and, not_true_eq_false, not_false_eq_true]; exact e1
        · simp only [fX12_two_l1, g1, g4, v2, k5, c1, ↓reduceIte, Option.bind_some, or_self, or_false, false_or, or_true, true_or, and_true, true_and, and_false, false_and, not_true_eq_false, not_false_eq_true]; exact e2
    · have g1 : nI k - 1 < nI j := by
        rw [Int32.lt_iff_toInt_lt, show (1 : Int32) = nI 1 from rfl, pk_sub_toInt (by omega) (by omega), nI_toInt (by omega)]
        omega
      exact ⟨(c, v), by simp only [fX2_ofTwo_l1, g1, ↓reduceIte, Option.bind_some, or_self, or_false, false_or, or_true, true_or, and_true, true_and, and_false, false_and, not_true_eq_false, not_false_eq_true], by simp only [fX12_two_l1, g1, ↓reduceIte, Option.bind_some, or_self, or_false, false_or, or_true, true_or, and_true, true_and, and_false, false_and, not_true_eq_false, not_false_eq_true]⟩
set_option maxHeartbeats 4000000 in
set_option maxRecDepth 100000 in
theorem ps_two {N : Nat} (hN : 200000 ≤ N) : zStep_two N pz_Inv := by
  intro KL kc on rw rd ft tr la mo hI x1 x2 x3
  rcases pz_nows N (mo := zMi mo 0 0) hI.2.2.2.2.2.1 with ⟨h7, -, -, -, -, ht⟩ | ⟨h7, ht, K, P, Q, T, hA, hH, hL, hl, -⟩
  · have h7 : mo.1.1 7 = 0 := h7
    simp only [fX11_two, fX12_two, h7, ht, ↓reduceIte, Option.bind_some, or_self, or_false, false_or, or_true, true_or, and_true, true_and, and_false, false_and, not_true_eq_false, not_false_eq_true, pz_10, pz_01, eq_self]
    exact ⟨_, _, rfl, rfl, rfl, pz_ro 0 _ hI⟩
  have h7 : mo.1.1 7 = 1 := h7
  have hT := (pz_A_n hA).1
  have hA1 : mo.1.2 5 1 = nI T := (pz_A_n hA).2.2.2.2.1
  have hl1 : (la on.2.1).1.1 1 = nI T := hL.2.2.2.1.trans hA1
  have k1 : (1 : Int32).toNatClampNeg = 1 := rfl
  rcases pz_wiN N x1 0 (nI T) 0 T with h1 | ⟨h1, j, -, hj, rfl⟩
  · simp only [fX11_two, fX12_two, h7, ht, k1, hA1, hl1, pz_in_0, h1, ↓reduceIte, Option.bind_some, or_self, or_false, false_or, or_true, true_or, and_true, true_and, and_false, false_and, not_true_eq_false, not_false_eq_true, pz_10, pz_01, eq_self]
    exact ⟨_, _, rfl, rfl, rfl, pz_ro 0 _ hI⟩
  rcases pz_wi N x2 0 100 with h2 | ⟨h2, -⟩
  · simp only [fX11_two, fX12_two, h7, ht, k1, hA1, hl1, pz_in_0, h1, pz_in_0_100, h2, ↓reduceIte, Option.bind_some, or_self, or_false, false_or, or_true, true_or, and_true, true_and, and_false, false_and, not_true_eq_false, not_false_eq_true, pz_10, pz_01, eq_self]
    exact ⟨_, _, rfl, rfl, rfl, pz_ro 0 _ hI⟩
  rcases pz_wi N x3 0 1 with h3 | ⟨h3, -⟩
  · simp only [fX11_two, fX12_two, h7, ht, k1, hA1, hl1, pz_in_0, h1, pz_in_0_100, h2, pz_in_0_1, h3, ↓reduceIte, Option.bind_some, or_self, or_false, false_or, or_true, true_or, and_true, true_and, and_false, false_and, not_true_eq_false, not_false_eq_true, pz_10, pz_01, eq_self]
    exact ⟨_, _, rfl, rfl, rfl, pz_ro 0 _ hI⟩
  obtain ⟨v1, v2⟩ := pz_value N hN hA hL (nI T)
  obtain ⟨u, e1, e2⟩ := pz_two N hN hA hL hl x2 x3 hj N T 1000 (pz_vo ((zMi mo 0 0).1.2 5) Q (nI T) / 2) (by omega) (by omega)
  by_cases c : x3 = 0
  · simp only [fX11_two, fX12_two, fX2_ofTwo, h7, ht, k1, hA1, hl1, pz_in_0, h1, pz_in_0_100, h2, pz_in_0_1, h3, v1, v2, e1, e2, ↓reduceIte, Option.bind_some, or_self, or_false, false_or, or_true, true_or, and_true, true_and, and_false, false_and, not_true_eq_false, not_false_eq_true, pz_10, pz_01, eq_self]
    rw [if_pos c, if_pos c]
    exact ⟨_, _, rfl, rfl, rfl, pz_ro 0 _ hI⟩
  · simp only [fX11_two, fX12_two, fX2_ofTwo, h7, ht, k1, hA1, hl1, pz_in_0, h1, pz_in_0_100, h2, pz_in_0_1, h3, v1, v2, e1, e2, ↓reduceIte, Option.bind_some, or_self, or_false, false_or, or_true, true_or, and_true, true_and, and_false, false_and, not_true_eq_false, not_false_eq_true, pz_10, pz_01, eq_self]
    rw [if_neg c, if_neg c]
    exact ⟨_, _, rfl, rfl, rfl, pz_ro 0 _ hI⟩
theorem pz_Mi4 (mo : zMS) (u v u' v' : Int32) : zMi (zMi (zMi (zMi mo 21 u) 20 v) 21 u') 20 v' = zMi (zMi mo 21 u') 20 v' := by
  show ((upd (upd (upd (upd mo.1.1 21 u) 20 v) 21 u') 20 v', mo.1.2), mo.2) = ((upd (upd mo.1.1 21 u') 20 v', mo.1.2), mo.2)
  have : upd (upd (upd (upd mo.1.1 21 u) 20 v) 21 u') 20 v' = upd (upd mo.1.1 21 u') 20 v' := by
    funext j
    unfold upd
    by_cases c : j = 20
    · rw [if_pos c, if_pos c]
    · rw [if_neg c, if_neg c, if_neg c]
      by_cases d : j = 21
      · rw [if_pos d, if_pos d]
      · rw [if_neg d, if_neg d, if_neg d]
  rw [this]
theorem pz_Mi2 (mo : zMS) : zMi (zMi mo 21 (mo.1.1 21)) 20 (mo.1.1 20) = mo := by
  show ((upd (upd mo.1.1 21 (mo.1.1 21)) 20 (mo.1.1 20), mo.1.2), mo.2) = mo
  rw [pz_upd, pz_upd]
set_option maxHeartbeats 4000000 in
set_option maxRecDepth 100000 in
theorem pz_gone (N : Nat) {L : zLS} {mo : zMS} (hl : L.1.1 3 = mo.1.2 5 5) (y : Int32) {c : Nat} (hc : c ≤ 9) : ∀ n k v, k ≤ c → c - k < n → ∃ g, fX2_keptOf_l1 N (L.1.1 3) (nI c) n v (nI k) = some g ∧ fX12_layAlone_l1 N mo y (nI c) n v (nI k) = some g := by
  have k5 : (5 : Int32).toNatClampNeg = 5 := rfl
  intro n
  induction n with
  | zero => intro k v h1 h2; omega
  | succ n ih =>
    intro k v h1 h2
    rcases Nat.lt_or_ge k c with h3 | h3
    · have g1 : ¬ nI c ≤ nI k := nI_ge h3 (by omega)
      obtain ⟨g, e1, e2⟩ := ih (k + 1) (v * mo.1.2 5 5 / 1000) (by omega) (by omega)
      refine ⟨g, ?_, ?_⟩
      · rw [hl] at e1 ⊢
        simp only [fX2_keptOf_l1, g1, nI_1, ↓reduceIte, Option.bind_some, or_self, or_false, false_or, or_true, true_or, and_true, true_and, and_false, false_and, not_true_eq_false, not_false_eq_true]; exact e1
      · simp only [fX12_layAlone_l1, k5, g1, nI_1, ↓reduceIte, Option.bind_some, or_self, or_false, false_or, or_true, true_or, and_true, true_and, and_false, false_and, not_true_eq_false, not_false_eq_true]; exact e2
    · have e : k = c := by omega
      subst e
      have g1 : nI k ≤ nI k := Int32.le_refl _
      exact ⟨v, by simp only [fX2_keptOf_l1, g1, ↓reduceIte, Option.bind_some, or_self, or_false, false_or, or_true, true_or, and_true, true_and, and_false, false_and, not_true_eq_false, not_false_eq_true], by simp only [fX12_layAlone_l1, g1, ↓reduceIte, Option.bind_some, or_self, or_false, false_or, or_true, true_or, and_true, true_and, and_false, false_and, not_true_eq_false, not_false_eq_true]⟩
set_option maxHeartbeats 4000000 in
set_option maxRecDepth 100000 in
theorem pz_lay (N : Nat) (hN : 200000 ≤ N) {KL : List Nat} {kc : Nat → zKC} {L : zLS} {A H : Nat → Int32} {K P Q T : Nat} (h : pz_A A K P Q T) (hL : pz_L KL kc L A H K P Q) (hl : L.1.1 3 = A 5) (c g : Int32) (hk : fX2_keptOf N (A 5) c = some (1000 - g)) {j : Nat} (hj : j ≤ T) : ∀ n k mo v w, k ≤ T → k - j < n → mo.1.2 5 = A → mo.1.1 20 = v → mo.1.1 21 = w → ∃ v' w', fX2_valueAlone_l1 N L (nI j) c n v (nI k - 1) = some v' ∧ fX2_whenAlone_l1 N L (nI j) c n w v (nI k - 1) = some w' ∧ fX12_layAlone_l2 N (nI j) c g n (nI k - 1) mo = some (zMi (zMi mo 21 w') 20 v') := by
  have hT := (pz_A_n h).1
  have l7 : L.1.1 5 = A 7 := hL.2.2.2.2.2.2.1
  have k7 : (7 : Int32).toNatClampNeg = 7 := rfl
  intro n
  induction n with
  | zero => intro k mo v w h1 h2; omega
  | succ n ih =>
    intro k mo v w h1 h2 hm h20 h21
    rcases Nat.lt_or_ge j k with h3 | h3
    · obtain ⟨k, rfl⟩ : ∃ i, k = i + 1 := ⟨k - 1, by omega⟩
      rw [nI_pred]
      have g1 : ¬ nI k < nI j := nI_nlt (by omega) (by omega)
      have g4 : nI k + (-1 : Int32) = nI k - 1 := (Int32.sub_eq_add_neg _ _).symm
      obtain ⟨v1, v2⟩ := pz_val2 N hN hm h hL (nI k)
      obtain ⟨-, v3⟩ := pz_val2 N hN (mo := zMi mo 21 (nI k)) hm h hL (nI k)
      have ew : fX2_waitingAlone N L v c = some (v * (1000 - g) / 1000 - A 7 * (c - 1)) := by
        simp only [fX2_waitingAlone, hl, l7, hk, ↓reduceIte, Option.bind_some, or_self, or_false, false_or, or_true, true_or, and_true, true_and, and_false, false_and, not_true_eq_false, not_false_eq_true]
      by_cases c1 : pz_vo A Q (nI k) < v * (1000 - g) / 1000 - A 7 * (c - 1)
      · obtain ⟨v', w', e1, e2, e3⟩ := ih k (zMi (zMi mo 21 w) 20 (v * (1000 - g) / 1000 - A 7 * (c - 1))) (v * (1000 - g) / 1000 - A 7 * (c - 1)) w (by omega) (by omega) hm rfl rfl
        refine ⟨v', w', ?_, ?_, ?_⟩
        · simp only [fX2_valueAlone_l1, g1, g4, v1, ew, c1, ↓reduceIte, Option.bind_some, or_self, or_false, false_or, or_true, true_or, and_true, true_and, and_false, false_and, not_true_eq_false, not_false_eq_true]; exact e1
        · simp only [fX2_whenAlone_l1, g1, g4, v1, ew, c1, ↓reduceIte, Option.bind_some, or_self, or_false, false_or, or_true, true_or, and_true, true_and, and_false, false_and, not_true_eq_false, not_false_eq_true]; exact e2
        · simp only [fX12_layAlone_l2, g1, g4, v2, k7, hm, h20, h21, c1, ↓reduceIte, Option.bind_some, or_self, or_false, false_or, or_true, true_or, and_true, true_and, and_false, false_and, not_true_eq_false, not_false_eq_true]
          rw [e3, pz_Mi4]
      · obtain ⟨v', w', e1, e2, e3⟩ := ih k (zMi (zMi mo 21 (nI k)) 20 (pz_vo A Q (nI k))) (pz_vo A Q (nI k)) (nI k) (by omega) (by omega) hm rfl rfl
        refine ⟨v', w', ?_, ?_, ?_⟩
        · simp only [fX2_valueAlone_l1, g1, g4, v1, ew, c1, ↓reduceIte, Option.bind_some, or_self, or_false, false_or, or_true, true_or, and_true, true_and, and_false, false_and, not_true_eq_false, not_false_eq_true]; exact e1
        · simp only [fX2_whenAlone_l1, g1, g4, v1, ew, c1, ↓reduceIte, Option.bind_some, or_self, or_false, false_or, or_true, true_or, and_true, true_and, and_false, false_and, not_true_eq_false, not_false_eq_true]; exact e2
        · simp only [fX12_layAlone_l2, g1, g4, v2, v3, k7, hm, h20, h21, c1, ↓reduceIte, Option.bind_some, or_self, or_false, false_or, or_true, true_or, and_true, true_and, and_false, false_and, not_true_eq_false, not_false_eq_true]
          rw [e3, pz_Mi4]
    · have g1 : nI k - 1 < nI j := by
        rw [Int32.lt_iff_toInt_lt, show (1 : Int32) = nI 1 from rfl, pk_sub_toInt (by omega) (by omega), nI_toInt (by omega)]
        omega
      refine ⟨v, w, by simp only [fX2_valueAlone_l1, g1, ↓reduceIte, Option.bind_some, or_self, or_false, false_or, or_true, true_or, and_true, true_and, and_false, false_and, not_true_eq_false, not_false_eq_true], by simp only [fX2_whenAlone_l1, g1, ↓reduceIte, Option.bind_some, or_self, or_false, false_or, or_true, true_or, and_true, true_and, and_false, false_and, not_true_eq_false, not_false_eq_true], ?_⟩
      simp only [fX12_layAlone_l2, g1, ↓reduceIte, Option.bind_some, or_self, or_false, false_or, or_true, true_or, and_true, true_and, and_false, false_and, not_true_eq_false, not_false_eq_true]
      rw [← h20, ← h21, pz_Mi2]
set_option maxHeartbeats 4000000 in
set_option maxRecDepth 100000 in
theorem pz_layA (N : Nat) (hN : 200000 ≤ N) {KL : List Nat} {kc : Nat → zKC} {L : zLS} {H : Nat → Int32} {mo : zMS} {K P Q T : Nat} (h : pz_A (mo.1.2 5) K P Q T) (hL : pz_L KL kc L (mo.1.2 5) H K P Q) (hl : L.1.1 3 = mo.1.2 5 5) {c j : Nat} (hc : c ≤ 9) (hj : j ≤ T) : ∃ v w, fX2_valueAlone N L (nI j) (nI c) = some v ∧ fX2_whenAlone N L (nI j) (nI c) = some w ∧ fX12_layAlone N mo (nI j) (nI c) = some (zMi (zMi mo 21 w) 20 v) := by
  have hA1 : mo.1.2 5 1 = nI T := (pz_A_n h).2.2.2.2.1
  have hT := (pz_A_n h).1
  have hl1 : L.1.1 1 = nI T := hL.2.2.2.1.trans hA1
  have k1 : (1 : Int32).toNatClampNeg = 1 := rfl
  obtain ⟨g, e1, e2⟩ := pz_gone N (mo := mo) hl (nI j) hc N 0 1000 (by omega) (by omega)
  rw [show nI 0 = (0 : Int32) from rfl] at e1 e2
  have hk : fX2_keptOf N (mo.1.2 5 5) (nI c) = some (1000 - g) := by
    rw [hl] at e1
    unfold fX2_keptOf
    rw [e1]; rfl
  obtain ⟨v1, v2⟩ := pz_value N hN h hL (nI T)
  obtain ⟨v', w', f1, f2, f3⟩ := pz_lay N hN h hL hl (nI c) g hk hj N T (zMi (zMi mo 20 (pz_vo (mo.1.2 5) Q (nI T))) 21 (nI T)) (pz_vo (mo.1.2 5) Q (nI T)) (nI T) (by omega) (by omega) rfl rfl rfl
  refine ⟨v', w', ?_, ?_, ?_⟩
  · simp only [fX2_valueAlone, hl1, v1, f1, ↓reduceIte, Option.bind_some, or_self, or_false, false_or, or_true, true_or, and_true, true_and, and_false, false_and, not_true_eq_false, not_false_eq_true]
  · simp only [fX2_whenAlone, hl1, v1, f2, ↓reduceIte, Option.bind_some, or_self, or_false, false_or, or_true, true_or, and_true, true_and, and_false, false_and, not_true_eq_false, not_false_eq_true]
  · simp only [fX12_layAlone, e2, k1, hA1, v2, f3, ↓reduceIte, Option.bind_some, or_self, or_false, false_or, or_true, true_or, and_true, true_and, and_false, false_and, not_true_eq_false, not_false_eq_true]
    congr 1
    show ((upd (upd (upd (upd mo.1.1 20 _) 21 _) 21 w') 20 v', mo.1.2), mo.2) = ((upd (upd mo.1.1 21 w') 20 v', mo.1.2), mo.2)
    rw [pz_upd2]
    have : upd (upd (upd mo.1.1 20 (pz_vo (mo.1.2 5) Q (nI T))) 21 w') 20 v' = upd (upd mo.1.1 21 w') 20 v' := by
      funext i
      unfold upd
      by_cases c : i = 20
      · rw [if_pos c, if_pos c]
      · rw [if_neg c, if_neg c, if_neg c]
    rw [this]
set_option maxHeartbeats 4000000 in
set_option maxRecDepth 100000 in
theorem ps_alone {N : Nat} (hN : 200000 ≤ N) : zStep_alone N pz_Inv := by
  intro KL kc on rw rd ft tr la mo hI x1 x2 x3
  rcases pz_nows N (mo := zMi mo 0 0) hI.2.2.2.2.2.1 with ⟨h7, -, -, -, -, ht⟩ | ⟨h7, ht, K, P, Q, T, hA, hH, hL, hl, -⟩
  · have h7 : mo.1.1 7 = 0 := h7
    simp only [fX11_alone, fX12_alone, h7, ht, ↓reduceIte, Option.bind_some, or_self, or_false, false_or, or_true, true_or, and_true, true_and, and_false, false_and, not_true_eq_false, not_false_eq_true, pz_10, pz_01, eq_self]
    exact ⟨_, _, rfl, rfl, rfl, pz_ro 0 _ hI⟩
  have h7 : mo.1.1 7 = 1 := h7
  have hT := (pz_A_n hA).1
  have hA1 : mo.1.2 5 1 = nI T := (pz_A_n hA).2.2.2.2.1
  have hl1 : (la on.2.1).1.1 1 = nI T := hL.2.2.2.1.trans hA1
  have k1 : (1 : Int32).toNatClampNeg = 1 := rfl
  rcases pz_wiN N x1 0 (nI T) 0 T with h1 | ⟨h1, j, -, hj, rfl⟩
  · simp only [fX11_alone, fX12_alone, h7, ht, k1, hA1, hl1, pz_in_0, h1, ↓reduceIte, Option.bind_some, or_self, or_false, false_or, or_true, true_or, and_true, true_and, and_false, false_and, not_true_eq_false, not_false_eq_true, pz_10, pz_01, eq_self]
    exact ⟨_, _, rfl, rfl, rfl, pz_ro 0 _ hI⟩
  rcases pz_wiN N x2 1 9 1 9 with h2 | ⟨h2, c, -, hc, rfl⟩
  · simp only [fX11_alone, fX12_alone, h7, ht, k1, hA1, hl1, pz_in_0, h1, pz_in_1_9, h2, ↓reduceIte, Option.bind_some, or_self, or_false, false_or, or_true, true_or, and_true, true_and, and_false, false_and, not_true_eq_false, not_false_eq_true, pz_10, pz_01, eq_self]
    exact ⟨_, _, rfl, rfl, rfl, pz_ro 0 _ hI⟩
  rcases pz_wi N x3 0 1 with h3 | ⟨h3, -⟩
  · simp only [fX11_alone, fX12_alone, h7, ht, k1, hA1, hl1, pz_in_0, h1, pz_in_1_9, h2, pz_in_0_1, h3, ↓reduceIte, Option.bind_some, or_self, or_false, false_or, or_true, true_or, and_true, true_and, and_false, false_and, not_true_eq_false, not_false_eq_true, pz_10, pz_01, eq_self]
    exact ⟨_, _, rfl, rfl, rfl, pz_ro 0 _ hI⟩
  obtain ⟨v, w, e1, e2, e3⟩ := pz_layA N hN hA hL hl hc hj
  have fin : pz_Inv KL kc on rw rd ft tr (va_up la on.2.1 (la on.2.1)) (zMi (zMi (zMi mo 0 0) 21 w) 20 v) := by
    rw [pz_upA]
    exact hI
  by_cases c : x3 = 0
  · simp only [fX11_alone, fX12_alone, h7, ht, k1, hA1, hl1, pz_in_0, h1, pz_in_1_9, h2, pz_in_0_1, h3, e1, e2, e3, ↓reduceIte, Option.bind_some, or_self, or_false, false_or, or_true, true_or, and_true, true_and, and_false, false_and, not_true_eq_false, not_false_eq_true, pz_10, pz_01, eq_self]
    rw [if_pos c, if_pos c]
    exact ⟨_, _, rfl, rfl, rfl, fin⟩
  · simp only [fX11_alone, fX12_alone, h7, ht, k1, hA1, hl1, pz_in_0, h1, pz_in_1_9, h2, pz_in_0_1, h3, e1, e2, e3, ↓reduceIte, Option.bind_some, or_self, or_false, false_or, or_true, true_or, and_true, true_and, and_false, false_and, not_true_eq_false, not_false_eq_true, pz_10, pz_01, eq_self]
    rw [if_neg c, if_neg c]
    exact ⟨_, _, rfl, rfl, rfl, fin⟩
set_option maxHeartbeats 4000000 in
set_option maxRecDepth 100000 in
theorem pz_best (N : Nat) (hN : 200000 ≤ N) {KL : List Nat} {kc : Nat → zKC} {L : zLS} {A H : Nat → Int32} {K P Q T : Nat} (h : pz_A A K P Q T) (hL : pz_L KL kc L A H K P Q) (hl : L.1.1 3 = A 5) {j : Nat} (hj : j ≤ T) : ∀ n k (mo : zMS) (b m : Int32), k ≤ 10 → 10 - k < n → mo.1.2 5 = A → ¬ b = 0 → ¬ k = 0 → ∃ u v w, fX2_bestCopies_l1 N L (nI j) n b m (nI k) = some u ∧ fX12_best_l1 N (nI j) n b m (nI k) mo = some (u, zMi (zMi mo 21 w) 20 v) := by
  intro n
  induction n with
  | zero => intro k mo b m h1 h2; omega
  | succ n ih =>
    intro k mo b m h1 h2 hm hb hk
    rcases Nat.lt_or_ge k 10 with h3 | h3
    · have g1 : ¬ (10 : Int32) ≤ nI k := nI_ge (b := 10) h3 (by omega)
      have g2 : ¬ (9 : Int32) < nI k := nI_nlt (a := 9) (by omega) (by omega)
      subst hm
      obtain ⟨v, w, e1, e2, e3⟩ := pz_layA N hN h hL hl (c := k) (by omega) hj
      have kb : ¬ nI k = 0 := nI_ne0 (by omega) (by omega)
      have k20 : (zMi (zMi mo 21 w) 20 v).1.1 20 = v := rfl
      by_cases c : v ≤ m
      · obtain ⟨u, v', w', f1, f2⟩ := ih (k + 1) (zMi (zMi mo 21 w) 20 v) b m (by omega) (by omega) rfl hb (by omega)
        refine ⟨u, v', w', ?_, ?_⟩
        · simp only [fX2_bestCopies_l1, g2, e1, c, nI_1, ↓reduceIte, Option.bind_some, or_self, or_false, false_or, or_true, true_or, and_true, true_and, and_false, false_and, not_true_eq_false, not_false_eq_true]; exact f1
        · simp only [fX12_best_l1, g1, e3, k20, hb, c, nI_1, ↓reduceIte, Option.bind_some, or_self, or_false, false_or, or_true, true_or, and_true, true_and, and_false, false_and, not_true_eq_false, not_false_eq_true]
          rw [f2, pz_Mi4]
      · obtain ⟨u, v', w', f1, f2⟩ := ih (k + 1) (zMi (zMi mo 21 w) 20 v) (nI k) v (by omega) (by omega) rfl kb (by omega)
        refine ⟨u, v', w', ?_, ?_⟩
        · simp only [fX2_bestCopies_l1, g2, e1, c, nI_1, ↓reduceIte, Option.bind_some, or_self, or_false, false_or, or_true, true_or, and_true, true_and, and_false, false_and, not_true_eq_false, not_false_eq_true]; exact f1
        · simp only [fX12_best_l1, g1, e3, k20, hb, c, nI_1, ↓reduceIte, Option.bind_some, or_self, or_false, false_or, or_true, true_or, and_true, true_and, and_false, false_and, not_true_eq_false, not_false_eq_true]
          rw [f2, pz_Mi4]
    · have e : k = 10 := by omega
      subst e
      refine ⟨b, mo.1.1 20, mo.1.1 21, ?_, ?_⟩
      · rfl
      · rw [pz_Mi2]; rfl
set_option maxHeartbeats 4000000 in
set_option maxRecDepth 100000 in
theorem ps_best {N : Nat} (hN : 200000 ≤ N) : zStep_best N pz_Inv := by
  intro KL kc on rw rd ft tr la mo hI x1
  rcases pz_nows N (mo := zMi mo 0 0) hI.2.2.2.2.2.1 with ⟨h7, -, -, -, -, ht⟩ | ⟨h7, ht, K, P, Q, T, hA, hH, hL, hl, -⟩
  · have h7 : mo.1.1 7 = 0 := h7
    simp only [fX11_best, fX12_best, h7, ht, ↓reduceIte, Option.bind_some, or_self, or_false, false_or, or_true, true_or, and_true, true_and, and_false, false_and, not_true_eq_false, not_false_eq_true, pz_10, pz_01, eq_self]
    exact ⟨_, _, rfl, rfl, rfl, pz_ro 0 _ hI⟩
  have h7 : mo.1.1 7 = 1 := h7
  have hT := (pz_A_n hA).1
  have hA1 : mo.1.2 5 1 = nI T := (pz_A_n hA).2.2.2.2.1
  have hl1 : (la on.2.1).1.1 1 = nI T := hL.2.2.2.1.trans hA1
  have k1 : (1 : Int32).toNatClampNeg = 1 := rfl
  rcases pz_wiN N x1 0 (nI T) 0 T with h1 | ⟨h1, j, -, hj, rfl⟩
  · simp only [fX11_best, fX12_best, h7, ht, k1, hA1, hl1, pz_in_0, h1, ↓reduceIte, Option.bind_some, or_self, or_false, false_or, or_true, true_or, and_true, true_and, and_false, false_and, not_true_eq_false, not_false_eq_true, pz_10, pz_01, eq_self]
    exact ⟨_, _, rfl, rfl, rfl, pz_ro 0 _ hI⟩
  obtain ⟨M, rfl⟩ : ∃ M, N = M + 1 := ⟨N - 1, by omega⟩
  obtain ⟨v, w, e1, e2, e3⟩ := pz_layA (M + 1) hN hA hL hl (c := 1) (by omega) hj
  obtain ⟨u, v', w', f1, f2⟩ := pz_best (M + 1) hN hA hL hl hj M 2 (zMi (zMi (zMi mo 0 0) 21 w) 20 v) 1 v (by omega) (by omega) rfl (by decide) (by omega)
  obtain ⟨u3, v3, w3, f3, f4⟩ := pz_best (M + 1) hN hA hL hl hj (M + 1) 2 (zMi (zMi (zMi mo 0 0) 21 w) 20 v) 1 v (by omega) (by omega) rfl (by decide) (by omega)
  have mono : u3 = u := by
    have : ∀ n k b m u, fX2_bestCopies_l1 (M + 1) (la on.2.1) (nI j) n b m k = some u → fX2_bestCopies_l1 (M + 1) (la on.2.1) (nI j) (n + 1) b m k = some u := by
      intro n
      induction n with
      | zero => intro k b m u h; exact absurd h (by simp [fX2_bestCopies_l1])
      | succ n ih =>
        intro k b m u h
        rw [fX2_bestCopies_l1] at h ⊢
        split
        · next c => rw [if_pos c] at h; exact h
        · next c =>
          rw [if_neg c] at h
          obtain ⟨a, ha, h⟩ := zbd h
          rw [ha, Option.bind_some]
          split
          · next d => rw [if_pos d] at h; exact ih _ _ _ _ h
          · next d => rw [if_neg d] at h; exact ih _ _ _ _ h
    have := this _ _ _ _ _ f1
    rw [f3] at this
    exact Option.some.inj this
  subst mono
  have eb : fX12_best_l1 (M + 1) (nI j) (M + 1) 0 0 1 (zMi mo 0 0) = some (u3, zMi (zMi (zMi mo 0 0) 21 w') 20 v') := by
    rw [fX12_best_l1, if_neg (by decide)]
    rw [show (1 : Int32) = nI 1 from rfl, e3, Option.bind_some, if_pos rfl, nI_add]
    have := f2
    rw [pz_Mi4] at this
    exact this
  have fin : pz_Inv KL kc on rw rd ft tr (va_up la on.2.1 (la on.2.1)) (zMi (zMi (zMi mo 0 0) 21 w') 20 v') := by
    rw [pz_upA]
    exact hI
  rw [show nI 1 = (1 : Int32) from rfl] at e1
  rw [show nI 2 = (2 : Int32) from rfl] at f3
  simp only [fX11_best, fX12_best, fX2_bestCopies, h7, ht, k1, hA1, hl1, pz_in_0, h1, e1, f3, eb, ↓reduceIte, Option.bind_some, or_self, or_false, false_or, or_true, true_or, and_true, true_and, and_false, false_and, not_true_eq_false, not_false_eq_true, pz_10, pz_01, eq_self]
  exact ⟨_, _, rfl, rfl, rfl, fin⟩
