/-! THE PURE LAYER: a land taken from another one, images -/
def pz_same (L T : zLS) : Prop := (∀ j, j < 9 → L.1.1 j = T.1.1 j) ∧ (∀ a i, (a = 9 ∨ a = 10 ∨ a = 12 ∨ a = 13 ∨ a = 17 ∨ a = 18) → i < 8 → L.1.2 a i = T.1.2 a i) ∧ (∀ i, i < 48 → L.1.2 14 i = T.1.2 14 i) ∧ (∀ a i, (a = 15 ∨ a = 16) → i < 6 → L.1.2 a i = T.1.2 a i) ∧ ∀ k, k < 6 → L.2 k = T.2 k
set_option maxHeartbeats 4000000 in
set_option maxRecDepth 100000 in
theorem pz_tkL (N : Nat) {KL : List Nat} {kc : Nat → zKC} {T : zLS} (hT : pz_who KL kc T) : ∀ n k L, k ≤ 6 → 6 - k < n → ∃ g, fX4_takeFrom_l1 N KL kc T n (nI k) L = some (zLw L g) ∧ (∀ i, k ≤ i → i < 6 → g i = T.2 i) ∧ (∀ i, i < k → g i = L.2 i) := by
  intro n
  induction n with
  | zero => intro k L h1 h2; omega
  | succ n ih =>
    intro k L h1 h2
    rcases Nat.lt_or_ge k 6 with h3 | h3
    · have g1 : ¬ (6 : Int32) ≤ nI k := nI_ge (b := 6) h3 (by omega)
      have g2 : ¬ nI k < 0 := nI_pos (by omega)
      have g3 : ¬ 6 ≤ k := by omega
      have cl := nI_clamp (show k < 2 ^ 31 by omega)
      obtain ⟨g, e1, e2, e3⟩ := ih (k + 1) (zLw L (va_up L.2 k (T.2 k))) (by omega) (by omega)
      refine ⟨g, ?_, ?_, ?_⟩
      · rw [fX4_takeFrom_l1, if_neg g1, cl, if_neg (show ¬ (nI k < 0 ∨ 6 ≤ k) from fun h => h.elim g2 g3)]
        cases c : T.2 k with
        | none =>
          rw [c] at e1
          simp only [g2, g3, nI_1, ↓reduceIte, Option.bind_some, or_self, or_false, false_or, or_true, true_or, and_true, true_and, and_false, false_and, not_true_eq_false, not_false_eq_true]
          exact e1
        | some a =>
          rw [c] at e1
          have hz : (¬ zkd KL kc a) = False := eq_false (fun h => h (hT k a h3 c))
          simp only [hz, g2, g3, nI_1, ↓reduceIte, Option.bind_some, or_self, or_false, false_or, or_true, true_or, and_true, true_and, and_false, false_and, not_true_eq_false, not_false_eq_true]
          exact e1
      · intro i hi h6
        rcases Nat.eq_or_lt_of_le hi with h | h
        · subst h
          rw [e3 k (by omega)]
          exact va_up_self _ _ _
        · exact e2 i h h6
      · intro i hi
        rw [e3 i (by omega)]
        exact va_up_ne _ _ (by omega)
    · have e : k = 6 := by omega
      subst e
      exact ⟨L.2, rfl, fun i h1 h2 => by omega, fun i _ => rfl⟩
theorem pz_cpy0' (f g : Nat → Int32) {i n : Nat} (h : i < n) : va_cpy f g 0 0 n i = f i := by
  unfold va_cpy
  rw [if_pos ⟨Nat.zero_le _, by omega⟩, Nat.zero_add, Nat.sub_zero]
set_option maxHeartbeats 4000000 in
set_option maxRecDepth 100000 in
theorem pz_take (N : Nat) (hN : 200000 ≤ N) {KL : List Nat} {kc : Nat → zKC} {L T : zLS} (hT : pz_who KL kc T) : ∃ L', fX4_takeFrom N KL kc L T = some L' ∧ pz_same L' T := by
  unfold fX4_takeFrom
  obtain ⟨g, e1, e2, -⟩ := pz_tkL N hT N 0 (zLA (zLA (zLA (zLA (zLA (zLA (zLA (zLA (zLA (zLi (zLi (zLi (zLi (zLi (zLi (zLi (zLi (zLi L 0 (T.1.1 0)) 1 (T.1.1 1)) 2 (T.1.1 2)) 3 (T.1.1 3)) 4 (T.1.1 4)) 5 (T.1.1 5)) 6 (T.1.1 6)) 7 (T.1.1 7)) 8 (T.1.1 8)) 9 (va_cpy (T.1.2 9) (L.1.2 9) ((0 : Int32).toNatClampNeg) ((0 : Int32).toNatClampNeg) ((8 : Int32).toNatClampNeg))) 10 (va_cpy (T.1.2 10) (L.1.2 10) ((0 : Int32).toNatClampNeg) ((0 : Int32).toNatClampNeg) ((8 : Int32).toNatClampNeg))) 12 (va_cpy (T.1.2 12) (L.1.2 12) ((0 : Int32).toNatClampNeg) ((0 : Int32).toNatClampNeg) ((8 : Int32).toNatClampNeg))) 13 (va_cpy (T.1.2 13) (L.1.2 13) ((0 : Int32).toNatClampNeg) ((0 : Int32).toNatClampNeg) ((8 : Int32).toNatClampNeg))) 14 (va_cpy (T.1.2 14) (L.1.2 14) ((0 : Int32).toNatClampNeg) ((0 : Int32).toNatClampNeg) ((48 : Int32).toNatClampNeg))) 15 (va_cpy (T.1.2 15) (L.1.2 15) ((0 : Int32).toNatClampNeg) ((0 : Int32).toNatClampNeg) ((6 : Int32).toNatClampNeg))) 16 (va_cpy (T.1.2 16) (L.1.2 16) ((0 : Int32).toNatClampNeg) ((0 : Int32).toNatClampNeg) ((6 : Int32).toNatClampNeg))) 17 (va_cpy (T.1.2 17) (L.1.2 17) ((0 : Int32).toNatClampNeg) ((0 : Int32).toNatClampNeg) ((8 : Int32).toNatClampNeg))) 18 (va_cpy (T.1.2 18) (L.1.2 18) ((0 : Int32).toNatClampNeg) ((0 : Int32).toNatClampNeg) ((8 : Int32).toNatClampNeg))) (by omega) (by omega)
  rw [show nI 0 = (0 : Int32) from rfl] at e1
  rw [e1, Option.bind_some]
  refine ⟨_, rfl, ?_, ?_, ?_, ?_, fun k hk => e2 k (by omega) hk⟩
  · intro j hj
    rcases (show j = 0 ∨ j = 1 ∨ j = 2 ∨ j = 3 ∨ j = 4 ∨ j = 5 ∨ j = 6 ∨ j = 7 ∨ j = 8 by omega) with rfl | rfl | rfl | rfl | rfl | rfl | rfl | rfl | rfl <;> rfl
  · intro a i ha hi
    rcases ha with rfl | rfl | rfl | rfl | rfl | rfl <;> exact pz_cpy0' _ _ hi
  · intro i hi
    exact pz_cpy0' _ _ hi
  · intro a i ha hi
    rcases ha with rfl | rfl <;> exact pz_cpy0' _ _ hi
theorem pz_who_s {KL : List Nat} {kc : Nat → zKC} {L T : zLS} (h : pz_same L T) (hT : pz_who KL kc T) : pz_who KL kc L := by
  intro k a hk ha
  rw [h.2.2.2.2 k hk] at ha
  exact hT k a hk ha
theorem pz_L_s {KL : List Nat} {kc : Nat → zKC} {L T : zLS} {A H : Nat → Int32} {K P Q : Nat} (h : pz_same L T) (hK : K ≤ 6) (hP : P ≤ 8) (hQ : Q ≤ 8) (hT : pz_L KL kc T A H K P Q) : pz_L KL kc L A H K P Q := by
  obtain ⟨s1, s2, s3, s4, s5⟩ := h
  obtain ⟨l6, l7, l2, l1, l0, l4, l5, l8, l9, l12, l15, l14, lk⟩ := hT
  refine ⟨(s1 6 (by omega)).trans l6, (s1 7 (by omega)).trans l7, (s1 2 (by omega)).trans l2, (s1 1 (by omega)).trans l1, (s1 0 (by omega)).trans l0, (s1 4 (by omega)).trans l4, (s1 5 (by omega)).trans l5, (s1 8 (by omega)).trans l8, ?_, ?_, ?_, ?_, ?_⟩
  · intro i hi
    exact ⟨(s2 9 i (by omega) (by omega)).trans (l9 i hi).1, (s2 10 i (by omega) (by omega)).trans (l9 i hi).2⟩
  · intro p hp
    obtain ⟨a, b, c, d⟩ := l12 p hp
    exact ⟨(s2 12 p (by omega) (by omega)).trans a, (s2 13 p (by omega) (by omega)).trans b, (s2 17 p (by omega) (by omega)).trans c, (s2 18 p (by omega) (by omega)).trans d⟩
  · intro k hk
    exact ⟨(s4 15 k (by omega) (by omega)).trans (l15 k hk).1, (s4 16 k (by omega) (by omega)).trans (l15 k hk).2⟩
  · intro k p hk hp
    exact (s3 _ (by omega)).trans (l14 k p hk hp)
  · intro k hk
    obtain ⟨a, e, m⟩ := lk k hk
    exact ⟨a, (s5 k (by omega)).trans e, m⟩
theorem pz_A_cg {A B : Nat → Int32} {K P Q T : Nat} (e : ∀ i, i < 58 → B i = A i) (h : pz_A A K P Q T) : pz_A B K P Q T := by
  obtain ⟨hK1, hK6, hP8, hQ1, hQ8, hT1, hT60, a3, a4, a2, a1, a0, a5, a6, a7, pt, st, kp⟩ := h
  rw [← e 3 (by omega)] at a3
  rw [← e 4 (by omega)] at a4
  rw [← e 2 (by omega)] at a2
  rw [← e 1 (by omega)] at a1
  rw [← e 0 (by omega)] at a0
  rw [← e 5 (by omega)] at a5
  rw [← e 6 (by omega)] at a6
  rw [← e 7 (by omega)] at a7
  refine ⟨hK1, hK6, hP8, hQ1, hQ8, hT1, hT60, a3, a4, a2, a1, a0, a5, a6, a7, ?_, ?_, ?_⟩
  · intro i hi
    rw [e (8 + i) (by omega), e (16 + i) (by omega)]
    exact pt i hi
  · intro i j hi hj
    rw [e (8 + i) (by omega), e (8 + j) (by omega)]
    exact st i j hi hj
  · intro k hk
    rw [e (24 + k) (by omega), e (30 + k) (by omega), e (36 + k) (by omega)]
    exact kp k hk
theorem pz_H_cg {H G : Nat → Int32} {K P : Nat} (e : ∀ i, i < 77 → G i = H i) (hK : K ≤ 6) (hP : P ≤ 8) (h : pz_H H K P) : pz_H G K P := by
  refine ⟨fun k p hk hp => ?_, fun k p hk h1 h2 => ?_⟩
  · rw [e _ (by omega)]
    exact h.1 k p hk hp
  · rw [e _ (by omega)]
    exact h.2 k p hk h1 h2
theorem pz_L_cg {KL : List Nat} {kc : Nat → zKC} {L : zLS} {A H B G : Nat → Int32} {K P Q : Nat} (e : ∀ i, i < 58 → B i = A i) (f : ∀ i, i < 77 → G i = H i) (hK : K ≤ 6) (hP : P ≤ 8) (hQ : Q ≤ 8) (h : pz_L KL kc L A H K P Q) : pz_L KL kc L B G K P Q := by
  obtain ⟨l6, l7, l2, l1, l0, l4, l5, l8, l9, l12, l15, l14, lk⟩ := h
  refine ⟨l6.trans (e 3 (by omega)).symm, l7.trans (e 4 (by omega)).symm, l2.trans (e 2 (by omega)).symm, l1.trans (e 1 (by omega)).symm, l0.trans (e 0 (by omega)).symm, l4.trans (e 6 (by omega)).symm, l5.trans (e 7 (by omega)).symm, l8.trans (f 0 (by omega)).symm, ?_, ?_, ?_, ?_, ?_⟩
  · intro i hi
    rw [e (8 + i) (by omega), e (16 + i) (by omega)]
    exact l9 i hi
  · intro p hp
    rw [e (42 + p) (by omega), e (50 + p) (by omega), f (13 + p) (by omega), f (21 + p) (by omega)]
    exact l12 p hp
  · intro k hk
    rw [f (1 + k) (by omega), f (7 + k) (by omega)]
    exact l15 k hk
  · intro k p hk hp
    rw [f (29 + 8 * k + p) (by omega)]
    exact l14 k p hk hp
  · intro k hk
    unfold pz_kp
    rw [e (24 + k) (by omega), e (30 + k) (by omega), e (36 + k) (by omega)]
    exact lk k hk
theorem pz_land_cg {KL : List Nat} {kc : Nat → zKC} {L : zLS} {A H B G : Nat → Int32} (e : ∀ i, i < 58 → B i = A i) (f : ∀ i, i < 77 → G i = H i) (h : pz_land KL kc L A H) : pz_land KL kc L B G := by
  obtain ⟨K, P, Q, T, hA, hH, hL, hl⟩ := h
  have hn := (pz_A_n hA).1
  exact ⟨K, P, Q, T, pz_A_cg e hA, pz_H_cg f (by omega) (by omega) hH, pz_L_cg e f (by omega) (by omega) (by omega) hL, hl.trans (e 5 (by omega)).symm⟩
theorem pz_land_s {KL : List Nat} {kc : Nat → zKC} {L T : zLS} {A H : Nat → Int32} (h : pz_same L T) (hT : pz_land KL kc T A H) : pz_land KL kc L A H := by
  obtain ⟨K, P, Q, Y, hA, hH, hL, hl⟩ := hT
  have hn := (pz_A_n hA).1
  exact ⟨K, P, Q, Y, hA, hH, pz_L_s h (by omega) (by omega) (by omega) hL, (h.1 3 (by omega)).trans hl⟩
set_option maxHeartbeats 4000000 in
set_option maxRecDepth 100000 in
theorem pz_image_l1 (N : Nat) {k : Nat} (hk : k < 2) : ∀ n i (mo : zMS), i ≤ 58 → 58 - i < n → ∃ g, fX12_image_l1 N (nI k) n (nI i) mo = some (zMA mo 27 g) ∧ (∀ j, i ≤ j → j < 58 → g (58 * k + j) = mo.1.2 5 j) ∧ (∀ j, (j < 58 * k + i ∨ 58 * k + 58 ≤ j) → g j = mo.1.2 27 j) := by
  intro n
  induction n with
  | zero => intro i mo h1 h2; omega
  | succ n ih =>
    intro i mo h1 h2
    rcases Nat.lt_or_ge i 58 with h3 | h3
    · have g1 : ¬ (58 : Int32) ≤ nI i := nI_ge (b := 58) h3 (by omega)
      have e : (58 : Int32) * nI k + nI i = nI (58 * k + i) := by rw [show (58 : Int32) = nI 58 from rfl, pk_mul, nI_add]
      have i1 := pz_ni (show i < 58 by omega) (by omega)
      have i2 := pz_ni (show 58 * k + i < 116 by omega) (by omega)
      obtain ⟨g, e1, e2, e3⟩ := ih (i + 1) (zMA mo 27 (upd (mo.1.2 27) (58 * k + i) (mo.1.2 5 i))) (by omega) (by omega)
      refine ⟨g, ?_, ?_, ?_⟩
      · simp only [fX12_image_l1, g1, e, i1, i2, nI_clamp (show i < 2 ^ 31 by omega), nI_clamp (show 58 * k + i < 2 ^ 31 by omega), nI_1, ↓reduceIte, Option.bind_some, or_self, or_false, false_or, or_true, true_or, and_true, true_and, and_false, false_and, not_true_eq_false, not_false_eq_true]
        rw [e1, pz_MAA]
      · intro j hj h58
        rcases Nat.eq_or_lt_of_le hj with h | h
        · subst h
          rw [e3 _ (by omega), pz_MA]
          exact pk_us
        · exact e2 j h h58
      · intro j hj
        rw [e3 j (by omega), pz_MA]
        exact pk_un (by omega)
    · have e : i = 58 := by omega
      subst e
      refine ⟨mo.1.2 27, ?_, fun j h4 h5 => by omega, fun _ _ => rfl⟩
      rw [pz_MA0]
      rfl
set_option maxHeartbeats 4000000 in
set_option maxRecDepth 100000 in
theorem pz_image_l2 (N : Nat) {k : Nat} (hk : k < 2) : ∀ n i (mo : zMS), i ≤ 77 → 77 - i < n → ∃ g, fX12_image_l2 N (nI k) n (nI i) mo = some (zMA mo 28 g) ∧ (∀ j, i ≤ j → j < 77 → g (77 * k + j) = mo.1.2 8 j) ∧ (∀ j, (j < 77 * k + i ∨ 77 * k + 77 ≤ j) → g j = mo.1.2 28 j) := by
  intro n
  induction n with
  | zero => intro i mo h1 h2; omega
  | succ n ih =>
    intro i mo h1 h2
    rcases Nat.lt_or_ge i 77 with h3 | h3
    · have g1 : ¬ (77 : Int32) ≤ nI i := nI_ge (b := 77) h3 (by omega)
      have e : (77 : Int32) * nI k + nI i = nI (77 * k + i) := by rw [show (77 : Int32) = nI 77 from rfl, pk_mul, nI_add]
      have i1 := pz_ni (show i < 77 by omega) (by omega)
      have i2 := pz_ni (show 77 * k + i < 154 by omega) (by omega)
      obtain ⟨g, e1, e2, e3⟩ := ih (i + 1) (zMA mo 28 (upd (mo.1.2 28) (77 * k + i) (mo.1.2 8 i))) (by omega) (by omega)
      refine ⟨g, ?_, ?_, ?_⟩
      · simp only [fX12_image_l2, g1, e, i1, i2, nI_clamp (show i < 2 ^ 31 by omega), nI_clamp (show 77 * k + i < 2 ^ 31 by omega), nI_1, ↓reduceIte, Option.bind_some, or_self, or_false, false_or, or_true, true_or, and_true, true_and, and_false, false_and, not_true_eq_false, not_false_eq_true]
        rw [e1, pz_MAA]
      · intro j hj h58
        rcases Nat.eq_or_lt_of_le hj with h | h
        · subst h
          rw [e3 _ (by omega), pz_MA]
          exact pk_us
        · exact e2 j h h58
      · intro j hj
        rw [e3 j (by omega), pz_MA]
        exact pk_un (by omega)
    · have e : i = 77 := by omega
      subst e
      refine ⟨mo.1.2 28, ?_, fun j h4 h5 => by omega, fun _ _ => rfl⟩
      rw [pz_MA0]
      rfl
set_option maxHeartbeats 4000000 in
set_option maxRecDepth 100000 in
theorem pz_restore_l1 (N : Nat) {k : Nat} (hk : k < 2) : ∀ n i (mo : zMS), i ≤ 58 → 58 - i < n → ∃ g, fX12_restore_l1 N (nI k) n (nI i) mo = some (zMA mo 5 g) ∧ (∀ j, i ≤ j → j < 58 → g j = mo.1.2 27 (58 * k + j)) ∧ (∀ j, (j < i ∨ 58 ≤ j) → g j = mo.1.2 5 j) := by
  intro n
  induction n with
  | zero => intro i mo h1 h2; omega
  | succ n ih =>
    intro i mo h1 h2
    rcases Nat.lt_or_ge i 58 with h3 | h3
    · have g1 : ¬ (58 : Int32) ≤ nI i := nI_ge (b := 58) h3 (by omega)
      have e : (58 : Int32) * nI k + nI i = nI (58 * k + i) := by rw [show (58 : Int32) = nI 58 from rfl, pk_mul, nI_add]
      have i1 := pz_ni (show i < 58 by omega) (by omega)
      have i2 := pz_ni (show 58 * k + i < 116 by omega) (by omega)
      obtain ⟨g, e1, e2, e3⟩ := ih (i + 1) (zMA mo 5 (upd (mo.1.2 5) i (mo.1.2 27 (58 * k + i)))) (by omega) (by omega)
      refine ⟨g, ?_, ?_, ?_⟩
      · simp only [fX12_restore_l1, g1, e, i1, i2, nI_clamp (show i < 2 ^ 31 by omega), nI_clamp (show 58 * k + i < 2 ^ 31 by omega), nI_1, ↓reduceIte, Option.bind_some, or_self, or_false, false_or, or_true, true_or, and_true, true_and, and_false, false_and, not_true_eq_false, not_false_eq_true]
        rw [e1, pz_MAA]
      · intro j hj h58
        rcases Nat.eq_or_lt_of_le hj with h | h
        · subst h
          rw [e3 _ (by omega), pz_MA]
          exact pk_us
        · exact e2 j h h58
      · intro j hj
        rw [e3 j (by omega), pz_MA]
        exact pk_un (by omega)
    · have e : i = 58 := by omega
      subst e
      refine ⟨mo.1.2 5, ?_, fun j h4 h5 => by omega, fun _ _ => rfl⟩
      rw [pz_MA0]
      rfl
set_option maxHeartbeats 4000000 in
set_option maxRecDepth 100000 in
theorem pz_restore_l2 (N : Nat) {k : Nat} (hk : k < 2) : ∀ n i (mo : zMS), i ≤ 77 → 77 - i < n → ∃ g, fX12_restore_l2 N (nI k) n (nI i) mo = some (zMA mo 8 g) ∧ (∀ j, i ≤ j → j < 77 → g j = mo.1.2 28 (77 * k + j)) ∧ (∀ j, (j < i ∨ 77 ≤ j) → g j = mo.1.2 8 j) := by
  intro n
  induction n with
  | zero => intro i mo h1 h2; omega
  | succ n ih =>
    intro i mo h1 h2
    rcases Nat.lt_or_ge i 77 with h3 | h3
    · have g1 : ¬ (77 : Int32) ≤ nI i := nI_ge (b := 77) h3 (by omega)
      have e : (77 : Int32) * nI k + nI i = nI (77 * k + i) := by rw [show (77 : Int32) = nI 77 from rfl, pk_mul, nI_add]
      have i1 := pz_ni (show i < 77 by omega) (by omega)
      have i2 := pz_ni (show 77 * k + i < 154 by omega) (by omega)
      obtain ⟨g, e1, e2, e3⟩ := ih (i + 1) (zMA mo 8 (upd (mo.1.2 8) i (mo.1.2 28 (77 * k + i)))) (by omega) (by omega)
      refine ⟨g, ?_, ?_, ?_⟩
      · simp only [fX12_restore_l2, g1, e, i1, i2, nI_clamp (show i < 2 ^ 31 by omega), nI_clamp (show 77 * k + i < 2 ^ 31 by omega), nI_1, ↓reduceIte, Option.bind_some, or_self, or_false, false_or, or_true, true_or, and_true, true_and, and_false, false_and, not_true_eq_false, not_false_eq_true]
        rw [e1, pz_MAA]
      · intro j hj h58
        rcases Nat.eq_or_lt_of_le hj with h | h
        · subst h
          rw [e3 _ (by omega), pz_MA]
          exact pk_us
        · exact e2 j h h58
      · intro j hj
        rw [e3 j (by omega), pz_MA]
        exact pk_un (by omega)
    · have e : i = 77 := by omega
      subst e
      refine ⟨mo.1.2 8, ?_, fun j h4 h5 => by omega, fun _ _ => rfl⟩
      rw [pz_MA0]
      rfl
set_option maxHeartbeats 4000000 in
set_option maxRecDepth 100000 in
theorem pz_laws_l1 (N : Nat) (x : Int32) : ∀ n i (mo : zMS), i ≤ 77 → 77 - i < n → ∃ g, fX12_laws_l1 N x n (nI i) mo = some (zMA mo 25 g) ∧ (∀ j, i ≤ j → j < 77 → g j = mo.1.2 8 (j)) ∧ (∀ j, (j < i ∨ 77 ≤ j) → g j = mo.1.2 25 j) := by
  intro n
  induction n with
  | zero => intro i mo h1 h2; omega
  | succ n ih =>
    intro i mo h1 h2
    rcases Nat.lt_or_ge i 77 with h3 | h3
    · have g1 : ¬ (77 : Int32) ≤ nI i := nI_ge (b := 77) h3 (by omega)
      have i1 := pz_ni (show i < 77 by omega) (by omega)
      have i2 := pz_ni (show i < 77 by omega) (by omega)
      obtain ⟨g, e1, e2, e3⟩ := ih (i + 1) (zMA mo 25 (upd (mo.1.2 25) i (mo.1.2 8 (i)))) (by omega) (by omega)
      refine ⟨g, ?_, ?_, ?_⟩
      · simp only [fX12_laws_l1, g1, i1, i2, nI_clamp (show i < 2 ^ 31 by omega), nI_clamp (show i < 2 ^ 31 by omega), nI_1, ↓reduceIte, Option.bind_some, or_self, or_false, false_or, or_true, true_or, and_true, true_and, and_false, false_and, not_true_eq_false, not_false_eq_true]
        rw [e1, pz_MAA]
      · intro j hj h58
        rcases Nat.eq_or_lt_of_le hj with h | h
        · subst h
          rw [e3 _ (by omega), pz_MA]
          exact pk_us
        · exact e2 j h h58
      · intro j hj
        rw [e3 j (by omega), pz_MA]
        exact pk_un (by omega)
    · have e : i = 77 := by omega
      subst e
      refine ⟨mo.1.2 25, ?_, fun j h4 h5 => by omega, fun _ _ => rfl⟩
      rw [pz_MA0]
      rfl
set_option maxHeartbeats 4000000 in
set_option maxRecDepth 100000 in
theorem pz_laws_l4 (N : Nat) (x : Int32) : ∀ n i (mo : zMS), i ≤ 77 → 77 - i < n → ∃ g, fX12_laws_l4 N x n (nI i) mo = some (zMA mo 8 g) ∧ (∀ j, i ≤ j → j < 77 → g j = mo.1.2 25 (j)) ∧ (∀ j, (j < i ∨ 77 ≤ j) → g j = mo.1.2 8 j) := by
  intro n
  induction n with
  | zero => intro i mo h1 h2; omega
  | succ n ih =>
    intro i mo h1 h2
    rcases Nat.lt_or_ge i 77 with h3 | h3
    · have g1 : ¬ (77 : Int32) ≤ nI i := nI_ge (b := 77) h3 (by omega)
      have i1 := pz_ni (show i < 77 by omega) (by omega)
      have i2 := pz_ni (show i < 77 by omega) (by omega)
      obtain ⟨g, e1, e2, e3⟩ := ih (i + 1) (zMA mo 8 (upd (mo.1.2 8) i (mo.1.2 25 (i)))) (by omega) (by omega)
      refine ⟨g, ?_, ?_, ?_⟩
      · simp only [fX12_laws_l4, g1, i1, i2, nI_clamp (show i < 2 ^ 31 by omega), nI_clamp (show i < 2 ^ 31 by omega), nI_1, ↓reduceIte, Option.bind_some, or_self, or_false, false_or, or_true, true_or, and_true, true_and, and_false, false_and, not_true_eq_false, not_false_eq_true]
        rw [e1, pz_MAA]
      · intro j hj h58
        rcases Nat.eq_or_lt_of_le hj with h | h
        · subst h
          rw [e3 _ (by omega), pz_MA]
          exact pk_us
        · exact e2 j h h58
      · intro j hj
        rw [e3 j (by omega), pz_MA]
        exact pk_un (by omega)
    · have e : i = 77 := by omega
      subst e
      refine ⟨mo.1.2 8, ?_, fun j h4 h5 => by omega, fun _ _ => rfl⟩
      rw [pz_MA0]
      rfl
set_option maxHeartbeats 4000000 in
set_option maxRecDepth 100000 in
theorem pz_land_l5 (N : Nat) : ∀ n i (mo : zMS), i ≤ 58 → 58 - i < n → ∃ g, fX12_land_l5 N n (nI i) mo = some (zMA mo 5 g) ∧ (∀ j, i ≤ j → j < 58 → g j = mo.1.2 6 (j)) ∧ (∀ j, (j < i ∨ 58 ≤ j) → g j = mo.1.2 5 j) := by
  intro n
  induction n with
  | zero => intro i mo h1 h2; omega
  | succ n ih =>
    intro i mo h1 h2
    rcases Nat.lt_or_ge i 58 with h3 | h3
    · have g1 : ¬ (58 : Int32) ≤ nI i := nI_ge (b := 58) h3 (by omega)
      have i1 := pz_ni (show i < 58 by omega) (by omega)
      have i2 := pz_ni (show i < 58 by omega) (by omega)
      obtain ⟨g, e1, e2, e3⟩ := ih (i + 1) (zMA mo 5 (upd (mo.1.2 5) i (mo.1.2 6 (i)))) (by omega) (by omega)
      refine ⟨g, ?_, ?_, ?_⟩
      · simp only [fX12_land_l5, g1, i1, i2, nI_clamp (show i < 2 ^ 31 by omega), nI_clamp (show i < 2 ^ 31 by omega), nI_1, ↓reduceIte, Option.bind_some, or_self, or_false, false_or, or_true, true_or, and_true, true_and, and_false, false_and, not_true_eq_false, not_false_eq_true]
        rw [e1, pz_MAA]
      · intro j hj h58
        rcases Nat.eq_or_lt_of_le hj with h | h
        · subst h
          rw [e3 _ (by omega), pz_MA]
          exact pk_us
        · exact e2 j h h58
      · intro j hj
        rw [e3 j (by omega), pz_MA]
        exact pk_un (by omega)
    · have e : i = 58 := by omega
      subst e
      refine ⟨mo.1.2 5, ?_, fun j h4 h5 => by omega, fun _ _ => rfl⟩
      rw [pz_MA0]
      rfl
set_option maxHeartbeats 4000000 in
set_option maxRecDepth 100000 in
theorem pz_land_l6 (N : Nat) : ∀ n i (mo : zMS), i ≤ 58 → 58 - i < n → ∃ g, fX12_land_l6 N n (nI i) mo = some (zMA mo 5 g) ∧ (∀ j, i ≤ j → j < 58 → g j = mo.1.2 6 (j)) ∧ (∀ j, (j < i ∨ 58 ≤ j) → g j = mo.1.2 5 j) := by
  intro n
  induction n with
  | zero => intro i mo h1 h2; omega
  | succ n ih =>
    intro i mo h1 h2
    rcases Nat.lt_or_ge i 58 with h3 | h3
    · have g1 : ¬ (58 : Int32) ≤ nI i := nI_ge (b := 58) h3 (by omega)
      have i1 := pz_ni (show i < 58 by omega) (by omega)
      have i2 := pz_ni (show i < 58 by omega) (by omega)
      obtain ⟨g, e1, e2, e3⟩ := ih (i + 1) (zMA mo 5 (upd (mo.1.2 5) i (mo.1.2 6 (i)))) (by omega) (by omega)
      refine ⟨g, ?_, ?_, ?_⟩
      · simp only [fX12_land_l6, g1, i1, i2, nI_clamp (show i < 2 ^ 31 by omega), nI_clamp (show i < 2 ^ 31 by omega), nI_1, ↓reduceIte, Option.bind_some, or_self, or_false, false_or, or_true, true_or, and_true, true_and, and_false, false_and, not_true_eq_false, not_false_eq_true]
        rw [e1, pz_MAA]
      · intro j hj h58
        rcases Nat.eq_or_lt_of_le hj with h | h
        · subst h
          rw [e3 _ (by omega), pz_MA]
          exact pk_us
        · exact e2 j h h58
      · intro j hj
        rw [e3 j (by omega), pz_MA]
        exact pk_un (by omega)
    · have e : i = 58 := by omega
      subst e
      refine ⟨mo.1.2 5, ?_, fun j h4 h5 => by omega, fun _ _ => rfl⟩
      rw [pz_MA0]
      rfl
set_option maxHeartbeats 4000000 in
set_option maxRecDepth 100000 in
theorem pz_land_l7 (N : Nat) : ∀ n i (mo : zMS), i ≤ 58 → 58 - i < n → ∃ g, fX12_land_l7 N n (nI i) mo = some (zMA mo 5 g) ∧ (∀ j, i ≤ j → j < 58 → g j = mo.1.2 6 (j)) ∧ (∀ j, (j < i ∨ 58 ≤ j) → g j = mo.1.2 5 j) := by
  intro n
  induction n with
  | zero => intro i mo h1 h2; omega
  | succ n ih =>
    intro i mo h1 h2
    rcases Nat.lt_or_ge i 58 with h3 | h3
    · have g1 : ¬ (58 : Int32) ≤ nI i := nI_ge (b := 58) h3 (by omega)
      have i1 := pz_ni (show i < 58 by omega) (by omega)
      have i2 := pz_ni (show i < 58 by omega) (by omega)
      obtain ⟨g, e1, e2, e3⟩ := ih (i + 1) (zMA mo 5 (upd (mo.1.2 5) i (mo.1.2 6 (i)))) (by omega) (by omega)
      refine ⟨g, ?_, ?_, ?_⟩
      · simp only [fX12_land_l7, g1, i1, i2, nI_clamp (show i < 2 ^ 31 by omega), nI_clamp (show i < 2 ^ 31 by omega), nI_1, ↓reduceIte, Option.bind_some, or_self, or_false, false_or, or_true, true_or, and_true, true_and, and_false, false_and, not_true_eq_false, not_false_eq_true]
        rw [e1, pz_MAA]
      · intro j hj h58
        rcases Nat.eq_or_lt_of_le hj with h | h
        · subst h
          rw [e3 _ (by omega), pz_MA]
          exact pk_us
        · exact e2 j h h58
      · intro j hj
        rw [e3 j (by omega), pz_MA]
        exact pk_un (by omega)
    · have e : i = 58 := by omega
      subst e
      refine ⟨mo.1.2 5, ?_, fun j h4 h5 => by omega, fun _ _ => rfl⟩
      rw [pz_MA0]
      rfl
