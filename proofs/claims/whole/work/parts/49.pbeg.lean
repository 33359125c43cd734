/-! THE PURE LAYER: a land's beginning -/
def pz_bt (A : Nat → Int32) (p k : Nat) : Prop := (A (50 + p) >>> (nI k &&& 31)) &&& 1 = 1
noncomputable def pz_bH (A : Nat → Int32) (K P : Nat) (i : Nat) : Int32 :=
  if 29 ≤ i then (if (i - 29) / 8 < K ∧ (i - 29) % 8 < P ∧ (A (50 + (i - 29) % 8) >>> (nI ((i - 29) / 8) &&& 31)) &&& 1 = 1 then A (36 + (i - 29) / 8) else 0) else if 21 ≤ i then -1000000 else 0
theorem pz_bH_c (A : Nat → Int32) {K P k p : Nat} (hk : k < K) (hp : p < P) (hP : P ≤ 8) : pz_bH A K P (29 + 8 * k + p) = if (A (50 + p) >>> (nI k &&& 31)) &&& 1 = 1 then A (36 + k) else 0 := by
  unfold pz_bH
  have e1 : (29 + 8 * k + p - 29) / 8 = k := by omega
  have e2 : (29 + 8 * k + p - 29) % 8 = p := by omega
  rw [if_pos (by omega), e1, e2]
  by_cases c : (A (50 + p) >>> (nI k &&& 31)) &&& 1 = 1
  · rw [if_pos c, if_pos ⟨hk, hp, c⟩]
  · rw [if_neg c, if_neg (fun h => c h.2.2)]
theorem pz_bH_z (A : Nat → Int32) {K P k p : Nat} (hp : P ≤ p) (hP : p < 8) : pz_bH A K P (29 + 8 * k + p) = 0 := by
  unfold pz_bH
  have e2 : (29 + 8 * k + p - 29) % 8 = p := by omega
  rw [if_pos (by omega), e2, if_neg (by omega)]
theorem pz_bH_n (A : Nat → Int32) (K P : Nat) {p : Nat} (hp : p < 8) : pz_bH A K P (21 + p) = -1000000 := by
  unfold pz_bH
  rw [if_neg (by omega), if_pos (by omega)]
theorem pz_bH_0 (A : Nat → Int32) (K P : Nat) {i : Nat} (hi : i < 21) : pz_bH A K P i = 0 := by
  unfold pz_bH
  rw [if_neg (by omega), if_neg (by omega)]
theorem pz_bH_H {A : Nat → Int32} {K P Q T : Nat} (h : pz_A A K P Q T) : pz_H (pz_bH A K P) K P := by
  have hn := (pz_A_n h).1
  refine ⟨fun k p hk hp => ?_, fun k p hk h1 h2 => pz_bH_z A h1 h2⟩
  rw [pz_bH_c A hk hp (by omega)]
  obtain ⟨w, n, c, -, -, -, -, c9, -, -, e⟩ := pz_A_k h k hk
  split
  · exact ⟨c, c9, e⟩
  · exact ⟨0, by omega, rfl⟩
/-- a land as it is told, ahead of its beginning -/
def pz_Lp (KL : List Nat) (kc : Nat → zKC) (L : zLS) (A : Nat → Int32) (K P Q : Nat) : Prop := L.1.1 6 = A 3 ∧ L.1.1 7 = A 4 ∧ L.1.1 2 = A 2 ∧ L.1.1 1 = A 1 ∧ L.1.1 0 = A 0 ∧ L.1.1 4 = A 6 ∧ L.1.1 5 = A 7 ∧ (∀ i, i < Q → L.1.2 9 i = A (8 + i) ∧ L.1.2 10 i = A (16 + i)) ∧ (∀ p, p < P → L.1.2 12 p = A (42 + p) ∧ L.1.2 13 p = A (50 + p)) ∧ ∀ k, k < K → pz_kp KL kc L A k
set_option maxHeartbeats 4000000 in
set_option maxRecDepth 100000 in
theorem pz_kAp (N : Nat) {KL : List Nat} {kc : Nat → zKC} {L : zLS} {A : Nat → Int32} {K P Q T : Nat} (h : pz_A A K P Q T) (l6 : L.1.1 6 = A 3) {k : Nat} (hk : k < K) (lk : pz_kp KL kc L A k) : ∃ a c, c ≤ 9 ∧ A (36 + k) = nI c ∧ (kc a).2.2.2 = nI c ∧ zkd KL kc a ∧ fX4_keeperAt N KL kc L (nI k) = some (some a) := by
  obtain ⟨⟨hK1, hK6, hP8, hQ1, hQ8, hT1, hT60⟩, hA3, hA4, hA2, hA1, hA0⟩ := pz_A_n h
  obtain ⟨w, n, c, h1, h2, h3, h4, h5, e1, e2, e3⟩ := pz_A_k h k hk
  obtain ⟨a, ea, hm, hc⟩ := lk
  rw [e1, e2, e3] at hc
  have hz : zkd KL kc a := ⟨hm, by rw [hc]; exact pz_zko h1 h2⟩
  refine ⟨a, c, h5, e3, by rw [hc], hz, ?_⟩
  have l6 : L.1.1 6 = nI K := l6.trans hA3
  have g1 : ¬ nI k < 0 := nI_pos (by omega)
  have g2 : ¬ nI K ≤ nI k := nI_ge hk (by omega)
  have g3 : ¬ (6 : Int32) ≤ nI k := nI_ge (b := 6) (by omega) (by omega)
  have g4 : ¬ 6 ≤ k := by omega
  have hz' : (¬ zkd KL kc a) = False := eq_false (fun h => h hz)
  simp only [fX4_keeperAt, l6, g1, g2, g3, g4, nI_clamp (show k < 2 ^ 31 by omega), ea, hz', ↓reduceIte, Option.bind_some, or_self, or_false, false_or, or_true, true_or, and_true, true_and, and_false, false_and, not_true_eq_false, not_false_eq_true]
set_option maxHeartbeats 4000000 in
set_option maxRecDepth 100000 in
theorem pz_bg5 (N : Nat) {kc : Nat → zKC} {a k P : Nat} {c : Int32} (hk : k < 6) (hP : P ≤ 8) (hc : (kc a).2.2.2 = c) : ∀ n p (L : zLS), p ≤ 8 → 8 - p < n → L.1.1 7 = nI P → ∃ g, fX4_begin_l5 N kc a (nI k) n (nI p) L = some (zLA L 14 g) ∧ (∀ q, p ≤ q → q < P → g (8 * k + q) = if (L.1.2 13 q >>> (nI k &&& 31)) &&& 1 = 1 then c else L.1.2 14 (8 * k + q)) ∧ (∀ j, (j < 8 * k + p ∨ 8 * k + 8 ≤ j) → g j = L.1.2 14 j) := by
  intro n
  induction n with
  | zero => intro p L h1 h2; omega
  | succ n ih =>
    intro p L h1 h2 l7
    rcases Nat.lt_or_ge p 8 with h3 | h3
    · have g1 : ¬ (8 : Int32) ≤ nI p := nI_ge (b := 8) h3 (by omega)
      rcases Nat.lt_or_ge p P with h4 | h4
      · have g2 : ¬ nI P ≤ nI p := nI_ge h4 (by omega)
        have i8 := pz_ni (show p < 8 by omega) (by omega)
        have cl := nI_clamp (show p < 2 ^ 31 by omega)
        have e2 : nI k * (8 : Int32) + nI p = nI (8 * k + p) := by rw [show (8 : Int32) = nI 8 from rfl, pk_mul, nI_add, Nat.mul_comm]
        have i48 := pz_ni (show 8 * k + p < 48 by omega) (by omega)
        have cl2 := nI_clamp (show 8 * k + p < 2 ^ 31 by omega)
        by_cases d : (L.1.2 13 p >>> (nI k &&& 31)) &&& 1 = 1
        · obtain ⟨g, e3, e4, e5⟩ := ih (p + 1) (zLA L 14 (upd (L.1.2 14) (8 * k + p) c)) (by omega) (by omega) l7
          refine ⟨g, ?_, ?_, ?_⟩
          · simp only [fX4_begin_l5, g1, g2, l7, i8, cl, d, e2, i48, cl2, hc, nI_1, ↓reduceIte, Option.bind_some, or_self, or_false, false_or, or_true, true_or, and_true, true_and, and_false, false_and, not_true_eq_false, not_false_eq_true]
            rw [e3, pz_LAA]
          · intro q q1 q2
            rcases Nat.eq_or_lt_of_le q1 with q3 | q3
            · subst q3
              rw [e5 _ (by omega), pz_LA, if_pos d]
              exact pk_us
            · have := e4 q q3 q2
              rw [pz_LA, pk_un (by omega)] at this
              exact this
          · intro j hj
            rw [e5 j (by omega), pz_LA]
            exact pk_un (by omega)
        · obtain ⟨g, e3, e4, e5⟩ := ih (p + 1) L (by omega) (by omega) l7
          refine ⟨g, ?_, ?_, fun j hj => e5 j (by omega)⟩
          · simp only [fX4_begin_l5, g1, g2, l7, i8, cl, d, nI_1, ↓reduceIte, Option.bind_some, or_self, or_false, false_or, or_true, true_or, and_true, true_and, and_false, false_and, not_true_eq_false, not_false_eq_true]
            exact e3
          · intro q q1 q2
            rcases Nat.eq_or_lt_of_le q1 with q3 | q3
            · subst q3
              rw [e5 _ (by omega), if_neg d]
            · exact e4 q q3 q2
      · have g2 : nI P ≤ nI p := nI_le h4 (by omega)
        obtain ⟨g, e3, e4, e5⟩ := ih (p + 1) L (by omega) (by omega) l7
        refine ⟨g, ?_, fun q q1 q2 => by omega, fun j hj => e5 j (by omega)⟩
        simp only [fX4_begin_l5, g1, g2, l7, nI_1, ↓reduceIte, Option.bind_some, or_self, or_false, false_or, or_true, true_or, and_true, true_and, and_false, false_and, not_true_eq_false, not_false_eq_true]
        exact e3
    · have e : p = 8 := by omega
      subst e
      refine ⟨L.1.2 14, ?_, fun q q1 q2 => by omega, fun _ _ => rfl⟩
      rw [pz_LA0]
      rfl
set_option maxHeartbeats 4000000 in
set_option maxRecDepth 100000 in
theorem pz_bg3 (N : Nat) (hN : 200000 ≤ N) {KL : List Nat} {kc : Nat → zKC} {A : Nat → Int32} {K P Q T : Nat} (hA : pz_A A K P Q T) : ∀ n k (L : zLS), k ≤ 6 → 6 - k < n → L.1.1 6 = A 3 → L.1.1 7 = A 4 → (∀ o, o < K → pz_kp KL kc L A o) → (∀ p, p < P → L.1.2 13 p = A (50 + p)) → ∃ g, fX4_begin_l3 N KL kc n (nI k) L = some (zLA L 14 g) ∧ (∀ o q, k ≤ o → o < K → q < P → g (8 * o + q) = if (A (50 + q) >>> (nI o &&& 31)) &&& 1 = 1 then A (36 + o) else L.1.2 14 (8 * o + q)) ∧ (∀ j, j < 8 * k → g j = L.1.2 14 j) := by
  obtain ⟨⟨hK1, hK6, hP8, hQ1, hQ8, hT1, hT60⟩, hA3, hA4, hA2, hA1, hA0⟩ := pz_A_n hA
  intro n
  induction n with
  | zero => intro k L h1 h2; omega
  | succ n ih =>
    intro k L h1 h2 l6 l7 lk l13
    rcases Nat.lt_or_ge k 6 with h3 | h3
    · have g1 : ¬ (6 : Int32) ≤ nI k := nI_ge (b := 6) h3 (by omega)
      rcases Nat.lt_or_ge k K with h4 | h4
      · obtain ⟨a, c, c9, ec, ka, hz, hat⟩ := pz_kAp N hA l6 h4 (lk k h4)
        have hz' : (¬ zkd KL kc a) = False := eq_false (fun h => h hz)
        obtain ⟨f, f1, f2, f3⟩ := pz_bg5 N h3 hP8 ka N 0 L (by omega) (by omega) (l7.trans hA4)
        rw [show nI 0 = (0 : Int32) from rfl] at f1
        obtain ⟨g, e3, e4, e5⟩ := ih (k + 1) (zLA L 14 f) (by omega) (by omega) l6 l7 lk l13
        refine ⟨g, ?_, ?_, ?_⟩
        · simp only [fX4_begin_l3, g1, hat, hz', f1, nI_1, ↓reduceIte, Option.bind_some, or_self, or_false, false_or, or_true, true_or, and_true, true_and, and_false, false_and, not_true_eq_false, not_false_eq_true]
          rw [e3, pz_LAA]
        · intro o q o1 o2 q2
          rcases Nat.eq_or_lt_of_le o1 with o3 | o3
          · subst o3
            rw [e5 _ (by omega), pz_LA, f2 q (by omega) q2, l13 q q2, ec]
          · rw [e4 o q o3 o2 q2, pz_LA, f3 _ (by omega)]
        · intro j hj
          rw [e5 j (by omega), pz_LA, f3 _ (by omega)]
      · have l6' : L.1.1 6 = nI K := l6.trans hA3
        have hat : fX4_keeperAt N KL kc L (nI k) = some none := by
          have g2 : ¬ nI k < 0 := nI_pos (by omega)
          have g3 : nI K ≤ nI k := nI_le h4 (by omega)
          simp only [fX4_keeperAt, l6', g2, g3, ↓reduceIte, Option.bind_some, or_self, or_false, false_or, or_true, true_or, and_true, true_and, and_false, false_and, not_true_eq_false, not_false_eq_true]
        have h4' : fX4_begin_l4 N (nI k) N 0 = some () := by
          obtain ⟨M, rfl⟩ : ∃ M, N = M + 1 := ⟨N - 1, by omega⟩
          rw [fX4_begin_l4]
          split <;> rfl
        obtain ⟨g, e3, e4, e5⟩ := ih (k + 1) L (by omega) (by omega) l6 l7 lk l13
        refine ⟨g, ?_, fun o q o1 o2 q2 => by omega, fun j hj => e5 j (by omega)⟩
        simp only [fX4_begin_l3, g1, hat, h4', nI_1, ↓reduceIte, Option.bind_some, or_self, or_false, false_or, or_true, true_or, and_true, true_and, and_false, false_and, not_true_eq_false, not_false_eq_true]
        exact e3
    · have e : k = 6 := by omega
      subst e
      refine ⟨L.1.2 14, ?_, fun o q o1 o2 q2 => by omega, fun _ _ => rfl⟩
      rw [pz_LA0]
      rfl
set_option maxHeartbeats 4000000 in
set_option maxRecDepth 100000 in
theorem pz_begC (N : Nat) (hN : 200000 ≤ N) {KL : List Nat} {kc : Nat → zKC} {L : zLS} {A : Nat → Int32} {K P Q T : Nat} (hA : pz_A A K P Q T) (hL : pz_Lp KL kc L A K P Q) : ∃ L', fX4_begin N KL kc L = some L' ∧ pz_L KL kc L' A (pz_bH A K P) K P Q ∧ L'.1.1 3 = L.1.1 3 ∧ L'.2 = L.2 ∧ L'.1.2 13 = L.1.2 13 ∧ L'.1.1 1 = L.1.1 1 := by
  obtain ⟨⟨hK1, hK6, hP8, hQ1, hQ8, hT1, hT60⟩, hA3, hA4, hA2, hA1, hA0⟩ := pz_A_n hA
  obtain ⟨l6, l7, l2, l1, l0, l4, l5, l9, l12, lk⟩ := hL
  obtain ⟨g, e1, e2, -⟩ := pz_bg3 N hN hA N 0 (zLA (zLA (zLA (zLA (zLA (zLi L 8 (0 : Int32)) 14 (zfl (L.1.2 14) 0 48 (0 : Int32))) 15 (zfl (L.1.2 15) 0 6 (0 : Int32))) 16 (zfl (L.1.2 16) 0 6 (0 : Int32))) 17 (zfl (L.1.2 17) 0 8 (0 : Int32))) 18 (zfl (L.1.2 18) 0 8 (-1000000 : Int32))) (by omega) (by omega) l6 l7 lk (fun p hp => (l12 p hp).2)
  rw [show nI 0 = (0 : Int32) from rfl] at e1
  have zf : ∀ (f : Nat → Int32) (n i : Nat) (v : Int32), i < n → zfl f 0 n v i = v := fun f n i v h => if_pos ⟨Nat.zero_le _, h⟩
  refine ⟨zLA (zLA (zLA (zLA (zLA (zLA (zLi L 8 (0 : Int32)) 14 (zfl (L.1.2 14) 0 48 (0 : Int32))) 15 (zfl (L.1.2 15) 0 6 (0 : Int32))) 16 (zfl (L.1.2 16) 0 6 (0 : Int32))) 17 (zfl (L.1.2 17) 0 8 (0 : Int32))) 18 (zfl (L.1.2 18) 0 8 (-1000000 : Int32))) 14 g, ?_, ?_, rfl, rfl, rfl, rfl⟩
  · unfold fX4_begin
    rw [e1]
    rfl
  · refine ⟨l6, l7, l2, l1, l0, l4, l5, ?_, l9, ?_, ?_, ?_, lk⟩
    · rw [pz_bH_0 _ _ _ (by omega)]
      rfl
    · intro p hp
      rw [pz_bH_0 _ _ _ (by omega), pz_bH_n _ _ _ (by omega)]
      exact ⟨(l12 p hp).1, (l12 p hp).2, zf _ _ _ _ (by omega), zf _ _ _ _ (by omega)⟩
    · intro k hk
      rw [pz_bH_0 _ _ _ (by omega), pz_bH_0 _ _ _ (by omega)]
      exact ⟨zf _ _ _ _ (by omega), zf _ _ _ _ (by omega)⟩
    · intro k p hk hp
      rw [pz_bH_c A hk hp hP8]
      refine (e2 k p (by omega) hk hp).trans ?_
      have : zfl (L.1.2 14) 0 48 (0 : Int32) (8 * k + p) = 0 := zf _ _ _ _ (by omega)
      show (if _ then _ else zfl (L.1.2 14) 0 48 (0 : Int32) (8 * k + p)) = _
      rw [this]
set_option maxHeartbeats 4000000 in
set_option maxRecDepth 100000 in
theorem pz_br1 (N : Nat) : ∀ n i (mo : zMS), i ≤ 77 → 77 - i < n → ∃ G, fX12_begin_l1 N n (nI i) mo = some (zMA mo 8 G) ∧ (∀ j, i ≤ j → j < 77 → G j = if 21 ≤ j ∧ j ≤ 28 then -1000000 else 0) ∧ (∀ j, j < i → G j = mo.1.2 8 j) := by
  intro n
  induction n with
  | zero => intro i mo h1 h2; omega
  | succ n ih =>
    intro i mo h1 h2
    rcases Nat.lt_or_ge i 77 with h3 | h3
    · have g1 : ¬ (77 : Int32) ≤ nI i := nI_ge (b := 77) h3 (by omega)
      have i77 := pz_ni h3 (by omega)
      have cl := nI_clamp (show i < 2 ^ 31 by omega)
      by_cases c : 21 ≤ i ∧ i ≤ 28
      · have w : fX11_within N (nI i) 21 28 = some 1 := pz_wi1 (nI_le (a := 21) c.1 (by omega)) (nI_le (b := 28) c.2 (by omega))
        obtain ⟨G, e1, e2, e3⟩ := ih (i + 1) (zMA mo 8 (upd (mo.1.2 8) i (-1000000))) (by omega) (by omega)
        refine ⟨G, ?_, ?_, ?_⟩
        · simp only [fX12_begin_l1, g1, pz_in_21_28, w, i77, cl, nI_1, ↓reduceIte, Option.bind_some, or_self, or_false, false_or, or_true, true_or, and_true, true_and, and_false, false_and, not_true_eq_false, not_false_eq_true, pz_10, pz_01, eq_self]
          rw [e1, pz_MAA]
        · intro j j1 j2
          rcases Nat.eq_or_lt_of_le j1 with j3 | j3
          · subst j3
            rw [e3 _ (by omega), pz_MA, if_pos c]
            exact pk_us
          · exact e2 j j3 j2
        · intro j hj
          rw [e3 j (by omega), pz_MA]
          exact pk_un (by omega)
      · have w : fX11_within N (nI i) 21 28 = some 0 := by
          unfold fX11_within
          by_cases c1 : i < 21
          · rw [if_pos (show nI i < (21 : Int32) from nI_lt (b := 21) c1 (by omega))]
          · rw [if_neg (show ¬ nI i < (21 : Int32) from nI_nlt (b := 21) (by omega) (by omega)), if_pos (show (28 : Int32) < nI i from nI_lt (a := 28) (by omega) (by omega))]
        obtain ⟨G, e1, e2, e3⟩ := ih (i + 1) (zMA mo 8 (upd (mo.1.2 8) i 0)) (by omega) (by omega)
        refine ⟨G, ?_, ?_, ?_⟩
        · simp only [fX12_begin_l1, g1, pz_in_21_28, w, i77, cl, nI_1, ↓reduceIte, Option.bind_some, or_self, or_false, false_or, or_true, true_or, and_true, true_and, and_false, false_and, not_true_eq_false, not_false_eq_true, pz_10, pz_01, eq_self]
          rw [e1, pz_MAA]
        · intro j j1 j2
          rcases Nat.eq_or_lt_of_le j1 with j3 | j3
          · subst j3
            rw [e3 _ (by omega), pz_MA, if_neg c]
            exact pk_us
          · exact e2 j j3 j2
        · intro j hj
          rw [e3 j (by omega), pz_MA]
          exact pk_un (by omega)
    · have e : i = 77 := by omega
      subst e
      refine ⟨mo.1.2 8, ?_, fun j j1 j2 => by omega, fun _ _ => rfl⟩
      rw [pz_MA0]
      rfl
set_option maxHeartbeats 4000000 in
set_option maxRecDepth 100000 in
theorem pz_br4 (N : Nat) {A : Nat → Int32} {K p : Nat} (hK : K ≤ 6) (hp : p < 8) (a3 : A 3 = nI K) : ∀ n k (mo : zMS), k ≤ K → K - k < n → mo.1.2 5 = A → ∃ G, fX12_begin_l4 N (nI p) n (nI k) mo = some (zMA mo 8 G) ∧ (∀ o, k ≤ o → o < K → G (29 + 8 * o + p) = if (A (50 + p) >>> (nI o &&& 31)) &&& 1 = 1 then A (36 + o) else 0) ∧ (∀ j, (∀ o, k ≤ o → o < K → j ≠ 29 + 8 * o + p) → G j = mo.1.2 8 j) := by
  have k3 : (3 : Int32).toNatClampNeg = 3 := rfl
  intro n
  induction n with
  | zero => intro k mo h1 h2; omega
  | succ n ih =>
    intro k mo h1 h2 hm
    have m3 : mo.1.2 5 3 = nI K := by rw [hm]; exact a3
    rcases Nat.lt_or_ge k K with h3 | h3
    · have g1 : ¬ nI K ≤ nI k := nI_ge h3 (by omega)
      have e50 : (50 : Int32) + nI p = nI (50 + p) := nI_add 50 p
      have e36 : (36 : Int32) + nI k = nI (36 + k) := nI_add 36 k
      have e29 : (29 : Int32) + (8 : Int32) * nI k + nI p = nI (29 + 8 * k + p) := by rw [show (29 : Int32) = nI 29 from rfl, show (8 : Int32) = nI 8 from rfl, pk_mul, nI_add, nI_add]
      have i50 := pz_ni (show 50 + p < 58 by omega) (by omega)
      have i36 := pz_ni (show 36 + k < 58 by omega) (by omega)
      have i29 := pz_ni (show 29 + 8 * k + p < 77 by omega) (by omega)
      have cl50 := nI_clamp (show 50 + p < 2 ^ 31 by omega)
      have cl36 := nI_clamp (show 36 + k < 2 ^ 31 by omega)
      have cl29 := nI_clamp (show 29 + 8 * k + p < 2 ^ 31 by omega)
      have m50 : mo.1.2 5 (50 + p) = A (50 + p) := by rw [hm]
      have m36 : mo.1.2 5 (36 + k) = A (36 + k) := by rw [hm]
      have go : ∀ v : Int32, (v = if (A (50 + p) >>> (nI k &&& 31)) &&& 1 = 1 then A (36 + k) else 0) → ∃ G, fX12_begin_l4 N (nI p) n (nI (k + 1)) (zMA mo 8 (upd (mo.1.2 8) (29 + 8 * k + p) v)) = some (zMA mo 8 G) ∧ (∀ o, k ≤ o → o < K → G (29 + 8 * o + p) = if (A (50 + p) >>> (nI o &&& 31)) &&& 1 = 1 then A (36 + o) else 0) ∧ (∀ j, (∀ o, k ≤ o → o < K → j ≠ 29 + 8 * o + p) → G j = mo.1.2 8 j) := by
        intro v hv
        obtain ⟨G, e1, e2, e3⟩ := ih (k + 1) (zMA mo 8 (upd (mo.1.2 8) (29 + 8 * k + p) v)) (by omega) (by omega) hm
        refine ⟨G, ?_, ?_, ?_⟩
        · rw [e1, pz_MAA]
        · intro o o1 o2
          rcases Nat.eq_or_lt_of_le o1 with o3 | o3
          · subst o3
            rw [e3 _ (fun o h4 h5 => by omega), pz_MA, ← hv]
            exact pk_us
          · exact e2 o o3 o2
        · intro j hj
          rw [e3 j (fun o h4 h5 => hj o (by omega) h5), pz_MA]
          exact pk_un (hj k (Nat.le_refl _) h3)
      by_cases c : (A (50 + p) >>> (nI k &&& 31)) &&& 1 = 1
      · obtain ⟨G, e1, e2⟩ := go (A (36 + k)) (by rw [if_pos c])
        refine ⟨G, ?_, e2⟩
        simp only [fX12_begin_l4, k3, m3, g1, e50, e36, e29, i50, i36, i29, cl50, cl36, cl29, m50, m36, c, nI_1, ↓reduceIte, Option.bind_some, or_self, or_false, false_or, or_true, true_or, and_true, true_and, and_false, false_and, not_true_eq_false, not_false_eq_true]
        exact e1
      · obtain ⟨G, e1, e2⟩ := go 0 (by rw [if_neg c])
        refine ⟨G, ?_, e2⟩
        simp only [fX12_begin_l4, k3, m3, g1, e50, e36, e29, i50, i36, i29, cl50, cl36, cl29, m50, m36, c, nI_1, ↓reduceIte, Option.bind_some, or_self, or_false, false_or, or_true, true_or, and_true, true_and, and_false, false_and, not_true_eq_false, not_false_eq_true]
        exact e1
    · have e : k = K := by omega
      subst e
      have g1 : nI k ≤ nI k := Int32.le_refl _
      refine ⟨mo.1.2 8, ?_, fun o o1 o2 => by omega, fun _ _ => rfl⟩
      simp only [fX12_begin_l4, k3, m3, g1, pz_MA0, ↓reduceIte, Option.bind_some, or_self, or_false, false_or, or_true, true_or, and_true, true_and, and_false, false_and, not_true_eq_false, not_false_eq_true]
set_option maxHeartbeats 4000000 in
set_option maxRecDepth 100000 in
theorem pz_br3 (N : Nat) (hN : 200000 ≤ N) {A : Nat → Int32} {K P : Nat} (hK : K ≤ 6) (hP : P ≤ 8) (a3 : A 3 = nI K) (a4 : A 4 = nI P) : ∀ n p (mo : zMS), p ≤ P → P - p < n → mo.1.2 5 = A → ∃ G, fX12_begin_l3 N n (nI p) mo = some (zMA mo 8 G) ∧ (∀ o q, o < K → p ≤ q → q < P → G (29 + 8 * o + q) = if (A (50 + q) >>> (nI o &&& 31)) &&& 1 = 1 then A (36 + o) else 0) ∧ (∀ j, (∀ o q, o < K → p ≤ q → q < P → j ≠ 29 + 8 * o + q) → G j = mo.1.2 8 j) := by
  have k4 : (4 : Int32).toNatClampNeg = 4 := rfl
  intro n
  induction n with
  | zero => intro p mo h1 h2; omega
  | succ n ih =>
    intro p mo h1 h2 hm
    have m4 : mo.1.2 5 4 = nI P := by rw [hm]; exact a4
    rcases Nat.lt_or_ge p P with h3 | h3
    · have g1 : ¬ nI P ≤ nI p := nI_ge h3 (by omega)
      obtain ⟨F, f1, f2, f3⟩ := pz_br4 N hK (show p < 8 by omega) a3 N 0 mo (by omega) (by omega) hm
      rw [show nI 0 = (0 : Int32) from rfl] at f1
      obtain ⟨G, e1, e2, e3⟩ := ih (p + 1) (zMA mo 8 F) (by omega) (by omega) hm
      refine ⟨G, ?_, ?_, ?_⟩
      · simp only [fX12_begin_l3, k4, m4, g1, f1, nI_1, ↓reduceIte, Option.bind_some, or_self, or_false, false_or, or_true, true_or, and_true, true_and, and_false, false_and, not_true_eq_false, not_false_eq_true]
        rw [e1, pz_MAA]
      · intro o q ho q1 q2
        rcases Nat.eq_or_lt_of_le q1 with q3 | q3
        · subst q3
          rw [e3 _ (fun o' q' h4 h5 h6 => by omega), pz_MA]
          exact f2 o (by omega) ho
        · exact e2 o q ho q3 q2
      · intro j hj
        rw [e3 j (fun o q h4 h5 h6 => hj o q h4 (by omega) h6), pz_MA]
        exact f3 j (fun o h4 h5 => hj o p h5 (Nat.le_refl _) h3)
    · have e : p = P := by omega
      subst e
      have g1 : nI p ≤ nI p := Int32.le_refl _
      refine ⟨mo.1.2 8, ?_, fun o q ho q1 q2 => by omega, fun _ _ => rfl⟩
      simp only [fX12_begin_l3, k4, m4, g1, pz_MA0, ↓reduceIte, Option.bind_some, or_self, or_false, false_or, or_true, true_or, and_true, true_and, and_false, false_and, not_true_eq_false, not_false_eq_true]
set_option maxHeartbeats 4000000 in
set_option maxRecDepth 100000 in
theorem pz_begR (N : Nat) (hN : 200000 ≤ N) {mo : zMS} {K P Q T : Nat} (hA : pz_A (mo.1.2 5) K P Q T) : ∃ H', fX12_begin N mo = some (zMA mo 8 H') ∧ ∀ i, i < 77 → H' i = pz_bH (mo.1.2 5) K P i := by
  obtain ⟨⟨hK1, hK6, hP8, hQ1, hQ8, hT1, hT60⟩, hA3, hA4, hA2, hA1, hA0⟩ := pz_A_n hA
  obtain ⟨F, f1, f2, -⟩ := pz_br1 N N 0 mo (by omega) (by omega)
  obtain ⟨G, e1, e2, e3⟩ := pz_br3 N hN hK6 hP8 hA3 hA4 N 0 (zMA mo 8 F) (by omega) (by omega) rfl
  rw [show nI 0 = (0 : Int32) from rfl] at f1 e1
  refine ⟨G, ?_, ?_⟩
  · unfold fX12_begin
    rw [f1, Option.bind_some, e1, Option.bind_some, pz_MAA]
  · intro i hi
    by_cases c : ∃ o q, o < K ∧ q < P ∧ i = 29 + 8 * o + q
    · obtain ⟨o, q, ho, hq, rfl⟩ := c
      rw [e2 o q ho (by omega) hq, pz_bH_c _ ho hq hP8]
    · rw [e3 i (fun o q h4 h5 h6 h7 => c ⟨o, q, h4, h6, h7⟩), pz_MA, f2 i (by omega) hi]
      unfold pz_bH
      by_cases c1 : 29 ≤ i
      · rw [if_neg (by omega), if_pos c1, if_neg]
        intro h
        exact c ⟨(i - 29) / 8, (i - 29) % 8, h.1, h.2.1, by omega⟩
      · rw [if_neg c1]
        by_cases c2 : 21 ≤ i
        · rw [if_pos (by omega), if_pos c2]
        · rw [if_neg (by omega), if_neg c2]
