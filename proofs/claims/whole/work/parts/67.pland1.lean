/-! THE PURE LAYER: a land is read -/
set_option maxHeartbeats 4000000 in
set_option maxRecDepth 100000 in
theorem pz_bt5 (N : Nat) {kc : Nat → zKC} {a k : Nat} (hk : k < 6) : ∀ n p (L : zLS), p ≤ 8 → 8 - p < n → ∃ L', fX4_begin_l5 N kc a (nI k) n (nI p) L = some L' ∧ L'.2 = L.2 := by
  intro n
  induction n with
  | zero => intro p L h1 h2; omega
  | succ n ih =>
    intro p L h1 h2
    rcases Nat.lt_or_ge p 8 with c | c
    · have g1 : ¬ (8 : Int32) ≤ nI p := nI_ge (b := 8) c (by omega)
      by_cases h7 : L.1.1 7 ≤ nI p
      · obtain ⟨L', e1, e2⟩ := ih (p + 1) L (by omega) (by omega)
        refine ⟨L', ?_, e2⟩
        simp only [fX4_begin_l5, g1, h7, nI_1, ↓reduceIte, Option.bind_some, or_self, or_false, false_or, or_true, true_or, and_true, true_and, and_false, false_and, not_true_eq_false, not_false_eq_true]
        exact e1
      · have g2 := pz_ni (show p < 8 from c) (by omega)
        have cl := nI_clamp (show p < 2 ^ 31 by omega)
        by_cases d : (L.1.2 13 p >>> (nI k &&& 31)) &&& 1 = 1
        · have m : nI k * (8 : Int32) + nI p = nI (k * 8 + p) := by
            rw [show (8 : Int32) = nI 8 from rfl, pk_mul, nI_add]
          have g3 := pz_ni (show k * 8 + p < 48 by omega) (by omega)
          have cl3 := nI_clamp (show k * 8 + p < 2 ^ 31 by omega)
          obtain ⟨L', e1, e2⟩ := ih (p + 1) (zLA L 14 (upd (L.1.2 14) (k * 8 + p) (kc a).2.2.2)) (by omega) (by omega)
          refine ⟨L', ?_, e2⟩
          simp only [fX4_begin_l5, g1, h7, g2, cl, d, m, g3, cl3, nI_1, ↓reduceIte, Option.bind_some, or_self, or_false, false_or, or_true, true_or, and_true, true_and, and_false, false_and, not_true_eq_false, not_false_eq_true]
          exact e1
        · obtain ⟨L', e1, e2⟩ := ih (p + 1) L (by omega) (by omega)
          refine ⟨L', ?_, e2⟩
          simp only [fX4_begin_l5, g1, h7, g2, cl, d, nI_1, ↓reduceIte, Option.bind_some, or_self, or_false, false_or, or_true, true_or, and_true, true_and, and_false, false_and, not_true_eq_false, not_false_eq_true]
          exact e1
    · have e : p = 8 := by omega
      subst e
      have g1 : (8 : Int32) ≤ nI 8 := Int32.le_refl _
      exact ⟨L, by simp only [fX4_begin_l5, g1, ↓reduceIte, Option.bind_some, or_self, or_false, false_or, or_true, true_or, and_true, true_and, and_false, false_and, not_true_eq_false, not_false_eq_true], rfl⟩
set_option maxHeartbeats 4000000 in
set_option maxRecDepth 100000 in
theorem pz_bt3 (N : Nat) (hN : 200000 ≤ N) {KL : List Nat} {kc : Nat → zKC} : ∀ n k (L : zLS), k ≤ 6 → 6 - k < n → pz_who KL kc L → ∃ L', fX4_begin_l3 N KL kc n (nI k) L = some L' ∧ L'.2 = L.2 := by
  obtain ⟨M, hM⟩ : ∃ M, N = M + 1 := ⟨N - 1, by omega⟩
  have z0 : nI 0 = (0 : Int32) := rfl
  have t4 : ∀ x, fX4_begin_l4 N x N 0 = some () := by
    intro x
    have : fX4_begin_l4 N x (M + 1) 0 = some () := by
      rw [fX4_begin_l4]
      split <;> rfl
    rw [← hM] at this
    exact this
  intro n
  induction n with
  | zero => intro k L h1 h2; omega
  | succ n ih =>
    intro k L h1 h2 hw
    rcases Nat.lt_or_ge k 6 with c | c
    · have g1 : ¬ (6 : Int32) ≤ nI k := nI_ge (b := 6) c (by omega)
      have ka : ∃ o, fX4_keeperAt N KL kc L (nI k) = some o ∧ ∀ a, o = some a → zkd KL kc a := by
        have g2 : ¬ nI k < 0 := nI_pos (by omega)
        have g3 : ¬ 6 ≤ k := by omega
        have cl := nI_clamp (show k < 2 ^ 31 by omega)
        by_cases h6 : L.1.1 6 ≤ nI k
        · exact ⟨none, by simp only [fX4_keeperAt, g2, h6, ↓reduceIte, Option.bind_some, or_self, or_false, false_or, or_true, true_or, and_true, true_and, and_false, false_and, not_true_eq_false, not_false_eq_true], fun a h => by cases h⟩
        · cases hl : L.2 k with
          | none => exact ⟨none, by simp only [fX4_keeperAt, g1, g2, g3, cl, h6, hl, ↓reduceIte, Option.bind_some, or_self, or_false, false_or, or_true, true_or, and_true, true_and, and_false, false_and, not_true_eq_false, not_false_eq_true], fun a h => by cases h⟩
          | some b =>
            have hz := hw k b c hl
            have hz' : (¬ zkd KL kc b) = False := eq_false (fun h => h hz)
            refine ⟨some b, by simp only [fX4_keeperAt, g1, g2, g3, cl, h6, hl, hz', ↓reduceIte, Option.bind_some, or_self, or_false, false_or, or_true, true_or, and_true, true_and, and_false, false_and, not_true_eq_false, not_false_eq_true], fun a h => ?_⟩
            have := Option.some.inj h
            subst this
            exact hz
      obtain ⟨o, o1, o2⟩ := ka
      cases o with
      | none =>
        obtain ⟨L', e1, e2⟩ := ih (k + 1) L (by omega) (by omega) hw
        refine ⟨L', ?_, e2⟩
        simp only [fX4_begin_l3, g1, o1, t4, nI_1, ↓reduceIte, Option.bind_some, or_self, or_false, false_or, or_true, true_or, and_true, true_and, and_false, false_and, not_true_eq_false, not_false_eq_true]
        exact e1
      | some a =>
        have hz' : (¬ zkd KL kc a) = False := eq_false (fun h => h (o2 a rfl))
        obtain ⟨L1, d1, d2⟩ := pz_bt5 N (kc := kc) (a := a) c N 0 L (by omega) (by omega)
        rw [z0] at d1
        obtain ⟨L', e1, e2⟩ := ih (k + 1) L1 (by omega) (by omega) (fun j b hj hb => hw j b hj (by rw [← d2]; exact hb))
        refine ⟨L', ?_, e2.trans d2⟩
        simp only [fX4_begin_l3, g1, o1, hz', d1, nI_1, ↓reduceIte, Option.bind_some, or_self, or_false, false_or, or_true, true_or, and_true, true_and, and_false, false_and, not_true_eq_false, not_false_eq_true]
        exact e1
    · have e : k = 6 := by omega
      subst e
      have g1 : (6 : Int32) ≤ nI 6 := Int32.le_refl _
      exact ⟨L, by simp only [fX4_begin_l3, g1, ↓reduceIte, Option.bind_some, or_self, or_false, false_or, or_true, true_or, and_true, true_and, and_false, false_and, not_true_eq_false, not_false_eq_true], rfl⟩
theorem pz_btT (N : Nat) (hN : 200000 ≤ N) {KL : List Nat} {kc : Nat → zKC} {L : zLS} (hw : pz_who KL kc L) : ∃ L', fX4_begin N KL kc L = some L' ∧ L'.2 = L.2 := by
  obtain ⟨L', e1, e2⟩ := pz_bt3 N hN N 0 (zLA (zLA (zLA (zLA (zLA (zLi L 8 (0 : Int32)) 14 (zfl (L.1.2 14) 0 48 (0 : Int32))) 15 (zfl (L.1.2 15) 0 6 (0 : Int32))) 16 (zfl (L.1.2 16) 0 6 (0 : Int32))) 17 (zfl (L.1.2 17) 0 8 (0 : Int32))) 18 (zfl (L.1.2 18) 0 8 (-1000000 : Int32))) (by omega) (by omega) hw
  refine ⟨L', ?_, e2⟩
  rw [show nI 0 = (0 : Int32) from rfl] at e1
  unfold fX4_begin
  rw [e1]
  rfl
theorem pz_bH_cg {A C : Nat → Int32} {K P : Nat} (e : ∀ i, i < 58 → C i = A i) (hK : K ≤ 6) (hP : P ≤ 8) (i : Nat) : pz_bH C K P i = pz_bH A K P i := by
  unfold pz_bH
  by_cases h : 29 ≤ i
  · rw [if_pos h, if_pos h]
    by_cases h2 : (i - 29) / 8 < K ∧ (i - 29) % 8 < P
    · rw [e (50 + (i - 29) % 8) (by omega), e (36 + (i - 29) / 8) (by omega)]
    · rw [if_neg (fun g => h2 ⟨g.1, g.2.1⟩), if_neg (fun g => h2 ⟨g.1, g.2.1⟩)]
  · rw [if_neg h, if_neg h]
set_option maxHeartbeats 4000000 in
set_option maxRecDepth 100000 in
theorem pz_ll1 (N : Nat) : ∀ n i (mo : zMS), i ≤ 58 → 58 - i < n → ∃ G, fX12_land_l1 N n (nI i) mo = some (zMA mo 6 G) ∧ (∀ j, i ≤ j → j < 58 → G j = 0) ∧ ∀ j, j < i → G j = mo.1.2 6 j := by
  intro n
  induction n with
  | zero => intro i mo h1 h2; omega
  | succ n ih =>
    intro i mo h1 h2
    rcases Nat.lt_or_ge i 58 with c | c
    · have g1 : ¬ (58 : Int32) ≤ nI i := nI_ge (b := 58) c (by omega)
      have g2 := pz_ni (show i < 58 from c) (by omega)
      have cl := nI_clamp (show i < 2 ^ 31 by omega)
      obtain ⟨G, e1, e2, e3⟩ := ih (i + 1) (zMA mo 6 (upd (mo.1.2 6) i 0)) (by omega) (by omega)
      rw [pz_MAA] at e1
      rw [pz_MA] at e3
      refine ⟨G, ?_, fun j h3 h4 => ?_, fun j h3 => ?_⟩
      · simp only [fX12_land_l1, g1, g2, cl, nI_1, ↓reduceIte, Option.bind_some, or_self, or_false, false_or, or_true, true_or, and_true, true_and, and_false, false_and, not_true_eq_false, not_false_eq_true]
        exact e1
      · rcases Nat.eq_or_lt_of_le h3 with h5 | h5
        · subst h5
          rw [e3 i (by omega), pk_us]
        · exact e2 j h5 h4
      · rw [e3 j (by omega), pk_un (by omega)]
    · have e : i = 58 := by omega
      subst e
      have g1 : (58 : Int32) ≤ nI 58 := Int32.le_refl _
      exact ⟨mo.1.2 6, by simp only [fX12_land_l1, g1, pz_MA0, ↓reduceIte, Option.bind_some, or_self, or_false, false_or, or_true, true_or, and_true, true_and, and_false, false_and, not_true_eq_false, not_false_eq_true], fun j h3 h4 => by omega, fun _ _ => rfl⟩
set_option maxHeartbeats 4000000 in
set_option maxRecDepth 100000 in
theorem pz_ll6 (N : Nat) : ∀ n i (mo : zMS), i ≤ 58 → 58 - i < n → ∃ G, fX12_land_l6 N n (nI i) mo = some (zMA mo 5 G) ∧ (∀ j, i ≤ j → j < 58 → G j = mo.1.2 6 j) ∧ ∀ j, j < i → G j = mo.1.2 5 j := by
  intro n
  induction n with
  | zero => intro i mo h1 h2; omega
  | succ n ih =>
    intro i mo h1 h2
    rcases Nat.lt_or_ge i 58 with c | c
    · have g1 : ¬ (58 : Int32) ≤ nI i := nI_ge (b := 58) c (by omega)
      have g2 := pz_ni (show i < 58 from c) (by omega)
      have cl := nI_clamp (show i < 2 ^ 31 by omega)
      obtain ⟨G, e1, e2, e3⟩ := ih (i + 1) (zMA mo 5 (upd (mo.1.2 5) i (mo.1.2 6 i))) (by omega) (by omega)
      rw [pz_MAA] at e1
      rw [pz_MA] at e3
      refine ⟨G, ?_, fun j h3 h4 => ?_, fun j h3 => ?_⟩
      · simp only [fX12_land_l6, g1, g2, cl, nI_1, ↓reduceIte, Option.bind_some, or_self, or_false, false_or, or_true, true_or, and_true, true_and, and_false, false_and, not_true_eq_false, not_false_eq_true]
        exact e1
      · rcases Nat.eq_or_lt_of_le h3 with h5 | h5
        · subst h5
          rw [e3 i (by omega), pk_us]
        · rw [e2 j h5 h4]
          show va_up mo.1.2 5 (upd (mo.1.2 5) i (mo.1.2 6 i)) 6 j = _
          rw [va_up_ne _ _ (by omega)]
      · rw [e3 j (by omega), pk_un (by omega)]
    · have e : i = 58 := by omega
      subst e
      have g1 : (58 : Int32) ≤ nI 58 := Int32.le_refl _
      exact ⟨mo.1.2 5, by simp only [fX12_land_l6, g1, pz_MA0, ↓reduceIte, Option.bind_some, or_self, or_false, false_or, or_true, true_or, and_true, true_and, and_false, false_and, not_true_eq_false, not_false_eq_true], fun j h3 h4 => by omega, fun _ _ => rfl⟩
set_option maxHeartbeats 4000000 in
set_option maxRecDepth 100000 in
/-- the whole of a land, read in both -/
theorem pz_chain (N : Nat) (hN : 200000 ≤ N) {B : Nat → Nat} {n : Nat} {rd : zOS} {mo : zMS} {L : zLS} {KL : List Nat} {kc : Nat → zKC} {hb : Nat} (hT : pz_T B n rd mo) (h6 : rd.1 6 = nI 0) (h13 : mo.1.1 13 = nI 0) (h17 : mo.1.1 17 = 0) (h1 : rd.1 1 = mo.1.1 11) (z2 : L.1.1 2 = 0) (z6 : L.1.1 6 = 0) (z7 : L.1.1 7 = 0) (a2 : mo.1.2 6 2 = 0) (a3 : mo.1.2 6 3 = 0) (a4 : mo.1.2 6 4 = 0) (hlt : ∀ a, a ∈ KL → a < hb) (hw : pz_who KL kc L) : ∃ (r1 : zOS) (r2 r3 r4 r5 r6 : zOS × zLS) (KL' : List Nat) (kc' : Nat → zKC) (hb' : Nat) (m1 m2 m3 m4 m5 m6 m7 m8 mo' : zMS), (fX6_advance N rd = some r1 ∧ fX6_readLaw N r1 L = some r2 ∧ fX6_readPoints N r2.1 r2.2 = some r3 ∧ fX6_readChest N r3.1 r3.2 = some r4 ∧ fX6_readKeepers N KL kc hb r4.1 r4.2 = some (KL', kc', hb', r5.1, r5.2) ∧ fX6_readNews N r5.1 r5.2 = some r6) ∧ (fX12_next N mo = some m1 ∧ fX12_readLaw N m1 = some m2 ∧ fX12_mustBegin N m2 512970880104 = some m3 ∧ fX12_land_l2 N N m3 = some m4 ∧ fX12_readChest N m4 = some m5 ∧ fX12_mustBegin N m5 118083237733746 = some m6 ∧ fX12_land_l3 N N m6 = some m7 ∧ fX12_land_l4 N N m7 = some m8) ∧ pz_fnl N m8 mo' ∧ pz_R B n r6.1 mo' ∧ pz_fr mo mo' ∧ pz_ex KL kc KL' kc' ∧ pz_who KL' kc' r6.2 ∧ (mo'.1.1 17 = 0 → ∃ K P Q T, pz_A (mo'.1.2 6) K P Q T ∧ pz_Lp KL' kc' r6.2 (mo'.1.2 6) K P Q ∧ r6.2.1.1 3 = mo'.1.2 6 5) := by
  obtain ⟨r1, m1, x1, x2, x3, x4, x5, -⟩ := pz_aR N hN hT (Nat.zero_le _) h6 h13 h17 h1
  obtain ⟨rd2, l, t, m2, l', t', y1, y2, y3, y4, y5, y6⟩ := pz_rLaw N hN L x3
  have e1 : m1.1.2 6 = mo.1.2 6 := x4.2
  obtain ⟨rd3, L3, m3, m4, p1, p2, p3, p4, p5, p6, p7⟩ := pz_rPts N hN (zLi (zLi L 0 l) 1 t) y3 (fun _ => ⟨z2, by rw [y5, pk_un (by omega), pk_un (by omega), e1]; exact a2⟩)
  obtain ⟨rd4, ca, cb, cc, m5, ca', cb', cc', q1, q2, q3, q4, q5, q6⟩ := pz_rChest N hN L3 p4
  have hw4 : pz_who KL kc (zLi (zLi (zLi L3 3 ca) 4 cb) 5 cc) := by
    intro k a hk ha
    have ha : L3.2 k = some a := ha
    rw [p6] at ha
    exact hw k a hk ha
  obtain ⟨KL', kc', hb', rd5, L5, m6, m7, k1, k2, k3, k4, k5, k6, k7, k8⟩ := pz_rKps N hN KL kc hb (zLi (zLi (zLi L3 3 ca) 4 cb) 5 cc) hlt hw4 q3 (fun h => by
    obtain ⟨c4, -⟩ := q6 h
    obtain ⟨c2, -, f1, f2⟩ := p7 c4
    refine ⟨?_, ?_⟩
    · show L3.1.1 6 = 0
      rw [f1.1 6 (by decide)]
      exact z6
    · rw [q5, pk_un (by omega), pk_un (by omega), pk_un (by omega), f2 3 (by omega), y5, pk_un (by omega), pk_un (by omega), e1]
      exact a3)
  obtain ⟨rd6, L6, m8, mo', n1, n2, n3, n4, n5, n6, n7⟩ := pz_nwl N hN (B := B) (n := n) 9 0 (by omega) (by omega) N N rd5 L5 m7 (by omega) (by omega) k6 (fun h => by
    obtain ⟨c5, ⟨K, -, -, g1, g2, -⟩, f3, f4⟩ := k8 h
    obtain ⟨c4, -⟩ := q6 c5
    obtain ⟨c2, -, f1, f2⟩ := p7 c4
    refine ⟨by omega, ?_, ?_, g1.trans g2.symm, fun p hp => by omega⟩
    · rw [f3.1 7 (by decide)]
      show L3.1.1 7 = 0
      rw [f1.1 7 (by decide)]
      exact z7
    · rw [f4 4 (by omega), q5, pk_un (by omega), pk_un (by omega), pk_un (by omega), f2 4 (by omega), y5, pk_un (by omega), pk_un (by omega), e1]
      exact a4)
  have n1 : fX6_readNews_l2 N N 0 rd5 L5 = some (rd6, L6) := n1
  refine ⟨r1, (rd2, zLi (zLi L 0 l) 1 t), (rd3, L3), (rd4, zLi (zLi (zLi L3 3 ca) 4 cb) 5 cc), (rd5, L5), (rd6, L6), KL', kc', hb', m1, m2, m3, m4, m5, m6, m7, m8, mo', ⟨x1, y1, p1, q1, k1, ?_⟩, ⟨x2, y2, p2, p3, q2, k2, k3, n2⟩, n3, n4, pz_fr_t x4.1 (pz_fr_t y4 (pz_fr_t p5 (pz_fr_t q4 (pz_fr_t k7 n5)))), k4, ?_, fun h => ?_⟩
  · simp only [fX6_readNews, n1, ↓reduceIte, Option.bind_some, or_self, or_false, false_or, or_true, true_or, and_true, true_and, and_false, false_and, not_true_eq_false, not_false_eq_true]
  · intro k a hk ha
    have ha : L6.2 k = some a := ha
    rw [n6] at ha
    exact k5 k a hk ha
  · obtain ⟨c7, ⟨P, P8, ⟨g1, g2, g3, g4⟩⟩, f5, f6⟩ := n7 h
    obtain ⟨c5, ⟨K, K1, K6, ⟨s1, s2, s3⟩⟩, f3, f4⟩ := k8 c7
    obtain ⟨c4, rfl, rfl, rfl, ⟨xa, xa5, rfl⟩, ⟨xb, xb5, rfl⟩, ⟨xc, xc5, rfl⟩⟩ := q6 c5
    obtain ⟨c2, ⟨Q, Q1, Q8, ⟨u1, u2, u3, u4⟩⟩, f1, f2⟩ := p7 c4
    obtain ⟨rfl, l01, rfl, T, T1, T60, rfl⟩ := y6 c2
    have eA : ∀ j, ¬ (j = 4 ∨ (42 ≤ j ∧ j < 58)) → ¬ (j = 3 ∨ (24 ≤ j ∧ j < 42)) → j ≠ 5 → j ≠ 6 → j ≠ 7 → mo'.1.2 6 j = m4.1.2 6 j := by
      intro j h1 h2 h5 h6 h7
      rw [f6 j h1, f4 j h2, q5, pk_un h7, pk_un h6, pk_un h5]
    have eB : ∀ j, ¬ (j = 4 ∨ (42 ≤ j ∧ j < 58)) → ¬ (j = 3 ∨ (24 ≤ j ∧ j < 42)) → mo'.1.2 6 j = m5.1.2 6 j := by
      intro j h1 h2
      rw [f6 j h1, f4 j h2]
    have A3 : mo'.1.2 6 3 = nI K := by rw [f6 3 (by omega)]; exact s2
    have A2 : mo'.1.2 6 2 = nI Q := by rw [eA 2 (by omega) (by omega) (by omega) (by omega) (by omega)]; exact u2
    have A1 : mo'.1.2 6 1 = nI T := by rw [eA 1 (by omega) (by omega) (by omega) (by omega) (by omega), f2 1 (by omega), y5, pk_us]
    have A0 : mo'.1.2 6 0 = l := by rw [eA 0 (by omega) (by omega) (by omega) (by omega) (by omega), f2 0 (by omega), y5, pk_un (by omega), pk_us]
    have A5 : mo'.1.2 6 5 = nI xa := by rw [eB 5 (by omega) (by omega), q5, pk_un (by omega), pk_un (by omega), pk_us]
    have A6 : mo'.1.2 6 6 = nI xb := by rw [eB 6 (by omega) (by omega), q5, pk_un (by omega), pk_us]
    have A7 : mo'.1.2 6 7 = nI xc := by rw [eB 7 (by omega) (by omega), q5, pk_us]
    have L3i : ∀ j, j ≠ 7 → j ≠ 6 → j ≠ 5 → j ≠ 4 → j ≠ 3 → L6.1.1 j = L3.1.1 j := by
      intro j h7 h6 h5 h4 h3
      rw [f5.1 j (fun h => h7 (List.mem_singleton.mp h)), f3.1 j (fun h => h6 (List.mem_singleton.mp h))]
      show upd (upd (upd L3.1.1 3 _) 4 _) 5 _ j = _
      rw [pk_un h5, pk_un h4, pk_un h3]
    have L3a : ∀ j, j ∉ [12, 13] → L6.1.2 j = L3.1.2 j := by
      intro j hj
      rw [f5.2 j hj, f3.2 j (List.not_mem_nil)]
      rfl
    refine ⟨K, P, Q, T, ⟨K1, K6, P8, Q1, Q8, T1, T60, A3, g2, A2, A1, by rw [A0]; exact l01, ⟨xa, xa5, A5⟩, ⟨xb, xb5, A6⟩, ⟨xc, xc5, A7⟩, ?_, ?_, ?_⟩, ⟨g3, g1.trans g2.symm, ?_, ?_, ?_, ?_, ?_, ?_, g4, ?_⟩, ?_⟩
    · intro i hi
      obtain ⟨a, v, w1, w2, w3, w4, -, -⟩ := u3 i hi
      refine ⟨a, v, w1, w2, ?_, ?_⟩
      · rw [eA (8 + i) (by omega) (by omega) (by omega) (by omega) (by omega)]; exact w3
      · rw [eA (16 + i) (by omega) (by omega) (by omega) (by omega) (by omega)]; exact w4
    · intro i j hi hj
      rw [eA (8 + i) (by omega) (by omega) (by omega) (by omega) (by omega), eA (8 + j) (by omega) (by omega) (by omega) (by omega) (by omega)]
      exact u4 i j hi hj
    · intro k hk
      obtain ⟨a, w, n', c, w1, w2, w3, w4, w5, w6, w7, w8, w9, w10, w11⟩ := s3 k hk
      refine ⟨w, n', c, w4, w5, w6, w7, w8, ?_, ?_, ?_⟩
      · rw [f6 (24 + k) (by omega)]; exact w9
      · rw [f6 (30 + k) (by omega)]; exact w10
      · rw [f6 (36 + k) (by omega)]; exact w11
    · show L6.1.1 2 = _
      rw [L3i 2 (by omega) (by omega) (by omega) (by omega) (by omega), A2]; exact u1
    · show L6.1.1 1 = _
      rw [L3i 1 (by omega) (by omega) (by omega) (by omega) (by omega), f1.1 1 (by decide), A1]
      rfl
    · show L6.1.1 0 = _
      rw [L3i 0 (by omega) (by omega) (by omega) (by omega) (by omega), f1.1 0 (by decide), A0]
      rfl
    · show L6.1.1 4 = _
      rw [f5.1 4 (by decide), f3.1 4 (by decide), A6]
      rfl
    · show L6.1.1 5 = _
      rw [f5.1 5 (by decide), f3.1 5 (by decide), A7]
      rfl
    · intro i hi
      show L6.1.2 9 i = _ ∧ L6.1.2 10 i = _
      obtain ⟨a, v, w1, w2, w3, w4, w5, w6⟩ := u3 i hi
      rw [L3a 9 (by decide), L3a 10 (by decide), eA (8 + i) (by omega) (by omega) (by omega) (by omega) (by omega), eA (16 + i) (by omega) (by omega) (by omega) (by omega) (by omega)]
      exact ⟨w5.trans w3.symm, w6.trans w4.symm⟩
    · intro k hk
      obtain ⟨a, w, n', c, w1, w2, w3, w4, w5, w6, w7, w8, w9, w10, w11⟩ := s3 k hk
      refine ⟨a, ?_, w2, ?_⟩
      · show L6.2 k = _
        rw [n6]; exact w1
      · rw [f6 (24 + k) (by omega), f6 (30 + k) (by omega), f6 (36 + k) (by omega), w9, w10, w11]
        exact w3
    · show L6.1.1 3 = _
      rw [f5.1 3 (by decide), f3.1 3 (by decide), A5]
      rfl
