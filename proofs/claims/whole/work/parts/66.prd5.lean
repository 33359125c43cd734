/-! THE PURE LAYER: the readers' news -/
set_option maxHeartbeats 4000000 in
set_option maxRecDepth 100000 in
theorem pz_adN (N : Nat) (L : zLS) (a b : Int32) : ∃ L', fX4_addPiece N L a b = some L' ∧ L'.2 = L.2 ∧ pz_lf [7] [12, 13] L L' ∧ ∀ i, i < 8 → L.1.1 7 = nI i → L'.1.1 7 = nI (i + 1) ∧ L'.1.2 12 = upd (L.1.2 12) i a ∧ L'.1.2 13 = upd (L.1.2 13) i b := by
  rcases pk_ix (L.1.1 7) (show 8 < 2 ^ 31 by omega) with c | c | ⟨j, hj, e⟩
  · refine ⟨L, by unfold fX4_addPiece; rw [if_pos c], rfl, pz_lf_r _ _ _, fun i hi he => ?_⟩
    rw [he] at c
    exact absurd c (nI_pos (by omega))
  · by_cases d : L.1.1 7 < 0
    · refine ⟨L, by unfold fX4_addPiece; rw [if_pos d], rfl, pz_lf_r _ _ _, fun i hi he => ?_⟩
      rw [he] at d
      exact absurd d (nI_pos (by omega))
    · have c : (8 : Int32) ≤ L.1.1 7 := c
      refine ⟨L, by unfold fX4_addPiece; rw [if_neg d, if_pos c], rfl, pz_lf_r _ _ _, fun i hi he => ?_⟩
      rw [he] at c
      exact absurd c (nI_ge (b := 8) hi (by omega))
  · have g1 : ¬ nI j < 0 := nI_pos (by omega)
    have g2 : ¬ (8 : Int32) ≤ nI j := nI_ge (b := 8) hj (by omega)
    have g3 : ¬ 8 ≤ j := by omega
    have cl := nI_clamp (show j < 2 ^ 31 by omega)
    refine ⟨zLi (zLA (zLA L 12 (upd (L.1.2 12) j a)) 13 (upd (L.1.2 13) j b)) 7 (nI (j + 1)), ?_, rfl, ⟨fun k hk => ?_, fun k hk => ?_⟩, fun i hi he => ?_⟩
    · simp only [fX4_addPiece, e, g1, g2, g3, cl, nI_1, ↓reduceIte, Option.bind_some, or_self, or_false, false_or, or_true, true_or, and_true, true_and, and_false, false_and, not_true_eq_false, not_false_eq_true]
    · show upd L.1.1 7 _ k = _
      exact pk_un (fun h => hk (by rw [h]; decide))
    · show va_up (va_up L.1.2 12 _) 13 _ k = _
      rw [va_up_ne _ _ (fun h => hk (by rw [h]; decide)), va_up_ne _ _ (fun h => hk (by rw [h]; decide))]
    · have ij : i = j := (nI_eq (by omega) (by omega)).mp (he.symm.trans e)
      subst ij
      refine ⟨?_, ?_, ?_⟩
      · show upd L.1.1 7 (nI (i + 1)) 7 = _
        exact pk_us
      · show va_up (va_up L.1.2 12 (upd (L.1.2 12) i a)) 13 (upd (L.1.2 13) i b) 12 = _
        rw [va_up_ne _ _ (by omega), va_up_self]
      · show va_up (va_up L.1.2 12 (upd (L.1.2 12) i a)) 13 (upd (L.1.2 13) i b) 13 = _
        rw [va_up_self]
theorem pz_F6 {B : Nat → Nat} {n : Nat} {rd : zOS} {mo : zMS} (h : pz_R B n rd mo) (c : ¬ mo.1.1 17 = 0) : rd.1 4 = 6 := by
  rcases pz_R0 h with ⟨x, -⟩ | ⟨-, -, x⟩
  · exact absurd x c
  · exact x
/-- the class' sort of the token at hand, and the reference's -/
theorem pz_sr {B : Nat → Nat} {n : Nat} {rd : zOS} {mo : zMS} (h : pz_R B n rd mo) (c : mo.1.1 17 = 0) : (rd.1 4 = 2 ↔ mo.1.1 14 = 3) ∧ (rd.1 4 = 5 ↔ mo.1.1 14 = 1) ∧ ¬ rd.1 4 = 6 ∧ (rd.1 4 = 5 → ∀ N w, fX6_isWord N rd w = some 0) ∧ ∃ s, mo.1.1 15 = nI s ∧ s ≤ 500 ∧ (rd.1 4 = 2 → s < 500) := by
  have n5 := h.1.1
  rcases pz_R0 h with ⟨-, -, so, s, e, c1, c5, r4, r5, r6, m14, m15, m16, m13, se, en, -, -, ne⟩ | ⟨x, -⟩
  · rw [r4, m14]
    have q2 : nI so = 2 ↔ so = 2 := nI_eq (b := 2) (by omega) (by omega)
    have q5 : nI so = 5 ↔ so = 5 := nI_eq (b := 5) (by omega) (by omega)
    have q6 : nI so = 6 ↔ so = 6 := nI_eq (b := 6) (by omega) (by omega)
    have q1 : nI so = 1 ↔ so = 1 := nI_eq (b := 1) (by omega) (by omega)
    refine ⟨?_, ?_, fun h => by have := q6.mp h; omega, fun h N w => ?_, s, m15, by omega, fun h => by have := q2.mp h; have := ne (by omega); omega⟩
    · rw [q2]
      rcases (show so = 1 ∨ so = 2 ∨ so = 3 ∨ so = 4 ∨ so = 5 by omega) with rfl | rfl | rfl | rfl | rfl <;> decide
    · rw [q5]
      rcases (show so = 1 ∨ so = 2 ∨ so = 3 ∨ so = 4 ∨ so = 5 by omega) with rfl | rfl | rfl | rfl | rfl <;> decide
    · have z1 : ¬ nI so = 1 := fun g => by have := q1.mp g; have := q5.mp h; omega
      simp only [fX6_isWord, r4, z1, ↓reduceIte, Option.bind_some, or_self, or_false, false_or, or_true, true_or, and_true, true_and, and_false, false_and, not_true_eq_false, not_false_eq_true]
  · exact absurd c x
set_option maxHeartbeats 4000000 in
set_option maxRecDepth 100000 in
/-- who has a piece -/
theorem pz_sel (N : Nat) (hN : 200000 ≤ N) {B : Nat → Nat} {n : Nat} (L : zLS) (y1 y2 y3 : Int32) : ∀ f j, 500 - j ≤ f → ∀ (k k' : Nat) (x x' : Int32) (rd : zOS) (mo : zMS), f < k → f < k' → j ≤ 500 → pz_R B n rd mo → (mo.1.1 17 = 0 → x = x' ∧ L.1.1 6 = mo.1.2 6 3 ∧ ∃ s, mo.1.1 15 = nI s ∧ j ≤ s ∧ s ≤ 500) → ∃ v rd' w mo', fX6_readNews_l3 N L y1 y2 k x (nI j) rd = some (v, rd') ∧ fX12_readNews_l1 N y3 k' x' mo = some (w, mo') ∧ pz_R B n rd' mo' ∧ pz_fr6 mo mo' ∧ (mo'.1.1 17 = 0 → mo.1.1 17 = 0 ∧ v = w) := by
  have k3 : (3 : Int32).toNatClampNeg = 3 := rfl
  have fault : ∀ (k k' j : Nat) (x x' : Int32) (rd : zOS) (mo : zMS), pz_R B n rd mo → ¬ mo.1.1 17 = 0 → fX6_readNews_l3 N L y1 y2 (k + 1) x (nI j) rd = some (x, rd) ∧ fX12_readNews_l1 N y3 (k' + 1) x' mo = some (x', mo) := by
    intro k k' j x x' rd mo hR c
    have r6 := pz_F6 hR c
    constructor
    · by_cases g : (500 : Int32) ≤ nI j
      · simp only [fX6_readNews_l3, g, ↓reduceIte, Option.bind_some, or_self, or_false, false_or, or_true, true_or, and_true, true_and, and_false, false_and, not_true_eq_false, not_false_eq_true]
      · simp only [fX6_readNews_l3, g, r6, (show ¬ (6 : Int32) = 2 by decide), ↓reduceIte, Option.bind_some, or_self, or_false, false_or, or_true, true_or, and_true, true_and, and_false, false_and, not_true_eq_false, not_false_eq_true]
    · simp only [fX12_readNews_l1, c, ↓reduceIte, Option.bind_some, or_self, or_false, false_or, or_true, true_or, and_true, true_and, and_false, false_and, not_true_eq_false, not_false_eq_true]
  have other : ∀ (k k' j : Nat) (x x' : Int32) (rd : zOS) (mo : zMS), pz_R B n rd mo → mo.1.1 17 = 0 → ¬ rd.1 4 = 2 → fX6_readNews_l3 N L y1 y2 (k + 1) x (nI j) rd = some (x, rd) ∧ fX12_readNews_l1 N y3 (k' + 1) x' mo = some (x', mo) := by
    intro k k' j x x' rd mo hR c d
    have m14 : ¬ mo.1.1 14 = 3 := fun h => d ((pz_sr hR c).1.mpr h)
    constructor
    · by_cases g : (500 : Int32) ≤ nI j
      · simp only [fX6_readNews_l3, g, ↓reduceIte, Option.bind_some, or_self, or_false, false_or, or_true, true_or, and_true, true_and, and_false, false_and, not_true_eq_false, not_false_eq_true]
      · simp only [fX6_readNews_l3, g, d, ↓reduceIte, Option.bind_some, or_self, or_false, false_or, or_true, true_or, and_true, true_and, and_false, false_and, not_true_eq_false, not_false_eq_true]
    · simp only [fX12_readNews_l1, c, m14, ↓reduceIte, Option.bind_some, or_self, or_false, false_or, or_true, true_or, and_true, true_and, and_false, false_and, not_true_eq_false, not_false_eq_true]
  intro f
  induction f with
  | zero =>
    intro j hj k k' x x' rd mo hk hk' hj5 hR hI
    obtain ⟨k, rfl⟩ : ∃ y, k = y + 1 := ⟨k - 1, by omega⟩
    obtain ⟨k', rfl⟩ : ∃ y, k' = y + 1 := ⟨k' - 1, by omega⟩
    by_cases c : mo.1.1 17 = 0
    · obtain ⟨i1, i2, s, i3, i4, i5⟩ := hI c
      have d : ¬ rd.1 4 = 2 := by
        intro d
        obtain ⟨-, -, -, -, s', s1, s2, s3⟩ := pz_sr hR c
        have := s3 d
        have e : s' = s := (nI_eq (by omega) (by omega)).mp (s1.symm.trans i3)
        omega
      obtain ⟨o1, o2⟩ := other k k' j x x' rd mo hR c d
      exact ⟨x, rd, x', mo, o1, o2, hR, pz_fr6_r mo, fun _ => ⟨c, i1⟩⟩
    · obtain ⟨o1, o2⟩ := fault k k' j x x' rd mo hR c
      exact ⟨x, rd, x', mo, o1, o2, hR, pz_fr6_r mo, fun h => absurd h c⟩
  | succ f ih =>
    intro j hj k k' x x' rd mo hk hk' hj5 hR hI
    obtain ⟨k, rfl⟩ : ∃ y, k = y + 1 := ⟨k - 1, by omega⟩
    obtain ⟨k', rfl⟩ : ∃ y, k' = y + 1 := ⟨k' - 1, by omega⟩
    by_cases c : mo.1.1 17 = 0
    · obtain ⟨i1, i2, s, i3, i4, i5⟩ := hI c
      by_cases d : rd.1 4 = 2
      · obtain ⟨e1, -, -, -, s', s1, s2, s3⟩ := pz_sr hR c
        have m14 := e1.mp d
        have s5 := s3 d
        have e : s' = s := (nI_eq (by omega) (by omega)).mp (s1.symm.trans i3)
        subst e
        have g : ¬ (500 : Int32) ≤ nI j := nI_ge (b := 500) (by omega) (by omega)
        obtain ⟨v1, rd1, w1, m1, b1, b2, b3, b4, b5⟩ := pz_num N hN hR 0 (L.1.1 6 - 1) 0 (mo.1.2 6 3 - 1) (fun _ => ⟨rfl, by rw [i2]⟩)
        subst i1
        have st : ∀ z, (m1.1.1 17 = 0 → x ||| ((1 : Int32) <<< (v1 &&& 31)) = z) → m1.1.1 17 = 0 → x ||| ((1 : Int32) <<< (v1 &&& 31)) = z ∧ L.1.1 6 = m1.1.2 6 3 ∧ ∃ s, m1.1.1 15 = nI s ∧ j + 1 ≤ s ∧ s ≤ 500 := by
          intro z hz h
          obtain ⟨-, -, -, -, -, t, t', t1, t2, t3, t4⟩ := b5 h
          have n5 := hR.1.1
          have e : t = s' := (nI_eq (by omega) (by omega)).mp (t1.symm.trans i3)
          exact ⟨hz h, by rw [b4.2]; exact i2, t', t2, by omega, by omega⟩
        by_cases c1 : m1.1.1 17 = 0
        · have vw := (b5 c1).2.1
          obtain ⟨v, rd', w, mo', o1, o2, o3, o4, o5⟩ := ih (j + 1) (by omega) k k' (x ||| ((1 : Int32) <<< (v1 &&& 31))) (x ||| ((1 : Int32) <<< (w1 &&& 31))) rd1 m1 (by omega) (by omega) (by omega) b3 (st _ (fun _ => by rw [vw]))
          refine ⟨v, rd', w, mo', ?_, ?_, o3, pz_fr6_t b4 o4, fun h => ⟨c, (o5 h).2⟩⟩
          · simp only [fX6_readNews_l3, g, d, b1, nI_1, ↓reduceIte, Option.bind_some, or_self, or_false, false_or, or_true, true_or, and_true, true_and, and_false, false_and, not_true_eq_false, not_false_eq_true]
            exact o1
          · simp only [fX12_readNews_l1, c, m14, k3, b2, c1, ↓reduceIte, Option.bind_some, or_self, or_false, false_or, or_true, true_or, and_true, true_and, and_false, false_and, not_true_eq_false, not_false_eq_true]
            exact o2
        · obtain ⟨v, rd', w, mo', o1, o2, o3, o4, o5⟩ := ih (j + 1) (by omega) k k' (x ||| ((1 : Int32) <<< (v1 &&& 31))) (x ||| 0) rd1 m1 (by omega) (by omega) (by omega) b3 (st _ (fun h => absurd h c1))
          refine ⟨v, rd', w, mo', ?_, ?_, o3, pz_fr6_t b4 o4, fun h => ⟨c, (o5 h).2⟩⟩
          · simp only [fX6_readNews_l3, g, d, b1, nI_1, ↓reduceIte, Option.bind_some, or_self, or_false, false_or, or_true, true_or, and_true, true_and, and_false, false_and, not_true_eq_false, not_false_eq_true]
            exact o1
          · simp only [fX12_readNews_l1, c, m14, k3, b2, c1, ↓reduceIte, Option.bind_some, or_self, or_false, false_or, or_true, true_or, and_true, true_and, and_false, false_and, not_true_eq_false, not_false_eq_true]
            exact o2
      · obtain ⟨o1, o2⟩ := other k k' j x x' rd mo hR c d
        exact ⟨x, rd, x', mo, o1, o2, hR, pz_fr6_r mo, fun _ => ⟨c, i1⟩⟩
    · obtain ⟨o1, o2⟩ := fault k k' j x x' rd mo hR c
      exact ⟨x, rd, x', mo, o1, o2, hR, pz_fr6_r mo, fun h => absurd h c⟩
def pz_N (P : Nat) (L : zLS) (A : Nat → Int32) : Prop := L.1.1 7 = nI P ∧ A 4 = nI P ∧ L.1.1 6 = A 3 ∧ ∀ p, p < P → L.1.2 12 p = A (42 + p) ∧ L.1.2 13 p = A (50 + p)
set_option maxHeartbeats 4000000 in
set_option maxRecDepth 100000 in
theorem pz_nwb (N : Nat) (hN : 200000 ≤ N) {B : Nat → Nat} {n : Nat} {rd : zOS} {mo : zMS} (h : pz_R B n rd mo) (h1 : fX6_isWord N rd 6 = some 1) (h17 : mo.1.1 17 = 0) {i : Nat} (hi : i ≤ 8) {L : zLS} (hP : pz_N i L (mo.1.2 6)) : ∃ u7 u8 u24 u21 L' mo', fX6_takeWordOf N rd 6 (nI i) 8 = some u7 ∧ fX6_takeNumber N u7 0 999 = some u8 ∧ fX6_readNews_l3 N L (nI i) u8.1 N 0 0 u8.2 = some u24 ∧ fX6_takeSign N u24.2 = some u21 ∧ fX4_addPiece N L u8.1 u24.1 = some L' ∧ fX12_readNews N mo = some mo' ∧ pz_R B n u21 mo' ∧ pz_fr mo mo' ∧ L'.2 = L.2 ∧ (mo'.1.1 17 = 0 → i < 8 ∧ pz_N (i + 1) L' (mo'.1.2 6) ∧ pz_lf [7] [12, 13] L L' ∧ ∀ j, ¬ (j = 4 ∨ (42 ≤ j ∧ j < 58)) → mo'.1.2 6 j = mo.1.2 6 j) := by
  obtain ⟨p1, p2, p3, p4⟩ := hP
  obtain ⟨rd1, m1, a1, a2, a3, a4, a5⟩ := pz_tb N hN h h1 h17 (a := 4) (by omega) hi (by omega) p2
  have a1 : fX6_takeWordOf N rd 6 (nI i) 8 = some rd1 := a1
  have a2 : fX12_begins N mo 4 8 = some m1 := a2
  obtain ⟨v1, rd2, w1, m2, b1, b2, b3, b4, b5⟩ := pz_num N hN a3 0 999 0 999 (fun _ => ⟨rfl, rfl⟩)
  have e2 : m2.1.2 6 = mo.1.2 6 := by rw [b4.2, a4.2]
  obtain ⟨v2, rd3, w2, m3, c1, c2, c3, c4, c5⟩ := pz_sel N hN (B := B) (n := n) L (nI i) v1 w1 500 0 (by omega) N N 0 0 rd2 m2 (by omega) (by omega) (by omega) b3 (fun h => ⟨rfl, by rw [e2]; exact p3, by
    obtain ⟨-, -, -, -, s, s1, s2, -⟩ := pz_sr b3 h
    exact ⟨s, s1, by omega, s2⟩⟩)
  have c1 : fX6_readNews_l3 N L (nI i) v1 N 0 0 rd2 = some (v2, rd3) := c1
  obtain ⟨rd4, m4, d1, d2, d3, d4, d5⟩ := pz_tsg N hN c3
  obtain ⟨L', l1, l2, l3, l4⟩ := pz_adN N L v1 v2
  have k4 : (4 : Int32).toNatClampNeg = 4 := rfl
  have e4 : m4.1.2 6 = mo.1.2 6 := by rw [d4.2, c4.2, b4.2, a4.2]
  have t4 : m4.1.2 6 4 = nI i := by rw [e4]; exact p2
  have q42 : (42 : Int32) + nI i = nI (42 + i) := nI_add 42 i
  have q50 : (50 : Int32) + nI i = nI (50 + i) := nI_add 50 i
  have s1 : ∀ (f : Nat → Int32) (x : Int32), upd f (42 + i) x 4 = f 4 := fun f x => pk_un (by omega)
  have s2 : ∀ (f : Nat → Int32) (x : Int32), upd f (50 + i) x 4 = f 4 := fun f x => pk_un (by omega)
  have fr4 : pz_fr mo m4 := (pz_fr6_t a4 (pz_fr6_t b4 (pz_fr6_t c4 d4))).1
  by_cases c17 : m4.1.1 17 = 0
  · obtain ⟨g1, g2⟩ := c5 (d5 c17)
    obtain ⟨f1, f2, -⟩ := b5 g1
    have i8 := a5 f1
    have r42 := pz_ni (show 42 + i < 58 by omega) (by omega)
    have r50 := pz_ni (show 50 + i < 58 by omega) (by omega)
    have cl42 := nI_clamp (show 42 + i < 2 ^ 31 by omega)
    have cl50 := nI_clamp (show 50 + i < 2 ^ 31 by omega)
    subst g2
    subst f2
    have rE : fX12_readNews N mo = some (zMA m4 6 (upd (upd (upd (m4.1.2 6) (42 + i) v1) (50 + i) v2) 4 (nI (i + 1)))) := by
      simp only [fX12_readNews, a2, b2, c2, d2, c17, k4, t4, q42, q50, r42, r50, cl42, cl50, s1, s2, pz_MAA, nI_1, ↓reduceIte, Option.bind_some, or_self, or_false, false_or, or_true, true_or, and_true, true_and, and_false, false_and, not_true_eq_false, not_false_eq_true]
    obtain ⟨n1, n2, n3⟩ := l4 i i8 p1
    refine ⟨rd1, (v1, rd2), (v2, rd3), rd4, L', _, a1, b1, c1, d1, l1, rE, pz_R6 d3 _, pz_fr_t fr4 (pz_fr_6 m4 _), l2, fun _ => ⟨i8, ⟨n1, ?_, ?_, ?_⟩, l3, ?_⟩⟩
    · rw [pz_MA, pk_us]
    · rw [pz_MA, pk_un (by omega), pk_un (by omega), pk_un (by omega), e4, l3.1 6 (by decide)]
      exact p3
    · intro p hp
      rw [pz_MA, n2, n3]
      rcases Nat.lt_or_ge p i with c | c
      · rw [pk_un (by omega), pk_un (by omega), pk_un (by omega), pk_un (by omega), pk_un (by omega), pk_un (by omega), pk_un (by omega), pk_un (by omega), e4]
        exact p4 p c
      · have pi : p = i := by omega
        subst pi
        rw [pk_us, pk_us, pk_un (by omega), pk_un (by omega), pk_us, pk_un (by omega), pk_us]
        exact ⟨rfl, rfl⟩
    · intro j hj
      rw [pz_MA, pk_un (by omega), pk_un (by omega), pk_un (by omega), e4]
  · refine ⟨rd1, (v1, rd2), (v2, rd3), rd4, L', m4, a1, b1, c1, d1, l1, ?_, d3, fr4, l2, fun h => absurd h c17⟩
    simp only [fX12_readNews, a2, b2, c2, d2, c17, ↓reduceIte, Option.bind_some, or_self, or_false, false_or, or_true, true_or, and_true, true_and, and_false, false_and, not_true_eq_false, not_false_eq_true]
/-- the reference's last look: the tape's end -/
def pz_fnl (N : Nat) (m m' : zMS) : Prop := (m.1.1 17 = 0 ∧ m.1.1 14 = 1 ∧ m' = m) ∨ (m.1.1 17 = 0 ∧ ¬ m.1.1 14 = 1 ∧ fX12_bad N m 1 = some m' ∧ ¬ m'.1.1 17 = 0) ∨ (¬ m.1.1 17 = 0 ∧ m' = m)
theorem pz_l4x (N : Nat) {mo : zMS} {v : Int64} {k : Nat} (h : fX12_word N mo = some v) (hv : ¬ v = 1852143475) : fX12_land_l4 N (k + 1) mo = some mo := by
  simp only [fX12_land_l4, h, pz_lgc, hv, ↓reduceIte, Option.bind_some, or_self, or_false, false_or, or_true, true_or, and_true, true_and, and_false, false_and, not_true_eq_false, not_false_eq_true]
theorem pz_nwx (N : Nat) {rd : zOS} {i k : Nat} (L : zLS) (h : rd.1 4 = 5 ∨ rd.1 4 = 6) : fX6_readNews_l2 N (k + 1) (nI i) rd L = some (rd, L) := by
  by_cases g : (8 : Int32) < nI i
  · simp only [fX6_readNews_l2, g, ↓reduceIte, Option.bind_some, or_self, or_false, false_or, or_true, true_or, and_true, true_and, and_false, false_and, not_true_eq_false, not_false_eq_true]
  · rcases h with h | h
    · simp only [fX6_readNews_l2, g, h, ↓reduceIte, Option.bind_some, or_self, or_false, false_or, or_true, true_or, and_true, true_and, and_false, false_and, not_true_eq_false, not_false_eq_true]
    · simp only [fX6_readNews_l2, g, h, (show ¬ (6 : Int32) = 5 by decide), ↓reduceIte, Option.bind_some, or_self, or_false, false_or, or_true, true_or, and_true, true_and, and_false, false_and, not_true_eq_false, not_false_eq_true]
set_option maxHeartbeats 4000000 in
set_option maxRecDepth 100000 in
theorem pz_nwl (N : Nat) (hN : 200000 ≤ N) {B : Nat → Nat} {n : Nat} : ∀ f i, i ≤ 9 → 9 - i ≤ f → ∀ (k k' : Nat) (rd : zOS) (L : zLS) (mo : zMS), f + 1 < k → f < k' → pz_R B n rd mo → (mo.1.1 17 = 0 → i ≤ 8 ∧ pz_N i L (mo.1.2 6)) → ∃ rd' L' m1 mo', fX6_readNews_l2 N k (nI i) rd L = some (rd', L') ∧ fX12_land_l4 N k' mo = some m1 ∧ pz_fnl N m1 mo' ∧ pz_R B n rd' mo' ∧ pz_fr mo mo' ∧ L'.2 = L.2 ∧ (mo'.1.1 17 = 0 → mo.1.1 17 = 0 ∧ (∃ P, P ≤ 8 ∧ pz_N P L' (mo'.1.2 6)) ∧ pz_lf [7] [12, 13] L L' ∧ ∀ j, ¬ (j = 4 ∨ (42 ≤ j ∧ j < 58)) → mo'.1.2 6 j = mo.1.2 6 j) := by
  -- no news is at hand
  have out : ∀ i, i ≤ 9 → ∀ (k k' : Nat) (rd : zOS) (L : zLS) (mo : zMS) (v : Int64), pz_R B n rd mo → (mo.1.1 17 = 0 → i ≤ 8 ∧ pz_N i L (mo.1.2 6)) → fX6_isWord N rd 6 = some 0 → fX12_word N mo = some v → ¬ v = 1852143475 → ∃ rd' L' m1 mo', fX6_readNews_l2 N (k + 2) (nI i) rd L = some (rd', L') ∧ fX12_land_l4 N (k' + 1) mo = some m1 ∧ pz_fnl N m1 mo' ∧ pz_R B n rd' mo' ∧ pz_fr mo mo' ∧ L'.2 = L.2 ∧ (mo'.1.1 17 = 0 → mo.1.1 17 = 0 ∧ (∃ P, P ≤ 8 ∧ pz_N P L' (mo'.1.2 6)) ∧ pz_lf [7] [12, 13] L L' ∧ ∀ j, ¬ (j = 4 ∨ (42 ≤ j ∧ j < 58)) → mo'.1.2 6 j = mo.1.2 6 j) := by
    intro i h9 k k' rd L mo v hR hI iw wv e
    have lx := pz_l4x N (k := k') wv e
    by_cases c : mo.1.1 17 = 0
    · obtain ⟨i8, hP⟩ := hI c
      obtain ⟨e1, e5, e6, -, -⟩ := pz_sr hR c
      by_cases d : rd.1 4 = 5
      · exact ⟨rd, L, mo, mo, pz_nwx N L (.inl d), lx, .inl ⟨c, e5.mp d, rfl⟩, hR, (pz_fr6_r mo).1, rfl, fun _ => ⟨c, ⟨i, i8, hP⟩, pz_lf_r _ _ _, fun _ _ => rfl⟩⟩
      · obtain ⟨rd', mo', f1, f2, f3, f4, f5, -⟩ := pz_bd N hR (q := 1) (by omega) (by omega)
        have f1 : fX6_stick N rd 1 = some rd' := f1
        have f2 : fX12_bad N mo 1 = some mo' := f2
        have r6 := pz_F6 f3 f5
        obtain ⟨g1, g2, g3, g4, g5, g6, g7⟩ := pz_f6 N r6
        have tw : fX6_takeWordOf N rd 6 (nI i) 8 = some rd' := by
          simp only [fX6_takeWordOf, fX6_takeWord, iw, f1, ↓reduceIte, Option.bind_some, or_self, or_false, false_or, or_true, true_or, and_true, true_and, and_false, false_and, not_true_eq_false, not_false_eq_true, pz_10, pz_01, eq_self]
        have g : ¬ (8 : Int32) < nI i := nI_nlt (a := 8) (by omega) (by omega)
        obtain ⟨L1, l1, l2, -⟩ := pz_adN N L 0 0
        obtain ⟨M, hM⟩ : ∃ M, N = M + 1 := ⟨N - 1, by omega⟩
        have l3 : fX6_readNews_l3 N L (nI i) 0 (M + 1) 0 0 rd' = some (0, rd') := by
          simp only [fX6_readNews_l3, (show ¬ (500 : Int32) ≤ 0 by decide), r6, (show ¬ (6 : Int32) = 2 by decide), ↓reduceIte, Option.bind_some, or_self, or_false, false_or, or_true, true_or, and_true, true_and, and_false, false_and, not_true_eq_false, not_false_eq_true]
        rw [← hM] at l3
        refine ⟨rd', L1, mo, mo', ?_, lx, .inr (.inl ⟨c, fun h => d (e5.mpr h), f2, f5⟩), f3, f4.1, l2, fun h => absurd h f5⟩
        rw [fX6_readNews_l2]
        simp only [g, d, e6, tw, g4, l3, g5, l1, nI_1, ↓reduceIte, Option.bind_some, or_self, or_false, false_or, or_true, true_or, and_true, true_and, and_false, false_and, not_true_eq_false, not_false_eq_true]
        exact pz_nwx N L1 (.inr r6)
    · exact ⟨rd, L, mo, mo, pz_nwx N L (.inr (pz_F6 hR c)), lx, .inr (.inr ⟨c, rfl⟩), hR, (pz_fr6_r mo).1, rfl, fun h => absurd h c⟩
  intro f
  induction f with
  | zero =>
    intro i h9 hf k k' rd L mo hk hk' hR hI
    obtain ⟨k, rfl⟩ : ∃ y, k = y + 2 := ⟨k - 2, by omega⟩
    obtain ⟨k', rfl⟩ : ∃ y, k' = y + 1 := ⟨k' - 1, by omega⟩
    rcases pz_wd1 N hN hR (w := 6) (by omega) 1852143475 rfl with ⟨-, a, -⟩ | ⟨a, v, v1, e⟩
    · have := (hI a).1
      omega
    · exact out i h9 k k' rd L mo v hR hI a v1 e
  | succ f ih =>
    intro i h9 hf k k' rd L mo hk hk' hR hI
    obtain ⟨k, rfl⟩ : ∃ y, k = y + 2 := ⟨k - 2, by omega⟩
    obtain ⟨k', rfl⟩ : ∃ y, k' = y + 1 := ⟨k' - 1, by omega⟩
    rcases pz_wd1 N hN hR (w := 6) (by omega) 1852143475 rfl with ⟨a, a17, aw⟩ | ⟨a, v, v1, e⟩
    · obtain ⟨i8, hP⟩ := hI a17
      obtain ⟨u7, u8, u24, u21, L1, m1, b1, b2, b3, b4, b5, b6, b7, b8, b9, b10⟩ := pz_nwb N hN hR a a17 i8 hP
      obtain ⟨rd', L', m2, mo', c1, c2, c2', c3, c4, c5, c6⟩ := ih (i + 1) (by omega) (by omega) (k + 1) k' u21 L1 m1 (by omega) (by omega) b7 (fun h => ⟨by have := (b10 h).1; omega, (b10 h).2.1⟩)
      have g : ¬ (8 : Int32) < nI i := nI_nlt (a := 8) (by omega) (by omega)
      obtain ⟨-, -, s6, s5, -⟩ := pz_sr hR a17
      have n5 : ¬ rd.1 4 = 5 := by
        intro h
        have := (s5 h N 6).symm.trans a
        exact absurd (Option.some.inj this) (by decide)
      refine ⟨rd', L', m2, mo', ?_, ?_, c2', c3, pz_fr_t b8 c4, c5.trans b9, fun h => ?_⟩
      · rw [fX6_readNews_l2]
        simp only [g, n5, s6, b1, b2, b3, b4, b5, nI_1, ↓reduceIte, Option.bind_some, or_self, or_false, false_or, or_true, true_or, and_true, true_and, and_false, false_and, not_true_eq_false, not_false_eq_true]
        exact c1
      · simp only [fX12_land_l4, aw, pz_lgc, b6, ↓reduceIte, Option.bind_some, or_self, or_false, false_or, or_true, true_or, and_true, true_and, and_false, false_and, not_true_eq_false, not_false_eq_true, pz_10, pz_01, eq_self]
        exact c2
      · obtain ⟨d1, d2, d3, d4⟩ := c6 h
        obtain ⟨-, -, e1, e2⟩ := b10 d1
        exact ⟨a17, d2, pz_lf_t e1 d3, fun j hj => (d4 j hj).trans (e2 j hj)⟩
    · exact out i h9 k k' rd L mo v hR hI a v1 e
