/-! THE PURE LAYER: the readers' points -/
theorem pz_f6 (N : Nat) {rd : zOS} (h : rd.1 4 = 6) : (∀ w, fX6_isWord N rd w = some 0) ∧ (∀ w, fX6_takeWord N rd w = some rd) ∧ (∀ w x y, fX6_takeWordOf N rd w x y = some rd) ∧ (∀ a b, fX6_takeNumber N rd a b = some (0, rd)) ∧ fX6_takeSign N rd = some rd ∧ (∀ q, fX6_stick N rd q = some rd) ∧ fX6_takeKind N rd = some (0, rd) := by
  have s : ∀ q, fX6_stick N rd q = some rd := fun q => by unfold fX6_stick; rw [if_pos h]
  have w : ∀ w, fX6_isWord N rd w = some 0 := by
    intro w
    simp only [fX6_isWord, h, (show ¬ (6 : Int32) = 1 by decide), ↓reduceIte, Option.bind_some, or_self, or_false, false_or, or_true, true_or, and_true, true_and, and_false, false_and, not_true_eq_false, not_false_eq_true]
  have t : ∀ w', fX6_takeWord N rd w' = some rd := by
    intro w'
    simp only [fX6_takeWord, w, s, ↓reduceIte, Option.bind_some, or_self, or_false, false_or, or_true, true_or, and_true, true_and, and_false, false_and, not_true_eq_false, not_false_eq_true, pz_10, pz_01, eq_self]
  refine ⟨w, t, fun w' x y => ?_, fun a b => ?_, ?_, s, ?_⟩
  · simp only [fX6_takeWordOf, w, t, ↓reduceIte, Option.bind_some, or_self, or_false, false_or, or_true, true_or, and_true, true_and, and_false, false_and, not_true_eq_false, not_false_eq_true, pz_10, pz_01, eq_self]
  · simp only [fX6_takeNumber, h, (show ¬ (6 : Int32) = 2 by decide), s, ↓reduceIte, Option.bind_some, or_self, or_false, false_or, or_true, true_or, and_true, true_and, and_false, false_and, not_true_eq_false, not_false_eq_true]
  · simp only [fX6_takeSign, h, (show ¬ (6 : Int32) = 3 by decide), s, ↓reduceIte, Option.bind_some, or_self, or_false, false_or, or_true, true_or, and_true, true_and, and_false, false_and, not_true_eq_false, not_false_eq_true]
  · simp only [fX6_takeKind, fX6_kindNamed, w, s, ↓reduceIte, Option.bind_some, or_self, or_false, false_or, or_true, true_or, and_true, true_and, and_false, false_and, not_true_eq_false, not_false_eq_true, pz_10, pz_01, eq_self]
theorem pz_wd1 (N : Nat) (hN : 200000 ≤ N) {B : Nat → Nat} {n : Nat} {rd : zOS} {mo : zMS} (h : pz_R B n rd mo) {w : Nat} (hw : w < 12) (W : Int64) (hW : W = lN (pz_wc w)) : (fX6_isWord N rd w = some 1 ∧ mo.1.1 17 = 0 ∧ fX12_word N mo = some W) ∨ (fX6_isWord N rd w = some 0 ∧ ∃ v, fX12_word N mo = some v ∧ ¬ v = W) := by
  obtain ⟨v, v1, v2⟩ := pz_word N hN h
  obtain ⟨b, b1, b2, b3⟩ := v2 w hw
  cases b with
  | true => exact .inl ⟨b1, b3 rfl, v1.trans (congrArg some ((b2.mp rfl).trans hW.symm))⟩
  | false => exact .inr ⟨b1, v, v1, fun e => Bool.noConfusion (b2.mpr (e.trans hW))⟩
set_option maxHeartbeats 4000000 in
set_option maxRecDepth 100000 in
theorem pz_mb (N : Nat) (hN : 200000 ≤ N) {B : Nat → Nat} {n : Nat} {rd : zOS} {mo : zMS} (h : pz_R B n rd mo) {w : Nat} (hw : w < 12) (W : Int64) (hW : W = lN (pz_wc w)) : (fX6_isWord N rd w = some 1 ∧ mo.1.1 17 = 0 ∧ fX12_word N mo = some W ∧ fX12_mustBegin N mo W = some mo) ∨ ∃ rd' mo', (∀ x y, fX6_takeWordOf N rd w x y = some rd') ∧ fX12_mustBegin N mo W = some mo' ∧ pz_R B n rd' mo' ∧ pz_fr6 mo mo' ∧ ¬ mo'.1.1 17 = 0 := by
  rcases pz_wd1 N hN h hw W hW with ⟨a, b, c⟩ | ⟨a, v, v1, e⟩
  · refine .inl ⟨a, b, c, ?_⟩
    simp only [fX12_mustBegin, c, pz_lgc, ↓reduceIte, Option.bind_some, or_self, or_false, false_or, or_true, true_or, and_true, true_and, and_false, false_and, not_true_eq_false, not_false_eq_true, pz_10, pz_01, eq_self]
  · obtain ⟨rd', mo', f1, f2, f3, f4, f5, -⟩ := pz_bd N h (q := 1) (by omega) (by omega)
    have f1 : fX6_stick N rd 1 = some rd' := f1
    have f2 : fX12_bad N mo 1 = some mo' := f2
    refine .inr ⟨rd', mo', fun x y => ?_, ?_, f3, f4, f5⟩
    · simp only [fX6_takeWordOf, fX6_takeWord, a, f1, ↓reduceIte, Option.bind_some, or_self, or_false, false_or, or_true, true_or, and_true, true_and, and_false, false_and, not_true_eq_false, not_false_eq_true, pz_10, pz_01, eq_self]
    · simp only [fX12_mustBegin, v1, pz_lgc, e, f2, ↓reduceIte, Option.bind_some, or_self, or_false, false_or, or_true, true_or, and_true, true_and, and_false, false_and, not_true_eq_false, not_false_eq_true, pz_10, pz_01, eq_self]
set_option maxHeartbeats 4000000 in
set_option maxRecDepth 100000 in
/-- one more piece begins in both -/
theorem pz_tb (N : Nat) (hN : 200000 ≤ N) {B : Nat → Nat} {n : Nat} {rd : zOS} {mo : zMS} (h : pz_R B n rd mo) {w : Nat} (h1 : fX6_isWord N rd w = some 1) (h17 : mo.1.1 17 = 0) {a i m : Nat} (ha : a < 58) (hi : i ≤ m) (hm : m < 2 ^ 31) (hA : mo.1.2 6 a = nI i) : ∃ rd' mo', fX6_takeWordOf N rd w (nI i) (nI m) = some rd' ∧ fX12_begins N mo (nI a) (nI m) = some mo' ∧ pz_R B n rd' mo' ∧ pz_fr6 mo mo' ∧ (mo'.1.1 17 = 0 → i < m) := by
  have ra := pz_ni (show a < 58 from ha) (by omega)
  have cl := nI_clamp (show a < 2 ^ 31 by omega)
  have q : nI i = nI m ↔ i = m := nI_eq (by omega) hm
  rcases Nat.lt_or_ge i m with c | c
  · obtain ⟨rd', mo', f1, f2, f3, f4, f5, -⟩ := pz_mA N hN h h17
    have g : nI i < nI m := nI_lt c hm
    have ne : ¬ i = m := by omega
    refine ⟨rd', mo', ?_, ?_, f3, f4, fun _ => c⟩
    · simp only [fX6_takeWordOf, fX6_takeWord, h1, g, f1, ↓reduceIte, Option.bind_some, or_self, or_false, false_or, or_true, true_or, and_true, true_and, and_false, false_and, not_true_eq_false, not_false_eq_true, pz_10, pz_01, eq_self]
    · simp only [fX12_begins, ra, cl, hA, q, ne, f2, ↓reduceIte, Option.bind_some, or_self, or_false, false_or, or_true, true_or, and_true, true_and, and_false, false_and, not_true_eq_false, not_false_eq_true, pz_10, pz_01, eq_self]
  · have e : i = m := by omega
    subst e
    have g : ¬ nI i < nI i := Int32.lt_irrefl
    obtain ⟨rd', mo', f1, f2, f3, f4, f5, -⟩ := pz_bd N h (q := 3) (by omega) (by omega)
    have f1 : fX6_stick N rd 3 = some rd' := f1
    have f2 : fX12_bad N mo 3 = some mo' := f2
    have mx := (pz_mX N f3 f5 1 1).2.1
    have tw : fX6_takeWord N rd' w = some rd' := by
      rcases pz_R0 f3 with ⟨x, -⟩ | ⟨-, -, x⟩
      · exact absurd x f5
      · exact (pz_f6 N x).2.1 w
    refine ⟨rd', mo', ?_, ?_, f3, f4, fun h => absurd h f5⟩
    · simp only [fX6_takeWordOf, h1, g, f1, tw, ↓reduceIte, Option.bind_some, or_self, or_false, false_or, or_true, true_or, and_true, true_and, and_false, false_and, not_true_eq_false, not_false_eq_true, pz_10, pz_01, eq_self]
    · simp only [fX12_begins, ra, cl, hA, f2, mx, ↓reduceIte, Option.bind_some, or_self, or_false, false_or, or_true, true_or, and_true, true_and, and_false, false_and, not_true_eq_false, not_false_eq_true, pz_10, pz_01, eq_self]
/-- a land is the same but for some numbers and rows of its own -/
def pz_lf (S T : List Nat) (L L' : zLS) : Prop := (∀ j, j ∉ S → L'.1.1 j = L.1.1 j) ∧ ∀ j, j ∉ T → L'.1.2 j = L.1.2 j
theorem pz_lf_r (S T : List Nat) (L : zLS) : pz_lf S T L L := ⟨fun _ _ => rfl, fun _ _ => rfl⟩
theorem pz_lf_t {S T : List Nat} {a b c : zLS} (h : pz_lf S T a b) (g : pz_lf S T b c) : pz_lf S T a c := ⟨fun j hj => (g.1 j hj).trans (h.1 j hj), fun j hj => (g.2 j hj).trans (h.2 j hj)⟩
set_option maxHeartbeats 4000000 in
set_option maxRecDepth 100000 in
theorem pz_adP (N : Nat) (L : zLS) (a b : Int32) : ∃ L', fX4_addPoint N L a b = some L' ∧ L'.2 = L.2 ∧ pz_lf [2] [9, 10] L L' ∧ ∀ i, i < 8 → L.1.1 2 = nI i → L'.1.1 2 = nI (i + 1) ∧ L'.1.2 9 = upd (L.1.2 9) i a ∧ L'.1.2 10 = upd (L.1.2 10) i b := by
  rcases pk_ix (L.1.1 2) (show 8 < 2 ^ 31 by omega) with c | c | ⟨j, hj, e⟩
  · refine ⟨L, by unfold fX4_addPoint; rw [if_pos c], rfl, pz_lf_r _ _ _, fun i hi he => ?_⟩
    rw [he] at c
    exact absurd c (nI_pos (by omega))
  · by_cases d : L.1.1 2 < 0
    · refine ⟨L, by unfold fX4_addPoint; rw [if_pos d], rfl, pz_lf_r _ _ _, fun i hi he => ?_⟩
      rw [he] at d
      exact absurd d (nI_pos (by omega))
    · have c : (8 : Int32) ≤ L.1.1 2 := c
      refine ⟨L, by unfold fX4_addPoint; rw [if_neg d, if_pos c], rfl, pz_lf_r _ _ _, fun i hi he => ?_⟩
      rw [he] at c
      exact absurd c (nI_ge (b := 8) hi (by omega))
  · have g1 : ¬ nI j < 0 := nI_pos (by omega)
    have g2 : ¬ (8 : Int32) ≤ nI j := nI_ge (b := 8) hj (by omega)
    have g3 : ¬ 8 ≤ j := by omega
    have cl := nI_clamp (show j < 2 ^ 31 by omega)
    refine ⟨zLi (zLA (zLA L 9 (upd (L.1.2 9) j a)) 10 (upd (L.1.2 10) j b)) 2 (nI (j + 1)), ?_, rfl, ⟨fun k hk => ?_, fun k hk => ?_⟩, fun i hi he => ?_⟩
    · simp only [fX4_addPoint, e, g1, g2, g3, cl, nI_1, ↓reduceIte, Option.bind_some, or_self, or_false, false_or, or_true, true_or, and_true, true_and, and_false, false_and, not_true_eq_false, not_false_eq_true]
    · show upd L.1.1 2 _ k = _
      exact pk_un (fun h => hk (by rw [h]; decide))
    · show va_up (va_up L.1.2 9 _) 10 _ k = _
      rw [va_up_ne _ _ (fun h => hk (by rw [h]; decide)), va_up_ne _ _ (fun h => hk (by rw [h]; decide))]
    · have ij : i = j := (nI_eq (by omega) (by omega)).mp (he.symm.trans e)
      subst ij
      refine ⟨?_, ?_, ?_⟩
      · show upd L.1.1 2 (nI (i + 1)) 2 = _
        exact pk_us
      · show va_up (va_up L.1.2 9 (upd (L.1.2 9) i a)) 10 (upd (L.1.2 10) i b) 9 = _
        rw [va_up_ne _ _ (by omega), va_up_self]
      · show va_up (va_up L.1.2 9 (upd (L.1.2 9) i a)) 10 (upd (L.1.2 10) i b) 10 = _
        rw [va_up_self]
def pz_P (Q : Nat) (L : zLS) (A : Nat → Int32) : Prop := L.1.1 2 = nI Q ∧ A 2 = nI Q ∧ (∀ i, i < Q → ∃ a v, a ≤ 60 ∧ v ≤ 9999 ∧ A (8 + i) = nI a ∧ A (16 + i) = nI v ∧ L.1.2 9 i = nI a ∧ L.1.2 10 i = nI v) ∧ ∀ i j, i < j → j < Q → A (8 + i) < A (8 + j)
def pz_le (Q : Nat) (A : Nat → Int32) (x : Int32) : Prop := (Q = 0 ∧ x = 0) ∨ ∃ q a, Q = q + 1 ∧ a ≤ 60 ∧ A (8 + q) = nI a ∧ x = nI (a + 1)
set_option maxHeartbeats 4000000 in
set_option maxRecDepth 100000 in
theorem pz_ptb (N : Nat) (hN : 200000 ≤ N) {B : Nat → Nat} {n : Nat} {rd : zOS} {mo : zMS} (h : pz_R B n rd mo) (h1 : fX6_isWord N rd 3 = some 1) (h17 : mo.1.1 17 = 0) {i : Nat} (hi : i ≤ 8) {x : Int32} {L : zLS} (hP : pz_P i L (mo.1.2 6)) (hx : pz_le i (mo.1.2 6) x) : ∃ u6 u7 u8 u9 L' mo', fX6_takeWordOf N rd 3 (nI i) 8 = some u6 ∧ fX6_takeNumber N u6 x 60 = some u7 ∧ fX6_takeNumber N u7.2 0 9999 = some u8 ∧ fX6_takeSign N u8.2 = some u9 ∧ fX4_addPoint N L u7.1 u8.1 = some L' ∧ fX12_readWorth N mo = some mo' ∧ pz_R B n u9 mo' ∧ pz_fr mo mo' ∧ L'.2 = L.2 ∧ (mo'.1.1 17 = 0 → i < 8 ∧ pz_P (i + 1) L' (mo'.1.2 6) ∧ pz_le (i + 1) (mo'.1.2 6) (u7.1 + 1) ∧ pz_lf [2] [9, 10] L L' ∧ ∀ j, ¬ (j = 2 ∨ (8 ≤ j ∧ j < 24)) → mo'.1.2 6 j = mo.1.2 6 j) := by
  obtain ⟨p1, p2, p3, p4⟩ := hP
  obtain ⟨rd1, m1, a1, a2, a3, a4, a5⟩ := pz_tb N hN h h1 h17 (a := 2) (by omega) hi (by omega) p2
  have a1 : fX6_takeWordOf N rd 3 (nI i) 8 = some rd1 := a1
  have a2 : fX12_begins N mo 2 8 = some m1 := a2
  obtain ⟨v1, rd2, w1, m2, b1, b2, b3, b4, b5⟩ := pz_num N hN a3 x 60 x 60 (fun _ => ⟨rfl, rfl⟩)
  obtain ⟨v2, rd3, w2, m3, c1, c2, c3, c4, c5⟩ := pz_num N hN b3 0 9999 0 9999 (fun _ => ⟨rfl, rfl⟩)
  obtain ⟨rd4, m4, d1, d2, d3, d4, d5⟩ := pz_tsg N hN c3
  obtain ⟨L', l1, l2, l3, l4⟩ := pz_adP N L v1 v2
  have k2 : (2 : Int32).toNatClampNeg = 2 := rfl
  have e1 : m1.1.2 6 = mo.1.2 6 := a4.2
  have e2 : m1.1.2 6 2 = nI i := by rw [e1]; exact p2
  have e4 : m4.1.2 6 = mo.1.2 6 := by rw [d4.2, c4.2, b4.2, a4.2]
  have q8 : (8 : Int32) + nI i = nI (8 + i) := nI_add 8 i
  have q16 : (16 : Int32) + nI i = nI (16 + i) := nI_add 16 i
  have r8 := pz_ni (show 8 + i < 58 by omega) (by omega)
  have r16 := pz_ni (show 16 + i < 58 by omega) (by omega)
  have cl8 := nI_clamp (show 8 + i < 2 ^ 31 by omega)
  have cl16 := nI_clamp (show 16 + i < 2 ^ 31 by omega)
  have t2 : upd (upd (m4.1.2 6) (8 + i) w1) (16 + i) w2 2 = nI i := by
    rw [pk_un (by omega), pk_un (by omega), e4]
    exact p2
  have fr4 : pz_fr mo m4 := (pz_fr6_t a4 (pz_fr6_t b4 (pz_fr6_t c4 d4))).1
  have rE : fX12_readWorth N mo = if m4.1.1 17 = 0 then some (zMA m4 6 (upd (upd (upd (m4.1.2 6) (8 + i) w1) (16 + i) w2) 2 (nI (i + 1)))) else some m4 := by
    rcases hx with ⟨z, rfl⟩ | ⟨q, a, z, -, qa, rfl⟩
    · have z : (nI i = 0) = True := eq_true (by rw [z]; rfl)
      simp only [fX12_readWorth, a2, k2, e2, z, b2, c2, d2, q8, q16, r8, r16, cl8, cl16, t2, pz_MAA, nI_1, ↓reduceIte, Option.bind_some, or_self, or_false, false_or, or_true, true_or, and_true, true_and, and_false, false_and, not_true_eq_false, not_false_eq_true]
    · have zz : ¬ nI i = 0 := nI_ne0 (by omega) (by omega)
      have q81 : nI (8 + i) - 1 = nI (8 + q) := by
        rw [show (1 : Int32) = nI 1 from rfl, pk_sub (by omega)]
        congr 1
        omega
      have r81 := pz_ni (show 8 + q < 58 by omega) (by omega)
      have cl81 := nI_clamp (show 8 + q < 2 ^ 31 by omega)
      have eq : m1.1.2 6 (8 + q) = nI a := by rw [e1]; exact qa
      simp only [fX12_readWorth, a2, k2, e2, zz, q8, q81, r81, cl81, eq, nI_1, b2, c2, d2, q16, r8, r16, cl8, cl16, t2, pz_MAA, ↓reduceIte, Option.bind_some, or_self, or_false, false_or, or_true, true_or, and_true, true_and, and_false, false_and, not_true_eq_false, not_false_eq_true]
  by_cases c17 : m4.1.1 17 = 0
  · obtain ⟨g1, g2, ⟨y2, g3, g4⟩, -, -, -⟩ := c5 (d5 c17)
    obtain ⟨f1, f2, ⟨y1, f3, f4⟩, f5, f6, -⟩ := b5 g1
    have i8 := a5 f1
    have y60 : y1 ≤ 60 := (pz_rng (lo := 0) (hi := 60) f4 f3 (by rw [f4]; exact nI_pos' (by omega)) f6 (by omega) (by omega)).2
    subst g2
    subst f2
    subst g4
    subst f4
    obtain ⟨m1', m2', m3'⟩ := l4 i i8 p1
    refine ⟨rd1, (nI y1, rd2), (nI y2, rd3), rd4, L', _, a1, b1, c1, d1, l1, by rw [rE, if_pos c17], pz_R6 d3 _, pz_fr_t fr4 (pz_fr_6 m4 _), l2, fun _ => ⟨i8, ⟨m1', ?_, ?_, ?_⟩, ?_, l3, ?_⟩⟩
    · rw [pz_MA, pk_us]
    · intro j hj
      rw [pz_MA, m2', m3']
      rcases Nat.lt_or_ge j i with c | c
      · obtain ⟨a, v, s1, s2, s3, s4, s5, s6⟩ := p3 j c
        refine ⟨a, v, s1, s2, ?_, ?_, ?_, ?_⟩
        · rw [pk_un (by omega), pk_un (by omega), pk_un (by omega), e4]; exact s3
        · rw [pk_un (by omega), pk_un (by omega), pk_un (by omega), e4]; exact s4
        · rw [pk_un (by omega)]; exact s5
        · rw [pk_un (by omega)]; exact s6
      · have ji : j = i := by omega
        subst ji
        refine ⟨y1, y2, y60, g3, ?_, ?_, pk_us, pk_us⟩
        · rw [pk_un (by omega), pk_un (by omega), pk_us]
        · rw [pk_un (by omega), pk_us]
    · intro j k hjk hk
      rw [pz_MA]
      rcases Nat.lt_or_ge k i with c | c
      · rw [pk_un (by omega), pk_un (by omega), pk_un (by omega), pk_un (by omega), pk_un (by omega), pk_un (by omega), e4]
        exact p4 j k hjk c
      · have ki : k = i := by omega
        subst ki
        rw [pk_un (by omega), pk_un (by omega), pk_un (by omega), pk_un (by omega), pk_un (by omega), pk_us, e4]
        rcases hx with ⟨z, -⟩ | ⟨q, a, z, a60, qa, rfl⟩
        · omega
        · have la : a + 1 ≤ y1 := (nI_leI (by omega) (by omega)).mp f5
          have lt : nI a < nI y1 := nI_lt (by omega) (by omega)
          rcases Nat.lt_or_ge j q with d | d
          · exact Int32.lt_trans (by rw [← qa]; exact p4 j q d (by omega)) lt
          · rw [show j = q by omega, qa]
            exact lt
    · refine .inr ⟨i, y1, rfl, y60, ?_, nI_1 y1⟩
      rw [pz_MA, pk_un (by omega), pk_un (by omega), pk_us]
    · intro j hj
      rw [pz_MA, pk_un (by omega), pk_un (by omega), pk_un (by omega), e4]
  · exact ⟨rd1, (v1, rd2), (v2, rd3), rd4, L', m4, a1, b1, c1, d1, l1, by rw [rE, if_neg c17], d3, fr4, l2, fun h => absurd h c17⟩
theorem pz_ptx (N : Nat) {rd : zOS} {i k : Nat} {x : Int32} (L : zLS) (h : fX6_isWord N rd 3 = some 0) (h1 : 1 ≤ i) (h9 : i ≤ 9) : fX6_readPoints_l1 N (k + 1) x (nI i) rd L = some (rd, L) := by
  have z : ¬ nI i = 0 := nI_ne0 (by omega) (by omega)
  rcases Nat.lt_or_ge i 9 with c | c
  · have g : ¬ (8 : Int32) < nI i := nI_nlt (a := 8) (by omega) (by omega)
    simp only [fX6_readPoints_l1, z, g, h, ↓reduceIte, Option.bind_some, or_self, or_false, false_or, or_true, true_or, and_true, true_and, and_false, false_and, not_true_eq_false, not_false_eq_true, pz_10, pz_01, eq_self]
  · have g : (8 : Int32) < nI i := nI_lt (a := 8) (by omega) (by omega)
    simp only [fX6_readPoints_l1, z, g, ↓reduceIte, Option.bind_some, or_self, or_false, false_or, or_true, true_or, and_true, true_and, and_false, false_and, not_true_eq_false, not_false_eq_true]
theorem pz_l2x (N : Nat) {mo : zMS} {v : Int64} {k : Nat} (h : fX12_word N mo = some v) (hv : ¬ v = 512970880104) : fX12_land_l2 N (k + 1) mo = some mo := by
  simp only [fX12_land_l2, h, pz_lgc, hv, ↓reduceIte, Option.bind_some, or_self, or_false, false_or, or_true, true_or, and_true, true_and, and_false, false_and, not_true_eq_false, not_false_eq_true]
set_option maxHeartbeats 4000000 in
set_option maxRecDepth 100000 in
theorem pz_ptl (N : Nat) (hN : 200000 ≤ N) {B : Nat → Nat} {n : Nat} : ∀ f i, 1 ≤ i → i ≤ 9 → 9 - i ≤ f → ∀ (k k' : Nat) (x : Int32) (rd : zOS) (L : zLS) (mo : zMS), f < k → f < k' → pz_R B n rd mo → (mo.1.1 17 = 0 → i ≤ 8 ∧ pz_P i L (mo.1.2 6) ∧ pz_le i (mo.1.2 6) x) → ∃ rd' L' mo', fX6_readPoints_l1 N k x (nI i) rd L = some (rd', L') ∧ fX12_land_l2 N k' mo = some mo' ∧ pz_R B n rd' mo' ∧ pz_fr mo mo' ∧ L'.2 = L.2 ∧ (mo'.1.1 17 = 0 → mo.1.1 17 = 0 ∧ (∃ Q, 1 ≤ Q ∧ Q ≤ 8 ∧ pz_P Q L' (mo'.1.2 6)) ∧ pz_lf [2] [9, 10] L L' ∧ ∀ j, ¬ (j = 2 ∨ (8 ≤ j ∧ j < 24)) → mo'.1.2 6 j = mo.1.2 6 j) := by
  intro f
  induction f with
  | zero =>
    intro i h1 h9 hf k k' x rd L mo hk hk' hR hI
    obtain ⟨k, rfl⟩ : ∃ y, k = y + 1 := ⟨k - 1, by omega⟩
    obtain ⟨k', rfl⟩ : ∃ y, k' = y + 1 := ⟨k' - 1, by omega⟩
    rcases pz_wd1 N hN hR (w := 3) (by omega) 512970880104 rfl with ⟨-, a, -⟩ | ⟨a, v, v1, e⟩
    · have := (hI a).1
      omega
    · exact ⟨rd, L, mo, pz_ptx N L a h1 h9, pz_l2x N v1 e, hR, (pz_fr6_r mo).1, rfl, fun h => ⟨h, ⟨i, h1, (hI h).1, (hI h).2.1⟩, pz_lf_r _ _ _, fun _ _ => rfl⟩⟩
  | succ f ih =>
    intro i h1 h9 hf k k' x rd L mo hk hk' hR hI
    obtain ⟨k, rfl⟩ : ∃ y, k = y + 1 := ⟨k - 1, by omega⟩
    obtain ⟨k', rfl⟩ : ∃ y, k' = y + 1 := ⟨k' - 1, by omega⟩
    rcases pz_wd1 N hN hR (w := 3) (by omega) 512970880104 rfl with ⟨a, a17, aw⟩ | ⟨a, v, v1, e⟩
    · obtain ⟨i8, hP, hx⟩ := hI a17
      obtain ⟨u6, u7, u8, u9, L1, m1, b1, b2, b3, b4, b5, b6, b7, b8, b9, b10⟩ := pz_ptb N hN hR a a17 i8 hP hx
      obtain ⟨rd', L', mo', c1, c2, c3, c4, c5, c6⟩ := ih (i + 1) (by omega) (by omega) (by omega) k k' (u7.1 + 1) u9 L1 m1 (by omega) (by omega) b7 (fun h => ⟨by have := (b10 h).1; omega, (b10 h).2.1, (b10 h).2.2.1⟩)
      have z : ¬ nI i = 0 := nI_ne0 (by omega) (by omega)
      have g : ¬ (8 : Int32) < nI i := nI_nlt (a := 8) (by omega) (by omega)
      refine ⟨rd', L', mo', ?_, ?_, c3, pz_fr_t b8 c4, c5.trans b9, fun h => ?_⟩
      · simp only [fX6_readPoints_l1, z, g, a, b1, b2, b3, b4, b5, nI_1, ↓reduceIte, Option.bind_some, or_self, or_false, false_or, or_true, true_or, and_true, true_and, and_false, false_and, not_true_eq_false, not_false_eq_true, pz_10, pz_01, eq_self]
        exact c1
      · simp only [fX12_land_l2, aw, pz_lgc, b6, ↓reduceIte, Option.bind_some, or_self, or_false, false_or, or_true, true_or, and_true, true_and, and_false, false_and, not_true_eq_false, not_false_eq_true, pz_10, pz_01, eq_self]
        exact c2
      · obtain ⟨d1, d2, d3, d4⟩ := c6 h
        obtain ⟨-, -, -, e1, e2⟩ := b10 d1
        exact ⟨a17, d2, pz_lf_t e1 d3, fun j hj => (d4 j hj).trans (e2 j hj)⟩
    · exact ⟨rd, L, mo, pz_ptx N L a h1 h9, pz_l2x N v1 e, hR, (pz_fr6_r mo).1, rfl, fun h => ⟨h, ⟨i, h1, (hI h).1, (hI h).2.1⟩, pz_lf_r _ _ _, fun _ _ => rfl⟩⟩
set_option maxHeartbeats 4000000 in
set_option maxRecDepth 100000 in
theorem pz_rPts (N : Nat) (hN : 200000 ≤ N) {B : Nat → Nat} {n : Nat} {rd : zOS} {mo : zMS} (L : zLS) (h : pz_R B n rd mo) (h0 : mo.1.1 17 = 0 → L.1.1 2 = 0 ∧ mo.1.2 6 2 = 0) : ∃ rd' L' m1 mo', fX6_readPoints N rd L = some (rd', L') ∧ fX12_mustBegin N mo 512970880104 = some m1 ∧ fX12_land_l2 N N m1 = some mo' ∧ pz_R B n rd' mo' ∧ pz_fr mo mo' ∧ L'.2 = L.2 ∧ (mo'.1.1 17 = 0 → mo.1.1 17 = 0 ∧ (∃ Q, 1 ≤ Q ∧ Q ≤ 8 ∧ pz_P Q L' (mo'.1.2 6)) ∧ pz_lf [2] [9, 10] L L' ∧ ∀ j, ¬ (j = 2 ∨ (8 ≤ j ∧ j < 24)) → mo'.1.2 6 j = mo.1.2 6 j) := by
  obtain ⟨M, hM⟩ : ∃ M, N = M + 1 := ⟨N - 1, by omega⟩
  rcases pz_mb N hN h (w := 3) (by omega) 512970880104 rfl with ⟨a, a17, aw, am⟩ | ⟨rd1, m1, a1, a2, a3, a4, a5⟩
  · obtain ⟨z1, z2⟩ := h0 a17
    obtain ⟨u6, u7, u8, u9, L1, m1, b1, b2, b3, b4, b5, b6, b7, b8, b9, b10⟩ := pz_ptb N hN h a a17 (i := 0) (by omega) (x := 0) (L := L) ⟨z1, z2, fun i hi => by omega, fun i j _ hj => by omega⟩ (.inl ⟨rfl, rfl⟩)
    obtain ⟨rd', L', mo', c1, c2, c3, c4, c5, c6⟩ := pz_ptl N hN 8 1 (by omega) (by omega) (by omega) M M (u7.1 + 1) u9 L1 m1 (by omega) (by omega) b7 (fun h => ⟨by omega, (b10 h).2.1, (b10 h).2.2.1⟩)
    have b1 : fX6_takeWordOf N rd 3 0 8 = some u6 := b1
    have e1 : (0 : Int32) + 1 = nI 1 := rfl
    have l1 : fX6_readPoints_l1 N (M + 1) 0 0 rd L = some (rd', L') := by
      simp only [fX6_readPoints_l1, b1, b2, b3, b4, b5, e1, ↓reduceIte, Option.bind_some, or_self, or_false, false_or, or_true, true_or, and_true, true_and, and_false, false_and, not_true_eq_false, not_false_eq_true, pz_10, pz_01, eq_self]
      exact c1
    have l2 : fX12_land_l2 N (M + 1) mo = some mo' := by
      simp only [fX12_land_l2, aw, pz_lgc, b6, ↓reduceIte, Option.bind_some, or_self, or_false, false_or, or_true, true_or, and_true, true_and, and_false, false_and, not_true_eq_false, not_false_eq_true, pz_10, pz_01, eq_self]
      exact c2
    rw [← hM] at l1 l2
    refine ⟨rd', L', mo, mo', ?_, am, l2, c3, pz_fr_t b8 c4, c5.trans b9, fun h => ?_⟩
    · simp only [fX6_readPoints, l1, ↓reduceIte, Option.bind_some, or_self, or_false, false_or, or_true, true_or, and_true, true_and, and_false, false_and, not_true_eq_false, not_false_eq_true]
    · obtain ⟨d1, d2, d3, d4⟩ := c6 h
      obtain ⟨-, -, -, e1, e2⟩ := b10 d1
      exact ⟨a17, d2, pz_lf_t e1 d3, fun j hj => (d4 j hj).trans (e2 j hj)⟩
  · have r6 : rd1.1 4 = 6 := by
      rcases pz_R0 a3 with ⟨x, -⟩ | ⟨-, -, x⟩
      · exact absurd x a5
      · exact x
    obtain ⟨f1, f2, f3, f4, f5, f6, f7⟩ := pz_f6 N r6
    obtain ⟨L1, l1, l2, -⟩ := pz_adP N L 0 0
    obtain ⟨K, hK⟩ : ∃ K, M = K + 1 := ⟨M - 1, by omega⟩
    have ex := pz_ptx N (rd := rd1) (k := K) (x := 1) (i := 1) L1 (f1 3) (by omega) (by omega)
    rw [← hK] at ex
    have e1 : (0 : Int32) + 1 = nI 1 := rfl
    have ex : fX6_readPoints_l1 N M (nI 1) (nI 1) rd1 L1 = some (rd1, L1) := ex
    have cl : fX6_readPoints_l1 N (M + 1) 0 0 rd L = some (rd1, L1) := by
      simp only [fX6_readPoints_l1, a1, f4, f5, l1, e1, ex, ↓reduceIte, Option.bind_some, or_self, or_false, false_or, or_true, true_or, and_true, true_and, and_false, false_and, not_true_eq_false, not_false_eq_true, pz_10, pz_01, eq_self]
    rcases pz_wd1 N hN a3 (w := 3) (by omega) 512970880104 rfl with ⟨-, x, -⟩ | ⟨-, v, v1, e⟩
    · exact absurd x a5
    · have l2' := pz_l2x N (k := M) v1 e
      rw [← hM] at l2' cl
      refine ⟨rd1, L1, m1, m1, ?_, a2, l2', a3, a4.1, l2, fun h => absurd h a5⟩
      simp only [fX6_readPoints, cl, ↓reduceIte, Option.bind_some, or_self, or_false, false_or, or_true, true_or, and_true, true_and, and_false, false_and, not_true_eq_false, not_false_eq_true]
