/-! THE PURE LAYER: the readers' words, signs, numbers -/
theorem pz_lgc (x y : Int64) : (lg_cmp x y = 0) = (x = y) := propext (lg_cmp_eq x y)
set_option maxHeartbeats 4000000 in
set_option maxRecDepth 100000 in
theorem pz_tw (N : Nat) (hN : 200000 ≤ N) {B : Nat → Nat} {n w : Nat} {rd : zOS} {mo : zMS} (h : pz_R B n rd mo) (hw : w < 12) (W : Int64) (hW : W = lN (pz_wc w)) : ∃ rd' mo', fX6_takeWord N rd w = some rd' ∧ fX12_mustWord N mo W = some mo' ∧ pz_R B n rd' mo' ∧ pz_fr6 mo mo' ∧ (mo'.1.1 17 = 0 → mo.1.1 17 = 0) := by
  obtain ⟨v, v1, v2⟩ := pz_word N hN h
  obtain ⟨b, b1, b2, b3⟩ := v2 w hw
  by_cases c : mo.1.1 17 = 0
  · cases b with
    | true =>
      obtain ⟨rd', mo', f1, f2, f3, f4, f5, -⟩ := pz_mA N hN h c
      have e : v = W := (b2.mp rfl).trans hW.symm
      refine ⟨rd', mo', ?_, ?_, f3, f4, fun _ => c⟩
      · simp only [fX6_takeWord, b1, f1, ↓reduceIte, Option.bind_some, or_self, or_false, false_or, or_true, true_or, and_true, true_and, and_false, false_and, not_true_eq_false, not_false_eq_true, pz_10, pz_01, eq_self]
      · simp only [fX12_mustWord, c, v1, pz_lgc, e, f2, ↓reduceIte, Option.bind_some, or_self, or_false, false_or, or_true, true_or, and_true, true_and, and_false, false_and, not_true_eq_false, not_false_eq_true, pz_10, pz_01, eq_self]
    | false =>
      obtain ⟨rd', mo', f1, f2, f3, f4, f5⟩ := pz_mS N h
      have e : ¬ v = W := fun e => Bool.noConfusion (b2.mpr (e.trans hW))
      refine ⟨rd', mo', ?_, ?_, f3, f4, fun h => absurd h f5⟩
      · simp only [fX6_takeWord, b1, f1, Bool.false_eq_true, ↓reduceIte, Option.bind_some, or_self, or_false, false_or, or_true, true_or, and_true, true_and, and_false, false_and, not_true_eq_false, not_false_eq_true, pz_10, pz_01, eq_self]
      · simp only [fX12_mustWord, c, v1, pz_lgc, e, f2, ↓reduceIte, Option.bind_some, or_self, or_false, false_or, or_true, true_or, and_true, true_and, and_false, false_and, not_true_eq_false, not_false_eq_true, pz_10, pz_01, eq_self]
  · have hb : b = false := by
      cases b
      · rfl
      · exact absurd (b3 rfl) c
    subst hb
    obtain ⟨x1, x2, x3⟩ := pz_mX N h c 1 0
    refine ⟨rd, mo, ?_, ?_, h, pz_fr6_r mo, fun h => h⟩
    · simp only [fX6_takeWord, b1, x1, Bool.false_eq_true, ↓reduceIte, Option.bind_some, or_self, or_false, false_or, or_true, true_or, and_true, true_and, and_false, false_and, not_true_eq_false, not_false_eq_true, pz_10, pz_01, eq_self]
    · simp only [fX12_mustWord, c, ↓reduceIte, Option.bind_some, or_self, or_false, false_or, or_true, true_or, and_true, true_and, and_false, false_and, not_true_eq_false, not_false_eq_true]
set_option maxHeartbeats 4000000 in
set_option maxRecDepth 100000 in
theorem pz_tsg (N : Nat) (hN : 200000 ≤ N) {B : Nat → Nat} {n : Nat} {rd : zOS} {mo : zMS} (h : pz_R B n rd mo) : ∃ rd' mo', fX6_takeSign N rd = some rd' ∧ fX12_mustEnd N mo = some mo' ∧ pz_R B n rd' mo' ∧ pz_fr6 mo mo' ∧ (mo'.1.1 17 = 0 → mo.1.1 17 = 0) := by
  rcases pz_R0 h with ⟨a, b, so, s, e, c1, c5, r4, r5, r6, m14, -⟩ | ⟨a, a', c⟩
  · by_cases d : so = 3
    · subst d
      obtain ⟨rd', mo', f1, f2, f3, f4, f5, -⟩ := pz_mA N hN h a
      have m14 : mo.1.1 14 = 4 := m14
      have z : (nI 3 = 3) = True := eq_true rfl
      refine ⟨rd', mo', ?_, ?_, f3, f4, fun _ => a⟩
      · simp only [fX6_takeSign, r4, z, f1, ↓reduceIte, Option.bind_some, or_self, or_false, false_or, or_true, true_or, and_true, true_and, and_false, false_and, not_true_eq_false, not_false_eq_true]
      · simp only [fX12_mustEnd, a, m14, f2, ↓reduceIte, Option.bind_some, or_self, or_false, false_or, or_true, true_or, and_true, true_and, and_false, false_and, not_true_eq_false, not_false_eq_true]
    · obtain ⟨rd', mo', f1, f2, f3, f4, f5⟩ := pz_mS N h
      have m14 : ¬ mo.1.1 14 = 4 := by
        rw [m14]
        rcases (show so = 1 ∨ so = 2 ∨ so = 4 ∨ so = 5 by omega) with rfl | rfl | rfl | rfl <;> decide
      have z : ¬ nI so = 3 := by rw [show (3 : Int32) = nI 3 from rfl, nI_eq (by omega) (by omega)]; exact d
      refine ⟨rd', mo', ?_, ?_, f3, f4, fun h => absurd h f5⟩
      · simp only [fX6_takeSign, r4, z, f1, ↓reduceIte, Option.bind_some, or_self, or_false, false_or, or_true, true_or, and_true, true_and, and_false, false_and, not_true_eq_false, not_false_eq_true]
      · simp only [fX12_mustEnd, a, m14, f2, ↓reduceIte, Option.bind_some, or_self, or_false, false_or, or_true, true_or, and_true, true_and, and_false, false_and, not_true_eq_false, not_false_eq_true]
  · obtain ⟨x1, x2, x3⟩ := pz_mX N h a 1 0
    refine ⟨rd, mo, ?_, ?_, h, pz_fr6_r mo, fun h => h⟩
    · simp only [fX6_takeSign, c, (show ¬ (6 : Int32) = 3 by decide), x1, ↓reduceIte, Option.bind_some, or_self, or_false, false_or, or_true, true_or, and_true, true_and, and_false, false_and, not_true_eq_false, not_false_eq_true]
    · simp only [fX12_mustEnd, a, ↓reduceIte, Option.bind_some, or_self, or_false, false_or, or_true, true_or, and_true, true_and, and_false, false_and, not_true_eq_false, not_false_eq_true]
set_option maxHeartbeats 4000000 in
set_option maxRecDepth 100000 in
theorem pz_nbL (N : Nat) {B : Nat → Nat} {n s e : Nat} {rd : zOS} {mo : zMS} {x1 x2 : Int32} (hT : pz_T B n rd mo) (h16 : mo.1.1 16 = nI e) (h14 : mo.1.1 14 = 3) (hen : e ≤ n) (hd : ∀ i, s ≤ i → i < e → pz_so (B i) = 2) : ∀ f k i, s + i + f = e → f < k → fX12_number_l1 N mo x1 x2 k (nI (pz_nm B s i)) (nI (s + i)) = some (nI (pz_nm B s (i + f))) := by
  obtain ⟨h500, h0, h12, hb⟩ := hT
  intro f
  induction f with
  | zero =>
    intro k i h1 h2
    obtain ⟨k, rfl⟩ : ∃ x, k = x + 1 := ⟨k - 1, by omega⟩
    have g : nI e ≤ nI (s + i) := nI_le (by omega) (by omega)
    simp only [fX12_number_l1, h16, g, Nat.add_zero, ↓reduceIte, Option.bind_some, or_self, or_false, false_or, or_true, true_or, and_true, true_and, and_false, false_and, not_true_eq_false, not_false_eq_true]
  | succ f ih =>
    intro k i h1 h2
    obtain ⟨k, rfl⟩ : ∃ x, k = x + 1 := ⟨k - 1, by omega⟩
    have g : ¬ nI e ≤ nI (s + i) := nI_ge (by omega) (by omega)
    have i5 := pz_ni (show s + i < 500 by omega) (by omega)
    have cl := nI_clamp (show s + i < 2 ^ 31 by omega)
    obtain ⟨b1, -, b3⟩ := hb (s + i) (by omega)
    have r := (pz_so_r0 _ b1).2.2.2.2.2.1 (hd (s + i) (by omega) (by omega))
    have e1 : (10 : Int32) * nI (pz_nm B s i) + nI (B (s + i)) - 48 = nI (pz_nm B s (i + 1)) := by
      rw [show (10 : Int32) = nI 10 from rfl, show (48 : Int32) = nI 48 from rfl, pk_mul, nI_add, pk_sub (by omega), pz_nm]
      congr 1
      omega
    simp only [fX12_number_l1, h16, h14, g, i5, cl, b3, e1, nI_1, ↓reduceIte, Option.bind_some, or_self, or_false, false_or, or_true, true_or, and_true, true_and, and_false, false_and, not_true_eq_false, not_false_eq_true]
    have := ih k (i + 1) (by omega) (by omega)
    rw [show i + 1 + f = i + (f + 1) by omega] at this
    exact this
set_option maxHeartbeats 4000000 in
set_option maxRecDepth 100000 in
theorem pz_num (N : Nat) (hN : 200000 ≤ N) {B : Nat → Nat} {n : Nat} {rd : zOS} {mo : zMS} (h : pz_R B n rd mo) (c1 c2 r1 r2 : Int32) (hcr : mo.1.1 17 = 0 → c1 = r1 ∧ c2 = r2) : ∃ v rd' w mo', fX6_takeNumber N rd c1 c2 = some (v, rd') ∧ fX12_number N mo r1 r2 = some (w, mo') ∧ pz_R B n rd' mo' ∧ pz_fr6 mo mo' ∧ (mo'.1.1 17 = 0 → mo.1.1 17 = 0 ∧ v = w ∧ (∃ x, x ≤ 9999 ∧ v = nI x) ∧ c1 ≤ v ∧ v ≤ c2 ∧ ∃ s s', mo.1.1 15 = nI s ∧ mo'.1.1 15 = nI s' ∧ s < s' ∧ s' ≤ n) := by
  have hT := h.1
  have n5 := hT.1
  rcases pz_R0 h with ⟨a, b, so, s, e, d1, d5, r4, r5, r6, m14, m15, m16, m13, se, en, lt, fg, ne⟩ | ⟨a, a', c⟩
  · have a0 : mo.1.1 17 ≤ 0 := by rw [a]; exact Int32.le_refl _
    obtain ⟨e1, e2⟩ := hcr a
    subst e1; subst e2
    by_cases d : so = 2
    · subst d
      obtain ⟨f1, f2, f3⟩ := fg rfl
      have m14 : mo.1.1 14 = 3 := m14
      have z : (nI 2 = 2) = True := eq_true rfl
      have dg : ∀ i, i < e - s → B (s + i) ≤ 57 := by
        intro i hi
        have b1 := (hT.2.2.2 (s + i) (by omega)).1
        exact ((pz_so_r0 _ b1).2.2.2.2.2.1 (f1 (s + i) (by omega) (by omega))).2.2
      have n9 := pz_nm_4 B s f2 dg
      have nl := pz_nbL N (s := s) (x1 := c1) (x2 := c2) hT m16 m14 en f1 (e - s) N 0 (by omega) (by omega)
      rw [Nat.add_zero, Nat.zero_add] at nl
      have nl : fX12_number_l1 N mo c1 c2 N 0 (nI s) = some (nI (pz_nm B s (e - s))) := nl
      generalize pz_nm B s (e - s) = x at *
      rcases pz_wi N (nI x) c1 c2 with w | ⟨w, w1, w2⟩
      · obtain ⟨rd', mo', g1, g2, g3, g4, g5, g6⟩ := pz_bd N h (q := 2) (by omega) (by omega)
        have m14' : mo'.1.1 14 = 3 := g6.trans m14
        have mx := (pz_mX N g3 g5 1 1).2.1
        refine ⟨0, rd', nI x, mo', ?_, ?_, g3, g4, fun h => absurd h g5⟩
        · rw [show nI 2 = (2 : Int32) from rfl] at g1
          simp only [fX6_takeNumber, r4, z, f3, w, g1, ↓reduceIte, Option.bind_some, or_self, or_false, false_or, or_true, true_or, and_true, true_and, and_false, false_and, not_true_eq_false, not_false_eq_true, pz_10, pz_01, eq_self]
        · rw [show nI 2 = (2 : Int32) from rfl] at g2
          simp only [fX12_number, a0, m15, nl, m14, pz_in, w, g2, m14', mx, ↓reduceIte, Option.bind_some, or_self, or_false, false_or, or_true, true_or, and_true, true_and, and_false, false_and, not_true_eq_false, not_false_eq_true, pz_10, pz_01, eq_self]
      · obtain ⟨rd', mo', g1, g2, g3, g4, g5, e', s', g6, g7, g8, g9⟩ := pz_mA N hN h a
        have ee : e' = e := by
          have := g6.symm.trans r6
          rcases Nat.lt_or_ge e' (2 ^ 31) with q | q
          · exact (nI_eq q (by omega)).mp this
          · omega
        subst ee
        refine ⟨nI x, rd', nI x, mo', ?_, ?_, g3, g4, fun _ => ⟨a, rfl, ⟨x, n9, rfl⟩, w1, w2, s, s', m15, g7, by have := ne (by omega); omega, g9⟩⟩
        · simp only [fX6_takeNumber, r4, z, f3, w, g1, ↓reduceIte, Option.bind_some, or_self, or_false, false_or, or_true, true_or, and_true, true_and, and_false, false_and, not_true_eq_false, not_false_eq_true, pz_10, pz_01, eq_self]
        · simp only [fX12_number, a0, m15, nl, m14, pz_in, w, g2, ↓reduceIte, Option.bind_some, or_self, or_false, false_or, or_true, true_or, and_true, true_and, and_false, false_and, not_true_eq_false, not_false_eq_true, pz_10, pz_01, eq_self]
    · have z : ¬ nI so = 2 := by rw [show (2 : Int32) = nI 2 from rfl, nI_eq (by omega) (by omega)]; exact d
      have m14 : ¬ mo.1.1 14 = 3 := by
        rw [m14]
        rcases (show so = 1 ∨ so = 3 ∨ so = 4 ∨ so = 5 by omega) with rfl | rfl | rfl | rfl <;> decide
      have nl : fX12_number_l1 N mo c1 c2 N 0 (nI s) = some 0 := by
        obtain ⟨M, hM⟩ : ∃ M, N = M + 1 := ⟨N - 1, by omega⟩
        conv => lhs; arg 5; rw [hM]
        rw [fX12_number_l1]
        split
        · rfl
        · rfl
      obtain ⟨rd', mo', g1, g2, g3, g4, g5⟩ := pz_mS N h
      refine ⟨0, rd', 0, mo', ?_, ?_, g3, g4, fun h => absurd h g5⟩
      · simp only [fX6_takeNumber, r4, z, g1, ↓reduceIte, Option.bind_some, or_self, or_false, false_or, or_true, true_or, and_true, true_and, and_false, false_and, not_true_eq_false, not_false_eq_true]
      · simp only [fX12_number, a0, m15, nl, m14, g2, ↓reduceIte, Option.bind_some, or_self, or_false, false_or, or_true, true_or, and_true, true_and, and_false, false_and, not_true_eq_false, not_false_eq_true]
  · obtain ⟨x1, x2, x3⟩ := pz_mX N h a 1 0
    refine ⟨0, rd, 0, mo, ?_, ?_, h, pz_fr6_r mo, fun h => absurd h a⟩
    · simp only [fX6_takeNumber, c, (show ¬ (6 : Int32) = 2 by decide), x1, ↓reduceIte, Option.bind_some, or_self, or_false, false_or, or_true, true_or, and_true, true_and, and_false, false_and, not_true_eq_false, not_false_eq_true]
    · simp only [fX12_number, a', ↓reduceIte, Option.bind_some, or_self, or_false, false_or, or_true, true_or, and_true, true_and, and_false, false_and, not_true_eq_false, not_false_eq_true]
/-- a write of the reference into what it reads into -/
theorem pz_R6 {B : Nat → Nat} {n : Nat} {rd : zOS} {mo : zMS} (h : pz_R B n rd mo) (g : Nat → Int32) : pz_R B n rd (zMA mo 6 g) := h
theorem pz_fr_6 (mo : zMS) (g : Nat → Int32) : pz_fr mo (zMA mo 6 g) := ⟨fun j hj => va_up_ne _ _ hj, rfl, fun _ _ => rfl⟩
theorem pz_rng {v : Int32} {x lo hi : Nat} (hx : v = nI x) (h9 : x ≤ 9999) (h1 : nI lo ≤ v) (h2 : v ≤ nI hi) (hl : lo < 2 ^ 31) (hh : hi < 2 ^ 31) : lo ≤ x ∧ x ≤ hi := by
  subst hx
  exact ⟨(nI_leI hl (by omega)).mp h1, (nI_leI (by omega) hh).mp h2⟩
set_option maxHeartbeats 4000000 in
set_option maxRecDepth 100000 in
theorem pz_rLaw (N : Nat) (hN : 200000 ≤ N) {B : Nat → Nat} {n : Nat} {rd : zOS} {mo : zMS} (L : zLS) (h : pz_R B n rd mo) : ∃ rd' l t mo' l' t', fX6_readLaw N rd L = some (rd', zLi (zLi L 0 l) 1 t) ∧ fX12_readLaw N mo = some mo' ∧ pz_R B n rd' mo' ∧ pz_fr mo mo' ∧ mo'.1.2 6 = upd (upd (mo.1.2 6) 0 l') 1 t' ∧ (mo'.1.1 17 = 0 → l = l' ∧ (l = 0 ∨ l = 1) ∧ t = t' ∧ ∃ x, 1 ≤ x ∧ x ≤ 60 ∧ t = nI x) := by
  have k0 : (0 : Int32).toNatClampNeg = 0 := rfl
  have k1 : (1 : Int32).toNatClampNeg = 1 := rfl
  obtain ⟨rd1, m1, a1, a2, a3, a4, a5⟩ := pz_tw N hN h (w := 0) (by omega) 7102839 rfl
  obtain ⟨v, v1, v2⟩ := pz_word N hN a3
  obtain ⟨b, b1, b2, b3⟩ := v2 1 (by omega)
  obtain ⟨bo, o1, o2, o3⟩ := v2 2 (by omega)
  have hF : (440005915496 : Int64) = lN (pz_wc 1) := rfl
  have hO : (7302244 : Int64) = lN (pz_wc 2) := rfl
  -- what follows the law's word
  have tail : ∀ (rd2 : zOS) (m2 : zMS) (l : Int32), pz_R B n rd2 m2 → pz_fr6 m1 m2 → ∃ rd' mo' t t' w', ((fX6_takeNumber N rd2 (1 : Int32) (60 : Int32)).bind fun u_5 => (fX6_takeSign N u_5.2).bind fun u_6 => some (u_6, zLi (zLi L 0 l) 1 u_5.1)) = some (rd', zLi (zLi L 0 l) 1 t) ∧ ((fX12_number N (zMA m2 6 (upd (m2.1.2 6) ((0 : Int32).toNatClampNeg) l)) (1 : Int32) (60 : Int32)).bind fun u_26 => (fX12_mustEnd N (zMA u_26.2 6 (upd (u_26.2.1.2 6) ((1 : Int32).toNatClampNeg) u_26.1))).bind fun u_27 => some u_27) = some mo' ∧ pz_R B n rd' mo' ∧ pz_fr mo mo' ∧ mo'.1.2 6 = upd (upd (mo.1.2 6) 0 l) 1 t' ∧ w' = m2 ∧ (mo'.1.1 17 = 0 → m2.1.1 17 = 0 ∧ t = t' ∧ ∃ x, 1 ≤ x ∧ x ≤ 60 ∧ t = nI x) := by
    intro rd2 m2 l hR2 hf2
    obtain ⟨t, rd3, t', m3, c1, c2, c3, c4, c5⟩ := pz_num N hN (pz_R6 hR2 (upd (m2.1.2 6) 0 l)) 1 60 1 60 (fun _ => ⟨rfl, rfl⟩)
    obtain ⟨rd4, m4, d1, d2, d3, d4, d5⟩ := pz_tsg N hN (pz_R6 c3 (upd (m3.1.2 6) 1 t'))
    have e6 : m3.1.2 6 = upd (mo.1.2 6) 0 l := by
      rw [c4.2, pz_MA, hf2.2, a4.2]
    refine ⟨rd4, m4, t, t', m2, ?_, ?_, d3, ?_, ?_, rfl, fun h17 => ?_⟩
    · rw [c1, Option.bind_some, d1]
      rfl
    · rw [k0, k1, c2, Option.bind_some, d2]
      rfl
    · exact pz_fr_t a4.1 (pz_fr_t hf2.1 (pz_fr_t (pz_fr_6 m2 _) (pz_fr_t c4.1 (pz_fr_t (pz_fr_6 m3 _) d4.1))))
    · rw [d4.2, pz_MA, e6]
    · obtain ⟨q1, q2, ⟨x, q3, q4⟩, q5, q6, -⟩ := c5 (d5 h17)
      have := pz_rng (lo := 1) (hi := 60) q4 q3 q5 q6 (by omega) (by omega)
      exact ⟨q1, q2, x, this.1, this.2, q4⟩
  cases b with
  | true =>
    obtain ⟨rd2, m2, c1, c2, c3, c4, c5⟩ := pz_tw N hN a3 (w := 1) (by omega) 440005915496 rfl
    have e : v = 440005915496 := (b2.mp rfl).trans hF.symm
    have c17 := b3 rfl
    have c2' : fX12_must N m1 1 = some m2 := by
      have q := c2
      simp only [fX12_mustWord, c17, v1, pz_lgc, e, ↓reduceIte, Option.bind_some, or_self, or_false, false_or, or_true, true_or, and_true, true_and, and_false, false_and, not_true_eq_false, not_false_eq_true, pz_10, pz_01, eq_self] at q
      cases hq : fX12_must N m1 1 with
      | none => rw [hq] at q; cases q
      | some x => rw [hq] at q; exact q
    obtain ⟨rd', mo', t, t', -, f1, f2, f3, f4, f5, -, f6⟩ := tail rd2 m2 1 c3 c4
    refine ⟨rd', 1, t, mo', 1, t', ?_, ?_, f3, f4, f5, fun h17 => ⟨rfl, .inr rfl, (f6 h17).2⟩⟩
    · simp only [fX6_readLaw, a1, b1, c1, ↓reduceIte, Option.bind_some, or_self, or_false, false_or, or_true, true_or, and_true, true_and, and_false, false_and, not_true_eq_false, not_false_eq_true, pz_10, pz_01, eq_self]
      exact f1
    · simp only [fX12_readLaw, a2, v1, pz_lgc, e, c17, c2', ↓reduceIte, Option.bind_some, or_self, or_false, false_or, or_true, true_or, and_true, true_and, and_false, false_and, not_true_eq_false, not_false_eq_true, pz_10, pz_01, eq_self]
      exact f2
  | false =>
    obtain ⟨rd2, m2, c1, c2, c3, c4, c5⟩ := pz_tw N hN a3 (w := 2) (by omega) 7302244 rfl
    have e : ¬ v = 440005915496 := fun e => Bool.noConfusion (b2.mpr (e.trans hF))
    obtain ⟨rd', mo', t, t', -, f1, f2, f3, f4, f5, -, f6⟩ := tail rd2 m2 0 c3 c4
    refine ⟨rd', 0, t, mo', 0, t', ?_, ?_, f3, f4, f5, fun h17 => ⟨rfl, .inl rfl, (f6 h17).2⟩⟩
    · simp only [fX6_readLaw, a1, b1, c1, Bool.false_eq_true, ↓reduceIte, Option.bind_some, or_self, or_false, false_or, or_true, true_or, and_true, true_and, and_false, false_and, not_true_eq_false, not_false_eq_true, pz_10, pz_01, eq_self]
      exact f1
    · by_cases c17 : m1.1.1 17 = 0
      · by_cases d : v = 7302244
        · have c2' : fX12_must N m1 1 = some m2 := by
            have q := c2
            simp only [fX12_mustWord, c17, v1, pz_lgc, d, ↓reduceIte, Option.bind_some, or_self, or_false, false_or, or_true, true_or, and_true, true_and, and_false, false_and, not_true_eq_false, not_false_eq_true, pz_10, pz_01, eq_self] at q
            cases hq : fX12_must N m1 1 with
            | none => rw [hq] at q; cases q
            | some x => rw [hq] at q; exact q
          have e' : ¬ (7302244 : Int64) = 440005915496 := by decide
          simp only [fX12_readLaw, a2, v1, pz_lgc, d, e', c17, c2', ↓reduceIte, Option.bind_some, or_self, or_false, false_or, or_true, true_or, and_true, true_and, and_false, false_and, not_true_eq_false, not_false_eq_true, pz_10, pz_01, eq_self]
          exact f2
        · have c2' : fX12_must N m1 0 = some m2 := by
            have q := c2
            simp only [fX12_mustWord, c17, v1, pz_lgc, d, ↓reduceIte, Option.bind_some, or_self, or_false, false_or, or_true, true_or, and_true, true_and, and_false, false_and, not_true_eq_false, not_false_eq_true, pz_10, pz_01, eq_self] at q
            cases hq : fX12_must N m1 0 with
            | none => rw [hq] at q; cases q
            | some x => rw [hq] at q; exact q
          simp only [fX12_readLaw, a2, v1, pz_lgc, d, e, c17, c2', ↓reduceIte, Option.bind_some, or_self, or_false, false_or, or_true, true_or, and_true, true_and, and_false, false_and, not_true_eq_false, not_false_eq_true, pz_10, pz_01, eq_self]
          exact f2
      · have c2' : m2 = m1 := by
          have q := c2
          simp only [fX12_mustWord, c17, ↓reduceIte, Option.bind_some, or_self, or_false, false_or, or_true, true_or, and_true, true_and, and_false, false_and, not_true_eq_false, not_false_eq_true] at q
          exact (Option.some.inj q).symm
        subst c2'
        simp only [fX12_readLaw, a2, v1, pz_lgc, e, c17, ↓reduceIte, Option.bind_some, or_self, or_false, false_or, or_true, true_or, and_true, true_and, and_false, false_and, not_true_eq_false, not_false_eq_true, pz_10, pz_01, eq_self]
        exact f2
set_option maxHeartbeats 4000000 in
set_option maxRecDepth 100000 in
theorem pz_rChest (N : Nat) (hN : 200000 ≤ N) {B : Nat → Nat} {n : Nat} {rd : zOS} {mo : zMS} (L : zLS) (h : pz_R B n rd mo) : ∃ rd' a b c mo' a' b' c', fX6_readChest N rd L = some (rd', zLi (zLi (zLi L 3 a) 4 b) 5 c) ∧ fX12_readChest N mo = some mo' ∧ pz_R B n rd' mo' ∧ pz_fr mo mo' ∧ mo'.1.2 6 = upd (upd (upd (mo.1.2 6) 5 a') 6 b') 7 c' ∧ (mo'.1.1 17 = 0 → mo.1.1 17 = 0 ∧ a = a' ∧ b = b' ∧ c = c' ∧ (∃ x, x ≤ 500 ∧ a = nI x) ∧ (∃ x, x ≤ 20 ∧ b = nI x) ∧ ∃ x, x ≤ 999 ∧ c = nI x) := by
  have k5 : (5 : Int32).toNatClampNeg = 5 := rfl
  have k6 : (6 : Int32).toNatClampNeg = 6 := rfl
  have k7 : (7 : Int32).toNatClampNeg = 7 := rfl
  obtain ⟨rd1, m1, a1, a2, a3, a4, a5⟩ := pz_tw N hN h (w := 4) (by omega) 426953241460 rfl
  obtain ⟨v1, rd2, w1, m2, b1, b2, b3, b4, b5⟩ := pz_num N hN a3 0 500 0 500 (fun _ => ⟨rfl, rfl⟩)
  obtain ⟨v2, rd3, w2, m3, c1, c2, c3, c4, c5⟩ := pz_num N hN (pz_R6 b3 (upd (m2.1.2 6) 5 w1)) 0 20 0 20 (fun _ => ⟨rfl, rfl⟩)
  obtain ⟨v3, rd4, w3, m4, d1, d2, d3, d4, d5⟩ := pz_num N hN (pz_R6 c3 (upd (m3.1.2 6) 6 w2)) 0 999 0 999 (fun _ => ⟨rfl, rfl⟩)
  obtain ⟨rd5, m5, e1, e2, e3, e4, e5⟩ := pz_tsg N hN (pz_R6 d3 (upd (m4.1.2 6) 7 w3))
  refine ⟨rd5, v1, v2, v3, m5, w1, w2, w3, ?_, ?_, e3, ?_, ?_, fun h17 => ?_⟩
  · simp only [fX6_readChest, a1, b1, c1, d1, e1, ↓reduceIte, Option.bind_some, or_self, or_false, false_or, or_true, true_or, and_true, true_and, and_false, false_and, not_true_eq_false, not_false_eq_true]
  · simp only [fX12_readChest, a2, b2, k5, c2, k6, d2, k7, e2, ↓reduceIte, Option.bind_some, or_self, or_false, false_or, or_true, true_or, and_true, true_and, and_false, false_and, not_true_eq_false, not_false_eq_true]
  · exact pz_fr_t a4.1 (pz_fr_t b4.1 (pz_fr_t (pz_fr_6 m2 _) (pz_fr_t c4.1 (pz_fr_t (pz_fr_6 m3 _) (pz_fr_t d4.1 (pz_fr_t (pz_fr_6 m4 _) e4.1))))))
  · rw [e4.2, pz_MA, d4.2, pz_MA, c4.2, pz_MA, b4.2, a4.2]
  · obtain ⟨q1, q2, ⟨x3, q3, q4⟩, q5, q6, -⟩ := d5 (e5 h17)
    obtain ⟨p1, p2, ⟨x2, p3, p4⟩, p5, p6, -⟩ := c5 q1
    obtain ⟨o1, o2, ⟨x1, o3, o4⟩, o5, o6, -⟩ := b5 p1
    exact ⟨a5 o1, o2, p2, q2, ⟨x1, (pz_rng (lo := 0) (hi := 500) o4 o3 o5 o6 (by omega) (by omega)).2, o4⟩, ⟨x2, (pz_rng (lo := 0) (hi := 20) p4 p3 p5 p6 (by omega) (by omega)).2, p4⟩, ⟨x3, (pz_rng (lo := 0) (hi := 999) q4 q3 q5 q6 (by omega) (by omega)).2, q4⟩⟩
