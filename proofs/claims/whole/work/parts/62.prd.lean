/-! THE PURE LAYER: the readers' steps -/
/-- what the reference's reading changes -/
def pz_fr (m m' : zMS) : Prop := (∀ j, j ≠ 6 → m'.1.2 j = m.1.2 j) ∧ m'.2 = m.2 ∧ (∀ j, (j < 13 ∨ 18 < j) → m'.1.1 j = m.1.1 j)
def pz_fr6 (m m' : zMS) : Prop := pz_fr m m' ∧ m'.1.2 6 = m.1.2 6
theorem pz_fr_t {a b c : zMS} (h : pz_fr a b) (g : pz_fr b c) : pz_fr a c := ⟨fun j hj => (g.1 j hj).trans (h.1 j hj), g.2.1.trans h.2.1, fun j hj => (g.2.2 j hj).trans (h.2.2 j hj)⟩
theorem pz_fr6_t {a b c : zMS} (h : pz_fr6 a b) (g : pz_fr6 b c) : pz_fr6 a c := ⟨pz_fr_t h.1 g.1, g.2.trans h.2⟩
theorem pz_fr6_r (a : zMS) : pz_fr6 a a := ⟨⟨fun _ _ => rfl, rfl, fun _ _ => rfl⟩, rfl⟩
def pz_tkR (B : Nat → Nat) (n : Nat) (mo : zMS) : Prop := ∃ s e, mo.1.1 15 = nI s ∧ mo.1.1 16 = nI e ∧ s ≤ e ∧ e ≤ n ∧ (mo.1.1 14 = 2 → ∀ i, s ≤ i → i < e → pz_so (B i) = 1)
def pz_ok (B : Nat → Nat) (n : Nat) (rd : zOS) (mo : zMS) : Prop := ∃ so s e, 1 ≤ so ∧ so ≤ 5 ∧ rd.1 4 = nI so ∧ rd.1 5 = nI s ∧ rd.1 6 = nI e ∧ mo.1.1 14 = pz_tc2 so ∧ mo.1.1 15 = nI s ∧ mo.1.1 16 = nI e ∧ mo.1.1 13 = nI e ∧ s ≤ e ∧ e ≤ n ∧ (so = 1 → ∀ i, s ≤ i → i < e → pz_so (B i) = 1) ∧ (so = 2 → (∀ i, s ≤ i → i < e → pz_so (B i) = 2) ∧ e - s ≤ 4 ∧ rd.1 7 = nI (pz_nm B s (e - s))) ∧ (so ≠ 5 → s < e)
def pz_R (B : Nat → Nat) (n : Nat) (rd : zOS) (mo : zMS) : Prop := pz_T B n rd mo ∧ pz_tkR B n mo ∧ ((mo.1.1 17 = 0 ∧ rd.1 1 = mo.1.1 11 ∧ pz_ok B n rd mo) ∨ (rd.1 4 = 6 ∧ ∃ q, 1 ≤ q ∧ q ≤ 3 ∧ rd.1 1 = nI q ∧ mo.1.1 17 = nI q ∧ rd.1 2 = mo.1.1 18))
theorem pz_so_4 (b : Nat) : pz_so b ≤ 4 := by
  unfold pz_so
  split
  · omega
  · split
    · omega
    · split
      · omega
      · split <;> omega
theorem pz_te_ok {B : Nat → Nat} {n s : Nat} (hs : s ≤ n) (h0 : s < n → pz_so (B s) ≠ 0) : 1 ≤ (pz_te B n s).1 ∧ (pz_te B n s).1 ≤ 5 ∧ s ≤ (pz_te B n s).2 ∧ (pz_te B n s).2 ≤ n ∧ ((pz_te B n s).1 = 1 → ∀ i, s ≤ i → i < (pz_te B n s).2 → pz_so (B i) = 1) ∧ ((pz_te B n s).1 = 2 → (∀ i, s ≤ i → i < (pz_te B n s).2 → pz_so (B i) = 2) ∧ (pz_te B n s).2 - s ≤ 4) ∧ ((pz_te B n s).1 ≠ 5 → s < (pz_te B n s).2) := by
  have run : ∀ q, s < n → pz_so (B s) = q → s < pz_rn B q n (n - s) s := by
    intro q e h
    obtain ⟨f, hf⟩ : ∃ f, n - s = f + 1 := ⟨n - s - 1, by omega⟩
    rw [hf, pz_rn, if_pos ⟨e, h⟩]
    have := (pz_rn_le B q n f (s + 1) (by omega)).1
    omega
  unfold pz_te
  by_cases c : s < n
  · rw [if_pos c]
    have h0 := h0 c
    have h4 := pz_so_4 (B s)
    by_cases c1 : pz_so (B s) = 1
    · rw [if_pos c1]
      obtain ⟨r1, r2, -, r4⟩ := pz_rn_le B 1 n (n - s) s hs
      exact ⟨by omega, by omega, r1, r2, fun _ i i1 i2 => r4 i i1 i2, fun h => absurd h (by show ¬ 1 = 2; omega), fun _ => run 1 c c1⟩
    · rw [if_neg c1]
      by_cases c2 : pz_so (B s) = 2
      · rw [if_pos c2]
        obtain ⟨r1, r2, -, r4⟩ := pz_rn_le B 2 n (n - s) s hs
        have r3 := run 2 c c2
        by_cases c4 : pz_rn B 2 n (n - s) s - s ≤ 4
        · rw [if_pos c4]
          exact ⟨by omega, by omega, r1, r2, fun h => absurd h (by show ¬ 2 = 1; omega), fun _ => ⟨fun i i1 i2 => r4 i i1 i2, c4⟩, fun _ => r3⟩
        · rw [if_neg c4]
          exact ⟨by omega, by omega, r1, r2, fun h => absurd h (by show ¬ 4 = 1; omega), fun h => absurd h (by show ¬ 4 = 2; omega), fun _ => r3⟩
      · rw [if_neg c2]
        exact ⟨by show 1 ≤ pz_so (B s); omega, by show pz_so (B s) ≤ 5; omega, by show s ≤ s + 1; omega, by show s + 1 ≤ n; omega, fun h => absurd h c1, fun h => absurd h c2, fun _ => by show s < s + 1; omega⟩
  · rw [if_neg c]
    exact ⟨by omega, by omega, Nat.le_refl _, hs, fun h => absurd h (by show ¬ 5 = 1; omega), fun h => absurd h (by show ¬ 5 = 2; omega), fun h => absurd rfl h⟩
set_option maxHeartbeats 4000000 in
set_option maxRecDepth 100000 in
/-- the next token in both -/
theorem pz_aR (N : Nat) (hN : 200000 ≤ N) {B : Nat → Nat} {n c : Nat} {rd : zOS} {mo : zMS} (hT : pz_T B n rd mo) (hc : c ≤ n) (h6 : rd.1 6 = nI c) (h13 : mo.1.1 13 = nI c) (h17 : mo.1.1 17 = 0) (h1 : rd.1 1 = mo.1.1 11) : ∃ rd' mo', fX6_advance N rd = some rd' ∧ fX12_next N mo = some mo' ∧ pz_R B n rd' mo' ∧ pz_fr6 mo mo' ∧ mo'.1.1 17 = 0 ∧ ∃ s', mo'.1.1 15 = nI s' ∧ c ≤ s' ∧ s' ≤ n := by
  obtain ⟨rd', a1, a2, a3, a4, a5, a6, a7, a8⟩ := pz_adv N hN hT hc h6
  have b1 := pz_nxt N hN hT hc h13
  obtain ⟨s1, s2, s3, -⟩ := pz_rn_le B 0 n (n - c) c hc
  have s3 := s3 (by omega)
  have hts : pz_ts B n c = pz_rn B 0 n (n - c) c := rfl
  rw [← hts] at s1 s2 s3
  obtain ⟨t1, t2, t3, t4, t5, t6, t7⟩ := pz_te_ok (B := B) s2 s3
  generalize pz_ts B n c = s at *
  generalize pz_te B n s = te at *
  obtain ⟨so, e⟩ := te
  have fr : pz_fr6 mo (pz_tk mo s (pz_tc2 so) e) := by
    refine ⟨⟨fun _ _ => rfl, rfl, fun j hj => ?_⟩, rfl⟩
    show (if j = 13 ∨ j = 16 then nI e else if j = 14 then pz_tc2 so else if j = 15 then nI s else mo.1.1 j) = _
    rw [if_neg (by omega), if_neg (by omega), if_neg (by omega)]
  refine ⟨rd', pz_tk mo s (pz_tc2 so) e, a1, b1, ⟨?_, ?_, .inl ⟨h17, a4.trans h1, so, s, e, t1, t2, a6, a5, a7, rfl, rfl, rfl, rfl, t3, t4, t5, fun h => ?_, t7⟩⟩, fr, h17, s, rfl, s1, s2⟩
  · obtain ⟨h5, h0, h12, hb⟩ := hT
    refine ⟨h5, a3.trans h0, h12, ?_⟩
    rw [a2]
    exact hb
  · refine ⟨s, e, rfl, rfl, t3, t4, fun h => t5 ?_⟩
    have h : pz_tc2 so = 2 := h
    rcases (show so = 1 ∨ so = 2 ∨ so = 3 ∨ so = 4 ∨ so = 5 by omega) with rfl | rfl | rfl | rfl | rfl
    · rfl
    · exact absurd h (by decide)
    · exact absurd h (by decide)
    · exact absurd h (by decide)
    · exact absurd h (by decide)
  · exact ⟨(t6 h).1, (t6 h).2, a8 h⟩
theorem pz_R0 {B : Nat → Nat} {n : Nat} {rd : zOS} {mo : zMS} (h : pz_R B n rd mo) : (mo.1.1 17 = 0 ∧ rd.1 1 = mo.1.1 11 ∧ pz_ok B n rd mo) ∨ (¬ mo.1.1 17 = 0 ∧ ¬ mo.1.1 17 ≤ 0 ∧ rd.1 4 = 6) := by
  rcases h.2.2 with h | ⟨a, q, q1, q3, -, b, -⟩
  · exact .inl h
  · exact .inr ⟨by rw [b]; exact nI_ne0 (by omega) (by omega), by rw [b]; exact nI_nle (by omega) (by omega), a⟩
set_option maxHeartbeats 4000000 in
set_option maxRecDepth 100000 in
/-- a fault in both -/
theorem pz_bd (N : Nat) {B : Nat → Nat} {n q : Nat} {rd : zOS} {mo : zMS} (h : pz_R B n rd mo) (q1 : 1 ≤ q) (q3 : q ≤ 3) : ∃ rd' mo', fX6_stick N rd (nI q) = some rd' ∧ fX12_bad N mo (nI q) = some mo' ∧ pz_R B n rd' mo' ∧ pz_fr6 mo mo' ∧ ¬ mo'.1.1 17 = 0 ∧ mo'.1.1 14 = mo.1.1 14 := by
  have hT := h.1
  have hk := h.2.1
  rcases pz_R0 h with ⟨a, b, so, s, e, c1, c5, r4, r5, r6, m14, m15, -⟩ | ⟨a, a', b⟩
  · have g : ¬ nI so = 6 := by rw [show (6 : Int32) = nI 6 from rfl, nI_eq (by omega) (by omega)]; omega
    refine ⟨zpi (zpi (zpi rd 4 6) 1 (nI q)) 2 (rd.1 5), zMi (zMi mo 17 (nI q)) 18 (mo.1.1 15), ?_, ?_, ⟨?_, ?_, .inr ⟨rfl, q, q1, q3, rfl, rfl, ?_⟩⟩, ⟨⟨fun _ _ => rfl, rfl, fun j hj => ?_⟩, rfl⟩, ?_, rfl⟩
    · simp only [fX6_stick, r4, g, ↓reduceIte, Option.bind_some, or_self, or_false, false_or, or_true, true_or, and_true, true_and, and_false, false_and, not_true_eq_false, not_false_eq_true]
    · simp only [fX12_bad, a, ↓reduceIte, Option.bind_some, or_self, or_false, false_or, or_true, true_or, and_true, true_and, and_false, false_and, not_true_eq_false, not_false_eq_true]
    · exact ⟨hT.1, hT.2.1, hT.2.2.1, hT.2.2.2⟩
    · exact hk
    · show rd.1 5 = mo.1.1 15
      rw [r5, m15]
    · show upd (upd mo.1.1 17 _) 18 _ j = _
      rw [pk_un (by omega), pk_un (by omega)]
    · show ¬ nI q = 0
      exact nI_ne0 (by omega) (by omega)
  · refine ⟨rd, mo, ?_, ?_, h, pz_fr6_r mo, a, rfl⟩
    · simp only [fX6_stick, b, ↓reduceIte, Option.bind_some, or_self, or_false, false_or, or_true, true_or, and_true, true_and, and_false, false_and, not_true_eq_false, not_false_eq_true]
    · simp only [fX12_bad, a, ↓reduceIte, Option.bind_some, or_self, or_false, false_or, or_true, true_or, and_true, true_and, and_false, false_and, not_true_eq_false, not_false_eq_true]
theorem pz_mX (N : Nat) {B : Nat → Nat} {n : Nat} {rd : zOS} {mo : zMS} (h : pz_R B n rd mo) (h17 : ¬ mo.1.1 17 = 0) (q b : Int32) : fX6_stick N rd q = some rd ∧ fX12_must N mo b = some mo ∧ fX12_bad N mo q = some mo := by
  rcases pz_R0 h with ⟨a, -⟩ | ⟨a, a', c⟩
  · exact absurd a h17
  · have e : ∀ q, fX12_bad N mo q = some mo := fun q => by unfold fX12_bad; rw [if_neg a]
    refine ⟨by unfold fX6_stick; rw [if_pos c], ?_, e q⟩
    unfold fX12_must
    split
    · rw [e, Option.bind_some, if_neg a]
    · rfl
set_option maxHeartbeats 4000000 in
set_option maxRecDepth 100000 in
theorem pz_mA (N : Nat) (hN : 200000 ≤ N) {B : Nat → Nat} {n : Nat} {rd : zOS} {mo : zMS} (h : pz_R B n rd mo) (h17 : mo.1.1 17 = 0) : ∃ rd' mo', fX6_advance N rd = some rd' ∧ fX12_must N mo 1 = some mo' ∧ pz_R B n rd' mo' ∧ pz_fr6 mo mo' ∧ mo'.1.1 17 = 0 ∧ ∃ e s', rd.1 6 = nI e ∧ mo'.1.1 15 = nI s' ∧ e ≤ s' ∧ s' ≤ n := by
  rcases pz_R0 h with ⟨a, b, so, s, e, c1, c5, r4, r5, r6, m14, m15, m16, m13, se, en, -⟩ | ⟨a, -⟩
  · obtain ⟨rd', mo', f1, f2, f3, f4, f5, s', f6, f7, f8⟩ := pz_aR N hN h.1 en r6 m13 a b
    refine ⟨rd', mo', f1, ?_, f3, f4, f5, e, s', r6, f6, f7, f8⟩
    unfold fX12_must
    rw [if_neg (by decide), if_pos a, f2]
    rfl
  · exact absurd h17 a
set_option maxHeartbeats 4000000 in
set_option maxRecDepth 100000 in
theorem pz_mS (N : Nat) {B : Nat → Nat} {n : Nat} {rd : zOS} {mo : zMS} (h : pz_R B n rd mo) : ∃ rd' mo', fX6_stick N rd 1 = some rd' ∧ fX12_must N mo 0 = some mo' ∧ pz_R B n rd' mo' ∧ pz_fr6 mo mo' ∧ ¬ mo'.1.1 17 = 0 := by
  obtain ⟨rd', mo', f1, f2, f3, f4, f5, -⟩ := pz_bd N h (q := 1) (by omega) (by omega)
  refine ⟨rd', mo', f1, ?_, f3, f4, f5⟩
  unfold fX12_must
  rw [if_pos rfl, show (1 : Int32) = nI 1 from rfl, f2, Option.bind_some, if_neg f5]
set_option maxHeartbeats 4000000 in
set_option maxRecDepth 100000 in
/-- the word at hand -/
theorem pz_word (N : Nat) (hN : 200000 ≤ N) {B : Nat → Nat} {n : Nat} {rd : zOS} {mo : zMS} (h : pz_R B n rd mo) : ∃ v, fX12_word N mo = some v ∧ ∀ w, w < 12 → ∃ b : Bool, fX6_isWord N rd w = some (if b then 1 else 0) ∧ (b = true ↔ v = lN (pz_wc w)) ∧ (b = true → mo.1.1 17 = 0) := by
  have hT := h.1
  have n5 := hT.1
  have nz : ∀ w, w < 12 → ¬ (0 : Int64) = lN (pz_wc w) := by
    intro w hw h0
    obtain ⟨-, -, w1, e, lt, w4⟩ := pz_Wd w hw
    have := (pk_lEQ (a := 0) (b := pz_wc w) (by omega) (by omega)).mp h0
    obtain ⟨k, hk⟩ : ∃ k, pz_wl w = k + 1 := ⟨pz_wl w - 1, by omega⟩
    have l6 := (pz_Wd w hw).2.1
    have q := w4 k (by omega) (by omega)
    rw [e, hk, pz_pk, Nat.zero_add] at this
    omega
  -- the reference's loop comes to its end
  obtain ⟨s, e, m15, m16, se, en, ml⟩ := h.2.1
  have end0 : ∃ u, fX12_word_l1 N mo N 0 (nI s) = some u ∧ (mo.1.1 14 = 2 → e - s < 8 → u = lN (pz_pk B s (e - s))) ∧ ((¬ mo.1.1 14 = 2 ∨ ¬ e - s < 8) → u = 0 ∨ e = s) := by
    obtain ⟨M, hM⟩ : ∃ M, N = M + 1 := ⟨N - 1, by omega⟩
    by_cases c : mo.1.1 14 = 2
    · by_cases c8 : e - s < 8
      · have := pz_wdL N hT m15 m16 c en c8 (ml c) (e - s) N 0 (by omega) (by omega)
        rw [Nat.add_zero, Nat.zero_add] at this
        exact ⟨_, this, fun _ _ => rfl, fun h => by rcases h with h | h; exact absurd c h; exact absurd c8 h⟩
      · refine ⟨0, ?_, fun _ h => absurd h c8, fun _ => .inl rfl⟩
        have g : ¬ nI e ≤ nI s := nI_ge (by omega) (by omega)
        have g8 : (8 : Int32) ≤ nI (e - s) := nI_le (a := 8) (by omega) (by omega)
        conv => lhs; arg 3; rw [hM]
        simp only [fX12_word_l1, m16, m15, c, g, pk_sub se, g8, ↓reduceIte, Option.bind_some, or_self, or_false, false_or, or_true, true_or, and_true, true_and, and_false, false_and, not_true_eq_false, not_false_eq_true]
    · refine ⟨0, ?_, fun h => absurd h c, fun _ => .inl rfl⟩
      conv => lhs; arg 3; rw [hM]
      rw [fX12_word_l1, m16]
      split
      · rfl
      · rfl
  obtain ⟨u, u1, u2, u3⟩ := end0
  have z0 : lN 0 = (0 : Int64) := rfl
  rcases pz_R0 h with ⟨a, b, so, s', e', c1, c5, r4, r5, r6, m14, m15', m16', m13, se', en', ll, -⟩ | ⟨a, a', c⟩
  · have es : s' = s := (nI_eq (by omega) (by omega)).mp (m15'.symm.trans m15)
    have ee : e' = e := (nI_eq (by omega) (by omega)).mp (m16'.symm.trans m16)
    subst es; subst ee
    refine ⟨u, by unfold fX12_word; rw [m15, u1, Option.bind_some, if_pos a], fun w hw => ?_⟩
    obtain ⟨w1, w6, w1', we, wlt, w4⟩ := pz_Wd w hw
    have ln : fJ0_length_8abf5 N w = some (nI (pz_wl w)) := by
      unfold fJ0_length_8abf5
      rw [if_pos hw, w1]
    by_cases s1 : so = 1
    · subst s1
      have t2 : mo.1.1 14 = 2 := m14
      have lt := ll rfl
      have sub : nI e' - nI s' = nI (e' - s') := pk_sub se
      have q : nI (e' - s') = nI (pz_wl w) ↔ e' - s' = pz_wl w := nI_eq (by omega) (by omega)
      have z1 : (nI 1 = 1) = True := eq_true rfl
      have rng : ∀ i, i < e' - s' → 1 ≤ B (s' + i) ∧ B (s' + i) < 256 := by
        intro i hi
        have b1 := (hT.2.2.2 (s' + i) (by omega)).1
        have := (pz_so_r0 _ b1).2.2.2.2.2.2.1 (lt (s' + i) (by omega) (by omega))
        omega
      have rngW : ∀ i, i < pz_wl w → 1 ≤ pz_W w (0 + i) ∧ pz_W w (0 + i) < 256 := by
        intro i hi
        have := w4 i (by omega) hi
        rw [Nat.zero_add]
        omega
      by_cases l8 : e' - s' < 8
      · have uv := u2 t2 l8
        have pb := pz_pk_b B s' (e' - s') (fun i hi => (rng i hi).2)
        have pb2 : (256 : Nat) ^ (e' - s') ≤ 256 ^ 7 := Nat.pow_le_pow_right (by omega) (by omega)
        have eqv : u = lN (pz_wc w) ↔ e' - s' = pz_wl w ∧ ∀ i, i < e' - s' → B (s' + i) = pz_W w (0 + i) := by
          rw [uv, pk_lEQ (by omega) (by omega), we]
          exact pz_pk_i B (pz_W w) s' 0 (e' - s') (pz_wl w) rng rngW
        by_cases cl : e' - s' = pz_wl w
        · obtain ⟨b, f1, f2⟩ := pz_iwL N (w := w) hT hw r5 (show e' = s' + pz_wl w by omega) en lt (pz_wl w) N 0 (by omega) (by omega)
          rw [show nI 0 = (0 : Int32) from rfl] at f1
          refine ⟨b, ?_, ?_, fun _ => a⟩
          · cases b
            · simp only [fX6_isWord, r4, r5, r6, z1, ln, sub, q, cl, f1, Bool.false_eq_true, Sum.elim_inr, ↓reduceIte, Option.bind_some, or_self, or_false, false_or, or_true, true_or, and_true, true_and, and_false, false_and, not_true_eq_false, not_false_eq_true]
            · simp only [fX6_isWord, r4, r5, r6, z1, ln, sub, q, cl, f1, Sum.elim_inl, ↓reduceIte, Option.bind_some, or_self, or_false, false_or, or_true, true_or, and_true, true_and, and_false, false_and, not_true_eq_false, not_false_eq_true]
          · rw [f2, eqv]
            constructor
            · intro h
              refine ⟨cl, fun i hi => ?_⟩
              rw [Nat.zero_add]
              exact h i (by omega) (by omega)
            · rintro ⟨-, h⟩ j j1 j2
              have := h j (by omega)
              rw [Nat.zero_add] at this
              exact this
        · refine ⟨false, ?_, ⟨fun h => Bool.noConfusion h, fun h => absurd (eqv.mp h).1 cl⟩, fun h => Bool.noConfusion h⟩
          simp only [fX6_isWord, r4, r5, r6, z1, ln, sub, q, cl, Bool.false_eq_true, ↓reduceIte, Option.bind_some, or_self, or_false, false_or, or_true, true_or, and_true, true_and, and_false, false_and, not_true_eq_false, not_false_eq_true]
      · have u0 : u = 0 := by
          rcases u3 (.inr l8) with h | h
          · exact h
          · omega
        have cl : ¬ e' - s' = pz_wl w := by omega
        refine ⟨false, ?_, ⟨fun h => Bool.noConfusion h, fun h => absurd (u0.symm.trans h) (nz w hw)⟩, fun h => Bool.noConfusion h⟩
        simp only [fX6_isWord, r4, r5, r6, z1, ln, sub, q, cl, Bool.false_eq_true, ↓reduceIte, Option.bind_some, or_self, or_false, false_or, or_true, true_or, and_true, true_and, and_false, false_and, not_true_eq_false, not_false_eq_true]
    · have z1 : ¬ nI so = 1 := by rw [show (1 : Int32) = nI 1 from rfl, nI_eq (by omega) (by omega)]; exact s1
      have t2 : ¬ mo.1.1 14 = 2 := by
        rw [m14]
        rcases (show so = 2 ∨ so = 3 ∨ so = 4 ∨ so = 5 by omega) with rfl | rfl | rfl | rfl <;> decide
      have u0 : u = 0 := by
        rcases u3 (.inl t2) with h | h
        · exact h
        · obtain ⟨M, hM⟩ : ∃ M, N = M + 1 := ⟨N - 1, by omega⟩
          subst h
          have g : nI e' ≤ nI e' := Int32.le_refl _
          have : fX12_word_l1 N mo N 0 (nI e') = some 0 := by
            conv => lhs; arg 3; rw [hM]
            simp only [fX12_word_l1, m16, g, ↓reduceIte, Option.bind_some, or_self, or_false, false_or, or_true, true_or, and_true, true_and, and_false, false_and, not_true_eq_false, not_false_eq_true]
          rw [u1] at this
          exact Option.some.inj this
      refine ⟨false, ?_, ⟨fun h => Bool.noConfusion h, fun h => absurd (u0.symm.trans h) (nz w hw)⟩, fun h => Bool.noConfusion h⟩
      simp only [fX6_isWord, r4, z1, Bool.false_eq_true, ↓reduceIte, Option.bind_some, or_self, or_false, false_or, or_true, true_or, and_true, true_and, and_false, false_and, not_true_eq_false, not_false_eq_true]
  · refine ⟨0, by unfold fX12_word; rw [m15, u1, Option.bind_some, if_neg a], fun w hw => ⟨false, ?_, ⟨fun h => Bool.noConfusion h, fun h => absurd h (nz w hw)⟩, fun h => Bool.noConfusion h⟩⟩
    simp only [fX6_isWord, c, (show ¬ (6 : Int32) = 1 by decide), Bool.false_eq_true, ↓reduceIte, Option.bind_some, or_self, or_false, false_or, or_true, true_or, and_true, true_and, and_false, false_and, not_true_eq_false, not_false_eq_true]
