/-! THE PURE LAYER: the reader's state in both, words -/
def pz_nm (B : Nat → Nat) (s : Nat) : Nat → Nat
  | 0 => 0
  | k + 1 => 10 * pz_nm B s k + (B (s + k) - 48)
theorem pz_nm_b (B : Nat → Nat) (s : Nat) : ∀ k, (∀ i, i < k → B (s + i) ≤ 57) → pz_nm B s k < 10 ^ k := by
  intro k
  induction k with
  | zero => intro _; exact Nat.one_pos
  | succ k ih =>
    intro h
    unfold pz_nm
    have := ih (fun i hi => h i (by omega))
    have := h k (by omega)
    rw [Nat.pow_succ]
    omega
theorem pz_nm_4 (B : Nat → Nat) (s : Nat) {k : Nat} (hk : k ≤ 4) (h : ∀ i, i < k → B (s + i) ≤ 57) : pz_nm B s k ≤ 9999 := by
  have := pz_nm_b B s k h
  rcases (show k = 0 ∨ k = 1 ∨ k = 2 ∨ k = 3 ∨ k = 4 by omega) with rfl | rfl | rfl | rfl | rfl <;> omega
set_option maxHeartbeats 4000000 in
set_option maxRecDepth 100000 in
theorem pz_rf1 (N : Nat) {B : Nat → Nat} {n s e : Nat} {rd : zOS} {mo : zMS} (hT : pz_T B n rd mo) (he : e ≤ n) (h6 : rd.1 6 = nI e) (h4 : e - s ≤ 4) (hd : ∀ i, s ≤ i → i < e → pz_so (B i) = 2) : ∀ f k i, s + i + f = e → f < k → fX6_readFigures_l1 N k (nI (s + i)) (zpi rd 7 (nI (pz_nm B s i))) = some (zpi rd 7 (nI (pz_nm B s (i + f)))) := by
  obtain ⟨h5, h0, h12, hb⟩ := hT
  intro f
  induction f with
  | zero =>
    intro k i h1 h2
    obtain ⟨k, rfl⟩ : ∃ x, k = x + 1 := ⟨k - 1, by omega⟩
    have r6 : (zpi rd 7 (nI (pz_nm B s i))).1 6 = nI e := h6
    have g : nI e ≤ nI (s + i) := nI_le (by omega) (by omega)
    simp only [fX6_readFigures_l1, r6, g, Nat.add_zero, ↓reduceIte, Option.bind_some, or_self, or_false, false_or, or_true, true_or, and_true, true_and, and_false, false_and, not_true_eq_false, not_false_eq_true]
  | succ f ih =>
    intro k i h1 h2
    obtain ⟨k, rfl⟩ : ∃ x, k = x + 1 := ⟨k - 1, by omega⟩
    have r6 : (zpi rd 7 (nI (pz_nm B s i))).1 6 = nI e := h6
    have r7 : (zpi rd 7 (nI (pz_nm B s i))).1 7 = nI (pz_nm B s i) := rfl
    have g : ¬ nI e ≤ nI (s + i) := nI_ge (by omega) (by omega)
    have i5 := pz_ni (show s + i < 500 by omega) (by omega)
    have cl := nI_clamp (show s + i < 2 ^ 31 by omega)
    obtain ⟨b1, b2, -⟩ := hb (s + i) (by omega)
    have b2 : (zpi rd 7 (nI (pz_nm B s i))).2 3 (s + i) = pz_sb (B (s + i)) := b2
    have q := ((pz_so_r0 _ b1).2.2.2.2.2.1 (hd _ (by omega) (by omega))).1
    have e1 : (10 : Int32) * nI (pz_nm B s i) + nI (B (s + i) - 48) = nI (pz_nm B s (i + 1)) := by
      rw [show (10 : Int32) = nI 10 from rfl, pk_mul, nI_add]
      rfl
    have e2 : ∀ v w, zpi (zpi rd 7 v) 7 w = zpi rd 7 w := by
      intro v w
      show (upd (upd rd.1 7 v) 7 w, rd.2) = (upd rd.1 7 w, rd.2)
      rw [pz_upd2]
    simp only [fX6_readFigures_l1, r6, r7, g, i5, cl, b2, q, e1, e2, nI_1, ↓reduceIte, Option.bind_some, or_self, or_false, false_or, or_true, true_or, and_true, true_and, and_false, false_and, not_true_eq_false, not_false_eq_true]
    have := ih k (i + 1) (by omega) (by omega)
    rw [show i + 1 + f = i + (f + 1) by omega] at this
    exact this
set_option maxHeartbeats 4000000 in
set_option maxRecDepth 100000 in
/-- the class' token out of the tape -/
theorem pz_adv (N : Nat) (hN : 200000 ≤ N) {B : Nat → Nat} {n c : Nat} {rd : zOS} {mo : zMS} (hT : pz_T B n rd mo) (hc : c ≤ n) (h6 : rd.1 6 = nI c) : ∃ rd', fX6_advance N rd = some rd' ∧ rd'.2 = rd.2 ∧ rd'.1 0 = rd.1 0 ∧ rd'.1 1 = rd.1 1 ∧ rd'.1 5 = nI (pz_ts B n c) ∧ rd'.1 4 = nI (pz_te B n (pz_ts B n c)).1 ∧ rd'.1 6 = nI (pz_te B n (pz_ts B n c)).2 ∧ ((pz_te B n (pz_ts B n c)).1 = 2 → rd'.1 7 = nI (pz_nm B (pz_ts B n c) ((pz_te B n (pz_ts B n c)).2 - pz_ts B n c))) := by
  have hT' := hT
  obtain ⟨h5, h0, h12, hb⟩ := hT
  have hts : pz_ts B n c = pz_rn B 0 n (n - c) c := rfl
  obtain ⟨s1, s2, s3, -⟩ := pz_rn_le B 0 n (n - c) c hc
  have s3 := s3 (by omega)
  have b0 : fX6_behindRun N rd (nI c) 0 = some (nI (pz_ts B n c)) := by
    unfold fX6_behindRun
    rw [show (0 : Int32) = nI 0 from rfl, pz_bh N hT' (by omega) (n - c) N c hc (by omega) (by omega)]
    rfl
  rw [← hts] at s1 s2 s3
  generalize pz_ts B n c = s at *
  unfold pz_te
  rcases Nat.lt_or_ge s n with e | e
  · have g : ¬ nI n ≤ nI s := nI_ge e (by omega)
    have i5 := pz_ni (show s < 500 by omega) (by omega)
    have cl := nI_clamp (show s < 2 ^ 31 by omega)
    obtain ⟨b1, b2, -⟩ := hb s e
    have so := pz_so_c N b1
    have s4 := (pz_so_r0 (B s) b1).2.2.2.2.2.2.2
    have s3 := s3 e
    rw [if_pos e]
    have hT2 : pz_T B n (zpi (zpi rd 5 (nI s)) 4 (nI (pz_so (B s)))) mo := ⟨h5, h0, h12, hb⟩
    have run : ∀ q, q = pz_so (B s) → fX6_behindRun N (zpi (zpi rd 5 (nI s)) 4 (nI q)) (nI s) (nI q) = some (nI (pz_rn B q n (n - s) s)) := by
      rintro q rfl
      unfold fX6_behindRun
      rw [pz_bh N hT2 (by omega) (n - s) N s s2 (by omega) (by omega)]
      rfl
    by_cases c1 : pz_so (B s) = 1
    · have r := run 1 c1.symm
      refine ⟨zpi (zpi (zpi rd 5 (nI s)) 4 (nI 1)) 6 (nI (pz_rn B 1 n (n - s) s)), ?_, rfl, rfl, rfl, rfl, by rw [if_pos c1]; rfl, by rw [if_pos c1]; rfl, fun h => by rw [if_pos c1] at h; cases h⟩
      have z1 : (nI 1 = 1) = True := eq_true rfl
      have z2 : ¬ nI 1 = 2 := by decide
      simp only [fX6_advance, h6, h0, b0, g, i5, cl, b2, so, c1, z1, z2, r, ↓reduceIte, Option.bind_some, or_self, or_false, false_or, or_true, true_or, and_true, true_and, and_false, false_and, not_true_eq_false, not_false_eq_true]
    · by_cases c2 : pz_so (B s) = 2
      · have r := run 2 c2.symm
        obtain ⟨r1, r2, -, r4⟩ := pz_rn_le B 2 n (n - s) s s2
        have z1 : ¬ nI 2 = 1 := by decide
        have z2 : (nI 2 = 2) = True := eq_true rfl
        generalize pz_rn B 2 n (n - s) s = x at *
        have d6 : (zpi (zpi (zpi rd 5 (nI s)) 4 (nI 2)) 6 (nI x)).1 6 = nI x := rfl
        have d5 : (zpi (zpi (zpi rd 5 (nI s)) 4 (nI 2)) 6 (nI x)).1 5 = nI s := rfl
        by_cases c4 : x - s ≤ 4
        · have w : nI (x - s) ≤ (4 : Int32) := nI_le (b := 4) c4 (by omega)
          have hT3 : pz_T B n (zpi (zpi (zpi rd 5 (nI s)) 4 (nI 2)) 6 (nI x)) mo := ⟨h5, h0, h12, hb⟩
          have f := pz_rf1 N (s := s) (e := x) hT3 r2 d6 c4 (fun i i1 i2 => r4 i i1 i2) (x - s) N 0 (by omega) (by omega)
          rw [Nat.add_zero, Nat.zero_add] at f
          have f : fX6_readFigures_l1 N N (nI s) (zpi (zpi (zpi (zpi rd 5 (nI s)) 4 (nI 2)) 6 (nI x)) 7 0) = some (zpi (zpi (zpi (zpi rd 5 (nI s)) 4 (nI 2)) 6 (nI x)) 7 (nI (pz_nm B s (x - s)))) := f
          have rr : fX6_readFigures N (zpi (zpi (zpi rd 5 (nI s)) 4 (nI 2)) 6 (nI x)) = some (zpi (zpi (zpi (zpi rd 5 (nI s)) 4 (nI 2)) 6 (nI x)) 7 (nI (pz_nm B s (x - s)))) := by
            simp only [fX6_readFigures, d6, d5, pk_sub r1, w, f, ↓reduceIte, Option.bind_some, or_self, or_false, false_or, or_true, true_or, and_true, true_and, and_false, false_and, not_true_eq_false, not_false_eq_true]
          refine ⟨zpi (zpi (zpi (zpi rd 5 (nI s)) 4 (nI 2)) 6 (nI x)) 7 (nI (pz_nm B s (x - s))), ?_, rfl, rfl, rfl, rfl, by rw [if_neg c1, if_pos c2, if_pos c4]; rfl, by rw [if_neg c1, if_pos c2]; rfl, fun _ => by rw [if_neg c1, if_pos c2]; rfl⟩
          simp only [fX6_advance, h6, h0, b0, g, i5, cl, b2, so, c2, z1, z2, r, rr, ↓reduceIte, Option.bind_some, or_self, or_false, false_or, or_true, true_or, and_true, true_and, and_false, false_and, not_true_eq_false, not_false_eq_true]
        · have w : ¬ nI (x - s) ≤ (4 : Int32) := nI_ge (a := 4) (by omega) (by omega)
          have rr : fX6_readFigures N (zpi (zpi (zpi rd 5 (nI s)) 4 (nI 2)) 6 (nI x)) = some (zpi (zpi (zpi (zpi rd 5 (nI s)) 4 (nI 2)) 6 (nI x)) 4 4) := by
            simp only [fX6_readFigures, d6, d5, pk_sub r1, w, ↓reduceIte, Option.bind_some, or_self, or_false, false_or, or_true, true_or, and_true, true_and, and_false, false_and, not_true_eq_false, not_false_eq_true]
          refine ⟨zpi (zpi (zpi (zpi rd 5 (nI s)) 4 (nI 2)) 6 (nI x)) 4 4, ?_, rfl, rfl, rfl, rfl, by rw [if_neg c1, if_pos c2, if_neg c4]; rfl, by rw [if_neg c1, if_pos c2]; rfl, fun h => by rw [if_neg c1, if_pos c2, if_neg c4] at h; cases h⟩
          simp only [fX6_advance, h6, h0, b0, g, i5, cl, b2, so, c2, z1, z2, r, rr, ↓reduceIte, Option.bind_some, or_self, or_false, false_or, or_true, true_or, and_true, true_and, and_false, false_and, not_true_eq_false, not_false_eq_true]
      · have z1 : ¬ nI (pz_so (B s)) = 1 := by rw [show (1 : Int32) = nI 1 from rfl, nI_eq (by omega) (by omega)]; exact c1
        have z2 : ¬ nI (pz_so (B s)) = 2 := by rw [show (2 : Int32) = nI 2 from rfl, nI_eq (by omega) (by omega)]; exact c2
        have m : (if nI n < nI (s + 1) then nI n else nI (s + 1)) = nI (s + 1) := if_neg (nI_nlt (by omega) (by omega))
        refine ⟨zpi (zpi (zpi rd 5 (nI s)) 4 (nI (pz_so (B s)))) 6 (nI (s + 1)), ?_, rfl, rfl, rfl, rfl, by rw [if_neg c1, if_neg c2]; rfl, by rw [if_neg c1, if_neg c2]; rfl, fun h => by rw [if_neg c1, if_neg c2] at h; exact absurd h c2⟩
        simp only [fX6_advance, h6, h0, b0, g, i5, cl, b2, so, z1, z2, nI_1, m, ↓reduceIte, Option.bind_some, or_self, or_false, false_or, or_true, true_or, and_true, true_and, and_false, false_and, not_true_eq_false, not_false_eq_true]
  · have es : s = n := by omega
    subst es
    have g : nI s ≤ nI s := Int32.le_refl _
    have m : (if nI s < nI (s + 1) then nI s else nI (s + 1)) = nI s := if_pos (nI_lt (by omega) (by omega))
    rw [if_neg (Nat.lt_irrefl _)]
    refine ⟨zpi (zpi (zpi rd 5 (nI s)) 4 5) 6 (nI s), ?_, rfl, rfl, rfl, rfl, rfl, rfl, fun h => by cases h⟩
    simp only [fX6_advance, h6, h0, b0, g, nI_1, m, ↓reduceIte, Option.bind_some, or_self, or_false, false_or, or_true, true_or, and_true, true_and, and_false, false_and, not_true_eq_false, not_false_eq_true]
/-! words -/
def pz_pk (B : Nat → Nat) (s : Nat) : Nat → Nat
  | 0 => 0
  | k + 1 => 256 * pz_pk B s k + B (s + k)
theorem pz_pk_b (B : Nat → Nat) (s : Nat) : ∀ k, (∀ i, i < k → B (s + i) < 256) → pz_pk B s k < 256 ^ k := by
  intro k
  induction k with
  | zero => intro _; exact Nat.one_pos
  | succ k ih =>
    intro h
    unfold pz_pk
    have := ih (fun i hi => h i (by omega))
    have := h k (by omega)
    rw [Nat.pow_succ]
    omega
theorem pz_pk_i (f g : Nat → Nat) (s t : Nat) : ∀ k m, (∀ i, i < k → 1 ≤ f (s + i) ∧ f (s + i) < 256) → (∀ i, i < m → 1 ≤ g (t + i) ∧ g (t + i) < 256) → (pz_pk f s k = pz_pk g t m ↔ k = m ∧ ∀ i, i < k → f (s + i) = g (t + i)) := by
  intro k
  induction k with
  | zero =>
    intro m h1 h2
    cases m with
    | zero => exact ⟨fun _ => ⟨rfl, fun i hi => by omega⟩, fun _ => rfl⟩
    | succ m =>
      have := h2 m (by omega)
      unfold pz_pk
      exact ⟨fun h => by omega, fun h => by omega⟩
  | succ k ih =>
    intro m h1 h2
    cases m with
    | zero =>
      have := h1 k (by omega)
      unfold pz_pk
      exact ⟨fun h => by omega, fun h => by omega⟩
    | succ m =>
      have a := h1 k (by omega)
      have b := h2 m (by omega)
      have ih := ih m (fun i hi => h1 i (by omega)) (fun i hi => h2 i (by omega))
      unfold pz_pk
      constructor
      · intro h
        have e1 : f (s + k) = g (t + m) := by omega
        have e2 : pz_pk f s k = pz_pk g t m := by omega
        obtain ⟨e3, e4⟩ := ih.mp e2
        subst e3
        refine ⟨rfl, fun i hi => ?_⟩
        rcases Nat.lt_or_ge i k with c | c
        · exact e4 i c
        · rw [show i = k by omega]; exact e1
      · rintro ⟨h, h3⟩
        have h : k = m := by omega
        subst h
        rw [ih.mpr ⟨rfl, fun i hi => h3 i (by omega)⟩, h3 k (by omega)]
theorem pz_so8 {p b : Nat} (hp : p < 2 ^ 48) (hb : b < 256) : (lN p <<< ((8 : Int32).toInt64 &&& 63)) ||| (nI b).toInt64 = lN (256 * p + b) := by
  rw [nI_l (by omega)]
  apply Int64.toBitVec_inj.mp
  rw [Int64.toBitVec_or, Int64.toBitVec_shiftLeft, show ((8 : Int32).toInt64 &&& 63).toBitVec.smod 64 = 8#64 from by decide]
  apply BitVec.eq_of_toNat_eq
  have h1 : (lN p).toBitVec.toNat = p := Nat.mod_eq_of_lt (by omega)
  have h2 : (lN b).toBitVec.toNat = b := Nat.mod_eq_of_lt (by omega)
  have h3 : (lN (256 * p + b)).toBitVec.toNat = 256 * p + b := Nat.mod_eq_of_lt (by omega)
  have h4 : p <<< 8 ||| b = 256 * p + b := by
    rw [← Nat.shiftLeft_add_eq_or_of_lt (show b < 2 ^ 8 by omega), Nat.shiftLeft_eq]
    omega
  rw [BitVec.toNat_or, h2, h3, BitVec.shiftLeft_eq', BitVec.toNat_shiftLeft, h1, show (8#64).toNat = 8 from rfl, Nat.shiftLeft_eq, Nat.mod_eq_of_lt (by omega), ← Nat.shiftLeft_eq, h4]
def pz_W (w j : Nat) : Nat := (([[108, 97, 119], [102, 114, 101, 115, 104], [111, 108, 100], [119, 111, 114, 116, 104], [99, 104, 101, 115, 116], [107, 101, 101, 112, 101, 114], [110, 101, 119, 115], [110, 111, 119], [97, 103, 101], [119, 97, 116, 99, 104], [99, 111, 112, 105, 101, 115], [115, 105, 108, 101, 110, 116]] : List (List Nat)).getD w []).getD j 0
def pz_wl (w : Nat) : Nat := ([3, 5, 3, 5, 5, 6, 4, 3, 3, 5, 6, 6] : List Nat).getD w 0
def pz_wc (w : Nat) : Nat := ([7102839, 440005915496, 7302244, 512970880104, 426953241460, 118083237733746, 1852143475, 7237495, 6383461, 512736125800, 109330278475123, 126896627347060] : List Nat).getD w 0
theorem pz_Wd : ∀ w, w < 12 → zsl.getD w 0 = pz_wl w ∧ pz_wl w ≤ 6 ∧ 1 ≤ pz_wl w ∧ pz_wc w = pz_pk (pz_W w) 0 (pz_wl w) ∧ pz_wc w < 2 ^ 56 ∧ ∀ j, j < 6 → (j < pz_wl w → (zsb.getD w []).getD j 0 = nI (pz_W w j) ∧ 97 ≤ pz_W w j ∧ pz_W w j ≤ 122) := by decide +kernel
set_option maxHeartbeats 4000000 in
set_option maxRecDepth 100000 in
theorem pz_iwL (N : Nat) {B : Nat → Nat} {n s e w : Nat} {rd : zOS} {mo : zMS} (hT : pz_T B n rd mo) (hw : w < 12) (h5 : rd.1 5 = nI s) (he : e = s + pz_wl w) (hen : e ≤ n) (hl : ∀ i, s ≤ i → i < e → pz_so (B i) = 1) : ∀ f k i, i + f = pz_wl w → f < k → ∃ b : Bool, fX6_isWord_l1 N w rd k (nI i) = some (if b then Sum.inl () else Sum.inr ()) ∧ (b = true ↔ ∀ j, i ≤ j → j < pz_wl w → B (s + j) = pz_W w j) := by
  obtain ⟨h500, h0, h12, hb⟩ := hT
  obtain ⟨w1, w2, w3, -, -, w4⟩ := pz_Wd w hw
  have ln : fJ0_length_8abf5 N w = some (nI (pz_wl w)) := by
    unfold fJ0_length_8abf5
    rw [if_pos hw, w1]
  intro f
  induction f with
  | zero =>
    intro k i h1 h2
    obtain ⟨k, rfl⟩ : ∃ x, k = x + 1 := ⟨k - 1, by omega⟩
    have g : nI (pz_wl w) ≤ nI i := nI_le (by omega) (by omega)
    refine ⟨true, ?_, ⟨fun _ j j1 j2 => by omega, fun _ => rfl⟩⟩
    simp only [fX6_isWord_l1, ln, g, ↓reduceIte, Option.bind_some, or_self, or_false, false_or, or_true, true_or, and_true, true_and, and_false, false_and, not_true_eq_false, not_false_eq_true]
  | succ f ih =>
    intro k i h1 h2
    obtain ⟨k, rfl⟩ : ∃ x, k = x + 1 := ⟨k - 1, by omega⟩
    have g : ¬ nI (pz_wl w) ≤ nI i := nI_ge (by omega) (by omega)
    have g2 : ¬ nI n ≤ nI (s + i) := nI_ge (by omega) (by omega)
    have i5 := pz_ni (show s + i < 500 by omega) (by omega)
    have cl := nI_clamp (show s + i < 2 ^ 31 by omega)
    obtain ⟨b1, b2, -⟩ := hb (s + i) (by omega)
    obtain ⟨l1, l2, l3⟩ := (pz_so_r0 _ b1).2.2.2.2.2.2.1 (hl (s + i) (by omega) (by omega))
    have b2 := b2.trans l1
    obtain ⟨v1, v2, v3⟩ := w4 i (by omega) (by omega)
    have ch : fJ0_charAt_5068e N w (nI i) = some (nI (pz_W w i)) := by
      unfold fJ0_charAt_5068e
      rw [if_pos hw, w1, if_neg (nI_in (by omega) (by omega)), nI_clamp (by omega), v1]
    have q : nI (B (s + i)) = nI (pz_W w i) ↔ B (s + i) = pz_W w i := nI_eq (by omega) (by omega)
    obtain ⟨b, e1, e2⟩ := ih k (i + 1) (by omega) (by omega)
    by_cases c : B (s + i) = pz_W w i
    · refine ⟨b, ?_, ?_⟩
      · simp only [fX6_isWord_l1, ln, g, h0, h5, nI_add, g2, i5, cl, b2, ch, q, c, nI_1, ↓reduceIte, Option.bind_some, or_self, or_false, false_or, or_true, true_or, and_true, true_and, and_false, false_and, not_true_eq_false, not_false_eq_true]
        exact e1
      · rw [e2]
        refine ⟨fun h j j1 j2 => ?_, fun h j j1 j2 => h j (by omega) j2⟩
        rcases Nat.eq_or_lt_of_le j1 with j3 | j3
        · subst j3; exact c
        · exact h j j3 j2
    · refine ⟨false, ?_, ⟨fun h => Bool.noConfusion h, fun h => absurd (h i (Nat.le_refl _) (by omega)) c⟩⟩
      simp only [fX6_isWord_l1, ln, g, h0, h5, nI_add, g2, i5, cl, b2, ch, q, c, Bool.false_eq_true, ↓reduceIte, Option.bind_some, or_self, or_false, false_or, or_true, true_or, and_true, true_and, and_false, false_and, not_true_eq_false, not_false_eq_true]
set_option maxHeartbeats 4000000 in
set_option maxRecDepth 100000 in
theorem pz_wdL (N : Nat) {B : Nat → Nat} {n s e : Nat} {rd : zOS} {mo : zMS} (hT : pz_T B n rd mo) (h15 : mo.1.1 15 = nI s) (h16 : mo.1.1 16 = nI e) (h14 : mo.1.1 14 = 2) (hen : e ≤ n) (h8 : e - s < 8) (hl : ∀ i, s ≤ i → i < e → pz_so (B i) = 1) : ∀ f k i, s + i + f = e → f < k → fX12_word_l1 N mo k (lN (pz_pk B s i)) (nI (s + i)) = some (lN (pz_pk B s (i + f))) := by
  obtain ⟨h500, h0, h12, hb⟩ := hT
  intro f
  induction f with
  | zero =>
    intro k i h1 h2
    obtain ⟨k, rfl⟩ : ∃ x, k = x + 1 := ⟨k - 1, by omega⟩
    have g : nI e ≤ nI (s + i) := nI_le (by omega) (by omega)
    simp only [fX12_word_l1, h16, g, Nat.add_zero, ↓reduceIte, Option.bind_some, or_self, or_false, false_or, or_true, true_or, and_true, true_and, and_false, false_and, not_true_eq_false, not_false_eq_true]
  | succ f ih =>
    intro k i h1 h2
    obtain ⟨k, rfl⟩ : ∃ x, k = x + 1 := ⟨k - 1, by omega⟩
    have g : ¬ nI e ≤ nI (s + i) := nI_ge (by omega) (by omega)
    have g8 : ¬ (8 : Int32) ≤ nI (e - s) := nI_ge (b := 8) h8 (by omega)
    have i5 := pz_ni (show s + i < 500 by omega) (by omega)
    have cl := nI_clamp (show s + i < 2 ^ 31 by omega)
    obtain ⟨b1, -, b3⟩ := hb (s + i) (by omega)
    have pb := pz_pk_b B s i (fun j hj => (hb (s + j) (by omega)).1)
    have pb2 : (256 : Nat) ^ i ≤ 256 ^ 6 := Nat.pow_le_pow_right (by omega) (by omega)
    have e1 := pz_so8 (p := pz_pk B s i) (b := B (s + i)) (by omega) b1
    have t2 : (2 : Int32) = 2 := rfl
    simp only [fX12_word_l1, h16, h15, h14, g, pk_sub (show s ≤ e by omega), g8, i5, cl, b3, e1, nI_1, ↓reduceIte, Option.bind_some, or_self, or_false, false_or, or_true, true_or, and_true, true_and, and_false, false_and, not_true_eq_false, not_false_eq_true]
    have := ih k (i + 1) (by omega) (by omega)
    rw [show i + 1 + f = i + (f + 1) by omega] at this
    exact this
