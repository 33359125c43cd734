/-! THE PURE LAYER: a year: chests, spreading, cost -/
def pz_ls (l : Int32) : Nat → Nat → Nat → Nat × Nat
  | 0, d, c => (d, c)
  | n + 1, d, c => pz_ls l n (d * 16807 % 2147483647) (if l ≤ nI (d * 16807 % 2147483647 % 1000) then c else c - 1)
theorem pz_ls_b (l : Int32) : ∀ n d c, d < 2147483647 → (pz_ls l n d c).1 < 2147483647 ∧ (pz_ls l n d c).2 ≤ c := by
  intro n
  induction n with
  | zero => intro d c h; exact ⟨h, Nat.le_refl _⟩
  | succ n ih =>
    intro d c h
    unfold pz_ls
    obtain ⟨h1, h2⟩ := ih (d * 16807 % 2147483647) (if l ≤ nI (d * 16807 % 2147483647 % 1000) then c else c - 1) (Nat.mod_lt _ (by omega))
    refine ⟨h1, Nat.le_trans h2 ?_⟩
    split <;> omega
theorem pz_ls_0 : ∀ n d c, (pz_ls 0 n d c).2 = c := by
  intro n
  induction n with
  | zero => intro d c; rfl
  | succ n ih =>
    intro d c
    unfold pz_ls
    rw [ih, if_pos]
    exact nI_pos' (by omega)
theorem pz_nx {d : Nat} (h : d < 2147483647) : lN d * (16807 : Int64) - lN d * (16807 : Int64) / (2147483647 : Int64) * (2147483647 : Int64) = lN (d * 16807 % 2147483647) := by
  rw [show (16807 : Int64) = lN 16807 from rfl, show (2147483647 : Int64) = lN 2147483647 from rfl, lN_mul, pk_lRem (by omega) (by omega) (by omega)]
theorem pz_r1000 {x : Nat} (h : x < 2147483647) : nI x - nI x / (1000 : Int32) * (1000 : Int32) = nI (x % 1000) := by
  rw [show (1000 : Int32) = nI 1000 from rfl, pk_rem (by omega) (by omega) (by omega)]
theorem pz_l1000 {x : Nat} (h : x < 2147483647) : lN x - lN x / (1000 : Int64) * (1000 : Int64) = lN (x % 1000) := by
  rw [show (1000 : Int64) = lN 1000 from rfl, pk_lRem (by omega) (by omega) (by omega)]
theorem pz_LA0 (L : zLS) (k : Nat) : zLA L k (L.1.2 k) = L := by
  show ((L.1.1, va_up L.1.2 k (L.1.2 k)), L.2) = L
  rw [pz_upA]
theorem pz_dA (mo : zMS) (x : Int64) : zMA (zMd mo x) 8 (mo.1.2 8) = zMd mo x := by
  show ((mo.1.1, va_up mo.1.2 8 (mo.1.2 8)), x) = _
  rw [pz_upA]
  rfl
set_option maxHeartbeats 4000000 in
set_option maxRecDepth 100000 in
theorem pz_l6 (N : Nat) (l : Int32) {k p m : Nat} (hk : k < 6) (hp : p < 8) (hm : m ≤ 9) : ∀ r n i d c (L : zLS), i + r = m → r < n → d < 2147483647 → r ≤ c → c ≤ 9 → L.1.1 3 = l → L.1.2 14 (8 * k + p) = nI c → fX4_loseByChance_l6 N (nI k) (nI p) (nI m) n (nI d) (nI i) L = some (nI (pz_ls l r d c).1, zLA L 14 (upd (L.1.2 14) (8 * k + p) (nI (pz_ls l r d c).2))) := by
  intro r
  induction r with
  | zero =>
    intro n i d c L h1 h2 hd hr hc hl h14
    obtain ⟨n, rfl⟩ : ∃ x, n = x + 1 := ⟨n - 1, by omega⟩
    have g1 : nI m ≤ nI i := nI_le (by omega) (by omega)
    simp only [fX4_loseByChance_l6, g1, pz_ls, ↓reduceIte, Option.bind_some, or_self, or_false, false_or, or_true, true_or, and_true, true_and, and_false, false_and, not_true_eq_false, not_false_eq_true]
    rw [← h14, pz_upd, pz_LA0]
  | succ r ih =>
    intro n i d c L h1 h2 hd hr hc hl h14
    obtain ⟨n, rfl⟩ : ∃ x, n = x + 1 := ⟨n - 1, by omega⟩
    have g1 : ¬ nI m ≤ nI i := nI_ge (by omega) (by omega)
    have e1 : ((nI d).toInt64 * (16807 : Int64) - (nI d).toInt64 * (16807 : Int64) / (2147483647 : Int64) * (2147483647 : Int64)).toInt32 = nI (d * 16807 % 2147483647) := by
      rw [nI_l (by omega), pz_nx hd, lN_i]
    have hd' : d * 16807 % 2147483647 < 2147483647 := Nat.mod_lt _ (by omega)
    have e2 : nI k * (8 : Int32) + nI p = nI (8 * k + p) := by rw [show (8 : Int32) = nI 8 from rfl, pk_mul, nI_add, Nat.mul_comm]
    have i48 := pz_ni (show 8 * k + p < 48 by omega) (by omega)
    have cl := nI_clamp (show 8 * k + p < 2 ^ 31 by omega)
    simp only [fX4_loseByChance_l6, g1, e1, pz_r1000 hd', hl, e2, i48, cl, h14, nI_1, pz_ls, ↓reduceIte, Option.bind_some, or_self, or_false, false_or, or_true, true_or, and_true, true_and, and_false, false_and, not_true_eq_false, not_false_eq_true]
    generalize d * 16807 % 2147483647 = d' at *
    by_cases c1 : l ≤ nI (d' % 1000)
    · simp only [c1, ↓reduceIte, Option.bind_some, or_self, or_false, false_or, or_true, true_or, and_true, true_and, and_false, false_and, not_true_eq_false, not_false_eq_true]
      exact ih n (i + 1) d' c L (by omega) (by omega) hd' (by omega) hc hl h14
    · simp only [c1, ↓reduceIte, Option.bind_some, or_self, or_false, false_or, or_true, true_or, and_true, true_and, and_false, false_and, not_true_eq_false, not_false_eq_true]
      have e3 : nI c - (1 : Int32) = nI (c - 1) := by rw [show (1 : Int32) = nI 1 from rfl, pk_sub (by omega)]
      rw [e3]
      have := ih n (i + 1) d' (c - 1) (zLA L 14 (upd (L.1.2 14) (8 * k + p) (nI (c - 1)))) (by omega) (by omega) hd' (by omega) (by omega) hl (by rw [pz_LA]; exact pk_us)
      rw [this, pz_LAA, pz_LA, pz_upd2]
set_option maxHeartbeats 4000000 in
set_option maxRecDepth 100000 in
theorem pz_y3 (N : Nat) (l : Int32) {j m : Nat} (hj : j < 48) (hm : m ≤ 9) : ∀ r n i d c (mo : zMS), i + r = m → r < n → d < 2147483647 → r ≤ c → c ≤ 9 → mo.2 = lN d → mo.1.2 8 (29 + j) = nI c → fX12_year_l3 N l (nI j) (nI m) n (nI i) mo = some (zMd (zMA mo 8 (upd (mo.1.2 8) (29 + j) (nI (pz_ls l r d c).2))) (lN (pz_ls l r d c).1)) := by
  intro r
  induction r with
  | zero =>
    intro n i d c mo h1 h2 hd hr hc hmd h8
    obtain ⟨n, rfl⟩ : ∃ x, n = x + 1 := ⟨n - 1, by omega⟩
    have g1 : nI m ≤ nI i := nI_le (by omega) (by omega)
    simp only [fX12_year_l3, g1, pz_ls, ↓reduceIte, Option.bind_some, or_self, or_false, false_or, or_true, true_or, and_true, true_and, and_false, false_and, not_true_eq_false, not_false_eq_true]
    rw [← h8, pz_upd, pz_MA0, ← hmd]
    rfl
  | succ r ih =>
    intro n i d c mo h1 h2 hd hr hc hmd h8
    obtain ⟨n, rfl⟩ : ∃ x, n = x + 1 := ⟨n - 1, by omega⟩
    have g1 : ¬ nI m ≤ nI i := nI_ge (by omega) (by omega)
    have hd' : d * 16807 % 2147483647 < 2147483647 := Nat.mod_lt _ (by omega)
    have e2 : (29 : Int32) + nI j = nI (29 + j) := nI_add 29 j
    have i77 := pz_ni (show 29 + j < 77 by omega) (by omega)
    have cl := nI_clamp (show 29 + j < 2 ^ 31 by omega)
    have e4 : ∀ x : Nat, x < 1000 → (l.toInt64 ≤ lN x ↔ l ≤ nI x) := fun x hx => by rw [← nI_l (by omega), pz_le64]
    simp only [fX12_year_l3, g1, hmd, pz_nx hd, pz_l1000 hd', lg_cmp_ge, e4 _ (Nat.mod_lt (d * 16807 % 2147483647) (by omega : 1000 > 0)), e2, i77, cl, h8, nI_1, pz_ls, ↓reduceIte, Option.bind_some, or_self, or_false, false_or, or_true, true_or, and_true, true_and, and_false, false_and, not_true_eq_false, not_false_eq_true]
    generalize d * 16807 % 2147483647 = d' at *
    by_cases c1 : l ≤ nI (d' % 1000)
    · simp only [c1, Int32.sub_zero, ↓reduceIte, Option.bind_some, or_self, or_false, false_or, or_true, true_or, and_true, true_and, and_false, false_and, not_true_eq_false, not_false_eq_true]
      rw [← h8, pz_upd, pz_dA]
      exact ih n (i + 1) d' c (zMd mo (lN d')) (by omega) (by omega) hd' (by omega) hc rfl h8
    · simp only [c1, ↓reduceIte, Option.bind_some, or_self, or_false, false_or, or_true, true_or, and_true, true_and, and_false, false_and, not_true_eq_false, not_false_eq_true]
      have e3 : nI c - (1 : Int32) = nI (c - 1) := by rw [show (1 : Int32) = nI 1 from rfl, pk_sub (by omega)]
      rw [e3]
      have := ih n (i + 1) d' (c - 1) (zMA (zMd mo (lN d')) 8 (upd (mo.1.2 8) (29 + j) (nI (c - 1)))) (by omega) (by omega) hd' (by omega) (by omega) rfl (by rw [pz_MA]; exact pk_us)
      rw [this, pz_MAA, pz_MA, pz_upd2]
      rfl
def pz_D (l : Int32) (h : Nat → Nat) (d : Nat) : Nat → Nat
  | 0 => d
  | j + 1 => (pz_ls l (h j) (pz_D l h d j) (h j)).1
def pz_Nw (l : Int32) (h : Nat → Nat) (d j : Nat) : Nat := (pz_ls l (h j) (pz_D l h d j) (h j)).2
theorem pz_D_b (l : Int32) (h : Nat → Nat) {d : Nat} (hd : d < 2147483647) : ∀ j, pz_D l h d j < 2147483647 := by
  intro j
  induction j with
  | zero => exact hd
  | succ j ih => exact (pz_ls_b l (h j) _ (h j) ih).1
theorem pz_Nw_b (l : Int32) (h : Nat → Nat) {d : Nat} (hd : d < 2147483647) (j : Nat) : pz_Nw l h d j ≤ h j := (pz_ls_b l (h j) _ (h j) (pz_D_b l h hd j)).2
theorem pz_D0 (l : Int32) (h : Nat → Nat) (d a : Nat) : ∀ b, (∀ j, a ≤ j → j < a + b → h j = 0) → pz_D l h d (a + b) = pz_D l h d a := by
  intro b
  induction b with
  | zero => intro _; rfl
  | succ b ih =>
    intro h0
    show (pz_ls l (h (a + b)) (pz_D l h d (a + b)) (h (a + b))).1 = _
    rw [h0 (a + b) (by omega) (by omega)]
    exact ih (fun j h1 h2 => h0 j h1 (by omega))
set_option maxHeartbeats 4000000 in
set_option maxRecDepth 100000 in
theorem pz_l5 (N : Nat) (hN : 200000 ≤ N) (l : Int32) (h : Nat → Nat) {d k P : Nat} (hd : d < 2147483647) (hk : k < 6) (hP : P ≤ 8) (h9 : ∀ p, p < P → h (8 * k + p) ≤ 9) : ∀ n p (L : zLS), p ≤ P → P - p < n → L.1.1 7 = nI P → L.1.1 3 = l → (∀ q, p ≤ q → q < P → L.1.2 14 (8 * k + q) = nI (h (8 * k + q))) → ∃ g, fX4_loseByChance_l5 N (nI k) n (nI (pz_D l h d (8 * k + p))) (nI p) L = some (nI (pz_D l h d (8 * k + P)), zLA L 14 g) ∧ (∀ q, p ≤ q → q < P → g (8 * k + q) = nI (pz_Nw l h d (8 * k + q))) ∧ (∀ j, (j < 8 * k + p ∨ 8 * k + P ≤ j) → g j = L.1.2 14 j) := by
  intro n
  induction n with
  | zero => intro p L h1 h2; omega
  | succ n ih =>
    intro p L h1 h2 l7 l3 hq
    rcases Nat.lt_or_ge p P with h3 | h3
    · have g1 : ¬ nI P ≤ nI p := nI_ge h3 (by omega)
      have g2 : ¬ (8 : Int32) ≤ nI p := nI_ge (b := 8) (by omega) (by omega)
      have e2 : nI k * (8 : Int32) + nI p = nI (8 * k + p) := by rw [show (8 : Int32) = nI 8 from rfl, pk_mul, nI_add, Nat.mul_comm]
      have i48 := pz_ni (show 8 * k + p < 48 by omega) (by omega)
      have cl := nI_clamp (show 8 * k + p < 2 ^ 31 by omega)
      have hv := hq p (Nat.le_refl _) h3
      have s := pz_l6 N l hk (show p < 8 by omega) (h9 p h3) (h (8 * k + p)) N 0 (pz_D l h d (8 * k + p)) (h (8 * k + p)) L (by omega) (by have := h9 p h3; omega) (pz_D_b l h hd _) (Nat.le_refl _) (h9 p h3) l3 hv
      rw [show nI 0 = (0 : Int32) from rfl] at s
      obtain ⟨g, e3, e4, e5⟩ := ih (p + 1) (zLA L 14 (upd (L.1.2 14) (8 * k + p) (nI (pz_Nw l h d (8 * k + p))))) (by omega) (by omega) l7 l3 (fun q q1 q2 => by
        rw [pz_LA, pk_un (by omega)]
        exact hq q (by omega) q2)
      refine ⟨g, ?_, ?_, ?_⟩
      · simp only [fX4_loseByChance_l5, l7, g1, g2, e2, i48, cl, hv, s, nI_1, ↓reduceIte, Option.bind_some, or_self, or_false, false_or, or_true, true_or, and_true, true_and, and_false, false_and, not_true_eq_false, not_false_eq_true]
        rw [show (pz_ls l (h (8 * k + p)) (pz_D l h d (8 * k + p)) (h (8 * k + p))).1 = pz_D l h d (8 * k + (p + 1)) from rfl, show (pz_ls l (h (8 * k + p)) (pz_D l h d (8 * k + p)) (h (8 * k + p))).2 = pz_Nw l h d (8 * k + p) from rfl, e3, pz_LAA]
      · intro q q1 q2
        rcases Nat.eq_or_lt_of_le q1 with q3 | q3
        · subst q3
          rw [e5 _ (by omega), pz_LA]
          exact pk_us
        · exact e4 q q3 q2
      · intro j hj
        rw [e5 j (by omega), pz_LA]
        exact pk_un (by omega)
    · have e : p = P := by omega
      subst e
      have g1 : nI p ≤ nI p := Int32.le_refl _
      refine ⟨L.1.2 14, ?_, fun q q1 q2 => by omega, fun _ _ => rfl⟩
      simp only [fX4_loseByChance_l5, l7, g1, pz_LA0, ↓reduceIte, Option.bind_some, or_self, or_false, false_or, or_true, true_or, and_true, true_and, and_false, false_and, not_true_eq_false, not_false_eq_true]
set_option maxHeartbeats 4000000 in
set_option maxRecDepth 100000 in
theorem pz_l3 (N : Nat) (hN : 200000 ≤ N) (l : Int32) (h : Nat → Nat) {d K P : Nat} (hd : d < 2147483647) (hK : K ≤ 6) (hP : P ≤ 8) (h9 : ∀ k p, k < K → p < P → h (8 * k + p) ≤ 9) (h0 : ∀ k p, k < K → P ≤ p → p < 8 → h (8 * k + p) = 0) : ∀ n k (L : zLS), k ≤ K → K - k < n → L.1.1 6 = nI K → L.1.1 7 = nI P → L.1.1 3 = l → (∀ o q, k ≤ o → o < K → q < P → L.1.2 14 (8 * o + q) = nI (h (8 * o + q))) → ∃ g, fX4_loseByChance_l3 N n (nI (pz_D l h d (8 * k))) (nI k) L = some (nI (pz_D l h d (8 * K)), zLA L 14 g) ∧ (∀ o q, k ≤ o → o < K → q < P → g (8 * o + q) = nI (pz_Nw l h d (8 * o + q))) ∧ (∀ j, j < 8 * k → g j = L.1.2 14 j) := by
  intro n
  induction n with
  | zero => intro k L h1 h2; omega
  | succ n ih =>
    intro k L h1 h2 l6 l7 l3 hq
    rcases Nat.lt_or_ge k K with h3 | h3
    · have g1 : ¬ nI K ≤ nI k := nI_ge h3 (by omega)
      have g2 : ¬ (6 : Int32) ≤ nI k := nI_ge (b := 6) (by omega) (by omega)
      obtain ⟨f, f1, f2, f3⟩ := pz_l5 N hN l h hd (show k < 6 by omega) hP (fun p hp => h9 k p h3 hp) N 0 L (by omega) (by omega) l7 l3 (fun q _ q2 => hq k q (Nat.le_refl _) h3 q2)
      rw [show nI 0 = (0 : Int32) from rfl, Nat.add_zero] at f1
      have eD : pz_D l h d (8 * k + P) = pz_D l h d (8 * (k + 1)) := by
        have := pz_D0 l h d (8 * k + P) (8 - P) (fun j j1 j2 => by
          have := h0 k (j - 8 * k) h3 (by omega) (by omega)
          rw [show 8 * k + (j - 8 * k) = j by omega] at this
          exact this)
        rw [← this]
        congr 1
        omega
      rw [eD] at f1
      obtain ⟨g, e3, e4, e5⟩ := ih (k + 1) (zLA L 14 f) (by omega) (by omega) l6 l7 l3 (fun o q o1 o2 q2 => by
        rw [pz_LA, f3 _ (by omega)]
        exact hq o q (by omega) o2 q2)
      refine ⟨g, ?_, ?_, ?_⟩
      · simp only [fX4_loseByChance_l3, l6, g1, g2, f1, nI_1, ↓reduceIte, Option.bind_some, or_self, or_false, false_or, or_true, true_or, and_true, true_and, and_false, false_and, not_true_eq_false, not_false_eq_true]
        rw [e3, pz_LAA]
      · intro o q o1 o2 q2
        rcases Nat.eq_or_lt_of_le o1 with o3 | o3
        · subst o3
          rw [e5 _ (by omega), pz_LA]
          exact f2 q (by omega) q2
        · exact e4 o q o3 o2 q2
      · intro j hj
        rw [e5 j (by omega), pz_LA]
        exact f3 j (by omega)
    · have e : k = K := by omega
      subst e
      have g1 : nI k ≤ nI k := Int32.le_refl _
      refine ⟨L.1.2 14, ?_, fun o q o1 o2 q2 => by omega, fun _ _ => rfl⟩
      simp only [fX4_loseByChance_l3, l6, g1, pz_LA0, ↓reduceIte, Option.bind_some, or_self, or_false, false_or, or_true, true_or, and_true, true_and, and_false, false_and, not_true_eq_false, not_false_eq_true]
/-- what a cell costs its keeper -/
def pz_tc (cost : Int32) (c : Nat) : Int32 := if c ≤ 1 then 0 else (nI c - 1) * cost
def pz_ef (t : Nat → Int32) (k : Nat) : Nat → Nat → Int32 → Int32
  | 0, _, e => e
  | c + 1, j, e => pz_ef t k c (j + 1) (if j / 8 = k then e - t j else e)
def pz_cs (t : Nat → Int32) (k : Nat) : Nat → Nat → Int32 → Int32
  | 0, _, e => e
  | c + 1, p, e => pz_cs t k c (p + 1) (e - t (8 * k + p))
theorem pz_ef_add (t : Nat → Int32) (k : Nat) : ∀ a b j e, pz_ef t k (a + b) j e = pz_ef t k b (j + a) (pz_ef t k a j e) := by
  intro a
  induction a with
  | zero => intro b j e; rw [Nat.zero_add]; rfl
  | succ a ih =>
    intro b j e
    rw [show a + 1 + b = (a + b) + 1 by omega, pz_ef, pz_ef, ih, show j + 1 + a = j + (a + 1) by omega]
theorem pz_ef_out (t : Nat → Int32) (k : Nat) : ∀ a j e, (j + a ≤ 8 * k ∨ 8 * k + 8 ≤ j) → pz_ef t k a j e = e := by
  intro a
  induction a with
  | zero => intro j e _; rfl
  | succ a ih =>
    intro j e h
    rw [pz_ef, if_neg (by omega), ih _ _ (by omega)]
theorem pz_ef_cs (t : Nat → Int32) (k : Nat) : ∀ a p e, p + a ≤ 8 → pz_ef t k a (8 * k + p) e = pz_cs t k a p e := by
  intro a
  induction a with
  | zero => intro p e _; rfl
  | succ a ih =>
    intro p e h
    rw [pz_ef, if_pos (by omega), pz_cs, Nat.add_assoc, ih _ _ (by omega)]
theorem pz_cs_add (t : Nat → Int32) (k : Nat) : ∀ a b p e, pz_cs t k (a + b) p e = pz_cs t k b (p + a) (pz_cs t k a p e) := by
  intro a
  induction a with
  | zero => intro b j e; rw [Nat.zero_add]; rfl
  | succ a ih =>
    intro b j e
    rw [show a + 1 + b = (a + b) + 1 by omega, pz_cs, pz_cs, ih, show j + 1 + a = j + (a + 1) by omega]
theorem pz_cs_0 (t : Nat → Int32) (k : Nat) : ∀ a p e, (∀ q, p ≤ q → q < p + a → t (8 * k + q) = 0) → pz_cs t k a p e = e := by
  intro a
  induction a with
  | zero => intro p e _; rfl
  | succ a ih =>
    intro p e h
    rw [pz_cs, h p (Nat.le_refl _) (by omega), Int32.sub_zero, ih _ _ (fun q q1 q2 => h q (by omega) (by omega))]
theorem pz_ef_all (t : Nat → Int32) {k K P : Nat} (hk : k < K) (hP : P ≤ 8) (h0 : ∀ q, P ≤ q → q < 8 → t (8 * k + q) = 0) (e : Int32) : pz_ef t k (8 * K) 0 e = pz_cs t k P 0 e := by
  have e1 : 8 * K = 8 * k + (8 + (8 * K - 8 * k - 8)) := by omega
  rw [e1, pz_ef_add, pz_ef_out t k (8 * k) 0 e (by omega), pz_ef_add, Nat.zero_add, pz_ef_out t k _ (8 * k + 8) _ (by omega)]
  have := pz_ef_cs t k 8 0 e (by omega)
  rw [Nat.add_zero] at this
  rw [this, show (8 : Nat) = P + (8 - P) by omega, pz_cs_add, Nat.zero_add]
  exact pz_cs_0 t k _ _ _ (fun q q1 q2 => h0 q q1 (by omega))
set_option maxHeartbeats 4000000 in
set_option maxRecDepth 100000 in
theorem pz_y2 (N : Nat) (hN : 200000 ≤ N) (l : Int32) (h : Nat → Nat) {A : Nat → Int32} {d K : Nat} (hd : d < 2147483647) (hK : K ≤ 6) (a3 : A 3 = nI K) (h9 : ∀ j, j < 8 * K → h j ≤ 9) : ∀ n j (mo : zMS), j ≤ 8 * K → 8 * K - j < n → mo.1.2 5 = A → mo.2 = lN (pz_D l h d j) → (∀ i, j ≤ i → i < 8 * K → mo.1.2 8 (29 + i) = nI (h i)) → ∃ G, fX12_year_l2 N l n (nI j) mo = some (zMd (zMA mo 8 G) (lN (pz_D l h d (8 * K)))) ∧ (∀ i, j ≤ i → i < 8 * K → G (29 + i) = nI (pz_Nw l h d i)) ∧ (∀ k, k < K → G (1 + k) = pz_ef (fun i => pz_tc (A 7) (pz_Nw l h d i)) k (8 * K - j) j (mo.1.2 8 (1 + k))) ∧ (∀ i, (i = 0 ∨ (7 ≤ i ∧ i < 29 + j)) → G i = mo.1.2 8 i) := by
  have k3 : (3 : Int32).toNatClampNeg = 3 := rfl
  have k7 : (7 : Int32).toNatClampNeg = 7 := rfl
  intro n
  induction n with
  | zero => intro j mo h1 h2; omega
  | succ n ih =>
    intro j mo h1 h2 hm hmd hc
    have m3 : mo.1.2 5 3 = nI K := by rw [hm]; exact a3
    have e8 : (8 : Int32) * nI K = nI (8 * K) := by rw [show (8 : Int32) = nI 8 from rfl, pk_mul]
    rcases Nat.lt_or_ge j (8 * K) with h3 | h3
    · have g1 : ¬ nI (8 * K) ≤ nI j := nI_ge h3 (by omega)
      have e2 : (29 : Int32) + nI j = nI (29 + j) := nI_add 29 j
      have i77 := pz_ni (show 29 + j < 77 by omega) (by omega)
      have cl := nI_clamp (show 29 + j < 2 ^ 31 by omega)
      have e5 : (1 : Int32) + nI j / (8 : Int32) = nI (1 + j / 8) := by rw [show (8 : Int32) = nI 8 from rfl, pk_div (by omega) (by omega) (by omega), show (1 : Int32) = nI 1 from rfl, nI_add]
      have i1 := pz_ni (show 1 + j / 8 < 77 by omega) (by omega)
      have cl1 := nI_clamp (show 1 + j / 8 < 2 ^ 31 by omega)
      have hv := hc j (Nat.le_refl _) h3
      have s := pz_y3 N l (show j < 48 by omega) (h9 j h3) (h j) N 0 (pz_D l h d j) (h j) mo (by omega) (by have := h9 j h3; omega) (pz_D_b l h hd _) (Nat.le_refl _) (h9 j h3) hmd hv
      rw [show nI 0 = (0 : Int32) from rfl, show (pz_ls l (h j) (pz_D l h d j) (h j)).1 = pz_D l h d (j + 1) from rfl, show (pz_ls l (h j) (pz_D l h d j) (h j)).2 = pz_Nw l h d j from rfl] at s
      have nb := pz_Nw_b l h hd j
      have hj9 := h9 j h3
      obtain ⟨G, f1, f2, f3, f4⟩ := ih (j + 1) (zMA (zMd (zMA mo 8 (upd (mo.1.2 8) (29 + j) (nI (pz_Nw l h d j)))) (lN (pz_D l h d (j + 1)))) 8 (upd (upd (mo.1.2 8) (29 + j) (nI (pz_Nw l h d j))) (1 + j / 8) (mo.1.2 8 (1 + j / 8) - pz_tc (A 7) (pz_Nw l h d j)))) (by omega) (by omega) hm rfl (fun i i1 i2 => by
        rw [pz_MA, pk_un (by omega), pk_un (by omega)]
        exact hc i (by omega) i2)
      refine ⟨G, ?_, ?_, ?_, ?_⟩
      · have mA : (zMd (zMA mo 8 (upd (mo.1.2 8) (29 + j) (nI (pz_Nw l h d j)))) (lN (pz_D l h d (j + 1)))).1.2 8 = upd (mo.1.2 8) (29 + j) (nI (pz_Nw l h d j)) := pz_MA _ _ _
        have m7 : (zMd (zMA mo 8 (upd (mo.1.2 8) (29 + j) (nI (pz_Nw l h d j)))) (lN (pz_D l h d (j + 1)))).1.2 5 7 = A 7 := by
          show mo.1.2 5 7 = A 7
          rw [hm]
        have u1 : upd (mo.1.2 8) (29 + j) (nI (pz_Nw l h d j)) (29 + j) = nI (pz_Nw l h d j) := pk_us
        have u2 : upd (mo.1.2 8) (29 + j) (nI (pz_Nw l h d j)) (1 + j / 8) = mo.1.2 8 (1 + j / 8) := pk_un (by omega)
        have q1 : nI (pz_Nw l h d j) ≤ (1 : Int32) ↔ pz_Nw l h d j ≤ 1 := nI_leI (b := 1) (by omega) (by omega)
        have fin : ∀ X : Option zMS, X = some (zMd (zMA (zMA (zMd (zMA mo 8 (upd (mo.1.2 8) (29 + j) (nI (pz_Nw l h d j)))) (lN (pz_D l h d (j + 1)))) 8 (upd (upd (mo.1.2 8) (29 + j) (nI (pz_Nw l h d j))) (1 + j / 8) (mo.1.2 8 (1 + j / 8) - pz_tc (A 7) (pz_Nw l h d j)))) 8 G) (lN (pz_D l h d (8 * K)))) → X = some (zMd (zMA mo 8 G) (lN (pz_D l h d (8 * K)))) := by
          intro X hX
          rw [hX, pz_MAA]
          show some ((mo.1.1, va_up (va_up mo.1.2 8 _) 8 G), _) = some ((mo.1.1, va_up mo.1.2 8 G), _)
          rw [bx_uu]
        simp only [fX12_year_l2, k3, k7, m3, e8, g1, e2, i77, cl, hv, s, e5, i1, cl1, mA, m7, u1, u2, q1, nI_1, ↓reduceIte, Option.bind_some, or_self, or_false, false_or, or_true, true_or, and_true, true_and, and_false, false_and, not_true_eq_false, not_false_eq_true]
        by_cases c1 : pz_Nw l h d j ≤ 1
        · have t0 : pz_tc (A 7) (pz_Nw l h d j) = 0 := by unfold pz_tc; rw [if_pos c1]
          rw [t0] at f1 fin
          simp only [c1, ↓reduceIte, Option.bind_some, or_self, or_false, false_or, or_true, true_or, and_true, true_and, and_false, false_and, not_true_eq_false, not_false_eq_true]
          exact fin _ f1
        · have t0 : pz_tc (A 7) (pz_Nw l h d j) = (nI (pz_Nw l h d j) - 1) * A 7 := by unfold pz_tc; rw [if_neg c1]
          rw [t0] at f1 fin
          simp only [c1, ↓reduceIte, Option.bind_some, or_self, or_false, false_or, or_true, true_or, and_true, true_and, and_false, false_and, not_true_eq_false, not_false_eq_true]
          exact fin _ f1
      · intro i i1 i2
        rcases Nat.eq_or_lt_of_le i1 with i3 | i3
        · subst i3
          rw [f4 _ (by omega), pz_MA, pk_un (by omega)]
          exact pk_us
        · exact f2 i i3 i2
      · intro k hk
        rw [f3 k hk, pz_MA, show 8 * K - j = (8 * K - (j + 1)) + 1 by omega, pz_ef]
        congr 1
        by_cases c1 : j / 8 = k
        · rw [if_pos c1, c1]
          exact pk_us
        · rw [if_neg c1, pk_un (by omega), pk_un (by omega)]
      · intro i hi
        rw [f4 i (by omega), pz_MA, pk_un (by omega), pk_un (by omega)]
    · have e : j = 8 * K := by omega
      subst e
      have g1 : nI (8 * K) ≤ nI (8 * K) := Int32.le_refl _
      refine ⟨mo.1.2 8, ?_, fun i i1 i2 => by omega, ?_, fun _ _ => rfl⟩
      · simp only [fX12_year_l2, k3, m3, e8, g1, pz_MA0, ↓reduceIte, Option.bind_some, or_self, or_false, false_or, or_true, true_or, and_true, true_and, and_false, false_and, not_true_eq_false, not_false_eq_true]
        rw [← hmd]
        rfl
      · intro k hk
        rw [Nat.sub_self]
        rfl
