/-! THE PURE LAYER: a year whole, go -/
set_option maxHeartbeats 4000000 in
set_option maxRecDepth 100000 in
theorem pz_spC (N : Nat) {P : Nat} (hP : P ≤ 8) : ∀ n p (L : zLS), p ≤ P → P - p < n → L.1.1 7 = nI P → ∃ g, fX4_spreadSold_l1 N n (nI p) L = some (zLA L 17 g) ∧ (∀ q, p ≤ q → q < P → g q = if L.1.2 18 q = -1000000 then L.1.2 17 q else L.1.2 17 q + L.1.1 4) ∧ (∀ q, q < p → g q = L.1.2 17 q) := by
  intro n
  induction n with
  | zero => intro p L h1 h2; omega
  | succ n ih =>
    intro p L h1 h2 l7
    rcases Nat.lt_or_ge p P with h3 | h3
    · have g1 : ¬ nI P ≤ nI p := nI_ge h3 (by omega)
      have g2 : ¬ (8 : Int32) ≤ nI p := nI_ge (b := 8) (by omega) (by omega)
      have i8 := pz_ni (show p < 8 by omega) (by omega)
      have cl := nI_clamp (show p < 2 ^ 31 by omega)
      by_cases c : L.1.2 18 p = -1000000
      · obtain ⟨g, e1, e2, e3⟩ := ih (p + 1) L (by omega) (by omega) l7
        refine ⟨g, ?_, ?_, fun q hq => e3 q (by omega)⟩
        · simp only [fX4_spreadSold_l1, l7, g1, g2, i8, cl, c, nI_1, ↓reduceIte, Option.bind_some, or_self, or_false, false_or, or_true, true_or, and_true, true_and, and_false, false_and, not_true_eq_false, not_false_eq_true]
          exact e1
        · intro q q1 q2
          rcases Nat.eq_or_lt_of_le q1 with q3 | q3
          · subst q3
            rw [e3 _ (by omega), if_pos c]
          · exact e2 q q3 q2
      · obtain ⟨g, e1, e2, e3⟩ := ih (p + 1) (zLA L 17 (upd (L.1.2 17) p (L.1.2 17 p + L.1.1 4))) (by omega) (by omega) l7
        refine ⟨g, ?_, ?_, ?_⟩
        · simp only [fX4_spreadSold_l1, l7, g1, g2, i8, cl, c, nI_1, ↓reduceIte, Option.bind_some, or_self, or_false, false_or, or_true, true_or, and_true, true_and, and_false, false_and, not_true_eq_false, not_false_eq_true]
          rw [e1, pz_LAA]
        · intro q q1 q2
          rcases Nat.eq_or_lt_of_le q1 with q3 | q3
          · subst q3
            rw [e3 _ (by omega), if_neg c, pz_LA]
            exact pk_us
          · have := e2 q q3 q2
            rw [pz_LA, pk_un (by omega)] at this
            exact this
        · intro q hq
          rw [e3 q (by omega), pz_LA]
          exact pk_un (by omega)
    · have e : p = P := by omega
      subst e
      have g1 : nI p ≤ nI p := Int32.le_refl _
      refine ⟨L.1.2 17, ?_, fun q q1 q2 => by omega, fun _ _ => rfl⟩
      simp only [fX4_spreadSold_l1, l7, g1, pz_LA0, ↓reduceIte, Option.bind_some, or_self, or_false, false_or, or_true, true_or, and_true, true_and, and_false, false_and, not_true_eq_false, not_false_eq_true]
set_option maxHeartbeats 4000000 in
set_option maxRecDepth 100000 in
theorem pz_spR (N : Nat) {A : Nat → Int32} {P : Nat} (hP : P ≤ 8) (a4 : A 4 = nI P) : ∀ n p (mo : zMS), p ≤ P → P - p < n → mo.1.2 5 = A → ∃ G, fX12_year_l4 N n (nI p) mo = some (zMA mo 8 G) ∧ (∀ q, p ≤ q → q < P → G (13 + q) = if mo.1.2 8 (21 + q) = -1000000 then mo.1.2 8 (13 + q) else mo.1.2 8 (13 + q) + A 6) ∧ (∀ i, (i < 13 + p ∨ 13 + P ≤ i) → G i = mo.1.2 8 i) := by
  have k4 : (4 : Int32).toNatClampNeg = 4 := rfl
  have k6 : (6 : Int32).toNatClampNeg = 6 := rfl
  intro n
  induction n with
  | zero => intro p mo h1 h2; omega
  | succ n ih =>
    intro p mo h1 h2 hm
    have m4 : mo.1.2 5 4 = nI P := by rw [hm]; exact a4
    have m6 : mo.1.2 5 6 = A 6 := by rw [hm]
    rcases Nat.lt_or_ge p P with h3 | h3
    · have g1 : ¬ nI P ≤ nI p := nI_ge h3 (by omega)
      have e13 : (13 : Int32) + nI p = nI (13 + p) := nI_add 13 p
      have e21 : (21 : Int32) + nI p = nI (21 + p) := nI_add 21 p
      have i13 := pz_ni (show 13 + p < 77 by omega) (by omega)
      have i21 := pz_ni (show 21 + p < 77 by omega) (by omega)
      have cl13 := nI_clamp (show 13 + p < 2 ^ 31 by omega)
      have cl21 := nI_clamp (show 21 + p < 2 ^ 31 by omega)
      by_cases c : mo.1.2 8 (21 + p) = -1000000
      · obtain ⟨G, e1, e2, e3⟩ := ih (p + 1) mo (by omega) (by omega) hm
        refine ⟨G, ?_, ?_, fun i hi => e3 i (by omega)⟩
        · simp only [fX12_year_l4, k4, m4, g1, e13, e21, i13, i21, cl13, cl21, c, Int32.add_zero, pz_upd, pz_MA0, nI_1, ↓reduceIte, Option.bind_some, or_self, or_false, false_or, or_true, true_or, and_true, true_and, and_false, false_and, not_true_eq_false, not_false_eq_true]
          exact e1
        · intro q q1 q2
          rcases Nat.eq_or_lt_of_le q1 with q3 | q3
          · subst q3
            rw [e3 _ (by omega), if_pos c]
          · exact e2 q q3 q2
      · obtain ⟨G, e1, e2, e3⟩ := ih (p + 1) (zMA mo 8 (upd (mo.1.2 8) (13 + p) (mo.1.2 8 (13 + p) + A 6))) (by omega) (by omega) hm
        refine ⟨G, ?_, ?_, ?_⟩
        · simp only [fX12_year_l4, k4, k6, m4, m6, g1, e13, e21, i13, i21, cl13, cl21, c, nI_1, ↓reduceIte, Option.bind_some, or_self, or_false, false_or, or_true, true_or, and_true, true_and, and_false, false_and, not_true_eq_false, not_false_eq_true]
          rw [e1, pz_MAA]
        · intro q q1 q2
          rcases Nat.eq_or_lt_of_le q1 with q3 | q3
          · subst q3
            rw [e3 _ (by omega), if_neg c, pz_MA]
            exact pk_us
          · have := e2 q q3 q2
            rw [pz_MA, pk_un (by omega), pk_un (by omega)] at this
            exact this
        · intro i hi
          rw [e3 i (by omega), pz_MA]
          exact pk_un (by omega)
    · have e : p = P := by omega
      subst e
      have g1 : nI p ≤ nI p := Int32.le_refl _
      refine ⟨mo.1.2 8, ?_, fun q q1 q2 => by omega, fun _ _ => rfl⟩
      simp only [fX12_year_l4, k4, m4, g1, pz_MA0, ↓reduceIte, Option.bind_some, or_self, or_false, false_or, or_true, true_or, and_true, true_and, and_false, false_and, not_true_eq_false, not_false_eq_true]
theorem pz_tc_c (cost : Int32) (c : Nat) (hc : c ≤ 9) : (if nI c - 1 < 0 then 0 else nI c - 1) * cost = pz_tc cost c := by
  unfold pz_tc
  rcases (show c = 0 ∨ c = 1 ∨ 2 ≤ c by omega) with rfl | rfl | h
  · rw [if_pos (by decide), if_pos (by omega), Int32.zero_mul]
  · rw [if_neg (by decide), if_pos (by omega), show nI 1 - 1 = 0 from rfl, Int32.zero_mul]
  · rw [if_neg ?_, if_neg (by omega)]
    rw [show (1 : Int32) = nI 1 from rfl, pk_sub (by omega)]
    exact nI_pos (by omega)
set_option maxHeartbeats 4000000 in
set_option maxRecDepth 100000 in
theorem pz_pyP (N : Nat) {K P k : Nat} {w : Nat → Nat} {cost : Int32} (hK : K ≤ 6) (hk : k < K) (hP : P ≤ 8) (hw : ∀ q, q < P → w (8 * k + q) ≤ 9) : ∀ n p (L : zLS), p ≤ P → P - p < n → L.1.1 6 = nI K → L.1.1 7 = nI P → L.1.1 5 = cost → (∀ q, q < P → L.1.2 14 (8 * k + q) = nI (w (8 * k + q))) → fX4_payCost_l3 N (nI k) n (nI p) L = some (zLA L 15 (upd (L.1.2 15) k (pz_cs (fun i => pz_tc cost (w i)) k (P - p) p (L.1.2 15 k)))) := by
  intro n
  induction n with
  | zero => intro p L h1 h2; omega
  | succ n ih =>
    intro p L h1 h2 l6 l7 l5 hv
    rcases Nat.lt_or_ge p P with h3 | h3
    · have g1 : ¬ nI P ≤ nI p := nI_ge h3 (by omega)
      have i6 := pz_ni (show k < 6 by omega) (by omega)
      have cl := nI_clamp (show k < 2 ^ 31 by omega)
      have ec : fX4_countOf N L (nI k) (nI p) = some (nI (w (8 * k + p))) := by
        have c : ¬ 48 ≤ k * 8 + p := by omega
        rw [← hv p h3, Nat.mul_comm 8 k]
        simp (disch := omega) only [fX4_countOf, l6, l7, pzl_0, pzl_1, pzl_2, pzl_3, pzl_4, pzl_5, pzl_6, pzl_7, pzl_8, pzl_9, pzl_10, pzl_13, pzl_16, pzl_21, pzl_24, pzl_29, pzl_30, pzl_36, pzl_40, pzl_42, pzl_50, pzl_58, pzl_77, pzl_116, pzl_120, pzl_154, pzl_320, pzl_500, nI_add, pk_mul, nI_clamp, nI_leI, nI_ltI, nI_eq, pz_leF, pz_leT, pz_ltF, pz_ltT, pz_eqF, pz_eqT, ↓reduceIte, Option.bind_some, or_self, or_false, false_or, or_true, true_or, and_true, true_and, and_false, false_and, not_true_eq_false, not_false_eq_true, ↓reduceIte, Option.bind_some, or_self, or_false, false_or, or_true, true_or, and_true, true_and, and_false, false_and, not_true_eq_false, not_false_eq_true]
      simp only [fX4_payCost_l3, l7, g1, i6, cl, ec, l5, pz_tc_c cost _ (hw p h3), nI_1, ↓reduceIte, Option.bind_some, or_self, or_false, false_or, or_true, true_or, and_true, true_and, and_false, false_and, not_true_eq_false, not_false_eq_true]
      rw [ih (p + 1) (zLA L 15 (upd (L.1.2 15) k (L.1.2 15 k - pz_tc cost (w (8 * k + p))))) (by omega) (by omega) l6 l7 l5 hv, pz_LAA, pz_LA, pz_upd2, pk_us]
      rw [show P - p = (P - (p + 1)) + 1 by omega, pz_cs]
    · have e : p = P := by omega
      subst e
      have g1 : nI p ≤ nI p := Int32.le_refl _
      simp only [fX4_payCost_l3, l7, g1, Nat.sub_self, pz_cs, pz_upd, pz_LA0, ↓reduceIte, Option.bind_some, or_self, or_false, false_or, or_true, true_or, and_true, true_and, and_false, false_and, not_true_eq_false, not_false_eq_true]
set_option maxHeartbeats 4000000 in
set_option maxRecDepth 100000 in
theorem pz_pyK (N : Nat) (hN : 200000 ≤ N) {K P : Nat} {w : Nat → Nat} {cost : Int32} (hK : K ≤ 6) (hP : P ≤ 8) (hw : ∀ k q, k < K → q < P → w (8 * k + q) ≤ 9) : ∀ n k (L : zLS), k ≤ K → K - k < n → L.1.1 6 = nI K → L.1.1 7 = nI P → L.1.1 5 = cost → (∀ o q, o < K → q < P → L.1.2 14 (8 * o + q) = nI (w (8 * o + q))) → ∃ g, fX4_payCost_l2 N n (nI k) L = some (zLA L 15 g) ∧ (∀ o, k ≤ o → o < K → g o = pz_cs (fun i => pz_tc cost (w i)) o P 0 (L.1.2 15 o)) ∧ (∀ o, o < k → g o = L.1.2 15 o) := by
  intro n
  induction n with
  | zero => intro k L h1 h2; omega
  | succ n ih =>
    intro k L h1 h2 l6 l7 l5 hv
    rcases Nat.lt_or_ge k K with h3 | h3
    · have g1 : ¬ nI K ≤ nI k := nI_ge h3 (by omega)
      have g2 : ¬ (6 : Int32) ≤ nI k := nI_ge (b := 6) (by omega) (by omega)
      have s := pz_pyP N hK h3 hP (fun q hq => hw k q h3 hq) N 0 L (by omega) (by omega) l6 l7 l5 (fun q hq => hv k q h3 hq)
      rw [show nI 0 = (0 : Int32) from rfl, Nat.sub_zero] at s
      obtain ⟨g, e1, e2, e3⟩ := ih (k + 1) (zLA L 15 (upd (L.1.2 15) k (pz_cs (fun i => pz_tc cost (w i)) k P 0 (L.1.2 15 k)))) (by omega) (by omega) l6 l7 l5 hv
      refine ⟨g, ?_, ?_, ?_⟩
      · simp only [fX4_payCost_l2, l6, g1, g2, s, nI_1, ↓reduceIte, Option.bind_some, or_self, or_false, false_or, or_true, true_or, and_true, true_and, and_false, false_and, not_true_eq_false, not_false_eq_true]
        rw [e1, pz_LAA]
      · intro o o1 o2
        rcases Nat.eq_or_lt_of_le o1 with o3 | o3
        · subst o3
          rw [e3 _ (by omega), pz_LA]
          exact pk_us
        · have := e2 o o3 o2
          rw [pz_LA, pk_un (by omega)] at this
          exact this
      · intro o ho
        rw [e3 o (by omega), pz_LA]
        exact pk_un (by omega)
    · have e : k = K := by omega
      subst e
      have g1 : nI k ≤ nI k := Int32.le_refl _
      refine ⟨L.1.2 15, ?_, fun o o1 o2 => by omega, fun _ _ => rfl⟩
      simp only [fX4_payCost_l2, l6, g1, pz_LA0, ↓reduceIte, Option.bind_some, or_self, or_false, false_or, or_true, true_or, and_true, true_and, and_false, false_and, not_true_eq_false, not_false_eq_true]
theorem pz_Nw_eq (l : Int32) (h : Nat → Nat) (d e j : Nat) (c : d = e ∨ l = 0) : pz_Nw l h d j = pz_Nw l h e j := by
  rcases c with rfl | rfl
  · rfl
  · unfold pz_Nw
    rw [pz_ls_0, pz_ls_0]
set_option maxHeartbeats 4000000 in
set_option maxRecDepth 100000 in
/-- A YEAR: class and reference alike (by LOST l, draws alike or LOST 0) -/
theorem pz_year (N : Nat) (hN : 200000 ≤ N) {KL : List Nat} {kc : Nat → zKC} {L : zLS} {mo : zMS} {l : Int32} {K P Q T dc dr : Nat} (hA : pz_A (mo.1.2 5) K P Q T) (hH : pz_H (mo.1.2 8) K P) (hL : pz_L KL kc L (mo.1.2 5) (mo.1.2 8) K P Q) (hl : L.1.1 3 = l) (hdc : dc < 2147483647) (hdr : dr < 2147483647) (hd : dc = dr ∨ l = 0) (hm : mo.2 = lN dr) : ∃ u7 u9 u11 u13 H' dc' dr', fX4_sellAll N KL kc L = some u7 ∧ fX4_loseByChance N u7 (nI dc) = some (nI dc', u9) ∧ fX4_spreadSold N u9 = some u11 ∧ fX4_payCost N u11 = some u13 ∧ fX12_year N mo l = some (zMd (zMA mo 8 H') (lN dr')) ∧ pz_L KL kc (zLi u13 8 (u13.1.1 8 + 1)) (mo.1.2 5) H' K P Q ∧ pz_H H' K P ∧ u13.1.1 3 = l ∧ u13.2 = L.2 ∧ dc' < 2147483647 ∧ dr' < 2147483647 ∧ (dc = dr → dc' = dr') := by
  obtain ⟨⟨hK1, hK6, hP8, hQ1, hQ8, hT1, hT60⟩, hA3, hA4, hA2, hA1, hA0⟩ := pz_A_n hA
  obtain ⟨L1, H1, s1, s2, s3, s4, s5⟩ := pz_sellAll N hN hA hL
  have k0 : (0 : Int32).toNatClampNeg = 0 := rfl
  have z0 : nI 0 = (0 : Int32) := rfl
  have l6 : L1.1.1 6 = nI K := s3.1.trans hA3
  have l7 : L1.1.1 7 = nI P := s3.2.1.trans hA4
  have l3 : L1.1.1 3 = l := by rw [s4.1]; exact hl
  have l5 : L1.1.1 5 = mo.1.2 5 7 := s3.2.2.2.2.2.2.1
  have l4 : L1.1.1 4 = mo.1.2 5 6 := s3.2.2.2.2.2.1
  have l8 : L1.1.1 8 = H1 0 := s3.2.2.2.2.2.2.2.1
  -- the cells before
  have hh : ∀ k p, k < K → p < P → ((mo.1.2 8 (29 + (8 * k + p))).toNatClampNeg ≤ 9 ∧ mo.1.2 8 (29 + (8 * k + p)) = nI (mo.1.2 8 (29 + (8 * k + p))).toNatClampNeg) := by
    intro k p hk hp
    obtain ⟨c, c9, e⟩ := hH.1 k p hk hp
    rw [← Nat.add_assoc, e, nI_clamp (by omega)]
    exact ⟨c9, rfl⟩
  have hz : ∀ k p, k < K → P ≤ p → p < 8 → (mo.1.2 8 (29 + (8 * k + p)) = 0 ∧ (mo.1.2 8 (29 + (8 * k + p))).toNatClampNeg = 0) := by
    intro k p hk h1 h2
    have := hH.2 k p hk h1 h2
    rw [← Nat.add_assoc, this]
    exact ⟨rfl, rfl⟩
  generalize hf : (fun j => (mo.1.2 8 (29 + j)).toNatClampNeg) = f at *
  have ff : ∀ j, f j = (mo.1.2 8 (29 + j)).toNatClampNeg := fun j => by rw [← hf]
  have f9 : ∀ k p, k < K → p < P → f (8 * k + p) ≤ 9 := fun k p hk hp => by rw [ff]; exact (hh k p hk hp).1
  have f0 : ∀ k p, k < K → P ≤ p → p < 8 → f (8 * k + p) = 0 := fun k p hk h1 h2 => by rw [ff]; exact (hz k p hk h1 h2).2
  have split8 : ∀ j, j < 8 * K → ∃ k p, k < K ∧ p < 8 ∧ j = 8 * k + p := fun j hj => ⟨j / 8, j % 8, by omega, by omega, by omega⟩
  have fc : ∀ j, j < 8 * K → mo.1.2 8 (29 + j) = nI (f j) ∧ f j ≤ 9 := by
    intro j hj
    obtain ⟨k, p, hk, hp, rfl⟩ := split8 j hj
    rcases Nat.lt_or_ge p P with c | c
    · rw [ff]; exact ⟨(hh k p hk c).2, (hh k p hk c).1⟩
    · rw [f0 k p hk c hp, (hz k p hk c hp).1]; exact ⟨rfl, by omega⟩
  -- the class' chests
  obtain ⟨g, c1, c2, -⟩ := pz_l3 N hN l f (d := dc) hdc hK6 hP8 f9 f0 N 0 L1 (by omega) (by omega) l6 l7 l3 (fun o q _ ho hq => by
    rw [s3.2.2.2.2.2.2.2.2.2.2.2.1 o q ho hq, s5 _ (by omega), Nat.add_assoc]
    exact (fc _ (by omega)).1)
  -- the reference's
  obtain ⟨G, r1, r2, r3, r4⟩ := pz_y2 N hN l f (d := dr) hdr hK6 hA3 (fun j hj => (fc j hj).2) N 0 (zMA mo 8 H1) (by omega) (by omega) rfl hm (fun i _ hi => by
    rw [pz_MA, s5 _ (by omega)]
    exact (fc i hi).1)
  rw [pz_MA] at r3 r4
  have nq : ∀ j, pz_Nw l f dc j = pz_Nw l f dr j := fun j => pz_Nw_eq l f dc dr j hd
  have nb : ∀ j, pz_Nw l f dr j ≤ f j := fun j => pz_Nw_b l f hdr j
  have n0 : ∀ k p, k < K → P ≤ p → p < 8 → pz_Nw l f dr (8 * k + p) = 0 := fun k p hk h1 h2 => by
    have := nb (8 * k + p)
    rw [f0 k p hk h1 h2] at this
    omega
  -- the spreading
  obtain ⟨gs, p1, p2, -⟩ := pz_spC N hP8 N 0 (zLA L1 14 g) (by omega) (by omega) l7
  obtain ⟨GS, q1, q2, q3⟩ := pz_spR N hP8 hA4 N 0 (zMd (zMA (zMA mo 8 H1) 8 G) (lN (pz_D l f dr (8 * K)))) (by omega) (by omega) rfl
  rw [show (zMd (zMA (zMA mo 8 H1) 8 G) (lN (pz_D l f dr (8 * K)))).1.2 8 = G from pz_MA _ _ _] at q2 q3
  -- the cost
  obtain ⟨ge, t1, t2, -⟩ := pz_pyK N hN (w := pz_Nw l f dr) (cost := mo.1.2 5 7) hK6 hP8 (fun k q hk hq => Nat.le_trans (nb _) (f9 k q hk hq)) N 0 (zLA (zLA L1 14 g) 17 gs) (by omega) (by omega) l6 l7 l5 (fun o q ho hq => by
    show g (8 * o + q) = _
    rw [c2 o q (by omega) ho hq, nq])
  rw [z0] at c1 r1 p1 q1 t1
  refine ⟨L1, zLA L1 14 g, zLA (zLA L1 14 g) 17 gs, zLA (zLA (zLA L1 14 g) 17 gs) 15 ge, upd GS 0 (GS 0 + 1), pz_D l f dc (8 * K), pz_D l f dr (8 * K), s1, ?_, ?_, ?_, ?_, ?_, ?_, l3, s4.2, pz_D_b l f hdc _, pz_D_b l f hdr _, ?_⟩
  · unfold fX4_loseByChance
    have : pz_D l f dc (8 * 0) = dc := rfl
    rw [this] at c1
    rw [c1]; rfl
  · unfold fX4_spreadSold
    rw [p1]; rfl
  · unfold fX4_payCost
    rw [t1]; rfl
  · unfold fX12_year
    simp only [s2, r1, q1, k0, ↓reduceIte, Option.bind_some, or_self, or_false, false_or, or_true, true_or, and_true, true_and, and_false, false_and, not_true_eq_false, not_false_eq_true]
    rw [show (zMA (zMd (zMA (zMA mo 8 H1) 8 G) (lN (pz_D l f dr (8 * K)))) 8 GS).1.2 8 = GS from pz_MA _ _ _, pz_MAA]
    show some ((mo.1.1, va_up (va_up (va_up mo.1.2 8 H1) 8 G) 8 _), _) = some ((mo.1.1, va_up mo.1.2 8 _), _)
    rw [bx_uu, bx_uu]
    rfl
  · obtain ⟨m6, m7, m2, m1, m0, m4, m5, m8, m9, m12, m15, m14, mk⟩ := s3
    refine ⟨m6, m7, m2, m1, m0, m4, m5, ?_, m9, ?_, ?_, ?_, ?_⟩
    · show L1.1.1 8 + 1 = upd GS 0 (GS 0 + 1) 0
      rw [pk_us, q3 0 (by omega), r4 0 (by omega), l8]
    · intro p hp
      obtain ⟨a, b, c, d⟩ := m12 p hp
      refine ⟨a, b, ?_, ?_⟩
      · show gs p = upd GS 0 (GS 0 + 1) (13 + p)
        rw [pk_un (by omega), p2 p (by omega) hp, q2 p (by omega) hp, r4 (21 + p) (by omega), r4 (13 + p) (by omega)]
        show (if L1.1.2 18 p = -1000000 then L1.1.2 17 p else L1.1.2 17 p + L1.1.1 4) = _
        rw [c, d, l4]
      · show L1.1.2 18 p = upd GS 0 (GS 0 + 1) (21 + p)
        rw [pk_un (by omega), q3 _ (by omega), r4 _ (by omega)]
        exact d
    · intro k hk
      obtain ⟨a, b⟩ := m15 k hk
      constructor
      · show ge k = upd GS 0 (GS 0 + 1) (1 + k)
        rw [pk_un (by omega), q3 _ (by omega), r3 k hk, t2 k (by omega) hk, Nat.sub_zero]
        rw [pz_ef_all _ hk hP8 (fun q h1 h2 => by
          show pz_tc _ _ = 0
          rw [n0 k q hk h1 h2]
          rfl)]
        show pz_cs _ k P 0 (L1.1.2 15 k) = _
        rw [a]
      · show L1.1.2 16 k = upd GS 0 (GS 0 + 1) (7 + k)
        rw [pk_un (by omega), q3 _ (by omega), r4 _ (by omega)]
        exact b
    · intro k p hk hp
      show g (8 * k + p) = upd GS 0 (GS 0 + 1) (29 + 8 * k + p)
      rw [pk_un (by omega), q3 _ (by omega), c2 k p (by omega) hk hp, nq, Nat.add_assoc, r2 _ (by omega) (by omega)]
    · intro k hk
      exact mk k hk
  · refine ⟨fun k p hk hp => ⟨pz_Nw l f dr (8 * k + p), Nat.le_trans (nb _) (f9 k p hk hp), ?_⟩, fun k p hk h1 h2 => ?_⟩
    · rw [pk_un (by omega), q3 _ (by omega), Nat.add_assoc, r2 _ (by omega) (by omega)]
    · rw [pk_un (by omega), q3 _ (by omega), Nat.add_assoc, r2 _ (by omega) (by omega), n0 k p hk h1 h2]
      rfl
  · intro e
    subst e
    rfl
theorem pz_zLi8 {KL : List Nat} {kc : Nat → zKC} {L : zLS} {v : Int32} : (zLi L 8 v).1.1 3 = L.1.1 3 ∧ (zLi L 8 v).2 = L.2 := ⟨rfl, rfl⟩
theorem pz_Ad (mo : zMS) (H H' : Nat → Int32) (d d' : Int64) : zMd (zMA (zMd (zMA mo 8 H) d) 8 H') d' = zMd (zMA mo 8 H') d' := by
  show ((mo.1.1, va_up (va_up mo.1.2 8 H) 8 H'), d') = ((mo.1.1, va_up mo.1.2 8 H'), d')
  rw [bx_uu]
theorem pz_Ad0 (mo : zMS) : zMd (zMA mo 8 (mo.1.2 8)) mo.2 = mo := by
  rw [pz_MA0]
  rfl
set_option maxHeartbeats 4000000 in
set_option maxRecDepth 100000 in
theorem pz_goL (N : Nat) (hN : 200000 ≤ N) {KL : List Nat} {kc : Nat → zKC} {A : Nat → Int32} {K P Q T j : Nat} (hj : j ≤ 60) (hA : pz_A A K P Q T) : ∀ n i (L : zLS) (mo : zMS) (d : Nat), i ≤ j → j - i < n → mo.1.2 5 = A → pz_H (mo.1.2 8) K P → pz_L KL kc L A (mo.1.2 8) K P Q → L.1.1 3 = A 5 → d < 2147483647 → mo.2 = lN d → ∃ L' H' d', fX4_passYears_l1 N KL kc (nI j) n (nI d) (nI i) L = some L' ∧ fX12_go_l1 N (nI j) n (nI i) mo = some (zMd (zMA mo 8 H') (lN d')) ∧ pz_L KL kc L' A H' K P Q ∧ pz_H H' K P ∧ L'.1.1 3 = A 5 ∧ L'.2 = L.2 ∧ d' < 2147483647 := by
  have k5 : (5 : Int32).toNatClampNeg = 5 := rfl
  intro n
  induction n with
  | zero => intro i L mo d h1 h2; omega
  | succ n ih =>
    intro i L mo d h1 h2 hm hH hL hl hd hmd
    rcases Nat.lt_or_ge i j with h3 | h3
    · have g1 : ¬ nI j ≤ nI i := nI_ge h3 (by omega)
      subst hm
      obtain ⟨u7, u9, u11, u13, H1, dc, dr, e1, e2, e3, e4, e5, e6, e7, e8, e9, e10, e11, e12⟩ := pz_year N hN hA hH hL hl hd hd (.inl rfl) hmd
      have m5 : (zMd (zMA mo 8 H1) (lN dr)).1.2 8 = H1 := pz_MA _ _ _
      have e13 := e12 rfl
      subst e13
      obtain ⟨L', H', d', f1, f2, f3, f4, f5, f6, f7⟩ := ih (i + 1) (zLi u13 8 (u13.1.1 8 + 1)) (zMd (zMA mo 8 H1) (lN dc)) dc (by omega) (by omega) rfl (by rw [m5]; exact e7) (by rw [m5]; exact e6) e8 e10 rfl
      refine ⟨L', H', d', ?_, ?_, f3, f4, f5, f6.trans e9, f7⟩
      · simp only [fX4_passYears_l1, g1, e1, e2, e3, e4, nI_1, ↓reduceIte, Option.bind_some, or_self, or_false, false_or, or_true, true_or, and_true, true_and, and_false, false_and, not_true_eq_false, not_false_eq_true]
        exact f1
      · simp only [fX12_go_l1, g1, k5, e5, nI_1, ↓reduceIte, Option.bind_some, or_self, or_false, false_or, or_true, true_or, and_true, true_and, and_false, false_and, not_true_eq_false, not_false_eq_true]
        rw [f2, pz_Ad]
    · have e : i = j := by omega
      subst e
      have g1 : nI i ≤ nI i := Int32.le_refl _
      refine ⟨L, mo.1.2 8, d, ?_, ?_, hL, hH, hl, rfl, hd⟩
      · simp only [fX4_passYears_l1, g1, ↓reduceIte, Option.bind_some, or_self, or_false, false_or, or_true, true_or, and_true, true_and, and_false, false_and, not_true_eq_false, not_false_eq_true]
      · simp only [fX12_go_l1, g1, ↓reduceIte, Option.bind_some, or_self, or_false, false_or, or_true, true_or, and_true, true_and, and_false, false_and, not_true_eq_false, not_false_eq_true]
        rw [← hmd, pz_Ad0]
set_option maxHeartbeats 4000000 in
set_option maxRecDepth 100000 in
theorem ps_go {N : Nat} (hN : 200000 ≤ N) : zStep_go N pz_Inv := by
  intro KL kc on rw rd ft tr la mo hI x1 x2
  rcases pz_nows N (mo := zMi mo 0 0) hI.2.2.2.2.2.1 with ⟨h7, -, -, -, -, ht⟩ | ⟨h7, ht, K, P, Q, T, hA, hH, hL, hl, -⟩
  · have h7 : mo.1.1 7 = 0 := h7
    simp only [fX11_go, fX12_go, h7, ht, ↓reduceIte, Option.bind_some, or_self, or_false, false_or, or_true, true_or, and_true, true_and, and_false, false_and, not_true_eq_false, not_false_eq_true, pz_10, pz_01, eq_self]
    exact ⟨_, _, rfl, rfl, rfl, pz_ro 0 _ hI⟩
  have h7 : mo.1.1 7 = 1 := h7
  rcases pz_wiN N x1 1 60 1 60 with h1 | ⟨h1, j, -, hj, rfl⟩
  · simp only [fX11_go, fX12_go, h7, ht, pz_in_1_60, h1, ↓reduceIte, Option.bind_some, or_self, or_false, false_or, or_true, true_or, and_true, true_and, and_false, false_and, not_true_eq_false, not_false_eq_true, pz_10, pz_01, eq_self]
    exact ⟨_, _, rfl, rfl, rfl, pz_ro 0 _ hI⟩
  rcases pz_wiN N x2 1 999999 1 999999 with h2 | ⟨h2, s, -, hs, rfl⟩
  · simp only [fX11_go, fX12_go, h7, ht, pz_in_1_60, h1, pz_in_1_999999, h2, ↓reduceIte, Option.bind_some, or_self, or_false, false_or, or_true, true_or, and_true, true_and, and_false, false_and, not_true_eq_false, not_false_eq_true, pz_10, pz_01, eq_self]
    exact ⟨_, _, rfl, rfl, rfl, pz_ro 0 _ hI⟩
  obtain ⟨L', H', d', f1, f2, f3, f4, f5, f6, f7⟩ := pz_goL N hN hj hA N 0 (la on.2.1) (zMd (zMi mo 0 0) (nI s).toInt64) s (by omega) (by omega) rfl hH hL hl (by omega) (nI_l (by omega))
  have k0 : (0 : Int32).toNatClampNeg = 0 := rfl
  rw [show nI 0 = (0 : Int32) from rfl] at f1 f2
  simp only [fX11_go, fX12_go, fX4_passYears, h7, ht, pz_in_1_60, h1, pz_in_1_999999, h2, f1, f2, k0, ↓reduceIte, Option.bind_some, or_self, or_false, false_or, or_true, true_or, and_true, true_and, and_false, false_and, not_true_eq_false, not_false_eq_true, pz_10, pz_01, eq_self]
  refine ⟨_, _, rfl, rfl, ?_, pz_nw hI (.inr ⟨h7, K, P, Q, T, hA, ?_, ?_, f5⟩) ?_ rfl ?_ (fun j h _ => pk_un (by omega)) rfl rfl ⟨d', f7, rfl⟩⟩
  · show L'.1.1 8 = va_up mo.1.2 8 H' 8 0
    rw [va_up_self]
    exact f3.2.2.2.2.2.2.2.1
  · show pz_H (va_up mo.1.2 8 H' 8) K P
    rw [va_up_self]
    exact f4
  · show pz_L KL kc L' (mo.1.2 5) (va_up mo.1.2 8 H' 8) K P Q
    rw [va_up_self]
    exact f3
  · have := pz_whoN hI
    unfold pz_who
    rw [f6]
    exact this
  · intro j h5 h8 _
    show va_up mo.1.2 8 _ j = _
    rw [va_up_ne _ _ h8]
