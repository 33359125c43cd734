/-! THE PURE LAYER: values for any year, worth, who has a piece -/
theorem pz_find0 {A : Nat → Int32} {t : Int32} {Q : Nat} (hQ : 1 ≤ Q) (h : t < A 8) : pz_find A t Q 0 = 0 := by
  obtain ⟨n, rfl⟩ : ∃ n, Q = n + 1 := ⟨Q - 1, by omega⟩
  unfold pz_find
  rw [if_pos h]
theorem pz_val_neg {A : Nat → Int32} {K P Q T : Nat} (h : pz_A A K P Q T) {t : Int32} (ht : t < 0) : pz_val A Q t = pz_val A Q 0 := by
  obtain ⟨hK1, hK6, hP8, hQ1, hQ8, -⟩ := id h
  obtain ⟨p1, p2⟩ := pz_A_pts h
  obtain ⟨a, v, ha, hv, ea, ev⟩ := p1 0 (by omega)
  have e1 : pz_val A Q t = A 16 := by
    unfold pz_val
    have : pz_find A t Q 0 = 0 := pz_find0 hQ1 (by rw [show A 8 = nI a from ea]; exact Int32.lt_of_lt_of_le ht (nI_pos' (by omega)))
    rw [this, if_neg (by omega), if_pos rfl]
  rw [e1]
  unfold pz_val
  obtain ⟨-, f2, -, f4⟩ := pz_find_le A 0 Q 0
  by_cases c0 : pz_find A 0 Q 0 = 0
  · rw [c0, if_neg (by omega), if_pos rfl]
  · have l0 := f4 0 (by omega) (by omega)
    rw [ea] at l0
    have a0 : a = 0 := by
      have := (nI_leI (a := a) (b := 0) (by omega) (by omega)).mp l0
      omega
    have c1 : pz_find A 0 Q 0 = 1 := by
      rcases Nat.lt_or_ge 1 (pz_find A 0 Q 0) with h1 | h1
      · have l1 := f4 1 (by omega) h1
        have l2 := p2 0 1 (by omega) (by omega)
        rw [ea, a0] at l2
        exact absurd (Int32.lt_of_lt_of_le l2 l1) Int32.lt_irrefl
      · omega
    rw [c1]
    by_cases cQ : 1 = Q
    · rw [if_pos cQ, ← cQ]
    · rw [if_neg cQ, if_neg (by omega)]
      rw [show A (8 + (1 - 1)) = 0 from ea.trans (by rw [a0]; rfl), Int32.sub_zero, Int32.mul_zero, Int32.zero_div, Int32.add_zero]
theorem pz_val_r {A : Nat → Int32} {K P Q T : Nat} (h : pz_A A K P Q T) (t : Int32) : ∃ v, v ≤ 9999 ∧ pz_val A Q t = nI v := by
  obtain ⟨hK1, hK6, hP8, hQ1, hQ8, -⟩ := id h
  obtain ⟨p1, p2⟩ := pz_A_pts h
  unfold pz_val
  obtain ⟨-, f2, f3, f4⟩ := pz_find_le A t Q 0
  generalize pz_find A t Q 0 = i at *
  by_cases c : i = Q
  · rw [if_pos c]
    obtain ⟨-, v, -, hv, -, ev⟩ := p1 (Q - 1) (by omega)
    exact ⟨v, hv, ev⟩
  rw [if_neg c]
  by_cases c0 : i = 0
  · rw [if_pos c0]
    obtain ⟨-, v, -, hv, -, ev⟩ := p1 0 (by omega)
    exact ⟨v, hv, ev⟩
  rw [if_neg c0]
  obtain ⟨a, v, ha, hv, ea, ev⟩ := p1 i (by omega)
  obtain ⟨b, u, hb, hu, eb, eu⟩ := p1 (i - 1) (by omega)
  have g1 := f3 (by omega)
  have g2 := f4 (i - 1) (by omega) (by omega)
  rw [ea] at g1
  rw [eb] at g2
  rcases pz_ix t a with (g | g) | ⟨s, hs, rfl⟩
  · exact absurd (Int32.lt_of_le_of_lt g2 g) (nI_pos (by omega))
  · exact absurd (Int32.lt_of_le_of_lt g g1) Int32.lt_irrefl
  have g3 := (nI_leI (by omega) (by omega)).mp g2
  rw [ea, eb, ev, eu, pk_sub (a := a) (b := b) (by omega), pk_sub (a := s) (b := b) (by omega)]
  have hm : ∀ x, x ≤ 9999 → x * (s - b) ≤ 9999 * 60 := fun x hx => Nat.mul_le_mul hx (by omega)
  rcases Nat.lt_or_ge v u with w | w
  · have e1 : nI v - nI u = -nI (u - v) := by
      rw [← Int32.neg_sub, pk_sub (by omega)]
    have e2 : (-nI (u - v) * nI (s - b)) / nI (a - b) = -nI ((u - v) * (s - b) / (a - b)) := by
      rw [Int32.neg_mul, pk_mul]
      have hx := hm (u - v) (by omega)
      generalize (u - v) * (s - b) = x at *
      have hq : x / (a - b) ≤ x := Nat.div_le_self _ _
      apply Int32.toInt_inj.mp
      rw [Int32.toInt_div_of_ne_right _ _ (by
        intro hc
        have := congrArg Int32.toInt hc
        rw [nI_toInt (by omega)] at this
        have h2 : (-1 : Int32).toInt = -1 := rfl
        omega), sb_negT (by omega), sb_negT (by omega), nI_toInt (by omega), Int.neg_tdiv]
      rfl
    have hq : (u - v) * (s - b) / (a - b) ≤ u - v := Nat.div_le_of_le_mul (by
      rw [Nat.mul_comm (a - b)]
      exact Nat.mul_le_mul (Nat.le_refl _) (by omega))
    rw [e1, e2]
    generalize (u - v) * (s - b) / (a - b) = z at *
    refine ⟨u - z, by omega, ?_⟩
    rw [← Int32.sub_eq_add_neg, pk_sub (by omega)]
  · have hx := hm (v - u) (by omega)
    have hq : (v - u) * (s - b) / (a - b) ≤ v - u := Nat.div_le_of_le_mul (by
      rw [Nat.mul_comm (a - b)]
      exact Nat.mul_le_mul (Nat.le_refl _) (by omega))
    rw [pk_sub w, pk_mul, pk_div (by omega) (by omega) (by omega), nI_add]
    generalize (v - u) * (s - b) / (a - b) = z at *
    exact ⟨u + z, by omega, rfl⟩
/-- V of an age by the law -/
def pz_vo (A : Nat → Int32) (Q : Nat) (x : Int32) : Int32 := if A 0 = 0 then pz_val A Q x else if A 1 ≤ x then pz_val A Q 0 else pz_val A Q (A 1 - x)
theorem pz_vo_r {A : Nat → Int32} {K P Q T : Nat} (h : pz_A A K P Q T) (x : Int32) : ∃ v, v ≤ 9999 ∧ pz_vo A Q x = nI v := by
  unfold pz_vo
  split
  · exact pz_val_r h x
  · split
    · exact pz_val_r h _
    · exact pz_val_r h _
/-- the parts of pz_L, pz_A that are used most -/
theorem pz_A_n {A : Nat → Int32} {K P Q T : Nat} (h : pz_A A K P Q T) : (1 ≤ K ∧ K ≤ 6 ∧ P ≤ 8 ∧ 1 ≤ Q ∧ Q ≤ 8 ∧ 1 ≤ T ∧ T ≤ 60) ∧ A 3 = nI K ∧ A 4 = nI P ∧ A 2 = nI Q ∧ A 1 = nI T ∧ (A 0 = 0 ∨ A 0 = 1) := ⟨⟨h.1, h.2.1, h.2.2.1, h.2.2.2.1, h.2.2.2.2.1, h.2.2.2.2.2.1, h.2.2.2.2.2.2.1⟩, h.2.2.2.2.2.2.2.1, h.2.2.2.2.2.2.2.2.1, h.2.2.2.2.2.2.2.2.2.1, h.2.2.2.2.2.2.2.2.2.2.1, h.2.2.2.2.2.2.2.2.2.2.2.1⟩
set_option maxHeartbeats 4000000 in
set_option maxRecDepth 100000 in
theorem pz_value (N : Nat) (hN : 200000 ≤ N) {KL : List Nat} {kc : Nat → zKC} {L : zLS} {mo : zMS} {K P Q T : Nat} {H : Nat → Int32} (h : pz_A (mo.1.2 5) K P Q T) (hL : pz_L KL kc L (mo.1.2 5) H K P Q) (x : Int32) : fX4_valueAt N L x = some (pz_vo (mo.1.2 5) Q x) ∧ fX12_valueOf N mo x = some (pz_vo (mo.1.2 5) Q x) := by
  obtain ⟨⟨hK1, hK6, hP8, hQ1, hQ8, hT1, hT60⟩, hA3, hA4, hA2, hA1, hA0⟩ := pz_A_n h
  obtain ⟨l6, l7, l2, l1, l0, -, -, -, l9, -⟩ := id hL
  have k0 : (0 : Int32).toNatClampNeg = 0 := rfl
  have k1 : (1 : Int32).toNatClampNeg = 1 := rfl
  have hc : ∀ t, (fX4_valueAt_l1 N L t N 0).bind (Sum.elim (fun _ =>
      if (L.1.1 2) ≤ 0 then
        some (0 : Int32)
      else
        if (8 : Int32) < (L.1.1 2) then
          some (0 : Int32)
        else
          if ((L.1.1 2) - (1 : Int32)) < 0 ∨ 8 ≤ ((L.1.1 2) - (1 : Int32)).toNatClampNeg then none else
          some (L.1.2 10 (((L.1.1 2) - (1 : Int32)).toNatClampNeg)))
    (fun u_35 =>
      if u_35 = 0 then
        some (L.1.2 10 ((0 : Int32).toNatClampNeg))
      else
        (fX4_valueBetween N L (u_35 - (1 : Int32)) u_35 t).bind fun u_34 =>
        some u_34)) = some (pz_val (mo.1.2 5) Q t) := fun t => pz_valA N h l2 l9 t _ (pz_valL1 N L (mo.1.2 5) t hQ8 (l2.trans hA2) (fun i hi => (l9 i hi).1) N 0 (by omega) (by omega))
  have hc2 : ∀ t, (fX4_valueAt_l2 N L t N 0).bind (Sum.elim (fun _ =>
      if (L.1.1 2) ≤ 0 then
        some (0 : Int32)
      else
        if (8 : Int32) < (L.1.1 2) then
          some (0 : Int32)
        else
          if ((L.1.1 2) - (1 : Int32)) < 0 ∨ 8 ≤ ((L.1.1 2) - (1 : Int32)).toNatClampNeg then none else
          some (L.1.2 10 (((L.1.1 2) - (1 : Int32)).toNatClampNeg)))
    (fun u_35 =>
      if u_35 = 0 then
        some (L.1.2 10 ((0 : Int32).toNatClampNeg))
      else
        (fX4_valueBetween N L (u_35 - (1 : Int32)) u_35 t).bind fun u_34 =>
        some u_34)) = some (pz_val (mo.1.2 5) Q t) := fun t => pz_valA N h l2 l9 t _ (pz_valL2 N L (mo.1.2 5) t hQ8 (l2.trans hA2) (fun i hi => (l9 i hi).1) N 0 (by omega) (by omega))
  constructor
  · unfold fX4_valueAt
    rw [l0]
    rcases hA0 with e | e
    · rw [e, if_neg (show ¬ (0 : Int32) = 1 by decide)]
      refine (hc x).trans ?_
      unfold pz_vo
      rw [if_pos e]
    · rw [e, if_pos rfl]
      refine (hc2 _).trans ?_
      unfold pz_vo
      rw [e, if_neg (show ¬ (1 : Int32) = 0 by decide), l1]
      congr 1
      by_cases c : mo.1.2 5 1 ≤ x
      · rw [if_pos c]
        split
        · rfl
        · next c2 =>
          have c3 := pz_nlt c2
          rw [hA1] at c c3 ⊢
          have c4 : ¬ x < 0 := fun h => absurd (Int32.lt_of_le_of_lt c h) (nI_pos (by omega))
          obtain ⟨j, hj, rfl⟩ := nI_of c4
          have c5 := (nI_leI (by omega) hj).mp c
          have c6 := Int32.le_iff_toInt_le.mp c3
          have c7 : (nI T - nI j).toInt = (T : Int) - j := by
            rw [Int32.toInt_sub, nI_toInt (by omega), nI_toInt hj, Int.bmod_def]
            omega
          have c8 : (0 : Int32).toInt = 0 := rfl
          have : j = T := by omega
          subst this
          rw [Int32.sub_self]
      · rw [if_neg c]
        split
        · next c2 => exact (pz_val_neg h c2).symm
        · rfl
  · unfold fX12_valueOf pz_vo
    rw [k0, k1]
    rcases hA0 with e | e
    · rw [e, if_pos rfl, if_pos rfl, pz_plain N hN h]; rfl
    · rw [e, if_neg (show ¬ (1 : Int32) = 0 by decide), if_neg (show ¬ (1 : Int32) = 0 by decide), pz_plain N hN h, pz_plain N hN h]
      split <;> rfl
def pz_wo (A : Nat → Int32) (Q : Nat) (y m : Int32) : Int32 := if m ≤ 6 then pz_vo A Q y / (if m < 1 then 1 else m) else 0
theorem pz_wo_r {A : Nat → Int32} {K P Q T : Nat} (h : pz_A A K P Q T) (y m : Int32) : ∃ v, v ≤ 9999 ∧ pz_wo A Q y m = nI v := by
  unfold pz_wo
  obtain ⟨v, hv, e⟩ := pz_vo_r h y
  rw [e]
  split
  · next c =>
    by_cases c2 : m < 1
    · rw [if_pos c2]
      refine ⟨v / 1, by omega, ?_⟩
      exact pk_div (d := 1) (by omega) (by omega) (by omega)
    · rw [if_neg c2]
      have c3 : ¬ m < 0 := fun h => c2 (Int32.lt_of_lt_of_le h (by decide))
      obtain ⟨j, hj, rfl⟩ := nI_of c3
      have c4 : 0 < j := by
        have := (nI_leI (a := 1) (b := j) (by omega) hj).mp (pz_nlt c2)
        omega
      exact ⟨v / j, Nat.le_trans (Nat.div_le_self _ _) hv, pk_div (by omega) c4 hj⟩
  · exact ⟨0, by omega, rfl⟩
set_option maxHeartbeats 4000000 in
set_option maxRecDepth 100000 in
theorem pz_worth (N : Nat) (hN : 200000 ≤ N) {KL : List Nat} {kc : Nat → zKC} {L : zLS} {mo : zMS} {K P Q T : Nat} {H : Nat → Int32} (h : pz_A (mo.1.2 5) K P Q T) (hL : pz_L KL kc L (mo.1.2 5) H K P Q) (y m : Int32) : fX4_worthIn N L y m = some (pz_wo (mo.1.2 5) Q y m) ∧ fX12_worthFor N mo y m = some (pz_wo (mo.1.2 5) Q y m) := by
  obtain ⟨v1, v2⟩ := pz_value N hN h hL y
  unfold fX4_worthIn fX12_worthFor pz_wo
  by_cases c : m ≤ 6
  · rw [if_pos c, if_pos c, if_pos c, v1, v2]
    by_cases c2 : m < 1
    · have c3 : ¬ (1 : Int32) ≤ m := Int32.not_le.mpr c2
      simp only [c2, c3, ↓reduceIte, Option.bind_some, or_self, or_false, false_or, or_true, true_or, and_true, true_and, and_false, false_and, not_true_eq_false, not_false_eq_true, pz_10, pz_01, eq_self]
    · have c3 : (1 : Int32) ≤ m := pz_nlt c2
      have c4 : ¬ m = 0 := by rintro rfl; exact absurd c3 (by decide)
      simp only [c2, c3, c4, ↓reduceIte, Option.bind_some, or_self, or_false, false_or, or_true, true_or, and_true, true_and, and_false, false_and, not_true_eq_false, not_false_eq_true, pz_10, pz_01, eq_self]
  · rw [if_neg c, if_neg c, if_neg c]
    exact ⟨rfl, rfl⟩
set_option maxHeartbeats 4000000 in
set_option maxRecDepth 100000 in
theorem pz_cnt (N : Nat) {KL : List Nat} {kc : Nat → zKC} {L : zLS} {A H : Nat → Int32} {K P Q T : Nat} (h : pz_A A K P Q T) (hL : pz_L KL kc L A H K P Q) {k p : Nat} (hk : k < K) (hp : p < P) : fX4_countOf N L (nI k) (nI p) = some (H (29 + 8 * k + p)) := by
  obtain ⟨⟨hK1, hK6, hP8, hQ1, hQ8, hT1, hT60⟩, hA3, hA4, hA2, hA1, hA0⟩ := pz_A_n h
  obtain ⟨l6, l7, l2, l1, l0, -, -, -, l9, -, -, l14, -⟩ := id hL
  have c : ¬ 48 ≤ k * 8 + p := by omega
  rw [← l14 k p hk hp, Nat.mul_comm 8 k]
  simp (disch := omega) only [fX4_countOf, l6, l7, hA3, hA4, pzl_0, pzl_1, pzl_2, pzl_3, pzl_4, pzl_5, pzl_6, pzl_7, pzl_8, pzl_9, pzl_10, pzl_13, pzl_16, pzl_21, pzl_24, pzl_29, pzl_30, pzl_36, pzl_40, pzl_42, pzl_50, pzl_58, pzl_77, pzl_116, pzl_120, pzl_154, pzl_320, pzl_500, nI_add, pk_mul, nI_clamp, nI_leI, nI_ltI, nI_eq, pz_leF, pz_leT, pz_ltF, pz_ltT, pz_eqF, pz_eqT, ↓reduceIte, Option.bind_some, or_self, or_false, false_or, or_true, true_or, and_true, true_and, and_false, false_and, not_true_eq_false, not_false_eq_true, ↓reduceIte, Option.bind_some, or_self, or_false, false_or, or_true, true_or, and_true, true_and, and_false, false_and, not_true_eq_false, not_false_eq_true]
set_option maxHeartbeats 4000000 in
set_option maxRecDepth 100000 in
theorem pz_has (N : Nat) (mo : zMS) {k p : Nat} (hk : k < 6) (hp : p < 8) : fX12_has N mo (nI k) (nI p) = some (if mo.1.2 8 (29 + 8 * k + p) ≤ 0 then 0 else 1) := by
  have e : (29 : Int32) + (8 : Int32) * nI k + nI p = nI (29 + 8 * k + p) := by rw [show (29 : Int32) = nI 29 from rfl, show (8 : Int32) = nI 8 from rfl, pk_mul, nI_add, nI_add]
  have i := nI_in (show 29 + 8 * k + p < 77 by omega) (by omega)
  unfold fX12_has
  rw [e, if_neg i, nI_clamp (by omega)]
  split <;> rfl
set_option maxHeartbeats 4000000 in
set_option maxRecDepth 100000 in
theorem pz_with (N : Nat) {KL : List Nat} {kc : Nat → zKC} {L : zLS} {mo : zMS} {K P Q T : Nat} (h : pz_A (mo.1.2 5) K P Q T) (hL : pz_L KL kc L (mo.1.2 5) (mo.1.2 8) K P Q) {p : Nat} (hp : p < P) : ∀ n k c, k ≤ K → K - k < n → ∃ v, fX4_keepersWith_l1 N L (nI p) n c (nI k) = some v ∧ fX12_keepersOf_l1 N mo (nI p) n c (nI k) = some v := by
  obtain ⟨⟨hK1, hK6, hP8, hQ1, hQ8, hT1, hT60⟩, hA3, hA4, hA2, hA1, hA0⟩ := pz_A_n h
  have l6 := hL.1
  have k3 : (3 : Int32).toNatClampNeg = 3 := rfl
  intro n
  induction n with
  | zero => intro k c h1 h2; omega
  | succ n ih =>
    intro k c h1 h2
    rcases Nat.lt_or_ge k K with h3 | h3
    · have g1 : ¬ nI K ≤ nI k := nI_ge h3 (by omega)
      have e1 := pz_cnt N h hL h3 hp
      have e2 := pz_has N mo (show k < 6 by omega) (show p < 8 by omega)
      by_cases c1 : mo.1.2 8 (29 + 8 * k + p) ≤ 0
      · obtain ⟨v, i1, i2⟩ := ih (k + 1) c (by omega) (by omega)
        refine ⟨v, ?_, ?_⟩
        · simp only [fX4_keepersWith_l1, l6, hA3, g1, e1, c1, nI_1, ↓reduceIte, Option.bind_some, or_self, or_false, false_or, or_true, true_or, and_true, true_and, and_false, false_and, not_true_eq_false, not_false_eq_true]; exact i1
        · simp only [fX12_keepersOf_l1, k3, hA3, g1, e2, c1, nI_1, Int32.add_zero, ↓reduceIte, Option.bind_some, or_self, or_false, false_or, or_true, true_or, and_true, true_and, and_false, false_and, not_true_eq_false, not_false_eq_true]; exact i2
      · obtain ⟨v, i1, i2⟩ := ih (k + 1) (c + 1) (by omega) (by omega)
        refine ⟨v, ?_, ?_⟩
        · simp only [fX4_keepersWith_l1, l6, hA3, g1, e1, c1, nI_1, ↓reduceIte, Option.bind_some, or_self, or_false, false_or, or_true, true_or, and_true, true_and, and_false, false_and, not_true_eq_false, not_false_eq_true]; exact i1
        · simp only [fX12_keepersOf_l1, k3, hA3, g1, e2, c1, nI_1, ↓reduceIte, Option.bind_some, or_self, or_false, false_or, or_true, true_or, and_true, true_and, and_false, false_and, not_true_eq_false, not_false_eq_true, pz_10, pz_01, eq_self]; exact i2
    · have e : k = K := by omega
      subst e
      have g1 : nI k ≤ nI k := Int32.le_refl _
      refine ⟨c, ?_, ?_⟩
      · simp only [fX4_keepersWith_l1, l6, hA3, g1, ↓reduceIte, Option.bind_some, or_self, or_false, false_or, or_true, true_or, and_true, true_and, and_false, false_and, not_true_eq_false, not_false_eq_true]
      · simp only [fX12_keepersOf_l1, k3, hA3, g1, ↓reduceIte, Option.bind_some, or_self, or_false, false_or, or_true, true_or, and_true, true_and, and_false, false_and, not_true_eq_false, not_false_eq_true]
set_option maxHeartbeats 4000000 in
set_option maxRecDepth 100000 in
theorem pz_had (N : Nat) (hN : 200000 ≤ N) {KL : List Nat} {kc : Nat → zKC} {L : zLS} {mo : zMS} {K P Q T : Nat} (h : pz_A (mo.1.2 5) K P Q T) (hL : pz_L KL kc L (mo.1.2 5) (mo.1.2 8) K P Q) {p : Nat} (hp : p < P) : ∃ v, fX4_keepersWith N L (nI p) = some v ∧ fX12_keepersOf N mo (nI p) = some v ∧ fX4_hadBy N L (nI p) = some (v + mo.1.2 8 (13 + p)) ∧ fX12_hadBy N mo (nI p) = some (v + mo.1.2 8 (13 + p)) := by
  obtain ⟨⟨hK1, hK6, hP8, hQ1, hQ8, hT1, hT60⟩, hA3, hA4, hA2, hA1, hA0⟩ := pz_A_n h
  obtain ⟨l6, l7, l2, l1, l0, -, -, -, l9, l12, -⟩ := id hL
  obtain ⟨v, e1, e2⟩ := pz_with N h hL hp N 0 0 (by omega) (by omega)
  rw [show nI 0 = 0 from rfl] at e1 e2
  have e3 : fX4_keepersWith N L (nI p) = some v := by unfold fX4_keepersWith; rw [e1]; rfl
  have e4 : fX12_keepersOf N mo (nI p) = some v := by unfold fX12_keepersOf; rw [e2]; rfl
  have e5 : fX4_knownBy N L (nI p) = some (mo.1.2 8 (13 + p)) := by
    have := (l12 p hp).2.2.1
    rw [← this]
    simp (disch := omega) only [fX4_knownBy, fX4_isPiece, l7, hA4, pzl_0, pzl_1, pzl_2, pzl_3, pzl_4, pzl_5, pzl_6, pzl_7, pzl_8, pzl_9, pzl_10, pzl_13, pzl_16, pzl_21, pzl_24, pzl_29, pzl_30, pzl_36, pzl_40, pzl_42, pzl_50, pzl_58, pzl_77, pzl_116, pzl_120, pzl_154, pzl_320, pzl_500, nI_add, pk_mul, nI_clamp, nI_leI, nI_ltI, nI_eq, pz_leF, pz_leT, pz_ltF, pz_ltT, pz_eqF, pz_eqT, ↓reduceIte, Option.bind_some, or_self, or_false, false_or, or_true, true_or, and_true, true_and, and_false, false_and, not_true_eq_false, not_false_eq_true, ↓reduceIte, Option.bind_some, or_self, or_false, false_or, or_true, true_or, and_true, true_and, and_false, false_and, not_true_eq_false, not_false_eq_true]
  refine ⟨v, e3, e4, ?_, ?_⟩
  · unfold fX4_hadBy; rw [e3, e5]; rfl
  · have e : (13 : Int32) + nI p = nI (13 + p) := by rw [show (13 : Int32) = nI 13 from rfl, nI_add]
    have i := nI_in (show 13 + p < 77 by omega) (by omega)
    unfold fX12_hadBy
    rw [e4, e, Option.bind_some, if_neg i, nI_clamp (by omega)]
