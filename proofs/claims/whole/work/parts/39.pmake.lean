/-! THE PURE LAYER: make, keeper, piece, tell, kind -/
theorem pz_payi {V m x : Nat} (hV : V ≤ 9999) (hm : m ≤ 99999) (hx : x ≤ 99999000) : (nI V - nI m ≤ nI x / 1000) ↔ (V : Int) - m ≤ ((x / 1000 : Nat) : Int) := by
  rw [show nI x / 1000 = nI (x / 1000) from pk_div (d := 1000) (by omega) (by omega) (by omega), Int32.le_iff_toInt_le, pk_sub_toInt (by omega) (by omega), nI_toInt (by omega)]
theorem pz_mul_le {p f : Nat} (hp : p ≤ 1000) (hf : f ≤ 99999) : p * f ≤ 99999000 := by
  have := Nat.mul_le_mul hp hf
  omega
set_option maxHeartbeats 4000000 in
set_option maxRecDepth 100000 in
theorem pz_pays (N : Nat) (hN : 200000 ≤ N) {KL : List Nat} {kc : Nat → zKC} {L : zLS} {H : Nat → Int32} {mo : zMS} {K P Q T V m p f : Nat} (h : pz_A (mo.1.2 5) K P Q T) (hL : pz_L KL kc L (mo.1.2 5) H K P Q) (hV : V ≤ 9999) (eV : pz_vo (mo.1.2 5) Q (nI T) = nI V) (hm : m ≤ 99999) (hp : p ≤ 1000) (hf : f ≤ 99999) : fX12_pays N mo (nI m) (nI p) (nI f) = some (if (V : Int) - m ≤ ((p * f / 1000 : Nat) : Int) then 0 else 1) := by
  have hA1 : mo.1.2 5 1 = nI T := (pz_A_n h).2.2.2.2.1
  have k1 : (1 : Int32).toNatClampNeg = 1 := rfl
  obtain ⟨-, v2⟩ := pz_value N hN h hL (nI T)
  simp only [fX12_pays, k1, hA1, v2, eV, pk_mul, pz_payi hV hm (pz_mul_le hp hf), ↓reduceIte, Option.bind_some, or_self, or_false, false_or, or_true, true_or, and_true, true_and, and_false, false_and, not_true_eq_false, not_false_eq_true]
  split <;> rfl
set_option maxHeartbeats 4000000 in
set_option maxRecDepth 100000 in
theorem pz_edge (N : Nat) (hN : 200000 ≤ N) {KL : List Nat} {kc : Nat → zKC} {L : zLS} {H : Nat → Int32} {mo : zMS} {K P Q T V m p : Nat} (h : pz_A (mo.1.2 5) K P Q T) (hL : pz_L KL kc L (mo.1.2 5) H K P Q) (hV : V ≤ 9999) (eV : pz_vo (mo.1.2 5) Q (nI T) = nI V) (hm : m ≤ 99999) (hp : p ≤ 1000) : ∀ n k, k ≤ 100000 → 100000 - k < n → (∀ j, j < k → ((p * j / 1000 : Nat) : Int) < (V : Int) - m) → ∃ e, e ≤ 100000 ∧ fX12_make_l1 N mo (nI m) (nI p) n (nI k) = some (nI e) ∧ (∀ j, j < e → ((p * j / 1000 : Nat) : Int) < (V : Int) - m) ∧ (e < 100000 → (V : Int) - m ≤ ((p * e / 1000 : Nat) : Int)) := by
  intro n
  induction n with
  | zero => intro k h1 h2; omega
  | succ n ih =>
    intro k h1 h2 h3
    rcases Nat.lt_or_ge k 100000 with h4 | h4
    · have g1 : ¬ (99999 : Int32) < nI k := nI_nlt (a := 99999) (by omega) (by omega)
      have e := pz_pays N hN h hL hV eV hm hp (show k ≤ 99999 by omega)
      by_cases c : (V : Int) - m ≤ ((p * k / 1000 : Nat) : Int)
      · refine ⟨k, h1, ?_, h3, fun _ => c⟩
        simp only [fX12_make_l1, g1, e, c, ↓reduceIte, Option.bind_some, or_self, or_false, false_or, or_true, true_or, and_true, true_and, and_false, false_and, not_true_eq_false, not_false_eq_true]
      · obtain ⟨e', f1, f2, f3, f4⟩ := ih (k + 1) (by omega) (by omega) (fun j hj => by
          rcases Nat.lt_or_ge j k with h5 | h5
          · exact h3 j h5
          · rw [show j = k by omega]; omega)
        refine ⟨e', f1, ?_, f3, f4⟩
        simp only [fX12_make_l1, g1, e, c, nI_1, ↓reduceIte, Option.bind_some, or_self, or_false, false_or, or_true, true_or, and_true, true_and, and_false, false_and, not_true_eq_false, not_false_eq_true, pz_10, pz_01, eq_self]
        exact f2
    · have e : k = 100000 := by omega
      subst e
      refine ⟨100000, by omega, ?_, h3, fun h => by omega⟩
      have g1 : (99999 : Int32) < nI 100000 := nI_lt (a := 99999) (by omega) (by omega)
      simp only [fX12_make_l1, g1, ↓reduceIte, Option.bind_some, or_self, or_false, false_or, or_true, true_or, and_true, true_and, and_false, false_and, not_true_eq_false, not_false_eq_true]
set_option maxHeartbeats 4000000 in
set_option maxRecDepth 100000 in
theorem ps_make {N : Nat} (hN : 200000 ≤ N) : zStep_make N pz_Inv := by
  intro KL kc on rw rd ft tr la mo hI x1 x2 x3
  rcases pz_nows N (mo := zMi mo 0 0) hI.2.2.2.2.2.1 with ⟨h7, -, -, -, -, ht⟩ | ⟨h7, ht, K, P, Q, T, hA, hH, hL, hl, -⟩
  · have h7 : mo.1.1 7 = 0 := h7
    simp only [fX11_make, fX12_make, h7, ht, ↓reduceIte, Option.bind_some, or_self, or_false, false_or, or_true, true_or, and_true, true_and, and_false, false_and, not_true_eq_false, not_false_eq_true, pz_10, pz_01, eq_self]
    exact ⟨_, _, rfl, rfl, rfl, pz_ro 0 _ hI⟩
  have h7 : mo.1.1 7 = 1 := h7
  have hT := (pz_A_n hA).1
  have hA1 : mo.1.2 5 1 = nI T := (pz_A_n hA).2.2.2.2.1
  have hl1 : (la on.2.1).1.1 1 = nI T := hL.2.2.2.1.trans hA1
  rcases pz_wiN N x1 0 99999 0 99999 with h1 | ⟨h1, m, -, hm, rfl⟩
  · simp only [fX11_make, fX12_make, h7, ht, pz_in_0_99999, h1, ↓reduceIte, Option.bind_some, or_self, or_false, false_or, or_true, true_or, and_true, true_and, and_false, false_and, not_true_eq_false, not_false_eq_true, pz_10, pz_01, eq_self]
    exact ⟨_, _, rfl, rfl, rfl, pz_ro 0 _ hI⟩
  rcases pz_wiN N x2 0 1000 0 1000 with h2 | ⟨h2, p, -, hp, rfl⟩
  · simp only [fX11_make, fX12_make, h7, ht, pz_in_0_99999, h1, pz_in_0_1000, h2, ↓reduceIte, Option.bind_some, or_self, or_false, false_or, or_true, true_or, and_true, true_and, and_false, false_and, not_true_eq_false, not_false_eq_true, pz_10, pz_01, eq_self]
    exact ⟨_, _, rfl, rfl, rfl, pz_ro 0 _ hI⟩
  rcases pz_wi N x3 (-1) 99999 with h3 | ⟨h3, h4, h5⟩
  · simp only [fX11_make, fX12_make, h7, ht, pz_in_0_99999, h1, pz_in_0_1000, h2, pz_in_m1_99999, h3, ↓reduceIte, Option.bind_some, or_self, or_false, false_or, or_true, true_or, and_true, true_and, and_false, false_and, not_true_eq_false, not_false_eq_true, pz_10, pz_01, eq_self]
    exact ⟨_, _, rfl, rfl, rfl, pz_ro 0 _ hI⟩
  obtain ⟨v1, v2⟩ := pz_value N hN hA hL (nI T)
  obtain ⟨V, hV, eV⟩ := pz_vo_r hA (nI T)
  by_cases c : x3 < 0
  · have c1 : x3 = -1 := by
      have a1 := Int32.le_iff_toInt_le.mp h4
      have a2 := Int32.lt_iff_toInt_lt.mp c
      have a3 : (-1 : Int32).toInt = -1 := rfl
      have a4 : (0 : Int32).toInt = 0 := rfl
      exact Int32.toInt_inj.mp (by omega)
    obtain ⟨e, f1, f2, f3, f4⟩ := pz_edge N hN hA hL hV eV hm hp N 0 (by omega) (by omega) (fun j hj => by omega)
    rw [show nI 0 = (0 : Int32) from rfl] at f2
    have g9 : nI e ≤ (99999 : Int32) ↔ e ≤ 99999 := nI_leI (b := 99999) (by omega) (by omega)
    have sub : (nI V - nI m).toInt = (V : Int) - m := pk_sub_toInt (by omega) (by omega)
    have ed : fX2_edge N (nI V - nI m) (nI p) = some (if e ≤ 99999 then nI e else -1000000) := by
      unfold fX2_edge
      by_cases g : 0 < nI V - nI m
      · have g2 := Int32.lt_iff_toInt_lt.mp g
        rw [sub] at g2
        have z0 : (0 : Int32).toInt = 0 := rfl
        have gm : m < V := by omega
        have es : nI V - nI m = nI (V - m) := pk_sub (by omega)
        rw [if_pos g]
        by_cases d : p = 0
        · subst d
          rw [if_neg (show ¬ (0 : Int32) < nI 0 by decide)]
          have : ¬ e ≤ 99999 := fun h => by
            have := f4 (by omega)
            rw [Nat.zero_mul] at this
            omega
          rw [if_neg this]
        · rw [if_pos (show (0 : Int32) < nI p from nI_lt (a := 0) (by omega) (by omega)), if_neg (nI_ne0 (by omega) (by omega))]
          have e9 : ((1000 : Int32) * (nI V - nI m) + nI p - 1) / nI p = nI ((1000 * (V - m) + p - 1) / p) := by
            rw [es, show (1000 : Int32) = nI 1000 from rfl, show (1 : Int32) = nI 1 from rfl, pk_mul, nI_add, pk_sub (by omega), pk_div (by omega) (by omega) (by omega)]
          rw [e9]
          have hF : ∀ j : Nat, (1000 * (V - m) + p - 1) / p ≤ j ↔ (V : Int) - m ≤ ((p * j / 1000 : Nat) : Int) := by
            intro j
            rw [← Nat.lt_succ_iff, Nat.div_lt_iff_lt_mul (by omega), Nat.succ_mul j p, Nat.mul_comm j p]
            generalize p * j = x
            omega
          have hFl : (1000 * (V - m) + p - 1) / p ≤ 1000 * (V - m) + p - 1 := Nat.div_le_self _ _
          generalize (1000 * (V - m) + p - 1) / p = F at *
          by_cases q : e ≤ 99999
          · have q1 := (hF e).mpr (f4 (by omega))
            have q2 : e ≤ F := by
              rcases Nat.lt_or_ge F e with q3 | q3
              · have q4 := (hF F).mp (Nat.le_refl _)
                have q5 := f3 F q3
                omega
              · exact q3
            have q3 : F = e := by omega
            subst q3
            rw [if_neg (show ¬ (99999 : Int32) < nI F from nI_nlt (a := 99999) q (by omega)), if_pos q]
          · have q2 : 99999 < F := by
              rcases Nat.lt_or_ge 99999 F with q3 | q3
              · exact q3
              · have q4 := (hF F).mp (Nat.le_refl _)
                have q5 := f3 F (by omega)
                omega
            rw [if_pos (show (99999 : Int32) < nI F from nI_lt (a := 99999) q2 (by omega)), if_neg q]
      · rw [if_neg g]
        have g2 := Int32.le_iff_toInt_le.mp (pz_nlt g)
        rw [sub] at g2
        have z0 : (0 : Int32).toInt = 0 := rfl
        have : e = 0 := by
          rcases Nat.eq_zero_or_pos e with q | q
          · exact q
          · have := f3 0 q
            rw [Nat.mul_zero] at this
            omega
        subst this
        rfl
    subst c1
    simp only [fX11_make, fX12_make, h7, ht, pz_in_0_99999, h1, pz_in_0_1000, h2, pz_in_m1_99999, h3, hl1, v1, eV, ed, f2, g9, c, ↓reduceIte, Option.bind_some, or_self, or_false, false_or, or_true, true_or, and_true, true_and, and_false, false_and, not_true_eq_false, not_false_eq_true, pz_10, pz_01, eq_self]
    by_cases q : e ≤ 99999
    · simp only [q, ↓reduceIte, Option.bind_some, or_self, or_false, false_or, or_true, true_or, and_true, true_and, and_false, false_and, not_true_eq_false, not_false_eq_true]
      exact ⟨_, _, rfl, rfl, rfl, pz_ro 0 _ hI⟩
    · simp only [q, ↓reduceIte, Option.bind_some, or_self, or_false, false_or, or_true, true_or, and_true, true_and, and_false, false_and, not_true_eq_false, not_false_eq_true]
      exact ⟨_, _, rfl, rfl, rfl, pz_ro 0 _ hI⟩
  · obtain ⟨f, hf, rfl⟩ := nI_of2 (M := 99999) (n := 99999) rfl c h5
    have c1 : ¬ nI f = -1 := by
      intro h
      rw [h] at c
      exact c (by decide)
    have e := pz_pays N hN hA hL hV eV hm hp hf
    have e2 := pz_payi hV hm (pz_mul_le hp hf)
    simp only [fX11_make, fX12_make, h7, ht, pz_in_0_99999, h1, pz_in_0_1000, h2, pz_in_m1_99999, h3, hl1, v1, eV, e, e2, c, c1, pk_mul, ↓reduceIte, Option.bind_some, or_self, or_false, false_or, or_true, true_or, and_true, true_and, and_false, false_and, not_true_eq_false, not_false_eq_true, pz_10, pz_01, eq_self]
    by_cases q : (V : Int) - m ≤ ((p * f / 1000 : Nat) : Int)
    · simp only [q, ↓reduceIte, Option.bind_some, or_self, or_false, false_or, or_true, true_or, and_true, true_and, and_false, false_and, not_true_eq_false, not_false_eq_true]
      exact ⟨_, _, rfl, rfl, rfl, pz_ro 0 _ hI⟩
    · simp only [q, ↓reduceIte, Option.bind_some, or_self, or_false, false_or, or_true, true_or, and_true, true_and, and_false, false_and, not_true_eq_false, not_false_eq_true, pz_10, pz_01, eq_self]
      exact ⟨_, _, rfl, rfl, rfl, pz_ro 0 _ hI⟩
