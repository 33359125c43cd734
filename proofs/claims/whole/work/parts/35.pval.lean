/-! THE PURE LAYER: a land's values -/
def pz_find (A : Nat → Int32) (t : Int32) : Nat → Nat → Nat
  | 0, i => i
  | n + 1, i => if t < A (8 + i) then i else pz_find A t n (i + 1)
theorem pz_find_le (A : Nat → Int32) (t : Int32) : ∀ n i, i ≤ pz_find A t n i ∧ pz_find A t n i ≤ i + n ∧ (pz_find A t n i < i + n → t < A (8 + pz_find A t n i)) ∧ ∀ j, i ≤ j → j < pz_find A t n i → A (8 + j) ≤ t := by
  intro n
  induction n with
  | zero => intro i; exact ⟨Nat.le_refl _, Nat.le_refl _, fun h => absurd h (Nat.lt_irrefl _), fun j h1 h2 => absurd h2 (Nat.not_lt.mpr h1)⟩
  | succ n ih =>
    intro i
    unfold pz_find
    by_cases h : t < A (8 + i)
    · rw [if_pos h]
      exact ⟨Nat.le_refl _, by omega, fun _ => h, fun j h1 h2 => by omega⟩
    · rw [if_neg h]
      obtain ⟨h1, h2, h3, h4⟩ := ih (i + 1)
      refine ⟨by omega, by omega, fun h5 => h3 (by omega), fun j h5 h6 => ?_⟩
      rcases Nat.eq_or_lt_of_le h5 with h7 | h7
      · subst h7; exact pz_nlt h
      · exact h4 j h7 h6
def pz_val (A : Nat → Int32) (Q : Nat) (t : Int32) : Int32 :=
  if pz_find A t Q 0 = Q then A (16 + (Q - 1)) else if pz_find A t Q 0 = 0 then A 16 else A (16 + (pz_find A t Q 0 - 1)) + ((A (16 + pz_find A t Q 0) - A (16 + (pz_find A t Q 0 - 1))) * (t - A (8 + (pz_find A t Q 0 - 1)))) / (A (8 + pz_find A t Q 0) - A (8 + (pz_find A t Q 0 - 1)))
set_option maxHeartbeats 4000000 in
set_option maxRecDepth 100000 in
theorem pz_valL1 (N : Nat) (L : zLS) (A : Nat → Int32) (t : Int32) {Q : Nat} (hQ : Q ≤ 8) (h2 : L.1.1 2 = nI Q) (h9 : ∀ i, i < Q → L.1.2 9 i = A (8 + i)) : ∀ n k, k ≤ Q → Q - k < n → fX4_valueAt_l1 N L t n (nI k) = some (if pz_find A t (Q - k) k = Q then Sum.inl () else Sum.inr (nI (pz_find A t (Q - k) k))) := by
  intro n
  induction n with
  | zero => intro k h1 h3; omega
  | succ n ih =>
    intro k h1 h3
    rcases Nat.lt_or_ge k Q with h | h
    · have e : Q - k = (Q - (k + 1)) + 1 := by omega
      have g1 : ¬ nI Q ≤ nI k := nI_ge h (by omega)
      have g2 : ¬ (8 : Int32) ≤ nI k := nI_ge (b := 8) (by omega) (by omega)
      have g3 := pz_ni (show k < 8 by omega) (by omega)
      simp only [fX4_valueAt_l1, h2, g1, g2, g3, nI_clamp (show k < 2 ^ 31 by omega), h9 k h, nI_1, ↓reduceIte, Option.bind_some, or_self, or_false, false_or, or_true, true_or, and_true, true_and, and_false, false_and, not_true_eq_false, not_false_eq_true]
      rw [e, pz_find]
      by_cases c : t < A (8 + k)
      · have c2 : ¬ A (8 + k) ≤ t := Int32.not_le.mpr c
        have c3 : ¬ k = Q := by omega
        simp only [c, c2, c3, ↓reduceIte, Option.bind_some, or_self, or_false, false_or, or_true, true_or, and_true, true_and, and_false, false_and, not_true_eq_false, not_false_eq_true]
      · have c2 : A (8 + k) ≤ t := pz_nlt c
        simp only [c, c2, ↓reduceIte, Option.bind_some, or_self, or_false, false_or, or_true, true_or, and_true, true_and, and_false, false_and, not_true_eq_false, not_false_eq_true]
        exact ih (k + 1) (by omega) (by omega)
    · have e : k = Q := by omega
      subst e
      have g1 : nI k ≤ nI k := Int32.le_refl _
      simp only [fX4_valueAt_l1, h2, g1, Nat.sub_self, pz_find, ↓reduceIte, Option.bind_some, or_self, or_false, false_or, or_true, true_or, and_true, true_and, and_false, false_and, not_true_eq_false, not_false_eq_true]
set_option maxHeartbeats 4000000 in
set_option maxRecDepth 100000 in
theorem pz_valL2 (N : Nat) (L : zLS) (A : Nat → Int32) (t : Int32) {Q : Nat} (hQ : Q ≤ 8) (h2 : L.1.1 2 = nI Q) (h9 : ∀ i, i < Q → L.1.2 9 i = A (8 + i)) : ∀ n k, k ≤ Q → Q - k < n → fX4_valueAt_l2 N L t n (nI k) = some (if pz_find A t (Q - k) k = Q then Sum.inl () else Sum.inr (nI (pz_find A t (Q - k) k))) := by
  intro n
  induction n with
  | zero => intro k h1 h3; omega
  | succ n ih =>
    intro k h1 h3
    rcases Nat.lt_or_ge k Q with h | h
    · have e : Q - k = (Q - (k + 1)) + 1 := by omega
      have g1 : ¬ nI Q ≤ nI k := nI_ge h (by omega)
      have g2 : ¬ (8 : Int32) ≤ nI k := nI_ge (b := 8) (by omega) (by omega)
      have g3 := pz_ni (show k < 8 by omega) (by omega)
      simp only [fX4_valueAt_l2, h2, g1, g2, g3, nI_clamp (show k < 2 ^ 31 by omega), h9 k h, nI_1, ↓reduceIte, Option.bind_some, or_self, or_false, false_or, or_true, true_or, and_true, true_and, and_false, false_and, not_true_eq_false, not_false_eq_true]
      rw [e, pz_find]
      by_cases c : t < A (8 + k)
      · have c2 : ¬ A (8 + k) ≤ t := Int32.not_le.mpr c
        have c3 : ¬ k = Q := by omega
        simp only [c, c2, c3, ↓reduceIte, Option.bind_some, or_self, or_false, false_or, or_true, true_or, and_true, true_and, and_false, false_and, not_true_eq_false, not_false_eq_true]
      · have c2 : A (8 + k) ≤ t := pz_nlt c
        simp only [c, c2, ↓reduceIte, Option.bind_some, or_self, or_false, false_or, or_true, true_or, and_true, true_and, and_false, false_and, not_true_eq_false, not_false_eq_true]
        exact ih (k + 1) (by omega) (by omega)
    · have e : k = Q := by omega
      subst e
      have g1 : nI k ≤ nI k := Int32.le_refl _
      simp only [fX4_valueAt_l2, h2, g1, Nat.sub_self, pz_find, ↓reduceIte, Option.bind_some, or_self, or_false, false_or, or_true, true_or, and_true, true_and, and_false, false_and, not_true_eq_false, not_false_eq_true]
/-- what a land's row of points gives, read off pz_A -/
theorem pz_A_pts {A : Nat → Int32} {K P Q T : Nat} (h : pz_A A K P Q T) : (∀ i, i < Q → ∃ a v, a ≤ 60 ∧ v ≤ 9999 ∧ A (8 + i) = nI a ∧ A (16 + i) = nI v) ∧ (∀ i j, i < j → j < Q → A (8 + i) < A (8 + j)) := ⟨h.2.2.2.2.2.2.2.2.2.2.2.2.2.2.2.1, h.2.2.2.2.2.2.2.2.2.2.2.2.2.2.2.2.1⟩
theorem pz_apart {A : Nat → Int32} {K P Q T : Nat} (h : pz_A A K P Q T) {i : Nat} (h0 : 0 < i) (hi : i < Q) : ∃ d, 0 < d ∧ d ≤ 60 ∧ A (8 + i) - A (8 + (i - 1)) = nI d := by
  obtain ⟨p1, p2⟩ := pz_A_pts h
  obtain ⟨a, -, ha, -, ea, -⟩ := p1 i hi
  obtain ⟨b, -, hb, -, eb, -⟩ := p1 (i - 1) (by omega)
  have := p2 (i - 1) i (by omega) hi
  rw [ea, eb] at this
  have := (nI_ltI (by omega) (by omega)).mp this
  exact ⟨a - b, by omega, by omega, by rw [ea, eb, pk_sub (by omega)]⟩
set_option maxHeartbeats 4000000 in
set_option maxRecDepth 100000 in
theorem pz_valA (N : Nat) {L : zLS} {A : Nat → Int32} {K P Q T : Nat} (h : pz_A A K P Q T) (h2 : L.1.1 2 = A 2) (h9 : ∀ i, i < Q → L.1.2 9 i = A (8 + i) ∧ L.1.2 10 i = A (16 + i)) (t : Int32) (X : Option (Unit ⊕ Int32)) (hX : X = some (if pz_find A t (Q - 0) 0 = Q then Sum.inl () else Sum.inr (nI (pz_find A t (Q - 0) 0)))) : X.bind (Sum.elim (fun _ =>
      if (L.1.1 2) ≤ 0 then
        some (0 : Int32)
      else
        if (8 : Int32) < (L.1.1 2) then
          some (0 : Int32)
        else
          if ((L.1.1 2) - (1 : Int32)) < 0 ∨ 8 ≤ ((L.1.1 2) - (1 : Int32)).toNatClampNeg then none else
          some (L.1.2 10 (((L.1.1 2) - (1 : Int32)).toNatClampNeg)))
    (fun u_35 =>
      if u_35 = 0 then
        some (L.1.2 10 ((0 : Int32).toNatClampNeg))
      else
        (fX4_valueBetween N L (u_35 - (1 : Int32)) u_35 t).bind fun u_34 =>
        some u_34)) = some (pz_val A Q t) := by
  obtain ⟨hK1, hK6, hP8, hQ1, hQ8, hT1, hT60, hA3, hA4, hA2, -⟩ := id h
  rw [hX, Nat.sub_zero, h2, hA2]
  unfold pz_val
  obtain ⟨-, f2, -, -⟩ := pz_find_le A t Q 0
  generalize hf : pz_find A t Q 0 = i at *
  by_cases c : i = Q
  · have g1 : ¬ nI Q ≤ 0 := nI_nle (by omega) (by omega)
    have g2 : ¬ (8 : Int32) < nI Q := nI_nlt (a := 8) (by omega) (by omega)
    have g3 : nI Q - (1 : Int32) = nI (Q - 1) := by rw [show (1 : Int32) = nI 1 from rfl, pk_sub (by omega)]
    have g4 := pz_ni (show Q - 1 < 8 by omega) (by omega)
    simp only [c, g1, g2, g3, g4, Sum.elim_inl, nI_clamp (show Q - 1 < 2 ^ 31 by omega), (h9 (Q - 1) (by omega)).2, ↓reduceIte, Option.bind_some, or_self, or_false, false_or, or_true, true_or, and_true, true_and, and_false, false_and, not_true_eq_false, not_false_eq_true]
  · by_cases c0 : i = 0
    · subst c0
      have z1 : nI 0 = 0 := rfl
      have := (h9 0 (by omega)).2
      simp only [c, z1, Sum.elim_inr, ↓reduceIte, Option.bind_some, or_self, or_false, false_or, or_true, true_or, and_true, true_and, and_false, false_and, not_true_eq_false, not_false_eq_true]
      exact congrArg some this
    · have g0 : ¬ nI i = 0 := nI_ne0 (by omega) (by omega)
      have g1 : nI i - (1 : Int32) = nI (i - 1) := by rw [show (1 : Int32) = nI 1 from rfl, pk_sub (by omega)]
      obtain ⟨d, hd, hd60, ed⟩ := pz_apart h (i := i) (by omega) (by omega)
      have a1 := h9 i (by omega)
      have a2 := h9 (i - 1) (by omega)
      have b1 : ¬ nI (i - 1) < 0 := nI_pos (by omega)
      have b2 : ¬ nI i < 0 := nI_pos (by omega)
      have b3 : ¬ (8 : Int32) ≤ nI (i - 1) := nI_ge (b := 8) (by omega) (by omega)
      have b4 : nI i < (8 : Int32) := nI_lt (b := 8) (by omega) (by omega)
      have b5 : ¬ 8 ≤ i - 1 := by omega
      have b6 : ¬ 8 ≤ i := by omega
      have b7 : 0 < nI d := nI_lt (a := 0) hd (by omega)
      have b8 : ¬ nI d = 0 := nI_ne0 hd (by omega)
      simp only [c, c0, g0, g1, Sum.elim_inr, fX4_valueBetween, b1, b2, b3, b4, b5, b6, nI_clamp (show i < 2 ^ 31 by omega), nI_clamp (show i - 1 < 2 ^ 31 by omega), a1.1, a1.2, a2.1, a2.2, ed, b7, b8, ↓reduceIte, Option.bind_some, or_self, or_false, false_or, or_true, true_or, and_true, true_and, and_false, false_and, not_true_eq_false, not_false_eq_true]
set_option maxHeartbeats 4000000 in
set_option maxRecDepth 100000 in
theorem pz_plL (N : Nat) (mo : zMS) (t : Int32) {Q : Nat} (hQ : Q ≤ 8) (hl : t < mo.1.2 5 (8 + (Q - 1))) : ∀ n k, k < Q → Q - k ≤ n → fX12_plainValue_l1 N mo t n (nI k) = some (nI (pz_find (mo.1.2 5) t (Q - k) k)) ∧ pz_find (mo.1.2 5) t (Q - k) k < Q := by
  intro n
  induction n with
  | zero => intro k h1 h3; omega
  | succ n ih =>
    intro k h1 h3
    have e : Q - k = (Q - (k + 1)) + 1 := by omega
    have g1 : (8 : Int32) + nI k = nI (8 + k) := by rw [show (8 : Int32) = nI 8 from rfl, nI_add]
    have g2 := pz_ni (show 8 + k < 58 by omega) (by omega)
    simp only [fX12_plainValue_l1, g1, g2, nI_clamp (show 8 + k < 2 ^ 31 by omega), nI_1, ↓reduceIte, Option.bind_some, or_self, or_false, false_or, or_true, true_or, and_true, true_and, and_false, false_and, not_true_eq_false, not_false_eq_true]
    rw [e, pz_find]
    by_cases c : t < mo.1.2 5 (8 + k)
    · simp only [c, ↓reduceIte, Option.bind_some, or_self, or_false, false_or, or_true, true_or, and_true, true_and, and_false, false_and, not_true_eq_false, not_false_eq_true]; omega
    · simp only [c, ↓reduceIte, Option.bind_some, or_self, or_false, false_or, or_true, true_or, and_true, true_and, and_false, false_and, not_true_eq_false, not_false_eq_true]
      have : k ≠ Q - 1 := fun h => c (h ▸ hl)
      exact ih (k + 1) (by omega) (by omega)
set_option maxHeartbeats 4000000 in
set_option maxRecDepth 100000 in
theorem pz_plain (N : Nat) (hN : 200000 ≤ N) {mo : zMS} {K P Q T : Nat} (h : pz_A (mo.1.2 5) K P Q T) (t : Int32) : fX12_plainValue N mo t = some (pz_val (mo.1.2 5) Q t) := by
  obtain ⟨hK1, hK6, hP8, hQ1, hQ8, hT1, hT60, hA3, hA4, hA2, -⟩ := id h
  obtain ⟨p1, p2⟩ := pz_A_pts h
  have c2 : (2 : Int32).toNatClampNeg = 2 := rfl
  have c16 : (16 : Int32).toNatClampNeg = 16 := rfl
  have e1 : (8 : Int32) + (nI Q - (1 : Int32)) = nI (8 + (Q - 1)) := by rw [show (1 : Int32) = nI 1 from rfl, show (8 : Int32) = nI 8 from rfl, pk_sub (by omega), nI_add]
  have e2 : (16 : Int32) + (nI Q - (1 : Int32)) = nI (16 + (Q - 1)) := by rw [show (1 : Int32) = nI 1 from rfl, show (16 : Int32) = nI 16 from rfl, pk_sub (by omega), nI_add]
  have i1 := nI_in (show 8 + (Q - 1) < 58 by omega) (by omega)
  have i2 := nI_in (show 16 + (Q - 1) < 58 by omega) (by omega)
  unfold fX12_plainValue
  rw [c2, hA2, e1, e2, if_neg i1, nI_clamp (by omega), if_neg i2, nI_clamp (by omega)]
  unfold pz_val
  by_cases c : t < mo.1.2 5 (8 + (Q - 1))
  · rw [if_pos c]
    obtain ⟨f1, f2⟩ := pz_plL N mo t hQ8 c N 0 (by omega) (by omega)
    rw [show nI 0 = 0 from rfl, Nat.sub_zero] at f1
    rw [Nat.sub_zero] at f2
    rw [f1]
    generalize hf : pz_find (mo.1.2 5) t Q 0 = i at *
    rw [if_neg (show ¬ i = Q by omega)]
    by_cases c0 : i = 0
    · subst c0
      simp only [show nI 0 = 0 from rfl, c16, ↓reduceIte, Option.bind_some, or_self, or_false, false_or, or_true, true_or, and_true, true_and, and_false, false_and, not_true_eq_false, not_false_eq_true]
    · have g0 : ¬ nI i = 0 := nI_ne0 (by omega) (by omega)
      obtain ⟨d, hd, hd60, ed⟩ := pz_apart h (i := i) (by omega) (by omega)
      have b8 : ¬ nI d = 0 := nI_ne0 hd (by omega)
      have a1 : (8 : Int32) + nI i = nI (8 + i) := by rw [show (8 : Int32) = nI 8 from rfl, nI_add]
      have a2 : (16 : Int32) + nI i = nI (16 + i) := by rw [show (16 : Int32) = nI 16 from rfl, nI_add]
      have a3 : nI (8 + i) - (1 : Int32) = nI (8 + (i - 1)) := by rw [show (1 : Int32) = nI 1 from rfl, pk_sub (by omega), show 8 + i - 1 = 8 + (i - 1) by omega]
      have a4 : nI (16 + i) - (1 : Int32) = nI (16 + (i - 1)) := by rw [show (1 : Int32) = nI 1 from rfl, pk_sub (by omega), show 16 + i - 1 = 16 + (i - 1) by omega]
      have b1 := pz_ni (show 8 + i < 58 by omega) (by omega)
      have b2 := pz_ni (show 16 + i < 58 by omega) (by omega)
      have b3 := pz_ni (show 8 + (i - 1) < 58 by omega) (by omega)
      have b4 := pz_ni (show 16 + (i - 1) < 58 by omega) (by omega)
      simp only [c0, g0, a1, a2, a3, a4, b1, b2, b3, b4, nI_clamp (show 8 + i < 2 ^ 31 by omega), nI_clamp (show 16 + i < 2 ^ 31 by omega), nI_clamp (show 8 + (i - 1) < 2 ^ 31 by omega), nI_clamp (show 16 + (i - 1) < 2 ^ 31 by omega), ed, b8, ↓reduceIte, Option.bind_some, or_self, or_false, false_or, or_true, true_or, and_true, true_and, and_false, false_and, not_true_eq_false, not_false_eq_true]
  · rw [if_neg c]
    have hf : pz_find (mo.1.2 5) t Q 0 = Q := by
      obtain ⟨-, f2, f3, -⟩ := pz_find_le (mo.1.2 5) t Q 0
      rcases Nat.lt_or_ge (pz_find (mo.1.2 5) t Q 0) Q with h7 | h7
      · have f4 := f3 (by omega)
        generalize pz_find (mo.1.2 5) t Q 0 = i at *
        have : mo.1.2 5 (8 + i) ≤ mo.1.2 5 (8 + (Q - 1)) := by
          rcases Nat.lt_or_ge i (Q - 1) with h8 | h8
          · exact Int32.le_of_lt (p2 i (Q - 1) h8 (by omega))
          · rw [show i = Q - 1 by omega]; exact Int32.le_refl _
        exact absurd (Int32.lt_of_lt_of_le f4 this) c
      · omega
    rw [if_pos hf]
