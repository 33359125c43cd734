/-! THE PURE LAYER: fit: bits, years of a row, who sells -/
set_option maxRecDepth 1000000 in
theorem pz_bits : ∀ t, t < 64 → ∀ k, k < 6 → (nI t >>> (nI k &&& 31)) &&& 1 = nI (t / 2 ^ k % 2) := by decide +kernel
set_option maxRecDepth 1000000 in
theorem pz_orb : ∀ s, s < 64 → ∀ k, k < 6 → nI s ||| ((1 : Int32) <<< (nI k &&& 31)) = nI (s ||| 2 ^ k) ∧ (s ||| 2 ^ k) < 64 ∧ ∀ o, o < 6 → (s ||| 2 ^ k) / 2 ^ o % 2 = if o = k then 1 else s / 2 ^ o % 2 := by decide +kernel
set_option maxRecDepth 1000000 in
theorem pz_andb : ∀ t, t < 64 → ∀ s, s < 64 → (nI t &&& nI s = nI s ↔ ∀ k, k < 6 → s / 2 ^ k % 2 = 1 → t / 2 ^ k % 2 = 1) := by decide +kernel
def pz_hb (t k : Nat) : Prop := t / 2 ^ k % 2 = 1
def pz_ov : Option Nat → Int32
  | none => -1
  | some y => nI y
theorem pz_ov_neg {o : Option Nat} (h : ∀ y, o = some y → y ≤ 60) : pz_ov o < 0 ↔ o = none := by
  cases o with
  | none => exact ⟨fun _ => rfl, fun _ => by decide⟩
  | some y => exact ⟨fun h2 => absurd h2 (nI_pos (by have := h y rfl; omega)), fun h2 => by cases h2⟩
theorem pz_ov_eq {o p : Option Nat} (ho : ∀ y, o = some y → y ≤ 60) (hp : ∀ y, p = some y → y ≤ 60) : pz_ov o = pz_ov p ↔ o = p := by
  cases o with
  | none =>
    cases p with
    | none => exact ⟨fun _ => rfl, fun _ => rfl⟩
    | some y =>
      refine ⟨fun h => ?_, fun h => by cases h⟩
      have h2 : (-1 : Int32) = nI y := h
      exact absurd (show nI y < 0 by rw [← h2]; decide) (nI_pos (by have := hp y rfl; omega))
  | some x =>
    cases p with
    | none =>
      refine ⟨fun h => ?_, fun h => by cases h⟩
      have h2 : nI x = (-1 : Int32) := h
      exact absurd (show nI x < 0 by rw [h2]; decide) (nI_pos (by have := ho x rfl; omega))
    | some y =>
      refine ⟨fun h => ?_, fun h => by cases h; rfl⟩
      have := (nI_eq (by have := ho x rfl; omega) (by have := hp y rfl; omega)).mp h
      rw [this]
/-- the trial land for a set t: one piece, which the keepers of t had at first -/
noncomputable def pz_At (A : Nat → Int32) (t : Nat) (u : Int32) : Nat → Int32 := upd (upd (upd A 4 1) 50 (nI t)) 42 u
theorem pz_At_o (A : Nat → Int32) (t : Nat) (u : Int32) {i : Nat} (h4 : i ≠ 4) (h5 : i ≠ 50) (h2 : i ≠ 42) : pz_At A t u i = A i := by
  unfold pz_At
  rw [pk_un h2, pk_un h5, pk_un h4]
theorem pz_At_A {A : Nat → Int32} {K P Q T t : Nat} {u : Int32} (h : pz_A A K P Q T) : pz_A (pz_At A t u) K 1 Q T := by
  obtain ⟨hK1, hK6, hP8, hQ1, hQ8, hT1, hT60, a3, a4, a2, a1, a0, a5, a6, a7, pt, st, kp⟩ := h
  have e : ∀ i, i ≠ 4 → i ≠ 50 → i ≠ 42 → pz_At A t u i = A i := fun i h1 h2 h3 => pz_At_o A t u h1 h2 h3
  refine ⟨hK1, hK6, by omega, hQ1, hQ8, hT1, hT60, ?_, ?_, ?_, ?_, ?_, ?_, ?_, ?_, ?_, ?_, ?_⟩
  · rw [e 3 (by omega) (by omega) (by omega)]; exact a3
  · unfold pz_At; rw [pk_un (by omega), pk_un (by omega), pk_us]; rfl
  · rw [e 2 (by omega) (by omega) (by omega)]; exact a2
  · rw [e 1 (by omega) (by omega) (by omega)]; exact a1
  · rw [e 0 (by omega) (by omega) (by omega)]; exact a0
  · rw [e 5 (by omega) (by omega) (by omega)]; exact a5
  · rw [e 6 (by omega) (by omega) (by omega)]; exact a6
  · rw [e 7 (by omega) (by omega) (by omega)]; exact a7
  · intro i hi
    rw [e (8 + i) (by omega) (by omega) (by omega), e (16 + i) (by omega) (by omega) (by omega)]
    exact pt i hi
  · intro i j hi hj
    rw [e (8 + i) (by omega) (by omega) (by omega), e (8 + j) (by omega) (by omega) (by omega)]
    exact st i j hi hj
  · intro k hk
    rw [e (24 + k) (by omega) (by omega) (by omega), e (30 + k) (by omega) (by omega) (by omega), e (36 + k) (by omega) (by omega) (by omega)]
    exact kp k hk
/-- the trial land as the reference's years of sale have it: s k is the year in which k sold -/
def pz_Cp (KL : List Nat) (kc : Nat → zKC) (A : Nat → Int32) (K Q t y : Nat) (u : Int32) (s : Nat → Option Nat) (L : zLS) : Prop := ∃ H, pz_L KL kc L (pz_At A t u) H K 1 Q ∧ H 0 = nI y ∧ ∀ o, o < K → (H (7 + o) = if s o = none then 0 else 1) ∧ (pz_hb t o → H (29 + 8 * o + 0) = A (36 + o)) ∧ (¬ pz_hb t o → H (29 + 8 * o + 0) = 0)
def pz_Sr (mo : zMS) (s : Nat → Option Nat) : Prop := ∀ k, k < 6 → mo.1.2 24 k = pz_ov (s k)
def pz_Sb (s : Nat → Option Nat) : Prop := ∀ k y, s k = some y → y ≤ 60
theorem pz_uns1 (N : Nat) {KL : List Nat} {kc : Nat → zKC} {A : Nat → Int32} {K P Q T t y o : Nat} {u : Int32} {s : Nat → Option Nat} {L : zLS} (hA : pz_A A K P Q T) (h : pz_Cp KL kc A K Q t y u s L) (ho : o < K) : (pz_hb t o ∧ s o = none ∧ fX4_hasUnsold N L (nI o) 0 = some 1) ∨ (¬ (pz_hb t o ∧ s o = none) ∧ fX4_hasUnsold N L (nI o) 0 = some 0) := by
  obtain ⟨H, hL, hy, hh⟩ := h
  obtain ⟨h1, h2, h3⟩ := hh o ho
  have un := pz_uns N (pz_At_A hA) hL ho (show 0 < 1 by omega)
  rw [show nI 0 = (0 : Int32) from rfl] at un
  obtain ⟨w, n, c, -, -, -, c1, c9, -, -, ec⟩ := pz_A_k hA o ho
  by_cases d : pz_hb t o
  · rw [h2 d, ec, if_neg (nI_nle (by omega) (by omega)), h1] at un
    by_cases d2 : s o = none
    · rw [if_pos d2, if_pos (by decide)] at un
      exact .inl ⟨d, d2, un⟩
    · rw [if_neg d2, if_neg (by decide)] at un
      exact .inr ⟨fun h => d2 h.2, un⟩
  · rw [h3 d, if_pos (by decide)] at un
    exact .inr ⟨fun h => d h.1, un⟩
theorem pz_bit {t k : Nat} (ht : t < 64) (hk : k < 6) : ((nI t >>> (nI k &&& 31)) &&& 1 = 1) ↔ pz_hb t k := by
  rw [pz_bits t ht k hk]
  unfold pz_hb
  have : t / 2 ^ k % 2 < 2 := Nat.mod_lt _ (by omega)
  rw [show (1 : Int32) = nI 1 from rfl, nI_eq (by omega) (by omega)]
set_option maxHeartbeats 4000000 in
set_option maxRecDepth 100000 in
theorem pz_nr1 (N : Nat) {mo : zMS} {K k : Nat} {x y : Int32} (hK : K ≤ 6) (a3 : mo.1.2 5 3 = nI K) : ∀ n o, o ≤ K → K - o < n → fX12_isNear_l1 N mo x (nI k) y n 1 (nI o) = some 1 := by
  have k3 : (3 : Int32).toNatClampNeg = 3 := rfl
  intro n
  induction n with
  | zero => intro o h1 h2; omega
  | succ n ih =>
    intro o h1 h2
    rcases Nat.lt_or_ge o K with h | h
    · have g1 : ¬ nI K ≤ nI o := nI_ge h (by omega)
      simp only [fX12_isNear_l1, k3, a3, g1, nI_1, ↓reduceIte, Option.bind_some, or_self, or_false, false_or, or_true, true_or, and_true, true_and, and_false, false_and, not_true_eq_false, not_false_eq_true, pz_10, pz_01, eq_self]
      exact ih (o + 1) (by omega) (by omega)
    · have e : o = K := by omega
      subst e
      have g1 : nI o ≤ nI o := Int32.le_refl _
      simp only [fX12_isNear_l1, k3, a3, g1, ↓reduceIte, Option.bind_some, or_self, or_false, false_or, or_true, true_or, and_true, true_and, and_false, false_and, not_true_eq_false, not_false_eq_true]
set_option maxHeartbeats 4000000 in
set_option maxRecDepth 100000 in
theorem pz_near (N : Nat) {KL : List Nat} {kc : Nat → zKC} {mo : zMS} {K P Q T t y k a : Nat} {u : Int32} {s : Nat → Option Nat} (hA : pz_A (mo.1.2 5) K P Q T) (ht : t < 64) (hs : pz_Sr mo s) (hsb : pz_Sb s) (hk : k < K) (ha : (kc a).2.1 = nI k) : ∀ n o, o ≤ K → K - o < n → ∃ b : Bool, fX12_isNear_l1 N mo (nI t) (nI k) (nI y) n 0 (nI o) = some (if b then 1 else 0) ∧ ∀ L, pz_Cp KL kc (mo.1.2 5) K Q t y u s L → fX10_isAnotherAboutTo_l1 N KL kc a L 0 n (nI o) = some (if b then Sum.inr () else Sum.inl ()) := by
  obtain ⟨⟨hK1, hK6, hP8, hQ1, hQ8, hT1, hT60⟩, hA3, hA4, hA2, hA1, hA0⟩ := pz_A_n hA
  have k3 : (3 : Int32).toNatClampNeg = 3 := rfl
  intro n
  induction n with
  | zero => intro o h1 h2; omega
  | succ n ih =>
    intro o h1 h2
    rcases Nat.lt_or_ge o K with h3 | h3
    · have g1 : ¬ nI K ≤ nI o := nI_ge h3 (by omega)
      obtain ⟨b, i1, i2⟩ := ih (o + 1) (by omega) (by omega)
      have l6 : ∀ L, pz_Cp KL kc (mo.1.2 5) K Q t y u s L → L.1.1 6 = nI K := by
        intro L hc
        obtain ⟨H, hL, -⟩ := hc
        rw [hL.1, pz_At_o _ _ _ (by omega) (by omega) (by omega)]
        exact hA3
      have l8 : ∀ L, pz_Cp KL kc (mo.1.2 5) K Q t y u s L → L.1.1 8 = nI y := by
        intro L hc
        obtain ⟨H, hL, hy, -⟩ := hc
        rw [hL.2.2.2.2.2.2.2.1]
        exact hy
      obtain ⟨w, m, c, w1, w5, n60, c1, c9, e1, e2, e3⟩ := pz_A_k hA o h3
      have kat : ∀ L, pz_Cp KL kc (mo.1.2 5) K Q t y u s L → ∃ a', (kc a').1 = zko (nI w) ∧ (kc a').2.2.1 = nI m ∧ zkd KL kc a' ∧ fX4_keeperAt N KL kc L (nI o) = some (some a') := by
        intro L hc
        obtain ⟨H, hL, hy, -⟩ := hc
        obtain ⟨a', w', m', c', -, -, -, -, -, -, f1, f2, -, hkc, hz, hat⟩ := pz_kAt N (pz_At_A (t := t) (u := u) hA) hL h3
        rw [pz_At_o _ _ _ (by omega) (by omega) (by omega)] at f1 f2
        rw [← f1, ← f2, e1, e2] at hkc
        exact ⟨a', by rw [hkc], by rw [hkc], hz, hat⟩
      have eqk : nI o = nI k ↔ o = k := nI_eq (by omega) (by omega)
      by_cases ck : o = k
      · subst ck
        refine ⟨b, ?_, fun L hc => ?_⟩
        · simp only [fX12_isNear_l1, k3, hA3, g1, nI_1, ↓reduceIte, Option.bind_some, or_self, or_false, false_or, or_true, true_or, and_true, true_and, and_false, false_and, not_true_eq_false, not_false_eq_true, pz_10, pz_01, eq_self]
          exact i1
        · obtain ⟨a', ha1, ha2, hz, hat⟩ := kat L hc
          have hz' : (¬ zkd KL kc a') = False := eq_false (fun h => h hz)
          simp only [fX10_isAnotherAboutTo_l1, l6 L hc, g1, hat, hz', ha, eq_self, nI_1, ↓reduceIte, Option.bind_some, or_self, or_false, false_or, or_true, true_or, and_true, true_and, and_false, false_and, not_true_eq_false, not_false_eq_true]
          exact i2 L hc
      · have e24 : (24 : Int32) + nI o = nI (24 + o) := nI_add 24 o
        have e30 : (30 : Int32) + nI o = nI (30 + o) := nI_add 30 o
        have i24 := pz_ni (show 24 + o < 58 by omega) (by omega)
        have i30 := pz_ni (show 30 + o < 58 by omega) (by omega)
        have cl24 := nI_clamp (show 24 + o < 2 ^ 31 by omega)
        have cl30 := nI_clamp (show 30 + o < 2 ^ 31 by omega)
        have i6 := pz_ni (show o < 6 by omega) (by omega)
        have cl := nI_clamp (show o < 2 ^ 31 by omega)
        have q := pz_isR N w1 w5 (f := 2) (by omega)
        rw [show nI 2 = (2 : Int32) from rfl] at q
        have so := hs o (by omega)
        have bo := pz_bit ht (show o < 6 by omega)
        have sneg : (0 ≤ pz_ov (s o)) = ¬ (s o = none) := by
          rw [← Int32.not_lt, pz_ov_neg (fun y hy => hsb o y hy)]
        -- the class skips o
        have skipC : (¬ (pz_hb t o ∧ s o = none) ∨ pz_is w 2 = false ∨ nI (y + 1) < nI m) → ∀ L, pz_Cp KL kc (mo.1.2 5) K Q t y u s L → fX10_isAnotherAboutTo_l1 N KL kc a L 0 (n + 1) (nI o) = some (if b then Sum.inr () else Sum.inl ()) := by
          intro hd L hc
          obtain ⟨a', ha1, ha2, hz, hat⟩ := kat L hc
          have hz' : (¬ zkd KL kc a') = False := eq_false (fun h => h hz)
          have j2 := i2 L hc
          have step : ∀ (c3 : (kc a').1 = 0 ∨ (kc a').1 = 1 ∨ (kc a').1 = 9), (¬ (pz_hb t o ∧ s o = none) ∨ nI (y + 1) < nI m) → fX10_isAnotherAboutTo_l1 N KL kc a L 0 (n + 1) (nI o) = some (if b then Sum.inr () else Sum.inl ()) := by
            intro c3 hd
            by_cases d1 : nI (y + 1) < nI m
            · rcases c3 with c3 | c3 | c3 <;> simp only [fX10_isAnotherAboutTo_l1, l6 L hc, l8 L hc, g1, hat, hz', ha, eqk, ck, c3, ha2, d1, (show ¬ (1 : Nat) = 0 by decide), (show ¬ (9 : Nat) = 0 by decide), (show ¬ (9 : Nat) = 1 by decide), (show ¬ (9 : Nat) = 4 by decide), (show ¬ (9 : Nat) = 7 by decide), nI_1, ↓reduceIte, Option.bind_some, or_self, or_false, false_or, or_true, true_or, and_true, true_and, and_false, false_and, not_true_eq_false, not_false_eq_true] <;> exact j2
            · rcases pz_uns1 N hA hc h3 with ⟨d2, d3, -⟩ | ⟨-, un⟩
              · exact absurd ⟨d2, d3⟩ (hd.resolve_right d1)
              · rcases c3 with c3 | c3 | c3 <;> simp only [fX10_isAnotherAboutTo_l1, l6 L hc, l8 L hc, g1, hat, hz', ha, eqk, ck, c3, ha2, d1, un, (show ¬ (1 : Nat) = 0 by decide), (show ¬ (9 : Nat) = 0 by decide), (show ¬ (9 : Nat) = 1 by decide), (show ¬ (9 : Nat) = 4 by decide), (show ¬ (9 : Nat) = 7 by decide), nI_1, ↓reduceIte, Option.bind_some, or_self, or_false, false_or, or_true, true_or, and_true, true_and, and_false, false_and, not_true_eq_false, not_false_eq_true, pz_10, pz_01, eq_self] <;> exact j2
          have skip : ∀ (c3 : (kc a').1 = 4 ∨ (kc a').1 = 7), fX10_isAnotherAboutTo_l1 N KL kc a L 0 (n + 1) (nI o) = some (if b then Sum.inr () else Sum.inl ()) := by
            intro c3
            rcases c3 with c3 | c3 <;> simp only [fX10_isAnotherAboutTo_l1, l6 L hc, g1, hat, hz', ha, eqk, ck, c3, (show ¬ (4 : Nat) = 0 by decide), (show ¬ (4 : Nat) = 1 by decide), (show ¬ (7 : Nat) = 0 by decide), (show ¬ (7 : Nat) = 1 by decide), (show ¬ (7 : Nat) = 4 by decide), nI_1, ↓reduceIte, Option.bind_some, or_self, or_false, false_or, or_true, true_or, and_true, true_and, and_false, false_and, not_true_eq_false, not_false_eq_true] <;> exact j2
          rcases (show w = 1 ∨ w = 2 ∨ w = 3 ∨ w = 4 ∨ w = 5 by omega) with rfl | rfl | rfl | rfl | rfl
          · exact skip (.inl (by rw [ha1]; rfl))
          · exact step (.inl (by rw [ha1]; rfl)) (hd.imp id (fun h => h.resolve_left (by decide)))
          · exact step (.inr (.inr (by rw [ha1]; rfl))) (hd.imp id (fun h => h.resolve_left (by decide)))
          · exact step (.inr (.inl (by rw [ha1]; rfl))) (hd.imp id (fun h => h.resolve_left (by decide)))
          · exact skip (.inr (by rw [ha1]; rfl))
        by_cases d1 : pz_hb t o
        · by_cases d2 : s o = none
          · by_cases d3 : pz_is w 2 = true
            · by_cases d4 : nI (y + 1) < nI m
              · refine ⟨b, ?_, skipC (.inr (.inr d4))⟩
                simp only [fX12_isNear_l1, k3, hA3, g1, eqk, ck, bo, d1, so, sneg, d2, e24, e30, i24, i30, i6, cl24, cl30, cl, e1, e2, q, d3, d4, nI_1, ↓reduceIte, Option.bind_some, or_self, or_false, false_or, or_true, true_or, and_true, true_and, and_false, false_and, not_true_eq_false, not_false_eq_true, pz_10, pz_01, eq_self]
                exact i1
              · refine ⟨true, ?_, fun L hc => ?_⟩
                · simp only [fX12_isNear_l1, k3, hA3, g1, eqk, ck, bo, d1, so, sneg, d2, e24, e30, i24, i30, i6, cl24, cl30, cl, e1, e2, q, d3, d4, nI_1, ↓reduceIte, Option.bind_some, or_self, or_false, false_or, or_true, true_or, and_true, true_and, and_false, false_and, not_true_eq_false, not_false_eq_true, pz_10, pz_01, eq_self]
                  exact pz_nr1 N hK6 hA3 n (o + 1) (by omega) (by omega)
                · obtain ⟨a', ha1, ha2, hz, hat⟩ := kat L hc
                  have hz' : (¬ zkd KL kc a') = False := eq_false (fun h => h hz)
                  rcases pz_uns1 N hA hc h3 with ⟨-, -, un⟩ | ⟨d5, -⟩
                  · have c3 : (kc a').1 = 0 ∨ (kc a').1 = 1 ∨ (kc a').1 = 9 := by
                      rw [ha1]
                      rcases (show w = 1 ∨ w = 2 ∨ w = 3 ∨ w = 4 ∨ w = 5 by omega) with rfl | rfl | rfl | rfl | rfl
                      · cases d3
                      · exact .inl rfl
                      · exact .inr (.inr rfl)
                      · exact .inr (.inl rfl)
                      · cases d3
                    rcases c3 with c3 | c3 | c3 <;> simp only [fX10_isAnotherAboutTo_l1, l6 L hc, l8 L hc, g1, hat, hz', ha, eqk, ck, c3, ha2, d4, un, (show ¬ (1 : Nat) = 0 by decide), (show ¬ (9 : Nat) = 0 by decide), (show ¬ (9 : Nat) = 1 by decide), (show ¬ (9 : Nat) = 4 by decide), (show ¬ (9 : Nat) = 7 by decide), nI_1, ↓reduceIte, Option.bind_some, or_self, or_false, false_or, or_true, true_or, and_true, true_and, and_false, false_and, not_true_eq_false, not_false_eq_true, pz_10, pz_01, eq_self]
                  · exact absurd ⟨d1, d2⟩ d5
            · have d3' : pz_is w 2 = false := by cases h : pz_is w 2 <;> simp_all
              refine ⟨b, ?_, skipC (.inr (.inl d3'))⟩
              simp only [fX12_isNear_l1, k3, hA3, g1, eqk, ck, bo, d1, so, sneg, d2, e24, e30, i24, i30, i6, cl24, cl30, cl, e1, e2, q, d3', Bool.false_eq_true, nI_1, ↓reduceIte, Option.bind_some, or_self, or_false, false_or, or_true, true_or, and_true, true_and, and_false, false_and, not_true_eq_false, not_false_eq_true, pz_10, pz_01, eq_self]
              exact i1
          · refine ⟨b, ?_, skipC (.inl (fun h => d2 h.2))⟩
            simp only [fX12_isNear_l1, k3, hA3, g1, eqk, ck, bo, d1, so, sneg, d2, i6, cl, nI_1, ↓reduceIte, Option.bind_some, or_self, or_false, false_or, or_true, true_or, and_true, true_and, and_false, false_and, not_true_eq_false, not_false_eq_true, pz_10, pz_01, eq_self]
            exact i1
        · refine ⟨b, ?_, skipC (.inl (fun h => d1 h.1))⟩
          simp only [fX12_isNear_l1, k3, hA3, g1, eqk, ck, bo, d1, nI_1, ↓reduceIte, Option.bind_some, or_self, or_false, false_or, or_true, true_or, and_true, true_and, and_false, false_and, not_true_eq_false, not_false_eq_true, pz_10, pz_01, eq_self]
          exact i1
    · have e : o = K := by omega
      subst e
      have g1 : nI o ≤ nI o := Int32.le_refl _
      refine ⟨false, ?_, fun L hc => ?_⟩
      · simp only [fX12_isNear_l1, k3, hA3, g1, Bool.false_eq_true, ↓reduceIte, Option.bind_some, or_self, or_false, false_or, or_true, true_or, and_true, true_and, and_false, false_and, not_true_eq_false, not_false_eq_true]
      · have l6 : L.1.1 6 = nI o := by
          obtain ⟨H, hL, -⟩ := hc
          rw [hL.1, pz_At_o _ _ _ (by omega) (by omega) (by omega)]
          exact hA3
        simp only [fX10_isAnotherAboutTo_l1, l6, g1, Bool.false_eq_true, ↓reduceIte, Option.bind_some, or_self, or_false, false_or, or_true, true_or, and_true, true_and, and_false, false_and, not_true_eq_false, not_false_eq_true]
