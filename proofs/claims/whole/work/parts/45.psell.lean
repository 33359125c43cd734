/-! THE PURE LAYER: who sells -/
theorem pz_i24 {k : Nat} (c : Nat) (hc : c < 100) (hk : k < 100) : nI c + nI k = nI (c + k) ∧ (nI (c + k)).toNatClampNeg = c + k := ⟨nI_add _ _, nI_clamp (by omega)⟩
set_option maxHeartbeats 4000000 in
set_option maxRecDepth 100000 in
theorem pz_uns (N : Nat) {KL : List Nat} {kc : Nat → zKC} {L : zLS} {A H : Nat → Int32} {K P Q T : Nat} (h : pz_A A K P Q T) (hL : pz_L KL kc L A H K P Q) {k p : Nat} (hk : k < K) (hp : p < P) : fX4_hasUnsold N L (nI k) (nI p) = some (if H (29 + 8 * k + p) ≤ 0 then 0 else if (H (7 + k) >>> (nI p &&& 31)) &&& 1 = 0 then 1 else 0) := by
  have hn := (pz_A_n h).1
  have i := pz_ni (show k < 6 by omega) (by omega)
  have l16 := (hL.2.2.2.2.2.2.2.2.2.2.1 k hk).2
  simp only [fX4_hasUnsold, pz_cnt N h hL hk hp, i, nI_clamp (show k < 2 ^ 31 by omega), l16, ↓reduceIte, Option.bind_some, or_self, or_false, false_or, or_true, true_or, and_true, true_and, and_false, false_and, not_true_eq_false, not_false_eq_true]
  split
  · rfl
  · split <;> rfl
set_option maxHeartbeats 4000000 in
set_option maxRecDepth 100000 in
theorem pz_abt (N : Nat) {mo : zMS} {o p w n : Nat} {y : Int32} (ho : o < 6) (hp : p < 8) (w1 : 1 ≤ w) (w5 : w ≤ 5) (ew : mo.1.2 5 (24 + o) = nI w) (en : mo.1.2 5 (30 + o) = nI n) : fX12_isAboutTo N mo (nI o) (nI p) y = some (if pz_is w 2 = true ∧ ¬ mo.1.2 8 (29 + 8 * o + p) ≤ 0 ∧ (mo.1.2 8 (7 + o) >>> (nI p &&& 31)) &&& 1 = 0 ∧ ¬ y + 1 < nI n then 1 else 0) := by
  have e24 : (24 : Int32) + nI o = nI (24 + o) := nI_add 24 o
  have e30 : (30 : Int32) + nI o = nI (30 + o) := nI_add 30 o
  have e7 : (7 : Int32) + nI o = nI (7 + o) := nI_add 7 o
  have i24 := pz_ni (show 24 + o < 58 by omega) (by omega)
  have i30 := pz_ni (show 30 + o < 58 by omega) (by omega)
  have i7 := pz_ni (show 7 + o < 77 by omega) (by omega)
  have q := pz_isR N w1 w5 (f := 2) (by omega)
  rw [show nI 2 = (2 : Int32) from rfl] at q
  simp only [fX12_isAboutTo, e24, e30, e7, i24, i30, i7, nI_clamp (show 24 + o < 2 ^ 31 by omega), nI_clamp (show 30 + o < 2 ^ 31 by omega), nI_clamp (show 7 + o < 2 ^ 31 by omega), ew, en, q, pz_has N mo ho hp, ↓reduceIte, Option.bind_some, or_self, or_false, false_or, or_true, true_or, and_true, true_and, and_false, false_and, not_true_eq_false, not_false_eq_true]
  by_cases c1 : pz_is w 2 = true
  · by_cases c2 : mo.1.2 8 (29 + 8 * o + p) ≤ 0
    · simp only [c1, c2, ↓reduceIte, Option.bind_some, or_self, or_false, false_or, or_true, true_or, and_true, true_and, and_false, false_and, not_true_eq_false, not_false_eq_true, pz_10, pz_01, eq_self]
    · by_cases c3 : (mo.1.2 8 (7 + o) >>> (nI p &&& 31)) &&& 1 = 0
      · by_cases c4 : y + 1 < nI n
        · simp only [c1, c2, c3, c4, ↓reduceIte, Option.bind_some, or_self, or_false, false_or, or_true, true_or, and_true, true_and, and_false, false_and, not_true_eq_false, not_false_eq_true, pz_10, pz_01, eq_self]
        · simp only [c1, c2, c3, c4, ↓reduceIte, Option.bind_some, or_self, or_false, false_or, or_true, true_or, and_true, true_and, and_false, false_and, not_true_eq_false, not_false_eq_true, pz_10, pz_01, eq_self]
      · simp only [c1, c2, c3, ↓reduceIte, Option.bind_some, or_self, or_false, false_or, or_true, true_or, and_true, true_and, and_false, false_and, not_true_eq_false, not_false_eq_true, pz_10, pz_01, eq_self]
  · simp only [c1, Bool.false_eq_true, ↓reduceIte, Option.bind_some, or_self, or_false, false_or, or_true, true_or, and_true, true_and, and_false, false_and, not_true_eq_false, not_false_eq_true, pz_10, pz_01, eq_self]
set_option maxHeartbeats 4000000 in
set_option maxRecDepth 100000 in
theorem pz_sA1 (N : Nat) {mo : zMS} {K k p w : Nat} {y : Int32} (hK : K ≤ 6) (a3 : mo.1.2 5 3 = nI K) : ∀ n o, o ≤ K → K - o < n → fX12_sells_l1 N mo (nI k) (nI p) y (nI w) n 1 (nI o) = some 1 := by
  have k3 : (3 : Int32).toNatClampNeg = 3 := rfl
  intro n
  induction n with
  | zero => intro o h1 h2; omega
  | succ n ih =>
    intro o h1 h2
    rcases Nat.lt_or_ge o K with h | h
    · have g1 : ¬ nI K ≤ nI o := nI_ge h (by omega)
      by_cases c : nI w = 3
      · simp only [fX12_sells_l1, k3, a3, g1, c, nI_1, ↓reduceIte, Option.bind_some, or_self, or_false, false_or, or_true, true_or, and_true, true_and, and_false, false_and, not_true_eq_false, not_false_eq_true, pz_10, pz_01, eq_self]
        rw [c] at ih
        exact ih (o + 1) (by omega) (by omega)
      · simp only [fX12_sells_l1, k3, a3, g1, c, ↓reduceIte, Option.bind_some, or_self, or_false, false_or, or_true, true_or, and_true, true_and, and_false, false_and, not_true_eq_false, not_false_eq_true]
    · have e : o = K := by omega
      subst e
      have g1 : nI o ≤ nI o := Int32.le_refl _
      simp only [fX12_sells_l1, k3, a3, g1, ↓reduceIte, Option.bind_some, or_self, or_false, false_or, or_true, true_or, and_true, true_and, and_false, false_and, not_true_eq_false, not_false_eq_true]
set_option maxHeartbeats 4000000 in
set_option maxRecDepth 100000 in
theorem pz_sA2 (N : Nat) {mo : zMS} {K k p w : Nat} {y : Int32} (hK : K ≤ 6) (a3 : mo.1.2 5 3 = nI K) : ∀ n o, o ≤ K → K - o < n → fX12_sells_l2 N mo (nI k) (nI p) y (nI w) n 1 (nI o) = some 1 := by
  have k3 : (3 : Int32).toNatClampNeg = 3 := rfl
  intro n
  induction n with
  | zero => intro o h1 h2; omega
  | succ n ih =>
    intro o h1 h2
    rcases Nat.lt_or_ge o K with h | h
    · have g1 : ¬ nI K ≤ nI o := nI_ge h (by omega)
      by_cases c : nI w = 3
      · simp only [fX12_sells_l2, k3, a3, g1, c, nI_1, ↓reduceIte, Option.bind_some, or_self, or_false, false_or, or_true, true_or, and_true, true_and, and_false, false_and, not_true_eq_false, not_false_eq_true, pz_10, pz_01, eq_self]
        rw [c] at ih
        exact ih (o + 1) (by omega) (by omega)
      · simp only [fX12_sells_l2, k3, a3, g1, c, ↓reduceIte, Option.bind_some, or_self, or_false, false_or, or_true, true_or, and_true, true_and, and_false, false_and, not_true_eq_false, not_false_eq_true]
    · have e : o = K := by omega
      subst e
      have g1 : nI o ≤ nI o := Int32.le_refl _
      simp only [fX12_sells_l2, k3, a3, g1, ↓reduceIte, Option.bind_some, or_self, or_false, false_or, or_true, true_or, and_true, true_and, and_false, false_and, not_true_eq_false, not_false_eq_true]
set_option maxHeartbeats 4000000 in
set_option maxRecDepth 100000 in
theorem pz_sA3 (N : Nat) {mo : zMS} {K k p w : Nat} {y : Int32} (hK : K ≤ 6) (a3 : mo.1.2 5 3 = nI K) : ∀ n o, o ≤ K → K - o < n → fX12_sells_l3 N mo (nI k) (nI p) y (nI w) n 1 (nI o) = some 1 := by
  have k3 : (3 : Int32).toNatClampNeg = 3 := rfl
  intro n
  induction n with
  | zero => intro o h1 h2; omega
  | succ n ih =>
    intro o h1 h2
    rcases Nat.lt_or_ge o K with h | h
    · have g1 : ¬ nI K ≤ nI o := nI_ge h (by omega)
      by_cases c : nI w = 3
      · simp only [fX12_sells_l3, k3, a3, g1, c, nI_1, ↓reduceIte, Option.bind_some, or_self, or_false, false_or, or_true, true_or, and_true, true_and, and_false, false_and, not_true_eq_false, not_false_eq_true, pz_10, pz_01, eq_self]
        rw [c] at ih
        exact ih (o + 1) (by omega) (by omega)
      · simp only [fX12_sells_l3, k3, a3, g1, c, ↓reduceIte, Option.bind_some, or_self, or_false, false_or, or_true, true_or, and_true, true_and, and_false, false_and, not_true_eq_false, not_false_eq_true]
    · have e : o = K := by omega
      subst e
      have g1 : nI o ≤ nI o := Int32.le_refl _
      simp only [fX12_sells_l3, k3, a3, g1, ↓reduceIte, Option.bind_some, or_self, or_false, false_or, or_true, true_or, and_true, true_and, and_false, false_and, not_true_eq_false, not_false_eq_true]
set_option maxHeartbeats 4000000 in
set_option maxRecDepth 100000 in
theorem pz_sA4 (N : Nat) {mo : zMS} {K k p w : Nat} {y : Int32} (hK : K ≤ 6) (a3 : mo.1.2 5 3 = nI K) : ∀ n o, o ≤ K → K - o < n → fX12_sells_l4 N mo (nI k) (nI p) y (nI w) n 1 (nI o) = some 1 := by
  have k3 : (3 : Int32).toNatClampNeg = 3 := rfl
  intro n
  induction n with
  | zero => intro o h1 h2; omega
  | succ n ih =>
    intro o h1 h2
    rcases Nat.lt_or_ge o K with h | h
    · have g1 : ¬ nI K ≤ nI o := nI_ge h (by omega)
      by_cases c : nI w = 3
      · simp only [fX12_sells_l4, k3, a3, g1, c, nI_1, ↓reduceIte, Option.bind_some, or_self, or_false, false_or, or_true, true_or, and_true, true_and, and_false, false_and, not_true_eq_false, not_false_eq_true, pz_10, pz_01, eq_self]
        rw [c] at ih
        exact ih (o + 1) (by omega) (by omega)
      · simp only [fX12_sells_l4, k3, a3, g1, c, ↓reduceIte, Option.bind_some, or_self, or_false, false_or, or_true, true_or, and_true, true_and, and_false, false_and, not_true_eq_false, not_false_eq_true]
    · have e : o = K := by omega
      subst e
      have g1 : nI o ≤ nI o := Int32.le_refl _
      simp only [fX12_sells_l4, k3, a3, g1, ↓reduceIte, Option.bind_some, or_self, or_false, false_or, or_true, true_or, and_true, true_and, and_false, false_and, not_true_eq_false, not_false_eq_true]
set_option maxHeartbeats 4000000 in
set_option maxRecDepth 100000 in
theorem pz_sB2 (N : Nat) {mo : zMS} {K k p w : Nat} {y : Int32} (hK : K ≤ 6) (a3 : mo.1.2 5 3 = nI K) (hw : ¬ nI w = 3) : ∀ n o, o ≤ K → K - o < n → fX12_sells_l2 N mo (nI k) (nI p) y (nI w) n 0 (nI o) = some 0 := by
  have k3 : (3 : Int32).toNatClampNeg = 3 := rfl
  intro n o h1 h2
  cases n with
  | zero => omega
  | succ n =>
    rcases Nat.lt_or_ge o K with h | h
    · have g1 : ¬ nI K ≤ nI o := nI_ge h (by omega)
      simp only [fX12_sells_l2, k3, a3, g1, hw, ↓reduceIte, Option.bind_some, or_self, or_false, false_or, or_true, true_or, and_true, true_and, and_false, false_and, not_true_eq_false, not_false_eq_true]
    · have e : o = K := by omega
      subst e
      have g1 : nI o ≤ nI o := Int32.le_refl _
      simp only [fX12_sells_l2, k3, a3, g1, ↓reduceIte, Option.bind_some, or_self, or_false, false_or, or_true, true_or, and_true, true_and, and_false, false_and, not_true_eq_false, not_false_eq_true]
set_option maxHeartbeats 4000000 in
set_option maxRecDepth 100000 in
theorem pz_sB3 (N : Nat) {mo : zMS} {K k p w : Nat} {y : Int32} (hK : K ≤ 6) (a3 : mo.1.2 5 3 = nI K) (hw : ¬ nI w = 3) : ∀ n o, o ≤ K → K - o < n → fX12_sells_l3 N mo (nI k) (nI p) y (nI w) n 0 (nI o) = some 0 := by
  have k3 : (3 : Int32).toNatClampNeg = 3 := rfl
  intro n o h1 h2
  cases n with
  | zero => omega
  | succ n =>
    rcases Nat.lt_or_ge o K with h | h
    · have g1 : ¬ nI K ≤ nI o := nI_ge h (by omega)
      simp only [fX12_sells_l3, k3, a3, g1, hw, ↓reduceIte, Option.bind_some, or_self, or_false, false_or, or_true, true_or, and_true, true_and, and_false, false_and, not_true_eq_false, not_false_eq_true]
    · have e : o = K := by omega
      subst e
      have g1 : nI o ≤ nI o := Int32.le_refl _
      simp only [fX12_sells_l3, k3, a3, g1, ↓reduceIte, Option.bind_some, or_self, or_false, false_or, or_true, true_or, and_true, true_and, and_false, false_and, not_true_eq_false, not_false_eq_true]
set_option maxHeartbeats 4000000 in
set_option maxRecDepth 100000 in
theorem pz_sC (N : Nat) (hN : 200000 ≤ N) {KL : List Nat} {kc : Nat → zKC} {L : zLS} {mo : zMS} {K P Q T k p a : Nat} (h : pz_A (mo.1.2 5) K P Q T) (hL : pz_L KL kc L (mo.1.2 5) (mo.1.2 8) K P Q) (hk : k < K) (hp : p < P) (ha : (kc a).2.1 = nI k) : ∀ n o, o ≤ K → K - o < n → ∃ b : Bool, fX10_isAnotherAboutTo_l1 N KL kc a L (nI p) n (nI o) = some (if b then Sum.inr () else Sum.inl ()) ∧ fX12_sells_l2 N mo (nI k) (nI p) (mo.1.2 8 0) 3 n 0 (nI o) = some (if b then 1 else 0) := by
  obtain ⟨⟨hK1, hK6, hP8, hQ1, hQ8, hT1, hT60⟩, hA3, hA4, hA2, hA1, hA0⟩ := pz_A_n h
  have k3 : (3 : Int32).toNatClampNeg = 3 := rfl
  have l6 : L.1.1 6 = nI K := hL.1.trans hA3
  have l8 : L.1.1 8 = mo.1.2 8 0 := hL.2.2.2.2.2.2.2.1
  intro n
  induction n with
  | zero => intro o h1 h2; omega
  | succ n ih =>
    intro o h1 h2
    rcases Nat.lt_or_ge o K with h3 | h3
    · have g1 : ¬ nI K ≤ nI o := nI_ge h3 (by omega)
      obtain ⟨a', w, m, c, ea, w1, w5, n60, c1, c9, e1, e2, e3, hc, hz, hat⟩ := pz_kAt N h hL h3
      have hz' : (¬ zkd KL kc a') = False := eq_false (fun h => h hz)
      obtain ⟨b, i1, i2⟩ := ih (o + 1) (by omega) (by omega)
      have ab := pz_abt N (y := mo.1.2 8 0) (show o < 6 by omega) (show p < 8 by omega) w1 w5 e1 e2
      have un := pz_uns N h hL h3 hp
      have eqk : nI o = nI k ↔ o = k := nI_eq (by omega) (by omega)
      have hm : (kc a').2.2.1 = nI m := by rw [hc]
      by_cases ck : o = k
      · subst ck
        refine ⟨b, ?_, ?_⟩
        · simp only [fX10_isAnotherAboutTo_l1, l6, g1, hat, hz', ha, eq_self, nI_1, ↓reduceIte, Option.bind_some, or_self, or_false, false_or, or_true, true_or, and_true, true_and, and_false, false_and, not_true_eq_false, not_false_eq_true]
          exact i1
        · simp only [fX12_sells_l2, k3, hA3, g1, nI_1, ↓reduceIte, Option.bind_some, or_self, or_false, false_or, or_true, true_or, and_true, true_and, and_false, false_and, not_true_eq_false, not_false_eq_true, pz_10, pz_01, eq_self]
          exact i2
      · have step : ∀ (hs : pz_is w 2 = true) (c3 : (kc a').1 = 0 ∨ (kc a').1 = 1 ∨ (kc a').1 = 9), ∃ b : Bool, fX10_isAnotherAboutTo_l1 N KL kc a L (nI p) (n + 1) (nI o) = some (if b then Sum.inr () else Sum.inl ()) ∧ fX12_sells_l2 N mo (nI k) (nI p) (mo.1.2 8 0) 3 (n + 1) 0 (nI o) = some (if b then 1 else 0) := by
          intro hs c3
          by_cases d1 : mo.1.2 8 0 + 1 < nI m
          · refine ⟨b, ?_, ?_⟩
            · rcases c3 with c3 | c3 | c3 <;> simp only [fX10_isAnotherAboutTo_l1, l6, l8, g1, hat, hz', ha, eqk, ck, c3, hm, d1, (show ¬ (1 : Nat) = 0 by decide), (show ¬ (9 : Nat) = 0 by decide), (show ¬ (9 : Nat) = 1 by decide), (show ¬ (9 : Nat) = 4 by decide), (show ¬ (9 : Nat) = 7 by decide), nI_1, ↓reduceIte, Option.bind_some, or_self, or_false, false_or, or_true, true_or, and_true, true_and, and_false, false_and, not_true_eq_false, not_false_eq_true] <;> exact i1
            · simp only [fX12_sells_l2, k3, hA3, g1, eqk, ck, ab, d1, nI_1, ↓reduceIte, Option.bind_some, or_self, or_false, false_or, or_true, true_or, and_true, true_and, and_false, false_and, not_true_eq_false, not_false_eq_true, pz_10, pz_01, eq_self]
              exact i2
          · by_cases d2 : mo.1.2 8 (29 + 8 * o + p) ≤ 0
            · refine ⟨b, ?_, ?_⟩
              · rcases c3 with c3 | c3 | c3 <;> simp only [fX10_isAnotherAboutTo_l1, l6, l8, g1, hat, hz', ha, eqk, ck, c3, hm, d1, un, d2, (show ¬ (1 : Nat) = 0 by decide), (show ¬ (9 : Nat) = 0 by decide), (show ¬ (9 : Nat) = 1 by decide), (show ¬ (9 : Nat) = 4 by decide), (show ¬ (9 : Nat) = 7 by decide), nI_1, ↓reduceIte, Option.bind_some, or_self, or_false, false_or, or_true, true_or, and_true, true_and, and_false, false_and, not_true_eq_false, not_false_eq_true, pz_10, pz_01, eq_self] <;> exact i1
              · simp only [fX12_sells_l2, k3, hA3, g1, eqk, ck, ab, d2, nI_1, ↓reduceIte, Option.bind_some, or_self, or_false, false_or, or_true, true_or, and_true, true_and, and_false, false_and, not_true_eq_false, not_false_eq_true, pz_10, pz_01, eq_self]
                exact i2
            · by_cases d3 : (mo.1.2 8 (7 + o) >>> (nI p &&& 31)) &&& 1 = 0
              · refine ⟨true, ?_, ?_⟩
                · rcases c3 with c3 | c3 | c3 <;> simp only [fX10_isAnotherAboutTo_l1, l6, l8, g1, hat, hz', ha, eqk, ck, c3, hm, d1, un, d2, d3, (show ¬ (1 : Nat) = 0 by decide), (show ¬ (9 : Nat) = 0 by decide), (show ¬ (9 : Nat) = 1 by decide), (show ¬ (9 : Nat) = 4 by decide), (show ¬ (9 : Nat) = 7 by decide), nI_1, ↓reduceIte, Option.bind_some, or_self, or_false, false_or, or_true, true_or, and_true, true_and, and_false, false_and, not_true_eq_false, not_false_eq_true, pz_10, pz_01, eq_self]
                · simp only [fX12_sells_l2, k3, hA3, g1, eqk, ck, ab, hs, d1, d2, d3, nI_1, ↓reduceIte, Option.bind_some, or_self, or_false, false_or, or_true, true_or, and_true, true_and, and_false, false_and, not_true_eq_false, not_false_eq_true, pz_10, pz_01, eq_self]
                  exact pz_sA2 N (w := 3) hK6 hA3 n (o + 1) (by omega) (by omega)
              · refine ⟨b, ?_, ?_⟩
                · rcases c3 with c3 | c3 | c3 <;> simp only [fX10_isAnotherAboutTo_l1, l6, l8, g1, hat, hz', ha, eqk, ck, c3, hm, d1, un, d2, d3, (show ¬ (1 : Nat) = 0 by decide), (show ¬ (9 : Nat) = 0 by decide), (show ¬ (9 : Nat) = 1 by decide), (show ¬ (9 : Nat) = 4 by decide), (show ¬ (9 : Nat) = 7 by decide), nI_1, ↓reduceIte, Option.bind_some, or_self, or_false, false_or, or_true, true_or, and_true, true_and, and_false, false_and, not_true_eq_false, not_false_eq_true, pz_10, pz_01, eq_self] <;> exact i1
                · simp only [fX12_sells_l2, k3, hA3, g1, eqk, ck, ab, d3, nI_1, ↓reduceIte, Option.bind_some, or_self, or_false, false_or, or_true, true_or, and_true, true_and, and_false, false_and, not_true_eq_false, not_false_eq_true, pz_10, pz_01, eq_self]
                  exact i2
        have skip : ∀ (hs : pz_is w 2 = false) (c3 : (kc a').1 = 4 ∨ (kc a').1 = 7), ∃ b : Bool, fX10_isAnotherAboutTo_l1 N KL kc a L (nI p) (n + 1) (nI o) = some (if b then Sum.inr () else Sum.inl ()) ∧ fX12_sells_l2 N mo (nI k) (nI p) (mo.1.2 8 0) 3 (n + 1) 0 (nI o) = some (if b then 1 else 0) := by
          intro hs c3
          refine ⟨b, ?_, ?_⟩
          · rcases c3 with c3 | c3 <;> simp only [fX10_isAnotherAboutTo_l1, l6, l8, g1, hat, hz', ha, eqk, ck, c3, (show ¬ (4 : Nat) = 0 by decide), (show ¬ (4 : Nat) = 1 by decide), (show ¬ (7 : Nat) = 0 by decide), (show ¬ (7 : Nat) = 1 by decide), (show ¬ (7 : Nat) = 4 by decide), nI_1, ↓reduceIte, Option.bind_some, or_self, or_false, false_or, or_true, true_or, and_true, true_and, and_false, false_and, not_true_eq_false, not_false_eq_true] <;> exact i1
          · simp only [fX12_sells_l2, k3, hA3, g1, eqk, ck, ab, hs, Bool.false_eq_true, nI_1, ↓reduceIte, Option.bind_some, or_self, or_false, false_or, or_true, true_or, and_true, true_and, and_false, false_and, not_true_eq_false, not_false_eq_true, pz_10, pz_01, eq_self]
            exact i2
        rcases (show w = 1 ∨ w = 2 ∨ w = 3 ∨ w = 4 ∨ w = 5 by omega) with rfl | rfl | rfl | rfl | rfl
        · exact skip rfl (.inl (by rw [hc]; rfl))
        · exact step rfl (.inl (by rw [hc]; rfl))
        · exact step rfl (.inr (.inr (by rw [hc]; rfl)))
        · exact step rfl (.inr (.inl (by rw [hc]; rfl)))
        · exact skip rfl (.inr (by rw [hc]; rfl))
    · have e : o = K := by omega
      subst e
      have g1 : nI o ≤ nI o := Int32.le_refl _
      refine ⟨false, ?_, ?_⟩
      · simp only [fX10_isAnotherAboutTo_l1, l6, g1, Bool.false_eq_true, ↓reduceIte, Option.bind_some, or_self, or_false, false_or, or_true, true_or, and_true, true_and, and_false, false_and, not_true_eq_false, not_false_eq_true]
      · simp only [fX12_sells_l2, k3, hA3, g1, Bool.false_eq_true, ↓reduceIte, Option.bind_some, or_self, or_false, false_or, or_true, true_or, and_true, true_and, and_false, false_and, not_true_eq_false, not_false_eq_true]
set_option maxHeartbeats 4000000 in
set_option maxRecDepth 100000 in
/-- does a keeper sell: both say the same, by his kind -/
theorem pz_sells (N : Nat) (hN : 200000 ≤ N) {KL : List Nat} {kc : Nat → zKC} {L : zLS} {mo : zMS} {K P Q T k p a w n c : Nat} (h : pz_A (mo.1.2 5) K P Q T) (hL : pz_L KL kc L (mo.1.2 5) (mo.1.2 8) K P Q) (hk : k < K) (hp : p < P) (w1 : 1 ≤ w) (w5 : w ≤ 5) (hn60 : n ≤ 60) (ew : mo.1.2 5 (24 + k) = nI w) (en : mo.1.2 5 (30 + k) = nI n) (hc : kc a = (zko (nI w), nI k, nI n, nI c)) : ∃ b : Int32, fX12_sells N mo (nI k) (nI p) (mo.1.2 8 0) = some b ∧ (w = 1 → b = 1) ∧ (w = 5 → b = 0) ∧ (w = 2 → fX0_sells N kc L a (nI p) = some b) ∧ (w = 3 → fX10_sells N KL kc L a (nI p) = some b) ∧ (w = 4 → fX1_sells N kc L a (nI p) = some b) := by
  obtain ⟨⟨hK1, hK6, hP8, hQ1, hQ8, hT1, hT60⟩, hA3, hA4, hA2, hA1, hA0⟩ := pz_A_n h
  have l8 : L.1.1 8 = mo.1.2 8 0 := hL.2.2.2.2.2.2.2.1
  have e24 : (24 : Int32) + nI k = nI (24 + k) := nI_add 24 k
  have e30 : (30 : Int32) + nI k = nI (30 + k) := nI_add 30 k
  have i24 := pz_ni (show 24 + k < 58 by omega) (by omega)
  have i30 := pz_ni (show 30 + k < 58 by omega) (by omega)
  have cl24 := nI_clamp (show 24 + k < 2 ^ 31 by omega)
  have cl30 := nI_clamp (show 30 + k < 2 ^ 31 by omega)
  have hi : (kc a).2.1 = nI k := by rw [hc]
  have hn : (kc a).2.2.1 = nI n := by rw [hc]
  have z0 : nI 0 = (0 : Int32) := rfl
  have sA1 : ∀ w, fX12_sells_l1 N mo (nI k) (nI p) (mo.1.2 8 0) (nI w) N 1 0 = some 1 := fun w => pz_sA1 N (w := w) hK6 hA3 N 0 (by omega) (by omega)
  have sA4 : ∀ w, fX12_sells_l4 N mo (nI k) (nI p) (mo.1.2 8 0) (nI w) N 1 0 = some 1 := fun w => pz_sA4 N (w := w) hK6 hA3 N 0 (by omega) (by omega)
  have sB2 : ∀ w, ¬ nI w = 3 → fX12_sells_l2 N mo (nI k) (nI p) (mo.1.2 8 0) (nI w) N 0 0 = some 0 := fun w hw => pz_sB2 N (w := w) hK6 hA3 hw N 0 (by omega) (by omega)
  have sB3 : ∀ w, ¬ nI w = 3 → fX12_sells_l3 N mo (nI k) (nI p) (mo.1.2 8 0) (nI w) N 0 0 = some 0 := fun w hw => pz_sB3 N (w := w) hK6 hA3 hw N 0 (by omega) (by omega)
  have s0 : fX0_sells N kc L a (nI p) = some (if mo.1.2 8 0 < nI n then 0 else 1) := by
    unfold fX0_sells
    rw [l8, hn]
    split <;> rfl
  rcases (show w = 1 ∨ w = 2 ∨ w = 3 ∨ w = 4 ∨ w = 5 by omega) with rfl | rfl | rfl | rfl | rfl
  · refine ⟨1, ?_, fun _ => rfl, fun h => by omega, fun h => by omega, fun h => by omega, fun h => by omega⟩
    simp only [fX12_sells, e24, i24, cl24, ew, (show (nI 1 = 1) = True from eq_true rfl), ↓reduceIte, Option.bind_some, or_self, or_false, false_or, or_true, true_or, and_true, true_and, and_false, false_and, not_true_eq_false, not_false_eq_true]
  · have q1 : ¬ nI 2 = 1 := by decide
    have q5 : ¬ nI 2 = 5 := by decide
    have q3 : ¬ nI 2 = 3 := by decide
    have q4 : ¬ nI 2 = 4 := by decide
    by_cases d : mo.1.2 8 0 < nI n
    · have d2 : ¬ nI n ≤ mo.1.2 8 0 := Int32.not_le.mpr d
      refine ⟨0, ?_, fun h => by omega, fun h => by omega, fun _ => ?_, fun h => by omega, fun h => by omega⟩
      · simp only [fX12_sells, e24, e30, i24, i30, cl24, cl30, ew, en, q1, q5, q4, d2, sB2 2 q3, ↓reduceIte, Option.bind_some, or_self, or_false, false_or, or_true, true_or, and_true, true_and, and_false, false_and, not_true_eq_false, not_false_eq_true, pz_10, pz_01, eq_self]
      · rw [s0, if_pos d]
    · have d2 : nI n ≤ mo.1.2 8 0 := pz_nlt d
      refine ⟨1, ?_, fun h => by omega, fun h => by omega, fun _ => ?_, fun h => by omega, fun h => by omega⟩
      · simp only [fX12_sells, e24, e30, i24, i30, cl24, cl30, ew, en, q1, q5, q4, d2, sA1 2, ↓reduceIte, Option.bind_some, or_self, or_false, false_or, or_true, true_or, and_true, true_and, and_false, false_and, not_true_eq_false, not_false_eq_true, pz_10, pz_01, eq_self]
      · rw [s0, if_neg d]
  · have q1 : ¬ nI 3 = 1 := by decide
    have q5 : ¬ nI 3 = 5 := by decide
    have q4 : ¬ nI 3 = 4 := by decide
    by_cases d : mo.1.2 8 0 < nI n
    · have d2 : ¬ nI n ≤ mo.1.2 8 0 := Int32.not_le.mpr d
      obtain ⟨b, i1, i2⟩ := pz_sC N hN h hL hk hp hi N 0 (by omega) (by omega)
      rw [z0] at i1 i2
      refine ⟨if b then 1 else 0, ?_, fun h => by omega, fun h => by omega, fun h => by omega, fun _ => ?_, fun h => by omega⟩
      · rw [show (3 : Int32) = nI 3 from rfl] at i2
        cases b
        · simp only [fX12_sells, e24, e30, i24, i30, cl24, cl30, ew, en, q1, q5, q4, d2, i2, Bool.false_eq_true, ↓reduceIte, Option.bind_some, or_self, or_false, false_or, or_true, true_or, and_true, true_and, and_false, false_and, not_true_eq_false, not_false_eq_true, pz_10, pz_01, eq_self]
        · simp only [fX12_sells, e24, e30, i24, i30, cl24, cl30, ew, en, q1, q5, q4, d2, i2, ↓reduceIte, Option.bind_some, or_self, or_false, false_or, or_true, true_or, and_true, true_and, and_false, false_and, not_true_eq_false, not_false_eq_true, pz_10, pz_01, eq_self]
      · cases b
        · simp only [fX10_sells, s0, d, fX10_isAnotherAboutTo, i1, Bool.false_eq_true, Sum.elim_inl, ↓reduceIte, Option.bind_some, or_self, or_false, false_or, or_true, true_or, and_true, true_and, and_false, false_and, not_true_eq_false, not_false_eq_true, pz_10, pz_01, eq_self]
        · simp only [fX10_sells, s0, d, fX10_isAnotherAboutTo, i1, Sum.elim_inr, ↓reduceIte, Option.bind_some, or_self, or_false, false_or, or_true, true_or, and_true, true_and, and_false, false_and, not_true_eq_false, not_false_eq_true, pz_10, pz_01, eq_self]
    · have d2 : nI n ≤ mo.1.2 8 0 := pz_nlt d
      refine ⟨1, ?_, fun h => by omega, fun h => by omega, fun h => by omega, fun _ => ?_, fun h => by omega⟩
      · simp only [fX12_sells, e24, e30, i24, i30, cl24, cl30, ew, en, q1, q5, d2, sA1 3, ↓reduceIte, Option.bind_some, or_self, or_false, false_or, or_true, true_or, and_true, true_and, and_false, false_and, not_true_eq_false, not_false_eq_true, pz_10, pz_01, eq_self]
      · simp only [fX10_sells, s0, d, ↓reduceIte, Option.bind_some, or_self, or_false, false_or, or_true, true_or, and_true, true_and, and_false, false_and, not_true_eq_false, not_false_eq_true, pz_10, pz_01, eq_self]
  · have q1 : ¬ nI 4 = 1 := by decide
    have q5 : ¬ nI 4 = 5 := by decide
    have q3 : ¬ nI 4 = 3 := by decide
    have q4 : (nI 4 = 4) = True := eq_true rfl
    have e29 : (29 : Int32) + (8 : Int32) * nI k + nI p = nI (29 + 8 * k + p) := by rw [show (29 : Int32) = nI 29 from rfl, show (8 : Int32) = nI 8 from rfl, pk_mul, nI_add, nI_add]
    have i29 := pz_ni (show 29 + 8 * k + p < 77 by omega) (by omega)
    have cl29 := nI_clamp (show 29 + 8 * k + p < 2 ^ 31 by omega)
    have ct := pz_cnt N h hL hk hp
    by_cases d : mo.1.2 8 0 < nI n
    · have d2 : ¬ nI n ≤ mo.1.2 8 0 := Int32.not_le.mpr d
      by_cases d3 : mo.1.2 8 (29 + 8 * k + p) = 1
      · refine ⟨1, ?_, fun h => by omega, fun h => by omega, fun h => by omega, fun h => by omega, fun _ => ?_⟩
        · simp only [fX12_sells, e24, e30, e29, i24, i30, i29, cl24, cl30, cl29, ew, en, q1, q5, q4, d2, d3, sA4 4, ↓reduceIte, Option.bind_some, or_self, or_false, false_or, or_true, true_or, and_true, true_and, and_false, false_and, not_true_eq_false, not_false_eq_true, pz_10, pz_01, eq_self]
        · simp only [fX1_sells, s0, d, hi, ct, d3, ↓reduceIte, Option.bind_some, or_self, or_false, false_or, or_true, true_or, and_true, true_and, and_false, false_and, not_true_eq_false, not_false_eq_true, pz_10, pz_01, eq_self]
      · refine ⟨0, ?_, fun h => by omega, fun h => by omega, fun h => by omega, fun h => by omega, fun _ => ?_⟩
        · simp only [fX12_sells, e24, e30, e29, i24, i30, i29, cl24, cl30, cl29, ew, en, q1, q5, q4, d2, d3, sB3 4 q3, ↓reduceIte, Option.bind_some, or_self, or_false, false_or, or_true, true_or, and_true, true_and, and_false, false_and, not_true_eq_false, not_false_eq_true, pz_10, pz_01, eq_self]
        · simp only [fX1_sells, s0, d, hi, ct, d3, ↓reduceIte, Option.bind_some, or_self, or_false, false_or, or_true, true_or, and_true, true_and, and_false, false_and, not_true_eq_false, not_false_eq_true, pz_10, pz_01, eq_self]
    · have d2 : nI n ≤ mo.1.2 8 0 := pz_nlt d
      refine ⟨1, ?_, fun h => by omega, fun h => by omega, fun h => by omega, fun h => by omega, fun _ => ?_⟩
      · simp only [fX12_sells, e24, e30, i24, i30, cl24, cl30, ew, en, q1, q5, d2, sA1 4, ↓reduceIte, Option.bind_some, or_self, or_false, false_or, or_true, true_or, and_true, true_and, and_false, false_and, not_true_eq_false, not_false_eq_true, pz_10, pz_01, eq_self]
      · simp only [fX1_sells, s0, d, ↓reduceIte, Option.bind_some, or_self, or_false, false_or, or_true, true_or, and_true, true_and, and_false, false_and, not_true_eq_false, not_false_eq_true, pz_10, pz_01, eq_self]
  · have q1 : ¬ nI 5 = 1 := by decide
    have q5 : (nI 5 = 5) = True := eq_true rfl
    refine ⟨0, ?_, fun h => by omega, fun _ => rfl, fun h => by omega, fun h => by omega, fun h => by omega⟩
    simp only [fX12_sells, e24, i24, cl24, ew, q1, q5, ↓reduceIte, Option.bind_some, or_self, or_false, false_or, or_true, true_or, and_true, true_and, and_false, false_and, not_true_eq_false, not_false_eq_true]
