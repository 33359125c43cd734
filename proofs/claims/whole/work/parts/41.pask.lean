/-! THE PURE LAYER: kind, as, ask -/
theorem pz_zko {w : Nat} (h1 : 1 ≤ w) (h5 : w ≤ 5) : zko (nI w) = 0 ∨ zko (nI w) = 1 ∨ zko (nI w) = 4 ∨ zko (nI w) = 7 ∨ zko (nI w) = 9 := by
  rcases (show w = 1 ∨ w = 2 ∨ w = 3 ∨ w = 4 ∨ w = 5 by omega) with rfl | rfl | rfl | rfl | rfl
  · exact .inr (.inr (.inl rfl))
  · exact .inl rfl
  · exact .inr (.inr (.inr (.inr rfl)))
  · exact .inr (.inl rfl)
  · exact .inr (.inr (.inr (.inl rfl)))
theorem pz_A_k {A : Nat → Int32} {K P Q T : Nat} (h : pz_A A K P Q T) : ∀ k, k < K → ∃ w n c, 1 ≤ w ∧ w ≤ 5 ∧ n ≤ 60 ∧ 1 ≤ c ∧ c ≤ 9 ∧ A (24 + k) = nI w ∧ A (30 + k) = nI n ∧ A (36 + k) = nI c := h.2.2.2.2.2.2.2.2.2.2.2.2.2.2.2.2.2
set_option maxHeartbeats 4000000 in
set_option maxRecDepth 100000 in
theorem pz_kAt (N : Nat) {KL : List Nat} {kc : Nat → zKC} {L : zLS} {A H : Nat → Int32} {K P Q T : Nat} (h : pz_A A K P Q T) (hL : pz_L KL kc L A H K P Q) {k : Nat} (hk : k < K) : ∃ a w n c, L.2 k = some a ∧ 1 ≤ w ∧ w ≤ 5 ∧ n ≤ 60 ∧ 1 ≤ c ∧ c ≤ 9 ∧ A (24 + k) = nI w ∧ A (30 + k) = nI n ∧ A (36 + k) = nI c ∧ kc a = (zko (nI w), nI k, nI n, nI c) ∧ zkd KL kc a ∧ fX4_keeperAt N KL kc L (nI k) = some (some a) := by
  obtain ⟨⟨hK1, hK6, hP8, hQ1, hQ8, hT1, hT60⟩, hA3, hA4, hA2, hA1, hA0⟩ := pz_A_n h
  obtain ⟨w, n, c, h1, h2, h3, h4, h5, e1, e2, e3⟩ := pz_A_k h k hk
  obtain ⟨a, ea, hm, hc⟩ := hL.2.2.2.2.2.2.2.2.2.2.2.2 k hk
  rw [e1, e2, e3] at hc
  have hz : zkd KL kc a := ⟨hm, by rw [hc]; exact pz_zko h1 h2⟩
  refine ⟨a, w, n, c, ea, h1, h2, h3, h4, h5, e1, e2, e3, hc, hz, ?_⟩
  have l6 : L.1.1 6 = nI K := hL.1.trans hA3
  have g1 : ¬ nI k < 0 := nI_pos (by omega)
  have g2 : ¬ nI K ≤ nI k := nI_ge hk (by omega)
  have g3 : ¬ (6 : Int32) ≤ nI k := nI_ge (b := 6) (by omega) (by omega)
  have g4 : ¬ 6 ≤ k := by omega
  have hz' : (¬ zkd KL kc a) = False := eq_false (fun h => h hz)
  simp only [fX4_keeperAt, l6, g1, g2, g3, g4, nI_clamp (show k < 2 ^ 31 by omega), ea, hz', ↓reduceIte, Option.bind_some, or_self, or_false, false_or, or_true, true_or, and_true, true_and, and_false, false_and, not_true_eq_false, not_false_eq_true]
set_option maxHeartbeats 4000000 in
set_option maxRecDepth 100000 in
theorem ps_kind {N : Nat} : zStep_kind N pz_Inv := by
  intro KL kc on rw rd ft tr la mo hI x1
  obtain ⟨K, P, hK, hP, l6, a3, l7, a4, hh⟩ := pz_KP N (mo := zMi mo 0 0) hI.2.2.2.2.2.1
  rcases pz_kpr N (KL := KL) (kc := kc) hK l6 a3 x1 with ⟨h1, h2, h3⟩ | ⟨k, hk, rfl, h1, h2⟩
  · simp only [fX11_kind, fX12_kind, h2, h3, ↓reduceIte, Option.bind_some, or_self, or_false, false_or, or_true, true_or, and_true, true_and, and_false, false_and, not_true_eq_false, not_false_eq_true, pz_10, pz_01, eq_self]
    exact ⟨_, _, rfl, rfl, rfl, pz_ro 0 _ hI⟩
  obtain ⟨h7, -, Q, T, hA, hH, hL, hl⟩ := hh (.inl (by omega))
  obtain ⟨a, w, n, c, ea, w1, w5, n60, c1, c9, e1, e2, e3, hc, hz, hat⟩ := pz_kAt N hA hL hk
  have e1' : mo.1.2 5 (24 + k) = nI w := e1
  have hz' : (¬ zkd KL kc a) = False := eq_false (fun h => h hz)
  have e : (24 : Int32) + nI k = nI (24 + k) := by rw [show (24 : Int32) = nI 24 from rfl, nI_add]
  have i := pz_ni (show 24 + k < 58 by omega) (by omega)
  have cl := nI_clamp (show 24 + k < 2 ^ 31 by omega)
  have er : fX12_kind N mo (nI k) = some (nI w, zMi mo 0 0) := by
    simp only [fX12_kind, h2, e, i, cl, e1', ↓reduceIte, Option.bind_some, or_self, or_false, false_or, or_true, true_or, and_true, true_and, and_false, false_and, not_true_eq_false, not_false_eq_true, pz_10, pz_01, eq_self]
  have ec : fX11_kind N KL kc (la on.2.1) (nI k) = some (nI w) := by
    rcases (show w = 1 ∨ w = 2 ∨ w = 3 ∨ w = 4 ∨ w = 5 by omega) with rfl | rfl | rfl | rfl | rfl
    · have hk1 : (kc a).1 = 4 := by rw [hc]; rfl
      simp only [fX11_kind, hat, hz', hk1, fX5_kindTold, ↓reduceIte, Option.bind_some, or_self, or_false, false_or, or_true, true_or, and_true, true_and, and_false, false_and, not_true_eq_false, not_false_eq_true]; rfl
    · have hk1 : (kc a).1 = 0 := by rw [hc]; rfl
      simp only [fX11_kind, hat, hz', hk1, fX0_kindTold, ↓reduceIte, Option.bind_some, or_self, or_false, false_or, or_true, true_or, and_true, true_and, and_false, false_and, not_true_eq_false, not_false_eq_true]; rfl
    · have hk1 : (kc a).1 = 9 := by rw [hc]; rfl
      simp only [fX11_kind, hat, hz', hk1, fX10_kindTold, ↓reduceIte, Option.bind_some, or_self, or_false, false_or, or_true, true_or, and_true, true_and, and_false, false_and, not_true_eq_false, not_false_eq_true]; rfl
    · have hk1 : (kc a).1 = 1 := by rw [hc]; rfl
      simp only [fX11_kind, hat, hz', hk1, fX1_kindTold, ↓reduceIte, Option.bind_some, or_self, or_false, false_or, or_true, true_or, and_true, true_and, and_false, false_and, not_true_eq_false, not_false_eq_true]; rfl
    · have hk1 : (kc a).1 = 7 := by rw [hc]; rfl
      simp only [fX11_kind, hat, hz', hk1, fX8_kindTold, ↓reduceIte, Option.bind_some, or_self, or_false, false_or, or_true, true_or, and_true, true_and, and_false, false_and, not_true_eq_false, not_false_eq_true]; rfl
  rw [ec, er]
  exact ⟨_, _, rfl, rfl, rfl, pz_ro 0 _ hI⟩
/-- is a keeper of way w one of kind f -/
def pz_is (w f : Nat) : Bool := f == 0 || w == f || (f == 2 && (w == 3 || w == 4))
set_option maxHeartbeats 4000000 in
set_option maxRecDepth 100000 in
theorem pz_isR (N : Nat) {w f : Nat} (w1 : 1 ≤ w) (w5 : w ≤ 5) (hf : f ≤ 5) : fX12_isOf N (nI w) (nI f) = some (if pz_is w f then 1 else 0) := by
  rcases (show w = 1 ∨ w = 2 ∨ w = 3 ∨ w = 4 ∨ w = 5 by omega) with rfl | rfl | rfl | rfl | rfl <;>
  rcases (show f = 0 ∨ f = 1 ∨ f = 2 ∨ f = 3 ∨ f = 4 ∨ f = 5 by omega) with rfl | rfl | rfl | rfl | rfl | rfl <;> rfl
set_option maxHeartbeats 4000000 in
set_option maxRecDepth 100000 in
theorem pz_isC (N : Nat) {kc : Nat → zKC} {a w f : Nat} (w1 : 1 ≤ w) (w5 : w ≤ 5) (hf : f ≤ 5) (hc : (kc a).1 = zko (nI w)) : fX3_isOf N kc a (nI f) = some (if f = 0 ∨ w = f then 1 else 0) := by
  unfold fX3_isOf
  rw [hc]
  rcases (show w = 1 ∨ w = 2 ∨ w = 3 ∨ w = 4 ∨ w = 5 by omega) with rfl | rfl | rfl | rfl | rfl <;>
  rcases (show f = 0 ∨ f = 1 ∨ f = 2 ∨ f = 3 ∨ f = 4 ∨ f = 5 by omega) with rfl | rfl | rfl | rfl | rfl | rfl <;> rfl
set_option maxHeartbeats 4000000 in
set_option maxRecDepth 100000 in
theorem pz_isC0 (N : Nat) {kc : Nat → zKC} {a w f : Nat} (w1 : 1 ≤ w) (w5 : w ≤ 5) (hf : f ≤ 5) (hc : (kc a).1 = zko (nI w)) : fX0_isOf N kc a (nI f) = some (if f = 2 ∨ f = 0 ∨ w = f then 1 else 0) := by
  unfold fX0_isOf
  rw [pz_isC N w1 w5 hf hc]
  rcases (show w = 1 ∨ w = 2 ∨ w = 3 ∨ w = 4 ∨ w = 5 by omega) with rfl | rfl | rfl | rfl | rfl <;>
  rcases (show f = 0 ∨ f = 1 ∨ f = 2 ∨ f = 3 ∨ f = 4 ∨ f = 5 by omega) with rfl | rfl | rfl | rfl | rfl | rfl <;> rfl
theorem pz_if10 {α : Type} (c : Prop) [Decidable c] (x y : α) : (if (if c then (1 : Int32) else 0) = 0 then x else y) = if c then y else x := by
  by_cases h : c
  · rw [if_pos h, if_pos h, if_neg (by decide)]
  · rw [if_neg h, if_neg h, if_pos rfl]
set_option maxHeartbeats 4000000 in
set_option maxRecDepth 100000 in
theorem ps_as {N : Nat} : zStep_as N pz_Inv := by
  intro KL kc on rw rd ft tr la mo hI x1 x2
  obtain ⟨K, P, hK, hP, l6, a3, l7, a4, hh⟩ := pz_KP N (mo := zMi mo 0 0) hI.2.2.2.2.2.1
  rcases pz_kpr N (KL := KL) (kc := kc) hK l6 a3 x1 with ⟨h1, h2, h3⟩ | ⟨k, hk, rfl, h1, h2⟩
  · simp only [fX11_as, fX12_as, h2, h3, ↓reduceIte, Option.bind_some, or_self, or_false, false_or, or_true, true_or, and_true, true_and, and_false, false_and, not_true_eq_false, not_false_eq_true, pz_10, pz_01, eq_self]
    exact ⟨_, _, rfl, rfl, rfl, pz_ro 0 _ hI⟩
  obtain ⟨h7, -, Q, T, hA, hH, hL, hl⟩ := hh (.inl (by omega))
  obtain ⟨a, w, n, c, ea, w1, w5, n60, c1, c9, e1, e2, e3, hc, hz, hat⟩ := pz_kAt N hA hL hk
  have e1' : mo.1.2 5 (24 + k) = nI w := e1
  have hz' : (¬ zkd KL kc a) = False := eq_false (fun h => h hz)
  rcases pz_wiN N x2 0 5 0 5 with h4 | ⟨h4, f, -, hf, rfl⟩
  · simp only [fX11_as, fX12_as, h2, hat, hz', pz_in_0_5, h4, ↓reduceIte, Option.bind_some, or_self, or_false, false_or, or_true, true_or, and_true, true_and, and_false, false_and, not_true_eq_false, not_false_eq_true, pz_10, pz_01, eq_self]
    exact ⟨_, _, rfl, rfl, rfl, pz_ro 0 _ hI⟩
  have e : (24 : Int32) + nI k = nI (24 + k) := by rw [show (24 : Int32) = nI 24 from rfl, nI_add]
  have i := pz_ni (show 24 + k < 58 by omega) (by omega)
  have cl := nI_clamp (show 24 + k < 2 ^ 31 by omega)
  have hc1 : (kc a).1 = zko (nI w) := by rw [hc]
  have q1 := pz_isC N w1 w5 hf hc1
  have q2 := pz_isC0 N w1 w5 hf hc1
  have q3 := pz_isR N w1 w5 hf
  have er : fX12_as N mo (nI k) (nI f) = some (if pz_is w f then (nI k, zMi (zMi mo 0 0) 1 0) else ((-1000010 : Int32) - 3, zMi (zMi (zMi mo 0 0) 1 0) 1 3)) := by
    simp only [fX12_as, fX12_finding, h2, e, i, cl, e1', pz_in_0_5, h4, q3, pz_if10, ↓reduceIte, Option.bind_some, or_self, or_false, false_or, or_true, true_or, and_true, true_and, and_false, false_and, not_true_eq_false, not_false_eq_true, pz_10, pz_01, eq_self]
    split <;> rfl
  have ec : fX11_as N KL kc on (la on.2.1) (nI k) (nI f) = some (if pz_is w f then (nI k, zNf on 0) else ((-1000010 : Int32) - 3, zNf on 3)) := by
    rcases (show w = 1 ∨ w = 2 ∨ w = 3 ∨ w = 4 ∨ w = 5 by omega) with rfl | rfl | rfl | rfl | rfl
    · have hk1 : (kc a).1 = 4 := by rw [hc]; rfl
      simp only [fX11_as, fX11_found, fX11_fine, hat, hz', h4, hk1, q1, ↓reduceIte, Option.bind_some, or_self, or_false, false_or, or_true, true_or, and_true, true_and, and_false, false_and, not_true_eq_false, not_false_eq_true, pz_10, pz_01, eq_self]
      rcases (show f = 0 ∨ f = 1 ∨ f = 2 ∨ f = 3 ∨ f = 4 ∨ f = 5 by omega) with rfl | rfl | rfl | rfl | rfl | rfl <;> rfl
    · have hk1 : (kc a).1 = 0 := by rw [hc]; rfl
      simp only [fX11_as, fX11_found, fX11_fine, hat, hz', h4, hk1, q2, ↓reduceIte, Option.bind_some, or_self, or_false, false_or, or_true, true_or, and_true, true_and, and_false, false_and, not_true_eq_false, not_false_eq_true, pz_10, pz_01, eq_self]
      rcases (show f = 0 ∨ f = 1 ∨ f = 2 ∨ f = 3 ∨ f = 4 ∨ f = 5 by omega) with rfl | rfl | rfl | rfl | rfl | rfl <;> rfl
    · have hk1 : (kc a).1 = 9 := by rw [hc]; rfl
      simp only [fX11_as, fX11_found, fX11_fine, hat, hz', h4, hk1, q2, ↓reduceIte, Option.bind_some, or_self, or_false, false_or, or_true, true_or, and_true, true_and, and_false, false_and, not_true_eq_false, not_false_eq_true, pz_10, pz_01, eq_self]
      rcases (show f = 0 ∨ f = 1 ∨ f = 2 ∨ f = 3 ∨ f = 4 ∨ f = 5 by omega) with rfl | rfl | rfl | rfl | rfl | rfl <;> rfl
    · have hk1 : (kc a).1 = 1 := by rw [hc]; rfl
      simp only [fX11_as, fX11_found, fX11_fine, hat, hz', h4, hk1, q2, ↓reduceIte, Option.bind_some, or_self, or_false, false_or, or_true, true_or, and_true, true_and, and_false, false_and, not_true_eq_false, not_false_eq_true, pz_10, pz_01, eq_self]
      rcases (show f = 0 ∨ f = 1 ∨ f = 2 ∨ f = 3 ∨ f = 4 ∨ f = 5 by omega) with rfl | rfl | rfl | rfl | rfl | rfl <;> rfl
    · have hk1 : (kc a).1 = 7 := by rw [hc]; rfl
      simp only [fX11_as, fX11_found, fX11_fine, hat, hz', h4, hk1, q1, ↓reduceIte, Option.bind_some, or_self, or_false, false_or, or_true, true_or, and_true, true_and, and_false, false_and, not_true_eq_false, not_false_eq_true, pz_10, pz_01, eq_self]
      rcases (show f = 0 ∨ f = 1 ∨ f = 2 ∨ f = 3 ∨ f = 4 ∨ f = 5 by omega) with rfl | rfl | rfl | rfl | rfl | rfl <;> rfl
  rw [ec, er, pz_upA]
  cases pz_is w f
  · exact ⟨_, _, rfl, rfl, rfl, pz_st 3 hI⟩
  · exact ⟨_, _, rfl, rfl, rfl, ⟨hI.1, rfl, hI.2.2⟩⟩
def pz_trc (tr : zOS) (mo m0 : zMS) : Prop := pz_tr tr mo ∧ ∃ g v, mo = zMi (zMA m0 29 g) 30 v
set_option maxHeartbeats 4000000 in
set_option maxRecDepth 100000 in
theorem pz_lv (N : Nat) {tr : zOS} {mo m0 : zMS} (h : pz_trc tr mo m0) (x : Int32) : ∃ tr' mo', fX9_leave N tr x = some tr' ∧ fX12_began N mo x = some mo' ∧ pz_trc tr' mo' m0 := by
  obtain ⟨⟨n, hn, h1, h2, h3⟩, g, v, rfl⟩ := h
  rcases Nat.lt_or_ge n 16 with c | c
  · have g1 : ¬ nI n < 0 := nI_pos (by omega)
    have g2 : ¬ (16 : Int32) ≤ nI n := nI_ge (b := 16) c (by omega)
    have g3 : ¬ 16 ≤ n := by omega
    have cl := nI_clamp (show n < 2 ^ 31 by omega)
    refine ⟨zpi (zpA tr 0 (upd (tr.2 0) n x)) 1 (nI (n + 1)), zMi (zMA m0 29 (upd g n x)) 30 (nI (n + 1)), ?_, ?_, ⟨n + 1, by omega, rfl, rfl, ?_⟩, _, _, rfl⟩
    · simp only [fX9_leave, h1, g1, g2, g3, cl, nI_1, ↓reduceIte, Option.bind_some, or_self, or_false, false_or, or_true, true_or, and_true, true_and, and_false, false_and, not_true_eq_false, not_false_eq_true]
    · simp only [fX12_began, h2, g1, g2, g3, cl, nI_1, ↓reduceIte, Option.bind_some, or_self, or_false, false_or, or_true, true_or, and_true, true_and, and_false, false_and, not_true_eq_false, not_false_eq_true]
      rw [pz_MiA]
      rfl
    · intro i hi
      show upd (tr.2 0) n x i = upd g n x i
      unfold upd
      split
      · rfl
      · exact h3 i (by omega)
  · have e : n = 16 := by omega
    subst e
    have g1 : ¬ nI 16 < 0 := nI_pos (by omega)
    have g2 : (16 : Int32) ≤ nI 16 := Int32.le_refl _
    refine ⟨tr, zMi (zMA m0 29 g) 30 v, ?_, ?_, ⟨16, hn, h1, h2, h3⟩, _, _, rfl⟩
    · simp only [fX9_leave, h1, g1, g2, ↓reduceIte, Option.bind_some, or_self, or_false, false_or, or_true, true_or, and_true, true_and, and_false, false_and, not_true_eq_false, not_false_eq_true]
    · simp only [fX12_began, h2, g2, ↓reduceIte, Option.bind_some, or_self, or_false, false_or, or_true, true_or, and_true, true_and, and_false, false_and, not_true_eq_false, not_false_eq_true]
