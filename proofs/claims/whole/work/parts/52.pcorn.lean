/-! THE PURE LAYER: corner -/
def pz_sub (b : Nat → Bool) : Nat → List Nat
  | 0 => []
  | k + 1 => if b k then pz_sub b k ++ [k] else pz_sub b k
theorem pz_sub_l (b : Nat → Bool) {a : Nat} (ha : b a = false) : ∀ k, (pz_sub b k).length ≤ k ∧ (a < k → (pz_sub b k).length + 1 ≤ k) := by
  intro k
  induction k with
  | zero => exact ⟨Nat.le_refl _, fun h => by omega⟩
  | succ k ih =>
    unfold pz_sub
    by_cases c : b k = true
    · rw [if_pos c, List.length_append, List.length_singleton]
      refine ⟨by omega, fun h => ?_⟩
      have : a ≠ k := by rintro rfl; rw [ha] at c; cases c
      have := ih.2 (by omega)
      omega
    · rw [if_neg c]
      exact ⟨by omega, fun h => by omega⟩
theorem pz_app {l : List Nat} {k i : Nat} (hi : i < (l ++ [k]).length) : (l ++ [k]).getD i 0 = if i = l.length then k else l.getD i 0 := by
  rw [List.length_append, List.length_singleton] at hi
  rw [List.getD_eq_getElem?_getD, List.getD_eq_getElem?_getD]
  by_cases c : i = l.length
  · subst c
    rw [if_pos rfl, List.getElem?_append_right (Nat.le_refl _), Nat.sub_self]
    rfl
  · rw [if_neg c, List.getElem?_append_left (by omega)]
theorem pz_sub_6 (b : Nat → Bool) : ∀ k, pz_in6 (pz_sub b k) k := by
  intro k
  induction k with
  | zero => intro i hi; exact absurd hi (Nat.not_lt_zero _)
  | succ k ih =>
    unfold pz_sub
    by_cases c : b k = true
    · rw [if_pos c]
      intro i hi
      rw [pz_app hi]
      split
      · omega
      · have : i < (pz_sub b k).length := by
          rw [List.length_append, List.length_singleton] at hi
          omega
        exact Nat.lt_succ_of_lt (ih i this)
    · rw [if_neg c]
      exact fun i hi => Nat.lt_succ_of_lt (ih i hi)
theorem pz_sub_e (b : Nat → Bool) (K : Nat) : ∀ d, pz_sub (fun k => b k && decide (k < K)) (K + d) = pz_sub b K := by
  intro d
  induction d with
  | zero =>
    have : ∀ j, j ≤ K → pz_sub (fun k => b k && decide (k < K)) j = pz_sub b j := by
      intro j
      induction j with
      | zero => intro _; rfl
      | succ j ih =>
        intro hj
        unfold pz_sub
        have : decide (j < K) = true := decide_eq_true (by omega)
        simp only [this, Bool.and_true]
        rw [ih (by omega)]
    exact this K (Nat.le_refl _)
  | succ d ih =>
    rw [← Nat.add_assoc, pz_sub]
    have : decide (K + d < K) = false := decide_eq_false (by omega)
    simp only [this, Bool.and_false, Bool.false_eq_true, ↓reduceIte]
    exact ih
theorem pz_sub_b (b : Nat → Bool) : pz_sub b 6 = pz_b6 (b 0) (b 1) (b 2) (b 3) (b 4) (b 5) := by
  unfold pz_sub pz_sub pz_sub pz_sub pz_sub pz_sub pz_sub pz_b6
  cases b 0 <;> cases b 1 <;> cases b 2 <;> cases b 3 <;> cases b 4 <;> cases b 5 <;> rfl
theorem pz_sub_f (b : Nat → Bool) {K a : Nat} (hK : K ≤ 6) (ha : b a = false) (haK : a < K) : pz_fin 119 (pz_sub b K) = true := by
  obtain ⟨c, hc⟩ : ∃ c : Nat → Bool, c = (fun k => b k && decide (k < K)) := ⟨_, rfl⟩
  have e := pz_sub_e b K (6 - K)
  rw [← hc, show K + (6 - K) = 6 by omega] at e
  have h : c a = false := by
    rw [hc]
    show (b a && decide (a < K)) = false
    rw [ha]
    rfl
  rw [← e, pz_sub_b]
  apply pz_120
  rcases (show a = 0 ∨ a = 1 ∨ a = 2 ∨ a = 3 ∨ a = 4 ∨ a = 5 by omega) with rfl | rfl | rfl | rfl | rfl | rfl <;> simp [h]
theorem pz_ar_app {F : Nat → Int32} {l : List Nat} (h : pz_ar F l) (k : Nat) : pz_ar (upd F l.length (nI k)) (l ++ [k]) := by
  intro i hi
  rw [pz_app hi]
  by_cases c : i = l.length
  · rw [if_pos c, c]
    exact pk_us
  · rw [if_neg c, pk_un c]
    rw [List.length_append, List.length_singleton] at hi
    exact h i (by omega)
theorem pz_pAi (o : zOS) (f g : Nat → Int32) (u v : Int32) : zpi (zpA (zpi (zpA o 4 f) 1 u) 4 g) 1 v = zpi (zpA o 4 g) 1 v := pz_piA o 4 1 f g u v
set_option maxHeartbeats 4000000 in
set_option maxRecDepth 100000 in
theorem pz_lst (N : Nat) {KL : List Nat} {kc : Nat → zKC} {L : zLS} {m0 : zMS} {f0 : zOS} {K P Q T a p : Nat} (y x4 : Int32) (hA : pz_A (m0.1.2 5) K P Q T) (hL : pz_L KL kc L (m0.1.2 5) (m0.1.2 8) K P Q) (ha : a < K) (hp : p < P) : ∀ n k F X, k ≤ K → K - k < n → pz_ar F (pz_sub (fun k => decide (k ≠ a) && decide (¬ m0.1.2 8 (29 + 8 * k + p) ≤ 0)) k) → pz_ar X (pz_sub (fun k => decide (k ≠ a) && decide (¬ m0.1.2 8 (29 + 8 * k + p) ≤ 0)) k) → ∃ F' X', fX2_listBuyable_l1 N L (nI a) (nI p) n (nI k) (zpi (zpA f0 4 F) 1 (nI (pz_sub (fun k => decide (k ≠ a) && decide (¬ m0.1.2 8 (29 + 8 * k + p) ≤ 0)) k).length)) = some (zpi (zpA f0 4 F') 1 (nI (pz_sub (fun k => decide (k ≠ a) && decide (¬ m0.1.2 8 (29 + 8 * k + p) ≤ 0)) K).length)) ∧ fX12_corner_l1 N (nI a) (nI p) y x4 n (nI (pz_sub (fun k => decide (k ≠ a) && decide (¬ m0.1.2 8 (29 + 8 * k + p) ≤ 0)) k).length) (nI k) (zMA m0 22 X) = some (nI (pz_sub (fun k => decide (k ≠ a) && decide (¬ m0.1.2 8 (29 + 8 * k + p) ≤ 0)) K).length, zMA m0 22 X') ∧ pz_ar F' (pz_sub (fun k => decide (k ≠ a) && decide (¬ m0.1.2 8 (29 + 8 * k + p) ≤ 0)) K) ∧ pz_ar X' (pz_sub (fun k => decide (k ≠ a) && decide (¬ m0.1.2 8 (29 + 8 * k + p) ≤ 0)) K) := by
  obtain ⟨⟨hK1, hK6, hP8, hQ1, hQ8, hT1, hT60⟩, hA3, hA4, hA2, hA1, hA0⟩ := pz_A_n hA
  have k3 : (3 : Int32).toNatClampNeg = 3 := rfl
  have l6 : L.1.1 6 = nI K := hL.1.trans hA3
  generalize hb : (fun k => decide (k ≠ a) && decide (¬ m0.1.2 8 (29 + 8 * k + p) ≤ 0)) = b at *
  have bb : ∀ k, b k = (decide (k ≠ a) && decide (¬ m0.1.2 8 (29 + 8 * k + p) ≤ 0)) := fun k => by rw [← hb]
  have ba : b a = false := by rw [bb]; simp
  intro n
  induction n with
  | zero => intro k F X h1 h2; omega
  | succ n ih =>
    intro k F X h1 h2 hF hX
    rcases Nat.lt_or_ge k K with h3 | h3
    · have g1 : ¬ nI K ≤ nI k := nI_ge h3 (by omega)
      have hlen := (pz_sub_l b ba k).1
      have g2 : ¬ (6 : Int32) ≤ nI (pz_sub b k).length := nI_ge (b := 6) (by omega) (by omega)
      have fl : (zpi (zpA f0 4 F) 1 (nI (pz_sub b k).length)).1 1 = nI (pz_sub b k).length := rfl
      have m3 : (zMA m0 22 X).1.2 5 3 = nI K := hA3
      have ek : nI k = nI a ↔ k = a := nI_eq (by omega) (by omega)
      have ct := pz_cnt N hA hL h3 hp
      have hs := pz_has N (zMA m0 22 X) (show k < 6 by omega) (show p < 8 by omega)
      rw [show (zMA m0 22 X).1.2 8 = m0.1.2 8 from rfl] at hs
      by_cases c : k = a
      · have bk : b k = false := by rw [c]; exact ba
        have es : pz_sub b (k + 1) = pz_sub b k := by rw [pz_sub, bk]; rfl
        obtain ⟨F', X', e1, e2, e3⟩ := ih (k + 1) F X (by omega) (by omega) (by rw [es]; exact hF) (by rw [es]; exact hX)
        rw [es] at e1 e2
        refine ⟨F', X', ?_, ?_, e3⟩
        · rw [fX2_listBuyable_l1, l6, if_neg g1, fl, if_neg g2, if_pos (ek.mpr c), nI_1]
          exact e1
        · rw [fX12_corner_l1, k3, m3, if_neg g1, if_pos (ek.mpr c), nI_1]
          exact e2
      · by_cases d : m0.1.2 8 (29 + 8 * k + p) ≤ 0
        · have bk : b k = false := by rw [bb]; simp [d]
          have es : pz_sub b (k + 1) = pz_sub b k := by rw [pz_sub, bk]; rfl
          obtain ⟨F', X', e1, e2, e3⟩ := ih (k + 1) F X (by omega) (by omega) (by rw [es]; exact hF) (by rw [es]; exact hX)
          rw [es] at e1 e2
          refine ⟨F', X', ?_, ?_, e3⟩
          · simp only [fX2_listBuyable_l1, l6, g1, fl, g2, ek, c, ct, d, nI_1, ↓reduceIte, Option.bind_some, or_self, or_false, false_or, or_true, true_or, and_true, true_and, and_false, false_and, not_true_eq_false, not_false_eq_true]
            exact e1
          · simp only [fX12_corner_l1, k3, m3, g1, ek, c, hs, d, nI_1, ↓reduceIte, Option.bind_some, or_self, or_false, false_or, or_true, true_or, and_true, true_and, and_false, false_and, not_true_eq_false, not_false_eq_true, pz_10, pz_01, eq_self]
            exact e2
        · have bk : b k = true := by rw [bb]; simp [c, d]
          have es : pz_sub b (k + 1) = pz_sub b k ++ [k] := by rw [pz_sub, bk]; rfl
          have el : (pz_sub b (k + 1)).length = (pz_sub b k).length + 1 := by rw [es, List.length_append]; rfl
          have i6 := pz_ni (show (pz_sub b k).length < 6 by omega) (by omega)
          have cl := nI_clamp (show (pz_sub b k).length < 2 ^ 31 by omega)
          obtain ⟨F', X', e1, e2, e3⟩ := ih (k + 1) (upd F (pz_sub b k).length (nI k)) (upd X (pz_sub b k).length (nI k)) (by omega) (by omega) (by rw [es]; exact pz_ar_app hF k) (by rw [es]; exact pz_ar_app hX k)
          rw [el] at e1 e2
          refine ⟨F', X', ?_, ?_, e3⟩
          · have f4 : (zpi (zpA f0 4 F) 1 (nI (pz_sub b k).length)).2 4 = F := rfl
            simp only [fX2_listBuyable_l1, l6, g1, fl, g2, ek, c, ct, d, i6, cl, f4, pz_pAi, nI_1, ↓reduceIte, Option.bind_some, or_self, or_false, false_or, or_true, true_or, and_true, true_and, and_false, false_and, not_true_eq_false, not_false_eq_true]
            exact e1
          · simp only [fX12_corner_l1, k3, m3, g1, ek, c, hs, d, i6, cl, pz_MA, pz_MAA, nI_1, ↓reduceIte, Option.bind_some, or_self, or_false, false_or, or_true, true_or, and_true, true_and, and_false, false_and, not_true_eq_false, not_false_eq_true, pz_10, pz_01, eq_self]
            exact e2
    · have e : k = K := by omega
      subst e
      have g1 : nI k ≤ nI k := Int32.le_refl _
      refine ⟨F, X, ?_, ?_, hF, hX⟩
      · simp only [fX2_listBuyable_l1, l6, g1, ↓reduceIte, Option.bind_some, or_self, or_false, false_or, or_true, true_or, and_true, true_and, and_false, false_and, not_true_eq_false, not_false_eq_true]
      · have m3 : (zMA m0 22 X).1.2 5 3 = nI k := hA3
        simp only [fX12_corner_l1, k3, m3, g1, ↓reduceIte, Option.bind_some, or_self, or_false, false_or, or_true, true_or, and_true, true_and, and_false, false_and, not_true_eq_false, not_false_eq_true]
theorem pz_term {w i n : Nat} (hw : w ≤ 9999) (hi : i ≤ 5) (hn : n ≤ 60) : ∃ t, t ≤ 24000 ∧ (nI w * ((100 : Int32) + (10 : Int32) * nI i)) * ((100 : Int32) + nI n) / (10000 : Int32) = nI t := by
  have e1 : (100 : Int32) + (10 : Int32) * nI i = nI (100 + 10 * i) := by rw [show (100 : Int32) = nI 100 from rfl, show (10 : Int32) = nI 10 from rfl, pk_mul, nI_add]
  have e2 : (100 : Int32) + nI n = nI (100 + n) := nI_add 100 n
  have b1 : w * (100 + 10 * i) ≤ 9999 * 150 := Nat.mul_le_mul hw (by omega)
  have b2 : w * (100 + 10 * i) * (100 + n) ≤ 9999 * 150 * 160 := Nat.mul_le_mul b1 (by omega)
  refine ⟨w * (100 + 10 * i) * (100 + n) / 10000, by omega, ?_⟩
  rw [e1, e2, pk_mul, pk_mul, show (10000 : Int32) = nI 10000 from rfl, pk_div (by omega) (by omega) (by omega)]
set_option maxHeartbeats 4000000 in
set_option maxRecDepth 100000 in
theorem pz_sm (N : Nat) {KL : List Nat} {kc : Nat → zKC} {L : zLS} {A H : Nat → Int32} {ft : zOS} {mo : zMS} {l : List Nat} {K P Q T w : Nat} (hA : pz_A A K P Q T) (hL : pz_L KL kc L A H K P Q) (hm : mo.1.2 5 = A) (hl : l.length ≤ 5) (h6 : pz_in6 l K) (ha : pz_ar (ft.2 4) l) (hb : pz_ar (mo.1.2 22) l) (hc : ft.1 1 = nI l.length) (hw : w ≤ 9999) : ∀ n i S, i ≤ l.length → l.length - i < n → S ≤ 24000 * i → ∃ S', S' ≤ 24000 * l.length ∧ fX2_sumOf_l1 N KL kc ft L (nI w) n (nI S) (nI i) = some (nI S') ∧ fX12_askedSum_l1 N mo (nI l.length) (nI w) n (nI S) (nI i) = some (nI S') := by
  have hn := (pz_A_n hA).1
  intro n
  induction n with
  | zero => intro i S h1 h2; omega
  | succ n ih =>
    intro i S h1 h2 hS
    rcases Nat.lt_or_ge i l.length with h3 | h3
    · have g1 : ¬ nI l.length ≤ nI i := nI_ge h3 (by omega)
      have g2 : ¬ (6 : Int32) ≤ nI i := nI_ge (b := 6) (by omega) (by omega)
      have i6 := pz_ni (show i < 6 by omega) (by omega)
      have cl := nI_clamp (show i < 2 ^ 31 by omega)
      have ho := h6 i h3
      have vo := ha i h3
      have wo := hb i h3
      generalize l.getD i 0 = o at *
      obtain ⟨a, w', m, c, ea, w1, w5, n60, c1, c9, e1, e2, e3, hkc, hz, hat⟩ := pz_kAt N hA hL ho
      have hz' : (¬ zkd KL kc a) = False := eq_false (fun h => h hz)
      have hm2 : (kc a).2.2.1 = nI m := by rw [hkc]
      have e30 : (30 : Int32) + nI o = nI (30 + o) := nI_add 30 o
      have i30 := pz_ni (show 30 + o < 58 by omega) (by omega)
      have cl30 := nI_clamp (show 30 + o < 2 ^ 31 by omega)
      have m30 : mo.1.2 5 (30 + o) = nI m := by rw [hm]; exact e2
      obtain ⟨t, ht, et⟩ := pz_term hw (show i ≤ 5 by omega) n60
      obtain ⟨S', f0, f1, f2⟩ := ih (i + 1) (S + t) (by omega) (by omega) (by omega)
      refine ⟨S', f0, ?_, ?_⟩
      · simp only [fX2_sumOf_l1, hc, g1, g2, i6, cl, vo, hat, hz', hm2, et, nI_add, nI_1, ↓reduceIte, Option.bind_some, or_self, or_false, false_or, or_true, true_or, and_true, true_and, and_false, false_and, not_true_eq_false, not_false_eq_true]
        exact f1
      · simp only [fX12_askedSum_l1, g1, i6, cl, wo, e30, i30, cl30, m30, et, nI_add, nI_1, ↓reduceIte, Option.bind_some, or_self, or_false, false_or, or_true, true_or, and_true, true_and, and_false, false_and, not_true_eq_false, not_false_eq_true]
        exact f2
    · have e : i = l.length := by omega
      subst e
      have g1 : nI l.length ≤ nI l.length := Int32.le_refl _
      exact ⟨S, hS, by simp only [fX2_sumOf_l1, hc, g1, ↓reduceIte, Option.bind_some, or_self, or_false, false_or, or_true, true_or, and_true, true_and, and_false, false_and, not_true_eq_false, not_false_eq_true], by simp only [fX12_askedSum_l1, g1, ↓reduceIte, Option.bind_some, or_self, or_false, false_or, or_true, true_or, and_true, true_and, and_false, false_and, not_true_eq_false, not_false_eq_true]⟩
theorem pz_mm (m0 : zMS) (X Y X' : Nat → Int32) : zMA (zMA (zMA m0 22 X) 23 Y) 22 X' = zMA (zMA m0 22 X') 23 Y := by
  have : va_up (va_up (va_up m0.1.2 22 X) 23 Y) 22 X' = va_up (va_up m0.1.2 22 X') 23 Y := by
    funext j
    unfold va_up
    by_cases c : j = 22
    · rw [if_pos c, if_neg (by omega), if_pos c]
    · rw [if_neg c]
      by_cases d : j = 23
      · rw [if_pos d, if_pos d]
      · rw [if_neg d, if_neg c, if_neg d, if_neg c]
  show ((m0.1.1, va_up (va_up (va_up m0.1.2 22 X) 23 Y) 22 X'), m0.2) = _
  rw [this]
  rfl
set_option maxHeartbeats 4000000 in
set_option maxRecDepth 100000 in
theorem pz_c4 (N : Nat) {m0 : zMS} {X : Nat → Int32} {x4 x6 x7 x9 : Int32} {m : Nat} (hm : m ≤ 5) (h : x7 < 0 ∨ ¬ x7 ≤ x9) : ∀ n k Y, k ≤ m → m - k < n → ∃ Y', fX12_corner_l4 N x4 (nI m) x6 x7 x9 n (nI k) (zMA (zMA m0 22 X) 23 Y) = some (zMA (zMA m0 22 X) 23 Y') ∧ (∀ q, k ≤ q → q < m → Y' q = X q) ∧ (∀ q, q < k → Y' q = Y q) := by
  intro n
  induction n with
  | zero => intro k Y h1 h2; omega
  | succ n ih =>
    intro k Y h1 h2
    rcases Nat.lt_or_ge k m with h3 | h3
    · have g1 : ¬ nI m ≤ nI k := nI_ge h3 (by omega)
      have i6 := pz_ni (show k < 6 by omega) (by omega)
      have cl := nI_clamp (show k < 2 ^ 31 by omega)
      have m22 : (zMA (zMA m0 22 X) 23 Y).1.2 22 = X := rfl
      have m23 : (zMA (zMA m0 22 X) 23 Y).1.2 23 = Y := rfl
      obtain ⟨Y', e1, e2, e3⟩ := ih (k + 1) (upd Y k (X k)) (by omega) (by omega)
      refine ⟨Y', ?_, ?_, ?_⟩
      · by_cases c : x7 < 0
        · simp only [fX12_corner_l4, g1, c, i6, cl, m22, m23, pz_MAA, nI_1, ↓reduceIte, Option.bind_some, or_self, or_false, false_or, or_true, true_or, and_true, true_and, and_false, false_and, not_true_eq_false, not_false_eq_true]
          exact e1
        · have d := h.resolve_left c
          simp only [fX12_corner_l4, g1, c, d, i6, cl, m22, m23, pz_MAA, nI_1, ↓reduceIte, Option.bind_some, or_self, or_false, false_or, or_true, true_or, and_true, true_and, and_false, false_and, not_true_eq_false, not_false_eq_true]
          exact e1
      · intro q q1 q2
        rcases Nat.eq_or_lt_of_le q1 with q3 | q3
        · subst q3
          rw [e3 _ (by omega)]
          exact pk_us
        · exact e2 q q3 q2
      · intro q hq
        rw [e3 q (by omega)]
        exact pk_un (by omega)
    · have e : k = m := by omega
      subst e
      have g1 : nI k ≤ nI k := Int32.le_refl _
      exact ⟨Y, by simp only [fX12_corner_l4, g1, ↓reduceIte, Option.bind_some, or_self, or_false, false_or, or_true, true_or, and_true, true_and, and_false, false_and, not_true_eq_false, not_false_eq_true], fun q q1 q2 => by omega, fun _ _ => rfl⟩
set_option maxHeartbeats 4000000 in
set_option maxRecDepth 100000 in
theorem pz_cl (N : Nat) (hN : 200000 ≤ N) {KL : List Nat} {kc : Nat → zKC} {L : zLS} {m0 : zMS} {K P Q T w m : Nat} (x4 : Int32) (hA : pz_A (m0.1.2 5) K P Q T) (hL : pz_L KL kc L (m0.1.2 5) (m0.1.2 8) K P Q) (hw : w ≤ 9999) (hm : m ≤ 5) : ∀ J l n1 n2 i (ft : zOS) X Y S, pz_fin J l = true → l.length = m → pz_in6 l K → J < n1 → J + 1 < n2 → i + J < 120 → pz_ar (ft.2 4) l → ft.1 1 = nI m → ft.1 0 = nI S → S ≤ 120000 → (∀ q, q < m → ft.2 5 q = Y q) → pz_ar X l → ∃ ft' X' Y' S', fX2_findCorner_l1 N KL kc L (nI w) n1 (nI i) ft = some ft' ∧ ((fX12_nextRow N (zMA (zMA m0 22 X) 23 Y) (nI m)).bind fun u => fX12_corner_l3 N x4 (nI m) (nI w) n2 (nI S) u.1 u.2) = some (nI S', zMA (zMA m0 22 X') 23 Y') ∧ ft'.1 0 = nI S' ∧ ft'.1 1 = nI m ∧ ∀ q, q < m → ft'.2 5 q = Y' q := by
  have hn := (pz_A_n hA).1
  intro J
  induction J with
  | zero =>
    intro l n1 n2 i ft X Y S hf hlm h6 hn1 hn2 hi ha hc hs hS hY hX
    obtain ⟨n1, rfl⟩ : ∃ i, n1 = i + 1 := ⟨n1 - 1, by omega⟩
    obtain ⟨n2, rfl⟩ : ∃ i, n2 = i + 1 := ⟨n2 - 1, by omega⟩
    have g1 : ¬ (120 : Int32) ≤ nI i := nI_ge (b := 120) (by omega) (by omega)
    rcases pz_step N hN (mo := zMA (zMA m0 22 X) 23 Y) (by omega) (fun i hi => Nat.lt_of_lt_of_le (h6 i hi) hn.2.1) ha hX (by rw [hlm]; exact hc) with ⟨-, e2, e3⟩ | ⟨l', F', X', e1, -⟩
    · rw [hlm] at e3
      refine ⟨ft, X, Y, S, ?_, ?_, hs, hc, hY⟩
      · simp only [fX2_findCorner_l1, g1, e2, ↓reduceIte, Option.bind_some, or_self, or_false, false_or, or_true, true_or, and_true, true_and, and_false, false_and, not_true_eq_false, not_false_eq_true, pz_10, pz_01, eq_self]
      · simp only [e3, fX12_corner_l3, ↓reduceIte, Option.bind_some, or_self, or_false, false_or, or_true, true_or, and_true, true_and, and_false, false_and, not_true_eq_false, not_false_eq_true, pz_10, pz_01, eq_self]
    · unfold pz_fin at hf
      rw [e1] at hf
      cases hf
  | succ J ih =>
    intro l n1 n2 i ft X Y S hf hlm h6 hn1 hn2 hi ha hc hs hS hY hX
    obtain ⟨n1, rfl⟩ : ∃ i, n1 = i + 1 := ⟨n1 - 1, by omega⟩
    obtain ⟨n2, rfl⟩ : ∃ i, n2 = i + 1 := ⟨n2 - 1, by omega⟩
    have g1 : ¬ (120 : Int32) ≤ nI i := nI_ge (b := 120) (by omega) (by omega)
    rcases pz_step N hN (mo := zMA (zMA m0 22 X) 23 Y) (by omega) (fun i hi => Nat.lt_of_lt_of_le (h6 i hi) hn.2.1) ha hX (by rw [hlm]; exact hc) with ⟨-, e2, e3⟩ | ⟨l', F', X', e1, e2, e3, e4, e5⟩
    · rw [hlm] at e3
      refine ⟨ft, X, Y, S, ?_, ?_, hs, hc, hY⟩
      · simp only [fX2_findCorner_l1, g1, e2, ↓reduceIte, Option.bind_some, or_self, or_false, false_or, or_true, true_or, and_true, true_and, and_false, false_and, not_true_eq_false, not_false_eq_true, pz_10, pz_01, eq_self]
      · simp only [e3, fX12_corner_l3, ↓reduceIte, Option.bind_some, or_self, or_false, false_or, or_true, true_or, and_true, true_and, and_false, false_and, not_true_eq_false, not_false_eq_true, pz_10, pz_01, eq_self]
    · rw [hlm, pz_mm] at e3
      obtain ⟨s1, s2⟩ := pz_next_s (K := K) e1
      have hl' : l'.length = m := s1.trans hlm
      have h6' := s2 h6
      have hf' : pz_fin J l' = true := by
        unfold pz_fin at hf
        rw [e1] at hf
        exact hf
      have F4 : pz_ar ((zpA ft 4 F').2 4) l' := by
        rw [show (zpA ft 4 F').2 4 = F' from rfl]
        exact e4
      obtain ⟨S1, b0, b1, b2⟩ := pz_sm N (mo := zMA (zMA m0 22 X') 23 Y) (l := l') hA hL rfl (by omega) h6' F4 e5 (by rw [hl']; exact hc) hw N 0 0 (by omega) (by omega) (by omega)
      rw [show nI 0 = (0 : Int32) from rfl] at b1 b2
      rw [hl'] at b0 b2
      have b3 : fX2_sumOf N KL kc (zpA ft 4 F') L (nI w) = some (nI S1) := by unfold fX2_sumOf; rw [b1]; rfl
      have b4 : fX12_askedSum N (zMA (zMA m0 22 X') 23 Y) (nI m) (nI w) = some (nI S1) := by unfold fX12_askedSum; rw [b2]; rfl
      have q : nI S ≤ nI S1 ↔ S ≤ S1 := nI_leI (by omega) (by omega)
      have hs' : (zpA ft 4 F').1 0 = nI S := hs
      have ns : ¬ nI S < 0 := nI_pos (by omega)
      by_cases c : S ≤ S1
      · obtain ⟨ft', X2, Y2, S2, f1, f2, f3⟩ := ih l' n1 n2 (i + 1) (zpA ft 4 F') X' Y S hf' hl' h6' (by omega) (by omega) (by omega) F4 hc hs hS hY e5
        refine ⟨ft', X2, Y2, S2, ?_, ?_, f3⟩
        · simp only [fX2_findCorner_l1, g1, e2, b3, hs', q, c, nI_1, ↓reduceIte, Option.bind_some, or_self, or_false, false_or, or_true, true_or, and_true, true_and, and_false, false_and, not_true_eq_false, not_false_eq_true, pz_10, pz_01, eq_self]
          exact f1
        · have e6 : fX12_corner_l4 N x4 (nI m) (nI w) (nI S) (nI S1) N 0 (zMA (zMA m0 22 X') 23 Y) = some (zMA (zMA m0 22 X') 23 Y) := by
            obtain ⟨M, rfl⟩ : ∃ i, N = i + 1 := ⟨N - 1, by omega⟩
            rw [fX12_corner_l4]
            split
            · rfl
            · rw [if_pos (q.mpr c)]
          simp only [e3, fX12_corner_l3, b4, e6, ns, q, c, ↓reduceIte, Option.bind_some, or_self, or_false, false_or, or_true, true_or, and_true, true_and, and_false, false_and, not_true_eq_false, not_false_eq_true, pz_10, pz_01, eq_self]
          exact f2
      · obtain ⟨Y1, e6, e7, -⟩ := pz_c4 N (m0 := m0) (X := X') (x4 := x4) (x6 := nI w) (x7 := nI S) (x9 := nI S1) hm (.inr (fun h => c (q.mp h))) N 0 Y (by omega) (by omega)
        rw [show nI 0 = (0 : Int32) from rfl] at e6
        have ek : fX2_keepOrder N (zpA ft 4 F') (nI S1) = some (zpA (zpi (zpA ft 4 F') 0 (nI S1)) 5 (va_cpy F' ((zpA ft 4 F').2 5) 0 0 6)) := rfl
        obtain ⟨ft', X2, Y2, S2, f1, f2, f3⟩ := ih l' n1 n2 (i + 1) (zpA (zpi (zpA ft 4 F') 0 (nI S1)) 5 (va_cpy F' ((zpA ft 4 F').2 5) 0 0 6)) X' Y1 S1 hf' hl' h6' (by omega) (by omega) (by omega) F4 hc rfl (by omega) (by
          intro k hk
          rw [e7 k (by omega) hk]
          refine (pz_cpy0' F' _ (show k < 6 by omega)).trans ?_
          rw [e4 k (by omega), e5 k (by omega)]) e5
        refine ⟨ft', X2, Y2, S2, ?_, ?_, f3⟩
        · simp only [fX2_findCorner_l1, g1, e2, b3, hs', q, c, ek, nI_1, ↓reduceIte, Option.bind_some, or_self, or_false, false_or, or_true, true_or, and_true, true_and, and_false, false_and, not_true_eq_false, not_false_eq_true, pz_10, pz_01, eq_self]
          exact f1
        · simp only [e3, fX12_corner_l3, b4, e6, ns, q, c, ↓reduceIte, Option.bind_some, or_self, or_false, false_or, or_true, true_or, and_true, true_and, and_false, false_and, not_true_eq_false, not_false_eq_true, pz_10, pz_01, eq_self]
          exact f2
set_option maxHeartbeats 4000000 in
set_option maxRecDepth 100000 in
theorem ps_corner {N : Nat} (hN : 200000 ≤ N) : zStep_corner N pz_Inv := by
  intro KL kc on rw rd ft tr la mo hI x1 x2 x3 x4
  obtain ⟨K, P, hK, hP, l6, a3, l7, a4, hh⟩ := pz_KP N (mo := zMi mo 0 0) hI.2.2.2.2.2.1
  rcases pz_kpr N (KL := KL) (kc := kc) hK l6 a3 x1 with ⟨h1, h2, -⟩ | ⟨a, ha, rfl, h1, h2⟩
  · simp only [fX11_corner, fX12_corner, h1, h2, ↓reduceIte, Option.bind_some, or_self, or_false, false_or, or_true, true_or, and_true, true_and, and_false, false_and, not_true_eq_false, not_false_eq_true, pz_10, pz_01, eq_self]
    exact ⟨_, _, rfl, rfl, rfl, pz_ro 0 _ hI⟩
  obtain ⟨h7, -, Q, T, hA, hH, hL, hl⟩ := hh (.inl (by omega))
  rcases pz_pcs N hP l7 a4 x2 with ⟨p1, p2⟩ | ⟨p, hp, rfl, p1, p2⟩
  · simp only [fX11_corner, fX12_corner, h1, h2, p1, p2, ↓reduceIte, Option.bind_some, or_self, or_false, false_or, or_true, true_or, and_true, true_and, and_false, false_and, not_true_eq_false, not_false_eq_true, pz_10, pz_01, eq_self]
    exact ⟨_, _, rfl, rfl, rfl, pz_ro 0 _ hI⟩
  rcases pz_wi N x3 0 999 with h3 | ⟨h3, -⟩
  · simp only [fX11_corner, fX12_corner, h1, h2, p1, p2, pz_yr, h3, ↓reduceIte, Option.bind_some, or_self, or_false, false_or, or_true, true_or, and_true, true_and, and_false, false_and, not_true_eq_false, not_false_eq_true, pz_10, pz_01, eq_self]
    exact ⟨_, _, rfl, rfl, rfl, pz_ro 0 _ hI⟩
  by_cases h4 : ¬ (-1 : Int32) ≤ x4
  · simp only [fX11_corner, fX12_corner, h1, h2, p1, p2, pz_yr, h3, h4, ↓reduceIte, Option.bind_some, or_self, or_false, false_or, or_true, true_or, and_true, true_and, and_false, false_and, not_true_eq_false, not_false_eq_true, pz_10, pz_01, eq_self]
    exact ⟨_, _, rfl, rfl, rfl, pz_ro 0 _ hI⟩
  have h4 := Decidable.not_not.mp h4
  have ct := pz_cnt N hA hL ha hp
  have hs := pz_has N (zMi mo 0 0) (show a < 6 by omega) (show p < 8 by omega)
  by_cases d : (zMi mo 0 0).1.2 8 (29 + 8 * a + p) ≤ 0
  · simp only [fX11_corner, fX12_corner, h1, h2, p1, p2, pz_yr, h3, h4, ct, hs, pz_i1, d, ↓reduceIte, Option.bind_some, or_self, or_false, false_or, or_true, true_or, and_true, true_and, and_false, false_and, not_true_eq_false, not_false_eq_true, pz_10, pz_01, eq_self]
    exact ⟨_, _, rfl, rfl, rfl, pz_ro 0 _ hI⟩
  have z0 : nI 0 = (0 : Int32) := rfl
  obtain ⟨F, X, e1, e2, e3, e4⟩ := pz_lst N (f0 := ft) x3 x4 hA hL ha hp N 0 (ft.2 4) ((zMi mo 0 0).1.2 22) (by omega) (by omega) (fun i hi => absurd hi (Nat.not_lt_zero _)) (fun i hi => absurd hi (Nat.not_lt_zero _))
  rw [z0, pz_MA0] at e2
  rw [z0] at e1
  generalize hb : (fun k => decide (k ≠ a) && decide (¬ (zMi mo 0 0).1.2 8 (29 + 8 * k + p) ≤ 0)) = b at *
  have ba : b a = false := by rw [← hb]; simp
  have hlen : (pz_sub b K).length ≤ 5 := by have := (pz_sub_l b ba K).2 ha; omega
  have hfin := pz_sub_f b (K := K) (by omega) ba ha
  have h6 := pz_sub_6 b K
  generalize hlst : pz_sub b K = l at *
  obtain ⟨v, -, -, w1, w2'⟩ := pz_had N hN (mo := zMA (zMi mo 0 0) 22 X) hA hL hp
  have w1 : fX4_hadBy N (la on.2.1) (nI p) = some (v + (zMi mo 0 0).1.2 8 (13 + p)) := w1
  have w2' : fX12_hadBy N (zMA (zMi mo 0 0) 22 X) (nI p) = some (v + (zMi mo 0 0).1.2 8 (13 + p)) := w2'
  obtain ⟨wv, hwv, ew⟩ := pz_wo_r hA x3 (v + (zMi mo 0 0).1.2 8 (13 + p))
  obtain ⟨u1, -⟩ := pz_worth N hN hA hL x3 (v + (zMi mo 0 0).1.2 8 (13 + p))
  obtain ⟨-, u2⟩ := pz_worth N hN (mo := zMA (zMi mo 0 0) 22 X) hA hL x3 (v + (zMi mo 0 0).1.2 8 (13 + p))
  rw [show pz_wo ((zMA (zMi mo 0 0) 22 X).1.2 5) Q x3 (v + (zMi mo 0 0).1.2 8 (13 + p)) = nI wv from ew] at u2
  rw [ew] at u1
  have eft : fX2_listBuyable N ft (la on.2.1) (nI a) (nI p) = some (zpi (zpA ft 4 F) 1 (nI l.length)) := by
    unfold fX2_listBuyable
    have : zpi (zpA ft 4 (ft.2 4)) 1 (nI (pz_sub b 0).length) = zpi ft 1 0 := by
      show zpi (zpA ft 4 (ft.2 4)) 1 0 = zpi ft 1 0
      show (upd ft.1 1 0, va_up ft.2 4 (ft.2 4)) = _
      rw [pz_upA]
      rfl
    rw [this] at e1
    rw [e1]
    rfl
  have F4 : pz_ar ((zpi (zpA ft 4 F) 1 (nI l.length)).2 4) l := by
    rw [show (zpi (zpA ft 4 F) 1 (nI l.length)).2 4 = F from rfl]
    exact e3
  have X4 : pz_ar ((zMA (zMi mo 0 0) 22 X).1.2 22) l := by rw [pz_MA]; exact e4
  obtain ⟨S0, b0, b1, b2⟩ := pz_sm N (mo := zMA (zMi mo 0 0) 22 X) hA hL rfl hlen h6 F4 X4 rfl hwv N 0 0 (by omega) (by omega) (by omega)
  rw [z0] at b1 b2
  obtain ⟨Y1, y1, y2, -⟩ := pz_c4 N (m0 := zMi mo 0 0) (X := X) (x4 := x4) (x6 := nI wv) (x7 := -1) (x9 := nI S0) hlen (.inl (by decide)) N 0 ((zMi mo 0 0).1.2 23) (by omega) (by omega)
  have y0 : zMA (zMA (zMi mo 0 0) 22 X) 23 ((zMi mo 0 0).1.2 23) = zMA (zMi mo 0 0) 22 X := pz_MA0 (zMA (zMi mo 0 0) 22 X) 23
  rw [z0, y0] at y1
  obtain ⟨M, hM⟩ : ∃ M, N = M + 1 := ⟨N - 1, by omega⟩
  obtain ⟨ft', X', Y', S', f1, f2, f3, f4, f5⟩ := pz_cl N hN x4 hA hL hwv hlen 119 l N M 0 (zpA (zpi (zpi (zpA ft 4 F) 1 (nI l.length)) 0 (nI S0)) 5 (va_cpy F ((zpi (zpA ft 4 F) 1 (nI l.length)).2 5) 0 0 6)) X Y1 S0 hfin rfl h6 (by omega) (by omega) (by omega) F4 rfl rfl (by omega) (by
    intro k hk
    rw [y2 k (by omega) hk]
    refine (pz_cpy0' F _ (show k < 6 by omega)).trans ?_
    rw [e3 k hk, e4 k hk]) e4
  rw [z0] at f1
  have efc : fX2_findCorner N KL kc ft (la on.2.1) (nI a) (nI p) x3 = some ft' := by
    have ek : fX2_keepOrder N (zpi (zpA ft 4 F) 1 (nI l.length)) (nI S0) = some (zpA (zpi (zpi (zpA ft 4 F) 1 (nI l.length)) 0 (nI S0)) 5 (va_cpy F ((zpi (zpA ft 4 F) 1 (nI l.length)).2 5) 0 0 6)) := rfl
    have es : fX2_sumOf N KL kc (zpi (zpA ft 4 F) 1 (nI l.length)) (la on.2.1) (nI wv) = some (nI S0) := by unfold fX2_sumOf; rw [b1]; rfl
    simp only [fX2_findCorner, w1, u1, eft, es, ek, f1, ↓reduceIte, Option.bind_some, or_self, or_false, false_or, or_true, true_or, and_true, true_and, and_false, false_and, not_true_eq_false, not_false_eq_true]
  have er3 : fX12_corner_l3 N x4 (nI l.length) (nI wv) N (-1) 1 (zMA (zMi mo 0 0) 22 X) = some (nI S', zMA (zMA (zMi mo 0 0) 22 X') 23 Y') := by
    have es : fX12_askedSum N (zMA (zMi mo 0 0) 22 X) (nI l.length) (nI wv) = some (nI S0) := by unfold fX12_askedSum; rw [b2]; rfl
    conv => lhs; rw [hM]
    rw [fX12_corner_l3, if_neg (show ¬ (1 : Int32) = 0 by decide), ← hM, es, Option.bind_some, y1, Option.bind_some, if_pos (show (-1 : Int32) < 0 by decide)]
    exact f2
  have fin : pz_Inv KL kc on rw rd ft' tr (va_up la on.2.1 (la on.2.1)) (zMA (zMA (zMi mo 0 0) 22 X') 23 Y') := by
    rw [pz_upA]
    exact hI
  have e2' : fX12_corner_l1 N (nI a) (nI p) x3 x4 N 0 0 (zMi mo 0 0) = some (nI l.length, zMA (zMi mo 0 0) 22 X) := e2
  by_cases c : x4 = -1
  · have c2 : ¬ 0 ≤ x4 := by rw [c]; decide
    simp only [fX11_corner, fX12_corner, h1, h2, p1, p2, pz_yr, h3, h4, ct, hs, pz_i1, d, efc, e2', w2', u2, er3, ↓reduceIte, Option.bind_some, or_self, or_false, false_or, or_true, true_or, and_true, true_and, and_false, false_and, not_true_eq_false, not_false_eq_true, pz_10, pz_01, eq_self]
    rw [if_pos c, if_neg c2]
    exact ⟨_, _, rfl, rfl, f3, fin⟩
  · have c2 : 0 ≤ x4 := by
      rw [Int32.le_iff_toInt_le] at h4 ⊢
      have a1 : (-1 : Int32).toInt = -1 := rfl
      have a2 : (0 : Int32).toInt = 0 := rfl
      have a3 : x4.toInt ≠ -1 := fun h => c (Int32.toInt_inj.mp h)
      omega
    obtain ⟨j, hj, rfl⟩ := nI_of (Int32.not_lt.mpr c2)
    simp only [fX11_corner, fX12_corner, h1, h2, p1, p2, pz_yr, h3, h4, ct, hs, pz_i1, d, efc, e2', w2', u2, er3, fX2_boughtAt, f4, ↓reduceIte, Option.bind_some, or_self, or_false, false_or, or_true, true_or, and_true, true_and, and_false, false_and, not_true_eq_false, not_false_eq_true, pz_10, pz_01, eq_self]
    rw [if_neg c, if_pos c2, if_neg (Int32.not_lt.mpr c2)]
    by_cases g : l.length ≤ j
    · have g2 : nI l.length ≤ nI j := nI_le g (by omega)
      simp only [g2, ↓reduceIte, Option.bind_some, or_self, or_false, false_or, or_true, true_or, and_true, true_and, and_false, false_and, not_true_eq_false, not_false_eq_true]
      exact ⟨_, _, rfl, rfl, rfl, fin⟩
    · have g2 : ¬ nI l.length ≤ nI j := nI_ge (by omega) (by omega)
      have g3 : ¬ (6 : Int32) ≤ nI j := nI_ge (b := 6) (by omega) (by omega)
      have g4 := pz_ni (show j < 6 by omega) (by omega)
      simp only [g2, g3, g4, nI_clamp hj, ↓reduceIte, Option.bind_some, or_self, or_false, false_or, or_true, true_or, and_true, true_and, and_false, false_and, not_true_eq_false, not_false_eq_true]
      exact ⟨_, _, rfl, rfl, f5 j (by omega), fin⟩
