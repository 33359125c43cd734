/-! THE PURE LAYER: fit: the years, a set -/
theorem pz_Cp_y {KL : List Nat} {kc : Nat → zKC} {A : Nat → Int32} {K Q t y : Nat} {u : Int32} {s : Nat → Option Nat} {L : zLS} (hK : K ≤ 6) (h : pz_Cp KL kc A K Q t y u s L) : pz_Cp KL kc A K Q t (y + 1) u s (zLi L 8 (L.1.1 8 + 1)) := by
  obtain ⟨H, hL, hy, hh⟩ := h
  refine ⟨upd H 0 (nI (y + 1)), ?_, pk_us, fun o ho => ?_⟩
  · obtain ⟨l6, l7, l2, l1, l0, l4, l5, l8, l9, l12, l15, l14, lk⟩ := hL
    refine ⟨l6, l7, l2, l1, l0, l4, l5, ?_, l9, ?_, ?_, ?_, lk⟩
    · rw [pk_us]
      show L.1.1 8 + 1 = nI (y + 1)
      rw [l8, hy, nI_1]
    · intro p hp
      rw [pk_un (by omega), pk_un (by omega)]
      exact l12 p hp
    · intro k hk
      rw [pk_un (by omega), pk_un (by omega)]
      exact l15 k hk
    · intro k p hk hp
      rw [pk_un (by omega)]
      exact l14 k p hk hp
  · rw [pk_un (by omega), pk_un (by omega)]
    exact hh o ho
/-- what of the trial land stays from set to set -/
def pz_Lb (KL : List Nat) (kc : Nat → zKC) (L : zLS) (A : Nat → Int32) (K Q : Nat) : Prop := L.1.1 6 = A 3 ∧ L.1.1 2 = A 2 ∧ L.1.1 1 = A 1 ∧ L.1.1 0 = A 0 ∧ L.1.1 4 = A 6 ∧ L.1.1 5 = A 7 ∧ (∀ i, i < Q → L.1.2 9 i = A (8 + i) ∧ L.1.2 10 i = A (16 + i)) ∧ ∀ k, k < K → pz_kp KL kc L A k
theorem pz_Cp_b {KL : List Nat} {kc : Nat → zKC} {A : Nat → Int32} {K Q t y : Nat} {u : Int32} {s : Nat → Option Nat} {L : zLS} (hK : K ≤ 6) (hQ : Q ≤ 8) (h : pz_Cp KL kc A K Q t y u s L) : pz_Lb KL kc L A K Q := by
  obtain ⟨H, ⟨l6, l7, l2, l1, l0, l4, l5, l8, l9, l12, l15, l14, lk⟩, -⟩ := h
  have e : ∀ i, i ≠ 4 → i ≠ 50 → i ≠ 42 → pz_At A t u i = A i := fun i h1 h2 h3 => pz_At_o A t u h1 h2 h3
  refine ⟨l6.trans (e 3 (by omega) (by omega) (by omega)), l2.trans (e 2 (by omega) (by omega) (by omega)), l1.trans (e 1 (by omega) (by omega) (by omega)), l0.trans (e 0 (by omega) (by omega) (by omega)), l4.trans (e 6 (by omega) (by omega) (by omega)), l5.trans (e 7 (by omega) (by omega) (by omega)), ?_, ?_⟩
  · intro i hi
    have := l9 i hi
    rw [e (8 + i) (by omega) (by omega) (by omega), e (16 + i) (by omega) (by omega) (by omega)] at this
    exact this
  · intro k hk
    have := lk k hk
    unfold pz_kp at this
    rw [e (24 + k) (by omega) (by omega) (by omega), e (30 + k) (by omega) (by omega) (by omega), e (36 + k) (by omega) (by omega) (by omega)] at this
    exact this
def pz_mt (o : Option Nat) (y : Nat) : Prop := ∃ j, o = some j ∧ j ≤ y
set_option maxHeartbeats 4000000 in
set_option maxRecDepth 100000 in
theorem pz_hs (N : Nat) {KL : List Nat} {kc : Nat → zKC} {A : Nat → Int32} {K P Q T t y : Nat} {u : Int32} {s tt : Nat → Option Nat} {L : zLS} {ft : zOS} (hA : pz_A A K P Q T) (h : pz_Cp KL kc A K Q t y u s L) (hy : y ≤ 60) (h6 : ∀ k, k < K → ft.2 6 k = pz_ov (tt k)) (hb : pz_Sb tt) : ∀ n k, k ≤ K → K - k < n → (fX2_hasSoldJustSo_l1 N ft L (nI y) n (nI k) = some (Sum.inl ()) ∧ ∀ o, k ≤ o → o < K → (pz_mt (tt o) y ↔ s o ≠ none)) ∨ (fX2_hasSoldJustSo_l1 N ft L (nI y) n (nI k) = some (Sum.inr ()) ∧ ∃ o, o < K ∧ ¬ (pz_mt (tt o) y ↔ s o ≠ none)) := by
  have hn := (pz_A_n hA).1
  obtain ⟨l6, l7, l8, -⟩ := pz_Cp_l hA h
  obtain ⟨H, hL, hy0, hh⟩ := h
  have hA2 := pz_At_A (t := t) (u := u) hA
  intro n
  induction n with
  | zero => intro k h1 h2; omega
  | succ n ih =>
    intro k h1 h2
    rcases Nat.lt_or_ge k K with h3 | h3
    · have g1 : ¬ nI K ≤ nI k := nI_ge h3 (by omega)
      have g2 : ¬ (6 : Int32) ≤ nI k := nI_ge (b := 6) (by omega) (by omega)
      have i6 := pz_ni (show k < 6 by omega) (by omega)
      have cl := nI_clamp (show k < 2 ^ 31 by omega)
      have sb : fX4_soldBy N L (nI k) = some (if s k = none then 0 else 1) := by
        rw [(pz_es N hA2 hL h3).2, (hh k h3).1]
      have v := h6 k h3
      have neg := pz_ov_neg (fun y hy => hb k y hy)
      have ihk := ih (k + 1) (by omega) (by omega)
      have e10 : ¬ (1 : Int32) = 0 := by decide
      have e01 : ¬ (0 : Int32) = 1 := by decide
      -- both say the same of k, or not
      have yes : (pz_mt (tt k) y ↔ s k ≠ none) → fX2_hasSoldJustSo_l1 N ft L (nI y) (n + 1) (nI k) = fX2_hasSoldJustSo_l1 N ft L (nI y) n (nI (k + 1)) → (fX2_hasSoldJustSo_l1 N ft L (nI y) (n + 1) (nI k) = some (Sum.inl ()) ∧ ∀ o, k ≤ o → o < K → (pz_mt (tt o) y ↔ s o ≠ none)) ∨ (fX2_hasSoldJustSo_l1 N ft L (nI y) (n + 1) (nI k) = some (Sum.inr ()) ∧ ∃ o, o < K ∧ ¬ (pz_mt (tt o) y ↔ s o ≠ none)) := by
        intro hm he
        rw [he]
        rcases ihk with ⟨a, b⟩ | ⟨a, b⟩
        · refine .inl ⟨a, fun o o1 o2 => ?_⟩
          rcases Nat.eq_or_lt_of_le o1 with o3 | o3
          · subst o3; exact hm
          · exact b o o3 o2
        · exact .inr ⟨a, b⟩
      cases ht : tt k with
      | none =>
        rw [ht] at v
        have v : ft.2 6 k = -1 := v
        have c1 : (-1 : Int32) < 0 := by decide
        have nm : ¬ pz_mt none y := fun ⟨j, h, _⟩ => by cases h
        by_cases d : s k = none
        · refine yes (by rw [ht]; exact ⟨fun h => absurd h nm, fun h => absurd d h⟩) ?_
          simp only [fX2_hasSoldJustSo_l1, l6, g1, g2, i6, cl, v, c1, sb, d, e01, nI_1, ↓reduceIte, Option.bind_some, or_self, or_false, false_or, or_true, true_or, and_true, true_and, and_false, false_and, not_true_eq_false, not_false_eq_true]
        · refine .inr ⟨?_, k, h3, by rw [ht]; exact fun h => nm (h.mpr d)⟩
          simp only [fX2_hasSoldJustSo_l1, l6, g1, g2, i6, cl, v, c1, sb, d, ↓reduceIte, Option.bind_some, or_self, or_false, false_or, or_true, true_or, and_true, true_and, and_false, false_and, not_true_eq_false, not_false_eq_true]
      | some j =>
        rw [ht] at v
        have v : ft.2 6 k = nI j := v
        have j60 := hb k j ht
        have c1 : ¬ nI j < 0 := nI_pos (by omega)
        have q : nI y < nI j ↔ y < j := nI_ltI (by omega) (by omega)
        by_cases e : y < j
        · have nm : ¬ pz_mt (some j) y := fun ⟨j', h, h2⟩ => by cases h; omega
          by_cases d : s k = none
          · refine yes (by rw [ht]; exact ⟨fun h => absurd h nm, fun h => absurd d h⟩) ?_
            simp only [fX2_hasSoldJustSo_l1, l6, g1, g2, i6, cl, v, c1, q, e, sb, d, e01, nI_1, ↓reduceIte, Option.bind_some, or_self, or_false, false_or, or_true, true_or, and_true, true_and, and_false, false_and, not_true_eq_false, not_false_eq_true]
          · refine .inr ⟨?_, k, h3, by rw [ht]; exact fun h => nm (h.mpr d)⟩
            simp only [fX2_hasSoldJustSo_l1, l6, g1, g2, i6, cl, v, c1, q, e, sb, d, ↓reduceIte, Option.bind_some, or_self, or_false, false_or, or_true, true_or, and_true, true_and, and_false, false_and, not_true_eq_false, not_false_eq_true]
        · have hm : pz_mt (some j) y := ⟨j, rfl, by omega⟩
          by_cases d : s k = none
          · refine .inr ⟨?_, k, h3, by rw [ht]; exact fun h => (h.mp hm) d⟩
            simp only [fX2_hasSoldJustSo_l1, l6, g1, g2, i6, cl, v, c1, q, e, sb, d, e01, ↓reduceIte, Option.bind_some, or_self, or_false, false_or, or_true, true_or, and_true, true_and, and_false, false_and, not_true_eq_false, not_false_eq_true]
          · refine yes (by rw [ht]; exact ⟨fun _ => d, fun _ => hm⟩) ?_
            simp only [fX2_hasSoldJustSo_l1, l6, g1, g2, i6, cl, v, c1, q, e, sb, d, nI_1, ↓reduceIte, Option.bind_some, or_self, or_false, false_or, or_true, true_or, and_true, true_and, and_false, false_and, not_true_eq_false, not_false_eq_true]
    · have e : k = K := by omega
      subst e
      have g1 : nI k ≤ nI k := Int32.le_refl _
      refine .inl ⟨?_, fun o o1 o2 => by omega⟩
      simp only [fX2_hasSoldJustSo_l1, l6, g1, ↓reduceIte, Option.bind_some, or_self, or_false, false_or, or_true, true_or, and_true, true_and, and_false, false_and, not_true_eq_false, not_false_eq_true]
set_option maxHeartbeats 4000000 in
set_option maxRecDepth 100000 in
/-- the reference's years alone -/
theorem pz_ya (N : Nat) (hN : 200000 ≤ N) {KL : List Nat} {kc : Nat → zKC} {A : Nat → Int32} {K P Q T t : Nat} {u x2 : Int32} (hA : pz_A A K P Q T) (ht : t < 64) (hkp : ∀ k, k < K → ∃ a, kc a = (zko (A (24 + k)), nI k, A (30 + k), A (36 + k))) : ∀ n y (mo : zMS) (s : Nat → Option Nat), y ≤ T + 1 → T + 1 - y < n → mo.1.2 5 = A → pz_Sr mo s → pz_Sb s → ∃ X' s', fX12_fits_l3 N (nI t) x2 n (nI y) mo = some (zMA mo 24 X') ∧ pz_Sr (zMA mo 24 X') s' ∧ pz_Sb s' ∧ (∀ o j, s o = some j → s' o = some j) ∧ (∀ o, s o = none → s' o = none ∨ ∃ j, y ≤ j ∧ s' o = some j) ∧ (∀ o, ¬ pz_hb t o → s' o = s o) := by
  have hn := (pz_A_n hA).1
  have a1 := (pz_A_n hA).2.2.2.2.1
  have k1 : (1 : Int32).toNatClampNeg = 1 := rfl
  intro n
  induction n with
  | zero => intro y mo s h1 h2; omega
  | succ n ih =>
    intro y mo s h1 h2 hm hs hsb
    have m1 : mo.1.2 5 1 = nI T := by rw [hm]; exact a1
    rcases Nat.lt_or_ge y (T + 1) with h3 | h3
    · have g1 : ¬ nI T < nI y := nI_nlt (by omega) (by omega)
      obtain ⟨X1, s1, f1, f2, f3, f4, f5, f6, -⟩ := pz_yk N hN (KL := KL) (kc := kc) (u := u) (x2 := x2) hA ht (show y ≤ 60 by omega) hkp N 0 mo s (by omega) (by omega) hm hs hsb
      rw [show nI 0 = (0 : Int32) from rfl] at f1
      obtain ⟨X2, s2, g2, g3, g4, g5, g6, g7⟩ := ih (y + 1) (zMA mo 24 X1) s1 (by omega) (by omega) hm f2 f3
      rw [pz_MAA] at g2 g3
      refine ⟨X2, s2, ?_, g3, g4, fun o j h => g5 o j (f4 o j h), fun o h => ?_, fun o h => (g7 o h).trans (f6 o h)⟩
      · simp only [fX12_fits_l3, k1, m1, g1, f1, nI_1, ↓reduceIte, Option.bind_some, or_self, or_false, false_or, or_true, true_or, and_true, true_and, and_false, false_and, not_true_eq_false, not_false_eq_true]
        exact g2
      · rcases f5 o h with q | q
        · rcases g6 o q with r | ⟨j, r1, r2⟩
          · exact .inl r
          · exact .inr ⟨j, by omega, r2⟩
        · exact .inr ⟨y, Nat.le_refl _, g5 o y q⟩
    · have e : y = T + 1 := by omega
      subst e
      have g1 : nI T < nI (T + 1) := nI_lt (by omega) (by omega)
      refine ⟨mo.1.2 24, s, ?_, by rw [pz_MA0]; exact hs, hsb, fun _ _ h => h, fun _ h => .inl h, fun _ _ => rfl⟩
      simp only [fX12_fits_l3, k1, m1, g1, pz_MA0, ↓reduceIte, Option.bind_some, or_self, or_false, false_or, or_true, true_or, and_true, true_and, and_false, false_and, not_true_eq_false, not_false_eq_true]
def pz_at (o : Option Nat) (y : Nat) : Option Nat := match o with
  | none => none
  | some j => if j < y then some j else none
set_option maxHeartbeats 4000000 in
set_option maxRecDepth 100000 in
/-- the years in both: class and reference find alike whether the set fits -/
theorem pz_yb (N : Nat) (hN : 200000 ≤ N) {KL : List Nat} {kc : Nat → zKC} {A : Nat → Int32} {K P Q T t : Nat} {u x2 : Int32} {ft : zOS} {tt : Nat → Option Nat} (hA : pz_A A K P Q T) (ht : t < 64) (hkp : ∀ k, k < K → ∃ a, kc a = (zko (A (24 + k)), nI k, A (30 + k), A (36 + k))) (h6 : ∀ k, k < K → ft.2 6 k = pz_ov (tt k)) (hb : ∀ k j, tt k = some j → j ≤ T) : ∀ n y (mo : zMS) (s : Nat → Option Nat) (L : zLS), y ≤ T + 1 → T + 1 - y < n → mo.1.2 5 = A → pz_Sr mo s → pz_Sb s → pz_Cp KL kc A K Q t y u s L → (∀ k, k < K → s k = pz_at (tt k) y) → ∃ X' s' r L', fX12_fits_l3 N (nI t) x2 n (nI y) mo = some (zMA mo 24 X') ∧ pz_Sr (zMA mo 24 X') s' ∧ pz_Sb s' ∧ fX2_isFit_l1 N KL kc ft n (nI y) L = some r ∧ pz_Lb KL kc L' A K Q ∧ (r = Sum.inl L' ∧ (∀ k, k < K → s' k = tt k) ∨ r = Sum.inr L' ∧ ∃ k, k < K ∧ s' k ≠ tt k) := by
  have hn := (pz_A_n hA).1
  have a1 := (pz_A_n hA).2.2.2.2.1
  have k1 : (1 : Int32).toNatClampNeg = 1 := rfl
  have hb60 : pz_Sb tt := fun k j h => by have := hb k j h; omega
  intro n
  induction n with
  | zero => intro y mo s L h1 h2; omega
  | succ n ih =>
    intro y mo s L h1 h2 hm hs hsb hc hM
    have m1 : mo.1.2 5 1 = nI T := by rw [hm]; exact a1
    obtain ⟨l6, l7, l8, l1⟩ := pz_Cp_l hA hc
    rcases Nat.lt_or_ge y (T + 1) with h3 | h3
    · have g1 : ¬ nI T < nI y := nI_nlt (by omega) (by omega)
      obtain ⟨X1, s1, f1, f2, f3, f4, f5, f6, f7⟩ := pz_yk N hN (KL := KL) (kc := kc) (u := u) (x2 := x2) hA ht (show y ≤ 60 by omega) hkp N 0 mo s (by omega) (by omega) hm hs hsb
      obtain ⟨L1, t1, t2, t3, t4⟩ := f7 L hc
      rw [show nI 0 = (0 : Int32) from rfl] at f1 t1
      have sa : fX4_sellAll N KL kc L = some L1 := by unfold fX4_sellAll; rw [t1]; rfl
      have hh := pz_hs N (ft := ft) (tt := tt) hA t2 (show y ≤ 60 by omega) h6 hb60 N 0 (by omega) (by omega)
      rw [show nI 0 = (0 : Int32) from rfl] at hh
      rcases hh with ⟨q1, q2⟩ | ⟨q1, k, hk, q2⟩
      · have hj : fX2_hasSoldJustSo N ft L1 (nI y) = some 1 := by unfold fX2_hasSoldJustSo; rw [q1]; rfl
        obtain ⟨X', s', r, L', r1, r2, r3, r4, r5⟩ := ih (y + 1) (zMA mo 24 X1) s1 (zLi L1 8 (L1.1.1 8 + 1)) (by omega) (by omega) hm f2 f3 (pz_Cp_y (by omega) t2) (by
          intro k hk
          have q := q2 k (by omega) hk
          have hMk := hM k hk
          cases htk : tt k with
          | none =>
            rw [htk] at q hMk
            have : s1 k = none := by
              cases hs1 : s1 k with
              | none => rfl
              | some j =>
                obtain ⟨j', hj', -⟩ := q.mpr (by rw [hs1]; simp)
                cases hj'
            exact this
          | some j =>
            rw [htk] at q hMk
            show s1 k = if j < y + 1 then some j else none
            have hMk : s k = if j < y then some j else none := hMk
            by_cases d : j < y
            · rw [if_pos d] at hMk
              rw [if_pos (by omega)]
              exact f4 k j hMk
            · rw [if_neg d] at hMk
              by_cases d2 : j < y + 1
              · rw [if_pos d2]
                have ne := q.mp ⟨j, rfl, by omega⟩
                rcases f5 k hMk with z | z
                · exact absurd z ne
                · rw [z, show j = y by omega]
              · rw [if_neg d2]
                cases hs1 : s1 k with
                | none => rfl
                | some i =>
                  obtain ⟨j', hj', h7⟩ := q.mpr (by rw [hs1]; simp)
                  cases hj'
                  omega)
        rw [pz_MAA] at r1 r2
        refine ⟨X', s', r, L', ?_, r2, r3, ?_, r5⟩
        · simp only [fX12_fits_l3, k1, m1, g1, f1, nI_1, ↓reduceIte, Option.bind_some, or_self, or_false, false_or, or_true, true_or, and_true, true_and, and_false, false_and, not_true_eq_false, not_false_eq_true]
          exact r1
        · simp only [fX2_isFit_l1, l1, g1, sa, hj, nI_1, ↓reduceIte, Option.bind_some, or_self, or_false, false_or, or_true, true_or, and_true, true_and, and_false, false_and, not_true_eq_false, not_false_eq_true, pz_10, pz_01, eq_self]
          rw [← nI_1] at r4 ⊢
          exact r4
      · have hj : fX2_hasSoldJustSo N ft L1 (nI y) = some 0 := by unfold fX2_hasSoldJustSo; rw [q1]; rfl
        obtain ⟨X2, s2, g2, g3, g4, g5, g6, g7⟩ := pz_ya N hN (KL := KL) (kc := kc) (u := u) (x2 := x2) hA ht hkp n (y + 1) (zMA mo 24 X1) s1 (by omega) (by omega) hm f2 f3
        rw [pz_MAA] at g2 g3
        refine ⟨X2, s2, Sum.inr L1, L1, ?_, g3, g4, ?_, pz_Cp_b (by omega) (by omega) t2, .inr ⟨rfl, k, hk, ?_⟩⟩
        · simp only [fX12_fits_l3, k1, m1, g1, f1, nI_1, ↓reduceIte, Option.bind_some, or_self, or_false, false_or, or_true, true_or, and_true, true_and, and_false, false_and, not_true_eq_false, not_false_eq_true]
          exact g2
        · simp only [fX2_isFit_l1, l1, g1, sa, hj, ↓reduceIte, Option.bind_some, or_self, or_false, false_or, or_true, true_or, and_true, true_and, and_false, false_and, not_true_eq_false, not_false_eq_true, pz_10, pz_01, eq_self]
        · intro heq
          apply q2
          have hMk := hM k hk
          constructor
          · rintro ⟨j, hj1, hj2⟩ hnone
            rcases g6 k hnone with z | ⟨i, z1, z2⟩
            · rw [heq, hj1] at z; cases z
            · rw [heq, hj1] at z2
              cases z2
              omega
          · intro hne
            cases hs1 : s1 k with
            | none => exact absurd hs1 hne
            | some i =>
              have e1 := g5 k i hs1
              rw [heq] at e1
              refine ⟨i, e1, ?_⟩
              cases hsk : s k with
              | none =>
                rcases f5 k hsk with z | z
                · rw [hs1] at z; cases z
                · rw [hs1] at z
                  cases z
                  exact Nat.le_refl _
              | some i' =>
                have e2 := f4 k i' hsk
                rw [hs1] at e2
                cases e2
                rw [e1] at hMk
                have hMk : s k = if i < y then some i else none := hMk
                by_cases d : i < y
                · omega
                · rw [if_neg d, hsk] at hMk; cases hMk
    · have e : y = T + 1 := by omega
      subst e
      have g1 : nI T < nI (T + 1) := nI_lt (by omega) (by omega)
      refine ⟨mo.1.2 24, s, Sum.inl L, L, ?_, by rw [pz_MA0]; exact hs, hsb, ?_, pz_Cp_b (by omega) (by omega) hc, .inl ⟨rfl, fun k hk => ?_⟩⟩
      · simp only [fX12_fits_l3, k1, m1, g1, pz_MA0, ↓reduceIte, Option.bind_some, or_self, or_false, false_or, or_true, true_or, and_true, true_and, and_false, false_and, not_true_eq_false, not_false_eq_true]
      · simp only [fX2_isFit_l1, l1, g1, ↓reduceIte, Option.bind_some, or_self, or_false, false_or, or_true, true_or, and_true, true_and, and_false, false_and, not_true_eq_false, not_false_eq_true]
      · rw [hM k hk]
        cases htk : tt k with
        | none => rfl
        | some j =>
          have := hb k j htk
          show (if j < T + 1 then some j else none) = _
          rw [if_pos (by omega)]
set_option maxHeartbeats 4000000 in
set_option maxRecDepth 100000 in
theorem pz_ft1 (N : Nat) {x1 x2 : Int32} : ∀ n k (mo : zMS), k ≤ 6 → 6 - k < n → ∃ X, fX12_fits_l1 N x1 x2 n (nI k) mo = some (zMA mo 24 X) ∧ (∀ j, k ≤ j → j < 6 → X j = -1) ∧ (∀ j, j < k → X j = mo.1.2 24 j) := by
  intro n
  induction n with
  | zero => intro k mo h1 h2; omega
  | succ n ih =>
    intro k mo h1 h2
    rcases Nat.lt_or_ge k 6 with h3 | h3
    · have g1 : ¬ (6 : Int32) ≤ nI k := nI_ge (b := 6) h3 (by omega)
      have i6 := pz_ni h3 (by omega)
      obtain ⟨X, e1, e2, e3⟩ := ih (k + 1) (zMA mo 24 (upd (mo.1.2 24) k (-1))) (by omega) (by omega)
      refine ⟨X, ?_, ?_, ?_⟩
      · simp only [fX12_fits_l1, g1, i6, nI_clamp (show k < 2 ^ 31 by omega), nI_1, ↓reduceIte, Option.bind_some, or_self, or_false, false_or, or_true, true_or, and_true, true_and, and_false, false_and, not_true_eq_false, not_false_eq_true]
        rw [e1, pz_MAA]
      · intro j j1 j2
        rcases Nat.eq_or_lt_of_le j1 with j3 | j3
        · subst j3
          rw [e3 _ (by omega), pz_MA]
          exact pk_us
        · exact e2 j j3 j2
      · intro j hj
        rw [e3 j (by omega), pz_MA]
        exact pk_un (by omega)
    · have e : k = 6 := by omega
      subst e
      refine ⟨mo.1.2 24, ?_, fun j j1 j2 => by omega, fun _ _ => rfl⟩
      rw [pz_MA0]
      rfl
set_option maxHeartbeats 4000000 in
set_option maxRecDepth 100000 in
theorem pz_ft5 (N : Nat) {mo : zMS} {K at0 : Nat} {s tt : Nat → Option Nat} (hK : K ≤ 6) (hat : at0 + 6 ≤ 320) (a3 : mo.1.2 5 3 = nI K) (hs : pz_Sr mo s) (hsb : pz_Sb s) (htb : pz_Sb tt) (hi : ∀ k, k < K → mo.1.2 4 (at0 + k) = pz_ov (tt k)) : ∀ n k (b : Bool), k ≤ K → K - k < n → ∃ b' : Bool, fX12_fits_l5 N mo (nI at0) n (if b then 1 else 0) (nI k) = some (if b' then 1 else 0) ∧ (b' = true ↔ b = true ∧ ∀ o, k ≤ o → o < K → s o = tt o) := by
  have k3 : (3 : Int32).toNatClampNeg = 3 := rfl
  intro n
  induction n with
  | zero => intro k b h1 h2; omega
  | succ n ih =>
    intro k b h1 h2
    rcases Nat.lt_or_ge k K with h3 | h3
    · have g1 : ¬ nI K ≤ nI k := nI_ge h3 (by omega)
      have i6 := pz_ni (show k < 6 by omega) (by omega)
      have cl := nI_clamp (show k < 2 ^ 31 by omega)
      have e1 : nI at0 + nI k = nI (at0 + k) := nI_add _ _
      have i320 := pz_ni (show at0 + k < 320 by omega) (by omega)
      have cl2 := nI_clamp (show at0 + k < 2 ^ 31 by omega)
      have e10 : ¬ (1 : Int32) = 0 := by decide
      cases b with
      | false =>
        obtain ⟨b', f1, f2⟩ := ih (k + 1) false (by omega) (by omega)
        simp only [Bool.false_eq_true, ↓reduceIte] at f1
        refine ⟨b', ?_, ?_⟩
        · simp only [fX12_fits_l5, k3, a3, g1, Bool.false_eq_true, nI_1, ↓reduceIte, Option.bind_some, or_self, or_false, false_or, or_true, true_or, and_true, true_and, and_false, false_and, not_true_eq_false, not_false_eq_true, pz_10, pz_01, eq_self]
          exact f1
        · rw [f2]
          exact ⟨fun h => absurd h.1 (by decide), fun h => absurd h.1 (by decide)⟩
      | true =>
        have q := pz_ov_eq (fun y h => hsb k y h) (fun y h => htb k y h)
        by_cases d : s k = tt k
        · obtain ⟨b', f1, f2⟩ := ih (k + 1) true (by omega) (by omega)
          simp only [↓reduceIte] at f1
          refine ⟨b', ?_, ?_⟩
          · simp only [fX12_fits_l5, k3, a3, g1, e10, i6, cl, e1, i320, cl2, hs k (by omega), hi k h3, q.mpr d, nI_1, ↓reduceIte, Option.bind_some, or_self, or_false, false_or, or_true, true_or, and_true, true_and, and_false, false_and, not_true_eq_false, not_false_eq_true]
            exact f1
          · rw [f2]
            refine ⟨fun h => ⟨rfl, fun o o1 o2 => ?_⟩, fun h => ⟨rfl, fun o o1 o2 => h.2 o (by omega) o2⟩⟩
            rcases Nat.eq_or_lt_of_le o1 with o3 | o3
            · subst o3; exact d
            · exact h.2 o o3 o2
        · obtain ⟨b', f1, f2⟩ := ih (k + 1) false (by omega) (by omega)
          simp only [Bool.false_eq_true, ↓reduceIte] at f1
          refine ⟨b', ?_, ?_⟩
          · have nq : ¬ pz_ov (s k) = pz_ov (tt k) := fun h => d (q.mp h)
            simp only [fX12_fits_l5, k3, a3, g1, e10, i6, cl, e1, i320, cl2, hs k (by omega), hi k h3, nq, nI_1, ↓reduceIte, Option.bind_some, or_self, or_false, false_or, or_true, true_or, and_true, true_and, and_false, false_and, not_true_eq_false, not_false_eq_true]
            exact f1
          · rw [f2]
            exact ⟨fun h => absurd h.1 (by decide), fun h => absurd (h.2 k (Nat.le_refl _) h3) d⟩
    · have e : k = K := by omega
      subst e
      have g1 : nI k ≤ nI k := Int32.le_refl _
      refine ⟨b, ?_, ⟨fun h => ⟨h, fun o o1 o2 => by omega⟩, fun h => h.1⟩⟩
      simp only [fX12_fits_l5, k3, a3, g1, ↓reduceIte, Option.bind_some, or_self, or_false, false_or, or_true, true_or, and_true, true_and, and_false, false_and, not_true_eq_false, not_false_eq_true]
