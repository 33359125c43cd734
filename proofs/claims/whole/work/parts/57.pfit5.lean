/-! THE PURE LAYER: fit -/
/-- all that the search for sets knows -/
def pz_Fk (N : Nat) (KL : List Nat) (kc : Nat → zKC) (ft : zOS) (m0 : zMS) (K Q at0 : Nat) : Prop := ∀ t, t < 64 → ∀ (Tr : zLS) (X : Nat → Int32), pz_Lb KL kc Tr (m0.1.2 5) K Q → ∃ (b : Bool) (L' : zLS) (X' : Nat → Int32), fX2_isFit N KL kc ft Tr (nI t) = some (if b then 1 else 0, L') ∧ fX12_fits N (zMA m0 24 X) (nI t) (nI at0) = some (if b then 1 else 0, zMA m0 24 X') ∧ pz_Lb KL kc L' (m0.1.2 5) K Q
set_option maxHeartbeats 4000000 in
set_option maxRecDepth 100000 in
theorem pz_fcn (N : Nat) {KL : List Nat} {kc : Nat → zKC} {ft : zOS} {m0 : zMS} {L : zLS} {K Q r : Nat} (hK : K ≤ 6) (l6 : L.1.1 6 = nI K) (a3 : m0.1.2 5 3 = nI K) (hF : pz_Fk N KL kc ft m0 K Q (40 * r)) : ∀ n t f (Tr : zLS) (X : Nat → Int32), t ≤ 2 ^ K → 2 ^ K - t < n → f ≤ t → pz_Lb KL kc Tr (m0.1.2 5) K Q → ∃ f' L' X', fX2_countFits_l1 N KL kc ft L n (nI f) (nI t) Tr = some (nI f', L') ∧ fX12_fit_l2 N (nI r) (-1) n (nI f) (nI t) (zMA m0 24 X) = some (Sum.inl (nI f', zMA m0 24 X')) := by
  obtain ⟨h1, h2⟩ := pz_shl K hK
  have k3 : (3 : Int32).toNatClampNeg = 3 := rfl
  have e40 : (40 : Int32) * nI r = nI (40 * r) := by rw [show (40 : Int32) = nI 40 from rfl, pk_mul]
  intro n
  induction n with
  | zero => intro t f Tr X h3 h4; omega
  | succ n ih =>
    intro t f Tr X h3 h4 hf hTr
    have m3 : (zMA m0 24 X).1.2 5 3 = nI K := a3
    rcases Nat.lt_or_ge t (2 ^ K) with h5 | h5
    · have g1 : ¬ nI (2 ^ K) ≤ nI t := nI_ge h5 (by omega)
      obtain ⟨b, L', X', e1, e2, e3⟩ := hF t (by omega) Tr X hTr
      cases b with
      | false =>
        obtain ⟨f', L2, X2, r1, r2⟩ := ih (t + 1) f L' X' (by omega) (by omega) (by omega) e3
        refine ⟨f', L2, X2, ?_, ?_⟩
        · simp only [fX2_countFits_l1, l6, h1, g1, e1, Bool.false_eq_true, nI_1, ↓reduceIte, Option.bind_some, or_self, or_false, false_or, or_true, true_or, and_true, true_and, and_false, false_and, not_true_eq_false, not_false_eq_true, pz_10, pz_01, eq_self]
          exact r1
        · simp only [fX12_fit_l2, k3, m3, h1, g1, e40, e2, Bool.false_eq_true, nI_1, ↓reduceIte, Option.bind_some, or_self, or_false, false_or, or_true, true_or, and_true, true_and, and_false, false_and, not_true_eq_false, not_false_eq_true, pz_10, pz_01, eq_self]
          exact r2
      | true =>
        obtain ⟨f', L2, X2, r1, r2⟩ := ih (t + 1) (f + 1) L' X' (by omega) (by omega) (by omega) e3
        have nf : ¬ nI f = -1 := by
          intro h
          have : nI f < 0 := by rw [h]; decide
          exact nI_pos (by omega) this
        refine ⟨f', L2, X2, ?_, ?_⟩
        · simp only [fX2_countFits_l1, l6, h1, g1, e1, nI_1, ↓reduceIte, Option.bind_some, or_self, or_false, false_or, or_true, true_or, and_true, true_and, and_false, false_and, not_true_eq_false, not_false_eq_true, pz_10, pz_01, eq_self]
          exact r1
        · simp only [fX12_fit_l2, k3, m3, h1, g1, e40, e2, nf, nI_1, ↓reduceIte, Option.bind_some, or_self, or_false, false_or, or_true, true_or, and_true, true_and, and_false, false_and, not_true_eq_false, not_false_eq_true, pz_10, pz_01, eq_self]
          exact r2
    · have e : t = 2 ^ K := by omega
      subst e
      have g1 : nI (2 ^ K) ≤ nI (2 ^ K) := Int32.le_refl _
      refine ⟨f, Tr, X, ?_, ?_⟩
      · simp only [fX2_countFits_l1, l6, h1, g1, ↓reduceIte, Option.bind_some, or_self, or_false, false_or, or_true, true_or, and_true, true_and, and_false, false_and, not_true_eq_false, not_false_eq_true]
      · simp only [fX12_fit_l2, k3, m3, h1, g1, ↓reduceIte, Option.bind_some, or_self, or_false, false_or, or_true, true_or, and_true, true_and, and_false, false_and, not_true_eq_false, not_false_eq_true]
set_option maxHeartbeats 4000000 in
set_option maxRecDepth 100000 in
theorem pz_fat (N : Nat) {KL : List Nat} {kc : Nat → zKC} {ft : zOS} {m0 : zMS} {L : zLS} {K Q r j : Nat} (hj : j < 2 ^ 31) (hK : K ≤ 6) (l6 : L.1.1 6 = nI K) (a3 : m0.1.2 5 3 = nI K) (hF : pz_Fk N KL kc ft m0 K Q (40 * r)) : ∀ n t f (Tr : zLS) (X : Nat → Int32), t ≤ 2 ^ K → 2 ^ K - t < n → f ≤ j → pz_Lb KL kc Tr (m0.1.2 5) K Q → (∃ v L' X', fX2_fitAt_l1 N KL kc ft L n (nI (j - f)) (nI t) Tr = some (Sum.inl L') ∧ fX12_fit_l2 N (nI r) (nI j) n (nI f) (nI t) (zMA m0 24 X) = some (Sum.inl (v, zMA m0 24 X'))) ∨ (∃ v L' X', fX2_fitAt_l1 N KL kc ft L n (nI (j - f)) (nI t) Tr = some (Sum.inr (v, L')) ∧ fX12_fit_l2 N (nI r) (nI j) n (nI f) (nI t) (zMA m0 24 X) = some (Sum.inr (v, zMA m0 24 X'))) := by
  obtain ⟨h1, h2⟩ := pz_shl K hK
  have k3 : (3 : Int32).toNatClampNeg = 3 := rfl
  have e40 : (40 : Int32) * nI r = nI (40 * r) := by rw [show (40 : Int32) = nI 40 from rfl, pk_mul]
  intro n
  induction n with
  | zero => intro t f Tr X h3 h4; omega
  | succ n ih =>
    intro t f Tr X h3 h4 hf hTr
    have m3 : (zMA m0 24 X).1.2 5 3 = nI K := a3
    rcases Nat.lt_or_ge t (2 ^ K) with h5 | h5
    · have g1 : ¬ nI (2 ^ K) ≤ nI t := nI_ge h5 (by omega)
      obtain ⟨b, L', X', e1, e2, e3⟩ := hF t (by omega) Tr X hTr
      cases b with
      | false =>
        rcases ih (t + 1) f L' X' (by omega) (by omega) hf e3 with ⟨v, L2, X2, r1, r2⟩ | ⟨v, L2, X2, r1, r2⟩
        · refine .inl ⟨v, L2, X2, ?_, ?_⟩
          · simp only [fX2_fitAt_l1, l6, h1, g1, e1, Bool.false_eq_true, nI_1, ↓reduceIte, Option.bind_some, or_self, or_false, false_or, or_true, true_or, and_true, true_and, and_false, false_and, not_true_eq_false, not_false_eq_true, pz_10, pz_01, eq_self]
            exact r1
          · simp only [fX12_fit_l2, k3, m3, h1, g1, e40, e2, Bool.false_eq_true, nI_1, ↓reduceIte, Option.bind_some, or_self, or_false, false_or, or_true, true_or, and_true, true_and, and_false, false_and, not_true_eq_false, not_false_eq_true, pz_10, pz_01, eq_self]
            exact r2
        · refine .inr ⟨v, L2, X2, ?_, ?_⟩
          · simp only [fX2_fitAt_l1, l6, h1, g1, e1, Bool.false_eq_true, nI_1, ↓reduceIte, Option.bind_some, or_self, or_false, false_or, or_true, true_or, and_true, true_and, and_false, false_and, not_true_eq_false, not_false_eq_true, pz_10, pz_01, eq_self]
            exact r1
          · simp only [fX12_fit_l2, k3, m3, h1, g1, e40, e2, Bool.false_eq_true, nI_1, ↓reduceIte, Option.bind_some, or_self, or_false, false_or, or_true, true_or, and_true, true_and, and_false, false_and, not_true_eq_false, not_false_eq_true, pz_10, pz_01, eq_self]
            exact r2
      | true =>
        have q : nI f = nI j ↔ f = j := nI_eq (by omega) hj
        by_cases c : f = j
        · have q0 : nI (j - f) = 0 := by rw [c, Nat.sub_self]; rfl
          refine .inr ⟨nI t, L', X', ?_, ?_⟩
          · simp only [fX2_fitAt_l1, l6, h1, g1, e1, q0, ↓reduceIte, Option.bind_some, or_self, or_false, false_or, or_true, true_or, and_true, true_and, and_false, false_and, not_true_eq_false, not_false_eq_true, pz_10, pz_01, eq_self]
          · simp only [fX12_fit_l2, k3, m3, h1, g1, e40, e2, q, c, ↓reduceIte, Option.bind_some, or_self, or_false, false_or, or_true, true_or, and_true, true_and, and_false, false_and, not_true_eq_false, not_false_eq_true, pz_10, pz_01, eq_self]
        · have q0 : ¬ nI (j - f) = 0 := nI_ne0 (by omega) (by omega)
          have q1 : nI (j - f) + (-1 : Int32) = nI (j - (f + 1)) := by
            rw [show j - f = (j - (f + 1)) + 1 by omega]
            exact pk_m1 _
          rcases ih (t + 1) (f + 1) L' X' (by omega) (by omega) (by omega) e3 with ⟨v, L2, X2, r1, r2⟩ | ⟨v, L2, X2, r1, r2⟩
          · refine .inl ⟨v, L2, X2, ?_, ?_⟩
            · simp only [fX2_fitAt_l1, l6, h1, g1, e1, q0, q1, nI_1, ↓reduceIte, Option.bind_some, or_self, or_false, false_or, or_true, true_or, and_true, true_and, and_false, false_and, not_true_eq_false, not_false_eq_true, pz_10, pz_01, eq_self]
              exact r1
            · simp only [fX12_fit_l2, k3, m3, h1, g1, e40, e2, q, c, nI_1, ↓reduceIte, Option.bind_some, or_self, or_false, false_or, or_true, true_or, and_true, true_and, and_false, false_and, not_true_eq_false, not_false_eq_true, pz_10, pz_01, eq_self]
              exact r2
          · refine .inr ⟨v, L2, X2, ?_, ?_⟩
            · simp only [fX2_fitAt_l1, l6, h1, g1, e1, q0, q1, nI_1, ↓reduceIte, Option.bind_some, or_self, or_false, false_or, or_true, true_or, and_true, true_and, and_false, false_and, not_true_eq_false, not_false_eq_true, pz_10, pz_01, eq_self]
              exact r1
            · simp only [fX12_fit_l2, k3, m3, h1, g1, e40, e2, q, c, nI_1, ↓reduceIte, Option.bind_some, or_self, or_false, false_or, or_true, true_or, and_true, true_and, and_false, false_and, not_true_eq_false, not_false_eq_true, pz_10, pz_01, eq_self]
              exact r2
    · have e : t = 2 ^ K := by omega
      subst e
      have g1 : nI (2 ^ K) ≤ nI (2 ^ K) := Int32.le_refl _
      refine .inl ⟨nI f, Tr, X, ?_, ?_⟩
      · simp only [fX2_fitAt_l1, l6, h1, g1, ↓reduceIte, Option.bind_some, or_self, or_false, false_or, or_true, true_or, and_true, true_and, and_false, false_and, not_true_eq_false, not_false_eq_true]
      · simp only [fX12_fit_l2, k3, m3, h1, g1, ↓reduceIte, Option.bind_some, or_self, or_false, false_or, or_true, true_or, and_true, true_and, and_false, false_and, not_true_eq_false, not_false_eq_true]
theorem pz_L_b {KL : List Nat} {kc : Nat → zKC} {L : zLS} {A H : Nat → Int32} {K P Q : Nat} (h : pz_L KL kc L A H K P Q) : pz_Lb KL kc L A K Q := ⟨h.1, h.2.2.1, h.2.2.2.1, h.2.2.2.2.1, h.2.2.2.2.2.1, h.2.2.2.2.2.2.1, h.2.2.2.2.2.2.2.2.1, h.2.2.2.2.2.2.2.2.2.2.2.2⟩
set_option maxHeartbeats 4000000 in
set_option maxRecDepth 100000 in
theorem ps_fit {N : Nat} (hN : 200000 ≤ N) : zStep_fit N pz_Inv := by
  intro KL kc on rw rd ft tr la mo hI x1 x2
  have back : ∀ (on' : zNS) (mo' : zMS) (T : zLS) (ft' : zOS), pz_Inv KL kc on' rw rd ft tr la mo' → on'.2 = on.2 → pz_Inv KL kc on' rw rd ft' tr (va_up (va_up la on.2.1 (la on.2.1)) 4 T) mo' := by
    intro on' mo' T ft' h _
    rw [pz_upA]
    exact pz_tr4 T h
  rcases pz_nows N (mo := zMi mo 0 0) hI.2.2.2.2.2.1 with ⟨h7, -, -, -, -, ht⟩ | ⟨h7, ht, K, P, Q, T, hA, hH, hL, hl, hl6, -⟩
  · have h7 : mo.1.1 7 = 0 := h7
    simp only [fX11_fit, fX12_fit, h7, ht, ↓reduceIte, Option.bind_some, or_self, or_false, false_or, or_true, true_or, and_true, true_and, and_false, false_and, not_true_eq_false, not_false_eq_true, pz_10, pz_01, eq_self]
    exact ⟨_, _, rfl, rfl, rfl, back _ _ _ _ (pz_th 0 hI) rfl⟩
  have h7 : mo.1.1 7 = 1 := h7
  rcases pz_ix x1 8 with h | ⟨r, hr, rfl⟩
  · simp only [fX11_fit, fX12_fit, h7, ht, (pz_row0 N h).1, (pz_row0 N h).2, ↓reduceIte, Option.bind_some, or_self, or_false, false_or, or_true, true_or, and_true, true_and, and_false, false_and, not_true_eq_false, not_false_eq_true, pz_10, pz_01, eq_self]
    exact ⟨_, _, rfl, rfl, rfl, back _ _ _ _ (pz_th 0 hI) rfl⟩
  have r1 := pz_row1 N hr
  by_cases h2 : ¬ (-1 : Int32) ≤ x2
  · simp only [fX11_fit, fX12_fit, h7, ht, r1.1, r1.2, h2, ↓reduceIte, Option.bind_some, or_self, or_false, false_or, or_true, true_or, and_true, true_and, and_false, false_and, not_true_eq_false, not_false_eq_true, pz_10, pz_01, eq_self]
    exact ⟨_, _, rfl, rfl, rfl, back _ _ _ _ (pz_th 0 hI) rfl⟩
  have h2 := Decidable.not_not.mp h2
  have i0 := pz_ni hr (N := 8) (by omega)
  have cl := nI_clamp (show r < 2 ^ 31 by omega)
  obtain ⟨g1, g2, m, g3, g4, g5, g6⟩ := hI.2.2.1 r hr
  have st2 : ∀ v, pz_Inv KL kc (zNf on v) rw rd ft tr la (zMi (zMi mo 0 0) 1 v) := fun v => ⟨hI.1, rfl, hI.2.2⟩
  rcases pz_miss N hI.2.2.1 hr with ⟨g, g7⟩ | ⟨g, g8, g7⟩
  · have g8 : ¬ 0 ≤ mo.1.2 2 r := by rw [g]; decide
    simp only [fX11_fit, fX12_fit, fX11_found, fX12_finding, h7, ht, r1.1, r1.2, h2, i0, cl, g7, g8, ↓reduceIte, Option.bind_some, or_self, or_false, false_or, or_true, true_or, and_true, true_and, and_false, false_and, not_true_eq_false, not_false_eq_true, pz_10, pz_01, eq_self]
    exact ⟨_, _, rfl, rfl, rfl, back _ _ _ _ (st2 1) rfl⟩
  have hn := (pz_A_n hA).1
  have a3 : mo.1.2 5 3 = nI K := (pz_A_n hA).2.1
  have a1 : mo.1.2 5 1 = nI T := (pz_A_n hA).2.2.2.2.1
  have k3 : (3 : Int32).toNatClampNeg = 3 := rfl
  have qK : nI K ≤ nI m ↔ K ≤ m := nI_leI (by omega) (by omega)
  have z0 : nI 0 = (0 : Int32) := rfl
  rcases pz_str N hr g3 g4 0 (nI K) with ⟨s1, s2⟩ | ⟨j, k, s1, e1, e2, s2⟩
  · have nK : ¬ K ≤ m := by
      rcases s2 with s2 | s2 | s2
      · exact absurd s2 (nI_pos (by omega))
      · exact absurd s2 (by decide)
      · rw [nI_toInt (by omega)] at s2
        have : (0 : Int32).toInt = 0 := rfl
        omega
    simp only [fX11_fit, fX12_fit, fX11_found, fX12_finding, h7, ht, r1.1, r1.2, h2, i0, cl, g7, g8, hl6, s1, k3, a3, g5, qK, nK, ↓reduceIte, Option.bind_some, or_self, or_false, false_or, or_true, true_or, and_true, true_and, and_false, false_and, not_true_eq_false, not_false_eq_true, pz_10, pz_01, eq_self]
    exact ⟨_, _, rfl, rfl, rfl, back _ _ _ _ (st2 2) rfl⟩
  have hKm : K ≤ m := by
    have := (nI_eq (a := K) (b := k) (by omega) (by omega)).mp e2
    omega
  rcases pz_ty N (x2 := x2) (L := la on.2.1) (mo := zMi mo 0 0) hr g3 hn.2.1 hKm hn.2.2.2.2.2.2 g4 g6 hl6 (hL.2.2.2.1.trans a1) a3 a1 N 0 (zpi ft 2 0) 0 (by omega) (by omega) rfl (by omega) (fun o ho => by simp) (fun o ho => by omega) with ⟨ft', sl, f1, f2, f3, f4, f5, f6, f7⟩ | ⟨ft', f1, f2⟩
  · rw [z0] at f1 f2
    -- the years as numbers
    obtain ⟨tt, htt⟩ : ∃ tt : Nat → Option Nat, ∀ k, tt k = if K ≤ k ∨ mo.1.2 4 (r * 40 + k) < 0 then none else some (mo.1.2 4 (r * 40 + k)).toNatClampNeg := ⟨_, fun _ => rfl⟩
    have hval : ∀ k, k < K → mo.1.2 4 (r * 40 + k) = pz_ov (tt k) ∧ ∀ j, tt k = some j → j ≤ T := by
      intro k hk
      obtain ⟨b1, b2⟩ := f7 k (by omega) hk
      have b1 : -1 ≤ mo.1.2 4 (r * 40 + k) := b1
      have b2 : mo.1.2 4 (r * 40 + k) ≤ nI T := b2
      rw [htt k]
      by_cases c : mo.1.2 4 (r * 40 + k) < 0
      · rw [if_pos (.inr c)]
        refine ⟨?_, fun j h => by cases h⟩
        have a1 := Int32.le_iff_toInt_le.mp b1
        have a2 := Int32.lt_iff_toInt_lt.mp c
        have a3 : (-1 : Int32).toInt = -1 := rfl
        have a4 : (0 : Int32).toInt = 0 := rfl
        exact Int32.toInt_inj.mp (by show _ = (-1 : Int32).toInt; omega)
      · rw [if_neg (fun h => h.elim (fun h => by omega) c)]
        obtain ⟨j, hj, e⟩ := nI_of2 (M := nI T) (n := T) (nI_toInt (by omega)) c b2
        rw [e, nI_clamp (by omega)]
        exact ⟨rfl, fun i h => by cases h; exact hj⟩
    have hF : ∀ m0 : zMS, m0.1.2 5 = mo.1.2 5 → m0.1.2 4 = mo.1.2 4 → pz_Fk N KL kc ft' m0 K Q (40 * r) := by
      intro m0 h5 h4 t ht64 Tr X hTr
      have hA0 : pz_A ((zMA m0 24 X).1.2 5) K P Q T := by
        show pz_A (m0.1.2 5) K P Q T
        rw [h5]
        exact hA
      obtain ⟨b, L', X', r1, r2, r3⟩ := pz_fits N hN (KL := KL) (kc := kc) (mo := zMA m0 24 X) (ft := ft') (tt := tt) (at0 := 40 * r) hA0 ht64 (by
        intro k hk
        obtain ⟨a, -, -, e⟩ := hL.2.2.2.2.2.2.2.2.2.2.2.2 k hk
        refine ⟨a, ?_⟩
        show kc a = (zko (m0.1.2 5 (24 + k)), nI k, m0.1.2 5 (30 + k), m0.1.2 5 (36 + k))
        rw [h5]
        exact e) (fun k hk => (f6 k hk).trans (hval k hk).1) (fun k j h => by
          by_cases hk : k < K
          · exact (hval k hk).2 j h
          · rw [htt k, if_pos (.inl (by omega))] at h
            cases h) f3 f4 (by
        intro k hk
        rw [f5 k hk]
        constructor
        · rintro ⟨a, b⟩
          refine ⟨a, ?_⟩
          rw [htt k, if_neg (fun h => h.elim (fun h => by omega) b)]
          simp
        · rintro ⟨a, b⟩
          refine ⟨a, fun c => b ?_⟩
          rw [htt k]
          exact if_pos (.inr c)) (by omega) (by
        intro k hk
        show m0.1.2 4 (40 * r + k) = _
        rw [h4, Nat.mul_comm 40 r]
        exact (hval k hk).1) hTr
      rw [pz_MAA] at r2
      exact ⟨b, L', X', r1, r2, r3⟩
    obtain ⟨T1, t1, t2⟩ := pz_take N hN (L := la 4) (pz_whoN hI)
    have hT1 := pz_L_b (pz_L_s t2 (by omega) (by omega) (by omega) hL)
    have m24 : zMA (zMi (zMi mo 0 0) 1 0) 24 (mo.1.2 24) = zMi (zMi mo 0 0) 1 0 := pz_MA0 (zMi (zMi mo 0 0) 1 0) 24
    have ety : fX2_takeYears N rw ft (la on.2.1) (nI r) = some (1, ft') := by
      unfold fX2_takeYears
      rw [f1]
      rfl
    have fin : ∀ X' Tx, pz_Inv KL kc (zNf on 0) rw rd ft' tr (va_up (va_up la on.2.1 (la on.2.1)) 4 Tx) (zMA (zMi (zMi mo 0 0) 1 0) 24 X') := by
      intro X' Tx
      rw [pz_upA]
      refine pz_tr4 Tx ?_
      exact ⟨hI.1, rfl, hI.2.2⟩
    by_cases c : x2 = -1
    · subst c
      obtain ⟨f', L', X', c1, c2⟩ := pz_fcn N (m0 := zMi (zMi mo 0 0) 1 0) (r := r) hn.2.1 hl6 a3 (hF (zMi (zMi mo 0 0) 1 0) rfl rfl) N 0 0 T1 (mo.1.2 24) (Nat.zero_le _) (by have := (pz_shl K hn.2.1).2; omega) (by omega) hT1
      rw [m24, z0] at c2
      rw [z0] at c1
      have c0 : ¬ (0 : Int32) ≤ -1 := by decide
      simp only [fX11_fit, fX12_fit, fX2_countFits, fX11_fine, h7, ht, r1.1, r1.2, h2, i0, cl, g7, g8, hl6, s2, k3, a3, g5, qK, hKm, ety, f2, t1, c1, c2, c0, Sum.elim_inl, ↓reduceIte, Option.bind_some, or_self, or_false, false_or, or_true, true_or, and_true, true_and, and_false, false_and, not_true_eq_false, not_false_eq_true, pz_10, pz_01, eq_self]
      exact ⟨_, _, rfl, rfl, rfl, fin _ _⟩
    · have c2 : 0 ≤ x2 := by
        rw [Int32.le_iff_toInt_le] at h2 ⊢
        have a1 : (-1 : Int32).toInt = -1 := rfl
        have a2 : (0 : Int32).toInt = 0 := rfl
        have a3 : x2.toInt ≠ -1 := fun h => c (Int32.toInt_inj.mp h)
        omega
      obtain ⟨j, hj, rfl⟩ := nI_of (Int32.not_lt.mpr c2)
      have hh := pz_fat N (m0 := zMi (zMi mo 0 0) 1 0) (r := r) hj hn.2.1 hl6 a3 (hF (zMi (zMi mo 0 0) 1 0) rfl rfl) N 0 0 T1 (mo.1.2 24) (Nat.zero_le _) (by have := (pz_shl K hn.2.1).2; omega) (by omega) hT1
      rw [m24, Nat.sub_zero, z0] at hh
      rcases hh with ⟨v, L', X', d1, d2⟩ | ⟨v, L', X', d1, d2⟩
      · simp only [fX11_fit, fX12_fit, fX2_fitAt, fX11_fine, h7, ht, r1.1, r1.2, h2, i0, cl, g7, g8, hl6, s2, k3, a3, g5, qK, hKm, ety, f2, t1, d1, d2, c, c2, Sum.elim_inl, ↓reduceIte, Option.bind_some, or_self, or_false, false_or, or_true, true_or, and_true, true_and, and_false, false_and, not_true_eq_false, not_false_eq_true, pz_10, pz_01, eq_self]
        exact ⟨_, _, rfl, rfl, rfl, fin _ _⟩
      · simp only [fX11_fit, fX12_fit, fX2_fitAt, fX11_fine, h7, ht, r1.1, r1.2, h2, i0, cl, g7, g8, hl6, s2, k3, a3, g5, qK, hKm, ety, f2, t1, d1, d2, c, c2, Sum.elim_inl, Sum.elim_inr, ↓reduceIte, Option.bind_some, or_self, or_false, false_or, or_true, true_or, and_true, true_and, and_false, false_and, not_true_eq_false, not_false_eq_true, pz_10, pz_01, eq_self]
        exact ⟨_, _, rfl, rfl, rfl, fin _ _⟩
  · rw [z0] at f1 f2
    simp only [fX11_fit, fX12_fit, fX2_takeYears, h7, ht, r1.1, r1.2, h2, i0, cl, g7, g8, hl6, s2, k3, a3, g5, qK, hKm, f1, f2, Sum.elim_inr, ↓reduceIte, Option.bind_some, or_self, or_false, false_or, or_true, true_or, and_true, true_and, and_false, false_and, not_true_eq_false, not_false_eq_true, pz_10, pz_01, eq_self]
    exact ⟨_, _, rfl, rfl, rfl, back _ _ _ _ (pz_th 0 hI) rfl⟩
