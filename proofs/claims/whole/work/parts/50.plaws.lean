/-! THE PURE LAYER: laws -/
theorem pz_tr4 {KL : List Nat} {kc : Nat → zKC} {on : zNS} {rw rd ft tr : zOS} {la : Nat → zLS} {mo : zMS} (X : zLS) (h : pz_Inv KL kc on rw rd ft tr la mo) : pz_Inv KL kc on rw rd ft tr (va_up la 4 X) mo := by
  obtain ⟨h0, h1, h2, h3, h4, hn, i0, i1, hw, hd⟩ := h
  refine ⟨h0, h1, h2, h3, h4, ?_, i0, i1, ?_, hd⟩
  · rw [va_up_ne _ _ (by rcases h0 with ⟨a, b⟩ | ⟨a, b⟩ <;> omega)]
    exact hn
  · intro j hj
    rw [va_up_ne _ _ (by omega)]
    exact hw j hj
set_option maxHeartbeats 4000000 in
set_option maxRecDepth 100000 in
theorem pz_lwL (N : Nat) (hN : 200000 ≤ N) {KL : List Nat} {kc : Nat → zKC} {A : Nat → Int32} {K P Q T : Nat} (x : Int32) (hA : pz_A A K P Q T) : ∀ n i (L : zLS) (mo : zMS) (dc dr : Nat), i ≤ T + 1 → T + 1 - i < n → mo.1.2 5 = A → pz_H (mo.1.2 8) K P → pz_L KL kc L A (mo.1.2 8) K P Q → L.1.1 3 = 0 → dc < 2147483647 → dr < 2147483647 → mo.2 = lN dr → ∃ L' H' d', fX4_passYears_l1 N KL kc (nI (T + 1)) n (nI dc) (nI i) L = some L' ∧ fX12_laws_l2 N x n (nI i) mo = some (zMd (zMA mo 8 H') (lN d')) ∧ pz_L KL kc L' A H' K P Q ∧ d' < 2147483647 := by
  have k1 : (1 : Int32).toNatClampNeg = 1 := rfl
  have hn := (pz_A_n hA).1
  have a1 : A 1 = nI T := (pz_A_n hA).2.2.2.2.1
  intro n
  induction n with
  | zero => intro i L mo dc dr h1 h2; omega
  | succ n ih =>
    intro i L mo dc dr h1 h2 hm hH hL hl hdc hdr hmd
    have m1 : mo.1.2 5 1 = nI T := by rw [hm]; exact a1
    rcases Nat.lt_or_ge i (T + 1) with h3 | h3
    · have g1 : ¬ nI (T + 1) ≤ nI i := nI_ge h3 (by omega)
      have g2 : ¬ nI T < nI i := nI_nlt (by omega) (by omega)
      subst hm
      obtain ⟨u7, u9, u11, u13, H1, dc', dr', e1, e2, e3, e4, e5, e6, e7, e8, e9, e10, e11, e12⟩ := pz_year N hN hA hH hL hl hdc hdr (.inr rfl) hmd
      have m5 : (zMd (zMA mo 8 H1) (lN dr')).1.2 8 = H1 := pz_MA _ _ _
      obtain ⟨L', H', d', f1, f2, f3, f7⟩ := ih (i + 1) (zLi u13 8 (u13.1.1 8 + 1)) (zMd (zMA mo 8 H1) (lN dr')) dc' dr' (by omega) (by omega) rfl (by rw [m5]; exact e7) (by rw [m5]; exact e6) e8 e10 e11 rfl
      refine ⟨L', H', d', ?_, ?_, f3, f7⟩
      · simp only [fX4_passYears_l1, g1, e1, e2, e3, e4, nI_1, ↓reduceIte, Option.bind_some, or_self, or_false, false_or, or_true, true_or, and_true, true_and, and_false, false_and, not_true_eq_false, not_false_eq_true]
        exact f1
      · simp only [fX12_laws_l2, k1, m1, g2, e5, nI_1, ↓reduceIte, Option.bind_some, or_self, or_false, false_or, or_true, true_or, and_true, true_and, and_false, false_and, not_true_eq_false, not_false_eq_true]
        rw [f2, pz_Ad]
    · have e : i = T + 1 := by omega
      subst e
      have g1 : nI (T + 1) ≤ nI (T + 1) := Int32.le_refl _
      have g2 : nI T < nI (T + 1) := nI_lt (by omega) (by omega)
      refine ⟨L, mo.1.2 8, dr, ?_, ?_, hL, hdr⟩
      · simp only [fX4_passYears_l1, g1, ↓reduceIte, Option.bind_some, or_self, or_false, false_or, or_true, true_or, and_true, true_and, and_false, false_and, not_true_eq_false, not_false_eq_true]
      · simp only [fX12_laws_l2, k1, m1, g2, ↓reduceIte, Option.bind_some, or_self, or_false, false_or, or_true, true_or, and_true, true_and, and_false, false_and, not_true_eq_false, not_false_eq_true]
        rw [← hmd, pz_Ad0]
set_option maxHeartbeats 4000000 in
set_option maxRecDepth 100000 in
theorem pz_lwS (N : Nat) {KL : List Nat} {kc : Nat → zKC} {L : zLS} {mo : zMS} {K P Q T : Nat} (x : Int32) (hA : pz_A (mo.1.2 5) K P Q T) (hL : pz_L KL kc L (mo.1.2 5) (mo.1.2 8) K P Q) : ∀ n k (c : Int32), k ≤ K → K - k < n → ∃ v, fX4_earnedByAll_l1 N L n c (nI k) = some v ∧ fX12_laws_l3 N mo x n c (nI k) = some v := by
  have k3 : (3 : Int32).toNatClampNeg = 3 := rfl
  have hn := (pz_A_n hA).1
  have a3 := (pz_A_n hA).2.1
  have l6 : L.1.1 6 = nI K := hL.1.trans a3
  intro n
  induction n with
  | zero => intro k c h1 h2; omega
  | succ n ih =>
    intro k c h1 h2
    rcases Nat.lt_or_ge k K with h3 | h3
    · have g1 : ¬ nI K ≤ nI k := nI_ge h3 (by omega)
      have e1 : (1 : Int32) + nI k = nI (1 + k) := nI_add 1 k
      have i1 := pz_ni (show 1 + k < 77 by omega) (by omega)
      obtain ⟨v, f1, f2⟩ := ih (k + 1) (c + mo.1.2 8 (1 + k)) (by omega) (by omega)
      refine ⟨v, ?_, ?_⟩
      · simp only [fX4_earnedByAll_l1, l6, g1, (pz_es N hA hL h3).1, nI_1, ↓reduceIte, Option.bind_some, or_self, or_false, false_or, or_true, true_or, and_true, true_and, and_false, false_and, not_true_eq_false, not_false_eq_true]
        exact f1
      · simp only [fX12_laws_l3, k3, a3, g1, e1, i1, nI_clamp (show 1 + k < 2 ^ 31 by omega), nI_1, ↓reduceIte, Option.bind_some, or_self, or_false, false_or, or_true, true_or, and_true, true_and, and_false, false_and, not_true_eq_false, not_false_eq_true]
        exact f2
    · have e : k = K := by omega
      subst e
      have g1 : nI k ≤ nI k := Int32.le_refl _
      exact ⟨c, by simp only [fX4_earnedByAll_l1, l6, g1, ↓reduceIte, Option.bind_some, or_self, or_false, false_or, or_true, true_or, and_true, true_and, and_false, false_and, not_true_eq_false, not_false_eq_true], by simp only [fX12_laws_l3, k3, a3, g1, ↓reduceIte, Option.bind_some, or_self, or_false, false_or, or_true, true_or, and_true, true_and, and_false, false_and, not_true_eq_false, not_false_eq_true]⟩
theorem pz_A_law {A : Nat → Int32} {K P Q T : Nat} (h : pz_A A K P Q T) {x : Int32} (hx : x = 0 ∨ x = 1) : pz_A (upd A 0 x) K P Q T := by
  obtain ⟨hK1, hK6, hP8, hQ1, hQ8, hT1, hT60, a3, a4, a2, a1, a0, a5, a6, a7, pt, st, kp⟩ := h
  have e : ∀ i, 0 < i → upd A 0 x i = A i := fun i hi => pk_un (by omega)
  refine ⟨hK1, hK6, hP8, hQ1, hQ8, hT1, hT60, ?_, ?_, ?_, ?_, ?_, ?_, ?_, ?_, ?_, ?_, ?_⟩
  · rw [e 3 (by omega)]; exact a3
  · rw [e 4 (by omega)]; exact a4
  · rw [e 2 (by omega)]; exact a2
  · rw [e 1 (by omega)]; exact a1
  · rw [pk_us]; exact hx
  · rw [e 5 (by omega)]; exact a5
  · rw [e 6 (by omega)]; exact a6
  · rw [e 7 (by omega)]; exact a7
  · intro i hi
    rw [e (8 + i) (by omega), e (16 + i) (by omega)]
    exact pt i hi
  · intro i j hi hj
    rw [e (8 + i) (by omega), e (8 + j) (by omega)]
    exact st i j hi hj
  · intro k hk
    rw [e (24 + k) (by omega), e (30 + k) (by omega), e (36 + k) (by omega)]
    exact kp k hk
theorem pz_Lp_law {KL : List Nat} {kc : Nat → zKC} {L : zLS} {A H : Nat → Int32} {K P Q : Nat} (h : pz_L KL kc L A H K P Q) (x : Int32) : pz_Lp KL kc (zLi (zLi L 0 x) 3 0) (upd A 0 x) K P Q := by
  obtain ⟨l6, l7, l2, l1, l0, l4, l5, l8, l9, l12, l15, l14, lk⟩ := h
  have e : ∀ i, 0 < i → upd A 0 x i = A i := fun i hi => pk_un (by omega)
  refine ⟨?_, ?_, ?_, ?_, ?_, ?_, ?_, ?_, ?_, ?_⟩
  · rw [e 3 (by omega)]; exact l6
  · rw [e 4 (by omega)]; exact l7
  · rw [e 2 (by omega)]; exact l2
  · rw [e 1 (by omega)]; exact l1
  · rw [pk_us]; rfl
  · rw [e 6 (by omega)]; exact l4
  · rw [e 7 (by omega)]; exact l5
  · intro i hi
    rw [e (8 + i) (by omega), e (16 + i) (by omega)]
    exact l9 i hi
  · intro p hp
    rw [e (42 + p) (by omega), e (50 + p) (by omega)]
    exact ⟨(l12 p hp).1, (l12 p hp).2.1⟩
  · intro k hk
    unfold pz_kp
    rw [e (24 + k) (by omega), e (30 + k) (by omega), e (36 + k) (by omega)]
    exact lk k hk
set_option maxHeartbeats 4000000 in
set_option maxRecDepth 100000 in
theorem ps_laws {N : Nat} (hN : 200000 ≤ N) : zStep_laws N pz_Inv := by
  intro KL kc on rw rd ft tr la mo hI x1
  rcases pz_nows N (mo := zMi mo 0 0) hI.2.2.2.2.2.1 with ⟨h7, -, -, -, -, ht⟩ | ⟨h7, ht, K, P, Q, T, hA, hH, hL, hl, -⟩
  · have h7 : mo.1.1 7 = 0 := h7
    simp only [fX11_laws, fX12_laws, h7, ht, ↓reduceIte, Option.bind_some, or_self, or_false, false_or, or_true, true_or, and_true, true_and, and_false, false_and, not_true_eq_false, not_false_eq_true, pz_10, pz_01, eq_self]
    exact ⟨_, _, rfl, rfl, rfl, pz_tr4 _ (pz_ro 0 _ hI)⟩
  have h7 : mo.1.1 7 = 1 := h7
  rcases pz_wiN N x1 0 1 0 1 with h1 | ⟨h1, x, -, hx, rfl⟩
  · simp only [fX11_laws, fX12_laws, h7, ht, pz_in_0_1, h1, ↓reduceIte, Option.bind_some, or_self, or_false, false_or, or_true, true_or, and_true, true_and, and_false, false_and, not_true_eq_false, not_false_eq_true, pz_10, pz_01, eq_self]
    exact ⟨_, _, rfl, rfl, rfl, pz_tr4 _ (pz_ro 0 _ hI)⟩
  have hn := (pz_A_n hA).1
  have hx' : nI x = 0 ∨ nI x = 1 := by
    rcases (show x = 0 ∨ x = 1 by omega) with rfl | rfl
    · exact .inl rfl
    · exact .inr rfl
  have z0 : nI 0 = (0 : Int32) := rfl
  have k0 : (0 : Int32).toNatClampNeg = 0 := rfl
  -- the reference keeps HOW aside
  obtain ⟨g, e1, e2, -⟩ := pz_laws_l1 N (nI x) N 0 (zMi mo 0 0) (by omega) (by omega)
  rw [z0] at e1
  generalize hm1 : zMA (zMA (zMi mo 0 0) 25 g) 5 (upd ((zMA (zMi mo 0 0) 25 g).1.2 5) 0 (nI x)) = m1 at *
  have m15 : m1.1.2 5 = upd (mo.1.2 5) 0 (nI x) := by rw [← hm1]; exact pz_MA _ _ _
  have hA' : pz_A (m1.1.2 5) K P Q T := by rw [m15]; exact pz_A_law hA hx'
  obtain ⟨H2, b1, b2⟩ := pz_begR N hN hA'
  -- the class' land on trial
  obtain ⟨T1, t1, t2⟩ := pz_take N hN (L := la 4) (pz_whoN hI)
  have hT1 := pz_L_s t2 (by omega) (by omega) (by omega) hL
  obtain ⟨T2, c1, c2, c3, c4, -, c6⟩ := pz_begC N hN (L := zLi (zLi T1 0 (nI x)) 3 0) hA' (by rw [m15]; exact pz_Lp_law hT1 (nI x))
  have hL2 := pz_L_cg (B := m1.1.2 5) (G := H2) (fun i _ => rfl) b2 (by omega) (by omega) (by omega) c2
  have hH2 : pz_H H2 K P := pz_H_cg b2 (by omega) (by omega) (pz_bH_H hA')
  have hd := hI.2.2.2.2.2.2.2.2.2
  obtain ⟨dr, hdr, hmd⟩ := hd
  have m8 : (zMA m1 8 H2).1.2 8 = H2 := pz_MA _ _ _
  obtain ⟨T3, H3, d3, y1, y2, y3, y4⟩ := pz_lwL N hN (mo.1.2 5 0) hA' N 0 T2 (zMA m1 8 H2) 1 dr (by omega) (by omega) rfl (by rw [m8]; exact hH2) (by rw [m8]; exact hL2) c3 (by omega) hdr (by
    show m1.2 = _
    rw [← hm1]
    exact hmd)
  rw [z0] at y1 y2
  have m85 : (zMd (zMA (zMA m1 8 H2) 8 H3) (lN d3)).1.2 8 = H3 := pz_MA _ _ _
  obtain ⟨v, s1, s2⟩ := pz_lwS N (mo := zMd (zMA (zMA m1 8 H2) 8 H3) (lN d3)) (mo.1.2 5 0) hA' (by rw [m85]; exact y3) N 0 0 (by omega) (by omega)
  rw [z0] at s1 s2
  -- what was aside comes back
  obtain ⟨f, f1, f2, -⟩ := pz_laws_l4 N v N 0 (zMA (zMd (zMA (zMA m1 8 H2) 8 H3) (lN d3)) 5 (upd ((zMd (zMA (zMA m1 8 H2) 8 H3) (lN d3)).1.2 5) 0 (mo.1.2 5 0))) (by omega) (by omega)
  rw [z0] at f1
  have l1 : T2.1.1 1 = nI T := c2.2.2.2.1.trans (pz_A_n hA').2.2.2.2.1
  have ex : fX11_laws N KL kc (la on.2.1) (la 4) (nI x) = some (v, T3) := by
    simp only [fX11_laws, fX2_earnedByLaw, fX4_passYears, fX4_earnedByAll, ht, pz_in_0_1, h1, t1, c1, l1, nI_1, ↓reduceIte, Option.bind_some, or_self, or_false, false_or, or_true, true_or, and_true, true_and, and_false, false_and, not_true_eq_false, not_false_eq_true, pz_10, pz_01, eq_self]
    rw [show (1 : Int32) = nI 1 from rfl, y1, Option.bind_some, Option.bind_some, s1]
    rfl
  have er : fX12_laws N mo (nI x) = some (v, zMA (zMA (zMd (zMA (zMA m1 8 H2) 8 H3) (lN d3)) 5 (upd ((zMd (zMA (zMA m1 8 H2) 8 H3) (lN d3)).1.2 5) 0 (mo.1.2 5 0))) 8 f) := by
    have q : (zMA (zMi mo 0 0) 25 g).1.2 5 0 = mo.1.2 5 0 := rfl
    simp only [fX12_laws, h7, pz_in_0_1, h1, e1, k0, hm1, b1, q, y2, s2, f1, ↓reduceIte, Option.bind_some, or_self, or_false, false_or, or_true, true_or, and_true, true_and, and_false, false_and, not_true_eq_false, not_false_eq_true, pz_10, pz_01, eq_self]
  rw [ex, er]
  have bk : upd ((zMd (zMA (zMA m1 8 H2) 8 H3) (lN d3)).1.2 5) 0 (mo.1.2 5 0) = mo.1.2 5 := by
    show upd (m1.1.2 5) 0 (mo.1.2 5 0) = _
    rw [m15, pz_upd2, pz_upd]
  have hf : ∀ i, i < 77 → f i = mo.1.2 8 i := by
    intro i hi
    rw [f2 i (by omega) hi]
    show m1.1.2 25 i = _
    rw [← hm1]
    exact e2 i (by omega) hi
  have m1' : ∀ j, j ≠ 5 → (j < 22 ∨ 26 ≤ j) → m1.1.2 j = mo.1.2 j := by
    intro j h5 hj
    rw [← hm1]
    show va_up (va_up mo.1.2 25 g) 5 _ j = _
    rw [va_up_ne _ _ h5, va_up_ne _ _ (by omega)]
  have m1i : m1.1.1 = (zMi mo 0 0).1.1 := by rw [← hm1]; rfl
  refine ⟨_, _, rfl, rfl, rfl, pz_tr4 _ (pz_nw hI (.inr ⟨?_, K, P, Q, T, ?_, ?_, ?_, ?_⟩) (pz_whoN hI) ?_ ?_ ?_ ?_ ?_ ⟨d3, y4, rfl⟩)⟩
  · show m1.1.1 7 = 1
    rw [m1i]
    exact h7
  · show pz_A (upd ((zMd (zMA (zMA m1 8 H2) 8 H3) (lN d3)).1.2 5) 0 (mo.1.2 5 0)) K P Q T
    rw [bk]
    exact hA
  · show pz_H f K P
    exact pz_H_cg hf (by omega) (by omega) hH
  · show pz_L KL kc (la on.2.1) (upd ((zMd (zMA (zMA m1 8 H2) 8 H3) (lN d3)).1.2 5) 0 (mo.1.2 5 0)) f K P Q
    rw [bk]
    exact pz_L_cg (fun i _ => rfl) hf (by omega) (by omega) (by omega) hL
  · show _ = upd ((zMd (zMA (zMA m1 8 H2) 8 H3) (lN d3)).1.2 5) 0 (mo.1.2 5 0) 5
    rw [bk]
    exact hl
  · show m1.1.1 1 = _
    rw [m1i]
    rfl
  · intro j h5 h8 hj
    show va_up (va_up (va_up (va_up m1.1.2 8 H2) 8 H3) 5 _) 8 f j = _
    rw [va_up_ne _ _ h8, va_up_ne _ _ h5, va_up_ne _ _ h8, va_up_ne _ _ h8]
    exact m1' j h5 hj
  · intro j h9 h20
    show m1.1.1 j = _
    rw [m1i]
    exact pk_un (by omega)
  · show m1.1.1 30 = _
    rw [m1i]
    rfl
  · show m1.1.1 7 = _
    rw [m1i]
    rfl
