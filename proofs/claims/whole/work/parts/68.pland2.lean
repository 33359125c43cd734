/-! THE PURE LAYER: land -/
theorem pz_kp_x {KL KL' : List Nat} {kc kc' : Nat → zKC} {L : zLS} {A : Nat → Int32} {k : Nat} (e : pz_ex KL kc KL' kc') (h : pz_kp KL kc L A k) : pz_kp KL' kc' L A k := by
  obtain ⟨a, h1, h2, h3⟩ := h
  exact ⟨a, h1, (e a h2).1, (e a h2).2.trans h3⟩
theorem pz_L_x {KL KL' : List Nat} {kc kc' : Nat → zKC} {L : zLS} {A H : Nat → Int32} {K P Q : Nat} (e : pz_ex KL kc KL' kc') (h : pz_L KL kc L A H K P Q) : pz_L KL' kc' L A H K P Q := by
  obtain ⟨l6, l7, l2, l1, l0, l4, l5, l8, l9, l12, l15, l14, lk⟩ := h
  exact ⟨l6, l7, l2, l1, l0, l4, l5, l8, l9, l12, l15, l14, fun k hk => pz_kp_x e (lk k hk)⟩
theorem pz_land_x {KL KL' : List Nat} {kc kc' : Nat → zKC} {L : zLS} {A H : Nat → Int32} (e : pz_ex KL kc KL' kc') (h : pz_land KL kc L A H) : pz_land KL' kc' L A H := by
  obtain ⟨K, P, Q, T, h1, h2, h3, h4⟩ := h
  exact ⟨K, P, Q, T, h1, h2, pz_L_x e h3, h4⟩
theorem pz_now_x {KL KL' : List Nat} {kc kc' : Nat → zKC} {L : zLS} {mo mo' : zMS} (e : pz_ex KL kc KL' kc') (e7 : mo'.1.1 7 = mo.1.1 7) (e5 : mo'.1.2 5 = mo.1.2 5) (e8 : mo'.1.2 8 = mo.1.2 8) (h : pz_now KL kc L mo) : pz_now KL' kc' L mo' := by
  unfold pz_now
  rw [e7, e5, e8]
  rcases h with h | ⟨h, g⟩
  · exact .inl h
  · exact .inr ⟨h, pz_land_x e g⟩
theorem pz_img_x {KL KL' : List Nat} {kc kc' : Nat → zKC} {L : zLS} {mo mo' : zMS} {k : Nat} (e : pz_ex KL kc KL' kc') (e7 : mo.1.1 7 = 1 → mo'.1.1 7 = 1) (e26 : mo'.1.2 26 = mo.1.2 26) (e27 : mo'.1.2 27 = mo.1.2 27) (e28 : mo'.1.2 28 = mo.1.2 28) (h : pz_img KL kc L mo k) : pz_img KL' kc' L mo' k := by
  unfold pz_img
  rw [e26, e27, e28]
  rcases h with h | ⟨h, g, i⟩
  · exact .inl h
  · exact .inr ⟨h, e7 g, pz_land_x e i⟩
/-- all else is as it was -/
theorem pz_lnd {KL KL' : List Nat} {kc kc' : Nat → zKC} {on on' : zNS} {rw rd rd' ft tr : zOS} {la : Nat → zLS} {mo mo' : zMS} {X : zLS} (hI : pz_Inv KL kc on rw rd ft tr la mo) (e : pz_ex KL kc KL' kc') (hon : zOn on') (hf : on'.1 = on.1) (hw : pz_who KL' kc' X) (hnow : pz_now KL' kc' (va_up la on.2.2 X on'.2.1) mo') (hr0 : rd'.1 0 = 0) (hr1 : rd'.1 1 = mo'.1.1 11) (e10 : mo'.1.1 10 = 0) (e1 : mo'.1.1 1 = mo.1.1 1) (e30 : mo'.1.1 30 = mo.1.1 30) (ea : ∀ j, j ≠ 5 → j ≠ 6 → j ≠ 8 → mo'.1.2 j = mo.1.2 j) (e7 : mo.1.1 7 = 1 → mo'.1.1 7 = 1) (ed : mo'.2 = mo.2) : pz_Inv KL' kc' on' rw rd' ft tr (va_up la on.2.2 X) mo' := by
  obtain ⟨h1, h2, h3, h4, h5, h6, h7, h8, h9, h10⟩ := hI
  have ne : on.2.2 = 2 ∨ on.2.2 = 3 := by rcases h1 with ⟨-, b⟩ | ⟨-, b⟩ <;> omega
  refine ⟨hon, hf.trans (h2.trans e1.symm), ?_, ⟨hr1, 0, by omega, hr0, e10, fun i hi => by omega⟩, ?_, hnow, ?_, ?_, ?_, ?_⟩
  · intro r hr
    rw [ea 2 (by omega) (by omega) (by omega), ea 3 (by omega) (by omega) (by omega), ea 4 (by omega) (by omega) (by omega)]
    exact h3 r hr
  · unfold pz_tr
    rw [e30, ea 29 (by omega) (by omega) (by omega)]
    exact h5
  · rw [va_up_ne _ _ (by omega)]
    exact pz_img_x e e7 (ea 26 (by omega) (by omega) (by omega)) (ea 27 (by omega) (by omega) (by omega)) (ea 28 (by omega) (by omega) (by omega)) h7
  · rw [va_up_ne _ _ (by omega)]
    exact pz_img_x e e7 (ea 26 (by omega) (by omega) (by omega)) (ea 27 (by omega) (by omega) (by omega)) (ea 28 (by omega) (by omega) (by omega)) h8
  · intro j hj
    by_cases c : j = on.2.2
    · rw [c, va_up_self]
      exact hw
    · rw [va_up_ne _ _ c]
      exact pz_who_x (h9 j hj) e
  · rw [ed]
    exact h10
set_option maxHeartbeats 4000000 in
set_option maxRecDepth 100000 in
theorem ps_land {N : Nat} (hN : 200000 ≤ N) : zStep_land N pz_Inv := by
  intro KL kc on rw rd ft tr la mo hI hb hlt
  have hI0 := hI
  obtain ⟨hon, hnf, hrw, ⟨h1, n, n5, r0, m10, hB⟩, htr, hnow, him0, him1, hwho, hdr⟩ := hI
  have ex : ∃ B : Nat → Nat, ∀ i, i < n → B i < 256 ∧ mo.1.2 9 i = nI (B i) ∧ rd.2 3 i = pz_sb (B i) := by
    refine ⟨fun i => if h : i < n then (hB i h).choose else 0, fun i hi => ?_⟩
    have := (hB i hi).choose_spec
    show (if h : i < n then (hB i h).choose else 0) < 256 ∧ mo.1.2 9 i = nI (if h : i < n then (hB i h).choose else 0) ∧ rd.2 3 i = pz_sb (if h : i < n then (hB i h).choose else 0)
    rw [dif_pos hi]
    exact this
  obtain ⟨B, hB⟩ := ex
  have o2 : on.2.1 ≠ on.2.2 ∧ on.2.2 < 4 ∧ (on.2.2 = 2 ∨ on.2.2 = 3) := by rcases hon with ⟨a, b⟩ | ⟨a, b⟩ <;> omega
  -- the reference's empty rows
  obtain ⟨G, f1, f2, -⟩ := pz_ll1 N N 0 (zMi (zMi (zMi (zMi (zMi mo 0 (0 : Int32)) 12 (mo.1.1 10)) 10 (0 : Int32)) 13 (0 : Int32)) 17 (0 : Int32)) (by omega) (by omega)
  rw [show nI 0 = (0 : Int32) from rfl] at f1
  generalize hm0 : zMA (zMi (zMi (zMi (zMi (zMi mo 0 (0 : Int32)) 12 (mo.1.1 10)) 10 (0 : Int32)) 13 (0 : Int32)) 17 (0 : Int32)) 6 G = m0 at *
  have i10 : m0.1.1 10 = 0 := by rw [← hm0]; rfl
  have i12 : m0.1.1 12 = nI n := by rw [← hm0]; exact m10
  have i13 : m0.1.1 13 = nI 0 := by rw [← hm0]; rfl
  have i17 : m0.1.1 17 = 0 := by rw [← hm0]; rfl
  have i11 : m0.1.1 11 = mo.1.1 11 := by rw [← hm0]; rfl
  have i1 : m0.1.1 1 = mo.1.1 1 := by rw [← hm0]; rfl
  have i7 : m0.1.1 7 = mo.1.1 7 := by rw [← hm0]; rfl
  have i30 : m0.1.1 30 = mo.1.1 30 := by rw [← hm0]; rfl
  have a6 : m0.1.2 6 = G := by rw [← hm0]; exact pz_MA _ _ _
  have aj : ∀ j, j ≠ 6 → m0.1.2 j = mo.1.2 j := by
    intro j hj
    rw [← hm0]
    exact va_up_ne _ _ hj
  have ed : m0.2 = mo.2 := by rw [← hm0]; rfl
  have hT : pz_T B n (zpi (zpi rd 4 (0 : Int32)) 6 (0 : Int32)) m0 := by
    refine ⟨n5, r0, i12, fun i hi => ?_⟩
    obtain ⟨b1, b2, b3⟩ := hB i hi
    rw [aj 9 (by omega)]
    exact ⟨b1, b3, b2⟩
  have hw0 : pz_who KL kc (zLi (zLi (zLi (la on.2.2) 2 (0 : Int32)) 6 (0 : Int32)) 7 (0 : Int32)) := hwho on.2.2 o2.2.1
  obtain ⟨r1, r2, r3, r4, r5, r6, KL', kc', hb', m1, m2, m3, m4, m5, m6, m7, m8, mf, ⟨c1, c2, c3, c4, c5, c6⟩, ⟨d1, d2, d3, d4, d5, d6, d7, d8⟩, hfin, hR, hfr, hex, hwx, hok⟩ := pz_chain N hN hT rfl i13 i17 (h1.trans i11.symm) (L := zLi (zLi (zLi (la on.2.2) 2 (0 : Int32)) 6 (0 : Int32)) 7 (0 : Int32)) rfl rfl rfl (by rw [a6]; exact f2 2 (by omega) (by omega)) (by rw [a6]; exact f2 3 (by omega) (by omega)) (by rw [a6]; exact f2 4 (by omega) (by omega)) hlt hw0
  obtain ⟨g1, g2, g3⟩ := hfr
  by_cases c17 : mf.1.1 17 = 0
  · -- told
    obtain ⟨K, P, Q, T, hA, hL, h3⟩ := hok c17
    have hm8 : m8.1.1 17 = 0 ∧ m8.1.1 14 = 1 ∧ mf = m8 := by
      rcases hfin with h | ⟨-, -, -, h⟩ | ⟨h, e⟩
      · exact h
      · exact absurd c17 h
      · rw [e] at c17
        exact absurd c17 h
    obtain ⟨s17, s14, se⟩ := hm8
    subst se
    obtain ⟨L', b1, b2, b3, b4, -⟩ := pz_begC N hN hA hL
    obtain ⟨C, p1, p2, -⟩ := pz_ll6 N N 0 (zMi mf 7 (1 : Int32)) (by omega) (by omega)
    rw [show nI 0 = (0 : Int32) from rfl] at p1
    have p2 : ∀ i, i < 58 → C i = mf.1.2 6 i := fun i hi => p2 i (by omega) hi
    have hn := (pz_A_n hA).1
    have hA5 : pz_A ((zMA (zMi mf 7 (1 : Int32)) 5 C).1.2 5) K P Q T := by
      rw [pz_MA]
      exact pz_A_cg p2 hA
    obtain ⟨H', q1, q2⟩ := pz_begR N hN hA5
    rw [pz_MA] at q2 hA5
    have rs : ¬ r6.1.1 4 = 6 := (pz_sr hR c17).2.2.1
    have le0 : mf.1.1 17 ≤ 0 := by rw [c17]; exact Int32.le_refl _
    have hbH : ∀ i, i < 77 → H' i = pz_bH (mf.1.2 6) K P i := by
      intro i hi
      rw [q2 i hi]
      exact pz_bH_cg p2 (by omega) (by omega) i
    have hL' := pz_L_cg p2 hbH (by omega) (by omega) (by omega) b2
    have ec : fX11_land N KL kc hb on rd (la on.2.2) = some (L'.1.1 6, KL', kc', hb', (on.1, on.2.2, on.2.1), zpi r6.1 0 0, L') := by
      simp only [fX11_land, fX6_readInto, fX4_forget, fX6_empty, c1, c2, c3, c4, c5, c6, b1, rs, pz_10, ↓reduceIte, Option.bind_some, or_self, or_false, false_or, or_true, true_or, and_true, true_and, and_false, false_and, not_true_eq_false, not_false_eq_true]
    have er : fX12_land N mo = some (C 3, zMA (zMA (zMi mf 7 (1 : Int32)) 5 C) 8 H') := by
      simp only [fX12_land, f1, d1, d2, d3, d4, d5, d6, d7, d8, s17, s14, le0, p1, q1, (show (0 : Int32) ≤ 0 by decide), ↓reduceIte, Option.bind_some, or_self, or_false, false_or, or_true, true_or, and_true, true_and, and_false, false_and, not_true_eq_false, not_false_eq_true]
      rfl
    rw [ec, er]
    refine ⟨_, _, rfl, rfl, ?_, ?_⟩
    · show L'.1.1 6 = C 3
      exact hL'.1
    · have x8 : (zMA (zMA (zMi mf 7 (1 : Int32)) 5 C) 8 H').1.2 8 = H' := pz_MA _ _ _
      have x5 : (zMA (zMA (zMi mf 7 (1 : Int32)) 5 C) 8 H').1.2 5 = C := by
        show va_up (va_up mf.1.2 5 C) 8 H' 5 = C
        rw [va_up_ne _ _ (by omega), va_up_self]
      refine pz_lnd hI0 hex ?_ rfl (fun k a hk ha => hwx k a hk (by rw [← b4]; exact ha)) (.inr ⟨rfl, ?_⟩) rfl ?_ ?_ ?_ ?_ ?_ (fun _ => rfl) (g2.trans ed)
      · rcases hon with ⟨a, b⟩ | ⟨a, b⟩
        · exact .inr ⟨b, a⟩
        · exact .inl ⟨b, a⟩
      · rw [x8, x5]
        show pz_land KL' kc' (va_up la on.2.2 L' on.2.2) C H'
        rw [va_up_self]
        refine ⟨K, P, Q, T, hA5, pz_H_cg q2 (by omega) (by omega) (pz_bH_H hA5), hL', ?_⟩
        rw [b3, h3, p2 5 (by omega)]
      · show r6.1.1 1 = mf.1.1 11
        rcases pz_R0 hR with ⟨-, x, -⟩ | ⟨x, -⟩
        · exact x
        · exact absurd c17 x
      · show mf.1.1 10 = 0
        rw [g3 10 (by omega), i10]
      · show mf.1.1 1 = _
        rw [g3 1 (by omega), i1]
      · show mf.1.1 30 = _
        rw [g3 30 (by omega), i30]
      · intro j h5 h6 h8
        show va_up (va_up mf.1.2 5 C) 8 H' j = _
        rw [va_up_ne _ _ h8, va_up_ne _ _ h5, g1 j h6, aj j h6]
  · -- a fault
    obtain ⟨L', b1, b2⟩ := pz_btT N hN hwx
    have r6f := pz_F6 hR c17
    have hq : ∃ q, 1 ≤ q ∧ q ≤ 3 ∧ r6.1.1 1 = nI q ∧ mf.1.1 17 = nI q ∧ r6.1.1 2 = mf.1.1 18 := by
      rcases hR.2.2 with ⟨x, -⟩ | ⟨-, x⟩
      · exact absurd x c17
      · exact x
    obtain ⟨q, q1, q3, w1, w17, w2⟩ := hq
    have le0 : ¬ mf.1.1 17 ≤ 0 := by rw [w17]; exact nI_nle (by omega) (by omega)
    have ec : fX11_land N KL kc hb on rd (la on.2.2) = some ((-1000100 : Int32) - r6.1.1 2, KL', kc', hb', on, zpi r6.1 0 0, L') := by
      simp only [fX11_land, fX6_readInto, fX4_forget, fX6_empty, c1, c2, c3, c4, c5, c6, b1, r6f, ↓reduceIte, Option.bind_some, or_self, or_false, false_or, or_true, true_or, and_true, true_and, and_false, false_and, not_true_eq_false, not_false_eq_true, pz_10, pz_01, eq_self]
      rfl
    have er : fX12_land N mo = some ((-1000100 : Int32) - mf.1.1 18, zMi mf 11 (mf.1.1 17)) := by
      rcases hfin with ⟨h, -, e⟩ | ⟨h, h14, hbd, -⟩ | ⟨h, e⟩
      · rw [e] at c17
        exact absurd h c17
      · simp only [fX12_land, f1, d1, d2, d3, d4, d5, d6, d7, d8, h, h14, hbd, le0, ↓reduceIte, Option.bind_some, or_self, or_false, false_or, or_true, true_or, and_true, true_and, and_false, false_and, not_true_eq_false, not_false_eq_true]
      · subst e
        simp only [fX12_land, f1, d1, d2, d3, d4, d5, d6, d7, d8, c17, le0, ↓reduceIte, Option.bind_some, or_self, or_false, false_or, or_true, true_or, and_true, true_and, and_false, false_and, not_true_eq_false, not_false_eq_true]
    rw [ec, er]
    refine ⟨_, _, rfl, rfl, ?_, ?_⟩
    · show (-1000100 : Int32) - r6.1.1 2 = (-1000100 : Int32) - mf.1.1 18
      rw [w2]
    · have e7 : (zMi mf 11 (mf.1.1 17)).1.1 7 = mo.1.1 7 := by
        show mf.1.1 7 = _
        rw [g3 7 (by omega), i7]
      refine pz_lnd hI0 hex hon rfl (fun k a hk ha => hwx k a hk (by rw [← b2]; exact ha)) ?_ rfl ?_ ?_ ?_ ?_ ?_ (fun h => e7.trans h) (g2.trans ed)
      · show pz_now KL' kc' (va_up la on.2.2 L' on.2.1) (zMi mf 11 (mf.1.1 17))
        rw [va_up_ne _ _ o2.1]
        refine pz_now_x hex e7 ?_ ?_ hnow
        · show mf.1.2 5 = _
          rw [g1 5 (by omega), aj 5 (by omega)]
        · show mf.1.2 8 = _
          rw [g1 8 (by omega), aj 8 (by omega)]
      · show r6.1.1 1 = mf.1.1 17
        rw [w1, w17]
      · show mf.1.1 10 = 0
        rw [g3 10 (by omega), i10]
      · show mf.1.1 1 = _
        rw [g3 1 (by omega), i1]
      · show mf.1.1 30 = _
        rw [g3 30 (by omega), i30]
      · intro j h5 h6 h8
        show mf.1.2 j = _
        rw [g1 j h6, aj j h6]
