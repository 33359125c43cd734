/-! THE PURE LAYER: image, restore -/
theorem pz_img_cg {KL : List Nat} {kc : Nat → zKC} {L : zLS} {mo mo' : zMS} {q : Nat} (h : pz_img KL kc L mo q) (e26 : mo'.1.2 26 q = mo.1.2 26 q) (e7 : mo'.1.1 7 = mo.1.1 7) (e27 : ∀ i, i < 58 → mo'.1.2 27 (58 * q + i) = mo.1.2 27 (58 * q + i)) (e28 : ∀ i, i < 77 → mo'.1.2 28 (77 * q + i) = mo.1.2 28 (77 * q + i)) : pz_img KL kc L mo' q := by
  rcases h with ⟨a, b⟩ | ⟨a, b, c⟩
  · exact .inl ⟨e26.trans a, b⟩
  · exact .inr ⟨e26.trans a, e7.trans b, pz_land_cg e27 e28 c⟩
theorem pz_told (N : Nat) {KL : List Nat} {kc : Nat → zKC} {L : zLS} {A H : Nat → Int32} (h : pz_land KL kc L A H) : fX4_isTold N L = some 1 := by
  obtain ⟨K, P, Q, T, hA, hH, hL, hl⟩ := h
  unfold fX4_isTold
  rw [hL.1, (pz_A_n hA).2.1]
  have := (pz_A_n hA).1
  rw [if_neg (nI_nle (by omega) (by omega))]
set_option maxHeartbeats 4000000 in
set_option maxRecDepth 100000 in
theorem ps_image {N : Nat} (hN : 200000 ≤ N) : zStep_image N pz_Inv := by
  intro KL kc on rw rd ft tr la mo hI x1
  rcases pz_wiN N x1 0 1 0 1 with h1 | ⟨h1, k, -, hk, rfl⟩
  · simp only [fX11_image, fX12_image, pz_in_0_1, h1, ↓reduceIte, Option.bind_some, or_self, or_false, false_or, or_true, true_or, and_true, true_and, and_false, false_and, not_true_eq_false, not_false_eq_true, pz_10, pz_01, eq_self]
    refine ⟨_, _, rfl, rfl, rfl, ?_⟩
    rw [pz_upA, pz_upA]
    exact hI
  have hj : (if nI k = 0 then 0 else 1) = k := by
    rcases (show k = 0 ∨ k = 1 by omega) with rfl | rfl
    · exact if_pos rfl
    · exact if_neg (by decide)
  rw [hj]
  rcases pz_nows N (mo := zMi mo 0 0) hI.2.2.2.2.2.1 with ⟨h7, -, -, -, -, ht⟩ | ⟨h7, ht, K, P, Q, T, hA, hH, hL, hl, -⟩
  · have h7 : mo.1.1 7 = 0 := h7
    simp only [fX11_image, fX12_image, pz_in_0_1, h1, h7, ht, ↓reduceIte, Option.bind_some, or_self, or_false, false_or, or_true, true_or, and_true, true_and, and_false, false_and, not_true_eq_false, not_false_eq_true, pz_10, pz_01, eq_self]
    refine ⟨_, _, rfl, rfl, rfl, ?_⟩
    rw [pz_upA, pz_upA]
    exact hI
  have h7 : mo.1.1 7 = 1 := h7
  obtain ⟨L', t1, t2⟩ := pz_take N hN (L := la k) (pz_whoN hI)
  obtain ⟨g, e1, e2, e3⟩ := pz_image_l1 N (k := k) (by omega) N 0 (zMi mo 0 0) (by omega) (by omega)
  obtain ⟨f, f1, f2, f3⟩ := pz_image_l2 N (k := k) (by omega) N 0 (zMA (zMi mo 0 0) 27 g) (by omega) (by omega)
  rw [show nI 0 = (0 : Int32) from rfl] at e1 f1
  have i2 := pz_ni (show k < 2 by omega) (by omega)
  have cl := nI_clamp (show k < 2 ^ 31 by omega)
  simp only [fX11_image, fX12_image, pz_in_0_1, h1, h7, ht, t1, e1, f1, i2, cl, ↓reduceIte, Option.bind_some, or_self, or_false, false_or, or_true, true_or, and_true, true_and, and_false, false_and, not_true_eq_false, not_false_eq_true, pz_10, pz_01, eq_self]
  refine ⟨_, _, rfl, rfl, rfl, ?_⟩
  rw [pz_upA]
  obtain ⟨h0, hs, hr, hd, htr, hn, i0, i1, hwh, hdr⟩ := hI
  have n0 : on.2.1 ≠ 0 ∧ on.2.1 ≠ 1 := by rcases h0 with ⟨a, b⟩ | ⟨a, b⟩ <;> omega
  refine ⟨h0, hs, hr, hd, htr, ?_, ?_, ?_, ?_, hdr⟩
  · rw [va_up_ne _ _ (by omega)]
    exact hn
  · by_cases c : k = 0
    · subst c
      rw [va_up_self]
      refine .inr ⟨rfl, h7, pz_land_s t2 (pz_land_cg ?_ ?_ ⟨K, P, Q, T, hA, hH, hL, hl⟩)⟩
      · intro i hi
        exact e2 i (by omega) hi
      · intro i hi
        exact f2 i (by omega) hi
    · rw [va_up_ne _ _ (Ne.symm c)]
      refine pz_img_cg i0 ?_ rfl ?_ ?_
      · show upd (mo.1.2 26) k _ 0 = _
        exact pk_un (Ne.symm c)
      · intro i hi
        exact e3 _ (by omega)
      · intro i hi
        exact f3 _ (by omega)
  · by_cases c : k = 1
    · subst c
      rw [va_up_self]
      refine .inr ⟨rfl, h7, pz_land_s t2 (pz_land_cg ?_ ?_ ⟨K, P, Q, T, hA, hH, hL, hl⟩)⟩
      · intro i hi
        exact e2 i (by omega) hi
      · intro i hi
        exact f2 i (by omega) hi
    · rw [va_up_ne _ _ (Ne.symm c)]
      refine pz_img_cg i1 ?_ rfl ?_ ?_
      · show upd (mo.1.2 26) k _ 1 = _
        exact pk_un (Ne.symm c)
      · intro i hi
        exact e3 _ (by omega)
      · intro i hi
        exact f3 _ (by omega)
  · intro j hj k' a hk' ha
    unfold va_up at ha
    split at ha
    · exact pz_who_s t2 (hwh on.2.1 (by rcases h0 with ⟨a, b⟩ | ⟨a, b⟩ <;> omega)) k' a hk' ha
    · exact hwh j hj k' a hk' ha
set_option maxHeartbeats 4000000 in
set_option maxRecDepth 100000 in
theorem ps_restore {N : Nat} (hN : 200000 ≤ N) : zStep_restore N pz_Inv := by
  intro KL kc on rw rd ft tr la mo hI x1
  rcases pz_wiN N x1 0 1 0 1 with h1 | ⟨h1, k, -, hk, rfl⟩
  · simp only [fX11_restore, fX12_restore, pz_in_0_1, h1, ↓reduceIte, Option.bind_some, or_self, or_false, false_or, or_true, true_or, and_true, true_and, and_false, false_and, not_true_eq_false, not_false_eq_true, pz_10, pz_01, eq_self]
    refine ⟨_, _, rfl, rfl, rfl, ?_⟩
    rw [pz_upA, pz_upA]
    exact hI
  have hj : (if nI k = 0 then 0 else 1) = k := by
    rcases (show k = 0 ∨ k = 1 by omega) with rfl | rfl
    · exact if_pos rfl
    · exact if_neg (by decide)
  rw [hj]
  have i2 := pz_ni (show k < 2 by omega) (by omega)
  have cl := nI_clamp (show k < 2 ^ 31 by omega)
  have im : pz_img KL kc (la k) mo k := by
    rcases (show k = 0 ∨ k = 1 by omega) with rfl | rfl
    · exact hI.2.2.2.2.2.2.1
    · exact hI.2.2.2.2.2.2.2.1
  rcases im with ⟨a, b⟩ | ⟨a, h7, c⟩
  · have ht : fX4_isTold N (la k) = some 0 := by
      unfold fX4_isTold
      rw [b]; rfl
    simp only [fX11_restore, fX12_restore, pz_in_0_1, h1, i2, cl, a, ht, ↓reduceIte, Option.bind_some, or_self, or_false, false_or, or_true, true_or, and_true, true_and, and_false, false_and, not_true_eq_false, not_false_eq_true, pz_10, pz_01, eq_self]
    refine ⟨_, _, rfl, rfl, rfl, ?_⟩
    rw [pz_upA, pz_upA]
    exact hI
  · have ht := pz_told N c
    obtain ⟨L', t1, t2⟩ := pz_take N hN (L := la on.2.1) (hI.2.2.2.2.2.2.2.2.1 k (by omega))
    obtain ⟨g, e1, e2, e3⟩ := pz_restore_l1 N (k := k) (by omega) N 0 (zMi mo 0 0) (by omega) (by omega)
    obtain ⟨f, f1, f2, f3⟩ := pz_restore_l2 N (k := k) (by omega) N 0 (zMA (zMi mo 0 0) 5 g) (by omega) (by omega)
    rw [show nI 0 = (0 : Int32) from rfl] at e1 f1
    simp only [fX11_restore, fX12_restore, pz_in_0_1, h1, i2, cl, a, ht, t1, e1, f1, ↓reduceIte, Option.bind_some, or_self, or_false, false_or, or_true, true_or, and_true, true_and, and_false, false_and, not_true_eq_false, not_false_eq_true, pz_10, pz_01, eq_self]
    refine ⟨_, _, rfl, rfl, rfl, ?_⟩
    have n0 : on.2.1 ≠ k := by rcases hI.1 with ⟨a, b⟩ | ⟨a, b⟩ <;> omega
    have eu : va_up (va_up la on.2.1 L') k (la k) = va_up la on.2.1 L' := by
      funext j
      unfold va_up
      by_cases c1 : j = k
      · rw [if_pos c1, if_neg (by omega), c1]
      · rw [if_neg c1]
    rw [eu]
    refine pz_nw hI (.inr ⟨h7, pz_land_s t2 (pz_land_cg ?_ ?_ c)⟩) (pz_who_s t2 (hI.2.2.2.2.2.2.2.2.1 k (by omega))) rfl ?_ (fun j h _ => pk_un (by omega)) rfl rfl hI.2.2.2.2.2.2.2.2.2
    · intro i hi
      exact e2 i (by omega) hi
    · intro i hi
      exact f2 i (by omega) hi
    · intro j h5 h8 _
      show va_up (va_up mo.1.2 5 g) 8 f j = _
      rw [va_up_ne _ _ h8, va_up_ne _ _ h5]
