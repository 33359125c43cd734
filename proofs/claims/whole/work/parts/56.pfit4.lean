/-! THE PURE LAYER: fit: all sets -/
theorem pz_bit0 {t k : Nat} (ht : t < 64) (hk : k < 6) : ¬ pz_hb t k → ¬ ((nI t >>> (nI k &&& 31)) &&& 1 = 1) := fun h h2 => h ((pz_bit ht hk).mp h2)
set_option maxHeartbeats 4000000 in
set_option maxRecDepth 100000 in
theorem pz_fits (N : Nat) (hN : 200000 ≤ N) {KL : List Nat} {kc : Nat → zKC} {mo : zMS} {K P Q T t at0 sl : Nat} {ft : zOS} {Tr : zLS} {tt : Nat → Option Nat} (hA : pz_A (mo.1.2 5) K P Q T) (ht : t < 64) (hkp : ∀ k, k < K → ∃ a, kc a = (zko (mo.1.2 5 (24 + k)), nI k, mo.1.2 5 (30 + k), mo.1.2 5 (36 + k))) (h6 : ∀ k, k < K → ft.2 6 k = pz_ov (tt k)) (hb : ∀ k j, tt k = some j → j ≤ T) (hsl : ft.1 2 = nI sl) (sl64 : sl < 64) (hbits : ∀ k, k < 6 → (sl / 2 ^ k % 2 = 1 ↔ k < K ∧ tt k ≠ none)) (hat : at0 + 6 ≤ 320) (hi : ∀ k, k < K → mo.1.2 4 (at0 + k) = pz_ov (tt k)) (hTr : pz_Lb KL kc Tr (mo.1.2 5) K Q) : ∃ (b : Bool) (L' : zLS) (X' : Nat → Int32), fX2_isFit N KL kc ft Tr (nI t) = some (if b then 1 else 0, L') ∧ fX12_fits N mo (nI t) (nI at0) = some (if b then 1 else 0, zMA mo 24 X') ∧ pz_Lb KL kc L' (mo.1.2 5) K Q := by
  obtain ⟨⟨hK1, hK6, hP8, hQ1, hQ8, hT1, hT60⟩, hA3, hA4, hA2, hA1, hA0⟩ := pz_A_n hA
  have z0 : nI 0 = (0 : Int32) := rfl
  have hb60 : pz_Sb tt := fun k j h => by have := hb k j h; omega
  obtain ⟨X0, e1, e2, -⟩ := pz_ft1 N (x1 := nI t) (x2 := nI at0) N 0 mo (by omega) (by omega)
  rw [z0] at e1
  have s0 : pz_Sr (zMA mo 24 X0) (fun _ => none) := fun k hk => by
    rw [pz_MA]
    exact e2 k (by omega) hk
  have s0b : pz_Sb (fun _ => none) := fun k j h => by cases h
  -- the reference's word out of its years
  have ref : ∀ (X' : Nat → Int32) (s' : Nat → Option Nat), fX12_fits_l3 N (nI t) (nI at0) N 0 (zMA mo 24 X0) = some (zMA (zMA mo 24 X0) 24 X') → pz_Sr (zMA (zMA mo 24 X0) 24 X') s' → pz_Sb s' → ∃ b : Bool, fX12_fits N mo (nI t) (nI at0) = some (if b then 1 else 0, zMA mo 24 X') ∧ (b = true ↔ ∀ k, k < K → s' k = tt k) := by
    intro X' s' r1 r2 r3
    rw [pz_MAA] at r1 r2
    obtain ⟨b, f1, f2⟩ := pz_ft5 N (mo := zMA mo 24 X') (at0 := at0) hK6 hat hA3 r2 r3 hb60 hi N 0 true (by omega) (by omega)
    rw [z0] at f1
    simp only [↓reduceIte] at f1
    refine ⟨b, ?_, ?_⟩
    · simp only [fX12_fits, e1, r1, f1, ↓reduceIte, Option.bind_some, or_self, or_false, false_or, or_true, true_or, and_true, true_and, and_false, false_and, not_true_eq_false, not_false_eq_true]
      cases b <;> rfl
    · rw [f2]
      exact ⟨fun h k hk => h.2 k (by omega) hk, fun h => ⟨rfl, fun k _ hk => h k hk⟩⟩
  by_cases c : nI t &&& nI sl = nI sl
  · -- the land on trial begins
    have hA2' := pz_At_A (t := t) (u := Tr.1.2 12 0) hA
    have eo : ∀ i, i ≠ 4 → i ≠ 50 → i ≠ 42 → pz_At (mo.1.2 5) t (Tr.1.2 12 0) i = mo.1.2 5 i := fun i h1 h2 h3 => pz_At_o _ t _ h1 h2 h3
    have e50 : pz_At (mo.1.2 5) t (Tr.1.2 12 0) 50 = nI t := by
      unfold pz_At
      rw [pk_un (by omega), pk_us]
    have hp : pz_Lp KL kc (zLA (zLi Tr 7 (1 : Int32)) 13 (upd (Tr.1.2 13) ((0 : Int32).toNatClampNeg) (nI t))) (pz_At (mo.1.2 5) t (Tr.1.2 12 0)) K 1 Q := by
      obtain ⟨b6, b2, b1, b0, b4, b5, b9, bk⟩ := hTr
      refine ⟨b6.trans (eo 3 (by omega) (by omega) (by omega)).symm, ?_, b2.trans (eo 2 (by omega) (by omega) (by omega)).symm, b1.trans (eo 1 (by omega) (by omega) (by omega)).symm, b0.trans (eo 0 (by omega) (by omega) (by omega)).symm, b4.trans (eo 6 (by omega) (by omega) (by omega)).symm, b5.trans (eo 7 (by omega) (by omega) (by omega)).symm, ?_, ?_, ?_⟩
      · unfold pz_At
        rw [pk_un (by omega), pk_un (by omega), pk_us]
        rfl
      · intro i hi
        rw [eo (8 + i) (by omega) (by omega) (by omega), eo (16 + i) (by omega) (by omega) (by omega)]
        exact b9 i hi
      · intro p hp
        have : p = 0 := by omega
        subst this
        constructor
        · unfold pz_At
          rw [show 42 + 0 = 42 from rfl, pk_us]
          rfl
        · rw [show 50 + 0 = 50 from rfl, e50]
          rfl
      · intro k hk
        unfold pz_kp
        rw [eo (24 + k) (by omega) (by omega) (by omega), eo (30 + k) (by omega) (by omega) (by omega), eo (36 + k) (by omega) (by omega) (by omega)]
        exact bk k hk
    obtain ⟨T0, t1, t2, -⟩ := pz_begC N hN hA2' hp
    have cp0 : pz_Cp KL kc (mo.1.2 5) K Q t 0 (Tr.1.2 12 0) (fun _ => none) T0 := by
      refine ⟨_, t2, pz_bH_0 _ _ _ (by omega), fun o ho => ⟨?_, fun d => ?_, fun d => ?_⟩⟩
      · rw [pz_bH_0 _ _ _ (by omega)]
        exact (if_pos rfl).symm
      · rw [pz_bH_c _ ho (by omega) (by omega), show 50 + 0 = 50 from rfl, e50, if_pos ((pz_bit ht (by omega)).mpr d), eo (36 + o) (by omega) (by omega) (by omega)]
      · rw [pz_bH_c _ ho (by omega) (by omega), show 50 + 0 = 50 from rfl, e50, if_neg (pz_bit0 ht (by omega) d)]
    obtain ⟨X', s', r, L', r1, r2, r3, r4, r5, r6⟩ := pz_yb N hN (x2 := nI at0) hA ht hkp h6 hb N 0 (zMA mo 24 X0) (fun _ => none) T0 (by omega) (by omega) rfl s0 s0b cp0 (fun k hk => by
      cases htk : tt k with
      | none => rfl
      | some j =>
        show (none : Option Nat) = if j < 0 then some j else none
        rw [if_neg (Nat.not_lt_zero j)])
    rw [z0] at r1 r4
    obtain ⟨b, f1, f2⟩ := ref X' s' r1 r2 r3
    have ebw : fX4_beginWith N KL kc Tr (nI t) = some T0 := by
      unfold fX4_beginWith
      rw [t1]
      rfl
    refine ⟨b, L', X', ?_, f1, r5⟩
    rcases r6 with ⟨rfl, q⟩ | ⟨rfl, k, hk, q⟩
    · have hbt : b = true := f2.mpr q
      subst hbt
      simp only [fX2_isFit, hsl, c, ebw, r4, Sum.elim_inl, ↓reduceIte, Option.bind_some, or_self, or_false, false_or, or_true, true_or, and_true, true_and, and_false, false_and, not_true_eq_false, not_false_eq_true]
    · have hbf : b = false := by
        cases b
        · rfl
        · exact absurd (f2.mp rfl k hk) q
      subst hbf
      simp only [fX2_isFit, hsl, c, ebw, r4, Sum.elim_inr, Bool.false_eq_true, ↓reduceIte, Option.bind_some, or_self, or_false, false_or, or_true, true_or, and_true, true_and, and_false, false_and, not_true_eq_false, not_false_eq_true]
  · -- one who sold isn't of the set
    obtain ⟨X', s', r1, r2, r3, r4, r5, r6⟩ := pz_ya N hN (KL := KL) (kc := kc) (u := 0) (x2 := nI at0) hA ht hkp N 0 (zMA mo 24 X0) (fun _ => none) (by omega) (by omega) rfl s0 s0b
    rw [z0] at r1
    obtain ⟨b, f1, f2⟩ := ref X' s' r1 r2 r3
    have hex : ∃ k, k < 6 ∧ sl / 2 ^ k % 2 = 1 ∧ ¬ t / 2 ^ k % 2 = 1 := by
      refine Decidable.byContradiction fun h => c ?_
      rw [pz_andb t ht sl sl64]
      intro k hk h1
      refine Decidable.byContradiction fun h2 => h ⟨k, hk, h1, h2⟩
    obtain ⟨k, hk, h1, h2⟩ := hex
    obtain ⟨hkK, hne⟩ := (hbits k hk).mp h1
    have hbf : b = false := by
      cases b
      · rfl
      · have q := f2.mp rfl k hkK
        rw [r6 k h2] at q
        exact absurd q.symm hne
    subst hbf
    refine ⟨false, Tr, X', ?_, f1, hTr⟩
    simp only [fX2_isFit, hsl, c, Bool.false_eq_true, ↓reduceIte, Option.bind_some, or_self, or_false, false_or, or_true, true_or, and_true, true_and, and_false, false_and, not_true_eq_false, not_false_eq_true]
set_option maxHeartbeats 4000000 in
set_option maxRecDepth 100000 in
theorem pz_ty (N : Nat) {rw : zOS} {mo : zMS} {L : zLS} {K T r m : Nat} {x2 : Int32} (hr : r < 8) (hm40 : m ≤ 40) (hK6 : K ≤ 6) (hKm : K ≤ m) (hT : T ≤ 60) (hs : rw.2 1 r = nI m) (h4 : ∀ i, i < m → rw.2 2 (r * 40 + i) = mo.1.2 4 (r * 40 + i)) (l6 : L.1.1 6 = nI K) (l1 : L.1.1 1 = nI T) (a3 : mo.1.2 5 3 = nI K) (a1 : mo.1.2 5 1 = nI T) : ∀ n k (ft : zOS) (sl : Nat), k ≤ K → K - k < n → ft.1 2 = nI sl → sl < 64 → (∀ o, o < 6 → (sl / 2 ^ o % 2 = 1 ↔ o < k ∧ ¬ mo.1.2 4 (r * 40 + o) < 0)) → (∀ o, o < k → ft.2 6 o = mo.1.2 4 (r * 40 + o)) → (∃ ft' sl', fX2_takeYears_l1 N rw L (nI r) n (nI k) ft = some (Sum.inl ft') ∧ fX12_fit_l1 N mo (nI r) x2 n (nI k) = some (Sum.inl ()) ∧ ft'.1 2 = nI sl' ∧ sl' < 64 ∧ (∀ o, o < 6 → (sl' / 2 ^ o % 2 = 1 ↔ o < K ∧ ¬ mo.1.2 4 (r * 40 + o) < 0)) ∧ (∀ o, o < K → ft'.2 6 o = mo.1.2 4 (r * 40 + o)) ∧ ∀ o, k ≤ o → o < K → -1 ≤ mo.1.2 4 (r * 40 + o) ∧ mo.1.2 4 (r * 40 + o) ≤ nI T) ∨ (∃ ft', fX2_takeYears_l1 N rw L (nI r) n (nI k) ft = some (Sum.inr ft') ∧ fX12_fit_l1 N mo (nI r) x2 n (nI k) = some (Sum.inr ())) := by
  have k3 : (3 : Int32).toNatClampNeg = 3 := rfl
  have k1 : (1 : Int32).toNatClampNeg = 1 := rfl
  intro n
  induction n with
  | zero => intro k ft sl h1 h2; omega
  | succ n ih =>
    intro k ft sl h1 h2 hsl h64 hbits hft
    rcases Nat.lt_or_ge k K with h3 | h3
    · have g1 : ¬ nI K ≤ nI k := nI_ge h3 (by omega)
      have g2 : ¬ (6 : Int32) ≤ nI k := nI_ge (b := 6) (by omega) (by omega)
      have i6 := pz_ni (show k < 6 by omega) (by omega)
      have cl := nI_clamp (show k < 2 ^ 31 by omega)
      have hx : nI r * (40 : Int32) + nI k = nI (r * 40 + k) := by rw [show (40 : Int32) = nI 40 from rfl, pk_mul, nI_add]
      have hy : (40 : Int32) * nI r + nI k = nI (r * 40 + k) := by rw [Int32.mul_comm, hx]
      have i320 := pz_ni (show r * 40 + k < 320 by omega) (by omega)
      have cl2 := nI_clamp (show r * 40 + k < 2 ^ 31 by omega)
      have it : fX7_itemAt N rw (nI r) (nI k) = some (mo.1.2 4 (r * 40 + k)) := by
        rcases pz_place N hr hm40 hs (nI k) with ⟨-, h⟩ | ⟨j, hj, e, h, -⟩
        · rw [show (nI m : Int32) - 1 = nI (m - 1) by rw [show (1 : Int32) = nI 1 from rfl, pk_sub (by omega)], pz_wi1 (nI_pos' (by omega)) (nI_le (by omega) (by omega))] at h
          cases h
        · simp only [fX7_itemAt, h, hx, i320, cl2, h4 k (by omega), ↓reduceIte, Option.bind_some, or_self, or_false, false_or, or_true, true_or, and_true, true_and, and_false, false_and, not_true_eq_false, not_false_eq_true, pz_10, pz_01, eq_self]
      generalize hv : mo.1.2 4 (r * 40 + k) = v at *
      by_cases c1 : v < -1
      · refine .inr ⟨ft, ?_, ?_⟩
        · simp only [fX2_takeYears_l1, l6, g1, g2, it, c1, ↓reduceIte, Option.bind_some, or_self, or_false, false_or, or_true, true_or, and_true, true_and, and_false, false_and, not_true_eq_false, not_false_eq_true]
        · have w : fX11_within N v (-1) (nI T) = some 0 := by unfold fX11_within; rw [if_pos c1]
          simp only [fX12_fit_l1, k3, k1, a3, a1, g1, hy, i320, cl2, hv, pz_in_m1, w, ↓reduceIte, Option.bind_some, or_self, or_false, false_or, or_true, true_or, and_true, true_and, and_false, false_and, not_true_eq_false, not_false_eq_true, pz_10, pz_01, eq_self]
      · by_cases c2 : v ≤ nI T
        · have w : fX11_within N v (-1) (nI T) = some 1 := pz_wi1 (pz_nlt c1) c2
          by_cases c3 : v < 0
          · rcases ih (k + 1) (zpA ft 6 (upd (ft.2 6) k v)) sl (by omega) (by omega) hsl h64 (fun o ho => by
              rw [hbits o ho]
              constructor
              · rintro ⟨a, b⟩; exact ⟨by omega, b⟩
              · rintro ⟨a, b⟩
                refine ⟨?_, b⟩
                by_cases e : o = k
                · subst e; rw [hv] at b; exact absurd c3 b
                · omega) (fun o ho => by
              show upd (ft.2 6) k v o = _
              by_cases e : o = k
              · subst e; rw [pk_us, hv]
              · rw [pk_un e]; exact hft o (by omega)) with ⟨ft', sl', f1, f2, f3, f4, f5, f6, f7⟩ | ⟨ft', f1, f2⟩
            · refine .inl ⟨ft', sl', ?_, ?_, f3, f4, f5, f6, fun o o1 o2 => ?_⟩
              · simp only [fX2_takeYears_l1, l6, l1, g1, g2, it, c1, c2, c3, i6, cl, nI_1, ↓reduceIte, Option.bind_some, or_self, or_false, false_or, or_true, true_or, and_true, true_and, and_false, false_and, not_true_eq_false, not_false_eq_true]
                exact f1
              · simp only [fX12_fit_l1, k3, k1, a3, a1, g1, hy, i320, cl2, hv, pz_in_m1, w, nI_1, ↓reduceIte, Option.bind_some, or_self, or_false, false_or, or_true, true_or, and_true, true_and, and_false, false_and, not_true_eq_false, not_false_eq_true, pz_10, pz_01, eq_self]
                exact f2
              · rcases Nat.eq_or_lt_of_le o1 with o3 | o3
                · subst o3; rw [hv]; exact ⟨pz_nlt c1, c2⟩
                · exact f7 o o3 o2
            · refine .inr ⟨ft', ?_, ?_⟩
              · simp only [fX2_takeYears_l1, l6, l1, g1, g2, it, c1, c2, c3, i6, cl, nI_1, ↓reduceIte, Option.bind_some, or_self, or_false, false_or, or_true, true_or, and_true, true_and, and_false, false_and, not_true_eq_false, not_false_eq_true]
                exact f1
              · simp only [fX12_fit_l1, k3, k1, a3, a1, g1, hy, i320, cl2, hv, pz_in_m1, w, nI_1, ↓reduceIte, Option.bind_some, or_self, or_false, false_or, or_true, true_or, and_true, true_and, and_false, false_and, not_true_eq_false, not_false_eq_true, pz_10, pz_01, eq_self]
                exact f2
          · obtain ⟨b1, b2, b3⟩ := pz_orb sl h64 k (by omega)
            rcases ih (k + 1) (zpi (zpA ft 6 (upd (ft.2 6) k v)) 2 (nI (sl ||| 2 ^ k))) (sl ||| 2 ^ k) (by omega) (by omega) rfl b2 (fun o ho => by
              rw [b3 o ho]
              by_cases e : o = k
              · subst e
                rw [if_pos rfl, hv]
                exact ⟨fun _ => ⟨by omega, c3⟩, fun _ => rfl⟩
              · rw [if_neg e, hbits o ho]
                exact ⟨fun ⟨a, b⟩ => ⟨by omega, b⟩, fun ⟨a, b⟩ => ⟨by omega, b⟩⟩) (fun o ho => by
              show upd (ft.2 6) k v o = _
              by_cases e : o = k
              · subst e; rw [pk_us, hv]
              · rw [pk_un e]; exact hft o (by omega)) with ⟨ft', sl', f1, f2, f3, f4, f5, f6, f7⟩ | ⟨ft', f1, f2⟩
            · refine .inl ⟨ft', sl', ?_, ?_, f3, f4, f5, f6, fun o o1 o2 => ?_⟩
              · simp only [fX2_takeYears_l1, l6, l1, g1, g2, it, c1, c2, c3, i6, cl, hsl, b1, nI_1, ↓reduceIte, Option.bind_some, or_self, or_false, false_or, or_true, true_or, and_true, true_and, and_false, false_and, not_true_eq_false, not_false_eq_true]
                exact f1
              · simp only [fX12_fit_l1, k3, k1, a3, a1, g1, hy, i320, cl2, hv, pz_in_m1, w, nI_1, ↓reduceIte, Option.bind_some, or_self, or_false, false_or, or_true, true_or, and_true, true_and, and_false, false_and, not_true_eq_false, not_false_eq_true, pz_10, pz_01, eq_self]
                exact f2
              · rcases Nat.eq_or_lt_of_le o1 with o3 | o3
                · subst o3; rw [hv]; exact ⟨pz_nlt c1, c2⟩
                · exact f7 o o3 o2
            · refine .inr ⟨ft', ?_, ?_⟩
              · simp only [fX2_takeYears_l1, l6, l1, g1, g2, it, c1, c2, c3, i6, cl, hsl, b1, nI_1, ↓reduceIte, Option.bind_some, or_self, or_false, false_or, or_true, true_or, and_true, true_and, and_false, false_and, not_true_eq_false, not_false_eq_true]
                exact f1
              · simp only [fX12_fit_l1, k3, k1, a3, a1, g1, hy, i320, cl2, hv, pz_in_m1, w, nI_1, ↓reduceIte, Option.bind_some, or_self, or_false, false_or, or_true, true_or, and_true, true_and, and_false, false_and, not_true_eq_false, not_false_eq_true, pz_10, pz_01, eq_self]
                exact f2
        · have w : fX11_within N v (-1) (nI T) = some 0 := by unfold fX11_within; rw [if_neg c1, if_pos (pz_nle c2)]
          refine .inr ⟨ft, ?_, ?_⟩
          · simp only [fX2_takeYears_l1, l6, l1, g1, g2, it, c1, c2, ↓reduceIte, Option.bind_some, or_self, or_false, false_or, or_true, true_or, and_true, true_and, and_false, false_and, not_true_eq_false, not_false_eq_true]
          · simp only [fX12_fit_l1, k3, k1, a3, a1, g1, hy, i320, cl2, hv, pz_in_m1, w, ↓reduceIte, Option.bind_some, or_self, or_false, false_or, or_true, true_or, and_true, true_and, and_false, false_and, not_true_eq_false, not_false_eq_true, pz_10, pz_01, eq_self]
    · have e : k = K := by omega
      subst e
      have g1 : nI k ≤ nI k := Int32.le_refl _
      refine .inl ⟨ft, sl, ?_, ?_, hsl, h64, hbits, hft, fun o o1 o2 => by omega⟩
      · simp only [fX2_takeYears_l1, l6, g1, ↓reduceIte, Option.bind_some, or_self, or_false, false_or, or_true, true_or, and_true, true_and, and_false, false_and, not_true_eq_false, not_false_eq_true]
      · simp only [fX12_fit_l1, k3, a3, g1, ↓reduceIte, Option.bind_some, or_self, or_false, false_or, or_true, true_or, and_true, true_and, and_false, false_and, not_true_eq_false, not_false_eq_true]
theorem pz_shl : ∀ K, K ≤ 6 → (1 : Int32) <<< (nI K &&& 31) = nI (2 ^ K) ∧ 2 ^ K ≤ 64 := by decide +kernel
