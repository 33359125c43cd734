/-! THE PURE LAYER: all sell -/
/-- a sale, in both -/
theorem pz_Lsell {KL : List Nat} {kc : Nat → zKC} {L : zLS} {A H : Nat → Int32} {K P Q k p : Nat} (h : pz_L KL kc L A H K P Q) (hK : K ≤ 6) (hk : k < K) (hp : p < P) (hP : P ≤ 8) (u v y : Int32) : pz_L KL kc (zLA (zLA (zLA L 15 (upd (L.1.2 15) k u)) 16 (upd (L.1.2 16) k v)) 18 (upd (L.1.2 18) p y)) A (upd (upd (upd H (1 + k) u) (7 + k) v) (21 + p) y) K P Q := by
  obtain ⟨l6, l7, l2, l1, l0, l4, l5, l8, l9, l12, l15, l14, lk⟩ := h
  refine ⟨l6, l7, l2, l1, l0, l4, l5, ?_, l9, ?_, ?_, ?_, lk⟩
  · rw [pk_un (by omega), pk_un (by omega), pk_un (by omega)]; exact l8
  · intro q hq
    obtain ⟨a, b, c, d⟩ := l12 q hq
    refine ⟨a, b, ?_, ?_⟩
    · rw [pk_un (by omega), pk_un (by omega), pk_un (by omega)]; exact c
    · show upd (L.1.2 18) p y q = upd (upd (upd H (1 + k) u) (7 + k) v) (21 + p) y (21 + q)
      by_cases e : q = p
      · subst e; rw [pk_us, pk_us]
      · rw [pk_un e, pk_un (by omega), pk_un (by omega), pk_un (by omega)]; exact d
  · intro q hq
    obtain ⟨a, b⟩ := l15 q hq
    constructor
    · show upd (L.1.2 15) k u q = upd (upd (upd H (1 + k) u) (7 + k) v) (21 + p) y (1 + q)
      rw [pk_un (k := 21 + p) (by omega), pk_un (k := 7 + k) (by omega)]
      by_cases e : q = k
      · subst e; rw [pk_us, pk_us]
      · rw [pk_un e, pk_un (by omega)]; exact a
    · show upd (L.1.2 16) k v q = upd (upd (upd H (1 + k) u) (7 + k) v) (21 + p) y (7 + q)
      rw [pk_un (k := 21 + p) (by omega)]
      by_cases e : q = k
      · subst e; rw [pk_us, pk_us]
      · rw [pk_un e, pk_un (by omega), pk_un (by omega)]; exact b
  · intro k' p' hk' hp'
    rw [pk_un (by omega), pk_un (by omega), pk_un (by omega)]
    exact l14 k' p' hk' hp'
def pz_sk (L T : zLS) : Prop := L.1.1 = T.1.1 ∧ L.2 = T.2
set_option maxHeartbeats 4000000 in
set_option maxRecDepth 100000 in
theorem pz_saL (N : Nat) (hN : 200000 ≤ N) {KL : List Nat} {kc : Nat → zKC} {A : Nat → Int32} {K P Q T k a w m c : Nat} {y : Int32} (h : pz_A A K P Q T) (hk : k < K) (w1 : 1 ≤ w) (w5 : w ≤ 5) (hm60 : m ≤ 60) (ew : A (24 + k) = nI w) (en : A (30 + k) = nI m) (hc : kc a = (zko (nI w), nI k, nI m, nI c)) : ∀ n p L mo, p ≤ P → P - p < n → mo.1.2 5 = A → mo.1.2 8 0 = y → pz_L KL kc L A (mo.1.2 8) K P Q → ∃ L' H', fX4_sellAll_l5 N KL kc a (nI k) n (nI p) L = some L' ∧ fX12_sellAll_l3 N y (nI k) n (nI p) mo = some (zMA mo 8 H') ∧ pz_L KL kc L' A H' K P Q ∧ pz_sk L' L ∧ ∀ i, 29 ≤ i → H' i = mo.1.2 8 i := by
  obtain ⟨⟨hK1, hK6, hP8, hQ1, hQ8, hT1, hT60⟩, hA3, hA4, hA2, hA1, hA0⟩ := pz_A_n h
  have k4 : (4 : Int32).toNatClampNeg = 4 := rfl
  intro n
  induction n with
  | zero => intro p L mo h1 h2; omega
  | succ n ih =>
    intro p L mo h1 h2 hm hy hL
    have l7 : L.1.1 7 = nI P := hL.2.1.trans hA4
    have m4 : mo.1.2 5 4 = nI P := by rw [hm]; exact hA4
    rcases Nat.lt_or_ge p P with h3 | h3
    · have g1 : ¬ nI P ≤ nI p := nI_ge h3 (by omega)
      have un := pz_uns N h hL hk h3
      have hs := pz_has N mo (show k < 6 by omega) (show p < 8 by omega)
      have e1 : (1 : Int32) + nI k = nI (1 + k) := nI_add 1 k
      have e7 : (7 : Int32) + nI k = nI (7 + k) := nI_add 7 k
      have e21 : (21 : Int32) + nI p = nI (21 + p) := nI_add 21 p
      have i1 := pz_ni (show 1 + k < 77 by omega) (by omega)
      have i7 := pz_ni (show 7 + k < 77 by omega) (by omega)
      have i21 := pz_ni (show 21 + p < 77 by omega) (by omega)
      have cl1 := nI_clamp (show 1 + k < 2 ^ 31 by omega)
      have cl7 := nI_clamp (show 7 + k < 2 ^ 31 by omega)
      have cl21 := nI_clamp (show 21 + p < 2 ^ 31 by omega)
      have stay : ∃ L' H', fX4_sellAll_l5 N KL kc a (nI k) n (nI (p + 1)) L = some L' ∧ fX12_sellAll_l3 N y (nI k) n (nI (p + 1)) mo = some (zMA mo 8 H') ∧ pz_L KL kc L' A H' K P Q ∧ pz_sk L' L ∧ ∀ i, 29 ≤ i → H' i = mo.1.2 8 i := ih (p + 1) L mo (by omega) (by omega) hm hy hL
      by_cases c1 : mo.1.2 8 (29 + 8 * k + p) ≤ 0
      · obtain ⟨L', H', f1, f2, f3⟩ := stay
        refine ⟨L', H', ?_, ?_, f3⟩
        · simp only [fX4_sellAll_l5, l7, g1, un, c1, nI_1, ↓reduceIte, Option.bind_some, or_self, or_false, false_or, or_true, true_or, and_true, true_and, and_false, false_and, not_true_eq_false, not_false_eq_true, pz_10, pz_01, eq_self]
          exact f1
        · simp only [fX12_sellAll_l3, k4, m4, g1, hs, c1, e1, e7, e21, i1, i7, i21, cl1, cl7, cl21, Int32.add_zero, Int32.or_zero, pz_upd, pz_MAA, pz_MA0, nI_1, ↓reduceIte, Option.bind_some, or_self, or_false, false_or, or_true, true_or, and_true, true_and, and_false, false_and, not_true_eq_false, not_false_eq_true, pz_10, pz_01, eq_self]
          exact f2
      by_cases c2 : (mo.1.2 8 (7 + k) >>> (nI p &&& 31)) &&& 1 = 0
      · subst hm
        subst hy
        obtain ⟨b, s12, s1, s5, s2, s3, s4⟩ := pz_sells N hN h hL hk h3 w1 w5 hm60 ew en hc
        by_cases c3 : b = 0
        · obtain ⟨L', H', f1, f2, f3⟩ := stay
          refine ⟨L', H', ?_, ?_, f3⟩
          · have f1' : fX4_sellAll_l5 N KL kc a (nI k) n (nI p + 1) L = some L' := by rw [nI_1]; exact f1
            rcases (show w = 1 ∨ w = 2 ∨ w = 3 ∨ w = 4 ∨ w = 5 by omega) with rfl | rfl | rfl | rfl | rfl
            · rw [s1 rfl] at c3; exact absurd c3 (by decide)
            · have hk1 : (kc a).1 = 0 := by rw [hc]; rfl
              simp only [fX4_sellAll_l5, l7, g1, un, c1, c2, hk1, s2 rfl, c3, f1', ↓reduceIte, Option.bind_some, or_self, or_false, false_or, or_true, true_or, and_true, true_and, and_false, false_and, not_true_eq_false, not_false_eq_true, pz_10, pz_01, eq_self]
            · have hk1 : (kc a).1 = 9 := by rw [hc]; rfl
              simp only [fX4_sellAll_l5, l7, g1, un, c1, c2, hk1, s3 rfl, c3, f1', (show ¬ (9 : Nat) = 0 by decide), (show ¬ (9 : Nat) = 1 by decide), (show ¬ (9 : Nat) = 4 by decide), (show ¬ (9 : Nat) = 7 by decide), ↓reduceIte, Option.bind_some, or_self, or_false, false_or, or_true, true_or, and_true, true_and, and_false, false_and, not_true_eq_false, not_false_eq_true, pz_10, pz_01, eq_self]
            · have hk1 : (kc a).1 = 1 := by rw [hc]; rfl
              simp only [fX4_sellAll_l5, l7, g1, un, c1, c2, hk1, s4 rfl, c3, f1', (show ¬ (1 : Nat) = 0 by decide), ↓reduceIte, Option.bind_some, or_self, or_false, false_or, or_true, true_or, and_true, true_and, and_false, false_and, not_true_eq_false, not_false_eq_true, pz_10, pz_01, eq_self]
            · have hk1 : (kc a).1 = 7 := by rw [hc]; rfl
              simp only [fX4_sellAll_l5, l7, g1, un, c1, c2, hk1, fX8_sells, f1', (show ¬ (7 : Nat) = 0 by decide), (show ¬ (7 : Nat) = 1 by decide), (show ¬ (7 : Nat) = 4 by decide), ↓reduceIte, Option.bind_some, or_self, or_false, false_or, or_true, true_or, and_true, true_and, and_false, false_and, not_true_eq_false, not_false_eq_true, pz_10, pz_01, eq_self]
          · simp only [fX12_sellAll_l3, k4, m4, g1, hs, c1, c2, s12, c3, e1, e7, e21, i1, i7, i21, cl1, cl7, cl21, Int32.add_zero, Int32.or_zero, pz_upd, pz_MAA, pz_MA0, nI_1, ↓reduceIte, Option.bind_some, or_self, or_false, false_or, or_true, true_or, and_true, true_and, and_false, false_and, not_true_eq_false, not_false_eq_true, pz_10, pz_01, eq_self]
            exact f2
        · obtain ⟨v, -, -, d1, d2⟩ := pz_had N hN h hL h3
          obtain ⟨x1, x2⟩ := pz_worth N hN h hL (mo.1.2 8 0) (v + mo.1.2 8 (13 + p))
          have l8 : L.1.1 8 = mo.1.2 8 0 := hL.2.2.2.2.2.2.2.1
          have l18 : L.1.2 18 p = mo.1.2 8 (21 + p) := (hL.2.2.2.2.2.2.2.2.2.1 p h3).2.2.2
          obtain ⟨l15, l16⟩ := hL.2.2.2.2.2.2.2.2.2.2.1 k hk
          have kp := (pz_kpr N (KL := KL) (kc := kc) (mo := mo) hK6 (hL.1.trans hA3) hA3 (nI k))
          have kp1 : fX4_isKeeper N L (nI k) = some 1 := by
            have l6 : L.1.1 6 = nI K := hL.1.trans hA3
            simp (disch := omega) only [fX4_isKeeper, l6, pzl_0, pzl_1, pzl_2, pzl_3, pzl_4, pzl_5, pzl_6, pzl_7, pzl_8, pzl_9, pzl_10, pzl_13, pzl_16, pzl_21, pzl_24, pzl_29, pzl_30, pzl_36, pzl_40, pzl_42, pzl_50, pzl_58, pzl_77, pzl_116, pzl_120, pzl_154, pzl_320, pzl_500, nI_add, pk_mul, nI_clamp, nI_leI, nI_ltI, nI_eq, pz_leF, pz_leT, pz_ltF, pz_ltT, pz_eqF, pz_eqT, ↓reduceIte, Option.bind_some, or_self, or_false, false_or, or_true, true_or, and_true, true_and, and_false, false_and, not_true_eq_false, not_false_eq_true, ↓reduceIte, Option.bind_some, or_self, or_false, false_or, or_true, true_or, and_true, true_and, and_false, false_and, not_true_eq_false, not_false_eq_true]
          have pc1 : fX4_isPiece N L (nI p) = some 1 := by
            simp (disch := omega) only [fX4_isPiece, l7, pzl_0, pzl_1, pzl_2, pzl_3, pzl_4, pzl_5, pzl_6, pzl_7, pzl_8, pzl_9, pzl_10, pzl_13, pzl_16, pzl_21, pzl_24, pzl_29, pzl_30, pzl_36, pzl_40, pzl_42, pzl_50, pzl_58, pzl_77, pzl_116, pzl_120, pzl_154, pzl_320, pzl_500, nI_add, pk_mul, nI_clamp, nI_leI, nI_ltI, nI_eq, pz_leF, pz_leT, pz_ltF, pz_ltT, pz_eqF, pz_eqT, ↓reduceIte, Option.bind_some, or_self, or_false, false_or, or_true, true_or, and_true, true_and, and_false, false_and, not_true_eq_false, not_false_eq_true, ↓reduceIte, Option.bind_some, or_self, or_false, false_or, or_true, true_or, and_true, true_and, and_false, false_and, not_true_eq_false, not_false_eq_true]
          have j6 := pz_ni (show k < 6 by omega) (by omega)
          have j8 := pz_ni (show p < 8 by omega) (by omega)
          have ck := nI_clamp (show k < 2 ^ 31 by omega)
          have cp := nI_clamp (show p < 2 ^ 31 by omega)
          generalize hU : mo.1.2 8 (1 + k) + pz_wo (mo.1.2 5) Q (mo.1.2 8 0) (v + mo.1.2 8 (13 + p)) = U at *
          generalize hV : mo.1.2 8 (7 + k) ||| ((1 : Int32) <<< (nI p &&& 31)) = V at *
          have n1 : upd (mo.1.2 8) (1 + k) U (7 + k) = mo.1.2 8 (7 + k) := pk_un (by omega)
          have n2 : upd (upd (mo.1.2 8) (1 + k) U) (7 + k) V (21 + p) = mo.1.2 8 (21 + p) := by rw [pk_un (by omega), pk_un (by omega)]
          by_cases c4 : mo.1.2 8 (21 + p) = -1000000
          · have hsell : fX4_sell N L (nI k) (nI p) = some (zLA (zLA (zLA L 15 (upd (L.1.2 15) k U)) 16 (upd (L.1.2 16) k V)) 18 (upd (L.1.2 18) p (mo.1.2 8 0))) := by
              simp only [fX4_sell, kp1, pc1, d1, l8, x1, j6, j8, ck, cp, l15, l16, l18, c4, hU, hV, ↓reduceIte, Option.bind_some, or_self, or_false, false_or, or_true, true_or, and_true, true_and, and_false, false_and, not_true_eq_false, not_false_eq_true, pz_10, pz_01, eq_self]
            have hL2 := pz_Lsell hL hK6 hk h3 hP8 U V (mo.1.2 8 0)
            obtain ⟨L', H', f1, f2, f3, f4, f5⟩ := ih (p + 1) (zLA (zLA (zLA L 15 (upd (L.1.2 15) k U)) 16 (upd (L.1.2 16) k V)) 18 (upd (L.1.2 18) p (mo.1.2 8 0))) (zMA mo 8 (upd (upd (upd (mo.1.2 8) (1 + k) U) (7 + k) V) (21 + p) (mo.1.2 8 0))) (by omega) (by omega) rfl (by rw [pz_MA, pk_un (by omega), pk_un (by omega), pk_un (by omega)]) (by rw [pz_MA]; exact hL2)
            have f1' : fX4_sellAll_l5 N KL kc a (nI k) n (nI p + 1) (zLA (zLA (zLA L 15 (upd (L.1.2 15) k U)) 16 (upd (L.1.2 16) k V)) 18 (upd (L.1.2 18) p (mo.1.2 8 0))) = some L' := by rw [nI_1]; exact f1
            refine ⟨L', H', ?_, ?_, f3, f4, ?_⟩
            · rcases (show w = 1 ∨ w = 2 ∨ w = 3 ∨ w = 4 ∨ w = 5 by omega) with rfl | rfl | rfl | rfl | rfl
              · have hk1 : (kc a).1 = 4 := by rw [hc]; rfl
                simp only [fX4_sellAll_l5, l7, g1, un, c1, c2, hk1, fX5_sells, hsell, f1', (show ¬ (4 : Nat) = 0 by decide), (show ¬ (4 : Nat) = 1 by decide), ↓reduceIte, Option.bind_some, or_self, or_false, false_or, or_true, true_or, and_true, true_and, and_false, false_and, not_true_eq_false, not_false_eq_true, pz_10, pz_01, eq_self]
              · have hk1 : (kc a).1 = 0 := by rw [hc]; rfl
                simp only [fX4_sellAll_l5, l7, g1, un, c1, c2, hk1, s2 rfl, c3, hsell, f1', ↓reduceIte, Option.bind_some, or_self, or_false, false_or, or_true, true_or, and_true, true_and, and_false, false_and, not_true_eq_false, not_false_eq_true, pz_10, pz_01, eq_self]
              · have hk1 : (kc a).1 = 9 := by rw [hc]; rfl
                simp only [fX4_sellAll_l5, l7, g1, un, c1, c2, hk1, s3 rfl, c3, hsell, f1', (show ¬ (9 : Nat) = 0 by decide), (show ¬ (9 : Nat) = 1 by decide), (show ¬ (9 : Nat) = 4 by decide), (show ¬ (9 : Nat) = 7 by decide), ↓reduceIte, Option.bind_some, or_self, or_false, false_or, or_true, true_or, and_true, true_and, and_false, false_and, not_true_eq_false, not_false_eq_true, pz_10, pz_01, eq_self]
              · have hk1 : (kc a).1 = 1 := by rw [hc]; rfl
                simp only [fX4_sellAll_l5, l7, g1, un, c1, c2, hk1, s4 rfl, c3, hsell, f1', (show ¬ (1 : Nat) = 0 by decide), ↓reduceIte, Option.bind_some, or_self, or_false, false_or, or_true, true_or, and_true, true_and, and_false, false_and, not_true_eq_false, not_false_eq_true, pz_10, pz_01, eq_self]
              · exact absurd (s5 rfl) c3
            · simp only [fX12_sellAll_l3, k4, m4, g1, hs, c1, c2, s12, c3, d2, x2, e1, e7, e21, i1, i7, i21, cl1, cl7, cl21, hU, n1, hV, n2, c4, pz_MAA, nI_1, ↓reduceIte, Option.bind_some, or_self, or_false, false_or, or_true, true_or, and_true, true_and, and_false, false_and, not_true_eq_false, not_false_eq_true, pz_10, pz_01, eq_self]
              rw [f2, pz_MAA]
            · intro i hi
              rw [f5 i hi, pz_MA, pk_un (by omega), pk_un (by omega), pk_un (by omega)]
          · have hsell : fX4_sell N L (nI k) (nI p) = some (zLA (zLA L 15 (upd (L.1.2 15) k U)) 16 (upd (L.1.2 16) k V)) := by
              simp only [fX4_sell, kp1, pc1, d1, l8, x1, j6, j8, ck, cp, l15, l16, l18, c4, hU, hV, ↓reduceIte, Option.bind_some, or_self, or_false, false_or, or_true, true_or, and_true, true_and, and_false, false_and, not_true_eq_false, not_false_eq_true, pz_10, pz_01, eq_self]
            have hL2 : pz_L KL kc (zLA (zLA L 15 (upd (L.1.2 15) k U)) 16 (upd (L.1.2 16) k V)) (mo.1.2 5) (upd (upd (mo.1.2 8) (1 + k) U) (7 + k) V) K P Q := by
              have q := pz_Lsell hL hK6 hk h3 hP8 U V (mo.1.2 8 (21 + p))
              have r1 : upd (upd (upd (mo.1.2 8) (1 + k) U) (7 + k) V) (21 + p) (mo.1.2 8 (21 + p)) = upd (upd (mo.1.2 8) (1 + k) U) (7 + k) V := by
                rw [← n2, pz_upd]
              have r2 : zLA (zLA (zLA L 15 (upd (L.1.2 15) k U)) 16 (upd (L.1.2 16) k V)) 18 (upd (L.1.2 18) p (mo.1.2 8 (21 + p))) = zLA (zLA L 15 (upd (L.1.2 15) k U)) 16 (upd (L.1.2 16) k V) := by
                rw [← l18, pz_upd]
                have : (zLA (zLA L 15 (upd (L.1.2 15) k U)) 16 (upd (L.1.2 16) k V)).1.2 18 = L.1.2 18 := rfl
                rw [← this]
                show ((_, va_up _ 18 _), _) = _
                rw [pz_upA]
              rw [r1, r2] at q
              exact q
            obtain ⟨L', H', f1, f2, f3, f4, f5⟩ := ih (p + 1) (zLA (zLA L 15 (upd (L.1.2 15) k U)) 16 (upd (L.1.2 16) k V)) (zMA mo 8 (upd (upd (mo.1.2 8) (1 + k) U) (7 + k) V)) (by omega) (by omega) rfl (by rw [pz_MA, pk_un (by omega), pk_un (by omega)]) (by rw [pz_MA]; exact hL2)
            have f1' : fX4_sellAll_l5 N KL kc a (nI k) n (nI p + 1) (zLA (zLA L 15 (upd (L.1.2 15) k U)) 16 (upd (L.1.2 16) k V)) = some L' := by rw [nI_1]; exact f1
            refine ⟨L', H', ?_, ?_, f3, f4, ?_⟩
            · rcases (show w = 1 ∨ w = 2 ∨ w = 3 ∨ w = 4 ∨ w = 5 by omega) with rfl | rfl | rfl | rfl | rfl
              · have hk1 : (kc a).1 = 4 := by rw [hc]; rfl
                simp only [fX4_sellAll_l5, l7, g1, un, c1, c2, hk1, fX5_sells, hsell, f1', (show ¬ (4 : Nat) = 0 by decide), (show ¬ (4 : Nat) = 1 by decide), ↓reduceIte, Option.bind_some, or_self, or_false, false_or, or_true, true_or, and_true, true_and, and_false, false_and, not_true_eq_false, not_false_eq_true, pz_10, pz_01, eq_self]
              · have hk1 : (kc a).1 = 0 := by rw [hc]; rfl
                simp only [fX4_sellAll_l5, l7, g1, un, c1, c2, hk1, s2 rfl, c3, hsell, f1', ↓reduceIte, Option.bind_some, or_self, or_false, false_or, or_true, true_or, and_true, true_and, and_false, false_and, not_true_eq_false, not_false_eq_true, pz_10, pz_01, eq_self]
              · have hk1 : (kc a).1 = 9 := by rw [hc]; rfl
                simp only [fX4_sellAll_l5, l7, g1, un, c1, c2, hk1, s3 rfl, c3, hsell, f1', (show ¬ (9 : Nat) = 0 by decide), (show ¬ (9 : Nat) = 1 by decide), (show ¬ (9 : Nat) = 4 by decide), (show ¬ (9 : Nat) = 7 by decide), ↓reduceIte, Option.bind_some, or_self, or_false, false_or, or_true, true_or, and_true, true_and, and_false, false_and, not_true_eq_false, not_false_eq_true, pz_10, pz_01, eq_self]
              · have hk1 : (kc a).1 = 1 := by rw [hc]; rfl
                simp only [fX4_sellAll_l5, l7, g1, un, c1, c2, hk1, s4 rfl, c3, hsell, f1', (show ¬ (1 : Nat) = 0 by decide), ↓reduceIte, Option.bind_some, or_self, or_false, false_or, or_true, true_or, and_true, true_and, and_false, false_and, not_true_eq_false, not_false_eq_true, pz_10, pz_01, eq_self]
              · exact absurd (s5 rfl) c3
            · simp only [fX12_sellAll_l3, k4, m4, g1, hs, c1, c2, s12, c3, d2, x2, e1, e7, e21, i1, i7, i21, cl1, cl7, cl21, hU, n1, hV, n2, c4, pz_MAA, nI_1, ↓reduceIte, Option.bind_some, or_self, or_false, false_or, or_true, true_or, and_true, true_and, and_false, false_and, not_true_eq_false, not_false_eq_true, pz_10, pz_01, eq_self]
              have n3 : upd (upd (upd (mo.1.2 8) (1 + k) U) (7 + k) V) (21 + p) (mo.1.2 8 (21 + p)) = upd (upd (mo.1.2 8) (1 + k) U) (7 + k) V := by
                rw [← n2, pz_upd]
              rw [n3, f2, pz_MAA]
            · intro i hi
              rw [f5 i hi, pz_MA, pk_un (by omega), pk_un (by omega)]
      · obtain ⟨L', H', f1, f2, f3⟩ := stay
        refine ⟨L', H', ?_, ?_, f3⟩
        · simp only [fX4_sellAll_l5, l7, g1, un, c1, c2, nI_1, ↓reduceIte, Option.bind_some, or_self, or_false, false_or, or_true, true_or, and_true, true_and, and_false, false_and, not_true_eq_false, not_false_eq_true, pz_10, pz_01, eq_self]
          exact f1
        · simp only [fX12_sellAll_l3, k4, m4, g1, hs, c1, c2, e1, e7, e21, i1, i7, i21, cl1, cl7, cl21, Int32.add_zero, Int32.or_zero, pz_upd, pz_MAA, pz_MA0, nI_1, ↓reduceIte, Option.bind_some, or_self, or_false, false_or, or_true, true_or, and_true, true_and, and_false, false_and, not_true_eq_false, not_false_eq_true, pz_10, pz_01, eq_self]
          exact f2
    · have e : p = P := by omega
      subst e
      have g1 : nI p ≤ nI p := Int32.le_refl _
      refine ⟨L, mo.1.2 8, ?_, ?_, hL, ⟨rfl, rfl⟩, fun _ _ => rfl⟩
      · simp only [fX4_sellAll_l5, l7, g1, ↓reduceIte, Option.bind_some, or_self, or_false, false_or, or_true, true_or, and_true, true_and, and_false, false_and, not_true_eq_false, not_false_eq_true]
      · simp only [fX12_sellAll_l3, k4, m4, g1, pz_MA0, ↓reduceIte, Option.bind_some, or_self, or_false, false_or, or_true, true_or, and_true, true_and, and_false, false_and, not_true_eq_false, not_false_eq_true]
set_option maxHeartbeats 4000000 in
set_option maxRecDepth 100000 in
theorem pz_saK (N : Nat) (hN : 200000 ≤ N) {KL : List Nat} {kc : Nat → zKC} {A : Nat → Int32} {K P Q T : Nat} {y : Int32} (h : pz_A A K P Q T) : ∀ n k L mo, k ≤ K → K - k < n → mo.1.2 5 = A → mo.1.2 8 0 = y → pz_L KL kc L A (mo.1.2 8) K P Q → ∃ L' H', fX4_sellAll_l3 N KL kc n (nI k) L = some L' ∧ fX12_sellAll_l2 N y n (nI k) mo = some (zMA mo 8 H') ∧ pz_L KL kc L' A H' K P Q ∧ pz_sk L' L ∧ ∀ i, 29 ≤ i → H' i = mo.1.2 8 i := by
  obtain ⟨⟨hK1, hK6, hP8, hQ1, hQ8, hT1, hT60⟩, hA3, hA4, hA2, hA1, hA0⟩ := pz_A_n h
  have k3 : (3 : Int32).toNatClampNeg = 3 := rfl
  intro n
  induction n with
  | zero => intro k L mo h1 h2; omega
  | succ n ih =>
    intro k L mo h1 h2 hm hy hL
    have l6 : L.1.1 6 = nI K := hL.1.trans hA3
    have m3 : mo.1.2 5 3 = nI K := by rw [hm]; exact hA3
    rcases Nat.lt_or_ge k K with h3 | h3
    · have g1 : ¬ nI K ≤ nI k := nI_ge h3 (by omega)
      obtain ⟨a, w, m, c, ea, w1, w5, n60, c1, c9, e1, e2, e3, hc, hz, hat⟩ := pz_kAt N h hL h3
      have hz' : (¬ zkd KL kc a) = False := eq_false (fun h => h hz)
      obtain ⟨L1, H1, f1, f2, f3, f4, f5⟩ := pz_saL N hN h h3 w1 w5 n60 e1 e2 hc N 0 L mo (by omega) (by omega) hm hy hL
      rw [show nI 0 = (0 : Int32) from rfl] at f1 f2
      have y1 : H1 0 = y := by
        have q := f3.2.2.2.2.2.2.2.1
        rw [f4.1, hL.2.2.2.2.2.2.2.1] at q
        rw [← q]; exact hy
      obtain ⟨L2, H2, g2, g3, g4, g5, g6⟩ := ih (k + 1) L1 (zMA mo 8 H1) (by omega) (by omega) hm (by rw [pz_MA]; exact y1) (by rw [pz_MA]; exact f3)
      refine ⟨L2, H2, ?_, ?_, g4, ⟨g5.1.trans f4.1, g5.2.trans f4.2⟩, fun i hi => ?_⟩
      · simp only [fX4_sellAll_l3, l6, g1, hat, hz', f1, nI_1, ↓reduceIte, Option.bind_some, or_self, or_false, false_or, or_true, true_or, and_true, true_and, and_false, false_and, not_true_eq_false, not_false_eq_true]
        exact g2
      · simp only [fX12_sellAll_l2, k3, m3, g1, f2, nI_1, ↓reduceIte, Option.bind_some, or_self, or_false, false_or, or_true, true_or, and_true, true_and, and_false, false_and, not_true_eq_false, not_false_eq_true]
        rw [g3, pz_MAA]
      · rw [g6 i hi, pz_MA, f5 i hi]
    · have e : k = K := by omega
      subst e
      have g1 : nI k ≤ nI k := Int32.le_refl _
      refine ⟨L, mo.1.2 8, ?_, ?_, hL, ⟨rfl, rfl⟩, fun _ _ => rfl⟩
      · simp only [fX4_sellAll_l3, l6, g1, ↓reduceIte, Option.bind_some, or_self, or_false, false_or, or_true, true_or, and_true, true_and, and_false, false_and, not_true_eq_false, not_false_eq_true]
      · simp only [fX12_sellAll_l2, k3, m3, g1, pz_MA0, ↓reduceIte, Option.bind_some, or_self, or_false, false_or, or_true, true_or, and_true, true_and, and_false, false_and, not_true_eq_false, not_false_eq_true]
set_option maxHeartbeats 4000000 in
set_option maxRecDepth 100000 in
/-- all sell: class and reference alike -/
theorem pz_sellAll (N : Nat) (hN : 200000 ≤ N) {KL : List Nat} {kc : Nat → zKC} {L : zLS} {mo : zMS} {K P Q T : Nat} (h : pz_A (mo.1.2 5) K P Q T) (hL : pz_L KL kc L (mo.1.2 5) (mo.1.2 8) K P Q) : ∃ L' H', fX4_sellAll N KL kc L = some L' ∧ fX12_sellAll N mo = some (zMA mo 8 H') ∧ pz_L KL kc L' (mo.1.2 5) H' K P Q ∧ pz_sk L' L ∧ ∀ i, 29 ≤ i → H' i = mo.1.2 8 i := by
  have hn := (pz_A_n h).1
  obtain ⟨L', H', f1, f2, f3⟩ := pz_saK N hN h N 0 L mo (by omega) (by omega) rfl rfl hL
  refine ⟨L', H', ?_, ?_, f3⟩
  · unfold fX4_sellAll
    rw [show (0 : Int32) = nI 0 from rfl, f1]; rfl
  · unfold fX12_sellAll
    rw [show (0 : Int32) = nI 0 from rfl, nI_clamp (by omega), f2]; rfl
