/-! THE PURE LAYER: feed -/
theorem pz_b1 (v : Int64) : (v &&& 255).toInt32 = nI (v.toBitVec.toNat % 256) := by
  apply Int32.toBitVec_inj.mp
  apply BitVec.eq_of_toNat_eq
  show ((v &&& 255).toBitVec.signExtend 32).toNat = (BitVec.ofNat 32 (v.toBitVec.toNat % 256)).toNat
  rw [BitVec.signExtend_eq_setWidth_of_le _ (by decide), BitVec.toNat_setWidth, Int64.toBitVec_and, BitVec.toNat_and, BitVec.toNat_ofNat]
  show (v.toBitVec.toNat &&& (2 ^ 8 - 1)) % 2 ^ 32 = _
  rw [Nat.and_two_pow_sub_one_eq_mod]
theorem pz_b2 (v : Int64) : v.toInt32.toInt8.toInt32 = (nI (v.toBitVec.toNat % 256)).toInt8.toInt32 := by
  refine congrArg Int8.toInt32 ?_
  apply Int8.toBitVec_inj.mp
  apply BitVec.eq_of_toNat_eq
  show ((v.toBitVec.signExtend 32).signExtend 8).toNat = ((BitVec.ofNat 32 (v.toBitVec.toNat % 256)).signExtend 8).toNat
  rw [BitVec.signExtend_eq_setWidth_of_le _ (by decide), BitVec.signExtend_eq_setWidth_of_le _ (by decide), BitVec.signExtend_eq_setWidth_of_le _ (by decide), BitVec.toNat_setWidth, BitVec.toNat_setWidth, BitVec.toNat_setWidth, BitVec.toNat_ofNat]
  omega
theorem pz_MiA (mo : zMS) (a b : Nat) (f g : Nat → Int32) (u v : Int32) : zMi (zMA (zMi (zMA mo a f) b u) a g) b v = zMi (zMA mo a g) b v := by
  show ((upd (upd mo.1.1 b u) b v, va_up (va_up mo.1.2 a f) a g), mo.2) = ((upd mo.1.1 b v, va_up mo.1.2 a g), mo.2)
  rw [pz_upd2, bx_uu]
theorem pz_MiA0 (mo : zMS) (a b : Nat) : zMi (zMA mo a (mo.1.2 a)) b (mo.1.1 b) = mo := by
  show ((upd mo.1.1 b (mo.1.1 b), va_up mo.1.2 a (mo.1.2 a)), mo.2) = mo
  rw [pz_upd, pz_upA]
theorem pz_piA (o : zOS) (a b : Nat) (f g : Nat → Int32) (u v : Int32) : zpi (zpA (zpi (zpA o a f) b u) a g) b v = zpi (zpA o a g) b v := by
  show (upd (upd o.1 b u) b v, va_up (va_up o.2 a f) a g) = (upd o.1 b v, va_up o.2 a g)
  rw [pz_upd2, bx_uu]
theorem pz_piA0 (o : zOS) (a b : Nat) : zpi (zpA o a (o.2 a)) b (o.1 b) = o := by
  show (upd o.1 b (o.1 b), va_up o.2 a (o.2 a)) = o
  rw [pz_upd, pz_upA]
def pz_bts (f g : Nat → Int32) (n : Nat) : Prop := ∀ i, i < n → ∃ b, b < 256 ∧ g i = nI b ∧ f i = (nI b).toInt8.toInt32
set_option maxHeartbeats 4000000 in
set_option maxRecDepth 100000 in
theorem pz_feed (N : Nat) (w : Int64) : ∀ (n k : Nat) (rd : zOS) (mo : zMS) (len : Nat), k < n → len + k ≤ 500 → rd.1 0 = nI len → mo.1.1 10 = nI len → pz_bts (rd.2 3) (mo.1.2 9) len → ∃ f g, fX6_append_l1 N w n (nI k - 1) rd = some (zpi (zpA rd 3 f) 0 (nI (len + k))) ∧ fX12_feed_l1 N w n (nI k - 1) mo = some (zMi (zMA mo 9 g) 10 (nI (len + k))) ∧ pz_bts f g (len + k) := by
  intro n
  induction n with
  | zero => intro k rd mo len h1; omega
  | succ n ih =>
    intro k rd mo len h1 h2 h3 h4 h5
    cases k with
    | zero =>
      refine ⟨rd.2 3, mo.1.2 9, ?_, ?_, h5⟩
      · show _ = some (zpi (zpA rd 3 (rd.2 3)) 0 (nI len))
        rw [← h3, pz_piA0]; rfl
      · show _ = some (zMi (zMA mo 9 (mo.1.2 9)) 10 (nI len))
        rw [← h4, pz_MiA0]; rfl
    | succ k =>
      have g1 : nI (k + 1) - 1 = nI k := nI_pred k
      have g2 : ¬ nI k < 0 := nI_pos (by omega)
      have g3 := pz_ni (show len < 500 by omega) (by omega)
      have g4 : nI k + (-1 : Int32) = nI k - 1 := (Int32.sub_eq_add_neg _ _).symm
      have g5 := nI_clamp (show len < 2 ^ 31 by omega)
      rw [g1]
      simp only [fX6_append_l1, fX12_feed_l1, g2, h3, h4, g3, g4, g5, nI_1, pk_vb, ↓reduceIte, Option.bind_some, or_self, or_false, false_or, or_true, true_or, and_true, true_and, and_false, false_and, not_true_eq_false, not_false_eq_true]
      generalize w >>> (((8 : Int32) * nI k).toInt64 &&& 63) = v
      obtain ⟨f, g, e1, e2, e3⟩ := ih k (zpi (zpA rd 3 (upd (rd.2 3) len v.toInt32.toInt8.toInt32)) 0 (nI (len + 1))) (zMi (zMA mo 9 (upd (mo.1.2 9) len (v &&& 255).toInt32)) 10 (nI (len + 1))) (len + 1) (by omega) (by omega) rfl rfl (by
        intro i hi
        show ∃ b, b < 256 ∧ upd (mo.1.2 9) len (v &&& 255).toInt32 i = nI b ∧ upd (rd.2 3) len v.toInt32.toInt8.toInt32 i = (nI b).toInt8.toInt32
        unfold upd
        by_cases c : i = len
        · rw [if_pos c, if_pos c]
          exact ⟨v.toBitVec.toNat % 256, Nat.mod_lt _ (by omega), pz_b1 v, pz_b2 v⟩
        · rw [if_neg c, if_neg c]
          exact h5 i (by omega))
      rw [pz_piA] at e1
      rw [pz_MiA] at e2
      rw [show len + (k + 1) = len + 1 + k by omega]
      exact ⟨f, g, e1, e2, e3⟩
set_option maxHeartbeats 4000000 in
set_option maxRecDepth 100000 in
theorem ps_feed {N : Nat} (hN : 200000 ≤ N) : zStep_feed N pz_Inv := by
  intro KL kc on rw rd ft tr la mo hI x1 x2
  obtain ⟨hf, len, hlen, h0, h10, hb⟩ := hI.2.2.2.1
  rcases pz_wiN N x2 1 8 1 8 with h | ⟨h, k, hk1, hk8, rfl⟩
  · simp only [fX11_feed, fX12_feed, pz_in_1_8, h, ↓reduceIte, Option.bind_some, or_self, or_false, false_or, or_true, true_or, and_true, true_and, and_false, false_and, not_true_eq_false, not_false_eq_true, pz_10, pz_01, eq_self]
    exact ⟨_, _, rfl, rfl, rfl, pz_th 0 hI⟩
  have e500 : (500 : Int32) - nI len = nI (500 - len) := by rw [show (500 : Int32) = nI 500 from rfl, pk_sub hlen]
  have e501 : nI len + nI k ≤ (500 : Int32) ↔ len + k ≤ 500 := by rw [nI_add, show (500 : Int32) = nI 500 from rfl, nI_leI (by omega) (by omega)]
  have e502 : nI k ≤ nI (500 - len) ↔ k ≤ 500 - len := nI_leI (by omega) (by omega)
  have n0 : ¬ nI k < 0 := nI_pos (by omega)
  by_cases c : len + k ≤ 500
  · have c2 : k ≤ 500 - len := by omega
    obtain ⟨f, g, e1, e2, e3⟩ := pz_feed N x1 N k rd (zMi mo 0 0) len (by omega) c h0 h10 hb
    simp only [fX11_feed, fX12_feed, fX6_append, pz_in_1_8, h, h0, h10, n0, e500, e501, e502, c, c2, e1, e2, ↓reduceIte, Option.bind_some, or_self, or_false, false_or, or_true, true_or, and_true, true_and, and_false, false_and, not_true_eq_false, not_false_eq_true, pz_10, pz_01, eq_self]
    refine ⟨_, _, rfl, rfl, rfl, hI.1, hI.2.1, hI.2.2.1, ⟨hf, len + k, c, rfl, rfl, e3⟩, hI.2.2.2.2.1, hI.2.2.2.2.2⟩
  · have c2 : ¬ k ≤ 500 - len := by omega
    simp only [fX11_feed, fX12_feed, fX6_append, pz_in_1_8, h, h0, h10, n0, e500, e501, e502, c, c2, ↓reduceIte, Option.bind_some, or_self, or_false, false_or, or_true, true_or, and_true, true_and, and_false, false_and, not_true_eq_false, not_false_eq_true, pz_10, pz_01, eq_self]
    exact ⟨_, _, rfl, rfl, rfl, pz_th 0 hI⟩
