/-! THE PURE LAYER: numbers -/
theorem pzl_0 : (0 : Int32) = nI 0 := rfl
theorem pzl_1 : (1 : Int32) = nI 1 := rfl
theorem pzl_2 : (2 : Int32) = nI 2 := rfl
theorem pzl_3 : (3 : Int32) = nI 3 := rfl
theorem pzl_4 : (4 : Int32) = nI 4 := rfl
theorem pzl_5 : (5 : Int32) = nI 5 := rfl
theorem pzl_6 : (6 : Int32) = nI 6 := rfl
theorem pzl_7 : (7 : Int32) = nI 7 := rfl
theorem pzl_8 : (8 : Int32) = nI 8 := rfl
theorem pzl_9 : (9 : Int32) = nI 9 := rfl
theorem pzl_10 : (10 : Int32) = nI 10 := rfl
theorem pzl_13 : (13 : Int32) = nI 13 := rfl
theorem pzl_16 : (16 : Int32) = nI 16 := rfl
theorem pzl_21 : (21 : Int32) = nI 21 := rfl
theorem pzl_24 : (24 : Int32) = nI 24 := rfl
theorem pzl_29 : (29 : Int32) = nI 29 := rfl
theorem pzl_30 : (30 : Int32) = nI 30 := rfl
theorem pzl_36 : (36 : Int32) = nI 36 := rfl
theorem pzl_40 : (40 : Int32) = nI 40 := rfl
theorem pzl_42 : (42 : Int32) = nI 42 := rfl
theorem pzl_50 : (50 : Int32) = nI 50 := rfl
theorem pzl_58 : (58 : Int32) = nI 58 := rfl
theorem pzl_77 : (77 : Int32) = nI 77 := rfl
theorem pzl_116 : (116 : Int32) = nI 116 := rfl
theorem pzl_120 : (120 : Int32) = nI 120 := rfl
theorem pzl_154 : (154 : Int32) = nI 154 := rfl
theorem pzl_320 : (320 : Int32) = nI 320 := rfl
theorem pzl_500 : (500 : Int32) = nI 500 := rfl
theorem pz_10 : ((1 : Int32) = 0) = False := eq_false (by decide)
theorem pz_01 : ((0 : Int32) = 1) = False := eq_false (by decide)
theorem pz_leF {a b : Nat} (h : b < a) : (a ≤ b) = False := eq_false (by omega)
theorem pz_leT {a b : Nat} (h : a ≤ b) : (a ≤ b) = True := eq_true h
theorem pz_ltF {a b : Nat} (h : b ≤ a) : (a < b) = False := eq_false (by omega)
theorem pz_ltT {a b : Nat} (h : a < b) : (a < b) = True := eq_true h
theorem pz_eqF {a b : Nat} (h : a ≠ b) : (a = b) = False := eq_false h
theorem pz_eqT {a b : Nat} (h : a = b) : (a = b) = True := eq_true h
theorem pz_ni {c N : Nat} (h : c < N) (hN : N < 2 ^ 31) : ¬ (nI c < 0 ∨ N ≤ c) := fun h2 => h2.elim (fun h3 => nI_pos (by omega) h3) (fun h3 => by omega)
theorem pz_lt64 (x y : Int32) : x.toInt64 < y.toInt64 ↔ x < y := by
  rw [Int64.lt_iff_toInt_lt, Int32.lt_iff_toInt_lt, Int32.toInt_toInt64, Int32.toInt_toInt64]
theorem pz_le64 (x y : Int32) : x.toInt64 ≤ y.toInt64 ↔ x ≤ y := by
  rw [Int64.le_iff_toInt_le, Int32.le_iff_toInt_le, Int32.toInt_toInt64, Int32.toInt_toInt64]
theorem pz_in (N : Nat) (x a b : Int32) : fX12_in N x.toInt64 a.toInt64 b.toInt64 = fX11_within N x a b := by
  unfold fX12_in fX11_within
  simp only [lg_cmp_lt, lg_cmp_gt, pz_lt64]
theorem pz_in_0_7 (N : Nat) (x : Int32) : fX12_in N x.toInt64 (0 : Int64) (7 : Int64) = fX11_within N x (0 : Int32) (7 : Int32) := pz_in N x (0) (7)
theorem pz_in_0_2 (N : Nat) (x : Int32) : fX12_in N x.toInt64 (0 : Int64) (2 : Int64) = fX11_within N x (0 : Int32) (2 : Int32) := pz_in N x (0) (2)
theorem pz_in_1_8 (N : Nat) (x : Int32) : fX12_in N x.toInt64 (1 : Int64) (8 : Int64) = fX11_within N x (1 : Int32) (8 : Int32) := pz_in N x (1) (8)
theorem pz_in_0_999 (N : Nat) (x : Int32) : fX12_in N x.toInt64 (0 : Int64) (999 : Int64) = fX11_within N x (0 : Int32) (999 : Int32) := pz_in N x (0) (999)
theorem pz_in_1_9 (N : Nat) (x : Int32) : fX12_in N x.toInt64 (1 : Int64) (9 : Int64) = fX11_within N x (1 : Int32) (9 : Int32) := pz_in N x (1) (9)
theorem pz_in_0_1 (N : Nat) (x : Int32) : fX12_in N x.toInt64 (0 : Int64) (1 : Int64) = fX11_within N x (0 : Int32) (1 : Int32) := pz_in N x (0) (1)
theorem pz_in_0_100 (N : Nat) (x : Int32) : fX12_in N x.toInt64 (0 : Int64) (100 : Int64) = fX11_within N x (0 : Int32) (100 : Int32) := pz_in N x (0) (100)
theorem pz_in_0_1000 (N : Nat) (x : Int32) : fX12_in N x.toInt64 (0 : Int64) (1000 : Int64) = fX11_within N x (0 : Int32) (1000 : Int32) := pz_in N x (0) (1000)
theorem pz_in_0_60 (N : Nat) (x : Int32) : fX12_in N x.toInt64 (0 : Int64) (60 : Int64) = fX11_within N x (0 : Int32) (60 : Int32) := pz_in N x (0) (60)
theorem pz_in_0_5 (N : Nat) (x : Int32) : fX12_in N x.toInt64 (0 : Int64) (5 : Int64) = fX11_within N x (0 : Int32) (5 : Int32) := pz_in N x (0) (5)
theorem pz_in_0_99999 (N : Nat) (x : Int32) : fX12_in N x.toInt64 (0 : Int64) (99999 : Int64) = fX11_within N x (0 : Int32) (99999 : Int32) := pz_in N x (0) (99999)
theorem pz_in_m1_99999 (N : Nat) (x : Int32) : fX12_in N x.toInt64 (-1 : Int64) (99999 : Int64) = fX11_within N x (-1 : Int32) (99999 : Int32) := pz_in N x (-1) (99999)
theorem pz_in_1_60 (N : Nat) (x : Int32) : fX12_in N x.toInt64 (1 : Int64) (60 : Int64) = fX11_within N x (1 : Int32) (60 : Int32) := pz_in N x (1) (60)
theorem pz_in_1_999999 (N : Nat) (x : Int32) : fX12_in N x.toInt64 (1 : Int64) (999999 : Int64) = fX11_within N x (1 : Int32) (999999 : Int32) := pz_in N x (1) (999999)
theorem pz_in_21_28 (N : Nat) (x : Int32) : fX12_in N x.toInt64 (21 : Int64) (28 : Int64) = fX11_within N x (21 : Int32) (28 : Int32) := pz_in N x (21) (28)
theorem pz_in_0 (N : Nat) (x b : Int32) : fX12_in N x.toInt64 (0 : Int64) b.toInt64 = fX11_within N x (0 : Int32) b := pz_in N x 0 b
theorem pz_in_m1 (N : Nat) (x b : Int32) : fX12_in N x.toInt64 (-1 : Int64) b.toInt64 = fX11_within N x (-1 : Int32) b := pz_in N x (-1) b
theorem pz_nlt {x y : Int32} (h : ¬ x < y) : y ≤ x := Int32.not_lt.mp h
theorem pz_nle {x y : Int32} (h : ¬ x ≤ y) : y < x := Int32.not_le.mp h
theorem pz_wi (N : Nat) (x a b : Int32) : fX11_within N x a b = some 0 ∨ (fX11_within N x a b = some 1 ∧ a ≤ x ∧ x ≤ b) := by
  unfold fX11_within
  by_cases h1 : x < a
  · left; rw [if_pos h1]
  · rw [if_neg h1]
    by_cases h2 : b < x
    · left; rw [if_pos h2]
    · right; rw [if_neg h2]; exact ⟨rfl, pz_nlt h1, pz_nlt h2⟩
theorem pz_wiN (N : Nat) (x a b : Int32) (lo hi : Nat) (ha : a = nI lo := by rfl) (hb : b = nI hi := by rfl) (hl : lo < 2 ^ 31 := by omega) (hh : hi < 2 ^ 31 := by omega) : fX11_within N x a b = some 0 ∨ (fX11_within N x a b = some 1 ∧ ∃ j, lo ≤ j ∧ j ≤ hi ∧ x = nI j) := by
  rcases pz_wi N x a b with h | ⟨h, h1, h2⟩
  · exact .inl h
  · refine .inr ⟨h, ?_⟩
    subst ha; subst hb
    rcases pk_ix x hh with h3 | h3 | ⟨j, hj, rfl⟩
    · exact absurd (Int32.lt_of_lt_of_le h3 (Int32.le_trans (nI_pos' hl) h1)) Int32.lt_irrefl
    · have e : x = nI hi := Int32.le_antisymm h2 h3
      subst e
      exact ⟨hi, (nI_leI hl hh).mp h1, Nat.le_refl _, rfl⟩
    · exact ⟨j, (nI_leI hl (by omega)).mp h1, by omega, rfl⟩
theorem pz_wi1 {N : Nat} {x a b : Int32} (h1 : a ≤ x) (h2 : x ≤ b) : fX11_within N x a b = some 1 := by
  unfold fX11_within
  rw [if_neg (Int32.not_lt.mpr h1), if_neg (Int32.not_lt.mpr h2)]
/-- below 0, n or more, or a number below n -/
theorem pz_ix (x : Int32) (n : Nat) (hn : n < 2 ^ 31 := by omega) : (x < 0 ∨ nI n ≤ x) ∨ ∃ j : Nat, j < n ∧ x = nI j := by
  rcases pk_ix x hn with h | h | h
  · exact .inl (.inl h)
  · exact .inl (.inr h)
  · exact .inr h
theorem pz_upA {α : Type} (f : Nat → α) (k : Nat) : va_up f k (f k) = f := by
  funext j; unfold va_up; split
  · next h => rw [h]
  · rfl
theorem pz_upd (f : Nat → Int32) (k : Nat) : upd f k (f k) = f := by
  funext j; unfold upd; split
  · next h => rw [h]
  · rfl
theorem pz_upd2 (f : Nat → Int32) (k : Nat) (a b : Int32) : upd (upd f k a) k b = upd f k b := by
  funext j; unfold upd; split <;> rfl
theorem pz_MAA (mo : zMS) (k : Nat) (g h : Nat → Int32) : zMA (zMA mo k g) k h = zMA mo k h := by
  show ((mo.1.1, va_up (va_up mo.1.2 k g) k h), mo.2) = ((mo.1.1, va_up mo.1.2 k h), mo.2)
  rw [bx_uu]
theorem pz_MA (mo : zMS) (k : Nat) (g : Nat → Int32) : (zMA mo k g).1.2 k = g := va_up_self _ _ _
theorem pz_MA0 (mo : zMS) (k : Nat) : zMA mo k (mo.1.2 k) = mo := by
  show ((mo.1.1, va_up mo.1.2 k (mo.1.2 k)), mo.2) = mo
  rw [pz_upA]
theorem pz_LAA (L : zLS) (k : Nat) (g h : Nat → Int32) : zLA (zLA L k g) k h = zLA L k h := by
  show ((L.1.1, va_up (va_up L.1.2 k g) k h), L.2) = ((L.1.1, va_up L.1.2 k h), L.2)
  rw [bx_uu]
theorem pz_LA (L : zLS) (k : Nat) (g : Nat → Int32) : (zLA L k g).1.2 k = g := va_up_self _ _ _
theorem pz_zfl (f : Nat → Int32) {i j : Nat} (h : i < j) (v : Int32) : zfl (upd f i v) (i + 1) j v = zfl f i j v := by
  funext k
  unfold zfl upd
  by_cases h1 : k = i
  · subst h1
    rw [if_neg (by omega), if_pos rfl, if_pos (by omega)]
  · by_cases h2 : i + 1 ≤ k ∧ k < j
    · rw [if_pos h2, if_pos (by omega)]
    · rw [if_neg h2, if_neg h1, if_neg (by omega)]
/-! the coupling of class and reference -/
def pz_rw (rw : zOS) (mo : zMS) : Prop := ∀ r, r < 8 → rw.2 0 r = mo.1.2 2 r ∧ (mo.1.2 2 r = -1 ∨ mo.1.2 2 r = 0 ∨ mo.1.2 2 r = 1 ∨ mo.1.2 2 r = 2) ∧ ∃ m, m ≤ 40 ∧ rw.2 1 r = nI m ∧ mo.1.2 3 r = nI m ∧ ∀ i, i < m → rw.2 2 (r * 40 + i) = mo.1.2 4 (r * 40 + i)
def pz_rd (rd : zOS) (mo : zMS) : Prop := rd.1 1 = mo.1.1 11 ∧ ∃ n, n ≤ 500 ∧ rd.1 0 = nI n ∧ mo.1.1 10 = nI n ∧ ∀ i, i < n → ∃ b, b < 256 ∧ mo.1.2 9 i = nI b ∧ rd.2 3 i = (nI b).toInt8.toInt32
def pz_tr (tr : zOS) (mo : zMS) : Prop := ∃ n, n ≤ 16 ∧ tr.1 1 = nI n ∧ mo.1.1 30 = nI n ∧ ∀ i, i < n → tr.2 0 i = mo.1.2 29 i
/-- a keeper's object is as the reference's row of keepers has him -/
def pz_kp (KL : List Nat) (kc : Nat → zKC) (L : zLS) (A : Nat → Int32) (k : Nat) : Prop := ∃ a, L.2 k = some a ∧ a ∈ KL ∧ kc a = (zko (A (24 + k)), nI k, A (30 + k), A (36 + k))
/-- what a land that is told has: K keepers, P pieces, Q points, T the last year -/
def pz_A (A : Nat → Int32) (K P Q T : Nat) : Prop := 1 ≤ K ∧ K ≤ 6 ∧ P ≤ 8 ∧ 1 ≤ Q ∧ Q ≤ 8 ∧ 1 ≤ T ∧ T ≤ 60 ∧ A 3 = nI K ∧ A 4 = nI P ∧ A 2 = nI Q ∧ A 1 = nI T ∧ (A 0 = 0 ∨ A 0 = 1) ∧ (∃ l, l ≤ 500 ∧ A 5 = nI l) ∧ (∃ l, l ≤ 20 ∧ A 6 = nI l) ∧ (∃ l, l ≤ 999 ∧ A 7 = nI l) ∧ (∀ i, i < Q → ∃ a v, a ≤ 60 ∧ v ≤ 9999 ∧ A (8 + i) = nI a ∧ A (16 + i) = nI v) ∧ (∀ i j, i < j → j < Q → A (8 + i) < A (8 + j)) ∧ (∀ k, k < K → ∃ w n c, 1 ≤ w ∧ w ≤ 5 ∧ n ≤ 60 ∧ 1 ≤ c ∧ c ≤ 9 ∧ A (24 + k) = nI w ∧ A (30 + k) = nI n ∧ A (36 + k) = nI c)
def pz_H (H : Nat → Int32) (K P : Nat) : Prop := (∀ k p, k < K → p < P → ∃ h, h ≤ 9 ∧ H (29 + 8 * k + p) = nI h) ∧ (∀ k p, k < K → P ≤ p → p < 8 → H (29 + 8 * k + p) = 0)
/-- the class' land as the reference has it, all but LOST -/
def pz_L (KL : List Nat) (kc : Nat → zKC) (L : zLS) (A H : Nat → Int32) (K P Q : Nat) : Prop := L.1.1 6 = A 3 ∧ L.1.1 7 = A 4 ∧ L.1.1 2 = A 2 ∧ L.1.1 1 = A 1 ∧ L.1.1 0 = A 0 ∧ L.1.1 4 = A 6 ∧ L.1.1 5 = A 7 ∧ L.1.1 8 = H 0 ∧ (∀ i, i < Q → L.1.2 9 i = A (8 + i) ∧ L.1.2 10 i = A (16 + i)) ∧ (∀ p, p < P → L.1.2 12 p = A (42 + p) ∧ L.1.2 13 p = A (50 + p) ∧ L.1.2 17 p = H (13 + p) ∧ L.1.2 18 p = H (21 + p)) ∧ (∀ k, k < K → L.1.2 15 k = H (1 + k) ∧ L.1.2 16 k = H (7 + k)) ∧ (∀ k p, k < K → p < P → L.1.2 14 (8 * k + p) = H (29 + 8 * k + p)) ∧ ∀ k, k < K → pz_kp KL kc L A k
/-- a land: told (b) and as the reference has it, or none -/
def pz_land (KL : List Nat) (kc : Nat → zKC) (L : zLS) (A H : Nat → Int32) : Prop := ∃ K P Q T, pz_A A K P Q T ∧ pz_H H K P ∧ pz_L KL kc L A H K P Q ∧ L.1.1 3 = A 5
def pz_none (L : zLS) (A H : Nat → Int32) : Prop := L.1.1 6 = 0 ∧ A 3 = 0 ∧ L.1.1 7 = 0 ∧ A 4 = 0 ∧ L.1.1 2 = A 2 ∧ L.1.1 1 = A 1 ∧ L.1.1 0 = A 0 ∧ L.1.1 8 = H 0
def pz_now (KL : List Nat) (kc : Nat → zKC) (L : zLS) (mo : zMS) : Prop := (mo.1.1 7 = 0 ∧ pz_none L (mo.1.2 5) (mo.1.2 8)) ∨ (mo.1.1 7 = 1 ∧ pz_land KL kc L (mo.1.2 5) (mo.1.2 8))
def pz_img (KL : List Nat) (kc : Nat → zKC) (L : zLS) (mo : zMS) (k : Nat) : Prop := (mo.1.2 26 k = 0 ∧ L.1.1 6 = 0) ∨ (mo.1.2 26 k = 1 ∧ mo.1.1 7 = 1 ∧ pz_land KL kc L (fun i => mo.1.2 27 (58 * k + i)) (fun i => mo.1.2 28 (77 * k + i)))
def pz_who (KL : List Nat) (kc : Nat → zKC) (L : zLS) : Prop := ∀ k a, k < 6 → L.2 k = some a → zkd KL kc a
def pz_la (KL : List Nat) (kc : Nat → zKC) (on : zNS) (la : Nat → zLS) (mo : zMS) : Prop := pz_now KL kc (la on.2.1) mo ∧ pz_img KL kc (la 0) mo 0 ∧ pz_img KL kc (la 1) mo 1 ∧ (∀ j, j < 4 → pz_who KL kc (la j)) ∧ ∃ d, d < 2147483647 ∧ mo.2 = lN d
def pz_Inv (KL : List Nat) (kc : Nat → zKC) (on : zNS) (rw rd ft tr : zOS) (la : Nat → zLS) (mo : zMS) : Prop := zOn on ∧ on.1 = mo.1.1 1 ∧ pz_rw rw mo ∧ pz_rd rd mo ∧ pz_tr tr mo ∧ pz_la KL kc on la mo
theorem pz_th {KL : List Nat} {kc : Nat → zKC} {on : zNS} {rw rd ft tr : zOS} {la : Nat → zLS} {mo : zMS} (v : Int32) (h : pz_Inv KL kc on rw rd ft tr la mo) : pz_Inv KL kc on rw rd ft tr la (zMi mo 0 v) := h
theorem pz_ro {KL : List Nat} {kc : Nat → zKC} {on : zNS} {rw rd ft tr : zOS} {la : Nat → zLS} {mo : zMS} (v : Int32) (j : Nat) (h : pz_Inv KL kc on rw rd ft tr la mo) : pz_Inv KL kc on rw rd ft tr (va_up la j (la j)) (zMi mo 0 v) := by
  rw [pz_upA]; exact h
/-- the status of both -/
theorem pz_st {KL : List Nat} {kc : Nat → zKC} {on : zNS} {rw rd ft tr : zOS} {la : Nat → zLS} {mo : zMS} (v : Int32) (h : pz_Inv KL kc on rw rd ft tr la mo) : pz_Inv KL kc (zNf on v) rw rd ft tr la (zMi (zMi (zMi mo 0 0) 1 0) 1 v) := ⟨h.1, rfl, h.2.2.1, h.2.2.2.1, h.2.2.2.2.1, h.2.2.2.2.2⟩
theorem ps_status {N : Nat} : zStep_status N pz_Inv := by
  intro KL kc on rw rd ft tr la mo hI
  exact ⟨_, _, rfl, rfl, hI.2.1, pz_th 0 hI⟩
theorem ps_fault {N : Nat} : zStep_fault N pz_Inv := by
  intro KL kc on rw rd ft tr la mo hI
  exact ⟨_, _, rfl, rfl, hI.2.2.2.1.1, pz_th 0 hI⟩
