/-! THE PURE LAYER: orders -/
def pz_sw (l : List Nat) (i j : Nat) : List Nat := (l.set i (l.getD j 0)).set j (l.getD i 0)
def pz_ri (l : List Nat) : Nat → Nat
  | 0 => 0
  | r + 1 => if l.getD r 0 ≤ l.getD (r + 1) 0 then r + 1 else pz_ri l r
def pz_ab (l : List Nat) (r : Nat) : Nat → Nat
  | 0 => r + 1
  | d + 1 => if l.getD r 0 ≤ l.getD (r + 1 + (d + 1)) 0 then r + 1 + (d + 1) else pz_ab l r d
def pz_rv : Nat → List Nat → Nat → Nat → List Nat
  | 0, l, _, _ => l
  | f + 1, l, i, j => if i < j then pz_rv f (pz_sw l i j) (i + 1) (j - 1) else l
def pz_next (l : List Nat) : Option (List Nat) :=
  if pz_ri l (l.length - 1) = 0 then none else
  some (pz_rv 6 (pz_sw l (pz_ri l (l.length - 1) - 1) (pz_ab l (pz_ri l (l.length - 1) - 1) (l.length - 1 - pz_ri l (l.length - 1)))) (pz_ri l (l.length - 1)) (l.length - 1))
def pz_fin : Nat → List Nat → Bool
  | 0, l => (pz_next l).isNone
  | j + 1, l => match pz_next l with
    | none => true
    | some l' => pz_fin j l'
def pz_b6 (b0 b1 b2 b3 b4 b5 : Bool) : List Nat := (if b0 then [0] else []) ++ (if b1 then [1] else []) ++ (if b2 then [2] else []) ++ (if b3 then [3] else []) ++ (if b4 then [4] else []) ++ (if b5 then [5] else [])
set_option maxRecDepth 1000000 in
set_option maxHeartbeats 4000000 in
/-- 119 steps are all there are -/
theorem pz_120 : ∀ b0 b1 b2 b3 b4 b5 : Bool, (b0 && b1 && b2 && b3 && b4 && b5) = false → pz_fin 119 (pz_b6 b0 b1 b2 b3 b4 b5) = true := by decide +kernel
def pz_ar (f : Nat → Int32) (l : List Nat) : Prop := ∀ i, i < l.length → f i = nI (l.getD i 0)
def pz_in6 (l : List Nat) (K : Nat) : Prop := ∀ i, i < l.length → l.getD i 0 < K
theorem pz_gs {l : List Nat} {i k v : Nat} (hk : k < l.length) : (l.set i v).getD k 0 = if k = i then v else l.getD k 0 := by
  rw [List.getD_eq_getElem?_getD, List.getElem?_set, List.getD_eq_getElem?_getD]
  by_cases c : i = k
  · subst c
    rw [if_pos rfl, if_pos hk, if_pos rfl]
    rfl
  · rw [if_neg c, if_neg (Ne.symm c)]
theorem pz_sw_l (l : List Nat) (i j : Nat) : (pz_sw l i j).length = l.length := by
  unfold pz_sw
  rw [List.length_set, List.length_set]
theorem pz_sw_g {l : List Nat} {i j k : Nat} (hk : k < l.length) : (pz_sw l i j).getD k 0 = if k = j then l.getD i 0 else if k = i then l.getD j 0 else l.getD k 0 := by
  unfold pz_sw
  rw [pz_gs (by rw [List.length_set]; exact hk), pz_gs hk]
theorem pz_sw_6 {l : List Nat} {i j K : Nat} (h : pz_in6 l K) (hi : i < l.length) (hj : j < l.length) : pz_in6 (pz_sw l i j) K := by
  intro k hk
  rw [pz_sw_l] at hk
  rw [pz_sw_g hk]
  split
  · exact h i hi
  · split
    · exact h j hj
    · exact h k hk
theorem pz_sw_a {f : Nat → Int32} {l : List Nat} {i j : Nat} (h : pz_ar f l) (hi : i < l.length) (hj : j < l.length) : pz_ar (upd (upd f i (f j)) j (f i)) (pz_sw l i j) := by
  intro k hk
  rw [pz_sw_l] at hk
  rw [pz_sw_g hk]
  by_cases c : k = j
  · subst c
    rw [if_pos rfl, pk_us]
    exact h i hi
  · rw [if_neg c, pk_un c]
    by_cases d : k = i
    · subst d
      rw [if_pos rfl, pk_us]
      exact h j hj
    · rw [if_neg d, pk_un d]
      exact h k hk
theorem pz_ri_le (l : List Nat) : ∀ t, pz_ri l t ≤ t ∧ (0 < pz_ri l t → l.getD (pz_ri l t - 1) 0 ≤ l.getD (pz_ri l t) 0) := by
  intro t
  induction t with
  | zero => exact ⟨Nat.le_refl _, fun h => absurd h (by unfold pz_ri; omega)⟩
  | succ t ih =>
    unfold pz_ri
    split
    · next c => exact ⟨Nat.le_refl _, fun _ => c⟩
    · exact ⟨Nat.le_succ_of_le ih.1, ih.2⟩
theorem pz_ab_le (l : List Nat) (r : Nat) : ∀ d, r < pz_ab l r d ∧ pz_ab l r d ≤ r + 1 + d := by
  intro d
  induction d with
  | zero => unfold pz_ab; omega
  | succ d ih =>
    unfold pz_ab
    split
    · omega
    · omega
theorem pz_rv_l : ∀ f (l : List Nat) i j, (pz_rv f l i j).length = l.length := by
  intro f
  induction f with
  | zero => intro l i j; rfl
  | succ f ih =>
    intro l i j
    unfold pz_rv
    split
    · rw [ih, pz_sw_l]
    · rfl
theorem pz_rv_6 {K : Nat} : ∀ f (l : List Nat) i j, j < l.length → pz_in6 l K → pz_in6 (pz_rv f l i j) K := by
  intro f
  induction f with
  | zero => intro l i j _ h; exact h
  | succ f ih =>
    intro l i j hj h
    unfold pz_rv
    split
    · next c => exact ih _ _ _ (by rw [pz_sw_l]; omega) (pz_sw_6 h (by omega) hj)
    · exact h
theorem pz_next_s {l l' : List Nat} {K : Nat} (h : pz_next l = some l') : l'.length = l.length ∧ (pz_in6 l K → pz_in6 l' K) := by
  unfold pz_next at h
  by_cases c : pz_ri l (l.length - 1) = 0
  · rw [if_pos c] at h; cases h
  · rw [if_neg c] at h
    have h := Option.some.inj h
    subst h
    have r1 := (pz_ri_le l (l.length - 1)).1
    have a1 := pz_ab_le l (pz_ri l (l.length - 1) - 1) (l.length - 1 - pz_ri l (l.length - 1))
    refine ⟨by rw [pz_rv_l, pz_sw_l], fun h6 => pz_rv_6 _ _ _ _ (by rw [pz_sw_l]; omega) (pz_sw_6 h6 (by omega) (by omega))⟩
/-! the steps of class and reference -/
set_option maxHeartbeats 4000000 in
set_option maxRecDepth 100000 in
theorem pz_so1 (N : Nat) {ft : zOS} {mo : zMS} {l : List Nat} {x : Int32} (hl : l.length ≤ 6) (h6 : pz_in6 l 6) (ha : pz_ar (ft.2 4) l) (hb : pz_ar (mo.1.2 22) l) : ∀ t n, t < l.length → t < n → fX2_stepOrder_l1 N ft n (nI t - 1) = some (nI (pz_ri l t) - 1) ∧ fX12_nextRow_l1 N mo x n (nI t - 1) = some (nI (pz_ri l t) - 1) := by
  intro t
  induction t with
  | zero =>
    intro n h1 h2
    obtain ⟨n, rfl⟩ : ∃ i, n = i + 1 := ⟨n - 1, by omega⟩
    have g : nI 0 - 1 < 0 := by decide
    exact ⟨by simp only [fX2_stepOrder_l1, pz_ri, g, ↓reduceIte, Option.bind_some, or_self, or_false, false_or, or_true, true_or, and_true, true_and, and_false, false_and, not_true_eq_false, not_false_eq_true], by simp only [fX12_nextRow_l1, pz_ri, g, ↓reduceIte, Option.bind_some, or_self, or_false, false_or, or_true, true_or, and_true, true_and, and_false, false_and, not_true_eq_false, not_false_eq_true]⟩
  | succ t ih =>
    intro n h1 h2
    obtain ⟨n, rfl⟩ : ∃ i, n = i + 1 := ⟨n - 1, by omega⟩
    obtain ⟨i1, i2⟩ := ih n (by omega) (by omega)
    have g1 : ¬ nI t < 0 := nI_pos (by omega)
    have g2 : ¬ (6 : Int32) ≤ nI (t + 1) := nI_ge (b := 6) (by omega) (by omega)
    have j1 : ¬ 6 ≤ t := by omega
    have j2 := pz_ni (show t + 1 < 6 by omega) (by omega)
    have cl1 := nI_clamp (show t < 2 ^ 31 by omega)
    have cl2 := nI_clamp (show t + 1 < 2 ^ 31 by omega)
    have g4 : nI t + (-1 : Int32) = nI t - 1 := (Int32.sub_eq_add_neg _ _).symm
    have v1 := h6 t (by omega)
    have v2 := h6 (t + 1) h1
    have q : nI (l.getD t 0) ≤ nI (l.getD (t + 1) 0) ↔ l.getD t 0 ≤ l.getD (t + 1) 0 := nI_leI (by omega) (by omega)
    rw [nI_pred]
    simp only [fX2_stepOrder_l1, fX12_nextRow_l1, nI_1, g1, g2, g4, j1, j2, cl1, cl2, ha t (by omega), ha (t + 1) h1, hb t (by omega), hb (t + 1) h1, q, pz_ri, ↓reduceIte, Option.bind_some, or_self, or_false, false_or, or_true, true_or, and_true, true_and, and_false, false_and, not_true_eq_false, not_false_eq_true]
    by_cases c : l.getD t 0 ≤ l.getD (t + 1) 0
    · simp only [c, nI_pred, ↓reduceIte, Option.bind_some, or_self, or_false, false_or, or_true, true_or, and_true, true_and, and_false, false_and, not_true_eq_false, not_false_eq_true]
    · simp only [c, ↓reduceIte, Option.bind_some, or_self, or_false, false_or, or_true, true_or, and_true, true_and, and_false, false_and, not_true_eq_false, not_false_eq_true]
      exact ⟨i1, i2⟩
set_option maxHeartbeats 4000000 in
set_option maxRecDepth 100000 in
theorem pz_so2 (N : Nat) {ft : zOS} {mo : zMS} {l : List Nat} {x : Int32} {r : Nat} (hl : l.length ≤ 6) (h6 : pz_in6 l 6) (ha : pz_ar (ft.2 4) l) (hb : pz_ar (mo.1.2 22) l) (hr : l.getD r 0 ≤ l.getD (r + 1) 0) : ∀ d n, r + 1 + d < l.length → d < n → fX2_stepOrder_l2 N ft (nI r) n (nI (r + 1 + d)) = some (nI (pz_ab l r d)) ∧ fX12_nextRow_l2 N mo x (nI r) n (nI (r + 1 + d)) = some (nI (pz_ab l r d)) := by
  intro d
  induction d with
  | zero =>
    intro n h1 h2
    obtain ⟨n, rfl⟩ : ∃ i, n = i + 1 := ⟨n - 1, by omega⟩
    have g1 : ¬ nI (r + 1) ≤ nI r := nI_ge (by omega) (by omega)
    have g2 : ¬ (6 : Int32) ≤ nI (r + 1) := nI_ge (b := 6) (by omega) (by omega)
    have j1 := pz_ni (show r < 6 by omega) (by omega)
    have j2 := pz_ni (show r + 1 < 6 by omega) (by omega)
    have cl1 := nI_clamp (show r < 2 ^ 31 by omega)
    have cl2 := nI_clamp (show r + 1 < 2 ^ 31 by omega)
    have v1 := h6 r (by omega)
    have v2 := h6 (r + 1) h1
    have q : nI (l.getD r 0) ≤ nI (l.getD (r + 1) 0) := nI_le hr (by omega)
    rw [Nat.add_zero]
    simp only [fX2_stepOrder_l2, fX12_nextRow_l2, g1, g2, j1, j2, cl1, cl2, ha r (by omega), ha (r + 1) h1, hb r (by omega), hb (r + 1) h1, q, pz_ab, ↓reduceIte, Option.bind_some, or_self, or_false, false_or, or_true, true_or, and_true, true_and, and_false, false_and, not_true_eq_false, not_false_eq_true]
  | succ d ih =>
    intro n h1 h2
    obtain ⟨n, rfl⟩ : ∃ i, n = i + 1 := ⟨n - 1, by omega⟩
    obtain ⟨i1, i2⟩ := ih n (by omega) (by omega)
    have g1 : ¬ nI (r + 1 + (d + 1)) ≤ nI r := nI_ge (by omega) (by omega)
    have g2 : ¬ (6 : Int32) ≤ nI (r + 1 + (d + 1)) := nI_ge (b := 6) (by omega) (by omega)
    have j1 := pz_ni (show r < 6 by omega) (by omega)
    have j2 := pz_ni (show r + 1 + (d + 1) < 6 by omega) (by omega)
    have cl1 := nI_clamp (show r < 2 ^ 31 by omega)
    have cl2 := nI_clamp (show r + 1 + (d + 1) < 2 ^ 31 by omega)
    have v1 := h6 r (by omega)
    have v2 := h6 (r + 1 + (d + 1)) h1
    have g4 : nI (r + 1 + (d + 1)) + (-1 : Int32) = nI (r + 1 + d) := pk_m1 _
    have q : nI (l.getD r 0) ≤ nI (l.getD (r + 1 + (d + 1)) 0) ↔ l.getD r 0 ≤ l.getD (r + 1 + (d + 1)) 0 := nI_leI (by omega) (by omega)
    simp only [fX2_stepOrder_l2, fX12_nextRow_l2, g1, g2, g4, j1, j2, cl1, cl2, ha r (by omega), ha _ h1, hb r (by omega), hb _ h1, q, pz_ab, ↓reduceIte, Option.bind_some, or_self, or_false, false_or, or_true, true_or, and_true, true_and, and_false, false_and, not_true_eq_false, not_false_eq_true]
    by_cases c : l.getD r 0 ≤ l.getD (r + 1 + (d + 1)) 0
    · simp only [c, ↓reduceIte, Option.bind_some, or_self, or_false, false_or, or_true, true_or, and_true, true_and, and_false, false_and, not_true_eq_false, not_false_eq_true]
    · simp only [c, ↓reduceIte, Option.bind_some, or_self, or_false, false_or, or_true, true_or, and_true, true_and, and_false, false_and, not_true_eq_false, not_false_eq_true]
      exact ⟨i1, i2⟩
theorem pz_pAA (o : zOS) (k : Nat) (g h : Nat → Int32) : zpA (zpA o k g) k h = zpA o k h := by
  show (o.1, va_up (va_up o.2 k g) k h) = (o.1, va_up o.2 k h)
  rw [bx_uu]
set_option maxHeartbeats 4000000 in
set_option maxRecDepth 100000 in
theorem pz_swC (N : Nat) {ft : zOS} {i j : Nat} (hi : i < 6) (hj : j < 6) : fX2_swap N ft (nI i) (nI j) = some (zpA ft 4 (upd (upd (ft.2 4) i (ft.2 4 j)) j (ft.2 4 i))) := by
  have a1 : ¬ nI i < 0 := nI_pos (by omega)
  have a2 : ¬ nI j < 0 := nI_pos (by omega)
  have a3 : ¬ (6 : Int32) ≤ nI i := nI_ge (b := 6) hi (by omega)
  have a4 : ¬ (6 : Int32) ≤ nI j := nI_ge (b := 6) hj (by omega)
  have b1 : ¬ 6 ≤ i := by omega
  have b2 : ¬ 6 ≤ j := by omega
  simp only [fX2_swap, a1, a2, a3, a4, b1, b2, nI_clamp (show i < 2 ^ 31 by omega), nI_clamp (show j < 2 ^ 31 by omega), pz_pAA, ↓reduceIte, Option.bind_some, or_self, or_false, false_or, or_true, true_or, and_true, true_and, and_false, false_and, not_true_eq_false, not_false_eq_true]
set_option maxHeartbeats 4000000 in
set_option maxRecDepth 100000 in
theorem pz_swR (N : Nat) {mo : zMS} {i j : Nat} (hi : i < 6) (hj : j < 6) : fX12_swap N mo (nI i) (nI j) = some (zMA mo 22 (upd (upd (mo.1.2 22) i (mo.1.2 22 j)) j (mo.1.2 22 i))) := by
  have b1 := pz_ni hi (by omega)
  have b2 := pz_ni hj (by omega)
  simp only [fX12_swap, b1, b2, nI_clamp (show i < 2 ^ 31 by omega), nI_clamp (show j < 2 ^ 31 by omega), pz_MAA, ↓reduceIte, Option.bind_some, or_self, or_false, false_or, or_true, true_or, and_true, true_and, and_false, false_and, not_true_eq_false, not_false_eq_true]
set_option maxHeartbeats 4000000 in
set_option maxRecDepth 100000 in
theorem pz_so3 (N : Nat) {m0 : zMS} {f0 : zOS} : ∀ f (l : List Nat) (F X : Nat → Int32) i j n, l.length ≤ 6 → i ≤ 7 ∧ j < l.length → j < i + 2 * f → f < n → pz_ar F l → pz_ar X l → ∃ F' X', fX2_stepOrder_l3 N n (nI i) (nI j) (zpA f0 4 F) = some (zpA f0 4 F') ∧ fX12_nextRow_l3 N n (nI j) (nI i) (zMA m0 22 X) = some (zMA m0 22 X') ∧ pz_ar F' (pz_rv f l i j) ∧ pz_ar X' (pz_rv f l i j) := by
  intro f
  induction f with
  | zero =>
    intro l F X i j n h1 h2 h3 h4 h5 h6
    obtain ⟨n, rfl⟩ : ∃ i, n = i + 1 := ⟨n - 1, by omega⟩
    have g : nI j ≤ nI i := nI_le (by omega) (by omega)
    exact ⟨F, X, by simp only [fX2_stepOrder_l3, g, ↓reduceIte, Option.bind_some, or_self, or_false, false_or, or_true, true_or, and_true, true_and, and_false, false_and, not_true_eq_false, not_false_eq_true], by simp only [fX12_nextRow_l3, g, ↓reduceIte, Option.bind_some, or_self, or_false, false_or, or_true, true_or, and_true, true_and, and_false, false_and, not_true_eq_false, not_false_eq_true], h5, h6⟩
  | succ f ih =>
    intro l F X i j n h1 h2 h3 h4 h5 h6
    obtain ⟨n, rfl⟩ : ∃ i, n = i + 1 := ⟨n - 1, by omega⟩
    unfold pz_rv
    by_cases c : i < j
    · have g : ¬ nI j ≤ nI i := nI_ge c (by omega)
      have e : nI j + (-1 : Int32) = nI (j - 1) := by
        obtain ⟨j, rfl⟩ : ∃ i, j = i + 1 := ⟨j - 1, by omega⟩
        exact pk_m1 _
      rw [if_pos c]
      obtain ⟨F', X', e1, e2, e3, e4⟩ := ih (pz_sw l i j) (upd (upd F i (F j)) j (F i)) (upd (upd X i (X j)) j (X i)) (i + 1) (j - 1) n (by rw [pz_sw_l]; exact h1) ⟨by omega, by rw [pz_sw_l]; omega⟩ (by omega) (by omega) (pz_sw_a h5 (by omega) h2.2) (pz_sw_a h6 (by omega) h2.2)
      refine ⟨F', X', ?_, ?_, e3, e4⟩
      · simp only [fX2_stepOrder_l3, g, pz_swC N (show i < 6 by omega) (show j < 6 by omega), e, nI_1, pz_pAA, ↓reduceIte, Option.bind_some, or_self, or_false, false_or, or_true, true_or, and_true, true_and, and_false, false_and, not_true_eq_false, not_false_eq_true]
        exact e1
      · simp only [fX12_nextRow_l3, g, pz_swR N (show i < 6 by omega) (show j < 6 by omega), e, nI_1, pz_MAA, ↓reduceIte, Option.bind_some, or_self, or_false, false_or, or_true, true_or, and_true, true_and, and_false, false_and, not_true_eq_false, not_false_eq_true]
        exact e2
    · have g : nI j ≤ nI i := nI_le (by omega) (by omega)
      rw [if_neg c]
      exact ⟨F, X, by simp only [fX2_stepOrder_l3, g, ↓reduceIte, Option.bind_some, or_self, or_false, false_or, or_true, true_or, and_true, true_and, and_false, false_and, not_true_eq_false, not_false_eq_true], by simp only [fX12_nextRow_l3, g, ↓reduceIte, Option.bind_some, or_self, or_false, false_or, or_true, true_or, and_true, true_and, and_false, false_and, not_true_eq_false, not_false_eq_true], h5, h6⟩
set_option maxHeartbeats 4000000 in
set_option maxRecDepth 100000 in
/-- the next order, in both -/
theorem pz_step (N : Nat) (hN : 200000 ≤ N) {ft : zOS} {mo : zMS} {l : List Nat} (hl : l.length ≤ 6) (h6 : pz_in6 l 6) (ha : pz_ar (ft.2 4) l) (hb : pz_ar (mo.1.2 22) l) (hm : ft.1 1 = nI l.length) : (pz_next l = none ∧ fX2_stepOrder N ft = some (0, ft) ∧ fX12_nextRow N mo (nI l.length) = some (0, mo)) ∨ ∃ l' F' X', pz_next l = some l' ∧ fX2_stepOrder N ft = some (1, zpA ft 4 F') ∧ fX12_nextRow N mo (nI l.length) = some (1, zMA mo 22 X') ∧ pz_ar F' l' ∧ pz_ar X' l' := by
  by_cases c0 : l.length = 0
  · have e0 : l = [] := List.eq_nil_of_length_eq_zero c0
    subst e0
    obtain ⟨M, rfl⟩ : ∃ i, N = i + 1 := ⟨N - 1, by omega⟩
    have g1 : nI 0 - 2 < 0 := by decide
    have g2 : ¬ 0 ≤ nI 0 - 2 := by decide
    have hm' : ft.1 1 = nI 0 := hm
    refine .inl ⟨rfl, ?_, ?_⟩
    · simp only [fX2_stepOrder, fX2_stepOrder_l1, hm', g1, g2, ↓reduceIte, Option.bind_some, or_self, or_false, false_or, or_true, true_or, and_true, true_and, and_false, false_and, not_true_eq_false, not_false_eq_true]
    · show fX12_nextRow (M + 1) mo (nI 0) = _
      simp only [fX12_nextRow, fX12_nextRow_l1, g1, g2, ↓reduceIte, Option.bind_some, or_self, or_false, false_or, or_true, true_or, and_true, true_and, and_false, false_and, not_true_eq_false, not_false_eq_true]
  · have e2 : nI l.length - (2 : Int32) = nI (l.length - 1) - 1 := by
      obtain ⟨m, hm⟩ : ∃ i, l.length = i + 1 := ⟨l.length - 1, by omega⟩
      rw [hm, Nat.add_sub_cancel]
      apply Int32.toInt_inj.mp
      rw [show (2 : Int32) = nI 2 from rfl, show (1 : Int32) = nI 1 from rfl, pk_sub_toInt (by omega) (by omega), pk_sub_toInt (by omega) (by omega)]
      omega
    obtain ⟨s1, s2⟩ := pz_so1 N (x := nI l.length) hl h6 ha hb (l.length - 1) N (by omega) (by omega)
    obtain ⟨r1, r2⟩ := pz_ri_le l (l.length - 1)
    by_cases c : pz_ri l (l.length - 1) = 0
    · rw [c] at s1 s2
      have g2 : ¬ 0 ≤ nI 0 - 1 := by decide
      refine .inl ⟨by unfold pz_next; rw [if_pos c], ?_, ?_⟩
      · simp only [fX2_stepOrder, hm, e2, s1, g2, ↓reduceIte, Option.bind_some, or_self, or_false, false_or, or_true, true_or, and_true, true_and, and_false, false_and, not_true_eq_false, not_false_eq_true]
      · simp only [fX12_nextRow, e2, s2, g2, ↓reduceIte, Option.bind_some, or_self, or_false, false_or, or_true, true_or, and_true, true_and, and_false, false_and, not_true_eq_false, not_false_eq_true]
    · obtain ⟨r, hr⟩ : ∃ i, pz_ri l (l.length - 1) = i + 1 := ⟨pz_ri l (l.length - 1) - 1, by omega⟩
      rw [hr, nI_pred] at s1 s2
      rw [hr, Nat.add_sub_cancel] at r2
      rw [hr] at r1
      have rr := r2 (by omega)
      have g2 : 0 ≤ nI r := nI_pos' (by omega)
      have e1 : nI l.length - (1 : Int32) = nI (r + 1 + (l.length - 1 - (r + 1))) := by
        rw [show (1 : Int32) = nI 1 from rfl, pk_sub (by omega)]
        congr 1
        omega
      obtain ⟨t1, t2⟩ := pz_so2 N (x := nI l.length) hl h6 ha hb rr (l.length - 1 - (r + 1)) N (by omega) (by omega)
      obtain ⟨b1, b2⟩ := pz_ab_le l r (l.length - 1 - (r + 1))
      generalize hab : pz_ab l r (l.length - 1 - (r + 1)) = b at *
      have w1 := pz_swC N (ft := ft) (show r < 6 by omega) (show b < 6 by omega)
      have w2 := pz_swR N (mo := mo) (show r < 6 by omega) (show b < 6 by omega)
      have e3 : nI l.length - (1 : Int32) = nI (l.length - 1) := by rw [show (1 : Int32) = nI 1 from rfl, pk_sub (by omega)]
      obtain ⟨F', X', f1, f2, f3, f4⟩ := pz_so3 N (m0 := mo) (f0 := ft) 6 (pz_sw l r b) (upd (upd (ft.2 4) r (ft.2 4 b)) b (ft.2 4 r)) (upd (upd (mo.1.2 22) r (mo.1.2 22 b)) b (mo.1.2 22 r)) (r + 1) (l.length - 1) N (by rw [pz_sw_l]; exact hl) ⟨by omega, by rw [pz_sw_l]; omega⟩ (by omega) (by omega) (pz_sw_a ha (by omega) (by omega)) (pz_sw_a hb (by omega) (by omega))
      refine .inr ⟨pz_rv 6 (pz_sw l r b) (r + 1) (l.length - 1), F', X', ?_, ?_, ?_, f3, f4⟩
      · unfold pz_next
        rw [hr, if_neg (by omega), Nat.add_sub_cancel, hab]
      · have hm2 : (zpA ft 4 (upd (upd (ft.2 4) r (ft.2 4 b)) b (ft.2 4 r))).1 1 = nI l.length := hm
        rw [← e1] at t1
        simp only [fX2_stepOrder, hm, e2, s1, g2, t1, w1, hm2, ↓reduceIte, Option.bind_some, or_self, or_false, false_or, or_true, true_or, and_true, true_and, and_false, false_and, not_true_eq_false, not_false_eq_true]
        rw [nI_1, e3, f1]
        rfl
      · rw [← e1] at t2
        simp only [fX12_nextRow, e2, s2, g2, t2, w2, ↓reduceIte, Option.bind_some, or_self, or_false, false_or, or_true, true_or, and_true, true_and, and_false, false_and, not_true_eq_false, not_false_eq_true]
        rw [nI_1, e3, f2]
        rfl
