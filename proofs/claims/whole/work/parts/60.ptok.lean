/-! THE PURE LAYER: the tape's tokens -/
def pz_sb (b : Nat) : Int32 := (nI b).toInt8.toInt32
def pz_so (b : Nat) : Nat := if b = 32 ∨ b = 10 then 0 else if 97 ≤ b ∧ b ≤ 122 then 1 else if 48 ≤ b ∧ b ≤ 57 then 2 else if b = 59 then 3 else 4
set_option maxRecDepth 1000000 in
theorem pz_so_c0 : ∀ b, b < 256 → fX6_sortOf 0 (pz_sb b) = some (nI (pz_so b)) := by decide +kernel
theorem pz_so_c (N : Nat) {b : Nat} (h : b < 256) : fX6_sortOf N (pz_sb b) = some (nI (pz_so b)) := pz_so_c0 b h
set_option maxRecDepth 1000000 in
theorem pz_so_r0 : ∀ b, b < 256 → fX12_isLetter 0 (nI b) = some (if pz_so b = 1 then 1 else 0) ∧ fX12_isFigure 0 (nI b) = some (if pz_so b = 2 then 1 else 0) ∧ ((nI b = 32 ∨ nI b = 10) ↔ pz_so b = 0) ∧ (nI b = 59 ↔ pz_so b = 3) ∧ ¬ nI b = -1000000 ∧ (pz_so b = 2 → pz_sb b - 48 = nI (b - 48) ∧ 48 ≤ b ∧ b ≤ 57) ∧ (pz_so b = 1 → pz_sb b = nI b ∧ 97 ≤ b ∧ b ≤ 122) ∧ pz_so b ≤ 4 := by decide +kernel
theorem pz_so_r (N : Nat) {b : Nat} (h : b < 256) : fX12_isLetter N (nI b) = some (if pz_so b = 1 then 1 else 0) ∧ fX12_isFigure N (nI b) = some (if pz_so b = 2 then 1 else 0) := ⟨(pz_so_r0 b h).1, (pz_so_r0 b h).2.1⟩
theorem pz_so_m (N : Nat) : fX12_isLetter N (-1000000) = some 0 ∧ fX12_isFigure N (-1000000) = some 0 := ⟨rfl, rfl⟩
/-- the tape in both: its bytes B, n of them -/
def pz_T (B : Nat → Nat) (n : Nat) (rd : zOS) (mo : zMS) : Prop := n ≤ 500 ∧ rd.1 0 = nI n ∧ mo.1.1 12 = nI n ∧ ∀ i, i < n → B i < 256 ∧ rd.2 3 i = pz_sb (B i) ∧ mo.1.2 9 i = nI (B i)
def pz_rn (B : Nat → Nat) (s n : Nat) : Nat → Nat → Nat
  | 0, i => i
  | f + 1, i => if i < n ∧ pz_so (B i) = s then pz_rn B s n f (i + 1) else i
theorem pz_rn_le (B : Nat → Nat) (s n : Nat) : ∀ f i, i ≤ n → i ≤ pz_rn B s n f i ∧ pz_rn B s n f i ≤ n ∧ (n - i ≤ f → pz_rn B s n f i < n → pz_so (B (pz_rn B s n f i)) ≠ s) ∧ ∀ j, i ≤ j → j < pz_rn B s n f i → pz_so (B j) = s := by
  intro f
  induction f with
  | zero => intro i h; exact ⟨Nat.le_refl _, h, fun h1 h2 => by unfold pz_rn at h2; omega, fun j h1 h2 => by unfold pz_rn at h2; omega⟩
  | succ f ih =>
    intro i h
    unfold pz_rn
    by_cases c : i < n ∧ pz_so (B i) = s
    · rw [if_pos c]
      obtain ⟨h1, h2, h3, h4⟩ := ih (i + 1) (by omega)
      refine ⟨by omega, h2, fun g1 g2 => h3 (by omega) g2, fun j g1 g2 => ?_⟩
      rcases Nat.eq_or_lt_of_le g1 with g3 | g3
      · subst g3; exact c.2
      · exact h4 j g3 g2
    · rw [if_neg c]
      exact ⟨Nat.le_refl _, h, fun _ g2 g3 => c ⟨g2, g3⟩, fun j g1 g2 => by omega⟩
set_option maxHeartbeats 4000000 in
set_option maxRecDepth 100000 in
theorem pz_bh (N : Nat) {B : Nat → Nat} {n s : Nat} {rd : zOS} {mo : zMS} (hT : pz_T B n rd mo) (hs : s ≤ 5) : ∀ f k i, i ≤ n → n - i ≤ f → f < k → fX6_behindRun_l1 N rd (nI s) k (nI i) = some (nI (pz_rn B s n f i)) := by
  obtain ⟨h5, h0, h12, hb⟩ := hT
  intro f
  induction f with
  | zero =>
    intro k i h1 h2 h3
    obtain ⟨k, rfl⟩ : ∃ x, k = x + 1 := ⟨k - 1, by omega⟩
    have e : i = n := by omega
    subst e
    have g : nI i ≤ nI i := Int32.le_refl _
    simp only [fX6_behindRun_l1, h0, g, pz_rn, ↓reduceIte, Option.bind_some, or_self, or_false, false_or, or_true, true_or, and_true, true_and, and_false, false_and, not_true_eq_false, not_false_eq_true]
  | succ f ih =>
    intro k i h1 h2 h3
    obtain ⟨k, rfl⟩ : ∃ x, k = x + 1 := ⟨k - 1, by omega⟩
    unfold pz_rn
    by_cases c : i < n
    · have g : ¬ nI n ≤ nI i := nI_ge c (by omega)
      have i5 := pz_ni (show i < 500 by omega) (by omega)
      have cl := nI_clamp (show i < 2 ^ 31 by omega)
      obtain ⟨b1, b2, -⟩ := hb i c
      have s4 := (pz_so_r0 (B i) b1).2.2.2.2.2.2.2
      have q : nI (pz_so (B i)) = nI s ↔ pz_so (B i) = s := nI_eq (by omega) (by omega)
      by_cases d : pz_so (B i) = s
      · rw [if_pos ⟨c, d⟩]
        simp only [fX6_behindRun_l1, h0, g, i5, cl, b2, pz_so_c N b1, q, d, nI_1, ↓reduceIte, Option.bind_some, or_self, or_false, false_or, or_true, true_or, and_true, true_and, and_false, false_and, not_true_eq_false, not_false_eq_true]
        exact ih k (i + 1) (by omega) (by omega) (by omega)
      · rw [if_neg (fun h => d h.2)]
        simp only [fX6_behindRun_l1, h0, g, i5, cl, b2, pz_so_c N b1, q, d, ↓reduceIte, Option.bind_some, or_self, or_false, false_or, or_true, true_or, and_true, true_and, and_false, false_and, not_true_eq_false, not_false_eq_true]
    · have e : i = n := by omega
      subst e
      have g : nI i ≤ nI i := Int32.le_refl _
      rw [if_neg (fun h => c h.1)]
      simp only [fX6_behindRun_l1, h0, g, ↓reduceIte, Option.bind_some, or_self, or_false, false_or, or_true, true_or, and_true, true_and, and_false, false_and, not_true_eq_false, not_false_eq_true]
theorem pz_by (N : Nat) {B : Nat → Nat} {n i : Nat} {rd : zOS} {mo : zMS} (hT : pz_T B n rd mo) (hi : i ≤ n) : (i = n ∧ fX12_byteAt N mo (nI i) = some (-1000000)) ∨ (i < n ∧ B i < 256 ∧ fX12_byteAt N mo (nI i) = some (nI (B i))) := by
  obtain ⟨h5, h0, h12, hb⟩ := hT
  unfold fX12_byteAt
  rw [h12]
  rcases Nat.lt_or_ge i n with c | c
  · refine .inr ⟨c, (hb i c).1, ?_⟩
    rw [if_neg (nI_ge c (by omega)), if_neg (nI_in (by omega) (by omega)), nI_clamp (by omega), (hb i c).2.2]
  · exact .inl ⟨by omega, by rw [if_pos (nI_le (by omega) (by omega))]⟩
theorem pz_Mi (mo : zMS) (k : Nat) (u v : Int32) : zMi (zMi mo k u) k v = zMi mo k v := by
  show ((upd (upd mo.1.1 k u) k v, mo.1.2), mo.2) = ((upd mo.1.1 k v, mo.1.2), mo.2)
  rw [pz_upd2]
theorem pz_T_i {B : Nat → Nat} {n : Nat} {rd : zOS} {mo : zMS} (hT : pz_T B n rd mo) (k : Nat) (v : Int32) (hk : 12 < k) : pz_T B n rd (zMi mo k v) := by
  obtain ⟨h5, h0, h12, hb⟩ := hT
  refine ⟨h5, h0, ?_, hb⟩
  show upd mo.1.1 k v 12 = _
  rw [pk_un (by omega)]
  exact h12
set_option maxHeartbeats 4000000 in
set_option maxRecDepth 100000 in
theorem pz_gp1 (N : Nat) {B : Nat → Nat} {n : Nat} {rd : zOS} {m0 : zMS} (hT : pz_T B n rd m0) : ∀ f k i, i ≤ n → n - i ≤ f → f < k → fX12_next_l1 N k (zMi m0 13 (nI i)) = some (zMi m0 13 (nI (pz_rn B 0 n f i))) := by
  intro f
  induction f with
  | zero =>
    intro k i h1 h2 h3
    obtain ⟨k, rfl⟩ : ∃ x, k = x + 1 := ⟨k - 1, by omega⟩
    have c13 : (zMi m0 13 (nI i)).1.1 13 = nI i := rfl
    rcases pz_by N (pz_T_i hT 13 (nI i) (by omega)) h1 with ⟨e, eb⟩ | ⟨e, -⟩
    · simp only [fX12_next_l1, c13, eb, (show ¬ (-1000000 : Int32) = 32 by decide), (show ¬ (-1000000 : Int32) = 10 by decide), pz_rn, ↓reduceIte, Option.bind_some, or_self, or_false, false_or, or_true, true_or, and_true, true_and, and_false, false_and, not_true_eq_false, not_false_eq_true]
    · omega
  | succ f ih =>
    intro k i h1 h2 h3
    obtain ⟨k, rfl⟩ : ∃ x, k = x + 1 := ⟨k - 1, by omega⟩
    have c13 : (zMi m0 13 (nI i)).1.1 13 = nI i := rfl
    unfold pz_rn
    rcases pz_by N (pz_T_i hT 13 (nI i) (by omega)) h1 with ⟨e, eb⟩ | ⟨e, hb, eb⟩
    · rw [if_neg (by omega)]
      simp only [fX12_next_l1, c13, eb, (show ¬ (-1000000 : Int32) = 32 by decide), (show ¬ (-1000000 : Int32) = 10 by decide), ↓reduceIte, Option.bind_some, or_self, or_false, false_or, or_true, true_or, and_true, true_and, and_false, false_and, not_true_eq_false, not_false_eq_true]
    · have q := (pz_so_r0 (B i) hb).2.2.1
      by_cases d : pz_so (B i) = 0
      · rw [if_pos ⟨e, d⟩]
        have := ih k (i + 1) (by omega) (by omega) (by omega)
        rcases q.mpr d with d2 | d2
        · simp only [fX12_next_l1, c13, eb, d2, nI_1, pz_Mi, ↓reduceIte, Option.bind_some, or_self, or_false, false_or, or_true, true_or, and_true, true_and, and_false, false_and, not_true_eq_false, not_false_eq_true]
          exact this
        · simp only [fX12_next_l1, c13, eb, d2, (show ¬ (10 : Int32) = 32 by decide), nI_1, pz_Mi, ↓reduceIte, Option.bind_some, or_self, or_false, false_or, or_true, true_or, and_true, true_and, and_false, false_and, not_true_eq_false, not_false_eq_true]
          exact this
      · rw [if_neg (fun h => d h.2)]
        have d1 : ¬ nI (B i) = 32 := fun h => d (q.mp (.inl h))
        have d2 : ¬ nI (B i) = 10 := fun h => d (q.mp (.inr h))
        simp only [fX12_next_l1, c13, eb, d1, d2, ↓reduceIte, Option.bind_some, or_self, or_false, false_or, or_true, true_or, and_true, true_and, and_false, false_and, not_true_eq_false, not_false_eq_true]
set_option maxHeartbeats 4000000 in
set_option maxRecDepth 100000 in
theorem pz_gp6 (N : Nat) {B : Nat → Nat} {n : Nat} {rd : zOS} {m0 : zMS} (hT : pz_T B n rd m0) : ∀ f k i, i ≤ n → n - i ≤ f → f < k → fX12_next_l6 N k (zMi m0 13 (nI i)) = some (zMi m0 13 (nI (pz_rn B 0 n f i))) := by
  intro f
  induction f with
  | zero =>
    intro k i h1 h2 h3
    obtain ⟨k, rfl⟩ : ∃ x, k = x + 1 := ⟨k - 1, by omega⟩
    have c13 : (zMi m0 13 (nI i)).1.1 13 = nI i := rfl
    rcases pz_by N (pz_T_i hT 13 (nI i) (by omega)) h1 with ⟨e, eb⟩ | ⟨e, -⟩
    · simp only [fX12_next_l6, c13, eb, (show ¬ (-1000000 : Int32) = 32 by decide), (show ¬ (-1000000 : Int32) = 10 by decide), pz_rn, ↓reduceIte, Option.bind_some, or_self, or_false, false_or, or_true, true_or, and_true, true_and, and_false, false_and, not_true_eq_false, not_false_eq_true]
    · omega
  | succ f ih =>
    intro k i h1 h2 h3
    obtain ⟨k, rfl⟩ : ∃ x, k = x + 1 := ⟨k - 1, by omega⟩
    have c13 : (zMi m0 13 (nI i)).1.1 13 = nI i := rfl
    unfold pz_rn
    rcases pz_by N (pz_T_i hT 13 (nI i) (by omega)) h1 with ⟨e, eb⟩ | ⟨e, hb, eb⟩
    · rw [if_neg (by omega)]
      simp only [fX12_next_l6, c13, eb, (show ¬ (-1000000 : Int32) = 32 by decide), (show ¬ (-1000000 : Int32) = 10 by decide), ↓reduceIte, Option.bind_some, or_self, or_false, false_or, or_true, true_or, and_true, true_and, and_false, false_and, not_true_eq_false, not_false_eq_true]
    · have q := (pz_so_r0 (B i) hb).2.2.1
      by_cases d : pz_so (B i) = 0
      · rw [if_pos ⟨e, d⟩]
        have := ih k (i + 1) (by omega) (by omega) (by omega)
        rcases q.mpr d with d2 | d2
        · simp only [fX12_next_l6, c13, eb, d2, nI_1, pz_Mi, ↓reduceIte, Option.bind_some, or_self, or_false, false_or, or_true, true_or, and_true, true_and, and_false, false_and, not_true_eq_false, not_false_eq_true]
          exact this
        · simp only [fX12_next_l6, c13, eb, d2, (show ¬ (10 : Int32) = 32 by decide), nI_1, pz_Mi, ↓reduceIte, Option.bind_some, or_self, or_false, false_or, or_true, true_or, and_true, true_and, and_false, false_and, not_true_eq_false, not_false_eq_true]
          exact this
      · rw [if_neg (fun h => d h.2)]
        have d1 : ¬ nI (B i) = 32 := fun h => d (q.mp (.inl h))
        have d2 : ¬ nI (B i) = 10 := fun h => d (q.mp (.inr h))
        simp only [fX12_next_l6, c13, eb, d1, d2, ↓reduceIte, Option.bind_some, or_self, or_false, false_or, or_true, true_or, and_true, true_and, and_false, false_and, not_true_eq_false, not_false_eq_true]
set_option maxHeartbeats 4000000 in
set_option maxRecDepth 100000 in
theorem pz_gp2 (N : Nat) {B : Nat → Nat} {n : Nat} {rd : zOS} {m0 : zMS} (hT : pz_T B n rd m0) : ∀ f k i, i ≤ n → n - i ≤ f → f < k → fX12_next_l2 N k (zMi m0 13 (nI i)) = some (zMi m0 13 (nI (pz_rn B 2 n f i))) := by
  intro f
  induction f with
  | zero =>
    intro k i h1 h2 h3
    obtain ⟨k, rfl⟩ : ∃ x, k = x + 1 := ⟨k - 1, by omega⟩
    have c13 : (zMi m0 13 (nI i)).1.1 13 = nI i := rfl
    rcases pz_by N (pz_T_i hT 13 (nI i) (by omega)) h1 with ⟨e, eb⟩ | ⟨e, -⟩
    · simp only [fX12_next_l2, c13, eb, (pz_so_m N).2, pz_rn, ↓reduceIte, Option.bind_some, or_self, or_false, false_or, or_true, true_or, and_true, true_and, and_false, false_and, not_true_eq_false, not_false_eq_true, pz_10, pz_01, eq_self]
    · omega
  | succ f ih =>
    intro k i h1 h2 h3
    obtain ⟨k, rfl⟩ : ∃ x, k = x + 1 := ⟨k - 1, by omega⟩
    have c13 : (zMi m0 13 (nI i)).1.1 13 = nI i := rfl
    unfold pz_rn
    rcases pz_by N (pz_T_i hT 13 (nI i) (by omega)) h1 with ⟨e, eb⟩ | ⟨e, hb, eb⟩
    · rw [if_neg (by omega)]
      simp only [fX12_next_l2, c13, eb, (pz_so_m N).2, ↓reduceIte, Option.bind_some, or_self, or_false, false_or, or_true, true_or, and_true, true_and, and_false, false_and, not_true_eq_false, not_false_eq_true, pz_10, pz_01, eq_self]
    · have q := (pz_so_r N hb).2
      by_cases d : pz_so (B i) = 2
      · rw [if_pos ⟨e, d⟩]
        have := ih k (i + 1) (by omega) (by omega) (by omega)
        simp only [fX12_next_l2, c13, eb, q, d, nI_1, pz_Mi, ↓reduceIte, Option.bind_some, or_self, or_false, false_or, or_true, true_or, and_true, true_and, and_false, false_and, not_true_eq_false, not_false_eq_true, pz_10, pz_01, eq_self]
        exact this
      · rw [if_neg (fun h => d h.2)]
        simp only [fX12_next_l2, c13, eb, q, d, ↓reduceIte, Option.bind_some, or_self, or_false, false_or, or_true, true_or, and_true, true_and, and_false, false_and, not_true_eq_false, not_false_eq_true, pz_10, pz_01, eq_self]
set_option maxHeartbeats 4000000 in
set_option maxRecDepth 100000 in
theorem pz_gp4 (N : Nat) {B : Nat → Nat} {n : Nat} {rd : zOS} {m0 : zMS} (hT : pz_T B n rd m0) : ∀ f k i, i ≤ n → n - i ≤ f → f < k → fX12_next_l4 N k (zMi m0 13 (nI i)) = some (zMi m0 13 (nI (pz_rn B 2 n f i))) := by
  intro f
  induction f with
  | zero =>
    intro k i h1 h2 h3
    obtain ⟨k, rfl⟩ : ∃ x, k = x + 1 := ⟨k - 1, by omega⟩
    have c13 : (zMi m0 13 (nI i)).1.1 13 = nI i := rfl
    rcases pz_by N (pz_T_i hT 13 (nI i) (by omega)) h1 with ⟨e, eb⟩ | ⟨e, -⟩
    · simp only [fX12_next_l4, c13, eb, (pz_so_m N).2, pz_rn, ↓reduceIte, Option.bind_some, or_self, or_false, false_or, or_true, true_or, and_true, true_and, and_false, false_and, not_true_eq_false, not_false_eq_true, pz_10, pz_01, eq_self]
    · omega
  | succ f ih =>
    intro k i h1 h2 h3
    obtain ⟨k, rfl⟩ : ∃ x, k = x + 1 := ⟨k - 1, by omega⟩
    have c13 : (zMi m0 13 (nI i)).1.1 13 = nI i := rfl
    unfold pz_rn
    rcases pz_by N (pz_T_i hT 13 (nI i) (by omega)) h1 with ⟨e, eb⟩ | ⟨e, hb, eb⟩
    · rw [if_neg (by omega)]
      simp only [fX12_next_l4, c13, eb, (pz_so_m N).2, ↓reduceIte, Option.bind_some, or_self, or_false, false_or, or_true, true_or, and_true, true_and, and_false, false_and, not_true_eq_false, not_false_eq_true, pz_10, pz_01, eq_self]
    · have q := (pz_so_r N hb).2
      by_cases d : pz_so (B i) = 2
      · rw [if_pos ⟨e, d⟩]
        have := ih k (i + 1) (by omega) (by omega) (by omega)
        simp only [fX12_next_l4, c13, eb, q, d, nI_1, pz_Mi, ↓reduceIte, Option.bind_some, or_self, or_false, false_or, or_true, true_or, and_true, true_and, and_false, false_and, not_true_eq_false, not_false_eq_true, pz_10, pz_01, eq_self]
        exact this
      · rw [if_neg (fun h => d h.2)]
        simp only [fX12_next_l4, c13, eb, q, d, ↓reduceIte, Option.bind_some, or_self, or_false, false_or, or_true, true_or, and_true, true_and, and_false, false_and, not_true_eq_false, not_false_eq_true, pz_10, pz_01, eq_self]
set_option maxHeartbeats 4000000 in
set_option maxRecDepth 100000 in
theorem pz_gp7 (N : Nat) {B : Nat → Nat} {n : Nat} {rd : zOS} {m0 : zMS} (hT : pz_T B n rd m0) : ∀ f k i, i ≤ n → n - i ≤ f → f < k → fX12_next_l7 N k (zMi m0 13 (nI i)) = some (zMi m0 13 (nI (pz_rn B 2 n f i))) := by
  intro f
  induction f with
  | zero =>
    intro k i h1 h2 h3
    obtain ⟨k, rfl⟩ : ∃ x, k = x + 1 := ⟨k - 1, by omega⟩
    have c13 : (zMi m0 13 (nI i)).1.1 13 = nI i := rfl
    rcases pz_by N (pz_T_i hT 13 (nI i) (by omega)) h1 with ⟨e, eb⟩ | ⟨e, -⟩
    · simp only [fX12_next_l7, c13, eb, (pz_so_m N).2, pz_rn, ↓reduceIte, Option.bind_some, or_self, or_false, false_or, or_true, true_or, and_true, true_and, and_false, false_and, not_true_eq_false, not_false_eq_true, pz_10, pz_01, eq_self]
    · omega
  | succ f ih =>
    intro k i h1 h2 h3
    obtain ⟨k, rfl⟩ : ∃ x, k = x + 1 := ⟨k - 1, by omega⟩
    have c13 : (zMi m0 13 (nI i)).1.1 13 = nI i := rfl
    unfold pz_rn
    rcases pz_by N (pz_T_i hT 13 (nI i) (by omega)) h1 with ⟨e, eb⟩ | ⟨e, hb, eb⟩
    · rw [if_neg (by omega)]
      simp only [fX12_next_l7, c13, eb, (pz_so_m N).2, ↓reduceIte, Option.bind_some, or_self, or_false, false_or, or_true, true_or, and_true, true_and, and_false, false_and, not_true_eq_false, not_false_eq_true, pz_10, pz_01, eq_self]
    · have q := (pz_so_r N hb).2
      by_cases d : pz_so (B i) = 2
      · rw [if_pos ⟨e, d⟩]
        have := ih k (i + 1) (by omega) (by omega) (by omega)
        simp only [fX12_next_l7, c13, eb, q, d, nI_1, pz_Mi, ↓reduceIte, Option.bind_some, or_self, or_false, false_or, or_true, true_or, and_true, true_and, and_false, false_and, not_true_eq_false, not_false_eq_true, pz_10, pz_01, eq_self]
        exact this
      · rw [if_neg (fun h => d h.2)]
        simp only [fX12_next_l7, c13, eb, q, d, ↓reduceIte, Option.bind_some, or_self, or_false, false_or, or_true, true_or, and_true, true_and, and_false, false_and, not_true_eq_false, not_false_eq_true, pz_10, pz_01, eq_self]
set_option maxHeartbeats 4000000 in
set_option maxRecDepth 100000 in
theorem pz_gp3 (N : Nat) {B : Nat → Nat} {n : Nat} {rd : zOS} {m0 : zMS} (hT : pz_T B n rd m0) : ∀ f k i, i ≤ n → n - i ≤ f → f < k → fX12_next_l3 N k (zMi m0 13 (nI i)) = some (zMi m0 13 (nI (pz_rn B 1 n f i))) := by
  intro f
  induction f with
  | zero =>
    intro k i h1 h2 h3
    obtain ⟨k, rfl⟩ : ∃ x, k = x + 1 := ⟨k - 1, by omega⟩
    have c13 : (zMi m0 13 (nI i)).1.1 13 = nI i := rfl
    rcases pz_by N (pz_T_i hT 13 (nI i) (by omega)) h1 with ⟨e, eb⟩ | ⟨e, -⟩
    · simp only [fX12_next_l3, c13, eb, (pz_so_m N).1, pz_rn, ↓reduceIte, Option.bind_some, or_self, or_false, false_or, or_true, true_or, and_true, true_and, and_false, false_and, not_true_eq_false, not_false_eq_true, pz_10, pz_01, eq_self]
    · omega
  | succ f ih =>
    intro k i h1 h2 h3
    obtain ⟨k, rfl⟩ : ∃ x, k = x + 1 := ⟨k - 1, by omega⟩
    have c13 : (zMi m0 13 (nI i)).1.1 13 = nI i := rfl
    unfold pz_rn
    rcases pz_by N (pz_T_i hT 13 (nI i) (by omega)) h1 with ⟨e, eb⟩ | ⟨e, hb, eb⟩
    · rw [if_neg (by omega)]
      simp only [fX12_next_l3, c13, eb, (pz_so_m N).1, ↓reduceIte, Option.bind_some, or_self, or_false, false_or, or_true, true_or, and_true, true_and, and_false, false_and, not_true_eq_false, not_false_eq_true, pz_10, pz_01, eq_self]
    · have q := (pz_so_r N hb).1
      by_cases d : pz_so (B i) = 1
      · rw [if_pos ⟨e, d⟩]
        have := ih k (i + 1) (by omega) (by omega) (by omega)
        simp only [fX12_next_l3, c13, eb, q, d, nI_1, pz_Mi, ↓reduceIte, Option.bind_some, or_self, or_false, false_or, or_true, true_or, and_true, true_and, and_false, false_and, not_true_eq_false, not_false_eq_true, pz_10, pz_01, eq_self]
        exact this
      · rw [if_neg (fun h => d h.2)]
        simp only [fX12_next_l3, c13, eb, q, d, ↓reduceIte, Option.bind_some, or_self, or_false, false_or, or_true, true_or, and_true, true_and, and_false, false_and, not_true_eq_false, not_false_eq_true, pz_10, pz_01, eq_self]
set_option maxHeartbeats 4000000 in
set_option maxRecDepth 100000 in
theorem pz_gp5 (N : Nat) {B : Nat → Nat} {n : Nat} {rd : zOS} {m0 : zMS} (hT : pz_T B n rd m0) : ∀ f k i, i ≤ n → n - i ≤ f → f < k → fX12_next_l5 N k (zMi m0 13 (nI i)) = some (zMi m0 13 (nI (pz_rn B 1 n f i))) := by
  intro f
  induction f with
  | zero =>
    intro k i h1 h2 h3
    obtain ⟨k, rfl⟩ : ∃ x, k = x + 1 := ⟨k - 1, by omega⟩
    have c13 : (zMi m0 13 (nI i)).1.1 13 = nI i := rfl
    rcases pz_by N (pz_T_i hT 13 (nI i) (by omega)) h1 with ⟨e, eb⟩ | ⟨e, -⟩
    · simp only [fX12_next_l5, c13, eb, (pz_so_m N).1, pz_rn, ↓reduceIte, Option.bind_some, or_self, or_false, false_or, or_true, true_or, and_true, true_and, and_false, false_and, not_true_eq_false, not_false_eq_true, pz_10, pz_01, eq_self]
    · omega
  | succ f ih =>
    intro k i h1 h2 h3
    obtain ⟨k, rfl⟩ : ∃ x, k = x + 1 := ⟨k - 1, by omega⟩
    have c13 : (zMi m0 13 (nI i)).1.1 13 = nI i := rfl
    unfold pz_rn
    rcases pz_by N (pz_T_i hT 13 (nI i) (by omega)) h1 with ⟨e, eb⟩ | ⟨e, hb, eb⟩
    · rw [if_neg (by omega)]
      simp only [fX12_next_l5, c13, eb, (pz_so_m N).1, ↓reduceIte, Option.bind_some, or_self, or_false, false_or, or_true, true_or, and_true, true_and, and_false, false_and, not_true_eq_false, not_false_eq_true, pz_10, pz_01, eq_self]
    · have q := (pz_so_r N hb).1
      by_cases d : pz_so (B i) = 1
      · rw [if_pos ⟨e, d⟩]
        have := ih k (i + 1) (by omega) (by omega) (by omega)
        simp only [fX12_next_l5, c13, eb, q, d, nI_1, pz_Mi, ↓reduceIte, Option.bind_some, or_self, or_false, false_or, or_true, true_or, and_true, true_and, and_false, false_and, not_true_eq_false, not_false_eq_true, pz_10, pz_01, eq_self]
        exact this
      · rw [if_neg (fun h => d h.2)]
        simp only [fX12_next_l5, c13, eb, q, d, ↓reduceIte, Option.bind_some, or_self, or_false, false_or, or_true, true_or, and_true, true_and, and_false, false_and, not_true_eq_false, not_false_eq_true, pz_10, pz_01, eq_self]
set_option maxHeartbeats 4000000 in
set_option maxRecDepth 100000 in
theorem pz_gp8 (N : Nat) {B : Nat → Nat} {n : Nat} {rd : zOS} {m0 : zMS} (hT : pz_T B n rd m0) : ∀ f k i, i ≤ n → n - i ≤ f → f < k → fX12_next_l8 N k (zMi m0 13 (nI i)) = some (zMi m0 13 (nI (pz_rn B 1 n f i))) := by
  intro f
  induction f with
  | zero =>
    intro k i h1 h2 h3
    obtain ⟨k, rfl⟩ : ∃ x, k = x + 1 := ⟨k - 1, by omega⟩
    have c13 : (zMi m0 13 (nI i)).1.1 13 = nI i := rfl
    rcases pz_by N (pz_T_i hT 13 (nI i) (by omega)) h1 with ⟨e, eb⟩ | ⟨e, -⟩
    · simp only [fX12_next_l8, c13, eb, (pz_so_m N).1, pz_rn, ↓reduceIte, Option.bind_some, or_self, or_false, false_or, or_true, true_or, and_true, true_and, and_false, false_and, not_true_eq_false, not_false_eq_true, pz_10, pz_01, eq_self]
    · omega
  | succ f ih =>
    intro k i h1 h2 h3
    obtain ⟨k, rfl⟩ : ∃ x, k = x + 1 := ⟨k - 1, by omega⟩
    have c13 : (zMi m0 13 (nI i)).1.1 13 = nI i := rfl
    unfold pz_rn
    rcases pz_by N (pz_T_i hT 13 (nI i) (by omega)) h1 with ⟨e, eb⟩ | ⟨e, hb, eb⟩
    · rw [if_neg (by omega)]
      simp only [fX12_next_l8, c13, eb, (pz_so_m N).1, ↓reduceIte, Option.bind_some, or_self, or_false, false_or, or_true, true_or, and_true, true_and, and_false, false_and, not_true_eq_false, not_false_eq_true, pz_10, pz_01, eq_self]
    · have q := (pz_so_r N hb).1
      by_cases d : pz_so (B i) = 1
      · rw [if_pos ⟨e, d⟩]
        have := ih k (i + 1) (by omega) (by omega) (by omega)
        simp only [fX12_next_l8, c13, eb, q, d, nI_1, pz_Mi, ↓reduceIte, Option.bind_some, or_self, or_false, false_or, or_true, true_or, and_true, true_and, and_false, false_and, not_true_eq_false, not_false_eq_true, pz_10, pz_01, eq_self]
        exact this
      · rw [if_neg (fun h => d h.2)]
        simp only [fX12_next_l8, c13, eb, q, d, ↓reduceIte, Option.bind_some, or_self, or_false, false_or, or_true, true_or, and_true, true_and, and_false, false_and, not_true_eq_false, not_false_eq_true, pz_10, pz_01, eq_self]
theorem pz_upds {f : Nat → Int32} {k : Nat} {x : Int32} (h : f k = x) : upd f k x = f := by
  rw [← h, pz_upd]
/-- the reference's token: its start, its sort, its end -/
def pz_tk (m : zMS) (s : Nat) (t : Int32) (e : Nat) : zMS := ((fun j => if j = 13 ∨ j = 16 then nI e else if j = 14 then t else if j = 15 then nI s else m.1.1 j, m.1.2), m.2)
theorem pz_tk1 (m : zMS) (s : Nat) (t : Int32) (e : Nat) : zMi (zMi (zMi (zMi m 15 (nI s)) 13 (nI e)) 14 t) 16 (nI e) = pz_tk m s t e := by
  have : upd (upd (upd (upd m.1.1 15 (nI s)) 13 (nI e)) 14 t) 16 (nI e) = (pz_tk m s t e).1.1 := by
    funext j
    unfold upd pz_tk
    by_cases c1 : j = 16
    · subst c1; rfl
    · by_cases c2 : j = 14
      · subst c2; rfl
      · by_cases c3 : j = 13
        · subst c3; rfl
        · by_cases c4 : j = 15
          · subst c4; rfl
          · simp [c1, c2, c3, c4]
  show ((upd (upd (upd (upd m.1.1 15 (nI s)) 13 (nI e)) 14 t) 16 (nI e), m.1.2), m.2) = _
  rw [this]
  rfl
theorem pz_tk2 (m : zMS) (s : Nat) (t : Int32) (h : m.1.1 13 = nI s) : zMi (zMi (zMi m 15 (nI s)) 14 t) 16 (nI s) = pz_tk m s t s := by
  have : upd (upd (upd m.1.1 15 (nI s)) 14 t) 16 (nI s) = (pz_tk m s t s).1.1 := by
    funext j
    unfold upd pz_tk
    by_cases c1 : j = 16
    · subst c1; rfl
    · by_cases c2 : j = 14
      · subst c2; rfl
      · by_cases c3 : j = 13
        · subst c3; simp [h]
        · by_cases c4 : j = 15
          · subst c4; rfl
          · simp [c1, c2, c3, c4]
  show ((upd (upd (upd m.1.1 15 (nI s)) 14 t) 16 (nI s), m.1.2), m.2) = _
  rw [this]
  rfl
theorem pz_tk3 (m : zMS) (u : Int32) (s : Nat) (t : Int32) (e : Nat) : pz_tk (zMi m 13 u) s t e = pz_tk m s t e := by
  have : (pz_tk (zMi m 13 u) s t e).1.1 = (pz_tk m s t e).1.1 := by
    funext j
    unfold pz_tk
    by_cases c : j = 13
    · subst c; rfl
    · show (if j = 13 ∨ j = 16 then nI e else if j = 14 then t else if j = 15 then nI s else upd m.1.1 13 u j) = _
      rw [pk_un c]
  show (((pz_tk (zMi m 13 u) s t e).1.1, m.1.2), m.2) = _
  rw [this]
  rfl
/-- the token from c on: where it begins, its sort (the class' number), where it ends -/
def pz_ts (B : Nat → Nat) (n c : Nat) : Nat := pz_rn B 0 n (n - c) c
def pz_te (B : Nat → Nat) (n s : Nat) : Nat × Nat := if s < n then (if pz_so (B s) = 1 then (1, pz_rn B 1 n (n - s) s) else if pz_so (B s) = 2 then (if pz_rn B 2 n (n - s) s - s ≤ 4 then 2 else 4, pz_rn B 2 n (n - s) s) else (pz_so (B s), s + 1)) else (5, s)
/-- the class' sort in the reference's numbers -/
def pz_tc2 (so : Nat) : Int32 := if so = 1 then 2 else if so = 2 then 3 else if so = 3 then 4 else if so = 5 then 1 else 0
set_option maxHeartbeats 4000000 in
set_option maxRecDepth 100000 in
theorem pz_tla (N : Nat) (hN : 200000 ≤ N) {B : Nat → Nat} {n s : Nat} {rd : zOS} {m : zMS} (hT : pz_T B n rd m) (hs : s ≤ n) (h13 : m.1.1 13 = nI s) (hg : s < n → pz_so (B s) ≠ 0) : ((fX12_byteAt N (zMi m 15 (nI s)) (nI s)).bind fun u_10 =>
      if u_10 = (-1000000 : Int32) then
        some (zMi (zMi (zMi m 15 (nI s)) 14 (1 : Int32)) 16 (nI s))
      else
        (fX12_isLetter N u_10).bind fun u_12 =>
        if u_12 = 0 then
          (fX12_isFigure N u_10).bind fun u_14 =>
          if u_14 = 0 then
            if u_10 = (59 : Int32) then
              some (zMi (zMi (zMi (zMi m 15 (nI s)) 13 (nI s + (1 : Int32))) 14 (4 : Int32)) 16 (nI s + (1 : Int32)))
            else
              some (zMi (zMi (zMi (zMi m 15 (nI s)) 13 (nI s + (1 : Int32))) 14 (0 : Int32)) 16 (nI s + (1 : Int32)))
          else
            (fX12_next_l2 N N (zMi m 15 (nI s))).bind (fun u_24 =>
              if ((u_24.1.1 13) - (u_24.1.1 15)) ≤ (4 : Int32) then
                some (zMi (zMi u_24 14 (3 : Int32)) 16 (u_24.1.1 13))
              else
                some (zMi (zMi u_24 14 (0 : Int32)) 16 (u_24.1.1 13)))
        else
          (fX12_next_l3 N N (zMi m 15 (nI s))).bind (fun u_31 =>
            some (zMi (zMi u_31 14 (2 : Int32)) 16 (u_31.1.1 13)))) = some (pz_tk m s (pz_tc2 (pz_te B n s).1) (pz_te B n s).2) := by
  have n5 := hT.1
  have hT2 := pz_T_i hT 15 (nI s) (by omega)
  unfold pz_te
  have self : zMi m 15 (nI s) = zMi (zMi m 15 (nI s)) 13 (nI s) := by
    show ((upd m.1.1 15 (nI s), m.1.2), m.2) = ((upd (upd m.1.1 15 (nI s)) 13 (nI s), m.1.2), m.2)
    have : upd (upd m.1.1 15 (nI s)) 13 (nI s) = upd m.1.1 15 (nI s) := by
      have e : upd m.1.1 15 (nI s) 13 = nI s := h13
      exact pz_upds e
    rw [this]
  rcases pz_by N hT2 hs with ⟨e, eb⟩ | ⟨e, hb, eb⟩
  · rw [eb, if_neg (by omega), Option.bind_some, if_pos rfl]
    rw [pz_tk2 m s 1 h13]
    rfl
  · obtain ⟨q1, q2, q3, q4, q5, q6, q7, q8⟩ := pz_so_r0 (B s) hb
    obtain ⟨w1, w2⟩ := pz_so_r N hb
    rw [eb, if_pos e, Option.bind_some, if_neg q5, w1, Option.bind_some]
    by_cases c1 : pz_so (B s) = 1
    · have l := pz_gp3 N hT2 (n - s) N s hs (by omega) (by omega)
      rw [← self] at l
      rw [if_pos c1, if_pos c1, if_neg (show ¬ (1 : Int32) = 0 by decide), l, Option.bind_some]
      exact congrArg some (pz_tk1 m s 2 _)
    · rw [if_neg c1, if_neg c1, if_pos rfl, w2, Option.bind_some]
      by_cases c2 : pz_so (B s) = 2
      · have l := pz_gp2 N hT2 (n - s) N s hs (by omega) (by omega)
        rw [← self] at l
        obtain ⟨r1, r2, -, -⟩ := pz_rn_le B 2 n (n - s) s hs
        rw [if_pos c2, if_pos c2, if_neg (show ¬ (1 : Int32) = 0 by decide), l, Option.bind_some]
        generalize pz_rn B 2 n (n - s) s = r at *
        have d1 : (zMi (zMi m 15 (nI s)) 13 (nI r)).1.1 13 = nI r := rfl
        have d2 : (zMi (zMi m 15 (nI s)) 13 (nI r)).1.1 15 = nI s := rfl
        rw [d1, d2, pk_sub r1]
        by_cases c4 : r - s ≤ 4
        · rw [if_pos (show nI (r - s) ≤ (4 : Int32) from nI_le (b := 4) c4 (by omega)), if_pos c4, pz_tk1]
          rfl
        · rw [if_neg (show ¬ nI (r - s) ≤ (4 : Int32) from nI_ge (a := 4) (by omega) (by omega)), if_neg c4, pz_tk1]
          rfl
      · rw [if_neg c2, if_neg c2, if_pos rfl, nI_1]
        by_cases c3 : pz_so (B s) = 3
        · rw [if_pos (q4.mpr c3), pz_tk1, c3]
          rfl
        · rw [if_neg (fun h => c3 (q4.mp h)), pz_tk1]
          have := hg e
          have c5 : pz_so (B s) = 4 := by omega
          rw [c5]
          rfl
set_option maxHeartbeats 4000000 in
set_option maxRecDepth 100000 in
theorem pz_tlb (N : Nat) (hN : 200000 ≤ N) {B : Nat → Nat} {n s : Nat} {rd : zOS} {m : zMS} (hT : pz_T B n rd m) (hs : s ≤ n) (h13 : m.1.1 13 = nI s) (hg : s < n → pz_so (B s) ≠ 0) : ((fX12_byteAt N (zMi m 15 (nI s)) (nI s)).bind fun u_10 =>
      if u_10 = (-1000000 : Int32) then
        some (zMi (zMi (zMi m 15 (nI s)) 14 (1 : Int32)) 16 (nI s))
      else
        (fX12_isLetter N u_10).bind fun u_12 =>
        if u_12 = 0 then
          (fX12_isFigure N u_10).bind fun u_14 =>
          if u_14 = 0 then
            if u_10 = (59 : Int32) then
              some (zMi (zMi (zMi (zMi m 15 (nI s)) 13 (nI s + (1 : Int32))) 14 (4 : Int32)) 16 (nI s + (1 : Int32)))
            else
              some (zMi (zMi (zMi (zMi m 15 (nI s)) 13 (nI s + (1 : Int32))) 14 (0 : Int32)) 16 (nI s + (1 : Int32)))
          else
            (fX12_next_l7 N N (zMi m 15 (nI s))).bind (fun u_24 =>
              if ((u_24.1.1 13) - (u_24.1.1 15)) ≤ (4 : Int32) then
                some (zMi (zMi u_24 14 (3 : Int32)) 16 (u_24.1.1 13))
              else
                some (zMi (zMi u_24 14 (0 : Int32)) 16 (u_24.1.1 13)))
        else
          (fX12_next_l8 N N (zMi m 15 (nI s))).bind (fun u_31 =>
            some (zMi (zMi u_31 14 (2 : Int32)) 16 (u_31.1.1 13)))) = some (pz_tk m s (pz_tc2 (pz_te B n s).1) (pz_te B n s).2) := by
  have n5 := hT.1
  have hT2 := pz_T_i hT 15 (nI s) (by omega)
  unfold pz_te
  have self : zMi m 15 (nI s) = zMi (zMi m 15 (nI s)) 13 (nI s) := by
    show ((upd m.1.1 15 (nI s), m.1.2), m.2) = ((upd (upd m.1.1 15 (nI s)) 13 (nI s), m.1.2), m.2)
    have : upd (upd m.1.1 15 (nI s)) 13 (nI s) = upd m.1.1 15 (nI s) := by
      have e : upd m.1.1 15 (nI s) 13 = nI s := h13
      exact pz_upds e
    rw [this]
  rcases pz_by N hT2 hs with ⟨e, eb⟩ | ⟨e, hb, eb⟩
  · rw [eb, if_neg (by omega), Option.bind_some, if_pos rfl]
    rw [pz_tk2 m s 1 h13]
    rfl
  · obtain ⟨q1, q2, q3, q4, q5, q6, q7, q8⟩ := pz_so_r0 (B s) hb
    obtain ⟨w1, w2⟩ := pz_so_r N hb
    rw [eb, if_pos e, Option.bind_some, if_neg q5, w1, Option.bind_some]
    by_cases c1 : pz_so (B s) = 1
    · have l := pz_gp8 N hT2 (n - s) N s hs (by omega) (by omega)
      rw [← self] at l
      rw [if_pos c1, if_pos c1, if_neg (show ¬ (1 : Int32) = 0 by decide), l, Option.bind_some]
      exact congrArg some (pz_tk1 m s 2 _)
    · rw [if_neg c1, if_neg c1, if_pos rfl, w2, Option.bind_some]
      by_cases c2 : pz_so (B s) = 2
      · have l := pz_gp7 N hT2 (n - s) N s hs (by omega) (by omega)
        rw [← self] at l
        obtain ⟨r1, r2, -, -⟩ := pz_rn_le B 2 n (n - s) s hs
        rw [if_pos c2, if_pos c2, if_neg (show ¬ (1 : Int32) = 0 by decide), l, Option.bind_some]
        generalize pz_rn B 2 n (n - s) s = r at *
        have d1 : (zMi (zMi m 15 (nI s)) 13 (nI r)).1.1 13 = nI r := rfl
        have d2 : (zMi (zMi m 15 (nI s)) 13 (nI r)).1.1 15 = nI s := rfl
        rw [d1, d2, pk_sub r1]
        by_cases c4 : r - s ≤ 4
        · rw [if_pos (show nI (r - s) ≤ (4 : Int32) from nI_le (b := 4) c4 (by omega)), if_pos c4, pz_tk1]
          rfl
        · rw [if_neg (show ¬ nI (r - s) ≤ (4 : Int32) from nI_ge (a := 4) (by omega) (by omega)), if_neg c4, pz_tk1]
          rfl
      · rw [if_neg c2, if_neg c2, if_pos rfl, nI_1]
        by_cases c3 : pz_so (B s) = 3
        · rw [if_pos (q4.mpr c3), pz_tk1, c3]
          rfl
        · rw [if_neg (fun h => c3 (q4.mp h)), pz_tk1]
          have := hg e
          have c5 : pz_so (B s) = 4 := by omega
          rw [c5]
          rfl
set_option maxHeartbeats 4000000 in
set_option maxRecDepth 100000 in
theorem pz_tlc (N : Nat) (hN : 200000 ≤ N) {B : Nat → Nat} {n s : Nat} {rd : zOS} {m : zMS} (hT : pz_T B n rd m) (hs : s ≤ n) (h13 : m.1.1 13 = nI s) (hg : s < n → pz_so (B s) ≠ 0) : ((fX12_byteAt N (zMi m 15 (nI s)) (nI s)).bind fun u_10 =>
      if u_10 = (-1000000 : Int32) then
        some (zMi (zMi (zMi m 15 (nI s)) 14 (1 : Int32)) 16 (nI s))
      else
        (fX12_isLetter N u_10).bind fun u_12 =>
        if u_12 = 0 then
          (fX12_isFigure N u_10).bind fun u_14 =>
          if u_14 = 0 then
            if u_10 = (59 : Int32) then
              some (zMi (zMi (zMi (zMi m 15 (nI s)) 13 (nI s + (1 : Int32))) 14 (4 : Int32)) 16 (nI s + (1 : Int32)))
            else
              some (zMi (zMi (zMi (zMi m 15 (nI s)) 13 (nI s + (1 : Int32))) 14 (0 : Int32)) 16 (nI s + (1 : Int32)))
          else
            (fX12_next_l4 N N (zMi m 15 (nI s))).bind (fun u_24 =>
              if ((u_24.1.1 13) - (u_24.1.1 15)) ≤ (4 : Int32) then
                some (zMi (zMi u_24 14 (3 : Int32)) 16 (u_24.1.1 13))
              else
                some (zMi (zMi u_24 14 (0 : Int32)) 16 (u_24.1.1 13)))
        else
          (fX12_next_l5 N N (zMi m 15 (nI s))).bind (fun u_31 =>
            some (zMi (zMi u_31 14 (2 : Int32)) 16 (u_31.1.1 13)))) = some (pz_tk m s (pz_tc2 (pz_te B n s).1) (pz_te B n s).2) := by
  have n5 := hT.1
  have hT2 := pz_T_i hT 15 (nI s) (by omega)
  unfold pz_te
  have self : zMi m 15 (nI s) = zMi (zMi m 15 (nI s)) 13 (nI s) := by
    show ((upd m.1.1 15 (nI s), m.1.2), m.2) = ((upd (upd m.1.1 15 (nI s)) 13 (nI s), m.1.2), m.2)
    have : upd (upd m.1.1 15 (nI s)) 13 (nI s) = upd m.1.1 15 (nI s) := by
      have e : upd m.1.1 15 (nI s) 13 = nI s := h13
      exact pz_upds e
    rw [this]
  rcases pz_by N hT2 hs with ⟨e, eb⟩ | ⟨e, hb, eb⟩
  · rw [eb, if_neg (by omega), Option.bind_some, if_pos rfl]
    rw [pz_tk2 m s 1 h13]
    rfl
  · obtain ⟨q1, q2, q3, q4, q5, q6, q7, q8⟩ := pz_so_r0 (B s) hb
    obtain ⟨w1, w2⟩ := pz_so_r N hb
    rw [eb, if_pos e, Option.bind_some, if_neg q5, w1, Option.bind_some]
    by_cases c1 : pz_so (B s) = 1
    · have l := pz_gp5 N hT2 (n - s) N s hs (by omega) (by omega)
      rw [← self] at l
      rw [if_pos c1, if_pos c1, if_neg (show ¬ (1 : Int32) = 0 by decide), l, Option.bind_some]
      exact congrArg some (pz_tk1 m s 2 _)
    · rw [if_neg c1, if_neg c1, if_pos rfl, w2, Option.bind_some]
      by_cases c2 : pz_so (B s) = 2
      · have l := pz_gp4 N hT2 (n - s) N s hs (by omega) (by omega)
        rw [← self] at l
        obtain ⟨r1, r2, -, -⟩ := pz_rn_le B 2 n (n - s) s hs
        rw [if_pos c2, if_pos c2, if_neg (show ¬ (1 : Int32) = 0 by decide), l, Option.bind_some]
        generalize pz_rn B 2 n (n - s) s = r at *
        have d1 : (zMi (zMi m 15 (nI s)) 13 (nI r)).1.1 13 = nI r := rfl
        have d2 : (zMi (zMi m 15 (nI s)) 13 (nI r)).1.1 15 = nI s := rfl
        rw [d1, d2, pk_sub r1]
        by_cases c4 : r - s ≤ 4
        · rw [if_pos (show nI (r - s) ≤ (4 : Int32) from nI_le (b := 4) c4 (by omega)), if_pos c4, pz_tk1]
          rfl
        · rw [if_neg (show ¬ nI (r - s) ≤ (4 : Int32) from nI_ge (a := 4) (by omega) (by omega)), if_neg c4, pz_tk1]
          rfl
      · rw [if_neg c2, if_neg c2, if_pos rfl, nI_1]
        by_cases c3 : pz_so (B s) = 3
        · rw [if_pos (q4.mpr c3), pz_tk1, c3]
          rfl
        · rw [if_neg (fun h => c3 (q4.mp h)), pz_tk1]
          have := hg e
          have c5 : pz_so (B s) = 4 := by omega
          rw [c5]
          rfl
set_option maxHeartbeats 4000000 in
set_option maxRecDepth 100000 in
theorem pz_nxt (N : Nat) (hN : 200000 ≤ N) {B : Nat → Nat} {n c : Nat} {rd : zOS} {m : zMS} (hT : pz_T B n rd m) (hc : c ≤ n) (h13 : m.1.1 13 = nI c) : fX12_next N m = some (pz_tk m (pz_ts B n c) (pz_tc2 (pz_te B n (pz_ts B n c)).1) (pz_te B n (pz_ts B n c)).2) := by
  obtain ⟨s1, s2, s3, -⟩ := pz_rn_le B 0 n (n - c) c hc
  have s3 := s3 (by omega)
  have hts : pz_ts B n c = pz_rn B 0 n (n - c) c := rfl
  have n5 := hT.1
  unfold fX12_next
  rw [h13]
  rcases pz_by N hT hc with ⟨e, eb⟩ | ⟨e, hb, eb⟩
  · have es : pz_ts B n c = c := by
      rw [hts, show n - c = 0 by omega]
      rfl
    rw [eb, Option.bind_some, if_neg (by decide), Option.bind_some, if_neg (by decide)]
    have := pz_tlc N hN hT hc h13 (fun h => by omega)
    rw [es]
    exact this
  · have q := (pz_so_r0 (B c) hb).2.2.1
    rw [eb, Option.bind_some]
    obtain ⟨f, hf⟩ : ∃ f, n - c = f + 1 := ⟨n - c - 1, by omega⟩
    by_cases d1 : nI (B c) = 32
    · have es : pz_ts B n c = pz_rn B 0 n f (c + 1) := by
        rw [hts, hf, pz_rn, if_pos ⟨e, q.mp (.inl d1)⟩]
      rw [hts] at es
      rw [if_pos d1, nI_1, pz_gp1 N hT f N (c + 1) (by omega) (by omega) (by omega), Option.bind_some, ← es]
      have c13 : (zMi m 13 (nI (pz_rn B 0 n (n - c) c))).1.1 13 = nI (pz_rn B 0 n (n - c) c) := rfl
      rw [c13, pz_tla N hN (pz_T_i hT 13 _ (by omega)) s2 c13 s3, pz_tk3]
      rfl
    · rw [if_neg d1, Option.bind_some]
      by_cases d2 : nI (B c) = 10
      · have es : pz_ts B n c = pz_rn B 0 n f (c + 1) := by
          rw [hts, hf, pz_rn, if_pos ⟨e, q.mp (.inr d2)⟩]
        rw [hts] at es
        rw [if_pos d2, nI_1, pz_gp6 N hT f N (c + 1) (by omega) (by omega) (by omega), Option.bind_some, ← es]
        have c13 : (zMi m 13 (nI (pz_rn B 0 n (n - c) c))).1.1 13 = nI (pz_rn B 0 n (n - c) c) := rfl
        rw [c13, pz_tlb N hN (pz_T_i hT 13 _ (by omega)) s2 c13 s3, pz_tk3]
        rfl
      · have es : pz_ts B n c = c := by
          rw [hts, hf, pz_rn, if_neg (fun h => (q.mpr h.2).elim d1 d2)]
        rw [if_neg d2]
        have := pz_tlc N hN hT hc h13 (fun h h2 => (q.mpr h2).elim d1 d2)
        rw [es]
        exact this
