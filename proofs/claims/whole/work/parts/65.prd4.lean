/-! THE PURE LAYER: the readers' keepers -/
set_option maxHeartbeats 4000000 in
set_option maxRecDepth 100000 in
theorem pz_adK (N : Nat) (KL : List Nat) (L : zLS) (a : Nat) : ∃ L', fX4_addKeeper N KL L a = some L' ∧ pz_lf [6] [] L L' ∧ (L'.2 = L.2 ∨ ∃ k, L'.2 = va_up L.2 k (some a)) ∧ ∀ i, i < 6 → L.1.1 6 = nI i → L'.1.1 6 = nI (i + 1) ∧ L'.2 = va_up L.2 i (some a) := by
  rcases pk_ix (L.1.1 6) (show 6 < 2 ^ 31 by omega) with c | c | ⟨j, hj, e⟩
  · refine ⟨L, by unfold fX4_addKeeper; rw [if_pos c], pz_lf_r _ _ _, .inl rfl, fun i hi he => ?_⟩
    rw [he] at c
    exact absurd c (nI_pos (by omega))
  · by_cases d : L.1.1 6 < 0
    · refine ⟨L, by unfold fX4_addKeeper; rw [if_pos d], pz_lf_r _ _ _, .inl rfl, fun i hi he => ?_⟩
      rw [he] at d
      exact absurd d (nI_pos (by omega))
    · have c : (6 : Int32) ≤ L.1.1 6 := c
      refine ⟨L, by unfold fX4_addKeeper; rw [if_neg d, if_pos c], pz_lf_r _ _ _, .inl rfl, fun i hi he => ?_⟩
      rw [he] at c
      exact absurd c (nI_ge (b := 6) hi (by omega))
  · have g1 : ¬ nI j < 0 := nI_pos (by omega)
    have g2 : ¬ (6 : Int32) ≤ nI j := nI_ge (b := 6) hj (by omega)
    have g3 : ¬ 6 ≤ j := by omega
    have cl := nI_clamp (show j < 2 ^ 31 by omega)
    have e' : (zLw L (va_up L.2 j (some a))).1.1 6 = nI j := e
    refine ⟨zLi (zLw L (va_up L.2 j (some a))) 6 (nI (j + 1)), ?_, ⟨fun k hk => ?_, fun k _ => rfl⟩, .inr ⟨j, rfl⟩, fun i hi he => ?_⟩
    · simp only [fX4_addKeeper, e, e', g1, g2, g3, cl, nI_1, ↓reduceIte, Option.bind_some, or_self, or_false, false_or, or_true, true_or, and_true, true_and, and_false, false_and, not_true_eq_false, not_false_eq_true]
    · show upd L.1.1 6 _ k = _
      exact pk_un (fun h => hk (by rw [h]; decide))
    · have ij : i = j := (nI_eq (by omega) (by omega)).mp (he.symm.trans e)
      subst ij
      refine ⟨?_, rfl⟩
      show upd L.1.1 6 (nI (i + 1)) 6 = _
      exact pk_us
theorem pz_zkoK (x : Int32) : zko x = 0 ∨ zko x = 1 ∨ zko x = 4 ∨ zko x = 7 ∨ zko x = 9 := by
  unfold zko
  split
  · exact .inr (.inr (.inl rfl))
  · split
    · exact .inl rfl
    · split
      · exact .inr (.inr (.inr (.inr rfl)))
      · split
        · exact .inr (.inl rfl)
        · exact .inr (.inr (.inr (.inl rfl)))
/-- more keepers, the old ones as they were -/
def pz_ex (KL : List Nat) (kc : Nat → zKC) (KL' : List Nat) (kc' : Nat → zKC) : Prop := ∀ a, a ∈ KL → a ∈ KL' ∧ kc' a = kc a
theorem pz_ex_t {KL KL1 KL2 : List Nat} {kc kc1 kc2 : Nat → zKC} (h : pz_ex KL kc KL1 kc1) (g : pz_ex KL1 kc1 KL2 kc2) : pz_ex KL kc KL2 kc2 := fun a ha => ⟨(g a (h a ha).1).1, (g a (h a ha).1).2.trans (h a ha).2⟩
theorem pz_ex_r (KL : List Nat) (kc : Nat → zKC) : pz_ex KL kc KL kc := fun _ h => ⟨h, rfl⟩
theorem pz_ex_1 {KL : List Nat} {kc : Nat → zKC} {hb : Nat} (v : zKC) (h : ∀ a, a ∈ KL → a < hb) : pz_ex KL kc (KL ++ [hb]) (va_up kc hb v) ∧ (∀ a, a ∈ KL ++ [hb] → a < hb + 1) ∧ hb ∈ KL ++ [hb] ∧ va_up kc hb v hb = v := by
  refine ⟨fun a ha => ⟨List.mem_append.mpr (.inl ha), va_up_ne _ _ ?_⟩, fun a ha => ?_, List.mem_append.mpr (.inr (List.mem_singleton.mpr rfl)), va_up_self _ _ _⟩
  · have := h a ha
    omega
  · rcases List.mem_append.mp ha with x | x
    · have := h a x
      omega
    · have := List.mem_singleton.mp x
      omega
theorem pz_who_x {KL KL' : List Nat} {kc kc' : Nat → zKC} {L : zLS} (h : pz_who KL kc L) (e : pz_ex KL kc KL' kc') : pz_who KL' kc' L := by
  intro k a hk hl
  obtain ⟨h1, h2⟩ := h k a hk hl
  obtain ⟨e1, e2⟩ := e a h1
  exact ⟨e1, by rw [e2]; exact h2⟩
theorem pz_who_1 {KL KL' : List Nat} {kc kc' : Nat → zKC} {L L' : zLS} {b : Nat} (h : pz_who KL kc L) (e : pz_ex KL kc KL' kc') (hb : zkd KL' kc' b) (hl : L'.2 = L.2 ∨ ∃ k, L'.2 = va_up L.2 k (some b)) : pz_who KL' kc' L' := by
  intro k a hk ha
  rcases hl with x | ⟨j, x⟩
  · rw [x] at ha
    exact pz_who_x h e k a hk ha
  · rw [x] at ha
    by_cases c : k = j
    · subst c
      rw [va_up_self] at ha
      have := Option.some.inj ha
      subst this
      exact hb
    · rw [va_up_ne _ _ c] at ha
      exact pz_who_x h e k a hk ha
set_option maxHeartbeats 4000000 in
set_option maxRecDepth 100000 in
theorem pz_kd (N : Nat) (hN : 200000 ≤ N) {B : Nat → Nat} {n : Nat} {rd : zOS} {mo : zMS} (h : pz_R B n rd mo) : ∃ v way kd rd', fX12_word N mo = some v ∧ fX12_wayOf N v = some way ∧ fX6_takeKind N rd = some (kd, rd') ∧ ((¬ mo.1.1 17 = 0 ∧ rd' = rd) ∨ (mo.1.1 17 = 0 ∧ way = -1000000 ∧ ∃ mo', fX12_must N mo 0 = some mo' ∧ pz_R B n rd' mo' ∧ pz_fr6 mo mo' ∧ ¬ mo'.1.1 17 = 0) ∨ (mo.1.1 17 = 0 ∧ ¬ way = -1000000 ∧ kd = way ∧ (∃ w, 1 ≤ w ∧ w ≤ 5 ∧ way = nI w) ∧ ∃ mo', fX12_must N mo 1 = some mo' ∧ pz_R B n rd' mo' ∧ pz_fr6 mo mo' ∧ mo'.1.1 17 = 0)) := by
  obtain ⟨v, v1, v2⟩ := pz_word N hN h
  have dv : ∀ w (W : Int64), w < 12 → W = lN (pz_wc w) → (fX6_isWord N rd w = some 1 ∧ v = W) ∨ (fX6_isWord N rd w = some 0 ∧ ¬ v = W) := by
    intro w W hw hW
    obtain ⟨b, b1, b2, -⟩ := v2 w hw
    cases b with
    | true => exact .inl ⟨b1, (b2.mp rfl).trans hW.symm⟩
    | false => exact .inr ⟨b1, fun e => Bool.noConfusion (b2.mpr (e.trans hW))⟩
  have z1 : ¬ (1 : Int32) = 0 := by decide
  have z2 : ¬ (2 : Int32) = 0 := by decide
  have z3 : ¬ (3 : Int32) = 0 := by decide
  have z4 : ¬ (4 : Int32) = 0 := by decide
  have z5 : ¬ (5 : Int32) = 0 := by decide
  have d7 := dv 7 7237495 (by omega) rfl
  have d8 := dv 8 6383461 (by omega) rfl
  have d9 := dv 9 512736125800 (by omega) rfl
  have d10 := dv 10 109330278475123 (by omega) rfl
  have d11 := dv 11 126896627347060 (by omega) rfl
  have wt : ∃ way, fX12_wayOf N v = some way := by
    unfold fX12_wayOf
    repeat' split
    all_goals exact ⟨_, rfl⟩
  by_cases c : mo.1.1 17 = 0
  · obtain ⟨rdA, mA, f1, f2, f3, f4, f5, -⟩ := pz_mA N hN h c
    have good : ∀ w : Nat, 1 ≤ w → w ≤ 5 → fX12_wayOf N v = some (nI w) → fX6_takeKind N rd = some (nI w, rdA) → ∃ v way kd rd', fX12_word N mo = some v ∧ fX12_wayOf N v = some way ∧ fX6_takeKind N rd = some (kd, rd') ∧ ((¬ mo.1.1 17 = 0 ∧ rd' = rd) ∨ (mo.1.1 17 = 0 ∧ way = -1000000 ∧ ∃ mo', fX12_must N mo 0 = some mo' ∧ pz_R B n rd' mo' ∧ pz_fr6 mo mo' ∧ ¬ mo'.1.1 17 = 0) ∨ (mo.1.1 17 = 0 ∧ ¬ way = -1000000 ∧ kd = way ∧ (∃ w, 1 ≤ w ∧ w ≤ 5 ∧ way = nI w) ∧ ∃ mo', fX12_must N mo 1 = some mo' ∧ pz_R B n rd' mo' ∧ pz_fr6 mo mo' ∧ mo'.1.1 17 = 0)) := by
      intro w w1 w5 e1 e2
      refine ⟨v, nI w, nI w, rdA, v1, e1, e2, .inr (.inr ⟨c, ?_, rfl, ⟨w, w1, w5, rfl⟩, mA, f2, f3, f4, f5⟩)⟩
      rcases (show w = 1 ∨ w = 2 ∨ w = 3 ∨ w = 4 ∨ w = 5 by omega) with rfl | rfl | rfl | rfl | rfl <;> decide
    rcases d7 with ⟨i7, e7⟩ | ⟨i7, e7⟩
    · refine good 1 (by omega) (by omega) ?_ ?_
      · simp only [fX12_wayOf, pz_lgc, eq_true e7, ↓reduceIte, Option.bind_some, or_self, or_false, false_or, or_true, true_or, and_true, true_and, and_false, false_and, not_true_eq_false, not_false_eq_true]
        rfl
      · simp only [fX6_takeKind, fX6_kindNamed, i7, z1, f1, ↓reduceIte, Option.bind_some, or_self, or_false, false_or, or_true, true_or, and_true, true_and, and_false, false_and, not_true_eq_false, not_false_eq_true]
        rfl
    rcases d8 with ⟨i8, e8⟩ | ⟨i8, e8⟩
    · refine good 2 (by omega) (by omega) ?_ ?_
      · simp only [fX12_wayOf, pz_lgc, e7, eq_true e8, ↓reduceIte, Option.bind_some, or_self, or_false, false_or, or_true, true_or, and_true, true_and, and_false, false_and, not_true_eq_false, not_false_eq_true]
        rfl
      · simp only [fX6_takeKind, fX6_kindNamed, i7, i8, z1, z2, f1, ↓reduceIte, Option.bind_some, or_self, or_false, false_or, or_true, true_or, and_true, true_and, and_false, false_and, not_true_eq_false, not_false_eq_true, pz_10, pz_01, eq_self]
        rfl
    rcases d9 with ⟨i9, e9⟩ | ⟨i9, e9⟩
    · refine good 3 (by omega) (by omega) ?_ ?_
      · simp only [fX12_wayOf, pz_lgc, e7, e8, eq_true e9, ↓reduceIte, Option.bind_some, or_self, or_false, false_or, or_true, true_or, and_true, true_and, and_false, false_and, not_true_eq_false, not_false_eq_true]
        rfl
      · simp only [fX6_takeKind, fX6_kindNamed, i7, i8, i9, z1, z3, f1, ↓reduceIte, Option.bind_some, or_self, or_false, false_or, or_true, true_or, and_true, true_and, and_false, false_and, not_true_eq_false, not_false_eq_true, pz_10, pz_01, eq_self]
        rfl
    rcases d10 with ⟨i10, e10⟩ | ⟨i10, e10⟩
    · refine good 4 (by omega) (by omega) ?_ ?_
      · simp only [fX12_wayOf, pz_lgc, e7, e8, e9, eq_true e10, ↓reduceIte, Option.bind_some, or_self, or_false, false_or, or_true, true_or, and_true, true_and, and_false, false_and, not_true_eq_false, not_false_eq_true]
        rfl
      · simp only [fX6_takeKind, fX6_kindNamed, i7, i8, i9, i10, z1, z4, f1, ↓reduceIte, Option.bind_some, or_self, or_false, false_or, or_true, true_or, and_true, true_and, and_false, false_and, not_true_eq_false, not_false_eq_true, pz_10, pz_01, eq_self]
        rfl
    rcases d11 with ⟨i11, e11⟩ | ⟨i11, e11⟩
    · refine good 5 (by omega) (by omega) ?_ ?_
      · simp only [fX12_wayOf, pz_lgc, e7, e8, e9, e10, eq_true e11, ↓reduceIte, Option.bind_some, or_self, or_false, false_or, or_true, true_or, and_true, true_and, and_false, false_and, not_true_eq_false, not_false_eq_true]
        rfl
      · simp only [fX6_takeKind, fX6_kindNamed, i7, i8, i9, i10, i11, z1, z5, f1, ↓reduceIte, Option.bind_some, or_self, or_false, false_or, or_true, true_or, and_true, true_and, and_false, false_and, not_true_eq_false, not_false_eq_true, pz_10, pz_01, eq_self]
        rfl
    obtain ⟨rdS, mS, g1, g2, g3, g4, g5⟩ := pz_mS N h
    refine ⟨v, -1000000, 0, rdS, v1, ?_, ?_, .inr (.inl ⟨c, rfl, mS, g2, g3, g4, g5⟩)⟩
    · simp only [fX12_wayOf, pz_lgc, e7, e8, e9, e10, e11, ↓reduceIte, Option.bind_some, or_self, or_false, false_or, or_true, true_or, and_true, true_and, and_false, false_and, not_true_eq_false, not_false_eq_true]
    · simp only [fX6_takeKind, fX6_kindNamed, i7, i8, i9, i10, i11, g1, ↓reduceIte, Option.bind_some, or_self, or_false, false_or, or_true, true_or, and_true, true_and, and_false, false_and, not_true_eq_false, not_false_eq_true, pz_10, pz_01, eq_self]
  · obtain ⟨way, wy⟩ := wt
    have r6 : rd.1 4 = 6 := by
      rcases pz_R0 h with ⟨x, -⟩ | ⟨-, -, x⟩
      · exact absurd x c
      · exact x
    exact ⟨v, way, 0, rd, v1, wy, (pz_f6 N r6).2.2.2.2.2.2, .inl ⟨c, rfl⟩⟩
def pz_K (Q : Nat) (KL : List Nat) (kc : Nat → zKC) (L : zLS) (A : Nat → Int32) : Prop := L.1.1 6 = nI Q ∧ A 3 = nI Q ∧ ∀ k, k < Q → ∃ a w n c, L.2 k = some a ∧ a ∈ KL ∧ kc a = (zko (nI w), nI k, nI n, nI c) ∧ 1 ≤ w ∧ w ≤ 5 ∧ n ≤ 60 ∧ 1 ≤ c ∧ c ≤ 9 ∧ A (24 + k) = nI w ∧ A (30 + k) = nI n ∧ A (36 + k) = nI c
set_option maxHeartbeats 4000000 in
set_option maxRecDepth 100000 in
theorem pz_kpb (N : Nat) (hN : 200000 ≤ N) {B : Nat → Nat} {n : Nat} {rd : zOS} {mo : zMS} (h : pz_R B n rd mo) (h1 : fX6_isWord N rd 5 = some 1) (h17 : mo.1.1 17 = 0) {i : Nat} (hi : i ≤ 6) {KL : List Nat} {kc : Nat → zKC} {hb : Nat} (hlt : ∀ a, a ∈ KL → a < hb) {L : zLS} (hP : pz_K i KL kc L (mo.1.2 6)) (hw : pz_who KL kc L) : ∃ u8 u9 u10 u11 u12 L' mo', fX6_takeWordOf N rd 5 (nI i) 6 = some u8 ∧ fX6_takeKind N u8 = some u9 ∧ fX6_takeNumber N u9.2 0 60 = some u10 ∧ fX6_takeNumber N u10.2 1 9 = some u11 ∧ fX6_takeSign N u11.2 = some u12 ∧ fX4_addKeeper N (KL ++ [hb]) L hb = some L' ∧ fX12_readKeeper N mo = some mo' ∧ pz_R B n u12 mo' ∧ pz_fr mo mo' ∧ pz_who (KL ++ [hb]) (va_up kc hb (zko u9.1, nI i, u10.1, u11.1)) L' ∧ (mo'.1.1 17 = 0 → i < 6 ∧ pz_K (i + 1) (KL ++ [hb]) (va_up kc hb (zko u9.1, nI i, u10.1, u11.1)) L' (mo'.1.2 6) ∧ pz_lf [6] [] L L' ∧ ∀ j, ¬ (j = 3 ∨ (24 ≤ j ∧ j < 42)) → mo'.1.2 6 j = mo.1.2 6 j) := by
  obtain ⟨p1, p2, p3⟩ := hP
  obtain ⟨rd1, m1, a1, a2, a3, a4, a5⟩ := pz_tb N hN h h1 h17 (a := 3) (by omega) hi (by omega) p2
  have a1 : fX6_takeWordOf N rd 5 (nI i) 6 = some rd1 := a1
  have a2 : fX12_begins N mo 3 6 = some m1 := a2
  obtain ⟨v, way, kd, rd2, v1, wy, tk, three⟩ := pz_kd N hN a3
  have k3 : (3 : Int32).toNatClampNeg = 3 := rfl
  have q24 : (24 : Int32) + nI i = nI (24 + i) := nI_add 24 i
  have q30 : (30 : Int32) + nI i = nI (30 + i) := nI_add 30 i
  have q36 : (36 : Int32) + nI i = nI (36 + i) := nI_add 36 i
  have r24 := pz_ni (show 24 + i < 58 by omega) (by omega)
  have r30 := pz_ni (show 30 + i < 58 by omega) (by omega)
  have r36 := pz_ni (show 36 + i < 58 by omega) (by omega)
  have cl24 := nI_clamp (show 24 + i < 2 ^ 31 by omega)
  have cl30 := nI_clamp (show 30 + i < 2 ^ 31 by omega)
  have cl36 := nI_clamp (show 36 + i < 2 ^ 31 by omega)
  have s1 : ∀ (f : Nat → Int32) (x : Int32), upd f (24 + i) x 3 = f 3 := fun f x => pk_un (by omega)
  have s2 : ∀ (f : Nat → Int32) (x : Int32), upd f (30 + i) x 3 = f 3 := fun f x => pk_un (by omega)
  have s3 : ∀ (f : Nat → Int32) (x : Int32), upd f (36 + i) x 3 = f 3 := fun f x => pk_un (by omega)
  have key : ∃ mk, pz_R B n rd2 mk ∧ pz_fr6 m1 mk ∧ (mk.1.1 17 = 0 → m1.1.1 17 = 0 ∧ kd = way ∧ ∃ w, 1 ≤ w ∧ w ≤ 5 ∧ way = nI w) ∧ ∀ m2 w1 m3 w2 m4, fX12_number N mk 0 60 = some (w1, m2) → fX12_number N m2 1 9 = some (w2, m3) → fX12_mustEnd N m3 = some m4 → m4.1.2 6 3 = nI i → fX12_readKeeper N mo = if m4.1.1 17 = 0 then some (zMA m4 6 (upd (upd (upd (upd (m4.1.2 6) (24 + i) way) (30 + i) w1) (36 + i) w2) 3 (nI (i + 1)))) else some m4 := by
    rcases three with ⟨c1, rfl⟩ | ⟨c1, rfl, mk, c2, c3, c4, c5⟩ | ⟨c1, c0, rfl, c6, mk, c2, c3, c4, c5⟩
    · refine ⟨m1, a3, pz_fr6_r m1, fun h => absurd h c1, ?_⟩
      intro m2 w1 m3 w2 m4 n1 n2 n3 t3
      by_cases c17 : m4.1.1 17 = 0
      · simp only [fX12_readKeeper, a2, v1, wy, c1, n1, n2, n3, c17, k3, t3, q24, q30, q36, r24, r30, r36, cl24, cl30, cl36, s1, s2, s3, pz_MAA, nI_1, ↓reduceIte, Option.bind_some, or_self, or_false, false_or, or_true, true_or, and_true, true_and, and_false, false_and, not_true_eq_false, not_false_eq_true, pz_10, pz_01, eq_self]
      · simp only [fX12_readKeeper, a2, v1, wy, c1, n1, n2, n3, c17, ↓reduceIte, Option.bind_some, or_self, or_false, false_or, or_true, true_or, and_true, true_and, and_false, false_and, not_true_eq_false, not_false_eq_true, pz_10, pz_01, eq_self]
    · refine ⟨mk, c3, c4, fun h => absurd h c5, ?_⟩
      intro m2 w1 m3 w2 m4 n1 n2 n3 t3
      by_cases c17 : m4.1.1 17 = 0
      · simp only [fX12_readKeeper, a2, v1, wy, c1, c2, n1, n2, n3, c17, k3, t3, q24, q30, q36, r24, r30, r36, cl24, cl30, cl36, s1, s2, s3, pz_MAA, nI_1, ↓reduceIte, Option.bind_some, or_self, or_false, false_or, or_true, true_or, and_true, true_and, and_false, false_and, not_true_eq_false, not_false_eq_true, pz_10, pz_01, eq_self]
      · simp only [fX12_readKeeper, a2, v1, wy, c1, c2, n1, n2, n3, c17, ↓reduceIte, Option.bind_some, or_self, or_false, false_or, or_true, true_or, and_true, true_and, and_false, false_and, not_true_eq_false, not_false_eq_true, pz_10, pz_01, eq_self]
    · refine ⟨mk, c3, c4, fun _ => ⟨c1, rfl, c6⟩, ?_⟩
      intro m2 w1 m3 w2 m4 n1 n2 n3 t3
      by_cases c17 : m4.1.1 17 = 0
      · simp only [fX12_readKeeper, a2, v1, wy, c1, c0, c2, n1, n2, n3, c17, k3, t3, q24, q30, q36, r24, r30, r36, cl24, cl30, cl36, s1, s2, s3, pz_MAA, nI_1, ↓reduceIte, Option.bind_some, or_self, or_false, false_or, or_true, true_or, and_true, true_and, and_false, false_and, not_true_eq_false, not_false_eq_true, pz_10, pz_01, eq_self]
      · simp only [fX12_readKeeper, a2, v1, wy, c1, c0, c2, n1, n2, n3, c17, ↓reduceIte, Option.bind_some, or_self, or_false, false_or, or_true, true_or, and_true, true_and, and_false, false_and, not_true_eq_false, not_false_eq_true, pz_10, pz_01, eq_self]
  obtain ⟨mk, k1, kf, k2, kE⟩ := key
  obtain ⟨x1, rd3, w1, m2, b1, b2, b3, b4, b5⟩ := pz_num N hN k1 0 60 0 60 (fun _ => ⟨rfl, rfl⟩)
  obtain ⟨x2, rd4, w2, m3, c1, c2, c3, c4, c5⟩ := pz_num N hN b3 1 9 1 9 (fun _ => ⟨rfl, rfl⟩)
  obtain ⟨rd5, m4, d1, d2, d3, d4, d5⟩ := pz_tsg N hN c3
  have e4 : m4.1.2 6 = mo.1.2 6 := by rw [d4.2, c4.2, b4.2, kf.2, a4.2]
  have kE := kE m2 w1 m3 w2 m4 b2 c2 d2 (by rw [e4]; exact p2)
  obtain ⟨L', l1, l2, l3, l4⟩ := pz_adK N (KL ++ [hb]) L hb
  obtain ⟨y1, y2, y3, y4⟩ := pz_ex_1 (kc := kc) (zko kd, nI i, x1, x2) hlt
  have hz : zkd (KL ++ [hb]) (va_up kc hb (zko kd, nI i, x1, x2)) hb := ⟨y3, by rw [y4]; exact pz_zkoK kd⟩
  have who := pz_who_1 hw y1 hz l3
  have fr4 : pz_fr mo m4 := (pz_fr6_t a4 (pz_fr6_t kf (pz_fr6_t b4 (pz_fr6_t c4 d4)))).1
  by_cases c17 : m4.1.1 17 = 0
  · obtain ⟨g1, g2, ⟨z2, g3, g4⟩, g5, g6, -⟩ := c5 (d5 c17)
    obtain ⟨f1, f2, ⟨z1, f3, f4⟩, f5, f6, -⟩ := b5 g1
    obtain ⟨o1, o2, w, o3, o4, o5⟩ := k2 f1
    have i6 := a5 o1
    have r1 := pz_rng (lo := 0) (hi := 60) f4 f3 f5 f6 (by omega) (by omega)
    have r2 := pz_rng (lo := 1) (hi := 9) g4 g3 g5 g6 (by omega) (by omega)
    subst g2
    subst f2
    subst g4
    subst f4
    subst o2
    subst o5
    obtain ⟨n1, n2⟩ := l4 i i6 p1
    refine ⟨rd1, (nI w, rd2), (nI z1, rd3), (nI z2, rd4), rd5, L', _, a1, tk, b1, c1, d1, l1, by rw [kE, if_pos c17], pz_R6 d3 _, pz_fr_t fr4 (pz_fr_6 m4 _), who, fun _ => ⟨i6, ⟨n1, ?_, ?_⟩, l2, ?_⟩⟩
    · rw [pz_MA, pk_us]
    · intro k hk
      rw [pz_MA, n2]
      rcases Nat.lt_or_ge k i with c | c
      · obtain ⟨a, w', n', c', t1, t2, t3, t4, t5, t6, t7, t8, t9, t10, t11⟩ := p3 k c
        refine ⟨a, w', n', c', ?_, (y1 a t2).1, (y1 a t2).2.trans t3, t4, t5, t6, t7, t8, ?_, ?_, ?_⟩
        · rw [va_up_ne _ _ (by omega)]; exact t1
        · rw [pk_un (by omega), pk_un (by omega), pk_un (by omega), pk_un (by omega), e4]; exact t9
        · rw [pk_un (by omega), pk_un (by omega), pk_un (by omega), pk_un (by omega), e4]; exact t10
        · rw [pk_un (by omega), pk_un (by omega), pk_un (by omega), pk_un (by omega), e4]; exact t11
      · have ki : k = i := by omega
        subst ki
        refine ⟨hb, w, z1, z2, va_up_self _ _ _, y3, y4, o3, o4, r1.2, r2.1, r2.2, ?_, ?_, ?_⟩
        · rw [pk_un (by omega), pk_un (by omega), pk_un (by omega), pk_us]
        · rw [pk_un (by omega), pk_un (by omega), pk_us]
        · rw [pk_un (by omega), pk_us]
    · intro j hj
      rw [pz_MA, pk_un (by omega), pk_un (by omega), pk_un (by omega), pk_un (by omega), e4]
  · exact ⟨rd1, (kd, rd2), (x1, rd3), (x2, rd4), rd5, L', m4, a1, tk, b1, c1, d1, l1, by rw [kE, if_neg c17], d3, fr4, who, fun h => absurd h c17⟩
theorem pz_kpx (N : Nat) {rd : zOS} {i k : Nat} (KL : List Nat) (kc : Nat → zKC) (hb : Nat) (L : zLS) (h : fX6_isWord N rd 5 = some 0) (h1 : 1 ≤ i) (h9 : i ≤ 7) : fX6_readKeepers_l1 N (k + 1) (nI i) KL kc hb rd L = some (KL, kc, hb, rd, L) := by
  have z : ¬ nI i = 0 := nI_ne0 (by omega) (by omega)
  rcases Nat.lt_or_ge i 7 with c | c
  · have g : ¬ (6 : Int32) < nI i := nI_nlt (a := 6) (by omega) (by omega)
    simp only [fX6_readKeepers_l1, z, g, h, ↓reduceIte, Option.bind_some, or_self, or_false, false_or, or_true, true_or, and_true, true_and, and_false, false_and, not_true_eq_false, not_false_eq_true, pz_10, pz_01, eq_self]
  · have g : (6 : Int32) < nI i := nI_lt (a := 6) (by omega) (by omega)
    simp only [fX6_readKeepers_l1, z, g, ↓reduceIte, Option.bind_some, or_self, or_false, false_or, or_true, true_or, and_true, true_and, and_false, false_and, not_true_eq_false, not_false_eq_true]
theorem pz_l3x (N : Nat) {mo : zMS} {v : Int64} {k : Nat} (h : fX12_word N mo = some v) (hv : ¬ v = 118083237733746) : fX12_land_l3 N (k + 1) mo = some mo := by
  simp only [fX12_land_l3, h, pz_lgc, hv, ↓reduceIte, Option.bind_some, or_self, or_false, false_or, or_true, true_or, and_true, true_and, and_false, false_and, not_true_eq_false, not_false_eq_true]
set_option maxHeartbeats 4000000 in
set_option maxRecDepth 100000 in
theorem pz_kpl (N : Nat) (hN : 200000 ≤ N) {B : Nat → Nat} {n : Nat} : ∀ f i, 1 ≤ i → i ≤ 7 → 7 - i ≤ f → ∀ (k k' : Nat) (KL : List Nat) (kc : Nat → zKC) (hb : Nat) (rd : zOS) (L : zLS) (mo : zMS), f < k → f < k' → (∀ a, a ∈ KL → a < hb) → pz_who KL kc L → pz_R B n rd mo → (mo.1.1 17 = 0 → i ≤ 6 ∧ pz_K i KL kc L (mo.1.2 6)) → ∃ KL' kc' hb' rd' L' mo', fX6_readKeepers_l1 N k (nI i) KL kc hb rd L = some (KL', kc', hb', rd', L') ∧ fX12_land_l3 N k' mo = some mo' ∧ pz_ex KL kc KL' kc' ∧ pz_who KL' kc' L' ∧ pz_R B n rd' mo' ∧ pz_fr mo mo' ∧ (mo'.1.1 17 = 0 → mo.1.1 17 = 0 ∧ (∃ Q, 1 ≤ Q ∧ Q ≤ 6 ∧ pz_K Q KL' kc' L' (mo'.1.2 6)) ∧ pz_lf [6] [] L L' ∧ ∀ j, ¬ (j = 3 ∨ (24 ≤ j ∧ j < 42)) → mo'.1.2 6 j = mo.1.2 6 j) := by
  intro f
  induction f with
  | zero =>
    intro i h1 h9 hf k k' KL kc hb rd L mo hk hk' hlt hw hR hI
    obtain ⟨k, rfl⟩ : ∃ y, k = y + 1 := ⟨k - 1, by omega⟩
    obtain ⟨k', rfl⟩ : ∃ y, k' = y + 1 := ⟨k' - 1, by omega⟩
    rcases pz_wd1 N hN hR (w := 5) (by omega) 118083237733746 rfl with ⟨-, a, -⟩ | ⟨a, v, v1, e⟩
    · have := (hI a).1
      omega
    · exact ⟨KL, kc, hb, rd, L, mo, pz_kpx N KL kc hb L a h1 h9, pz_l3x N v1 e, pz_ex_r _ _, hw, hR, (pz_fr6_r mo).1, fun h => ⟨h, ⟨i, h1, (hI h).1, (hI h).2⟩, pz_lf_r _ _ _, fun _ _ => rfl⟩⟩
  | succ f ih =>
    intro i h1 h9 hf k k' KL kc hb rd L mo hk hk' hlt hw hR hI
    obtain ⟨k, rfl⟩ : ∃ y, k = y + 1 := ⟨k - 1, by omega⟩
    obtain ⟨k', rfl⟩ : ∃ y, k' = y + 1 := ⟨k' - 1, by omega⟩
    rcases pz_wd1 N hN hR (w := 5) (by omega) 118083237733746 rfl with ⟨a, a17, aw⟩ | ⟨a, v, v1, e⟩
    · obtain ⟨i8, hP⟩ := hI a17
      obtain ⟨u8, u9, u10, u11, u12, L1, m1, b1, b2, b3, b4, b5, b6, b7, b8, b9, b10, b11⟩ := pz_kpb N hN hR a a17 i8 hlt hP hw
      obtain ⟨y1, y2, -⟩ := pz_ex_1 (kc := kc) (zko u9.1, nI i, u10.1, u11.1) hlt
      obtain ⟨KL', kc', hb', rd', L', mo', c1, c2, c3, c4, c5, c6, c7⟩ := ih (i + 1) (by omega) (by omega) (by omega) k k' (KL ++ [hb]) (va_up kc hb (zko u9.1, nI i, u10.1, u11.1)) (hb + 1) u12 L1 m1 (by omega) (by omega) y2 b10 b8 (fun h => ⟨by have := (b11 h).1; omega, (b11 h).2.1⟩)
      have z : ¬ nI i = 0 := nI_ne0 (by omega) (by omega)
      have g : ¬ (6 : Int32) < nI i := nI_nlt (a := 6) (by omega) (by omega)
      refine ⟨KL', kc', hb', rd', L', mo', ?_, ?_, pz_ex_t y1 c3, c4, c5, pz_fr_t b9 c6, fun h => ?_⟩
      · simp only [fX6_readKeepers_l1, z, g, a, b1, b2, b3, b4, b5, b6, nI_1, ↓reduceIte, Option.bind_some, or_self, or_false, false_or, or_true, true_or, and_true, true_and, and_false, false_and, not_true_eq_false, not_false_eq_true, pz_10, pz_01, eq_self]
        exact c1
      · simp only [fX12_land_l3, aw, pz_lgc, b7, ↓reduceIte, Option.bind_some, or_self, or_false, false_or, or_true, true_or, and_true, true_and, and_false, false_and, not_true_eq_false, not_false_eq_true, pz_10, pz_01, eq_self]
        exact c2
      · obtain ⟨d1, d2, d3, d4⟩ := c7 h
        obtain ⟨-, -, e1, e2⟩ := b11 d1
        exact ⟨a17, d2, pz_lf_t e1 d3, fun j hj => (d4 j hj).trans (e2 j hj)⟩
    · exact ⟨KL, kc, hb, rd, L, mo, pz_kpx N KL kc hb L a h1 h9, pz_l3x N v1 e, pz_ex_r _ _, hw, hR, (pz_fr6_r mo).1, fun h => ⟨h, ⟨i, h1, (hI h).1, (hI h).2⟩, pz_lf_r _ _ _, fun _ _ => rfl⟩⟩
set_option maxHeartbeats 4000000 in
set_option maxRecDepth 100000 in
theorem pz_rKps (N : Nat) (hN : 200000 ≤ N) {B : Nat → Nat} {n : Nat} {rd : zOS} {mo : zMS} (KL : List Nat) (kc : Nat → zKC) (hb : Nat) (L : zLS) (hlt : ∀ a, a ∈ KL → a < hb) (hw : pz_who KL kc L) (h : pz_R B n rd mo) (h0 : mo.1.1 17 = 0 → L.1.1 6 = 0 ∧ mo.1.2 6 3 = 0) : ∃ KL' kc' hb' rd' L' m1 mo', fX6_readKeepers N KL kc hb rd L = some (KL', kc', hb', rd', L') ∧ fX12_mustBegin N mo 118083237733746 = some m1 ∧ fX12_land_l3 N N m1 = some mo' ∧ pz_ex KL kc KL' kc' ∧ pz_who KL' kc' L' ∧ pz_R B n rd' mo' ∧ pz_fr mo mo' ∧ (mo'.1.1 17 = 0 → mo.1.1 17 = 0 ∧ (∃ Q, 1 ≤ Q ∧ Q ≤ 6 ∧ pz_K Q KL' kc' L' (mo'.1.2 6)) ∧ pz_lf [6] [] L L' ∧ ∀ j, ¬ (j = 3 ∨ (24 ≤ j ∧ j < 42)) → mo'.1.2 6 j = mo.1.2 6 j) := by
  obtain ⟨M, hM⟩ : ∃ M, N = M + 1 := ⟨N - 1, by omega⟩
  have e1 : (0 : Int32) + 1 = nI 1 := rfl
  rcases pz_mb N hN h (w := 5) (by omega) 118083237733746 rfl with ⟨a, a17, aw, am⟩ | ⟨rd1, m1, a1, a2, a3, a4, a5⟩
  · obtain ⟨z1, z2⟩ := h0 a17
    obtain ⟨u8, u9, u10, u11, u12, L1, m1, b1, b2, b3, b4, b5, b6, b7, b8, b9, b10, b11⟩ := pz_kpb N hN h a a17 (i := 0) (by omega) (hb := hb) hlt ⟨z1, z2, fun i hi => by omega⟩ hw
    have b1 : fX6_takeWordOf N rd 5 0 6 = some u8 := b1
    have b10 : pz_who (KL ++ [hb]) (va_up kc hb (zko u9.1, (0 : Int32), u10.1, u11.1)) L1 := b10
    have b11 : m1.1.1 17 = 0 → 0 < 6 ∧ pz_K 1 (KL ++ [hb]) (va_up kc hb (zko u9.1, (0 : Int32), u10.1, u11.1)) L1 (m1.1.2 6) ∧ pz_lf [6] [] L L1 ∧ ∀ j, ¬ (j = 3 ∨ (24 ≤ j ∧ j < 42)) → m1.1.2 6 j = mo.1.2 6 j := b11
    obtain ⟨y1, y2, -⟩ := pz_ex_1 (kc := kc) (zko u9.1, (0 : Int32), u10.1, u11.1) hlt
    obtain ⟨KL', kc', hb', rd', L', mo', c1, c2, c3, c4, c5, c6, c7⟩ := pz_kpl N hN 6 1 (by omega) (by omega) (by omega) 7 M (KL ++ [hb]) (va_up kc hb (zko u9.1, (0 : Int32), u10.1, u11.1)) (hb + 1) u12 L1 m1 (by omega) (by omega) y2 b10 b8 (fun h => ⟨by omega, (b11 h).2.1⟩)
    have l1 : fX6_readKeepers_l1 N 8 0 KL kc hb rd L = some (KL', kc', hb', rd', L') := by
      rw [fX6_readKeepers_l1]
      simp only [b1, b2, b3, b4, b5, b6, e1, ↓reduceIte, Option.bind_some, or_self, or_false, false_or, or_true, true_or, and_true, true_and, and_false, false_and, not_true_eq_false, not_false_eq_true, pz_10, pz_01, eq_self]
      exact c1
    have l2 : fX12_land_l3 N (M + 1) mo = some mo' := by
      simp only [fX12_land_l3, aw, pz_lgc, b7, ↓reduceIte, Option.bind_some, or_self, or_false, false_or, or_true, true_or, and_true, true_and, and_false, false_and, not_true_eq_false, not_false_eq_true, pz_10, pz_01, eq_self]
      exact c2
    rw [← hM] at l2
    refine ⟨KL', kc', hb', rd', L', mo, mo', ?_, am, l2, pz_ex_t y1 c3, c4, c5, pz_fr_t b9 c6, fun h => ?_⟩
    · simp only [fX6_readKeepers, l1, ↓reduceIte, Option.bind_some, or_self, or_false, false_or, or_true, true_or, and_true, true_and, and_false, false_and, not_true_eq_false, not_false_eq_true]
    · obtain ⟨d1, d2, d3, d4⟩ := c7 h
      obtain ⟨-, -, e1, e2⟩ := b11 d1
      exact ⟨a17, d2, pz_lf_t e1 d3, fun j hj => (d4 j hj).trans (e2 j hj)⟩
  · have r6 : rd1.1 4 = 6 := by
      rcases pz_R0 a3 with ⟨x, -⟩ | ⟨-, -, x⟩
      · exact absurd x a5
      · exact x
    obtain ⟨f1, f2, f3, f4, f5, f6, f7⟩ := pz_f6 N r6
    obtain ⟨L1, l1, l2, l3, -⟩ := pz_adK N (KL ++ [hb]) L hb
    obtain ⟨y1, y2, y3, y4⟩ := pz_ex_1 (kc := kc) (zko 0, (0 : Int32), (0 : Int32), (0 : Int32)) hlt
    have hz : zkd (KL ++ [hb]) (va_up kc hb (zko 0, (0 : Int32), (0 : Int32), (0 : Int32))) hb := ⟨y3, by rw [y4]; exact pz_zkoK 0⟩
    have ex := pz_kpx N (rd := rd1) (k := 6) (i := 1) (KL ++ [hb]) (va_up kc hb (zko 0, (0 : Int32), (0 : Int32), (0 : Int32))) (hb + 1) L1 (f1 5) (by omega) (by omega)
    have cl : fX6_readKeepers_l1 N 8 0 KL kc hb rd L = some (KL ++ [hb], va_up kc hb (zko 0, (0 : Int32), (0 : Int32), (0 : Int32)), hb + 1, rd1, L1) := by
      rw [fX6_readKeepers_l1]
      simp only [a1, f4, f5, f7, l1, e1, ↓reduceIte, Option.bind_some, or_self, or_false, false_or, or_true, true_or, and_true, true_and, and_false, false_and, not_true_eq_false, not_false_eq_true, pz_10, pz_01, eq_self]
      exact ex
    rcases pz_wd1 N hN a3 (w := 5) (by omega) 118083237733746 rfl with ⟨-, x, -⟩ | ⟨-, v, v1, e⟩
    · exact absurd x a5
    · have l2' := pz_l3x N (k := M) v1 e
      rw [← hM] at l2'
      refine ⟨KL ++ [hb], va_up kc hb (zko 0, (0 : Int32), (0 : Int32), (0 : Int32)), hb + 1, rd1, L1, m1, m1, ?_, a2, l2', y1, pz_who_1 hw y1 hz l3, a3, a4.1, fun h => absurd h a5⟩
      simp only [fX6_readKeepers, cl, ↓reduceIte, Option.bind_some, or_self, or_false, false_or, or_true, true_or, and_true, true_and, and_false, false_and, not_true_eq_false, not_false_eq_true]
