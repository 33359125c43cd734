/-! the world of the whole system: the class' objects (places 0 .. 67), the reference's (68 .. 83), the keepers behind them -/
abbrev zOS : Type := (Nat → Int32) × (Nat → Nat → Int32)
abbrev zLS : Type := zOS × (Nat → Option Nat)
abbrev zMS : Type := zOS × Int64
abbrev zNS : Type := Int32 × Nat × Nat
abbrev zKC : Type := Nat × Int32 × Int32 × Int32
abbrev zE : Type := (Nat → Nat) × ClassId × ClassId × ClassId × ClassId × (Nat → Nat) × (Nat → Nat)
def zpi (o : zOS) (k : Nat) (v : Int32) : zOS := (upd o.1 k v, o.2)
def zpA (o : zOS) (k : Nat) (g : Nat → Int32) : zOS := (o.1, va_up o.2 k g)
def zLi (o : zLS) (k : Nat) (v : Int32) : zLS := ((upd o.1.1 k v, o.1.2), o.2)
def zLA (o : zLS) (k : Nat) (g : Nat → Int32) : zLS := ((o.1.1, va_up o.1.2 k g), o.2)
def zLw (o : zLS) (g : Nat → Option Nat) : zLS := (o.1, g)
def zMi (o : zMS) (k : Nat) (v : Int32) : zMS := ((upd o.1.1 k v, o.1.2), o.2)
def zMA (o : zMS) (k : Nat) (g : Nat → Int32) : zMS := ((o.1.1, va_up o.1.2 k g), o.2)
def zMd (o : zMS) (v : Int64) : zMS := (o.1, v)
def zNf (o : zNS) (v : Int32) : zNS := (v, o.2)
def zkf (kc : Nat → zKC) (a : Nat) : va_E := .inr ((kc a).1, [.int (kc a).2.1, .int (kc a).2.2.1, .int (kc a).2.2.2])
def zty (E : zE) : List (ClassId × FieldType) := [(E.2.2.1, .byte), (E.2.1, .int), (E.2.2.2.1, .boolean), (E.2.2.2.2.1, .object RX3)]
def zX (E : zE) (on : zNS) (rw rd ft tr : zOS) (la : Nat → zLS) (mo : zMS) : va_W := [(E.1 0, .inr (10, [.ref (E.1 1), .ref (E.1 5), .ref (E.1 7), .ref (E.1 11), .ref (E.1 (13 + 11 * 0)), .ref (E.1 (13 + 11 * 1)), .ref (E.1 (13 + 11 * on.2.1)), .ref (E.1 (13 + 11 * on.2.2)), .int on.1])),
  (E.1 1, .inr (6, [.ref (E.1 2), .ref (E.1 3), .ref (E.1 4)])),
  (E.1 2, .inl (E.2.1, 8, .inl (rw.2 0))),
  (E.1 3, .inl (E.2.1, 8, .inl (rw.2 1))),
  (E.1 4, .inl (E.2.1, 320, .inl (rw.2 2))),
  (E.1 5, .inr (5, [.int (rd.1 0), .int (rd.1 1), .int (rd.1 2), .ref (E.1 6), .int (rd.1 4), .int (rd.1 5), .int (rd.1 6), .int (rd.1 7)])),
  (E.1 6, .inl (E.2.2.1, 500, .inl (rd.2 3))),
  (E.1 7, .inr (2, [.int (ft.1 0), .int (ft.1 1), .int (ft.1 2), .ref (E.1 (13 + 11 * 4)), .ref (E.1 8), .ref (E.1 9), .ref (E.1 10)])),
  (E.1 8, .inl (E.2.1, 6, .inl (ft.2 4))),
  (E.1 9, .inl (E.2.1, 6, .inl (ft.2 5))),
  (E.1 10, .inl (E.2.1, 6, .inl (ft.2 6))),
  (E.1 11, .inr (8, [.ref (E.1 12), .int (tr.1 1)])),
  (E.1 12, .inl (E.2.1, 16, .inl (tr.2 0))),
  (E.1 (13 + 11 * 0), .inr (3, [.int ((la 0).1.1 0), .int ((la 0).1.1 1), .int ((la 0).1.1 2), .int ((la 0).1.1 3), .int ((la 0).1.1 4), .int ((la 0).1.1 5), .int ((la 0).1.1 6), .int ((la 0).1.1 7), .int ((la 0).1.1 8), .ref (E.1 (13 + 11 * 0 + 1)), .ref (E.1 (13 + 11 * 0 + 2)), .ref (E.1 (13 + 11 * 0 + 3)), .ref (E.1 (13 + 11 * 0 + 4)), .ref (E.1 (13 + 11 * 0 + 5)), .ref (E.1 (13 + 11 * 0 + 6)), .ref (E.1 (13 + 11 * 0 + 7)), .ref (E.1 (13 + 11 * 0 + 8)), .ref (E.1 (13 + 11 * 0 + 9)), .ref (E.1 (13 + 11 * 0 + 10))])),
  (E.1 (13 + 11 * 0 + 1), .inl (E.2.1, 8, .inl ((la 0).1.2 9))),
  (E.1 (13 + 11 * 0 + 2), .inl (E.2.1, 8, .inl ((la 0).1.2 10))),
  (E.1 (13 + 11 * 0 + 3), .inl (E.2.2.2.2.1, 6, .inr (.inr (.inr (.inr (la 0).2))))),
  (E.1 (13 + 11 * 0 + 4), .inl (E.2.1, 8, .inl ((la 0).1.2 12))),
  (E.1 (13 + 11 * 0 + 5), .inl (E.2.1, 8, .inl ((la 0).1.2 13))),
  (E.1 (13 + 11 * 0 + 6), .inl (E.2.1, 48, .inl ((la 0).1.2 14))),
  (E.1 (13 + 11 * 0 + 7), .inl (E.2.1, 6, .inl ((la 0).1.2 15))),
  (E.1 (13 + 11 * 0 + 8), .inl (E.2.1, 6, .inl ((la 0).1.2 16))),
  (E.1 (13 + 11 * 0 + 9), .inl (E.2.1, 8, .inl ((la 0).1.2 17))),
  (E.1 (13 + 11 * 0 + 10), .inl (E.2.1, 8, .inl ((la 0).1.2 18))),
  (E.1 (13 + 11 * 1), .inr (3, [.int ((la 1).1.1 0), .int ((la 1).1.1 1), .int ((la 1).1.1 2), .int ((la 1).1.1 3), .int ((la 1).1.1 4), .int ((la 1).1.1 5), .int ((la 1).1.1 6), .int ((la 1).1.1 7), .int ((la 1).1.1 8), .ref (E.1 (13 + 11 * 1 + 1)), .ref (E.1 (13 + 11 * 1 + 2)), .ref (E.1 (13 + 11 * 1 + 3)), .ref (E.1 (13 + 11 * 1 + 4)), .ref (E.1 (13 + 11 * 1 + 5)), .ref (E.1 (13 + 11 * 1 + 6)), .ref (E.1 (13 + 11 * 1 + 7)), .ref (E.1 (13 + 11 * 1 + 8)), .ref (E.1 (13 + 11 * 1 + 9)), .ref (E.1 (13 + 11 * 1 + 10))])),
  (E.1 (13 + 11 * 1 + 1), .inl (E.2.1, 8, .inl ((la 1).1.2 9))),
  (E.1 (13 + 11 * 1 + 2), .inl (E.2.1, 8, .inl ((la 1).1.2 10))),
  (E.1 (13 + 11 * 1 + 3), .inl (E.2.2.2.2.1, 6, .inr (.inr (.inr (.inr (la 1).2))))),
  (E.1 (13 + 11 * 1 + 4), .inl (E.2.1, 8, .inl ((la 1).1.2 12))),
  (E.1 (13 + 11 * 1 + 5), .inl (E.2.1, 8, .inl ((la 1).1.2 13))),
  (E.1 (13 + 11 * 1 + 6), .inl (E.2.1, 48, .inl ((la 1).1.2 14))),
  (E.1 (13 + 11 * 1 + 7), .inl (E.2.1, 6, .inl ((la 1).1.2 15))),
  (E.1 (13 + 11 * 1 + 8), .inl (E.2.1, 6, .inl ((la 1).1.2 16))),
  (E.1 (13 + 11 * 1 + 9), .inl (E.2.1, 8, .inl ((la 1).1.2 17))),
  (E.1 (13 + 11 * 1 + 10), .inl (E.2.1, 8, .inl ((la 1).1.2 18))),
  (E.1 (13 + 11 * 2), .inr (3, [.int ((la 2).1.1 0), .int ((la 2).1.1 1), .int ((la 2).1.1 2), .int ((la 2).1.1 3), .int ((la 2).1.1 4), .int ((la 2).1.1 5), .int ((la 2).1.1 6), .int ((la 2).1.1 7), .int ((la 2).1.1 8), .ref (E.1 (13 + 11 * 2 + 1)), .ref (E.1 (13 + 11 * 2 + 2)), .ref (E.1 (13 + 11 * 2 + 3)), .ref (E.1 (13 + 11 * 2 + 4)), .ref (E.1 (13 + 11 * 2 + 5)), .ref (E.1 (13 + 11 * 2 + 6)), .ref (E.1 (13 + 11 * 2 + 7)), .ref (E.1 (13 + 11 * 2 + 8)), .ref (E.1 (13 + 11 * 2 + 9)), .ref (E.1 (13 + 11 * 2 + 10))])),
  (E.1 (13 + 11 * 2 + 1), .inl (E.2.1, 8, .inl ((la 2).1.2 9))),
  (E.1 (13 + 11 * 2 + 2), .inl (E.2.1, 8, .inl ((la 2).1.2 10))),
  (E.1 (13 + 11 * 2 + 3), .inl (E.2.2.2.2.1, 6, .inr (.inr (.inr (.inr (la 2).2))))),
  (E.1 (13 + 11 * 2 + 4), .inl (E.2.1, 8, .inl ((la 2).1.2 12))),
  (E.1 (13 + 11 * 2 + 5), .inl (E.2.1, 8, .inl ((la 2).1.2 13))),
  (E.1 (13 + 11 * 2 + 6), .inl (E.2.1, 48, .inl ((la 2).1.2 14))),
  (E.1 (13 + 11 * 2 + 7), .inl (E.2.1, 6, .inl ((la 2).1.2 15))),
  (E.1 (13 + 11 * 2 + 8), .inl (E.2.1, 6, .inl ((la 2).1.2 16))),
  (E.1 (13 + 11 * 2 + 9), .inl (E.2.1, 8, .inl ((la 2).1.2 17))),
  (E.1 (13 + 11 * 2 + 10), .inl (E.2.1, 8, .inl ((la 2).1.2 18))),
  (E.1 (13 + 11 * 3), .inr (3, [.int ((la 3).1.1 0), .int ((la 3).1.1 1), .int ((la 3).1.1 2), .int ((la 3).1.1 3), .int ((la 3).1.1 4), .int ((la 3).1.1 5), .int ((la 3).1.1 6), .int ((la 3).1.1 7), .int ((la 3).1.1 8), .ref (E.1 (13 + 11 * 3 + 1)), .ref (E.1 (13 + 11 * 3 + 2)), .ref (E.1 (13 + 11 * 3 + 3)), .ref (E.1 (13 + 11 * 3 + 4)), .ref (E.1 (13 + 11 * 3 + 5)), .ref (E.1 (13 + 11 * 3 + 6)), .ref (E.1 (13 + 11 * 3 + 7)), .ref (E.1 (13 + 11 * 3 + 8)), .ref (E.1 (13 + 11 * 3 + 9)), .ref (E.1 (13 + 11 * 3 + 10))])),
  (E.1 (13 + 11 * 3 + 1), .inl (E.2.1, 8, .inl ((la 3).1.2 9))),
  (E.1 (13 + 11 * 3 + 2), .inl (E.2.1, 8, .inl ((la 3).1.2 10))),
  (E.1 (13 + 11 * 3 + 3), .inl (E.2.2.2.2.1, 6, .inr (.inr (.inr (.inr (la 3).2))))),
  (E.1 (13 + 11 * 3 + 4), .inl (E.2.1, 8, .inl ((la 3).1.2 12))),
  (E.1 (13 + 11 * 3 + 5), .inl (E.2.1, 8, .inl ((la 3).1.2 13))),
  (E.1 (13 + 11 * 3 + 6), .inl (E.2.1, 48, .inl ((la 3).1.2 14))),
  (E.1 (13 + 11 * 3 + 7), .inl (E.2.1, 6, .inl ((la 3).1.2 15))),
  (E.1 (13 + 11 * 3 + 8), .inl (E.2.1, 6, .inl ((la 3).1.2 16))),
  (E.1 (13 + 11 * 3 + 9), .inl (E.2.1, 8, .inl ((la 3).1.2 17))),
  (E.1 (13 + 11 * 3 + 10), .inl (E.2.1, 8, .inl ((la 3).1.2 18))),
  (E.1 (13 + 11 * 4), .inr (3, [.int ((la 4).1.1 0), .int ((la 4).1.1 1), .int ((la 4).1.1 2), .int ((la 4).1.1 3), .int ((la 4).1.1 4), .int ((la 4).1.1 5), .int ((la 4).1.1 6), .int ((la 4).1.1 7), .int ((la 4).1.1 8), .ref (E.1 (13 + 11 * 4 + 1)), .ref (E.1 (13 + 11 * 4 + 2)), .ref (E.1 (13 + 11 * 4 + 3)), .ref (E.1 (13 + 11 * 4 + 4)), .ref (E.1 (13 + 11 * 4 + 5)), .ref (E.1 (13 + 11 * 4 + 6)), .ref (E.1 (13 + 11 * 4 + 7)), .ref (E.1 (13 + 11 * 4 + 8)), .ref (E.1 (13 + 11 * 4 + 9)), .ref (E.1 (13 + 11 * 4 + 10))])),
  (E.1 (13 + 11 * 4 + 1), .inl (E.2.1, 8, .inl ((la 4).1.2 9))),
  (E.1 (13 + 11 * 4 + 2), .inl (E.2.1, 8, .inl ((la 4).1.2 10))),
  (E.1 (13 + 11 * 4 + 3), .inl (E.2.2.2.2.1, 6, .inr (.inr (.inr (.inr (la 4).2))))),
  (E.1 (13 + 11 * 4 + 4), .inl (E.2.1, 8, .inl ((la 4).1.2 12))),
  (E.1 (13 + 11 * 4 + 5), .inl (E.2.1, 8, .inl ((la 4).1.2 13))),
  (E.1 (13 + 11 * 4 + 6), .inl (E.2.1, 48, .inl ((la 4).1.2 14))),
  (E.1 (13 + 11 * 4 + 7), .inl (E.2.1, 6, .inl ((la 4).1.2 15))),
  (E.1 (13 + 11 * 4 + 8), .inl (E.2.1, 6, .inl ((la 4).1.2 16))),
  (E.1 (13 + 11 * 4 + 9), .inl (E.2.1, 8, .inl ((la 4).1.2 17))),
  (E.1 (13 + 11 * 4 + 10), .inl (E.2.1, 8, .inl ((la 4).1.2 18))),
  (E.1 68, .inr (11, [.int (mo.1.1 0), .int (mo.1.1 1), .ref (E.1 69), .ref (E.1 70), .ref (E.1 71), .ref (E.1 72), .ref (E.1 73), .int (mo.1.1 7), .ref (E.1 74), .ref (E.1 75), .int (mo.1.1 10), .int (mo.1.1 11), .int (mo.1.1 12), .int (mo.1.1 13), .int (mo.1.1 14), .int (mo.1.1 15), .int (mo.1.1 16), .int (mo.1.1 17), .int (mo.1.1 18), .long mo.2, .int (mo.1.1 20), .int (mo.1.1 21), .ref (E.1 76), .ref (E.1 77), .ref (E.1 78), .ref (E.1 79), .ref (E.1 80), .ref (E.1 81), .ref (E.1 82), .ref (E.1 83), .int (mo.1.1 30)])),
  (E.1 69, .inl (E.2.1, 8, .inl (mo.1.2 2))),
  (E.1 70, .inl (E.2.1, 8, .inl (mo.1.2 3))),
  (E.1 71, .inl (E.2.1, 320, .inl (mo.1.2 4))),
  (E.1 72, .inl (E.2.1, 58, .inl (mo.1.2 5))),
  (E.1 73, .inl (E.2.1, 58, .inl (mo.1.2 6))),
  (E.1 74, .inl (E.2.1, 77, .inl (mo.1.2 8))),
  (E.1 75, .inl (E.2.1, 500, .inl (mo.1.2 9))),
  (E.1 76, .inl (E.2.1, 6, .inl (mo.1.2 22))),
  (E.1 77, .inl (E.2.1, 6, .inl (mo.1.2 23))),
  (E.1 78, .inl (E.2.1, 6, .inl (mo.1.2 24))),
  (E.1 79, .inl (E.2.1, 77, .inl (mo.1.2 25))),
  (E.1 80, .inl (E.2.2.2.1, 2, .inl (mo.1.2 26))),
  (E.1 81, .inl (E.2.1, 116, .inl (mo.1.2 27))),
  (E.1 82, .inl (E.2.1, 154, .inl (mo.1.2 28))),
  (E.1 83, .inl (E.2.1, 16, .inl (mo.1.2 29)))]
def zW (E : zE) (KL : List Nat) (kc : Nat → zKC) (on : zNS) (rw rd ft tr : zOS) (la : Nat → zLS) (mo : zMS) : va_W := zX E on rw rd ft tr la mo ++ va_pl KL (zkf kc)
set_option maxRecDepth 20000 in
theorem zg_on (E : zE) (KL : List Nat) (kc : Nat → zKC) (on : zNS) (rw rd ft tr : zOS) (la : Nat → zLS) (mo : zMS) : (zW E KL kc on rw rd ft tr la mo)[0]? = some (E.1 0, .inr (10, [.ref (E.1 1), .ref (E.1 5), .ref (E.1 7), .ref (E.1 11), .ref (E.1 (13 + 11 * 0)), .ref (E.1 (13 + 11 * 1)), .ref (E.1 (13 + 11 * on.2.1)), .ref (E.1 (13 + 11 * on.2.2)), .int on.1])) := rfl
set_option maxRecDepth 20000 in
theorem zs_on_6 (E : zE) (KL : List Nat) (kc : Nat → zKC) (on : zNS) (rw rd ft tr : zOS) (la : Nat → zLS) (mo : zMS) (v : Nat) : (zW E KL kc on rw rd ft tr la mo).set 0 (E.1 0, .inr (10, ([.ref (E.1 1), .ref (E.1 5), .ref (E.1 7), .ref (E.1 11), .ref (E.1 (13 + 11 * 0)), .ref (E.1 (13 + 11 * 1)), .ref (E.1 (13 + 11 * on.2.1)), .ref (E.1 (13 + 11 * on.2.2)), .int on.1] : List Value).set 6 (.ref (E.1 (13 + 11 * v))))) = zW E KL kc (on.1, v, on.2.2) rw rd ft tr la mo := rfl
set_option maxRecDepth 20000 in
theorem zs_on_7 (E : zE) (KL : List Nat) (kc : Nat → zKC) (on : zNS) (rw rd ft tr : zOS) (la : Nat → zLS) (mo : zMS) (v : Nat) : (zW E KL kc on rw rd ft tr la mo).set 0 (E.1 0, .inr (10, ([.ref (E.1 1), .ref (E.1 5), .ref (E.1 7), .ref (E.1 11), .ref (E.1 (13 + 11 * 0)), .ref (E.1 (13 + 11 * 1)), .ref (E.1 (13 + 11 * on.2.1)), .ref (E.1 (13 + 11 * on.2.2)), .int on.1] : List Value).set 7 (.ref (E.1 (13 + 11 * v))))) = zW E KL kc (on.1, on.2.1, v) rw rd ft tr la mo := rfl
set_option maxRecDepth 20000 in
theorem zs_on_8 (E : zE) (KL : List Nat) (kc : Nat → zKC) (on : zNS) (rw rd ft tr : zOS) (la : Nat → zLS) (mo : zMS) (v : Int32) : (zW E KL kc on rw rd ft tr la mo).set 0 (E.1 0, .inr (10, ([.ref (E.1 1), .ref (E.1 5), .ref (E.1 7), .ref (E.1 11), .ref (E.1 (13 + 11 * 0)), .ref (E.1 (13 + 11 * 1)), .ref (E.1 (13 + 11 * on.2.1)), .ref (E.1 (13 + 11 * on.2.2)), .int on.1] : List Value).set 8 (.int v))) = zW E KL kc (zNf on v) rw rd ft tr la mo := rfl
set_option maxRecDepth 20000 in
theorem zg_rw (E : zE) (KL : List Nat) (kc : Nat → zKC) (on : zNS) (rw rd ft tr : zOS) (la : Nat → zLS) (mo : zMS) : (zW E KL kc on rw rd ft tr la mo)[1]? = some (E.1 1, .inr (6, [.ref (E.1 2), .ref (E.1 3), .ref (E.1 4)])) := rfl
set_option maxRecDepth 20000 in
theorem zg_rw_0 (E : zE) (KL : List Nat) (kc : Nat → zKC) (on : zNS) (rw rd ft tr : zOS) (la : Nat → zLS) (mo : zMS) : (zW E KL kc on rw rd ft tr la mo)[2]? = some (E.1 2, .inl (E.2.1, 8, .inl (rw.2 0))) := rfl
set_option maxRecDepth 20000 in
theorem zs_rw_0 (E : zE) (KL : List Nat) (kc : Nat → zKC) (on : zNS) (rw rd ft tr : zOS) (la : Nat → zLS) (mo : zMS) (g : Nat → Int32) : (zW E KL kc on rw rd ft tr la mo).set 2 (E.1 2, .inl (E.2.1, 8, .inl g)) = zW E KL kc on (zpA rw 0 g) rd ft tr la mo := rfl
set_option maxRecDepth 20000 in
theorem zg_rw_1 (E : zE) (KL : List Nat) (kc : Nat → zKC) (on : zNS) (rw rd ft tr : zOS) (la : Nat → zLS) (mo : zMS) : (zW E KL kc on rw rd ft tr la mo)[3]? = some (E.1 3, .inl (E.2.1, 8, .inl (rw.2 1))) := rfl
set_option maxRecDepth 20000 in
theorem zs_rw_1 (E : zE) (KL : List Nat) (kc : Nat → zKC) (on : zNS) (rw rd ft tr : zOS) (la : Nat → zLS) (mo : zMS) (g : Nat → Int32) : (zW E KL kc on rw rd ft tr la mo).set 3 (E.1 3, .inl (E.2.1, 8, .inl g)) = zW E KL kc on (zpA rw 1 g) rd ft tr la mo := rfl
set_option maxRecDepth 20000 in
theorem zg_rw_2 (E : zE) (KL : List Nat) (kc : Nat → zKC) (on : zNS) (rw rd ft tr : zOS) (la : Nat → zLS) (mo : zMS) : (zW E KL kc on rw rd ft tr la mo)[4]? = some (E.1 4, .inl (E.2.1, 320, .inl (rw.2 2))) := rfl
set_option maxRecDepth 20000 in
theorem zs_rw_2 (E : zE) (KL : List Nat) (kc : Nat → zKC) (on : zNS) (rw rd ft tr : zOS) (la : Nat → zLS) (mo : zMS) (g : Nat → Int32) : (zW E KL kc on rw rd ft tr la mo).set 4 (E.1 4, .inl (E.2.1, 320, .inl g)) = zW E KL kc on (zpA rw 2 g) rd ft tr la mo := rfl
set_option maxRecDepth 20000 in
theorem zg_rd (E : zE) (KL : List Nat) (kc : Nat → zKC) (on : zNS) (rw rd ft tr : zOS) (la : Nat → zLS) (mo : zMS) : (zW E KL kc on rw rd ft tr la mo)[5]? = some (E.1 5, .inr (5, [.int (rd.1 0), .int (rd.1 1), .int (rd.1 2), .ref (E.1 6), .int (rd.1 4), .int (rd.1 5), .int (rd.1 6), .int (rd.1 7)])) := rfl
set_option maxRecDepth 20000 in
theorem zs_rd_0 (E : zE) (KL : List Nat) (kc : Nat → zKC) (on : zNS) (rw rd ft tr : zOS) (la : Nat → zLS) (mo : zMS) (v : Int32) : (zW E KL kc on rw rd ft tr la mo).set 5 (E.1 5, .inr (5, ([.int (rd.1 0), .int (rd.1 1), .int (rd.1 2), .ref (E.1 6), .int (rd.1 4), .int (rd.1 5), .int (rd.1 6), .int (rd.1 7)] : List Value).set 0 (.int v))) = zW E KL kc on rw (zpi rd 0 v) ft tr la mo := rfl
set_option maxRecDepth 20000 in
theorem zs_rd_1 (E : zE) (KL : List Nat) (kc : Nat → zKC) (on : zNS) (rw rd ft tr : zOS) (la : Nat → zLS) (mo : zMS) (v : Int32) : (zW E KL kc on rw rd ft tr la mo).set 5 (E.1 5, .inr (5, ([.int (rd.1 0), .int (rd.1 1), .int (rd.1 2), .ref (E.1 6), .int (rd.1 4), .int (rd.1 5), .int (rd.1 6), .int (rd.1 7)] : List Value).set 1 (.int v))) = zW E KL kc on rw (zpi rd 1 v) ft tr la mo := rfl
set_option maxRecDepth 20000 in
theorem zs_rd_2 (E : zE) (KL : List Nat) (kc : Nat → zKC) (on : zNS) (rw rd ft tr : zOS) (la : Nat → zLS) (mo : zMS) (v : Int32) : (zW E KL kc on rw rd ft tr la mo).set 5 (E.1 5, .inr (5, ([.int (rd.1 0), .int (rd.1 1), .int (rd.1 2), .ref (E.1 6), .int (rd.1 4), .int (rd.1 5), .int (rd.1 6), .int (rd.1 7)] : List Value).set 2 (.int v))) = zW E KL kc on rw (zpi rd 2 v) ft tr la mo := rfl
set_option maxRecDepth 20000 in
theorem zg_rd_3 (E : zE) (KL : List Nat) (kc : Nat → zKC) (on : zNS) (rw rd ft tr : zOS) (la : Nat → zLS) (mo : zMS) : (zW E KL kc on rw rd ft tr la mo)[6]? = some (E.1 6, .inl (E.2.2.1, 500, .inl (rd.2 3))) := rfl
set_option maxRecDepth 20000 in
theorem zs_rd_3 (E : zE) (KL : List Nat) (kc : Nat → zKC) (on : zNS) (rw rd ft tr : zOS) (la : Nat → zLS) (mo : zMS) (g : Nat → Int32) : (zW E KL kc on rw rd ft tr la mo).set 6 (E.1 6, .inl (E.2.2.1, 500, .inl g)) = zW E KL kc on rw (zpA rd 3 g) ft tr la mo := rfl
set_option maxRecDepth 20000 in
theorem zs_rd_4 (E : zE) (KL : List Nat) (kc : Nat → zKC) (on : zNS) (rw rd ft tr : zOS) (la : Nat → zLS) (mo : zMS) (v : Int32) : (zW E KL kc on rw rd ft tr la mo).set 5 (E.1 5, .inr (5, ([.int (rd.1 0), .int (rd.1 1), .int (rd.1 2), .ref (E.1 6), .int (rd.1 4), .int (rd.1 5), .int (rd.1 6), .int (rd.1 7)] : List Value).set 4 (.int v))) = zW E KL kc on rw (zpi rd 4 v) ft tr la mo := rfl
set_option maxRecDepth 20000 in
theorem zs_rd_5 (E : zE) (KL : List Nat) (kc : Nat → zKC) (on : zNS) (rw rd ft tr : zOS) (la : Nat → zLS) (mo : zMS) (v : Int32) : (zW E KL kc on rw rd ft tr la mo).set 5 (E.1 5, .inr (5, ([.int (rd.1 0), .int (rd.1 1), .int (rd.1 2), .ref (E.1 6), .int (rd.1 4), .int (rd.1 5), .int (rd.1 6), .int (rd.1 7)] : List Value).set 5 (.int v))) = zW E KL kc on rw (zpi rd 5 v) ft tr la mo := rfl
set_option maxRecDepth 20000 in
theorem zs_rd_6 (E : zE) (KL : List Nat) (kc : Nat → zKC) (on : zNS) (rw rd ft tr : zOS) (la : Nat → zLS) (mo : zMS) (v : Int32) : (zW E KL kc on rw rd ft tr la mo).set 5 (E.1 5, .inr (5, ([.int (rd.1 0), .int (rd.1 1), .int (rd.1 2), .ref (E.1 6), .int (rd.1 4), .int (rd.1 5), .int (rd.1 6), .int (rd.1 7)] : List Value).set 6 (.int v))) = zW E KL kc on rw (zpi rd 6 v) ft tr la mo := rfl
set_option maxRecDepth 20000 in
theorem zs_rd_7 (E : zE) (KL : List Nat) (kc : Nat → zKC) (on : zNS) (rw rd ft tr : zOS) (la : Nat → zLS) (mo : zMS) (v : Int32) : (zW E KL kc on rw rd ft tr la mo).set 5 (E.1 5, .inr (5, ([.int (rd.1 0), .int (rd.1 1), .int (rd.1 2), .ref (E.1 6), .int (rd.1 4), .int (rd.1 5), .int (rd.1 6), .int (rd.1 7)] : List Value).set 7 (.int v))) = zW E KL kc on rw (zpi rd 7 v) ft tr la mo := rfl
set_option maxRecDepth 20000 in
theorem zg_ft (E : zE) (KL : List Nat) (kc : Nat → zKC) (on : zNS) (rw rd ft tr : zOS) (la : Nat → zLS) (mo : zMS) : (zW E KL kc on rw rd ft tr la mo)[7]? = some (E.1 7, .inr (2, [.int (ft.1 0), .int (ft.1 1), .int (ft.1 2), .ref (E.1 (13 + 11 * 4)), .ref (E.1 8), .ref (E.1 9), .ref (E.1 10)])) := rfl
set_option maxRecDepth 20000 in
theorem zs_ft_0 (E : zE) (KL : List Nat) (kc : Nat → zKC) (on : zNS) (rw rd ft tr : zOS) (la : Nat → zLS) (mo : zMS) (v : Int32) : (zW E KL kc on rw rd ft tr la mo).set 7 (E.1 7, .inr (2, ([.int (ft.1 0), .int (ft.1 1), .int (ft.1 2), .ref (E.1 (13 + 11 * 4)), .ref (E.1 8), .ref (E.1 9), .ref (E.1 10)] : List Value).set 0 (.int v))) = zW E KL kc on rw rd (zpi ft 0 v) tr la mo := rfl
set_option maxRecDepth 20000 in
theorem zs_ft_1 (E : zE) (KL : List Nat) (kc : Nat → zKC) (on : zNS) (rw rd ft tr : zOS) (la : Nat → zLS) (mo : zMS) (v : Int32) : (zW E KL kc on rw rd ft tr la mo).set 7 (E.1 7, .inr (2, ([.int (ft.1 0), .int (ft.1 1), .int (ft.1 2), .ref (E.1 (13 + 11 * 4)), .ref (E.1 8), .ref (E.1 9), .ref (E.1 10)] : List Value).set 1 (.int v))) = zW E KL kc on rw rd (zpi ft 1 v) tr la mo := rfl
set_option maxRecDepth 20000 in
theorem zs_ft_2 (E : zE) (KL : List Nat) (kc : Nat → zKC) (on : zNS) (rw rd ft tr : zOS) (la : Nat → zLS) (mo : zMS) (v : Int32) : (zW E KL kc on rw rd ft tr la mo).set 7 (E.1 7, .inr (2, ([.int (ft.1 0), .int (ft.1 1), .int (ft.1 2), .ref (E.1 (13 + 11 * 4)), .ref (E.1 8), .ref (E.1 9), .ref (E.1 10)] : List Value).set 2 (.int v))) = zW E KL kc on rw rd (zpi ft 2 v) tr la mo := rfl
set_option maxRecDepth 20000 in
theorem zg_ft_4 (E : zE) (KL : List Nat) (kc : Nat → zKC) (on : zNS) (rw rd ft tr : zOS) (la : Nat → zLS) (mo : zMS) : (zW E KL kc on rw rd ft tr la mo)[8]? = some (E.1 8, .inl (E.2.1, 6, .inl (ft.2 4))) := rfl
set_option maxRecDepth 20000 in
theorem zs_ft_4 (E : zE) (KL : List Nat) (kc : Nat → zKC) (on : zNS) (rw rd ft tr : zOS) (la : Nat → zLS) (mo : zMS) (g : Nat → Int32) : (zW E KL kc on rw rd ft tr la mo).set 8 (E.1 8, .inl (E.2.1, 6, .inl g)) = zW E KL kc on rw rd (zpA ft 4 g) tr la mo := rfl
set_option maxRecDepth 20000 in
theorem zg_ft_5 (E : zE) (KL : List Nat) (kc : Nat → zKC) (on : zNS) (rw rd ft tr : zOS) (la : Nat → zLS) (mo : zMS) : (zW E KL kc on rw rd ft tr la mo)[9]? = some (E.1 9, .inl (E.2.1, 6, .inl (ft.2 5))) := rfl
set_option maxRecDepth 20000 in
theorem zs_ft_5 (E : zE) (KL : List Nat) (kc : Nat → zKC) (on : zNS) (rw rd ft tr : zOS) (la : Nat → zLS) (mo : zMS) (g : Nat → Int32) : (zW E KL kc on rw rd ft tr la mo).set 9 (E.1 9, .inl (E.2.1, 6, .inl g)) = zW E KL kc on rw rd (zpA ft 5 g) tr la mo := rfl
set_option maxRecDepth 20000 in
theorem zg_ft_6 (E : zE) (KL : List Nat) (kc : Nat → zKC) (on : zNS) (rw rd ft tr : zOS) (la : Nat → zLS) (mo : zMS) : (zW E KL kc on rw rd ft tr la mo)[10]? = some (E.1 10, .inl (E.2.1, 6, .inl (ft.2 6))) := rfl
set_option maxRecDepth 20000 in
theorem zs_ft_6 (E : zE) (KL : List Nat) (kc : Nat → zKC) (on : zNS) (rw rd ft tr : zOS) (la : Nat → zLS) (mo : zMS) (g : Nat → Int32) : (zW E KL kc on rw rd ft tr la mo).set 10 (E.1 10, .inl (E.2.1, 6, .inl g)) = zW E KL kc on rw rd (zpA ft 6 g) tr la mo := rfl
set_option maxRecDepth 20000 in
theorem zg_tr (E : zE) (KL : List Nat) (kc : Nat → zKC) (on : zNS) (rw rd ft tr : zOS) (la : Nat → zLS) (mo : zMS) : (zW E KL kc on rw rd ft tr la mo)[11]? = some (E.1 11, .inr (8, [.ref (E.1 12), .int (tr.1 1)])) := rfl
set_option maxRecDepth 20000 in
theorem zg_tr_0 (E : zE) (KL : List Nat) (kc : Nat → zKC) (on : zNS) (rw rd ft tr : zOS) (la : Nat → zLS) (mo : zMS) : (zW E KL kc on rw rd ft tr la mo)[12]? = some (E.1 12, .inl (E.2.1, 16, .inl (tr.2 0))) := rfl
set_option maxRecDepth 20000 in
theorem zs_tr_0 (E : zE) (KL : List Nat) (kc : Nat → zKC) (on : zNS) (rw rd ft tr : zOS) (la : Nat → zLS) (mo : zMS) (g : Nat → Int32) : (zW E KL kc on rw rd ft tr la mo).set 12 (E.1 12, .inl (E.2.1, 16, .inl g)) = zW E KL kc on rw rd ft (zpA tr 0 g) la mo := rfl
set_option maxRecDepth 20000 in
theorem zs_tr_1 (E : zE) (KL : List Nat) (kc : Nat → zKC) (on : zNS) (rw rd ft tr : zOS) (la : Nat → zLS) (mo : zMS) (v : Int32) : (zW E KL kc on rw rd ft tr la mo).set 11 (E.1 11, .inr (8, ([.ref (E.1 12), .int (tr.1 1)] : List Value).set 1 (.int v))) = zW E KL kc on rw rd ft (zpi tr 1 v) la mo := rfl
set_option maxRecDepth 20000 in
theorem zg_mo (E : zE) (KL : List Nat) (kc : Nat → zKC) (on : zNS) (rw rd ft tr : zOS) (la : Nat → zLS) (mo : zMS) : (zW E KL kc on rw rd ft tr la mo)[68]? = some (E.1 68, .inr (11, [.int (mo.1.1 0), .int (mo.1.1 1), .ref (E.1 69), .ref (E.1 70), .ref (E.1 71), .ref (E.1 72), .ref (E.1 73), .int (mo.1.1 7), .ref (E.1 74), .ref (E.1 75), .int (mo.1.1 10), .int (mo.1.1 11), .int (mo.1.1 12), .int (mo.1.1 13), .int (mo.1.1 14), .int (mo.1.1 15), .int (mo.1.1 16), .int (mo.1.1 17), .int (mo.1.1 18), .long mo.2, .int (mo.1.1 20), .int (mo.1.1 21), .ref (E.1 76), .ref (E.1 77), .ref (E.1 78), .ref (E.1 79), .ref (E.1 80), .ref (E.1 81), .ref (E.1 82), .ref (E.1 83), .int (mo.1.1 30)])) := rfl
set_option maxRecDepth 20000 in
theorem zs_mo_0 (E : zE) (KL : List Nat) (kc : Nat → zKC) (on : zNS) (rw rd ft tr : zOS) (la : Nat → zLS) (mo : zMS) (v : Int32) : (zW E KL kc on rw rd ft tr la mo).set 68 (E.1 68, .inr (11, ([.int (mo.1.1 0), .int (mo.1.1 1), .ref (E.1 69), .ref (E.1 70), .ref (E.1 71), .ref (E.1 72), .ref (E.1 73), .int (mo.1.1 7), .ref (E.1 74), .ref (E.1 75), .int (mo.1.1 10), .int (mo.1.1 11), .int (mo.1.1 12), .int (mo.1.1 13), .int (mo.1.1 14), .int (mo.1.1 15), .int (mo.1.1 16), .int (mo.1.1 17), .int (mo.1.1 18), .long mo.2, .int (mo.1.1 20), .int (mo.1.1 21), .ref (E.1 76), .ref (E.1 77), .ref (E.1 78), .ref (E.1 79), .ref (E.1 80), .ref (E.1 81), .ref (E.1 82), .ref (E.1 83), .int (mo.1.1 30)] : List Value).set 0 (.int v))) = zW E KL kc on rw rd ft tr la (zMi mo 0 v) := rfl
set_option maxRecDepth 20000 in
theorem zs_mo_1 (E : zE) (KL : List Nat) (kc : Nat → zKC) (on : zNS) (rw rd ft tr : zOS) (la : Nat → zLS) (mo : zMS) (v : Int32) : (zW E KL kc on rw rd ft tr la mo).set 68 (E.1 68, .inr (11, ([.int (mo.1.1 0), .int (mo.1.1 1), .ref (E.1 69), .ref (E.1 70), .ref (E.1 71), .ref (E.1 72), .ref (E.1 73), .int (mo.1.1 7), .ref (E.1 74), .ref (E.1 75), .int (mo.1.1 10), .int (mo.1.1 11), .int (mo.1.1 12), .int (mo.1.1 13), .int (mo.1.1 14), .int (mo.1.1 15), .int (mo.1.1 16), .int (mo.1.1 17), .int (mo.1.1 18), .long mo.2, .int (mo.1.1 20), .int (mo.1.1 21), .ref (E.1 76), .ref (E.1 77), .ref (E.1 78), .ref (E.1 79), .ref (E.1 80), .ref (E.1 81), .ref (E.1 82), .ref (E.1 83), .int (mo.1.1 30)] : List Value).set 1 (.int v))) = zW E KL kc on rw rd ft tr la (zMi mo 1 v) := rfl
set_option maxRecDepth 20000 in
theorem zg_mo_2 (E : zE) (KL : List Nat) (kc : Nat → zKC) (on : zNS) (rw rd ft tr : zOS) (la : Nat → zLS) (mo : zMS) : (zW E KL kc on rw rd ft tr la mo)[69]? = some (E.1 69, .inl (E.2.1, 8, .inl (mo.1.2 2))) := rfl
set_option maxRecDepth 20000 in
theorem zs_mo_2 (E : zE) (KL : List Nat) (kc : Nat → zKC) (on : zNS) (rw rd ft tr : zOS) (la : Nat → zLS) (mo : zMS) (g : Nat → Int32) : (zW E KL kc on rw rd ft tr la mo).set 69 (E.1 69, .inl (E.2.1, 8, .inl g)) = zW E KL kc on rw rd ft tr la (zMA mo 2 g) := rfl
set_option maxRecDepth 20000 in
theorem zg_mo_3 (E : zE) (KL : List Nat) (kc : Nat → zKC) (on : zNS) (rw rd ft tr : zOS) (la : Nat → zLS) (mo : zMS) : (zW E KL kc on rw rd ft tr la mo)[70]? = some (E.1 70, .inl (E.2.1, 8, .inl (mo.1.2 3))) := rfl
set_option maxRecDepth 20000 in
theorem zs_mo_3 (E : zE) (KL : List Nat) (kc : Nat → zKC) (on : zNS) (rw rd ft tr : zOS) (la : Nat → zLS) (mo : zMS) (g : Nat → Int32) : (zW E KL kc on rw rd ft tr la mo).set 70 (E.1 70, .inl (E.2.1, 8, .inl g)) = zW E KL kc on rw rd ft tr la (zMA mo 3 g) := rfl
set_option maxRecDepth 20000 in
theorem zg_mo_4 (E : zE) (KL : List Nat) (kc : Nat → zKC) (on : zNS) (rw rd ft tr : zOS) (la : Nat → zLS) (mo : zMS) : (zW E KL kc on rw rd ft tr la mo)[71]? = some (E.1 71, .inl (E.2.1, 320, .inl (mo.1.2 4))) := rfl
set_option maxRecDepth 20000 in
theorem zs_mo_4 (E : zE) (KL : List Nat) (kc : Nat → zKC) (on : zNS) (rw rd ft tr : zOS) (la : Nat → zLS) (mo : zMS) (g : Nat → Int32) : (zW E KL kc on rw rd ft tr la mo).set 71 (E.1 71, .inl (E.2.1, 320, .inl g)) = zW E KL kc on rw rd ft tr la (zMA mo 4 g) := rfl
set_option maxRecDepth 20000 in
theorem zg_mo_5 (E : zE) (KL : List Nat) (kc : Nat → zKC) (on : zNS) (rw rd ft tr : zOS) (la : Nat → zLS) (mo : zMS) : (zW E KL kc on rw rd ft tr la mo)[72]? = some (E.1 72, .inl (E.2.1, 58, .inl (mo.1.2 5))) := rfl
set_option maxRecDepth 20000 in
theorem zs_mo_5 (E : zE) (KL : List Nat) (kc : Nat → zKC) (on : zNS) (rw rd ft tr : zOS) (la : Nat → zLS) (mo : zMS) (g : Nat → Int32) : (zW E KL kc on rw rd ft tr la mo).set 72 (E.1 72, .inl (E.2.1, 58, .inl g)) = zW E KL kc on rw rd ft tr la (zMA mo 5 g) := rfl
set_option maxRecDepth 20000 in
theorem zg_mo_6 (E : zE) (KL : List Nat) (kc : Nat → zKC) (on : zNS) (rw rd ft tr : zOS) (la : Nat → zLS) (mo : zMS) : (zW E KL kc on rw rd ft tr la mo)[73]? = some (E.1 73, .inl (E.2.1, 58, .inl (mo.1.2 6))) := rfl
set_option maxRecDepth 20000 in
theorem zs_mo_6 (E : zE) (KL : List Nat) (kc : Nat → zKC) (on : zNS) (rw rd ft tr : zOS) (la : Nat → zLS) (mo : zMS) (g : Nat → Int32) : (zW E KL kc on rw rd ft tr la mo).set 73 (E.1 73, .inl (E.2.1, 58, .inl g)) = zW E KL kc on rw rd ft tr la (zMA mo 6 g) := rfl
set_option maxRecDepth 20000 in
theorem zs_mo_7 (E : zE) (KL : List Nat) (kc : Nat → zKC) (on : zNS) (rw rd ft tr : zOS) (la : Nat → zLS) (mo : zMS) (v : Int32) : (zW E KL kc on rw rd ft tr la mo).set 68 (E.1 68, .inr (11, ([.int (mo.1.1 0), .int (mo.1.1 1), .ref (E.1 69), .ref (E.1 70), .ref (E.1 71), .ref (E.1 72), .ref (E.1 73), .int (mo.1.1 7), .ref (E.1 74), .ref (E.1 75), .int (mo.1.1 10), .int (mo.1.1 11), .int (mo.1.1 12), .int (mo.1.1 13), .int (mo.1.1 14), .int (mo.1.1 15), .int (mo.1.1 16), .int (mo.1.1 17), .int (mo.1.1 18), .long mo.2, .int (mo.1.1 20), .int (mo.1.1 21), .ref (E.1 76), .ref (E.1 77), .ref (E.1 78), .ref (E.1 79), .ref (E.1 80), .ref (E.1 81), .ref (E.1 82), .ref (E.1 83), .int (mo.1.1 30)] : List Value).set 7 (.int v))) = zW E KL kc on rw rd ft tr la (zMi mo 7 v) := rfl
set_option maxRecDepth 20000 in
theorem zg_mo_8 (E : zE) (KL : List Nat) (kc : Nat → zKC) (on : zNS) (rw rd ft tr : zOS) (la : Nat → zLS) (mo : zMS) : (zW E KL kc on rw rd ft tr la mo)[74]? = some (E.1 74, .inl (E.2.1, 77, .inl (mo.1.2 8))) := rfl
set_option maxRecDepth 20000 in
theorem zs_mo_8 (E : zE) (KL : List Nat) (kc : Nat → zKC) (on : zNS) (rw rd ft tr : zOS) (la : Nat → zLS) (mo : zMS) (g : Nat → Int32) : (zW E KL kc on rw rd ft tr la mo).set 74 (E.1 74, .inl (E.2.1, 77, .inl g)) = zW E KL kc on rw rd ft tr la (zMA mo 8 g) := rfl
set_option maxRecDepth 20000 in
theorem zg_mo_9 (E : zE) (KL : List Nat) (kc : Nat → zKC) (on : zNS) (rw rd ft tr : zOS) (la : Nat → zLS) (mo : zMS) : (zW E KL kc on rw rd ft tr la mo)[75]? = some (E.1 75, .inl (E.2.1, 500, .inl (mo.1.2 9))) := rfl
set_option maxRecDepth 20000 in
theorem zs_mo_9 (E : zE) (KL : List Nat) (kc : Nat → zKC) (on : zNS) (rw rd ft tr : zOS) (la : Nat → zLS) (mo : zMS) (g : Nat → Int32) : (zW E KL kc on rw rd ft tr la mo).set 75 (E.1 75, .inl (E.2.1, 500, .inl g)) = zW E KL kc on rw rd ft tr la (zMA mo 9 g) := rfl
set_option maxRecDepth 20000 in
theorem zs_mo_10 (E : zE) (KL : List Nat) (kc : Nat → zKC) (on : zNS) (rw rd ft tr : zOS) (la : Nat → zLS) (mo : zMS) (v : Int32) : (zW E KL kc on rw rd ft tr la mo).set 68 (E.1 68, .inr (11, ([.int (mo.1.1 0), .int (mo.1.1 1), .ref (E.1 69), .ref (E.1 70), .ref (E.1 71), .ref (E.1 72), .ref (E.1 73), .int (mo.1.1 7), .ref (E.1 74), .ref (E.1 75), .int (mo.1.1 10), .int (mo.1.1 11), .int (mo.1.1 12), .int (mo.1.1 13), .int (mo.1.1 14), .int (mo.1.1 15), .int (mo.1.1 16), .int (mo.1.1 17), .int (mo.1.1 18), .long mo.2, .int (mo.1.1 20), .int (mo.1.1 21), .ref (E.1 76), .ref (E.1 77), .ref (E.1 78), .ref (E.1 79), .ref (E.1 80), .ref (E.1 81), .ref (E.1 82), .ref (E.1 83), .int (mo.1.1 30)] : List Value).set 10 (.int v))) = zW E KL kc on rw rd ft tr la (zMi mo 10 v) := rfl
set_option maxRecDepth 20000 in
theorem zs_mo_11 (E : zE) (KL : List Nat) (kc : Nat → zKC) (on : zNS) (rw rd ft tr : zOS) (la : Nat → zLS) (mo : zMS) (v : Int32) : (zW E KL kc on rw rd ft tr la mo).set 68 (E.1 68, .inr (11, ([.int (mo.1.1 0), .int (mo.1.1 1), .ref (E.1 69), .ref (E.1 70), .ref (E.1 71), .ref (E.1 72), .ref (E.1 73), .int (mo.1.1 7), .ref (E.1 74), .ref (E.1 75), .int (mo.1.1 10), .int (mo.1.1 11), .int (mo.1.1 12), .int (mo.1.1 13), .int (mo.1.1 14), .int (mo.1.1 15), .int (mo.1.1 16), .int (mo.1.1 17), .int (mo.1.1 18), .long mo.2, .int (mo.1.1 20), .int (mo.1.1 21), .ref (E.1 76), .ref (E.1 77), .ref (E.1 78), .ref (E.1 79), .ref (E.1 80), .ref (E.1 81), .ref (E.1 82), .ref (E.1 83), .int (mo.1.1 30)] : List Value).set 11 (.int v))) = zW E KL kc on rw rd ft tr la (zMi mo 11 v) := rfl
set_option maxRecDepth 20000 in
theorem zs_mo_12 (E : zE) (KL : List Nat) (kc : Nat → zKC) (on : zNS) (rw rd ft tr : zOS) (la : Nat → zLS) (mo : zMS) (v : Int32) : (zW E KL kc on rw rd ft tr la mo).set 68 (E.1 68, .inr (11, ([.int (mo.1.1 0), .int (mo.1.1 1), .ref (E.1 69), .ref (E.1 70), .ref (E.1 71), .ref (E.1 72), .ref (E.1 73), .int (mo.1.1 7), .ref (E.1 74), .ref (E.1 75), .int (mo.1.1 10), .int (mo.1.1 11), .int (mo.1.1 12), .int (mo.1.1 13), .int (mo.1.1 14), .int (mo.1.1 15), .int (mo.1.1 16), .int (mo.1.1 17), .int (mo.1.1 18), .long mo.2, .int (mo.1.1 20), .int (mo.1.1 21), .ref (E.1 76), .ref (E.1 77), .ref (E.1 78), .ref (E.1 79), .ref (E.1 80), .ref (E.1 81), .ref (E.1 82), .ref (E.1 83), .int (mo.1.1 30)] : List Value).set 12 (.int v))) = zW E KL kc on rw rd ft tr la (zMi mo 12 v) := rfl
set_option maxRecDepth 20000 in
theorem zs_mo_13 (E : zE) (KL : List Nat) (kc : Nat → zKC) (on : zNS) (rw rd ft tr : zOS) (la : Nat → zLS) (mo : zMS) (v : Int32) : (zW E KL kc on rw rd ft tr la mo).set 68 (E.1 68, .inr (11, ([.int (mo.1.1 0), .int (mo.1.1 1), .ref (E.1 69), .ref (E.1 70), .ref (E.1 71), .ref (E.1 72), .ref (E.1 73), .int (mo.1.1 7), .ref (E.1 74), .ref (E.1 75), .int (mo.1.1 10), .int (mo.1.1 11), .int (mo.1.1 12), .int (mo.1.1 13), .int (mo.1.1 14), .int (mo.1.1 15), .int (mo.1.1 16), .int (mo.1.1 17), .int (mo.1.1 18), .long mo.2, .int (mo.1.1 20), .int (mo.1.1 21), .ref (E.1 76), .ref (E.1 77), .ref (E.1 78), .ref (E.1 79), .ref (E.1 80), .ref (E.1 81), .ref (E.1 82), .ref (E.1 83), .int (mo.1.1 30)] : List Value).set 13 (.int v))) = zW E KL kc on rw rd ft tr la (zMi mo 13 v) := rfl
set_option maxRecDepth 20000 in
theorem zs_mo_14 (E : zE) (KL : List Nat) (kc : Nat → zKC) (on : zNS) (rw rd ft tr : zOS) (la : Nat → zLS) (mo : zMS) (v : Int32) : (zW E KL kc on rw rd ft tr la mo).set 68 (E.1 68, .inr (11, ([.int (mo.1.1 0), .int (mo.1.1 1), .ref (E.1 69), .ref (E.1 70), .ref (E.1 71), .ref (E.1 72), .ref (E.1 73), .int (mo.1.1 7), .ref (E.1 74), .ref (E.1 75), .int (mo.1.1 10), .int (mo.1.1 11), .int (mo.1.1 12), .int (mo.1.1 13), .int (mo.1.1 14), .int (mo.1.1 15), .int (mo.1.1 16), .int (mo.1.1 17), .int (mo.1.1 18), .long mo.2, .int (mo.1.1 20), .int (mo.1.1 21), .ref (E.1 76), .ref (E.1 77), .ref (E.1 78), .ref (E.1 79), .ref (E.1 80), .ref (E.1 81), .ref (E.1 82), .ref (E.1 83), .int (mo.1.1 30)] : List Value).set 14 (.int v))) = zW E KL kc on rw rd ft tr la (zMi mo 14 v) := rfl
set_option maxRecDepth 20000 in
theorem zs_mo_15 (E : zE) (KL : List Nat) (kc : Nat → zKC) (on : zNS) (rw rd ft tr : zOS) (la : Nat → zLS) (mo : zMS) (v : Int32) : (zW E KL kc on rw rd ft tr la mo).set 68 (E.1 68, .inr (11, ([.int (mo.1.1 0), .int (mo.1.1 1), .ref (E.1 69), .ref (E.1 70), .ref (E.1 71), .ref (E.1 72), .ref (E.1 73), .int (mo.1.1 7), .ref (E.1 74), .ref (E.1 75), .int (mo.1.1 10), .int (mo.1.1 11), .int (mo.1.1 12), .int (mo.1.1 13), .int (mo.1.1 14), .int (mo.1.1 15), .int (mo.1.1 16), .int (mo.1.1 17), .int (mo.1.1 18), .long mo.2, .int (mo.1.1 20), .int (mo.1.1 21), .ref (E.1 76), .ref (E.1 77), .ref (E.1 78), .ref (E.1 79), .ref (E.1 80), .ref (E.1 81), .ref (E.1 82), .ref (E.1 83), .int (mo.1.1 30)] : List Value).set 15 (.int v))) = zW E KL kc on rw rd ft tr la (zMi mo 15 v) := rfl
set_option maxRecDepth 20000 in
theorem zs_mo_16 (E : zE) (KL : List Nat) (kc : Nat → zKC) (on : zNS) (rw rd ft tr : zOS) (la : Nat → zLS) (mo : zMS) (v : Int32) : (zW E KL kc on rw rd ft tr la mo).set 68 (E.1 68, .inr (11, ([.int (mo.1.1 0), .int (mo.1.1 1), .ref (E.1 69), .ref (E.1 70), .ref (E.1 71), .ref (E.1 72), .ref (E.1 73), .int (mo.1.1 7), .ref (E.1 74), .ref (E.1 75), .int (mo.1.1 10), .int (mo.1.1 11), .int (mo.1.1 12), .int (mo.1.1 13), .int (mo.1.1 14), .int (mo.1.1 15), .int (mo.1.1 16), .int (mo.1.1 17), .int (mo.1.1 18), .long mo.2, .int (mo.1.1 20), .int (mo.1.1 21), .ref (E.1 76), .ref (E.1 77), .ref (E.1 78), .ref (E.1 79), .ref (E.1 80), .ref (E.1 81), .ref (E.1 82), .ref (E.1 83), .int (mo.1.1 30)] : List Value).set 16 (.int v))) = zW E KL kc on rw rd ft tr la (zMi mo 16 v) := rfl
set_option maxRecDepth 20000 in
theorem zs_mo_17 (E : zE) (KL : List Nat) (kc : Nat → zKC) (on : zNS) (rw rd ft tr : zOS) (la : Nat → zLS) (mo : zMS) (v : Int32) : (zW E KL kc on rw rd ft tr la mo).set 68 (E.1 68, .inr (11, ([.int (mo.1.1 0), .int (mo.1.1 1), .ref (E.1 69), .ref (E.1 70), .ref (E.1 71), .ref (E.1 72), .ref (E.1 73), .int (mo.1.1 7), .ref (E.1 74), .ref (E.1 75), .int (mo.1.1 10), .int (mo.1.1 11), .int (mo.1.1 12), .int (mo.1.1 13), .int (mo.1.1 14), .int (mo.1.1 15), .int (mo.1.1 16), .int (mo.1.1 17), .int (mo.1.1 18), .long mo.2, .int (mo.1.1 20), .int (mo.1.1 21), .ref (E.1 76), .ref (E.1 77), .ref (E.1 78), .ref (E.1 79), .ref (E.1 80), .ref (E.1 81), .ref (E.1 82), .ref (E.1 83), .int (mo.1.1 30)] : List Value).set 17 (.int v))) = zW E KL kc on rw rd ft tr la (zMi mo 17 v) := rfl
set_option maxRecDepth 20000 in
theorem zs_mo_18 (E : zE) (KL : List Nat) (kc : Nat → zKC) (on : zNS) (rw rd ft tr : zOS) (la : Nat → zLS) (mo : zMS) (v : Int32) : (zW E KL kc on rw rd ft tr la mo).set 68 (E.1 68, .inr (11, ([.int (mo.1.1 0), .int (mo.1.1 1), .ref (E.1 69), .ref (E.1 70), .ref (E.1 71), .ref (E.1 72), .ref (E.1 73), .int (mo.1.1 7), .ref (E.1 74), .ref (E.1 75), .int (mo.1.1 10), .int (mo.1.1 11), .int (mo.1.1 12), .int (mo.1.1 13), .int (mo.1.1 14), .int (mo.1.1 15), .int (mo.1.1 16), .int (mo.1.1 17), .int (mo.1.1 18), .long mo.2, .int (mo.1.1 20), .int (mo.1.1 21), .ref (E.1 76), .ref (E.1 77), .ref (E.1 78), .ref (E.1 79), .ref (E.1 80), .ref (E.1 81), .ref (E.1 82), .ref (E.1 83), .int (mo.1.1 30)] : List Value).set 18 (.int v))) = zW E KL kc on rw rd ft tr la (zMi mo 18 v) := rfl
set_option maxRecDepth 20000 in
theorem zs_mo_19 (E : zE) (KL : List Nat) (kc : Nat → zKC) (on : zNS) (rw rd ft tr : zOS) (la : Nat → zLS) (mo : zMS) (v : Int64) : (zW E KL kc on rw rd ft tr la mo).set 68 (E.1 68, .inr (11, ([.int (mo.1.1 0), .int (mo.1.1 1), .ref (E.1 69), .ref (E.1 70), .ref (E.1 71), .ref (E.1 72), .ref (E.1 73), .int (mo.1.1 7), .ref (E.1 74), .ref (E.1 75), .int (mo.1.1 10), .int (mo.1.1 11), .int (mo.1.1 12), .int (mo.1.1 13), .int (mo.1.1 14), .int (mo.1.1 15), .int (mo.1.1 16), .int (mo.1.1 17), .int (mo.1.1 18), .long mo.2, .int (mo.1.1 20), .int (mo.1.1 21), .ref (E.1 76), .ref (E.1 77), .ref (E.1 78), .ref (E.1 79), .ref (E.1 80), .ref (E.1 81), .ref (E.1 82), .ref (E.1 83), .int (mo.1.1 30)] : List Value).set 19 (.long v))) = zW E KL kc on rw rd ft tr la (zMd mo v) := rfl
set_option maxRecDepth 20000 in
theorem zs_mo_20 (E : zE) (KL : List Nat) (kc : Nat → zKC) (on : zNS) (rw rd ft tr : zOS) (la : Nat → zLS) (mo : zMS) (v : Int32) : (zW E KL kc on rw rd ft tr la mo).set 68 (E.1 68, .inr (11, ([.int (mo.1.1 0), .int (mo.1.1 1), .ref (E.1 69), .ref (E.1 70), .ref (E.1 71), .ref (E.1 72), .ref (E.1 73), .int (mo.1.1 7), .ref (E.1 74), .ref (E.1 75), .int (mo.1.1 10), .int (mo.1.1 11), .int (mo.1.1 12), .int (mo.1.1 13), .int (mo.1.1 14), .int (mo.1.1 15), .int (mo.1.1 16), .int (mo.1.1 17), .int (mo.1.1 18), .long mo.2, .int (mo.1.1 20), .int (mo.1.1 21), .ref (E.1 76), .ref (E.1 77), .ref (E.1 78), .ref (E.1 79), .ref (E.1 80), .ref (E.1 81), .ref (E.1 82), .ref (E.1 83), .int (mo.1.1 30)] : List Value).set 20 (.int v))) = zW E KL kc on rw rd ft tr la (zMi mo 20 v) := rfl
set_option maxRecDepth 20000 in
theorem zs_mo_21 (E : zE) (KL : List Nat) (kc : Nat → zKC) (on : zNS) (rw rd ft tr : zOS) (la : Nat → zLS) (mo : zMS) (v : Int32) : (zW E KL kc on rw rd ft tr la mo).set 68 (E.1 68, .inr (11, ([.int (mo.1.1 0), .int (mo.1.1 1), .ref (E.1 69), .ref (E.1 70), .ref (E.1 71), .ref (E.1 72), .ref (E.1 73), .int (mo.1.1 7), .ref (E.1 74), .ref (E.1 75), .int (mo.1.1 10), .int (mo.1.1 11), .int (mo.1.1 12), .int (mo.1.1 13), .int (mo.1.1 14), .int (mo.1.1 15), .int (mo.1.1 16), .int (mo.1.1 17), .int (mo.1.1 18), .long mo.2, .int (mo.1.1 20), .int (mo.1.1 21), .ref (E.1 76), .ref (E.1 77), .ref (E.1 78), .ref (E.1 79), .ref (E.1 80), .ref (E.1 81), .ref (E.1 82), .ref (E.1 83), .int (mo.1.1 30)] : List Value).set 21 (.int v))) = zW E KL kc on rw rd ft tr la (zMi mo 21 v) := rfl
set_option maxRecDepth 20000 in
theorem zg_mo_22 (E : zE) (KL : List Nat) (kc : Nat → zKC) (on : zNS) (rw rd ft tr : zOS) (la : Nat → zLS) (mo : zMS) : (zW E KL kc on rw rd ft tr la mo)[76]? = some (E.1 76, .inl (E.2.1, 6, .inl (mo.1.2 22))) := rfl
set_option maxRecDepth 20000 in
theorem zs_mo_22 (E : zE) (KL : List Nat) (kc : Nat → zKC) (on : zNS) (rw rd ft tr : zOS) (la : Nat → zLS) (mo : zMS) (g : Nat → Int32) : (zW E KL kc on rw rd ft tr la mo).set 76 (E.1 76, .inl (E.2.1, 6, .inl g)) = zW E KL kc on rw rd ft tr la (zMA mo 22 g) := rfl
set_option maxRecDepth 20000 in
theorem zg_mo_23 (E : zE) (KL : List Nat) (kc : Nat → zKC) (on : zNS) (rw rd ft tr : zOS) (la : Nat → zLS) (mo : zMS) : (zW E KL kc on rw rd ft tr la mo)[77]? = some (E.1 77, .inl (E.2.1, 6, .inl (mo.1.2 23))) := rfl
set_option maxRecDepth 20000 in
theorem zs_mo_23 (E : zE) (KL : List Nat) (kc : Nat → zKC) (on : zNS) (rw rd ft tr : zOS) (la : Nat → zLS) (mo : zMS) (g : Nat → Int32) : (zW E KL kc on rw rd ft tr la mo).set 77 (E.1 77, .inl (E.2.1, 6, .inl g)) = zW E KL kc on rw rd ft tr la (zMA mo 23 g) := rfl
set_option maxRecDepth 20000 in
theorem zg_mo_24 (E : zE) (KL : List Nat) (kc : Nat → zKC) (on : zNS) (rw rd ft tr : zOS) (la : Nat → zLS) (mo : zMS) : (zW E KL kc on rw rd ft tr la mo)[78]? = some (E.1 78, .inl (E.2.1, 6, .inl (mo.1.2 24))) := rfl
set_option maxRecDepth 20000 in
theorem zs_mo_24 (E : zE) (KL : List Nat) (kc : Nat → zKC) (on : zNS) (rw rd ft tr : zOS) (la : Nat → zLS) (mo : zMS) (g : Nat → Int32) : (zW E KL kc on rw rd ft tr la mo).set 78 (E.1 78, .inl (E.2.1, 6, .inl g)) = zW E KL kc on rw rd ft tr la (zMA mo 24 g) := rfl
set_option maxRecDepth 20000 in
theorem zg_mo_25 (E : zE) (KL : List Nat) (kc : Nat → zKC) (on : zNS) (rw rd ft tr : zOS) (la : Nat → zLS) (mo : zMS) : (zW E KL kc on rw rd ft tr la mo)[79]? = some (E.1 79, .inl (E.2.1, 77, .inl (mo.1.2 25))) := rfl
set_option maxRecDepth 20000 in
theorem zs_mo_25 (E : zE) (KL : List Nat) (kc : Nat → zKC) (on : zNS) (rw rd ft tr : zOS) (la : Nat → zLS) (mo : zMS) (g : Nat → Int32) : (zW E KL kc on rw rd ft tr la mo).set 79 (E.1 79, .inl (E.2.1, 77, .inl g)) = zW E KL kc on rw rd ft tr la (zMA mo 25 g) := rfl
set_option maxRecDepth 20000 in
theorem zg_mo_26 (E : zE) (KL : List Nat) (kc : Nat → zKC) (on : zNS) (rw rd ft tr : zOS) (la : Nat → zLS) (mo : zMS) : (zW E KL kc on rw rd ft tr la mo)[80]? = some (E.1 80, .inl (E.2.2.2.1, 2, .inl (mo.1.2 26))) := rfl
set_option maxRecDepth 20000 in
theorem zs_mo_26 (E : zE) (KL : List Nat) (kc : Nat → zKC) (on : zNS) (rw rd ft tr : zOS) (la : Nat → zLS) (mo : zMS) (g : Nat → Int32) : (zW E KL kc on rw rd ft tr la mo).set 80 (E.1 80, .inl (E.2.2.2.1, 2, .inl g)) = zW E KL kc on rw rd ft tr la (zMA mo 26 g) := rfl
set_option maxRecDepth 20000 in
theorem zg_mo_27 (E : zE) (KL : List Nat) (kc : Nat → zKC) (on : zNS) (rw rd ft tr : zOS) (la : Nat → zLS) (mo : zMS) : (zW E KL kc on rw rd ft tr la mo)[81]? = some (E.1 81, .inl (E.2.1, 116, .inl (mo.1.2 27))) := rfl
set_option maxRecDepth 20000 in
theorem zs_mo_27 (E : zE) (KL : List Nat) (kc : Nat → zKC) (on : zNS) (rw rd ft tr : zOS) (la : Nat → zLS) (mo : zMS) (g : Nat → Int32) : (zW E KL kc on rw rd ft tr la mo).set 81 (E.1 81, .inl (E.2.1, 116, .inl g)) = zW E KL kc on rw rd ft tr la (zMA mo 27 g) := rfl
set_option maxRecDepth 20000 in
theorem zg_mo_28 (E : zE) (KL : List Nat) (kc : Nat → zKC) (on : zNS) (rw rd ft tr : zOS) (la : Nat → zLS) (mo : zMS) : (zW E KL kc on rw rd ft tr la mo)[82]? = some (E.1 82, .inl (E.2.1, 154, .inl (mo.1.2 28))) := rfl
set_option maxRecDepth 20000 in
theorem zs_mo_28 (E : zE) (KL : List Nat) (kc : Nat → zKC) (on : zNS) (rw rd ft tr : zOS) (la : Nat → zLS) (mo : zMS) (g : Nat → Int32) : (zW E KL kc on rw rd ft tr la mo).set 82 (E.1 82, .inl (E.2.1, 154, .inl g)) = zW E KL kc on rw rd ft tr la (zMA mo 28 g) := rfl
set_option maxRecDepth 20000 in
theorem zg_mo_29 (E : zE) (KL : List Nat) (kc : Nat → zKC) (on : zNS) (rw rd ft tr : zOS) (la : Nat → zLS) (mo : zMS) : (zW E KL kc on rw rd ft tr la mo)[83]? = some (E.1 83, .inl (E.2.1, 16, .inl (mo.1.2 29))) := rfl
set_option maxRecDepth 20000 in
theorem zs_mo_29 (E : zE) (KL : List Nat) (kc : Nat → zKC) (on : zNS) (rw rd ft tr : zOS) (la : Nat → zLS) (mo : zMS) (g : Nat → Int32) : (zW E KL kc on rw rd ft tr la mo).set 83 (E.1 83, .inl (E.2.1, 16, .inl g)) = zW E KL kc on rw rd ft tr la (zMA mo 29 g) := rfl
set_option maxRecDepth 20000 in
theorem zs_mo_30 (E : zE) (KL : List Nat) (kc : Nat → zKC) (on : zNS) (rw rd ft tr : zOS) (la : Nat → zLS) (mo : zMS) (v : Int32) : (zW E KL kc on rw rd ft tr la mo).set 68 (E.1 68, .inr (11, ([.int (mo.1.1 0), .int (mo.1.1 1), .ref (E.1 69), .ref (E.1 70), .ref (E.1 71), .ref (E.1 72), .ref (E.1 73), .int (mo.1.1 7), .ref (E.1 74), .ref (E.1 75), .int (mo.1.1 10), .int (mo.1.1 11), .int (mo.1.1 12), .int (mo.1.1 13), .int (mo.1.1 14), .int (mo.1.1 15), .int (mo.1.1 16), .int (mo.1.1 17), .int (mo.1.1 18), .long mo.2, .int (mo.1.1 20), .int (mo.1.1 21), .ref (E.1 76), .ref (E.1 77), .ref (E.1 78), .ref (E.1 79), .ref (E.1 80), .ref (E.1 81), .ref (E.1 82), .ref (E.1 83), .int (mo.1.1 30)] : List Value).set 30 (.int v))) = zW E KL kc on rw rd ft tr la (zMi mo 30 v) := rfl
set_option maxRecDepth 20000 in
theorem zg_L (E : zE) (KL : List Nat) (kc : Nat → zKC) (on : zNS) (rw rd ft tr : zOS) (la : Nat → zLS) (mo : zMS) {j : Nat} (hj : j < 5) (L : zLS) : (zW E KL kc on rw rd ft tr (va_up la j L) mo)[13 + 11 * j]? = some (E.1 (13 + 11 * j), .inr (3, [.int (L.1.1 0), .int (L.1.1 1), .int (L.1.1 2), .int (L.1.1 3), .int (L.1.1 4), .int (L.1.1 5), .int (L.1.1 6), .int (L.1.1 7), .int (L.1.1 8), .ref (E.1 (13 + 11 * j + 1)), .ref (E.1 (13 + 11 * j + 2)), .ref (E.1 (13 + 11 * j + 3)), .ref (E.1 (13 + 11 * j + 4)), .ref (E.1 (13 + 11 * j + 5)), .ref (E.1 (13 + 11 * j + 6)), .ref (E.1 (13 + 11 * j + 7)), .ref (E.1 (13 + 11 * j + 8)), .ref (E.1 (13 + 11 * j + 9)), .ref (E.1 (13 + 11 * j + 10))])) := by
  rcases (show j = 0 ∨ j = 1 ∨ j = 2 ∨ j = 3 ∨ j = 4 by omega) with rfl | rfl | rfl | rfl | rfl <;> rfl
set_option maxRecDepth 20000 in
theorem zs_L_0 (E : zE) (KL : List Nat) (kc : Nat → zKC) (on : zNS) (rw rd ft tr : zOS) (la : Nat → zLS) (mo : zMS) {j : Nat} (hj : j < 5) (L : zLS) (v : Int32) : (zW E KL kc on rw rd ft tr (va_up la j L) mo).set (13 + 11 * j) (E.1 (13 + 11 * j), .inr (3, ([.int (L.1.1 0), .int (L.1.1 1), .int (L.1.1 2), .int (L.1.1 3), .int (L.1.1 4), .int (L.1.1 5), .int (L.1.1 6), .int (L.1.1 7), .int (L.1.1 8), .ref (E.1 (13 + 11 * j + 1)), .ref (E.1 (13 + 11 * j + 2)), .ref (E.1 (13 + 11 * j + 3)), .ref (E.1 (13 + 11 * j + 4)), .ref (E.1 (13 + 11 * j + 5)), .ref (E.1 (13 + 11 * j + 6)), .ref (E.1 (13 + 11 * j + 7)), .ref (E.1 (13 + 11 * j + 8)), .ref (E.1 (13 + 11 * j + 9)), .ref (E.1 (13 + 11 * j + 10))] : List Value).set 0 (.int v))) = zW E KL kc on rw rd ft tr (va_up la j (zLi L 0 v)) mo := by
  rcases (show j = 0 ∨ j = 1 ∨ j = 2 ∨ j = 3 ∨ j = 4 by omega) with rfl | rfl | rfl | rfl | rfl <;> rfl
set_option maxRecDepth 20000 in
theorem zs_L_1 (E : zE) (KL : List Nat) (kc : Nat → zKC) (on : zNS) (rw rd ft tr : zOS) (la : Nat → zLS) (mo : zMS) {j : Nat} (hj : j < 5) (L : zLS) (v : Int32) : (zW E KL kc on rw rd ft tr (va_up la j L) mo).set (13 + 11 * j) (E.1 (13 + 11 * j), .inr (3, ([.int (L.1.1 0), .int (L.1.1 1), .int (L.1.1 2), .int (L.1.1 3), .int (L.1.1 4), .int (L.1.1 5), .int (L.1.1 6), .int (L.1.1 7), .int (L.1.1 8), .ref (E.1 (13 + 11 * j + 1)), .ref (E.1 (13 + 11 * j + 2)), .ref (E.1 (13 + 11 * j + 3)), .ref (E.1 (13 + 11 * j + 4)), .ref (E.1 (13 + 11 * j + 5)), .ref (E.1 (13 + 11 * j + 6)), .ref (E.1 (13 + 11 * j + 7)), .ref (E.1 (13 + 11 * j + 8)), .ref (E.1 (13 + 11 * j + 9)), .ref (E.1 (13 + 11 * j + 10))] : List Value).set 1 (.int v))) = zW E KL kc on rw rd ft tr (va_up la j (zLi L 1 v)) mo := by
  rcases (show j = 0 ∨ j = 1 ∨ j = 2 ∨ j = 3 ∨ j = 4 by omega) with rfl | rfl | rfl | rfl | rfl <;> rfl
set_option maxRecDepth 20000 in
theorem zs_L_2 (E : zE) (KL : List Nat) (kc : Nat → zKC) (on : zNS) (rw rd ft tr : zOS) (la : Nat → zLS) (mo : zMS) {j : Nat} (hj : j < 5) (L : zLS) (v : Int32) : (zW E KL kc on rw rd ft tr (va_up la j L) mo).set (13 + 11 * j) (E.1 (13 + 11 * j), .inr (3, ([.int (L.1.1 0), .int (L.1.1 1), .int (L.1.1 2), .int (L.1.1 3), .int (L.1.1 4), .int (L.1.1 5), .int (L.1.1 6), .int (L.1.1 7), .int (L.1.1 8), .ref (E.1 (13 + 11 * j + 1)), .ref (E.1 (13 + 11 * j + 2)), .ref (E.1 (13 + 11 * j + 3)), .ref (E.1 (13 + 11 * j + 4)), .ref (E.1 (13 + 11 * j + 5)), .ref (E.1 (13 + 11 * j + 6)), .ref (E.1 (13 + 11 * j + 7)), .ref (E.1 (13 + 11 * j + 8)), .ref (E.1 (13 + 11 * j + 9)), .ref (E.1 (13 + 11 * j + 10))] : List Value).set 2 (.int v))) = zW E KL kc on rw rd ft tr (va_up la j (zLi L 2 v)) mo := by
  rcases (show j = 0 ∨ j = 1 ∨ j = 2 ∨ j = 3 ∨ j = 4 by omega) with rfl | rfl | rfl | rfl | rfl <;> rfl
set_option maxRecDepth 20000 in
theorem zs_L_3 (E : zE) (KL : List Nat) (kc : Nat → zKC) (on : zNS) (rw rd ft tr : zOS) (la : Nat → zLS) (mo : zMS) {j : Nat} (hj : j < 5) (L : zLS) (v : Int32) : (zW E KL kc on rw rd ft tr (va_up la j L) mo).set (13 + 11 * j) (E.1 (13 + 11 * j), .inr (3, ([.int (L.1.1 0), .int (L.1.1 1), .int (L.1.1 2), .int (L.1.1 3), .int (L.1.1 4), .int (L.1.1 5), .int (L.1.1 6), .int (L.1.1 7), .int (L.1.1 8), .ref (E.1 (13 + 11 * j + 1)), .ref (E.1 (13 + 11 * j + 2)), .ref (E.1 (13 + 11 * j + 3)), .ref (E.1 (13 + 11 * j + 4)), .ref (E.1 (13 + 11 * j + 5)), .ref (E.1 (13 + 11 * j + 6)), .ref (E.1 (13 + 11 * j + 7)), .ref (E.1 (13 + 11 * j + 8)), .ref (E.1 (13 + 11 * j + 9)), .ref (E.1 (13 + 11 * j + 10))] : List Value).set 3 (.int v))) = zW E KL kc on rw rd ft tr (va_up la j (zLi L 3 v)) mo := by
  rcases (show j = 0 ∨ j = 1 ∨ j = 2 ∨ j = 3 ∨ j = 4 by omega) with rfl | rfl | rfl | rfl | rfl <;> rfl
set_option maxRecDepth 20000 in
theorem zs_L_4 (E : zE) (KL : List Nat) (kc : Nat → zKC) (on : zNS) (rw rd ft tr : zOS) (la : Nat → zLS) (mo : zMS) {j : Nat} (hj : j < 5) (L : zLS) (v : Int32) : (zW E KL kc on rw rd ft tr (va_up la j L) mo).set (13 + 11 * j) (E.1 (13 + 11 * j), .inr (3, ([.int (L.1.1 0), .int (L.1.1 1), .int (L.1.1 2), .int (L.1.1 3), .int (L.1.1 4), .int (L.1.1 5), .int (L.1.1 6), .int (L.1.1 7), .int (L.1.1 8), .ref (E.1 (13 + 11 * j + 1)), .ref (E.1 (13 + 11 * j + 2)), .ref (E.1 (13 + 11 * j + 3)), .ref (E.1 (13 + 11 * j + 4)), .ref (E.1 (13 + 11 * j + 5)), .ref (E.1 (13 + 11 * j + 6)), .ref (E.1 (13 + 11 * j + 7)), .ref (E.1 (13 + 11 * j + 8)), .ref (E.1 (13 + 11 * j + 9)), .ref (E.1 (13 + 11 * j + 10))] : List Value).set 4 (.int v))) = zW E KL kc on rw rd ft tr (va_up la j (zLi L 4 v)) mo := by
  rcases (show j = 0 ∨ j = 1 ∨ j = 2 ∨ j = 3 ∨ j = 4 by omega) with rfl | rfl | rfl | rfl | rfl <;> rfl
set_option maxRecDepth 20000 in
theorem zs_L_5 (E : zE) (KL : List Nat) (kc : Nat → zKC) (on : zNS) (rw rd ft tr : zOS) (la : Nat → zLS) (mo : zMS) {j : Nat} (hj : j < 5) (L : zLS) (v : Int32) : (zW E KL kc on rw rd ft tr (va_up la j L) mo).set (13 + 11 * j) (E.1 (13 + 11 * j), .inr (3, ([.int (L.1.1 0), .int (L.1.1 1), .int (L.1.1 2), .int (L.1.1 3), .int (L.1.1 4), .int (L.1.1 5), .int (L.1.1 6), .int (L.1.1 7), .int (L.1.1 8), .ref (E.1 (13 + 11 * j + 1)), .ref (E.1 (13 + 11 * j + 2)), .ref (E.1 (13 + 11 * j + 3)), .ref (E.1 (13 + 11 * j + 4)), .ref (E.1 (13 + 11 * j + 5)), .ref (E.1 (13 + 11 * j + 6)), .ref (E.1 (13 + 11 * j + 7)), .ref (E.1 (13 + 11 * j + 8)), .ref (E.1 (13 + 11 * j + 9)), .ref (E.1 (13 + 11 * j + 10))] : List Value).set 5 (.int v))) = zW E KL kc on rw rd ft tr (va_up la j (zLi L 5 v)) mo := by
  rcases (show j = 0 ∨ j = 1 ∨ j = 2 ∨ j = 3 ∨ j = 4 by omega) with rfl | rfl | rfl | rfl | rfl <;> rfl
set_option maxRecDepth 20000 in
theorem zs_L_6 (E : zE) (KL : List Nat) (kc : Nat → zKC) (on : zNS) (rw rd ft tr : zOS) (la : Nat → zLS) (mo : zMS) {j : Nat} (hj : j < 5) (L : zLS) (v : Int32) : (zW E KL kc on rw rd ft tr (va_up la j L) mo).set (13 + 11 * j) (E.1 (13 + 11 * j), .inr (3, ([.int (L.1.1 0), .int (L.1.1 1), .int (L.1.1 2), .int (L.1.1 3), .int (L.1.1 4), .int (L.1.1 5), .int (L.1.1 6), .int (L.1.1 7), .int (L.1.1 8), .ref (E.1 (13 + 11 * j + 1)), .ref (E.1 (13 + 11 * j + 2)), .ref (E.1 (13 + 11 * j + 3)), .ref (E.1 (13 + 11 * j + 4)), .ref (E.1 (13 + 11 * j + 5)), .ref (E.1 (13 + 11 * j + 6)), .ref (E.1 (13 + 11 * j + 7)), .ref (E.1 (13 + 11 * j + 8)), .ref (E.1 (13 + 11 * j + 9)), .ref (E.1 (13 + 11 * j + 10))] : List Value).set 6 (.int v))) = zW E KL kc on rw rd ft tr (va_up la j (zLi L 6 v)) mo := by
  rcases (show j = 0 ∨ j = 1 ∨ j = 2 ∨ j = 3 ∨ j = 4 by omega) with rfl | rfl | rfl | rfl | rfl <;> rfl
set_option maxRecDepth 20000 in
theorem zs_L_7 (E : zE) (KL : List Nat) (kc : Nat → zKC) (on : zNS) (rw rd ft tr : zOS) (la : Nat → zLS) (mo : zMS) {j : Nat} (hj : j < 5) (L : zLS) (v : Int32) : (zW E KL kc on rw rd ft tr (va_up la j L) mo).set (13 + 11 * j) (E.1 (13 + 11 * j), .inr (3, ([.int (L.1.1 0), .int (L.1.1 1), .int (L.1.1 2), .int (L.1.1 3), .int (L.1.1 4), .int (L.1.1 5), .int (L.1.1 6), .int (L.1.1 7), .int (L.1.1 8), .ref (E.1 (13 + 11 * j + 1)), .ref (E.1 (13 + 11 * j + 2)), .ref (E.1 (13 + 11 * j + 3)), .ref (E.1 (13 + 11 * j + 4)), .ref (E.1 (13 + 11 * j + 5)), .ref (E.1 (13 + 11 * j + 6)), .ref (E.1 (13 + 11 * j + 7)), .ref (E.1 (13 + 11 * j + 8)), .ref (E.1 (13 + 11 * j + 9)), .ref (E.1 (13 + 11 * j + 10))] : List Value).set 7 (.int v))) = zW E KL kc on rw rd ft tr (va_up la j (zLi L 7 v)) mo := by
  rcases (show j = 0 ∨ j = 1 ∨ j = 2 ∨ j = 3 ∨ j = 4 by omega) with rfl | rfl | rfl | rfl | rfl <;> rfl
set_option maxRecDepth 20000 in
theorem zs_L_8 (E : zE) (KL : List Nat) (kc : Nat → zKC) (on : zNS) (rw rd ft tr : zOS) (la : Nat → zLS) (mo : zMS) {j : Nat} (hj : j < 5) (L : zLS) (v : Int32) : (zW E KL kc on rw rd ft tr (va_up la j L) mo).set (13 + 11 * j) (E.1 (13 + 11 * j), .inr (3, ([.int (L.1.1 0), .int (L.1.1 1), .int (L.1.1 2), .int (L.1.1 3), .int (L.1.1 4), .int (L.1.1 5), .int (L.1.1 6), .int (L.1.1 7), .int (L.1.1 8), .ref (E.1 (13 + 11 * j + 1)), .ref (E.1 (13 + 11 * j + 2)), .ref (E.1 (13 + 11 * j + 3)), .ref (E.1 (13 + 11 * j + 4)), .ref (E.1 (13 + 11 * j + 5)), .ref (E.1 (13 + 11 * j + 6)), .ref (E.1 (13 + 11 * j + 7)), .ref (E.1 (13 + 11 * j + 8)), .ref (E.1 (13 + 11 * j + 9)), .ref (E.1 (13 + 11 * j + 10))] : List Value).set 8 (.int v))) = zW E KL kc on rw rd ft tr (va_up la j (zLi L 8 v)) mo := by
  rcases (show j = 0 ∨ j = 1 ∨ j = 2 ∨ j = 3 ∨ j = 4 by omega) with rfl | rfl | rfl | rfl | rfl <;> rfl
set_option maxRecDepth 20000 in
theorem zg_L_9 (E : zE) (KL : List Nat) (kc : Nat → zKC) (on : zNS) (rw rd ft tr : zOS) (la : Nat → zLS) (mo : zMS) {j : Nat} (hj : j < 5) (L : zLS) : (zW E KL kc on rw rd ft tr (va_up la j L) mo)[13 + 11 * j + 1]? = some (E.1 (13 + 11 * j + 1), .inl (E.2.1, 8, .inl (L.1.2 9))) := by
  rcases (show j = 0 ∨ j = 1 ∨ j = 2 ∨ j = 3 ∨ j = 4 by omega) with rfl | rfl | rfl | rfl | rfl <;> rfl
set_option maxRecDepth 20000 in
theorem zs_L_9 (E : zE) (KL : List Nat) (kc : Nat → zKC) (on : zNS) (rw rd ft tr : zOS) (la : Nat → zLS) (mo : zMS) {j : Nat} (hj : j < 5) (L : zLS) (g : Nat → Int32) : (zW E KL kc on rw rd ft tr (va_up la j L) mo).set (13 + 11 * j + 1) (E.1 (13 + 11 * j + 1), .inl (E.2.1, 8, .inl g)) = zW E KL kc on rw rd ft tr (va_up la j (zLA L 9 g)) mo := by
  rcases (show j = 0 ∨ j = 1 ∨ j = 2 ∨ j = 3 ∨ j = 4 by omega) with rfl | rfl | rfl | rfl | rfl <;> rfl
set_option maxRecDepth 20000 in
theorem zg_L_10 (E : zE) (KL : List Nat) (kc : Nat → zKC) (on : zNS) (rw rd ft tr : zOS) (la : Nat → zLS) (mo : zMS) {j : Nat} (hj : j < 5) (L : zLS) : (zW E KL kc on rw rd ft tr (va_up la j L) mo)[13 + 11 * j + 2]? = some (E.1 (13 + 11 * j + 2), .inl (E.2.1, 8, .inl (L.1.2 10))) := by
  rcases (show j = 0 ∨ j = 1 ∨ j = 2 ∨ j = 3 ∨ j = 4 by omega) with rfl | rfl | rfl | rfl | rfl <;> rfl
set_option maxRecDepth 20000 in
theorem zs_L_10 (E : zE) (KL : List Nat) (kc : Nat → zKC) (on : zNS) (rw rd ft tr : zOS) (la : Nat → zLS) (mo : zMS) {j : Nat} (hj : j < 5) (L : zLS) (g : Nat → Int32) : (zW E KL kc on rw rd ft tr (va_up la j L) mo).set (13 + 11 * j + 2) (E.1 (13 + 11 * j + 2), .inl (E.2.1, 8, .inl g)) = zW E KL kc on rw rd ft tr (va_up la j (zLA L 10 g)) mo := by
  rcases (show j = 0 ∨ j = 1 ∨ j = 2 ∨ j = 3 ∨ j = 4 by omega) with rfl | rfl | rfl | rfl | rfl <;> rfl
set_option maxRecDepth 20000 in
theorem zg_L_11 (E : zE) (KL : List Nat) (kc : Nat → zKC) (on : zNS) (rw rd ft tr : zOS) (la : Nat → zLS) (mo : zMS) {j : Nat} (hj : j < 5) (L : zLS) : (zW E KL kc on rw rd ft tr (va_up la j L) mo)[13 + 11 * j + 3]? = some (E.1 (13 + 11 * j + 3), .inl (E.2.2.2.2.1, 6, .inr (.inr (.inr (.inr L.2))))) := by
  rcases (show j = 0 ∨ j = 1 ∨ j = 2 ∨ j = 3 ∨ j = 4 by omega) with rfl | rfl | rfl | rfl | rfl <;> rfl
set_option maxRecDepth 20000 in
theorem zs_L_11 (E : zE) (KL : List Nat) (kc : Nat → zKC) (on : zNS) (rw rd ft tr : zOS) (la : Nat → zLS) (mo : zMS) {j : Nat} (hj : j < 5) (L : zLS) (g : Nat → Option Nat) : (zW E KL kc on rw rd ft tr (va_up la j L) mo).set (13 + 11 * j + 3) (E.1 (13 + 11 * j + 3), .inl (E.2.2.2.2.1, 6, .inr (.inr (.inr (.inr g))))) = zW E KL kc on rw rd ft tr (va_up la j (zLw L g)) mo := by
  rcases (show j = 0 ∨ j = 1 ∨ j = 2 ∨ j = 3 ∨ j = 4 by omega) with rfl | rfl | rfl | rfl | rfl <;> rfl
set_option maxRecDepth 20000 in
theorem zg_L_12 (E : zE) (KL : List Nat) (kc : Nat → zKC) (on : zNS) (rw rd ft tr : zOS) (la : Nat → zLS) (mo : zMS) {j : Nat} (hj : j < 5) (L : zLS) : (zW E KL kc on rw rd ft tr (va_up la j L) mo)[13 + 11 * j + 4]? = some (E.1 (13 + 11 * j + 4), .inl (E.2.1, 8, .inl (L.1.2 12))) := by
  rcases (show j = 0 ∨ j = 1 ∨ j = 2 ∨ j = 3 ∨ j = 4 by omega) with rfl | rfl | rfl | rfl | rfl <;> rfl
set_option maxRecDepth 20000 in
theorem zs_L_12 (E : zE) (KL : List Nat) (kc : Nat → zKC) (on : zNS) (rw rd ft tr : zOS) (la : Nat → zLS) (mo : zMS) {j : Nat} (hj : j < 5) (L : zLS) (g : Nat → Int32) : (zW E KL kc on rw rd ft tr (va_up la j L) mo).set (13 + 11 * j + 4) (E.1 (13 + 11 * j + 4), .inl (E.2.1, 8, .inl g)) = zW E KL kc on rw rd ft tr (va_up la j (zLA L 12 g)) mo := by
  rcases (show j = 0 ∨ j = 1 ∨ j = 2 ∨ j = 3 ∨ j = 4 by omega) with rfl | rfl | rfl | rfl | rfl <;> rfl
set_option maxRecDepth 20000 in
theorem zg_L_13 (E : zE) (KL : List Nat) (kc : Nat → zKC) (on : zNS) (rw rd ft tr : zOS) (la : Nat → zLS) (mo : zMS) {j : Nat} (hj : j < 5) (L : zLS) : (zW E KL kc on rw rd ft tr (va_up la j L) mo)[13 + 11 * j + 5]? = some (E.1 (13 + 11 * j + 5), .inl (E.2.1, 8, .inl (L.1.2 13))) := by
  rcases (show j = 0 ∨ j = 1 ∨ j = 2 ∨ j = 3 ∨ j = 4 by omega) with rfl | rfl | rfl | rfl | rfl <;> rfl
set_option maxRecDepth 20000 in
theorem zs_L_13 (E : zE) (KL : List Nat) (kc : Nat → zKC) (on : zNS) (rw rd ft tr : zOS) (la : Nat → zLS) (mo : zMS) {j : Nat} (hj : j < 5) (L : zLS) (g : Nat → Int32) : (zW E KL kc on rw rd ft tr (va_up la j L) mo).set (13 + 11 * j + 5) (E.1 (13 + 11 * j + 5), .inl (E.2.1, 8, .inl g)) = zW E KL kc on rw rd ft tr (va_up la j (zLA L 13 g)) mo := by
  rcases (show j = 0 ∨ j = 1 ∨ j = 2 ∨ j = 3 ∨ j = 4 by omega) with rfl | rfl | rfl | rfl | rfl <;> rfl
set_option maxRecDepth 20000 in
theorem zg_L_14 (E : zE) (KL : List Nat) (kc : Nat → zKC) (on : zNS) (rw rd ft tr : zOS) (la : Nat → zLS) (mo : zMS) {j : Nat} (hj : j < 5) (L : zLS) : (zW E KL kc on rw rd ft tr (va_up la j L) mo)[13 + 11 * j + 6]? = some (E.1 (13 + 11 * j + 6), .inl (E.2.1, 48, .inl (L.1.2 14))) := by
  rcases (show j = 0 ∨ j = 1 ∨ j = 2 ∨ j = 3 ∨ j = 4 by omega) with rfl | rfl | rfl | rfl | rfl <;> rfl
set_option maxRecDepth 20000 in
theorem zs_L_14 (E : zE) (KL : List Nat) (kc : Nat → zKC) (on : zNS) (rw rd ft tr : zOS) (la : Nat → zLS) (mo : zMS) {j : Nat} (hj : j < 5) (L : zLS) (g : Nat → Int32) : (zW E KL kc on rw rd ft tr (va_up la j L) mo).set (13 + 11 * j + 6) (E.1 (13 + 11 * j + 6), .inl (E.2.1, 48, .inl g)) = zW E KL kc on rw rd ft tr (va_up la j (zLA L 14 g)) mo := by
  rcases (show j = 0 ∨ j = 1 ∨ j = 2 ∨ j = 3 ∨ j = 4 by omega) with rfl | rfl | rfl | rfl | rfl <;> rfl
set_option maxRecDepth 20000 in
theorem zg_L_15 (E : zE) (KL : List Nat) (kc : Nat → zKC) (on : zNS) (rw rd ft tr : zOS) (la : Nat → zLS) (mo : zMS) {j : Nat} (hj : j < 5) (L : zLS) : (zW E KL kc on rw rd ft tr (va_up la j L) mo)[13 + 11 * j + 7]? = some (E.1 (13 + 11 * j + 7), .inl (E.2.1, 6, .inl (L.1.2 15))) := by
  rcases (show j = 0 ∨ j = 1 ∨ j = 2 ∨ j = 3 ∨ j = 4 by omega) with rfl | rfl | rfl | rfl | rfl <;> rfl
set_option maxRecDepth 20000 in
theorem zs_L_15 (E : zE) (KL : List Nat) (kc : Nat → zKC) (on : zNS) (rw rd ft tr : zOS) (la : Nat → zLS) (mo : zMS) {j : Nat} (hj : j < 5) (L : zLS) (g : Nat → Int32) : (zW E KL kc on rw rd ft tr (va_up la j L) mo).set (13 + 11 * j + 7) (E.1 (13 + 11 * j + 7), .inl (E.2.1, 6, .inl g)) = zW E KL kc on rw rd ft tr (va_up la j (zLA L 15 g)) mo := by
  rcases (show j = 0 ∨ j = 1 ∨ j = 2 ∨ j = 3 ∨ j = 4 by omega) with rfl | rfl | rfl | rfl | rfl <;> rfl
set_option maxRecDepth 20000 in
theorem zg_L_16 (E : zE) (KL : List Nat) (kc : Nat → zKC) (on : zNS) (rw rd ft tr : zOS) (la : Nat → zLS) (mo : zMS) {j : Nat} (hj : j < 5) (L : zLS) : (zW E KL kc on rw rd ft tr (va_up la j L) mo)[13 + 11 * j + 8]? = some (E.1 (13 + 11 * j + 8), .inl (E.2.1, 6, .inl (L.1.2 16))) := by
  rcases (show j = 0 ∨ j = 1 ∨ j = 2 ∨ j = 3 ∨ j = 4 by omega) with rfl | rfl | rfl | rfl | rfl <;> rfl
set_option maxRecDepth 20000 in
theorem zs_L_16 (E : zE) (KL : List Nat) (kc : Nat → zKC) (on : zNS) (rw rd ft tr : zOS) (la : Nat → zLS) (mo : zMS) {j : Nat} (hj : j < 5) (L : zLS) (g : Nat → Int32) : (zW E KL kc on rw rd ft tr (va_up la j L) mo).set (13 + 11 * j + 8) (E.1 (13 + 11 * j + 8), .inl (E.2.1, 6, .inl g)) = zW E KL kc on rw rd ft tr (va_up la j (zLA L 16 g)) mo := by
  rcases (show j = 0 ∨ j = 1 ∨ j = 2 ∨ j = 3 ∨ j = 4 by omega) with rfl | rfl | rfl | rfl | rfl <;> rfl
set_option maxRecDepth 20000 in
theorem zg_L_17 (E : zE) (KL : List Nat) (kc : Nat → zKC) (on : zNS) (rw rd ft tr : zOS) (la : Nat → zLS) (mo : zMS) {j : Nat} (hj : j < 5) (L : zLS) : (zW E KL kc on rw rd ft tr (va_up la j L) mo)[13 + 11 * j + 9]? = some (E.1 (13 + 11 * j + 9), .inl (E.2.1, 8, .inl (L.1.2 17))) := by
  rcases (show j = 0 ∨ j = 1 ∨ j = 2 ∨ j = 3 ∨ j = 4 by omega) with rfl | rfl | rfl | rfl | rfl <;> rfl
set_option maxRecDepth 20000 in
theorem zs_L_17 (E : zE) (KL : List Nat) (kc : Nat → zKC) (on : zNS) (rw rd ft tr : zOS) (la : Nat → zLS) (mo : zMS) {j : Nat} (hj : j < 5) (L : zLS) (g : Nat → Int32) : (zW E KL kc on rw rd ft tr (va_up la j L) mo).set (13 + 11 * j + 9) (E.1 (13 + 11 * j + 9), .inl (E.2.1, 8, .inl g)) = zW E KL kc on rw rd ft tr (va_up la j (zLA L 17 g)) mo := by
  rcases (show j = 0 ∨ j = 1 ∨ j = 2 ∨ j = 3 ∨ j = 4 by omega) with rfl | rfl | rfl | rfl | rfl <;> rfl
set_option maxRecDepth 20000 in
theorem zg_L_18 (E : zE) (KL : List Nat) (kc : Nat → zKC) (on : zNS) (rw rd ft tr : zOS) (la : Nat → zLS) (mo : zMS) {j : Nat} (hj : j < 5) (L : zLS) : (zW E KL kc on rw rd ft tr (va_up la j L) mo)[13 + 11 * j + 10]? = some (E.1 (13 + 11 * j + 10), .inl (E.2.1, 8, .inl (L.1.2 18))) := by
  rcases (show j = 0 ∨ j = 1 ∨ j = 2 ∨ j = 3 ∨ j = 4 by omega) with rfl | rfl | rfl | rfl | rfl <;> rfl
set_option maxRecDepth 20000 in
theorem zs_L_18 (E : zE) (KL : List Nat) (kc : Nat → zKC) (on : zNS) (rw rd ft tr : zOS) (la : Nat → zLS) (mo : zMS) {j : Nat} (hj : j < 5) (L : zLS) (g : Nat → Int32) : (zW E KL kc on rw rd ft tr (va_up la j L) mo).set (13 + 11 * j + 10) (E.1 (13 + 11 * j + 10), .inl (E.2.1, 8, .inl g)) = zW E KL kc on rw rd ft tr (va_up la j (zLA L 18 g)) mo := by
  rcases (show j = 0 ∨ j = 1 ∨ j = 2 ∨ j = 3 ∨ j = 4 by omega) with rfl | rfl | rfl | rfl | rfl <;> rfl
theorem zg_K (E : zE) (KL : List Nat) (kc : Nat → zKC) (on : zNS) (rw rd ft tr : zOS) (la : Nat → zLS) (mo : zMS) {a i : Nat} (ha : a ∈ KL) (hi : (kc a).1 = i) : ∃ q : Nat, (zW E KL kc on rw rd ft tr la mo)[q]? = some (a, .inr (i, [.int (kc a).2.1, .int (kc a).2.2.1, .int (kc a).2.2.2])) := by
  obtain ⟨q, hq⟩ := va_pl_get (X := zX E on rw rd ft tr la mo) (f := zkf kc) ha
  exact ⟨q, by rw [show zW E KL kc on rw rd ft tr la mo = zX E on rw rd ft tr la mo ++ va_pl KL (zkf kc) from rfl, hq, zkf, hi]⟩
theorem zup_self (la : Nat → zLS) (j : Nat) : va_up la j (la j) = la := by
  funext i
  by_cases h : i = j
  · rw [h]; simp [va_up]
  · simp [va_up, h]
theorem zup_up (la : Nat → zLS) (j : Nat) (L M : zLS) : va_up (va_up la j L) j M = va_up la j M := by
  funext i
  by_cases h : i = j <;> simp [va_up, h]
theorem zup_comm (la : Nat → zLS) {i j : Nat} (h : i ≠ j) (L M : zLS) : va_up (va_up la i L) j M = va_up (va_up la j M) i L := by
  funext k
  by_cases h1 : k = i
  · have h2 : ¬ k = j := fun e => h (h1.symm.trans e)
    simp [va_up, h1, h]
  · simp [va_up, h1]
theorem zgd {c : Prop} [Decidable c] {α : Type} {x : Option α} {o : α} (h : (if c then none else x) = some o) : ¬ c ∧ x = some o := by
  by_cases hc : c
  · rw [if_pos hc] at h; cases h
  · rw [if_neg hc] at h; exact ⟨hc, h⟩
theorem zinl {α β γ : Type} {A : α → γ} {B : β → γ} {v : α} {x : γ} (h : Sum.elim A B (.inl v) = x) : A v = x := h
theorem zinr {α β γ : Type} {A : α → γ} {B : β → γ} {v : β} {x : γ} (h : Sum.elim A B (.inr v) = x) : B v = x := h
abbrev zkd (KL : List Nat) (kc : Nat → zKC) (a : Nat) : Prop := a ∈ KL ∧ ((kc a).1 = 0 ∨ (kc a).1 = 1 ∨ (kc a).1 = 4 ∨ (kc a).1 = 7 ∨ (kc a).1 = 9)
theorem znarZ {v : Int32} (h : ¬ ¬ (v = 0 ∨ v = 1)) : narrow .boolean (.int v) = .int v := by
  rcases Decidable.not_not.mp h with rfl | rfl <;> rfl
def zfl (f : Nat → Int32) (i j : Nat) (v : Int32) : Nat → Int32 := fun k => if i ≤ k ∧ k < j then v else f k
theorem zbd {α β : Type} {x : Option α} {f : α → Option β} {o : β} (h : x.bind f = some o) : ∃ a, x = some a ∧ f a = some o := Option.bind_eq_some_iff.mp h
theorem zit {c : Prop} [Decidable c] {α : Type} {x y : Option α} {o : α} (hc : c) (h : (if c then x else y) = some o) : x = some o := (if_pos hc).symm.trans h
theorem zif {c : Prop} [Decidable c] {α : Type} {x y : Option α} {o : α} (hc : ¬ c) (h : (if c then x else y) = some o) : y = some o := (if_neg hc).symm.trans h
theorem znone {α : Type} {o : α} {G : Prop} (h : (none : Option α) = some o) : G := by cases h
/-- the text constants of the class, the two statics that the library reads -/
def zsl : List Nat := [3, 5, 3, 5, 5, 6, 4, 3, 3, 5, 6, 6]
def zsi : List Nat := [50, 56, 64, 76, 86, 97, 113, 128, 130, 132, 134, 136]
def zst : List String := ["law", "fresh", "old", "worth", "chest", "keeper", "news", "now", "age", "watch", "copies", "silent"]
def zsb : List (List Int32) := [[108, 97, 119], [102, 114, 101, 115, 104], [111, 108, 100], [119, 111, 114, 116, 104], [99, 104, 101, 115, 116], [107, 101, 101, 112, 101, 114], [110, 101, 119, 115], [110, 111, 119], [97, 103, 101], [119, 97, 116, 99, 104], [99, 111, 112, 105, 101, 115], [115, 105, 108, 101, 110, 116]]
/-- what the tables say of the keepers' classes -/
def zNl : List (String × Nat × MethodName) := [(RX6, 141, yX11_within), (RX11, 18, yX6_init), (RX11, 25, yX2_init), (RX11, 32, yX9_init), (RX11, 39, yX4_init), (RX2, 11, yX4_init)]
def zCa (U : State) : Prop := (∀ C ∈ [RX0, RX1, RX5, RX8, RX10], va_Nw (.castable C RX3) U) ∧ va_Nw (.castable RX1 RX0) U ∧ va_Nw (.castable RX10 RX0) U ∧ va_Nc RX5 RX0 U ∧ va_Nc RX8 RX0 U ∧ va_Nw (.declares ⟨"OldNews$Keeper", "sells", "(LOldNews$Land;I)Z"⟩) U ∧ va_Nw (.declares ⟨"OldNews$Keeper", "kindTold", "()I"⟩) U ∧ ∀ q ∈ zNl, va_Nw (.methodLinkNest q.1 q.2.1 q.2.2 "OldNews") U
theorem zCa.warm {u U : State} (hW : u.WarmedH U.vm) (h : zCa u) : zCa U := ⟨fun C hC => (h.1 C hC).warmC hW, h.2.1.warmC hW, h.2.2.1.warmC hW, h.2.2.2.1.moved hW.alike, h.2.2.2.2.1.moved hW.alike, h.2.2.2.2.2.1.warmD hW, h.2.2.2.2.2.2.1.warmD hW, fun q hq => (h.2.2.2.2.2.2.2 q hq).warmM hW⟩
theorem zCa.same {u U : State} (hv : U.vm = u.vm) (h : zCa u) : zCa U := ⟨fun C hC => (h.1 C hC).same rfl hv.symm, h.2.1.same rfl hv.symm, h.2.2.1.same rfl hv.symm, h.2.2.2.1.moved (hv ▸ Vm.Alike.refl u.vm), h.2.2.2.2.1.moved (hv ▸ Vm.Alike.refl u.vm), h.2.2.2.2.2.1.same rfl hv.symm, h.2.2.2.2.2.2.1.same rfl hv.symm, fun q hq => (h.2.2.2.2.2.2.2 q hq).same rfl hv.symm⟩
def zSt (E : zE) (A : Nat → Prop) (U : State) (H : Heap) : Prop := vk_S 12 zsl zsb E.2.2.2.2.2.1 E.2.2.2.2.2.2 A U H ∧ va_Z "java/lang/String" "COMPACT_STRINGS" "Z" (.int 1) A U H ∧ va_Zq "jdk/internal/util/Preconditions" "SIOOBE_FORMATTER" "Ljava/util/function/BiFunction;" A U H ∧ (∀ i : Nat, i < 12 → vk_R RX6 (zsi.getD i 0) (zst.getD i "") (E.2.2.2.2.2.1 i) U) ∧ zCa U
theorem zSt.narrow {E : zE} {A B : Nat → Prop} {U : State} {H : Heap} (h : zSt E A U H) (hAB : ∀ q, B q → A q) : zSt E B U H := ⟨h.1.narrow hAB, h.2.1.narrow hAB, h.2.2.1.narrow hAB, h.2.2.2⟩
theorem zSt.kept {E : zE} {A : Nat → Prop} {U : State} {H H1 : Heap} (h : zSt E A U H) (hq : ∀ a : Nat, a < H.size → ¬ A a → H1[a]? = H[a]?) : zSt E A U H1 := ⟨h.1.kept hq, h.2.1.kept hq, h.2.2.1.kept hq, h.2.2.2⟩
theorem zSt.same {E : zE} {A : Nat → Prop} {u U : State} {H : Heap} (hv : U.vm = u.vm) (h : zSt E A u H) : zSt E A U H := ⟨h.1.moved (hv ▸ Vm.Alike.refl u.vm), h.2.1.moved (hv ▸ Vm.Alike.refl u.vm), h.2.2.1.moved (hv ▸ Vm.Alike.refl u.vm), fun i hi => (h.2.2.2.1 i hi).same hv, h.2.2.2.2.same hv⟩
theorem zSt.warm {E : zE} {A : Nat → Prop} {u U : State} {H : Heap} (hW : u.WarmedH U.vm) (h : zSt E A u H) : zSt E A U H := ⟨h.1.moved hW.alike, h.2.1.moved hW.alike, h.2.2.1.moved hW.alike, fun i hi => (h.2.2.2.1 i hi).warm hW, h.2.2.2.2.warm hW⟩
/-- the world holds, at addresses apart and of a kind -/
def zOK (D : va_G) (E : zE) (A : Nat → Prop) (w : va_W) (U : State) : Prop := va_P D vwCl w U.heap ∧ va_K D vwCl (zty E) U ∧ va_D A w
def zPre (D : va_G) (E : zE) (sz : Nat) (w : va_W) (U : State) : Prop := U.heap.size = sz ∧ va_P D vwCl w U.heap ∧ va_K D vwCl (zty E) U ∧ va_D (fun _ => True) w ∧ zSt E (va_A w sz) U U.heap
def zCi (l : Launch) (y : MethodName) (ws : List Cond) (rm : Room) (av : List Value) (D : va_G) (E : zE) (sz : Nat) (w w' : va_W) (r : Int32) (mc ms : Nat) : Prop :=
  Met l y ws rm (va_Pc av (zPre D E sz w)) (va_Qi (fun (x : Int32) (_ : Unit) => x = r) (fun _ t => zOK D E (va_A w sz) w' t) (va_A w sz)) mc ms (va_A w sz)
def zCl (l : Launch) (y : MethodName) (ws : List Cond) (rm : Room) (av : List Value) (D : va_G) (E : zE) (sz : Nat) (w w' : va_W) (r : Int64) (mc ms : Nat) : Prop :=
  Met l y ws rm (va_Pc av (zPre D E sz w)) (va_Ql (fun (x : Int64) (_ : Unit) => x = r) (fun _ t => zOK D E (va_A w sz) w' t) (va_A w sz)) mc ms (va_A w sz)
def zCv (l : Launch) (y : MethodName) (ws : List Cond) (rm : Room) (av : List Value) (D : va_G) (E : zE) (sz : Nat) (w w' : va_W) (mc ms : Nat) : Prop :=
  Met l y ws rm (va_Pc av (zPre D E sz w)) (va_Qv (fun (_ : Unit) => True) (fun _ t => zOK D E (va_A w sz) w' t) (va_A w sz)) mc ms (va_A w sz)
def zCq (l : Launch) (y : MethodName) (ws : List Cond) (rm : Room) (av : List Value) (D : va_G) (E : zE) (sz : Nat) (w w' : va_W) (r : Option Nat) (mc ms : Nat) : Prop :=
  Met l y ws rm (va_Pc av (zPre D E sz w)) (va_Qq (fun (x : Option Nat) (_ : Unit) => x = r) (fun _ t => zOK D E (va_A w sz) w' t) (va_A w sz)) mc ms (va_A w sz)
theorem zfree {A0 : Nat → Prop} {w : va_W} {H0 H : Heap} {locs : List Loc} (hD : va_D A0 w) (hS : va_S A0 H0 H locs) (hA : ∀ q : Nat, H0.size ≤ q → A0 q) : ∀ q, va_A w H.size q → A0 q := by
  intro q h
  rcases h with ⟨k, e, h⟩ | h
  · exact hD.2 k _ h
  · exact hA q (Nat.le_trans hS.1 h)
theorem zblind {av : List Value} {D : va_G} {E : zE} {sz : Nat} {w : va_W} : FrameBlind (va_Pc av (zPre D E sz w)) := by
  intro a U g mk q
  obtain ⟨q0, q1, qP, qK, qD, qS⟩ := q
  exact ⟨q0, q1, qP, va_K.moved (u := U) (U := U.calling g mk a) (Vm.Alike.refl U.vm) qK, qD, zSt.same (u := U) (U := U.calling g mk a) rfl qS⟩
theorem zpre {s : State} {H : Heap} {locs : List Loc} {D : va_G} {E : zE} {w : va_W} {A : Nat → Prop} (hE : zSt E A s s.heap) (hS : va_S A s.heap H locs) (hA : ∀ q : Nat, s.heap.size ≤ q → A q) (hK : va_K D vwCl (zty E) s) (hP : va_P D vwCl w H) (hD : va_D A w) (U : State) (hU : U.heap = H) (hW : s.WarmedH U.vm) : zPre D E H.size w U := by
  refine ⟨by rw [hU], by rw [hU]; exact hP, va_K.moved hW.alike hK, hD.weaken (fun _ _ _ _ => trivial), ?_⟩
  rw [hU]
  exact ((hE.kept hS.2.1).narrow (zfree hD hS hA)).warm hW
theorem zpv {s : State} {H : Heap} {locs : List Loc} {C : String} {b : Addr} {As : List Value} {D : va_G} {E : zE} {w : va_W} {A : Nat → Prop} (hE : zSt E A s s.heap) (hS : va_S A s.heap H locs) (hA : ∀ q : Nat, s.heap.size ≤ q → A q) (hK : va_K D vwCl (zty E) s) (hP : va_P D vwCl w H) (hD : va_D A w) (hr : ∃ cell : Cell, H[b]? = some cell ∧ cell.vm.isStatics = false ∧ s.vm.findClass C = some cell.cls) :
    PreV s H C b (va_Pc (.ref b :: As) (zPre D E H.size w)) As :=
  ⟨zblind, hr, fun U hU hW => ⟨rfl, zpre hE hS hA hK hP hD U hU hW⟩⟩
theorem zps {s : State} {H : Heap} {locs : List Loc} {As : List Value} {D : va_G} {E : zE} {w : va_W} {A : Nat → Prop} (hE : zSt E A s s.heap) (hS : va_S A s.heap H locs) (hA : ∀ q : Nat, s.heap.size ≤ q → A q) (hK : va_K D vwCl (zty E) s) (hP : va_P D vwCl w H) (hD : va_D A w) :
    PreS s H (va_Pc As (zPre D E H.size w)) As :=
  ⟨zblind, fun U hU hW => ⟨rfl, zpre hE hS hA hK hP hD U hU hW⟩⟩
theorem zcall_i {p : Program} {l : Launch} {e : Env} {R : Room} {s : State} {m : MethodId} {args : Array Value} {below : List Frame} {meth : Method} {c : Code} {H : Heap} {locs : List Loc} {cells slots : Nat} {Q : State → Prop} {mc ms pc : Nat} {ls : Array Slot} {st0 rest : List Value} {D : va_G} {E : zE} {w w' : va_W} {A : Nat → Prop} {H0 : Heap} {r : Int32} {a : Array Value}
    (hr : va_Run p l e R s m args below meth c H locs cells slots mc ms (F0 m pc ls st0) rest (va_Qi (fun (x : Int32) (_ : Unit) => x = r) (fun _ t => zOK D E (va_A w H.size) w' t) (va_A w H.size) a) (va_A w H.size)) (hD : va_D A w) (hS : va_S A H0 H locs) (hA : ∀ q : Nat, H0.size ≤ q → A q)
    (kk : ∀ (H1 : Heap) (locs1 : List Loc), va_P D vwCl w' H1 → va_D A w' → va_S A H0 H1 locs1 → W p l e R s m args below meth c H1 locs1 (cells + mc) (slots + ms) Q (F0 m (pc + 3) ls (.int r :: rest))) : W p l e R s m args below meth c H locs cells slots Q (F0 m pc ls st0) := by
  have hF := zfree hD hS hA
  refine va_calli hr hS (fun q _ h => hF q h) hF (fun x u t H1 locs ht hvm hw hB hz1 hk1 hS => ?_)
  obtain ⟨hP1, hK1, hD1⟩ := hB
  rw [ht] at hP1
  subst hw
  exact kk H1 locs hP1 (hD1.weaken (fun _ q _ h => hF q.1 h)) hS
theorem zcall_l {p : Program} {l : Launch} {e : Env} {R : Room} {s : State} {m : MethodId} {args : Array Value} {below : List Frame} {meth : Method} {c : Code} {H : Heap} {locs : List Loc} {cells slots : Nat} {Q : State → Prop} {mc ms pc : Nat} {ls : Array Slot} {st0 rest : List Value} {D : va_G} {E : zE} {w w' : va_W} {A : Nat → Prop} {H0 : Heap} {r : Int64} {a : Array Value}
    (hr : va_Run p l e R s m args below meth c H locs cells slots mc ms (F0 m pc ls st0) rest (va_Ql (fun (x : Int64) (_ : Unit) => x = r) (fun _ t => zOK D E (va_A w H.size) w' t) (va_A w H.size) a) (va_A w H.size)) (hD : va_D A w) (hS : va_S A H0 H locs) (hA : ∀ q : Nat, H0.size ≤ q → A q)
    (kk : ∀ (H1 : Heap) (locs1 : List Loc), va_P D vwCl w' H1 → va_D A w' → va_S A H0 H1 locs1 → W p l e R s m args below meth c H1 locs1 (cells + mc) (slots + ms) Q (F0 m (pc + 3) ls (.long r :: rest))) : W p l e R s m args below meth c H locs cells slots Q (F0 m pc ls st0) := by
  have hF := zfree hD hS hA
  refine va_calll hr hS (fun q _ h => hF q h) hF (fun x u t H1 locs ht hvm hw hB hz1 hk1 hS => ?_)
  obtain ⟨hP1, hK1, hD1⟩ := hB
  rw [ht] at hP1
  subst hw
  exact kk H1 locs hP1 (hD1.weaken (fun _ q _ h => hF q.1 h)) hS
theorem zcall_v {p : Program} {l : Launch} {e : Env} {R : Room} {s : State} {m : MethodId} {args : Array Value} {below : List Frame} {meth : Method} {c : Code} {H : Heap} {locs : List Loc} {cells slots : Nat} {Q : State → Prop} {mc ms pc : Nat} {ls : Array Slot} {st0 rest : List Value} {D : va_G} {E : zE} {w w' : va_W} {A : Nat → Prop} {H0 : Heap} {a : Array Value}
    (hr : va_Run p l e R s m args below meth c H locs cells slots mc ms (F0 m pc ls st0) rest (va_Qv (fun (_ : Unit) => True) (fun _ t => zOK D E (va_A w H.size) w' t) (va_A w H.size) a) (va_A w H.size)) (hD : va_D A w) (hS : va_S A H0 H locs) (hA : ∀ q : Nat, H0.size ≤ q → A q)
    (kk : ∀ (H1 : Heap) (locs1 : List Loc), va_P D vwCl w' H1 → va_D A w' → va_S A H0 H1 locs1 → W p l e R s m args below meth c H1 locs1 (cells + mc) (slots + ms) Q (F0 m (pc + 3) ls (rest))) : W p l e R s m args below meth c H locs cells slots Q (F0 m pc ls st0) := by
  have hF := zfree hD hS hA
  refine va_callv hr hS (fun q _ h => hF q h) hF (fun u t H1 locs ht hvm hw hB hz1 hk1 hS => ?_)
  obtain ⟨hP1, hK1, hD1⟩ := hB
  rw [ht] at hP1
  exact kk H1 locs hP1 (hD1.weaken (fun _ q _ h => hF q.1 h)) hS
theorem zcall_q {p : Program} {l : Launch} {e : Env} {R : Room} {s : State} {m : MethodId} {args : Array Value} {below : List Frame} {meth : Method} {c : Code} {H : Heap} {locs : List Loc} {cells slots : Nat} {Q : State → Prop} {mc ms pc : Nat} {ls : Array Slot} {st0 rest : List Value} {D : va_G} {E : zE} {w w' : va_W} {A : Nat → Prop} {H0 : Heap} {r : Option Nat} {a : Array Value}
    (hr : va_Run p l e R s m args below meth c H locs cells slots mc ms (F0 m pc ls st0) rest (va_Qq (fun (x : Option Nat) (_ : Unit) => x = r) (fun _ t => zOK D E (va_A w H.size) w' t) (va_A w H.size) a) (va_A w H.size)) (hD : va_D A w) (hS : va_S A H0 H locs) (hA : ∀ q : Nat, H0.size ≤ q → A q)
    (kk : ∀ (H1 : Heap) (locs1 : List Loc), va_P D vwCl w' H1 → va_D A w' → va_S A H0 H1 locs1 → W p l e R s m args below meth c H1 locs1 (cells + mc) (slots + ms) Q (F0 m (pc + 3) ls (va_rf r :: rest))) : W p l e R s m args below meth c H locs cells slots Q (F0 m pc ls st0) := by
  have hF := zfree hD hS hA
  refine va_callq hr hS (fun q _ h => hF q h) hF (fun x u t H1 locs ht hvm hw hB hz1 hk1 hS => ?_)
  obtain ⟨hP1, hK1, hD1⟩ := hB
  rw [ht] at hP1
  subst hw
  exact kk H1 locs hP1 (hD1.weaken (fun _ q _ h => hF q.1 h)) hS
theorem zent_i {l : Launch} {y : MethodName} {ws ws' : List Cond} {rm : Room} {av : List Value} {D : va_G} {E : zE} {sz : Nat} {w w' : va_W} {r : Int32} {mc ms : Nat} {cc : ByteArray} {nL : Nat} (hy : plainName y.cls = true) (hw : ws = Cond.code y cc nL (some .int) :: ws') (hav : (lg_sl av).length ≤ nL)
    (k : ∀ (p : Program) (e : Env) (s : State) (m : MethodId) (args : Array Value) (below : List Frame) (meth : Method) (c : Code) (Q : State → Prop) (A : Nat → Prop), p.tables.exec = Jvm.exec → c.code = cc → c.maxLocals = nL → s.vm.findClass y.cls = some m.cls → (∀ w ∈ ws, w.before args s = true) → (∀ q : Nat, s.heap.size ≤ q → A q) → va_K D vwCl (zty E) s → va_P D vwCl w s.heap → va_D A w → va_S A s.heap s.heap [] → zSt E A s s.heap → ∀ ls : Array Slot, lv_has ls nL (lv_args 0 av) →
      (∀ (H : Heap) (locs : List Loc) (ls : Array Slot) (pc : Nat), va_P D vwCl w' H → va_D A w' → va_S A s.heap H locs → decode cc pc = .ok (.ireturn, 1) → W p l e rm s m args below meth c H locs mc ms Q (F0 m pc ls [.int r])) → W p l e rm s m args below meth c s.heap [] 0 0 Q (F0 m 0 ls [])) : zCi l y ws rm av D E sz w w' r mc ms := by
  refine Met.ofW (cc := cc) (maxL := nL) (ret := some .int) hy hw ?_
  intro p e s m args below meth c s₁ B hml hv
  obtain ⟨rfl, hsz, hP, hK, hD0, hE⟩ := hv
  have hx := B.exec
  have hb := B.bytes
  have hr := B.returns
  have hts := atoms_spec (ws := ws) B.pre
  have hown : s.vm.findClass y.cls = some m.cls := findClass_of_methodNamed B.named
  have hlocks := B.notSynchronized
  subst hsz
  have hD := hD0.self (sz := s.heap.size)
  have hl := lv_entry av (n := nL) hav
  rw [lg_entry_eq]
  generalize (lg_sl av ++ List.replicate (nL - (lg_sl av).length) Slot.unset).toArray = ls at hl ⊢
  refine k p e s m av.toArray below meth c _ (va_A w s.heap.size) hx hb hml hown hts (fun q h => Or.inr h) hK hP hD va_S.rf hE ls hl ?_
  intro H locs ls pc hP hD hS hd
  exact W.iret (v := r) hx hb hr (fun t ht hW => ⟨⟨r, (), rfl, rfl, by rw [ht]; exact hP, va_K.moved hW.alike hK, hD⟩, hS.F ht⟩) hS.2.2 hd
theorem zent_z {l : Launch} {y : MethodName} {ws ws' : List Cond} {rm : Room} {av : List Value} {D : va_G} {E : zE} {sz : Nat} {w w' : va_W} {r : Int32} {mc ms : Nat} {cc : ByteArray} {nL : Nat} (hy : plainName y.cls = true) (hw : ws = Cond.code y cc nL (some .boolean) :: ws') (hav : (lg_sl av).length ≤ nL)
    (k : ∀ (p : Program) (e : Env) (s : State) (m : MethodId) (args : Array Value) (below : List Frame) (meth : Method) (c : Code) (Q : State → Prop) (A : Nat → Prop), p.tables.exec = Jvm.exec → c.code = cc → c.maxLocals = nL → s.vm.findClass y.cls = some m.cls → (∀ w ∈ ws, w.before args s = true) → (∀ q : Nat, s.heap.size ≤ q → A q) → va_K D vwCl (zty E) s → va_P D vwCl w s.heap → va_D A w → va_S A s.heap s.heap [] → zSt E A s s.heap → ∀ ls : Array Slot, lv_has ls nL (lv_args 0 av) →
      (∀ (H : Heap) (locs : List Loc) (ls : Array Slot) (pc : Nat), narrow .boolean (.int r) = .int r → va_P D vwCl w' H → va_D A w' → va_S A s.heap H locs → decode cc pc = .ok (.ireturn, 1) → W p l e rm s m args below meth c H locs mc ms Q (F0 m pc ls [.int r])) → W p l e rm s m args below meth c s.heap [] 0 0 Q (F0 m 0 ls [])) : zCi l y ws rm av D E sz w w' r mc ms := by
  refine Met.ofW (cc := cc) (maxL := nL) (ret := some .boolean) hy hw ?_
  intro p e s m args below meth c s₁ B hml hv
  obtain ⟨rfl, hsz, hP, hK, hD0, hE⟩ := hv
  have hx := B.exec
  have hb := B.bytes
  have hr := B.returns
  have hts := atoms_spec (ws := ws) B.pre
  have hown : s.vm.findClass y.cls = some m.cls := findClass_of_methodNamed B.named
  have hlocks := B.notSynchronized
  subst hsz
  have hD := hD0.self (sz := s.heap.size)
  have hl := lv_entry av (n := nL) hav
  rw [lg_entry_eq]
  generalize (lg_sl av ++ List.replicate (nL - (lg_sl av).length) Slot.unset).toArray = ls at hl ⊢
  refine k p e s m av.toArray below meth c _ (va_A w s.heap.size) hx hb hml hown hts (fun q h => Or.inr h) hK hP hD va_S.rf hE ls hl ?_
  intro H locs ls pc hz hP hD hS hd
  exact W.zret (v := r) hx hb hr hz (fun t ht hW => ⟨⟨r, (), rfl, rfl, by rw [ht]; exact hP, va_K.moved hW.alike hK, hD⟩, hS.F ht⟩) hS.2.2 hd
theorem zent_l {l : Launch} {y : MethodName} {ws ws' : List Cond} {rm : Room} {av : List Value} {D : va_G} {E : zE} {sz : Nat} {w w' : va_W} {r : Int64} {mc ms : Nat} {cc : ByteArray} {nL : Nat} (hy : plainName y.cls = true) (hw : ws = Cond.code y cc nL (some .long) :: ws') (hav : (lg_sl av).length ≤ nL)
    (k : ∀ (p : Program) (e : Env) (s : State) (m : MethodId) (args : Array Value) (below : List Frame) (meth : Method) (c : Code) (Q : State → Prop) (A : Nat → Prop), p.tables.exec = Jvm.exec → c.code = cc → c.maxLocals = nL → s.vm.findClass y.cls = some m.cls → (∀ w ∈ ws, w.before args s = true) → (∀ q : Nat, s.heap.size ≤ q → A q) → va_K D vwCl (zty E) s → va_P D vwCl w s.heap → va_D A w → va_S A s.heap s.heap [] → zSt E A s s.heap → ∀ ls : Array Slot, lv_has ls nL (lv_args 0 av) →
      (∀ (H : Heap) (locs : List Loc) (ls : Array Slot) (pc : Nat), va_P D vwCl w' H → va_D A w' → va_S A s.heap H locs → decode cc pc = .ok (.lreturn, 1) → W p l e rm s m args below meth c H locs mc ms Q (F0 m pc ls [.long r])) → W p l e rm s m args below meth c s.heap [] 0 0 Q (F0 m 0 ls [])) : zCl l y ws rm av D E sz w w' r mc ms := by
  refine Met.ofW (cc := cc) (maxL := nL) (ret := some .long) hy hw ?_
  intro p e s m args below meth c s₁ B hml hv
  obtain ⟨rfl, hsz, hP, hK, hD0, hE⟩ := hv
  have hx := B.exec
  have hb := B.bytes
  have hr := B.returns
  have hts := atoms_spec (ws := ws) B.pre
  have hown : s.vm.findClass y.cls = some m.cls := findClass_of_methodNamed B.named
  have hlocks := B.notSynchronized
  subst hsz
  have hD := hD0.self (sz := s.heap.size)
  have hl := lv_entry av (n := nL) hav
  rw [lg_entry_eq]
  generalize (lg_sl av ++ List.replicate (nL - (lg_sl av).length) Slot.unset).toArray = ls at hl ⊢
  refine k p e s m av.toArray below meth c _ (va_A w s.heap.size) hx hb hml hown hts (fun q h => Or.inr h) hK hP hD va_S.rf hE ls hl ?_
  intro H locs ls pc hP hD hS hd
  exact W.lret (v := r) hx hb hr (fun t ht hW => ⟨⟨r, (), rfl, rfl, by rw [ht]; exact hP, va_K.moved hW.alike hK, hD⟩, hS.F ht⟩) hS.2.2 hd
theorem zent_v {l : Launch} {y : MethodName} {ws ws' : List Cond} {rm : Room} {av : List Value} {D : va_G} {E : zE} {sz : Nat} {w w' : va_W} {mc ms : Nat} {cc : ByteArray} {nL : Nat} (hy : plainName y.cls = true) (hw : ws = Cond.code y cc nL (none) :: ws') (hav : (lg_sl av).length ≤ nL)
    (k : ∀ (p : Program) (e : Env) (s : State) (m : MethodId) (args : Array Value) (below : List Frame) (meth : Method) (c : Code) (Q : State → Prop) (A : Nat → Prop), p.tables.exec = Jvm.exec → c.code = cc → c.maxLocals = nL → s.vm.findClass y.cls = some m.cls → (∀ w ∈ ws, w.before args s = true) → (∀ q : Nat, s.heap.size ≤ q → A q) → va_K D vwCl (zty E) s → va_P D vwCl w s.heap → va_D A w → va_S A s.heap s.heap [] → zSt E A s s.heap → ∀ ls : Array Slot, lv_has ls nL (lv_args 0 av) →
      (∀ (H : Heap) (locs : List Loc) (ls : Array Slot) (pc : Nat), va_P D vwCl w' H → va_D A w' → va_S A s.heap H locs → decode cc pc = .ok (.return_, 1) → W p l e rm s m args below meth c H locs mc ms Q (F0 m pc ls [])) → W p l e rm s m args below meth c s.heap [] 0 0 Q (F0 m 0 ls [])) : zCv l y ws rm av D E sz w w' mc ms := by
  refine Met.ofW (cc := cc) (maxL := nL) (ret := none) hy hw ?_
  intro p e s m args below meth c s₁ B hml hv
  obtain ⟨rfl, hsz, hP, hK, hD0, hE⟩ := hv
  have hx := B.exec
  have hb := B.bytes
  have hr := B.returns
  have hts := atoms_spec (ws := ws) B.pre
  have hown : s.vm.findClass y.cls = some m.cls := findClass_of_methodNamed B.named
  have hlocks := B.notSynchronized
  subst hsz
  have hD := hD0.self (sz := s.heap.size)
  have hl := lv_entry av (n := nL) hav
  rw [lg_entry_eq]
  generalize (lg_sl av ++ List.replicate (nL - (lg_sl av).length) Slot.unset).toArray = ls at hl ⊢
  refine k p e s m av.toArray below meth c _ (va_A w s.heap.size) hx hb hml hown hts (fun q h => Or.inr h) hK hP hD va_S.rf hE ls hl ?_
  intro H locs ls pc hP hD hS hd
  exact W.vret hx hb hr (fun t ht hW => ⟨⟨(), rfl, trivial, by rw [ht]; exact hP, va_K.moved hW.alike hK, hD⟩, hS.F ht⟩) hS.2.2 hd
theorem zent_q {nm : String} {l : Launch} {y : MethodName} {ws ws' : List Cond} {rm : Room} {av : List Value} {D : va_G} {E : zE} {sz : Nat} {w w' : va_W} {r : Option Nat} {mc ms : Nat} {cc : ByteArray} {nL : Nat} (hy : plainName y.cls = true) (hw : ws = Cond.code y cc nL (some (.object nm)) :: ws') (hav : (lg_sl av).length ≤ nL)
    (k : ∀ (p : Program) (e : Env) (s : State) (m : MethodId) (args : Array Value) (below : List Frame) (meth : Method) (c : Code) (Q : State → Prop) (A : Nat → Prop), p.tables.exec = Jvm.exec → c.code = cc → c.maxLocals = nL → s.vm.findClass y.cls = some m.cls → (∀ w ∈ ws, w.before args s = true) → (∀ q : Nat, s.heap.size ≤ q → A q) → va_K D vwCl (zty E) s → va_P D vwCl w s.heap → va_D A w → va_S A s.heap s.heap [] → zSt E A s s.heap → ∀ ls : Array Slot, lv_has ls nL (lv_args 0 av) →
      (∀ (H : Heap) (locs : List Loc) (ls : Array Slot) (pc : Nat), va_P D vwCl w' H → va_D A w' → va_S A s.heap H locs → decode cc pc = .ok (.areturn, 1) → W p l e rm s m args below meth c H locs mc ms Q (F0 m pc ls [va_rf r])) → W p l e rm s m args below meth c s.heap [] 0 0 Q (F0 m 0 ls [])) : zCq l y ws rm av D E sz w w' r mc ms := by
  refine Met.ofW (cc := cc) (maxL := nL) (ret := some (.object nm)) hy hw ?_
  intro p e s m args below meth c s₁ B hml hv
  obtain ⟨rfl, hsz, hP, hK, hD0, hE⟩ := hv
  have hx := B.exec
  have hb := B.bytes
  have hr := B.returns
  have hts := atoms_spec (ws := ws) B.pre
  have hown : s.vm.findClass y.cls = some m.cls := findClass_of_methodNamed B.named
  have hlocks := B.notSynchronized
  subst hsz
  have hD := hD0.self (sz := s.heap.size)
  have hl := lv_entry av (n := nL) hav
  rw [lg_entry_eq]
  generalize (lg_sl av ++ List.replicate (nL - (lg_sl av).length) Slot.unset).toArray = ls at hl ⊢
  refine k p e s m av.toArray below meth c _ (va_A w s.heap.size) hx hb hml hown hts (fun q h => Or.inr h) hK hP hD va_S.rf hE ls hl ?_
  intro H locs ls pc hP hD hS hd
  exact W.aret (v := va_rf r) hx hb hr (Or.inl ⟨_, rfl⟩) (by cases r with | none => exact Or.inl rfl | some a => exact Or.inr ⟨a, rfl⟩) (fun t ht hW => ⟨⟨r, (), rfl, rfl, by rw [ht]; exact hP, va_K.moved hW.alike hK, hD⟩, hS.F ht⟩) hS.2.2 hd
section ZR
variable {p : Program} {l : Launch} {e : Env} {R : Room} {s : State} {m : MethodId} {args : Array Value} {below : List Frame} {meth : Method} {c : Code} {H : Heap} {locs : List Loc} {cells slots : Nat} {Q : State → Prop}
variable {cc : ByteArray} {pc : Nat} {ls : Array Slot} {rest : List Value} {D : va_G} {cl : List vw_C} {a : Nat} {tys : List (ClassId × FieldType)} {ws : va_W} {E : zE} {KL : List Nat} {kc : Nat → zKC} {on : zNS} {rw rd ft tr : zOS} {la : Nat → zLS} {mo : zMS}
theorem ziald (hexec : p.tables.exec = Jvm.exec) (hb : c.code = cc) (hK : va_K D cl tys s) (hP : va_P D cl ws H) (q0 t0 : Nat) {cA : ClassId} {n : Nat} {f : Nat → Int32} (ha : ws[q0]? = some (a, .inl (cA, n, .inl f))) (ht : tys[t0]? = some (cA, .int)) {i v : Int32} (hin : vp_in i n) (hv : f i.toNatClampNeg = v) (hdg : decode cc pc = .ok (.iaload, 1))
    (kk : W p l e R s m args below meth c H locs cells slots Q (F0 m (pc + 1) ls (.int v :: rest))) : W p l e R s m args below meth c H locs cells slots Q (F0 m pc ls (.int i :: .ref a :: rest)) := by
  subst hv
  exact va_iald hexec hb hK hP q0 t0 ha ht hin hdg kk
theorem zbald (hexec : p.tables.exec = Jvm.exec) (hb : c.code = cc) (hK : va_K D cl tys s) (hP : va_P D cl ws H) (q0 t0 : Nat) {cA : ClassId} {n : Nat} {f : Nat → Int32} (ha : ws[q0]? = some (a, .inl (cA, n, .inl f))) (ht : tys[t0]? = some (cA, .byte)) {i v : Int32} (hin : vp_in i n) (hv : f i.toNatClampNeg = v) (hdg : decode cc pc = .ok (.baload, 1))
    (kk : W p l e R s m args below meth c H locs cells slots Q (F0 m (pc + 1) ls (.int v :: rest))) : W p l e R s m args below meth c H locs cells slots Q (F0 m pc ls (.int i :: .ref a :: rest)) := by
  subst hv
  exact va_bald hexec hb hK hP q0 t0 ha ht hin hdg kk
theorem zzald (hexec : p.tables.exec = Jvm.exec) (hb : c.code = cc) (hK : va_K D cl tys s) (hP : va_P D cl ws H) (q0 t0 : Nat) {cA : ClassId} {n : Nat} {f : Nat → Int32} (ha : ws[q0]? = some (a, .inl (cA, n, .inl f))) (ht : tys[t0]? = some (cA, .boolean)) {i v : Int32} (hin : vp_in i n) (hv : f i.toNatClampNeg = v) (hdg : decode cc pc = .ok (.baload, 1))
    (kk : W p l e R s m args below meth c H locs cells slots Q (F0 m (pc + 1) ls (.int v :: rest))) : W p l e R s m args below meth c H locs cells slots Q (F0 m pc ls (.int i :: .ref a :: rest)) := by
  subst hv
  exact va_zald hexec hb hK hP q0 t0 ha ht hin hdg kk
/-- a field of a keeper, of whatever kind he is -/
theorem zgetK (hexec : p.tables.exec = Jvm.exec) (hb : c.code = cc) {own ref : String} {index : Nat} {c0 : Cond} (hts : ∀ w ∈ c0 :: zB, w.before args s = true) (hown : s.vm.findClass own = some m.cls) (hK : va_K D vwCl tys s) (hP : va_P D vwCl (zW E KL kc on rw rd ft tr la mo) H) (ha : a ∈ KL)
    (hk : (kc a).1 = 0 ∨ (kc a).1 = 1 ∨ (kc a).1 = 4 ∨ (kc a).1 = 7 ∨ (kc a).1 = 9) (k : Nat) (hk3 : k < 3) {name : String} (hn : (TX0 k).2.1 = name)
    (hlink : (Cond.fieldLink own index ref name "I").before args s = true) (hsame : ∀ x, s.fieldFound? "OldNews$Keeper" name "I" = some x → s.fieldFound? ref name "I" = some x) {v : Int32} (hv : [Value.int (kc a).2.1, .int (kc a).2.2.1, .int (kc a).2.2.2][k]? = some (.int v)) (hdg : decode cc pc = .ok (.getfield index, 3))
    (kk : W p l e R s m args below meth c H locs cells slots Q (F0 m (pc + 3) ls (.int v :: rest))) : W p l e R s m args below meth c H locs cells slots Q (F0 m pc ls (.ref a :: rest)) := by
  subst hn
  have e : ∀ (T : u_T), (∀ j, j < 3 → T j = TX0 j) → ∀ (C : String) (ci q : Nat), vwCl[ci]? = some (C, T, 3) → (∀ w ∈ u_ws C T 3, w ∈ c0 :: zB) → (zW E KL kc on rw rd ft tr la mo)[q]? = some (a, .inr (ci, [.int (kc a).2.1, .int (kc a).2.2.1, .int (kc a).2.2.2])) → W p l e R s m args below meth c H locs cells slots Q (F0 m pc ls (.ref a :: rest)) := by
    intro T hT C ci q hc hi hq
    have h2 : (T k).2.2.1 = "I" := by rw [hT k hk3]; rcases (show k = 0 ∨ k = 1 ∨ k = 2 by omega) with rfl | rfl | rfl <;> rfl
    have h3 : (T k).1 = "OldNews$Keeper" := by rw [hT k hk3]; rcases (show k = 0 ∨ k = 1 ∨ k = 2 by omega) with rfl | rfl | rfl <;> rfl
    refine va_get (D := D) (ci := ci) (C := C) (T := T) (N := 3) (ref := ref) hexec hb hts hi hown hK hP q hq hc k hk3 ?_ ?_ hv hdg kk
    · rw [h2, hT k hk3]; exact hlink
    · rw [h2, h3, hT k hk3]; exact hsame
  rcases hk with h | h | h | h | h
  · obtain ⟨q, hq⟩ := zg_K E KL kc on rw rd ft tr la mo ha h
    exact e TX0 (fun _ _ => rfl) RX0 0 q rfl (zi iX0) hq
  · obtain ⟨q, hq⟩ := zg_K E KL kc on rw rd ft tr la mo ha h
    exact e TX1 (fun j hj => by rcases (show j = 0 ∨ j = 1 ∨ j = 2 by omega) with rfl | rfl | rfl <;> rfl) RX1 1 q rfl (zi iX1) hq
  · obtain ⟨q, hq⟩ := zg_K E KL kc on rw rd ft tr la mo ha h
    exact e TX5 (fun j hj => by rcases (show j = 0 ∨ j = 1 ∨ j = 2 by omega) with rfl | rfl | rfl <;> rfl) RX5 4 q rfl (zi iX5) hq
  · obtain ⟨q, hq⟩ := zg_K E KL kc on rw rd ft tr la mo ha h
    exact e TX8 (fun j hj => by rcases (show j = 0 ∨ j = 1 ∨ j = 2 by omega) with rfl | rfl | rfl <;> rfl) RX8 7 q rfl (zi iX8) hq
  · obtain ⟨q, hq⟩ := zg_K E KL kc on rw rd ft tr la mo ha h
    exact e TX10 (fun j hj => by rcases (show j = 0 ∨ j = 1 ∨ j = 2 by omega) with rfl | rfl | rfl <;> rfl) RX10 9 q rfl (zi iX10) hq
end ZR
/-- the class of a keeper, of whatever kind he is -/
theorem zrK (E : zE) (KL : List Nat) (kc : Nat → zKC) (on : zNS) (rw rd ft tr : zOS) (la : Nat → zLS) (mo : zMS) {D : va_G} {tys : List (ClassId × FieldType)} {s : State} {H : Heap} {a : Nat} (hK : va_K D vwCl tys s) (hP : va_P D vwCl (zW E KL kc on rw rd ft tr la mo) H) (ha : a ∈ KL)
    (hk : (kc a).1 = 0 ∨ (kc a).1 = 1 ∨ (kc a).1 = 4 ∨ (kc a).1 = 7 ∨ (kc a).1 = 9) : ∃ (C : String) (cC : ClassId), ClassAt s C cC ∧ ∃ cell : Cell, H[a]? = some cell ∧ cell.vm.isStatics = false ∧ s.vm.findClass C = some cell.cls := by
  rcases hk with h | h | h | h | h
  · obtain ⟨q, hq⟩ := zg_K E KL kc on rw rd ft tr la mo ha h
    exact ⟨RX0, D.1 0, (hK.1 0 (RX0, TX0, 3) rfl).2, va_recv hK hP (ci := 0) (q0 := q) rfl hq⟩
  · obtain ⟨q, hq⟩ := zg_K E KL kc on rw rd ft tr la mo ha h
    exact ⟨RX1, D.1 1, (hK.1 1 (RX1, TX1, 3) rfl).2, va_recv hK hP (ci := 1) (q0 := q) rfl hq⟩
  · obtain ⟨q, hq⟩ := zg_K E KL kc on rw rd ft tr la mo ha h
    exact ⟨RX5, D.1 4, (hK.1 4 (RX5, TX5, 3) rfl).2, va_recv hK hP (ci := 4) (q0 := q) rfl hq⟩
  · obtain ⟨q, hq⟩ := zg_K E KL kc on rw rd ft tr la mo ha h
    exact ⟨RX8, D.1 7, (hK.1 7 (RX8, TX8, 3) rfl).2, va_recv hK hP (ci := 7) (q0 := q) rfl hq⟩
  · obtain ⟨q, hq⟩ := zg_K E KL kc on rw rd ft tr la mo ha h
    exact ⟨RX10, D.1 9, (hK.1 9 (RX10, TX10, 3) rfl).2, va_recv hK hP (ci := 9) (q0 := q) rfl hq⟩
/-- a keeper may lie in a row of keepers -/
theorem zAny {E : zE} {KL : List Nat} {kc : Nat → zKC} {on : zNS} {rw rd ft tr : zOS} {la : Nat → zLS} {mo : zMS} {D : va_G} {tys : List (ClassId × FieldType)} {s : State} {H : Heap} {a : Nat} (hC : ∀ C ∈ [RX0, RX1, RX5, RX8, RX10], va_Nw (.castable C RX3) s) (hK : va_K D vwCl tys s) (hP : va_P D vwCl (zW E KL kc on rw rd ft tr la mo) H) (ha : a ∈ KL)
    (hk : (kc a).1 = 0 ∨ (kc a).1 = 1 ∨ (kc a).1 = 4 ∨ (kc a).1 = 7 ∨ (kc a).1 = 9) : va_Any RX3 s H a := by
  rcases hk with h | h | h | h | h
  · obtain ⟨q, hq⟩ := zg_K E KL kc on rw rd ft tr la mo ha h
    exact va_rAny hK hP hq (r := (RX0, TX0, 3)) rfl (vb_asgC (hC _ (by simp)))
  · obtain ⟨q, hq⟩ := zg_K E KL kc on rw rd ft tr la mo ha h
    exact va_rAny hK hP hq (r := (RX1, TX1, 3)) rfl (vb_asgC (hC _ (by simp)))
  · obtain ⟨q, hq⟩ := zg_K E KL kc on rw rd ft tr la mo ha h
    exact va_rAny hK hP hq (r := (RX5, TX5, 3)) rfl (vb_asgC (hC _ (by simp)))
  · obtain ⟨q, hq⟩ := zg_K E KL kc on rw rd ft tr la mo ha h
    exact va_rAny hK hP hq (r := (RX8, TX8, 3)) rfl (vb_asgC (hC _ (by simp)))
  · obtain ⟨q, hq⟩ := zg_K E KL kc on rw rd ft tr la mo ha h
    exact va_rAny hK hP hq (r := (RX10, TX10, 3)) rfl (vb_asgC (hC _ (by simp)))
theorem ztab_0_2 {x : Int32} (h0 : ¬ x = 0) (h1 : ¬ x = 1) (h2 : ¬ x = 2) : x.toInt < 0 ∨ 2 < x.toInt := by
  refine Decidable.byContradiction fun h => ?_
  have h2 : x.toInt = 0 ∨ x.toInt = 1 ∨ x.toInt = 2 := by omega
  rcases h2 with q | q | q
  · exact h0 (Int32.toInt_inj.mp q)
  · exact h1 (Int32.toInt_inj.mp q)
  · exact h2 (Int32.toInt_inj.mp q)
theorem ztab_0_4 {x : Int32} (h0 : ¬ x = 0) (h1 : ¬ x = 1) (h2 : ¬ x = 2) (h3 : ¬ x = 3) (h4 : ¬ x = 4) : x.toInt < 0 ∨ 4 < x.toInt := by
  refine Decidable.byContradiction fun h => ?_
  have h2 : x.toInt = 0 ∨ x.toInt = 1 ∨ x.toInt = 2 ∨ x.toInt = 3 ∨ x.toInt = 4 := by omega
  rcases h2 with q | q | q | q | q
  · exact h0 (Int32.toInt_inj.mp q)
  · exact h1 (Int32.toInt_inj.mp q)
  · exact h2 (Int32.toInt_inj.mp q)
  · exact h3 (Int32.toInt_inj.mp q)
  · exact h4 (Int32.toInt_inj.mp q)
theorem ztab_0_5 {x : Int32} (h0 : ¬ x = 0) (h1 : ¬ x = 1) (h2 : ¬ x = 2) (h3 : ¬ x = 3) (h4 : ¬ x = 4) (h5 : ¬ x = 5) : x.toInt < 0 ∨ 5 < x.toInt := by
  refine Decidable.byContradiction fun h => ?_
  have h2 : x.toInt = 0 ∨ x.toInt = 1 ∨ x.toInt = 2 ∨ x.toInt = 3 ∨ x.toInt = 4 ∨ x.toInt = 5 := by omega
  rcases h2 with q | q | q | q | q | q
  · exact h0 (Int32.toInt_inj.mp q)
  · exact h1 (Int32.toInt_inj.mp q)
  · exact h2 (Int32.toInt_inj.mp q)
  · exact h3 (Int32.toInt_inj.mp q)
  · exact h4 (Int32.toInt_inj.mp q)
  · exact h5 (Int32.toInt_inj.mp q)
theorem ztab_0_7 {x : Int32} (h0 : ¬ x = 0) (h1 : ¬ x = 1) (h2 : ¬ x = 2) (h3 : ¬ x = 3) (h4 : ¬ x = 4) (h5 : ¬ x = 5) (h6 : ¬ x = 6) (h7 : ¬ x = 7) : x.toInt < 0 ∨ 7 < x.toInt := by
  refine Decidable.byContradiction fun h => ?_
  have h2 : x.toInt = 0 ∨ x.toInt = 1 ∨ x.toInt = 2 ∨ x.toInt = 3 ∨ x.toInt = 4 ∨ x.toInt = 5 ∨ x.toInt = 6 ∨ x.toInt = 7 := by omega
  rcases h2 with q | q | q | q | q | q | q | q
  · exact h0 (Int32.toInt_inj.mp q)
  · exact h1 (Int32.toInt_inj.mp q)
  · exact h2 (Int32.toInt_inj.mp q)
  · exact h3 (Int32.toInt_inj.mp q)
  · exact h4 (Int32.toInt_inj.mp q)
  · exact h5 (Int32.toInt_inj.mp q)
  · exact h6 (Int32.toInt_inj.mp q)
  · exact h7 (Int32.toInt_inj.mp q)
theorem ztab_1_4 {x : Int32} (h1 : ¬ x = 1) (h2 : ¬ x = 2) (h3 : ¬ x = 3) (h4 : ¬ x = 4) : x.toInt < 1 ∨ 4 < x.toInt := by
  refine Decidable.byContradiction fun h => ?_
  have h2 : x.toInt = 1 ∨ x.toInt = 2 ∨ x.toInt = 3 ∨ x.toInt = 4 := by omega
  rcases h2 with q | q | q | q
  · exact h1 (Int32.toInt_inj.mp q)
  · exact h2 (Int32.toInt_inj.mp q)
  · exact h3 (Int32.toInt_inj.mp q)
  · exact h4 (Int32.toInt_inj.mp q)
