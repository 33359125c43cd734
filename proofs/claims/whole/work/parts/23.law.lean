def zStep_row (N : Nat) (Inv : List Nat → (Nat → zKC) → zNS → zOS → zOS → zOS → zOS → (Nat → zLS) → zMS → Prop) : Prop := ∀ (KL : List Nat) (kc : Nat → zKC) (on : zNS) (rw rd ft tr : zOS) (la : Nat → zLS) (mo : zMS), Inv KL kc on rw rd ft tr la mo → ∀ (x1 : Int32)  (x2 : Int32)  (x3 : Int32), ∃ (u : Int32 × zNS × zOS) (w : Int32 × zMS), fX11_row N on rw x1 x2 x3 = some u ∧ fX12_row N mo x1 x2 x3 = some w ∧ u.1 = w.1 ∧ Inv KL kc u.2.1 u.2.2 rd ft tr la w.2
def zStep_set (N : Nat) (Inv : List Nat → (Nat → zKC) → zNS → zOS → zOS → zOS → zOS → (Nat → zLS) → zMS → Prop) : Prop := ∀ (KL : List Nat) (kc : Nat → zKC) (on : zNS) (rw rd ft tr : zOS) (la : Nat → zLS) (mo : zMS), Inv KL kc on rw rd ft tr la mo → ∀ (x1 : Int32)  (x2 : Int32)  (x3 : Int32), ∃ (u : Int32 × zNS × zOS) (w : Int32 × zMS), fX11_set N on rw x1 x2 x3 = some u ∧ fX12_set N mo x1 x2 x3 = some w ∧ u.1 = w.1 ∧ Inv KL kc u.2.1 u.2.2 rd ft tr la w.2
def zStep_copy (N : Nat) (Inv : List Nat → (Nat → zKC) → zNS → zOS → zOS → zOS → zOS → (Nat → zLS) → zMS → Prop) : Prop := ∀ (KL : List Nat) (kc : Nat → zKC) (on : zNS) (rw rd ft tr : zOS) (la : Nat → zLS) (mo : zMS), Inv KL kc on rw rd ft tr la mo → ∀ (x1 : Int32)  (x2 : Int32)  (x3 : Int32)  (x4 : Int32)  (x5 : Int32), ∃ (u : Int32 × zNS × zOS) (w : Int32 × zMS), fX11_copy N on rw x1 x2 x3 x4 x5 = some u ∧ fX12_copy N mo x1 x2 x3 x4 x5 = some w ∧ u.1 = w.1 ∧ Inv KL kc u.2.1 u.2.2 rd ft tr la w.2
def zStep_drop (N : Nat) (Inv : List Nat → (Nat → zKC) → zNS → zOS → zOS → zOS → zOS → (Nat → zLS) → zMS → Prop) : Prop := ∀ (KL : List Nat) (kc : Nat → zKC) (on : zNS) (rw rd ft tr : zOS) (la : Nat → zLS) (mo : zMS), Inv KL kc on rw rd ft tr la mo → ∀ (x1 : Int32), ∃ (u : Int32 × zNS × zOS) (w : Int32 × zMS), fX11_drop N on rw x1 = some u ∧ fX12_drop N mo x1 = some w ∧ u.1 = w.1 ∧ Inv KL kc u.2.1 u.2.2 rd ft tr la w.2
def zStep_feed (N : Nat) (Inv : List Nat → (Nat → zKC) → zNS → zOS → zOS → zOS → zOS → (Nat → zLS) → zMS → Prop) : Prop := ∀ (KL : List Nat) (kc : Nat → zKC) (on : zNS) (rw rd ft tr : zOS) (la : Nat → zLS) (mo : zMS), Inv KL kc on rw rd ft tr la mo → ∀ (x1 : Int64)  (x2 : Int32), ∃ (u : Int32 × zOS) (w : Int32 × zMS), fX11_feed N rd x1 x2 = some u ∧ fX12_feed N mo x1 x2 = some w ∧ u.1 = w.1 ∧ Inv KL kc on rw u.2 ft tr la w.2
def zStep_land (N : Nat) (Inv : List Nat → (Nat → zKC) → zNS → zOS → zOS → zOS → zOS → (Nat → zLS) → zMS → Prop) : Prop := ∀ (KL : List Nat) (kc : Nat → zKC) (on : zNS) (rw rd ft tr : zOS) (la : Nat → zLS) (mo : zMS), Inv KL kc on rw rd ft tr la mo → ∀ hb : Nat, (∀ a ∈ KL, a < hb) → ∃ (u : Int32 × List Nat × (Nat → zKC) × Nat × zNS × zOS × zLS) (w : Int32 × zMS), fX11_land N KL kc hb on rd (la on.2.2) = some u ∧ fX12_land N mo = some w ∧ u.1 = w.1 ∧ Inv u.2.1 u.2.2.1 u.2.2.2.2.1 rw u.2.2.2.2.2.1 ft tr (va_up la on.2.2 u.2.2.2.2.2.2) w.2
def zStep_fault (N : Nat) (Inv : List Nat → (Nat → zKC) → zNS → zOS → zOS → zOS → zOS → (Nat → zLS) → zMS → Prop) : Prop := ∀ (KL : List Nat) (kc : Nat → zKC) (on : zNS) (rw rd ft tr : zOS) (la : Nat → zLS) (mo : zMS), Inv KL kc on rw rd ft tr la mo → ∃ (u : Int32) (w : Int32 × zMS), fX11_fault N rd = some u ∧ fX12_fault N mo = some w ∧ u = w.1 ∧ Inv KL kc on rw rd ft tr la w.2
def zStep_value (N : Nat) (Inv : List Nat → (Nat → zKC) → zNS → zOS → zOS → zOS → zOS → (Nat → zLS) → zMS → Prop) : Prop := ∀ (KL : List Nat) (kc : Nat → zKC) (on : zNS) (rw rd ft tr : zOS) (la : Nat → zLS) (mo : zMS), Inv KL kc on rw rd ft tr la mo → ∀ (x1 : Int32), ∃ (u : Int32) (w : Int32 × zMS), fX11_value N (la on.2.1) x1 = some u ∧ fX12_value N mo x1 = some w ∧ u = w.1 ∧ Inv KL kc on rw rd ft tr (va_up la on.2.1 (la on.2.1)) w.2
def zStep_go (N : Nat) (Inv : List Nat → (Nat → zKC) → zNS → zOS → zOS → zOS → zOS → (Nat → zLS) → zMS → Prop) : Prop := ∀ (KL : List Nat) (kc : Nat → zKC) (on : zNS) (rw rd ft tr : zOS) (la : Nat → zLS) (mo : zMS), Inv KL kc on rw rd ft tr la mo → ∀ (x1 : Int32)  (x2 : Int32), ∃ (u : Int32 × zLS) (w : Int32 × zMS), fX11_go N KL kc (la on.2.1) x1 x2 = some u ∧ fX12_go N mo x1 x2 = some w ∧ u.1 = w.1 ∧ Inv KL kc on rw rd ft tr (va_up la on.2.1 u.2) w.2
def zStep_tell (N : Nat) (Inv : List Nat → (Nat → zKC) → zNS → zOS → zOS → zOS → zOS → (Nat → zLS) → zMS → Prop) : Prop := ∀ (KL : List Nat) (kc : Nat → zKC) (on : zNS) (rw rd ft tr : zOS) (la : Nat → zLS) (mo : zMS), Inv KL kc on rw rd ft tr la mo → ∀ (x1 : Int32)  (x2 : Int32)  (x3 : Int32), ∃ (u : Int32 × zLS) (w : Int32 × zMS), fX11_tell N (la on.2.1) x1 x2 x3 = some u ∧ fX12_tell N mo x1 x2 x3 = some w ∧ u.1 = w.1 ∧ Inv KL kc on rw rd ft tr (va_up la on.2.1 u.2) w.2
def zStep_keeper (N : Nat) (Inv : List Nat → (Nat → zKC) → zNS → zOS → zOS → zOS → zOS → (Nat → zLS) → zMS → Prop) : Prop := ∀ (KL : List Nat) (kc : Nat → zKC) (on : zNS) (rw rd ft tr : zOS) (la : Nat → zLS) (mo : zMS), Inv KL kc on rw rd ft tr la mo → ∀ (x1 : Int32)  (x2 : Int32), ∃ (u : Int32) (w : Int32 × zMS), fX11_keeper N (la on.2.1) x1 x2 = some u ∧ fX12_keeper N mo x1 x2 = some w ∧ u = w.1 ∧ Inv KL kc on rw rd ft tr (va_up la on.2.1 (la on.2.1)) w.2
def zStep_piece (N : Nat) (Inv : List Nat → (Nat → zKC) → zNS → zOS → zOS → zOS → zOS → (Nat → zLS) → zMS → Prop) : Prop := ∀ (KL : List Nat) (kc : Nat → zKC) (on : zNS) (rw rd ft tr : zOS) (la : Nat → zLS) (mo : zMS), Inv KL kc on rw rd ft tr la mo → ∀ (x1 : Int32)  (x2 : Int32), ∃ (u : Int32) (w : Int32 × zMS), fX11_piece N (la on.2.1) x1 x2 = some u ∧ fX12_piece N mo x1 x2 = some w ∧ u = w.1 ∧ Inv KL kc on rw rd ft tr (va_up la on.2.1 (la on.2.1)) w.2
def zStep_alone (N : Nat) (Inv : List Nat → (Nat → zKC) → zNS → zOS → zOS → zOS → zOS → (Nat → zLS) → zMS → Prop) : Prop := ∀ (KL : List Nat) (kc : Nat → zKC) (on : zNS) (rw rd ft tr : zOS) (la : Nat → zLS) (mo : zMS), Inv KL kc on rw rd ft tr la mo → ∀ (x1 : Int32)  (x2 : Int32)  (x3 : Int32), ∃ (u : Int32) (w : Int32 × zMS), fX11_alone N (la on.2.1) x1 x2 x3 = some u ∧ fX12_alone N mo x1 x2 x3 = some w ∧ u = w.1 ∧ Inv KL kc on rw rd ft tr (va_up la on.2.1 (la on.2.1)) w.2
def zStep_best (N : Nat) (Inv : List Nat → (Nat → zKC) → zNS → zOS → zOS → zOS → zOS → (Nat → zLS) → zMS → Prop) : Prop := ∀ (KL : List Nat) (kc : Nat → zKC) (on : zNS) (rw rd ft tr : zOS) (la : Nat → zLS) (mo : zMS), Inv KL kc on rw rd ft tr la mo → ∀ (x1 : Int32), ∃ (u : Int32) (w : Int32 × zMS), fX11_best N (la on.2.1) x1 = some u ∧ fX12_best N mo x1 = some w ∧ u = w.1 ∧ Inv KL kc on rw rd ft tr (va_up la on.2.1 (la on.2.1)) w.2
def zStep_two (N : Nat) (Inv : List Nat → (Nat → zKC) → zNS → zOS → zOS → zOS → zOS → (Nat → zLS) → zMS → Prop) : Prop := ∀ (KL : List Nat) (kc : Nat → zKC) (on : zNS) (rw rd ft tr : zOS) (la : Nat → zLS) (mo : zMS), Inv KL kc on rw rd ft tr la mo → ∀ (x1 : Int32)  (x2 : Int32)  (x3 : Int32), ∃ (u : Int32) (w : Int32 × zMS), fX11_two N (la on.2.1) x1 x2 x3 = some u ∧ fX12_two N mo x1 x2 x3 = some w ∧ u = w.1 ∧ Inv KL kc on rw rd ft tr (va_up la on.2.1 (la on.2.1)) w.2
def zStep_think (N : Nat) (Inv : List Nat → (Nat → zKC) → zNS → zOS → zOS → zOS → zOS → (Nat → zLS) → zMS → Prop) : Prop := ∀ (KL : List Nat) (kc : Nat → zKC) (on : zNS) (rw rd ft tr : zOS) (la : Nat → zLS) (mo : zMS), Inv KL kc on rw rd ft tr la mo → ∀ (x1 : Int32)  (x2 : Int32)  (x3 : Int32), ∃ (u : Int32) (w : Int32 × zMS), fX11_think N x1 x2 x3 = some u ∧ fX12_think N mo x1 x2 x3 = some w ∧ u = w.1 ∧ Inv KL kc on rw rd ft tr la w.2
def zStep_lostUse (N : Nat) (Inv : List Nat → (Nat → zKC) → zNS → zOS → zOS → zOS → zOS → (Nat → zLS) → zMS → Prop) : Prop := ∀ (KL : List Nat) (kc : Nat → zKC) (on : zNS) (rw rd ft tr : zOS) (la : Nat → zLS) (mo : zMS), Inv KL kc on rw rd ft tr la mo → ∀ (x1 : Int32)  (x2 : Int32)  (x3 : Int32), ∃ (u : Int32) (w : Int32 × zMS), fX11_lostUse N (la on.2.1) x1 x2 x3 = some u ∧ fX12_lostUse N mo x1 x2 x3 = some w ∧ u = w.1 ∧ Inv KL kc on rw rd ft tr (va_up la on.2.1 (la on.2.1)) w.2
def zStep_silence (N : Nat) (Inv : List Nat → (Nat → zKC) → zNS → zOS → zOS → zOS → zOS → (Nat → zLS) → zMS → Prop) : Prop := ∀ (KL : List Nat) (kc : Nat → zKC) (on : zNS) (rw rd ft tr : zOS) (la : Nat → zLS) (mo : zMS), Inv KL kc on rw rd ft tr la mo → ∀ (x1 : Int32)  (x2 : Int32)  (x3 : Int32)  (x4 : Int32)  (x5 : Int32), ∃ (u : Int32) (w : Int32 × zMS), fX11_silence N (la on.2.1) x1 x2 x3 x4 x5 = some u ∧ fX12_silence N mo x1 x2 x3 x4 x5 = some w ∧ u = w.1 ∧ Inv KL kc on rw rd ft tr (va_up la on.2.1 (la on.2.1)) w.2
def zStep_corner (N : Nat) (Inv : List Nat → (Nat → zKC) → zNS → zOS → zOS → zOS → zOS → (Nat → zLS) → zMS → Prop) : Prop := ∀ (KL : List Nat) (kc : Nat → zKC) (on : zNS) (rw rd ft tr : zOS) (la : Nat → zLS) (mo : zMS), Inv KL kc on rw rd ft tr la mo → ∀ (x1 : Int32)  (x2 : Int32)  (x3 : Int32)  (x4 : Int32), ∃ (u : Int32 × zOS) (w : Int32 × zMS), fX11_corner N KL kc ft (la on.2.1) x1 x2 x3 x4 = some u ∧ fX12_corner N mo x1 x2 x3 x4 = some w ∧ u.1 = w.1 ∧ Inv KL kc on rw rd u.2 tr (va_up la on.2.1 (la on.2.1)) w.2
def zStep_make (N : Nat) (Inv : List Nat → (Nat → zKC) → zNS → zOS → zOS → zOS → zOS → (Nat → zLS) → zMS → Prop) : Prop := ∀ (KL : List Nat) (kc : Nat → zKC) (on : zNS) (rw rd ft tr : zOS) (la : Nat → zLS) (mo : zMS), Inv KL kc on rw rd ft tr la mo → ∀ (x1 : Int32)  (x2 : Int32)  (x3 : Int32), ∃ (u : Int32) (w : Int32 × zMS), fX11_make N (la on.2.1) x1 x2 x3 = some u ∧ fX12_make N mo x1 x2 x3 = some w ∧ u = w.1 ∧ Inv KL kc on rw rd ft tr (va_up la on.2.1 (la on.2.1)) w.2
def zStep_fit (N : Nat) (Inv : List Nat → (Nat → zKC) → zNS → zOS → zOS → zOS → zOS → (Nat → zLS) → zMS → Prop) : Prop := ∀ (KL : List Nat) (kc : Nat → zKC) (on : zNS) (rw rd ft tr : zOS) (la : Nat → zLS) (mo : zMS), Inv KL kc on rw rd ft tr la mo → ∀ (x1 : Int32)  (x2 : Int32), ∃ (u : Int32 × zNS × zOS × zLS) (w : Int32 × zMS), fX11_fit N KL kc on rw ft (la on.2.1) (la 4) x1 x2 = some u ∧ fX12_fit N mo x1 x2 = some w ∧ u.1 = w.1 ∧ Inv KL kc u.2.1 rw rd u.2.2.1 tr (va_up (va_up la on.2.1 (la on.2.1)) 4 u.2.2.2) w.2
def zStep_laws (N : Nat) (Inv : List Nat → (Nat → zKC) → zNS → zOS → zOS → zOS → zOS → (Nat → zLS) → zMS → Prop) : Prop := ∀ (KL : List Nat) (kc : Nat → zKC) (on : zNS) (rw rd ft tr : zOS) (la : Nat → zLS) (mo : zMS), Inv KL kc on rw rd ft tr la mo → ∀ (x1 : Int32), ∃ (u : Int32 × zLS) (w : Int32 × zMS), fX11_laws N KL kc (la on.2.1) (la 4) x1 = some u ∧ fX12_laws N mo x1 = some w ∧ u.1 = w.1 ∧ Inv KL kc on rw rd ft tr (va_up (va_up la on.2.1 (la on.2.1)) 4 u.2) w.2
def zStep_image (N : Nat) (Inv : List Nat → (Nat → zKC) → zNS → zOS → zOS → zOS → zOS → (Nat → zLS) → zMS → Prop) : Prop := ∀ (KL : List Nat) (kc : Nat → zKC) (on : zNS) (rw rd ft tr : zOS) (la : Nat → zLS) (mo : zMS), Inv KL kc on rw rd ft tr la mo → ∀ (x1 : Int32), ∃ (u : Int32 × zLS) (w : Int32 × zMS), fX11_image N KL kc (la on.2.1) (la (if x1 = 0 then 0 else 1)) x1 = some u ∧ fX12_image N mo x1 = some w ∧ u.1 = w.1 ∧ Inv KL kc on rw rd ft tr (va_up (va_up la on.2.1 (la on.2.1)) (if x1 = 0 then 0 else 1) u.2) w.2
def zStep_restore (N : Nat) (Inv : List Nat → (Nat → zKC) → zNS → zOS → zOS → zOS → zOS → (Nat → zLS) → zMS → Prop) : Prop := ∀ (KL : List Nat) (kc : Nat → zKC) (on : zNS) (rw rd ft tr : zOS) (la : Nat → zLS) (mo : zMS), Inv KL kc on rw rd ft tr la mo → ∀ (x1 : Int32), ∃ (u : Int32 × zLS) (w : Int32 × zMS), fX11_restore N KL kc (la on.2.1) (la (if x1 = 0 then 0 else 1)) x1 = some u ∧ fX12_restore N mo x1 = some w ∧ u.1 = w.1 ∧ Inv KL kc on rw rd ft tr (va_up (va_up la on.2.1 u.2) (if x1 = 0 then 0 else 1) (la (if x1 = 0 then 0 else 1))) w.2
def zStep_kind (N : Nat) (Inv : List Nat → (Nat → zKC) → zNS → zOS → zOS → zOS → zOS → (Nat → zLS) → zMS → Prop) : Prop := ∀ (KL : List Nat) (kc : Nat → zKC) (on : zNS) (rw rd ft tr : zOS) (la : Nat → zLS) (mo : zMS), Inv KL kc on rw rd ft tr la mo → ∀ (x1 : Int32), ∃ (u : Int32) (w : Int32 × zMS), fX11_kind N KL kc (la on.2.1) x1 = some u ∧ fX12_kind N mo x1 = some w ∧ u = w.1 ∧ Inv KL kc on rw rd ft tr (va_up la on.2.1 (la on.2.1)) w.2
def zStep_as (N : Nat) (Inv : List Nat → (Nat → zKC) → zNS → zOS → zOS → zOS → zOS → (Nat → zLS) → zMS → Prop) : Prop := ∀ (KL : List Nat) (kc : Nat → zKC) (on : zNS) (rw rd ft tr : zOS) (la : Nat → zLS) (mo : zMS), Inv KL kc on rw rd ft tr la mo → ∀ (x1 : Int32)  (x2 : Int32), ∃ (u : Int32 × zNS) (w : Int32 × zMS), fX11_as N KL kc on (la on.2.1) x1 x2 = some u ∧ fX12_as N mo x1 x2 = some w ∧ u.1 = w.1 ∧ Inv KL kc u.2 rw rd ft tr (va_up la on.2.1 (la on.2.1)) w.2
def zStep_ask (N : Nat) (Inv : List Nat → (Nat → zKC) → zNS → zOS → zOS → zOS → zOS → (Nat → zLS) → zMS → Prop) : Prop := ∀ (KL : List Nat) (kc : Nat → zKC) (on : zNS) (rw rd ft tr : zOS) (la : Nat → zLS) (mo : zMS), Inv KL kc on rw rd ft tr la mo → ∀ (x1 : Int32)  (x2 : Int32), ∃ (u : Int32 × zOS) (w : Int32 × zMS), fX11_ask N KL kc tr (la on.2.1) x1 x2 = some u ∧ fX12_ask N mo x1 x2 = some w ∧ u.1 = w.1 ∧ Inv KL kc on rw rd ft u.2 (va_up la on.2.1 (la on.2.1)) w.2
def zStep_trace (N : Nat) (Inv : List Nat → (Nat → zKC) → zNS → zOS → zOS → zOS → zOS → (Nat → zLS) → zMS → Prop) : Prop := ∀ (KL : List Nat) (kc : Nat → zKC) (on : zNS) (rw rd ft tr : zOS) (la : Nat → zLS) (mo : zMS), Inv KL kc on rw rd ft tr la mo → ∀ (x1 : Int32), ∃ (u : Int32) (w : Int32 × zMS), fX11_trace N tr x1 = some u ∧ fX12_trace N mo x1 = some w ∧ u = w.1 ∧ Inv KL kc on rw rd ft tr la w.2
def zStep_count (N : Nat) (Inv : List Nat → (Nat → zKC) → zNS → zOS → zOS → zOS → zOS → (Nat → zLS) → zMS → Prop) : Prop := ∀ (KL : List Nat) (kc : Nat → zKC) (on : zNS) (rw rd ft tr : zOS) (la : Nat → zLS) (mo : zMS), Inv KL kc on rw rd ft tr la mo → ∀ (x1 : Int32), ∃ (u : Int32) (w : Int32 × zMS), fX11_count N rw rd (la on.2.1) x1 = some u ∧ fX12_count N mo x1 = some w ∧ u = w.1 ∧ Inv KL kc on rw rd ft tr (va_up la on.2.1 (la on.2.1)) w.2
def zStep_status (N : Nat) (Inv : List Nat → (Nat → zKC) → zNS → zOS → zOS → zOS → zOS → (Nat → zLS) → zMS → Prop) : Prop := ∀ (KL : List Nat) (kc : Nat → zKC) (on : zNS) (rw rd ft tr : zOS) (la : Nat → zLS) (mo : zMS), Inv KL kc on rw rd ft tr la mo → ∃ (u : Int32) (w : Int32 × zMS), fX11_status N on = some u ∧ fX12_status N mo = some w ∧ u = w.1 ∧ Inv KL kc on rw rd ft tr la w.2
/-- what the law's walk knows throughout -/
def zLwk (p : Program) (s : State) (m : MethodId) (c : Code) (D : va_G) (E : zE) (A : Nat → Prop) (b L : Nat) (xs : Nat → Int32) : Prop :=
  p.tables.exec = Jvm.exec ∧ c.code = cL_law ∧ c.maxLocals = 4 ∧ s.vm.findClass RL = some m.cls ∧ (∀ w ∈ Cond.initialized RL :: zB, w.before #[Value.ref b] s = true) ∧ va_X b L xs s s.heap ∧ b < s.heap.size ∧ ¬ A b ∧ (∀ q : Nat, s.heap.size ≤ q → A q) ∧ va_K D vwCl (zty E) s ∧ zSt E A s s.heap ∧ L ≤ 3072
def zOn (on : zNS) : Prop := on.2.1 = 2 ∧ on.2.2 = 3 ∨ on.2.1 = 3 ∧ on.2.2 = 2
theorem zin {i k L : Nat} (h : i + k < L) (hL : L ≤ 3072) {x : Int32} (hx : x = nI (i + k)) : vp_in x L := by
  rw [hx]; exact vp_in_nI h (by omega)
set_option maxHeartbeats 1000000 in
set_option maxRecDepth 100000 in
theorem lwc_row {p : Program} {l : Launch} {e : Env} {s : State} {m : MethodId} {below : List Frame} {meth : Method} {c : Code} {Q : State → Prop} {D : va_G} {E : zE} {A : Nat → Prop} {b L : Nat} {xs : Nat → Int32} (C0 : zLwk p s m c D E A b L xs) {N : Nat} {Inv : List Nat → (Nat → zKC) → zNS → zOS → zOS → zOS → zOS → (Nat → zLS) → zMS → Prop} (hst : zStep_row N Inv) {i : Nat} (hi : i + 6 ≤ L) (KL : List Nat) (kc : Nat → zKC) (on : zNS) (rw rd ft tr : zOS) (la : Nat → zLS) (mo : zMS) (hInv : Inv KL kc on rw rd ft tr la mo) (hOn : zOn on) {H : Heap} {locs : List Loc} {ls : Array Slot} {cells slots : Nat} (hc : cells + 8 ≤ 600000) (hs : slots + 24 ≤ 7302250) (hP : va_P D vwCl (zW E KL kc on rw rd ft tr la mo) H) (hD : va_D A (zW E KL kc on rw rd ft tr la mo)) (hS : va_S A s.heap H locs) (hl : lv_has ls 4 [(3, .int (nI i)), (0, .ref b), (1, .ref (E.1 0)), (2, .ref (E.1 68))]) (kk : ∀ (KL : List Nat) (kc : Nat → zKC) (on : zNS) (rw rd ft tr : zOS) (la : Nat → zLS) (mo : zMS), Inv KL kc on rw rd ft tr la mo → ∀ (H : Heap) (locs : List Loc) (ls : Array Slot), va_P D vwCl (zW E KL kc on rw rd ft tr la mo) H → va_D A (zW E KL kc on rw rd ft tr la mo) → va_S A s.heap H locs → lv_has ls 4 [(3, .int (nI i)), (0, .ref b), (1, .ref (E.1 0)), (2, .ref (E.1 68))] → W p l e room_1 s m #[Value.ref b] below meth c H locs (cells + 8) (slots + 24) Q (F0 m 1198 ls [])) : W p l e room_1 s m #[Value.ref b] below meth c H locs cells slots Q (F0 m 168 ls []) := by
  obtain ⟨hx, hb, hml, hown, hts, hX, hbl, hbA, hA, hK, hE, hL⟩ := C0
  obtain ⟨u, w, hu, hw, hr, hI2⟩ := hst KL kc on rw rd ft tr la mo hInv (xs (nI i + (1 : Int32)).toNatClampNeg) (xs (nI i + (2 : Int32)).toNatClampNeg) (xs (nI i + (3 : Int32)).toNatClampNeg)
  refine lv_aload_n hx hb dL_law_168 rfl (lv_at hl 2 rfl) ?_
  refine lv_aload_n hx hb dL_law_169 rfl (lv_at hl 1 rfl) ?_
  refine lv_iload_n hx hb dL_law_170 rfl (lv_at hl 0 rfl) ?_
  refine lv_iconst (v := 1) hx hb dL_law_171 (by decide) ?_
  refine lv_iadd hx hb dL_law_172 ?_
  refine va_sld hx hb hX hbl hbA hS (zin (k := 1) (i := i) (by omega) hL (nI_add i 1)) dL_law_173 ?_
  refine lv_aload_n hx hb dL_law_174 rfl (lv_at hl 1 rfl) ?_
  refine lv_iload_n hx hb dL_law_175 rfl (lv_at hl 0 rfl) ?_
  refine lv_iconst (v := 2) hx hb dL_law_176 (by decide) ?_
  refine lv_iadd hx hb dL_law_177 ?_
  refine va_sld hx hb hX hbl hbA hS (zin (k := 2) (i := i) (by omega) hL (nI_add i 2)) dL_law_178 ?_
  refine lv_aload_n hx hb dL_law_179 rfl (lv_at hl 1 rfl) ?_
  refine lv_iload_n hx hb dL_law_180 rfl (lv_at hl 0 rfl) ?_
  refine lv_iconst (v := 3) hx hb dL_law_181 (by decide) ?_
  refine lv_iadd hx hb dL_law_182 ?_
  refine va_sld hx hb hX hbl hbA hS (zin (k := 3) (i := i) (by omega) hL (nI_add i 3)) dL_law_183 ?_
  refine zcall_i (va_runV (R := room_1) (As := [.int (xs (nI i + (1 : Int32)).toNatClampNeg), .int (xs (nI i + (2 : Int32)).toNatClampNeg), .int (xs (nI i + (3 : Int32)).toNatClampNeg)]) (rest := []) ⟨hx, hb, hml, hown, hts⟩ (qX11_row l D E KL kc on rw rd ft tr la mo N _ (xs (nI i + (1 : Int32)).toNatClampNeg) (xs (nI i + (2 : Int32)).toNatClampNeg) (xs (nI i + (3 : Int32)).toNatClampNeg) _ hu) (cwV 3 hts (zgV k1_3 k1_4 k1_5 k0_1 k1_6) rfl rfl rfl (by decide +kernel) ⟨Nat.le_of_ble_eq_true rfl, Nat.le_of_ble_eq_true rfl⟩) (zpv hE hS hA hK hP hD (va_recv hK hP (ci := 10) (q0 := 0) rfl (zg_on _ _ _ _ _ _ _ _ _ _))) rfl rfl hl.1 rfl (lv_room (Nat.le_of_ble_eq_true rfl)) dL_law_184 ⟨(show _ ≤ 600000 by omega), (show _ ≤ 7302250 by omega)⟩) hD hS hA (fun H locs hP hD hS => ?_)
  refine lv_aload_n hx hb dL_law_187 rfl (lv_at hl 3 rfl) ?_
  refine lv_aload_n hx hb dL_law_188 rfl (lv_at hl 1 rfl) ?_
  refine lv_iload_n hx hb dL_law_189 rfl (lv_at hl 0 rfl) ?_
  refine lv_iconst (v := 1) hx hb dL_law_190 (by decide) ?_
  refine lv_iadd hx hb dL_law_191 ?_
  refine va_sld hx hb hX hbl hbA hS (zin (k := 1) (i := i) (by omega) hL (nI_add i 1)) dL_law_192 ?_
  refine lv_aload_n hx hb dL_law_193 rfl (lv_at hl 1 rfl) ?_
  refine lv_iload_n hx hb dL_law_194 rfl (lv_at hl 0 rfl) ?_
  refine lv_iconst (v := 2) hx hb dL_law_195 (by decide) ?_
  refine lv_iadd hx hb dL_law_196 ?_
  refine va_sld hx hb hX hbl hbA hS (zin (k := 2) (i := i) (by omega) hL (nI_add i 2)) dL_law_197 ?_
  refine lv_aload_n hx hb dL_law_198 rfl (lv_at hl 1 rfl) ?_
  refine lv_iload_n hx hb dL_law_199 rfl (lv_at hl 0 rfl) ?_
  refine lv_iconst (v := 3) hx hb dL_law_200 (by decide) ?_
  refine lv_iadd hx hb dL_law_201 ?_
  refine va_sld hx hb hX hbl hbA hS (zin (k := 3) (i := i) (by omega) hL (nI_add i 3)) dL_law_202 ?_
  refine zcall_i (va_runV (R := room_1) (As := [.int (xs (nI i + (1 : Int32)).toNatClampNeg), .int (xs (nI i + (2 : Int32)).toNatClampNeg), .int (xs (nI i + (3 : Int32)).toNatClampNeg)]) (rest := [.int u.1]) ⟨hx, hb, hml, hown, hts⟩ (qX12_row l D E KL kc u.2.1 u.2.2 rd ft tr la mo N _ (xs (nI i + (1 : Int32)).toNatClampNeg) (xs (nI i + (2 : Int32)).toNatClampNeg) (xs (nI i + (3 : Int32)).toNatClampNeg) _ hw) (cwV 3 hts (zgV k4_161 k4_162 k4_163 k0_8 k4_164) rfl rfl rfl (by decide +kernel) ⟨Nat.le_of_ble_eq_true rfl, Nat.le_of_ble_eq_true rfl⟩) (zpv hE hS hA hK hP hD (va_recv hK hP (ci := 11) (q0 := 68) rfl (zg_mo _ _ _ _ _ _ _ _ _ _))) rfl rfl hl.1 rfl (lv_room (Nat.le_of_ble_eq_true rfl)) dL_law_203 ⟨(show _ ≤ 600000 by omega), (show _ ≤ 7302250 by omega)⟩) hD hS hA (fun H locs hP hD hS => ?_)
  refine lv_icmp_eq (tgt := 1198) hx hb dL_law_206 (by decide) (fun _ => ?_) (fun c1 => absurd hr c1)
  refine W.widen (k := cells + 8) (n := slots + 24) (by omega) (by omega) ?_
  exact kk _ _ _ _ _ _ _ _ _ hI2 _ _ _ hP hD hS hl
set_option maxHeartbeats 1000000 in
set_option maxRecDepth 100000 in
theorem lwc_feed {p : Program} {l : Launch} {e : Env} {s : State} {m : MethodId} {below : List Frame} {meth : Method} {c : Code} {Q : State → Prop} {D : va_G} {E : zE} {A : Nat → Prop} {b L : Nat} {xs : Nat → Int32} (C0 : zLwk p s m c D E A b L xs) {N : Nat} {Inv : List Nat → (Nat → zKC) → zNS → zOS → zOS → zOS → zOS → (Nat → zLS) → zMS → Prop} (hst : zStep_feed N Inv) {i : Nat} (hi : i + 6 ≤ L) (KL : List Nat) (kc : Nat → zKC) (on : zNS) (rw rd ft tr : zOS) (la : Nat → zLS) (mo : zMS) (hInv : Inv KL kc on rw rd ft tr la mo) (hOn : zOn on) {H : Heap} {locs : List Loc} {ls : Array Slot} {cells slots : Nat} (hc : cells + 8 ≤ 600000) (hs : slots + 24 ≤ 7302250) (hP : va_P D vwCl (zW E KL kc on rw rd ft tr la mo) H) (hD : va_D A (zW E KL kc on rw rd ft tr la mo)) (hS : va_S A s.heap H locs) (hl : lv_has ls 4 [(3, .int (nI i)), (0, .ref b), (1, .ref (E.1 0)), (2, .ref (E.1 68))]) (kk : ∀ (KL : List Nat) (kc : Nat → zKC) (on : zNS) (rw rd ft tr : zOS) (la : Nat → zLS) (mo : zMS), Inv KL kc on rw rd ft tr la mo → ∀ (H : Heap) (locs : List Loc) (ls : Array Slot), va_P D vwCl (zW E KL kc on rw rd ft tr la mo) H → va_D A (zW E KL kc on rw rd ft tr la mo) → va_S A s.heap H locs → lv_has ls 4 [(3, .int (nI i)), (0, .ref b), (1, .ref (E.1 0)), (2, .ref (E.1 68))] → W p l e room_1 s m #[Value.ref b] below meth c H locs (cells + 8) (slots + 24) Q (F0 m 1198 ls [])) : W p l e room_1 s m #[Value.ref b] below meth c H locs cells slots Q (F0 m 340 ls []) := by
  obtain ⟨hx, hb, hml, hown, hts, hX, hbl, hbA, hA, hK, hE, hL⟩ := C0
  obtain ⟨u, w, hu, hw, hr, hI2⟩ := hst KL kc on rw rd ft tr la mo hInv ((((xs (nI i + (1 : Int32)).toNatClampNeg).toInt64) <<< (((32 : Int32)).toInt64 &&& 63)) ||| (((xs (nI i + (2 : Int32)).toNatClampNeg).toInt64) &&& (4294967295 : Int64))) (xs (nI i + (3 : Int32)).toNatClampNeg)
  refine lv_aload_n hx hb dL_law_340 rfl (lv_at hl 2 rfl) ?_
  refine lv_aload_n hx hb dL_law_341 rfl (lv_at hl 1 rfl) ?_
  refine lv_iload_n hx hb dL_law_342 rfl (lv_at hl 0 rfl) ?_
  refine lv_iconst (v := 1) hx hb dL_law_343 (by decide) ?_
  refine lv_iadd hx hb dL_law_344 ?_
  refine va_sld hx hb hX hbl hbA hS (zin (k := 1) (i := i) (by omega) hL (nI_add i 1)) dL_law_345 ?_
  refine lv_i2l hx hb dL_law_346 rfl ?_
  refine lv_bipush (v := 32) hx hb dL_law_347 (by decide) ?_
  refine lv_lshl hx hb dL_law_349 rfl ?_
  refine lv_aload_n hx hb dL_law_350 rfl (lv_at hl 1 rfl) ?_
  refine lv_iload_n hx hb dL_law_351 rfl (lv_at hl 0 rfl) ?_
  refine lv_iconst (v := 2) hx hb dL_law_352 (by decide) ?_
  refine lv_iadd hx hb dL_law_353 ?_
  refine va_sld hx hb hX hbl hbA hS (zin (k := 2) (i := i) (by omega) hL (nI_add i 2)) dL_law_354 ?_
  refine lv_i2l hx hb dL_law_355 rfl ?_
  refine lv_ldc2 (own := RL) (v := 4294967295) hx hb hown (zh hts k6_34) dL_law_356 ?_
  refine lv_land hx hb dL_law_359 ?_
  refine lv_lor hx hb dL_law_360 ?_
  refine lv_aload_n hx hb dL_law_361 rfl (lv_at hl 1 rfl) ?_
  refine lv_iload_n hx hb dL_law_362 rfl (lv_at hl 0 rfl) ?_
  refine lv_iconst (v := 3) hx hb dL_law_363 (by decide) ?_
  refine lv_iadd hx hb dL_law_364 ?_
  refine va_sld hx hb hX hbl hbA hS (zin (k := 3) (i := i) (by omega) hL (nI_add i 3)) dL_law_365 ?_
  refine zcall_i (va_runV (R := room_1) (As := [.long ((((xs (nI i + (1 : Int32)).toNatClampNeg).toInt64) <<< (((32 : Int32)).toInt64 &&& 63)) ||| (((xs (nI i + (2 : Int32)).toNatClampNeg).toInt64) &&& (4294967295 : Int64))), .int (xs (nI i + (3 : Int32)).toNatClampNeg)]) (rest := []) ⟨hx, hb, hml, hown, hts⟩ (qX11_feed l D E KL kc on rw rd ft tr la mo N _ ((((xs (nI i + (1 : Int32)).toNatClampNeg).toInt64) <<< (((32 : Int32)).toInt64 &&& 63)) ||| (((xs (nI i + (2 : Int32)).toNatClampNeg).toInt64) &&& (4294967295 : Int64))) (xs (nI i + (3 : Int32)).toNatClampNeg) _ hu) (cwV 2 hts (zgV k1_82 k1_83 k1_84 k0_1 k1_85) rfl rfl rfl (by decide +kernel) ⟨Nat.le_of_ble_eq_true rfl, Nat.le_of_ble_eq_true rfl⟩) (zpv hE hS hA hK hP hD (va_recv hK hP (ci := 10) (q0 := 0) rfl (zg_on _ _ _ _ _ _ _ _ _ _))) rfl rfl hl.1 rfl (lv_room (Nat.le_of_ble_eq_true rfl)) dL_law_366 ⟨(show _ ≤ 600000 by omega), (show _ ≤ 7302250 by omega)⟩) hD hS hA (fun H locs hP hD hS => ?_)
  refine lv_aload_n hx hb dL_law_369 rfl (lv_at hl 3 rfl) ?_
  refine lv_aload_n hx hb dL_law_370 rfl (lv_at hl 1 rfl) ?_
  refine lv_iload_n hx hb dL_law_371 rfl (lv_at hl 0 rfl) ?_
  refine lv_iconst (v := 1) hx hb dL_law_372 (by decide) ?_
  refine lv_iadd hx hb dL_law_373 ?_
  refine va_sld hx hb hX hbl hbA hS (zin (k := 1) (i := i) (by omega) hL (nI_add i 1)) dL_law_374 ?_
  refine lv_i2l hx hb dL_law_375 rfl ?_
  refine lv_bipush (v := 32) hx hb dL_law_376 (by decide) ?_
  refine lv_lshl hx hb dL_law_378 rfl ?_
  refine lv_aload_n hx hb dL_law_379 rfl (lv_at hl 1 rfl) ?_
  refine lv_iload_n hx hb dL_law_380 rfl (lv_at hl 0 rfl) ?_
  refine lv_iconst (v := 2) hx hb dL_law_381 (by decide) ?_
  refine lv_iadd hx hb dL_law_382 ?_
  refine va_sld hx hb hX hbl hbA hS (zin (k := 2) (i := i) (by omega) hL (nI_add i 2)) dL_law_383 ?_
  refine lv_i2l hx hb dL_law_384 rfl ?_
  refine lv_ldc2 (own := RL) (v := 4294967295) hx hb hown (zh hts k6_34) dL_law_385 ?_
  refine lv_land hx hb dL_law_388 ?_
  refine lv_lor hx hb dL_law_389 ?_
  refine lv_aload_n hx hb dL_law_390 rfl (lv_at hl 1 rfl) ?_
  refine lv_iload_n hx hb dL_law_391 rfl (lv_at hl 0 rfl) ?_
  refine lv_iconst (v := 3) hx hb dL_law_392 (by decide) ?_
  refine lv_iadd hx hb dL_law_393 ?_
  refine va_sld hx hb hX hbl hbA hS (zin (k := 3) (i := i) (by omega) hL (nI_add i 3)) dL_law_394 ?_
  refine zcall_i (va_runV (R := room_1) (As := [.long ((((xs (nI i + (1 : Int32)).toNatClampNeg).toInt64) <<< (((32 : Int32)).toInt64 &&& 63)) ||| (((xs (nI i + (2 : Int32)).toNatClampNeg).toInt64) &&& (4294967295 : Int64))), .int (xs (nI i + (3 : Int32)).toNatClampNeg)]) (rest := [.int u.1]) ⟨hx, hb, hml, hown, hts⟩ (qX12_feed l D E KL kc on rw u.2 ft tr la mo N _ ((((xs (nI i + (1 : Int32)).toNatClampNeg).toInt64) <<< (((32 : Int32)).toInt64 &&& 63)) ||| (((xs (nI i + (2 : Int32)).toNatClampNeg).toInt64) &&& (4294967295 : Int64))) (xs (nI i + (3 : Int32)).toNatClampNeg) _ hw) (cwV 2 hts (zgV k4_191 k4_192 k4_193 k0_8 k4_194) rfl rfl rfl (by decide +kernel) ⟨Nat.le_of_ble_eq_true rfl, Nat.le_of_ble_eq_true rfl⟩) (zpv hE hS hA hK hP hD (va_recv hK hP (ci := 11) (q0 := 68) rfl (zg_mo _ _ _ _ _ _ _ _ _ _))) rfl rfl hl.1 rfl (lv_room (Nat.le_of_ble_eq_true rfl)) dL_law_395 ⟨(show _ ≤ 600000 by omega), (show _ ≤ 7302250 by omega)⟩) hD hS hA (fun H locs hP hD hS => ?_)
  refine lv_icmp_eq (tgt := 1198) hx hb dL_law_398 (by decide) (fun _ => ?_) (fun c1 => absurd hr c1)
  refine W.widen (k := cells + 8) (n := slots + 24) (by omega) (by omega) ?_
  exact kk _ _ _ _ _ _ _ _ _ hI2 _ _ _ hP hD hS hl
set_option maxHeartbeats 1000000 in
set_option maxRecDepth 100000 in
theorem lwc_land {p : Program} {l : Launch} {e : Env} {s : State} {m : MethodId} {below : List Frame} {meth : Method} {c : Code} {Q : State → Prop} {D : va_G} {E : zE} {A : Nat → Prop} {b L : Nat} {xs : Nat → Int32} (C0 : zLwk p s m c D E A b L xs) {N : Nat} {Inv : List Nat → (Nat → zKC) → zNS → zOS → zOS → zOS → zOS → (Nat → zLS) → zMS → Prop} (hst : zStep_land N Inv) {i : Nat} (hi : i + 6 ≤ L) (KL : List Nat) (kc : Nat → zKC) (on : zNS) (rw rd ft tr : zOS) (la : Nat → zLS) (mo : zMS) (hInv : Inv KL kc on rw rd ft tr la mo) (hOn : zOn on) {H : Heap} {locs : List Loc} {ls : Array Slot} {cells slots : Nat} (hc : cells + 8 ≤ 600000) (hs : slots + 24 ≤ 7302250) (hP : va_P D vwCl (zW E KL kc on rw rd ft tr la mo) H) (hD : va_D A (zW E KL kc on rw rd ft tr la mo)) (hS : va_S A s.heap H locs) (hl : lv_has ls 4 [(3, .int (nI i)), (0, .ref b), (1, .ref (E.1 0)), (2, .ref (E.1 68))]) (kk : ∀ (KL : List Nat) (kc : Nat → zKC) (on : zNS) (rw rd ft tr : zOS) (la : Nat → zLS) (mo : zMS), Inv KL kc on rw rd ft tr la mo → ∀ (H : Heap) (locs : List Loc) (ls : Array Slot), va_P D vwCl (zW E KL kc on rw rd ft tr la mo) H → va_D A (zW E KL kc on rw rd ft tr la mo) → va_S A s.heap H locs → lv_has ls 4 [(3, .int (nI i)), (0, .ref b), (1, .ref (E.1 0)), (2, .ref (E.1 68))] → W p l e room_1 s m #[Value.ref b] below meth c H locs (cells + 8) (slots + 24) Q (F0 m 1198 ls [])) : W p l e room_1 s m #[Value.ref b] below meth c H locs cells slots Q (F0 m 403 ls []) := by
  obtain ⟨hx, hb, hml, hown, hts, hX, hbl, hbA, hA, hK, hE, hL⟩ := C0
  obtain ⟨u, w, hu, hw, hr, hI2⟩ := hst KL kc on rw rd ft tr la mo hInv H.size (fun a ha => va_pl_lt (X := zX E on rw rd ft tr la mo) (f := zkf kc) hP ha)
  refine lv_aload_n hx hb dL_law_403 rfl (lv_at hl 2 rfl) ?_
  have ela : va_up la on.2.2 (la on.2.2) = la := by rw [zup_self]
  have hP : va_P D vwCl (zW E KL kc on rw rd ft tr (va_up la on.2.2 (la on.2.2)) mo) H := by rw [ela]; exact hP
  have hD : va_D A (zW E KL kc on rw rd ft tr (va_up la on.2.2 (la on.2.2)) mo) := by rw [ela]; exact hD
  refine zcall_i (va_runV (R := room_1) (As := []) (rest := []) ⟨hx, hb, hml, hown, hts⟩ (qX11_land l D E KL kc on rw rd ft tr la mo (by unfold zOn at hOn; omega) (la on.2.2) N H.size _ hu) (cwV 0 hts (zgV k1_91 k1_92 k1_93 k0_1 k1_94) rfl rfl rfl (by decide +kernel) ⟨Nat.le_of_ble_eq_true rfl, Nat.le_of_ble_eq_true rfl⟩) (zpv hE hS hA hK hP hD (va_recv hK hP (ci := 10) (q0 := 0) rfl (zg_on _ _ _ _ _ _ _ _ _ _))) rfl rfl hl.1 rfl (lv_room (Nat.le_of_ble_eq_true rfl)) dL_law_404 ⟨(show _ ≤ 600000 by omega), (show _ ≤ 7302250 by omega)⟩) hD hS hA (fun H locs hP hD hS => ?_)
  refine lv_aload_n hx hb dL_law_407 rfl (lv_at hl 3 rfl) ?_
  refine zcall_i (va_runV (R := room_1) (As := []) (rest := [.int u.1]) ⟨hx, hb, hml, hown, hts⟩ (qX12_land l D E u.2.1 u.2.2.1 u.2.2.2.2.1 rw u.2.2.2.2.2.1 ft tr (va_up la on.2.2 u.2.2.2.2.2.2) mo N _ _ hw) (cwV 0 hts (zgV k4_198 k4_199 k4_200 k0_8 k4_201) rfl rfl rfl (by decide +kernel) ⟨Nat.le_of_ble_eq_true rfl, Nat.le_of_ble_eq_true rfl⟩) (zpv hE hS hA hK hP hD (va_recv hK hP (ci := 11) (q0 := 68) rfl (zg_mo _ _ _ _ _ _ _ _ _ _))) rfl rfl hl.1 rfl (lv_room (Nat.le_of_ble_eq_true rfl)) dL_law_408 ⟨(show _ ≤ 600000 by omega), (show _ ≤ 7302250 by omega)⟩) hD hS hA (fun H locs hP hD hS => ?_)
  refine lv_icmp_eq (tgt := 1198) hx hb dL_law_411 (by decide) (fun _ => ?_) (fun c1 => absurd hr c1)
  refine W.widen (k := cells + 8) (n := slots + 24) (by omega) (by omega) ?_
  exact kk _ _ _ _ _ _ _ _ _ hI2 _ _ _ hP hD hS hl
set_option maxHeartbeats 1000000 in
set_option maxRecDepth 100000 in
theorem lwc_fit {p : Program} {l : Launch} {e : Env} {s : State} {m : MethodId} {below : List Frame} {meth : Method} {c : Code} {Q : State → Prop} {D : va_G} {E : zE} {A : Nat → Prop} {b L : Nat} {xs : Nat → Int32} (C0 : zLwk p s m c D E A b L xs) {N : Nat} {Inv : List Nat → (Nat → zKC) → zNS → zOS → zOS → zOS → zOS → (Nat → zLS) → zMS → Prop} (hst : zStep_fit N Inv) {i : Nat} (hi : i + 6 ≤ L) (KL : List Nat) (kc : Nat → zKC) (on : zNS) (rw rd ft tr : zOS) (la : Nat → zLS) (mo : zMS) (hInv : Inv KL kc on rw rd ft tr la mo) (hOn : zOn on) {H : Heap} {locs : List Loc} {ls : Array Slot} {cells slots : Nat} (hc : cells + 8 ≤ 600000) (hs : slots + 24 ≤ 7302250) (hP : va_P D vwCl (zW E KL kc on rw rd ft tr la mo) H) (hD : va_D A (zW E KL kc on rw rd ft tr la mo)) (hS : va_S A s.heap H locs) (hl : lv_has ls 4 [(3, .int (nI i)), (0, .ref b), (1, .ref (E.1 0)), (2, .ref (E.1 68))]) (kk : ∀ (KL : List Nat) (kc : Nat → zKC) (on : zNS) (rw rd ft tr : zOS) (la : Nat → zLS) (mo : zMS), Inv KL kc on rw rd ft tr la mo → ∀ (H : Heap) (locs : List Loc) (ls : Array Slot), va_P D vwCl (zW E KL kc on rw rd ft tr la mo) H → va_D A (zW E KL kc on rw rd ft tr la mo) → va_S A s.heap H locs → lv_has ls 4 [(3, .int (nI i)), (0, .ref b), (1, .ref (E.1 0)), (2, .ref (E.1 68))] → W p l e room_1 s m #[Value.ref b] below meth c H locs (cells + 8) (slots + 24) Q (F0 m 1198 ls [])) : W p l e room_1 s m #[Value.ref b] below meth c H locs cells slots Q (F0 m 948 ls []) := by
  obtain ⟨hx, hb, hml, hown, hts, hX, hbl, hbA, hA, hK, hE, hL⟩ := C0
  obtain ⟨u, w, hu, hw, hr, hI2⟩ := hst KL kc on rw rd ft tr la mo hInv (xs (nI i + (1 : Int32)).toNatClampNeg) (xs (nI i + (2 : Int32)).toNatClampNeg)
  refine lv_aload_n hx hb dL_law_948 rfl (lv_at hl 2 rfl) ?_
  refine lv_aload_n hx hb dL_law_949 rfl (lv_at hl 1 rfl) ?_
  refine lv_iload_n hx hb dL_law_950 rfl (lv_at hl 0 rfl) ?_
  refine lv_iconst (v := 1) hx hb dL_law_951 (by decide) ?_
  refine lv_iadd hx hb dL_law_952 ?_
  refine va_sld hx hb hX hbl hbA hS (zin (k := 1) (i := i) (by omega) hL (nI_add i 1)) dL_law_953 ?_
  refine lv_aload_n hx hb dL_law_954 rfl (lv_at hl 1 rfl) ?_
  refine lv_iload_n hx hb dL_law_955 rfl (lv_at hl 0 rfl) ?_
  refine lv_iconst (v := 2) hx hb dL_law_956 (by decide) ?_
  refine lv_iadd hx hb dL_law_957 ?_
  refine va_sld hx hb hX hbl hbA hS (zin (k := 2) (i := i) (by omega) hL (nI_add i 2)) dL_law_958 ?_
  have ela : va_up (va_up la on.2.1 (la on.2.1)) 4 (la 4) = la := by rw [zup_self, zup_self]
  have hP : va_P D vwCl (zW E KL kc on rw rd ft tr (va_up (va_up la on.2.1 (la on.2.1)) 4 (la 4)) mo) H := by rw [ela]; exact hP
  have hD : va_D A (zW E KL kc on rw rd ft tr (va_up (va_up la on.2.1 (la on.2.1)) 4 (la 4)) mo) := by rw [ela]; exact hD
  refine zcall_i (va_runV (R := room_1) (As := [.int (xs (nI i + (1 : Int32)).toNatClampNeg), .int (xs (nI i + (2 : Int32)).toNatClampNeg)]) (rest := []) ⟨hx, hb, hml, hown, hts⟩ (qX11_fit l D E KL kc on rw rd ft tr la mo (by unfold zOn at hOn; omega) (la on.2.1) (la 4) (by unfold zOn at hOn; omega) N _ (xs (nI i + (1 : Int32)).toNatClampNeg) (xs (nI i + (2 : Int32)).toNatClampNeg) _ hu) (cwV 2 hts (zgV k3_106 k3_107 k3_108 k0_1 k3_109) rfl rfl rfl (by decide +kernel) ⟨Nat.le_of_ble_eq_true rfl, Nat.le_of_ble_eq_true rfl⟩) (zpv hE hS hA hK hP hD (va_recv hK hP (ci := 10) (q0 := 0) rfl (zg_on _ _ _ _ _ _ _ _ _ _))) rfl rfl hl.1 rfl (lv_room (Nat.le_of_ble_eq_true rfl)) dL_law_959 ⟨(show _ ≤ 600000 by omega), (show _ ≤ 7302250 by omega)⟩) hD hS hA (fun H locs hP hD hS => ?_)
  refine lv_aload_n hx hb dL_law_962 rfl (lv_at hl 3 rfl) ?_
  refine lv_aload_n hx hb dL_law_963 rfl (lv_at hl 1 rfl) ?_
  refine lv_iload_n hx hb dL_law_964 rfl (lv_at hl 0 rfl) ?_
  refine lv_iconst (v := 1) hx hb dL_law_965 (by decide) ?_
  refine lv_iadd hx hb dL_law_966 ?_
  refine va_sld hx hb hX hbl hbA hS (zin (k := 1) (i := i) (by omega) hL (nI_add i 1)) dL_law_967 ?_
  refine lv_aload_n hx hb dL_law_968 rfl (lv_at hl 1 rfl) ?_
  refine lv_iload_n hx hb dL_law_969 rfl (lv_at hl 0 rfl) ?_
  refine lv_iconst (v := 2) hx hb dL_law_970 (by decide) ?_
  refine lv_iadd hx hb dL_law_971 ?_
  refine va_sld hx hb hX hbl hbA hS (zin (k := 2) (i := i) (by omega) hL (nI_add i 2)) dL_law_972 ?_
  refine zcall_i (va_runV (R := room_1) (As := [.int (xs (nI i + (1 : Int32)).toNatClampNeg), .int (xs (nI i + (2 : Int32)).toNatClampNeg)]) (rest := [.int u.1]) ⟨hx, hb, hml, hown, hts⟩ (qX12_fit l D E KL kc u.2.1 rw rd u.2.2.1 tr (va_up (va_up la on.2.1 (la on.2.1)) 4 u.2.2.2) mo N _ (xs (nI i + (1 : Int32)).toNatClampNeg) (xs (nI i + (2 : Int32)).toNatClampNeg) _ hw) (cwV 2 hts (zgV k5_197 k5_198 k5_199 k0_8 k5_200) rfl rfl rfl (by decide +kernel) ⟨Nat.le_of_ble_eq_true rfl, Nat.le_of_ble_eq_true rfl⟩) (zpv hE hS hA hK hP hD (va_recv hK hP (ci := 11) (q0 := 68) rfl (zg_mo _ _ _ _ _ _ _ _ _ _))) rfl rfl hl.1 rfl (lv_room (Nat.le_of_ble_eq_true rfl)) dL_law_973 ⟨(show _ ≤ 600000 by omega), (show _ ≤ 7302250 by omega)⟩) hD hS hA (fun H locs hP hD hS => ?_)
  refine lv_icmp_eq (tgt := 1198) hx hb dL_law_976 (by decide) (fun _ => ?_) (fun c1 => absurd hr c1)
  refine W.widen (k := cells + 8) (n := slots + 24) (by omega) (by omega) ?_
  exact kk _ _ _ _ _ _ _ _ _ hI2 _ _ _ hP hD hS hl
set_option maxHeartbeats 1000000 in
set_option maxRecDepth 100000 in
theorem lwc_image {p : Program} {l : Launch} {e : Env} {s : State} {m : MethodId} {below : List Frame} {meth : Method} {c : Code} {Q : State → Prop} {D : va_G} {E : zE} {A : Nat → Prop} {b L : Nat} {xs : Nat → Int32} (C0 : zLwk p s m c D E A b L xs) {N : Nat} {Inv : List Nat → (Nat → zKC) → zNS → zOS → zOS → zOS → zOS → (Nat → zLS) → zMS → Prop} (hst : zStep_image N Inv) {i : Nat} (hi : i + 6 ≤ L) (KL : List Nat) (kc : Nat → zKC) (on : zNS) (rw rd ft tr : zOS) (la : Nat → zLS) (mo : zMS) (hInv : Inv KL kc on rw rd ft tr la mo) (hOn : zOn on) {H : Heap} {locs : List Loc} {ls : Array Slot} {cells slots : Nat} (hc : cells + 8 ≤ 600000) (hs : slots + 24 ≤ 7302250) (hP : va_P D vwCl (zW E KL kc on rw rd ft tr la mo) H) (hD : va_D A (zW E KL kc on rw rd ft tr la mo)) (hS : va_S A s.heap H locs) (hl : lv_has ls 4 [(3, .int (nI i)), (0, .ref b), (1, .ref (E.1 0)), (2, .ref (E.1 68))]) (kk : ∀ (KL : List Nat) (kc : Nat → zKC) (on : zNS) (rw rd ft tr : zOS) (la : Nat → zLS) (mo : zMS), Inv KL kc on rw rd ft tr la mo → ∀ (H : Heap) (locs : List Loc) (ls : Array Slot), va_P D vwCl (zW E KL kc on rw rd ft tr la mo) H → va_D A (zW E KL kc on rw rd ft tr la mo) → va_S A s.heap H locs → lv_has ls 4 [(3, .int (nI i)), (0, .ref b), (1, .ref (E.1 0)), (2, .ref (E.1 68))] → W p l e room_1 s m #[Value.ref b] below meth c H locs (cells + 8) (slots + 24) Q (F0 m 1198 ls [])) : W p l e room_1 s m #[Value.ref b] below meth c H locs cells slots Q (F0 m 1004 ls []) := by
  obtain ⟨hx, hb, hml, hown, hts, hX, hbl, hbA, hA, hK, hE, hL⟩ := C0
  obtain ⟨u, w, hu, hw, hr, hI2⟩ := hst KL kc on rw rd ft tr la mo hInv (xs (nI i + (1 : Int32)).toNatClampNeg)
  refine lv_aload_n hx hb dL_law_1004 rfl (lv_at hl 2 rfl) ?_
  refine lv_aload_n hx hb dL_law_1005 rfl (lv_at hl 1 rfl) ?_
  refine lv_iload_n hx hb dL_law_1006 rfl (lv_at hl 0 rfl) ?_
  refine lv_iconst (v := 1) hx hb dL_law_1007 (by decide) ?_
  refine lv_iadd hx hb dL_law_1008 ?_
  refine va_sld hx hb hX hbl hbA hS (zin (k := 1) (i := i) (by omega) hL (nI_add i 1)) dL_law_1009 ?_
  have ela : va_up (va_up la on.2.1 (la on.2.1)) (if (xs (nI i + (1 : Int32)).toNatClampNeg) = 0 then 0 else 1) (la (if (xs (nI i + (1 : Int32)).toNatClampNeg) = 0 then 0 else 1)) = la := by rw [zup_self, zup_self]
  have hP : va_P D vwCl (zW E KL kc on rw rd ft tr (va_up (va_up la on.2.1 (la on.2.1)) (if (xs (nI i + (1 : Int32)).toNatClampNeg) = 0 then 0 else 1) (la (if (xs (nI i + (1 : Int32)).toNatClampNeg) = 0 then 0 else 1))) mo) H := by rw [ela]; exact hP
  have hD : va_D A (zW E KL kc on rw rd ft tr (va_up (va_up la on.2.1 (la on.2.1)) (if (xs (nI i + (1 : Int32)).toNatClampNeg) = 0 then 0 else 1) (la (if (xs (nI i + (1 : Int32)).toNatClampNeg) = 0 then 0 else 1))) mo) := by rw [ela]; exact hD
  refine zcall_i (va_runV (R := room_1) (As := [.int (xs (nI i + (1 : Int32)).toNatClampNeg)]) (rest := []) ⟨hx, hb, hml, hown, hts⟩ (qX11_image l D E KL kc on rw rd ft tr la mo (by unfold zOn at hOn; omega) (la on.2.1) (if (xs (nI i + (1 : Int32)).toNatClampNeg) = 0 then 0 else 1) (by split <;> omega) (la (if (xs (nI i + (1 : Int32)).toNatClampNeg) = 0 then 0 else 1)) (by unfold zOn at hOn; split <;> omega) N _ (xs (nI i + (1 : Int32)).toNatClampNeg) rfl _ hu) (cwV 1 hts (zgV k3_161 k3_162 k3_163 k0_1 k3_164) rfl rfl rfl (by decide +kernel) ⟨Nat.le_of_ble_eq_true rfl, Nat.le_of_ble_eq_true rfl⟩) (zpv hE hS hA hK hP hD (va_recv hK hP (ci := 10) (q0 := 0) rfl (zg_on _ _ _ _ _ _ _ _ _ _))) rfl rfl hl.1 rfl (lv_room (Nat.le_of_ble_eq_true rfl)) dL_law_1010 ⟨(show _ ≤ 600000 by omega), (show _ ≤ 7302250 by omega)⟩) hD hS hA (fun H locs hP hD hS => ?_)
  refine lv_aload_n hx hb dL_law_1013 rfl (lv_at hl 3 rfl) ?_
  refine lv_aload_n hx hb dL_law_1014 rfl (lv_at hl 1 rfl) ?_
  refine lv_iload_n hx hb dL_law_1015 rfl (lv_at hl 0 rfl) ?_
  refine lv_iconst (v := 1) hx hb dL_law_1016 (by decide) ?_
  refine lv_iadd hx hb dL_law_1017 ?_
  refine va_sld hx hb hX hbl hbA hS (zin (k := 1) (i := i) (by omega) hL (nI_add i 1)) dL_law_1018 ?_
  refine zcall_i (va_runV (R := room_1) (As := [.int (xs (nI i + (1 : Int32)).toNatClampNeg)]) (rest := [.int u.1]) ⟨hx, hb, hml, hown, hts⟩ (qX12_image l D E KL kc on rw rd ft tr (va_up (va_up la on.2.1 (la on.2.1)) (if (xs (nI i + (1 : Int32)).toNatClampNeg) = 0 then 0 else 1) u.2) mo N _ (xs (nI i + (1 : Int32)).toNatClampNeg) _ hw) (cwV 1 hts (zgV k5_217 k5_218 k5_219 k0_8 k5_220) rfl rfl rfl (by decide +kernel) ⟨Nat.le_of_ble_eq_true rfl, Nat.le_of_ble_eq_true rfl⟩) (zpv hE hS hA hK hP hD (va_recv hK hP (ci := 11) (q0 := 68) rfl (zg_mo _ _ _ _ _ _ _ _ _ _))) rfl rfl hl.1 rfl (lv_room (Nat.le_of_ble_eq_true rfl)) dL_law_1019 ⟨(show _ ≤ 600000 by omega), (show _ ≤ 7302250 by omega)⟩) hD hS hA (fun H locs hP hD hS => ?_)
  refine lv_icmp_eq (tgt := 1198) hx hb dL_law_1022 (by decide) (fun _ => ?_) (fun c1 => absurd hr c1)
  refine W.widen (k := cells + 8) (n := slots + 24) (by omega) (by omega) ?_
  exact kk _ _ _ _ _ _ _ _ _ hI2 _ _ _ hP hD hS hl
set_option maxHeartbeats 1000000 in
set_option maxRecDepth 100000 in
theorem lwc_count {p : Program} {l : Launch} {e : Env} {s : State} {m : MethodId} {below : List Frame} {meth : Method} {c : Code} {Q : State → Prop} {D : va_G} {E : zE} {A : Nat → Prop} {b L : Nat} {xs : Nat → Int32} (C0 : zLwk p s m c D E A b L xs) {N : Nat} {Inv : List Nat → (Nat → zKC) → zNS → zOS → zOS → zOS → zOS → (Nat → zLS) → zMS → Prop} (hst : zStep_count N Inv) {i : Nat} (hi : i + 6 ≤ L) (KL : List Nat) (kc : Nat → zKC) (on : zNS) (rw rd ft tr : zOS) (la : Nat → zLS) (mo : zMS) (hInv : Inv KL kc on rw rd ft tr la mo) (hOn : zOn on) {H : Heap} {locs : List Loc} {ls : Array Slot} {cells slots : Nat} (hc : cells + 8 ≤ 600000) (hs : slots + 24 ≤ 7302250) (hP : va_P D vwCl (zW E KL kc on rw rd ft tr la mo) H) (hD : va_D A (zW E KL kc on rw rd ft tr la mo)) (hS : va_S A s.heap H locs) (hl : lv_has ls 4 [(3, .int (nI i)), (0, .ref b), (1, .ref (E.1 0)), (2, .ref (E.1 68))]) (kk : ∀ (KL : List Nat) (kc : Nat → zKC) (on : zNS) (rw rd ft tr : zOS) (la : Nat → zLS) (mo : zMS), Inv KL kc on rw rd ft tr la mo → ∀ (H : Heap) (locs : List Loc) (ls : Array Slot), va_P D vwCl (zW E KL kc on rw rd ft tr la mo) H → va_D A (zW E KL kc on rw rd ft tr la mo) → va_S A s.heap H locs → lv_has ls 4 [(3, .int (nI i)), (0, .ref b), (1, .ref (E.1 0)), (2, .ref (E.1 68))] → W p l e room_1 s m #[Value.ref b] below meth c H locs (cells + 8) (slots + 24) Q (F0 m 1198 ls [])) : W p l e room_1 s m #[Value.ref b] below meth c H locs cells slots Q (F0 m 1162 ls []) := by
  obtain ⟨hx, hb, hml, hown, hts, hX, hbl, hbA, hA, hK, hE, hL⟩ := C0
  obtain ⟨u, w, hu, hw, hr, hI2⟩ := hst KL kc on rw rd ft tr la mo hInv (xs (nI i + (1 : Int32)).toNatClampNeg)
  refine lv_aload_n hx hb dL_law_1162 rfl (lv_at hl 2 rfl) ?_
  refine lv_aload_n hx hb dL_law_1163 rfl (lv_at hl 1 rfl) ?_
  refine lv_iload_n hx hb dL_law_1164 rfl (lv_at hl 0 rfl) ?_
  refine lv_iconst (v := 1) hx hb dL_law_1165 (by decide) ?_
  refine lv_iadd hx hb dL_law_1166 ?_
  refine va_sld hx hb hX hbl hbA hS (zin (k := 1) (i := i) (by omega) hL (nI_add i 1)) dL_law_1167 ?_
  have ela : va_up la on.2.1 (la on.2.1) = la := by rw [zup_self]
  have hP : va_P D vwCl (zW E KL kc on rw rd ft tr (va_up la on.2.1 (la on.2.1)) mo) H := by rw [ela]; exact hP
  have hD : va_D A (zW E KL kc on rw rd ft tr (va_up la on.2.1 (la on.2.1)) mo) := by rw [ela]; exact hD
  refine zcall_i (va_runV (R := room_1) (As := [.int (xs (nI i + (1 : Int32)).toNatClampNeg)]) (rest := []) ⟨hx, hb, hml, hown, hts⟩ (qX11_count l D E KL kc on rw rd ft tr la mo (by unfold zOn at hOn; omega) (la on.2.1) N _ (xs (nI i + (1 : Int32)).toNatClampNeg) _ hu) (cwV 1 hts (zgV k4_48 k4_49 k4_50 k0_1 k4_51) rfl rfl rfl (by decide +kernel) ⟨Nat.le_of_ble_eq_true rfl, Nat.le_of_ble_eq_true rfl⟩) (zpv hE hS hA hK hP hD (va_recv hK hP (ci := 10) (q0 := 0) rfl (zg_on _ _ _ _ _ _ _ _ _ _))) rfl rfl hl.1 rfl (lv_room (Nat.le_of_ble_eq_true rfl)) dL_law_1168 ⟨(show _ ≤ 600000 by omega), (show _ ≤ 7302250 by omega)⟩) hD hS hA (fun H locs hP hD hS => ?_)
  refine lv_aload_n hx hb dL_law_1171 rfl (lv_at hl 3 rfl) ?_
  refine lv_aload_n hx hb dL_law_1172 rfl (lv_at hl 1 rfl) ?_
  refine lv_iload_n hx hb dL_law_1173 rfl (lv_at hl 0 rfl) ?_
  refine lv_iconst (v := 1) hx hb dL_law_1174 (by decide) ?_
  refine lv_iadd hx hb dL_law_1175 ?_
  refine va_sld hx hb hX hbl hbA hS (zin (k := 1) (i := i) (by omega) hL (nI_add i 1)) dL_law_1176 ?_
  refine zcall_i (va_runV (R := room_1) (As := [.int (xs (nI i + (1 : Int32)).toNatClampNeg)]) (rest := [.int u]) ⟨hx, hb, hml, hown, hts⟩ (qX12_count l D E KL kc on rw rd ft tr (va_up la on.2.1 (la on.2.1)) mo N _ (xs (nI i + (1 : Int32)).toNatClampNeg) _ hw) (cwV 1 hts (zgV k6_26 k6_27 k6_28 k0_8 k6_29) rfl rfl rfl (by decide +kernel) ⟨Nat.le_of_ble_eq_true rfl, Nat.le_of_ble_eq_true rfl⟩) (zpv hE hS hA hK hP hD (va_recv hK hP (ci := 11) (q0 := 68) rfl (zg_mo _ _ _ _ _ _ _ _ _ _))) rfl rfl hl.1 rfl (lv_room (Nat.le_of_ble_eq_true rfl)) dL_law_1177 ⟨(show _ ≤ 600000 by omega), (show _ ≤ 7302250 by omega)⟩) hD hS hA (fun H locs hP hD hS => ?_)
  refine lv_icmp_eq (tgt := 1198) hx hb dL_law_1180 (by decide) (fun _ => ?_) (fun c1 => absurd hr c1)
  refine W.widen (k := cells + 8) (n := slots + 24) (by omega) (by omega) ?_
  exact kk _ _ _ _ _ _ _ _ _ hI2 _ _ _ hP hD hS hl
