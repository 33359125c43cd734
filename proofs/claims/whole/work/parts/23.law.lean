def zStep_row (N : Nat) (Inv : List Nat → (Nat → zKC) → zNS → zOS → zOS → zOS → zOS → (Nat → zLS) → zMS → Prop) : Prop := ∀ (KL : List Nat) (kc : Nat → zKC) (on : zNS) (rw rd ft tr : zOS) (la : Nat → zLS) (mo : zMS), Inv KL kc on rw rd ft tr la mo → ∀ (x1 : Int32)  (x2 : Int32)  (x3 : Int32), ∃ (u : Int32 × zNS × zOS) (w : Int32 × zMS), fX11_row N on rw x1 x2 x3 = some u ∧ fX12_row N mo x1 x2 x3 = some w ∧ u.1 = w.1 ∧ Inv KL kc u.2.1 u.2.2 rd ft tr la w.2
def zStep_set (N : Nat) (Inv : List Nat → (Nat → zKC) → zNS → zOS → zOS → zOS → zOS → (Nat → zLS) → zMS → Prop) : Prop := ∀ (KL : List Nat) (kc : Nat → zKC) (on : zNS) (rw rd ft tr : zOS) (la : Nat → zLS) (mo : zMS), Inv KL kc on rw rd ft tr la mo → ∀ (x1 : Int32)  (x2 : Int32)  (x3 : Int32), ∃ (u : Int32 × zNS × zOS) (w : Int32 × zMS), fX11_set N on rw x1 x2 x3 = some u ∧ fX12_set N mo x1 x2 x3 = some w ∧ u.1 = w.1 ∧ Inv KL kc u.2.1 u.2.2 rd ft tr la w.2
def zStep_copy (N : Nat) (Inv : List Nat → (Nat → zKC) → zNS → zOS → zOS → zOS → zOS → (Nat → zLS) → zMS → Prop) : Prop := ∀ (KL : List Nat) (kc : Nat → zKC) (on : zNS) (rw rd ft tr : zOS) (la : Nat → zLS) (mo : zMS), Inv KL kc on rw rd ft tr la mo → ∀ (x1 : Int32)  (x2 : Int32)  (x3 : Int32)  (x4 : Int32)  (x5 : Int32), ∃ (u : Int32 × zNS × zOS) (w : Int32 × zMS), fX11_copy N on rw x1 x2 x3 x4 x5 = some u ∧ fX12_copy N mo x1 x2 x3 x4 x5 = some w ∧ u.1 = w.1 ∧ Inv KL kc u.2.1 u.2.2 rd ft tr la w.2
def zStep_drop (N : Nat) (Inv : List Nat → (Nat → zKC) → zNS → zOS → zOS → zOS → zOS → (Nat → zLS) → zMS → Prop) : Prop := ∀ (KL : List Nat) (kc : Nat → zKC) (on : zNS) (rw rd ft tr : zOS) (la : Nat → zLS) (mo : zMS), Inv KL kc on rw rd ft tr la mo → ∀ (x1 : Int32), ∃ (u : Int32 × zNS × zOS) (w : Int32 × zMS), fX11_drop N on rw x1 = some u ∧ fX12_drop N mo x1 = some w ∧ u.1 = w.1 ∧ Inv KL kc u.2.1 u.2.2 rd ft tr la w.2
def zStep_feed (N : Nat) (Inv : List Nat → (Nat → zKC) → zNS → zOS → zOS → zOS → zOS → (Nat → zLS) → zMS → Prop) : Prop := ∀ (KL : List Nat) (kc : Nat → zKC) (on : zNS) (rw rd ft tr : zOS) (la : Nat → zLS) (mo : zMS), Inv KL kc on rw rd ft tr la mo → ∀ (x1 : Int64)  (x2 : Int32), ∃ (u : Int32 × zOS) (w : Int32 × zMS), fX11_feed N rd x1 x2 = some u ∧ fX12_feed N mo x1 x2 = some w ∧ u.1 = w.1 ∧ Inv KL kc on rw u.2 ft tr la w.2
def zStep_land (N : Nat) (Inv : List Nat → (Nat → zKC) → zNS → zOS → zOS → zOS → zOS → (Nat → zLS) → zMS → Prop) : Prop := ∀ (KL : List Nat) (kc : Nat → zKC) (on : zNS) (rw rd ft tr : zOS) (la : Nat → zLS) (mo : zMS), Inv KL kc on rw rd ft tr la mo → ∀ hb : Nat, (∀ a ∈ KL, a < hb) → ∃ (u : Int32 × List Nat × (Nat → zKC) × Nat × zNS × zOS × zLS) (w : Int32 × zMS), fX11_land N KL kc hb on rd (la on.2.2) = some u ∧ fX12_land N mo = some w ∧ u.1 = w.1 ∧ Inv u.2.1 u.2.2.1 u.2.2.2.2.1 rw u.2.2.2.2.2.1 ft tr (va_up la on.2.2 u.2.2.2.2.2.2) w.2
def zStep_fault (N : Nat) (Inv : List Nat → (Nat → zKC) → zNS → zOS → zOS → zOS → zOS → (Nat → zLS) → zMS → Prop) : Prop := ∀ (KL : List Nat) (kc : Nat → zKC) (on : zNS) (rw rd ft tr : zOS) (la : Nat → zLS) (mo : zMS), Inv KL kc on rw rd ft tr la mo → ∃ (u : Int32) (w : Int32 × zMS), fX11_fault N rd = some u ∧ fX12_fault N mo = some w ∧ u = w.1 ∧ Inv KL kc on rw rd ft tr la w.2
def zStep_value (N : Nat) (Inv : List Nat → (Nat → zKC) → zNS → zOS → zOS → zOS → zOS → (Nat → zLS) → zMS → Prop) : Prop := ∀ (KL : List Nat) (kc : Nat → zKC) (on : zNS) (rw rd ft tr : zOS) (la : Nat → zLS) (mo : zMS), Inv KL kc on rw rd ft tr la mo → ∀ (x1 : Int32), ∃ (u : Int32) (w : Int32 × zMS), fX11_value N (la on.2.1) x1 = some u ∧ fX12_value N mo x1 = some w ∧ u = w.1 ∧ Inv KL kc on rw rd ft tr (va_up la on.2.1 (la on.2.1)) w.2
def zStep_go (N : Nat) (Inv : List Nat → (Nat → zKC) → zNS → zOS → zOS → zOS → zOS → (Nat → zLS) → zMS → Prop) : Prop := ∀ (KL : List Nat) (kc : Nat → zKC) (on : zNS) (rw rd ft tr : zOS) (la : Nat → zLS) (mo : zMS), Inv KL kc on rw rd ft tr la mo → ∀ (x1 : Int32)  (x2 : Int32), ∃ (u : Int32 × zLS) (w : Int32 × zMS), fX11_go N KL kc (la on.2.1) x1 x2 = some u ∧ fX12_go N mo x1 x2 = some w ∧ u.1 = w.1 ∧ Inv KL kc on rw rd ft tr (va_up la on.2.1 u.2) w.2
def zStep_tell (N : Nat) (Inv : List Nat → (Nat → zKC) → zNS → zOS → zOS → zOS → zOS → (Nat → zLS) → zMS → Prop) : Prop := ∀ (KL : List Nat) (kc : Nat → zKC) (on : zNS) (rw rd ft tr : zOS) (la : Nat → zLS) (mo : zMS), Inv KL kc on rw rd ft tr la mo → ∀ (x1 : Int32)  (x2 : Int32)  (x3 : Int32), ∃ (u : Int32 × zLS) (w : Int32 × zMS), fX11_tell N (la on.2.1) x1 x2 x3 = some u ∧ fX12_tell N mo x1 x2 x3 = some w ∧ u.1 = w.1 ∧ Inv KL kc on rw rd ft tr (va_up la on.2.1 u.2) w.2
def zStep_keeper (N : Nat) (Inv : List Nat → (Nat → zKC) → zNS → zOS → zOS → zOS → zOS → (Nat → zLS) → zMS → Prop) : Prop := ∀ (KL : List Nat) (kc : Nat → zKC) (on : zNS) (rw rd ft tr : zOS) (la : Nat → zLS) (mo : zMS), Inv KL kc on rw rd ft tr la mo → ∀ (x1 : Int32)  (x2 : Int32), ∃ (u : Int32) (w : Int32 × zMS), fX11_keeper N (la on.2.1) x1 x2 = some u ∧ fX12_keeper N mo x1 x2 = some w ∧ u = w.1 ∧ Inv KL kc on rw rd ft tr (va_up la on.2.1 (la on.2.1)) w.2
def zStep_piece (N : Nat) (Inv : List Nat → (Nat → zKC) → zNS → zOS → zOS → zOS → zOS → (Nat → zLS) → zMS → Prop) : Prop := ∀ (KL : List Nat) (kc : Nat → zKC) (on : zNS) (rw rd ft tr : zOS) (la : Nat → zLS) (mo : zMS), Inv KL kc on rw rd ft tr la mo → ∀ (x1 : Int32)  (x2 : Int32), ∃ (u : Int32) (w : Int32 × zMS), fX11_piece N (la on.2.1) x1 x2 = some u ∧ fX12_piece N mo x1 x2 = some w ∧ u = w.1 ∧ Inv KL kc on rw rd ft tr (va_up la on.2.1 (la on.2.1)) w.2
def zStep_alone (N : Nat) (Inv : List Nat → (Nat → zKC) → zNS → zOS → zOS → zOS → zOS → (Nat → zLS) → zMS → Prop) : Prop := ∀ (KL : List Nat) (kc : Nat → zKC) (on : zNS) (rw rd ft tr : zOS) (la : Nat → zLS) (mo : zMS), Inv KL kc on rw rd ft tr la mo → ∀ (x1 : Int32)  (x2 : Int32)  (x3 : Int32), ∃ (u : Int32) (w : Int32 × zMS), fX11_alone N (la on.2.1) x1 x2 x3 = some u ∧ fX12_alone N mo x1 x2 x3 = some w ∧ u = w.1 ∧ Inv KL kc on rw rd ft tr (va_up la on.2.1 (la on.2.1)) w.2
def zStep_best (N : Nat) (Inv : List Nat → (Nat → zKC) → zNS → zOS → zOS → zOS → zOS → (Nat → zLS) → zMS → Prop) : Prop := ∀ (KL : List Nat) (kc : Nat → zKC) (on : zNS) (rw rd ft tr : zOS) (la : Nat → zLS) (mo : zMS), Inv KL kc on rw rd ft tr la mo → ∀ (x1 : Int32), ∃ (u : Int32) (w : Int32 × zMS), fX11_best N (la on.2.1) x1 = some u ∧ fX12_best N mo x1 = some w ∧ u = w.1 ∧ Inv KL kc on rw rd ft tr (va_up la on.2.1 (la on.2.1)) w.2
def zStep_two (N : Nat) (Inv : List Nat → (Nat → zKC) → zNS → zOS → zOS → zOS → zOS → (Nat → zLS) → zMS → Prop) : Prop := ∀ (KL : List Nat) (kc : Nat → zKC) (on : zNS) (rw rd ft tr : zOS) (la : Nat → zLS) (mo : zMS), Inv KL kc on rw rd ft tr la mo → ∀ (x1 : Int32)  (x2 : Int32)  (x3 : Int32), ∃ (u : Int32) (w : Int32 × zMS), fX11_two N (la on.2.1) x1 x2 x3 = some u ∧ fX12_two N mo x1 x2 x3 = some w ∧ u = w.1 ∧ Inv KL kc on rw rd ft tr (va_up la on.2.1 (la on.2.1)) w.2
def zStep_think (N : Nat) (Inv : List Nat → (Nat → zKC) → zNS → zOS → zOS → zOS → zOS → (Nat → zLS) → zMS → Prop) : Prop := ∀ (KL : List Nat) (kc : Nat → zKC) (on : zNS) (rw rd ft tr : zOS) (la : Nat → zLS) (mo : zMS), Inv KL kc on rw rd ft tr la mo → ∀ (x1 : Int32)  (x2 : Int32)  (x3 : Int32), ∃ (u : Int32) (w : Int32 × zMS), fX11_think N x1 x2 x3 = some u ∧ fX12_think N mo x1 x2 x3 = some w ∧ u = w.1 ∧ Inv KL kc on rw rd ft tr la w.2
def zStep_lostUse (N : Nat) (Inv : List Nat → (Nat → zKC) → zNS → zOS → zOS → zOS → zOS → (Nat → zLS) → zMS → Prop) : Prop := ∀ (KL : List Nat) (kc : Nat → zKC) (on : zNS) (rw rd ft tr : zOS) (la : Nat → zLS) (mo : zMS), Inv KL kc on rw rd ft tr la mo → ∀ (x1 : Int32)  (x2 : Int32)  (x3 : Int32), ∃ (u : Int32) (w : Int32 × zMS), fX11_lostUse N (la on.2.1) x1 x2 x3 = some u ∧ fX12_lostUse N mo x1 x2 x3 = some w ∧ u = w.1 ∧ Inv KL kc on rw rd ft tr (va_up la on.2.1 (la on.2.1)) w.2
def zStep_silence (N : Nat) (Inv : List Nat → (Nat → zKC) → zNS → zOS → zOS → zOS → zOS → (Nat → zLS) → zMS → Prop) : Prop := ∀ (KL : List Nat) (kc : Nat → zKC) (on : zNS) (rw rd ft tr : zOS) (la : Nat → zLS) (mo : zMS), Inv KL kc on rw rd ft tr la mo → ∀ (x1 : Int32)  (x2 : Int32)  (x3 : Int32)  (x4 : Int32)  (x5 : Int32), ∃ (u : Int32) (w : Int32 × zMS), fX11_silence N (la on.2.1) x1 x2 x3 x4 x5 = some u ∧ fX12_silence N mo x1 x2 x3 x4 x5 = some w ∧ u = w.1 ∧ Inv KL kc on rw rd ft tr (va_up la on.2.1 (la on.2.1)) w.2
def zStep_corner (N : Nat) (Inv : List Nat → (Nat → zKC) → zNS → zOS → zOS → zOS → zOS → (Nat → zLS) → zMS → Prop) : Prop := ∀ (KL : List Nat) (kc : Nat → zKC) (on : zNS) (rw rd ft tr : zOS) (la : Nat → zLS) (mo : zMS), Inv KL kc on rw rd ft tr la mo → ∀ (x1 : Int32)  (x2 : Int32)  (x3 : Int32)  (x4 : Int32), ∃ (u : Int32 × zOS) (w : Int32 × zMS), fX11_corner N KL kc ft (la on.2.1) x1 x2 x3 x4 = some u ∧ fX12_corner N mo x1 x2 x3 x4 = some w ∧ u.1 = w.1 ∧ Inv KL kc on rw rd u.2 tr (va_up la on.2.1 (la on.2.1)) w.2
def zStep_make (N : Nat) (Inv : List Nat → (Nat → zKC) → zNS → zOS → zOS → zOS → zOS → (Nat → zLS) → zMS → Prop) : Prop := ∀ (KL : List Nat) (kc : Nat → zKC) (on : zNS) (rw rd ft tr : zOS) (la : Nat → zLS) (mo : zMS), Inv KL kc on rw rd ft tr la mo → ∀ (x1 : Int32)  (x2 : Int32)  (x3 : Int32), ∃ (u : Int32) (w : Int32 × zMS), fX11_make N (la on.2.1) x1 x2 x3 = some u ∧ fX12_make N mo x1 x2 x3 = some w ∧ u = w.1 ∧ Inv KL kc on rw rd ft tr (va_up la on.2.1 (la on.2.1)) w.2
def zStep_fit (N : Nat) (Inv : List Nat → (Nat → zKC) → zNS → zOS → zOS → zOS → zOS → (Nat → zLS) → zMS → Prop) : Prop := ∀ (KL : List Nat) (kc : Nat → zKC) (on : zNS) (rw rd ft tr : zOS) (la : Nat → zLS) (mo : zMS), Inv KL kc on rw rd ft tr la mo → ∀ (x1 : Int32)  (x2 : Int32), ∃ (u : Int32 × zNS × zOS × zLS) (w : Int32 × zMS), fX11_fit N KL kc on rw ft (la on.2.1) (la 4) x1 x2 = some u ∧ fX12_fit N mo x1 x2 = some w ∧ u.1 = w.1 ∧ Inv KL kc u.2.1 rw rd u.2.2.1 tr (va_up (va_up la on.2.1 (la on.2.1)) 4 u.2.2.2) w.2
def zStep_laws (N : Nat) (Inv : List Nat → (Nat → zKC) → zNS → zOS → zOS → zOS → zOS → (Nat → zLS) → zMS → Prop) : Prop := ∀ (KL : List Nat) (kc : Nat → zKC) (on : zNS) (rw rd ft tr : zOS) (la : Nat → zLS) (mo : zMS), Inv KL kc on rw rd ft tr la mo → ∀ (x1 : Int32), ∃ (u : Int32 × zLS) (w : Int32 × zMS), fX11_laws N KL kc (la on.2.1) (la 4) x1 = some u ∧ fX12_laws N mo x1 = some w ∧ u.1 = w.1 ∧ Inv KL kc on rw rd ft tr (va_up (va_up la on.2.1 (la on.2.1)) 4 u.2) w.2
def zStep_image (N : Nat) (Inv : List Nat → (Nat → zKC) → zNS → zOS → zOS → zOS → zOS → (Nat → zLS) → zMS → Prop) : Prop := ∀ (KL : List Nat) (kc : Nat → zKC) (on : zNS) (rw rd ft tr : zOS) (la : Nat → zLS) (mo : zMS), Inv KL kc on rw rd ft tr la mo → ∀ (x1 : Int32), ∃ (u : Int32 × zLS) (w : Int32 × zMS), fX11_image N KL kc (la on.2.1) (la (if x1 = 0 then 0 else 1)) x1 = some u ∧ fX12_image N mo x1 = some w ∧ u.1 = w.1 ∧ Inv KL kc on rw rd ft tr (va_up (va_up la on.2.1 (la on.2.1)) (if x1 = 0 then 0 else 1) u.2) w.2
def zStep_restore (N : Nat) (Inv : List Nat → (Nat → zKC) → zNS → zOS → zOS → zOS → zOS → (Nat → zLS) → zMS → Prop) : Prop := ∀ (KL : List Nat) (kc : Nat → zKC) (on : zNS) (rw rd ft tr : zOS) (la : Nat → zLS) (mo : zMS), Inv KL kc on rw rd ft tr la mo → ∀ (x1 : Int32), ∃ (u : Int32 × zLS) (w : Int32 × zMS), fX11_restore N KL kc (la on.2.1) (la (if x1 = 0 then 0 else 1)) x1 = some u ∧ fX12_restore N mo x1 = some w ∧ u.1 = w.1 ∧ Inv KL kc on rw rd ft tr (va_up (va_up la on.2.1 u.2) (if x1 = 0 then 0 else 1) (la (if x1 = 0 then 0 else 1))) w.2
def zStep_kind (N : Nat) (Inv : List Nat → (Nat → zKC) → zNS → zOS → zOS → zOS → zOS → (Nat → zLS) → zMS → Prop) : Prop := ∀ (KL : List Nat) (kc : Nat → zKC) (on : zNS) (rw rd ft tr : zOS) (la : Nat → zLS) (mo : zMS), Inv KL kc on rw rd ft tr la mo → ∀ (x1 : Int32), ∃ (u : Int32) (w : Int32 × zMS), fX11_kind N KL kc (la on.2.1) x1 = some u ∧ fX12_kind N mo x1 = some w ∧ u = w.1 ∧ Inv KL kc on rw rd ft tr (va_up la on.2.1 (la on.2.1)) w.2
def zStep_as (N : Nat) (Inv : List Nat → (Nat → zKC) → zNS → zOS → zOS → zOS → zOS → (Nat → zLS) → zMS → Prop) : Prop := ∀ (KL : List Nat) (kc : Nat → zKC) (on : zNS) (rw rd ft tr : zOS) (la : Nat → zLS) (mo : zMS), Inv KL kc on rw rd ft tr la mo → ∀ (x1 : Int32)  (x2 : Int32), ∃ (u : Int32 × zNS) (w : Int32 × zMS), fX11_as N KL kc on (la on.2.1) x1 x2 = some u ∧ fX12_as N mo x1 x2 = some w ∧ u.1 = w.1 ∧ Inv KL kc u.2 rw rd ft tr (va_up la on.2.1 (la on.2.1)) w.2
def zStep_ask (N : Nat) (Inv : List Nat → (Nat → zKC) → zNS → zOS → zOS → zOS → zOS → (Nat → zLS) → zMS → Prop) : Prop := ∀ (KL : List Nat) (kc : Nat → zKC) (on : zNS) (rw rd ft tr : zOS) (la : Nat → zLS) (mo : zMS), Inv KL kc on rw rd ft tr la mo → ∀ (x1 : Int32)  (x2 : Int32), ∃ (u : Int32 × zOS) (w : Int32 × zMS), fX11_ask N KL kc tr (la on.2.1) x1 x2 = some u ∧ fX12_ask N mo x1 x2 = some w ∧ u.1 = w.1 ∧ Inv KL kc on rw rd ft u.2 (va_up la on.2.1 (la on.2.1)) w.2
def zStep_trace (N : Nat) (Inv : List Nat → (Nat → zKC) → zNS → zOS → zOS → zOS → zOS → (Nat → zLS) → zMS → Prop) : Prop := ∀ (KL : List Nat) (kc : Nat → zKC) (on : zNS) (rw rd ft tr : zOS) (la : Nat → zLS) (mo : zMS), Inv KL kc on rw rd ft tr la mo → ∀ (x1 : Int32), ∃ (u : Int32) (w : Int32 × zMS), fX11_trace N tr x1 = some u ∧ fX12_trace N mo x1 = some w ∧ u = w.1 ∧ Inv KL kc on rw rd ft tr la w.2
def zStep_count (N : Nat) (Inv : List Nat → (Nat → zKC) → zNS → zOS → zOS → zOS → zOS → (Nat → zLS) → zMS → Prop) : Prop := ∀ (KL : List Nat) (kc : Nat → zKC) (on : zNS) (rw rd ft tr : zOS) (la : Nat → zLS) (mo : zMS), Inv KL kc on rw rd ft tr la mo → ∀ (x1 : Int32), ∃ (u : Int32) (w : Int32 × zMS), fX11_count N rw rd (la on.2.1) x1 = some u ∧ fX12_count N mo x1 = some w ∧ u = w.1 ∧ Inv KL kc on rw rd ft tr (va_up la on.2.1 (la on.2.1)) w.2
def zStep_status (N : Nat) (Inv : List Nat → (Nat → zKC) → zNS → zOS → zOS → zOS → zOS → (Nat → zLS) → zMS → Prop) : Prop := ∀ (KL : List Nat) (kc : Nat → zKC) (on : zNS) (rw rd ft tr : zOS) (la : Nat → zLS) (mo : zMS), Inv KL kc on rw rd ft tr la mo → ∃ (u : Int32) (w : Int32 × zMS), fX11_status N on = some u ∧ fX12_status N mo = some w ∧ u = w.1 ∧ Inv KL kc on rw rd ft tr la w.2
/-- what the law's walk knows throughout -/
def zLwk (p : Program) (s : State) (m : MethodId) (c : Code) (D : va_G) (E : zE) (A : Nat → Prop) (b L : Nat) (xs : Nat → Int32) : Prop :=
  p.tables.exec = Jvm.exec ∧ c.code = cL_law ∧ c.maxLocals = 4 ∧ s.vm.findClass RL = some m.cls ∧ (∀ w ∈ Cond.initialized RL :: zB, w.before #[Value.ref b] s = true) ∧ va_X b L xs s s.heap ∧ b < s.heap.size ∧ ¬ A b ∧ (∀ q : Nat, s.heap.size ≤ q → A q) ∧ va_K D vwCl (zty E) s ∧ zSt E A s s.heap ∧ L ≤ 3072
def zOn (on : zNS) : Prop := on.2.1 = 2 ∧ on.2.2 = 3 ∨ on.2.1 = 3 ∧ on.2.2 = 2
theorem zin {i k L : Nat} (h : i + k < L) (hL : L ≤ 3072) {x : Int32} (hx : x = nI (i + k)) : vp_in x L := by
  rw [hx]; exact vp_in_nI h (by omega)
set_option maxHeartbeats 1000000 in
set_option maxRecDepth 100000 in
theorem lwc_row {p : Program} {l : Launch} {e : Env} {s : State} {m : MethodId} {below : List Frame} {meth : Method} {c : Code} {Q : State → Prop} {D : va_G} {E : zE} {A : Nat → Prop} {b L : Nat} {xs : Nat → Int32} (C0 : zLwk p s m c D E A b L xs) {N : Nat} {Inv : List Nat → (Nat → zKC) → zNS → zOS → zOS → zOS → zOS → (Nat → zLS) → zMS → Prop} (hst : zStep_row N Inv) {i : Nat} (hi : i + 6 ≤ L) (KL : List Nat) (kc : Nat → zKC) (on : zNS) (rw rd ft tr : zOS) (la : Nat → zLS) (mo : zMS) (hInv : Inv KL kc on rw rd ft tr la mo) (hOn : zOn on) {H : Heap} {locs : List Loc} {ls : Array Slot} {cells slots : Nat} (hc : cells + 8 ≤ 600000) (hs : slots + 24 ≤ 7302250) (hP : va_P D vwCl (zW E KL kc on rw rd ft tr la mo) H) (hD : va_D A (zW E KL kc on rw rd ft tr la mo)) (hS : va_S A s.heap H locs) (hl : lv_has ls 4 [(3, .int (nI i)), (0, .ref b), (1, .ref (E.1 0)), (2, .ref (E.1 68))]) (kk : ∀ (KL : List Nat) (kc : Nat → zKC) (on : zNS) (rw rd ft tr : zOS) (la : Nat → zLS) (mo : zMS), Inv KL kc on rw rd ft tr la mo → ∀ (H : Heap) (locs : List Loc) (ls : Array Slot), va_P D vwCl (zW E KL kc on rw rd ft tr la mo) H → va_D A (zW E KL kc on rw rd ft tr la mo) → va_S A s.heap H locs → lv_has ls 4 [(3, .int (nI i)), (0, .ref b), (1, .ref (E.1 0)), (2, .ref (E.1 68))] → W p l e room_1 s m #[Value.ref b] below meth c H locs (cells + 8) (slots + 24) Q (F0 m 1198 ls [])) : W p l e room_1 s m #[Value.ref b] below meth c H locs cells slots Q (F0 m 168 ls []) := by
  obtain ⟨hx, hb, hml, hown, hts, hX, hbl, hbA, hA, hK, hE, hL⟩ := C0
  obtain ⟨u, w, hu, hw, hr, hI2⟩ := hst KL kc on rw rd ft tr la mo hInv (xs (nI i + (1 : Int32)).toNatClampNeg) (xs (nI i + (2 : Int32)).toNatClampNeg) (xs (nI i + (3 : Int32)).toNatClampNeg)
  refine lv_aload_n hx hb dL_law_168 rfl (lv_at hl 2 rfl) ?_
  refine lv_aload_n hx hb dL_law_169 rfl (lv_at hl 1 rfl) ?_
  refine lv_iload_n hx hb dL_law_170 rfl (lv_at hl 0 rfl) ?_
  refine lv_iconst (v := 1) hx hb dL_law_171 (by decide) ?_
  refine lv_iadd hx hb dL_law_172 ?_
  refine va_sld hx hb hX hbl hbA hS (zin (k := 1) (i := i) (by omega) hL (nI_add i 1)) dL_law_173 ?_
  refine lv_aload_n hx hb dL_law_174 rfl (lv_at hl 1 rfl) ?_
  refine lv_iload_n hx hb dL_law_175 rfl (lv_at hl 0 rfl) ?_
  refine lv_iconst (v := 2) hx hb dL_law_176 (by decide) ?_
  refine lv_iadd hx hb dL_law_177 ?_
  refine va_sld hx hb hX hbl hbA hS (zin (k := 2) (i := i) (by omega) hL (nI_add i 2)) dL_law_178 ?_
  refine lv_aload_n hx hb dL_law_179 rfl (lv_at hl 1 rfl) ?_
  refine lv_iload_n hx hb dL_law_180 rfl (lv_at hl 0 rfl) ?_
  refine lv_iconst (v := 3) hx hb dL_law_181 (by decide) ?_
  refine lv_iadd hx hb dL_law_182 ?_
  refine va_sld hx hb hX hbl hbA hS (zin (k := 3) (i := i) (by omega) hL (nI_add i 3)) dL_law_183 ?_
  refine zcall_i (va_runV (R := room_1) (As := [.int (xs (nI i + (1 : Int32)).toNatClampNeg), .int (xs (nI i + (2 : Int32)).toNatClampNeg), .int (xs (nI i + (3 : Int32)).toNatClampNeg)]) (rest := []) ⟨hx, hb, hml, hown, hts⟩ (qX11_row l D E KL kc on rw rd ft tr la mo N _ (xs (nI i + (1 : Int32)).toNatClampNeg) (xs (nI i + (2 : Int32)).toNatClampNeg) (xs (nI i + (3 : Int32)).toNatClampNeg) _ hu) (cwV 3 hts (zgV k1_3 k1_4 k1_5 k0_1 k1_6) rfl rfl rfl (by decide +kernel) ⟨Nat.le_of_ble_eq_true rfl, Nat.le_of_ble_eq_true rfl⟩) (zpv hE hS hA hK hP hD (va_recv hK hP (ci := 10) (q0 := 0) rfl (zg_on _ _ _ _ _ _ _ _ _ _))) rfl rfl hl.1 rfl (lv_room (Nat.le_of_ble_eq_true rfl)) dL_law_184 ⟨(show _ ≤ 600000 by omega), (show _ ≤ 7302250 by omega)⟩) hD hS hA (fun H locs hP hD hS => ?_)
  refine lv_aload_n hx hb dL_law_187 rfl (lv_at hl 3 rfl) ?_
  refine lv_aload_n hx hb dL_law_188 rfl (lv_at hl 1 rfl) ?_
  refine lv_iload_n hx hb dL_law_189 rfl (lv_at hl 0 rfl) ?_
  refine lv_iconst (v := 1) hx hb dL_law_190 (by decide) ?_
  refine lv_iadd hx hb dL_law_191 ?_
  refine va_sld hx hb hX hbl hbA hS (zin (k := 1) (i := i) (by omega) hL (nI_add i 1)) dL_law_192 ?_
  refine lv_aload_n hx hb dL_law_193 rfl (lv_at hl 1 rfl) ?_
  refine lv_iload_n hx hb dL_law_194 rfl (lv_at hl 0 rfl) ?_
  refine lv_iconst (v := 2) hx hb dL_law_195 (by decide) ?_
  refine lv_iadd hx hb dL_law_196 ?_
  refine va_sld hx hb hX hbl hbA hS (zin (k := 2) (i := i) (by omega) hL (nI_add i 2)) dL_law_197 ?_
  refine lv_aload_n hx hb dL_law_198 rfl (lv_at hl 1 rfl) ?_
  refine lv_iload_n hx hb dL_law_199 rfl (lv_at hl 0 rfl) ?_
  refine lv_iconst (v := 3) hx hb dL_law_200 (by decide) ?_
  refine lv_iadd hx hb dL_law_201 ?_
  refine va_sld hx hb hX hbl hbA hS (zin (k := 3) (i := i) (by omega) hL (nI_add i 3)) dL_law_202 ?_
  refine zcall_i (va_runV (R := room_1) (As := [.int (xs (nI i + (1 : Int32)).toNatClampNeg), .int (xs (nI i + (2 : Int32)).toNatClampNeg), .int (xs (nI i + (3 : Int32)).toNatClampNeg)]) (rest := [.int u.1]) ⟨hx, hb, hml, hown, hts⟩ (qX12_row l D E KL kc u.2.1 u.2.2 rd ft tr la mo N _ (xs (nI i + (1 : Int32)).toNatClampNeg) (xs (nI i + (2 : Int32)).toNatClampNeg) (xs (nI i + (3 : Int32)).toNatClampNeg) _ hw) (cwV 3 hts (zgV k4_161 k4_162 k4_163 k0_8 k4_164) rfl rfl rfl (by decide +kernel) ⟨Nat.le_of_ble_eq_true rfl, Nat.le_of_ble_eq_true rfl⟩) (zpv hE hS hA hK hP hD (va_recv hK hP (ci := 11) (q0 := 68) rfl (zg_mo _ _ _ _ _ _ _ _ _ _))) rfl rfl hl.1 rfl (lv_room (Nat.le_of_ble_eq_true rfl)) dL_law_203 ⟨(show _ ≤ 600000 by omega), (show _ ≤ 7302250 by omega)⟩) hD hS hA (fun H locs hP hD hS => ?_)
  refine lv_icmp_eq (tgt := 1198) hx hb dL_law_206 (by decide) (fun _ => ?_) (fun c1 => absurd hr c1)
  refine W.widen (k := cells + 8) (n := slots + 24) (by omega) (by omega) ?_
  exact kk _ _ _ _ _ _ _ _ _ hI2 _ _ _ hP hD hS hl
set_option maxHeartbeats 1000000 in
set_option maxRecDepth 100000 in
theorem lwc_set {p : Program} {l : Launch} {e : Env} {s : State} {m : MethodId} {below : List Frame} {meth : Method} {c : Code} {Q : State → Prop} {D : va_G} {E : zE} {A : Nat → Prop} {b L : Nat} {xs : Nat → Int32} (C0 : zLwk p s m c D E A b L xs) {N : Nat} {Inv : List Nat → (Nat → zKC) → zNS → zOS → zOS → zOS → zOS → (Nat → zLS) → zMS → Prop} (hst : zStep_set N Inv) {i : Nat} (hi : i + 6 ≤ L) (KL : List Nat) (kc : Nat → zKC) (on : zNS) (rw rd ft tr : zOS) (la : Nat → zLS) (mo : zMS) (hInv : Inv KL kc on rw rd ft tr la mo) (hOn : zOn on) {H : Heap} {locs : List Loc} {ls : Array Slot} {cells slots : Nat} (hc : cells + 8 ≤ 600000) (hs : slots + 24 ≤ 7302250) (hP : va_P D vwCl (zW E KL kc on rw rd ft tr la mo) H) (hD : va_D A (zW E KL kc on rw rd ft tr la mo)) (hS : va_S A s.heap H locs) (hl : lv_has ls 4 [(3, .int (nI i)), (0, .ref b), (1, .ref (E.1 0)), (2, .ref (E.1 68))]) (kk : ∀ (KL : List Nat) (kc : Nat → zKC) (on : zNS) (rw rd ft tr : zOS) (la : Nat → zLS) (mo : zMS), Inv KL kc on rw rd ft tr la mo → ∀ (H : Heap) (locs : List Loc) (ls : Array Slot), va_P D vwCl (zW E KL kc on rw rd ft tr la mo) H → va_D A (zW E KL kc on rw rd ft tr la mo) → va_S A s.heap H locs → lv_has ls 4 [(3, .int (nI i)), (0, .ref b), (1, .ref (E.1 0)), (2, .ref (E.1 68))] → W p l e room_1 s m #[Value.ref b] below meth c H locs (cells + 8) (slots + 24) Q (F0 m 1198 ls [])) : W p l e room_1 s m #[Value.ref b] below meth c H locs cells slots Q (F0 m 211 ls []) := by
  obtain ⟨hx, hb, hml, hown, hts, hX, hbl, hbA, hA, hK, hE, hL⟩ := C0
  obtain ⟨u, w, hu, hw, hr, hI2⟩ := hst KL kc on rw rd ft tr la mo hInv (xs (nI i + (1 : Int32)).toNatClampNeg) (xs (nI i + (2 : Int32)).toNatClampNeg) (xs (nI i + (3 : Int32)).toNatClampNeg)
  refine lv_aload_n hx hb dL_law_211 rfl (lv_at hl 2 rfl) ?_
  refine lv_aload_n hx hb dL_law_212 rfl (lv_at hl 1 rfl) ?_
  refine lv_iload_n hx hb dL_law_213 rfl (lv_at hl 0 rfl) ?_
  refine lv_iconst (v := 1) hx hb dL_law_214 (by decide) ?_
  refine lv_iadd hx hb dL_law_215 ?_
  refine va_sld hx hb hX hbl hbA hS (zin (k := 1) (i := i) (by omega) hL (nI_add i 1)) dL_law_216 ?_
  refine lv_aload_n hx hb dL_law_217 rfl (lv_at hl 1 rfl) ?_
  refine lv_iload_n hx hb dL_law_218 rfl (lv_at hl 0 rfl) ?_
  refine lv_iconst (v := 2) hx hb dL_law_219 (by decide) ?_
  refine lv_iadd hx hb dL_law_220 ?_
  refine va_sld hx hb hX hbl hbA hS (zin (k := 2) (i := i) (by omega) hL (nI_add i 2)) dL_law_221 ?_
  refine lv_aload_n hx hb dL_law_222 rfl (lv_at hl 1 rfl) ?_
  refine lv_iload_n hx hb dL_law_223 rfl (lv_at hl 0 rfl) ?_
  refine lv_iconst (v := 3) hx hb dL_law_224 (by decide) ?_
  refine lv_iadd hx hb dL_law_225 ?_
  refine va_sld hx hb hX hbl hbA hS (zin (k := 3) (i := i) (by omega) hL (nI_add i 3)) dL_law_226 ?_
  refine zcall_i (va_runV (R := room_1) (As := [.int (xs (nI i + (1 : Int32)).toNatClampNeg), .int (xs (nI i + (2 : Int32)).toNatClampNeg), .int (xs (nI i + (3 : Int32)).toNatClampNeg)]) (rest := []) ⟨hx, hb, hml, hown, hts⟩ (qX11_set l D E KL kc on rw rd ft tr la mo N _ (xs (nI i + (1 : Int32)).toNatClampNeg) (xs (nI i + (2 : Int32)).toNatClampNeg) (xs (nI i + (3 : Int32)).toNatClampNeg) _ hu) (cwV 3 hts (zgV k1_34 k1_35 k1_36 k0_1 k1_37) rfl rfl rfl (by decide +kernel) ⟨Nat.le_of_ble_eq_true rfl, Nat.le_of_ble_eq_true rfl⟩) (zpv hE hS hA hK hP hD (va_recv hK hP (ci := 10) (q0 := 0) rfl (zg_on _ _ _ _ _ _ _ _ _ _))) rfl rfl hl.1 rfl (lv_room (Nat.le_of_ble_eq_true rfl)) dL_law_227 ⟨(show _ ≤ 600000 by omega), (show _ ≤ 7302250 by omega)⟩) hD hS hA (fun H locs hP hD hS => ?_)
  refine lv_aload_n hx hb dL_law_230 rfl (lv_at hl 3 rfl) ?_
  refine lv_aload_n hx hb dL_law_231 rfl (lv_at hl 1 rfl) ?_
  refine lv_iload_n hx hb dL_law_232 rfl (lv_at hl 0 rfl) ?_
  refine lv_iconst (v := 1) hx hb dL_law_233 (by decide) ?_
  refine lv_iadd hx hb dL_law_234 ?_
  refine va_sld hx hb hX hbl hbA hS (zin (k := 1) (i := i) (by omega) hL (nI_add i 1)) dL_law_235 ?_
  refine lv_aload_n hx hb dL_law_236 rfl (lv_at hl 1 rfl) ?_
  refine lv_iload_n hx hb dL_law_237 rfl (lv_at hl 0 rfl) ?_
  refine lv_iconst (v := 2) hx hb dL_law_238 (by decide) ?_
  refine lv_iadd hx hb dL_law_239 ?_
  refine va_sld hx hb hX hbl hbA hS (zin (k := 2) (i := i) (by omega) hL (nI_add i 2)) dL_law_240 ?_
  refine lv_aload_n hx hb dL_law_241 rfl (lv_at hl 1 rfl) ?_
  refine lv_iload_n hx hb dL_law_242 rfl (lv_at hl 0 rfl) ?_
  refine lv_iconst (v := 3) hx hb dL_law_243 (by decide) ?_
  refine lv_iadd hx hb dL_law_244 ?_
  refine va_sld hx hb hX hbl hbA hS (zin (k := 3) (i := i) (by omega) hL (nI_add i 3)) dL_law_245 ?_
  refine zcall_i (va_runV (R := room_1) (As := [.int (xs (nI i + (1 : Int32)).toNatClampNeg), .int (xs (nI i + (2 : Int32)).toNatClampNeg), .int (xs (nI i + (3 : Int32)).toNatClampNeg)]) (rest := [.int u.1]) ⟨hx, hb, hml, hown, hts⟩ (qX12_set l D E KL kc u.2.1 u.2.2 rd ft tr la mo N _ (xs (nI i + (1 : Int32)).toNatClampNeg) (xs (nI i + (2 : Int32)).toNatClampNeg) (xs (nI i + (3 : Int32)).toNatClampNeg) _ hw) (cwV 3 hts (zgV k4_179 k4_180 k4_181 k0_8 k4_182) rfl rfl rfl (by decide +kernel) ⟨Nat.le_of_ble_eq_true rfl, Nat.le_of_ble_eq_true rfl⟩) (zpv hE hS hA hK hP hD (va_recv hK hP (ci := 11) (q0 := 68) rfl (zg_mo _ _ _ _ _ _ _ _ _ _))) rfl rfl hl.1 rfl (lv_room (Nat.le_of_ble_eq_true rfl)) dL_law_246 ⟨(show _ ≤ 600000 by omega), (show _ ≤ 7302250 by omega)⟩) hD hS hA (fun H locs hP hD hS => ?_)
  refine lv_icmp_eq (tgt := 1198) hx hb dL_law_249 (by decide) (fun _ => ?_) (fun c1 => absurd hr c1)
  refine W.widen (k := cells + 8) (n := slots + 24) (by omega) (by omega) ?_
  exact kk _ _ _ _ _ _ _ _ _ hI2 _ _ _ hP hD hS hl
set_option maxHeartbeats 1000000 in
set_option maxRecDepth 100000 in
theorem lwc_copy {p : Program} {l : Launch} {e : Env} {s : State} {m : MethodId} {below : List Frame} {meth : Method} {c : Code} {Q : State → Prop} {D : va_G} {E : zE} {A : Nat → Prop} {b L : Nat} {xs : Nat → Int32} (C0 : zLwk p s m c D E A b L xs) {N : Nat} {Inv : List Nat → (Nat → zKC) → zNS → zOS → zOS → zOS → zOS → (Nat → zLS) → zMS → Prop} (hst : zStep_copy N Inv) {i : Nat} (hi : i + 6 ≤ L) (KL : List Nat) (kc : Nat → zKC) (on : zNS) (rw rd ft tr : zOS) (la : Nat → zLS) (mo : zMS) (hInv : Inv KL kc on rw rd ft tr la mo) (hOn : zOn on) {H : Heap} {locs : List Loc} {ls : Array Slot} {cells slots : Nat} (hc : cells + 8 ≤ 600000) (hs : slots + 24 ≤ 7302250) (hP : va_P D vwCl (zW E KL kc on rw rd ft tr la mo) H) (hD : va_D A (zW E KL kc on rw rd ft tr la mo)) (hS : va_S A s.heap H locs) (hl : lv_has ls 4 [(3, .int (nI i)), (0, .ref b), (1, .ref (E.1 0)), (2, .ref (E.1 68))]) (kk : ∀ (KL : List Nat) (kc : Nat → zKC) (on : zNS) (rw rd ft tr : zOS) (la : Nat → zLS) (mo : zMS), Inv KL kc on rw rd ft tr la mo → ∀ (H : Heap) (locs : List Loc) (ls : Array Slot), va_P D vwCl (zW E KL kc on rw rd ft tr la mo) H → va_D A (zW E KL kc on rw rd ft tr la mo) → va_S A s.heap H locs → lv_has ls 4 [(3, .int (nI i)), (0, .ref b), (1, .ref (E.1 0)), (2, .ref (E.1 68))] → W p l e room_1 s m #[Value.ref b] below meth c H locs (cells + 8) (slots + 24) Q (F0 m 1198 ls [])) : W p l e room_1 s m #[Value.ref b] below meth c H locs cells slots Q (F0 m 254 ls []) := by
  obtain ⟨hx, hb, hml, hown, hts, hX, hbl, hbA, hA, hK, hE, hL⟩ := C0
  obtain ⟨u, w, hu, hw, hr, hI2⟩ := hst KL kc on rw rd ft tr la mo hInv (xs (nI i + (1 : Int32)).toNatClampNeg) (xs (nI i + (2 : Int32)).toNatClampNeg) (xs (nI i + (3 : Int32)).toNatClampNeg) (xs (nI i + (4 : Int32)).toNatClampNeg) (xs (nI i + (5 : Int32)).toNatClampNeg)
  refine lv_aload_n hx hb dL_law_254 rfl (lv_at hl 2 rfl) ?_
  refine lv_aload_n hx hb dL_law_255 rfl (lv_at hl 1 rfl) ?_
  refine lv_iload_n hx hb dL_law_256 rfl (lv_at hl 0 rfl) ?_
  refine lv_iconst (v := 1) hx hb dL_law_257 (by decide) ?_
  refine lv_iadd hx hb dL_law_258 ?_
  refine va_sld hx hb hX hbl hbA hS (zin (k := 1) (i := i) (by omega) hL (nI_add i 1)) dL_law_259 ?_
  refine lv_aload_n hx hb dL_law_260 rfl (lv_at hl 1 rfl) ?_
  refine lv_iload_n hx hb dL_law_261 rfl (lv_at hl 0 rfl) ?_
  refine lv_iconst (v := 2) hx hb dL_law_262 (by decide) ?_
  refine lv_iadd hx hb dL_law_263 ?_
  refine va_sld hx hb hX hbl hbA hS (zin (k := 2) (i := i) (by omega) hL (nI_add i 2)) dL_law_264 ?_
  refine lv_aload_n hx hb dL_law_265 rfl (lv_at hl 1 rfl) ?_
  refine lv_iload_n hx hb dL_law_266 rfl (lv_at hl 0 rfl) ?_
  refine lv_iconst (v := 3) hx hb dL_law_267 (by decide) ?_
  refine lv_iadd hx hb dL_law_268 ?_
  refine va_sld hx hb hX hbl hbA hS (zin (k := 3) (i := i) (by omega) hL (nI_add i 3)) dL_law_269 ?_
  refine lv_aload_n hx hb dL_law_270 rfl (lv_at hl 1 rfl) ?_
  refine lv_iload_n hx hb dL_law_271 rfl (lv_at hl 0 rfl) ?_
  refine lv_iconst (v := 4) hx hb dL_law_272 (by decide) ?_
  refine lv_iadd hx hb dL_law_273 ?_
  refine va_sld hx hb hX hbl hbA hS (zin (k := 4) (i := i) (by omega) hL (nI_add i 4)) dL_law_274 ?_
  refine lv_aload_n hx hb dL_law_275 rfl (lv_at hl 1 rfl) ?_
  refine lv_iload_n hx hb dL_law_276 rfl (lv_at hl 0 rfl) ?_
  refine lv_iconst (v := 5) hx hb dL_law_277 (by decide) ?_
  refine lv_iadd hx hb dL_law_278 ?_
  refine va_sld hx hb hX hbl hbA hS (zin (k := 5) (i := i) (by omega) hL (nI_add i 5)) dL_law_279 ?_
  refine zcall_i (va_runV (R := room_1) (As := [.int (xs (nI i + (1 : Int32)).toNatClampNeg), .int (xs (nI i + (2 : Int32)).toNatClampNeg), .int (xs (nI i + (3 : Int32)).toNatClampNeg), .int (xs (nI i + (4 : Int32)).toNatClampNeg), .int (xs (nI i + (5 : Int32)).toNatClampNeg)]) (rest := []) ⟨hx, hb, hml, hown, hts⟩ (qX11_copy l D E KL kc on rw rd ft tr la mo N _ (xs (nI i + (1 : Int32)).toNatClampNeg) (xs (nI i + (2 : Int32)).toNatClampNeg) (xs (nI i + (3 : Int32)).toNatClampNeg) (xs (nI i + (4 : Int32)).toNatClampNeg) (xs (nI i + (5 : Int32)).toNatClampNeg) _ hu) (cwV 5 hts (zgV k1_54 k1_55 k1_56 k0_1 k1_57) rfl rfl rfl (by decide +kernel) ⟨Nat.le_of_ble_eq_true rfl, Nat.le_of_ble_eq_true rfl⟩) (zpv hE hS hA hK hP hD (va_recv hK hP (ci := 10) (q0 := 0) rfl (zg_on _ _ _ _ _ _ _ _ _ _))) rfl rfl hl.1 rfl (lv_room (Nat.le_of_ble_eq_true rfl)) dL_law_280 ⟨(show _ ≤ 600000 by omega), (show _ ≤ 7302250 by omega)⟩) hD hS hA (fun H locs hP hD hS => ?_)
  refine lv_aload_n hx hb dL_law_283 rfl (lv_at hl 3 rfl) ?_
  refine lv_aload_n hx hb dL_law_284 rfl (lv_at hl 1 rfl) ?_
  refine lv_iload_n hx hb dL_law_285 rfl (lv_at hl 0 rfl) ?_
  refine lv_iconst (v := 1) hx hb dL_law_286 (by decide) ?_
  refine lv_iadd hx hb dL_law_287 ?_
  refine va_sld hx hb hX hbl hbA hS (zin (k := 1) (i := i) (by omega) hL (nI_add i 1)) dL_law_288 ?_
  refine lv_aload_n hx hb dL_law_289 rfl (lv_at hl 1 rfl) ?_
  refine lv_iload_n hx hb dL_law_290 rfl (lv_at hl 0 rfl) ?_
  refine lv_iconst (v := 2) hx hb dL_law_291 (by decide) ?_
  refine lv_iadd hx hb dL_law_292 ?_
  refine va_sld hx hb hX hbl hbA hS (zin (k := 2) (i := i) (by omega) hL (nI_add i 2)) dL_law_293 ?_
  refine lv_aload_n hx hb dL_law_294 rfl (lv_at hl 1 rfl) ?_
  refine lv_iload_n hx hb dL_law_295 rfl (lv_at hl 0 rfl) ?_
  refine lv_iconst (v := 3) hx hb dL_law_296 (by decide) ?_
  refine lv_iadd hx hb dL_law_297 ?_
  refine va_sld hx hb hX hbl hbA hS (zin (k := 3) (i := i) (by omega) hL (nI_add i 3)) dL_law_298 ?_
  refine lv_aload_n hx hb dL_law_299 rfl (lv_at hl 1 rfl) ?_
  refine lv_iload_n hx hb dL_law_300 rfl (lv_at hl 0 rfl) ?_
  refine lv_iconst (v := 4) hx hb dL_law_301 (by decide) ?_
  refine lv_iadd hx hb dL_law_302 ?_
  refine va_sld hx hb hX hbl hbA hS (zin (k := 4) (i := i) (by omega) hL (nI_add i 4)) dL_law_303 ?_
  refine lv_aload_n hx hb dL_law_304 rfl (lv_at hl 1 rfl) ?_
  refine lv_iload_n hx hb dL_law_305 rfl (lv_at hl 0 rfl) ?_
  refine lv_iconst (v := 5) hx hb dL_law_306 (by decide) ?_
  refine lv_iadd hx hb dL_law_307 ?_
  refine va_sld hx hb hX hbl hbA hS (zin (k := 5) (i := i) (by omega) hL (nI_add i 5)) dL_law_308 ?_
  refine zcall_i (va_runV (R := room_1) (As := [.int (xs (nI i + (1 : Int32)).toNatClampNeg), .int (xs (nI i + (2 : Int32)).toNatClampNeg), .int (xs (nI i + (3 : Int32)).toNatClampNeg), .int (xs (nI i + (4 : Int32)).toNatClampNeg), .int (xs (nI i + (5 : Int32)).toNatClampNeg)]) (rest := [.int u.1]) ⟨hx, hb, hml, hown, hts⟩ (qX12_copy l D E KL kc u.2.1 u.2.2 rd ft tr la mo N _ (xs (nI i + (1 : Int32)).toNatClampNeg) (xs (nI i + (2 : Int32)).toNatClampNeg) (xs (nI i + (3 : Int32)).toNatClampNeg) (xs (nI i + (4 : Int32)).toNatClampNeg) (xs (nI i + (5 : Int32)).toNatClampNeg) _ hw) (cwV 5 hts (zgV k4_183 k4_184 k4_185 k0_8 k4_186) rfl rfl rfl (by decide +kernel) ⟨Nat.le_of_ble_eq_true rfl, Nat.le_of_ble_eq_true rfl⟩) (zpv hE hS hA hK hP hD (va_recv hK hP (ci := 11) (q0 := 68) rfl (zg_mo _ _ _ _ _ _ _ _ _ _))) rfl rfl hl.1 rfl (lv_room (Nat.le_of_ble_eq_true rfl)) dL_law_309 ⟨(show _ ≤ 600000 by omega), (show _ ≤ 7302250 by omega)⟩) hD hS hA (fun H locs hP hD hS => ?_)
  refine lv_icmp_eq (tgt := 1198) hx hb dL_law_312 (by decide) (fun _ => ?_) (fun c1 => absurd hr c1)
  refine W.widen (k := cells + 8) (n := slots + 24) (by omega) (by omega) ?_
  exact kk _ _ _ _ _ _ _ _ _ hI2 _ _ _ hP hD hS hl
set_option maxHeartbeats 1000000 in
set_option maxRecDepth 100000 in
theorem lwc_drop {p : Program} {l : Launch} {e : Env} {s : State} {m : MethodId} {below : List Frame} {meth : Method} {c : Code} {Q : State → Prop} {D : va_G} {E : zE} {A : Nat → Prop} {b L : Nat} {xs : Nat → Int32} (C0 : zLwk p s m c D E A b L xs) {N : Nat} {Inv : List Nat → (Nat → zKC) → zNS → zOS → zOS → zOS → zOS → (Nat → zLS) → zMS → Prop} (hst : zStep_drop N Inv) {i : Nat} (hi : i + 6 ≤ L) (KL : List Nat) (kc : Nat → zKC) (on : zNS) (rw rd ft tr : zOS) (la : Nat → zLS) (mo : zMS) (hInv : Inv KL kc on rw rd ft tr la mo) (hOn : zOn on) {H : Heap} {locs : List Loc} {ls : Array Slot} {cells slots : Nat} (hc : cells + 8 ≤ 600000) (hs : slots + 24 ≤ 7302250) (hP : va_P D vwCl (zW E KL kc on rw rd ft tr la mo) H) (hD : va_D A (zW E KL kc on rw rd ft tr la mo)) (hS : va_S A s.heap H locs) (hl : lv_has ls 4 [(3, .int (nI i)), (0, .ref b), (1, .ref (E.1 0)), (2, .ref (E.1 68))]) (kk : ∀ (KL : List Nat) (kc : Nat → zKC) (on : zNS) (rw rd ft tr : zOS) (la : Nat → zLS) (mo : zMS), Inv KL kc on rw rd ft tr la mo → ∀ (H : Heap) (locs : List Loc) (ls : Array Slot), va_P D vwCl (zW E KL kc on rw rd ft tr la mo) H → va_D A (zW E KL kc on rw rd ft tr la mo) → va_S A s.heap H locs → lv_has ls 4 [(3, .int (nI i)), (0, .ref b), (1, .ref (E.1 0)), (2, .ref (E.1 68))] → W p l e room_1 s m #[Value.ref b] below meth c H locs (cells + 8) (slots + 24) Q (F0 m 1198 ls [])) : W p l e room_1 s m #[Value.ref b] below meth c H locs cells slots Q (F0 m 317 ls []) := by
  obtain ⟨hx, hb, hml, hown, hts, hX, hbl, hbA, hA, hK, hE, hL⟩ := C0
  obtain ⟨u, w, hu, hw, hr, hI2⟩ := hst KL kc on rw rd ft tr la mo hInv (xs (nI i + (1 : Int32)).toNatClampNeg)
  refine lv_aload_n hx hb dL_law_317 rfl (lv_at hl 2 rfl) ?_
  refine lv_aload_n hx hb dL_law_318 rfl (lv_at hl 1 rfl) ?_
  refine lv_iload_n hx hb dL_law_319 rfl (lv_at hl 0 rfl) ?_
  refine lv_iconst (v := 1) hx hb dL_law_320 (by decide) ?_
  refine lv_iadd hx hb dL_law_321 ?_
  refine va_sld hx hb hX hbl hbA hS (zin (k := 1) (i := i) (by omega) hL (nI_add i 1)) dL_law_322 ?_
  refine zcall_i (va_runV (R := room_1) (As := [.int (xs (nI i + (1 : Int32)).toNatClampNeg)]) (rest := []) ⟨hx, hb, hml, hown, hts⟩ (qX11_drop l D E KL kc on rw rd ft tr la mo N _ (xs (nI i + (1 : Int32)).toNatClampNeg) _ hu) (cwV 1 hts (zgV k1_74 k1_75 k1_76 k0_1 k1_77) rfl rfl rfl (by decide +kernel) ⟨Nat.le_of_ble_eq_true rfl, Nat.le_of_ble_eq_true rfl⟩) (zpv hE hS hA hK hP hD (va_recv hK hP (ci := 10) (q0 := 0) rfl (zg_on _ _ _ _ _ _ _ _ _ _))) rfl rfl hl.1 rfl (lv_room (Nat.le_of_ble_eq_true rfl)) dL_law_323 ⟨(show _ ≤ 600000 by omega), (show _ ≤ 7302250 by omega)⟩) hD hS hA (fun H locs hP hD hS => ?_)
  refine lv_aload_n hx hb dL_law_326 rfl (lv_at hl 3 rfl) ?_
  refine lv_aload_n hx hb dL_law_327 rfl (lv_at hl 1 rfl) ?_
  refine lv_iload_n hx hb dL_law_328 rfl (lv_at hl 0 rfl) ?_
  refine lv_iconst (v := 1) hx hb dL_law_329 (by decide) ?_
  refine lv_iadd hx hb dL_law_330 ?_
  refine va_sld hx hb hX hbl hbA hS (zin (k := 1) (i := i) (by omega) hL (nI_add i 1)) dL_law_331 ?_
  refine zcall_i (va_runV (R := room_1) (As := [.int (xs (nI i + (1 : Int32)).toNatClampNeg)]) (rest := [.int u.1]) ⟨hx, hb, hml, hown, hts⟩ (qX12_drop l D E KL kc u.2.1 u.2.2 rd ft tr la mo N _ (xs (nI i + (1 : Int32)).toNatClampNeg) _ hw) (cwV 1 hts (zgV k4_187 k4_188 k4_189 k0_8 k4_190) rfl rfl rfl (by decide +kernel) ⟨Nat.le_of_ble_eq_true rfl, Nat.le_of_ble_eq_true rfl⟩) (zpv hE hS hA hK hP hD (va_recv hK hP (ci := 11) (q0 := 68) rfl (zg_mo _ _ _ _ _ _ _ _ _ _))) rfl rfl hl.1 rfl (lv_room (Nat.le_of_ble_eq_true rfl)) dL_law_332 ⟨(show _ ≤ 600000 by omega), (show _ ≤ 7302250 by omega)⟩) hD hS hA (fun H locs hP hD hS => ?_)
  refine lv_icmp_eq (tgt := 1198) hx hb dL_law_335 (by decide) (fun _ => ?_) (fun c1 => absurd hr c1)
  refine W.widen (k := cells + 8) (n := slots + 24) (by omega) (by omega) ?_
  exact kk _ _ _ _ _ _ _ _ _ hI2 _ _ _ hP hD hS hl
set_option maxHeartbeats 1000000 in
set_option maxRecDepth 100000 in
theorem lwc_feed {p : Program} {l : Launch} {e : Env} {s : State} {m : MethodId} {below : List Frame} {meth : Method} {c : Code} {Q : State → Prop} {D : va_G} {E : zE} {A : Nat → Prop} {b L : Nat} {xs : Nat → Int32} (C0 : zLwk p s m c D E A b L xs) {N : Nat} {Inv : List Nat → (Nat → zKC) → zNS → zOS → zOS → zOS → zOS → (Nat → zLS) → zMS → Prop} (hst : zStep_feed N Inv) {i : Nat} (hi : i + 6 ≤ L) (KL : List Nat) (kc : Nat → zKC) (on : zNS) (rw rd ft tr : zOS) (la : Nat → zLS) (mo : zMS) (hInv : Inv KL kc on rw rd ft tr la mo) (hOn : zOn on) {H : Heap} {locs : List Loc} {ls : Array Slot} {cells slots : Nat} (hc : cells + 8 ≤ 600000) (hs : slots + 24 ≤ 7302250) (hP : va_P D vwCl (zW E KL kc on rw rd ft tr la mo) H) (hD : va_D A (zW E KL kc on rw rd ft tr la mo)) (hS : va_S A s.heap H locs) (hl : lv_has ls 4 [(3, .int (nI i)), (0, .ref b), (1, .ref (E.1 0)), (2, .ref (E.1 68))]) (kk : ∀ (KL : List Nat) (kc : Nat → zKC) (on : zNS) (rw rd ft tr : zOS) (la : Nat → zLS) (mo : zMS), Inv KL kc on rw rd ft tr la mo → ∀ (H : Heap) (locs : List Loc) (ls : Array Slot), va_P D vwCl (zW E KL kc on rw rd ft tr la mo) H → va_D A (zW E KL kc on rw rd ft tr la mo) → va_S A s.heap H locs → lv_has ls 4 [(3, .int (nI i)), (0, .ref b), (1, .ref (E.1 0)), (2, .ref (E.1 68))] → W p l e room_1 s m #[Value.ref b] below meth c H locs (cells + 8) (slots + 24) Q (F0 m 1198 ls [])) : W p l e room_1 s m #[Value.ref b] below meth c H locs cells slots Q (F0 m 340 ls []) := by
  obtain ⟨hx, hb, hml, hown, hts, hX, hbl, hbA, hA, hK, hE, hL⟩ := C0
  obtain ⟨u, w, hu, hw, hr, hI2⟩ := hst KL kc on rw rd ft tr la mo hInv ((((xs (nI i + (1 : Int32)).toNatClampNeg).toInt64) <<< (((32 : Int32)).toInt64 &&& 63)) ||| (((xs (nI i + (2 : Int32)).toNatClampNeg).toInt64) &&& (4294967295 : Int64))) (xs (nI i + (3 : Int32)).toNatClampNeg)
  refine lv_aload_n hx hb dL_law_340 rfl (lv_at hl 2 rfl) ?_
  refine lv_aload_n hx hb dL_law_341 rfl (lv_at hl 1 rfl) ?_
  refine lv_iload_n hx hb dL_law_342 rfl (lv_at hl 0 rfl) ?_
  refine lv_iconst (v := 1) hx hb dL_law_343 (by decide) ?_
  refine lv_iadd hx hb dL_law_344 ?_
  refine va_sld hx hb hX hbl hbA hS (zin (k := 1) (i := i) (by omega) hL (nI_add i 1)) dL_law_345 ?_
  refine lv_i2l hx hb dL_law_346 rfl ?_
  refine lv_bipush (v := 32) hx hb dL_law_347 (by decide) ?_
  refine lv_lshl hx hb dL_law_349 rfl ?_
  refine lv_aload_n hx hb dL_law_350 rfl (lv_at hl 1 rfl) ?_
  refine lv_iload_n hx hb dL_law_351 rfl (lv_at hl 0 rfl) ?_
  refine lv_iconst (v := 2) hx hb dL_law_352 (by decide) ?_
  refine lv_iadd hx hb dL_law_353 ?_
  refine va_sld hx hb hX hbl hbA hS (zin (k := 2) (i := i) (by omega) hL (nI_add i 2)) dL_law_354 ?_
  refine lv_i2l hx hb dL_law_355 rfl ?_
  refine lv_ldc2 (own := RL) (v := 4294967295) hx hb hown (zh hts k6_34) dL_law_356 ?_
  refine lv_land hx hb dL_law_359 ?_
  refine lv_lor hx hb dL_law_360 ?_
  refine lv_aload_n hx hb dL_law_361 rfl (lv_at hl 1 rfl) ?_
  refine lv_iload_n hx hb dL_law_362 rfl (lv_at hl 0 rfl) ?_
  refine lv_iconst (v := 3) hx hb dL_law_363 (by decide) ?_
  refine lv_iadd hx hb dL_law_364 ?_
  refine va_sld hx hb hX hbl hbA hS (zin (k := 3) (i := i) (by omega) hL (nI_add i 3)) dL_law_365 ?_
  refine zcall_i (va_runV (R := room_1) (As := [.long ((((xs (nI i + (1 : Int32)).toNatClampNeg).toInt64) <<< (((32 : Int32)).toInt64 &&& 63)) ||| (((xs (nI i + (2 : Int32)).toNatClampNeg).toInt64) &&& (4294967295 : Int64))), .int (xs (nI i + (3 : Int32)).toNatClampNeg)]) (rest := []) ⟨hx, hb, hml, hown, hts⟩ (qX11_feed l D E KL kc on rw rd ft tr la mo N _ ((((xs (nI i + (1 : Int32)).toNatClampNeg).toInt64) <<< (((32 : Int32)).toInt64 &&& 63)) ||| (((xs (nI i + (2 : Int32)).toNatClampNeg).toInt64) &&& (4294967295 : Int64))) (xs (nI i + (3 : Int32)).toNatClampNeg) _ hu) (cwV 2 hts (zgV k1_82 k1_83 k1_84 k0_1 k1_85) rfl rfl rfl (by decide +kernel) ⟨Nat.le_of_ble_eq_true rfl, Nat.le_of_ble_eq_true rfl⟩) (zpv hE hS hA hK hP hD (va_recv hK hP (ci := 10) (q0 := 0) rfl (zg_on _ _ _ _ _ _ _ _ _ _))) rfl rfl hl.1 rfl (lv_room (Nat.le_of_ble_eq_true rfl)) dL_law_366 ⟨(show _ ≤ 600000 by omega), (show _ ≤ 7302250 by omega)⟩) hD hS hA (fun H locs hP hD hS => ?_)
  refine lv_aload_n hx hb dL_law_369 rfl (lv_at hl 3 rfl) ?_
  refine lv_aload_n hx hb dL_law_370 rfl (lv_at hl 1 rfl) ?_
  refine lv_iload_n hx hb dL_law_371 rfl (lv_at hl 0 rfl) ?_
  refine lv_iconst (v := 1) hx hb dL_law_372 (by decide) ?_
  refine lv_iadd hx hb dL_law_373 ?_
  refine va_sld hx hb hX hbl hbA hS (zin (k := 1) (i := i) (by omega) hL (nI_add i 1)) dL_law_374 ?_
  refine lv_i2l hx hb dL_law_375 rfl ?_
  refine lv_bipush (v := 32) hx hb dL_law_376 (by decide) ?_
  refine lv_lshl hx hb dL_law_378 rfl ?_
  refine lv_aload_n hx hb dL_law_379 rfl (lv_at hl 1 rfl) ?_
  refine lv_iload_n hx hb dL_law_380 rfl (lv_at hl 0 rfl) ?_
  refine lv_iconst (v := 2) hx hb dL_law_381 (by decide) ?_
  refine lv_iadd hx hb dL_law_382 ?_
  refine va_sld hx hb hX hbl hbA hS (zin (k := 2) (i := i) (by omega) hL (nI_add i 2)) dL_law_383 ?_
  refine lv_i2l hx hb dL_law_384 rfl ?_
  refine lv_ldc2 (own := RL) (v := 4294967295) hx hb hown (zh hts k6_34) dL_law_385 ?_
  refine lv_land hx hb dL_law_388 ?_
  refine lv_lor hx hb dL_law_389 ?_
  refine lv_aload_n hx hb dL_law_390 rfl (lv_at hl 1 rfl) ?_
  refine lv_iload_n hx hb dL_law_391 rfl (lv_at hl 0 rfl) ?_
  refine lv_iconst (v := 3) hx hb dL_law_392 (by decide) ?_
  refine lv_iadd hx hb dL_law_393 ?_
  refine va_sld hx hb hX hbl hbA hS (zin (k := 3) (i := i) (by omega) hL (nI_add i 3)) dL_law_394 ?_
  refine zcall_i (va_runV (R := room_1) (As := [.long ((((xs (nI i + (1 : Int32)).toNatClampNeg).toInt64) <<< (((32 : Int32)).toInt64 &&& 63)) ||| (((xs (nI i + (2 : Int32)).toNatClampNeg).toInt64) &&& (4294967295 : Int64))), .int (xs (nI i + (3 : Int32)).toNatClampNeg)]) (rest := [.int u.1]) ⟨hx, hb, hml, hown, hts⟩ (qX12_feed l D E KL kc on rw u.2 ft tr la mo N _ ((((xs (nI i + (1 : Int32)).toNatClampNeg).toInt64) <<< (((32 : Int32)).toInt64 &&& 63)) ||| (((xs (nI i + (2 : Int32)).toNatClampNeg).toInt64) &&& (4294967295 : Int64))) (xs (nI i + (3 : Int32)).toNatClampNeg) _ hw) (cwV 2 hts (zgV k4_191 k4_192 k4_193 k0_8 k4_194) rfl rfl rfl (by decide +kernel) ⟨Nat.le_of_ble_eq_true rfl, Nat.le_of_ble_eq_true rfl⟩) (zpv hE hS hA hK hP hD (va_recv hK hP (ci := 11) (q0 := 68) rfl (zg_mo _ _ _ _ _ _ _ _ _ _))) rfl rfl hl.1 rfl (lv_room (Nat.le_of_ble_eq_true rfl)) dL_law_395 ⟨(show _ ≤ 600000 by omega), (show _ ≤ 7302250 by omega)⟩) hD hS hA (fun H locs hP hD hS => ?_)
  refine lv_icmp_eq (tgt := 1198) hx hb dL_law_398 (by decide) (fun _ => ?_) (fun c1 => absurd hr c1)
  refine W.widen (k := cells + 8) (n := slots + 24) (by omega) (by omega) ?_
  exact kk _ _ _ _ _ _ _ _ _ hI2 _ _ _ hP hD hS hl
set_option maxHeartbeats 1000000 in
set_option maxRecDepth 100000 in
theorem lwc_land {p : Program} {l : Launch} {e : Env} {s : State} {m : MethodId} {below : List Frame} {meth : Method} {c : Code} {Q : State → Prop} {D : va_G} {E : zE} {A : Nat → Prop} {b L : Nat} {xs : Nat → Int32} (C0 : zLwk p s m c D E A b L xs) {N : Nat} {Inv : List Nat → (Nat → zKC) → zNS → zOS → zOS → zOS → zOS → (Nat → zLS) → zMS → Prop} (hst : zStep_land N Inv) {i : Nat} (hi : i + 6 ≤ L) (KL : List Nat) (kc : Nat → zKC) (on : zNS) (rw rd ft tr : zOS) (la : Nat → zLS) (mo : zMS) (hInv : Inv KL kc on rw rd ft tr la mo) (hOn : zOn on) {H : Heap} {locs : List Loc} {ls : Array Slot} {cells slots : Nat} (hc : cells + 8 ≤ 600000) (hs : slots + 24 ≤ 7302250) (hP : va_P D vwCl (zW E KL kc on rw rd ft tr la mo) H) (hD : va_D A (zW E KL kc on rw rd ft tr la mo)) (hS : va_S A s.heap H locs) (hl : lv_has ls 4 [(3, .int (nI i)), (0, .ref b), (1, .ref (E.1 0)), (2, .ref (E.1 68))]) (kk : ∀ (KL : List Nat) (kc : Nat → zKC) (on : zNS) (rw rd ft tr : zOS) (la : Nat → zLS) (mo : zMS), Inv KL kc on rw rd ft tr la mo → ∀ (H : Heap) (locs : List Loc) (ls : Array Slot), va_P D vwCl (zW E KL kc on rw rd ft tr la mo) H → va_D A (zW E KL kc on rw rd ft tr la mo) → va_S A s.heap H locs → lv_has ls 4 [(3, .int (nI i)), (0, .ref b), (1, .ref (E.1 0)), (2, .ref (E.1 68))] → W p l e room_1 s m #[Value.ref b] below meth c H locs (cells + 8) (slots + 24) Q (F0 m 1198 ls [])) : W p l e room_1 s m #[Value.ref b] below meth c H locs cells slots Q (F0 m 403 ls []) := by
  obtain ⟨hx, hb, hml, hown, hts, hX, hbl, hbA, hA, hK, hE, hL⟩ := C0
  obtain ⟨u, w, hu, hw, hr, hI2⟩ := hst KL kc on rw rd ft tr la mo hInv H.size (fun a ha => va_pl_lt (X := zX E on rw rd ft tr la mo) (f := zkf kc) hP ha)
  refine lv_aload_n hx hb dL_law_403 rfl (lv_at hl 2 rfl) ?_
  have ela : va_up la on.2.2 (la on.2.2) = la := by rw [zup_self]
  have hP : va_P D vwCl (zW E KL kc on rw rd ft tr (va_up la on.2.2 (la on.2.2)) mo) H := by rw [ela]; exact hP
  have hD : va_D A (zW E KL kc on rw rd ft tr (va_up la on.2.2 (la on.2.2)) mo) := by rw [ela]; exact hD
  refine zcall_i (va_runV (R := room_1) (As := []) (rest := []) ⟨hx, hb, hml, hown, hts⟩ (qX11_land l D E KL kc on rw rd ft tr la mo (by unfold zOn at hOn; omega) (la on.2.2) N H.size _ hu) (cwV 0 hts (zgV k1_91 k1_92 k1_93 k0_1 k1_94) rfl rfl rfl (by decide +kernel) ⟨Nat.le_of_ble_eq_true rfl, Nat.le_of_ble_eq_true rfl⟩) (zpv hE hS hA hK hP hD (va_recv hK hP (ci := 10) (q0 := 0) rfl (zg_on _ _ _ _ _ _ _ _ _ _))) rfl rfl hl.1 rfl (lv_room (Nat.le_of_ble_eq_true rfl)) dL_law_404 ⟨(show _ ≤ 600000 by omega), (show _ ≤ 7302250 by omega)⟩) hD hS hA (fun H locs hP hD hS => ?_)
  refine lv_aload_n hx hb dL_law_407 rfl (lv_at hl 3 rfl) ?_
  refine zcall_i (va_runV (R := room_1) (As := []) (rest := [.int u.1]) ⟨hx, hb, hml, hown, hts⟩ (qX12_land l D E u.2.1 u.2.2.1 u.2.2.2.2.1 rw u.2.2.2.2.2.1 ft tr (va_up la on.2.2 u.2.2.2.2.2.2) mo N _ _ hw) (cwV 0 hts (zgV k4_198 k4_199 k4_200 k0_8 k4_201) rfl rfl rfl (by decide +kernel) ⟨Nat.le_of_ble_eq_true rfl, Nat.le_of_ble_eq_true rfl⟩) (zpv hE hS hA hK hP hD (va_recv hK hP (ci := 11) (q0 := 68) rfl (zg_mo _ _ _ _ _ _ _ _ _ _))) rfl rfl hl.1 rfl (lv_room (Nat.le_of_ble_eq_true rfl)) dL_law_408 ⟨(show _ ≤ 600000 by omega), (show _ ≤ 7302250 by omega)⟩) hD hS hA (fun H locs hP hD hS => ?_)
  refine lv_icmp_eq (tgt := 1198) hx hb dL_law_411 (by decide) (fun _ => ?_) (fun c1 => absurd hr c1)
  refine W.widen (k := cells + 8) (n := slots + 24) (by omega) (by omega) ?_
  exact kk _ _ _ _ _ _ _ _ _ hI2 _ _ _ hP hD hS hl
set_option maxHeartbeats 1000000 in
set_option maxRecDepth 100000 in
theorem lwc_fault {p : Program} {l : Launch} {e : Env} {s : State} {m : MethodId} {below : List Frame} {meth : Method} {c : Code} {Q : State → Prop} {D : va_G} {E : zE} {A : Nat → Prop} {b L : Nat} {xs : Nat → Int32} (C0 : zLwk p s m c D E A b L xs) {N : Nat} {Inv : List Nat → (Nat → zKC) → zNS → zOS → zOS → zOS → zOS → (Nat → zLS) → zMS → Prop} (hst : zStep_fault N Inv) {i : Nat} (hi : i + 6 ≤ L) (KL : List Nat) (kc : Nat → zKC) (on : zNS) (rw rd ft tr : zOS) (la : Nat → zLS) (mo : zMS) (hInv : Inv KL kc on rw rd ft tr la mo) (hOn : zOn on) {H : Heap} {locs : List Loc} {ls : Array Slot} {cells slots : Nat} (hc : cells + 8 ≤ 600000) (hs : slots + 24 ≤ 7302250) (hP : va_P D vwCl (zW E KL kc on rw rd ft tr la mo) H) (hD : va_D A (zW E KL kc on rw rd ft tr la mo)) (hS : va_S A s.heap H locs) (hl : lv_has ls 4 [(3, .int (nI i)), (0, .ref b), (1, .ref (E.1 0)), (2, .ref (E.1 68))]) (kk : ∀ (KL : List Nat) (kc : Nat → zKC) (on : zNS) (rw rd ft tr : zOS) (la : Nat → zLS) (mo : zMS), Inv KL kc on rw rd ft tr la mo → ∀ (H : Heap) (locs : List Loc) (ls : Array Slot), va_P D vwCl (zW E KL kc on rw rd ft tr la mo) H → va_D A (zW E KL kc on rw rd ft tr la mo) → va_S A s.heap H locs → lv_has ls 4 [(3, .int (nI i)), (0, .ref b), (1, .ref (E.1 0)), (2, .ref (E.1 68))] → W p l e room_1 s m #[Value.ref b] below meth c H locs (cells + 8) (slots + 24) Q (F0 m 1198 ls [])) : W p l e room_1 s m #[Value.ref b] below meth c H locs cells slots Q (F0 m 416 ls []) := by
  obtain ⟨hx, hb, hml, hown, hts, hX, hbl, hbA, hA, hK, hE, hL⟩ := C0
  obtain ⟨u, w, hu, hw, hr, hI2⟩ := hst KL kc on rw rd ft tr la mo hInv
  refine lv_aload_n hx hb dL_law_416 rfl (lv_at hl 2 rfl) ?_
  refine zcall_i (va_runV (R := room_1) (As := []) (rest := []) ⟨hx, hb, hml, hown, hts⟩ (qX11_fault l D E KL kc on rw rd ft tr la mo N _ _ hu) (cwV 0 hts (zgV k2_92 k2_93 k2_94 k0_1 k2_95) rfl rfl rfl (by decide +kernel) ⟨Nat.le_of_ble_eq_true rfl, Nat.le_of_ble_eq_true rfl⟩) (zpv hE hS hA hK hP hD (va_recv hK hP (ci := 10) (q0 := 0) rfl (zg_on _ _ _ _ _ _ _ _ _ _))) rfl rfl hl.1 rfl (lv_room (Nat.le_of_ble_eq_true rfl)) dL_law_417 ⟨(show _ ≤ 600000 by omega), (show _ ≤ 7302250 by omega)⟩) hD hS hA (fun H locs hP hD hS => ?_)
  refine lv_aload_n hx hb dL_law_420 rfl (lv_at hl 3 rfl) ?_
  refine zcall_i (va_runV (R := room_1) (As := []) (rest := [.int u]) ⟨hx, hb, hml, hown, hts⟩ (qX12_fault l D E KL kc on rw rd ft tr la mo N _ _ hw) (cwV 0 hts (zgV k5_51 k5_52 k5_53 k0_8 k5_54) rfl rfl rfl (by decide +kernel) ⟨Nat.le_of_ble_eq_true rfl, Nat.le_of_ble_eq_true rfl⟩) (zpv hE hS hA hK hP hD (va_recv hK hP (ci := 11) (q0 := 68) rfl (zg_mo _ _ _ _ _ _ _ _ _ _))) rfl rfl hl.1 rfl (lv_room (Nat.le_of_ble_eq_true rfl)) dL_law_421 ⟨(show _ ≤ 600000 by omega), (show _ ≤ 7302250 by omega)⟩) hD hS hA (fun H locs hP hD hS => ?_)
  refine lv_icmp_eq (tgt := 1198) hx hb dL_law_424 (by decide) (fun _ => ?_) (fun c1 => absurd hr c1)
  refine W.widen (k := cells + 8) (n := slots + 24) (by omega) (by omega) ?_
  exact kk _ _ _ _ _ _ _ _ _ hI2 _ _ _ hP hD hS hl
set_option maxHeartbeats 1000000 in
set_option maxRecDepth 100000 in
theorem lwc_value {p : Program} {l : Launch} {e : Env} {s : State} {m : MethodId} {below : List Frame} {meth : Method} {c : Code} {Q : State → Prop} {D : va_G} {E : zE} {A : Nat → Prop} {b L : Nat} {xs : Nat → Int32} (C0 : zLwk p s m c D E A b L xs) {N : Nat} {Inv : List Nat → (Nat → zKC) → zNS → zOS → zOS → zOS → zOS → (Nat → zLS) → zMS → Prop} (hst : zStep_value N Inv) {i : Nat} (hi : i + 6 ≤ L) (KL : List Nat) (kc : Nat → zKC) (on : zNS) (rw rd ft tr : zOS) (la : Nat → zLS) (mo : zMS) (hInv : Inv KL kc on rw rd ft tr la mo) (hOn : zOn on) {H : Heap} {locs : List Loc} {ls : Array Slot} {cells slots : Nat} (hc : cells + 8 ≤ 600000) (hs : slots + 24 ≤ 7302250) (hP : va_P D vwCl (zW E KL kc on rw rd ft tr la mo) H) (hD : va_D A (zW E KL kc on rw rd ft tr la mo)) (hS : va_S A s.heap H locs) (hl : lv_has ls 4 [(3, .int (nI i)), (0, .ref b), (1, .ref (E.1 0)), (2, .ref (E.1 68))]) (kk : ∀ (KL : List Nat) (kc : Nat → zKC) (on : zNS) (rw rd ft tr : zOS) (la : Nat → zLS) (mo : zMS), Inv KL kc on rw rd ft tr la mo → ∀ (H : Heap) (locs : List Loc) (ls : Array Slot), va_P D vwCl (zW E KL kc on rw rd ft tr la mo) H → va_D A (zW E KL kc on rw rd ft tr la mo) → va_S A s.heap H locs → lv_has ls 4 [(3, .int (nI i)), (0, .ref b), (1, .ref (E.1 0)), (2, .ref (E.1 68))] → W p l e room_1 s m #[Value.ref b] below meth c H locs (cells + 8) (slots + 24) Q (F0 m 1198 ls [])) : W p l e room_1 s m #[Value.ref b] below meth c H locs cells slots Q (F0 m 429 ls []) := by
  obtain ⟨hx, hb, hml, hown, hts, hX, hbl, hbA, hA, hK, hE, hL⟩ := C0
  obtain ⟨u, w, hu, hw, hr, hI2⟩ := hst KL kc on rw rd ft tr la mo hInv (xs (nI i + (1 : Int32)).toNatClampNeg)
  refine lv_aload_n hx hb dL_law_429 rfl (lv_at hl 2 rfl) ?_
  refine lv_aload_n hx hb dL_law_430 rfl (lv_at hl 1 rfl) ?_
  refine lv_iload_n hx hb dL_law_431 rfl (lv_at hl 0 rfl) ?_
  refine lv_iconst (v := 1) hx hb dL_law_432 (by decide) ?_
  refine lv_iadd hx hb dL_law_433 ?_
  refine va_sld hx hb hX hbl hbA hS (zin (k := 1) (i := i) (by omega) hL (nI_add i 1)) dL_law_434 ?_
  have ela : va_up la on.2.1 (la on.2.1) = la := by rw [zup_self]
  have hP : va_P D vwCl (zW E KL kc on rw rd ft tr (va_up la on.2.1 (la on.2.1)) mo) H := by rw [ela]; exact hP
  have hD : va_D A (zW E KL kc on rw rd ft tr (va_up la on.2.1 (la on.2.1)) mo) := by rw [ela]; exact hD
  refine zcall_i (va_runV (R := room_1) (As := [.int (xs (nI i + (1 : Int32)).toNatClampNeg)]) (rest := []) ⟨hx, hb, hml, hown, hts⟩ (qX11_value l D E KL kc on rw rd ft tr la mo (by unfold zOn at hOn; omega) (la on.2.1) N _ (xs (nI i + (1 : Int32)).toNatClampNeg) _ hu) (cwV 1 hts (zgV k2_96 k2_97 k2_98 k0_1 k2_99) rfl rfl rfl (by decide +kernel) ⟨Nat.le_of_ble_eq_true rfl, Nat.le_of_ble_eq_true rfl⟩) (zpv hE hS hA hK hP hD (va_recv hK hP (ci := 10) (q0 := 0) rfl (zg_on _ _ _ _ _ _ _ _ _ _))) rfl rfl hl.1 rfl (lv_room (Nat.le_of_ble_eq_true rfl)) dL_law_435 ⟨(show _ ≤ 600000 by omega), (show _ ≤ 7302250 by omega)⟩) hD hS hA (fun H locs hP hD hS => ?_)
  refine lv_aload_n hx hb dL_law_438 rfl (lv_at hl 3 rfl) ?_
  refine lv_aload_n hx hb dL_law_439 rfl (lv_at hl 1 rfl) ?_
  refine lv_iload_n hx hb dL_law_440 rfl (lv_at hl 0 rfl) ?_
  refine lv_iconst (v := 1) hx hb dL_law_441 (by decide) ?_
  refine lv_iadd hx hb dL_law_442 ?_
  refine va_sld hx hb hX hbl hbA hS (zin (k := 1) (i := i) (by omega) hL (nI_add i 1)) dL_law_443 ?_
  refine zcall_i (va_runV (R := room_1) (As := [.int (xs (nI i + (1 : Int32)).toNatClampNeg)]) (rest := [.int u]) ⟨hx, hb, hml, hown, hts⟩ (qX12_value l D E KL kc on rw rd ft tr (va_up la on.2.1 (la on.2.1)) mo N _ (xs (nI i + (1 : Int32)).toNatClampNeg) _ hw) (cwV 1 hts (zgV k5_55 k5_56 k5_57 k0_8 k5_58) rfl rfl rfl (by decide +kernel) ⟨Nat.le_of_ble_eq_true rfl, Nat.le_of_ble_eq_true rfl⟩) (zpv hE hS hA hK hP hD (va_recv hK hP (ci := 11) (q0 := 68) rfl (zg_mo _ _ _ _ _ _ _ _ _ _))) rfl rfl hl.1 rfl (lv_room (Nat.le_of_ble_eq_true rfl)) dL_law_444 ⟨(show _ ≤ 600000 by omega), (show _ ≤ 7302250 by omega)⟩) hD hS hA (fun H locs hP hD hS => ?_)
  refine lv_icmp_eq (tgt := 1198) hx hb dL_law_447 (by decide) (fun _ => ?_) (fun c1 => absurd hr c1)
  refine W.widen (k := cells + 8) (n := slots + 24) (by omega) (by omega) ?_
  exact kk _ _ _ _ _ _ _ _ _ hI2 _ _ _ hP hD hS hl
set_option maxHeartbeats 1000000 in
set_option maxRecDepth 100000 in
theorem lwc_go {p : Program} {l : Launch} {e : Env} {s : State} {m : MethodId} {below : List Frame} {meth : Method} {c : Code} {Q : State → Prop} {D : va_G} {E : zE} {A : Nat → Prop} {b L : Nat} {xs : Nat → Int32} (C0 : zLwk p s m c D E A b L xs) {N : Nat} {Inv : List Nat → (Nat → zKC) → zNS → zOS → zOS → zOS → zOS → (Nat → zLS) → zMS → Prop} (hst : zStep_go N Inv) {i : Nat} (hi : i + 6 ≤ L) (KL : List Nat) (kc : Nat → zKC) (on : zNS) (rw rd ft tr : zOS) (la : Nat → zLS) (mo : zMS) (hInv : Inv KL kc on rw rd ft tr la mo) (hOn : zOn on) {H : Heap} {locs : List Loc} {ls : Array Slot} {cells slots : Nat} (hc : cells + 8 ≤ 600000) (hs : slots + 24 ≤ 7302250) (hP : va_P D vwCl (zW E KL kc on rw rd ft tr la mo) H) (hD : va_D A (zW E KL kc on rw rd ft tr la mo)) (hS : va_S A s.heap H locs) (hl : lv_has ls 4 [(3, .int (nI i)), (0, .ref b), (1, .ref (E.1 0)), (2, .ref (E.1 68))]) (kk : ∀ (KL : List Nat) (kc : Nat → zKC) (on : zNS) (rw rd ft tr : zOS) (la : Nat → zLS) (mo : zMS), Inv KL kc on rw rd ft tr la mo → ∀ (H : Heap) (locs : List Loc) (ls : Array Slot), va_P D vwCl (zW E KL kc on rw rd ft tr la mo) H → va_D A (zW E KL kc on rw rd ft tr la mo) → va_S A s.heap H locs → lv_has ls 4 [(3, .int (nI i)), (0, .ref b), (1, .ref (E.1 0)), (2, .ref (E.1 68))] → W p l e room_1 s m #[Value.ref b] below meth c H locs (cells + 8) (slots + 24) Q (F0 m 1198 ls [])) : W p l e room_1 s m #[Value.ref b] below meth c H locs cells slots Q (F0 m 452 ls []) := by
  obtain ⟨hx, hb, hml, hown, hts, hX, hbl, hbA, hA, hK, hE, hL⟩ := C0
  obtain ⟨u, w, hu, hw, hr, hI2⟩ := hst KL kc on rw rd ft tr la mo hInv (xs (nI i + (1 : Int32)).toNatClampNeg) (xs (nI i + (2 : Int32)).toNatClampNeg)
  refine lv_aload_n hx hb dL_law_452 rfl (lv_at hl 2 rfl) ?_
  refine lv_aload_n hx hb dL_law_453 rfl (lv_at hl 1 rfl) ?_
  refine lv_iload_n hx hb dL_law_454 rfl (lv_at hl 0 rfl) ?_
  refine lv_iconst (v := 1) hx hb dL_law_455 (by decide) ?_
  refine lv_iadd hx hb dL_law_456 ?_
  refine va_sld hx hb hX hbl hbA hS (zin (k := 1) (i := i) (by omega) hL (nI_add i 1)) dL_law_457 ?_
  refine lv_aload_n hx hb dL_law_458 rfl (lv_at hl 1 rfl) ?_
  refine lv_iload_n hx hb dL_law_459 rfl (lv_at hl 0 rfl) ?_
  refine lv_iconst (v := 2) hx hb dL_law_460 (by decide) ?_
  refine lv_iadd hx hb dL_law_461 ?_
  refine va_sld hx hb hX hbl hbA hS (zin (k := 2) (i := i) (by omega) hL (nI_add i 2)) dL_law_462 ?_
  have ela : va_up la on.2.1 (la on.2.1) = la := by rw [zup_self]
  have hP : va_P D vwCl (zW E KL kc on rw rd ft tr (va_up la on.2.1 (la on.2.1)) mo) H := by rw [ela]; exact hP
  have hD : va_D A (zW E KL kc on rw rd ft tr (va_up la on.2.1 (la on.2.1)) mo) := by rw [ela]; exact hD
  refine zcall_i (va_runV (R := room_1) (As := [.int (xs (nI i + (1 : Int32)).toNatClampNeg), .int (xs (nI i + (2 : Int32)).toNatClampNeg)]) (rest := []) ⟨hx, hb, hml, hown, hts⟩ (qX11_go l D E KL kc on rw rd ft tr la mo (by unfold zOn at hOn; omega) (la on.2.1) N _ (xs (nI i + (1 : Int32)).toNatClampNeg) (xs (nI i + (2 : Int32)).toNatClampNeg) _ hu) (cwV 2 hts (zgV k2_116 k2_117 k2_118 k0_1 k2_119) rfl rfl rfl (by decide +kernel) ⟨Nat.le_of_ble_eq_true rfl, Nat.le_of_ble_eq_true rfl⟩) (zpv hE hS hA hK hP hD (va_recv hK hP (ci := 10) (q0 := 0) rfl (zg_on _ _ _ _ _ _ _ _ _ _))) rfl rfl hl.1 rfl (lv_room (Nat.le_of_ble_eq_true rfl)) dL_law_463 ⟨(show _ ≤ 600000 by omega), (show _ ≤ 7302250 by omega)⟩) hD hS hA (fun H locs hP hD hS => ?_)
  refine lv_aload_n hx hb dL_law_466 rfl (lv_at hl 3 rfl) ?_
  refine lv_aload_n hx hb dL_law_467 rfl (lv_at hl 1 rfl) ?_
  refine lv_iload_n hx hb dL_law_468 rfl (lv_at hl 0 rfl) ?_
  refine lv_iconst (v := 1) hx hb dL_law_469 (by decide) ?_
  refine lv_iadd hx hb dL_law_470 ?_
  refine va_sld hx hb hX hbl hbA hS (zin (k := 1) (i := i) (by omega) hL (nI_add i 1)) dL_law_471 ?_
  refine lv_aload_n hx hb dL_law_472 rfl (lv_at hl 1 rfl) ?_
  refine lv_iload_n hx hb dL_law_473 rfl (lv_at hl 0 rfl) ?_
  refine lv_iconst (v := 2) hx hb dL_law_474 (by decide) ?_
  refine lv_iadd hx hb dL_law_475 ?_
  refine va_sld hx hb hX hbl hbA hS (zin (k := 2) (i := i) (by omega) hL (nI_add i 2)) dL_law_476 ?_
  refine zcall_i (va_runV (R := room_1) (As := [.int (xs (nI i + (1 : Int32)).toNatClampNeg), .int (xs (nI i + (2 : Int32)).toNatClampNeg)]) (rest := [.int u.1]) ⟨hx, hb, hml, hown, hts⟩ (qX12_go l D E KL kc on rw rd ft tr (va_up la on.2.1 u.2) mo N _ (xs (nI i + (1 : Int32)).toNatClampNeg) (xs (nI i + (2 : Int32)).toNatClampNeg) _ hw) (cwV 2 hts (zgV k5_69 k5_70 k5_71 k0_8 k5_72) rfl rfl rfl (by decide +kernel) ⟨Nat.le_of_ble_eq_true rfl, Nat.le_of_ble_eq_true rfl⟩) (zpv hE hS hA hK hP hD (va_recv hK hP (ci := 11) (q0 := 68) rfl (zg_mo _ _ _ _ _ _ _ _ _ _))) rfl rfl hl.1 rfl (lv_room (Nat.le_of_ble_eq_true rfl)) dL_law_477 ⟨(show _ ≤ 600000 by omega), (show _ ≤ 7302250 by omega)⟩) hD hS hA (fun H locs hP hD hS => ?_)
  refine lv_icmp_eq (tgt := 1198) hx hb dL_law_480 (by decide) (fun _ => ?_) (fun c1 => absurd hr c1)
  refine W.widen (k := cells + 8) (n := slots + 24) (by omega) (by omega) ?_
  exact kk _ _ _ _ _ _ _ _ _ hI2 _ _ _ hP hD hS hl
set_option maxHeartbeats 1000000 in
set_option maxRecDepth 100000 in
theorem lwc_tell {p : Program} {l : Launch} {e : Env} {s : State} {m : MethodId} {below : List Frame} {meth : Method} {c : Code} {Q : State → Prop} {D : va_G} {E : zE} {A : Nat → Prop} {b L : Nat} {xs : Nat → Int32} (C0 : zLwk p s m c D E A b L xs) {N : Nat} {Inv : List Nat → (Nat → zKC) → zNS → zOS → zOS → zOS → zOS → (Nat → zLS) → zMS → Prop} (hst : zStep_tell N Inv) {i : Nat} (hi : i + 6 ≤ L) (KL : List Nat) (kc : Nat → zKC) (on : zNS) (rw rd ft tr : zOS) (la : Nat → zLS) (mo : zMS) (hInv : Inv KL kc on rw rd ft tr la mo) (hOn : zOn on) {H : Heap} {locs : List Loc} {ls : Array Slot} {cells slots : Nat} (hc : cells + 8 ≤ 600000) (hs : slots + 24 ≤ 7302250) (hP : va_P D vwCl (zW E KL kc on rw rd ft tr la mo) H) (hD : va_D A (zW E KL kc on rw rd ft tr la mo)) (hS : va_S A s.heap H locs) (hl : lv_has ls 4 [(3, .int (nI i)), (0, .ref b), (1, .ref (E.1 0)), (2, .ref (E.1 68))]) (kk : ∀ (KL : List Nat) (kc : Nat → zKC) (on : zNS) (rw rd ft tr : zOS) (la : Nat → zLS) (mo : zMS), Inv KL kc on rw rd ft tr la mo → ∀ (H : Heap) (locs : List Loc) (ls : Array Slot), va_P D vwCl (zW E KL kc on rw rd ft tr la mo) H → va_D A (zW E KL kc on rw rd ft tr la mo) → va_S A s.heap H locs → lv_has ls 4 [(3, .int (nI i)), (0, .ref b), (1, .ref (E.1 0)), (2, .ref (E.1 68))] → W p l e room_1 s m #[Value.ref b] below meth c H locs (cells + 8) (slots + 24) Q (F0 m 1198 ls [])) : W p l e room_1 s m #[Value.ref b] below meth c H locs cells slots Q (F0 m 485 ls []) := by
  obtain ⟨hx, hb, hml, hown, hts, hX, hbl, hbA, hA, hK, hE, hL⟩ := C0
  obtain ⟨u, w, hu, hw, hr, hI2⟩ := hst KL kc on rw rd ft tr la mo hInv (xs (nI i + (1 : Int32)).toNatClampNeg) (xs (nI i + (2 : Int32)).toNatClampNeg) (xs (nI i + (3 : Int32)).toNatClampNeg)
  refine lv_aload_n hx hb dL_law_485 rfl (lv_at hl 2 rfl) ?_
  refine lv_aload_n hx hb dL_law_486 rfl (lv_at hl 1 rfl) ?_
  refine lv_iload_n hx hb dL_law_487 rfl (lv_at hl 0 rfl) ?_
  refine lv_iconst (v := 1) hx hb dL_law_488 (by decide) ?_
  refine lv_iadd hx hb dL_law_489 ?_
  refine va_sld hx hb hX hbl hbA hS (zin (k := 1) (i := i) (by omega) hL (nI_add i 1)) dL_law_490 ?_
  refine lv_aload_n hx hb dL_law_491 rfl (lv_at hl 1 rfl) ?_
  refine lv_iload_n hx hb dL_law_492 rfl (lv_at hl 0 rfl) ?_
  refine lv_iconst (v := 2) hx hb dL_law_493 (by decide) ?_
  refine lv_iadd hx hb dL_law_494 ?_
  refine va_sld hx hb hX hbl hbA hS (zin (k := 2) (i := i) (by omega) hL (nI_add i 2)) dL_law_495 ?_
  refine lv_aload_n hx hb dL_law_496 rfl (lv_at hl 1 rfl) ?_
  refine lv_iload_n hx hb dL_law_497 rfl (lv_at hl 0 rfl) ?_
  refine lv_iconst (v := 3) hx hb dL_law_498 (by decide) ?_
  refine lv_iadd hx hb dL_law_499 ?_
  refine va_sld hx hb hX hbl hbA hS (zin (k := 3) (i := i) (by omega) hL (nI_add i 3)) dL_law_500 ?_
  have ela : va_up la on.2.1 (la on.2.1) = la := by rw [zup_self]
  have hP : va_P D vwCl (zW E KL kc on rw rd ft tr (va_up la on.2.1 (la on.2.1)) mo) H := by rw [ela]; exact hP
  have hD : va_D A (zW E KL kc on rw rd ft tr (va_up la on.2.1 (la on.2.1)) mo) := by rw [ela]; exact hD
  refine zcall_i (va_runV (R := room_1) (As := [.int (xs (nI i + (1 : Int32)).toNatClampNeg), .int (xs (nI i + (2 : Int32)).toNatClampNeg), .int (xs (nI i + (3 : Int32)).toNatClampNeg)]) (rest := []) ⟨hx, hb, hml, hown, hts⟩ (qX11_tell l D E KL kc on rw rd ft tr la mo (by unfold zOn at hOn; omega) (la on.2.1) N _ (xs (nI i + (1 : Int32)).toNatClampNeg) (xs (nI i + (2 : Int32)).toNatClampNeg) (xs (nI i + (3 : Int32)).toNatClampNeg) _ hu) (cwV 3 hts (zgV k2_208 k2_209 k2_210 k0_1 k2_211) rfl rfl rfl (by decide +kernel) ⟨Nat.le_of_ble_eq_true rfl, Nat.le_of_ble_eq_true rfl⟩) (zpv hE hS hA hK hP hD (va_recv hK hP (ci := 10) (q0 := 0) rfl (zg_on _ _ _ _ _ _ _ _ _ _))) rfl rfl hl.1 rfl (lv_room (Nat.le_of_ble_eq_true rfl)) dL_law_501 ⟨(show _ ≤ 600000 by omega), (show _ ≤ 7302250 by omega)⟩) hD hS hA (fun H locs hP hD hS => ?_)
  refine lv_aload_n hx hb dL_law_504 rfl (lv_at hl 3 rfl) ?_
  refine lv_aload_n hx hb dL_law_505 rfl (lv_at hl 1 rfl) ?_
  refine lv_iload_n hx hb dL_law_506 rfl (lv_at hl 0 rfl) ?_
  refine lv_iconst (v := 1) hx hb dL_law_507 (by decide) ?_
  refine lv_iadd hx hb dL_law_508 ?_
  refine va_sld hx hb hX hbl hbA hS (zin (k := 1) (i := i) (by omega) hL (nI_add i 1)) dL_law_509 ?_
  refine lv_aload_n hx hb dL_law_510 rfl (lv_at hl 1 rfl) ?_
  refine lv_iload_n hx hb dL_law_511 rfl (lv_at hl 0 rfl) ?_
  refine lv_iconst (v := 2) hx hb dL_law_512 (by decide) ?_
  refine lv_iadd hx hb dL_law_513 ?_
  refine va_sld hx hb hX hbl hbA hS (zin (k := 2) (i := i) (by omega) hL (nI_add i 2)) dL_law_514 ?_
  refine lv_aload_n hx hb dL_law_515 rfl (lv_at hl 1 rfl) ?_
  refine lv_iload_n hx hb dL_law_516 rfl (lv_at hl 0 rfl) ?_
  refine lv_iconst (v := 3) hx hb dL_law_517 (by decide) ?_
  refine lv_iadd hx hb dL_law_518 ?_
  refine va_sld hx hb hX hbl hbA hS (zin (k := 3) (i := i) (by omega) hL (nI_add i 3)) dL_law_519 ?_
  refine zcall_i (va_runV (R := room_1) (As := [.int (xs (nI i + (1 : Int32)).toNatClampNeg), .int (xs (nI i + (2 : Int32)).toNatClampNeg), .int (xs (nI i + (3 : Int32)).toNatClampNeg)]) (rest := [.int u.1]) ⟨hx, hb, hml, hown, hts⟩ (qX12_tell l D E KL kc on rw rd ft tr (va_up la on.2.1 u.2) mo N _ (xs (nI i + (1 : Int32)).toNatClampNeg) (xs (nI i + (2 : Int32)).toNatClampNeg) (xs (nI i + (3 : Int32)).toNatClampNeg) _ hw) (cwV 3 hts (zgV k5_113 k5_114 k5_115 k0_8 k5_116) rfl rfl rfl (by decide +kernel) ⟨Nat.le_of_ble_eq_true rfl, Nat.le_of_ble_eq_true rfl⟩) (zpv hE hS hA hK hP hD (va_recv hK hP (ci := 11) (q0 := 68) rfl (zg_mo _ _ _ _ _ _ _ _ _ _))) rfl rfl hl.1 rfl (lv_room (Nat.le_of_ble_eq_true rfl)) dL_law_520 ⟨(show _ ≤ 600000 by omega), (show _ ≤ 7302250 by omega)⟩) hD hS hA (fun H locs hP hD hS => ?_)
  refine lv_icmp_eq (tgt := 1198) hx hb dL_law_523 (by decide) (fun _ => ?_) (fun c1 => absurd hr c1)
  refine W.widen (k := cells + 8) (n := slots + 24) (by omega) (by omega) ?_
  exact kk _ _ _ _ _ _ _ _ _ hI2 _ _ _ hP hD hS hl
set_option maxHeartbeats 1000000 in
set_option maxRecDepth 100000 in
theorem lwc_keeper {p : Program} {l : Launch} {e : Env} {s : State} {m : MethodId} {below : List Frame} {meth : Method} {c : Code} {Q : State → Prop} {D : va_G} {E : zE} {A : Nat → Prop} {b L : Nat} {xs : Nat → Int32} (C0 : zLwk p s m c D E A b L xs) {N : Nat} {Inv : List Nat → (Nat → zKC) → zNS → zOS → zOS → zOS → zOS → (Nat → zLS) → zMS → Prop} (hst : zStep_keeper N Inv) {i : Nat} (hi : i + 6 ≤ L) (KL : List Nat) (kc : Nat → zKC) (on : zNS) (rw rd ft tr : zOS) (la : Nat → zLS) (mo : zMS) (hInv : Inv KL kc on rw rd ft tr la mo) (hOn : zOn on) {H : Heap} {locs : List Loc} {ls : Array Slot} {cells slots : Nat} (hc : cells + 8 ≤ 600000) (hs : slots + 24 ≤ 7302250) (hP : va_P D vwCl (zW E KL kc on rw rd ft tr la mo) H) (hD : va_D A (zW E KL kc on rw rd ft tr la mo)) (hS : va_S A s.heap H locs) (hl : lv_has ls 4 [(3, .int (nI i)), (0, .ref b), (1, .ref (E.1 0)), (2, .ref (E.1 68))]) (kk : ∀ (KL : List Nat) (kc : Nat → zKC) (on : zNS) (rw rd ft tr : zOS) (la : Nat → zLS) (mo : zMS), Inv KL kc on rw rd ft tr la mo → ∀ (H : Heap) (locs : List Loc) (ls : Array Slot), va_P D vwCl (zW E KL kc on rw rd ft tr la mo) H → va_D A (zW E KL kc on rw rd ft tr la mo) → va_S A s.heap H locs → lv_has ls 4 [(3, .int (nI i)), (0, .ref b), (1, .ref (E.1 0)), (2, .ref (E.1 68))] → W p l e room_1 s m #[Value.ref b] below meth c H locs (cells + 8) (slots + 24) Q (F0 m 1198 ls [])) : W p l e room_1 s m #[Value.ref b] below meth c H locs cells slots Q (F0 m 528 ls []) := by
  obtain ⟨hx, hb, hml, hown, hts, hX, hbl, hbA, hA, hK, hE, hL⟩ := C0
  obtain ⟨u, w, hu, hw, hr, hI2⟩ := hst KL kc on rw rd ft tr la mo hInv (xs (nI i + (1 : Int32)).toNatClampNeg) (xs (nI i + (2 : Int32)).toNatClampNeg)
  refine lv_aload_n hx hb dL_law_528 rfl (lv_at hl 2 rfl) ?_
  refine lv_aload_n hx hb dL_law_529 rfl (lv_at hl 1 rfl) ?_
  refine lv_iload_n hx hb dL_law_530 rfl (lv_at hl 0 rfl) ?_
  refine lv_iconst (v := 1) hx hb dL_law_531 (by decide) ?_
  refine lv_iadd hx hb dL_law_532 ?_
  refine va_sld hx hb hX hbl hbA hS (zin (k := 1) (i := i) (by omega) hL (nI_add i 1)) dL_law_533 ?_
  refine lv_aload_n hx hb dL_law_534 rfl (lv_at hl 1 rfl) ?_
  refine lv_iload_n hx hb dL_law_535 rfl (lv_at hl 0 rfl) ?_
  refine lv_iconst (v := 2) hx hb dL_law_536 (by decide) ?_
  refine lv_iadd hx hb dL_law_537 ?_
  refine va_sld hx hb hX hbl hbA hS (zin (k := 2) (i := i) (by omega) hL (nI_add i 2)) dL_law_538 ?_
  have ela : va_up la on.2.1 (la on.2.1) = la := by rw [zup_self]
  have hP : va_P D vwCl (zW E KL kc on rw rd ft tr (va_up la on.2.1 (la on.2.1)) mo) H := by rw [ela]; exact hP
  have hD : va_D A (zW E KL kc on rw rd ft tr (va_up la on.2.1 (la on.2.1)) mo) := by rw [ela]; exact hD
  refine zcall_i (va_runV (R := room_1) (As := [.int (xs (nI i + (1 : Int32)).toNatClampNeg), .int (xs (nI i + (2 : Int32)).toNatClampNeg)]) (rest := []) ⟨hx, hb, hml, hown, hts⟩ (qX11_keeper l D E KL kc on rw rd ft tr la mo (by unfold zOn at hOn; omega) (la on.2.1) N _ (xs (nI i + (1 : Int32)).toNatClampNeg) (xs (nI i + (2 : Int32)).toNatClampNeg) _ hu) (cwV 2 hts (zgV k2_219 k2_220 k2_221 k0_1 k2_222) rfl rfl rfl (by decide +kernel) ⟨Nat.le_of_ble_eq_true rfl, Nat.le_of_ble_eq_true rfl⟩) (zpv hE hS hA hK hP hD (va_recv hK hP (ci := 10) (q0 := 0) rfl (zg_on _ _ _ _ _ _ _ _ _ _))) rfl rfl hl.1 rfl (lv_room (Nat.le_of_ble_eq_true rfl)) dL_law_539 ⟨(show _ ≤ 600000 by omega), (show _ ≤ 7302250 by omega)⟩) hD hS hA (fun H locs hP hD hS => ?_)
  refine lv_aload_n hx hb dL_law_542 rfl (lv_at hl 3 rfl) ?_
  refine lv_aload_n hx hb dL_law_543 rfl (lv_at hl 1 rfl) ?_
  refine lv_iload_n hx hb dL_law_544 rfl (lv_at hl 0 rfl) ?_
  refine lv_iconst (v := 1) hx hb dL_law_545 (by decide) ?_
  refine lv_iadd hx hb dL_law_546 ?_
  refine va_sld hx hb hX hbl hbA hS (zin (k := 1) (i := i) (by omega) hL (nI_add i 1)) dL_law_547 ?_
  refine lv_aload_n hx hb dL_law_548 rfl (lv_at hl 1 rfl) ?_
  refine lv_iload_n hx hb dL_law_549 rfl (lv_at hl 0 rfl) ?_
  refine lv_iconst (v := 2) hx hb dL_law_550 (by decide) ?_
  refine lv_iadd hx hb dL_law_551 ?_
  refine va_sld hx hb hX hbl hbA hS (zin (k := 2) (i := i) (by omega) hL (nI_add i 2)) dL_law_552 ?_
  refine zcall_i (va_runV (R := room_1) (As := [.int (xs (nI i + (1 : Int32)).toNatClampNeg), .int (xs (nI i + (2 : Int32)).toNatClampNeg)]) (rest := [.int u]) ⟨hx, hb, hml, hown, hts⟩ (qX12_keeper l D E KL kc on rw rd ft tr (va_up la on.2.1 (la on.2.1)) mo N _ (xs (nI i + (1 : Int32)).toNatClampNeg) (xs (nI i + (2 : Int32)).toNatClampNeg) _ hw) (cwV 2 hts (zgV k5_125 k5_126 k5_127 k0_8 k5_128) rfl rfl rfl (by decide +kernel) ⟨Nat.le_of_ble_eq_true rfl, Nat.le_of_ble_eq_true rfl⟩) (zpv hE hS hA hK hP hD (va_recv hK hP (ci := 11) (q0 := 68) rfl (zg_mo _ _ _ _ _ _ _ _ _ _))) rfl rfl hl.1 rfl (lv_room (Nat.le_of_ble_eq_true rfl)) dL_law_553 ⟨(show _ ≤ 600000 by omega), (show _ ≤ 7302250 by omega)⟩) hD hS hA (fun H locs hP hD hS => ?_)
  refine lv_icmp_eq (tgt := 1198) hx hb dL_law_556 (by decide) (fun _ => ?_) (fun c1 => absurd hr c1)
  refine W.widen (k := cells + 8) (n := slots + 24) (by omega) (by omega) ?_
  exact kk _ _ _ _ _ _ _ _ _ hI2 _ _ _ hP hD hS hl
set_option maxHeartbeats 1000000 in
set_option maxRecDepth 100000 in
theorem lwc_piece {p : Program} {l : Launch} {e : Env} {s : State} {m : MethodId} {below : List Frame} {meth : Method} {c : Code} {Q : State → Prop} {D : va_G} {E : zE} {A : Nat → Prop} {b L : Nat} {xs : Nat → Int32} (C0 : zLwk p s m c D E A b L xs) {N : Nat} {Inv : List Nat → (Nat → zKC) → zNS → zOS → zOS → zOS → zOS → (Nat → zLS) → zMS → Prop} (hst : zStep_piece N Inv) {i : Nat} (hi : i + 6 ≤ L) (KL : List Nat) (kc : Nat → zKC) (on : zNS) (rw rd ft tr : zOS) (la : Nat → zLS) (mo : zMS) (hInv : Inv KL kc on rw rd ft tr la mo) (hOn : zOn on) {H : Heap} {locs : List Loc} {ls : Array Slot} {cells slots : Nat} (hc : cells + 8 ≤ 600000) (hs : slots + 24 ≤ 7302250) (hP : va_P D vwCl (zW E KL kc on rw rd ft tr la mo) H) (hD : va_D A (zW E KL kc on rw rd ft tr la mo)) (hS : va_S A s.heap H locs) (hl : lv_has ls 4 [(3, .int (nI i)), (0, .ref b), (1, .ref (E.1 0)), (2, .ref (E.1 68))]) (kk : ∀ (KL : List Nat) (kc : Nat → zKC) (on : zNS) (rw rd ft tr : zOS) (la : Nat → zLS) (mo : zMS), Inv KL kc on rw rd ft tr la mo → ∀ (H : Heap) (locs : List Loc) (ls : Array Slot), va_P D vwCl (zW E KL kc on rw rd ft tr la mo) H → va_D A (zW E KL kc on rw rd ft tr la mo) → va_S A s.heap H locs → lv_has ls 4 [(3, .int (nI i)), (0, .ref b), (1, .ref (E.1 0)), (2, .ref (E.1 68))] → W p l e room_1 s m #[Value.ref b] below meth c H locs (cells + 8) (slots + 24) Q (F0 m 1198 ls [])) : W p l e room_1 s m #[Value.ref b] below meth c H locs cells slots Q (F0 m 561 ls []) := by
  obtain ⟨hx, hb, hml, hown, hts, hX, hbl, hbA, hA, hK, hE, hL⟩ := C0
  obtain ⟨u, w, hu, hw, hr, hI2⟩ := hst KL kc on rw rd ft tr la mo hInv (xs (nI i + (1 : Int32)).toNatClampNeg) (xs (nI i + (2 : Int32)).toNatClampNeg)
  refine lv_aload_n hx hb dL_law_561 rfl (lv_at hl 2 rfl) ?_
  refine lv_aload_n hx hb dL_law_562 rfl (lv_at hl 1 rfl) ?_
  refine lv_iload_n hx hb dL_law_563 rfl (lv_at hl 0 rfl) ?_
  refine lv_iconst (v := 1) hx hb dL_law_564 (by decide) ?_
  refine lv_iadd hx hb dL_law_565 ?_
  refine va_sld hx hb hX hbl hbA hS (zin (k := 1) (i := i) (by omega) hL (nI_add i 1)) dL_law_566 ?_
  refine lv_aload_n hx hb dL_law_567 rfl (lv_at hl 1 rfl) ?_
  refine lv_iload_n hx hb dL_law_568 rfl (lv_at hl 0 rfl) ?_
  refine lv_iconst (v := 2) hx hb dL_law_569 (by decide) ?_
  refine lv_iadd hx hb dL_law_570 ?_
  refine va_sld hx hb hX hbl hbA hS (zin (k := 2) (i := i) (by omega) hL (nI_add i 2)) dL_law_571 ?_
  have ela : va_up la on.2.1 (la on.2.1) = la := by rw [zup_self]
  have hP : va_P D vwCl (zW E KL kc on rw rd ft tr (va_up la on.2.1 (la on.2.1)) mo) H := by rw [ela]; exact hP
  have hD : va_D A (zW E KL kc on rw rd ft tr (va_up la on.2.1 (la on.2.1)) mo) := by rw [ela]; exact hD
  refine zcall_i (va_runV (R := room_1) (As := [.int (xs (nI i + (1 : Int32)).toNatClampNeg), .int (xs (nI i + (2 : Int32)).toNatClampNeg)]) (rest := []) ⟨hx, hb, hml, hown, hts⟩ (qX11_piece l D E KL kc on rw rd ft tr la mo (by unfold zOn at hOn; omega) (la on.2.1) N _ (xs (nI i + (1 : Int32)).toNatClampNeg) (xs (nI i + (2 : Int32)).toNatClampNeg) _ hu) (cwV 2 hts (zgV k2_235 k2_236 k2_237 k0_1 k2_238) rfl rfl rfl (by decide +kernel) ⟨Nat.le_of_ble_eq_true rfl, Nat.le_of_ble_eq_true rfl⟩) (zpv hE hS hA hK hP hD (va_recv hK hP (ci := 10) (q0 := 0) rfl (zg_on _ _ _ _ _ _ _ _ _ _))) rfl rfl hl.1 rfl (lv_room (Nat.le_of_ble_eq_true rfl)) dL_law_572 ⟨(show _ ≤ 600000 by omega), (show _ ≤ 7302250 by omega)⟩) hD hS hA (fun H locs hP hD hS => ?_)
  refine lv_aload_n hx hb dL_law_575 rfl (lv_at hl 3 rfl) ?_
  refine lv_aload_n hx hb dL_law_576 rfl (lv_at hl 1 rfl) ?_
  refine lv_iload_n hx hb dL_law_577 rfl (lv_at hl 0 rfl) ?_
  refine lv_iconst (v := 1) hx hb dL_law_578 (by decide) ?_
  refine lv_iadd hx hb dL_law_579 ?_
  refine va_sld hx hb hX hbl hbA hS (zin (k := 1) (i := i) (by omega) hL (nI_add i 1)) dL_law_580 ?_
  refine lv_aload_n hx hb dL_law_581 rfl (lv_at hl 1 rfl) ?_
  refine lv_iload_n hx hb dL_law_582 rfl (lv_at hl 0 rfl) ?_
  refine lv_iconst (v := 2) hx hb dL_law_583 (by decide) ?_
  refine lv_iadd hx hb dL_law_584 ?_
  refine va_sld hx hb hX hbl hbA hS (zin (k := 2) (i := i) (by omega) hL (nI_add i 2)) dL_law_585 ?_
  refine zcall_i (va_runV (R := room_1) (As := [.int (xs (nI i + (1 : Int32)).toNatClampNeg), .int (xs (nI i + (2 : Int32)).toNatClampNeg)]) (rest := [.int u]) ⟨hx, hb, hml, hown, hts⟩ (qX12_piece l D E KL kc on rw rd ft tr (va_up la on.2.1 (la on.2.1)) mo N _ (xs (nI i + (1 : Int32)).toNatClampNeg) (xs (nI i + (2 : Int32)).toNatClampNeg) _ hw) (cwV 2 hts (zgV k5_133 k5_134 k5_135 k0_8 k5_136) rfl rfl rfl (by decide +kernel) ⟨Nat.le_of_ble_eq_true rfl, Nat.le_of_ble_eq_true rfl⟩) (zpv hE hS hA hK hP hD (va_recv hK hP (ci := 11) (q0 := 68) rfl (zg_mo _ _ _ _ _ _ _ _ _ _))) rfl rfl hl.1 rfl (lv_room (Nat.le_of_ble_eq_true rfl)) dL_law_586 ⟨(show _ ≤ 600000 by omega), (show _ ≤ 7302250 by omega)⟩) hD hS hA (fun H locs hP hD hS => ?_)
  refine lv_icmp_eq (tgt := 1198) hx hb dL_law_589 (by decide) (fun _ => ?_) (fun c1 => absurd hr c1)
  refine W.widen (k := cells + 8) (n := slots + 24) (by omega) (by omega) ?_
  exact kk _ _ _ _ _ _ _ _ _ hI2 _ _ _ hP hD hS hl
set_option maxHeartbeats 1000000 in
set_option maxRecDepth 100000 in
theorem lwc_alone {p : Program} {l : Launch} {e : Env} {s : State} {m : MethodId} {below : List Frame} {meth : Method} {c : Code} {Q : State → Prop} {D : va_G} {E : zE} {A : Nat → Prop} {b L : Nat} {xs : Nat → Int32} (C0 : zLwk p s m c D E A b L xs) {N : Nat} {Inv : List Nat → (Nat → zKC) → zNS → zOS → zOS → zOS → zOS → (Nat → zLS) → zMS → Prop} (hst : zStep_alone N Inv) {i : Nat} (hi : i + 6 ≤ L) (KL : List Nat) (kc : Nat → zKC) (on : zNS) (rw rd ft tr : zOS) (la : Nat → zLS) (mo : zMS) (hInv : Inv KL kc on rw rd ft tr la mo) (hOn : zOn on) {H : Heap} {locs : List Loc} {ls : Array Slot} {cells slots : Nat} (hc : cells + 8 ≤ 600000) (hs : slots + 24 ≤ 7302250) (hP : va_P D vwCl (zW E KL kc on rw rd ft tr la mo) H) (hD : va_D A (zW E KL kc on rw rd ft tr la mo)) (hS : va_S A s.heap H locs) (hl : lv_has ls 4 [(3, .int (nI i)), (0, .ref b), (1, .ref (E.1 0)), (2, .ref (E.1 68))]) (kk : ∀ (KL : List Nat) (kc : Nat → zKC) (on : zNS) (rw rd ft tr : zOS) (la : Nat → zLS) (mo : zMS), Inv KL kc on rw rd ft tr la mo → ∀ (H : Heap) (locs : List Loc) (ls : Array Slot), va_P D vwCl (zW E KL kc on rw rd ft tr la mo) H → va_D A (zW E KL kc on rw rd ft tr la mo) → va_S A s.heap H locs → lv_has ls 4 [(3, .int (nI i)), (0, .ref b), (1, .ref (E.1 0)), (2, .ref (E.1 68))] → W p l e room_1 s m #[Value.ref b] below meth c H locs (cells + 8) (slots + 24) Q (F0 m 1198 ls [])) : W p l e room_1 s m #[Value.ref b] below meth c H locs cells slots Q (F0 m 594 ls []) := by
  obtain ⟨hx, hb, hml, hown, hts, hX, hbl, hbA, hA, hK, hE, hL⟩ := C0
  obtain ⟨u, w, hu, hw, hr, hI2⟩ := hst KL kc on rw rd ft tr la mo hInv (xs (nI i + (1 : Int32)).toNatClampNeg) (xs (nI i + (2 : Int32)).toNatClampNeg) (xs (nI i + (3 : Int32)).toNatClampNeg)
  refine lv_aload_n hx hb dL_law_594 rfl (lv_at hl 2 rfl) ?_
  refine lv_aload_n hx hb dL_law_595 rfl (lv_at hl 1 rfl) ?_
  refine lv_iload_n hx hb dL_law_596 rfl (lv_at hl 0 rfl) ?_
  refine lv_iconst (v := 1) hx hb dL_law_597 (by decide) ?_
  refine lv_iadd hx hb dL_law_598 ?_
  refine va_sld hx hb hX hbl hbA hS (zin (k := 1) (i := i) (by omega) hL (nI_add i 1)) dL_law_599 ?_
  refine lv_aload_n hx hb dL_law_600 rfl (lv_at hl 1 rfl) ?_
  refine lv_iload_n hx hb dL_law_601 rfl (lv_at hl 0 rfl) ?_
  refine lv_iconst (v := 2) hx hb dL_law_602 (by decide) ?_
  refine lv_iadd hx hb dL_law_603 ?_
  refine va_sld hx hb hX hbl hbA hS (zin (k := 2) (i := i) (by omega) hL (nI_add i 2)) dL_law_604 ?_
  refine lv_aload_n hx hb dL_law_605 rfl (lv_at hl 1 rfl) ?_
  refine lv_iload_n hx hb dL_law_606 rfl (lv_at hl 0 rfl) ?_
  refine lv_iconst (v := 3) hx hb dL_law_607 (by decide) ?_
  refine lv_iadd hx hb dL_law_608 ?_
  refine va_sld hx hb hX hbl hbA hS (zin (k := 3) (i := i) (by omega) hL (nI_add i 3)) dL_law_609 ?_
  have ela : va_up la on.2.1 (la on.2.1) = la := by rw [zup_self]
  have hP : va_P D vwCl (zW E KL kc on rw rd ft tr (va_up la on.2.1 (la on.2.1)) mo) H := by rw [ela]; exact hP
  have hD : va_D A (zW E KL kc on rw rd ft tr (va_up la on.2.1 (la on.2.1)) mo) := by rw [ela]; exact hD
  refine zcall_i (va_runV (R := room_1) (As := [.int (xs (nI i + (1 : Int32)).toNatClampNeg), .int (xs (nI i + (2 : Int32)).toNatClampNeg), .int (xs (nI i + (3 : Int32)).toNatClampNeg)]) (rest := []) ⟨hx, hb, hml, hown, hts⟩ (qX11_alone l D E KL kc on rw rd ft tr la mo (by unfold zOn at hOn; omega) (la on.2.1) N _ (xs (nI i + (1 : Int32)).toNatClampNeg) (xs (nI i + (2 : Int32)).toNatClampNeg) (xs (nI i + (3 : Int32)).toNatClampNeg) _ hu) (cwV 3 hts (zgV k3_11 k3_12 k3_13 k0_1 k3_14) rfl rfl rfl (by decide +kernel) ⟨Nat.le_of_ble_eq_true rfl, Nat.le_of_ble_eq_true rfl⟩) (zpv hE hS hA hK hP hD (va_recv hK hP (ci := 10) (q0 := 0) rfl (zg_on _ _ _ _ _ _ _ _ _ _))) rfl rfl hl.1 rfl (lv_room (Nat.le_of_ble_eq_true rfl)) dL_law_610 ⟨(show _ ≤ 600000 by omega), (show _ ≤ 7302250 by omega)⟩) hD hS hA (fun H locs hP hD hS => ?_)
  refine lv_aload_n hx hb dL_law_613 rfl (lv_at hl 3 rfl) ?_
  refine lv_aload_n hx hb dL_law_614 rfl (lv_at hl 1 rfl) ?_
  refine lv_iload_n hx hb dL_law_615 rfl (lv_at hl 0 rfl) ?_
  refine lv_iconst (v := 1) hx hb dL_law_616 (by decide) ?_
  refine lv_iadd hx hb dL_law_617 ?_
  refine va_sld hx hb hX hbl hbA hS (zin (k := 1) (i := i) (by omega) hL (nI_add i 1)) dL_law_618 ?_
  refine lv_aload_n hx hb dL_law_619 rfl (lv_at hl 1 rfl) ?_
  refine lv_iload_n hx hb dL_law_620 rfl (lv_at hl 0 rfl) ?_
  refine lv_iconst (v := 2) hx hb dL_law_621 (by decide) ?_
  refine lv_iadd hx hb dL_law_622 ?_
  refine va_sld hx hb hX hbl hbA hS (zin (k := 2) (i := i) (by omega) hL (nI_add i 2)) dL_law_623 ?_
  refine lv_aload_n hx hb dL_law_624 rfl (lv_at hl 1 rfl) ?_
  refine lv_iload_n hx hb dL_law_625 rfl (lv_at hl 0 rfl) ?_
  refine lv_iconst (v := 3) hx hb dL_law_626 (by decide) ?_
  refine lv_iadd hx hb dL_law_627 ?_
  refine va_sld hx hb hX hbl hbA hS (zin (k := 3) (i := i) (by omega) hL (nI_add i 3)) dL_law_628 ?_
  refine zcall_i (va_runV (R := room_1) (As := [.int (xs (nI i + (1 : Int32)).toNatClampNeg), .int (xs (nI i + (2 : Int32)).toNatClampNeg), .int (xs (nI i + (3 : Int32)).toNatClampNeg)]) (rest := [.int u]) ⟨hx, hb, hml, hown, hts⟩ (qX12_alone l D E KL kc on rw rd ft tr (va_up la on.2.1 (la on.2.1)) mo N _ (xs (nI i + (1 : Int32)).toNatClampNeg) (xs (nI i + (2 : Int32)).toNatClampNeg) (xs (nI i + (3 : Int32)).toNatClampNeg) _ hw) (cwV 3 hts (zgV k5_137 k5_138 k5_139 k0_8 k5_140) rfl rfl rfl (by decide +kernel) ⟨Nat.le_of_ble_eq_true rfl, Nat.le_of_ble_eq_true rfl⟩) (zpv hE hS hA hK hP hD (va_recv hK hP (ci := 11) (q0 := 68) rfl (zg_mo _ _ _ _ _ _ _ _ _ _))) rfl rfl hl.1 rfl (lv_room (Nat.le_of_ble_eq_true rfl)) dL_law_629 ⟨(show _ ≤ 600000 by omega), (show _ ≤ 7302250 by omega)⟩) hD hS hA (fun H locs hP hD hS => ?_)
  refine lv_icmp_eq (tgt := 1198) hx hb dL_law_632 (by decide) (fun _ => ?_) (fun c1 => absurd hr c1)
  refine W.widen (k := cells + 8) (n := slots + 24) (by omega) (by omega) ?_
  exact kk _ _ _ _ _ _ _ _ _ hI2 _ _ _ hP hD hS hl
set_option maxHeartbeats 1000000 in
set_option maxRecDepth 100000 in
theorem lwc_best {p : Program} {l : Launch} {e : Env} {s : State} {m : MethodId} {below : List Frame} {meth : Method} {c : Code} {Q : State → Prop} {D : va_G} {E : zE} {A : Nat → Prop} {b L : Nat} {xs : Nat → Int32} (C0 : zLwk p s m c D E A b L xs) {N : Nat} {Inv : List Nat → (Nat → zKC) → zNS → zOS → zOS → zOS → zOS → (Nat → zLS) → zMS → Prop} (hst : zStep_best N Inv) {i : Nat} (hi : i + 6 ≤ L) (KL : List Nat) (kc : Nat → zKC) (on : zNS) (rw rd ft tr : zOS) (la : Nat → zLS) (mo : zMS) (hInv : Inv KL kc on rw rd ft tr la mo) (hOn : zOn on) {H : Heap} {locs : List Loc} {ls : Array Slot} {cells slots : Nat} (hc : cells + 8 ≤ 600000) (hs : slots + 24 ≤ 7302250) (hP : va_P D vwCl (zW E KL kc on rw rd ft tr la mo) H) (hD : va_D A (zW E KL kc on rw rd ft tr la mo)) (hS : va_S A s.heap H locs) (hl : lv_has ls 4 [(3, .int (nI i)), (0, .ref b), (1, .ref (E.1 0)), (2, .ref (E.1 68))]) (kk : ∀ (KL : List Nat) (kc : Nat → zKC) (on : zNS) (rw rd ft tr : zOS) (la : Nat → zLS) (mo : zMS), Inv KL kc on rw rd ft tr la mo → ∀ (H : Heap) (locs : List Loc) (ls : Array Slot), va_P D vwCl (zW E KL kc on rw rd ft tr la mo) H → va_D A (zW E KL kc on rw rd ft tr la mo) → va_S A s.heap H locs → lv_has ls 4 [(3, .int (nI i)), (0, .ref b), (1, .ref (E.1 0)), (2, .ref (E.1 68))] → W p l e room_1 s m #[Value.ref b] below meth c H locs (cells + 8) (slots + 24) Q (F0 m 1198 ls [])) : W p l e room_1 s m #[Value.ref b] below meth c H locs cells slots Q (F0 m 637 ls []) := by
  obtain ⟨hx, hb, hml, hown, hts, hX, hbl, hbA, hA, hK, hE, hL⟩ := C0
  obtain ⟨u, w, hu, hw, hr, hI2⟩ := hst KL kc on rw rd ft tr la mo hInv (xs (nI i + (1 : Int32)).toNatClampNeg)
  refine lv_aload_n hx hb dL_law_637 rfl (lv_at hl 2 rfl) ?_
  refine lv_aload_n hx hb dL_law_638 rfl (lv_at hl 1 rfl) ?_
  refine lv_iload_n hx hb dL_law_639 rfl (lv_at hl 0 rfl) ?_
  refine lv_iconst (v := 1) hx hb dL_law_640 (by decide) ?_
  refine lv_iadd hx hb dL_law_641 ?_
  refine va_sld hx hb hX hbl hbA hS (zin (k := 1) (i := i) (by omega) hL (nI_add i 1)) dL_law_642 ?_
  have ela : va_up la on.2.1 (la on.2.1) = la := by rw [zup_self]
  have hP : va_P D vwCl (zW E KL kc on rw rd ft tr (va_up la on.2.1 (la on.2.1)) mo) H := by rw [ela]; exact hP
  have hD : va_D A (zW E KL kc on rw rd ft tr (va_up la on.2.1 (la on.2.1)) mo) := by rw [ela]; exact hD
  refine zcall_i (va_runV (R := room_1) (As := [.int (xs (nI i + (1 : Int32)).toNatClampNeg)]) (rest := []) ⟨hx, hb, hml, hown, hts⟩ (qX11_best l D E KL kc on rw rd ft tr la mo (by unfold zOn at hOn; omega) (la on.2.1) N _ (xs (nI i + (1 : Int32)).toNatClampNeg) _ hu) (cwV 1 hts (zgV k3_29 k3_30 k3_31 k0_1 k3_32) rfl rfl rfl (by decide +kernel) ⟨Nat.le_of_ble_eq_true rfl, Nat.le_of_ble_eq_true rfl⟩) (zpv hE hS hA hK hP hD (va_recv hK hP (ci := 10) (q0 := 0) rfl (zg_on _ _ _ _ _ _ _ _ _ _))) rfl rfl hl.1 rfl (lv_room (Nat.le_of_ble_eq_true rfl)) dL_law_643 ⟨(show _ ≤ 600000 by omega), (show _ ≤ 7302250 by omega)⟩) hD hS hA (fun H locs hP hD hS => ?_)
  refine lv_aload_n hx hb dL_law_646 rfl (lv_at hl 3 rfl) ?_
  refine lv_aload_n hx hb dL_law_647 rfl (lv_at hl 1 rfl) ?_
  refine lv_iload_n hx hb dL_law_648 rfl (lv_at hl 0 rfl) ?_
  refine lv_iconst (v := 1) hx hb dL_law_649 (by decide) ?_
  refine lv_iadd hx hb dL_law_650 ?_
  refine va_sld hx hb hX hbl hbA hS (zin (k := 1) (i := i) (by omega) hL (nI_add i 1)) dL_law_651 ?_
  refine zcall_i (va_runV (R := room_1) (As := [.int (xs (nI i + (1 : Int32)).toNatClampNeg)]) (rest := [.int u]) ⟨hx, hb, hml, hown, hts⟩ (qX12_best l D E KL kc on rw rd ft tr (va_up la on.2.1 (la on.2.1)) mo N _ (xs (nI i + (1 : Int32)).toNatClampNeg) _ hw) (cwV 1 hts (zgV k5_146 k5_147 k5_148 k0_8 k5_149) rfl rfl rfl (by decide +kernel) ⟨Nat.le_of_ble_eq_true rfl, Nat.le_of_ble_eq_true rfl⟩) (zpv hE hS hA hK hP hD (va_recv hK hP (ci := 11) (q0 := 68) rfl (zg_mo _ _ _ _ _ _ _ _ _ _))) rfl rfl hl.1 rfl (lv_room (Nat.le_of_ble_eq_true rfl)) dL_law_652 ⟨(show _ ≤ 600000 by omega), (show _ ≤ 7302250 by omega)⟩) hD hS hA (fun H locs hP hD hS => ?_)
  refine lv_icmp_eq (tgt := 1198) hx hb dL_law_655 (by decide) (fun _ => ?_) (fun c1 => absurd hr c1)
  refine W.widen (k := cells + 8) (n := slots + 24) (by omega) (by omega) ?_
  exact kk _ _ _ _ _ _ _ _ _ hI2 _ _ _ hP hD hS hl
set_option maxHeartbeats 1000000 in
set_option maxRecDepth 100000 in
theorem lwc_two {p : Program} {l : Launch} {e : Env} {s : State} {m : MethodId} {below : List Frame} {meth : Method} {c : Code} {Q : State → Prop} {D : va_G} {E : zE} {A : Nat → Prop} {b L : Nat} {xs : Nat → Int32} (C0 : zLwk p s m c D E A b L xs) {N : Nat} {Inv : List Nat → (Nat → zKC) → zNS → zOS → zOS → zOS → zOS → (Nat → zLS) → zMS → Prop} (hst : zStep_two N Inv) {i : Nat} (hi : i + 6 ≤ L) (KL : List Nat) (kc : Nat → zKC) (on : zNS) (rw rd ft tr : zOS) (la : Nat → zLS) (mo : zMS) (hInv : Inv KL kc on rw rd ft tr la mo) (hOn : zOn on) {H : Heap} {locs : List Loc} {ls : Array Slot} {cells slots : Nat} (hc : cells + 8 ≤ 600000) (hs : slots + 24 ≤ 7302250) (hP : va_P D vwCl (zW E KL kc on rw rd ft tr la mo) H) (hD : va_D A (zW E KL kc on rw rd ft tr la mo)) (hS : va_S A s.heap H locs) (hl : lv_has ls 4 [(3, .int (nI i)), (0, .ref b), (1, .ref (E.1 0)), (2, .ref (E.1 68))]) (kk : ∀ (KL : List Nat) (kc : Nat → zKC) (on : zNS) (rw rd ft tr : zOS) (la : Nat → zLS) (mo : zMS), Inv KL kc on rw rd ft tr la mo → ∀ (H : Heap) (locs : List Loc) (ls : Array Slot), va_P D vwCl (zW E KL kc on rw rd ft tr la mo) H → va_D A (zW E KL kc on rw rd ft tr la mo) → va_S A s.heap H locs → lv_has ls 4 [(3, .int (nI i)), (0, .ref b), (1, .ref (E.1 0)), (2, .ref (E.1 68))] → W p l e room_1 s m #[Value.ref b] below meth c H locs (cells + 8) (slots + 24) Q (F0 m 1198 ls [])) : W p l e room_1 s m #[Value.ref b] below meth c H locs cells slots Q (F0 m 660 ls []) := by
  obtain ⟨hx, hb, hml, hown, hts, hX, hbl, hbA, hA, hK, hE, hL⟩ := C0
  obtain ⟨u, w, hu, hw, hr, hI2⟩ := hst KL kc on rw rd ft tr la mo hInv (xs (nI i + (1 : Int32)).toNatClampNeg) (xs (nI i + (2 : Int32)).toNatClampNeg) (xs (nI i + (3 : Int32)).toNatClampNeg)
  refine lv_aload_n hx hb dL_law_660 rfl (lv_at hl 2 rfl) ?_
  refine lv_aload_n hx hb dL_law_661 rfl (lv_at hl 1 rfl) ?_
  refine lv_iload_n hx hb dL_law_662 rfl (lv_at hl 0 rfl) ?_
  refine lv_iconst (v := 1) hx hb dL_law_663 (by decide) ?_
  refine lv_iadd hx hb dL_law_664 ?_
  refine va_sld hx hb hX hbl hbA hS (zin (k := 1) (i := i) (by omega) hL (nI_add i 1)) dL_law_665 ?_
  refine lv_aload_n hx hb dL_law_666 rfl (lv_at hl 1 rfl) ?_
  refine lv_iload_n hx hb dL_law_667 rfl (lv_at hl 0 rfl) ?_
  refine lv_iconst (v := 2) hx hb dL_law_668 (by decide) ?_
  refine lv_iadd hx hb dL_law_669 ?_
  refine va_sld hx hb hX hbl hbA hS (zin (k := 2) (i := i) (by omega) hL (nI_add i 2)) dL_law_670 ?_
  refine lv_aload_n hx hb dL_law_671 rfl (lv_at hl 1 rfl) ?_
  refine lv_iload_n hx hb dL_law_672 rfl (lv_at hl 0 rfl) ?_
  refine lv_iconst (v := 3) hx hb dL_law_673 (by decide) ?_
  refine lv_iadd hx hb dL_law_674 ?_
  refine va_sld hx hb hX hbl hbA hS (zin (k := 3) (i := i) (by omega) hL (nI_add i 3)) dL_law_675 ?_
  have ela : va_up la on.2.1 (la on.2.1) = la := by rw [zup_self]
  have hP : va_P D vwCl (zW E KL kc on rw rd ft tr (va_up la on.2.1 (la on.2.1)) mo) H := by rw [ela]; exact hP
  have hD : va_D A (zW E KL kc on rw rd ft tr (va_up la on.2.1 (la on.2.1)) mo) := by rw [ela]; exact hD
  refine zcall_i (va_runV (R := room_1) (As := [.int (xs (nI i + (1 : Int32)).toNatClampNeg), .int (xs (nI i + (2 : Int32)).toNatClampNeg), .int (xs (nI i + (3 : Int32)).toNatClampNeg)]) (rest := []) ⟨hx, hb, hml, hown, hts⟩ (qX11_two l D E KL kc on rw rd ft tr la mo (by unfold zOn at hOn; omega) (la on.2.1) N _ (xs (nI i + (1 : Int32)).toNatClampNeg) (xs (nI i + (2 : Int32)).toNatClampNeg) (xs (nI i + (3 : Int32)).toNatClampNeg) _ hu) (cwV 3 hts (zgV k3_37 k3_38 k3_39 k0_1 k3_40) rfl rfl rfl (by decide +kernel) ⟨Nat.le_of_ble_eq_true rfl, Nat.le_of_ble_eq_true rfl⟩) (zpv hE hS hA hK hP hD (va_recv hK hP (ci := 10) (q0 := 0) rfl (zg_on _ _ _ _ _ _ _ _ _ _))) rfl rfl hl.1 rfl (lv_room (Nat.le_of_ble_eq_true rfl)) dL_law_676 ⟨(show _ ≤ 600000 by omega), (show _ ≤ 7302250 by omega)⟩) hD hS hA (fun H locs hP hD hS => ?_)
  refine lv_aload_n hx hb dL_law_679 rfl (lv_at hl 3 rfl) ?_
  refine lv_aload_n hx hb dL_law_680 rfl (lv_at hl 1 rfl) ?_
  refine lv_iload_n hx hb dL_law_681 rfl (lv_at hl 0 rfl) ?_
  refine lv_iconst (v := 1) hx hb dL_law_682 (by decide) ?_
  refine lv_iadd hx hb dL_law_683 ?_
  refine va_sld hx hb hX hbl hbA hS (zin (k := 1) (i := i) (by omega) hL (nI_add i 1)) dL_law_684 ?_
  refine lv_aload_n hx hb dL_law_685 rfl (lv_at hl 1 rfl) ?_
  refine lv_iload_n hx hb dL_law_686 rfl (lv_at hl 0 rfl) ?_
  refine lv_iconst (v := 2) hx hb dL_law_687 (by decide) ?_
  refine lv_iadd hx hb dL_law_688 ?_
  refine va_sld hx hb hX hbl hbA hS (zin (k := 2) (i := i) (by omega) hL (nI_add i 2)) dL_law_689 ?_
  refine lv_aload_n hx hb dL_law_690 rfl (lv_at hl 1 rfl) ?_
  refine lv_iload_n hx hb dL_law_691 rfl (lv_at hl 0 rfl) ?_
  refine lv_iconst (v := 3) hx hb dL_law_692 (by decide) ?_
  refine lv_iadd hx hb dL_law_693 ?_
  refine va_sld hx hb hX hbl hbA hS (zin (k := 3) (i := i) (by omega) hL (nI_add i 3)) dL_law_694 ?_
  refine zcall_i (va_runV (R := room_1) (As := [.int (xs (nI i + (1 : Int32)).toNatClampNeg), .int (xs (nI i + (2 : Int32)).toNatClampNeg), .int (xs (nI i + (3 : Int32)).toNatClampNeg)]) (rest := [.int u]) ⟨hx, hb, hml, hown, hts⟩ (qX12_two l D E KL kc on rw rd ft tr (va_up la on.2.1 (la on.2.1)) mo N _ (xs (nI i + (1 : Int32)).toNatClampNeg) (xs (nI i + (2 : Int32)).toNatClampNeg) (xs (nI i + (3 : Int32)).toNatClampNeg) _ hw) (cwV 3 hts (zgV k5_150 k5_151 k5_152 k0_8 k5_153) rfl rfl rfl (by decide +kernel) ⟨Nat.le_of_ble_eq_true rfl, Nat.le_of_ble_eq_true rfl⟩) (zpv hE hS hA hK hP hD (va_recv hK hP (ci := 11) (q0 := 68) rfl (zg_mo _ _ _ _ _ _ _ _ _ _))) rfl rfl hl.1 rfl (lv_room (Nat.le_of_ble_eq_true rfl)) dL_law_695 ⟨(show _ ≤ 600000 by omega), (show _ ≤ 7302250 by omega)⟩) hD hS hA (fun H locs hP hD hS => ?_)
  refine lv_icmp_eq (tgt := 1198) hx hb dL_law_698 (by decide) (fun _ => ?_) (fun c1 => absurd hr c1)
  refine W.widen (k := cells + 8) (n := slots + 24) (by omega) (by omega) ?_
  exact kk _ _ _ _ _ _ _ _ _ hI2 _ _ _ hP hD hS hl
set_option maxHeartbeats 1000000 in
set_option maxRecDepth 100000 in
theorem lwc_think {p : Program} {l : Launch} {e : Env} {s : State} {m : MethodId} {below : List Frame} {meth : Method} {c : Code} {Q : State → Prop} {D : va_G} {E : zE} {A : Nat → Prop} {b L : Nat} {xs : Nat → Int32} (C0 : zLwk p s m c D E A b L xs) {N : Nat} {Inv : List Nat → (Nat → zKC) → zNS → zOS → zOS → zOS → zOS → (Nat → zLS) → zMS → Prop} (hst : zStep_think N Inv) {i : Nat} (hi : i + 6 ≤ L) (KL : List Nat) (kc : Nat → zKC) (on : zNS) (rw rd ft tr : zOS) (la : Nat → zLS) (mo : zMS) (hInv : Inv KL kc on rw rd ft tr la mo) (hOn : zOn on) {H : Heap} {locs : List Loc} {ls : Array Slot} {cells slots : Nat} (hc : cells + 8 ≤ 600000) (hs : slots + 24 ≤ 7302250) (hP : va_P D vwCl (zW E KL kc on rw rd ft tr la mo) H) (hD : va_D A (zW E KL kc on rw rd ft tr la mo)) (hS : va_S A s.heap H locs) (hl : lv_has ls 4 [(3, .int (nI i)), (0, .ref b), (1, .ref (E.1 0)), (2, .ref (E.1 68))]) (kk : ∀ (KL : List Nat) (kc : Nat → zKC) (on : zNS) (rw rd ft tr : zOS) (la : Nat → zLS) (mo : zMS), Inv KL kc on rw rd ft tr la mo → ∀ (H : Heap) (locs : List Loc) (ls : Array Slot), va_P D vwCl (zW E KL kc on rw rd ft tr la mo) H → va_D A (zW E KL kc on rw rd ft tr la mo) → va_S A s.heap H locs → lv_has ls 4 [(3, .int (nI i)), (0, .ref b), (1, .ref (E.1 0)), (2, .ref (E.1 68))] → W p l e room_1 s m #[Value.ref b] below meth c H locs (cells + 8) (slots + 24) Q (F0 m 1198 ls [])) : W p l e room_1 s m #[Value.ref b] below meth c H locs cells slots Q (F0 m 703 ls []) := by
  obtain ⟨hx, hb, hml, hown, hts, hX, hbl, hbA, hA, hK, hE, hL⟩ := C0
  obtain ⟨u, w, hu, hw, hr, hI2⟩ := hst KL kc on rw rd ft tr la mo hInv (xs (nI i + (1 : Int32)).toNatClampNeg) (xs (nI i + (2 : Int32)).toNatClampNeg) (xs (nI i + (3 : Int32)).toNatClampNeg)
  refine lv_aload_n hx hb dL_law_703 rfl (lv_at hl 2 rfl) ?_
  refine lv_aload_n hx hb dL_law_704 rfl (lv_at hl 1 rfl) ?_
  refine lv_iload_n hx hb dL_law_705 rfl (lv_at hl 0 rfl) ?_
  refine lv_iconst (v := 1) hx hb dL_law_706 (by decide) ?_
  refine lv_iadd hx hb dL_law_707 ?_
  refine va_sld hx hb hX hbl hbA hS (zin (k := 1) (i := i) (by omega) hL (nI_add i 1)) dL_law_708 ?_
  refine lv_aload_n hx hb dL_law_709 rfl (lv_at hl 1 rfl) ?_
  refine lv_iload_n hx hb dL_law_710 rfl (lv_at hl 0 rfl) ?_
  refine lv_iconst (v := 2) hx hb dL_law_711 (by decide) ?_
  refine lv_iadd hx hb dL_law_712 ?_
  refine va_sld hx hb hX hbl hbA hS (zin (k := 2) (i := i) (by omega) hL (nI_add i 2)) dL_law_713 ?_
  refine lv_aload_n hx hb dL_law_714 rfl (lv_at hl 1 rfl) ?_
  refine lv_iload_n hx hb dL_law_715 rfl (lv_at hl 0 rfl) ?_
  refine lv_iconst (v := 3) hx hb dL_law_716 (by decide) ?_
  refine lv_iadd hx hb dL_law_717 ?_
  refine va_sld hx hb hX hbl hbA hS (zin (k := 3) (i := i) (by omega) hL (nI_add i 3)) dL_law_718 ?_
  refine zcall_i (va_runV (R := room_1) (As := [.int (xs (nI i + (1 : Int32)).toNatClampNeg), .int (xs (nI i + (2 : Int32)).toNatClampNeg), .int (xs (nI i + (3 : Int32)).toNatClampNeg)]) (rest := []) ⟨hx, hb, hml, hown, hts⟩ (qX11_think l D E KL kc on rw rd ft tr la mo N _ (xs (nI i + (1 : Int32)).toNatClampNeg) (xs (nI i + (2 : Int32)).toNatClampNeg) (xs (nI i + (3 : Int32)).toNatClampNeg) _ hu) (cwV 3 hts (zgV k3_44 k3_45 k3_46 k0_1 k3_47) rfl rfl rfl (by decide +kernel) ⟨Nat.le_of_ble_eq_true rfl, Nat.le_of_ble_eq_true rfl⟩) (zpv hE hS hA hK hP hD (va_recv hK hP (ci := 10) (q0 := 0) rfl (zg_on _ _ _ _ _ _ _ _ _ _))) rfl rfl hl.1 rfl (lv_room (Nat.le_of_ble_eq_true rfl)) dL_law_719 ⟨(show _ ≤ 600000 by omega), (show _ ≤ 7302250 by omega)⟩) hD hS hA (fun H locs hP hD hS => ?_)
  refine lv_aload_n hx hb dL_law_722 rfl (lv_at hl 3 rfl) ?_
  refine lv_aload_n hx hb dL_law_723 rfl (lv_at hl 1 rfl) ?_
  refine lv_iload_n hx hb dL_law_724 rfl (lv_at hl 0 rfl) ?_
  refine lv_iconst (v := 1) hx hb dL_law_725 (by decide) ?_
  refine lv_iadd hx hb dL_law_726 ?_
  refine va_sld hx hb hX hbl hbA hS (zin (k := 1) (i := i) (by omega) hL (nI_add i 1)) dL_law_727 ?_
  refine lv_aload_n hx hb dL_law_728 rfl (lv_at hl 1 rfl) ?_
  refine lv_iload_n hx hb dL_law_729 rfl (lv_at hl 0 rfl) ?_
  refine lv_iconst (v := 2) hx hb dL_law_730 (by decide) ?_
  refine lv_iadd hx hb dL_law_731 ?_
  refine va_sld hx hb hX hbl hbA hS (zin (k := 2) (i := i) (by omega) hL (nI_add i 2)) dL_law_732 ?_
  refine lv_aload_n hx hb dL_law_733 rfl (lv_at hl 1 rfl) ?_
  refine lv_iload_n hx hb dL_law_734 rfl (lv_at hl 0 rfl) ?_
  refine lv_iconst (v := 3) hx hb dL_law_735 (by decide) ?_
  refine lv_iadd hx hb dL_law_736 ?_
  refine va_sld hx hb hX hbl hbA hS (zin (k := 3) (i := i) (by omega) hL (nI_add i 3)) dL_law_737 ?_
  refine zcall_i (va_runV (R := room_1) (As := [.int (xs (nI i + (1 : Int32)).toNatClampNeg), .int (xs (nI i + (2 : Int32)).toNatClampNeg), .int (xs (nI i + (3 : Int32)).toNatClampNeg)]) (rest := [.int u]) ⟨hx, hb, hml, hown, hts⟩ (qX12_think l D E KL kc on rw rd ft tr la mo N _ (xs (nI i + (1 : Int32)).toNatClampNeg) (xs (nI i + (2 : Int32)).toNatClampNeg) (xs (nI i + (3 : Int32)).toNatClampNeg) _ hw) (cwV 3 hts (zgV k5_155 k5_156 k5_157 k0_8 k5_158) rfl rfl rfl (by decide +kernel) ⟨Nat.le_of_ble_eq_true rfl, Nat.le_of_ble_eq_true rfl⟩) (zpv hE hS hA hK hP hD (va_recv hK hP (ci := 11) (q0 := 68) rfl (zg_mo _ _ _ _ _ _ _ _ _ _))) rfl rfl hl.1 rfl (lv_room (Nat.le_of_ble_eq_true rfl)) dL_law_738 ⟨(show _ ≤ 600000 by omega), (show _ ≤ 7302250 by omega)⟩) hD hS hA (fun H locs hP hD hS => ?_)
  refine lv_icmp_eq (tgt := 1198) hx hb dL_law_741 (by decide) (fun _ => ?_) (fun c1 => absurd hr c1)
  refine W.widen (k := cells + 8) (n := slots + 24) (by omega) (by omega) ?_
  exact kk _ _ _ _ _ _ _ _ _ hI2 _ _ _ hP hD hS hl
set_option maxHeartbeats 1000000 in
set_option maxRecDepth 100000 in
theorem lwc_lostUse {p : Program} {l : Launch} {e : Env} {s : State} {m : MethodId} {below : List Frame} {meth : Method} {c : Code} {Q : State → Prop} {D : va_G} {E : zE} {A : Nat → Prop} {b L : Nat} {xs : Nat → Int32} (C0 : zLwk p s m c D E A b L xs) {N : Nat} {Inv : List Nat → (Nat → zKC) → zNS → zOS → zOS → zOS → zOS → (Nat → zLS) → zMS → Prop} (hst : zStep_lostUse N Inv) {i : Nat} (hi : i + 6 ≤ L) (KL : List Nat) (kc : Nat → zKC) (on : zNS) (rw rd ft tr : zOS) (la : Nat → zLS) (mo : zMS) (hInv : Inv KL kc on rw rd ft tr la mo) (hOn : zOn on) {H : Heap} {locs : List Loc} {ls : Array Slot} {cells slots : Nat} (hc : cells + 8 ≤ 600000) (hs : slots + 24 ≤ 7302250) (hP : va_P D vwCl (zW E KL kc on rw rd ft tr la mo) H) (hD : va_D A (zW E KL kc on rw rd ft tr la mo)) (hS : va_S A s.heap H locs) (hl : lv_has ls 4 [(3, .int (nI i)), (0, .ref b), (1, .ref (E.1 0)), (2, .ref (E.1 68))]) (kk : ∀ (KL : List Nat) (kc : Nat → zKC) (on : zNS) (rw rd ft tr : zOS) (la : Nat → zLS) (mo : zMS), Inv KL kc on rw rd ft tr la mo → ∀ (H : Heap) (locs : List Loc) (ls : Array Slot), va_P D vwCl (zW E KL kc on rw rd ft tr la mo) H → va_D A (zW E KL kc on rw rd ft tr la mo) → va_S A s.heap H locs → lv_has ls 4 [(3, .int (nI i)), (0, .ref b), (1, .ref (E.1 0)), (2, .ref (E.1 68))] → W p l e room_1 s m #[Value.ref b] below meth c H locs (cells + 8) (slots + 24) Q (F0 m 1198 ls [])) : W p l e room_1 s m #[Value.ref b] below meth c H locs cells slots Q (F0 m 746 ls []) := by
  obtain ⟨hx, hb, hml, hown, hts, hX, hbl, hbA, hA, hK, hE, hL⟩ := C0
  obtain ⟨u, w, hu, hw, hr, hI2⟩ := hst KL kc on rw rd ft tr la mo hInv (xs (nI i + (1 : Int32)).toNatClampNeg) (xs (nI i + (2 : Int32)).toNatClampNeg) (xs (nI i + (3 : Int32)).toNatClampNeg)
  refine lv_aload_n hx hb dL_law_746 rfl (lv_at hl 2 rfl) ?_
  refine lv_aload_n hx hb dL_law_747 rfl (lv_at hl 1 rfl) ?_
  refine lv_iload_n hx hb dL_law_748 rfl (lv_at hl 0 rfl) ?_
  refine lv_iconst (v := 1) hx hb dL_law_749 (by decide) ?_
  refine lv_iadd hx hb dL_law_750 ?_
  refine va_sld hx hb hX hbl hbA hS (zin (k := 1) (i := i) (by omega) hL (nI_add i 1)) dL_law_751 ?_
  refine lv_aload_n hx hb dL_law_752 rfl (lv_at hl 1 rfl) ?_
  refine lv_iload_n hx hb dL_law_753 rfl (lv_at hl 0 rfl) ?_
  refine lv_iconst (v := 2) hx hb dL_law_754 (by decide) ?_
  refine lv_iadd hx hb dL_law_755 ?_
  refine va_sld hx hb hX hbl hbA hS (zin (k := 2) (i := i) (by omega) hL (nI_add i 2)) dL_law_756 ?_
  refine lv_aload_n hx hb dL_law_757 rfl (lv_at hl 1 rfl) ?_
  refine lv_iload_n hx hb dL_law_758 rfl (lv_at hl 0 rfl) ?_
  refine lv_iconst (v := 3) hx hb dL_law_759 (by decide) ?_
  refine lv_iadd hx hb dL_law_760 ?_
  refine va_sld hx hb hX hbl hbA hS (zin (k := 3) (i := i) (by omega) hL (nI_add i 3)) dL_law_761 ?_
  have ela : va_up la on.2.1 (la on.2.1) = la := by rw [zup_self]
  have hP : va_P D vwCl (zW E KL kc on rw rd ft tr (va_up la on.2.1 (la on.2.1)) mo) H := by rw [ela]; exact hP
  have hD : va_D A (zW E KL kc on rw rd ft tr (va_up la on.2.1 (la on.2.1)) mo) := by rw [ela]; exact hD
  refine zcall_i (va_runV (R := room_1) (As := [.int (xs (nI i + (1 : Int32)).toNatClampNeg), .int (xs (nI i + (2 : Int32)).toNatClampNeg), .int (xs (nI i + (3 : Int32)).toNatClampNeg)]) (rest := []) ⟨hx, hb, hml, hown, hts⟩ (qX11_lostUse l D E KL kc on rw rd ft tr la mo (by unfold zOn at hOn; omega) (la on.2.1) N _ (xs (nI i + (1 : Int32)).toNatClampNeg) (xs (nI i + (2 : Int32)).toNatClampNeg) (xs (nI i + (3 : Int32)).toNatClampNeg) _ hu) (cwV 3 hts (zgV k3_51 k3_52 k3_53 k0_1 k3_54) rfl rfl rfl (by decide +kernel) ⟨Nat.le_of_ble_eq_true rfl, Nat.le_of_ble_eq_true rfl⟩) (zpv hE hS hA hK hP hD (va_recv hK hP (ci := 10) (q0 := 0) rfl (zg_on _ _ _ _ _ _ _ _ _ _))) rfl rfl hl.1 rfl (lv_room (Nat.le_of_ble_eq_true rfl)) dL_law_762 ⟨(show _ ≤ 600000 by omega), (show _ ≤ 7302250 by omega)⟩) hD hS hA (fun H locs hP hD hS => ?_)
  refine lv_aload_n hx hb dL_law_765 rfl (lv_at hl 3 rfl) ?_
  refine lv_aload_n hx hb dL_law_766 rfl (lv_at hl 1 rfl) ?_
  refine lv_iload_n hx hb dL_law_767 rfl (lv_at hl 0 rfl) ?_
  refine lv_iconst (v := 1) hx hb dL_law_768 (by decide) ?_
  refine lv_iadd hx hb dL_law_769 ?_
  refine va_sld hx hb hX hbl hbA hS (zin (k := 1) (i := i) (by omega) hL (nI_add i 1)) dL_law_770 ?_
  refine lv_aload_n hx hb dL_law_771 rfl (lv_at hl 1 rfl) ?_
  refine lv_iload_n hx hb dL_law_772 rfl (lv_at hl 0 rfl) ?_
  refine lv_iconst (v := 2) hx hb dL_law_773 (by decide) ?_
  refine lv_iadd hx hb dL_law_774 ?_
  refine va_sld hx hb hX hbl hbA hS (zin (k := 2) (i := i) (by omega) hL (nI_add i 2)) dL_law_775 ?_
  refine lv_aload_n hx hb dL_law_776 rfl (lv_at hl 1 rfl) ?_
  refine lv_iload_n hx hb dL_law_777 rfl (lv_at hl 0 rfl) ?_
  refine lv_iconst (v := 3) hx hb dL_law_778 (by decide) ?_
  refine lv_iadd hx hb dL_law_779 ?_
  refine va_sld hx hb hX hbl hbA hS (zin (k := 3) (i := i) (by omega) hL (nI_add i 3)) dL_law_780 ?_
  refine zcall_i (va_runV (R := room_1) (As := [.int (xs (nI i + (1 : Int32)).toNatClampNeg), .int (xs (nI i + (2 : Int32)).toNatClampNeg), .int (xs (nI i + (3 : Int32)).toNatClampNeg)]) (rest := [.int u]) ⟨hx, hb, hml, hown, hts⟩ (qX12_lostUse l D E KL kc on rw rd ft tr (va_up la on.2.1 (la on.2.1)) mo N _ (xs (nI i + (1 : Int32)).toNatClampNeg) (xs (nI i + (2 : Int32)).toNatClampNeg) (xs (nI i + (3 : Int32)).toNatClampNeg) _ hw) (cwV 3 hts (zgV k5_159 k5_160 k5_161 k0_8 k5_162) rfl rfl rfl (by decide +kernel) ⟨Nat.le_of_ble_eq_true rfl, Nat.le_of_ble_eq_true rfl⟩) (zpv hE hS hA hK hP hD (va_recv hK hP (ci := 11) (q0 := 68) rfl (zg_mo _ _ _ _ _ _ _ _ _ _))) rfl rfl hl.1 rfl (lv_room (Nat.le_of_ble_eq_true rfl)) dL_law_781 ⟨(show _ ≤ 600000 by omega), (show _ ≤ 7302250 by omega)⟩) hD hS hA (fun H locs hP hD hS => ?_)
  refine lv_icmp_eq (tgt := 1198) hx hb dL_law_784 (by decide) (fun _ => ?_) (fun c1 => absurd hr c1)
  refine W.widen (k := cells + 8) (n := slots + 24) (by omega) (by omega) ?_
  exact kk _ _ _ _ _ _ _ _ _ hI2 _ _ _ hP hD hS hl
set_option maxHeartbeats 1000000 in
set_option maxRecDepth 100000 in
theorem lwc_silence {p : Program} {l : Launch} {e : Env} {s : State} {m : MethodId} {below : List Frame} {meth : Method} {c : Code} {Q : State → Prop} {D : va_G} {E : zE} {A : Nat → Prop} {b L : Nat} {xs : Nat → Int32} (C0 : zLwk p s m c D E A b L xs) {N : Nat} {Inv : List Nat → (Nat → zKC) → zNS → zOS → zOS → zOS → zOS → (Nat → zLS) → zMS → Prop} (hst : zStep_silence N Inv) {i : Nat} (hi : i + 6 ≤ L) (KL : List Nat) (kc : Nat → zKC) (on : zNS) (rw rd ft tr : zOS) (la : Nat → zLS) (mo : zMS) (hInv : Inv KL kc on rw rd ft tr la mo) (hOn : zOn on) {H : Heap} {locs : List Loc} {ls : Array Slot} {cells slots : Nat} (hc : cells + 8 ≤ 600000) (hs : slots + 24 ≤ 7302250) (hP : va_P D vwCl (zW E KL kc on rw rd ft tr la mo) H) (hD : va_D A (zW E KL kc on rw rd ft tr la mo)) (hS : va_S A s.heap H locs) (hl : lv_has ls 4 [(3, .int (nI i)), (0, .ref b), (1, .ref (E.1 0)), (2, .ref (E.1 68))]) (kk : ∀ (KL : List Nat) (kc : Nat → zKC) (on : zNS) (rw rd ft tr : zOS) (la : Nat → zLS) (mo : zMS), Inv KL kc on rw rd ft tr la mo → ∀ (H : Heap) (locs : List Loc) (ls : Array Slot), va_P D vwCl (zW E KL kc on rw rd ft tr la mo) H → va_D A (zW E KL kc on rw rd ft tr la mo) → va_S A s.heap H locs → lv_has ls 4 [(3, .int (nI i)), (0, .ref b), (1, .ref (E.1 0)), (2, .ref (E.1 68))] → W p l e room_1 s m #[Value.ref b] below meth c H locs (cells + 8) (slots + 24) Q (F0 m 1198 ls [])) : W p l e room_1 s m #[Value.ref b] below meth c H locs cells slots Q (F0 m 789 ls []) := by
  obtain ⟨hx, hb, hml, hown, hts, hX, hbl, hbA, hA, hK, hE, hL⟩ := C0
  obtain ⟨u, w, hu, hw, hr, hI2⟩ := hst KL kc on rw rd ft tr la mo hInv (xs (nI i + (1 : Int32)).toNatClampNeg) (xs (nI i + (2 : Int32)).toNatClampNeg) (xs (nI i + (3 : Int32)).toNatClampNeg) (xs (nI i + (4 : Int32)).toNatClampNeg) (xs (nI i + (5 : Int32)).toNatClampNeg)
  refine lv_aload_n hx hb dL_law_789 rfl (lv_at hl 2 rfl) ?_
  refine lv_aload_n hx hb dL_law_790 rfl (lv_at hl 1 rfl) ?_
  refine lv_iload_n hx hb dL_law_791 rfl (lv_at hl 0 rfl) ?_
  refine lv_iconst (v := 1) hx hb dL_law_792 (by decide) ?_
  refine lv_iadd hx hb dL_law_793 ?_
  refine va_sld hx hb hX hbl hbA hS (zin (k := 1) (i := i) (by omega) hL (nI_add i 1)) dL_law_794 ?_
  refine lv_aload_n hx hb dL_law_795 rfl (lv_at hl 1 rfl) ?_
  refine lv_iload_n hx hb dL_law_796 rfl (lv_at hl 0 rfl) ?_
  refine lv_iconst (v := 2) hx hb dL_law_797 (by decide) ?_
  refine lv_iadd hx hb dL_law_798 ?_
  refine va_sld hx hb hX hbl hbA hS (zin (k := 2) (i := i) (by omega) hL (nI_add i 2)) dL_law_799 ?_
  refine lv_aload_n hx hb dL_law_800 rfl (lv_at hl 1 rfl) ?_
  refine lv_iload_n hx hb dL_law_801 rfl (lv_at hl 0 rfl) ?_
  refine lv_iconst (v := 3) hx hb dL_law_802 (by decide) ?_
  refine lv_iadd hx hb dL_law_803 ?_
  refine va_sld hx hb hX hbl hbA hS (zin (k := 3) (i := i) (by omega) hL (nI_add i 3)) dL_law_804 ?_
  refine lv_aload_n hx hb dL_law_805 rfl (lv_at hl 1 rfl) ?_
  refine lv_iload_n hx hb dL_law_806 rfl (lv_at hl 0 rfl) ?_
  refine lv_iconst (v := 4) hx hb dL_law_807 (by decide) ?_
  refine lv_iadd hx hb dL_law_808 ?_
  refine va_sld hx hb hX hbl hbA hS (zin (k := 4) (i := i) (by omega) hL (nI_add i 4)) dL_law_809 ?_
  refine lv_aload_n hx hb dL_law_810 rfl (lv_at hl 1 rfl) ?_
  refine lv_iload_n hx hb dL_law_811 rfl (lv_at hl 0 rfl) ?_
  refine lv_iconst (v := 5) hx hb dL_law_812 (by decide) ?_
  refine lv_iadd hx hb dL_law_813 ?_
  refine va_sld hx hb hX hbl hbA hS (zin (k := 5) (i := i) (by omega) hL (nI_add i 5)) dL_law_814 ?_
  have ela : va_up la on.2.1 (la on.2.1) = la := by rw [zup_self]
  have hP : va_P D vwCl (zW E KL kc on rw rd ft tr (va_up la on.2.1 (la on.2.1)) mo) H := by rw [ela]; exact hP
  have hD : va_D A (zW E KL kc on rw rd ft tr (va_up la on.2.1 (la on.2.1)) mo) := by rw [ela]; exact hD
  refine zcall_i (va_runV (R := room_1) (As := [.int (xs (nI i + (1 : Int32)).toNatClampNeg), .int (xs (nI i + (2 : Int32)).toNatClampNeg), .int (xs (nI i + (3 : Int32)).toNatClampNeg), .int (xs (nI i + (4 : Int32)).toNatClampNeg), .int (xs (nI i + (5 : Int32)).toNatClampNeg)]) (rest := []) ⟨hx, hb, hml, hown, hts⟩ (qX11_silence l D E KL kc on rw rd ft tr la mo (by unfold zOn at hOn; omega) (la on.2.1) N _ (xs (nI i + (1 : Int32)).toNatClampNeg) (xs (nI i + (2 : Int32)).toNatClampNeg) (xs (nI i + (3 : Int32)).toNatClampNeg) (xs (nI i + (4 : Int32)).toNatClampNeg) (xs (nI i + (5 : Int32)).toNatClampNeg) _ hu) (cwV 5 hts (zgV k3_55 k3_56 k3_57 k0_1 k3_58) rfl rfl rfl (by decide +kernel) ⟨Nat.le_of_ble_eq_true rfl, Nat.le_of_ble_eq_true rfl⟩) (zpv hE hS hA hK hP hD (va_recv hK hP (ci := 10) (q0 := 0) rfl (zg_on _ _ _ _ _ _ _ _ _ _))) rfl rfl hl.1 rfl (lv_room (Nat.le_of_ble_eq_true rfl)) dL_law_815 ⟨(show _ ≤ 600000 by omega), (show _ ≤ 7302250 by omega)⟩) hD hS hA (fun H locs hP hD hS => ?_)
  refine lv_aload_n hx hb dL_law_818 rfl (lv_at hl 3 rfl) ?_
  refine lv_aload_n hx hb dL_law_819 rfl (lv_at hl 1 rfl) ?_
  refine lv_iload_n hx hb dL_law_820 rfl (lv_at hl 0 rfl) ?_
  refine lv_iconst (v := 1) hx hb dL_law_821 (by decide) ?_
  refine lv_iadd hx hb dL_law_822 ?_
  refine va_sld hx hb hX hbl hbA hS (zin (k := 1) (i := i) (by omega) hL (nI_add i 1)) dL_law_823 ?_
  refine lv_aload_n hx hb dL_law_824 rfl (lv_at hl 1 rfl) ?_
  refine lv_iload_n hx hb dL_law_825 rfl (lv_at hl 0 rfl) ?_
  refine lv_iconst (v := 2) hx hb dL_law_826 (by decide) ?_
  refine lv_iadd hx hb dL_law_827 ?_
  refine va_sld hx hb hX hbl hbA hS (zin (k := 2) (i := i) (by omega) hL (nI_add i 2)) dL_law_828 ?_
  refine lv_aload_n hx hb dL_law_829 rfl (lv_at hl 1 rfl) ?_
  refine lv_iload_n hx hb dL_law_830 rfl (lv_at hl 0 rfl) ?_
  refine lv_iconst (v := 3) hx hb dL_law_831 (by decide) ?_
  refine lv_iadd hx hb dL_law_832 ?_
  refine va_sld hx hb hX hbl hbA hS (zin (k := 3) (i := i) (by omega) hL (nI_add i 3)) dL_law_833 ?_
  refine lv_aload_n hx hb dL_law_834 rfl (lv_at hl 1 rfl) ?_
  refine lv_iload_n hx hb dL_law_835 rfl (lv_at hl 0 rfl) ?_
  refine lv_iconst (v := 4) hx hb dL_law_836 (by decide) ?_
  refine lv_iadd hx hb dL_law_837 ?_
  refine va_sld hx hb hX hbl hbA hS (zin (k := 4) (i := i) (by omega) hL (nI_add i 4)) dL_law_838 ?_
  refine lv_aload_n hx hb dL_law_839 rfl (lv_at hl 1 rfl) ?_
  refine lv_iload_n hx hb dL_law_840 rfl (lv_at hl 0 rfl) ?_
  refine lv_iconst (v := 5) hx hb dL_law_841 (by decide) ?_
  refine lv_iadd hx hb dL_law_842 ?_
  refine va_sld hx hb hX hbl hbA hS (zin (k := 5) (i := i) (by omega) hL (nI_add i 5)) dL_law_843 ?_
  refine zcall_i (va_runV (R := room_1) (As := [.int (xs (nI i + (1 : Int32)).toNatClampNeg), .int (xs (nI i + (2 : Int32)).toNatClampNeg), .int (xs (nI i + (3 : Int32)).toNatClampNeg), .int (xs (nI i + (4 : Int32)).toNatClampNeg), .int (xs (nI i + (5 : Int32)).toNatClampNeg)]) (rest := [.int u]) ⟨hx, hb, hml, hown, hts⟩ (qX12_silence l D E KL kc on rw rd ft tr (va_up la on.2.1 (la on.2.1)) mo N _ (xs (nI i + (1 : Int32)).toNatClampNeg) (xs (nI i + (2 : Int32)).toNatClampNeg) (xs (nI i + (3 : Int32)).toNatClampNeg) (xs (nI i + (4 : Int32)).toNatClampNeg) (xs (nI i + (5 : Int32)).toNatClampNeg) _ hw) (cwV 5 hts (zgV k5_166 k5_167 k5_168 k0_8 k5_169) rfl rfl rfl (by decide +kernel) ⟨Nat.le_of_ble_eq_true rfl, Nat.le_of_ble_eq_true rfl⟩) (zpv hE hS hA hK hP hD (va_recv hK hP (ci := 11) (q0 := 68) rfl (zg_mo _ _ _ _ _ _ _ _ _ _))) rfl rfl hl.1 rfl (lv_room (Nat.le_of_ble_eq_true rfl)) dL_law_844 ⟨(show _ ≤ 600000 by omega), (show _ ≤ 7302250 by omega)⟩) hD hS hA (fun H locs hP hD hS => ?_)
  refine lv_icmp_eq (tgt := 1198) hx hb dL_law_847 (by decide) (fun _ => ?_) (fun c1 => absurd hr c1)
  refine W.widen (k := cells + 8) (n := slots + 24) (by omega) (by omega) ?_
  exact kk _ _ _ _ _ _ _ _ _ hI2 _ _ _ hP hD hS hl
set_option maxHeartbeats 1000000 in
set_option maxRecDepth 100000 in
theorem lwc_corner {p : Program} {l : Launch} {e : Env} {s : State} {m : MethodId} {below : List Frame} {meth : Method} {c : Code} {Q : State → Prop} {D : va_G} {E : zE} {A : Nat → Prop} {b L : Nat} {xs : Nat → Int32} (C0 : zLwk p s m c D E A b L xs) {N : Nat} {Inv : List Nat → (Nat → zKC) → zNS → zOS → zOS → zOS → zOS → (Nat → zLS) → zMS → Prop} (hst : zStep_corner N Inv) {i : Nat} (hi : i + 6 ≤ L) (KL : List Nat) (kc : Nat → zKC) (on : zNS) (rw rd ft tr : zOS) (la : Nat → zLS) (mo : zMS) (hInv : Inv KL kc on rw rd ft tr la mo) (hOn : zOn on) {H : Heap} {locs : List Loc} {ls : Array Slot} {cells slots : Nat} (hc : cells + 8 ≤ 600000) (hs : slots + 24 ≤ 7302250) (hP : va_P D vwCl (zW E KL kc on rw rd ft tr la mo) H) (hD : va_D A (zW E KL kc on rw rd ft tr la mo)) (hS : va_S A s.heap H locs) (hl : lv_has ls 4 [(3, .int (nI i)), (0, .ref b), (1, .ref (E.1 0)), (2, .ref (E.1 68))]) (kk : ∀ (KL : List Nat) (kc : Nat → zKC) (on : zNS) (rw rd ft tr : zOS) (la : Nat → zLS) (mo : zMS), Inv KL kc on rw rd ft tr la mo → ∀ (H : Heap) (locs : List Loc) (ls : Array Slot), va_P D vwCl (zW E KL kc on rw rd ft tr la mo) H → va_D A (zW E KL kc on rw rd ft tr la mo) → va_S A s.heap H locs → lv_has ls 4 [(3, .int (nI i)), (0, .ref b), (1, .ref (E.1 0)), (2, .ref (E.1 68))] → W p l e room_1 s m #[Value.ref b] below meth c H locs (cells + 8) (slots + 24) Q (F0 m 1198 ls [])) : W p l e room_1 s m #[Value.ref b] below meth c H locs cells slots Q (F0 m 852 ls []) := by
  obtain ⟨hx, hb, hml, hown, hts, hX, hbl, hbA, hA, hK, hE, hL⟩ := C0
  obtain ⟨u, w, hu, hw, hr, hI2⟩ := hst KL kc on rw rd ft tr la mo hInv (xs (nI i + (1 : Int32)).toNatClampNeg) (xs (nI i + (2 : Int32)).toNatClampNeg) (xs (nI i + (3 : Int32)).toNatClampNeg) (xs (nI i + (4 : Int32)).toNatClampNeg)
  refine lv_aload_n hx hb dL_law_852 rfl (lv_at hl 2 rfl) ?_
  refine lv_aload_n hx hb dL_law_853 rfl (lv_at hl 1 rfl) ?_
  refine lv_iload_n hx hb dL_law_854 rfl (lv_at hl 0 rfl) ?_
  refine lv_iconst (v := 1) hx hb dL_law_855 (by decide) ?_
  refine lv_iadd hx hb dL_law_856 ?_
  refine va_sld hx hb hX hbl hbA hS (zin (k := 1) (i := i) (by omega) hL (nI_add i 1)) dL_law_857 ?_
  refine lv_aload_n hx hb dL_law_858 rfl (lv_at hl 1 rfl) ?_
  refine lv_iload_n hx hb dL_law_859 rfl (lv_at hl 0 rfl) ?_
  refine lv_iconst (v := 2) hx hb dL_law_860 (by decide) ?_
  refine lv_iadd hx hb dL_law_861 ?_
  refine va_sld hx hb hX hbl hbA hS (zin (k := 2) (i := i) (by omega) hL (nI_add i 2)) dL_law_862 ?_
  refine lv_aload_n hx hb dL_law_863 rfl (lv_at hl 1 rfl) ?_
  refine lv_iload_n hx hb dL_law_864 rfl (lv_at hl 0 rfl) ?_
  refine lv_iconst (v := 3) hx hb dL_law_865 (by decide) ?_
  refine lv_iadd hx hb dL_law_866 ?_
  refine va_sld hx hb hX hbl hbA hS (zin (k := 3) (i := i) (by omega) hL (nI_add i 3)) dL_law_867 ?_
  refine lv_aload_n hx hb dL_law_868 rfl (lv_at hl 1 rfl) ?_
  refine lv_iload_n hx hb dL_law_869 rfl (lv_at hl 0 rfl) ?_
  refine lv_iconst (v := 4) hx hb dL_law_870 (by decide) ?_
  refine lv_iadd hx hb dL_law_871 ?_
  refine va_sld hx hb hX hbl hbA hS (zin (k := 4) (i := i) (by omega) hL (nI_add i 4)) dL_law_872 ?_
  have ela : va_up la on.2.1 (la on.2.1) = la := by rw [zup_self]
  have hP : va_P D vwCl (zW E KL kc on rw rd ft tr (va_up la on.2.1 (la on.2.1)) mo) H := by rw [ela]; exact hP
  have hD : va_D A (zW E KL kc on rw rd ft tr (va_up la on.2.1 (la on.2.1)) mo) := by rw [ela]; exact hD
  refine zcall_i (va_runV (R := room_1) (As := [.int (xs (nI i + (1 : Int32)).toNatClampNeg), .int (xs (nI i + (2 : Int32)).toNatClampNeg), .int (xs (nI i + (3 : Int32)).toNatClampNeg), .int (xs (nI i + (4 : Int32)).toNatClampNeg)]) (rest := []) ⟨hx, hb, hml, hown, hts⟩ (qX11_corner l D E KL kc on rw rd ft tr la mo (by unfold zOn at hOn; omega) (la on.2.1) N _ (xs (nI i + (1 : Int32)).toNatClampNeg) (xs (nI i + (2 : Int32)).toNatClampNeg) (xs (nI i + (3 : Int32)).toNatClampNeg) (xs (nI i + (4 : Int32)).toNatClampNeg) _ hu) (cwV 4 hts (zgV k3_59 k3_60 k3_61 k0_1 k3_62) rfl rfl rfl (by decide +kernel) ⟨Nat.le_of_ble_eq_true rfl, Nat.le_of_ble_eq_true rfl⟩) (zpv hE hS hA hK hP hD (va_recv hK hP (ci := 10) (q0 := 0) rfl (zg_on _ _ _ _ _ _ _ _ _ _))) rfl rfl hl.1 rfl (lv_room (Nat.le_of_ble_eq_true rfl)) dL_law_873 ⟨(show _ ≤ 600000 by omega), (show _ ≤ 7302250 by omega)⟩) hD hS hA (fun H locs hP hD hS => ?_)
  refine lv_aload_n hx hb dL_law_876 rfl (lv_at hl 3 rfl) ?_
  refine lv_aload_n hx hb dL_law_877 rfl (lv_at hl 1 rfl) ?_
  refine lv_iload_n hx hb dL_law_878 rfl (lv_at hl 0 rfl) ?_
  refine lv_iconst (v := 1) hx hb dL_law_879 (by decide) ?_
  refine lv_iadd hx hb dL_law_880 ?_
  refine va_sld hx hb hX hbl hbA hS (zin (k := 1) (i := i) (by omega) hL (nI_add i 1)) dL_law_881 ?_
  refine lv_aload_n hx hb dL_law_882 rfl (lv_at hl 1 rfl) ?_
  refine lv_iload_n hx hb dL_law_883 rfl (lv_at hl 0 rfl) ?_
  refine lv_iconst (v := 2) hx hb dL_law_884 (by decide) ?_
  refine lv_iadd hx hb dL_law_885 ?_
  refine va_sld hx hb hX hbl hbA hS (zin (k := 2) (i := i) (by omega) hL (nI_add i 2)) dL_law_886 ?_
  refine lv_aload_n hx hb dL_law_887 rfl (lv_at hl 1 rfl) ?_
  refine lv_iload_n hx hb dL_law_888 rfl (lv_at hl 0 rfl) ?_
  refine lv_iconst (v := 3) hx hb dL_law_889 (by decide) ?_
  refine lv_iadd hx hb dL_law_890 ?_
  refine va_sld hx hb hX hbl hbA hS (zin (k := 3) (i := i) (by omega) hL (nI_add i 3)) dL_law_891 ?_
  refine lv_aload_n hx hb dL_law_892 rfl (lv_at hl 1 rfl) ?_
  refine lv_iload_n hx hb dL_law_893 rfl (lv_at hl 0 rfl) ?_
  refine lv_iconst (v := 4) hx hb dL_law_894 (by decide) ?_
  refine lv_iadd hx hb dL_law_895 ?_
  refine va_sld hx hb hX hbl hbA hS (zin (k := 4) (i := i) (by omega) hL (nI_add i 4)) dL_law_896 ?_
  refine zcall_i (va_runV (R := room_1) (As := [.int (xs (nI i + (1 : Int32)).toNatClampNeg), .int (xs (nI i + (2 : Int32)).toNatClampNeg), .int (xs (nI i + (3 : Int32)).toNatClampNeg), .int (xs (nI i + (4 : Int32)).toNatClampNeg)]) (rest := [.int u.1]) ⟨hx, hb, hml, hown, hts⟩ (qX12_corner l D E KL kc on rw rd u.2 tr (va_up la on.2.1 (la on.2.1)) mo N _ (xs (nI i + (1 : Int32)).toNatClampNeg) (xs (nI i + (2 : Int32)).toNatClampNeg) (xs (nI i + (3 : Int32)).toNatClampNeg) (xs (nI i + (4 : Int32)).toNatClampNeg) _ hw) (cwV 4 hts (zgV k5_170 k5_171 k5_172 k0_8 k5_173) rfl rfl rfl (by decide +kernel) ⟨Nat.le_of_ble_eq_true rfl, Nat.le_of_ble_eq_true rfl⟩) (zpv hE hS hA hK hP hD (va_recv hK hP (ci := 11) (q0 := 68) rfl (zg_mo _ _ _ _ _ _ _ _ _ _))) rfl rfl hl.1 rfl (lv_room (Nat.le_of_ble_eq_true rfl)) dL_law_897 ⟨(show _ ≤ 600000 by omega), (show _ ≤ 7302250 by omega)⟩) hD hS hA (fun H locs hP hD hS => ?_)
  refine lv_icmp_eq (tgt := 1198) hx hb dL_law_900 (by decide) (fun _ => ?_) (fun c1 => absurd hr c1)
  refine W.widen (k := cells + 8) (n := slots + 24) (by omega) (by omega) ?_
  exact kk _ _ _ _ _ _ _ _ _ hI2 _ _ _ hP hD hS hl
set_option maxHeartbeats 1000000 in
set_option maxRecDepth 100000 in
theorem lwc_make {p : Program} {l : Launch} {e : Env} {s : State} {m : MethodId} {below : List Frame} {meth : Method} {c : Code} {Q : State → Prop} {D : va_G} {E : zE} {A : Nat → Prop} {b L : Nat} {xs : Nat → Int32} (C0 : zLwk p s m c D E A b L xs) {N : Nat} {Inv : List Nat → (Nat → zKC) → zNS → zOS → zOS → zOS → zOS → (Nat → zLS) → zMS → Prop} (hst : zStep_make N Inv) {i : Nat} (hi : i + 6 ≤ L) (KL : List Nat) (kc : Nat → zKC) (on : zNS) (rw rd ft tr : zOS) (la : Nat → zLS) (mo : zMS) (hInv : Inv KL kc on rw rd ft tr la mo) (hOn : zOn on) {H : Heap} {locs : List Loc} {ls : Array Slot} {cells slots : Nat} (hc : cells + 8 ≤ 600000) (hs : slots + 24 ≤ 7302250) (hP : va_P D vwCl (zW E KL kc on rw rd ft tr la mo) H) (hD : va_D A (zW E KL kc on rw rd ft tr la mo)) (hS : va_S A s.heap H locs) (hl : lv_has ls 4 [(3, .int (nI i)), (0, .ref b), (1, .ref (E.1 0)), (2, .ref (E.1 68))]) (kk : ∀ (KL : List Nat) (kc : Nat → zKC) (on : zNS) (rw rd ft tr : zOS) (la : Nat → zLS) (mo : zMS), Inv KL kc on rw rd ft tr la mo → ∀ (H : Heap) (locs : List Loc) (ls : Array Slot), va_P D vwCl (zW E KL kc on rw rd ft tr la mo) H → va_D A (zW E KL kc on rw rd ft tr la mo) → va_S A s.heap H locs → lv_has ls 4 [(3, .int (nI i)), (0, .ref b), (1, .ref (E.1 0)), (2, .ref (E.1 68))] → W p l e room_1 s m #[Value.ref b] below meth c H locs (cells + 8) (slots + 24) Q (F0 m 1198 ls [])) : W p l e room_1 s m #[Value.ref b] below meth c H locs cells slots Q (F0 m 905 ls []) := by
  obtain ⟨hx, hb, hml, hown, hts, hX, hbl, hbA, hA, hK, hE, hL⟩ := C0
  obtain ⟨u, w, hu, hw, hr, hI2⟩ := hst KL kc on rw rd ft tr la mo hInv (xs (nI i + (1 : Int32)).toNatClampNeg) (xs (nI i + (2 : Int32)).toNatClampNeg) (xs (nI i + (3 : Int32)).toNatClampNeg)
  refine lv_aload_n hx hb dL_law_905 rfl (lv_at hl 2 rfl) ?_
  refine lv_aload_n hx hb dL_law_906 rfl (lv_at hl 1 rfl) ?_
  refine lv_iload_n hx hb dL_law_907 rfl (lv_at hl 0 rfl) ?_
  refine lv_iconst (v := 1) hx hb dL_law_908 (by decide) ?_
  refine lv_iadd hx hb dL_law_909 ?_
  refine va_sld hx hb hX hbl hbA hS (zin (k := 1) (i := i) (by omega) hL (nI_add i 1)) dL_law_910 ?_
  refine lv_aload_n hx hb dL_law_911 rfl (lv_at hl 1 rfl) ?_
  refine lv_iload_n hx hb dL_law_912 rfl (lv_at hl 0 rfl) ?_
  refine lv_iconst (v := 2) hx hb dL_law_913 (by decide) ?_
  refine lv_iadd hx hb dL_law_914 ?_
  refine va_sld hx hb hX hbl hbA hS (zin (k := 2) (i := i) (by omega) hL (nI_add i 2)) dL_law_915 ?_
  refine lv_aload_n hx hb dL_law_916 rfl (lv_at hl 1 rfl) ?_
  refine lv_iload_n hx hb dL_law_917 rfl (lv_at hl 0 rfl) ?_
  refine lv_iconst (v := 3) hx hb dL_law_918 (by decide) ?_
  refine lv_iadd hx hb dL_law_919 ?_
  refine va_sld hx hb hX hbl hbA hS (zin (k := 3) (i := i) (by omega) hL (nI_add i 3)) dL_law_920 ?_
  have ela : va_up la on.2.1 (la on.2.1) = la := by rw [zup_self]
  have hP : va_P D vwCl (zW E KL kc on rw rd ft tr (va_up la on.2.1 (la on.2.1)) mo) H := by rw [ela]; exact hP
  have hD : va_D A (zW E KL kc on rw rd ft tr (va_up la on.2.1 (la on.2.1)) mo) := by rw [ela]; exact hD
  refine zcall_i (va_runV (R := room_1) (As := [.int (xs (nI i + (1 : Int32)).toNatClampNeg), .int (xs (nI i + (2 : Int32)).toNatClampNeg), .int (xs (nI i + (3 : Int32)).toNatClampNeg)]) (rest := []) ⟨hx, hb, hml, hown, hts⟩ (qX11_make l D E KL kc on rw rd ft tr la mo (by unfold zOn at hOn; omega) (la on.2.1) N _ (xs (nI i + (1 : Int32)).toNatClampNeg) (xs (nI i + (2 : Int32)).toNatClampNeg) (xs (nI i + (3 : Int32)).toNatClampNeg) _ hu) (cwV 3 hts (zgV k3_97 k3_98 k3_99 k0_1 k3_100) rfl rfl rfl (by decide +kernel) ⟨Nat.le_of_ble_eq_true rfl, Nat.le_of_ble_eq_true rfl⟩) (zpv hE hS hA hK hP hD (va_recv hK hP (ci := 10) (q0 := 0) rfl (zg_on _ _ _ _ _ _ _ _ _ _))) rfl rfl hl.1 rfl (lv_room (Nat.le_of_ble_eq_true rfl)) dL_law_921 ⟨(show _ ≤ 600000 by omega), (show _ ≤ 7302250 by omega)⟩) hD hS hA (fun H locs hP hD hS => ?_)
  refine lv_aload_n hx hb dL_law_924 rfl (lv_at hl 3 rfl) ?_
  refine lv_aload_n hx hb dL_law_925 rfl (lv_at hl 1 rfl) ?_
  refine lv_iload_n hx hb dL_law_926 rfl (lv_at hl 0 rfl) ?_
  refine lv_iconst (v := 1) hx hb dL_law_927 (by decide) ?_
  refine lv_iadd hx hb dL_law_928 ?_
  refine va_sld hx hb hX hbl hbA hS (zin (k := 1) (i := i) (by omega) hL (nI_add i 1)) dL_law_929 ?_
  refine lv_aload_n hx hb dL_law_930 rfl (lv_at hl 1 rfl) ?_
  refine lv_iload_n hx hb dL_law_931 rfl (lv_at hl 0 rfl) ?_
  refine lv_iconst (v := 2) hx hb dL_law_932 (by decide) ?_
  refine lv_iadd hx hb dL_law_933 ?_
  refine va_sld hx hb hX hbl hbA hS (zin (k := 2) (i := i) (by omega) hL (nI_add i 2)) dL_law_934 ?_
  refine lv_aload_n hx hb dL_law_935 rfl (lv_at hl 1 rfl) ?_
  refine lv_iload_n hx hb dL_law_936 rfl (lv_at hl 0 rfl) ?_
  refine lv_iconst (v := 3) hx hb dL_law_937 (by decide) ?_
  refine lv_iadd hx hb dL_law_938 ?_
  refine va_sld hx hb hX hbl hbA hS (zin (k := 3) (i := i) (by omega) hL (nI_add i 3)) dL_law_939 ?_
  refine zcall_i (va_runV (R := room_1) (As := [.int (xs (nI i + (1 : Int32)).toNatClampNeg), .int (xs (nI i + (2 : Int32)).toNatClampNeg), .int (xs (nI i + (3 : Int32)).toNatClampNeg)]) (rest := [.int u]) ⟨hx, hb, hml, hown, hts⟩ (qX12_make l D E KL kc on rw rd ft tr (va_up la on.2.1 (la on.2.1)) mo N _ (xs (nI i + (1 : Int32)).toNatClampNeg) (xs (nI i + (2 : Int32)).toNatClampNeg) (xs (nI i + (3 : Int32)).toNatClampNeg) _ hw) (cwV 3 hts (zgV k5_186 k5_187 k5_188 k0_8 k5_189) rfl rfl rfl (by decide +kernel) ⟨Nat.le_of_ble_eq_true rfl, Nat.le_of_ble_eq_true rfl⟩) (zpv hE hS hA hK hP hD (va_recv hK hP (ci := 11) (q0 := 68) rfl (zg_mo _ _ _ _ _ _ _ _ _ _))) rfl rfl hl.1 rfl (lv_room (Nat.le_of_ble_eq_true rfl)) dL_law_940 ⟨(show _ ≤ 600000 by omega), (show _ ≤ 7302250 by omega)⟩) hD hS hA (fun H locs hP hD hS => ?_)
  refine lv_icmp_eq (tgt := 1198) hx hb dL_law_943 (by decide) (fun _ => ?_) (fun c1 => absurd hr c1)
  refine W.widen (k := cells + 8) (n := slots + 24) (by omega) (by omega) ?_
  exact kk _ _ _ _ _ _ _ _ _ hI2 _ _ _ hP hD hS hl
set_option maxHeartbeats 1000000 in
set_option maxRecDepth 100000 in
theorem lwc_fit {p : Program} {l : Launch} {e : Env} {s : State} {m : MethodId} {below : List Frame} {meth : Method} {c : Code} {Q : State → Prop} {D : va_G} {E : zE} {A : Nat → Prop} {b L : Nat} {xs : Nat → Int32} (C0 : zLwk p s m c D E A b L xs) {N : Nat} {Inv : List Nat → (Nat → zKC) → zNS → zOS → zOS → zOS → zOS → (Nat → zLS) → zMS → Prop} (hst : zStep_fit N Inv) {i : Nat} (hi : i + 6 ≤ L) (KL : List Nat) (kc : Nat → zKC) (on : zNS) (rw rd ft tr : zOS) (la : Nat → zLS) (mo : zMS) (hInv : Inv KL kc on rw rd ft tr la mo) (hOn : zOn on) {H : Heap} {locs : List Loc} {ls : Array Slot} {cells slots : Nat} (hc : cells + 8 ≤ 600000) (hs : slots + 24 ≤ 7302250) (hP : va_P D vwCl (zW E KL kc on rw rd ft tr la mo) H) (hD : va_D A (zW E KL kc on rw rd ft tr la mo)) (hS : va_S A s.heap H locs) (hl : lv_has ls 4 [(3, .int (nI i)), (0, .ref b), (1, .ref (E.1 0)), (2, .ref (E.1 68))]) (kk : ∀ (KL : List Nat) (kc : Nat → zKC) (on : zNS) (rw rd ft tr : zOS) (la : Nat → zLS) (mo : zMS), Inv KL kc on rw rd ft tr la mo → ∀ (H : Heap) (locs : List Loc) (ls : Array Slot), va_P D vwCl (zW E KL kc on rw rd ft tr la mo) H → va_D A (zW E KL kc on rw rd ft tr la mo) → va_S A s.heap H locs → lv_has ls 4 [(3, .int (nI i)), (0, .ref b), (1, .ref (E.1 0)), (2, .ref (E.1 68))] → W p l e room_1 s m #[Value.ref b] below meth c H locs (cells + 8) (slots + 24) Q (F0 m 1198 ls [])) : W p l e room_1 s m #[Value.ref b] below meth c H locs cells slots Q (F0 m 948 ls []) := by
  obtain ⟨hx, hb, hml, hown, hts, hX, hbl, hbA, hA, hK, hE, hL⟩ := C0
  obtain ⟨u, w, hu, hw, hr, hI2⟩ := hst KL kc on rw rd ft tr la mo hInv (xs (nI i + (1 : Int32)).toNatClampNeg) (xs (nI i + (2 : Int32)).toNatClampNeg)
  refine lv_aload_n hx hb dL_law_948 rfl (lv_at hl 2 rfl) ?_
  refine lv_aload_n hx hb dL_law_949 rfl (lv_at hl 1 rfl) ?_
  refine lv_iload_n hx hb dL_law_950 rfl (lv_at hl 0 rfl) ?_
  refine lv_iconst (v := 1) hx hb dL_law_951 (by decide) ?_
  refine lv_iadd hx hb dL_law_952 ?_
  refine va_sld hx hb hX hbl hbA hS (zin (k := 1) (i := i) (by omega) hL (nI_add i 1)) dL_law_953 ?_
  refine lv_aload_n hx hb dL_law_954 rfl (lv_at hl 1 rfl) ?_
  refine lv_iload_n hx hb dL_law_955 rfl (lv_at hl 0 rfl) ?_
  refine lv_iconst (v := 2) hx hb dL_law_956 (by decide) ?_
  refine lv_iadd hx hb dL_law_957 ?_
  refine va_sld hx hb hX hbl hbA hS (zin (k := 2) (i := i) (by omega) hL (nI_add i 2)) dL_law_958 ?_
  have ela : va_up (va_up la on.2.1 (la on.2.1)) 4 (la 4) = la := by rw [zup_self, zup_self]
  have hP : va_P D vwCl (zW E KL kc on rw rd ft tr (va_up (va_up la on.2.1 (la on.2.1)) 4 (la 4)) mo) H := by rw [ela]; exact hP
  have hD : va_D A (zW E KL kc on rw rd ft tr (va_up (va_up la on.2.1 (la on.2.1)) 4 (la 4)) mo) := by rw [ela]; exact hD
  refine zcall_i (va_runV (R := room_1) (As := [.int (xs (nI i + (1 : Int32)).toNatClampNeg), .int (xs (nI i + (2 : Int32)).toNatClampNeg)]) (rest := []) ⟨hx, hb, hml, hown, hts⟩ (qX11_fit l D E KL kc on rw rd ft tr la mo (by unfold zOn at hOn; omega) (la on.2.1) (la 4) (by unfold zOn at hOn; omega) N _ (xs (nI i + (1 : Int32)).toNatClampNeg) (xs (nI i + (2 : Int32)).toNatClampNeg) _ hu) (cwV 2 hts (zgV k3_106 k3_107 k3_108 k0_1 k3_109) rfl rfl rfl (by decide +kernel) ⟨Nat.le_of_ble_eq_true rfl, Nat.le_of_ble_eq_true rfl⟩) (zpv hE hS hA hK hP hD (va_recv hK hP (ci := 10) (q0 := 0) rfl (zg_on _ _ _ _ _ _ _ _ _ _))) rfl rfl hl.1 rfl (lv_room (Nat.le_of_ble_eq_true rfl)) dL_law_959 ⟨(show _ ≤ 600000 by omega), (show _ ≤ 7302250 by omega)⟩) hD hS hA (fun H locs hP hD hS => ?_)
  refine lv_aload_n hx hb dL_law_962 rfl (lv_at hl 3 rfl) ?_
  refine lv_aload_n hx hb dL_law_963 rfl (lv_at hl 1 rfl) ?_
  refine lv_iload_n hx hb dL_law_964 rfl (lv_at hl 0 rfl) ?_
  refine lv_iconst (v := 1) hx hb dL_law_965 (by decide) ?_
  refine lv_iadd hx hb dL_law_966 ?_
  refine va_sld hx hb hX hbl hbA hS (zin (k := 1) (i := i) (by omega) hL (nI_add i 1)) dL_law_967 ?_
  refine lv_aload_n hx hb dL_law_968 rfl (lv_at hl 1 rfl) ?_
  refine lv_iload_n hx hb dL_law_969 rfl (lv_at hl 0 rfl) ?_
  refine lv_iconst (v := 2) hx hb dL_law_970 (by decide) ?_
  refine lv_iadd hx hb dL_law_971 ?_
  refine va_sld hx hb hX hbl hbA hS (zin (k := 2) (i := i) (by omega) hL (nI_add i 2)) dL_law_972 ?_
  refine zcall_i (va_runV (R := room_1) (As := [.int (xs (nI i + (1 : Int32)).toNatClampNeg), .int (xs (nI i + (2 : Int32)).toNatClampNeg)]) (rest := [.int u.1]) ⟨hx, hb, hml, hown, hts⟩ (qX12_fit l D E KL kc u.2.1 rw rd u.2.2.1 tr (va_up (va_up la on.2.1 (la on.2.1)) 4 u.2.2.2) mo N _ (xs (nI i + (1 : Int32)).toNatClampNeg) (xs (nI i + (2 : Int32)).toNatClampNeg) _ hw) (cwV 2 hts (zgV k5_197 k5_198 k5_199 k0_8 k5_200) rfl rfl rfl (by decide +kernel) ⟨Nat.le_of_ble_eq_true rfl, Nat.le_of_ble_eq_true rfl⟩) (zpv hE hS hA hK hP hD (va_recv hK hP (ci := 11) (q0 := 68) rfl (zg_mo _ _ _ _ _ _ _ _ _ _))) rfl rfl hl.1 rfl (lv_room (Nat.le_of_ble_eq_true rfl)) dL_law_973 ⟨(show _ ≤ 600000 by omega), (show _ ≤ 7302250 by omega)⟩) hD hS hA (fun H locs hP hD hS => ?_)
  refine lv_icmp_eq (tgt := 1198) hx hb dL_law_976 (by decide) (fun _ => ?_) (fun c1 => absurd hr c1)
  refine W.widen (k := cells + 8) (n := slots + 24) (by omega) (by omega) ?_
  exact kk _ _ _ _ _ _ _ _ _ hI2 _ _ _ hP hD hS hl
set_option maxHeartbeats 1000000 in
set_option maxRecDepth 100000 in
theorem lwc_laws {p : Program} {l : Launch} {e : Env} {s : State} {m : MethodId} {below : List Frame} {meth : Method} {c : Code} {Q : State → Prop} {D : va_G} {E : zE} {A : Nat → Prop} {b L : Nat} {xs : Nat → Int32} (C0 : zLwk p s m c D E A b L xs) {N : Nat} {Inv : List Nat → (Nat → zKC) → zNS → zOS → zOS → zOS → zOS → (Nat → zLS) → zMS → Prop} (hst : zStep_laws N Inv) {i : Nat} (hi : i + 6 ≤ L) (KL : List Nat) (kc : Nat → zKC) (on : zNS) (rw rd ft tr : zOS) (la : Nat → zLS) (mo : zMS) (hInv : Inv KL kc on rw rd ft tr la mo) (hOn : zOn on) {H : Heap} {locs : List Loc} {ls : Array Slot} {cells slots : Nat} (hc : cells + 8 ≤ 600000) (hs : slots + 24 ≤ 7302250) (hP : va_P D vwCl (zW E KL kc on rw rd ft tr la mo) H) (hD : va_D A (zW E KL kc on rw rd ft tr la mo)) (hS : va_S A s.heap H locs) (hl : lv_has ls 4 [(3, .int (nI i)), (0, .ref b), (1, .ref (E.1 0)), (2, .ref (E.1 68))]) (kk : ∀ (KL : List Nat) (kc : Nat → zKC) (on : zNS) (rw rd ft tr : zOS) (la : Nat → zLS) (mo : zMS), Inv KL kc on rw rd ft tr la mo → ∀ (H : Heap) (locs : List Loc) (ls : Array Slot), va_P D vwCl (zW E KL kc on rw rd ft tr la mo) H → va_D A (zW E KL kc on rw rd ft tr la mo) → va_S A s.heap H locs → lv_has ls 4 [(3, .int (nI i)), (0, .ref b), (1, .ref (E.1 0)), (2, .ref (E.1 68))] → W p l e room_1 s m #[Value.ref b] below meth c H locs (cells + 8) (slots + 24) Q (F0 m 1198 ls [])) : W p l e room_1 s m #[Value.ref b] below meth c H locs cells slots Q (F0 m 981 ls []) := by
  obtain ⟨hx, hb, hml, hown, hts, hX, hbl, hbA, hA, hK, hE, hL⟩ := C0
  obtain ⟨u, w, hu, hw, hr, hI2⟩ := hst KL kc on rw rd ft tr la mo hInv (xs (nI i + (1 : Int32)).toNatClampNeg)
  refine lv_aload_n hx hb dL_law_981 rfl (lv_at hl 2 rfl) ?_
  refine lv_aload_n hx hb dL_law_982 rfl (lv_at hl 1 rfl) ?_
  refine lv_iload_n hx hb dL_law_983 rfl (lv_at hl 0 rfl) ?_
  refine lv_iconst (v := 1) hx hb dL_law_984 (by decide) ?_
  refine lv_iadd hx hb dL_law_985 ?_
  refine va_sld hx hb hX hbl hbA hS (zin (k := 1) (i := i) (by omega) hL (nI_add i 1)) dL_law_986 ?_
  have ela : va_up (va_up la on.2.1 (la on.2.1)) 4 (la 4) = la := by rw [zup_self, zup_self]
  have hP : va_P D vwCl (zW E KL kc on rw rd ft tr (va_up (va_up la on.2.1 (la on.2.1)) 4 (la 4)) mo) H := by rw [ela]; exact hP
  have hD : va_D A (zW E KL kc on rw rd ft tr (va_up (va_up la on.2.1 (la on.2.1)) 4 (la 4)) mo) := by rw [ela]; exact hD
  refine zcall_i (va_runV (R := room_1) (As := [.int (xs (nI i + (1 : Int32)).toNatClampNeg)]) (rest := []) ⟨hx, hb, hml, hown, hts⟩ (qX11_laws l D E KL kc on rw rd ft tr la mo (by unfold zOn at hOn; omega) (la on.2.1) (la 4) (by unfold zOn at hOn; omega) N _ (xs (nI i + (1 : Int32)).toNatClampNeg) _ hu) (cwV 1 hts (zgV k3_146 k3_147 k3_148 k0_1 k3_149) rfl rfl rfl (by decide +kernel) ⟨Nat.le_of_ble_eq_true rfl, Nat.le_of_ble_eq_true rfl⟩) (zpv hE hS hA hK hP hD (va_recv hK hP (ci := 10) (q0 := 0) rfl (zg_on _ _ _ _ _ _ _ _ _ _))) rfl rfl hl.1 rfl (lv_room (Nat.le_of_ble_eq_true rfl)) dL_law_987 ⟨(show _ ≤ 600000 by omega), (show _ ≤ 7302250 by omega)⟩) hD hS hA (fun H locs hP hD hS => ?_)
  refine lv_aload_n hx hb dL_law_990 rfl (lv_at hl 3 rfl) ?_
  refine lv_aload_n hx hb dL_law_991 rfl (lv_at hl 1 rfl) ?_
  refine lv_iload_n hx hb dL_law_992 rfl (lv_at hl 0 rfl) ?_
  refine lv_iconst (v := 1) hx hb dL_law_993 (by decide) ?_
  refine lv_iadd hx hb dL_law_994 ?_
  refine va_sld hx hb hX hbl hbA hS (zin (k := 1) (i := i) (by omega) hL (nI_add i 1)) dL_law_995 ?_
  refine zcall_i (va_runV (R := room_1) (As := [.int (xs (nI i + (1 : Int32)).toNatClampNeg)]) (rest := [.int u.1]) ⟨hx, hb, hml, hown, hts⟩ (qX12_laws l D E KL kc on rw rd ft tr (va_up (va_up la on.2.1 (la on.2.1)) 4 u.2) mo N _ (xs (nI i + (1 : Int32)).toNatClampNeg) _ hw) (cwV 1 hts (zgV k5_213 k5_214 k5_215 k0_8 k5_216) rfl rfl rfl (by decide +kernel) ⟨Nat.le_of_ble_eq_true rfl, Nat.le_of_ble_eq_true rfl⟩) (zpv hE hS hA hK hP hD (va_recv hK hP (ci := 11) (q0 := 68) rfl (zg_mo _ _ _ _ _ _ _ _ _ _))) rfl rfl hl.1 rfl (lv_room (Nat.le_of_ble_eq_true rfl)) dL_law_996 ⟨(show _ ≤ 600000 by omega), (show _ ≤ 7302250 by omega)⟩) hD hS hA (fun H locs hP hD hS => ?_)
  refine lv_icmp_eq (tgt := 1198) hx hb dL_law_999 (by decide) (fun _ => ?_) (fun c1 => absurd hr c1)
  refine W.widen (k := cells + 8) (n := slots + 24) (by omega) (by omega) ?_
  exact kk _ _ _ _ _ _ _ _ _ hI2 _ _ _ hP hD hS hl
set_option maxHeartbeats 1000000 in
set_option maxRecDepth 100000 in
theorem lwc_image {p : Program} {l : Launch} {e : Env} {s : State} {m : MethodId} {below : List Frame} {meth : Method} {c : Code} {Q : State → Prop} {D : va_G} {E : zE} {A : Nat → Prop} {b L : Nat} {xs : Nat → Int32} (C0 : zLwk p s m c D E A b L xs) {N : Nat} {Inv : List Nat → (Nat → zKC) → zNS → zOS → zOS → zOS → zOS → (Nat → zLS) → zMS → Prop} (hst : zStep_image N Inv) {i : Nat} (hi : i + 6 ≤ L) (KL : List Nat) (kc : Nat → zKC) (on : zNS) (rw rd ft tr : zOS) (la : Nat → zLS) (mo : zMS) (hInv : Inv KL kc on rw rd ft tr la mo) (hOn : zOn on) {H : Heap} {locs : List Loc} {ls : Array Slot} {cells slots : Nat} (hc : cells + 8 ≤ 600000) (hs : slots + 24 ≤ 7302250) (hP : va_P D vwCl (zW E KL kc on rw rd ft tr la mo) H) (hD : va_D A (zW E KL kc on rw rd ft tr la mo)) (hS : va_S A s.heap H locs) (hl : lv_has ls 4 [(3, .int (nI i)), (0, .ref b), (1, .ref (E.1 0)), (2, .ref (E.1 68))]) (kk : ∀ (KL : List Nat) (kc : Nat → zKC) (on : zNS) (rw rd ft tr : zOS) (la : Nat → zLS) (mo : zMS), Inv KL kc on rw rd ft tr la mo → ∀ (H : Heap) (locs : List Loc) (ls : Array Slot), va_P D vwCl (zW E KL kc on rw rd ft tr la mo) H → va_D A (zW E KL kc on rw rd ft tr la mo) → va_S A s.heap H locs → lv_has ls 4 [(3, .int (nI i)), (0, .ref b), (1, .ref (E.1 0)), (2, .ref (E.1 68))] → W p l e room_1 s m #[Value.ref b] below meth c H locs (cells + 8) (slots + 24) Q (F0 m 1198 ls [])) : W p l e room_1 s m #[Value.ref b] below meth c H locs cells slots Q (F0 m 1004 ls []) := by
  obtain ⟨hx, hb, hml, hown, hts, hX, hbl, hbA, hA, hK, hE, hL⟩ := C0
  obtain ⟨u, w, hu, hw, hr, hI2⟩ := hst KL kc on rw rd ft tr la mo hInv (xs (nI i + (1 : Int32)).toNatClampNeg)
  refine lv_aload_n hx hb dL_law_1004 rfl (lv_at hl 2 rfl) ?_
  refine lv_aload_n hx hb dL_law_1005 rfl (lv_at hl 1 rfl) ?_
  refine lv_iload_n hx hb dL_law_1006 rfl (lv_at hl 0 rfl) ?_
  refine lv_iconst (v := 1) hx hb dL_law_1007 (by decide) ?_
  refine lv_iadd hx hb dL_law_1008 ?_
  refine va_sld hx hb hX hbl hbA hS (zin (k := 1) (i := i) (by omega) hL (nI_add i 1)) dL_law_1009 ?_
  have ela : va_up (va_up la on.2.1 (la on.2.1)) (if (xs (nI i + (1 : Int32)).toNatClampNeg) = 0 then 0 else 1) (la (if (xs (nI i + (1 : Int32)).toNatClampNeg) = 0 then 0 else 1)) = la := by rw [zup_self, zup_self]
  have hP : va_P D vwCl (zW E KL kc on rw rd ft tr (va_up (va_up la on.2.1 (la on.2.1)) (if (xs (nI i + (1 : Int32)).toNatClampNeg) = 0 then 0 else 1) (la (if (xs (nI i + (1 : Int32)).toNatClampNeg) = 0 then 0 else 1))) mo) H := by rw [ela]; exact hP
  have hD : va_D A (zW E KL kc on rw rd ft tr (va_up (va_up la on.2.1 (la on.2.1)) (if (xs (nI i + (1 : Int32)).toNatClampNeg) = 0 then 0 else 1) (la (if (xs (nI i + (1 : Int32)).toNatClampNeg) = 0 then 0 else 1))) mo) := by rw [ela]; exact hD
  refine zcall_i (va_runV (R := room_1) (As := [.int (xs (nI i + (1 : Int32)).toNatClampNeg)]) (rest := []) ⟨hx, hb, hml, hown, hts⟩ (qX11_image l D E KL kc on rw rd ft tr la mo (by unfold zOn at hOn; omega) (la on.2.1) (if (xs (nI i + (1 : Int32)).toNatClampNeg) = 0 then 0 else 1) (by split <;> omega) (la (if (xs (nI i + (1 : Int32)).toNatClampNeg) = 0 then 0 else 1)) (by unfold zOn at hOn; split <;> omega) N _ (xs (nI i + (1 : Int32)).toNatClampNeg) rfl _ hu) (cwV 1 hts (zgV k3_161 k3_162 k3_163 k0_1 k3_164) rfl rfl rfl (by decide +kernel) ⟨Nat.le_of_ble_eq_true rfl, Nat.le_of_ble_eq_true rfl⟩) (zpv hE hS hA hK hP hD (va_recv hK hP (ci := 10) (q0 := 0) rfl (zg_on _ _ _ _ _ _ _ _ _ _))) rfl rfl hl.1 rfl (lv_room (Nat.le_of_ble_eq_true rfl)) dL_law_1010 ⟨(show _ ≤ 600000 by omega), (show _ ≤ 7302250 by omega)⟩) hD hS hA (fun H locs hP hD hS => ?_)
  refine lv_aload_n hx hb dL_law_1013 rfl (lv_at hl 3 rfl) ?_
  refine lv_aload_n hx hb dL_law_1014 rfl (lv_at hl 1 rfl) ?_
  refine lv_iload_n hx hb dL_law_1015 rfl (lv_at hl 0 rfl) ?_
  refine lv_iconst (v := 1) hx hb dL_law_1016 (by decide) ?_
  refine lv_iadd hx hb dL_law_1017 ?_
  refine va_sld hx hb hX hbl hbA hS (zin (k := 1) (i := i) (by omega) hL (nI_add i 1)) dL_law_1018 ?_
  refine zcall_i (va_runV (R := room_1) (As := [.int (xs (nI i + (1 : Int32)).toNatClampNeg)]) (rest := [.int u.1]) ⟨hx, hb, hml, hown, hts⟩ (qX12_image l D E KL kc on rw rd ft tr (va_up (va_up la on.2.1 (la on.2.1)) (if (xs (nI i + (1 : Int32)).toNatClampNeg) = 0 then 0 else 1) u.2) mo N _ (xs (nI i + (1 : Int32)).toNatClampNeg) _ hw) (cwV 1 hts (zgV k5_217 k5_218 k5_219 k0_8 k5_220) rfl rfl rfl (by decide +kernel) ⟨Nat.le_of_ble_eq_true rfl, Nat.le_of_ble_eq_true rfl⟩) (zpv hE hS hA hK hP hD (va_recv hK hP (ci := 11) (q0 := 68) rfl (zg_mo _ _ _ _ _ _ _ _ _ _))) rfl rfl hl.1 rfl (lv_room (Nat.le_of_ble_eq_true rfl)) dL_law_1019 ⟨(show _ ≤ 600000 by omega), (show _ ≤ 7302250 by omega)⟩) hD hS hA (fun H locs hP hD hS => ?_)
  refine lv_icmp_eq (tgt := 1198) hx hb dL_law_1022 (by decide) (fun _ => ?_) (fun c1 => absurd hr c1)
  refine W.widen (k := cells + 8) (n := slots + 24) (by omega) (by omega) ?_
  exact kk _ _ _ _ _ _ _ _ _ hI2 _ _ _ hP hD hS hl
set_option maxHeartbeats 1000000 in
set_option maxRecDepth 100000 in
theorem lwc_restore {p : Program} {l : Launch} {e : Env} {s : State} {m : MethodId} {below : List Frame} {meth : Method} {c : Code} {Q : State → Prop} {D : va_G} {E : zE} {A : Nat → Prop} {b L : Nat} {xs : Nat → Int32} (C0 : zLwk p s m c D E A b L xs) {N : Nat} {Inv : List Nat → (Nat → zKC) → zNS → zOS → zOS → zOS → zOS → (Nat → zLS) → zMS → Prop} (hst : zStep_restore N Inv) {i : Nat} (hi : i + 6 ≤ L) (KL : List Nat) (kc : Nat → zKC) (on : zNS) (rw rd ft tr : zOS) (la : Nat → zLS) (mo : zMS) (hInv : Inv KL kc on rw rd ft tr la mo) (hOn : zOn on) {H : Heap} {locs : List Loc} {ls : Array Slot} {cells slots : Nat} (hc : cells + 8 ≤ 600000) (hs : slots + 24 ≤ 7302250) (hP : va_P D vwCl (zW E KL kc on rw rd ft tr la mo) H) (hD : va_D A (zW E KL kc on rw rd ft tr la mo)) (hS : va_S A s.heap H locs) (hl : lv_has ls 4 [(3, .int (nI i)), (0, .ref b), (1, .ref (E.1 0)), (2, .ref (E.1 68))]) (kk : ∀ (KL : List Nat) (kc : Nat → zKC) (on : zNS) (rw rd ft tr : zOS) (la : Nat → zLS) (mo : zMS), Inv KL kc on rw rd ft tr la mo → ∀ (H : Heap) (locs : List Loc) (ls : Array Slot), va_P D vwCl (zW E KL kc on rw rd ft tr la mo) H → va_D A (zW E KL kc on rw rd ft tr la mo) → va_S A s.heap H locs → lv_has ls 4 [(3, .int (nI i)), (0, .ref b), (1, .ref (E.1 0)), (2, .ref (E.1 68))] → W p l e room_1 s m #[Value.ref b] below meth c H locs (cells + 8) (slots + 24) Q (F0 m 1198 ls [])) : W p l e room_1 s m #[Value.ref b] below meth c H locs cells slots Q (F0 m 1027 ls []) := by
  obtain ⟨hx, hb, hml, hown, hts, hX, hbl, hbA, hA, hK, hE, hL⟩ := C0
  obtain ⟨u, w, hu, hw, hr, hI2⟩ := hst KL kc on rw rd ft tr la mo hInv (xs (nI i + (1 : Int32)).toNatClampNeg)
  refine lv_aload_n hx hb dL_law_1027 rfl (lv_at hl 2 rfl) ?_
  refine lv_aload_n hx hb dL_law_1028 rfl (lv_at hl 1 rfl) ?_
  refine lv_iload_n hx hb dL_law_1029 rfl (lv_at hl 0 rfl) ?_
  refine lv_iconst (v := 1) hx hb dL_law_1030 (by decide) ?_
  refine lv_iadd hx hb dL_law_1031 ?_
  refine va_sld hx hb hX hbl hbA hS (zin (k := 1) (i := i) (by omega) hL (nI_add i 1)) dL_law_1032 ?_
  have ela : va_up (va_up la on.2.1 (la on.2.1)) (if (xs (nI i + (1 : Int32)).toNatClampNeg) = 0 then 0 else 1) (la (if (xs (nI i + (1 : Int32)).toNatClampNeg) = 0 then 0 else 1)) = la := by rw [zup_self, zup_self]
  have hP : va_P D vwCl (zW E KL kc on rw rd ft tr (va_up (va_up la on.2.1 (la on.2.1)) (if (xs (nI i + (1 : Int32)).toNatClampNeg) = 0 then 0 else 1) (la (if (xs (nI i + (1 : Int32)).toNatClampNeg) = 0 then 0 else 1))) mo) H := by rw [ela]; exact hP
  have hD : va_D A (zW E KL kc on rw rd ft tr (va_up (va_up la on.2.1 (la on.2.1)) (if (xs (nI i + (1 : Int32)).toNatClampNeg) = 0 then 0 else 1) (la (if (xs (nI i + (1 : Int32)).toNatClampNeg) = 0 then 0 else 1))) mo) := by rw [ela]; exact hD
  refine zcall_i (va_runV (R := room_1) (As := [.int (xs (nI i + (1 : Int32)).toNatClampNeg)]) (rest := []) ⟨hx, hb, hml, hown, hts⟩ (qX11_restore l D E KL kc on rw rd ft tr la mo (by unfold zOn at hOn; omega) (la on.2.1) (if (xs (nI i + (1 : Int32)).toNatClampNeg) = 0 then 0 else 1) (by split <;> omega) (la (if (xs (nI i + (1 : Int32)).toNatClampNeg) = 0 then 0 else 1)) (by unfold zOn at hOn; split <;> omega) N _ (xs (nI i + (1 : Int32)).toNatClampNeg) rfl _ hu) (cwV 1 hts (zgV k3_170 k3_171 k3_172 k0_1 k3_173) rfl rfl rfl (by decide +kernel) ⟨Nat.le_of_ble_eq_true rfl, Nat.le_of_ble_eq_true rfl⟩) (zpv hE hS hA hK hP hD (va_recv hK hP (ci := 10) (q0 := 0) rfl (zg_on _ _ _ _ _ _ _ _ _ _))) rfl rfl hl.1 rfl (lv_room (Nat.le_of_ble_eq_true rfl)) dL_law_1033 ⟨(show _ ≤ 600000 by omega), (show _ ≤ 7302250 by omega)⟩) hD hS hA (fun H locs hP hD hS => ?_)
  refine lv_aload_n hx hb dL_law_1036 rfl (lv_at hl 3 rfl) ?_
  refine lv_aload_n hx hb dL_law_1037 rfl (lv_at hl 1 rfl) ?_
  refine lv_iload_n hx hb dL_law_1038 rfl (lv_at hl 0 rfl) ?_
  refine lv_iconst (v := 1) hx hb dL_law_1039 (by decide) ?_
  refine lv_iadd hx hb dL_law_1040 ?_
  refine va_sld hx hb hX hbl hbA hS (zin (k := 1) (i := i) (by omega) hL (nI_add i 1)) dL_law_1041 ?_
  refine zcall_i (va_runV (R := room_1) (As := [.int (xs (nI i + (1 : Int32)).toNatClampNeg)]) (rest := [.int u.1]) ⟨hx, hb, hml, hown, hts⟩ (qX12_restore l D E KL kc on rw rd ft tr (va_up (va_up la on.2.1 u.2) (if (xs (nI i + (1 : Int32)).toNatClampNeg) = 0 then 0 else 1) (la (if (xs (nI i + (1 : Int32)).toNatClampNeg) = 0 then 0 else 1))) mo N _ (xs (nI i + (1 : Int32)).toNatClampNeg) _ hw) (cwV 1 hts (zgV k5_221 k5_222 k5_223 k0_8 k5_224) rfl rfl rfl (by decide +kernel) ⟨Nat.le_of_ble_eq_true rfl, Nat.le_of_ble_eq_true rfl⟩) (zpv hE hS hA hK hP hD (va_recv hK hP (ci := 11) (q0 := 68) rfl (zg_mo _ _ _ _ _ _ _ _ _ _))) rfl rfl hl.1 rfl (lv_room (Nat.le_of_ble_eq_true rfl)) dL_law_1042 ⟨(show _ ≤ 600000 by omega), (show _ ≤ 7302250 by omega)⟩) hD hS hA (fun H locs hP hD hS => ?_)
  refine lv_icmp_eq (tgt := 1198) hx hb dL_law_1045 (by decide) (fun _ => ?_) (fun c1 => absurd hr c1)
  refine W.widen (k := cells + 8) (n := slots + 24) (by omega) (by omega) ?_
  exact kk _ _ _ _ _ _ _ _ _ hI2 _ _ _ hP hD hS hl
set_option maxHeartbeats 1000000 in
set_option maxRecDepth 100000 in
theorem lwc_kind {p : Program} {l : Launch} {e : Env} {s : State} {m : MethodId} {below : List Frame} {meth : Method} {c : Code} {Q : State → Prop} {D : va_G} {E : zE} {A : Nat → Prop} {b L : Nat} {xs : Nat → Int32} (C0 : zLwk p s m c D E A b L xs) {N : Nat} {Inv : List Nat → (Nat → zKC) → zNS → zOS → zOS → zOS → zOS → (Nat → zLS) → zMS → Prop} (hst : zStep_kind N Inv) {i : Nat} (hi : i + 6 ≤ L) (KL : List Nat) (kc : Nat → zKC) (on : zNS) (rw rd ft tr : zOS) (la : Nat → zLS) (mo : zMS) (hInv : Inv KL kc on rw rd ft tr la mo) (hOn : zOn on) {H : Heap} {locs : List Loc} {ls : Array Slot} {cells slots : Nat} (hc : cells + 8 ≤ 600000) (hs : slots + 24 ≤ 7302250) (hP : va_P D vwCl (zW E KL kc on rw rd ft tr la mo) H) (hD : va_D A (zW E KL kc on rw rd ft tr la mo)) (hS : va_S A s.heap H locs) (hl : lv_has ls 4 [(3, .int (nI i)), (0, .ref b), (1, .ref (E.1 0)), (2, .ref (E.1 68))]) (kk : ∀ (KL : List Nat) (kc : Nat → zKC) (on : zNS) (rw rd ft tr : zOS) (la : Nat → zLS) (mo : zMS), Inv KL kc on rw rd ft tr la mo → ∀ (H : Heap) (locs : List Loc) (ls : Array Slot), va_P D vwCl (zW E KL kc on rw rd ft tr la mo) H → va_D A (zW E KL kc on rw rd ft tr la mo) → va_S A s.heap H locs → lv_has ls 4 [(3, .int (nI i)), (0, .ref b), (1, .ref (E.1 0)), (2, .ref (E.1 68))] → W p l e room_1 s m #[Value.ref b] below meth c H locs (cells + 8) (slots + 24) Q (F0 m 1198 ls [])) : W p l e room_1 s m #[Value.ref b] below meth c H locs cells slots Q (F0 m 1050 ls []) := by
  obtain ⟨hx, hb, hml, hown, hts, hX, hbl, hbA, hA, hK, hE, hL⟩ := C0
  obtain ⟨u, w, hu, hw, hr, hI2⟩ := hst KL kc on rw rd ft tr la mo hInv (xs (nI i + (1 : Int32)).toNatClampNeg)
  refine lv_aload_n hx hb dL_law_1050 rfl (lv_at hl 2 rfl) ?_
  refine lv_aload_n hx hb dL_law_1051 rfl (lv_at hl 1 rfl) ?_
  refine lv_iload_n hx hb dL_law_1052 rfl (lv_at hl 0 rfl) ?_
  refine lv_iconst (v := 1) hx hb dL_law_1053 (by decide) ?_
  refine lv_iadd hx hb dL_law_1054 ?_
  refine va_sld hx hb hX hbl hbA hS (zin (k := 1) (i := i) (by omega) hL (nI_add i 1)) dL_law_1055 ?_
  have ela : va_up la on.2.1 (la on.2.1) = la := by rw [zup_self]
  have hP : va_P D vwCl (zW E KL kc on rw rd ft tr (va_up la on.2.1 (la on.2.1)) mo) H := by rw [ela]; exact hP
  have hD : va_D A (zW E KL kc on rw rd ft tr (va_up la on.2.1 (la on.2.1)) mo) := by rw [ela]; exact hD
  refine zcall_i (va_runV (R := room_1) (As := [.int (xs (nI i + (1 : Int32)).toNatClampNeg)]) (rest := []) ⟨hx, hb, hml, hown, hts⟩ (qX11_kind l D E KL kc on rw rd ft tr la mo (by unfold zOn at hOn; omega) (la on.2.1) N _ (xs (nI i + (1 : Int32)).toNatClampNeg) _ hu) (cwV 1 hts (zgV k3_174 k3_175 k3_176 k0_1 k3_177) rfl rfl rfl (by decide +kernel) ⟨Nat.le_of_ble_eq_true rfl, Nat.le_of_ble_eq_true rfl⟩) (zpv hE hS hA hK hP hD (va_recv hK hP (ci := 10) (q0 := 0) rfl (zg_on _ _ _ _ _ _ _ _ _ _))) rfl rfl hl.1 rfl (lv_room (Nat.le_of_ble_eq_true rfl)) dL_law_1056 ⟨(show _ ≤ 600000 by omega), (show _ ≤ 7302250 by omega)⟩) hD hS hA (fun H locs hP hD hS => ?_)
  refine lv_aload_n hx hb dL_law_1059 rfl (lv_at hl 3 rfl) ?_
  refine lv_aload_n hx hb dL_law_1060 rfl (lv_at hl 1 rfl) ?_
  refine lv_iload_n hx hb dL_law_1061 rfl (lv_at hl 0 rfl) ?_
  refine lv_iconst (v := 1) hx hb dL_law_1062 (by decide) ?_
  refine lv_iadd hx hb dL_law_1063 ?_
  refine va_sld hx hb hX hbl hbA hS (zin (k := 1) (i := i) (by omega) hL (nI_add i 1)) dL_law_1064 ?_
  refine zcall_i (va_runV (R := room_1) (As := [.int (xs (nI i + (1 : Int32)).toNatClampNeg)]) (rest := [.int u]) ⟨hx, hb, hml, hown, hts⟩ (qX12_kind l D E KL kc on rw rd ft tr (va_up la on.2.1 (la on.2.1)) mo N _ (xs (nI i + (1 : Int32)).toNatClampNeg) _ hw) (cwV 1 hts (zgV k5_225 k5_226 k5_227 k0_8 k5_228) rfl rfl rfl (by decide +kernel) ⟨Nat.le_of_ble_eq_true rfl, Nat.le_of_ble_eq_true rfl⟩) (zpv hE hS hA hK hP hD (va_recv hK hP (ci := 11) (q0 := 68) rfl (zg_mo _ _ _ _ _ _ _ _ _ _))) rfl rfl hl.1 rfl (lv_room (Nat.le_of_ble_eq_true rfl)) dL_law_1065 ⟨(show _ ≤ 600000 by omega), (show _ ≤ 7302250 by omega)⟩) hD hS hA (fun H locs hP hD hS => ?_)
  refine lv_icmp_eq (tgt := 1198) hx hb dL_law_1068 (by decide) (fun _ => ?_) (fun c1 => absurd hr c1)
  refine W.widen (k := cells + 8) (n := slots + 24) (by omega) (by omega) ?_
  exact kk _ _ _ _ _ _ _ _ _ hI2 _ _ _ hP hD hS hl
set_option maxHeartbeats 1000000 in
set_option maxRecDepth 100000 in
theorem lwc_as {p : Program} {l : Launch} {e : Env} {s : State} {m : MethodId} {below : List Frame} {meth : Method} {c : Code} {Q : State → Prop} {D : va_G} {E : zE} {A : Nat → Prop} {b L : Nat} {xs : Nat → Int32} (C0 : zLwk p s m c D E A b L xs) {N : Nat} {Inv : List Nat → (Nat → zKC) → zNS → zOS → zOS → zOS → zOS → (Nat → zLS) → zMS → Prop} (hst : zStep_as N Inv) {i : Nat} (hi : i + 6 ≤ L) (KL : List Nat) (kc : Nat → zKC) (on : zNS) (rw rd ft tr : zOS) (la : Nat → zLS) (mo : zMS) (hInv : Inv KL kc on rw rd ft tr la mo) (hOn : zOn on) {H : Heap} {locs : List Loc} {ls : Array Slot} {cells slots : Nat} (hc : cells + 8 ≤ 600000) (hs : slots + 24 ≤ 7302250) (hP : va_P D vwCl (zW E KL kc on rw rd ft tr la mo) H) (hD : va_D A (zW E KL kc on rw rd ft tr la mo)) (hS : va_S A s.heap H locs) (hl : lv_has ls 4 [(3, .int (nI i)), (0, .ref b), (1, .ref (E.1 0)), (2, .ref (E.1 68))]) (kk : ∀ (KL : List Nat) (kc : Nat → zKC) (on : zNS) (rw rd ft tr : zOS) (la : Nat → zLS) (mo : zMS), Inv KL kc on rw rd ft tr la mo → ∀ (H : Heap) (locs : List Loc) (ls : Array Slot), va_P D vwCl (zW E KL kc on rw rd ft tr la mo) H → va_D A (zW E KL kc on rw rd ft tr la mo) → va_S A s.heap H locs → lv_has ls 4 [(3, .int (nI i)), (0, .ref b), (1, .ref (E.1 0)), (2, .ref (E.1 68))] → W p l e room_1 s m #[Value.ref b] below meth c H locs (cells + 8) (slots + 24) Q (F0 m 1198 ls [])) : W p l e room_1 s m #[Value.ref b] below meth c H locs cells slots Q (F0 m 1073 ls []) := by
  obtain ⟨hx, hb, hml, hown, hts, hX, hbl, hbA, hA, hK, hE, hL⟩ := C0
  obtain ⟨u, w, hu, hw, hr, hI2⟩ := hst KL kc on rw rd ft tr la mo hInv (xs (nI i + (1 : Int32)).toNatClampNeg) (xs (nI i + (2 : Int32)).toNatClampNeg)
  refine lv_aload_n hx hb dL_law_1073 rfl (lv_at hl 2 rfl) ?_
  refine lv_aload_n hx hb dL_law_1074 rfl (lv_at hl 1 rfl) ?_
  refine lv_iload_n hx hb dL_law_1075 rfl (lv_at hl 0 rfl) ?_
  refine lv_iconst (v := 1) hx hb dL_law_1076 (by decide) ?_
  refine lv_iadd hx hb dL_law_1077 ?_
  refine va_sld hx hb hX hbl hbA hS (zin (k := 1) (i := i) (by omega) hL (nI_add i 1)) dL_law_1078 ?_
  refine lv_aload_n hx hb dL_law_1079 rfl (lv_at hl 1 rfl) ?_
  refine lv_iload_n hx hb dL_law_1080 rfl (lv_at hl 0 rfl) ?_
  refine lv_iconst (v := 2) hx hb dL_law_1081 (by decide) ?_
  refine lv_iadd hx hb dL_law_1082 ?_
  refine va_sld hx hb hX hbl hbA hS (zin (k := 2) (i := i) (by omega) hL (nI_add i 2)) dL_law_1083 ?_
  have ela : va_up la on.2.1 (la on.2.1) = la := by rw [zup_self]
  have hP : va_P D vwCl (zW E KL kc on rw rd ft tr (va_up la on.2.1 (la on.2.1)) mo) H := by rw [ela]; exact hP
  have hD : va_D A (zW E KL kc on rw rd ft tr (va_up la on.2.1 (la on.2.1)) mo) := by rw [ela]; exact hD
  refine zcall_i (va_runV (R := room_1) (As := [.int (xs (nI i + (1 : Int32)).toNatClampNeg), .int (xs (nI i + (2 : Int32)).toNatClampNeg)]) (rest := []) ⟨hx, hb, hml, hown, hts⟩ (qX11_as l D E KL kc on rw rd ft tr la mo (by unfold zOn at hOn; omega) (la on.2.1) N _ (xs (nI i + (1 : Int32)).toNatClampNeg) (xs (nI i + (2 : Int32)).toNatClampNeg) _ hu) (cwV 2 hts (zgV k3_197 k3_198 k3_199 k0_1 k3_200) rfl rfl rfl (by decide +kernel) ⟨Nat.le_of_ble_eq_true rfl, Nat.le_of_ble_eq_true rfl⟩) (zpv hE hS hA hK hP hD (va_recv hK hP (ci := 10) (q0 := 0) rfl (zg_on _ _ _ _ _ _ _ _ _ _))) rfl rfl hl.1 rfl (lv_room (Nat.le_of_ble_eq_true rfl)) dL_law_1084 ⟨(show _ ≤ 600000 by omega), (show _ ≤ 7302250 by omega)⟩) hD hS hA (fun H locs hP hD hS => ?_)
  refine lv_aload_n hx hb dL_law_1087 rfl (lv_at hl 3 rfl) ?_
  refine lv_aload_n hx hb dL_law_1088 rfl (lv_at hl 1 rfl) ?_
  refine lv_iload_n hx hb dL_law_1089 rfl (lv_at hl 0 rfl) ?_
  refine lv_iconst (v := 1) hx hb dL_law_1090 (by decide) ?_
  refine lv_iadd hx hb dL_law_1091 ?_
  refine va_sld hx hb hX hbl hbA hS (zin (k := 1) (i := i) (by omega) hL (nI_add i 1)) dL_law_1092 ?_
  refine lv_aload_n hx hb dL_law_1093 rfl (lv_at hl 1 rfl) ?_
  refine lv_iload_n hx hb dL_law_1094 rfl (lv_at hl 0 rfl) ?_
  refine lv_iconst (v := 2) hx hb dL_law_1095 (by decide) ?_
  refine lv_iadd hx hb dL_law_1096 ?_
  refine va_sld hx hb hX hbl hbA hS (zin (k := 2) (i := i) (by omega) hL (nI_add i 2)) dL_law_1097 ?_
  refine zcall_i (va_runV (R := room_1) (As := [.int (xs (nI i + (1 : Int32)).toNatClampNeg), .int (xs (nI i + (2 : Int32)).toNatClampNeg)]) (rest := [.int u.1]) ⟨hx, hb, hml, hown, hts⟩ (qX12_as l D E KL kc u.2 rw rd ft tr (va_up la on.2.1 (la on.2.1)) mo N _ (xs (nI i + (1 : Int32)).toNatClampNeg) (xs (nI i + (2 : Int32)).toNatClampNeg) _ hw) (cwV 2 hts (zgV k5_229 k5_230 k5_231 k0_8 k5_232) rfl rfl rfl (by decide +kernel) ⟨Nat.le_of_ble_eq_true rfl, Nat.le_of_ble_eq_true rfl⟩) (zpv hE hS hA hK hP hD (va_recv hK hP (ci := 11) (q0 := 68) rfl (zg_mo _ _ _ _ _ _ _ _ _ _))) rfl rfl hl.1 rfl (lv_room (Nat.le_of_ble_eq_true rfl)) dL_law_1098 ⟨(show _ ≤ 600000 by omega), (show _ ≤ 7302250 by omega)⟩) hD hS hA (fun H locs hP hD hS => ?_)
  refine lv_icmp_eq (tgt := 1198) hx hb dL_law_1101 (by decide) (fun _ => ?_) (fun c1 => absurd hr c1)
  refine W.widen (k := cells + 8) (n := slots + 24) (by omega) (by omega) ?_
  exact kk _ _ _ _ _ _ _ _ _ hI2 _ _ _ hP hD hS hl
set_option maxHeartbeats 1000000 in
set_option maxRecDepth 100000 in
theorem lwc_ask {p : Program} {l : Launch} {e : Env} {s : State} {m : MethodId} {below : List Frame} {meth : Method} {c : Code} {Q : State → Prop} {D : va_G} {E : zE} {A : Nat → Prop} {b L : Nat} {xs : Nat → Int32} (C0 : zLwk p s m c D E A b L xs) {N : Nat} {Inv : List Nat → (Nat → zKC) → zNS → zOS → zOS → zOS → zOS → (Nat → zLS) → zMS → Prop} (hst : zStep_ask N Inv) {i : Nat} (hi : i + 6 ≤ L) (KL : List Nat) (kc : Nat → zKC) (on : zNS) (rw rd ft tr : zOS) (la : Nat → zLS) (mo : zMS) (hInv : Inv KL kc on rw rd ft tr la mo) (hOn : zOn on) {H : Heap} {locs : List Loc} {ls : Array Slot} {cells slots : Nat} (hc : cells + 8 ≤ 600000) (hs : slots + 24 ≤ 7302250) (hP : va_P D vwCl (zW E KL kc on rw rd ft tr la mo) H) (hD : va_D A (zW E KL kc on rw rd ft tr la mo)) (hS : va_S A s.heap H locs) (hl : lv_has ls 4 [(3, .int (nI i)), (0, .ref b), (1, .ref (E.1 0)), (2, .ref (E.1 68))]) (kk : ∀ (KL : List Nat) (kc : Nat → zKC) (on : zNS) (rw rd ft tr : zOS) (la : Nat → zLS) (mo : zMS), Inv KL kc on rw rd ft tr la mo → ∀ (H : Heap) (locs : List Loc) (ls : Array Slot), va_P D vwCl (zW E KL kc on rw rd ft tr la mo) H → va_D A (zW E KL kc on rw rd ft tr la mo) → va_S A s.heap H locs → lv_has ls 4 [(3, .int (nI i)), (0, .ref b), (1, .ref (E.1 0)), (2, .ref (E.1 68))] → W p l e room_1 s m #[Value.ref b] below meth c H locs (cells + 8) (slots + 24) Q (F0 m 1198 ls [])) : W p l e room_1 s m #[Value.ref b] below meth c H locs cells slots Q (F0 m 1106 ls []) := by
  obtain ⟨hx, hb, hml, hown, hts, hX, hbl, hbA, hA, hK, hE, hL⟩ := C0
  obtain ⟨u, w, hu, hw, hr, hI2⟩ := hst KL kc on rw rd ft tr la mo hInv (xs (nI i + (1 : Int32)).toNatClampNeg) (xs (nI i + (2 : Int32)).toNatClampNeg)
  refine lv_aload_n hx hb dL_law_1106 rfl (lv_at hl 2 rfl) ?_
  refine lv_aload_n hx hb dL_law_1107 rfl (lv_at hl 1 rfl) ?_
  refine lv_iload_n hx hb dL_law_1108 rfl (lv_at hl 0 rfl) ?_
  refine lv_iconst (v := 1) hx hb dL_law_1109 (by decide) ?_
  refine lv_iadd hx hb dL_law_1110 ?_
  refine va_sld hx hb hX hbl hbA hS (zin (k := 1) (i := i) (by omega) hL (nI_add i 1)) dL_law_1111 ?_
  refine lv_aload_n hx hb dL_law_1112 rfl (lv_at hl 1 rfl) ?_
  refine lv_iload_n hx hb dL_law_1113 rfl (lv_at hl 0 rfl) ?_
  refine lv_iconst (v := 2) hx hb dL_law_1114 (by decide) ?_
  refine lv_iadd hx hb dL_law_1115 ?_
  refine va_sld hx hb hX hbl hbA hS (zin (k := 2) (i := i) (by omega) hL (nI_add i 2)) dL_law_1116 ?_
  have ela : va_up la on.2.1 (la on.2.1) = la := by rw [zup_self]
  have hP : va_P D vwCl (zW E KL kc on rw rd ft tr (va_up la on.2.1 (la on.2.1)) mo) H := by rw [ela]; exact hP
  have hD : va_D A (zW E KL kc on rw rd ft tr (va_up la on.2.1 (la on.2.1)) mo) := by rw [ela]; exact hD
  refine zcall_i (va_runV (R := room_1) (As := [.int (xs (nI i + (1 : Int32)).toNatClampNeg), .int (xs (nI i + (2 : Int32)).toNatClampNeg)]) (rest := []) ⟨hx, hb, hml, hown, hts⟩ (qX11_ask l D E KL kc on rw rd ft tr la mo (by unfold zOn at hOn; omega) (la on.2.1) N _ (xs (nI i + (1 : Int32)).toNatClampNeg) (xs (nI i + (2 : Int32)).toNatClampNeg) _ hu) (cwV 2 hts (zgV k3_214 k3_215 k3_216 k0_1 k3_217) rfl rfl rfl (by decide +kernel) ⟨Nat.le_of_ble_eq_true rfl, Nat.le_of_ble_eq_true rfl⟩) (zpv hE hS hA hK hP hD (va_recv hK hP (ci := 10) (q0 := 0) rfl (zg_on _ _ _ _ _ _ _ _ _ _))) rfl rfl hl.1 rfl (lv_room (Nat.le_of_ble_eq_true rfl)) dL_law_1117 ⟨(show _ ≤ 600000 by omega), (show _ ≤ 7302250 by omega)⟩) hD hS hA (fun H locs hP hD hS => ?_)
  refine lv_aload_n hx hb dL_law_1120 rfl (lv_at hl 3 rfl) ?_
  refine lv_aload_n hx hb dL_law_1121 rfl (lv_at hl 1 rfl) ?_
  refine lv_iload_n hx hb dL_law_1122 rfl (lv_at hl 0 rfl) ?_
  refine lv_iconst (v := 1) hx hb dL_law_1123 (by decide) ?_
  refine lv_iadd hx hb dL_law_1124 ?_
  refine va_sld hx hb hX hbl hbA hS (zin (k := 1) (i := i) (by omega) hL (nI_add i 1)) dL_law_1125 ?_
  refine lv_aload_n hx hb dL_law_1126 rfl (lv_at hl 1 rfl) ?_
  refine lv_iload_n hx hb dL_law_1127 rfl (lv_at hl 0 rfl) ?_
  refine lv_iconst (v := 2) hx hb dL_law_1128 (by decide) ?_
  refine lv_iadd hx hb dL_law_1129 ?_
  refine va_sld hx hb hX hbl hbA hS (zin (k := 2) (i := i) (by omega) hL (nI_add i 2)) dL_law_1130 ?_
  refine zcall_i (va_runV (R := room_1) (As := [.int (xs (nI i + (1 : Int32)).toNatClampNeg), .int (xs (nI i + (2 : Int32)).toNatClampNeg)]) (rest := [.int u.1]) ⟨hx, hb, hml, hown, hts⟩ (qX12_ask l D E KL kc on rw rd ft u.2 (va_up la on.2.1 (la on.2.1)) mo N _ (xs (nI i + (1 : Int32)).toNatClampNeg) (xs (nI i + (2 : Int32)).toNatClampNeg) _ hw) (cwV 2 hts (zgV k5_234 k5_235 k5_236 k0_8 k5_237) rfl rfl rfl (by decide +kernel) ⟨Nat.le_of_ble_eq_true rfl, Nat.le_of_ble_eq_true rfl⟩) (zpv hE hS hA hK hP hD (va_recv hK hP (ci := 11) (q0 := 68) rfl (zg_mo _ _ _ _ _ _ _ _ _ _))) rfl rfl hl.1 rfl (lv_room (Nat.le_of_ble_eq_true rfl)) dL_law_1131 ⟨(show _ ≤ 600000 by omega), (show _ ≤ 7302250 by omega)⟩) hD hS hA (fun H locs hP hD hS => ?_)
  refine lv_icmp_eq (tgt := 1198) hx hb dL_law_1134 (by decide) (fun _ => ?_) (fun c1 => absurd hr c1)
  refine W.widen (k := cells + 8) (n := slots + 24) (by omega) (by omega) ?_
  exact kk _ _ _ _ _ _ _ _ _ hI2 _ _ _ hP hD hS hl
set_option maxHeartbeats 1000000 in
set_option maxRecDepth 100000 in
theorem lwc_trace {p : Program} {l : Launch} {e : Env} {s : State} {m : MethodId} {below : List Frame} {meth : Method} {c : Code} {Q : State → Prop} {D : va_G} {E : zE} {A : Nat → Prop} {b L : Nat} {xs : Nat → Int32} (C0 : zLwk p s m c D E A b L xs) {N : Nat} {Inv : List Nat → (Nat → zKC) → zNS → zOS → zOS → zOS → zOS → (Nat → zLS) → zMS → Prop} (hst : zStep_trace N Inv) {i : Nat} (hi : i + 6 ≤ L) (KL : List Nat) (kc : Nat → zKC) (on : zNS) (rw rd ft tr : zOS) (la : Nat → zLS) (mo : zMS) (hInv : Inv KL kc on rw rd ft tr la mo) (hOn : zOn on) {H : Heap} {locs : List Loc} {ls : Array Slot} {cells slots : Nat} (hc : cells + 8 ≤ 600000) (hs : slots + 24 ≤ 7302250) (hP : va_P D vwCl (zW E KL kc on rw rd ft tr la mo) H) (hD : va_D A (zW E KL kc on rw rd ft tr la mo)) (hS : va_S A s.heap H locs) (hl : lv_has ls 4 [(3, .int (nI i)), (0, .ref b), (1, .ref (E.1 0)), (2, .ref (E.1 68))]) (kk : ∀ (KL : List Nat) (kc : Nat → zKC) (on : zNS) (rw rd ft tr : zOS) (la : Nat → zLS) (mo : zMS), Inv KL kc on rw rd ft tr la mo → ∀ (H : Heap) (locs : List Loc) (ls : Array Slot), va_P D vwCl (zW E KL kc on rw rd ft tr la mo) H → va_D A (zW E KL kc on rw rd ft tr la mo) → va_S A s.heap H locs → lv_has ls 4 [(3, .int (nI i)), (0, .ref b), (1, .ref (E.1 0)), (2, .ref (E.1 68))] → W p l e room_1 s m #[Value.ref b] below meth c H locs (cells + 8) (slots + 24) Q (F0 m 1198 ls [])) : W p l e room_1 s m #[Value.ref b] below meth c H locs cells slots Q (F0 m 1139 ls []) := by
  obtain ⟨hx, hb, hml, hown, hts, hX, hbl, hbA, hA, hK, hE, hL⟩ := C0
  obtain ⟨u, w, hu, hw, hr, hI2⟩ := hst KL kc on rw rd ft tr la mo hInv (xs (nI i + (1 : Int32)).toNatClampNeg)
  refine lv_aload_n hx hb dL_law_1139 rfl (lv_at hl 2 rfl) ?_
  refine lv_aload_n hx hb dL_law_1140 rfl (lv_at hl 1 rfl) ?_
  refine lv_iload_n hx hb dL_law_1141 rfl (lv_at hl 0 rfl) ?_
  refine lv_iconst (v := 1) hx hb dL_law_1142 (by decide) ?_
  refine lv_iadd hx hb dL_law_1143 ?_
  refine va_sld hx hb hX hbl hbA hS (zin (k := 1) (i := i) (by omega) hL (nI_add i 1)) dL_law_1144 ?_
  refine zcall_i (va_runV (R := room_1) (As := [.int (xs (nI i + (1 : Int32)).toNatClampNeg)]) (rest := []) ⟨hx, hb, hml, hown, hts⟩ (qX11_trace l D E KL kc on rw rd ft tr la mo N _ (xs (nI i + (1 : Int32)).toNatClampNeg) _ hu) (cwV 1 hts (zgV k4_39 k4_40 k4_41 k0_1 k4_42) rfl rfl rfl (by decide +kernel) ⟨Nat.le_of_ble_eq_true rfl, Nat.le_of_ble_eq_true rfl⟩) (zpv hE hS hA hK hP hD (va_recv hK hP (ci := 10) (q0 := 0) rfl (zg_on _ _ _ _ _ _ _ _ _ _))) rfl rfl hl.1 rfl (lv_room (Nat.le_of_ble_eq_true rfl)) dL_law_1145 ⟨(show _ ≤ 600000 by omega), (show _ ≤ 7302250 by omega)⟩) hD hS hA (fun H locs hP hD hS => ?_)
  refine lv_aload_n hx hb dL_law_1148 rfl (lv_at hl 3 rfl) ?_
  refine lv_aload_n hx hb dL_law_1149 rfl (lv_at hl 1 rfl) ?_
  refine lv_iload_n hx hb dL_law_1150 rfl (lv_at hl 0 rfl) ?_
  refine lv_iconst (v := 1) hx hb dL_law_1151 (by decide) ?_
  refine lv_iadd hx hb dL_law_1152 ?_
  refine va_sld hx hb hX hbl hbA hS (zin (k := 1) (i := i) (by omega) hL (nI_add i 1)) dL_law_1153 ?_
  refine zcall_i (va_runV (R := room_1) (As := [.int (xs (nI i + (1 : Int32)).toNatClampNeg)]) (rest := [.int u]) ⟨hx, hb, hml, hown, hts⟩ (qX12_trace l D E KL kc on rw rd ft tr la mo N _ (xs (nI i + (1 : Int32)).toNatClampNeg) _ hw) (cwV 1 hts (zgV k6_22 k6_23 k6_24 k0_8 k6_25) rfl rfl rfl (by decide +kernel) ⟨Nat.le_of_ble_eq_true rfl, Nat.le_of_ble_eq_true rfl⟩) (zpv hE hS hA hK hP hD (va_recv hK hP (ci := 11) (q0 := 68) rfl (zg_mo _ _ _ _ _ _ _ _ _ _))) rfl rfl hl.1 rfl (lv_room (Nat.le_of_ble_eq_true rfl)) dL_law_1154 ⟨(show _ ≤ 600000 by omega), (show _ ≤ 7302250 by omega)⟩) hD hS hA (fun H locs hP hD hS => ?_)
  refine lv_icmp_eq (tgt := 1198) hx hb dL_law_1157 (by decide) (fun _ => ?_) (fun c1 => absurd hr c1)
  refine W.widen (k := cells + 8) (n := slots + 24) (by omega) (by omega) ?_
  exact kk _ _ _ _ _ _ _ _ _ hI2 _ _ _ hP hD hS hl
set_option maxHeartbeats 1000000 in
set_option maxRecDepth 100000 in
theorem lwc_count {p : Program} {l : Launch} {e : Env} {s : State} {m : MethodId} {below : List Frame} {meth : Method} {c : Code} {Q : State → Prop} {D : va_G} {E : zE} {A : Nat → Prop} {b L : Nat} {xs : Nat → Int32} (C0 : zLwk p s m c D E A b L xs) {N : Nat} {Inv : List Nat → (Nat → zKC) → zNS → zOS → zOS → zOS → zOS → (Nat → zLS) → zMS → Prop} (hst : zStep_count N Inv) {i : Nat} (hi : i + 6 ≤ L) (KL : List Nat) (kc : Nat → zKC) (on : zNS) (rw rd ft tr : zOS) (la : Nat → zLS) (mo : zMS) (hInv : Inv KL kc on rw rd ft tr la mo) (hOn : zOn on) {H : Heap} {locs : List Loc} {ls : Array Slot} {cells slots : Nat} (hc : cells + 8 ≤ 600000) (hs : slots + 24 ≤ 7302250) (hP : va_P D vwCl (zW E KL kc on rw rd ft tr la mo) H) (hD : va_D A (zW E KL kc on rw rd ft tr la mo)) (hS : va_S A s.heap H locs) (hl : lv_has ls 4 [(3, .int (nI i)), (0, .ref b), (1, .ref (E.1 0)), (2, .ref (E.1 68))]) (kk : ∀ (KL : List Nat) (kc : Nat → zKC) (on : zNS) (rw rd ft tr : zOS) (la : Nat → zLS) (mo : zMS), Inv KL kc on rw rd ft tr la mo → ∀ (H : Heap) (locs : List Loc) (ls : Array Slot), va_P D vwCl (zW E KL kc on rw rd ft tr la mo) H → va_D A (zW E KL kc on rw rd ft tr la mo) → va_S A s.heap H locs → lv_has ls 4 [(3, .int (nI i)), (0, .ref b), (1, .ref (E.1 0)), (2, .ref (E.1 68))] → W p l e room_1 s m #[Value.ref b] below meth c H locs (cells + 8) (slots + 24) Q (F0 m 1198 ls [])) : W p l e room_1 s m #[Value.ref b] below meth c H locs cells slots Q (F0 m 1162 ls []) := by
  obtain ⟨hx, hb, hml, hown, hts, hX, hbl, hbA, hA, hK, hE, hL⟩ := C0
  obtain ⟨u, w, hu, hw, hr, hI2⟩ := hst KL kc on rw rd ft tr la mo hInv (xs (nI i + (1 : Int32)).toNatClampNeg)
  refine lv_aload_n hx hb dL_law_1162 rfl (lv_at hl 2 rfl) ?_
  refine lv_aload_n hx hb dL_law_1163 rfl (lv_at hl 1 rfl) ?_
  refine lv_iload_n hx hb dL_law_1164 rfl (lv_at hl 0 rfl) ?_
  refine lv_iconst (v := 1) hx hb dL_law_1165 (by decide) ?_
  refine lv_iadd hx hb dL_law_1166 ?_
  refine va_sld hx hb hX hbl hbA hS (zin (k := 1) (i := i) (by omega) hL (nI_add i 1)) dL_law_1167 ?_
  have ela : va_up la on.2.1 (la on.2.1) = la := by rw [zup_self]
  have hP : va_P D vwCl (zW E KL kc on rw rd ft tr (va_up la on.2.1 (la on.2.1)) mo) H := by rw [ela]; exact hP
  have hD : va_D A (zW E KL kc on rw rd ft tr (va_up la on.2.1 (la on.2.1)) mo) := by rw [ela]; exact hD
  refine zcall_i (va_runV (R := room_1) (As := [.int (xs (nI i + (1 : Int32)).toNatClampNeg)]) (rest := []) ⟨hx, hb, hml, hown, hts⟩ (qX11_count l D E KL kc on rw rd ft tr la mo (by unfold zOn at hOn; omega) (la on.2.1) N _ (xs (nI i + (1 : Int32)).toNatClampNeg) _ hu) (cwV 1 hts (zgV k4_48 k4_49 k4_50 k0_1 k4_51) rfl rfl rfl (by decide +kernel) ⟨Nat.le_of_ble_eq_true rfl, Nat.le_of_ble_eq_true rfl⟩) (zpv hE hS hA hK hP hD (va_recv hK hP (ci := 10) (q0 := 0) rfl (zg_on _ _ _ _ _ _ _ _ _ _))) rfl rfl hl.1 rfl (lv_room (Nat.le_of_ble_eq_true rfl)) dL_law_1168 ⟨(show _ ≤ 600000 by omega), (show _ ≤ 7302250 by omega)⟩) hD hS hA (fun H locs hP hD hS => ?_)
  refine lv_aload_n hx hb dL_law_1171 rfl (lv_at hl 3 rfl) ?_
  refine lv_aload_n hx hb dL_law_1172 rfl (lv_at hl 1 rfl) ?_
  refine lv_iload_n hx hb dL_law_1173 rfl (lv_at hl 0 rfl) ?_
  refine lv_iconst (v := 1) hx hb dL_law_1174 (by decide) ?_
  refine lv_iadd hx hb dL_law_1175 ?_
  refine va_sld hx hb hX hbl hbA hS (zin (k := 1) (i := i) (by omega) hL (nI_add i 1)) dL_law_1176 ?_
  refine zcall_i (va_runV (R := room_1) (As := [.int (xs (nI i + (1 : Int32)).toNatClampNeg)]) (rest := [.int u]) ⟨hx, hb, hml, hown, hts⟩ (qX12_count l D E KL kc on rw rd ft tr (va_up la on.2.1 (la on.2.1)) mo N _ (xs (nI i + (1 : Int32)).toNatClampNeg) _ hw) (cwV 1 hts (zgV k6_26 k6_27 k6_28 k0_8 k6_29) rfl rfl rfl (by decide +kernel) ⟨Nat.le_of_ble_eq_true rfl, Nat.le_of_ble_eq_true rfl⟩) (zpv hE hS hA hK hP hD (va_recv hK hP (ci := 11) (q0 := 68) rfl (zg_mo _ _ _ _ _ _ _ _ _ _))) rfl rfl hl.1 rfl (lv_room (Nat.le_of_ble_eq_true rfl)) dL_law_1177 ⟨(show _ ≤ 600000 by omega), (show _ ≤ 7302250 by omega)⟩) hD hS hA (fun H locs hP hD hS => ?_)
  refine lv_icmp_eq (tgt := 1198) hx hb dL_law_1180 (by decide) (fun _ => ?_) (fun c1 => absurd hr c1)
  refine W.widen (k := cells + 8) (n := slots + 24) (by omega) (by omega) ?_
  exact kk _ _ _ _ _ _ _ _ _ hI2 _ _ _ hP hD hS hl
set_option maxHeartbeats 1000000 in
set_option maxRecDepth 100000 in
theorem lwc_status {p : Program} {l : Launch} {e : Env} {s : State} {m : MethodId} {below : List Frame} {meth : Method} {c : Code} {Q : State → Prop} {D : va_G} {E : zE} {A : Nat → Prop} {b L : Nat} {xs : Nat → Int32} (C0 : zLwk p s m c D E A b L xs) {N : Nat} {Inv : List Nat → (Nat → zKC) → zNS → zOS → zOS → zOS → zOS → (Nat → zLS) → zMS → Prop} (hst : zStep_status N Inv) {i : Nat} (hi : i + 6 ≤ L) (KL : List Nat) (kc : Nat → zKC) (on : zNS) (rw rd ft tr : zOS) (la : Nat → zLS) (mo : zMS) (hInv : Inv KL kc on rw rd ft tr la mo) (hOn : zOn on) {H : Heap} {locs : List Loc} {ls : Array Slot} {cells slots : Nat} (hc : cells + 8 ≤ 600000) (hs : slots + 24 ≤ 7302250) (hP : va_P D vwCl (zW E KL kc on rw rd ft tr la mo) H) (hD : va_D A (zW E KL kc on rw rd ft tr la mo)) (hS : va_S A s.heap H locs) (hl : lv_has ls 4 [(3, .int (nI i)), (0, .ref b), (1, .ref (E.1 0)), (2, .ref (E.1 68))]) (kk : ∀ (KL : List Nat) (kc : Nat → zKC) (on : zNS) (rw rd ft tr : zOS) (la : Nat → zLS) (mo : zMS), Inv KL kc on rw rd ft tr la mo → ∀ (H : Heap) (locs : List Loc) (ls : Array Slot), va_P D vwCl (zW E KL kc on rw rd ft tr la mo) H → va_D A (zW E KL kc on rw rd ft tr la mo) → va_S A s.heap H locs → lv_has ls 4 [(3, .int (nI i)), (0, .ref b), (1, .ref (E.1 0)), (2, .ref (E.1 68))] → W p l e room_1 s m #[Value.ref b] below meth c H locs (cells + 8) (slots + 24) Q (F0 m 1198 ls [])) : W p l e room_1 s m #[Value.ref b] below meth c H locs cells slots Q (F0 m 1185 ls []) := by
  obtain ⟨hx, hb, hml, hown, hts, hX, hbl, hbA, hA, hK, hE, hL⟩ := C0
  obtain ⟨u, w, hu, hw, hr, hI2⟩ := hst KL kc on rw rd ft tr la mo hInv
  refine lv_aload_n hx hb dL_law_1185 rfl (lv_at hl 2 rfl) ?_
  refine zcall_i (va_runV (R := room_1) (As := []) (rest := []) ⟨hx, hb, hml, hown, hts⟩ (qX11_status l D E KL kc on rw rd ft tr la mo N _ _ hu) (cwV 0 hts (zgV k4_56 k4_57 k4_58 k0_1 k4_59) rfl rfl rfl (by decide +kernel) ⟨Nat.le_of_ble_eq_true rfl, Nat.le_of_ble_eq_true rfl⟩) (zpv hE hS hA hK hP hD (va_recv hK hP (ci := 10) (q0 := 0) rfl (zg_on _ _ _ _ _ _ _ _ _ _))) rfl rfl hl.1 rfl (lv_room (Nat.le_of_ble_eq_true rfl)) dL_law_1186 ⟨(show _ ≤ 600000 by omega), (show _ ≤ 7302250 by omega)⟩) hD hS hA (fun H locs hP hD hS => ?_)
  refine lv_aload_n hx hb dL_law_1189 rfl (lv_at hl 3 rfl) ?_
  refine zcall_i (va_runV (R := room_1) (As := []) (rest := [.int u]) ⟨hx, hb, hml, hown, hts⟩ (qX12_status l D E KL kc on rw rd ft tr la mo N _ _ hw) (cwV 0 hts (zgV k6_30 k6_31 k6_32 k0_8 k6_33) rfl rfl rfl (by decide +kernel) ⟨Nat.le_of_ble_eq_true rfl, Nat.le_of_ble_eq_true rfl⟩) (zpv hE hS hA hK hP hD (va_recv hK hP (ci := 11) (q0 := 68) rfl (zg_mo _ _ _ _ _ _ _ _ _ _))) rfl rfl hl.1 rfl (lv_room (Nat.le_of_ble_eq_true rfl)) dL_law_1190 ⟨(show _ ≤ 600000 by omega), (show _ ≤ 7302250 by omega)⟩) hD hS hA (fun H locs hP hD hS => ?_)
  refine lv_icmp_eq (tgt := 1198) hx hb dL_law_1193 (by decide) (fun _ => ?_) (fun c1 => absurd hr c1)
  refine W.widen (k := cells + 8) (n := slots + 24) (by omega) (by omega) ?_
  exact kk _ _ _ _ _ _ _ _ _ hI2 _ _ _ hP hD hS hl
