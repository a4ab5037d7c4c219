/-! the document's calls, over the mathematical state: answer and state -/
abbrev cl (x : Int32) : Nat := x.toNatClampNeg
def p_message (X : XS) (a b n m : Int32) : Int32 × XS := if a < 0 ∨ nI 8 ≤ a ∨ b < 0 ∨ nI 8 ≤ b ∨ a = b ∨ n < nI 1 ∨ nI 60 < n ∨ m < 0 ∨ nI 1 < m ∨ xV X 1 0 = 48 then (-1, X) else (nI (xV X 1 0), x_begin X (cl a) (cl b) (cl n) (cl m))
def p_lose (X : XS) (k c : Int32) : Int32 × XS := if k < 0 ∨ nI 24 ≤ k ∨ c < 0 ∨ nI 100 < c then (nI 0, X) else (nI 1, yV X 4 (cl k) (cl c))
def p_spine (X : XS) (s on : Int32) : Int32 × XS := if ¬ s = nI 0 ∧ ¬ s = nI 1 then (nI 0, X) else (nI 1, yV X 6 (cl s) (if on = 0 then 1 else 0))
def p_sentV (X : XS) (m : Nat) (w : Int32) : Int32 := if w = nI 0 then nI (xV X 12 m) else if w = nI 1 then nI (xV X 13 m) else if w = nI 2 then nI (xV X 14 m) else if w = nI 3 then nI (x_left X m) else if w = nI 4 then nI (xV X 16 m) else if w = nI 5 then nI (xV X 17 m) else if w = nI 6 then nI (xV X 15 m) else if w = nI 7 then nI (xV X 18 m) else -1
def p_sent (X : XS) (m w : Int32) : Int32 := if m < 0 ∨ nI (xV X 1 0) ≤ m then -1 else p_sentV X (cl m) w
def p_recV (X : XS) (m : Nat) (w : Int32) : Int32 := if w = nI 0 then nI (xV X 19 m) else if w = nI 1 then nI (xV X 20 m) else if ¬ xV X 19 m = 1 then nI 0 else if w = nI 2 then nI (x_missing X m) else if w = nI 3 then nI (xV X 21 m) else if w = nI 4 then nI (xV X 22 m) else if w = nI 5 then nI (xV X 23 m) else nI (xV X 24 m)
def p_received (X : XS) (m w : Int32) : Int32 := if m < 0 ∨ nI (xV X 1 0) ≤ m ∨ w < 0 ∨ nI 6 < w then -1 else p_recV X (cl m) w
def p_in (X : XS) (m i : Int32) : Int32 := if m < 0 ∨ nI (xV X 1 0) ≤ m ∨ i < 0 ∨ nI (xV X 10 (cl m)) ≤ i then nI 0 else bI (xB X 1 (cl m) (cl i))
def p_finished (X : XS) (h k : Int32) : Int32 := if h < 0 ∨ nI 8 ≤ h ∨ k < 0 ∨ nI 63 < k ∨ nI (xV X 30 (cl h)) ≤ k then -1 else nI (xV X 31 (64 * cl h + (xV X 30 (cl h) - 1 - cl k) % 64))
def p_chosen (X : XS) (h k : Int32) : Int32 := if h < 0 ∨ nI 8 ≤ h ∨ k < 0 ∨ nI (xV X 28 (cl h)) ≤ k then -1 else nI (xV X 29 (3 * cl h + cl k))
def x_gni1 (X : XS) (h x : Nat) : Nat := if xV X 9 x = h ∧ xV X 19 x = 1 then xV X 21 x - (xV X 10 x - x_missing X x) else 0
def x_gni (X : XS) (h : Nat) : Nat → Nat
  | 0 => 0
  | n + 1 => x_gni X h n + x_gni1 X h n
def p_hostV (X : XS) (h : Nat) (w : Int32) : Int32 := if w = nI 0 then nI (x_gni X h (xV X 1 0)) else if w = nI 1 then nI (xL X (96 + h)).length else if w = nI 2 then nI (x_cut X h 1) else if w = nI 3 then nI (x_cut X h 2) else if w = nI 4 then nI (xV X 27 h) else nI (xV X 30 h)
def p_host (X : XS) (h w : Int32) : Int32 := if h < 0 ∨ nI 8 ≤ h ∨ w < 0 ∨ nI 5 < w then -1 else p_hostV X (cl h) w
def p_queue (X : XS) (k p : Int32) : Int32 := if k < nI 8 ∨ nI 24 ≤ k ∨ p < 0 ∨ nI 3 < p then -1 else nI (xL X (4 * cl k + cl p)).length
def p_packet (X : XS) (k w : Int32) : Int32 := if k < 0 ∨ nI 24 ≤ k then -1 else match xL X (200 + cl k) with
  | [] => -1
  | e :: _ => if w < 0 ∨ nI 3 < w then -1 else if w = nI 0 then nI e.1 else if w = nI 1 then nI e.2.1 else if w = nI 2 then nI e.2.2 else nI (xV X 5 (cl k))
def x_under (X : XS) : Nat → Nat
  | 0 => 0
  | n + 1 => x_under X n + if (xL X (200 + n)).length = 0 then 0 else 1
def x_wait (X : XS) : Nat → Nat
  | 0 => 0
  | n + 1 => x_wait X n + (xL X (32 + n)).length
def p_total (X : XS) (w : Int32) : Int32 := if w = nI 0 then nI (xV X 2 0) else if w = nI 1 then nI (xV X 3 0) else if w = nI 2 then nI (x_under X 24 + x_wait X 64) else -1
theorem cl_nI {n : Nat} (h : n < 2 ^ 31) : cl (nI n) = n := nI_clamp h
