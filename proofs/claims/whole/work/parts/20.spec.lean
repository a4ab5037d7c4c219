/-! THE MATHEMATICAL STATE of the net, one for both sides.
xV X f i: number f of thing i. f: 0 clock, 1 how many messages, 2 dropped, 3 lost, 4 to lose (link), 5 priority of what is on a link, 6 off (spine), 7 chosen last (leaf); of a message: 8 from, 9 to, 10 length, 11 mode, 12 state, 13 next, 14 permitted, 15 level, 16 quiet, 17 tries, 18 ended, 19 known, 20 executed, 21 granted, 22 silence, 23 asks, 24 arrival, 25 since; of a host: 26 arrivals, 27 sent, 28 how many chosen, 29 chosen (3 h + k), 30 finishes, 31 finished (64 h + j); 32: the reference's own code of a throw.
xL X q: rows of packets (kind, message, count): q < 96 the queue 4 link + priority, 96 + h what is due at host h, 200 + link what is on the link.
xB X w m i: sets: w 0 wanted, 1 in. -/
abbrev XS : Type := (Nat → Nat → Nat) × (Nat → List (Nat × Nat × Nat)) × (Nat → Nat → Nat → Bool)
def xV (X : XS) (f i : Nat) : Nat := X.1 f i
def xL (X : XS) (q : Nat) : List (Nat × Nat × Nat) := X.2.1 q
def xB (X : XS) (w m i : Nat) : Bool := X.2.2 w m i
def yV (X : XS) (f i v : Nat) : XS := (fun f' i' => if f' = f ∧ i' = i then v else X.1 f' i', X.2)
def yL (X : XS) (q : Nat) (l : List (Nat × Nat × Nat)) : XS := (X.1, fun q' => if q' = q then l else X.2.1 q', X.2.2)
def yB (X : XS) (w m i : Nat) (b : Bool) : XS := (X.1, X.2.1, fun w' m' i' => if w' = w ∧ m' = m ∧ i' = i then b else X.2.2 w' m' i')
def yC (X : XS) (w m : Nat) : XS := (X.1, X.2.1, fun w' m' i' => if w' = w ∧ m' = m then false else X.2.2 w' m' i')
theorem xV_yV (X : XS) (f i v f' i' : Nat) : xV (yV X f i v) f' i' = if f' = f ∧ i' = i then v else xV X f' i' := rfl
theorem xV_yL (X : XS) (q : Nat) (l : List (Nat × Nat × Nat)) : xV (yL X q l) = xV X := rfl
theorem xV_yB (X : XS) (w m i : Nat) (b : Bool) : xV (yB X w m i b) = xV X := rfl
theorem xV_yC (X : XS) (w m : Nat) : xV (yC X w m) = xV X := rfl
theorem xL_yV (X : XS) (f i v : Nat) : xL (yV X f i v) = xL X := rfl
theorem xL_yL (X : XS) (q : Nat) (l : List (Nat × Nat × Nat)) (q' : Nat) : xL (yL X q l) q' = if q' = q then l else xL X q' := rfl
theorem xL_yB (X : XS) (w m i : Nat) (b : Bool) : xL (yB X w m i b) = xL X := rfl
theorem xL_yC (X : XS) (w m : Nat) : xL (yC X w m) = xL X := rfl
theorem xB_yV (X : XS) (f i v : Nat) : xB (yV X f i v) = xB X := rfl
theorem xB_yL (X : XS) (q : Nat) (l : List (Nat × Nat × Nat)) : xB (yL X q l) = xB X := rfl
theorem xB_yB (X : XS) (w m i : Nat) (b : Bool) (w' m' i' : Nat) : xB (yB X w m i b) w' m' i' = if w' = w ∧ m' = m ∧ i' = i then b else xB X w' m' i' := rfl
theorem xB_yC (X : XS) (w m : Nat) (w' m' i' : Nat) : xB (yC X w m) w' m' i' = if w' = w ∧ m' = m then false else xB X w' m' i' := rfl
theorem xV_nf {X : XS} {f i v f' : Nat} (h : f' ≠ f) : xV (yV X f i v) f' = xV X f' := funext fun i' => by rw [xV_yV, if_neg (fun z => h z.1)]
/-- for i = 0 .. n - 1 -/
def x_for (n : Nat) (f : XS → Nat → XS) (X : XS) : XS := match n with
  | 0 => X
  | n + 1 => f (x_for n f X) n
/-- how many i below n have f -/
def cnt (f : Nat → Bool) : Nat → Nat
  | 0 => 0
  | n + 1 => cnt f n + if f n then 1 else 0
/-- the least i below n with f, else n -/
def lst (f : Nat → Bool) : Nat → Nat
  | 0 => 0
  | n + 1 => if lst f n < n then lst f n else if f n then n else n + 1
def x_drop (X : XS) : XS := yV X 2 0 (xV X 2 0 + 1)
def x_goal (X : XS) (k m : Nat) : Nat := if k = 0 then xV X 9 m else xV X 8 m
def x_enter (X : XS) (link : Nat) (e : Nat × Nat × Nat) (p : Nat) : XS :=
  if 0 < xV X 4 link then yV (yV X 4 link (xV X 4 link - 1)) 3 0 (xV X 3 0 + 1) else yV (yL X (200 + link) [e]) 5 link p
def x_line (X : XS) (link : Nat) (e : Nat × Nat × Nat) (p : Nat) : XS :=
  if (xL X (4 * link + p)).length = 8 then x_drop X else yL X (4 * link + p) (xL X (4 * link + p) ++ [e])
def x_spine (X : XS) (leaf : Nat) : Nat := if xV X 6 0 = 1 then 1 else if xV X 6 1 = 1 then 0 else 1 - xV X 7 leaf
def x_atLeaf (X : XS) (leaf : Nat) (e : Nat × Nat × Nat) (p : Nat) : XS :=
  if x_goal X e.1 e.2.1 / 4 = leaf then x_line X (8 + 6 * leaf + x_goal X e.1 e.2.1 % 4) e p
  else if xV X 6 0 = 1 ∧ xV X 6 1 = 1 then x_drop X
  else x_line (yV X 7 leaf (x_spine X leaf)) (8 + 6 * leaf + 4 + x_spine X leaf) e p
def x_due (X : XS) (h : Nat) (e : Nat × Nat × Nat) : XS := if (xL X (96 + h)).length = 24 then X else yL X (96 + h) (xL X (96 + h) ++ [e])
def x_missing (X : XS) (m : Nat) : Nat := cnt (fun i => !xB X 1 m i) (xV X 10 m)
def x_forget (X : XS) (m : Nat) : XS := yC (yV X 19 m 0) 1 m
/-- DATA that comes to one that is known: the packet is in -/
def x_take (X : XS) (m c : Nat) : XS := yB (yV (yV X 22 m 0) 23 m 0) 1 m c true
/-- the receiver begins to know it -/
def x_know (X : XS) (m : Nat) : XS := yV (yV (yV (yV X 19 m 1) 26 (xV X 9 m) (xV X 26 (xV X 9 m) + 1)) 24 m (xV X 26 (xV X 9 m) + 1)) 21 m (if xV X 10 m < 4 then xV X 10 m else 4)
/-- all are in: it is finished -/
def x_finish (X : XS) (m : Nat) : XS := yV (yV (yV (yV (yV X 19 m 2) 20 m (xV X 20 m + 1)) 25 m (xV X 0 0)) 31 (64 * xV X 9 m + xV X 30 (xV X 9 m) % 64) m) 30 (xV X 9 m) (xV X 30 (xV X 9 m) + 1)
def x_data (X : XS) (m c : Nat) : XS :=
  if xV X 19 m = 2 then x_due X (xV X 9 m) (3, m, 0)
  else if 0 < x_missing (x_take (if xV X 19 m = 0 then x_know X m else X) m c) m then x_take (if xV X 19 m = 0 then x_know X m else X) m c
  else x_due (x_finish (x_take (if xV X 19 m = 0 then x_know X m else X) m c) m) (xV X 9 m) (3, m, 0)
def x_listen (X : XS) (h m : Nat) : XS :=
  if xV X 22 m + 1 < 16 then yV X 22 m (xV X 22 m + 1)
  else if xV X 23 m + 1 = 8 then x_forget (yV (yV X 22 m 0) 23 m (xV X 23 m + 1)) m
  else x_due (yV (yV X 22 m 0) 23 m (xV X 23 m + 1)) h (2, m, 64 * xV X 21 m + lst (fun i => !xB X 1 m i) 60)
def x_listens (X : XS) (h n : Nat) : XS := x_for n (fun Y x => if xV Y 9 x = h ∧ xV Y 19 x = 1 then x_listen Y h x else Y) X
def x_forgets (X : XS) (h n : Nat) : XS := x_for n (fun Y x => if xV Y 9 x = h ∧ (xV Y 19 x = 2 ∧ xV Y 11 x = 1 ∧ nI 30 ≤ nI (xV Y 0 0) - nI (xV Y 25 x)) then x_forget Y x else Y) X
def x_ahead (X : XS) (x y : Nat) : Bool := if x_missing X x ≠ x_missing X y then x_missing X x < x_missing X y else xV X 24 x < xV X 24 y
def x_chosen (X : XS) (h x : Nat) : Bool := cnt (fun k => xV X 29 (3 * h + k) = x) (xV X 28 h) ≠ 0
/-- of those below n: the one that is ahead of all that aren't chosen yet -/
def x_best (X : XS) (h : Nat) : Nat → Option Nat
  | 0 => none
  | n + 1 => if xV X 9 n = h ∧ xV X 19 n = 1 ∧ x_chosen X h n = false ∧ (∀ y, x_best X h n = some y → x_ahead X n y = true) then some n else x_best X h n
def x_target (X : XS) (m : Nat) : Nat := if xV X 10 m - x_missing X m + 6 < xV X 10 m then xV X 10 m - x_missing X m + 6 else xV X 10 m
def x_pick (X : XS) (h k m : Nat) : XS :=
  if x_target X m ≤ xV X 21 m then yV (yV X 29 (3 * h + k) m) 28 h (xV X 28 h + 1)
  else x_due (yV (yV (yV X 29 (3 * h + k) m) 28 h (xV X 28 h + 1)) 21 m (x_target X m)) h (1, m, 4 * x_target X m + 1 + k)
def x_picks (X : XS) (h : Nat) : Nat → XS
  | 0 => X
  | k + 1 => match x_best (x_picks X h k) h (xV X 1 0) with
    | none => x_picks X h k
    | some m => x_pick (x_picks X h k) h k m
def x_receive (X : XS) (h : Nat) : XS := x_picks (yV (x_forgets (x_listens X h (xV X 1 0)) h (xV X 1 0)) 28 h 0) h 3
def x_want (X : XS) (m i : Nat) : XS := if i < xV X 13 m then yB X 0 m i true else X
def x_answer (X : XS) (k m c : Nat) : XS :=
  if xV X 12 m ≠ 0 then X
  else if k = 1 then yV (yV (yV (yV X 16 m 0) 17 m 0) 14 m (if c / 4 > xV X 14 m then c / 4 else xV X 14 m)) 15 m (c % 4)
  else if k = 2 then x_want (yV (yV (yV X 16 m 0) 17 m 0) 14 m (if c / 64 > xV X 14 m then c / 64 else xV X 14 m)) m (c % 64)
  else yV (yV (yV (yV X 16 m 0) 17 m 0) 12 m 1) 18 m (xV X 0 0)
def x_least (X : XS) (m : Nat) : Nat := lst (xB X 0 m) 60
def x_left (X : XS) (m : Nat) : Nat := xV X 10 m - xV X 13 m + cnt (xB X 0 m) 60
def x_watch1 (X : XS) (x : Nat) : XS :=
  if xV X 16 x + 1 < 40 then yV X 16 x (xV X 16 x + 1)
  else if xV X 17 x + 1 = 6 then yV (yV (yV (yV X 16 x 0) 17 x (xV X 17 x + 1)) 12 x 2) 18 x (xV X 0 0)
  else x_want (yV (yV X 16 x 0) 17 x (xV X 17 x + 1)) x 0
def x_watch (X : XS) (h n : Nat) : XS := x_for n (fun Y x => if xV Y 8 x = h ∧ xV Y 12 x = 0 then x_watch1 Y x else Y) X
def x_can (X : XS) (h x : Nat) : Bool := decide (xV X 8 x = h) && decide (xV X 12 x = 0) && (decide (x_least X x < 60) || decide (xV X 13 x < xV X 14 x))
def x_short (X : XS) (h : Nat) : Nat → Option Nat
  | 0 => none
  | n + 1 => if x_can X h n = true ∧ (∀ y, x_short X h n = some y → x_left X n < x_left X y) then some n else x_short X h n
/-- the lengths of the latest 16 messages that began at h -/
def x_lens (X : XS) (h : Nat) : List Nat := ((List.range (xV X 1 0)).filter (fun x => xV X 8 x = h)).map (fun x => xV X 10 x)
def x_late (X : XS) (h : Nat) : List Nat := (x_lens X h).drop ((x_lens X h).length - 16)
def cle (ls : List Nat) (v : Nat) : Nat := (ls.filter (fun x => x ≤ v)).length
def x_cut (X : XS) (h t : Nat) : Nat := if x_late X h = [] then 0 else lst (fun v => t * (x_late X h).length / 3 < cle (x_late X h) v) 61
def x_prio (X : XS) (h m i : Nat) : Nat := if 4 ≤ i then xV X 15 m else if xV X 10 m ≤ x_cut X h 1 then 1 else if xV X 10 m ≤ x_cut X h 2 then 2 else 3
def x_takePlace (X : XS) (m : Nat) : XS := if x_least X m < 60 then yB X 0 m (x_least X m) false else yV X 13 m (xV X 13 m + 1)
def x_place (X : XS) (m : Nat) : Nat := if x_least X m < 60 then x_least X m else xV X 13 m
def x_sent1 (X : XS) (h : Nat) : XS := yV X 27 h (xV X 27 h + 1)
def x_send (X : XS) (h : Nat) : XS := match xL X (96 + h) with
  | e :: t => x_enter (x_sent1 (yL X (96 + h) t) h) h e 0
  | [] => match x_short X h (xV X 1 0) with
    | none => X
    | some m => x_enter (x_sent1 (x_takePlace X m) h) h (0, m, x_place X m) (x_prio X h m (x_place X m))
def x_arrive (X : XS) (link : Nat) : XS := match xL X (200 + link) with
  | [] => X
  | e :: _ =>
    if link < 8 then x_atLeaf (yL X (200 + link) []) (link / 4) e (xV X 5 link)
    else if 20 ≤ link then x_atLeaf (yL X (200 + link) []) ((link - 20) % 2) e (xV X 5 link)
    else if 4 ≤ (link - 8) % 6 then
      (if xV X 6 ((link - 8) % 6 - 4) = 1 then x_drop (yL X (200 + link) []) else x_line (yL X (200 + link) []) (20 + 2 * ((link - 8) % 6 - 4) + x_goal X e.1 e.2.1 / 4) e (xV X 5 link))
    else if e.1 = 0 then x_data (yL X (200 + link) []) e.2.1 e.2.2
    else x_answer (yL X (200 + link) []) e.1 e.2.1 e.2.2
def x_firstQ (X : XS) (link : Nat) : Nat := lst (fun p => (xL X (4 * link + p)).length ≠ 0) 4
def x_serve (X : XS) (link : Nat) : XS :=
  if 20 ≤ link ∧ xV X 6 ((link - 20) / 2) = 1 then X
  else match xL X (4 * link + x_firstQ X link) with
    | [] => X
    | e :: t => if x_firstQ X link = 4 then X else x_enter (yL X (4 * link + x_firstQ X link) t) link e (x_firstQ X link)
def x_host (X : XS) (h : Nat) : XS := x_send (x_watch (x_receive X h) h (xV X 1 0)) h
def x_slot1 (X : XS) : XS := x_for 8 x_host (x_for 16 (fun Y j => x_serve Y (8 + j)) (x_for 24 x_arrive (yV X 0 0 (xV X 0 0 + 1))))
def x_slots (X : XS) (n : Nat) : XS := x_for n (fun Y _ => x_slot1 Y) X
def x_begin (X : XS) (a b n m : Nat) : XS :=
  yV (yV (yV (yV (yV (yV (yV X 1 0 (xV X 1 0 + 1)) 8 (xV X 1 0) a) 9 (xV X 1 0) b) 10 (xV X 1 0) n) 11 (xV X 1 0) m) 14 (xV X 1 0) (if n < 4 then n else 4)) 15 (xV X 1 0) 3
