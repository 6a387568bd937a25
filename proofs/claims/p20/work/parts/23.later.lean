/-! hours that go by -/
def hStep (f u : Nat) (wt dt : Nat → Int32) (h : HS) : HS := hHour f u (wt (zh h % 12)) (dt (zh h % 12)) h
def hN (f u : Nat) (wt dt : Nat → Int32) (h : HS) : Nat → HS
  | 0 => h
  | n + 1 => hStep f u wt dt (hN f u wt dt h n)
def brkN (f u : Nat) (wt : Nat → Int32) (h : HS) : Nat := cnt (brk (wt (zh h % 12)) h) f (u - f)
theorem brkN_le (f u : Nat) (wt : Nat → Int32) (h : HS) : brkN f u wt h ≤ u - f := cnt_le _ _ _
theorem zh_hN (f u : Nat) (wt dt : Nat → Int32) (h : HS) (n : Nat) : zh (hN f u wt dt h n) = zh h + n := by
  induction n with
  | zero => rfl
  | succ n ih =>
    show zh (hN f u wt dt h n) + 1 = zh h + (n + 1)
    rw [ih]; rfl
theorem ok01_hHour {f u : Nat} {wi da : Int32} {h : HS} (ho : ok01 h) : ok01 (hHour f u wi da h) := by
  intro k hk
  show part f u (zo h) (nO wi h) k = 0 ∨ part f u (zo h) (nO wi h) k = 1
  have h0 := ho k hk
  unfold part nO
  split
  · split
    · exact h0
    · split
      · exact Or.inl rfl
      · exact h0
  · exact h0
theorem ok01_hN {f u : Nat} {wt dt : Nat → Int32} {h : HS} (ho : ok01 h) (n : Nat) : ok01 (hN f u wt dt h n) := by
  induction n with
  | zero => exact ho
  | succ n ih => exact ok01_hHour ih
/-- a broken string stays so -/
theorem zo_hHour {f u : Nat} {wi da : Int32} {h : HS} {k : Nat} (hz : zo h k = 0) : zo (hHour f u wi da h) k = 0 := by
  show part f u (zo h) (nO wi h) k = 0
  unfold part nO
  split
  · first | exact hz | (rw [if_pos hz]; exact hz)
  · exact hz
theorem zo_hN {f u : Nat} {wt dt : Nat → Int32} {h : HS} {k n : Nat} (m : Nat) (hz : zo (hN f u wt dt h n) k = 0) : zo (hN f u wt dt h (n + m)) k = 0 := by
  induction m with
  | zero => exact hz
  | succ m ih => exact zo_hHour ih
def passB (wt dt : Nat → Int32) (h : HS) : Nat → Nat
  | 0 => 0
  | n + 1 => passB wt dt h n + brkN 0 12 wt (hN 0 12 wt dt h n)
theorem passB_le (wt dt : Nat → Int32) (h : HS) (n : Nat) : passB wt dt h n ≤ 12 * n := by
  induction n with
  | zero => exact Nat.le_refl _
  | succ n ih =>
    have := brkN_le 0 12 wt (hN 0 12 wt dt h n)
    show passB wt dt h n + brkN 0 12 wt (hN 0 12 wt dt h n) ≤ 12 * (n + 1)
    omega
/-- those that were whole and are not -/
def lowB (h g : HS) (j : Nat) : Bool := decide (¬ zo h j = 0 ∧ zo g j = 0)
def firF (wt dt : Nat → Int32) (h : HS) (k : Nat) : Nat → Int32
  | 0 => -1
  | n + 1 => if brkN 0 12 wt (hN 0 12 wt dt h k) = 0 then firF wt dt h (k + 1) n else lowF (lowB h (hN 0 12 wt dt h (k + 1))) 0 12
def bearF (p : Nat → Bool) : Nat → Int32
  | 0 => -1
  | n + 1 => if p n then nI n else bearF p n
def bearP (u : US) (k w : Nat) : Bool := decide (¬ zo (hN k (k + 1) (fun _ => nI w) (ud u) (uh u) 24) k = 0)
def holdP (u : US) (c k : Nat) : Bool := tuned (hN (ul u c) (ul u c + uz u c) (uw u) (ud u) (uh u) k) (ul u c) (uz u c) (ut u c)
theorem nar01' {x : Int32} (h : x = 0 ∨ x = 1) : narrow .boolean (.int x) = .int x := by rcases h with rfl | rfl <;> rfl
def uCh (u : US) (f s : Nat) (t0 t1 t2 t3 : Int32) : US := (uh u, uw u, ud u, un u + 1, fun i => if i = un u then f else ul u i, fun i => if i = un u then s else uz u i, fun i => if i = un u then upd (upd (upd (upd (ut u i) 0 t0) 1 t1) 2 t2) 3 t3 else ut u i)
def chSz (c d : Int32) : Nat := if c = 0 then 2 else if d = 0 then 3 else 4
def exCh (u : US) (k v0 v1 v2 v3 : Int32) : Nat := if isS k = false then 1 else if isT v0 1 = false then 2 else if isT v1 1 = false then 2 else if isT v2 0 = false then 2 else if isT v3 0 = false then 2 else if v2 = 0 ∧ ¬ v3 = 0 then 2 else if 12 < ix k + chSz v2 v3 then 2 else if 6 ≤ un u then 3 else 0
/-! the fewest steps, string by string -/
def fwF (c : Int32 → Bool) (r : Int32 → Int32) : Nat → Int32
  | 0 => 1000
  | n + 1 => if c (nI n - 4) then mn (fwF c r n) (ab (nI n - 4) + r (nI n - 4)) else fwF c r n
def fwC (h : HS) (lo : Nat) (tn : Nat → Int32) (j : Nat) (two one : Int32) (x : Int32) : Bool := fitsW (zw h (lo + j) + x) && (decide (j = 0) || fits1 h lo tn (j - 1) one (two + x))
def fw (h : HS) (lo : Nat) (tn : Nat → Int32) : Nat → Nat → Int32 → Int32 → Int32
  | 0, j, two, one => if fits1 h lo tn (j - 1) one two then 0 else 1000
  | d + 1, j, two, one => fwF (fwC h lo tn j two one) (fun x => fw h lo tn d (j + 1) one x) 9
def fewS (u : US) (c : Nat) : Int32 := if 1000 ≤ fw (uh u) (ul u c) (ut u c) (uz u c) 0 0 0 then -1 else fw (uh u) (ul u c) (ut u c) (uz u c) 0 0 0
theorem pk_sub1 (n : Nat) : nI n + Int32.ofInt (-1) = nI n - 1 := by rw [Int32.sub_eq_add_neg]; rfl
