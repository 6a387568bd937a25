/-! the whole object: (harp, winds, damps, how many chords, their first strings, their sizes, their tones) -/
abbrev US : Type := HS × (Nat → Int32) × (Nat → Int32) × Nat × (Nat → Nat) × (Nat → Nat) × (Nat → Nat → Int32)
abbrev uh (u : US) : HS := u.1
abbrev uw (u : US) : Nat → Int32 := u.2.1
abbrev ud (u : US) : Nat → Int32 := u.2.2.1
abbrev un (u : US) : Nat := u.2.2.2.1
abbrev ul (u : US) : Nat → Nat := u.2.2.2.2.1
abbrev uz (u : US) : Nat → Nat := u.2.2.2.2.2.1
abbrev ut (u : US) : Nat → Nat → Int32 := u.2.2.2.2.2.2
abbrev wO (cy : Nat → ClassId) (x q q2 : Nat → Nat) (n : Nat) (wt dt : Nat → Int32) : va_W := [(x 0, .inr (2, [.ref (q 0), .ref (q2 0), .ref (x 1), .ref (x 2), .ref (x 3), .int (nI n)])), (x 1, .inl (cy 0, 12, .inl wt)), (x 2, .inl (cy 0, 12, .inl dt))]
abbrev wK (cy : Nat → ClassId) (x ca ta : Nat → Nat) (lo sz : Nat → Nat) (tn : Nat → Nat → Int32) : va_W := [(x 3, .inl (cy 2, 6, .inr (.inr (.inr (.inr (fun i => some (ca i))))))), (ca 0, .inr (0, [.ref (ta 0), .int (nI (lo 0)), .int (nI (sz 0))])), (ca 1, .inr (0, [.ref (ta 1), .int (nI (lo 1)), .int (nI (sz 1))])), (ca 2, .inr (0, [.ref (ta 2), .int (nI (lo 2)), .int (nI (sz 2))])), (ca 3, .inr (0, [.ref (ta 3), .int (nI (lo 3)), .int (nI (sz 3))])), (ca 4, .inr (0, [.ref (ta 4), .int (nI (lo 4)), .int (nI (sz 4))])), (ca 5, .inr (0, [.ref (ta 5), .int (nI (lo 5)), .int (nI (sz 5))])), (ta 0, .inl (cy 0, 4, .inl (tn 0))), (ta 1, .inl (cy 0, 4, .inl (tn 1))), (ta 2, .inl (cy 0, 4, .inl (tn 2))), (ta 3, .inl (cy 0, 4, .inl (tn 3))), (ta 4, .inl (cy 0, 4, .inl (tn 4))), (ta 5, .inl (cy 0, 4, .inl (tn 5)))]
/-- the whole object in the heap: itself and its tables (places 0 to 2), the harp (3 to 9), the other harp (10 to 16), the chords (17 to 29) -/
abbrev wX (cy : Nat → ClassId) (x q q2 ca ta : Nat → Nat) (u : US) (g : HS) : va_W := wO cy x q q2 (un u) (uw u) (ud u) ++ (wH cy q (uh u) ++ (wH cy q2 g ++ wK cy x ca ta (ul u) (uz u) (ut u)))
/-- what holds of the numbers at any time -/
def uOk (u : US) : Prop := ok01 (uh u) ∧ un u ≤ 6 ∧ (∀ i, i < 6 → ul u i + uz u i ≤ 12 ∧ uz u i ≤ 4) ∧ (∀ i, i < un u → 2 ≤ uz u i) ∧ zh (uh u) < 1000000000
theorem wX_ch {D : va_G} {cl : List vw_C} {cy : Nat → ClassId} {x q q2 ca ta : Nat → Nat} {u : US} {g : HS} {H : Heap} (hP : va_P D cl (wX cy x q q2 ca ta u g) H) {i : Nat} (hi : i < 6) : va_P D cl (wH cy q (uh u) ++ wC cy (ca i) (ta i) (ul u i) (uz u i) (ut u i)) H := by
  rcases (show i = 0 ∨ i = 1 ∨ i = 2 ∨ i = 3 ∨ i = 4 ∨ i = 5 by omega) with rfl | rfl | rfl | rfl | rfl | rfl
  · exact hP.sub [3, 4, 5, 6, 7, 8, 9, 18, 24] rfl
  · exact hP.sub [3, 4, 5, 6, 7, 8, 9, 19, 25] rfl
  · exact hP.sub [3, 4, 5, 6, 7, 8, 9, 20, 26] rfl
  · exact hP.sub [3, 4, 5, 6, 7, 8, 9, 21, 27] rfl
  · exact hP.sub [3, 4, 5, 6, 7, 8, 9, 22, 28] rfl
  · exact hP.sub [3, 4, 5, 6, 7, 8, 9, 23, 29] rfl
theorem wX_ch2 {D : va_G} {cl : List vw_C} {cy : Nat → ClassId} {x q q2 ca ta : Nat → Nat} {u : US} {g : HS} {H : Heap} (hP : va_P D cl (wX cy x q q2 ca ta u g) H) {i : Nat} (hi : i < 6) : va_P D cl (wH cy q2 g ++ wC cy (ca i) (ta i) (ul u i) (uz u i) (ut u i)) H := by
  rcases (show i = 0 ∨ i = 1 ∨ i = 2 ∨ i = 3 ∨ i = 4 ∨ i = 5 by omega) with rfl | rfl | rfl | rfl | rfl | rfl
  · exact hP.sub [10, 11, 12, 13, 14, 15, 16, 18, 24] rfl
  · exact hP.sub [10, 11, 12, 13, 14, 15, 16, 19, 25] rfl
  · exact hP.sub [10, 11, 12, 13, 14, 15, 16, 20, 26] rfl
  · exact hP.sub [10, 11, 12, 13, 14, 15, 16, 21, 27] rfl
  · exact hP.sub [10, 11, 12, 13, 14, 15, 16, 22, 28] rfl
  · exact hP.sub [10, 11, 12, 13, 14, 15, 16, 23, 29] rfl
/-! what the calls answer -/
def ix (k : Int32) : Nat := k.toNatClampNeg
theorem ix_nI {j : Nat} (h : j < 2147483648) : ix (nI j) = j := nI_clamp h
theorem in_nat {k : Int32} {N : Nat} (hN : N < 2147483648) (h0 : ¬ k < 0) (h1 : k < nI N) : ∃ j : Nat, j < N ∧ k = nI j := by
  obtain ⟨j, hj, rfl⟩ := nI_of h0
  exact ⟨j, (nI_ltI hj hN).mp h1, rfl⟩
def isS (k : Int32) : Bool := decide (¬ k < 0 ∧ k < 12)
theorem isS_nat {k : Int32} (h : isS k = true) : ∃ j : Nat, j < 12 ∧ k = nI j := by
  have h2 := of_decide_eq_true h
  exact in_nat (N := 12) (by decide) h2.1 h2.2
def isW (x : Int32) : Bool := decide (¬ x < -20 ∧ x ≤ 20)
def isT (t lo : Int32) : Bool := decide (¬ t < lo ∧ t ≤ 1500)
def isH (x : Int32) : Bool := decide (¬ x < 1 ∧ x ≤ 200)
theorem isH_nat {k : Int32} (h : isH k = true) : ∃ j : Nat, 1 ≤ j ∧ j ≤ 200 ∧ k = nI j := by
  have h2 := of_decide_eq_true h
  have h3 : ¬ k < 0 := fun z => h2.1 (Int32.lt_trans z (by decide))
  obtain ⟨j, hj, rfl⟩ := nI_of h3
  exact ⟨j, (by have := h2.1; rcases Nat.lt_or_ge j 1 with z | z; exact absurd ((nI_ltI (a := j) (b := 1) hj (by decide)).mpr z) this; exact z), (nI_leI (a := j) (b := 200) hj (by decide)).mp h2.2, rfl⟩
def isC (u : US) (c : Int32) : Bool := decide (¬ c < 0 ∧ c < nI (un u))
theorem isC_nat {u : US} (hn : un u ≤ 6) {c : Int32} (h : isC u c = true) : ∃ j : Nat, j < un u ∧ c = nI j := by
  have h2 := of_decide_eq_true h
  exact in_nat (by omega) h2.1 h2.2
/-- the exceptions by number, as most calls name them; those that name IllegalArgumentException first -/
def xn (k : Nat) : String := match k with
  | 1 => xI
  | 2 => xA
  | _ => xT
def xm (k : Nat) : String := match k with
  | 1 => xA
  | _ => xI
def hPush (h : HS) (k : Nat) (x : Int32) : HS := (zb h, upd (zw h) k (zw h k + x), zd h, zs h, zr h, zo h, zl h, zh h)
def uH (u : US) (h : HS) : US := (h, uw u, ud u, un u, ul u, uz u, ut u)
def exPush (u : US) (k x : Int32) : Nat := if isS k = false then 1 else if isW x = false then 2 else if x = 0 then 2 else if fitsW (zw (uh u) (ix k) + x) = false then 3 else 0
def isB (b : Int32) : Bool := decide (¬ b < 100 ∧ b ≤ 900)
def exDraw (k b : Int32) : Nat := if isS k = false then 1 else if isB b = false then 2 else 0
def isWi (w : Int32) : Bool := decide (¬ w < 0 ∧ w ≤ 20)
def isDa (d : Int32) : Bool := decide (¬ d < 0 ∧ d ≤ 9)
def exWea (k w d : Int32) : Nat := if isS k = false then 1 else if isWi w = false then 2 else if isDa d = false then 2 else 0
def uWea (u : US) (k : Nat) (w d : Int32) : US := (uh u, upd (uw u) k w, upd (ud u) k d, un u, ul u, uz u, ut u)
def wea (u : US) (k : Nat) : Int32 := 10 * uw u k + ud u k
def isF (w : Int32) : Bool := decide (¬ w < 0 ∧ w < 7)
theorem isF_nat {k : Int32} (h : isF k = true) : ∃ j : Nat, j < 7 ∧ k = nI j := by
  have h2 := of_decide_eq_true h
  exact in_nat (N := 7) (by decide) h2.1 h2.2
def exStr (k w : Int32) : Nat := if isS k = false then 1 else if isF w = false then 1 else 0
def exMov (k x o : Int32) : Nat := if isS k = false then 1 else if isS o = false then 1 else if isW x = false then 2 else 0
def mov (h : HS) (k o : Nat) (x : Int32) : Int32 := if zo h o = 0 then 0 else if k = o then 10 * x else if k + 1 = o ∨ o + 1 = k then 3 * x else 0
def isN8 (w : Int32) : Bool := decide (¬ w < 0 ∧ w < 8)
theorem isN8_nat {k : Int32} (h : isN8 k = true) : ∃ j : Nat, j < 8 ∧ k = nI j := by
  have h2 := of_decide_eq_true h
  exact in_nat (N := 8) (by decide) h2.1 h2.2
def exCnt (w : Int32) : Nat := if isN8 w = false then 1 else 0
def exC (u : US) (c : Int32) : Nat := if isC u c = false then 1 else 0
def exPass (x : Int32) : Nat := if isH x = false then 1 else 0
def exFor (x k : Int32) : Nat := if isH x = false then 1 else if isS k = false then 2 else 0
def exS (k : Int32) : Nat := if isS k = false then 1 else 0
def snd (u : US) (i : Nat) : Bool := tuned (uh u) (ul u i) (uz u i) (ut u i)
def cntOf (u : US) (w : Nat) : Int32 := match w with
  | 0 => nI (zh (uh u))
  | 1 => sumN (zo (uh u)) 12
  | 2 => nI (un u)
  | 3 => nI (cnt (snd u) 0 (un u))
  | 4 => zl (uh u)
  | 5 => sumN (zw (uh u)) 12
  | 6 => sumN (zs (uh u)) 12
  | _ => sumN (zr (uh u)) 12
def lowF (p : Nat → Bool) (k : Nat) : Nat → Int32
  | 0 => -1
  | n + 1 => if p k then nI k else lowF p (k + 1) n
/-- a checksum goes on by numbers f 0, f 1 .. -/
def dgN (f : Nat → Int32) (d : Int64) : Nat → Int64
  | 0 => d
  | n + 1 => dgN f d n * 31 + (f n).toInt64
def dgC (u : US) (i : Nat) (d : Int64) : Int64 := dgN (ut u i) ((d * 31 + (nI (ul u i)).toInt64) * 31 + (nI (uz u i)).toInt64) (uz u i) * 31 + (offBy (uh u) (ul u i) (ut u i) (uz u i)).toInt64
theorem ab_one_all : ∀ j, j < 12 → ∀ i, i < 12 → (ab (nI j - nI i) = 1 ↔ (j + 1 = i ∨ i + 1 = j)) := by decide +kernel
theorem ab_one {j i : Nat} (hj : j < 12) (hi : i < 12) : ab (nI j - nI i) = 1 ↔ (j + 1 = i ∨ i + 1 = j) := ab_one_all j hj i hi
