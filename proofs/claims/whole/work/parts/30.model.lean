/-! the reference in the heap: its object, the harp's rows in one, the chords' rows in one, the table, hour and swelling, what is pushed -/
def mh (h : HS) : Nat → Int32 := fun j => match j % 6 with
  | 0 => zb h (j / 6)
  | 1 => zw h (j / 6)
  | 2 => zd h (j / 6)
  | 3 => zs h (j / 6)
  | 4 => zo h (j / 6)
  | _ => zr h (j / 6)
def mt (lo sz : Nat → Nat) (tn : Nat → Nat → Int32) : Nat → Int32 := fun j => match j % 6 with
  | 0 => nI (lo (j / 6))
  | 1 => nI (sz (j / 6))
  | t + 2 => tn (j / 6) t
def mtF (lo sz : Nat → Nat) (tn : Nat → Nat → Int32) (c w : Nat) : Int32 := match w with
  | 0 => nI (lo c)
  | 1 => nI (sz c)
  | t + 2 => tn c t
def mb (h : HS) : Nat → Int32 := fun j => if j = 0 then nI (zh h) else zl h
abbrev wM (cy : Nat → ClassId) (b : Nat → Nat) (u : US) (th : Int32) (p : Nat → Int32) : va_W := [(b 0, .inr (3, [.int th, .ref (b 1), .int (nI (un u)), .ref (b 2), .ref (b 3), .ref (b 4), .ref (b 5), .ref (b 6)])), (b 1, .inl (cy 0, 72, .inl (mh (uh u)))), (b 2, .inl (cy 0, 36, .inl (mt (ul u) (uz u) (ut u)))), (b 3, .inl (cy 0, 12, .inl (uw u))), (b 4, .inl (cy 0, 12, .inl (ud u))), (b 5, .inl (cy 0, 2, .inl (mb (uh u)))), (b 6, .inl (cy 0, 12, .inl p))]
def haF (h : HS) (k w : Nat) : Int32 := match w with
  | 0 => zb h k
  | 1 => zw h k
  | 2 => zd h k
  | 3 => zs h k
  | 4 => zo h k
  | _ => zr h k
theorem mh_at (h : HS) (k : Nat) {w : Nat} (hw : w < 6) : mh h (6 * k + w) = haF h k w := by
  have e1 : (6 * k + w) % 6 = w := by omega
  have e2 : (6 * k + w) / 6 = k := by omega
  unfold mh
  rw [e1, e2]
  rcases (show w = 0 ∨ w = 1 ∨ w = 2 ∨ w = 3 ∨ w = 4 ∨ w = 5 by omega) with rfl | rfl | rfl | rfl | rfl | rfl <;> rfl
def putH (h : HS) (k w : Nat) (v : Int32) : HS := match w with
  | 0 => (upd (zb h) k v, zw h, zd h, zs h, zr h, zo h, zl h, zh h)
  | 1 => (zb h, upd (zw h) k v, zd h, zs h, zr h, zo h, zl h, zh h)
  | 2 => (zb h, zw h, upd (zd h) k v, zs h, zr h, zo h, zl h, zh h)
  | 3 => (zb h, zw h, zd h, upd (zs h) k v, zr h, zo h, zl h, zh h)
  | 4 => (zb h, zw h, zd h, zs h, zr h, upd (zo h) k v, zl h, zh h)
  | _ => (zb h, zw h, zd h, zs h, upd (zr h) k v, zo h, zl h, zh h)
theorem mh_put (h : HS) (k : Nat) {w : Nat} (hw : w < 6) (v : Int32) : upd (mh h) (6 * k + w) v = mh (putH h k w v) := by
  funext j
  by_cases hj : j = 6 * k + w
  · subst hj
    rw [pk_us, mh_at _ _ hw]
    rcases (show w = 0 ∨ w = 1 ∨ w = 2 ∨ w = 3 ∨ w = 4 ∨ w = 5 by omega) with rfl | rfl | rfl | rfl | rfl | rfl <;> exact pk_us.symm
  · rw [pk_un hj]
    have hr : j = 6 * (j / 6) + j % 6 := by omega
    have h6 : j % 6 < 6 := by omega
    generalize j / 6 = a at hr
    generalize j % 6 = r at hr h6
    subst hr
    rw [mh_at _ _ h6, mh_at _ _ h6]
    rcases (show w = 0 ∨ w = 1 ∨ w = 2 ∨ w = 3 ∨ w = 4 ∨ w = 5 by omega) with rfl | rfl | rfl | rfl | rfl | rfl <;> rcases (show r = 0 ∨ r = 1 ∨ r = 2 ∨ r = 3 ∨ r = 4 ∨ r = 5 by omega) with rfl | rfl | rfl | rfl | rfl | rfl <;> first | rfl | exact (pk_un (show a ≠ k by omega)).symm
theorem mb_put1 (h : HS) (v : Int32) {j : Nat} (hj : j < 2) : upd (mb h) 1 v j = mb (zb h, zw h, zd h, zs h, zr h, zo h, v, zh h) j := by
  rcases (show j = 0 ∨ j = 1 by omega) with rfl | rfl <;> rfl
theorem mb_put0 (h : HS) (n : Nat) {j : Nat} (hj : j < 2) : upd (mb h) 0 (nI n) j = mb (zb h, zw h, zd h, zs h, zr h, zo h, zl h, n) j := by
  rcases (show j = 0 ∨ j = 1 by omega) with rfl | rfl <;> rfl
theorem mt_at (lo sz : Nat → Nat) (tn : Nat → Nat → Int32) (c : Nat) {w : Nat} (hw : w < 6) : mt lo sz tn (6 * c + w) = mtF lo sz tn c w := by
  have e1 : (6 * c + w) % 6 = w := by omega
  have e2 : (6 * c + w) / 6 = c := by omega
  unfold mt mtF
  rw [e1, e2]
theorem mb_put (h : HS) (k : Nat) {w : Nat} (hw : w < 6) (v : Int32) : mb (putH h k w v) = mb h := by
  rcases (show w = 0 ∨ w = 1 ∨ w = 2 ∨ w = 3 ∨ w = 4 ∨ w = 5 by omega) with rfl | rfl | rfl | rfl | rfl | rfl <;> rfl
/-- a wedge as it is pushed; a tone with wedges pushed -/
def wedF (h : HS) (p : Nat → Int32) (x : Int32) : Int32 := if isS x then zw h (ix x) + p (ix x) else 0
def toneP (h : HS) (p : Nat → Int32) (k : Nat) : Int32 := if zo h k = 0 then 0 else zb h k + 10 * wedF h p (nI k) + 3 * (wedF h p (nI k - 1) + wedF h p (nI k + 1)) + zd h k - zl h
def pz : Nat → Int32 := fun _ => 0
theorem isS_nI {k : Nat} (hk : k < 2147483648) : isS (nI k) = decide (k < 12) := by
  unfold isS
  have h1 : ¬ nI k < 0 := nI_pos hk
  by_cases h : k < 12
  · have h2 : nI k < 12 := (nI_ltI (a := k) (b := 12) hk (by decide)).mpr h
    simp [h1, h2, h]
  · have h2 : ¬ nI k < 12 := fun z => h ((nI_ltI (a := k) (b := 12) hk (by decide)).mp z)
    simp [h2, h]
theorem wedF_in {h : HS} {p : Nat → Int32} {k : Nat} (hk : k < 12) : wedF h p (nI k) = zw h k + p k := by
  unfold wedF
  rw [isS_nI (by omega), decide_eq_true hk, ix_nI (by omega)]; rfl
theorem wedF_lo {h : HS} {p : Nat → Int32} {k : Nat} (hk : k < 12) : wedF h p (nI k - 1) = if 0 < k then zw h (k - 1) + p (k - 1) else 0 := by
  by_cases h0 : 0 < k
  · rw [if_pos h0, show nI k - 1 = nI (k - 1) from pk_sub (a := k) (b := 1) (by omega)]
    exact wedF_in (by omega)
  · rw [if_neg h0, show k = 0 by omega]
    rfl
theorem wedF_hi {h : HS} {p : Nat → Int32} {k : Nat} (hk : k < 12) : wedF h p (nI k + 1) = if k < 11 then zw h (k + 1) + p (k + 1) else 0 := by
  rw [nI_1]
  by_cases h0 : k < 11
  · rw [if_pos h0]
    exact wedF_in (by omega)
  · rw [if_neg h0, show k = 11 by omega]
    rfl
theorem toneP_0 {h : HS} {k : Nat} (hk : k < 12) : toneP h pz k = tone h k := by
  unfold toneP tone
  rw [wedF_in hk, wedF_lo hk, wedF_hi hk]
  simp only [pz, Int32.add_zero]
def isIn (v lo hi : Int32) : Bool := decide (¬ v < lo ∧ ¬ hi < v)
theorem i32_lt (k : Int32) : ¬ 11 < k ↔ k < 12 := by
  rw [Int32.lt_iff_toInt_lt, Int32.lt_iff_toInt_lt, show (11 : Int32).toInt = 11 from rfl, show (12 : Int32).toInt = 12 from rfl]
  omega
theorem isIn_S (k : Int32) : isIn k 0 11 = isS k := by
  unfold isIn isS
  rw [decide_eq_decide]
  exact and_congr Iff.rfl (i32_lt k)
theorem isIn_le {v lo hi : Int32} : isIn v lo hi = decide (¬ v < lo ∧ v ≤ hi) := by
  unfold isIn
  rw [decide_eq_decide]
  exact and_congr Iff.rfl Int32.not_lt
/-- the bounds of drift and swelling, which the reference holds anew each hour -/
def bd (h : HS) : Prop := (∀ k, k < 12 → -50 ≤ zd h k ∧ zd h k ≤ 50) ∧ 0 ≤ zl h ∧ zl h ≤ 30
theorem isIn_C {u : US} (hn : un u ≤ 6) (v : Int32) : isIn v 0 (nI (un u) - 1) = isC u v := by
  unfold isIn isC
  rw [decide_eq_decide]
  refine and_congr Iff.rfl ?_
  have key : ∀ n, n < 7 → (nI n - 1).toInt = (n : Int) - 1 ∧ (nI n).toInt = (n : Int) := by decide +kernel
  obtain ⟨h1, h2⟩ := key (un u) (by omega)
  rw [Int32.lt_iff_toInt_lt, Int32.lt_iff_toInt_lt, h1, h2]
  omega
def okP (h : HS) (p : Nat → Int32) (lo : Nat) (tn : Nat → Int32) (j : Nat) : Bool := decide (¬ zo h (lo + j) = 0 ∧ ab (toneP h p (lo + j) - tn j) ≤ 5)
def sndP (h : HS) (p : Nat → Int32) (lo sz : Nat) (tn : Nat → Int32) : Bool := allN (okP h p lo tn) sz
def offP (h : HS) (p : Nat → Int32) (lo : Nat) (tn : Nat → Int32) (n : Nat) : Int32 := sumN (fun j => ab (toneP h p (lo + j) - tn j)) n
theorem sumN_congr {f g : Nat → Int32} {n : Nat} (h : ∀ j, j < n → f j = g j) : sumN f n = sumN g n := by
  induction n with
  | zero => rfl
  | succ n ih =>
    show sumN f n + f n = sumN g n + g n
    rw [ih (fun j hj => h j (by omega)), h n (by omega)]
theorem allN_congr {f g : Nat → Bool} {n : Nat} (h : ∀ j, j < n → f j = g j) : allN f n = allN g n := by
  induction n with
  | zero => rfl
  | succ n ih =>
    show (allN f n && f n) = (allN g n && g n)
    rw [ih (fun j hj => h j (by omega)), h n (by omega)]
theorem cnt_congr {p q : Nat → Bool} {f n : Nat} (h : ∀ j, f ≤ j → j < f + n → p j = q j) : cnt p f n = cnt q f n := by
  induction n with
  | zero => rfl
  | succ n ih =>
    show cnt p f n + (if p (f + n) then 1 else 0) = cnt q f n + (if q (f + n) then 1 else 0)
    rw [ih (fun j h1 h2 => h j h1 (by omega)), h (f + n) (by omega) (by omega)]
theorem offP_0 {h : HS} {lo n : Nat} {tn : Nat → Int32} (hl : lo + n ≤ 12) : offP h pz lo tn n = offBy h lo tn n := sumN_congr (fun j hj => by rw [toneP_0 (by omega)])
theorem okP_0 {h : HS} {lo j : Nat} {tn : Nat → Int32} (hl : lo + j < 12) : okP h pz lo tn j = fits1 h lo tn j 0 0 := by
  unfold okP fits1
  rw [toneP_0 hl, decide_eq_decide, Int32.not_lt]
  simp
theorem sndP_0 {h : HS} {lo n : Nat} {tn : Nat → Int32} (hl : lo + n ≤ 12) : sndP h pz lo n tn = tuned h lo n tn := allN_congr (fun j hj => okP_0 (by omega))
theorem factH_ha {h : HS} {k w : Nat} (hw : w < 5) : haF h k w = factH h k w := by
  rcases (show w = 0 ∨ w = 1 ∨ w = 2 ∨ w = 3 ∨ w = 4 by omega) with rfl | rfl | rfl | rfl | rfl <;> rfl
/-- the reference's push, told by its parts -/
theorem hPush_put (h : HS) (k : Nat) (x : Int32) : putH h k 1 (zw h k + x) = hPush h k x := rfl
theorem hRenew_put (h : HS) (k : Nat) (x : Int32) : putH (putH (putH (putH h k 0 x) k 4 1) k 2 0) k 3 0 = hRenew h k x := rfl
theorem pz_back (k : Nat) (v : Int32) : upd (upd pz k v) k 0 = pz := by
  rw [upd_self]; exact upd_id (f := pz) (k := k)
theorem mov_own (B W D L v : Int32) (X : Int32) : (B + 10 * (W + v) + 3 * X + D - L) - (B + 10 * (W + 0) + 3 * X + D - L) = 10 * v := by grind
theorem mov_lo (B W D L v : Int32) (X Y : Int32) : (B + 10 * W + 3 * ((X + v) + Y) + D - L) - (B + 10 * W + 3 * ((X + 0) + Y) + D - L) = 3 * v := by grind
theorem mov_hi (B W D L v : Int32) (X Y : Int32) : (B + 10 * W + 3 * (X + (Y + v)) + D - L) - (B + 10 * W + 3 * (X + (Y + 0)) + D - L) = 3 * v := by grind
theorem mov_eq {h : HS} {k o : Nat} (hk : k < 12) (ho : o < 12) (v : Int32) : toneP h (upd pz k v) o - toneP h pz o = mov h k o v := by
  have hz0 : ∀ j, pz j = 0 := fun _ => rfl
  unfold toneP mov
  by_cases hz : zo h o = 0
  · simp [hz]
  · rw [if_neg hz, if_neg hz, if_neg hz, wedF_in ho, wedF_lo ho, wedF_hi ho, wedF_in ho, wedF_lo ho, wedF_hi ho]
    by_cases h1 : k = o
    · subst h1
      rw [if_pos rfl, pk_us, hz0 k, hz0 (k - 1), hz0 (k + 1)]
      have e1 : (if 0 < k then zw h (k - 1) + upd pz k v (k - 1) else 0) = (if 0 < k then zw h (k - 1) + 0 else 0) := by
        by_cases h0 : 0 < k
        · rw [if_pos h0, if_pos h0, pk_un (by omega)]; rfl
        · rw [if_neg h0, if_neg h0]
      rw [e1, pk_un (show k + 1 ≠ k by omega), hz0 (k + 1)]
      exact mov_own _ _ _ _ _ _
    · rw [if_neg h1, pk_un (f := pz) (show o ≠ k from fun z => h1 z.symm), hz0 o]
      by_cases h2 : k + 1 = o
      · subst h2
        rw [if_pos (Or.inl rfl), if_pos (show 0 < k + 1 by omega), if_pos (show 0 < k + 1 by omega), Nat.add_sub_cancel, pk_us, hz0 k, pk_un (f := pz) (show k + 1 + 1 ≠ k by omega)]
        exact mov_lo _ _ _ _ _ _ _
      · by_cases h3 : o + 1 = k
        · subst h3
          rw [if_pos (Or.inr rfl), if_pos (show o < 11 by omega), if_pos (show o < 11 by omega), pk_us, hz0 (o + 1), pk_un (f := pz) (show o - 1 ≠ o + 1 by omega)]
          exact mov_hi _ _ _ _ _ _ _
        · rw [if_neg (show ¬ (k + 1 = o ∨ o + 1 = k) by omega), pk_un (f := pz) (show o + 1 ≠ k from h3), pk_un (f := pz) (show o - 1 ≠ k from fun z => by omega)]
          exact Int32.sub_self _
theorem isIn_W (x : Int32) : isIn x (-20) 20 = isW x := isIn_le
theorem isIn_B (x : Int32) : isIn x 100 900 = isB x := isIn_le
theorem isIn_Wi (x : Int32) : isIn x 0 20 = isWi x := isIn_le
theorem isIn_Da (x : Int32) : isIn x 0 9 = isDa x := isIn_le
theorem isIn_T (x lo : Int32) : isIn x lo 1500 = isT x lo := isIn_le
theorem isIn_H (x : Int32) : isIn x 1 200 = isH x := isIn_le
theorem isIn_F (k : Int32) : isIn k 0 6 = isF k := by
  unfold isIn isF
  rw [decide_eq_decide]
  refine and_congr Iff.rfl ?_
  rw [Int32.lt_iff_toInt_lt, Int32.lt_iff_toInt_lt, show (6 : Int32).toInt = 6 from rfl, show (7 : Int32).toInt = 7 from rfl]
  omega
theorem isIn_N8 (k : Int32) : isIn k 0 7 = isN8 k := by
  unfold isIn isN8
  rw [decide_eq_decide]
  refine and_congr Iff.rfl ?_
  rw [Int32.lt_iff_toInt_lt, Int32.lt_iff_toInt_lt, show (7 : Int32).toInt = 7 from rfl, show (8 : Int32).toInt = 8 from rfl]
  omega
/-! bits -/
def sh32 (x n : Int32) : Int32 := (x.toUInt32 >>> (n.toUInt32 &&& Int32.toUInt32 31)).toInt32
def bc1 (v : Int32) : Int32 := v - (sh32 v 1 &&& 1431655765)
def bc2 (v : Int32) : Int32 := (v &&& 858993459) + (sh32 v 2 &&& 858993459)
def bc3 (v : Int32) : Int32 := (v + sh32 v 4) &&& 252645135
def bc4 (v : Int32) : Int32 := v + sh32 v 8
def bc5 (v : Int32) : Int32 := v + sh32 v 16
def bitC (v : Int32) : Int32 := bc5 (bc4 (bc3 (bc2 (bc1 v)))) &&& 63
def nt4 (n x : Int32) : Int32 := if x ≤ 4 then n + sh32 x 1 else (n + 2) + sh32 (sh32 x 2) 1
def nt3 (n x : Int32) : Int32 := if x ≤ 16 then nt4 n x else nt4 (n + 4) (sh32 x 4)
def nt2 (n x : Int32) : Int32 := if x ≤ 256 then nt3 n x else nt3 (n + 8) (sh32 x 8)
def nt1 (n x : Int32) : Int32 := if x ≤ 65536 then nt2 n x else nt2 (n + 16) (sh32 x 16)
def nt0 (v : Int32) : Int32 := (v ^^^ (-1)) &&& (v - 1)
def ntzF (v : Int32) : Int32 := if 0 < nt0 v then nt1 1 (nt0 v) else nt0 v &&& 32
def msk (p : Nat → Bool) : Nat → Int32
  | 0 => 0
  | n + 1 => if p n then msk p n ||| (1 <<< (nI n &&& 31)) else msk p n
def bl (b0 b1 b2 b3 b4 b5 b6 b7 b8 b9 b10 b11 : Bool) : Nat → Bool := fun k => [b0, b1, b2, b3, b4, b5, b6, b7, b8, b9, b10, b11].getD k false
theorem msk_congr {p q : Nat → Bool} {n : Nat} (h : ∀ k, k < n → p k = q k) : msk p n = msk q n := by
  induction n with
  | zero => rfl
  | succ n ih =>
    show (if p n then msk p n ||| _ else msk p n) = (if q n then msk q n ||| _ else msk q n)
    rw [ih (fun k hk => h k (by omega)), h n (by omega)]
theorem lowF_congr {p q : Nat → Bool} {n : Nat} : ∀ {k : Nat}, (∀ j, k ≤ j → j < k + n → p j = q j) → lowF p k n = lowF q k n := by
  induction n with
  | zero => intro k h; rfl
  | succ n ih =>
    intro k h
    show (if p k then nI k else lowF p (k + 1) n) = (if q k then nI k else lowF q (k + 1) n)
    rw [h k (Nat.le_refl _) (by omega), ih (fun j h1 h2 => h j (by omega) (by omega))]
theorem bl_eq (p : Nat → Bool) {k : Nat} (hk : k < 12) : p k = bl (p 0) (p 1) (p 2) (p 3) (p 4) (p 5) (p 6) (p 7) (p 8) (p 9) (p 10) (p 11) k := by
  rcases (show k = 0 ∨ k = 1 ∨ k = 2 ∨ k = 3 ∨ k = 4 ∨ k = 5 ∨ k = 6 ∨ k = 7 ∨ k = 8 ∨ k = 9 ∨ k = 10 ∨ k = 11 by omega) with rfl | rfl | rfl | rfl | rfl | rfl | rfl | rfl | rfl | rfl | rfl | rfl <;> rfl
set_option maxRecDepth 100000 in
theorem msk_all : ∀ b0 b1 b2 b3 b4 b5 b6 b7 b8 b9 b10 b11 : Bool, bitC (msk (bl b0 b1 b2 b3 b4 b5 b6 b7 b8 b9 b10 b11) 12) = nI (cnt (bl b0 b1 b2 b3 b4 b5 b6 b7 b8 b9 b10 b11) 0 12) ∧ (msk (bl b0 b1 b2 b3 b4 b5 b6 b7 b8 b9 b10 b11) 12 = 0 ↔ cnt (bl b0 b1 b2 b3 b4 b5 b6 b7 b8 b9 b10 b11) 0 12 = 0) ∧ (¬ msk (bl b0 b1 b2 b3 b4 b5 b6 b7 b8 b9 b10 b11) 12 = 0 → ntzF (msk (bl b0 b1 b2 b3 b4 b5 b6 b7 b8 b9 b10 b11) 12) = lowF (bl b0 b1 b2 b3 b4 b5 b6 b7 b8 b9 b10 b11) 0 12) := by decide +kernel
theorem msk_is (p : Nat → Bool) : bitC (msk p 12) = nI (cnt p 0 12) ∧ (msk p 12 = 0 ↔ cnt p 0 12 = 0) ∧ (¬ msk p 12 = 0 → ntzF (msk p 12) = lowF p 0 12) := by
  have h := msk_all (p 0) (p 1) (p 2) (p 3) (p 4) (p 5) (p 6) (p 7) (p 8) (p 9) (p 10) (p 11)
  rw [← msk_congr (n := 12) (fun k hk => bl_eq p hk), ← cnt_congr (f := 0) (n := 12) (fun k _ hk => bl_eq p (by omega)), ← lowF_congr (k := 0) (n := 12) (fun k _ hk => bl_eq p (by omega))] at h
  exact h
/-! a chord's row -/
theorem mt_cpy (u : US) (f s : Nat) (t0 t1 t2 t3 : Int32) (k : Nat) : va_cpy (upd (upd (upd (upd (upd (upd (fun _ => 0) 0 (nI f)) 1 (nI s)) 2 t0) 3 t1) 4 t2) 5 t3) (mt (ul u) (uz u) (ut u)) 0 (6 * un u) 6 k = mt (ul (uCh u f s t0 t1 t2 t3)) (uz (uCh u f s t0 t1 t2 t3)) (ut (uCh u f s t0 t1 t2 t3)) k := by
  have hr : k = 6 * (k / 6) + k % 6 := by omega
  have h6 : k % 6 < 6 := by omega
  generalize k / 6 = a at hr
  generalize k % 6 = r at hr h6
  subst hr
  rw [mt_at _ _ _ _ h6]
  unfold va_cpy
  by_cases ha : a = un u
  · subst ha
    rw [if_pos (by omega), show 0 + (6 * un u + r - 6 * un u) = r by omega]
    rcases (show r = 0 ∨ r = 1 ∨ r = 2 ∨ r = 3 ∨ r = 4 ∨ r = 5 by omega) with rfl | rfl | rfl | rfl | rfl | rfl <;> simp [mtF, uCh, ul, uz, ut, un, upd]
  · rw [if_neg (by omega), mt_at _ _ _ _ h6]
    rcases (show r = 0 ∨ r = 1 ∨ r = 2 ∨ r = 3 ∨ r = 4 ∨ r = 5 by omega) with rfl | rfl | rfl | rfl | rfl | rfl <;> simp [mtF, uCh, ul, uz, ut, un, ha]
theorem isT_z {v : Int32} (h : isT v 0 = true) (hv : v ≤ 0) : v = 0 := by
  have h1 := Int32.not_lt.mp (of_decide_eq_true h).1
  exact Int32.le_antisymm hv h1
/-- a chord's numbers in the checksum -/
theorem dg_mt (lo sz : Nat → Nat) (tn : Nat → Nat → Int32) (c : Nat) (d : Int64) (n : Nat) : dgN (mtF lo sz tn c) d (2 + n) = dgN (tn c) ((d * 31 + (nI (lo c)).toInt64) * 31 + (nI (sz c)).toInt64) n := by
  induction n with
  | zero => rfl
  | succ n ih =>
    show dgN (mtF lo sz tn c) d (2 + n) * 31 + (mtF lo sz tn c (2 + n)).toInt64 = _
    rw [ih, Nat.add_comm 2 n]
    rfl
