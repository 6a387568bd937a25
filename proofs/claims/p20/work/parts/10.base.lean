/-! rows of this work: calls that leave the heap, loads and stores by a number, arrays of a known class -/
section PC
variable {p : Program} {l : Launch} {e : Env} {R : Room} {s : State} {m : MethodId} {args : Array Value} {below : List Frame} {meth : Method} {c : Code} {H : Heap} {locs : List Loc} {cells slots : Nat} {Q : State → Prop}
variable {cc : ByteArray} {pc : Nat} {ls : Array Slot} {rest st0 : List Value} {D : va_G} {cl : List vw_C} {A : Nat → Prop} {a : Nat} {tys : List (ClassId × FieldType)} {ws : va_W} {H0 : Heap}
theorem pc_calli {post : Int32 → Prop} {ar : Array Value} (hr : va_Run p l e R s m args below meth c H locs cells slots 0 0 (F0 m pc ls st0) rest (vp_Si post ar) (fun _ => False)) (kk : ∀ r : Int32, post r → W p l e R s m args below meth c H locs cells slots Q (F0 m (pc + 3) ls (.int r :: rest))) : W p l e R s m args below meth c H locs cells slots Q (F0 m pc ls st0) := by
  intro T hT X
  obtain ⟨v, st₀, t, T', L, h0, X', hL, e1, e2, ⟨r, hv, hp, hh⟩, st⟩ := hr T hT X
  cases hv
  have hL0 : L = [] := List.eq_nil_iff_forall_not_mem.mpr (fun q hq => hL q hq)
  subst hL0
  rw [List.append_nil] at X'
  obtain ⟨t2, a1, b1⟩ := kk r hp T' (by rw [e1, hh, h0]) X'
  exact ⟨t2, st t2 a1, b1⟩
theorem pc_calll {post : Int64 → Prop} {ar : Array Value} (hr : va_Run p l e R s m args below meth c H locs cells slots 0 0 (F0 m pc ls st0) rest (vp_Sl post ar) (fun _ => False)) (kk : ∀ r : Int64, post r → W p l e R s m args below meth c H locs cells slots Q (F0 m (pc + 3) ls (.long r :: rest))) : W p l e R s m args below meth c H locs cells slots Q (F0 m pc ls st0) := by
  intro T hT X
  obtain ⟨v, st₀, t, T', L, h0, X', hL, e1, e2, ⟨r, hv, hp, hh⟩, st⟩ := hr T hT X
  cases hv
  have hL0 : L = [] := List.eq_nil_iff_forall_not_mem.mpr (fun q hq => hL q hq)
  subst hL0
  rw [List.append_nil] at X'
  obtain ⟨t2, a1, b1⟩ := kk r hp T' (by rw [e1, hh, h0]) X'
  exact ⟨t2, st t2 a1, b1⟩
theorem pc_top {x y : Int32} (h : x = y) (k : W p l e R s m args below meth c H locs cells slots Q (F0 m pc ls (.int y :: rest))) : W p l e R s m args below meth c H locs cells slots Q (F0 m pc ls (.int x :: rest)) := by rw [h]; exact k
theorem pc_topl {x y : Int64} (h : x = y) (k : W p l e R s m args below meth c H locs cells slots Q (F0 m pc ls (.long y :: rest))) : W p l e R s m args below meth c H locs cells slots Q (F0 m pc ls (.long x :: rest)) := by rw [h]; exact k
theorem pc_iald (hexec : p.tables.exec = Jvm.exec) (hb : c.code = cc) (hK : va_K D cl tys s) (hP : va_P D cl ws H) (q0 t0 : Nat) {cA : ClassId} {n k : Nat} {f : Nat → Int32} (ha : ws[q0]? = some (a, .inl (cA, n, .inl f))) (ht : tys[t0]? = some (cA, .int)) (hk : k < n) (hn : n < 2 ^ 31) (hdg : decode cc pc = .ok (.iaload, 1))
    (kk : W p l e R s m args below meth c H locs cells slots Q (F0 m (pc + 1) ls (.int (f k) :: rest))) : W p l e R s m args below meth c H locs cells slots Q (F0 m pc ls (.int (nI k) :: .ref a :: rest)) :=
  va_iald hexec hb hK hP q0 t0 ha ht (vp_in_nI hk hn) hdg (by rw [nI_clamp (Nat.lt_trans hk hn)]; exact kk)
theorem pc_zald (hexec : p.tables.exec = Jvm.exec) (hb : c.code = cc) (hK : va_K D cl tys s) (hP : va_P D cl ws H) (q0 t0 : Nat) {cA : ClassId} {n k : Nat} {f : Nat → Int32} (ha : ws[q0]? = some (a, .inl (cA, n, .inl f))) (ht : tys[t0]? = some (cA, .boolean)) (hk : k < n) (hn : n < 2 ^ 31) (hdg : decode cc pc = .ok (.baload, 1))
    (kk : W p l e R s m args below meth c H locs cells slots Q (F0 m (pc + 1) ls (.int (f k) :: rest))) : W p l e R s m args below meth c H locs cells slots Q (F0 m pc ls (.int (nI k) :: .ref a :: rest)) :=
  va_zald hexec hb hK hP q0 t0 ha ht (vp_in_nI hk hn) hdg (by rw [nI_clamp (Nat.lt_trans hk hn)]; exact kk)
theorem pc_aldq (hexec : p.tables.exec = Jvm.exec) (hb : c.code = cc) (hK : va_K D cl tys s) (hP : va_P D cl ws H) (q0 t0 : Nat) {cA : ClassId} {C : String} {n k v : Nat} {f : Nat → Option Nat} (ha : ws[q0]? = some (a, .inl (cA, n, .inr (.inr (.inr (.inr f)))))) (ht : tys[t0]? = some (cA, .object C)) (hk : k < n) (hn : n < 2 ^ 31) (hv : f k = some v) (hdg : decode cc pc = .ok (.aaload, 1))
    (kk : W p l e R s m args below meth c H locs cells slots Q (F0 m (pc + 1) ls (.ref v :: rest))) : W p l e R s m args below meth c H locs cells slots Q (F0 m pc ls (.int (nI k) :: .ref a :: rest)) :=
  va_aldq hexec hb hK hP q0 t0 ha ht (vp_in_nI hk hn) hdg (by rw [nI_clamp (Nat.lt_trans hk hn), hv]; exact kk)
theorem pc_iast (hexec : p.tables.exec = Jvm.exec) (hb : c.code = cc) (hK : va_K D cl tys s) (hP : va_P D cl ws H) (hD : va_D A ws) (hS : va_S A H0 H locs) (q0 t0 : Nat) {cA : ClassId} {n k : Nat} {f : Nat → Int32} (ha : ws[q0]? = some (a, .inl (cA, n, .inl f))) (ht : tys[t0]? = some (cA, .int)) {x : Int32} (hk : k < n) (hn : n < 2 ^ 31) (hdg : decode cc pc = .ok (.iastore, 1))
    (kk : ∀ (H1 : Heap) (locs1 : List Loc), va_P D cl (ws.set q0 (a, .inl (cA, n, .inl (upd f k x)))) H1 → va_D A (ws.set q0 (a, .inl (cA, n, .inl (upd f k x)))) → va_S A H0 H1 locs1 → W p l e R s m args below meth c H1 locs1 cells slots Q (F0 m (pc + 1) ls rest)) : W p l e R s m args below meth c H locs cells slots Q (F0 m pc ls (.int x :: .int (nI k) :: .ref a :: rest)) :=
  va_iast hexec hb hK hP hD hS q0 t0 ha ht (vp_in_nI hk hn) hdg (by rw [nI_clamp (Nat.lt_trans hk hn)]; exact kk)
theorem pc_zast (hexec : p.tables.exec = Jvm.exec) (hb : c.code = cc) (hK : va_K D cl tys s) (hP : va_P D cl ws H) (hD : va_D A ws) (hS : va_S A H0 H locs) (q0 t0 : Nat) {cA : ClassId} {n k : Nat} {f : Nat → Int32} (ha : ws[q0]? = some (a, .inl (cA, n, .inl f))) (ht : tys[t0]? = some (cA, .boolean)) {x : Int32} (hx : vp_nar .boolean x = x) (hk : k < n) (hn : n < 2 ^ 31) (hdg : decode cc pc = .ok (.bastore, 1))
    (kk : ∀ (H1 : Heap) (locs1 : List Loc), va_P D cl (ws.set q0 (a, .inl (cA, n, .inl (upd f k x)))) H1 → va_D A (ws.set q0 (a, .inl (cA, n, .inl (upd f k x)))) → va_S A H0 H1 locs1 → W p l e R s m args below meth c H1 locs1 cells slots Q (F0 m (pc + 1) ls rest)) : W p l e R s m args below meth c H locs cells slots Q (F0 m pc ls (.int x :: .int (nI k) :: .ref a :: rest)) :=
  va_zast hexec hb hK hP hD hS q0 t0 ha ht (vp_in_nI hk hn) hdg (by rw [nI_clamp (Nat.lt_trans hk hn), hx]; exact kk)
/-- a new array of a kind that the tables have already: its class is theirs -/
theorem pc_newa (hexec : p.tables.exec = Jvm.exec) (hb : c.code = cc) {atype : ArrayType} (harr : (Cond.arrayClass (newarray.typeOf atype)).before args s = true) {ty : FieldType} (hty : newarray.typeOf atype = ty) (hK : va_K D cl tys s) (hP : va_P D cl ws H) (hD : va_D A ws) (hS : va_S A H0 H locs) (hA : ∀ q, H0.size ≤ q → A q) (t0 : Nat) {c0 : ClassId} (ht : tys[t0]? = some (c0, ty))
    {n : Int32} {N' : Nat} {a0 : vp_A} (ha : ∀ cA : ClassId, vp_cell cA a0 = arrV cA N' (fun _ => defaultValue ty)) (hn : ¬ n < 0) (hN : n.toNatClampNeg = N') (hbytes : N' * componentBytes ty ≤ 536870912) (hcells : cells + 1 ≤ R.cells) (hslots : slots + N' ≤ R.slots) (hdg : decode cc pc = .ok (.newarray atype, 2))
    (kk : ∀ (q : Nat) (H1 : Heap), va_P D cl (ws ++ [(q, .inl (c0, a0))]) H1 → va_D A (ws ++ [(q, .inl (c0, a0))]) → va_S A H0 H1 locs →
      W p l e R s m args below meth c H1 locs (cells + 1) (slots + N') Q (F0 m (pc + 2) ls (.ref q :: rest))) : W p l e R s m args below meth c H locs cells slots Q (F0 m pc ls (.int n :: rest)) := by
  refine va_newa hexec hb harr hty hK hP hD hS hA ha hn hN hbytes hcells hslots hdg (fun q cA H1 hK1 hP1 hD1 hS1 => ?_)
  have h1 : va_RA s cA ty := (hK1.2 tys.length (cA, ty) (by rw [List.getElem?_append_right (Nat.le_refl _), Nat.sub_self]; rfl)).2
  have h2 : va_RA s c0 ty := (hK.2 t0 _ ht).2
  have he : cA = c0 := by
    cases atype <;> (subst hty; exact Option.some.inj (h1.symm.trans h2))
  subst he
  exact kk q H1 hP1 hD1 hS1
end PC
theorem pc_keep {D : va_G} {cl : List vw_C} {ws : va_W} {H H1 : Heap} (h : va_P D cl ws H) (hk : ∀ q : Nat, q < H.size → ¬ False → H1[q]? = H[q]?) : va_P D cl ws H1 := h.kept (fun k q hq => hk q.1 (h k q hq).lt id)
theorem cell_congr {cA : ClassId} {n : Nat} {f g : Nat → Int32} (h : ∀ j, j < n → f j = g j) : vp_cell cA (n, .inl f) = vp_cell cA (n, .inl g) := by
  rw [vp_cell_i, vp_cell_i]
  unfold arrV
  congr 1
  exact congrArg Array.ofFn (funext fun j => congrArg Value.int (h j.val j.isLt))
theorem va_D_addr {A : Nat → Prop} {ws ws' : va_W} (h : va_D A ws) (e : ws.map (fun x => x.1) = ws'.map (fun x => x.1)) : va_D A ws' := by
  have key : ∀ (k : Nat) (q : Nat × va_E), ws'[k]? = some q → ∃ p, ws[k]? = some p ∧ p.1 = q.1 := by
    intro k q hk
    have h1 : (ws.map (fun x => x.1))[k]? = some q.1 := by rw [e, List.getElem?_map, hk]; rfl
    rw [List.getElem?_map] at h1
    cases hw : ws[k]? with
    | none => rw [hw] at h1; cases h1
    | some p => rw [hw] at h1; exact ⟨p, rfl, Option.some.inj h1⟩
  refine ⟨fun i j x y hi hj hxy => ?_, fun k q hk => ?_⟩
  · obtain ⟨x0, h1, h2⟩ := key i x hi
    obtain ⟨y0, h3, h4⟩ := key j y hj
    exact h.1 i j x0 y0 h1 h3 (h2.trans (hxy.trans h4.symm))
  · obtain ⟨q0, h1, h2⟩ := key k q hk
    rw [← h2]
    exact h.2 k q0 h1
/-- one int row of a world said by another function that agrees within -/
theorem va_P_row {D : va_G} {cl : List vw_C} {ws : va_W} {H : Heap} (h : va_P D cl ws H) (p : Nat) {a n : Nat} {cA : ClassId} {f g : Nat → Int32} (hp : ws[p]? = some (a, .inl (cA, n, .inl f))) (e : ∀ j, j < n → f j = g j) : va_P D cl (ws.set p (a, .inl (cA, n, .inl g))) H := by
  have hl := (List.getElem?_eq_some_iff.mp hp).1
  intro k q hk
  by_cases hkp : k = p
  · subst hkp
    rw [List.getElem?_set_self hl] at hk
    cases hk
    show H[a]? = some (vp_cell cA (n, .inl g))
    rw [← cell_congr e]
    exact h _ _ hp
  · rw [List.getElem?_set_ne (Ne.symm hkp)] at hk
    exact h k q hk
theorem upd_id {f : Nat → Int32} {k : Nat} : upd f k (f k) = f := by
  funext j
  by_cases h : j = k
  · subst h; exact pk_us
  · exact pk_un h
theorem nx_xor (a b : Nat) : nI a ^^^ nI b = nI (a ^^^ b) := by
  apply Int32.toBitVec_inj.1
  show BitVec.ofNat 32 a ^^^ BitVec.ofNat 32 b = BitVec.ofNat 32 (a ^^^ b)
  apply BitVec.eq_of_getLsbD_eq
  intro i hi
  simp [BitVec.getLsbD_ofNat, hi]
theorem nI_xor12 {a : Nat} (h : a < 2147483648) : ¬ ¬ (0 ≤ nI a ^^^ 12) := by
  have e : nI a ^^^ 12 = nI (a ^^^ 12) := nx_xor a 12
  rw [e]
  have h2 : a ^^^ 12 < 2 ^ 31 := Nat.xor_lt_two_pow h (by decide)
  exact fun z => z (nI_pos' h2)
theorem nI_le_iff {a b : Nat} (ha : a < 2147483648) (hb : b < 2147483648) : nI a ≤ nI b ↔ a ≤ b := nI_leI ha hb
theorem nI_lt_iff {a b : Nat} (ha : a < 2147483648) (hb : b < 2147483648) : nI a < nI b ↔ a < b := nI_ltI ha hb
/-! the numbers: a harp is (base, wedge, drift, strain, breaks, whole, swelling, hour) -/
abbrev HS : Type := (Nat → Int32) × (Nat → Int32) × (Nat → Int32) × (Nat → Int32) × (Nat → Int32) × (Nat → Int32) × Int32 × Nat
abbrev zb (h : HS) : Nat → Int32 := h.1
abbrev zw (h : HS) : Nat → Int32 := h.2.1
abbrev zd (h : HS) : Nat → Int32 := h.2.2.1
abbrev zs (h : HS) : Nat → Int32 := h.2.2.2.1
abbrev zr (h : HS) : Nat → Int32 := h.2.2.2.2.1
abbrev zo (h : HS) : Nat → Int32 := h.2.2.2.2.2.1
abbrev zl (h : HS) : Int32 := h.2.2.2.2.2.2.1
abbrev zh (h : HS) : Nat := h.2.2.2.2.2.2.2
/-- the array classes that every world knows: int, boolean, Chord -/
abbrev TY (cy : Nat → ClassId) : List (ClassId × FieldType) := [(cy 0, .int), (cy 1, .boolean), (cy 2, .object RX0)]
/-- a Harp in the heap: the object, its six rows -/
abbrev wH (cy : Nat → ClassId) (q : Nat → Nat) (h : HS) : va_W := [(q 0, .inr (1, [.ref (q 1), .ref (q 2), .ref (q 3), .ref (q 4), .ref (q 5), .ref (q 6), .int (zl h), .int (nI (zh h))])), (q 1, .inl (cy 0, 12, .inl (zb h))), (q 2, .inl (cy 0, 12, .inl (zw h))), (q 3, .inl (cy 0, 12, .inl (zd h))), (q 4, .inl (cy 0, 12, .inl (zs h))), (q 5, .inl (cy 0, 12, .inl (zr h))), (q 6, .inl (cy 1, 12, .inl (zo h)))]
/-- a Chord in the heap: the object and its row -/
abbrev wC (cy : Nat → ClassId) (ca ta : Nat) (lo sz : Nat) (tn : Nat → Int32) : va_W := [(ca, .inr (0, [.ref ta, .int (nI lo), .int (nI sz)])), (ta, .inl (cy 0, 4, .inl tn))]
def mx (x y : Int32) : Int32 := if x < y then y else x
def mn (x y : Int32) : Int32 := if y < x then y else x
def ab (x : Int32) : Int32 := if 0 ≤ x then x else 0 - x
def bI (b : Bool) : Int32 := if b then 1 else 0
theorem bI_nar (b : Bool) : narrow .boolean (.int (bI b)) = .int (bI b) := by cases b <;> rfl
theorem bI_0 {b : Bool} : bI b = 0 ↔ b = false := by cases b <;> simp [bI]
theorem bI_1 {b : Bool} : ¬ bI b = 0 ↔ b = true := by cases b <;> simp [bI]
/-- the tone of a string -/
def tone (h : HS) (k : Nat) : Int32 := if zo h k = 0 then 0 else zb h k + 10 * zw h k + 3 * ((if 0 < k then zw h (k - 1) else 0) + (if k < 11 then zw h (k + 1) else 0)) + zd h k - zl h
def sumN (f : Nat → Int32) : Nat → Int32
  | 0 => 0
  | n + 1 => sumN f n + f n
def allN (f : Nat → Bool) : Nat → Bool
  | 0 => true
  | n + 1 => allN f n && f n
theorem allN_f {f : Nat → Bool} {j n : Nat} (hj : j < n) (h : f j = false) : allN f n = false := by
  induction n with
  | zero => omega
  | succ n ih =>
    rcases Nat.lt_succ_iff_lt_or_eq.mp hj with h1 | h1
    · simp [allN, ih h1]
    · subst h1; simp [allN, h]
/-- how many of f, f + 1 .. (n of them) are so -/
def cnt (p : Nat → Bool) (f : Nat) : Nat → Nat
  | 0 => 0
  | n + 1 => cnt p f n + (if p (f + n) then 1 else 0)
theorem cnt_le (p : Nat → Bool) (f n : Nat) : cnt p f n ≤ n := by
  induction n with
  | zero => exact Nat.le_refl _
  | succ n ih => unfold cnt; split <;> omega
/-- off: the differences from a chord's tones -/
def offBy (h : HS) (lo : Nat) (tn : Nat → Int32) (n : Nat) : Int32 := sumN (fun j => ab (tone h (lo + j) - tn j)) n
def fits1 (h : HS) (lo : Nat) (tn : Nat → Int32) (j : Nat) (own nb : Int32) : Bool := decide (¬ zo h (lo + j) = 0 ∧ ¬ 5 < ab (tone h (lo + j) + 10 * own + 3 * nb - tn j))
def tuned (h : HS) (lo sz : Nat) (tn : Nat → Int32) : Bool := allN (fun j => fits1 h lo tn j 0 0) sz
def fitsW (x : Int32) : Bool := decide (¬ x < 0 ∧ ¬ 20 < x)
def factH (h : HS) (k : Nat) (w : Nat) : Int32 := match w with
  | 0 => zb h k
  | 1 => zw h k
  | 2 => zd h k
  | 3 => zs h k
  | 4 => zo h k
  | 5 => tone h k
  | _ => zr h k
/-- an hour -/
def pull (wi : Int32) (h : HS) (k : Nat) : Int32 := mx 0 (zs h k + wi * tone h k / 1000 - 2)
def slipd (da s d : Int32) : Int32 := if s < 50 then (if da < 6 then d else mn 50 (d + 1)) else mx (-50) (d - 1)
def swell (da l : Int32) : Int32 := if da < 5 then mx 0 (l - 1) else mn 30 (l + 1)
def brk (wi : Int32) (h : HS) (k : Nat) : Bool := decide (¬ zo h k = 0 ∧ 100 < pull wi h k)
def nS (wi : Int32) (h : HS) (k : Nat) : Int32 := if zo h k = 0 then zs h k else if 100 < pull wi h k then 0 else pull wi h k
def nD (wi da : Int32) (h : HS) (k : Nat) : Int32 := if zo h k = 0 then zd h k else if 100 < pull wi h k then 0 else slipd da (pull wi h k) (zd h k)
def nR (wi : Int32) (h : HS) (k : Nat) : Int32 := if zo h k = 0 then zr h k else if 100 < pull wi h k then zr h k + 1 else zr h k
def nO (wi : Int32) (h : HS) (k : Nat) : Int32 := if zo h k = 0 then zo h k else if 100 < pull wi h k then 0 else zo h k
def part (f u : Nat) (g n : Nat → Int32) : Nat → Int32 := fun k => if f ≤ k ∧ k < u then n k else g k
/-- the strings from f up to u (left out) behind an hour of this weather, the frame as it was -/
def hPart (f u : Nat) (wi da : Int32) (h : HS) : HS := (zb h, zw h, part f u (zd h) (nD wi da h), part f u (zs h) (nS wi h), part f u (zr h) (nR wi h), part f u (zo h) (nO wi h), zl h, zh h)
def hHour (f u : Nat) (wi da : Int32) (h : HS) : HS := (zb h, zw h, part f u (zd h) (nD wi da h), part f u (zs h) (nS wi h), part f u (zr h) (nR wi h), part f u (zo h) (nO wi h), swell da (zl h), zh h + 1)
def hBrk (wi : Int32) (h : HS) (k : Nat) : HS := if 100 < pull wi h k then (zb h, zw h, upd (zd h) k 0, upd (zs h) k 0, upd (zr h) k (zr h k + 1), upd (zo h) k 0, zl h, zh h) else (zb h, zw h, zd h, upd (zs h) k (pull wi h k), zr h, zo h, zl h, zh h)
def hSlip (da : Int32) (h : HS) (k : Nat) : HS := (zb h, zw h, upd (zd h) k (slipd da (zs h k) (zd h k)), zs h, zr h, zo h, zl h, zh h)
def hSwell (da : Int32) (h : HS) : HS := (zb h, zw h, zd h, zs h, zr h, zo h, swell da (zl h), zh h)
def hTick (h : HS) : HS := (zb h, zw h, zd h, zs h, zr h, zo h, zl h, zh h + 1)
def hRenew (h : HS) (k : Nat) (b : Int32) : HS := (upd (zb h) k b, zw h, upd (zd h) k 0, upd (zs h) k 0, zr h, upd (zo h) k 1, zl h, zh h)
/-- which strings are whole, as the machine keeps it -/
def ok01 (h : HS) : Prop := ∀ k, k < 12 → zo h k = 0 ∨ zo h k = 1
theorem part_0 (f : Nat) (g n : Nat → Int32) : part f f g n = g := by
  funext k; unfold part; rw [if_neg (by omega)]
theorem part_new {f i : Nat} {g n : Nat → Int32} (hf : f ≤ i) : upd (part f i g n) i (n i) = part f (i + 1) g n := by
  funext k
  unfold part
  by_cases hk : k = i
  · subst hk; rw [pk_us, if_pos (by omega)]
  · rw [pk_un hk]
    by_cases h1 : f ≤ k ∧ k < i
    · rw [if_pos h1, if_pos (by omega)]
    · rw [if_neg h1, if_neg (by omega)]
theorem part_old {f i : Nat} {g n : Nat → Int32} (hf : f ≤ i) (hn : n i = g i) : part f i g n = part f (i + 1) g n := by
  funext k
  unfold part
  by_cases hk : k = i
  · subst hk; rw [if_neg (by omega), if_pos (by omega), hn]
  · by_cases h1 : f ≤ k ∧ k < i
    · rw [if_pos h1, if_pos (by omega)]
    · rw [if_neg h1, if_neg (by omega)]
theorem part_at {f i : Nat} {g n : Nat → Int32} : part f i g n i = g i := by unfold part; rw [if_neg (by omega)]
theorem upd_self {f : Nat → Int32} {k : Nat} {x y : Int32} : upd (upd f k x) k y = upd f k y := by
  funext j
  by_cases h : j = k
  · subst h; rw [pk_us, pk_us]
  · rw [pk_un h, pk_un h, pk_un h]
theorem tone_part {f i : Nat} {wi da : Int32} {h : HS} : tone (hPart f i wi da h) i = tone h i := by
  simp only [tone, hPart, zb, zw, zd, zs, zr, zo, zl, zh, part_at]
theorem pull_part {f i : Nat} {wi da : Int32} {h : HS} : pull wi (hPart f i wi da h) i = pull wi h i := by
  simp only [pull, tone_part]; simp only [hPart, zs, part_at]
theorem hPart_0 (f : Nat) (wi da : Int32) (h : HS) : hPart f f wi da h = h := by simp only [hPart, part_0]
theorem part_is {f i : Nat} {g n : Nat → Int32} {x : Int32} (hf : f ≤ i) (hx : n i = x) : upd (part f i g n) i x = part f (i + 1) g n := by
  rw [← hx]; exact part_new hf
theorem nar01 {x : Int32} (h : x = 0 ∨ x = 1) : vp_nar .boolean x = x := by rcases h with rfl | rfl <;> rfl
def hCp (k : Nat) (h h2 : HS) : HS := (part 0 k (zb h) (zb h2), part 0 k (zw h) (zw h2), part 0 k (zd h) (zd h2), part 0 k (zs h) (zs h2), part 0 k (zr h) (zr h2), part 0 k (zo h) (zo h2), zl h, zh h)
theorem hCp_0 (h h2 : HS) : hCp 0 h h2 = h := by simp only [hCp, part_0]
theorem hBrk_o {wi : Int32} {h : HS} {k : Nat} (hb : ¬ 100 < pull wi h k) : zo (hBrk wi h k) = zo h := by unfold hBrk; rw [if_neg hb]
/-- a broken string: nothing of it changes -/
theorem hPart_skip {f i : Nat} {wi da : Int32} {h : HS} (hf : f ≤ i) (ho : zo h i = 0) : hPart f i wi da h = hPart f (i + 1) wi da h := by
  unfold hPart
  rw [part_old (g := zd h) hf (by simp [nD, ho]), part_old (g := zs h) hf (by simp [nS, ho]), part_old (g := zr h) hf (by simp [nR, ho]), part_old (g := zo h) hf (by simp [nO, ho])]
/-- one that breaks -/
theorem hPart_brk {f i : Nat} {wi da : Int32} {h : HS} (hf : f ≤ i) (ho : ¬ zo h i = 0) (hb : 100 < pull wi h i) : hBrk wi (hPart f i wi da h) i = hPart f (i + 1) wi da h := by
  unfold hBrk
  rw [pull_part, if_pos hb]
  show (zb h, zw h, upd (part f i (zd h) (nD wi da h)) i 0, upd (part f i (zs h) (nS wi h)) i 0, upd (part f i (zr h) (nR wi h)) i (part f i (zr h) (nR wi h) i + 1), upd (part f i (zo h) (nO wi h)) i 0, zl h, zh h) = hPart f (i + 1) wi da h
  rw [part_at, part_is hf (n := nD wi da h) (by simp [nD, ho, hb]), part_is hf (n := nS wi h) (by simp [nS, ho, hb]), part_is hf (n := nR wi h) (by simp [nR, ho, hb]), part_is hf (n := nO wi h) (by simp [nO, ho, hb])]
  rfl
/-- one that holds -/
theorem hPart_slip {f i : Nat} {wi da : Int32} {h : HS} (hf : f ≤ i) (ho : ¬ zo h i = 0) (hb : ¬ 100 < pull wi h i) : hSlip da (hBrk wi (hPart f i wi da h) i) i = hPart f (i + 1) wi da h := by
  unfold hBrk
  rw [pull_part, if_neg hb]
  show (zb h, zw h, upd (part f i (zd h) (nD wi da h)) i (slipd da (upd (part f i (zs h) (nS wi h)) i (pull wi h i) i) (part f i (zd h) (nD wi da h) i)), upd (part f i (zs h) (nS wi h)) i (pull wi h i), part f i (zr h) (nR wi h), part f i (zo h) (nO wi h), zl h, zh h) = hPart f (i + 1) wi da h
  rw [part_at, pk_us, part_is hf (n := nD wi da h) (by simp [nD, ho, hb]), part_is hf (n := nS wi h) (by simp [nS, ho, hb]), part_old (g := zr h) hf (by simp [nR, ho, hb]), part_old (g := zo h) hf (by simp [nO, ho, hb])]
  rfl
theorem hHour_eq (f u : Nat) (wi da : Int32) (h : HS) : hTick (hSwell da (hPart f u wi da h)) = hHour f u wi da h := rfl
