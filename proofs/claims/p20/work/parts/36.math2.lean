/-! what the comparison at the end needs -/
theorem dv_val {a : Int32} {c : Nat} (h1 : 1 ≤ c) (h12 : c ≤ 12) : Jvm.FP.Core.val64 (FP.ddiv (FP.i2d a) (FP.i2d (nI c))) ≠ .nan := by
  show Jvm.FP.Core.val64 (Jvm.FP.Core.ddiv (FP.i2d a) (FP.i2d (nI c))) ≠ .nan
  rw [Jvm.FP.Core.val64_ddiv]
  have hc := dn_cnt_all c (by omega) h1
  have ha := dn_int a
  generalize Jvm.FP.Core.val64 (FP.i2d (nI c)) = y at hc
  generalize Jvm.FP.Core.val64 (FP.i2d a) = x at ha
  cases y with
  | nan => cases hc
  | inf s => cases hc
  | fin t d r =>
    have hd : d ≠ 0 := of_decide_eq_true hc
    cases x with
    | nan => exact absurd rfl ha
    | inf s => intro h; cases h
    | fin s c2 q =>
      show (if d = 0 then (if c2 = 0 then _ else _) else Jvm.FP.Core.roundRatio _ _ _ _ _) ≠ _
      rw [if_neg hd]
      exact dn_rr _ _ _ _ _
theorem mean_same {h : HS} (ho : ok01 h) (hz : ¬ sumN (zo h) 12 = 0) (op : CmpOp) : Op.cmpValue (FP.dcmp (meanH h) (FP.ddiv (FP.i2d (sumN (tone h) 12)) (FP.i2d (sumN (zo h) 12)))) op = 0 := by
  have e : meanH h = FP.ddiv (FP.i2d (sumN (tone h) 12)) (FP.i2d (sumN (zo h) 12)) := by unfold meanH; rw [if_neg hz]
  rw [e]
  have hn : Jvm.FP.Core.val64 (FP.ddiv (FP.i2d (sumN (tone h) 12)) (FP.i2d (sumN (zo h) 12))) ≠ .nan := by
    obtain ⟨c, hc, he⟩ := sum01 (n := 12) ho
    rw [he] at hz ⊢
    refine dv_val ?_ hc
    rcases Nat.eq_zero_or_pos c with z | z
    · subst z; exact absurd nI_0 hz
    · exact z
  rw [show FP.dcmp (FP.ddiv (FP.i2d (sumN (tone h) 12)) (FP.i2d (sumN (zo h) 12))) (FP.ddiv (FP.i2d (sumN (tone h) 12)) (FP.i2d (sumN (zo h) 12))) = some .eq from Jvm.FP.Core.dcmp_self hn]
  rfl
theorem mean_none {h : HS} (hz : sumN (zo h) 12 = 0) (op : CmpOp) : Op.cmpValue (FP.dcmp (meanH h) FP.dconst0) op = 0 := by
  unfold meanH
  rw [if_pos hz]
  cases op <;> decide +kernel
theorem exStr_0 {k w : Nat} (hk : k < 12) (hw : w < 7) : exStr (nI k) (nI w) = 0 := by
  have h1 : isS (nI k) = true := decide_eq_true ⟨Int32.not_lt.mpr (nI_pos' (by omega)), (nI_ltI (a := k) (b := 12) (by omega) (by decide)).mpr hk⟩
  have h2 : isF (nI w) = true := decide_eq_true ⟨Int32.not_lt.mpr (nI_pos' (by omega)), (nI_ltI (a := w) (b := 7) (by omega) (by decide)).mpr hw⟩
  unfold exStr
  rw [h1, h2]
  rfl
theorem exC_0 {u : US} {c : Nat} (h6 : un u ≤ 6) (hc : c < un u) : exC u (nI c) = 0 := by
  have h1 : isC u (nI c) = true := decide_eq_true ⟨Int32.not_lt.mpr (nI_pos' (by omega)), (nI_ltI (a := c) (b := un u) (by omega) (by omega)).mpr hc⟩
  unfold exC
  rw [h1]
  rfl
theorem exCnt_0 {w : Nat} (hw : w < 8) : exCnt (nI w) = 0 := by
  have h1 : isN8 (nI w) = true := decide_eq_true ⟨Int32.not_lt.mpr (nI_pos' (by omega)), (nI_ltI (a := w) (b := 8) (by omega) (by decide)).mpr hw⟩
  unfold exCnt
  rw [h1]
  rfl
theorem fact_row {h : HS} {k w : Nat} (hk : k < 12) (hw : w < 5) : factH h (ix (nI k)) (ix (nI w)) = rowS h k w := by
  rw [ix_nI (by omega), ix_nI (by omega)]
  rcases (show w = 0 ∨ w = 1 ∨ w = 2 ∨ w = 3 ∨ w = 4 by omega) with rfl | rfl | rfl | rfl | rfl <;> rfl
theorem fact_row6 {h : HS} {k w : Nat} (hk : k < 12) (hw : w = 5) : factH h (ix (nI k)) (ix 6) = rowS h k w := by
  subst hw
  rw [ix_nI (by omega), show ix 6 = 6 from ix_nI (by decide)]
  rfl
theorem fact_nI {h : HS} {k w : Nat} (hk : k < 12) (hw : w < 7) : factH h (ix (nI k)) (ix (nI w)) = factH h k w := by rw [ix_nI (by omega), ix_nI (by omega)]
def smG (h : HS) (k w : Nat) : Nat → Int32 := fun j => if j < w then sumN (fun i => rowS h i j) (k + 1) else sumN (fun i => rowS h i j) k
theorem smG_0 (h : HS) : (fun _ => (0 : Int32)) = smG h 0 0 := by
  funext j
  unfold smG
  rw [if_neg (by omega)]
  rfl
theorem rowS_6 (h : HS) (k : Nat) {j : Nat} (hj : 6 ≤ j) : rowS h k j = 0 := by
  obtain ⟨z, rfl⟩ : ∃ z, j = z + 6 := ⟨j - 6, by omega⟩
  rfl
theorem smG_6 (h : HS) (k : Nat) : smG h k 6 = smG h (k + 1) 0 := by
  funext j
  unfold smG
  rw [if_neg (show ¬ j < 0 by omega)]
  by_cases hj : j < 6
  · rw [if_pos hj]
  · rw [if_neg hj]
    show _ = sumN (fun i => rowS h i j) k + rowS h k j
    rw [rowS_6 h k (by omega)]
    grind
theorem smG_s (h : HS) (k w : Nat) : upd (smG h k w) w (smG h k w w + rowS h k w) = smG h k (w + 1) := by
  funext j
  unfold upd
  by_cases hj : j = w
  · subst hj
    rw [if_pos rfl]
    unfold smG
    rw [if_neg (by omega), if_pos (by omega)]
    rfl
  · rw [if_neg hj]
    unfold smG
    by_cases h1 : j < w
    · rw [if_pos h1, if_pos (by omega)]
    · rw [if_neg h1, if_neg (by omega)]
def cnF (u : US) : Nat → Int32 := fun j => if j < 8 then cntOf u j else 0
theorem cnF_all (u : US) : upd (upd (upd (upd (upd (upd (upd (upd (fun _ => 0) 0 (nI (zh (uh u)))) 1 (sumN (zo (uh u)) 12)) 2 (nI (un u))) 3 (nI (cnt (snd u) 0 (un u)))) 4 (zl (uh u))) 5 (sumN (zw (uh u)) 12)) 6 (sumN (zs (uh u)) 12)) 7 (sumN (zr (uh u)) 12) = cnF u := by
  funext j
  rcases (show j = 0 ∨ j = 1 ∨ j = 2 ∨ j = 3 ∨ j = 4 ∨ j = 5 ∨ j = 6 ∨ j = 7 ∨ 8 ≤ j by omega) with rfl | rfl | rfl | rfl | rfl | rfl | rfl | rfl | h
  · rfl
  · rfl
  · rfl
  · rfl
  · rfl
  · rfl
  · rfl
  · rfl
  · unfold cnF upd
    rw [if_neg (by omega), if_neg (by omega), if_neg (by omega), if_neg (by omega), if_neg (by omega), if_neg (by omega), if_neg (by omega), if_neg (by omega), if_neg (by omega)]
theorem cnF_at {u : US} {j : Nat} (hj : j < 8) : cnF u j = cntOf u j := if_pos hj
/-- a difference from a chord's tone is no more than a number can bear -/
theorem snd_q {u : US} (I : INV u) {c : Nat} (hc : c < un u) (h12 : ul u c + uz u c ≤ 12) : ∀ j, j < uz u c → ¬ tone (uh u) (ul u c + j) - ut u c j = -2147483648 := by
  intro j hj
  obtain ⟨t, ht, e⟩ := tone_b I (show ul u c + j < 12 by omega)
  obtain ⟨x, h1, h2, e2⟩ := I.2.2.2.2 c hc j hj
  rw [e, e2]
  have a1 : nI t ≤ 1270 := (nI_leI (a := t) (b := 1270) (by omega) (by decide)).mpr ht
  have a2 : (0 : Int32) ≤ nI t := nI_pos' (by omega)
  have b1 : nI x ≤ 1500 := (nI_leI (a := x) (b := 1500) (by omega) (by decide)).mpr h2
  have b2 : (0 : Int32) ≤ nI x := nI_pos' (by omega)
  generalize nI t = y at a1 a2
  generalize nI x = z at b1 b2
  grind
theorem u_c {u : US} (I : INV u) {c : Nat} (hc : c < un u) : un u ≤ 6 ∧ ul u c + uz u c ≤ 12 ∧ uz u c ≤ 4 ∧ 2 ≤ uz u c := ⟨I.1.2.1, (I.1.2.2.1 c (by have := I.1.2.1; omega)).1, (I.1.2.2.1 c (by have := I.1.2.1; omega)).2, I.1.2.2.2.1 c hc⟩
