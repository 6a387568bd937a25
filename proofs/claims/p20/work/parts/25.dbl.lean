/-! the mean is never a NaN -/
theorem dn_rr (f : Jvm.FP.Core.Fmt) (s : Bool) (a b : Nat) (e : Int) : Jvm.FP.Core.roundRatio f s a b e ≠ .nan := by
  unfold Jvm.FP.Core.roundRatio
  split
  · intro h; cases h
  · unfold Jvm.FP.Core.roundAt Jvm.FP.Core.settle Jvm.FP.Core.bound
    split
    · split <;> (intro h; cases h)
    · split <;> (intro h; cases h)
theorem dn_bits {r : UInt64} (h : Jvm.FP.Core.val64 r ≠ .nan) : vf_n64 r := by
  have hn : r.toNat < 2 ^ 64 := r.toNat_lt
  have key : r.toNat % 9223372036854775808 ≤ 9218868437227405312 := by
    rcases Nat.lt_or_ge 9218868437227405312 (r.toNat % 9223372036854775808) with z | z
    · refine absurd ?_ h
      unfold Jvm.FP.Core.val64 Jvm.FP.Core.decode
      have hE : Jvm.FP.Core.fieldE Jvm.FP.Core.b64 r.toNat = r.toNat / 4503599627370496 % 2048 := rfl
      have hT : Jvm.FP.Core.fieldT Jvm.FP.Core.b64 r.toNat = r.toNat % 4503599627370496 := rfl
      have hX : Jvm.FP.Core.b64.exps - 1 = 2047 := rfl
      rw [hE, hT, hX, if_pos (by omega), if_neg (by omega)]
    · exact z
  unfold vf_n64
  rw [UInt64.le_iff_toNat_le, UInt64.toNat_and]
  have e1 : (0x7fffffffffffffff : UInt64).toNat = 2 ^ 63 - 1 := rfl
  have e2 : (0x7ff0000000000000 : UInt64).toNat = 9218868437227405312 := rfl
  rw [e1, e2, Nat.and_two_pow_sub_one_eq_mod]
  exact key
theorem dn_int (a : Int32) : Jvm.FP.Core.val64 (FP.i2d a) ≠ .nan := by
  show Jvm.FP.Core.val64 (Jvm.FP.Core.i2d a) ≠ .nan
  rw [Jvm.FP.Core.val64_i2d]
  exact dn_rr _ _ _ _ _
def dnz (d : Jvm.FP.Core.Datum) : Bool := match d with
  | .fin _ c _ => decide (c ≠ 0)
  | _ => false
theorem dn_cnt_all : ∀ c, c < 13 → 1 ≤ c → dnz (Jvm.FP.Core.val64 (FP.i2d (nI c))) = true := by decide +kernel
theorem dv_ok {a : Int32} {c : Nat} (h1 : 1 ≤ c) (h12 : c ≤ 12) : vf_n64 (FP.ddiv (FP.i2d a) (FP.i2d (nI c))) := by
  refine dn_bits ?_
  show Jvm.FP.Core.val64 (Jvm.FP.Core.ddiv (FP.i2d a) (FP.i2d (nI c))) ≠ .nan
  rw [Jvm.FP.Core.val64_ddiv]
  have hc := dn_cnt_all c (by omega) h1
  have ha := dn_int a
  generalize Jvm.FP.Core.val64 (FP.i2d (nI c)) = y at hc
  generalize Jvm.FP.Core.val64 (FP.i2d a) = x at ha
  cases y with
  | nan => cases hc
  | inf s => cases hc
  | fin t d r =>
    have hd : d ≠ 0 := of_decide_eq_true hc
    cases x with
    | nan => exact absurd rfl ha
    | inf s => intro h; cases h
    | fin s c2 q =>
      show (if d = 0 then (if c2 = 0 then _ else _) else Jvm.FP.Core.roundRatio _ _ _ _ _) ≠ _
      rw [if_neg hd]
      exact dn_rr _ _ _ _ _
/-- how many are whole, as a number -/
theorem sum01 {f : Nat → Int32} {n : Nat} (h : ∀ k, k < n → f k = 0 ∨ f k = 1) : ∃ c : Nat, c ≤ n ∧ sumN f n = nI c := by
  induction n with
  | zero => exact ⟨0, Nat.le_refl _, rfl⟩
  | succ n ih =>
    obtain ⟨c, hc, he⟩ := ih (fun k hk => h k (by omega))
    rcases h n (by omega) with z | z
    · refine ⟨c, by omega, ?_⟩
      show sumN f n + f n = nI c
      rw [he, z]; simp
    · refine ⟨c + 1, by omega, ?_⟩
      show sumN f n + f n = nI (c + 1)
      rw [he, z]; exact nI_1 c
def meanH (h : HS) : UInt64 := if sumN (zo h) 12 = 0 then 0 else FP.ddiv (FP.i2d (sumN (tone h) 12)) (FP.i2d (sumN (zo h) 12))
theorem mean_ok {h : HS} (ho : ok01 h) (hz : ¬ sumN (zo h) 12 = 0) (a : Int32) : vf_n64 (FP.ddiv (FP.i2d a) (FP.i2d (sumN (zo h) 12))) := by
  obtain ⟨c, hc, he⟩ := sum01 (n := 12) ho
  rw [he] at hz ⊢
  refine dv_ok ?_ hc
  rcases Nat.eq_zero_or_pos c with z | z
  · subst z; exact absurd nI_0 hz
  · exact z
/-! the checksum -/
def dg2 (f : Nat → Nat → Int32) (d : Int64) : Nat → Int64
  | 0 => d
  | n + 1 => dgN (f n) (dg2 f d n) 7
def dgCs (u : US) (d : Int64) : Nat → Int64
  | 0 => d
  | n + 1 => dgC u n (dgCs u d n)
def digU (u : US) : Int64 := dgCs u (dgN (wea u) (dg2 (factH (uh u)) (dgN (cntOf u) 947 8) 12) 12) (un u)
theorem fw_lt_all : ∀ n, n < 10 → ((4 : Int32) < nI n - 4 ↔ n = 9) := by decide +kernel
theorem fw_lt {n : Nat} (h : n ≤ 9) : (4 : Int32) < nI n - 4 ↔ n = 9 := fw_lt_all n (by omega)
theorem fw_inc (n : Nat) : nI n - 4 + Int32.ofInt 1 = nI (n + 1) - 4 := by
  rw [nI_succ, Int32.sub_eq_add_neg, Int32.sub_eq_add_neg, Int32.add_assoc, Int32.add_assoc, Int32.add_comm (-4) (Int32.ofInt 1)]
  rfl
