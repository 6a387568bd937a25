/-! an hour of the reference: two passes over the strings -/
def n1D (wi : Int32) (h : HS) (k : Nat) : Int32 := if zo h k = 0 then zd h k else if 100 < pull wi h k then 0 else zd h k
def h1 (i : Nat) (wi : Int32) (h : HS) : HS := (zb h, zw h, part 0 i (zd h) (n1D wi h), part 0 i (zs h) (nS wi h), part 0 i (zr h) (nR wi h), part 0 i (zo h) (nO wi h), zl h, zh h)
def h2 (i : Nat) (wi da : Int32) (h : HS) : HS := (zb h, zw h, part 0 i (part 0 12 (zd h) (n1D wi h)) (nD wi da h), part 0 12 (zs h) (nS wi h), part 0 12 (zr h) (nR wi h), part 0 12 (zo h) (nO wi h), zl h, zh h)
theorem h1_0 (wi : Int32) (h : HS) : h1 0 wi h = h := by simp only [h1, part_0]
theorem h2_0 (wi da : Int32) (h : HS) : h2 0 wi da h = h1 12 wi h := by simp only [h2, h1, part_0]
theorem part_lt {u k : Nat} {g n : Nat → Int32} (hk : k < u) : part 0 u g n k = n k := by unfold part; rw [if_pos ⟨Nat.zero_le _, hk⟩]
theorem tone_h1 {i : Nat} {wi : Int32} {h : HS} : tone (h1 i wi h) i = tone h i := by
  simp only [tone, h1, zb, zw, zd, zs, zr, zo, zl, zh, part_at]
theorem h1_skip {i : Nat} {wi : Int32} {h : HS} (ho : zo h i = 0) : h1 i wi h = h1 (i + 1) wi h := by
  unfold h1
  rw [part_old (g := zd h) (Nat.zero_le _) (by simp [n1D, ho]), part_old (g := zs h) (Nat.zero_le _) (by simp [nS, ho]), part_old (g := zr h) (Nat.zero_le _) (by simp [nR, ho]), part_old (g := zo h) (Nat.zero_le _) (by simp [nO, ho])]
theorem h1_brk {i : Nat} {wi : Int32} {h : HS} (ho : ¬ zo h i = 0) (hb : 100 < pull wi h i) : putH (putH (putH (putH (h1 i wi h) i 4 0) i 2 0) i 5 (zr h i + 1)) i 3 0 = h1 (i + 1) wi h := by
  show (zb h, zw h, upd (part 0 i (zd h) (n1D wi h)) i 0, upd (part 0 i (zs h) (nS wi h)) i 0, upd (part 0 i (zr h) (nR wi h)) i (zr h i + 1), upd (part 0 i (zo h) (nO wi h)) i 0, zl h, zh h) = h1 (i + 1) wi h
  rw [part_is (Nat.zero_le _) (n := n1D wi h) (by simp [n1D, ho, hb]), part_is (Nat.zero_le _) (n := nS wi h) (by simp [nS, ho, hb]), part_is (Nat.zero_le _) (n := nR wi h) (by simp [nR, ho, hb]), part_is (Nat.zero_le _) (n := nO wi h) (by simp [nO, ho, hb])]
  rfl
theorem h1_hold {i : Nat} {wi : Int32} {h : HS} (ho : ¬ zo h i = 0) (hb : ¬ 100 < pull wi h i) : putH (h1 i wi h) i 3 (pull wi h i) = h1 (i + 1) wi h := by
  show (zb h, zw h, part 0 i (zd h) (n1D wi h), upd (part 0 i (zs h) (nS wi h)) i (pull wi h i), part 0 i (zr h) (nR wi h), part 0 i (zo h) (nO wi h), zl h, zh h) = h1 (i + 1) wi h
  rw [part_old (g := zd h) (Nat.zero_le _) (by simp [n1D, hb]), part_is (Nat.zero_le _) (n := nS wi h) (by simp [nS, ho, hb]), part_old (g := zr h) (Nat.zero_le _) (by simp [nR, hb]), part_old (g := zo h) (Nat.zero_le _) (by simp [nO, hb])]
  rfl
theorem nO_ne {wi : Int32} {h : HS} {k : Nat} (hz : ¬ nO wi h k = 0) : ¬ zo h k = 0 ∧ ¬ 100 < pull wi h k := by
  unfold nO at hz
  split at hz
  · exact absurd ‹_› hz
  · split at hz
    · exact absurd rfl hz
    · exact ⟨‹_›, ‹_›⟩
theorem nS_at {wi : Int32} {h : HS} {k : Nat} (hz : ¬ nO wi h k = 0) : nS wi h k = pull wi h k := by
  obtain ⟨a, b⟩ := nO_ne hz
  unfold nS
  rw [if_neg a, if_neg b]
theorem n1D_at {wi : Int32} {h : HS} {k : Nat} (hz : ¬ nO wi h k = 0) : n1D wi h k = zd h k := by
  obtain ⟨a, b⟩ := nO_ne hz
  unfold n1D
  rw [if_neg a, if_neg b]
theorem h2_skip {i : Nat} {wi da : Int32} {h : HS} (hi : i < 12) (hz : nO wi h i = 0) : h2 i wi da h = h2 (i + 1) wi da h := by
  unfold h2
  rw [part_old (g := part 0 12 (zd h) (n1D wi h)) (Nat.zero_le _)]
  rw [part_lt hi]
  unfold nD n1D
  unfold nO at hz
  by_cases h0 : zo h i = 0
  · rw [if_pos h0, if_pos h0]
  · rw [if_neg h0] at hz ⊢
    rw [if_neg h0]
    by_cases hb : 100 < pull wi h i
    · rw [if_pos hb, if_pos hb]
    · rw [if_neg hb] at hz; exact absurd hz h0
theorem h2_put {i : Nat} {wi da v : Int32} {h : HS} (hz : ¬ nO wi h i = 0) (hv : v = slipd da (pull wi h i) (zd h i)) : putH (h2 i wi da h) i 2 v = h2 (i + 1) wi da h := by
  obtain ⟨a, b⟩ := nO_ne hz
  show (zb h, zw h, upd (part 0 i (part 0 12 (zd h) (n1D wi h)) (nD wi da h)) i v, part 0 12 (zs h) (nS wi h), part 0 12 (zr h) (nR wi h), part 0 12 (zo h) (nO wi h), zl h, zh h) = h2 (i + 1) wi da h
  rw [part_is (Nat.zero_le _) (n := nD wi da h) (by unfold nD; rw [if_neg a, if_neg b, hv])]
  rfl
theorem part_part {u : Nat} {g n1 n : Nat → Int32} : part 0 u (part 0 u g n1) n = part 0 u g n := by
  funext k
  unfold part
  split <;> rfl
theorem mh_h2 {wi da : Int32} {h : HS} : mh (h2 12 wi da h) = mh (hHour 0 12 wi da h) := by
  unfold h2
  rw [part_part]
  rfl
theorem i32_add {x : Int32} {k : Int32} (h : -1000000 ≤ x.toInt + k.toInt) (h2 : x.toInt + k.toInt ≤ 1000000) : (x + k).toInt = x.toInt + k.toInt := by
  rw [Int32.toInt_add]
  exact Int.bmod_eq_of_le (by omega) (by omega)
theorem in50 {d : Int32} (h1 : -50 ≤ d) (h2 : d ≤ 50) : ∃ k, k < 101 ∧ d = nI k - 50 := by
  have a1 := Int32.le_iff_toInt_le.mp h1
  have a2 := Int32.le_iff_toInt_le.mp h2
  rw [show (-50 : Int32).toInt = -50 from rfl] at a1
  rw [show (50 : Int32).toInt = 50 from rfl] at a2
  have e : (d + 50).toInt = d.toInt + 50 := i32_add (by rw [show (50 : Int32).toInt = 50 from rfl]; omega) (by rw [show (50 : Int32).toInt = 50 from rfl]; omega)
  obtain ⟨k, hk, hd⟩ := in_nat (k := d + 50) (N := 101) (by decide) (by rw [Int32.lt_iff_toInt_lt, e, show (0 : Int32).toInt = 0 from rfl]; omega) (by rw [Int32.lt_iff_toInt_lt, e, show (nI 101).toInt = 101 from rfl]; omega)
  exact ⟨k, hk, by rw [← hd]; grind⟩
theorem in30 {d : Int32} (h1 : 0 ≤ d) (h2 : d ≤ 30) : ∃ k, k < 31 ∧ d = nI k := by
  obtain ⟨k, hk, hd⟩ := nI_of (Int32.not_lt.mpr h1)
  subst hd
  exact ⟨k, Nat.lt_succ_of_le ((nI_leI (a := k) (b := 30) hk (by decide)).mp h2), rfl⟩
theorem dr_all : ∀ k, k < 101 → mx (-50) (mn 50 (nI k - 50 + 0)) = nI k - 50 ∧ mx (-50) (mn 50 (nI k - 50 + 1)) = mn 50 (nI k - 50 + 1) ∧ mx (-50) (mn 50 (nI k - 50 + (-1))) = mx (-50) (nI k - 50 - 1) ∧ (-50 ≤ nI k - 50 ∧ nI k - 50 ≤ 50) ∧ (-50 ≤ mn 50 (nI k - 50 + 1) ∧ mn 50 (nI k - 50 + 1) ≤ 50) ∧ (-50 ≤ mx (-50) (nI k - 50 - 1) ∧ mx (-50) (nI k - 50 - 1) ≤ 50) := by decide +kernel
theorem sw_all : ∀ k, k < 31 → mx 0 (mn 30 (nI k + (-1))) = mx 0 (nI k - 1) ∧ mx 0 (mn 30 (nI k + 1)) = mn 30 (nI k + 1) ∧ (0 ≤ mx 0 (nI k - 1) ∧ mx 0 (nI k - 1) ≤ 30) ∧ (0 ≤ mn 30 (nI k + 1) ∧ mn 30 (nI k + 1) ≤ 30) := by decide +kernel
theorem sl_A {s da d : Int32} (b : -50 ≤ d ∧ d ≤ 50) (hs : s < 50) (hd : da < 6) : mx (-50) (mn 50 (d + 0)) = slipd da s d := by
  obtain ⟨k, hk, rfl⟩ := in50 b.1 b.2
  unfold slipd
  rw [if_pos hs, if_pos hd, (dr_all k hk).1]
theorem sl_B {s da d : Int32} (b : -50 ≤ d ∧ d ≤ 50) (hs : s < 50) (hd : ¬ da < 6) : mx (-50) (mn 50 (d + 1)) = slipd da s d := by
  obtain ⟨k, hk, rfl⟩ := in50 b.1 b.2
  unfold slipd
  rw [if_pos hs, if_neg hd, (dr_all k hk).2.1]
theorem sl_C {s da d : Int32} (b : -50 ≤ d ∧ d ≤ 50) (hs : ¬ s < 50) : mx (-50) (mn 50 (d + (-1))) = slipd da s d := by
  obtain ⟨k, hk, rfl⟩ := in50 b.1 b.2
  unfold slipd
  rw [if_neg hs, (dr_all k hk).2.2.1]
theorem sl_in {s da d : Int32} (b : -50 ≤ d ∧ d ≤ 50) : -50 ≤ slipd da s d ∧ slipd da s d ≤ 50 := by
  obtain ⟨k, hk, rfl⟩ := in50 b.1 b.2
  obtain ⟨-, -, -, a, b, c⟩ := dr_all k hk
  unfold slipd
  split
  · split
    · exact a
    · exact b
  · exact c
theorem sw_A {da l : Int32} (b : 0 ≤ l ∧ l ≤ 30) (hd : da < 5) : mx 0 (mn 30 (l + (-1))) = swell da l := by
  obtain ⟨k, hk, rfl⟩ := in30 b.1 b.2
  unfold swell
  rw [if_pos hd, (sw_all k hk).1]
theorem sw_B {da l : Int32} (b : 0 ≤ l ∧ l ≤ 30) (hd : ¬ da < 5) : mx 0 (mn 30 (l + 1)) = swell da l := by
  obtain ⟨k, hk, rfl⟩ := in30 b.1 b.2
  unfold swell
  rw [if_neg hd, (sw_all k hk).2.1]
theorem bd_hHour {f u : Nat} {wi da : Int32} {h : HS} (hb : bd h) : bd (hHour f u wi da h) := by
  refine ⟨fun k hk => ?_, ?_⟩
  · show -50 ≤ part f u (zd h) (nD wi da h) k ∧ part f u (zd h) (nD wi da h) k ≤ 50
    have h0 := hb.1 k hk
    unfold part nD
    split
    · split
      · exact h0
      · split
        · exact ⟨by decide, by decide⟩
        · exact sl_in h0
    · exact h0
  · show 0 ≤ swell da (zl h) ∧ swell da (zl h) ≤ 30
    obtain ⟨k, hk, he⟩ := in30 hb.2.1 hb.2.2
    rw [he]
    unfold swell
    split
    · exact (sw_all k hk).2.2.1
    · exact (sw_all k hk).2.2.2
theorem bd_hN {f u : Nat} {wt dt : Nat → Int32} {h : HS} (hb : bd h) (n : Nat) : bd (hN f u wt dt h n) := by
  induction n with
  | zero => exact hb
  | succ n ih => exact bd_hHour ih
/-- the table of hour and swelling behind an hour -/
theorem mb_hour {wi da v : Int32} {h : HS} (hv : v = swell da (zl h)) {j : Nat} (hj : j < 2) : upd (upd (mb (h2 12 wi da h)) 1 v) 0 (nI (zh h + 1)) j = mb (hHour 0 12 wi da h) j := by
  have e1 : zh (hHour 0 12 wi da h) = zh h + 1 := rfl
  have e2 : zl (hHour 0 12 wi da h) = swell da (zl h) := rfl
  rcases (show j = 0 ∨ j = 1 by omega) with rfl | rfl
  · rw [pk_us]; unfold mb; rw [if_pos rfl, e1]
  · rw [pk_un (by decide), pk_us, hv]; unfold mb; rw [if_neg (by decide), e2]
