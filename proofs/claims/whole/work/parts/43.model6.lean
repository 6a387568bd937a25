/-! the fewest steps: all choices one by one, and string by string -/
def dn (n : Nat) : Nat := if n < 4 then 4 - n else n - 4
def xD (n : Nat) : Int32 := nI n - 4
theorem ab_dn_all : ∀ n, n < 9 → ab (nI n - 4) = nI (dn n) := by decide +kernel
theorem dn_le {n : Nat} (h : n < 9) : dn n ≤ 4 := by unfold dn; split <;> omega
def IsM (S : Nat → Prop) (m : Nat) : Prop := m ≤ 1000 ∧ (∀ s, S s → m ≤ s) ∧ (m = 1000 ∨ S m)
theorem IsM.eq {S : Nat → Prop} {m k : Nat} (a : IsM S m) (b : IsM S k) : m = k := by
  obtain ⟨a1, a2, a3⟩ := a
  obtain ⟨b1, b2, b3⟩ := b
  rcases a3 with a3 | a3
  · rcases b3 with b3 | b3
    · omega
    · have := a2 _ b3; omega
  · rcases b3 with b3 | b3
    · have := b2 _ a3; omega
    · have := a2 _ b3; have := b2 _ a3; omega
theorem IsM.congr {S T : Nat → Prop} {m : Nat} (a : IsM S m) (h : ∀ s, S s ↔ T s) : IsM T m := ⟨a.1, fun s hs => a.2.1 s ((h s).mpr hs), a.2.2.imp id (fun z => (h m).mp z)⟩
def fwFN (c : Nat → Bool) (r : Nat → Nat) : Nat → Nat
  | 0 => 1000
  | n + 1 => if c n then min (fwFN c r n) (dn n + r n) else fwFN c r n
theorem fwFN_m {c : Nat → Bool} {r : Nat → Nat} {S : Nat → Nat → Prop} : ∀ N, (∀ n, n < N → IsM (S n) (r n)) → IsM (fun s => ∃ n, n < N ∧ c n = true ∧ ∃ t, S n t ∧ s = dn n + t) (fwFN c r N) := by
  intro N
  induction N with
  | zero => intro _; exact ⟨Nat.le_refl _, fun s ⟨n, h, _⟩ => by omega, Or.inl rfl⟩
  | succ N ih =>
    intro hr
    obtain ⟨i1, i2, i3⟩ := ih (fun n hn => hr n (by omega))
    obtain ⟨r1, r2, r3⟩ := hr N (by omega)
    by_cases hc : c N = true
    · have e : fwFN c r (N + 1) = min (fwFN c r N) (dn N + r N) := by show (if c N then _ else _) = _; rw [if_pos hc]
      rw [e]
      refine ⟨by omega, ?_, ?_⟩
      · rintro s ⟨n, hn, hcn, t, ht, rfl⟩
        rcases Nat.lt_succ_iff_lt_or_eq.mp hn with z | z
        · have := i2 _ ⟨n, z, hcn, t, ht, rfl⟩; omega
        · subst z; have := r2 t ht; omega
      · by_cases hm : fwFN c r N ≤ dn N + r N
        · rw [Nat.min_eq_left hm]
          rcases i3 with z | ⟨n, hn, q⟩
          · exact Or.inl z
          · exact Or.inr ⟨n, by omega, q⟩
        · rw [Nat.min_eq_right (by omega)]
          rcases r3 with z | z
          · omega
          · exact Or.inr ⟨N, by omega, hc, r N, z, rfl⟩
    · have e : fwFN c r (N + 1) = fwFN c r N := by show (if c N then _ else _) = _; rw [if_neg hc]
      rw [e]
      refine ⟨i1, ?_, ?_⟩
      · rintro s ⟨n, hn, hcn, t, ht, rfl⟩
        rcases Nat.lt_succ_iff_lt_or_eq.mp hn with z | z
        · exact i2 _ ⟨n, z, hcn, t, ht, rfl⟩
        · subst z; exact absurd hcn hc
      · rcases i3 with z | ⟨n, hn, q⟩
        · exact Or.inl z
        · exact Or.inr ⟨n, by omega, q⟩
theorem fwF_N {c : Int32 → Bool} {rI : Int32 → Int32} {rN : Nat → Nat} : ∀ N, N ≤ 9 → (∀ i, i < N → rI (nI i - 4) = nI (rN i) ∧ rN i ≤ 1000) → fwF c rI N = nI (fwFN (fun i => c (nI i - 4)) rN N) ∧ fwFN (fun i => c (nI i - 4)) rN N ≤ 1000 := by
  intro N
  induction N with
  | zero => intro _ _; exact ⟨rfl, Nat.le_refl _⟩
  | succ N ih =>
    intro hN hr
    obtain ⟨e, hle⟩ := ih (by omega) (fun i hi => hr i (by omega))
    obtain ⟨er, hr1⟩ := hr N (by omega)
    have hd := dn_le (n := N) (by omega)
    show (if c (nI N - 4) then mn (fwF c rI N) (ab (nI N - 4) + rI (nI N - 4)) else fwF c rI N) = nI (if c (nI N - 4) then min (fwFN (fun i => c (nI i - 4)) rN N) (dn N + rN N) else fwFN (fun i => c (nI i - 4)) rN N) ∧ (if c (nI N - 4) then min (fwFN (fun i => c (nI i - 4)) rN N) (dn N + rN N) else fwFN (fun i => c (nI i - 4)) rN N) ≤ 1000
    by_cases hc : c (nI N - 4) = true
    · rw [if_pos hc, if_pos hc]
      refine ⟨?_, by omega⟩
      rw [e, er, ab_dn_all N (by omega), nI_add]
      unfold mn
      by_cases hm : dn N + rN N < fwFN (fun i => c (nI i - 4)) rN N
      · rw [if_pos ((nI_ltI (by omega) (by omega)).mpr hm), Nat.min_eq_right (by omega)]
      · rw [if_neg (fun z => hm ((nI_ltI (by omega) (by omega)).mp z)), Nat.min_eq_left (by omega)]
    · rw [if_neg hc, if_neg hc]
      exact ⟨e, hle⟩
section FW
variable (h : HS) (lo : Nat) (tn : Nat → Int32)
def fwN : Nat → Nat → Int32 → Int32 → Nat
  | 0, j, two, one => if fits1 h lo tn (j - 1) one two then 0 else 1000
  | d + 1, j, two, one => fwFN (fun n => fwC h lo tn j two one (nI n - 4)) (fun n => fwN d (j + 1) one (nI n - 4)) 9
theorem fw_N : ∀ d j two one, fw h lo tn d j two one = nI (fwN h lo tn d j two one) ∧ fwN h lo tn d j two one ≤ 1000 := by
  intro d
  induction d with
  | zero =>
    intro j two one
    show (if fits1 h lo tn (j - 1) one two then (0 : Int32) else 1000) = nI (if fits1 h lo tn (j - 1) one two then 0 else 1000) ∧ (if fits1 h lo tn (j - 1) one two then 0 else 1000) ≤ 1000
    by_cases hf : fits1 h lo tn (j - 1) one two = true
    · rw [if_pos hf, if_pos hf]; exact ⟨rfl, by omega⟩
    · rw [if_neg hf, if_neg hf]; exact ⟨rfl, by omega⟩
  | succ d ih =>
    intro j two one
    exact fwF_N (c := fwC h lo tn j two one) (rI := fun x => fw h lo tn d (j + 1) one x) (rN := fun n => fwN h lo tn d (j + 1) one (nI n - 4)) 9 (by omega) (fun i _ => ih (j + 1) one (nI i - 4))
def onD (δ : Nat → Nat) (j : Nat) : Int32 := if j = 0 then 0 else xD (δ (j - 1))
def twD (δ : Nat → Nat) (j : Nat) : Int32 := if j < 2 then 0 else xD (δ (j - 2))
def nbD (sz : Nat) (δ : Nat → Nat) (w : Nat) : Int32 := (if w = 0 then 0 else xD (δ (w - 1))) + (if w + 1 < sz then xD (δ (w + 1)) else 0)
def VaD (sz : Nat) (δ : Nat → Nat) (j : Nat) : Prop := (∀ w, j ≤ w → w < sz → fitsW (zw h (lo + w) + xD (δ w)) = true) ∧ (∀ w, j ≤ w + 1 → w < sz → fits1 h lo tn w (xD (δ w)) (nbD sz δ w) = true)
def sumF (δ : Nat → Nat) : Nat → Nat → Nat
  | _, 0 => 0
  | j, d + 1 => dn (δ j) + sumF δ (j + 1) d
def sumE (δ : Nat → Nat) : Nat → Nat
  | 0 => 0
  | w + 1 => sumE δ w + dn (δ w)
theorem sumE_F (δ : Nat → Nat) (d : Nat) : ∀ j, sumE δ (j + d) = sumE δ j + sumF δ j d := by
  induction d with
  | zero => intro j; rfl
  | succ d ih =>
    intro j
    have e := ih (j + 1)
    rw [show j + (d + 1) = j + 1 + d by omega, e]
    show sumE δ j + dn (δ j) + sumF δ (j + 1) d = sumE δ j + (dn (δ j) + sumF δ (j + 1) d)
    omega
theorem fw_m (sz : Nat) : ∀ d j (δ : Nat → Nat), 1 ≤ sz → j + d = sz → (∀ w, δ w < 9) → IsM (fun s => ∃ δ' : Nat → Nat, (∀ w, w < j → δ' w = δ w) ∧ (∀ w, δ' w < 9) ∧ VaD h lo tn sz δ' j ∧ s = sumF δ' j d) (fwN h lo tn d j (twD δ j) (onD δ j)) := by
  intro d
  induction d with
  | zero =>
    intro j δ h1 hj h9
    have hj : j = sz := hj
    subst hj
    have e : nbD j δ (j - 1) = twD δ j := by
      unfold nbD twD
      rw [if_neg (show ¬ j - 1 + 1 < j by omega), Int32.add_zero]
      by_cases h2 : j < 2
      · rw [if_pos (by omega), if_pos h2]
      · rw [if_neg (by omega), if_neg h2, show j - 1 - 1 = j - 2 by omega]
    have e1 : onD δ j = xD (δ (j - 1)) := by unfold onD; rw [if_neg (by omega)]
    have key : ∀ δ' : Nat → Nat, (∀ w, w < j → δ' w = δ w) → (VaD h lo tn j δ' j ↔ fits1 h lo tn (j - 1) (onD δ j) (twD δ j) = true) := by
      intro δ' hd
      have en : nbD j δ' (j - 1) = nbD j δ (j - 1) := by
        unfold nbD
        rw [if_neg (show ¬ j - 1 + 1 < j by omega), if_neg (show ¬ j - 1 + 1 < j by omega)]
        by_cases h2 : j - 1 = 0
        · rw [if_pos h2, if_pos h2]
        · rw [if_neg h2, if_neg h2, hd _ (by omega)]
      constructor
      · intro hv
        have := hv.2 (j - 1) (by omega) (by omega)
        rw [en, e, hd _ (by omega)] at this
        rw [e1]; exact this
      · intro hf
        refine ⟨fun w a b => by omega, fun w a b => ?_⟩
        have hw : w = j - 1 := by omega
        subst hw
        rw [en, e, hd _ (by omega), ← e1]; exact hf
    show IsM _ (if fits1 h lo tn (j - 1) (onD δ j) (twD δ j) then 0 else 1000)
    by_cases hf : fits1 h lo tn (j - 1) (onD δ j) (twD δ j) = true
    · rw [if_pos hf]
      exact ⟨by omega, fun s _ => Nat.zero_le _, Or.inr ⟨δ, fun _ _ => rfl, h9, (key δ (fun _ _ => rfl)).mpr hf, rfl⟩⟩
    · rw [if_neg hf]
      exact ⟨Nat.le_refl _, fun s ⟨δ', a, _, b, _⟩ => absurd ((key δ' a).mp b) hf, Or.inl rfl⟩
  | succ d ih =>
    intro j δ h1 hj h9
    have step : ∀ n, n < 9 → IsM (fun s => ∃ δ' : Nat → Nat, (∀ w, w < j → δ' w = δ w) ∧ δ' j = n ∧ (∀ w, δ' w < 9) ∧ VaD h lo tn sz δ' (j + 1) ∧ s = sumF δ' (j + 1) d) (fwN h lo tn d (j + 1) (onD δ j) (nI n - 4)) := by
      intro n hn
      have i := ih (j + 1) (fun w => if w = j then n else δ w) h1 (by omega) (fun w => by show (if w = j then n else δ w) < 9; split; exact hn; exact h9 w)
      have et : twD (fun w => if w = j then n else δ w) (j + 1) = onD δ j := by
        unfold twD onD
        by_cases h0 : j = 0
        · rw [if_pos (by omega), if_pos h0]
        · rw [if_neg (by omega), if_neg h0, show j + 1 - 2 = j - 1 by omega]
          show xD (if j - 1 = j then n else δ (j - 1)) = xD (δ (j - 1))
          rw [if_neg (by omega)]
      have eo : onD (fun w => if w = j then n else δ w) (j + 1) = nI n - 4 := by
        unfold onD xD
        rw [if_neg (by omega), Nat.add_sub_cancel]
        show nI (if j = j then n else δ j) - 4 = nI n - 4
        rw [if_pos rfl]
      rw [et, eo] at i
      refine i.congr (fun s => ⟨?_, ?_⟩)
      · rintro ⟨δ', a, b, c, e⟩
        refine ⟨δ', fun w hw => ?_, ?_, b, c, e⟩
        · rw [a w (by omega), if_neg (by omega)]
        · rw [a j (by omega), if_pos rfl]
      · rintro ⟨δ', a, a2, b, c, e⟩
        refine ⟨δ', fun w hw => ?_, b, c, e⟩
        by_cases hwj : w = j
        · subst hwj; rw [if_pos rfl, a2]
        · rw [if_neg hwj, a w (by omega)]
    have big := fwFN_m (c := fun n => fwC h lo tn j (twD δ j) (onD δ j) (nI n - 4)) (r := fun n => fwN h lo tn d (j + 1) (onD δ j) (nI n - 4)) 9 step
    refine IsM.congr big (fun s => ⟨?_, ?_⟩)
    · rintro ⟨n, hn, hc, t, ⟨δ', a, a2, b, c, rfl⟩, rfl⟩
      refine ⟨δ', a, b, ?_, by rw [← a2]; rfl⟩
      have hc' : (fitsW (zw h (lo + j) + (nI n - 4)) && (decide (j = 0) || fits1 h lo tn (j - 1) (onD δ j) (twD δ j + (nI n - 4)))) = true := hc
      rw [Bool.and_eq_true, Bool.or_eq_true, decide_eq_true_eq] at hc'
      refine ⟨fun w w1 w2 => ?_, fun w w1 w2 => ?_⟩
      · by_cases hw : w = j
        · subst hw; rw [a2]; exact hc'.1
        · exact c.1 w (by omega) w2
      · by_cases hw : w + 1 = j
        · subst hw
          have hf := hc'.2.resolve_left (by omega)
          have en : nbD sz δ' w = twD δ (w + 1) + (nI n - 4) := by
            unfold nbD twD
            rw [if_pos (show w + 1 < sz by omega), a2]
            by_cases h0 : w = 0
            · rw [if_pos h0, if_pos (by omega)]; rfl
            · rw [if_neg h0, if_neg (by omega), a _ (by omega), show w + 1 - 2 = w - 1 by omega]; rfl
          have eo : onD δ (w + 1) = xD (δ' w) := by
            unfold onD
            rw [if_neg (by omega), Nat.add_sub_cancel, a w (by omega)]
          rw [en, ← eo]; exact hf
        · exact c.2 w (by omega) w2
    · rintro ⟨δ', a, b, c, rfl⟩
      refine ⟨δ' j, b j, ?_, sumF δ' (j + 1) d, ⟨δ', a, rfl, b, ⟨fun w w1 w2 => c.1 w (by omega) w2, fun w w1 w2 => c.2 w (by omega) w2⟩, rfl⟩, rfl⟩
      show (fitsW (zw h (lo + j) + (nI (δ' j) - 4)) && (decide (j = 0) || fits1 h lo tn (j - 1) (onD δ j) (twD δ j + (nI (δ' j) - 4)))) = true
      rw [Bool.and_eq_true, Bool.or_eq_true, decide_eq_true_eq]
      refine ⟨c.1 j (Nat.le_refl _) (by omega), ?_⟩
      by_cases h0 : j = 0
      · exact Or.inl h0
      · refine Or.inr ?_
        have hf := c.2 (j - 1) (by omega) (by omega)
        have en : nbD sz δ' (j - 1) = twD δ j + (nI (δ' j) - 4) := by
          unfold nbD twD
          rw [if_pos (show j - 1 + 1 < sz by omega), show j - 1 + 1 = j by omega]
          by_cases h2 : j < 2
          · rw [if_pos (by omega), if_pos h2]; rfl
          · rw [if_neg (by omega), if_neg h2, a _ (by omega), show j - 1 - 1 = j - 2 by omega]; rfl
        have eo : onD δ j = xD (δ' (j - 1)) := by
          unfold onD
          rw [if_neg h0, a _ (by omega)]
        rw [eo, ← en]; exact hf
end FW
/-! the same by numbers: choice i, its digits -/
def dgt (i w : Nat) : Nat := i / 9 ^ w % 9
theorem dgt_lt (i w : Nat) : dgt i w < 9 := Nat.mod_lt _ (by decide)
/-- what choice i pushes -/
def pvD (lo sz i : Nat) : Nat → Int32 := fun k => if lo ≤ k ∧ k < lo + sz then xD (dgt i (k - lo)) else 0
def fitV (h : HS) (lo i w : Nat) : Bool := fitsW (zw h (lo + w) + xD (dgt i w))
def VB (h : HS) (lo sz : Nat) (tn : Nat → Int32) (i : Nat) : Bool := allN (fitV h lo i) sz && sndP h (pvD lo sz i) lo sz tn
def BM (h : HS) (lo sz : Nat) (tn : Nat → Int32) : Nat → Nat
  | 0 => 1000
  | n + 1 => if VB h lo sz tn n then min (BM h lo sz tn n) (sumE (dgt n) sz) else BM h lo sz tn n
theorem allN_iff {p : Nat → Bool} {n : Nat} : allN p n = true ↔ ∀ j, j < n → p j = true := by
  induction n with
  | zero => exact ⟨fun _ j hj => by omega, fun _ => rfl⟩
  | succ n ih =>
    show (allN p n && p n) = true ↔ _
    rw [Bool.and_eq_true, ih]
    constructor
    · intro h j hj
      rcases Nat.lt_succ_iff_lt_or_eq.mp hj with z | z
      · exact h.1 j z
      · subst z; exact h.2
    · intro h; exact ⟨fun j hj => h j (by omega), h n (by omega)⟩
theorem sumE_le (i : Nat) (w : Nat) : sumE (dgt i) w ≤ 4 * w := by
  induction w with
  | zero => exact Nat.le_refl _
  | succ w ih =>
    have := dn_le (dgt_lt i w)
    show sumE (dgt i) w + dn (dgt i w) ≤ 4 * (w + 1)
    omega
theorem BM_m {h : HS} {lo sz : Nat} {tn : Nat → Int32} (hs : sz ≤ 4) : ∀ n, IsM (fun s => ∃ i, i < n ∧ VB h lo sz tn i = true ∧ s = sumE (dgt i) sz) (BM h lo sz tn n) := by
  intro n
  induction n with
  | zero => exact ⟨Nat.le_refl _, fun s ⟨i, hi, _⟩ => by omega, Or.inl rfl⟩
  | succ n ih =>
    obtain ⟨i1, i2, i3⟩ := ih
    have hl := sumE_le n sz
    by_cases hv : VB h lo sz tn n = true
    · have e : BM h lo sz tn (n + 1) = min (BM h lo sz tn n) (sumE (dgt n) sz) := by show (if VB h lo sz tn n then _ else _) = _; rw [if_pos hv]
      rw [e]
      refine ⟨by omega, ?_, ?_⟩
      · rintro s ⟨i, hi, a, rfl⟩
        rcases Nat.lt_succ_iff_lt_or_eq.mp hi with z | z
        · have := i2 _ ⟨i, z, a, rfl⟩; omega
        · subst z; omega
      · by_cases hm : BM h lo sz tn n ≤ sumE (dgt n) sz
        · rw [Nat.min_eq_left hm]
          rcases i3 with z | ⟨i, hi, q⟩
          · exact Or.inl z
          · exact Or.inr ⟨i, by omega, q⟩
        · rw [Nat.min_eq_right (by omega)]
          exact Or.inr ⟨n, by omega, hv, rfl⟩
    · have e : BM h lo sz tn (n + 1) = BM h lo sz tn n := by show (if VB h lo sz tn n then _ else _) = _; rw [if_neg hv]
      rw [e]
      refine ⟨i1, ?_, ?_⟩
      · rintro s ⟨i, hi, a, rfl⟩
        rcases Nat.lt_succ_iff_lt_or_eq.mp hi with z | z
        · exact i2 _ ⟨i, z, a, rfl⟩
        · subst z; exact absurd a hv
      · rcases i3 with z | ⟨i, hi, q⟩
        · exact Or.inl z
        · exact Or.inr ⟨i, by omega, q⟩
theorem dgt_ex {sz : Nat} (hs : sz ≤ 4) (δ : Nat → Nat) (h9 : ∀ w, δ w < 9) : ∃ i, i < 9 ^ sz ∧ ∀ w, w < sz → dgt i w = δ w := by
  have d0 := h9 0
  have d1 := h9 1
  have d2 := h9 2
  have d3 := h9 3
  rcases (show sz = 0 ∨ sz = 1 ∨ sz = 2 ∨ sz = 3 ∨ sz = 4 by omega) with rfl | rfl | rfl | rfl | rfl
  · exact ⟨0, by decide, fun w hw => by omega⟩
  · refine ⟨δ 0, by omega, fun w hw => ?_⟩
    obtain rfl : w = 0 := by omega
    show δ 0 / 1 % 9 = δ 0
    omega
  · refine ⟨δ 0 + 9 * δ 1, by omega, fun w hw => ?_⟩
    rcases (show w = 0 ∨ w = 1 by omega) with rfl | rfl
    · show (δ 0 + 9 * δ 1) / 1 % 9 = δ 0
      omega
    · show (δ 0 + 9 * δ 1) / 9 % 9 = δ 1
      omega
  · refine ⟨δ 0 + 9 * δ 1 + 81 * δ 2, by omega, fun w hw => ?_⟩
    rcases (show w = 0 ∨ w = 1 ∨ w = 2 by omega) with rfl | rfl | rfl
    · show (δ 0 + 9 * δ 1 + 81 * δ 2) / 1 % 9 = δ 0
      omega
    · show (δ 0 + 9 * δ 1 + 81 * δ 2) / 9 % 9 = δ 1
      omega
    · show (δ 0 + 9 * δ 1 + 81 * δ 2) / 81 % 9 = δ 2
      omega
  · refine ⟨δ 0 + 9 * δ 1 + 81 * δ 2 + 729 * δ 3, by omega, fun w hw => ?_⟩
    rcases (show w = 0 ∨ w = 1 ∨ w = 2 ∨ w = 3 by omega) with rfl | rfl | rfl | rfl
    · show (δ 0 + 9 * δ 1 + 81 * δ 2 + 729 * δ 3) / 1 % 9 = δ 0
      omega
    · show (δ 0 + 9 * δ 1 + 81 * δ 2 + 729 * δ 3) / 9 % 9 = δ 1
      omega
    · show (δ 0 + 9 * δ 1 + 81 * δ 2 + 729 * δ 3) / 81 % 9 = δ 2
      omega
    · show (δ 0 + 9 * δ 1 + 81 * δ 2 + 729 * δ 3) / 729 % 9 = δ 3
      omega
theorem pv_in {lo sz i w : Nat} (hw : w < sz) : pvD lo sz i (lo + w) = xD (dgt i w) := by
  unfold pvD
  rw [if_pos (by omega), Nat.add_sub_cancel_left]
theorem tone_pv {h : HS} {lo sz i w : Nat} (hl : lo + sz ≤ 12) (hw : w < sz) (hz : ¬ zo h (lo + w) = 0) : toneP h (pvD lo sz i) (lo + w) = tone h (lo + w) + 10 * xD (dgt i w) + 3 * nbD sz (dgt i) w := by
  unfold toneP tone
  rw [if_neg hz, if_neg hz, wedF_in (by omega), wedF_lo (by omega), wedF_hi (by omega), pv_in hw]
  have a1 : (if 0 < lo + w then zw h (lo + w - 1) + pvD lo sz i (lo + w - 1) else 0) = (if 0 < lo + w then zw h (lo + w - 1) else 0) + (if w = 0 then 0 else xD (dgt i (w - 1))) := by
    by_cases h0 : w = 0
    · rw [if_pos h0]
      by_cases h1 : 0 < lo + w
      · rw [if_pos h1, if_pos h1, show pvD lo sz i (lo + w - 1) = 0 by unfold pvD; rw [if_neg (by omega)]]
      · rw [if_neg h1, if_neg h1]; rfl
    · rw [if_neg h0, if_pos (by omega), if_pos (by omega), show lo + w - 1 = lo + (w - 1) by omega, pv_in (by omega)]
  have a2 : (if lo + w < 11 then zw h (lo + w + 1) + pvD lo sz i (lo + w + 1) else 0) = (if lo + w < 11 then zw h (lo + w + 1) else 0) + (if w + 1 < sz then xD (dgt i (w + 1)) else 0) := by
    by_cases h0 : w + 1 < sz
    · rw [if_pos h0, if_pos (by omega), if_pos (by omega), show lo + w + 1 = lo + (w + 1) by omega, pv_in h0]
    · rw [if_neg h0]
      by_cases h1 : lo + w < 11
      · rw [if_pos h1, if_pos h1, show pvD lo sz i (lo + w + 1) = 0 by unfold pvD; rw [if_neg (by omega)]]
      · rw [if_neg h1, if_neg h1]; rfl
  rw [a1, a2]
  unfold nbD
  generalize (if 0 < lo + w then zw h (lo + w - 1) else 0) = x1
  generalize (if w = 0 then 0 else xD (dgt i (w - 1))) = x2
  generalize (if lo + w < 11 then zw h (lo + w + 1) else 0) = x3
  generalize (if w + 1 < sz then xD (dgt i (w + 1)) else 0) = x4
  grind
theorem okP_pv {h : HS} {lo sz i w : Nat} {tn : Nat → Int32} (hl : lo + sz ≤ 12) (hw : w < sz) : okP h (pvD lo sz i) lo tn w = fits1 h lo tn w (xD (dgt i w)) (nbD sz (dgt i) w) := by
  unfold okP fits1
  rw [decide_eq_decide]
  refine and_congr_right (fun hz => ?_)
  rw [tone_pv hl hw hz, Int32.not_lt]
theorem VB_iff {h : HS} {lo sz i : Nat} {tn : Nat → Int32} (hl : lo + sz ≤ 12) : VB h lo sz tn i = true ↔ VaD h lo tn sz (dgt i) 0 := by
  unfold VB sndP VaD
  rw [Bool.and_eq_true, allN_iff, allN_iff]
  constructor
  · rintro ⟨a, b⟩
    exact ⟨fun w _ hw => a w hw, fun w _ hw => (okP_pv hl hw).symm.trans (b w hw)⟩
  · rintro ⟨a, b⟩
    exact ⟨fun w hw => a w (Nat.zero_le _) hw, fun w hw => (okP_pv hl hw).trans (b w (Nat.zero_le _) hw)⟩
theorem VaD_congr {h : HS} {lo sz : Nat} {tn : Nat → Int32} {δ ε : Nat → Nat} (e : ∀ w, w < sz → δ w = ε w) (v : VaD h lo tn sz δ 0) : VaD h lo tn sz ε 0 := by
  have en : ∀ w, w < sz → nbD sz δ w = nbD sz ε w := fun w hw => by
    unfold nbD
    congr 1
    · by_cases h0 : w = 0
      · rw [if_pos h0, if_pos h0]
      · rw [if_neg h0, if_neg h0, e _ (by omega)]
    · by_cases h1 : w + 1 < sz
      · rw [if_pos h1, if_pos h1, e _ h1]
      · rw [if_neg h1, if_neg h1]
  exact ⟨fun w a b => by rw [← e w b]; exact v.1 w a b, fun w a b => by rw [← e w b, ← en w b]; exact v.2 w a b⟩
theorem sumE_congr {δ ε : Nat → Nat} {n : Nat} (e : ∀ w, w < n → δ w = ε w) : sumE δ n = sumE ε n := by
  induction n with
  | zero => rfl
  | succ n ih =>
    show sumE δ n + dn (δ n) = sumE ε n + dn (ε n)
    rw [ih (fun w hw => e w (by omega)), e n (by omega)]
theorem few_all {h : HS} {lo sz : Nat} {tn : Nat → Int32} (h1 : 1 ≤ sz) (hs : sz ≤ 4) (hl : lo + sz ≤ 12) : fw h lo tn sz 0 0 0 = nI (BM h lo sz tn (9 ^ sz)) := by
  rw [(fw_N h lo tn sz 0 0 0).1]
  congr 1
  have a := fw_m h lo tn sz sz 0 (fun _ => 0) h1 (by omega) (fun _ => by decide)
  have b := BM_m (h := h) (lo := lo) (tn := tn) hs (9 ^ sz)
  refine IsM.eq (a.congr (fun s => ⟨?_, ?_⟩)) b
  · rintro ⟨δ, -, c, d, rfl⟩
    obtain ⟨i, hi, he⟩ := dgt_ex hs δ c
    refine ⟨i, hi, (VB_iff hl).mpr (VaD_congr (fun w hw => (he w hw).symm) d), ?_⟩
    rw [sumE_congr he]
    have := sumE_F δ sz 0
    rw [Nat.zero_add] at this
    rw [this]
    show sumF δ 0 sz = 0 + sumF δ 0 sz
    omega
  · rintro ⟨i, hi, c, rfl⟩
    refine ⟨dgt i, fun w hw => by omega, dgt_lt i, (VB_iff hl).mp c, ?_⟩
    have := sumE_F (dgt i) sz 0
    rw [Nat.zero_add] at this
    rw [this]
    show 0 + sumF (dgt i) 0 sz = sumF (dgt i) 0 sz
    omega
