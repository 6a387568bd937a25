/-! the numbers' bounds, and what a single string's hour is -/
def SR (h : HS) (k : Nat) : Prop := ∃ bb ww dd ss : Nat, bb ≤ 800 ∧ ww ≤ 20 ∧ dd ≤ 100 ∧ ss ≤ 100 ∧ zb h k = nI (100 + bb) ∧ zw h k = nI ww ∧ zd h k = nI dd - 50 ∧ zs h k = nI ss ∧ (zo h k = 0 → zs h k = 0 ∧ zd h k = 0)
def INV (u : US) : Prop := uOk u ∧ (∀ k, k < 12 → SR (uh u) k) ∧ (∃ n, n ≤ 30 ∧ zl (uh u) = nI n) ∧ (∀ k, k < 12 → ∃ w d, w ≤ 20 ∧ d ≤ 9 ∧ uw u k = nI w ∧ ud u k = nI d) ∧ (∀ i, i < un u → ∀ j, j < uz u i → ∃ t, 1 ≤ t ∧ t ≤ 1500 ∧ ut u i j = nI t)
theorem nI_le100 {n : Nat} (h : n ≤ 100) : (0 : Int32) ≤ nI n ∧ nI n ≤ 100 := ⟨nI_pos' (by omega), (nI_leI (a := n) (b := 100) (by omega) (by decide)).mpr h⟩
theorem SR_s {h : HS} {k : Nat} (r : SR h k) : 0 ≤ zs h k ∧ zs h k ≤ 100 := by
  obtain ⟨bb, ww, dd, ss, h1, h2, h3, h4, h5, h6, h7, h8, h9⟩ := r
  rw [h8]
  exact nI_le100 h4
theorem SR_d {h : HS} {k : Nat} (r : SR h k) : -50 ≤ zd h k ∧ zd h k ≤ 50 := by
  obtain ⟨bb, ww, dd, ss, h1, h2, h3, h4, h5, h6, h7, h8, h9⟩ := r
  rw [h7]
  have := nI_le100 h3
  generalize nI dd = x at this
  grind
theorem SR_w {h : HS} {k : Nat} (r : SR h k) : 0 ≤ zw h k ∧ zw h k ≤ 20 := by
  obtain ⟨bb, ww, dd, ss, h1, h2, h3, h4, h5, h6, h7, h8, h9⟩ := r
  rw [h6]
  exact ⟨nI_pos' (by omega), (nI_leI (a := ww) (b := 20) (by omega) (by decide)).mpr h2⟩
theorem nI_mid {A d n : Nat} (h : 50 + n ≤ A + d) : nI A + (nI d - 50) - nI n = nI (A + d - 50 - n) := by
  have h1 : nI (A + d) - nI 50 = nI (A + d - 50) := pk_sub (by omega)
  have h2 : nI (A + d - 50) - nI n = nI (A + d - 50 - n) := pk_sub (by omega)
  rw [← h2, ← h1, ← nI_add]
  have h3 : nI 50 = 50 := rfl
  rw [h3]
  grind
/-- a tone is a number of 0 to 1270 -/
theorem tone_b {u : US} (I : INV u) {k : Nat} (hk : k < 12) : ∃ t : Nat, t ≤ 1270 ∧ tone (uh u) k = nI t := by
  obtain ⟨ho, hr, ⟨n, hn, hl⟩, -, -⟩ := I
  unfold tone
  by_cases hz : zo (uh u) k = 0
  · rw [if_pos hz]; exact ⟨0, by omega, rfl⟩
  · rw [if_neg hz]
    obtain ⟨bb, ww, dd, ss, h1, h2, h3, h4, h5, h6, h7, h8, h9⟩ := hr k hk
    have ea : ∃ x, x ≤ 20 ∧ (if 0 < k then zw (uh u) (k - 1) else 0) = nI x := by
      by_cases z : 0 < k
      · obtain ⟨b2, w2, d2, s2, g1, g2, g3, g4, g5, g6, g7, g8, g9⟩ := hr (k - 1) (by omega)
        rw [if_pos z]; exact ⟨w2, g2, g6⟩
      · rw [if_neg z]; exact ⟨0, by omega, rfl⟩
    have eb : ∃ x, x ≤ 20 ∧ (if k < 11 then zw (uh u) (k + 1) else 0) = nI x := by
      by_cases z : k < 11
      · obtain ⟨b2, w2, d2, s2, g1, g2, g3, g4, g5, g6, g7, g8, g9⟩ := hr (k + 1) (by omega)
        rw [if_pos z]; exact ⟨w2, g2, g6⟩
      · rw [if_neg z]; exact ⟨0, by omega, rfl⟩
    obtain ⟨x, hx, ex⟩ := ea
    obtain ⟨y, hy, ey⟩ := eb
    rw [ex, ey, h5, h6, h7, hl]
    have e1 : (10 : Int32) * nI ww = nI (10 * ww) := pk_mul 10 ww
    have e2 : (3 : Int32) * nI (x + y) = nI (3 * (x + y)) := pk_mul 3 (x + y)
    rw [e1, nI_add, nI_add, e2, nI_add]
    exact ⟨_, (by omega), nI_mid (by omega)⟩
theorem fits0 (h : HS) (lo : Nat) (tn : Nat → Int32) (j : Nat) : fits1 h lo tn j 0 0 = decide (¬ zo h (lo + j) = 0 ∧ ¬ 5 < ab (tone h (lo + j) - tn j)) := by
  unfold fits1
  have e : tone h (lo + j) + 10 * 0 + 3 * 0 - tn j = tone h (lo + j) - tn j := by grind
  rw [e]
theorem ab_5 {x : Int32} (hx : ¬ x = -2147483648) : 5 < ab x ↔ (5 < x ∨ x < -5) := by
  unfold ab
  split <;> grind
theorem allN_t {p : Nat → Bool} {n : Nat} (h : ∀ j, j < n → p j = true) : allN p n = true := by
  induction n with
  | zero => rfl
  | succ n ih =>
    show (allN p n && p n) = true
    rw [ih (fun j hj => h j (by omega)), h n (by omega)]
    rfl
theorem allN_at {p : Nat → Bool} {n j : Nat} (hj : j < n) (h : allN p n = true) : p j = true := by
  cases hp : p j with
  | true => rfl
  | false => rw [allN_f hj hp] at h; cases h
/-- what a chord's row holds: its first string, its tones -/
abbrev rowL (lo : Nat) (tn : Nat → Int32) : Nat → Int32 := fun j => if j = 0 then nI lo else tn (j - 1)
theorem rowC_L (u : US) (i : Nat) : rowC u i = rowL (ul u i) (ut u i) := rfl
/-! an hour, string by string -/
def tnF (h : HS) (k : Nat) : Nat → Int32 := fun j => if j < k then tone h j else 0
theorem tnF_0 (h : HS) : (fun _ => (0 : Int32)) = tnF h 0 := by
  funext j
  unfold tnF
  rw [if_neg (by omega)]
theorem tnF_s (h : HS) (k : Nat) : upd (tnF h k) k (tone h k) = tnF h (k + 1) := by
  funext j
  unfold tnF upd
  by_cases z : j = k
  · subst z; rw [if_pos rfl, if_pos (by omega)]
  · rw [if_neg z]
    show (if j < k then tone h j else 0) = _
    by_cases y : j < k
    · rw [if_pos y, if_pos (by omega)]
    · rw [if_neg y, if_neg (by omega)]
theorem tnF_at {h : HS} {k j : Nat} (hj : j < k) : tnF h k j = tone h j := by unfold tnF; rw [if_pos hj]
theorem pull_lo {wi : Int32} {h : HS} {k : Nat} (b : 0 ≤ zs h k ∧ zs h k ≤ 100) (c : zs h k + wi * tone h k / 1000 < 2) : 0 = pull wi h k := by
  unfold pull mx
  have hd : -2147484 ≤ wi * tone h k / 1000 ∧ wi * tone h k / 1000 ≤ 2147484 := by
    generalize wi * tone h k = x
    rw [Int32.le_iff_toInt_le, Int32.le_iff_toInt_le, Int32.toInt_div]
    have h1 := x.toInt_lt
    have h2 := x.le_toInt
    have e1 : (1000 : Int32).toInt = 1000 := rfl
    have e2 : (-2147484 : Int32).toInt = -2147484 := rfl
    have e3 : (2147484 : Int32).toInt = 2147484 := rfl
    rw [e1, e2, e3]
    have h4 := Int.natAbs_tdiv x.toInt 1000
    have e4 : (1000 : Int).natAbs = 1000 := rfl
    rw [e4] at h4
    have h5 := Int.natAbs_eq x.toInt
    have h6 := Int.natAbs_eq (x.toInt.tdiv 1000)
    rw [h4] at h6
    generalize x.toInt.tdiv 1000 = t at h6 ⊢
    generalize x.toInt.natAbs = nx at h5 h6
    have hq : nx.div 1000 = nx / 1000 := rfl
    rw [hq] at h6
    have h3 : t.bmod (2 ^ 32) = t := by
      rw [Int.bmod_eq_of_le] <;> omega
    rw [h3]
    omega
  generalize wi * tone h k / 1000 = y at *
  generalize zs h k = z at *
  grind
theorem pull_hi {wi : Int32} {h : HS} {k : Nat} (b : 0 ≤ zs h k ∧ zs h k ≤ 100) (c : ¬ zs h k + wi * tone h k / 1000 < 2) : zs h k + wi * tone h k / 1000 - 2 = pull wi h k := by
  unfold pull mx
  generalize zs h k + wi * tone h k / 1000 = y at *
  grind
theorem rowS_next {F : Nat → Nat → Int32} {wi da : Int32} {h : HS} {k : Nat} (h0 : ∀ i, i ≠ k → F i = rowS (hPart 0 k wi da h) i) (a0 : F k 0 = zb h k) (a1 : F k 1 = zw h k) (a2 : F k 2 = nD wi da h k) (a3 : F k 3 = nS wi h k) (a4 : F k 4 = nO wi h k) (a5 : F k 5 = nR wi h k) (a6 : ∀ j, F k (j + 6) = 0) : F = rowS (hPart 0 (k + 1) wi da h) := by
  have pn : ∀ g n : Nat → Int32, part 0 (k + 1) g n k = n k := fun g n => by unfold part; rw [if_pos (by omega)]
  have po : ∀ (g n : Nat → Int32) (i : Nat), i ≠ k → part 0 (k + 1) g n i = part 0 k g n i := fun g n i hi => by
    unfold part
    by_cases z : i < k
    · rw [if_pos (by omega), if_pos (by omega)]
    · rw [if_neg (by omega), if_neg (by omega)]
  funext i j
  by_cases hi : i = k
  · subst hi
    rcases (show j = 0 ∨ j = 1 ∨ j = 2 ∨ j = 3 ∨ j = 4 ∨ j = 5 ∨ ∃ z, j = z + 6 from by
        rcases Nat.lt_or_ge j 6 with z | z
        · omega
        · exact Or.inr (Or.inr (Or.inr (Or.inr (Or.inr (Or.inr ⟨j - 6, by omega⟩)))))) with rfl | rfl | rfl | rfl | rfl | rfl | ⟨z, rfl⟩
    · exact a0
    · exact a1
    · exact a2.trans (pn _ _).symm
    · exact a3.trans (pn _ _).symm
    · exact a4.trans (pn _ _).symm
    · exact a5.trans (pn _ _).symm
    · exact a6 z
  · rw [h0 i hi]
    rcases (show j = 0 ∨ j = 1 ∨ j = 2 ∨ j = 3 ∨ j = 4 ∨ j = 5 ∨ ∃ z, j = z + 6 from by
        rcases Nat.lt_or_ge j 6 with z | z
        · omega
        · exact Or.inr (Or.inr (Or.inr (Or.inr (Or.inr (Or.inr ⟨j - 6, by omega⟩)))))) with rfl | rfl | rfl | rfl | rfl | rfl | ⟨z, rfl⟩
    · rfl
    · rfl
    · exact (po _ _ i hi).symm
    · exact (po _ _ i hi).symm
    · exact (po _ _ i hi).symm
    · exact (po _ _ i hi).symm
    · rfl
theorem sp_skip {wi da : Int32} {h : HS} {k : Nat} (hz : zo h k = 0) : rowS (hPart 0 k wi da h) = rowS (hPart 0 (k + 1) wi da h) := by rw [hPart_skip (Nat.zero_le _) hz]
theorem hp_at (wi da : Int32) (h : HS) (k : Nat) : zd (hPart 0 k wi da h) k = zd h k ∧ zs (hPart 0 k wi da h) k = zs h k ∧ zo (hPart 0 k wi da h) k = zo h k ∧ zr (hPart 0 k wi da h) k = zr h k := ⟨part_at, part_at, part_at, part_at⟩
theorem sp_brk {wi da y : Int32} {h : HS} {k : Nat} (hz : ¬ zo h k = 0) (hb : 100 < pull wi h k) : rset (rset (rset (rset (rset (rset (rowS (hPart 0 k wi da h)) k 3 y) k 3 (pull wi h k)) k 4 0) k 3 0) k 2 0) k 5 (zr h k + 1) = rowS (hPart 0 (k + 1) wi da h) := by
  refine rowS_next (fun i hi => by simp [rset, hi]) ?_ ?_ ?_ ?_ ?_ ?_ (fun j => ?_)
  · simp [rset, upd, rowS]; rfl
  · simp [rset, upd, rowS]; rfl
  · simp [rset, upd, nD, hz, hb]
  · simp [rset, upd, nS, hz, hb]
  · simp [rset, upd, nO, hz, hb]
  · simp [rset, upd, nR, hz, hb]
  · simp [rset, upd, rowS]
theorem sp_keep {wi da y v : Int32} {h : HS} {k : Nat} (hz : ¬ zo h k = 0) (hb : ¬ 100 < pull wi h k) (hv : v = slipd da (pull wi h k) (zd h k)) : rset (rset (rset (rowS (hPart 0 k wi da h)) k 3 y) k 3 (pull wi h k)) k 2 v = rowS (hPart 0 (k + 1) wi da h) := by
  have ha := hp_at wi da h k
  refine rowS_next (fun i hi => by simp [rset, hi]) ?_ ?_ ?_ ?_ ?_ ?_ (fun j => ?_)
  · simp [rset, upd, rowS]; rfl
  · simp [rset, upd, rowS]; rfl
  · simp [rset, upd, nD, hz, hb, hv]
  · simp [rset, upd, nS, hz, hb]
  · simp only [rset, if_pos, upd]
    show zo (hPart 0 k wi da h) k = nO wi h k
    rw [ha.2.2.1]; unfold nO; rw [if_neg hz, if_neg hb]
  · simp only [rset, if_pos, upd]
    show zr (hPart 0 k wi da h) k = nR wi h k
    rw [ha.2.2.2]; unfold nR; rw [if_neg hz, if_neg hb]
  · simp [rset, upd, rowS]
theorem sp_keep0 {wi da y : Int32} {h : HS} {k : Nat} (hz : ¬ zo h k = 0) (hb : ¬ 100 < pull wi h k) (hv : zd h k = slipd da (pull wi h k) (zd h k)) : rset (rset (rowS (hPart 0 k wi da h)) k 3 y) k 3 (pull wi h k) = rowS (hPart 0 (k + 1) wi da h) := by
  have ha := hp_at wi da h k
  refine rowS_next (fun i hi => by simp [rset, hi]) ?_ ?_ ?_ ?_ ?_ ?_ (fun j => ?_)
  · simp [rset, upd, rowS]; rfl
  · simp [rset, upd, rowS]; rfl
  · simp only [rset, if_pos, upd]
    show zd (hPart 0 k wi da h) k = nD wi da h k
    rw [ha.1]; unfold nD; rw [if_neg hz, if_neg hb]; exact hv
  · simp [rset, upd, nS, hz, hb]
  · simp only [rset, if_pos, upd]
    show zo (hPart 0 k wi da h) k = nO wi h k
    rw [ha.2.2.1]; unfold nO; rw [if_neg hz, if_neg hb]
  · simp only [rset, if_pos, upd]
    show zr (hPart 0 k wi da h) k = nR wi h k
    rw [ha.2.2.2]; unfold nR; rw [if_neg hz, if_neg hb]
  · simp [rset, upd, rowS]
/-- the drift of the simulation is that of the class -/
theorem sd_1 {da s d : Int32} (b : -50 ≤ d ∧ d ≤ 50) (h1 : 49 < s) (h2 : -50 < d) : d - 1 = slipd da s d := by
  unfold slipd mx; split <;> grind
theorem sd_2 {da s d : Int32} (b : -50 ≤ d ∧ d ≤ 50) (h1 : 49 < s) (h2 : ¬ -50 < d) : d = slipd da s d := by
  unfold slipd mx; split <;> grind
theorem sd_3 {da s d : Int32} (b : -50 ≤ d ∧ d ≤ 50) (h1 : ¬ 49 < s) (h2 : 5 < da) (h3 : d < 50) : d + 1 = slipd da s d := by
  unfold slipd mn; split <;> grind
theorem sd_4 {da s d : Int32} (b : -50 ≤ d ∧ d ≤ 50) (h1 : ¬ 49 < s) (h2 : 5 < da) (h3 : ¬ d < 50) : d = slipd da s d := by
  unfold slipd mn; split <;> grind
theorem sd_5 {da s d : Int32} (h1 : ¬ 49 < s) (h2 : ¬ 5 < da) : d = slipd da s d := by
  unfold slipd mn; split <;> grind
theorem sw_1 {da x : Int32} (h : 4 < da) : mn 30 (x + 1) = swell da x := by
  unfold swell; rw [if_neg (by grind)]
theorem sw_2 {da x : Int32} (h : ¬ 4 < da) : mx 0 (x - 1) = swell da x := by
  unfold swell; rw [if_pos (by grind)]
theorem cnt_s1 {p : Nat → Bool} {k : Nat} (h : p k = true) : cnt p 0 (k + 1) = cnt p 0 k + 1 := by
  show cnt p 0 k + (if p (0 + k) then 1 else 0) = _
  rw [Nat.zero_add, h]; rfl
theorem cnt_s0 {p : Nat → Bool} {k : Nat} (h : p k = false) : cnt p 0 (k + 1) = cnt p 0 k := by
  show cnt p 0 k + (if p (0 + k) then 1 else 0) = _
  rw [Nat.zero_add, h]; rfl
