theorem allN_congr {f g : Nat → Bool} {n : Nat} (h : ∀ j, j < n → f j = g j) : allN f n = allN g n := by
  induction n with
  | zero => rfl
  | succ n ih =>
    show (allN f n && f n) = (allN g n && g n)
    rw [ih (fun j hj => h j (by omega)), h n (by omega)]
/-! a string's hours are its own: what one string does does not hang on the others -/
def alk (k : Nat) (h g : HS) : Prop := zb h = zb g ∧ zw h = zw g ∧ zd h k = zd g k ∧ zs h k = zs g k ∧ zo h k = zo g k ∧ zl h = zl g ∧ zh h = zh g
theorem tone_alk {k : Nat} {h g : HS} (e : alk k h g) : tone h k = tone g k := by
  obtain ⟨e1, e2, e3, e4, e5, e6, e7⟩ := e
  unfold tone
  rw [e1, e2, e3, e5, e6]
theorem alk_hour {f u k : Nat} {wi da : Int32} {h g : HS} (hf : f ≤ k) (hu : k < u) (hk : k < 12) (e : alk k h g) : alk k (hHour 0 12 wi da h) (hHour f u wi da g) := by
  have et := tone_alk e
  obtain ⟨e1, e2, e3, e4, e5, e6, e7⟩ := e
  have ep : pull wi h k = pull wi g k := by unfold pull; rw [e4, et]
  have pin : ∀ (a b : Nat → Int32), part 0 12 a b k = b k := fun a b => by unfold part; rw [if_pos (by omega)]
  have pin2 : ∀ (a b : Nat → Int32), part f u a b k = b k := fun a b => by unfold part; rw [if_pos (by omega)]
  refine ⟨e1, e2, ?_, ?_, ?_, ?_, ?_⟩
  · show part 0 12 (zd h) (nD wi da h) k = part f u (zd g) (nD wi da g) k
    rw [pin, pin2]; unfold nD; rw [e5, ep, e3]
  · show part 0 12 (zs h) (nS wi h) k = part f u (zs g) (nS wi g) k
    rw [pin, pin2]; unfold nS; rw [e5, ep, e4]
  · show part 0 12 (zo h) (nO wi h) k = part f u (zo g) (nO wi g) k
    rw [pin, pin2]; unfold nO; rw [e5, ep]
  · show swell da (zl h) = swell da (zl g)
    rw [e6]
  · show zh h + 1 = zh g + 1
    rw [e7]
theorem alk_hN {f u k : Nat} {wt dt : Nat → Int32} {h : HS} (hf : f ≤ k) (hu : k < u) (hk : k < 12) (n : Nat) : alk k (hN 0 12 wt dt h n) (hN f u wt dt h n) := by
  induction n with
  | zero => exact ⟨rfl, rfl, rfl, rfl, rfl, rfl, rfl⟩
  | succ n ih =>
    show alk k (hHour 0 12 (wt (zh (hN 0 12 wt dt h n) % 12)) (dt (zh (hN 0 12 wt dt h n) % 12)) (hN 0 12 wt dt h n)) (hHour f u (wt (zh (hN f u wt dt h n) % 12)) (dt (zh (hN f u wt dt h n) % 12)) (hN f u wt dt h n))
    rw [ih.2.2.2.2.2.2]
    exact alk_hour hf hu hk ih
theorem hold_eq {lo sz : Nat} {tn : Nat → Int32} {wt dt : Nat → Int32} {h : HS} (hl : lo + sz ≤ 12) (n : Nat) : tuned (hN 0 12 wt dt h n) lo sz tn = tuned (hN lo (lo + sz) wt dt h n) lo sz tn := by
  refine allN_congr (fun j hj => ?_)
  have e := alk_hN (f := lo) (u := lo + sz) (k := lo + j) (wt := wt) (dt := dt) (h := h) (by omega) (by omega) (by omega) n
  unfold fits1
  rw [tone_alk e, e.2.2.2.2.1]
theorem cnt_0 {p : Nat → Bool} {n : Nat} (h : cnt p 0 n = 0) {j : Nat} (hj : j < n) : p j = false := by
  induction n with
  | zero => omega
  | succ n ih =>
    have h' : cnt p 0 n + (if p (0 + n) then 1 else 0) = 0 := h
    rcases Nat.lt_succ_iff_lt_or_eq.mp hj with z | z
    · exact ih (by omega) z
    · subst z
      rw [Nat.zero_add] at h'
      cases hp : p j with
      | false => rfl
      | true => rw [hp] at h'; simp at h'
def dn (n : Nat) : Nat := if n < 4 then 4 - n else n - 4
def xD (n : Nat) : Int32 := nI n - 4
theorem ab_dn_all : ∀ n, n < 9 → ab (nI n - 4) = nI (dn n) := by decide +kernel
theorem dn_le {n : Nat} (h : n < 9) : dn n ≤ 4 := by unfold dn; split <;> omega
def fwFN (c : Nat → Bool) (r : Nat → Nat) : Nat → Nat
  | 0 => 1000
  | n + 1 => if c n then min (fwFN c r n) (dn n + r n) else fwFN c r n
theorem fwF_N {c : Int32 → Bool} {rI : Int32 → Int32} {rN : Nat → Nat} : ∀ N, N ≤ 9 → (∀ i, i < N → rI (nI i - 4) = nI (rN i) ∧ rN i ≤ 1000) → fwF c rI N = nI (fwFN (fun i => c (nI i - 4)) rN N) ∧ fwFN (fun i => c (nI i - 4)) rN N ≤ 1000 := by
  intro N
  induction N with
  | zero => intro _ _; exact ⟨rfl, Nat.le_refl _⟩
  | succ N ih =>
    intro hN hr
    obtain ⟨e, hle⟩ := ih (by omega) (fun i hi => hr i (by omega))
    obtain ⟨er, hr1⟩ := hr N (by omega)
    have hd := dn_le (n := N) (by omega)
    show (if c (nI N - 4) then mn (fwF c rI N) (ab (nI N - 4) + rI (nI N - 4)) else fwF c rI N) = nI (if c (nI N - 4) then min (fwFN (fun i => c (nI i - 4)) rN N) (dn N + rN N) else fwFN (fun i => c (nI i - 4)) rN N) ∧ (if c (nI N - 4) then min (fwFN (fun i => c (nI i - 4)) rN N) (dn N + rN N) else fwFN (fun i => c (nI i - 4)) rN N) ≤ 1000
    by_cases hc : c (nI N - 4) = true
    · rw [if_pos hc, if_pos hc]
      refine ⟨?_, by omega⟩
      rw [e, er, ab_dn_all N (by omega), nI_add]
      unfold mn
      by_cases hm : dn N + rN N < fwFN (fun i => c (nI i - 4)) rN N
      · rw [if_pos ((nI_ltI (by omega) (by omega)).mpr hm), Nat.min_eq_right (by omega)]
      · rw [if_neg (fun z => hm ((nI_ltI (by omega) (by omega)).mp z)), Nat.min_eq_left (by omega)]
    · rw [if_neg hc, if_neg hc]
      exact ⟨e, hle⟩
section FW
variable (h : HS) (lo : Nat) (tn : Nat → Int32)
def fwN : Nat → Nat → Int32 → Int32 → Nat
  | 0, j, two, one => if fits1 h lo tn (j - 1) one two then 0 else 1000
  | d + 1, j, two, one => fwFN (fun n => fwC h lo tn j two one (nI n - 4)) (fun n => fwN d (j + 1) one (nI n - 4)) 9
theorem fw_N : ∀ d j two one, fw h lo tn d j two one = nI (fwN h lo tn d j two one) ∧ fwN h lo tn d j two one ≤ 1000 := by
  intro d
  induction d with
  | zero =>
    intro j two one
    show (if fits1 h lo tn (j - 1) one two then (0 : Int32) else 1000) = nI (if fits1 h lo tn (j - 1) one two then 0 else 1000) ∧ (if fits1 h lo tn (j - 1) one two then 0 else 1000) ≤ 1000
    by_cases hf : fits1 h lo tn (j - 1) one two = true
    · rw [if_pos hf, if_pos hf]; exact ⟨rfl, by omega⟩
    · rw [if_neg hf, if_neg hf]; exact ⟨rfl, by omega⟩
  | succ d ih =>
    intro j two one
    exact fwF_N (c := fwC h lo tn j two one) (rI := fun x => fw h lo tn d (j + 1) one x) (rN := fun n => fwN h lo tn d (j + 1) one (nI n - 4)) 9 (by omega) (fun i _ => ih (j + 1) one (nI i - 4))
end FW
/-! the law's own checks -/
def nx (u : US) : US := uH u (hStep 0 12 (uw u) (ud u) (uh u))
theorem INV_nx {u : US} (I : INV u) (hz : zh (uh u) < 999999999) : INV (nx u) := INV_hour I hz
theorem zh_nx (u : US) : zh (uh (nx u)) = zh (uh u) + 1 := rfl
def wasG (h : HS) (k w : Nat) : Nat → Nat → Int32 := fun i j => if (i < k ∧ j < 7) ∨ (i = k ∧ j < w) then factH h i j else 0
theorem wasG_0 (h : HS) : (fun _ _ => (0 : Int32)) = wasG h 0 0 := by
  funext i j
  unfold wasG
  rw [if_neg (by omega)]
theorem wasG_s (h : HS) (k : Nat) {w : Nat} (hw : w < 7) : rset (wasG h k w) k w (factH h k w) = wasG h k (w + 1) := by
  funext i j
  unfold rset
  by_cases hi : i = k
  · subst hi
    rw [if_pos rfl]
    unfold upd
    by_cases hj : j = w
    · subst hj; rw [if_pos rfl]; unfold wasG; rw [if_pos (by omega)]
    · rw [if_neg hj]; unfold wasG
      by_cases z : j < w
      · rw [if_pos (by omega), if_pos (by omega)]
      · rw [if_neg (by omega), if_neg (by omega)]
  · rw [if_neg hi]; unfold wasG
    by_cases z : i < k ∧ j < 7
    · rw [if_pos (by omega), if_pos (by omega)]
    · rw [if_neg (by omega), if_neg (by omega)]
theorem wasG_7 (h : HS) (k : Nat) : wasG h k 7 = wasG h (k + 1) 0 := by
  funext i j
  unfold wasG
  by_cases z : i < k + 1 ∧ j < 7
  · rw [if_pos (by omega), if_pos (by omega)]
  · rw [if_neg (by omega), if_neg (by omega)]
theorem wasG_at {h : HS} {i j : Nat} (hi : i < 12) (hj : j < 7) : wasG h 12 0 i j = factH h i j := by unfold wasG; rw [if_pos (by omega)]
/-- numbers told one by one -/
def lsF (f : Nat → Int32) (k : Nat) : Nat → Int32 := fun j => if j < k then f j else 0
theorem lsF_0 (f : Nat → Int32) : (fun _ => (0 : Int32)) = lsF f 0 := by
  funext j
  unfold lsF
  rw [if_neg (by omega)]
theorem lsF_s (f : Nat → Int32) (k : Nat) : upd (lsF f k) k (f k) = lsF f (k + 1) := by
  funext j
  unfold lsF upd
  by_cases z : j = k
  · subst z; rw [if_pos rfl, if_pos (by omega)]
  · rw [if_neg z]
    show (if j < k then f j else 0) = _
    by_cases y : j < k
    · rw [if_pos y, if_pos (by omega)]
    · rw [if_neg y, if_neg (by omega)]
theorem lsF_at {f : Nat → Int32} {k j : Nat} (hj : j < k) : lsF f k j = f j := by unfold lsF; rw [if_pos hj]
theorem exFor_1 {k : Nat} (hk : k < 12) : exFor 1 (nI k) = 0 := by
  unfold exFor
  rw [isS_k hk]
  rfl
theorem ix_1 : ix 1 = 1 := ix_nI (j := 1) (by decide)
/-- the tone that is foreseen is the one that comes -/
theorem fore_eq (u : US) {k : Nat} (hk : k < 12) : tone (hN (ix (nI k)) (ix (nI k) + 1) (uw u) (ud u) (uh u) (ix 1)) (ix (nI k)) = tone (uh (nx u)) k := by
  rw [ix_nI (by omega), ix_1]
  exact (tone_alk (alk_hN (f := k) (u := k + 1) (wt := uw u) (dt := ud u) (h := uh u) (Nat.le_refl _) (by omega) hk 1)).symm
theorem pass_u (u : US) : uH u (hN 0 12 (uw u) (ud u) (uh u) (ix 1)) = nx u := by rw [ix_1]; rfl
theorem pass_r (u : US) : nI (passB (uw u) (ud u) (uh u) (ix 1)) = nI (brkN 0 12 (uw u) (uh u)) := by
  rw [ix_1]
  show nI (0 + brkN 0 12 (uw u) (uh u)) = _
  rw [Nat.zero_add]
theorem now_1 {u : US} (I : INV u) (c : ¬ ud u (zh (uh u) % 12) < 5) : mx 0 (mn 30 (zl (uh u) + 1)) = zl (uh (nx u)) := by
  obtain ⟨n, hn, en⟩ := I.2.2.1
  show _ = swell (ud u (zh (uh u) % 12)) (zl (uh u))
  unfold swell
  rw [if_neg c, en]
  have ha : ∀ n, n ≤ 30 → mx 0 (mn 30 (nI n + 1)) = mn 30 (nI n + 1) := by decide +kernel
  exact ha n hn
theorem now_2 {u : US} (I : INV u) (c : ud u (zh (uh u) % 12) < 5) : mx 0 (mn 30 (zl (uh u) + (-1))) = zl (uh (nx u)) := by
  obtain ⟨n, hn, en⟩ := I.2.2.1
  show _ = swell (ud u (zh (uh u) % 12)) (zl (uh u))
  unfold swell
  rw [if_pos c, en]
  have ha : ∀ n, n ≤ 30 → mx 0 (mn 30 (nI n + (-1))) = mx 0 (nI n - 1) := by decide +kernel
  exact ha n hn
theorem lowF_spec (p : Nat → Bool) : ∀ n k, (lowF p k n = -1 ∧ ∀ j, k ≤ j → j < k + n → p j = false) ∨ ∃ j, k ≤ j ∧ j < k + n ∧ p j = true ∧ (∀ i, k ≤ i → i < j → p i = false) ∧ lowF p k n = nI j := by
  intro n
  induction n with
  | zero => intro k; exact Or.inl ⟨rfl, fun j h1 h2 => absurd h2 (by omega)⟩
  | succ n ih =>
    intro k
    have e : lowF p k (n + 1) = if p k then nI k else lowF p (k + 1) n := rfl
    cases hp : p k with
    | true =>
      refine Or.inr ⟨k, Nat.le_refl _, by omega, hp, fun i h1 h2 => absurd h2 (by omega), ?_⟩
      rw [e, hp]; rfl
    | false =>
      rw [hp] at e
      rcases ih (k + 1) with ⟨a, b⟩ | ⟨j, h1, h2, h3, h4, h5⟩
      · refine Or.inl ⟨by rw [e]; exact a, fun j h1 h2 => ?_⟩
        rcases Nat.eq_or_lt_of_le h1 with z | z
        · subst z; exact hp
        · exact b j z (by omega)
      · refine Or.inr ⟨j, by omega, by omega, h3, fun i g1 g2 => ?_, by rw [e]; exact h5⟩
        rcases Nat.eq_or_lt_of_le g1 with z | z
        · subst z; exact hp
        · exact h4 i z g2
theorem cnt_ex {p : Nat → Bool} : ∀ {n : Nat}, ¬ cnt p 0 n = 0 → ∃ j, j < n ∧ p j = true := by
  intro n
  induction n with
  | zero => intro h; exact absurd rfl h
  | succ n ih =>
    intro h
    cases hp : p n with
    | true => exact ⟨n, by omega, hp⟩
    | false =>
      rw [cnt_s0 hp] at h
      obtain ⟨j, h1, h2⟩ := ih h
      exact ⟨j, by omega, h2⟩
theorem nO_brk {wi : Int32} {h : HS} {k : Nat} (hb : brk wi h k = true) : nO wi h k = 0 := by
  obtain ⟨h1, h2⟩ := of_decide_eq_true hb
  unfold nO
  rw [if_neg h1, if_pos h2]
theorem zo_nx (u : US) {k : Nat} (hk : k < 12) : zo (uh (nx u)) k = nO (uw u (zh (uh u) % 12)) (uh u) k := part12 hk
theorem zs_nx (u : US) {k : Nat} (hk : k < 12) : zs (uh (nx u)) k = nS (uw u (zh (uh u) % 12)) (uh u) k := part12 hk
theorem zr_nx (u : US) {k : Nat} (hk : k < 12) : zr (uh (nx u)) k = nR (uw u (zh (uh u) % 12)) (uh u) k := part12 hk
theorem zd_nx (u : US) {k : Nat} (hk : k < 12) : zd (uh (nx u)) k = nD (uw u (zh (uh u) % 12)) (ud u (zh (uh u) % 12)) (uh u) k := part12 hk
/-- if strings broke, the one that was told to break first did -/
theorem first_hit {u : US} (h : ¬ brkN 0 12 (uw u) (uh u) = 0) : ∃ j : Nat, j < 12 ∧ firF (uw u) (ud u) (uh u) 0 200 = nI j ∧ zo (uh (nx u)) j = 0 := by
  have e : firF (uw u) (ud u) (uh u) 0 200 = lowF (lowB (uh u) (uh (nx u))) 0 12 := by
    show (if brkN 0 12 (uw u) (uh u) = 0 then firF (uw u) (ud u) (uh u) (0 + 1) 199 else lowF (lowB (uh u) (hN 0 12 (uw u) (ud u) (uh u) (0 + 1))) 0 12) = _
    rw [if_neg h]
    rfl
  obtain ⟨j, hj, hb⟩ := cnt_ex (n := 12) h
  have hl : lowB (uh u) (uh (nx u)) j = true := decide_eq_true ⟨(of_decide_eq_true hb).1, by rw [zo_nx u hj]; exact nO_brk hb⟩
  rcases lowF_spec (lowB (uh u) (uh (nx u))) 12 0 with ⟨-, hn⟩ | ⟨i, h1, h2, h3, -, h5⟩
  · have := hn j (Nat.zero_le _) (by omega)
    rw [hl] at this
    cases this
  · exact ⟨i, by omega, e.trans h5, (of_decide_eq_true h3).2⟩
/-- a string's strain as the law reckons it -/
def stq (u : US) (k : Nat) : Int32 := if zo (uh u) k = 0 then 0 else pull (uw u (zh (uh u) % 12)) (uh u) k
abbrev bq (u : US) (k : Nat) : Bool := brk (uw u (zh (uh u) % 12)) (uh u) k
section CHK
variable {u : US} {k : Nat}
theorem ck_zo (hk : k < 12) (h : ¬ zo (uh (nx u)) k = 0) : ¬ zo (uh u) k = 0 ∧ ¬ 100 < pull (uw u (zh (uh u) % 12)) (uh u) k := by
  rw [zo_nx u hk] at h
  unfold nO at h
  by_cases hz : zo (uh u) k = 0
  · rw [if_pos hz] at h; exact absurd hz h
  · rw [if_neg hz] at h
    by_cases hb : 100 < pull (uw u (zh (uh u) % 12)) (uh u) k
    · rw [if_pos hb] at h; exact absurd rfl h
    · exact ⟨hz, hb⟩
theorem ck_brk (hk : k < 12) (h : bq u k = true) : zo (uh (nx u)) k = 0 ∧ zr (uh (nx u)) k = zr (uh u) k + 1 := by
  refine ⟨by rw [zo_nx u hk]; exact nO_brk h, ?_⟩
  obtain ⟨h1, h2⟩ := of_decide_eq_true h
  rw [zr_nx u hk]
  unfold nR
  rw [if_neg h1, if_pos h2]
theorem ck_no (hk : k < 12) (h : bq u k = false) : zo (uh (nx u)) k = zo (uh u) k ∧ zr (uh (nx u)) k = zr (uh u) k := by
  have hb := of_decide_eq_false h
  rw [zo_nx u hk, zr_nx u hk]
  unfold nO nR
  by_cases hz : zo (uh u) k = 0
  · rw [if_pos hz, if_pos hz]; exact ⟨rfl, rfl⟩
  · rw [if_neg hz, if_neg hz, if_neg (fun z => hb ⟨hz, z⟩), if_neg (fun z => hb ⟨hz, z⟩)]; exact ⟨rfl, rfl⟩
theorem ck_zs (hk : k < 12) (h : ¬ zo (uh (nx u)) k = 0) : zs (uh (nx u)) k = stq u k := by
  obtain ⟨h1, h2⟩ := ck_zo hk h
  rw [zs_nx u hk]
  unfold nS stq
  rw [if_neg h1, if_neg h2, if_neg h1]
theorem ck_zd (hk : k < 12) (h : ¬ zo (uh (nx u)) k = 0) : zd (uh (nx u)) k = slipd (ud u (zh (uh u) % 12)) (stq u k) (zd (uh u) k) := by
  obtain ⟨h1, h2⟩ := ck_zo hk h
  rw [zd_nx u hk]
  unfold nD stq
  rw [if_neg h1, if_neg h2, if_neg h1]
theorem ck_off (I : INV (nx u)) (hk : k < 12) (h : zo (uh (nx u)) k = 0) : zs (uh (nx u)) k = 0 ∧ zd (uh (nx u)) k = 0 := by
  obtain ⟨bb, ww, dd, ss, h1, h2, h3, h4, h5, h6, h7, h8, h9⟩ := I.2.1 k hk
  exact h9 h
theorem ck_01 (I : INV u) (hk : k < 12) (h : ¬ zo (uh u) k = 0) : zo (uh u) k = 1 := (I.1.1 k hk).resolve_left h
theorem stq_0 (h : zo (uh u) k = 0) : 0 = stq u k := by unfold stq; rw [if_pos h]
theorem stq_1 (h : ¬ zo (uh u) k = 0) : mx 0 (zs (uh u) k + uw u (zh (uh u) % 12) * tone (uh u) k / 1000 - 2) = stq u k := by unfold stq; rw [if_neg h]; rfl
theorem bq_n (h : ¬ zo (uh u) k = 1) (I : INV u) (hk : k < 12) : 0 = bI (bq u k) := by
  have h0 : zo (uh u) k = 0 := Decidable.byContradiction fun z => h (ck_01 I hk z)
  rw [show bq u k = false from brk_no h0]
  rfl
theorem bq_s (h1 : zo (uh u) k = 1) (h : stq u k ≤ 100) : 0 = bI (bq u k) := by
  have h0 : ¬ zo (uh u) k = 0 := by rw [h1]; decide
  unfold stq at h
  rw [if_neg h0] at h
  rw [show bq u k = false from brk_no2 (Int32.not_lt.mpr h)]
  rfl
theorem bq_y (h1 : zo (uh u) k = 1) (h : ¬ stq u k ≤ 100) : 1 = bI (bq u k) := by
  have h0 : ¬ zo (uh u) k = 0 := by rw [h1]; decide
  unfold stq at h
  rw [if_neg h0] at h
  rw [show bq u k = true from brk_yes h0 (Int32.not_le.mp h)]
  rfl
end CHK
section DRF
variable {da s d e : Int32}
theorem by_1 (b : -50 ≤ d ∧ d ≤ 50) (he : e = slipd da s d) (h1 : ¬ s < 50) (h2 : d ≤ -50) : e - d = 0 := by
  subst he; unfold slipd mx; rw [if_neg h1]; split <;> grind
theorem by_2 (b : -50 ≤ d ∧ d ≤ 50) (he : e = slipd da s d) (h1 : ¬ s < 50) (h2 : ¬ d ≤ -50) : e - d = -1 := by
  subst he; unfold slipd mx; rw [if_neg h1]; split <;> grind
theorem by_3 (he : e = slipd da s d) (h1 : s < 50) (h2 : da < 6) : e - d = 0 := by
  subst he; unfold slipd; rw [if_pos h1, if_pos h2]; grind
theorem by_4 (b : -50 ≤ d ∧ d ≤ 50) (he : e = slipd da s d) (h1 : s < 50) (h2 : ¬ da < 6) (h3 : 50 ≤ d) : e - d = 0 := by
  subst he; unfold slipd mn; rw [if_pos h1, if_neg h2]; split <;> grind
theorem by_5 (b : -50 ≤ d ∧ d ≤ 50) (he : e = slipd da s d) (h1 : s < 50) (h2 : ¬ da < 6) (h3 : ¬ 50 ≤ d) : e - d = 1 := by
  subst he; unfold slipd mn; rw [if_pos h1, if_neg h2]; split <;> grind
end DRF
/-- how many broke, counted string by string -/
theorem many_is (u : US) : ∀ n, n ≤ 12 → sumN (fun j => zr (uh (nx u)) j - zr (uh u) j) n = nI (cnt (bq u) 0 n) := by
  intro n
  induction n with
  | zero => intro _; rfl
  | succ n ih =>
    intro hn
    show sumN _ n + (zr (uh (nx u)) n - zr (uh u) n) = _
    rw [ih (by omega)]
    cases hb : bq u n with
    | true =>
      rw [(ck_brk (by omega) hb).2, cnt_s1 hb, ← nI_add]
      have h1 : nI 1 = 1 := rfl
      rw [h1]
      grind
    | false =>
      rw [(ck_no (by omega) hb).2, cnt_s0 hb]
      grind
/-! how long a chord holds -/
theorem hN_sh (f v : Nat) (wt dt : Nat → Int32) (h : HS) (n : Nat) : hN f v wt dt (hStep f v wt dt h) n = hN f v wt dt h (n + 1) := by
  induction n with
  | zero => rfl
  | succ n ih =>
    show hStep f v wt dt (hN f v wt dt (hStep f v wt dt h) n) = hStep f v wt dt (hN f v wt dt h (n + 1))
    rw [ih]
def hp (u : US) (c k : Nat) : Bool := tuned (hN 0 12 (uw u) (ud u) (uh u) k) (ul u c) (uz u c) (ut u c)
theorem hp_nx (u : US) (c k : Nat) : hp (nx u) c k = hp u c (k + 1) := by
  show tuned (hN 0 12 (uw u) (ud u) (hStep 0 12 (uw u) (ud u) (uh u)) k) _ _ _ = _
  rw [hN_sh]
  rfl
def hq (u : US) (c : Nat) : Int32 := lowF (fun k => !(holdP u c k)) 0 201
theorem hp_hold {u : US} {c : Nat} (hl : ul u c + uz u c ≤ 12) (k : Nat) : holdP u c k = hp u c k := (hold_eq hl k).symm
theorem hq_spec {u : US} {c : Nat} (hl : ul u c + uz u c ≤ 12) : (hq u c = -1 ∧ ∀ j, j < 201 → hp u c j = true) ∨ ∃ j, j < 201 ∧ hp u c j = false ∧ (∀ i, i < j → hp u c i = true) ∧ hq u c = nI j := by
  rcases lowF_spec (fun k => !(holdP u c k)) 201 0 with ⟨a, b⟩ | ⟨j, h1, h2, h3, h4, h5⟩
  · refine Or.inl ⟨a, fun j hj => ?_⟩
    have := b j (Nat.zero_le _) (by omega)
    rw [← hp_hold hl]
    cases hh : holdP u c j with
    | true => rfl
    | false => simp [hh] at this
  · refine Or.inr ⟨j, by omega, ?_, fun i hi => ?_, h5⟩
    · rw [← hp_hold hl]
      cases hh : holdP u c j with
      | false => rfl
      | true => simp [hh] at h3
    · have := h4 i (Nat.zero_le _) hi
      rw [← hp_hold hl]
      cases hh : holdP u c i with
      | true => rfl
      | false => simp [hh] at this
theorem snd_hp (u : US) (c : Nat) : snd u c = hp u c 0 := rfl
theorem snd_nx (u : US) (c : Nat) : snd (nx u) c = hp u c 1 := hp_nx u c 0
theorem nI_1' : nI 1 = 1 := rfl
theorem hq_gt {u : US} {c : Nat} (hl : ul u c + uz u c ≤ 12) (h : ¬ hq u c ≤ 1) : hq (nx u) c = hq u c - 1 := by
  rcases hq_spec hl with ⟨a, -⟩ | ⟨j, h1, h2, h3, h5⟩
  · rw [a] at h; exact absurd (by decide) h
  · rw [h5] at h
    have hj : 1 < j := by
      rcases Nat.lt_or_ge 1 j with z | z
      · exact z
      · exact absurd ((nI_leI (a := j) (b := 1) (by omega) (by decide)).mpr z) h
    rcases hq_spec (u := nx u) (c := c) hl with ⟨a, b⟩ | ⟨i, g1, g2, g3, g5⟩
    · have := b (j - 1) (by omega)
      rw [hp_nx, show j - 1 + 1 = j by omega, h2] at this
      cases this
    · rw [hp_nx] at g2
      have hi : i + 1 = j := by
        rcases Nat.lt_trichotomy (i + 1) j with z | z | z
        · rw [h3 _ z] at g2; cases g2
        · exact z
        · have := g3 (j - 1) (by omega)
          rw [hp_nx, show j - 1 + 1 = j by omega, h2] at this
          cases this
      rw [g5, h5, ← hi, ← nI_1', pk_sub (by omega)]
      rfl
theorem hq_1 {u : US} {c : Nat} (hl : ul u c + uz u c ≤ 12) (h : hq u c = 1) : snd (nx u) c = false := by
  rw [snd_nx]
  rcases hq_spec hl with ⟨a, -⟩ | ⟨j, h1, h2, h3, h5⟩
  · rw [a] at h; exact absurd h (by decide)
  · rw [h5] at h
    have hj : j = 1 := (nI_eq (a := j) (b := 1) (by omega) (by decide)).mp h
    rw [hj] at h2; exact h2
theorem hq_o {u : US} {c : Nat} (hl : ul u c + uz u c ≤ 12) (h0 : ¬ hq u c = 0) (h1 : ¬ hq u c = 1) : snd (nx u) c = true := by
  rw [snd_nx]
  rcases hq_spec hl with ⟨-, b⟩ | ⟨j, g1, g2, g3, g5⟩
  · exact b 1 (by decide)
  · rw [g5] at h0 h1
    refine g3 1 ?_
    rcases Nat.lt_or_ge 1 j with z | z
    · exact z
    · rcases (show j = 0 ∨ j = 1 by omega) with y | y
      · subst y; exact absurd nI_0 h0
      · subst y; exact absurd nI_1' h1
/-- what sounds is off by five for each string at most -/
theorem off_5 {u : US} (I : INV u) {c : Nat} (hc : c < un u) (hs : snd u c = true) : offBy (uh u) (ul u c) (ut u c) (uz u c) ≤ nI (5 * uz u c) := by
  have hl := (u_c I hc).2.1
  have h4 := (u_c I hc).2.2.1
  have hq9 := snd_q I hc hl
  have key : ∀ n, n ≤ uz u c → ∃ m, m ≤ 5 * n ∧ offBy (uh u) (ul u c) (ut u c) n = nI m := by
    intro n
    induction n with
    | zero => intro _; exact ⟨0, by omega, rfl⟩
    | succ n ih =>
      intro hn
      obtain ⟨m, hm, em⟩ := ih (by omega)
      have hf := allN_at (j := n) (by omega) hs
      rw [fits0, decide_eq_true_iff] at hf
      have hx := hq9 n (by omega)
      have h5 := hf.2
      have ha : ∃ z : Nat, z < 6 ∧ ab (tone (uh u) (ul u c + n) - ut u c n) = nI z := by
        refine in_nat (N := 6) (by decide) ?_ ?_
        · generalize tone (uh u) (ul u c + n) - ut u c n = x at *
          unfold ab
          split <;> grind
        · show _ < (6 : Int32)
          grind
      obtain ⟨z, hz, ez⟩ := ha
      refine ⟨m + z, by omega, ?_⟩
      show offBy (uh u) (ul u c) (ut u c) n + ab (tone (uh u) (ul u c + n) - ut u c n) = _
      rw [em, ez, nI_add]
  obtain ⟨m, hm, em⟩ := key (uz u c) (Nat.le_refl _)
  rw [em]
  exact (nI_leI (by omega) (by omega)).mpr hm
/-! no step is wanted where a chord sounds, and only there -/
theorem fwFN_0 {c : Nat → Bool} {r : Nat → Nat} : fwFN c r 9 = 0 ↔ c 4 = true ∧ r 4 = 0 := by
  have hd : ∀ n, n < 9 → (dn n = 0 ↔ n = 4) := by decide
  have hs : ∀ N, N ≤ 9 → (fwFN c r N = 0 ↔ (4 < N ∧ c 4 = true ∧ r 4 = 0)) := by
    intro N
    induction N with
    | zero => intro _; exact ⟨fun h => absurd h (by show ¬ (1000 : Nat) = 0; decide), fun h => absurd h.1 (by omega)⟩
    | succ N ih =>
      intro hN
      have i1 := ih (by omega)
      have hd1 := hd N (by omega)
      show (if c N then min (fwFN c r N) (dn N + r N) else fwFN c r N) = 0 ↔ _
      by_cases e : N = 4
      · subst e
        cases hc : c 4 with
        | true =>
          rw [if_pos rfl]
          have h0 : dn 4 = 0 := rfl
          have hno : ¬ fwFN c r 4 = 0 := fun z => absurd (i1.mp z).1 (by omega)
          constructor
          · intro h; exact ⟨by omega, rfl, by omega⟩
          · intro h; have := h.2.2; omega
        | false =>
          rw [if_neg (by decide)]
          constructor
          · intro h; exact absurd (i1.mp h).1 (by omega)
          · intro h; exact absurd h.2.1 (by decide)
      · by_cases hc : c N = true
        · rw [if_pos hc]
          constructor
          · intro h
            have h2 : fwFN c r N = 0 := by
              have h3 : ¬ dn N = 0 := fun z => e (hd1.mp z)
              omega
            obtain ⟨a1, a2, a3⟩ := i1.mp h2
            exact ⟨by omega, a2, a3⟩
          · intro h
            have h2 := i1.mpr ⟨by omega, h.2.1, h.2.2⟩
            omega
        · rw [if_neg hc]
          constructor
          · intro h
            obtain ⟨a1, a2, a3⟩ := i1.mp h
            exact ⟨by omega, a2, a3⟩
          · intro h
            exact i1.mpr ⟨by omega, h.2.1, h.2.2⟩
  have := hs 9 (by omega)
  rw [this]
  exact ⟨fun h => h.2, fun h => ⟨by omega, h⟩⟩
theorem four_0 : nI 4 - 4 = 0 := by decide
theorem fwN_1 {h : HS} {lo : Nat} {tn : Nat → Int32} : ∀ d j, 1 ≤ j → (∀ w, j ≤ w → w < j + d → fitsW (zw h (lo + w)) = true) → (fwN h lo tn d j 0 0 = 0 ↔ ∀ w, j - 1 ≤ w → w < j + d → fits1 h lo tn w 0 0 = true) := by
  intro d
  induction d with
  | zero =>
    intro j hj _
    show (if fits1 h lo tn (j - 1) 0 0 then 0 else 1000) = 0 ↔ _
    cases hf : fits1 h lo tn (j - 1) 0 0 with
    | true =>
      rw [if_pos rfl]
      exact ⟨fun _ w h1 h2 => by rw [show w = j - 1 by omega]; exact hf, fun _ => rfl⟩
    | false =>
      rw [if_neg (by decide)]
      refine ⟨fun z => absurd z (by decide), fun z => ?_⟩
      have := z (j - 1) (Nat.le_refl _) (by omega)
      rw [hf] at this
      cases this
  | succ d ih =>
    intro j hj hw
    show fwFN (fun n => fwC h lo tn j 0 0 (nI n - 4)) (fun n => fwN h lo tn d (j + 1) 0 (nI n - 4)) 9 = 0 ↔ _
    rw [fwFN_0]
    show fwC h lo tn j 0 0 (nI 4 - 4) = true ∧ fwN h lo tn d (j + 1) 0 (nI 4 - 4) = 0 ↔ _
    rw [four_0, ih (j + 1) (by omega) (fun w h1 h2 => hw w (by omega) (by omega))]
    have hc : fwC h lo tn j 0 0 0 = fits1 h lo tn (j - 1) 0 0 := by
      unfold fwC
      have e1 : zw h (lo + j) + 0 = zw h (lo + j) := by grind
      have e2 : (0 : Int32) + 0 = 0 := rfl
      rw [e1, e2, hw j (Nat.le_refl _) (by omega), decide_eq_false (show ¬ j = 0 by omega)]
      rfl
    rw [hc]
    constructor
    · rintro ⟨g1, g2⟩ w h1 h2
      rcases Nat.eq_or_lt_of_le h1 with z | z
      · rw [← z]; exact g1
      · exact g2 w (by omega) (by omega)
    · intro g
      exact ⟨g (j - 1) (Nat.le_refl _) (by omega), fun w h1 h2 => g w (by omega) (by omega)⟩
theorem fwN_sz {h : HS} {lo : Nat} {tn : Nat → Int32} {d : Nat} (hw : ∀ w, w < d + 1 → fitsW (zw h (lo + w)) = true) : fwN h lo tn (d + 1) 0 0 0 = 0 ↔ ∀ w, w < d + 1 → fits1 h lo tn w 0 0 = true := by
  show fwFN (fun n => fwC h lo tn 0 0 0 (nI n - 4)) (fun n => fwN h lo tn d (0 + 1) 0 (nI n - 4)) 9 = 0 ↔ _
  rw [fwFN_0]
  show fwC h lo tn 0 0 0 (nI 4 - 4) = true ∧ fwN h lo tn d 1 0 (nI 4 - 4) = 0 ↔ _
  rw [four_0, fwN_1 d 1 (Nat.le_refl _) (fun w h1 h2 => hw w (by omega))]
  have hc : fwC h lo tn 0 0 0 0 = true := by
    unfold fwC
    have e1 : zw h (lo + 0) + 0 = zw h (lo + 0) := by grind
    rw [e1, hw 0 (by omega), decide_eq_true (rfl : (0 : Nat) = 0)]
    rfl
  constructor
  · intro g w h1
    exact g.2 w (Nat.zero_le _) (by omega)
  · intro g
    exact ⟨hc, fun w _ h2 => g w (by omega)⟩
theorem fits_w {u : US} (I : INV u) {k : Nat} (hk : k < 12) : fitsW (zw (uh u) k) = true := by
  have := SR_w (I.2.1 k hk)
  exact decide_eq_true ⟨Int32.not_lt.mpr this.1, Int32.not_lt.mpr this.2⟩
theorem fw_snd {u : US} (I : INV u) {c : Nat} (hc : c < un u) : fwN (uh u) (ul u c) (ut u c) (uz u c) 0 0 0 = 0 ↔ snd u c = true := by
  obtain ⟨h6, hl, h4, h2⟩ := u_c I hc
  obtain ⟨d, hd⟩ : ∃ d, uz u c = d + 1 := ⟨uz u c - 1, by omega⟩
  have e := fwN_sz (h := uh u) (lo := ul u c) (tn := ut u c) (d := d) (fun w hw => fits_w I (by omega))
  rw [hd, e]
  unfold snd tuned
  rw [hd]
  exact ⟨fun g => allN_t g, fun g w hw => allN_at hw g⟩
theorem few_y {u : US} (I : INV u) {c : Nat} (hc : c < un u) (hs : snd u c = true) : fewS u c = 0 := by
  obtain ⟨e, hle⟩ := fw_N (uh u) (ul u c) (ut u c) (uz u c) 0 0 0
  rw [(fw_snd I hc).mpr hs] at e
  unfold fewS
  rw [e]
  rfl
theorem few_n {u : US} (I : INV u) {c : Nat} (hc : c < un u) (hs : snd u c = false) : ¬ fewS u c = 0 := by
  obtain ⟨e, hle⟩ := fw_N (uh u) (ul u c) (ut u c) (uz u c) 0 0 0
  have hne : ¬ fwN (uh u) (ul u c) (ut u c) (uz u c) 0 0 0 = 0 := fun z => by
    have := (fw_snd I hc).mp z
    rw [hs] at this
    cases this
  unfold fewS
  rw [e]
  split
  · decide
  · intro z
    exact hne ((nI_eq (by omega) (by decide)).mp (z.trans nI_0.symm))
