/-! a string's hours are its own: what one string does does not hang on the others -/
def alk (k : Nat) (h g : HS) : Prop := zb h = zb g ∧ zw h = zw g ∧ zd h k = zd g k ∧ zs h k = zs g k ∧ zo h k = zo g k ∧ zl h = zl g ∧ zh h = zh g
theorem tone_alk {k : Nat} {h g : HS} (e : alk k h g) : tone h k = tone g k := by
  obtain ⟨e1, e2, e3, e4, e5, e6, e7⟩ := e
  unfold tone
  rw [e1, e2, e3, e5, e6]
theorem alk_hour {f u k : Nat} {wi da : Int32} {h g : HS} (hf : f ≤ k) (hu : k < u) (hk : k < 12) (e : alk k h g) : alk k (hHour 0 12 wi da h) (hHour f u wi da g) := by
  have et := tone_alk e
  obtain ⟨e1, e2, e3, e4, e5, e6, e7⟩ := e
  have ep : pull wi h k = pull wi g k := by unfold pull; rw [e4, et]
  have pin : ∀ (a b : Nat → Int32), part 0 12 a b k = b k := fun a b => by unfold part; rw [if_pos (by omega)]
  have pin2 : ∀ (a b : Nat → Int32), part f u a b k = b k := fun a b => by unfold part; rw [if_pos (by omega)]
  refine ⟨e1, e2, ?_, ?_, ?_, ?_, ?_⟩
  · show part 0 12 (zd h) (nD wi da h) k = part f u (zd g) (nD wi da g) k
    rw [pin, pin2]; unfold nD; rw [e5, ep, e3]
  · show part 0 12 (zs h) (nS wi h) k = part f u (zs g) (nS wi g) k
    rw [pin, pin2]; unfold nS; rw [e5, ep, e4]
  · show part 0 12 (zo h) (nO wi h) k = part f u (zo g) (nO wi g) k
    rw [pin, pin2]; unfold nO; rw [e5, ep]
  · show swell da (zl h) = swell da (zl g)
    rw [e6]
  · show zh h + 1 = zh g + 1
    rw [e7]
theorem alk_hN {f u k : Nat} {wt dt : Nat → Int32} {h : HS} (hf : f ≤ k) (hu : k < u) (hk : k < 12) (n : Nat) : alk k (hN 0 12 wt dt h n) (hN f u wt dt h n) := by
  induction n with
  | zero => exact ⟨rfl, rfl, rfl, rfl, rfl, rfl, rfl⟩
  | succ n ih =>
    show alk k (hHour 0 12 (wt (zh (hN 0 12 wt dt h n) % 12)) (dt (zh (hN 0 12 wt dt h n) % 12)) (hN 0 12 wt dt h n)) (hHour f u (wt (zh (hN f u wt dt h n) % 12)) (dt (zh (hN f u wt dt h n) % 12)) (hN f u wt dt h n))
    rw [ih.2.2.2.2.2.2]
    exact alk_hour hf hu hk ih
theorem hold_eq {lo sz : Nat} {tn : Nat → Int32} {wt dt : Nat → Int32} {h : HS} (hl : lo + sz ≤ 12) (n : Nat) : tuned (hN 0 12 wt dt h n) lo sz tn = tuned (hN lo (lo + sz) wt dt h n) lo sz tn := by
  refine allN_congr (fun j hj => ?_)
  have e := alk_hN (f := lo) (u := lo + sz) (k := lo + j) (wt := wt) (dt := dt) (h := h) (by omega) (by omega) (by omega) n
  unfold fits1
  rw [tone_alk e, e.2.2.2.2.1]
theorem bear_eq {u : US} {j : Nat} (hj : j < 12) (w : Nat) : zo (hN 0 12 (fun _ => nI w) (ud u) (uh u) 24) j = zo (hN j (j + 1) (fun _ => nI w) (ud u) (uh u) 24) j := (alk_hN (f := j) (u := j + 1) (Nat.le_refl _) (by omega) hj 24).2.2.2.2.1
theorem bear_yes {u : US} {j w : Nat} (hj : j < 12) (h : zo (hN 0 12 (fun _ => nI w) (ud u) (uh u) 24) j = 1) : bearP u j w = true := by
  rw [bear_eq hj] at h
  unfold bearP
  rw [h]
  rfl
theorem bear_no {u : US} {j w : Nat} (ho : ok01 (uh u)) (hj : j < 12) (h : ¬ zo (hN 0 12 (fun _ => nI w) (ud u) (uh u) 24) j = 1) : bearP u j w = false := by
  have h0 := (ok01_hN (f := 0) (u := 12) (wt := fun _ => nI w) (dt := ud u) ho 24 j hj).resolve_right h
  rw [bear_eq hj] at h0
  unfold bearP
  rw [h0]
  rfl
theorem bearF_none {p : Nat → Bool} {n : Nat} (h : ∀ k, k < n → p k = false) : bearF p n = -1 := by
  induction n with
  | zero => rfl
  | succ n ih =>
    show (if p n then nI n else bearF p n) = -1
    rw [h n (by omega), ih (fun k hk => h k (by omega))]
    rfl
theorem bear_none {u : US} {j : Nat} (hz : zo (uh u) j = 0) : bearF (bearP u j) 21 = -1 := by
  refine bearF_none (fun k hk => ?_)
  have h0 : zo (hN j (j + 1) (fun _ => nI k) (ud u) (uh u) (0 + 24)) j = 0 := zo_hN (n := 0) 24 hz
  unfold bearP
  rw [show (24 : Nat) = 0 + 24 from rfl, h0]
  rfl
theorem cnt_0 {p : Nat → Bool} {n : Nat} (h : cnt p 0 n = 0) {j : Nat} (hj : j < n) : p j = false := by
  induction n with
  | zero => omega
  | succ n ih =>
    have h' : cnt p 0 n + (if p (0 + n) then 1 else 0) = 0 := h
    rcases Nat.lt_succ_iff_lt_or_eq.mp hj with z | z
    · exact ih (by omega) z
    · subst z
      rw [Nat.zero_add] at h'
      cases hp : p j with
      | false => rfl
      | true => rw [hp] at h'; simp at h'
theorem zo_same {wi da : Int32} {h : HS} (hc : cnt (brk wi h) 0 12 = 0) {j : Nat} (hj : j < 12) : zo (hHour 0 12 wi da h) j = zo h j := by
  have hb := of_decide_eq_false (cnt_0 hc hj)
  show part 0 12 (zo h) (nO wi h) j = zo h j
  rw [part_lt hj]
  unfold nO
  by_cases h0 : zo h j = 0
  · rw [if_pos h0]
  · rw [if_neg h0, if_neg (fun z => hb ⟨h0, z⟩)]
theorem lowB_brk {wi da : Int32} {h g : HS} {j : Nat} (hz : zo g j = zo h j) (hj : j < 12) : brk wi g j = lowB h (hHour 0 12 wi da g) j := by
  unfold brk lowB
  rw [decide_eq_decide, ← hz]
  refine and_congr_right (fun h0 => ?_)
  show _ ↔ part 0 12 (zo g) (nO wi g) j = 0
  rw [part_lt hj]
  unfold nO
  rw [if_neg h0]
  by_cases hb : 100 < pull wi g j
  · rw [if_pos hb]; exact ⟨fun _ => rfl, fun _ => hb⟩
  · rw [if_neg hb]; exact ⟨fun z => absurd z hb, fun z => absurd z h0⟩
/-- the search for the first to break: no break so far, or one just now -/
def FH (u : US) (k n : Nat) (mk : Int32) : Prop := (mk = 0 ∧ (∀ j, j < 12 → zo (hN 0 12 (uw u) (ud u) (uh u) k) j = zo (uh u) j) ∧ firF (uw u) (ud u) (uh u) 0 200 = firF (uw u) (ud u) (uh u) k n) ∨ (¬ mk = 0 ∧ firF (uw u) (ud u) (uh u) 0 200 = ntzF mk)
theorem FH_0 (u : US) : FH u 0 200 0 := Or.inl ⟨rfl, fun _ _ => rfl, rfl⟩
theorem FH_step {u : US} {k n : Nat} {mk : Int32} (h : FH u k (n + 1) mk) (hm : mk = 0) : FH u (k + 1) n (msk (brk (uw u (zh (hN 0 12 (uw u) (ud u) (uh u) k) % 12)) (hN 0 12 (uw u) (ud u) (uh u) k)) 12) := by
  rcases h with ⟨-, hz, hv⟩ | ⟨h0, -⟩
  · have hm2 := msk_is (brk (uw u (zh (hN 0 12 (uw u) (ud u) (uh u) k) % 12)) (hN 0 12 (uw u) (ud u) (uh u) k))
    have hs : hN 0 12 (uw u) (ud u) (uh u) (k + 1) = hHour 0 12 (uw u (zh (hN 0 12 (uw u) (ud u) (uh u) k) % 12)) (ud u (zh (hN 0 12 (uw u) (ud u) (uh u) k) % 12)) (hN 0 12 (uw u) (ud u) (uh u) k) := rfl
    have hf : firF (uw u) (ud u) (uh u) k (n + 1) = (if cnt (brk (uw u (zh (hN 0 12 (uw u) (ud u) (uh u) k) % 12)) (hN 0 12 (uw u) (ud u) (uh u) k)) 0 12 = 0 then firF (uw u) (ud u) (uh u) (k + 1) n else lowF (lowB (uh u) (hN 0 12 (uw u) (ud u) (uh u) (k + 1))) 0 12) := rfl
    by_cases hc : cnt (brk (uw u (zh (hN 0 12 (uw u) (ud u) (uh u) k) % 12)) (hN 0 12 (uw u) (ud u) (uh u) k)) 0 12 = 0
    · refine Or.inl ⟨hm2.2.1.mpr hc, fun j hj => ?_, ?_⟩
      · rw [hs, zo_same hc hj, hz j hj]
      · rw [hv, hf, if_pos hc]
    · have hne : ¬ msk (brk (uw u (zh (hN 0 12 (uw u) (ud u) (uh u) k) % 12)) (hN 0 12 (uw u) (ud u) (uh u) k)) 12 = 0 := fun z => hc (hm2.2.1.mp z)
      refine Or.inr ⟨hne, ?_⟩
      rw [hv, hf, if_neg hc, hm2.2.2 hne, hs]
      exact (lowF_congr (fun j _ hj => lowB_brk (hz j (by omega)) (by omega))).symm
  · exact absurd hm h0
theorem FH_end {u : US} {k : Nat} {mk : Int32} (h : FH u k 0 mk) (hm : mk = 0) : firF (uw u) (ud u) (uh u) 0 200 = -1 := by
  rcases h with ⟨-, -, hv⟩ | ⟨h0, -⟩
  · exact hv
  · exact absurd hm h0
theorem FH_hit {u : US} {k n : Nat} {mk : Int32} (h : FH u k n mk) (hm : ¬ mk = 0) : firF (uw u) (ud u) (uh u) 0 200 = ntzF mk := by
  rcases h with ⟨h0, -⟩ | ⟨-, hv⟩
  · exact absurd h0 hm
  · exact hv
