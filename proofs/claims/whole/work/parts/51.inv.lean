/-! what holds of the numbers between the calls of a script -/
def IJ (u : US) (i : Nat) : Prop := uOk u ∧ bd (uh u) ∧ zh (uh u) ≤ 200 * i
theorem IJ_new : IJ uNew 0 := by
  refine ⟨⟨fun k _ => Or.inr rfl, Nat.zero_le _, fun i _ => ⟨Nat.zero_le _, Nat.zero_le _⟩, fun i h => absurd h (Nat.not_lt_zero _), by decide⟩, ⟨fun k _ => (show -50 ≤ (0 : Int32) ∧ (0 : Int32) ≤ 50 from ⟨by decide, by decide⟩), by decide, by decide⟩, Nat.le_refl _⟩
theorem IJ_stay {u : US} {i : Nat} (h : IJ u i) : IJ u (i + 1) := ⟨h.1, h.2.1, by have := h.2.2; omega⟩
theorem IJ_push {u : US} {i k : Nat} {x : Int32} (h : IJ u i) : IJ (uH u (hPush (uh u) k x)) (i + 1) := ⟨h.1, h.2.1, by have := h.2.2; show zh (uh u) ≤ _; omega⟩
theorem IJ_draw {u : US} {i k : Nat} {x : Int32} (h : IJ u i) : IJ (uH u (hRenew (uh u) k x)) (i + 1) := by
  obtain ⟨⟨a, b⟩, ⟨c, d⟩, e⟩ := h
  refine ⟨⟨fun j hj => ?_, b⟩, ⟨fun j hj => ?_, d⟩, by show zh (uh u) ≤ _; omega⟩
  · show upd (zo (uh u)) k 1 j = 0 ∨ upd (zo (uh u)) k 1 j = 1
    by_cases hk : j = k
    · subst hk; rw [pk_us]; exact Or.inr rfl
    · rw [pk_un hk]; exact a j hj
  · show -50 ≤ upd (zd (uh u)) k 0 j ∧ upd (zd (uh u)) k 0 j ≤ 50
    by_cases hk : j = k
    · subst hk; rw [pk_us]; exact ⟨by decide, by decide⟩
    · rw [pk_un hk]; exact c j hj
theorem IJ_wea {u : US} {i k : Nat} {w d : Int32} (h : IJ u i) : IJ (uWea u k w d) (i + 1) := ⟨h.1, h.2.1, by have := h.2.2; show zh (uh u) ≤ _; omega⟩
theorem IJ_chord {u : US} {i : Nat} {k v0 v1 v2 v3 : Int32} (h : IJ u i) (he : exCh u k v0 v1 v2 v3 = 0) : IJ (uCh u (ix k) (chSz v2 v3) v0 v1 v2 v3) (i + 1) := by
  obtain ⟨⟨a, b, c, d, e⟩, f, g⟩ := h
  have h1 : ¬ 12 < ix k + chSz v2 v3 ∧ ¬ 6 ≤ un u := by
    unfold exCh at he
    repeat' (split at he)
    all_goals first | (exact absurd he (by decide)) | (exact ⟨by assumption, by assumption⟩)
  have hz : 2 ≤ chSz v2 v3 ∧ chSz v2 v3 ≤ 4 := by unfold chSz; split; omega; split <;> omega
  refine ⟨⟨a, ?_, fun j hj => ?_, fun j hj => ?_, e⟩, f, by show zh (uh u) ≤ _; omega⟩
  · show un u + 1 ≤ 6
    omega
  · show (if j = un u then ix k else ul u j) + (if j = un u then chSz v2 v3 else uz u j) ≤ 12 ∧ (if j = un u then chSz v2 v3 else uz u j) ≤ 4
    by_cases hj2 : j = un u
    · rw [if_pos hj2, if_pos hj2]; omega
    · rw [if_neg hj2, if_neg hj2]; exact c j hj
  · have hj' : j < un u + 1 := hj
    show 2 ≤ (if j = un u then chSz v2 v3 else uz u j)
    by_cases hj2 : j = un u
    · rw [if_pos hj2]; exact hz.1
    · rw [if_neg hj2]; exact d j (by omega)
theorem IJ_pass {u : US} {i : Nat} {x : Int32} (hi : i < 1000) (h : IJ u i) (he : exPass x = 0) : IJ (uH u (hN 0 12 (uw u) (ud u) (uh u) (ix x))) (i + 1) := by
  obtain ⟨⟨a, b, c, d, e⟩, f, g⟩ := h
  have hx : isH x = true := by
    unfold exPass at he
    cases hq : isH x with
    | true => rfl
    | false => rw [hq] at he; exact absurd he (by decide)
  obtain ⟨j, j1, j2, rfl⟩ := isH_nat hx
  rw [ix_nI (by omega)]
  have hz : zh (hN 0 12 (uw u) (ud u) (uh u) j) = zh (uh u) + j := zh_hN _ _ _ _ _ _
  refine ⟨⟨ok01_hN a j, b, c, d, ?_⟩, bd_hN f j, ?_⟩
  · show zh (hN 0 12 (uw u) (ud u) (uh u) j) < 1000000000
    omega
  · show zh (hN 0 12 (uw u) (ud u) (uh u) j) ≤ 200 * (i + 1)
    omega
