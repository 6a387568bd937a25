def enc (m : Nat) : Int32 := if 1000 ≤ m then -1 else nI m
theorem bI_and (a b : Bool) : bI a &&& bI b = bI (a && b) := by cases a <;> cases b <;> rfl
theorem enc_no {h : HS} {lo sz : Nat} {tn : Nat → Int32} {n : Nat} (hv : VB h lo sz tn n = false) : enc (BM h lo sz tn n) = enc (BM h lo sz tn (n + 1)) := by
  show _ = enc (if VB h lo sz tn n then min (BM h lo sz tn n) (sumE (dgt n) sz) else BM h lo sz tn n)
  rw [hv]
  rfl
theorem enc_lt {m : Nat} (h : ¬ enc m = -1) : m < 1000 ∧ enc m = nI m := by
  unfold enc at h ⊢
  by_cases hm : 1000 ≤ m
  · rw [if_pos hm] at h; exact absurd rfl h
  · rw [if_neg hm]; exact ⟨by omega, rfl⟩
theorem enc_ge {h : HS} {lo sz : Nat} {tn : Nat → Int32} {n : Nat} (hs : sz ≤ 4) (h1 : ¬ enc (BM h lo sz tn n) = -1) (h2 : enc (BM h lo sz tn n) ≤ nI (sumE (dgt n) sz)) : enc (BM h lo sz tn n) = enc (BM h lo sz tn (n + 1)) := by
  obtain ⟨a, b⟩ := enc_lt h1
  have hl := sumE_le n sz
  rw [b] at h2
  have h3 := (nI_leI (by omega) (by omega)).mp h2
  show _ = enc (if VB h lo sz tn n then min (BM h lo sz tn n) (sumE (dgt n) sz) else BM h lo sz tn n)
  split
  · rw [Nat.min_eq_left h3]
  · rfl
theorem enc_take {h : HS} {lo sz : Nat} {tn : Nat → Int32} {n : Nat} (hs : sz ≤ 4) (hv : VB h lo sz tn n = true) (h2 : enc (BM h lo sz tn n) = -1 ∨ ¬ enc (BM h lo sz tn n) ≤ nI (sumE (dgt n) sz)) : nI (sumE (dgt n) sz) = enc (BM h lo sz tn (n + 1)) := by
  have hl := sumE_le n sz
  have hb := (BM_m (h := h) (lo := lo) (tn := tn) hs n).1
  have hm : sumE (dgt n) sz ≤ BM h lo sz tn n := by
    by_cases h1 : enc (BM h lo sz tn n) = -1
    · unfold enc at h1
      by_cases hq : 1000 ≤ BM h lo sz tn n
      · omega
      · rw [if_neg hq] at h1
        exfalso
        have key : ∀ m, m < 1000 → ¬ nI m = -1 := by decide +kernel
        exact key _ (by omega) h1
    · obtain ⟨a, b⟩ := enc_lt h1
      have h3 := h2.resolve_left h1
      rw [b] at h3
      have h4 : ¬ BM h lo sz tn n ≤ sumE (dgt n) sz := fun z => h3 ((nI_leI (by omega) (by omega)).mpr z)
      omega
  show _ = enc (if VB h lo sz tn n then min (BM h lo sz tn n) (sumE (dgt n) sz) else BM h lo sz tn n)
  rw [hv, if_pos rfl, Nat.min_eq_right hm]
  unfold enc
  rw [if_neg (by omega)]
theorem VB_no1 {h : HS} {lo sz : Nat} {tn : Nat → Int32} {n : Nat} (hf : allN (fitV h lo n) sz = false) : VB h lo sz tn n = false := by
  unfold VB; rw [hf]; rfl
theorem VB_no2 {h : HS} {lo sz : Nat} {tn : Nat → Int32} {n : Nat} (hf : sndP h (pvD lo sz n) lo sz tn = false) : VB h lo sz tn n = false := by
  unfold VB; rw [hf, Bool.and_false]
theorem VB_yes {h : HS} {lo sz : Nat} {tn : Nat → Int32} {n : Nat} (a : allN (fitV h lo n) sz = true) (b : sndP h (pvD lo sz n) lo sz tn = true) : VB h lo sz tn n = true := by
  unfold VB; rw [a, b]; rfl
theorem pv_is {lo sz n : Nat} {q : Nat → Int32} (h0 : ∀ i, i < lo ∨ lo + sz ≤ i → q i = 0) (h1 : ∀ v, v < sz → q (lo + v) = xD (dgt n v)) : q = pvD lo sz n := by
  funext i
  unfold pvD
  by_cases hi : lo ≤ i ∧ i < lo + sz
  · rw [if_pos hi]
    have := h1 (i - lo) (by omega)
    rw [show lo + (i - lo) = i by omega] at this
    exact this
  · rw [if_neg hi]; exact h0 i (by omega)
theorem few_enc {u : US} {c : Nat} (h1 : 1 ≤ uz u c) (hs : uz u c ≤ 4) (hl : ul u c + uz u c ≤ 12) : enc (BM (uh u) (ul u c) (uz u c) (ut u c) (9 ^ uz u c)) = fewS u c := by
  unfold fewS
  rw [few_all h1 hs hl]
  have hb := (BM_m (h := uh u) (lo := ul u c) (tn := ut u c) hs (9 ^ uz u c)).1
  generalize BM (uh u) (ul u c) (uz u c) (ut u c) (9 ^ uz u c) = m at hb
  unfold enc
  by_cases hm : 1000 ≤ m
  · have h9 : (1000 : Int32) ≤ nI m := (nI_leI (a := 1000) (by decide) (by omega)).mpr hm
    rw [if_pos hm, if_pos h9]
  · have h9 : ¬ (1000 : Int32) ≤ nI m := fun z => hm ((nI_leI (a := 1000) (by decide) (by omega)).mp z)
    rw [if_neg hm, if_neg h9]
