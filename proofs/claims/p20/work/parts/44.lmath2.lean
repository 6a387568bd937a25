/-! a chord as the law tells it -/
theorem made_s {M : Nat → Int32} {i v : Nat} (hM : ∀ j, 1 ≤ j → j < i → ∃ t, 1 ≤ t ∧ t ≤ 1500 ∧ M j = nI t) (h1 : 1 ≤ v) (h2 : v ≤ 1500) : ∀ j, 1 ≤ j → j < i + 1 → ∃ t, 1 ≤ t ∧ t ≤ 1500 ∧ upd M i (nI v) j = nI t := by
  intro j hj1 hj2
  by_cases e : j = i
  · subst e; exact ⟨v, h1, h2, pk_us⟩
  · rw [pk_un e]; exact hM j hj1 (by omega)
section RC
variable {u : US} {f s : Nat} {t0 t1 t2 t3 : Int32} {M : Nat → Int32}
theorem rowC_eq (u : US) (f s : Nat) (t0 t1 t2 t3 : Int32) : rowC (uCh u f s t0 t1 t2 t3) (un u) = fun j => if j = 0 then nI f else upd (upd (upd (upd (ut u (un u)) 0 t0) 1 t1) 2 t2) 3 t3 (j - 1) := by
  have e3 : ul (uCh u f s t0 t1 t2 t3) (un u) = f := if_pos rfl
  have e4 : ut (uCh u f s t0 t1 t2 t3) (un u) = upd (upd (upd (upd (ut u (un u)) 0 t0) 1 t1) 2 t2) 3 t3 := if_pos rfl
  unfold rowC
  rw [e3, e4]
theorem rowC_0 : rowC (uCh u f s t0 t1 t2 t3) (un u) 0 = nI f := by rw [rowC_eq]; rfl
theorem rowC_1 : rowC (uCh u f s t0 t1 t2 t3) (un u) 1 = t0 := by rw [rowC_eq]; rfl
theorem rowC_2 : rowC (uCh u f s t0 t1 t2 t3) (un u) 2 = t1 := by rw [rowC_eq]; rfl
theorem rowC_3 : rowC (uCh u f s t0 t1 t2 t3) (un u) 3 = t2 := by rw [rowC_eq]; rfl
theorem rowC_4 : rowC (uCh u f s t0 t1 t2 t3) (un u) 4 = t3 := by rw [rowC_eq]; rfl
theorem made_row2 (h0 : M 0 = nI f) (h1 : M 1 = t0) (h2 : M 2 = t1) : ∀ j, j < 3 → M j = rowC (uCh u f 2 t0 t1 t2 t3) (un u) j := by
  intro j hj
  rcases (show j = 0 ∨ j = 1 ∨ j = 2 by omega) with rfl | rfl | rfl
  · rw [rowC_0]; exact h0
  · rw [rowC_1]; exact h1
  · rw [rowC_2]; exact h2
theorem made_row3 (h0 : M 0 = nI f) (h1 : M 1 = t0) (h2 : M 2 = t1) (h3 : M 3 = t2) : ∀ j, j < 4 → M j = rowC (uCh u f 3 t0 t1 t2 t3) (un u) j := by
  intro j hj
  rcases (show j = 0 ∨ j = 1 ∨ j = 2 ∨ j = 3 by omega) with rfl | rfl | rfl | rfl
  · rw [rowC_0]; exact h0
  · rw [rowC_1]; exact h1
  · rw [rowC_2]; exact h2
  · rw [rowC_3]; exact h3
theorem made_row4 (h0 : M 0 = nI f) (h1 : M 1 = t0) (h2 : M 2 = t1) (h3 : M 3 = t2) (h4 : M 4 = t3) : ∀ j, j < 5 → M j = rowC (uCh u f 4 t0 t1 t2 t3) (un u) j := by
  intro j hj
  rcases (show j = 0 ∨ j = 1 ∨ j = 2 ∨ j = 3 ∨ j = 4 by omega) with rfl | rfl | rfl | rfl | rfl
  · rw [rowC_0]; exact h0
  · rw [rowC_1]; exact h1
  · rw [rowC_2]; exact h2
  · rw [rowC_3]; exact h3
  · rw [rowC_4]; exact h4
end RC
section ICH
variable {u : US} {k t1 t2 t3 t4 : Nat}
theorem INV_ch2 (I : INV u) (hk : k + 2 ≤ 12) (hn : un u < 6) (a1 : 1 ≤ t1) (a2 : t1 ≤ 1500) (b1 : 1 ≤ t2) (b2 : t2 ≤ 1500) : INV (uCh u k 2 (nI t1) (nI t2) 0 0) :=
  INV_chord I (by decide) (by decide) hk hn (fun j hj => by
    rcases (show j = 0 ∨ j = 1 by omega) with rfl | rfl
    · exact ⟨t1, a1, a2, rfl⟩
    · exact ⟨t2, b1, b2, rfl⟩)
theorem INV_ch3 (I : INV u) (hk : k + 3 ≤ 12) (hn : un u < 6) (a1 : 1 ≤ t1) (a2 : t1 ≤ 1500) (b1 : 1 ≤ t2) (b2 : t2 ≤ 1500) (c1 : 1 ≤ t3) (c2 : t3 ≤ 1500) : INV (uCh u k 3 (nI t1) (nI t2) (nI t3) 0) :=
  INV_chord I (by decide) (by decide) hk hn (fun j hj => by
    rcases (show j = 0 ∨ j = 1 ∨ j = 2 by omega) with rfl | rfl | rfl
    · exact ⟨t1, a1, a2, rfl⟩
    · exact ⟨t2, b1, b2, rfl⟩
    · exact ⟨t3, c1, c2, rfl⟩)
theorem INV_ch4 (I : INV u) (hk : k + 4 ≤ 12) (hn : un u < 6) (a1 : 1 ≤ t1) (a2 : t1 ≤ 1500) (b1 : 1 ≤ t2) (b2 : t2 ≤ 1500) (c1 : 1 ≤ t3) (c2 : t3 ≤ 1500) (d1 : 1 ≤ t4) (d2 : t4 ≤ 1500) : INV (uCh u k 4 (nI t1) (nI t2) (nI t3) (nI t4)) :=
  INV_chord I (by decide) (by decide) hk hn (fun j hj => by
    rcases (show j = 0 ∨ j = 1 ∨ j = 2 ∨ j = 3 by omega) with rfl | rfl | rfl | rfl
    · exact ⟨t1, a1, a2, rfl⟩
    · exact ⟨t2, b1, b2, rfl⟩
    · exact ⟨t3, c1, c2, rfl⟩
    · exact ⟨t4, d1, d2, rfl⟩)
end ICH
theorem act_endP {D : va_G} {cl : List vw_C} {S5 S12 X T : va_W} {H : Heap} {x : Nat × va_E} (h : va_P D cl ([x] ++ (S5 ++ (S12 ++ (X ++ T)))) H) : va_P D cl (S5 ++ (S12 ++ (X ++ (T ++ [x])))) H := by
  have h2 : va_P D cl ((S5 ++ (S12 ++ (X ++ T))) ++ [x]) H := pM_backP h
  simpa only [List.append_assoc] using h2
theorem act_endD {A : Nat → Prop} {S5 S12 X T : va_W} {x : Nat × va_E} (h : va_D A ([x] ++ (S5 ++ (S12 ++ (X ++ T))))) : va_D A (S5 ++ (S12 ++ (X ++ (T ++ [x])))) := by
  have h2 : va_D A ((S5 ++ (S12 ++ (X ++ T))) ++ [x]) := pM_backD h
  simpa only [List.append_assoc] using h2
