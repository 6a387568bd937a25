theorem inX3_kept_RX3 : ∀ w ∈ u_ws RX3 TX3 8, w ∈ wsX3_kept := by decide +kernel
theorem kX3_kept_0 : (.classLink RX3 110 "[I" : Cond) ∈ wsX3_kept := by decide +kernel
theorem kX3_kept_1 : (.fieldLink RX3 9 "WedgeHarpsModel" "harp" "[I" : Cond) ∈ wsX3_kept := by decide +kernel
theorem kX3_kept_2 : (.methodLink RX3 111 ⟨"[I", "clone", "()Ljava/lang/Object;"⟩ : Cond) ∈ wsX3_kept := by decide +kernel
theorem kX3_kept_3 : (.sameMethod "[I" "java/lang/Object" "clone" "()Ljava/lang/Object;" : Cond) ∈ wsX3_kept := by decide +kernel
theorem kX3_kept_4 : (.native ⟨"java/lang/Object", "clone", "()Ljava/lang/Object;"⟩ : Cond) ∈ wsX3_kept := by decide +kernel
theorem kX3_kept_5 : (.instanceMethod ⟨"java/lang/Object", "clone", "()Ljava/lang/Object;"⟩ : Cond) ∈ wsX3_kept := by decide +kernel
theorem kX3_kept_6 : (.selects "[I" ⟨"[I", "clone", "()Ljava/lang/Object;"⟩ ⟨"java/lang/Object", "clone", "()Ljava/lang/Object;"⟩ : Cond) ∈ wsX3_kept := by decide +kernel
theorem kX3_kept_7 : (.fieldLink RX3 22 "WedgeHarpsModel" "numbers" "[I" : Cond) ∈ wsX3_kept := by decide +kernel
set_option maxHeartbeats 4000000 in
set_option maxRecDepth 100000 in
theorem mX3_kept (l : Launch) (D : va_G) (cy : Nat → ClassId) (sz : Nat) (b : Nat → Nat) (u : US) (th : Int32) (pp : Nat → Int32) : Met l yX3_kept wsX3_kept ({ frames := 1, cells := 3, slots := 76, locals := 40 } : Room) (va_Pc [.ref (b 0)] (fun U => U.heap.size = sz ∧ va_P D vwCl (wM cy b u th pp) U.heap ∧ va_K D vwCl (TY cy) U ∧ va_D (fun _ => True) (wM cy b u th pp) ∧ vKP cy U)) (va_Qr (fun (_ : Nat × Nat) => True) (fun (u9 : Nat × Nat) (a9 : Nat) t => va_P D vwCl (wM cy b u th pp ++ kp cy a9 u9.1 u9.2 (mh (uh u)) (mb (uh u))) t.heap ∧ va_D (va_A (wM cy b u th pp) sz) (wM cy b u th pp ++ kp cy a9 u9.1 u9.2 (mh (uh u)) (mb (uh u)))) (va_A (wM cy b u th pp) sz)) 3 76 (va_A (wM cy b u th pp) sz) := by
  refine Met.ofW (cc := cX3_kept) (maxL := 1) (ret := (some (.array (.array .int)))) (by decide) rfl ?_
  intro p e s m args below meth c s₁ B hml hv
  obtain ⟨rfl, hsz, hP, hK, hD0, hkp⟩ := hv
  have hx := B.exec
  have hb := B.bytes
  have hr := B.returns
  have hts := atoms_spec (ws := wsX3_kept) B.pre
  have hown : s.vm.findClass RX3 = some m.cls := findClass_of_methodNamed B.named
  have hlocks := B.notSynchronized
  have hl := lv_entry ([.ref (b 0)]) (n := 1) (Nat.le_of_ble_eq_true rfl)
  rw [lg_entry_eq]
  generalize (lg_sl ([.ref (b 0)]) ++ List.replicate (1 - (lg_sl ([.ref (b 0)])).length) Slot.unset).toArray = ls at hl ⊢
  have hl : lv_has ls 1 [(0, .ref (b 0))] := hl
  subst hsz
  have hD := hD0.self (sz := s.heap.size)
  generalize hAe : va_A (wM cy b u th pp) s.heap.size = A at hD ⊢
  have hA : ∀ q : Nat, s.heap.size ≤ q → A q := fun q h => by rw [← hAe]; exact Or.inr h
  have hS : va_S A s.heap s.heap [] := va_S.rf
  have hP : va_P D vwCl (wM cy b u th pp) s.heap := hP
  refine lv_iconst (v := 2) hx hb dX3_kept_0 (by decide) ?_
  refine pc_newqA hx hb hown (hts _ kX3_kept_0) hkp hP hD hS hA (N' := 2) (by decide) (by decide) (by decide) (Nat.le_of_ble_eq_true rfl) (Nat.le_of_ble_eq_true rfl) dX3_kept_1 (fun r1 H hP hD hS => ?_)
  have hP : va_P D vwCl [(b 0, .inr (3, [.int th, .ref (b 1), .int (nI (un u)), .ref (b 2), .ref (b 3), .ref (b 4), .ref (b 5), .ref (b 6)])), (b 1, .inl ((cy 0), 72, .inl (mh (uh u)))), (b 2, .inl ((cy 0), 36, .inl (mt (ul u) (uz u) (ut u)))), (b 3, .inl ((cy 0), 12, .inl (uw u))), (b 4, .inl ((cy 0), 12, .inl (ud u))), (b 5, .inl ((cy 0), 2, .inl (mb (uh u)))), (b 6, .inl ((cy 0), 12, .inl pp)), (r1, .inl ((cy 4), 2, .inr (.inr (.inr (.inr (fun _ => none))))))] H := hP
  have hD : va_D A [(b 0, .inr (3, [.int th, .ref (b 1), .int (nI (un u)), .ref (b 2), .ref (b 3), .ref (b 4), .ref (b 5), .ref (b 6)])), (b 1, .inl ((cy 0), 72, .inl (mh (uh u)))), (b 2, .inl ((cy 0), 36, .inl (mt (ul u) (uz u) (ut u)))), (b 3, .inl ((cy 0), 12, .inl (uw u))), (b 4, .inl ((cy 0), 12, .inl (ud u))), (b 5, .inl ((cy 0), 2, .inl (mb (uh u)))), (b 6, .inl ((cy 0), 12, .inl pp)), (r1, .inl ((cy 4), 2, .inr (.inr (.inr (.inr (fun _ => none))))))] := hD
  refine W.widen (k := 1) (n := 2) (Nat.le_of_ble_eq_true rfl) (Nat.le_of_ble_eq_true rfl) ?_
  refine lv_dup hx hb dX3_kept_4 rfl ?_
  refine lv_iconst (v := 0) hx hb dX3_kept_5 (by decide) ?_
  refine lv_aload_n hx hb dX3_kept_6 rfl (lv_at hl 0 rfl) ?_
  refine va_get (D := D) (ci := 3) (v := .ref (b 1)) (C := RX3) (T := TX3) (N := 8) hx hb hts inX3_kept_RX3 hown hK hP 0 rfl rfl 1 (by decide) (hts _ kX3_kept_1) (fun _ h9 => h9) rfl dX3_kept_7 ?_
  refine va_clone hx hb (by rw [hml]; exact hl.1.symm) hown (hts _ kX3_kept_2) (hts _ kX3_kept_3) (hts _ kX3_kept_4) (hts _ kX3_kept_5) (hts _ kX3_kept_6) hkp.2.2 hK hP hD hS hA 1 0 rfl rfl (hK.2 0 (cy 0, .int) rfl).2 (fit_i _ _) (Nat.le_of_ble_eq_true rfl) (Nat.le_of_ble_eq_true rfl) (Nat.le_of_ble_eq_true rfl) (Nat.le_of_ble_eq_true rfl) dX3_kept_10 (fun r10 H _ hP hD hS => ?_)
  have hP : va_P D vwCl [(b 0, .inr (3, [.int th, .ref (b 1), .int (nI (un u)), .ref (b 2), .ref (b 3), .ref (b 4), .ref (b 5), .ref (b 6)])), (b 1, .inl ((cy 0), 72, .inl (mh (uh u)))), (b 2, .inl ((cy 0), 36, .inl (mt (ul u) (uz u) (ut u)))), (b 3, .inl ((cy 0), 12, .inl (uw u))), (b 4, .inl ((cy 0), 12, .inl (ud u))), (b 5, .inl ((cy 0), 2, .inl (mb (uh u)))), (b 6, .inl ((cy 0), 12, .inl pp)), (r1, .inl ((cy 4), 2, .inr (.inr (.inr (.inr (fun _ => none)))))), (r10, .inl ((cy 0), 72, .inl (mh (uh u))))] H := hP
  have hD : va_D A [(b 0, .inr (3, [.int th, .ref (b 1), .int (nI (un u)), .ref (b 2), .ref (b 3), .ref (b 4), .ref (b 5), .ref (b 6)])), (b 1, .inl ((cy 0), 72, .inl (mh (uh u)))), (b 2, .inl ((cy 0), 36, .inl (mt (ul u) (uz u) (ut u)))), (b 3, .inl ((cy 0), 12, .inl (uw u))), (b 4, .inl ((cy 0), 12, .inl (ud u))), (b 5, .inl ((cy 0), 2, .inl (mb (uh u)))), (b 6, .inl ((cy 0), 12, .inl pp)), (r1, .inl ((cy 4), 2, .inr (.inr (.inr (.inr (fun _ => none)))))), (r10, .inl ((cy 0), 72, .inl (mh (uh u))))] := hD
  refine W.widen (k := 2) (n := 74) (Nat.le_of_ble_eq_true rfl) (Nat.le_of_ble_eq_true rfl) ?_
  refine va_castA hx hb hown (hts _ kX3_kept_0) hP 8 rfl (hK.2 0 (cy 0, .int) rfl).2 dX3_kept_13 ?_
  refine pc_astA hx hb hK hkp hP hD hS 7 8 rfl rfl (k := 0) (show 0 < 2 by omega) (by decide) dX3_kept_16 (fun H locs hP hD hS => ?_)
  have hP : va_P D vwCl [(b 0, .inr (3, [.int th, .ref (b 1), .int (nI (un u)), .ref (b 2), .ref (b 3), .ref (b 4), .ref (b 5), .ref (b 6)])), (b 1, .inl ((cy 0), 72, .inl (mh (uh u)))), (b 2, .inl ((cy 0), 36, .inl (mt (ul u) (uz u) (ut u)))), (b 3, .inl ((cy 0), 12, .inl (uw u))), (b 4, .inl ((cy 0), 12, .inl (ud u))), (b 5, .inl ((cy 0), 2, .inl (mb (uh u)))), (b 6, .inl ((cy 0), 12, .inl pp)), (r1, .inl ((cy 4), 2, .inr (.inr (.inr (.inr (va_up (fun _ => none) 0 (some r10))))))), (r10, .inl ((cy 0), 72, .inl (mh (uh u))))] H := hP
  have hD : va_D A [(b 0, .inr (3, [.int th, .ref (b 1), .int (nI (un u)), .ref (b 2), .ref (b 3), .ref (b 4), .ref (b 5), .ref (b 6)])), (b 1, .inl ((cy 0), 72, .inl (mh (uh u)))), (b 2, .inl ((cy 0), 36, .inl (mt (ul u) (uz u) (ut u)))), (b 3, .inl ((cy 0), 12, .inl (uw u))), (b 4, .inl ((cy 0), 12, .inl (ud u))), (b 5, .inl ((cy 0), 2, .inl (mb (uh u)))), (b 6, .inl ((cy 0), 12, .inl pp)), (r1, .inl ((cy 4), 2, .inr (.inr (.inr (.inr (va_up (fun _ => none) 0 (some r10))))))), (r10, .inl ((cy 0), 72, .inl (mh (uh u))))] := hD
  refine lv_dup hx hb dX3_kept_17 rfl ?_
  refine lv_iconst (v := 1) hx hb dX3_kept_18 (by decide) ?_
  refine lv_aload_n hx hb dX3_kept_19 rfl (lv_at hl 0 rfl) ?_
  refine va_get (D := D) (ci := 3) (v := .ref (b 5)) (C := RX3) (T := TX3) (N := 8) hx hb hts inX3_kept_RX3 hown hK hP 0 rfl rfl 6 (by decide) (hts _ kX3_kept_7) (fun _ h9 => h9) rfl dX3_kept_20 ?_
  refine va_clone hx hb (by rw [hml]; exact hl.1.symm) hown (hts _ kX3_kept_2) (hts _ kX3_kept_3) (hts _ kX3_kept_4) (hts _ kX3_kept_5) (hts _ kX3_kept_6) hkp.2.2 hK hP hD hS hA 5 0 rfl rfl (hK.2 0 (cy 0, .int) rfl).2 (fit_i _ _) (Nat.le_of_ble_eq_true rfl) (Nat.le_of_ble_eq_true rfl) (Nat.le_of_ble_eq_true rfl) (Nat.le_of_ble_eq_true rfl) dX3_kept_23 (fun r23 H _ hP hD hS => ?_)
  have hP : va_P D vwCl [(b 0, .inr (3, [.int th, .ref (b 1), .int (nI (un u)), .ref (b 2), .ref (b 3), .ref (b 4), .ref (b 5), .ref (b 6)])), (b 1, .inl ((cy 0), 72, .inl (mh (uh u)))), (b 2, .inl ((cy 0), 36, .inl (mt (ul u) (uz u) (ut u)))), (b 3, .inl ((cy 0), 12, .inl (uw u))), (b 4, .inl ((cy 0), 12, .inl (ud u))), (b 5, .inl ((cy 0), 2, .inl (mb (uh u)))), (b 6, .inl ((cy 0), 12, .inl pp)), (r1, .inl ((cy 4), 2, .inr (.inr (.inr (.inr (va_up (fun _ => none) 0 (some r10))))))), (r10, .inl ((cy 0), 72, .inl (mh (uh u)))), (r23, .inl ((cy 0), 2, .inl (mb (uh u))))] H := hP
  have hD : va_D A [(b 0, .inr (3, [.int th, .ref (b 1), .int (nI (un u)), .ref (b 2), .ref (b 3), .ref (b 4), .ref (b 5), .ref (b 6)])), (b 1, .inl ((cy 0), 72, .inl (mh (uh u)))), (b 2, .inl ((cy 0), 36, .inl (mt (ul u) (uz u) (ut u)))), (b 3, .inl ((cy 0), 12, .inl (uw u))), (b 4, .inl ((cy 0), 12, .inl (ud u))), (b 5, .inl ((cy 0), 2, .inl (mb (uh u)))), (b 6, .inl ((cy 0), 12, .inl pp)), (r1, .inl ((cy 4), 2, .inr (.inr (.inr (.inr (va_up (fun _ => none) 0 (some r10))))))), (r10, .inl ((cy 0), 72, .inl (mh (uh u)))), (r23, .inl ((cy 0), 2, .inl (mb (uh u))))] := hD
  refine W.widen (k := 3) (n := 76) (Nat.le_of_ble_eq_true rfl) (Nat.le_of_ble_eq_true rfl) ?_
  refine va_castA hx hb hown (hts _ kX3_kept_0) hP 9 rfl (hK.2 0 (cy 0, .int) rfl).2 dX3_kept_26 ?_
  refine pc_astA hx hb hK hkp hP hD hS 7 9 rfl rfl (k := 1) (show 1 < 2 by omega) (by decide) dX3_kept_29 (fun H locs hP hD hS => ?_)
  have hP : va_P D vwCl [(b 0, .inr (3, [.int th, .ref (b 1), .int (nI (un u)), .ref (b 2), .ref (b 3), .ref (b 4), .ref (b 5), .ref (b 6)])), (b 1, .inl ((cy 0), 72, .inl (mh (uh u)))), (b 2, .inl ((cy 0), 36, .inl (mt (ul u) (uz u) (ut u)))), (b 3, .inl ((cy 0), 12, .inl (uw u))), (b 4, .inl ((cy 0), 12, .inl (ud u))), (b 5, .inl ((cy 0), 2, .inl (mb (uh u)))), (b 6, .inl ((cy 0), 12, .inl pp)), (r1, .inl ((cy 4), 2, .inr (.inr (.inr (.inr (va_up (va_up (fun _ => none) 0 (some r10)) 1 (some r23))))))), (r10, .inl ((cy 0), 72, .inl (mh (uh u)))), (r23, .inl ((cy 0), 2, .inl (mb (uh u))))] H := hP
  have hD : va_D A [(b 0, .inr (3, [.int th, .ref (b 1), .int (nI (un u)), .ref (b 2), .ref (b 3), .ref (b 4), .ref (b 5), .ref (b 6)])), (b 1, .inl ((cy 0), 72, .inl (mh (uh u)))), (b 2, .inl ((cy 0), 36, .inl (mt (ul u) (uz u) (ut u)))), (b 3, .inl ((cy 0), 12, .inl (uw u))), (b 4, .inl ((cy 0), 12, .inl (ud u))), (b 5, .inl ((cy 0), 2, .inl (mb (uh u)))), (b 6, .inl ((cy 0), 12, .inl pp)), (r1, .inl ((cy 4), 2, .inr (.inr (.inr (.inr (va_up (va_up (fun _ => none) 0 (some r10)) 1 (some r23))))))), (r10, .inl ((cy 0), 72, .inl (mh (uh u)))), (r23, .inl ((cy 0), 2, .inl (mb (uh u))))] := hD
  have hP9 : va_P D vwCl (wM cy b u th pp ++ kp cy r1 (r10, r23).1 (r10, r23).2 (mh (uh u)) (mb (uh u))) H := hP
  have hD9 : va_D A (wM cy b u th pp ++ kp cy r1 (r10, r23).1 (r10, r23).2 (mh (uh u)) (mb (uh u))) := hD
  exact W.aret hx hb hr (Or.inr ⟨_, rfl⟩) (Or.inr ⟨_, rfl⟩) (fun t ht hW => ⟨⟨(r10, r23), _, rfl, trivial, by rw [ht]; exact hP9, hD9⟩, hS.F ht⟩) hS.2.2 dX3_kept_30

theorem inX3_bringBack_RX3 : ∀ w ∈ u_ws RX3 TX3 8, w ∈ wsX3_bringBack := by decide +kernel
theorem kX3_bringBack_0 : (.fieldLink RX3 9 "WedgeHarpsModel" "harp" "[I" : Cond) ∈ wsX3_bringBack := by decide +kernel
theorem kX3_bringBack_1 : (.methodLink RX3 64 arraycopyName : Cond) ∈ wsX3_bringBack := by decide +kernel
theorem kX3_bringBack_2 : (.native arraycopyName : Cond) ∈ wsX3_bringBack := by decide +kernel
theorem kX3_bringBack_3 : (.static arraycopyName : Cond) ∈ wsX3_bringBack := by decide +kernel
theorem kX3_bringBack_4 : (.initialized "java/lang/System" : Cond) ∈ wsX3_bringBack := by decide +kernel
theorem kX3_bringBack_5 : (.fieldLink RX3 22 "WedgeHarpsModel" "numbers" "[I" : Cond) ∈ wsX3_bringBack := by decide +kernel
set_option maxHeartbeats 4000000 in
set_option maxRecDepth 100000 in
theorem mX3_bringBack (l : Launch) (D : va_G) (cy : Nat → ClassId) (sz : Nat) (b : Nat → Nat) (u : US) (th : Int32) (pp : Nat → Int32) (ra kx ky : Nat) (h0 : HS) : Met l yX3_bringBack wsX3_bringBack ({ frames := 1, cells := 0, slots := 0, locals := 40 } : Room) (va_Pc [.ref (b 0), .ref ra] (fun U => U.heap.size = sz ∧ va_P D vwCl (wM cy b u th pp ++ kp cy ra kx ky (mh h0) (mb h0)) U.heap ∧ va_K D vwCl (TY cy) U ∧ va_D (fun _ => True) (wM cy b u th pp ++ kp cy ra kx ky (mh h0) (mb h0)) ∧ vKP cy U)) (va_Qv (fun (_ : Unit) => True) (fun (_ : Unit) t => va_P D vwCl (wM cy b (uH u h0) th pp ++ kp cy ra kx ky (mh h0) (mb h0)) t.heap ∧ va_D (va_A (wM cy b u th pp ++ kp cy ra kx ky (mh h0) (mb h0)) sz) (wM cy b (uH u h0) th pp ++ kp cy ra kx ky (mh h0) (mb h0))) (va_A (wM cy b u th pp ++ kp cy ra kx ky (mh h0) (mb h0)) sz)) 0 0 (va_A (wM cy b u th pp ++ kp cy ra kx ky (mh h0) (mb h0)) sz) := by
  refine Met.ofW (cc := cX3_bringBack) (maxL := 2) (ret := none) (by decide) rfl ?_
  intro p e s m args below meth c s₁ B hml hv
  obtain ⟨rfl, hsz, hP, hK, hD0, hkp⟩ := hv
  have hx := B.exec
  have hb := B.bytes
  have hr := B.returns
  have hts := atoms_spec (ws := wsX3_bringBack) B.pre
  have hown : s.vm.findClass RX3 = some m.cls := findClass_of_methodNamed B.named
  have hlocks := B.notSynchronized
  have hl := lv_entry ([.ref (b 0), .ref ra]) (n := 2) (Nat.le_of_ble_eq_true rfl)
  rw [lg_entry_eq]
  generalize (lg_sl ([.ref (b 0), .ref ra]) ++ List.replicate (2 - (lg_sl ([.ref (b 0), .ref ra])).length) Slot.unset).toArray = ls at hl ⊢
  have hl : lv_has ls 2 [(0, .ref (b 0)), (1, .ref ra)] := hl
  subst hsz
  have hD := hD0.self (sz := s.heap.size)
  generalize hAe : va_A (wM cy b u th pp ++ kp cy ra kx ky (mh h0) (mb h0)) s.heap.size = A at hD ⊢
  have hA : ∀ q : Nat, s.heap.size ≤ q → A q := fun q h => by rw [← hAe]; exact Or.inr h
  have hS : va_S A s.heap s.heap [] := va_S.rf
  have hP : va_P D vwCl (wM cy b u th pp ++ kp cy ra kx ky (mh h0) (mb h0)) s.heap := hP
  refine lv_aload_n hx hb dX3_bringBack_0 rfl (lv_at hl 1 rfl) ?_
  refine lv_iconst (v := 0) hx hb dX3_bringBack_1 (by decide) ?_
  refine pc_aldA hx hb hkp hP 7 rfl (k := 0) (show 0 < 2 by omega) (by decide) (v := kx) rfl dX3_bringBack_2 ?_
  refine lv_iconst (v := 0) hx hb dX3_bringBack_3 (by decide) ?_
  refine lv_aload_n hx hb dX3_bringBack_4 rfl (lv_at hl 0 rfl) ?_
  refine va_get (D := D) (ci := 3) (v := .ref (b 1)) (C := RX3) (T := TX3) (N := 8) hx hb hts inX3_bringBack_RX3 hown hK hP 0 rfl rfl 1 (by decide) (hts _ kX3_bringBack_0) (fun _ h9 => h9) rfl dX3_bringBack_5 ?_
  refine lv_iconst (v := 0) hx hb dX3_bringBack_8 (by decide) ?_
  refine lv_aload_n hx hb dX3_bringBack_9 rfl (lv_at hl 0 rfl) ?_
  refine va_get (D := D) (ci := 3) (v := .ref (b 1)) (C := RX3) (T := TX3) (N := 8) hx hb hts inX3_bringBack_RX3 hown hK hP 0 rfl rfl 1 (by decide) (hts _ kX3_bringBack_0) (fun _ h9 => h9) rfl dX3_bringBack_10 ?_
  refine va_alen hx hb hK hP 1 0 rfl rfl (v := 72) rfl dX3_bringBack_13 ?_
  refine va_copyi hx hb (by rw [hml]; exact hl.1.symm) hown (hts _ kX3_bringBack_1) (hts _ kX3_bringBack_2) (hts _ kX3_bringBack_3) (hts _ kX3_bringBack_4) hK hP hD hS 8 1 0 0 rfl rfl rfl rfl rfl (by decide) (by decide) (by decide) (by decide) (by decide) (fun _ _ => rfl) (Nat.le_of_ble_eq_true rfl) (Nat.le_of_ble_eq_true rfl) dX3_bringBack_14 (fun H locs hP hD hS => ?_)
  have hP : va_P D vwCl [(b 0, .inr (3, [.int th, .ref (b 1), .int (nI (un u)), .ref (b 2), .ref (b 3), .ref (b 4), .ref (b 5), .ref (b 6)])), (b 1, .inl ((cy 0), 72, .inl (va_cpy (mh h0) (mh (uh u)) ((0 : Int32)).toNatClampNeg ((0 : Int32)).toNatClampNeg ((72 : Int32)).toNatClampNeg))), (b 2, .inl ((cy 0), 36, .inl (mt (ul u) (uz u) (ut u)))), (b 3, .inl ((cy 0), 12, .inl (uw u))), (b 4, .inl ((cy 0), 12, .inl (ud u))), (b 5, .inl ((cy 0), 2, .inl (mb (uh u)))), (b 6, .inl ((cy 0), 12, .inl pp)), (ra, .inl ((cy 4), 2, .inr (.inr (.inr (.inr (va_up (va_up (fun _ => none) 0 (some kx)) 1 (some ky))))))), (kx, .inl ((cy 0), 72, .inl (mh h0))), (ky, .inl ((cy 0), 2, .inl (mb h0)))] H := hP
  have hD : va_D A [(b 0, .inr (3, [.int th, .ref (b 1), .int (nI (un u)), .ref (b 2), .ref (b 3), .ref (b 4), .ref (b 5), .ref (b 6)])), (b 1, .inl ((cy 0), 72, .inl (va_cpy (mh h0) (mh (uh u)) ((0 : Int32)).toNatClampNeg ((0 : Int32)).toNatClampNeg ((72 : Int32)).toNatClampNeg))), (b 2, .inl ((cy 0), 36, .inl (mt (ul u) (uz u) (ut u)))), (b 3, .inl ((cy 0), 12, .inl (uw u))), (b 4, .inl ((cy 0), 12, .inl (ud u))), (b 5, .inl ((cy 0), 2, .inl (mb (uh u)))), (b 6, .inl ((cy 0), 12, .inl pp)), (ra, .inl ((cy 4), 2, .inr (.inr (.inr (.inr (va_up (va_up (fun _ => none) 0 (some kx)) 1 (some ky))))))), (kx, .inl ((cy 0), 72, .inl (mh h0))), (ky, .inl ((cy 0), 2, .inl (mb h0)))] := hD
  have hP := va_P_row hP 1 rfl (g := mh h0) (fun j hj => cpy_all (n := 72) hj)
  have hD := va_D_addr (ws' := [(b 0, .inr (3, [.int th, .ref (b 1), .int (nI (un u)), .ref (b 2), .ref (b 3), .ref (b 4), .ref (b 5), .ref (b 6)])), (b 1, .inl ((cy 0), 72, .inl (mh h0))), (b 2, .inl ((cy 0), 36, .inl (mt (ul u) (uz u) (ut u)))), (b 3, .inl ((cy 0), 12, .inl (uw u))), (b 4, .inl ((cy 0), 12, .inl (ud u))), (b 5, .inl ((cy 0), 2, .inl (mb (uh u)))), (b 6, .inl ((cy 0), 12, .inl pp)), (ra, .inl ((cy 4), 2, .inr (.inr (.inr (.inr (va_up (va_up (fun _ => none) 0 (some kx)) 1 (some ky))))))), (kx, .inl ((cy 0), 72, .inl (mh h0))), (ky, .inl ((cy 0), 2, .inl (mb h0)))]) hD rfl
  have hP : va_P D vwCl [(b 0, .inr (3, [.int th, .ref (b 1), .int (nI (un u)), .ref (b 2), .ref (b 3), .ref (b 4), .ref (b 5), .ref (b 6)])), (b 1, .inl ((cy 0), 72, .inl (mh h0))), (b 2, .inl ((cy 0), 36, .inl (mt (ul u) (uz u) (ut u)))), (b 3, .inl ((cy 0), 12, .inl (uw u))), (b 4, .inl ((cy 0), 12, .inl (ud u))), (b 5, .inl ((cy 0), 2, .inl (mb (uh u)))), (b 6, .inl ((cy 0), 12, .inl pp)), (ra, .inl ((cy 4), 2, .inr (.inr (.inr (.inr (va_up (va_up (fun _ => none) 0 (some kx)) 1 (some ky))))))), (kx, .inl ((cy 0), 72, .inl (mh h0))), (ky, .inl ((cy 0), 2, .inl (mb h0)))] H := hP
  have hD : va_D A [(b 0, .inr (3, [.int th, .ref (b 1), .int (nI (un u)), .ref (b 2), .ref (b 3), .ref (b 4), .ref (b 5), .ref (b 6)])), (b 1, .inl ((cy 0), 72, .inl (mh h0))), (b 2, .inl ((cy 0), 36, .inl (mt (ul u) (uz u) (ut u)))), (b 3, .inl ((cy 0), 12, .inl (uw u))), (b 4, .inl ((cy 0), 12, .inl (ud u))), (b 5, .inl ((cy 0), 2, .inl (mb (uh u)))), (b 6, .inl ((cy 0), 12, .inl pp)), (ra, .inl ((cy 4), 2, .inr (.inr (.inr (.inr (va_up (va_up (fun _ => none) 0 (some kx)) 1 (some ky))))))), (kx, .inl ((cy 0), 72, .inl (mh h0))), (ky, .inl ((cy 0), 2, .inl (mb h0)))] := hD
  refine lv_aload_n hx hb dX3_bringBack_17 rfl (lv_at hl 1 rfl) ?_
  refine lv_iconst (v := 1) hx hb dX3_bringBack_18 (by decide) ?_
  refine pc_aldA hx hb hkp hP 7 rfl (k := 1) (show 1 < 2 by omega) (by decide) (v := ky) rfl dX3_bringBack_19 ?_
  refine lv_iconst (v := 0) hx hb dX3_bringBack_20 (by decide) ?_
  refine lv_aload_n hx hb dX3_bringBack_21 rfl (lv_at hl 0 rfl) ?_
  refine va_get (D := D) (ci := 3) (v := .ref (b 5)) (C := RX3) (T := TX3) (N := 8) hx hb hts inX3_bringBack_RX3 hown hK hP 0 rfl rfl 6 (by decide) (hts _ kX3_bringBack_5) (fun _ h9 => h9) rfl dX3_bringBack_22 ?_
  refine lv_iconst (v := 0) hx hb dX3_bringBack_25 (by decide) ?_
  refine lv_aload_n hx hb dX3_bringBack_26 rfl (lv_at hl 0 rfl) ?_
  refine va_get (D := D) (ci := 3) (v := .ref (b 5)) (C := RX3) (T := TX3) (N := 8) hx hb hts inX3_bringBack_RX3 hown hK hP 0 rfl rfl 6 (by decide) (hts _ kX3_bringBack_5) (fun _ h9 => h9) rfl dX3_bringBack_27 ?_
  refine va_alen hx hb hK hP 5 0 rfl rfl (v := 2) rfl dX3_bringBack_30 ?_
  refine va_copyi hx hb (by rw [hml]; exact hl.1.symm) hown (hts _ kX3_bringBack_1) (hts _ kX3_bringBack_2) (hts _ kX3_bringBack_3) (hts _ kX3_bringBack_4) hK hP hD hS 9 5 0 0 rfl rfl rfl rfl rfl (by decide) (by decide) (by decide) (by decide) (by decide) (fun _ _ => rfl) (Nat.le_of_ble_eq_true rfl) (Nat.le_of_ble_eq_true rfl) dX3_bringBack_31 (fun H locs hP hD hS => ?_)
  have hP : va_P D vwCl [(b 0, .inr (3, [.int th, .ref (b 1), .int (nI (un u)), .ref (b 2), .ref (b 3), .ref (b 4), .ref (b 5), .ref (b 6)])), (b 1, .inl ((cy 0), 72, .inl (mh h0))), (b 2, .inl ((cy 0), 36, .inl (mt (ul u) (uz u) (ut u)))), (b 3, .inl ((cy 0), 12, .inl (uw u))), (b 4, .inl ((cy 0), 12, .inl (ud u))), (b 5, .inl ((cy 0), 2, .inl (va_cpy (mb h0) (mb (uh u)) ((0 : Int32)).toNatClampNeg ((0 : Int32)).toNatClampNeg ((2 : Int32)).toNatClampNeg))), (b 6, .inl ((cy 0), 12, .inl pp)), (ra, .inl ((cy 4), 2, .inr (.inr (.inr (.inr (va_up (va_up (fun _ => none) 0 (some kx)) 1 (some ky))))))), (kx, .inl ((cy 0), 72, .inl (mh h0))), (ky, .inl ((cy 0), 2, .inl (mb h0)))] H := hP
  have hD : va_D A [(b 0, .inr (3, [.int th, .ref (b 1), .int (nI (un u)), .ref (b 2), .ref (b 3), .ref (b 4), .ref (b 5), .ref (b 6)])), (b 1, .inl ((cy 0), 72, .inl (mh h0))), (b 2, .inl ((cy 0), 36, .inl (mt (ul u) (uz u) (ut u)))), (b 3, .inl ((cy 0), 12, .inl (uw u))), (b 4, .inl ((cy 0), 12, .inl (ud u))), (b 5, .inl ((cy 0), 2, .inl (va_cpy (mb h0) (mb (uh u)) ((0 : Int32)).toNatClampNeg ((0 : Int32)).toNatClampNeg ((2 : Int32)).toNatClampNeg))), (b 6, .inl ((cy 0), 12, .inl pp)), (ra, .inl ((cy 4), 2, .inr (.inr (.inr (.inr (va_up (va_up (fun _ => none) 0 (some kx)) 1 (some ky))))))), (kx, .inl ((cy 0), 72, .inl (mh h0))), (ky, .inl ((cy 0), 2, .inl (mb h0)))] := hD
  have hP := va_P_row hP 5 rfl (g := mb h0) (fun j hj => cpy_all (n := 2) hj)
  have hD := va_D_addr (ws' := [(b 0, .inr (3, [.int th, .ref (b 1), .int (nI (un u)), .ref (b 2), .ref (b 3), .ref (b 4), .ref (b 5), .ref (b 6)])), (b 1, .inl ((cy 0), 72, .inl (mh h0))), (b 2, .inl ((cy 0), 36, .inl (mt (ul u) (uz u) (ut u)))), (b 3, .inl ((cy 0), 12, .inl (uw u))), (b 4, .inl ((cy 0), 12, .inl (ud u))), (b 5, .inl ((cy 0), 2, .inl (mb h0))), (b 6, .inl ((cy 0), 12, .inl pp)), (ra, .inl ((cy 4), 2, .inr (.inr (.inr (.inr (va_up (va_up (fun _ => none) 0 (some kx)) 1 (some ky))))))), (kx, .inl ((cy 0), 72, .inl (mh h0))), (ky, .inl ((cy 0), 2, .inl (mb h0)))]) hD rfl
  have hP : va_P D vwCl [(b 0, .inr (3, [.int th, .ref (b 1), .int (nI (un u)), .ref (b 2), .ref (b 3), .ref (b 4), .ref (b 5), .ref (b 6)])), (b 1, .inl ((cy 0), 72, .inl (mh h0))), (b 2, .inl ((cy 0), 36, .inl (mt (ul u) (uz u) (ut u)))), (b 3, .inl ((cy 0), 12, .inl (uw u))), (b 4, .inl ((cy 0), 12, .inl (ud u))), (b 5, .inl ((cy 0), 2, .inl (mb h0))), (b 6, .inl ((cy 0), 12, .inl pp)), (ra, .inl ((cy 4), 2, .inr (.inr (.inr (.inr (va_up (va_up (fun _ => none) 0 (some kx)) 1 (some ky))))))), (kx, .inl ((cy 0), 72, .inl (mh h0))), (ky, .inl ((cy 0), 2, .inl (mb h0)))] H := hP
  have hD : va_D A [(b 0, .inr (3, [.int th, .ref (b 1), .int (nI (un u)), .ref (b 2), .ref (b 3), .ref (b 4), .ref (b 5), .ref (b 6)])), (b 1, .inl ((cy 0), 72, .inl (mh h0))), (b 2, .inl ((cy 0), 36, .inl (mt (ul u) (uz u) (ut u)))), (b 3, .inl ((cy 0), 12, .inl (uw u))), (b 4, .inl ((cy 0), 12, .inl (ud u))), (b 5, .inl ((cy 0), 2, .inl (mb h0))), (b 6, .inl ((cy 0), 12, .inl pp)), (ra, .inl ((cy 4), 2, .inr (.inr (.inr (.inr (va_up (va_up (fun _ => none) 0 (some kx)) 1 (some ky))))))), (kx, .inl ((cy 0), 72, .inl (mh h0))), (ky, .inl ((cy 0), 2, .inl (mb h0)))] := hD
  have hP : va_P D vwCl (wM cy b (uH u h0) th pp ++ kp cy ra kx ky (mh h0) (mb h0)) H := hP
  have hD : va_D A (wM cy b (uH u h0) th pp ++ kp cy ra kx ky (mh h0) (mb h0)) := hD
  have hP9 : va_P D vwCl (wM cy b (uH u h0) th pp ++ kp cy ra kx ky (mh h0) (mb h0)) H := hP
  have hD9 : va_D A (wM cy b (uH u h0) th pp ++ kp cy ra kx ky (mh h0) (mb h0)) := hD
  exact W.vret hx hb hr (fun t ht hW => ⟨⟨(), rfl, trivial, by rw [ht]; exact hP9, hD9⟩, hS.F ht⟩) hS.2.2 dX3_bringBack_34

