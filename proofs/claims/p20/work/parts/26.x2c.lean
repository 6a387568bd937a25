theorem inX0_place_RX0 : ∀ w ∈ u_ws RX0 TX0 3, w ∈ wsX0_place := by decide +kernel
theorem kX0_place_0 : (.fieldLink RX0 15 "WedgeHarps$Chord" "lowest" "I" : Cond) ∈ wsX0_place := by decide +kernel
theorem kX0_place_1 : (.fieldLink RX0 19 "WedgeHarps$Chord" "size" "I" : Cond) ∈ wsX0_place := by decide +kernel
set_option maxHeartbeats 4000000 in
set_option maxRecDepth 100000 in
theorem mX0_place (l : Launch) (D : va_G) (cy : Nat → ClassId) (sz : Nat) (ca ta lo zz : Nat) (tn : Nat → Int32) (f s0 : Nat) : Met l yX0_place wsX0_place ({ frames := 0, cells := 0, slots := 0, locals := 0 } : Room) (va_Pc [.ref ca, .int (nI f), .int (nI s0)] (fun U => U.heap.size = sz ∧ va_P D vwCl (wC cy ca ta lo zz tn) U.heap ∧ va_K D vwCl (TY cy) U ∧ va_D (fun _ => True) (wC cy ca ta lo zz tn))) (va_Qv (fun (_ : Unit) => True) (fun (_ : Unit) t => va_P D vwCl (wC cy ca ta f s0 tn) t.heap ∧ va_D (va_A (wC cy ca ta lo zz tn) sz) (wC cy ca ta f s0 tn)) (va_A (wC cy ca ta lo zz tn) sz)) 0 0 (va_A (wC cy ca ta lo zz tn) sz) := by
  refine Met.ofW (cc := cX0_place) (maxL := 3) (ret := none) (by decide) rfl ?_
  intro p e s m args below meth c s₁ B hml hv
  obtain ⟨rfl, hsz, hP, hK, hD0⟩ := hv
  have hx := B.exec
  have hb := B.bytes
  have hr := B.returns
  have hts := atoms_spec (ws := wsX0_place) B.pre
  have hown : s.vm.findClass RX0 = some m.cls := findClass_of_methodNamed B.named
  have hlocks := B.notSynchronized
  have hl := lv_entry ([.ref ca, .int (nI f), .int (nI s0)]) (n := 3) (Nat.le_of_ble_eq_true rfl)
  rw [lg_entry_eq]
  generalize (lg_sl ([.ref ca, .int (nI f), .int (nI s0)]) ++ List.replicate (3 - (lg_sl ([.ref ca, .int (nI f), .int (nI s0)])).length) Slot.unset).toArray = ls at hl ⊢
  have hl : lv_has ls 3 [(0, .ref ca), (1, .int (nI f)), (2, .int (nI s0))] := hl
  subst hsz
  have hD := hD0.self (sz := s.heap.size)
  generalize hAe : va_A (wC cy ca ta lo zz tn) s.heap.size = A at hD ⊢
  have hA : ∀ q : Nat, s.heap.size ≤ q → A q := fun q h => by rw [← hAe]; exact Or.inr h
  have hS : va_S A s.heap s.heap [] := va_S.rf
  have hP : va_P D vwCl (wC cy ca ta lo zz tn) s.heap := hP
  refine lv_aload_n hx hb dX0_place_0 rfl (lv_at hl 0 rfl) ?_
  refine lv_iload_n hx hb dX0_place_1 rfl (lv_at hl 1 rfl) ?_
  refine va_put (D := D) (ci := 0) (v := .int (nI f)) (ty := .int) (C := RX0) (T := TX0) (N := 3) hx hb hts inX0_place_RX0 tyX0 tyX0_ok nmX0 hown hK hP hD hS 0 rfl rfl 1 (by decide) (hts _ kX0_place_0) (fun _ h9 => h9) rfl (by decide +kernel) rfl rfl (Nat.le_of_ble_eq_true rfl) dX0_place_2 (fun H locs hP hD hS => ?_)
  have hP : va_P D vwCl [(ca, .inr (0, [.ref ta, .int (nI f), .int (nI zz)])), (ta, .inl ((cy 0), 4, .inl tn))] H := hP
  have hD : va_D A [(ca, .inr (0, [.ref ta, .int (nI f), .int (nI zz)])), (ta, .inl ((cy 0), 4, .inl tn))] := hD
  refine lv_aload_n hx hb dX0_place_5 rfl (lv_at hl 0 rfl) ?_
  refine lv_iload_n hx hb dX0_place_6 rfl (lv_at hl 2 rfl) ?_
  refine va_put (D := D) (ci := 0) (v := .int (nI s0)) (ty := .int) (C := RX0) (T := TX0) (N := 3) hx hb hts inX0_place_RX0 tyX0 tyX0_ok nmX0 hown hK hP hD hS 0 rfl rfl 2 (by decide) (hts _ kX0_place_1) (fun _ h9 => h9) rfl (by decide +kernel) rfl rfl (Nat.le_of_ble_eq_true rfl) dX0_place_7 (fun H locs hP hD hS => ?_)
  have hP : va_P D vwCl [(ca, .inr (0, [.ref ta, .int (nI f), .int (nI s0)])), (ta, .inl ((cy 0), 4, .inl tn))] H := hP
  have hD : va_D A [(ca, .inr (0, [.ref ta, .int (nI f), .int (nI s0)])), (ta, .inl ((cy 0), 4, .inl tn))] := hD
  have hP9 : va_P D vwCl (wC cy ca ta f s0 tn) H := hP
  have hD9 : va_D A (wC cy ca ta f s0 tn) := hD
  exact W.vret hx hb hr (fun t ht hW => ⟨⟨(), rfl, trivial, by rw [ht]; exact hP9, hD9⟩, hS.F ht⟩) hS.2.2 dX0_place_10

theorem inX0_tune_RX0 : ∀ w ∈ u_ws RX0 TX0 3, w ∈ wsX0_tune := by decide +kernel
theorem kX0_tune_0 : (.fieldLink RX0 9 "WedgeHarps$Chord" "tones" "[I" : Cond) ∈ wsX0_tune := by decide +kernel
set_option maxHeartbeats 4000000 in
set_option maxRecDepth 100000 in
theorem mX0_tune (l : Launch) (D : va_G) (cy : Nat → ClassId) (sz : Nat) (ca ta lo zz : Nat) (tn : Nat → Int32) (t0 t1 t2 t3 : Int32) : Met l yX0_tune wsX0_tune ({ frames := 0, cells := 0, slots := 0, locals := 0 } : Room) (va_Pc [.ref ca, .int t0, .int t1, .int t2, .int t3] (fun U => U.heap.size = sz ∧ va_P D vwCl (wC cy ca ta lo zz tn) U.heap ∧ va_K D vwCl (TY cy) U ∧ va_D (fun _ => True) (wC cy ca ta lo zz tn))) (va_Qv (fun (_ : Unit) => True) (fun (_ : Unit) t => va_P D vwCl (wC cy ca ta lo zz (upd (upd (upd (upd tn 0 t0) 1 t1) 2 t2) 3 t3)) t.heap ∧ va_D (va_A (wC cy ca ta lo zz tn) sz) (wC cy ca ta lo zz (upd (upd (upd (upd tn 0 t0) 1 t1) 2 t2) 3 t3))) (va_A (wC cy ca ta lo zz tn) sz)) 0 0 (va_A (wC cy ca ta lo zz tn) sz) := by
  refine Met.ofW (cc := cX0_tune) (maxL := 5) (ret := none) (by decide) rfl ?_
  intro p e s m args below meth c s₁ B hml hv
  obtain ⟨rfl, hsz, hP, hK, hD0⟩ := hv
  have hx := B.exec
  have hb := B.bytes
  have hr := B.returns
  have hts := atoms_spec (ws := wsX0_tune) B.pre
  have hown : s.vm.findClass RX0 = some m.cls := findClass_of_methodNamed B.named
  have hlocks := B.notSynchronized
  have hl := lv_entry ([.ref ca, .int t0, .int t1, .int t2, .int t3]) (n := 5) (Nat.le_of_ble_eq_true rfl)
  rw [lg_entry_eq]
  generalize (lg_sl ([.ref ca, .int t0, .int t1, .int t2, .int t3]) ++ List.replicate (5 - (lg_sl ([.ref ca, .int t0, .int t1, .int t2, .int t3])).length) Slot.unset).toArray = ls at hl ⊢
  have hl : lv_has ls 5 [(0, .ref ca), (1, .int t0), (2, .int t1), (3, .int t2), (4, .int t3)] := hl
  subst hsz
  have hD := hD0.self (sz := s.heap.size)
  generalize hAe : va_A (wC cy ca ta lo zz tn) s.heap.size = A at hD ⊢
  have hA : ∀ q : Nat, s.heap.size ≤ q → A q := fun q h => by rw [← hAe]; exact Or.inr h
  have hS : va_S A s.heap s.heap [] := va_S.rf
  have hP : va_P D vwCl (wC cy ca ta lo zz tn) s.heap := hP
  refine lv_aload_n hx hb dX0_tune_0 rfl (lv_at hl 0 rfl) ?_
  refine va_get (D := D) (ci := 0) (v := .ref ta) (C := RX0) (T := TX0) (N := 3) hx hb hts inX0_tune_RX0 hown hK hP 0 rfl rfl 0 (by decide) (hts _ kX0_tune_0) (fun _ h9 => h9) rfl dX0_tune_1 ?_
  refine lv_iconst (v := 0) hx hb dX0_tune_4 (by decide) ?_
  refine lv_iload_n hx hb dX0_tune_5 rfl (lv_at hl 1 rfl) ?_
  refine pc_iast hx hb hK hP hD hS 1 0 rfl rfl (k := 0) (show 0 < 4 by omega) (by decide) dX0_tune_6 (fun H locs hP hD hS => ?_)
  have hP : va_P D vwCl [(ca, .inr (0, [.ref ta, .int (nI lo), .int (nI zz)])), (ta, .inl ((cy 0), 4, .inl (upd tn 0 t0)))] H := hP
  have hD : va_D A [(ca, .inr (0, [.ref ta, .int (nI lo), .int (nI zz)])), (ta, .inl ((cy 0), 4, .inl (upd tn 0 t0)))] := hD
  refine lv_aload_n hx hb dX0_tune_7 rfl (lv_at hl 0 rfl) ?_
  refine va_get (D := D) (ci := 0) (v := .ref ta) (C := RX0) (T := TX0) (N := 3) hx hb hts inX0_tune_RX0 hown hK hP 0 rfl rfl 0 (by decide) (hts _ kX0_tune_0) (fun _ h9 => h9) rfl dX0_tune_8 ?_
  refine lv_iconst (v := 1) hx hb dX0_tune_11 (by decide) ?_
  refine lv_iload_n hx hb dX0_tune_12 rfl (lv_at hl 2 rfl) ?_
  refine pc_iast hx hb hK hP hD hS 1 0 rfl rfl (k := 1) (show 1 < 4 by omega) (by decide) dX0_tune_13 (fun H locs hP hD hS => ?_)
  have hP : va_P D vwCl [(ca, .inr (0, [.ref ta, .int (nI lo), .int (nI zz)])), (ta, .inl ((cy 0), 4, .inl (upd (upd tn 0 t0) 1 t1)))] H := hP
  have hD : va_D A [(ca, .inr (0, [.ref ta, .int (nI lo), .int (nI zz)])), (ta, .inl ((cy 0), 4, .inl (upd (upd tn 0 t0) 1 t1)))] := hD
  refine lv_aload_n hx hb dX0_tune_14 rfl (lv_at hl 0 rfl) ?_
  refine va_get (D := D) (ci := 0) (v := .ref ta) (C := RX0) (T := TX0) (N := 3) hx hb hts inX0_tune_RX0 hown hK hP 0 rfl rfl 0 (by decide) (hts _ kX0_tune_0) (fun _ h9 => h9) rfl dX0_tune_15 ?_
  refine lv_iconst (v := 2) hx hb dX0_tune_18 (by decide) ?_
  refine lv_iload_n hx hb dX0_tune_19 rfl (lv_at hl 3 rfl) ?_
  refine pc_iast hx hb hK hP hD hS 1 0 rfl rfl (k := 2) (show 2 < 4 by omega) (by decide) dX0_tune_20 (fun H locs hP hD hS => ?_)
  have hP : va_P D vwCl [(ca, .inr (0, [.ref ta, .int (nI lo), .int (nI zz)])), (ta, .inl ((cy 0), 4, .inl (upd (upd (upd tn 0 t0) 1 t1) 2 t2)))] H := hP
  have hD : va_D A [(ca, .inr (0, [.ref ta, .int (nI lo), .int (nI zz)])), (ta, .inl ((cy 0), 4, .inl (upd (upd (upd tn 0 t0) 1 t1) 2 t2)))] := hD
  refine lv_aload_n hx hb dX0_tune_21 rfl (lv_at hl 0 rfl) ?_
  refine va_get (D := D) (ci := 0) (v := .ref ta) (C := RX0) (T := TX0) (N := 3) hx hb hts inX0_tune_RX0 hown hK hP 0 rfl rfl 0 (by decide) (hts _ kX0_tune_0) (fun _ h9 => h9) rfl dX0_tune_22 ?_
  refine lv_iconst (v := 3) hx hb dX0_tune_25 (by decide) ?_
  refine lv_iload hx hb dX0_tune_26 (lv_at hl 4 rfl) ?_
  refine pc_iast hx hb hK hP hD hS 1 0 rfl rfl (k := 3) (show 3 < 4 by omega) (by decide) dX0_tune_28 (fun H locs hP hD hS => ?_)
  have hP : va_P D vwCl [(ca, .inr (0, [.ref ta, .int (nI lo), .int (nI zz)])), (ta, .inl ((cy 0), 4, .inl (upd (upd (upd (upd tn 0 t0) 1 t1) 2 t2) 3 t3)))] H := hP
  have hD : va_D A [(ca, .inr (0, [.ref ta, .int (nI lo), .int (nI zz)])), (ta, .inl ((cy 0), 4, .inl (upd (upd (upd (upd tn 0 t0) 1 t1) 2 t2) 3 t3)))] := hD
  have hP9 : va_P D vwCl (wC cy ca ta lo zz (upd (upd (upd (upd tn 0 t0) 1 t1) 2 t2) 3 t3)) H := hP
  have hD9 : va_D A (wC cy ca ta lo zz (upd (upd (upd (upd tn 0 t0) 1 t1) 2 t2) 3 t3)) := hD
  exact W.vret hx hb hr (fun t ht hW => ⟨⟨(), rfl, trivial, by rw [ht]; exact hP9, hD9⟩, hS.F ht⟩) hS.2.2 dX0_tune_29

theorem inX2_fewest_0_RX0 : ∀ w ∈ u_ws RX0 TX0 3, w ∈ wsX2_fewestSteps := by decide +kernel
theorem kX2_fewest_0_0 : (.fieldLink RX2 157 "WedgeHarps$Chord" "size" "I" : Cond) ∈ wsX2_fewestSteps := by decide +kernel
set_option maxHeartbeats 4000000 in
set_option maxRecDepth 100000 in
theorem mX2_fewest_0 (l : Launch) (D : va_G) (cy : Nat → ClassId) (q : Nat → Nat) (h : HS) (ca ta lo sz : Nat) (tn : Nat → Int32) (hls : lo + sz ≤ 12) (hs4 : sz ≤ 4) (j : Nat) (hj : j + 0 = sz) (hj1 : 1 ≤ j) (two one : Int32) : Met l yX2_fewestSteps wsX2_fewestSteps ({ frames := 2, cells := 0, slots := 0, locals := 48 } : Room) (va_Pc [.ref (q 0), .ref ca, .int (nI j), .int two, .int one] (fun U => va_P D vwCl (wH cy q h ++ wC cy ca ta lo sz tn) U.heap ∧ va_K D vwCl (TY cy) U)) (vp_Si (fun r8 => r8 = fw h lo tn 0 j two one)) 0 0 (fun _ => False) := by
  refine Met.ofW (cc := cX2_fewestSteps) (maxL := 8) (ret := (some .int)) (by decide) rfl ?_
  intro p e s m args below meth c s₁ B hml hv
  obtain ⟨rfl, hP, hK⟩ := hv
  have hx := B.exec
  have hb := B.bytes
  have hr := B.returns
  have hts := atoms_spec (ws := wsX2_fewestSteps) B.pre
  have hown : s.vm.findClass RX2 = some m.cls := findClass_of_methodNamed B.named
  have hlocks := B.notSynchronized
  have hl := lv_entry ([.ref (q 0), .ref ca, .int (nI j), .int two, .int one]) (n := 8) (Nat.le_of_ble_eq_true rfl)
  rw [lg_entry_eq]
  generalize (lg_sl ([.ref (q 0), .ref ca, .int (nI j), .int two, .int one]) ++ List.replicate (8 - (lg_sl ([.ref (q 0), .ref ca, .int (nI j), .int two, .int one])).length) Slot.unset).toArray = ls at hl ⊢
  have hl : lv_has ls 8 [(0, .ref (q 0)), (1, .ref ca), (2, .int (nI j)), (3, .int two), (4, .int one)] := hl
  refine lv_iload_n hx hb dX2_fewestSteps_0 rfl (lv_at hl 2 rfl) ?_
  refine lv_aload_n hx hb dX2_fewestSteps_1 rfl (lv_at hl 1 rfl) ?_
  refine va_get (D := D) (ci := 0) (v := .int (nI sz)) (C := RX0) (T := TX0) (N := 3) hx hb hts inX2_fewest_0_RX0 hown hK hP 7 rfl rfl 2 (by decide) (hts _ kX2_fewest_0_0) (fun _ h9 => h9) rfl dX2_fewestSteps_2 ?_
  refine lv_icmp_lt (tgt := 30) hx hb dX2_fewestSteps_5 (by decide) (fun c5 => absurd c5 (nI_nlt (show sz ≤ j by omega) (show j < 2 ^ 31 by omega))) (fun c5 => ?_)
  have n5 : ¬ (j < sz) := fun h9 => c5 ((nI_ltI (a := j) (b := sz) (by omega) (by omega)).mpr h9)
  refine lv_aload_n hx hb dX2_fewestSteps_8 rfl (lv_at hl 0 rfl) ?_
  refine lv_aload_n hx hb dX2_fewestSteps_9 rfl (lv_at hl 1 rfl) ?_
  refine lv_iload_n hx hb dX2_fewestSteps_10 rfl (lv_at hl 2 rfl) ?_
  refine lv_iconst (v := 1) hx hb dX2_fewestSteps_11 (by decide) ?_
  refine lv_isub hx hb dX2_fewestSteps_12 ?_
  refine pc_top (show (nI j) - 1 = nI (j - 1) from pk_sub (a := j) (b := 1) (by omega)) ?_
  refine lv_iload hx hb dX2_fewestSteps_13 (lv_at hl 4 rfl) ?_
  refine lv_iload_n hx hb dX2_fewestSteps_15 rfl (lv_at hl 3 rfl) ?_
  refine pc_calli (va_runV (As := [.ref ca, .int (nI (j - 1)), .int one, .int two]) (rest := []) ⟨hx, hb, hml, hown, hts⟩ (mX1_fitsPushed l D cy q h ca ta lo sz tn hls hs4 (j - 1) (by omega) one two) (cwV 4 hts gX2_fewestSteps_X1_fitsPushed rfl rfl rfl (by decide +kernel) ⟨Nat.le_of_ble_eq_true rfl, Nat.le_of_ble_eq_true rfl⟩) ⟨fun a U g mk q => ⟨q.1, q.2.1, va_K.moved (u := U) (U := U.calling g mk a) (Vm.Alike.refl U.vm) q.2.2⟩, va_recv hK hP (ci := 1) (q0 := 0) rfl rfl, fun U hU hW => ⟨rfl, by rw [hU]; exact hP, va_K.moved hW.alike hK⟩⟩ rfl rfl hl.1 rfl (lv_room (Nat.le_of_ble_eq_true rfl)) dX2_fewestSteps_16 ⟨Nat.le_of_ble_eq_true rfl, Nat.le_of_ble_eq_true rfl⟩) (fun r9 hr9 => ?_)
  subst hr9
  refine lv_if_eq (tgt := 26) hx hb dX2_fewestSteps_19 (by decide) (fun c19 => ?_) (fun c19 => ?_)
  · refine lv_sipush (v := 1000) hx hb dX2_fewestSteps_26 (by decide) ?_
    exact W.iret (v := 1000) hx hb hr (fun t ht hW => ⟨1000, rfl, (by simp [fw, bI_0.mp c19]), ht⟩) (fun q hq => absurd hq List.not_mem_nil) dX2_fewestSteps_29
  · refine lv_iconst (v := 0) hx hb dX2_fewestSteps_22 (by decide) ?_
    refine lv_goto (tgt := 29) hx hb dX2_fewestSteps_23 (by decide) ?_
    exact W.iret (v := 0) hx hb hr (fun t ht hW => ⟨0, rfl, (by simp [fw, bI_1.mp c19]), ht⟩) (fun q hq => absurd hq List.not_mem_nil) dX2_fewestSteps_29

theorem inX2_fewest_1_RX0 : ∀ w ∈ u_ws RX0 TX0 3, w ∈ wsX2_fewestSteps := by decide +kernel
theorem kX2_fewest_1_0 : (.fieldLink RX2 157 "WedgeHarps$Chord" "size" "I" : Cond) ∈ wsX2_fewestSteps := by decide +kernel
theorem kX2_fewest_1_1 : (.fieldLink RX2 154 "WedgeHarps$Chord" "lowest" "I" : Cond) ∈ wsX2_fewestSteps := by decide +kernel
theorem kX2_fewest_1_2 : (.methodLink RX2 95 Lib.Math.abs.name : Cond) ∈ wsX2_fewestSteps := by decide +kernel
theorem kX2_fewest_1_3 : (.static Lib.Math.abs.name : Cond) ∈ wsX2_fewestSteps := by decide +kernel
theorem kX2_fewest_1_4 : (.initialized "java/lang/Math" : Cond) ∈ wsX2_fewestSteps := by decide +kernel
theorem kX2_fewest_1_5 : (.code Lib.Math.abs.name Lib.Math.abs.code 1 (some .int) : Cond) ∈ wsX2_fewestSteps := by decide +kernel
theorem kX2_fewest_1_6 : (.methodLink RX2 217 Lib.Math.min.name : Cond) ∈ wsX2_fewestSteps := by decide +kernel
theorem kX2_fewest_1_7 : (.static Lib.Math.min.name : Cond) ∈ wsX2_fewestSteps := by decide +kernel
theorem kX2_fewest_1_8 : (.code Lib.Math.min.name Lib.Math.min.code 2 (some .int) : Cond) ∈ wsX2_fewestSteps := by decide +kernel
set_option maxHeartbeats 4000000 in
set_option maxRecDepth 100000 in
theorem mX2_fewest_1 (l : Launch) (D : va_G) (cy : Nat → ClassId) (q : Nat → Nat) (h : HS) (ca ta lo sz : Nat) (tn : Nat → Int32) (hls : lo + sz ≤ 12) (hs4 : sz ≤ 4) (j : Nat) (hj : j + 1 = sz) (two one : Int32) : Met l yX2_fewestSteps wsX2_fewestSteps ({ frames := 3, cells := 0, slots := 0, locals := 75 } : Room) (va_Pc [.ref (q 0), .ref ca, .int (nI j), .int two, .int one] (fun U => va_P D vwCl (wH cy q h ++ wC cy ca ta lo sz tn) U.heap ∧ va_K D vwCl (TY cy) U)) (vp_Si (fun r8 => r8 = fw h lo tn 1 j two one)) 0 0 (fun _ => False) := by
  refine Met.ofW (cc := cX2_fewestSteps) (maxL := 8) (ret := (some .int)) (by decide) rfl ?_
  intro p e s m args below meth c s₁ B hml hv
  obtain ⟨rfl, hP, hK⟩ := hv
  have hx := B.exec
  have hb := B.bytes
  have hr := B.returns
  have hts := atoms_spec (ws := wsX2_fewestSteps) B.pre
  have hown : s.vm.findClass RX2 = some m.cls := findClass_of_methodNamed B.named
  have hlocks := B.notSynchronized
  have hl := lv_entry ([.ref (q 0), .ref ca, .int (nI j), .int two, .int one]) (n := 8) (Nat.le_of_ble_eq_true rfl)
  rw [lg_entry_eq]
  generalize (lg_sl ([.ref (q 0), .ref ca, .int (nI j), .int two, .int one]) ++ List.replicate (8 - (lg_sl ([.ref (q 0), .ref ca, .int (nI j), .int two, .int one])).length) Slot.unset).toArray = ls at hl ⊢
  have hl : lv_has ls 8 [(0, .ref (q 0)), (1, .ref ca), (2, .int (nI j)), (3, .int two), (4, .int one)] := hl
  refine lv_iload_n hx hb dX2_fewestSteps_0 rfl (lv_at hl 2 rfl) ?_
  refine lv_aload_n hx hb dX2_fewestSteps_1 rfl (lv_at hl 1 rfl) ?_
  refine va_get (D := D) (ci := 0) (v := .int (nI sz)) (C := RX0) (T := TX0) (N := 3) hx hb hts inX2_fewest_1_RX0 hown hK hP 7 rfl rfl 2 (by decide) (hts _ kX2_fewest_1_0) (fun _ h9 => h9) rfl dX2_fewestSteps_2 ?_
  refine lv_icmp_lt (tgt := 30) hx hb dX2_fewestSteps_5 (by decide) (fun c5 => ?_) (fun c5 => absurd c5 (not_not_intro (nI_lt (show j < sz by omega) (show sz < 2 ^ 31 by omega))))
  have n5 : j < sz := (nI_ltI (a := j) (b := sz) (by omega) (by omega)).mp c5
  refine lv_sipush (v := 1000) hx hb dX2_fewestSteps_30 (by decide) ?_
  refine lv_istore (lv' := [(5, .int 1000), (0, .ref (q 0)), (1, .ref ca), (2, .int (nI j)), (3, .int two), (4, .int one)]) hx hb dX2_fewestSteps_33 hl (by decide) rfl (fun ls hl => ?_)
  refine lv_bipush (v := (-4)) hx hb dX2_fewestSteps_35 (by decide) ?_
  refine lv_istore (lv' := [(6, .int (-4)), (5, .int 1000), (0, .ref (q 0)), (1, .ref ca), (2, .int (nI j)), (3, .int two), (4, .int one)]) hx hb dX2_fewestSteps_37 hl (by decide) rfl (fun ls hl => ?_)
  have loop39 : ∀ (n9 : Nat) (n : Nat), n ≤ 9 → 9 - n < n9 → ∀ ls : Array Slot, lv_has ls 8 [(0, .ref (q 0)), (1, .ref ca), (2, .int (nI j)), (3, .int two), (4, .int one), (5, .int (fwF (fwC h lo tn j two one) (fun x => fw h lo tn 0 (j + 1) one x) n)), (6, .int (nI n - 4))] → W p l e (headSpec wsX2_fewestSteps ({ frames := 3, cells := 0, slots := 0, locals := 75 } : Room)).room s m ([.ref (q 0), .ref ca, .int (nI j), .int two, .int one] : List Value).toArray below meth c s.heap [] 0 0 (MQ below (vp_Si (fun r8 => r8 = fw h lo tn 1 j two one)) ([.ref (q 0), .ref ca, .int (nI j), .int two, .int one] : List Value).toArray s 0 0 (fun _ => False)) (F0 m 39 ls []) := by
    intro n9
    induction n9 with
    | zero => intro n hn h9 ls hl; exact absurd h9 (by omega)
    | succ n9 ih39 =>
      intro n hn h9 ls hl
      refine lv_iload hx hb dX2_fewestSteps_39 (lv_at hl 6 rfl) ?_
      refine lv_iconst (v := 4) hx hb dX2_fewestSteps_41 (by decide) ?_
      refine lv_icmp_gt (tgt := 116) hx hb dX2_fewestSteps_42 (by decide) (fun c42 => ?_) (fun c42 => ?_)
      · have n42 : n = 9 := (fw_lt hn).mp c42
        refine lv_iload hx hb dX2_fewestSteps_116 (lv_at hl 5 rfl) ?_
        exact W.iret (v := fwF (fwC h lo tn j two one) (fun x => fw h lo tn 0 (j + 1) one x) n) hx hb hr (fun t ht hW => ⟨fwF (fwC h lo tn j two one) (fun x => fw h lo tn 0 (j + 1) one x) n, rfl, (by rw [n42]; rfl), ht⟩) (fun q hq => absurd hq List.not_mem_nil) dX2_fewestSteps_118
      · have n42 : n ≤ 8 := by
          rcases Nat.lt_or_ge n 9 with z | z
          · omega
          · exact absurd ((fw_lt hn).mpr (by omega)) c42
        refine lv_aload_n hx hb dX2_fewestSteps_45 rfl (lv_at hl 0 rfl) ?_
        refine lv_aload_n hx hb dX2_fewestSteps_46 rfl (lv_at hl 1 rfl) ?_
        refine va_get (D := D) (ci := 0) (v := .int (nI lo)) (C := RX0) (T := TX0) (N := 3) hx hb hts inX2_fewest_1_RX0 hown hK hP 7 rfl rfl 1 (by decide) (hts _ kX2_fewest_1_1) (fun _ h9 => h9) rfl dX2_fewestSteps_47 ?_
        refine lv_iload_n hx hb dX2_fewestSteps_50 rfl (lv_at hl 2 rfl) ?_
        refine lv_iadd hx hb dX2_fewestSteps_51 ?_
        refine pc_top (show (nI lo) + (nI j) = nI (lo + j) from nI_add lo j) ?_
        refine lv_iload hx hb dX2_fewestSteps_52 (lv_at hl 6 rfl) ?_
        have hPc := hP.sub (ws' := wH cy q h) [0, 1, 2, 3, 4, 5, 6] rfl
        refine pc_calli (va_runV (As := [.int (nI (lo + j)), .int (nI n - 4)]) (rest := []) ⟨hx, hb, hml, hown, hts⟩ (mX1_takesPush l D cy q h (lo + j) (by omega) (nI n - 4)) (cwV 2 hts gX2_fewestSteps_X1_takesPush rfl rfl rfl (by decide +kernel) ⟨Nat.le_of_ble_eq_true rfl, Nat.le_of_ble_eq_true rfl⟩) ⟨fun a U g mk q => ⟨q.1, q.2.1, va_K.moved (u := U) (U := U.calling g mk a) (Vm.Alike.refl U.vm) q.2.2⟩, va_recv hK hPc (ci := 1) (q0 := 0) rfl rfl, fun U hU hW => ⟨rfl, by rw [hU]; exact hPc, va_K.moved hW.alike hK⟩⟩ rfl rfl hl.1 rfl (lv_room (Nat.le_of_ble_eq_true rfl)) dX2_fewestSteps_54 ⟨Nat.le_of_ble_eq_true rfl, Nat.le_of_ble_eq_true rfl⟩) (fun r9 hr9 => ?_)
        subst hr9
        refine lv_if_eq (tgt := 110) hx hb dX2_fewestSteps_57 (by decide) (fun c57 => ?_) (fun c57 => ?_)
        · have z9 : fwC h lo tn j two one (nI n - 4) = false := by simp only [fwC, bI_0.mp c57, Bool.false_and]
          have r9 : fwF (fwC h lo tn j two one) (fun x => fw h lo tn 0 (j + 1) one x) n = fwF (fwC h lo tn j two one) (fun x => fw h lo tn 0 (j + 1) one x) (n + 1) := (by simp [fwF, z9])
          rw [r9] at hl
          clear r9
          refine lv_iinc (v := nI (n + 1) - 4) (lv' := [(6, .int (nI (n + 1) - 4)), (0, .ref (q 0)), (1, .ref ca), (2, .int (nI j)), (3, .int two), (4, .int one), (5, .int (fwF (fwC h lo tn j two one) (fun x => fw h lo tn 0 (j + 1) one x) (n + 1)))]) hx hb dX2_fewestSteps_110 hl (k := 6) rfl (fw_inc n) (by decide) rfl (fun ls hl => ?_)
          refine lv_goto (tgt := 39) hx hb dX2_fewestSteps_113 (by decide) ?_
          exact ih39 (n + 1) (by omega) (by omega) ls (lv_sub hl [1, 2, 3, 4, 5, 6, 0] rfl)
        · refine lv_iload_n hx hb dX2_fewestSteps_60 rfl (lv_at hl 2 rfl) ?_
          refine lv_if_eq (tgt := 81) hx hb dX2_fewestSteps_61 (by decide) (fun c61 => ?_) (fun c61 => ?_)
          · have n61 : j = 0 := (nI_eq (a := j) (b := 0) (by omega) (by omega)).mp c61
            refine lv_aload_n hx hb dX2_fewestSteps_81 rfl (lv_at hl 0 rfl) ?_
            refine lv_aload_n hx hb dX2_fewestSteps_82 rfl (lv_at hl 1 rfl) ?_
            refine lv_iload_n hx hb dX2_fewestSteps_83 rfl (lv_at hl 2 rfl) ?_
            refine lv_iconst (v := 1) hx hb dX2_fewestSteps_84 (by decide) ?_
            refine lv_iadd hx hb dX2_fewestSteps_85 ?_
            refine pc_top (show (nI j) + 1 = nI (j + 1) from nI_add j 1) ?_
            refine lv_iload hx hb dX2_fewestSteps_86 (lv_at hl 4 rfl) ?_
            refine lv_iload hx hb dX2_fewestSteps_88 (lv_at hl 6 rfl) ?_
            refine pc_calli (va_runS (As := [.ref (q 0), .ref ca, .int (nI (j + 1)), .int one, .int (nI n - 4)]) (rest := []) ⟨hx, hb, hml, hown, hts⟩ (mX2_fewest_0 l D cy q h ca ta lo sz tn hls hs4 (j + 1) (by omega) (by omega) one (nI n - 4)) (va_cwS 5 hts gX2_fewestSteps_X2_fewestSteps rfl rfl rfl (by decide +kernel) ⟨Nat.le_of_ble_eq_true rfl, Nat.le_of_ble_eq_true rfl⟩) ⟨fun a U g mk q => ⟨q.1, q.2.1, va_K.moved (u := U) (U := U.calling g mk a) (Vm.Alike.refl U.vm) q.2.2⟩, fun U hU hW => ⟨rfl, by rw [hU]; exact hP, va_K.moved hW.alike hK⟩⟩ rfl rfl hl.1 rfl (lv_room (Nat.le_of_ble_eq_true rfl)) dX2_fewestSteps_90 ⟨Nat.le_of_ble_eq_true rfl, Nat.le_of_ble_eq_true rfl⟩) (fun r9 hr9 => ?_)
            subst hr9
            refine lv_istore (lv' := [(7, .int (fw h lo tn 0 (j + 1) one (nI n - 4))), (0, .ref (q 0)), (1, .ref ca), (2, .int (nI j)), (3, .int two), (4, .int one), (5, .int (fwF (fwC h lo tn j two one) (fun x => fw h lo tn 0 (j + 1) one x) n)), (6, .int (nI n - 4))]) hx hb dX2_fewestSteps_93 hl (by decide) rfl (fun ls hl => ?_)
            refine lv_iload hx hb dX2_fewestSteps_95 (lv_at hl 6 rfl) ?_
            refine lv_iload hx hb dX2_fewestSteps_97 (lv_at hl 7 rfl) ?_
            refine va_mabs hx hb (by rw [hml]; exact hl.1.symm) hown (hts _ kX2_fewest_1_2) (hts _ kX2_fewest_1_3) (hts _ kX2_fewest_1_4) (hts _ kX2_fewest_1_5) (Nat.le_of_ble_eq_true rfl) (Nat.le_of_ble_eq_true rfl) (Nat.le_of_ble_eq_true rfl) (Nat.le_of_ble_eq_true rfl) dX2_fewestSteps_99 ?_
            refine pc_top (show (if 0 ≤ (nI n - 4) then (nI n - 4) else 0 - (nI n - 4)) = ab (nI n - 4) from rfl) ?_
            refine lv_iload hx hb dX2_fewestSteps_102 (lv_at hl 0 rfl) ?_
            refine lv_iadd hx hb dX2_fewestSteps_104 ?_
            refine va_mmin hx hb (by rw [hml]; exact hl.1.symm) hown (hts _ kX2_fewest_1_6) (hts _ kX2_fewest_1_7) (hts _ kX2_fewest_1_4) (hts _ kX2_fewest_1_8) (Nat.le_of_ble_eq_true rfl) (Nat.le_of_ble_eq_true rfl) (Nat.le_of_ble_eq_true rfl) (Nat.le_of_ble_eq_true rfl) dX2_fewestSteps_105 ?_
            refine pc_top (show (if ((ab (nI n - 4)) + (fw h lo tn 0 (j + 1) one (nI n - 4))) < (fwF (fwC h lo tn j two one) (fun x => fw h lo tn 0 (j + 1) one x) n) then ((ab (nI n - 4)) + (fw h lo tn 0 (j + 1) one (nI n - 4))) else (fwF (fwC h lo tn j two one) (fun x => fw h lo tn 0 (j + 1) one x) n)) = mn (fwF (fwC h lo tn j two one) (fun x => fw h lo tn 0 (j + 1) one x) n) ((ab (nI n - 4)) + (fw h lo tn 0 (j + 1) one (nI n - 4))) from rfl) ?_
            refine lv_istore (lv' := [(5, .int (mn (fwF (fwC h lo tn j two one) (fun x => fw h lo tn 0 (j + 1) one x) n) ((ab (nI n - 4)) + (fw h lo tn 0 (j + 1) one (nI n - 4))))), (7, .int (fw h lo tn 0 (j + 1) one (nI n - 4))), (0, .ref (q 0)), (1, .ref ca), (2, .int (nI j)), (3, .int two), (4, .int one), (6, .int (nI n - 4))]) hx hb dX2_fewestSteps_108 hl (by decide) rfl (fun ls hl => ?_)
            have z9 : fwC h lo tn j two one (nI n - 4) = true := by simp only [fwC, bI_1.mp c57, Bool.true_and]; simp [n61]
            have r9 : mn (fwF (fwC h lo tn j two one) (fun x => fw h lo tn 0 (j + 1) one x) n) ((ab (nI n - 4)) + (fw h lo tn 0 (j + 1) one (nI n - 4))) = fwF (fwC h lo tn j two one) (fun x => fw h lo tn 0 (j + 1) one x) (n + 1) := (by simp [fwF, z9])
            rw [r9] at hl
            clear r9
            refine lv_iinc (v := nI (n + 1) - 4) (lv' := [(6, .int (nI (n + 1) - 4)), (5, .int (fwF (fwC h lo tn j two one) (fun x => fw h lo tn 0 (j + 1) one x) (n + 1))), (7, .int (fw h lo tn 0 (j + 1) one (nI n - 4))), (0, .ref (q 0)), (1, .ref ca), (2, .int (nI j)), (3, .int two), (4, .int one)]) hx hb dX2_fewestSteps_110 hl (k := 7) rfl (fw_inc n) (by decide) rfl (fun ls hl => ?_)
            refine lv_goto (tgt := 39) hx hb dX2_fewestSteps_113 (by decide) ?_
            exact ih39 (n + 1) (by omega) (by omega) ls (lv_sub hl [3, 4, 5, 6, 7, 1, 0] rfl)
          · have n61 : ¬ (j = 0) := fun h9 => c61 ((nI_eq (a := j) (b := 0) (by omega) (by omega)).mpr h9)
            refine lv_aload_n hx hb dX2_fewestSteps_64 rfl (lv_at hl 0 rfl) ?_
            refine lv_aload_n hx hb dX2_fewestSteps_65 rfl (lv_at hl 1 rfl) ?_
            refine lv_iload_n hx hb dX2_fewestSteps_66 rfl (lv_at hl 2 rfl) ?_
            refine lv_iconst (v := 1) hx hb dX2_fewestSteps_67 (by decide) ?_
            refine lv_isub hx hb dX2_fewestSteps_68 ?_
            refine pc_top (show (nI j) - 1 = nI (j - 1) from pk_sub (a := j) (b := 1) (by omega)) ?_
            refine lv_iload hx hb dX2_fewestSteps_69 (lv_at hl 4 rfl) ?_
            refine lv_iload_n hx hb dX2_fewestSteps_71 rfl (lv_at hl 3 rfl) ?_
            refine lv_iload hx hb dX2_fewestSteps_72 (lv_at hl 6 rfl) ?_
            refine lv_iadd hx hb dX2_fewestSteps_74 ?_
            refine pc_calli (va_runV (As := [.ref ca, .int (nI (j - 1)), .int one, .int (two + (nI n - 4))]) (rest := []) ⟨hx, hb, hml, hown, hts⟩ (mX1_fitsPushed l D cy q h ca ta lo sz tn hls hs4 (j - 1) (by omega) one (two + (nI n - 4))) (cwV 4 hts gX2_fewestSteps_X1_fitsPushed rfl rfl rfl (by decide +kernel) ⟨Nat.le_of_ble_eq_true rfl, Nat.le_of_ble_eq_true rfl⟩) ⟨fun a U g mk q => ⟨q.1, q.2.1, va_K.moved (u := U) (U := U.calling g mk a) (Vm.Alike.refl U.vm) q.2.2⟩, va_recv hK hP (ci := 1) (q0 := 0) rfl rfl, fun U hU hW => ⟨rfl, by rw [hU]; exact hP, va_K.moved hW.alike hK⟩⟩ rfl rfl hl.1 rfl (lv_room (Nat.le_of_ble_eq_true rfl)) dX2_fewestSteps_75 ⟨Nat.le_of_ble_eq_true rfl, Nat.le_of_ble_eq_true rfl⟩) (fun r9 hr9 => ?_)
            subst hr9
            refine lv_if_eq (tgt := 110) hx hb dX2_fewestSteps_78 (by decide) (fun c78 => ?_) (fun c78 => ?_)
            · have z9 : fwC h lo tn j two one (nI n - 4) = false := by simp only [fwC, bI_0.mp c78]; simp [n61]
              have r9 : fwF (fwC h lo tn j two one) (fun x => fw h lo tn 0 (j + 1) one x) n = fwF (fwC h lo tn j two one) (fun x => fw h lo tn 0 (j + 1) one x) (n + 1) := (by simp [fwF, z9])
              rw [r9] at hl
              clear r9
              refine lv_iinc (v := nI (n + 1) - 4) (lv' := [(6, .int (nI (n + 1) - 4)), (0, .ref (q 0)), (1, .ref ca), (2, .int (nI j)), (3, .int two), (4, .int one), (5, .int (fwF (fwC h lo tn j two one) (fun x => fw h lo tn 0 (j + 1) one x) (n + 1)))]) hx hb dX2_fewestSteps_110 hl (k := 6) rfl (fw_inc n) (by decide) rfl (fun ls hl => ?_)
              refine lv_goto (tgt := 39) hx hb dX2_fewestSteps_113 (by decide) ?_
              exact ih39 (n + 1) (by omega) (by omega) ls (lv_sub hl [1, 2, 3, 4, 5, 6, 0] rfl)
            · refine lv_aload_n hx hb dX2_fewestSteps_81 rfl (lv_at hl 0 rfl) ?_
              refine lv_aload_n hx hb dX2_fewestSteps_82 rfl (lv_at hl 1 rfl) ?_
              refine lv_iload_n hx hb dX2_fewestSteps_83 rfl (lv_at hl 2 rfl) ?_
              refine lv_iconst (v := 1) hx hb dX2_fewestSteps_84 (by decide) ?_
              refine lv_iadd hx hb dX2_fewestSteps_85 ?_
              refine pc_top (show (nI j) + 1 = nI (j + 1) from nI_add j 1) ?_
              refine lv_iload hx hb dX2_fewestSteps_86 (lv_at hl 4 rfl) ?_
              refine lv_iload hx hb dX2_fewestSteps_88 (lv_at hl 6 rfl) ?_
              refine pc_calli (va_runS (As := [.ref (q 0), .ref ca, .int (nI (j + 1)), .int one, .int (nI n - 4)]) (rest := []) ⟨hx, hb, hml, hown, hts⟩ (mX2_fewest_0 l D cy q h ca ta lo sz tn hls hs4 (j + 1) (by omega) (by omega) one (nI n - 4)) (va_cwS 5 hts gX2_fewestSteps_X2_fewestSteps rfl rfl rfl (by decide +kernel) ⟨Nat.le_of_ble_eq_true rfl, Nat.le_of_ble_eq_true rfl⟩) ⟨fun a U g mk q => ⟨q.1, q.2.1, va_K.moved (u := U) (U := U.calling g mk a) (Vm.Alike.refl U.vm) q.2.2⟩, fun U hU hW => ⟨rfl, by rw [hU]; exact hP, va_K.moved hW.alike hK⟩⟩ rfl rfl hl.1 rfl (lv_room (Nat.le_of_ble_eq_true rfl)) dX2_fewestSteps_90 ⟨Nat.le_of_ble_eq_true rfl, Nat.le_of_ble_eq_true rfl⟩) (fun r9 hr9 => ?_)
              subst hr9
              refine lv_istore (lv' := [(7, .int (fw h lo tn 0 (j + 1) one (nI n - 4))), (0, .ref (q 0)), (1, .ref ca), (2, .int (nI j)), (3, .int two), (4, .int one), (5, .int (fwF (fwC h lo tn j two one) (fun x => fw h lo tn 0 (j + 1) one x) n)), (6, .int (nI n - 4))]) hx hb dX2_fewestSteps_93 hl (by decide) rfl (fun ls hl => ?_)
              refine lv_iload hx hb dX2_fewestSteps_95 (lv_at hl 6 rfl) ?_
              refine lv_iload hx hb dX2_fewestSteps_97 (lv_at hl 7 rfl) ?_
              refine va_mabs hx hb (by rw [hml]; exact hl.1.symm) hown (hts _ kX2_fewest_1_2) (hts _ kX2_fewest_1_3) (hts _ kX2_fewest_1_4) (hts _ kX2_fewest_1_5) (Nat.le_of_ble_eq_true rfl) (Nat.le_of_ble_eq_true rfl) (Nat.le_of_ble_eq_true rfl) (Nat.le_of_ble_eq_true rfl) dX2_fewestSteps_99 ?_
              refine pc_top (show (if 0 ≤ (nI n - 4) then (nI n - 4) else 0 - (nI n - 4)) = ab (nI n - 4) from rfl) ?_
              refine lv_iload hx hb dX2_fewestSteps_102 (lv_at hl 0 rfl) ?_
              refine lv_iadd hx hb dX2_fewestSteps_104 ?_
              refine va_mmin hx hb (by rw [hml]; exact hl.1.symm) hown (hts _ kX2_fewest_1_6) (hts _ kX2_fewest_1_7) (hts _ kX2_fewest_1_4) (hts _ kX2_fewest_1_8) (Nat.le_of_ble_eq_true rfl) (Nat.le_of_ble_eq_true rfl) (Nat.le_of_ble_eq_true rfl) (Nat.le_of_ble_eq_true rfl) dX2_fewestSteps_105 ?_
              refine pc_top (show (if ((ab (nI n - 4)) + (fw h lo tn 0 (j + 1) one (nI n - 4))) < (fwF (fwC h lo tn j two one) (fun x => fw h lo tn 0 (j + 1) one x) n) then ((ab (nI n - 4)) + (fw h lo tn 0 (j + 1) one (nI n - 4))) else (fwF (fwC h lo tn j two one) (fun x => fw h lo tn 0 (j + 1) one x) n)) = mn (fwF (fwC h lo tn j two one) (fun x => fw h lo tn 0 (j + 1) one x) n) ((ab (nI n - 4)) + (fw h lo tn 0 (j + 1) one (nI n - 4))) from rfl) ?_
              refine lv_istore (lv' := [(5, .int (mn (fwF (fwC h lo tn j two one) (fun x => fw h lo tn 0 (j + 1) one x) n) ((ab (nI n - 4)) + (fw h lo tn 0 (j + 1) one (nI n - 4))))), (7, .int (fw h lo tn 0 (j + 1) one (nI n - 4))), (0, .ref (q 0)), (1, .ref ca), (2, .int (nI j)), (3, .int two), (4, .int one), (6, .int (nI n - 4))]) hx hb dX2_fewestSteps_108 hl (by decide) rfl (fun ls hl => ?_)
              have z9 : fwC h lo tn j two one (nI n - 4) = true := by simp only [fwC, bI_1.mp c57, bI_1.mp c78, Bool.or_true, Bool.and_true]
              have r9 : mn (fwF (fwC h lo tn j two one) (fun x => fw h lo tn 0 (j + 1) one x) n) ((ab (nI n - 4)) + (fw h lo tn 0 (j + 1) one (nI n - 4))) = fwF (fwC h lo tn j two one) (fun x => fw h lo tn 0 (j + 1) one x) (n + 1) := (by simp [fwF, z9])
              rw [r9] at hl
              clear r9
              refine lv_iinc (v := nI (n + 1) - 4) (lv' := [(6, .int (nI (n + 1) - 4)), (5, .int (fwF (fwC h lo tn j two one) (fun x => fw h lo tn 0 (j + 1) one x) (n + 1))), (7, .int (fw h lo tn 0 (j + 1) one (nI n - 4))), (0, .ref (q 0)), (1, .ref ca), (2, .int (nI j)), (3, .int two), (4, .int one)]) hx hb dX2_fewestSteps_110 hl (k := 7) rfl (fw_inc n) (by decide) rfl (fun ls hl => ?_)
              refine lv_goto (tgt := 39) hx hb dX2_fewestSteps_113 (by decide) ?_
              exact ih39 (n + 1) (by omega) (by omega) ls (lv_sub hl [3, 4, 5, 6, 7, 1, 0] rfl)
  exact loop39 (9 + 1) 0 (by decide) (by omega) ls (lv_sub hl [2, 3, 4, 5, 6, 1, 0] rfl)

theorem inX2_fewest_2_RX0 : ∀ w ∈ u_ws RX0 TX0 3, w ∈ wsX2_fewestSteps := by decide +kernel
theorem kX2_fewest_2_0 : (.fieldLink RX2 157 "WedgeHarps$Chord" "size" "I" : Cond) ∈ wsX2_fewestSteps := by decide +kernel
theorem kX2_fewest_2_1 : (.fieldLink RX2 154 "WedgeHarps$Chord" "lowest" "I" : Cond) ∈ wsX2_fewestSteps := by decide +kernel
theorem kX2_fewest_2_2 : (.methodLink RX2 95 Lib.Math.abs.name : Cond) ∈ wsX2_fewestSteps := by decide +kernel
theorem kX2_fewest_2_3 : (.static Lib.Math.abs.name : Cond) ∈ wsX2_fewestSteps := by decide +kernel
theorem kX2_fewest_2_4 : (.initialized "java/lang/Math" : Cond) ∈ wsX2_fewestSteps := by decide +kernel
theorem kX2_fewest_2_5 : (.code Lib.Math.abs.name Lib.Math.abs.code 1 (some .int) : Cond) ∈ wsX2_fewestSteps := by decide +kernel
theorem kX2_fewest_2_6 : (.methodLink RX2 217 Lib.Math.min.name : Cond) ∈ wsX2_fewestSteps := by decide +kernel
theorem kX2_fewest_2_7 : (.static Lib.Math.min.name : Cond) ∈ wsX2_fewestSteps := by decide +kernel
theorem kX2_fewest_2_8 : (.code Lib.Math.min.name Lib.Math.min.code 2 (some .int) : Cond) ∈ wsX2_fewestSteps := by decide +kernel
set_option maxHeartbeats 4000000 in
set_option maxRecDepth 100000 in
theorem mX2_fewest_2 (l : Launch) (D : va_G) (cy : Nat → ClassId) (q : Nat → Nat) (h : HS) (ca ta lo sz : Nat) (tn : Nat → Int32) (hls : lo + sz ≤ 12) (hs4 : sz ≤ 4) (j : Nat) (hj : j + 2 = sz) (two one : Int32) : Met l yX2_fewestSteps wsX2_fewestSteps ({ frames := 4, cells := 0, slots := 0, locals := 102 } : Room) (va_Pc [.ref (q 0), .ref ca, .int (nI j), .int two, .int one] (fun U => va_P D vwCl (wH cy q h ++ wC cy ca ta lo sz tn) U.heap ∧ va_K D vwCl (TY cy) U)) (vp_Si (fun r8 => r8 = fw h lo tn 2 j two one)) 0 0 (fun _ => False) := by
  refine Met.ofW (cc := cX2_fewestSteps) (maxL := 8) (ret := (some .int)) (by decide) rfl ?_
  intro p e s m args below meth c s₁ B hml hv
  obtain ⟨rfl, hP, hK⟩ := hv
  have hx := B.exec
  have hb := B.bytes
  have hr := B.returns
  have hts := atoms_spec (ws := wsX2_fewestSteps) B.pre
  have hown : s.vm.findClass RX2 = some m.cls := findClass_of_methodNamed B.named
  have hlocks := B.notSynchronized
  have hl := lv_entry ([.ref (q 0), .ref ca, .int (nI j), .int two, .int one]) (n := 8) (Nat.le_of_ble_eq_true rfl)
  rw [lg_entry_eq]
  generalize (lg_sl ([.ref (q 0), .ref ca, .int (nI j), .int two, .int one]) ++ List.replicate (8 - (lg_sl ([.ref (q 0), .ref ca, .int (nI j), .int two, .int one])).length) Slot.unset).toArray = ls at hl ⊢
  have hl : lv_has ls 8 [(0, .ref (q 0)), (1, .ref ca), (2, .int (nI j)), (3, .int two), (4, .int one)] := hl
  refine lv_iload_n hx hb dX2_fewestSteps_0 rfl (lv_at hl 2 rfl) ?_
  refine lv_aload_n hx hb dX2_fewestSteps_1 rfl (lv_at hl 1 rfl) ?_
  refine va_get (D := D) (ci := 0) (v := .int (nI sz)) (C := RX0) (T := TX0) (N := 3) hx hb hts inX2_fewest_2_RX0 hown hK hP 7 rfl rfl 2 (by decide) (hts _ kX2_fewest_2_0) (fun _ h9 => h9) rfl dX2_fewestSteps_2 ?_
  refine lv_icmp_lt (tgt := 30) hx hb dX2_fewestSteps_5 (by decide) (fun c5 => ?_) (fun c5 => absurd c5 (not_not_intro (nI_lt (show j < sz by omega) (show sz < 2 ^ 31 by omega))))
  have n5 : j < sz := (nI_ltI (a := j) (b := sz) (by omega) (by omega)).mp c5
  refine lv_sipush (v := 1000) hx hb dX2_fewestSteps_30 (by decide) ?_
  refine lv_istore (lv' := [(5, .int 1000), (0, .ref (q 0)), (1, .ref ca), (2, .int (nI j)), (3, .int two), (4, .int one)]) hx hb dX2_fewestSteps_33 hl (by decide) rfl (fun ls hl => ?_)
  refine lv_bipush (v := (-4)) hx hb dX2_fewestSteps_35 (by decide) ?_
  refine lv_istore (lv' := [(6, .int (-4)), (5, .int 1000), (0, .ref (q 0)), (1, .ref ca), (2, .int (nI j)), (3, .int two), (4, .int one)]) hx hb dX2_fewestSteps_37 hl (by decide) rfl (fun ls hl => ?_)
  have loop39 : ∀ (n9 : Nat) (n : Nat), n ≤ 9 → 9 - n < n9 → ∀ ls : Array Slot, lv_has ls 8 [(0, .ref (q 0)), (1, .ref ca), (2, .int (nI j)), (3, .int two), (4, .int one), (5, .int (fwF (fwC h lo tn j two one) (fun x => fw h lo tn 1 (j + 1) one x) n)), (6, .int (nI n - 4))] → W p l e (headSpec wsX2_fewestSteps ({ frames := 4, cells := 0, slots := 0, locals := 102 } : Room)).room s m ([.ref (q 0), .ref ca, .int (nI j), .int two, .int one] : List Value).toArray below meth c s.heap [] 0 0 (MQ below (vp_Si (fun r8 => r8 = fw h lo tn 2 j two one)) ([.ref (q 0), .ref ca, .int (nI j), .int two, .int one] : List Value).toArray s 0 0 (fun _ => False)) (F0 m 39 ls []) := by
    intro n9
    induction n9 with
    | zero => intro n hn h9 ls hl; exact absurd h9 (by omega)
    | succ n9 ih39 =>
      intro n hn h9 ls hl
      refine lv_iload hx hb dX2_fewestSteps_39 (lv_at hl 6 rfl) ?_
      refine lv_iconst (v := 4) hx hb dX2_fewestSteps_41 (by decide) ?_
      refine lv_icmp_gt (tgt := 116) hx hb dX2_fewestSteps_42 (by decide) (fun c42 => ?_) (fun c42 => ?_)
      · have n42 : n = 9 := (fw_lt hn).mp c42
        refine lv_iload hx hb dX2_fewestSteps_116 (lv_at hl 5 rfl) ?_
        exact W.iret (v := fwF (fwC h lo tn j two one) (fun x => fw h lo tn 1 (j + 1) one x) n) hx hb hr (fun t ht hW => ⟨fwF (fwC h lo tn j two one) (fun x => fw h lo tn 1 (j + 1) one x) n, rfl, (by rw [n42]; rfl), ht⟩) (fun q hq => absurd hq List.not_mem_nil) dX2_fewestSteps_118
      · have n42 : n ≤ 8 := by
          rcases Nat.lt_or_ge n 9 with z | z
          · omega
          · exact absurd ((fw_lt hn).mpr (by omega)) c42
        refine lv_aload_n hx hb dX2_fewestSteps_45 rfl (lv_at hl 0 rfl) ?_
        refine lv_aload_n hx hb dX2_fewestSteps_46 rfl (lv_at hl 1 rfl) ?_
        refine va_get (D := D) (ci := 0) (v := .int (nI lo)) (C := RX0) (T := TX0) (N := 3) hx hb hts inX2_fewest_2_RX0 hown hK hP 7 rfl rfl 1 (by decide) (hts _ kX2_fewest_2_1) (fun _ h9 => h9) rfl dX2_fewestSteps_47 ?_
        refine lv_iload_n hx hb dX2_fewestSteps_50 rfl (lv_at hl 2 rfl) ?_
        refine lv_iadd hx hb dX2_fewestSteps_51 ?_
        refine pc_top (show (nI lo) + (nI j) = nI (lo + j) from nI_add lo j) ?_
        refine lv_iload hx hb dX2_fewestSteps_52 (lv_at hl 6 rfl) ?_
        have hPc := hP.sub (ws' := wH cy q h) [0, 1, 2, 3, 4, 5, 6] rfl
        refine pc_calli (va_runV (As := [.int (nI (lo + j)), .int (nI n - 4)]) (rest := []) ⟨hx, hb, hml, hown, hts⟩ (mX1_takesPush l D cy q h (lo + j) (by omega) (nI n - 4)) (cwV 2 hts gX2_fewestSteps_X1_takesPush rfl rfl rfl (by decide +kernel) ⟨Nat.le_of_ble_eq_true rfl, Nat.le_of_ble_eq_true rfl⟩) ⟨fun a U g mk q => ⟨q.1, q.2.1, va_K.moved (u := U) (U := U.calling g mk a) (Vm.Alike.refl U.vm) q.2.2⟩, va_recv hK hPc (ci := 1) (q0 := 0) rfl rfl, fun U hU hW => ⟨rfl, by rw [hU]; exact hPc, va_K.moved hW.alike hK⟩⟩ rfl rfl hl.1 rfl (lv_room (Nat.le_of_ble_eq_true rfl)) dX2_fewestSteps_54 ⟨Nat.le_of_ble_eq_true rfl, Nat.le_of_ble_eq_true rfl⟩) (fun r9 hr9 => ?_)
        subst hr9
        refine lv_if_eq (tgt := 110) hx hb dX2_fewestSteps_57 (by decide) (fun c57 => ?_) (fun c57 => ?_)
        · have z9 : fwC h lo tn j two one (nI n - 4) = false := by simp only [fwC, bI_0.mp c57, Bool.false_and]
          have r9 : fwF (fwC h lo tn j two one) (fun x => fw h lo tn 1 (j + 1) one x) n = fwF (fwC h lo tn j two one) (fun x => fw h lo tn 1 (j + 1) one x) (n + 1) := (by simp [fwF, z9])
          rw [r9] at hl
          clear r9
          refine lv_iinc (v := nI (n + 1) - 4) (lv' := [(6, .int (nI (n + 1) - 4)), (0, .ref (q 0)), (1, .ref ca), (2, .int (nI j)), (3, .int two), (4, .int one), (5, .int (fwF (fwC h lo tn j two one) (fun x => fw h lo tn 1 (j + 1) one x) (n + 1)))]) hx hb dX2_fewestSteps_110 hl (k := 6) rfl (fw_inc n) (by decide) rfl (fun ls hl => ?_)
          refine lv_goto (tgt := 39) hx hb dX2_fewestSteps_113 (by decide) ?_
          exact ih39 (n + 1) (by omega) (by omega) ls (lv_sub hl [1, 2, 3, 4, 5, 6, 0] rfl)
        · refine lv_iload_n hx hb dX2_fewestSteps_60 rfl (lv_at hl 2 rfl) ?_
          refine lv_if_eq (tgt := 81) hx hb dX2_fewestSteps_61 (by decide) (fun c61 => ?_) (fun c61 => ?_)
          · have n61 : j = 0 := (nI_eq (a := j) (b := 0) (by omega) (by omega)).mp c61
            refine lv_aload_n hx hb dX2_fewestSteps_81 rfl (lv_at hl 0 rfl) ?_
            refine lv_aload_n hx hb dX2_fewestSteps_82 rfl (lv_at hl 1 rfl) ?_
            refine lv_iload_n hx hb dX2_fewestSteps_83 rfl (lv_at hl 2 rfl) ?_
            refine lv_iconst (v := 1) hx hb dX2_fewestSteps_84 (by decide) ?_
            refine lv_iadd hx hb dX2_fewestSteps_85 ?_
            refine pc_top (show (nI j) + 1 = nI (j + 1) from nI_add j 1) ?_
            refine lv_iload hx hb dX2_fewestSteps_86 (lv_at hl 4 rfl) ?_
            refine lv_iload hx hb dX2_fewestSteps_88 (lv_at hl 6 rfl) ?_
            refine pc_calli (va_runS (As := [.ref (q 0), .ref ca, .int (nI (j + 1)), .int one, .int (nI n - 4)]) (rest := []) ⟨hx, hb, hml, hown, hts⟩ (mX2_fewest_1 l D cy q h ca ta lo sz tn hls hs4 (j + 1) (by omega) one (nI n - 4)) (va_cwS 5 hts gX2_fewestSteps_X2_fewestSteps rfl rfl rfl (by decide +kernel) ⟨Nat.le_of_ble_eq_true rfl, Nat.le_of_ble_eq_true rfl⟩) ⟨fun a U g mk q => ⟨q.1, q.2.1, va_K.moved (u := U) (U := U.calling g mk a) (Vm.Alike.refl U.vm) q.2.2⟩, fun U hU hW => ⟨rfl, by rw [hU]; exact hP, va_K.moved hW.alike hK⟩⟩ rfl rfl hl.1 rfl (lv_room (Nat.le_of_ble_eq_true rfl)) dX2_fewestSteps_90 ⟨Nat.le_of_ble_eq_true rfl, Nat.le_of_ble_eq_true rfl⟩) (fun r9 hr9 => ?_)
            subst hr9
            refine lv_istore (lv' := [(7, .int (fw h lo tn 1 (j + 1) one (nI n - 4))), (0, .ref (q 0)), (1, .ref ca), (2, .int (nI j)), (3, .int two), (4, .int one), (5, .int (fwF (fwC h lo tn j two one) (fun x => fw h lo tn 1 (j + 1) one x) n)), (6, .int (nI n - 4))]) hx hb dX2_fewestSteps_93 hl (by decide) rfl (fun ls hl => ?_)
            refine lv_iload hx hb dX2_fewestSteps_95 (lv_at hl 6 rfl) ?_
            refine lv_iload hx hb dX2_fewestSteps_97 (lv_at hl 7 rfl) ?_
            refine va_mabs hx hb (by rw [hml]; exact hl.1.symm) hown (hts _ kX2_fewest_2_2) (hts _ kX2_fewest_2_3) (hts _ kX2_fewest_2_4) (hts _ kX2_fewest_2_5) (Nat.le_of_ble_eq_true rfl) (Nat.le_of_ble_eq_true rfl) (Nat.le_of_ble_eq_true rfl) (Nat.le_of_ble_eq_true rfl) dX2_fewestSteps_99 ?_
            refine pc_top (show (if 0 ≤ (nI n - 4) then (nI n - 4) else 0 - (nI n - 4)) = ab (nI n - 4) from rfl) ?_
            refine lv_iload hx hb dX2_fewestSteps_102 (lv_at hl 0 rfl) ?_
            refine lv_iadd hx hb dX2_fewestSteps_104 ?_
            refine va_mmin hx hb (by rw [hml]; exact hl.1.symm) hown (hts _ kX2_fewest_2_6) (hts _ kX2_fewest_2_7) (hts _ kX2_fewest_2_4) (hts _ kX2_fewest_2_8) (Nat.le_of_ble_eq_true rfl) (Nat.le_of_ble_eq_true rfl) (Nat.le_of_ble_eq_true rfl) (Nat.le_of_ble_eq_true rfl) dX2_fewestSteps_105 ?_
            refine pc_top (show (if ((ab (nI n - 4)) + (fw h lo tn 1 (j + 1) one (nI n - 4))) < (fwF (fwC h lo tn j two one) (fun x => fw h lo tn 1 (j + 1) one x) n) then ((ab (nI n - 4)) + (fw h lo tn 1 (j + 1) one (nI n - 4))) else (fwF (fwC h lo tn j two one) (fun x => fw h lo tn 1 (j + 1) one x) n)) = mn (fwF (fwC h lo tn j two one) (fun x => fw h lo tn 1 (j + 1) one x) n) ((ab (nI n - 4)) + (fw h lo tn 1 (j + 1) one (nI n - 4))) from rfl) ?_
            refine lv_istore (lv' := [(5, .int (mn (fwF (fwC h lo tn j two one) (fun x => fw h lo tn 1 (j + 1) one x) n) ((ab (nI n - 4)) + (fw h lo tn 1 (j + 1) one (nI n - 4))))), (7, .int (fw h lo tn 1 (j + 1) one (nI n - 4))), (0, .ref (q 0)), (1, .ref ca), (2, .int (nI j)), (3, .int two), (4, .int one), (6, .int (nI n - 4))]) hx hb dX2_fewestSteps_108 hl (by decide) rfl (fun ls hl => ?_)
            have z9 : fwC h lo tn j two one (nI n - 4) = true := by simp only [fwC, bI_1.mp c57, Bool.true_and]; simp [n61]
            have r9 : mn (fwF (fwC h lo tn j two one) (fun x => fw h lo tn 1 (j + 1) one x) n) ((ab (nI n - 4)) + (fw h lo tn 1 (j + 1) one (nI n - 4))) = fwF (fwC h lo tn j two one) (fun x => fw h lo tn 1 (j + 1) one x) (n + 1) := (by simp [fwF, z9])
            rw [r9] at hl
            clear r9
            refine lv_iinc (v := nI (n + 1) - 4) (lv' := [(6, .int (nI (n + 1) - 4)), (5, .int (fwF (fwC h lo tn j two one) (fun x => fw h lo tn 1 (j + 1) one x) (n + 1))), (7, .int (fw h lo tn 1 (j + 1) one (nI n - 4))), (0, .ref (q 0)), (1, .ref ca), (2, .int (nI j)), (3, .int two), (4, .int one)]) hx hb dX2_fewestSteps_110 hl (k := 7) rfl (fw_inc n) (by decide) rfl (fun ls hl => ?_)
            refine lv_goto (tgt := 39) hx hb dX2_fewestSteps_113 (by decide) ?_
            exact ih39 (n + 1) (by omega) (by omega) ls (lv_sub hl [3, 4, 5, 6, 7, 1, 0] rfl)
          · have n61 : ¬ (j = 0) := fun h9 => c61 ((nI_eq (a := j) (b := 0) (by omega) (by omega)).mpr h9)
            refine lv_aload_n hx hb dX2_fewestSteps_64 rfl (lv_at hl 0 rfl) ?_
            refine lv_aload_n hx hb dX2_fewestSteps_65 rfl (lv_at hl 1 rfl) ?_
            refine lv_iload_n hx hb dX2_fewestSteps_66 rfl (lv_at hl 2 rfl) ?_
            refine lv_iconst (v := 1) hx hb dX2_fewestSteps_67 (by decide) ?_
            refine lv_isub hx hb dX2_fewestSteps_68 ?_
            refine pc_top (show (nI j) - 1 = nI (j - 1) from pk_sub (a := j) (b := 1) (by omega)) ?_
            refine lv_iload hx hb dX2_fewestSteps_69 (lv_at hl 4 rfl) ?_
            refine lv_iload_n hx hb dX2_fewestSteps_71 rfl (lv_at hl 3 rfl) ?_
            refine lv_iload hx hb dX2_fewestSteps_72 (lv_at hl 6 rfl) ?_
            refine lv_iadd hx hb dX2_fewestSteps_74 ?_
            refine pc_calli (va_runV (As := [.ref ca, .int (nI (j - 1)), .int one, .int (two + (nI n - 4))]) (rest := []) ⟨hx, hb, hml, hown, hts⟩ (mX1_fitsPushed l D cy q h ca ta lo sz tn hls hs4 (j - 1) (by omega) one (two + (nI n - 4))) (cwV 4 hts gX2_fewestSteps_X1_fitsPushed rfl rfl rfl (by decide +kernel) ⟨Nat.le_of_ble_eq_true rfl, Nat.le_of_ble_eq_true rfl⟩) ⟨fun a U g mk q => ⟨q.1, q.2.1, va_K.moved (u := U) (U := U.calling g mk a) (Vm.Alike.refl U.vm) q.2.2⟩, va_recv hK hP (ci := 1) (q0 := 0) rfl rfl, fun U hU hW => ⟨rfl, by rw [hU]; exact hP, va_K.moved hW.alike hK⟩⟩ rfl rfl hl.1 rfl (lv_room (Nat.le_of_ble_eq_true rfl)) dX2_fewestSteps_75 ⟨Nat.le_of_ble_eq_true rfl, Nat.le_of_ble_eq_true rfl⟩) (fun r9 hr9 => ?_)
            subst hr9
            refine lv_if_eq (tgt := 110) hx hb dX2_fewestSteps_78 (by decide) (fun c78 => ?_) (fun c78 => ?_)
            · have z9 : fwC h lo tn j two one (nI n - 4) = false := by simp only [fwC, bI_0.mp c78]; simp [n61]
              have r9 : fwF (fwC h lo tn j two one) (fun x => fw h lo tn 1 (j + 1) one x) n = fwF (fwC h lo tn j two one) (fun x => fw h lo tn 1 (j + 1) one x) (n + 1) := (by simp [fwF, z9])
              rw [r9] at hl
              clear r9
              refine lv_iinc (v := nI (n + 1) - 4) (lv' := [(6, .int (nI (n + 1) - 4)), (0, .ref (q 0)), (1, .ref ca), (2, .int (nI j)), (3, .int two), (4, .int one), (5, .int (fwF (fwC h lo tn j two one) (fun x => fw h lo tn 1 (j + 1) one x) (n + 1)))]) hx hb dX2_fewestSteps_110 hl (k := 6) rfl (fw_inc n) (by decide) rfl (fun ls hl => ?_)
              refine lv_goto (tgt := 39) hx hb dX2_fewestSteps_113 (by decide) ?_
              exact ih39 (n + 1) (by omega) (by omega) ls (lv_sub hl [1, 2, 3, 4, 5, 6, 0] rfl)
            · refine lv_aload_n hx hb dX2_fewestSteps_81 rfl (lv_at hl 0 rfl) ?_
              refine lv_aload_n hx hb dX2_fewestSteps_82 rfl (lv_at hl 1 rfl) ?_
              refine lv_iload_n hx hb dX2_fewestSteps_83 rfl (lv_at hl 2 rfl) ?_
              refine lv_iconst (v := 1) hx hb dX2_fewestSteps_84 (by decide) ?_
              refine lv_iadd hx hb dX2_fewestSteps_85 ?_
              refine pc_top (show (nI j) + 1 = nI (j + 1) from nI_add j 1) ?_
              refine lv_iload hx hb dX2_fewestSteps_86 (lv_at hl 4 rfl) ?_
              refine lv_iload hx hb dX2_fewestSteps_88 (lv_at hl 6 rfl) ?_
              refine pc_calli (va_runS (As := [.ref (q 0), .ref ca, .int (nI (j + 1)), .int one, .int (nI n - 4)]) (rest := []) ⟨hx, hb, hml, hown, hts⟩ (mX2_fewest_1 l D cy q h ca ta lo sz tn hls hs4 (j + 1) (by omega) one (nI n - 4)) (va_cwS 5 hts gX2_fewestSteps_X2_fewestSteps rfl rfl rfl (by decide +kernel) ⟨Nat.le_of_ble_eq_true rfl, Nat.le_of_ble_eq_true rfl⟩) ⟨fun a U g mk q => ⟨q.1, q.2.1, va_K.moved (u := U) (U := U.calling g mk a) (Vm.Alike.refl U.vm) q.2.2⟩, fun U hU hW => ⟨rfl, by rw [hU]; exact hP, va_K.moved hW.alike hK⟩⟩ rfl rfl hl.1 rfl (lv_room (Nat.le_of_ble_eq_true rfl)) dX2_fewestSteps_90 ⟨Nat.le_of_ble_eq_true rfl, Nat.le_of_ble_eq_true rfl⟩) (fun r9 hr9 => ?_)
              subst hr9
              refine lv_istore (lv' := [(7, .int (fw h lo tn 1 (j + 1) one (nI n - 4))), (0, .ref (q 0)), (1, .ref ca), (2, .int (nI j)), (3, .int two), (4, .int one), (5, .int (fwF (fwC h lo tn j two one) (fun x => fw h lo tn 1 (j + 1) one x) n)), (6, .int (nI n - 4))]) hx hb dX2_fewestSteps_93 hl (by decide) rfl (fun ls hl => ?_)
              refine lv_iload hx hb dX2_fewestSteps_95 (lv_at hl 6 rfl) ?_
              refine lv_iload hx hb dX2_fewestSteps_97 (lv_at hl 7 rfl) ?_
              refine va_mabs hx hb (by rw [hml]; exact hl.1.symm) hown (hts _ kX2_fewest_2_2) (hts _ kX2_fewest_2_3) (hts _ kX2_fewest_2_4) (hts _ kX2_fewest_2_5) (Nat.le_of_ble_eq_true rfl) (Nat.le_of_ble_eq_true rfl) (Nat.le_of_ble_eq_true rfl) (Nat.le_of_ble_eq_true rfl) dX2_fewestSteps_99 ?_
              refine pc_top (show (if 0 ≤ (nI n - 4) then (nI n - 4) else 0 - (nI n - 4)) = ab (nI n - 4) from rfl) ?_
              refine lv_iload hx hb dX2_fewestSteps_102 (lv_at hl 0 rfl) ?_
              refine lv_iadd hx hb dX2_fewestSteps_104 ?_
              refine va_mmin hx hb (by rw [hml]; exact hl.1.symm) hown (hts _ kX2_fewest_2_6) (hts _ kX2_fewest_2_7) (hts _ kX2_fewest_2_4) (hts _ kX2_fewest_2_8) (Nat.le_of_ble_eq_true rfl) (Nat.le_of_ble_eq_true rfl) (Nat.le_of_ble_eq_true rfl) (Nat.le_of_ble_eq_true rfl) dX2_fewestSteps_105 ?_
              refine pc_top (show (if ((ab (nI n - 4)) + (fw h lo tn 1 (j + 1) one (nI n - 4))) < (fwF (fwC h lo tn j two one) (fun x => fw h lo tn 1 (j + 1) one x) n) then ((ab (nI n - 4)) + (fw h lo tn 1 (j + 1) one (nI n - 4))) else (fwF (fwC h lo tn j two one) (fun x => fw h lo tn 1 (j + 1) one x) n)) = mn (fwF (fwC h lo tn j two one) (fun x => fw h lo tn 1 (j + 1) one x) n) ((ab (nI n - 4)) + (fw h lo tn 1 (j + 1) one (nI n - 4))) from rfl) ?_
              refine lv_istore (lv' := [(5, .int (mn (fwF (fwC h lo tn j two one) (fun x => fw h lo tn 1 (j + 1) one x) n) ((ab (nI n - 4)) + (fw h lo tn 1 (j + 1) one (nI n - 4))))), (7, .int (fw h lo tn 1 (j + 1) one (nI n - 4))), (0, .ref (q 0)), (1, .ref ca), (2, .int (nI j)), (3, .int two), (4, .int one), (6, .int (nI n - 4))]) hx hb dX2_fewestSteps_108 hl (by decide) rfl (fun ls hl => ?_)
              have z9 : fwC h lo tn j two one (nI n - 4) = true := by simp only [fwC, bI_1.mp c57, bI_1.mp c78, Bool.or_true, Bool.and_true]
              have r9 : mn (fwF (fwC h lo tn j two one) (fun x => fw h lo tn 1 (j + 1) one x) n) ((ab (nI n - 4)) + (fw h lo tn 1 (j + 1) one (nI n - 4))) = fwF (fwC h lo tn j two one) (fun x => fw h lo tn 1 (j + 1) one x) (n + 1) := (by simp [fwF, z9])
              rw [r9] at hl
              clear r9
              refine lv_iinc (v := nI (n + 1) - 4) (lv' := [(6, .int (nI (n + 1) - 4)), (5, .int (fwF (fwC h lo tn j two one) (fun x => fw h lo tn 1 (j + 1) one x) (n + 1))), (7, .int (fw h lo tn 1 (j + 1) one (nI n - 4))), (0, .ref (q 0)), (1, .ref ca), (2, .int (nI j)), (3, .int two), (4, .int one)]) hx hb dX2_fewestSteps_110 hl (k := 7) rfl (fw_inc n) (by decide) rfl (fun ls hl => ?_)
              refine lv_goto (tgt := 39) hx hb dX2_fewestSteps_113 (by decide) ?_
              exact ih39 (n + 1) (by omega) (by omega) ls (lv_sub hl [3, 4, 5, 6, 7, 1, 0] rfl)
  exact loop39 (9 + 1) 0 (by decide) (by omega) ls (lv_sub hl [2, 3, 4, 5, 6, 1, 0] rfl)

theorem inX2_fewest_3_RX0 : ∀ w ∈ u_ws RX0 TX0 3, w ∈ wsX2_fewestSteps := by decide +kernel
theorem kX2_fewest_3_0 : (.fieldLink RX2 157 "WedgeHarps$Chord" "size" "I" : Cond) ∈ wsX2_fewestSteps := by decide +kernel
theorem kX2_fewest_3_1 : (.fieldLink RX2 154 "WedgeHarps$Chord" "lowest" "I" : Cond) ∈ wsX2_fewestSteps := by decide +kernel
theorem kX2_fewest_3_2 : (.methodLink RX2 95 Lib.Math.abs.name : Cond) ∈ wsX2_fewestSteps := by decide +kernel
theorem kX2_fewest_3_3 : (.static Lib.Math.abs.name : Cond) ∈ wsX2_fewestSteps := by decide +kernel
theorem kX2_fewest_3_4 : (.initialized "java/lang/Math" : Cond) ∈ wsX2_fewestSteps := by decide +kernel
theorem kX2_fewest_3_5 : (.code Lib.Math.abs.name Lib.Math.abs.code 1 (some .int) : Cond) ∈ wsX2_fewestSteps := by decide +kernel
theorem kX2_fewest_3_6 : (.methodLink RX2 217 Lib.Math.min.name : Cond) ∈ wsX2_fewestSteps := by decide +kernel
theorem kX2_fewest_3_7 : (.static Lib.Math.min.name : Cond) ∈ wsX2_fewestSteps := by decide +kernel
theorem kX2_fewest_3_8 : (.code Lib.Math.min.name Lib.Math.min.code 2 (some .int) : Cond) ∈ wsX2_fewestSteps := by decide +kernel
set_option maxHeartbeats 4000000 in
set_option maxRecDepth 100000 in
theorem mX2_fewest_3 (l : Launch) (D : va_G) (cy : Nat → ClassId) (q : Nat → Nat) (h : HS) (ca ta lo sz : Nat) (tn : Nat → Int32) (hls : lo + sz ≤ 12) (hs4 : sz ≤ 4) (j : Nat) (hj : j + 3 = sz) (two one : Int32) : Met l yX2_fewestSteps wsX2_fewestSteps ({ frames := 5, cells := 0, slots := 0, locals := 129 } : Room) (va_Pc [.ref (q 0), .ref ca, .int (nI j), .int two, .int one] (fun U => va_P D vwCl (wH cy q h ++ wC cy ca ta lo sz tn) U.heap ∧ va_K D vwCl (TY cy) U)) (vp_Si (fun r8 => r8 = fw h lo tn 3 j two one)) 0 0 (fun _ => False) := by
  refine Met.ofW (cc := cX2_fewestSteps) (maxL := 8) (ret := (some .int)) (by decide) rfl ?_
  intro p e s m args below meth c s₁ B hml hv
  obtain ⟨rfl, hP, hK⟩ := hv
  have hx := B.exec
  have hb := B.bytes
  have hr := B.returns
  have hts := atoms_spec (ws := wsX2_fewestSteps) B.pre
  have hown : s.vm.findClass RX2 = some m.cls := findClass_of_methodNamed B.named
  have hlocks := B.notSynchronized
  have hl := lv_entry ([.ref (q 0), .ref ca, .int (nI j), .int two, .int one]) (n := 8) (Nat.le_of_ble_eq_true rfl)
  rw [lg_entry_eq]
  generalize (lg_sl ([.ref (q 0), .ref ca, .int (nI j), .int two, .int one]) ++ List.replicate (8 - (lg_sl ([.ref (q 0), .ref ca, .int (nI j), .int two, .int one])).length) Slot.unset).toArray = ls at hl ⊢
  have hl : lv_has ls 8 [(0, .ref (q 0)), (1, .ref ca), (2, .int (nI j)), (3, .int two), (4, .int one)] := hl
  refine lv_iload_n hx hb dX2_fewestSteps_0 rfl (lv_at hl 2 rfl) ?_
  refine lv_aload_n hx hb dX2_fewestSteps_1 rfl (lv_at hl 1 rfl) ?_
  refine va_get (D := D) (ci := 0) (v := .int (nI sz)) (C := RX0) (T := TX0) (N := 3) hx hb hts inX2_fewest_3_RX0 hown hK hP 7 rfl rfl 2 (by decide) (hts _ kX2_fewest_3_0) (fun _ h9 => h9) rfl dX2_fewestSteps_2 ?_
  refine lv_icmp_lt (tgt := 30) hx hb dX2_fewestSteps_5 (by decide) (fun c5 => ?_) (fun c5 => absurd c5 (not_not_intro (nI_lt (show j < sz by omega) (show sz < 2 ^ 31 by omega))))
  have n5 : j < sz := (nI_ltI (a := j) (b := sz) (by omega) (by omega)).mp c5
  refine lv_sipush (v := 1000) hx hb dX2_fewestSteps_30 (by decide) ?_
  refine lv_istore (lv' := [(5, .int 1000), (0, .ref (q 0)), (1, .ref ca), (2, .int (nI j)), (3, .int two), (4, .int one)]) hx hb dX2_fewestSteps_33 hl (by decide) rfl (fun ls hl => ?_)
  refine lv_bipush (v := (-4)) hx hb dX2_fewestSteps_35 (by decide) ?_
  refine lv_istore (lv' := [(6, .int (-4)), (5, .int 1000), (0, .ref (q 0)), (1, .ref ca), (2, .int (nI j)), (3, .int two), (4, .int one)]) hx hb dX2_fewestSteps_37 hl (by decide) rfl (fun ls hl => ?_)
  have loop39 : ∀ (n9 : Nat) (n : Nat), n ≤ 9 → 9 - n < n9 → ∀ ls : Array Slot, lv_has ls 8 [(0, .ref (q 0)), (1, .ref ca), (2, .int (nI j)), (3, .int two), (4, .int one), (5, .int (fwF (fwC h lo tn j two one) (fun x => fw h lo tn 2 (j + 1) one x) n)), (6, .int (nI n - 4))] → W p l e (headSpec wsX2_fewestSteps ({ frames := 5, cells := 0, slots := 0, locals := 129 } : Room)).room s m ([.ref (q 0), .ref ca, .int (nI j), .int two, .int one] : List Value).toArray below meth c s.heap [] 0 0 (MQ below (vp_Si (fun r8 => r8 = fw h lo tn 3 j two one)) ([.ref (q 0), .ref ca, .int (nI j), .int two, .int one] : List Value).toArray s 0 0 (fun _ => False)) (F0 m 39 ls []) := by
    intro n9
    induction n9 with
    | zero => intro n hn h9 ls hl; exact absurd h9 (by omega)
    | succ n9 ih39 =>
      intro n hn h9 ls hl
      refine lv_iload hx hb dX2_fewestSteps_39 (lv_at hl 6 rfl) ?_
      refine lv_iconst (v := 4) hx hb dX2_fewestSteps_41 (by decide) ?_
      refine lv_icmp_gt (tgt := 116) hx hb dX2_fewestSteps_42 (by decide) (fun c42 => ?_) (fun c42 => ?_)
      · have n42 : n = 9 := (fw_lt hn).mp c42
        refine lv_iload hx hb dX2_fewestSteps_116 (lv_at hl 5 rfl) ?_
        exact W.iret (v := fwF (fwC h lo tn j two one) (fun x => fw h lo tn 2 (j + 1) one x) n) hx hb hr (fun t ht hW => ⟨fwF (fwC h lo tn j two one) (fun x => fw h lo tn 2 (j + 1) one x) n, rfl, (by rw [n42]; rfl), ht⟩) (fun q hq => absurd hq List.not_mem_nil) dX2_fewestSteps_118
      · have n42 : n ≤ 8 := by
          rcases Nat.lt_or_ge n 9 with z | z
          · omega
          · exact absurd ((fw_lt hn).mpr (by omega)) c42
        refine lv_aload_n hx hb dX2_fewestSteps_45 rfl (lv_at hl 0 rfl) ?_
        refine lv_aload_n hx hb dX2_fewestSteps_46 rfl (lv_at hl 1 rfl) ?_
        refine va_get (D := D) (ci := 0) (v := .int (nI lo)) (C := RX0) (T := TX0) (N := 3) hx hb hts inX2_fewest_3_RX0 hown hK hP 7 rfl rfl 1 (by decide) (hts _ kX2_fewest_3_1) (fun _ h9 => h9) rfl dX2_fewestSteps_47 ?_
        refine lv_iload_n hx hb dX2_fewestSteps_50 rfl (lv_at hl 2 rfl) ?_
        refine lv_iadd hx hb dX2_fewestSteps_51 ?_
        refine pc_top (show (nI lo) + (nI j) = nI (lo + j) from nI_add lo j) ?_
        refine lv_iload hx hb dX2_fewestSteps_52 (lv_at hl 6 rfl) ?_
        have hPc := hP.sub (ws' := wH cy q h) [0, 1, 2, 3, 4, 5, 6] rfl
        refine pc_calli (va_runV (As := [.int (nI (lo + j)), .int (nI n - 4)]) (rest := []) ⟨hx, hb, hml, hown, hts⟩ (mX1_takesPush l D cy q h (lo + j) (by omega) (nI n - 4)) (cwV 2 hts gX2_fewestSteps_X1_takesPush rfl rfl rfl (by decide +kernel) ⟨Nat.le_of_ble_eq_true rfl, Nat.le_of_ble_eq_true rfl⟩) ⟨fun a U g mk q => ⟨q.1, q.2.1, va_K.moved (u := U) (U := U.calling g mk a) (Vm.Alike.refl U.vm) q.2.2⟩, va_recv hK hPc (ci := 1) (q0 := 0) rfl rfl, fun U hU hW => ⟨rfl, by rw [hU]; exact hPc, va_K.moved hW.alike hK⟩⟩ rfl rfl hl.1 rfl (lv_room (Nat.le_of_ble_eq_true rfl)) dX2_fewestSteps_54 ⟨Nat.le_of_ble_eq_true rfl, Nat.le_of_ble_eq_true rfl⟩) (fun r9 hr9 => ?_)
        subst hr9
        refine lv_if_eq (tgt := 110) hx hb dX2_fewestSteps_57 (by decide) (fun c57 => ?_) (fun c57 => ?_)
        · have z9 : fwC h lo tn j two one (nI n - 4) = false := by simp only [fwC, bI_0.mp c57, Bool.false_and]
          have r9 : fwF (fwC h lo tn j two one) (fun x => fw h lo tn 2 (j + 1) one x) n = fwF (fwC h lo tn j two one) (fun x => fw h lo tn 2 (j + 1) one x) (n + 1) := (by simp [fwF, z9])
          rw [r9] at hl
          clear r9
          refine lv_iinc (v := nI (n + 1) - 4) (lv' := [(6, .int (nI (n + 1) - 4)), (0, .ref (q 0)), (1, .ref ca), (2, .int (nI j)), (3, .int two), (4, .int one), (5, .int (fwF (fwC h lo tn j two one) (fun x => fw h lo tn 2 (j + 1) one x) (n + 1)))]) hx hb dX2_fewestSteps_110 hl (k := 6) rfl (fw_inc n) (by decide) rfl (fun ls hl => ?_)
          refine lv_goto (tgt := 39) hx hb dX2_fewestSteps_113 (by decide) ?_
          exact ih39 (n + 1) (by omega) (by omega) ls (lv_sub hl [1, 2, 3, 4, 5, 6, 0] rfl)
        · refine lv_iload_n hx hb dX2_fewestSteps_60 rfl (lv_at hl 2 rfl) ?_
          refine lv_if_eq (tgt := 81) hx hb dX2_fewestSteps_61 (by decide) (fun c61 => ?_) (fun c61 => ?_)
          · have n61 : j = 0 := (nI_eq (a := j) (b := 0) (by omega) (by omega)).mp c61
            refine lv_aload_n hx hb dX2_fewestSteps_81 rfl (lv_at hl 0 rfl) ?_
            refine lv_aload_n hx hb dX2_fewestSteps_82 rfl (lv_at hl 1 rfl) ?_
            refine lv_iload_n hx hb dX2_fewestSteps_83 rfl (lv_at hl 2 rfl) ?_
            refine lv_iconst (v := 1) hx hb dX2_fewestSteps_84 (by decide) ?_
            refine lv_iadd hx hb dX2_fewestSteps_85 ?_
            refine pc_top (show (nI j) + 1 = nI (j + 1) from nI_add j 1) ?_
            refine lv_iload hx hb dX2_fewestSteps_86 (lv_at hl 4 rfl) ?_
            refine lv_iload hx hb dX2_fewestSteps_88 (lv_at hl 6 rfl) ?_
            refine pc_calli (va_runS (As := [.ref (q 0), .ref ca, .int (nI (j + 1)), .int one, .int (nI n - 4)]) (rest := []) ⟨hx, hb, hml, hown, hts⟩ (mX2_fewest_2 l D cy q h ca ta lo sz tn hls hs4 (j + 1) (by omega) one (nI n - 4)) (va_cwS 5 hts gX2_fewestSteps_X2_fewestSteps rfl rfl rfl (by decide +kernel) ⟨Nat.le_of_ble_eq_true rfl, Nat.le_of_ble_eq_true rfl⟩) ⟨fun a U g mk q => ⟨q.1, q.2.1, va_K.moved (u := U) (U := U.calling g mk a) (Vm.Alike.refl U.vm) q.2.2⟩, fun U hU hW => ⟨rfl, by rw [hU]; exact hP, va_K.moved hW.alike hK⟩⟩ rfl rfl hl.1 rfl (lv_room (Nat.le_of_ble_eq_true rfl)) dX2_fewestSteps_90 ⟨Nat.le_of_ble_eq_true rfl, Nat.le_of_ble_eq_true rfl⟩) (fun r9 hr9 => ?_)
            subst hr9
            refine lv_istore (lv' := [(7, .int (fw h lo tn 2 (j + 1) one (nI n - 4))), (0, .ref (q 0)), (1, .ref ca), (2, .int (nI j)), (3, .int two), (4, .int one), (5, .int (fwF (fwC h lo tn j two one) (fun x => fw h lo tn 2 (j + 1) one x) n)), (6, .int (nI n - 4))]) hx hb dX2_fewestSteps_93 hl (by decide) rfl (fun ls hl => ?_)
            refine lv_iload hx hb dX2_fewestSteps_95 (lv_at hl 6 rfl) ?_
            refine lv_iload hx hb dX2_fewestSteps_97 (lv_at hl 7 rfl) ?_
            refine va_mabs hx hb (by rw [hml]; exact hl.1.symm) hown (hts _ kX2_fewest_3_2) (hts _ kX2_fewest_3_3) (hts _ kX2_fewest_3_4) (hts _ kX2_fewest_3_5) (Nat.le_of_ble_eq_true rfl) (Nat.le_of_ble_eq_true rfl) (Nat.le_of_ble_eq_true rfl) (Nat.le_of_ble_eq_true rfl) dX2_fewestSteps_99 ?_
            refine pc_top (show (if 0 ≤ (nI n - 4) then (nI n - 4) else 0 - (nI n - 4)) = ab (nI n - 4) from rfl) ?_
            refine lv_iload hx hb dX2_fewestSteps_102 (lv_at hl 0 rfl) ?_
            refine lv_iadd hx hb dX2_fewestSteps_104 ?_
            refine va_mmin hx hb (by rw [hml]; exact hl.1.symm) hown (hts _ kX2_fewest_3_6) (hts _ kX2_fewest_3_7) (hts _ kX2_fewest_3_4) (hts _ kX2_fewest_3_8) (Nat.le_of_ble_eq_true rfl) (Nat.le_of_ble_eq_true rfl) (Nat.le_of_ble_eq_true rfl) (Nat.le_of_ble_eq_true rfl) dX2_fewestSteps_105 ?_
            refine pc_top (show (if ((ab (nI n - 4)) + (fw h lo tn 2 (j + 1) one (nI n - 4))) < (fwF (fwC h lo tn j two one) (fun x => fw h lo tn 2 (j + 1) one x) n) then ((ab (nI n - 4)) + (fw h lo tn 2 (j + 1) one (nI n - 4))) else (fwF (fwC h lo tn j two one) (fun x => fw h lo tn 2 (j + 1) one x) n)) = mn (fwF (fwC h lo tn j two one) (fun x => fw h lo tn 2 (j + 1) one x) n) ((ab (nI n - 4)) + (fw h lo tn 2 (j + 1) one (nI n - 4))) from rfl) ?_
            refine lv_istore (lv' := [(5, .int (mn (fwF (fwC h lo tn j two one) (fun x => fw h lo tn 2 (j + 1) one x) n) ((ab (nI n - 4)) + (fw h lo tn 2 (j + 1) one (nI n - 4))))), (7, .int (fw h lo tn 2 (j + 1) one (nI n - 4))), (0, .ref (q 0)), (1, .ref ca), (2, .int (nI j)), (3, .int two), (4, .int one), (6, .int (nI n - 4))]) hx hb dX2_fewestSteps_108 hl (by decide) rfl (fun ls hl => ?_)
            have z9 : fwC h lo tn j two one (nI n - 4) = true := by simp only [fwC, bI_1.mp c57, Bool.true_and]; simp [n61]
            have r9 : mn (fwF (fwC h lo tn j two one) (fun x => fw h lo tn 2 (j + 1) one x) n) ((ab (nI n - 4)) + (fw h lo tn 2 (j + 1) one (nI n - 4))) = fwF (fwC h lo tn j two one) (fun x => fw h lo tn 2 (j + 1) one x) (n + 1) := (by simp [fwF, z9])
            rw [r9] at hl
            clear r9
            refine lv_iinc (v := nI (n + 1) - 4) (lv' := [(6, .int (nI (n + 1) - 4)), (5, .int (fwF (fwC h lo tn j two one) (fun x => fw h lo tn 2 (j + 1) one x) (n + 1))), (7, .int (fw h lo tn 2 (j + 1) one (nI n - 4))), (0, .ref (q 0)), (1, .ref ca), (2, .int (nI j)), (3, .int two), (4, .int one)]) hx hb dX2_fewestSteps_110 hl (k := 7) rfl (fw_inc n) (by decide) rfl (fun ls hl => ?_)
            refine lv_goto (tgt := 39) hx hb dX2_fewestSteps_113 (by decide) ?_
            exact ih39 (n + 1) (by omega) (by omega) ls (lv_sub hl [3, 4, 5, 6, 7, 1, 0] rfl)
          · have n61 : ¬ (j = 0) := fun h9 => c61 ((nI_eq (a := j) (b := 0) (by omega) (by omega)).mpr h9)
            refine lv_aload_n hx hb dX2_fewestSteps_64 rfl (lv_at hl 0 rfl) ?_
            refine lv_aload_n hx hb dX2_fewestSteps_65 rfl (lv_at hl 1 rfl) ?_
            refine lv_iload_n hx hb dX2_fewestSteps_66 rfl (lv_at hl 2 rfl) ?_
            refine lv_iconst (v := 1) hx hb dX2_fewestSteps_67 (by decide) ?_
            refine lv_isub hx hb dX2_fewestSteps_68 ?_
            refine pc_top (show (nI j) - 1 = nI (j - 1) from pk_sub (a := j) (b := 1) (by omega)) ?_
            refine lv_iload hx hb dX2_fewestSteps_69 (lv_at hl 4 rfl) ?_
            refine lv_iload_n hx hb dX2_fewestSteps_71 rfl (lv_at hl 3 rfl) ?_
            refine lv_iload hx hb dX2_fewestSteps_72 (lv_at hl 6 rfl) ?_
            refine lv_iadd hx hb dX2_fewestSteps_74 ?_
            refine pc_calli (va_runV (As := [.ref ca, .int (nI (j - 1)), .int one, .int (two + (nI n - 4))]) (rest := []) ⟨hx, hb, hml, hown, hts⟩ (mX1_fitsPushed l D cy q h ca ta lo sz tn hls hs4 (j - 1) (by omega) one (two + (nI n - 4))) (cwV 4 hts gX2_fewestSteps_X1_fitsPushed rfl rfl rfl (by decide +kernel) ⟨Nat.le_of_ble_eq_true rfl, Nat.le_of_ble_eq_true rfl⟩) ⟨fun a U g mk q => ⟨q.1, q.2.1, va_K.moved (u := U) (U := U.calling g mk a) (Vm.Alike.refl U.vm) q.2.2⟩, va_recv hK hP (ci := 1) (q0 := 0) rfl rfl, fun U hU hW => ⟨rfl, by rw [hU]; exact hP, va_K.moved hW.alike hK⟩⟩ rfl rfl hl.1 rfl (lv_room (Nat.le_of_ble_eq_true rfl)) dX2_fewestSteps_75 ⟨Nat.le_of_ble_eq_true rfl, Nat.le_of_ble_eq_true rfl⟩) (fun r9 hr9 => ?_)
            subst hr9
            refine lv_if_eq (tgt := 110) hx hb dX2_fewestSteps_78 (by decide) (fun c78 => ?_) (fun c78 => ?_)
            · have z9 : fwC h lo tn j two one (nI n - 4) = false := by simp only [fwC, bI_0.mp c78]; simp [n61]
              have r9 : fwF (fwC h lo tn j two one) (fun x => fw h lo tn 2 (j + 1) one x) n = fwF (fwC h lo tn j two one) (fun x => fw h lo tn 2 (j + 1) one x) (n + 1) := (by simp [fwF, z9])
              rw [r9] at hl
              clear r9
              refine lv_iinc (v := nI (n + 1) - 4) (lv' := [(6, .int (nI (n + 1) - 4)), (0, .ref (q 0)), (1, .ref ca), (2, .int (nI j)), (3, .int two), (4, .int one), (5, .int (fwF (fwC h lo tn j two one) (fun x => fw h lo tn 2 (j + 1) one x) (n + 1)))]) hx hb dX2_fewestSteps_110 hl (k := 6) rfl (fw_inc n) (by decide) rfl (fun ls hl => ?_)
              refine lv_goto (tgt := 39) hx hb dX2_fewestSteps_113 (by decide) ?_
              exact ih39 (n + 1) (by omega) (by omega) ls (lv_sub hl [1, 2, 3, 4, 5, 6, 0] rfl)
            · refine lv_aload_n hx hb dX2_fewestSteps_81 rfl (lv_at hl 0 rfl) ?_
              refine lv_aload_n hx hb dX2_fewestSteps_82 rfl (lv_at hl 1 rfl) ?_
              refine lv_iload_n hx hb dX2_fewestSteps_83 rfl (lv_at hl 2 rfl) ?_
              refine lv_iconst (v := 1) hx hb dX2_fewestSteps_84 (by decide) ?_
              refine lv_iadd hx hb dX2_fewestSteps_85 ?_
              refine pc_top (show (nI j) + 1 = nI (j + 1) from nI_add j 1) ?_
              refine lv_iload hx hb dX2_fewestSteps_86 (lv_at hl 4 rfl) ?_
              refine lv_iload hx hb dX2_fewestSteps_88 (lv_at hl 6 rfl) ?_
              refine pc_calli (va_runS (As := [.ref (q 0), .ref ca, .int (nI (j + 1)), .int one, .int (nI n - 4)]) (rest := []) ⟨hx, hb, hml, hown, hts⟩ (mX2_fewest_2 l D cy q h ca ta lo sz tn hls hs4 (j + 1) (by omega) one (nI n - 4)) (va_cwS 5 hts gX2_fewestSteps_X2_fewestSteps rfl rfl rfl (by decide +kernel) ⟨Nat.le_of_ble_eq_true rfl, Nat.le_of_ble_eq_true rfl⟩) ⟨fun a U g mk q => ⟨q.1, q.2.1, va_K.moved (u := U) (U := U.calling g mk a) (Vm.Alike.refl U.vm) q.2.2⟩, fun U hU hW => ⟨rfl, by rw [hU]; exact hP, va_K.moved hW.alike hK⟩⟩ rfl rfl hl.1 rfl (lv_room (Nat.le_of_ble_eq_true rfl)) dX2_fewestSteps_90 ⟨Nat.le_of_ble_eq_true rfl, Nat.le_of_ble_eq_true rfl⟩) (fun r9 hr9 => ?_)
              subst hr9
              refine lv_istore (lv' := [(7, .int (fw h lo tn 2 (j + 1) one (nI n - 4))), (0, .ref (q 0)), (1, .ref ca), (2, .int (nI j)), (3, .int two), (4, .int one), (5, .int (fwF (fwC h lo tn j two one) (fun x => fw h lo tn 2 (j + 1) one x) n)), (6, .int (nI n - 4))]) hx hb dX2_fewestSteps_93 hl (by decide) rfl (fun ls hl => ?_)
              refine lv_iload hx hb dX2_fewestSteps_95 (lv_at hl 6 rfl) ?_
              refine lv_iload hx hb dX2_fewestSteps_97 (lv_at hl 7 rfl) ?_
              refine va_mabs hx hb (by rw [hml]; exact hl.1.symm) hown (hts _ kX2_fewest_3_2) (hts _ kX2_fewest_3_3) (hts _ kX2_fewest_3_4) (hts _ kX2_fewest_3_5) (Nat.le_of_ble_eq_true rfl) (Nat.le_of_ble_eq_true rfl) (Nat.le_of_ble_eq_true rfl) (Nat.le_of_ble_eq_true rfl) dX2_fewestSteps_99 ?_
              refine pc_top (show (if 0 ≤ (nI n - 4) then (nI n - 4) else 0 - (nI n - 4)) = ab (nI n - 4) from rfl) ?_
              refine lv_iload hx hb dX2_fewestSteps_102 (lv_at hl 0 rfl) ?_
              refine lv_iadd hx hb dX2_fewestSteps_104 ?_
              refine va_mmin hx hb (by rw [hml]; exact hl.1.symm) hown (hts _ kX2_fewest_3_6) (hts _ kX2_fewest_3_7) (hts _ kX2_fewest_3_4) (hts _ kX2_fewest_3_8) (Nat.le_of_ble_eq_true rfl) (Nat.le_of_ble_eq_true rfl) (Nat.le_of_ble_eq_true rfl) (Nat.le_of_ble_eq_true rfl) dX2_fewestSteps_105 ?_
              refine pc_top (show (if ((ab (nI n - 4)) + (fw h lo tn 2 (j + 1) one (nI n - 4))) < (fwF (fwC h lo tn j two one) (fun x => fw h lo tn 2 (j + 1) one x) n) then ((ab (nI n - 4)) + (fw h lo tn 2 (j + 1) one (nI n - 4))) else (fwF (fwC h lo tn j two one) (fun x => fw h lo tn 2 (j + 1) one x) n)) = mn (fwF (fwC h lo tn j two one) (fun x => fw h lo tn 2 (j + 1) one x) n) ((ab (nI n - 4)) + (fw h lo tn 2 (j + 1) one (nI n - 4))) from rfl) ?_
              refine lv_istore (lv' := [(5, .int (mn (fwF (fwC h lo tn j two one) (fun x => fw h lo tn 2 (j + 1) one x) n) ((ab (nI n - 4)) + (fw h lo tn 2 (j + 1) one (nI n - 4))))), (7, .int (fw h lo tn 2 (j + 1) one (nI n - 4))), (0, .ref (q 0)), (1, .ref ca), (2, .int (nI j)), (3, .int two), (4, .int one), (6, .int (nI n - 4))]) hx hb dX2_fewestSteps_108 hl (by decide) rfl (fun ls hl => ?_)
              have z9 : fwC h lo tn j two one (nI n - 4) = true := by simp only [fwC, bI_1.mp c57, bI_1.mp c78, Bool.or_true, Bool.and_true]
              have r9 : mn (fwF (fwC h lo tn j two one) (fun x => fw h lo tn 2 (j + 1) one x) n) ((ab (nI n - 4)) + (fw h lo tn 2 (j + 1) one (nI n - 4))) = fwF (fwC h lo tn j two one) (fun x => fw h lo tn 2 (j + 1) one x) (n + 1) := (by simp [fwF, z9])
              rw [r9] at hl
              clear r9
              refine lv_iinc (v := nI (n + 1) - 4) (lv' := [(6, .int (nI (n + 1) - 4)), (5, .int (fwF (fwC h lo tn j two one) (fun x => fw h lo tn 2 (j + 1) one x) (n + 1))), (7, .int (fw h lo tn 2 (j + 1) one (nI n - 4))), (0, .ref (q 0)), (1, .ref ca), (2, .int (nI j)), (3, .int two), (4, .int one)]) hx hb dX2_fewestSteps_110 hl (k := 7) rfl (fw_inc n) (by decide) rfl (fun ls hl => ?_)
              refine lv_goto (tgt := 39) hx hb dX2_fewestSteps_113 (by decide) ?_
              exact ih39 (n + 1) (by omega) (by omega) ls (lv_sub hl [3, 4, 5, 6, 7, 1, 0] rfl)
  exact loop39 (9 + 1) 0 (by decide) (by omega) ls (lv_sub hl [2, 3, 4, 5, 6, 1, 0] rfl)

theorem inX2_fewest_4_RX0 : ∀ w ∈ u_ws RX0 TX0 3, w ∈ wsX2_fewestSteps := by decide +kernel
theorem kX2_fewest_4_0 : (.fieldLink RX2 157 "WedgeHarps$Chord" "size" "I" : Cond) ∈ wsX2_fewestSteps := by decide +kernel
theorem kX2_fewest_4_1 : (.fieldLink RX2 154 "WedgeHarps$Chord" "lowest" "I" : Cond) ∈ wsX2_fewestSteps := by decide +kernel
theorem kX2_fewest_4_2 : (.methodLink RX2 95 Lib.Math.abs.name : Cond) ∈ wsX2_fewestSteps := by decide +kernel
theorem kX2_fewest_4_3 : (.static Lib.Math.abs.name : Cond) ∈ wsX2_fewestSteps := by decide +kernel
theorem kX2_fewest_4_4 : (.initialized "java/lang/Math" : Cond) ∈ wsX2_fewestSteps := by decide +kernel
theorem kX2_fewest_4_5 : (.code Lib.Math.abs.name Lib.Math.abs.code 1 (some .int) : Cond) ∈ wsX2_fewestSteps := by decide +kernel
theorem kX2_fewest_4_6 : (.methodLink RX2 217 Lib.Math.min.name : Cond) ∈ wsX2_fewestSteps := by decide +kernel
theorem kX2_fewest_4_7 : (.static Lib.Math.min.name : Cond) ∈ wsX2_fewestSteps := by decide +kernel
theorem kX2_fewest_4_8 : (.code Lib.Math.min.name Lib.Math.min.code 2 (some .int) : Cond) ∈ wsX2_fewestSteps := by decide +kernel
set_option maxHeartbeats 4000000 in
set_option maxRecDepth 100000 in
theorem mX2_fewest_4 (l : Launch) (D : va_G) (cy : Nat → ClassId) (q : Nat → Nat) (h : HS) (ca ta lo sz : Nat) (tn : Nat → Int32) (hls : lo + sz ≤ 12) (hs4 : sz ≤ 4) (j : Nat) (hj : j + 4 = sz) (two one : Int32) : Met l yX2_fewestSteps wsX2_fewestSteps ({ frames := 6, cells := 0, slots := 0, locals := 156 } : Room) (va_Pc [.ref (q 0), .ref ca, .int (nI j), .int two, .int one] (fun U => va_P D vwCl (wH cy q h ++ wC cy ca ta lo sz tn) U.heap ∧ va_K D vwCl (TY cy) U)) (vp_Si (fun r8 => r8 = fw h lo tn 4 j two one)) 0 0 (fun _ => False) := by
  refine Met.ofW (cc := cX2_fewestSteps) (maxL := 8) (ret := (some .int)) (by decide) rfl ?_
  intro p e s m args below meth c s₁ B hml hv
  obtain ⟨rfl, hP, hK⟩ := hv
  have hx := B.exec
  have hb := B.bytes
  have hr := B.returns
  have hts := atoms_spec (ws := wsX2_fewestSteps) B.pre
  have hown : s.vm.findClass RX2 = some m.cls := findClass_of_methodNamed B.named
  have hlocks := B.notSynchronized
  have hl := lv_entry ([.ref (q 0), .ref ca, .int (nI j), .int two, .int one]) (n := 8) (Nat.le_of_ble_eq_true rfl)
  rw [lg_entry_eq]
  generalize (lg_sl ([.ref (q 0), .ref ca, .int (nI j), .int two, .int one]) ++ List.replicate (8 - (lg_sl ([.ref (q 0), .ref ca, .int (nI j), .int two, .int one])).length) Slot.unset).toArray = ls at hl ⊢
  have hl : lv_has ls 8 [(0, .ref (q 0)), (1, .ref ca), (2, .int (nI j)), (3, .int two), (4, .int one)] := hl
  refine lv_iload_n hx hb dX2_fewestSteps_0 rfl (lv_at hl 2 rfl) ?_
  refine lv_aload_n hx hb dX2_fewestSteps_1 rfl (lv_at hl 1 rfl) ?_
  refine va_get (D := D) (ci := 0) (v := .int (nI sz)) (C := RX0) (T := TX0) (N := 3) hx hb hts inX2_fewest_4_RX0 hown hK hP 7 rfl rfl 2 (by decide) (hts _ kX2_fewest_4_0) (fun _ h9 => h9) rfl dX2_fewestSteps_2 ?_
  refine lv_icmp_lt (tgt := 30) hx hb dX2_fewestSteps_5 (by decide) (fun c5 => ?_) (fun c5 => absurd c5 (not_not_intro (nI_lt (show j < sz by omega) (show sz < 2 ^ 31 by omega))))
  have n5 : j < sz := (nI_ltI (a := j) (b := sz) (by omega) (by omega)).mp c5
  refine lv_sipush (v := 1000) hx hb dX2_fewestSteps_30 (by decide) ?_
  refine lv_istore (lv' := [(5, .int 1000), (0, .ref (q 0)), (1, .ref ca), (2, .int (nI j)), (3, .int two), (4, .int one)]) hx hb dX2_fewestSteps_33 hl (by decide) rfl (fun ls hl => ?_)
  refine lv_bipush (v := (-4)) hx hb dX2_fewestSteps_35 (by decide) ?_
  refine lv_istore (lv' := [(6, .int (-4)), (5, .int 1000), (0, .ref (q 0)), (1, .ref ca), (2, .int (nI j)), (3, .int two), (4, .int one)]) hx hb dX2_fewestSteps_37 hl (by decide) rfl (fun ls hl => ?_)
  have loop39 : ∀ (n9 : Nat) (n : Nat), n ≤ 9 → 9 - n < n9 → ∀ ls : Array Slot, lv_has ls 8 [(0, .ref (q 0)), (1, .ref ca), (2, .int (nI j)), (3, .int two), (4, .int one), (5, .int (fwF (fwC h lo tn j two one) (fun x => fw h lo tn 3 (j + 1) one x) n)), (6, .int (nI n - 4))] → W p l e (headSpec wsX2_fewestSteps ({ frames := 6, cells := 0, slots := 0, locals := 156 } : Room)).room s m ([.ref (q 0), .ref ca, .int (nI j), .int two, .int one] : List Value).toArray below meth c s.heap [] 0 0 (MQ below (vp_Si (fun r8 => r8 = fw h lo tn 4 j two one)) ([.ref (q 0), .ref ca, .int (nI j), .int two, .int one] : List Value).toArray s 0 0 (fun _ => False)) (F0 m 39 ls []) := by
    intro n9
    induction n9 with
    | zero => intro n hn h9 ls hl; exact absurd h9 (by omega)
    | succ n9 ih39 =>
      intro n hn h9 ls hl
      refine lv_iload hx hb dX2_fewestSteps_39 (lv_at hl 6 rfl) ?_
      refine lv_iconst (v := 4) hx hb dX2_fewestSteps_41 (by decide) ?_
      refine lv_icmp_gt (tgt := 116) hx hb dX2_fewestSteps_42 (by decide) (fun c42 => ?_) (fun c42 => ?_)
      · have n42 : n = 9 := (fw_lt hn).mp c42
        refine lv_iload hx hb dX2_fewestSteps_116 (lv_at hl 5 rfl) ?_
        exact W.iret (v := fwF (fwC h lo tn j two one) (fun x => fw h lo tn 3 (j + 1) one x) n) hx hb hr (fun t ht hW => ⟨fwF (fwC h lo tn j two one) (fun x => fw h lo tn 3 (j + 1) one x) n, rfl, (by rw [n42]; rfl), ht⟩) (fun q hq => absurd hq List.not_mem_nil) dX2_fewestSteps_118
      · have n42 : n ≤ 8 := by
          rcases Nat.lt_or_ge n 9 with z | z
          · omega
          · exact absurd ((fw_lt hn).mpr (by omega)) c42
        refine lv_aload_n hx hb dX2_fewestSteps_45 rfl (lv_at hl 0 rfl) ?_
        refine lv_aload_n hx hb dX2_fewestSteps_46 rfl (lv_at hl 1 rfl) ?_
        refine va_get (D := D) (ci := 0) (v := .int (nI lo)) (C := RX0) (T := TX0) (N := 3) hx hb hts inX2_fewest_4_RX0 hown hK hP 7 rfl rfl 1 (by decide) (hts _ kX2_fewest_4_1) (fun _ h9 => h9) rfl dX2_fewestSteps_47 ?_
        refine lv_iload_n hx hb dX2_fewestSteps_50 rfl (lv_at hl 2 rfl) ?_
        refine lv_iadd hx hb dX2_fewestSteps_51 ?_
        refine pc_top (show (nI lo) + (nI j) = nI (lo + j) from nI_add lo j) ?_
        refine lv_iload hx hb dX2_fewestSteps_52 (lv_at hl 6 rfl) ?_
        have hPc := hP.sub (ws' := wH cy q h) [0, 1, 2, 3, 4, 5, 6] rfl
        refine pc_calli (va_runV (As := [.int (nI (lo + j)), .int (nI n - 4)]) (rest := []) ⟨hx, hb, hml, hown, hts⟩ (mX1_takesPush l D cy q h (lo + j) (by omega) (nI n - 4)) (cwV 2 hts gX2_fewestSteps_X1_takesPush rfl rfl rfl (by decide +kernel) ⟨Nat.le_of_ble_eq_true rfl, Nat.le_of_ble_eq_true rfl⟩) ⟨fun a U g mk q => ⟨q.1, q.2.1, va_K.moved (u := U) (U := U.calling g mk a) (Vm.Alike.refl U.vm) q.2.2⟩, va_recv hK hPc (ci := 1) (q0 := 0) rfl rfl, fun U hU hW => ⟨rfl, by rw [hU]; exact hPc, va_K.moved hW.alike hK⟩⟩ rfl rfl hl.1 rfl (lv_room (Nat.le_of_ble_eq_true rfl)) dX2_fewestSteps_54 ⟨Nat.le_of_ble_eq_true rfl, Nat.le_of_ble_eq_true rfl⟩) (fun r9 hr9 => ?_)
        subst hr9
        refine lv_if_eq (tgt := 110) hx hb dX2_fewestSteps_57 (by decide) (fun c57 => ?_) (fun c57 => ?_)
        · have z9 : fwC h lo tn j two one (nI n - 4) = false := by simp only [fwC, bI_0.mp c57, Bool.false_and]
          have r9 : fwF (fwC h lo tn j two one) (fun x => fw h lo tn 3 (j + 1) one x) n = fwF (fwC h lo tn j two one) (fun x => fw h lo tn 3 (j + 1) one x) (n + 1) := (by simp [fwF, z9])
          rw [r9] at hl
          clear r9
          refine lv_iinc (v := nI (n + 1) - 4) (lv' := [(6, .int (nI (n + 1) - 4)), (0, .ref (q 0)), (1, .ref ca), (2, .int (nI j)), (3, .int two), (4, .int one), (5, .int (fwF (fwC h lo tn j two one) (fun x => fw h lo tn 3 (j + 1) one x) (n + 1)))]) hx hb dX2_fewestSteps_110 hl (k := 6) rfl (fw_inc n) (by decide) rfl (fun ls hl => ?_)
          refine lv_goto (tgt := 39) hx hb dX2_fewestSteps_113 (by decide) ?_
          exact ih39 (n + 1) (by omega) (by omega) ls (lv_sub hl [1, 2, 3, 4, 5, 6, 0] rfl)
        · refine lv_iload_n hx hb dX2_fewestSteps_60 rfl (lv_at hl 2 rfl) ?_
          refine lv_if_eq (tgt := 81) hx hb dX2_fewestSteps_61 (by decide) (fun c61 => ?_) (fun c61 => ?_)
          · have n61 : j = 0 := (nI_eq (a := j) (b := 0) (by omega) (by omega)).mp c61
            refine lv_aload_n hx hb dX2_fewestSteps_81 rfl (lv_at hl 0 rfl) ?_
            refine lv_aload_n hx hb dX2_fewestSteps_82 rfl (lv_at hl 1 rfl) ?_
            refine lv_iload_n hx hb dX2_fewestSteps_83 rfl (lv_at hl 2 rfl) ?_
            refine lv_iconst (v := 1) hx hb dX2_fewestSteps_84 (by decide) ?_
            refine lv_iadd hx hb dX2_fewestSteps_85 ?_
            refine pc_top (show (nI j) + 1 = nI (j + 1) from nI_add j 1) ?_
            refine lv_iload hx hb dX2_fewestSteps_86 (lv_at hl 4 rfl) ?_
            refine lv_iload hx hb dX2_fewestSteps_88 (lv_at hl 6 rfl) ?_
            refine pc_calli (va_runS (As := [.ref (q 0), .ref ca, .int (nI (j + 1)), .int one, .int (nI n - 4)]) (rest := []) ⟨hx, hb, hml, hown, hts⟩ (mX2_fewest_3 l D cy q h ca ta lo sz tn hls hs4 (j + 1) (by omega) one (nI n - 4)) (va_cwS 5 hts gX2_fewestSteps_X2_fewestSteps rfl rfl rfl (by decide +kernel) ⟨Nat.le_of_ble_eq_true rfl, Nat.le_of_ble_eq_true rfl⟩) ⟨fun a U g mk q => ⟨q.1, q.2.1, va_K.moved (u := U) (U := U.calling g mk a) (Vm.Alike.refl U.vm) q.2.2⟩, fun U hU hW => ⟨rfl, by rw [hU]; exact hP, va_K.moved hW.alike hK⟩⟩ rfl rfl hl.1 rfl (lv_room (Nat.le_of_ble_eq_true rfl)) dX2_fewestSteps_90 ⟨Nat.le_of_ble_eq_true rfl, Nat.le_of_ble_eq_true rfl⟩) (fun r9 hr9 => ?_)
            subst hr9
            refine lv_istore (lv' := [(7, .int (fw h lo tn 3 (j + 1) one (nI n - 4))), (0, .ref (q 0)), (1, .ref ca), (2, .int (nI j)), (3, .int two), (4, .int one), (5, .int (fwF (fwC h lo tn j two one) (fun x => fw h lo tn 3 (j + 1) one x) n)), (6, .int (nI n - 4))]) hx hb dX2_fewestSteps_93 hl (by decide) rfl (fun ls hl => ?_)
            refine lv_iload hx hb dX2_fewestSteps_95 (lv_at hl 6 rfl) ?_
            refine lv_iload hx hb dX2_fewestSteps_97 (lv_at hl 7 rfl) ?_
            refine va_mabs hx hb (by rw [hml]; exact hl.1.symm) hown (hts _ kX2_fewest_4_2) (hts _ kX2_fewest_4_3) (hts _ kX2_fewest_4_4) (hts _ kX2_fewest_4_5) (Nat.le_of_ble_eq_true rfl) (Nat.le_of_ble_eq_true rfl) (Nat.le_of_ble_eq_true rfl) (Nat.le_of_ble_eq_true rfl) dX2_fewestSteps_99 ?_
            refine pc_top (show (if 0 ≤ (nI n - 4) then (nI n - 4) else 0 - (nI n - 4)) = ab (nI n - 4) from rfl) ?_
            refine lv_iload hx hb dX2_fewestSteps_102 (lv_at hl 0 rfl) ?_
            refine lv_iadd hx hb dX2_fewestSteps_104 ?_
            refine va_mmin hx hb (by rw [hml]; exact hl.1.symm) hown (hts _ kX2_fewest_4_6) (hts _ kX2_fewest_4_7) (hts _ kX2_fewest_4_4) (hts _ kX2_fewest_4_8) (Nat.le_of_ble_eq_true rfl) (Nat.le_of_ble_eq_true rfl) (Nat.le_of_ble_eq_true rfl) (Nat.le_of_ble_eq_true rfl) dX2_fewestSteps_105 ?_
            refine pc_top (show (if ((ab (nI n - 4)) + (fw h lo tn 3 (j + 1) one (nI n - 4))) < (fwF (fwC h lo tn j two one) (fun x => fw h lo tn 3 (j + 1) one x) n) then ((ab (nI n - 4)) + (fw h lo tn 3 (j + 1) one (nI n - 4))) else (fwF (fwC h lo tn j two one) (fun x => fw h lo tn 3 (j + 1) one x) n)) = mn (fwF (fwC h lo tn j two one) (fun x => fw h lo tn 3 (j + 1) one x) n) ((ab (nI n - 4)) + (fw h lo tn 3 (j + 1) one (nI n - 4))) from rfl) ?_
            refine lv_istore (lv' := [(5, .int (mn (fwF (fwC h lo tn j two one) (fun x => fw h lo tn 3 (j + 1) one x) n) ((ab (nI n - 4)) + (fw h lo tn 3 (j + 1) one (nI n - 4))))), (7, .int (fw h lo tn 3 (j + 1) one (nI n - 4))), (0, .ref (q 0)), (1, .ref ca), (2, .int (nI j)), (3, .int two), (4, .int one), (6, .int (nI n - 4))]) hx hb dX2_fewestSteps_108 hl (by decide) rfl (fun ls hl => ?_)
            have z9 : fwC h lo tn j two one (nI n - 4) = true := by simp only [fwC, bI_1.mp c57, Bool.true_and]; simp [n61]
            have r9 : mn (fwF (fwC h lo tn j two one) (fun x => fw h lo tn 3 (j + 1) one x) n) ((ab (nI n - 4)) + (fw h lo tn 3 (j + 1) one (nI n - 4))) = fwF (fwC h lo tn j two one) (fun x => fw h lo tn 3 (j + 1) one x) (n + 1) := (by simp [fwF, z9])
            rw [r9] at hl
            clear r9
            refine lv_iinc (v := nI (n + 1) - 4) (lv' := [(6, .int (nI (n + 1) - 4)), (5, .int (fwF (fwC h lo tn j two one) (fun x => fw h lo tn 3 (j + 1) one x) (n + 1))), (7, .int (fw h lo tn 3 (j + 1) one (nI n - 4))), (0, .ref (q 0)), (1, .ref ca), (2, .int (nI j)), (3, .int two), (4, .int one)]) hx hb dX2_fewestSteps_110 hl (k := 7) rfl (fw_inc n) (by decide) rfl (fun ls hl => ?_)
            refine lv_goto (tgt := 39) hx hb dX2_fewestSteps_113 (by decide) ?_
            exact ih39 (n + 1) (by omega) (by omega) ls (lv_sub hl [3, 4, 5, 6, 7, 1, 0] rfl)
          · have n61 : ¬ (j = 0) := fun h9 => c61 ((nI_eq (a := j) (b := 0) (by omega) (by omega)).mpr h9)
            refine lv_aload_n hx hb dX2_fewestSteps_64 rfl (lv_at hl 0 rfl) ?_
            refine lv_aload_n hx hb dX2_fewestSteps_65 rfl (lv_at hl 1 rfl) ?_
            refine lv_iload_n hx hb dX2_fewestSteps_66 rfl (lv_at hl 2 rfl) ?_
            refine lv_iconst (v := 1) hx hb dX2_fewestSteps_67 (by decide) ?_
            refine lv_isub hx hb dX2_fewestSteps_68 ?_
            refine pc_top (show (nI j) - 1 = nI (j - 1) from pk_sub (a := j) (b := 1) (by omega)) ?_
            refine lv_iload hx hb dX2_fewestSteps_69 (lv_at hl 4 rfl) ?_
            refine lv_iload_n hx hb dX2_fewestSteps_71 rfl (lv_at hl 3 rfl) ?_
            refine lv_iload hx hb dX2_fewestSteps_72 (lv_at hl 6 rfl) ?_
            refine lv_iadd hx hb dX2_fewestSteps_74 ?_
            refine pc_calli (va_runV (As := [.ref ca, .int (nI (j - 1)), .int one, .int (two + (nI n - 4))]) (rest := []) ⟨hx, hb, hml, hown, hts⟩ (mX1_fitsPushed l D cy q h ca ta lo sz tn hls hs4 (j - 1) (by omega) one (two + (nI n - 4))) (cwV 4 hts gX2_fewestSteps_X1_fitsPushed rfl rfl rfl (by decide +kernel) ⟨Nat.le_of_ble_eq_true rfl, Nat.le_of_ble_eq_true rfl⟩) ⟨fun a U g mk q => ⟨q.1, q.2.1, va_K.moved (u := U) (U := U.calling g mk a) (Vm.Alike.refl U.vm) q.2.2⟩, va_recv hK hP (ci := 1) (q0 := 0) rfl rfl, fun U hU hW => ⟨rfl, by rw [hU]; exact hP, va_K.moved hW.alike hK⟩⟩ rfl rfl hl.1 rfl (lv_room (Nat.le_of_ble_eq_true rfl)) dX2_fewestSteps_75 ⟨Nat.le_of_ble_eq_true rfl, Nat.le_of_ble_eq_true rfl⟩) (fun r9 hr9 => ?_)
            subst hr9
            refine lv_if_eq (tgt := 110) hx hb dX2_fewestSteps_78 (by decide) (fun c78 => ?_) (fun c78 => ?_)
            · have z9 : fwC h lo tn j two one (nI n - 4) = false := by simp only [fwC, bI_0.mp c78]; simp [n61]
              have r9 : fwF (fwC h lo tn j two one) (fun x => fw h lo tn 3 (j + 1) one x) n = fwF (fwC h lo tn j two one) (fun x => fw h lo tn 3 (j + 1) one x) (n + 1) := (by simp [fwF, z9])
              rw [r9] at hl
              clear r9
              refine lv_iinc (v := nI (n + 1) - 4) (lv' := [(6, .int (nI (n + 1) - 4)), (0, .ref (q 0)), (1, .ref ca), (2, .int (nI j)), (3, .int two), (4, .int one), (5, .int (fwF (fwC h lo tn j two one) (fun x => fw h lo tn 3 (j + 1) one x) (n + 1)))]) hx hb dX2_fewestSteps_110 hl (k := 6) rfl (fw_inc n) (by decide) rfl (fun ls hl => ?_)
              refine lv_goto (tgt := 39) hx hb dX2_fewestSteps_113 (by decide) ?_
              exact ih39 (n + 1) (by omega) (by omega) ls (lv_sub hl [1, 2, 3, 4, 5, 6, 0] rfl)
            · refine lv_aload_n hx hb dX2_fewestSteps_81 rfl (lv_at hl 0 rfl) ?_
              refine lv_aload_n hx hb dX2_fewestSteps_82 rfl (lv_at hl 1 rfl) ?_
              refine lv_iload_n hx hb dX2_fewestSteps_83 rfl (lv_at hl 2 rfl) ?_
              refine lv_iconst (v := 1) hx hb dX2_fewestSteps_84 (by decide) ?_
              refine lv_iadd hx hb dX2_fewestSteps_85 ?_
              refine pc_top (show (nI j) + 1 = nI (j + 1) from nI_add j 1) ?_
              refine lv_iload hx hb dX2_fewestSteps_86 (lv_at hl 4 rfl) ?_
              refine lv_iload hx hb dX2_fewestSteps_88 (lv_at hl 6 rfl) ?_
              refine pc_calli (va_runS (As := [.ref (q 0), .ref ca, .int (nI (j + 1)), .int one, .int (nI n - 4)]) (rest := []) ⟨hx, hb, hml, hown, hts⟩ (mX2_fewest_3 l D cy q h ca ta lo sz tn hls hs4 (j + 1) (by omega) one (nI n - 4)) (va_cwS 5 hts gX2_fewestSteps_X2_fewestSteps rfl rfl rfl (by decide +kernel) ⟨Nat.le_of_ble_eq_true rfl, Nat.le_of_ble_eq_true rfl⟩) ⟨fun a U g mk q => ⟨q.1, q.2.1, va_K.moved (u := U) (U := U.calling g mk a) (Vm.Alike.refl U.vm) q.2.2⟩, fun U hU hW => ⟨rfl, by rw [hU]; exact hP, va_K.moved hW.alike hK⟩⟩ rfl rfl hl.1 rfl (lv_room (Nat.le_of_ble_eq_true rfl)) dX2_fewestSteps_90 ⟨Nat.le_of_ble_eq_true rfl, Nat.le_of_ble_eq_true rfl⟩) (fun r9 hr9 => ?_)
              subst hr9
              refine lv_istore (lv' := [(7, .int (fw h lo tn 3 (j + 1) one (nI n - 4))), (0, .ref (q 0)), (1, .ref ca), (2, .int (nI j)), (3, .int two), (4, .int one), (5, .int (fwF (fwC h lo tn j two one) (fun x => fw h lo tn 3 (j + 1) one x) n)), (6, .int (nI n - 4))]) hx hb dX2_fewestSteps_93 hl (by decide) rfl (fun ls hl => ?_)
              refine lv_iload hx hb dX2_fewestSteps_95 (lv_at hl 6 rfl) ?_
              refine lv_iload hx hb dX2_fewestSteps_97 (lv_at hl 7 rfl) ?_
              refine va_mabs hx hb (by rw [hml]; exact hl.1.symm) hown (hts _ kX2_fewest_4_2) (hts _ kX2_fewest_4_3) (hts _ kX2_fewest_4_4) (hts _ kX2_fewest_4_5) (Nat.le_of_ble_eq_true rfl) (Nat.le_of_ble_eq_true rfl) (Nat.le_of_ble_eq_true rfl) (Nat.le_of_ble_eq_true rfl) dX2_fewestSteps_99 ?_
              refine pc_top (show (if 0 ≤ (nI n - 4) then (nI n - 4) else 0 - (nI n - 4)) = ab (nI n - 4) from rfl) ?_
              refine lv_iload hx hb dX2_fewestSteps_102 (lv_at hl 0 rfl) ?_
              refine lv_iadd hx hb dX2_fewestSteps_104 ?_
              refine va_mmin hx hb (by rw [hml]; exact hl.1.symm) hown (hts _ kX2_fewest_4_6) (hts _ kX2_fewest_4_7) (hts _ kX2_fewest_4_4) (hts _ kX2_fewest_4_8) (Nat.le_of_ble_eq_true rfl) (Nat.le_of_ble_eq_true rfl) (Nat.le_of_ble_eq_true rfl) (Nat.le_of_ble_eq_true rfl) dX2_fewestSteps_105 ?_
              refine pc_top (show (if ((ab (nI n - 4)) + (fw h lo tn 3 (j + 1) one (nI n - 4))) < (fwF (fwC h lo tn j two one) (fun x => fw h lo tn 3 (j + 1) one x) n) then ((ab (nI n - 4)) + (fw h lo tn 3 (j + 1) one (nI n - 4))) else (fwF (fwC h lo tn j two one) (fun x => fw h lo tn 3 (j + 1) one x) n)) = mn (fwF (fwC h lo tn j two one) (fun x => fw h lo tn 3 (j + 1) one x) n) ((ab (nI n - 4)) + (fw h lo tn 3 (j + 1) one (nI n - 4))) from rfl) ?_
              refine lv_istore (lv' := [(5, .int (mn (fwF (fwC h lo tn j two one) (fun x => fw h lo tn 3 (j + 1) one x) n) ((ab (nI n - 4)) + (fw h lo tn 3 (j + 1) one (nI n - 4))))), (7, .int (fw h lo tn 3 (j + 1) one (nI n - 4))), (0, .ref (q 0)), (1, .ref ca), (2, .int (nI j)), (3, .int two), (4, .int one), (6, .int (nI n - 4))]) hx hb dX2_fewestSteps_108 hl (by decide) rfl (fun ls hl => ?_)
              have z9 : fwC h lo tn j two one (nI n - 4) = true := by simp only [fwC, bI_1.mp c57, bI_1.mp c78, Bool.or_true, Bool.and_true]
              have r9 : mn (fwF (fwC h lo tn j two one) (fun x => fw h lo tn 3 (j + 1) one x) n) ((ab (nI n - 4)) + (fw h lo tn 3 (j + 1) one (nI n - 4))) = fwF (fwC h lo tn j two one) (fun x => fw h lo tn 3 (j + 1) one x) (n + 1) := (by simp [fwF, z9])
              rw [r9] at hl
              clear r9
              refine lv_iinc (v := nI (n + 1) - 4) (lv' := [(6, .int (nI (n + 1) - 4)), (5, .int (fwF (fwC h lo tn j two one) (fun x => fw h lo tn 3 (j + 1) one x) (n + 1))), (7, .int (fw h lo tn 3 (j + 1) one (nI n - 4))), (0, .ref (q 0)), (1, .ref ca), (2, .int (nI j)), (3, .int two), (4, .int one)]) hx hb dX2_fewestSteps_110 hl (k := 7) rfl (fw_inc n) (by decide) rfl (fun ls hl => ?_)
              refine lv_goto (tgt := 39) hx hb dX2_fewestSteps_113 (by decide) ?_
              exact ih39 (n + 1) (by omega) (by omega) ls (lv_sub hl [3, 4, 5, 6, 7, 1, 0] rfl)
  exact loop39 (9 + 1) 0 (by decide) (by omega) ls (lv_sub hl [2, 3, 4, 5, 6, 1, 0] rfl)

theorem inX2_steps_RX2 : ∀ w ∈ u_ws RX2 TX2 6, w ∈ wsX2_steps := by decide +kernel
theorem kX2_steps_0 : (.fieldLink RX2 10 "WedgeHarps" "now" "LWedgeHarps$Harp;" : Cond) ∈ wsX2_steps := by decide +kernel
theorem kX2_steps_1 : (.fieldLink RX2 28 "WedgeHarps" "chords" "[LWedgeHarps$Chord;" : Cond) ∈ wsX2_steps := by decide +kernel
set_option maxHeartbeats 4000000 in
set_option maxRecDepth 100000 in
theorem mX2_steps (l : Launch) (hst : l.stackTraces = false) (D : va_G) (cy : Nat → ClassId) (a q q2 ca ta : Nat → Nat) (u : US) (g : HS) (hu : uOk u) (v : Int32) : vx_Met l yX2_steps wsX2_steps ({ frames := 7, cells := 1, slots := 6, locals := 183 } : Room) (va_Pc [.ref (a 0), .int v] (fun U => va_P D vwCl (wX cy a q q2 ca ta u g) U.heap ∧ va_K D vwCl (TY cy) U ∧ xC U U.heap)) (vp_Si (fun r8 => (exC u v = 0) ∧ r8 = fewS u (ix v))) (pX (fun E => E = xn (exC u v) ∧ exC u v ≠ 0)) 1 6 (fun _ => False) := by
  refine vx_ofW (cc := cX2_steps) (maxL := 3) (ret := (some .int)) (by decide) rfl ?_
  intro p e s m args below meth c s₁ B hml hex hv
  obtain ⟨rfl, hP, hK, hX⟩ := hv
  have hx := B.exec
  have hb := B.bytes
  have hr := B.returns
  have hts := atoms_spec (ws := wsX2_steps) B.pre
  have hown : s.vm.findClass RX2 = some m.cls := findClass_of_methodNamed B.named
  have hlocks := B.notSynchronized
  have hl := lv_entry ([.ref (a 0), .int v]) (n := 3) (Nat.le_of_ble_eq_true rfl)
  rw [lg_entry_eq]
  generalize (lg_sl ([.ref (a 0), .int v]) ++ List.replicate (3 - (lg_sl ([.ref (a 0), .int v])).length) Slot.unset).toArray = ls at hl ⊢
  have hl : lv_has ls 3 [(0, .ref (a 0)), (1, .int v)] := hl
  refine lv_aload_n hx hb dX2_steps_0 rfl (lv_at hl 0 rfl) ?_
  refine lv_iload_n hx hb dX2_steps_1 rfl (lv_at hl 1 rfl) ?_
  refine px_callv (vx_runV (As := [.int v]) (rest := []) ⟨hx, hb, hml, hown, hts⟩ (mX2_checkChord l hst D cy a q q2 ca ta u g hu v) (cwV 1 hts gX2_steps_X2_checkChord rfl rfl rfl (by decide +kernel) ⟨Nat.le_of_ble_eq_true rfl, Nat.le_of_ble_eq_true rfl⟩) ⟨fun a U g mk q => ⟨q.1, q.2.1, va_K.moved (u := U) (U := U.calling g mk a) (Vm.Alike.refl U.vm) q.2.2.1, xC.warm (State.WarmedH.refl U) q.2.2.2⟩, va_recv hK hP (ci := 2) (q0 := 0) rfl rfl, fun U hU hW => ⟨rfl, by rw [hU]; exact hP, va_K.moved hW.alike hK, (show xC U U.heap by rw [hU]; exact hX.warm hW)⟩⟩ rfl rfl hl.1 rfl (lv_room (Nat.le_of_ble_eq_true rfl)) dX2_steps_2 ⟨Nat.le_of_ble_eq_true rfl, Nat.le_of_ble_eq_true rfl⟩) (fun E9 ce9 q9 H9 hE9 h19 h29 hce9 hcv9 hcl9 => px_out hex hlocks h19 h29 hce9 hcv9 hcl9 (by simp [exC, xn, hE9.1, hE9.2]) (Nat.le_of_ble_eq_true rfl) (Nat.le_of_ble_eq_true rfl)) (fun hp2 => ?_)
  refine W.widen (k := 1) (n := 6) (Nat.le_of_ble_eq_true rfl) (Nat.le_of_ble_eq_true rfl) ?_
  obtain ⟨j, hj, rfl⟩ := isC_nat hu.2.1 hp2
  have h6 : j < 6 := by have := hu.2.1; omega
  have e9 : ix (nI j) = j := (ix_nI (show j < 2147483648 by omega))
  have hc9 := hu.2.2.1 j h6
  have hz2 := hu.2.2.2.1 j hj
  refine lv_aload_n hx hb dX2_steps_5 rfl (lv_at hl 0 rfl) ?_
  refine va_get (D := D) (ci := 2) (v := .ref (q 0)) (C := RX2) (T := TX2) (N := 6) hx hb hts inX2_steps_RX2 hown hK hP 0 rfl rfl 0 (by decide) (hts _ kX2_steps_0) (fun _ h9 => h9) rfl dX2_steps_6 ?_
  refine lv_aload_n hx hb dX2_steps_9 rfl (lv_at hl 0 rfl) ?_
  refine va_get (D := D) (ci := 2) (v := .ref (a 3)) (C := RX2) (T := TX2) (N := 6) hx hb hts inX2_steps_RX2 hown hK hP 0 rfl rfl 4 (by decide) (hts _ kX2_steps_1) (fun _ h9 => h9) rfl dX2_steps_10 ?_
  refine lv_iload_n hx hb dX2_steps_13 rfl (lv_at hl 1 rfl) ?_
  refine pc_aldq hx hb hK hP 17 2 rfl rfl (k := j) (show j < 6 by omega) (by decide) (v := ca j) rfl dX2_steps_14 ?_
  refine lv_iconst (v := 0) hx hb dX2_steps_15 (by decide) ?_
  refine lv_iconst (v := 0) hx hb dX2_steps_16 (by decide) ?_
  refine lv_iconst (v := 0) hx hb dX2_steps_17 (by decide) ?_
  rcases (show uz u j = 2 ∨ uz u j = 3 ∨ uz u j = 4 by omega) with hz | hz | hz
  · have hPc := wX_ch hP h6
    refine pc_calli (va_runS (As := [.ref (q 0), .ref (ca j), .int 0, .int 0, .int 0]) (rest := []) ⟨hx, hb, hml, hown, hts⟩ (mX2_fewest_2 l D cy q (uh u) (ca j) (ta j) (ul u j) (uz u j) (ut u j) hc9.1 hc9.2 0 (by omega) 0 0) (va_cwS 5 hts gX2_steps_X2_fewestSteps rfl rfl rfl (by decide +kernel) ⟨Nat.le_of_ble_eq_true rfl, Nat.le_of_ble_eq_true rfl⟩) ⟨fun a U g mk q => ⟨q.1, q.2.1, va_K.moved (u := U) (U := U.calling g mk a) (Vm.Alike.refl U.vm) q.2.2⟩, fun U hU hW => ⟨rfl, by rw [hU]; exact hPc, va_K.moved hW.alike hK⟩⟩ rfl rfl hl.1 rfl (lv_room (Nat.le_of_ble_eq_true rfl)) dX2_steps_18 ⟨Nat.le_of_ble_eq_true rfl, Nat.le_of_ble_eq_true rfl⟩) (fun r9 hr9 => ?_)
    subst hr9
    refine lv_istore_n (lv' := [(2, .int (fw (uh u) (ul u j) (ut u j) 2 0 0 0)), (0, .ref (a 0)), (1, .int (nI j))]) hx hb dX2_steps_21 rfl hl (by decide) rfl (fun ls hl => ?_)
    refine lv_iload_n hx hb dX2_steps_22 rfl (lv_at hl 0 rfl) ?_
    refine lv_sipush (v := 1000) hx hb dX2_steps_23 (by decide) ?_
    refine lv_icmp_ge (tgt := 33) hx hb dX2_steps_26 (by decide) (fun c26 => ?_) (fun c26 => ?_)
    · refine lv_iconst (v := (-1)) hx hb dX2_steps_33 (by decide) ?_
      refine vx_ret ?_
      exact W.iret (v := (-1)) hx hb hr (fun t ht hW => ⟨(-1), rfl, ⟨(by simp [exC, hp2]), by rw [e9, fewS, hz, if_pos c26]⟩, ht⟩) (fun q hq => absurd hq List.not_mem_nil) dX2_steps_34
    · refine lv_iload_n hx hb dX2_steps_29 rfl (lv_at hl 0 rfl) ?_
      refine lv_goto (tgt := 34) hx hb dX2_steps_30 (by decide) ?_
      refine vx_ret ?_
      exact W.iret (v := fw (uh u) (ul u j) (ut u j) 2 0 0 0) hx hb hr (fun t ht hW => ⟨fw (uh u) (ul u j) (ut u j) 2 0 0 0, rfl, ⟨(by simp [exC, hp2]), by rw [e9, fewS, hz, if_neg c26]⟩, ht⟩) (fun q hq => absurd hq List.not_mem_nil) dX2_steps_34
  · have hPc := wX_ch hP h6
    refine pc_calli (va_runS (As := [.ref (q 0), .ref (ca j), .int 0, .int 0, .int 0]) (rest := []) ⟨hx, hb, hml, hown, hts⟩ (mX2_fewest_3 l D cy q (uh u) (ca j) (ta j) (ul u j) (uz u j) (ut u j) hc9.1 hc9.2 0 (by omega) 0 0) (va_cwS 5 hts gX2_steps_X2_fewestSteps rfl rfl rfl (by decide +kernel) ⟨Nat.le_of_ble_eq_true rfl, Nat.le_of_ble_eq_true rfl⟩) ⟨fun a U g mk q => ⟨q.1, q.2.1, va_K.moved (u := U) (U := U.calling g mk a) (Vm.Alike.refl U.vm) q.2.2⟩, fun U hU hW => ⟨rfl, by rw [hU]; exact hPc, va_K.moved hW.alike hK⟩⟩ rfl rfl hl.1 rfl (lv_room (Nat.le_of_ble_eq_true rfl)) dX2_steps_18 ⟨Nat.le_of_ble_eq_true rfl, Nat.le_of_ble_eq_true rfl⟩) (fun r9 hr9 => ?_)
    subst hr9
    refine lv_istore_n (lv' := [(2, .int (fw (uh u) (ul u j) (ut u j) 3 0 0 0)), (0, .ref (a 0)), (1, .int (nI j))]) hx hb dX2_steps_21 rfl hl (by decide) rfl (fun ls hl => ?_)
    refine lv_iload_n hx hb dX2_steps_22 rfl (lv_at hl 0 rfl) ?_
    refine lv_sipush (v := 1000) hx hb dX2_steps_23 (by decide) ?_
    refine lv_icmp_ge (tgt := 33) hx hb dX2_steps_26 (by decide) (fun c26 => ?_) (fun c26 => ?_)
    · refine lv_iconst (v := (-1)) hx hb dX2_steps_33 (by decide) ?_
      refine vx_ret ?_
      exact W.iret (v := (-1)) hx hb hr (fun t ht hW => ⟨(-1), rfl, ⟨(by simp [exC, hp2]), by rw [e9, fewS, hz, if_pos c26]⟩, ht⟩) (fun q hq => absurd hq List.not_mem_nil) dX2_steps_34
    · refine lv_iload_n hx hb dX2_steps_29 rfl (lv_at hl 0 rfl) ?_
      refine lv_goto (tgt := 34) hx hb dX2_steps_30 (by decide) ?_
      refine vx_ret ?_
      exact W.iret (v := fw (uh u) (ul u j) (ut u j) 3 0 0 0) hx hb hr (fun t ht hW => ⟨fw (uh u) (ul u j) (ut u j) 3 0 0 0, rfl, ⟨(by simp [exC, hp2]), by rw [e9, fewS, hz, if_neg c26]⟩, ht⟩) (fun q hq => absurd hq List.not_mem_nil) dX2_steps_34
  · have hPc := wX_ch hP h6
    refine pc_calli (va_runS (As := [.ref (q 0), .ref (ca j), .int 0, .int 0, .int 0]) (rest := []) ⟨hx, hb, hml, hown, hts⟩ (mX2_fewest_4 l D cy q (uh u) (ca j) (ta j) (ul u j) (uz u j) (ut u j) hc9.1 hc9.2 0 (by omega) 0 0) (va_cwS 5 hts gX2_steps_X2_fewestSteps rfl rfl rfl (by decide +kernel) ⟨Nat.le_of_ble_eq_true rfl, Nat.le_of_ble_eq_true rfl⟩) ⟨fun a U g mk q => ⟨q.1, q.2.1, va_K.moved (u := U) (U := U.calling g mk a) (Vm.Alike.refl U.vm) q.2.2⟩, fun U hU hW => ⟨rfl, by rw [hU]; exact hPc, va_K.moved hW.alike hK⟩⟩ rfl rfl hl.1 rfl (lv_room (Nat.le_of_ble_eq_true rfl)) dX2_steps_18 ⟨Nat.le_of_ble_eq_true rfl, Nat.le_of_ble_eq_true rfl⟩) (fun r9 hr9 => ?_)
    subst hr9
    refine lv_istore_n (lv' := [(2, .int (fw (uh u) (ul u j) (ut u j) 4 0 0 0)), (0, .ref (a 0)), (1, .int (nI j))]) hx hb dX2_steps_21 rfl hl (by decide) rfl (fun ls hl => ?_)
    refine lv_iload_n hx hb dX2_steps_22 rfl (lv_at hl 0 rfl) ?_
    refine lv_sipush (v := 1000) hx hb dX2_steps_23 (by decide) ?_
    refine lv_icmp_ge (tgt := 33) hx hb dX2_steps_26 (by decide) (fun c26 => ?_) (fun c26 => ?_)
    · refine lv_iconst (v := (-1)) hx hb dX2_steps_33 (by decide) ?_
      refine vx_ret ?_
      exact W.iret (v := (-1)) hx hb hr (fun t ht hW => ⟨(-1), rfl, ⟨(by simp [exC, hp2]), by rw [e9, fewS, hz, if_pos c26]⟩, ht⟩) (fun q hq => absurd hq List.not_mem_nil) dX2_steps_34
    · refine lv_iload_n hx hb dX2_steps_29 rfl (lv_at hl 0 rfl) ?_
      refine lv_goto (tgt := 34) hx hb dX2_steps_30 (by decide) ?_
      refine vx_ret ?_
      exact W.iret (v := fw (uh u) (ul u j) (ut u j) 4 0 0 0) hx hb hr (fun t ht hW => ⟨fw (uh u) (ul u j) (ut u j) 4 0 0 0, rfl, ⟨(by simp [exC, hp2]), by rw [e9, fewS, hz, if_neg c26]⟩, ht⟩) (fun q hq => absurd hq List.not_mem_nil) dX2_steps_34

theorem inX2_mean_RX2 : ∀ w ∈ u_ws RX2 TX2 6, w ∈ wsX2_mean := by decide +kernel
theorem kX2_mean_0 : (.fieldLink RX2 10 "WedgeHarps" "now" "LWedgeHarps$Harp;" : Cond) ∈ wsX2_mean := by decide +kernel
set_option maxHeartbeats 4000000 in
set_option maxRecDepth 100000 in
theorem mX2_mean (l : Launch) (D : va_G) (cy : Nat → ClassId) (a q q2 ca ta : Nat → Nat) (u : US) (g : HS) (hu : uOk u) : Met l yX2_mean wsX2_mean ({ frames := 2, cells := 0, slots := 0, locals := 44 } : Room) (va_Pc [.ref (a 0)] (fun U => va_P D vwCl (wX cy a q q2 ca ta u g) U.heap ∧ va_K D vwCl (TY cy) U)) (vp_Sd (fun r8 => r8 = meanH (uh u))) 0 0 (fun _ => False) := by
  refine Met.ofW (cc := cX2_mean) (maxL := 2) (ret := (some .double)) (by decide) rfl ?_
  intro p e s m args below meth c s₁ B hml hv
  obtain ⟨rfl, hP, hK⟩ := hv
  have hx := B.exec
  have hb := B.bytes
  have hr := B.returns
  have hts := atoms_spec (ws := wsX2_mean) B.pre
  have hown : s.vm.findClass RX2 = some m.cls := findClass_of_methodNamed B.named
  have hlocks := B.notSynchronized
  have hl := lv_entry ([.ref (a 0)]) (n := 2) (Nat.le_of_ble_eq_true rfl)
  rw [lg_entry_eq]
  generalize (lg_sl ([.ref (a 0)]) ++ List.replicate (2 - (lg_sl ([.ref (a 0)])).length) Slot.unset).toArray = ls at hl ⊢
  have hl : lv_has ls 2 [(0, .ref (a 0))] := hl
  refine lv_aload_n hx hb dX2_mean_0 rfl (lv_at hl 0 rfl) ?_
  refine va_get (D := D) (ci := 2) (v := .ref (q 0)) (C := RX2) (T := TX2) (N := 6) hx hb hts inX2_mean_RX2 hown hK hP 0 rfl rfl 0 (by decide) (hts _ kX2_mean_0) (fun _ h9 => h9) rfl dX2_mean_1 ?_
  have hPc := hP.sub (ws' := wH cy q (uh u)) [3, 4, 5, 6, 7, 8, 9] rfl
  refine pc_calli (va_runV (As := []) (rest := []) ⟨hx, hb, hml, hown, hts⟩ (mX1_wholeStrings l D cy q (uh u) hu.1) (cwV 0 hts gX2_mean_X1_wholeStrings rfl rfl rfl (by decide +kernel) ⟨Nat.le_of_ble_eq_true rfl, Nat.le_of_ble_eq_true rfl⟩) ⟨fun a U g mk q => ⟨q.1, q.2.1, va_K.moved (u := U) (U := U.calling g mk a) (Vm.Alike.refl U.vm) q.2.2⟩, va_recv hK hPc (ci := 1) (q0 := 0) rfl rfl, fun U hU hW => ⟨rfl, by rw [hU]; exact hPc, va_K.moved hW.alike hK⟩⟩ rfl rfl hl.1 rfl (lv_room (Nat.le_of_ble_eq_true rfl)) dX2_mean_4 ⟨Nat.le_of_ble_eq_true rfl, Nat.le_of_ble_eq_true rfl⟩) (fun r9 hr9 => ?_)
  subst hr9
  refine lv_istore_n (lv' := [(1, .int (sumN (zo (uh u)) 12)), (0, .ref (a 0))]) hx hb dX2_mean_7 rfl hl (by decide) rfl (fun ls hl => ?_)
  refine lv_iload_n hx hb dX2_mean_8 rfl (lv_at hl 0 rfl) ?_
  refine lv_if_ne (tgt := 16) hx hb dX2_mean_9 (by decide) (fun c9 => ?_) (fun c9 => ?_)
  · refine lv_aload_n hx hb dX2_mean_16 rfl (lv_at hl 1 rfl) ?_
    refine va_get (D := D) (ci := 2) (v := .ref (q 0)) (C := RX2) (T := TX2) (N := 6) hx hb hts inX2_mean_RX2 hown hK hP 0 rfl rfl 0 (by decide) (hts _ kX2_mean_0) (fun _ h9 => h9) rfl dX2_mean_17 ?_
    have hPc := hP.sub (ws' := wH cy q (uh u)) [3, 4, 5, 6, 7, 8, 9] rfl
    refine pc_calli (va_runV (As := []) (rest := []) ⟨hx, hb, hml, hown, hts⟩ (mX1_sumOfTones l D cy q (uh u)) (cwV 0 hts gX2_mean_X1_sumOfTones rfl rfl rfl (by decide +kernel) ⟨Nat.le_of_ble_eq_true rfl, Nat.le_of_ble_eq_true rfl⟩) ⟨fun a U g mk q => ⟨q.1, q.2.1, va_K.moved (u := U) (U := U.calling g mk a) (Vm.Alike.refl U.vm) q.2.2⟩, va_recv hK hPc (ci := 1) (q0 := 0) rfl rfl, fun U hU hW => ⟨rfl, by rw [hU]; exact hPc, va_K.moved hW.alike hK⟩⟩ rfl rfl hl.1 rfl (lv_room (Nat.le_of_ble_eq_true rfl)) dX2_mean_20 ⟨Nat.le_of_ble_eq_true rfl, Nat.le_of_ble_eq_true rfl⟩) (fun r9 hr9 => ?_)
    subst hr9
    refine lv_i2d hx hb dX2_mean_23 ?_
    refine lv_iload_n hx hb dX2_mean_24 rfl (lv_at hl 0 rfl) ?_
    refine lv_i2d hx hb dX2_mean_25 ?_
    refine lv_ddiv hx hb dX2_mean_26 (mean_ok hu.1 c9 _) ?_
    exact W.dret (v := FP.ddiv (FP.i2d (sumN (tone (uh u)) 12)) (FP.i2d (sumN (zo (uh u)) 12))) hx hb hr (fun t ht hW => ⟨FP.ddiv (FP.i2d (sumN (tone (uh u)) 12)) (FP.i2d (sumN (zo (uh u)) 12)), rfl, (by rw [meanH, if_neg c9]), ht⟩) (fun q hq => absurd hq List.not_mem_nil) dX2_mean_27
  · refine lv_dconst0 hx hb dX2_mean_12 ?_
    refine lv_goto (tgt := 27) hx hb dX2_mean_13 (by decide) ?_
    exact W.dret (v := FP.dconst0) hx hb hr (fun t ht hW => ⟨FP.dconst0, rfl, (by rw [meanH, if_pos c9]; rfl), ht⟩) (fun q hq => absurd hq List.not_mem_nil) dX2_mean_27



