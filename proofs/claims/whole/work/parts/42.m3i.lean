theorem inX3_init_RX3 : ∀ w ∈ u_ws RX3 TX3 8, w ∈ wsX3_init := by decide +kernel
theorem kX3_init_0 : (.methodLink RX3 1 objectInit : Cond) ∈ wsX3_init := by decide +kernel
theorem kX3_init_1 : (.instanceMethod objectInit : Cond) ∈ wsX3_init := by decide +kernel
theorem kX3_init_2 : (.code objectInit ⟨#[0xb1]⟩ 1 none : Cond) ∈ wsX3_init := by decide +kernel
theorem kX3_init_3 : (.arrayClass .int : Cond) ∈ wsX3_init := by decide +kernel
theorem kX3_init_4 : (.fieldLink RX3 9 "WedgeHarpsModel" "harp" "[I" : Cond) ∈ wsX3_init := by decide +kernel
theorem kX3_init_5 : (.fieldLink RX3 13 "WedgeHarpsModel" "told" "[I" : Cond) ∈ wsX3_init := by decide +kernel
theorem kX3_init_6 : (.fieldLink RX3 16 "WedgeHarpsModel" "winds" "[I" : Cond) ∈ wsX3_init := by decide +kernel
theorem kX3_init_7 : (.fieldLink RX3 19 "WedgeHarpsModel" "damps" "[I" : Cond) ∈ wsX3_init := by decide +kernel
theorem kX3_init_8 : (.fieldLink RX3 22 "WedgeHarpsModel" "numbers" "[I" : Cond) ∈ wsX3_init := by decide +kernel
theorem kX3_init_9 : (.fieldLink RX3 25 "WedgeHarpsModel" "pushed" "[I" : Cond) ∈ wsX3_init := by decide +kernel
set_option maxHeartbeats 4000000 in
set_option maxRecDepth 100000 in
theorem mX3_init (l : Launch) (D : va_G) (cy : Nat → ClassId) (sz : Nat) (b : Nat) : Met l yX3_init wsX3_init ({ frames := 1, cells := 6, slots := 146, locals := 40 } : Room) (va_Pc [.ref b] (fun U => U.heap.size = sz ∧ va_P D vwCl ([(b, .inr (3, [.int 0, .null, .int 0, .null, .null, .null, .null, .null]))]) U.heap ∧ va_K D vwCl (TY cy) U ∧ va_D (fun _ => True) ([(b, .inr (3, [.int 0, .null, .int 0, .null, .null, .null, .null, .null]))]))) (va_Qv (fun (v9 : Nat → Nat) => v9 0 = b) (fun (v9 : Nat → Nat) t => va_P D vwCl (wM cy v9 uNew 0 pz) t.heap ∧ va_D (va_A ([(b, .inr (3, [.int 0, .null, .int 0, .null, .null, .null, .null, .null]))]) sz) (wM cy v9 uNew 0 pz)) (va_A ([(b, .inr (3, [.int 0, .null, .int 0, .null, .null, .null, .null, .null]))]) sz)) 6 146 (va_A ([(b, .inr (3, [.int 0, .null, .int 0, .null, .null, .null, .null, .null]))]) sz) := by
  refine Met.ofW (cc := cX3_init) (maxL := 2) (ret := none) (by decide) rfl ?_
  intro p e s m args below meth c s₁ B hml hv
  obtain ⟨rfl, hsz, hP, hK, hD0⟩ := hv
  have hx := B.exec
  have hb := B.bytes
  have hr := B.returns
  have hts := atoms_spec (ws := wsX3_init) B.pre
  have hown : s.vm.findClass RX3 = some m.cls := findClass_of_methodNamed B.named
  have hlocks := B.notSynchronized
  have hl := lv_entry ([.ref b]) (n := 2) (Nat.le_of_ble_eq_true rfl)
  rw [lg_entry_eq]
  generalize (lg_sl ([.ref b]) ++ List.replicate (2 - (lg_sl ([.ref b])).length) Slot.unset).toArray = ls at hl ⊢
  have hl : lv_has ls 2 [(0, .ref b)] := hl
  have hin : meth.name = "<init>" := (name_of_methodNamed B.named B.method).1
  subst hsz
  have hD := hD0.self (sz := s.heap.size)
  generalize hAe : va_A ([(b, .inr (3, [.int 0, .null, .int 0, .null, .null, .null, .null, .null]))]) s.heap.size = A at hD ⊢
  have hA : ∀ q : Nat, s.heap.size ≤ q → A q := fun q h => by rw [← hAe]; exact Or.inr h
  have hS : va_S A s.heap s.heap [] := va_S.rf
  have hP : va_P D vwCl ([(b, .inr (3, [.int 0, .null, .int 0, .null, .null, .null, .null, .null]))]) s.heap := hP
  refine lv_aload_n hx hb dX3_init_0 rfl (lv_at hl 0 rfl) ?_
  refine W.objInit hx hb hown (hts _ kX3_init_0) (hts _ kX3_init_1) (hts _ kX3_init_2) rfl (by rw [hml]; exact hl.1) rfl dX3_init_1 (Nat.le_of_ble_eq_true rfl) (Nat.le_of_ble_eq_true rfl) ?_
  refine W.eq (g2 := F0 m 4 ls []) rfl ?_
  refine lv_aload_n hx hb dX3_init_4 rfl (lv_at hl 0 rfl) ?_
  refine lv_bipush (v := 72) hx hb dX3_init_5 (by decide) ?_
  refine pc_newa (atype := .int) (ty := .int) (N' := 72) (a0 := (72, .inl (fun _ => 0))) hx hb (hts _ kX3_init_3) rfl hK hP hD hS hA 0 rfl (fun _ => rfl) (by decide) (by decide) (by decide) (Nat.le_of_ble_eq_true rfl) (Nat.le_of_ble_eq_true rfl) dX3_init_7 (fun r7 H hP hD hS => ?_)
  have hP : va_P D vwCl [(b, .inr (3, [.int 0, .null, .int 0, .null, .null, .null, .null, .null])), (r7, .inl ((cy 0), 72, .inl (fun _ => 0)))] H := hP
  have hD : va_D A [(b, .inr (3, [.int 0, .null, .int 0, .null, .null, .null, .null, .null])), (r7, .inl ((cy 0), 72, .inl (fun _ => 0)))] := hD
  refine W.widen (k := 1) (n := 72) (Nat.le_of_ble_eq_true rfl) (Nat.le_of_ble_eq_true rfl) ?_
  refine va_putF (D := D) (ci := 3) (v := .ref r7) (ty := .array .int) (C := RX3) (T := TX3) (N := 8) hx hb hts inX3_init_RX3 tyX3 tyX3_ok nmX3 hown hK hP hD hS 0 rfl rfl 1 (by decide) (hts _ kX3_init_4) (fun _ h9 => h9) rfl hin rfl (by decide +kernel) rfl rfl (Nat.le_of_ble_eq_true rfl) dX3_init_9 (fun H locs hP hD hS => ?_)
  have hP : va_P D vwCl [(b, .inr (3, [.int 0, .ref r7, .int 0, .null, .null, .null, .null, .null])), (r7, .inl ((cy 0), 72, .inl (fun _ => 0)))] H := hP
  have hD : va_D A [(b, .inr (3, [.int 0, .ref r7, .int 0, .null, .null, .null, .null, .null])), (r7, .inl ((cy 0), 72, .inl (fun _ => 0)))] := hD
  refine lv_aload_n hx hb dX3_init_12 rfl (lv_at hl 0 rfl) ?_
  refine lv_bipush (v := 36) hx hb dX3_init_13 (by decide) ?_
  refine pc_newa (atype := .int) (ty := .int) (N' := 36) (a0 := (36, .inl (fun _ => 0))) hx hb (hts _ kX3_init_3) rfl hK hP hD hS hA 0 rfl (fun _ => rfl) (by decide) (by decide) (by decide) (Nat.le_of_ble_eq_true rfl) (Nat.le_of_ble_eq_true rfl) dX3_init_15 (fun r15 H hP hD hS => ?_)
  have hP : va_P D vwCl [(b, .inr (3, [.int 0, .ref r7, .int 0, .null, .null, .null, .null, .null])), (r7, .inl ((cy 0), 72, .inl (fun _ => 0))), (r15, .inl ((cy 0), 36, .inl (fun _ => 0)))] H := hP
  have hD : va_D A [(b, .inr (3, [.int 0, .ref r7, .int 0, .null, .null, .null, .null, .null])), (r7, .inl ((cy 0), 72, .inl (fun _ => 0))), (r15, .inl ((cy 0), 36, .inl (fun _ => 0)))] := hD
  refine W.widen (k := 2) (n := 108) (Nat.le_of_ble_eq_true rfl) (Nat.le_of_ble_eq_true rfl) ?_
  refine va_putF (D := D) (ci := 3) (v := .ref r15) (ty := .array .int) (C := RX3) (T := TX3) (N := 8) hx hb hts inX3_init_RX3 tyX3 tyX3_ok nmX3 hown hK hP hD hS 0 rfl rfl 3 (by decide) (hts _ kX3_init_5) (fun _ h9 => h9) rfl hin rfl (by decide +kernel) rfl rfl (Nat.le_of_ble_eq_true rfl) dX3_init_17 (fun H locs hP hD hS => ?_)
  have hP : va_P D vwCl [(b, .inr (3, [.int 0, .ref r7, .int 0, .ref r15, .null, .null, .null, .null])), (r7, .inl ((cy 0), 72, .inl (fun _ => 0))), (r15, .inl ((cy 0), 36, .inl (fun _ => 0)))] H := hP
  have hD : va_D A [(b, .inr (3, [.int 0, .ref r7, .int 0, .ref r15, .null, .null, .null, .null])), (r7, .inl ((cy 0), 72, .inl (fun _ => 0))), (r15, .inl ((cy 0), 36, .inl (fun _ => 0)))] := hD
  refine lv_aload_n hx hb dX3_init_20 rfl (lv_at hl 0 rfl) ?_
  refine lv_bipush (v := 12) hx hb dX3_init_21 (by decide) ?_
  refine pc_newa (atype := .int) (ty := .int) (N' := 12) (a0 := (12, .inl (fun _ => 0))) hx hb (hts _ kX3_init_3) rfl hK hP hD hS hA 0 rfl (fun _ => rfl) (by decide) (by decide) (by decide) (Nat.le_of_ble_eq_true rfl) (Nat.le_of_ble_eq_true rfl) dX3_init_23 (fun r23 H hP hD hS => ?_)
  have hP : va_P D vwCl [(b, .inr (3, [.int 0, .ref r7, .int 0, .ref r15, .null, .null, .null, .null])), (r7, .inl ((cy 0), 72, .inl (fun _ => 0))), (r15, .inl ((cy 0), 36, .inl (fun _ => 0))), (r23, .inl ((cy 0), 12, .inl (fun _ => 0)))] H := hP
  have hD : va_D A [(b, .inr (3, [.int 0, .ref r7, .int 0, .ref r15, .null, .null, .null, .null])), (r7, .inl ((cy 0), 72, .inl (fun _ => 0))), (r15, .inl ((cy 0), 36, .inl (fun _ => 0))), (r23, .inl ((cy 0), 12, .inl (fun _ => 0)))] := hD
  refine W.widen (k := 3) (n := 120) (Nat.le_of_ble_eq_true rfl) (Nat.le_of_ble_eq_true rfl) ?_
  refine va_putF (D := D) (ci := 3) (v := .ref r23) (ty := .array .int) (C := RX3) (T := TX3) (N := 8) hx hb hts inX3_init_RX3 tyX3 tyX3_ok nmX3 hown hK hP hD hS 0 rfl rfl 4 (by decide) (hts _ kX3_init_6) (fun _ h9 => h9) rfl hin rfl (by decide +kernel) rfl rfl (Nat.le_of_ble_eq_true rfl) dX3_init_25 (fun H locs hP hD hS => ?_)
  have hP : va_P D vwCl [(b, .inr (3, [.int 0, .ref r7, .int 0, .ref r15, .ref r23, .null, .null, .null])), (r7, .inl ((cy 0), 72, .inl (fun _ => 0))), (r15, .inl ((cy 0), 36, .inl (fun _ => 0))), (r23, .inl ((cy 0), 12, .inl (fun _ => 0)))] H := hP
  have hD : va_D A [(b, .inr (3, [.int 0, .ref r7, .int 0, .ref r15, .ref r23, .null, .null, .null])), (r7, .inl ((cy 0), 72, .inl (fun _ => 0))), (r15, .inl ((cy 0), 36, .inl (fun _ => 0))), (r23, .inl ((cy 0), 12, .inl (fun _ => 0)))] := hD
  refine lv_aload_n hx hb dX3_init_28 rfl (lv_at hl 0 rfl) ?_
  refine lv_bipush (v := 12) hx hb dX3_init_29 (by decide) ?_
  refine pc_newa (atype := .int) (ty := .int) (N' := 12) (a0 := (12, .inl (fun _ => 0))) hx hb (hts _ kX3_init_3) rfl hK hP hD hS hA 0 rfl (fun _ => rfl) (by decide) (by decide) (by decide) (Nat.le_of_ble_eq_true rfl) (Nat.le_of_ble_eq_true rfl) dX3_init_31 (fun r31 H hP hD hS => ?_)
  have hP : va_P D vwCl [(b, .inr (3, [.int 0, .ref r7, .int 0, .ref r15, .ref r23, .null, .null, .null])), (r7, .inl ((cy 0), 72, .inl (fun _ => 0))), (r15, .inl ((cy 0), 36, .inl (fun _ => 0))), (r23, .inl ((cy 0), 12, .inl (fun _ => 0))), (r31, .inl ((cy 0), 12, .inl (fun _ => 0)))] H := hP
  have hD : va_D A [(b, .inr (3, [.int 0, .ref r7, .int 0, .ref r15, .ref r23, .null, .null, .null])), (r7, .inl ((cy 0), 72, .inl (fun _ => 0))), (r15, .inl ((cy 0), 36, .inl (fun _ => 0))), (r23, .inl ((cy 0), 12, .inl (fun _ => 0))), (r31, .inl ((cy 0), 12, .inl (fun _ => 0)))] := hD
  refine W.widen (k := 4) (n := 132) (Nat.le_of_ble_eq_true rfl) (Nat.le_of_ble_eq_true rfl) ?_
  refine va_putF (D := D) (ci := 3) (v := .ref r31) (ty := .array .int) (C := RX3) (T := TX3) (N := 8) hx hb hts inX3_init_RX3 tyX3 tyX3_ok nmX3 hown hK hP hD hS 0 rfl rfl 5 (by decide) (hts _ kX3_init_7) (fun _ h9 => h9) rfl hin rfl (by decide +kernel) rfl rfl (Nat.le_of_ble_eq_true rfl) dX3_init_33 (fun H locs hP hD hS => ?_)
  have hP : va_P D vwCl [(b, .inr (3, [.int 0, .ref r7, .int 0, .ref r15, .ref r23, .ref r31, .null, .null])), (r7, .inl ((cy 0), 72, .inl (fun _ => 0))), (r15, .inl ((cy 0), 36, .inl (fun _ => 0))), (r23, .inl ((cy 0), 12, .inl (fun _ => 0))), (r31, .inl ((cy 0), 12, .inl (fun _ => 0)))] H := hP
  have hD : va_D A [(b, .inr (3, [.int 0, .ref r7, .int 0, .ref r15, .ref r23, .ref r31, .null, .null])), (r7, .inl ((cy 0), 72, .inl (fun _ => 0))), (r15, .inl ((cy 0), 36, .inl (fun _ => 0))), (r23, .inl ((cy 0), 12, .inl (fun _ => 0))), (r31, .inl ((cy 0), 12, .inl (fun _ => 0)))] := hD
  refine lv_aload_n hx hb dX3_init_36 rfl (lv_at hl 0 rfl) ?_
  refine lv_iconst (v := 2) hx hb dX3_init_37 (by decide) ?_
  refine pc_newa (atype := .int) (ty := .int) (N' := 2) (a0 := (2, .inl (fun _ => 0))) hx hb (hts _ kX3_init_3) rfl hK hP hD hS hA 0 rfl (fun _ => rfl) (by decide) (by decide) (by decide) (Nat.le_of_ble_eq_true rfl) (Nat.le_of_ble_eq_true rfl) dX3_init_38 (fun r38 H hP hD hS => ?_)
  have hP : va_P D vwCl [(b, .inr (3, [.int 0, .ref r7, .int 0, .ref r15, .ref r23, .ref r31, .null, .null])), (r7, .inl ((cy 0), 72, .inl (fun _ => 0))), (r15, .inl ((cy 0), 36, .inl (fun _ => 0))), (r23, .inl ((cy 0), 12, .inl (fun _ => 0))), (r31, .inl ((cy 0), 12, .inl (fun _ => 0))), (r38, .inl ((cy 0), 2, .inl (fun _ => 0)))] H := hP
  have hD : va_D A [(b, .inr (3, [.int 0, .ref r7, .int 0, .ref r15, .ref r23, .ref r31, .null, .null])), (r7, .inl ((cy 0), 72, .inl (fun _ => 0))), (r15, .inl ((cy 0), 36, .inl (fun _ => 0))), (r23, .inl ((cy 0), 12, .inl (fun _ => 0))), (r31, .inl ((cy 0), 12, .inl (fun _ => 0))), (r38, .inl ((cy 0), 2, .inl (fun _ => 0)))] := hD
  refine W.widen (k := 5) (n := 134) (Nat.le_of_ble_eq_true rfl) (Nat.le_of_ble_eq_true rfl) ?_
  refine va_putF (D := D) (ci := 3) (v := .ref r38) (ty := .array .int) (C := RX3) (T := TX3) (N := 8) hx hb hts inX3_init_RX3 tyX3 tyX3_ok nmX3 hown hK hP hD hS 0 rfl rfl 6 (by decide) (hts _ kX3_init_8) (fun _ h9 => h9) rfl hin rfl (by decide +kernel) rfl rfl (Nat.le_of_ble_eq_true rfl) dX3_init_40 (fun H locs hP hD hS => ?_)
  have hP : va_P D vwCl [(b, .inr (3, [.int 0, .ref r7, .int 0, .ref r15, .ref r23, .ref r31, .ref r38, .null])), (r7, .inl ((cy 0), 72, .inl (fun _ => 0))), (r15, .inl ((cy 0), 36, .inl (fun _ => 0))), (r23, .inl ((cy 0), 12, .inl (fun _ => 0))), (r31, .inl ((cy 0), 12, .inl (fun _ => 0))), (r38, .inl ((cy 0), 2, .inl (fun _ => 0)))] H := hP
  have hD : va_D A [(b, .inr (3, [.int 0, .ref r7, .int 0, .ref r15, .ref r23, .ref r31, .ref r38, .null])), (r7, .inl ((cy 0), 72, .inl (fun _ => 0))), (r15, .inl ((cy 0), 36, .inl (fun _ => 0))), (r23, .inl ((cy 0), 12, .inl (fun _ => 0))), (r31, .inl ((cy 0), 12, .inl (fun _ => 0))), (r38, .inl ((cy 0), 2, .inl (fun _ => 0)))] := hD
  refine lv_aload_n hx hb dX3_init_43 rfl (lv_at hl 0 rfl) ?_
  refine lv_bipush (v := 12) hx hb dX3_init_44 (by decide) ?_
  refine pc_newa (atype := .int) (ty := .int) (N' := 12) (a0 := (12, .inl (fun _ => 0))) hx hb (hts _ kX3_init_3) rfl hK hP hD hS hA 0 rfl (fun _ => rfl) (by decide) (by decide) (by decide) (Nat.le_of_ble_eq_true rfl) (Nat.le_of_ble_eq_true rfl) dX3_init_46 (fun r46 H hP hD hS => ?_)
  have hP : va_P D vwCl [(b, .inr (3, [.int 0, .ref r7, .int 0, .ref r15, .ref r23, .ref r31, .ref r38, .null])), (r7, .inl ((cy 0), 72, .inl (fun _ => 0))), (r15, .inl ((cy 0), 36, .inl (fun _ => 0))), (r23, .inl ((cy 0), 12, .inl (fun _ => 0))), (r31, .inl ((cy 0), 12, .inl (fun _ => 0))), (r38, .inl ((cy 0), 2, .inl (fun _ => 0))), (r46, .inl ((cy 0), 12, .inl (fun _ => 0)))] H := hP
  have hD : va_D A [(b, .inr (3, [.int 0, .ref r7, .int 0, .ref r15, .ref r23, .ref r31, .ref r38, .null])), (r7, .inl ((cy 0), 72, .inl (fun _ => 0))), (r15, .inl ((cy 0), 36, .inl (fun _ => 0))), (r23, .inl ((cy 0), 12, .inl (fun _ => 0))), (r31, .inl ((cy 0), 12, .inl (fun _ => 0))), (r38, .inl ((cy 0), 2, .inl (fun _ => 0))), (r46, .inl ((cy 0), 12, .inl (fun _ => 0)))] := hD
  refine W.widen (k := 6) (n := 146) (Nat.le_of_ble_eq_true rfl) (Nat.le_of_ble_eq_true rfl) ?_
  refine va_putF (D := D) (ci := 3) (v := .ref r46) (ty := .array .int) (C := RX3) (T := TX3) (N := 8) hx hb hts inX3_init_RX3 tyX3 tyX3_ok nmX3 hown hK hP hD hS 0 rfl rfl 7 (by decide) (hts _ kX3_init_9) (fun _ h9 => h9) rfl hin rfl (by decide +kernel) rfl rfl (Nat.le_of_ble_eq_true rfl) dX3_init_48 (fun H locs hP hD hS => ?_)
  have hP : va_P D vwCl [(b, .inr (3, [.int 0, .ref r7, .int 0, .ref r15, .ref r23, .ref r31, .ref r38, .ref r46])), (r7, .inl ((cy 0), 72, .inl (fun _ => 0))), (r15, .inl ((cy 0), 36, .inl (fun _ => 0))), (r23, .inl ((cy 0), 12, .inl (fun _ => 0))), (r31, .inl ((cy 0), 12, .inl (fun _ => 0))), (r38, .inl ((cy 0), 2, .inl (fun _ => 0))), (r46, .inl ((cy 0), 12, .inl (fun _ => 0)))] H := hP
  have hD : va_D A [(b, .inr (3, [.int 0, .ref r7, .int 0, .ref r15, .ref r23, .ref r31, .ref r38, .ref r46])), (r7, .inl ((cy 0), 72, .inl (fun _ => 0))), (r15, .inl ((cy 0), 36, .inl (fun _ => 0))), (r23, .inl ((cy 0), 12, .inl (fun _ => 0))), (r31, .inl ((cy 0), 12, .inl (fun _ => 0))), (r38, .inl ((cy 0), 2, .inl (fun _ => 0))), (r46, .inl ((cy 0), 12, .inl (fun _ => 0)))] := hD
  have hP := va_P_row hP 1 rfl (g := mh (hI 0)) (fun j hj => mh_0 j)
  have hD := va_D_addr (ws' := [(b, .inr (3, [.int 0, .ref r7, .int 0, .ref r15, .ref r23, .ref r31, .ref r38, .ref r46])), (r7, .inl ((cy 0), 72, .inl (mh (hI 0)))), (r15, .inl ((cy 0), 36, .inl (fun _ => 0))), (r23, .inl ((cy 0), 12, .inl (fun _ => 0))), (r31, .inl ((cy 0), 12, .inl (fun _ => 0))), (r38, .inl ((cy 0), 2, .inl (fun _ => 0))), (r46, .inl ((cy 0), 12, .inl (fun _ => 0)))]) hD rfl
  have hP : va_P D vwCl [(b, .inr (3, [.int 0, .ref r7, .int 0, .ref r15, .ref r23, .ref r31, .ref r38, .ref r46])), (r7, .inl ((cy 0), 72, .inl (mh (hI 0)))), (r15, .inl ((cy 0), 36, .inl (fun _ => 0))), (r23, .inl ((cy 0), 12, .inl (fun _ => 0))), (r31, .inl ((cy 0), 12, .inl (fun _ => 0))), (r38, .inl ((cy 0), 2, .inl (fun _ => 0))), (r46, .inl ((cy 0), 12, .inl (fun _ => 0)))] H := hP
  have hD : va_D A [(b, .inr (3, [.int 0, .ref r7, .int 0, .ref r15, .ref r23, .ref r31, .ref r38, .ref r46])), (r7, .inl ((cy 0), 72, .inl (mh (hI 0)))), (r15, .inl ((cy 0), 36, .inl (fun _ => 0))), (r23, .inl ((cy 0), 12, .inl (fun _ => 0))), (r31, .inl ((cy 0), 12, .inl (fun _ => 0))), (r38, .inl ((cy 0), 2, .inl (fun _ => 0))), (r46, .inl ((cy 0), 12, .inl (fun _ => 0)))] := hD
  have hP := va_P_row hP 2 rfl (g := mt (fun _ => 0) (fun _ => 0) (fun _ _ => 0)) (fun j hj => mt_0 j)
  have hD := va_D_addr (ws' := [(b, .inr (3, [.int 0, .ref r7, .int 0, .ref r15, .ref r23, .ref r31, .ref r38, .ref r46])), (r7, .inl ((cy 0), 72, .inl (mh (hI 0)))), (r15, .inl ((cy 0), 36, .inl (mt (fun _ => 0) (fun _ => 0) (fun _ _ => 0)))), (r23, .inl ((cy 0), 12, .inl (fun _ => 0))), (r31, .inl ((cy 0), 12, .inl (fun _ => 0))), (r38, .inl ((cy 0), 2, .inl (fun _ => 0))), (r46, .inl ((cy 0), 12, .inl (fun _ => 0)))]) hD rfl
  have hP : va_P D vwCl [(b, .inr (3, [.int 0, .ref r7, .int 0, .ref r15, .ref r23, .ref r31, .ref r38, .ref r46])), (r7, .inl ((cy 0), 72, .inl (mh (hI 0)))), (r15, .inl ((cy 0), 36, .inl (mt (fun _ => 0) (fun _ => 0) (fun _ _ => 0)))), (r23, .inl ((cy 0), 12, .inl (fun _ => 0))), (r31, .inl ((cy 0), 12, .inl (fun _ => 0))), (r38, .inl ((cy 0), 2, .inl (fun _ => 0))), (r46, .inl ((cy 0), 12, .inl (fun _ => 0)))] H := hP
  have hD : va_D A [(b, .inr (3, [.int 0, .ref r7, .int 0, .ref r15, .ref r23, .ref r31, .ref r38, .ref r46])), (r7, .inl ((cy 0), 72, .inl (mh (hI 0)))), (r15, .inl ((cy 0), 36, .inl (mt (fun _ => 0) (fun _ => 0) (fun _ _ => 0)))), (r23, .inl ((cy 0), 12, .inl (fun _ => 0))), (r31, .inl ((cy 0), 12, .inl (fun _ => 0))), (r38, .inl ((cy 0), 2, .inl (fun _ => 0))), (r46, .inl ((cy 0), 12, .inl (fun _ => 0)))] := hD
  have hP := va_P_row hP 5 rfl (g := mb (hI 0)) (fun j hj => mb_0 hj)
  have hD := va_D_addr (ws' := [(b, .inr (3, [.int 0, .ref r7, .int 0, .ref r15, .ref r23, .ref r31, .ref r38, .ref r46])), (r7, .inl ((cy 0), 72, .inl (mh (hI 0)))), (r15, .inl ((cy 0), 36, .inl (mt (fun _ => 0) (fun _ => 0) (fun _ _ => 0)))), (r23, .inl ((cy 0), 12, .inl (fun _ => 0))), (r31, .inl ((cy 0), 12, .inl (fun _ => 0))), (r38, .inl ((cy 0), 2, .inl (mb (hI 0)))), (r46, .inl ((cy 0), 12, .inl (fun _ => 0)))]) hD rfl
  have hP : va_P D vwCl [(b, .inr (3, [.int 0, .ref r7, .int 0, .ref r15, .ref r23, .ref r31, .ref r38, .ref r46])), (r7, .inl ((cy 0), 72, .inl (mh (hI 0)))), (r15, .inl ((cy 0), 36, .inl (mt (fun _ => 0) (fun _ => 0) (fun _ _ => 0)))), (r23, .inl ((cy 0), 12, .inl (fun _ => 0))), (r31, .inl ((cy 0), 12, .inl (fun _ => 0))), (r38, .inl ((cy 0), 2, .inl (mb (hI 0)))), (r46, .inl ((cy 0), 12, .inl (fun _ => 0)))] H := hP
  have hD : va_D A [(b, .inr (3, [.int 0, .ref r7, .int 0, .ref r15, .ref r23, .ref r31, .ref r38, .ref r46])), (r7, .inl ((cy 0), 72, .inl (mh (hI 0)))), (r15, .inl ((cy 0), 36, .inl (mt (fun _ => 0) (fun _ => 0) (fun _ _ => 0)))), (r23, .inl ((cy 0), 12, .inl (fun _ => 0))), (r31, .inl ((cy 0), 12, .inl (fun _ => 0))), (r38, .inl ((cy 0), 2, .inl (mb (hI 0)))), (r46, .inl ((cy 0), 12, .inl (fun _ => 0)))] := hD
  have hP : va_P D vwCl (wM cy (adr [b, r7, r15, r23, r31, r38, r46]) (uI 0) 0 pz) H := hP
  have hD : va_D A (wM cy (adr [b, r7, r15, r23, r31, r38, r46]) (uI 0) 0 pz) := hD
  refine lv_iconst (v := 0) hx hb dX3_init_51 (by decide) ?_
  refine lv_istore_n (lv' := [(1, .int 0), (0, .ref b)]) hx hb dX3_init_52 rfl hl (by decide) rfl (fun ls hl => ?_)
  have loop53 : ∀ (n9 : Nat) (k : Nat), k ≤ 12 → 12 - k < n9 → ∀ (H : Heap) (locs : List Loc), va_P D vwCl (wM cy (adr [b, r7, r15, r23, r31, r38, r46]) (uI k) 0 pz) H → va_D A (wM cy (adr [b, r7, r15, r23, r31, r38, r46]) (uI k) 0 pz) → va_S A s.heap H locs → ∀ ls : Array Slot, lv_has ls 2 [(0, .ref b), (1, .int (nI k))] → W p l e (headSpec wsX3_init ({ frames := 1, cells := 6, slots := 146, locals := 40 } : Room)).room s m ([.ref b] : List Value).toArray below meth c H locs 6 146 (MQ below (va_Qv (fun (v9 : Nat → Nat) => v9 0 = b) (fun (v9 : Nat → Nat) t => va_P D vwCl (wM cy v9 uNew 0 pz) t.heap ∧ va_D A (wM cy v9 uNew 0 pz)) A) ([.ref b] : List Value).toArray s 6 146 A) (F0 m 53 ls []) := by
    intro n9
    induction n9 with
    | zero => intro k hk h9 H locs hP hD hS ls hl; exact absurd h9 (by omega)
    | succ n9 ih53 =>
      intro k hk h9 H locs hP hD hS ls hl
      refine lv_iload_n hx hb dX3_init_53 rfl (lv_at hl 1 rfl) ?_
      refine lv_bipush (v := 12) hx hb dX3_init_54 (by decide) ?_
      refine lv_icmp_ge (tgt := 86) hx hb dX3_init_56 (by decide) (fun c56 => ?_) (fun c56 => ?_)
      · have n56 : 12 ≤ k := (nI_leI (a := 12) (b := k) (by omega) (by omega)).mp c56
        have e9 : (wM cy (adr [b, r7, r15, r23, r31, r38, r46]) (uI k) 0 pz : va_W) = (wM cy (adr [b, r7, r15, r23, r31, r38, r46]) (uI 12) 0 pz) := (by rw [show k = 12 by omega])
        have hP : va_P D vwCl (wM cy (adr [b, r7, r15, r23, r31, r38, r46]) (uI 12) 0 pz) H := e9 ▸ hP
        have hD : va_D A (wM cy (adr [b, r7, r15, r23, r31, r38, r46]) (uI 12) 0 pz) := e9 ▸ hD
        clear e9
        have hP := va_P_row hP 1 rfl (g := mh hNew) (fun j hj => mh_12 hj)
        have hD := va_D_addr (ws' := [(b, .inr (3, [.int 0, .ref r7, .int (nI (un (uI 12))), .ref r15, .ref r23, .ref r31, .ref r38, .ref r46])), (r7, .inl ((cy 0), 72, .inl (mh hNew))), (r15, .inl ((cy 0), 36, .inl (mt (ul (uI 12)) (uz (uI 12)) (ut (uI 12))))), (r23, .inl ((cy 0), 12, .inl (uw (uI 12)))), (r31, .inl ((cy 0), 12, .inl (ud (uI 12)))), (r38, .inl ((cy 0), 2, .inl (mb (uh (uI 12))))), (r46, .inl ((cy 0), 12, .inl pz))]) hD rfl
        have hP : va_P D vwCl [(b, .inr (3, [.int 0, .ref r7, .int (nI (un (uI 12))), .ref r15, .ref r23, .ref r31, .ref r38, .ref r46])), (r7, .inl ((cy 0), 72, .inl (mh hNew))), (r15, .inl ((cy 0), 36, .inl (mt (ul (uI 12)) (uz (uI 12)) (ut (uI 12))))), (r23, .inl ((cy 0), 12, .inl (uw (uI 12)))), (r31, .inl ((cy 0), 12, .inl (ud (uI 12)))), (r38, .inl ((cy 0), 2, .inl (mb (uh (uI 12))))), (r46, .inl ((cy 0), 12, .inl pz))] H := hP
        have hD : va_D A [(b, .inr (3, [.int 0, .ref r7, .int (nI (un (uI 12))), .ref r15, .ref r23, .ref r31, .ref r38, .ref r46])), (r7, .inl ((cy 0), 72, .inl (mh hNew))), (r15, .inl ((cy 0), 36, .inl (mt (ul (uI 12)) (uz (uI 12)) (ut (uI 12))))), (r23, .inl ((cy 0), 12, .inl (uw (uI 12)))), (r31, .inl ((cy 0), 12, .inl (ud (uI 12)))), (r38, .inl ((cy 0), 2, .inl (mb (uh (uI 12))))), (r46, .inl ((cy 0), 12, .inl pz))] := hD
        have hP := va_P_row hP 5 rfl (g := mb hNew) (fun j hj => mb_12 hj)
        have hD := va_D_addr (ws' := [(b, .inr (3, [.int 0, .ref r7, .int (nI (un (uI 12))), .ref r15, .ref r23, .ref r31, .ref r38, .ref r46])), (r7, .inl ((cy 0), 72, .inl (mh hNew))), (r15, .inl ((cy 0), 36, .inl (mt (ul (uI 12)) (uz (uI 12)) (ut (uI 12))))), (r23, .inl ((cy 0), 12, .inl (uw (uI 12)))), (r31, .inl ((cy 0), 12, .inl (ud (uI 12)))), (r38, .inl ((cy 0), 2, .inl (mb hNew))), (r46, .inl ((cy 0), 12, .inl pz))]) hD rfl
        have hP : va_P D vwCl [(b, .inr (3, [.int 0, .ref r7, .int (nI (un (uI 12))), .ref r15, .ref r23, .ref r31, .ref r38, .ref r46])), (r7, .inl ((cy 0), 72, .inl (mh hNew))), (r15, .inl ((cy 0), 36, .inl (mt (ul (uI 12)) (uz (uI 12)) (ut (uI 12))))), (r23, .inl ((cy 0), 12, .inl (uw (uI 12)))), (r31, .inl ((cy 0), 12, .inl (ud (uI 12)))), (r38, .inl ((cy 0), 2, .inl (mb hNew))), (r46, .inl ((cy 0), 12, .inl pz))] H := hP
        have hD : va_D A [(b, .inr (3, [.int 0, .ref r7, .int (nI (un (uI 12))), .ref r15, .ref r23, .ref r31, .ref r38, .ref r46])), (r7, .inl ((cy 0), 72, .inl (mh hNew))), (r15, .inl ((cy 0), 36, .inl (mt (ul (uI 12)) (uz (uI 12)) (ut (uI 12))))), (r23, .inl ((cy 0), 12, .inl (uw (uI 12)))), (r31, .inl ((cy 0), 12, .inl (ud (uI 12)))), (r38, .inl ((cy 0), 2, .inl (mb hNew))), (r46, .inl ((cy 0), 12, .inl pz))] := hD
        have hP9 : va_P D vwCl (wM cy (adr [b, r7, r15, r23, r31, r38, r46]) uNew 0 pz) H := hP
        have hD9 : va_D A (wM cy (adr [b, r7, r15, r23, r31, r38, r46]) uNew 0 pz) := hD
        exact W.vret hx hb hr (fun t ht hW => ⟨⟨(adr [b, r7, r15, r23, r31, r38, r46]), rfl, rfl, by rw [ht]; exact hP9, hD9⟩, hS.F ht⟩) hS.2.2 dX3_init_86
      · have n56 : ¬ (12 ≤ k) := fun h9 => c56 ((nI_leI (a := 12) (b := k) (by omega) (by omega)).mpr h9)
        refine lv_aload_n hx hb dX3_init_59 rfl (lv_at hl 0 rfl) ?_
        refine lv_iload_n hx hb dX3_init_60 rfl (lv_at hl 1 rfl) ?_
        refine lv_iconst (v := 0) hx hb dX3_init_61 (by decide) ?_
        refine lv_sipush (v := 300) hx hb dX3_init_62 (by decide) ?_
        refine lv_bipush (v := 20) hx hb dX3_init_65 (by decide) ?_
        refine lv_iload_n hx hb dX3_init_67 rfl (lv_at hl 1 rfl) ?_
        refine lv_imul hx hb dX3_init_68 ?_
        refine pc_top (show 20 * (nI k) = nI (20 * k) from pk_mul 20 k) ?_
        refine lv_iadd hx hb dX3_init_69 ?_
        refine pc_top (show 300 + (nI (20 * k)) = nI (300 + 20 * k) from nI_add 300 (20 * k)) ?_
        have hPc := hP.sub (ws' := wM cy (adr [b, r7, r15, r23, r31, r38, r46]) (uI k) 0 pz) [0, 1, 2, 3, 4, 5, 6] rfl
        have hDc := hD.sub (ws' := wM cy (adr [b, r7, r15, r23, r31, r38, r46]) (uI k) 0 pz) [0, 1, 2, 3, 4, 5, 6] (by decide) rfl
        have hFc := va_free (wc := wM cy (adr [b, r7, r15, r23, r31, r38, r46]) (uI k) 0 pz) hD hS hA [0, 1, 2, 3, 4, 5, 6] rfl
        refine va_callv (va_runV (As := [.int (nI k), .int 0, .int (nI (300 + 20 * k))]) (rest := []) ⟨hx, hb, hml, hown, hts⟩ (mX3_put l D cy H.size (adr [b, r7, r15, r23, r31, r38, r46]) (uI k) 0 pz k 0 (by omega) (by decide) (nI (300 + 20 * k))) (cwV 3 hts gX3_init_X3_put rfl rfl rfl (by decide +kernel) ⟨Nat.le_of_ble_eq_true rfl, Nat.le_of_ble_eq_true rfl⟩) ⟨fun a U g mk q => ⟨q.1, q.2.1, q.2.2.1, va_K.moved (u := U) (U := U.calling g mk a) (Vm.Alike.refl U.vm) q.2.2.2.1, q.2.2.2.2⟩, va_recv hK hPc (ci := 3) (q0 := 0) rfl rfl, fun U hU hW => ⟨rfl, by rw [hU], by rw [hU]; exact hPc, va_K.moved hW.alike hK, hDc.weaken (fun _ _ _ _ => trivial)⟩⟩ rfl rfl hl.1 rfl (lv_room (Nat.le_of_ble_eq_true rfl)) dX3_init_70 ⟨Nat.le_of_ble_eq_true rfl, Nat.le_of_ble_eq_true rfl⟩) hS (fun q _ h => hFc q h) hFc (fun u9 t9 H1 locs ht9 hvm9 hw9 hB9 hz9 hk9 hS => ?_)
        obtain ⟨hP1, hD1⟩ := hB9
        rw [ht9] at hP1
        obtain ⟨hP, hD⟩ := va_join (wr := []) (w1 := wM cy (adr [b, r7, r15, r23, r31, r38, r46]) (uH (uI k) (putH (hI k) k 0 (nI (300 + 20 * k)))) 0 pz) hP hD [0, 1, 2, 3, 4, 5, 6] [] rfl rfl (by decide) (by decide) hk9 hFc hP1 hD1
        generalize H1 = H at hP hS ⊢
        have hP : va_P D vwCl (wM cy (adr [b, r7, r15, r23, r31, r38, r46]) (uH (uI k) (putH (hI k) k 0 (nI (300 + 20 * k)))) 0 pz) H := hP.sub [0, 1, 2, 3, 4, 5, 6] rfl
        have hD : va_D A (wM cy (adr [b, r7, r15, r23, r31, r38, r46]) (uH (uI k) (putH (hI k) k 0 (nI (300 + 20 * k)))) 0 pz) := hD.sub [0, 1, 2, 3, 4, 5, 6] (by decide) rfl
        clear hP1 hD1 hk9 hz9 ht9 hvm9 hPc hDc hFc
        refine lv_aload_n hx hb dX3_init_73 rfl (lv_at hl 0 rfl) ?_
        refine lv_iload_n hx hb dX3_init_74 rfl (lv_at hl 1 rfl) ?_
        refine lv_iconst (v := 4) hx hb dX3_init_75 (by decide) ?_
        refine lv_iconst (v := 1) hx hb dX3_init_76 (by decide) ?_
        have hPc := hP.sub (ws' := wM cy (adr [b, r7, r15, r23, r31, r38, r46]) (uH (uI k) (putH (hI k) k 0 (nI (300 + 20 * k)))) 0 pz) [0, 1, 2, 3, 4, 5, 6] rfl
        have hDc := hD.sub (ws' := wM cy (adr [b, r7, r15, r23, r31, r38, r46]) (uH (uI k) (putH (hI k) k 0 (nI (300 + 20 * k)))) 0 pz) [0, 1, 2, 3, 4, 5, 6] (by decide) rfl
        have hFc := va_free (wc := wM cy (adr [b, r7, r15, r23, r31, r38, r46]) (uH (uI k) (putH (hI k) k 0 (nI (300 + 20 * k)))) 0 pz) hD hS hA [0, 1, 2, 3, 4, 5, 6] rfl
        refine va_callv (va_runV (As := [.int (nI k), .int 4, .int 1]) (rest := []) ⟨hx, hb, hml, hown, hts⟩ (mX3_put l D cy H.size (adr [b, r7, r15, r23, r31, r38, r46]) (uH (uI k) (putH (hI k) k 0 (nI (300 + 20 * k)))) 0 pz k 4 (by omega) (by decide) 1) (cwV 3 hts gX3_init_X3_put rfl rfl rfl (by decide +kernel) ⟨Nat.le_of_ble_eq_true rfl, Nat.le_of_ble_eq_true rfl⟩) ⟨fun a U g mk q => ⟨q.1, q.2.1, q.2.2.1, va_K.moved (u := U) (U := U.calling g mk a) (Vm.Alike.refl U.vm) q.2.2.2.1, q.2.2.2.2⟩, va_recv hK hPc (ci := 3) (q0 := 0) rfl rfl, fun U hU hW => ⟨rfl, by rw [hU], by rw [hU]; exact hPc, va_K.moved hW.alike hK, hDc.weaken (fun _ _ _ _ => trivial)⟩⟩ rfl rfl hl.1 rfl (lv_room (Nat.le_of_ble_eq_true rfl)) dX3_init_77 ⟨Nat.le_of_ble_eq_true rfl, Nat.le_of_ble_eq_true rfl⟩) hS (fun q _ h => hFc q h) hFc (fun u9 t9 H1 locs ht9 hvm9 hw9 hB9 hz9 hk9 hS => ?_)
        obtain ⟨hP1, hD1⟩ := hB9
        rw [ht9] at hP1
        obtain ⟨hP, hD⟩ := va_join (wr := []) (w1 := wM cy (adr [b, r7, r15, r23, r31, r38, r46]) (uH (uI k) (putH (putH (hI k) k 0 (nI (300 + 20 * k))) k 4 1)) 0 pz) hP hD [0, 1, 2, 3, 4, 5, 6] [] rfl rfl (by decide) (by decide) hk9 hFc hP1 hD1
        generalize H1 = H at hP hS ⊢
        have hP : va_P D vwCl (wM cy (adr [b, r7, r15, r23, r31, r38, r46]) (uH (uI k) (putH (putH (hI k) k 0 (nI (300 + 20 * k))) k 4 1)) 0 pz) H := hP.sub [0, 1, 2, 3, 4, 5, 6] rfl
        have hD : va_D A (wM cy (adr [b, r7, r15, r23, r31, r38, r46]) (uH (uI k) (putH (putH (hI k) k 0 (nI (300 + 20 * k))) k 4 1)) 0 pz) := hD.sub [0, 1, 2, 3, 4, 5, 6] (by decide) rfl
        clear hP1 hD1 hk9 hz9 ht9 hvm9 hPc hDc hFc
        have e9 : (wM cy (adr [b, r7, r15, r23, r31, r38, r46]) (uH (uI k) (putH (putH (hI k) k 0 (nI (300 + 20 * k))) k 4 1)) 0 pz : va_W) = (wM cy (adr [b, r7, r15, r23, r31, r38, r46]) (uI (k + 1)) 0 pz) := (by rw [hI_step]; rfl)
        have hP : va_P D vwCl (wM cy (adr [b, r7, r15, r23, r31, r38, r46]) (uI (k + 1)) 0 pz) H := e9 ▸ hP
        have hD : va_D A (wM cy (adr [b, r7, r15, r23, r31, r38, r46]) (uI (k + 1)) 0 pz) := e9 ▸ hD
        clear e9
        refine lv_iinc (v := nI (k + 1)) (lv' := [(1, .int (nI (k + 1))), (0, .ref b)]) hx hb dX3_init_80 hl (k := 1) rfl ((show (nI k) + Int32.ofInt 1 = (nI k) + 1 from rfl).trans (show (nI k) + 1 = nI (k + 1) from nI_add k 1)) (by decide) rfl (fun ls hl => ?_)
        refine lv_goto (tgt := 53) hx hb dX3_init_83 (by decide) ?_
        exact ih53 (k + 1) (by omega) (by omega) _ _ hP hD hS ls (lv_sub hl [1, 0] rfl)
  exact loop53 (12 + 1) 0 (by decide) (by omega) _ _ hP hD hS ls (lv_sub hl [1, 0] rfl)

