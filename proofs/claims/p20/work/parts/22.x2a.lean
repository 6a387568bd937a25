theorem xgX2_checkString_77 : ∀ w ∈ (vx_atS RX2 77 xI xNm).filter goodWord, w ∈ wsX2_checkString := by decide +kernel
theorem kX2_checkString_0 : (.classLink RX2 73 xI : Cond) ∈ wsX2_checkString := by decide +kernel
theorem kX2_checkString_1 : (.initialized xI : Cond) ∈ wsX2_checkString := by decide +kernel
set_option maxHeartbeats 4000000 in
set_option maxRecDepth 100000 in
theorem mX2_checkString (l : Launch) (hst : l.stackTraces = false) (D : va_G) (cy : Nat → ClassId) (k : Int32) : vx_Met l yX2_checkString wsX2_checkString ({ frames := 6, cells := 1, slots := 6, locals := 82 } : Room) (va_Pc [.int k] (fun U => xC U U.heap)) (pQv (isS k = true)) (pX (fun E => E = xI ∧ isS k = false)) 1 6 (fun _ => False) := by
  refine vx_ofW (cc := cX2_checkString) (maxL := 1) (ret := none) (by decide) rfl ?_
  intro p e s m args below meth c s₁ B hml hex hv
  obtain ⟨rfl, hX⟩ := hv
  have hx := B.exec
  have hb := B.bytes
  have hr := B.returns
  have hts := atoms_spec (ws := wsX2_checkString) B.pre
  have hown : s.vm.findClass RX2 = some m.cls := findClass_of_methodNamed B.named
  have hlocks := B.notSynchronized
  have hl := lv_entry ([.int k]) (n := 1) (Nat.le_of_ble_eq_true rfl)
  rw [lg_entry_eq]
  generalize (lg_sl ([.int k]) ++ List.replicate (1 - (lg_sl ([.int k])).length) Slot.unset).toArray = ls at hl ⊢
  have hl : lv_has ls 1 [(0, .int k)] := hl
  refine lv_iload_n hx hb dX2_checkString_0 rfl (lv_at hl 0 rfl) ?_
  refine lv_if_lt (tgt := 10) hx hb dX2_checkString_1 (by decide) (fun c1 => ?_) (fun c1 => ?_)
  · exact px_throwS (ik := 73) (is := 174) (ic := 77) (cls := xI) (text := "a string is not 0 to 11") hx hb hst hown xf_I (by decide) (hts _ kX2_checkString_0) (hts _ kX2_checkString_1) (fun w hw => hts w (xgX2_checkString_77 w hw)) xb_77 xo_77 hX (by decide) rfl rfl (by rw [hml]; exact hl.1) dX2_checkString_10 dX2_checkString_13 dX2_checkString_14 dX2_checkString_16 dX2_checkString_19 hex (Nat.le_of_ble_eq_true rfl) (Nat.le_of_ble_eq_true rfl) (Nat.le_of_ble_eq_true rfl) (Nat.le_of_ble_eq_true rfl) hlocks ⟨rfl, (by simp [isS, c1])⟩ (Nat.le_of_ble_eq_true rfl) (Nat.le_of_ble_eq_true rfl)
  · refine lv_iload_n hx hb dX2_checkString_4 rfl (lv_at hl 0 rfl) ?_
    refine lv_bipush (v := 12) hx hb dX2_checkString_5 (by decide) ?_
    refine lv_icmp_lt (tgt := 20) hx hb dX2_checkString_7 (by decide) (fun c7 => ?_) (fun c7 => ?_)
    · refine vx_ret ?_
      refine W.widen (k := 1) (n := 6) (Nat.le_of_ble_eq_true rfl) (Nat.le_of_ble_eq_true rfl) ?_
      exact W.vret hx hb hr (fun t ht hW => ⟨rfl, (by simp [isS, c1, c7]), ht⟩) (fun q hq => absurd hq List.not_mem_nil) dX2_checkString_20
    · exact px_throwS (ik := 73) (is := 174) (ic := 77) (cls := xI) (text := "a string is not 0 to 11") hx hb hst hown xf_I (by decide) (hts _ kX2_checkString_0) (hts _ kX2_checkString_1) (fun w hw => hts w (xgX2_checkString_77 w hw)) xb_77 xo_77 hX (by decide) rfl rfl (by rw [hml]; exact hl.1) dX2_checkString_10 dX2_checkString_13 dX2_checkString_14 dX2_checkString_16 dX2_checkString_19 hex (Nat.le_of_ble_eq_true rfl) (Nat.le_of_ble_eq_true rfl) (Nat.le_of_ble_eq_true rfl) (Nat.le_of_ble_eq_true rfl) hlocks ⟨rfl, (by simp [isS, c1, c7])⟩ (Nat.le_of_ble_eq_true rfl) (Nat.le_of_ble_eq_true rfl)

theorem xgX2_checkWedgeSteps_48 : ∀ w ∈ (vx_atS RX2 48 xA xNm).filter goodWord, w ∈ wsX2_checkWedgeSteps := by decide +kernel
theorem kX2_checkWedgeSteps_0 : (.classLink RX2 44 xA : Cond) ∈ wsX2_checkWedgeSteps := by decide +kernel
theorem kX2_checkWedgeSteps_1 : (.initialized xA : Cond) ∈ wsX2_checkWedgeSteps := by decide +kernel
set_option maxHeartbeats 4000000 in
set_option maxRecDepth 100000 in
theorem mX2_checkWedgeSteps (l : Launch) (hst : l.stackTraces = false) (D : va_G) (cy : Nat → ClassId) (v : Int32) : vx_Met l yX2_checkWedgeSteps wsX2_checkWedgeSteps ({ frames := 6, cells := 1, slots := 6, locals := 82 } : Room) (va_Pc [.int v] (fun U => xC U U.heap)) (pQv (isW v = true)) (pX (fun E => E = xA ∧ isW v = false)) 1 6 (fun _ => False) := by
  refine vx_ofW (cc := cX2_checkWedgeSteps) (maxL := 1) (ret := none) (by decide) rfl ?_
  intro p e s m args below meth c s₁ B hml hex hv
  obtain ⟨rfl, hX⟩ := hv
  have hx := B.exec
  have hb := B.bytes
  have hr := B.returns
  have hts := atoms_spec (ws := wsX2_checkWedgeSteps) B.pre
  have hown : s.vm.findClass RX2 = some m.cls := findClass_of_methodNamed B.named
  have hlocks := B.notSynchronized
  have hl := lv_entry ([.int v]) (n := 1) (Nat.le_of_ble_eq_true rfl)
  rw [lg_entry_eq]
  generalize (lg_sl ([.int v]) ++ List.replicate (1 - (lg_sl ([.int v])).length) Slot.unset).toArray = ls at hl ⊢
  have hl : lv_has ls 1 [(0, .int v)] := hl
  refine lv_iload_n hx hb dX2_checkWedgeSteps_0 rfl (lv_at hl 0 rfl) ?_
  refine lv_bipush (v := (-20)) hx hb dX2_checkWedgeSteps_1 (by decide) ?_
  refine lv_icmp_lt (tgt := 12) hx hb dX2_checkWedgeSteps_3 (by decide) (fun c3 => ?_) (fun c3 => ?_)
  · exact px_throwS (ik := 44) (is := 176) (ic := 48) (cls := xA) (text := "the steps are not -20 to 20") hx hb hst hown xf_A (by decide) (hts _ kX2_checkWedgeSteps_0) (hts _ kX2_checkWedgeSteps_1) (fun w hw => hts w (xgX2_checkWedgeSteps_48 w hw)) xb_48 xo_48 hX (by decide) rfl rfl (by rw [hml]; exact hl.1) dX2_checkWedgeSteps_12 dX2_checkWedgeSteps_15 dX2_checkWedgeSteps_16 dX2_checkWedgeSteps_18 dX2_checkWedgeSteps_21 hex (Nat.le_of_ble_eq_true rfl) (Nat.le_of_ble_eq_true rfl) (Nat.le_of_ble_eq_true rfl) (Nat.le_of_ble_eq_true rfl) hlocks ⟨rfl, (by simp [isW, c3])⟩ (Nat.le_of_ble_eq_true rfl) (Nat.le_of_ble_eq_true rfl)
  · refine lv_iload_n hx hb dX2_checkWedgeSteps_6 rfl (lv_at hl 0 rfl) ?_
    refine lv_bipush (v := 20) hx hb dX2_checkWedgeSteps_7 (by decide) ?_
    refine lv_icmp_le (tgt := 22) hx hb dX2_checkWedgeSteps_9 (by decide) (fun c9 => ?_) (fun c9 => ?_)
    · refine vx_ret ?_
      refine W.widen (k := 1) (n := 6) (Nat.le_of_ble_eq_true rfl) (Nat.le_of_ble_eq_true rfl) ?_
      exact W.vret hx hb hr (fun t ht hW => ⟨rfl, (by simp [isW, c3, c9]), ht⟩) (fun q hq => absurd hq List.not_mem_nil) dX2_checkWedgeSteps_22
    · exact px_throwS (ik := 44) (is := 176) (ic := 48) (cls := xA) (text := "the steps are not -20 to 20") hx hb hst hown xf_A (by decide) (hts _ kX2_checkWedgeSteps_0) (hts _ kX2_checkWedgeSteps_1) (fun w hw => hts w (xgX2_checkWedgeSteps_48 w hw)) xb_48 xo_48 hX (by decide) rfl rfl (by rw [hml]; exact hl.1) dX2_checkWedgeSteps_12 dX2_checkWedgeSteps_15 dX2_checkWedgeSteps_16 dX2_checkWedgeSteps_18 dX2_checkWedgeSteps_21 hex (Nat.le_of_ble_eq_true rfl) (Nat.le_of_ble_eq_true rfl) (Nat.le_of_ble_eq_true rfl) (Nat.le_of_ble_eq_true rfl) hlocks ⟨rfl, (by simp [isW, c3, c9])⟩ (Nat.le_of_ble_eq_true rfl) (Nat.le_of_ble_eq_true rfl)

theorem xgX2_checkTone_48 : ∀ w ∈ (vx_atS RX2 48 xA xNm).filter goodWord, w ∈ wsX2_checkTone := by decide +kernel
theorem kX2_checkTone_0 : (.classLink RX2 44 xA : Cond) ∈ wsX2_checkTone := by decide +kernel
theorem kX2_checkTone_1 : (.initialized xA : Cond) ∈ wsX2_checkTone := by decide +kernel
set_option maxHeartbeats 4000000 in
set_option maxRecDepth 100000 in
theorem mX2_checkTone (l : Launch) (hst : l.stackTraces = false) (D : va_G) (cy : Nat → ClassId) (v w : Int32) : vx_Met l yX2_checkTone wsX2_checkTone ({ frames := 6, cells := 1, slots := 6, locals := 82 } : Room) (va_Pc [.int v, .int w] (fun U => xC U U.heap)) (pQv (isT v w = true)) (pX (fun E => E = xA ∧ isT v w = false)) 1 6 (fun _ => False) := by
  refine vx_ofW (cc := cX2_checkTone) (maxL := 2) (ret := none) (by decide) rfl ?_
  intro p e s m args below meth c s₁ B hml hex hv
  obtain ⟨rfl, hX⟩ := hv
  have hx := B.exec
  have hb := B.bytes
  have hr := B.returns
  have hts := atoms_spec (ws := wsX2_checkTone) B.pre
  have hown : s.vm.findClass RX2 = some m.cls := findClass_of_methodNamed B.named
  have hlocks := B.notSynchronized
  have hl := lv_entry ([.int v, .int w]) (n := 2) (Nat.le_of_ble_eq_true rfl)
  rw [lg_entry_eq]
  generalize (lg_sl ([.int v, .int w]) ++ List.replicate (2 - (lg_sl ([.int v, .int w])).length) Slot.unset).toArray = ls at hl ⊢
  have hl : lv_has ls 2 [(0, .int v), (1, .int w)] := hl
  refine lv_iload_n hx hb dX2_checkTone_0 rfl (lv_at hl 0 rfl) ?_
  refine lv_iload_n hx hb dX2_checkTone_1 rfl (lv_at hl 1 rfl) ?_
  refine lv_icmp_lt (tgt := 12) hx hb dX2_checkTone_2 (by decide) (fun c2 => ?_) (fun c2 => ?_)
  · exact px_throwS (ik := 44) (is := 178) (ic := 48) (cls := xA) (text := "a tone is too small, or more than 1500") hx hb hst hown xf_A (by decide) (hts _ kX2_checkTone_0) (hts _ kX2_checkTone_1) (fun w hw => hts w (xgX2_checkTone_48 w hw)) xb_48 xo_48 hX (by decide) rfl rfl (by rw [hml]; exact hl.1) dX2_checkTone_12 dX2_checkTone_15 dX2_checkTone_16 dX2_checkTone_18 dX2_checkTone_21 hex (Nat.le_of_ble_eq_true rfl) (Nat.le_of_ble_eq_true rfl) (Nat.le_of_ble_eq_true rfl) (Nat.le_of_ble_eq_true rfl) hlocks ⟨rfl, (by simp [isT, c2])⟩ (Nat.le_of_ble_eq_true rfl) (Nat.le_of_ble_eq_true rfl)
  · refine lv_iload_n hx hb dX2_checkTone_5 rfl (lv_at hl 0 rfl) ?_
    refine lv_sipush (v := 1500) hx hb dX2_checkTone_6 (by decide) ?_
    refine lv_icmp_le (tgt := 22) hx hb dX2_checkTone_9 (by decide) (fun c9 => ?_) (fun c9 => ?_)
    · refine vx_ret ?_
      refine W.widen (k := 1) (n := 6) (Nat.le_of_ble_eq_true rfl) (Nat.le_of_ble_eq_true rfl) ?_
      exact W.vret hx hb hr (fun t ht hW => ⟨rfl, (by simp [isT, c2, c9]), ht⟩) (fun q hq => absurd hq List.not_mem_nil) dX2_checkTone_22
    · exact px_throwS (ik := 44) (is := 178) (ic := 48) (cls := xA) (text := "a tone is too small, or more than 1500") hx hb hst hown xf_A (by decide) (hts _ kX2_checkTone_0) (hts _ kX2_checkTone_1) (fun w hw => hts w (xgX2_checkTone_48 w hw)) xb_48 xo_48 hX (by decide) rfl rfl (by rw [hml]; exact hl.1) dX2_checkTone_12 dX2_checkTone_15 dX2_checkTone_16 dX2_checkTone_18 dX2_checkTone_21 hex (Nat.le_of_ble_eq_true rfl) (Nat.le_of_ble_eq_true rfl) (Nat.le_of_ble_eq_true rfl) (Nat.le_of_ble_eq_true rfl) hlocks ⟨rfl, (by simp [isT, c2, c9])⟩ (Nat.le_of_ble_eq_true rfl) (Nat.le_of_ble_eq_true rfl)

theorem xgX2_checkHours_48 : ∀ w ∈ (vx_atS RX2 48 xA xNm).filter goodWord, w ∈ wsX2_checkHours := by decide +kernel
theorem kX2_checkHours_0 : (.classLink RX2 44 xA : Cond) ∈ wsX2_checkHours := by decide +kernel
theorem kX2_checkHours_1 : (.initialized xA : Cond) ∈ wsX2_checkHours := by decide +kernel
set_option maxHeartbeats 4000000 in
set_option maxRecDepth 100000 in
theorem mX2_checkHours (l : Launch) (hst : l.stackTraces = false) (D : va_G) (cy : Nat → ClassId) (v : Int32) : vx_Met l yX2_checkHours wsX2_checkHours ({ frames := 6, cells := 1, slots := 6, locals := 82 } : Room) (va_Pc [.int v] (fun U => xC U U.heap)) (pQv (isH v = true)) (pX (fun E => E = xA ∧ isH v = false)) 1 6 (fun _ => False) := by
  refine vx_ofW (cc := cX2_checkHours) (maxL := 1) (ret := none) (by decide) rfl ?_
  intro p e s m args below meth c s₁ B hml hex hv
  obtain ⟨rfl, hX⟩ := hv
  have hx := B.exec
  have hb := B.bytes
  have hr := B.returns
  have hts := atoms_spec (ws := wsX2_checkHours) B.pre
  have hown : s.vm.findClass RX2 = some m.cls := findClass_of_methodNamed B.named
  have hlocks := B.notSynchronized
  have hl := lv_entry ([.int v]) (n := 1) (Nat.le_of_ble_eq_true rfl)
  rw [lg_entry_eq]
  generalize (lg_sl ([.int v]) ++ List.replicate (1 - (lg_sl ([.int v])).length) Slot.unset).toArray = ls at hl ⊢
  have hl : lv_has ls 1 [(0, .int v)] := hl
  refine lv_iload_n hx hb dX2_checkHours_0 rfl (lv_at hl 0 rfl) ?_
  refine lv_iconst (v := 1) hx hb dX2_checkHours_1 (by decide) ?_
  refine lv_icmp_lt (tgt := 12) hx hb dX2_checkHours_2 (by decide) (fun c2 => ?_) (fun c2 => ?_)
  · exact px_throwS (ik := 44) (is := 180) (ic := 48) (cls := xA) (text := "the hours are not 1 to 200") hx hb hst hown xf_A (by decide) (hts _ kX2_checkHours_0) (hts _ kX2_checkHours_1) (fun w hw => hts w (xgX2_checkHours_48 w hw)) xb_48 xo_48 hX (by decide) rfl rfl (by rw [hml]; exact hl.1) dX2_checkHours_12 dX2_checkHours_15 dX2_checkHours_16 dX2_checkHours_18 dX2_checkHours_21 hex (Nat.le_of_ble_eq_true rfl) (Nat.le_of_ble_eq_true rfl) (Nat.le_of_ble_eq_true rfl) (Nat.le_of_ble_eq_true rfl) hlocks ⟨rfl, (by simp [isH, c2])⟩ (Nat.le_of_ble_eq_true rfl) (Nat.le_of_ble_eq_true rfl)
  · refine lv_iload_n hx hb dX2_checkHours_5 rfl (lv_at hl 0 rfl) ?_
    refine lv_sipush (v := 200) hx hb dX2_checkHours_6 (by decide) ?_
    refine lv_icmp_le (tgt := 22) hx hb dX2_checkHours_9 (by decide) (fun c9 => ?_) (fun c9 => ?_)
    · refine vx_ret ?_
      refine W.widen (k := 1) (n := 6) (Nat.le_of_ble_eq_true rfl) (Nat.le_of_ble_eq_true rfl) ?_
      exact W.vret hx hb hr (fun t ht hW => ⟨rfl, (by simp [isH, c2, c9]), ht⟩) (fun q hq => absurd hq List.not_mem_nil) dX2_checkHours_22
    · exact px_throwS (ik := 44) (is := 180) (ic := 48) (cls := xA) (text := "the hours are not 1 to 200") hx hb hst hown xf_A (by decide) (hts _ kX2_checkHours_0) (hts _ kX2_checkHours_1) (fun w hw => hts w (xgX2_checkHours_48 w hw)) xb_48 xo_48 hX (by decide) rfl rfl (by rw [hml]; exact hl.1) dX2_checkHours_12 dX2_checkHours_15 dX2_checkHours_16 dX2_checkHours_18 dX2_checkHours_21 hex (Nat.le_of_ble_eq_true rfl) (Nat.le_of_ble_eq_true rfl) (Nat.le_of_ble_eq_true rfl) (Nat.le_of_ble_eq_true rfl) hlocks ⟨rfl, (by simp [isH, c2, c9])⟩ (Nat.le_of_ble_eq_true rfl) (Nat.le_of_ble_eq_true rfl)

theorem inX2_checkChord_RX2 : ∀ w ∈ u_ws RX2 TX2 6, w ∈ wsX2_checkChord := by decide +kernel
theorem xgX2_checkChord_77 : ∀ w ∈ (vx_atS RX2 77 xI xNm).filter goodWord, w ∈ wsX2_checkChord := by decide +kernel
theorem kX2_checkChord_0 : (.classLink RX2 73 xI : Cond) ∈ wsX2_checkChord := by decide +kernel
theorem kX2_checkChord_1 : (.initialized xI : Cond) ∈ wsX2_checkChord := by decide +kernel
theorem kX2_checkChord_2 : (.fieldLink RX2 33 "WedgeHarps" "told" "I" : Cond) ∈ wsX2_checkChord := by decide +kernel
set_option maxHeartbeats 4000000 in
set_option maxRecDepth 100000 in
theorem mX2_checkChord (l : Launch) (hst : l.stackTraces = false) (D : va_G) (cy : Nat → ClassId) (a q q2 ca ta : Nat → Nat) (u : US) (g : HS) (hu : uOk u) (v : Int32) : vx_Met l yX2_checkChord wsX2_checkChord ({ frames := 6, cells := 1, slots := 6, locals := 82 } : Room) (va_Pc [.ref (a 0), .int v] (fun U => va_P D vwCl (wX cy a q q2 ca ta u g) U.heap ∧ va_K D vwCl (TY cy) U ∧ xC U U.heap)) (pQv (isC u v = true)) (pX (fun E => E = xI ∧ isC u v = false)) 1 6 (fun _ => False) := by
  refine vx_ofW (cc := cX2_checkChord) (maxL := 2) (ret := none) (by decide) rfl ?_
  intro p e s m args below meth c s₁ B hml hex hv
  obtain ⟨rfl, hP, hK, hX⟩ := hv
  have hx := B.exec
  have hb := B.bytes
  have hr := B.returns
  have hts := atoms_spec (ws := wsX2_checkChord) B.pre
  have hown : s.vm.findClass RX2 = some m.cls := findClass_of_methodNamed B.named
  have hlocks := B.notSynchronized
  have hl := lv_entry ([.ref (a 0), .int v]) (n := 2) (Nat.le_of_ble_eq_true rfl)
  rw [lg_entry_eq]
  generalize (lg_sl ([.ref (a 0), .int v]) ++ List.replicate (2 - (lg_sl ([.ref (a 0), .int v])).length) Slot.unset).toArray = ls at hl ⊢
  have hl : lv_has ls 2 [(0, .ref (a 0)), (1, .int v)] := hl
  refine lv_iload_n hx hb dX2_checkChord_0 rfl (lv_at hl 1 rfl) ?_
  refine lv_if_lt (tgt := 12) hx hb dX2_checkChord_1 (by decide) (fun c1 => ?_) (fun c1 => ?_)
  · exact px_throwS (ik := 73) (is := 182) (ic := 77) (cls := xI) (text := "there is no such chord") hx hb hst hown xf_I (by decide) (hts _ kX2_checkChord_0) (hts _ kX2_checkChord_1) (fun w hw => hts w (xgX2_checkChord_77 w hw)) xb_77 xo_77 hX (by decide) rfl rfl (by rw [hml]; exact hl.1) dX2_checkChord_12 dX2_checkChord_15 dX2_checkChord_16 dX2_checkChord_18 dX2_checkChord_21 hex (Nat.le_of_ble_eq_true rfl) (Nat.le_of_ble_eq_true rfl) (Nat.le_of_ble_eq_true rfl) (Nat.le_of_ble_eq_true rfl) hlocks ⟨rfl, (by simp [isC, c1])⟩ (Nat.le_of_ble_eq_true rfl) (Nat.le_of_ble_eq_true rfl)
  · refine lv_iload_n hx hb dX2_checkChord_4 rfl (lv_at hl 1 rfl) ?_
    refine lv_aload_n hx hb dX2_checkChord_5 rfl (lv_at hl 0 rfl) ?_
    refine va_get (D := D) (ci := 2) (v := .int (nI (un u))) (C := RX2) (T := TX2) (N := 6) hx hb hts inX2_checkChord_RX2 hown hK hP 0 rfl rfl 5 (by decide) (hts _ kX2_checkChord_2) (fun _ h9 => h9) rfl dX2_checkChord_6 ?_
    refine lv_icmp_lt (tgt := 22) hx hb dX2_checkChord_9 (by decide) (fun c9 => ?_) (fun c9 => ?_)
    · refine vx_ret ?_
      refine W.widen (k := 1) (n := 6) (Nat.le_of_ble_eq_true rfl) (Nat.le_of_ble_eq_true rfl) ?_
      exact W.vret hx hb hr (fun t ht hW => ⟨rfl, (by simp [isC, c1, c9]), ht⟩) (fun q hq => absurd hq List.not_mem_nil) dX2_checkChord_22
    · exact px_throwS (ik := 73) (is := 182) (ic := 77) (cls := xI) (text := "there is no such chord") hx hb hst hown xf_I (by decide) (hts _ kX2_checkChord_0) (hts _ kX2_checkChord_1) (fun w hw => hts w (xgX2_checkChord_77 w hw)) xb_77 xo_77 hX (by decide) rfl rfl (by rw [hml]; exact hl.1) dX2_checkChord_12 dX2_checkChord_15 dX2_checkChord_16 dX2_checkChord_18 dX2_checkChord_21 hex (Nat.le_of_ble_eq_true rfl) (Nat.le_of_ble_eq_true rfl) (Nat.le_of_ble_eq_true rfl) (Nat.le_of_ble_eq_true rfl) hlocks ⟨rfl, (by simp [isC, c1, c9])⟩ (Nat.le_of_ble_eq_true rfl) (Nat.le_of_ble_eq_true rfl)

theorem inX2_weatherAt_RX2 : ∀ w ∈ u_ws RX2 TX2 6, w ∈ wsX2_weatherAt := by decide +kernel
theorem kX2_weatherAt_0 : (.fieldLink RX2 19 "WedgeHarps" "windTable" "[I" : Cond) ∈ wsX2_weatherAt := by decide +kernel
theorem kX2_weatherAt_1 : (.fieldLink RX2 23 "WedgeHarps" "dampTable" "[I" : Cond) ∈ wsX2_weatherAt := by decide +kernel
set_option maxHeartbeats 4000000 in
set_option maxRecDepth 100000 in
theorem mX2_weatherAt (l : Launch) (D : va_G) (cy : Nat → ClassId) (a q q2 ca ta : Nat → Nat) (u : US) (g : HS) (hu : uOk u) (k : Nat) (hk : k < 12) : Met l yX2_weatherAt wsX2_weatherAt ({ frames := 0, cells := 0, slots := 0, locals := 0 } : Room) (va_Pc [.ref (a 0), .int (nI k)] (fun U => va_P D vwCl (wX cy a q q2 ca ta u g) U.heap ∧ va_K D vwCl (TY cy) U)) (vp_Si (fun r8 => r8 = wea u k)) 0 0 (fun _ => False) := by
  refine Met.ofW (cc := cX2_weatherAt) (maxL := 2) (ret := (some .int)) (by decide) rfl ?_
  intro p e s m args below meth c s₁ B hml hv
  obtain ⟨rfl, hP, hK⟩ := hv
  have hx := B.exec
  have hb := B.bytes
  have hr := B.returns
  have hts := atoms_spec (ws := wsX2_weatherAt) B.pre
  have hown : s.vm.findClass RX2 = some m.cls := findClass_of_methodNamed B.named
  have hlocks := B.notSynchronized
  have hl := lv_entry ([.ref (a 0), .int (nI k)]) (n := 2) (Nat.le_of_ble_eq_true rfl)
  rw [lg_entry_eq]
  generalize (lg_sl ([.ref (a 0), .int (nI k)]) ++ List.replicate (2 - (lg_sl ([.ref (a 0), .int (nI k)])).length) Slot.unset).toArray = ls at hl ⊢
  have hl : lv_has ls 2 [(0, .ref (a 0)), (1, .int (nI k))] := hl
  refine lv_bipush (v := 10) hx hb dX2_weatherAt_0 (by decide) ?_
  refine lv_aload_n hx hb dX2_weatherAt_2 rfl (lv_at hl 0 rfl) ?_
  refine va_get (D := D) (ci := 2) (v := .ref (a 1)) (C := RX2) (T := TX2) (N := 6) hx hb hts inX2_weatherAt_RX2 hown hK hP 0 rfl rfl 2 (by decide) (hts _ kX2_weatherAt_0) (fun _ h9 => h9) rfl dX2_weatherAt_3 ?_
  refine lv_iload_n hx hb dX2_weatherAt_6 rfl (lv_at hl 1 rfl) ?_
  refine pc_iald hx hb hK hP 1 0 rfl rfl (k := k) (show k < 12 by omega) (by decide) dX2_weatherAt_7 ?_
  refine lv_imul hx hb dX2_weatherAt_8 ?_
  refine lv_aload_n hx hb dX2_weatherAt_9 rfl (lv_at hl 0 rfl) ?_
  refine va_get (D := D) (ci := 2) (v := .ref (a 2)) (C := RX2) (T := TX2) (N := 6) hx hb hts inX2_weatherAt_RX2 hown hK hP 0 rfl rfl 3 (by decide) (hts _ kX2_weatherAt_1) (fun _ h9 => h9) rfl dX2_weatherAt_10 ?_
  refine lv_iload_n hx hb dX2_weatherAt_13 rfl (lv_at hl 1 rfl) ?_
  refine pc_iald hx hb hK hP 2 0 rfl rfl (k := k) (show k < 12 by omega) (by decide) dX2_weatherAt_14 ?_
  refine lv_iadd hx hb dX2_weatherAt_15 ?_
  exact W.iret (v := (10 * ((uw u) k)) + ((ud u) k)) hx hb hr (fun t ht hW => ⟨(10 * ((uw u) k)) + ((ud u) k), rfl, rfl, ht⟩) (fun q hq => absurd hq List.not_mem_nil) dX2_weatherAt_16

set_option maxHeartbeats 4000000 in
set_option maxRecDepth 100000 in
theorem mX2_sumOf (l : Launch) (D : va_G) (cy : Nat → ClassId) (b : Nat) (f : Nat → Int32) : Met l yX2_sumOf wsX2_sumOf ({ frames := 0, cells := 0, slots := 0, locals := 0 } : Room) (va_Pc [.ref b] (fun U => va_P D vwCl ([(b, .inl (cy 0, 12, .inl f))]) U.heap ∧ va_K D vwCl (TY cy) U)) (vp_Si (fun r8 => r8 = sumN f 12)) 0 0 (fun _ => False) := by
  refine Met.ofW (cc := cX2_sumOf) (maxL := 6) (ret := (some .int)) (by decide) rfl ?_
  intro p e s m args below meth c s₁ B hml hv
  obtain ⟨rfl, hP, hK⟩ := hv
  have hx := B.exec
  have hb := B.bytes
  have hr := B.returns
  have hts := atoms_spec (ws := wsX2_sumOf) B.pre
  have hown : s.vm.findClass RX2 = some m.cls := findClass_of_methodNamed B.named
  have hlocks := B.notSynchronized
  have hl := lv_entry ([.ref b]) (n := 6) (Nat.le_of_ble_eq_true rfl)
  rw [lg_entry_eq]
  generalize (lg_sl ([.ref b]) ++ List.replicate (6 - (lg_sl ([.ref b])).length) Slot.unset).toArray = ls at hl ⊢
  have hl : lv_has ls 6 [(0, .ref b)] := hl
  refine lv_iconst (v := 0) hx hb dX2_sumOf_0 (by decide) ?_
  refine lv_istore_n (lv' := [(1, .int 0), (0, .ref b)]) hx hb dX2_sumOf_1 rfl hl (by decide) rfl (fun ls hl => ?_)
  refine lv_aload_n hx hb dX2_sumOf_2 rfl (lv_at hl 1 rfl) ?_
  refine lv_astore_n (lv' := [(2, .ref b), (1, .int 0), (0, .ref b)]) hx hb dX2_sumOf_3 rfl hl (by decide) rfl (fun ls hl => ?_)
  refine lv_aload_n hx hb dX2_sumOf_4 rfl (lv_at hl 0 rfl) ?_
  refine va_alen hx hb hK hP 0 0 rfl rfl (v := 12) rfl dX2_sumOf_5 ?_
  refine lv_istore_n (lv' := [(3, .int 12), (2, .ref b), (1, .int 0), (0, .ref b)]) hx hb dX2_sumOf_6 rfl hl (by decide) rfl (fun ls hl => ?_)
  refine lv_iconst (v := 0) hx hb dX2_sumOf_7 (by decide) ?_
  refine lv_istore (lv' := [(4, .int 0), (3, .int 12), (2, .ref b), (1, .int 0), (0, .ref b)]) hx hb dX2_sumOf_8 hl (by decide) rfl (fun ls hl => ?_)
  have loop10 : ∀ (n9 : Nat) (k : Nat), k ≤ 12 → 12 - k < n9 → ∀ ls : Array Slot, lv_has ls 6 [(1, .int (sumN f k)), (2, .ref b), (3, .int 12), (4, .int (nI k))] → W p l e (headSpec wsX2_sumOf ({ frames := 0, cells := 0, slots := 0, locals := 0 } : Room)).room s m ([.ref b] : List Value).toArray below meth c s.heap [] 0 0 (MQ below (vp_Si (fun r8 => r8 = sumN f 12)) ([.ref b] : List Value).toArray s 0 0 (fun _ => False)) (F0 m 10 ls []) := by
    intro n9
    induction n9 with
    | zero => intro k hk h9 ls hl; exact absurd h9 (by omega)
    | succ n9 ih10 =>
      intro k hk h9 ls hl
      refine lv_iload hx hb dX2_sumOf_10 (lv_at hl 3 rfl) ?_
      refine lv_iload_n hx hb dX2_sumOf_12 rfl (lv_at hl 2 rfl) ?_
      refine lv_icmp_ge (tgt := 33) hx hb dX2_sumOf_13 (by decide) (fun c13 => ?_) (fun c13 => ?_)
      · have n13 : 12 ≤ k := (nI_leI (a := 12) (b := k) (by omega) (by omega)).mp c13
        refine lv_iload_n hx hb dX2_sumOf_33 rfl (lv_at hl 0 rfl) ?_
        exact W.iret (v := sumN f k) hx hb hr (fun t ht hW => ⟨sumN f k, rfl, (by rw [show k = 12 by omega]), ht⟩) (fun q hq => absurd hq List.not_mem_nil) dX2_sumOf_34
      · have n13 : ¬ (12 ≤ k) := fun h9 => c13 ((nI_leI (a := 12) (b := k) (by omega) (by omega)).mpr h9)
        refine lv_aload_n hx hb dX2_sumOf_16 rfl (lv_at hl 1 rfl) ?_
        refine lv_iload hx hb dX2_sumOf_17 (lv_at hl 3 rfl) ?_
        refine pc_iald hx hb hK hP 0 0 rfl rfl (k := k) (show k < 12 by omega) (by decide) dX2_sumOf_19 ?_
        refine lv_istore (lv' := [(5, .int (f k)), (1, .int (sumN f k)), (2, .ref b), (3, .int 12), (4, .int (nI k))]) hx hb dX2_sumOf_20 hl (by decide) rfl (fun ls hl => ?_)
        refine lv_iload_n hx hb dX2_sumOf_22 rfl (lv_at hl 1 rfl) ?_
        refine lv_iload hx hb dX2_sumOf_23 (lv_at hl 0 rfl) ?_
        refine lv_iadd hx hb dX2_sumOf_25 ?_
        refine lv_istore_n (lv' := [(1, .int ((sumN f k) + (f k))), (5, .int (f k)), (2, .ref b), (3, .int 12), (4, .int (nI k))]) hx hb dX2_sumOf_26 rfl hl (by decide) rfl (fun ls hl => ?_)
        refine lv_iinc (v := nI (k + 1)) (lv' := [(4, .int (nI (k + 1))), (1, .int ((sumN f k) + (f k))), (5, .int (f k)), (2, .ref b), (3, .int 12)]) hx hb dX2_sumOf_27 hl (k := 4) rfl ((show (nI k) + Int32.ofInt 1 = (nI k) + 1 from rfl).trans (show (nI k) + 1 = nI (k + 1) from nI_add k 1)) (by decide) rfl (fun ls hl => ?_)
        refine lv_goto (tgt := 10) hx hb dX2_sumOf_30 (by decide) ?_
        exact ih10 (k + 1) (by omega) (by omega) ls (lv_sub hl [1, 3, 4, 0] rfl)
  exact loop10 (12 + 1) 0 (by decide) (by omega) ls (lv_sub hl [3, 2, 1, 0] rfl)

theorem inX2_push_RX1 : ∀ w ∈ u_ws RX1 TX1 8, w ∈ wsX2_push := by decide +kernel
theorem inX2_push_RX2 : ∀ w ∈ u_ws RX2 TX2 6, w ∈ wsX2_push := by decide +kernel
theorem xgX2_push_48 : ∀ w ∈ (vx_atS RX2 48 xA xNm).filter goodWord, w ∈ wsX2_push := by decide +kernel
theorem xgX2_push_59 : ∀ w ∈ (vx_atS RX2 59 xT xNm).filter goodWord, w ∈ wsX2_push := by decide +kernel
theorem kX2_push_0 : (.fieldLink RX2 10 "WedgeHarps" "now" "LWedgeHarps$Harp;" : Cond) ∈ wsX2_push := by decide +kernel
theorem kX2_push_1 : (.fieldLink RX2 60 "WedgeHarps$Harp" "wedge" "[I" : Cond) ∈ wsX2_push := by decide +kernel
theorem kX2_push_2 : (.classLink RX2 55 xT : Cond) ∈ wsX2_push := by decide +kernel
theorem kX2_push_3 : (.initialized xT : Cond) ∈ wsX2_push := by decide +kernel
theorem kX2_push_4 : (.classLink RX2 44 xA : Cond) ∈ wsX2_push := by decide +kernel
theorem kX2_push_5 : (.initialized xA : Cond) ∈ wsX2_push := by decide +kernel
set_option maxHeartbeats 4000000 in
set_option maxRecDepth 100000 in
theorem mX2_push (l : Launch) (hst : l.stackTraces = false) (D : va_G) (cy : Nat → ClassId) (sz : Nat) (a q q2 ca ta : Nat → Nat) (u : US) (g : HS) (hu : uOk u) (k v : Int32) : vx_Met l yX2_push wsX2_push ({ frames := 7, cells := 3, slots := 18, locals := 102 } : Room) (va_Pc [.ref (a 0), .int k, .int v] (fun U => U.heap.size = sz ∧ va_P D vwCl (wX cy a q q2 ca ta u g) U.heap ∧ va_K D vwCl (TY cy) U ∧ va_D (fun _ => True) (wX cy a q q2 ca ta u g) ∧ xC U U.heap)) (va_Qi (fun (r8 : Int32) (_ : Unit) => (exPush u k v = 0) ∧ r8 = tone (hPush (uh u) (ix k) v) (ix k)) (fun (_ : Unit) t => va_P D vwCl (wX cy a q q2 ca ta (uH u (hPush (uh u) (ix k) v)) g) t.heap ∧ va_D (va_A (wX cy a q q2 ca ta u g) sz) (wX cy a q q2 ca ta (uH u (hPush (uh u) (ix k) v)) g)) (va_A (wX cy a q q2 ca ta u g) sz)) (pX (fun E => E = xn (exPush u k v) ∧ exPush u k v ≠ 0)) 3 18 (va_A (wX cy a q q2 ca ta u g) sz) := by
  refine vx_ofW (cc := cX2_push) (maxL := 3) (ret := (some .int)) (by decide) rfl ?_
  intro p e s m args below meth c s₁ B hml hex hv
  obtain ⟨rfl, hsz, hP, hK, hD0, hX⟩ := hv
  have hx := B.exec
  have hb := B.bytes
  have hr := B.returns
  have hts := atoms_spec (ws := wsX2_push) B.pre
  have hown : s.vm.findClass RX2 = some m.cls := findClass_of_methodNamed B.named
  have hlocks := B.notSynchronized
  have hl := lv_entry ([.ref (a 0), .int k, .int v]) (n := 3) (Nat.le_of_ble_eq_true rfl)
  rw [lg_entry_eq]
  generalize (lg_sl ([.ref (a 0), .int k, .int v]) ++ List.replicate (3 - (lg_sl ([.ref (a 0), .int k, .int v])).length) Slot.unset).toArray = ls at hl ⊢
  have hl : lv_has ls 3 [(0, .ref (a 0)), (1, .int k), (2, .int v)] := hl
  subst hsz
  have hD := hD0.self (sz := s.heap.size)
  generalize hAe : va_A (wX cy a q q2 ca ta u g) s.heap.size = A at hD ⊢
  have hA : ∀ q : Nat, s.heap.size ≤ q → A q := fun q h => by rw [← hAe]; exact Or.inr h
  have hS : va_S A s.heap s.heap [] := va_S.rf
  have hP : va_P D vwCl (wX cy a q q2 ca ta u g) s.heap := hP
  refine lv_iload_n hx hb dX2_push_0 rfl (lv_at hl 1 rfl) ?_
  refine px_callv (vx_runS (As := [.int k]) (rest := []) ⟨hx, hb, hml, hown, hts⟩ (mX2_checkString l hst D cy k) (va_cwS 1 hts gX2_push_X2_checkString rfl rfl rfl (by decide +kernel) ⟨Nat.le_of_ble_eq_true rfl, Nat.le_of_ble_eq_true rfl⟩) ⟨fun a U g mk q => ⟨q.1, xC.warm (State.WarmedH.refl U) q.2⟩, fun U hU hW => ⟨rfl, (show xC U U.heap by rw [hU]; exact hX.warm hW)⟩⟩ rfl rfl hl.1 rfl (lv_room (Nat.le_of_ble_eq_true rfl)) dX2_push_1 ⟨Nat.le_of_ble_eq_true rfl, Nat.le_of_ble_eq_true rfl⟩) (fun E9 ce9 q9 H9 hE9 h19 h29 hce9 hcv9 hcl9 => px_out hex hlocks h19 h29 hce9 hcv9 hcl9 (by simp [exPush, xn, hE9.1, hE9.2]) (Nat.le_of_ble_eq_true rfl) (Nat.le_of_ble_eq_true rfl)) (fun hp1 => ?_)
  refine W.widen (k := 1) (n := 6) (Nat.le_of_ble_eq_true rfl) (Nat.le_of_ble_eq_true rfl) ?_
  refine lv_iload_n hx hb dX2_push_4 rfl (lv_at hl 2 rfl) ?_
  refine px_callv (vx_runS (As := [.int v]) (rest := []) ⟨hx, hb, hml, hown, hts⟩ (mX2_checkWedgeSteps l hst D cy v) (va_cwS 1 hts gX2_push_X2_checkWedgeSteps rfl rfl rfl (by decide +kernel) ⟨Nat.le_of_ble_eq_true rfl, Nat.le_of_ble_eq_true rfl⟩) ⟨fun a U g mk q => ⟨q.1, xC.warm (State.WarmedH.refl U) q.2⟩, fun U hU hW => ⟨rfl, (show xC U U.heap by rw [hU]; exact hX.warm hW)⟩⟩ rfl rfl hl.1 rfl (lv_room (Nat.le_of_ble_eq_true rfl)) dX2_push_5 ⟨Nat.le_of_ble_eq_true rfl, Nat.le_of_ble_eq_true rfl⟩) (fun E9 ce9 q9 H9 hE9 h19 h29 hce9 hcv9 hcl9 => px_out hex hlocks h19 h29 hce9 hcv9 hcl9 (by simp [exPush, xn, hp1, hE9.1, hE9.2]) (Nat.le_of_ble_eq_true rfl) (Nat.le_of_ble_eq_true rfl)) (fun hp5 => ?_)
  refine W.widen (k := 2) (n := 12) (Nat.le_of_ble_eq_true rfl) (Nat.le_of_ble_eq_true rfl) ?_
  refine lv_iload_n hx hb dX2_push_8 rfl (lv_at hl 2 rfl) ?_
  refine lv_if_ne (tgt := 22) hx hb dX2_push_9 (by decide) (fun c9 => ?_) (fun c9 => ?_)
  · obtain ⟨j, hj, rfl⟩ := isS_nat hp1
    have e9 : ix (nI j) = j := (ix_nI (show j < 2147483648 by omega))
    refine lv_aload_n hx hb dX2_push_22 rfl (lv_at hl 0 rfl) ?_
    refine va_get (D := D) (ci := 2) (v := .ref (q 0)) (C := RX2) (T := TX2) (N := 6) hx hb hts inX2_push_RX2 hown hK hP 0 rfl rfl 0 (by decide) (hts _ kX2_push_0) (fun _ h9 => h9) rfl dX2_push_23 ?_
    refine lv_iload_n hx hb dX2_push_26 rfl (lv_at hl 1 rfl) ?_
    refine lv_iload_n hx hb dX2_push_27 rfl (lv_at hl 2 rfl) ?_
    have hPc := hP.sub (ws' := wH cy q (uh u)) [3, 4, 5, 6, 7, 8, 9] rfl
    refine pc_calli (va_runV (As := [.int (nI j), .int v]) (rest := []) ⟨hx, hb, hml, hown, hts⟩ (mX1_takesPush l D cy q (uh u) j hj v) (cwV 2 hts gX2_push_X1_takesPush rfl rfl rfl (by decide +kernel) ⟨Nat.le_of_ble_eq_true rfl, Nat.le_of_ble_eq_true rfl⟩) ⟨fun a U g mk q => ⟨q.1, q.2.1, va_K.moved (u := U) (U := U.calling g mk a) (Vm.Alike.refl U.vm) q.2.2⟩, va_recv hK hPc (ci := 1) (q0 := 0) rfl rfl, fun U hU hW => ⟨rfl, by rw [hU]; exact hPc, va_K.moved hW.alike hK⟩⟩ rfl rfl hl.1 rfl (lv_room (Nat.le_of_ble_eq_true rfl)) dX2_push_28 ⟨Nat.le_of_ble_eq_true rfl, Nat.le_of_ble_eq_true rfl⟩) (fun r9 hr9 => ?_)
    subst hr9
    refine lv_if_ne (tgt := 44) hx hb dX2_push_31 (by decide) (fun c31 => ?_) (fun c31 => ?_)
    · refine lv_aload_n hx hb dX2_push_44 rfl (lv_at hl 0 rfl) ?_
      refine va_get (D := D) (ci := 2) (v := .ref (q 0)) (C := RX2) (T := TX2) (N := 6) hx hb hts inX2_push_RX2 hown hK hP 0 rfl rfl 0 (by decide) (hts _ kX2_push_0) (fun _ h9 => h9) rfl dX2_push_45 ?_
      refine va_get (D := D) (ci := 1) (v := .ref (q 2)) (C := RX1) (T := TX1) (N := 8) hx hb hts inX2_push_RX1 hown hK hP 3 rfl rfl 1 (by decide) (hts _ kX2_push_1) (fun _ h9 => h9) rfl dX2_push_48 ?_
      refine lv_iload_n hx hb dX2_push_51 rfl (lv_at hl 1 rfl) ?_
      refine lv_dup2_11 hx hb dX2_push_52 rfl rfl ?_
      refine pc_iald hx hb hK hP 5 0 rfl rfl (k := j) (show j < 12 by omega) (by decide) dX2_push_53 ?_
      refine lv_iload_n hx hb dX2_push_54 rfl (lv_at hl 2 rfl) ?_
      refine lv_iadd hx hb dX2_push_55 ?_
      refine pc_iast hx hb hK hP hD hS 5 0 rfl rfl (k := j) (show j < 12 by omega) (by decide) dX2_push_56 (fun H locs hP hD hS => ?_)
      have hP : va_P D vwCl [(a 0, .inr (2, [.ref (q 0), .ref (q2 0), .ref (a 1), .ref (a 2), .ref (a 3), .int (nI (un u))])), (a 1, .inl ((cy 0), 12, .inl (uw u))), (a 2, .inl ((cy 0), 12, .inl (ud u))), (q 0, .inr (1, [.ref (q 1), .ref (q 2), .ref (q 3), .ref (q 4), .ref (q 5), .ref (q 6), .int (zl (uh u)), .int (nI (zh (uh u)))])), (q 1, .inl ((cy 0), 12, .inl (zb (uh u)))), (q 2, .inl ((cy 0), 12, .inl (upd (zw (uh u)) j (((zw (uh u)) j) + v)))), (q 3, .inl ((cy 0), 12, .inl (zd (uh u)))), (q 4, .inl ((cy 0), 12, .inl (zs (uh u)))), (q 5, .inl ((cy 0), 12, .inl (zr (uh u)))), (q 6, .inl ((cy 1), 12, .inl (zo (uh u)))), (q2 0, .inr (1, [.ref (q2 1), .ref (q2 2), .ref (q2 3), .ref (q2 4), .ref (q2 5), .ref (q2 6), .int (zl g), .int (nI (zh g))])), (q2 1, .inl ((cy 0), 12, .inl (zb g))), (q2 2, .inl ((cy 0), 12, .inl (zw g))), (q2 3, .inl ((cy 0), 12, .inl (zd g))), (q2 4, .inl ((cy 0), 12, .inl (zs g))), (q2 5, .inl ((cy 0), 12, .inl (zr g))), (q2 6, .inl ((cy 1), 12, .inl (zo g))), (a 3, .inl ((cy 2), 6, .inr (.inr (.inr (.inr (fun i => some (ca i))))))), (ca 0, .inr (0, [.ref (ta 0), .int (nI (ul u 0)), .int (nI (uz u 0))])), (ca 1, .inr (0, [.ref (ta 1), .int (nI (ul u 1)), .int (nI (uz u 1))])), (ca 2, .inr (0, [.ref (ta 2), .int (nI (ul u 2)), .int (nI (uz u 2))])), (ca 3, .inr (0, [.ref (ta 3), .int (nI (ul u 3)), .int (nI (uz u 3))])), (ca 4, .inr (0, [.ref (ta 4), .int (nI (ul u 4)), .int (nI (uz u 4))])), (ca 5, .inr (0, [.ref (ta 5), .int (nI (ul u 5)), .int (nI (uz u 5))])), (ta 0, .inl ((cy 0), 4, .inl (ut u 0))), (ta 1, .inl ((cy 0), 4, .inl (ut u 1))), (ta 2, .inl ((cy 0), 4, .inl (ut u 2))), (ta 3, .inl ((cy 0), 4, .inl (ut u 3))), (ta 4, .inl ((cy 0), 4, .inl (ut u 4))), (ta 5, .inl ((cy 0), 4, .inl (ut u 5)))] H := hP
      have hD : va_D A [(a 0, .inr (2, [.ref (q 0), .ref (q2 0), .ref (a 1), .ref (a 2), .ref (a 3), .int (nI (un u))])), (a 1, .inl ((cy 0), 12, .inl (uw u))), (a 2, .inl ((cy 0), 12, .inl (ud u))), (q 0, .inr (1, [.ref (q 1), .ref (q 2), .ref (q 3), .ref (q 4), .ref (q 5), .ref (q 6), .int (zl (uh u)), .int (nI (zh (uh u)))])), (q 1, .inl ((cy 0), 12, .inl (zb (uh u)))), (q 2, .inl ((cy 0), 12, .inl (upd (zw (uh u)) j (((zw (uh u)) j) + v)))), (q 3, .inl ((cy 0), 12, .inl (zd (uh u)))), (q 4, .inl ((cy 0), 12, .inl (zs (uh u)))), (q 5, .inl ((cy 0), 12, .inl (zr (uh u)))), (q 6, .inl ((cy 1), 12, .inl (zo (uh u)))), (q2 0, .inr (1, [.ref (q2 1), .ref (q2 2), .ref (q2 3), .ref (q2 4), .ref (q2 5), .ref (q2 6), .int (zl g), .int (nI (zh g))])), (q2 1, .inl ((cy 0), 12, .inl (zb g))), (q2 2, .inl ((cy 0), 12, .inl (zw g))), (q2 3, .inl ((cy 0), 12, .inl (zd g))), (q2 4, .inl ((cy 0), 12, .inl (zs g))), (q2 5, .inl ((cy 0), 12, .inl (zr g))), (q2 6, .inl ((cy 1), 12, .inl (zo g))), (a 3, .inl ((cy 2), 6, .inr (.inr (.inr (.inr (fun i => some (ca i))))))), (ca 0, .inr (0, [.ref (ta 0), .int (nI (ul u 0)), .int (nI (uz u 0))])), (ca 1, .inr (0, [.ref (ta 1), .int (nI (ul u 1)), .int (nI (uz u 1))])), (ca 2, .inr (0, [.ref (ta 2), .int (nI (ul u 2)), .int (nI (uz u 2))])), (ca 3, .inr (0, [.ref (ta 3), .int (nI (ul u 3)), .int (nI (uz u 3))])), (ca 4, .inr (0, [.ref (ta 4), .int (nI (ul u 4)), .int (nI (uz u 4))])), (ca 5, .inr (0, [.ref (ta 5), .int (nI (ul u 5)), .int (nI (uz u 5))])), (ta 0, .inl ((cy 0), 4, .inl (ut u 0))), (ta 1, .inl ((cy 0), 4, .inl (ut u 1))), (ta 2, .inl ((cy 0), 4, .inl (ut u 2))), (ta 3, .inl ((cy 0), 4, .inl (ut u 3))), (ta 4, .inl ((cy 0), 4, .inl (ut u 4))), (ta 5, .inl ((cy 0), 4, .inl (ut u 5)))] := hD
      refine lv_aload_n hx hb dX2_push_57 rfl (lv_at hl 0 rfl) ?_
      refine va_get (D := D) (ci := 2) (v := .ref (q 0)) (C := RX2) (T := TX2) (N := 6) hx hb hts inX2_push_RX2 hown hK hP 0 rfl rfl 0 (by decide) (hts _ kX2_push_0) (fun _ h9 => h9) rfl dX2_push_58 ?_
      refine lv_iload_n hx hb dX2_push_61 rfl (lv_at hl 1 rfl) ?_
      have hPc := hP.sub (ws' := wH cy q (hPush (uh u) j v)) [3, 4, 5, 6, 7, 8, 9] rfl
      refine pc_calli (va_runV (As := [.int (nI j)]) (rest := []) ⟨hx, hb, hml, hown, hts⟩ (mX1_toneOf l D cy q (hPush (uh u) j v) j hj) (cwV 1 hts gX2_push_X1_toneOf rfl rfl rfl (by decide +kernel) ⟨Nat.le_of_ble_eq_true rfl, Nat.le_of_ble_eq_true rfl⟩) ⟨fun a U g mk q => ⟨q.1, q.2.1, va_K.moved (u := U) (U := U.calling g mk a) (Vm.Alike.refl U.vm) q.2.2⟩, va_recv hK hPc (ci := 1) (q0 := 0) rfl rfl, fun U hU hW => ⟨rfl, by rw [hU]; exact hPc, va_K.moved hW.alike hK⟩⟩ rfl rfl hl.1 rfl (lv_room (Nat.le_of_ble_eq_true rfl)) dX2_push_62 ⟨Nat.le_of_ble_eq_true rfl, Nat.le_of_ble_eq_true rfl⟩) (fun r9 hr9 => ?_)
      subst hr9
      have hP9 : va_P D vwCl (wX cy a q q2 ca ta (uH u (hPush (uh u) (ix (nI j)) v)) g) H := (by rw [e9]; exact hP)
      have hD9 : va_D A (wX cy a q q2 ca ta (uH u (hPush (uh u) (ix (nI j)) v)) g) := (by rw [e9]; exact hD)
      refine vx_ret ?_
      refine W.widen (k := 3) (n := 18) (Nat.le_of_ble_eq_true rfl) (Nat.le_of_ble_eq_true rfl) ?_
      exact W.iret (v := tone (hPush (uh u) j v) j) hx hb hr (fun t ht hW => ⟨⟨tone (hPush (uh u) j v) j, (), rfl, ⟨(by simp [exPush, hp1, hp5, c9, e9, bI_1.mp c31]), by rw [e9]⟩, by rw [ht]; exact hP9, hD9⟩, hS.F ht⟩) hS.2.2 dX2_push_65
    · exact px_throwS (ik := 55) (is := 57) (ic := 59) (cls := xT) (text := "the wedge would not be 0 to 20") hx hb hst hown xf_T (by decide) (hts _ kX2_push_2) (hts _ kX2_push_3) (fun w hw => hts w (xgX2_push_59 w hw)) xb_59 xo_59 hX (by decide) rfl rfl (by rw [hml]; exact hl.1) dX2_push_34 dX2_push_37 dX2_push_38 dX2_push_40 dX2_push_43 hex (Nat.le_of_ble_eq_true rfl) (Nat.le_of_ble_eq_true rfl) (Nat.le_of_ble_eq_true rfl) (Nat.le_of_ble_eq_true rfl) hlocks (by simp [exPush, xn, hp1, hp5, c9, e9, bI_0.mp c31]) (Nat.le_of_ble_eq_true rfl) (Nat.le_of_ble_eq_true rfl)
  · exact px_throwS (ik := 44) (is := 46) (ic := 48) (cls := xA) (text := "a push of 0 steps") hx hb hst hown xf_A (by decide) (hts _ kX2_push_4) (hts _ kX2_push_5) (fun w hw => hts w (xgX2_push_48 w hw)) xb_48 xo_48 hX (by decide) rfl rfl (by rw [hml]; exact hl.1) dX2_push_12 dX2_push_15 dX2_push_16 dX2_push_18 dX2_push_21 hex (Nat.le_of_ble_eq_true rfl) (Nat.le_of_ble_eq_true rfl) (Nat.le_of_ble_eq_true rfl) (Nat.le_of_ble_eq_true rfl) hlocks (by simp [exPush, xn, hp1, hp5, c9]) (Nat.le_of_ble_eq_true rfl) (Nat.le_of_ble_eq_true rfl)

theorem inX2_draw_RX2 : ∀ w ∈ u_ws RX2 TX2 6, w ∈ wsX2_draw := by decide +kernel
theorem xgX2_draw_48 : ∀ w ∈ (vx_atS RX2 48 xA xNm).filter goodWord, w ∈ wsX2_draw := by decide +kernel
theorem kX2_draw_0 : (.classLink RX2 44 xA : Cond) ∈ wsX2_draw := by decide +kernel
theorem kX2_draw_1 : (.initialized xA : Cond) ∈ wsX2_draw := by decide +kernel
theorem kX2_draw_2 : (.fieldLink RX2 10 "WedgeHarps" "now" "LWedgeHarps$Harp;" : Cond) ∈ wsX2_draw := by decide +kernel
set_option maxHeartbeats 4000000 in
set_option maxRecDepth 100000 in
theorem mX2_draw (l : Launch) (hst : l.stackTraces = false) (D : va_G) (cy : Nat → ClassId) (sz : Nat) (a q q2 ca ta : Nat → Nat) (u : US) (g : HS) (hu : uOk u) (k v : Int32) : vx_Met l yX2_draw wsX2_draw ({ frames := 7, cells := 2, slots := 12, locals := 102 } : Room) (va_Pc [.ref (a 0), .int k, .int v] (fun U => U.heap.size = sz ∧ va_P D vwCl (wX cy a q q2 ca ta u g) U.heap ∧ va_K D vwCl (TY cy) U ∧ va_D (fun _ => True) (wX cy a q q2 ca ta u g) ∧ xC U U.heap)) (va_Qi (fun (r8 : Int32) (_ : Unit) => (exDraw k v = 0) ∧ r8 = tone (hRenew (uh u) (ix k) v) (ix k)) (fun (_ : Unit) t => va_P D vwCl (wX cy a q q2 ca ta (uH u (hRenew (uh u) (ix k) v)) g) t.heap ∧ va_D (va_A (wX cy a q q2 ca ta u g) sz) (wX cy a q q2 ca ta (uH u (hRenew (uh u) (ix k) v)) g)) (va_A (wX cy a q q2 ca ta u g) sz)) (pX (fun E => E = xn (exDraw k v) ∧ exDraw k v ≠ 0)) 2 12 (va_A (wX cy a q q2 ca ta u g) sz) := by
  refine vx_ofW (cc := cX2_draw) (maxL := 3) (ret := (some .int)) (by decide) rfl ?_
  intro p e s m args below meth c s₁ B hml hex hv
  obtain ⟨rfl, hsz, hP, hK, hD0, hX⟩ := hv
  have hx := B.exec
  have hb := B.bytes
  have hr := B.returns
  have hts := atoms_spec (ws := wsX2_draw) B.pre
  have hown : s.vm.findClass RX2 = some m.cls := findClass_of_methodNamed B.named
  have hlocks := B.notSynchronized
  have hl := lv_entry ([.ref (a 0), .int k, .int v]) (n := 3) (Nat.le_of_ble_eq_true rfl)
  rw [lg_entry_eq]
  generalize (lg_sl ([.ref (a 0), .int k, .int v]) ++ List.replicate (3 - (lg_sl ([.ref (a 0), .int k, .int v])).length) Slot.unset).toArray = ls at hl ⊢
  have hl : lv_has ls 3 [(0, .ref (a 0)), (1, .int k), (2, .int v)] := hl
  subst hsz
  have hD := hD0.self (sz := s.heap.size)
  generalize hAe : va_A (wX cy a q q2 ca ta u g) s.heap.size = A at hD ⊢
  have hA : ∀ q : Nat, s.heap.size ≤ q → A q := fun q h => by rw [← hAe]; exact Or.inr h
  have hS : va_S A s.heap s.heap [] := va_S.rf
  have hP : va_P D vwCl (wX cy a q q2 ca ta u g) s.heap := hP
  refine lv_iload_n hx hb dX2_draw_0 rfl (lv_at hl 1 rfl) ?_
  refine px_callv (vx_runS (As := [.int k]) (rest := []) ⟨hx, hb, hml, hown, hts⟩ (mX2_checkString l hst D cy k) (va_cwS 1 hts gX2_draw_X2_checkString rfl rfl rfl (by decide +kernel) ⟨Nat.le_of_ble_eq_true rfl, Nat.le_of_ble_eq_true rfl⟩) ⟨fun a U g mk q => ⟨q.1, xC.warm (State.WarmedH.refl U) q.2⟩, fun U hU hW => ⟨rfl, (show xC U U.heap by rw [hU]; exact hX.warm hW)⟩⟩ rfl rfl hl.1 rfl (lv_room (Nat.le_of_ble_eq_true rfl)) dX2_draw_1 ⟨Nat.le_of_ble_eq_true rfl, Nat.le_of_ble_eq_true rfl⟩) (fun E9 ce9 q9 H9 hE9 h19 h29 hce9 hcv9 hcl9 => px_out hex hlocks h19 h29 hce9 hcv9 hcl9 (by simp [exDraw, xn, hE9.1, hE9.2]) (Nat.le_of_ble_eq_true rfl) (Nat.le_of_ble_eq_true rfl)) (fun hp1 => ?_)
  refine W.widen (k := 1) (n := 6) (Nat.le_of_ble_eq_true rfl) (Nat.le_of_ble_eq_true rfl) ?_
  refine lv_iload_n hx hb dX2_draw_4 rfl (lv_at hl 2 rfl) ?_
  refine lv_bipush (v := 100) hx hb dX2_draw_5 (by decide) ?_
  refine lv_icmp_lt (tgt := 17) hx hb dX2_draw_7 (by decide) (fun c7 => ?_) (fun c7 => ?_)
  · exact px_throwS (ik := 44) (is := 67) (ic := 48) (cls := xA) (text := "the base is not 100 to 900") hx hb hst hown xf_A (by decide) (hts _ kX2_draw_0) (hts _ kX2_draw_1) (fun w hw => hts w (xgX2_draw_48 w hw)) xb_48 xo_48 hX (by decide) rfl rfl (by rw [hml]; exact hl.1) dX2_draw_17 dX2_draw_20 dX2_draw_21 dX2_draw_23 dX2_draw_26 hex (Nat.le_of_ble_eq_true rfl) (Nat.le_of_ble_eq_true rfl) (Nat.le_of_ble_eq_true rfl) (Nat.le_of_ble_eq_true rfl) hlocks (by simp [exDraw, xn, hp1, isB, c7]) (Nat.le_of_ble_eq_true rfl) (Nat.le_of_ble_eq_true rfl)
  · refine lv_iload_n hx hb dX2_draw_10 rfl (lv_at hl 2 rfl) ?_
    refine lv_sipush (v := 900) hx hb dX2_draw_11 (by decide) ?_
    refine lv_icmp_le (tgt := 27) hx hb dX2_draw_14 (by decide) (fun c14 => ?_) (fun c14 => ?_)
    · obtain ⟨j, hj, rfl⟩ := isS_nat hp1
      have e9 : ix (nI j) = j := (ix_nI (show j < 2147483648 by omega))
      refine lv_aload_n hx hb dX2_draw_27 rfl (lv_at hl 0 rfl) ?_
      refine va_get (D := D) (ci := 2) (v := .ref (q 0)) (C := RX2) (T := TX2) (N := 6) hx hb hts inX2_draw_RX2 hown hK hP 0 rfl rfl 0 (by decide) (hts _ kX2_draw_2) (fun _ h9 => h9) rfl dX2_draw_28 ?_
      refine lv_iload_n hx hb dX2_draw_31 rfl (lv_at hl 1 rfl) ?_
      refine lv_iload_n hx hb dX2_draw_32 rfl (lv_at hl 2 rfl) ?_
      have hPc := hP.sub (ws' := wH cy q (uh u)) [3, 4, 5, 6, 7, 8, 9] rfl
      have hDc := hD.sub (ws' := wH cy q (uh u)) [3, 4, 5, 6, 7, 8, 9] (by decide) rfl
      have hFc := va_free (wc := wH cy q (uh u)) hD hS hA [3, 4, 5, 6, 7, 8, 9] rfl
      refine va_callv (va_runV (As := [.int (nI j), .int v]) (rest := []) ⟨hx, hb, hml, hown, hts⟩ (mX1_renew l D cy s.heap.size q (uh u) j hj v) (cwV 2 hts gX2_draw_X1_renew rfl rfl rfl (by decide +kernel) ⟨Nat.le_of_ble_eq_true rfl, Nat.le_of_ble_eq_true rfl⟩) ⟨fun a U g mk q => ⟨q.1, q.2.1, q.2.2.1, va_K.moved (u := U) (U := U.calling g mk a) (Vm.Alike.refl U.vm) q.2.2.2.1, q.2.2.2.2⟩, va_recv hK hPc (ci := 1) (q0 := 0) rfl rfl, fun U hU hW => ⟨rfl, by rw [hU], by rw [hU]; exact hPc, va_K.moved hW.alike hK, hDc.weaken (fun _ _ _ _ => trivial)⟩⟩ rfl rfl hl.1 rfl (lv_room (Nat.le_of_ble_eq_true rfl)) dX2_draw_33 ⟨Nat.le_of_ble_eq_true rfl, Nat.le_of_ble_eq_true rfl⟩) hS (fun q _ h => hFc q h) hFc (fun u9 t9 H1 locs ht9 hvm9 hw9 hB9 hz9 hk9 hS => ?_)
      obtain ⟨hP1, hD1⟩ := hB9
      rw [ht9] at hP1
      obtain ⟨hP, hD⟩ := va_join (wr := [(a 0, .inr (2, [.ref (q 0), .ref (q2 0), .ref (a 1), .ref (a 2), .ref (a 3), .int (nI (un u))])), (a 1, .inl ((cy 0), 12, .inl (uw u))), (a 2, .inl ((cy 0), 12, .inl (ud u))), (q2 0, .inr (1, [.ref (q2 1), .ref (q2 2), .ref (q2 3), .ref (q2 4), .ref (q2 5), .ref (q2 6), .int (zl g), .int (nI (zh g))])), (q2 1, .inl ((cy 0), 12, .inl (zb g))), (q2 2, .inl ((cy 0), 12, .inl (zw g))), (q2 3, .inl ((cy 0), 12, .inl (zd g))), (q2 4, .inl ((cy 0), 12, .inl (zs g))), (q2 5, .inl ((cy 0), 12, .inl (zr g))), (q2 6, .inl ((cy 1), 12, .inl (zo g))), (a 3, .inl ((cy 2), 6, .inr (.inr (.inr (.inr (fun i => some (ca i))))))), (ca 0, .inr (0, [.ref (ta 0), .int (nI (ul u 0)), .int (nI (uz u 0))])), (ca 1, .inr (0, [.ref (ta 1), .int (nI (ul u 1)), .int (nI (uz u 1))])), (ca 2, .inr (0, [.ref (ta 2), .int (nI (ul u 2)), .int (nI (uz u 2))])), (ca 3, .inr (0, [.ref (ta 3), .int (nI (ul u 3)), .int (nI (uz u 3))])), (ca 4, .inr (0, [.ref (ta 4), .int (nI (ul u 4)), .int (nI (uz u 4))])), (ca 5, .inr (0, [.ref (ta 5), .int (nI (ul u 5)), .int (nI (uz u 5))])), (ta 0, .inl ((cy 0), 4, .inl (ut u 0))), (ta 1, .inl ((cy 0), 4, .inl (ut u 1))), (ta 2, .inl ((cy 0), 4, .inl (ut u 2))), (ta 3, .inl ((cy 0), 4, .inl (ut u 3))), (ta 4, .inl ((cy 0), 4, .inl (ut u 4))), (ta 5, .inl ((cy 0), 4, .inl (ut u 5)))]) (w1 := wH cy q (hRenew (uh u) j v)) hP hD [3, 4, 5, 6, 7, 8, 9] [0, 1, 2, 10, 11, 12, 13, 14, 15, 16, 17, 18, 19, 20, 21, 22, 23, 24, 25, 26, 27, 28, 29] rfl rfl (by decide) (by decide) hk9 hFc hP1 hD1
      generalize H1 = H at hP hS ⊢
      have hP : va_P D vwCl (wX cy a q q2 ca ta (uH u (hRenew (uh u) j v)) g) H := hP.sub [0, 1, 2, 23, 24, 25, 26, 27, 28, 29, 3, 4, 5, 6, 7, 8, 9, 10, 11, 12, 13, 14, 15, 16, 17, 18, 19, 20, 21, 22] rfl
      have hD : va_D A (wX cy a q q2 ca ta (uH u (hRenew (uh u) j v)) g) := hD.sub [0, 1, 2, 23, 24, 25, 26, 27, 28, 29, 3, 4, 5, 6, 7, 8, 9, 10, 11, 12, 13, 14, 15, 16, 17, 18, 19, 20, 21, 22] (by decide) rfl
      clear hP1 hD1 hk9 hz9 ht9 hvm9 hPc hDc hFc
      refine lv_aload_n hx hb dX2_draw_36 rfl (lv_at hl 0 rfl) ?_
      refine va_get (D := D) (ci := 2) (v := .ref (q 0)) (C := RX2) (T := TX2) (N := 6) hx hb hts inX2_draw_RX2 hown hK hP 0 rfl rfl 0 (by decide) (hts _ kX2_draw_2) (fun _ h9 => h9) rfl dX2_draw_37 ?_
      refine lv_iload_n hx hb dX2_draw_40 rfl (lv_at hl 1 rfl) ?_
      have hPc := hP.sub (ws' := wH cy q (hRenew (uh u) j v)) [3, 4, 5, 6, 7, 8, 9] rfl
      refine pc_calli (va_runV (As := [.int (nI j)]) (rest := []) ⟨hx, hb, hml, hown, hts⟩ (mX1_toneOf l D cy q (hRenew (uh u) j v) j hj) (cwV 1 hts gX2_draw_X1_toneOf rfl rfl rfl (by decide +kernel) ⟨Nat.le_of_ble_eq_true rfl, Nat.le_of_ble_eq_true rfl⟩) ⟨fun a U g mk q => ⟨q.1, q.2.1, va_K.moved (u := U) (U := U.calling g mk a) (Vm.Alike.refl U.vm) q.2.2⟩, va_recv hK hPc (ci := 1) (q0 := 0) rfl rfl, fun U hU hW => ⟨rfl, by rw [hU]; exact hPc, va_K.moved hW.alike hK⟩⟩ rfl rfl hl.1 rfl (lv_room (Nat.le_of_ble_eq_true rfl)) dX2_draw_41 ⟨Nat.le_of_ble_eq_true rfl, Nat.le_of_ble_eq_true rfl⟩) (fun r9 hr9 => ?_)
      subst hr9
      have hP9 : va_P D vwCl (wX cy a q q2 ca ta (uH u (hRenew (uh u) (ix (nI j)) v)) g) H := (by rw [e9]; exact hP)
      have hD9 : va_D A (wX cy a q q2 ca ta (uH u (hRenew (uh u) (ix (nI j)) v)) g) := (by rw [e9]; exact hD)
      refine vx_ret ?_
      refine W.widen (k := 2) (n := 12) (Nat.le_of_ble_eq_true rfl) (Nat.le_of_ble_eq_true rfl) ?_
      exact W.iret (v := tone (hRenew (uh u) j v) j) hx hb hr (fun t ht hW => ⟨⟨tone (hRenew (uh u) j v) j, (), rfl, ⟨(by simp [exDraw, hp1, isB, c7, c14]), by rw [e9]⟩, by rw [ht]; exact hP9, hD9⟩, hS.F ht⟩) hS.2.2 dX2_draw_44
    · exact px_throwS (ik := 44) (is := 67) (ic := 48) (cls := xA) (text := "the base is not 100 to 900") hx hb hst hown xf_A (by decide) (hts _ kX2_draw_0) (hts _ kX2_draw_1) (fun w hw => hts w (xgX2_draw_48 w hw)) xb_48 xo_48 hX (by decide) rfl rfl (by rw [hml]; exact hl.1) dX2_draw_17 dX2_draw_20 dX2_draw_21 dX2_draw_23 dX2_draw_26 hex (Nat.le_of_ble_eq_true rfl) (Nat.le_of_ble_eq_true rfl) (Nat.le_of_ble_eq_true rfl) (Nat.le_of_ble_eq_true rfl) hlocks (by simp [exDraw, xn, hp1, isB, c7, c14]) (Nat.le_of_ble_eq_true rfl) (Nat.le_of_ble_eq_true rfl)

theorem inX2_setWeather_RX2 : ∀ w ∈ u_ws RX2 TX2 6, w ∈ wsX2_setWeather := by decide +kernel
theorem xgX2_setWeather_48 : ∀ w ∈ (vx_atS RX2 48 xA xNm).filter goodWord, w ∈ wsX2_setWeather := by decide +kernel
theorem xgX2_setWeather_77 : ∀ w ∈ (vx_atS RX2 77 xI xNm).filter goodWord, w ∈ wsX2_setWeather := by decide +kernel
theorem kX2_setWeather_0 : (.classLink RX2 73 xI : Cond) ∈ wsX2_setWeather := by decide +kernel
theorem kX2_setWeather_1 : (.initialized xI : Cond) ∈ wsX2_setWeather := by decide +kernel
theorem kX2_setWeather_2 : (.classLink RX2 44 xA : Cond) ∈ wsX2_setWeather := by decide +kernel
theorem kX2_setWeather_3 : (.initialized xA : Cond) ∈ wsX2_setWeather := by decide +kernel
theorem kX2_setWeather_4 : (.fieldLink RX2 19 "WedgeHarps" "windTable" "[I" : Cond) ∈ wsX2_setWeather := by decide +kernel
theorem kX2_setWeather_5 : (.fieldLink RX2 23 "WedgeHarps" "dampTable" "[I" : Cond) ∈ wsX2_setWeather := by decide +kernel
set_option maxHeartbeats 4000000 in
set_option maxRecDepth 100000 in
theorem mX2_setWeather (l : Launch) (hst : l.stackTraces = false) (D : va_G) (cy : Nat → ClassId) (sz : Nat) (a q q2 ca ta : Nat → Nat) (u : US) (g : HS) (hu : uOk u) (k v w : Int32) : vx_Met l yX2_setWeather wsX2_setWeather ({ frames := 6, cells := 1, slots := 6, locals := 82 } : Room) (va_Pc [.ref (a 0), .int k, .int v, .int w] (fun U => U.heap.size = sz ∧ va_P D vwCl (wX cy a q q2 ca ta u g) U.heap ∧ va_K D vwCl (TY cy) U ∧ va_D (fun _ => True) (wX cy a q q2 ca ta u g) ∧ xC U U.heap)) (va_Qi (fun (r8 : Int32) (_ : Unit) => (exWea k v w = 0) ∧ r8 = wea u (ix k)) (fun (_ : Unit) t => va_P D vwCl (wX cy a q q2 ca ta (uWea u (ix k) v w) g) t.heap ∧ va_D (va_A (wX cy a q q2 ca ta u g) sz) (wX cy a q q2 ca ta (uWea u (ix k) v w) g)) (va_A (wX cy a q q2 ca ta u g) sz)) (pX (fun E => E = xn (exWea k v w) ∧ exWea k v w ≠ 0)) 1 6 (va_A (wX cy a q q2 ca ta u g) sz) := by
  refine vx_ofW (cc := cX2_setWeather) (maxL := 5) (ret := (some .int)) (by decide) rfl ?_
  intro p e s m args below meth c s₁ B hml hex hv
  obtain ⟨rfl, hsz, hP, hK, hD0, hX⟩ := hv
  have hx := B.exec
  have hb := B.bytes
  have hr := B.returns
  have hts := atoms_spec (ws := wsX2_setWeather) B.pre
  have hown : s.vm.findClass RX2 = some m.cls := findClass_of_methodNamed B.named
  have hlocks := B.notSynchronized
  have hl := lv_entry ([.ref (a 0), .int k, .int v, .int w]) (n := 5) (Nat.le_of_ble_eq_true rfl)
  rw [lg_entry_eq]
  generalize (lg_sl ([.ref (a 0), .int k, .int v, .int w]) ++ List.replicate (5 - (lg_sl ([.ref (a 0), .int k, .int v, .int w])).length) Slot.unset).toArray = ls at hl ⊢
  have hl : lv_has ls 5 [(0, .ref (a 0)), (1, .int k), (2, .int v), (3, .int w)] := hl
  subst hsz
  have hD := hD0.self (sz := s.heap.size)
  generalize hAe : va_A (wX cy a q q2 ca ta u g) s.heap.size = A at hD ⊢
  have hA : ∀ q : Nat, s.heap.size ≤ q → A q := fun q h => by rw [← hAe]; exact Or.inr h
  have hS : va_S A s.heap s.heap [] := va_S.rf
  have hP : va_P D vwCl (wX cy a q q2 ca ta u g) s.heap := hP
  refine lv_iload_n hx hb dX2_setWeather_0 rfl (lv_at hl 1 rfl) ?_
  refine lv_if_lt (tgt := 10) hx hb dX2_setWeather_1 (by decide) (fun c1 => ?_) (fun c1 => ?_)
  · exact px_throwS (ik := 73) (is := 75) (ic := 77) (cls := xI) (text := "the hour is not 0 to 11") hx hb hst hown xf_I (by decide) (hts _ kX2_setWeather_0) (hts _ kX2_setWeather_1) (fun w hw => hts w (xgX2_setWeather_77 w hw)) xb_77 xo_77 hX (by decide) rfl rfl (by rw [hml]; exact hl.1) dX2_setWeather_10 dX2_setWeather_13 dX2_setWeather_14 dX2_setWeather_16 dX2_setWeather_19 hex (Nat.le_of_ble_eq_true rfl) (Nat.le_of_ble_eq_true rfl) (Nat.le_of_ble_eq_true rfl) (Nat.le_of_ble_eq_true rfl) hlocks (by simp [exWea, xn, isS, c1]) (Nat.le_of_ble_eq_true rfl) (Nat.le_of_ble_eq_true rfl)
  · refine lv_iload_n hx hb dX2_setWeather_4 rfl (lv_at hl 1 rfl) ?_
    refine lv_bipush (v := 12) hx hb dX2_setWeather_5 (by decide) ?_
    refine lv_icmp_lt (tgt := 20) hx hb dX2_setWeather_7 (by decide) (fun c7 => ?_) (fun c7 => ?_)
    · refine lv_iload_n hx hb dX2_setWeather_20 rfl (lv_at hl 2 rfl) ?_
      refine lv_if_lt (tgt := 30) hx hb dX2_setWeather_21 (by decide) (fun c21 => ?_) (fun c21 => ?_)
      · exact px_throwS (ik := 44) (is := 78) (ic := 48) (cls := xA) (text := "the wind is not 0 to 20") hx hb hst hown xf_A (by decide) (hts _ kX2_setWeather_2) (hts _ kX2_setWeather_3) (fun w hw => hts w (xgX2_setWeather_48 w hw)) xb_48 xo_48 hX (by decide) rfl rfl (by rw [hml]; exact hl.1) dX2_setWeather_30 dX2_setWeather_33 dX2_setWeather_34 dX2_setWeather_36 dX2_setWeather_39 hex (Nat.le_of_ble_eq_true rfl) (Nat.le_of_ble_eq_true rfl) (Nat.le_of_ble_eq_true rfl) (Nat.le_of_ble_eq_true rfl) hlocks (by simp [exWea, xn, isS, isWi, c1, c7, c21]) (Nat.le_of_ble_eq_true rfl) (Nat.le_of_ble_eq_true rfl)
      · refine lv_iload_n hx hb dX2_setWeather_24 rfl (lv_at hl 2 rfl) ?_
        refine lv_bipush (v := 20) hx hb dX2_setWeather_25 (by decide) ?_
        refine lv_icmp_le (tgt := 40) hx hb dX2_setWeather_27 (by decide) (fun c27 => ?_) (fun c27 => ?_)
        · refine lv_iload_n hx hb dX2_setWeather_40 rfl (lv_at hl 3 rfl) ?_
          refine lv_if_lt (tgt := 50) hx hb dX2_setWeather_41 (by decide) (fun c41 => ?_) (fun c41 => ?_)
          · exact px_throwS (ik := 44) (is := 80) (ic := 48) (cls := xA) (text := "the damp is not 0 to 9") hx hb hst hown xf_A (by decide) (hts _ kX2_setWeather_2) (hts _ kX2_setWeather_3) (fun w hw => hts w (xgX2_setWeather_48 w hw)) xb_48 xo_48 hX (by decide) rfl rfl (by rw [hml]; exact hl.1) dX2_setWeather_50 dX2_setWeather_53 dX2_setWeather_54 dX2_setWeather_56 dX2_setWeather_59 hex (Nat.le_of_ble_eq_true rfl) (Nat.le_of_ble_eq_true rfl) (Nat.le_of_ble_eq_true rfl) (Nat.le_of_ble_eq_true rfl) hlocks (by simp [exWea, xn, isS, isWi, isDa, c1, c7, c21, c27, c41]) (Nat.le_of_ble_eq_true rfl) (Nat.le_of_ble_eq_true rfl)
          · refine lv_iload_n hx hb dX2_setWeather_44 rfl (lv_at hl 3 rfl) ?_
            refine lv_bipush (v := 9) hx hb dX2_setWeather_45 (by decide) ?_
            refine lv_icmp_le (tgt := 60) hx hb dX2_setWeather_47 (by decide) (fun c47 => ?_) (fun c47 => ?_)
            · have hp1 : isS k = true := by simp [isS, c1, c7]
              obtain ⟨j, hj, rfl⟩ := isS_nat hp1
              have e9 : ix (nI j) = j := (ix_nI (show j < 2147483648 by omega))
              refine lv_aload_n hx hb dX2_setWeather_60 rfl (lv_at hl 0 rfl) ?_
              refine lv_iload_n hx hb dX2_setWeather_61 rfl (lv_at hl 1 rfl) ?_
              refine pc_calli (va_runV (As := [.int (nI j)]) (rest := []) ⟨hx, hb, hml, hown, hts⟩ (mX2_weatherAt l D cy a q q2 ca ta u g hu j hj) (cwV 1 hts gX2_setWeather_X2_weatherAt rfl rfl rfl (by decide +kernel) ⟨Nat.le_of_ble_eq_true rfl, Nat.le_of_ble_eq_true rfl⟩) ⟨fun a U g mk q => ⟨q.1, q.2.1, va_K.moved (u := U) (U := U.calling g mk a) (Vm.Alike.refl U.vm) q.2.2⟩, va_recv hK hP (ci := 2) (q0 := 0) rfl rfl, fun U hU hW => ⟨rfl, by rw [hU]; exact hP, va_K.moved hW.alike hK⟩⟩ rfl rfl hl.1 rfl (lv_room (Nat.le_of_ble_eq_true rfl)) dX2_setWeather_62 ⟨Nat.le_of_ble_eq_true rfl, Nat.le_of_ble_eq_true rfl⟩) (fun r9 hr9 => ?_)
              subst hr9
              refine lv_istore (lv' := [(4, .int (wea u j)), (0, .ref (a 0)), (1, .int (nI j)), (2, .int v), (3, .int w)]) hx hb dX2_setWeather_65 hl (by decide) rfl (fun ls hl => ?_)
              refine lv_aload_n hx hb dX2_setWeather_67 rfl (lv_at hl 1 rfl) ?_
              refine va_get (D := D) (ci := 2) (v := .ref (a 1)) (C := RX2) (T := TX2) (N := 6) hx hb hts inX2_setWeather_RX2 hown hK hP 0 rfl rfl 2 (by decide) (hts _ kX2_setWeather_4) (fun _ h9 => h9) rfl dX2_setWeather_68 ?_
              refine lv_iload_n hx hb dX2_setWeather_71 rfl (lv_at hl 2 rfl) ?_
              refine lv_iload_n hx hb dX2_setWeather_72 rfl (lv_at hl 3 rfl) ?_
              refine pc_iast hx hb hK hP hD hS 1 0 rfl rfl (k := j) (show j < 12 by omega) (by decide) dX2_setWeather_73 (fun H locs hP hD hS => ?_)
              have hP : va_P D vwCl [(a 0, .inr (2, [.ref (q 0), .ref (q2 0), .ref (a 1), .ref (a 2), .ref (a 3), .int (nI (un u))])), (a 1, .inl ((cy 0), 12, .inl (upd (uw u) j v))), (a 2, .inl ((cy 0), 12, .inl (ud u))), (q 0, .inr (1, [.ref (q 1), .ref (q 2), .ref (q 3), .ref (q 4), .ref (q 5), .ref (q 6), .int (zl (uh u)), .int (nI (zh (uh u)))])), (q 1, .inl ((cy 0), 12, .inl (zb (uh u)))), (q 2, .inl ((cy 0), 12, .inl (zw (uh u)))), (q 3, .inl ((cy 0), 12, .inl (zd (uh u)))), (q 4, .inl ((cy 0), 12, .inl (zs (uh u)))), (q 5, .inl ((cy 0), 12, .inl (zr (uh u)))), (q 6, .inl ((cy 1), 12, .inl (zo (uh u)))), (q2 0, .inr (1, [.ref (q2 1), .ref (q2 2), .ref (q2 3), .ref (q2 4), .ref (q2 5), .ref (q2 6), .int (zl g), .int (nI (zh g))])), (q2 1, .inl ((cy 0), 12, .inl (zb g))), (q2 2, .inl ((cy 0), 12, .inl (zw g))), (q2 3, .inl ((cy 0), 12, .inl (zd g))), (q2 4, .inl ((cy 0), 12, .inl (zs g))), (q2 5, .inl ((cy 0), 12, .inl (zr g))), (q2 6, .inl ((cy 1), 12, .inl (zo g))), (a 3, .inl ((cy 2), 6, .inr (.inr (.inr (.inr (fun i => some (ca i))))))), (ca 0, .inr (0, [.ref (ta 0), .int (nI (ul u 0)), .int (nI (uz u 0))])), (ca 1, .inr (0, [.ref (ta 1), .int (nI (ul u 1)), .int (nI (uz u 1))])), (ca 2, .inr (0, [.ref (ta 2), .int (nI (ul u 2)), .int (nI (uz u 2))])), (ca 3, .inr (0, [.ref (ta 3), .int (nI (ul u 3)), .int (nI (uz u 3))])), (ca 4, .inr (0, [.ref (ta 4), .int (nI (ul u 4)), .int (nI (uz u 4))])), (ca 5, .inr (0, [.ref (ta 5), .int (nI (ul u 5)), .int (nI (uz u 5))])), (ta 0, .inl ((cy 0), 4, .inl (ut u 0))), (ta 1, .inl ((cy 0), 4, .inl (ut u 1))), (ta 2, .inl ((cy 0), 4, .inl (ut u 2))), (ta 3, .inl ((cy 0), 4, .inl (ut u 3))), (ta 4, .inl ((cy 0), 4, .inl (ut u 4))), (ta 5, .inl ((cy 0), 4, .inl (ut u 5)))] H := hP
              have hD : va_D A [(a 0, .inr (2, [.ref (q 0), .ref (q2 0), .ref (a 1), .ref (a 2), .ref (a 3), .int (nI (un u))])), (a 1, .inl ((cy 0), 12, .inl (upd (uw u) j v))), (a 2, .inl ((cy 0), 12, .inl (ud u))), (q 0, .inr (1, [.ref (q 1), .ref (q 2), .ref (q 3), .ref (q 4), .ref (q 5), .ref (q 6), .int (zl (uh u)), .int (nI (zh (uh u)))])), (q 1, .inl ((cy 0), 12, .inl (zb (uh u)))), (q 2, .inl ((cy 0), 12, .inl (zw (uh u)))), (q 3, .inl ((cy 0), 12, .inl (zd (uh u)))), (q 4, .inl ((cy 0), 12, .inl (zs (uh u)))), (q 5, .inl ((cy 0), 12, .inl (zr (uh u)))), (q 6, .inl ((cy 1), 12, .inl (zo (uh u)))), (q2 0, .inr (1, [.ref (q2 1), .ref (q2 2), .ref (q2 3), .ref (q2 4), .ref (q2 5), .ref (q2 6), .int (zl g), .int (nI (zh g))])), (q2 1, .inl ((cy 0), 12, .inl (zb g))), (q2 2, .inl ((cy 0), 12, .inl (zw g))), (q2 3, .inl ((cy 0), 12, .inl (zd g))), (q2 4, .inl ((cy 0), 12, .inl (zs g))), (q2 5, .inl ((cy 0), 12, .inl (zr g))), (q2 6, .inl ((cy 1), 12, .inl (zo g))), (a 3, .inl ((cy 2), 6, .inr (.inr (.inr (.inr (fun i => some (ca i))))))), (ca 0, .inr (0, [.ref (ta 0), .int (nI (ul u 0)), .int (nI (uz u 0))])), (ca 1, .inr (0, [.ref (ta 1), .int (nI (ul u 1)), .int (nI (uz u 1))])), (ca 2, .inr (0, [.ref (ta 2), .int (nI (ul u 2)), .int (nI (uz u 2))])), (ca 3, .inr (0, [.ref (ta 3), .int (nI (ul u 3)), .int (nI (uz u 3))])), (ca 4, .inr (0, [.ref (ta 4), .int (nI (ul u 4)), .int (nI (uz u 4))])), (ca 5, .inr (0, [.ref (ta 5), .int (nI (ul u 5)), .int (nI (uz u 5))])), (ta 0, .inl ((cy 0), 4, .inl (ut u 0))), (ta 1, .inl ((cy 0), 4, .inl (ut u 1))), (ta 2, .inl ((cy 0), 4, .inl (ut u 2))), (ta 3, .inl ((cy 0), 4, .inl (ut u 3))), (ta 4, .inl ((cy 0), 4, .inl (ut u 4))), (ta 5, .inl ((cy 0), 4, .inl (ut u 5)))] := hD
              refine lv_aload_n hx hb dX2_setWeather_74 rfl (lv_at hl 1 rfl) ?_
              refine va_get (D := D) (ci := 2) (v := .ref (a 2)) (C := RX2) (T := TX2) (N := 6) hx hb hts inX2_setWeather_RX2 hown hK hP 0 rfl rfl 3 (by decide) (hts _ kX2_setWeather_5) (fun _ h9 => h9) rfl dX2_setWeather_75 ?_
              refine lv_iload_n hx hb dX2_setWeather_78 rfl (lv_at hl 2 rfl) ?_
              refine lv_iload_n hx hb dX2_setWeather_79 rfl (lv_at hl 4 rfl) ?_
              refine pc_iast hx hb hK hP hD hS 2 0 rfl rfl (k := j) (show j < 12 by omega) (by decide) dX2_setWeather_80 (fun H locs hP hD hS => ?_)
              have hP : va_P D vwCl [(a 0, .inr (2, [.ref (q 0), .ref (q2 0), .ref (a 1), .ref (a 2), .ref (a 3), .int (nI (un u))])), (a 1, .inl ((cy 0), 12, .inl (upd (uw u) j v))), (a 2, .inl ((cy 0), 12, .inl (upd (ud u) j w))), (q 0, .inr (1, [.ref (q 1), .ref (q 2), .ref (q 3), .ref (q 4), .ref (q 5), .ref (q 6), .int (zl (uh u)), .int (nI (zh (uh u)))])), (q 1, .inl ((cy 0), 12, .inl (zb (uh u)))), (q 2, .inl ((cy 0), 12, .inl (zw (uh u)))), (q 3, .inl ((cy 0), 12, .inl (zd (uh u)))), (q 4, .inl ((cy 0), 12, .inl (zs (uh u)))), (q 5, .inl ((cy 0), 12, .inl (zr (uh u)))), (q 6, .inl ((cy 1), 12, .inl (zo (uh u)))), (q2 0, .inr (1, [.ref (q2 1), .ref (q2 2), .ref (q2 3), .ref (q2 4), .ref (q2 5), .ref (q2 6), .int (zl g), .int (nI (zh g))])), (q2 1, .inl ((cy 0), 12, .inl (zb g))), (q2 2, .inl ((cy 0), 12, .inl (zw g))), (q2 3, .inl ((cy 0), 12, .inl (zd g))), (q2 4, .inl ((cy 0), 12, .inl (zs g))), (q2 5, .inl ((cy 0), 12, .inl (zr g))), (q2 6, .inl ((cy 1), 12, .inl (zo g))), (a 3, .inl ((cy 2), 6, .inr (.inr (.inr (.inr (fun i => some (ca i))))))), (ca 0, .inr (0, [.ref (ta 0), .int (nI (ul u 0)), .int (nI (uz u 0))])), (ca 1, .inr (0, [.ref (ta 1), .int (nI (ul u 1)), .int (nI (uz u 1))])), (ca 2, .inr (0, [.ref (ta 2), .int (nI (ul u 2)), .int (nI (uz u 2))])), (ca 3, .inr (0, [.ref (ta 3), .int (nI (ul u 3)), .int (nI (uz u 3))])), (ca 4, .inr (0, [.ref (ta 4), .int (nI (ul u 4)), .int (nI (uz u 4))])), (ca 5, .inr (0, [.ref (ta 5), .int (nI (ul u 5)), .int (nI (uz u 5))])), (ta 0, .inl ((cy 0), 4, .inl (ut u 0))), (ta 1, .inl ((cy 0), 4, .inl (ut u 1))), (ta 2, .inl ((cy 0), 4, .inl (ut u 2))), (ta 3, .inl ((cy 0), 4, .inl (ut u 3))), (ta 4, .inl ((cy 0), 4, .inl (ut u 4))), (ta 5, .inl ((cy 0), 4, .inl (ut u 5)))] H := hP
              have hD : va_D A [(a 0, .inr (2, [.ref (q 0), .ref (q2 0), .ref (a 1), .ref (a 2), .ref (a 3), .int (nI (un u))])), (a 1, .inl ((cy 0), 12, .inl (upd (uw u) j v))), (a 2, .inl ((cy 0), 12, .inl (upd (ud u) j w))), (q 0, .inr (1, [.ref (q 1), .ref (q 2), .ref (q 3), .ref (q 4), .ref (q 5), .ref (q 6), .int (zl (uh u)), .int (nI (zh (uh u)))])), (q 1, .inl ((cy 0), 12, .inl (zb (uh u)))), (q 2, .inl ((cy 0), 12, .inl (zw (uh u)))), (q 3, .inl ((cy 0), 12, .inl (zd (uh u)))), (q 4, .inl ((cy 0), 12, .inl (zs (uh u)))), (q 5, .inl ((cy 0), 12, .inl (zr (uh u)))), (q 6, .inl ((cy 1), 12, .inl (zo (uh u)))), (q2 0, .inr (1, [.ref (q2 1), .ref (q2 2), .ref (q2 3), .ref (q2 4), .ref (q2 5), .ref (q2 6), .int (zl g), .int (nI (zh g))])), (q2 1, .inl ((cy 0), 12, .inl (zb g))), (q2 2, .inl ((cy 0), 12, .inl (zw g))), (q2 3, .inl ((cy 0), 12, .inl (zd g))), (q2 4, .inl ((cy 0), 12, .inl (zs g))), (q2 5, .inl ((cy 0), 12, .inl (zr g))), (q2 6, .inl ((cy 1), 12, .inl (zo g))), (a 3, .inl ((cy 2), 6, .inr (.inr (.inr (.inr (fun i => some (ca i))))))), (ca 0, .inr (0, [.ref (ta 0), .int (nI (ul u 0)), .int (nI (uz u 0))])), (ca 1, .inr (0, [.ref (ta 1), .int (nI (ul u 1)), .int (nI (uz u 1))])), (ca 2, .inr (0, [.ref (ta 2), .int (nI (ul u 2)), .int (nI (uz u 2))])), (ca 3, .inr (0, [.ref (ta 3), .int (nI (ul u 3)), .int (nI (uz u 3))])), (ca 4, .inr (0, [.ref (ta 4), .int (nI (ul u 4)), .int (nI (uz u 4))])), (ca 5, .inr (0, [.ref (ta 5), .int (nI (ul u 5)), .int (nI (uz u 5))])), (ta 0, .inl ((cy 0), 4, .inl (ut u 0))), (ta 1, .inl ((cy 0), 4, .inl (ut u 1))), (ta 2, .inl ((cy 0), 4, .inl (ut u 2))), (ta 3, .inl ((cy 0), 4, .inl (ut u 3))), (ta 4, .inl ((cy 0), 4, .inl (ut u 4))), (ta 5, .inl ((cy 0), 4, .inl (ut u 5)))] := hD
              refine lv_iload hx hb dX2_setWeather_81 (lv_at hl 0 rfl) ?_
              have hP9 : va_P D vwCl (wX cy a q q2 ca ta (uWea u (ix (nI j)) v w) g) H := (by rw [e9]; exact hP)
              have hD9 : va_D A (wX cy a q q2 ca ta (uWea u (ix (nI j)) v w) g) := (by rw [e9]; exact hD)
              refine vx_ret ?_
              refine W.widen (k := 1) (n := 6) (Nat.le_of_ble_eq_true rfl) (Nat.le_of_ble_eq_true rfl) ?_
              exact W.iret (v := wea u j) hx hb hr (fun t ht hW => ⟨⟨wea u j, (), rfl, ⟨(by simp [exWea, hp1, isWi, isDa, c21, c27, c41, c47]), by rw [e9]⟩, by rw [ht]; exact hP9, hD9⟩, hS.F ht⟩) hS.2.2 dX2_setWeather_83
            · exact px_throwS (ik := 44) (is := 80) (ic := 48) (cls := xA) (text := "the damp is not 0 to 9") hx hb hst hown xf_A (by decide) (hts _ kX2_setWeather_2) (hts _ kX2_setWeather_3) (fun w hw => hts w (xgX2_setWeather_48 w hw)) xb_48 xo_48 hX (by decide) rfl rfl (by rw [hml]; exact hl.1) dX2_setWeather_50 dX2_setWeather_53 dX2_setWeather_54 dX2_setWeather_56 dX2_setWeather_59 hex (Nat.le_of_ble_eq_true rfl) (Nat.le_of_ble_eq_true rfl) (Nat.le_of_ble_eq_true rfl) (Nat.le_of_ble_eq_true rfl) hlocks (by simp [exWea, xn, isS, isWi, isDa, c1, c7, c21, c27, c41, c47]) (Nat.le_of_ble_eq_true rfl) (Nat.le_of_ble_eq_true rfl)
        · exact px_throwS (ik := 44) (is := 78) (ic := 48) (cls := xA) (text := "the wind is not 0 to 20") hx hb hst hown xf_A (by decide) (hts _ kX2_setWeather_2) (hts _ kX2_setWeather_3) (fun w hw => hts w (xgX2_setWeather_48 w hw)) xb_48 xo_48 hX (by decide) rfl rfl (by rw [hml]; exact hl.1) dX2_setWeather_30 dX2_setWeather_33 dX2_setWeather_34 dX2_setWeather_36 dX2_setWeather_39 hex (Nat.le_of_ble_eq_true rfl) (Nat.le_of_ble_eq_true rfl) (Nat.le_of_ble_eq_true rfl) (Nat.le_of_ble_eq_true rfl) hlocks (by simp [exWea, xn, isS, isWi, c1, c7, c21, c27]) (Nat.le_of_ble_eq_true rfl) (Nat.le_of_ble_eq_true rfl)
    · exact px_throwS (ik := 73) (is := 75) (ic := 77) (cls := xI) (text := "the hour is not 0 to 11") hx hb hst hown xf_I (by decide) (hts _ kX2_setWeather_0) (hts _ kX2_setWeather_1) (fun w hw => hts w (xgX2_setWeather_77 w hw)) xb_77 xo_77 hX (by decide) rfl rfl (by rw [hml]; exact hl.1) dX2_setWeather_10 dX2_setWeather_13 dX2_setWeather_14 dX2_setWeather_16 dX2_setWeather_19 hex (Nat.le_of_ble_eq_true rfl) (Nat.le_of_ble_eq_true rfl) (Nat.le_of_ble_eq_true rfl) (Nat.le_of_ble_eq_true rfl) hlocks (by simp [exWea, xn, isS, c1, c7]) (Nat.le_of_ble_eq_true rfl) (Nat.le_of_ble_eq_true rfl)

theorem inX2_string_RX2 : ∀ w ∈ u_ws RX2 TX2 6, w ∈ wsX2_string := by decide +kernel
theorem xgX2_string_77 : ∀ w ∈ (vx_atS RX2 77 xI xNm).filter goodWord, w ∈ wsX2_string := by decide +kernel
theorem kX2_string_0 : (.classLink RX2 73 xI : Cond) ∈ wsX2_string := by decide +kernel
theorem kX2_string_1 : (.initialized xI : Cond) ∈ wsX2_string := by decide +kernel
theorem kX2_string_2 : (.fieldLink RX2 10 "WedgeHarps" "now" "LWedgeHarps$Harp;" : Cond) ∈ wsX2_string := by decide +kernel
set_option maxHeartbeats 4000000 in
set_option maxRecDepth 100000 in
theorem mX2_string (l : Launch) (hst : l.stackTraces = false) (D : va_G) (cy : Nat → ClassId) (a q q2 ca ta : Nat → Nat) (u : US) (g : HS) (hu : uOk u) (k v : Int32) : vx_Met l yX2_string wsX2_string ({ frames := 7, cells := 2, slots := 12, locals := 102 } : Room) (va_Pc [.ref (a 0), .int k, .int v] (fun U => va_P D vwCl (wX cy a q q2 ca ta u g) U.heap ∧ va_K D vwCl (TY cy) U ∧ xC U U.heap)) (vp_Si (fun r8 => (exStr k v = 0) ∧ r8 = factH (uh u) (ix k) (ix v))) (pX (fun E => E = xn (exStr k v) ∧ exStr k v ≠ 0)) 2 12 (fun _ => False) := by
  refine vx_ofW (cc := cX2_string) (maxL := 3) (ret := (some .int)) (by decide) rfl ?_
  intro p e s m args below meth c s₁ B hml hex hv
  obtain ⟨rfl, hP, hK, hX⟩ := hv
  have hx := B.exec
  have hb := B.bytes
  have hr := B.returns
  have hts := atoms_spec (ws := wsX2_string) B.pre
  have hown : s.vm.findClass RX2 = some m.cls := findClass_of_methodNamed B.named
  have hlocks := B.notSynchronized
  have hl := lv_entry ([.ref (a 0), .int k, .int v]) (n := 3) (Nat.le_of_ble_eq_true rfl)
  rw [lg_entry_eq]
  generalize (lg_sl ([.ref (a 0), .int k, .int v]) ++ List.replicate (3 - (lg_sl ([.ref (a 0), .int k, .int v])).length) Slot.unset).toArray = ls at hl ⊢
  have hl : lv_has ls 3 [(0, .ref (a 0)), (1, .int k), (2, .int v)] := hl
  refine lv_iload_n hx hb dX2_string_0 rfl (lv_at hl 1 rfl) ?_
  refine px_callv (vx_runS (As := [.int k]) (rest := []) ⟨hx, hb, hml, hown, hts⟩ (mX2_checkString l hst D cy k) (va_cwS 1 hts gX2_string_X2_checkString rfl rfl rfl (by decide +kernel) ⟨Nat.le_of_ble_eq_true rfl, Nat.le_of_ble_eq_true rfl⟩) ⟨fun a U g mk q => ⟨q.1, xC.warm (State.WarmedH.refl U) q.2⟩, fun U hU hW => ⟨rfl, (show xC U U.heap by rw [hU]; exact hX.warm hW)⟩⟩ rfl rfl hl.1 rfl (lv_room (Nat.le_of_ble_eq_true rfl)) dX2_string_1 ⟨Nat.le_of_ble_eq_true rfl, Nat.le_of_ble_eq_true rfl⟩) (fun E9 ce9 q9 H9 hE9 h19 h29 hce9 hcv9 hcl9 => px_out hex hlocks h19 h29 hce9 hcv9 hcl9 (by simp [exStr, xn, hE9.1, hE9.2]) (Nat.le_of_ble_eq_true rfl) (Nat.le_of_ble_eq_true rfl)) (fun hp1 => ?_)
  refine W.widen (k := 1) (n := 6) (Nat.le_of_ble_eq_true rfl) (Nat.le_of_ble_eq_true rfl) ?_
  refine lv_iload_n hx hb dX2_string_4 rfl (lv_at hl 2 rfl) ?_
  refine lv_if_lt (tgt := 14) hx hb dX2_string_5 (by decide) (fun c5 => ?_) (fun c5 => ?_)
  · exact px_throwS (ik := 73) (is := 85) (ic := 77) (cls := xI) (text := "what is not 0 to 6") hx hb hst hown xf_I (by decide) (hts _ kX2_string_0) (hts _ kX2_string_1) (fun w hw => hts w (xgX2_string_77 w hw)) xb_77 xo_77 hX (by decide) rfl rfl (by rw [hml]; exact hl.1) dX2_string_14 dX2_string_17 dX2_string_18 dX2_string_20 dX2_string_23 hex (Nat.le_of_ble_eq_true rfl) (Nat.le_of_ble_eq_true rfl) (Nat.le_of_ble_eq_true rfl) (Nat.le_of_ble_eq_true rfl) hlocks (by simp [exStr, xn, hp1, isF, c5]) (Nat.le_of_ble_eq_true rfl) (Nat.le_of_ble_eq_true rfl)
  · refine lv_iload_n hx hb dX2_string_8 rfl (lv_at hl 2 rfl) ?_
    refine lv_bipush (v := 7) hx hb dX2_string_9 (by decide) ?_
    refine lv_icmp_lt (tgt := 24) hx hb dX2_string_11 (by decide) (fun c11 => ?_) (fun c11 => ?_)
    · obtain ⟨j, hj, rfl⟩ := isS_nat hp1
      have e9 : ix (nI j) = j := (ix_nI (show j < 2147483648 by omega))
      have hpf : isF v = true := by simp [isF, c5, c11]
      obtain ⟨w, hw, rfl⟩ := isF_nat hpf
      have f9 : ix (nI w) = w := (ix_nI (show w < 2147483648 by omega))
      refine lv_aload_n hx hb dX2_string_24 rfl (lv_at hl 0 rfl) ?_
      refine va_get (D := D) (ci := 2) (v := .ref (q 0)) (C := RX2) (T := TX2) (N := 6) hx hb hts inX2_string_RX2 hown hK hP 0 rfl rfl 0 (by decide) (hts _ kX2_string_2) (fun _ h9 => h9) rfl dX2_string_25 ?_
      refine lv_iload_n hx hb dX2_string_28 rfl (lv_at hl 1 rfl) ?_
      refine lv_iload_n hx hb dX2_string_29 rfl (lv_at hl 2 rfl) ?_
      have hPc := hP.sub (ws' := wH cy q (uh u)) [3, 4, 5, 6, 7, 8, 9] rfl
      refine pc_calli (va_runV (As := [.int (nI j), .int (nI w)]) (rest := []) ⟨hx, hb, hml, hown, hts⟩ (mX1_factOf l D cy q (uh u) j hj w hw hu.1) (cwV 2 hts gX2_string_X1_factOf rfl rfl rfl (by decide +kernel) ⟨Nat.le_of_ble_eq_true rfl, Nat.le_of_ble_eq_true rfl⟩) ⟨fun a U g mk q => ⟨q.1, q.2.1, va_K.moved (u := U) (U := U.calling g mk a) (Vm.Alike.refl U.vm) q.2.2⟩, va_recv hK hPc (ci := 1) (q0 := 0) rfl rfl, fun U hU hW => ⟨rfl, by rw [hU]; exact hPc, va_K.moved hW.alike hK⟩⟩ rfl rfl hl.1 rfl (lv_room (Nat.le_of_ble_eq_true rfl)) dX2_string_30 ⟨Nat.le_of_ble_eq_true rfl, Nat.le_of_ble_eq_true rfl⟩) (fun r9 hr9 => ?_)
      subst hr9
      refine vx_ret ?_
      refine W.widen (k := 2) (n := 12) (Nat.le_of_ble_eq_true rfl) (Nat.le_of_ble_eq_true rfl) ?_
      exact W.iret (v := factH (uh u) j w) hx hb hr (fun t ht hW => ⟨factH (uh u) j w, rfl, ⟨(by simp [exStr, hp1, hpf]), by rw [e9, f9]⟩, ht⟩) (fun q hq => absurd hq List.not_mem_nil) dX2_string_33
    · exact px_throwS (ik := 73) (is := 85) (ic := 77) (cls := xI) (text := "what is not 0 to 6") hx hb hst hown xf_I (by decide) (hts _ kX2_string_0) (hts _ kX2_string_1) (fun w hw => hts w (xgX2_string_77 w hw)) xb_77 xo_77 hX (by decide) rfl rfl (by rw [hml]; exact hl.1) dX2_string_14 dX2_string_17 dX2_string_18 dX2_string_20 dX2_string_23 hex (Nat.le_of_ble_eq_true rfl) (Nat.le_of_ble_eq_true rfl) (Nat.le_of_ble_eq_true rfl) (Nat.le_of_ble_eq_true rfl) hlocks (by simp [exStr, xn, hp1, isF, c5, c11]) (Nat.le_of_ble_eq_true rfl) (Nat.le_of_ble_eq_true rfl)


theorem inX2_off_RX2 : ∀ w ∈ u_ws RX2 TX2 6, w ∈ wsX2_off := by decide +kernel
theorem kX2_off_0 : (.fieldLink RX2 10 "WedgeHarps" "now" "LWedgeHarps$Harp;" : Cond) ∈ wsX2_off := by decide +kernel
theorem kX2_off_1 : (.fieldLink RX2 28 "WedgeHarps" "chords" "[LWedgeHarps$Chord;" : Cond) ∈ wsX2_off := by decide +kernel
set_option maxHeartbeats 4000000 in
set_option maxRecDepth 100000 in
theorem mX2_off (l : Launch) (hst : l.stackTraces = false) (D : va_G) (cy : Nat → ClassId) (a q q2 ca ta : Nat → Nat) (u : US) (g : HS) (hu : uOk u) (v : Int32) : vx_Met l yX2_off wsX2_off ({ frames := 7, cells := 1, slots := 6, locals := 103 } : Room) (va_Pc [.ref (a 0), .int v] (fun U => va_P D vwCl (wX cy a q q2 ca ta u g) U.heap ∧ va_K D vwCl (TY cy) U ∧ xC U U.heap)) (vp_Si (fun r8 => (exC u v = 0) ∧ r8 = offBy (uh u) (ul u (ix v)) (ut u (ix v)) (uz u (ix v)))) (pX (fun E => E = xn (exC u v) ∧ exC u v ≠ 0)) 1 6 (fun _ => False) := by
  refine vx_ofW (cc := cX2_off) (maxL := 2) (ret := (some .int)) (by decide) rfl ?_
  intro p e s m args below meth c s₁ B hml hex hv
  obtain ⟨rfl, hP, hK, hX⟩ := hv
  have hx := B.exec
  have hb := B.bytes
  have hr := B.returns
  have hts := atoms_spec (ws := wsX2_off) B.pre
  have hown : s.vm.findClass RX2 = some m.cls := findClass_of_methodNamed B.named
  have hlocks := B.notSynchronized
  have hl := lv_entry ([.ref (a 0), .int v]) (n := 2) (Nat.le_of_ble_eq_true rfl)
  rw [lg_entry_eq]
  generalize (lg_sl ([.ref (a 0), .int v]) ++ List.replicate (2 - (lg_sl ([.ref (a 0), .int v])).length) Slot.unset).toArray = ls at hl ⊢
  have hl : lv_has ls 2 [(0, .ref (a 0)), (1, .int v)] := hl
  refine lv_aload_n hx hb dX2_off_0 rfl (lv_at hl 0 rfl) ?_
  refine lv_iload_n hx hb dX2_off_1 rfl (lv_at hl 1 rfl) ?_
  refine px_callv (vx_runV (As := [.int v]) (rest := []) ⟨hx, hb, hml, hown, hts⟩ (mX2_checkChord l hst D cy a q q2 ca ta u g hu v) (cwV 1 hts gX2_off_X2_checkChord rfl rfl rfl (by decide +kernel) ⟨Nat.le_of_ble_eq_true rfl, Nat.le_of_ble_eq_true rfl⟩) ⟨fun a U g mk q => ⟨q.1, q.2.1, va_K.moved (u := U) (U := U.calling g mk a) (Vm.Alike.refl U.vm) q.2.2.1, xC.warm (State.WarmedH.refl U) q.2.2.2⟩, va_recv hK hP (ci := 2) (q0 := 0) rfl rfl, fun U hU hW => ⟨rfl, by rw [hU]; exact hP, va_K.moved hW.alike hK, (show xC U U.heap by rw [hU]; exact hX.warm hW)⟩⟩ rfl rfl hl.1 rfl (lv_room (Nat.le_of_ble_eq_true rfl)) dX2_off_2 ⟨Nat.le_of_ble_eq_true rfl, Nat.le_of_ble_eq_true rfl⟩) (fun E9 ce9 q9 H9 hE9 h19 h29 hce9 hcv9 hcl9 => px_out hex hlocks h19 h29 hce9 hcv9 hcl9 (by simp [exC, xn, hE9.1, hE9.2]) (Nat.le_of_ble_eq_true rfl) (Nat.le_of_ble_eq_true rfl)) (fun hp2 => ?_)
  refine W.widen (k := 1) (n := 6) (Nat.le_of_ble_eq_true rfl) (Nat.le_of_ble_eq_true rfl) ?_
  obtain ⟨j, hj, rfl⟩ := isC_nat hu.2.1 hp2
  have h6 : j < 6 := by have := hu.2.1; omega
  have e9 : ix (nI j) = j := (ix_nI (show j < 2147483648 by omega))
  refine lv_aload_n hx hb dX2_off_5 rfl (lv_at hl 0 rfl) ?_
  refine va_get (D := D) (ci := 2) (v := .ref (q 0)) (C := RX2) (T := TX2) (N := 6) hx hb hts inX2_off_RX2 hown hK hP 0 rfl rfl 0 (by decide) (hts _ kX2_off_0) (fun _ h9 => h9) rfl dX2_off_6 ?_
  refine lv_aload_n hx hb dX2_off_9 rfl (lv_at hl 0 rfl) ?_
  refine va_get (D := D) (ci := 2) (v := .ref (a 3)) (C := RX2) (T := TX2) (N := 6) hx hb hts inX2_off_RX2 hown hK hP 0 rfl rfl 4 (by decide) (hts _ kX2_off_1) (fun _ h9 => h9) rfl dX2_off_10 ?_
  refine lv_iload_n hx hb dX2_off_13 rfl (lv_at hl 1 rfl) ?_
  refine pc_aldq hx hb hK hP 17 2 rfl rfl (k := j) (show j < 6 by omega) (by decide) (v := ca j) rfl dX2_off_14 ?_
  have hPc := wX_ch hP h6
  refine pc_calli (va_runV (As := [.ref (ca j)]) (rest := []) ⟨hx, hb, hml, hown, hts⟩ (mX1_distanceFrom l D cy q (uh u) (ca j) (ta j) (ul u j) (uz u j) (ut u j) (hu.2.2.1 j h6).1 (hu.2.2.1 j h6).2) (cwV 1 hts gX2_off_X1_distanceFrom rfl rfl rfl (by decide +kernel) ⟨Nat.le_of_ble_eq_true rfl, Nat.le_of_ble_eq_true rfl⟩) ⟨fun a U g mk q => ⟨q.1, q.2.1, va_K.moved (u := U) (U := U.calling g mk a) (Vm.Alike.refl U.vm) q.2.2⟩, va_recv hK hPc (ci := 1) (q0 := 0) rfl rfl, fun U hU hW => ⟨rfl, by rw [hU]; exact hPc, va_K.moved hW.alike hK⟩⟩ rfl rfl hl.1 rfl (lv_room (Nat.le_of_ble_eq_true rfl)) dX2_off_15 ⟨Nat.le_of_ble_eq_true rfl, Nat.le_of_ble_eq_true rfl⟩) (fun r9 hr9 => ?_)
  subst hr9
  refine vx_ret ?_
  exact W.iret (v := offBy (uh u) (ul u j) (ut u j) (uz u j)) hx hb hr (fun t ht hW => ⟨offBy (uh u) (ul u j) (ut u j) (uz u j), rfl, ⟨(by simp [exC, hp2]), by rw [e9]⟩, ht⟩) (fun q hq => absurd hq List.not_mem_nil) dX2_off_18

theorem inX2_sounds_RX2 : ∀ w ∈ u_ws RX2 TX2 6, w ∈ wsX2_sounds := by decide +kernel
theorem kX2_sounds_0 : (.fieldLink RX2 10 "WedgeHarps" "now" "LWedgeHarps$Harp;" : Cond) ∈ wsX2_sounds := by decide +kernel
theorem kX2_sounds_1 : (.fieldLink RX2 28 "WedgeHarps" "chords" "[LWedgeHarps$Chord;" : Cond) ∈ wsX2_sounds := by decide +kernel
set_option maxHeartbeats 4000000 in
set_option maxRecDepth 100000 in
theorem mX2_sounds (l : Launch) (hst : l.stackTraces = false) (D : va_G) (cy : Nat → ClassId) (a q q2 ca ta : Nat → Nat) (u : US) (g : HS) (hu : uOk u) (v : Int32) : vx_Met l yX2_sounds wsX2_sounds ({ frames := 7, cells := 1, slots := 6, locals := 103 } : Room) (va_Pc [.ref (a 0), .int v] (fun U => va_P D vwCl (wX cy a q q2 ca ta u g) U.heap ∧ va_K D vwCl (TY cy) U ∧ xC U U.heap)) (vp_Si (fun r8 => (exC u v = 0) ∧ r8 = bI (snd u (ix v)))) (pX (fun E => E = xn (exC u v) ∧ exC u v ≠ 0)) 1 6 (fun _ => False) := by
  refine vx_ofW (cc := cX2_sounds) (maxL := 2) (ret := (some .boolean)) (by decide) rfl ?_
  intro p e s m args below meth c s₁ B hml hex hv
  obtain ⟨rfl, hP, hK, hX⟩ := hv
  have hx := B.exec
  have hb := B.bytes
  have hr := B.returns
  have hts := atoms_spec (ws := wsX2_sounds) B.pre
  have hown : s.vm.findClass RX2 = some m.cls := findClass_of_methodNamed B.named
  have hlocks := B.notSynchronized
  have hl := lv_entry ([.ref (a 0), .int v]) (n := 2) (Nat.le_of_ble_eq_true rfl)
  rw [lg_entry_eq]
  generalize (lg_sl ([.ref (a 0), .int v]) ++ List.replicate (2 - (lg_sl ([.ref (a 0), .int v])).length) Slot.unset).toArray = ls at hl ⊢
  have hl : lv_has ls 2 [(0, .ref (a 0)), (1, .int v)] := hl
  refine lv_aload_n hx hb dX2_sounds_0 rfl (lv_at hl 0 rfl) ?_
  refine lv_iload_n hx hb dX2_sounds_1 rfl (lv_at hl 1 rfl) ?_
  refine px_callv (vx_runV (As := [.int v]) (rest := []) ⟨hx, hb, hml, hown, hts⟩ (mX2_checkChord l hst D cy a q q2 ca ta u g hu v) (cwV 1 hts gX2_sounds_X2_checkChord rfl rfl rfl (by decide +kernel) ⟨Nat.le_of_ble_eq_true rfl, Nat.le_of_ble_eq_true rfl⟩) ⟨fun a U g mk q => ⟨q.1, q.2.1, va_K.moved (u := U) (U := U.calling g mk a) (Vm.Alike.refl U.vm) q.2.2.1, xC.warm (State.WarmedH.refl U) q.2.2.2⟩, va_recv hK hP (ci := 2) (q0 := 0) rfl rfl, fun U hU hW => ⟨rfl, by rw [hU]; exact hP, va_K.moved hW.alike hK, (show xC U U.heap by rw [hU]; exact hX.warm hW)⟩⟩ rfl rfl hl.1 rfl (lv_room (Nat.le_of_ble_eq_true rfl)) dX2_sounds_2 ⟨Nat.le_of_ble_eq_true rfl, Nat.le_of_ble_eq_true rfl⟩) (fun E9 ce9 q9 H9 hE9 h19 h29 hce9 hcv9 hcl9 => px_out hex hlocks h19 h29 hce9 hcv9 hcl9 (by simp [exC, xn, hE9.1, hE9.2]) (Nat.le_of_ble_eq_true rfl) (Nat.le_of_ble_eq_true rfl)) (fun hp2 => ?_)
  refine W.widen (k := 1) (n := 6) (Nat.le_of_ble_eq_true rfl) (Nat.le_of_ble_eq_true rfl) ?_
  obtain ⟨j, hj, rfl⟩ := isC_nat hu.2.1 hp2
  have h6 : j < 6 := by have := hu.2.1; omega
  have e9 : ix (nI j) = j := (ix_nI (show j < 2147483648 by omega))
  refine lv_aload_n hx hb dX2_sounds_5 rfl (lv_at hl 0 rfl) ?_
  refine va_get (D := D) (ci := 2) (v := .ref (q 0)) (C := RX2) (T := TX2) (N := 6) hx hb hts inX2_sounds_RX2 hown hK hP 0 rfl rfl 0 (by decide) (hts _ kX2_sounds_0) (fun _ h9 => h9) rfl dX2_sounds_6 ?_
  refine lv_aload_n hx hb dX2_sounds_9 rfl (lv_at hl 0 rfl) ?_
  refine va_get (D := D) (ci := 2) (v := .ref (a 3)) (C := RX2) (T := TX2) (N := 6) hx hb hts inX2_sounds_RX2 hown hK hP 0 rfl rfl 4 (by decide) (hts _ kX2_sounds_1) (fun _ h9 => h9) rfl dX2_sounds_10 ?_
  refine lv_iload_n hx hb dX2_sounds_13 rfl (lv_at hl 1 rfl) ?_
  refine pc_aldq hx hb hK hP 17 2 rfl rfl (k := j) (show j < 6 by omega) (by decide) (v := ca j) rfl dX2_sounds_14 ?_
  have hPc := wX_ch hP h6
  refine pc_calli (va_runV (As := [.ref (ca j)]) (rest := []) ⟨hx, hb, hml, hown, hts⟩ (mX1_isTunedTo l D cy q (uh u) (ca j) (ta j) (ul u j) (uz u j) (ut u j) (hu.2.2.1 j h6).1 (hu.2.2.1 j h6).2) (cwV 1 hts gX2_sounds_X1_isTunedTo rfl rfl rfl (by decide +kernel) ⟨Nat.le_of_ble_eq_true rfl, Nat.le_of_ble_eq_true rfl⟩) ⟨fun a U g mk q => ⟨q.1, q.2.1, va_K.moved (u := U) (U := U.calling g mk a) (Vm.Alike.refl U.vm) q.2.2⟩, va_recv hK hPc (ci := 1) (q0 := 0) rfl rfl, fun U hU hW => ⟨rfl, by rw [hU]; exact hPc, va_K.moved hW.alike hK⟩⟩ rfl rfl hl.1 rfl (lv_room (Nat.le_of_ble_eq_true rfl)) dX2_sounds_15 ⟨Nat.le_of_ble_eq_true rfl, Nat.le_of_ble_eq_true rfl⟩) (fun r9 hr9 => ?_)
  subst hr9
  refine vx_ret ?_
  exact W.zret (v := bI (snd u j)) hx hb hr (bI_nar _) (fun t ht hW => ⟨bI (snd u j), rfl, ⟨(by simp [exC, hp2]), by rw [e9]⟩, ht⟩) (fun q hq => absurd hq List.not_mem_nil) dX2_sounds_18

theorem inX2_soundingChords_RX2 : ∀ w ∈ u_ws RX2 TX2 6, w ∈ wsX2_soundingChords := by decide +kernel
theorem kX2_soundingChords_0 : (.fieldLink RX2 33 "WedgeHarps" "told" "I" : Cond) ∈ wsX2_soundingChords := by decide +kernel
theorem kX2_soundingChords_1 : (.fieldLink RX2 10 "WedgeHarps" "now" "LWedgeHarps$Harp;" : Cond) ∈ wsX2_soundingChords := by decide +kernel
theorem kX2_soundingChords_2 : (.fieldLink RX2 28 "WedgeHarps" "chords" "[LWedgeHarps$Chord;" : Cond) ∈ wsX2_soundingChords := by decide +kernel
set_option maxHeartbeats 4000000 in
set_option maxRecDepth 100000 in
theorem mX2_soundingChords (l : Launch) (D : va_G) (cy : Nat → ClassId) (a q q2 ca ta : Nat → Nat) (u : US) (g : HS) (hu : uOk u) : Met l yX2_soundingChords wsX2_soundingChords ({ frames := 3, cells := 0, slots := 0, locals := 70 } : Room) (va_Pc [.ref (a 0)] (fun U => va_P D vwCl (wX cy a q q2 ca ta u g) U.heap ∧ va_K D vwCl (TY cy) U)) (vp_Si (fun r8 => r8 = nI (cnt (snd u) 0 (un u)))) 0 0 (fun _ => False) := by
  refine Met.ofW (cc := cX2_soundingChords) (maxL := 3) (ret := (some .int)) (by decide) rfl ?_
  intro p e s m args below meth c s₁ B hml hv
  obtain ⟨rfl, hP, hK⟩ := hv
  have hx := B.exec
  have hb := B.bytes
  have hr := B.returns
  have hts := atoms_spec (ws := wsX2_soundingChords) B.pre
  have hown : s.vm.findClass RX2 = some m.cls := findClass_of_methodNamed B.named
  have hlocks := B.notSynchronized
  have hl := lv_entry ([.ref (a 0)]) (n := 3) (Nat.le_of_ble_eq_true rfl)
  rw [lg_entry_eq]
  generalize (lg_sl ([.ref (a 0)]) ++ List.replicate (3 - (lg_sl ([.ref (a 0)])).length) Slot.unset).toArray = ls at hl ⊢
  have hl : lv_has ls 3 [(0, .ref (a 0))] := hl
  have hn9 : un u ≤ 6 := hu.2.1
  refine lv_iconst (v := 0) hx hb dX2_soundingChords_0 (by decide) ?_
  refine lv_istore_n (lv' := [(1, .int 0), (0, .ref (a 0))]) hx hb dX2_soundingChords_1 rfl hl (by decide) rfl (fun ls hl => ?_)
  refine lv_iconst (v := 0) hx hb dX2_soundingChords_2 (by decide) ?_
  refine lv_istore_n (lv' := [(2, .int 0), (1, .int 0), (0, .ref (a 0))]) hx hb dX2_soundingChords_3 rfl hl (by decide) rfl (fun ls hl => ?_)
  have loop4 : ∀ (n9 : Nat) (k : Nat), k ≤ un u → un u - k < n9 → ∀ ls : Array Slot, lv_has ls 3 [(0, .ref (a 0)), (1, .int (nI (cnt (snd u) 0 k))), (2, .int (nI k))] → W p l e (headSpec wsX2_soundingChords ({ frames := 3, cells := 0, slots := 0, locals := 70 } : Room)).room s m ([.ref (a 0)] : List Value).toArray below meth c s.heap [] 0 0 (MQ below (vp_Si (fun r8 => r8 = nI (cnt (snd u) 0 (un u)))) ([.ref (a 0)] : List Value).toArray s 0 0 (fun _ => False)) (F0 m 4 ls []) := by
    intro n9
    induction n9 with
    | zero => intro k hk h9 ls hl; exact absurd h9 (by omega)
    | succ n9 ih4 =>
      intro k hk h9 ls hl
      refine lv_iload_n hx hb dX2_soundingChords_4 rfl (lv_at hl 2 rfl) ?_
      refine lv_aload_n hx hb dX2_soundingChords_5 rfl (lv_at hl 0 rfl) ?_
      refine va_get (D := D) (ci := 2) (v := .int (nI (un u))) (C := RX2) (T := TX2) (N := 6) hx hb hts inX2_soundingChords_RX2 hown hK hP 0 rfl rfl 5 (by decide) (hts _ kX2_soundingChords_0) (fun _ h9 => h9) rfl dX2_soundingChords_6 ?_
      refine lv_icmp_ge (tgt := 37) hx hb dX2_soundingChords_9 (by decide) (fun c9 => ?_) (fun c9 => ?_)
      · have n9 : un u ≤ k := (nI_leI (a := un u) (b := k) (by omega) (by omega)).mp c9
        refine lv_iload_n hx hb dX2_soundingChords_37 rfl (lv_at hl 1 rfl) ?_
        exact W.iret (v := nI (cnt (snd u) 0 k)) hx hb hr (fun t ht hW => ⟨nI (cnt (snd u) 0 k), rfl, (by rw [show k = un u by omega]), ht⟩) (fun q hq => absurd hq List.not_mem_nil) dX2_soundingChords_38
      · have n9 : ¬ (un u ≤ k) := fun h9 => c9 ((nI_leI (a := un u) (b := k) (by omega) (by omega)).mpr h9)
        have k6 : k < 6 := by omega
        refine lv_aload_n hx hb dX2_soundingChords_12 rfl (lv_at hl 0 rfl) ?_
        refine va_get (D := D) (ci := 2) (v := .ref (q 0)) (C := RX2) (T := TX2) (N := 6) hx hb hts inX2_soundingChords_RX2 hown hK hP 0 rfl rfl 0 (by decide) (hts _ kX2_soundingChords_1) (fun _ h9 => h9) rfl dX2_soundingChords_13 ?_
        refine lv_aload_n hx hb dX2_soundingChords_16 rfl (lv_at hl 0 rfl) ?_
        refine va_get (D := D) (ci := 2) (v := .ref (a 3)) (C := RX2) (T := TX2) (N := 6) hx hb hts inX2_soundingChords_RX2 hown hK hP 0 rfl rfl 4 (by decide) (hts _ kX2_soundingChords_2) (fun _ h9 => h9) rfl dX2_soundingChords_17 ?_
        refine lv_iload_n hx hb dX2_soundingChords_20 rfl (lv_at hl 2 rfl) ?_
        refine pc_aldq hx hb hK hP 17 2 rfl rfl (k := k) (show k < 6 by omega) (by decide) (v := ca k) rfl dX2_soundingChords_21 ?_
        have hPc := wX_ch hP k6
        refine pc_calli (va_runV (As := [.ref (ca k)]) (rest := []) ⟨hx, hb, hml, hown, hts⟩ (mX1_isTunedTo l D cy q (uh u) (ca k) (ta k) (ul u k) (uz u k) (ut u k) (hu.2.2.1 k k6).1 (hu.2.2.1 k k6).2) (cwV 1 hts gX2_soundingChords_X1_isTunedTo rfl rfl rfl (by decide +kernel) ⟨Nat.le_of_ble_eq_true rfl, Nat.le_of_ble_eq_true rfl⟩) ⟨fun a U g mk q => ⟨q.1, q.2.1, va_K.moved (u := U) (U := U.calling g mk a) (Vm.Alike.refl U.vm) q.2.2⟩, va_recv hK hPc (ci := 1) (q0 := 0) rfl rfl, fun U hU hW => ⟨rfl, by rw [hU]; exact hPc, va_K.moved hW.alike hK⟩⟩ rfl rfl hl.1 rfl (lv_room (Nat.le_of_ble_eq_true rfl)) dX2_soundingChords_22 ⟨Nat.le_of_ble_eq_true rfl, Nat.le_of_ble_eq_true rfl⟩) (fun r9 hr9 => ?_)
        subst hr9
        refine lv_if_eq (tgt := 31) hx hb dX2_soundingChords_25 (by decide) (fun c25 => ?_) (fun c25 => ?_)
        · have r9 : nI (cnt (snd u) 0 k) = nI (cnt (snd u) 0 (k + 1)) := (by simp [cnt, show snd u k = false from bI_0.mp c25])
          rw [r9] at hl
          clear r9
          refine lv_iinc (v := nI (k + 1)) (lv' := [(2, .int (nI (k + 1))), (0, .ref (a 0)), (1, .int (nI (cnt (snd u) 0 (k + 1))))]) hx hb dX2_soundingChords_31 hl (k := 2) rfl ((show (nI k) + Int32.ofInt 1 = (nI k) + 1 from rfl).trans (show (nI k) + 1 = nI (k + 1) from nI_add k 1)) (by decide) rfl (fun ls hl => ?_)
          refine lv_goto (tgt := 4) hx hb dX2_soundingChords_34 (by decide) ?_
          exact ih4 (k + 1) (by omega) (by omega) ls (lv_sub hl [1, 2, 0] rfl)
        · refine lv_iinc (v := nI (cnt (snd u) 0 k + 1)) (lv' := [(1, .int (nI (cnt (snd u) 0 k + 1))), (0, .ref (a 0)), (2, .int (nI k))]) hx hb dX2_soundingChords_28 hl (k := 1) rfl ((show (nI (cnt (snd u) 0 k)) + Int32.ofInt 1 = (nI (cnt (snd u) 0 k)) + 1 from rfl).trans (show (nI (cnt (snd u) 0 k)) + 1 = nI (cnt (snd u) 0 k + 1) from nI_add (cnt (snd u) 0 k) 1)) (by decide) rfl (fun ls hl => ?_)
          have r9 : nI (cnt (snd u) 0 k + 1) = nI (cnt (snd u) 0 (k + 1)) := (by simp [cnt, show snd u k = true from bI_1.mp c25])
          rw [r9] at hl
          clear r9
          refine lv_iinc (v := nI (k + 1)) (lv' := [(2, .int (nI (k + 1))), (1, .int (nI (cnt (snd u) 0 (k + 1)))), (0, .ref (a 0))]) hx hb dX2_soundingChords_31 hl (k := 2) rfl ((show (nI k) + Int32.ofInt 1 = (nI k) + 1 from rfl).trans (show (nI k) + 1 = nI (k + 1) from nI_add k 1)) (by decide) rfl (fun ls hl => ?_)
          refine lv_goto (tgt := 4) hx hb dX2_soundingChords_34 (by decide) ?_
          exact ih4 (k + 1) (by omega) (by omega) ls (lv_sub hl [2, 1, 0] rfl)
  exact loop4 (un u + 1) 0 (Nat.zero_le _) (by omega) ls (lv_sub hl [2, 1, 0] rfl)

theorem inX2_countOf_RX1 : ∀ w ∈ u_ws RX1 TX1 8, w ∈ wsX2_countOf := by decide +kernel
theorem inX2_countOf_RX2 : ∀ w ∈ u_ws RX2 TX2 6, w ∈ wsX2_countOf := by decide +kernel
theorem kX2_countOf_0 : (.fieldLink RX2 10 "WedgeHarps" "now" "LWedgeHarps$Harp;" : Cond) ∈ wsX2_countOf := by decide +kernel
theorem kX2_countOf_1 : (.fieldLink RX2 184 "WedgeHarps$Harp" "hour" "I" : Cond) ∈ wsX2_countOf := by decide +kernel
theorem kX2_countOf_2 : (.fieldLink RX2 33 "WedgeHarps" "told" "I" : Cond) ∈ wsX2_countOf := by decide +kernel
theorem kX2_countOf_3 : (.fieldLink RX2 190 "WedgeHarps$Harp" "swelling" "I" : Cond) ∈ wsX2_countOf := by decide +kernel
theorem kX2_countOf_4 : (.fieldLink RX2 60 "WedgeHarps$Harp" "wedge" "[I" : Cond) ∈ wsX2_countOf := by decide +kernel
theorem kX2_countOf_5 : (.fieldLink RX2 197 "WedgeHarps$Harp" "strain" "[I" : Cond) ∈ wsX2_countOf := by decide +kernel
theorem kX2_countOf_6 : (.fieldLink RX2 200 "WedgeHarps$Harp" "breaks" "[I" : Cond) ∈ wsX2_countOf := by decide +kernel
set_option maxHeartbeats 4000000 in
set_option maxRecDepth 100000 in
theorem mX2_countOf (l : Launch) (D : va_G) (cy : Nat → ClassId) (a q q2 ca ta : Nat → Nat) (u : US) (g : HS) (hu : uOk u) (w : Nat) (hw : w < 8) : Met l yX2_countOf wsX2_countOf ({ frames := 4, cells := 0, slots := 0, locals := 92 } : Room) (va_Pc [.ref (a 0), .int (nI w)] (fun U => va_P D vwCl (wX cy a q q2 ca ta u g) U.heap ∧ va_K D vwCl (TY cy) U)) (vp_Si (fun r8 => r8 = cntOf u w)) 0 0 (fun _ => False) := by
  refine Met.ofW (cc := cX2_countOf) (maxL := 2) (ret := (some .int)) (by decide) rfl ?_
  intro p e s m args below meth c s₁ B hml hv
  obtain ⟨rfl, hP, hK⟩ := hv
  have hx := B.exec
  have hb := B.bytes
  have hr := B.returns
  have hts := atoms_spec (ws := wsX2_countOf) B.pre
  have hown : s.vm.findClass RX2 = some m.cls := findClass_of_methodNamed B.named
  have hlocks := B.notSynchronized
  have hl := lv_entry ([.ref (a 0), .int (nI w)]) (n := 2) (Nat.le_of_ble_eq_true rfl)
  rw [lg_entry_eq]
  generalize (lg_sl ([.ref (a 0), .int (nI w)]) ++ List.replicate (2 - (lg_sl ([.ref (a 0), .int (nI w)])).length) Slot.unset).toArray = ls at hl ⊢
  have hl : lv_has ls 2 [(0, .ref (a 0)), (1, .int (nI w))] := hl
  refine lv_iload_n hx hb dX2_countOf_0 rfl (lv_at hl 1 rfl) ?_
  rcases (show w = 0 ∨ w = 1 ∨ w = 2 ∨ w = 3 ∨ w = 4 ∨ w = 5 ∨ w = 6 ∨ w = 7 by omega) with rfl | rfl | rfl | rfl | rfl | rfl | rfl | rfl
  ·
    refine lv_tableIn (off := 43) (tgt := 44) hx hb dX2_countOf_1 (by decide) (by decide) rfl (by decide) ?_
    refine lv_aload_n hx hb dX2_countOf_44 rfl (lv_at hl 0 rfl) ?_
    refine va_get (D := D) (ci := 2) (v := .ref (q 0)) (C := RX2) (T := TX2) (N := 6) hx hb hts inX2_countOf_RX2 hown hK hP 0 rfl rfl 0 (by decide) (hts _ kX2_countOf_0) (fun _ h9 => h9) rfl dX2_countOf_45 ?_
    refine va_get (D := D) (ci := 1) (v := .int (nI (zh (uh u)))) (C := RX1) (T := TX1) (N := 8) hx hb hts inX2_countOf_RX1 hown hK hP 3 rfl rfl 7 (by decide) (hts _ kX2_countOf_1) (fun _ h9 => h9) rfl dX2_countOf_48 ?_
    exact W.iret (v := nI (zh (uh u))) hx hb hr (fun t ht hW => ⟨nI (zh (uh u)), rfl, rfl, ht⟩) (fun q hq => absurd hq List.not_mem_nil) dX2_countOf_51
  ·
    refine lv_tableIn (off := 51) (tgt := 52) hx hb dX2_countOf_1 (by decide) (by decide) rfl (by decide) ?_
    refine lv_aload_n hx hb dX2_countOf_52 rfl (lv_at hl 0 rfl) ?_
    refine va_get (D := D) (ci := 2) (v := .ref (q 0)) (C := RX2) (T := TX2) (N := 6) hx hb hts inX2_countOf_RX2 hown hK hP 0 rfl rfl 0 (by decide) (hts _ kX2_countOf_0) (fun _ h9 => h9) rfl dX2_countOf_53 ?_
    have hPc := hP.sub (ws' := wH cy q (uh u)) [3, 4, 5, 6, 7, 8, 9] rfl
    refine pc_calli (va_runV (As := []) (rest := []) ⟨hx, hb, hml, hown, hts⟩ (mX1_wholeStrings l D cy q (uh u) hu.1) (cwV 0 hts gX2_countOf_X1_wholeStrings rfl rfl rfl (by decide +kernel) ⟨Nat.le_of_ble_eq_true rfl, Nat.le_of_ble_eq_true rfl⟩) ⟨fun a U g mk q => ⟨q.1, q.2.1, va_K.moved (u := U) (U := U.calling g mk a) (Vm.Alike.refl U.vm) q.2.2⟩, va_recv hK hPc (ci := 1) (q0 := 0) rfl rfl, fun U hU hW => ⟨rfl, by rw [hU]; exact hPc, va_K.moved hW.alike hK⟩⟩ rfl rfl hl.1 rfl (lv_room (Nat.le_of_ble_eq_true rfl)) dX2_countOf_56 ⟨Nat.le_of_ble_eq_true rfl, Nat.le_of_ble_eq_true rfl⟩) (fun r9 hr9 => ?_)
    subst hr9
    exact W.iret (v := sumN (zo (uh u)) 12) hx hb hr (fun t ht hW => ⟨sumN (zo (uh u)) 12, rfl, rfl, ht⟩) (fun q hq => absurd hq List.not_mem_nil) dX2_countOf_59
  ·
    refine lv_tableIn (off := 59) (tgt := 60) hx hb dX2_countOf_1 (by decide) (by decide) rfl (by decide) ?_
    refine lv_aload_n hx hb dX2_countOf_60 rfl (lv_at hl 0 rfl) ?_
    refine va_get (D := D) (ci := 2) (v := .int (nI (un u))) (C := RX2) (T := TX2) (N := 6) hx hb hts inX2_countOf_RX2 hown hK hP 0 rfl rfl 5 (by decide) (hts _ kX2_countOf_2) (fun _ h9 => h9) rfl dX2_countOf_61 ?_
    exact W.iret (v := nI (un u)) hx hb hr (fun t ht hW => ⟨nI (un u), rfl, rfl, ht⟩) (fun q hq => absurd hq List.not_mem_nil) dX2_countOf_64
  ·
    refine lv_tableIn (off := 64) (tgt := 65) hx hb dX2_countOf_1 (by decide) (by decide) rfl (by decide) ?_
    refine lv_aload_n hx hb dX2_countOf_65 rfl (lv_at hl 0 rfl) ?_
    refine pc_calli (va_runV (As := []) (rest := []) ⟨hx, hb, hml, hown, hts⟩ (mX2_soundingChords l D cy a q q2 ca ta u g hu) (cwV 0 hts gX2_countOf_X2_soundingChords rfl rfl rfl (by decide +kernel) ⟨Nat.le_of_ble_eq_true rfl, Nat.le_of_ble_eq_true rfl⟩) ⟨fun a U g mk q => ⟨q.1, q.2.1, va_K.moved (u := U) (U := U.calling g mk a) (Vm.Alike.refl U.vm) q.2.2⟩, va_recv hK hP (ci := 2) (q0 := 0) rfl rfl, fun U hU hW => ⟨rfl, by rw [hU]; exact hP, va_K.moved hW.alike hK⟩⟩ rfl rfl hl.1 rfl (lv_room (Nat.le_of_ble_eq_true rfl)) dX2_countOf_66 ⟨Nat.le_of_ble_eq_true rfl, Nat.le_of_ble_eq_true rfl⟩) (fun r9 hr9 => ?_)
    subst hr9
    exact W.iret (v := nI (cnt (snd u) 0 (un u))) hx hb hr (fun t ht hW => ⟨nI (cnt (snd u) 0 (un u)), rfl, rfl, ht⟩) (fun q hq => absurd hq List.not_mem_nil) dX2_countOf_69
  ·
    refine lv_tableIn (off := 69) (tgt := 70) hx hb dX2_countOf_1 (by decide) (by decide) rfl (by decide) ?_
    refine lv_aload_n hx hb dX2_countOf_70 rfl (lv_at hl 0 rfl) ?_
    refine va_get (D := D) (ci := 2) (v := .ref (q 0)) (C := RX2) (T := TX2) (N := 6) hx hb hts inX2_countOf_RX2 hown hK hP 0 rfl rfl 0 (by decide) (hts _ kX2_countOf_0) (fun _ h9 => h9) rfl dX2_countOf_71 ?_
    refine va_get (D := D) (ci := 1) (v := .int (zl (uh u))) (C := RX1) (T := TX1) (N := 8) hx hb hts inX2_countOf_RX1 hown hK hP 3 rfl rfl 6 (by decide) (hts _ kX2_countOf_3) (fun _ h9 => h9) rfl dX2_countOf_74 ?_
    exact W.iret (v := zl (uh u)) hx hb hr (fun t ht hW => ⟨zl (uh u), rfl, rfl, ht⟩) (fun q hq => absurd hq List.not_mem_nil) dX2_countOf_77
  ·
    refine lv_tableIn (off := 77) (tgt := 78) hx hb dX2_countOf_1 (by decide) (by decide) rfl (by decide) ?_
    refine lv_aload_n hx hb dX2_countOf_78 rfl (lv_at hl 0 rfl) ?_
    refine va_get (D := D) (ci := 2) (v := .ref (q 0)) (C := RX2) (T := TX2) (N := 6) hx hb hts inX2_countOf_RX2 hown hK hP 0 rfl rfl 0 (by decide) (hts _ kX2_countOf_0) (fun _ h9 => h9) rfl dX2_countOf_79 ?_
    refine va_get (D := D) (ci := 1) (v := .ref (q 2)) (C := RX1) (T := TX1) (N := 8) hx hb hts inX2_countOf_RX1 hown hK hP 3 rfl rfl 1 (by decide) (hts _ kX2_countOf_4) (fun _ h9 => h9) rfl dX2_countOf_82 ?_
    have hPc := hP.sub (ws' := [(q 2, .inl (cy 0, 12, .inl (zw (uh u))))]) [5] rfl
    refine pc_calli (va_runS (As := [.ref (q 2)]) (rest := []) ⟨hx, hb, hml, hown, hts⟩ (mX2_sumOf l D cy (q 2) (zw (uh u))) (va_cwS 1 hts gX2_countOf_X2_sumOf rfl rfl rfl (by decide +kernel) ⟨Nat.le_of_ble_eq_true rfl, Nat.le_of_ble_eq_true rfl⟩) ⟨fun a U g mk q => ⟨q.1, q.2.1, va_K.moved (u := U) (U := U.calling g mk a) (Vm.Alike.refl U.vm) q.2.2⟩, fun U hU hW => ⟨rfl, by rw [hU]; exact hPc, va_K.moved hW.alike hK⟩⟩ rfl rfl hl.1 rfl (lv_room (Nat.le_of_ble_eq_true rfl)) dX2_countOf_85 ⟨Nat.le_of_ble_eq_true rfl, Nat.le_of_ble_eq_true rfl⟩) (fun r9 hr9 => ?_)
    subst hr9
    exact W.iret (v := sumN (zw (uh u)) 12) hx hb hr (fun t ht hW => ⟨sumN (zw (uh u)) 12, rfl, rfl, ht⟩) (fun q hq => absurd hq List.not_mem_nil) dX2_countOf_88
  ·
    refine lv_tableIn (off := 88) (tgt := 89) hx hb dX2_countOf_1 (by decide) (by decide) rfl (by decide) ?_
    refine lv_aload_n hx hb dX2_countOf_89 rfl (lv_at hl 0 rfl) ?_
    refine va_get (D := D) (ci := 2) (v := .ref (q 0)) (C := RX2) (T := TX2) (N := 6) hx hb hts inX2_countOf_RX2 hown hK hP 0 rfl rfl 0 (by decide) (hts _ kX2_countOf_0) (fun _ h9 => h9) rfl dX2_countOf_90 ?_
    refine va_get (D := D) (ci := 1) (v := .ref (q 4)) (C := RX1) (T := TX1) (N := 8) hx hb hts inX2_countOf_RX1 hown hK hP 3 rfl rfl 3 (by decide) (hts _ kX2_countOf_5) (fun _ h9 => h9) rfl dX2_countOf_93 ?_
    have hPc := hP.sub (ws' := [(q 4, .inl (cy 0, 12, .inl (zs (uh u))))]) [7] rfl
    refine pc_calli (va_runS (As := [.ref (q 4)]) (rest := []) ⟨hx, hb, hml, hown, hts⟩ (mX2_sumOf l D cy (q 4) (zs (uh u))) (va_cwS 1 hts gX2_countOf_X2_sumOf rfl rfl rfl (by decide +kernel) ⟨Nat.le_of_ble_eq_true rfl, Nat.le_of_ble_eq_true rfl⟩) ⟨fun a U g mk q => ⟨q.1, q.2.1, va_K.moved (u := U) (U := U.calling g mk a) (Vm.Alike.refl U.vm) q.2.2⟩, fun U hU hW => ⟨rfl, by rw [hU]; exact hPc, va_K.moved hW.alike hK⟩⟩ rfl rfl hl.1 rfl (lv_room (Nat.le_of_ble_eq_true rfl)) dX2_countOf_96 ⟨Nat.le_of_ble_eq_true rfl, Nat.le_of_ble_eq_true rfl⟩) (fun r9 hr9 => ?_)
    subst hr9
    exact W.iret (v := sumN (zs (uh u)) 12) hx hb hr (fun t ht hW => ⟨sumN (zs (uh u)) 12, rfl, rfl, ht⟩) (fun q hq => absurd hq List.not_mem_nil) dX2_countOf_99
  ·
    refine lv_tableOut (tgt := 100) hx hb dX2_countOf_1 (by first | exact Or.inl (by decide) | exact Or.inr (by decide)) (by decide) ?_
    refine lv_aload_n hx hb dX2_countOf_100 rfl (lv_at hl 0 rfl) ?_
    refine va_get (D := D) (ci := 2) (v := .ref (q 0)) (C := RX2) (T := TX2) (N := 6) hx hb hts inX2_countOf_RX2 hown hK hP 0 rfl rfl 0 (by decide) (hts _ kX2_countOf_0) (fun _ h9 => h9) rfl dX2_countOf_101 ?_
    refine va_get (D := D) (ci := 1) (v := .ref (q 5)) (C := RX1) (T := TX1) (N := 8) hx hb hts inX2_countOf_RX1 hown hK hP 3 rfl rfl 4 (by decide) (hts _ kX2_countOf_6) (fun _ h9 => h9) rfl dX2_countOf_104 ?_
    have hPc := hP.sub (ws' := [(q 5, .inl (cy 0, 12, .inl (zr (uh u))))]) [8] rfl
    refine pc_calli (va_runS (As := [.ref (q 5)]) (rest := []) ⟨hx, hb, hml, hown, hts⟩ (mX2_sumOf l D cy (q 5) (zr (uh u))) (va_cwS 1 hts gX2_countOf_X2_sumOf rfl rfl rfl (by decide +kernel) ⟨Nat.le_of_ble_eq_true rfl, Nat.le_of_ble_eq_true rfl⟩) ⟨fun a U g mk q => ⟨q.1, q.2.1, va_K.moved (u := U) (U := U.calling g mk a) (Vm.Alike.refl U.vm) q.2.2⟩, fun U hU hW => ⟨rfl, by rw [hU]; exact hPc, va_K.moved hW.alike hK⟩⟩ rfl rfl hl.1 rfl (lv_room (Nat.le_of_ble_eq_true rfl)) dX2_countOf_107 ⟨Nat.le_of_ble_eq_true rfl, Nat.le_of_ble_eq_true rfl⟩) (fun r9 hr9 => ?_)
    subst hr9
    exact W.iret (v := sumN (zr (uh u)) 12) hx hb hr (fun t ht hW => ⟨sumN (zr (uh u)) 12, rfl, rfl, ht⟩) (fun q hq => absurd hq List.not_mem_nil) dX2_countOf_110

theorem xgX2_count_77 : ∀ w ∈ (vx_atS RX2 77 xI xNm).filter goodWord, w ∈ wsX2_count := by decide +kernel
theorem kX2_count_0 : (.classLink RX2 73 xI : Cond) ∈ wsX2_count := by decide +kernel
theorem kX2_count_1 : (.initialized xI : Cond) ∈ wsX2_count := by decide +kernel
set_option maxHeartbeats 4000000 in
set_option maxRecDepth 100000 in
theorem mX2_count (l : Launch) (hst : l.stackTraces = false) (D : va_G) (cy : Nat → ClassId) (a q q2 ca ta : Nat → Nat) (u : US) (g : HS) (hu : uOk u) (v : Int32) : vx_Met l yX2_count wsX2_count ({ frames := 6, cells := 1, slots := 6, locals := 114 } : Room) (va_Pc [.ref (a 0), .int v] (fun U => va_P D vwCl (wX cy a q q2 ca ta u g) U.heap ∧ va_K D vwCl (TY cy) U ∧ xC U U.heap)) (vp_Si (fun r8 => (exCnt v = 0) ∧ r8 = cntOf u (ix v))) (pX (fun E => E = xn (exCnt v) ∧ exCnt v ≠ 0)) 1 6 (fun _ => False) := by
  refine vx_ofW (cc := cX2_count) (maxL := 2) (ret := (some .int)) (by decide) rfl ?_
  intro p e s m args below meth c s₁ B hml hex hv
  obtain ⟨rfl, hP, hK, hX⟩ := hv
  have hx := B.exec
  have hb := B.bytes
  have hr := B.returns
  have hts := atoms_spec (ws := wsX2_count) B.pre
  have hown : s.vm.findClass RX2 = some m.cls := findClass_of_methodNamed B.named
  have hlocks := B.notSynchronized
  have hl := lv_entry ([.ref (a 0), .int v]) (n := 2) (Nat.le_of_ble_eq_true rfl)
  rw [lg_entry_eq]
  generalize (lg_sl ([.ref (a 0), .int v]) ++ List.replicate (2 - (lg_sl ([.ref (a 0), .int v])).length) Slot.unset).toArray = ls at hl ⊢
  have hl : lv_has ls 2 [(0, .ref (a 0)), (1, .int v)] := hl
  refine lv_iload_n hx hb dX2_count_0 rfl (lv_at hl 1 rfl) ?_
  refine lv_if_lt (tgt := 10) hx hb dX2_count_1 (by decide) (fun c1 => ?_) (fun c1 => ?_)
  · exact px_throwS (ik := 73) (is := 138) (ic := 77) (cls := xI) (text := "what is not 0 to 7") hx hb hst hown xf_I (by decide) (hts _ kX2_count_0) (hts _ kX2_count_1) (fun w hw => hts w (xgX2_count_77 w hw)) xb_77 xo_77 hX (by decide) rfl rfl (by rw [hml]; exact hl.1) dX2_count_10 dX2_count_13 dX2_count_14 dX2_count_16 dX2_count_19 hex (Nat.le_of_ble_eq_true rfl) (Nat.le_of_ble_eq_true rfl) (Nat.le_of_ble_eq_true rfl) (Nat.le_of_ble_eq_true rfl) hlocks (by simp [exCnt, xn, isN8, c1]) (Nat.le_of_ble_eq_true rfl) (Nat.le_of_ble_eq_true rfl)
  · refine lv_iload_n hx hb dX2_count_4 rfl (lv_at hl 1 rfl) ?_
    refine lv_bipush (v := 8) hx hb dX2_count_5 (by decide) ?_
    refine lv_icmp_lt (tgt := 20) hx hb dX2_count_7 (by decide) (fun c7 => ?_) (fun c7 => ?_)
    · have hpf : isN8 v = true := by simp [isN8, c1, c7]
      obtain ⟨w, hw, rfl⟩ := isN8_nat hpf
      have f9 : ix (nI w) = w := (ix_nI (show w < 2147483648 by omega))
      refine lv_aload_n hx hb dX2_count_20 rfl (lv_at hl 0 rfl) ?_
      refine lv_iload_n hx hb dX2_count_21 rfl (lv_at hl 1 rfl) ?_
      refine pc_calli (va_runV (As := [.int (nI w)]) (rest := []) ⟨hx, hb, hml, hown, hts⟩ (mX2_countOf l D cy a q q2 ca ta u g hu w hw) (cwV 1 hts gX2_count_X2_countOf rfl rfl rfl (by decide +kernel) ⟨Nat.le_of_ble_eq_true rfl, Nat.le_of_ble_eq_true rfl⟩) ⟨fun a U g mk q => ⟨q.1, q.2.1, va_K.moved (u := U) (U := U.calling g mk a) (Vm.Alike.refl U.vm) q.2.2⟩, va_recv hK hP (ci := 2) (q0 := 0) rfl rfl, fun U hU hW => ⟨rfl, by rw [hU]; exact hP, va_K.moved hW.alike hK⟩⟩ rfl rfl hl.1 rfl (lv_room (Nat.le_of_ble_eq_true rfl)) dX2_count_22 ⟨Nat.le_of_ble_eq_true rfl, Nat.le_of_ble_eq_true rfl⟩) (fun r9 hr9 => ?_)
      subst hr9
      refine vx_ret ?_
      refine W.widen (k := 1) (n := 6) (Nat.le_of_ble_eq_true rfl) (Nat.le_of_ble_eq_true rfl) ?_
      exact W.iret (v := cntOf u w) hx hb hr (fun t ht hW => ⟨cntOf u w, rfl, ⟨(by simp [exCnt, hpf]), by rw [f9]⟩, ht⟩) (fun q hq => absurd hq List.not_mem_nil) dX2_count_25
    · exact px_throwS (ik := 73) (is := 138) (ic := 77) (cls := xI) (text := "what is not 0 to 7") hx hb hst hown xf_I (by decide) (hts _ kX2_count_0) (hts _ kX2_count_1) (fun w hw => hts w (xgX2_count_77 w hw)) xb_77 xo_77 hX (by decide) rfl rfl (by rw [hml]; exact hl.1) dX2_count_10 dX2_count_13 dX2_count_14 dX2_count_16 dX2_count_19 hex (Nat.le_of_ble_eq_true rfl) (Nat.le_of_ble_eq_true rfl) (Nat.le_of_ble_eq_true rfl) (Nat.le_of_ble_eq_true rfl) hlocks (by simp [exCnt, xn, isN8, c1, c7]) (Nat.le_of_ble_eq_true rfl) (Nat.le_of_ble_eq_true rfl)

