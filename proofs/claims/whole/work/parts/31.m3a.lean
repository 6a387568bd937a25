set_option maxHeartbeats 4000000 in
set_option maxRecDepth 100000 in
theorem mX3_isIn (l : Launch) (D : va_G) (cy : Nat → ClassId) (v lo hi : Int32) : Met l yX3_isIn wsX3_isIn ({ frames := 0, cells := 0, slots := 0, locals := 0 } : Room) (va_Pc [.int v, .int lo, .int hi] (fun _ => True)) (vp_Si (fun r8 => r8 = bI (isIn v lo hi))) 0 0 (fun _ => False) := by
  refine Met.ofW (cc := cX3_isIn) (maxL := 3) (ret := (some .boolean)) (by decide) rfl ?_
  intro p e s m args below meth c s₁ B hml hv
  obtain ⟨rfl, -⟩ := hv
  have hx := B.exec
  have hb := B.bytes
  have hr := B.returns
  have hts := atoms_spec (ws := wsX3_isIn) B.pre
  have hown : s.vm.findClass RX3 = some m.cls := findClass_of_methodNamed B.named
  have hlocks := B.notSynchronized
  have hl := lv_entry ([.int v, .int lo, .int hi]) (n := 3) (Nat.le_of_ble_eq_true rfl)
  rw [lg_entry_eq]
  generalize (lg_sl ([.int v, .int lo, .int hi]) ++ List.replicate (3 - (lg_sl ([.int v, .int lo, .int hi])).length) Slot.unset).toArray = ls at hl ⊢
  have hl : lv_has ls 3 [(0, .int v), (1, .int lo), (2, .int hi)] := hl
  refine lv_iload_n hx hb dX3_isIn_0 rfl (lv_at hl 0 rfl) ?_
  refine lv_iload_n hx hb dX3_isIn_1 rfl (lv_at hl 1 rfl) ?_
  refine lv_icmp_lt (tgt := 14) hx hb dX3_isIn_2 (by decide) (fun c2 => ?_) (fun c2 => ?_)
  · refine lv_iconst (v := 0) hx hb dX3_isIn_14 (by decide) ?_
    exact W.zret (v := 0) hx hb hr (by decide) (fun t ht hW => ⟨0, rfl, (by simp [bI, isIn, c2]), ht⟩) (fun q hq => absurd hq List.not_mem_nil) dX3_isIn_15
  · refine lv_iload_n hx hb dX3_isIn_5 rfl (lv_at hl 0 rfl) ?_
    refine lv_iload_n hx hb dX3_isIn_6 rfl (lv_at hl 2 rfl) ?_
    refine lv_icmp_gt (tgt := 14) hx hb dX3_isIn_7 (by decide) (fun c7 => ?_) (fun c7 => ?_)
    · refine lv_iconst (v := 0) hx hb dX3_isIn_14 (by decide) ?_
      exact W.zret (v := 0) hx hb hr (by decide) (fun t ht hW => ⟨0, rfl, (by simp [bI, isIn, c2, c7]), ht⟩) (fun q hq => absurd hq List.not_mem_nil) dX3_isIn_15
    · refine lv_iconst (v := 1) hx hb dX3_isIn_10 (by decide) ?_
      refine lv_goto (tgt := 15) hx hb dX3_isIn_11 (by decide) ?_
      exact W.zret (v := 1) hx hb hr (by decide) (fun t ht hW => ⟨1, rfl, (by simp [bI, isIn, c2, c7]), ht⟩) (fun q hq => absurd hq List.not_mem_nil) dX3_isIn_15

set_option maxHeartbeats 4000000 in
set_option maxRecDepth 100000 in
theorem mX3_isString (l : Launch) (D : va_G) (cy : Nat → ClassId) (v : Int32) : Met l yX3_isString wsX3_isString ({ frames := 1, cells := 0, slots := 0, locals := 22 } : Room) (va_Pc [.int v] (fun _ => True)) (vp_Si (fun r8 => r8 = bI (isS v))) 0 0 (fun _ => False) := by
  refine Met.ofW (cc := cX3_isString) (maxL := 1) (ret := (some .boolean)) (by decide) rfl ?_
  intro p e s m args below meth c s₁ B hml hv
  obtain ⟨rfl, -⟩ := hv
  have hx := B.exec
  have hb := B.bytes
  have hr := B.returns
  have hts := atoms_spec (ws := wsX3_isString) B.pre
  have hown : s.vm.findClass RX3 = some m.cls := findClass_of_methodNamed B.named
  have hlocks := B.notSynchronized
  have hl := lv_entry ([.int v]) (n := 1) (Nat.le_of_ble_eq_true rfl)
  rw [lg_entry_eq]
  generalize (lg_sl ([.int v]) ++ List.replicate (1 - (lg_sl ([.int v])).length) Slot.unset).toArray = ls at hl ⊢
  have hl : lv_has ls 1 [(0, .int v)] := hl
  refine lv_iload_n hx hb dX3_isString_0 rfl (lv_at hl 0 rfl) ?_
  refine lv_iconst (v := 0) hx hb dX3_isString_1 (by decide) ?_
  refine lv_bipush (v := 11) hx hb dX3_isString_2 (by decide) ?_
  refine pc_calli (va_runS (As := [.int v, .int 0, .int 11]) (rest := []) ⟨hx, hb, hml, hown, hts⟩ (mX3_isIn l D cy v 0 11) (va_cwS 3 hts gX3_isString_X3_isIn rfl rfl rfl (by decide +kernel) ⟨Nat.le_of_ble_eq_true rfl, Nat.le_of_ble_eq_true rfl⟩) ⟨fun a U g mk q => q, fun U hU hW => ⟨rfl, trivial⟩⟩ rfl rfl hl.1 rfl (lv_room (Nat.le_of_ble_eq_true rfl)) dX3_isString_4 ⟨Nat.le_of_ble_eq_true rfl, Nat.le_of_ble_eq_true rfl⟩) (fun r9 hr9 => ?_)
  subst hr9
  exact W.zret (v := bI (isIn v 0 11)) hx hb hr (bI_nar _) (fun t ht hW => ⟨bI (isIn v 0 11), rfl, (by rw [isIn_S]), ht⟩) (fun q hq => absurd hq List.not_mem_nil) dX3_isString_7

theorem inX3_thrown_RX3 : ∀ w ∈ u_ws RX3 TX3 8, w ∈ wsX3_thrown := by decide +kernel
theorem kX3_thrown_0 : (.fieldLink RX3 32 "WedgeHarpsModel" "thrown" "I" : Cond) ∈ wsX3_thrown := by decide +kernel
set_option maxHeartbeats 4000000 in
set_option maxRecDepth 100000 in
theorem mX3_thrown (l : Launch) (D : va_G) (cy : Nat → ClassId) (b : Nat → Nat) (u : US) (th : Int32) (pp : Nat → Int32) : Met l yX3_thrown wsX3_thrown ({ frames := 0, cells := 0, slots := 0, locals := 0 } : Room) (va_Pc [.ref (b 0)] (fun U => va_P D vwCl (wM cy b u th pp) U.heap ∧ va_K D vwCl (TY cy) U)) (vp_Si (fun r8 => r8 = th)) 0 0 (fun _ => False) := by
  refine Met.ofW (cc := cX3_thrown) (maxL := 1) (ret := (some .int)) (by decide) rfl ?_
  intro p e s m args below meth c s₁ B hml hv
  obtain ⟨rfl, hP, hK⟩ := hv
  have hx := B.exec
  have hb := B.bytes
  have hr := B.returns
  have hts := atoms_spec (ws := wsX3_thrown) B.pre
  have hown : s.vm.findClass RX3 = some m.cls := findClass_of_methodNamed B.named
  have hlocks := B.notSynchronized
  have hl := lv_entry ([.ref (b 0)]) (n := 1) (Nat.le_of_ble_eq_true rfl)
  rw [lg_entry_eq]
  generalize (lg_sl ([.ref (b 0)]) ++ List.replicate (1 - (lg_sl ([.ref (b 0)])).length) Slot.unset).toArray = ls at hl ⊢
  have hl : lv_has ls 1 [(0, .ref (b 0))] := hl
  refine lv_aload_n hx hb dX3_thrown_0 rfl (lv_at hl 0 rfl) ?_
  refine va_get (D := D) (ci := 3) (v := .int th) (C := RX3) (T := TX3) (N := 8) hx hb hts inX3_thrown_RX3 hown hK hP 0 rfl rfl 0 (by decide) (hts _ kX3_thrown_0) (fun _ h9 => h9) rfl dX3_thrown_1 ?_
  exact W.iret (v := th) hx hb hr (fun t ht hW => ⟨th, rfl, rfl, ht⟩) (fun q hq => absurd hq List.not_mem_nil) dX3_thrown_4

theorem inX3_fail_RX3 : ∀ w ∈ u_ws RX3 TX3 8, w ∈ wsX3_fail := by decide +kernel
theorem kX3_fail_0 : (.fieldLink RX3 32 "WedgeHarpsModel" "thrown" "I" : Cond) ∈ wsX3_fail := by decide +kernel
set_option maxHeartbeats 4000000 in
set_option maxRecDepth 100000 in
theorem mX3_fail (l : Launch) (D : va_G) (cy : Nat → ClassId) (sz : Nat) (b : Nat → Nat) (u : US) (th : Int32) (pp : Nat → Int32) (v : Int32) : Met l yX3_fail wsX3_fail ({ frames := 0, cells := 0, slots := 0, locals := 0 } : Room) (va_Pc [.ref (b 0), .int v] (fun U => U.heap.size = sz ∧ va_P D vwCl (wM cy b u th pp) U.heap ∧ va_K D vwCl (TY cy) U ∧ va_D (fun _ => True) (wM cy b u th pp))) (va_Qi (fun (r8 : Int32) (_ : Unit) => r8 = 0) (fun (_ : Unit) t => va_P D vwCl (wM cy b u v pp) t.heap ∧ va_D (va_A (wM cy b u th pp) sz) (wM cy b u v pp)) (va_A (wM cy b u th pp) sz)) 0 0 (va_A (wM cy b u th pp) sz) := by
  refine Met.ofW (cc := cX3_fail) (maxL := 2) (ret := (some .int)) (by decide) rfl ?_
  intro p e s m args below meth c s₁ B hml hv
  obtain ⟨rfl, hsz, hP, hK, hD0⟩ := hv
  have hx := B.exec
  have hb := B.bytes
  have hr := B.returns
  have hts := atoms_spec (ws := wsX3_fail) B.pre
  have hown : s.vm.findClass RX3 = some m.cls := findClass_of_methodNamed B.named
  have hlocks := B.notSynchronized
  have hl := lv_entry ([.ref (b 0), .int v]) (n := 2) (Nat.le_of_ble_eq_true rfl)
  rw [lg_entry_eq]
  generalize (lg_sl ([.ref (b 0), .int v]) ++ List.replicate (2 - (lg_sl ([.ref (b 0), .int v])).length) Slot.unset).toArray = ls at hl ⊢
  have hl : lv_has ls 2 [(0, .ref (b 0)), (1, .int v)] := hl
  subst hsz
  have hD := hD0.self (sz := s.heap.size)
  generalize hAe : va_A (wM cy b u th pp) s.heap.size = A at hD ⊢
  have hA : ∀ q : Nat, s.heap.size ≤ q → A q := fun q h => by rw [← hAe]; exact Or.inr h
  have hS : va_S A s.heap s.heap [] := va_S.rf
  have hP : va_P D vwCl (wM cy b u th pp) s.heap := hP
  refine lv_aload_n hx hb dX3_fail_0 rfl (lv_at hl 0 rfl) ?_
  refine lv_iload_n hx hb dX3_fail_1 rfl (lv_at hl 1 rfl) ?_
  refine va_put (D := D) (ci := 3) (v := .int v) (ty := .int) (C := RX3) (T := TX3) (N := 8) hx hb hts inX3_fail_RX3 tyX3 tyX3_ok nmX3 hown hK hP hD hS 0 rfl rfl 0 (by decide) (hts _ kX3_fail_0) (fun _ h9 => h9) rfl (by decide +kernel) rfl rfl (Nat.le_of_ble_eq_true rfl) dX3_fail_2 (fun H locs hP hD hS => ?_)
  have hP : va_P D vwCl [(b 0, .inr (3, [.int v, .ref (b 1), .int (nI (un u)), .ref (b 2), .ref (b 3), .ref (b 4), .ref (b 5), .ref (b 6)])), (b 1, .inl ((cy 0), 72, .inl (mh (uh u)))), (b 2, .inl ((cy 0), 36, .inl (mt (ul u) (uz u) (ut u)))), (b 3, .inl ((cy 0), 12, .inl (uw u))), (b 4, .inl ((cy 0), 12, .inl (ud u))), (b 5, .inl ((cy 0), 2, .inl (mb (uh u)))), (b 6, .inl ((cy 0), 12, .inl pp))] H := hP
  have hD : va_D A [(b 0, .inr (3, [.int v, .ref (b 1), .int (nI (un u)), .ref (b 2), .ref (b 3), .ref (b 4), .ref (b 5), .ref (b 6)])), (b 1, .inl ((cy 0), 72, .inl (mh (uh u)))), (b 2, .inl ((cy 0), 36, .inl (mt (ul u) (uz u) (ut u)))), (b 3, .inl ((cy 0), 12, .inl (uw u))), (b 4, .inl ((cy 0), 12, .inl (ud u))), (b 5, .inl ((cy 0), 2, .inl (mb (uh u)))), (b 6, .inl ((cy 0), 12, .inl pp))] := hD
  refine lv_iconst (v := 0) hx hb dX3_fail_5 (by decide) ?_
  have hP9 : va_P D vwCl (wM cy b u v pp) H := hP
  have hD9 : va_D A (wM cy b u v pp) := hD
  exact W.iret (v := 0) hx hb hr (fun t ht hW => ⟨⟨0, (), rfl, rfl, by rw [ht]; exact hP9, hD9⟩, hS.F ht⟩) hS.2.2 dX3_fail_6

theorem inX3_ha_RX3 : ∀ w ∈ u_ws RX3 TX3 8, w ∈ wsX3_ha := by decide +kernel
theorem kX3_ha_0 : (.fieldLink RX3 9 "WedgeHarpsModel" "harp" "[I" : Cond) ∈ wsX3_ha := by decide +kernel
set_option maxHeartbeats 4000000 in
set_option maxRecDepth 100000 in
theorem mX3_ha (l : Launch) (D : va_G) (cy : Nat → ClassId) (b : Nat → Nat) (u : US) (th : Int32) (pp : Nat → Int32) (k w : Nat) (hk : k < 12) (hw : w < 6) : Met l yX3_ha wsX3_ha ({ frames := 0, cells := 0, slots := 0, locals := 0 } : Room) (va_Pc [.ref (b 0), .int (nI k), .int (nI w)] (fun U => va_P D vwCl (wM cy b u th pp) U.heap ∧ va_K D vwCl (TY cy) U)) (vp_Si (fun r8 => r8 = haF (uh u) k w)) 0 0 (fun _ => False) := by
  refine Met.ofW (cc := cX3_ha) (maxL := 3) (ret := (some .int)) (by decide) rfl ?_
  intro p e s m args below meth c s₁ B hml hv
  obtain ⟨rfl, hP, hK⟩ := hv
  have hx := B.exec
  have hb := B.bytes
  have hr := B.returns
  have hts := atoms_spec (ws := wsX3_ha) B.pre
  have hown : s.vm.findClass RX3 = some m.cls := findClass_of_methodNamed B.named
  have hlocks := B.notSynchronized
  have hl := lv_entry ([.ref (b 0), .int (nI k), .int (nI w)]) (n := 3) (Nat.le_of_ble_eq_true rfl)
  rw [lg_entry_eq]
  generalize (lg_sl ([.ref (b 0), .int (nI k), .int (nI w)]) ++ List.replicate (3 - (lg_sl ([.ref (b 0), .int (nI k), .int (nI w)])).length) Slot.unset).toArray = ls at hl ⊢
  have hl : lv_has ls 3 [(0, .ref (b 0)), (1, .int (nI k)), (2, .int (nI w))] := hl
  refine lv_aload_n hx hb dX3_ha_0 rfl (lv_at hl 0 rfl) ?_
  refine va_get (D := D) (ci := 3) (v := .ref (b 1)) (C := RX3) (T := TX3) (N := 8) hx hb hts inX3_ha_RX3 hown hK hP 0 rfl rfl 1 (by decide) (hts _ kX3_ha_0) (fun _ h9 => h9) rfl dX3_ha_1 ?_
  refine lv_bipush (v := 6) hx hb dX3_ha_4 (by decide) ?_
  refine lv_iload_n hx hb dX3_ha_6 rfl (lv_at hl 1 rfl) ?_
  refine lv_imul hx hb dX3_ha_7 ?_
  refine pc_top (show 6 * (nI k) = nI (6 * k) from pk_mul 6 k) ?_
  refine lv_iload_n hx hb dX3_ha_8 rfl (lv_at hl 2 rfl) ?_
  refine lv_iadd hx hb dX3_ha_9 ?_
  refine pc_top (show (nI (6 * k)) + (nI w) = nI (6 * k + w) from nI_add (6 * k) w) ?_
  refine pc_iald hx hb hK hP 1 0 rfl rfl (k := 6 * k + w) (show 6 * k + w < 72 by omega) (by decide) dX3_ha_10 ?_
  exact W.iret (v := (mh (uh u)) (6 * k + w)) hx hb hr (fun t ht hW => ⟨(mh (uh u)) (6 * k + w), rfl, (mh_at _ _ hw), ht⟩) (fun q hq => absurd hq List.not_mem_nil) dX3_ha_11

theorem inX3_put_RX3 : ∀ w ∈ u_ws RX3 TX3 8, w ∈ wsX3_put := by decide +kernel
theorem kX3_put_0 : (.fieldLink RX3 9 "WedgeHarpsModel" "harp" "[I" : Cond) ∈ wsX3_put := by decide +kernel
set_option maxHeartbeats 4000000 in
set_option maxRecDepth 100000 in
theorem mX3_put (l : Launch) (D : va_G) (cy : Nat → ClassId) (sz : Nat) (b : Nat → Nat) (u : US) (th : Int32) (pp : Nat → Int32) (k w : Nat) (hk : k < 12) (hw : w < 6) (v : Int32) : Met l yX3_put wsX3_put ({ frames := 0, cells := 0, slots := 0, locals := 0 } : Room) (va_Pc [.ref (b 0), .int (nI k), .int (nI w), .int v] (fun U => U.heap.size = sz ∧ va_P D vwCl (wM cy b u th pp) U.heap ∧ va_K D vwCl (TY cy) U ∧ va_D (fun _ => True) (wM cy b u th pp))) (va_Qv (fun (_ : Unit) => True) (fun (_ : Unit) t => va_P D vwCl (wM cy b (uH u (putH (uh u) k w v)) th pp) t.heap ∧ va_D (va_A (wM cy b u th pp) sz) (wM cy b (uH u (putH (uh u) k w v)) th pp)) (va_A (wM cy b u th pp) sz)) 0 0 (va_A (wM cy b u th pp) sz) := by
  refine Met.ofW (cc := cX3_put) (maxL := 4) (ret := none) (by decide) rfl ?_
  intro p e s m args below meth c s₁ B hml hv
  obtain ⟨rfl, hsz, hP, hK, hD0⟩ := hv
  have hx := B.exec
  have hb := B.bytes
  have hr := B.returns
  have hts := atoms_spec (ws := wsX3_put) B.pre
  have hown : s.vm.findClass RX3 = some m.cls := findClass_of_methodNamed B.named
  have hlocks := B.notSynchronized
  have hl := lv_entry ([.ref (b 0), .int (nI k), .int (nI w), .int v]) (n := 4) (Nat.le_of_ble_eq_true rfl)
  rw [lg_entry_eq]
  generalize (lg_sl ([.ref (b 0), .int (nI k), .int (nI w), .int v]) ++ List.replicate (4 - (lg_sl ([.ref (b 0), .int (nI k), .int (nI w), .int v])).length) Slot.unset).toArray = ls at hl ⊢
  have hl : lv_has ls 4 [(0, .ref (b 0)), (1, .int (nI k)), (2, .int (nI w)), (3, .int v)] := hl
  subst hsz
  have hD := hD0.self (sz := s.heap.size)
  generalize hAe : va_A (wM cy b u th pp) s.heap.size = A at hD ⊢
  have hA : ∀ q : Nat, s.heap.size ≤ q → A q := fun q h => by rw [← hAe]; exact Or.inr h
  have hS : va_S A s.heap s.heap [] := va_S.rf
  have hP : va_P D vwCl (wM cy b u th pp) s.heap := hP
  refine lv_aload_n hx hb dX3_put_0 rfl (lv_at hl 0 rfl) ?_
  refine va_get (D := D) (ci := 3) (v := .ref (b 1)) (C := RX3) (T := TX3) (N := 8) hx hb hts inX3_put_RX3 hown hK hP 0 rfl rfl 1 (by decide) (hts _ kX3_put_0) (fun _ h9 => h9) rfl dX3_put_1 ?_
  refine lv_bipush (v := 6) hx hb dX3_put_4 (by decide) ?_
  refine lv_iload_n hx hb dX3_put_6 rfl (lv_at hl 1 rfl) ?_
  refine lv_imul hx hb dX3_put_7 ?_
  refine pc_top (show 6 * (nI k) = nI (6 * k) from pk_mul 6 k) ?_
  refine lv_iload_n hx hb dX3_put_8 rfl (lv_at hl 2 rfl) ?_
  refine lv_iadd hx hb dX3_put_9 ?_
  refine pc_top (show (nI (6 * k)) + (nI w) = nI (6 * k + w) from nI_add (6 * k) w) ?_
  refine lv_iload_n hx hb dX3_put_10 rfl (lv_at hl 3 rfl) ?_
  refine pc_iast hx hb hK hP hD hS 1 0 rfl rfl (k := 6 * k + w) (show 6 * k + w < 72 by omega) (by decide) dX3_put_11 (fun H locs hP hD hS => ?_)
  have hP : va_P D vwCl [(b 0, .inr (3, [.int th, .ref (b 1), .int (nI (un u)), .ref (b 2), .ref (b 3), .ref (b 4), .ref (b 5), .ref (b 6)])), (b 1, .inl ((cy 0), 72, .inl (upd (mh (uh u)) (6 * k + w) v))), (b 2, .inl ((cy 0), 36, .inl (mt (ul u) (uz u) (ut u)))), (b 3, .inl ((cy 0), 12, .inl (uw u))), (b 4, .inl ((cy 0), 12, .inl (ud u))), (b 5, .inl ((cy 0), 2, .inl (mb (uh u)))), (b 6, .inl ((cy 0), 12, .inl pp))] H := hP
  have hD : va_D A [(b 0, .inr (3, [.int th, .ref (b 1), .int (nI (un u)), .ref (b 2), .ref (b 3), .ref (b 4), .ref (b 5), .ref (b 6)])), (b 1, .inl ((cy 0), 72, .inl (upd (mh (uh u)) (6 * k + w) v))), (b 2, .inl ((cy 0), 36, .inl (mt (ul u) (uz u) (ut u)))), (b 3, .inl ((cy 0), 12, .inl (uw u))), (b 4, .inl ((cy 0), 12, .inl (ud u))), (b 5, .inl ((cy 0), 2, .inl (mb (uh u)))), (b 6, .inl ((cy 0), 12, .inl pp))] := hD
  have hP9 : va_P D vwCl (wM cy b (uH u (putH (uh u) k w v)) th pp) H := (by rw [mh_put (uh u) k hw v, ← mb_put (uh u) k hw v] at hP; exact hP)
  have hD9 : va_D A (wM cy b (uH u (putH (uh u) k w v)) th pp) := (by rw [mh_put (uh u) k hw v, ← mb_put (uh u) k hw v] at hD; exact hD)
  exact W.vret hx hb hr (fun t ht hW => ⟨⟨(), rfl, trivial, by rw [ht]; exact hP9, hD9⟩, hS.F ht⟩) hS.2.2 dX3_put_12

theorem inX3_wedge_RX3 : ∀ w ∈ u_ws RX3 TX3 8, w ∈ wsX3_wedge := by decide +kernel
theorem kX3_wedge_0 : (.fieldLink RX3 25 "WedgeHarpsModel" "pushed" "[I" : Cond) ∈ wsX3_wedge := by decide +kernel
set_option maxHeartbeats 4000000 in
set_option maxRecDepth 100000 in
theorem mX3_wedge (l : Launch) (D : va_G) (cy : Nat → ClassId) (b : Nat → Nat) (u : US) (th : Int32) (pp : Nat → Int32) (v : Int32) : Met l yX3_wedge wsX3_wedge ({ frames := 2, cells := 0, slots := 0, locals := 42 } : Room) (va_Pc [.ref (b 0), .int v] (fun U => va_P D vwCl (wM cy b u th pp) U.heap ∧ va_K D vwCl (TY cy) U)) (vp_Si (fun r8 => r8 = wedF (uh u) pp v)) 0 0 (fun _ => False) := by
  refine Met.ofW (cc := cX3_wedge) (maxL := 2) (ret := (some .int)) (by decide) rfl ?_
  intro p e s m args below meth c s₁ B hml hv
  obtain ⟨rfl, hP, hK⟩ := hv
  have hx := B.exec
  have hb := B.bytes
  have hr := B.returns
  have hts := atoms_spec (ws := wsX3_wedge) B.pre
  have hown : s.vm.findClass RX3 = some m.cls := findClass_of_methodNamed B.named
  have hlocks := B.notSynchronized
  have hl := lv_entry ([.ref (b 0), .int v]) (n := 2) (Nat.le_of_ble_eq_true rfl)
  rw [lg_entry_eq]
  generalize (lg_sl ([.ref (b 0), .int v]) ++ List.replicate (2 - (lg_sl ([.ref (b 0), .int v])).length) Slot.unset).toArray = ls at hl ⊢
  have hl : lv_has ls 2 [(0, .ref (b 0)), (1, .int v)] := hl
  refine lv_iload_n hx hb dX3_wedge_0 rfl (lv_at hl 1 rfl) ?_
  refine pc_calli (va_runS (As := [.int v]) (rest := []) ⟨hx, hb, hml, hown, hts⟩ (mX3_isString l D cy v) (va_cwS 1 hts gX3_wedge_X3_isString rfl rfl rfl (by decide +kernel) ⟨Nat.le_of_ble_eq_true rfl, Nat.le_of_ble_eq_true rfl⟩) ⟨fun a U g mk q => q, fun U hU hW => ⟨rfl, trivial⟩⟩ rfl rfl hl.1 rfl (lv_room (Nat.le_of_ble_eq_true rfl)) dX3_wedge_1 ⟨Nat.le_of_ble_eq_true rfl, Nat.le_of_ble_eq_true rfl⟩) (fun r9 hr9 => ?_)
  subst hr9
  refine lv_if_eq (tgt := 23) hx hb dX3_wedge_4 (by decide) (fun c4 => ?_) (fun c4 => ?_)
  · refine lv_iconst (v := 0) hx hb dX3_wedge_23 (by decide) ?_
    exact W.iret (v := 0) hx hb hr (fun t ht hW => ⟨0, rfl, (by simp [wedF, bI_0.mp c4]), ht⟩) (fun q hq => absurd hq List.not_mem_nil) dX3_wedge_24
  · obtain ⟨j, hj, rfl⟩ := isS_nat (bI_1.mp c4)
    refine lv_aload_n hx hb dX3_wedge_7 rfl (lv_at hl 0 rfl) ?_
    refine lv_iload_n hx hb dX3_wedge_8 rfl (lv_at hl 1 rfl) ?_
    refine lv_iconst (v := 1) hx hb dX3_wedge_9 (by decide) ?_
    refine pc_calli (va_runV (As := [.int (nI j), .int 1]) (rest := []) ⟨hx, hb, hml, hown, hts⟩ (mX3_ha l D cy b u th pp j 1 hj (by decide)) (cwV 2 hts gX3_wedge_X3_ha rfl rfl rfl (by decide +kernel) ⟨Nat.le_of_ble_eq_true rfl, Nat.le_of_ble_eq_true rfl⟩) ⟨fun a U g mk q => ⟨q.1, q.2.1, va_K.moved (u := U) (U := U.calling g mk a) (Vm.Alike.refl U.vm) q.2.2⟩, va_recv hK hP (ci := 3) (q0 := 0) rfl rfl, fun U hU hW => ⟨rfl, by rw [hU]; exact hP, va_K.moved hW.alike hK⟩⟩ rfl rfl hl.1 rfl (lv_room (Nat.le_of_ble_eq_true rfl)) dX3_wedge_10 ⟨Nat.le_of_ble_eq_true rfl, Nat.le_of_ble_eq_true rfl⟩) (fun r9 hr9 => ?_)
    subst hr9
    refine pc_top (show haF (uh u) j 1 = zw (uh u) j from rfl) ?_
    refine lv_aload_n hx hb dX3_wedge_13 rfl (lv_at hl 0 rfl) ?_
    refine va_get (D := D) (ci := 3) (v := .ref (b 6)) (C := RX3) (T := TX3) (N := 8) hx hb hts inX3_wedge_RX3 hown hK hP 0 rfl rfl 7 (by decide) (hts _ kX3_wedge_0) (fun _ h9 => h9) rfl dX3_wedge_14 ?_
    refine lv_iload_n hx hb dX3_wedge_17 rfl (lv_at hl 1 rfl) ?_
    refine pc_iald hx hb hK hP 6 0 rfl rfl (k := j) (show j < 12 by omega) (by decide) dX3_wedge_18 ?_
    refine lv_iadd hx hb dX3_wedge_19 ?_
    refine lv_goto (tgt := 24) hx hb dX3_wedge_20 (by decide) ?_
    exact W.iret (v := (zw (uh u) j) + (pp j)) hx hb hr (fun t ht hW => ⟨(zw (uh u) j) + (pp j), rfl, (wedF_in hj).symm, ht⟩) (fun q hq => absurd hq List.not_mem_nil) dX3_wedge_24

theorem inX3_tone_RX3 : ∀ w ∈ u_ws RX3 TX3 8, w ∈ wsX3_tone := by decide +kernel
theorem kX3_tone_0 : (.fieldLink RX3 22 "WedgeHarpsModel" "numbers" "[I" : Cond) ∈ wsX3_tone := by decide +kernel
set_option maxHeartbeats 4000000 in
set_option maxRecDepth 100000 in
theorem mX3_tone (l : Launch) (D : va_G) (cy : Nat → ClassId) (b : Nat → Nat) (u : US) (th : Int32) (pp : Nat → Int32) (k : Nat) (hk : k < 12) : Met l yX3_tone wsX3_tone ({ frames := 3, cells := 0, slots := 0, locals := 63 } : Room) (va_Pc [.ref (b 0), .int (nI k)] (fun U => va_P D vwCl (wM cy b u th pp) U.heap ∧ va_K D vwCl (TY cy) U)) (vp_Si (fun r8 => r8 = toneP (uh u) pp k)) 0 0 (fun _ => False) := by
  refine Met.ofW (cc := cX3_tone) (maxL := 2) (ret := (some .int)) (by decide) rfl ?_
  intro p e s m args below meth c s₁ B hml hv
  obtain ⟨rfl, hP, hK⟩ := hv
  have hx := B.exec
  have hb := B.bytes
  have hr := B.returns
  have hts := atoms_spec (ws := wsX3_tone) B.pre
  have hown : s.vm.findClass RX3 = some m.cls := findClass_of_methodNamed B.named
  have hlocks := B.notSynchronized
  have hl := lv_entry ([.ref (b 0), .int (nI k)]) (n := 2) (Nat.le_of_ble_eq_true rfl)
  rw [lg_entry_eq]
  generalize (lg_sl ([.ref (b 0), .int (nI k)]) ++ List.replicate (2 - (lg_sl ([.ref (b 0), .int (nI k)])).length) Slot.unset).toArray = ls at hl ⊢
  have hl : lv_has ls 2 [(0, .ref (b 0)), (1, .int (nI k))] := hl
  refine lv_aload_n hx hb dX3_tone_0 rfl (lv_at hl 0 rfl) ?_
  refine lv_iload_n hx hb dX3_tone_1 rfl (lv_at hl 1 rfl) ?_
  refine lv_iconst (v := 4) hx hb dX3_tone_2 (by decide) ?_
  refine pc_calli (va_runV (As := [.int (nI k), .int 4]) (rest := []) ⟨hx, hb, hml, hown, hts⟩ (mX3_ha l D cy b u th pp k 4 hk (by decide)) (cwV 2 hts gX3_tone_X3_ha rfl rfl rfl (by decide +kernel) ⟨Nat.le_of_ble_eq_true rfl, Nat.le_of_ble_eq_true rfl⟩) ⟨fun a U g mk q => ⟨q.1, q.2.1, va_K.moved (u := U) (U := U.calling g mk a) (Vm.Alike.refl U.vm) q.2.2⟩, va_recv hK hP (ci := 3) (q0 := 0) rfl rfl, fun U hU hW => ⟨rfl, by rw [hU]; exact hP, va_K.moved hW.alike hK⟩⟩ rfl rfl hl.1 rfl (lv_room (Nat.le_of_ble_eq_true rfl)) dX3_tone_3 ⟨Nat.le_of_ble_eq_true rfl, Nat.le_of_ble_eq_true rfl⟩) (fun r9 hr9 => ?_)
  subst hr9
  refine pc_top (show haF (uh u) k 4 = zo (uh u) k from rfl) ?_
  refine lv_if_ne (tgt := 13) hx hb dX3_tone_6 (by decide) (fun c6 => ?_) (fun c6 => ?_)
  · refine lv_aload_n hx hb dX3_tone_13 rfl (lv_at hl 0 rfl) ?_
    refine lv_iload_n hx hb dX3_tone_14 rfl (lv_at hl 1 rfl) ?_
    refine lv_iconst (v := 0) hx hb dX3_tone_15 (by decide) ?_
    refine pc_calli (va_runV (As := [.int (nI k), .int 0]) (rest := []) ⟨hx, hb, hml, hown, hts⟩ (mX3_ha l D cy b u th pp k 0 hk (by decide)) (cwV 2 hts gX3_tone_X3_ha rfl rfl rfl (by decide +kernel) ⟨Nat.le_of_ble_eq_true rfl, Nat.le_of_ble_eq_true rfl⟩) ⟨fun a U g mk q => ⟨q.1, q.2.1, va_K.moved (u := U) (U := U.calling g mk a) (Vm.Alike.refl U.vm) q.2.2⟩, va_recv hK hP (ci := 3) (q0 := 0) rfl rfl, fun U hU hW => ⟨rfl, by rw [hU]; exact hP, va_K.moved hW.alike hK⟩⟩ rfl rfl hl.1 rfl (lv_room (Nat.le_of_ble_eq_true rfl)) dX3_tone_16 ⟨Nat.le_of_ble_eq_true rfl, Nat.le_of_ble_eq_true rfl⟩) (fun r9 hr9 => ?_)
    subst hr9
    refine pc_top (show haF (uh u) k 0 = zb (uh u) k from rfl) ?_
    refine lv_bipush (v := 10) hx hb dX3_tone_19 (by decide) ?_
    refine lv_aload_n hx hb dX3_tone_21 rfl (lv_at hl 0 rfl) ?_
    refine lv_iload_n hx hb dX3_tone_22 rfl (lv_at hl 1 rfl) ?_
    refine pc_calli (va_runV (As := [.int (nI k)]) (rest := [.int 10, .int (zb (uh u) k)]) ⟨hx, hb, hml, hown, hts⟩ (mX3_wedge l D cy b u th pp (nI k)) (cwV 1 hts gX3_tone_X3_wedge rfl rfl rfl (by decide +kernel) ⟨Nat.le_of_ble_eq_true rfl, Nat.le_of_ble_eq_true rfl⟩) ⟨fun a U g mk q => ⟨q.1, q.2.1, va_K.moved (u := U) (U := U.calling g mk a) (Vm.Alike.refl U.vm) q.2.2⟩, va_recv hK hP (ci := 3) (q0 := 0) rfl rfl, fun U hU hW => ⟨rfl, by rw [hU]; exact hP, va_K.moved hW.alike hK⟩⟩ rfl rfl hl.1 rfl (lv_room (Nat.le_of_ble_eq_true rfl)) dX3_tone_23 ⟨Nat.le_of_ble_eq_true rfl, Nat.le_of_ble_eq_true rfl⟩) (fun r9 hr9 => ?_)
    subst hr9
    refine lv_imul hx hb dX3_tone_26 ?_
    refine lv_iadd hx hb dX3_tone_27 ?_
    refine lv_iconst (v := 3) hx hb dX3_tone_28 (by decide) ?_
    refine lv_aload_n hx hb dX3_tone_29 rfl (lv_at hl 0 rfl) ?_
    refine lv_iload_n hx hb dX3_tone_30 rfl (lv_at hl 1 rfl) ?_
    refine lv_iconst (v := 1) hx hb dX3_tone_31 (by decide) ?_
    refine lv_isub hx hb dX3_tone_32 ?_
    refine pc_calli (va_runV (As := [.int ((nI k) - 1)]) (rest := [.int 3, .int ((zb (uh u) k) + (10 * (wedF (uh u) pp (nI k))))]) ⟨hx, hb, hml, hown, hts⟩ (mX3_wedge l D cy b u th pp (nI k - 1)) (cwV 1 hts gX3_tone_X3_wedge rfl rfl rfl (by decide +kernel) ⟨Nat.le_of_ble_eq_true rfl, Nat.le_of_ble_eq_true rfl⟩) ⟨fun a U g mk q => ⟨q.1, q.2.1, va_K.moved (u := U) (U := U.calling g mk a) (Vm.Alike.refl U.vm) q.2.2⟩, va_recv hK hP (ci := 3) (q0 := 0) rfl rfl, fun U hU hW => ⟨rfl, by rw [hU]; exact hP, va_K.moved hW.alike hK⟩⟩ rfl rfl hl.1 rfl (lv_room (Nat.le_of_ble_eq_true rfl)) dX3_tone_33 ⟨Nat.le_of_ble_eq_true rfl, Nat.le_of_ble_eq_true rfl⟩) (fun r9 hr9 => ?_)
    subst hr9
    refine lv_aload_n hx hb dX3_tone_36 rfl (lv_at hl 0 rfl) ?_
    refine lv_iload_n hx hb dX3_tone_37 rfl (lv_at hl 1 rfl) ?_
    refine lv_iconst (v := 1) hx hb dX3_tone_38 (by decide) ?_
    refine lv_iadd hx hb dX3_tone_39 ?_
    refine pc_calli (va_runV (As := [.int ((nI k) + 1)]) (rest := [.int (wedF (uh u) pp (nI k - 1)), .int 3, .int ((zb (uh u) k) + (10 * (wedF (uh u) pp (nI k))))]) ⟨hx, hb, hml, hown, hts⟩ (mX3_wedge l D cy b u th pp (nI k + 1)) (cwV 1 hts gX3_tone_X3_wedge rfl rfl rfl (by decide +kernel) ⟨Nat.le_of_ble_eq_true rfl, Nat.le_of_ble_eq_true rfl⟩) ⟨fun a U g mk q => ⟨q.1, q.2.1, va_K.moved (u := U) (U := U.calling g mk a) (Vm.Alike.refl U.vm) q.2.2⟩, va_recv hK hP (ci := 3) (q0 := 0) rfl rfl, fun U hU hW => ⟨rfl, by rw [hU]; exact hP, va_K.moved hW.alike hK⟩⟩ rfl rfl hl.1 rfl (lv_room (Nat.le_of_ble_eq_true rfl)) dX3_tone_40 ⟨Nat.le_of_ble_eq_true rfl, Nat.le_of_ble_eq_true rfl⟩) (fun r9 hr9 => ?_)
    subst hr9
    refine lv_iadd hx hb dX3_tone_43 ?_
    refine lv_imul hx hb dX3_tone_44 ?_
    refine lv_iadd hx hb dX3_tone_45 ?_
    refine lv_aload_n hx hb dX3_tone_46 rfl (lv_at hl 0 rfl) ?_
    refine lv_iload_n hx hb dX3_tone_47 rfl (lv_at hl 1 rfl) ?_
    refine lv_iconst (v := 2) hx hb dX3_tone_48 (by decide) ?_
    refine pc_calli (va_runV (As := [.int (nI k), .int 2]) (rest := [.int (((zb (uh u) k) + (10 * (wedF (uh u) pp (nI k)))) + (3 * ((wedF (uh u) pp (nI k - 1)) + (wedF (uh u) pp (nI k + 1)))))]) ⟨hx, hb, hml, hown, hts⟩ (mX3_ha l D cy b u th pp k 2 hk (by decide)) (cwV 2 hts gX3_tone_X3_ha rfl rfl rfl (by decide +kernel) ⟨Nat.le_of_ble_eq_true rfl, Nat.le_of_ble_eq_true rfl⟩) ⟨fun a U g mk q => ⟨q.1, q.2.1, va_K.moved (u := U) (U := U.calling g mk a) (Vm.Alike.refl U.vm) q.2.2⟩, va_recv hK hP (ci := 3) (q0 := 0) rfl rfl, fun U hU hW => ⟨rfl, by rw [hU]; exact hP, va_K.moved hW.alike hK⟩⟩ rfl rfl hl.1 rfl (lv_room (Nat.le_of_ble_eq_true rfl)) dX3_tone_49 ⟨Nat.le_of_ble_eq_true rfl, Nat.le_of_ble_eq_true rfl⟩) (fun r9 hr9 => ?_)
    subst hr9
    refine pc_top (show haF (uh u) k 2 = zd (uh u) k from rfl) ?_
    refine lv_iadd hx hb dX3_tone_52 ?_
    refine lv_aload_n hx hb dX3_tone_53 rfl (lv_at hl 0 rfl) ?_
    refine va_get (D := D) (ci := 3) (v := .ref (b 5)) (C := RX3) (T := TX3) (N := 8) hx hb hts inX3_tone_RX3 hown hK hP 0 rfl rfl 6 (by decide) (hts _ kX3_tone_0) (fun _ h9 => h9) rfl dX3_tone_54 ?_
    refine lv_iconst (v := 1) hx hb dX3_tone_57 (by decide) ?_
    refine pc_iald hx hb hK hP 5 0 rfl rfl (k := 1) (show 1 < 2 by omega) (by decide) dX3_tone_58 ?_
    refine lv_isub hx hb dX3_tone_59 ?_
    exact W.iret (v := ((((zb (uh u) k) + (10 * (wedF (uh u) pp (nI k)))) + (3 * ((wedF (uh u) pp (nI k - 1)) + (wedF (uh u) pp (nI k + 1))))) + (zd (uh u) k)) - ((mb (uh u)) 1)) hx hb hr (fun t ht hW => ⟨((((zb (uh u) k) + (10 * (wedF (uh u) pp (nI k)))) + (3 * ((wedF (uh u) pp (nI k - 1)) + (wedF (uh u) pp (nI k + 1))))) + (zd (uh u) k)) - ((mb (uh u)) 1), rfl, (by rw [toneP, if_neg c6]; rfl), ht⟩) (fun q hq => absurd hq List.not_mem_nil) dX3_tone_60
  · refine lv_iconst (v := 0) hx hb dX3_tone_9 (by decide) ?_
    refine lv_goto (tgt := 60) hx hb dX3_tone_10 (by decide) ?_
    exact W.iret (v := 0) hx hb hr (fun t ht hW => ⟨0, rfl, (by rw [toneP, if_pos c6]), ht⟩) (fun q hq => absurd hq List.not_mem_nil) dX3_tone_60

theorem inX3_to_RX3 : ∀ w ∈ u_ws RX3 TX3 8, w ∈ wsX3_to := by decide +kernel
theorem kX3_to_0 : (.fieldLink RX3 13 "WedgeHarpsModel" "told" "[I" : Cond) ∈ wsX3_to := by decide +kernel
set_option maxHeartbeats 4000000 in
set_option maxRecDepth 100000 in
theorem mX3_to (l : Launch) (D : va_G) (cy : Nat → ClassId) (b : Nat → Nat) (u : US) (th : Int32) (pp : Nat → Int32) (k w : Nat) (hk : k < 6) (hw : w < 6) : Met l yX3_to wsX3_to ({ frames := 0, cells := 0, slots := 0, locals := 0 } : Room) (va_Pc [.ref (b 0), .int (nI k), .int (nI w)] (fun U => va_P D vwCl (wM cy b u th pp) U.heap ∧ va_K D vwCl (TY cy) U)) (vp_Si (fun r8 => r8 = mtF (ul u) (uz u) (ut u) k w)) 0 0 (fun _ => False) := by
  refine Met.ofW (cc := cX3_to) (maxL := 3) (ret := (some .int)) (by decide) rfl ?_
  intro p e s m args below meth c s₁ B hml hv
  obtain ⟨rfl, hP, hK⟩ := hv
  have hx := B.exec
  have hb := B.bytes
  have hr := B.returns
  have hts := atoms_spec (ws := wsX3_to) B.pre
  have hown : s.vm.findClass RX3 = some m.cls := findClass_of_methodNamed B.named
  have hlocks := B.notSynchronized
  have hl := lv_entry ([.ref (b 0), .int (nI k), .int (nI w)]) (n := 3) (Nat.le_of_ble_eq_true rfl)
  rw [lg_entry_eq]
  generalize (lg_sl ([.ref (b 0), .int (nI k), .int (nI w)]) ++ List.replicate (3 - (lg_sl ([.ref (b 0), .int (nI k), .int (nI w)])).length) Slot.unset).toArray = ls at hl ⊢
  have hl : lv_has ls 3 [(0, .ref (b 0)), (1, .int (nI k)), (2, .int (nI w))] := hl
  refine lv_aload_n hx hb dX3_to_0 rfl (lv_at hl 0 rfl) ?_
  refine va_get (D := D) (ci := 3) (v := .ref (b 2)) (C := RX3) (T := TX3) (N := 8) hx hb hts inX3_to_RX3 hown hK hP 0 rfl rfl 3 (by decide) (hts _ kX3_to_0) (fun _ h9 => h9) rfl dX3_to_1 ?_
  refine lv_bipush (v := 6) hx hb dX3_to_4 (by decide) ?_
  refine lv_iload_n hx hb dX3_to_6 rfl (lv_at hl 1 rfl) ?_
  refine lv_imul hx hb dX3_to_7 ?_
  refine pc_top (show 6 * (nI k) = nI (6 * k) from pk_mul 6 k) ?_
  refine lv_iload_n hx hb dX3_to_8 rfl (lv_at hl 2 rfl) ?_
  refine lv_iadd hx hb dX3_to_9 ?_
  refine pc_top (show (nI (6 * k)) + (nI w) = nI (6 * k + w) from nI_add (6 * k) w) ?_
  refine pc_iald hx hb hK hP 2 0 rfl rfl (k := 6 * k + w) (show 6 * k + w < 36 by omega) (by decide) dX3_to_10 ?_
  exact W.iret (v := (mt (ul u) (uz u) (ut u)) (6 * k + w)) hx hb hr (fun t ht hW => ⟨(mt (ul u) (uz u) (ut u)) (6 * k + w), rfl, (mt_at _ _ _ _ hw), ht⟩) (fun q hq => absurd hq List.not_mem_nil) dX3_to_11

theorem kX3_differs_0 : (.methodLink RX3 73 Lib.Math.abs.name : Cond) ∈ wsX3_differs := by decide +kernel
theorem kX3_differs_1 : (.static Lib.Math.abs.name : Cond) ∈ wsX3_differs := by decide +kernel
theorem kX3_differs_2 : (.initialized "java/lang/Math" : Cond) ∈ wsX3_differs := by decide +kernel
theorem kX3_differs_3 : (.code Lib.Math.abs.name Lib.Math.abs.code 1 (some .int) : Cond) ∈ wsX3_differs := by decide +kernel
set_option maxHeartbeats 4000000 in
set_option maxRecDepth 100000 in
theorem mX3_differs (l : Launch) (D : va_G) (cy : Nat → ClassId) (b : Nat → Nat) (u : US) (th : Int32) (pp : Nat → Int32) (c0 tt : Nat) (hc : c0 < 6) (ht : tt < 4) (hlt : ul u c0 + tt < 12) : Met l yX3_differs wsX3_differs ({ frames := 4, cells := 0, slots := 0, locals := 84 } : Room) (va_Pc [.ref (b 0), .int (nI c0), .int (nI tt)] (fun U => va_P D vwCl (wM cy b u th pp) U.heap ∧ va_K D vwCl (TY cy) U)) (vp_Si (fun r8 => r8 = ab (toneP (uh u) pp (ul u c0 + tt) - ut u c0 tt))) 0 0 (fun _ => False) := by
  refine Met.ofW (cc := cX3_differs) (maxL := 3) (ret := (some .int)) (by decide) rfl ?_
  intro p e s m args below meth c s₁ B hml hv
  obtain ⟨rfl, hP, hK⟩ := hv
  have hx := B.exec
  have hb := B.bytes
  have hr := B.returns
  have hts := atoms_spec (ws := wsX3_differs) B.pre
  have hown : s.vm.findClass RX3 = some m.cls := findClass_of_methodNamed B.named
  have hlocks := B.notSynchronized
  have hl := lv_entry ([.ref (b 0), .int (nI c0), .int (nI tt)]) (n := 3) (Nat.le_of_ble_eq_true rfl)
  rw [lg_entry_eq]
  generalize (lg_sl ([.ref (b 0), .int (nI c0), .int (nI tt)]) ++ List.replicate (3 - (lg_sl ([.ref (b 0), .int (nI c0), .int (nI tt)])).length) Slot.unset).toArray = ls at hl ⊢
  have hl : lv_has ls 3 [(0, .ref (b 0)), (1, .int (nI c0)), (2, .int (nI tt))] := hl
  refine lv_aload_n hx hb dX3_differs_0 rfl (lv_at hl 0 rfl) ?_
  refine lv_aload_n hx hb dX3_differs_1 rfl (lv_at hl 0 rfl) ?_
  refine lv_iload_n hx hb dX3_differs_2 rfl (lv_at hl 1 rfl) ?_
  refine lv_iconst (v := 0) hx hb dX3_differs_3 (by decide) ?_
  refine pc_calli (va_runV (As := [.int (nI c0), .int 0]) (rest := [.ref (b 0)]) ⟨hx, hb, hml, hown, hts⟩ (mX3_to l D cy b u th pp c0 0 hc (by decide)) (cwV 2 hts gX3_differs_X3_to rfl rfl rfl (by decide +kernel) ⟨Nat.le_of_ble_eq_true rfl, Nat.le_of_ble_eq_true rfl⟩) ⟨fun a U g mk q => ⟨q.1, q.2.1, va_K.moved (u := U) (U := U.calling g mk a) (Vm.Alike.refl U.vm) q.2.2⟩, va_recv hK hP (ci := 3) (q0 := 0) rfl rfl, fun U hU hW => ⟨rfl, by rw [hU]; exact hP, va_K.moved hW.alike hK⟩⟩ rfl rfl hl.1 rfl (lv_room (Nat.le_of_ble_eq_true rfl)) dX3_differs_4 ⟨Nat.le_of_ble_eq_true rfl, Nat.le_of_ble_eq_true rfl⟩) (fun r9 hr9 => ?_)
  subst hr9
  refine pc_top (show mtF (ul u) (uz u) (ut u) c0 0 = nI (ul u c0) from rfl) ?_
  refine lv_iload_n hx hb dX3_differs_7 rfl (lv_at hl 2 rfl) ?_
  refine lv_iadd hx hb dX3_differs_8 ?_
  refine pc_top (show (nI (ul u c0)) + (nI tt) = nI (ul u c0 + tt) from nI_add (ul u c0) tt) ?_
  refine pc_calli (va_runV (As := [.int (nI (ul u c0 + tt))]) (rest := []) ⟨hx, hb, hml, hown, hts⟩ (mX3_tone l D cy b u th pp (ul u c0 + tt) hlt) (cwV 1 hts gX3_differs_X3_tone rfl rfl rfl (by decide +kernel) ⟨Nat.le_of_ble_eq_true rfl, Nat.le_of_ble_eq_true rfl⟩) ⟨fun a U g mk q => ⟨q.1, q.2.1, va_K.moved (u := U) (U := U.calling g mk a) (Vm.Alike.refl U.vm) q.2.2⟩, va_recv hK hP (ci := 3) (q0 := 0) rfl rfl, fun U hU hW => ⟨rfl, by rw [hU]; exact hP, va_K.moved hW.alike hK⟩⟩ rfl rfl hl.1 rfl (lv_room (Nat.le_of_ble_eq_true rfl)) dX3_differs_9 ⟨Nat.le_of_ble_eq_true rfl, Nat.le_of_ble_eq_true rfl⟩) (fun r9 hr9 => ?_)
  subst hr9
  refine lv_aload_n hx hb dX3_differs_12 rfl (lv_at hl 0 rfl) ?_
  refine lv_iload_n hx hb dX3_differs_13 rfl (lv_at hl 1 rfl) ?_
  refine lv_iconst (v := 2) hx hb dX3_differs_14 (by decide) ?_
  refine lv_iload_n hx hb dX3_differs_15 rfl (lv_at hl 2 rfl) ?_
  refine lv_iadd hx hb dX3_differs_16 ?_
  refine pc_top (show 2 + (nI tt) = nI (2 + tt) from nI_add 2 tt) ?_
  refine pc_calli (va_runV (As := [.int (nI c0), .int (nI (2 + tt))]) (rest := [.int (toneP (uh u) pp (ul u c0 + tt))]) ⟨hx, hb, hml, hown, hts⟩ (mX3_to l D cy b u th pp c0 (2 + tt) hc (by omega)) (cwV 2 hts gX3_differs_X3_to rfl rfl rfl (by decide +kernel) ⟨Nat.le_of_ble_eq_true rfl, Nat.le_of_ble_eq_true rfl⟩) ⟨fun a U g mk q => ⟨q.1, q.2.1, va_K.moved (u := U) (U := U.calling g mk a) (Vm.Alike.refl U.vm) q.2.2⟩, va_recv hK hP (ci := 3) (q0 := 0) rfl rfl, fun U hU hW => ⟨rfl, by rw [hU]; exact hP, va_K.moved hW.alike hK⟩⟩ rfl rfl hl.1 rfl (lv_room (Nat.le_of_ble_eq_true rfl)) dX3_differs_17 ⟨Nat.le_of_ble_eq_true rfl, Nat.le_of_ble_eq_true rfl⟩) (fun r9 hr9 => ?_)
  subst hr9
  refine pc_top (show mtF (ul u) (uz u) (ut u) c0 (2 + tt) = ut u c0 tt from (by rw [Nat.add_comm 2 tt]; rfl)) ?_
  refine lv_isub hx hb dX3_differs_20 ?_
  refine va_mabs hx hb (by rw [hml]; exact hl.1.symm) hown (hts _ kX3_differs_0) (hts _ kX3_differs_1) (hts _ kX3_differs_2) (hts _ kX3_differs_3) (Nat.le_of_ble_eq_true rfl) (Nat.le_of_ble_eq_true rfl) (Nat.le_of_ble_eq_true rfl) (Nat.le_of_ble_eq_true rfl) dX3_differs_21 ?_
  refine pc_top (show (if 0 ≤ ((toneP (uh u) pp (ul u c0 + tt)) - (ut u c0 tt)) then ((toneP (uh u) pp (ul u c0 + tt)) - (ut u c0 tt)) else 0 - ((toneP (uh u) pp (ul u c0 + tt)) - (ut u c0 tt))) = ab ((toneP (uh u) pp (ul u c0 + tt)) - (ut u c0 tt)) from rfl) ?_
  exact W.iret (v := ab ((toneP (uh u) pp (ul u c0 + tt)) - (ut u c0 tt))) hx hb hr (fun t ht hW => ⟨ab ((toneP (uh u) pp (ul u c0 + tt)) - (ut u c0 tt)), rfl, rfl, ht⟩) (fun q hq => absurd hq List.not_mem_nil) dX3_differs_24

set_option maxHeartbeats 4000000 in
set_option maxRecDepth 100000 in
theorem mX3_offBy (l : Launch) (D : va_G) (cy : Nat → ClassId) (b : Nat → Nat) (u : US) (th : Int32) (pp : Nat → Int32) (c0 : Nat) (hc : c0 < 6) (hc9 : ul u c0 + uz u c0 ≤ 12 ∧ uz u c0 ≤ 4) : Met l yX3_offBy wsX3_offBy ({ frames := 5, cells := 0, slots := 0, locals := 106 } : Room) (va_Pc [.ref (b 0), .int (nI c0)] (fun U => va_P D vwCl (wM cy b u th pp) U.heap ∧ va_K D vwCl (TY cy) U)) (vp_Si (fun r8 => r8 = offP (uh u) pp (ul u c0) (ut u c0) (uz u c0))) 0 0 (fun _ => False) := by
  refine Met.ofW (cc := cX3_offBy) (maxL := 4) (ret := (some .int)) (by decide) rfl ?_
  intro p e s m args below meth c s₁ B hml hv
  obtain ⟨rfl, hP, hK⟩ := hv
  have hx := B.exec
  have hb := B.bytes
  have hr := B.returns
  have hts := atoms_spec (ws := wsX3_offBy) B.pre
  have hown : s.vm.findClass RX3 = some m.cls := findClass_of_methodNamed B.named
  have hlocks := B.notSynchronized
  have hl := lv_entry ([.ref (b 0), .int (nI c0)]) (n := 4) (Nat.le_of_ble_eq_true rfl)
  rw [lg_entry_eq]
  generalize (lg_sl ([.ref (b 0), .int (nI c0)]) ++ List.replicate (4 - (lg_sl ([.ref (b 0), .int (nI c0)])).length) Slot.unset).toArray = ls at hl ⊢
  have hl : lv_has ls 4 [(0, .ref (b 0)), (1, .int (nI c0))] := hl
  refine lv_iconst (v := 0) hx hb dX3_offBy_0 (by decide) ?_
  refine lv_istore_n (lv' := [(2, .int 0), (0, .ref (b 0)), (1, .int (nI c0))]) hx hb dX3_offBy_1 rfl hl (by decide) rfl (fun ls hl => ?_)
  refine lv_iconst (v := 0) hx hb dX3_offBy_2 (by decide) ?_
  refine lv_istore_n (lv' := [(3, .int 0), (2, .int 0), (0, .ref (b 0)), (1, .int (nI c0))]) hx hb dX3_offBy_3 rfl hl (by decide) rfl (fun ls hl => ?_)
  have loop4 : ∀ (n9 : Nat) (k : Nat), k ≤ uz u c0 → uz u c0 - k < n9 → ∀ ls : Array Slot, lv_has ls 4 [(0, .ref (b 0)), (1, .int (nI c0)), (2, .int (offP (uh u) pp (ul u c0) (ut u c0) k)), (3, .int (nI k))] → W p l e (headSpec wsX3_offBy ({ frames := 5, cells := 0, slots := 0, locals := 106 } : Room)).room s m ([.ref (b 0), .int (nI c0)] : List Value).toArray below meth c s.heap [] 0 0 (MQ below (vp_Si (fun r8 => r8 = offP (uh u) pp (ul u c0) (ut u c0) (uz u c0))) ([.ref (b 0), .int (nI c0)] : List Value).toArray s 0 0 (fun _ => False)) (F0 m 4 ls []) := by
    intro n9
    induction n9 with
    | zero => intro k hk h9 ls hl; exact absurd h9 (by omega)
    | succ n9 ih4 =>
      intro k hk h9 ls hl
      refine lv_iload_n hx hb dX3_offBy_4 rfl (lv_at hl 3 rfl) ?_
      refine lv_aload_n hx hb dX3_offBy_5 rfl (lv_at hl 0 rfl) ?_
      refine lv_iload_n hx hb dX3_offBy_6 rfl (lv_at hl 1 rfl) ?_
      refine lv_iconst (v := 1) hx hb dX3_offBy_7 (by decide) ?_
      refine pc_calli (va_runV (As := [.int (nI c0), .int 1]) (rest := [.int (nI k)]) ⟨hx, hb, hml, hown, hts⟩ (mX3_to l D cy b u th pp c0 1 hc (by decide)) (cwV 2 hts gX3_offBy_X3_to rfl rfl rfl (by decide +kernel) ⟨Nat.le_of_ble_eq_true rfl, Nat.le_of_ble_eq_true rfl⟩) ⟨fun a U g mk q => ⟨q.1, q.2.1, va_K.moved (u := U) (U := U.calling g mk a) (Vm.Alike.refl U.vm) q.2.2⟩, va_recv hK hP (ci := 3) (q0 := 0) rfl rfl, fun U hU hW => ⟨rfl, by rw [hU]; exact hP, va_K.moved hW.alike hK⟩⟩ rfl rfl hl.1 rfl (lv_room (Nat.le_of_ble_eq_true rfl)) dX3_offBy_8 ⟨Nat.le_of_ble_eq_true rfl, Nat.le_of_ble_eq_true rfl⟩) (fun r9 hr9 => ?_)
      subst hr9
      refine pc_top (show mtF (ul u) (uz u) (ut u) c0 1 = nI (uz u c0) from rfl) ?_
      refine lv_icmp_ge (tgt := 29) hx hb dX3_offBy_11 (by decide) (fun c11 => ?_) (fun c11 => ?_)
      · have n11 : uz u c0 ≤ k := (nI_leI (a := uz u c0) (b := k) (by omega) (by omega)).mp c11
        refine lv_iload_n hx hb dX3_offBy_29 rfl (lv_at hl 2 rfl) ?_
        exact W.iret (v := offP (uh u) pp (ul u c0) (ut u c0) k) hx hb hr (fun t ht hW => ⟨offP (uh u) pp (ul u c0) (ut u c0) k, rfl, (by rw [show k = uz u c0 by omega]), ht⟩) (fun q hq => absurd hq List.not_mem_nil) dX3_offBy_30
      · have n11 : ¬ (uz u c0 ≤ k) := fun h9 => c11 ((nI_leI (a := uz u c0) (b := k) (by omega) (by omega)).mpr h9)
        refine lv_iload_n hx hb dX3_offBy_14 rfl (lv_at hl 2 rfl) ?_
        refine lv_aload_n hx hb dX3_offBy_15 rfl (lv_at hl 0 rfl) ?_
        refine lv_iload_n hx hb dX3_offBy_16 rfl (lv_at hl 1 rfl) ?_
        refine lv_iload_n hx hb dX3_offBy_17 rfl (lv_at hl 3 rfl) ?_
        refine pc_calli (va_runV (As := [.int (nI c0), .int (nI k)]) (rest := [.int (offP (uh u) pp (ul u c0) (ut u c0) k)]) ⟨hx, hb, hml, hown, hts⟩ (mX3_differs l D cy b u th pp c0 k hc (by omega) (by omega)) (cwV 2 hts gX3_offBy_X3_differs rfl rfl rfl (by decide +kernel) ⟨Nat.le_of_ble_eq_true rfl, Nat.le_of_ble_eq_true rfl⟩) ⟨fun a U g mk q => ⟨q.1, q.2.1, va_K.moved (u := U) (U := U.calling g mk a) (Vm.Alike.refl U.vm) q.2.2⟩, va_recv hK hP (ci := 3) (q0 := 0) rfl rfl, fun U hU hW => ⟨rfl, by rw [hU]; exact hP, va_K.moved hW.alike hK⟩⟩ rfl rfl hl.1 rfl (lv_room (Nat.le_of_ble_eq_true rfl)) dX3_offBy_18 ⟨Nat.le_of_ble_eq_true rfl, Nat.le_of_ble_eq_true rfl⟩) (fun r9 hr9 => ?_)
        subst hr9
        refine lv_iadd hx hb dX3_offBy_21 ?_
        refine lv_istore_n (lv' := [(2, .int ((offP (uh u) pp (ul u c0) (ut u c0) k) + (ab (toneP (uh u) pp (ul u c0 + k) - ut u c0 k)))), (0, .ref (b 0)), (1, .int (nI c0)), (3, .int (nI k))]) hx hb dX3_offBy_22 rfl hl (by decide) rfl (fun ls hl => ?_)
        refine lv_iinc (v := nI (k + 1)) (lv' := [(3, .int (nI (k + 1))), (2, .int ((offP (uh u) pp (ul u c0) (ut u c0) k) + (ab (toneP (uh u) pp (ul u c0 + k) - ut u c0 k)))), (0, .ref (b 0)), (1, .int (nI c0))]) hx hb dX3_offBy_23 hl (k := 3) rfl ((show (nI k) + Int32.ofInt 1 = (nI k) + 1 from rfl).trans (show (nI k) + 1 = nI (k + 1) from nI_add k 1)) (by decide) rfl (fun ls hl => ?_)
        refine lv_goto (tgt := 4) hx hb dX3_offBy_26 (by decide) ?_
        exact ih4 (k + 1) (by omega) (by omega) ls (lv_sub hl [2, 3, 1, 0] rfl)
  exact loop4 (uz u c0 + 1) 0 (Nat.zero_le _) (by omega) ls (lv_sub hl [2, 3, 1, 0] rfl)

set_option maxHeartbeats 4000000 in
set_option maxRecDepth 100000 in
theorem mX3_isSounding (l : Launch) (D : va_G) (cy : Nat → ClassId) (b : Nat → Nat) (u : US) (th : Int32) (pp : Nat → Int32) (c0 : Nat) (hc : c0 < 6) (hc9 : ul u c0 + uz u c0 ≤ 12 ∧ uz u c0 ≤ 4) : Met l yX3_isSounding wsX3_isSounding ({ frames := 5, cells := 0, slots := 0, locals := 106 } : Room) (va_Pc [.ref (b 0), .int (nI c0)] (fun U => va_P D vwCl (wM cy b u th pp) U.heap ∧ va_K D vwCl (TY cy) U)) (vp_Si (fun r8 => r8 = bI (sndP (uh u) pp (ul u c0) (uz u c0) (ut u c0)))) 0 0 (fun _ => False) := by
  refine Met.ofW (cc := cX3_isSounding) (maxL := 3) (ret := (some .boolean)) (by decide) rfl ?_
  intro p e s m args below meth c s₁ B hml hv
  obtain ⟨rfl, hP, hK⟩ := hv
  have hx := B.exec
  have hb := B.bytes
  have hr := B.returns
  have hts := atoms_spec (ws := wsX3_isSounding) B.pre
  have hown : s.vm.findClass RX3 = some m.cls := findClass_of_methodNamed B.named
  have hlocks := B.notSynchronized
  have hl := lv_entry ([.ref (b 0), .int (nI c0)]) (n := 3) (Nat.le_of_ble_eq_true rfl)
  rw [lg_entry_eq]
  generalize (lg_sl ([.ref (b 0), .int (nI c0)]) ++ List.replicate (3 - (lg_sl ([.ref (b 0), .int (nI c0)])).length) Slot.unset).toArray = ls at hl ⊢
  have hl : lv_has ls 3 [(0, .ref (b 0)), (1, .int (nI c0))] := hl
  refine lv_iconst (v := 0) hx hb dX3_isSounding_0 (by decide) ?_
  refine lv_istore_n (lv' := [(2, .int 0), (0, .ref (b 0)), (1, .int (nI c0))]) hx hb dX3_isSounding_1 rfl hl (by decide) rfl (fun ls hl => ?_)
  have loop2 : ∀ (n9 : Nat) (k : Nat), k ≤ uz u c0 → allN (okP (uh u) pp (ul u c0) (ut u c0)) k = true → uz u c0 - k < n9 → ∀ ls : Array Slot, lv_has ls 3 [(0, .ref (b 0)), (1, .int (nI c0)), (2, .int (nI k))] → W p l e (headSpec wsX3_isSounding ({ frames := 5, cells := 0, slots := 0, locals := 106 } : Room)).room s m ([.ref (b 0), .int (nI c0)] : List Value).toArray below meth c s.heap [] 0 0 (MQ below (vp_Si (fun r8 => r8 = bI (sndP (uh u) pp (ul u c0) (uz u c0) (ut u c0)))) ([.ref (b 0), .int (nI c0)] : List Value).toArray s 0 0 (fun _ => False)) (F0 m 2 ls []) := by
    intro n9
    induction n9 with
    | zero => intro k hk ha h9 ls hl; exact absurd h9 (by omega)
    | succ n9 ih2 =>
      intro k hk ha h9 ls hl
      refine lv_iload_n hx hb dX3_isSounding_2 rfl (lv_at hl 2 rfl) ?_
      refine lv_aload_n hx hb dX3_isSounding_3 rfl (lv_at hl 0 rfl) ?_
      refine lv_iload_n hx hb dX3_isSounding_4 rfl (lv_at hl 1 rfl) ?_
      refine lv_iconst (v := 1) hx hb dX3_isSounding_5 (by decide) ?_
      refine pc_calli (va_runV (As := [.int (nI c0), .int 1]) (rest := [.int (nI k)]) ⟨hx, hb, hml, hown, hts⟩ (mX3_to l D cy b u th pp c0 1 hc (by decide)) (cwV 2 hts gX3_isSounding_X3_to rfl rfl rfl (by decide +kernel) ⟨Nat.le_of_ble_eq_true rfl, Nat.le_of_ble_eq_true rfl⟩) ⟨fun a U g mk q => ⟨q.1, q.2.1, va_K.moved (u := U) (U := U.calling g mk a) (Vm.Alike.refl U.vm) q.2.2⟩, va_recv hK hP (ci := 3) (q0 := 0) rfl rfl, fun U hU hW => ⟨rfl, by rw [hU]; exact hP, va_K.moved hW.alike hK⟩⟩ rfl rfl hl.1 rfl (lv_room (Nat.le_of_ble_eq_true rfl)) dX3_isSounding_6 ⟨Nat.le_of_ble_eq_true rfl, Nat.le_of_ble_eq_true rfl⟩) (fun r9 hr9 => ?_)
      subst hr9
      refine pc_top (show mtF (ul u) (uz u) (ut u) c0 1 = nI (uz u c0) from rfl) ?_
      refine lv_icmp_ge (tgt := 46) hx hb dX3_isSounding_9 (by decide) (fun c9 => ?_) (fun c9 => ?_)
      · have n9 : uz u c0 ≤ k := (nI_leI (a := uz u c0) (b := k) (by omega) (by omega)).mp c9
        refine lv_iconst (v := 1) hx hb dX3_isSounding_46 (by decide) ?_
        exact W.zret (v := 1) hx hb hr (by decide) (fun t ht hW => ⟨1, rfl, (by rw [sndP, show uz u c0 = k by omega, ha]; rfl), ht⟩) (fun q hq => absurd hq List.not_mem_nil) dX3_isSounding_47
      · have n9 : ¬ (uz u c0 ≤ k) := fun h9 => c9 ((nI_leI (a := uz u c0) (b := k) (by omega) (by omega)).mpr h9)
        refine lv_aload_n hx hb dX3_isSounding_12 rfl (lv_at hl 0 rfl) ?_
        refine lv_aload_n hx hb dX3_isSounding_13 rfl (lv_at hl 0 rfl) ?_
        refine lv_iload_n hx hb dX3_isSounding_14 rfl (lv_at hl 1 rfl) ?_
        refine lv_iconst (v := 0) hx hb dX3_isSounding_15 (by decide) ?_
        refine pc_calli (va_runV (As := [.int (nI c0), .int 0]) (rest := [.ref (b 0)]) ⟨hx, hb, hml, hown, hts⟩ (mX3_to l D cy b u th pp c0 0 hc (by decide)) (cwV 2 hts gX3_isSounding_X3_to rfl rfl rfl (by decide +kernel) ⟨Nat.le_of_ble_eq_true rfl, Nat.le_of_ble_eq_true rfl⟩) ⟨fun a U g mk q => ⟨q.1, q.2.1, va_K.moved (u := U) (U := U.calling g mk a) (Vm.Alike.refl U.vm) q.2.2⟩, va_recv hK hP (ci := 3) (q0 := 0) rfl rfl, fun U hU hW => ⟨rfl, by rw [hU]; exact hP, va_K.moved hW.alike hK⟩⟩ rfl rfl hl.1 rfl (lv_room (Nat.le_of_ble_eq_true rfl)) dX3_isSounding_16 ⟨Nat.le_of_ble_eq_true rfl, Nat.le_of_ble_eq_true rfl⟩) (fun r9 hr9 => ?_)
        subst hr9
        refine pc_top (show mtF (ul u) (uz u) (ut u) c0 0 = nI (ul u c0) from rfl) ?_
        refine lv_iload_n hx hb dX3_isSounding_19 rfl (lv_at hl 2 rfl) ?_
        refine lv_iadd hx hb dX3_isSounding_20 ?_
        refine pc_top (show (nI (ul u c0)) + (nI k) = nI (ul u c0 + k) from nI_add (ul u c0) k) ?_
        refine lv_iconst (v := 4) hx hb dX3_isSounding_21 (by decide) ?_
        refine pc_calli (va_runV (As := [.int (nI (ul u c0 + k)), .int 4]) (rest := []) ⟨hx, hb, hml, hown, hts⟩ (mX3_ha l D cy b u th pp (ul u c0 + k) 4 (by omega) (by decide)) (cwV 2 hts gX3_isSounding_X3_ha rfl rfl rfl (by decide +kernel) ⟨Nat.le_of_ble_eq_true rfl, Nat.le_of_ble_eq_true rfl⟩) ⟨fun a U g mk q => ⟨q.1, q.2.1, va_K.moved (u := U) (U := U.calling g mk a) (Vm.Alike.refl U.vm) q.2.2⟩, va_recv hK hP (ci := 3) (q0 := 0) rfl rfl, fun U hU hW => ⟨rfl, by rw [hU]; exact hP, va_K.moved hW.alike hK⟩⟩ rfl rfl hl.1 rfl (lv_room (Nat.le_of_ble_eq_true rfl)) dX3_isSounding_22 ⟨Nat.le_of_ble_eq_true rfl, Nat.le_of_ble_eq_true rfl⟩) (fun r9 hr9 => ?_)
        subst hr9
        refine pc_top (show haF (uh u) (ul u c0 + k) 4 = zo (uh u) (ul u c0 + k) from rfl) ?_
        refine lv_if_eq (tgt := 38) hx hb dX3_isSounding_25 (by decide) (fun c25 => ?_) (fun c25 => ?_)
        · refine lv_iconst (v := 0) hx hb dX3_isSounding_38 (by decide) ?_
          exact W.zret (v := 0) hx hb hr (by decide) (fun t ht hW => ⟨0, rfl, (by rw [sndP, allN_f (j := k) (by omega) (show okP (uh u) pp (ul u c0) (ut u c0) k = false from decide_eq_false (fun z => z.1 c25))]; rfl), ht⟩) (fun q hq => absurd hq List.not_mem_nil) dX3_isSounding_39
        · refine lv_aload_n hx hb dX3_isSounding_28 rfl (lv_at hl 0 rfl) ?_
          refine lv_iload_n hx hb dX3_isSounding_29 rfl (lv_at hl 1 rfl) ?_
          refine lv_iload_n hx hb dX3_isSounding_30 rfl (lv_at hl 2 rfl) ?_
          refine pc_calli (va_runV (As := [.int (nI c0), .int (nI k)]) (rest := []) ⟨hx, hb, hml, hown, hts⟩ (mX3_differs l D cy b u th pp c0 k hc (by omega) (by omega)) (cwV 2 hts gX3_isSounding_X3_differs rfl rfl rfl (by decide +kernel) ⟨Nat.le_of_ble_eq_true rfl, Nat.le_of_ble_eq_true rfl⟩) ⟨fun a U g mk q => ⟨q.1, q.2.1, va_K.moved (u := U) (U := U.calling g mk a) (Vm.Alike.refl U.vm) q.2.2⟩, va_recv hK hP (ci := 3) (q0 := 0) rfl rfl, fun U hU hW => ⟨rfl, by rw [hU]; exact hP, va_K.moved hW.alike hK⟩⟩ rfl rfl hl.1 rfl (lv_room (Nat.le_of_ble_eq_true rfl)) dX3_isSounding_31 ⟨Nat.le_of_ble_eq_true rfl, Nat.le_of_ble_eq_true rfl⟩) (fun r9 hr9 => ?_)
          subst hr9
          refine lv_iconst (v := 5) hx hb dX3_isSounding_34 (by decide) ?_
          refine lv_icmp_le (tgt := 40) hx hb dX3_isSounding_35 (by decide) (fun c35 => ?_) (fun c35 => ?_)
          · refine lv_iinc (v := nI (k + 1)) (lv' := [(2, .int (nI (k + 1))), (0, .ref (b 0)), (1, .int (nI c0))]) hx hb dX3_isSounding_40 hl (k := 2) rfl ((show (nI k) + Int32.ofInt 1 = (nI k) + 1 from rfl).trans (show (nI k) + 1 = nI (k + 1) from nI_add k 1)) (by decide) rfl (fun ls hl => ?_)
            refine lv_goto (tgt := 2) hx hb dX3_isSounding_43 (by decide) ?_
            exact ih2 (k + 1) (by omega) (by have z9 : okP (uh u) pp (ul u c0) (ut u c0) k = true := decide_eq_true ⟨c25, c35⟩; simp [allN, ha, z9]) (by omega) ls (lv_sub hl [1, 2, 0] rfl)
          · refine lv_iconst (v := 0) hx hb dX3_isSounding_38 (by decide) ?_
            exact W.zret (v := 0) hx hb hr (by decide) (fun t ht hW => ⟨0, rfl, (by rw [sndP, allN_f (j := k) (by omega) (show okP (uh u) pp (ul u c0) (ut u c0) k = false from decide_eq_false (fun z => c35 z.2))]; rfl), ht⟩) (fun q hq => absurd hq List.not_mem_nil) dX3_isSounding_39
  exact loop2 (uz u c0 + 1) 0 (Nat.zero_le _) rfl (by omega) ls (lv_sub hl [1, 2, 0] rfl)

theorem inX3_isChord_RX3 : ∀ w ∈ u_ws RX3 TX3 8, w ∈ wsX3_isChord := by decide +kernel
theorem kX3_isChord_0 : (.fieldLink RX3 61 "WedgeHarpsModel" "chords" "I" : Cond) ∈ wsX3_isChord := by decide +kernel
set_option maxHeartbeats 4000000 in
set_option maxRecDepth 100000 in
theorem mX3_isChord (l : Launch) (D : va_G) (cy : Nat → ClassId) (b : Nat → Nat) (u : US) (th : Int32) (pp : Nat → Int32) (hu : uOk u) (v : Int32) : Met l yX3_isChord wsX3_isChord ({ frames := 1, cells := 0, slots := 0, locals := 22 } : Room) (va_Pc [.ref (b 0), .int v] (fun U => va_P D vwCl (wM cy b u th pp) U.heap ∧ va_K D vwCl (TY cy) U)) (vp_Si (fun r8 => r8 = bI (isC u v))) 0 0 (fun _ => False) := by
  refine Met.ofW (cc := cX3_isChord) (maxL := 2) (ret := (some .boolean)) (by decide) rfl ?_
  intro p e s m args below meth c s₁ B hml hv
  obtain ⟨rfl, hP, hK⟩ := hv
  have hx := B.exec
  have hb := B.bytes
  have hr := B.returns
  have hts := atoms_spec (ws := wsX3_isChord) B.pre
  have hown : s.vm.findClass RX3 = some m.cls := findClass_of_methodNamed B.named
  have hlocks := B.notSynchronized
  have hl := lv_entry ([.ref (b 0), .int v]) (n := 2) (Nat.le_of_ble_eq_true rfl)
  rw [lg_entry_eq]
  generalize (lg_sl ([.ref (b 0), .int v]) ++ List.replicate (2 - (lg_sl ([.ref (b 0), .int v])).length) Slot.unset).toArray = ls at hl ⊢
  have hl : lv_has ls 2 [(0, .ref (b 0)), (1, .int v)] := hl
  refine lv_iload_n hx hb dX3_isChord_0 rfl (lv_at hl 1 rfl) ?_
  refine lv_iconst (v := 0) hx hb dX3_isChord_1 (by decide) ?_
  refine lv_aload_n hx hb dX3_isChord_2 rfl (lv_at hl 0 rfl) ?_
  refine va_get (D := D) (ci := 3) (v := .int (nI (un u))) (C := RX3) (T := TX3) (N := 8) hx hb hts inX3_isChord_RX3 hown hK hP 0 rfl rfl 2 (by decide) (hts _ kX3_isChord_0) (fun _ h9 => h9) rfl dX3_isChord_3 ?_
  refine lv_iconst (v := 1) hx hb dX3_isChord_6 (by decide) ?_
  refine lv_isub hx hb dX3_isChord_7 ?_
  refine pc_calli (va_runS (As := [.int v, .int 0, .int ((nI (un u)) - 1)]) (rest := []) ⟨hx, hb, hml, hown, hts⟩ (mX3_isIn l D cy v 0 (nI (un u) - 1)) (va_cwS 3 hts gX3_isChord_X3_isIn rfl rfl rfl (by decide +kernel) ⟨Nat.le_of_ble_eq_true rfl, Nat.le_of_ble_eq_true rfl⟩) ⟨fun a U g mk q => q, fun U hU hW => ⟨rfl, trivial⟩⟩ rfl rfl hl.1 rfl (lv_room (Nat.le_of_ble_eq_true rfl)) dX3_isChord_8 ⟨Nat.le_of_ble_eq_true rfl, Nat.le_of_ble_eq_true rfl⟩) (fun r9 hr9 => ?_)
  subst hr9
  exact W.zret (v := bI (isIn v 0 (nI (un u) - 1))) hx hb hr (bI_nar _) (fun t ht hW => ⟨bI (isIn v 0 (nI (un u) - 1)), rfl, (by rw [isIn_C hu.2.1]), ht⟩) (fun q hq => absurd hq List.not_mem_nil) dX3_isChord_11

set_option maxHeartbeats 4000000 in
set_option maxRecDepth 100000 in
theorem mX3_stringTold (l : Launch) (D : va_G) (cy : Nat → ClassId) (b : Nat → Nat) (u : US) (th : Int32) (k : Nat) (hk : k < 12) (w : Nat) (hw : w < 7) : Met l yX3_stringTold wsX3_stringTold ({ frames := 4, cells := 0, slots := 0, locals := 84 } : Room) (va_Pc [.ref (b 0), .int (nI k), .int (nI w)] (fun U => va_P D vwCl (wM cy b u th pz) U.heap ∧ va_K D vwCl (TY cy) U)) (vp_Si (fun r8 => r8 = factH (uh u) k w)) 0 0 (fun _ => False) := by
  refine Met.ofW (cc := cX3_stringTold) (maxL := 3) (ret := (some .int)) (by decide) rfl ?_
  intro p e s m args below meth c s₁ B hml hv
  obtain ⟨rfl, hP, hK⟩ := hv
  have hx := B.exec
  have hb := B.bytes
  have hr := B.returns
  have hts := atoms_spec (ws := wsX3_stringTold) B.pre
  have hown : s.vm.findClass RX3 = some m.cls := findClass_of_methodNamed B.named
  have hlocks := B.notSynchronized
  have hl := lv_entry ([.ref (b 0), .int (nI k), .int (nI w)]) (n := 3) (Nat.le_of_ble_eq_true rfl)
  rw [lg_entry_eq]
  generalize (lg_sl ([.ref (b 0), .int (nI k), .int (nI w)]) ++ List.replicate (3 - (lg_sl ([.ref (b 0), .int (nI k), .int (nI w)])).length) Slot.unset).toArray = ls at hl ⊢
  have hl : lv_has ls 3 [(0, .ref (b 0)), (1, .int (nI k)), (2, .int (nI w))] := hl
  refine lv_iload_n hx hb dX3_stringTold_0 rfl (lv_at hl 2 rfl) ?_
  refine lv_iconst (v := 5) hx hb dX3_stringTold_1 (by decide) ?_
  refine lv_icmp_ge (tgt := 14) hx hb dX3_stringTold_2 (by decide) (fun c2 => ?_) (fun c2 => ?_)
  · have n2 : 5 ≤ w := (nI_leI (a := 5) (b := w) (by omega) (by omega)).mp c2
    refine lv_iload_n hx hb dX3_stringTold_14 rfl (lv_at hl 2 rfl) ?_
    refine lv_iconst (v := 5) hx hb dX3_stringTold_15 (by decide) ?_
    refine lv_icmp_ne (tgt := 27) hx hb dX3_stringTold_16 (by decide) (fun c16 => ?_) (fun c16 => ?_)
    · have n16 : ¬ (w = 5) := fun h9 => c16 ((nI_eq (a := w) (b := 5) (by omega) (by omega)).mpr h9)
      refine lv_aload_n hx hb dX3_stringTold_27 rfl (lv_at hl 0 rfl) ?_
      refine lv_iload_n hx hb dX3_stringTold_28 rfl (lv_at hl 1 rfl) ?_
      refine lv_iconst (v := 5) hx hb dX3_stringTold_29 (by decide) ?_
      refine pc_calli (va_runV (As := [.int (nI k), .int 5]) (rest := []) ⟨hx, hb, hml, hown, hts⟩ (mX3_ha l D cy b u th pz k 5 hk (by decide)) (cwV 2 hts gX3_stringTold_X3_ha rfl rfl rfl (by decide +kernel) ⟨Nat.le_of_ble_eq_true rfl, Nat.le_of_ble_eq_true rfl⟩) ⟨fun a U g mk q => ⟨q.1, q.2.1, va_K.moved (u := U) (U := U.calling g mk a) (Vm.Alike.refl U.vm) q.2.2⟩, va_recv hK hP (ci := 3) (q0 := 0) rfl rfl, fun U hU hW => ⟨rfl, by rw [hU]; exact hP, va_K.moved hW.alike hK⟩⟩ rfl rfl hl.1 rfl (lv_room (Nat.le_of_ble_eq_true rfl)) dX3_stringTold_30 ⟨Nat.le_of_ble_eq_true rfl, Nat.le_of_ble_eq_true rfl⟩) (fun r9 hr9 => ?_)
      subst hr9
      refine pc_top (show haF (uh u) k 5 = zr (uh u) k from rfl) ?_
      exact W.iret (v := zr (uh u) k) hx hb hr (fun t ht hW => ⟨zr (uh u) k, rfl, (by rw [show w = 6 by omega]; rfl), ht⟩) (fun q hq => absurd hq List.not_mem_nil) dX3_stringTold_33
    · have n16 : w = 5 := (nI_eq (a := w) (b := 5) (by omega) (by omega)).mp c16
      refine lv_aload_n hx hb dX3_stringTold_19 rfl (lv_at hl 0 rfl) ?_
      refine lv_iload_n hx hb dX3_stringTold_20 rfl (lv_at hl 1 rfl) ?_
      refine pc_calli (va_runV (As := [.int (nI k)]) (rest := []) ⟨hx, hb, hml, hown, hts⟩ (mX3_tone l D cy b u th pz k hk) (cwV 1 hts gX3_stringTold_X3_tone rfl rfl rfl (by decide +kernel) ⟨Nat.le_of_ble_eq_true rfl, Nat.le_of_ble_eq_true rfl⟩) ⟨fun a U g mk q => ⟨q.1, q.2.1, va_K.moved (u := U) (U := U.calling g mk a) (Vm.Alike.refl U.vm) q.2.2⟩, va_recv hK hP (ci := 3) (q0 := 0) rfl rfl, fun U hU hW => ⟨rfl, by rw [hU]; exact hP, va_K.moved hW.alike hK⟩⟩ rfl rfl hl.1 rfl (lv_room (Nat.le_of_ble_eq_true rfl)) dX3_stringTold_21 ⟨Nat.le_of_ble_eq_true rfl, Nat.le_of_ble_eq_true rfl⟩) (fun r9 hr9 => ?_)
      subst hr9
      refine lv_goto (tgt := 33) hx hb dX3_stringTold_24 (by decide) ?_
      exact W.iret (v := toneP (uh u) pz k) hx hb hr (fun t ht hW => ⟨toneP (uh u) pz k, rfl, (by rw [show w = 5 by omega]; exact toneP_0 hk), ht⟩) (fun q hq => absurd hq List.not_mem_nil) dX3_stringTold_33
  · have n2 : ¬ (5 ≤ w) := fun h9 => c2 ((nI_leI (a := 5) (b := w) (by omega) (by omega)).mpr h9)
    refine lv_aload_n hx hb dX3_stringTold_5 rfl (lv_at hl 0 rfl) ?_
    refine lv_iload_n hx hb dX3_stringTold_6 rfl (lv_at hl 1 rfl) ?_
    refine lv_iload_n hx hb dX3_stringTold_7 rfl (lv_at hl 2 rfl) ?_
    refine pc_calli (va_runV (As := [.int (nI k), .int (nI w)]) (rest := []) ⟨hx, hb, hml, hown, hts⟩ (mX3_ha l D cy b u th pz k w hk (by omega)) (cwV 2 hts gX3_stringTold_X3_ha rfl rfl rfl (by decide +kernel) ⟨Nat.le_of_ble_eq_true rfl, Nat.le_of_ble_eq_true rfl⟩) ⟨fun a U g mk q => ⟨q.1, q.2.1, va_K.moved (u := U) (U := U.calling g mk a) (Vm.Alike.refl U.vm) q.2.2⟩, va_recv hK hP (ci := 3) (q0 := 0) rfl rfl, fun U hU hW => ⟨rfl, by rw [hU]; exact hP, va_K.moved hW.alike hK⟩⟩ rfl rfl hl.1 rfl (lv_room (Nat.le_of_ble_eq_true rfl)) dX3_stringTold_8 ⟨Nat.le_of_ble_eq_true rfl, Nat.le_of_ble_eq_true rfl⟩) (fun r9 hr9 => ?_)
    subst hr9
    refine lv_goto (tgt := 33) hx hb dX3_stringTold_11 (by decide) ?_
    exact W.iret (v := haF (uh u) k w) hx hb hr (fun t ht hW => ⟨haF (uh u) k w, rfl, (factH_ha (by omega)), ht⟩) (fun q hq => absurd hq List.not_mem_nil) dX3_stringTold_33

