theorem kL_push_0 : (.codeWith yL_push cL_push 5 (some .int) [(0, 10, 13, 13), (0, 10, 17, 15), (0, 10, 21, 17)] : Cond) ∈ wsL_push := by decide +kernel
theorem kL_push_1 : (.classLink RL 13 "java/lang/IndexOutOfBoundsException" : Cond) ∈ wsL_push := by decide +kernel
theorem kL_push_2 : (.classLink RL 15 "java/lang/IllegalArgumentException" : Cond) ∈ wsL_push := by decide +kernel
theorem kL_push_3 : (.classLink RL 17 "java/lang/IllegalStateException" : Cond) ∈ wsL_push := by decide +kernel
set_option maxHeartbeats 4000000 in
set_option maxRecDepth 100000 in
theorem mL_push (l : Launch) (hst : l.stackTraces = false) (D : va_G) (cy : Nat → ClassId) (sz : Nat) (a q q2 ca ta : Nat → Nat) (u : US) (g : HS) (hu : uOk u) (o : Nat) (f : Nat → Int64) (k v : Int32) : Met l yL_push wsL_push ({ frames := 8, cells := 3, slots := 18, locals := 124 } : Room) (va_Pc [.ref (a 0), .int k, .int v, .ref o] (fun U => U.heap.size = sz ∧ va_P D vwCl (wX cy a q q2 ca ta u g ++ [(o, .inl (cy 3, 1, .inr (.inl f)))]) U.heap ∧ va_K D vwCl (TY cy) U ∧ va_D (fun _ => True) (wX cy a q q2 ca ta u g ++ [(o, .inl (cy 3, 1, .inr (.inl f)))]) ∧ xC U U.heap ∧ xNc U)) (va_Qi (fun (r8 : Int32) (w9 : US × HS × (Nat → Int64)) => r8 = nI (exPush u k v) ∧ (exPush u k v = 0 → w9.2.2 0 = (tone (hPush (uh u) (ix k) v) (ix k)).toInt64 ∧ w9.1 = (uH u (hPush (uh u) (ix k) v))) ∧ (¬ exPush u k v = 0 → w9.1 = u)) (fun (w9 : US × HS × (Nat → Int64)) t => va_P D vwCl (wX cy a q q2 ca ta w9.1 w9.2.1 ++ [(o, .inl (cy 3, 1, .inr (.inl w9.2.2)))]) t.heap ∧ va_D (va_A (wX cy a q q2 ca ta u g ++ [(o, .inl (cy 3, 1, .inr (.inl f)))]) sz) (wX cy a q q2 ca ta w9.1 w9.2.1 ++ [(o, .inl (cy 3, 1, .inr (.inl w9.2.2)))])) (va_A (wX cy a q q2 ca ta u g ++ [(o, .inl (cy 3, 1, .inr (.inl f)))]) sz)) 3 18 (va_A (wX cy a q q2 ca ta u g ++ [(o, .inl (cy 3, 1, .inr (.inl f)))]) sz) := by
  refine pl_ofWH (cc := cL_push) (maxL := 5) (ret := (some .int)) (hh := [(0, 10, 13, 13), (0, 10, 17, 15), (0, 10, 21, 17)]) (by decide) rfl ?_
  intro p e s m args below meth c s₁ B hml hv
  obtain ⟨rfl, hsz, hP, hK, hD0, hX, hNc⟩ := hv
  have hx := B.exec
  have hb := B.bytes
  have hr := B.returns
  have hts := atoms_spec (ws := wsL_push) B.pre
  have hown : s.vm.findClass RL = some m.cls := findClass_of_methodNamed B.named
  have hlocks := B.notSynchronized
  have hl := lv_entry ([.ref (a 0), .int k, .int v, .ref o]) (n := 5) (Nat.le_of_ble_eq_true rfl)
  rw [lg_entry_eq]
  generalize (lg_sl ([.ref (a 0), .int k, .int v, .ref o]) ++ List.replicate (5 - (lg_sl ([.ref (a 0), .int k, .int v, .ref o])).length) Slot.unset).toArray = ls at hl ⊢
  have hl : lv_has ls 5 [(0, .ref (a 0)), (1, .int k), (2, .int v), (3, .ref o)] := hl
  subst hsz
  have hD := hD0.self (sz := s.heap.size)
  generalize hAe : va_A (wX cy a q q2 ca ta u g ++ [(o, .inl (cy 3, 1, .inr (.inl f)))]) s.heap.size = A at hD ⊢
  have hA : ∀ q : Nat, s.heap.size ≤ q → A q := fun q h => by rw [← hAe]; exact Or.inr h
  have hS : va_S A s.heap s.heap [] := va_S.rf
  have hP : va_P D vwCl (wX cy a q q2 ca ta u g ++ [(o, .inl (cy 3, 1, .inr (.inl f)))]) s.heap := hP
  have hT := vx_table (x := yL_push) B (hts _ kL_push_0)
  refine lv_aload_n hx hb dL_push_0 rfl (lv_at hl 3 rfl) ?_
  refine lv_iconst (v := 0) hx hb dL_push_1 (by decide) ?_
  refine lv_aload_n hx hb dL_push_2 rfl (lv_at hl 0 rfl) ?_
  refine lv_iload_n hx hb dL_push_3 rfl (lv_at hl 1 rfl) ?_
  refine lv_iload_n hx hb dL_push_4 rfl (lv_at hl 2 rfl) ?_
  have hPc := hP.sub (ws' := wX cy a q q2 ca ta u g) [0, 1, 2, 3, 4, 5, 6, 7, 8, 9, 10, 11, 12, 13, 14, 15, 16, 17, 18, 19, 20, 21, 22, 23, 24, 25, 26, 27, 28, 29] rfl
  have hDc := hD.sub (ws' := wX cy a q q2 ca ta u g) [0, 1, 2, 3, 4, 5, 6, 7, 8, 9, 10, 11, 12, 13, 14, 15, 16, 17, 18, 19, 20, 21, 22, 23, 24, 25, 26, 27, 28, 29] (by decide) rfl
  have hFc := va_free (wc := wX cy a q q2 ca ta u g) hD hS hA [0, 1, 2, 3, 4, 5, 6, 7, 8, 9, 10, 11, 12, 13, 14, 15, 16, 17, 18, 19, 20, 21, 22, 23, 24, 25, 26, 27, 28, 29] rfl
  refine px_callw (vx_runV (As := [.int k, .int v]) (rest := [.int 0, .ref o]) ⟨hx, hb, hml, hown, hts⟩ (mX2_push l hst D cy s.heap.size a q q2 ca ta u g hu k v) (cwV 2 hts gL_push_X2_push rfl rfl rfl (by decide +kernel) ⟨Nat.le_of_ble_eq_true rfl, Nat.le_of_ble_eq_true rfl⟩) ⟨fun a U g mk q => ⟨q.1, q.2.1, q.2.2.1, va_K.moved (u := U) (U := U.calling g mk a) (Vm.Alike.refl U.vm) q.2.2.2.1, q.2.2.2.2.1, xC.warm (State.WarmedH.refl U) q.2.2.2.2.2⟩, va_recv hK hPc (ci := 2) (q0 := 0) rfl rfl, fun U hU hW => ⟨rfl, by rw [hU], by rw [hU]; exact hPc, va_K.moved hW.alike hK, hDc.weaken (fun _ _ _ _ => trivial), (show xC U U.heap by rw [hU]; exact hX.warm hW)⟩⟩ rfl rfl hl.1 rfl (lv_room (Nat.le_of_ble_eq_true rfl)) dL_push_5 ⟨Nat.le_of_ble_eq_true rfl, Nat.le_of_ble_eq_true rfl⟩) hS (fun q _ h => hFc q h) hFc (fun E9 ce9 q9 H9 locs9 hE9 h19 h29 hS9 hce9 hcv9 hcl9 => ?_) (fun r9 u9 t9 H1 locs ht9 hvm9 hw9 hB9 hz9 hk9 hS => ?_)
  · have hP : va_P D vwCl (wX cy a q q2 ca ta u g ++ [(o, .inl (cy 3, 1, .inr (.inl f)))]) H9 := hP.kept (fun k q hk => h29 q.1 (hP k q hk).lt)
    have hS := hS9
    have hle9 := exPush_le u k v
    rcases (show exPush u k v = 1 ∨ exPush u k v = 2 ∨ exPush u k v = 3 by have := hE9.2; omega) with hx9 | hx9 | hx9
    · rw [hx9] at hE9
      obtain rfl : E9 = xI := hE9.1
      refine vx_catch (name := xI) hown [] ⟨0, 10, 13, 13⟩ [⟨0, 10, 17, 15⟩, ⟨0, 10, 21, 17⟩] (by rw [hT]; rfl) (fun _ hz => absurd hz List.not_mem_nil) (by decide) (by decide) (hts _ kL_push_1) (xC.cast hX xI_in) hce9 hcv9 hcl9 ?_
      refine W.widen (k := 3) (n := 18) (Nat.le_of_ble_eq_true rfl) (Nat.le_of_ble_eq_true rfl) ?_
      refine lv_astore (lv' := [(4, .ref q9), (0, .ref (a 0)), (1, .int k), (2, .int v), (3, .ref o)]) hx hb dL_push_13 hl (by decide) rfl (fun ls hl => ?_)
      refine lv_iconst (v := 1) hx hb dL_push_15 (by decide) ?_
      have hP9 : va_P D vwCl (wX cy a q q2 ca ta (u, g, f).1 (u, g, f).2.1 ++ [(o, .inl (cy 3, 1, .inr (.inl (u, g, f).2.2)))]) H9 := hP
      have hD9 : va_D A (wX cy a q q2 ca ta (u, g, f).1 (u, g, f).2.1 ++ [(o, .inl (cy 3, 1, .inr (.inl (u, g, f).2.2)))]) := hD
      exact W.iret (v := 1) hx hb hr (fun t ht hW => ⟨⟨1, (u, g, f), rfl, ⟨by rw [hx9]; rfl, fun z => absurd (hx9.symm.trans z) (by decide), fun _ => rfl⟩, by rw [ht]; exact hP9, hD9⟩, hS.F ht⟩) hS.2.2 dL_push_16
    · rw [hx9] at hE9
      obtain rfl : E9 = xA := hE9.1
      refine vx_catch (name := xA) hown [⟨0, 10, 13, 13⟩] ⟨0, 10, 17, 15⟩ [⟨0, 10, 21, 17⟩] (by rw [hT]; rfl) (List.forall_mem_cons.mpr ⟨Or.inr ⟨by decide, xI, (hts _ kL_push_1), hNc.1⟩, (fun _ hz => absurd hz List.not_mem_nil)⟩) (by decide) (by decide) (hts _ kL_push_2) (xC.cast hX xA_in) hce9 hcv9 hcl9 ?_
      refine W.widen (k := 3) (n := 18) (Nat.le_of_ble_eq_true rfl) (Nat.le_of_ble_eq_true rfl) ?_
      refine lv_astore (lv' := [(4, .ref q9), (0, .ref (a 0)), (1, .int k), (2, .int v), (3, .ref o)]) hx hb dL_push_17 hl (by decide) rfl (fun ls hl => ?_)
      refine lv_iconst (v := 2) hx hb dL_push_19 (by decide) ?_
      have hP9 : va_P D vwCl (wX cy a q q2 ca ta (u, g, f).1 (u, g, f).2.1 ++ [(o, .inl (cy 3, 1, .inr (.inl (u, g, f).2.2)))]) H9 := hP
      have hD9 : va_D A (wX cy a q q2 ca ta (u, g, f).1 (u, g, f).2.1 ++ [(o, .inl (cy 3, 1, .inr (.inl (u, g, f).2.2)))]) := hD
      exact W.iret (v := 2) hx hb hr (fun t ht hW => ⟨⟨2, (u, g, f), rfl, ⟨by rw [hx9]; rfl, fun z => absurd (hx9.symm.trans z) (by decide), fun _ => rfl⟩, by rw [ht]; exact hP9, hD9⟩, hS.F ht⟩) hS.2.2 dL_push_20
    · rw [hx9] at hE9
      obtain rfl : E9 = xT := hE9.1
      refine vx_catch (name := xT) hown [⟨0, 10, 13, 13⟩, ⟨0, 10, 17, 15⟩] ⟨0, 10, 21, 17⟩ [] (by rw [hT]; rfl) (List.forall_mem_cons.mpr ⟨Or.inr ⟨by decide, xI, (hts _ kL_push_1), hNc.2.1⟩, (List.forall_mem_cons.mpr ⟨Or.inr ⟨by decide, xA, (hts _ kL_push_2), hNc.2.2.1⟩, (fun _ hz => absurd hz List.not_mem_nil)⟩)⟩) (by decide) (by decide) (hts _ kL_push_3) (xC.cast hX xT_in) hce9 hcv9 hcl9 ?_
      refine W.widen (k := 3) (n := 18) (Nat.le_of_ble_eq_true rfl) (Nat.le_of_ble_eq_true rfl) ?_
      refine lv_astore (lv' := [(4, .ref q9), (0, .ref (a 0)), (1, .int k), (2, .int v), (3, .ref o)]) hx hb dL_push_21 hl (by decide) rfl (fun ls hl => ?_)
      refine lv_iconst (v := 3) hx hb dL_push_23 (by decide) ?_
      have hP9 : va_P D vwCl (wX cy a q q2 ca ta (u, g, f).1 (u, g, f).2.1 ++ [(o, .inl (cy 3, 1, .inr (.inl (u, g, f).2.2)))]) H9 := hP
      have hD9 : va_D A (wX cy a q q2 ca ta (u, g, f).1 (u, g, f).2.1 ++ [(o, .inl (cy 3, 1, .inr (.inl (u, g, f).2.2)))]) := hD
      exact W.iret (v := 3) hx hb hr (fun t ht hW => ⟨⟨3, (u, g, f), rfl, ⟨by rw [hx9]; rfl, fun z => absurd (hx9.symm.trans z) (by decide), fun _ => rfl⟩, by rw [ht]; exact hP9, hD9⟩, hS.F ht⟩) hS.2.2 dL_push_24
  · obtain ⟨hP1, hD1⟩ := hB9
    rw [ht9] at hP1
    obtain ⟨hP, hD⟩ := va_join (wr := [(o, .inl ((cy 3), 1, .inr (.inl f)))]) (w1 := wX cy a q q2 ca ta (uH u (hPush (uh u) (ix k) v)) g) hP hD [0, 1, 2, 3, 4, 5, 6, 7, 8, 9, 10, 11, 12, 13, 14, 15, 16, 17, 18, 19, 20, 21, 22, 23, 24, 25, 26, 27, 28, 29] [30] rfl rfl (by decide) (by decide) hk9 hFc hP1 hD1
    generalize H1 = H at hP hS ⊢
    have hP : va_P D vwCl (wX cy a q q2 ca ta (uH u (hPush (uh u) (ix k) v)) g ++ [(o, .inl (cy 3, 1, .inr (.inl f)))]) H := hP.sub [1, 2, 3, 4, 5, 6, 7, 8, 9, 10, 11, 12, 13, 14, 15, 16, 17, 18, 19, 20, 21, 22, 23, 24, 25, 26, 27, 28, 29, 30, 0] rfl
    have hD : va_D A (wX cy a q q2 ca ta (uH u (hPush (uh u) (ix k) v)) g ++ [(o, .inl (cy 3, 1, .inr (.inl f)))]) := hD.sub [1, 2, 3, 4, 5, 6, 7, 8, 9, 10, 11, 12, 13, 14, 15, 16, 17, 18, 19, 20, 21, 22, 23, 24, 25, 26, 27, 28, 29, 30, 0] (by decide) rfl
    clear hP1 hD1 hk9 hz9 ht9 hvm9 hPc hDc hFc
    obtain ⟨hx9, hw9⟩ := hw9
    subst hw9
    refine W.widen (k := 3) (n := 18) (Nat.le_of_ble_eq_true rfl) (Nat.le_of_ble_eq_true rfl) ?_
    refine lv_i2l (v := (tone (hPush (uh u) (ix k) v) (ix k)).toInt64) hx hb dL_push_8 rfl ?_
    refine va_last hx hb hK hP hD hS 30 3 rfl rfl (i := 0) (show vp_in (0 : Int32) 1 from vp_in_nI (by decide) (by decide)) dL_push_9 (fun H locs hP hD hS => ?_)
    have hP : va_P D vwCl [(a 0, .inr (2, [.ref (q 0), .ref (q2 0), .ref (a 1), .ref (a 2), .ref (a 3), .int (nI (un u))])), (a 1, .inl ((cy 0), 12, .inl (uw u))), (a 2, .inl ((cy 0), 12, .inl (ud u))), (q 0, .inr (1, [.ref (q 1), .ref (q 2), .ref (q 3), .ref (q 4), .ref (q 5), .ref (q 6), .int (zl (hPush (uh u) (ix k) v)), .int (nI (zh (hPush (uh u) (ix k) v)))])), (q 1, .inl ((cy 0), 12, .inl (zb (hPush (uh u) (ix k) v)))), (q 2, .inl ((cy 0), 12, .inl (zw (hPush (uh u) (ix k) v)))), (q 3, .inl ((cy 0), 12, .inl (zd (hPush (uh u) (ix k) v)))), (q 4, .inl ((cy 0), 12, .inl (zs (hPush (uh u) (ix k) v)))), (q 5, .inl ((cy 0), 12, .inl (zr (hPush (uh u) (ix k) v)))), (q 6, .inl ((cy 1), 12, .inl (zo (hPush (uh u) (ix k) v)))), (q2 0, .inr (1, [.ref (q2 1), .ref (q2 2), .ref (q2 3), .ref (q2 4), .ref (q2 5), .ref (q2 6), .int (zl g), .int (nI (zh g))])), (q2 1, .inl ((cy 0), 12, .inl (zb g))), (q2 2, .inl ((cy 0), 12, .inl (zw g))), (q2 3, .inl ((cy 0), 12, .inl (zd g))), (q2 4, .inl ((cy 0), 12, .inl (zs g))), (q2 5, .inl ((cy 0), 12, .inl (zr g))), (q2 6, .inl ((cy 1), 12, .inl (zo g))), (a 3, .inl ((cy 2), 6, .inr (.inr (.inr (.inr (fun i => some (ca i))))))), (ca 0, .inr (0, [.ref (ta 0), .int (nI (ul u 0)), .int (nI (uz u 0))])), (ca 1, .inr (0, [.ref (ta 1), .int (nI (ul u 1)), .int (nI (uz u 1))])), (ca 2, .inr (0, [.ref (ta 2), .int (nI (ul u 2)), .int (nI (uz u 2))])), (ca 3, .inr (0, [.ref (ta 3), .int (nI (ul u 3)), .int (nI (uz u 3))])), (ca 4, .inr (0, [.ref (ta 4), .int (nI (ul u 4)), .int (nI (uz u 4))])), (ca 5, .inr (0, [.ref (ta 5), .int (nI (ul u 5)), .int (nI (uz u 5))])), (ta 0, .inl ((cy 0), 4, .inl (ut u 0))), (ta 1, .inl ((cy 0), 4, .inl (ut u 1))), (ta 2, .inl ((cy 0), 4, .inl (ut u 2))), (ta 3, .inl ((cy 0), 4, .inl (ut u 3))), (ta 4, .inl ((cy 0), 4, .inl (ut u 4))), (ta 5, .inl ((cy 0), 4, .inl (ut u 5))), (o, .inl ((cy 3), 1, .inr (.inl (vp_updL f (0 : Int32).toNatClampNeg ((tone (hPush (uh u) (ix k) v) (ix k)).toInt64)))))] H := hP
    have hD : va_D A [(a 0, .inr (2, [.ref (q 0), .ref (q2 0), .ref (a 1), .ref (a 2), .ref (a 3), .int (nI (un u))])), (a 1, .inl ((cy 0), 12, .inl (uw u))), (a 2, .inl ((cy 0), 12, .inl (ud u))), (q 0, .inr (1, [.ref (q 1), .ref (q 2), .ref (q 3), .ref (q 4), .ref (q 5), .ref (q 6), .int (zl (hPush (uh u) (ix k) v)), .int (nI (zh (hPush (uh u) (ix k) v)))])), (q 1, .inl ((cy 0), 12, .inl (zb (hPush (uh u) (ix k) v)))), (q 2, .inl ((cy 0), 12, .inl (zw (hPush (uh u) (ix k) v)))), (q 3, .inl ((cy 0), 12, .inl (zd (hPush (uh u) (ix k) v)))), (q 4, .inl ((cy 0), 12, .inl (zs (hPush (uh u) (ix k) v)))), (q 5, .inl ((cy 0), 12, .inl (zr (hPush (uh u) (ix k) v)))), (q 6, .inl ((cy 1), 12, .inl (zo (hPush (uh u) (ix k) v)))), (q2 0, .inr (1, [.ref (q2 1), .ref (q2 2), .ref (q2 3), .ref (q2 4), .ref (q2 5), .ref (q2 6), .int (zl g), .int (nI (zh g))])), (q2 1, .inl ((cy 0), 12, .inl (zb g))), (q2 2, .inl ((cy 0), 12, .inl (zw g))), (q2 3, .inl ((cy 0), 12, .inl (zd g))), (q2 4, .inl ((cy 0), 12, .inl (zs g))), (q2 5, .inl ((cy 0), 12, .inl (zr g))), (q2 6, .inl ((cy 1), 12, .inl (zo g))), (a 3, .inl ((cy 2), 6, .inr (.inr (.inr (.inr (fun i => some (ca i))))))), (ca 0, .inr (0, [.ref (ta 0), .int (nI (ul u 0)), .int (nI (uz u 0))])), (ca 1, .inr (0, [.ref (ta 1), .int (nI (ul u 1)), .int (nI (uz u 1))])), (ca 2, .inr (0, [.ref (ta 2), .int (nI (ul u 2)), .int (nI (uz u 2))])), (ca 3, .inr (0, [.ref (ta 3), .int (nI (ul u 3)), .int (nI (uz u 3))])), (ca 4, .inr (0, [.ref (ta 4), .int (nI (ul u 4)), .int (nI (uz u 4))])), (ca 5, .inr (0, [.ref (ta 5), .int (nI (ul u 5)), .int (nI (uz u 5))])), (ta 0, .inl ((cy 0), 4, .inl (ut u 0))), (ta 1, .inl ((cy 0), 4, .inl (ut u 1))), (ta 2, .inl ((cy 0), 4, .inl (ut u 2))), (ta 3, .inl ((cy 0), 4, .inl (ut u 3))), (ta 4, .inl ((cy 0), 4, .inl (ut u 4))), (ta 5, .inl ((cy 0), 4, .inl (ut u 5))), (o, .inl ((cy 3), 1, .inr (.inl (vp_updL f (0 : Int32).toNatClampNeg ((tone (hPush (uh u) (ix k) v) (ix k)).toInt64)))))] := hD
    refine lv_goto (tgt := 25) hx hb dL_push_10 (by decide) ?_
    refine lv_iconst (v := 0) hx hb dL_push_25 (by decide) ?_
    have hP9 : va_P D vwCl (wX cy a q q2 ca ta ((uH u (hPush (uh u) (ix k) v)), g, vp_updL f (0 : Int32).toNatClampNeg ((tone (hPush (uh u) (ix k) v) (ix k)).toInt64)).1 ((uH u (hPush (uh u) (ix k) v)), g, vp_updL f (0 : Int32).toNatClampNeg ((tone (hPush (uh u) (ix k) v) (ix k)).toInt64)).2.1 ++ [(o, .inl (cy 3, 1, .inr (.inl ((uH u (hPush (uh u) (ix k) v)), g, vp_updL f (0 : Int32).toNatClampNeg ((tone (hPush (uh u) (ix k) v) (ix k)).toInt64)).2.2)))]) H := hP
    have hD9 : va_D A (wX cy a q q2 ca ta ((uH u (hPush (uh u) (ix k) v)), g, vp_updL f (0 : Int32).toNatClampNeg ((tone (hPush (uh u) (ix k) v) (ix k)).toInt64)).1 ((uH u (hPush (uh u) (ix k) v)), g, vp_updL f (0 : Int32).toNatClampNeg ((tone (hPush (uh u) (ix k) v) (ix k)).toInt64)).2.1 ++ [(o, .inl (cy 3, 1, .inr (.inl ((uH u (hPush (uh u) (ix k) v)), g, vp_updL f (0 : Int32).toNatClampNeg ((tone (hPush (uh u) (ix k) v) (ix k)).toInt64)).2.2)))]) := hD
    exact W.iret (v := 0) hx hb hr (fun t ht hW => ⟨⟨0, ((uH u (hPush (uh u) (ix k) v)), g, vp_updL f (0 : Int32).toNatClampNeg ((tone (hPush (uh u) (ix k) v) (ix k)).toInt64)), rfl, ⟨by rw [hx9]; rfl, fun _ => ⟨(updL_at (f := f) (x := (tone (hPush (uh u) (ix k) v) (ix k)).toInt64)), rfl⟩, fun z => absurd hx9 z⟩, by rw [ht]; exact hP9, hD9⟩, hS.F ht⟩) hS.2.2 dL_push_26

theorem kL_draw_0 : (.codeWith yL_draw cL_draw 5 (some .int) [(0, 10, 13, 13), (0, 10, 17, 15)] : Cond) ∈ wsL_draw := by decide +kernel
theorem kL_draw_1 : (.classLink RL 13 "java/lang/IndexOutOfBoundsException" : Cond) ∈ wsL_draw := by decide +kernel
theorem kL_draw_2 : (.classLink RL 15 "java/lang/IllegalArgumentException" : Cond) ∈ wsL_draw := by decide +kernel
set_option maxHeartbeats 4000000 in
set_option maxRecDepth 100000 in
theorem mL_draw (l : Launch) (hst : l.stackTraces = false) (D : va_G) (cy : Nat → ClassId) (sz : Nat) (a q q2 ca ta : Nat → Nat) (u : US) (g : HS) (hu : uOk u) (o : Nat) (f : Nat → Int64) (k v : Int32) : Met l yL_draw wsL_draw ({ frames := 8, cells := 2, slots := 12, locals := 124 } : Room) (va_Pc [.ref (a 0), .int k, .int v, .ref o] (fun U => U.heap.size = sz ∧ va_P D vwCl (wX cy a q q2 ca ta u g ++ [(o, .inl (cy 3, 1, .inr (.inl f)))]) U.heap ∧ va_K D vwCl (TY cy) U ∧ va_D (fun _ => True) (wX cy a q q2 ca ta u g ++ [(o, .inl (cy 3, 1, .inr (.inl f)))]) ∧ xC U U.heap ∧ xNc U)) (va_Qi (fun (r8 : Int32) (w9 : US × HS × (Nat → Int64)) => r8 = nI (exDraw k v) ∧ (exDraw k v = 0 → w9.2.2 0 = (tone (hRenew (uh u) (ix k) v) (ix k)).toInt64 ∧ w9.1 = (uH u (hRenew (uh u) (ix k) v))) ∧ (¬ exDraw k v = 0 → w9.1 = u)) (fun (w9 : US × HS × (Nat → Int64)) t => va_P D vwCl (wX cy a q q2 ca ta w9.1 w9.2.1 ++ [(o, .inl (cy 3, 1, .inr (.inl w9.2.2)))]) t.heap ∧ va_D (va_A (wX cy a q q2 ca ta u g ++ [(o, .inl (cy 3, 1, .inr (.inl f)))]) sz) (wX cy a q q2 ca ta w9.1 w9.2.1 ++ [(o, .inl (cy 3, 1, .inr (.inl w9.2.2)))])) (va_A (wX cy a q q2 ca ta u g ++ [(o, .inl (cy 3, 1, .inr (.inl f)))]) sz)) 2 12 (va_A (wX cy a q q2 ca ta u g ++ [(o, .inl (cy 3, 1, .inr (.inl f)))]) sz) := by
  refine pl_ofWH (cc := cL_draw) (maxL := 5) (ret := (some .int)) (hh := [(0, 10, 13, 13), (0, 10, 17, 15)]) (by decide) rfl ?_
  intro p e s m args below meth c s₁ B hml hv
  obtain ⟨rfl, hsz, hP, hK, hD0, hX, hNc⟩ := hv
  have hx := B.exec
  have hb := B.bytes
  have hr := B.returns
  have hts := atoms_spec (ws := wsL_draw) B.pre
  have hown : s.vm.findClass RL = some m.cls := findClass_of_methodNamed B.named
  have hlocks := B.notSynchronized
  have hl := lv_entry ([.ref (a 0), .int k, .int v, .ref o]) (n := 5) (Nat.le_of_ble_eq_true rfl)
  rw [lg_entry_eq]
  generalize (lg_sl ([.ref (a 0), .int k, .int v, .ref o]) ++ List.replicate (5 - (lg_sl ([.ref (a 0), .int k, .int v, .ref o])).length) Slot.unset).toArray = ls at hl ⊢
  have hl : lv_has ls 5 [(0, .ref (a 0)), (1, .int k), (2, .int v), (3, .ref o)] := hl
  subst hsz
  have hD := hD0.self (sz := s.heap.size)
  generalize hAe : va_A (wX cy a q q2 ca ta u g ++ [(o, .inl (cy 3, 1, .inr (.inl f)))]) s.heap.size = A at hD ⊢
  have hA : ∀ q : Nat, s.heap.size ≤ q → A q := fun q h => by rw [← hAe]; exact Or.inr h
  have hS : va_S A s.heap s.heap [] := va_S.rf
  have hP : va_P D vwCl (wX cy a q q2 ca ta u g ++ [(o, .inl (cy 3, 1, .inr (.inl f)))]) s.heap := hP
  have hT := vx_table (x := yL_draw) B (hts _ kL_draw_0)
  refine lv_aload_n hx hb dL_draw_0 rfl (lv_at hl 3 rfl) ?_
  refine lv_iconst (v := 0) hx hb dL_draw_1 (by decide) ?_
  refine lv_aload_n hx hb dL_draw_2 rfl (lv_at hl 0 rfl) ?_
  refine lv_iload_n hx hb dL_draw_3 rfl (lv_at hl 1 rfl) ?_
  refine lv_iload_n hx hb dL_draw_4 rfl (lv_at hl 2 rfl) ?_
  have hPc := hP.sub (ws' := wX cy a q q2 ca ta u g) [0, 1, 2, 3, 4, 5, 6, 7, 8, 9, 10, 11, 12, 13, 14, 15, 16, 17, 18, 19, 20, 21, 22, 23, 24, 25, 26, 27, 28, 29] rfl
  have hDc := hD.sub (ws' := wX cy a q q2 ca ta u g) [0, 1, 2, 3, 4, 5, 6, 7, 8, 9, 10, 11, 12, 13, 14, 15, 16, 17, 18, 19, 20, 21, 22, 23, 24, 25, 26, 27, 28, 29] (by decide) rfl
  have hFc := va_free (wc := wX cy a q q2 ca ta u g) hD hS hA [0, 1, 2, 3, 4, 5, 6, 7, 8, 9, 10, 11, 12, 13, 14, 15, 16, 17, 18, 19, 20, 21, 22, 23, 24, 25, 26, 27, 28, 29] rfl
  refine px_callw (vx_runV (As := [.int k, .int v]) (rest := [.int 0, .ref o]) ⟨hx, hb, hml, hown, hts⟩ (mX2_draw l hst D cy s.heap.size a q q2 ca ta u g hu k v) (cwV 2 hts gL_draw_X2_draw rfl rfl rfl (by decide +kernel) ⟨Nat.le_of_ble_eq_true rfl, Nat.le_of_ble_eq_true rfl⟩) ⟨fun a U g mk q => ⟨q.1, q.2.1, q.2.2.1, va_K.moved (u := U) (U := U.calling g mk a) (Vm.Alike.refl U.vm) q.2.2.2.1, q.2.2.2.2.1, xC.warm (State.WarmedH.refl U) q.2.2.2.2.2⟩, va_recv hK hPc (ci := 2) (q0 := 0) rfl rfl, fun U hU hW => ⟨rfl, by rw [hU], by rw [hU]; exact hPc, va_K.moved hW.alike hK, hDc.weaken (fun _ _ _ _ => trivial), (show xC U U.heap by rw [hU]; exact hX.warm hW)⟩⟩ rfl rfl hl.1 rfl (lv_room (Nat.le_of_ble_eq_true rfl)) dL_draw_5 ⟨Nat.le_of_ble_eq_true rfl, Nat.le_of_ble_eq_true rfl⟩) hS (fun q _ h => hFc q h) hFc (fun E9 ce9 q9 H9 locs9 hE9 h19 h29 hS9 hce9 hcv9 hcl9 => ?_) (fun r9 u9 t9 H1 locs ht9 hvm9 hw9 hB9 hz9 hk9 hS => ?_)
  · have hP : va_P D vwCl (wX cy a q q2 ca ta u g ++ [(o, .inl (cy 3, 1, .inr (.inl f)))]) H9 := hP.kept (fun k q hk => h29 q.1 (hP k q hk).lt)
    have hS := hS9
    have hle9 := exDraw_le k v
    rcases (show exDraw k v = 1 ∨ exDraw k v = 2 by have := hE9.2; omega) with hx9 | hx9
    · rw [hx9] at hE9
      obtain rfl : E9 = xI := hE9.1
      refine vx_catch (name := xI) hown [] ⟨0, 10, 13, 13⟩ [⟨0, 10, 17, 15⟩] (by rw [hT]; rfl) (fun _ hz => absurd hz List.not_mem_nil) (by decide) (by decide) (hts _ kL_draw_1) (xC.cast hX xI_in) hce9 hcv9 hcl9 ?_
      refine W.widen (k := 2) (n := 12) (Nat.le_of_ble_eq_true rfl) (Nat.le_of_ble_eq_true rfl) ?_
      refine lv_astore (lv' := [(4, .ref q9), (0, .ref (a 0)), (1, .int k), (2, .int v), (3, .ref o)]) hx hb dL_draw_13 hl (by decide) rfl (fun ls hl => ?_)
      refine lv_iconst (v := 1) hx hb dL_draw_15 (by decide) ?_
      have hP9 : va_P D vwCl (wX cy a q q2 ca ta (u, g, f).1 (u, g, f).2.1 ++ [(o, .inl (cy 3, 1, .inr (.inl (u, g, f).2.2)))]) H9 := hP
      have hD9 : va_D A (wX cy a q q2 ca ta (u, g, f).1 (u, g, f).2.1 ++ [(o, .inl (cy 3, 1, .inr (.inl (u, g, f).2.2)))]) := hD
      exact W.iret (v := 1) hx hb hr (fun t ht hW => ⟨⟨1, (u, g, f), rfl, ⟨by rw [hx9]; rfl, fun z => absurd (hx9.symm.trans z) (by decide), fun _ => rfl⟩, by rw [ht]; exact hP9, hD9⟩, hS.F ht⟩) hS.2.2 dL_draw_16
    · rw [hx9] at hE9
      obtain rfl : E9 = xA := hE9.1
      refine vx_catch (name := xA) hown [⟨0, 10, 13, 13⟩] ⟨0, 10, 17, 15⟩ [] (by rw [hT]; rfl) (List.forall_mem_cons.mpr ⟨Or.inr ⟨by decide, xI, (hts _ kL_draw_1), hNc.1⟩, (fun _ hz => absurd hz List.not_mem_nil)⟩) (by decide) (by decide) (hts _ kL_draw_2) (xC.cast hX xA_in) hce9 hcv9 hcl9 ?_
      refine W.widen (k := 2) (n := 12) (Nat.le_of_ble_eq_true rfl) (Nat.le_of_ble_eq_true rfl) ?_
      refine lv_astore (lv' := [(4, .ref q9), (0, .ref (a 0)), (1, .int k), (2, .int v), (3, .ref o)]) hx hb dL_draw_17 hl (by decide) rfl (fun ls hl => ?_)
      refine lv_iconst (v := 2) hx hb dL_draw_19 (by decide) ?_
      have hP9 : va_P D vwCl (wX cy a q q2 ca ta (u, g, f).1 (u, g, f).2.1 ++ [(o, .inl (cy 3, 1, .inr (.inl (u, g, f).2.2)))]) H9 := hP
      have hD9 : va_D A (wX cy a q q2 ca ta (u, g, f).1 (u, g, f).2.1 ++ [(o, .inl (cy 3, 1, .inr (.inl (u, g, f).2.2)))]) := hD
      exact W.iret (v := 2) hx hb hr (fun t ht hW => ⟨⟨2, (u, g, f), rfl, ⟨by rw [hx9]; rfl, fun z => absurd (hx9.symm.trans z) (by decide), fun _ => rfl⟩, by rw [ht]; exact hP9, hD9⟩, hS.F ht⟩) hS.2.2 dL_draw_20
  · obtain ⟨hP1, hD1⟩ := hB9
    rw [ht9] at hP1
    obtain ⟨hP, hD⟩ := va_join (wr := [(o, .inl ((cy 3), 1, .inr (.inl f)))]) (w1 := wX cy a q q2 ca ta (uH u (hRenew (uh u) (ix k) v)) g) hP hD [0, 1, 2, 3, 4, 5, 6, 7, 8, 9, 10, 11, 12, 13, 14, 15, 16, 17, 18, 19, 20, 21, 22, 23, 24, 25, 26, 27, 28, 29] [30] rfl rfl (by decide) (by decide) hk9 hFc hP1 hD1
    generalize H1 = H at hP hS ⊢
    have hP : va_P D vwCl (wX cy a q q2 ca ta (uH u (hRenew (uh u) (ix k) v)) g ++ [(o, .inl (cy 3, 1, .inr (.inl f)))]) H := hP.sub [1, 2, 3, 4, 5, 6, 7, 8, 9, 10, 11, 12, 13, 14, 15, 16, 17, 18, 19, 20, 21, 22, 23, 24, 25, 26, 27, 28, 29, 30, 0] rfl
    have hD : va_D A (wX cy a q q2 ca ta (uH u (hRenew (uh u) (ix k) v)) g ++ [(o, .inl (cy 3, 1, .inr (.inl f)))]) := hD.sub [1, 2, 3, 4, 5, 6, 7, 8, 9, 10, 11, 12, 13, 14, 15, 16, 17, 18, 19, 20, 21, 22, 23, 24, 25, 26, 27, 28, 29, 30, 0] (by decide) rfl
    clear hP1 hD1 hk9 hz9 ht9 hvm9 hPc hDc hFc
    obtain ⟨hx9, hw9⟩ := hw9
    subst hw9
    refine W.widen (k := 2) (n := 12) (Nat.le_of_ble_eq_true rfl) (Nat.le_of_ble_eq_true rfl) ?_
    refine lv_i2l (v := (tone (hRenew (uh u) (ix k) v) (ix k)).toInt64) hx hb dL_draw_8 rfl ?_
    refine va_last hx hb hK hP hD hS 30 3 rfl rfl (i := 0) (show vp_in (0 : Int32) 1 from vp_in_nI (by decide) (by decide)) dL_draw_9 (fun H locs hP hD hS => ?_)
    have hP : va_P D vwCl [(a 0, .inr (2, [.ref (q 0), .ref (q2 0), .ref (a 1), .ref (a 2), .ref (a 3), .int (nI (un u))])), (a 1, .inl ((cy 0), 12, .inl (uw u))), (a 2, .inl ((cy 0), 12, .inl (ud u))), (q 0, .inr (1, [.ref (q 1), .ref (q 2), .ref (q 3), .ref (q 4), .ref (q 5), .ref (q 6), .int (zl (hRenew (uh u) (ix k) v)), .int (nI (zh (hRenew (uh u) (ix k) v)))])), (q 1, .inl ((cy 0), 12, .inl (zb (hRenew (uh u) (ix k) v)))), (q 2, .inl ((cy 0), 12, .inl (zw (hRenew (uh u) (ix k) v)))), (q 3, .inl ((cy 0), 12, .inl (zd (hRenew (uh u) (ix k) v)))), (q 4, .inl ((cy 0), 12, .inl (zs (hRenew (uh u) (ix k) v)))), (q 5, .inl ((cy 0), 12, .inl (zr (hRenew (uh u) (ix k) v)))), (q 6, .inl ((cy 1), 12, .inl (zo (hRenew (uh u) (ix k) v)))), (q2 0, .inr (1, [.ref (q2 1), .ref (q2 2), .ref (q2 3), .ref (q2 4), .ref (q2 5), .ref (q2 6), .int (zl g), .int (nI (zh g))])), (q2 1, .inl ((cy 0), 12, .inl (zb g))), (q2 2, .inl ((cy 0), 12, .inl (zw g))), (q2 3, .inl ((cy 0), 12, .inl (zd g))), (q2 4, .inl ((cy 0), 12, .inl (zs g))), (q2 5, .inl ((cy 0), 12, .inl (zr g))), (q2 6, .inl ((cy 1), 12, .inl (zo g))), (a 3, .inl ((cy 2), 6, .inr (.inr (.inr (.inr (fun i => some (ca i))))))), (ca 0, .inr (0, [.ref (ta 0), .int (nI (ul u 0)), .int (nI (uz u 0))])), (ca 1, .inr (0, [.ref (ta 1), .int (nI (ul u 1)), .int (nI (uz u 1))])), (ca 2, .inr (0, [.ref (ta 2), .int (nI (ul u 2)), .int (nI (uz u 2))])), (ca 3, .inr (0, [.ref (ta 3), .int (nI (ul u 3)), .int (nI (uz u 3))])), (ca 4, .inr (0, [.ref (ta 4), .int (nI (ul u 4)), .int (nI (uz u 4))])), (ca 5, .inr (0, [.ref (ta 5), .int (nI (ul u 5)), .int (nI (uz u 5))])), (ta 0, .inl ((cy 0), 4, .inl (ut u 0))), (ta 1, .inl ((cy 0), 4, .inl (ut u 1))), (ta 2, .inl ((cy 0), 4, .inl (ut u 2))), (ta 3, .inl ((cy 0), 4, .inl (ut u 3))), (ta 4, .inl ((cy 0), 4, .inl (ut u 4))), (ta 5, .inl ((cy 0), 4, .inl (ut u 5))), (o, .inl ((cy 3), 1, .inr (.inl (vp_updL f (0 : Int32).toNatClampNeg ((tone (hRenew (uh u) (ix k) v) (ix k)).toInt64)))))] H := hP
    have hD : va_D A [(a 0, .inr (2, [.ref (q 0), .ref (q2 0), .ref (a 1), .ref (a 2), .ref (a 3), .int (nI (un u))])), (a 1, .inl ((cy 0), 12, .inl (uw u))), (a 2, .inl ((cy 0), 12, .inl (ud u))), (q 0, .inr (1, [.ref (q 1), .ref (q 2), .ref (q 3), .ref (q 4), .ref (q 5), .ref (q 6), .int (zl (hRenew (uh u) (ix k) v)), .int (nI (zh (hRenew (uh u) (ix k) v)))])), (q 1, .inl ((cy 0), 12, .inl (zb (hRenew (uh u) (ix k) v)))), (q 2, .inl ((cy 0), 12, .inl (zw (hRenew (uh u) (ix k) v)))), (q 3, .inl ((cy 0), 12, .inl (zd (hRenew (uh u) (ix k) v)))), (q 4, .inl ((cy 0), 12, .inl (zs (hRenew (uh u) (ix k) v)))), (q 5, .inl ((cy 0), 12, .inl (zr (hRenew (uh u) (ix k) v)))), (q 6, .inl ((cy 1), 12, .inl (zo (hRenew (uh u) (ix k) v)))), (q2 0, .inr (1, [.ref (q2 1), .ref (q2 2), .ref (q2 3), .ref (q2 4), .ref (q2 5), .ref (q2 6), .int (zl g), .int (nI (zh g))])), (q2 1, .inl ((cy 0), 12, .inl (zb g))), (q2 2, .inl ((cy 0), 12, .inl (zw g))), (q2 3, .inl ((cy 0), 12, .inl (zd g))), (q2 4, .inl ((cy 0), 12, .inl (zs g))), (q2 5, .inl ((cy 0), 12, .inl (zr g))), (q2 6, .inl ((cy 1), 12, .inl (zo g))), (a 3, .inl ((cy 2), 6, .inr (.inr (.inr (.inr (fun i => some (ca i))))))), (ca 0, .inr (0, [.ref (ta 0), .int (nI (ul u 0)), .int (nI (uz u 0))])), (ca 1, .inr (0, [.ref (ta 1), .int (nI (ul u 1)), .int (nI (uz u 1))])), (ca 2, .inr (0, [.ref (ta 2), .int (nI (ul u 2)), .int (nI (uz u 2))])), (ca 3, .inr (0, [.ref (ta 3), .int (nI (ul u 3)), .int (nI (uz u 3))])), (ca 4, .inr (0, [.ref (ta 4), .int (nI (ul u 4)), .int (nI (uz u 4))])), (ca 5, .inr (0, [.ref (ta 5), .int (nI (ul u 5)), .int (nI (uz u 5))])), (ta 0, .inl ((cy 0), 4, .inl (ut u 0))), (ta 1, .inl ((cy 0), 4, .inl (ut u 1))), (ta 2, .inl ((cy 0), 4, .inl (ut u 2))), (ta 3, .inl ((cy 0), 4, .inl (ut u 3))), (ta 4, .inl ((cy 0), 4, .inl (ut u 4))), (ta 5, .inl ((cy 0), 4, .inl (ut u 5))), (o, .inl ((cy 3), 1, .inr (.inl (vp_updL f (0 : Int32).toNatClampNeg ((tone (hRenew (uh u) (ix k) v) (ix k)).toInt64)))))] := hD
    refine lv_goto (tgt := 21) hx hb dL_draw_10 (by decide) ?_
    refine lv_iconst (v := 0) hx hb dL_draw_21 (by decide) ?_
    have hP9 : va_P D vwCl (wX cy a q q2 ca ta ((uH u (hRenew (uh u) (ix k) v)), g, vp_updL f (0 : Int32).toNatClampNeg ((tone (hRenew (uh u) (ix k) v) (ix k)).toInt64)).1 ((uH u (hRenew (uh u) (ix k) v)), g, vp_updL f (0 : Int32).toNatClampNeg ((tone (hRenew (uh u) (ix k) v) (ix k)).toInt64)).2.1 ++ [(o, .inl (cy 3, 1, .inr (.inl ((uH u (hRenew (uh u) (ix k) v)), g, vp_updL f (0 : Int32).toNatClampNeg ((tone (hRenew (uh u) (ix k) v) (ix k)).toInt64)).2.2)))]) H := hP
    have hD9 : va_D A (wX cy a q q2 ca ta ((uH u (hRenew (uh u) (ix k) v)), g, vp_updL f (0 : Int32).toNatClampNeg ((tone (hRenew (uh u) (ix k) v) (ix k)).toInt64)).1 ((uH u (hRenew (uh u) (ix k) v)), g, vp_updL f (0 : Int32).toNatClampNeg ((tone (hRenew (uh u) (ix k) v) (ix k)).toInt64)).2.1 ++ [(o, .inl (cy 3, 1, .inr (.inl ((uH u (hRenew (uh u) (ix k) v)), g, vp_updL f (0 : Int32).toNatClampNeg ((tone (hRenew (uh u) (ix k) v) (ix k)).toInt64)).2.2)))]) := hD
    exact W.iret (v := 0) hx hb hr (fun t ht hW => ⟨⟨0, ((uH u (hRenew (uh u) (ix k) v)), g, vp_updL f (0 : Int32).toNatClampNeg ((tone (hRenew (uh u) (ix k) v) (ix k)).toInt64)), rfl, ⟨by rw [hx9]; rfl, fun _ => ⟨(updL_at (f := f) (x := (tone (hRenew (uh u) (ix k) v) (ix k)).toInt64)), rfl⟩, fun z => absurd hx9 z⟩, by rw [ht]; exact hP9, hD9⟩, hS.F ht⟩) hS.2.2 dL_draw_22

theorem kL_setWeather_0 : (.codeWith yL_setWeather cL_setWeather 6 (some .int) [(0, 12, 15, 13), (0, 12, 19, 15)] : Cond) ∈ wsL_setWeather := by decide +kernel
theorem kL_setWeather_1 : (.classLink RL 13 "java/lang/IndexOutOfBoundsException" : Cond) ∈ wsL_setWeather := by decide +kernel
theorem kL_setWeather_2 : (.classLink RL 15 "java/lang/IllegalArgumentException" : Cond) ∈ wsL_setWeather := by decide +kernel
set_option maxHeartbeats 4000000 in
set_option maxRecDepth 100000 in
theorem mL_setWeather (l : Launch) (hst : l.stackTraces = false) (D : va_G) (cy : Nat → ClassId) (sz : Nat) (a q q2 ca ta : Nat → Nat) (u : US) (g : HS) (hu : uOk u) (o : Nat) (f : Nat → Int64) (k v w : Int32) : Met l yL_setWeather wsL_setWeather ({ frames := 8, cells := 1, slots := 6, locals := 106 } : Room) (va_Pc [.ref (a 0), .int k, .int v, .int w, .ref o] (fun U => U.heap.size = sz ∧ va_P D vwCl (wX cy a q q2 ca ta u g ++ [(o, .inl (cy 3, 1, .inr (.inl f)))]) U.heap ∧ va_K D vwCl (TY cy) U ∧ va_D (fun _ => True) (wX cy a q q2 ca ta u g ++ [(o, .inl (cy 3, 1, .inr (.inl f)))]) ∧ xC U U.heap ∧ xNc U)) (va_Qi (fun (r8 : Int32) (w9 : US × HS × (Nat → Int64)) => r8 = nI (exWea k v w) ∧ (exWea k v w = 0 → w9.2.2 0 = (wea u (ix k)).toInt64 ∧ w9.1 = (uWea u (ix k) v w)) ∧ (¬ exWea k v w = 0 → w9.1 = u)) (fun (w9 : US × HS × (Nat → Int64)) t => va_P D vwCl (wX cy a q q2 ca ta w9.1 w9.2.1 ++ [(o, .inl (cy 3, 1, .inr (.inl w9.2.2)))]) t.heap ∧ va_D (va_A (wX cy a q q2 ca ta u g ++ [(o, .inl (cy 3, 1, .inr (.inl f)))]) sz) (wX cy a q q2 ca ta w9.1 w9.2.1 ++ [(o, .inl (cy 3, 1, .inr (.inl w9.2.2)))])) (va_A (wX cy a q q2 ca ta u g ++ [(o, .inl (cy 3, 1, .inr (.inl f)))]) sz)) 1 6 (va_A (wX cy a q q2 ca ta u g ++ [(o, .inl (cy 3, 1, .inr (.inl f)))]) sz) := by
  refine pl_ofWH (cc := cL_setWeather) (maxL := 6) (ret := (some .int)) (hh := [(0, 12, 15, 13), (0, 12, 19, 15)]) (by decide) rfl ?_
  intro p e s m args below meth c s₁ B hml hv
  obtain ⟨rfl, hsz, hP, hK, hD0, hX, hNc⟩ := hv
  have hx := B.exec
  have hb := B.bytes
  have hr := B.returns
  have hts := atoms_spec (ws := wsL_setWeather) B.pre
  have hown : s.vm.findClass RL = some m.cls := findClass_of_methodNamed B.named
  have hlocks := B.notSynchronized
  have hl := lv_entry ([.ref (a 0), .int k, .int v, .int w, .ref o]) (n := 6) (Nat.le_of_ble_eq_true rfl)
  rw [lg_entry_eq]
  generalize (lg_sl ([.ref (a 0), .int k, .int v, .int w, .ref o]) ++ List.replicate (6 - (lg_sl ([.ref (a 0), .int k, .int v, .int w, .ref o])).length) Slot.unset).toArray = ls at hl ⊢
  have hl : lv_has ls 6 [(0, .ref (a 0)), (1, .int k), (2, .int v), (3, .int w), (4, .ref o)] := hl
  subst hsz
  have hD := hD0.self (sz := s.heap.size)
  generalize hAe : va_A (wX cy a q q2 ca ta u g ++ [(o, .inl (cy 3, 1, .inr (.inl f)))]) s.heap.size = A at hD ⊢
  have hA : ∀ q : Nat, s.heap.size ≤ q → A q := fun q h => by rw [← hAe]; exact Or.inr h
  have hS : va_S A s.heap s.heap [] := va_S.rf
  have hP : va_P D vwCl (wX cy a q q2 ca ta u g ++ [(o, .inl (cy 3, 1, .inr (.inl f)))]) s.heap := hP
  have hT := vx_table (x := yL_setWeather) B (hts _ kL_setWeather_0)
  refine lv_aload hx hb dL_setWeather_0 (lv_at hl 4 rfl) ?_
  refine lv_iconst (v := 0) hx hb dL_setWeather_2 (by decide) ?_
  refine lv_aload_n hx hb dL_setWeather_3 rfl (lv_at hl 0 rfl) ?_
  refine lv_iload_n hx hb dL_setWeather_4 rfl (lv_at hl 1 rfl) ?_
  refine lv_iload_n hx hb dL_setWeather_5 rfl (lv_at hl 2 rfl) ?_
  refine lv_iload_n hx hb dL_setWeather_6 rfl (lv_at hl 3 rfl) ?_
  have hPc := hP.sub (ws' := wX cy a q q2 ca ta u g) [0, 1, 2, 3, 4, 5, 6, 7, 8, 9, 10, 11, 12, 13, 14, 15, 16, 17, 18, 19, 20, 21, 22, 23, 24, 25, 26, 27, 28, 29] rfl
  have hDc := hD.sub (ws' := wX cy a q q2 ca ta u g) [0, 1, 2, 3, 4, 5, 6, 7, 8, 9, 10, 11, 12, 13, 14, 15, 16, 17, 18, 19, 20, 21, 22, 23, 24, 25, 26, 27, 28, 29] (by decide) rfl
  have hFc := va_free (wc := wX cy a q q2 ca ta u g) hD hS hA [0, 1, 2, 3, 4, 5, 6, 7, 8, 9, 10, 11, 12, 13, 14, 15, 16, 17, 18, 19, 20, 21, 22, 23, 24, 25, 26, 27, 28, 29] rfl
  refine px_callw (vx_runV (As := [.int k, .int v, .int w]) (rest := [.int 0, .ref o]) ⟨hx, hb, hml, hown, hts⟩ (mX2_setWeather l hst D cy s.heap.size a q q2 ca ta u g hu k v w) (cwV 3 hts gL_setWeather_X2_setWeather rfl rfl rfl (by decide +kernel) ⟨Nat.le_of_ble_eq_true rfl, Nat.le_of_ble_eq_true rfl⟩) ⟨fun a U g mk q => ⟨q.1, q.2.1, q.2.2.1, va_K.moved (u := U) (U := U.calling g mk a) (Vm.Alike.refl U.vm) q.2.2.2.1, q.2.2.2.2.1, xC.warm (State.WarmedH.refl U) q.2.2.2.2.2⟩, va_recv hK hPc (ci := 2) (q0 := 0) rfl rfl, fun U hU hW => ⟨rfl, by rw [hU], by rw [hU]; exact hPc, va_K.moved hW.alike hK, hDc.weaken (fun _ _ _ _ => trivial), (show xC U U.heap by rw [hU]; exact hX.warm hW)⟩⟩ rfl rfl hl.1 rfl (lv_room (Nat.le_of_ble_eq_true rfl)) dL_setWeather_7 ⟨Nat.le_of_ble_eq_true rfl, Nat.le_of_ble_eq_true rfl⟩) hS (fun q _ h => hFc q h) hFc (fun E9 ce9 q9 H9 locs9 hE9 h19 h29 hS9 hce9 hcv9 hcl9 => ?_) (fun r9 u9 t9 H1 locs ht9 hvm9 hw9 hB9 hz9 hk9 hS => ?_)
  · have hP : va_P D vwCl (wX cy a q q2 ca ta u g ++ [(o, .inl (cy 3, 1, .inr (.inl f)))]) H9 := hP.kept (fun k q hk => h29 q.1 (hP k q hk).lt)
    have hS := hS9
    have hle9 := exWea_le k v w
    rcases (show exWea k v w = 1 ∨ exWea k v w = 2 by have := hE9.2; omega) with hx9 | hx9
    · rw [hx9] at hE9
      obtain rfl : E9 = xI := hE9.1
      refine vx_catch (name := xI) hown [] ⟨0, 12, 15, 13⟩ [⟨0, 12, 19, 15⟩] (by rw [hT]; rfl) (fun _ hz => absurd hz List.not_mem_nil) (by decide) (by decide) (hts _ kL_setWeather_1) (xC.cast hX xI_in) hce9 hcv9 hcl9 ?_
      refine W.widen (k := 1) (n := 6) (Nat.le_of_ble_eq_true rfl) (Nat.le_of_ble_eq_true rfl) ?_
      refine lv_astore (lv' := [(5, .ref q9), (0, .ref (a 0)), (1, .int k), (2, .int v), (3, .int w), (4, .ref o)]) hx hb dL_setWeather_15 hl (by decide) rfl (fun ls hl => ?_)
      refine lv_iconst (v := 1) hx hb dL_setWeather_17 (by decide) ?_
      have hP9 : va_P D vwCl (wX cy a q q2 ca ta (u, g, f).1 (u, g, f).2.1 ++ [(o, .inl (cy 3, 1, .inr (.inl (u, g, f).2.2)))]) H9 := hP
      have hD9 : va_D A (wX cy a q q2 ca ta (u, g, f).1 (u, g, f).2.1 ++ [(o, .inl (cy 3, 1, .inr (.inl (u, g, f).2.2)))]) := hD
      exact W.iret (v := 1) hx hb hr (fun t ht hW => ⟨⟨1, (u, g, f), rfl, ⟨by rw [hx9]; rfl, fun z => absurd (hx9.symm.trans z) (by decide), fun _ => rfl⟩, by rw [ht]; exact hP9, hD9⟩, hS.F ht⟩) hS.2.2 dL_setWeather_18
    · rw [hx9] at hE9
      obtain rfl : E9 = xA := hE9.1
      refine vx_catch (name := xA) hown [⟨0, 12, 15, 13⟩] ⟨0, 12, 19, 15⟩ [] (by rw [hT]; rfl) (List.forall_mem_cons.mpr ⟨Or.inr ⟨by decide, xI, (hts _ kL_setWeather_1), hNc.1⟩, (fun _ hz => absurd hz List.not_mem_nil)⟩) (by decide) (by decide) (hts _ kL_setWeather_2) (xC.cast hX xA_in) hce9 hcv9 hcl9 ?_
      refine W.widen (k := 1) (n := 6) (Nat.le_of_ble_eq_true rfl) (Nat.le_of_ble_eq_true rfl) ?_
      refine lv_astore (lv' := [(5, .ref q9), (0, .ref (a 0)), (1, .int k), (2, .int v), (3, .int w), (4, .ref o)]) hx hb dL_setWeather_19 hl (by decide) rfl (fun ls hl => ?_)
      refine lv_iconst (v := 2) hx hb dL_setWeather_21 (by decide) ?_
      have hP9 : va_P D vwCl (wX cy a q q2 ca ta (u, g, f).1 (u, g, f).2.1 ++ [(o, .inl (cy 3, 1, .inr (.inl (u, g, f).2.2)))]) H9 := hP
      have hD9 : va_D A (wX cy a q q2 ca ta (u, g, f).1 (u, g, f).2.1 ++ [(o, .inl (cy 3, 1, .inr (.inl (u, g, f).2.2)))]) := hD
      exact W.iret (v := 2) hx hb hr (fun t ht hW => ⟨⟨2, (u, g, f), rfl, ⟨by rw [hx9]; rfl, fun z => absurd (hx9.symm.trans z) (by decide), fun _ => rfl⟩, by rw [ht]; exact hP9, hD9⟩, hS.F ht⟩) hS.2.2 dL_setWeather_22
  · obtain ⟨hP1, hD1⟩ := hB9
    rw [ht9] at hP1
    obtain ⟨hP, hD⟩ := va_join (wr := [(o, .inl ((cy 3), 1, .inr (.inl f)))]) (w1 := wX cy a q q2 ca ta (uWea u (ix k) v w) g) hP hD [0, 1, 2, 3, 4, 5, 6, 7, 8, 9, 10, 11, 12, 13, 14, 15, 16, 17, 18, 19, 20, 21, 22, 23, 24, 25, 26, 27, 28, 29] [30] rfl rfl (by decide) (by decide) hk9 hFc hP1 hD1
    generalize H1 = H at hP hS ⊢
    have hP : va_P D vwCl (wX cy a q q2 ca ta (uWea u (ix k) v w) g ++ [(o, .inl (cy 3, 1, .inr (.inl f)))]) H := hP.sub [1, 2, 3, 4, 5, 6, 7, 8, 9, 10, 11, 12, 13, 14, 15, 16, 17, 18, 19, 20, 21, 22, 23, 24, 25, 26, 27, 28, 29, 30, 0] rfl
    have hD : va_D A (wX cy a q q2 ca ta (uWea u (ix k) v w) g ++ [(o, .inl (cy 3, 1, .inr (.inl f)))]) := hD.sub [1, 2, 3, 4, 5, 6, 7, 8, 9, 10, 11, 12, 13, 14, 15, 16, 17, 18, 19, 20, 21, 22, 23, 24, 25, 26, 27, 28, 29, 30, 0] (by decide) rfl
    clear hP1 hD1 hk9 hz9 ht9 hvm9 hPc hDc hFc
    obtain ⟨hx9, hw9⟩ := hw9
    subst hw9
    refine W.widen (k := 1) (n := 6) (Nat.le_of_ble_eq_true rfl) (Nat.le_of_ble_eq_true rfl) ?_
    refine lv_i2l (v := (wea u (ix k)).toInt64) hx hb dL_setWeather_10 rfl ?_
    refine va_last hx hb hK hP hD hS 30 3 rfl rfl (i := 0) (show vp_in (0 : Int32) 1 from vp_in_nI (by decide) (by decide)) dL_setWeather_11 (fun H locs hP hD hS => ?_)
    have hP : va_P D vwCl [(a 0, .inr (2, [.ref (q 0), .ref (q2 0), .ref (a 1), .ref (a 2), .ref (a 3), .int (nI (un u))])), (a 1, .inl ((cy 0), 12, .inl (upd (uw u) (ix k) v))), (a 2, .inl ((cy 0), 12, .inl (upd (ud u) (ix k) w))), (q 0, .inr (1, [.ref (q 1), .ref (q 2), .ref (q 3), .ref (q 4), .ref (q 5), .ref (q 6), .int (zl (uh u)), .int (nI (zh (uh u)))])), (q 1, .inl ((cy 0), 12, .inl (zb (uh u)))), (q 2, .inl ((cy 0), 12, .inl (zw (uh u)))), (q 3, .inl ((cy 0), 12, .inl (zd (uh u)))), (q 4, .inl ((cy 0), 12, .inl (zs (uh u)))), (q 5, .inl ((cy 0), 12, .inl (zr (uh u)))), (q 6, .inl ((cy 1), 12, .inl (zo (uh u)))), (q2 0, .inr (1, [.ref (q2 1), .ref (q2 2), .ref (q2 3), .ref (q2 4), .ref (q2 5), .ref (q2 6), .int (zl g), .int (nI (zh g))])), (q2 1, .inl ((cy 0), 12, .inl (zb g))), (q2 2, .inl ((cy 0), 12, .inl (zw g))), (q2 3, .inl ((cy 0), 12, .inl (zd g))), (q2 4, .inl ((cy 0), 12, .inl (zs g))), (q2 5, .inl ((cy 0), 12, .inl (zr g))), (q2 6, .inl ((cy 1), 12, .inl (zo g))), (a 3, .inl ((cy 2), 6, .inr (.inr (.inr (.inr (fun i => some (ca i))))))), (ca 0, .inr (0, [.ref (ta 0), .int (nI (ul u 0)), .int (nI (uz u 0))])), (ca 1, .inr (0, [.ref (ta 1), .int (nI (ul u 1)), .int (nI (uz u 1))])), (ca 2, .inr (0, [.ref (ta 2), .int (nI (ul u 2)), .int (nI (uz u 2))])), (ca 3, .inr (0, [.ref (ta 3), .int (nI (ul u 3)), .int (nI (uz u 3))])), (ca 4, .inr (0, [.ref (ta 4), .int (nI (ul u 4)), .int (nI (uz u 4))])), (ca 5, .inr (0, [.ref (ta 5), .int (nI (ul u 5)), .int (nI (uz u 5))])), (ta 0, .inl ((cy 0), 4, .inl (ut u 0))), (ta 1, .inl ((cy 0), 4, .inl (ut u 1))), (ta 2, .inl ((cy 0), 4, .inl (ut u 2))), (ta 3, .inl ((cy 0), 4, .inl (ut u 3))), (ta 4, .inl ((cy 0), 4, .inl (ut u 4))), (ta 5, .inl ((cy 0), 4, .inl (ut u 5))), (o, .inl ((cy 3), 1, .inr (.inl (vp_updL f (0 : Int32).toNatClampNeg ((wea u (ix k)).toInt64)))))] H := hP
    have hD : va_D A [(a 0, .inr (2, [.ref (q 0), .ref (q2 0), .ref (a 1), .ref (a 2), .ref (a 3), .int (nI (un u))])), (a 1, .inl ((cy 0), 12, .inl (upd (uw u) (ix k) v))), (a 2, .inl ((cy 0), 12, .inl (upd (ud u) (ix k) w))), (q 0, .inr (1, [.ref (q 1), .ref (q 2), .ref (q 3), .ref (q 4), .ref (q 5), .ref (q 6), .int (zl (uh u)), .int (nI (zh (uh u)))])), (q 1, .inl ((cy 0), 12, .inl (zb (uh u)))), (q 2, .inl ((cy 0), 12, .inl (zw (uh u)))), (q 3, .inl ((cy 0), 12, .inl (zd (uh u)))), (q 4, .inl ((cy 0), 12, .inl (zs (uh u)))), (q 5, .inl ((cy 0), 12, .inl (zr (uh u)))), (q 6, .inl ((cy 1), 12, .inl (zo (uh u)))), (q2 0, .inr (1, [.ref (q2 1), .ref (q2 2), .ref (q2 3), .ref (q2 4), .ref (q2 5), .ref (q2 6), .int (zl g), .int (nI (zh g))])), (q2 1, .inl ((cy 0), 12, .inl (zb g))), (q2 2, .inl ((cy 0), 12, .inl (zw g))), (q2 3, .inl ((cy 0), 12, .inl (zd g))), (q2 4, .inl ((cy 0), 12, .inl (zs g))), (q2 5, .inl ((cy 0), 12, .inl (zr g))), (q2 6, .inl ((cy 1), 12, .inl (zo g))), (a 3, .inl ((cy 2), 6, .inr (.inr (.inr (.inr (fun i => some (ca i))))))), (ca 0, .inr (0, [.ref (ta 0), .int (nI (ul u 0)), .int (nI (uz u 0))])), (ca 1, .inr (0, [.ref (ta 1), .int (nI (ul u 1)), .int (nI (uz u 1))])), (ca 2, .inr (0, [.ref (ta 2), .int (nI (ul u 2)), .int (nI (uz u 2))])), (ca 3, .inr (0, [.ref (ta 3), .int (nI (ul u 3)), .int (nI (uz u 3))])), (ca 4, .inr (0, [.ref (ta 4), .int (nI (ul u 4)), .int (nI (uz u 4))])), (ca 5, .inr (0, [.ref (ta 5), .int (nI (ul u 5)), .int (nI (uz u 5))])), (ta 0, .inl ((cy 0), 4, .inl (ut u 0))), (ta 1, .inl ((cy 0), 4, .inl (ut u 1))), (ta 2, .inl ((cy 0), 4, .inl (ut u 2))), (ta 3, .inl ((cy 0), 4, .inl (ut u 3))), (ta 4, .inl ((cy 0), 4, .inl (ut u 4))), (ta 5, .inl ((cy 0), 4, .inl (ut u 5))), (o, .inl ((cy 3), 1, .inr (.inl (vp_updL f (0 : Int32).toNatClampNeg ((wea u (ix k)).toInt64)))))] := hD
    refine lv_goto (tgt := 23) hx hb dL_setWeather_12 (by decide) ?_
    refine lv_iconst (v := 0) hx hb dL_setWeather_23 (by decide) ?_
    have hP9 : va_P D vwCl (wX cy a q q2 ca ta ((uWea u (ix k) v w), g, vp_updL f (0 : Int32).toNatClampNeg ((wea u (ix k)).toInt64)).1 ((uWea u (ix k) v w), g, vp_updL f (0 : Int32).toNatClampNeg ((wea u (ix k)).toInt64)).2.1 ++ [(o, .inl (cy 3, 1, .inr (.inl ((uWea u (ix k) v w), g, vp_updL f (0 : Int32).toNatClampNeg ((wea u (ix k)).toInt64)).2.2)))]) H := hP
    have hD9 : va_D A (wX cy a q q2 ca ta ((uWea u (ix k) v w), g, vp_updL f (0 : Int32).toNatClampNeg ((wea u (ix k)).toInt64)).1 ((uWea u (ix k) v w), g, vp_updL f (0 : Int32).toNatClampNeg ((wea u (ix k)).toInt64)).2.1 ++ [(o, .inl (cy 3, 1, .inr (.inl ((uWea u (ix k) v w), g, vp_updL f (0 : Int32).toNatClampNeg ((wea u (ix k)).toInt64)).2.2)))]) := hD
    exact W.iret (v := 0) hx hb hr (fun t ht hW => ⟨⟨0, ((uWea u (ix k) v w), g, vp_updL f (0 : Int32).toNatClampNeg ((wea u (ix k)).toInt64)), rfl, ⟨by rw [hx9]; rfl, fun _ => ⟨(updL_at (f := f) (x := (wea u (ix k)).toInt64)), rfl⟩, fun z => absurd hx9 z⟩, by rw [ht]; exact hP9, hD9⟩, hS.F ht⟩) hS.2.2 dL_setWeather_24

theorem kL_string_0 : (.codeWith yL_string cL_string 5 (some .int) [(0, 10, 13, 13)] : Cond) ∈ wsL_string := by decide +kernel
theorem kL_string_1 : (.classLink RL 13 "java/lang/IndexOutOfBoundsException" : Cond) ∈ wsL_string := by decide +kernel
set_option maxHeartbeats 4000000 in
set_option maxRecDepth 100000 in
theorem mL_string (l : Launch) (hst : l.stackTraces = false) (D : va_G) (cy : Nat → ClassId) (sz : Nat) (a q q2 ca ta : Nat → Nat) (u : US) (g : HS) (hu : uOk u) (o : Nat) (f : Nat → Int64) (k v : Int32) : Met l yL_string wsL_string ({ frames := 8, cells := 2, slots := 12, locals := 124 } : Room) (va_Pc [.ref (a 0), .int k, .int v, .ref o] (fun U => U.heap.size = sz ∧ va_P D vwCl (wX cy a q q2 ca ta u g ++ [(o, .inl (cy 3, 1, .inr (.inl f)))]) U.heap ∧ va_K D vwCl (TY cy) U ∧ va_D (fun _ => True) (wX cy a q q2 ca ta u g ++ [(o, .inl (cy 3, 1, .inr (.inl f)))]) ∧ xC U U.heap ∧ xNc U)) (va_Qi (fun (r8 : Int32) (w9 : US × HS × (Nat → Int64)) => r8 = nI (exStr k v) ∧ (exStr k v = 0 → w9.2.2 0 = (factH (uh u) (ix k) (ix v)).toInt64 ∧ w9.1 = u) ∧ (¬ exStr k v = 0 → w9.1 = u)) (fun (w9 : US × HS × (Nat → Int64)) t => va_P D vwCl (wX cy a q q2 ca ta w9.1 w9.2.1 ++ [(o, .inl (cy 3, 1, .inr (.inl w9.2.2)))]) t.heap ∧ va_D (va_A (wX cy a q q2 ca ta u g ++ [(o, .inl (cy 3, 1, .inr (.inl f)))]) sz) (wX cy a q q2 ca ta w9.1 w9.2.1 ++ [(o, .inl (cy 3, 1, .inr (.inl w9.2.2)))])) (va_A (wX cy a q q2 ca ta u g ++ [(o, .inl (cy 3, 1, .inr (.inl f)))]) sz)) 2 12 (va_A (wX cy a q q2 ca ta u g ++ [(o, .inl (cy 3, 1, .inr (.inl f)))]) sz) := by
  refine pl_ofWH (cc := cL_string) (maxL := 5) (ret := (some .int)) (hh := [(0, 10, 13, 13)]) (by decide) rfl ?_
  intro p e s m args below meth c s₁ B hml hv
  obtain ⟨rfl, hsz, hP, hK, hD0, hX, hNc⟩ := hv
  have hx := B.exec
  have hb := B.bytes
  have hr := B.returns
  have hts := atoms_spec (ws := wsL_string) B.pre
  have hown : s.vm.findClass RL = some m.cls := findClass_of_methodNamed B.named
  have hlocks := B.notSynchronized
  have hl := lv_entry ([.ref (a 0), .int k, .int v, .ref o]) (n := 5) (Nat.le_of_ble_eq_true rfl)
  rw [lg_entry_eq]
  generalize (lg_sl ([.ref (a 0), .int k, .int v, .ref o]) ++ List.replicate (5 - (lg_sl ([.ref (a 0), .int k, .int v, .ref o])).length) Slot.unset).toArray = ls at hl ⊢
  have hl : lv_has ls 5 [(0, .ref (a 0)), (1, .int k), (2, .int v), (3, .ref o)] := hl
  subst hsz
  have hD := hD0.self (sz := s.heap.size)
  generalize hAe : va_A (wX cy a q q2 ca ta u g ++ [(o, .inl (cy 3, 1, .inr (.inl f)))]) s.heap.size = A at hD ⊢
  have hA : ∀ q : Nat, s.heap.size ≤ q → A q := fun q h => by rw [← hAe]; exact Or.inr h
  have hS : va_S A s.heap s.heap [] := va_S.rf
  have hP : va_P D vwCl (wX cy a q q2 ca ta u g ++ [(o, .inl (cy 3, 1, .inr (.inl f)))]) s.heap := hP
  have hT := vx_table (x := yL_string) B (hts _ kL_string_0)
  refine lv_aload_n hx hb dL_string_0 rfl (lv_at hl 3 rfl) ?_
  refine lv_iconst (v := 0) hx hb dL_string_1 (by decide) ?_
  refine lv_aload_n hx hb dL_string_2 rfl (lv_at hl 0 rfl) ?_
  refine lv_iload_n hx hb dL_string_3 rfl (lv_at hl 1 rfl) ?_
  refine lv_iload_n hx hb dL_string_4 rfl (lv_at hl 2 rfl) ?_
  have hPc := hP.sub (ws' := wX cy a q q2 ca ta u g) [0, 1, 2, 3, 4, 5, 6, 7, 8, 9, 10, 11, 12, 13, 14, 15, 16, 17, 18, 19, 20, 21, 22, 23, 24, 25, 26, 27, 28, 29] rfl
  refine px_calli (vx_runV (As := [.int k, .int v]) (rest := [.int 0, .ref o]) ⟨hx, hb, hml, hown, hts⟩ (mX2_string l hst D cy a q q2 ca ta u g hu k v) (cwV 2 hts gL_string_X2_string rfl rfl rfl (by decide +kernel) ⟨Nat.le_of_ble_eq_true rfl, Nat.le_of_ble_eq_true rfl⟩) ⟨fun a U g mk q => ⟨q.1, q.2.1, va_K.moved (u := U) (U := U.calling g mk a) (Vm.Alike.refl U.vm) q.2.2.1, xC.warm (State.WarmedH.refl U) q.2.2.2⟩, va_recv hK hPc (ci := 2) (q0 := 0) rfl rfl, fun U hU hW => ⟨rfl, by rw [hU]; exact hPc, va_K.moved hW.alike hK, (show xC U U.heap by rw [hU]; exact hX.warm hW)⟩⟩ rfl rfl hl.1 rfl (lv_room (Nat.le_of_ble_eq_true rfl)) dL_string_5 ⟨Nat.le_of_ble_eq_true rfl, Nat.le_of_ble_eq_true rfl⟩) (fun E9 ce9 q9 H9 hE9 h19 h29 hce9 hcv9 hcl9 => ?_) (fun r9 hw9 => ?_)
  · have hP : va_P D vwCl (wX cy a q q2 ca ta u g ++ [(o, .inl (cy 3, 1, .inr (.inl f)))]) H9 := hP.kept (fun k q hk => h29 q.1 (hP k q hk).lt)
    have hS : va_S A s.heap H9 [] := ⟨h19, fun q hq _ => h29 q hq, fun _ h => absurd h List.not_mem_nil⟩
    have hle9 := exStr_le k v
    have hx9 : exStr k v = 1 := by have := hE9.2; omega
    rw [hx9] at hE9
    obtain rfl : E9 = xI := hE9.1
    refine vx_catch (name := xI) hown [] ⟨0, 10, 13, 13⟩ [] (by rw [hT]; rfl) (fun _ hz => absurd hz List.not_mem_nil) (by decide) (by decide) (hts _ kL_string_1) (xC.cast hX xI_in) hce9 hcv9 hcl9 ?_
    refine W.widen (k := 2) (n := 12) (Nat.le_of_ble_eq_true rfl) (Nat.le_of_ble_eq_true rfl) ?_
    refine lv_astore (lv' := [(4, .ref q9), (0, .ref (a 0)), (1, .int k), (2, .int v), (3, .ref o)]) hx hb dL_string_13 hl (by decide) rfl (fun ls hl => ?_)
    refine lv_iconst (v := 1) hx hb dL_string_15 (by decide) ?_
    have hP9 : va_P D vwCl (wX cy a q q2 ca ta (u, g, f).1 (u, g, f).2.1 ++ [(o, .inl (cy 3, 1, .inr (.inl (u, g, f).2.2)))]) H9 := hP
    have hD9 : va_D A (wX cy a q q2 ca ta (u, g, f).1 (u, g, f).2.1 ++ [(o, .inl (cy 3, 1, .inr (.inl (u, g, f).2.2)))]) := hD
    exact W.iret (v := 1) hx hb hr (fun t ht hW => ⟨⟨1, (u, g, f), rfl, ⟨by rw [hx9]; rfl, fun z => absurd (hx9.symm.trans z) (by decide), fun _ => rfl⟩, by rw [ht]; exact hP9, hD9⟩, hS.F ht⟩) hS.2.2 dL_string_16
  · clear hPc
    obtain ⟨hx9, hw9⟩ := hw9
    subst hw9
    refine W.widen (k := 2) (n := 12) (Nat.le_of_ble_eq_true rfl) (Nat.le_of_ble_eq_true rfl) ?_
    refine lv_i2l (v := (factH (uh u) (ix k) (ix v)).toInt64) hx hb dL_string_8 rfl ?_
    refine va_last hx hb hK hP hD hS 30 3 rfl rfl (i := 0) (show vp_in (0 : Int32) 1 from vp_in_nI (by decide) (by decide)) dL_string_9 (fun H locs hP hD hS => ?_)
    have hP : va_P D vwCl [(a 0, .inr (2, [.ref (q 0), .ref (q2 0), .ref (a 1), .ref (a 2), .ref (a 3), .int (nI (un u))])), (a 1, .inl ((cy 0), 12, .inl (uw u))), (a 2, .inl ((cy 0), 12, .inl (ud u))), (q 0, .inr (1, [.ref (q 1), .ref (q 2), .ref (q 3), .ref (q 4), .ref (q 5), .ref (q 6), .int (zl (uh u)), .int (nI (zh (uh u)))])), (q 1, .inl ((cy 0), 12, .inl (zb (uh u)))), (q 2, .inl ((cy 0), 12, .inl (zw (uh u)))), (q 3, .inl ((cy 0), 12, .inl (zd (uh u)))), (q 4, .inl ((cy 0), 12, .inl (zs (uh u)))), (q 5, .inl ((cy 0), 12, .inl (zr (uh u)))), (q 6, .inl ((cy 1), 12, .inl (zo (uh u)))), (q2 0, .inr (1, [.ref (q2 1), .ref (q2 2), .ref (q2 3), .ref (q2 4), .ref (q2 5), .ref (q2 6), .int (zl g), .int (nI (zh g))])), (q2 1, .inl ((cy 0), 12, .inl (zb g))), (q2 2, .inl ((cy 0), 12, .inl (zw g))), (q2 3, .inl ((cy 0), 12, .inl (zd g))), (q2 4, .inl ((cy 0), 12, .inl (zs g))), (q2 5, .inl ((cy 0), 12, .inl (zr g))), (q2 6, .inl ((cy 1), 12, .inl (zo g))), (a 3, .inl ((cy 2), 6, .inr (.inr (.inr (.inr (fun i => some (ca i))))))), (ca 0, .inr (0, [.ref (ta 0), .int (nI (ul u 0)), .int (nI (uz u 0))])), (ca 1, .inr (0, [.ref (ta 1), .int (nI (ul u 1)), .int (nI (uz u 1))])), (ca 2, .inr (0, [.ref (ta 2), .int (nI (ul u 2)), .int (nI (uz u 2))])), (ca 3, .inr (0, [.ref (ta 3), .int (nI (ul u 3)), .int (nI (uz u 3))])), (ca 4, .inr (0, [.ref (ta 4), .int (nI (ul u 4)), .int (nI (uz u 4))])), (ca 5, .inr (0, [.ref (ta 5), .int (nI (ul u 5)), .int (nI (uz u 5))])), (ta 0, .inl ((cy 0), 4, .inl (ut u 0))), (ta 1, .inl ((cy 0), 4, .inl (ut u 1))), (ta 2, .inl ((cy 0), 4, .inl (ut u 2))), (ta 3, .inl ((cy 0), 4, .inl (ut u 3))), (ta 4, .inl ((cy 0), 4, .inl (ut u 4))), (ta 5, .inl ((cy 0), 4, .inl (ut u 5))), (o, .inl ((cy 3), 1, .inr (.inl (vp_updL f (0 : Int32).toNatClampNeg ((factH (uh u) (ix k) (ix v)).toInt64)))))] H := hP
    have hD : va_D A [(a 0, .inr (2, [.ref (q 0), .ref (q2 0), .ref (a 1), .ref (a 2), .ref (a 3), .int (nI (un u))])), (a 1, .inl ((cy 0), 12, .inl (uw u))), (a 2, .inl ((cy 0), 12, .inl (ud u))), (q 0, .inr (1, [.ref (q 1), .ref (q 2), .ref (q 3), .ref (q 4), .ref (q 5), .ref (q 6), .int (zl (uh u)), .int (nI (zh (uh u)))])), (q 1, .inl ((cy 0), 12, .inl (zb (uh u)))), (q 2, .inl ((cy 0), 12, .inl (zw (uh u)))), (q 3, .inl ((cy 0), 12, .inl (zd (uh u)))), (q 4, .inl ((cy 0), 12, .inl (zs (uh u)))), (q 5, .inl ((cy 0), 12, .inl (zr (uh u)))), (q 6, .inl ((cy 1), 12, .inl (zo (uh u)))), (q2 0, .inr (1, [.ref (q2 1), .ref (q2 2), .ref (q2 3), .ref (q2 4), .ref (q2 5), .ref (q2 6), .int (zl g), .int (nI (zh g))])), (q2 1, .inl ((cy 0), 12, .inl (zb g))), (q2 2, .inl ((cy 0), 12, .inl (zw g))), (q2 3, .inl ((cy 0), 12, .inl (zd g))), (q2 4, .inl ((cy 0), 12, .inl (zs g))), (q2 5, .inl ((cy 0), 12, .inl (zr g))), (q2 6, .inl ((cy 1), 12, .inl (zo g))), (a 3, .inl ((cy 2), 6, .inr (.inr (.inr (.inr (fun i => some (ca i))))))), (ca 0, .inr (0, [.ref (ta 0), .int (nI (ul u 0)), .int (nI (uz u 0))])), (ca 1, .inr (0, [.ref (ta 1), .int (nI (ul u 1)), .int (nI (uz u 1))])), (ca 2, .inr (0, [.ref (ta 2), .int (nI (ul u 2)), .int (nI (uz u 2))])), (ca 3, .inr (0, [.ref (ta 3), .int (nI (ul u 3)), .int (nI (uz u 3))])), (ca 4, .inr (0, [.ref (ta 4), .int (nI (ul u 4)), .int (nI (uz u 4))])), (ca 5, .inr (0, [.ref (ta 5), .int (nI (ul u 5)), .int (nI (uz u 5))])), (ta 0, .inl ((cy 0), 4, .inl (ut u 0))), (ta 1, .inl ((cy 0), 4, .inl (ut u 1))), (ta 2, .inl ((cy 0), 4, .inl (ut u 2))), (ta 3, .inl ((cy 0), 4, .inl (ut u 3))), (ta 4, .inl ((cy 0), 4, .inl (ut u 4))), (ta 5, .inl ((cy 0), 4, .inl (ut u 5))), (o, .inl ((cy 3), 1, .inr (.inl (vp_updL f (0 : Int32).toNatClampNeg ((factH (uh u) (ix k) (ix v)).toInt64)))))] := hD
    refine lv_goto (tgt := 17) hx hb dL_string_10 (by decide) ?_
    refine lv_iconst (v := 0) hx hb dL_string_17 (by decide) ?_
    have hP9 : va_P D vwCl (wX cy a q q2 ca ta (u, g, vp_updL f (0 : Int32).toNatClampNeg ((factH (uh u) (ix k) (ix v)).toInt64)).1 (u, g, vp_updL f (0 : Int32).toNatClampNeg ((factH (uh u) (ix k) (ix v)).toInt64)).2.1 ++ [(o, .inl (cy 3, 1, .inr (.inl (u, g, vp_updL f (0 : Int32).toNatClampNeg ((factH (uh u) (ix k) (ix v)).toInt64)).2.2)))]) H := hP
    have hD9 : va_D A (wX cy a q q2 ca ta (u, g, vp_updL f (0 : Int32).toNatClampNeg ((factH (uh u) (ix k) (ix v)).toInt64)).1 (u, g, vp_updL f (0 : Int32).toNatClampNeg ((factH (uh u) (ix k) (ix v)).toInt64)).2.1 ++ [(o, .inl (cy 3, 1, .inr (.inl (u, g, vp_updL f (0 : Int32).toNatClampNeg ((factH (uh u) (ix k) (ix v)).toInt64)).2.2)))]) := hD
    exact W.iret (v := 0) hx hb hr (fun t ht hW => ⟨⟨0, (u, g, vp_updL f (0 : Int32).toNatClampNeg ((factH (uh u) (ix k) (ix v)).toInt64)), rfl, ⟨by rw [hx9]; rfl, fun _ => ⟨(updL_at (f := f) (x := (factH (uh u) (ix k) (ix v)).toInt64)), rfl⟩, fun z => absurd hx9 z⟩, by rw [ht]; exact hP9, hD9⟩, hS.F ht⟩) hS.2.2 dL_string_18

theorem kL_moves_0 : (.codeWith yL_moves cL_moves 6 (some .int) [(0, 12, 15, 13), (0, 12, 19, 15)] : Cond) ∈ wsL_moves := by decide +kernel
theorem kL_moves_1 : (.classLink RL 13 "java/lang/IndexOutOfBoundsException" : Cond) ∈ wsL_moves := by decide +kernel
theorem kL_moves_2 : (.classLink RL 15 "java/lang/IllegalArgumentException" : Cond) ∈ wsL_moves := by decide +kernel
set_option maxHeartbeats 4000000 in
set_option maxRecDepth 100000 in
theorem mL_moves (l : Launch) (hst : l.stackTraces = false) (D : va_G) (cy : Nat → ClassId) (sz : Nat) (a q q2 ca ta : Nat → Nat) (u : US) (g : HS) (hu : uOk u) (o : Nat) (f : Nat → Int64) (k v w : Int32) : Met l yL_moves wsL_moves ({ frames := 8, cells := 3, slots := 18, locals := 125 } : Room) (va_Pc [.ref (a 0), .int k, .int v, .int w, .ref o] (fun U => U.heap.size = sz ∧ va_P D vwCl (wX cy a q q2 ca ta u g ++ [(o, .inl (cy 3, 1, .inr (.inl f)))]) U.heap ∧ va_K D vwCl (TY cy) U ∧ va_D (fun _ => True) (wX cy a q q2 ca ta u g ++ [(o, .inl (cy 3, 1, .inr (.inl f)))]) ∧ xC U U.heap ∧ xNc U)) (va_Qi (fun (r8 : Int32) (w9 : US × HS × (Nat → Int64)) => r8 = nI (exMov k v w) ∧ (exMov k v w = 0 → w9.2.2 0 = (mov (uh u) (ix k) (ix w) v).toInt64 ∧ w9.1 = u) ∧ (¬ exMov k v w = 0 → w9.1 = u)) (fun (w9 : US × HS × (Nat → Int64)) t => va_P D vwCl (wX cy a q q2 ca ta w9.1 w9.2.1 ++ [(o, .inl (cy 3, 1, .inr (.inl w9.2.2)))]) t.heap ∧ va_D (va_A (wX cy a q q2 ca ta u g ++ [(o, .inl (cy 3, 1, .inr (.inl f)))]) sz) (wX cy a q q2 ca ta w9.1 w9.2.1 ++ [(o, .inl (cy 3, 1, .inr (.inl w9.2.2)))])) (va_A (wX cy a q q2 ca ta u g ++ [(o, .inl (cy 3, 1, .inr (.inl f)))]) sz)) 3 18 (va_A (wX cy a q q2 ca ta u g ++ [(o, .inl (cy 3, 1, .inr (.inl f)))]) sz) := by
  refine pl_ofWH (cc := cL_moves) (maxL := 6) (ret := (some .int)) (hh := [(0, 12, 15, 13), (0, 12, 19, 15)]) (by decide) rfl ?_
  intro p e s m args below meth c s₁ B hml hv
  obtain ⟨rfl, hsz, hP, hK, hD0, hX, hNc⟩ := hv
  have hx := B.exec
  have hb := B.bytes
  have hr := B.returns
  have hts := atoms_spec (ws := wsL_moves) B.pre
  have hown : s.vm.findClass RL = some m.cls := findClass_of_methodNamed B.named
  have hlocks := B.notSynchronized
  have hl := lv_entry ([.ref (a 0), .int k, .int v, .int w, .ref o]) (n := 6) (Nat.le_of_ble_eq_true rfl)
  rw [lg_entry_eq]
  generalize (lg_sl ([.ref (a 0), .int k, .int v, .int w, .ref o]) ++ List.replicate (6 - (lg_sl ([.ref (a 0), .int k, .int v, .int w, .ref o])).length) Slot.unset).toArray = ls at hl ⊢
  have hl : lv_has ls 6 [(0, .ref (a 0)), (1, .int k), (2, .int v), (3, .int w), (4, .ref o)] := hl
  subst hsz
  have hD := hD0.self (sz := s.heap.size)
  generalize hAe : va_A (wX cy a q q2 ca ta u g ++ [(o, .inl (cy 3, 1, .inr (.inl f)))]) s.heap.size = A at hD ⊢
  have hA : ∀ q : Nat, s.heap.size ≤ q → A q := fun q h => by rw [← hAe]; exact Or.inr h
  have hS : va_S A s.heap s.heap [] := va_S.rf
  have hP : va_P D vwCl (wX cy a q q2 ca ta u g ++ [(o, .inl (cy 3, 1, .inr (.inl f)))]) s.heap := hP
  have hT := vx_table (x := yL_moves) B (hts _ kL_moves_0)
  refine lv_aload hx hb dL_moves_0 (lv_at hl 4 rfl) ?_
  refine lv_iconst (v := 0) hx hb dL_moves_2 (by decide) ?_
  refine lv_aload_n hx hb dL_moves_3 rfl (lv_at hl 0 rfl) ?_
  refine lv_iload_n hx hb dL_moves_4 rfl (lv_at hl 1 rfl) ?_
  refine lv_iload_n hx hb dL_moves_5 rfl (lv_at hl 2 rfl) ?_
  refine lv_iload_n hx hb dL_moves_6 rfl (lv_at hl 3 rfl) ?_
  have hPc := hP.sub (ws' := wX cy a q q2 ca ta u g) [0, 1, 2, 3, 4, 5, 6, 7, 8, 9, 10, 11, 12, 13, 14, 15, 16, 17, 18, 19, 20, 21, 22, 23, 24, 25, 26, 27, 28, 29] rfl
  refine px_calli (vx_runV (As := [.int k, .int v, .int w]) (rest := [.int 0, .ref o]) ⟨hx, hb, hml, hown, hts⟩ (mX2_moves l hst D cy a q q2 ca ta u g hu k v w) (cwV 3 hts gL_moves_X2_moves rfl rfl rfl (by decide +kernel) ⟨Nat.le_of_ble_eq_true rfl, Nat.le_of_ble_eq_true rfl⟩) ⟨fun a U g mk q => ⟨q.1, q.2.1, va_K.moved (u := U) (U := U.calling g mk a) (Vm.Alike.refl U.vm) q.2.2.1, xC.warm (State.WarmedH.refl U) q.2.2.2⟩, va_recv hK hPc (ci := 2) (q0 := 0) rfl rfl, fun U hU hW => ⟨rfl, by rw [hU]; exact hPc, va_K.moved hW.alike hK, (show xC U U.heap by rw [hU]; exact hX.warm hW)⟩⟩ rfl rfl hl.1 rfl (lv_room (Nat.le_of_ble_eq_true rfl)) dL_moves_7 ⟨Nat.le_of_ble_eq_true rfl, Nat.le_of_ble_eq_true rfl⟩) (fun E9 ce9 q9 H9 hE9 h19 h29 hce9 hcv9 hcl9 => ?_) (fun r9 hw9 => ?_)
  · have hP : va_P D vwCl (wX cy a q q2 ca ta u g ++ [(o, .inl (cy 3, 1, .inr (.inl f)))]) H9 := hP.kept (fun k q hk => h29 q.1 (hP k q hk).lt)
    have hS : va_S A s.heap H9 [] := ⟨h19, fun q hq _ => h29 q hq, fun _ h => absurd h List.not_mem_nil⟩
    have hle9 := exMov_le k v w
    rcases (show exMov k v w = 1 ∨ exMov k v w = 2 by have := hE9.2; omega) with hx9 | hx9
    · rw [hx9] at hE9
      obtain rfl : E9 = xI := hE9.1
      refine vx_catch (name := xI) hown [] ⟨0, 12, 15, 13⟩ [⟨0, 12, 19, 15⟩] (by rw [hT]; rfl) (fun _ hz => absurd hz List.not_mem_nil) (by decide) (by decide) (hts _ kL_moves_1) (xC.cast hX xI_in) hce9 hcv9 hcl9 ?_
      refine W.widen (k := 3) (n := 18) (Nat.le_of_ble_eq_true rfl) (Nat.le_of_ble_eq_true rfl) ?_
      refine lv_astore (lv' := [(5, .ref q9), (0, .ref (a 0)), (1, .int k), (2, .int v), (3, .int w), (4, .ref o)]) hx hb dL_moves_15 hl (by decide) rfl (fun ls hl => ?_)
      refine lv_iconst (v := 1) hx hb dL_moves_17 (by decide) ?_
      have hP9 : va_P D vwCl (wX cy a q q2 ca ta (u, g, f).1 (u, g, f).2.1 ++ [(o, .inl (cy 3, 1, .inr (.inl (u, g, f).2.2)))]) H9 := hP
      have hD9 : va_D A (wX cy a q q2 ca ta (u, g, f).1 (u, g, f).2.1 ++ [(o, .inl (cy 3, 1, .inr (.inl (u, g, f).2.2)))]) := hD
      exact W.iret (v := 1) hx hb hr (fun t ht hW => ⟨⟨1, (u, g, f), rfl, ⟨by rw [hx9]; rfl, fun z => absurd (hx9.symm.trans z) (by decide), fun _ => rfl⟩, by rw [ht]; exact hP9, hD9⟩, hS.F ht⟩) hS.2.2 dL_moves_18
    · rw [hx9] at hE9
      obtain rfl : E9 = xA := hE9.1
      refine vx_catch (name := xA) hown [⟨0, 12, 15, 13⟩] ⟨0, 12, 19, 15⟩ [] (by rw [hT]; rfl) (List.forall_mem_cons.mpr ⟨Or.inr ⟨by decide, xI, (hts _ kL_moves_1), hNc.1⟩, (fun _ hz => absurd hz List.not_mem_nil)⟩) (by decide) (by decide) (hts _ kL_moves_2) (xC.cast hX xA_in) hce9 hcv9 hcl9 ?_
      refine W.widen (k := 3) (n := 18) (Nat.le_of_ble_eq_true rfl) (Nat.le_of_ble_eq_true rfl) ?_
      refine lv_astore (lv' := [(5, .ref q9), (0, .ref (a 0)), (1, .int k), (2, .int v), (3, .int w), (4, .ref o)]) hx hb dL_moves_19 hl (by decide) rfl (fun ls hl => ?_)
      refine lv_iconst (v := 2) hx hb dL_moves_21 (by decide) ?_
      have hP9 : va_P D vwCl (wX cy a q q2 ca ta (u, g, f).1 (u, g, f).2.1 ++ [(o, .inl (cy 3, 1, .inr (.inl (u, g, f).2.2)))]) H9 := hP
      have hD9 : va_D A (wX cy a q q2 ca ta (u, g, f).1 (u, g, f).2.1 ++ [(o, .inl (cy 3, 1, .inr (.inl (u, g, f).2.2)))]) := hD
      exact W.iret (v := 2) hx hb hr (fun t ht hW => ⟨⟨2, (u, g, f), rfl, ⟨by rw [hx9]; rfl, fun z => absurd (hx9.symm.trans z) (by decide), fun _ => rfl⟩, by rw [ht]; exact hP9, hD9⟩, hS.F ht⟩) hS.2.2 dL_moves_22
  · clear hPc
    obtain ⟨hx9, hw9⟩ := hw9
    subst hw9
    refine W.widen (k := 3) (n := 18) (Nat.le_of_ble_eq_true rfl) (Nat.le_of_ble_eq_true rfl) ?_
    refine lv_i2l (v := (mov (uh u) (ix k) (ix w) v).toInt64) hx hb dL_moves_10 rfl ?_
    refine va_last hx hb hK hP hD hS 30 3 rfl rfl (i := 0) (show vp_in (0 : Int32) 1 from vp_in_nI (by decide) (by decide)) dL_moves_11 (fun H locs hP hD hS => ?_)
    have hP : va_P D vwCl [(a 0, .inr (2, [.ref (q 0), .ref (q2 0), .ref (a 1), .ref (a 2), .ref (a 3), .int (nI (un u))])), (a 1, .inl ((cy 0), 12, .inl (uw u))), (a 2, .inl ((cy 0), 12, .inl (ud u))), (q 0, .inr (1, [.ref (q 1), .ref (q 2), .ref (q 3), .ref (q 4), .ref (q 5), .ref (q 6), .int (zl (uh u)), .int (nI (zh (uh u)))])), (q 1, .inl ((cy 0), 12, .inl (zb (uh u)))), (q 2, .inl ((cy 0), 12, .inl (zw (uh u)))), (q 3, .inl ((cy 0), 12, .inl (zd (uh u)))), (q 4, .inl ((cy 0), 12, .inl (zs (uh u)))), (q 5, .inl ((cy 0), 12, .inl (zr (uh u)))), (q 6, .inl ((cy 1), 12, .inl (zo (uh u)))), (q2 0, .inr (1, [.ref (q2 1), .ref (q2 2), .ref (q2 3), .ref (q2 4), .ref (q2 5), .ref (q2 6), .int (zl g), .int (nI (zh g))])), (q2 1, .inl ((cy 0), 12, .inl (zb g))), (q2 2, .inl ((cy 0), 12, .inl (zw g))), (q2 3, .inl ((cy 0), 12, .inl (zd g))), (q2 4, .inl ((cy 0), 12, .inl (zs g))), (q2 5, .inl ((cy 0), 12, .inl (zr g))), (q2 6, .inl ((cy 1), 12, .inl (zo g))), (a 3, .inl ((cy 2), 6, .inr (.inr (.inr (.inr (fun i => some (ca i))))))), (ca 0, .inr (0, [.ref (ta 0), .int (nI (ul u 0)), .int (nI (uz u 0))])), (ca 1, .inr (0, [.ref (ta 1), .int (nI (ul u 1)), .int (nI (uz u 1))])), (ca 2, .inr (0, [.ref (ta 2), .int (nI (ul u 2)), .int (nI (uz u 2))])), (ca 3, .inr (0, [.ref (ta 3), .int (nI (ul u 3)), .int (nI (uz u 3))])), (ca 4, .inr (0, [.ref (ta 4), .int (nI (ul u 4)), .int (nI (uz u 4))])), (ca 5, .inr (0, [.ref (ta 5), .int (nI (ul u 5)), .int (nI (uz u 5))])), (ta 0, .inl ((cy 0), 4, .inl (ut u 0))), (ta 1, .inl ((cy 0), 4, .inl (ut u 1))), (ta 2, .inl ((cy 0), 4, .inl (ut u 2))), (ta 3, .inl ((cy 0), 4, .inl (ut u 3))), (ta 4, .inl ((cy 0), 4, .inl (ut u 4))), (ta 5, .inl ((cy 0), 4, .inl (ut u 5))), (o, .inl ((cy 3), 1, .inr (.inl (vp_updL f (0 : Int32).toNatClampNeg ((mov (uh u) (ix k) (ix w) v).toInt64)))))] H := hP
    have hD : va_D A [(a 0, .inr (2, [.ref (q 0), .ref (q2 0), .ref (a 1), .ref (a 2), .ref (a 3), .int (nI (un u))])), (a 1, .inl ((cy 0), 12, .inl (uw u))), (a 2, .inl ((cy 0), 12, .inl (ud u))), (q 0, .inr (1, [.ref (q 1), .ref (q 2), .ref (q 3), .ref (q 4), .ref (q 5), .ref (q 6), .int (zl (uh u)), .int (nI (zh (uh u)))])), (q 1, .inl ((cy 0), 12, .inl (zb (uh u)))), (q 2, .inl ((cy 0), 12, .inl (zw (uh u)))), (q 3, .inl ((cy 0), 12, .inl (zd (uh u)))), (q 4, .inl ((cy 0), 12, .inl (zs (uh u)))), (q 5, .inl ((cy 0), 12, .inl (zr (uh u)))), (q 6, .inl ((cy 1), 12, .inl (zo (uh u)))), (q2 0, .inr (1, [.ref (q2 1), .ref (q2 2), .ref (q2 3), .ref (q2 4), .ref (q2 5), .ref (q2 6), .int (zl g), .int (nI (zh g))])), (q2 1, .inl ((cy 0), 12, .inl (zb g))), (q2 2, .inl ((cy 0), 12, .inl (zw g))), (q2 3, .inl ((cy 0), 12, .inl (zd g))), (q2 4, .inl ((cy 0), 12, .inl (zs g))), (q2 5, .inl ((cy 0), 12, .inl (zr g))), (q2 6, .inl ((cy 1), 12, .inl (zo g))), (a 3, .inl ((cy 2), 6, .inr (.inr (.inr (.inr (fun i => some (ca i))))))), (ca 0, .inr (0, [.ref (ta 0), .int (nI (ul u 0)), .int (nI (uz u 0))])), (ca 1, .inr (0, [.ref (ta 1), .int (nI (ul u 1)), .int (nI (uz u 1))])), (ca 2, .inr (0, [.ref (ta 2), .int (nI (ul u 2)), .int (nI (uz u 2))])), (ca 3, .inr (0, [.ref (ta 3), .int (nI (ul u 3)), .int (nI (uz u 3))])), (ca 4, .inr (0, [.ref (ta 4), .int (nI (ul u 4)), .int (nI (uz u 4))])), (ca 5, .inr (0, [.ref (ta 5), .int (nI (ul u 5)), .int (nI (uz u 5))])), (ta 0, .inl ((cy 0), 4, .inl (ut u 0))), (ta 1, .inl ((cy 0), 4, .inl (ut u 1))), (ta 2, .inl ((cy 0), 4, .inl (ut u 2))), (ta 3, .inl ((cy 0), 4, .inl (ut u 3))), (ta 4, .inl ((cy 0), 4, .inl (ut u 4))), (ta 5, .inl ((cy 0), 4, .inl (ut u 5))), (o, .inl ((cy 3), 1, .inr (.inl (vp_updL f (0 : Int32).toNatClampNeg ((mov (uh u) (ix k) (ix w) v).toInt64)))))] := hD
    refine lv_goto (tgt := 23) hx hb dL_moves_12 (by decide) ?_
    refine lv_iconst (v := 0) hx hb dL_moves_23 (by decide) ?_
    have hP9 : va_P D vwCl (wX cy a q q2 ca ta (u, g, vp_updL f (0 : Int32).toNatClampNeg ((mov (uh u) (ix k) (ix w) v).toInt64)).1 (u, g, vp_updL f (0 : Int32).toNatClampNeg ((mov (uh u) (ix k) (ix w) v).toInt64)).2.1 ++ [(o, .inl (cy 3, 1, .inr (.inl (u, g, vp_updL f (0 : Int32).toNatClampNeg ((mov (uh u) (ix k) (ix w) v).toInt64)).2.2)))]) H := hP
    have hD9 : va_D A (wX cy a q q2 ca ta (u, g, vp_updL f (0 : Int32).toNatClampNeg ((mov (uh u) (ix k) (ix w) v).toInt64)).1 (u, g, vp_updL f (0 : Int32).toNatClampNeg ((mov (uh u) (ix k) (ix w) v).toInt64)).2.1 ++ [(o, .inl (cy 3, 1, .inr (.inl (u, g, vp_updL f (0 : Int32).toNatClampNeg ((mov (uh u) (ix k) (ix w) v).toInt64)).2.2)))]) := hD
    exact W.iret (v := 0) hx hb hr (fun t ht hW => ⟨⟨0, (u, g, vp_updL f (0 : Int32).toNatClampNeg ((mov (uh u) (ix k) (ix w) v).toInt64)), rfl, ⟨by rw [hx9]; rfl, fun _ => ⟨(updL_at (f := f) (x := (mov (uh u) (ix k) (ix w) v).toInt64)), rfl⟩, fun z => absurd hx9 z⟩, by rw [ht]; exact hP9, hD9⟩, hS.F ht⟩) hS.2.2 dL_moves_24

theorem kL_chord_0 : (.codeWith yL_chord cL_chord 8 (some .int) [(0, 16, 19, 13), (0, 16, 23, 15), (0, 16, 27, 17)] : Cond) ∈ wsL_chord := by decide +kernel
theorem kL_chord_1 : (.classLink RL 13 "java/lang/IndexOutOfBoundsException" : Cond) ∈ wsL_chord := by decide +kernel
theorem kL_chord_2 : (.classLink RL 15 "java/lang/IllegalArgumentException" : Cond) ∈ wsL_chord := by decide +kernel
theorem kL_chord_3 : (.classLink RL 17 "java/lang/IllegalStateException" : Cond) ∈ wsL_chord := by decide +kernel
set_option maxHeartbeats 4000000 in
set_option maxRecDepth 100000 in
theorem mL_chord (l : Launch) (hst : l.stackTraces = false) (D : va_G) (cy : Nat → ClassId) (sz : Nat) (a q q2 ca ta : Nat → Nat) (u : US) (g : HS) (hu : uOk u) (o : Nat) (f : Nat → Int64) (k v0 v1 v2 v3 : Int32) : Met l yL_chord wsL_chord ({ frames := 8, cells := 6, slots := 36, locals := 130 } : Room) (va_Pc [.ref (a 0), .int k, .int v0, .int v1, .int v2, .int v3, .ref o] (fun U => U.heap.size = sz ∧ va_P D vwCl (wX cy a q q2 ca ta u g ++ [(o, .inl (cy 3, 1, .inr (.inl f)))]) U.heap ∧ va_K D vwCl (TY cy) U ∧ va_D (fun _ => True) (wX cy a q q2 ca ta u g ++ [(o, .inl (cy 3, 1, .inr (.inl f)))]) ∧ xC U U.heap ∧ xNc U)) (va_Qi (fun (r8 : Int32) (w9 : US × HS × (Nat → Int64)) => r8 = nI (exCh u k v0 v1 v2 v3) ∧ (exCh u k v0 v1 v2 v3 = 0 → w9.2.2 0 = (nI (un u)).toInt64 ∧ w9.1 = (uCh u (ix k) (chSz v2 v3) v0 v1 v2 v3)) ∧ (¬ exCh u k v0 v1 v2 v3 = 0 → w9.1 = u)) (fun (w9 : US × HS × (Nat → Int64)) t => va_P D vwCl (wX cy a q q2 ca ta w9.1 w9.2.1 ++ [(o, .inl (cy 3, 1, .inr (.inl w9.2.2)))]) t.heap ∧ va_D (va_A (wX cy a q q2 ca ta u g ++ [(o, .inl (cy 3, 1, .inr (.inl f)))]) sz) (wX cy a q q2 ca ta w9.1 w9.2.1 ++ [(o, .inl (cy 3, 1, .inr (.inl w9.2.2)))])) (va_A (wX cy a q q2 ca ta u g ++ [(o, .inl (cy 3, 1, .inr (.inl f)))]) sz)) 6 36 (va_A (wX cy a q q2 ca ta u g ++ [(o, .inl (cy 3, 1, .inr (.inl f)))]) sz) := by
  refine pl_ofWH (cc := cL_chord) (maxL := 8) (ret := (some .int)) (hh := [(0, 16, 19, 13), (0, 16, 23, 15), (0, 16, 27, 17)]) (by decide) rfl ?_
  intro p e s m args below meth c s₁ B hml hv
  obtain ⟨rfl, hsz, hP, hK, hD0, hX, hNc⟩ := hv
  have hx := B.exec
  have hb := B.bytes
  have hr := B.returns
  have hts := atoms_spec (ws := wsL_chord) B.pre
  have hown : s.vm.findClass RL = some m.cls := findClass_of_methodNamed B.named
  have hlocks := B.notSynchronized
  have hl := lv_entry ([.ref (a 0), .int k, .int v0, .int v1, .int v2, .int v3, .ref o]) (n := 8) (Nat.le_of_ble_eq_true rfl)
  rw [lg_entry_eq]
  generalize (lg_sl ([.ref (a 0), .int k, .int v0, .int v1, .int v2, .int v3, .ref o]) ++ List.replicate (8 - (lg_sl ([.ref (a 0), .int k, .int v0, .int v1, .int v2, .int v3, .ref o])).length) Slot.unset).toArray = ls at hl ⊢
  have hl : lv_has ls 8 [(0, .ref (a 0)), (1, .int k), (2, .int v0), (3, .int v1), (4, .int v2), (5, .int v3), (6, .ref o)] := hl
  subst hsz
  have hD := hD0.self (sz := s.heap.size)
  generalize hAe : va_A (wX cy a q q2 ca ta u g ++ [(o, .inl (cy 3, 1, .inr (.inl f)))]) s.heap.size = A at hD ⊢
  have hA : ∀ q : Nat, s.heap.size ≤ q → A q := fun q h => by rw [← hAe]; exact Or.inr h
  have hS : va_S A s.heap s.heap [] := va_S.rf
  have hP : va_P D vwCl (wX cy a q q2 ca ta u g ++ [(o, .inl (cy 3, 1, .inr (.inl f)))]) s.heap := hP
  have hT := vx_table (x := yL_chord) B (hts _ kL_chord_0)
  refine lv_aload hx hb dL_chord_0 (lv_at hl 6 rfl) ?_
  refine lv_iconst (v := 0) hx hb dL_chord_2 (by decide) ?_
  refine lv_aload_n hx hb dL_chord_3 rfl (lv_at hl 0 rfl) ?_
  refine lv_iload_n hx hb dL_chord_4 rfl (lv_at hl 1 rfl) ?_
  refine lv_iload_n hx hb dL_chord_5 rfl (lv_at hl 2 rfl) ?_
  refine lv_iload_n hx hb dL_chord_6 rfl (lv_at hl 3 rfl) ?_
  refine lv_iload hx hb dL_chord_7 (lv_at hl 4 rfl) ?_
  refine lv_iload hx hb dL_chord_9 (lv_at hl 5 rfl) ?_
  have hPc := hP.sub (ws' := wX cy a q q2 ca ta u g) [0, 1, 2, 3, 4, 5, 6, 7, 8, 9, 10, 11, 12, 13, 14, 15, 16, 17, 18, 19, 20, 21, 22, 23, 24, 25, 26, 27, 28, 29] rfl
  have hDc := hD.sub (ws' := wX cy a q q2 ca ta u g) [0, 1, 2, 3, 4, 5, 6, 7, 8, 9, 10, 11, 12, 13, 14, 15, 16, 17, 18, 19, 20, 21, 22, 23, 24, 25, 26, 27, 28, 29] (by decide) rfl
  have hFc := va_free (wc := wX cy a q q2 ca ta u g) hD hS hA [0, 1, 2, 3, 4, 5, 6, 7, 8, 9, 10, 11, 12, 13, 14, 15, 16, 17, 18, 19, 20, 21, 22, 23, 24, 25, 26, 27, 28, 29] rfl
  refine px_callw (vx_runV (As := [.int k, .int v0, .int v1, .int v2, .int v3]) (rest := [.int 0, .ref o]) ⟨hx, hb, hml, hown, hts⟩ (mX2_chord l hst D cy s.heap.size a q q2 ca ta u g hu k v0 v1 v2 v3) (cwV 5 hts gL_chord_X2_chord rfl rfl rfl (by decide +kernel) ⟨Nat.le_of_ble_eq_true rfl, Nat.le_of_ble_eq_true rfl⟩) ⟨fun a U g mk q => ⟨q.1, q.2.1, q.2.2.1, va_K.moved (u := U) (U := U.calling g mk a) (Vm.Alike.refl U.vm) q.2.2.2.1, q.2.2.2.2.1, xC.warm (State.WarmedH.refl U) q.2.2.2.2.2⟩, va_recv hK hPc (ci := 2) (q0 := 0) rfl rfl, fun U hU hW => ⟨rfl, by rw [hU], by rw [hU]; exact hPc, va_K.moved hW.alike hK, hDc.weaken (fun _ _ _ _ => trivial), (show xC U U.heap by rw [hU]; exact hX.warm hW)⟩⟩ rfl rfl hl.1 rfl (lv_room (Nat.le_of_ble_eq_true rfl)) dL_chord_11 ⟨Nat.le_of_ble_eq_true rfl, Nat.le_of_ble_eq_true rfl⟩) hS (fun q _ h => hFc q h) hFc (fun E9 ce9 q9 H9 locs9 hE9 h19 h29 hS9 hce9 hcv9 hcl9 => ?_) (fun r9 u9 t9 H1 locs ht9 hvm9 hw9 hB9 hz9 hk9 hS => ?_)
  · have hP : va_P D vwCl (wX cy a q q2 ca ta u g ++ [(o, .inl (cy 3, 1, .inr (.inl f)))]) H9 := hP.kept (fun k q hk => h29 q.1 (hP k q hk).lt)
    have hS := hS9
    have hle9 := exCh_le u k v0 v1 v2 v3
    rcases (show exCh u k v0 v1 v2 v3 = 1 ∨ exCh u k v0 v1 v2 v3 = 2 ∨ exCh u k v0 v1 v2 v3 = 3 by have := hE9.2; omega) with hx9 | hx9 | hx9
    · rw [hx9] at hE9
      obtain rfl : E9 = xI := hE9.1
      refine vx_catch (name := xI) hown [] ⟨0, 16, 19, 13⟩ [⟨0, 16, 23, 15⟩, ⟨0, 16, 27, 17⟩] (by rw [hT]; rfl) (fun _ hz => absurd hz List.not_mem_nil) (by decide) (by decide) (hts _ kL_chord_1) (xC.cast hX xI_in) hce9 hcv9 hcl9 ?_
      refine W.widen (k := 6) (n := 36) (Nat.le_of_ble_eq_true rfl) (Nat.le_of_ble_eq_true rfl) ?_
      refine lv_astore (lv' := [(7, .ref q9), (0, .ref (a 0)), (1, .int k), (2, .int v0), (3, .int v1), (4, .int v2), (5, .int v3), (6, .ref o)]) hx hb dL_chord_19 hl (by decide) rfl (fun ls hl => ?_)
      refine lv_iconst (v := 1) hx hb dL_chord_21 (by decide) ?_
      have hP9 : va_P D vwCl (wX cy a q q2 ca ta (u, g, f).1 (u, g, f).2.1 ++ [(o, .inl (cy 3, 1, .inr (.inl (u, g, f).2.2)))]) H9 := hP
      have hD9 : va_D A (wX cy a q q2 ca ta (u, g, f).1 (u, g, f).2.1 ++ [(o, .inl (cy 3, 1, .inr (.inl (u, g, f).2.2)))]) := hD
      exact W.iret (v := 1) hx hb hr (fun t ht hW => ⟨⟨1, (u, g, f), rfl, ⟨by rw [hx9]; rfl, fun z => absurd (hx9.symm.trans z) (by decide), fun _ => rfl⟩, by rw [ht]; exact hP9, hD9⟩, hS.F ht⟩) hS.2.2 dL_chord_22
    · rw [hx9] at hE9
      obtain rfl : E9 = xA := hE9.1
      refine vx_catch (name := xA) hown [⟨0, 16, 19, 13⟩] ⟨0, 16, 23, 15⟩ [⟨0, 16, 27, 17⟩] (by rw [hT]; rfl) (List.forall_mem_cons.mpr ⟨Or.inr ⟨by decide, xI, (hts _ kL_chord_1), hNc.1⟩, (fun _ hz => absurd hz List.not_mem_nil)⟩) (by decide) (by decide) (hts _ kL_chord_2) (xC.cast hX xA_in) hce9 hcv9 hcl9 ?_
      refine W.widen (k := 6) (n := 36) (Nat.le_of_ble_eq_true rfl) (Nat.le_of_ble_eq_true rfl) ?_
      refine lv_astore (lv' := [(7, .ref q9), (0, .ref (a 0)), (1, .int k), (2, .int v0), (3, .int v1), (4, .int v2), (5, .int v3), (6, .ref o)]) hx hb dL_chord_23 hl (by decide) rfl (fun ls hl => ?_)
      refine lv_iconst (v := 2) hx hb dL_chord_25 (by decide) ?_
      have hP9 : va_P D vwCl (wX cy a q q2 ca ta (u, g, f).1 (u, g, f).2.1 ++ [(o, .inl (cy 3, 1, .inr (.inl (u, g, f).2.2)))]) H9 := hP
      have hD9 : va_D A (wX cy a q q2 ca ta (u, g, f).1 (u, g, f).2.1 ++ [(o, .inl (cy 3, 1, .inr (.inl (u, g, f).2.2)))]) := hD
      exact W.iret (v := 2) hx hb hr (fun t ht hW => ⟨⟨2, (u, g, f), rfl, ⟨by rw [hx9]; rfl, fun z => absurd (hx9.symm.trans z) (by decide), fun _ => rfl⟩, by rw [ht]; exact hP9, hD9⟩, hS.F ht⟩) hS.2.2 dL_chord_26
    · rw [hx9] at hE9
      obtain rfl : E9 = xT := hE9.1
      refine vx_catch (name := xT) hown [⟨0, 16, 19, 13⟩, ⟨0, 16, 23, 15⟩] ⟨0, 16, 27, 17⟩ [] (by rw [hT]; rfl) (List.forall_mem_cons.mpr ⟨Or.inr ⟨by decide, xI, (hts _ kL_chord_1), hNc.2.1⟩, (List.forall_mem_cons.mpr ⟨Or.inr ⟨by decide, xA, (hts _ kL_chord_2), hNc.2.2.1⟩, (fun _ hz => absurd hz List.not_mem_nil)⟩)⟩) (by decide) (by decide) (hts _ kL_chord_3) (xC.cast hX xT_in) hce9 hcv9 hcl9 ?_
      refine W.widen (k := 6) (n := 36) (Nat.le_of_ble_eq_true rfl) (Nat.le_of_ble_eq_true rfl) ?_
      refine lv_astore (lv' := [(7, .ref q9), (0, .ref (a 0)), (1, .int k), (2, .int v0), (3, .int v1), (4, .int v2), (5, .int v3), (6, .ref o)]) hx hb dL_chord_27 hl (by decide) rfl (fun ls hl => ?_)
      refine lv_iconst (v := 3) hx hb dL_chord_29 (by decide) ?_
      have hP9 : va_P D vwCl (wX cy a q q2 ca ta (u, g, f).1 (u, g, f).2.1 ++ [(o, .inl (cy 3, 1, .inr (.inl (u, g, f).2.2)))]) H9 := hP
      have hD9 : va_D A (wX cy a q q2 ca ta (u, g, f).1 (u, g, f).2.1 ++ [(o, .inl (cy 3, 1, .inr (.inl (u, g, f).2.2)))]) := hD
      exact W.iret (v := 3) hx hb hr (fun t ht hW => ⟨⟨3, (u, g, f), rfl, ⟨by rw [hx9]; rfl, fun z => absurd (hx9.symm.trans z) (by decide), fun _ => rfl⟩, by rw [ht]; exact hP9, hD9⟩, hS.F ht⟩) hS.2.2 dL_chord_30
  · obtain ⟨hP1, hD1⟩ := hB9
    rw [ht9] at hP1
    obtain ⟨hP, hD⟩ := va_join (wr := [(o, .inl ((cy 3), 1, .inr (.inl f)))]) (w1 := wX cy a q q2 ca ta (uCh u (ix k) (chSz v2 v3) v0 v1 v2 v3) g) hP hD [0, 1, 2, 3, 4, 5, 6, 7, 8, 9, 10, 11, 12, 13, 14, 15, 16, 17, 18, 19, 20, 21, 22, 23, 24, 25, 26, 27, 28, 29] [30] rfl rfl (by decide) (by decide) hk9 hFc hP1 hD1
    generalize H1 = H at hP hS ⊢
    have hP : va_P D vwCl (wX cy a q q2 ca ta (uCh u (ix k) (chSz v2 v3) v0 v1 v2 v3) g ++ [(o, .inl (cy 3, 1, .inr (.inl f)))]) H := hP.sub [1, 2, 3, 4, 5, 6, 7, 8, 9, 10, 11, 12, 13, 14, 15, 16, 17, 18, 19, 20, 21, 22, 23, 24, 25, 26, 27, 28, 29, 30, 0] rfl
    have hD : va_D A (wX cy a q q2 ca ta (uCh u (ix k) (chSz v2 v3) v0 v1 v2 v3) g ++ [(o, .inl (cy 3, 1, .inr (.inl f)))]) := hD.sub [1, 2, 3, 4, 5, 6, 7, 8, 9, 10, 11, 12, 13, 14, 15, 16, 17, 18, 19, 20, 21, 22, 23, 24, 25, 26, 27, 28, 29, 30, 0] (by decide) rfl
    clear hP1 hD1 hk9 hz9 ht9 hvm9 hPc hDc hFc
    obtain ⟨hx9, hw9⟩ := hw9
    subst hw9
    refine W.widen (k := 6) (n := 36) (Nat.le_of_ble_eq_true rfl) (Nat.le_of_ble_eq_true rfl) ?_
    refine lv_i2l (v := (nI (un u)).toInt64) hx hb dL_chord_14 rfl ?_
    refine va_last hx hb hK hP hD hS 30 3 rfl rfl (i := 0) (show vp_in (0 : Int32) 1 from vp_in_nI (by decide) (by decide)) dL_chord_15 (fun H locs hP hD hS => ?_)
    have hP : va_P D vwCl [(a 0, .inr (2, [.ref (q 0), .ref (q2 0), .ref (a 1), .ref (a 2), .ref (a 3), .int (nI (un (uCh u (ix k) (chSz v2 v3) v0 v1 v2 v3)))])), (a 1, .inl ((cy 0), 12, .inl (uw u))), (a 2, .inl ((cy 0), 12, .inl (ud u))), (q 0, .inr (1, [.ref (q 1), .ref (q 2), .ref (q 3), .ref (q 4), .ref (q 5), .ref (q 6), .int (zl (uh u)), .int (nI (zh (uh u)))])), (q 1, .inl ((cy 0), 12, .inl (zb (uh u)))), (q 2, .inl ((cy 0), 12, .inl (zw (uh u)))), (q 3, .inl ((cy 0), 12, .inl (zd (uh u)))), (q 4, .inl ((cy 0), 12, .inl (zs (uh u)))), (q 5, .inl ((cy 0), 12, .inl (zr (uh u)))), (q 6, .inl ((cy 1), 12, .inl (zo (uh u)))), (q2 0, .inr (1, [.ref (q2 1), .ref (q2 2), .ref (q2 3), .ref (q2 4), .ref (q2 5), .ref (q2 6), .int (zl g), .int (nI (zh g))])), (q2 1, .inl ((cy 0), 12, .inl (zb g))), (q2 2, .inl ((cy 0), 12, .inl (zw g))), (q2 3, .inl ((cy 0), 12, .inl (zd g))), (q2 4, .inl ((cy 0), 12, .inl (zs g))), (q2 5, .inl ((cy 0), 12, .inl (zr g))), (q2 6, .inl ((cy 1), 12, .inl (zo g))), (a 3, .inl ((cy 2), 6, .inr (.inr (.inr (.inr (fun i => some (ca i))))))), (ca 0, .inr (0, [.ref (ta 0), .int (nI (ul (uCh u (ix k) (chSz v2 v3) v0 v1 v2 v3) 0)), .int (nI (uz (uCh u (ix k) (chSz v2 v3) v0 v1 v2 v3) 0))])), (ca 1, .inr (0, [.ref (ta 1), .int (nI (ul (uCh u (ix k) (chSz v2 v3) v0 v1 v2 v3) 1)), .int (nI (uz (uCh u (ix k) (chSz v2 v3) v0 v1 v2 v3) 1))])), (ca 2, .inr (0, [.ref (ta 2), .int (nI (ul (uCh u (ix k) (chSz v2 v3) v0 v1 v2 v3) 2)), .int (nI (uz (uCh u (ix k) (chSz v2 v3) v0 v1 v2 v3) 2))])), (ca 3, .inr (0, [.ref (ta 3), .int (nI (ul (uCh u (ix k) (chSz v2 v3) v0 v1 v2 v3) 3)), .int (nI (uz (uCh u (ix k) (chSz v2 v3) v0 v1 v2 v3) 3))])), (ca 4, .inr (0, [.ref (ta 4), .int (nI (ul (uCh u (ix k) (chSz v2 v3) v0 v1 v2 v3) 4)), .int (nI (uz (uCh u (ix k) (chSz v2 v3) v0 v1 v2 v3) 4))])), (ca 5, .inr (0, [.ref (ta 5), .int (nI (ul (uCh u (ix k) (chSz v2 v3) v0 v1 v2 v3) 5)), .int (nI (uz (uCh u (ix k) (chSz v2 v3) v0 v1 v2 v3) 5))])), (ta 0, .inl ((cy 0), 4, .inl (ut (uCh u (ix k) (chSz v2 v3) v0 v1 v2 v3) 0))), (ta 1, .inl ((cy 0), 4, .inl (ut (uCh u (ix k) (chSz v2 v3) v0 v1 v2 v3) 1))), (ta 2, .inl ((cy 0), 4, .inl (ut (uCh u (ix k) (chSz v2 v3) v0 v1 v2 v3) 2))), (ta 3, .inl ((cy 0), 4, .inl (ut (uCh u (ix k) (chSz v2 v3) v0 v1 v2 v3) 3))), (ta 4, .inl ((cy 0), 4, .inl (ut (uCh u (ix k) (chSz v2 v3) v0 v1 v2 v3) 4))), (ta 5, .inl ((cy 0), 4, .inl (ut (uCh u (ix k) (chSz v2 v3) v0 v1 v2 v3) 5))), (o, .inl ((cy 3), 1, .inr (.inl (vp_updL f (0 : Int32).toNatClampNeg ((nI (un u)).toInt64)))))] H := hP
    have hD : va_D A [(a 0, .inr (2, [.ref (q 0), .ref (q2 0), .ref (a 1), .ref (a 2), .ref (a 3), .int (nI (un (uCh u (ix k) (chSz v2 v3) v0 v1 v2 v3)))])), (a 1, .inl ((cy 0), 12, .inl (uw u))), (a 2, .inl ((cy 0), 12, .inl (ud u))), (q 0, .inr (1, [.ref (q 1), .ref (q 2), .ref (q 3), .ref (q 4), .ref (q 5), .ref (q 6), .int (zl (uh u)), .int (nI (zh (uh u)))])), (q 1, .inl ((cy 0), 12, .inl (zb (uh u)))), (q 2, .inl ((cy 0), 12, .inl (zw (uh u)))), (q 3, .inl ((cy 0), 12, .inl (zd (uh u)))), (q 4, .inl ((cy 0), 12, .inl (zs (uh u)))), (q 5, .inl ((cy 0), 12, .inl (zr (uh u)))), (q 6, .inl ((cy 1), 12, .inl (zo (uh u)))), (q2 0, .inr (1, [.ref (q2 1), .ref (q2 2), .ref (q2 3), .ref (q2 4), .ref (q2 5), .ref (q2 6), .int (zl g), .int (nI (zh g))])), (q2 1, .inl ((cy 0), 12, .inl (zb g))), (q2 2, .inl ((cy 0), 12, .inl (zw g))), (q2 3, .inl ((cy 0), 12, .inl (zd g))), (q2 4, .inl ((cy 0), 12, .inl (zs g))), (q2 5, .inl ((cy 0), 12, .inl (zr g))), (q2 6, .inl ((cy 1), 12, .inl (zo g))), (a 3, .inl ((cy 2), 6, .inr (.inr (.inr (.inr (fun i => some (ca i))))))), (ca 0, .inr (0, [.ref (ta 0), .int (nI (ul (uCh u (ix k) (chSz v2 v3) v0 v1 v2 v3) 0)), .int (nI (uz (uCh u (ix k) (chSz v2 v3) v0 v1 v2 v3) 0))])), (ca 1, .inr (0, [.ref (ta 1), .int (nI (ul (uCh u (ix k) (chSz v2 v3) v0 v1 v2 v3) 1)), .int (nI (uz (uCh u (ix k) (chSz v2 v3) v0 v1 v2 v3) 1))])), (ca 2, .inr (0, [.ref (ta 2), .int (nI (ul (uCh u (ix k) (chSz v2 v3) v0 v1 v2 v3) 2)), .int (nI (uz (uCh u (ix k) (chSz v2 v3) v0 v1 v2 v3) 2))])), (ca 3, .inr (0, [.ref (ta 3), .int (nI (ul (uCh u (ix k) (chSz v2 v3) v0 v1 v2 v3) 3)), .int (nI (uz (uCh u (ix k) (chSz v2 v3) v0 v1 v2 v3) 3))])), (ca 4, .inr (0, [.ref (ta 4), .int (nI (ul (uCh u (ix k) (chSz v2 v3) v0 v1 v2 v3) 4)), .int (nI (uz (uCh u (ix k) (chSz v2 v3) v0 v1 v2 v3) 4))])), (ca 5, .inr (0, [.ref (ta 5), .int (nI (ul (uCh u (ix k) (chSz v2 v3) v0 v1 v2 v3) 5)), .int (nI (uz (uCh u (ix k) (chSz v2 v3) v0 v1 v2 v3) 5))])), (ta 0, .inl ((cy 0), 4, .inl (ut (uCh u (ix k) (chSz v2 v3) v0 v1 v2 v3) 0))), (ta 1, .inl ((cy 0), 4, .inl (ut (uCh u (ix k) (chSz v2 v3) v0 v1 v2 v3) 1))), (ta 2, .inl ((cy 0), 4, .inl (ut (uCh u (ix k) (chSz v2 v3) v0 v1 v2 v3) 2))), (ta 3, .inl ((cy 0), 4, .inl (ut (uCh u (ix k) (chSz v2 v3) v0 v1 v2 v3) 3))), (ta 4, .inl ((cy 0), 4, .inl (ut (uCh u (ix k) (chSz v2 v3) v0 v1 v2 v3) 4))), (ta 5, .inl ((cy 0), 4, .inl (ut (uCh u (ix k) (chSz v2 v3) v0 v1 v2 v3) 5))), (o, .inl ((cy 3), 1, .inr (.inl (vp_updL f (0 : Int32).toNatClampNeg ((nI (un u)).toInt64)))))] := hD
    refine lv_goto (tgt := 31) hx hb dL_chord_16 (by decide) ?_
    refine lv_iconst (v := 0) hx hb dL_chord_31 (by decide) ?_
    have hP9 : va_P D vwCl (wX cy a q q2 ca ta ((uCh u (ix k) (chSz v2 v3) v0 v1 v2 v3), g, vp_updL f (0 : Int32).toNatClampNeg ((nI (un u)).toInt64)).1 ((uCh u (ix k) (chSz v2 v3) v0 v1 v2 v3), g, vp_updL f (0 : Int32).toNatClampNeg ((nI (un u)).toInt64)).2.1 ++ [(o, .inl (cy 3, 1, .inr (.inl ((uCh u (ix k) (chSz v2 v3) v0 v1 v2 v3), g, vp_updL f (0 : Int32).toNatClampNeg ((nI (un u)).toInt64)).2.2)))]) H := hP
    have hD9 : va_D A (wX cy a q q2 ca ta ((uCh u (ix k) (chSz v2 v3) v0 v1 v2 v3), g, vp_updL f (0 : Int32).toNatClampNeg ((nI (un u)).toInt64)).1 ((uCh u (ix k) (chSz v2 v3) v0 v1 v2 v3), g, vp_updL f (0 : Int32).toNatClampNeg ((nI (un u)).toInt64)).2.1 ++ [(o, .inl (cy 3, 1, .inr (.inl ((uCh u (ix k) (chSz v2 v3) v0 v1 v2 v3), g, vp_updL f (0 : Int32).toNatClampNeg ((nI (un u)).toInt64)).2.2)))]) := hD
    exact W.iret (v := 0) hx hb hr (fun t ht hW => ⟨⟨0, ((uCh u (ix k) (chSz v2 v3) v0 v1 v2 v3), g, vp_updL f (0 : Int32).toNatClampNeg ((nI (un u)).toInt64)), rfl, ⟨by rw [hx9]; rfl, fun _ => ⟨(updL_at (f := f) (x := (nI (un u)).toInt64)), rfl⟩, fun z => absurd hx9 z⟩, by rw [ht]; exact hP9, hD9⟩, hS.F ht⟩) hS.2.2 dL_chord_32

theorem kL_off_0 : (.codeWith yL_off cL_off 4 (some .int) [(0, 9, 12, 13)] : Cond) ∈ wsL_off := by decide +kernel
theorem kL_off_1 : (.classLink RL 13 "java/lang/IndexOutOfBoundsException" : Cond) ∈ wsL_off := by decide +kernel
set_option maxHeartbeats 4000000 in
set_option maxRecDepth 100000 in
theorem mL_off (l : Launch) (hst : l.stackTraces = false) (D : va_G) (cy : Nat → ClassId) (sz : Nat) (a q q2 ca ta : Nat → Nat) (u : US) (g : HS) (hu : uOk u) (o : Nat) (f : Nat → Int64) (v : Int32) : Met l yL_off wsL_off ({ frames := 8, cells := 1, slots := 6, locals := 124 } : Room) (va_Pc [.ref (a 0), .int v, .ref o] (fun U => U.heap.size = sz ∧ va_P D vwCl (wX cy a q q2 ca ta u g ++ [(o, .inl (cy 3, 1, .inr (.inl f)))]) U.heap ∧ va_K D vwCl (TY cy) U ∧ va_D (fun _ => True) (wX cy a q q2 ca ta u g ++ [(o, .inl (cy 3, 1, .inr (.inl f)))]) ∧ xC U U.heap ∧ xNc U)) (va_Qi (fun (r8 : Int32) (w9 : US × HS × (Nat → Int64)) => r8 = nI (exC u v) ∧ (exC u v = 0 → w9.2.2 0 = (offBy (uh u) (ul u (ix v)) (ut u (ix v)) (uz u (ix v))).toInt64 ∧ w9.1 = u) ∧ (¬ exC u v = 0 → w9.1 = u)) (fun (w9 : US × HS × (Nat → Int64)) t => va_P D vwCl (wX cy a q q2 ca ta w9.1 w9.2.1 ++ [(o, .inl (cy 3, 1, .inr (.inl w9.2.2)))]) t.heap ∧ va_D (va_A (wX cy a q q2 ca ta u g ++ [(o, .inl (cy 3, 1, .inr (.inl f)))]) sz) (wX cy a q q2 ca ta w9.1 w9.2.1 ++ [(o, .inl (cy 3, 1, .inr (.inl w9.2.2)))])) (va_A (wX cy a q q2 ca ta u g ++ [(o, .inl (cy 3, 1, .inr (.inl f)))]) sz)) 1 6 (va_A (wX cy a q q2 ca ta u g ++ [(o, .inl (cy 3, 1, .inr (.inl f)))]) sz) := by
  refine pl_ofWH (cc := cL_off) (maxL := 4) (ret := (some .int)) (hh := [(0, 9, 12, 13)]) (by decide) rfl ?_
  intro p e s m args below meth c s₁ B hml hv
  obtain ⟨rfl, hsz, hP, hK, hD0, hX, hNc⟩ := hv
  have hx := B.exec
  have hb := B.bytes
  have hr := B.returns
  have hts := atoms_spec (ws := wsL_off) B.pre
  have hown : s.vm.findClass RL = some m.cls := findClass_of_methodNamed B.named
  have hlocks := B.notSynchronized
  have hl := lv_entry ([.ref (a 0), .int v, .ref o]) (n := 4) (Nat.le_of_ble_eq_true rfl)
  rw [lg_entry_eq]
  generalize (lg_sl ([.ref (a 0), .int v, .ref o]) ++ List.replicate (4 - (lg_sl ([.ref (a 0), .int v, .ref o])).length) Slot.unset).toArray = ls at hl ⊢
  have hl : lv_has ls 4 [(0, .ref (a 0)), (1, .int v), (2, .ref o)] := hl
  subst hsz
  have hD := hD0.self (sz := s.heap.size)
  generalize hAe : va_A (wX cy a q q2 ca ta u g ++ [(o, .inl (cy 3, 1, .inr (.inl f)))]) s.heap.size = A at hD ⊢
  have hA : ∀ q : Nat, s.heap.size ≤ q → A q := fun q h => by rw [← hAe]; exact Or.inr h
  have hS : va_S A s.heap s.heap [] := va_S.rf
  have hP : va_P D vwCl (wX cy a q q2 ca ta u g ++ [(o, .inl (cy 3, 1, .inr (.inl f)))]) s.heap := hP
  have hT := vx_table (x := yL_off) B (hts _ kL_off_0)
  refine lv_aload_n hx hb dL_off_0 rfl (lv_at hl 2 rfl) ?_
  refine lv_iconst (v := 0) hx hb dL_off_1 (by decide) ?_
  refine lv_aload_n hx hb dL_off_2 rfl (lv_at hl 0 rfl) ?_
  refine lv_iload_n hx hb dL_off_3 rfl (lv_at hl 1 rfl) ?_
  have hPc := hP.sub (ws' := wX cy a q q2 ca ta u g) [0, 1, 2, 3, 4, 5, 6, 7, 8, 9, 10, 11, 12, 13, 14, 15, 16, 17, 18, 19, 20, 21, 22, 23, 24, 25, 26, 27, 28, 29] rfl
  refine px_calli (vx_runV (As := [.int v]) (rest := [.int 0, .ref o]) ⟨hx, hb, hml, hown, hts⟩ (mX2_off l hst D cy a q q2 ca ta u g hu v) (cwV 1 hts gL_off_X2_off rfl rfl rfl (by decide +kernel) ⟨Nat.le_of_ble_eq_true rfl, Nat.le_of_ble_eq_true rfl⟩) ⟨fun a U g mk q => ⟨q.1, q.2.1, va_K.moved (u := U) (U := U.calling g mk a) (Vm.Alike.refl U.vm) q.2.2.1, xC.warm (State.WarmedH.refl U) q.2.2.2⟩, va_recv hK hPc (ci := 2) (q0 := 0) rfl rfl, fun U hU hW => ⟨rfl, by rw [hU]; exact hPc, va_K.moved hW.alike hK, (show xC U U.heap by rw [hU]; exact hX.warm hW)⟩⟩ rfl rfl hl.1 rfl (lv_room (Nat.le_of_ble_eq_true rfl)) dL_off_4 ⟨Nat.le_of_ble_eq_true rfl, Nat.le_of_ble_eq_true rfl⟩) (fun E9 ce9 q9 H9 hE9 h19 h29 hce9 hcv9 hcl9 => ?_) (fun r9 hw9 => ?_)
  · have hP : va_P D vwCl (wX cy a q q2 ca ta u g ++ [(o, .inl (cy 3, 1, .inr (.inl f)))]) H9 := hP.kept (fun k q hk => h29 q.1 (hP k q hk).lt)
    have hS : va_S A s.heap H9 [] := ⟨h19, fun q hq _ => h29 q hq, fun _ h => absurd h List.not_mem_nil⟩
    have hle9 := exC_le u v
    have hx9 : exC u v = 1 := by have := hE9.2; omega
    rw [hx9] at hE9
    obtain rfl : E9 = xI := hE9.1
    refine vx_catch (name := xI) hown [] ⟨0, 9, 12, 13⟩ [] (by rw [hT]; rfl) (fun _ hz => absurd hz List.not_mem_nil) (by decide) (by decide) (hts _ kL_off_1) (xC.cast hX xI_in) hce9 hcv9 hcl9 ?_
    refine W.widen (k := 1) (n := 6) (Nat.le_of_ble_eq_true rfl) (Nat.le_of_ble_eq_true rfl) ?_
    refine lv_astore_n (lv' := [(3, .ref q9), (0, .ref (a 0)), (1, .int v), (2, .ref o)]) hx hb dL_off_12 rfl hl (by decide) rfl (fun ls hl => ?_)
    refine lv_iconst (v := 1) hx hb dL_off_13 (by decide) ?_
    have hP9 : va_P D vwCl (wX cy a q q2 ca ta (u, g, f).1 (u, g, f).2.1 ++ [(o, .inl (cy 3, 1, .inr (.inl (u, g, f).2.2)))]) H9 := hP
    have hD9 : va_D A (wX cy a q q2 ca ta (u, g, f).1 (u, g, f).2.1 ++ [(o, .inl (cy 3, 1, .inr (.inl (u, g, f).2.2)))]) := hD
    exact W.iret (v := 1) hx hb hr (fun t ht hW => ⟨⟨1, (u, g, f), rfl, ⟨by rw [hx9]; rfl, fun z => absurd (hx9.symm.trans z) (by decide), fun _ => rfl⟩, by rw [ht]; exact hP9, hD9⟩, hS.F ht⟩) hS.2.2 dL_off_14
  · clear hPc
    obtain ⟨hx9, hw9⟩ := hw9
    subst hw9
    refine W.widen (k := 1) (n := 6) (Nat.le_of_ble_eq_true rfl) (Nat.le_of_ble_eq_true rfl) ?_
    refine lv_i2l (v := (offBy (uh u) (ul u (ix v)) (ut u (ix v)) (uz u (ix v))).toInt64) hx hb dL_off_7 rfl ?_
    refine va_last hx hb hK hP hD hS 30 3 rfl rfl (i := 0) (show vp_in (0 : Int32) 1 from vp_in_nI (by decide) (by decide)) dL_off_8 (fun H locs hP hD hS => ?_)
    have hP : va_P D vwCl [(a 0, .inr (2, [.ref (q 0), .ref (q2 0), .ref (a 1), .ref (a 2), .ref (a 3), .int (nI (un u))])), (a 1, .inl ((cy 0), 12, .inl (uw u))), (a 2, .inl ((cy 0), 12, .inl (ud u))), (q 0, .inr (1, [.ref (q 1), .ref (q 2), .ref (q 3), .ref (q 4), .ref (q 5), .ref (q 6), .int (zl (uh u)), .int (nI (zh (uh u)))])), (q 1, .inl ((cy 0), 12, .inl (zb (uh u)))), (q 2, .inl ((cy 0), 12, .inl (zw (uh u)))), (q 3, .inl ((cy 0), 12, .inl (zd (uh u)))), (q 4, .inl ((cy 0), 12, .inl (zs (uh u)))), (q 5, .inl ((cy 0), 12, .inl (zr (uh u)))), (q 6, .inl ((cy 1), 12, .inl (zo (uh u)))), (q2 0, .inr (1, [.ref (q2 1), .ref (q2 2), .ref (q2 3), .ref (q2 4), .ref (q2 5), .ref (q2 6), .int (zl g), .int (nI (zh g))])), (q2 1, .inl ((cy 0), 12, .inl (zb g))), (q2 2, .inl ((cy 0), 12, .inl (zw g))), (q2 3, .inl ((cy 0), 12, .inl (zd g))), (q2 4, .inl ((cy 0), 12, .inl (zs g))), (q2 5, .inl ((cy 0), 12, .inl (zr g))), (q2 6, .inl ((cy 1), 12, .inl (zo g))), (a 3, .inl ((cy 2), 6, .inr (.inr (.inr (.inr (fun i => some (ca i))))))), (ca 0, .inr (0, [.ref (ta 0), .int (nI (ul u 0)), .int (nI (uz u 0))])), (ca 1, .inr (0, [.ref (ta 1), .int (nI (ul u 1)), .int (nI (uz u 1))])), (ca 2, .inr (0, [.ref (ta 2), .int (nI (ul u 2)), .int (nI (uz u 2))])), (ca 3, .inr (0, [.ref (ta 3), .int (nI (ul u 3)), .int (nI (uz u 3))])), (ca 4, .inr (0, [.ref (ta 4), .int (nI (ul u 4)), .int (nI (uz u 4))])), (ca 5, .inr (0, [.ref (ta 5), .int (nI (ul u 5)), .int (nI (uz u 5))])), (ta 0, .inl ((cy 0), 4, .inl (ut u 0))), (ta 1, .inl ((cy 0), 4, .inl (ut u 1))), (ta 2, .inl ((cy 0), 4, .inl (ut u 2))), (ta 3, .inl ((cy 0), 4, .inl (ut u 3))), (ta 4, .inl ((cy 0), 4, .inl (ut u 4))), (ta 5, .inl ((cy 0), 4, .inl (ut u 5))), (o, .inl ((cy 3), 1, .inr (.inl (vp_updL f (0 : Int32).toNatClampNeg ((offBy (uh u) (ul u (ix v)) (ut u (ix v)) (uz u (ix v))).toInt64)))))] H := hP
    have hD : va_D A [(a 0, .inr (2, [.ref (q 0), .ref (q2 0), .ref (a 1), .ref (a 2), .ref (a 3), .int (nI (un u))])), (a 1, .inl ((cy 0), 12, .inl (uw u))), (a 2, .inl ((cy 0), 12, .inl (ud u))), (q 0, .inr (1, [.ref (q 1), .ref (q 2), .ref (q 3), .ref (q 4), .ref (q 5), .ref (q 6), .int (zl (uh u)), .int (nI (zh (uh u)))])), (q 1, .inl ((cy 0), 12, .inl (zb (uh u)))), (q 2, .inl ((cy 0), 12, .inl (zw (uh u)))), (q 3, .inl ((cy 0), 12, .inl (zd (uh u)))), (q 4, .inl ((cy 0), 12, .inl (zs (uh u)))), (q 5, .inl ((cy 0), 12, .inl (zr (uh u)))), (q 6, .inl ((cy 1), 12, .inl (zo (uh u)))), (q2 0, .inr (1, [.ref (q2 1), .ref (q2 2), .ref (q2 3), .ref (q2 4), .ref (q2 5), .ref (q2 6), .int (zl g), .int (nI (zh g))])), (q2 1, .inl ((cy 0), 12, .inl (zb g))), (q2 2, .inl ((cy 0), 12, .inl (zw g))), (q2 3, .inl ((cy 0), 12, .inl (zd g))), (q2 4, .inl ((cy 0), 12, .inl (zs g))), (q2 5, .inl ((cy 0), 12, .inl (zr g))), (q2 6, .inl ((cy 1), 12, .inl (zo g))), (a 3, .inl ((cy 2), 6, .inr (.inr (.inr (.inr (fun i => some (ca i))))))), (ca 0, .inr (0, [.ref (ta 0), .int (nI (ul u 0)), .int (nI (uz u 0))])), (ca 1, .inr (0, [.ref (ta 1), .int (nI (ul u 1)), .int (nI (uz u 1))])), (ca 2, .inr (0, [.ref (ta 2), .int (nI (ul u 2)), .int (nI (uz u 2))])), (ca 3, .inr (0, [.ref (ta 3), .int (nI (ul u 3)), .int (nI (uz u 3))])), (ca 4, .inr (0, [.ref (ta 4), .int (nI (ul u 4)), .int (nI (uz u 4))])), (ca 5, .inr (0, [.ref (ta 5), .int (nI (ul u 5)), .int (nI (uz u 5))])), (ta 0, .inl ((cy 0), 4, .inl (ut u 0))), (ta 1, .inl ((cy 0), 4, .inl (ut u 1))), (ta 2, .inl ((cy 0), 4, .inl (ut u 2))), (ta 3, .inl ((cy 0), 4, .inl (ut u 3))), (ta 4, .inl ((cy 0), 4, .inl (ut u 4))), (ta 5, .inl ((cy 0), 4, .inl (ut u 5))), (o, .inl ((cy 3), 1, .inr (.inl (vp_updL f (0 : Int32).toNatClampNeg ((offBy (uh u) (ul u (ix v)) (ut u (ix v)) (uz u (ix v))).toInt64)))))] := hD
    refine lv_goto (tgt := 15) hx hb dL_off_9 (by decide) ?_
    refine lv_iconst (v := 0) hx hb dL_off_15 (by decide) ?_
    have hP9 : va_P D vwCl (wX cy a q q2 ca ta (u, g, vp_updL f (0 : Int32).toNatClampNeg ((offBy (uh u) (ul u (ix v)) (ut u (ix v)) (uz u (ix v))).toInt64)).1 (u, g, vp_updL f (0 : Int32).toNatClampNeg ((offBy (uh u) (ul u (ix v)) (ut u (ix v)) (uz u (ix v))).toInt64)).2.1 ++ [(o, .inl (cy 3, 1, .inr (.inl (u, g, vp_updL f (0 : Int32).toNatClampNeg ((offBy (uh u) (ul u (ix v)) (ut u (ix v)) (uz u (ix v))).toInt64)).2.2)))]) H := hP
    have hD9 : va_D A (wX cy a q q2 ca ta (u, g, vp_updL f (0 : Int32).toNatClampNeg ((offBy (uh u) (ul u (ix v)) (ut u (ix v)) (uz u (ix v))).toInt64)).1 (u, g, vp_updL f (0 : Int32).toNatClampNeg ((offBy (uh u) (ul u (ix v)) (ut u (ix v)) (uz u (ix v))).toInt64)).2.1 ++ [(o, .inl (cy 3, 1, .inr (.inl (u, g, vp_updL f (0 : Int32).toNatClampNeg ((offBy (uh u) (ul u (ix v)) (ut u (ix v)) (uz u (ix v))).toInt64)).2.2)))]) := hD
    exact W.iret (v := 0) hx hb hr (fun t ht hW => ⟨⟨0, (u, g, vp_updL f (0 : Int32).toNatClampNeg ((offBy (uh u) (ul u (ix v)) (ut u (ix v)) (uz u (ix v))).toInt64)), rfl, ⟨by rw [hx9]; rfl, fun _ => ⟨(updL_at (f := f) (x := (offBy (uh u) (ul u (ix v)) (ut u (ix v)) (uz u (ix v))).toInt64)), rfl⟩, fun z => absurd hx9 z⟩, by rw [ht]; exact hP9, hD9⟩, hS.F ht⟩) hS.2.2 dL_off_16

theorem kL_sounds_0 : (.codeWith yL_sounds cL_sounds 4 (some .int) [(0, 16, 19, 13)] : Cond) ∈ wsL_sounds := by decide +kernel
theorem kL_sounds_1 : (.classLink RL 13 "java/lang/IndexOutOfBoundsException" : Cond) ∈ wsL_sounds := by decide +kernel
set_option maxHeartbeats 4000000 in
set_option maxRecDepth 100000 in
theorem mL_sounds (l : Launch) (hst : l.stackTraces = false) (D : va_G) (cy : Nat → ClassId) (sz : Nat) (a q q2 ca ta : Nat → Nat) (u : US) (g : HS) (hu : uOk u) (o : Nat) (f : Nat → Int64) (v : Int32) : Met l yL_sounds wsL_sounds ({ frames := 8, cells := 1, slots := 6, locals := 124 } : Room) (va_Pc [.ref (a 0), .int v, .ref o] (fun U => U.heap.size = sz ∧ va_P D vwCl (wX cy a q q2 ca ta u g ++ [(o, .inl (cy 3, 1, .inr (.inl f)))]) U.heap ∧ va_K D vwCl (TY cy) U ∧ va_D (fun _ => True) (wX cy a q q2 ca ta u g ++ [(o, .inl (cy 3, 1, .inr (.inl f)))]) ∧ xC U U.heap ∧ xNc U)) (va_Qi (fun (r8 : Int32) (w9 : US × HS × (Nat → Int64)) => r8 = nI (exC u v) ∧ (exC u v = 0 → w9.2.2 0 = (bI (snd u (ix v))).toInt64 ∧ w9.1 = u) ∧ (¬ exC u v = 0 → w9.1 = u)) (fun (w9 : US × HS × (Nat → Int64)) t => va_P D vwCl (wX cy a q q2 ca ta w9.1 w9.2.1 ++ [(o, .inl (cy 3, 1, .inr (.inl w9.2.2)))]) t.heap ∧ va_D (va_A (wX cy a q q2 ca ta u g ++ [(o, .inl (cy 3, 1, .inr (.inl f)))]) sz) (wX cy a q q2 ca ta w9.1 w9.2.1 ++ [(o, .inl (cy 3, 1, .inr (.inl w9.2.2)))])) (va_A (wX cy a q q2 ca ta u g ++ [(o, .inl (cy 3, 1, .inr (.inl f)))]) sz)) 1 6 (va_A (wX cy a q q2 ca ta u g ++ [(o, .inl (cy 3, 1, .inr (.inl f)))]) sz) := by
  refine pl_ofWH (cc := cL_sounds) (maxL := 4) (ret := (some .int)) (hh := [(0, 16, 19, 13)]) (by decide) rfl ?_
  intro p e s m args below meth c s₁ B hml hv
  obtain ⟨rfl, hsz, hP, hK, hD0, hX, hNc⟩ := hv
  have hx := B.exec
  have hb := B.bytes
  have hr := B.returns
  have hts := atoms_spec (ws := wsL_sounds) B.pre
  have hown : s.vm.findClass RL = some m.cls := findClass_of_methodNamed B.named
  have hlocks := B.notSynchronized
  have hl := lv_entry ([.ref (a 0), .int v, .ref o]) (n := 4) (Nat.le_of_ble_eq_true rfl)
  rw [lg_entry_eq]
  generalize (lg_sl ([.ref (a 0), .int v, .ref o]) ++ List.replicate (4 - (lg_sl ([.ref (a 0), .int v, .ref o])).length) Slot.unset).toArray = ls at hl ⊢
  have hl : lv_has ls 4 [(0, .ref (a 0)), (1, .int v), (2, .ref o)] := hl
  subst hsz
  have hD := hD0.self (sz := s.heap.size)
  generalize hAe : va_A (wX cy a q q2 ca ta u g ++ [(o, .inl (cy 3, 1, .inr (.inl f)))]) s.heap.size = A at hD ⊢
  have hA : ∀ q : Nat, s.heap.size ≤ q → A q := fun q h => by rw [← hAe]; exact Or.inr h
  have hS : va_S A s.heap s.heap [] := va_S.rf
  have hP : va_P D vwCl (wX cy a q q2 ca ta u g ++ [(o, .inl (cy 3, 1, .inr (.inl f)))]) s.heap := hP
  have hT := vx_table (x := yL_sounds) B (hts _ kL_sounds_0)
  refine lv_aload_n hx hb dL_sounds_0 rfl (lv_at hl 2 rfl) ?_
  refine lv_iconst (v := 0) hx hb dL_sounds_1 (by decide) ?_
  refine lv_aload_n hx hb dL_sounds_2 rfl (lv_at hl 0 rfl) ?_
  refine lv_iload_n hx hb dL_sounds_3 rfl (lv_at hl 1 rfl) ?_
  have hPc := hP.sub (ws' := wX cy a q q2 ca ta u g) [0, 1, 2, 3, 4, 5, 6, 7, 8, 9, 10, 11, 12, 13, 14, 15, 16, 17, 18, 19, 20, 21, 22, 23, 24, 25, 26, 27, 28, 29] rfl
  refine px_calli (vx_runV (As := [.int v]) (rest := [.int 0, .ref o]) ⟨hx, hb, hml, hown, hts⟩ (mX2_sounds l hst D cy a q q2 ca ta u g hu v) (cwV 1 hts gL_sounds_X2_sounds rfl rfl rfl (by decide +kernel) ⟨Nat.le_of_ble_eq_true rfl, Nat.le_of_ble_eq_true rfl⟩) ⟨fun a U g mk q => ⟨q.1, q.2.1, va_K.moved (u := U) (U := U.calling g mk a) (Vm.Alike.refl U.vm) q.2.2.1, xC.warm (State.WarmedH.refl U) q.2.2.2⟩, va_recv hK hPc (ci := 2) (q0 := 0) rfl rfl, fun U hU hW => ⟨rfl, by rw [hU]; exact hPc, va_K.moved hW.alike hK, (show xC U U.heap by rw [hU]; exact hX.warm hW)⟩⟩ rfl rfl hl.1 rfl (lv_room (Nat.le_of_ble_eq_true rfl)) dL_sounds_4 ⟨Nat.le_of_ble_eq_true rfl, Nat.le_of_ble_eq_true rfl⟩) (fun E9 ce9 q9 H9 hE9 h19 h29 hce9 hcv9 hcl9 => ?_) (fun r9 hw9 => ?_)
  · have hP : va_P D vwCl (wX cy a q q2 ca ta u g ++ [(o, .inl (cy 3, 1, .inr (.inl f)))]) H9 := hP.kept (fun k q hk => h29 q.1 (hP k q hk).lt)
    have hS : va_S A s.heap H9 [] := ⟨h19, fun q hq _ => h29 q hq, fun _ h => absurd h List.not_mem_nil⟩
    have hle9 := exC_le u v
    have hx9 : exC u v = 1 := by have := hE9.2; omega
    rw [hx9] at hE9
    obtain rfl : E9 = xI := hE9.1
    refine vx_catch (name := xI) hown [] ⟨0, 16, 19, 13⟩ [] (by rw [hT]; rfl) (fun _ hz => absurd hz List.not_mem_nil) (by decide) (by decide) (hts _ kL_sounds_1) (xC.cast hX xI_in) hce9 hcv9 hcl9 ?_
    refine W.widen (k := 1) (n := 6) (Nat.le_of_ble_eq_true rfl) (Nat.le_of_ble_eq_true rfl) ?_
    refine lv_astore_n (lv' := [(3, .ref q9), (0, .ref (a 0)), (1, .int v), (2, .ref o)]) hx hb dL_sounds_19 rfl hl (by decide) rfl (fun ls hl => ?_)
    refine lv_iconst (v := 1) hx hb dL_sounds_20 (by decide) ?_
    have hP9 : va_P D vwCl (wX cy a q q2 ca ta (u, g, f).1 (u, g, f).2.1 ++ [(o, .inl (cy 3, 1, .inr (.inl (u, g, f).2.2)))]) H9 := hP
    have hD9 : va_D A (wX cy a q q2 ca ta (u, g, f).1 (u, g, f).2.1 ++ [(o, .inl (cy 3, 1, .inr (.inl (u, g, f).2.2)))]) := hD
    exact W.iret (v := 1) hx hb hr (fun t ht hW => ⟨⟨1, (u, g, f), rfl, ⟨by rw [hx9]; rfl, fun z => absurd (hx9.symm.trans z) (by decide), fun _ => rfl⟩, by rw [ht]; exact hP9, hD9⟩, hS.F ht⟩) hS.2.2 dL_sounds_21
  · clear hPc
    obtain ⟨hx9, hw9⟩ := hw9
    subst hw9
    refine W.widen (k := 1) (n := 6) (Nat.le_of_ble_eq_true rfl) (Nat.le_of_ble_eq_true rfl) ?_
    refine lv_if_eq (tgt := 14) hx hb dL_sounds_7 (by decide) (fun c7 => ?_) (fun c7 => ?_)
    · refine lv_lconst (v := 0) hx hb dL_sounds_14 (by decide) ?_
      refine va_last hx hb hK hP hD hS 30 3 rfl rfl (i := 0) (show vp_in (0 : Int32) 1 from vp_in_nI (by decide) (by decide)) dL_sounds_15 (fun H locs hP hD hS => ?_)
      have hP : va_P D vwCl [(a 0, .inr (2, [.ref (q 0), .ref (q2 0), .ref (a 1), .ref (a 2), .ref (a 3), .int (nI (un u))])), (a 1, .inl ((cy 0), 12, .inl (uw u))), (a 2, .inl ((cy 0), 12, .inl (ud u))), (q 0, .inr (1, [.ref (q 1), .ref (q 2), .ref (q 3), .ref (q 4), .ref (q 5), .ref (q 6), .int (zl (uh u)), .int (nI (zh (uh u)))])), (q 1, .inl ((cy 0), 12, .inl (zb (uh u)))), (q 2, .inl ((cy 0), 12, .inl (zw (uh u)))), (q 3, .inl ((cy 0), 12, .inl (zd (uh u)))), (q 4, .inl ((cy 0), 12, .inl (zs (uh u)))), (q 5, .inl ((cy 0), 12, .inl (zr (uh u)))), (q 6, .inl ((cy 1), 12, .inl (zo (uh u)))), (q2 0, .inr (1, [.ref (q2 1), .ref (q2 2), .ref (q2 3), .ref (q2 4), .ref (q2 5), .ref (q2 6), .int (zl g), .int (nI (zh g))])), (q2 1, .inl ((cy 0), 12, .inl (zb g))), (q2 2, .inl ((cy 0), 12, .inl (zw g))), (q2 3, .inl ((cy 0), 12, .inl (zd g))), (q2 4, .inl ((cy 0), 12, .inl (zs g))), (q2 5, .inl ((cy 0), 12, .inl (zr g))), (q2 6, .inl ((cy 1), 12, .inl (zo g))), (a 3, .inl ((cy 2), 6, .inr (.inr (.inr (.inr (fun i => some (ca i))))))), (ca 0, .inr (0, [.ref (ta 0), .int (nI (ul u 0)), .int (nI (uz u 0))])), (ca 1, .inr (0, [.ref (ta 1), .int (nI (ul u 1)), .int (nI (uz u 1))])), (ca 2, .inr (0, [.ref (ta 2), .int (nI (ul u 2)), .int (nI (uz u 2))])), (ca 3, .inr (0, [.ref (ta 3), .int (nI (ul u 3)), .int (nI (uz u 3))])), (ca 4, .inr (0, [.ref (ta 4), .int (nI (ul u 4)), .int (nI (uz u 4))])), (ca 5, .inr (0, [.ref (ta 5), .int (nI (ul u 5)), .int (nI (uz u 5))])), (ta 0, .inl ((cy 0), 4, .inl (ut u 0))), (ta 1, .inl ((cy 0), 4, .inl (ut u 1))), (ta 2, .inl ((cy 0), 4, .inl (ut u 2))), (ta 3, .inl ((cy 0), 4, .inl (ut u 3))), (ta 4, .inl ((cy 0), 4, .inl (ut u 4))), (ta 5, .inl ((cy 0), 4, .inl (ut u 5))), (o, .inl ((cy 3), 1, .inr (.inl (vp_updL f (0 : Int32).toNatClampNeg 0))))] H := hP
      have hD : va_D A [(a 0, .inr (2, [.ref (q 0), .ref (q2 0), .ref (a 1), .ref (a 2), .ref (a 3), .int (nI (un u))])), (a 1, .inl ((cy 0), 12, .inl (uw u))), (a 2, .inl ((cy 0), 12, .inl (ud u))), (q 0, .inr (1, [.ref (q 1), .ref (q 2), .ref (q 3), .ref (q 4), .ref (q 5), .ref (q 6), .int (zl (uh u)), .int (nI (zh (uh u)))])), (q 1, .inl ((cy 0), 12, .inl (zb (uh u)))), (q 2, .inl ((cy 0), 12, .inl (zw (uh u)))), (q 3, .inl ((cy 0), 12, .inl (zd (uh u)))), (q 4, .inl ((cy 0), 12, .inl (zs (uh u)))), (q 5, .inl ((cy 0), 12, .inl (zr (uh u)))), (q 6, .inl ((cy 1), 12, .inl (zo (uh u)))), (q2 0, .inr (1, [.ref (q2 1), .ref (q2 2), .ref (q2 3), .ref (q2 4), .ref (q2 5), .ref (q2 6), .int (zl g), .int (nI (zh g))])), (q2 1, .inl ((cy 0), 12, .inl (zb g))), (q2 2, .inl ((cy 0), 12, .inl (zw g))), (q2 3, .inl ((cy 0), 12, .inl (zd g))), (q2 4, .inl ((cy 0), 12, .inl (zs g))), (q2 5, .inl ((cy 0), 12, .inl (zr g))), (q2 6, .inl ((cy 1), 12, .inl (zo g))), (a 3, .inl ((cy 2), 6, .inr (.inr (.inr (.inr (fun i => some (ca i))))))), (ca 0, .inr (0, [.ref (ta 0), .int (nI (ul u 0)), .int (nI (uz u 0))])), (ca 1, .inr (0, [.ref (ta 1), .int (nI (ul u 1)), .int (nI (uz u 1))])), (ca 2, .inr (0, [.ref (ta 2), .int (nI (ul u 2)), .int (nI (uz u 2))])), (ca 3, .inr (0, [.ref (ta 3), .int (nI (ul u 3)), .int (nI (uz u 3))])), (ca 4, .inr (0, [.ref (ta 4), .int (nI (ul u 4)), .int (nI (uz u 4))])), (ca 5, .inr (0, [.ref (ta 5), .int (nI (ul u 5)), .int (nI (uz u 5))])), (ta 0, .inl ((cy 0), 4, .inl (ut u 0))), (ta 1, .inl ((cy 0), 4, .inl (ut u 1))), (ta 2, .inl ((cy 0), 4, .inl (ut u 2))), (ta 3, .inl ((cy 0), 4, .inl (ut u 3))), (ta 4, .inl ((cy 0), 4, .inl (ut u 4))), (ta 5, .inl ((cy 0), 4, .inl (ut u 5))), (o, .inl ((cy 3), 1, .inr (.inl (vp_updL f (0 : Int32).toNatClampNeg 0))))] := hD
      refine lv_goto (tgt := 22) hx hb dL_sounds_16 (by decide) ?_
      refine lv_iconst (v := 0) hx hb dL_sounds_22 (by decide) ?_
      have hP9 : va_P D vwCl (wX cy a q q2 ca ta (u, g, vp_updL f (0 : Int32).toNatClampNeg 0).1 (u, g, vp_updL f (0 : Int32).toNatClampNeg 0).2.1 ++ [(o, .inl (cy 3, 1, .inr (.inl (u, g, vp_updL f (0 : Int32).toNatClampNeg 0).2.2)))]) H := hP
      have hD9 : va_D A (wX cy a q q2 ca ta (u, g, vp_updL f (0 : Int32).toNatClampNeg 0).1 (u, g, vp_updL f (0 : Int32).toNatClampNeg 0).2.1 ++ [(o, .inl (cy 3, 1, .inr (.inl (u, g, vp_updL f (0 : Int32).toNatClampNeg 0).2.2)))]) := hD
      exact W.iret (v := 0) hx hb hr (fun t ht hW => ⟨⟨0, (u, g, vp_updL f (0 : Int32).toNatClampNeg 0), rfl, ⟨by rw [hx9]; rfl, fun _ => ⟨((updL_at (f := f) (x := 0)).trans (by rw [c7]; rfl)), rfl⟩, fun z => absurd hx9 z⟩, by rw [ht]; exact hP9, hD9⟩, hS.F ht⟩) hS.2.2 dL_sounds_23
    · refine lv_lconst (v := 1) hx hb dL_sounds_10 (by decide) ?_
      refine lv_goto (tgt := 15) hx hb dL_sounds_11 (by decide) ?_
      refine va_last hx hb hK hP hD hS 30 3 rfl rfl (i := 0) (show vp_in (0 : Int32) 1 from vp_in_nI (by decide) (by decide)) dL_sounds_15 (fun H locs hP hD hS => ?_)
      have hP : va_P D vwCl [(a 0, .inr (2, [.ref (q 0), .ref (q2 0), .ref (a 1), .ref (a 2), .ref (a 3), .int (nI (un u))])), (a 1, .inl ((cy 0), 12, .inl (uw u))), (a 2, .inl ((cy 0), 12, .inl (ud u))), (q 0, .inr (1, [.ref (q 1), .ref (q 2), .ref (q 3), .ref (q 4), .ref (q 5), .ref (q 6), .int (zl (uh u)), .int (nI (zh (uh u)))])), (q 1, .inl ((cy 0), 12, .inl (zb (uh u)))), (q 2, .inl ((cy 0), 12, .inl (zw (uh u)))), (q 3, .inl ((cy 0), 12, .inl (zd (uh u)))), (q 4, .inl ((cy 0), 12, .inl (zs (uh u)))), (q 5, .inl ((cy 0), 12, .inl (zr (uh u)))), (q 6, .inl ((cy 1), 12, .inl (zo (uh u)))), (q2 0, .inr (1, [.ref (q2 1), .ref (q2 2), .ref (q2 3), .ref (q2 4), .ref (q2 5), .ref (q2 6), .int (zl g), .int (nI (zh g))])), (q2 1, .inl ((cy 0), 12, .inl (zb g))), (q2 2, .inl ((cy 0), 12, .inl (zw g))), (q2 3, .inl ((cy 0), 12, .inl (zd g))), (q2 4, .inl ((cy 0), 12, .inl (zs g))), (q2 5, .inl ((cy 0), 12, .inl (zr g))), (q2 6, .inl ((cy 1), 12, .inl (zo g))), (a 3, .inl ((cy 2), 6, .inr (.inr (.inr (.inr (fun i => some (ca i))))))), (ca 0, .inr (0, [.ref (ta 0), .int (nI (ul u 0)), .int (nI (uz u 0))])), (ca 1, .inr (0, [.ref (ta 1), .int (nI (ul u 1)), .int (nI (uz u 1))])), (ca 2, .inr (0, [.ref (ta 2), .int (nI (ul u 2)), .int (nI (uz u 2))])), (ca 3, .inr (0, [.ref (ta 3), .int (nI (ul u 3)), .int (nI (uz u 3))])), (ca 4, .inr (0, [.ref (ta 4), .int (nI (ul u 4)), .int (nI (uz u 4))])), (ca 5, .inr (0, [.ref (ta 5), .int (nI (ul u 5)), .int (nI (uz u 5))])), (ta 0, .inl ((cy 0), 4, .inl (ut u 0))), (ta 1, .inl ((cy 0), 4, .inl (ut u 1))), (ta 2, .inl ((cy 0), 4, .inl (ut u 2))), (ta 3, .inl ((cy 0), 4, .inl (ut u 3))), (ta 4, .inl ((cy 0), 4, .inl (ut u 4))), (ta 5, .inl ((cy 0), 4, .inl (ut u 5))), (o, .inl ((cy 3), 1, .inr (.inl (vp_updL f (0 : Int32).toNatClampNeg 1))))] H := hP
      have hD : va_D A [(a 0, .inr (2, [.ref (q 0), .ref (q2 0), .ref (a 1), .ref (a 2), .ref (a 3), .int (nI (un u))])), (a 1, .inl ((cy 0), 12, .inl (uw u))), (a 2, .inl ((cy 0), 12, .inl (ud u))), (q 0, .inr (1, [.ref (q 1), .ref (q 2), .ref (q 3), .ref (q 4), .ref (q 5), .ref (q 6), .int (zl (uh u)), .int (nI (zh (uh u)))])), (q 1, .inl ((cy 0), 12, .inl (zb (uh u)))), (q 2, .inl ((cy 0), 12, .inl (zw (uh u)))), (q 3, .inl ((cy 0), 12, .inl (zd (uh u)))), (q 4, .inl ((cy 0), 12, .inl (zs (uh u)))), (q 5, .inl ((cy 0), 12, .inl (zr (uh u)))), (q 6, .inl ((cy 1), 12, .inl (zo (uh u)))), (q2 0, .inr (1, [.ref (q2 1), .ref (q2 2), .ref (q2 3), .ref (q2 4), .ref (q2 5), .ref (q2 6), .int (zl g), .int (nI (zh g))])), (q2 1, .inl ((cy 0), 12, .inl (zb g))), (q2 2, .inl ((cy 0), 12, .inl (zw g))), (q2 3, .inl ((cy 0), 12, .inl (zd g))), (q2 4, .inl ((cy 0), 12, .inl (zs g))), (q2 5, .inl ((cy 0), 12, .inl (zr g))), (q2 6, .inl ((cy 1), 12, .inl (zo g))), (a 3, .inl ((cy 2), 6, .inr (.inr (.inr (.inr (fun i => some (ca i))))))), (ca 0, .inr (0, [.ref (ta 0), .int (nI (ul u 0)), .int (nI (uz u 0))])), (ca 1, .inr (0, [.ref (ta 1), .int (nI (ul u 1)), .int (nI (uz u 1))])), (ca 2, .inr (0, [.ref (ta 2), .int (nI (ul u 2)), .int (nI (uz u 2))])), (ca 3, .inr (0, [.ref (ta 3), .int (nI (ul u 3)), .int (nI (uz u 3))])), (ca 4, .inr (0, [.ref (ta 4), .int (nI (ul u 4)), .int (nI (uz u 4))])), (ca 5, .inr (0, [.ref (ta 5), .int (nI (ul u 5)), .int (nI (uz u 5))])), (ta 0, .inl ((cy 0), 4, .inl (ut u 0))), (ta 1, .inl ((cy 0), 4, .inl (ut u 1))), (ta 2, .inl ((cy 0), 4, .inl (ut u 2))), (ta 3, .inl ((cy 0), 4, .inl (ut u 3))), (ta 4, .inl ((cy 0), 4, .inl (ut u 4))), (ta 5, .inl ((cy 0), 4, .inl (ut u 5))), (o, .inl ((cy 3), 1, .inr (.inl (vp_updL f (0 : Int32).toNatClampNeg 1))))] := hD
      refine lv_goto (tgt := 22) hx hb dL_sounds_16 (by decide) ?_
      refine lv_iconst (v := 0) hx hb dL_sounds_22 (by decide) ?_
      have hP9 : va_P D vwCl (wX cy a q q2 ca ta (u, g, vp_updL f (0 : Int32).toNatClampNeg 1).1 (u, g, vp_updL f (0 : Int32).toNatClampNeg 1).2.1 ++ [(o, .inl (cy 3, 1, .inr (.inl (u, g, vp_updL f (0 : Int32).toNatClampNeg 1).2.2)))]) H := hP
      have hD9 : va_D A (wX cy a q q2 ca ta (u, g, vp_updL f (0 : Int32).toNatClampNeg 1).1 (u, g, vp_updL f (0 : Int32).toNatClampNeg 1).2.1 ++ [(o, .inl (cy 3, 1, .inr (.inl (u, g, vp_updL f (0 : Int32).toNatClampNeg 1).2.2)))]) := hD
      exact W.iret (v := 0) hx hb hr (fun t ht hW => ⟨⟨0, (u, g, vp_updL f (0 : Int32).toNatClampNeg 1), rfl, ⟨by rw [hx9]; rfl, fun _ => ⟨((updL_at (f := f) (x := 1)).trans (by rw [bI_one c7]; rfl)), rfl⟩, fun z => absurd hx9 z⟩, by rw [ht]; exact hP9, hD9⟩, hS.F ht⟩) hS.2.2 dL_sounds_23

theorem kL_steps_0 : (.codeWith yL_steps cL_steps 4 (some .int) [(0, 9, 12, 13)] : Cond) ∈ wsL_steps := by decide +kernel
theorem kL_steps_1 : (.classLink RL 13 "java/lang/IndexOutOfBoundsException" : Cond) ∈ wsL_steps := by decide +kernel
set_option maxHeartbeats 4000000 in
set_option maxRecDepth 100000 in
theorem mL_steps (l : Launch) (hst : l.stackTraces = false) (D : va_G) (cy : Nat → ClassId) (sz : Nat) (a q q2 ca ta : Nat → Nat) (u : US) (g : HS) (hu : uOk u) (o : Nat) (f : Nat → Int64) (v : Int32) : Met l yL_steps wsL_steps ({ frames := 8, cells := 1, slots := 6, locals := 205 } : Room) (va_Pc [.ref (a 0), .int v, .ref o] (fun U => U.heap.size = sz ∧ va_P D vwCl (wX cy a q q2 ca ta u g ++ [(o, .inl (cy 3, 1, .inr (.inl f)))]) U.heap ∧ va_K D vwCl (TY cy) U ∧ va_D (fun _ => True) (wX cy a q q2 ca ta u g ++ [(o, .inl (cy 3, 1, .inr (.inl f)))]) ∧ xC U U.heap ∧ xNc U)) (va_Qi (fun (r8 : Int32) (w9 : US × HS × (Nat → Int64)) => r8 = nI (exC u v) ∧ (exC u v = 0 → w9.2.2 0 = (fewS u (ix v)).toInt64 ∧ w9.1 = u) ∧ (¬ exC u v = 0 → w9.1 = u)) (fun (w9 : US × HS × (Nat → Int64)) t => va_P D vwCl (wX cy a q q2 ca ta w9.1 w9.2.1 ++ [(o, .inl (cy 3, 1, .inr (.inl w9.2.2)))]) t.heap ∧ va_D (va_A (wX cy a q q2 ca ta u g ++ [(o, .inl (cy 3, 1, .inr (.inl f)))]) sz) (wX cy a q q2 ca ta w9.1 w9.2.1 ++ [(o, .inl (cy 3, 1, .inr (.inl w9.2.2)))])) (va_A (wX cy a q q2 ca ta u g ++ [(o, .inl (cy 3, 1, .inr (.inl f)))]) sz)) 1 6 (va_A (wX cy a q q2 ca ta u g ++ [(o, .inl (cy 3, 1, .inr (.inl f)))]) sz) := by
  refine pl_ofWH (cc := cL_steps) (maxL := 4) (ret := (some .int)) (hh := [(0, 9, 12, 13)]) (by decide) rfl ?_
  intro p e s m args below meth c s₁ B hml hv
  obtain ⟨rfl, hsz, hP, hK, hD0, hX, hNc⟩ := hv
  have hx := B.exec
  have hb := B.bytes
  have hr := B.returns
  have hts := atoms_spec (ws := wsL_steps) B.pre
  have hown : s.vm.findClass RL = some m.cls := findClass_of_methodNamed B.named
  have hlocks := B.notSynchronized
  have hl := lv_entry ([.ref (a 0), .int v, .ref o]) (n := 4) (Nat.le_of_ble_eq_true rfl)
  rw [lg_entry_eq]
  generalize (lg_sl ([.ref (a 0), .int v, .ref o]) ++ List.replicate (4 - (lg_sl ([.ref (a 0), .int v, .ref o])).length) Slot.unset).toArray = ls at hl ⊢
  have hl : lv_has ls 4 [(0, .ref (a 0)), (1, .int v), (2, .ref o)] := hl
  subst hsz
  have hD := hD0.self (sz := s.heap.size)
  generalize hAe : va_A (wX cy a q q2 ca ta u g ++ [(o, .inl (cy 3, 1, .inr (.inl f)))]) s.heap.size = A at hD ⊢
  have hA : ∀ q : Nat, s.heap.size ≤ q → A q := fun q h => by rw [← hAe]; exact Or.inr h
  have hS : va_S A s.heap s.heap [] := va_S.rf
  have hP : va_P D vwCl (wX cy a q q2 ca ta u g ++ [(o, .inl (cy 3, 1, .inr (.inl f)))]) s.heap := hP
  have hT := vx_table (x := yL_steps) B (hts _ kL_steps_0)
  refine lv_aload_n hx hb dL_steps_0 rfl (lv_at hl 2 rfl) ?_
  refine lv_iconst (v := 0) hx hb dL_steps_1 (by decide) ?_
  refine lv_aload_n hx hb dL_steps_2 rfl (lv_at hl 0 rfl) ?_
  refine lv_iload_n hx hb dL_steps_3 rfl (lv_at hl 1 rfl) ?_
  have hPc := hP.sub (ws' := wX cy a q q2 ca ta u g) [0, 1, 2, 3, 4, 5, 6, 7, 8, 9, 10, 11, 12, 13, 14, 15, 16, 17, 18, 19, 20, 21, 22, 23, 24, 25, 26, 27, 28, 29] rfl
  refine px_calli (vx_runV (As := [.int v]) (rest := [.int 0, .ref o]) ⟨hx, hb, hml, hown, hts⟩ (mX2_steps l hst D cy a q q2 ca ta u g hu v) (cwV 1 hts gL_steps_X2_steps rfl rfl rfl (by decide +kernel) ⟨Nat.le_of_ble_eq_true rfl, Nat.le_of_ble_eq_true rfl⟩) ⟨fun a U g mk q => ⟨q.1, q.2.1, va_K.moved (u := U) (U := U.calling g mk a) (Vm.Alike.refl U.vm) q.2.2.1, xC.warm (State.WarmedH.refl U) q.2.2.2⟩, va_recv hK hPc (ci := 2) (q0 := 0) rfl rfl, fun U hU hW => ⟨rfl, by rw [hU]; exact hPc, va_K.moved hW.alike hK, (show xC U U.heap by rw [hU]; exact hX.warm hW)⟩⟩ rfl rfl hl.1 rfl (lv_room (Nat.le_of_ble_eq_true rfl)) dL_steps_4 ⟨Nat.le_of_ble_eq_true rfl, Nat.le_of_ble_eq_true rfl⟩) (fun E9 ce9 q9 H9 hE9 h19 h29 hce9 hcv9 hcl9 => ?_) (fun r9 hw9 => ?_)
  · have hP : va_P D vwCl (wX cy a q q2 ca ta u g ++ [(o, .inl (cy 3, 1, .inr (.inl f)))]) H9 := hP.kept (fun k q hk => h29 q.1 (hP k q hk).lt)
    have hS : va_S A s.heap H9 [] := ⟨h19, fun q hq _ => h29 q hq, fun _ h => absurd h List.not_mem_nil⟩
    have hle9 := exC_le u v
    have hx9 : exC u v = 1 := by have := hE9.2; omega
    rw [hx9] at hE9
    obtain rfl : E9 = xI := hE9.1
    refine vx_catch (name := xI) hown [] ⟨0, 9, 12, 13⟩ [] (by rw [hT]; rfl) (fun _ hz => absurd hz List.not_mem_nil) (by decide) (by decide) (hts _ kL_steps_1) (xC.cast hX xI_in) hce9 hcv9 hcl9 ?_
    refine W.widen (k := 1) (n := 6) (Nat.le_of_ble_eq_true rfl) (Nat.le_of_ble_eq_true rfl) ?_
    refine lv_astore_n (lv' := [(3, .ref q9), (0, .ref (a 0)), (1, .int v), (2, .ref o)]) hx hb dL_steps_12 rfl hl (by decide) rfl (fun ls hl => ?_)
    refine lv_iconst (v := 1) hx hb dL_steps_13 (by decide) ?_
    have hP9 : va_P D vwCl (wX cy a q q2 ca ta (u, g, f).1 (u, g, f).2.1 ++ [(o, .inl (cy 3, 1, .inr (.inl (u, g, f).2.2)))]) H9 := hP
    have hD9 : va_D A (wX cy a q q2 ca ta (u, g, f).1 (u, g, f).2.1 ++ [(o, .inl (cy 3, 1, .inr (.inl (u, g, f).2.2)))]) := hD
    exact W.iret (v := 1) hx hb hr (fun t ht hW => ⟨⟨1, (u, g, f), rfl, ⟨by rw [hx9]; rfl, fun z => absurd (hx9.symm.trans z) (by decide), fun _ => rfl⟩, by rw [ht]; exact hP9, hD9⟩, hS.F ht⟩) hS.2.2 dL_steps_14
  · clear hPc
    obtain ⟨hx9, hw9⟩ := hw9
    subst hw9
    refine W.widen (k := 1) (n := 6) (Nat.le_of_ble_eq_true rfl) (Nat.le_of_ble_eq_true rfl) ?_
    refine lv_i2l (v := (fewS u (ix v)).toInt64) hx hb dL_steps_7 rfl ?_
    refine va_last hx hb hK hP hD hS 30 3 rfl rfl (i := 0) (show vp_in (0 : Int32) 1 from vp_in_nI (by decide) (by decide)) dL_steps_8 (fun H locs hP hD hS => ?_)
    have hP : va_P D vwCl [(a 0, .inr (2, [.ref (q 0), .ref (q2 0), .ref (a 1), .ref (a 2), .ref (a 3), .int (nI (un u))])), (a 1, .inl ((cy 0), 12, .inl (uw u))), (a 2, .inl ((cy 0), 12, .inl (ud u))), (q 0, .inr (1, [.ref (q 1), .ref (q 2), .ref (q 3), .ref (q 4), .ref (q 5), .ref (q 6), .int (zl (uh u)), .int (nI (zh (uh u)))])), (q 1, .inl ((cy 0), 12, .inl (zb (uh u)))), (q 2, .inl ((cy 0), 12, .inl (zw (uh u)))), (q 3, .inl ((cy 0), 12, .inl (zd (uh u)))), (q 4, .inl ((cy 0), 12, .inl (zs (uh u)))), (q 5, .inl ((cy 0), 12, .inl (zr (uh u)))), (q 6, .inl ((cy 1), 12, .inl (zo (uh u)))), (q2 0, .inr (1, [.ref (q2 1), .ref (q2 2), .ref (q2 3), .ref (q2 4), .ref (q2 5), .ref (q2 6), .int (zl g), .int (nI (zh g))])), (q2 1, .inl ((cy 0), 12, .inl (zb g))), (q2 2, .inl ((cy 0), 12, .inl (zw g))), (q2 3, .inl ((cy 0), 12, .inl (zd g))), (q2 4, .inl ((cy 0), 12, .inl (zs g))), (q2 5, .inl ((cy 0), 12, .inl (zr g))), (q2 6, .inl ((cy 1), 12, .inl (zo g))), (a 3, .inl ((cy 2), 6, .inr (.inr (.inr (.inr (fun i => some (ca i))))))), (ca 0, .inr (0, [.ref (ta 0), .int (nI (ul u 0)), .int (nI (uz u 0))])), (ca 1, .inr (0, [.ref (ta 1), .int (nI (ul u 1)), .int (nI (uz u 1))])), (ca 2, .inr (0, [.ref (ta 2), .int (nI (ul u 2)), .int (nI (uz u 2))])), (ca 3, .inr (0, [.ref (ta 3), .int (nI (ul u 3)), .int (nI (uz u 3))])), (ca 4, .inr (0, [.ref (ta 4), .int (nI (ul u 4)), .int (nI (uz u 4))])), (ca 5, .inr (0, [.ref (ta 5), .int (nI (ul u 5)), .int (nI (uz u 5))])), (ta 0, .inl ((cy 0), 4, .inl (ut u 0))), (ta 1, .inl ((cy 0), 4, .inl (ut u 1))), (ta 2, .inl ((cy 0), 4, .inl (ut u 2))), (ta 3, .inl ((cy 0), 4, .inl (ut u 3))), (ta 4, .inl ((cy 0), 4, .inl (ut u 4))), (ta 5, .inl ((cy 0), 4, .inl (ut u 5))), (o, .inl ((cy 3), 1, .inr (.inl (vp_updL f (0 : Int32).toNatClampNeg ((fewS u (ix v)).toInt64)))))] H := hP
    have hD : va_D A [(a 0, .inr (2, [.ref (q 0), .ref (q2 0), .ref (a 1), .ref (a 2), .ref (a 3), .int (nI (un u))])), (a 1, .inl ((cy 0), 12, .inl (uw u))), (a 2, .inl ((cy 0), 12, .inl (ud u))), (q 0, .inr (1, [.ref (q 1), .ref (q 2), .ref (q 3), .ref (q 4), .ref (q 5), .ref (q 6), .int (zl (uh u)), .int (nI (zh (uh u)))])), (q 1, .inl ((cy 0), 12, .inl (zb (uh u)))), (q 2, .inl ((cy 0), 12, .inl (zw (uh u)))), (q 3, .inl ((cy 0), 12, .inl (zd (uh u)))), (q 4, .inl ((cy 0), 12, .inl (zs (uh u)))), (q 5, .inl ((cy 0), 12, .inl (zr (uh u)))), (q 6, .inl ((cy 1), 12, .inl (zo (uh u)))), (q2 0, .inr (1, [.ref (q2 1), .ref (q2 2), .ref (q2 3), .ref (q2 4), .ref (q2 5), .ref (q2 6), .int (zl g), .int (nI (zh g))])), (q2 1, .inl ((cy 0), 12, .inl (zb g))), (q2 2, .inl ((cy 0), 12, .inl (zw g))), (q2 3, .inl ((cy 0), 12, .inl (zd g))), (q2 4, .inl ((cy 0), 12, .inl (zs g))), (q2 5, .inl ((cy 0), 12, .inl (zr g))), (q2 6, .inl ((cy 1), 12, .inl (zo g))), (a 3, .inl ((cy 2), 6, .inr (.inr (.inr (.inr (fun i => some (ca i))))))), (ca 0, .inr (0, [.ref (ta 0), .int (nI (ul u 0)), .int (nI (uz u 0))])), (ca 1, .inr (0, [.ref (ta 1), .int (nI (ul u 1)), .int (nI (uz u 1))])), (ca 2, .inr (0, [.ref (ta 2), .int (nI (ul u 2)), .int (nI (uz u 2))])), (ca 3, .inr (0, [.ref (ta 3), .int (nI (ul u 3)), .int (nI (uz u 3))])), (ca 4, .inr (0, [.ref (ta 4), .int (nI (ul u 4)), .int (nI (uz u 4))])), (ca 5, .inr (0, [.ref (ta 5), .int (nI (ul u 5)), .int (nI (uz u 5))])), (ta 0, .inl ((cy 0), 4, .inl (ut u 0))), (ta 1, .inl ((cy 0), 4, .inl (ut u 1))), (ta 2, .inl ((cy 0), 4, .inl (ut u 2))), (ta 3, .inl ((cy 0), 4, .inl (ut u 3))), (ta 4, .inl ((cy 0), 4, .inl (ut u 4))), (ta 5, .inl ((cy 0), 4, .inl (ut u 5))), (o, .inl ((cy 3), 1, .inr (.inl (vp_updL f (0 : Int32).toNatClampNeg ((fewS u (ix v)).toInt64)))))] := hD
    refine lv_goto (tgt := 15) hx hb dL_steps_9 (by decide) ?_
    refine lv_iconst (v := 0) hx hb dL_steps_15 (by decide) ?_
    have hP9 : va_P D vwCl (wX cy a q q2 ca ta (u, g, vp_updL f (0 : Int32).toNatClampNeg ((fewS u (ix v)).toInt64)).1 (u, g, vp_updL f (0 : Int32).toNatClampNeg ((fewS u (ix v)).toInt64)).2.1 ++ [(o, .inl (cy 3, 1, .inr (.inl (u, g, vp_updL f (0 : Int32).toNatClampNeg ((fewS u (ix v)).toInt64)).2.2)))]) H := hP
    have hD9 : va_D A (wX cy a q q2 ca ta (u, g, vp_updL f (0 : Int32).toNatClampNeg ((fewS u (ix v)).toInt64)).1 (u, g, vp_updL f (0 : Int32).toNatClampNeg ((fewS u (ix v)).toInt64)).2.1 ++ [(o, .inl (cy 3, 1, .inr (.inl (u, g, vp_updL f (0 : Int32).toNatClampNeg ((fewS u (ix v)).toInt64)).2.2)))]) := hD
    exact W.iret (v := 0) hx hb hr (fun t ht hW => ⟨⟨0, (u, g, vp_updL f (0 : Int32).toNatClampNeg ((fewS u (ix v)).toInt64)), rfl, ⟨by rw [hx9]; rfl, fun _ => ⟨(updL_at (f := f) (x := (fewS u (ix v)).toInt64)), rfl⟩, fun z => absurd hx9 z⟩, by rw [ht]; exact hP9, hD9⟩, hS.F ht⟩) hS.2.2 dL_steps_16

theorem kL_pass_0 : (.codeWith yL_pass cL_pass 4 (some .int) [(0, 9, 12, 15)] : Cond) ∈ wsL_pass := by decide +kernel
theorem kL_pass_1 : (.classLink RL 15 "java/lang/IllegalArgumentException" : Cond) ∈ wsL_pass := by decide +kernel
set_option maxHeartbeats 4000000 in
set_option maxRecDepth 100000 in
theorem mL_pass (l : Launch) (hst : l.stackTraces = false) (D : va_G) (cy : Nat → ClassId) (sz : Nat) (a q q2 ca ta : Nat → Nat) (u : US) (g : HS) (hu : uOk u) (o : Nat) (f : Nat → Int64) (v : Int32) : Met l yL_pass wsL_pass ({ frames := 8, cells := 1, slots := 6, locals := 125 } : Room) (va_Pc [.ref (a 0), .int v, .ref o] (fun U => U.heap.size = sz ∧ va_P D vwCl (wX cy a q q2 ca ta u g ++ [(o, .inl (cy 3, 1, .inr (.inl f)))]) U.heap ∧ va_K D vwCl (TY cy) U ∧ va_D (fun _ => True) (wX cy a q q2 ca ta u g ++ [(o, .inl (cy 3, 1, .inr (.inl f)))]) ∧ xC U U.heap ∧ xNc U)) (va_Qi (fun (r8 : Int32) (w9 : US × HS × (Nat → Int64)) => r8 = nI (exPass v) ∧ (exPass v = 0 → w9.2.2 0 = (nI (passB (uw u) (ud u) (uh u) (ix v))).toInt64 ∧ w9.1 = (uH u (hN 0 12 (uw u) (ud u) (uh u) (ix v)))) ∧ (¬ exPass v = 0 → w9.1 = u)) (fun (w9 : US × HS × (Nat → Int64)) t => va_P D vwCl (wX cy a q q2 ca ta w9.1 w9.2.1 ++ [(o, .inl (cy 3, 1, .inr (.inl w9.2.2)))]) t.heap ∧ va_D (va_A (wX cy a q q2 ca ta u g ++ [(o, .inl (cy 3, 1, .inr (.inl f)))]) sz) (wX cy a q q2 ca ta w9.1 w9.2.1 ++ [(o, .inl (cy 3, 1, .inr (.inl w9.2.2)))])) (va_A (wX cy a q q2 ca ta u g ++ [(o, .inl (cy 3, 1, .inr (.inl f)))]) sz)) 1 6 (va_A (wX cy a q q2 ca ta u g ++ [(o, .inl (cy 3, 1, .inr (.inl f)))]) sz) := by
  refine pl_ofWH (cc := cL_pass) (maxL := 4) (ret := (some .int)) (hh := [(0, 9, 12, 15)]) (by decide) rfl ?_
  intro p e s m args below meth c s₁ B hml hv
  obtain ⟨rfl, hsz, hP, hK, hD0, hX, hNc⟩ := hv
  have hx := B.exec
  have hb := B.bytes
  have hr := B.returns
  have hts := atoms_spec (ws := wsL_pass) B.pre
  have hown : s.vm.findClass RL = some m.cls := findClass_of_methodNamed B.named
  have hlocks := B.notSynchronized
  have hl := lv_entry ([.ref (a 0), .int v, .ref o]) (n := 4) (Nat.le_of_ble_eq_true rfl)
  rw [lg_entry_eq]
  generalize (lg_sl ([.ref (a 0), .int v, .ref o]) ++ List.replicate (4 - (lg_sl ([.ref (a 0), .int v, .ref o])).length) Slot.unset).toArray = ls at hl ⊢
  have hl : lv_has ls 4 [(0, .ref (a 0)), (1, .int v), (2, .ref o)] := hl
  subst hsz
  have hD := hD0.self (sz := s.heap.size)
  generalize hAe : va_A (wX cy a q q2 ca ta u g ++ [(o, .inl (cy 3, 1, .inr (.inl f)))]) s.heap.size = A at hD ⊢
  have hA : ∀ q : Nat, s.heap.size ≤ q → A q := fun q h => by rw [← hAe]; exact Or.inr h
  have hS : va_S A s.heap s.heap [] := va_S.rf
  have hP : va_P D vwCl (wX cy a q q2 ca ta u g ++ [(o, .inl (cy 3, 1, .inr (.inl f)))]) s.heap := hP
  have hT := vx_table (x := yL_pass) B (hts _ kL_pass_0)
  refine lv_aload_n hx hb dL_pass_0 rfl (lv_at hl 2 rfl) ?_
  refine lv_iconst (v := 0) hx hb dL_pass_1 (by decide) ?_
  refine lv_aload_n hx hb dL_pass_2 rfl (lv_at hl 0 rfl) ?_
  refine lv_iload_n hx hb dL_pass_3 rfl (lv_at hl 1 rfl) ?_
  have hPc := hP.sub (ws' := wX cy a q q2 ca ta u g) [0, 1, 2, 3, 4, 5, 6, 7, 8, 9, 10, 11, 12, 13, 14, 15, 16, 17, 18, 19, 20, 21, 22, 23, 24, 25, 26, 27, 28, 29] rfl
  have hDc := hD.sub (ws' := wX cy a q q2 ca ta u g) [0, 1, 2, 3, 4, 5, 6, 7, 8, 9, 10, 11, 12, 13, 14, 15, 16, 17, 18, 19, 20, 21, 22, 23, 24, 25, 26, 27, 28, 29] (by decide) rfl
  have hFc := va_free (wc := wX cy a q q2 ca ta u g) hD hS hA [0, 1, 2, 3, 4, 5, 6, 7, 8, 9, 10, 11, 12, 13, 14, 15, 16, 17, 18, 19, 20, 21, 22, 23, 24, 25, 26, 27, 28, 29] rfl
  refine px_callw (vx_runV (As := [.int v]) (rest := [.int 0, .ref o]) ⟨hx, hb, hml, hown, hts⟩ (mX2_pass l hst D cy s.heap.size a q q2 ca ta u g hu v) (cwV 1 hts gL_pass_X2_pass rfl rfl rfl (by decide +kernel) ⟨Nat.le_of_ble_eq_true rfl, Nat.le_of_ble_eq_true rfl⟩) ⟨fun a U g mk q => ⟨q.1, q.2.1, q.2.2.1, va_K.moved (u := U) (U := U.calling g mk a) (Vm.Alike.refl U.vm) q.2.2.2.1, q.2.2.2.2.1, xC.warm (State.WarmedH.refl U) q.2.2.2.2.2⟩, va_recv hK hPc (ci := 2) (q0 := 0) rfl rfl, fun U hU hW => ⟨rfl, by rw [hU], by rw [hU]; exact hPc, va_K.moved hW.alike hK, hDc.weaken (fun _ _ _ _ => trivial), (show xC U U.heap by rw [hU]; exact hX.warm hW)⟩⟩ rfl rfl hl.1 rfl (lv_room (Nat.le_of_ble_eq_true rfl)) dL_pass_4 ⟨Nat.le_of_ble_eq_true rfl, Nat.le_of_ble_eq_true rfl⟩) hS (fun q _ h => hFc q h) hFc (fun E9 ce9 q9 H9 locs9 hE9 h19 h29 hS9 hce9 hcv9 hcl9 => ?_) (fun r9 u9 t9 H1 locs ht9 hvm9 hw9 hB9 hz9 hk9 hS => ?_)
  · have hP : va_P D vwCl (wX cy a q q2 ca ta u g ++ [(o, .inl (cy 3, 1, .inr (.inl f)))]) H9 := hP.kept (fun k q hk => h29 q.1 (hP k q hk).lt)
    have hS := hS9
    have hle9 := exPass_le v
    have hx9 : exPass v = 1 := by have := hE9.2; omega
    rw [hx9] at hE9
    obtain rfl : E9 = xA := hE9.1
    refine vx_catch (name := xA) hown [] ⟨0, 9, 12, 15⟩ [] (by rw [hT]; rfl) (fun _ hz => absurd hz List.not_mem_nil) (by decide) (by decide) (hts _ kL_pass_1) (xC.cast hX xA_in) hce9 hcv9 hcl9 ?_
    refine W.widen (k := 1) (n := 6) (Nat.le_of_ble_eq_true rfl) (Nat.le_of_ble_eq_true rfl) ?_
    refine lv_astore_n (lv' := [(3, .ref q9), (0, .ref (a 0)), (1, .int v), (2, .ref o)]) hx hb dL_pass_12 rfl hl (by decide) rfl (fun ls hl => ?_)
    refine lv_iconst (v := 1) hx hb dL_pass_13 (by decide) ?_
    have hP9 : va_P D vwCl (wX cy a q q2 ca ta (u, g, f).1 (u, g, f).2.1 ++ [(o, .inl (cy 3, 1, .inr (.inl (u, g, f).2.2)))]) H9 := hP
    have hD9 : va_D A (wX cy a q q2 ca ta (u, g, f).1 (u, g, f).2.1 ++ [(o, .inl (cy 3, 1, .inr (.inl (u, g, f).2.2)))]) := hD
    exact W.iret (v := 1) hx hb hr (fun t ht hW => ⟨⟨1, (u, g, f), rfl, ⟨by rw [hx9]; rfl, fun z => absurd (hx9.symm.trans z) (by decide), fun _ => rfl⟩, by rw [ht]; exact hP9, hD9⟩, hS.F ht⟩) hS.2.2 dL_pass_14
  · obtain ⟨hP1, hD1⟩ := hB9
    rw [ht9] at hP1
    obtain ⟨hP, hD⟩ := va_join (wr := [(o, .inl ((cy 3), 1, .inr (.inl f)))]) (w1 := wX cy a q q2 ca ta (uH u (hN 0 12 (uw u) (ud u) (uh u) (ix v))) g) hP hD [0, 1, 2, 3, 4, 5, 6, 7, 8, 9, 10, 11, 12, 13, 14, 15, 16, 17, 18, 19, 20, 21, 22, 23, 24, 25, 26, 27, 28, 29] [30] rfl rfl (by decide) (by decide) hk9 hFc hP1 hD1
    generalize H1 = H at hP hS ⊢
    have hP : va_P D vwCl (wX cy a q q2 ca ta (uH u (hN 0 12 (uw u) (ud u) (uh u) (ix v))) g ++ [(o, .inl (cy 3, 1, .inr (.inl f)))]) H := hP.sub [1, 2, 3, 4, 5, 6, 7, 8, 9, 10, 11, 12, 13, 14, 15, 16, 17, 18, 19, 20, 21, 22, 23, 24, 25, 26, 27, 28, 29, 30, 0] rfl
    have hD : va_D A (wX cy a q q2 ca ta (uH u (hN 0 12 (uw u) (ud u) (uh u) (ix v))) g ++ [(o, .inl (cy 3, 1, .inr (.inl f)))]) := hD.sub [1, 2, 3, 4, 5, 6, 7, 8, 9, 10, 11, 12, 13, 14, 15, 16, 17, 18, 19, 20, 21, 22, 23, 24, 25, 26, 27, 28, 29, 30, 0] (by decide) rfl
    clear hP1 hD1 hk9 hz9 ht9 hvm9 hPc hDc hFc
    obtain ⟨hx9, hw9⟩ := hw9
    subst hw9
    refine W.widen (k := 1) (n := 6) (Nat.le_of_ble_eq_true rfl) (Nat.le_of_ble_eq_true rfl) ?_
    refine lv_i2l (v := (nI (passB (uw u) (ud u) (uh u) (ix v))).toInt64) hx hb dL_pass_7 rfl ?_
    refine va_last hx hb hK hP hD hS 30 3 rfl rfl (i := 0) (show vp_in (0 : Int32) 1 from vp_in_nI (by decide) (by decide)) dL_pass_8 (fun H locs hP hD hS => ?_)
    have hP : va_P D vwCl [(a 0, .inr (2, [.ref (q 0), .ref (q2 0), .ref (a 1), .ref (a 2), .ref (a 3), .int (nI (un u))])), (a 1, .inl ((cy 0), 12, .inl (uw u))), (a 2, .inl ((cy 0), 12, .inl (ud u))), (q 0, .inr (1, [.ref (q 1), .ref (q 2), .ref (q 3), .ref (q 4), .ref (q 5), .ref (q 6), .int (zl (hN 0 12 (uw u) (ud u) (uh u) (ix v))), .int (nI (zh (hN 0 12 (uw u) (ud u) (uh u) (ix v))))])), (q 1, .inl ((cy 0), 12, .inl (zb (hN 0 12 (uw u) (ud u) (uh u) (ix v))))), (q 2, .inl ((cy 0), 12, .inl (zw (hN 0 12 (uw u) (ud u) (uh u) (ix v))))), (q 3, .inl ((cy 0), 12, .inl (zd (hN 0 12 (uw u) (ud u) (uh u) (ix v))))), (q 4, .inl ((cy 0), 12, .inl (zs (hN 0 12 (uw u) (ud u) (uh u) (ix v))))), (q 5, .inl ((cy 0), 12, .inl (zr (hN 0 12 (uw u) (ud u) (uh u) (ix v))))), (q 6, .inl ((cy 1), 12, .inl (zo (hN 0 12 (uw u) (ud u) (uh u) (ix v))))), (q2 0, .inr (1, [.ref (q2 1), .ref (q2 2), .ref (q2 3), .ref (q2 4), .ref (q2 5), .ref (q2 6), .int (zl g), .int (nI (zh g))])), (q2 1, .inl ((cy 0), 12, .inl (zb g))), (q2 2, .inl ((cy 0), 12, .inl (zw g))), (q2 3, .inl ((cy 0), 12, .inl (zd g))), (q2 4, .inl ((cy 0), 12, .inl (zs g))), (q2 5, .inl ((cy 0), 12, .inl (zr g))), (q2 6, .inl ((cy 1), 12, .inl (zo g))), (a 3, .inl ((cy 2), 6, .inr (.inr (.inr (.inr (fun i => some (ca i))))))), (ca 0, .inr (0, [.ref (ta 0), .int (nI (ul u 0)), .int (nI (uz u 0))])), (ca 1, .inr (0, [.ref (ta 1), .int (nI (ul u 1)), .int (nI (uz u 1))])), (ca 2, .inr (0, [.ref (ta 2), .int (nI (ul u 2)), .int (nI (uz u 2))])), (ca 3, .inr (0, [.ref (ta 3), .int (nI (ul u 3)), .int (nI (uz u 3))])), (ca 4, .inr (0, [.ref (ta 4), .int (nI (ul u 4)), .int (nI (uz u 4))])), (ca 5, .inr (0, [.ref (ta 5), .int (nI (ul u 5)), .int (nI (uz u 5))])), (ta 0, .inl ((cy 0), 4, .inl (ut u 0))), (ta 1, .inl ((cy 0), 4, .inl (ut u 1))), (ta 2, .inl ((cy 0), 4, .inl (ut u 2))), (ta 3, .inl ((cy 0), 4, .inl (ut u 3))), (ta 4, .inl ((cy 0), 4, .inl (ut u 4))), (ta 5, .inl ((cy 0), 4, .inl (ut u 5))), (o, .inl ((cy 3), 1, .inr (.inl (vp_updL f (0 : Int32).toNatClampNeg ((nI (passB (uw u) (ud u) (uh u) (ix v))).toInt64)))))] H := hP
    have hD : va_D A [(a 0, .inr (2, [.ref (q 0), .ref (q2 0), .ref (a 1), .ref (a 2), .ref (a 3), .int (nI (un u))])), (a 1, .inl ((cy 0), 12, .inl (uw u))), (a 2, .inl ((cy 0), 12, .inl (ud u))), (q 0, .inr (1, [.ref (q 1), .ref (q 2), .ref (q 3), .ref (q 4), .ref (q 5), .ref (q 6), .int (zl (hN 0 12 (uw u) (ud u) (uh u) (ix v))), .int (nI (zh (hN 0 12 (uw u) (ud u) (uh u) (ix v))))])), (q 1, .inl ((cy 0), 12, .inl (zb (hN 0 12 (uw u) (ud u) (uh u) (ix v))))), (q 2, .inl ((cy 0), 12, .inl (zw (hN 0 12 (uw u) (ud u) (uh u) (ix v))))), (q 3, .inl ((cy 0), 12, .inl (zd (hN 0 12 (uw u) (ud u) (uh u) (ix v))))), (q 4, .inl ((cy 0), 12, .inl (zs (hN 0 12 (uw u) (ud u) (uh u) (ix v))))), (q 5, .inl ((cy 0), 12, .inl (zr (hN 0 12 (uw u) (ud u) (uh u) (ix v))))), (q 6, .inl ((cy 1), 12, .inl (zo (hN 0 12 (uw u) (ud u) (uh u) (ix v))))), (q2 0, .inr (1, [.ref (q2 1), .ref (q2 2), .ref (q2 3), .ref (q2 4), .ref (q2 5), .ref (q2 6), .int (zl g), .int (nI (zh g))])), (q2 1, .inl ((cy 0), 12, .inl (zb g))), (q2 2, .inl ((cy 0), 12, .inl (zw g))), (q2 3, .inl ((cy 0), 12, .inl (zd g))), (q2 4, .inl ((cy 0), 12, .inl (zs g))), (q2 5, .inl ((cy 0), 12, .inl (zr g))), (q2 6, .inl ((cy 1), 12, .inl (zo g))), (a 3, .inl ((cy 2), 6, .inr (.inr (.inr (.inr (fun i => some (ca i))))))), (ca 0, .inr (0, [.ref (ta 0), .int (nI (ul u 0)), .int (nI (uz u 0))])), (ca 1, .inr (0, [.ref (ta 1), .int (nI (ul u 1)), .int (nI (uz u 1))])), (ca 2, .inr (0, [.ref (ta 2), .int (nI (ul u 2)), .int (nI (uz u 2))])), (ca 3, .inr (0, [.ref (ta 3), .int (nI (ul u 3)), .int (nI (uz u 3))])), (ca 4, .inr (0, [.ref (ta 4), .int (nI (ul u 4)), .int (nI (uz u 4))])), (ca 5, .inr (0, [.ref (ta 5), .int (nI (ul u 5)), .int (nI (uz u 5))])), (ta 0, .inl ((cy 0), 4, .inl (ut u 0))), (ta 1, .inl ((cy 0), 4, .inl (ut u 1))), (ta 2, .inl ((cy 0), 4, .inl (ut u 2))), (ta 3, .inl ((cy 0), 4, .inl (ut u 3))), (ta 4, .inl ((cy 0), 4, .inl (ut u 4))), (ta 5, .inl ((cy 0), 4, .inl (ut u 5))), (o, .inl ((cy 3), 1, .inr (.inl (vp_updL f (0 : Int32).toNatClampNeg ((nI (passB (uw u) (ud u) (uh u) (ix v))).toInt64)))))] := hD
    refine lv_goto (tgt := 15) hx hb dL_pass_9 (by decide) ?_
    refine lv_iconst (v := 0) hx hb dL_pass_15 (by decide) ?_
    have hP9 : va_P D vwCl (wX cy a q q2 ca ta ((uH u (hN 0 12 (uw u) (ud u) (uh u) (ix v))), g, vp_updL f (0 : Int32).toNatClampNeg ((nI (passB (uw u) (ud u) (uh u) (ix v))).toInt64)).1 ((uH u (hN 0 12 (uw u) (ud u) (uh u) (ix v))), g, vp_updL f (0 : Int32).toNatClampNeg ((nI (passB (uw u) (ud u) (uh u) (ix v))).toInt64)).2.1 ++ [(o, .inl (cy 3, 1, .inr (.inl ((uH u (hN 0 12 (uw u) (ud u) (uh u) (ix v))), g, vp_updL f (0 : Int32).toNatClampNeg ((nI (passB (uw u) (ud u) (uh u) (ix v))).toInt64)).2.2)))]) H := hP
    have hD9 : va_D A (wX cy a q q2 ca ta ((uH u (hN 0 12 (uw u) (ud u) (uh u) (ix v))), g, vp_updL f (0 : Int32).toNatClampNeg ((nI (passB (uw u) (ud u) (uh u) (ix v))).toInt64)).1 ((uH u (hN 0 12 (uw u) (ud u) (uh u) (ix v))), g, vp_updL f (0 : Int32).toNatClampNeg ((nI (passB (uw u) (ud u) (uh u) (ix v))).toInt64)).2.1 ++ [(o, .inl (cy 3, 1, .inr (.inl ((uH u (hN 0 12 (uw u) (ud u) (uh u) (ix v))), g, vp_updL f (0 : Int32).toNatClampNeg ((nI (passB (uw u) (ud u) (uh u) (ix v))).toInt64)).2.2)))]) := hD
    exact W.iret (v := 0) hx hb hr (fun t ht hW => ⟨⟨0, ((uH u (hN 0 12 (uw u) (ud u) (uh u) (ix v))), g, vp_updL f (0 : Int32).toNatClampNeg ((nI (passB (uw u) (ud u) (uh u) (ix v))).toInt64)), rfl, ⟨by rw [hx9]; rfl, fun _ => ⟨(updL_at (f := f) (x := (nI (passB (uw u) (ud u) (uh u) (ix v))).toInt64)), rfl⟩, fun z => absurd hx9 z⟩, by rw [ht]; exact hP9, hD9⟩, hS.F ht⟩) hS.2.2 dL_pass_16

theorem kL_count_0 : (.codeWith yL_count cL_count 4 (some .int) [(0, 9, 12, 13)] : Cond) ∈ wsL_count := by decide +kernel
theorem kL_count_1 : (.classLink RL 13 "java/lang/IndexOutOfBoundsException" : Cond) ∈ wsL_count := by decide +kernel
set_option maxHeartbeats 4000000 in
set_option maxRecDepth 100000 in
theorem mL_count (l : Launch) (hst : l.stackTraces = false) (D : va_G) (cy : Nat → ClassId) (sz : Nat) (a q q2 ca ta : Nat → Nat) (u : US) (g : HS) (hu : uOk u) (o : Nat) (f : Nat → Int64) (v : Int32) : Met l yL_count wsL_count ({ frames := 8, cells := 1, slots := 6, locals := 135 } : Room) (va_Pc [.ref (a 0), .int v, .ref o] (fun U => U.heap.size = sz ∧ va_P D vwCl (wX cy a q q2 ca ta u g ++ [(o, .inl (cy 3, 1, .inr (.inl f)))]) U.heap ∧ va_K D vwCl (TY cy) U ∧ va_D (fun _ => True) (wX cy a q q2 ca ta u g ++ [(o, .inl (cy 3, 1, .inr (.inl f)))]) ∧ xC U U.heap ∧ xNc U)) (va_Qi (fun (r8 : Int32) (w9 : US × HS × (Nat → Int64)) => r8 = nI (exCnt v) ∧ (exCnt v = 0 → w9.2.2 0 = (cntOf u (ix v)).toInt64 ∧ w9.1 = u) ∧ (¬ exCnt v = 0 → w9.1 = u)) (fun (w9 : US × HS × (Nat → Int64)) t => va_P D vwCl (wX cy a q q2 ca ta w9.1 w9.2.1 ++ [(o, .inl (cy 3, 1, .inr (.inl w9.2.2)))]) t.heap ∧ va_D (va_A (wX cy a q q2 ca ta u g ++ [(o, .inl (cy 3, 1, .inr (.inl f)))]) sz) (wX cy a q q2 ca ta w9.1 w9.2.1 ++ [(o, .inl (cy 3, 1, .inr (.inl w9.2.2)))])) (va_A (wX cy a q q2 ca ta u g ++ [(o, .inl (cy 3, 1, .inr (.inl f)))]) sz)) 1 6 (va_A (wX cy a q q2 ca ta u g ++ [(o, .inl (cy 3, 1, .inr (.inl f)))]) sz) := by
  refine pl_ofWH (cc := cL_count) (maxL := 4) (ret := (some .int)) (hh := [(0, 9, 12, 13)]) (by decide) rfl ?_
  intro p e s m args below meth c s₁ B hml hv
  obtain ⟨rfl, hsz, hP, hK, hD0, hX, hNc⟩ := hv
  have hx := B.exec
  have hb := B.bytes
  have hr := B.returns
  have hts := atoms_spec (ws := wsL_count) B.pre
  have hown : s.vm.findClass RL = some m.cls := findClass_of_methodNamed B.named
  have hlocks := B.notSynchronized
  have hl := lv_entry ([.ref (a 0), .int v, .ref o]) (n := 4) (Nat.le_of_ble_eq_true rfl)
  rw [lg_entry_eq]
  generalize (lg_sl ([.ref (a 0), .int v, .ref o]) ++ List.replicate (4 - (lg_sl ([.ref (a 0), .int v, .ref o])).length) Slot.unset).toArray = ls at hl ⊢
  have hl : lv_has ls 4 [(0, .ref (a 0)), (1, .int v), (2, .ref o)] := hl
  subst hsz
  have hD := hD0.self (sz := s.heap.size)
  generalize hAe : va_A (wX cy a q q2 ca ta u g ++ [(o, .inl (cy 3, 1, .inr (.inl f)))]) s.heap.size = A at hD ⊢
  have hA : ∀ q : Nat, s.heap.size ≤ q → A q := fun q h => by rw [← hAe]; exact Or.inr h
  have hS : va_S A s.heap s.heap [] := va_S.rf
  have hP : va_P D vwCl (wX cy a q q2 ca ta u g ++ [(o, .inl (cy 3, 1, .inr (.inl f)))]) s.heap := hP
  have hT := vx_table (x := yL_count) B (hts _ kL_count_0)
  refine lv_aload_n hx hb dL_count_0 rfl (lv_at hl 2 rfl) ?_
  refine lv_iconst (v := 0) hx hb dL_count_1 (by decide) ?_
  refine lv_aload_n hx hb dL_count_2 rfl (lv_at hl 0 rfl) ?_
  refine lv_iload_n hx hb dL_count_3 rfl (lv_at hl 1 rfl) ?_
  have hPc := hP.sub (ws' := wX cy a q q2 ca ta u g) [0, 1, 2, 3, 4, 5, 6, 7, 8, 9, 10, 11, 12, 13, 14, 15, 16, 17, 18, 19, 20, 21, 22, 23, 24, 25, 26, 27, 28, 29] rfl
  refine px_calli (vx_runV (As := [.int v]) (rest := [.int 0, .ref o]) ⟨hx, hb, hml, hown, hts⟩ (mX2_count l hst D cy a q q2 ca ta u g hu v) (cwV 1 hts gL_count_X2_count rfl rfl rfl (by decide +kernel) ⟨Nat.le_of_ble_eq_true rfl, Nat.le_of_ble_eq_true rfl⟩) ⟨fun a U g mk q => ⟨q.1, q.2.1, va_K.moved (u := U) (U := U.calling g mk a) (Vm.Alike.refl U.vm) q.2.2.1, xC.warm (State.WarmedH.refl U) q.2.2.2⟩, va_recv hK hPc (ci := 2) (q0 := 0) rfl rfl, fun U hU hW => ⟨rfl, by rw [hU]; exact hPc, va_K.moved hW.alike hK, (show xC U U.heap by rw [hU]; exact hX.warm hW)⟩⟩ rfl rfl hl.1 rfl (lv_room (Nat.le_of_ble_eq_true rfl)) dL_count_4 ⟨Nat.le_of_ble_eq_true rfl, Nat.le_of_ble_eq_true rfl⟩) (fun E9 ce9 q9 H9 hE9 h19 h29 hce9 hcv9 hcl9 => ?_) (fun r9 hw9 => ?_)
  · have hP : va_P D vwCl (wX cy a q q2 ca ta u g ++ [(o, .inl (cy 3, 1, .inr (.inl f)))]) H9 := hP.kept (fun k q hk => h29 q.1 (hP k q hk).lt)
    have hS : va_S A s.heap H9 [] := ⟨h19, fun q hq _ => h29 q hq, fun _ h => absurd h List.not_mem_nil⟩
    have hle9 := exCnt_le v
    have hx9 : exCnt v = 1 := by have := hE9.2; omega
    rw [hx9] at hE9
    obtain rfl : E9 = xI := hE9.1
    refine vx_catch (name := xI) hown [] ⟨0, 9, 12, 13⟩ [] (by rw [hT]; rfl) (fun _ hz => absurd hz List.not_mem_nil) (by decide) (by decide) (hts _ kL_count_1) (xC.cast hX xI_in) hce9 hcv9 hcl9 ?_
    refine W.widen (k := 1) (n := 6) (Nat.le_of_ble_eq_true rfl) (Nat.le_of_ble_eq_true rfl) ?_
    refine lv_astore_n (lv' := [(3, .ref q9), (0, .ref (a 0)), (1, .int v), (2, .ref o)]) hx hb dL_count_12 rfl hl (by decide) rfl (fun ls hl => ?_)
    refine lv_iconst (v := 1) hx hb dL_count_13 (by decide) ?_
    have hP9 : va_P D vwCl (wX cy a q q2 ca ta (u, g, f).1 (u, g, f).2.1 ++ [(o, .inl (cy 3, 1, .inr (.inl (u, g, f).2.2)))]) H9 := hP
    have hD9 : va_D A (wX cy a q q2 ca ta (u, g, f).1 (u, g, f).2.1 ++ [(o, .inl (cy 3, 1, .inr (.inl (u, g, f).2.2)))]) := hD
    exact W.iret (v := 1) hx hb hr (fun t ht hW => ⟨⟨1, (u, g, f), rfl, ⟨by rw [hx9]; rfl, fun z => absurd (hx9.symm.trans z) (by decide), fun _ => rfl⟩, by rw [ht]; exact hP9, hD9⟩, hS.F ht⟩) hS.2.2 dL_count_14
  · clear hPc
    obtain ⟨hx9, hw9⟩ := hw9
    subst hw9
    refine W.widen (k := 1) (n := 6) (Nat.le_of_ble_eq_true rfl) (Nat.le_of_ble_eq_true rfl) ?_
    refine lv_i2l (v := (cntOf u (ix v)).toInt64) hx hb dL_count_7 rfl ?_
    refine va_last hx hb hK hP hD hS 30 3 rfl rfl (i := 0) (show vp_in (0 : Int32) 1 from vp_in_nI (by decide) (by decide)) dL_count_8 (fun H locs hP hD hS => ?_)
    have hP : va_P D vwCl [(a 0, .inr (2, [.ref (q 0), .ref (q2 0), .ref (a 1), .ref (a 2), .ref (a 3), .int (nI (un u))])), (a 1, .inl ((cy 0), 12, .inl (uw u))), (a 2, .inl ((cy 0), 12, .inl (ud u))), (q 0, .inr (1, [.ref (q 1), .ref (q 2), .ref (q 3), .ref (q 4), .ref (q 5), .ref (q 6), .int (zl (uh u)), .int (nI (zh (uh u)))])), (q 1, .inl ((cy 0), 12, .inl (zb (uh u)))), (q 2, .inl ((cy 0), 12, .inl (zw (uh u)))), (q 3, .inl ((cy 0), 12, .inl (zd (uh u)))), (q 4, .inl ((cy 0), 12, .inl (zs (uh u)))), (q 5, .inl ((cy 0), 12, .inl (zr (uh u)))), (q 6, .inl ((cy 1), 12, .inl (zo (uh u)))), (q2 0, .inr (1, [.ref (q2 1), .ref (q2 2), .ref (q2 3), .ref (q2 4), .ref (q2 5), .ref (q2 6), .int (zl g), .int (nI (zh g))])), (q2 1, .inl ((cy 0), 12, .inl (zb g))), (q2 2, .inl ((cy 0), 12, .inl (zw g))), (q2 3, .inl ((cy 0), 12, .inl (zd g))), (q2 4, .inl ((cy 0), 12, .inl (zs g))), (q2 5, .inl ((cy 0), 12, .inl (zr g))), (q2 6, .inl ((cy 1), 12, .inl (zo g))), (a 3, .inl ((cy 2), 6, .inr (.inr (.inr (.inr (fun i => some (ca i))))))), (ca 0, .inr (0, [.ref (ta 0), .int (nI (ul u 0)), .int (nI (uz u 0))])), (ca 1, .inr (0, [.ref (ta 1), .int (nI (ul u 1)), .int (nI (uz u 1))])), (ca 2, .inr (0, [.ref (ta 2), .int (nI (ul u 2)), .int (nI (uz u 2))])), (ca 3, .inr (0, [.ref (ta 3), .int (nI (ul u 3)), .int (nI (uz u 3))])), (ca 4, .inr (0, [.ref (ta 4), .int (nI (ul u 4)), .int (nI (uz u 4))])), (ca 5, .inr (0, [.ref (ta 5), .int (nI (ul u 5)), .int (nI (uz u 5))])), (ta 0, .inl ((cy 0), 4, .inl (ut u 0))), (ta 1, .inl ((cy 0), 4, .inl (ut u 1))), (ta 2, .inl ((cy 0), 4, .inl (ut u 2))), (ta 3, .inl ((cy 0), 4, .inl (ut u 3))), (ta 4, .inl ((cy 0), 4, .inl (ut u 4))), (ta 5, .inl ((cy 0), 4, .inl (ut u 5))), (o, .inl ((cy 3), 1, .inr (.inl (vp_updL f (0 : Int32).toNatClampNeg ((cntOf u (ix v)).toInt64)))))] H := hP
    have hD : va_D A [(a 0, .inr (2, [.ref (q 0), .ref (q2 0), .ref (a 1), .ref (a 2), .ref (a 3), .int (nI (un u))])), (a 1, .inl ((cy 0), 12, .inl (uw u))), (a 2, .inl ((cy 0), 12, .inl (ud u))), (q 0, .inr (1, [.ref (q 1), .ref (q 2), .ref (q 3), .ref (q 4), .ref (q 5), .ref (q 6), .int (zl (uh u)), .int (nI (zh (uh u)))])), (q 1, .inl ((cy 0), 12, .inl (zb (uh u)))), (q 2, .inl ((cy 0), 12, .inl (zw (uh u)))), (q 3, .inl ((cy 0), 12, .inl (zd (uh u)))), (q 4, .inl ((cy 0), 12, .inl (zs (uh u)))), (q 5, .inl ((cy 0), 12, .inl (zr (uh u)))), (q 6, .inl ((cy 1), 12, .inl (zo (uh u)))), (q2 0, .inr (1, [.ref (q2 1), .ref (q2 2), .ref (q2 3), .ref (q2 4), .ref (q2 5), .ref (q2 6), .int (zl g), .int (nI (zh g))])), (q2 1, .inl ((cy 0), 12, .inl (zb g))), (q2 2, .inl ((cy 0), 12, .inl (zw g))), (q2 3, .inl ((cy 0), 12, .inl (zd g))), (q2 4, .inl ((cy 0), 12, .inl (zs g))), (q2 5, .inl ((cy 0), 12, .inl (zr g))), (q2 6, .inl ((cy 1), 12, .inl (zo g))), (a 3, .inl ((cy 2), 6, .inr (.inr (.inr (.inr (fun i => some (ca i))))))), (ca 0, .inr (0, [.ref (ta 0), .int (nI (ul u 0)), .int (nI (uz u 0))])), (ca 1, .inr (0, [.ref (ta 1), .int (nI (ul u 1)), .int (nI (uz u 1))])), (ca 2, .inr (0, [.ref (ta 2), .int (nI (ul u 2)), .int (nI (uz u 2))])), (ca 3, .inr (0, [.ref (ta 3), .int (nI (ul u 3)), .int (nI (uz u 3))])), (ca 4, .inr (0, [.ref (ta 4), .int (nI (ul u 4)), .int (nI (uz u 4))])), (ca 5, .inr (0, [.ref (ta 5), .int (nI (ul u 5)), .int (nI (uz u 5))])), (ta 0, .inl ((cy 0), 4, .inl (ut u 0))), (ta 1, .inl ((cy 0), 4, .inl (ut u 1))), (ta 2, .inl ((cy 0), 4, .inl (ut u 2))), (ta 3, .inl ((cy 0), 4, .inl (ut u 3))), (ta 4, .inl ((cy 0), 4, .inl (ut u 4))), (ta 5, .inl ((cy 0), 4, .inl (ut u 5))), (o, .inl ((cy 3), 1, .inr (.inl (vp_updL f (0 : Int32).toNatClampNeg ((cntOf u (ix v)).toInt64)))))] := hD
    refine lv_goto (tgt := 15) hx hb dL_count_9 (by decide) ?_
    refine lv_iconst (v := 0) hx hb dL_count_15 (by decide) ?_
    have hP9 : va_P D vwCl (wX cy a q q2 ca ta (u, g, vp_updL f (0 : Int32).toNatClampNeg ((cntOf u (ix v)).toInt64)).1 (u, g, vp_updL f (0 : Int32).toNatClampNeg ((cntOf u (ix v)).toInt64)).2.1 ++ [(o, .inl (cy 3, 1, .inr (.inl (u, g, vp_updL f (0 : Int32).toNatClampNeg ((cntOf u (ix v)).toInt64)).2.2)))]) H := hP
    have hD9 : va_D A (wX cy a q q2 ca ta (u, g, vp_updL f (0 : Int32).toNatClampNeg ((cntOf u (ix v)).toInt64)).1 (u, g, vp_updL f (0 : Int32).toNatClampNeg ((cntOf u (ix v)).toInt64)).2.1 ++ [(o, .inl (cy 3, 1, .inr (.inl (u, g, vp_updL f (0 : Int32).toNatClampNeg ((cntOf u (ix v)).toInt64)).2.2)))]) := hD
    exact W.iret (v := 0) hx hb hr (fun t ht hW => ⟨⟨0, (u, g, vp_updL f (0 : Int32).toNatClampNeg ((cntOf u (ix v)).toInt64)), rfl, ⟨by rw [hx9]; rfl, fun _ => ⟨(updL_at (f := f) (x := (cntOf u (ix v)).toInt64)), rfl⟩, fun z => absurd hx9 z⟩, by rw [ht]; exact hP9, hD9⟩, hS.F ht⟩) hS.2.2 dL_count_16

theorem kL_bears_0 : (.codeWith yL_bears cL_bears 4 (some .int) [(0, 9, 12, 13)] : Cond) ∈ wsL_bears := by decide +kernel
theorem kL_bears_1 : (.classLink RL 13 "java/lang/IndexOutOfBoundsException" : Cond) ∈ wsL_bears := by decide +kernel
set_option maxHeartbeats 4000000 in
set_option maxRecDepth 100000 in
theorem mL_bears (l : Launch) (hst : l.stackTraces = false) (D : va_G) (cy : Nat → ClassId) (sz : Nat) (a q q2 ca ta : Nat → Nat) (u : US) (g : HS) (hu : uOk u) (o : Nat) (f : Nat → Int64) (k : Int32) : Met l yL_bears wsL_bears ({ frames := 8, cells := 1, slots := 6, locals := 124 } : Room) (va_Pc [.ref (a 0), .int k, .ref o] (fun U => U.heap.size = sz ∧ va_P D vwCl (wX cy a q q2 ca ta u g ++ [(o, .inl (cy 3, 1, .inr (.inl f)))]) U.heap ∧ va_K D vwCl (TY cy) U ∧ va_D (fun _ => True) (wX cy a q q2 ca ta u g ++ [(o, .inl (cy 3, 1, .inr (.inl f)))]) ∧ xC U U.heap ∧ xNc U)) (va_Qi (fun (r8 : Int32) (w9 : US × HS × (Nat → Int64)) => r8 = nI (exS k) ∧ (exS k = 0 → w9.2.2 0 = (bearF (bearP u (ix k)) 21).toInt64 ∧ w9.1 = u) ∧ (¬ exS k = 0 → w9.1 = u)) (fun (w9 : US × HS × (Nat → Int64)) t => va_P D vwCl (wX cy a q q2 ca ta w9.1 w9.2.1 ++ [(o, .inl (cy 3, 1, .inr (.inl w9.2.2)))]) t.heap ∧ va_D (va_A (wX cy a q q2 ca ta u g ++ [(o, .inl (cy 3, 1, .inr (.inl f)))]) sz) (wX cy a q q2 ca ta w9.1 w9.2.1 ++ [(o, .inl (cy 3, 1, .inr (.inl w9.2.2)))])) (va_A (wX cy a q q2 ca ta u g ++ [(o, .inl (cy 3, 1, .inr (.inl f)))]) sz)) 1 6 (va_A (wX cy a q q2 ca ta u g ++ [(o, .inl (cy 3, 1, .inr (.inl f)))]) sz) := by
  refine pl_ofWH (cc := cL_bears) (maxL := 4) (ret := (some .int)) (hh := [(0, 9, 12, 13)]) (by decide) rfl ?_
  intro p e s m args below meth c s₁ B hml hv
  obtain ⟨rfl, hsz, hP, hK, hD0, hX, hNc⟩ := hv
  have hx := B.exec
  have hb := B.bytes
  have hr := B.returns
  have hts := atoms_spec (ws := wsL_bears) B.pre
  have hown : s.vm.findClass RL = some m.cls := findClass_of_methodNamed B.named
  have hlocks := B.notSynchronized
  have hl := lv_entry ([.ref (a 0), .int k, .ref o]) (n := 4) (Nat.le_of_ble_eq_true rfl)
  rw [lg_entry_eq]
  generalize (lg_sl ([.ref (a 0), .int k, .ref o]) ++ List.replicate (4 - (lg_sl ([.ref (a 0), .int k, .ref o])).length) Slot.unset).toArray = ls at hl ⊢
  have hl : lv_has ls 4 [(0, .ref (a 0)), (1, .int k), (2, .ref o)] := hl
  subst hsz
  have hD := hD0.self (sz := s.heap.size)
  generalize hAe : va_A (wX cy a q q2 ca ta u g ++ [(o, .inl (cy 3, 1, .inr (.inl f)))]) s.heap.size = A at hD ⊢
  have hA : ∀ q : Nat, s.heap.size ≤ q → A q := fun q h => by rw [← hAe]; exact Or.inr h
  have hS : va_S A s.heap s.heap [] := va_S.rf
  have hP : va_P D vwCl (wX cy a q q2 ca ta u g ++ [(o, .inl (cy 3, 1, .inr (.inl f)))]) s.heap := hP
  have hT := vx_table (x := yL_bears) B (hts _ kL_bears_0)
  refine lv_aload_n hx hb dL_bears_0 rfl (lv_at hl 2 rfl) ?_
  refine lv_iconst (v := 0) hx hb dL_bears_1 (by decide) ?_
  refine lv_aload_n hx hb dL_bears_2 rfl (lv_at hl 0 rfl) ?_
  refine lv_iload_n hx hb dL_bears_3 rfl (lv_at hl 1 rfl) ?_
  have hPc := hP.sub (ws' := wX cy a q q2 ca ta u g) [0, 1, 2, 3, 4, 5, 6, 7, 8, 9, 10, 11, 12, 13, 14, 15, 16, 17, 18, 19, 20, 21, 22, 23, 24, 25, 26, 27, 28, 29] rfl
  have hDc := hD.sub (ws' := wX cy a q q2 ca ta u g) [0, 1, 2, 3, 4, 5, 6, 7, 8, 9, 10, 11, 12, 13, 14, 15, 16, 17, 18, 19, 20, 21, 22, 23, 24, 25, 26, 27, 28, 29] (by decide) rfl
  have hFc := va_free (wc := wX cy a q q2 ca ta u g) hD hS hA [0, 1, 2, 3, 4, 5, 6, 7, 8, 9, 10, 11, 12, 13, 14, 15, 16, 17, 18, 19, 20, 21, 22, 23, 24, 25, 26, 27, 28, 29] rfl
  refine px_callw (vx_runV (As := [.int k]) (rest := [.int 0, .ref o]) ⟨hx, hb, hml, hown, hts⟩ (mX2_bears l hst D cy s.heap.size a q q2 ca ta u g hu k) (cwV 1 hts gL_bears_X2_bears rfl rfl rfl (by decide +kernel) ⟨Nat.le_of_ble_eq_true rfl, Nat.le_of_ble_eq_true rfl⟩) ⟨fun a U g mk q => ⟨q.1, q.2.1, q.2.2.1, va_K.moved (u := U) (U := U.calling g mk a) (Vm.Alike.refl U.vm) q.2.2.2.1, q.2.2.2.2.1, xC.warm (State.WarmedH.refl U) q.2.2.2.2.2⟩, va_recv hK hPc (ci := 2) (q0 := 0) rfl rfl, fun U hU hW => ⟨rfl, by rw [hU], by rw [hU]; exact hPc, va_K.moved hW.alike hK, hDc.weaken (fun _ _ _ _ => trivial), (show xC U U.heap by rw [hU]; exact hX.warm hW)⟩⟩ rfl rfl hl.1 rfl (lv_room (Nat.le_of_ble_eq_true rfl)) dL_bears_4 ⟨Nat.le_of_ble_eq_true rfl, Nat.le_of_ble_eq_true rfl⟩) hS (fun q _ h => hFc q h) hFc (fun E9 ce9 q9 H9 locs9 hE9 h19 h29 hS9 hce9 hcv9 hcl9 => ?_) (fun r9 u9 t9 H1 locs ht9 hvm9 hw9 hB9 hz9 hk9 hS => ?_)
  · have hP : va_P D vwCl (wX cy a q q2 ca ta u g ++ [(o, .inl (cy 3, 1, .inr (.inl f)))]) H9 := hP.kept (fun k q hk => h29 q.1 (hP k q hk).lt)
    have hS := hS9
    have hle9 := exS_le k
    have hx9 : exS k = 1 := by have := hE9.2; omega
    rw [hx9] at hE9
    obtain rfl : E9 = xI := hE9.1
    refine vx_catch (name := xI) hown [] ⟨0, 9, 12, 13⟩ [] (by rw [hT]; rfl) (fun _ hz => absurd hz List.not_mem_nil) (by decide) (by decide) (hts _ kL_bears_1) (xC.cast hX xI_in) hce9 hcv9 hcl9 ?_
    refine W.widen (k := 1) (n := 6) (Nat.le_of_ble_eq_true rfl) (Nat.le_of_ble_eq_true rfl) ?_
    refine lv_astore_n (lv' := [(3, .ref q9), (0, .ref (a 0)), (1, .int k), (2, .ref o)]) hx hb dL_bears_12 rfl hl (by decide) rfl (fun ls hl => ?_)
    refine lv_iconst (v := 1) hx hb dL_bears_13 (by decide) ?_
    have hP9 : va_P D vwCl (wX cy a q q2 ca ta (u, g, f).1 (u, g, f).2.1 ++ [(o, .inl (cy 3, 1, .inr (.inl (u, g, f).2.2)))]) H9 := hP
    have hD9 : va_D A (wX cy a q q2 ca ta (u, g, f).1 (u, g, f).2.1 ++ [(o, .inl (cy 3, 1, .inr (.inl (u, g, f).2.2)))]) := hD
    exact W.iret (v := 1) hx hb hr (fun t ht hW => ⟨⟨1, (u, g, f), rfl, ⟨by rw [hx9]; rfl, fun z => absurd (hx9.symm.trans z) (by decide), fun _ => rfl⟩, by rw [ht]; exact hP9, hD9⟩, hS.F ht⟩) hS.2.2 dL_bears_14
  · obtain ⟨hP1, hD1⟩ := hB9
    obtain ⟨g9, rfl⟩ : ∃ z, z = u9 := ⟨_, rfl⟩
    rw [ht9] at hP1
    obtain ⟨hP, hD⟩ := va_join (wr := [(o, .inl ((cy 3), 1, .inr (.inl f)))]) (w1 := wX cy a q q2 ca ta u g9) hP hD [0, 1, 2, 3, 4, 5, 6, 7, 8, 9, 10, 11, 12, 13, 14, 15, 16, 17, 18, 19, 20, 21, 22, 23, 24, 25, 26, 27, 28, 29] [30] rfl rfl (by decide) (by decide) hk9 hFc hP1 hD1
    generalize H1 = H at hP hS ⊢
    have hP : va_P D vwCl (wX cy a q q2 ca ta u g9 ++ [(o, .inl (cy 3, 1, .inr (.inl f)))]) H := hP.sub [1, 2, 3, 4, 5, 6, 7, 8, 9, 10, 11, 12, 13, 14, 15, 16, 17, 18, 19, 20, 21, 22, 23, 24, 25, 26, 27, 28, 29, 30, 0] rfl
    have hD : va_D A (wX cy a q q2 ca ta u g9 ++ [(o, .inl (cy 3, 1, .inr (.inl f)))]) := hD.sub [1, 2, 3, 4, 5, 6, 7, 8, 9, 10, 11, 12, 13, 14, 15, 16, 17, 18, 19, 20, 21, 22, 23, 24, 25, 26, 27, 28, 29, 30, 0] (by decide) rfl
    clear hP1 hD1 hk9 hz9 ht9 hvm9 hPc hDc hFc
    obtain ⟨hx9, hw9⟩ := hw9
    subst hw9
    refine W.widen (k := 1) (n := 6) (Nat.le_of_ble_eq_true rfl) (Nat.le_of_ble_eq_true rfl) ?_
    refine lv_i2l (v := (bearF (bearP u (ix k)) 21).toInt64) hx hb dL_bears_7 rfl ?_
    refine va_last hx hb hK hP hD hS 30 3 rfl rfl (i := 0) (show vp_in (0 : Int32) 1 from vp_in_nI (by decide) (by decide)) dL_bears_8 (fun H locs hP hD hS => ?_)
    have hP : va_P D vwCl [(a 0, .inr (2, [.ref (q 0), .ref (q2 0), .ref (a 1), .ref (a 2), .ref (a 3), .int (nI (un u))])), (a 1, .inl ((cy 0), 12, .inl (uw u))), (a 2, .inl ((cy 0), 12, .inl (ud u))), (q 0, .inr (1, [.ref (q 1), .ref (q 2), .ref (q 3), .ref (q 4), .ref (q 5), .ref (q 6), .int (zl (uh u)), .int (nI (zh (uh u)))])), (q 1, .inl ((cy 0), 12, .inl (zb (uh u)))), (q 2, .inl ((cy 0), 12, .inl (zw (uh u)))), (q 3, .inl ((cy 0), 12, .inl (zd (uh u)))), (q 4, .inl ((cy 0), 12, .inl (zs (uh u)))), (q 5, .inl ((cy 0), 12, .inl (zr (uh u)))), (q 6, .inl ((cy 1), 12, .inl (zo (uh u)))), (q2 0, .inr (1, [.ref (q2 1), .ref (q2 2), .ref (q2 3), .ref (q2 4), .ref (q2 5), .ref (q2 6), .int (zl g9), .int (nI (zh g9))])), (q2 1, .inl ((cy 0), 12, .inl (zb g9))), (q2 2, .inl ((cy 0), 12, .inl (zw g9))), (q2 3, .inl ((cy 0), 12, .inl (zd g9))), (q2 4, .inl ((cy 0), 12, .inl (zs g9))), (q2 5, .inl ((cy 0), 12, .inl (zr g9))), (q2 6, .inl ((cy 1), 12, .inl (zo g9))), (a 3, .inl ((cy 2), 6, .inr (.inr (.inr (.inr (fun i => some (ca i))))))), (ca 0, .inr (0, [.ref (ta 0), .int (nI (ul u 0)), .int (nI (uz u 0))])), (ca 1, .inr (0, [.ref (ta 1), .int (nI (ul u 1)), .int (nI (uz u 1))])), (ca 2, .inr (0, [.ref (ta 2), .int (nI (ul u 2)), .int (nI (uz u 2))])), (ca 3, .inr (0, [.ref (ta 3), .int (nI (ul u 3)), .int (nI (uz u 3))])), (ca 4, .inr (0, [.ref (ta 4), .int (nI (ul u 4)), .int (nI (uz u 4))])), (ca 5, .inr (0, [.ref (ta 5), .int (nI (ul u 5)), .int (nI (uz u 5))])), (ta 0, .inl ((cy 0), 4, .inl (ut u 0))), (ta 1, .inl ((cy 0), 4, .inl (ut u 1))), (ta 2, .inl ((cy 0), 4, .inl (ut u 2))), (ta 3, .inl ((cy 0), 4, .inl (ut u 3))), (ta 4, .inl ((cy 0), 4, .inl (ut u 4))), (ta 5, .inl ((cy 0), 4, .inl (ut u 5))), (o, .inl ((cy 3), 1, .inr (.inl (vp_updL f (0 : Int32).toNatClampNeg ((bearF (bearP u (ix k)) 21).toInt64)))))] H := hP
    have hD : va_D A [(a 0, .inr (2, [.ref (q 0), .ref (q2 0), .ref (a 1), .ref (a 2), .ref (a 3), .int (nI (un u))])), (a 1, .inl ((cy 0), 12, .inl (uw u))), (a 2, .inl ((cy 0), 12, .inl (ud u))), (q 0, .inr (1, [.ref (q 1), .ref (q 2), .ref (q 3), .ref (q 4), .ref (q 5), .ref (q 6), .int (zl (uh u)), .int (nI (zh (uh u)))])), (q 1, .inl ((cy 0), 12, .inl (zb (uh u)))), (q 2, .inl ((cy 0), 12, .inl (zw (uh u)))), (q 3, .inl ((cy 0), 12, .inl (zd (uh u)))), (q 4, .inl ((cy 0), 12, .inl (zs (uh u)))), (q 5, .inl ((cy 0), 12, .inl (zr (uh u)))), (q 6, .inl ((cy 1), 12, .inl (zo (uh u)))), (q2 0, .inr (1, [.ref (q2 1), .ref (q2 2), .ref (q2 3), .ref (q2 4), .ref (q2 5), .ref (q2 6), .int (zl g9), .int (nI (zh g9))])), (q2 1, .inl ((cy 0), 12, .inl (zb g9))), (q2 2, .inl ((cy 0), 12, .inl (zw g9))), (q2 3, .inl ((cy 0), 12, .inl (zd g9))), (q2 4, .inl ((cy 0), 12, .inl (zs g9))), (q2 5, .inl ((cy 0), 12, .inl (zr g9))), (q2 6, .inl ((cy 1), 12, .inl (zo g9))), (a 3, .inl ((cy 2), 6, .inr (.inr (.inr (.inr (fun i => some (ca i))))))), (ca 0, .inr (0, [.ref (ta 0), .int (nI (ul u 0)), .int (nI (uz u 0))])), (ca 1, .inr (0, [.ref (ta 1), .int (nI (ul u 1)), .int (nI (uz u 1))])), (ca 2, .inr (0, [.ref (ta 2), .int (nI (ul u 2)), .int (nI (uz u 2))])), (ca 3, .inr (0, [.ref (ta 3), .int (nI (ul u 3)), .int (nI (uz u 3))])), (ca 4, .inr (0, [.ref (ta 4), .int (nI (ul u 4)), .int (nI (uz u 4))])), (ca 5, .inr (0, [.ref (ta 5), .int (nI (ul u 5)), .int (nI (uz u 5))])), (ta 0, .inl ((cy 0), 4, .inl (ut u 0))), (ta 1, .inl ((cy 0), 4, .inl (ut u 1))), (ta 2, .inl ((cy 0), 4, .inl (ut u 2))), (ta 3, .inl ((cy 0), 4, .inl (ut u 3))), (ta 4, .inl ((cy 0), 4, .inl (ut u 4))), (ta 5, .inl ((cy 0), 4, .inl (ut u 5))), (o, .inl ((cy 3), 1, .inr (.inl (vp_updL f (0 : Int32).toNatClampNeg ((bearF (bearP u (ix k)) 21).toInt64)))))] := hD
    refine lv_goto (tgt := 15) hx hb dL_bears_9 (by decide) ?_
    refine lv_iconst (v := 0) hx hb dL_bears_15 (by decide) ?_
    have hP9 : va_P D vwCl (wX cy a q q2 ca ta (u, g9, vp_updL f (0 : Int32).toNatClampNeg ((bearF (bearP u (ix k)) 21).toInt64)).1 (u, g9, vp_updL f (0 : Int32).toNatClampNeg ((bearF (bearP u (ix k)) 21).toInt64)).2.1 ++ [(o, .inl (cy 3, 1, .inr (.inl (u, g9, vp_updL f (0 : Int32).toNatClampNeg ((bearF (bearP u (ix k)) 21).toInt64)).2.2)))]) H := hP
    have hD9 : va_D A (wX cy a q q2 ca ta (u, g9, vp_updL f (0 : Int32).toNatClampNeg ((bearF (bearP u (ix k)) 21).toInt64)).1 (u, g9, vp_updL f (0 : Int32).toNatClampNeg ((bearF (bearP u (ix k)) 21).toInt64)).2.1 ++ [(o, .inl (cy 3, 1, .inr (.inl (u, g9, vp_updL f (0 : Int32).toNatClampNeg ((bearF (bearP u (ix k)) 21).toInt64)).2.2)))]) := hD
    exact W.iret (v := 0) hx hb hr (fun t ht hW => ⟨⟨0, (u, g9, vp_updL f (0 : Int32).toNatClampNeg ((bearF (bearP u (ix k)) 21).toInt64)), rfl, ⟨by rw [hx9]; rfl, fun _ => ⟨(updL_at (f := f) (x := (bearF (bearP u (ix k)) 21).toInt64)), rfl⟩, fun z => absurd hx9 z⟩, by rw [ht]; exact hP9, hD9⟩, hS.F ht⟩) hS.2.2 dL_bears_16

theorem kL_holds_0 : (.codeWith yL_holds cL_holds 4 (some .int) [(0, 9, 12, 13)] : Cond) ∈ wsL_holds := by decide +kernel
theorem kL_holds_1 : (.classLink RL 13 "java/lang/IndexOutOfBoundsException" : Cond) ∈ wsL_holds := by decide +kernel
set_option maxHeartbeats 4000000 in
set_option maxRecDepth 100000 in
theorem mL_holds (l : Launch) (hst : l.stackTraces = false) (D : va_G) (cy : Nat → ClassId) (sz : Nat) (a q q2 ca ta : Nat → Nat) (u : US) (g : HS) (hu : uOk u) (o : Nat) (f : Nat → Int64) (v : Int32) : Met l yL_holds wsL_holds ({ frames := 8, cells := 1, slots := 6, locals := 126 } : Room) (va_Pc [.ref (a 0), .int v, .ref o] (fun U => U.heap.size = sz ∧ va_P D vwCl (wX cy a q q2 ca ta u g ++ [(o, .inl (cy 3, 1, .inr (.inl f)))]) U.heap ∧ va_K D vwCl (TY cy) U ∧ va_D (fun _ => True) (wX cy a q q2 ca ta u g ++ [(o, .inl (cy 3, 1, .inr (.inl f)))]) ∧ xC U U.heap ∧ xNc U)) (va_Qi (fun (r8 : Int32) (w9 : US × HS × (Nat → Int64)) => r8 = nI (exC u v) ∧ (exC u v = 0 → w9.2.2 0 = (lowF (fun k => !(holdP u (ix v) k)) 0 201).toInt64 ∧ w9.1 = u) ∧ (¬ exC u v = 0 → w9.1 = u)) (fun (w9 : US × HS × (Nat → Int64)) t => va_P D vwCl (wX cy a q q2 ca ta w9.1 w9.2.1 ++ [(o, .inl (cy 3, 1, .inr (.inl w9.2.2)))]) t.heap ∧ va_D (va_A (wX cy a q q2 ca ta u g ++ [(o, .inl (cy 3, 1, .inr (.inl f)))]) sz) (wX cy a q q2 ca ta w9.1 w9.2.1 ++ [(o, .inl (cy 3, 1, .inr (.inl w9.2.2)))])) (va_A (wX cy a q q2 ca ta u g ++ [(o, .inl (cy 3, 1, .inr (.inl f)))]) sz)) 1 6 (va_A (wX cy a q q2 ca ta u g ++ [(o, .inl (cy 3, 1, .inr (.inl f)))]) sz) := by
  refine pl_ofWH (cc := cL_holds) (maxL := 4) (ret := (some .int)) (hh := [(0, 9, 12, 13)]) (by decide) rfl ?_
  intro p e s m args below meth c s₁ B hml hv
  obtain ⟨rfl, hsz, hP, hK, hD0, hX, hNc⟩ := hv
  have hx := B.exec
  have hb := B.bytes
  have hr := B.returns
  have hts := atoms_spec (ws := wsL_holds) B.pre
  have hown : s.vm.findClass RL = some m.cls := findClass_of_methodNamed B.named
  have hlocks := B.notSynchronized
  have hl := lv_entry ([.ref (a 0), .int v, .ref o]) (n := 4) (Nat.le_of_ble_eq_true rfl)
  rw [lg_entry_eq]
  generalize (lg_sl ([.ref (a 0), .int v, .ref o]) ++ List.replicate (4 - (lg_sl ([.ref (a 0), .int v, .ref o])).length) Slot.unset).toArray = ls at hl ⊢
  have hl : lv_has ls 4 [(0, .ref (a 0)), (1, .int v), (2, .ref o)] := hl
  subst hsz
  have hD := hD0.self (sz := s.heap.size)
  generalize hAe : va_A (wX cy a q q2 ca ta u g ++ [(o, .inl (cy 3, 1, .inr (.inl f)))]) s.heap.size = A at hD ⊢
  have hA : ∀ q : Nat, s.heap.size ≤ q → A q := fun q h => by rw [← hAe]; exact Or.inr h
  have hS : va_S A s.heap s.heap [] := va_S.rf
  have hP : va_P D vwCl (wX cy a q q2 ca ta u g ++ [(o, .inl (cy 3, 1, .inr (.inl f)))]) s.heap := hP
  have hT := vx_table (x := yL_holds) B (hts _ kL_holds_0)
  refine lv_aload_n hx hb dL_holds_0 rfl (lv_at hl 2 rfl) ?_
  refine lv_iconst (v := 0) hx hb dL_holds_1 (by decide) ?_
  refine lv_aload_n hx hb dL_holds_2 rfl (lv_at hl 0 rfl) ?_
  refine lv_iload_n hx hb dL_holds_3 rfl (lv_at hl 1 rfl) ?_
  have hPc := hP.sub (ws' := wX cy a q q2 ca ta u g) [0, 1, 2, 3, 4, 5, 6, 7, 8, 9, 10, 11, 12, 13, 14, 15, 16, 17, 18, 19, 20, 21, 22, 23, 24, 25, 26, 27, 28, 29] rfl
  have hDc := hD.sub (ws' := wX cy a q q2 ca ta u g) [0, 1, 2, 3, 4, 5, 6, 7, 8, 9, 10, 11, 12, 13, 14, 15, 16, 17, 18, 19, 20, 21, 22, 23, 24, 25, 26, 27, 28, 29] (by decide) rfl
  have hFc := va_free (wc := wX cy a q q2 ca ta u g) hD hS hA [0, 1, 2, 3, 4, 5, 6, 7, 8, 9, 10, 11, 12, 13, 14, 15, 16, 17, 18, 19, 20, 21, 22, 23, 24, 25, 26, 27, 28, 29] rfl
  refine px_callw (vx_runV (As := [.int v]) (rest := [.int 0, .ref o]) ⟨hx, hb, hml, hown, hts⟩ (mX2_holds l hst D cy s.heap.size a q q2 ca ta u g hu v) (cwV 1 hts gL_holds_X2_holds rfl rfl rfl (by decide +kernel) ⟨Nat.le_of_ble_eq_true rfl, Nat.le_of_ble_eq_true rfl⟩) ⟨fun a U g mk q => ⟨q.1, q.2.1, q.2.2.1, va_K.moved (u := U) (U := U.calling g mk a) (Vm.Alike.refl U.vm) q.2.2.2.1, q.2.2.2.2.1, xC.warm (State.WarmedH.refl U) q.2.2.2.2.2⟩, va_recv hK hPc (ci := 2) (q0 := 0) rfl rfl, fun U hU hW => ⟨rfl, by rw [hU], by rw [hU]; exact hPc, va_K.moved hW.alike hK, hDc.weaken (fun _ _ _ _ => trivial), (show xC U U.heap by rw [hU]; exact hX.warm hW)⟩⟩ rfl rfl hl.1 rfl (lv_room (Nat.le_of_ble_eq_true rfl)) dL_holds_4 ⟨Nat.le_of_ble_eq_true rfl, Nat.le_of_ble_eq_true rfl⟩) hS (fun q _ h => hFc q h) hFc (fun E9 ce9 q9 H9 locs9 hE9 h19 h29 hS9 hce9 hcv9 hcl9 => ?_) (fun r9 u9 t9 H1 locs ht9 hvm9 hw9 hB9 hz9 hk9 hS => ?_)
  · have hP : va_P D vwCl (wX cy a q q2 ca ta u g ++ [(o, .inl (cy 3, 1, .inr (.inl f)))]) H9 := hP.kept (fun k q hk => h29 q.1 (hP k q hk).lt)
    have hS := hS9
    have hle9 := exC_le u v
    have hx9 : exC u v = 1 := by have := hE9.2; omega
    rw [hx9] at hE9
    obtain rfl : E9 = xI := hE9.1
    refine vx_catch (name := xI) hown [] ⟨0, 9, 12, 13⟩ [] (by rw [hT]; rfl) (fun _ hz => absurd hz List.not_mem_nil) (by decide) (by decide) (hts _ kL_holds_1) (xC.cast hX xI_in) hce9 hcv9 hcl9 ?_
    refine W.widen (k := 1) (n := 6) (Nat.le_of_ble_eq_true rfl) (Nat.le_of_ble_eq_true rfl) ?_
    refine lv_astore_n (lv' := [(3, .ref q9), (0, .ref (a 0)), (1, .int v), (2, .ref o)]) hx hb dL_holds_12 rfl hl (by decide) rfl (fun ls hl => ?_)
    refine lv_iconst (v := 1) hx hb dL_holds_13 (by decide) ?_
    have hP9 : va_P D vwCl (wX cy a q q2 ca ta (u, g, f).1 (u, g, f).2.1 ++ [(o, .inl (cy 3, 1, .inr (.inl (u, g, f).2.2)))]) H9 := hP
    have hD9 : va_D A (wX cy a q q2 ca ta (u, g, f).1 (u, g, f).2.1 ++ [(o, .inl (cy 3, 1, .inr (.inl (u, g, f).2.2)))]) := hD
    exact W.iret (v := 1) hx hb hr (fun t ht hW => ⟨⟨1, (u, g, f), rfl, ⟨by rw [hx9]; rfl, fun z => absurd (hx9.symm.trans z) (by decide), fun _ => rfl⟩, by rw [ht]; exact hP9, hD9⟩, hS.F ht⟩) hS.2.2 dL_holds_14
  · obtain ⟨hP1, hD1⟩ := hB9
    obtain ⟨g9, rfl⟩ : ∃ z, z = u9 := ⟨_, rfl⟩
    rw [ht9] at hP1
    obtain ⟨hP, hD⟩ := va_join (wr := [(o, .inl ((cy 3), 1, .inr (.inl f)))]) (w1 := wX cy a q q2 ca ta u g9) hP hD [0, 1, 2, 3, 4, 5, 6, 7, 8, 9, 10, 11, 12, 13, 14, 15, 16, 17, 18, 19, 20, 21, 22, 23, 24, 25, 26, 27, 28, 29] [30] rfl rfl (by decide) (by decide) hk9 hFc hP1 hD1
    generalize H1 = H at hP hS ⊢
    have hP : va_P D vwCl (wX cy a q q2 ca ta u g9 ++ [(o, .inl (cy 3, 1, .inr (.inl f)))]) H := hP.sub [1, 2, 3, 4, 5, 6, 7, 8, 9, 10, 11, 12, 13, 14, 15, 16, 17, 18, 19, 20, 21, 22, 23, 24, 25, 26, 27, 28, 29, 30, 0] rfl
    have hD : va_D A (wX cy a q q2 ca ta u g9 ++ [(o, .inl (cy 3, 1, .inr (.inl f)))]) := hD.sub [1, 2, 3, 4, 5, 6, 7, 8, 9, 10, 11, 12, 13, 14, 15, 16, 17, 18, 19, 20, 21, 22, 23, 24, 25, 26, 27, 28, 29, 30, 0] (by decide) rfl
    clear hP1 hD1 hk9 hz9 ht9 hvm9 hPc hDc hFc
    obtain ⟨hx9, hw9⟩ := hw9
    subst hw9
    refine W.widen (k := 1) (n := 6) (Nat.le_of_ble_eq_true rfl) (Nat.le_of_ble_eq_true rfl) ?_
    refine lv_i2l (v := (lowF (fun k => !(holdP u (ix v) k)) 0 201).toInt64) hx hb dL_holds_7 rfl ?_
    refine va_last hx hb hK hP hD hS 30 3 rfl rfl (i := 0) (show vp_in (0 : Int32) 1 from vp_in_nI (by decide) (by decide)) dL_holds_8 (fun H locs hP hD hS => ?_)
    have hP : va_P D vwCl [(a 0, .inr (2, [.ref (q 0), .ref (q2 0), .ref (a 1), .ref (a 2), .ref (a 3), .int (nI (un u))])), (a 1, .inl ((cy 0), 12, .inl (uw u))), (a 2, .inl ((cy 0), 12, .inl (ud u))), (q 0, .inr (1, [.ref (q 1), .ref (q 2), .ref (q 3), .ref (q 4), .ref (q 5), .ref (q 6), .int (zl (uh u)), .int (nI (zh (uh u)))])), (q 1, .inl ((cy 0), 12, .inl (zb (uh u)))), (q 2, .inl ((cy 0), 12, .inl (zw (uh u)))), (q 3, .inl ((cy 0), 12, .inl (zd (uh u)))), (q 4, .inl ((cy 0), 12, .inl (zs (uh u)))), (q 5, .inl ((cy 0), 12, .inl (zr (uh u)))), (q 6, .inl ((cy 1), 12, .inl (zo (uh u)))), (q2 0, .inr (1, [.ref (q2 1), .ref (q2 2), .ref (q2 3), .ref (q2 4), .ref (q2 5), .ref (q2 6), .int (zl g9), .int (nI (zh g9))])), (q2 1, .inl ((cy 0), 12, .inl (zb g9))), (q2 2, .inl ((cy 0), 12, .inl (zw g9))), (q2 3, .inl ((cy 0), 12, .inl (zd g9))), (q2 4, .inl ((cy 0), 12, .inl (zs g9))), (q2 5, .inl ((cy 0), 12, .inl (zr g9))), (q2 6, .inl ((cy 1), 12, .inl (zo g9))), (a 3, .inl ((cy 2), 6, .inr (.inr (.inr (.inr (fun i => some (ca i))))))), (ca 0, .inr (0, [.ref (ta 0), .int (nI (ul u 0)), .int (nI (uz u 0))])), (ca 1, .inr (0, [.ref (ta 1), .int (nI (ul u 1)), .int (nI (uz u 1))])), (ca 2, .inr (0, [.ref (ta 2), .int (nI (ul u 2)), .int (nI (uz u 2))])), (ca 3, .inr (0, [.ref (ta 3), .int (nI (ul u 3)), .int (nI (uz u 3))])), (ca 4, .inr (0, [.ref (ta 4), .int (nI (ul u 4)), .int (nI (uz u 4))])), (ca 5, .inr (0, [.ref (ta 5), .int (nI (ul u 5)), .int (nI (uz u 5))])), (ta 0, .inl ((cy 0), 4, .inl (ut u 0))), (ta 1, .inl ((cy 0), 4, .inl (ut u 1))), (ta 2, .inl ((cy 0), 4, .inl (ut u 2))), (ta 3, .inl ((cy 0), 4, .inl (ut u 3))), (ta 4, .inl ((cy 0), 4, .inl (ut u 4))), (ta 5, .inl ((cy 0), 4, .inl (ut u 5))), (o, .inl ((cy 3), 1, .inr (.inl (vp_updL f (0 : Int32).toNatClampNeg ((lowF (fun k => !(holdP u (ix v) k)) 0 201).toInt64)))))] H := hP
    have hD : va_D A [(a 0, .inr (2, [.ref (q 0), .ref (q2 0), .ref (a 1), .ref (a 2), .ref (a 3), .int (nI (un u))])), (a 1, .inl ((cy 0), 12, .inl (uw u))), (a 2, .inl ((cy 0), 12, .inl (ud u))), (q 0, .inr (1, [.ref (q 1), .ref (q 2), .ref (q 3), .ref (q 4), .ref (q 5), .ref (q 6), .int (zl (uh u)), .int (nI (zh (uh u)))])), (q 1, .inl ((cy 0), 12, .inl (zb (uh u)))), (q 2, .inl ((cy 0), 12, .inl (zw (uh u)))), (q 3, .inl ((cy 0), 12, .inl (zd (uh u)))), (q 4, .inl ((cy 0), 12, .inl (zs (uh u)))), (q 5, .inl ((cy 0), 12, .inl (zr (uh u)))), (q 6, .inl ((cy 1), 12, .inl (zo (uh u)))), (q2 0, .inr (1, [.ref (q2 1), .ref (q2 2), .ref (q2 3), .ref (q2 4), .ref (q2 5), .ref (q2 6), .int (zl g9), .int (nI (zh g9))])), (q2 1, .inl ((cy 0), 12, .inl (zb g9))), (q2 2, .inl ((cy 0), 12, .inl (zw g9))), (q2 3, .inl ((cy 0), 12, .inl (zd g9))), (q2 4, .inl ((cy 0), 12, .inl (zs g9))), (q2 5, .inl ((cy 0), 12, .inl (zr g9))), (q2 6, .inl ((cy 1), 12, .inl (zo g9))), (a 3, .inl ((cy 2), 6, .inr (.inr (.inr (.inr (fun i => some (ca i))))))), (ca 0, .inr (0, [.ref (ta 0), .int (nI (ul u 0)), .int (nI (uz u 0))])), (ca 1, .inr (0, [.ref (ta 1), .int (nI (ul u 1)), .int (nI (uz u 1))])), (ca 2, .inr (0, [.ref (ta 2), .int (nI (ul u 2)), .int (nI (uz u 2))])), (ca 3, .inr (0, [.ref (ta 3), .int (nI (ul u 3)), .int (nI (uz u 3))])), (ca 4, .inr (0, [.ref (ta 4), .int (nI (ul u 4)), .int (nI (uz u 4))])), (ca 5, .inr (0, [.ref (ta 5), .int (nI (ul u 5)), .int (nI (uz u 5))])), (ta 0, .inl ((cy 0), 4, .inl (ut u 0))), (ta 1, .inl ((cy 0), 4, .inl (ut u 1))), (ta 2, .inl ((cy 0), 4, .inl (ut u 2))), (ta 3, .inl ((cy 0), 4, .inl (ut u 3))), (ta 4, .inl ((cy 0), 4, .inl (ut u 4))), (ta 5, .inl ((cy 0), 4, .inl (ut u 5))), (o, .inl ((cy 3), 1, .inr (.inl (vp_updL f (0 : Int32).toNatClampNeg ((lowF (fun k => !(holdP u (ix v) k)) 0 201).toInt64)))))] := hD
    refine lv_goto (tgt := 15) hx hb dL_holds_9 (by decide) ?_
    refine lv_iconst (v := 0) hx hb dL_holds_15 (by decide) ?_
    have hP9 : va_P D vwCl (wX cy a q q2 ca ta (u, g9, vp_updL f (0 : Int32).toNatClampNeg ((lowF (fun k => !(holdP u (ix v) k)) 0 201).toInt64)).1 (u, g9, vp_updL f (0 : Int32).toNatClampNeg ((lowF (fun k => !(holdP u (ix v) k)) 0 201).toInt64)).2.1 ++ [(o, .inl (cy 3, 1, .inr (.inl (u, g9, vp_updL f (0 : Int32).toNatClampNeg ((lowF (fun k => !(holdP u (ix v) k)) 0 201).toInt64)).2.2)))]) H := hP
    have hD9 : va_D A (wX cy a q q2 ca ta (u, g9, vp_updL f (0 : Int32).toNatClampNeg ((lowF (fun k => !(holdP u (ix v) k)) 0 201).toInt64)).1 (u, g9, vp_updL f (0 : Int32).toNatClampNeg ((lowF (fun k => !(holdP u (ix v) k)) 0 201).toInt64)).2.1 ++ [(o, .inl (cy 3, 1, .inr (.inl (u, g9, vp_updL f (0 : Int32).toNatClampNeg ((lowF (fun k => !(holdP u (ix v) k)) 0 201).toInt64)).2.2)))]) := hD
    exact W.iret (v := 0) hx hb hr (fun t ht hW => ⟨⟨0, (u, g9, vp_updL f (0 : Int32).toNatClampNeg ((lowF (fun k => !(holdP u (ix v) k)) 0 201).toInt64)), rfl, ⟨by rw [hx9]; rfl, fun _ => ⟨(updL_at (f := f) (x := (lowF (fun k => !(holdP u (ix v) k)) 0 201).toInt64)), rfl⟩, fun z => absurd hx9 z⟩, by rw [ht]; exact hP9, hD9⟩, hS.F ht⟩) hS.2.2 dL_holds_16

theorem kL_foresee_0 : (.codeWith yL_foresee cL_foresee 5 (some .int) [(0, 10, 13, 15), (0, 10, 17, 13)] : Cond) ∈ wsL_foresee := by decide +kernel
theorem kL_foresee_1 : (.classLink RL 15 "java/lang/IllegalArgumentException" : Cond) ∈ wsL_foresee := by decide +kernel
theorem kL_foresee_2 : (.classLink RL 13 "java/lang/IndexOutOfBoundsException" : Cond) ∈ wsL_foresee := by decide +kernel
set_option maxHeartbeats 4000000 in
set_option maxRecDepth 100000 in
theorem mL_foresee (l : Launch) (hst : l.stackTraces = false) (D : va_G) (cy : Nat → ClassId) (sz : Nat) (a q q2 ca ta : Nat → Nat) (u : US) (g : HS) (hu : uOk u) (o : Nat) (f : Nat → Int64) (v k : Int32) : Met l yL_foresee wsL_foresee ({ frames := 8, cells := 2, slots := 12, locals := 125 } : Room) (va_Pc [.ref (a 0), .int v, .int k, .ref o] (fun U => U.heap.size = sz ∧ va_P D vwCl (wX cy a q q2 ca ta u g ++ [(o, .inl (cy 3, 1, .inr (.inl f)))]) U.heap ∧ va_K D vwCl (TY cy) U ∧ va_D (fun _ => True) (wX cy a q q2 ca ta u g ++ [(o, .inl (cy 3, 1, .inr (.inl f)))]) ∧ xC U U.heap ∧ xNc U)) (va_Qi (fun (r8 : Int32) (w9 : US × HS × (Nat → Int64)) => r8 = nI (exFor v k) ∧ (exFor v k = 0 → w9.2.2 0 = (tone (hN (ix k) (ix k + 1) (uw u) (ud u) (uh u) (ix v)) (ix k)).toInt64 ∧ w9.1 = u) ∧ (¬ exFor v k = 0 → w9.1 = u)) (fun (w9 : US × HS × (Nat → Int64)) t => va_P D vwCl (wX cy a q q2 ca ta w9.1 w9.2.1 ++ [(o, .inl (cy 3, 1, .inr (.inl w9.2.2)))]) t.heap ∧ va_D (va_A (wX cy a q q2 ca ta u g ++ [(o, .inl (cy 3, 1, .inr (.inl f)))]) sz) (wX cy a q q2 ca ta w9.1 w9.2.1 ++ [(o, .inl (cy 3, 1, .inr (.inl w9.2.2)))])) (va_A (wX cy a q q2 ca ta u g ++ [(o, .inl (cy 3, 1, .inr (.inl f)))]) sz)) 2 12 (va_A (wX cy a q q2 ca ta u g ++ [(o, .inl (cy 3, 1, .inr (.inl f)))]) sz) := by
  refine pl_ofWH (cc := cL_foresee) (maxL := 5) (ret := (some .int)) (hh := [(0, 10, 13, 15), (0, 10, 17, 13)]) (by decide) rfl ?_
  intro p e s m args below meth c s₁ B hml hv
  obtain ⟨rfl, hsz, hP, hK, hD0, hX, hNc⟩ := hv
  have hx := B.exec
  have hb := B.bytes
  have hr := B.returns
  have hts := atoms_spec (ws := wsL_foresee) B.pre
  have hown : s.vm.findClass RL = some m.cls := findClass_of_methodNamed B.named
  have hlocks := B.notSynchronized
  have hl := lv_entry ([.ref (a 0), .int v, .int k, .ref o]) (n := 5) (Nat.le_of_ble_eq_true rfl)
  rw [lg_entry_eq]
  generalize (lg_sl ([.ref (a 0), .int v, .int k, .ref o]) ++ List.replicate (5 - (lg_sl ([.ref (a 0), .int v, .int k, .ref o])).length) Slot.unset).toArray = ls at hl ⊢
  have hl : lv_has ls 5 [(0, .ref (a 0)), (1, .int v), (2, .int k), (3, .ref o)] := hl
  subst hsz
  have hD := hD0.self (sz := s.heap.size)
  generalize hAe : va_A (wX cy a q q2 ca ta u g ++ [(o, .inl (cy 3, 1, .inr (.inl f)))]) s.heap.size = A at hD ⊢
  have hA : ∀ q : Nat, s.heap.size ≤ q → A q := fun q h => by rw [← hAe]; exact Or.inr h
  have hS : va_S A s.heap s.heap [] := va_S.rf
  have hP : va_P D vwCl (wX cy a q q2 ca ta u g ++ [(o, .inl (cy 3, 1, .inr (.inl f)))]) s.heap := hP
  have hT := vx_table (x := yL_foresee) B (hts _ kL_foresee_0)
  refine lv_aload_n hx hb dL_foresee_0 rfl (lv_at hl 3 rfl) ?_
  refine lv_iconst (v := 0) hx hb dL_foresee_1 (by decide) ?_
  refine lv_aload_n hx hb dL_foresee_2 rfl (lv_at hl 0 rfl) ?_
  refine lv_iload_n hx hb dL_foresee_3 rfl (lv_at hl 1 rfl) ?_
  refine lv_iload_n hx hb dL_foresee_4 rfl (lv_at hl 2 rfl) ?_
  have hPc := hP.sub (ws' := wX cy a q q2 ca ta u g) [0, 1, 2, 3, 4, 5, 6, 7, 8, 9, 10, 11, 12, 13, 14, 15, 16, 17, 18, 19, 20, 21, 22, 23, 24, 25, 26, 27, 28, 29] rfl
  have hDc := hD.sub (ws' := wX cy a q q2 ca ta u g) [0, 1, 2, 3, 4, 5, 6, 7, 8, 9, 10, 11, 12, 13, 14, 15, 16, 17, 18, 19, 20, 21, 22, 23, 24, 25, 26, 27, 28, 29] (by decide) rfl
  have hFc := va_free (wc := wX cy a q q2 ca ta u g) hD hS hA [0, 1, 2, 3, 4, 5, 6, 7, 8, 9, 10, 11, 12, 13, 14, 15, 16, 17, 18, 19, 20, 21, 22, 23, 24, 25, 26, 27, 28, 29] rfl
  refine px_callw (vx_runV (As := [.int v, .int k]) (rest := [.int 0, .ref o]) ⟨hx, hb, hml, hown, hts⟩ (mX2_foresee l hst D cy s.heap.size a q q2 ca ta u g hu v k) (cwV 2 hts gL_foresee_X2_foresee rfl rfl rfl (by decide +kernel) ⟨Nat.le_of_ble_eq_true rfl, Nat.le_of_ble_eq_true rfl⟩) ⟨fun a U g mk q => ⟨q.1, q.2.1, q.2.2.1, va_K.moved (u := U) (U := U.calling g mk a) (Vm.Alike.refl U.vm) q.2.2.2.1, q.2.2.2.2.1, xC.warm (State.WarmedH.refl U) q.2.2.2.2.2⟩, va_recv hK hPc (ci := 2) (q0 := 0) rfl rfl, fun U hU hW => ⟨rfl, by rw [hU], by rw [hU]; exact hPc, va_K.moved hW.alike hK, hDc.weaken (fun _ _ _ _ => trivial), (show xC U U.heap by rw [hU]; exact hX.warm hW)⟩⟩ rfl rfl hl.1 rfl (lv_room (Nat.le_of_ble_eq_true rfl)) dL_foresee_5 ⟨Nat.le_of_ble_eq_true rfl, Nat.le_of_ble_eq_true rfl⟩) hS (fun q _ h => hFc q h) hFc (fun E9 ce9 q9 H9 locs9 hE9 h19 h29 hS9 hce9 hcv9 hcl9 => ?_) (fun r9 u9 t9 H1 locs ht9 hvm9 hw9 hB9 hz9 hk9 hS => ?_)
  · have hP : va_P D vwCl (wX cy a q q2 ca ta u g ++ [(o, .inl (cy 3, 1, .inr (.inl f)))]) H9 := hP.kept (fun k q hk => h29 q.1 (hP k q hk).lt)
    have hS := hS9
    have hle9 := exFor_le v k
    rcases (show exFor v k = 1 ∨ exFor v k = 2 by have := hE9.2; omega) with hx9 | hx9
    · rw [hx9] at hE9
      obtain rfl : E9 = xA := hE9.1
      refine vx_catch (name := xA) hown [] ⟨0, 10, 13, 15⟩ [⟨0, 10, 17, 13⟩] (by rw [hT]; rfl) (fun _ hz => absurd hz List.not_mem_nil) (by decide) (by decide) (hts _ kL_foresee_1) (xC.cast hX xA_in) hce9 hcv9 hcl9 ?_
      refine W.widen (k := 2) (n := 12) (Nat.le_of_ble_eq_true rfl) (Nat.le_of_ble_eq_true rfl) ?_
      refine lv_astore (lv' := [(4, .ref q9), (0, .ref (a 0)), (1, .int v), (2, .int k), (3, .ref o)]) hx hb dL_foresee_13 hl (by decide) rfl (fun ls hl => ?_)
      refine lv_iconst (v := 1) hx hb dL_foresee_15 (by decide) ?_
      have hP9 : va_P D vwCl (wX cy a q q2 ca ta (u, g, f).1 (u, g, f).2.1 ++ [(o, .inl (cy 3, 1, .inr (.inl (u, g, f).2.2)))]) H9 := hP
      have hD9 : va_D A (wX cy a q q2 ca ta (u, g, f).1 (u, g, f).2.1 ++ [(o, .inl (cy 3, 1, .inr (.inl (u, g, f).2.2)))]) := hD
      exact W.iret (v := 1) hx hb hr (fun t ht hW => ⟨⟨1, (u, g, f), rfl, ⟨by rw [hx9]; rfl, fun z => absurd (hx9.symm.trans z) (by decide), fun _ => rfl⟩, by rw [ht]; exact hP9, hD9⟩, hS.F ht⟩) hS.2.2 dL_foresee_16
    · rw [hx9] at hE9
      obtain rfl : E9 = xI := hE9.1
      refine vx_catch (name := xI) hown [⟨0, 10, 13, 15⟩] ⟨0, 10, 17, 13⟩ [] (by rw [hT]; rfl) (List.forall_mem_cons.mpr ⟨Or.inr ⟨by decide, xA, (hts _ kL_foresee_1), hNc.2.2.2⟩, (fun _ hz => absurd hz List.not_mem_nil)⟩) (by decide) (by decide) (hts _ kL_foresee_2) (xC.cast hX xI_in) hce9 hcv9 hcl9 ?_
      refine W.widen (k := 2) (n := 12) (Nat.le_of_ble_eq_true rfl) (Nat.le_of_ble_eq_true rfl) ?_
      refine lv_astore (lv' := [(4, .ref q9), (0, .ref (a 0)), (1, .int v), (2, .int k), (3, .ref o)]) hx hb dL_foresee_17 hl (by decide) rfl (fun ls hl => ?_)
      refine lv_iconst (v := 2) hx hb dL_foresee_19 (by decide) ?_
      have hP9 : va_P D vwCl (wX cy a q q2 ca ta (u, g, f).1 (u, g, f).2.1 ++ [(o, .inl (cy 3, 1, .inr (.inl (u, g, f).2.2)))]) H9 := hP
      have hD9 : va_D A (wX cy a q q2 ca ta (u, g, f).1 (u, g, f).2.1 ++ [(o, .inl (cy 3, 1, .inr (.inl (u, g, f).2.2)))]) := hD
      exact W.iret (v := 2) hx hb hr (fun t ht hW => ⟨⟨2, (u, g, f), rfl, ⟨by rw [hx9]; rfl, fun z => absurd (hx9.symm.trans z) (by decide), fun _ => rfl⟩, by rw [ht]; exact hP9, hD9⟩, hS.F ht⟩) hS.2.2 dL_foresee_20
  · obtain ⟨hP1, hD1⟩ := hB9
    obtain ⟨g9, rfl⟩ : ∃ z, z = u9 := ⟨_, rfl⟩
    rw [ht9] at hP1
    obtain ⟨hP, hD⟩ := va_join (wr := [(o, .inl ((cy 3), 1, .inr (.inl f)))]) (w1 := wX cy a q q2 ca ta u g9) hP hD [0, 1, 2, 3, 4, 5, 6, 7, 8, 9, 10, 11, 12, 13, 14, 15, 16, 17, 18, 19, 20, 21, 22, 23, 24, 25, 26, 27, 28, 29] [30] rfl rfl (by decide) (by decide) hk9 hFc hP1 hD1
    generalize H1 = H at hP hS ⊢
    have hP : va_P D vwCl (wX cy a q q2 ca ta u g9 ++ [(o, .inl (cy 3, 1, .inr (.inl f)))]) H := hP.sub [1, 2, 3, 4, 5, 6, 7, 8, 9, 10, 11, 12, 13, 14, 15, 16, 17, 18, 19, 20, 21, 22, 23, 24, 25, 26, 27, 28, 29, 30, 0] rfl
    have hD : va_D A (wX cy a q q2 ca ta u g9 ++ [(o, .inl (cy 3, 1, .inr (.inl f)))]) := hD.sub [1, 2, 3, 4, 5, 6, 7, 8, 9, 10, 11, 12, 13, 14, 15, 16, 17, 18, 19, 20, 21, 22, 23, 24, 25, 26, 27, 28, 29, 30, 0] (by decide) rfl
    clear hP1 hD1 hk9 hz9 ht9 hvm9 hPc hDc hFc
    obtain ⟨hx9, hw9⟩ := hw9
    subst hw9
    refine W.widen (k := 2) (n := 12) (Nat.le_of_ble_eq_true rfl) (Nat.le_of_ble_eq_true rfl) ?_
    refine lv_i2l (v := (tone (hN (ix k) (ix k + 1) (uw u) (ud u) (uh u) (ix v)) (ix k)).toInt64) hx hb dL_foresee_8 rfl ?_
    refine va_last hx hb hK hP hD hS 30 3 rfl rfl (i := 0) (show vp_in (0 : Int32) 1 from vp_in_nI (by decide) (by decide)) dL_foresee_9 (fun H locs hP hD hS => ?_)
    have hP : va_P D vwCl [(a 0, .inr (2, [.ref (q 0), .ref (q2 0), .ref (a 1), .ref (a 2), .ref (a 3), .int (nI (un u))])), (a 1, .inl ((cy 0), 12, .inl (uw u))), (a 2, .inl ((cy 0), 12, .inl (ud u))), (q 0, .inr (1, [.ref (q 1), .ref (q 2), .ref (q 3), .ref (q 4), .ref (q 5), .ref (q 6), .int (zl (uh u)), .int (nI (zh (uh u)))])), (q 1, .inl ((cy 0), 12, .inl (zb (uh u)))), (q 2, .inl ((cy 0), 12, .inl (zw (uh u)))), (q 3, .inl ((cy 0), 12, .inl (zd (uh u)))), (q 4, .inl ((cy 0), 12, .inl (zs (uh u)))), (q 5, .inl ((cy 0), 12, .inl (zr (uh u)))), (q 6, .inl ((cy 1), 12, .inl (zo (uh u)))), (q2 0, .inr (1, [.ref (q2 1), .ref (q2 2), .ref (q2 3), .ref (q2 4), .ref (q2 5), .ref (q2 6), .int (zl g9), .int (nI (zh g9))])), (q2 1, .inl ((cy 0), 12, .inl (zb g9))), (q2 2, .inl ((cy 0), 12, .inl (zw g9))), (q2 3, .inl ((cy 0), 12, .inl (zd g9))), (q2 4, .inl ((cy 0), 12, .inl (zs g9))), (q2 5, .inl ((cy 0), 12, .inl (zr g9))), (q2 6, .inl ((cy 1), 12, .inl (zo g9))), (a 3, .inl ((cy 2), 6, .inr (.inr (.inr (.inr (fun i => some (ca i))))))), (ca 0, .inr (0, [.ref (ta 0), .int (nI (ul u 0)), .int (nI (uz u 0))])), (ca 1, .inr (0, [.ref (ta 1), .int (nI (ul u 1)), .int (nI (uz u 1))])), (ca 2, .inr (0, [.ref (ta 2), .int (nI (ul u 2)), .int (nI (uz u 2))])), (ca 3, .inr (0, [.ref (ta 3), .int (nI (ul u 3)), .int (nI (uz u 3))])), (ca 4, .inr (0, [.ref (ta 4), .int (nI (ul u 4)), .int (nI (uz u 4))])), (ca 5, .inr (0, [.ref (ta 5), .int (nI (ul u 5)), .int (nI (uz u 5))])), (ta 0, .inl ((cy 0), 4, .inl (ut u 0))), (ta 1, .inl ((cy 0), 4, .inl (ut u 1))), (ta 2, .inl ((cy 0), 4, .inl (ut u 2))), (ta 3, .inl ((cy 0), 4, .inl (ut u 3))), (ta 4, .inl ((cy 0), 4, .inl (ut u 4))), (ta 5, .inl ((cy 0), 4, .inl (ut u 5))), (o, .inl ((cy 3), 1, .inr (.inl (vp_updL f (0 : Int32).toNatClampNeg ((tone (hN (ix k) (ix k + 1) (uw u) (ud u) (uh u) (ix v)) (ix k)).toInt64)))))] H := hP
    have hD : va_D A [(a 0, .inr (2, [.ref (q 0), .ref (q2 0), .ref (a 1), .ref (a 2), .ref (a 3), .int (nI (un u))])), (a 1, .inl ((cy 0), 12, .inl (uw u))), (a 2, .inl ((cy 0), 12, .inl (ud u))), (q 0, .inr (1, [.ref (q 1), .ref (q 2), .ref (q 3), .ref (q 4), .ref (q 5), .ref (q 6), .int (zl (uh u)), .int (nI (zh (uh u)))])), (q 1, .inl ((cy 0), 12, .inl (zb (uh u)))), (q 2, .inl ((cy 0), 12, .inl (zw (uh u)))), (q 3, .inl ((cy 0), 12, .inl (zd (uh u)))), (q 4, .inl ((cy 0), 12, .inl (zs (uh u)))), (q 5, .inl ((cy 0), 12, .inl (zr (uh u)))), (q 6, .inl ((cy 1), 12, .inl (zo (uh u)))), (q2 0, .inr (1, [.ref (q2 1), .ref (q2 2), .ref (q2 3), .ref (q2 4), .ref (q2 5), .ref (q2 6), .int (zl g9), .int (nI (zh g9))])), (q2 1, .inl ((cy 0), 12, .inl (zb g9))), (q2 2, .inl ((cy 0), 12, .inl (zw g9))), (q2 3, .inl ((cy 0), 12, .inl (zd g9))), (q2 4, .inl ((cy 0), 12, .inl (zs g9))), (q2 5, .inl ((cy 0), 12, .inl (zr g9))), (q2 6, .inl ((cy 1), 12, .inl (zo g9))), (a 3, .inl ((cy 2), 6, .inr (.inr (.inr (.inr (fun i => some (ca i))))))), (ca 0, .inr (0, [.ref (ta 0), .int (nI (ul u 0)), .int (nI (uz u 0))])), (ca 1, .inr (0, [.ref (ta 1), .int (nI (ul u 1)), .int (nI (uz u 1))])), (ca 2, .inr (0, [.ref (ta 2), .int (nI (ul u 2)), .int (nI (uz u 2))])), (ca 3, .inr (0, [.ref (ta 3), .int (nI (ul u 3)), .int (nI (uz u 3))])), (ca 4, .inr (0, [.ref (ta 4), .int (nI (ul u 4)), .int (nI (uz u 4))])), (ca 5, .inr (0, [.ref (ta 5), .int (nI (ul u 5)), .int (nI (uz u 5))])), (ta 0, .inl ((cy 0), 4, .inl (ut u 0))), (ta 1, .inl ((cy 0), 4, .inl (ut u 1))), (ta 2, .inl ((cy 0), 4, .inl (ut u 2))), (ta 3, .inl ((cy 0), 4, .inl (ut u 3))), (ta 4, .inl ((cy 0), 4, .inl (ut u 4))), (ta 5, .inl ((cy 0), 4, .inl (ut u 5))), (o, .inl ((cy 3), 1, .inr (.inl (vp_updL f (0 : Int32).toNatClampNeg ((tone (hN (ix k) (ix k + 1) (uw u) (ud u) (uh u) (ix v)) (ix k)).toInt64)))))] := hD
    refine lv_goto (tgt := 21) hx hb dL_foresee_10 (by decide) ?_
    refine lv_iconst (v := 0) hx hb dL_foresee_21 (by decide) ?_
    have hP9 : va_P D vwCl (wX cy a q q2 ca ta (u, g9, vp_updL f (0 : Int32).toNatClampNeg ((tone (hN (ix k) (ix k + 1) (uw u) (ud u) (uh u) (ix v)) (ix k)).toInt64)).1 (u, g9, vp_updL f (0 : Int32).toNatClampNeg ((tone (hN (ix k) (ix k + 1) (uw u) (ud u) (uh u) (ix v)) (ix k)).toInt64)).2.1 ++ [(o, .inl (cy 3, 1, .inr (.inl (u, g9, vp_updL f (0 : Int32).toNatClampNeg ((tone (hN (ix k) (ix k + 1) (uw u) (ud u) (uh u) (ix v)) (ix k)).toInt64)).2.2)))]) H := hP
    have hD9 : va_D A (wX cy a q q2 ca ta (u, g9, vp_updL f (0 : Int32).toNatClampNeg ((tone (hN (ix k) (ix k + 1) (uw u) (ud u) (uh u) (ix v)) (ix k)).toInt64)).1 (u, g9, vp_updL f (0 : Int32).toNatClampNeg ((tone (hN (ix k) (ix k + 1) (uw u) (ud u) (uh u) (ix v)) (ix k)).toInt64)).2.1 ++ [(o, .inl (cy 3, 1, .inr (.inl (u, g9, vp_updL f (0 : Int32).toNatClampNeg ((tone (hN (ix k) (ix k + 1) (uw u) (ud u) (uh u) (ix v)) (ix k)).toInt64)).2.2)))]) := hD
    exact W.iret (v := 0) hx hb hr (fun t ht hW => ⟨⟨0, (u, g9, vp_updL f (0 : Int32).toNatClampNeg ((tone (hN (ix k) (ix k + 1) (uw u) (ud u) (uh u) (ix v)) (ix k)).toInt64)), rfl, ⟨by rw [hx9]; rfl, fun _ => ⟨(updL_at (f := f) (x := (tone (hN (ix k) (ix k + 1) (uw u) (ud u) (uh u) (ix v)) (ix k)).toInt64)), rfl⟩, fun z => absurd hx9 z⟩, by rw [ht]; exact hP9, hD9⟩, hS.F ht⟩) hS.2.2 dL_foresee_22

