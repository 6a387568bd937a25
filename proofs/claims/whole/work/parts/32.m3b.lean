theorem inX3_push_RX3 : ∀ w ∈ u_ws RX3 TX3 8, w ∈ wsX3_push := by decide +kernel
theorem kX3_push_0 : (.fieldLink RX3 32 "WedgeHarpsModel" "thrown" "I" : Cond) ∈ wsX3_push := by decide +kernel
set_option maxHeartbeats 4000000 in
set_option maxRecDepth 100000 in
theorem mX3_push (l : Launch) (D : va_G) (cy : Nat → ClassId) (sz : Nat) (b : Nat → Nat) (u : US) (th : Int32) (hu : uOk u) (kv xv : Int32) : Met l yX3_push wsX3_push ({ frames := 4, cells := 0, slots := 0, locals := 90 } : Room) (va_Pc [.ref (b 0), .int kv, .int xv] (fun U => U.heap.size = sz ∧ va_P D vwCl (wM cy b u th pz) U.heap ∧ va_K D vwCl (TY cy) U ∧ va_D (fun _ => True) (wM cy b u th pz))) (va_Qi (fun (r8 : Int32) (u9 : US) => (exPush u kv xv = 0 → r8 = tone (hPush (uh u) (ix kv) xv) (ix kv) ∧ u9 = uH u (hPush (uh u) (ix kv) xv)) ∧ (¬ exPush u kv xv = 0 → u9 = u)) (fun (u9 : US) t => va_P D vwCl (wM cy b u9 (nI (exPush u kv xv)) pz) t.heap ∧ va_D (va_A (wM cy b u th pz) sz) (wM cy b u9 (nI (exPush u kv xv)) pz)) (va_A (wM cy b u th pz) sz)) 0 0 (va_A (wM cy b u th pz) sz) := by
  refine Met.ofW (cc := cX3_push) (maxL := 3) (ret := (some .int)) (by decide) rfl ?_
  intro p e s m args below meth c s₁ B hml hv
  obtain ⟨rfl, hsz, hP, hK, hD0⟩ := hv
  have hx := B.exec
  have hb := B.bytes
  have hr := B.returns
  have hts := atoms_spec (ws := wsX3_push) B.pre
  have hown : s.vm.findClass RX3 = some m.cls := findClass_of_methodNamed B.named
  have hlocks := B.notSynchronized
  have hl := lv_entry ([.ref (b 0), .int kv, .int xv]) (n := 3) (Nat.le_of_ble_eq_true rfl)
  rw [lg_entry_eq]
  generalize (lg_sl ([.ref (b 0), .int kv, .int xv]) ++ List.replicate (3 - (lg_sl ([.ref (b 0), .int kv, .int xv])).length) Slot.unset).toArray = ls at hl ⊢
  have hl : lv_has ls 3 [(0, .ref (b 0)), (1, .int kv), (2, .int xv)] := hl
  subst hsz
  have hD := hD0.self (sz := s.heap.size)
  generalize hAe : va_A (wM cy b u th pz) s.heap.size = A at hD ⊢
  have hA : ∀ q : Nat, s.heap.size ≤ q → A q := fun q h => by rw [← hAe]; exact Or.inr h
  have hS : va_S A s.heap s.heap [] := va_S.rf
  have hP : va_P D vwCl (wM cy b u th pz) s.heap := hP
  refine lv_aload_n hx hb dX3_push_0 rfl (lv_at hl 0 rfl) ?_
  refine lv_iconst (v := 0) hx hb dX3_push_1 (by decide) ?_
  refine va_put (D := D) (ci := 3) (v := .int 0) (ty := .int) (C := RX3) (T := TX3) (N := 8) hx hb hts inX3_push_RX3 tyX3 tyX3_ok nmX3 hown hK hP hD hS 0 rfl rfl 0 (by decide) (hts _ kX3_push_0) (fun _ h9 => h9) rfl (by decide +kernel) rfl rfl (Nat.le_of_ble_eq_true rfl) dX3_push_2 (fun H locs hP hD hS => ?_)
  have hP : va_P D vwCl [(b 0, .inr (3, [.int 0, .ref (b 1), .int (nI (un u)), .ref (b 2), .ref (b 3), .ref (b 4), .ref (b 5), .ref (b 6)])), (b 1, .inl ((cy 0), 72, .inl (mh (uh u)))), (b 2, .inl ((cy 0), 36, .inl (mt (ul u) (uz u) (ut u)))), (b 3, .inl ((cy 0), 12, .inl (uw u))), (b 4, .inl ((cy 0), 12, .inl (ud u))), (b 5, .inl ((cy 0), 2, .inl (mb (uh u)))), (b 6, .inl ((cy 0), 12, .inl pz))] H := hP
  have hD : va_D A [(b 0, .inr (3, [.int 0, .ref (b 1), .int (nI (un u)), .ref (b 2), .ref (b 3), .ref (b 4), .ref (b 5), .ref (b 6)])), (b 1, .inl ((cy 0), 72, .inl (mh (uh u)))), (b 2, .inl ((cy 0), 36, .inl (mt (ul u) (uz u) (ut u)))), (b 3, .inl ((cy 0), 12, .inl (uw u))), (b 4, .inl ((cy 0), 12, .inl (ud u))), (b 5, .inl ((cy 0), 2, .inl (mb (uh u)))), (b 6, .inl ((cy 0), 12, .inl pz))] := hD
  have hP : va_P D vwCl (wM cy b u 0 pz) H := hP
  have hD : va_D A (wM cy b u 0 pz) := hD
  refine lv_iload_n hx hb dX3_push_5 rfl (lv_at hl 1 rfl) ?_
  refine pc_calli (va_runS (As := [.int kv]) (rest := []) ⟨hx, hb, hml, hown, hts⟩ (mX3_isString l D cy kv) (va_cwS 1 hts gX3_push_X3_isString rfl rfl rfl (by decide +kernel) ⟨Nat.le_of_ble_eq_true rfl, Nat.le_of_ble_eq_true rfl⟩) ⟨fun a U g mk q => q, fun U hU hW => ⟨rfl, trivial⟩⟩ rfl rfl hl.1 rfl (lv_room (Nat.le_of_ble_eq_true rfl)) dX3_push_6 ⟨Nat.le_of_ble_eq_true rfl, Nat.le_of_ble_eq_true rfl⟩) (fun r9 hr9 => ?_)
  subst hr9
  refine lv_if_ne (tgt := 18) hx hb dX3_push_9 (by decide) (fun c9 => ?_) (fun c9 => ?_)
  · obtain ⟨j, hj, rfl⟩ := isS_nat (bI_1.mp c9)
    have ej : ix (nI j) = j := ix_nI (show j < 2147483648 by omega)
    refine lv_iload_n hx hb dX3_push_18 rfl (lv_at hl 2 rfl) ?_
    refine lv_if_eq (tgt := 33) hx hb dX3_push_19 (by decide) (fun c19 => ?_) (fun c19 => ?_)
    · refine lv_aload_n hx hb dX3_push_33 rfl (lv_at hl 0 rfl) ?_
      refine lv_iconst (v := 2) hx hb dX3_push_34 (by decide) ?_
      have hPc := hP.sub (ws' := wM cy b u 0 pz) [0, 1, 2, 3, 4, 5, 6] rfl
      have hDc := hD.sub (ws' := wM cy b u 0 pz) [0, 1, 2, 3, 4, 5, 6] (by decide) rfl
      have hFc := va_free (wc := wM cy b u 0 pz) hD hS hA [0, 1, 2, 3, 4, 5, 6] rfl
      refine va_calli (va_runV (As := [.int 2]) (rest := []) ⟨hx, hb, hml, hown, hts⟩ (mX3_fail l D cy H.size b u 0 pz 2) (cwV 1 hts gX3_push_X3_fail rfl rfl rfl (by decide +kernel) ⟨Nat.le_of_ble_eq_true rfl, Nat.le_of_ble_eq_true rfl⟩) ⟨fun a U g mk q => ⟨q.1, q.2.1, q.2.2.1, va_K.moved (u := U) (U := U.calling g mk a) (Vm.Alike.refl U.vm) q.2.2.2.1, q.2.2.2.2⟩, va_recv hK hPc (ci := 3) (q0 := 0) rfl rfl, fun U hU hW => ⟨rfl, by rw [hU], by rw [hU]; exact hPc, va_K.moved hW.alike hK, hDc.weaken (fun _ _ _ _ => trivial)⟩⟩ rfl rfl hl.1 rfl (lv_room (Nat.le_of_ble_eq_true rfl)) dX3_push_35 ⟨Nat.le_of_ble_eq_true rfl, Nat.le_of_ble_eq_true rfl⟩) hS (fun q _ h => hFc q h) hFc (fun r9 u9 t9 H1 locs ht9 hvm9 hw9 hB9 hz9 hk9 hS => ?_)
      obtain ⟨hP1, hD1⟩ := hB9
      rw [ht9] at hP1
      obtain ⟨hP, hD⟩ := va_join (wr := []) (w1 := wM cy b u 2 pz) hP hD [0, 1, 2, 3, 4, 5, 6] [] rfl rfl (by decide) (by decide) hk9 hFc hP1 hD1
      generalize H1 = H at hP hS ⊢
      have hP : va_P D vwCl (wM cy b u 2 pz) H := hP.sub [0, 1, 2, 3, 4, 5, 6] rfl
      have hD : va_D A (wM cy b u 2 pz) := hD.sub [0, 1, 2, 3, 4, 5, 6] (by decide) rfl
      clear hP1 hD1 hk9 hz9 ht9 hvm9 hPc hDc hFc
      subst hw9
      have hex9 : exPush u (nI j) xv = 2 := by simp [exPush, ej, bI_1.mp c9, c19]
      have hP9 : va_P D vwCl (wM cy b u (nI (exPush u (nI j) xv)) pz) H := (by rw [hex9]; exact hP)
      have hD9 : va_D A (wM cy b u (nI (exPush u (nI j) xv)) pz) := (by rw [hex9]; exact hD)
      exact W.iret (v := 0) hx hb hr (fun t ht hW => ⟨⟨0, u, rfl, ⟨fun z => absurd (hex9.symm.trans z) (by decide), fun _ => rfl⟩, by rw [ht]; exact hP9, hD9⟩, hS.F ht⟩) hS.2.2 dX3_push_38
    · refine lv_iload_n hx hb dX3_push_22 rfl (lv_at hl 2 rfl) ?_
      refine lv_bipush (v := (-20)) hx hb dX3_push_23 (by decide) ?_
      refine lv_bipush (v := 20) hx hb dX3_push_25 (by decide) ?_
      refine pc_calli (va_runS (As := [.int xv, .int (-20), .int 20]) (rest := []) ⟨hx, hb, hml, hown, hts⟩ (mX3_isIn l D cy xv (-20) 20) (va_cwS 3 hts gX3_push_X3_isIn rfl rfl rfl (by decide +kernel) ⟨Nat.le_of_ble_eq_true rfl, Nat.le_of_ble_eq_true rfl⟩) ⟨fun a U g mk q => q, fun U hU hW => ⟨rfl, trivial⟩⟩ rfl rfl hl.1 rfl (lv_room (Nat.le_of_ble_eq_true rfl)) dX3_push_27 ⟨Nat.le_of_ble_eq_true rfl, Nat.le_of_ble_eq_true rfl⟩) (fun r9 hr9 => ?_)
      subst hr9
      refine pc_top (show bI (isIn xv (-20) 20) = bI (isW xv) from (by rw [isIn_W])) ?_
      refine lv_if_ne (tgt := 39) hx hb dX3_push_30 (by decide) (fun c30 => ?_) (fun c30 => ?_)
      · refine lv_aload_n hx hb dX3_push_39 rfl (lv_at hl 0 rfl) ?_
        refine lv_iload_n hx hb dX3_push_40 rfl (lv_at hl 1 rfl) ?_
        refine lv_iconst (v := 1) hx hb dX3_push_41 (by decide) ?_
        refine pc_calli (va_runV (As := [.int (nI j), .int 1]) (rest := []) ⟨hx, hb, hml, hown, hts⟩ (mX3_ha l D cy b u 0 pz j 1 hj (by decide)) (cwV 2 hts gX3_push_X3_ha rfl rfl rfl (by decide +kernel) ⟨Nat.le_of_ble_eq_true rfl, Nat.le_of_ble_eq_true rfl⟩) ⟨fun a U g mk q => ⟨q.1, q.2.1, va_K.moved (u := U) (U := U.calling g mk a) (Vm.Alike.refl U.vm) q.2.2⟩, va_recv hK hP (ci := 3) (q0 := 0) rfl rfl, fun U hU hW => ⟨rfl, by rw [hU]; exact hP, va_K.moved hW.alike hK⟩⟩ rfl rfl hl.1 rfl (lv_room (Nat.le_of_ble_eq_true rfl)) dX3_push_42 ⟨Nat.le_of_ble_eq_true rfl, Nat.le_of_ble_eq_true rfl⟩) (fun r9 hr9 => ?_)
        subst hr9
        refine pc_top (show haF (uh u) j 1 = zw (uh u) j from rfl) ?_
        refine lv_iload_n hx hb dX3_push_45 rfl (lv_at hl 2 rfl) ?_
        refine lv_iadd hx hb dX3_push_46 ?_
        refine lv_iconst (v := 0) hx hb dX3_push_47 (by decide) ?_
        refine lv_bipush (v := 20) hx hb dX3_push_48 (by decide) ?_
        refine pc_calli (va_runS (As := [.int ((zw (uh u) j) + xv), .int 0, .int 20]) (rest := []) ⟨hx, hb, hml, hown, hts⟩ (mX3_isIn l D cy (zw (uh u) j + xv) 0 20) (va_cwS 3 hts gX3_push_X3_isIn rfl rfl rfl (by decide +kernel) ⟨Nat.le_of_ble_eq_true rfl, Nat.le_of_ble_eq_true rfl⟩) ⟨fun a U g mk q => q, fun U hU hW => ⟨rfl, trivial⟩⟩ rfl rfl hl.1 rfl (lv_room (Nat.le_of_ble_eq_true rfl)) dX3_push_50 ⟨Nat.le_of_ble_eq_true rfl, Nat.le_of_ble_eq_true rfl⟩) (fun r9 hr9 => ?_)
        subst hr9
        refine pc_top (show bI (isIn (zw (uh u) j + xv) 0 20) = bI (fitsW (zw (uh u) j + xv)) from rfl) ?_
        refine lv_if_ne (tgt := 62) hx hb dX3_push_53 (by decide) (fun c53 => ?_) (fun c53 => ?_)
        · refine lv_aload_n hx hb dX3_push_62 rfl (lv_at hl 0 rfl) ?_
          refine lv_iload_n hx hb dX3_push_63 rfl (lv_at hl 1 rfl) ?_
          refine lv_iconst (v := 1) hx hb dX3_push_64 (by decide) ?_
          refine lv_aload_n hx hb dX3_push_65 rfl (lv_at hl 0 rfl) ?_
          refine lv_iload_n hx hb dX3_push_66 rfl (lv_at hl 1 rfl) ?_
          refine lv_iconst (v := 1) hx hb dX3_push_67 (by decide) ?_
          refine pc_calli (va_runV (As := [.int (nI j), .int 1]) (rest := [.int 1, .int (nI j), .ref (b 0)]) ⟨hx, hb, hml, hown, hts⟩ (mX3_ha l D cy b u 0 pz j 1 hj (by decide)) (cwV 2 hts gX3_push_X3_ha rfl rfl rfl (by decide +kernel) ⟨Nat.le_of_ble_eq_true rfl, Nat.le_of_ble_eq_true rfl⟩) ⟨fun a U g mk q => ⟨q.1, q.2.1, va_K.moved (u := U) (U := U.calling g mk a) (Vm.Alike.refl U.vm) q.2.2⟩, va_recv hK hP (ci := 3) (q0 := 0) rfl rfl, fun U hU hW => ⟨rfl, by rw [hU]; exact hP, va_K.moved hW.alike hK⟩⟩ rfl rfl hl.1 rfl (lv_room (Nat.le_of_ble_eq_true rfl)) dX3_push_68 ⟨Nat.le_of_ble_eq_true rfl, Nat.le_of_ble_eq_true rfl⟩) (fun r9 hr9 => ?_)
          subst hr9
          refine pc_top (show haF (uh u) j 1 = zw (uh u) j from rfl) ?_
          refine lv_iload_n hx hb dX3_push_71 rfl (lv_at hl 2 rfl) ?_
          refine lv_iadd hx hb dX3_push_72 ?_
          have hPc := hP.sub (ws' := wM cy b u 0 pz) [0, 1, 2, 3, 4, 5, 6] rfl
          have hDc := hD.sub (ws' := wM cy b u 0 pz) [0, 1, 2, 3, 4, 5, 6] (by decide) rfl
          have hFc := va_free (wc := wM cy b u 0 pz) hD hS hA [0, 1, 2, 3, 4, 5, 6] rfl
          refine va_callv (va_runV (As := [.int (nI j), .int 1, .int ((zw (uh u) j) + xv)]) (rest := []) ⟨hx, hb, hml, hown, hts⟩ (mX3_put l D cy H.size b u 0 pz j 1 hj (by decide) (zw (uh u) j + xv)) (cwV 3 hts gX3_push_X3_put rfl rfl rfl (by decide +kernel) ⟨Nat.le_of_ble_eq_true rfl, Nat.le_of_ble_eq_true rfl⟩) ⟨fun a U g mk q => ⟨q.1, q.2.1, q.2.2.1, va_K.moved (u := U) (U := U.calling g mk a) (Vm.Alike.refl U.vm) q.2.2.2.1, q.2.2.2.2⟩, va_recv hK hPc (ci := 3) (q0 := 0) rfl rfl, fun U hU hW => ⟨rfl, by rw [hU], by rw [hU]; exact hPc, va_K.moved hW.alike hK, hDc.weaken (fun _ _ _ _ => trivial)⟩⟩ rfl rfl hl.1 rfl (lv_room (Nat.le_of_ble_eq_true rfl)) dX3_push_73 ⟨Nat.le_of_ble_eq_true rfl, Nat.le_of_ble_eq_true rfl⟩) hS (fun q _ h => hFc q h) hFc (fun u9 t9 H1 locs ht9 hvm9 hw9 hB9 hz9 hk9 hS => ?_)
          obtain ⟨hP1, hD1⟩ := hB9
          rw [ht9] at hP1
          obtain ⟨hP, hD⟩ := va_join (wr := []) (w1 := wM cy b (uH u (hPush (uh u) j xv)) 0 pz) hP hD [0, 1, 2, 3, 4, 5, 6] [] rfl rfl (by decide) (by decide) hk9 hFc hP1 hD1
          generalize H1 = H at hP hS ⊢
          have hP : va_P D vwCl (wM cy b (uH u (hPush (uh u) j xv)) 0 pz) H := hP.sub [0, 1, 2, 3, 4, 5, 6] rfl
          have hD : va_D A (wM cy b (uH u (hPush (uh u) j xv)) 0 pz) := hD.sub [0, 1, 2, 3, 4, 5, 6] (by decide) rfl
          clear hP1 hD1 hk9 hz9 ht9 hvm9 hPc hDc hFc
          refine lv_aload_n hx hb dX3_push_76 rfl (lv_at hl 0 rfl) ?_
          refine lv_iload_n hx hb dX3_push_77 rfl (lv_at hl 1 rfl) ?_
          refine pc_calli (va_runV (As := [.int (nI j)]) (rest := []) ⟨hx, hb, hml, hown, hts⟩ (mX3_tone l D cy b (uH u (hPush (uh u) j xv)) 0 pz j hj) (cwV 1 hts gX3_push_X3_tone rfl rfl rfl (by decide +kernel) ⟨Nat.le_of_ble_eq_true rfl, Nat.le_of_ble_eq_true rfl⟩) ⟨fun a U g mk q => ⟨q.1, q.2.1, va_K.moved (u := U) (U := U.calling g mk a) (Vm.Alike.refl U.vm) q.2.2⟩, va_recv hK hP (ci := 3) (q0 := 0) rfl rfl, fun U hU hW => ⟨rfl, by rw [hU]; exact hP, va_K.moved hW.alike hK⟩⟩ rfl rfl hl.1 rfl (lv_room (Nat.le_of_ble_eq_true rfl)) dX3_push_78 ⟨Nat.le_of_ble_eq_true rfl, Nat.le_of_ble_eq_true rfl⟩) (fun r9 hr9 => ?_)
          subst hr9
          refine pc_top (show toneP (hPush (uh u) j xv) pz j = tone (hPush (uh u) j xv) j from (toneP_0 (by omega))) ?_
          have hex9 : exPush u (nI j) xv = 0 := by simp [exPush, ej, bI_1.mp c9, c19, bI_1.mp c30, bI_1.mp c53]
          have hP9 : va_P D vwCl (wM cy b (uH u (hPush (uh u) (ix (nI j)) xv)) (nI (exPush u (nI j) xv)) pz) H := (by rw [hex9, ej]; exact hP)
          have hD9 : va_D A (wM cy b (uH u (hPush (uh u) (ix (nI j)) xv)) (nI (exPush u (nI j) xv)) pz) := (by rw [hex9, ej]; exact hD)
          exact W.iret (v := tone (hPush (uh u) j xv) j) hx hb hr (fun t ht hW => ⟨⟨tone (hPush (uh u) j xv) j, (uH u (hPush (uh u) (ix (nI j)) xv)), rfl, ⟨fun _ => ⟨by rw [ej], rfl⟩, fun z => absurd hex9 z⟩, by rw [ht]; exact hP9, hD9⟩, hS.F ht⟩) hS.2.2 dX3_push_81
        · refine lv_aload_n hx hb dX3_push_56 rfl (lv_at hl 0 rfl) ?_
          refine lv_iconst (v := 3) hx hb dX3_push_57 (by decide) ?_
          have hPc := hP.sub (ws' := wM cy b u 0 pz) [0, 1, 2, 3, 4, 5, 6] rfl
          have hDc := hD.sub (ws' := wM cy b u 0 pz) [0, 1, 2, 3, 4, 5, 6] (by decide) rfl
          have hFc := va_free (wc := wM cy b u 0 pz) hD hS hA [0, 1, 2, 3, 4, 5, 6] rfl
          refine va_calli (va_runV (As := [.int 3]) (rest := []) ⟨hx, hb, hml, hown, hts⟩ (mX3_fail l D cy H.size b u 0 pz 3) (cwV 1 hts gX3_push_X3_fail rfl rfl rfl (by decide +kernel) ⟨Nat.le_of_ble_eq_true rfl, Nat.le_of_ble_eq_true rfl⟩) ⟨fun a U g mk q => ⟨q.1, q.2.1, q.2.2.1, va_K.moved (u := U) (U := U.calling g mk a) (Vm.Alike.refl U.vm) q.2.2.2.1, q.2.2.2.2⟩, va_recv hK hPc (ci := 3) (q0 := 0) rfl rfl, fun U hU hW => ⟨rfl, by rw [hU], by rw [hU]; exact hPc, va_K.moved hW.alike hK, hDc.weaken (fun _ _ _ _ => trivial)⟩⟩ rfl rfl hl.1 rfl (lv_room (Nat.le_of_ble_eq_true rfl)) dX3_push_58 ⟨Nat.le_of_ble_eq_true rfl, Nat.le_of_ble_eq_true rfl⟩) hS (fun q _ h => hFc q h) hFc (fun r9 u9 t9 H1 locs ht9 hvm9 hw9 hB9 hz9 hk9 hS => ?_)
          obtain ⟨hP1, hD1⟩ := hB9
          rw [ht9] at hP1
          obtain ⟨hP, hD⟩ := va_join (wr := []) (w1 := wM cy b u 3 pz) hP hD [0, 1, 2, 3, 4, 5, 6] [] rfl rfl (by decide) (by decide) hk9 hFc hP1 hD1
          generalize H1 = H at hP hS ⊢
          have hP : va_P D vwCl (wM cy b u 3 pz) H := hP.sub [0, 1, 2, 3, 4, 5, 6] rfl
          have hD : va_D A (wM cy b u 3 pz) := hD.sub [0, 1, 2, 3, 4, 5, 6] (by decide) rfl
          clear hP1 hD1 hk9 hz9 ht9 hvm9 hPc hDc hFc
          subst hw9
          have hex9 : exPush u (nI j) xv = 3 := by simp [exPush, ej, bI_1.mp c9, c19, bI_1.mp c30, bI_0.mp c53]
          have hP9 : va_P D vwCl (wM cy b u (nI (exPush u (nI j) xv)) pz) H := (by rw [hex9]; exact hP)
          have hD9 : va_D A (wM cy b u (nI (exPush u (nI j) xv)) pz) := (by rw [hex9]; exact hD)
          exact W.iret (v := 0) hx hb hr (fun t ht hW => ⟨⟨0, u, rfl, ⟨fun z => absurd (hex9.symm.trans z) (by decide), fun _ => rfl⟩, by rw [ht]; exact hP9, hD9⟩, hS.F ht⟩) hS.2.2 dX3_push_61
      · refine lv_aload_n hx hb dX3_push_33 rfl (lv_at hl 0 rfl) ?_
        refine lv_iconst (v := 2) hx hb dX3_push_34 (by decide) ?_
        have hPc := hP.sub (ws' := wM cy b u 0 pz) [0, 1, 2, 3, 4, 5, 6] rfl
        have hDc := hD.sub (ws' := wM cy b u 0 pz) [0, 1, 2, 3, 4, 5, 6] (by decide) rfl
        have hFc := va_free (wc := wM cy b u 0 pz) hD hS hA [0, 1, 2, 3, 4, 5, 6] rfl
        refine va_calli (va_runV (As := [.int 2]) (rest := []) ⟨hx, hb, hml, hown, hts⟩ (mX3_fail l D cy H.size b u 0 pz 2) (cwV 1 hts gX3_push_X3_fail rfl rfl rfl (by decide +kernel) ⟨Nat.le_of_ble_eq_true rfl, Nat.le_of_ble_eq_true rfl⟩) ⟨fun a U g mk q => ⟨q.1, q.2.1, q.2.2.1, va_K.moved (u := U) (U := U.calling g mk a) (Vm.Alike.refl U.vm) q.2.2.2.1, q.2.2.2.2⟩, va_recv hK hPc (ci := 3) (q0 := 0) rfl rfl, fun U hU hW => ⟨rfl, by rw [hU], by rw [hU]; exact hPc, va_K.moved hW.alike hK, hDc.weaken (fun _ _ _ _ => trivial)⟩⟩ rfl rfl hl.1 rfl (lv_room (Nat.le_of_ble_eq_true rfl)) dX3_push_35 ⟨Nat.le_of_ble_eq_true rfl, Nat.le_of_ble_eq_true rfl⟩) hS (fun q _ h => hFc q h) hFc (fun r9 u9 t9 H1 locs ht9 hvm9 hw9 hB9 hz9 hk9 hS => ?_)
        obtain ⟨hP1, hD1⟩ := hB9
        rw [ht9] at hP1
        obtain ⟨hP, hD⟩ := va_join (wr := []) (w1 := wM cy b u 2 pz) hP hD [0, 1, 2, 3, 4, 5, 6] [] rfl rfl (by decide) (by decide) hk9 hFc hP1 hD1
        generalize H1 = H at hP hS ⊢
        have hP : va_P D vwCl (wM cy b u 2 pz) H := hP.sub [0, 1, 2, 3, 4, 5, 6] rfl
        have hD : va_D A (wM cy b u 2 pz) := hD.sub [0, 1, 2, 3, 4, 5, 6] (by decide) rfl
        clear hP1 hD1 hk9 hz9 ht9 hvm9 hPc hDc hFc
        subst hw9
        have hex9 : exPush u (nI j) xv = 2 := by simp [exPush, ej, bI_1.mp c9, c19, bI_0.mp c30]
        have hP9 : va_P D vwCl (wM cy b u (nI (exPush u (nI j) xv)) pz) H := (by rw [hex9]; exact hP)
        have hD9 : va_D A (wM cy b u (nI (exPush u (nI j) xv)) pz) := (by rw [hex9]; exact hD)
        exact W.iret (v := 0) hx hb hr (fun t ht hW => ⟨⟨0, u, rfl, ⟨fun z => absurd (hex9.symm.trans z) (by decide), fun _ => rfl⟩, by rw [ht]; exact hP9, hD9⟩, hS.F ht⟩) hS.2.2 dX3_push_38
  · refine lv_aload_n hx hb dX3_push_12 rfl (lv_at hl 0 rfl) ?_
    refine lv_iconst (v := 1) hx hb dX3_push_13 (by decide) ?_
    have hPc := hP.sub (ws' := wM cy b u 0 pz) [0, 1, 2, 3, 4, 5, 6] rfl
    have hDc := hD.sub (ws' := wM cy b u 0 pz) [0, 1, 2, 3, 4, 5, 6] (by decide) rfl
    have hFc := va_free (wc := wM cy b u 0 pz) hD hS hA [0, 1, 2, 3, 4, 5, 6] rfl
    refine va_calli (va_runV (As := [.int 1]) (rest := []) ⟨hx, hb, hml, hown, hts⟩ (mX3_fail l D cy H.size b u 0 pz 1) (cwV 1 hts gX3_push_X3_fail rfl rfl rfl (by decide +kernel) ⟨Nat.le_of_ble_eq_true rfl, Nat.le_of_ble_eq_true rfl⟩) ⟨fun a U g mk q => ⟨q.1, q.2.1, q.2.2.1, va_K.moved (u := U) (U := U.calling g mk a) (Vm.Alike.refl U.vm) q.2.2.2.1, q.2.2.2.2⟩, va_recv hK hPc (ci := 3) (q0 := 0) rfl rfl, fun U hU hW => ⟨rfl, by rw [hU], by rw [hU]; exact hPc, va_K.moved hW.alike hK, hDc.weaken (fun _ _ _ _ => trivial)⟩⟩ rfl rfl hl.1 rfl (lv_room (Nat.le_of_ble_eq_true rfl)) dX3_push_14 ⟨Nat.le_of_ble_eq_true rfl, Nat.le_of_ble_eq_true rfl⟩) hS (fun q _ h => hFc q h) hFc (fun r9 u9 t9 H1 locs ht9 hvm9 hw9 hB9 hz9 hk9 hS => ?_)
    obtain ⟨hP1, hD1⟩ := hB9
    rw [ht9] at hP1
    obtain ⟨hP, hD⟩ := va_join (wr := []) (w1 := wM cy b u 1 pz) hP hD [0, 1, 2, 3, 4, 5, 6] [] rfl rfl (by decide) (by decide) hk9 hFc hP1 hD1
    generalize H1 = H at hP hS ⊢
    have hP : va_P D vwCl (wM cy b u 1 pz) H := hP.sub [0, 1, 2, 3, 4, 5, 6] rfl
    have hD : va_D A (wM cy b u 1 pz) := hD.sub [0, 1, 2, 3, 4, 5, 6] (by decide) rfl
    clear hP1 hD1 hk9 hz9 ht9 hvm9 hPc hDc hFc
    subst hw9
    have hex9 : exPush u kv xv = 1 := by simp [exPush, bI_0.mp c9]
    have hP9 : va_P D vwCl (wM cy b u (nI (exPush u kv xv)) pz) H := (by rw [hex9]; exact hP)
    have hD9 : va_D A (wM cy b u (nI (exPush u kv xv)) pz) := (by rw [hex9]; exact hD)
    exact W.iret (v := 0) hx hb hr (fun t ht hW => ⟨⟨0, u, rfl, ⟨fun z => absurd (hex9.symm.trans z) (by decide), fun _ => rfl⟩, by rw [ht]; exact hP9, hD9⟩, hS.F ht⟩) hS.2.2 dX3_push_17

theorem inX3_draw_RX3 : ∀ w ∈ u_ws RX3 TX3 8, w ∈ wsX3_draw := by decide +kernel
theorem kX3_draw_0 : (.fieldLink RX3 32 "WedgeHarpsModel" "thrown" "I" : Cond) ∈ wsX3_draw := by decide +kernel
set_option maxHeartbeats 4000000 in
set_option maxRecDepth 100000 in
theorem mX3_draw (l : Launch) (D : va_G) (cy : Nat → ClassId) (sz : Nat) (b : Nat → Nat) (u : US) (th : Int32) (hu : uOk u) (kv xv : Int32) : Met l yX3_draw wsX3_draw ({ frames := 4, cells := 0, slots := 0, locals := 90 } : Room) (va_Pc [.ref (b 0), .int kv, .int xv] (fun U => U.heap.size = sz ∧ va_P D vwCl (wM cy b u th pz) U.heap ∧ va_K D vwCl (TY cy) U ∧ va_D (fun _ => True) (wM cy b u th pz))) (va_Qi (fun (r8 : Int32) (u9 : US) => (exDraw kv xv = 0 → r8 = tone (hRenew (uh u) (ix kv) xv) (ix kv) ∧ u9 = uH u (hRenew (uh u) (ix kv) xv)) ∧ (¬ exDraw kv xv = 0 → u9 = u)) (fun (u9 : US) t => va_P D vwCl (wM cy b u9 (nI (exDraw kv xv)) pz) t.heap ∧ va_D (va_A (wM cy b u th pz) sz) (wM cy b u9 (nI (exDraw kv xv)) pz)) (va_A (wM cy b u th pz) sz)) 0 0 (va_A (wM cy b u th pz) sz) := by
  refine Met.ofW (cc := cX3_draw) (maxL := 3) (ret := (some .int)) (by decide) rfl ?_
  intro p e s m args below meth c s₁ B hml hv
  obtain ⟨rfl, hsz, hP, hK, hD0⟩ := hv
  have hx := B.exec
  have hb := B.bytes
  have hr := B.returns
  have hts := atoms_spec (ws := wsX3_draw) B.pre
  have hown : s.vm.findClass RX3 = some m.cls := findClass_of_methodNamed B.named
  have hlocks := B.notSynchronized
  have hl := lv_entry ([.ref (b 0), .int kv, .int xv]) (n := 3) (Nat.le_of_ble_eq_true rfl)
  rw [lg_entry_eq]
  generalize (lg_sl ([.ref (b 0), .int kv, .int xv]) ++ List.replicate (3 - (lg_sl ([.ref (b 0), .int kv, .int xv])).length) Slot.unset).toArray = ls at hl ⊢
  have hl : lv_has ls 3 [(0, .ref (b 0)), (1, .int kv), (2, .int xv)] := hl
  subst hsz
  have hD := hD0.self (sz := s.heap.size)
  generalize hAe : va_A (wM cy b u th pz) s.heap.size = A at hD ⊢
  have hA : ∀ q : Nat, s.heap.size ≤ q → A q := fun q h => by rw [← hAe]; exact Or.inr h
  have hS : va_S A s.heap s.heap [] := va_S.rf
  have hP : va_P D vwCl (wM cy b u th pz) s.heap := hP
  refine lv_aload_n hx hb dX3_draw_0 rfl (lv_at hl 0 rfl) ?_
  refine lv_iconst (v := 0) hx hb dX3_draw_1 (by decide) ?_
  refine va_put (D := D) (ci := 3) (v := .int 0) (ty := .int) (C := RX3) (T := TX3) (N := 8) hx hb hts inX3_draw_RX3 tyX3 tyX3_ok nmX3 hown hK hP hD hS 0 rfl rfl 0 (by decide) (hts _ kX3_draw_0) (fun _ h9 => h9) rfl (by decide +kernel) rfl rfl (Nat.le_of_ble_eq_true rfl) dX3_draw_2 (fun H locs hP hD hS => ?_)
  have hP : va_P D vwCl [(b 0, .inr (3, [.int 0, .ref (b 1), .int (nI (un u)), .ref (b 2), .ref (b 3), .ref (b 4), .ref (b 5), .ref (b 6)])), (b 1, .inl ((cy 0), 72, .inl (mh (uh u)))), (b 2, .inl ((cy 0), 36, .inl (mt (ul u) (uz u) (ut u)))), (b 3, .inl ((cy 0), 12, .inl (uw u))), (b 4, .inl ((cy 0), 12, .inl (ud u))), (b 5, .inl ((cy 0), 2, .inl (mb (uh u)))), (b 6, .inl ((cy 0), 12, .inl pz))] H := hP
  have hD : va_D A [(b 0, .inr (3, [.int 0, .ref (b 1), .int (nI (un u)), .ref (b 2), .ref (b 3), .ref (b 4), .ref (b 5), .ref (b 6)])), (b 1, .inl ((cy 0), 72, .inl (mh (uh u)))), (b 2, .inl ((cy 0), 36, .inl (mt (ul u) (uz u) (ut u)))), (b 3, .inl ((cy 0), 12, .inl (uw u))), (b 4, .inl ((cy 0), 12, .inl (ud u))), (b 5, .inl ((cy 0), 2, .inl (mb (uh u)))), (b 6, .inl ((cy 0), 12, .inl pz))] := hD
  have hP : va_P D vwCl (wM cy b u 0 pz) H := hP
  have hD : va_D A (wM cy b u 0 pz) := hD
  refine lv_iload_n hx hb dX3_draw_5 rfl (lv_at hl 1 rfl) ?_
  refine pc_calli (va_runS (As := [.int kv]) (rest := []) ⟨hx, hb, hml, hown, hts⟩ (mX3_isString l D cy kv) (va_cwS 1 hts gX3_draw_X3_isString rfl rfl rfl (by decide +kernel) ⟨Nat.le_of_ble_eq_true rfl, Nat.le_of_ble_eq_true rfl⟩) ⟨fun a U g mk q => q, fun U hU hW => ⟨rfl, trivial⟩⟩ rfl rfl hl.1 rfl (lv_room (Nat.le_of_ble_eq_true rfl)) dX3_draw_6 ⟨Nat.le_of_ble_eq_true rfl, Nat.le_of_ble_eq_true rfl⟩) (fun r9 hr9 => ?_)
  subst hr9
  refine lv_if_ne (tgt := 18) hx hb dX3_draw_9 (by decide) (fun c9 => ?_) (fun c9 => ?_)
  · obtain ⟨j, hj, rfl⟩ := isS_nat (bI_1.mp c9)
    have ej : ix (nI j) = j := ix_nI (show j < 2147483648 by omega)
    refine lv_iload_n hx hb dX3_draw_18 rfl (lv_at hl 2 rfl) ?_
    refine lv_bipush (v := 100) hx hb dX3_draw_19 (by decide) ?_
    refine lv_sipush (v := 900) hx hb dX3_draw_21 (by decide) ?_
    refine pc_calli (va_runS (As := [.int xv, .int 100, .int 900]) (rest := []) ⟨hx, hb, hml, hown, hts⟩ (mX3_isIn l D cy xv 100 900) (va_cwS 3 hts gX3_draw_X3_isIn rfl rfl rfl (by decide +kernel) ⟨Nat.le_of_ble_eq_true rfl, Nat.le_of_ble_eq_true rfl⟩) ⟨fun a U g mk q => q, fun U hU hW => ⟨rfl, trivial⟩⟩ rfl rfl hl.1 rfl (lv_room (Nat.le_of_ble_eq_true rfl)) dX3_draw_24 ⟨Nat.le_of_ble_eq_true rfl, Nat.le_of_ble_eq_true rfl⟩) (fun r9 hr9 => ?_)
    subst hr9
    refine pc_top (show bI (isIn xv 100 900) = bI (isB xv) from (by rw [isIn_B])) ?_
    refine lv_if_ne (tgt := 36) hx hb dX3_draw_27 (by decide) (fun c27 => ?_) (fun c27 => ?_)
    · refine lv_aload_n hx hb dX3_draw_36 rfl (lv_at hl 0 rfl) ?_
      refine lv_iload_n hx hb dX3_draw_37 rfl (lv_at hl 1 rfl) ?_
      refine lv_iconst (v := 0) hx hb dX3_draw_38 (by decide) ?_
      refine lv_iload_n hx hb dX3_draw_39 rfl (lv_at hl 2 rfl) ?_
      have hPc := hP.sub (ws' := wM cy b u 0 pz) [0, 1, 2, 3, 4, 5, 6] rfl
      have hDc := hD.sub (ws' := wM cy b u 0 pz) [0, 1, 2, 3, 4, 5, 6] (by decide) rfl
      have hFc := va_free (wc := wM cy b u 0 pz) hD hS hA [0, 1, 2, 3, 4, 5, 6] rfl
      refine va_callv (va_runV (As := [.int (nI j), .int 0, .int xv]) (rest := []) ⟨hx, hb, hml, hown, hts⟩ (mX3_put l D cy H.size b u 0 pz j 0 hj (by decide) xv) (cwV 3 hts gX3_draw_X3_put rfl rfl rfl (by decide +kernel) ⟨Nat.le_of_ble_eq_true rfl, Nat.le_of_ble_eq_true rfl⟩) ⟨fun a U g mk q => ⟨q.1, q.2.1, q.2.2.1, va_K.moved (u := U) (U := U.calling g mk a) (Vm.Alike.refl U.vm) q.2.2.2.1, q.2.2.2.2⟩, va_recv hK hPc (ci := 3) (q0 := 0) rfl rfl, fun U hU hW => ⟨rfl, by rw [hU], by rw [hU]; exact hPc, va_K.moved hW.alike hK, hDc.weaken (fun _ _ _ _ => trivial)⟩⟩ rfl rfl hl.1 rfl (lv_room (Nat.le_of_ble_eq_true rfl)) dX3_draw_40 ⟨Nat.le_of_ble_eq_true rfl, Nat.le_of_ble_eq_true rfl⟩) hS (fun q _ h => hFc q h) hFc (fun u9 t9 H1 locs ht9 hvm9 hw9 hB9 hz9 hk9 hS => ?_)
      obtain ⟨hP1, hD1⟩ := hB9
      rw [ht9] at hP1
      obtain ⟨hP, hD⟩ := va_join (wr := []) (w1 := wM cy b (uH u (putH (uh u) j 0 xv)) 0 pz) hP hD [0, 1, 2, 3, 4, 5, 6] [] rfl rfl (by decide) (by decide) hk9 hFc hP1 hD1
      generalize H1 = H at hP hS ⊢
      have hP : va_P D vwCl (wM cy b (uH u (putH (uh u) j 0 xv)) 0 pz) H := hP.sub [0, 1, 2, 3, 4, 5, 6] rfl
      have hD : va_D A (wM cy b (uH u (putH (uh u) j 0 xv)) 0 pz) := hD.sub [0, 1, 2, 3, 4, 5, 6] (by decide) rfl
      clear hP1 hD1 hk9 hz9 ht9 hvm9 hPc hDc hFc
      refine lv_aload_n hx hb dX3_draw_43 rfl (lv_at hl 0 rfl) ?_
      refine lv_iload_n hx hb dX3_draw_44 rfl (lv_at hl 1 rfl) ?_
      refine lv_iconst (v := 4) hx hb dX3_draw_45 (by decide) ?_
      refine lv_iconst (v := 1) hx hb dX3_draw_46 (by decide) ?_
      have hPc := hP.sub (ws' := wM cy b (uH u (putH (uh u) j 0 xv)) 0 pz) [0, 1, 2, 3, 4, 5, 6] rfl
      have hDc := hD.sub (ws' := wM cy b (uH u (putH (uh u) j 0 xv)) 0 pz) [0, 1, 2, 3, 4, 5, 6] (by decide) rfl
      have hFc := va_free (wc := wM cy b (uH u (putH (uh u) j 0 xv)) 0 pz) hD hS hA [0, 1, 2, 3, 4, 5, 6] rfl
      refine va_callv (va_runV (As := [.int (nI j), .int 4, .int 1]) (rest := []) ⟨hx, hb, hml, hown, hts⟩ (mX3_put l D cy H.size b (uH u (putH (uh u) j 0 xv)) 0 pz j 4 hj (by decide) 1) (cwV 3 hts gX3_draw_X3_put rfl rfl rfl (by decide +kernel) ⟨Nat.le_of_ble_eq_true rfl, Nat.le_of_ble_eq_true rfl⟩) ⟨fun a U g mk q => ⟨q.1, q.2.1, q.2.2.1, va_K.moved (u := U) (U := U.calling g mk a) (Vm.Alike.refl U.vm) q.2.2.2.1, q.2.2.2.2⟩, va_recv hK hPc (ci := 3) (q0 := 0) rfl rfl, fun U hU hW => ⟨rfl, by rw [hU], by rw [hU]; exact hPc, va_K.moved hW.alike hK, hDc.weaken (fun _ _ _ _ => trivial)⟩⟩ rfl rfl hl.1 rfl (lv_room (Nat.le_of_ble_eq_true rfl)) dX3_draw_47 ⟨Nat.le_of_ble_eq_true rfl, Nat.le_of_ble_eq_true rfl⟩) hS (fun q _ h => hFc q h) hFc (fun u9 t9 H1 locs ht9 hvm9 hw9 hB9 hz9 hk9 hS => ?_)
      obtain ⟨hP1, hD1⟩ := hB9
      rw [ht9] at hP1
      obtain ⟨hP, hD⟩ := va_join (wr := []) (w1 := wM cy b (uH u (putH (putH (uh u) j 0 xv) j 4 1)) 0 pz) hP hD [0, 1, 2, 3, 4, 5, 6] [] rfl rfl (by decide) (by decide) hk9 hFc hP1 hD1
      generalize H1 = H at hP hS ⊢
      have hP : va_P D vwCl (wM cy b (uH u (putH (putH (uh u) j 0 xv) j 4 1)) 0 pz) H := hP.sub [0, 1, 2, 3, 4, 5, 6] rfl
      have hD : va_D A (wM cy b (uH u (putH (putH (uh u) j 0 xv) j 4 1)) 0 pz) := hD.sub [0, 1, 2, 3, 4, 5, 6] (by decide) rfl
      clear hP1 hD1 hk9 hz9 ht9 hvm9 hPc hDc hFc
      refine lv_aload_n hx hb dX3_draw_50 rfl (lv_at hl 0 rfl) ?_
      refine lv_iload_n hx hb dX3_draw_51 rfl (lv_at hl 1 rfl) ?_
      refine lv_iconst (v := 2) hx hb dX3_draw_52 (by decide) ?_
      refine lv_iconst (v := 0) hx hb dX3_draw_53 (by decide) ?_
      have hPc := hP.sub (ws' := wM cy b (uH u (putH (putH (uh u) j 0 xv) j 4 1)) 0 pz) [0, 1, 2, 3, 4, 5, 6] rfl
      have hDc := hD.sub (ws' := wM cy b (uH u (putH (putH (uh u) j 0 xv) j 4 1)) 0 pz) [0, 1, 2, 3, 4, 5, 6] (by decide) rfl
      have hFc := va_free (wc := wM cy b (uH u (putH (putH (uh u) j 0 xv) j 4 1)) 0 pz) hD hS hA [0, 1, 2, 3, 4, 5, 6] rfl
      refine va_callv (va_runV (As := [.int (nI j), .int 2, .int 0]) (rest := []) ⟨hx, hb, hml, hown, hts⟩ (mX3_put l D cy H.size b (uH u (putH (putH (uh u) j 0 xv) j 4 1)) 0 pz j 2 hj (by decide) 0) (cwV 3 hts gX3_draw_X3_put rfl rfl rfl (by decide +kernel) ⟨Nat.le_of_ble_eq_true rfl, Nat.le_of_ble_eq_true rfl⟩) ⟨fun a U g mk q => ⟨q.1, q.2.1, q.2.2.1, va_K.moved (u := U) (U := U.calling g mk a) (Vm.Alike.refl U.vm) q.2.2.2.1, q.2.2.2.2⟩, va_recv hK hPc (ci := 3) (q0 := 0) rfl rfl, fun U hU hW => ⟨rfl, by rw [hU], by rw [hU]; exact hPc, va_K.moved hW.alike hK, hDc.weaken (fun _ _ _ _ => trivial)⟩⟩ rfl rfl hl.1 rfl (lv_room (Nat.le_of_ble_eq_true rfl)) dX3_draw_54 ⟨Nat.le_of_ble_eq_true rfl, Nat.le_of_ble_eq_true rfl⟩) hS (fun q _ h => hFc q h) hFc (fun u9 t9 H1 locs ht9 hvm9 hw9 hB9 hz9 hk9 hS => ?_)
      obtain ⟨hP1, hD1⟩ := hB9
      rw [ht9] at hP1
      obtain ⟨hP, hD⟩ := va_join (wr := []) (w1 := wM cy b (uH u (putH (putH (putH (uh u) j 0 xv) j 4 1) j 2 0)) 0 pz) hP hD [0, 1, 2, 3, 4, 5, 6] [] rfl rfl (by decide) (by decide) hk9 hFc hP1 hD1
      generalize H1 = H at hP hS ⊢
      have hP : va_P D vwCl (wM cy b (uH u (putH (putH (putH (uh u) j 0 xv) j 4 1) j 2 0)) 0 pz) H := hP.sub [0, 1, 2, 3, 4, 5, 6] rfl
      have hD : va_D A (wM cy b (uH u (putH (putH (putH (uh u) j 0 xv) j 4 1) j 2 0)) 0 pz) := hD.sub [0, 1, 2, 3, 4, 5, 6] (by decide) rfl
      clear hP1 hD1 hk9 hz9 ht9 hvm9 hPc hDc hFc
      refine lv_aload_n hx hb dX3_draw_57 rfl (lv_at hl 0 rfl) ?_
      refine lv_iload_n hx hb dX3_draw_58 rfl (lv_at hl 1 rfl) ?_
      refine lv_iconst (v := 3) hx hb dX3_draw_59 (by decide) ?_
      refine lv_iconst (v := 0) hx hb dX3_draw_60 (by decide) ?_
      have hPc := hP.sub (ws' := wM cy b (uH u (putH (putH (putH (uh u) j 0 xv) j 4 1) j 2 0)) 0 pz) [0, 1, 2, 3, 4, 5, 6] rfl
      have hDc := hD.sub (ws' := wM cy b (uH u (putH (putH (putH (uh u) j 0 xv) j 4 1) j 2 0)) 0 pz) [0, 1, 2, 3, 4, 5, 6] (by decide) rfl
      have hFc := va_free (wc := wM cy b (uH u (putH (putH (putH (uh u) j 0 xv) j 4 1) j 2 0)) 0 pz) hD hS hA [0, 1, 2, 3, 4, 5, 6] rfl
      refine va_callv (va_runV (As := [.int (nI j), .int 3, .int 0]) (rest := []) ⟨hx, hb, hml, hown, hts⟩ (mX3_put l D cy H.size b (uH u (putH (putH (putH (uh u) j 0 xv) j 4 1) j 2 0)) 0 pz j 3 hj (by decide) 0) (cwV 3 hts gX3_draw_X3_put rfl rfl rfl (by decide +kernel) ⟨Nat.le_of_ble_eq_true rfl, Nat.le_of_ble_eq_true rfl⟩) ⟨fun a U g mk q => ⟨q.1, q.2.1, q.2.2.1, va_K.moved (u := U) (U := U.calling g mk a) (Vm.Alike.refl U.vm) q.2.2.2.1, q.2.2.2.2⟩, va_recv hK hPc (ci := 3) (q0 := 0) rfl rfl, fun U hU hW => ⟨rfl, by rw [hU], by rw [hU]; exact hPc, va_K.moved hW.alike hK, hDc.weaken (fun _ _ _ _ => trivial)⟩⟩ rfl rfl hl.1 rfl (lv_room (Nat.le_of_ble_eq_true rfl)) dX3_draw_61 ⟨Nat.le_of_ble_eq_true rfl, Nat.le_of_ble_eq_true rfl⟩) hS (fun q _ h => hFc q h) hFc (fun u9 t9 H1 locs ht9 hvm9 hw9 hB9 hz9 hk9 hS => ?_)
      obtain ⟨hP1, hD1⟩ := hB9
      rw [ht9] at hP1
      obtain ⟨hP, hD⟩ := va_join (wr := []) (w1 := wM cy b (uH u (putH (putH (putH (putH (uh u) j 0 xv) j 4 1) j 2 0) j 3 0)) 0 pz) hP hD [0, 1, 2, 3, 4, 5, 6] [] rfl rfl (by decide) (by decide) hk9 hFc hP1 hD1
      generalize H1 = H at hP hS ⊢
      have hP : va_P D vwCl (wM cy b (uH u (putH (putH (putH (putH (uh u) j 0 xv) j 4 1) j 2 0) j 3 0)) 0 pz) H := hP.sub [0, 1, 2, 3, 4, 5, 6] rfl
      have hD : va_D A (wM cy b (uH u (putH (putH (putH (putH (uh u) j 0 xv) j 4 1) j 2 0) j 3 0)) 0 pz) := hD.sub [0, 1, 2, 3, 4, 5, 6] (by decide) rfl
      clear hP1 hD1 hk9 hz9 ht9 hvm9 hPc hDc hFc
      have hP : va_P D vwCl (wM cy b (uH u (hRenew (uh u) j xv)) 0 pz) H := hP
      have hD : va_D A (wM cy b (uH u (hRenew (uh u) j xv)) 0 pz) := hD
      refine lv_aload_n hx hb dX3_draw_64 rfl (lv_at hl 0 rfl) ?_
      refine lv_iload_n hx hb dX3_draw_65 rfl (lv_at hl 1 rfl) ?_
      refine pc_calli (va_runV (As := [.int (nI j)]) (rest := []) ⟨hx, hb, hml, hown, hts⟩ (mX3_tone l D cy b (uH u (hRenew (uh u) j xv)) 0 pz j hj) (cwV 1 hts gX3_draw_X3_tone rfl rfl rfl (by decide +kernel) ⟨Nat.le_of_ble_eq_true rfl, Nat.le_of_ble_eq_true rfl⟩) ⟨fun a U g mk q => ⟨q.1, q.2.1, va_K.moved (u := U) (U := U.calling g mk a) (Vm.Alike.refl U.vm) q.2.2⟩, va_recv hK hP (ci := 3) (q0 := 0) rfl rfl, fun U hU hW => ⟨rfl, by rw [hU]; exact hP, va_K.moved hW.alike hK⟩⟩ rfl rfl hl.1 rfl (lv_room (Nat.le_of_ble_eq_true rfl)) dX3_draw_66 ⟨Nat.le_of_ble_eq_true rfl, Nat.le_of_ble_eq_true rfl⟩) (fun r9 hr9 => ?_)
      subst hr9
      refine pc_top (show toneP (hRenew (uh u) j xv) pz j = tone (hRenew (uh u) j xv) j from (toneP_0 (by omega))) ?_
      have hex9 : exDraw (nI j) xv = 0 := by simp [exDraw, ej, bI_1.mp c9, bI_1.mp c27]
      have hP9 : va_P D vwCl (wM cy b (uH u (hRenew (uh u) (ix (nI j)) xv)) (nI (exDraw (nI j) xv)) pz) H := (by rw [hex9, ej]; exact hP)
      have hD9 : va_D A (wM cy b (uH u (hRenew (uh u) (ix (nI j)) xv)) (nI (exDraw (nI j) xv)) pz) := (by rw [hex9, ej]; exact hD)
      exact W.iret (v := tone (hRenew (uh u) j xv) j) hx hb hr (fun t ht hW => ⟨⟨tone (hRenew (uh u) j xv) j, (uH u (hRenew (uh u) (ix (nI j)) xv)), rfl, ⟨fun _ => ⟨by rw [ej], rfl⟩, fun z => absurd hex9 z⟩, by rw [ht]; exact hP9, hD9⟩, hS.F ht⟩) hS.2.2 dX3_draw_69
    · refine lv_aload_n hx hb dX3_draw_30 rfl (lv_at hl 0 rfl) ?_
      refine lv_iconst (v := 2) hx hb dX3_draw_31 (by decide) ?_
      have hPc := hP.sub (ws' := wM cy b u 0 pz) [0, 1, 2, 3, 4, 5, 6] rfl
      have hDc := hD.sub (ws' := wM cy b u 0 pz) [0, 1, 2, 3, 4, 5, 6] (by decide) rfl
      have hFc := va_free (wc := wM cy b u 0 pz) hD hS hA [0, 1, 2, 3, 4, 5, 6] rfl
      refine va_calli (va_runV (As := [.int 2]) (rest := []) ⟨hx, hb, hml, hown, hts⟩ (mX3_fail l D cy H.size b u 0 pz 2) (cwV 1 hts gX3_draw_X3_fail rfl rfl rfl (by decide +kernel) ⟨Nat.le_of_ble_eq_true rfl, Nat.le_of_ble_eq_true rfl⟩) ⟨fun a U g mk q => ⟨q.1, q.2.1, q.2.2.1, va_K.moved (u := U) (U := U.calling g mk a) (Vm.Alike.refl U.vm) q.2.2.2.1, q.2.2.2.2⟩, va_recv hK hPc (ci := 3) (q0 := 0) rfl rfl, fun U hU hW => ⟨rfl, by rw [hU], by rw [hU]; exact hPc, va_K.moved hW.alike hK, hDc.weaken (fun _ _ _ _ => trivial)⟩⟩ rfl rfl hl.1 rfl (lv_room (Nat.le_of_ble_eq_true rfl)) dX3_draw_32 ⟨Nat.le_of_ble_eq_true rfl, Nat.le_of_ble_eq_true rfl⟩) hS (fun q _ h => hFc q h) hFc (fun r9 u9 t9 H1 locs ht9 hvm9 hw9 hB9 hz9 hk9 hS => ?_)
      obtain ⟨hP1, hD1⟩ := hB9
      rw [ht9] at hP1
      obtain ⟨hP, hD⟩ := va_join (wr := []) (w1 := wM cy b u 2 pz) hP hD [0, 1, 2, 3, 4, 5, 6] [] rfl rfl (by decide) (by decide) hk9 hFc hP1 hD1
      generalize H1 = H at hP hS ⊢
      have hP : va_P D vwCl (wM cy b u 2 pz) H := hP.sub [0, 1, 2, 3, 4, 5, 6] rfl
      have hD : va_D A (wM cy b u 2 pz) := hD.sub [0, 1, 2, 3, 4, 5, 6] (by decide) rfl
      clear hP1 hD1 hk9 hz9 ht9 hvm9 hPc hDc hFc
      subst hw9
      have hex9 : exDraw (nI j) xv = 2 := by simp [exDraw, ej, bI_1.mp c9, bI_0.mp c27]
      have hP9 : va_P D vwCl (wM cy b u (nI (exDraw (nI j) xv)) pz) H := (by rw [hex9]; exact hP)
      have hD9 : va_D A (wM cy b u (nI (exDraw (nI j) xv)) pz) := (by rw [hex9]; exact hD)
      exact W.iret (v := 0) hx hb hr (fun t ht hW => ⟨⟨0, u, rfl, ⟨fun z => absurd (hex9.symm.trans z) (by decide), fun _ => rfl⟩, by rw [ht]; exact hP9, hD9⟩, hS.F ht⟩) hS.2.2 dX3_draw_35
  · refine lv_aload_n hx hb dX3_draw_12 rfl (lv_at hl 0 rfl) ?_
    refine lv_iconst (v := 1) hx hb dX3_draw_13 (by decide) ?_
    have hPc := hP.sub (ws' := wM cy b u 0 pz) [0, 1, 2, 3, 4, 5, 6] rfl
    have hDc := hD.sub (ws' := wM cy b u 0 pz) [0, 1, 2, 3, 4, 5, 6] (by decide) rfl
    have hFc := va_free (wc := wM cy b u 0 pz) hD hS hA [0, 1, 2, 3, 4, 5, 6] rfl
    refine va_calli (va_runV (As := [.int 1]) (rest := []) ⟨hx, hb, hml, hown, hts⟩ (mX3_fail l D cy H.size b u 0 pz 1) (cwV 1 hts gX3_draw_X3_fail rfl rfl rfl (by decide +kernel) ⟨Nat.le_of_ble_eq_true rfl, Nat.le_of_ble_eq_true rfl⟩) ⟨fun a U g mk q => ⟨q.1, q.2.1, q.2.2.1, va_K.moved (u := U) (U := U.calling g mk a) (Vm.Alike.refl U.vm) q.2.2.2.1, q.2.2.2.2⟩, va_recv hK hPc (ci := 3) (q0 := 0) rfl rfl, fun U hU hW => ⟨rfl, by rw [hU], by rw [hU]; exact hPc, va_K.moved hW.alike hK, hDc.weaken (fun _ _ _ _ => trivial)⟩⟩ rfl rfl hl.1 rfl (lv_room (Nat.le_of_ble_eq_true rfl)) dX3_draw_14 ⟨Nat.le_of_ble_eq_true rfl, Nat.le_of_ble_eq_true rfl⟩) hS (fun q _ h => hFc q h) hFc (fun r9 u9 t9 H1 locs ht9 hvm9 hw9 hB9 hz9 hk9 hS => ?_)
    obtain ⟨hP1, hD1⟩ := hB9
    rw [ht9] at hP1
    obtain ⟨hP, hD⟩ := va_join (wr := []) (w1 := wM cy b u 1 pz) hP hD [0, 1, 2, 3, 4, 5, 6] [] rfl rfl (by decide) (by decide) hk9 hFc hP1 hD1
    generalize H1 = H at hP hS ⊢
    have hP : va_P D vwCl (wM cy b u 1 pz) H := hP.sub [0, 1, 2, 3, 4, 5, 6] rfl
    have hD : va_D A (wM cy b u 1 pz) := hD.sub [0, 1, 2, 3, 4, 5, 6] (by decide) rfl
    clear hP1 hD1 hk9 hz9 ht9 hvm9 hPc hDc hFc
    subst hw9
    have hex9 : exDraw kv xv = 1 := by simp [exDraw, bI_0.mp c9]
    have hP9 : va_P D vwCl (wM cy b u (nI (exDraw kv xv)) pz) H := (by rw [hex9]; exact hP)
    have hD9 : va_D A (wM cy b u (nI (exDraw kv xv)) pz) := (by rw [hex9]; exact hD)
    exact W.iret (v := 0) hx hb hr (fun t ht hW => ⟨⟨0, u, rfl, ⟨fun z => absurd (hex9.symm.trans z) (by decide), fun _ => rfl⟩, by rw [ht]; exact hP9, hD9⟩, hS.F ht⟩) hS.2.2 dX3_draw_17

theorem inX3_setWeather_RX3 : ∀ w ∈ u_ws RX3 TX3 8, w ∈ wsX3_setWeather := by decide +kernel
theorem kX3_setWeather_0 : (.fieldLink RX3 32 "WedgeHarpsModel" "thrown" "I" : Cond) ∈ wsX3_setWeather := by decide +kernel
theorem kX3_setWeather_1 : (.fieldLink RX3 16 "WedgeHarpsModel" "winds" "[I" : Cond) ∈ wsX3_setWeather := by decide +kernel
theorem kX3_setWeather_2 : (.fieldLink RX3 19 "WedgeHarpsModel" "damps" "[I" : Cond) ∈ wsX3_setWeather := by decide +kernel
set_option maxHeartbeats 4000000 in
set_option maxRecDepth 100000 in
theorem mX3_setWeather (l : Launch) (D : va_G) (cy : Nat → ClassId) (sz : Nat) (b : Nat → Nat) (u : US) (th : Int32) (hu : uOk u) (kv wv dv : Int32) : Met l yX3_setWeather wsX3_setWeather ({ frames := 2, cells := 0, slots := 0, locals := 40 } : Room) (va_Pc [.ref (b 0), .int kv, .int wv, .int dv] (fun U => U.heap.size = sz ∧ va_P D vwCl (wM cy b u th pz) U.heap ∧ va_K D vwCl (TY cy) U ∧ va_D (fun _ => True) (wM cy b u th pz))) (va_Qi (fun (r8 : Int32) (u9 : US) => (exWea kv wv dv = 0 → r8 = wea u (ix kv) ∧ u9 = uWea u (ix kv) wv dv) ∧ (¬ exWea kv wv dv = 0 → u9 = u)) (fun (u9 : US) t => va_P D vwCl (wM cy b u9 (nI (exWea kv wv dv)) pz) t.heap ∧ va_D (va_A (wM cy b u th pz) sz) (wM cy b u9 (nI (exWea kv wv dv)) pz)) (va_A (wM cy b u th pz) sz)) 0 0 (va_A (wM cy b u th pz) sz) := by
  refine Met.ofW (cc := cX3_setWeather) (maxL := 5) (ret := (some .int)) (by decide) rfl ?_
  intro p e s m args below meth c s₁ B hml hv
  obtain ⟨rfl, hsz, hP, hK, hD0⟩ := hv
  have hx := B.exec
  have hb := B.bytes
  have hr := B.returns
  have hts := atoms_spec (ws := wsX3_setWeather) B.pre
  have hown : s.vm.findClass RX3 = some m.cls := findClass_of_methodNamed B.named
  have hlocks := B.notSynchronized
  have hl := lv_entry ([.ref (b 0), .int kv, .int wv, .int dv]) (n := 5) (Nat.le_of_ble_eq_true rfl)
  rw [lg_entry_eq]
  generalize (lg_sl ([.ref (b 0), .int kv, .int wv, .int dv]) ++ List.replicate (5 - (lg_sl ([.ref (b 0), .int kv, .int wv, .int dv])).length) Slot.unset).toArray = ls at hl ⊢
  have hl : lv_has ls 5 [(0, .ref (b 0)), (1, .int kv), (2, .int wv), (3, .int dv)] := hl
  subst hsz
  have hD := hD0.self (sz := s.heap.size)
  generalize hAe : va_A (wM cy b u th pz) s.heap.size = A at hD ⊢
  have hA : ∀ q : Nat, s.heap.size ≤ q → A q := fun q h => by rw [← hAe]; exact Or.inr h
  have hS : va_S A s.heap s.heap [] := va_S.rf
  have hP : va_P D vwCl (wM cy b u th pz) s.heap := hP
  refine lv_aload_n hx hb dX3_setWeather_0 rfl (lv_at hl 0 rfl) ?_
  refine lv_iconst (v := 0) hx hb dX3_setWeather_1 (by decide) ?_
  refine va_put (D := D) (ci := 3) (v := .int 0) (ty := .int) (C := RX3) (T := TX3) (N := 8) hx hb hts inX3_setWeather_RX3 tyX3 tyX3_ok nmX3 hown hK hP hD hS 0 rfl rfl 0 (by decide) (hts _ kX3_setWeather_0) (fun _ h9 => h9) rfl (by decide +kernel) rfl rfl (Nat.le_of_ble_eq_true rfl) dX3_setWeather_2 (fun H locs hP hD hS => ?_)
  have hP : va_P D vwCl [(b 0, .inr (3, [.int 0, .ref (b 1), .int (nI (un u)), .ref (b 2), .ref (b 3), .ref (b 4), .ref (b 5), .ref (b 6)])), (b 1, .inl ((cy 0), 72, .inl (mh (uh u)))), (b 2, .inl ((cy 0), 36, .inl (mt (ul u) (uz u) (ut u)))), (b 3, .inl ((cy 0), 12, .inl (uw u))), (b 4, .inl ((cy 0), 12, .inl (ud u))), (b 5, .inl ((cy 0), 2, .inl (mb (uh u)))), (b 6, .inl ((cy 0), 12, .inl pz))] H := hP
  have hD : va_D A [(b 0, .inr (3, [.int 0, .ref (b 1), .int (nI (un u)), .ref (b 2), .ref (b 3), .ref (b 4), .ref (b 5), .ref (b 6)])), (b 1, .inl ((cy 0), 72, .inl (mh (uh u)))), (b 2, .inl ((cy 0), 36, .inl (mt (ul u) (uz u) (ut u)))), (b 3, .inl ((cy 0), 12, .inl (uw u))), (b 4, .inl ((cy 0), 12, .inl (ud u))), (b 5, .inl ((cy 0), 2, .inl (mb (uh u)))), (b 6, .inl ((cy 0), 12, .inl pz))] := hD
  have hP : va_P D vwCl (wM cy b u 0 pz) H := hP
  have hD : va_D A (wM cy b u 0 pz) := hD
  refine lv_iload_n hx hb dX3_setWeather_5 rfl (lv_at hl 1 rfl) ?_
  refine lv_iconst (v := 0) hx hb dX3_setWeather_6 (by decide) ?_
  refine lv_bipush (v := 11) hx hb dX3_setWeather_7 (by decide) ?_
  refine pc_calli (va_runS (As := [.int kv, .int 0, .int 11]) (rest := []) ⟨hx, hb, hml, hown, hts⟩ (mX3_isIn l D cy kv 0 11) (va_cwS 3 hts gX3_setWeather_X3_isIn rfl rfl rfl (by decide +kernel) ⟨Nat.le_of_ble_eq_true rfl, Nat.le_of_ble_eq_true rfl⟩) ⟨fun a U g mk q => q, fun U hU hW => ⟨rfl, trivial⟩⟩ rfl rfl hl.1 rfl (lv_room (Nat.le_of_ble_eq_true rfl)) dX3_setWeather_9 ⟨Nat.le_of_ble_eq_true rfl, Nat.le_of_ble_eq_true rfl⟩) (fun r9 hr9 => ?_)
  subst hr9
  refine pc_top (show bI (isIn kv 0 11) = bI (isS kv) from (by rw [isIn_S])) ?_
  refine lv_if_ne (tgt := 21) hx hb dX3_setWeather_12 (by decide) (fun c12 => ?_) (fun c12 => ?_)
  · obtain ⟨j, hj, rfl⟩ := isS_nat (bI_1.mp c12)
    have ej : ix (nI j) = j := ix_nI (show j < 2147483648 by omega)
    refine lv_iload_n hx hb dX3_setWeather_21 rfl (lv_at hl 2 rfl) ?_
    refine lv_iconst (v := 0) hx hb dX3_setWeather_22 (by decide) ?_
    refine lv_bipush (v := 20) hx hb dX3_setWeather_23 (by decide) ?_
    refine pc_calli (va_runS (As := [.int wv, .int 0, .int 20]) (rest := []) ⟨hx, hb, hml, hown, hts⟩ (mX3_isIn l D cy wv 0 20) (va_cwS 3 hts gX3_setWeather_X3_isIn rfl rfl rfl (by decide +kernel) ⟨Nat.le_of_ble_eq_true rfl, Nat.le_of_ble_eq_true rfl⟩) ⟨fun a U g mk q => q, fun U hU hW => ⟨rfl, trivial⟩⟩ rfl rfl hl.1 rfl (lv_room (Nat.le_of_ble_eq_true rfl)) dX3_setWeather_25 ⟨Nat.le_of_ble_eq_true rfl, Nat.le_of_ble_eq_true rfl⟩) (fun r9 hr9 => ?_)
    subst hr9
    refine pc_top (show bI (isIn wv 0 20) = bI (isWi wv) from (by rw [isIn_Wi])) ?_
    refine lv_if_eq (tgt := 41) hx hb dX3_setWeather_28 (by decide) (fun c28 => ?_) (fun c28 => ?_)
    · refine lv_aload_n hx hb dX3_setWeather_41 rfl (lv_at hl 0 rfl) ?_
      refine lv_iconst (v := 2) hx hb dX3_setWeather_42 (by decide) ?_
      have hPc := hP.sub (ws' := wM cy b u 0 pz) [0, 1, 2, 3, 4, 5, 6] rfl
      have hDc := hD.sub (ws' := wM cy b u 0 pz) [0, 1, 2, 3, 4, 5, 6] (by decide) rfl
      have hFc := va_free (wc := wM cy b u 0 pz) hD hS hA [0, 1, 2, 3, 4, 5, 6] rfl
      refine va_calli (va_runV (As := [.int 2]) (rest := []) ⟨hx, hb, hml, hown, hts⟩ (mX3_fail l D cy H.size b u 0 pz 2) (cwV 1 hts gX3_setWeather_X3_fail rfl rfl rfl (by decide +kernel) ⟨Nat.le_of_ble_eq_true rfl, Nat.le_of_ble_eq_true rfl⟩) ⟨fun a U g mk q => ⟨q.1, q.2.1, q.2.2.1, va_K.moved (u := U) (U := U.calling g mk a) (Vm.Alike.refl U.vm) q.2.2.2.1, q.2.2.2.2⟩, va_recv hK hPc (ci := 3) (q0 := 0) rfl rfl, fun U hU hW => ⟨rfl, by rw [hU], by rw [hU]; exact hPc, va_K.moved hW.alike hK, hDc.weaken (fun _ _ _ _ => trivial)⟩⟩ rfl rfl hl.1 rfl (lv_room (Nat.le_of_ble_eq_true rfl)) dX3_setWeather_43 ⟨Nat.le_of_ble_eq_true rfl, Nat.le_of_ble_eq_true rfl⟩) hS (fun q _ h => hFc q h) hFc (fun r9 u9 t9 H1 locs ht9 hvm9 hw9 hB9 hz9 hk9 hS => ?_)
      obtain ⟨hP1, hD1⟩ := hB9
      rw [ht9] at hP1
      obtain ⟨hP, hD⟩ := va_join (wr := []) (w1 := wM cy b u 2 pz) hP hD [0, 1, 2, 3, 4, 5, 6] [] rfl rfl (by decide) (by decide) hk9 hFc hP1 hD1
      generalize H1 = H at hP hS ⊢
      have hP : va_P D vwCl (wM cy b u 2 pz) H := hP.sub [0, 1, 2, 3, 4, 5, 6] rfl
      have hD : va_D A (wM cy b u 2 pz) := hD.sub [0, 1, 2, 3, 4, 5, 6] (by decide) rfl
      clear hP1 hD1 hk9 hz9 ht9 hvm9 hPc hDc hFc
      subst hw9
      have hex9 : exWea (nI j) wv dv = 2 := by simp [exWea, ej, bI_1.mp c12, bI_0.mp c28]
      have hP9 : va_P D vwCl (wM cy b u (nI (exWea (nI j) wv dv)) pz) H := (by rw [hex9]; exact hP)
      have hD9 : va_D A (wM cy b u (nI (exWea (nI j) wv dv)) pz) := (by rw [hex9]; exact hD)
      exact W.iret (v := 0) hx hb hr (fun t ht hW => ⟨⟨0, u, rfl, ⟨fun z => absurd (hex9.symm.trans z) (by decide), fun _ => rfl⟩, by rw [ht]; exact hP9, hD9⟩, hS.F ht⟩) hS.2.2 dX3_setWeather_46
    · refine lv_iload_n hx hb dX3_setWeather_31 rfl (lv_at hl 3 rfl) ?_
      refine lv_iconst (v := 0) hx hb dX3_setWeather_32 (by decide) ?_
      refine lv_bipush (v := 9) hx hb dX3_setWeather_33 (by decide) ?_
      refine pc_calli (va_runS (As := [.int dv, .int 0, .int 9]) (rest := []) ⟨hx, hb, hml, hown, hts⟩ (mX3_isIn l D cy dv 0 9) (va_cwS 3 hts gX3_setWeather_X3_isIn rfl rfl rfl (by decide +kernel) ⟨Nat.le_of_ble_eq_true rfl, Nat.le_of_ble_eq_true rfl⟩) ⟨fun a U g mk q => q, fun U hU hW => ⟨rfl, trivial⟩⟩ rfl rfl hl.1 rfl (lv_room (Nat.le_of_ble_eq_true rfl)) dX3_setWeather_35 ⟨Nat.le_of_ble_eq_true rfl, Nat.le_of_ble_eq_true rfl⟩) (fun r9 hr9 => ?_)
      subst hr9
      refine pc_top (show bI (isIn dv 0 9) = bI (isDa dv) from (by rw [isIn_Da])) ?_
      refine lv_if_ne (tgt := 47) hx hb dX3_setWeather_38 (by decide) (fun c38 => ?_) (fun c38 => ?_)
      · refine lv_bipush (v := 10) hx hb dX3_setWeather_47 (by decide) ?_
        refine lv_aload_n hx hb dX3_setWeather_49 rfl (lv_at hl 0 rfl) ?_
        refine va_get (D := D) (ci := 3) (v := .ref (b 3)) (C := RX3) (T := TX3) (N := 8) hx hb hts inX3_setWeather_RX3 hown hK hP 0 rfl rfl 4 (by decide) (hts _ kX3_setWeather_1) (fun _ h9 => h9) rfl dX3_setWeather_50 ?_
        refine lv_iload_n hx hb dX3_setWeather_53 rfl (lv_at hl 1 rfl) ?_
        refine pc_iald hx hb hK hP 3 0 rfl rfl (k := j) (show j < 12 by omega) (by decide) dX3_setWeather_54 ?_
        refine lv_imul hx hb dX3_setWeather_55 ?_
        refine lv_aload_n hx hb dX3_setWeather_56 rfl (lv_at hl 0 rfl) ?_
        refine va_get (D := D) (ci := 3) (v := .ref (b 4)) (C := RX3) (T := TX3) (N := 8) hx hb hts inX3_setWeather_RX3 hown hK hP 0 rfl rfl 5 (by decide) (hts _ kX3_setWeather_2) (fun _ h9 => h9) rfl dX3_setWeather_57 ?_
        refine lv_iload_n hx hb dX3_setWeather_60 rfl (lv_at hl 1 rfl) ?_
        refine pc_iald hx hb hK hP 4 0 rfl rfl (k := j) (show j < 12 by omega) (by decide) dX3_setWeather_61 ?_
        refine lv_iadd hx hb dX3_setWeather_62 ?_
        refine lv_istore (lv' := [(4, .int ((10 * ((uw u) j)) + ((ud u) j))), (0, .ref (b 0)), (1, .int (nI j)), (2, .int wv), (3, .int dv)]) hx hb dX3_setWeather_63 hl (by decide) rfl (fun ls hl => ?_)
        refine lv_aload_n hx hb dX3_setWeather_65 rfl (lv_at hl 1 rfl) ?_
        refine va_get (D := D) (ci := 3) (v := .ref (b 3)) (C := RX3) (T := TX3) (N := 8) hx hb hts inX3_setWeather_RX3 hown hK hP 0 rfl rfl 4 (by decide) (hts _ kX3_setWeather_1) (fun _ h9 => h9) rfl dX3_setWeather_66 ?_
        refine lv_iload_n hx hb dX3_setWeather_69 rfl (lv_at hl 2 rfl) ?_
        refine lv_iload_n hx hb dX3_setWeather_70 rfl (lv_at hl 3 rfl) ?_
        refine pc_iast hx hb hK hP hD hS 3 0 rfl rfl (k := j) (show j < 12 by omega) (by decide) dX3_setWeather_71 (fun H locs hP hD hS => ?_)
        have hP : va_P D vwCl [(b 0, .inr (3, [.int 0, .ref (b 1), .int (nI (un u)), .ref (b 2), .ref (b 3), .ref (b 4), .ref (b 5), .ref (b 6)])), (b 1, .inl ((cy 0), 72, .inl (mh (uh u)))), (b 2, .inl ((cy 0), 36, .inl (mt (ul u) (uz u) (ut u)))), (b 3, .inl ((cy 0), 12, .inl (upd (uw u) j wv))), (b 4, .inl ((cy 0), 12, .inl (ud u))), (b 5, .inl ((cy 0), 2, .inl (mb (uh u)))), (b 6, .inl ((cy 0), 12, .inl pz))] H := hP
        have hD : va_D A [(b 0, .inr (3, [.int 0, .ref (b 1), .int (nI (un u)), .ref (b 2), .ref (b 3), .ref (b 4), .ref (b 5), .ref (b 6)])), (b 1, .inl ((cy 0), 72, .inl (mh (uh u)))), (b 2, .inl ((cy 0), 36, .inl (mt (ul u) (uz u) (ut u)))), (b 3, .inl ((cy 0), 12, .inl (upd (uw u) j wv))), (b 4, .inl ((cy 0), 12, .inl (ud u))), (b 5, .inl ((cy 0), 2, .inl (mb (uh u)))), (b 6, .inl ((cy 0), 12, .inl pz))] := hD
        refine lv_aload_n hx hb dX3_setWeather_72 rfl (lv_at hl 1 rfl) ?_
        refine va_get (D := D) (ci := 3) (v := .ref (b 4)) (C := RX3) (T := TX3) (N := 8) hx hb hts inX3_setWeather_RX3 hown hK hP 0 rfl rfl 5 (by decide) (hts _ kX3_setWeather_2) (fun _ h9 => h9) rfl dX3_setWeather_73 ?_
        refine lv_iload_n hx hb dX3_setWeather_76 rfl (lv_at hl 2 rfl) ?_
        refine lv_iload_n hx hb dX3_setWeather_77 rfl (lv_at hl 4 rfl) ?_
        refine pc_iast hx hb hK hP hD hS 4 0 rfl rfl (k := j) (show j < 12 by omega) (by decide) dX3_setWeather_78 (fun H locs hP hD hS => ?_)
        have hP : va_P D vwCl [(b 0, .inr (3, [.int 0, .ref (b 1), .int (nI (un u)), .ref (b 2), .ref (b 3), .ref (b 4), .ref (b 5), .ref (b 6)])), (b 1, .inl ((cy 0), 72, .inl (mh (uh u)))), (b 2, .inl ((cy 0), 36, .inl (mt (ul u) (uz u) (ut u)))), (b 3, .inl ((cy 0), 12, .inl (upd (uw u) j wv))), (b 4, .inl ((cy 0), 12, .inl (upd (ud u) j dv))), (b 5, .inl ((cy 0), 2, .inl (mb (uh u)))), (b 6, .inl ((cy 0), 12, .inl pz))] H := hP
        have hD : va_D A [(b 0, .inr (3, [.int 0, .ref (b 1), .int (nI (un u)), .ref (b 2), .ref (b 3), .ref (b 4), .ref (b 5), .ref (b 6)])), (b 1, .inl ((cy 0), 72, .inl (mh (uh u)))), (b 2, .inl ((cy 0), 36, .inl (mt (ul u) (uz u) (ut u)))), (b 3, .inl ((cy 0), 12, .inl (upd (uw u) j wv))), (b 4, .inl ((cy 0), 12, .inl (upd (ud u) j dv))), (b 5, .inl ((cy 0), 2, .inl (mb (uh u)))), (b 6, .inl ((cy 0), 12, .inl pz))] := hD
        refine lv_iload hx hb dX3_setWeather_79 (lv_at hl 0 rfl) ?_
        have hex9 : exWea (nI j) wv dv = 0 := by simp [exWea, ej, bI_1.mp c12, bI_1.mp c28, bI_1.mp c38]
        have hP9 : va_P D vwCl (wM cy b (uWea u (ix (nI j)) wv dv) (nI (exWea (nI j) wv dv)) pz) H := (by rw [hex9, ej]; exact hP)
        have hD9 : va_D A (wM cy b (uWea u (ix (nI j)) wv dv) (nI (exWea (nI j) wv dv)) pz) := (by rw [hex9, ej]; exact hD)
        exact W.iret (v := (10 * ((uw u) j)) + ((ud u) j)) hx hb hr (fun t ht hW => ⟨⟨(10 * ((uw u) j)) + ((ud u) j), (uWea u (ix (nI j)) wv dv), rfl, ⟨fun _ => ⟨by rw [ej]; rfl, rfl⟩, fun z => absurd hex9 z⟩, by rw [ht]; exact hP9, hD9⟩, hS.F ht⟩) hS.2.2 dX3_setWeather_81
      · refine lv_aload_n hx hb dX3_setWeather_41 rfl (lv_at hl 0 rfl) ?_
        refine lv_iconst (v := 2) hx hb dX3_setWeather_42 (by decide) ?_
        have hPc := hP.sub (ws' := wM cy b u 0 pz) [0, 1, 2, 3, 4, 5, 6] rfl
        have hDc := hD.sub (ws' := wM cy b u 0 pz) [0, 1, 2, 3, 4, 5, 6] (by decide) rfl
        have hFc := va_free (wc := wM cy b u 0 pz) hD hS hA [0, 1, 2, 3, 4, 5, 6] rfl
        refine va_calli (va_runV (As := [.int 2]) (rest := []) ⟨hx, hb, hml, hown, hts⟩ (mX3_fail l D cy H.size b u 0 pz 2) (cwV 1 hts gX3_setWeather_X3_fail rfl rfl rfl (by decide +kernel) ⟨Nat.le_of_ble_eq_true rfl, Nat.le_of_ble_eq_true rfl⟩) ⟨fun a U g mk q => ⟨q.1, q.2.1, q.2.2.1, va_K.moved (u := U) (U := U.calling g mk a) (Vm.Alike.refl U.vm) q.2.2.2.1, q.2.2.2.2⟩, va_recv hK hPc (ci := 3) (q0 := 0) rfl rfl, fun U hU hW => ⟨rfl, by rw [hU], by rw [hU]; exact hPc, va_K.moved hW.alike hK, hDc.weaken (fun _ _ _ _ => trivial)⟩⟩ rfl rfl hl.1 rfl (lv_room (Nat.le_of_ble_eq_true rfl)) dX3_setWeather_43 ⟨Nat.le_of_ble_eq_true rfl, Nat.le_of_ble_eq_true rfl⟩) hS (fun q _ h => hFc q h) hFc (fun r9 u9 t9 H1 locs ht9 hvm9 hw9 hB9 hz9 hk9 hS => ?_)
        obtain ⟨hP1, hD1⟩ := hB9
        rw [ht9] at hP1
        obtain ⟨hP, hD⟩ := va_join (wr := []) (w1 := wM cy b u 2 pz) hP hD [0, 1, 2, 3, 4, 5, 6] [] rfl rfl (by decide) (by decide) hk9 hFc hP1 hD1
        generalize H1 = H at hP hS ⊢
        have hP : va_P D vwCl (wM cy b u 2 pz) H := hP.sub [0, 1, 2, 3, 4, 5, 6] rfl
        have hD : va_D A (wM cy b u 2 pz) := hD.sub [0, 1, 2, 3, 4, 5, 6] (by decide) rfl
        clear hP1 hD1 hk9 hz9 ht9 hvm9 hPc hDc hFc
        subst hw9
        have hex9 : exWea (nI j) wv dv = 2 := by simp [exWea, ej, bI_1.mp c12, bI_1.mp c28, bI_0.mp c38]
        have hP9 : va_P D vwCl (wM cy b u (nI (exWea (nI j) wv dv)) pz) H := (by rw [hex9]; exact hP)
        have hD9 : va_D A (wM cy b u (nI (exWea (nI j) wv dv)) pz) := (by rw [hex9]; exact hD)
        exact W.iret (v := 0) hx hb hr (fun t ht hW => ⟨⟨0, u, rfl, ⟨fun z => absurd (hex9.symm.trans z) (by decide), fun _ => rfl⟩, by rw [ht]; exact hP9, hD9⟩, hS.F ht⟩) hS.2.2 dX3_setWeather_46
  · refine lv_aload_n hx hb dX3_setWeather_15 rfl (lv_at hl 0 rfl) ?_
    refine lv_iconst (v := 1) hx hb dX3_setWeather_16 (by decide) ?_
    have hPc := hP.sub (ws' := wM cy b u 0 pz) [0, 1, 2, 3, 4, 5, 6] rfl
    have hDc := hD.sub (ws' := wM cy b u 0 pz) [0, 1, 2, 3, 4, 5, 6] (by decide) rfl
    have hFc := va_free (wc := wM cy b u 0 pz) hD hS hA [0, 1, 2, 3, 4, 5, 6] rfl
    refine va_calli (va_runV (As := [.int 1]) (rest := []) ⟨hx, hb, hml, hown, hts⟩ (mX3_fail l D cy H.size b u 0 pz 1) (cwV 1 hts gX3_setWeather_X3_fail rfl rfl rfl (by decide +kernel) ⟨Nat.le_of_ble_eq_true rfl, Nat.le_of_ble_eq_true rfl⟩) ⟨fun a U g mk q => ⟨q.1, q.2.1, q.2.2.1, va_K.moved (u := U) (U := U.calling g mk a) (Vm.Alike.refl U.vm) q.2.2.2.1, q.2.2.2.2⟩, va_recv hK hPc (ci := 3) (q0 := 0) rfl rfl, fun U hU hW => ⟨rfl, by rw [hU], by rw [hU]; exact hPc, va_K.moved hW.alike hK, hDc.weaken (fun _ _ _ _ => trivial)⟩⟩ rfl rfl hl.1 rfl (lv_room (Nat.le_of_ble_eq_true rfl)) dX3_setWeather_17 ⟨Nat.le_of_ble_eq_true rfl, Nat.le_of_ble_eq_true rfl⟩) hS (fun q _ h => hFc q h) hFc (fun r9 u9 t9 H1 locs ht9 hvm9 hw9 hB9 hz9 hk9 hS => ?_)
    obtain ⟨hP1, hD1⟩ := hB9
    rw [ht9] at hP1
    obtain ⟨hP, hD⟩ := va_join (wr := []) (w1 := wM cy b u 1 pz) hP hD [0, 1, 2, 3, 4, 5, 6] [] rfl rfl (by decide) (by decide) hk9 hFc hP1 hD1
    generalize H1 = H at hP hS ⊢
    have hP : va_P D vwCl (wM cy b u 1 pz) H := hP.sub [0, 1, 2, 3, 4, 5, 6] rfl
    have hD : va_D A (wM cy b u 1 pz) := hD.sub [0, 1, 2, 3, 4, 5, 6] (by decide) rfl
    clear hP1 hD1 hk9 hz9 ht9 hvm9 hPc hDc hFc
    subst hw9
    have hex9 : exWea kv wv dv = 1 := by simp [exWea, bI_0.mp c12]
    have hP9 : va_P D vwCl (wM cy b u (nI (exWea kv wv dv)) pz) H := (by rw [hex9]; exact hP)
    have hD9 : va_D A (wM cy b u (nI (exWea kv wv dv)) pz) := (by rw [hex9]; exact hD)
    exact W.iret (v := 0) hx hb hr (fun t ht hW => ⟨⟨0, u, rfl, ⟨fun z => absurd (hex9.symm.trans z) (by decide), fun _ => rfl⟩, by rw [ht]; exact hP9, hD9⟩, hS.F ht⟩) hS.2.2 dX3_setWeather_20

theorem inX3_string_RX3 : ∀ w ∈ u_ws RX3 TX3 8, w ∈ wsX3_string := by decide +kernel
theorem kX3_string_0 : (.fieldLink RX3 32 "WedgeHarpsModel" "thrown" "I" : Cond) ∈ wsX3_string := by decide +kernel
set_option maxHeartbeats 4000000 in
set_option maxRecDepth 100000 in
theorem mX3_string (l : Launch) (D : va_G) (cy : Nat → ClassId) (sz : Nat) (b : Nat → Nat) (u : US) (th : Int32) (hu : uOk u) (kv wv : Int32) : Met l yX3_string wsX3_string ({ frames := 5, cells := 0, slots := 0, locals := 106 } : Room) (va_Pc [.ref (b 0), .int kv, .int wv] (fun U => U.heap.size = sz ∧ va_P D vwCl (wM cy b u th pz) U.heap ∧ va_K D vwCl (TY cy) U ∧ va_D (fun _ => True) (wM cy b u th pz))) (va_Qi (fun (r8 : Int32) (u9 : US) => (exStr kv wv = 0 → r8 = factH (uh u) (ix kv) (ix wv) ∧ u9 = u) ∧ (¬ exStr kv wv = 0 → u9 = u)) (fun (u9 : US) t => va_P D vwCl (wM cy b u9 (nI (exStr kv wv)) pz) t.heap ∧ va_D (va_A (wM cy b u th pz) sz) (wM cy b u9 (nI (exStr kv wv)) pz)) (va_A (wM cy b u th pz) sz)) 0 0 (va_A (wM cy b u th pz) sz) := by
  refine Met.ofW (cc := cX3_string) (maxL := 3) (ret := (some .int)) (by decide) rfl ?_
  intro p e s m args below meth c s₁ B hml hv
  obtain ⟨rfl, hsz, hP, hK, hD0⟩ := hv
  have hx := B.exec
  have hb := B.bytes
  have hr := B.returns
  have hts := atoms_spec (ws := wsX3_string) B.pre
  have hown : s.vm.findClass RX3 = some m.cls := findClass_of_methodNamed B.named
  have hlocks := B.notSynchronized
  have hl := lv_entry ([.ref (b 0), .int kv, .int wv]) (n := 3) (Nat.le_of_ble_eq_true rfl)
  rw [lg_entry_eq]
  generalize (lg_sl ([.ref (b 0), .int kv, .int wv]) ++ List.replicate (3 - (lg_sl ([.ref (b 0), .int kv, .int wv])).length) Slot.unset).toArray = ls at hl ⊢
  have hl : lv_has ls 3 [(0, .ref (b 0)), (1, .int kv), (2, .int wv)] := hl
  subst hsz
  have hD := hD0.self (sz := s.heap.size)
  generalize hAe : va_A (wM cy b u th pz) s.heap.size = A at hD ⊢
  have hA : ∀ q : Nat, s.heap.size ≤ q → A q := fun q h => by rw [← hAe]; exact Or.inr h
  have hS : va_S A s.heap s.heap [] := va_S.rf
  have hP : va_P D vwCl (wM cy b u th pz) s.heap := hP
  refine lv_aload_n hx hb dX3_string_0 rfl (lv_at hl 0 rfl) ?_
  refine lv_iconst (v := 0) hx hb dX3_string_1 (by decide) ?_
  refine va_put (D := D) (ci := 3) (v := .int 0) (ty := .int) (C := RX3) (T := TX3) (N := 8) hx hb hts inX3_string_RX3 tyX3 tyX3_ok nmX3 hown hK hP hD hS 0 rfl rfl 0 (by decide) (hts _ kX3_string_0) (fun _ h9 => h9) rfl (by decide +kernel) rfl rfl (Nat.le_of_ble_eq_true rfl) dX3_string_2 (fun H locs hP hD hS => ?_)
  have hP : va_P D vwCl [(b 0, .inr (3, [.int 0, .ref (b 1), .int (nI (un u)), .ref (b 2), .ref (b 3), .ref (b 4), .ref (b 5), .ref (b 6)])), (b 1, .inl ((cy 0), 72, .inl (mh (uh u)))), (b 2, .inl ((cy 0), 36, .inl (mt (ul u) (uz u) (ut u)))), (b 3, .inl ((cy 0), 12, .inl (uw u))), (b 4, .inl ((cy 0), 12, .inl (ud u))), (b 5, .inl ((cy 0), 2, .inl (mb (uh u)))), (b 6, .inl ((cy 0), 12, .inl pz))] H := hP
  have hD : va_D A [(b 0, .inr (3, [.int 0, .ref (b 1), .int (nI (un u)), .ref (b 2), .ref (b 3), .ref (b 4), .ref (b 5), .ref (b 6)])), (b 1, .inl ((cy 0), 72, .inl (mh (uh u)))), (b 2, .inl ((cy 0), 36, .inl (mt (ul u) (uz u) (ut u)))), (b 3, .inl ((cy 0), 12, .inl (uw u))), (b 4, .inl ((cy 0), 12, .inl (ud u))), (b 5, .inl ((cy 0), 2, .inl (mb (uh u)))), (b 6, .inl ((cy 0), 12, .inl pz))] := hD
  have hP : va_P D vwCl (wM cy b u 0 pz) H := hP
  have hD : va_D A (wM cy b u 0 pz) := hD
  refine lv_iload_n hx hb dX3_string_5 rfl (lv_at hl 1 rfl) ?_
  refine pc_calli (va_runS (As := [.int kv]) (rest := []) ⟨hx, hb, hml, hown, hts⟩ (mX3_isString l D cy kv) (va_cwS 1 hts gX3_string_X3_isString rfl rfl rfl (by decide +kernel) ⟨Nat.le_of_ble_eq_true rfl, Nat.le_of_ble_eq_true rfl⟩) ⟨fun a U g mk q => q, fun U hU hW => ⟨rfl, trivial⟩⟩ rfl rfl hl.1 rfl (lv_room (Nat.le_of_ble_eq_true rfl)) dX3_string_6 ⟨Nat.le_of_ble_eq_true rfl, Nat.le_of_ble_eq_true rfl⟩) (fun r9 hr9 => ?_)
  subst hr9
  refine lv_if_eq (tgt := 31) hx hb dX3_string_9 (by decide) (fun c9 => ?_) (fun c9 => ?_)
  · refine lv_aload_n hx hb dX3_string_31 rfl (lv_at hl 0 rfl) ?_
    refine lv_iconst (v := 1) hx hb dX3_string_32 (by decide) ?_
    have hPc := hP.sub (ws' := wM cy b u 0 pz) [0, 1, 2, 3, 4, 5, 6] rfl
    have hDc := hD.sub (ws' := wM cy b u 0 pz) [0, 1, 2, 3, 4, 5, 6] (by decide) rfl
    have hFc := va_free (wc := wM cy b u 0 pz) hD hS hA [0, 1, 2, 3, 4, 5, 6] rfl
    refine va_calli (va_runV (As := [.int 1]) (rest := []) ⟨hx, hb, hml, hown, hts⟩ (mX3_fail l D cy H.size b u 0 pz 1) (cwV 1 hts gX3_string_X3_fail rfl rfl rfl (by decide +kernel) ⟨Nat.le_of_ble_eq_true rfl, Nat.le_of_ble_eq_true rfl⟩) ⟨fun a U g mk q => ⟨q.1, q.2.1, q.2.2.1, va_K.moved (u := U) (U := U.calling g mk a) (Vm.Alike.refl U.vm) q.2.2.2.1, q.2.2.2.2⟩, va_recv hK hPc (ci := 3) (q0 := 0) rfl rfl, fun U hU hW => ⟨rfl, by rw [hU], by rw [hU]; exact hPc, va_K.moved hW.alike hK, hDc.weaken (fun _ _ _ _ => trivial)⟩⟩ rfl rfl hl.1 rfl (lv_room (Nat.le_of_ble_eq_true rfl)) dX3_string_33 ⟨Nat.le_of_ble_eq_true rfl, Nat.le_of_ble_eq_true rfl⟩) hS (fun q _ h => hFc q h) hFc (fun r9 u9 t9 H1 locs ht9 hvm9 hw9 hB9 hz9 hk9 hS => ?_)
    obtain ⟨hP1, hD1⟩ := hB9
    rw [ht9] at hP1
    obtain ⟨hP, hD⟩ := va_join (wr := []) (w1 := wM cy b u 1 pz) hP hD [0, 1, 2, 3, 4, 5, 6] [] rfl rfl (by decide) (by decide) hk9 hFc hP1 hD1
    generalize H1 = H at hP hS ⊢
    have hP : va_P D vwCl (wM cy b u 1 pz) H := hP.sub [0, 1, 2, 3, 4, 5, 6] rfl
    have hD : va_D A (wM cy b u 1 pz) := hD.sub [0, 1, 2, 3, 4, 5, 6] (by decide) rfl
    clear hP1 hD1 hk9 hz9 ht9 hvm9 hPc hDc hFc
    subst hw9
    have hex9 : exStr kv wv = 1 := by simp [exStr, bI_0.mp c9]
    have hP9 : va_P D vwCl (wM cy b u (nI (exStr kv wv)) pz) H := (by rw [hex9]; exact hP)
    have hD9 : va_D A (wM cy b u (nI (exStr kv wv)) pz) := (by rw [hex9]; exact hD)
    exact W.iret (v := 0) hx hb hr (fun t ht hW => ⟨⟨0, u, rfl, ⟨fun z => absurd (hex9.symm.trans z) (by decide), fun _ => rfl⟩, by rw [ht]; exact hP9, hD9⟩, hS.F ht⟩) hS.2.2 dX3_string_36
  · refine lv_iload_n hx hb dX3_string_12 rfl (lv_at hl 2 rfl) ?_
    refine lv_iconst (v := 0) hx hb dX3_string_13 (by decide) ?_
    refine lv_bipush (v := 6) hx hb dX3_string_14 (by decide) ?_
    refine pc_calli (va_runS (As := [.int wv, .int 0, .int 6]) (rest := []) ⟨hx, hb, hml, hown, hts⟩ (mX3_isIn l D cy wv 0 6) (va_cwS 3 hts gX3_string_X3_isIn rfl rfl rfl (by decide +kernel) ⟨Nat.le_of_ble_eq_true rfl, Nat.le_of_ble_eq_true rfl⟩) ⟨fun a U g mk q => q, fun U hU hW => ⟨rfl, trivial⟩⟩ rfl rfl hl.1 rfl (lv_room (Nat.le_of_ble_eq_true rfl)) dX3_string_16 ⟨Nat.le_of_ble_eq_true rfl, Nat.le_of_ble_eq_true rfl⟩) (fun r9 hr9 => ?_)
    subst hr9
    refine pc_top (show bI (isIn wv 0 6) = bI (isF wv) from (by rw [isIn_F])) ?_
    refine lv_if_eq (tgt := 31) hx hb dX3_string_19 (by decide) (fun c19 => ?_) (fun c19 => ?_)
    · refine lv_aload_n hx hb dX3_string_31 rfl (lv_at hl 0 rfl) ?_
      refine lv_iconst (v := 1) hx hb dX3_string_32 (by decide) ?_
      have hPc := hP.sub (ws' := wM cy b u 0 pz) [0, 1, 2, 3, 4, 5, 6] rfl
      have hDc := hD.sub (ws' := wM cy b u 0 pz) [0, 1, 2, 3, 4, 5, 6] (by decide) rfl
      have hFc := va_free (wc := wM cy b u 0 pz) hD hS hA [0, 1, 2, 3, 4, 5, 6] rfl
      refine va_calli (va_runV (As := [.int 1]) (rest := []) ⟨hx, hb, hml, hown, hts⟩ (mX3_fail l D cy H.size b u 0 pz 1) (cwV 1 hts gX3_string_X3_fail rfl rfl rfl (by decide +kernel) ⟨Nat.le_of_ble_eq_true rfl, Nat.le_of_ble_eq_true rfl⟩) ⟨fun a U g mk q => ⟨q.1, q.2.1, q.2.2.1, va_K.moved (u := U) (U := U.calling g mk a) (Vm.Alike.refl U.vm) q.2.2.2.1, q.2.2.2.2⟩, va_recv hK hPc (ci := 3) (q0 := 0) rfl rfl, fun U hU hW => ⟨rfl, by rw [hU], by rw [hU]; exact hPc, va_K.moved hW.alike hK, hDc.weaken (fun _ _ _ _ => trivial)⟩⟩ rfl rfl hl.1 rfl (lv_room (Nat.le_of_ble_eq_true rfl)) dX3_string_33 ⟨Nat.le_of_ble_eq_true rfl, Nat.le_of_ble_eq_true rfl⟩) hS (fun q _ h => hFc q h) hFc (fun r9 u9 t9 H1 locs ht9 hvm9 hw9 hB9 hz9 hk9 hS => ?_)
      obtain ⟨hP1, hD1⟩ := hB9
      rw [ht9] at hP1
      obtain ⟨hP, hD⟩ := va_join (wr := []) (w1 := wM cy b u 1 pz) hP hD [0, 1, 2, 3, 4, 5, 6] [] rfl rfl (by decide) (by decide) hk9 hFc hP1 hD1
      generalize H1 = H at hP hS ⊢
      have hP : va_P D vwCl (wM cy b u 1 pz) H := hP.sub [0, 1, 2, 3, 4, 5, 6] rfl
      have hD : va_D A (wM cy b u 1 pz) := hD.sub [0, 1, 2, 3, 4, 5, 6] (by decide) rfl
      clear hP1 hD1 hk9 hz9 ht9 hvm9 hPc hDc hFc
      subst hw9
      have hex9 : exStr kv wv = 1 := by simp [exStr, bI_1.mp c9, bI_0.mp c19]
      have hP9 : va_P D vwCl (wM cy b u (nI (exStr kv wv)) pz) H := (by rw [hex9]; exact hP)
      have hD9 : va_D A (wM cy b u (nI (exStr kv wv)) pz) := (by rw [hex9]; exact hD)
      exact W.iret (v := 0) hx hb hr (fun t ht hW => ⟨⟨0, u, rfl, ⟨fun z => absurd (hex9.symm.trans z) (by decide), fun _ => rfl⟩, by rw [ht]; exact hP9, hD9⟩, hS.F ht⟩) hS.2.2 dX3_string_36
    · obtain ⟨j, hj, rfl⟩ := isS_nat (bI_1.mp c9)
      have ej : ix (nI j) = j := ix_nI (show j < 2147483648 by omega)
      obtain ⟨w, hw, rfl⟩ := isF_nat (bI_1.mp c19)
      have ew : ix (nI w) = w := ix_nI (show w < 2147483648 by omega)
      refine lv_aload_n hx hb dX3_string_22 rfl (lv_at hl 0 rfl) ?_
      refine lv_iload_n hx hb dX3_string_23 rfl (lv_at hl 1 rfl) ?_
      refine lv_iload_n hx hb dX3_string_24 rfl (lv_at hl 2 rfl) ?_
      refine pc_calli (va_runV (As := [.int (nI j), .int (nI w)]) (rest := []) ⟨hx, hb, hml, hown, hts⟩ (mX3_stringTold l D cy b u 0 j hj w hw) (cwV 2 hts gX3_string_X3_stringTold rfl rfl rfl (by decide +kernel) ⟨Nat.le_of_ble_eq_true rfl, Nat.le_of_ble_eq_true rfl⟩) ⟨fun a U g mk q => ⟨q.1, q.2.1, va_K.moved (u := U) (U := U.calling g mk a) (Vm.Alike.refl U.vm) q.2.2⟩, va_recv hK hP (ci := 3) (q0 := 0) rfl rfl, fun U hU hW => ⟨rfl, by rw [hU]; exact hP, va_K.moved hW.alike hK⟩⟩ rfl rfl hl.1 rfl (lv_room (Nat.le_of_ble_eq_true rfl)) dX3_string_25 ⟨Nat.le_of_ble_eq_true rfl, Nat.le_of_ble_eq_true rfl⟩) (fun r9 hr9 => ?_)
      subst hr9
      refine lv_goto (tgt := 36) hx hb dX3_string_28 (by decide) ?_
      have hex9 : exStr (nI j) (nI w) = 0 := by simp [exStr, ej, ew, bI_1.mp c9, bI_1.mp c19]
      have hP9 : va_P D vwCl (wM cy b u (nI (exStr (nI j) (nI w))) pz) H := (by rw [hex9]; exact hP)
      have hD9 : va_D A (wM cy b u (nI (exStr (nI j) (nI w))) pz) := (by rw [hex9]; exact hD)
      exact W.iret (v := factH (uh u) j w) hx hb hr (fun t ht hW => ⟨⟨factH (uh u) j w, u, rfl, ⟨fun _ => ⟨by rw [ej, ew], rfl⟩, fun z => absurd hex9 z⟩, by rw [ht]; exact hP9, hD9⟩, hS.F ht⟩) hS.2.2 dX3_string_36

theorem inX3_moves_RX3 : ∀ w ∈ u_ws RX3 TX3 8, w ∈ wsX3_moves := by decide +kernel
theorem kX3_moves_0 : (.fieldLink RX3 32 "WedgeHarpsModel" "thrown" "I" : Cond) ∈ wsX3_moves := by decide +kernel
theorem kX3_moves_1 : (.fieldLink RX3 25 "WedgeHarpsModel" "pushed" "[I" : Cond) ∈ wsX3_moves := by decide +kernel
set_option maxHeartbeats 4000000 in
set_option maxRecDepth 100000 in
theorem mX3_moves (l : Launch) (D : va_G) (cy : Nat → ClassId) (sz : Nat) (b : Nat → Nat) (u : US) (th : Int32) (hu : uOk u) (kv xv ov : Int32) : Met l yX3_moves wsX3_moves ({ frames := 4, cells := 0, slots := 0, locals := 90 } : Room) (va_Pc [.ref (b 0), .int kv, .int xv, .int ov] (fun U => U.heap.size = sz ∧ va_P D vwCl (wM cy b u th pz) U.heap ∧ va_K D vwCl (TY cy) U ∧ va_D (fun _ => True) (wM cy b u th pz))) (va_Qi (fun (r8 : Int32) (u9 : US) => (exMov kv xv ov = 0 → r8 = mov (uh u) (ix kv) (ix ov) xv ∧ u9 = u) ∧ (¬ exMov kv xv ov = 0 → u9 = u)) (fun (u9 : US) t => va_P D vwCl (wM cy b u9 (nI (exMov kv xv ov)) pz) t.heap ∧ va_D (va_A (wM cy b u th pz) sz) (wM cy b u9 (nI (exMov kv xv ov)) pz)) (va_A (wM cy b u th pz) sz)) 0 0 (va_A (wM cy b u th pz) sz) := by
  refine Met.ofW (cc := cX3_moves) (maxL := 6) (ret := (some .int)) (by decide) rfl ?_
  intro p e s m args below meth c s₁ B hml hv
  obtain ⟨rfl, hsz, hP, hK, hD0⟩ := hv
  have hx := B.exec
  have hb := B.bytes
  have hr := B.returns
  have hts := atoms_spec (ws := wsX3_moves) B.pre
  have hown : s.vm.findClass RX3 = some m.cls := findClass_of_methodNamed B.named
  have hlocks := B.notSynchronized
  have hl := lv_entry ([.ref (b 0), .int kv, .int xv, .int ov]) (n := 6) (Nat.le_of_ble_eq_true rfl)
  rw [lg_entry_eq]
  generalize (lg_sl ([.ref (b 0), .int kv, .int xv, .int ov]) ++ List.replicate (6 - (lg_sl ([.ref (b 0), .int kv, .int xv, .int ov])).length) Slot.unset).toArray = ls at hl ⊢
  have hl : lv_has ls 6 [(0, .ref (b 0)), (1, .int kv), (2, .int xv), (3, .int ov)] := hl
  subst hsz
  have hD := hD0.self (sz := s.heap.size)
  generalize hAe : va_A (wM cy b u th pz) s.heap.size = A at hD ⊢
  have hA : ∀ q : Nat, s.heap.size ≤ q → A q := fun q h => by rw [← hAe]; exact Or.inr h
  have hS : va_S A s.heap s.heap [] := va_S.rf
  have hP : va_P D vwCl (wM cy b u th pz) s.heap := hP
  refine lv_aload_n hx hb dX3_moves_0 rfl (lv_at hl 0 rfl) ?_
  refine lv_iconst (v := 0) hx hb dX3_moves_1 (by decide) ?_
  refine va_put (D := D) (ci := 3) (v := .int 0) (ty := .int) (C := RX3) (T := TX3) (N := 8) hx hb hts inX3_moves_RX3 tyX3 tyX3_ok nmX3 hown hK hP hD hS 0 rfl rfl 0 (by decide) (hts _ kX3_moves_0) (fun _ h9 => h9) rfl (by decide +kernel) rfl rfl (Nat.le_of_ble_eq_true rfl) dX3_moves_2 (fun H locs hP hD hS => ?_)
  have hP : va_P D vwCl [(b 0, .inr (3, [.int 0, .ref (b 1), .int (nI (un u)), .ref (b 2), .ref (b 3), .ref (b 4), .ref (b 5), .ref (b 6)])), (b 1, .inl ((cy 0), 72, .inl (mh (uh u)))), (b 2, .inl ((cy 0), 36, .inl (mt (ul u) (uz u) (ut u)))), (b 3, .inl ((cy 0), 12, .inl (uw u))), (b 4, .inl ((cy 0), 12, .inl (ud u))), (b 5, .inl ((cy 0), 2, .inl (mb (uh u)))), (b 6, .inl ((cy 0), 12, .inl pz))] H := hP
  have hD : va_D A [(b 0, .inr (3, [.int 0, .ref (b 1), .int (nI (un u)), .ref (b 2), .ref (b 3), .ref (b 4), .ref (b 5), .ref (b 6)])), (b 1, .inl ((cy 0), 72, .inl (mh (uh u)))), (b 2, .inl ((cy 0), 36, .inl (mt (ul u) (uz u) (ut u)))), (b 3, .inl ((cy 0), 12, .inl (uw u))), (b 4, .inl ((cy 0), 12, .inl (ud u))), (b 5, .inl ((cy 0), 2, .inl (mb (uh u)))), (b 6, .inl ((cy 0), 12, .inl pz))] := hD
  have hP : va_P D vwCl (wM cy b u 0 pz) H := hP
  have hD : va_D A (wM cy b u 0 pz) := hD
  refine lv_iload_n hx hb dX3_moves_5 rfl (lv_at hl 1 rfl) ?_
  refine pc_calli (va_runS (As := [.int kv]) (rest := []) ⟨hx, hb, hml, hown, hts⟩ (mX3_isString l D cy kv) (va_cwS 1 hts gX3_moves_X3_isString rfl rfl rfl (by decide +kernel) ⟨Nat.le_of_ble_eq_true rfl, Nat.le_of_ble_eq_true rfl⟩) ⟨fun a U g mk q => q, fun U hU hW => ⟨rfl, trivial⟩⟩ rfl rfl hl.1 rfl (lv_room (Nat.le_of_ble_eq_true rfl)) dX3_moves_6 ⟨Nat.le_of_ble_eq_true rfl, Nat.le_of_ble_eq_true rfl⟩) (fun r9 hr9 => ?_)
  subst hr9
  refine lv_if_eq (tgt := 19) hx hb dX3_moves_9 (by decide) (fun c9 => ?_) (fun c9 => ?_)
  · refine lv_aload_n hx hb dX3_moves_19 rfl (lv_at hl 0 rfl) ?_
    refine lv_iconst (v := 1) hx hb dX3_moves_20 (by decide) ?_
    have hPc := hP.sub (ws' := wM cy b u 0 pz) [0, 1, 2, 3, 4, 5, 6] rfl
    have hDc := hD.sub (ws' := wM cy b u 0 pz) [0, 1, 2, 3, 4, 5, 6] (by decide) rfl
    have hFc := va_free (wc := wM cy b u 0 pz) hD hS hA [0, 1, 2, 3, 4, 5, 6] rfl
    refine va_calli (va_runV (As := [.int 1]) (rest := []) ⟨hx, hb, hml, hown, hts⟩ (mX3_fail l D cy H.size b u 0 pz 1) (cwV 1 hts gX3_moves_X3_fail rfl rfl rfl (by decide +kernel) ⟨Nat.le_of_ble_eq_true rfl, Nat.le_of_ble_eq_true rfl⟩) ⟨fun a U g mk q => ⟨q.1, q.2.1, q.2.2.1, va_K.moved (u := U) (U := U.calling g mk a) (Vm.Alike.refl U.vm) q.2.2.2.1, q.2.2.2.2⟩, va_recv hK hPc (ci := 3) (q0 := 0) rfl rfl, fun U hU hW => ⟨rfl, by rw [hU], by rw [hU]; exact hPc, va_K.moved hW.alike hK, hDc.weaken (fun _ _ _ _ => trivial)⟩⟩ rfl rfl hl.1 rfl (lv_room (Nat.le_of_ble_eq_true rfl)) dX3_moves_21 ⟨Nat.le_of_ble_eq_true rfl, Nat.le_of_ble_eq_true rfl⟩) hS (fun q _ h => hFc q h) hFc (fun r9 u9 t9 H1 locs ht9 hvm9 hw9 hB9 hz9 hk9 hS => ?_)
    obtain ⟨hP1, hD1⟩ := hB9
    rw [ht9] at hP1
    obtain ⟨hP, hD⟩ := va_join (wr := []) (w1 := wM cy b u 1 pz) hP hD [0, 1, 2, 3, 4, 5, 6] [] rfl rfl (by decide) (by decide) hk9 hFc hP1 hD1
    generalize H1 = H at hP hS ⊢
    have hP : va_P D vwCl (wM cy b u 1 pz) H := hP.sub [0, 1, 2, 3, 4, 5, 6] rfl
    have hD : va_D A (wM cy b u 1 pz) := hD.sub [0, 1, 2, 3, 4, 5, 6] (by decide) rfl
    clear hP1 hD1 hk9 hz9 ht9 hvm9 hPc hDc hFc
    subst hw9
    have hex9 : exMov kv xv ov = 1 := by simp [exMov, bI_0.mp c9]
    have hP9 : va_P D vwCl (wM cy b u (nI (exMov kv xv ov)) pz) H := (by rw [hex9]; exact hP)
    have hD9 : va_D A (wM cy b u (nI (exMov kv xv ov)) pz) := (by rw [hex9]; exact hD)
    exact W.iret (v := 0) hx hb hr (fun t ht hW => ⟨⟨0, u, rfl, ⟨fun z => absurd (hex9.symm.trans z) (by decide), fun _ => rfl⟩, by rw [ht]; exact hP9, hD9⟩, hS.F ht⟩) hS.2.2 dX3_moves_24
  · refine lv_iload_n hx hb dX3_moves_12 rfl (lv_at hl 3 rfl) ?_
    refine pc_calli (va_runS (As := [.int ov]) (rest := []) ⟨hx, hb, hml, hown, hts⟩ (mX3_isString l D cy ov) (va_cwS 1 hts gX3_moves_X3_isString rfl rfl rfl (by decide +kernel) ⟨Nat.le_of_ble_eq_true rfl, Nat.le_of_ble_eq_true rfl⟩) ⟨fun a U g mk q => q, fun U hU hW => ⟨rfl, trivial⟩⟩ rfl rfl hl.1 rfl (lv_room (Nat.le_of_ble_eq_true rfl)) dX3_moves_13 ⟨Nat.le_of_ble_eq_true rfl, Nat.le_of_ble_eq_true rfl⟩) (fun r9 hr9 => ?_)
    subst hr9
    refine lv_if_ne (tgt := 25) hx hb dX3_moves_16 (by decide) (fun c16 => ?_) (fun c16 => ?_)
    · refine lv_iload_n hx hb dX3_moves_25 rfl (lv_at hl 2 rfl) ?_
      refine lv_bipush (v := (-20)) hx hb dX3_moves_26 (by decide) ?_
      refine lv_bipush (v := 20) hx hb dX3_moves_28 (by decide) ?_
      refine pc_calli (va_runS (As := [.int xv, .int (-20), .int 20]) (rest := []) ⟨hx, hb, hml, hown, hts⟩ (mX3_isIn l D cy xv (-20) 20) (va_cwS 3 hts gX3_moves_X3_isIn rfl rfl rfl (by decide +kernel) ⟨Nat.le_of_ble_eq_true rfl, Nat.le_of_ble_eq_true rfl⟩) ⟨fun a U g mk q => q, fun U hU hW => ⟨rfl, trivial⟩⟩ rfl rfl hl.1 rfl (lv_room (Nat.le_of_ble_eq_true rfl)) dX3_moves_30 ⟨Nat.le_of_ble_eq_true rfl, Nat.le_of_ble_eq_true rfl⟩) (fun r9 hr9 => ?_)
      subst hr9
      refine pc_top (show bI (isIn xv (-20) 20) = bI (isW xv) from (by rw [isIn_W])) ?_
      refine lv_if_ne (tgt := 42) hx hb dX3_moves_33 (by decide) (fun c33 => ?_) (fun c33 => ?_)
      · obtain ⟨j, hj, rfl⟩ := isS_nat (bI_1.mp c9)
        have ej : ix (nI j) = j := ix_nI (show j < 2147483648 by omega)
        obtain ⟨i, hi, rfl⟩ := isS_nat (bI_1.mp c16)
        have ei : ix (nI i) = i := ix_nI (show i < 2147483648 by omega)
        refine lv_aload_n hx hb dX3_moves_42 rfl (lv_at hl 0 rfl) ?_
        refine lv_iload_n hx hb dX3_moves_43 rfl (lv_at hl 3 rfl) ?_
        refine pc_calli (va_runV (As := [.int (nI i)]) (rest := []) ⟨hx, hb, hml, hown, hts⟩ (mX3_tone l D cy b u 0 pz i hi) (cwV 1 hts gX3_moves_X3_tone rfl rfl rfl (by decide +kernel) ⟨Nat.le_of_ble_eq_true rfl, Nat.le_of_ble_eq_true rfl⟩) ⟨fun a U g mk q => ⟨q.1, q.2.1, va_K.moved (u := U) (U := U.calling g mk a) (Vm.Alike.refl U.vm) q.2.2⟩, va_recv hK hP (ci := 3) (q0 := 0) rfl rfl, fun U hU hW => ⟨rfl, by rw [hU]; exact hP, va_K.moved hW.alike hK⟩⟩ rfl rfl hl.1 rfl (lv_room (Nat.le_of_ble_eq_true rfl)) dX3_moves_44 ⟨Nat.le_of_ble_eq_true rfl, Nat.le_of_ble_eq_true rfl⟩) (fun r9 hr9 => ?_)
        subst hr9
        refine lv_istore (lv' := [(4, .int (toneP (uh u) pz i)), (0, .ref (b 0)), (1, .int (nI j)), (2, .int xv), (3, .int (nI i))]) hx hb dX3_moves_47 hl (by decide) rfl (fun ls hl => ?_)
        refine lv_aload_n hx hb dX3_moves_49 rfl (lv_at hl 1 rfl) ?_
        refine va_get (D := D) (ci := 3) (v := .ref (b 6)) (C := RX3) (T := TX3) (N := 8) hx hb hts inX3_moves_RX3 hown hK hP 0 rfl rfl 7 (by decide) (hts _ kX3_moves_1) (fun _ h9 => h9) rfl dX3_moves_50 ?_
        refine lv_iload_n hx hb dX3_moves_53 rfl (lv_at hl 2 rfl) ?_
        refine lv_iload_n hx hb dX3_moves_54 rfl (lv_at hl 3 rfl) ?_
        refine pc_iast hx hb hK hP hD hS 6 0 rfl rfl (k := j) (show j < 12 by omega) (by decide) dX3_moves_55 (fun H locs hP hD hS => ?_)
        have hP : va_P D vwCl [(b 0, .inr (3, [.int 0, .ref (b 1), .int (nI (un u)), .ref (b 2), .ref (b 3), .ref (b 4), .ref (b 5), .ref (b 6)])), (b 1, .inl ((cy 0), 72, .inl (mh (uh u)))), (b 2, .inl ((cy 0), 36, .inl (mt (ul u) (uz u) (ut u)))), (b 3, .inl ((cy 0), 12, .inl (uw u))), (b 4, .inl ((cy 0), 12, .inl (ud u))), (b 5, .inl ((cy 0), 2, .inl (mb (uh u)))), (b 6, .inl ((cy 0), 12, .inl (upd pz j xv)))] H := hP
        have hD : va_D A [(b 0, .inr (3, [.int 0, .ref (b 1), .int (nI (un u)), .ref (b 2), .ref (b 3), .ref (b 4), .ref (b 5), .ref (b 6)])), (b 1, .inl ((cy 0), 72, .inl (mh (uh u)))), (b 2, .inl ((cy 0), 36, .inl (mt (ul u) (uz u) (ut u)))), (b 3, .inl ((cy 0), 12, .inl (uw u))), (b 4, .inl ((cy 0), 12, .inl (ud u))), (b 5, .inl ((cy 0), 2, .inl (mb (uh u)))), (b 6, .inl ((cy 0), 12, .inl (upd pz j xv)))] := hD
        refine lv_aload_n hx hb dX3_moves_56 rfl (lv_at hl 1 rfl) ?_
        refine lv_iload_n hx hb dX3_moves_57 rfl (lv_at hl 4 rfl) ?_
        refine pc_calli (va_runV (As := [.int (nI i)]) (rest := []) ⟨hx, hb, hml, hown, hts⟩ (mX3_tone l D cy b u 0 (upd pz j xv) i hi) (cwV 1 hts gX3_moves_X3_tone rfl rfl rfl (by decide +kernel) ⟨Nat.le_of_ble_eq_true rfl, Nat.le_of_ble_eq_true rfl⟩) ⟨fun a U g mk q => ⟨q.1, q.2.1, va_K.moved (u := U) (U := U.calling g mk a) (Vm.Alike.refl U.vm) q.2.2⟩, va_recv hK hP (ci := 3) (q0 := 0) rfl rfl, fun U hU hW => ⟨rfl, by rw [hU]; exact hP, va_K.moved hW.alike hK⟩⟩ rfl rfl hl.1 rfl (lv_room (Nat.le_of_ble_eq_true rfl)) dX3_moves_58 ⟨Nat.le_of_ble_eq_true rfl, Nat.le_of_ble_eq_true rfl⟩) (fun r9 hr9 => ?_)
        subst hr9
        refine lv_iload hx hb dX3_moves_61 (lv_at hl 0 rfl) ?_
        refine lv_isub hx hb dX3_moves_63 ?_
        refine lv_istore (lv' := [(5, .int ((toneP (uh u) (upd pz j xv) i) - (toneP (uh u) pz i))), (4, .int (toneP (uh u) pz i)), (0, .ref (b 0)), (1, .int (nI j)), (2, .int xv), (3, .int (nI i))]) hx hb dX3_moves_64 hl (by decide) rfl (fun ls hl => ?_)
        refine lv_aload_n hx hb dX3_moves_66 rfl (lv_at hl 2 rfl) ?_
        refine va_get (D := D) (ci := 3) (v := .ref (b 6)) (C := RX3) (T := TX3) (N := 8) hx hb hts inX3_moves_RX3 hown hK hP 0 rfl rfl 7 (by decide) (hts _ kX3_moves_1) (fun _ h9 => h9) rfl dX3_moves_67 ?_
        refine lv_iload_n hx hb dX3_moves_70 rfl (lv_at hl 3 rfl) ?_
        refine lv_iconst (v := 0) hx hb dX3_moves_71 (by decide) ?_
        refine pc_iast hx hb hK hP hD hS 6 0 rfl rfl (k := j) (show j < 12 by omega) (by decide) dX3_moves_72 (fun H locs hP hD hS => ?_)
        have hP : va_P D vwCl [(b 0, .inr (3, [.int 0, .ref (b 1), .int (nI (un u)), .ref (b 2), .ref (b 3), .ref (b 4), .ref (b 5), .ref (b 6)])), (b 1, .inl ((cy 0), 72, .inl (mh (uh u)))), (b 2, .inl ((cy 0), 36, .inl (mt (ul u) (uz u) (ut u)))), (b 3, .inl ((cy 0), 12, .inl (uw u))), (b 4, .inl ((cy 0), 12, .inl (ud u))), (b 5, .inl ((cy 0), 2, .inl (mb (uh u)))), (b 6, .inl ((cy 0), 12, .inl (upd (upd pz j xv) j 0)))] H := hP
        have hD : va_D A [(b 0, .inr (3, [.int 0, .ref (b 1), .int (nI (un u)), .ref (b 2), .ref (b 3), .ref (b 4), .ref (b 5), .ref (b 6)])), (b 1, .inl ((cy 0), 72, .inl (mh (uh u)))), (b 2, .inl ((cy 0), 36, .inl (mt (ul u) (uz u) (ut u)))), (b 3, .inl ((cy 0), 12, .inl (uw u))), (b 4, .inl ((cy 0), 12, .inl (ud u))), (b 5, .inl ((cy 0), 2, .inl (mb (uh u)))), (b 6, .inl ((cy 0), 12, .inl (upd (upd pz j xv) j 0)))] := hD
        have e9 : ([(b 0, .inr (3, [.int 0, .ref (b 1), .int (nI (un u)), .ref (b 2), .ref (b 3), .ref (b 4), .ref (b 5), .ref (b 6)])), (b 1, .inl ((cy 0), 72, .inl (mh (uh u)))), (b 2, .inl ((cy 0), 36, .inl (mt (ul u) (uz u) (ut u)))), (b 3, .inl ((cy 0), 12, .inl (uw u))), (b 4, .inl ((cy 0), 12, .inl (ud u))), (b 5, .inl ((cy 0), 2, .inl (mb (uh u)))), (b 6, .inl ((cy 0), 12, .inl (upd (upd pz j xv) j 0)))] : va_W) = (wM cy b u 0 pz) := by rw [pz_back]
        have hP : va_P D vwCl (wM cy b u 0 pz) H := e9 ▸ hP
        have hD : va_D A (wM cy b u 0 pz) := e9 ▸ hD
        clear e9
        refine lv_iload hx hb dX3_moves_73 (lv_at hl 0 rfl) ?_
        have hex9 : exMov (nI j) xv (nI i) = 0 := by simp [exMov, ej, ei, bI_1.mp c9, bI_1.mp c16, bI_1.mp c33]
        have hP9 : va_P D vwCl (wM cy b u (nI (exMov (nI j) xv (nI i))) pz) H := (by rw [hex9]; exact hP)
        have hD9 : va_D A (wM cy b u (nI (exMov (nI j) xv (nI i))) pz) := (by rw [hex9]; exact hD)
        exact W.iret (v := (toneP (uh u) (upd pz j xv) i) - (toneP (uh u) pz i)) hx hb hr (fun t ht hW => ⟨⟨(toneP (uh u) (upd pz j xv) i) - (toneP (uh u) pz i), u, rfl, ⟨fun _ => ⟨by rw [ej, ei, mov_eq hj hi], rfl⟩, fun z => absurd hex9 z⟩, by rw [ht]; exact hP9, hD9⟩, hS.F ht⟩) hS.2.2 dX3_moves_75
      · refine lv_aload_n hx hb dX3_moves_36 rfl (lv_at hl 0 rfl) ?_
        refine lv_iconst (v := 2) hx hb dX3_moves_37 (by decide) ?_
        have hPc := hP.sub (ws' := wM cy b u 0 pz) [0, 1, 2, 3, 4, 5, 6] rfl
        have hDc := hD.sub (ws' := wM cy b u 0 pz) [0, 1, 2, 3, 4, 5, 6] (by decide) rfl
        have hFc := va_free (wc := wM cy b u 0 pz) hD hS hA [0, 1, 2, 3, 4, 5, 6] rfl
        refine va_calli (va_runV (As := [.int 2]) (rest := []) ⟨hx, hb, hml, hown, hts⟩ (mX3_fail l D cy H.size b u 0 pz 2) (cwV 1 hts gX3_moves_X3_fail rfl rfl rfl (by decide +kernel) ⟨Nat.le_of_ble_eq_true rfl, Nat.le_of_ble_eq_true rfl⟩) ⟨fun a U g mk q => ⟨q.1, q.2.1, q.2.2.1, va_K.moved (u := U) (U := U.calling g mk a) (Vm.Alike.refl U.vm) q.2.2.2.1, q.2.2.2.2⟩, va_recv hK hPc (ci := 3) (q0 := 0) rfl rfl, fun U hU hW => ⟨rfl, by rw [hU], by rw [hU]; exact hPc, va_K.moved hW.alike hK, hDc.weaken (fun _ _ _ _ => trivial)⟩⟩ rfl rfl hl.1 rfl (lv_room (Nat.le_of_ble_eq_true rfl)) dX3_moves_38 ⟨Nat.le_of_ble_eq_true rfl, Nat.le_of_ble_eq_true rfl⟩) hS (fun q _ h => hFc q h) hFc (fun r9 u9 t9 H1 locs ht9 hvm9 hw9 hB9 hz9 hk9 hS => ?_)
        obtain ⟨hP1, hD1⟩ := hB9
        rw [ht9] at hP1
        obtain ⟨hP, hD⟩ := va_join (wr := []) (w1 := wM cy b u 2 pz) hP hD [0, 1, 2, 3, 4, 5, 6] [] rfl rfl (by decide) (by decide) hk9 hFc hP1 hD1
        generalize H1 = H at hP hS ⊢
        have hP : va_P D vwCl (wM cy b u 2 pz) H := hP.sub [0, 1, 2, 3, 4, 5, 6] rfl
        have hD : va_D A (wM cy b u 2 pz) := hD.sub [0, 1, 2, 3, 4, 5, 6] (by decide) rfl
        clear hP1 hD1 hk9 hz9 ht9 hvm9 hPc hDc hFc
        subst hw9
        have hex9 : exMov kv xv ov = 2 := by simp [exMov, bI_1.mp c9, bI_1.mp c16, bI_0.mp c33]
        have hP9 : va_P D vwCl (wM cy b u (nI (exMov kv xv ov)) pz) H := (by rw [hex9]; exact hP)
        have hD9 : va_D A (wM cy b u (nI (exMov kv xv ov)) pz) := (by rw [hex9]; exact hD)
        exact W.iret (v := 0) hx hb hr (fun t ht hW => ⟨⟨0, u, rfl, ⟨fun z => absurd (hex9.symm.trans z) (by decide), fun _ => rfl⟩, by rw [ht]; exact hP9, hD9⟩, hS.F ht⟩) hS.2.2 dX3_moves_41
    · refine lv_aload_n hx hb dX3_moves_19 rfl (lv_at hl 0 rfl) ?_
      refine lv_iconst (v := 1) hx hb dX3_moves_20 (by decide) ?_
      have hPc := hP.sub (ws' := wM cy b u 0 pz) [0, 1, 2, 3, 4, 5, 6] rfl
      have hDc := hD.sub (ws' := wM cy b u 0 pz) [0, 1, 2, 3, 4, 5, 6] (by decide) rfl
      have hFc := va_free (wc := wM cy b u 0 pz) hD hS hA [0, 1, 2, 3, 4, 5, 6] rfl
      refine va_calli (va_runV (As := [.int 1]) (rest := []) ⟨hx, hb, hml, hown, hts⟩ (mX3_fail l D cy H.size b u 0 pz 1) (cwV 1 hts gX3_moves_X3_fail rfl rfl rfl (by decide +kernel) ⟨Nat.le_of_ble_eq_true rfl, Nat.le_of_ble_eq_true rfl⟩) ⟨fun a U g mk q => ⟨q.1, q.2.1, q.2.2.1, va_K.moved (u := U) (U := U.calling g mk a) (Vm.Alike.refl U.vm) q.2.2.2.1, q.2.2.2.2⟩, va_recv hK hPc (ci := 3) (q0 := 0) rfl rfl, fun U hU hW => ⟨rfl, by rw [hU], by rw [hU]; exact hPc, va_K.moved hW.alike hK, hDc.weaken (fun _ _ _ _ => trivial)⟩⟩ rfl rfl hl.1 rfl (lv_room (Nat.le_of_ble_eq_true rfl)) dX3_moves_21 ⟨Nat.le_of_ble_eq_true rfl, Nat.le_of_ble_eq_true rfl⟩) hS (fun q _ h => hFc q h) hFc (fun r9 u9 t9 H1 locs ht9 hvm9 hw9 hB9 hz9 hk9 hS => ?_)
      obtain ⟨hP1, hD1⟩ := hB9
      rw [ht9] at hP1
      obtain ⟨hP, hD⟩ := va_join (wr := []) (w1 := wM cy b u 1 pz) hP hD [0, 1, 2, 3, 4, 5, 6] [] rfl rfl (by decide) (by decide) hk9 hFc hP1 hD1
      generalize H1 = H at hP hS ⊢
      have hP : va_P D vwCl (wM cy b u 1 pz) H := hP.sub [0, 1, 2, 3, 4, 5, 6] rfl
      have hD : va_D A (wM cy b u 1 pz) := hD.sub [0, 1, 2, 3, 4, 5, 6] (by decide) rfl
      clear hP1 hD1 hk9 hz9 ht9 hvm9 hPc hDc hFc
      subst hw9
      have hex9 : exMov kv xv ov = 1 := by simp [exMov, bI_1.mp c9, bI_0.mp c16]
      have hP9 : va_P D vwCl (wM cy b u (nI (exMov kv xv ov)) pz) H := (by rw [hex9]; exact hP)
      have hD9 : va_D A (wM cy b u (nI (exMov kv xv ov)) pz) := (by rw [hex9]; exact hD)
      exact W.iret (v := 0) hx hb hr (fun t ht hW => ⟨⟨0, u, rfl, ⟨fun z => absurd (hex9.symm.trans z) (by decide), fun _ => rfl⟩, by rw [ht]; exact hP9, hD9⟩, hS.F ht⟩) hS.2.2 dX3_moves_24

theorem inX3_off_RX3 : ∀ w ∈ u_ws RX3 TX3 8, w ∈ wsX3_off := by decide +kernel
theorem kX3_off_0 : (.fieldLink RX3 32 "WedgeHarpsModel" "thrown" "I" : Cond) ∈ wsX3_off := by decide +kernel
set_option maxHeartbeats 4000000 in
set_option maxRecDepth 100000 in
theorem mX3_off (l : Launch) (D : va_G) (cy : Nat → ClassId) (sz : Nat) (b : Nat → Nat) (u : US) (th : Int32) (hu : uOk u) (cv : Int32) : Met l yX3_off wsX3_off ({ frames := 6, cells := 0, slots := 0, locals := 129 } : Room) (va_Pc [.ref (b 0), .int cv] (fun U => U.heap.size = sz ∧ va_P D vwCl (wM cy b u th pz) U.heap ∧ va_K D vwCl (TY cy) U ∧ va_D (fun _ => True) (wM cy b u th pz))) (va_Qi (fun (r8 : Int32) (u9 : US) => (exC u cv = 0 → r8 = offBy (uh u) (ul u (ix cv)) (ut u (ix cv)) (uz u (ix cv)) ∧ u9 = u) ∧ (¬ exC u cv = 0 → u9 = u)) (fun (u9 : US) t => va_P D vwCl (wM cy b u9 (nI (exC u cv)) pz) t.heap ∧ va_D (va_A (wM cy b u th pz) sz) (wM cy b u9 (nI (exC u cv)) pz)) (va_A (wM cy b u th pz) sz)) 0 0 (va_A (wM cy b u th pz) sz) := by
  refine Met.ofW (cc := cX3_off) (maxL := 2) (ret := (some .int)) (by decide) rfl ?_
  intro p e s m args below meth c s₁ B hml hv
  obtain ⟨rfl, hsz, hP, hK, hD0⟩ := hv
  have hx := B.exec
  have hb := B.bytes
  have hr := B.returns
  have hts := atoms_spec (ws := wsX3_off) B.pre
  have hown : s.vm.findClass RX3 = some m.cls := findClass_of_methodNamed B.named
  have hlocks := B.notSynchronized
  have hl := lv_entry ([.ref (b 0), .int cv]) (n := 2) (Nat.le_of_ble_eq_true rfl)
  rw [lg_entry_eq]
  generalize (lg_sl ([.ref (b 0), .int cv]) ++ List.replicate (2 - (lg_sl ([.ref (b 0), .int cv])).length) Slot.unset).toArray = ls at hl ⊢
  have hl : lv_has ls 2 [(0, .ref (b 0)), (1, .int cv)] := hl
  subst hsz
  have hD := hD0.self (sz := s.heap.size)
  generalize hAe : va_A (wM cy b u th pz) s.heap.size = A at hD ⊢
  have hA : ∀ q : Nat, s.heap.size ≤ q → A q := fun q h => by rw [← hAe]; exact Or.inr h
  have hS : va_S A s.heap s.heap [] := va_S.rf
  have hP : va_P D vwCl (wM cy b u th pz) s.heap := hP
  refine lv_aload_n hx hb dX3_off_0 rfl (lv_at hl 0 rfl) ?_
  refine lv_iconst (v := 0) hx hb dX3_off_1 (by decide) ?_
  refine va_put (D := D) (ci := 3) (v := .int 0) (ty := .int) (C := RX3) (T := TX3) (N := 8) hx hb hts inX3_off_RX3 tyX3 tyX3_ok nmX3 hown hK hP hD hS 0 rfl rfl 0 (by decide) (hts _ kX3_off_0) (fun _ h9 => h9) rfl (by decide +kernel) rfl rfl (Nat.le_of_ble_eq_true rfl) dX3_off_2 (fun H locs hP hD hS => ?_)
  have hP : va_P D vwCl [(b 0, .inr (3, [.int 0, .ref (b 1), .int (nI (un u)), .ref (b 2), .ref (b 3), .ref (b 4), .ref (b 5), .ref (b 6)])), (b 1, .inl ((cy 0), 72, .inl (mh (uh u)))), (b 2, .inl ((cy 0), 36, .inl (mt (ul u) (uz u) (ut u)))), (b 3, .inl ((cy 0), 12, .inl (uw u))), (b 4, .inl ((cy 0), 12, .inl (ud u))), (b 5, .inl ((cy 0), 2, .inl (mb (uh u)))), (b 6, .inl ((cy 0), 12, .inl pz))] H := hP
  have hD : va_D A [(b 0, .inr (3, [.int 0, .ref (b 1), .int (nI (un u)), .ref (b 2), .ref (b 3), .ref (b 4), .ref (b 5), .ref (b 6)])), (b 1, .inl ((cy 0), 72, .inl (mh (uh u)))), (b 2, .inl ((cy 0), 36, .inl (mt (ul u) (uz u) (ut u)))), (b 3, .inl ((cy 0), 12, .inl (uw u))), (b 4, .inl ((cy 0), 12, .inl (ud u))), (b 5, .inl ((cy 0), 2, .inl (mb (uh u)))), (b 6, .inl ((cy 0), 12, .inl pz))] := hD
  have hP : va_P D vwCl (wM cy b u 0 pz) H := hP
  have hD : va_D A (wM cy b u 0 pz) := hD
  refine lv_aload_n hx hb dX3_off_5 rfl (lv_at hl 0 rfl) ?_
  refine lv_iload_n hx hb dX3_off_6 rfl (lv_at hl 1 rfl) ?_
  refine pc_calli (va_runV (As := [.int cv]) (rest := []) ⟨hx, hb, hml, hown, hts⟩ (mX3_isChord l D cy b u 0 pz hu cv) (cwV 1 hts gX3_off_X3_isChord rfl rfl rfl (by decide +kernel) ⟨Nat.le_of_ble_eq_true rfl, Nat.le_of_ble_eq_true rfl⟩) ⟨fun a U g mk q => ⟨q.1, q.2.1, va_K.moved (u := U) (U := U.calling g mk a) (Vm.Alike.refl U.vm) q.2.2⟩, va_recv hK hP (ci := 3) (q0 := 0) rfl rfl, fun U hU hW => ⟨rfl, by rw [hU]; exact hP, va_K.moved hW.alike hK⟩⟩ rfl rfl hl.1 rfl (lv_room (Nat.le_of_ble_eq_true rfl)) dX3_off_7 ⟨Nat.le_of_ble_eq_true rfl, Nat.le_of_ble_eq_true rfl⟩) (fun r9 hr9 => ?_)
  subst hr9
  refine lv_if_eq (tgt := 21) hx hb dX3_off_10 (by decide) (fun c10 => ?_) (fun c10 => ?_)
  · refine lv_aload_n hx hb dX3_off_21 rfl (lv_at hl 0 rfl) ?_
    refine lv_iconst (v := 1) hx hb dX3_off_22 (by decide) ?_
    have hPc := hP.sub (ws' := wM cy b u 0 pz) [0, 1, 2, 3, 4, 5, 6] rfl
    have hDc := hD.sub (ws' := wM cy b u 0 pz) [0, 1, 2, 3, 4, 5, 6] (by decide) rfl
    have hFc := va_free (wc := wM cy b u 0 pz) hD hS hA [0, 1, 2, 3, 4, 5, 6] rfl
    refine va_calli (va_runV (As := [.int 1]) (rest := []) ⟨hx, hb, hml, hown, hts⟩ (mX3_fail l D cy H.size b u 0 pz 1) (cwV 1 hts gX3_off_X3_fail rfl rfl rfl (by decide +kernel) ⟨Nat.le_of_ble_eq_true rfl, Nat.le_of_ble_eq_true rfl⟩) ⟨fun a U g mk q => ⟨q.1, q.2.1, q.2.2.1, va_K.moved (u := U) (U := U.calling g mk a) (Vm.Alike.refl U.vm) q.2.2.2.1, q.2.2.2.2⟩, va_recv hK hPc (ci := 3) (q0 := 0) rfl rfl, fun U hU hW => ⟨rfl, by rw [hU], by rw [hU]; exact hPc, va_K.moved hW.alike hK, hDc.weaken (fun _ _ _ _ => trivial)⟩⟩ rfl rfl hl.1 rfl (lv_room (Nat.le_of_ble_eq_true rfl)) dX3_off_23 ⟨Nat.le_of_ble_eq_true rfl, Nat.le_of_ble_eq_true rfl⟩) hS (fun q _ h => hFc q h) hFc (fun r9 u9 t9 H1 locs ht9 hvm9 hw9 hB9 hz9 hk9 hS => ?_)
    obtain ⟨hP1, hD1⟩ := hB9
    rw [ht9] at hP1
    obtain ⟨hP, hD⟩ := va_join (wr := []) (w1 := wM cy b u 1 pz) hP hD [0, 1, 2, 3, 4, 5, 6] [] rfl rfl (by decide) (by decide) hk9 hFc hP1 hD1
    generalize H1 = H at hP hS ⊢
    have hP : va_P D vwCl (wM cy b u 1 pz) H := hP.sub [0, 1, 2, 3, 4, 5, 6] rfl
    have hD : va_D A (wM cy b u 1 pz) := hD.sub [0, 1, 2, 3, 4, 5, 6] (by decide) rfl
    clear hP1 hD1 hk9 hz9 ht9 hvm9 hPc hDc hFc
    subst hw9
    have hex9 : exC u cv = 1 := by simp [exC, bI_0.mp c10]
    have hP9 : va_P D vwCl (wM cy b u (nI (exC u cv)) pz) H := (by rw [hex9]; exact hP)
    have hD9 : va_D A (wM cy b u (nI (exC u cv)) pz) := (by rw [hex9]; exact hD)
    exact W.iret (v := 0) hx hb hr (fun t ht hW => ⟨⟨0, u, rfl, ⟨fun z => absurd (hex9.symm.trans z) (by decide), fun _ => rfl⟩, by rw [ht]; exact hP9, hD9⟩, hS.F ht⟩) hS.2.2 dX3_off_26
  · obtain ⟨j, hj, rfl⟩ := isC_nat hu.2.1 (bI_1.mp c10)
    have h6 : j < 6 := Nat.lt_of_lt_of_le hj hu.2.1
    have ej : ix (nI j) = j := ix_nI (show j < 2147483648 by omega)
    have hc9 := hu.2.2.1 j h6
    refine lv_aload_n hx hb dX3_off_13 rfl (lv_at hl 0 rfl) ?_
    refine lv_iload_n hx hb dX3_off_14 rfl (lv_at hl 1 rfl) ?_
    refine pc_calli (va_runV (As := [.int (nI j)]) (rest := []) ⟨hx, hb, hml, hown, hts⟩ (mX3_offBy l D cy b u 0 pz j h6 (hu.2.2.1 j h6)) (cwV 1 hts gX3_off_X3_offBy rfl rfl rfl (by decide +kernel) ⟨Nat.le_of_ble_eq_true rfl, Nat.le_of_ble_eq_true rfl⟩) ⟨fun a U g mk q => ⟨q.1, q.2.1, va_K.moved (u := U) (U := U.calling g mk a) (Vm.Alike.refl U.vm) q.2.2⟩, va_recv hK hP (ci := 3) (q0 := 0) rfl rfl, fun U hU hW => ⟨rfl, by rw [hU]; exact hP, va_K.moved hW.alike hK⟩⟩ rfl rfl hl.1 rfl (lv_room (Nat.le_of_ble_eq_true rfl)) dX3_off_15 ⟨Nat.le_of_ble_eq_true rfl, Nat.le_of_ble_eq_true rfl⟩) (fun r9 hr9 => ?_)
    subst hr9
    refine pc_top (show offP (uh u) pz (ul u j) (ut u j) (uz u j) = offBy (uh u) (ul u j) (ut u j) (uz u j) from (offP_0 hc9.1)) ?_
    refine lv_goto (tgt := 26) hx hb dX3_off_18 (by decide) ?_
    have hex9 : exC u (nI j) = 0 := by simp [exC, bI_1.mp c10]
    have hP9 : va_P D vwCl (wM cy b u (nI (exC u (nI j))) pz) H := (by rw [hex9]; exact hP)
    have hD9 : va_D A (wM cy b u (nI (exC u (nI j))) pz) := (by rw [hex9]; exact hD)
    exact W.iret (v := offBy (uh u) (ul u j) (ut u j) (uz u j)) hx hb hr (fun t ht hW => ⟨⟨offBy (uh u) (ul u j) (ut u j) (uz u j), u, rfl, ⟨fun _ => ⟨by rw [ej], rfl⟩, fun z => absurd hex9 z⟩, by rw [ht]; exact hP9, hD9⟩, hS.F ht⟩) hS.2.2 dX3_off_26

theorem inX3_sounds_RX3 : ∀ w ∈ u_ws RX3 TX3 8, w ∈ wsX3_sounds := by decide +kernel
theorem kX3_sounds_0 : (.fieldLink RX3 32 "WedgeHarpsModel" "thrown" "I" : Cond) ∈ wsX3_sounds := by decide +kernel
set_option maxHeartbeats 4000000 in
set_option maxRecDepth 100000 in
theorem mX3_sounds (l : Launch) (D : va_G) (cy : Nat → ClassId) (sz : Nat) (b : Nat → Nat) (u : US) (th : Int32) (hu : uOk u) (cv : Int32) : Met l yX3_sounds wsX3_sounds ({ frames := 6, cells := 0, slots := 0, locals := 129 } : Room) (va_Pc [.ref (b 0), .int cv] (fun U => U.heap.size = sz ∧ va_P D vwCl (wM cy b u th pz) U.heap ∧ va_K D vwCl (TY cy) U ∧ va_D (fun _ => True) (wM cy b u th pz))) (va_Qi (fun (r8 : Int32) (u9 : US) => (exC u cv = 0 → r8 = bI (snd u (ix cv)) ∧ u9 = u) ∧ (¬ exC u cv = 0 → u9 = u)) (fun (u9 : US) t => va_P D vwCl (wM cy b u9 (nI (exC u cv)) pz) t.heap ∧ va_D (va_A (wM cy b u th pz) sz) (wM cy b u9 (nI (exC u cv)) pz)) (va_A (wM cy b u th pz) sz)) 0 0 (va_A (wM cy b u th pz) sz) := by
  refine Met.ofW (cc := cX3_sounds) (maxL := 2) (ret := (some .boolean)) (by decide) rfl ?_
  intro p e s m args below meth c s₁ B hml hv
  obtain ⟨rfl, hsz, hP, hK, hD0⟩ := hv
  have hx := B.exec
  have hb := B.bytes
  have hr := B.returns
  have hts := atoms_spec (ws := wsX3_sounds) B.pre
  have hown : s.vm.findClass RX3 = some m.cls := findClass_of_methodNamed B.named
  have hlocks := B.notSynchronized
  have hl := lv_entry ([.ref (b 0), .int cv]) (n := 2) (Nat.le_of_ble_eq_true rfl)
  rw [lg_entry_eq]
  generalize (lg_sl ([.ref (b 0), .int cv]) ++ List.replicate (2 - (lg_sl ([.ref (b 0), .int cv])).length) Slot.unset).toArray = ls at hl ⊢
  have hl : lv_has ls 2 [(0, .ref (b 0)), (1, .int cv)] := hl
  subst hsz
  have hD := hD0.self (sz := s.heap.size)
  generalize hAe : va_A (wM cy b u th pz) s.heap.size = A at hD ⊢
  have hA : ∀ q : Nat, s.heap.size ≤ q → A q := fun q h => by rw [← hAe]; exact Or.inr h
  have hS : va_S A s.heap s.heap [] := va_S.rf
  have hP : va_P D vwCl (wM cy b u th pz) s.heap := hP
  refine lv_aload_n hx hb dX3_sounds_0 rfl (lv_at hl 0 rfl) ?_
  refine lv_aload_n hx hb dX3_sounds_1 rfl (lv_at hl 0 rfl) ?_
  refine lv_iload_n hx hb dX3_sounds_2 rfl (lv_at hl 1 rfl) ?_
  refine pc_calli (va_runV (As := [.int cv]) (rest := [.ref (b 0)]) ⟨hx, hb, hml, hown, hts⟩ (mX3_isChord l D cy b u th pz hu cv) (cwV 1 hts gX3_sounds_X3_isChord rfl rfl rfl (by decide +kernel) ⟨Nat.le_of_ble_eq_true rfl, Nat.le_of_ble_eq_true rfl⟩) ⟨fun a U g mk q => ⟨q.1, q.2.1, va_K.moved (u := U) (U := U.calling g mk a) (Vm.Alike.refl U.vm) q.2.2⟩, va_recv hK hP (ci := 3) (q0 := 0) rfl rfl, fun U hU hW => ⟨rfl, by rw [hU]; exact hP, va_K.moved hW.alike hK⟩⟩ rfl rfl hl.1 rfl (lv_room (Nat.le_of_ble_eq_true rfl)) dX3_sounds_3 ⟨Nat.le_of_ble_eq_true rfl, Nat.le_of_ble_eq_true rfl⟩) (fun r9 hr9 => ?_)
  subst hr9
  refine lv_if_eq (tgt := 13) hx hb dX3_sounds_6 (by decide) (fun c6 => ?_) (fun c6 => ?_)
  · refine lv_iconst (v := 1) hx hb dX3_sounds_13 (by decide) ?_
    refine va_put (D := D) (ci := 3) (v := .int 1) (ty := .int) (C := RX3) (T := TX3) (N := 8) hx hb hts inX3_sounds_RX3 tyX3 tyX3_ok nmX3 hown hK hP hD hS 0 rfl rfl 0 (by decide) (hts _ kX3_sounds_0) (fun _ h9 => h9) rfl (by decide +kernel) rfl rfl (Nat.le_of_ble_eq_true rfl) dX3_sounds_14 (fun H locs hP hD hS => ?_)
    have hP : va_P D vwCl [(b 0, .inr (3, [.int 1, .ref (b 1), .int (nI (un u)), .ref (b 2), .ref (b 3), .ref (b 4), .ref (b 5), .ref (b 6)])), (b 1, .inl ((cy 0), 72, .inl (mh (uh u)))), (b 2, .inl ((cy 0), 36, .inl (mt (ul u) (uz u) (ut u)))), (b 3, .inl ((cy 0), 12, .inl (uw u))), (b 4, .inl ((cy 0), 12, .inl (ud u))), (b 5, .inl ((cy 0), 2, .inl (mb (uh u)))), (b 6, .inl ((cy 0), 12, .inl pz))] H := hP
    have hD : va_D A [(b 0, .inr (3, [.int 1, .ref (b 1), .int (nI (un u)), .ref (b 2), .ref (b 3), .ref (b 4), .ref (b 5), .ref (b 6)])), (b 1, .inl ((cy 0), 72, .inl (mh (uh u)))), (b 2, .inl ((cy 0), 36, .inl (mt (ul u) (uz u) (ut u)))), (b 3, .inl ((cy 0), 12, .inl (uw u))), (b 4, .inl ((cy 0), 12, .inl (ud u))), (b 5, .inl ((cy 0), 2, .inl (mb (uh u)))), (b 6, .inl ((cy 0), 12, .inl pz))] := hD
    have hP : va_P D vwCl (wM cy b u 1 pz) H := hP
    have hD : va_D A (wM cy b u 1 pz) := hD
    refine lv_aload_n hx hb dX3_sounds_17 rfl (lv_at hl 0 rfl) ?_
    refine va_get (D := D) (ci := 3) (v := .int 1) (C := RX3) (T := TX3) (N := 8) hx hb hts inX3_sounds_RX3 hown hK hP 0 rfl rfl 0 (by decide) (hts _ kX3_sounds_0) (fun _ h9 => h9) rfl dX3_sounds_18 ?_
    refine lv_if_ne (tgt := 36) hx hb dX3_sounds_21 (by decide) (fun c21 => ?_) (fun c21 => absurd c21 (by decide))
    have n21 : ¬ (1 = 0) := fun h9 => c21 ((nI_eq (a := 1) (b := 0) (by omega) (by omega)).mpr h9)
    refine lv_iconst (v := 0) hx hb dX3_sounds_36 (by decide) ?_
    have hex9 : exC u cv = 1 := by simp [exC, bI_0.mp c6, c21]
    have hP9 : va_P D vwCl (wM cy b u (nI (exC u cv)) pz) H := (by rw [hex9]; exact hP)
    have hD9 : va_D A (wM cy b u (nI (exC u cv)) pz) := (by rw [hex9]; exact hD)
    exact W.zret (v := 0) hx hb hr (by decide) (fun t ht hW => ⟨⟨0, u, rfl, ⟨fun z => absurd (hex9.symm.trans z) (by decide), fun _ => rfl⟩, by rw [ht]; exact hP9, hD9⟩, hS.F ht⟩) hS.2.2 dX3_sounds_37
  · refine lv_iconst (v := 0) hx hb dX3_sounds_9 (by decide) ?_
    refine lv_goto (tgt := 14) hx hb dX3_sounds_10 (by decide) ?_
    refine va_put (D := D) (ci := 3) (v := .int 0) (ty := .int) (C := RX3) (T := TX3) (N := 8) hx hb hts inX3_sounds_RX3 tyX3 tyX3_ok nmX3 hown hK hP hD hS 0 rfl rfl 0 (by decide) (hts _ kX3_sounds_0) (fun _ h9 => h9) rfl (by decide +kernel) rfl rfl (Nat.le_of_ble_eq_true rfl) dX3_sounds_14 (fun H locs hP hD hS => ?_)
    have hP : va_P D vwCl [(b 0, .inr (3, [.int 0, .ref (b 1), .int (nI (un u)), .ref (b 2), .ref (b 3), .ref (b 4), .ref (b 5), .ref (b 6)])), (b 1, .inl ((cy 0), 72, .inl (mh (uh u)))), (b 2, .inl ((cy 0), 36, .inl (mt (ul u) (uz u) (ut u)))), (b 3, .inl ((cy 0), 12, .inl (uw u))), (b 4, .inl ((cy 0), 12, .inl (ud u))), (b 5, .inl ((cy 0), 2, .inl (mb (uh u)))), (b 6, .inl ((cy 0), 12, .inl pz))] H := hP
    have hD : va_D A [(b 0, .inr (3, [.int 0, .ref (b 1), .int (nI (un u)), .ref (b 2), .ref (b 3), .ref (b 4), .ref (b 5), .ref (b 6)])), (b 1, .inl ((cy 0), 72, .inl (mh (uh u)))), (b 2, .inl ((cy 0), 36, .inl (mt (ul u) (uz u) (ut u)))), (b 3, .inl ((cy 0), 12, .inl (uw u))), (b 4, .inl ((cy 0), 12, .inl (ud u))), (b 5, .inl ((cy 0), 2, .inl (mb (uh u)))), (b 6, .inl ((cy 0), 12, .inl pz))] := hD
    have hP : va_P D vwCl (wM cy b u 0 pz) H := hP
    have hD : va_D A (wM cy b u 0 pz) := hD
    obtain ⟨j, hj, rfl⟩ := isC_nat hu.2.1 (bI_1.mp c6)
    have h6 : j < 6 := Nat.lt_of_lt_of_le hj hu.2.1
    have ej : ix (nI j) = j := ix_nI (show j < 2147483648 by omega)
    have hc9 := hu.2.2.1 j h6
    refine lv_aload_n hx hb dX3_sounds_17 rfl (lv_at hl 0 rfl) ?_
    refine va_get (D := D) (ci := 3) (v := .int 0) (C := RX3) (T := TX3) (N := 8) hx hb hts inX3_sounds_RX3 hown hK hP 0 rfl rfl 0 (by decide) (hts _ kX3_sounds_0) (fun _ h9 => h9) rfl dX3_sounds_18 ?_
    refine lv_if_ne (tgt := 36) hx hb dX3_sounds_21 (by decide) (fun c21 => absurd c21 (not_not_intro (by decide))) (fun c21 => ?_)
    have n21 : 0 = 0 := (nI_eq (a := 0) (b := 0) (by omega) (by omega)).mp c21
    refine lv_aload_n hx hb dX3_sounds_24 rfl (lv_at hl 0 rfl) ?_
    refine lv_iload_n hx hb dX3_sounds_25 rfl (lv_at hl 1 rfl) ?_
    refine pc_calli (va_runV (As := [.int (nI j)]) (rest := []) ⟨hx, hb, hml, hown, hts⟩ (mX3_isSounding l D cy b u 0 pz j h6 (hu.2.2.1 j h6)) (cwV 1 hts gX3_sounds_X3_isSounding rfl rfl rfl (by decide +kernel) ⟨Nat.le_of_ble_eq_true rfl, Nat.le_of_ble_eq_true rfl⟩) ⟨fun a U g mk q => ⟨q.1, q.2.1, va_K.moved (u := U) (U := U.calling g mk a) (Vm.Alike.refl U.vm) q.2.2⟩, va_recv hK hP (ci := 3) (q0 := 0) rfl rfl, fun U hU hW => ⟨rfl, by rw [hU]; exact hP, va_K.moved hW.alike hK⟩⟩ rfl rfl hl.1 rfl (lv_room (Nat.le_of_ble_eq_true rfl)) dX3_sounds_26 ⟨Nat.le_of_ble_eq_true rfl, Nat.le_of_ble_eq_true rfl⟩) (fun r9 hr9 => ?_)
    subst hr9
    refine pc_top (show bI (sndP (uh u) pz (ul u j) (uz u j) (ut u j)) = bI (snd u j) from (congrArg bI (sndP_0 hc9.1))) ?_
    refine lv_if_eq (tgt := 36) hx hb dX3_sounds_29 (by decide) (fun c29 => ?_) (fun c29 => ?_)
    · refine lv_iconst (v := 0) hx hb dX3_sounds_36 (by decide) ?_
      have hex9 : exC u (nI j) = 0 := by simp [exC, bI_1.mp c6, c21, c29]
      have hP9 : va_P D vwCl (wM cy b u (nI (exC u (nI j))) pz) H := (by rw [hex9]; exact hP)
      have hD9 : va_D A (wM cy b u (nI (exC u (nI j))) pz) := (by rw [hex9]; exact hD)
      exact W.zret (v := 0) hx hb hr (by decide) (fun t ht hW => ⟨⟨0, u, rfl, ⟨fun _ => ⟨by rw [ej, bI_0.mp c29]; rfl, rfl⟩, fun z => absurd hex9 z⟩, by rw [ht]; exact hP9, hD9⟩, hS.F ht⟩) hS.2.2 dX3_sounds_37
    · refine lv_iconst (v := 1) hx hb dX3_sounds_32 (by decide) ?_
      refine lv_goto (tgt := 37) hx hb dX3_sounds_33 (by decide) ?_
      have hex9 : exC u (nI j) = 0 := by simp [exC, bI_1.mp c6, c21, c29]
      have hP9 : va_P D vwCl (wM cy b u (nI (exC u (nI j))) pz) H := (by rw [hex9]; exact hP)
      have hD9 : va_D A (wM cy b u (nI (exC u (nI j))) pz) := (by rw [hex9]; exact hD)
      exact W.zret (v := 1) hx hb hr (by decide) (fun t ht hW => ⟨⟨1, u, rfl, ⟨fun _ => ⟨by rw [ej, bI_1.mp c29]; rfl, rfl⟩, fun z => absurd hex9 z⟩, by rw [ht]; exact hP9, hD9⟩, hS.F ht⟩) hS.2.2 dX3_sounds_37

theorem inX3_counted_RX3 : ∀ w ∈ u_ws RX3 TX3 8, w ∈ wsX3_counted := by decide +kernel
theorem kX3_counted_0 : (.fieldLink RX3 22 "WedgeHarpsModel" "numbers" "[I" : Cond) ∈ wsX3_counted := by decide +kernel
theorem kX3_counted_1 : (.fieldLink RX3 61 "WedgeHarpsModel" "chords" "I" : Cond) ∈ wsX3_counted := by decide +kernel
set_option maxHeartbeats 4000000 in
set_option maxRecDepth 100000 in
theorem mX3_counted (l : Launch) (D : va_G) (cy : Nat → ClassId) (b : Nat → Nat) (u : US) (th : Int32) (hu : uOk u) (w : Nat) (hw : w < 8) : Met l yX3_counted wsX3_counted ({ frames := 6, cells := 0, slots := 0, locals := 132 } : Room) (va_Pc [.ref (b 0), .int (nI w)] (fun U => va_P D vwCl (wM cy b u th pz) U.heap ∧ va_K D vwCl (TY cy) U)) (vp_Si (fun r8 => r8 = cntOf u w)) 0 0 (fun _ => False) := by
  refine Met.ofW (cc := cX3_counted) (maxL := 5) (ret := (some .int)) (by decide) rfl ?_
  intro p e s m args below meth c s₁ B hml hv
  obtain ⟨rfl, hP, hK⟩ := hv
  have hx := B.exec
  have hb := B.bytes
  have hr := B.returns
  have hts := atoms_spec (ws := wsX3_counted) B.pre
  have hown : s.vm.findClass RX3 = some m.cls := findClass_of_methodNamed B.named
  have hlocks := B.notSynchronized
  have hl := lv_entry ([.ref (b 0), .int (nI w)]) (n := 5) (Nat.le_of_ble_eq_true rfl)
  rw [lg_entry_eq]
  generalize (lg_sl ([.ref (b 0), .int (nI w)]) ++ List.replicate (5 - (lg_sl ([.ref (b 0), .int (nI w)])).length) Slot.unset).toArray = ls at hl ⊢
  have hl : lv_has ls 5 [(0, .ref (b 0)), (1, .int (nI w))] := hl
  have hn9 : un u ≤ 6 := hu.2.1
  refine lv_iconst (v := 0) hx hb dX3_counted_0 (by decide) ?_
  refine lv_istore_n (lv' := [(2, .int 0), (0, .ref (b 0)), (1, .int (nI w))]) hx hb dX3_counted_1 rfl hl (by decide) rfl (fun ls hl => ?_)
  refine lv_iload_n hx hb dX3_counted_2 rfl (lv_at hl 2 rfl) ?_
  rcases (show w = 0 ∨ w = 1 ∨ w = 2 ∨ w = 3 ∨ w = 4 ∨ w = 5 ∨ w = 6 ∨ w = 7 by omega) with rfl | rfl | rfl | rfl | rfl | rfl | rfl | rfl
  ·
    refine lv_tableIn (off := 33) (tgt := 36) hx hb dX3_counted_3 (by decide) (by decide) rfl (by decide) ?_
    refine lv_aload_n hx hb dX3_counted_36 rfl (lv_at hl 1 rfl) ?_
    refine va_get (D := D) (ci := 3) (v := .ref (b 5)) (C := RX3) (T := TX3) (N := 8) hx hb hts inX3_counted_RX3 hown hK hP 0 rfl rfl 6 (by decide) (hts _ kX3_counted_0) (fun _ h9 => h9) rfl dX3_counted_37 ?_
    refine lv_iconst (v := 0) hx hb dX3_counted_40 (by decide) ?_
    refine pc_iald hx hb hK hP 5 0 rfl rfl (k := 0) (show 0 < 2 by omega) (by decide) dX3_counted_41 ?_
    exact W.iret (v := (mb (uh u)) 0) hx hb hr (fun t ht hW => ⟨(mb (uh u)) 0, rfl, rfl, ht⟩) (fun q hq => absurd hq List.not_mem_nil) dX3_counted_42
  ·
    refine lv_tableIn (off := 86) (tgt := 89) hx hb dX3_counted_3 (by decide) (by decide) rfl (by decide) ?_
    refine lv_iload_n hx hb dX3_counted_89 rfl (lv_at hl 2 rfl) ?_
    refine lv_iconst (v := 1) hx hb dX3_counted_90 (by decide) ?_
    refine lv_icmp_ne (tgt := 98) hx hb dX3_counted_91 (by decide) (fun c91 => absurd c91 (not_not_intro (by decide))) (fun c91 => ?_)
    have n91 : 1 = 1 := (nI_eq (a := 1) (b := 1) (by omega) (by omega)).mp c91
    refine lv_iconst (v := 4) hx hb dX3_counted_94 (by decide) ?_
    refine lv_goto (tgt := 118) hx hb dX3_counted_95 (by decide) ?_
    refine lv_istore_n (lv' := [(3, .int 4), (2, .int 0), (0, .ref (b 0)), (1, .int (nI 1))]) hx hb dX3_counted_118 rfl hl (by decide) rfl (fun ls hl => ?_)
    refine lv_iconst (v := 0) hx hb dX3_counted_119 (by decide) ?_
    refine lv_istore (lv' := [(4, .int 0), (3, .int 4), (2, .int 0), (0, .ref (b 0)), (1, .int (nI 1))]) hx hb dX3_counted_120 hl (by decide) rfl (fun ls hl => ?_)
    have loop122 : ∀ (n9 : Nat) (k : Nat), k ≤ 12 → 12 - k < n9 → ∀ ls : Array Slot, lv_has ls 5 [(0, .ref (b 0)), (1, .int 1), (2, .int (sumN (zo (uh u)) k)), (3, .int 4), (4, .int (nI k))] → W p l e (headSpec wsX3_counted ({ frames := 6, cells := 0, slots := 0, locals := 132 } : Room)).room s m ([.ref (b 0), .int (nI 1)] : List Value).toArray below meth c s.heap [] 0 0 (MQ below (vp_Si (fun r8 => r8 = cntOf u 1)) ([.ref (b 0), .int (nI 1)] : List Value).toArray s 0 0 (fun _ => False)) (F0 m 122 ls []) := by
      intro n9
      induction n9 with
      | zero => intro k hk h9 ls hl; exact absurd h9 (by omega)
      | succ n9 ih122 =>
        intro k hk h9 ls hl
        refine lv_iload hx hb dX3_counted_122 (lv_at hl 4 rfl) ?_
        refine lv_bipush (v := 12) hx hb dX3_counted_124 (by decide) ?_
        refine lv_icmp_ge (tgt := 145) hx hb dX3_counted_126 (by decide) (fun c126 => ?_) (fun c126 => ?_)
        · have n126 : 12 ≤ k := (nI_leI (a := 12) (b := k) (by omega) (by omega)).mp c126
          refine lv_iload_n hx hb dX3_counted_145 rfl (lv_at hl 2 rfl) ?_
          exact W.iret (v := sumN (zo (uh u)) k) hx hb hr (fun t ht hW => ⟨sumN (zo (uh u)) k, rfl, (by rw [show k = 12 by omega]; rfl), ht⟩) (fun q hq => absurd hq List.not_mem_nil) dX3_counted_146
        · have n126 : ¬ (12 ≤ k) := fun h9 => c126 ((nI_leI (a := 12) (b := k) (by omega) (by omega)).mpr h9)
          refine lv_iload_n hx hb dX3_counted_129 rfl (lv_at hl 2 rfl) ?_
          refine lv_aload_n hx hb dX3_counted_130 rfl (lv_at hl 0 rfl) ?_
          refine lv_iload hx hb dX3_counted_131 (lv_at hl 4 rfl) ?_
          refine lv_iload_n hx hb dX3_counted_133 rfl (lv_at hl 3 rfl) ?_
          refine pc_calli (va_runV (As := [.int (nI k), .int 4]) (rest := [.int (sumN (zo (uh u)) k)]) ⟨hx, hb, hml, hown, hts⟩ (mX3_ha l D cy b u th pz k 4 (by omega) (by decide)) (cwV 2 hts gX3_counted_X3_ha rfl rfl rfl (by decide +kernel) ⟨Nat.le_of_ble_eq_true rfl, Nat.le_of_ble_eq_true rfl⟩) ⟨fun a U g mk q => ⟨q.1, q.2.1, va_K.moved (u := U) (U := U.calling g mk a) (Vm.Alike.refl U.vm) q.2.2⟩, va_recv hK hP (ci := 3) (q0 := 0) rfl rfl, fun U hU hW => ⟨rfl, by rw [hU]; exact hP, va_K.moved hW.alike hK⟩⟩ rfl rfl hl.1 rfl (lv_room (Nat.le_of_ble_eq_true rfl)) dX3_counted_134 ⟨Nat.le_of_ble_eq_true rfl, Nat.le_of_ble_eq_true rfl⟩) (fun r9 hr9 => ?_)
          subst hr9
          refine pc_top (show haF (uh u) k 4 = zo (uh u) k from rfl) ?_
          refine lv_iadd hx hb dX3_counted_137 ?_
          refine lv_istore_n (lv' := [(2, .int ((sumN (zo (uh u)) k) + (zo (uh u) k))), (0, .ref (b 0)), (1, .int 1), (3, .int 4), (4, .int (nI k))]) hx hb dX3_counted_138 rfl hl (by decide) rfl (fun ls hl => ?_)
          refine lv_iinc (v := nI (k + 1)) (lv' := [(4, .int (nI (k + 1))), (2, .int ((sumN (zo (uh u)) k) + (zo (uh u) k))), (0, .ref (b 0)), (1, .int 1), (3, .int 4)]) hx hb dX3_counted_139 hl (k := 4) rfl ((show (nI k) + Int32.ofInt 1 = (nI k) + 1 from rfl).trans (show (nI k) + 1 = nI (k + 1) from nI_add k 1)) (by decide) rfl (fun ls hl => ?_)
          refine lv_goto (tgt := 122) hx hb dX3_counted_142 (by decide) ?_
          exact ih122 (k + 1) (by omega) (by omega) ls (lv_sub hl [2, 3, 1, 4, 0] rfl)
    exact loop122 (12 + 1) 0 (by decide) (by omega) ls (lv_sub hl [3, 4, 2, 1, 0] rfl)
  ·
    refine lv_tableIn (off := 40) (tgt := 43) hx hb dX3_counted_3 (by decide) (by decide) rfl (by decide) ?_
    refine lv_aload_n hx hb dX3_counted_43 rfl (lv_at hl 1 rfl) ?_
    refine va_get (D := D) (ci := 3) (v := .int (nI (un u))) (C := RX3) (T := TX3) (N := 8) hx hb hts inX3_counted_RX3 hown hK hP 0 rfl rfl 2 (by decide) (hts _ kX3_counted_1) (fun _ h9 => h9) rfl dX3_counted_44 ?_
    exact W.iret (v := nI (un u)) hx hb hr (fun t ht hW => ⟨nI (un u), rfl, rfl, ht⟩) (fun q hq => absurd hq List.not_mem_nil) dX3_counted_47
  ·
    refine lv_tableIn (off := 45) (tgt := 48) hx hb dX3_counted_3 (by decide) (by decide) rfl (by decide) ?_
    refine lv_iconst (v := 0) hx hb dX3_counted_48 (by decide) ?_
    refine lv_istore_n (lv' := [(3, .int 0), (2, .int 0), (0, .ref (b 0)), (1, .int (nI 3))]) hx hb dX3_counted_49 rfl hl (by decide) rfl (fun ls hl => ?_)
    have loop50 : ∀ (n9 : Nat) (k : Nat), k ≤ un u → un u - k < n9 → ∀ ls : Array Slot, lv_has ls 5 [(0, .ref (b 0)), (1, .int 3), (2, .int (nI (cnt (snd u) 0 k))), (3, .int (nI k))] → W p l e (headSpec wsX3_counted ({ frames := 6, cells := 0, slots := 0, locals := 132 } : Room)).room s m ([.ref (b 0), .int (nI 3)] : List Value).toArray below meth c s.heap [] 0 0 (MQ below (vp_Si (fun r8 => r8 = cntOf u 3)) ([.ref (b 0), .int (nI 3)] : List Value).toArray s 0 0 (fun _ => False)) (F0 m 50 ls []) := by
      intro n9
      induction n9 with
      | zero => intro k hk h9 ls hl; exact absurd h9 (by omega)
      | succ n9 ih50 =>
        intro k hk h9 ls hl
        refine lv_iload_n hx hb dX3_counted_50 rfl (lv_at hl 3 rfl) ?_
        refine lv_aload_n hx hb dX3_counted_51 rfl (lv_at hl 0 rfl) ?_
        refine va_get (D := D) (ci := 3) (v := .int (nI (un u))) (C := RX3) (T := TX3) (N := 8) hx hb hts inX3_counted_RX3 hown hK hP 0 rfl rfl 2 (by decide) (hts _ kX3_counted_1) (fun _ h9 => h9) rfl dX3_counted_52 ?_
        refine lv_icmp_ge (tgt := 80) hx hb dX3_counted_55 (by decide) (fun c55 => ?_) (fun c55 => ?_)
        · have n55 : un u ≤ k := (nI_leI (a := un u) (b := k) (by omega) (by omega)).mp c55
          refine lv_iload_n hx hb dX3_counted_80 rfl (lv_at hl 2 rfl) ?_
          exact W.iret (v := nI (cnt (snd u) 0 k)) hx hb hr (fun t ht hW => ⟨nI (cnt (snd u) 0 k), rfl, (by rw [show k = un u by omega]; rfl), ht⟩) (fun q hq => absurd hq List.not_mem_nil) dX3_counted_81
        · have n55 : ¬ (un u ≤ k) := fun h9 => c55 ((nI_leI (a := un u) (b := k) (by omega) (by omega)).mpr h9)
          have k6 : k < 6 := by omega
          refine lv_iload_n hx hb dX3_counted_58 rfl (lv_at hl 2 rfl) ?_
          refine lv_aload_n hx hb dX3_counted_59 rfl (lv_at hl 0 rfl) ?_
          refine lv_iload_n hx hb dX3_counted_60 rfl (lv_at hl 3 rfl) ?_
          refine pc_calli (va_runV (As := [.int (nI k)]) (rest := [.int (nI (cnt (snd u) 0 k))]) ⟨hx, hb, hml, hown, hts⟩ (mX3_isSounding l D cy b u th pz k k6 (hu.2.2.1 k k6)) (cwV 1 hts gX3_counted_X3_isSounding rfl rfl rfl (by decide +kernel) ⟨Nat.le_of_ble_eq_true rfl, Nat.le_of_ble_eq_true rfl⟩) ⟨fun a U g mk q => ⟨q.1, q.2.1, va_K.moved (u := U) (U := U.calling g mk a) (Vm.Alike.refl U.vm) q.2.2⟩, va_recv hK hP (ci := 3) (q0 := 0) rfl rfl, fun U hU hW => ⟨rfl, by rw [hU]; exact hP, va_K.moved hW.alike hK⟩⟩ rfl rfl hl.1 rfl (lv_room (Nat.le_of_ble_eq_true rfl)) dX3_counted_61 ⟨Nat.le_of_ble_eq_true rfl, Nat.le_of_ble_eq_true rfl⟩) (fun r9 hr9 => ?_)
          subst hr9
          refine pc_top (show bI (sndP (uh u) pz (ul u k) (uz u k) (ut u k)) = bI (snd u k) from (congrArg bI (sndP_0 (hu.2.2.1 k k6).1))) ?_
          refine lv_if_eq (tgt := 71) hx hb dX3_counted_64 (by decide) (fun c64 => ?_) (fun c64 => ?_)
          · refine lv_iconst (v := 0) hx hb dX3_counted_71 (by decide) ?_
            refine lv_iadd hx hb dX3_counted_72 ?_
            refine pc_top (show (nI (cnt (snd u) 0 k)) + 0 = nI (cnt (snd u) 0 k + 0) from nI_add (cnt (snd u) 0 k) 0) ?_
            refine pc_top (show nI (cnt (snd u) 0 k + 0) = nI (cnt (snd u) 0 (k + 1)) from (by simp [cnt, show snd u k = false from bI_0.mp c64])) ?_
            refine lv_istore_n (lv' := [(2, .int (nI (cnt (snd u) 0 (k + 1)))), (0, .ref (b 0)), (1, .int 3), (3, .int (nI k))]) hx hb dX3_counted_73 rfl hl (by decide) rfl (fun ls hl => ?_)
            refine lv_iinc (v := nI (k + 1)) (lv' := [(3, .int (nI (k + 1))), (2, .int (nI (cnt (snd u) 0 (k + 1)))), (0, .ref (b 0)), (1, .int 3)]) hx hb dX3_counted_74 hl (k := 3) rfl ((show (nI k) + Int32.ofInt 1 = (nI k) + 1 from rfl).trans (show (nI k) + 1 = nI (k + 1) from nI_add k 1)) (by decide) rfl (fun ls hl => ?_)
            refine lv_goto (tgt := 50) hx hb dX3_counted_77 (by decide) ?_
            exact ih50 (k + 1) (by omega) (by omega) ls (lv_sub hl [2, 3, 1, 0] rfl)
          · refine lv_iconst (v := 1) hx hb dX3_counted_67 (by decide) ?_
            refine lv_goto (tgt := 72) hx hb dX3_counted_68 (by decide) ?_
            refine lv_iadd hx hb dX3_counted_72 ?_
            refine pc_top (show (nI (cnt (snd u) 0 k)) + 1 = nI (cnt (snd u) 0 k + 1) from nI_add (cnt (snd u) 0 k) 1) ?_
            refine pc_top (show nI (cnt (snd u) 0 k + 1) = nI (cnt (snd u) 0 (k + 1)) from (by simp [cnt, show snd u k = true from bI_1.mp c64])) ?_
            refine lv_istore_n (lv' := [(2, .int (nI (cnt (snd u) 0 (k + 1)))), (0, .ref (b 0)), (1, .int 3), (3, .int (nI k))]) hx hb dX3_counted_73 rfl hl (by decide) rfl (fun ls hl => ?_)
            refine lv_iinc (v := nI (k + 1)) (lv' := [(3, .int (nI (k + 1))), (2, .int (nI (cnt (snd u) 0 (k + 1)))), (0, .ref (b 0)), (1, .int 3)]) hx hb dX3_counted_74 hl (k := 3) rfl ((show (nI k) + Int32.ofInt 1 = (nI k) + 1 from rfl).trans (show (nI k) + 1 = nI (k + 1) from nI_add k 1)) (by decide) rfl (fun ls hl => ?_)
            refine lv_goto (tgt := 50) hx hb dX3_counted_77 (by decide) ?_
            exact ih50 (k + 1) (by omega) (by omega) ls (lv_sub hl [2, 3, 1, 0] rfl)
    exact loop50 (un u + 1) 0 (Nat.zero_le _) (by omega) ls (lv_sub hl [2, 3, 1, 0] rfl)
  ·
    refine lv_tableIn (off := 79) (tgt := 82) hx hb dX3_counted_3 (by decide) (by decide) rfl (by decide) ?_
    refine lv_aload_n hx hb dX3_counted_82 rfl (lv_at hl 1 rfl) ?_
    refine va_get (D := D) (ci := 3) (v := .ref (b 5)) (C := RX3) (T := TX3) (N := 8) hx hb hts inX3_counted_RX3 hown hK hP 0 rfl rfl 6 (by decide) (hts _ kX3_counted_0) (fun _ h9 => h9) rfl dX3_counted_83 ?_
    refine lv_iconst (v := 1) hx hb dX3_counted_86 (by decide) ?_
    refine pc_iald hx hb hK hP 5 0 rfl rfl (k := 1) (show 1 < 2 by omega) (by decide) dX3_counted_87 ?_
    exact W.iret (v := (mb (uh u)) 1) hx hb hr (fun t ht hW => ⟨(mb (uh u)) 1, rfl, rfl, ht⟩) (fun q hq => absurd hq List.not_mem_nil) dX3_counted_88
  ·
    refine lv_tableOut (tgt := 89) hx hb dX3_counted_3 (by first | exact Or.inl (by decide) | exact Or.inr (by decide)) (by decide) ?_
    refine lv_iload_n hx hb dX3_counted_89 rfl (lv_at hl 2 rfl) ?_
    refine lv_iconst (v := 1) hx hb dX3_counted_90 (by decide) ?_
    refine lv_icmp_ne (tgt := 98) hx hb dX3_counted_91 (by decide) (fun c91 => ?_) (fun c91 => absurd c91 (by decide))
    have n91 : ¬ (5 = 1) := fun h9 => c91 ((nI_eq (a := 5) (b := 1) (by omega) (by omega)).mpr h9)
    refine lv_iload_n hx hb dX3_counted_98 rfl (lv_at hl 2 rfl) ?_
    refine lv_iconst (v := 5) hx hb dX3_counted_99 (by decide) ?_
    refine lv_icmp_ne (tgt := 107) hx hb dX3_counted_100 (by decide) (fun c100 => absurd c100 (not_not_intro (by decide))) (fun c100 => ?_)
    have n100 : 5 = 5 := (nI_eq (a := 5) (b := 5) (by omega) (by omega)).mp c100
    refine lv_iconst (v := 1) hx hb dX3_counted_103 (by decide) ?_
    refine lv_goto (tgt := 118) hx hb dX3_counted_104 (by decide) ?_
    refine lv_istore_n (lv' := [(3, .int 1), (2, .int 0), (0, .ref (b 0)), (1, .int (nI 5))]) hx hb dX3_counted_118 rfl hl (by decide) rfl (fun ls hl => ?_)
    refine lv_iconst (v := 0) hx hb dX3_counted_119 (by decide) ?_
    refine lv_istore (lv' := [(4, .int 0), (3, .int 1), (2, .int 0), (0, .ref (b 0)), (1, .int (nI 5))]) hx hb dX3_counted_120 hl (by decide) rfl (fun ls hl => ?_)
    have loop122 : ∀ (n9 : Nat) (k : Nat), k ≤ 12 → 12 - k < n9 → ∀ ls : Array Slot, lv_has ls 5 [(0, .ref (b 0)), (1, .int 5), (2, .int (sumN (zw (uh u)) k)), (3, .int 1), (4, .int (nI k))] → W p l e (headSpec wsX3_counted ({ frames := 6, cells := 0, slots := 0, locals := 132 } : Room)).room s m ([.ref (b 0), .int (nI 5)] : List Value).toArray below meth c s.heap [] 0 0 (MQ below (vp_Si (fun r8 => r8 = cntOf u 5)) ([.ref (b 0), .int (nI 5)] : List Value).toArray s 0 0 (fun _ => False)) (F0 m 122 ls []) := by
      intro n9
      induction n9 with
      | zero => intro k hk h9 ls hl; exact absurd h9 (by omega)
      | succ n9 ih122 =>
        intro k hk h9 ls hl
        refine lv_iload hx hb dX3_counted_122 (lv_at hl 4 rfl) ?_
        refine lv_bipush (v := 12) hx hb dX3_counted_124 (by decide) ?_
        refine lv_icmp_ge (tgt := 145) hx hb dX3_counted_126 (by decide) (fun c126 => ?_) (fun c126 => ?_)
        · have n126 : 12 ≤ k := (nI_leI (a := 12) (b := k) (by omega) (by omega)).mp c126
          refine lv_iload_n hx hb dX3_counted_145 rfl (lv_at hl 2 rfl) ?_
          exact W.iret (v := sumN (zw (uh u)) k) hx hb hr (fun t ht hW => ⟨sumN (zw (uh u)) k, rfl, (by rw [show k = 12 by omega]; rfl), ht⟩) (fun q hq => absurd hq List.not_mem_nil) dX3_counted_146
        · have n126 : ¬ (12 ≤ k) := fun h9 => c126 ((nI_leI (a := 12) (b := k) (by omega) (by omega)).mpr h9)
          refine lv_iload_n hx hb dX3_counted_129 rfl (lv_at hl 2 rfl) ?_
          refine lv_aload_n hx hb dX3_counted_130 rfl (lv_at hl 0 rfl) ?_
          refine lv_iload hx hb dX3_counted_131 (lv_at hl 4 rfl) ?_
          refine lv_iload_n hx hb dX3_counted_133 rfl (lv_at hl 3 rfl) ?_
          refine pc_calli (va_runV (As := [.int (nI k), .int 1]) (rest := [.int (sumN (zw (uh u)) k)]) ⟨hx, hb, hml, hown, hts⟩ (mX3_ha l D cy b u th pz k 1 (by omega) (by decide)) (cwV 2 hts gX3_counted_X3_ha rfl rfl rfl (by decide +kernel) ⟨Nat.le_of_ble_eq_true rfl, Nat.le_of_ble_eq_true rfl⟩) ⟨fun a U g mk q => ⟨q.1, q.2.1, va_K.moved (u := U) (U := U.calling g mk a) (Vm.Alike.refl U.vm) q.2.2⟩, va_recv hK hP (ci := 3) (q0 := 0) rfl rfl, fun U hU hW => ⟨rfl, by rw [hU]; exact hP, va_K.moved hW.alike hK⟩⟩ rfl rfl hl.1 rfl (lv_room (Nat.le_of_ble_eq_true rfl)) dX3_counted_134 ⟨Nat.le_of_ble_eq_true rfl, Nat.le_of_ble_eq_true rfl⟩) (fun r9 hr9 => ?_)
          subst hr9
          refine pc_top (show haF (uh u) k 1 = zw (uh u) k from rfl) ?_
          refine lv_iadd hx hb dX3_counted_137 ?_
          refine lv_istore_n (lv' := [(2, .int ((sumN (zw (uh u)) k) + (zw (uh u) k))), (0, .ref (b 0)), (1, .int 5), (3, .int 1), (4, .int (nI k))]) hx hb dX3_counted_138 rfl hl (by decide) rfl (fun ls hl => ?_)
          refine lv_iinc (v := nI (k + 1)) (lv' := [(4, .int (nI (k + 1))), (2, .int ((sumN (zw (uh u)) k) + (zw (uh u) k))), (0, .ref (b 0)), (1, .int 5), (3, .int 1)]) hx hb dX3_counted_139 hl (k := 4) rfl ((show (nI k) + Int32.ofInt 1 = (nI k) + 1 from rfl).trans (show (nI k) + 1 = nI (k + 1) from nI_add k 1)) (by decide) rfl (fun ls hl => ?_)
          refine lv_goto (tgt := 122) hx hb dX3_counted_142 (by decide) ?_
          exact ih122 (k + 1) (by omega) (by omega) ls (lv_sub hl [2, 3, 1, 4, 0] rfl)
    exact loop122 (12 + 1) 0 (by decide) (by omega) ls (lv_sub hl [3, 4, 2, 1, 0] rfl)
  ·
    refine lv_tableOut (tgt := 89) hx hb dX3_counted_3 (by first | exact Or.inl (by decide) | exact Or.inr (by decide)) (by decide) ?_
    refine lv_iload_n hx hb dX3_counted_89 rfl (lv_at hl 2 rfl) ?_
    refine lv_iconst (v := 1) hx hb dX3_counted_90 (by decide) ?_
    refine lv_icmp_ne (tgt := 98) hx hb dX3_counted_91 (by decide) (fun c91 => ?_) (fun c91 => absurd c91 (by decide))
    have n91 : ¬ (6 = 1) := fun h9 => c91 ((nI_eq (a := 6) (b := 1) (by omega) (by omega)).mpr h9)
    refine lv_iload_n hx hb dX3_counted_98 rfl (lv_at hl 2 rfl) ?_
    refine lv_iconst (v := 5) hx hb dX3_counted_99 (by decide) ?_
    refine lv_icmp_ne (tgt := 107) hx hb dX3_counted_100 (by decide) (fun c100 => ?_) (fun c100 => absurd c100 (by decide))
    have n100 : ¬ (6 = 5) := fun h9 => c100 ((nI_eq (a := 6) (b := 5) (by omega) (by omega)).mpr h9)
    refine lv_iload_n hx hb dX3_counted_107 rfl (lv_at hl 2 rfl) ?_
    refine lv_bipush (v := 6) hx hb dX3_counted_108 (by decide) ?_
    refine lv_icmp_ne (tgt := 117) hx hb dX3_counted_110 (by decide) (fun c110 => absurd c110 (not_not_intro (by decide))) (fun c110 => ?_)
    have n110 : 6 = 6 := (nI_eq (a := 6) (b := 6) (by omega) (by omega)).mp c110
    refine lv_iconst (v := 3) hx hb dX3_counted_113 (by decide) ?_
    refine lv_goto (tgt := 118) hx hb dX3_counted_114 (by decide) ?_
    refine lv_istore_n (lv' := [(3, .int 3), (2, .int 0), (0, .ref (b 0)), (1, .int (nI 6))]) hx hb dX3_counted_118 rfl hl (by decide) rfl (fun ls hl => ?_)
    refine lv_iconst (v := 0) hx hb dX3_counted_119 (by decide) ?_
    refine lv_istore (lv' := [(4, .int 0), (3, .int 3), (2, .int 0), (0, .ref (b 0)), (1, .int (nI 6))]) hx hb dX3_counted_120 hl (by decide) rfl (fun ls hl => ?_)
    have loop122 : ∀ (n9 : Nat) (k : Nat), k ≤ 12 → 12 - k < n9 → ∀ ls : Array Slot, lv_has ls 5 [(0, .ref (b 0)), (1, .int 6), (2, .int (sumN (zs (uh u)) k)), (3, .int 3), (4, .int (nI k))] → W p l e (headSpec wsX3_counted ({ frames := 6, cells := 0, slots := 0, locals := 132 } : Room)).room s m ([.ref (b 0), .int (nI 6)] : List Value).toArray below meth c s.heap [] 0 0 (MQ below (vp_Si (fun r8 => r8 = cntOf u 6)) ([.ref (b 0), .int (nI 6)] : List Value).toArray s 0 0 (fun _ => False)) (F0 m 122 ls []) := by
      intro n9
      induction n9 with
      | zero => intro k hk h9 ls hl; exact absurd h9 (by omega)
      | succ n9 ih122 =>
        intro k hk h9 ls hl
        refine lv_iload hx hb dX3_counted_122 (lv_at hl 4 rfl) ?_
        refine lv_bipush (v := 12) hx hb dX3_counted_124 (by decide) ?_
        refine lv_icmp_ge (tgt := 145) hx hb dX3_counted_126 (by decide) (fun c126 => ?_) (fun c126 => ?_)
        · have n126 : 12 ≤ k := (nI_leI (a := 12) (b := k) (by omega) (by omega)).mp c126
          refine lv_iload_n hx hb dX3_counted_145 rfl (lv_at hl 2 rfl) ?_
          exact W.iret (v := sumN (zs (uh u)) k) hx hb hr (fun t ht hW => ⟨sumN (zs (uh u)) k, rfl, (by rw [show k = 12 by omega]; rfl), ht⟩) (fun q hq => absurd hq List.not_mem_nil) dX3_counted_146
        · have n126 : ¬ (12 ≤ k) := fun h9 => c126 ((nI_leI (a := 12) (b := k) (by omega) (by omega)).mpr h9)
          refine lv_iload_n hx hb dX3_counted_129 rfl (lv_at hl 2 rfl) ?_
          refine lv_aload_n hx hb dX3_counted_130 rfl (lv_at hl 0 rfl) ?_
          refine lv_iload hx hb dX3_counted_131 (lv_at hl 4 rfl) ?_
          refine lv_iload_n hx hb dX3_counted_133 rfl (lv_at hl 3 rfl) ?_
          refine pc_calli (va_runV (As := [.int (nI k), .int 3]) (rest := [.int (sumN (zs (uh u)) k)]) ⟨hx, hb, hml, hown, hts⟩ (mX3_ha l D cy b u th pz k 3 (by omega) (by decide)) (cwV 2 hts gX3_counted_X3_ha rfl rfl rfl (by decide +kernel) ⟨Nat.le_of_ble_eq_true rfl, Nat.le_of_ble_eq_true rfl⟩) ⟨fun a U g mk q => ⟨q.1, q.2.1, va_K.moved (u := U) (U := U.calling g mk a) (Vm.Alike.refl U.vm) q.2.2⟩, va_recv hK hP (ci := 3) (q0 := 0) rfl rfl, fun U hU hW => ⟨rfl, by rw [hU]; exact hP, va_K.moved hW.alike hK⟩⟩ rfl rfl hl.1 rfl (lv_room (Nat.le_of_ble_eq_true rfl)) dX3_counted_134 ⟨Nat.le_of_ble_eq_true rfl, Nat.le_of_ble_eq_true rfl⟩) (fun r9 hr9 => ?_)
          subst hr9
          refine pc_top (show haF (uh u) k 3 = zs (uh u) k from rfl) ?_
          refine lv_iadd hx hb dX3_counted_137 ?_
          refine lv_istore_n (lv' := [(2, .int ((sumN (zs (uh u)) k) + (zs (uh u) k))), (0, .ref (b 0)), (1, .int 6), (3, .int 3), (4, .int (nI k))]) hx hb dX3_counted_138 rfl hl (by decide) rfl (fun ls hl => ?_)
          refine lv_iinc (v := nI (k + 1)) (lv' := [(4, .int (nI (k + 1))), (2, .int ((sumN (zs (uh u)) k) + (zs (uh u) k))), (0, .ref (b 0)), (1, .int 6), (3, .int 3)]) hx hb dX3_counted_139 hl (k := 4) rfl ((show (nI k) + Int32.ofInt 1 = (nI k) + 1 from rfl).trans (show (nI k) + 1 = nI (k + 1) from nI_add k 1)) (by decide) rfl (fun ls hl => ?_)
          refine lv_goto (tgt := 122) hx hb dX3_counted_142 (by decide) ?_
          exact ih122 (k + 1) (by omega) (by omega) ls (lv_sub hl [2, 3, 1, 4, 0] rfl)
    exact loop122 (12 + 1) 0 (by decide) (by omega) ls (lv_sub hl [3, 4, 2, 1, 0] rfl)
  ·
    refine lv_tableOut (tgt := 89) hx hb dX3_counted_3 (by first | exact Or.inl (by decide) | exact Or.inr (by decide)) (by decide) ?_
    refine lv_iload_n hx hb dX3_counted_89 rfl (lv_at hl 2 rfl) ?_
    refine lv_iconst (v := 1) hx hb dX3_counted_90 (by decide) ?_
    refine lv_icmp_ne (tgt := 98) hx hb dX3_counted_91 (by decide) (fun c91 => ?_) (fun c91 => absurd c91 (by decide))
    have n91 : ¬ (7 = 1) := fun h9 => c91 ((nI_eq (a := 7) (b := 1) (by omega) (by omega)).mpr h9)
    refine lv_iload_n hx hb dX3_counted_98 rfl (lv_at hl 2 rfl) ?_
    refine lv_iconst (v := 5) hx hb dX3_counted_99 (by decide) ?_
    refine lv_icmp_ne (tgt := 107) hx hb dX3_counted_100 (by decide) (fun c100 => ?_) (fun c100 => absurd c100 (by decide))
    have n100 : ¬ (7 = 5) := fun h9 => c100 ((nI_eq (a := 7) (b := 5) (by omega) (by omega)).mpr h9)
    refine lv_iload_n hx hb dX3_counted_107 rfl (lv_at hl 2 rfl) ?_
    refine lv_bipush (v := 6) hx hb dX3_counted_108 (by decide) ?_
    refine lv_icmp_ne (tgt := 117) hx hb dX3_counted_110 (by decide) (fun c110 => ?_) (fun c110 => absurd c110 (by decide))
    have n110 : ¬ (7 = 6) := fun h9 => c110 ((nI_eq (a := 7) (b := 6) (by omega) (by omega)).mpr h9)
    refine lv_iconst (v := 5) hx hb dX3_counted_117 (by decide) ?_
    refine lv_istore_n (lv' := [(3, .int 5), (2, .int 0), (0, .ref (b 0)), (1, .int (nI 7))]) hx hb dX3_counted_118 rfl hl (by decide) rfl (fun ls hl => ?_)
    refine lv_iconst (v := 0) hx hb dX3_counted_119 (by decide) ?_
    refine lv_istore (lv' := [(4, .int 0), (3, .int 5), (2, .int 0), (0, .ref (b 0)), (1, .int (nI 7))]) hx hb dX3_counted_120 hl (by decide) rfl (fun ls hl => ?_)
    have loop122 : ∀ (n9 : Nat) (k : Nat), k ≤ 12 → 12 - k < n9 → ∀ ls : Array Slot, lv_has ls 5 [(0, .ref (b 0)), (1, .int 7), (2, .int (sumN (zr (uh u)) k)), (3, .int 5), (4, .int (nI k))] → W p l e (headSpec wsX3_counted ({ frames := 6, cells := 0, slots := 0, locals := 132 } : Room)).room s m ([.ref (b 0), .int (nI 7)] : List Value).toArray below meth c s.heap [] 0 0 (MQ below (vp_Si (fun r8 => r8 = cntOf u 7)) ([.ref (b 0), .int (nI 7)] : List Value).toArray s 0 0 (fun _ => False)) (F0 m 122 ls []) := by
      intro n9
      induction n9 with
      | zero => intro k hk h9 ls hl; exact absurd h9 (by omega)
      | succ n9 ih122 =>
        intro k hk h9 ls hl
        refine lv_iload hx hb dX3_counted_122 (lv_at hl 4 rfl) ?_
        refine lv_bipush (v := 12) hx hb dX3_counted_124 (by decide) ?_
        refine lv_icmp_ge (tgt := 145) hx hb dX3_counted_126 (by decide) (fun c126 => ?_) (fun c126 => ?_)
        · have n126 : 12 ≤ k := (nI_leI (a := 12) (b := k) (by omega) (by omega)).mp c126
          refine lv_iload_n hx hb dX3_counted_145 rfl (lv_at hl 2 rfl) ?_
          exact W.iret (v := sumN (zr (uh u)) k) hx hb hr (fun t ht hW => ⟨sumN (zr (uh u)) k, rfl, (by rw [show k = 12 by omega]; rfl), ht⟩) (fun q hq => absurd hq List.not_mem_nil) dX3_counted_146
        · have n126 : ¬ (12 ≤ k) := fun h9 => c126 ((nI_leI (a := 12) (b := k) (by omega) (by omega)).mpr h9)
          refine lv_iload_n hx hb dX3_counted_129 rfl (lv_at hl 2 rfl) ?_
          refine lv_aload_n hx hb dX3_counted_130 rfl (lv_at hl 0 rfl) ?_
          refine lv_iload hx hb dX3_counted_131 (lv_at hl 4 rfl) ?_
          refine lv_iload_n hx hb dX3_counted_133 rfl (lv_at hl 3 rfl) ?_
          refine pc_calli (va_runV (As := [.int (nI k), .int 5]) (rest := [.int (sumN (zr (uh u)) k)]) ⟨hx, hb, hml, hown, hts⟩ (mX3_ha l D cy b u th pz k 5 (by omega) (by decide)) (cwV 2 hts gX3_counted_X3_ha rfl rfl rfl (by decide +kernel) ⟨Nat.le_of_ble_eq_true rfl, Nat.le_of_ble_eq_true rfl⟩) ⟨fun a U g mk q => ⟨q.1, q.2.1, va_K.moved (u := U) (U := U.calling g mk a) (Vm.Alike.refl U.vm) q.2.2⟩, va_recv hK hP (ci := 3) (q0 := 0) rfl rfl, fun U hU hW => ⟨rfl, by rw [hU]; exact hP, va_K.moved hW.alike hK⟩⟩ rfl rfl hl.1 rfl (lv_room (Nat.le_of_ble_eq_true rfl)) dX3_counted_134 ⟨Nat.le_of_ble_eq_true rfl, Nat.le_of_ble_eq_true rfl⟩) (fun r9 hr9 => ?_)
          subst hr9
          refine pc_top (show haF (uh u) k 5 = zr (uh u) k from rfl) ?_
          refine lv_iadd hx hb dX3_counted_137 ?_
          refine lv_istore_n (lv' := [(2, .int ((sumN (zr (uh u)) k) + (zr (uh u) k))), (0, .ref (b 0)), (1, .int 7), (3, .int 5), (4, .int (nI k))]) hx hb dX3_counted_138 rfl hl (by decide) rfl (fun ls hl => ?_)
          refine lv_iinc (v := nI (k + 1)) (lv' := [(4, .int (nI (k + 1))), (2, .int ((sumN (zr (uh u)) k) + (zr (uh u) k))), (0, .ref (b 0)), (1, .int 7), (3, .int 5)]) hx hb dX3_counted_139 hl (k := 4) rfl ((show (nI k) + Int32.ofInt 1 = (nI k) + 1 from rfl).trans (show (nI k) + 1 = nI (k + 1) from nI_add k 1)) (by decide) rfl (fun ls hl => ?_)
          refine lv_goto (tgt := 122) hx hb dX3_counted_142 (by decide) ?_
          exact ih122 (k + 1) (by omega) (by omega) ls (lv_sub hl [2, 3, 1, 4, 0] rfl)
    exact loop122 (12 + 1) 0 (by decide) (by omega) ls (lv_sub hl [3, 4, 2, 1, 0] rfl)

theorem inX3_count_RX3 : ∀ w ∈ u_ws RX3 TX3 8, w ∈ wsX3_count := by decide +kernel
theorem kX3_count_0 : (.fieldLink RX3 32 "WedgeHarpsModel" "thrown" "I" : Cond) ∈ wsX3_count := by decide +kernel
set_option maxHeartbeats 4000000 in
set_option maxRecDepth 100000 in
theorem mX3_count (l : Launch) (D : va_G) (cy : Nat → ClassId) (sz : Nat) (b : Nat → Nat) (u : US) (th : Int32) (hu : uOk u) (wv : Int32) : Met l yX3_count wsX3_count ({ frames := 7, cells := 0, slots := 0, locals := 156 } : Room) (va_Pc [.ref (b 0), .int wv] (fun U => U.heap.size = sz ∧ va_P D vwCl (wM cy b u th pz) U.heap ∧ va_K D vwCl (TY cy) U ∧ va_D (fun _ => True) (wM cy b u th pz))) (va_Qi (fun (r8 : Int32) (u9 : US) => (exCnt wv = 0 → r8 = cntOf u (ix wv) ∧ u9 = u) ∧ (¬ exCnt wv = 0 → u9 = u)) (fun (u9 : US) t => va_P D vwCl (wM cy b u9 (nI (exCnt wv)) pz) t.heap ∧ va_D (va_A (wM cy b u th pz) sz) (wM cy b u9 (nI (exCnt wv)) pz)) (va_A (wM cy b u th pz) sz)) 0 0 (va_A (wM cy b u th pz) sz) := by
  refine Met.ofW (cc := cX3_count) (maxL := 2) (ret := (some .int)) (by decide) rfl ?_
  intro p e s m args below meth c s₁ B hml hv
  obtain ⟨rfl, hsz, hP, hK, hD0⟩ := hv
  have hx := B.exec
  have hb := B.bytes
  have hr := B.returns
  have hts := atoms_spec (ws := wsX3_count) B.pre
  have hown : s.vm.findClass RX3 = some m.cls := findClass_of_methodNamed B.named
  have hlocks := B.notSynchronized
  have hl := lv_entry ([.ref (b 0), .int wv]) (n := 2) (Nat.le_of_ble_eq_true rfl)
  rw [lg_entry_eq]
  generalize (lg_sl ([.ref (b 0), .int wv]) ++ List.replicate (2 - (lg_sl ([.ref (b 0), .int wv])).length) Slot.unset).toArray = ls at hl ⊢
  have hl : lv_has ls 2 [(0, .ref (b 0)), (1, .int wv)] := hl
  subst hsz
  have hD := hD0.self (sz := s.heap.size)
  generalize hAe : va_A (wM cy b u th pz) s.heap.size = A at hD ⊢
  have hA : ∀ q : Nat, s.heap.size ≤ q → A q := fun q h => by rw [← hAe]; exact Or.inr h
  have hS : va_S A s.heap s.heap [] := va_S.rf
  have hP : va_P D vwCl (wM cy b u th pz) s.heap := hP
  refine lv_aload_n hx hb dX3_count_0 rfl (lv_at hl 0 rfl) ?_
  refine lv_iconst (v := 0) hx hb dX3_count_1 (by decide) ?_
  refine va_put (D := D) (ci := 3) (v := .int 0) (ty := .int) (C := RX3) (T := TX3) (N := 8) hx hb hts inX3_count_RX3 tyX3 tyX3_ok nmX3 hown hK hP hD hS 0 rfl rfl 0 (by decide) (hts _ kX3_count_0) (fun _ h9 => h9) rfl (by decide +kernel) rfl rfl (Nat.le_of_ble_eq_true rfl) dX3_count_2 (fun H locs hP hD hS => ?_)
  have hP : va_P D vwCl [(b 0, .inr (3, [.int 0, .ref (b 1), .int (nI (un u)), .ref (b 2), .ref (b 3), .ref (b 4), .ref (b 5), .ref (b 6)])), (b 1, .inl ((cy 0), 72, .inl (mh (uh u)))), (b 2, .inl ((cy 0), 36, .inl (mt (ul u) (uz u) (ut u)))), (b 3, .inl ((cy 0), 12, .inl (uw u))), (b 4, .inl ((cy 0), 12, .inl (ud u))), (b 5, .inl ((cy 0), 2, .inl (mb (uh u)))), (b 6, .inl ((cy 0), 12, .inl pz))] H := hP
  have hD : va_D A [(b 0, .inr (3, [.int 0, .ref (b 1), .int (nI (un u)), .ref (b 2), .ref (b 3), .ref (b 4), .ref (b 5), .ref (b 6)])), (b 1, .inl ((cy 0), 72, .inl (mh (uh u)))), (b 2, .inl ((cy 0), 36, .inl (mt (ul u) (uz u) (ut u)))), (b 3, .inl ((cy 0), 12, .inl (uw u))), (b 4, .inl ((cy 0), 12, .inl (ud u))), (b 5, .inl ((cy 0), 2, .inl (mb (uh u)))), (b 6, .inl ((cy 0), 12, .inl pz))] := hD
  have hP : va_P D vwCl (wM cy b u 0 pz) H := hP
  have hD : va_D A (wM cy b u 0 pz) := hD
  refine lv_iload_n hx hb dX3_count_5 rfl (lv_at hl 1 rfl) ?_
  refine lv_iconst (v := 0) hx hb dX3_count_6 (by decide) ?_
  refine lv_bipush (v := 7) hx hb dX3_count_7 (by decide) ?_
  refine pc_calli (va_runS (As := [.int wv, .int 0, .int 7]) (rest := []) ⟨hx, hb, hml, hown, hts⟩ (mX3_isIn l D cy wv 0 7) (va_cwS 3 hts gX3_count_X3_isIn rfl rfl rfl (by decide +kernel) ⟨Nat.le_of_ble_eq_true rfl, Nat.le_of_ble_eq_true rfl⟩) ⟨fun a U g mk q => q, fun U hU hW => ⟨rfl, trivial⟩⟩ rfl rfl hl.1 rfl (lv_room (Nat.le_of_ble_eq_true rfl)) dX3_count_9 ⟨Nat.le_of_ble_eq_true rfl, Nat.le_of_ble_eq_true rfl⟩) (fun r9 hr9 => ?_)
  subst hr9
  refine pc_top (show bI (isIn wv 0 7) = bI (isN8 wv) from (by rw [isIn_N8])) ?_
  refine lv_if_eq (tgt := 23) hx hb dX3_count_12 (by decide) (fun c12 => ?_) (fun c12 => ?_)
  · refine lv_aload_n hx hb dX3_count_23 rfl (lv_at hl 0 rfl) ?_
    refine lv_iconst (v := 1) hx hb dX3_count_24 (by decide) ?_
    have hPc := hP.sub (ws' := wM cy b u 0 pz) [0, 1, 2, 3, 4, 5, 6] rfl
    have hDc := hD.sub (ws' := wM cy b u 0 pz) [0, 1, 2, 3, 4, 5, 6] (by decide) rfl
    have hFc := va_free (wc := wM cy b u 0 pz) hD hS hA [0, 1, 2, 3, 4, 5, 6] rfl
    refine va_calli (va_runV (As := [.int 1]) (rest := []) ⟨hx, hb, hml, hown, hts⟩ (mX3_fail l D cy H.size b u 0 pz 1) (cwV 1 hts gX3_count_X3_fail rfl rfl rfl (by decide +kernel) ⟨Nat.le_of_ble_eq_true rfl, Nat.le_of_ble_eq_true rfl⟩) ⟨fun a U g mk q => ⟨q.1, q.2.1, q.2.2.1, va_K.moved (u := U) (U := U.calling g mk a) (Vm.Alike.refl U.vm) q.2.2.2.1, q.2.2.2.2⟩, va_recv hK hPc (ci := 3) (q0 := 0) rfl rfl, fun U hU hW => ⟨rfl, by rw [hU], by rw [hU]; exact hPc, va_K.moved hW.alike hK, hDc.weaken (fun _ _ _ _ => trivial)⟩⟩ rfl rfl hl.1 rfl (lv_room (Nat.le_of_ble_eq_true rfl)) dX3_count_25 ⟨Nat.le_of_ble_eq_true rfl, Nat.le_of_ble_eq_true rfl⟩) hS (fun q _ h => hFc q h) hFc (fun r9 u9 t9 H1 locs ht9 hvm9 hw9 hB9 hz9 hk9 hS => ?_)
    obtain ⟨hP1, hD1⟩ := hB9
    rw [ht9] at hP1
    obtain ⟨hP, hD⟩ := va_join (wr := []) (w1 := wM cy b u 1 pz) hP hD [0, 1, 2, 3, 4, 5, 6] [] rfl rfl (by decide) (by decide) hk9 hFc hP1 hD1
    generalize H1 = H at hP hS ⊢
    have hP : va_P D vwCl (wM cy b u 1 pz) H := hP.sub [0, 1, 2, 3, 4, 5, 6] rfl
    have hD : va_D A (wM cy b u 1 pz) := hD.sub [0, 1, 2, 3, 4, 5, 6] (by decide) rfl
    clear hP1 hD1 hk9 hz9 ht9 hvm9 hPc hDc hFc
    subst hw9
    have hex9 : exCnt wv = 1 := by simp [exCnt, bI_0.mp c12]
    have hP9 : va_P D vwCl (wM cy b u (nI (exCnt wv)) pz) H := (by rw [hex9]; exact hP)
    have hD9 : va_D A (wM cy b u (nI (exCnt wv)) pz) := (by rw [hex9]; exact hD)
    exact W.iret (v := 0) hx hb hr (fun t ht hW => ⟨⟨0, u, rfl, ⟨fun z => absurd (hex9.symm.trans z) (by decide), fun _ => rfl⟩, by rw [ht]; exact hP9, hD9⟩, hS.F ht⟩) hS.2.2 dX3_count_28
  · obtain ⟨w, hw, rfl⟩ := isN8_nat (bI_1.mp c12)
    have ew : ix (nI w) = w := ix_nI (show w < 2147483648 by omega)
    refine lv_aload_n hx hb dX3_count_15 rfl (lv_at hl 0 rfl) ?_
    refine lv_iload_n hx hb dX3_count_16 rfl (lv_at hl 1 rfl) ?_
    refine pc_calli (va_runV (As := [.int (nI w)]) (rest := []) ⟨hx, hb, hml, hown, hts⟩ (mX3_counted l D cy b u 0 hu w hw) (cwV 1 hts gX3_count_X3_counted rfl rfl rfl (by decide +kernel) ⟨Nat.le_of_ble_eq_true rfl, Nat.le_of_ble_eq_true rfl⟩) ⟨fun a U g mk q => ⟨q.1, q.2.1, va_K.moved (u := U) (U := U.calling g mk a) (Vm.Alike.refl U.vm) q.2.2⟩, va_recv hK hP (ci := 3) (q0 := 0) rfl rfl, fun U hU hW => ⟨rfl, by rw [hU]; exact hP, va_K.moved hW.alike hK⟩⟩ rfl rfl hl.1 rfl (lv_room (Nat.le_of_ble_eq_true rfl)) dX3_count_17 ⟨Nat.le_of_ble_eq_true rfl, Nat.le_of_ble_eq_true rfl⟩) (fun r9 hr9 => ?_)
    subst hr9
    refine lv_goto (tgt := 28) hx hb dX3_count_20 (by decide) ?_
    have hex9 : exCnt (nI w) = 0 := by simp [exCnt, ew, bI_1.mp c12]
    have hP9 : va_P D vwCl (wM cy b u (nI (exCnt (nI w))) pz) H := (by rw [hex9]; exact hP)
    have hD9 : va_D A (wM cy b u (nI (exCnt (nI w))) pz) := (by rw [hex9]; exact hD)
    exact W.iret (v := cntOf u w) hx hb hr (fun t ht hW => ⟨⟨cntOf u w, u, rfl, ⟨fun _ => ⟨by rw [ew], rfl⟩, fun z => absurd hex9 z⟩, by rw [ht]; exact hP9, hD9⟩, hS.F ht⟩) hS.2.2 dX3_count_28

theorem inX3_mean_RX3 : ∀ w ∈ u_ws RX3 TX3 8, w ∈ wsX3_mean := by decide +kernel
theorem kX3_mean_0 : (.fieldLink RX3 32 "WedgeHarpsModel" "thrown" "I" : Cond) ∈ wsX3_mean := by decide +kernel
set_option maxHeartbeats 4000000 in
set_option maxRecDepth 100000 in
theorem mX3_mean (l : Launch) (D : va_G) (cy : Nat → ClassId) (sz : Nat) (b : Nat → Nat) (u : US) (th : Int32) (hu : uOk u)  : Met l yX3_mean wsX3_mean ({ frames := 7, cells := 0, slots := 0, locals := 160 } : Room) (va_Pc [.ref (b 0)] (fun U => U.heap.size = sz ∧ va_P D vwCl (wM cy b u th pz) U.heap ∧ va_K D vwCl (TY cy) U ∧ va_D (fun _ => True) (wM cy b u th pz))) (va_Qd (fun (r8 : UInt64) (u9 : US) => ((0 : Nat) = 0 → r8 = meanH (uh u) ∧ u9 = u) ∧ (¬ (0 : Nat) = 0 → u9 = u)) (fun (u9 : US) t => va_P D vwCl (wM cy b u9 (nI ((0 : Nat))) pz) t.heap ∧ va_D (va_A (wM cy b u th pz) sz) (wM cy b u9 (nI ((0 : Nat))) pz)) (va_A (wM cy b u th pz) sz)) 0 0 (va_A (wM cy b u th pz) sz) := by
  refine Met.ofW (cc := cX3_mean) (maxL := 3) (ret := (some .double)) (by decide) rfl ?_
  intro p e s m args below meth c s₁ B hml hv
  obtain ⟨rfl, hsz, hP, hK, hD0⟩ := hv
  have hx := B.exec
  have hb := B.bytes
  have hr := B.returns
  have hts := atoms_spec (ws := wsX3_mean) B.pre
  have hown : s.vm.findClass RX3 = some m.cls := findClass_of_methodNamed B.named
  have hlocks := B.notSynchronized
  have hl := lv_entry ([.ref (b 0)]) (n := 3) (Nat.le_of_ble_eq_true rfl)
  rw [lg_entry_eq]
  generalize (lg_sl ([.ref (b 0)]) ++ List.replicate (3 - (lg_sl ([.ref (b 0)])).length) Slot.unset).toArray = ls at hl ⊢
  have hl : lv_has ls 3 [(0, .ref (b 0))] := hl
  subst hsz
  have hD := hD0.self (sz := s.heap.size)
  generalize hAe : va_A (wM cy b u th pz) s.heap.size = A at hD ⊢
  have hA : ∀ q : Nat, s.heap.size ≤ q → A q := fun q h => by rw [← hAe]; exact Or.inr h
  have hS : va_S A s.heap s.heap [] := va_S.rf
  have hP : va_P D vwCl (wM cy b u th pz) s.heap := hP
  refine lv_aload_n hx hb dX3_mean_0 rfl (lv_at hl 0 rfl) ?_
  refine lv_iconst (v := 0) hx hb dX3_mean_1 (by decide) ?_
  refine va_put (D := D) (ci := 3) (v := .int 0) (ty := .int) (C := RX3) (T := TX3) (N := 8) hx hb hts inX3_mean_RX3 tyX3 tyX3_ok nmX3 hown hK hP hD hS 0 rfl rfl 0 (by decide) (hts _ kX3_mean_0) (fun _ h9 => h9) rfl (by decide +kernel) rfl rfl (Nat.le_of_ble_eq_true rfl) dX3_mean_2 (fun H locs hP hD hS => ?_)
  have hP : va_P D vwCl [(b 0, .inr (3, [.int 0, .ref (b 1), .int (nI (un u)), .ref (b 2), .ref (b 3), .ref (b 4), .ref (b 5), .ref (b 6)])), (b 1, .inl ((cy 0), 72, .inl (mh (uh u)))), (b 2, .inl ((cy 0), 36, .inl (mt (ul u) (uz u) (ut u)))), (b 3, .inl ((cy 0), 12, .inl (uw u))), (b 4, .inl ((cy 0), 12, .inl (ud u))), (b 5, .inl ((cy 0), 2, .inl (mb (uh u)))), (b 6, .inl ((cy 0), 12, .inl pz))] H := hP
  have hD : va_D A [(b 0, .inr (3, [.int 0, .ref (b 1), .int (nI (un u)), .ref (b 2), .ref (b 3), .ref (b 4), .ref (b 5), .ref (b 6)])), (b 1, .inl ((cy 0), 72, .inl (mh (uh u)))), (b 2, .inl ((cy 0), 36, .inl (mt (ul u) (uz u) (ut u)))), (b 3, .inl ((cy 0), 12, .inl (uw u))), (b 4, .inl ((cy 0), 12, .inl (ud u))), (b 5, .inl ((cy 0), 2, .inl (mb (uh u)))), (b 6, .inl ((cy 0), 12, .inl pz))] := hD
  have hP : va_P D vwCl (wM cy b u 0 pz) H := hP
  have hD : va_D A (wM cy b u 0 pz) := hD
  refine lv_iconst (v := 0) hx hb dX3_mean_5 (by decide) ?_
  refine lv_istore_n (lv' := [(1, .int 0), (0, .ref (b 0))]) hx hb dX3_mean_6 rfl hl (by decide) rfl (fun ls hl => ?_)
  refine lv_iconst (v := 0) hx hb dX3_mean_7 (by decide) ?_
  refine lv_istore_n (lv' := [(2, .int 0), (1, .int 0), (0, .ref (b 0))]) hx hb dX3_mean_8 rfl hl (by decide) rfl (fun ls hl => ?_)
  have loop9 : ∀ (n9 : Nat) (k : Nat), k ≤ 12 → 12 - k < n9 → ∀ ls : Array Slot, lv_has ls 3 [(0, .ref (b 0)), (1, .int (sumN (tone (uh u)) k)), (2, .int (nI k))] → W p l e (headSpec wsX3_mean ({ frames := 7, cells := 0, slots := 0, locals := 160 } : Room)).room s m ([.ref (b 0)] : List Value).toArray below meth c H locs 0 0 (MQ below (va_Qd (fun (r8 : UInt64) (u9 : US) => ((0 : Nat) = 0 → r8 = meanH (uh u) ∧ u9 = u) ∧ (¬ (0 : Nat) = 0 → u9 = u)) (fun (u9 : US) t => va_P D vwCl (wM cy b u9 (nI ((0 : Nat))) pz) t.heap ∧ va_D A (wM cy b u9 (nI ((0 : Nat))) pz)) A) ([.ref (b 0)] : List Value).toArray s 0 0 A) (F0 m 9 ls []) := by
    intro n9
    induction n9 with
    | zero => intro k hk h9 ls hl; exact absurd h9 (by omega)
    | succ n9 ih9 =>
      intro k hk h9 ls hl
      refine lv_iload_n hx hb dX3_mean_9 rfl (lv_at hl 2 rfl) ?_
      refine lv_bipush (v := 12) hx hb dX3_mean_10 (by decide) ?_
      refine lv_icmp_ge (tgt := 29) hx hb dX3_mean_12 (by decide) (fun c12 => ?_) (fun c12 => ?_)
      · have n12 : 12 ≤ k := (nI_leI (a := 12) (b := k) (by omega) (by omega)).mp c12
        refine lv_aload_n hx hb dX3_mean_29 rfl (lv_at hl 0 rfl) ?_
        refine lv_iconst (v := 1) hx hb dX3_mean_30 (by decide) ?_
        refine pc_calli (va_runV (As := [.int 1]) (rest := []) ⟨hx, hb, hml, hown, hts⟩ (mX3_counted l D cy b u 0 hu 1 (by decide)) (cwV 1 hts gX3_mean_X3_counted rfl rfl rfl (by decide +kernel) ⟨Nat.le_of_ble_eq_true rfl, Nat.le_of_ble_eq_true rfl⟩) ⟨fun a U g mk q => ⟨q.1, q.2.1, va_K.moved (u := U) (U := U.calling g mk a) (Vm.Alike.refl U.vm) q.2.2⟩, va_recv hK hP (ci := 3) (q0 := 0) rfl rfl, fun U hU hW => ⟨rfl, by rw [hU]; exact hP, va_K.moved hW.alike hK⟩⟩ rfl rfl hl.1 rfl (lv_room (Nat.le_of_ble_eq_true rfl)) dX3_mean_31 ⟨Nat.le_of_ble_eq_true rfl, Nat.le_of_ble_eq_true rfl⟩) (fun r9 hr9 => ?_)
        subst hr9
        refine pc_top (show cntOf u 1 = sumN (zo (uh u)) 12 from rfl) ?_
        refine lv_if_ne (tgt := 41) hx hb dX3_mean_34 (by decide) (fun c34 => ?_) (fun c34 => ?_)
        · refine lv_iload_n hx hb dX3_mean_41 rfl (lv_at hl 1 rfl) ?_
          refine lv_i2d hx hb dX3_mean_42 ?_
          refine lv_aload_n hx hb dX3_mean_43 rfl (lv_at hl 0 rfl) ?_
          refine lv_iconst (v := 1) hx hb dX3_mean_44 (by decide) ?_
          refine pc_calli (va_runV (As := [.int 1]) (rest := [.double (FP.i2d (sumN (tone (uh u)) k))]) ⟨hx, hb, hml, hown, hts⟩ (mX3_counted l D cy b u 0 hu 1 (by decide)) (cwV 1 hts gX3_mean_X3_counted rfl rfl rfl (by decide +kernel) ⟨Nat.le_of_ble_eq_true rfl, Nat.le_of_ble_eq_true rfl⟩) ⟨fun a U g mk q => ⟨q.1, q.2.1, va_K.moved (u := U) (U := U.calling g mk a) (Vm.Alike.refl U.vm) q.2.2⟩, va_recv hK hP (ci := 3) (q0 := 0) rfl rfl, fun U hU hW => ⟨rfl, by rw [hU]; exact hP, va_K.moved hW.alike hK⟩⟩ rfl rfl hl.1 rfl (lv_room (Nat.le_of_ble_eq_true rfl)) dX3_mean_45 ⟨Nat.le_of_ble_eq_true rfl, Nat.le_of_ble_eq_true rfl⟩) (fun r9 hr9 => ?_)
          subst hr9
          refine pc_top (show cntOf u 1 = sumN (zo (uh u)) 12 from rfl) ?_
          refine lv_i2d hx hb dX3_mean_48 ?_
          refine lv_ddiv hx hb dX3_mean_49 (mean_ok hu.1 c34 _) ?_
          have hex9 : (0 : Nat) = 0 := by simp []
          have hP9 : va_P D vwCl (wM cy b u (nI ((0 : Nat))) pz) H := (by rw [hex9]; exact hP)
          have hD9 : va_D A (wM cy b u (nI ((0 : Nat))) pz) := (by rw [hex9]; exact hD)
          exact W.dret (v := FP.ddiv (FP.i2d (sumN (tone (uh u)) k)) (FP.i2d (sumN (zo (uh u)) 12))) hx hb hr (fun t ht hW => ⟨⟨FP.ddiv (FP.i2d (sumN (tone (uh u)) k)) (FP.i2d (sumN (zo (uh u)) 12)), u, rfl, ⟨fun _ => ⟨by rw [meanH, if_neg c34, show k = 12 by omega], rfl⟩, fun z => absurd hex9 z⟩, by rw [ht]; exact hP9, hD9⟩, hS.F ht⟩) hS.2.2 dX3_mean_50
        · refine lv_dconst0 hx hb dX3_mean_37 ?_
          refine lv_goto (tgt := 50) hx hb dX3_mean_38 (by decide) ?_
          have hex9 : (0 : Nat) = 0 := by simp []
          have hP9 : va_P D vwCl (wM cy b u (nI ((0 : Nat))) pz) H := (by rw [hex9]; exact hP)
          have hD9 : va_D A (wM cy b u (nI ((0 : Nat))) pz) := (by rw [hex9]; exact hD)
          exact W.dret (v := FP.dconst0) hx hb hr (fun t ht hW => ⟨⟨FP.dconst0, u, rfl, ⟨fun _ => ⟨by rw [meanH, if_pos c34]; rfl, rfl⟩, fun z => absurd hex9 z⟩, by rw [ht]; exact hP9, hD9⟩, hS.F ht⟩) hS.2.2 dX3_mean_50
      · have n12 : ¬ (12 ≤ k) := fun h9 => c12 ((nI_leI (a := 12) (b := k) (by omega) (by omega)).mpr h9)
        refine lv_iload_n hx hb dX3_mean_15 rfl (lv_at hl 1 rfl) ?_
        refine lv_aload_n hx hb dX3_mean_16 rfl (lv_at hl 0 rfl) ?_
        refine lv_iload_n hx hb dX3_mean_17 rfl (lv_at hl 2 rfl) ?_
        refine pc_calli (va_runV (As := [.int (nI k)]) (rest := [.int (sumN (tone (uh u)) k)]) ⟨hx, hb, hml, hown, hts⟩ (mX3_tone l D cy b u 0 pz k (by omega)) (cwV 1 hts gX3_mean_X3_tone rfl rfl rfl (by decide +kernel) ⟨Nat.le_of_ble_eq_true rfl, Nat.le_of_ble_eq_true rfl⟩) ⟨fun a U g mk q => ⟨q.1, q.2.1, va_K.moved (u := U) (U := U.calling g mk a) (Vm.Alike.refl U.vm) q.2.2⟩, va_recv hK hP (ci := 3) (q0 := 0) rfl rfl, fun U hU hW => ⟨rfl, by rw [hU]; exact hP, va_K.moved hW.alike hK⟩⟩ rfl rfl hl.1 rfl (lv_room (Nat.le_of_ble_eq_true rfl)) dX3_mean_18 ⟨Nat.le_of_ble_eq_true rfl, Nat.le_of_ble_eq_true rfl⟩) (fun r9 hr9 => ?_)
        subst hr9
        refine pc_top (show toneP (uh u) pz k = tone (uh u) k from (toneP_0 (by omega))) ?_
        refine lv_iadd hx hb dX3_mean_21 ?_
        refine lv_istore_n (lv' := [(1, .int ((sumN (tone (uh u)) k) + (tone (uh u) k))), (0, .ref (b 0)), (2, .int (nI k))]) hx hb dX3_mean_22 rfl hl (by decide) rfl (fun ls hl => ?_)
        refine lv_iinc (v := nI (k + 1)) (lv' := [(2, .int (nI (k + 1))), (1, .int ((sumN (tone (uh u)) k) + (tone (uh u) k))), (0, .ref (b 0))]) hx hb dX3_mean_23 hl (k := 2) rfl ((show (nI k) + Int32.ofInt 1 = (nI k) + 1 from rfl).trans (show (nI k) + 1 = nI (k + 1) from nI_add k 1)) (by decide) rfl (fun ls hl => ?_)
        refine lv_goto (tgt := 9) hx hb dX3_mean_26 (by decide) ?_
        exact ih9 (k + 1) (by omega) (by omega) ls (lv_sub hl [2, 1, 0] rfl)
  exact loop9 (12 + 1) 0 (by decide) (by omega) ls (lv_sub hl [2, 1, 0] rfl)

