theorem inX3_chord_RX3 : ∀ w ∈ u_ws RX3 TX3 8, w ∈ wsX3_chord := by decide +kernel
theorem kX3_chord_0 : (.fieldLink RX3 32 "WedgeHarpsModel" "thrown" "I" : Cond) ∈ wsX3_chord := by decide +kernel
theorem kX3_chord_1 : (.fieldLink RX3 61 "WedgeHarpsModel" "chords" "I" : Cond) ∈ wsX3_chord := by decide +kernel
theorem kX3_chord_2 : (.arrayClass .int : Cond) ∈ wsX3_chord := by decide +kernel
theorem kX3_chord_3 : (.fieldLink RX3 13 "WedgeHarpsModel" "told" "[I" : Cond) ∈ wsX3_chord := by decide +kernel
theorem kX3_chord_4 : (.methodLink RX3 64 arraycopyName : Cond) ∈ wsX3_chord := by decide +kernel
theorem kX3_chord_5 : (.native arraycopyName : Cond) ∈ wsX3_chord := by decide +kernel
theorem kX3_chord_6 : (.static arraycopyName : Cond) ∈ wsX3_chord := by decide +kernel
theorem kX3_chord_7 : (.initialized "java/lang/System" : Cond) ∈ wsX3_chord := by decide +kernel
set_option maxHeartbeats 4000000 in
set_option maxRecDepth 100000 in
theorem mX3_chord (l : Launch) (D : va_G) (cy : Nat → ClassId) (sz : Nat) (b : Nat → Nat) (u : US) (th : Int32) (hu : uOk u) (kv v0 v1 v2 v3 : Int32) : Met l yX3_chord wsX3_chord ({ frames := 4, cells := 1, slots := 6, locals := 60 } : Room) (va_Pc [.ref (b 0), .int kv, .int v0, .int v1, .int v2, .int v3] (fun U => U.heap.size = sz ∧ va_P D vwCl (wM cy b u th pz) U.heap ∧ va_K D vwCl (TY cy) U ∧ va_D (fun _ => True) (wM cy b u th pz))) (va_Qi (fun (r8 : Int32) (u9 : US) => (exCh u kv v0 v1 v2 v3 = 0 → r8 = nI (un u) ∧ u9 = uCh u (ix kv) (chSz v2 v3) v0 v1 v2 v3) ∧ (¬ exCh u kv v0 v1 v2 v3 = 0 → u9 = u)) (fun (u9 : US) t => va_P D vwCl (wM cy b u9 (nI (exCh u kv v0 v1 v2 v3)) pz) t.heap ∧ va_D (va_A (wM cy b u th pz) sz) (wM cy b u9 (nI (exCh u kv v0 v1 v2 v3)) pz)) (va_A (wM cy b u th pz) sz)) 1 6 (va_A (wM cy b u th pz) sz) := by
  refine Met.ofW (cc := cX3_chord) (maxL := 8) (ret := (some .int)) (by decide) rfl ?_
  intro p e s m args below meth c s₁ B hml hv
  obtain ⟨rfl, hsz, hP, hK, hD0⟩ := hv
  have hx := B.exec
  have hb := B.bytes
  have hr := B.returns
  have hts := atoms_spec (ws := wsX3_chord) B.pre
  have hown : s.vm.findClass RX3 = some m.cls := findClass_of_methodNamed B.named
  have hlocks := B.notSynchronized
  have hl := lv_entry ([.ref (b 0), .int kv, .int v0, .int v1, .int v2, .int v3]) (n := 8) (Nat.le_of_ble_eq_true rfl)
  rw [lg_entry_eq]
  generalize (lg_sl ([.ref (b 0), .int kv, .int v0, .int v1, .int v2, .int v3]) ++ List.replicate (8 - (lg_sl ([.ref (b 0), .int kv, .int v0, .int v1, .int v2, .int v3])).length) Slot.unset).toArray = ls at hl ⊢
  have hl : lv_has ls 8 [(0, .ref (b 0)), (1, .int kv), (2, .int v0), (3, .int v1), (4, .int v2), (5, .int v3)] := hl
  subst hsz
  have hD := hD0.self (sz := s.heap.size)
  generalize hAe : va_A (wM cy b u th pz) s.heap.size = A at hD ⊢
  have hA : ∀ q : Nat, s.heap.size ≤ q → A q := fun q h => by rw [← hAe]; exact Or.inr h
  have hS : va_S A s.heap s.heap [] := va_S.rf
  have hP : va_P D vwCl (wM cy b u th pz) s.heap := hP
  refine lv_aload_n hx hb dX3_chord_0 rfl (lv_at hl 0 rfl) ?_
  refine lv_iconst (v := 0) hx hb dX3_chord_1 (by decide) ?_
  refine va_put (D := D) (ci := 3) (v := .int 0) (ty := .int) (C := RX3) (T := TX3) (N := 8) hx hb hts inX3_chord_RX3 tyX3 tyX3_ok nmX3 hown hK hP hD hS 0 rfl rfl 0 (by decide) (hts _ kX3_chord_0) (fun _ h9 => h9) rfl (by decide +kernel) rfl rfl (Nat.le_of_ble_eq_true rfl) dX3_chord_2 (fun H locs hP hD hS => ?_)
  have hP : va_P D vwCl [(b 0, .inr (3, [.int 0, .ref (b 1), .int (nI (un u)), .ref (b 2), .ref (b 3), .ref (b 4), .ref (b 5), .ref (b 6)])), (b 1, .inl ((cy 0), 72, .inl (mh (uh u)))), (b 2, .inl ((cy 0), 36, .inl (mt (ul u) (uz u) (ut u)))), (b 3, .inl ((cy 0), 12, .inl (uw u))), (b 4, .inl ((cy 0), 12, .inl (ud u))), (b 5, .inl ((cy 0), 2, .inl (mb (uh u)))), (b 6, .inl ((cy 0), 12, .inl pz))] H := hP
  have hD : va_D A [(b 0, .inr (3, [.int 0, .ref (b 1), .int (nI (un u)), .ref (b 2), .ref (b 3), .ref (b 4), .ref (b 5), .ref (b 6)])), (b 1, .inl ((cy 0), 72, .inl (mh (uh u)))), (b 2, .inl ((cy 0), 36, .inl (mt (ul u) (uz u) (ut u)))), (b 3, .inl ((cy 0), 12, .inl (uw u))), (b 4, .inl ((cy 0), 12, .inl (ud u))), (b 5, .inl ((cy 0), 2, .inl (mb (uh u)))), (b 6, .inl ((cy 0), 12, .inl pz))] := hD
  have hP : va_P D vwCl (wM cy b u 0 pz) H := hP
  have hD : va_D A (wM cy b u 0 pz) := hD
  refine lv_iload_n hx hb dX3_chord_5 rfl (lv_at hl 1 rfl) ?_
  refine pc_calli (va_runS (As := [.int kv]) (rest := []) ⟨hx, hb, hml, hown, hts⟩ (mX3_isString l D cy kv) (va_cwS 1 hts gX3_chord_X3_isString rfl rfl rfl (by decide +kernel) ⟨Nat.le_of_ble_eq_true rfl, Nat.le_of_ble_eq_true rfl⟩) ⟨fun a U g mk q => q, fun U hU hW => ⟨rfl, trivial⟩⟩ rfl rfl hl.1 rfl (lv_room (Nat.le_of_ble_eq_true rfl)) dX3_chord_6 ⟨Nat.le_of_ble_eq_true rfl, Nat.le_of_ble_eq_true rfl⟩) (fun r9 hr9 => ?_)
  subst hr9
  refine lv_if_ne (tgt := 18) hx hb dX3_chord_9 (by decide) (fun c9 => ?_) (fun c9 => ?_)
  · obtain ⟨j, hj, rfl⟩ := isS_nat (bI_1.mp c9)
    have ej : ix (nI j) = j := ix_nI (show j < 2147483648 by omega)
    have hn9 : un u ≤ 6 := hu.2.1
    refine lv_iconst (v := 2) hx hb dX3_chord_18 (by decide) ?_
    refine lv_iload hx hb dX3_chord_19 (lv_at hl 4 rfl) ?_
    refine lv_if_le (tgt := 28) hx hb dX3_chord_21 (by decide) (fun c21 => ?_) (fun c21 => ?_)
    · refine lv_iconst (v := 0) hx hb dX3_chord_28 (by decide) ?_
      refine lv_iadd hx hb dX3_chord_29 ?_
      refine lv_iload hx hb dX3_chord_30 (lv_at hl 5 rfl) ?_
      refine lv_if_le (tgt := 39) hx hb dX3_chord_32 (by decide) (fun c32 => ?_) (fun c32 => ?_)
      · refine lv_iconst (v := 0) hx hb dX3_chord_39 (by decide) ?_
        refine lv_iadd hx hb dX3_chord_40 ?_
        refine pc_top (show (2 + 0) + 0 = 2 from rfl) ?_
        refine lv_istore (lv' := [(6, .int 2), (0, .ref (b 0)), (1, .int (nI j)), (2, .int v0), (3, .int v1), (4, .int v2), (5, .int v3)]) hx hb dX3_chord_41 hl (by decide) rfl (fun ls hl => ?_)
        refine lv_iload_n hx hb dX3_chord_43 rfl (lv_at hl 3 rfl) ?_
        refine lv_iconst (v := 1) hx hb dX3_chord_44 (by decide) ?_
        refine lv_sipush (v := 1500) hx hb dX3_chord_45 (by decide) ?_
        refine pc_calli (va_runS (As := [.int v0, .int 1, .int 1500]) (rest := []) ⟨hx, hb, hml, hown, hts⟩ (mX3_isIn l D cy v0 1 1500) (va_cwS 3 hts gX3_chord_X3_isIn rfl rfl rfl (by decide +kernel) ⟨Nat.le_of_ble_eq_true rfl, Nat.le_of_ble_eq_true rfl⟩) ⟨fun a U g mk q => q, fun U hU hW => ⟨rfl, trivial⟩⟩ rfl rfl hl.1 rfl (lv_room (Nat.le_of_ble_eq_true rfl)) dX3_chord_48 ⟨Nat.le_of_ble_eq_true rfl, Nat.le_of_ble_eq_true rfl⟩) (fun r9 hr9 => ?_)
        subst hr9
        refine pc_top (show bI (isIn v0 1 1500) = bI (isT v0 1) from (by rw [isIn_T])) ?_
        refine lv_if_eq (tgt := 108) hx hb dX3_chord_51 (by decide) (fun c51 => ?_) (fun c51 => ?_)
        · refine lv_aload_n hx hb dX3_chord_108 rfl (lv_at hl 1 rfl) ?_
          refine lv_iconst (v := 2) hx hb dX3_chord_109 (by decide) ?_
          have hPc := hP.sub (ws' := wM cy b u 0 pz) [0, 1, 2, 3, 4, 5, 6] rfl
          have hDc := hD.sub (ws' := wM cy b u 0 pz) [0, 1, 2, 3, 4, 5, 6] (by decide) rfl
          have hFc := va_free (wc := wM cy b u 0 pz) hD hS hA [0, 1, 2, 3, 4, 5, 6] rfl
          refine va_calli (va_runV (As := [.int 2]) (rest := []) ⟨hx, hb, hml, hown, hts⟩ (mX3_fail l D cy H.size b u 0 pz 2) (cwV 1 hts gX3_chord_X3_fail rfl rfl rfl (by decide +kernel) ⟨Nat.le_of_ble_eq_true rfl, Nat.le_of_ble_eq_true rfl⟩) ⟨fun a U g mk q => ⟨q.1, q.2.1, q.2.2.1, va_K.moved (u := U) (U := U.calling g mk a) (Vm.Alike.refl U.vm) q.2.2.2.1, q.2.2.2.2⟩, va_recv hK hPc (ci := 3) (q0 := 0) rfl rfl, fun U hU hW => ⟨rfl, by rw [hU], by rw [hU]; exact hPc, va_K.moved hW.alike hK, hDc.weaken (fun _ _ _ _ => trivial)⟩⟩ rfl rfl hl.1 rfl (lv_room (Nat.le_of_ble_eq_true rfl)) dX3_chord_110 ⟨Nat.le_of_ble_eq_true rfl, Nat.le_of_ble_eq_true rfl⟩) hS (fun q _ h => hFc q h) hFc (fun r9 u9 t9 H1 locs ht9 hvm9 hw9 hB9 hz9 hk9 hS => ?_)
          obtain ⟨hP1, hD1⟩ := hB9
          rw [ht9] at hP1
          obtain ⟨hP, hD⟩ := va_join (wr := []) (w1 := wM cy b u 2 pz) hP hD [0, 1, 2, 3, 4, 5, 6] [] rfl rfl (by decide) (by decide) hk9 hFc hP1 hD1
          generalize H1 = H at hP hS ⊢
          have hP : va_P D vwCl (wM cy b u 2 pz) H := hP.sub [0, 1, 2, 3, 4, 5, 6] rfl
          have hD : va_D A (wM cy b u 2 pz) := hD.sub [0, 1, 2, 3, 4, 5, 6] (by decide) rfl
          clear hP1 hD1 hk9 hz9 ht9 hvm9 hPc hDc hFc
          subst hw9
          have hex9 : exCh u (nI j) v0 v1 v2 v3 = 2 := by simp [exCh, bI_1.mp c9, bI_0.mp c51]
          have hP9 : va_P D vwCl (wM cy b u (nI (exCh u (nI j) v0 v1 v2 v3)) pz) H := (by rw [hex9]; exact hP)
          have hD9 : va_D A (wM cy b u (nI (exCh u (nI j) v0 v1 v2 v3)) pz) := (by rw [hex9]; exact hD)
          refine W.widen (k := 1) (n := 6) (Nat.le_of_ble_eq_true rfl) (Nat.le_of_ble_eq_true rfl) ?_
          exact W.iret (v := 0) hx hb hr (fun t ht hW => ⟨⟨0, u, rfl, ⟨fun z => absurd (hex9.symm.trans z) (by decide), fun _ => rfl⟩, by rw [ht]; exact hP9, hD9⟩, hS.F ht⟩) hS.2.2 dX3_chord_113
        · refine lv_iload_n hx hb dX3_chord_54 rfl (lv_at hl 4 rfl) ?_
          refine lv_iconst (v := 1) hx hb dX3_chord_55 (by decide) ?_
          refine lv_sipush (v := 1500) hx hb dX3_chord_56 (by decide) ?_
          refine pc_calli (va_runS (As := [.int v1, .int 1, .int 1500]) (rest := []) ⟨hx, hb, hml, hown, hts⟩ (mX3_isIn l D cy v1 1 1500) (va_cwS 3 hts gX3_chord_X3_isIn rfl rfl rfl (by decide +kernel) ⟨Nat.le_of_ble_eq_true rfl, Nat.le_of_ble_eq_true rfl⟩) ⟨fun a U g mk q => q, fun U hU hW => ⟨rfl, trivial⟩⟩ rfl rfl hl.1 rfl (lv_room (Nat.le_of_ble_eq_true rfl)) dX3_chord_59 ⟨Nat.le_of_ble_eq_true rfl, Nat.le_of_ble_eq_true rfl⟩) (fun r9 hr9 => ?_)
          subst hr9
          refine pc_top (show bI (isIn v1 1 1500) = bI (isT v1 1) from (by rw [isIn_T])) ?_
          refine lv_if_eq (tgt := 108) hx hb dX3_chord_62 (by decide) (fun c62 => ?_) (fun c62 => ?_)
          · refine lv_aload_n hx hb dX3_chord_108 rfl (lv_at hl 1 rfl) ?_
            refine lv_iconst (v := 2) hx hb dX3_chord_109 (by decide) ?_
            have hPc := hP.sub (ws' := wM cy b u 0 pz) [0, 1, 2, 3, 4, 5, 6] rfl
            have hDc := hD.sub (ws' := wM cy b u 0 pz) [0, 1, 2, 3, 4, 5, 6] (by decide) rfl
            have hFc := va_free (wc := wM cy b u 0 pz) hD hS hA [0, 1, 2, 3, 4, 5, 6] rfl
            refine va_calli (va_runV (As := [.int 2]) (rest := []) ⟨hx, hb, hml, hown, hts⟩ (mX3_fail l D cy H.size b u 0 pz 2) (cwV 1 hts gX3_chord_X3_fail rfl rfl rfl (by decide +kernel) ⟨Nat.le_of_ble_eq_true rfl, Nat.le_of_ble_eq_true rfl⟩) ⟨fun a U g mk q => ⟨q.1, q.2.1, q.2.2.1, va_K.moved (u := U) (U := U.calling g mk a) (Vm.Alike.refl U.vm) q.2.2.2.1, q.2.2.2.2⟩, va_recv hK hPc (ci := 3) (q0 := 0) rfl rfl, fun U hU hW => ⟨rfl, by rw [hU], by rw [hU]; exact hPc, va_K.moved hW.alike hK, hDc.weaken (fun _ _ _ _ => trivial)⟩⟩ rfl rfl hl.1 rfl (lv_room (Nat.le_of_ble_eq_true rfl)) dX3_chord_110 ⟨Nat.le_of_ble_eq_true rfl, Nat.le_of_ble_eq_true rfl⟩) hS (fun q _ h => hFc q h) hFc (fun r9 u9 t9 H1 locs ht9 hvm9 hw9 hB9 hz9 hk9 hS => ?_)
            obtain ⟨hP1, hD1⟩ := hB9
            rw [ht9] at hP1
            obtain ⟨hP, hD⟩ := va_join (wr := []) (w1 := wM cy b u 2 pz) hP hD [0, 1, 2, 3, 4, 5, 6] [] rfl rfl (by decide) (by decide) hk9 hFc hP1 hD1
            generalize H1 = H at hP hS ⊢
            have hP : va_P D vwCl (wM cy b u 2 pz) H := hP.sub [0, 1, 2, 3, 4, 5, 6] rfl
            have hD : va_D A (wM cy b u 2 pz) := hD.sub [0, 1, 2, 3, 4, 5, 6] (by decide) rfl
            clear hP1 hD1 hk9 hz9 ht9 hvm9 hPc hDc hFc
            subst hw9
            have hex9 : exCh u (nI j) v0 v1 v2 v3 = 2 := by simp [exCh, bI_1.mp c9, bI_1.mp c51, bI_0.mp c62]
            have hP9 : va_P D vwCl (wM cy b u (nI (exCh u (nI j) v0 v1 v2 v3)) pz) H := (by rw [hex9]; exact hP)
            have hD9 : va_D A (wM cy b u (nI (exCh u (nI j) v0 v1 v2 v3)) pz) := (by rw [hex9]; exact hD)
            refine W.widen (k := 1) (n := 6) (Nat.le_of_ble_eq_true rfl) (Nat.le_of_ble_eq_true rfl) ?_
            exact W.iret (v := 0) hx hb hr (fun t ht hW => ⟨⟨0, u, rfl, ⟨fun z => absurd (hex9.symm.trans z) (by decide), fun _ => rfl⟩, by rw [ht]; exact hP9, hD9⟩, hS.F ht⟩) hS.2.2 dX3_chord_113
          · refine lv_iload hx hb dX3_chord_65 (lv_at hl 5 rfl) ?_
            refine lv_iconst (v := 0) hx hb dX3_chord_67 (by decide) ?_
            refine lv_sipush (v := 1500) hx hb dX3_chord_68 (by decide) ?_
            refine pc_calli (va_runS (As := [.int v2, .int 0, .int 1500]) (rest := []) ⟨hx, hb, hml, hown, hts⟩ (mX3_isIn l D cy v2 0 1500) (va_cwS 3 hts gX3_chord_X3_isIn rfl rfl rfl (by decide +kernel) ⟨Nat.le_of_ble_eq_true rfl, Nat.le_of_ble_eq_true rfl⟩) ⟨fun a U g mk q => q, fun U hU hW => ⟨rfl, trivial⟩⟩ rfl rfl hl.1 rfl (lv_room (Nat.le_of_ble_eq_true rfl)) dX3_chord_71 ⟨Nat.le_of_ble_eq_true rfl, Nat.le_of_ble_eq_true rfl⟩) (fun r9 hr9 => ?_)
            subst hr9
            refine pc_top (show bI (isIn v2 0 1500) = bI (isT v2 0) from (by rw [isIn_T])) ?_
            refine lv_if_eq (tgt := 108) hx hb dX3_chord_74 (by decide) (fun c74 => ?_) (fun c74 => ?_)
            · refine lv_aload_n hx hb dX3_chord_108 rfl (lv_at hl 1 rfl) ?_
              refine lv_iconst (v := 2) hx hb dX3_chord_109 (by decide) ?_
              have hPc := hP.sub (ws' := wM cy b u 0 pz) [0, 1, 2, 3, 4, 5, 6] rfl
              have hDc := hD.sub (ws' := wM cy b u 0 pz) [0, 1, 2, 3, 4, 5, 6] (by decide) rfl
              have hFc := va_free (wc := wM cy b u 0 pz) hD hS hA [0, 1, 2, 3, 4, 5, 6] rfl
              refine va_calli (va_runV (As := [.int 2]) (rest := []) ⟨hx, hb, hml, hown, hts⟩ (mX3_fail l D cy H.size b u 0 pz 2) (cwV 1 hts gX3_chord_X3_fail rfl rfl rfl (by decide +kernel) ⟨Nat.le_of_ble_eq_true rfl, Nat.le_of_ble_eq_true rfl⟩) ⟨fun a U g mk q => ⟨q.1, q.2.1, q.2.2.1, va_K.moved (u := U) (U := U.calling g mk a) (Vm.Alike.refl U.vm) q.2.2.2.1, q.2.2.2.2⟩, va_recv hK hPc (ci := 3) (q0 := 0) rfl rfl, fun U hU hW => ⟨rfl, by rw [hU], by rw [hU]; exact hPc, va_K.moved hW.alike hK, hDc.weaken (fun _ _ _ _ => trivial)⟩⟩ rfl rfl hl.1 rfl (lv_room (Nat.le_of_ble_eq_true rfl)) dX3_chord_110 ⟨Nat.le_of_ble_eq_true rfl, Nat.le_of_ble_eq_true rfl⟩) hS (fun q _ h => hFc q h) hFc (fun r9 u9 t9 H1 locs ht9 hvm9 hw9 hB9 hz9 hk9 hS => ?_)
              obtain ⟨hP1, hD1⟩ := hB9
              rw [ht9] at hP1
              obtain ⟨hP, hD⟩ := va_join (wr := []) (w1 := wM cy b u 2 pz) hP hD [0, 1, 2, 3, 4, 5, 6] [] rfl rfl (by decide) (by decide) hk9 hFc hP1 hD1
              generalize H1 = H at hP hS ⊢
              have hP : va_P D vwCl (wM cy b u 2 pz) H := hP.sub [0, 1, 2, 3, 4, 5, 6] rfl
              have hD : va_D A (wM cy b u 2 pz) := hD.sub [0, 1, 2, 3, 4, 5, 6] (by decide) rfl
              clear hP1 hD1 hk9 hz9 ht9 hvm9 hPc hDc hFc
              subst hw9
              have hex9 : exCh u (nI j) v0 v1 v2 v3 = 2 := by simp [exCh, bI_1.mp c9, bI_1.mp c51, bI_1.mp c62, bI_0.mp c74]
              have hP9 : va_P D vwCl (wM cy b u (nI (exCh u (nI j) v0 v1 v2 v3)) pz) H := (by rw [hex9]; exact hP)
              have hD9 : va_D A (wM cy b u (nI (exCh u (nI j) v0 v1 v2 v3)) pz) := (by rw [hex9]; exact hD)
              refine W.widen (k := 1) (n := 6) (Nat.le_of_ble_eq_true rfl) (Nat.le_of_ble_eq_true rfl) ?_
              exact W.iret (v := 0) hx hb hr (fun t ht hW => ⟨⟨0, u, rfl, ⟨fun z => absurd (hex9.symm.trans z) (by decide), fun _ => rfl⟩, by rw [ht]; exact hP9, hD9⟩, hS.F ht⟩) hS.2.2 dX3_chord_113
            · refine lv_iload hx hb dX3_chord_77 (lv_at hl 6 rfl) ?_
              refine lv_iconst (v := 0) hx hb dX3_chord_79 (by decide) ?_
              refine lv_sipush (v := 1500) hx hb dX3_chord_80 (by decide) ?_
              refine pc_calli (va_runS (As := [.int v3, .int 0, .int 1500]) (rest := []) ⟨hx, hb, hml, hown, hts⟩ (mX3_isIn l D cy v3 0 1500) (va_cwS 3 hts gX3_chord_X3_isIn rfl rfl rfl (by decide +kernel) ⟨Nat.le_of_ble_eq_true rfl, Nat.le_of_ble_eq_true rfl⟩) ⟨fun a U g mk q => q, fun U hU hW => ⟨rfl, trivial⟩⟩ rfl rfl hl.1 rfl (lv_room (Nat.le_of_ble_eq_true rfl)) dX3_chord_83 ⟨Nat.le_of_ble_eq_true rfl, Nat.le_of_ble_eq_true rfl⟩) (fun r9 hr9 => ?_)
              subst hr9
              refine pc_top (show bI (isIn v3 0 1500) = bI (isT v3 0) from (by rw [isIn_T])) ?_
              refine lv_if_eq (tgt := 108) hx hb dX3_chord_86 (by decide) (fun c86 => ?_) (fun c86 => ?_)
              · refine lv_aload_n hx hb dX3_chord_108 rfl (lv_at hl 1 rfl) ?_
                refine lv_iconst (v := 2) hx hb dX3_chord_109 (by decide) ?_
                have hPc := hP.sub (ws' := wM cy b u 0 pz) [0, 1, 2, 3, 4, 5, 6] rfl
                have hDc := hD.sub (ws' := wM cy b u 0 pz) [0, 1, 2, 3, 4, 5, 6] (by decide) rfl
                have hFc := va_free (wc := wM cy b u 0 pz) hD hS hA [0, 1, 2, 3, 4, 5, 6] rfl
                refine va_calli (va_runV (As := [.int 2]) (rest := []) ⟨hx, hb, hml, hown, hts⟩ (mX3_fail l D cy H.size b u 0 pz 2) (cwV 1 hts gX3_chord_X3_fail rfl rfl rfl (by decide +kernel) ⟨Nat.le_of_ble_eq_true rfl, Nat.le_of_ble_eq_true rfl⟩) ⟨fun a U g mk q => ⟨q.1, q.2.1, q.2.2.1, va_K.moved (u := U) (U := U.calling g mk a) (Vm.Alike.refl U.vm) q.2.2.2.1, q.2.2.2.2⟩, va_recv hK hPc (ci := 3) (q0 := 0) rfl rfl, fun U hU hW => ⟨rfl, by rw [hU], by rw [hU]; exact hPc, va_K.moved hW.alike hK, hDc.weaken (fun _ _ _ _ => trivial)⟩⟩ rfl rfl hl.1 rfl (lv_room (Nat.le_of_ble_eq_true rfl)) dX3_chord_110 ⟨Nat.le_of_ble_eq_true rfl, Nat.le_of_ble_eq_true rfl⟩) hS (fun q _ h => hFc q h) hFc (fun r9 u9 t9 H1 locs ht9 hvm9 hw9 hB9 hz9 hk9 hS => ?_)
                obtain ⟨hP1, hD1⟩ := hB9
                rw [ht9] at hP1
                obtain ⟨hP, hD⟩ := va_join (wr := []) (w1 := wM cy b u 2 pz) hP hD [0, 1, 2, 3, 4, 5, 6] [] rfl rfl (by decide) (by decide) hk9 hFc hP1 hD1
                generalize H1 = H at hP hS ⊢
                have hP : va_P D vwCl (wM cy b u 2 pz) H := hP.sub [0, 1, 2, 3, 4, 5, 6] rfl
                have hD : va_D A (wM cy b u 2 pz) := hD.sub [0, 1, 2, 3, 4, 5, 6] (by decide) rfl
                clear hP1 hD1 hk9 hz9 ht9 hvm9 hPc hDc hFc
                subst hw9
                have hex9 : exCh u (nI j) v0 v1 v2 v3 = 2 := by simp [exCh, bI_1.mp c9, bI_1.mp c51, bI_1.mp c62, bI_1.mp c74, bI_0.mp c86]
                have hP9 : va_P D vwCl (wM cy b u (nI (exCh u (nI j) v0 v1 v2 v3)) pz) H := (by rw [hex9]; exact hP)
                have hD9 : va_D A (wM cy b u (nI (exCh u (nI j) v0 v1 v2 v3)) pz) := (by rw [hex9]; exact hD)
                refine W.widen (k := 1) (n := 6) (Nat.le_of_ble_eq_true rfl) (Nat.le_of_ble_eq_true rfl) ?_
                exact W.iret (v := 0) hx hb hr (fun t ht hW => ⟨⟨0, u, rfl, ⟨fun z => absurd (hex9.symm.trans z) (by decide), fun _ => rfl⟩, by rw [ht]; exact hP9, hD9⟩, hS.F ht⟩) hS.2.2 dX3_chord_113
              · refine lv_iload hx hb dX3_chord_89 (lv_at hl 5 rfl) ?_
                refine lv_if_ne (tgt := 99) hx hb dX3_chord_91 (by decide) (fun c91 => absurd c91 (not_not_intro (isT_z (bI_1.mp c74) c21))) (fun c91 => ?_)
                refine lv_iload hx hb dX3_chord_94 (lv_at hl 6 rfl) ?_
                refine lv_if_gt (tgt := 108) hx hb dX3_chord_96 (by decide) (fun c96 => absurd c96 (Int32.not_lt.mpr c32)) (fun c96 => ?_)
                have q2 : v2 = 0 := isT_z (bI_1.mp c74) c21
                have q3 : v3 = 0 := isT_z (bI_1.mp c86) c32
                have hS9 : chSz v2 v3 = 2 := by simp [chSz, q2, q3]
                have hv9 : ¬ (v2 = 0 ∧ ¬ v3 = 0) := by simp [q2, q3]
                refine lv_iload_n hx hb dX3_chord_99 rfl (lv_at hl 2 rfl) ?_
                refine lv_iload hx hb dX3_chord_100 (lv_at hl 0 rfl) ?_
                refine lv_iadd hx hb dX3_chord_102 ?_
                refine pc_top (show (nI j) + 2 = nI (j + 2) from nI_add j 2) ?_
                refine lv_bipush (v := 12) hx hb dX3_chord_103 (by decide) ?_
                refine lv_icmp_le (tgt := 114) hx hb dX3_chord_105 (by decide) (fun c105 => ?_) (fun c105 => ?_)
                · have n105 : j + 2 ≤ 12 := (nI_leI (a := j + 2) (b := 12) (by omega) (by omega)).mp c105
                  refine lv_aload_n hx hb dX3_chord_114 rfl (lv_at hl 1 rfl) ?_
                  refine va_get (D := D) (ci := 3) (v := .int (nI (un u))) (C := RX3) (T := TX3) (N := 8) hx hb hts inX3_chord_RX3 hown hK hP 0 rfl rfl 2 (by decide) (hts _ kX3_chord_1) (fun _ h9 => h9) rfl dX3_chord_115 ?_
                  refine lv_bipush (v := 6) hx hb dX3_chord_118 (by decide) ?_
                  refine lv_icmp_ne (tgt := 129) hx hb dX3_chord_120 (by decide) (fun c120 => ?_) (fun c120 => ?_)
                  · have n120 : ¬ (un u = 6) := fun h9 => c120 ((nI_eq (a := un u) (b := 6) (by omega) (by omega)).mpr h9)
                    refine lv_bipush (v := 6) hx hb dX3_chord_129 (by decide) ?_
                    refine pc_newa (atype := .int) (ty := .int) (N' := 6) (a0 := (6, .inl (fun _ => 0))) hx hb (hts _ kX3_chord_2) rfl hK hP hD hS hA 0 rfl (fun _ => rfl) (by decide) (by decide) (by decide) (Nat.le_of_ble_eq_true rfl) (Nat.le_of_ble_eq_true rfl) dX3_chord_131 (fun r131 H hP hD hS => ?_)
                    have hP : va_P D vwCl [(b 0, .inr (3, [.int 0, .ref (b 1), .int (nI (un u)), .ref (b 2), .ref (b 3), .ref (b 4), .ref (b 5), .ref (b 6)])), (b 1, .inl ((cy 0), 72, .inl (mh (uh u)))), (b 2, .inl ((cy 0), 36, .inl (mt (ul u) (uz u) (ut u)))), (b 3, .inl ((cy 0), 12, .inl (uw u))), (b 4, .inl ((cy 0), 12, .inl (ud u))), (b 5, .inl ((cy 0), 2, .inl (mb (uh u)))), (b 6, .inl ((cy 0), 12, .inl pz)), (r131, .inl ((cy 0), 6, .inl (fun _ => 0)))] H := hP
                    have hD : va_D A [(b 0, .inr (3, [.int 0, .ref (b 1), .int (nI (un u)), .ref (b 2), .ref (b 3), .ref (b 4), .ref (b 5), .ref (b 6)])), (b 1, .inl ((cy 0), 72, .inl (mh (uh u)))), (b 2, .inl ((cy 0), 36, .inl (mt (ul u) (uz u) (ut u)))), (b 3, .inl ((cy 0), 12, .inl (uw u))), (b 4, .inl ((cy 0), 12, .inl (ud u))), (b 5, .inl ((cy 0), 2, .inl (mb (uh u)))), (b 6, .inl ((cy 0), 12, .inl pz)), (r131, .inl ((cy 0), 6, .inl (fun _ => 0)))] := hD
                    refine W.widen (k := 1) (n := 6) (Nat.le_of_ble_eq_true rfl) (Nat.le_of_ble_eq_true rfl) ?_
                    refine lv_dup hx hb dX3_chord_133 rfl ?_
                    refine lv_iconst (v := 0) hx hb dX3_chord_134 (by decide) ?_
                    refine lv_iload_n hx hb dX3_chord_135 rfl (lv_at hl 2 rfl) ?_
                    refine pc_iast hx hb hK hP hD hS 7 0 rfl rfl (k := 0) (show 0 < 6 by omega) (by decide) dX3_chord_136 (fun H locs hP hD hS => ?_)
                    have hP : va_P D vwCl [(b 0, .inr (3, [.int 0, .ref (b 1), .int (nI (un u)), .ref (b 2), .ref (b 3), .ref (b 4), .ref (b 5), .ref (b 6)])), (b 1, .inl ((cy 0), 72, .inl (mh (uh u)))), (b 2, .inl ((cy 0), 36, .inl (mt (ul u) (uz u) (ut u)))), (b 3, .inl ((cy 0), 12, .inl (uw u))), (b 4, .inl ((cy 0), 12, .inl (ud u))), (b 5, .inl ((cy 0), 2, .inl (mb (uh u)))), (b 6, .inl ((cy 0), 12, .inl pz)), (r131, .inl ((cy 0), 6, .inl (upd (fun _ => 0) 0 (nI j))))] H := hP
                    have hD : va_D A [(b 0, .inr (3, [.int 0, .ref (b 1), .int (nI (un u)), .ref (b 2), .ref (b 3), .ref (b 4), .ref (b 5), .ref (b 6)])), (b 1, .inl ((cy 0), 72, .inl (mh (uh u)))), (b 2, .inl ((cy 0), 36, .inl (mt (ul u) (uz u) (ut u)))), (b 3, .inl ((cy 0), 12, .inl (uw u))), (b 4, .inl ((cy 0), 12, .inl (ud u))), (b 5, .inl ((cy 0), 2, .inl (mb (uh u)))), (b 6, .inl ((cy 0), 12, .inl pz)), (r131, .inl ((cy 0), 6, .inl (upd (fun _ => 0) 0 (nI j))))] := hD
                    refine lv_dup hx hb dX3_chord_137 rfl ?_
                    refine lv_iconst (v := 1) hx hb dX3_chord_138 (by decide) ?_
                    refine lv_iload hx hb dX3_chord_139 (lv_at hl 0 rfl) ?_
                    refine pc_iast hx hb hK hP hD hS 7 0 rfl rfl (k := 1) (show 1 < 6 by omega) (by decide) dX3_chord_141 (fun H locs hP hD hS => ?_)
                    have hP : va_P D vwCl [(b 0, .inr (3, [.int 0, .ref (b 1), .int (nI (un u)), .ref (b 2), .ref (b 3), .ref (b 4), .ref (b 5), .ref (b 6)])), (b 1, .inl ((cy 0), 72, .inl (mh (uh u)))), (b 2, .inl ((cy 0), 36, .inl (mt (ul u) (uz u) (ut u)))), (b 3, .inl ((cy 0), 12, .inl (uw u))), (b 4, .inl ((cy 0), 12, .inl (ud u))), (b 5, .inl ((cy 0), 2, .inl (mb (uh u)))), (b 6, .inl ((cy 0), 12, .inl pz)), (r131, .inl ((cy 0), 6, .inl (upd (upd (fun _ => 0) 0 (nI j)) 1 2)))] H := hP
                    have hD : va_D A [(b 0, .inr (3, [.int 0, .ref (b 1), .int (nI (un u)), .ref (b 2), .ref (b 3), .ref (b 4), .ref (b 5), .ref (b 6)])), (b 1, .inl ((cy 0), 72, .inl (mh (uh u)))), (b 2, .inl ((cy 0), 36, .inl (mt (ul u) (uz u) (ut u)))), (b 3, .inl ((cy 0), 12, .inl (uw u))), (b 4, .inl ((cy 0), 12, .inl (ud u))), (b 5, .inl ((cy 0), 2, .inl (mb (uh u)))), (b 6, .inl ((cy 0), 12, .inl pz)), (r131, .inl ((cy 0), 6, .inl (upd (upd (fun _ => 0) 0 (nI j)) 1 2)))] := hD
                    refine lv_dup hx hb dX3_chord_142 rfl ?_
                    refine lv_iconst (v := 2) hx hb dX3_chord_143 (by decide) ?_
                    refine lv_iload_n hx hb dX3_chord_144 rfl (lv_at hl 3 rfl) ?_
                    refine pc_iast hx hb hK hP hD hS 7 0 rfl rfl (k := 2) (show 2 < 6 by omega) (by decide) dX3_chord_145 (fun H locs hP hD hS => ?_)
                    have hP : va_P D vwCl [(b 0, .inr (3, [.int 0, .ref (b 1), .int (nI (un u)), .ref (b 2), .ref (b 3), .ref (b 4), .ref (b 5), .ref (b 6)])), (b 1, .inl ((cy 0), 72, .inl (mh (uh u)))), (b 2, .inl ((cy 0), 36, .inl (mt (ul u) (uz u) (ut u)))), (b 3, .inl ((cy 0), 12, .inl (uw u))), (b 4, .inl ((cy 0), 12, .inl (ud u))), (b 5, .inl ((cy 0), 2, .inl (mb (uh u)))), (b 6, .inl ((cy 0), 12, .inl pz)), (r131, .inl ((cy 0), 6, .inl (upd (upd (upd (fun _ => 0) 0 (nI j)) 1 2) 2 v0)))] H := hP
                    have hD : va_D A [(b 0, .inr (3, [.int 0, .ref (b 1), .int (nI (un u)), .ref (b 2), .ref (b 3), .ref (b 4), .ref (b 5), .ref (b 6)])), (b 1, .inl ((cy 0), 72, .inl (mh (uh u)))), (b 2, .inl ((cy 0), 36, .inl (mt (ul u) (uz u) (ut u)))), (b 3, .inl ((cy 0), 12, .inl (uw u))), (b 4, .inl ((cy 0), 12, .inl (ud u))), (b 5, .inl ((cy 0), 2, .inl (mb (uh u)))), (b 6, .inl ((cy 0), 12, .inl pz)), (r131, .inl ((cy 0), 6, .inl (upd (upd (upd (fun _ => 0) 0 (nI j)) 1 2) 2 v0)))] := hD
                    refine lv_dup hx hb dX3_chord_146 rfl ?_
                    refine lv_iconst (v := 3) hx hb dX3_chord_147 (by decide) ?_
                    refine lv_iload_n hx hb dX3_chord_148 rfl (lv_at hl 4 rfl) ?_
                    refine pc_iast hx hb hK hP hD hS 7 0 rfl rfl (k := 3) (show 3 < 6 by omega) (by decide) dX3_chord_149 (fun H locs hP hD hS => ?_)
                    have hP : va_P D vwCl [(b 0, .inr (3, [.int 0, .ref (b 1), .int (nI (un u)), .ref (b 2), .ref (b 3), .ref (b 4), .ref (b 5), .ref (b 6)])), (b 1, .inl ((cy 0), 72, .inl (mh (uh u)))), (b 2, .inl ((cy 0), 36, .inl (mt (ul u) (uz u) (ut u)))), (b 3, .inl ((cy 0), 12, .inl (uw u))), (b 4, .inl ((cy 0), 12, .inl (ud u))), (b 5, .inl ((cy 0), 2, .inl (mb (uh u)))), (b 6, .inl ((cy 0), 12, .inl pz)), (r131, .inl ((cy 0), 6, .inl (upd (upd (upd (upd (fun _ => 0) 0 (nI j)) 1 2) 2 v0) 3 v1)))] H := hP
                    have hD : va_D A [(b 0, .inr (3, [.int 0, .ref (b 1), .int (nI (un u)), .ref (b 2), .ref (b 3), .ref (b 4), .ref (b 5), .ref (b 6)])), (b 1, .inl ((cy 0), 72, .inl (mh (uh u)))), (b 2, .inl ((cy 0), 36, .inl (mt (ul u) (uz u) (ut u)))), (b 3, .inl ((cy 0), 12, .inl (uw u))), (b 4, .inl ((cy 0), 12, .inl (ud u))), (b 5, .inl ((cy 0), 2, .inl (mb (uh u)))), (b 6, .inl ((cy 0), 12, .inl pz)), (r131, .inl ((cy 0), 6, .inl (upd (upd (upd (upd (fun _ => 0) 0 (nI j)) 1 2) 2 v0) 3 v1)))] := hD
                    refine lv_dup hx hb dX3_chord_150 rfl ?_
                    refine lv_iconst (v := 4) hx hb dX3_chord_151 (by decide) ?_
                    refine lv_iload hx hb dX3_chord_152 (lv_at hl 5 rfl) ?_
                    refine pc_iast hx hb hK hP hD hS 7 0 rfl rfl (k := 4) (show 4 < 6 by omega) (by decide) dX3_chord_154 (fun H locs hP hD hS => ?_)
                    have hP : va_P D vwCl [(b 0, .inr (3, [.int 0, .ref (b 1), .int (nI (un u)), .ref (b 2), .ref (b 3), .ref (b 4), .ref (b 5), .ref (b 6)])), (b 1, .inl ((cy 0), 72, .inl (mh (uh u)))), (b 2, .inl ((cy 0), 36, .inl (mt (ul u) (uz u) (ut u)))), (b 3, .inl ((cy 0), 12, .inl (uw u))), (b 4, .inl ((cy 0), 12, .inl (ud u))), (b 5, .inl ((cy 0), 2, .inl (mb (uh u)))), (b 6, .inl ((cy 0), 12, .inl pz)), (r131, .inl ((cy 0), 6, .inl (upd (upd (upd (upd (upd (fun _ => 0) 0 (nI j)) 1 2) 2 v0) 3 v1) 4 v2)))] H := hP
                    have hD : va_D A [(b 0, .inr (3, [.int 0, .ref (b 1), .int (nI (un u)), .ref (b 2), .ref (b 3), .ref (b 4), .ref (b 5), .ref (b 6)])), (b 1, .inl ((cy 0), 72, .inl (mh (uh u)))), (b 2, .inl ((cy 0), 36, .inl (mt (ul u) (uz u) (ut u)))), (b 3, .inl ((cy 0), 12, .inl (uw u))), (b 4, .inl ((cy 0), 12, .inl (ud u))), (b 5, .inl ((cy 0), 2, .inl (mb (uh u)))), (b 6, .inl ((cy 0), 12, .inl pz)), (r131, .inl ((cy 0), 6, .inl (upd (upd (upd (upd (upd (fun _ => 0) 0 (nI j)) 1 2) 2 v0) 3 v1) 4 v2)))] := hD
                    refine lv_dup hx hb dX3_chord_155 rfl ?_
                    refine lv_iconst (v := 5) hx hb dX3_chord_156 (by decide) ?_
                    refine lv_iload hx hb dX3_chord_157 (lv_at hl 6 rfl) ?_
                    refine pc_iast hx hb hK hP hD hS 7 0 rfl rfl (k := 5) (show 5 < 6 by omega) (by decide) dX3_chord_159 (fun H locs hP hD hS => ?_)
                    have hP : va_P D vwCl [(b 0, .inr (3, [.int 0, .ref (b 1), .int (nI (un u)), .ref (b 2), .ref (b 3), .ref (b 4), .ref (b 5), .ref (b 6)])), (b 1, .inl ((cy 0), 72, .inl (mh (uh u)))), (b 2, .inl ((cy 0), 36, .inl (mt (ul u) (uz u) (ut u)))), (b 3, .inl ((cy 0), 12, .inl (uw u))), (b 4, .inl ((cy 0), 12, .inl (ud u))), (b 5, .inl ((cy 0), 2, .inl (mb (uh u)))), (b 6, .inl ((cy 0), 12, .inl pz)), (r131, .inl ((cy 0), 6, .inl (upd (upd (upd (upd (upd (upd (fun _ => 0) 0 (nI j)) 1 2) 2 v0) 3 v1) 4 v2) 5 v3)))] H := hP
                    have hD : va_D A [(b 0, .inr (3, [.int 0, .ref (b 1), .int (nI (un u)), .ref (b 2), .ref (b 3), .ref (b 4), .ref (b 5), .ref (b 6)])), (b 1, .inl ((cy 0), 72, .inl (mh (uh u)))), (b 2, .inl ((cy 0), 36, .inl (mt (ul u) (uz u) (ut u)))), (b 3, .inl ((cy 0), 12, .inl (uw u))), (b 4, .inl ((cy 0), 12, .inl (ud u))), (b 5, .inl ((cy 0), 2, .inl (mb (uh u)))), (b 6, .inl ((cy 0), 12, .inl pz)), (r131, .inl ((cy 0), 6, .inl (upd (upd (upd (upd (upd (upd (fun _ => 0) 0 (nI j)) 1 2) 2 v0) 3 v1) 4 v2) 5 v3)))] := hD
                    refine lv_astore (lv' := [(7, .ref r131), (6, .int 2), (0, .ref (b 0)), (1, .int (nI j)), (2, .int v0), (3, .int v1), (4, .int v2), (5, .int v3)]) hx hb dX3_chord_160 hl (by decide) rfl (fun ls hl => ?_)
                    refine lv_aload hx hb dX3_chord_162 (lv_at hl 0 rfl) ?_
                    refine lv_iconst (v := 0) hx hb dX3_chord_164 (by decide) ?_
                    refine lv_aload_n hx hb dX3_chord_165 rfl (lv_at hl 2 rfl) ?_
                    refine va_get (D := D) (ci := 3) (v := .ref (b 2)) (C := RX3) (T := TX3) (N := 8) hx hb hts inX3_chord_RX3 hown hK hP 0 rfl rfl 3 (by decide) (hts _ kX3_chord_3) (fun _ h9 => h9) rfl dX3_chord_166 ?_
                    refine lv_bipush (v := 6) hx hb dX3_chord_169 (by decide) ?_
                    refine lv_aload_n hx hb dX3_chord_171 rfl (lv_at hl 2 rfl) ?_
                    refine va_get (D := D) (ci := 3) (v := .int (nI (un u))) (C := RX3) (T := TX3) (N := 8) hx hb hts inX3_chord_RX3 hown hK hP 0 rfl rfl 2 (by decide) (hts _ kX3_chord_1) (fun _ h9 => h9) rfl dX3_chord_172 ?_
                    refine lv_imul hx hb dX3_chord_175 ?_
                    refine pc_top (show 6 * (nI (un u)) = nI (6 * (un u)) from pk_mul 6 (un u)) ?_
                    refine lv_bipush (v := 6) hx hb dX3_chord_176 (by decide) ?_
                    refine va_copyi hx hb (by rw [hml]; exact hl.1.symm) hown (hts _ kX3_chord_4) (hts _ kX3_chord_5) (hts _ kX3_chord_6) (hts _ kX3_chord_7) hK hP hD hS 7 2 0 0 rfl rfl rfl rfl rfl (by decide) (nI_pos (show 6 * un u < 2147483648 by omega)) (by decide) (by decide) (by rw [nI_clamp (show 6 * un u < 2147483648 by omega)]; show 6 * un u + 6 ≤ 36; omega) (fun _ _ => rfl) (Nat.le_of_ble_eq_true rfl) (Nat.le_of_ble_eq_true rfl) dX3_chord_178 (fun H locs hP hD hS => ?_)
                    have hP : va_P D vwCl [(b 0, .inr (3, [.int 0, .ref (b 1), .int (nI (un u)), .ref (b 2), .ref (b 3), .ref (b 4), .ref (b 5), .ref (b 6)])), (b 1, .inl ((cy 0), 72, .inl (mh (uh u)))), (b 2, .inl ((cy 0), 36, .inl (va_cpy (upd (upd (upd (upd (upd (upd (fun _ => 0) 0 (nI j)) 1 2) 2 v0) 3 v1) 4 v2) 5 v3) (mt (ul u) (uz u) (ut u)) ((0 : Int32)).toNatClampNeg ((nI (6 * un u) : Int32)).toNatClampNeg ((6 : Int32)).toNatClampNeg))), (b 3, .inl ((cy 0), 12, .inl (uw u))), (b 4, .inl ((cy 0), 12, .inl (ud u))), (b 5, .inl ((cy 0), 2, .inl (mb (uh u)))), (b 6, .inl ((cy 0), 12, .inl pz)), (r131, .inl ((cy 0), 6, .inl (upd (upd (upd (upd (upd (upd (fun _ => 0) 0 (nI j)) 1 2) 2 v0) 3 v1) 4 v2) 5 v3)))] H := hP
                    have hD : va_D A [(b 0, .inr (3, [.int 0, .ref (b 1), .int (nI (un u)), .ref (b 2), .ref (b 3), .ref (b 4), .ref (b 5), .ref (b 6)])), (b 1, .inl ((cy 0), 72, .inl (mh (uh u)))), (b 2, .inl ((cy 0), 36, .inl (va_cpy (upd (upd (upd (upd (upd (upd (fun _ => 0) 0 (nI j)) 1 2) 2 v0) 3 v1) 4 v2) 5 v3) (mt (ul u) (uz u) (ut u)) ((0 : Int32)).toNatClampNeg ((nI (6 * un u) : Int32)).toNatClampNeg ((6 : Int32)).toNatClampNeg))), (b 3, .inl ((cy 0), 12, .inl (uw u))), (b 4, .inl ((cy 0), 12, .inl (ud u))), (b 5, .inl ((cy 0), 2, .inl (mb (uh u)))), (b 6, .inl ((cy 0), 12, .inl pz)), (r131, .inl ((cy 0), 6, .inl (upd (upd (upd (upd (upd (upd (fun _ => 0) 0 (nI j)) 1 2) 2 v0) 3 v1) 4 v2) 5 v3)))] := hD
                    have e9 : ∀ k, (va_cpy (upd (upd (upd (upd (upd (upd (fun _ => 0) 0 (nI j)) 1 2) 2 v0) 3 v1) 4 v2) 5 v3) (mt (ul u) (uz u) (ut u)) ((0 : Int32)).toNatClampNeg ((nI (6 * un u) : Int32)).toNatClampNeg ((6 : Int32)).toNatClampNeg) k = mt (ul (uCh u j 2 v0 v1 v2 v3)) (uz (uCh u j 2 v0 v1 v2 v3)) (ut (uCh u j 2 v0 v1 v2 v3)) k := fun k => by rw [nI_clamp (show 6 * un u < 2147483648 by omega)]; exact mt_cpy u j 2 v0 v1 v2 v3 k
                    have hP := va_P_row hP 2 rfl (fun k _ => e9 k)
                    have hD := va_D_addr (ws' := [(b 0, .inr (3, [.int 0, .ref (b 1), .int (nI (un u)), .ref (b 2), .ref (b 3), .ref (b 4), .ref (b 5), .ref (b 6)])), (b 1, .inl ((cy 0), 72, .inl (mh (uh u)))), (b 2, .inl ((cy 0), 36, .inl (mt (ul (uCh u j 2 v0 v1 v2 v3)) (uz (uCh u j 2 v0 v1 v2 v3)) (ut (uCh u j 2 v0 v1 v2 v3))))), (b 3, .inl ((cy 0), 12, .inl (uw u))), (b 4, .inl ((cy 0), 12, .inl (ud u))), (b 5, .inl ((cy 0), 2, .inl (mb (uh u)))), (b 6, .inl ((cy 0), 12, .inl pz)), (r131, .inl ((cy 0), 6, .inl (upd (upd (upd (upd (upd (upd (fun _ => 0) 0 (nI j)) 1 2) 2 v0) 3 v1) 4 v2) 5 v3)))]) hD rfl
                    have hP : va_P D vwCl [(b 0, .inr (3, [.int 0, .ref (b 1), .int (nI (un u)), .ref (b 2), .ref (b 3), .ref (b 4), .ref (b 5), .ref (b 6)])), (b 1, .inl ((cy 0), 72, .inl (mh (uh u)))), (b 2, .inl ((cy 0), 36, .inl (mt (ul (uCh u j 2 v0 v1 v2 v3)) (uz (uCh u j 2 v0 v1 v2 v3)) (ut (uCh u j 2 v0 v1 v2 v3))))), (b 3, .inl ((cy 0), 12, .inl (uw u))), (b 4, .inl ((cy 0), 12, .inl (ud u))), (b 5, .inl ((cy 0), 2, .inl (mb (uh u)))), (b 6, .inl ((cy 0), 12, .inl pz)), (r131, .inl ((cy 0), 6, .inl (upd (upd (upd (upd (upd (upd (fun _ => 0) 0 (nI j)) 1 2) 2 v0) 3 v1) 4 v2) 5 v3)))] H := hP
                    have hD : va_D A [(b 0, .inr (3, [.int 0, .ref (b 1), .int (nI (un u)), .ref (b 2), .ref (b 3), .ref (b 4), .ref (b 5), .ref (b 6)])), (b 1, .inl ((cy 0), 72, .inl (mh (uh u)))), (b 2, .inl ((cy 0), 36, .inl (mt (ul (uCh u j 2 v0 v1 v2 v3)) (uz (uCh u j 2 v0 v1 v2 v3)) (ut (uCh u j 2 v0 v1 v2 v3))))), (b 3, .inl ((cy 0), 12, .inl (uw u))), (b 4, .inl ((cy 0), 12, .inl (ud u))), (b 5, .inl ((cy 0), 2, .inl (mb (uh u)))), (b 6, .inl ((cy 0), 12, .inl pz)), (r131, .inl ((cy 0), 6, .inl (upd (upd (upd (upd (upd (upd (fun _ => 0) 0 (nI j)) 1 2) 2 v0) 3 v1) 4 v2) 5 v3)))] := hD
                    clear e9
                    refine lv_aload_n hx hb dX3_chord_181 rfl (lv_at hl 2 rfl) ?_
                    refine lv_dup hx hb dX3_chord_182 rfl ?_
                    refine va_get (D := D) (ci := 3) (v := .int (nI (un u))) (C := RX3) (T := TX3) (N := 8) hx hb hts inX3_chord_RX3 hown hK hP 0 rfl rfl 2 (by decide) (hts _ kX3_chord_1) (fun _ h9 => h9) rfl dX3_chord_183 ?_
                    refine lv_iconst (v := 1) hx hb dX3_chord_186 (by decide) ?_
                    refine lv_iadd hx hb dX3_chord_187 ?_
                    refine pc_top (show (nI (un u)) + 1 = nI (un u + 1) from nI_add (un u) 1) ?_
                    refine va_put (D := D) (ci := 3) (v := .int (nI (un u + 1))) (ty := .int) (C := RX3) (T := TX3) (N := 8) hx hb hts inX3_chord_RX3 tyX3 tyX3_ok nmX3 hown hK hP hD hS 0 rfl rfl 2 (by decide) (hts _ kX3_chord_1) (fun _ h9 => h9) rfl (by decide +kernel) rfl rfl (Nat.le_of_ble_eq_true rfl) dX3_chord_188 (fun H locs hP hD hS => ?_)
                    have hP : va_P D vwCl [(b 0, .inr (3, [.int 0, .ref (b 1), .int (nI (un u + 1)), .ref (b 2), .ref (b 3), .ref (b 4), .ref (b 5), .ref (b 6)])), (b 1, .inl ((cy 0), 72, .inl (mh (uh u)))), (b 2, .inl ((cy 0), 36, .inl (mt (ul (uCh u j 2 v0 v1 v2 v3)) (uz (uCh u j 2 v0 v1 v2 v3)) (ut (uCh u j 2 v0 v1 v2 v3))))), (b 3, .inl ((cy 0), 12, .inl (uw u))), (b 4, .inl ((cy 0), 12, .inl (ud u))), (b 5, .inl ((cy 0), 2, .inl (mb (uh u)))), (b 6, .inl ((cy 0), 12, .inl pz)), (r131, .inl ((cy 0), 6, .inl (upd (upd (upd (upd (upd (upd (fun _ => 0) 0 (nI j)) 1 2) 2 v0) 3 v1) 4 v2) 5 v3)))] H := hP
                    have hD : va_D A [(b 0, .inr (3, [.int 0, .ref (b 1), .int (nI (un u + 1)), .ref (b 2), .ref (b 3), .ref (b 4), .ref (b 5), .ref (b 6)])), (b 1, .inl ((cy 0), 72, .inl (mh (uh u)))), (b 2, .inl ((cy 0), 36, .inl (mt (ul (uCh u j 2 v0 v1 v2 v3)) (uz (uCh u j 2 v0 v1 v2 v3)) (ut (uCh u j 2 v0 v1 v2 v3))))), (b 3, .inl ((cy 0), 12, .inl (uw u))), (b 4, .inl ((cy 0), 12, .inl (ud u))), (b 5, .inl ((cy 0), 2, .inl (mb (uh u)))), (b 6, .inl ((cy 0), 12, .inl pz)), (r131, .inl ((cy 0), 6, .inl (upd (upd (upd (upd (upd (upd (fun _ => 0) 0 (nI j)) 1 2) 2 v0) 3 v1) 4 v2) 5 v3)))] := hD
                    refine lv_aload_n hx hb dX3_chord_191 rfl (lv_at hl 2 rfl) ?_
                    refine va_get (D := D) (ci := 3) (v := .int (nI (un u + 1))) (C := RX3) (T := TX3) (N := 8) hx hb hts inX3_chord_RX3 hown hK hP 0 rfl rfl 2 (by decide) (hts _ kX3_chord_1) (fun _ h9 => h9) rfl dX3_chord_192 ?_
                    refine lv_iconst (v := 1) hx hb dX3_chord_195 (by decide) ?_
                    refine lv_isub hx hb dX3_chord_196 ?_
                    refine pc_top (show (nI (un u + 1)) - 1 = nI ((un u + 1) - 1) from pk_sub (a := un u + 1) (b := 1) (by omega)) ?_
                    have hex9 : exCh u (nI j) v0 v1 v2 v3 = 0 := by simp [exCh, bI_1.mp c9, bI_1.mp c51, bI_1.mp c62, bI_1.mp c74, bI_1.mp c86, hv9, hS9, ej, Nat.not_lt.mpr n105, show ¬ 6 ≤ un u by omega]
                    have hP9 : va_P D vwCl (wM cy b (uCh u (ix (nI j)) (chSz v2 v3) v0 v1 v2 v3) (nI (exCh u (nI j) v0 v1 v2 v3)) pz) H := (by rw [hex9, ej, hS9]; exact hP.sub [0, 1, 2, 3, 4, 5, 6] rfl)
                    have hD9 : va_D A (wM cy b (uCh u (ix (nI j)) (chSz v2 v3) v0 v1 v2 v3) (nI (exCh u (nI j) v0 v1 v2 v3)) pz) := (by rw [hex9, ej, hS9]; exact hD.sub [0, 1, 2, 3, 4, 5, 6] (by decide) rfl)
                    exact W.iret (v := nI ((un u + 1) - 1)) hx hb hr (fun t ht hW => ⟨⟨nI ((un u + 1) - 1), (uCh u (ix (nI j)) (chSz v2 v3) v0 v1 v2 v3), rfl, ⟨fun _ => ⟨rfl, rfl⟩, fun z => absurd hex9 z⟩, by rw [ht]; exact hP9, hD9⟩, hS.F ht⟩) hS.2.2 dX3_chord_197
                  · have n120 : un u = 6 := (nI_eq (a := un u) (b := 6) (by omega) (by omega)).mp c120
                    refine lv_aload_n hx hb dX3_chord_123 rfl (lv_at hl 1 rfl) ?_
                    refine lv_iconst (v := 3) hx hb dX3_chord_124 (by decide) ?_
                    have hPc := hP.sub (ws' := wM cy b u 0 pz) [0, 1, 2, 3, 4, 5, 6] rfl
                    have hDc := hD.sub (ws' := wM cy b u 0 pz) [0, 1, 2, 3, 4, 5, 6] (by decide) rfl
                    have hFc := va_free (wc := wM cy b u 0 pz) hD hS hA [0, 1, 2, 3, 4, 5, 6] rfl
                    refine va_calli (va_runV (As := [.int 3]) (rest := []) ⟨hx, hb, hml, hown, hts⟩ (mX3_fail l D cy H.size b u 0 pz 3) (cwV 1 hts gX3_chord_X3_fail rfl rfl rfl (by decide +kernel) ⟨Nat.le_of_ble_eq_true rfl, Nat.le_of_ble_eq_true rfl⟩) ⟨fun a U g mk q => ⟨q.1, q.2.1, q.2.2.1, va_K.moved (u := U) (U := U.calling g mk a) (Vm.Alike.refl U.vm) q.2.2.2.1, q.2.2.2.2⟩, va_recv hK hPc (ci := 3) (q0 := 0) rfl rfl, fun U hU hW => ⟨rfl, by rw [hU], by rw [hU]; exact hPc, va_K.moved hW.alike hK, hDc.weaken (fun _ _ _ _ => trivial)⟩⟩ rfl rfl hl.1 rfl (lv_room (Nat.le_of_ble_eq_true rfl)) dX3_chord_125 ⟨Nat.le_of_ble_eq_true rfl, Nat.le_of_ble_eq_true rfl⟩) hS (fun q _ h => hFc q h) hFc (fun r9 u9 t9 H1 locs ht9 hvm9 hw9 hB9 hz9 hk9 hS => ?_)
                    obtain ⟨hP1, hD1⟩ := hB9
                    rw [ht9] at hP1
                    obtain ⟨hP, hD⟩ := va_join (wr := []) (w1 := wM cy b u 3 pz) hP hD [0, 1, 2, 3, 4, 5, 6] [] rfl rfl (by decide) (by decide) hk9 hFc hP1 hD1
                    generalize H1 = H at hP hS ⊢
                    have hP : va_P D vwCl (wM cy b u 3 pz) H := hP.sub [0, 1, 2, 3, 4, 5, 6] rfl
                    have hD : va_D A (wM cy b u 3 pz) := hD.sub [0, 1, 2, 3, 4, 5, 6] (by decide) rfl
                    clear hP1 hD1 hk9 hz9 ht9 hvm9 hPc hDc hFc
                    subst hw9
                    have hex9 : exCh u (nI j) v0 v1 v2 v3 = 3 := by simp [exCh, bI_1.mp c9, bI_1.mp c51, bI_1.mp c62, bI_1.mp c74, bI_1.mp c86, hv9, hS9, ej, Nat.not_lt.mpr n105, show 6 ≤ un u by omega]
                    have hP9 : va_P D vwCl (wM cy b u (nI (exCh u (nI j) v0 v1 v2 v3)) pz) H := (by rw [hex9]; exact hP)
                    have hD9 : va_D A (wM cy b u (nI (exCh u (nI j) v0 v1 v2 v3)) pz) := (by rw [hex9]; exact hD)
                    refine W.widen (k := 1) (n := 6) (Nat.le_of_ble_eq_true rfl) (Nat.le_of_ble_eq_true rfl) ?_
                    exact W.iret (v := 0) hx hb hr (fun t ht hW => ⟨⟨0, u, rfl, ⟨fun z => absurd (hex9.symm.trans z) (by decide), fun _ => rfl⟩, by rw [ht]; exact hP9, hD9⟩, hS.F ht⟩) hS.2.2 dX3_chord_128
                · have n105 : ¬ (j + 2 ≤ 12) := fun h9 => c105 ((nI_leI (a := j + 2) (b := 12) (by omega) (by omega)).mpr h9)
                  refine lv_aload_n hx hb dX3_chord_108 rfl (lv_at hl 1 rfl) ?_
                  refine lv_iconst (v := 2) hx hb dX3_chord_109 (by decide) ?_
                  have hPc := hP.sub (ws' := wM cy b u 0 pz) [0, 1, 2, 3, 4, 5, 6] rfl
                  have hDc := hD.sub (ws' := wM cy b u 0 pz) [0, 1, 2, 3, 4, 5, 6] (by decide) rfl
                  have hFc := va_free (wc := wM cy b u 0 pz) hD hS hA [0, 1, 2, 3, 4, 5, 6] rfl
                  refine va_calli (va_runV (As := [.int 2]) (rest := []) ⟨hx, hb, hml, hown, hts⟩ (mX3_fail l D cy H.size b u 0 pz 2) (cwV 1 hts gX3_chord_X3_fail rfl rfl rfl (by decide +kernel) ⟨Nat.le_of_ble_eq_true rfl, Nat.le_of_ble_eq_true rfl⟩) ⟨fun a U g mk q => ⟨q.1, q.2.1, q.2.2.1, va_K.moved (u := U) (U := U.calling g mk a) (Vm.Alike.refl U.vm) q.2.2.2.1, q.2.2.2.2⟩, va_recv hK hPc (ci := 3) (q0 := 0) rfl rfl, fun U hU hW => ⟨rfl, by rw [hU], by rw [hU]; exact hPc, va_K.moved hW.alike hK, hDc.weaken (fun _ _ _ _ => trivial)⟩⟩ rfl rfl hl.1 rfl (lv_room (Nat.le_of_ble_eq_true rfl)) dX3_chord_110 ⟨Nat.le_of_ble_eq_true rfl, Nat.le_of_ble_eq_true rfl⟩) hS (fun q _ h => hFc q h) hFc (fun r9 u9 t9 H1 locs ht9 hvm9 hw9 hB9 hz9 hk9 hS => ?_)
                  obtain ⟨hP1, hD1⟩ := hB9
                  rw [ht9] at hP1
                  obtain ⟨hP, hD⟩ := va_join (wr := []) (w1 := wM cy b u 2 pz) hP hD [0, 1, 2, 3, 4, 5, 6] [] rfl rfl (by decide) (by decide) hk9 hFc hP1 hD1
                  generalize H1 = H at hP hS ⊢
                  have hP : va_P D vwCl (wM cy b u 2 pz) H := hP.sub [0, 1, 2, 3, 4, 5, 6] rfl
                  have hD : va_D A (wM cy b u 2 pz) := hD.sub [0, 1, 2, 3, 4, 5, 6] (by decide) rfl
                  clear hP1 hD1 hk9 hz9 ht9 hvm9 hPc hDc hFc
                  subst hw9
                  have hex9 : exCh u (nI j) v0 v1 v2 v3 = 2 := by simp [exCh, bI_1.mp c9, bI_1.mp c51, bI_1.mp c62, bI_1.mp c74, bI_1.mp c86, hv9, hS9, ej, Nat.not_le.mp n105]
                  have hP9 : va_P D vwCl (wM cy b u (nI (exCh u (nI j) v0 v1 v2 v3)) pz) H := (by rw [hex9]; exact hP)
                  have hD9 : va_D A (wM cy b u (nI (exCh u (nI j) v0 v1 v2 v3)) pz) := (by rw [hex9]; exact hD)
                  refine W.widen (k := 1) (n := 6) (Nat.le_of_ble_eq_true rfl) (Nat.le_of_ble_eq_true rfl) ?_
                  exact W.iret (v := 0) hx hb hr (fun t ht hW => ⟨⟨0, u, rfl, ⟨fun z => absurd (hex9.symm.trans z) (by decide), fun _ => rfl⟩, by rw [ht]; exact hP9, hD9⟩, hS.F ht⟩) hS.2.2 dX3_chord_113
      · refine lv_iconst (v := 1) hx hb dX3_chord_35 (by decide) ?_
        refine lv_goto (tgt := 40) hx hb dX3_chord_36 (by decide) ?_
        refine lv_iadd hx hb dX3_chord_40 ?_
        refine pc_top (show (2 + 0) + 1 = 3 from rfl) ?_
        refine lv_istore (lv' := [(6, .int 3), (0, .ref (b 0)), (1, .int (nI j)), (2, .int v0), (3, .int v1), (4, .int v2), (5, .int v3)]) hx hb dX3_chord_41 hl (by decide) rfl (fun ls hl => ?_)
        refine lv_iload_n hx hb dX3_chord_43 rfl (lv_at hl 3 rfl) ?_
        refine lv_iconst (v := 1) hx hb dX3_chord_44 (by decide) ?_
        refine lv_sipush (v := 1500) hx hb dX3_chord_45 (by decide) ?_
        refine pc_calli (va_runS (As := [.int v0, .int 1, .int 1500]) (rest := []) ⟨hx, hb, hml, hown, hts⟩ (mX3_isIn l D cy v0 1 1500) (va_cwS 3 hts gX3_chord_X3_isIn rfl rfl rfl (by decide +kernel) ⟨Nat.le_of_ble_eq_true rfl, Nat.le_of_ble_eq_true rfl⟩) ⟨fun a U g mk q => q, fun U hU hW => ⟨rfl, trivial⟩⟩ rfl rfl hl.1 rfl (lv_room (Nat.le_of_ble_eq_true rfl)) dX3_chord_48 ⟨Nat.le_of_ble_eq_true rfl, Nat.le_of_ble_eq_true rfl⟩) (fun r9 hr9 => ?_)
        subst hr9
        refine pc_top (show bI (isIn v0 1 1500) = bI (isT v0 1) from (by rw [isIn_T])) ?_
        refine lv_if_eq (tgt := 108) hx hb dX3_chord_51 (by decide) (fun c51 => ?_) (fun c51 => ?_)
        · refine lv_aload_n hx hb dX3_chord_108 rfl (lv_at hl 1 rfl) ?_
          refine lv_iconst (v := 2) hx hb dX3_chord_109 (by decide) ?_
          have hPc := hP.sub (ws' := wM cy b u 0 pz) [0, 1, 2, 3, 4, 5, 6] rfl
          have hDc := hD.sub (ws' := wM cy b u 0 pz) [0, 1, 2, 3, 4, 5, 6] (by decide) rfl
          have hFc := va_free (wc := wM cy b u 0 pz) hD hS hA [0, 1, 2, 3, 4, 5, 6] rfl
          refine va_calli (va_runV (As := [.int 2]) (rest := []) ⟨hx, hb, hml, hown, hts⟩ (mX3_fail l D cy H.size b u 0 pz 2) (cwV 1 hts gX3_chord_X3_fail rfl rfl rfl (by decide +kernel) ⟨Nat.le_of_ble_eq_true rfl, Nat.le_of_ble_eq_true rfl⟩) ⟨fun a U g mk q => ⟨q.1, q.2.1, q.2.2.1, va_K.moved (u := U) (U := U.calling g mk a) (Vm.Alike.refl U.vm) q.2.2.2.1, q.2.2.2.2⟩, va_recv hK hPc (ci := 3) (q0 := 0) rfl rfl, fun U hU hW => ⟨rfl, by rw [hU], by rw [hU]; exact hPc, va_K.moved hW.alike hK, hDc.weaken (fun _ _ _ _ => trivial)⟩⟩ rfl rfl hl.1 rfl (lv_room (Nat.le_of_ble_eq_true rfl)) dX3_chord_110 ⟨Nat.le_of_ble_eq_true rfl, Nat.le_of_ble_eq_true rfl⟩) hS (fun q _ h => hFc q h) hFc (fun r9 u9 t9 H1 locs ht9 hvm9 hw9 hB9 hz9 hk9 hS => ?_)
          obtain ⟨hP1, hD1⟩ := hB9
          rw [ht9] at hP1
          obtain ⟨hP, hD⟩ := va_join (wr := []) (w1 := wM cy b u 2 pz) hP hD [0, 1, 2, 3, 4, 5, 6] [] rfl rfl (by decide) (by decide) hk9 hFc hP1 hD1
          generalize H1 = H at hP hS ⊢
          have hP : va_P D vwCl (wM cy b u 2 pz) H := hP.sub [0, 1, 2, 3, 4, 5, 6] rfl
          have hD : va_D A (wM cy b u 2 pz) := hD.sub [0, 1, 2, 3, 4, 5, 6] (by decide) rfl
          clear hP1 hD1 hk9 hz9 ht9 hvm9 hPc hDc hFc
          subst hw9
          have hex9 : exCh u (nI j) v0 v1 v2 v3 = 2 := by simp [exCh, bI_1.mp c9, bI_0.mp c51]
          have hP9 : va_P D vwCl (wM cy b u (nI (exCh u (nI j) v0 v1 v2 v3)) pz) H := (by rw [hex9]; exact hP)
          have hD9 : va_D A (wM cy b u (nI (exCh u (nI j) v0 v1 v2 v3)) pz) := (by rw [hex9]; exact hD)
          refine W.widen (k := 1) (n := 6) (Nat.le_of_ble_eq_true rfl) (Nat.le_of_ble_eq_true rfl) ?_
          exact W.iret (v := 0) hx hb hr (fun t ht hW => ⟨⟨0, u, rfl, ⟨fun z => absurd (hex9.symm.trans z) (by decide), fun _ => rfl⟩, by rw [ht]; exact hP9, hD9⟩, hS.F ht⟩) hS.2.2 dX3_chord_113
        · refine lv_iload_n hx hb dX3_chord_54 rfl (lv_at hl 4 rfl) ?_
          refine lv_iconst (v := 1) hx hb dX3_chord_55 (by decide) ?_
          refine lv_sipush (v := 1500) hx hb dX3_chord_56 (by decide) ?_
          refine pc_calli (va_runS (As := [.int v1, .int 1, .int 1500]) (rest := []) ⟨hx, hb, hml, hown, hts⟩ (mX3_isIn l D cy v1 1 1500) (va_cwS 3 hts gX3_chord_X3_isIn rfl rfl rfl (by decide +kernel) ⟨Nat.le_of_ble_eq_true rfl, Nat.le_of_ble_eq_true rfl⟩) ⟨fun a U g mk q => q, fun U hU hW => ⟨rfl, trivial⟩⟩ rfl rfl hl.1 rfl (lv_room (Nat.le_of_ble_eq_true rfl)) dX3_chord_59 ⟨Nat.le_of_ble_eq_true rfl, Nat.le_of_ble_eq_true rfl⟩) (fun r9 hr9 => ?_)
          subst hr9
          refine pc_top (show bI (isIn v1 1 1500) = bI (isT v1 1) from (by rw [isIn_T])) ?_
          refine lv_if_eq (tgt := 108) hx hb dX3_chord_62 (by decide) (fun c62 => ?_) (fun c62 => ?_)
          · refine lv_aload_n hx hb dX3_chord_108 rfl (lv_at hl 1 rfl) ?_
            refine lv_iconst (v := 2) hx hb dX3_chord_109 (by decide) ?_
            have hPc := hP.sub (ws' := wM cy b u 0 pz) [0, 1, 2, 3, 4, 5, 6] rfl
            have hDc := hD.sub (ws' := wM cy b u 0 pz) [0, 1, 2, 3, 4, 5, 6] (by decide) rfl
            have hFc := va_free (wc := wM cy b u 0 pz) hD hS hA [0, 1, 2, 3, 4, 5, 6] rfl
            refine va_calli (va_runV (As := [.int 2]) (rest := []) ⟨hx, hb, hml, hown, hts⟩ (mX3_fail l D cy H.size b u 0 pz 2) (cwV 1 hts gX3_chord_X3_fail rfl rfl rfl (by decide +kernel) ⟨Nat.le_of_ble_eq_true rfl, Nat.le_of_ble_eq_true rfl⟩) ⟨fun a U g mk q => ⟨q.1, q.2.1, q.2.2.1, va_K.moved (u := U) (U := U.calling g mk a) (Vm.Alike.refl U.vm) q.2.2.2.1, q.2.2.2.2⟩, va_recv hK hPc (ci := 3) (q0 := 0) rfl rfl, fun U hU hW => ⟨rfl, by rw [hU], by rw [hU]; exact hPc, va_K.moved hW.alike hK, hDc.weaken (fun _ _ _ _ => trivial)⟩⟩ rfl rfl hl.1 rfl (lv_room (Nat.le_of_ble_eq_true rfl)) dX3_chord_110 ⟨Nat.le_of_ble_eq_true rfl, Nat.le_of_ble_eq_true rfl⟩) hS (fun q _ h => hFc q h) hFc (fun r9 u9 t9 H1 locs ht9 hvm9 hw9 hB9 hz9 hk9 hS => ?_)
            obtain ⟨hP1, hD1⟩ := hB9
            rw [ht9] at hP1
            obtain ⟨hP, hD⟩ := va_join (wr := []) (w1 := wM cy b u 2 pz) hP hD [0, 1, 2, 3, 4, 5, 6] [] rfl rfl (by decide) (by decide) hk9 hFc hP1 hD1
            generalize H1 = H at hP hS ⊢
            have hP : va_P D vwCl (wM cy b u 2 pz) H := hP.sub [0, 1, 2, 3, 4, 5, 6] rfl
            have hD : va_D A (wM cy b u 2 pz) := hD.sub [0, 1, 2, 3, 4, 5, 6] (by decide) rfl
            clear hP1 hD1 hk9 hz9 ht9 hvm9 hPc hDc hFc
            subst hw9
            have hex9 : exCh u (nI j) v0 v1 v2 v3 = 2 := by simp [exCh, bI_1.mp c9, bI_1.mp c51, bI_0.mp c62]
            have hP9 : va_P D vwCl (wM cy b u (nI (exCh u (nI j) v0 v1 v2 v3)) pz) H := (by rw [hex9]; exact hP)
            have hD9 : va_D A (wM cy b u (nI (exCh u (nI j) v0 v1 v2 v3)) pz) := (by rw [hex9]; exact hD)
            refine W.widen (k := 1) (n := 6) (Nat.le_of_ble_eq_true rfl) (Nat.le_of_ble_eq_true rfl) ?_
            exact W.iret (v := 0) hx hb hr (fun t ht hW => ⟨⟨0, u, rfl, ⟨fun z => absurd (hex9.symm.trans z) (by decide), fun _ => rfl⟩, by rw [ht]; exact hP9, hD9⟩, hS.F ht⟩) hS.2.2 dX3_chord_113
          · refine lv_iload hx hb dX3_chord_65 (lv_at hl 5 rfl) ?_
            refine lv_iconst (v := 0) hx hb dX3_chord_67 (by decide) ?_
            refine lv_sipush (v := 1500) hx hb dX3_chord_68 (by decide) ?_
            refine pc_calli (va_runS (As := [.int v2, .int 0, .int 1500]) (rest := []) ⟨hx, hb, hml, hown, hts⟩ (mX3_isIn l D cy v2 0 1500) (va_cwS 3 hts gX3_chord_X3_isIn rfl rfl rfl (by decide +kernel) ⟨Nat.le_of_ble_eq_true rfl, Nat.le_of_ble_eq_true rfl⟩) ⟨fun a U g mk q => q, fun U hU hW => ⟨rfl, trivial⟩⟩ rfl rfl hl.1 rfl (lv_room (Nat.le_of_ble_eq_true rfl)) dX3_chord_71 ⟨Nat.le_of_ble_eq_true rfl, Nat.le_of_ble_eq_true rfl⟩) (fun r9 hr9 => ?_)
            subst hr9
            refine pc_top (show bI (isIn v2 0 1500) = bI (isT v2 0) from (by rw [isIn_T])) ?_
            refine lv_if_eq (tgt := 108) hx hb dX3_chord_74 (by decide) (fun c74 => ?_) (fun c74 => ?_)
            · refine lv_aload_n hx hb dX3_chord_108 rfl (lv_at hl 1 rfl) ?_
              refine lv_iconst (v := 2) hx hb dX3_chord_109 (by decide) ?_
              have hPc := hP.sub (ws' := wM cy b u 0 pz) [0, 1, 2, 3, 4, 5, 6] rfl
              have hDc := hD.sub (ws' := wM cy b u 0 pz) [0, 1, 2, 3, 4, 5, 6] (by decide) rfl
              have hFc := va_free (wc := wM cy b u 0 pz) hD hS hA [0, 1, 2, 3, 4, 5, 6] rfl
              refine va_calli (va_runV (As := [.int 2]) (rest := []) ⟨hx, hb, hml, hown, hts⟩ (mX3_fail l D cy H.size b u 0 pz 2) (cwV 1 hts gX3_chord_X3_fail rfl rfl rfl (by decide +kernel) ⟨Nat.le_of_ble_eq_true rfl, Nat.le_of_ble_eq_true rfl⟩) ⟨fun a U g mk q => ⟨q.1, q.2.1, q.2.2.1, va_K.moved (u := U) (U := U.calling g mk a) (Vm.Alike.refl U.vm) q.2.2.2.1, q.2.2.2.2⟩, va_recv hK hPc (ci := 3) (q0 := 0) rfl rfl, fun U hU hW => ⟨rfl, by rw [hU], by rw [hU]; exact hPc, va_K.moved hW.alike hK, hDc.weaken (fun _ _ _ _ => trivial)⟩⟩ rfl rfl hl.1 rfl (lv_room (Nat.le_of_ble_eq_true rfl)) dX3_chord_110 ⟨Nat.le_of_ble_eq_true rfl, Nat.le_of_ble_eq_true rfl⟩) hS (fun q _ h => hFc q h) hFc (fun r9 u9 t9 H1 locs ht9 hvm9 hw9 hB9 hz9 hk9 hS => ?_)
              obtain ⟨hP1, hD1⟩ := hB9
              rw [ht9] at hP1
              obtain ⟨hP, hD⟩ := va_join (wr := []) (w1 := wM cy b u 2 pz) hP hD [0, 1, 2, 3, 4, 5, 6] [] rfl rfl (by decide) (by decide) hk9 hFc hP1 hD1
              generalize H1 = H at hP hS ⊢
              have hP : va_P D vwCl (wM cy b u 2 pz) H := hP.sub [0, 1, 2, 3, 4, 5, 6] rfl
              have hD : va_D A (wM cy b u 2 pz) := hD.sub [0, 1, 2, 3, 4, 5, 6] (by decide) rfl
              clear hP1 hD1 hk9 hz9 ht9 hvm9 hPc hDc hFc
              subst hw9
              have hex9 : exCh u (nI j) v0 v1 v2 v3 = 2 := by simp [exCh, bI_1.mp c9, bI_1.mp c51, bI_1.mp c62, bI_0.mp c74]
              have hP9 : va_P D vwCl (wM cy b u (nI (exCh u (nI j) v0 v1 v2 v3)) pz) H := (by rw [hex9]; exact hP)
              have hD9 : va_D A (wM cy b u (nI (exCh u (nI j) v0 v1 v2 v3)) pz) := (by rw [hex9]; exact hD)
              refine W.widen (k := 1) (n := 6) (Nat.le_of_ble_eq_true rfl) (Nat.le_of_ble_eq_true rfl) ?_
              exact W.iret (v := 0) hx hb hr (fun t ht hW => ⟨⟨0, u, rfl, ⟨fun z => absurd (hex9.symm.trans z) (by decide), fun _ => rfl⟩, by rw [ht]; exact hP9, hD9⟩, hS.F ht⟩) hS.2.2 dX3_chord_113
            · refine lv_iload hx hb dX3_chord_77 (lv_at hl 6 rfl) ?_
              refine lv_iconst (v := 0) hx hb dX3_chord_79 (by decide) ?_
              refine lv_sipush (v := 1500) hx hb dX3_chord_80 (by decide) ?_
              refine pc_calli (va_runS (As := [.int v3, .int 0, .int 1500]) (rest := []) ⟨hx, hb, hml, hown, hts⟩ (mX3_isIn l D cy v3 0 1500) (va_cwS 3 hts gX3_chord_X3_isIn rfl rfl rfl (by decide +kernel) ⟨Nat.le_of_ble_eq_true rfl, Nat.le_of_ble_eq_true rfl⟩) ⟨fun a U g mk q => q, fun U hU hW => ⟨rfl, trivial⟩⟩ rfl rfl hl.1 rfl (lv_room (Nat.le_of_ble_eq_true rfl)) dX3_chord_83 ⟨Nat.le_of_ble_eq_true rfl, Nat.le_of_ble_eq_true rfl⟩) (fun r9 hr9 => ?_)
              subst hr9
              refine pc_top (show bI (isIn v3 0 1500) = bI (isT v3 0) from (by rw [isIn_T])) ?_
              refine lv_if_eq (tgt := 108) hx hb dX3_chord_86 (by decide) (fun c86 => ?_) (fun c86 => ?_)
              · refine lv_aload_n hx hb dX3_chord_108 rfl (lv_at hl 1 rfl) ?_
                refine lv_iconst (v := 2) hx hb dX3_chord_109 (by decide) ?_
                have hPc := hP.sub (ws' := wM cy b u 0 pz) [0, 1, 2, 3, 4, 5, 6] rfl
                have hDc := hD.sub (ws' := wM cy b u 0 pz) [0, 1, 2, 3, 4, 5, 6] (by decide) rfl
                have hFc := va_free (wc := wM cy b u 0 pz) hD hS hA [0, 1, 2, 3, 4, 5, 6] rfl
                refine va_calli (va_runV (As := [.int 2]) (rest := []) ⟨hx, hb, hml, hown, hts⟩ (mX3_fail l D cy H.size b u 0 pz 2) (cwV 1 hts gX3_chord_X3_fail rfl rfl rfl (by decide +kernel) ⟨Nat.le_of_ble_eq_true rfl, Nat.le_of_ble_eq_true rfl⟩) ⟨fun a U g mk q => ⟨q.1, q.2.1, q.2.2.1, va_K.moved (u := U) (U := U.calling g mk a) (Vm.Alike.refl U.vm) q.2.2.2.1, q.2.2.2.2⟩, va_recv hK hPc (ci := 3) (q0 := 0) rfl rfl, fun U hU hW => ⟨rfl, by rw [hU], by rw [hU]; exact hPc, va_K.moved hW.alike hK, hDc.weaken (fun _ _ _ _ => trivial)⟩⟩ rfl rfl hl.1 rfl (lv_room (Nat.le_of_ble_eq_true rfl)) dX3_chord_110 ⟨Nat.le_of_ble_eq_true rfl, Nat.le_of_ble_eq_true rfl⟩) hS (fun q _ h => hFc q h) hFc (fun r9 u9 t9 H1 locs ht9 hvm9 hw9 hB9 hz9 hk9 hS => ?_)
                obtain ⟨hP1, hD1⟩ := hB9
                rw [ht9] at hP1
                obtain ⟨hP, hD⟩ := va_join (wr := []) (w1 := wM cy b u 2 pz) hP hD [0, 1, 2, 3, 4, 5, 6] [] rfl rfl (by decide) (by decide) hk9 hFc hP1 hD1
                generalize H1 = H at hP hS ⊢
                have hP : va_P D vwCl (wM cy b u 2 pz) H := hP.sub [0, 1, 2, 3, 4, 5, 6] rfl
                have hD : va_D A (wM cy b u 2 pz) := hD.sub [0, 1, 2, 3, 4, 5, 6] (by decide) rfl
                clear hP1 hD1 hk9 hz9 ht9 hvm9 hPc hDc hFc
                subst hw9
                have hex9 : exCh u (nI j) v0 v1 v2 v3 = 2 := by simp [exCh, bI_1.mp c9, bI_1.mp c51, bI_1.mp c62, bI_1.mp c74, bI_0.mp c86]
                have hP9 : va_P D vwCl (wM cy b u (nI (exCh u (nI j) v0 v1 v2 v3)) pz) H := (by rw [hex9]; exact hP)
                have hD9 : va_D A (wM cy b u (nI (exCh u (nI j) v0 v1 v2 v3)) pz) := (by rw [hex9]; exact hD)
                refine W.widen (k := 1) (n := 6) (Nat.le_of_ble_eq_true rfl) (Nat.le_of_ble_eq_true rfl) ?_
                exact W.iret (v := 0) hx hb hr (fun t ht hW => ⟨⟨0, u, rfl, ⟨fun z => absurd (hex9.symm.trans z) (by decide), fun _ => rfl⟩, by rw [ht]; exact hP9, hD9⟩, hS.F ht⟩) hS.2.2 dX3_chord_113
              · refine lv_iload hx hb dX3_chord_89 (lv_at hl 5 rfl) ?_
                refine lv_if_ne (tgt := 99) hx hb dX3_chord_91 (by decide) (fun c91 => absurd c91 (not_not_intro (isT_z (bI_1.mp c74) c21))) (fun c91 => ?_)
                refine lv_iload hx hb dX3_chord_94 (lv_at hl 6 rfl) ?_
                refine lv_if_gt (tgt := 108) hx hb dX3_chord_96 (by decide) (fun c96 => ?_) (fun c96 => absurd c96 (not_not_intro (Int32.not_le.mp c32)))
                have q3 : ¬ v3 = 0 := fun q => c32 (by rw [q]; decide)
                refine lv_aload_n hx hb dX3_chord_108 rfl (lv_at hl 1 rfl) ?_
                refine lv_iconst (v := 2) hx hb dX3_chord_109 (by decide) ?_
                have hPc := hP.sub (ws' := wM cy b u 0 pz) [0, 1, 2, 3, 4, 5, 6] rfl
                have hDc := hD.sub (ws' := wM cy b u 0 pz) [0, 1, 2, 3, 4, 5, 6] (by decide) rfl
                have hFc := va_free (wc := wM cy b u 0 pz) hD hS hA [0, 1, 2, 3, 4, 5, 6] rfl
                refine va_calli (va_runV (As := [.int 2]) (rest := []) ⟨hx, hb, hml, hown, hts⟩ (mX3_fail l D cy H.size b u 0 pz 2) (cwV 1 hts gX3_chord_X3_fail rfl rfl rfl (by decide +kernel) ⟨Nat.le_of_ble_eq_true rfl, Nat.le_of_ble_eq_true rfl⟩) ⟨fun a U g mk q => ⟨q.1, q.2.1, q.2.2.1, va_K.moved (u := U) (U := U.calling g mk a) (Vm.Alike.refl U.vm) q.2.2.2.1, q.2.2.2.2⟩, va_recv hK hPc (ci := 3) (q0 := 0) rfl rfl, fun U hU hW => ⟨rfl, by rw [hU], by rw [hU]; exact hPc, va_K.moved hW.alike hK, hDc.weaken (fun _ _ _ _ => trivial)⟩⟩ rfl rfl hl.1 rfl (lv_room (Nat.le_of_ble_eq_true rfl)) dX3_chord_110 ⟨Nat.le_of_ble_eq_true rfl, Nat.le_of_ble_eq_true rfl⟩) hS (fun q _ h => hFc q h) hFc (fun r9 u9 t9 H1 locs ht9 hvm9 hw9 hB9 hz9 hk9 hS => ?_)
                obtain ⟨hP1, hD1⟩ := hB9
                rw [ht9] at hP1
                obtain ⟨hP, hD⟩ := va_join (wr := []) (w1 := wM cy b u 2 pz) hP hD [0, 1, 2, 3, 4, 5, 6] [] rfl rfl (by decide) (by decide) hk9 hFc hP1 hD1
                generalize H1 = H at hP hS ⊢
                have hP : va_P D vwCl (wM cy b u 2 pz) H := hP.sub [0, 1, 2, 3, 4, 5, 6] rfl
                have hD : va_D A (wM cy b u 2 pz) := hD.sub [0, 1, 2, 3, 4, 5, 6] (by decide) rfl
                clear hP1 hD1 hk9 hz9 ht9 hvm9 hPc hDc hFc
                subst hw9
                have hex9 : exCh u (nI j) v0 v1 v2 v3 = 2 := by simp [exCh, bI_1.mp c9, bI_1.mp c51, bI_1.mp c62, bI_1.mp c74, bI_1.mp c86, c91, q3]
                have hP9 : va_P D vwCl (wM cy b u (nI (exCh u (nI j) v0 v1 v2 v3)) pz) H := (by rw [hex9]; exact hP)
                have hD9 : va_D A (wM cy b u (nI (exCh u (nI j) v0 v1 v2 v3)) pz) := (by rw [hex9]; exact hD)
                refine W.widen (k := 1) (n := 6) (Nat.le_of_ble_eq_true rfl) (Nat.le_of_ble_eq_true rfl) ?_
                exact W.iret (v := 0) hx hb hr (fun t ht hW => ⟨⟨0, u, rfl, ⟨fun z => absurd (hex9.symm.trans z) (by decide), fun _ => rfl⟩, by rw [ht]; exact hP9, hD9⟩, hS.F ht⟩) hS.2.2 dX3_chord_113
    · refine lv_iconst (v := 1) hx hb dX3_chord_24 (by decide) ?_
      refine lv_goto (tgt := 29) hx hb dX3_chord_25 (by decide) ?_
      refine lv_iadd hx hb dX3_chord_29 ?_
      refine lv_iload hx hb dX3_chord_30 (lv_at hl 5 rfl) ?_
      refine lv_if_le (tgt := 39) hx hb dX3_chord_32 (by decide) (fun c32 => ?_) (fun c32 => ?_)
      · refine lv_iconst (v := 0) hx hb dX3_chord_39 (by decide) ?_
        refine lv_iadd hx hb dX3_chord_40 ?_
        refine pc_top (show (2 + 1) + 0 = 3 from rfl) ?_
        refine lv_istore (lv' := [(6, .int 3), (0, .ref (b 0)), (1, .int (nI j)), (2, .int v0), (3, .int v1), (4, .int v2), (5, .int v3)]) hx hb dX3_chord_41 hl (by decide) rfl (fun ls hl => ?_)
        refine lv_iload_n hx hb dX3_chord_43 rfl (lv_at hl 3 rfl) ?_
        refine lv_iconst (v := 1) hx hb dX3_chord_44 (by decide) ?_
        refine lv_sipush (v := 1500) hx hb dX3_chord_45 (by decide) ?_
        refine pc_calli (va_runS (As := [.int v0, .int 1, .int 1500]) (rest := []) ⟨hx, hb, hml, hown, hts⟩ (mX3_isIn l D cy v0 1 1500) (va_cwS 3 hts gX3_chord_X3_isIn rfl rfl rfl (by decide +kernel) ⟨Nat.le_of_ble_eq_true rfl, Nat.le_of_ble_eq_true rfl⟩) ⟨fun a U g mk q => q, fun U hU hW => ⟨rfl, trivial⟩⟩ rfl rfl hl.1 rfl (lv_room (Nat.le_of_ble_eq_true rfl)) dX3_chord_48 ⟨Nat.le_of_ble_eq_true rfl, Nat.le_of_ble_eq_true rfl⟩) (fun r9 hr9 => ?_)
        subst hr9
        refine pc_top (show bI (isIn v0 1 1500) = bI (isT v0 1) from (by rw [isIn_T])) ?_
        refine lv_if_eq (tgt := 108) hx hb dX3_chord_51 (by decide) (fun c51 => ?_) (fun c51 => ?_)
        · refine lv_aload_n hx hb dX3_chord_108 rfl (lv_at hl 1 rfl) ?_
          refine lv_iconst (v := 2) hx hb dX3_chord_109 (by decide) ?_
          have hPc := hP.sub (ws' := wM cy b u 0 pz) [0, 1, 2, 3, 4, 5, 6] rfl
          have hDc := hD.sub (ws' := wM cy b u 0 pz) [0, 1, 2, 3, 4, 5, 6] (by decide) rfl
          have hFc := va_free (wc := wM cy b u 0 pz) hD hS hA [0, 1, 2, 3, 4, 5, 6] rfl
          refine va_calli (va_runV (As := [.int 2]) (rest := []) ⟨hx, hb, hml, hown, hts⟩ (mX3_fail l D cy H.size b u 0 pz 2) (cwV 1 hts gX3_chord_X3_fail rfl rfl rfl (by decide +kernel) ⟨Nat.le_of_ble_eq_true rfl, Nat.le_of_ble_eq_true rfl⟩) ⟨fun a U g mk q => ⟨q.1, q.2.1, q.2.2.1, va_K.moved (u := U) (U := U.calling g mk a) (Vm.Alike.refl U.vm) q.2.2.2.1, q.2.2.2.2⟩, va_recv hK hPc (ci := 3) (q0 := 0) rfl rfl, fun U hU hW => ⟨rfl, by rw [hU], by rw [hU]; exact hPc, va_K.moved hW.alike hK, hDc.weaken (fun _ _ _ _ => trivial)⟩⟩ rfl rfl hl.1 rfl (lv_room (Nat.le_of_ble_eq_true rfl)) dX3_chord_110 ⟨Nat.le_of_ble_eq_true rfl, Nat.le_of_ble_eq_true rfl⟩) hS (fun q _ h => hFc q h) hFc (fun r9 u9 t9 H1 locs ht9 hvm9 hw9 hB9 hz9 hk9 hS => ?_)
          obtain ⟨hP1, hD1⟩ := hB9
          rw [ht9] at hP1
          obtain ⟨hP, hD⟩ := va_join (wr := []) (w1 := wM cy b u 2 pz) hP hD [0, 1, 2, 3, 4, 5, 6] [] rfl rfl (by decide) (by decide) hk9 hFc hP1 hD1
          generalize H1 = H at hP hS ⊢
          have hP : va_P D vwCl (wM cy b u 2 pz) H := hP.sub [0, 1, 2, 3, 4, 5, 6] rfl
          have hD : va_D A (wM cy b u 2 pz) := hD.sub [0, 1, 2, 3, 4, 5, 6] (by decide) rfl
          clear hP1 hD1 hk9 hz9 ht9 hvm9 hPc hDc hFc
          subst hw9
          have hex9 : exCh u (nI j) v0 v1 v2 v3 = 2 := by simp [exCh, bI_1.mp c9, bI_0.mp c51]
          have hP9 : va_P D vwCl (wM cy b u (nI (exCh u (nI j) v0 v1 v2 v3)) pz) H := (by rw [hex9]; exact hP)
          have hD9 : va_D A (wM cy b u (nI (exCh u (nI j) v0 v1 v2 v3)) pz) := (by rw [hex9]; exact hD)
          refine W.widen (k := 1) (n := 6) (Nat.le_of_ble_eq_true rfl) (Nat.le_of_ble_eq_true rfl) ?_
          exact W.iret (v := 0) hx hb hr (fun t ht hW => ⟨⟨0, u, rfl, ⟨fun z => absurd (hex9.symm.trans z) (by decide), fun _ => rfl⟩, by rw [ht]; exact hP9, hD9⟩, hS.F ht⟩) hS.2.2 dX3_chord_113
        · refine lv_iload_n hx hb dX3_chord_54 rfl (lv_at hl 4 rfl) ?_
          refine lv_iconst (v := 1) hx hb dX3_chord_55 (by decide) ?_
          refine lv_sipush (v := 1500) hx hb dX3_chord_56 (by decide) ?_
          refine pc_calli (va_runS (As := [.int v1, .int 1, .int 1500]) (rest := []) ⟨hx, hb, hml, hown, hts⟩ (mX3_isIn l D cy v1 1 1500) (va_cwS 3 hts gX3_chord_X3_isIn rfl rfl rfl (by decide +kernel) ⟨Nat.le_of_ble_eq_true rfl, Nat.le_of_ble_eq_true rfl⟩) ⟨fun a U g mk q => q, fun U hU hW => ⟨rfl, trivial⟩⟩ rfl rfl hl.1 rfl (lv_room (Nat.le_of_ble_eq_true rfl)) dX3_chord_59 ⟨Nat.le_of_ble_eq_true rfl, Nat.le_of_ble_eq_true rfl⟩) (fun r9 hr9 => ?_)
          subst hr9
          refine pc_top (show bI (isIn v1 1 1500) = bI (isT v1 1) from (by rw [isIn_T])) ?_
          refine lv_if_eq (tgt := 108) hx hb dX3_chord_62 (by decide) (fun c62 => ?_) (fun c62 => ?_)
          · refine lv_aload_n hx hb dX3_chord_108 rfl (lv_at hl 1 rfl) ?_
            refine lv_iconst (v := 2) hx hb dX3_chord_109 (by decide) ?_
            have hPc := hP.sub (ws' := wM cy b u 0 pz) [0, 1, 2, 3, 4, 5, 6] rfl
            have hDc := hD.sub (ws' := wM cy b u 0 pz) [0, 1, 2, 3, 4, 5, 6] (by decide) rfl
            have hFc := va_free (wc := wM cy b u 0 pz) hD hS hA [0, 1, 2, 3, 4, 5, 6] rfl
            refine va_calli (va_runV (As := [.int 2]) (rest := []) ⟨hx, hb, hml, hown, hts⟩ (mX3_fail l D cy H.size b u 0 pz 2) (cwV 1 hts gX3_chord_X3_fail rfl rfl rfl (by decide +kernel) ⟨Nat.le_of_ble_eq_true rfl, Nat.le_of_ble_eq_true rfl⟩) ⟨fun a U g mk q => ⟨q.1, q.2.1, q.2.2.1, va_K.moved (u := U) (U := U.calling g mk a) (Vm.Alike.refl U.vm) q.2.2.2.1, q.2.2.2.2⟩, va_recv hK hPc (ci := 3) (q0 := 0) rfl rfl, fun U hU hW => ⟨rfl, by rw [hU], by rw [hU]; exact hPc, va_K.moved hW.alike hK, hDc.weaken (fun _ _ _ _ => trivial)⟩⟩ rfl rfl hl.1 rfl (lv_room (Nat.le_of_ble_eq_true rfl)) dX3_chord_110 ⟨Nat.le_of_ble_eq_true rfl, Nat.le_of_ble_eq_true rfl⟩) hS (fun q _ h => hFc q h) hFc (fun r9 u9 t9 H1 locs ht9 hvm9 hw9 hB9 hz9 hk9 hS => ?_)
            obtain ⟨hP1, hD1⟩ := hB9
            rw [ht9] at hP1
            obtain ⟨hP, hD⟩ := va_join (wr := []) (w1 := wM cy b u 2 pz) hP hD [0, 1, 2, 3, 4, 5, 6] [] rfl rfl (by decide) (by decide) hk9 hFc hP1 hD1
            generalize H1 = H at hP hS ⊢
            have hP : va_P D vwCl (wM cy b u 2 pz) H := hP.sub [0, 1, 2, 3, 4, 5, 6] rfl
            have hD : va_D A (wM cy b u 2 pz) := hD.sub [0, 1, 2, 3, 4, 5, 6] (by decide) rfl
            clear hP1 hD1 hk9 hz9 ht9 hvm9 hPc hDc hFc
            subst hw9
            have hex9 : exCh u (nI j) v0 v1 v2 v3 = 2 := by simp [exCh, bI_1.mp c9, bI_1.mp c51, bI_0.mp c62]
            have hP9 : va_P D vwCl (wM cy b u (nI (exCh u (nI j) v0 v1 v2 v3)) pz) H := (by rw [hex9]; exact hP)
            have hD9 : va_D A (wM cy b u (nI (exCh u (nI j) v0 v1 v2 v3)) pz) := (by rw [hex9]; exact hD)
            refine W.widen (k := 1) (n := 6) (Nat.le_of_ble_eq_true rfl) (Nat.le_of_ble_eq_true rfl) ?_
            exact W.iret (v := 0) hx hb hr (fun t ht hW => ⟨⟨0, u, rfl, ⟨fun z => absurd (hex9.symm.trans z) (by decide), fun _ => rfl⟩, by rw [ht]; exact hP9, hD9⟩, hS.F ht⟩) hS.2.2 dX3_chord_113
          · refine lv_iload hx hb dX3_chord_65 (lv_at hl 5 rfl) ?_
            refine lv_iconst (v := 0) hx hb dX3_chord_67 (by decide) ?_
            refine lv_sipush (v := 1500) hx hb dX3_chord_68 (by decide) ?_
            refine pc_calli (va_runS (As := [.int v2, .int 0, .int 1500]) (rest := []) ⟨hx, hb, hml, hown, hts⟩ (mX3_isIn l D cy v2 0 1500) (va_cwS 3 hts gX3_chord_X3_isIn rfl rfl rfl (by decide +kernel) ⟨Nat.le_of_ble_eq_true rfl, Nat.le_of_ble_eq_true rfl⟩) ⟨fun a U g mk q => q, fun U hU hW => ⟨rfl, trivial⟩⟩ rfl rfl hl.1 rfl (lv_room (Nat.le_of_ble_eq_true rfl)) dX3_chord_71 ⟨Nat.le_of_ble_eq_true rfl, Nat.le_of_ble_eq_true rfl⟩) (fun r9 hr9 => ?_)
            subst hr9
            refine pc_top (show bI (isIn v2 0 1500) = bI (isT v2 0) from (by rw [isIn_T])) ?_
            refine lv_if_eq (tgt := 108) hx hb dX3_chord_74 (by decide) (fun c74 => ?_) (fun c74 => ?_)
            · refine lv_aload_n hx hb dX3_chord_108 rfl (lv_at hl 1 rfl) ?_
              refine lv_iconst (v := 2) hx hb dX3_chord_109 (by decide) ?_
              have hPc := hP.sub (ws' := wM cy b u 0 pz) [0, 1, 2, 3, 4, 5, 6] rfl
              have hDc := hD.sub (ws' := wM cy b u 0 pz) [0, 1, 2, 3, 4, 5, 6] (by decide) rfl
              have hFc := va_free (wc := wM cy b u 0 pz) hD hS hA [0, 1, 2, 3, 4, 5, 6] rfl
              refine va_calli (va_runV (As := [.int 2]) (rest := []) ⟨hx, hb, hml, hown, hts⟩ (mX3_fail l D cy H.size b u 0 pz 2) (cwV 1 hts gX3_chord_X3_fail rfl rfl rfl (by decide +kernel) ⟨Nat.le_of_ble_eq_true rfl, Nat.le_of_ble_eq_true rfl⟩) ⟨fun a U g mk q => ⟨q.1, q.2.1, q.2.2.1, va_K.moved (u := U) (U := U.calling g mk a) (Vm.Alike.refl U.vm) q.2.2.2.1, q.2.2.2.2⟩, va_recv hK hPc (ci := 3) (q0 := 0) rfl rfl, fun U hU hW => ⟨rfl, by rw [hU], by rw [hU]; exact hPc, va_K.moved hW.alike hK, hDc.weaken (fun _ _ _ _ => trivial)⟩⟩ rfl rfl hl.1 rfl (lv_room (Nat.le_of_ble_eq_true rfl)) dX3_chord_110 ⟨Nat.le_of_ble_eq_true rfl, Nat.le_of_ble_eq_true rfl⟩) hS (fun q _ h => hFc q h) hFc (fun r9 u9 t9 H1 locs ht9 hvm9 hw9 hB9 hz9 hk9 hS => ?_)
              obtain ⟨hP1, hD1⟩ := hB9
              rw [ht9] at hP1
              obtain ⟨hP, hD⟩ := va_join (wr := []) (w1 := wM cy b u 2 pz) hP hD [0, 1, 2, 3, 4, 5, 6] [] rfl rfl (by decide) (by decide) hk9 hFc hP1 hD1
              generalize H1 = H at hP hS ⊢
              have hP : va_P D vwCl (wM cy b u 2 pz) H := hP.sub [0, 1, 2, 3, 4, 5, 6] rfl
              have hD : va_D A (wM cy b u 2 pz) := hD.sub [0, 1, 2, 3, 4, 5, 6] (by decide) rfl
              clear hP1 hD1 hk9 hz9 ht9 hvm9 hPc hDc hFc
              subst hw9
              have hex9 : exCh u (nI j) v0 v1 v2 v3 = 2 := by simp [exCh, bI_1.mp c9, bI_1.mp c51, bI_1.mp c62, bI_0.mp c74]
              have hP9 : va_P D vwCl (wM cy b u (nI (exCh u (nI j) v0 v1 v2 v3)) pz) H := (by rw [hex9]; exact hP)
              have hD9 : va_D A (wM cy b u (nI (exCh u (nI j) v0 v1 v2 v3)) pz) := (by rw [hex9]; exact hD)
              refine W.widen (k := 1) (n := 6) (Nat.le_of_ble_eq_true rfl) (Nat.le_of_ble_eq_true rfl) ?_
              exact W.iret (v := 0) hx hb hr (fun t ht hW => ⟨⟨0, u, rfl, ⟨fun z => absurd (hex9.symm.trans z) (by decide), fun _ => rfl⟩, by rw [ht]; exact hP9, hD9⟩, hS.F ht⟩) hS.2.2 dX3_chord_113
            · refine lv_iload hx hb dX3_chord_77 (lv_at hl 6 rfl) ?_
              refine lv_iconst (v := 0) hx hb dX3_chord_79 (by decide) ?_
              refine lv_sipush (v := 1500) hx hb dX3_chord_80 (by decide) ?_
              refine pc_calli (va_runS (As := [.int v3, .int 0, .int 1500]) (rest := []) ⟨hx, hb, hml, hown, hts⟩ (mX3_isIn l D cy v3 0 1500) (va_cwS 3 hts gX3_chord_X3_isIn rfl rfl rfl (by decide +kernel) ⟨Nat.le_of_ble_eq_true rfl, Nat.le_of_ble_eq_true rfl⟩) ⟨fun a U g mk q => q, fun U hU hW => ⟨rfl, trivial⟩⟩ rfl rfl hl.1 rfl (lv_room (Nat.le_of_ble_eq_true rfl)) dX3_chord_83 ⟨Nat.le_of_ble_eq_true rfl, Nat.le_of_ble_eq_true rfl⟩) (fun r9 hr9 => ?_)
              subst hr9
              refine pc_top (show bI (isIn v3 0 1500) = bI (isT v3 0) from (by rw [isIn_T])) ?_
              refine lv_if_eq (tgt := 108) hx hb dX3_chord_86 (by decide) (fun c86 => ?_) (fun c86 => ?_)
              · refine lv_aload_n hx hb dX3_chord_108 rfl (lv_at hl 1 rfl) ?_
                refine lv_iconst (v := 2) hx hb dX3_chord_109 (by decide) ?_
                have hPc := hP.sub (ws' := wM cy b u 0 pz) [0, 1, 2, 3, 4, 5, 6] rfl
                have hDc := hD.sub (ws' := wM cy b u 0 pz) [0, 1, 2, 3, 4, 5, 6] (by decide) rfl
                have hFc := va_free (wc := wM cy b u 0 pz) hD hS hA [0, 1, 2, 3, 4, 5, 6] rfl
                refine va_calli (va_runV (As := [.int 2]) (rest := []) ⟨hx, hb, hml, hown, hts⟩ (mX3_fail l D cy H.size b u 0 pz 2) (cwV 1 hts gX3_chord_X3_fail rfl rfl rfl (by decide +kernel) ⟨Nat.le_of_ble_eq_true rfl, Nat.le_of_ble_eq_true rfl⟩) ⟨fun a U g mk q => ⟨q.1, q.2.1, q.2.2.1, va_K.moved (u := U) (U := U.calling g mk a) (Vm.Alike.refl U.vm) q.2.2.2.1, q.2.2.2.2⟩, va_recv hK hPc (ci := 3) (q0 := 0) rfl rfl, fun U hU hW => ⟨rfl, by rw [hU], by rw [hU]; exact hPc, va_K.moved hW.alike hK, hDc.weaken (fun _ _ _ _ => trivial)⟩⟩ rfl rfl hl.1 rfl (lv_room (Nat.le_of_ble_eq_true rfl)) dX3_chord_110 ⟨Nat.le_of_ble_eq_true rfl, Nat.le_of_ble_eq_true rfl⟩) hS (fun q _ h => hFc q h) hFc (fun r9 u9 t9 H1 locs ht9 hvm9 hw9 hB9 hz9 hk9 hS => ?_)
                obtain ⟨hP1, hD1⟩ := hB9
                rw [ht9] at hP1
                obtain ⟨hP, hD⟩ := va_join (wr := []) (w1 := wM cy b u 2 pz) hP hD [0, 1, 2, 3, 4, 5, 6] [] rfl rfl (by decide) (by decide) hk9 hFc hP1 hD1
                generalize H1 = H at hP hS ⊢
                have hP : va_P D vwCl (wM cy b u 2 pz) H := hP.sub [0, 1, 2, 3, 4, 5, 6] rfl
                have hD : va_D A (wM cy b u 2 pz) := hD.sub [0, 1, 2, 3, 4, 5, 6] (by decide) rfl
                clear hP1 hD1 hk9 hz9 ht9 hvm9 hPc hDc hFc
                subst hw9
                have hex9 : exCh u (nI j) v0 v1 v2 v3 = 2 := by simp [exCh, bI_1.mp c9, bI_1.mp c51, bI_1.mp c62, bI_1.mp c74, bI_0.mp c86]
                have hP9 : va_P D vwCl (wM cy b u (nI (exCh u (nI j) v0 v1 v2 v3)) pz) H := (by rw [hex9]; exact hP)
                have hD9 : va_D A (wM cy b u (nI (exCh u (nI j) v0 v1 v2 v3)) pz) := (by rw [hex9]; exact hD)
                refine W.widen (k := 1) (n := 6) (Nat.le_of_ble_eq_true rfl) (Nat.le_of_ble_eq_true rfl) ?_
                exact W.iret (v := 0) hx hb hr (fun t ht hW => ⟨⟨0, u, rfl, ⟨fun z => absurd (hex9.symm.trans z) (by decide), fun _ => rfl⟩, by rw [ht]; exact hP9, hD9⟩, hS.F ht⟩) hS.2.2 dX3_chord_113
              · refine lv_iload hx hb dX3_chord_89 (lv_at hl 5 rfl) ?_
                refine lv_if_ne (tgt := 99) hx hb dX3_chord_91 (by decide) (fun c91 => ?_) (fun c91 => absurd c91 (fun q => c21 (by rw [q]; decide)))
                have q2 : ¬ v2 = 0 := fun q => c21 (by rw [q]; decide)
                have q3 : v3 = 0 := isT_z (bI_1.mp c86) c32
                have hS9 : chSz v2 v3 = 3 := by simp [chSz, q2, q3]
                have hv9 : ¬ (v2 = 0 ∧ ¬ v3 = 0) := by simp [q2, q3]
                refine lv_iload_n hx hb dX3_chord_99 rfl (lv_at hl 2 rfl) ?_
                refine lv_iload hx hb dX3_chord_100 (lv_at hl 0 rfl) ?_
                refine lv_iadd hx hb dX3_chord_102 ?_
                refine pc_top (show (nI j) + 3 = nI (j + 3) from nI_add j 3) ?_
                refine lv_bipush (v := 12) hx hb dX3_chord_103 (by decide) ?_
                refine lv_icmp_le (tgt := 114) hx hb dX3_chord_105 (by decide) (fun c105 => ?_) (fun c105 => ?_)
                · have n105 : j + 3 ≤ 12 := (nI_leI (a := j + 3) (b := 12) (by omega) (by omega)).mp c105
                  refine lv_aload_n hx hb dX3_chord_114 rfl (lv_at hl 1 rfl) ?_
                  refine va_get (D := D) (ci := 3) (v := .int (nI (un u))) (C := RX3) (T := TX3) (N := 8) hx hb hts inX3_chord_RX3 hown hK hP 0 rfl rfl 2 (by decide) (hts _ kX3_chord_1) (fun _ h9 => h9) rfl dX3_chord_115 ?_
                  refine lv_bipush (v := 6) hx hb dX3_chord_118 (by decide) ?_
                  refine lv_icmp_ne (tgt := 129) hx hb dX3_chord_120 (by decide) (fun c120 => ?_) (fun c120 => ?_)
                  · have n120 : ¬ (un u = 6) := fun h9 => c120 ((nI_eq (a := un u) (b := 6) (by omega) (by omega)).mpr h9)
                    refine lv_bipush (v := 6) hx hb dX3_chord_129 (by decide) ?_
                    refine pc_newa (atype := .int) (ty := .int) (N' := 6) (a0 := (6, .inl (fun _ => 0))) hx hb (hts _ kX3_chord_2) rfl hK hP hD hS hA 0 rfl (fun _ => rfl) (by decide) (by decide) (by decide) (Nat.le_of_ble_eq_true rfl) (Nat.le_of_ble_eq_true rfl) dX3_chord_131 (fun r131_2 H hP hD hS => ?_)
                    have hP : va_P D vwCl [(b 0, .inr (3, [.int 0, .ref (b 1), .int (nI (un u)), .ref (b 2), .ref (b 3), .ref (b 4), .ref (b 5), .ref (b 6)])), (b 1, .inl ((cy 0), 72, .inl (mh (uh u)))), (b 2, .inl ((cy 0), 36, .inl (mt (ul u) (uz u) (ut u)))), (b 3, .inl ((cy 0), 12, .inl (uw u))), (b 4, .inl ((cy 0), 12, .inl (ud u))), (b 5, .inl ((cy 0), 2, .inl (mb (uh u)))), (b 6, .inl ((cy 0), 12, .inl pz)), (r131_2, .inl ((cy 0), 6, .inl (fun _ => 0)))] H := hP
                    have hD : va_D A [(b 0, .inr (3, [.int 0, .ref (b 1), .int (nI (un u)), .ref (b 2), .ref (b 3), .ref (b 4), .ref (b 5), .ref (b 6)])), (b 1, .inl ((cy 0), 72, .inl (mh (uh u)))), (b 2, .inl ((cy 0), 36, .inl (mt (ul u) (uz u) (ut u)))), (b 3, .inl ((cy 0), 12, .inl (uw u))), (b 4, .inl ((cy 0), 12, .inl (ud u))), (b 5, .inl ((cy 0), 2, .inl (mb (uh u)))), (b 6, .inl ((cy 0), 12, .inl pz)), (r131_2, .inl ((cy 0), 6, .inl (fun _ => 0)))] := hD
                    refine W.widen (k := 1) (n := 6) (Nat.le_of_ble_eq_true rfl) (Nat.le_of_ble_eq_true rfl) ?_
                    refine lv_dup hx hb dX3_chord_133 rfl ?_
                    refine lv_iconst (v := 0) hx hb dX3_chord_134 (by decide) ?_
                    refine lv_iload_n hx hb dX3_chord_135 rfl (lv_at hl 2 rfl) ?_
                    refine pc_iast hx hb hK hP hD hS 7 0 rfl rfl (k := 0) (show 0 < 6 by omega) (by decide) dX3_chord_136 (fun H locs hP hD hS => ?_)
                    have hP : va_P D vwCl [(b 0, .inr (3, [.int 0, .ref (b 1), .int (nI (un u)), .ref (b 2), .ref (b 3), .ref (b 4), .ref (b 5), .ref (b 6)])), (b 1, .inl ((cy 0), 72, .inl (mh (uh u)))), (b 2, .inl ((cy 0), 36, .inl (mt (ul u) (uz u) (ut u)))), (b 3, .inl ((cy 0), 12, .inl (uw u))), (b 4, .inl ((cy 0), 12, .inl (ud u))), (b 5, .inl ((cy 0), 2, .inl (mb (uh u)))), (b 6, .inl ((cy 0), 12, .inl pz)), (r131_2, .inl ((cy 0), 6, .inl (upd (fun _ => 0) 0 (nI j))))] H := hP
                    have hD : va_D A [(b 0, .inr (3, [.int 0, .ref (b 1), .int (nI (un u)), .ref (b 2), .ref (b 3), .ref (b 4), .ref (b 5), .ref (b 6)])), (b 1, .inl ((cy 0), 72, .inl (mh (uh u)))), (b 2, .inl ((cy 0), 36, .inl (mt (ul u) (uz u) (ut u)))), (b 3, .inl ((cy 0), 12, .inl (uw u))), (b 4, .inl ((cy 0), 12, .inl (ud u))), (b 5, .inl ((cy 0), 2, .inl (mb (uh u)))), (b 6, .inl ((cy 0), 12, .inl pz)), (r131_2, .inl ((cy 0), 6, .inl (upd (fun _ => 0) 0 (nI j))))] := hD
                    refine lv_dup hx hb dX3_chord_137 rfl ?_
                    refine lv_iconst (v := 1) hx hb dX3_chord_138 (by decide) ?_
                    refine lv_iload hx hb dX3_chord_139 (lv_at hl 0 rfl) ?_
                    refine pc_iast hx hb hK hP hD hS 7 0 rfl rfl (k := 1) (show 1 < 6 by omega) (by decide) dX3_chord_141 (fun H locs hP hD hS => ?_)
                    have hP : va_P D vwCl [(b 0, .inr (3, [.int 0, .ref (b 1), .int (nI (un u)), .ref (b 2), .ref (b 3), .ref (b 4), .ref (b 5), .ref (b 6)])), (b 1, .inl ((cy 0), 72, .inl (mh (uh u)))), (b 2, .inl ((cy 0), 36, .inl (mt (ul u) (uz u) (ut u)))), (b 3, .inl ((cy 0), 12, .inl (uw u))), (b 4, .inl ((cy 0), 12, .inl (ud u))), (b 5, .inl ((cy 0), 2, .inl (mb (uh u)))), (b 6, .inl ((cy 0), 12, .inl pz)), (r131_2, .inl ((cy 0), 6, .inl (upd (upd (fun _ => 0) 0 (nI j)) 1 3)))] H := hP
                    have hD : va_D A [(b 0, .inr (3, [.int 0, .ref (b 1), .int (nI (un u)), .ref (b 2), .ref (b 3), .ref (b 4), .ref (b 5), .ref (b 6)])), (b 1, .inl ((cy 0), 72, .inl (mh (uh u)))), (b 2, .inl ((cy 0), 36, .inl (mt (ul u) (uz u) (ut u)))), (b 3, .inl ((cy 0), 12, .inl (uw u))), (b 4, .inl ((cy 0), 12, .inl (ud u))), (b 5, .inl ((cy 0), 2, .inl (mb (uh u)))), (b 6, .inl ((cy 0), 12, .inl pz)), (r131_2, .inl ((cy 0), 6, .inl (upd (upd (fun _ => 0) 0 (nI j)) 1 3)))] := hD
                    refine lv_dup hx hb dX3_chord_142 rfl ?_
                    refine lv_iconst (v := 2) hx hb dX3_chord_143 (by decide) ?_
                    refine lv_iload_n hx hb dX3_chord_144 rfl (lv_at hl 3 rfl) ?_
                    refine pc_iast hx hb hK hP hD hS 7 0 rfl rfl (k := 2) (show 2 < 6 by omega) (by decide) dX3_chord_145 (fun H locs hP hD hS => ?_)
                    have hP : va_P D vwCl [(b 0, .inr (3, [.int 0, .ref (b 1), .int (nI (un u)), .ref (b 2), .ref (b 3), .ref (b 4), .ref (b 5), .ref (b 6)])), (b 1, .inl ((cy 0), 72, .inl (mh (uh u)))), (b 2, .inl ((cy 0), 36, .inl (mt (ul u) (uz u) (ut u)))), (b 3, .inl ((cy 0), 12, .inl (uw u))), (b 4, .inl ((cy 0), 12, .inl (ud u))), (b 5, .inl ((cy 0), 2, .inl (mb (uh u)))), (b 6, .inl ((cy 0), 12, .inl pz)), (r131_2, .inl ((cy 0), 6, .inl (upd (upd (upd (fun _ => 0) 0 (nI j)) 1 3) 2 v0)))] H := hP
                    have hD : va_D A [(b 0, .inr (3, [.int 0, .ref (b 1), .int (nI (un u)), .ref (b 2), .ref (b 3), .ref (b 4), .ref (b 5), .ref (b 6)])), (b 1, .inl ((cy 0), 72, .inl (mh (uh u)))), (b 2, .inl ((cy 0), 36, .inl (mt (ul u) (uz u) (ut u)))), (b 3, .inl ((cy 0), 12, .inl (uw u))), (b 4, .inl ((cy 0), 12, .inl (ud u))), (b 5, .inl ((cy 0), 2, .inl (mb (uh u)))), (b 6, .inl ((cy 0), 12, .inl pz)), (r131_2, .inl ((cy 0), 6, .inl (upd (upd (upd (fun _ => 0) 0 (nI j)) 1 3) 2 v0)))] := hD
                    refine lv_dup hx hb dX3_chord_146 rfl ?_
                    refine lv_iconst (v := 3) hx hb dX3_chord_147 (by decide) ?_
                    refine lv_iload_n hx hb dX3_chord_148 rfl (lv_at hl 4 rfl) ?_
                    refine pc_iast hx hb hK hP hD hS 7 0 rfl rfl (k := 3) (show 3 < 6 by omega) (by decide) dX3_chord_149 (fun H locs hP hD hS => ?_)
                    have hP : va_P D vwCl [(b 0, .inr (3, [.int 0, .ref (b 1), .int (nI (un u)), .ref (b 2), .ref (b 3), .ref (b 4), .ref (b 5), .ref (b 6)])), (b 1, .inl ((cy 0), 72, .inl (mh (uh u)))), (b 2, .inl ((cy 0), 36, .inl (mt (ul u) (uz u) (ut u)))), (b 3, .inl ((cy 0), 12, .inl (uw u))), (b 4, .inl ((cy 0), 12, .inl (ud u))), (b 5, .inl ((cy 0), 2, .inl (mb (uh u)))), (b 6, .inl ((cy 0), 12, .inl pz)), (r131_2, .inl ((cy 0), 6, .inl (upd (upd (upd (upd (fun _ => 0) 0 (nI j)) 1 3) 2 v0) 3 v1)))] H := hP
                    have hD : va_D A [(b 0, .inr (3, [.int 0, .ref (b 1), .int (nI (un u)), .ref (b 2), .ref (b 3), .ref (b 4), .ref (b 5), .ref (b 6)])), (b 1, .inl ((cy 0), 72, .inl (mh (uh u)))), (b 2, .inl ((cy 0), 36, .inl (mt (ul u) (uz u) (ut u)))), (b 3, .inl ((cy 0), 12, .inl (uw u))), (b 4, .inl ((cy 0), 12, .inl (ud u))), (b 5, .inl ((cy 0), 2, .inl (mb (uh u)))), (b 6, .inl ((cy 0), 12, .inl pz)), (r131_2, .inl ((cy 0), 6, .inl (upd (upd (upd (upd (fun _ => 0) 0 (nI j)) 1 3) 2 v0) 3 v1)))] := hD
                    refine lv_dup hx hb dX3_chord_150 rfl ?_
                    refine lv_iconst (v := 4) hx hb dX3_chord_151 (by decide) ?_
                    refine lv_iload hx hb dX3_chord_152 (lv_at hl 5 rfl) ?_
                    refine pc_iast hx hb hK hP hD hS 7 0 rfl rfl (k := 4) (show 4 < 6 by omega) (by decide) dX3_chord_154 (fun H locs hP hD hS => ?_)
                    have hP : va_P D vwCl [(b 0, .inr (3, [.int 0, .ref (b 1), .int (nI (un u)), .ref (b 2), .ref (b 3), .ref (b 4), .ref (b 5), .ref (b 6)])), (b 1, .inl ((cy 0), 72, .inl (mh (uh u)))), (b 2, .inl ((cy 0), 36, .inl (mt (ul u) (uz u) (ut u)))), (b 3, .inl ((cy 0), 12, .inl (uw u))), (b 4, .inl ((cy 0), 12, .inl (ud u))), (b 5, .inl ((cy 0), 2, .inl (mb (uh u)))), (b 6, .inl ((cy 0), 12, .inl pz)), (r131_2, .inl ((cy 0), 6, .inl (upd (upd (upd (upd (upd (fun _ => 0) 0 (nI j)) 1 3) 2 v0) 3 v1) 4 v2)))] H := hP
                    have hD : va_D A [(b 0, .inr (3, [.int 0, .ref (b 1), .int (nI (un u)), .ref (b 2), .ref (b 3), .ref (b 4), .ref (b 5), .ref (b 6)])), (b 1, .inl ((cy 0), 72, .inl (mh (uh u)))), (b 2, .inl ((cy 0), 36, .inl (mt (ul u) (uz u) (ut u)))), (b 3, .inl ((cy 0), 12, .inl (uw u))), (b 4, .inl ((cy 0), 12, .inl (ud u))), (b 5, .inl ((cy 0), 2, .inl (mb (uh u)))), (b 6, .inl ((cy 0), 12, .inl pz)), (r131_2, .inl ((cy 0), 6, .inl (upd (upd (upd (upd (upd (fun _ => 0) 0 (nI j)) 1 3) 2 v0) 3 v1) 4 v2)))] := hD
                    refine lv_dup hx hb dX3_chord_155 rfl ?_
                    refine lv_iconst (v := 5) hx hb dX3_chord_156 (by decide) ?_
                    refine lv_iload hx hb dX3_chord_157 (lv_at hl 6 rfl) ?_
                    refine pc_iast hx hb hK hP hD hS 7 0 rfl rfl (k := 5) (show 5 < 6 by omega) (by decide) dX3_chord_159 (fun H locs hP hD hS => ?_)
                    have hP : va_P D vwCl [(b 0, .inr (3, [.int 0, .ref (b 1), .int (nI (un u)), .ref (b 2), .ref (b 3), .ref (b 4), .ref (b 5), .ref (b 6)])), (b 1, .inl ((cy 0), 72, .inl (mh (uh u)))), (b 2, .inl ((cy 0), 36, .inl (mt (ul u) (uz u) (ut u)))), (b 3, .inl ((cy 0), 12, .inl (uw u))), (b 4, .inl ((cy 0), 12, .inl (ud u))), (b 5, .inl ((cy 0), 2, .inl (mb (uh u)))), (b 6, .inl ((cy 0), 12, .inl pz)), (r131_2, .inl ((cy 0), 6, .inl (upd (upd (upd (upd (upd (upd (fun _ => 0) 0 (nI j)) 1 3) 2 v0) 3 v1) 4 v2) 5 v3)))] H := hP
                    have hD : va_D A [(b 0, .inr (3, [.int 0, .ref (b 1), .int (nI (un u)), .ref (b 2), .ref (b 3), .ref (b 4), .ref (b 5), .ref (b 6)])), (b 1, .inl ((cy 0), 72, .inl (mh (uh u)))), (b 2, .inl ((cy 0), 36, .inl (mt (ul u) (uz u) (ut u)))), (b 3, .inl ((cy 0), 12, .inl (uw u))), (b 4, .inl ((cy 0), 12, .inl (ud u))), (b 5, .inl ((cy 0), 2, .inl (mb (uh u)))), (b 6, .inl ((cy 0), 12, .inl pz)), (r131_2, .inl ((cy 0), 6, .inl (upd (upd (upd (upd (upd (upd (fun _ => 0) 0 (nI j)) 1 3) 2 v0) 3 v1) 4 v2) 5 v3)))] := hD
                    refine lv_astore (lv' := [(7, .ref r131_2), (6, .int 3), (0, .ref (b 0)), (1, .int (nI j)), (2, .int v0), (3, .int v1), (4, .int v2), (5, .int v3)]) hx hb dX3_chord_160 hl (by decide) rfl (fun ls hl => ?_)
                    refine lv_aload hx hb dX3_chord_162 (lv_at hl 0 rfl) ?_
                    refine lv_iconst (v := 0) hx hb dX3_chord_164 (by decide) ?_
                    refine lv_aload_n hx hb dX3_chord_165 rfl (lv_at hl 2 rfl) ?_
                    refine va_get (D := D) (ci := 3) (v := .ref (b 2)) (C := RX3) (T := TX3) (N := 8) hx hb hts inX3_chord_RX3 hown hK hP 0 rfl rfl 3 (by decide) (hts _ kX3_chord_3) (fun _ h9 => h9) rfl dX3_chord_166 ?_
                    refine lv_bipush (v := 6) hx hb dX3_chord_169 (by decide) ?_
                    refine lv_aload_n hx hb dX3_chord_171 rfl (lv_at hl 2 rfl) ?_
                    refine va_get (D := D) (ci := 3) (v := .int (nI (un u))) (C := RX3) (T := TX3) (N := 8) hx hb hts inX3_chord_RX3 hown hK hP 0 rfl rfl 2 (by decide) (hts _ kX3_chord_1) (fun _ h9 => h9) rfl dX3_chord_172 ?_
                    refine lv_imul hx hb dX3_chord_175 ?_
                    refine pc_top (show 6 * (nI (un u)) = nI (6 * (un u)) from pk_mul 6 (un u)) ?_
                    refine lv_bipush (v := 6) hx hb dX3_chord_176 (by decide) ?_
                    refine va_copyi hx hb (by rw [hml]; exact hl.1.symm) hown (hts _ kX3_chord_4) (hts _ kX3_chord_5) (hts _ kX3_chord_6) (hts _ kX3_chord_7) hK hP hD hS 7 2 0 0 rfl rfl rfl rfl rfl (by decide) (nI_pos (show 6 * un u < 2147483648 by omega)) (by decide) (by decide) (by rw [nI_clamp (show 6 * un u < 2147483648 by omega)]; show 6 * un u + 6 ≤ 36; omega) (fun _ _ => rfl) (Nat.le_of_ble_eq_true rfl) (Nat.le_of_ble_eq_true rfl) dX3_chord_178 (fun H locs hP hD hS => ?_)
                    have hP : va_P D vwCl [(b 0, .inr (3, [.int 0, .ref (b 1), .int (nI (un u)), .ref (b 2), .ref (b 3), .ref (b 4), .ref (b 5), .ref (b 6)])), (b 1, .inl ((cy 0), 72, .inl (mh (uh u)))), (b 2, .inl ((cy 0), 36, .inl (va_cpy (upd (upd (upd (upd (upd (upd (fun _ => 0) 0 (nI j)) 1 3) 2 v0) 3 v1) 4 v2) 5 v3) (mt (ul u) (uz u) (ut u)) ((0 : Int32)).toNatClampNeg ((nI (6 * un u) : Int32)).toNatClampNeg ((6 : Int32)).toNatClampNeg))), (b 3, .inl ((cy 0), 12, .inl (uw u))), (b 4, .inl ((cy 0), 12, .inl (ud u))), (b 5, .inl ((cy 0), 2, .inl (mb (uh u)))), (b 6, .inl ((cy 0), 12, .inl pz)), (r131_2, .inl ((cy 0), 6, .inl (upd (upd (upd (upd (upd (upd (fun _ => 0) 0 (nI j)) 1 3) 2 v0) 3 v1) 4 v2) 5 v3)))] H := hP
                    have hD : va_D A [(b 0, .inr (3, [.int 0, .ref (b 1), .int (nI (un u)), .ref (b 2), .ref (b 3), .ref (b 4), .ref (b 5), .ref (b 6)])), (b 1, .inl ((cy 0), 72, .inl (mh (uh u)))), (b 2, .inl ((cy 0), 36, .inl (va_cpy (upd (upd (upd (upd (upd (upd (fun _ => 0) 0 (nI j)) 1 3) 2 v0) 3 v1) 4 v2) 5 v3) (mt (ul u) (uz u) (ut u)) ((0 : Int32)).toNatClampNeg ((nI (6 * un u) : Int32)).toNatClampNeg ((6 : Int32)).toNatClampNeg))), (b 3, .inl ((cy 0), 12, .inl (uw u))), (b 4, .inl ((cy 0), 12, .inl (ud u))), (b 5, .inl ((cy 0), 2, .inl (mb (uh u)))), (b 6, .inl ((cy 0), 12, .inl pz)), (r131_2, .inl ((cy 0), 6, .inl (upd (upd (upd (upd (upd (upd (fun _ => 0) 0 (nI j)) 1 3) 2 v0) 3 v1) 4 v2) 5 v3)))] := hD
                    have e9 : ∀ k, (va_cpy (upd (upd (upd (upd (upd (upd (fun _ => 0) 0 (nI j)) 1 3) 2 v0) 3 v1) 4 v2) 5 v3) (mt (ul u) (uz u) (ut u)) ((0 : Int32)).toNatClampNeg ((nI (6 * un u) : Int32)).toNatClampNeg ((6 : Int32)).toNatClampNeg) k = mt (ul (uCh u j 3 v0 v1 v2 v3)) (uz (uCh u j 3 v0 v1 v2 v3)) (ut (uCh u j 3 v0 v1 v2 v3)) k := fun k => by rw [nI_clamp (show 6 * un u < 2147483648 by omega)]; exact mt_cpy u j 3 v0 v1 v2 v3 k
                    have hP := va_P_row hP 2 rfl (fun k _ => e9 k)
                    have hD := va_D_addr (ws' := [(b 0, .inr (3, [.int 0, .ref (b 1), .int (nI (un u)), .ref (b 2), .ref (b 3), .ref (b 4), .ref (b 5), .ref (b 6)])), (b 1, .inl ((cy 0), 72, .inl (mh (uh u)))), (b 2, .inl ((cy 0), 36, .inl (mt (ul (uCh u j 3 v0 v1 v2 v3)) (uz (uCh u j 3 v0 v1 v2 v3)) (ut (uCh u j 3 v0 v1 v2 v3))))), (b 3, .inl ((cy 0), 12, .inl (uw u))), (b 4, .inl ((cy 0), 12, .inl (ud u))), (b 5, .inl ((cy 0), 2, .inl (mb (uh u)))), (b 6, .inl ((cy 0), 12, .inl pz)), (r131_2, .inl ((cy 0), 6, .inl (upd (upd (upd (upd (upd (upd (fun _ => 0) 0 (nI j)) 1 3) 2 v0) 3 v1) 4 v2) 5 v3)))]) hD rfl
                    have hP : va_P D vwCl [(b 0, .inr (3, [.int 0, .ref (b 1), .int (nI (un u)), .ref (b 2), .ref (b 3), .ref (b 4), .ref (b 5), .ref (b 6)])), (b 1, .inl ((cy 0), 72, .inl (mh (uh u)))), (b 2, .inl ((cy 0), 36, .inl (mt (ul (uCh u j 3 v0 v1 v2 v3)) (uz (uCh u j 3 v0 v1 v2 v3)) (ut (uCh u j 3 v0 v1 v2 v3))))), (b 3, .inl ((cy 0), 12, .inl (uw u))), (b 4, .inl ((cy 0), 12, .inl (ud u))), (b 5, .inl ((cy 0), 2, .inl (mb (uh u)))), (b 6, .inl ((cy 0), 12, .inl pz)), (r131_2, .inl ((cy 0), 6, .inl (upd (upd (upd (upd (upd (upd (fun _ => 0) 0 (nI j)) 1 3) 2 v0) 3 v1) 4 v2) 5 v3)))] H := hP
                    have hD : va_D A [(b 0, .inr (3, [.int 0, .ref (b 1), .int (nI (un u)), .ref (b 2), .ref (b 3), .ref (b 4), .ref (b 5), .ref (b 6)])), (b 1, .inl ((cy 0), 72, .inl (mh (uh u)))), (b 2, .inl ((cy 0), 36, .inl (mt (ul (uCh u j 3 v0 v1 v2 v3)) (uz (uCh u j 3 v0 v1 v2 v3)) (ut (uCh u j 3 v0 v1 v2 v3))))), (b 3, .inl ((cy 0), 12, .inl (uw u))), (b 4, .inl ((cy 0), 12, .inl (ud u))), (b 5, .inl ((cy 0), 2, .inl (mb (uh u)))), (b 6, .inl ((cy 0), 12, .inl pz)), (r131_2, .inl ((cy 0), 6, .inl (upd (upd (upd (upd (upd (upd (fun _ => 0) 0 (nI j)) 1 3) 2 v0) 3 v1) 4 v2) 5 v3)))] := hD
                    clear e9
                    refine lv_aload_n hx hb dX3_chord_181 rfl (lv_at hl 2 rfl) ?_
                    refine lv_dup hx hb dX3_chord_182 rfl ?_
                    refine va_get (D := D) (ci := 3) (v := .int (nI (un u))) (C := RX3) (T := TX3) (N := 8) hx hb hts inX3_chord_RX3 hown hK hP 0 rfl rfl 2 (by decide) (hts _ kX3_chord_1) (fun _ h9 => h9) rfl dX3_chord_183 ?_
                    refine lv_iconst (v := 1) hx hb dX3_chord_186 (by decide) ?_
                    refine lv_iadd hx hb dX3_chord_187 ?_
                    refine pc_top (show (nI (un u)) + 1 = nI (un u + 1) from nI_add (un u) 1) ?_
                    refine va_put (D := D) (ci := 3) (v := .int (nI (un u + 1))) (ty := .int) (C := RX3) (T := TX3) (N := 8) hx hb hts inX3_chord_RX3 tyX3 tyX3_ok nmX3 hown hK hP hD hS 0 rfl rfl 2 (by decide) (hts _ kX3_chord_1) (fun _ h9 => h9) rfl (by decide +kernel) rfl rfl (Nat.le_of_ble_eq_true rfl) dX3_chord_188 (fun H locs hP hD hS => ?_)
                    have hP : va_P D vwCl [(b 0, .inr (3, [.int 0, .ref (b 1), .int (nI (un u + 1)), .ref (b 2), .ref (b 3), .ref (b 4), .ref (b 5), .ref (b 6)])), (b 1, .inl ((cy 0), 72, .inl (mh (uh u)))), (b 2, .inl ((cy 0), 36, .inl (mt (ul (uCh u j 3 v0 v1 v2 v3)) (uz (uCh u j 3 v0 v1 v2 v3)) (ut (uCh u j 3 v0 v1 v2 v3))))), (b 3, .inl ((cy 0), 12, .inl (uw u))), (b 4, .inl ((cy 0), 12, .inl (ud u))), (b 5, .inl ((cy 0), 2, .inl (mb (uh u)))), (b 6, .inl ((cy 0), 12, .inl pz)), (r131_2, .inl ((cy 0), 6, .inl (upd (upd (upd (upd (upd (upd (fun _ => 0) 0 (nI j)) 1 3) 2 v0) 3 v1) 4 v2) 5 v3)))] H := hP
                    have hD : va_D A [(b 0, .inr (3, [.int 0, .ref (b 1), .int (nI (un u + 1)), .ref (b 2), .ref (b 3), .ref (b 4), .ref (b 5), .ref (b 6)])), (b 1, .inl ((cy 0), 72, .inl (mh (uh u)))), (b 2, .inl ((cy 0), 36, .inl (mt (ul (uCh u j 3 v0 v1 v2 v3)) (uz (uCh u j 3 v0 v1 v2 v3)) (ut (uCh u j 3 v0 v1 v2 v3))))), (b 3, .inl ((cy 0), 12, .inl (uw u))), (b 4, .inl ((cy 0), 12, .inl (ud u))), (b 5, .inl ((cy 0), 2, .inl (mb (uh u)))), (b 6, .inl ((cy 0), 12, .inl pz)), (r131_2, .inl ((cy 0), 6, .inl (upd (upd (upd (upd (upd (upd (fun _ => 0) 0 (nI j)) 1 3) 2 v0) 3 v1) 4 v2) 5 v3)))] := hD
                    refine lv_aload_n hx hb dX3_chord_191 rfl (lv_at hl 2 rfl) ?_
                    refine va_get (D := D) (ci := 3) (v := .int (nI (un u + 1))) (C := RX3) (T := TX3) (N := 8) hx hb hts inX3_chord_RX3 hown hK hP 0 rfl rfl 2 (by decide) (hts _ kX3_chord_1) (fun _ h9 => h9) rfl dX3_chord_192 ?_
                    refine lv_iconst (v := 1) hx hb dX3_chord_195 (by decide) ?_
                    refine lv_isub hx hb dX3_chord_196 ?_
                    refine pc_top (show (nI (un u + 1)) - 1 = nI ((un u + 1) - 1) from pk_sub (a := un u + 1) (b := 1) (by omega)) ?_
                    have hex9 : exCh u (nI j) v0 v1 v2 v3 = 0 := by simp [exCh, bI_1.mp c9, bI_1.mp c51, bI_1.mp c62, bI_1.mp c74, bI_1.mp c86, hv9, hS9, ej, Nat.not_lt.mpr n105, show ¬ 6 ≤ un u by omega]
                    have hP9 : va_P D vwCl (wM cy b (uCh u (ix (nI j)) (chSz v2 v3) v0 v1 v2 v3) (nI (exCh u (nI j) v0 v1 v2 v3)) pz) H := (by rw [hex9, ej, hS9]; exact hP.sub [0, 1, 2, 3, 4, 5, 6] rfl)
                    have hD9 : va_D A (wM cy b (uCh u (ix (nI j)) (chSz v2 v3) v0 v1 v2 v3) (nI (exCh u (nI j) v0 v1 v2 v3)) pz) := (by rw [hex9, ej, hS9]; exact hD.sub [0, 1, 2, 3, 4, 5, 6] (by decide) rfl)
                    exact W.iret (v := nI ((un u + 1) - 1)) hx hb hr (fun t ht hW => ⟨⟨nI ((un u + 1) - 1), (uCh u (ix (nI j)) (chSz v2 v3) v0 v1 v2 v3), rfl, ⟨fun _ => ⟨rfl, rfl⟩, fun z => absurd hex9 z⟩, by rw [ht]; exact hP9, hD9⟩, hS.F ht⟩) hS.2.2 dX3_chord_197
                  · have n120 : un u = 6 := (nI_eq (a := un u) (b := 6) (by omega) (by omega)).mp c120
                    refine lv_aload_n hx hb dX3_chord_123 rfl (lv_at hl 1 rfl) ?_
                    refine lv_iconst (v := 3) hx hb dX3_chord_124 (by decide) ?_
                    have hPc := hP.sub (ws' := wM cy b u 0 pz) [0, 1, 2, 3, 4, 5, 6] rfl
                    have hDc := hD.sub (ws' := wM cy b u 0 pz) [0, 1, 2, 3, 4, 5, 6] (by decide) rfl
                    have hFc := va_free (wc := wM cy b u 0 pz) hD hS hA [0, 1, 2, 3, 4, 5, 6] rfl
                    refine va_calli (va_runV (As := [.int 3]) (rest := []) ⟨hx, hb, hml, hown, hts⟩ (mX3_fail l D cy H.size b u 0 pz 3) (cwV 1 hts gX3_chord_X3_fail rfl rfl rfl (by decide +kernel) ⟨Nat.le_of_ble_eq_true rfl, Nat.le_of_ble_eq_true rfl⟩) ⟨fun a U g mk q => ⟨q.1, q.2.1, q.2.2.1, va_K.moved (u := U) (U := U.calling g mk a) (Vm.Alike.refl U.vm) q.2.2.2.1, q.2.2.2.2⟩, va_recv hK hPc (ci := 3) (q0 := 0) rfl rfl, fun U hU hW => ⟨rfl, by rw [hU], by rw [hU]; exact hPc, va_K.moved hW.alike hK, hDc.weaken (fun _ _ _ _ => trivial)⟩⟩ rfl rfl hl.1 rfl (lv_room (Nat.le_of_ble_eq_true rfl)) dX3_chord_125 ⟨Nat.le_of_ble_eq_true rfl, Nat.le_of_ble_eq_true rfl⟩) hS (fun q _ h => hFc q h) hFc (fun r9 u9 t9 H1 locs ht9 hvm9 hw9 hB9 hz9 hk9 hS => ?_)
                    obtain ⟨hP1, hD1⟩ := hB9
                    rw [ht9] at hP1
                    obtain ⟨hP, hD⟩ := va_join (wr := []) (w1 := wM cy b u 3 pz) hP hD [0, 1, 2, 3, 4, 5, 6] [] rfl rfl (by decide) (by decide) hk9 hFc hP1 hD1
                    generalize H1 = H at hP hS ⊢
                    have hP : va_P D vwCl (wM cy b u 3 pz) H := hP.sub [0, 1, 2, 3, 4, 5, 6] rfl
                    have hD : va_D A (wM cy b u 3 pz) := hD.sub [0, 1, 2, 3, 4, 5, 6] (by decide) rfl
                    clear hP1 hD1 hk9 hz9 ht9 hvm9 hPc hDc hFc
                    subst hw9
                    have hex9 : exCh u (nI j) v0 v1 v2 v3 = 3 := by simp [exCh, bI_1.mp c9, bI_1.mp c51, bI_1.mp c62, bI_1.mp c74, bI_1.mp c86, hv9, hS9, ej, Nat.not_lt.mpr n105, show 6 ≤ un u by omega]
                    have hP9 : va_P D vwCl (wM cy b u (nI (exCh u (nI j) v0 v1 v2 v3)) pz) H := (by rw [hex9]; exact hP)
                    have hD9 : va_D A (wM cy b u (nI (exCh u (nI j) v0 v1 v2 v3)) pz) := (by rw [hex9]; exact hD)
                    refine W.widen (k := 1) (n := 6) (Nat.le_of_ble_eq_true rfl) (Nat.le_of_ble_eq_true rfl) ?_
                    exact W.iret (v := 0) hx hb hr (fun t ht hW => ⟨⟨0, u, rfl, ⟨fun z => absurd (hex9.symm.trans z) (by decide), fun _ => rfl⟩, by rw [ht]; exact hP9, hD9⟩, hS.F ht⟩) hS.2.2 dX3_chord_128
                · have n105 : ¬ (j + 3 ≤ 12) := fun h9 => c105 ((nI_leI (a := j + 3) (b := 12) (by omega) (by omega)).mpr h9)
                  refine lv_aload_n hx hb dX3_chord_108 rfl (lv_at hl 1 rfl) ?_
                  refine lv_iconst (v := 2) hx hb dX3_chord_109 (by decide) ?_
                  have hPc := hP.sub (ws' := wM cy b u 0 pz) [0, 1, 2, 3, 4, 5, 6] rfl
                  have hDc := hD.sub (ws' := wM cy b u 0 pz) [0, 1, 2, 3, 4, 5, 6] (by decide) rfl
                  have hFc := va_free (wc := wM cy b u 0 pz) hD hS hA [0, 1, 2, 3, 4, 5, 6] rfl
                  refine va_calli (va_runV (As := [.int 2]) (rest := []) ⟨hx, hb, hml, hown, hts⟩ (mX3_fail l D cy H.size b u 0 pz 2) (cwV 1 hts gX3_chord_X3_fail rfl rfl rfl (by decide +kernel) ⟨Nat.le_of_ble_eq_true rfl, Nat.le_of_ble_eq_true rfl⟩) ⟨fun a U g mk q => ⟨q.1, q.2.1, q.2.2.1, va_K.moved (u := U) (U := U.calling g mk a) (Vm.Alike.refl U.vm) q.2.2.2.1, q.2.2.2.2⟩, va_recv hK hPc (ci := 3) (q0 := 0) rfl rfl, fun U hU hW => ⟨rfl, by rw [hU], by rw [hU]; exact hPc, va_K.moved hW.alike hK, hDc.weaken (fun _ _ _ _ => trivial)⟩⟩ rfl rfl hl.1 rfl (lv_room (Nat.le_of_ble_eq_true rfl)) dX3_chord_110 ⟨Nat.le_of_ble_eq_true rfl, Nat.le_of_ble_eq_true rfl⟩) hS (fun q _ h => hFc q h) hFc (fun r9 u9 t9 H1 locs ht9 hvm9 hw9 hB9 hz9 hk9 hS => ?_)
                  obtain ⟨hP1, hD1⟩ := hB9
                  rw [ht9] at hP1
                  obtain ⟨hP, hD⟩ := va_join (wr := []) (w1 := wM cy b u 2 pz) hP hD [0, 1, 2, 3, 4, 5, 6] [] rfl rfl (by decide) (by decide) hk9 hFc hP1 hD1
                  generalize H1 = H at hP hS ⊢
                  have hP : va_P D vwCl (wM cy b u 2 pz) H := hP.sub [0, 1, 2, 3, 4, 5, 6] rfl
                  have hD : va_D A (wM cy b u 2 pz) := hD.sub [0, 1, 2, 3, 4, 5, 6] (by decide) rfl
                  clear hP1 hD1 hk9 hz9 ht9 hvm9 hPc hDc hFc
                  subst hw9
                  have hex9 : exCh u (nI j) v0 v1 v2 v3 = 2 := by simp [exCh, bI_1.mp c9, bI_1.mp c51, bI_1.mp c62, bI_1.mp c74, bI_1.mp c86, hv9, hS9, ej, Nat.not_le.mp n105]
                  have hP9 : va_P D vwCl (wM cy b u (nI (exCh u (nI j) v0 v1 v2 v3)) pz) H := (by rw [hex9]; exact hP)
                  have hD9 : va_D A (wM cy b u (nI (exCh u (nI j) v0 v1 v2 v3)) pz) := (by rw [hex9]; exact hD)
                  refine W.widen (k := 1) (n := 6) (Nat.le_of_ble_eq_true rfl) (Nat.le_of_ble_eq_true rfl) ?_
                  exact W.iret (v := 0) hx hb hr (fun t ht hW => ⟨⟨0, u, rfl, ⟨fun z => absurd (hex9.symm.trans z) (by decide), fun _ => rfl⟩, by rw [ht]; exact hP9, hD9⟩, hS.F ht⟩) hS.2.2 dX3_chord_113
      · refine lv_iconst (v := 1) hx hb dX3_chord_35 (by decide) ?_
        refine lv_goto (tgt := 40) hx hb dX3_chord_36 (by decide) ?_
        refine lv_iadd hx hb dX3_chord_40 ?_
        refine pc_top (show (2 + 1) + 1 = 4 from rfl) ?_
        refine lv_istore (lv' := [(6, .int 4), (0, .ref (b 0)), (1, .int (nI j)), (2, .int v0), (3, .int v1), (4, .int v2), (5, .int v3)]) hx hb dX3_chord_41 hl (by decide) rfl (fun ls hl => ?_)
        refine lv_iload_n hx hb dX3_chord_43 rfl (lv_at hl 3 rfl) ?_
        refine lv_iconst (v := 1) hx hb dX3_chord_44 (by decide) ?_
        refine lv_sipush (v := 1500) hx hb dX3_chord_45 (by decide) ?_
        refine pc_calli (va_runS (As := [.int v0, .int 1, .int 1500]) (rest := []) ⟨hx, hb, hml, hown, hts⟩ (mX3_isIn l D cy v0 1 1500) (va_cwS 3 hts gX3_chord_X3_isIn rfl rfl rfl (by decide +kernel) ⟨Nat.le_of_ble_eq_true rfl, Nat.le_of_ble_eq_true rfl⟩) ⟨fun a U g mk q => q, fun U hU hW => ⟨rfl, trivial⟩⟩ rfl rfl hl.1 rfl (lv_room (Nat.le_of_ble_eq_true rfl)) dX3_chord_48 ⟨Nat.le_of_ble_eq_true rfl, Nat.le_of_ble_eq_true rfl⟩) (fun r9 hr9 => ?_)
        subst hr9
        refine pc_top (show bI (isIn v0 1 1500) = bI (isT v0 1) from (by rw [isIn_T])) ?_
        refine lv_if_eq (tgt := 108) hx hb dX3_chord_51 (by decide) (fun c51 => ?_) (fun c51 => ?_)
        · refine lv_aload_n hx hb dX3_chord_108 rfl (lv_at hl 1 rfl) ?_
          refine lv_iconst (v := 2) hx hb dX3_chord_109 (by decide) ?_
          have hPc := hP.sub (ws' := wM cy b u 0 pz) [0, 1, 2, 3, 4, 5, 6] rfl
          have hDc := hD.sub (ws' := wM cy b u 0 pz) [0, 1, 2, 3, 4, 5, 6] (by decide) rfl
          have hFc := va_free (wc := wM cy b u 0 pz) hD hS hA [0, 1, 2, 3, 4, 5, 6] rfl
          refine va_calli (va_runV (As := [.int 2]) (rest := []) ⟨hx, hb, hml, hown, hts⟩ (mX3_fail l D cy H.size b u 0 pz 2) (cwV 1 hts gX3_chord_X3_fail rfl rfl rfl (by decide +kernel) ⟨Nat.le_of_ble_eq_true rfl, Nat.le_of_ble_eq_true rfl⟩) ⟨fun a U g mk q => ⟨q.1, q.2.1, q.2.2.1, va_K.moved (u := U) (U := U.calling g mk a) (Vm.Alike.refl U.vm) q.2.2.2.1, q.2.2.2.2⟩, va_recv hK hPc (ci := 3) (q0 := 0) rfl rfl, fun U hU hW => ⟨rfl, by rw [hU], by rw [hU]; exact hPc, va_K.moved hW.alike hK, hDc.weaken (fun _ _ _ _ => trivial)⟩⟩ rfl rfl hl.1 rfl (lv_room (Nat.le_of_ble_eq_true rfl)) dX3_chord_110 ⟨Nat.le_of_ble_eq_true rfl, Nat.le_of_ble_eq_true rfl⟩) hS (fun q _ h => hFc q h) hFc (fun r9 u9 t9 H1 locs ht9 hvm9 hw9 hB9 hz9 hk9 hS => ?_)
          obtain ⟨hP1, hD1⟩ := hB9
          rw [ht9] at hP1
          obtain ⟨hP, hD⟩ := va_join (wr := []) (w1 := wM cy b u 2 pz) hP hD [0, 1, 2, 3, 4, 5, 6] [] rfl rfl (by decide) (by decide) hk9 hFc hP1 hD1
          generalize H1 = H at hP hS ⊢
          have hP : va_P D vwCl (wM cy b u 2 pz) H := hP.sub [0, 1, 2, 3, 4, 5, 6] rfl
          have hD : va_D A (wM cy b u 2 pz) := hD.sub [0, 1, 2, 3, 4, 5, 6] (by decide) rfl
          clear hP1 hD1 hk9 hz9 ht9 hvm9 hPc hDc hFc
          subst hw9
          have hex9 : exCh u (nI j) v0 v1 v2 v3 = 2 := by simp [exCh, bI_1.mp c9, bI_0.mp c51]
          have hP9 : va_P D vwCl (wM cy b u (nI (exCh u (nI j) v0 v1 v2 v3)) pz) H := (by rw [hex9]; exact hP)
          have hD9 : va_D A (wM cy b u (nI (exCh u (nI j) v0 v1 v2 v3)) pz) := (by rw [hex9]; exact hD)
          refine W.widen (k := 1) (n := 6) (Nat.le_of_ble_eq_true rfl) (Nat.le_of_ble_eq_true rfl) ?_
          exact W.iret (v := 0) hx hb hr (fun t ht hW => ⟨⟨0, u, rfl, ⟨fun z => absurd (hex9.symm.trans z) (by decide), fun _ => rfl⟩, by rw [ht]; exact hP9, hD9⟩, hS.F ht⟩) hS.2.2 dX3_chord_113
        · refine lv_iload_n hx hb dX3_chord_54 rfl (lv_at hl 4 rfl) ?_
          refine lv_iconst (v := 1) hx hb dX3_chord_55 (by decide) ?_
          refine lv_sipush (v := 1500) hx hb dX3_chord_56 (by decide) ?_
          refine pc_calli (va_runS (As := [.int v1, .int 1, .int 1500]) (rest := []) ⟨hx, hb, hml, hown, hts⟩ (mX3_isIn l D cy v1 1 1500) (va_cwS 3 hts gX3_chord_X3_isIn rfl rfl rfl (by decide +kernel) ⟨Nat.le_of_ble_eq_true rfl, Nat.le_of_ble_eq_true rfl⟩) ⟨fun a U g mk q => q, fun U hU hW => ⟨rfl, trivial⟩⟩ rfl rfl hl.1 rfl (lv_room (Nat.le_of_ble_eq_true rfl)) dX3_chord_59 ⟨Nat.le_of_ble_eq_true rfl, Nat.le_of_ble_eq_true rfl⟩) (fun r9 hr9 => ?_)
          subst hr9
          refine pc_top (show bI (isIn v1 1 1500) = bI (isT v1 1) from (by rw [isIn_T])) ?_
          refine lv_if_eq (tgt := 108) hx hb dX3_chord_62 (by decide) (fun c62 => ?_) (fun c62 => ?_)
          · refine lv_aload_n hx hb dX3_chord_108 rfl (lv_at hl 1 rfl) ?_
            refine lv_iconst (v := 2) hx hb dX3_chord_109 (by decide) ?_
            have hPc := hP.sub (ws' := wM cy b u 0 pz) [0, 1, 2, 3, 4, 5, 6] rfl
            have hDc := hD.sub (ws' := wM cy b u 0 pz) [0, 1, 2, 3, 4, 5, 6] (by decide) rfl
            have hFc := va_free (wc := wM cy b u 0 pz) hD hS hA [0, 1, 2, 3, 4, 5, 6] rfl
            refine va_calli (va_runV (As := [.int 2]) (rest := []) ⟨hx, hb, hml, hown, hts⟩ (mX3_fail l D cy H.size b u 0 pz 2) (cwV 1 hts gX3_chord_X3_fail rfl rfl rfl (by decide +kernel) ⟨Nat.le_of_ble_eq_true rfl, Nat.le_of_ble_eq_true rfl⟩) ⟨fun a U g mk q => ⟨q.1, q.2.1, q.2.2.1, va_K.moved (u := U) (U := U.calling g mk a) (Vm.Alike.refl U.vm) q.2.2.2.1, q.2.2.2.2⟩, va_recv hK hPc (ci := 3) (q0 := 0) rfl rfl, fun U hU hW => ⟨rfl, by rw [hU], by rw [hU]; exact hPc, va_K.moved hW.alike hK, hDc.weaken (fun _ _ _ _ => trivial)⟩⟩ rfl rfl hl.1 rfl (lv_room (Nat.le_of_ble_eq_true rfl)) dX3_chord_110 ⟨Nat.le_of_ble_eq_true rfl, Nat.le_of_ble_eq_true rfl⟩) hS (fun q _ h => hFc q h) hFc (fun r9 u9 t9 H1 locs ht9 hvm9 hw9 hB9 hz9 hk9 hS => ?_)
            obtain ⟨hP1, hD1⟩ := hB9
            rw [ht9] at hP1
            obtain ⟨hP, hD⟩ := va_join (wr := []) (w1 := wM cy b u 2 pz) hP hD [0, 1, 2, 3, 4, 5, 6] [] rfl rfl (by decide) (by decide) hk9 hFc hP1 hD1
            generalize H1 = H at hP hS ⊢
            have hP : va_P D vwCl (wM cy b u 2 pz) H := hP.sub [0, 1, 2, 3, 4, 5, 6] rfl
            have hD : va_D A (wM cy b u 2 pz) := hD.sub [0, 1, 2, 3, 4, 5, 6] (by decide) rfl
            clear hP1 hD1 hk9 hz9 ht9 hvm9 hPc hDc hFc
            subst hw9
            have hex9 : exCh u (nI j) v0 v1 v2 v3 = 2 := by simp [exCh, bI_1.mp c9, bI_1.mp c51, bI_0.mp c62]
            have hP9 : va_P D vwCl (wM cy b u (nI (exCh u (nI j) v0 v1 v2 v3)) pz) H := (by rw [hex9]; exact hP)
            have hD9 : va_D A (wM cy b u (nI (exCh u (nI j) v0 v1 v2 v3)) pz) := (by rw [hex9]; exact hD)
            refine W.widen (k := 1) (n := 6) (Nat.le_of_ble_eq_true rfl) (Nat.le_of_ble_eq_true rfl) ?_
            exact W.iret (v := 0) hx hb hr (fun t ht hW => ⟨⟨0, u, rfl, ⟨fun z => absurd (hex9.symm.trans z) (by decide), fun _ => rfl⟩, by rw [ht]; exact hP9, hD9⟩, hS.F ht⟩) hS.2.2 dX3_chord_113
          · refine lv_iload hx hb dX3_chord_65 (lv_at hl 5 rfl) ?_
            refine lv_iconst (v := 0) hx hb dX3_chord_67 (by decide) ?_
            refine lv_sipush (v := 1500) hx hb dX3_chord_68 (by decide) ?_
            refine pc_calli (va_runS (As := [.int v2, .int 0, .int 1500]) (rest := []) ⟨hx, hb, hml, hown, hts⟩ (mX3_isIn l D cy v2 0 1500) (va_cwS 3 hts gX3_chord_X3_isIn rfl rfl rfl (by decide +kernel) ⟨Nat.le_of_ble_eq_true rfl, Nat.le_of_ble_eq_true rfl⟩) ⟨fun a U g mk q => q, fun U hU hW => ⟨rfl, trivial⟩⟩ rfl rfl hl.1 rfl (lv_room (Nat.le_of_ble_eq_true rfl)) dX3_chord_71 ⟨Nat.le_of_ble_eq_true rfl, Nat.le_of_ble_eq_true rfl⟩) (fun r9 hr9 => ?_)
            subst hr9
            refine pc_top (show bI (isIn v2 0 1500) = bI (isT v2 0) from (by rw [isIn_T])) ?_
            refine lv_if_eq (tgt := 108) hx hb dX3_chord_74 (by decide) (fun c74 => ?_) (fun c74 => ?_)
            · refine lv_aload_n hx hb dX3_chord_108 rfl (lv_at hl 1 rfl) ?_
              refine lv_iconst (v := 2) hx hb dX3_chord_109 (by decide) ?_
              have hPc := hP.sub (ws' := wM cy b u 0 pz) [0, 1, 2, 3, 4, 5, 6] rfl
              have hDc := hD.sub (ws' := wM cy b u 0 pz) [0, 1, 2, 3, 4, 5, 6] (by decide) rfl
              have hFc := va_free (wc := wM cy b u 0 pz) hD hS hA [0, 1, 2, 3, 4, 5, 6] rfl
              refine va_calli (va_runV (As := [.int 2]) (rest := []) ⟨hx, hb, hml, hown, hts⟩ (mX3_fail l D cy H.size b u 0 pz 2) (cwV 1 hts gX3_chord_X3_fail rfl rfl rfl (by decide +kernel) ⟨Nat.le_of_ble_eq_true rfl, Nat.le_of_ble_eq_true rfl⟩) ⟨fun a U g mk q => ⟨q.1, q.2.1, q.2.2.1, va_K.moved (u := U) (U := U.calling g mk a) (Vm.Alike.refl U.vm) q.2.2.2.1, q.2.2.2.2⟩, va_recv hK hPc (ci := 3) (q0 := 0) rfl rfl, fun U hU hW => ⟨rfl, by rw [hU], by rw [hU]; exact hPc, va_K.moved hW.alike hK, hDc.weaken (fun _ _ _ _ => trivial)⟩⟩ rfl rfl hl.1 rfl (lv_room (Nat.le_of_ble_eq_true rfl)) dX3_chord_110 ⟨Nat.le_of_ble_eq_true rfl, Nat.le_of_ble_eq_true rfl⟩) hS (fun q _ h => hFc q h) hFc (fun r9 u9 t9 H1 locs ht9 hvm9 hw9 hB9 hz9 hk9 hS => ?_)
              obtain ⟨hP1, hD1⟩ := hB9
              rw [ht9] at hP1
              obtain ⟨hP, hD⟩ := va_join (wr := []) (w1 := wM cy b u 2 pz) hP hD [0, 1, 2, 3, 4, 5, 6] [] rfl rfl (by decide) (by decide) hk9 hFc hP1 hD1
              generalize H1 = H at hP hS ⊢
              have hP : va_P D vwCl (wM cy b u 2 pz) H := hP.sub [0, 1, 2, 3, 4, 5, 6] rfl
              have hD : va_D A (wM cy b u 2 pz) := hD.sub [0, 1, 2, 3, 4, 5, 6] (by decide) rfl
              clear hP1 hD1 hk9 hz9 ht9 hvm9 hPc hDc hFc
              subst hw9
              have hex9 : exCh u (nI j) v0 v1 v2 v3 = 2 := by simp [exCh, bI_1.mp c9, bI_1.mp c51, bI_1.mp c62, bI_0.mp c74]
              have hP9 : va_P D vwCl (wM cy b u (nI (exCh u (nI j) v0 v1 v2 v3)) pz) H := (by rw [hex9]; exact hP)
              have hD9 : va_D A (wM cy b u (nI (exCh u (nI j) v0 v1 v2 v3)) pz) := (by rw [hex9]; exact hD)
              refine W.widen (k := 1) (n := 6) (Nat.le_of_ble_eq_true rfl) (Nat.le_of_ble_eq_true rfl) ?_
              exact W.iret (v := 0) hx hb hr (fun t ht hW => ⟨⟨0, u, rfl, ⟨fun z => absurd (hex9.symm.trans z) (by decide), fun _ => rfl⟩, by rw [ht]; exact hP9, hD9⟩, hS.F ht⟩) hS.2.2 dX3_chord_113
            · refine lv_iload hx hb dX3_chord_77 (lv_at hl 6 rfl) ?_
              refine lv_iconst (v := 0) hx hb dX3_chord_79 (by decide) ?_
              refine lv_sipush (v := 1500) hx hb dX3_chord_80 (by decide) ?_
              refine pc_calli (va_runS (As := [.int v3, .int 0, .int 1500]) (rest := []) ⟨hx, hb, hml, hown, hts⟩ (mX3_isIn l D cy v3 0 1500) (va_cwS 3 hts gX3_chord_X3_isIn rfl rfl rfl (by decide +kernel) ⟨Nat.le_of_ble_eq_true rfl, Nat.le_of_ble_eq_true rfl⟩) ⟨fun a U g mk q => q, fun U hU hW => ⟨rfl, trivial⟩⟩ rfl rfl hl.1 rfl (lv_room (Nat.le_of_ble_eq_true rfl)) dX3_chord_83 ⟨Nat.le_of_ble_eq_true rfl, Nat.le_of_ble_eq_true rfl⟩) (fun r9 hr9 => ?_)
              subst hr9
              refine pc_top (show bI (isIn v3 0 1500) = bI (isT v3 0) from (by rw [isIn_T])) ?_
              refine lv_if_eq (tgt := 108) hx hb dX3_chord_86 (by decide) (fun c86 => ?_) (fun c86 => ?_)
              · refine lv_aload_n hx hb dX3_chord_108 rfl (lv_at hl 1 rfl) ?_
                refine lv_iconst (v := 2) hx hb dX3_chord_109 (by decide) ?_
                have hPc := hP.sub (ws' := wM cy b u 0 pz) [0, 1, 2, 3, 4, 5, 6] rfl
                have hDc := hD.sub (ws' := wM cy b u 0 pz) [0, 1, 2, 3, 4, 5, 6] (by decide) rfl
                have hFc := va_free (wc := wM cy b u 0 pz) hD hS hA [0, 1, 2, 3, 4, 5, 6] rfl
                refine va_calli (va_runV (As := [.int 2]) (rest := []) ⟨hx, hb, hml, hown, hts⟩ (mX3_fail l D cy H.size b u 0 pz 2) (cwV 1 hts gX3_chord_X3_fail rfl rfl rfl (by decide +kernel) ⟨Nat.le_of_ble_eq_true rfl, Nat.le_of_ble_eq_true rfl⟩) ⟨fun a U g mk q => ⟨q.1, q.2.1, q.2.2.1, va_K.moved (u := U) (U := U.calling g mk a) (Vm.Alike.refl U.vm) q.2.2.2.1, q.2.2.2.2⟩, va_recv hK hPc (ci := 3) (q0 := 0) rfl rfl, fun U hU hW => ⟨rfl, by rw [hU], by rw [hU]; exact hPc, va_K.moved hW.alike hK, hDc.weaken (fun _ _ _ _ => trivial)⟩⟩ rfl rfl hl.1 rfl (lv_room (Nat.le_of_ble_eq_true rfl)) dX3_chord_110 ⟨Nat.le_of_ble_eq_true rfl, Nat.le_of_ble_eq_true rfl⟩) hS (fun q _ h => hFc q h) hFc (fun r9 u9 t9 H1 locs ht9 hvm9 hw9 hB9 hz9 hk9 hS => ?_)
                obtain ⟨hP1, hD1⟩ := hB9
                rw [ht9] at hP1
                obtain ⟨hP, hD⟩ := va_join (wr := []) (w1 := wM cy b u 2 pz) hP hD [0, 1, 2, 3, 4, 5, 6] [] rfl rfl (by decide) (by decide) hk9 hFc hP1 hD1
                generalize H1 = H at hP hS ⊢
                have hP : va_P D vwCl (wM cy b u 2 pz) H := hP.sub [0, 1, 2, 3, 4, 5, 6] rfl
                have hD : va_D A (wM cy b u 2 pz) := hD.sub [0, 1, 2, 3, 4, 5, 6] (by decide) rfl
                clear hP1 hD1 hk9 hz9 ht9 hvm9 hPc hDc hFc
                subst hw9
                have hex9 : exCh u (nI j) v0 v1 v2 v3 = 2 := by simp [exCh, bI_1.mp c9, bI_1.mp c51, bI_1.mp c62, bI_1.mp c74, bI_0.mp c86]
                have hP9 : va_P D vwCl (wM cy b u (nI (exCh u (nI j) v0 v1 v2 v3)) pz) H := (by rw [hex9]; exact hP)
                have hD9 : va_D A (wM cy b u (nI (exCh u (nI j) v0 v1 v2 v3)) pz) := (by rw [hex9]; exact hD)
                refine W.widen (k := 1) (n := 6) (Nat.le_of_ble_eq_true rfl) (Nat.le_of_ble_eq_true rfl) ?_
                exact W.iret (v := 0) hx hb hr (fun t ht hW => ⟨⟨0, u, rfl, ⟨fun z => absurd (hex9.symm.trans z) (by decide), fun _ => rfl⟩, by rw [ht]; exact hP9, hD9⟩, hS.F ht⟩) hS.2.2 dX3_chord_113
              · refine lv_iload hx hb dX3_chord_89 (lv_at hl 5 rfl) ?_
                refine lv_if_ne (tgt := 99) hx hb dX3_chord_91 (by decide) (fun c91 => ?_) (fun c91 => absurd c91 (fun q => c21 (by rw [q]; decide)))
                have q2 : ¬ v2 = 0 := fun q => c21 (by rw [q]; decide)
                have q3 : ¬ v3 = 0 := fun q => c32 (by rw [q]; decide)
                have hS9 : chSz v2 v3 = 4 := by simp [chSz, q2, q3]
                have hv9 : ¬ (v2 = 0 ∧ ¬ v3 = 0) := by simp [q2, q3]
                refine lv_iload_n hx hb dX3_chord_99 rfl (lv_at hl 2 rfl) ?_
                refine lv_iload hx hb dX3_chord_100 (lv_at hl 0 rfl) ?_
                refine lv_iadd hx hb dX3_chord_102 ?_
                refine pc_top (show (nI j) + 4 = nI (j + 4) from nI_add j 4) ?_
                refine lv_bipush (v := 12) hx hb dX3_chord_103 (by decide) ?_
                refine lv_icmp_le (tgt := 114) hx hb dX3_chord_105 (by decide) (fun c105 => ?_) (fun c105 => ?_)
                · have n105 : j + 4 ≤ 12 := (nI_leI (a := j + 4) (b := 12) (by omega) (by omega)).mp c105
                  refine lv_aload_n hx hb dX3_chord_114 rfl (lv_at hl 1 rfl) ?_
                  refine va_get (D := D) (ci := 3) (v := .int (nI (un u))) (C := RX3) (T := TX3) (N := 8) hx hb hts inX3_chord_RX3 hown hK hP 0 rfl rfl 2 (by decide) (hts _ kX3_chord_1) (fun _ h9 => h9) rfl dX3_chord_115 ?_
                  refine lv_bipush (v := 6) hx hb dX3_chord_118 (by decide) ?_
                  refine lv_icmp_ne (tgt := 129) hx hb dX3_chord_120 (by decide) (fun c120 => ?_) (fun c120 => ?_)
                  · have n120 : ¬ (un u = 6) := fun h9 => c120 ((nI_eq (a := un u) (b := 6) (by omega) (by omega)).mpr h9)
                    refine lv_bipush (v := 6) hx hb dX3_chord_129 (by decide) ?_
                    refine pc_newa (atype := .int) (ty := .int) (N' := 6) (a0 := (6, .inl (fun _ => 0))) hx hb (hts _ kX3_chord_2) rfl hK hP hD hS hA 0 rfl (fun _ => rfl) (by decide) (by decide) (by decide) (Nat.le_of_ble_eq_true rfl) (Nat.le_of_ble_eq_true rfl) dX3_chord_131 (fun r131_3 H hP hD hS => ?_)
                    have hP : va_P D vwCl [(b 0, .inr (3, [.int 0, .ref (b 1), .int (nI (un u)), .ref (b 2), .ref (b 3), .ref (b 4), .ref (b 5), .ref (b 6)])), (b 1, .inl ((cy 0), 72, .inl (mh (uh u)))), (b 2, .inl ((cy 0), 36, .inl (mt (ul u) (uz u) (ut u)))), (b 3, .inl ((cy 0), 12, .inl (uw u))), (b 4, .inl ((cy 0), 12, .inl (ud u))), (b 5, .inl ((cy 0), 2, .inl (mb (uh u)))), (b 6, .inl ((cy 0), 12, .inl pz)), (r131_3, .inl ((cy 0), 6, .inl (fun _ => 0)))] H := hP
                    have hD : va_D A [(b 0, .inr (3, [.int 0, .ref (b 1), .int (nI (un u)), .ref (b 2), .ref (b 3), .ref (b 4), .ref (b 5), .ref (b 6)])), (b 1, .inl ((cy 0), 72, .inl (mh (uh u)))), (b 2, .inl ((cy 0), 36, .inl (mt (ul u) (uz u) (ut u)))), (b 3, .inl ((cy 0), 12, .inl (uw u))), (b 4, .inl ((cy 0), 12, .inl (ud u))), (b 5, .inl ((cy 0), 2, .inl (mb (uh u)))), (b 6, .inl ((cy 0), 12, .inl pz)), (r131_3, .inl ((cy 0), 6, .inl (fun _ => 0)))] := hD
                    refine W.widen (k := 1) (n := 6) (Nat.le_of_ble_eq_true rfl) (Nat.le_of_ble_eq_true rfl) ?_
                    refine lv_dup hx hb dX3_chord_133 rfl ?_
                    refine lv_iconst (v := 0) hx hb dX3_chord_134 (by decide) ?_
                    refine lv_iload_n hx hb dX3_chord_135 rfl (lv_at hl 2 rfl) ?_
                    refine pc_iast hx hb hK hP hD hS 7 0 rfl rfl (k := 0) (show 0 < 6 by omega) (by decide) dX3_chord_136 (fun H locs hP hD hS => ?_)
                    have hP : va_P D vwCl [(b 0, .inr (3, [.int 0, .ref (b 1), .int (nI (un u)), .ref (b 2), .ref (b 3), .ref (b 4), .ref (b 5), .ref (b 6)])), (b 1, .inl ((cy 0), 72, .inl (mh (uh u)))), (b 2, .inl ((cy 0), 36, .inl (mt (ul u) (uz u) (ut u)))), (b 3, .inl ((cy 0), 12, .inl (uw u))), (b 4, .inl ((cy 0), 12, .inl (ud u))), (b 5, .inl ((cy 0), 2, .inl (mb (uh u)))), (b 6, .inl ((cy 0), 12, .inl pz)), (r131_3, .inl ((cy 0), 6, .inl (upd (fun _ => 0) 0 (nI j))))] H := hP
                    have hD : va_D A [(b 0, .inr (3, [.int 0, .ref (b 1), .int (nI (un u)), .ref (b 2), .ref (b 3), .ref (b 4), .ref (b 5), .ref (b 6)])), (b 1, .inl ((cy 0), 72, .inl (mh (uh u)))), (b 2, .inl ((cy 0), 36, .inl (mt (ul u) (uz u) (ut u)))), (b 3, .inl ((cy 0), 12, .inl (uw u))), (b 4, .inl ((cy 0), 12, .inl (ud u))), (b 5, .inl ((cy 0), 2, .inl (mb (uh u)))), (b 6, .inl ((cy 0), 12, .inl pz)), (r131_3, .inl ((cy 0), 6, .inl (upd (fun _ => 0) 0 (nI j))))] := hD
                    refine lv_dup hx hb dX3_chord_137 rfl ?_
                    refine lv_iconst (v := 1) hx hb dX3_chord_138 (by decide) ?_
                    refine lv_iload hx hb dX3_chord_139 (lv_at hl 0 rfl) ?_
                    refine pc_iast hx hb hK hP hD hS 7 0 rfl rfl (k := 1) (show 1 < 6 by omega) (by decide) dX3_chord_141 (fun H locs hP hD hS => ?_)
                    have hP : va_P D vwCl [(b 0, .inr (3, [.int 0, .ref (b 1), .int (nI (un u)), .ref (b 2), .ref (b 3), .ref (b 4), .ref (b 5), .ref (b 6)])), (b 1, .inl ((cy 0), 72, .inl (mh (uh u)))), (b 2, .inl ((cy 0), 36, .inl (mt (ul u) (uz u) (ut u)))), (b 3, .inl ((cy 0), 12, .inl (uw u))), (b 4, .inl ((cy 0), 12, .inl (ud u))), (b 5, .inl ((cy 0), 2, .inl (mb (uh u)))), (b 6, .inl ((cy 0), 12, .inl pz)), (r131_3, .inl ((cy 0), 6, .inl (upd (upd (fun _ => 0) 0 (nI j)) 1 4)))] H := hP
                    have hD : va_D A [(b 0, .inr (3, [.int 0, .ref (b 1), .int (nI (un u)), .ref (b 2), .ref (b 3), .ref (b 4), .ref (b 5), .ref (b 6)])), (b 1, .inl ((cy 0), 72, .inl (mh (uh u)))), (b 2, .inl ((cy 0), 36, .inl (mt (ul u) (uz u) (ut u)))), (b 3, .inl ((cy 0), 12, .inl (uw u))), (b 4, .inl ((cy 0), 12, .inl (ud u))), (b 5, .inl ((cy 0), 2, .inl (mb (uh u)))), (b 6, .inl ((cy 0), 12, .inl pz)), (r131_3, .inl ((cy 0), 6, .inl (upd (upd (fun _ => 0) 0 (nI j)) 1 4)))] := hD
                    refine lv_dup hx hb dX3_chord_142 rfl ?_
                    refine lv_iconst (v := 2) hx hb dX3_chord_143 (by decide) ?_
                    refine lv_iload_n hx hb dX3_chord_144 rfl (lv_at hl 3 rfl) ?_
                    refine pc_iast hx hb hK hP hD hS 7 0 rfl rfl (k := 2) (show 2 < 6 by omega) (by decide) dX3_chord_145 (fun H locs hP hD hS => ?_)
                    have hP : va_P D vwCl [(b 0, .inr (3, [.int 0, .ref (b 1), .int (nI (un u)), .ref (b 2), .ref (b 3), .ref (b 4), .ref (b 5), .ref (b 6)])), (b 1, .inl ((cy 0), 72, .inl (mh (uh u)))), (b 2, .inl ((cy 0), 36, .inl (mt (ul u) (uz u) (ut u)))), (b 3, .inl ((cy 0), 12, .inl (uw u))), (b 4, .inl ((cy 0), 12, .inl (ud u))), (b 5, .inl ((cy 0), 2, .inl (mb (uh u)))), (b 6, .inl ((cy 0), 12, .inl pz)), (r131_3, .inl ((cy 0), 6, .inl (upd (upd (upd (fun _ => 0) 0 (nI j)) 1 4) 2 v0)))] H := hP
                    have hD : va_D A [(b 0, .inr (3, [.int 0, .ref (b 1), .int (nI (un u)), .ref (b 2), .ref (b 3), .ref (b 4), .ref (b 5), .ref (b 6)])), (b 1, .inl ((cy 0), 72, .inl (mh (uh u)))), (b 2, .inl ((cy 0), 36, .inl (mt (ul u) (uz u) (ut u)))), (b 3, .inl ((cy 0), 12, .inl (uw u))), (b 4, .inl ((cy 0), 12, .inl (ud u))), (b 5, .inl ((cy 0), 2, .inl (mb (uh u)))), (b 6, .inl ((cy 0), 12, .inl pz)), (r131_3, .inl ((cy 0), 6, .inl (upd (upd (upd (fun _ => 0) 0 (nI j)) 1 4) 2 v0)))] := hD
                    refine lv_dup hx hb dX3_chord_146 rfl ?_
                    refine lv_iconst (v := 3) hx hb dX3_chord_147 (by decide) ?_
                    refine lv_iload_n hx hb dX3_chord_148 rfl (lv_at hl 4 rfl) ?_
                    refine pc_iast hx hb hK hP hD hS 7 0 rfl rfl (k := 3) (show 3 < 6 by omega) (by decide) dX3_chord_149 (fun H locs hP hD hS => ?_)
                    have hP : va_P D vwCl [(b 0, .inr (3, [.int 0, .ref (b 1), .int (nI (un u)), .ref (b 2), .ref (b 3), .ref (b 4), .ref (b 5), .ref (b 6)])), (b 1, .inl ((cy 0), 72, .inl (mh (uh u)))), (b 2, .inl ((cy 0), 36, .inl (mt (ul u) (uz u) (ut u)))), (b 3, .inl ((cy 0), 12, .inl (uw u))), (b 4, .inl ((cy 0), 12, .inl (ud u))), (b 5, .inl ((cy 0), 2, .inl (mb (uh u)))), (b 6, .inl ((cy 0), 12, .inl pz)), (r131_3, .inl ((cy 0), 6, .inl (upd (upd (upd (upd (fun _ => 0) 0 (nI j)) 1 4) 2 v0) 3 v1)))] H := hP
                    have hD : va_D A [(b 0, .inr (3, [.int 0, .ref (b 1), .int (nI (un u)), .ref (b 2), .ref (b 3), .ref (b 4), .ref (b 5), .ref (b 6)])), (b 1, .inl ((cy 0), 72, .inl (mh (uh u)))), (b 2, .inl ((cy 0), 36, .inl (mt (ul u) (uz u) (ut u)))), (b 3, .inl ((cy 0), 12, .inl (uw u))), (b 4, .inl ((cy 0), 12, .inl (ud u))), (b 5, .inl ((cy 0), 2, .inl (mb (uh u)))), (b 6, .inl ((cy 0), 12, .inl pz)), (r131_3, .inl ((cy 0), 6, .inl (upd (upd (upd (upd (fun _ => 0) 0 (nI j)) 1 4) 2 v0) 3 v1)))] := hD
                    refine lv_dup hx hb dX3_chord_150 rfl ?_
                    refine lv_iconst (v := 4) hx hb dX3_chord_151 (by decide) ?_
                    refine lv_iload hx hb dX3_chord_152 (lv_at hl 5 rfl) ?_
                    refine pc_iast hx hb hK hP hD hS 7 0 rfl rfl (k := 4) (show 4 < 6 by omega) (by decide) dX3_chord_154 (fun H locs hP hD hS => ?_)
                    have hP : va_P D vwCl [(b 0, .inr (3, [.int 0, .ref (b 1), .int (nI (un u)), .ref (b 2), .ref (b 3), .ref (b 4), .ref (b 5), .ref (b 6)])), (b 1, .inl ((cy 0), 72, .inl (mh (uh u)))), (b 2, .inl ((cy 0), 36, .inl (mt (ul u) (uz u) (ut u)))), (b 3, .inl ((cy 0), 12, .inl (uw u))), (b 4, .inl ((cy 0), 12, .inl (ud u))), (b 5, .inl ((cy 0), 2, .inl (mb (uh u)))), (b 6, .inl ((cy 0), 12, .inl pz)), (r131_3, .inl ((cy 0), 6, .inl (upd (upd (upd (upd (upd (fun _ => 0) 0 (nI j)) 1 4) 2 v0) 3 v1) 4 v2)))] H := hP
                    have hD : va_D A [(b 0, .inr (3, [.int 0, .ref (b 1), .int (nI (un u)), .ref (b 2), .ref (b 3), .ref (b 4), .ref (b 5), .ref (b 6)])), (b 1, .inl ((cy 0), 72, .inl (mh (uh u)))), (b 2, .inl ((cy 0), 36, .inl (mt (ul u) (uz u) (ut u)))), (b 3, .inl ((cy 0), 12, .inl (uw u))), (b 4, .inl ((cy 0), 12, .inl (ud u))), (b 5, .inl ((cy 0), 2, .inl (mb (uh u)))), (b 6, .inl ((cy 0), 12, .inl pz)), (r131_3, .inl ((cy 0), 6, .inl (upd (upd (upd (upd (upd (fun _ => 0) 0 (nI j)) 1 4) 2 v0) 3 v1) 4 v2)))] := hD
                    refine lv_dup hx hb dX3_chord_155 rfl ?_
                    refine lv_iconst (v := 5) hx hb dX3_chord_156 (by decide) ?_
                    refine lv_iload hx hb dX3_chord_157 (lv_at hl 6 rfl) ?_
                    refine pc_iast hx hb hK hP hD hS 7 0 rfl rfl (k := 5) (show 5 < 6 by omega) (by decide) dX3_chord_159 (fun H locs hP hD hS => ?_)
                    have hP : va_P D vwCl [(b 0, .inr (3, [.int 0, .ref (b 1), .int (nI (un u)), .ref (b 2), .ref (b 3), .ref (b 4), .ref (b 5), .ref (b 6)])), (b 1, .inl ((cy 0), 72, .inl (mh (uh u)))), (b 2, .inl ((cy 0), 36, .inl (mt (ul u) (uz u) (ut u)))), (b 3, .inl ((cy 0), 12, .inl (uw u))), (b 4, .inl ((cy 0), 12, .inl (ud u))), (b 5, .inl ((cy 0), 2, .inl (mb (uh u)))), (b 6, .inl ((cy 0), 12, .inl pz)), (r131_3, .inl ((cy 0), 6, .inl (upd (upd (upd (upd (upd (upd (fun _ => 0) 0 (nI j)) 1 4) 2 v0) 3 v1) 4 v2) 5 v3)))] H := hP
                    have hD : va_D A [(b 0, .inr (3, [.int 0, .ref (b 1), .int (nI (un u)), .ref (b 2), .ref (b 3), .ref (b 4), .ref (b 5), .ref (b 6)])), (b 1, .inl ((cy 0), 72, .inl (mh (uh u)))), (b 2, .inl ((cy 0), 36, .inl (mt (ul u) (uz u) (ut u)))), (b 3, .inl ((cy 0), 12, .inl (uw u))), (b 4, .inl ((cy 0), 12, .inl (ud u))), (b 5, .inl ((cy 0), 2, .inl (mb (uh u)))), (b 6, .inl ((cy 0), 12, .inl pz)), (r131_3, .inl ((cy 0), 6, .inl (upd (upd (upd (upd (upd (upd (fun _ => 0) 0 (nI j)) 1 4) 2 v0) 3 v1) 4 v2) 5 v3)))] := hD
                    refine lv_astore (lv' := [(7, .ref r131_3), (6, .int 4), (0, .ref (b 0)), (1, .int (nI j)), (2, .int v0), (3, .int v1), (4, .int v2), (5, .int v3)]) hx hb dX3_chord_160 hl (by decide) rfl (fun ls hl => ?_)
                    refine lv_aload hx hb dX3_chord_162 (lv_at hl 0 rfl) ?_
                    refine lv_iconst (v := 0) hx hb dX3_chord_164 (by decide) ?_
                    refine lv_aload_n hx hb dX3_chord_165 rfl (lv_at hl 2 rfl) ?_
                    refine va_get (D := D) (ci := 3) (v := .ref (b 2)) (C := RX3) (T := TX3) (N := 8) hx hb hts inX3_chord_RX3 hown hK hP 0 rfl rfl 3 (by decide) (hts _ kX3_chord_3) (fun _ h9 => h9) rfl dX3_chord_166 ?_
                    refine lv_bipush (v := 6) hx hb dX3_chord_169 (by decide) ?_
                    refine lv_aload_n hx hb dX3_chord_171 rfl (lv_at hl 2 rfl) ?_
                    refine va_get (D := D) (ci := 3) (v := .int (nI (un u))) (C := RX3) (T := TX3) (N := 8) hx hb hts inX3_chord_RX3 hown hK hP 0 rfl rfl 2 (by decide) (hts _ kX3_chord_1) (fun _ h9 => h9) rfl dX3_chord_172 ?_
                    refine lv_imul hx hb dX3_chord_175 ?_
                    refine pc_top (show 6 * (nI (un u)) = nI (6 * (un u)) from pk_mul 6 (un u)) ?_
                    refine lv_bipush (v := 6) hx hb dX3_chord_176 (by decide) ?_
                    refine va_copyi hx hb (by rw [hml]; exact hl.1.symm) hown (hts _ kX3_chord_4) (hts _ kX3_chord_5) (hts _ kX3_chord_6) (hts _ kX3_chord_7) hK hP hD hS 7 2 0 0 rfl rfl rfl rfl rfl (by decide) (nI_pos (show 6 * un u < 2147483648 by omega)) (by decide) (by decide) (by rw [nI_clamp (show 6 * un u < 2147483648 by omega)]; show 6 * un u + 6 ≤ 36; omega) (fun _ _ => rfl) (Nat.le_of_ble_eq_true rfl) (Nat.le_of_ble_eq_true rfl) dX3_chord_178 (fun H locs hP hD hS => ?_)
                    have hP : va_P D vwCl [(b 0, .inr (3, [.int 0, .ref (b 1), .int (nI (un u)), .ref (b 2), .ref (b 3), .ref (b 4), .ref (b 5), .ref (b 6)])), (b 1, .inl ((cy 0), 72, .inl (mh (uh u)))), (b 2, .inl ((cy 0), 36, .inl (va_cpy (upd (upd (upd (upd (upd (upd (fun _ => 0) 0 (nI j)) 1 4) 2 v0) 3 v1) 4 v2) 5 v3) (mt (ul u) (uz u) (ut u)) ((0 : Int32)).toNatClampNeg ((nI (6 * un u) : Int32)).toNatClampNeg ((6 : Int32)).toNatClampNeg))), (b 3, .inl ((cy 0), 12, .inl (uw u))), (b 4, .inl ((cy 0), 12, .inl (ud u))), (b 5, .inl ((cy 0), 2, .inl (mb (uh u)))), (b 6, .inl ((cy 0), 12, .inl pz)), (r131_3, .inl ((cy 0), 6, .inl (upd (upd (upd (upd (upd (upd (fun _ => 0) 0 (nI j)) 1 4) 2 v0) 3 v1) 4 v2) 5 v3)))] H := hP
                    have hD : va_D A [(b 0, .inr (3, [.int 0, .ref (b 1), .int (nI (un u)), .ref (b 2), .ref (b 3), .ref (b 4), .ref (b 5), .ref (b 6)])), (b 1, .inl ((cy 0), 72, .inl (mh (uh u)))), (b 2, .inl ((cy 0), 36, .inl (va_cpy (upd (upd (upd (upd (upd (upd (fun _ => 0) 0 (nI j)) 1 4) 2 v0) 3 v1) 4 v2) 5 v3) (mt (ul u) (uz u) (ut u)) ((0 : Int32)).toNatClampNeg ((nI (6 * un u) : Int32)).toNatClampNeg ((6 : Int32)).toNatClampNeg))), (b 3, .inl ((cy 0), 12, .inl (uw u))), (b 4, .inl ((cy 0), 12, .inl (ud u))), (b 5, .inl ((cy 0), 2, .inl (mb (uh u)))), (b 6, .inl ((cy 0), 12, .inl pz)), (r131_3, .inl ((cy 0), 6, .inl (upd (upd (upd (upd (upd (upd (fun _ => 0) 0 (nI j)) 1 4) 2 v0) 3 v1) 4 v2) 5 v3)))] := hD
                    have e9 : ∀ k, (va_cpy (upd (upd (upd (upd (upd (upd (fun _ => 0) 0 (nI j)) 1 4) 2 v0) 3 v1) 4 v2) 5 v3) (mt (ul u) (uz u) (ut u)) ((0 : Int32)).toNatClampNeg ((nI (6 * un u) : Int32)).toNatClampNeg ((6 : Int32)).toNatClampNeg) k = mt (ul (uCh u j 4 v0 v1 v2 v3)) (uz (uCh u j 4 v0 v1 v2 v3)) (ut (uCh u j 4 v0 v1 v2 v3)) k := fun k => by rw [nI_clamp (show 6 * un u < 2147483648 by omega)]; exact mt_cpy u j 4 v0 v1 v2 v3 k
                    have hP := va_P_row hP 2 rfl (fun k _ => e9 k)
                    have hD := va_D_addr (ws' := [(b 0, .inr (3, [.int 0, .ref (b 1), .int (nI (un u)), .ref (b 2), .ref (b 3), .ref (b 4), .ref (b 5), .ref (b 6)])), (b 1, .inl ((cy 0), 72, .inl (mh (uh u)))), (b 2, .inl ((cy 0), 36, .inl (mt (ul (uCh u j 4 v0 v1 v2 v3)) (uz (uCh u j 4 v0 v1 v2 v3)) (ut (uCh u j 4 v0 v1 v2 v3))))), (b 3, .inl ((cy 0), 12, .inl (uw u))), (b 4, .inl ((cy 0), 12, .inl (ud u))), (b 5, .inl ((cy 0), 2, .inl (mb (uh u)))), (b 6, .inl ((cy 0), 12, .inl pz)), (r131_3, .inl ((cy 0), 6, .inl (upd (upd (upd (upd (upd (upd (fun _ => 0) 0 (nI j)) 1 4) 2 v0) 3 v1) 4 v2) 5 v3)))]) hD rfl
                    have hP : va_P D vwCl [(b 0, .inr (3, [.int 0, .ref (b 1), .int (nI (un u)), .ref (b 2), .ref (b 3), .ref (b 4), .ref (b 5), .ref (b 6)])), (b 1, .inl ((cy 0), 72, .inl (mh (uh u)))), (b 2, .inl ((cy 0), 36, .inl (mt (ul (uCh u j 4 v0 v1 v2 v3)) (uz (uCh u j 4 v0 v1 v2 v3)) (ut (uCh u j 4 v0 v1 v2 v3))))), (b 3, .inl ((cy 0), 12, .inl (uw u))), (b 4, .inl ((cy 0), 12, .inl (ud u))), (b 5, .inl ((cy 0), 2, .inl (mb (uh u)))), (b 6, .inl ((cy 0), 12, .inl pz)), (r131_3, .inl ((cy 0), 6, .inl (upd (upd (upd (upd (upd (upd (fun _ => 0) 0 (nI j)) 1 4) 2 v0) 3 v1) 4 v2) 5 v3)))] H := hP
                    have hD : va_D A [(b 0, .inr (3, [.int 0, .ref (b 1), .int (nI (un u)), .ref (b 2), .ref (b 3), .ref (b 4), .ref (b 5), .ref (b 6)])), (b 1, .inl ((cy 0), 72, .inl (mh (uh u)))), (b 2, .inl ((cy 0), 36, .inl (mt (ul (uCh u j 4 v0 v1 v2 v3)) (uz (uCh u j 4 v0 v1 v2 v3)) (ut (uCh u j 4 v0 v1 v2 v3))))), (b 3, .inl ((cy 0), 12, .inl (uw u))), (b 4, .inl ((cy 0), 12, .inl (ud u))), (b 5, .inl ((cy 0), 2, .inl (mb (uh u)))), (b 6, .inl ((cy 0), 12, .inl pz)), (r131_3, .inl ((cy 0), 6, .inl (upd (upd (upd (upd (upd (upd (fun _ => 0) 0 (nI j)) 1 4) 2 v0) 3 v1) 4 v2) 5 v3)))] := hD
                    clear e9
                    refine lv_aload_n hx hb dX3_chord_181 rfl (lv_at hl 2 rfl) ?_
                    refine lv_dup hx hb dX3_chord_182 rfl ?_
                    refine va_get (D := D) (ci := 3) (v := .int (nI (un u))) (C := RX3) (T := TX3) (N := 8) hx hb hts inX3_chord_RX3 hown hK hP 0 rfl rfl 2 (by decide) (hts _ kX3_chord_1) (fun _ h9 => h9) rfl dX3_chord_183 ?_
                    refine lv_iconst (v := 1) hx hb dX3_chord_186 (by decide) ?_
                    refine lv_iadd hx hb dX3_chord_187 ?_
                    refine pc_top (show (nI (un u)) + 1 = nI (un u + 1) from nI_add (un u) 1) ?_
                    refine va_put (D := D) (ci := 3) (v := .int (nI (un u + 1))) (ty := .int) (C := RX3) (T := TX3) (N := 8) hx hb hts inX3_chord_RX3 tyX3 tyX3_ok nmX3 hown hK hP hD hS 0 rfl rfl 2 (by decide) (hts _ kX3_chord_1) (fun _ h9 => h9) rfl (by decide +kernel) rfl rfl (Nat.le_of_ble_eq_true rfl) dX3_chord_188 (fun H locs hP hD hS => ?_)
                    have hP : va_P D vwCl [(b 0, .inr (3, [.int 0, .ref (b 1), .int (nI (un u + 1)), .ref (b 2), .ref (b 3), .ref (b 4), .ref (b 5), .ref (b 6)])), (b 1, .inl ((cy 0), 72, .inl (mh (uh u)))), (b 2, .inl ((cy 0), 36, .inl (mt (ul (uCh u j 4 v0 v1 v2 v3)) (uz (uCh u j 4 v0 v1 v2 v3)) (ut (uCh u j 4 v0 v1 v2 v3))))), (b 3, .inl ((cy 0), 12, .inl (uw u))), (b 4, .inl ((cy 0), 12, .inl (ud u))), (b 5, .inl ((cy 0), 2, .inl (mb (uh u)))), (b 6, .inl ((cy 0), 12, .inl pz)), (r131_3, .inl ((cy 0), 6, .inl (upd (upd (upd (upd (upd (upd (fun _ => 0) 0 (nI j)) 1 4) 2 v0) 3 v1) 4 v2) 5 v3)))] H := hP
                    have hD : va_D A [(b 0, .inr (3, [.int 0, .ref (b 1), .int (nI (un u + 1)), .ref (b 2), .ref (b 3), .ref (b 4), .ref (b 5), .ref (b 6)])), (b 1, .inl ((cy 0), 72, .inl (mh (uh u)))), (b 2, .inl ((cy 0), 36, .inl (mt (ul (uCh u j 4 v0 v1 v2 v3)) (uz (uCh u j 4 v0 v1 v2 v3)) (ut (uCh u j 4 v0 v1 v2 v3))))), (b 3, .inl ((cy 0), 12, .inl (uw u))), (b 4, .inl ((cy 0), 12, .inl (ud u))), (b 5, .inl ((cy 0), 2, .inl (mb (uh u)))), (b 6, .inl ((cy 0), 12, .inl pz)), (r131_3, .inl ((cy 0), 6, .inl (upd (upd (upd (upd (upd (upd (fun _ => 0) 0 (nI j)) 1 4) 2 v0) 3 v1) 4 v2) 5 v3)))] := hD
                    refine lv_aload_n hx hb dX3_chord_191 rfl (lv_at hl 2 rfl) ?_
                    refine va_get (D := D) (ci := 3) (v := .int (nI (un u + 1))) (C := RX3) (T := TX3) (N := 8) hx hb hts inX3_chord_RX3 hown hK hP 0 rfl rfl 2 (by decide) (hts _ kX3_chord_1) (fun _ h9 => h9) rfl dX3_chord_192 ?_
                    refine lv_iconst (v := 1) hx hb dX3_chord_195 (by decide) ?_
                    refine lv_isub hx hb dX3_chord_196 ?_
                    refine pc_top (show (nI (un u + 1)) - 1 = nI ((un u + 1) - 1) from pk_sub (a := un u + 1) (b := 1) (by omega)) ?_
                    have hex9 : exCh u (nI j) v0 v1 v2 v3 = 0 := by simp [exCh, bI_1.mp c9, bI_1.mp c51, bI_1.mp c62, bI_1.mp c74, bI_1.mp c86, hv9, hS9, ej, Nat.not_lt.mpr n105, show ¬ 6 ≤ un u by omega]
                    have hP9 : va_P D vwCl (wM cy b (uCh u (ix (nI j)) (chSz v2 v3) v0 v1 v2 v3) (nI (exCh u (nI j) v0 v1 v2 v3)) pz) H := (by rw [hex9, ej, hS9]; exact hP.sub [0, 1, 2, 3, 4, 5, 6] rfl)
                    have hD9 : va_D A (wM cy b (uCh u (ix (nI j)) (chSz v2 v3) v0 v1 v2 v3) (nI (exCh u (nI j) v0 v1 v2 v3)) pz) := (by rw [hex9, ej, hS9]; exact hD.sub [0, 1, 2, 3, 4, 5, 6] (by decide) rfl)
                    exact W.iret (v := nI ((un u + 1) - 1)) hx hb hr (fun t ht hW => ⟨⟨nI ((un u + 1) - 1), (uCh u (ix (nI j)) (chSz v2 v3) v0 v1 v2 v3), rfl, ⟨fun _ => ⟨rfl, rfl⟩, fun z => absurd hex9 z⟩, by rw [ht]; exact hP9, hD9⟩, hS.F ht⟩) hS.2.2 dX3_chord_197
                  · have n120 : un u = 6 := (nI_eq (a := un u) (b := 6) (by omega) (by omega)).mp c120
                    refine lv_aload_n hx hb dX3_chord_123 rfl (lv_at hl 1 rfl) ?_
                    refine lv_iconst (v := 3) hx hb dX3_chord_124 (by decide) ?_
                    have hPc := hP.sub (ws' := wM cy b u 0 pz) [0, 1, 2, 3, 4, 5, 6] rfl
                    have hDc := hD.sub (ws' := wM cy b u 0 pz) [0, 1, 2, 3, 4, 5, 6] (by decide) rfl
                    have hFc := va_free (wc := wM cy b u 0 pz) hD hS hA [0, 1, 2, 3, 4, 5, 6] rfl
                    refine va_calli (va_runV (As := [.int 3]) (rest := []) ⟨hx, hb, hml, hown, hts⟩ (mX3_fail l D cy H.size b u 0 pz 3) (cwV 1 hts gX3_chord_X3_fail rfl rfl rfl (by decide +kernel) ⟨Nat.le_of_ble_eq_true rfl, Nat.le_of_ble_eq_true rfl⟩) ⟨fun a U g mk q => ⟨q.1, q.2.1, q.2.2.1, va_K.moved (u := U) (U := U.calling g mk a) (Vm.Alike.refl U.vm) q.2.2.2.1, q.2.2.2.2⟩, va_recv hK hPc (ci := 3) (q0 := 0) rfl rfl, fun U hU hW => ⟨rfl, by rw [hU], by rw [hU]; exact hPc, va_K.moved hW.alike hK, hDc.weaken (fun _ _ _ _ => trivial)⟩⟩ rfl rfl hl.1 rfl (lv_room (Nat.le_of_ble_eq_true rfl)) dX3_chord_125 ⟨Nat.le_of_ble_eq_true rfl, Nat.le_of_ble_eq_true rfl⟩) hS (fun q _ h => hFc q h) hFc (fun r9 u9 t9 H1 locs ht9 hvm9 hw9 hB9 hz9 hk9 hS => ?_)
                    obtain ⟨hP1, hD1⟩ := hB9
                    rw [ht9] at hP1
                    obtain ⟨hP, hD⟩ := va_join (wr := []) (w1 := wM cy b u 3 pz) hP hD [0, 1, 2, 3, 4, 5, 6] [] rfl rfl (by decide) (by decide) hk9 hFc hP1 hD1
                    generalize H1 = H at hP hS ⊢
                    have hP : va_P D vwCl (wM cy b u 3 pz) H := hP.sub [0, 1, 2, 3, 4, 5, 6] rfl
                    have hD : va_D A (wM cy b u 3 pz) := hD.sub [0, 1, 2, 3, 4, 5, 6] (by decide) rfl
                    clear hP1 hD1 hk9 hz9 ht9 hvm9 hPc hDc hFc
                    subst hw9
                    have hex9 : exCh u (nI j) v0 v1 v2 v3 = 3 := by simp [exCh, bI_1.mp c9, bI_1.mp c51, bI_1.mp c62, bI_1.mp c74, bI_1.mp c86, hv9, hS9, ej, Nat.not_lt.mpr n105, show 6 ≤ un u by omega]
                    have hP9 : va_P D vwCl (wM cy b u (nI (exCh u (nI j) v0 v1 v2 v3)) pz) H := (by rw [hex9]; exact hP)
                    have hD9 : va_D A (wM cy b u (nI (exCh u (nI j) v0 v1 v2 v3)) pz) := (by rw [hex9]; exact hD)
                    refine W.widen (k := 1) (n := 6) (Nat.le_of_ble_eq_true rfl) (Nat.le_of_ble_eq_true rfl) ?_
                    exact W.iret (v := 0) hx hb hr (fun t ht hW => ⟨⟨0, u, rfl, ⟨fun z => absurd (hex9.symm.trans z) (by decide), fun _ => rfl⟩, by rw [ht]; exact hP9, hD9⟩, hS.F ht⟩) hS.2.2 dX3_chord_128
                · have n105 : ¬ (j + 4 ≤ 12) := fun h9 => c105 ((nI_leI (a := j + 4) (b := 12) (by omega) (by omega)).mpr h9)
                  refine lv_aload_n hx hb dX3_chord_108 rfl (lv_at hl 1 rfl) ?_
                  refine lv_iconst (v := 2) hx hb dX3_chord_109 (by decide) ?_
                  have hPc := hP.sub (ws' := wM cy b u 0 pz) [0, 1, 2, 3, 4, 5, 6] rfl
                  have hDc := hD.sub (ws' := wM cy b u 0 pz) [0, 1, 2, 3, 4, 5, 6] (by decide) rfl
                  have hFc := va_free (wc := wM cy b u 0 pz) hD hS hA [0, 1, 2, 3, 4, 5, 6] rfl
                  refine va_calli (va_runV (As := [.int 2]) (rest := []) ⟨hx, hb, hml, hown, hts⟩ (mX3_fail l D cy H.size b u 0 pz 2) (cwV 1 hts gX3_chord_X3_fail rfl rfl rfl (by decide +kernel) ⟨Nat.le_of_ble_eq_true rfl, Nat.le_of_ble_eq_true rfl⟩) ⟨fun a U g mk q => ⟨q.1, q.2.1, q.2.2.1, va_K.moved (u := U) (U := U.calling g mk a) (Vm.Alike.refl U.vm) q.2.2.2.1, q.2.2.2.2⟩, va_recv hK hPc (ci := 3) (q0 := 0) rfl rfl, fun U hU hW => ⟨rfl, by rw [hU], by rw [hU]; exact hPc, va_K.moved hW.alike hK, hDc.weaken (fun _ _ _ _ => trivial)⟩⟩ rfl rfl hl.1 rfl (lv_room (Nat.le_of_ble_eq_true rfl)) dX3_chord_110 ⟨Nat.le_of_ble_eq_true rfl, Nat.le_of_ble_eq_true rfl⟩) hS (fun q _ h => hFc q h) hFc (fun r9 u9 t9 H1 locs ht9 hvm9 hw9 hB9 hz9 hk9 hS => ?_)
                  obtain ⟨hP1, hD1⟩ := hB9
                  rw [ht9] at hP1
                  obtain ⟨hP, hD⟩ := va_join (wr := []) (w1 := wM cy b u 2 pz) hP hD [0, 1, 2, 3, 4, 5, 6] [] rfl rfl (by decide) (by decide) hk9 hFc hP1 hD1
                  generalize H1 = H at hP hS ⊢
                  have hP : va_P D vwCl (wM cy b u 2 pz) H := hP.sub [0, 1, 2, 3, 4, 5, 6] rfl
                  have hD : va_D A (wM cy b u 2 pz) := hD.sub [0, 1, 2, 3, 4, 5, 6] (by decide) rfl
                  clear hP1 hD1 hk9 hz9 ht9 hvm9 hPc hDc hFc
                  subst hw9
                  have hex9 : exCh u (nI j) v0 v1 v2 v3 = 2 := by simp [exCh, bI_1.mp c9, bI_1.mp c51, bI_1.mp c62, bI_1.mp c74, bI_1.mp c86, hv9, hS9, ej, Nat.not_le.mp n105]
                  have hP9 : va_P D vwCl (wM cy b u (nI (exCh u (nI j) v0 v1 v2 v3)) pz) H := (by rw [hex9]; exact hP)
                  have hD9 : va_D A (wM cy b u (nI (exCh u (nI j) v0 v1 v2 v3)) pz) := (by rw [hex9]; exact hD)
                  refine W.widen (k := 1) (n := 6) (Nat.le_of_ble_eq_true rfl) (Nat.le_of_ble_eq_true rfl) ?_
                  exact W.iret (v := 0) hx hb hr (fun t ht hW => ⟨⟨0, u, rfl, ⟨fun z => absurd (hex9.symm.trans z) (by decide), fun _ => rfl⟩, by rw [ht]; exact hP9, hD9⟩, hS.F ht⟩) hS.2.2 dX3_chord_113
  · refine lv_aload_n hx hb dX3_chord_12 rfl (lv_at hl 0 rfl) ?_
    refine lv_iconst (v := 1) hx hb dX3_chord_13 (by decide) ?_
    have hPc := hP.sub (ws' := wM cy b u 0 pz) [0, 1, 2, 3, 4, 5, 6] rfl
    have hDc := hD.sub (ws' := wM cy b u 0 pz) [0, 1, 2, 3, 4, 5, 6] (by decide) rfl
    have hFc := va_free (wc := wM cy b u 0 pz) hD hS hA [0, 1, 2, 3, 4, 5, 6] rfl
    refine va_calli (va_runV (As := [.int 1]) (rest := []) ⟨hx, hb, hml, hown, hts⟩ (mX3_fail l D cy H.size b u 0 pz 1) (cwV 1 hts gX3_chord_X3_fail rfl rfl rfl (by decide +kernel) ⟨Nat.le_of_ble_eq_true rfl, Nat.le_of_ble_eq_true rfl⟩) ⟨fun a U g mk q => ⟨q.1, q.2.1, q.2.2.1, va_K.moved (u := U) (U := U.calling g mk a) (Vm.Alike.refl U.vm) q.2.2.2.1, q.2.2.2.2⟩, va_recv hK hPc (ci := 3) (q0 := 0) rfl rfl, fun U hU hW => ⟨rfl, by rw [hU], by rw [hU]; exact hPc, va_K.moved hW.alike hK, hDc.weaken (fun _ _ _ _ => trivial)⟩⟩ rfl rfl hl.1 rfl (lv_room (Nat.le_of_ble_eq_true rfl)) dX3_chord_14 ⟨Nat.le_of_ble_eq_true rfl, Nat.le_of_ble_eq_true rfl⟩) hS (fun q _ h => hFc q h) hFc (fun r9 u9 t9 H1 locs ht9 hvm9 hw9 hB9 hz9 hk9 hS => ?_)
    obtain ⟨hP1, hD1⟩ := hB9
    rw [ht9] at hP1
    obtain ⟨hP, hD⟩ := va_join (wr := []) (w1 := wM cy b u 1 pz) hP hD [0, 1, 2, 3, 4, 5, 6] [] rfl rfl (by decide) (by decide) hk9 hFc hP1 hD1
    generalize H1 = H at hP hS ⊢
    have hP : va_P D vwCl (wM cy b u 1 pz) H := hP.sub [0, 1, 2, 3, 4, 5, 6] rfl
    have hD : va_D A (wM cy b u 1 pz) := hD.sub [0, 1, 2, 3, 4, 5, 6] (by decide) rfl
    clear hP1 hD1 hk9 hz9 ht9 hvm9 hPc hDc hFc
    subst hw9
    have hex9 : exCh u kv v0 v1 v2 v3 = 1 := by simp [exCh, bI_0.mp c9]
    have hP9 : va_P D vwCl (wM cy b u (nI (exCh u kv v0 v1 v2 v3)) pz) H := (by rw [hex9]; exact hP)
    have hD9 : va_D A (wM cy b u (nI (exCh u kv v0 v1 v2 v3)) pz) := (by rw [hex9]; exact hD)
    refine W.widen (k := 1) (n := 6) (Nat.le_of_ble_eq_true rfl) (Nat.le_of_ble_eq_true rfl) ?_
    exact W.iret (v := 0) hx hb hr (fun t ht hW => ⟨⟨0, u, rfl, ⟨fun z => absurd (hex9.symm.trans z) (by decide), fun _ => rfl⟩, by rw [ht]; exact hP9, hD9⟩, hS.F ht⟩) hS.2.2 dX3_chord_17

