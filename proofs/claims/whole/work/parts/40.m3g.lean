theorem inX3_bears_RX3 : ∀ w ∈ u_ws RX3 TX3 8, w ∈ wsX3_bears := by decide +kernel
theorem kX3_bears_0 : (.fieldLink RX3 32 "WedgeHarpsModel" "thrown" "I" : Cond) ∈ wsX3_bears := by decide +kernel
set_option maxHeartbeats 4000000 in
set_option maxRecDepth 100000 in
theorem mX3_bears (l : Launch) (D : va_G) (cy : Nat → ClassId) (sz : Nat) (b : Nat → Nat) (u : US) (th : Int32) (hu : uOk u) (hb9 : bd (uh u)) (kv : Int32) : Met l yX3_bears wsX3_bears ({ frames := 6, cells := 3, slots := 76, locals := 150 } : Room) (va_Pc [.ref (b 0), .int kv] (fun U => U.heap.size = sz ∧ va_P D vwCl (wM cy b u th pz) U.heap ∧ va_K D vwCl (TY cy) U ∧ va_D (fun _ => True) (wM cy b u th pz) ∧ vKP cy U)) (va_Qi (fun (r8 : Int32) (u9 : US) => (exS kv = 0 → r8 = bearF (bearP u (ix kv)) 21 ∧ u9 = u) ∧ (¬ exS kv = 0 → u9 = u)) (fun (u9 : US) t => va_P D vwCl (wM cy b u9 (nI (exS kv)) pz) t.heap ∧ va_D (va_A (wM cy b u th pz) sz) (wM cy b u9 (nI (exS kv)) pz)) (va_A (wM cy b u th pz) sz)) 3 76 (va_A (wM cy b u th pz) sz) := by
  refine Met.ofW (cc := cX3_bears) (maxL := 6) (ret := (some .int)) (by decide) rfl ?_
  intro p e s m args below meth c s₁ B hml hv
  obtain ⟨rfl, hsz, hP, hK, hD0, hkp⟩ := hv
  have hx := B.exec
  have hb := B.bytes
  have hr := B.returns
  have hts := atoms_spec (ws := wsX3_bears) B.pre
  have hown : s.vm.findClass RX3 = some m.cls := findClass_of_methodNamed B.named
  have hlocks := B.notSynchronized
  have hl := lv_entry ([.ref (b 0), .int kv]) (n := 6) (Nat.le_of_ble_eq_true rfl)
  rw [lg_entry_eq]
  generalize (lg_sl ([.ref (b 0), .int kv]) ++ List.replicate (6 - (lg_sl ([.ref (b 0), .int kv])).length) Slot.unset).toArray = ls at hl ⊢
  have hl : lv_has ls 6 [(0, .ref (b 0)), (1, .int kv)] := hl
  subst hsz
  have hD := hD0.self (sz := s.heap.size)
  generalize hAe : va_A (wM cy b u th pz) s.heap.size = A at hD ⊢
  have hA : ∀ q : Nat, s.heap.size ≤ q → A q := fun q h => by rw [← hAe]; exact Or.inr h
  have hS : va_S A s.heap s.heap [] := va_S.rf
  have hP : va_P D vwCl (wM cy b u th pz) s.heap := hP
  refine lv_aload_n hx hb dX3_bears_0 rfl (lv_at hl 0 rfl) ?_
  refine lv_iconst (v := 0) hx hb dX3_bears_1 (by decide) ?_
  refine va_put (D := D) (ci := 3) (v := .int 0) (ty := .int) (C := RX3) (T := TX3) (N := 8) hx hb hts inX3_bears_RX3 tyX3 tyX3_ok nmX3 hown hK hP hD hS 0 rfl rfl 0 (by decide) (hts _ kX3_bears_0) (fun _ h9 => h9) rfl (by decide +kernel) rfl rfl (Nat.le_of_ble_eq_true rfl) dX3_bears_2 (fun H locs hP hD hS => ?_)
  have hP : va_P D vwCl [(b 0, .inr (3, [.int 0, .ref (b 1), .int (nI (un u)), .ref (b 2), .ref (b 3), .ref (b 4), .ref (b 5), .ref (b 6)])), (b 1, .inl ((cy 0), 72, .inl (mh (uh u)))), (b 2, .inl ((cy 0), 36, .inl (mt (ul u) (uz u) (ut u)))), (b 3, .inl ((cy 0), 12, .inl (uw u))), (b 4, .inl ((cy 0), 12, .inl (ud u))), (b 5, .inl ((cy 0), 2, .inl (mb (uh u)))), (b 6, .inl ((cy 0), 12, .inl pz))] H := hP
  have hD : va_D A [(b 0, .inr (3, [.int 0, .ref (b 1), .int (nI (un u)), .ref (b 2), .ref (b 3), .ref (b 4), .ref (b 5), .ref (b 6)])), (b 1, .inl ((cy 0), 72, .inl (mh (uh u)))), (b 2, .inl ((cy 0), 36, .inl (mt (ul u) (uz u) (ut u)))), (b 3, .inl ((cy 0), 12, .inl (uw u))), (b 4, .inl ((cy 0), 12, .inl (ud u))), (b 5, .inl ((cy 0), 2, .inl (mb (uh u)))), (b 6, .inl ((cy 0), 12, .inl pz))] := hD
  have hP : va_P D vwCl (wM cy b u 0 pz) H := hP
  have hD : va_D A (wM cy b u 0 pz) := hD
  refine lv_iload_n hx hb dX3_bears_5 rfl (lv_at hl 1 rfl) ?_
  refine pc_calli (va_runS (As := [.int kv]) (rest := []) ⟨hx, hb, hml, hown, hts⟩ (mX3_isString l D cy kv) (va_cwS 1 hts gX3_bears_X3_isString rfl rfl rfl (by decide +kernel) ⟨Nat.le_of_ble_eq_true rfl, Nat.le_of_ble_eq_true rfl⟩) ⟨fun a U g mk q => q, fun U hU hW => ⟨rfl, trivial⟩⟩ rfl rfl hl.1 rfl (lv_room (Nat.le_of_ble_eq_true rfl)) dX3_bears_6 ⟨Nat.le_of_ble_eq_true rfl, Nat.le_of_ble_eq_true rfl⟩) (fun r9 hr9 => ?_)
  subst hr9
  refine lv_if_ne (tgt := 18) hx hb dX3_bears_9 (by decide) (fun c9 => ?_) (fun c9 => ?_)
  · obtain ⟨j, hj, rfl⟩ := isS_nat (bI_1.mp c9)
    have ej : ix (nI j) = j := ix_nI (show j < 2147483648 by omega)
    have hz9 : zh (uh u) < 1000000000 := hu.2.2.2.2
    refine lv_aload_n hx hb dX3_bears_18 rfl (lv_at hl 0 rfl) ?_
    refine lv_iload_n hx hb dX3_bears_19 rfl (lv_at hl 1 rfl) ?_
    refine lv_iconst (v := 4) hx hb dX3_bears_20 (by decide) ?_
    refine pc_calli (va_runV (As := [.int (nI j), .int 4]) (rest := []) ⟨hx, hb, hml, hown, hts⟩ (mX3_ha l D cy b u 0 pz j 4 hj (by decide)) (cwV 2 hts gX3_bears_X3_ha rfl rfl rfl (by decide +kernel) ⟨Nat.le_of_ble_eq_true rfl, Nat.le_of_ble_eq_true rfl⟩) ⟨fun a U g mk q => ⟨q.1, q.2.1, va_K.moved (u := U) (U := U.calling g mk a) (Vm.Alike.refl U.vm) q.2.2⟩, va_recv hK hP (ci := 3) (q0 := 0) rfl rfl, fun U hU hW => ⟨rfl, by rw [hU]; exact hP, va_K.moved hW.alike hK⟩⟩ rfl rfl hl.1 rfl (lv_room (Nat.le_of_ble_eq_true rfl)) dX3_bears_21 ⟨Nat.le_of_ble_eq_true rfl, Nat.le_of_ble_eq_true rfl⟩) (fun r9 hr9 => ?_)
    subst hr9
    refine pc_top (show haF (uh u) j 4 = zo (uh u) j from rfl) ?_
    refine lv_if_ne (tgt := 29) hx hb dX3_bears_24 (by decide) (fun c24 => ?_) (fun c24 => ?_)
    · refine lv_aload_n hx hb dX3_bears_29 rfl (lv_at hl 0 rfl) ?_
      have hPc := hP.sub (ws' := wM cy b u 0 pz) [0, 1, 2, 3, 4, 5, 6] rfl
      have hDc := hD.sub (ws' := wM cy b u 0 pz) [0, 1, 2, 3, 4, 5, 6] (by decide) rfl
      have hFc := va_free (wc := wM cy b u 0 pz) hD hS hA [0, 1, 2, 3, 4, 5, 6] rfl
      refine va_callr (va_runV (As := []) (rest := []) ⟨hx, hb, hml, hown, hts⟩ (mX3_kept l D cy H.size b u 0 pz) (cwV 0 hts gX3_bears_X3_kept rfl rfl rfl (by decide +kernel) ⟨Nat.le_of_ble_eq_true rfl, Nat.le_of_ble_eq_true rfl⟩) ⟨fun a U g mk q => ⟨q.1, q.2.1, q.2.2.1, va_K.moved (u := U) (U := U.calling g mk a) (Vm.Alike.refl U.vm) q.2.2.2.1, q.2.2.2.2.1, vKP.warm (U := U.calling g mk a) (State.WarmedH.refl U) q.2.2.2.2.2⟩, va_recv hK hPc (ci := 3) (q0 := 0) rfl rfl, fun U hU hW => ⟨rfl, by rw [hU], by rw [hU]; exact hPc, va_K.moved hW.alike hK, hDc.weaken (fun _ _ _ _ => trivial), hkp.warm hW⟩⟩ rfl rfl hl.1 rfl (lv_room (Nat.le_of_ble_eq_true rfl)) dX3_bears_30 ⟨Nat.le_of_ble_eq_true rfl, Nat.le_of_ble_eq_true rfl⟩) hS (fun q _ h => hFc q h) hFc (fun u9 ra t9 H1 locs ht9 hvm9 hw9 hB9 hz9 hk9 hS => ?_)
      obtain ⟨kq, rfl⟩ : ∃ z, z = u9 := ⟨_, rfl⟩
      obtain ⟨hP1, hD1⟩ := hB9
      rw [ht9] at hP1
      obtain ⟨hP, hD⟩ := va_join (wr := []) (w1 := wM cy b u 0 pz ++ kp cy ra kq.1 kq.2 (mh (uh u)) (mb (uh u))) hP hD [0, 1, 2, 3, 4, 5, 6] [] rfl rfl (by decide) (by decide) hk9 hFc hP1 hD1
      generalize H1 = H at hP hS ⊢
      have hP : va_P D vwCl (wM cy b u 0 pz ++ kp cy ra kq.1 kq.2 (mh (uh u)) (mb (uh u))) H := hP.sub [0, 1, 2, 3, 4, 5, 6, 7, 8, 9] rfl
      have hD : va_D A (wM cy b u 0 pz ++ kp cy ra kq.1 kq.2 (mh (uh u)) (mb (uh u))) := hD.sub [0, 1, 2, 3, 4, 5, 6, 7, 8, 9] (by decide) rfl
      clear hP1 hD1 hk9 hz9 ht9 hvm9 hPc hDc hFc
      refine W.widen (k := 3) (n := 76) (Nat.le_of_ble_eq_true rfl) (Nat.le_of_ble_eq_true rfl) ?_
      refine lv_astore_n (lv' := [(2, .ref ra), (0, .ref (b 0)), (1, .int (nI j))]) hx hb dX3_bears_33 rfl hl (by decide) rfl (fun ls hl => ?_)
      refine lv_iconst (v := (-1)) hx hb dX3_bears_34 (by decide) ?_
      refine lv_istore_n (lv' := [(3, .int (-1)), (2, .ref ra), (0, .ref (b 0)), (1, .int (nI j))]) hx hb dX3_bears_35 rfl hl (by decide) rfl (fun ls hl => ?_)
      refine lv_iconst (v := 0) hx hb dX3_bears_36 (by decide) ?_
      refine lv_istore (lv' := [(4, .int 0), (3, .int (-1)), (2, .ref ra), (0, .ref (b 0)), (1, .int (nI j))]) hx hb dX3_bears_37 hl (by decide) rfl (fun ls hl => ?_)
      have loop39 : ∀ (n9 : Nat) (w : Nat), w ≤ 21 → 21 - w < n9 → ∀ (H : Heap) (locs : List Loc), va_P D vwCl (wM cy b u 0 pz ++ kp cy ra kq.1 kq.2 (mh (uh u)) (mb (uh u))) H → va_D A (wM cy b u 0 pz ++ kp cy ra kq.1 kq.2 (mh (uh u)) (mb (uh u))) → va_S A s.heap H locs → ∀ ls : Array Slot, lv_has ls 6 [(0, .ref (b 0)), (1, .int (nI j)), (2, .ref ra), (3, .int (bearF (bearP u j) w)), (4, .int (nI w))] → W p l e (headSpec wsX3_bears ({ frames := 6, cells := 3, slots := 76, locals := 150 } : Room)).room s m ([.ref (b 0), .int (nI j)] : List Value).toArray below meth c H locs 3 76 (MQ below (va_Qi (fun (r8 : Int32) (u9 : US) => (exS (nI j) = 0 → r8 = bearF (bearP u (ix (nI j))) 21 ∧ u9 = u) ∧ (¬ exS (nI j) = 0 → u9 = u)) (fun (u9 : US) t => va_P D vwCl (wM cy b u9 (nI (exS (nI j))) pz) t.heap ∧ va_D A (wM cy b u9 (nI (exS (nI j))) pz)) A) ([.ref (b 0), .int (nI j)] : List Value).toArray s 3 76 A) (F0 m 39 ls []) := by
        intro n9
        induction n9 with
        | zero => intro w hw h9 H locs hP hD hS ls hl; exact absurd h9 (by omega)
        | succ n9 ih39 =>
          intro w hw h9 H locs hP hD hS ls hl
          refine lv_iload hx hb dX3_bears_39 (lv_at hl 4 rfl) ?_
          refine lv_bipush (v := 20) hx hb dX3_bears_41 (by decide) ?_
          refine lv_icmp_gt (tgt := 93) hx hb dX3_bears_43 (by decide) (fun c43 => ?_) (fun c43 => ?_)
          · have n43 : 20 < w := (nI_ltI (a := 20) (b := w) (by omega) (by omega)).mp c43
            refine lv_iload_n hx hb dX3_bears_93 rfl (lv_at hl 3 rfl) ?_
            have hex9 : exS (nI j) = 0 := by simp [exS, bI_1.mp c9, c24, c43]
            have hP9 : va_P D vwCl (wM cy b u (nI (exS (nI j))) pz) H := (by rw [hex9]; exact hP.sub [0, 1, 2, 3, 4, 5, 6] rfl)
            have hD9 : va_D A (wM cy b u (nI (exS (nI j))) pz) := (by rw [hex9]; exact hD.sub [0, 1, 2, 3, 4, 5, 6] (by decide) rfl)
            exact W.iret (v := bearF (bearP u j) w) hx hb hr (fun t ht hW => ⟨⟨bearF (bearP u j) w, u, rfl, ⟨fun _ => ⟨by rw [ej, show w = 21 by omega], rfl⟩, fun z => absurd hex9 z⟩, by rw [ht]; exact hP9, hD9⟩, hS.F ht⟩) hS.2.2 dX3_bears_94
          · have n43 : ¬ (20 < w) := fun h9 => c43 ((nI_ltI (a := 20) (b := w) (by omega) (by omega)).mpr h9)
            refine lv_iconst (v := 0) hx hb dX3_bears_46 (by decide) ?_
            refine lv_istore (lv' := [(5, .int 0), (0, .ref (b 0)), (1, .int (nI j)), (2, .ref ra), (3, .int (bearF (bearP u j) w)), (4, .int (nI w))]) hx hb dX3_bears_47 hl (by decide) rfl (fun ls hl => ?_)
            have loop49 : ∀ (n9 : Nat) (k : Nat), k ≤ 24 → 24 - k < n9 → ∀ (H : Heap) (locs : List Loc), va_P D vwCl (wM cy b (uH u (hN 0 12 (fun _ => nI w) (ud u) (uh u) k)) 0 pz ++ kp cy ra kq.1 kq.2 (mh (uh u)) (mb (uh u))) H → va_D A (wM cy b (uH u (hN 0 12 (fun _ => nI w) (ud u) (uh u) k)) 0 pz ++ kp cy ra kq.1 kq.2 (mh (uh u)) (mb (uh u))) → va_S A s.heap H locs → ∀ ls : Array Slot, lv_has ls 6 [(0, .ref (b 0)), (1, .int (nI j)), (2, .ref ra), (3, .int (bearF (bearP u j) w)), (4, .int (nI w)), (5, .int (nI k))] → W p l e (headSpec wsX3_bears ({ frames := 6, cells := 3, slots := 76, locals := 150 } : Room)).room s m ([.ref (b 0), .int (nI j)] : List Value).toArray below meth c H locs 3 76 (MQ below (va_Qi (fun (r8 : Int32) (u9 : US) => (exS (nI j) = 0 → r8 = bearF (bearP u (ix (nI j))) 21 ∧ u9 = u) ∧ (¬ exS (nI j) = 0 → u9 = u)) (fun (u9 : US) t => va_P D vwCl (wM cy b u9 (nI (exS (nI j))) pz) t.heap ∧ va_D A (wM cy b u9 (nI (exS (nI j))) pz)) A) ([.ref (b 0), .int (nI j)] : List Value).toArray s 3 76 A) (F0 m 49 ls []) := by
              intro n9
              induction n9 with
              | zero => intro k hk h9 H locs hP hD hS ls hl; exact absurd h9 (by omega)
              | succ n9 ih49 =>
                intro k hk h9 H locs hP hD hS ls hl
                refine lv_iload hx hb dX3_bears_49 (lv_at hl 5 rfl) ?_
                refine lv_bipush (v := 24) hx hb dX3_bears_51 (by decide) ?_
                refine lv_icmp_ge (tgt := 69) hx hb dX3_bears_53 (by decide) (fun c53 => ?_) (fun c53 => ?_)
                · have n53 : 24 ≤ k := (nI_leI (a := 24) (b := k) (by omega) (by omega)).mp c53
                  refine lv_aload_n hx hb dX3_bears_69 rfl (lv_at hl 0 rfl) ?_
                  refine lv_iload_n hx hb dX3_bears_70 rfl (lv_at hl 1 rfl) ?_
                  refine lv_iconst (v := 4) hx hb dX3_bears_71 (by decide) ?_
                  have hPc := hP.sub (ws' := wM cy b (uH u (hN 0 12 (fun _ => nI w) (ud u) (uh u) k)) 0 pz) [0, 1, 2, 3, 4, 5, 6] rfl
                  refine pc_calli (va_runV (As := [.int (nI j), .int 4]) (rest := []) ⟨hx, hb, hml, hown, hts⟩ (mX3_ha l D cy b (uH u (hN 0 12 (fun _ => nI w) (ud u) (uh u) k)) 0 pz j 4 hj (by decide)) (cwV 2 hts gX3_bears_X3_ha rfl rfl rfl (by decide +kernel) ⟨Nat.le_of_ble_eq_true rfl, Nat.le_of_ble_eq_true rfl⟩) ⟨fun a U g mk q => ⟨q.1, q.2.1, va_K.moved (u := U) (U := U.calling g mk a) (Vm.Alike.refl U.vm) q.2.2⟩, va_recv hK hPc (ci := 3) (q0 := 0) rfl rfl, fun U hU hW => ⟨rfl, by rw [hU]; exact hPc, va_K.moved hW.alike hK⟩⟩ rfl rfl hl.1 rfl (lv_room (Nat.le_of_ble_eq_true rfl)) dX3_bears_72 ⟨Nat.le_of_ble_eq_true rfl, Nat.le_of_ble_eq_true rfl⟩) (fun r9 hr9 => ?_)
                  subst hr9
                  refine pc_top (show haF (hN 0 12 (fun _ => nI w) (ud u) (uh u) k) j 4 = zo (hN 0 12 (fun _ => nI w) (ud u) (uh u) k) j from rfl) ?_
                  refine lv_iconst (v := 1) hx hb dX3_bears_75 (by decide) ?_
                  refine lv_icmp_ne (tgt := 82) hx hb dX3_bears_76 (by decide) (fun c76 => ?_) (fun c76 => ?_)
                  · have r9 : bearF (bearP u j) w = bearF (bearP u j) (w + 1) := (by simp [bearF, bear_no hu.1 hj (show ¬ zo (hN 0 12 (fun _ => nI w) (ud u) (uh u) 24) j = 1 from (show k = 24 by omega) ▸ c76)])
                    rw [r9] at hl
                    clear r9
                    refine lv_aload_n hx hb dX3_bears_82 rfl (lv_at hl 0 rfl) ?_
                    refine lv_aload_n hx hb dX3_bears_83 rfl (lv_at hl 2 rfl) ?_
                    have hPc := hP.sub (ws' := wM cy b (uH u (hN 0 12 (fun _ => nI w) (ud u) (uh u) k)) 0 pz ++ kp cy ra kq.1 kq.2 (mh (uh u)) (mb (uh u))) [0, 1, 2, 3, 4, 5, 6, 7, 8, 9] rfl
                    have hDc := hD.sub (ws' := wM cy b (uH u (hN 0 12 (fun _ => nI w) (ud u) (uh u) k)) 0 pz ++ kp cy ra kq.1 kq.2 (mh (uh u)) (mb (uh u))) [0, 1, 2, 3, 4, 5, 6, 7, 8, 9] (by decide) rfl
                    have hFc := va_free (wc := wM cy b (uH u (hN 0 12 (fun _ => nI w) (ud u) (uh u) k)) 0 pz ++ kp cy ra kq.1 kq.2 (mh (uh u)) (mb (uh u))) hD hS hA [0, 1, 2, 3, 4, 5, 6, 7, 8, 9] rfl
                    refine va_callv (va_runV (As := [.ref ra]) (rest := []) ⟨hx, hb, hml, hown, hts⟩ (mX3_bringBack l D cy H.size b (uH u (hN 0 12 (fun _ => nI w) (ud u) (uh u) k)) 0 pz ra kq.1 kq.2 (uh u)) (cwV 1 hts gX3_bears_X3_bringBack rfl rfl rfl (by decide +kernel) ⟨Nat.le_of_ble_eq_true rfl, Nat.le_of_ble_eq_true rfl⟩) ⟨fun a U g mk q => ⟨q.1, q.2.1, q.2.2.1, va_K.moved (u := U) (U := U.calling g mk a) (Vm.Alike.refl U.vm) q.2.2.2.1, q.2.2.2.2.1, vKP.warm (U := U.calling g mk a) (State.WarmedH.refl U) q.2.2.2.2.2⟩, va_recv hK hPc (ci := 3) (q0 := 0) rfl rfl, fun U hU hW => ⟨rfl, by rw [hU], by rw [hU]; exact hPc, va_K.moved hW.alike hK, hDc.weaken (fun _ _ _ _ => trivial), hkp.warm hW⟩⟩ rfl rfl hl.1 rfl (lv_room (Nat.le_of_ble_eq_true rfl)) dX3_bears_84 ⟨Nat.le_of_ble_eq_true rfl, Nat.le_of_ble_eq_true rfl⟩) hS (fun q _ h => hFc q h) hFc (fun u9 t9 H1 locs ht9 hvm9 hw9 hB9 hz9 hk9 hS => ?_)
                    obtain ⟨hP1, hD1⟩ := hB9
                    rw [ht9] at hP1
                    obtain ⟨hP, hD⟩ := va_join (wr := []) (w1 := wM cy b u 0 pz ++ kp cy ra kq.1 kq.2 (mh (uh u)) (mb (uh u))) hP hD [0, 1, 2, 3, 4, 5, 6, 7, 8, 9] [] rfl rfl (by decide) (by decide) hk9 hFc hP1 hD1
                    generalize H1 = H at hP hS ⊢
                    have hP : va_P D vwCl (wM cy b u 0 pz ++ kp cy ra kq.1 kq.2 (mh (uh u)) (mb (uh u))) H := hP.sub [0, 1, 2, 3, 4, 5, 6, 7, 8, 9] rfl
                    have hD : va_D A (wM cy b u 0 pz ++ kp cy ra kq.1 kq.2 (mh (uh u)) (mb (uh u))) := hD.sub [0, 1, 2, 3, 4, 5, 6, 7, 8, 9] (by decide) rfl
                    clear hP1 hD1 hk9 hz9 ht9 hvm9 hPc hDc hFc
                    refine lv_iinc (v := nI (w + 1)) (lv' := [(4, .int (nI (w + 1))), (0, .ref (b 0)), (1, .int (nI j)), (2, .ref ra), (3, .int (bearF (bearP u j) (w + 1))), (5, .int (nI k))]) hx hb dX3_bears_87 hl (k := 4) rfl ((show (nI w) + Int32.ofInt 1 = (nI w) + 1 from rfl).trans (show (nI w) + 1 = nI (w + 1) from nI_add w 1)) (by decide) rfl (fun ls hl => ?_)
                    refine lv_goto (tgt := 39) hx hb dX3_bears_90 (by decide) ?_
                    exact ih39 (w + 1) (by omega) (by omega) _ _ hP hD hS ls (lv_sub hl [1, 2, 3, 4, 0] rfl)
                  · refine lv_iload hx hb dX3_bears_79 (lv_at hl 4 rfl) ?_
                    refine pc_top (show nI w = bearF (bearP u j) (w + 1) from (by simp [bearF, bear_yes hj (show zo (hN 0 12 (fun _ => nI w) (ud u) (uh u) 24) j = 1 from (show k = 24 by omega) ▸ c76)])) ?_
                    refine lv_istore_n (lv' := [(3, .int (bearF (bearP u j) (w + 1))), (0, .ref (b 0)), (1, .int (nI j)), (2, .ref ra), (4, .int (nI w)), (5, .int (nI k))]) hx hb dX3_bears_81 rfl hl (by decide) rfl (fun ls hl => ?_)
                    refine lv_aload_n hx hb dX3_bears_82 rfl (lv_at hl 1 rfl) ?_
                    refine lv_aload_n hx hb dX3_bears_83 rfl (lv_at hl 3 rfl) ?_
                    have hPc := hP.sub (ws' := wM cy b (uH u (hN 0 12 (fun _ => nI w) (ud u) (uh u) k)) 0 pz ++ kp cy ra kq.1 kq.2 (mh (uh u)) (mb (uh u))) [0, 1, 2, 3, 4, 5, 6, 7, 8, 9] rfl
                    have hDc := hD.sub (ws' := wM cy b (uH u (hN 0 12 (fun _ => nI w) (ud u) (uh u) k)) 0 pz ++ kp cy ra kq.1 kq.2 (mh (uh u)) (mb (uh u))) [0, 1, 2, 3, 4, 5, 6, 7, 8, 9] (by decide) rfl
                    have hFc := va_free (wc := wM cy b (uH u (hN 0 12 (fun _ => nI w) (ud u) (uh u) k)) 0 pz ++ kp cy ra kq.1 kq.2 (mh (uh u)) (mb (uh u))) hD hS hA [0, 1, 2, 3, 4, 5, 6, 7, 8, 9] rfl
                    refine va_callv (va_runV (As := [.ref ra]) (rest := []) ⟨hx, hb, hml, hown, hts⟩ (mX3_bringBack l D cy H.size b (uH u (hN 0 12 (fun _ => nI w) (ud u) (uh u) k)) 0 pz ra kq.1 kq.2 (uh u)) (cwV 1 hts gX3_bears_X3_bringBack rfl rfl rfl (by decide +kernel) ⟨Nat.le_of_ble_eq_true rfl, Nat.le_of_ble_eq_true rfl⟩) ⟨fun a U g mk q => ⟨q.1, q.2.1, q.2.2.1, va_K.moved (u := U) (U := U.calling g mk a) (Vm.Alike.refl U.vm) q.2.2.2.1, q.2.2.2.2.1, vKP.warm (U := U.calling g mk a) (State.WarmedH.refl U) q.2.2.2.2.2⟩, va_recv hK hPc (ci := 3) (q0 := 0) rfl rfl, fun U hU hW => ⟨rfl, by rw [hU], by rw [hU]; exact hPc, va_K.moved hW.alike hK, hDc.weaken (fun _ _ _ _ => trivial), hkp.warm hW⟩⟩ rfl rfl hl.1 rfl (lv_room (Nat.le_of_ble_eq_true rfl)) dX3_bears_84 ⟨Nat.le_of_ble_eq_true rfl, Nat.le_of_ble_eq_true rfl⟩) hS (fun q _ h => hFc q h) hFc (fun u9 t9 H1 locs ht9 hvm9 hw9 hB9 hz9 hk9 hS => ?_)
                    obtain ⟨hP1, hD1⟩ := hB9
                    rw [ht9] at hP1
                    obtain ⟨hP, hD⟩ := va_join (wr := []) (w1 := wM cy b u 0 pz ++ kp cy ra kq.1 kq.2 (mh (uh u)) (mb (uh u))) hP hD [0, 1, 2, 3, 4, 5, 6, 7, 8, 9] [] rfl rfl (by decide) (by decide) hk9 hFc hP1 hD1
                    generalize H1 = H at hP hS ⊢
                    have hP : va_P D vwCl (wM cy b u 0 pz ++ kp cy ra kq.1 kq.2 (mh (uh u)) (mb (uh u))) H := hP.sub [0, 1, 2, 3, 4, 5, 6, 7, 8, 9] rfl
                    have hD : va_D A (wM cy b u 0 pz ++ kp cy ra kq.1 kq.2 (mh (uh u)) (mb (uh u))) := hD.sub [0, 1, 2, 3, 4, 5, 6, 7, 8, 9] (by decide) rfl
                    clear hP1 hD1 hk9 hz9 ht9 hvm9 hPc hDc hFc
                    refine lv_iinc (v := nI (w + 1)) (lv' := [(4, .int (nI (w + 1))), (3, .int (bearF (bearP u j) (w + 1))), (0, .ref (b 0)), (1, .int (nI j)), (2, .ref ra), (5, .int (nI k))]) hx hb dX3_bears_87 hl (k := 4) rfl ((show (nI w) + Int32.ofInt 1 = (nI w) + 1 from rfl).trans (show (nI w) + 1 = nI (w + 1) from nI_add w 1)) (by decide) rfl (fun ls hl => ?_)
                    refine lv_goto (tgt := 39) hx hb dX3_bears_90 (by decide) ?_
                    exact ih39 (w + 1) (by omega) (by omega) _ _ hP hD hS ls (lv_sub hl [2, 3, 4, 1, 0] rfl)
                · have n53 : ¬ (24 ≤ k) := fun h9 => c53 ((nI_leI (a := 24) (b := k) (by omega) (by omega)).mpr h9)
                  refine lv_aload_n hx hb dX3_bears_56 rfl (lv_at hl 0 rfl) ?_
                  refine lv_iload hx hb dX3_bears_57 (lv_at hl 4 rfl) ?_
                  have hPc := hP.sub (ws' := wM cy b (uH u (hN 0 12 (fun _ => nI w) (ud u) (uh u) k)) 0 pz) [0, 1, 2, 3, 4, 5, 6] rfl
                  have hDc := hD.sub (ws' := wM cy b (uH u (hN 0 12 (fun _ => nI w) (ud u) (uh u) k)) 0 pz) [0, 1, 2, 3, 4, 5, 6] (by decide) rfl
                  have hFc := va_free (wc := wM cy b (uH u (hN 0 12 (fun _ => nI w) (ud u) (uh u) k)) 0 pz) hD hS hA [0, 1, 2, 3, 4, 5, 6] rfl
                  refine va_calli (va_runV (As := [.int (nI w)]) (rest := []) ⟨hx, hb, hml, hown, hts⟩ (mX3_hourOn l D cy H.size b (uH u (hN 0 12 (fun _ => nI w) (ud u) (uh u) k)) 0 (by show zh (hN 0 12 (fun _ => nI w) (ud u) (uh u) k) < _; rw [zh_hN]; omega) (bd_hN hb9 k) (nI w)) (cwV 1 hts gX3_bears_X3_hourOn rfl rfl rfl (by decide +kernel) ⟨Nat.le_of_ble_eq_true rfl, Nat.le_of_ble_eq_true rfl⟩) ⟨fun a U g mk q => ⟨q.1, q.2.1, q.2.2.1, va_K.moved (u := U) (U := U.calling g mk a) (Vm.Alike.refl U.vm) q.2.2.2.1, q.2.2.2.2⟩, va_recv hK hPc (ci := 3) (q0 := 0) rfl rfl, fun U hU hW => ⟨rfl, by rw [hU], by rw [hU]; exact hPc, va_K.moved hW.alike hK, hDc.weaken (fun _ _ _ _ => trivial)⟩⟩ rfl rfl hl.1 rfl (lv_room (Nat.le_of_ble_eq_true rfl)) dX3_bears_59 ⟨Nat.le_of_ble_eq_true rfl, Nat.le_of_ble_eq_true rfl⟩) hS (fun q _ h => hFc q h) hFc (fun r9 u9 t9 H1 locs ht9 hvm9 hw9 hB9 hz9 hk9 hS => ?_)
                  obtain ⟨hP1, hD1⟩ := hB9
                  rw [ht9] at hP1
                  obtain ⟨hP, hD⟩ := va_join (wr := [(ra, .inl ((cy 4), 2, .inr (.inr (.inr (.inr (va_up (va_up (fun _ => none) 0 (some kq.1)) 1 (some kq.2))))))), (kq.1, .inl ((cy 0), 72, .inl (mh (uh u)))), (kq.2, .inl ((cy 0), 2, .inl (mb (uh u))))]) (w1 := wM cy b (uH u (hN 0 12 (fun _ => nI w) (ud u) (uh u) (k + 1))) 0 pz) hP hD [0, 1, 2, 3, 4, 5, 6] [7, 8, 9] rfl rfl (by decide) (by decide) hk9 hFc hP1 hD1
                  generalize H1 = H at hP hS ⊢
                  have hP : va_P D vwCl (wM cy b (uH u (hN 0 12 (fun _ => nI w) (ud u) (uh u) (k + 1))) 0 pz ++ kp cy ra kq.1 kq.2 (mh (uh u)) (mb (uh u))) H := hP.sub [3, 4, 5, 6, 7, 8, 9, 0, 1, 2] rfl
                  have hD : va_D A (wM cy b (uH u (hN 0 12 (fun _ => nI w) (ud u) (uh u) (k + 1))) 0 pz ++ kp cy ra kq.1 kq.2 (mh (uh u)) (mb (uh u))) := hD.sub [3, 4, 5, 6, 7, 8, 9, 0, 1, 2] (by decide) rfl
                  clear hP1 hD1 hk9 hz9 ht9 hvm9 hPc hDc hFc
                  subst hw9
                  refine lv_pop hx hb dX3_bears_62 rfl ?_
                  refine lv_iinc (v := nI (k + 1)) (lv' := [(5, .int (nI (k + 1))), (0, .ref (b 0)), (1, .int (nI j)), (2, .ref ra), (3, .int (bearF (bearP u j) w)), (4, .int (nI w))]) hx hb dX3_bears_63 hl (k := 5) rfl ((show (nI k) + Int32.ofInt 1 = (nI k) + 1 from rfl).trans (show (nI k) + 1 = nI (k + 1) from nI_add k 1)) (by decide) rfl (fun ls hl => ?_)
                  refine lv_goto (tgt := 49) hx hb dX3_bears_66 (by decide) ?_
                  exact ih49 (k + 1) (by omega) (by omega) _ _ hP hD hS ls (lv_sub hl [1, 2, 3, 4, 5, 0] rfl)
            exact loop49 (24 + 1) 0 (by decide) (by omega) _ _ hP hD hS ls (lv_sub hl [1, 2, 3, 4, 5, 0] rfl)
      exact loop39 (21 + 1) 0 (by decide) (by omega) _ _ hP hD hS ls (lv_sub hl [3, 4, 2, 1, 0] rfl)
    · refine lv_iconst (v := (-1)) hx hb dX3_bears_27 (by decide) ?_
      have hex9 : exS (nI j) = 0 := by simp [exS, bI_1.mp c9, c24]
      have hP9 : va_P D vwCl (wM cy b u (nI (exS (nI j))) pz) H := (by rw [hex9]; exact hP)
      have hD9 : va_D A (wM cy b u (nI (exS (nI j))) pz) := (by rw [hex9]; exact hD)
      refine W.widen (k := 3) (n := 76) (Nat.le_of_ble_eq_true rfl) (Nat.le_of_ble_eq_true rfl) ?_
      exact W.iret (v := (-1)) hx hb hr (fun t ht hW => ⟨⟨(-1), u, rfl, ⟨fun _ => ⟨by rw [ej]; exact (bear_none c24).symm, rfl⟩, fun z => absurd hex9 z⟩, by rw [ht]; exact hP9, hD9⟩, hS.F ht⟩) hS.2.2 dX3_bears_28
  · refine lv_aload_n hx hb dX3_bears_12 rfl (lv_at hl 0 rfl) ?_
    refine lv_iconst (v := 1) hx hb dX3_bears_13 (by decide) ?_
    have hPc := hP.sub (ws' := wM cy b u 0 pz) [0, 1, 2, 3, 4, 5, 6] rfl
    have hDc := hD.sub (ws' := wM cy b u 0 pz) [0, 1, 2, 3, 4, 5, 6] (by decide) rfl
    have hFc := va_free (wc := wM cy b u 0 pz) hD hS hA [0, 1, 2, 3, 4, 5, 6] rfl
    refine va_calli (va_runV (As := [.int 1]) (rest := []) ⟨hx, hb, hml, hown, hts⟩ (mX3_fail l D cy H.size b u 0 pz 1) (cwV 1 hts gX3_bears_X3_fail rfl rfl rfl (by decide +kernel) ⟨Nat.le_of_ble_eq_true rfl, Nat.le_of_ble_eq_true rfl⟩) ⟨fun a U g mk q => ⟨q.1, q.2.1, q.2.2.1, va_K.moved (u := U) (U := U.calling g mk a) (Vm.Alike.refl U.vm) q.2.2.2.1, q.2.2.2.2⟩, va_recv hK hPc (ci := 3) (q0 := 0) rfl rfl, fun U hU hW => ⟨rfl, by rw [hU], by rw [hU]; exact hPc, va_K.moved hW.alike hK, hDc.weaken (fun _ _ _ _ => trivial)⟩⟩ rfl rfl hl.1 rfl (lv_room (Nat.le_of_ble_eq_true rfl)) dX3_bears_14 ⟨Nat.le_of_ble_eq_true rfl, Nat.le_of_ble_eq_true rfl⟩) hS (fun q _ h => hFc q h) hFc (fun r9 u9 t9 H1 locs ht9 hvm9 hw9 hB9 hz9 hk9 hS => ?_)
    obtain ⟨hP1, hD1⟩ := hB9
    rw [ht9] at hP1
    obtain ⟨hP, hD⟩ := va_join (wr := []) (w1 := wM cy b u 1 pz) hP hD [0, 1, 2, 3, 4, 5, 6] [] rfl rfl (by decide) (by decide) hk9 hFc hP1 hD1
    generalize H1 = H at hP hS ⊢
    have hP : va_P D vwCl (wM cy b u 1 pz) H := hP.sub [0, 1, 2, 3, 4, 5, 6] rfl
    have hD : va_D A (wM cy b u 1 pz) := hD.sub [0, 1, 2, 3, 4, 5, 6] (by decide) rfl
    clear hP1 hD1 hk9 hz9 ht9 hvm9 hPc hDc hFc
    subst hw9
    have hex9 : exS kv = 1 := by simp [exS, bI_0.mp c9]
    have hP9 : va_P D vwCl (wM cy b u (nI (exS kv)) pz) H := (by rw [hex9]; exact hP)
    have hD9 : va_D A (wM cy b u (nI (exS kv)) pz) := (by rw [hex9]; exact hD)
    refine W.widen (k := 3) (n := 76) (Nat.le_of_ble_eq_true rfl) (Nat.le_of_ble_eq_true rfl) ?_
    exact W.iret (v := 0) hx hb hr (fun t ht hW => ⟨⟨0, u, rfl, ⟨fun z => absurd (hex9.symm.trans z) (by decide), fun _ => rfl⟩, by rw [ht]; exact hP9, hD9⟩, hS.F ht⟩) hS.2.2 dX3_bears_17

theorem inX3_first_RX3 : ∀ w ∈ u_ws RX3 TX3 8, w ∈ wsX3_first := by decide +kernel
theorem kX3_first_0 : (.fieldLink RX3 32 "WedgeHarpsModel" "thrown" "I" : Cond) ∈ wsX3_first := by decide +kernel
set_option maxHeartbeats 4000000 in
set_option maxRecDepth 100000 in
theorem mX3_first (l : Launch) (D : va_G) (cy : Nat → ClassId) (sz : Nat) (b : Nat → Nat) (u : US) (th : Int32) (hu : uOk u) (hb9 : bd (uh u)) : Met l yX3_first wsX3_first ({ frames := 6, cells := 3, slots := 76, locals := 150 } : Room) (va_Pc [.ref (b 0)] (fun U => U.heap.size = sz ∧ va_P D vwCl (wM cy b u th pz) U.heap ∧ va_K D vwCl (TY cy) U ∧ va_D (fun _ => True) (wM cy b u th pz) ∧ vKP cy U)) (va_Qi (fun (r8 : Int32) (u9 : US) => ((0 : Nat) = 0 → r8 = firF (uw u) (ud u) (uh u) 0 200 ∧ u9 = u) ∧ (¬ (0 : Nat) = 0 → u9 = u)) (fun (u9 : US) t => va_P D vwCl (wM cy b u9 (nI ((0 : Nat))) pz) t.heap ∧ va_D (va_A (wM cy b u th pz) sz) (wM cy b u9 (nI ((0 : Nat))) pz)) (va_A (wM cy b u th pz) sz)) 3 76 (va_A (wM cy b u th pz) sz) := by
  refine Met.ofW (cc := cX3_first) (maxL := 4) (ret := (some .int)) (by decide) rfl ?_
  intro p e s m args below meth c s₁ B hml hv
  obtain ⟨rfl, hsz, hP, hK, hD0, hkp⟩ := hv
  have hx := B.exec
  have hb := B.bytes
  have hr := B.returns
  have hts := atoms_spec (ws := wsX3_first) B.pre
  have hown : s.vm.findClass RX3 = some m.cls := findClass_of_methodNamed B.named
  have hlocks := B.notSynchronized
  have hl := lv_entry ([.ref (b 0)]) (n := 4) (Nat.le_of_ble_eq_true rfl)
  rw [lg_entry_eq]
  generalize (lg_sl ([.ref (b 0)]) ++ List.replicate (4 - (lg_sl ([.ref (b 0)])).length) Slot.unset).toArray = ls at hl ⊢
  have hl : lv_has ls 4 [(0, .ref (b 0))] := hl
  subst hsz
  have hD := hD0.self (sz := s.heap.size)
  generalize hAe : va_A (wM cy b u th pz) s.heap.size = A at hD ⊢
  have hA : ∀ q : Nat, s.heap.size ≤ q → A q := fun q h => by rw [← hAe]; exact Or.inr h
  have hS : va_S A s.heap s.heap [] := va_S.rf
  have hP : va_P D vwCl (wM cy b u th pz) s.heap := hP
  have hz9 : zh (uh u) < 1000000000 := hu.2.2.2.2
  refine lv_aload_n hx hb dX3_first_0 rfl (lv_at hl 0 rfl) ?_
  refine lv_iconst (v := 0) hx hb dX3_first_1 (by decide) ?_
  refine va_put (D := D) (ci := 3) (v := .int 0) (ty := .int) (C := RX3) (T := TX3) (N := 8) hx hb hts inX3_first_RX3 tyX3 tyX3_ok nmX3 hown hK hP hD hS 0 rfl rfl 0 (by decide) (hts _ kX3_first_0) (fun _ h9 => h9) rfl (by decide +kernel) rfl rfl (Nat.le_of_ble_eq_true rfl) dX3_first_2 (fun H locs hP hD hS => ?_)
  have hP : va_P D vwCl [(b 0, .inr (3, [.int 0, .ref (b 1), .int (nI (un u)), .ref (b 2), .ref (b 3), .ref (b 4), .ref (b 5), .ref (b 6)])), (b 1, .inl ((cy 0), 72, .inl (mh (uh u)))), (b 2, .inl ((cy 0), 36, .inl (mt (ul u) (uz u) (ut u)))), (b 3, .inl ((cy 0), 12, .inl (uw u))), (b 4, .inl ((cy 0), 12, .inl (ud u))), (b 5, .inl ((cy 0), 2, .inl (mb (uh u)))), (b 6, .inl ((cy 0), 12, .inl pz))] H := hP
  have hD : va_D A [(b 0, .inr (3, [.int 0, .ref (b 1), .int (nI (un u)), .ref (b 2), .ref (b 3), .ref (b 4), .ref (b 5), .ref (b 6)])), (b 1, .inl ((cy 0), 72, .inl (mh (uh u)))), (b 2, .inl ((cy 0), 36, .inl (mt (ul u) (uz u) (ut u)))), (b 3, .inl ((cy 0), 12, .inl (uw u))), (b 4, .inl ((cy 0), 12, .inl (ud u))), (b 5, .inl ((cy 0), 2, .inl (mb (uh u)))), (b 6, .inl ((cy 0), 12, .inl pz))] := hD
  have hP : va_P D vwCl (wM cy b u 0 pz) H := hP
  have hD : va_D A (wM cy b u 0 pz) := hD
  refine lv_aload_n hx hb dX3_first_5 rfl (lv_at hl 0 rfl) ?_
  have hPc := hP.sub (ws' := wM cy b u 0 pz) [0, 1, 2, 3, 4, 5, 6] rfl
  have hDc := hD.sub (ws' := wM cy b u 0 pz) [0, 1, 2, 3, 4, 5, 6] (by decide) rfl
  have hFc := va_free (wc := wM cy b u 0 pz) hD hS hA [0, 1, 2, 3, 4, 5, 6] rfl
  refine va_callr (va_runV (As := []) (rest := []) ⟨hx, hb, hml, hown, hts⟩ (mX3_kept l D cy H.size b u 0 pz) (cwV 0 hts gX3_first_X3_kept rfl rfl rfl (by decide +kernel) ⟨Nat.le_of_ble_eq_true rfl, Nat.le_of_ble_eq_true rfl⟩) ⟨fun a U g mk q => ⟨q.1, q.2.1, q.2.2.1, va_K.moved (u := U) (U := U.calling g mk a) (Vm.Alike.refl U.vm) q.2.2.2.1, q.2.2.2.2.1, vKP.warm (U := U.calling g mk a) (State.WarmedH.refl U) q.2.2.2.2.2⟩, va_recv hK hPc (ci := 3) (q0 := 0) rfl rfl, fun U hU hW => ⟨rfl, by rw [hU], by rw [hU]; exact hPc, va_K.moved hW.alike hK, hDc.weaken (fun _ _ _ _ => trivial), hkp.warm hW⟩⟩ rfl rfl hl.1 rfl (lv_room (Nat.le_of_ble_eq_true rfl)) dX3_first_6 ⟨Nat.le_of_ble_eq_true rfl, Nat.le_of_ble_eq_true rfl⟩) hS (fun q _ h => hFc q h) hFc (fun u9 ra t9 H1 locs ht9 hvm9 hw9 hB9 hz9 hk9 hS => ?_)
  obtain ⟨kq, rfl⟩ : ∃ z, z = u9 := ⟨_, rfl⟩
  obtain ⟨hP1, hD1⟩ := hB9
  rw [ht9] at hP1
  obtain ⟨hP, hD⟩ := va_join (wr := []) (w1 := wM cy b u 0 pz ++ kp cy ra kq.1 kq.2 (mh (uh u)) (mb (uh u))) hP hD [0, 1, 2, 3, 4, 5, 6] [] rfl rfl (by decide) (by decide) hk9 hFc hP1 hD1
  generalize H1 = H at hP hS ⊢
  have hP : va_P D vwCl (wM cy b u 0 pz ++ kp cy ra kq.1 kq.2 (mh (uh u)) (mb (uh u))) H := hP.sub [0, 1, 2, 3, 4, 5, 6, 7, 8, 9] rfl
  have hD : va_D A (wM cy b u 0 pz ++ kp cy ra kq.1 kq.2 (mh (uh u)) (mb (uh u))) := hD.sub [0, 1, 2, 3, 4, 5, 6, 7, 8, 9] (by decide) rfl
  clear hP1 hD1 hk9 hz9 ht9 hvm9 hPc hDc hFc
  refine W.widen (k := 3) (n := 76) (Nat.le_of_ble_eq_true rfl) (Nat.le_of_ble_eq_true rfl) ?_
  refine lv_astore_n (lv' := [(1, .ref ra), (0, .ref (b 0))]) hx hb dX3_first_9 rfl hl (by decide) rfl (fun ls hl => ?_)
  refine lv_iconst (v := 0) hx hb dX3_first_10 (by decide) ?_
  refine lv_istore_n (lv' := [(2, .int 0), (1, .ref ra), (0, .ref (b 0))]) hx hb dX3_first_11 rfl hl (by decide) rfl (fun ls hl => ?_)
  refine lv_iconst (v := 0) hx hb dX3_first_12 (by decide) ?_
  refine lv_istore_n (lv' := [(3, .int 0), (2, .int 0), (1, .ref ra), (0, .ref (b 0))]) hx hb dX3_first_13 rfl hl (by decide) rfl (fun ls hl => ?_)
  have loop14 : ∀ (n9 : Nat) (k : Nat) (n : Nat) (mk : Int32), k + n = 200 → FH u k n mk → n < n9 → ∀ (H : Heap) (locs : List Loc), va_P D vwCl (wM cy b (uH u (hN 0 12 (uw u) (ud u) (uh u) k)) 0 pz ++ kp cy ra kq.1 kq.2 (mh (uh u)) (mb (uh u))) H → va_D A (wM cy b (uH u (hN 0 12 (uw u) (ud u) (uh u) k)) 0 pz ++ kp cy ra kq.1 kq.2 (mh (uh u)) (mb (uh u))) → va_S A s.heap H locs → ∀ ls : Array Slot, lv_has ls 4 [(0, .ref (b 0)), (1, .ref ra), (2, .int mk), (3, .int (nI k))] → W p l e (headSpec wsX3_first ({ frames := 6, cells := 3, slots := 76, locals := 150 } : Room)).room s m ([.ref (b 0)] : List Value).toArray below meth c H locs 3 76 (MQ below (va_Qi (fun (r8 : Int32) (u9 : US) => ((0 : Nat) = 0 → r8 = firF (uw u) (ud u) (uh u) 0 200 ∧ u9 = u) ∧ (¬ (0 : Nat) = 0 → u9 = u)) (fun (u9 : US) t => va_P D vwCl (wM cy b u9 (nI ((0 : Nat))) pz) t.heap ∧ va_D A (wM cy b u9 (nI ((0 : Nat))) pz)) A) ([.ref (b 0)] : List Value).toArray s 3 76 A) (F0 m 14 ls []) := by
    intro n9
    induction n9 with
    | zero => intro k n mk hk hF h9 H locs hP hD hS ls hl; exact absurd h9 (by omega)
    | succ n9 ih14 =>
      intro k n mk hk hF h9 H locs hP hD hS ls hl
      refine lv_iload_n hx hb dX3_first_14 rfl (lv_at hl 3 rfl) ?_
      refine lv_sipush (v := 200) hx hb dX3_first_15 (by decide) ?_
      refine lv_icmp_ge (tgt := 36) hx hb dX3_first_18 (by decide) (fun c18 => ?_) (fun c18 => ?_)
      · have n18 : 200 ≤ k := (nI_leI (a := 200) (b := k) (by omega) (by omega)).mp c18
        refine lv_aload_n hx hb dX3_first_36 rfl (lv_at hl 0 rfl) ?_
        refine lv_aload_n hx hb dX3_first_37 rfl (lv_at hl 1 rfl) ?_
        have hPc := hP.sub (ws' := wM cy b (uH u (hN 0 12 (uw u) (ud u) (uh u) k)) 0 pz ++ kp cy ra kq.1 kq.2 (mh (uh u)) (mb (uh u))) [0, 1, 2, 3, 4, 5, 6, 7, 8, 9] rfl
        have hDc := hD.sub (ws' := wM cy b (uH u (hN 0 12 (uw u) (ud u) (uh u) k)) 0 pz ++ kp cy ra kq.1 kq.2 (mh (uh u)) (mb (uh u))) [0, 1, 2, 3, 4, 5, 6, 7, 8, 9] (by decide) rfl
        have hFc := va_free (wc := wM cy b (uH u (hN 0 12 (uw u) (ud u) (uh u) k)) 0 pz ++ kp cy ra kq.1 kq.2 (mh (uh u)) (mb (uh u))) hD hS hA [0, 1, 2, 3, 4, 5, 6, 7, 8, 9] rfl
        refine va_callv (va_runV (As := [.ref ra]) (rest := []) ⟨hx, hb, hml, hown, hts⟩ (mX3_bringBack l D cy H.size b (uH u (hN 0 12 (uw u) (ud u) (uh u) k)) 0 pz ra kq.1 kq.2 (uh u)) (cwV 1 hts gX3_first_X3_bringBack rfl rfl rfl (by decide +kernel) ⟨Nat.le_of_ble_eq_true rfl, Nat.le_of_ble_eq_true rfl⟩) ⟨fun a U g mk q => ⟨q.1, q.2.1, q.2.2.1, va_K.moved (u := U) (U := U.calling g mk a) (Vm.Alike.refl U.vm) q.2.2.2.1, q.2.2.2.2.1, vKP.warm (U := U.calling g mk a) (State.WarmedH.refl U) q.2.2.2.2.2⟩, va_recv hK hPc (ci := 3) (q0 := 0) rfl rfl, fun U hU hW => ⟨rfl, by rw [hU], by rw [hU]; exact hPc, va_K.moved hW.alike hK, hDc.weaken (fun _ _ _ _ => trivial), hkp.warm hW⟩⟩ rfl rfl hl.1 rfl (lv_room (Nat.le_of_ble_eq_true rfl)) dX3_first_38 ⟨Nat.le_of_ble_eq_true rfl, Nat.le_of_ble_eq_true rfl⟩) hS (fun q _ h => hFc q h) hFc (fun u9 t9 H1 locs ht9 hvm9 hw9 hB9 hz9 hk9 hS => ?_)
        obtain ⟨hP1, hD1⟩ := hB9
        rw [ht9] at hP1
        obtain ⟨hP, hD⟩ := va_join (wr := []) (w1 := wM cy b u 0 pz ++ kp cy ra kq.1 kq.2 (mh (uh u)) (mb (uh u))) hP hD [0, 1, 2, 3, 4, 5, 6, 7, 8, 9] [] rfl rfl (by decide) (by decide) hk9 hFc hP1 hD1
        generalize H1 = H at hP hS ⊢
        have hP : va_P D vwCl (wM cy b u 0 pz ++ kp cy ra kq.1 kq.2 (mh (uh u)) (mb (uh u))) H := hP.sub [0, 1, 2, 3, 4, 5, 6, 7, 8, 9] rfl
        have hD : va_D A (wM cy b u 0 pz ++ kp cy ra kq.1 kq.2 (mh (uh u)) (mb (uh u))) := hD.sub [0, 1, 2, 3, 4, 5, 6, 7, 8, 9] (by decide) rfl
        clear hP1 hD1 hk9 hz9 ht9 hvm9 hPc hDc hFc
        refine lv_iload_n hx hb dX3_first_41 rfl (lv_at hl 2 rfl) ?_
        refine lv_if_ne (tgt := 49) hx hb dX3_first_42 (by decide) (fun c42 => ?_) (fun c42 => ?_)
        · refine lv_iload_n hx hb dX3_first_49 rfl (lv_at hl 2 rfl) ?_
          refine pc_calli (va_runS (As := [.int mk]) (rest := []) ⟨hx, hb, hml, hown, hts⟩ (mJ6_numberOfTrailingZeros_0f7a4 l D cy mk) (va_cwS 1 hts gX3_first_J6_numberOfTrailingZeros_0f7a4 rfl rfl rfl (by decide +kernel) ⟨Nat.le_of_ble_eq_true rfl, Nat.le_of_ble_eq_true rfl⟩) ⟨fun a U g mk q => q, fun U hU hW => ⟨rfl, trivial⟩⟩ rfl rfl hl.1 rfl (lv_room (Nat.le_of_ble_eq_true rfl)) dX3_first_50 ⟨Nat.le_of_ble_eq_true rfl, Nat.le_of_ble_eq_true rfl⟩) (fun r9 hr9 => ?_)
          subst hr9
          have hex9 : (0 : Nat) = 0 := by simp []
          have hP9 : va_P D vwCl (wM cy b u (nI ((0 : Nat))) pz) H := (by rw [hex9]; exact hP.sub [0, 1, 2, 3, 4, 5, 6] rfl)
          have hD9 : va_D A (wM cy b u (nI ((0 : Nat))) pz) := (by rw [hex9]; exact hD.sub [0, 1, 2, 3, 4, 5, 6] (by decide) rfl)
          exact W.iret (v := ntzF mk) hx hb hr (fun t ht hW => ⟨⟨ntzF mk, u, rfl, ⟨fun _ => ⟨(FH_hit hF c42).symm, rfl⟩, fun z => absurd hex9 z⟩, by rw [ht]; exact hP9, hD9⟩, hS.F ht⟩) hS.2.2 dX3_first_53
        · refine lv_iconst (v := (-1)) hx hb dX3_first_45 (by decide) ?_
          refine lv_goto (tgt := 53) hx hb dX3_first_46 (by decide) ?_
          have hex9 : (0 : Nat) = 0 := by simp []
          have hP9 : va_P D vwCl (wM cy b u (nI ((0 : Nat))) pz) H := (by rw [hex9]; exact hP.sub [0, 1, 2, 3, 4, 5, 6] rfl)
          have hD9 : va_D A (wM cy b u (nI ((0 : Nat))) pz) := (by rw [hex9]; exact hD.sub [0, 1, 2, 3, 4, 5, 6] (by decide) rfl)
          exact W.iret (v := (-1)) hx hb hr (fun t ht hW => ⟨⟨(-1), u, rfl, ⟨fun _ => ⟨(FH_end (by rw [show n = 0 by omega] at hF; exact hF) c42).symm, rfl⟩, fun z => absurd hex9 z⟩, by rw [ht]; exact hP9, hD9⟩, hS.F ht⟩) hS.2.2 dX3_first_53
      · have n18 : ¬ (200 ≤ k) := fun h9 => c18 ((nI_leI (a := 200) (b := k) (by omega) (by omega)).mpr h9)
        obtain ⟨n2, rfl⟩ : ∃ n2, n = n2 + 1 := ⟨n - 1, by omega⟩
        refine lv_iload_n hx hb dX3_first_21 rfl (lv_at hl 2 rfl) ?_
        refine lv_if_ne (tgt := 36) hx hb dX3_first_22 (by decide) (fun c22 => ?_) (fun c22 => ?_)
        · refine lv_aload_n hx hb dX3_first_36 rfl (lv_at hl 0 rfl) ?_
          refine lv_aload_n hx hb dX3_first_37 rfl (lv_at hl 1 rfl) ?_
          have hPc := hP.sub (ws' := wM cy b (uH u (hN 0 12 (uw u) (ud u) (uh u) k)) 0 pz ++ kp cy ra kq.1 kq.2 (mh (uh u)) (mb (uh u))) [0, 1, 2, 3, 4, 5, 6, 7, 8, 9] rfl
          have hDc := hD.sub (ws' := wM cy b (uH u (hN 0 12 (uw u) (ud u) (uh u) k)) 0 pz ++ kp cy ra kq.1 kq.2 (mh (uh u)) (mb (uh u))) [0, 1, 2, 3, 4, 5, 6, 7, 8, 9] (by decide) rfl
          have hFc := va_free (wc := wM cy b (uH u (hN 0 12 (uw u) (ud u) (uh u) k)) 0 pz ++ kp cy ra kq.1 kq.2 (mh (uh u)) (mb (uh u))) hD hS hA [0, 1, 2, 3, 4, 5, 6, 7, 8, 9] rfl
          refine va_callv (va_runV (As := [.ref ra]) (rest := []) ⟨hx, hb, hml, hown, hts⟩ (mX3_bringBack l D cy H.size b (uH u (hN 0 12 (uw u) (ud u) (uh u) k)) 0 pz ra kq.1 kq.2 (uh u)) (cwV 1 hts gX3_first_X3_bringBack rfl rfl rfl (by decide +kernel) ⟨Nat.le_of_ble_eq_true rfl, Nat.le_of_ble_eq_true rfl⟩) ⟨fun a U g mk q => ⟨q.1, q.2.1, q.2.2.1, va_K.moved (u := U) (U := U.calling g mk a) (Vm.Alike.refl U.vm) q.2.2.2.1, q.2.2.2.2.1, vKP.warm (U := U.calling g mk a) (State.WarmedH.refl U) q.2.2.2.2.2⟩, va_recv hK hPc (ci := 3) (q0 := 0) rfl rfl, fun U hU hW => ⟨rfl, by rw [hU], by rw [hU]; exact hPc, va_K.moved hW.alike hK, hDc.weaken (fun _ _ _ _ => trivial), hkp.warm hW⟩⟩ rfl rfl hl.1 rfl (lv_room (Nat.le_of_ble_eq_true rfl)) dX3_first_38 ⟨Nat.le_of_ble_eq_true rfl, Nat.le_of_ble_eq_true rfl⟩) hS (fun q _ h => hFc q h) hFc (fun u9 t9 H1 locs ht9 hvm9 hw9 hB9 hz9 hk9 hS => ?_)
          obtain ⟨hP1, hD1⟩ := hB9
          rw [ht9] at hP1
          obtain ⟨hP, hD⟩ := va_join (wr := []) (w1 := wM cy b u 0 pz ++ kp cy ra kq.1 kq.2 (mh (uh u)) (mb (uh u))) hP hD [0, 1, 2, 3, 4, 5, 6, 7, 8, 9] [] rfl rfl (by decide) (by decide) hk9 hFc hP1 hD1
          generalize H1 = H at hP hS ⊢
          have hP : va_P D vwCl (wM cy b u 0 pz ++ kp cy ra kq.1 kq.2 (mh (uh u)) (mb (uh u))) H := hP.sub [0, 1, 2, 3, 4, 5, 6, 7, 8, 9] rfl
          have hD : va_D A (wM cy b u 0 pz ++ kp cy ra kq.1 kq.2 (mh (uh u)) (mb (uh u))) := hD.sub [0, 1, 2, 3, 4, 5, 6, 7, 8, 9] (by decide) rfl
          clear hP1 hD1 hk9 hz9 ht9 hvm9 hPc hDc hFc
          refine lv_iload_n hx hb dX3_first_41 rfl (lv_at hl 2 rfl) ?_
          refine lv_if_ne (tgt := 49) hx hb dX3_first_42 (by decide) (fun c42 => ?_) (fun c42 => absurd c42 (fun z => c22 z))
          refine lv_iload_n hx hb dX3_first_49 rfl (lv_at hl 2 rfl) ?_
          refine pc_calli (va_runS (As := [.int mk]) (rest := []) ⟨hx, hb, hml, hown, hts⟩ (mJ6_numberOfTrailingZeros_0f7a4 l D cy mk) (va_cwS 1 hts gX3_first_J6_numberOfTrailingZeros_0f7a4 rfl rfl rfl (by decide +kernel) ⟨Nat.le_of_ble_eq_true rfl, Nat.le_of_ble_eq_true rfl⟩) ⟨fun a U g mk q => q, fun U hU hW => ⟨rfl, trivial⟩⟩ rfl rfl hl.1 rfl (lv_room (Nat.le_of_ble_eq_true rfl)) dX3_first_50 ⟨Nat.le_of_ble_eq_true rfl, Nat.le_of_ble_eq_true rfl⟩) (fun r9 hr9 => ?_)
          subst hr9
          have hex9 : (0 : Nat) = 0 := by simp []
          have hP9 : va_P D vwCl (wM cy b u (nI ((0 : Nat))) pz) H := (by rw [hex9]; exact hP.sub [0, 1, 2, 3, 4, 5, 6] rfl)
          have hD9 : va_D A (wM cy b u (nI ((0 : Nat))) pz) := (by rw [hex9]; exact hD.sub [0, 1, 2, 3, 4, 5, 6] (by decide) rfl)
          exact W.iret (v := ntzF mk) hx hb hr (fun t ht hW => ⟨⟨ntzF mk, u, rfl, ⟨fun _ => ⟨(FH_hit hF c42).symm, rfl⟩, fun z => absurd hex9 z⟩, by rw [ht]; exact hP9, hD9⟩, hS.F ht⟩) hS.2.2 dX3_first_53
        · refine lv_aload_n hx hb dX3_first_25 rfl (lv_at hl 0 rfl) ?_
          have hPc := hP.sub (ws' := wM cy b (uH u (hN 0 12 (uw u) (ud u) (uh u) k)) 0 pz) [0, 1, 2, 3, 4, 5, 6] rfl
          have hDc := hD.sub (ws' := wM cy b (uH u (hN 0 12 (uw u) (ud u) (uh u) k)) 0 pz) [0, 1, 2, 3, 4, 5, 6] (by decide) rfl
          have hFc := va_free (wc := wM cy b (uH u (hN 0 12 (uw u) (ud u) (uh u) k)) 0 pz) hD hS hA [0, 1, 2, 3, 4, 5, 6] rfl
          refine va_calli (va_runV (As := []) (rest := []) ⟨hx, hb, hml, hown, hts⟩ (mX3_hourOn_ l D cy H.size b (uH u (hN 0 12 (uw u) (ud u) (uh u) k)) 0 (by show zh (hN 0 12 (uw u) (ud u) (uh u) k) < _; rw [zh_hN]; omega) (bd_hN hb9 k)) (cwV 0 hts gX3_first_X3_hourOn_ rfl rfl rfl (by decide +kernel) ⟨Nat.le_of_ble_eq_true rfl, Nat.le_of_ble_eq_true rfl⟩) ⟨fun a U g mk q => ⟨q.1, q.2.1, q.2.2.1, va_K.moved (u := U) (U := U.calling g mk a) (Vm.Alike.refl U.vm) q.2.2.2.1, q.2.2.2.2⟩, va_recv hK hPc (ci := 3) (q0 := 0) rfl rfl, fun U hU hW => ⟨rfl, by rw [hU], by rw [hU]; exact hPc, va_K.moved hW.alike hK, hDc.weaken (fun _ _ _ _ => trivial)⟩⟩ rfl rfl hl.1 rfl (lv_room (Nat.le_of_ble_eq_true rfl)) dX3_first_26 ⟨Nat.le_of_ble_eq_true rfl, Nat.le_of_ble_eq_true rfl⟩) hS (fun q _ h => hFc q h) hFc (fun r9 u9 t9 H1 locs ht9 hvm9 hw9 hB9 hz9 hk9 hS => ?_)
          obtain ⟨hP1, hD1⟩ := hB9
          rw [ht9] at hP1
          obtain ⟨hP, hD⟩ := va_join (wr := [(ra, .inl ((cy 4), 2, .inr (.inr (.inr (.inr (va_up (va_up (fun _ => none) 0 (some kq.1)) 1 (some kq.2))))))), (kq.1, .inl ((cy 0), 72, .inl (mh (uh u)))), (kq.2, .inl ((cy 0), 2, .inl (mb (uh u))))]) (w1 := wM cy b (uH u (hN 0 12 (uw u) (ud u) (uh u) (k + 1))) 0 pz) hP hD [0, 1, 2, 3, 4, 5, 6] [7, 8, 9] rfl rfl (by decide) (by decide) hk9 hFc hP1 hD1
          generalize H1 = H at hP hS ⊢
          have hP : va_P D vwCl (wM cy b (uH u (hN 0 12 (uw u) (ud u) (uh u) (k + 1))) 0 pz ++ kp cy ra kq.1 kq.2 (mh (uh u)) (mb (uh u))) H := hP.sub [3, 4, 5, 6, 7, 8, 9, 0, 1, 2] rfl
          have hD : va_D A (wM cy b (uH u (hN 0 12 (uw u) (ud u) (uh u) (k + 1))) 0 pz ++ kp cy ra kq.1 kq.2 (mh (uh u)) (mb (uh u))) := hD.sub [3, 4, 5, 6, 7, 8, 9, 0, 1, 2] (by decide) rfl
          clear hP1 hD1 hk9 hz9 ht9 hvm9 hPc hDc hFc
          subst hw9
          refine lv_istore_n (lv' := [(2, .int (msk (brk (uw u (zh (hN 0 12 (uw u) (ud u) (uh u) k) % 12)) (hN 0 12 (uw u) (ud u) (uh u) k)) 12)), (0, .ref (b 0)), (1, .ref ra), (3, .int (nI k))]) hx hb dX3_first_29 rfl hl (by decide) rfl (fun ls hl => ?_)
          refine lv_iinc (v := nI (k + 1)) (lv' := [(3, .int (nI (k + 1))), (2, .int (msk (brk (uw u (zh (hN 0 12 (uw u) (ud u) (uh u) k) % 12)) (hN 0 12 (uw u) (ud u) (uh u) k)) 12)), (0, .ref (b 0)), (1, .ref ra)]) hx hb dX3_first_30 hl (k := 3) rfl ((show (nI k) + Int32.ofInt 1 = (nI k) + 1 from rfl).trans (show (nI k) + 1 = nI (k + 1) from nI_add k 1)) (by decide) rfl (fun ls hl => ?_)
          refine lv_goto (tgt := 14) hx hb dX3_first_33 (by decide) ?_
          exact ih14 (k + 1) n2 (msk (brk (uw u (zh (hN 0 12 (uw u) (ud u) (uh u) k) % 12)) (hN 0 12 (uw u) (ud u) (uh u) k)) 12) (by omega) (FH_step hF c22) (by omega) _ _ hP hD hS ls (lv_sub hl [2, 3, 1, 0] rfl)
  exact loop14 (200 + 1) 0 200 0 rfl (FH_0 u) (by omega) _ _ hP hD hS ls (lv_sub hl [3, 2, 1, 0] rfl)

theorem inX3_foresee_RX3 : ∀ w ∈ u_ws RX3 TX3 8, w ∈ wsX3_foresee := by decide +kernel
theorem kX3_foresee_0 : (.fieldLink RX3 32 "WedgeHarpsModel" "thrown" "I" : Cond) ∈ wsX3_foresee := by decide +kernel
set_option maxHeartbeats 4000000 in
set_option maxRecDepth 100000 in
theorem mX3_foresee (l : Launch) (D : va_G) (cy : Nat → ClassId) (sz : Nat) (b : Nat → Nat) (u : US) (th : Int32) (hu : uOk u) (hb9 : bd (uh u)) (xv kv : Int32) : Met l yX3_foresee wsX3_foresee ({ frames := 6, cells := 3, slots := 76, locals := 150 } : Room) (va_Pc [.ref (b 0), .int xv, .int kv] (fun U => U.heap.size = sz ∧ va_P D vwCl (wM cy b u th pz) U.heap ∧ va_K D vwCl (TY cy) U ∧ va_D (fun _ => True) (wM cy b u th pz) ∧ vKP cy U)) (va_Qi (fun (r8 : Int32) (u9 : US) => (exFor xv kv = 0 → r8 = tone (hN (ix kv) (ix kv + 1) (uw u) (ud u) (uh u) (ix xv)) (ix kv) ∧ u9 = u) ∧ (¬ exFor xv kv = 0 → u9 = u)) (fun (u9 : US) t => va_P D vwCl (wM cy b u9 (nI (exFor xv kv)) pz) t.heap ∧ va_D (va_A (wM cy b u th pz) sz) (wM cy b u9 (nI (exFor xv kv)) pz)) (va_A (wM cy b u th pz) sz)) 3 76 (va_A (wM cy b u th pz) sz) := by
  refine Met.ofW (cc := cX3_foresee) (maxL := 5) (ret := (some .int)) (by decide) rfl ?_
  intro p e s m args below meth c s₁ B hml hv
  obtain ⟨rfl, hsz, hP, hK, hD0, hkp⟩ := hv
  have hx := B.exec
  have hb := B.bytes
  have hr := B.returns
  have hts := atoms_spec (ws := wsX3_foresee) B.pre
  have hown : s.vm.findClass RX3 = some m.cls := findClass_of_methodNamed B.named
  have hlocks := B.notSynchronized
  have hl := lv_entry ([.ref (b 0), .int xv, .int kv]) (n := 5) (Nat.le_of_ble_eq_true rfl)
  rw [lg_entry_eq]
  generalize (lg_sl ([.ref (b 0), .int xv, .int kv]) ++ List.replicate (5 - (lg_sl ([.ref (b 0), .int xv, .int kv])).length) Slot.unset).toArray = ls at hl ⊢
  have hl : lv_has ls 5 [(0, .ref (b 0)), (1, .int xv), (2, .int kv)] := hl
  subst hsz
  have hD := hD0.self (sz := s.heap.size)
  generalize hAe : va_A (wM cy b u th pz) s.heap.size = A at hD ⊢
  have hA : ∀ q : Nat, s.heap.size ≤ q → A q := fun q h => by rw [← hAe]; exact Or.inr h
  have hS : va_S A s.heap s.heap [] := va_S.rf
  have hP : va_P D vwCl (wM cy b u th pz) s.heap := hP
  refine lv_aload_n hx hb dX3_foresee_0 rfl (lv_at hl 0 rfl) ?_
  refine lv_iconst (v := 0) hx hb dX3_foresee_1 (by decide) ?_
  refine va_put (D := D) (ci := 3) (v := .int 0) (ty := .int) (C := RX3) (T := TX3) (N := 8) hx hb hts inX3_foresee_RX3 tyX3 tyX3_ok nmX3 hown hK hP hD hS 0 rfl rfl 0 (by decide) (hts _ kX3_foresee_0) (fun _ h9 => h9) rfl (by decide +kernel) rfl rfl (Nat.le_of_ble_eq_true rfl) dX3_foresee_2 (fun H locs hP hD hS => ?_)
  have hP : va_P D vwCl [(b 0, .inr (3, [.int 0, .ref (b 1), .int (nI (un u)), .ref (b 2), .ref (b 3), .ref (b 4), .ref (b 5), .ref (b 6)])), (b 1, .inl ((cy 0), 72, .inl (mh (uh u)))), (b 2, .inl ((cy 0), 36, .inl (mt (ul u) (uz u) (ut u)))), (b 3, .inl ((cy 0), 12, .inl (uw u))), (b 4, .inl ((cy 0), 12, .inl (ud u))), (b 5, .inl ((cy 0), 2, .inl (mb (uh u)))), (b 6, .inl ((cy 0), 12, .inl pz))] H := hP
  have hD : va_D A [(b 0, .inr (3, [.int 0, .ref (b 1), .int (nI (un u)), .ref (b 2), .ref (b 3), .ref (b 4), .ref (b 5), .ref (b 6)])), (b 1, .inl ((cy 0), 72, .inl (mh (uh u)))), (b 2, .inl ((cy 0), 36, .inl (mt (ul u) (uz u) (ut u)))), (b 3, .inl ((cy 0), 12, .inl (uw u))), (b 4, .inl ((cy 0), 12, .inl (ud u))), (b 5, .inl ((cy 0), 2, .inl (mb (uh u)))), (b 6, .inl ((cy 0), 12, .inl pz))] := hD
  have hP : va_P D vwCl (wM cy b u 0 pz) H := hP
  have hD : va_D A (wM cy b u 0 pz) := hD
  refine lv_iload_n hx hb dX3_foresee_5 rfl (lv_at hl 1 rfl) ?_
  refine lv_iconst (v := 1) hx hb dX3_foresee_6 (by decide) ?_
  refine lv_sipush (v := 200) hx hb dX3_foresee_7 (by decide) ?_
  refine pc_calli (va_runS (As := [.int xv, .int 1, .int 200]) (rest := []) ⟨hx, hb, hml, hown, hts⟩ (mX3_isIn l D cy xv 1 200) (va_cwS 3 hts gX3_foresee_X3_isIn rfl rfl rfl (by decide +kernel) ⟨Nat.le_of_ble_eq_true rfl, Nat.le_of_ble_eq_true rfl⟩) ⟨fun a U g mk q => q, fun U hU hW => ⟨rfl, trivial⟩⟩ rfl rfl hl.1 rfl (lv_room (Nat.le_of_ble_eq_true rfl)) dX3_foresee_10 ⟨Nat.le_of_ble_eq_true rfl, Nat.le_of_ble_eq_true rfl⟩) (fun r9 hr9 => ?_)
  subst hr9
  refine pc_top (show bI (isIn xv 1 200) = bI (isH xv) from (by rw [isIn_H])) ?_
  refine lv_if_ne (tgt := 22) hx hb dX3_foresee_13 (by decide) (fun c13 => ?_) (fun c13 => ?_)
  · refine lv_iload_n hx hb dX3_foresee_22 rfl (lv_at hl 2 rfl) ?_
    refine pc_calli (va_runS (As := [.int kv]) (rest := []) ⟨hx, hb, hml, hown, hts⟩ (mX3_isString l D cy kv) (va_cwS 1 hts gX3_foresee_X3_isString rfl rfl rfl (by decide +kernel) ⟨Nat.le_of_ble_eq_true rfl, Nat.le_of_ble_eq_true rfl⟩) ⟨fun a U g mk q => q, fun U hU hW => ⟨rfl, trivial⟩⟩ rfl rfl hl.1 rfl (lv_room (Nat.le_of_ble_eq_true rfl)) dX3_foresee_23 ⟨Nat.le_of_ble_eq_true rfl, Nat.le_of_ble_eq_true rfl⟩) (fun r9 hr9 => ?_)
    subst hr9
    refine lv_if_ne (tgt := 35) hx hb dX3_foresee_26 (by decide) (fun c26 => ?_) (fun c26 => ?_)
    · obtain ⟨i, hj1, hj2, rfl⟩ := isH_nat (bI_1.mp c13)
      have ei : ix (nI i) = i := ix_nI (show i < 2147483648 by omega)
      have hz9 : zh (uh u) < 1000000000 := hu.2.2.2.2
      obtain ⟨j, hj, rfl⟩ := isS_nat (bI_1.mp c26)
      have ej : ix (nI j) = j := ix_nI (show j < 2147483648 by omega)
      refine lv_aload_n hx hb dX3_foresee_35 rfl (lv_at hl 0 rfl) ?_
      have hPc := hP.sub (ws' := wM cy b u 0 pz) [0, 1, 2, 3, 4, 5, 6] rfl
      have hDc := hD.sub (ws' := wM cy b u 0 pz) [0, 1, 2, 3, 4, 5, 6] (by decide) rfl
      have hFc := va_free (wc := wM cy b u 0 pz) hD hS hA [0, 1, 2, 3, 4, 5, 6] rfl
      refine va_callr (va_runV (As := []) (rest := []) ⟨hx, hb, hml, hown, hts⟩ (mX3_kept l D cy H.size b u 0 pz) (cwV 0 hts gX3_foresee_X3_kept rfl rfl rfl (by decide +kernel) ⟨Nat.le_of_ble_eq_true rfl, Nat.le_of_ble_eq_true rfl⟩) ⟨fun a U g mk q => ⟨q.1, q.2.1, q.2.2.1, va_K.moved (u := U) (U := U.calling g mk a) (Vm.Alike.refl U.vm) q.2.2.2.1, q.2.2.2.2.1, vKP.warm (U := U.calling g mk a) (State.WarmedH.refl U) q.2.2.2.2.2⟩, va_recv hK hPc (ci := 3) (q0 := 0) rfl rfl, fun U hU hW => ⟨rfl, by rw [hU], by rw [hU]; exact hPc, va_K.moved hW.alike hK, hDc.weaken (fun _ _ _ _ => trivial), hkp.warm hW⟩⟩ rfl rfl hl.1 rfl (lv_room (Nat.le_of_ble_eq_true rfl)) dX3_foresee_36 ⟨Nat.le_of_ble_eq_true rfl, Nat.le_of_ble_eq_true rfl⟩) hS (fun q _ h => hFc q h) hFc (fun u9 ra t9 H1 locs ht9 hvm9 hw9 hB9 hz9 hk9 hS => ?_)
      obtain ⟨kq, rfl⟩ : ∃ z, z = u9 := ⟨_, rfl⟩
      obtain ⟨hP1, hD1⟩ := hB9
      rw [ht9] at hP1
      obtain ⟨hP, hD⟩ := va_join (wr := []) (w1 := wM cy b u 0 pz ++ kp cy ra kq.1 kq.2 (mh (uh u)) (mb (uh u))) hP hD [0, 1, 2, 3, 4, 5, 6] [] rfl rfl (by decide) (by decide) hk9 hFc hP1 hD1
      generalize H1 = H at hP hS ⊢
      have hP : va_P D vwCl (wM cy b u 0 pz ++ kp cy ra kq.1 kq.2 (mh (uh u)) (mb (uh u))) H := hP.sub [0, 1, 2, 3, 4, 5, 6, 7, 8, 9] rfl
      have hD : va_D A (wM cy b u 0 pz ++ kp cy ra kq.1 kq.2 (mh (uh u)) (mb (uh u))) := hD.sub [0, 1, 2, 3, 4, 5, 6, 7, 8, 9] (by decide) rfl
      clear hP1 hD1 hk9 hz9 ht9 hvm9 hPc hDc hFc
      refine W.widen (k := 3) (n := 76) (Nat.le_of_ble_eq_true rfl) (Nat.le_of_ble_eq_true rfl) ?_
      refine lv_astore_n (lv' := [(3, .ref ra), (0, .ref (b 0)), (1, .int (nI i)), (2, .int (nI j))]) hx hb dX3_foresee_39 rfl hl (by decide) rfl (fun ls hl => ?_)
      refine lv_iconst (v := 0) hx hb dX3_foresee_40 (by decide) ?_
      refine lv_istore (lv' := [(4, .int 0), (3, .ref ra), (0, .ref (b 0)), (1, .int (nI i)), (2, .int (nI j))]) hx hb dX3_foresee_41 hl (by decide) rfl (fun ls hl => ?_)
      have loop43 : ∀ (n9 : Nat) (k : Nat), k ≤ i → i - k < n9 → ∀ (H : Heap) (locs : List Loc), va_P D vwCl (wM cy b (uH u (hN 0 12 (uw u) (ud u) (uh u) k)) 0 pz ++ kp cy ra kq.1 kq.2 (mh (uh u)) (mb (uh u))) H → va_D A (wM cy b (uH u (hN 0 12 (uw u) (ud u) (uh u) k)) 0 pz ++ kp cy ra kq.1 kq.2 (mh (uh u)) (mb (uh u))) → va_S A s.heap H locs → ∀ ls : Array Slot, lv_has ls 5 [(0, .ref (b 0)), (1, .int (nI i)), (2, .int (nI j)), (3, .ref ra), (4, .int (nI k))] → W p l e (headSpec wsX3_foresee ({ frames := 6, cells := 3, slots := 76, locals := 150 } : Room)).room s m ([.ref (b 0), .int (nI i), .int (nI j)] : List Value).toArray below meth c H locs 3 76 (MQ below (va_Qi (fun (r8 : Int32) (u9 : US) => (exFor (nI i) (nI j) = 0 → r8 = tone (hN (ix (nI j)) (ix (nI j) + 1) (uw u) (ud u) (uh u) (ix (nI i))) (ix (nI j)) ∧ u9 = u) ∧ (¬ exFor (nI i) (nI j) = 0 → u9 = u)) (fun (u9 : US) t => va_P D vwCl (wM cy b u9 (nI (exFor (nI i) (nI j))) pz) t.heap ∧ va_D A (wM cy b u9 (nI (exFor (nI i) (nI j))) pz)) A) ([.ref (b 0), .int (nI i), .int (nI j)] : List Value).toArray s 3 76 A) (F0 m 43 ls []) := by
        intro n9
        induction n9 with
        | zero => intro k hk h9 H locs hP hD hS ls hl; exact absurd h9 (by omega)
        | succ n9 ih43 =>
          intro k hk h9 H locs hP hD hS ls hl
          refine lv_iload hx hb dX3_foresee_43 (lv_at hl 4 rfl) ?_
          refine lv_iload_n hx hb dX3_foresee_45 rfl (lv_at hl 1 rfl) ?_
          refine lv_icmp_ge (tgt := 60) hx hb dX3_foresee_46 (by decide) (fun c46 => ?_) (fun c46 => ?_)
          · have n46 : i ≤ k := (nI_leI (a := i) (b := k) (by omega) (by omega)).mp c46
            refine lv_aload_n hx hb dX3_foresee_60 rfl (lv_at hl 0 rfl) ?_
            refine lv_iload_n hx hb dX3_foresee_61 rfl (lv_at hl 2 rfl) ?_
            have hPc := hP.sub (ws' := wM cy b (uH u (hN 0 12 (uw u) (ud u) (uh u) k)) 0 pz) [0, 1, 2, 3, 4, 5, 6] rfl
            refine pc_calli (va_runV (As := [.int (nI j)]) (rest := []) ⟨hx, hb, hml, hown, hts⟩ (mX3_tone l D cy b (uH u (hN 0 12 (uw u) (ud u) (uh u) k)) 0 pz j hj) (cwV 1 hts gX3_foresee_X3_tone rfl rfl rfl (by decide +kernel) ⟨Nat.le_of_ble_eq_true rfl, Nat.le_of_ble_eq_true rfl⟩) ⟨fun a U g mk q => ⟨q.1, q.2.1, va_K.moved (u := U) (U := U.calling g mk a) (Vm.Alike.refl U.vm) q.2.2⟩, va_recv hK hPc (ci := 3) (q0 := 0) rfl rfl, fun U hU hW => ⟨rfl, by rw [hU]; exact hPc, va_K.moved hW.alike hK⟩⟩ rfl rfl hl.1 rfl (lv_room (Nat.le_of_ble_eq_true rfl)) dX3_foresee_62 ⟨Nat.le_of_ble_eq_true rfl, Nat.le_of_ble_eq_true rfl⟩) (fun r9 hr9 => ?_)
            subst hr9
            refine pc_top (show toneP (hN 0 12 (uw u) (ud u) (uh u) k) pz j = tone (hN 0 12 (uw u) (ud u) (uh u) k) j from (toneP_0 hj)) ?_
            refine lv_istore (lv' := [(4, .int (tone (hN 0 12 (uw u) (ud u) (uh u) k) j)), (0, .ref (b 0)), (1, .int (nI i)), (2, .int (nI j)), (3, .ref ra)]) hx hb dX3_foresee_65 hl (by decide) rfl (fun ls hl => ?_)
            refine lv_aload_n hx hb dX3_foresee_67 rfl (lv_at hl 1 rfl) ?_
            refine lv_aload_n hx hb dX3_foresee_68 rfl (lv_at hl 4 rfl) ?_
            have hPc := hP.sub (ws' := wM cy b (uH u (hN 0 12 (uw u) (ud u) (uh u) k)) 0 pz ++ kp cy ra kq.1 kq.2 (mh (uh u)) (mb (uh u))) [0, 1, 2, 3, 4, 5, 6, 7, 8, 9] rfl
            have hDc := hD.sub (ws' := wM cy b (uH u (hN 0 12 (uw u) (ud u) (uh u) k)) 0 pz ++ kp cy ra kq.1 kq.2 (mh (uh u)) (mb (uh u))) [0, 1, 2, 3, 4, 5, 6, 7, 8, 9] (by decide) rfl
            have hFc := va_free (wc := wM cy b (uH u (hN 0 12 (uw u) (ud u) (uh u) k)) 0 pz ++ kp cy ra kq.1 kq.2 (mh (uh u)) (mb (uh u))) hD hS hA [0, 1, 2, 3, 4, 5, 6, 7, 8, 9] rfl
            refine va_callv (va_runV (As := [.ref ra]) (rest := []) ⟨hx, hb, hml, hown, hts⟩ (mX3_bringBack l D cy H.size b (uH u (hN 0 12 (uw u) (ud u) (uh u) k)) 0 pz ra kq.1 kq.2 (uh u)) (cwV 1 hts gX3_foresee_X3_bringBack rfl rfl rfl (by decide +kernel) ⟨Nat.le_of_ble_eq_true rfl, Nat.le_of_ble_eq_true rfl⟩) ⟨fun a U g mk q => ⟨q.1, q.2.1, q.2.2.1, va_K.moved (u := U) (U := U.calling g mk a) (Vm.Alike.refl U.vm) q.2.2.2.1, q.2.2.2.2.1, vKP.warm (U := U.calling g mk a) (State.WarmedH.refl U) q.2.2.2.2.2⟩, va_recv hK hPc (ci := 3) (q0 := 0) rfl rfl, fun U hU hW => ⟨rfl, by rw [hU], by rw [hU]; exact hPc, va_K.moved hW.alike hK, hDc.weaken (fun _ _ _ _ => trivial), hkp.warm hW⟩⟩ rfl rfl hl.1 rfl (lv_room (Nat.le_of_ble_eq_true rfl)) dX3_foresee_69 ⟨Nat.le_of_ble_eq_true rfl, Nat.le_of_ble_eq_true rfl⟩) hS (fun q _ h => hFc q h) hFc (fun u9 t9 H1 locs ht9 hvm9 hw9 hB9 hz9 hk9 hS => ?_)
            obtain ⟨hP1, hD1⟩ := hB9
            rw [ht9] at hP1
            obtain ⟨hP, hD⟩ := va_join (wr := []) (w1 := wM cy b u 0 pz ++ kp cy ra kq.1 kq.2 (mh (uh u)) (mb (uh u))) hP hD [0, 1, 2, 3, 4, 5, 6, 7, 8, 9] [] rfl rfl (by decide) (by decide) hk9 hFc hP1 hD1
            generalize H1 = H at hP hS ⊢
            have hP : va_P D vwCl (wM cy b u 0 pz ++ kp cy ra kq.1 kq.2 (mh (uh u)) (mb (uh u))) H := hP.sub [0, 1, 2, 3, 4, 5, 6, 7, 8, 9] rfl
            have hD : va_D A (wM cy b u 0 pz ++ kp cy ra kq.1 kq.2 (mh (uh u)) (mb (uh u))) := hD.sub [0, 1, 2, 3, 4, 5, 6, 7, 8, 9] (by decide) rfl
            clear hP1 hD1 hk9 hz9 ht9 hvm9 hPc hDc hFc
            refine lv_iload hx hb dX3_foresee_72 (lv_at hl 0 rfl) ?_
            have hex9 : exFor (nI i) (nI j) = 0 := by simp [exFor, bI_1.mp c13, bI_1.mp c26, c46]
            have hP9 : va_P D vwCl (wM cy b u (nI (exFor (nI i) (nI j))) pz) H := (by rw [hex9]; exact hP.sub [0, 1, 2, 3, 4, 5, 6] rfl)
            have hD9 : va_D A (wM cy b u (nI (exFor (nI i) (nI j))) pz) := (by rw [hex9]; exact hD.sub [0, 1, 2, 3, 4, 5, 6] (by decide) rfl)
            exact W.iret (v := tone (hN 0 12 (uw u) (ud u) (uh u) k) j) hx hb hr (fun t ht hW => ⟨⟨tone (hN 0 12 (uw u) (ud u) (uh u) k) j, u, rfl, ⟨fun _ => ⟨by rw [ej, ei, show i = k by omega]; exact tone_alk (alk_hN (Nat.le_refl _) (by omega) hj k), rfl⟩, fun z => absurd hex9 z⟩, by rw [ht]; exact hP9, hD9⟩, hS.F ht⟩) hS.2.2 dX3_foresee_74
          · have n46 : ¬ (i ≤ k) := fun h9 => c46 ((nI_leI (a := i) (b := k) (by omega) (by omega)).mpr h9)
            refine lv_aload_n hx hb dX3_foresee_49 rfl (lv_at hl 0 rfl) ?_
            have hPc := hP.sub (ws' := wM cy b (uH u (hN 0 12 (uw u) (ud u) (uh u) k)) 0 pz) [0, 1, 2, 3, 4, 5, 6] rfl
            have hDc := hD.sub (ws' := wM cy b (uH u (hN 0 12 (uw u) (ud u) (uh u) k)) 0 pz) [0, 1, 2, 3, 4, 5, 6] (by decide) rfl
            have hFc := va_free (wc := wM cy b (uH u (hN 0 12 (uw u) (ud u) (uh u) k)) 0 pz) hD hS hA [0, 1, 2, 3, 4, 5, 6] rfl
            refine va_calli (va_runV (As := []) (rest := []) ⟨hx, hb, hml, hown, hts⟩ (mX3_hourOn_ l D cy H.size b (uH u (hN 0 12 (uw u) (ud u) (uh u) k)) 0 (by show zh (hN 0 12 (uw u) (ud u) (uh u) k) < _; rw [zh_hN]; omega) (bd_hN hb9 k)) (cwV 0 hts gX3_foresee_X3_hourOn_ rfl rfl rfl (by decide +kernel) ⟨Nat.le_of_ble_eq_true rfl, Nat.le_of_ble_eq_true rfl⟩) ⟨fun a U g mk q => ⟨q.1, q.2.1, q.2.2.1, va_K.moved (u := U) (U := U.calling g mk a) (Vm.Alike.refl U.vm) q.2.2.2.1, q.2.2.2.2⟩, va_recv hK hPc (ci := 3) (q0 := 0) rfl rfl, fun U hU hW => ⟨rfl, by rw [hU], by rw [hU]; exact hPc, va_K.moved hW.alike hK, hDc.weaken (fun _ _ _ _ => trivial)⟩⟩ rfl rfl hl.1 rfl (lv_room (Nat.le_of_ble_eq_true rfl)) dX3_foresee_50 ⟨Nat.le_of_ble_eq_true rfl, Nat.le_of_ble_eq_true rfl⟩) hS (fun q _ h => hFc q h) hFc (fun r9 u9 t9 H1 locs ht9 hvm9 hw9 hB9 hz9 hk9 hS => ?_)
            obtain ⟨hP1, hD1⟩ := hB9
            rw [ht9] at hP1
            obtain ⟨hP, hD⟩ := va_join (wr := [(ra, .inl ((cy 4), 2, .inr (.inr (.inr (.inr (va_up (va_up (fun _ => none) 0 (some kq.1)) 1 (some kq.2))))))), (kq.1, .inl ((cy 0), 72, .inl (mh (uh u)))), (kq.2, .inl ((cy 0), 2, .inl (mb (uh u))))]) (w1 := wM cy b (uH u (hN 0 12 (uw u) (ud u) (uh u) (k + 1))) 0 pz) hP hD [0, 1, 2, 3, 4, 5, 6] [7, 8, 9] rfl rfl (by decide) (by decide) hk9 hFc hP1 hD1
            generalize H1 = H at hP hS ⊢
            have hP : va_P D vwCl (wM cy b (uH u (hN 0 12 (uw u) (ud u) (uh u) (k + 1))) 0 pz ++ kp cy ra kq.1 kq.2 (mh (uh u)) (mb (uh u))) H := hP.sub [3, 4, 5, 6, 7, 8, 9, 0, 1, 2] rfl
            have hD : va_D A (wM cy b (uH u (hN 0 12 (uw u) (ud u) (uh u) (k + 1))) 0 pz ++ kp cy ra kq.1 kq.2 (mh (uh u)) (mb (uh u))) := hD.sub [3, 4, 5, 6, 7, 8, 9, 0, 1, 2] (by decide) rfl
            clear hP1 hD1 hk9 hz9 ht9 hvm9 hPc hDc hFc
            subst hw9
            refine lv_pop hx hb dX3_foresee_53 rfl ?_
            refine lv_iinc (v := nI (k + 1)) (lv' := [(4, .int (nI (k + 1))), (0, .ref (b 0)), (1, .int (nI i)), (2, .int (nI j)), (3, .ref ra)]) hx hb dX3_foresee_54 hl (k := 4) rfl ((show (nI k) + Int32.ofInt 1 = (nI k) + 1 from rfl).trans (show (nI k) + 1 = nI (k + 1) from nI_add k 1)) (by decide) rfl (fun ls hl => ?_)
            refine lv_goto (tgt := 43) hx hb dX3_foresee_57 (by decide) ?_
            exact ih43 (k + 1) (by omega) (by omega) _ _ hP hD hS ls (lv_sub hl [1, 2, 3, 4, 0] rfl)
      exact loop43 (i + 1) 0 (Nat.zero_le _) (by omega) _ _ hP hD hS ls (lv_sub hl [2, 3, 4, 1, 0] rfl)
    · refine lv_aload_n hx hb dX3_foresee_29 rfl (lv_at hl 0 rfl) ?_
      refine lv_iconst (v := 2) hx hb dX3_foresee_30 (by decide) ?_
      have hPc := hP.sub (ws' := wM cy b u 0 pz) [0, 1, 2, 3, 4, 5, 6] rfl
      have hDc := hD.sub (ws' := wM cy b u 0 pz) [0, 1, 2, 3, 4, 5, 6] (by decide) rfl
      have hFc := va_free (wc := wM cy b u 0 pz) hD hS hA [0, 1, 2, 3, 4, 5, 6] rfl
      refine va_calli (va_runV (As := [.int 2]) (rest := []) ⟨hx, hb, hml, hown, hts⟩ (mX3_fail l D cy H.size b u 0 pz 2) (cwV 1 hts gX3_foresee_X3_fail rfl rfl rfl (by decide +kernel) ⟨Nat.le_of_ble_eq_true rfl, Nat.le_of_ble_eq_true rfl⟩) ⟨fun a U g mk q => ⟨q.1, q.2.1, q.2.2.1, va_K.moved (u := U) (U := U.calling g mk a) (Vm.Alike.refl U.vm) q.2.2.2.1, q.2.2.2.2⟩, va_recv hK hPc (ci := 3) (q0 := 0) rfl rfl, fun U hU hW => ⟨rfl, by rw [hU], by rw [hU]; exact hPc, va_K.moved hW.alike hK, hDc.weaken (fun _ _ _ _ => trivial)⟩⟩ rfl rfl hl.1 rfl (lv_room (Nat.le_of_ble_eq_true rfl)) dX3_foresee_31 ⟨Nat.le_of_ble_eq_true rfl, Nat.le_of_ble_eq_true rfl⟩) hS (fun q _ h => hFc q h) hFc (fun r9 u9 t9 H1 locs ht9 hvm9 hw9 hB9 hz9 hk9 hS => ?_)
      obtain ⟨hP1, hD1⟩ := hB9
      rw [ht9] at hP1
      obtain ⟨hP, hD⟩ := va_join (wr := []) (w1 := wM cy b u 2 pz) hP hD [0, 1, 2, 3, 4, 5, 6] [] rfl rfl (by decide) (by decide) hk9 hFc hP1 hD1
      generalize H1 = H at hP hS ⊢
      have hP : va_P D vwCl (wM cy b u 2 pz) H := hP.sub [0, 1, 2, 3, 4, 5, 6] rfl
      have hD : va_D A (wM cy b u 2 pz) := hD.sub [0, 1, 2, 3, 4, 5, 6] (by decide) rfl
      clear hP1 hD1 hk9 hz9 ht9 hvm9 hPc hDc hFc
      subst hw9
      have hex9 : exFor xv kv = 2 := by simp [exFor, bI_1.mp c13, bI_0.mp c26]
      have hP9 : va_P D vwCl (wM cy b u (nI (exFor xv kv)) pz) H := (by rw [hex9]; exact hP)
      have hD9 : va_D A (wM cy b u (nI (exFor xv kv)) pz) := (by rw [hex9]; exact hD)
      refine W.widen (k := 3) (n := 76) (Nat.le_of_ble_eq_true rfl) (Nat.le_of_ble_eq_true rfl) ?_
      exact W.iret (v := 0) hx hb hr (fun t ht hW => ⟨⟨0, u, rfl, ⟨fun z => absurd (hex9.symm.trans z) (by decide), fun _ => rfl⟩, by rw [ht]; exact hP9, hD9⟩, hS.F ht⟩) hS.2.2 dX3_foresee_34
  · refine lv_aload_n hx hb dX3_foresee_16 rfl (lv_at hl 0 rfl) ?_
    refine lv_iconst (v := 1) hx hb dX3_foresee_17 (by decide) ?_
    have hPc := hP.sub (ws' := wM cy b u 0 pz) [0, 1, 2, 3, 4, 5, 6] rfl
    have hDc := hD.sub (ws' := wM cy b u 0 pz) [0, 1, 2, 3, 4, 5, 6] (by decide) rfl
    have hFc := va_free (wc := wM cy b u 0 pz) hD hS hA [0, 1, 2, 3, 4, 5, 6] rfl
    refine va_calli (va_runV (As := [.int 1]) (rest := []) ⟨hx, hb, hml, hown, hts⟩ (mX3_fail l D cy H.size b u 0 pz 1) (cwV 1 hts gX3_foresee_X3_fail rfl rfl rfl (by decide +kernel) ⟨Nat.le_of_ble_eq_true rfl, Nat.le_of_ble_eq_true rfl⟩) ⟨fun a U g mk q => ⟨q.1, q.2.1, q.2.2.1, va_K.moved (u := U) (U := U.calling g mk a) (Vm.Alike.refl U.vm) q.2.2.2.1, q.2.2.2.2⟩, va_recv hK hPc (ci := 3) (q0 := 0) rfl rfl, fun U hU hW => ⟨rfl, by rw [hU], by rw [hU]; exact hPc, va_K.moved hW.alike hK, hDc.weaken (fun _ _ _ _ => trivial)⟩⟩ rfl rfl hl.1 rfl (lv_room (Nat.le_of_ble_eq_true rfl)) dX3_foresee_18 ⟨Nat.le_of_ble_eq_true rfl, Nat.le_of_ble_eq_true rfl⟩) hS (fun q _ h => hFc q h) hFc (fun r9 u9 t9 H1 locs ht9 hvm9 hw9 hB9 hz9 hk9 hS => ?_)
    obtain ⟨hP1, hD1⟩ := hB9
    rw [ht9] at hP1
    obtain ⟨hP, hD⟩ := va_join (wr := []) (w1 := wM cy b u 1 pz) hP hD [0, 1, 2, 3, 4, 5, 6] [] rfl rfl (by decide) (by decide) hk9 hFc hP1 hD1
    generalize H1 = H at hP hS ⊢
    have hP : va_P D vwCl (wM cy b u 1 pz) H := hP.sub [0, 1, 2, 3, 4, 5, 6] rfl
    have hD : va_D A (wM cy b u 1 pz) := hD.sub [0, 1, 2, 3, 4, 5, 6] (by decide) rfl
    clear hP1 hD1 hk9 hz9 ht9 hvm9 hPc hDc hFc
    subst hw9
    have hex9 : exFor xv kv = 1 := by simp [exFor, bI_0.mp c13]
    have hP9 : va_P D vwCl (wM cy b u (nI (exFor xv kv)) pz) H := (by rw [hex9]; exact hP)
    have hD9 : va_D A (wM cy b u (nI (exFor xv kv)) pz) := (by rw [hex9]; exact hD)
    refine W.widen (k := 3) (n := 76) (Nat.le_of_ble_eq_true rfl) (Nat.le_of_ble_eq_true rfl) ?_
    exact W.iret (v := 0) hx hb hr (fun t ht hW => ⟨⟨0, u, rfl, ⟨fun z => absurd (hex9.symm.trans z) (by decide), fun _ => rfl⟩, by rw [ht]; exact hP9, hD9⟩, hS.F ht⟩) hS.2.2 dX3_foresee_21

theorem inX3_holds_RX3 : ∀ w ∈ u_ws RX3 TX3 8, w ∈ wsX3_holds := by decide +kernel
theorem kX3_holds_0 : (.fieldLink RX3 32 "WedgeHarpsModel" "thrown" "I" : Cond) ∈ wsX3_holds := by decide +kernel
set_option maxHeartbeats 4000000 in
set_option maxRecDepth 100000 in
theorem mX3_holds (l : Launch) (D : va_G) (cy : Nat → ClassId) (sz : Nat) (b : Nat → Nat) (u : US) (th : Int32) (hu : uOk u) (hb9 : bd (uh u)) (cv : Int32) : Met l yX3_holds wsX3_holds ({ frames := 7, cells := 3, slots := 76, locals := 170 } : Room) (va_Pc [.ref (b 0), .int cv] (fun U => U.heap.size = sz ∧ va_P D vwCl (wM cy b u th pz) U.heap ∧ va_K D vwCl (TY cy) U ∧ va_D (fun _ => True) (wM cy b u th pz) ∧ vKP cy U)) (va_Qi (fun (r8 : Int32) (u9 : US) => (exC u cv = 0 → r8 = lowF (fun k => !(holdP u (ix cv) k)) 0 201 ∧ u9 = u) ∧ (¬ exC u cv = 0 → u9 = u)) (fun (u9 : US) t => va_P D vwCl (wM cy b u9 (nI (exC u cv)) pz) t.heap ∧ va_D (va_A (wM cy b u th pz) sz) (wM cy b u9 (nI (exC u cv)) pz)) (va_A (wM cy b u th pz) sz)) 3 76 (va_A (wM cy b u th pz) sz) := by
  refine Met.ofW (cc := cX3_holds) (maxL := 4) (ret := (some .int)) (by decide) rfl ?_
  intro p e s m args below meth c s₁ B hml hv
  obtain ⟨rfl, hsz, hP, hK, hD0, hkp⟩ := hv
  have hx := B.exec
  have hb := B.bytes
  have hr := B.returns
  have hts := atoms_spec (ws := wsX3_holds) B.pre
  have hown : s.vm.findClass RX3 = some m.cls := findClass_of_methodNamed B.named
  have hlocks := B.notSynchronized
  have hl := lv_entry ([.ref (b 0), .int cv]) (n := 4) (Nat.le_of_ble_eq_true rfl)
  rw [lg_entry_eq]
  generalize (lg_sl ([.ref (b 0), .int cv]) ++ List.replicate (4 - (lg_sl ([.ref (b 0), .int cv])).length) Slot.unset).toArray = ls at hl ⊢
  have hl : lv_has ls 4 [(0, .ref (b 0)), (1, .int cv)] := hl
  subst hsz
  have hD := hD0.self (sz := s.heap.size)
  generalize hAe : va_A (wM cy b u th pz) s.heap.size = A at hD ⊢
  have hA : ∀ q : Nat, s.heap.size ≤ q → A q := fun q h => by rw [← hAe]; exact Or.inr h
  have hS : va_S A s.heap s.heap [] := va_S.rf
  have hP : va_P D vwCl (wM cy b u th pz) s.heap := hP
  refine lv_aload_n hx hb dX3_holds_0 rfl (lv_at hl 0 rfl) ?_
  refine lv_iconst (v := 0) hx hb dX3_holds_1 (by decide) ?_
  refine va_put (D := D) (ci := 3) (v := .int 0) (ty := .int) (C := RX3) (T := TX3) (N := 8) hx hb hts inX3_holds_RX3 tyX3 tyX3_ok nmX3 hown hK hP hD hS 0 rfl rfl 0 (by decide) (hts _ kX3_holds_0) (fun _ h9 => h9) rfl (by decide +kernel) rfl rfl (Nat.le_of_ble_eq_true rfl) dX3_holds_2 (fun H locs hP hD hS => ?_)
  have hP : va_P D vwCl [(b 0, .inr (3, [.int 0, .ref (b 1), .int (nI (un u)), .ref (b 2), .ref (b 3), .ref (b 4), .ref (b 5), .ref (b 6)])), (b 1, .inl ((cy 0), 72, .inl (mh (uh u)))), (b 2, .inl ((cy 0), 36, .inl (mt (ul u) (uz u) (ut u)))), (b 3, .inl ((cy 0), 12, .inl (uw u))), (b 4, .inl ((cy 0), 12, .inl (ud u))), (b 5, .inl ((cy 0), 2, .inl (mb (uh u)))), (b 6, .inl ((cy 0), 12, .inl pz))] H := hP
  have hD : va_D A [(b 0, .inr (3, [.int 0, .ref (b 1), .int (nI (un u)), .ref (b 2), .ref (b 3), .ref (b 4), .ref (b 5), .ref (b 6)])), (b 1, .inl ((cy 0), 72, .inl (mh (uh u)))), (b 2, .inl ((cy 0), 36, .inl (mt (ul u) (uz u) (ut u)))), (b 3, .inl ((cy 0), 12, .inl (uw u))), (b 4, .inl ((cy 0), 12, .inl (ud u))), (b 5, .inl ((cy 0), 2, .inl (mb (uh u)))), (b 6, .inl ((cy 0), 12, .inl pz))] := hD
  have hP : va_P D vwCl (wM cy b u 0 pz) H := hP
  have hD : va_D A (wM cy b u 0 pz) := hD
  refine lv_aload_n hx hb dX3_holds_5 rfl (lv_at hl 0 rfl) ?_
  refine lv_iload_n hx hb dX3_holds_6 rfl (lv_at hl 1 rfl) ?_
  refine pc_calli (va_runV (As := [.int cv]) (rest := []) ⟨hx, hb, hml, hown, hts⟩ (mX3_isChord l D cy b u 0 pz hu cv) (cwV 1 hts gX3_holds_X3_isChord rfl rfl rfl (by decide +kernel) ⟨Nat.le_of_ble_eq_true rfl, Nat.le_of_ble_eq_true rfl⟩) ⟨fun a U g mk q => ⟨q.1, q.2.1, va_K.moved (u := U) (U := U.calling g mk a) (Vm.Alike.refl U.vm) q.2.2⟩, va_recv hK hP (ci := 3) (q0 := 0) rfl rfl, fun U hU hW => ⟨rfl, by rw [hU]; exact hP, va_K.moved hW.alike hK⟩⟩ rfl rfl hl.1 rfl (lv_room (Nat.le_of_ble_eq_true rfl)) dX3_holds_7 ⟨Nat.le_of_ble_eq_true rfl, Nat.le_of_ble_eq_true rfl⟩) (fun r9 hr9 => ?_)
  subst hr9
  refine lv_if_ne (tgt := 19) hx hb dX3_holds_10 (by decide) (fun c10 => ?_) (fun c10 => ?_)
  · obtain ⟨j, hj, rfl⟩ := isC_nat hu.2.1 (bI_1.mp c10)
    have h6 : j < 6 := Nat.lt_of_lt_of_le hj hu.2.1
    have ej : ix (nI j) = j := ix_nI (show j < 2147483648 by omega)
    have hc9 := hu.2.2.1 j h6
    have hz9 : zh (uh u) < 1000000000 := hu.2.2.2.2
    refine lv_aload_n hx hb dX3_holds_19 rfl (lv_at hl 0 rfl) ?_
    have hPc := hP.sub (ws' := wM cy b u 0 pz) [0, 1, 2, 3, 4, 5, 6] rfl
    have hDc := hD.sub (ws' := wM cy b u 0 pz) [0, 1, 2, 3, 4, 5, 6] (by decide) rfl
    have hFc := va_free (wc := wM cy b u 0 pz) hD hS hA [0, 1, 2, 3, 4, 5, 6] rfl
    refine va_callr (va_runV (As := []) (rest := []) ⟨hx, hb, hml, hown, hts⟩ (mX3_kept l D cy H.size b u 0 pz) (cwV 0 hts gX3_holds_X3_kept rfl rfl rfl (by decide +kernel) ⟨Nat.le_of_ble_eq_true rfl, Nat.le_of_ble_eq_true rfl⟩) ⟨fun a U g mk q => ⟨q.1, q.2.1, q.2.2.1, va_K.moved (u := U) (U := U.calling g mk a) (Vm.Alike.refl U.vm) q.2.2.2.1, q.2.2.2.2.1, vKP.warm (U := U.calling g mk a) (State.WarmedH.refl U) q.2.2.2.2.2⟩, va_recv hK hPc (ci := 3) (q0 := 0) rfl rfl, fun U hU hW => ⟨rfl, by rw [hU], by rw [hU]; exact hPc, va_K.moved hW.alike hK, hDc.weaken (fun _ _ _ _ => trivial), hkp.warm hW⟩⟩ rfl rfl hl.1 rfl (lv_room (Nat.le_of_ble_eq_true rfl)) dX3_holds_20 ⟨Nat.le_of_ble_eq_true rfl, Nat.le_of_ble_eq_true rfl⟩) hS (fun q _ h => hFc q h) hFc (fun u9 ra t9 H1 locs ht9 hvm9 hw9 hB9 hz9 hk9 hS => ?_)
    obtain ⟨kq, rfl⟩ : ∃ z, z = u9 := ⟨_, rfl⟩
    obtain ⟨hP1, hD1⟩ := hB9
    rw [ht9] at hP1
    obtain ⟨hP, hD⟩ := va_join (wr := []) (w1 := wM cy b u 0 pz ++ kp cy ra kq.1 kq.2 (mh (uh u)) (mb (uh u))) hP hD [0, 1, 2, 3, 4, 5, 6] [] rfl rfl (by decide) (by decide) hk9 hFc hP1 hD1
    generalize H1 = H at hP hS ⊢
    have hP : va_P D vwCl (wM cy b u 0 pz ++ kp cy ra kq.1 kq.2 (mh (uh u)) (mb (uh u))) H := hP.sub [0, 1, 2, 3, 4, 5, 6, 7, 8, 9] rfl
    have hD : va_D A (wM cy b u 0 pz ++ kp cy ra kq.1 kq.2 (mh (uh u)) (mb (uh u))) := hD.sub [0, 1, 2, 3, 4, 5, 6, 7, 8, 9] (by decide) rfl
    clear hP1 hD1 hk9 hz9 ht9 hvm9 hPc hDc hFc
    refine W.widen (k := 3) (n := 76) (Nat.le_of_ble_eq_true rfl) (Nat.le_of_ble_eq_true rfl) ?_
    refine lv_astore_n (lv' := [(2, .ref ra), (0, .ref (b 0)), (1, .int (nI j))]) hx hb dX3_holds_23 rfl hl (by decide) rfl (fun ls hl => ?_)
    refine lv_iconst (v := 0) hx hb dX3_holds_24 (by decide) ?_
    refine lv_istore_n (lv' := [(3, .int 0), (2, .ref ra), (0, .ref (b 0)), (1, .int (nI j))]) hx hb dX3_holds_25 rfl hl (by decide) rfl (fun ls hl => ?_)
    have loop26 : ∀ (n9 : Nat) (k : Nat) (n : Nat), k + n = 200 → lowF (fun k => !(holdP u j k)) 0 201 = lowF (fun k => !(holdP u j k)) k (n + 1) → n < n9 → ∀ (H : Heap) (locs : List Loc), va_P D vwCl (wM cy b (uH u (hN 0 12 (uw u) (ud u) (uh u) k)) 0 pz ++ kp cy ra kq.1 kq.2 (mh (uh u)) (mb (uh u))) H → va_D A (wM cy b (uH u (hN 0 12 (uw u) (ud u) (uh u) k)) 0 pz ++ kp cy ra kq.1 kq.2 (mh (uh u)) (mb (uh u))) → va_S A s.heap H locs → ∀ ls : Array Slot, lv_has ls 4 [(0, .ref (b 0)), (1, .int (nI j)), (2, .ref ra), (3, .int (nI k))] → W p l e (headSpec wsX3_holds ({ frames := 7, cells := 3, slots := 76, locals := 170 } : Room)).room s m ([.ref (b 0), .int (nI j)] : List Value).toArray below meth c H locs 3 76 (MQ below (va_Qi (fun (r8 : Int32) (u9 : US) => (exC u (nI j) = 0 → r8 = lowF (fun k => !(holdP u (ix (nI j)) k)) 0 201 ∧ u9 = u) ∧ (¬ exC u (nI j) = 0 → u9 = u)) (fun (u9 : US) t => va_P D vwCl (wM cy b u9 (nI (exC u (nI j))) pz) t.heap ∧ va_D A (wM cy b u9 (nI (exC u (nI j))) pz)) A) ([.ref (b 0), .int (nI j)] : List Value).toArray s 3 76 A) (F0 m 26 ls []) := by
      intro n9
      induction n9 with
      | zero => intro k n hk hv h9 H locs hP hD hS ls hl; exact absurd h9 (by omega)
      | succ n9 ih26 =>
        intro k n hk hv h9 H locs hP hD hS ls hl
        refine lv_iload_n hx hb dX3_holds_26 rfl (lv_at hl 3 rfl) ?_
        refine lv_sipush (v := 200) hx hb dX3_holds_27 (by decide) ?_
        refine lv_icmp_ge (tgt := 52) hx hb dX3_holds_30 (by decide) (fun c30 => ?_) (fun c30 => ?_)
        · have n30 : 200 ≤ k := (nI_leI (a := 200) (b := k) (by omega) (by omega)).mp c30
          refine lv_aload_n hx hb dX3_holds_52 rfl (lv_at hl 0 rfl) ?_
          refine lv_iload_n hx hb dX3_holds_53 rfl (lv_at hl 1 rfl) ?_
          have hPc := hP.sub (ws' := wM cy b (uH u (hN 0 12 (uw u) (ud u) (uh u) k)) 0 pz) [0, 1, 2, 3, 4, 5, 6] rfl
          refine pc_calli (va_runV (As := [.int (nI j)]) (rest := []) ⟨hx, hb, hml, hown, hts⟩ (mX3_isSounding l D cy b (uH u (hN 0 12 (uw u) (ud u) (uh u) k)) 0 pz j h6 hc9) (cwV 1 hts gX3_holds_X3_isSounding rfl rfl rfl (by decide +kernel) ⟨Nat.le_of_ble_eq_true rfl, Nat.le_of_ble_eq_true rfl⟩) ⟨fun a U g mk q => ⟨q.1, q.2.1, va_K.moved (u := U) (U := U.calling g mk a) (Vm.Alike.refl U.vm) q.2.2⟩, va_recv hK hPc (ci := 3) (q0 := 0) rfl rfl, fun U hU hW => ⟨rfl, by rw [hU]; exact hPc, va_K.moved hW.alike hK⟩⟩ rfl rfl hl.1 rfl (lv_room (Nat.le_of_ble_eq_true rfl)) dX3_holds_54 ⟨Nat.le_of_ble_eq_true rfl, Nat.le_of_ble_eq_true rfl⟩) (fun r9 hr9 => ?_)
          subst hr9
          refine pc_top (show bI (sndP (hN 0 12 (uw u) (ud u) (uh u) k) pz (ul u j) (uz u j) (ut u j)) = bI (holdP u j k) from (congrArg bI ((sndP_0 hc9.1).trans (hold_eq hc9.1 k)))) ?_
          refine lv_if_eq (tgt := 62) hx hb dX3_holds_57 (by decide) (fun c57 => ?_) (fun c57 => ?_)
          · refine lv_aload_n hx hb dX3_holds_62 rfl (lv_at hl 0 rfl) ?_
            refine lv_aload_n hx hb dX3_holds_63 rfl (lv_at hl 2 rfl) ?_
            have hPc := hP.sub (ws' := wM cy b (uH u (hN 0 12 (uw u) (ud u) (uh u) k)) 0 pz ++ kp cy ra kq.1 kq.2 (mh (uh u)) (mb (uh u))) [0, 1, 2, 3, 4, 5, 6, 7, 8, 9] rfl
            have hDc := hD.sub (ws' := wM cy b (uH u (hN 0 12 (uw u) (ud u) (uh u) k)) 0 pz ++ kp cy ra kq.1 kq.2 (mh (uh u)) (mb (uh u))) [0, 1, 2, 3, 4, 5, 6, 7, 8, 9] (by decide) rfl
            have hFc := va_free (wc := wM cy b (uH u (hN 0 12 (uw u) (ud u) (uh u) k)) 0 pz ++ kp cy ra kq.1 kq.2 (mh (uh u)) (mb (uh u))) hD hS hA [0, 1, 2, 3, 4, 5, 6, 7, 8, 9] rfl
            refine va_callv (va_runV (As := [.ref ra]) (rest := []) ⟨hx, hb, hml, hown, hts⟩ (mX3_bringBack l D cy H.size b (uH u (hN 0 12 (uw u) (ud u) (uh u) k)) 0 pz ra kq.1 kq.2 (uh u)) (cwV 1 hts gX3_holds_X3_bringBack rfl rfl rfl (by decide +kernel) ⟨Nat.le_of_ble_eq_true rfl, Nat.le_of_ble_eq_true rfl⟩) ⟨fun a U g mk q => ⟨q.1, q.2.1, q.2.2.1, va_K.moved (u := U) (U := U.calling g mk a) (Vm.Alike.refl U.vm) q.2.2.2.1, q.2.2.2.2.1, vKP.warm (U := U.calling g mk a) (State.WarmedH.refl U) q.2.2.2.2.2⟩, va_recv hK hPc (ci := 3) (q0 := 0) rfl rfl, fun U hU hW => ⟨rfl, by rw [hU], by rw [hU]; exact hPc, va_K.moved hW.alike hK, hDc.weaken (fun _ _ _ _ => trivial), hkp.warm hW⟩⟩ rfl rfl hl.1 rfl (lv_room (Nat.le_of_ble_eq_true rfl)) dX3_holds_64 ⟨Nat.le_of_ble_eq_true rfl, Nat.le_of_ble_eq_true rfl⟩) hS (fun q _ h => hFc q h) hFc (fun u9 t9 H1 locs ht9 hvm9 hw9 hB9 hz9 hk9 hS => ?_)
            obtain ⟨hP1, hD1⟩ := hB9
            rw [ht9] at hP1
            obtain ⟨hP, hD⟩ := va_join (wr := []) (w1 := wM cy b u 0 pz ++ kp cy ra kq.1 kq.2 (mh (uh u)) (mb (uh u))) hP hD [0, 1, 2, 3, 4, 5, 6, 7, 8, 9] [] rfl rfl (by decide) (by decide) hk9 hFc hP1 hD1
            generalize H1 = H at hP hS ⊢
            have hP : va_P D vwCl (wM cy b u 0 pz ++ kp cy ra kq.1 kq.2 (mh (uh u)) (mb (uh u))) H := hP.sub [0, 1, 2, 3, 4, 5, 6, 7, 8, 9] rfl
            have hD : va_D A (wM cy b u 0 pz ++ kp cy ra kq.1 kq.2 (mh (uh u)) (mb (uh u))) := hD.sub [0, 1, 2, 3, 4, 5, 6, 7, 8, 9] (by decide) rfl
            clear hP1 hD1 hk9 hz9 ht9 hvm9 hPc hDc hFc
            refine lv_iload_n hx hb dX3_holds_67 rfl (lv_at hl 3 rfl) ?_
            have hex9 : exC u (nI j) = 0 := by simp [exC, bI_1.mp c10, c30, c57]
            have hP9 : va_P D vwCl (wM cy b u (nI (exC u (nI j))) pz) H := (by rw [hex9]; exact hP.sub [0, 1, 2, 3, 4, 5, 6] rfl)
            have hD9 : va_D A (wM cy b u (nI (exC u (nI j))) pz) := (by rw [hex9]; exact hD.sub [0, 1, 2, 3, 4, 5, 6] (by decide) rfl)
            exact W.iret (v := nI k) hx hb hr (fun t ht hW => ⟨⟨nI k, u, rfl, ⟨fun _ => ⟨by rw [ej, hv]; simp [lowF, bI_0.mp c57], rfl⟩, fun z => absurd hex9 z⟩, by rw [ht]; exact hP9, hD9⟩, hS.F ht⟩) hS.2.2 dX3_holds_68
          · refine lv_iconst (v := (-1)) hx hb dX3_holds_60 (by decide) ?_
            refine lv_istore_n (lv' := [(3, .int (-1)), (0, .ref (b 0)), (1, .int (nI j)), (2, .ref ra)]) hx hb dX3_holds_61 rfl hl (by decide) rfl (fun ls hl => ?_)
            refine lv_aload_n hx hb dX3_holds_62 rfl (lv_at hl 1 rfl) ?_
            refine lv_aload_n hx hb dX3_holds_63 rfl (lv_at hl 3 rfl) ?_
            have hPc := hP.sub (ws' := wM cy b (uH u (hN 0 12 (uw u) (ud u) (uh u) k)) 0 pz ++ kp cy ra kq.1 kq.2 (mh (uh u)) (mb (uh u))) [0, 1, 2, 3, 4, 5, 6, 7, 8, 9] rfl
            have hDc := hD.sub (ws' := wM cy b (uH u (hN 0 12 (uw u) (ud u) (uh u) k)) 0 pz ++ kp cy ra kq.1 kq.2 (mh (uh u)) (mb (uh u))) [0, 1, 2, 3, 4, 5, 6, 7, 8, 9] (by decide) rfl
            have hFc := va_free (wc := wM cy b (uH u (hN 0 12 (uw u) (ud u) (uh u) k)) 0 pz ++ kp cy ra kq.1 kq.2 (mh (uh u)) (mb (uh u))) hD hS hA [0, 1, 2, 3, 4, 5, 6, 7, 8, 9] rfl
            refine va_callv (va_runV (As := [.ref ra]) (rest := []) ⟨hx, hb, hml, hown, hts⟩ (mX3_bringBack l D cy H.size b (uH u (hN 0 12 (uw u) (ud u) (uh u) k)) 0 pz ra kq.1 kq.2 (uh u)) (cwV 1 hts gX3_holds_X3_bringBack rfl rfl rfl (by decide +kernel) ⟨Nat.le_of_ble_eq_true rfl, Nat.le_of_ble_eq_true rfl⟩) ⟨fun a U g mk q => ⟨q.1, q.2.1, q.2.2.1, va_K.moved (u := U) (U := U.calling g mk a) (Vm.Alike.refl U.vm) q.2.2.2.1, q.2.2.2.2.1, vKP.warm (U := U.calling g mk a) (State.WarmedH.refl U) q.2.2.2.2.2⟩, va_recv hK hPc (ci := 3) (q0 := 0) rfl rfl, fun U hU hW => ⟨rfl, by rw [hU], by rw [hU]; exact hPc, va_K.moved hW.alike hK, hDc.weaken (fun _ _ _ _ => trivial), hkp.warm hW⟩⟩ rfl rfl hl.1 rfl (lv_room (Nat.le_of_ble_eq_true rfl)) dX3_holds_64 ⟨Nat.le_of_ble_eq_true rfl, Nat.le_of_ble_eq_true rfl⟩) hS (fun q _ h => hFc q h) hFc (fun u9 t9 H1 locs ht9 hvm9 hw9 hB9 hz9 hk9 hS => ?_)
            obtain ⟨hP1, hD1⟩ := hB9
            rw [ht9] at hP1
            obtain ⟨hP, hD⟩ := va_join (wr := []) (w1 := wM cy b u 0 pz ++ kp cy ra kq.1 kq.2 (mh (uh u)) (mb (uh u))) hP hD [0, 1, 2, 3, 4, 5, 6, 7, 8, 9] [] rfl rfl (by decide) (by decide) hk9 hFc hP1 hD1
            generalize H1 = H at hP hS ⊢
            have hP : va_P D vwCl (wM cy b u 0 pz ++ kp cy ra kq.1 kq.2 (mh (uh u)) (mb (uh u))) H := hP.sub [0, 1, 2, 3, 4, 5, 6, 7, 8, 9] rfl
            have hD : va_D A (wM cy b u 0 pz ++ kp cy ra kq.1 kq.2 (mh (uh u)) (mb (uh u))) := hD.sub [0, 1, 2, 3, 4, 5, 6, 7, 8, 9] (by decide) rfl
            clear hP1 hD1 hk9 hz9 ht9 hvm9 hPc hDc hFc
            refine lv_iload_n hx hb dX3_holds_67 rfl (lv_at hl 0 rfl) ?_
            have hex9 : exC u (nI j) = 0 := by simp [exC, bI_1.mp c10, c30, c57]
            have hP9 : va_P D vwCl (wM cy b u (nI (exC u (nI j))) pz) H := (by rw [hex9]; exact hP.sub [0, 1, 2, 3, 4, 5, 6] rfl)
            have hD9 : va_D A (wM cy b u (nI (exC u (nI j))) pz) := (by rw [hex9]; exact hD.sub [0, 1, 2, 3, 4, 5, 6] (by decide) rfl)
            exact W.iret (v := (-1)) hx hb hr (fun t ht hW => ⟨⟨(-1), u, rfl, ⟨fun _ => ⟨by rw [ej, hv, show n = 0 by omega]; simp [lowF, bI_1.mp c57], rfl⟩, fun z => absurd hex9 z⟩, by rw [ht]; exact hP9, hD9⟩, hS.F ht⟩) hS.2.2 dX3_holds_68
        · have n30 : ¬ (200 ≤ k) := fun h9 => c30 ((nI_leI (a := 200) (b := k) (by omega) (by omega)).mpr h9)
          obtain ⟨n2, rfl⟩ : ∃ n2, n = n2 + 1 := ⟨n - 1, by omega⟩
          refine lv_aload_n hx hb dX3_holds_33 rfl (lv_at hl 0 rfl) ?_
          refine lv_iload_n hx hb dX3_holds_34 rfl (lv_at hl 1 rfl) ?_
          have hPc := hP.sub (ws' := wM cy b (uH u (hN 0 12 (uw u) (ud u) (uh u) k)) 0 pz) [0, 1, 2, 3, 4, 5, 6] rfl
          refine pc_calli (va_runV (As := [.int (nI j)]) (rest := []) ⟨hx, hb, hml, hown, hts⟩ (mX3_isSounding l D cy b (uH u (hN 0 12 (uw u) (ud u) (uh u) k)) 0 pz j h6 hc9) (cwV 1 hts gX3_holds_X3_isSounding rfl rfl rfl (by decide +kernel) ⟨Nat.le_of_ble_eq_true rfl, Nat.le_of_ble_eq_true rfl⟩) ⟨fun a U g mk q => ⟨q.1, q.2.1, va_K.moved (u := U) (U := U.calling g mk a) (Vm.Alike.refl U.vm) q.2.2⟩, va_recv hK hPc (ci := 3) (q0 := 0) rfl rfl, fun U hU hW => ⟨rfl, by rw [hU]; exact hPc, va_K.moved hW.alike hK⟩⟩ rfl rfl hl.1 rfl (lv_room (Nat.le_of_ble_eq_true rfl)) dX3_holds_35 ⟨Nat.le_of_ble_eq_true rfl, Nat.le_of_ble_eq_true rfl⟩) (fun r9 hr9 => ?_)
          subst hr9
          refine pc_top (show bI (sndP (hN 0 12 (uw u) (ud u) (uh u) k) pz (ul u j) (uz u j) (ut u j)) = bI (holdP u j k) from (congrArg bI ((sndP_0 hc9.1).trans (hold_eq hc9.1 k)))) ?_
          refine lv_if_eq (tgt := 52) hx hb dX3_holds_38 (by decide) (fun c38 => ?_) (fun c38 => ?_)
          · refine lv_aload_n hx hb dX3_holds_52 rfl (lv_at hl 0 rfl) ?_
            refine lv_iload_n hx hb dX3_holds_53 rfl (lv_at hl 1 rfl) ?_
            have hPc := hP.sub (ws' := wM cy b (uH u (hN 0 12 (uw u) (ud u) (uh u) k)) 0 pz) [0, 1, 2, 3, 4, 5, 6] rfl
            refine pc_calli (va_runV (As := [.int (nI j)]) (rest := []) ⟨hx, hb, hml, hown, hts⟩ (mX3_isSounding l D cy b (uH u (hN 0 12 (uw u) (ud u) (uh u) k)) 0 pz j h6 hc9) (cwV 1 hts gX3_holds_X3_isSounding rfl rfl rfl (by decide +kernel) ⟨Nat.le_of_ble_eq_true rfl, Nat.le_of_ble_eq_true rfl⟩) ⟨fun a U g mk q => ⟨q.1, q.2.1, va_K.moved (u := U) (U := U.calling g mk a) (Vm.Alike.refl U.vm) q.2.2⟩, va_recv hK hPc (ci := 3) (q0 := 0) rfl rfl, fun U hU hW => ⟨rfl, by rw [hU]; exact hPc, va_K.moved hW.alike hK⟩⟩ rfl rfl hl.1 rfl (lv_room (Nat.le_of_ble_eq_true rfl)) dX3_holds_54 ⟨Nat.le_of_ble_eq_true rfl, Nat.le_of_ble_eq_true rfl⟩) (fun r9 hr9 => ?_)
            subst hr9
            refine pc_top (show bI (sndP (hN 0 12 (uw u) (ud u) (uh u) k) pz (ul u j) (uz u j) (ut u j)) = bI (holdP u j k) from (congrArg bI ((sndP_0 hc9.1).trans (hold_eq hc9.1 k)))) ?_
            refine lv_if_eq (tgt := 62) hx hb dX3_holds_57 (by decide) (fun c57 => ?_) (fun c57 => absurd c57 (fun z => z c38))
            refine lv_aload_n hx hb dX3_holds_62 rfl (lv_at hl 0 rfl) ?_
            refine lv_aload_n hx hb dX3_holds_63 rfl (lv_at hl 2 rfl) ?_
            have hPc := hP.sub (ws' := wM cy b (uH u (hN 0 12 (uw u) (ud u) (uh u) k)) 0 pz ++ kp cy ra kq.1 kq.2 (mh (uh u)) (mb (uh u))) [0, 1, 2, 3, 4, 5, 6, 7, 8, 9] rfl
            have hDc := hD.sub (ws' := wM cy b (uH u (hN 0 12 (uw u) (ud u) (uh u) k)) 0 pz ++ kp cy ra kq.1 kq.2 (mh (uh u)) (mb (uh u))) [0, 1, 2, 3, 4, 5, 6, 7, 8, 9] (by decide) rfl
            have hFc := va_free (wc := wM cy b (uH u (hN 0 12 (uw u) (ud u) (uh u) k)) 0 pz ++ kp cy ra kq.1 kq.2 (mh (uh u)) (mb (uh u))) hD hS hA [0, 1, 2, 3, 4, 5, 6, 7, 8, 9] rfl
            refine va_callv (va_runV (As := [.ref ra]) (rest := []) ⟨hx, hb, hml, hown, hts⟩ (mX3_bringBack l D cy H.size b (uH u (hN 0 12 (uw u) (ud u) (uh u) k)) 0 pz ra kq.1 kq.2 (uh u)) (cwV 1 hts gX3_holds_X3_bringBack rfl rfl rfl (by decide +kernel) ⟨Nat.le_of_ble_eq_true rfl, Nat.le_of_ble_eq_true rfl⟩) ⟨fun a U g mk q => ⟨q.1, q.2.1, q.2.2.1, va_K.moved (u := U) (U := U.calling g mk a) (Vm.Alike.refl U.vm) q.2.2.2.1, q.2.2.2.2.1, vKP.warm (U := U.calling g mk a) (State.WarmedH.refl U) q.2.2.2.2.2⟩, va_recv hK hPc (ci := 3) (q0 := 0) rfl rfl, fun U hU hW => ⟨rfl, by rw [hU], by rw [hU]; exact hPc, va_K.moved hW.alike hK, hDc.weaken (fun _ _ _ _ => trivial), hkp.warm hW⟩⟩ rfl rfl hl.1 rfl (lv_room (Nat.le_of_ble_eq_true rfl)) dX3_holds_64 ⟨Nat.le_of_ble_eq_true rfl, Nat.le_of_ble_eq_true rfl⟩) hS (fun q _ h => hFc q h) hFc (fun u9 t9 H1 locs ht9 hvm9 hw9 hB9 hz9 hk9 hS => ?_)
            obtain ⟨hP1, hD1⟩ := hB9
            rw [ht9] at hP1
            obtain ⟨hP, hD⟩ := va_join (wr := []) (w1 := wM cy b u 0 pz ++ kp cy ra kq.1 kq.2 (mh (uh u)) (mb (uh u))) hP hD [0, 1, 2, 3, 4, 5, 6, 7, 8, 9] [] rfl rfl (by decide) (by decide) hk9 hFc hP1 hD1
            generalize H1 = H at hP hS ⊢
            have hP : va_P D vwCl (wM cy b u 0 pz ++ kp cy ra kq.1 kq.2 (mh (uh u)) (mb (uh u))) H := hP.sub [0, 1, 2, 3, 4, 5, 6, 7, 8, 9] rfl
            have hD : va_D A (wM cy b u 0 pz ++ kp cy ra kq.1 kq.2 (mh (uh u)) (mb (uh u))) := hD.sub [0, 1, 2, 3, 4, 5, 6, 7, 8, 9] (by decide) rfl
            clear hP1 hD1 hk9 hz9 ht9 hvm9 hPc hDc hFc
            refine lv_iload_n hx hb dX3_holds_67 rfl (lv_at hl 3 rfl) ?_
            have hex9 : exC u (nI j) = 0 := by simp [exC, bI_1.mp c10, c30, c38, c57]
            have hP9 : va_P D vwCl (wM cy b u (nI (exC u (nI j))) pz) H := (by rw [hex9]; exact hP.sub [0, 1, 2, 3, 4, 5, 6] rfl)
            have hD9 : va_D A (wM cy b u (nI (exC u (nI j))) pz) := (by rw [hex9]; exact hD.sub [0, 1, 2, 3, 4, 5, 6] (by decide) rfl)
            exact W.iret (v := nI k) hx hb hr (fun t ht hW => ⟨⟨nI k, u, rfl, ⟨fun _ => ⟨by rw [ej, hv]; simp [lowF, bI_0.mp c57], rfl⟩, fun z => absurd hex9 z⟩, by rw [ht]; exact hP9, hD9⟩, hS.F ht⟩) hS.2.2 dX3_holds_68
          · refine lv_aload_n hx hb dX3_holds_41 rfl (lv_at hl 0 rfl) ?_
            have hPc := hP.sub (ws' := wM cy b (uH u (hN 0 12 (uw u) (ud u) (uh u) k)) 0 pz) [0, 1, 2, 3, 4, 5, 6] rfl
            have hDc := hD.sub (ws' := wM cy b (uH u (hN 0 12 (uw u) (ud u) (uh u) k)) 0 pz) [0, 1, 2, 3, 4, 5, 6] (by decide) rfl
            have hFc := va_free (wc := wM cy b (uH u (hN 0 12 (uw u) (ud u) (uh u) k)) 0 pz) hD hS hA [0, 1, 2, 3, 4, 5, 6] rfl
            refine va_calli (va_runV (As := []) (rest := []) ⟨hx, hb, hml, hown, hts⟩ (mX3_hourOn_ l D cy H.size b (uH u (hN 0 12 (uw u) (ud u) (uh u) k)) 0 (by show zh (hN 0 12 (uw u) (ud u) (uh u) k) < _; rw [zh_hN]; omega) (bd_hN hb9 k)) (cwV 0 hts gX3_holds_X3_hourOn_ rfl rfl rfl (by decide +kernel) ⟨Nat.le_of_ble_eq_true rfl, Nat.le_of_ble_eq_true rfl⟩) ⟨fun a U g mk q => ⟨q.1, q.2.1, q.2.2.1, va_K.moved (u := U) (U := U.calling g mk a) (Vm.Alike.refl U.vm) q.2.2.2.1, q.2.2.2.2⟩, va_recv hK hPc (ci := 3) (q0 := 0) rfl rfl, fun U hU hW => ⟨rfl, by rw [hU], by rw [hU]; exact hPc, va_K.moved hW.alike hK, hDc.weaken (fun _ _ _ _ => trivial)⟩⟩ rfl rfl hl.1 rfl (lv_room (Nat.le_of_ble_eq_true rfl)) dX3_holds_42 ⟨Nat.le_of_ble_eq_true rfl, Nat.le_of_ble_eq_true rfl⟩) hS (fun q _ h => hFc q h) hFc (fun r9 u9 t9 H1 locs ht9 hvm9 hw9 hB9 hz9 hk9 hS => ?_)
            obtain ⟨hP1, hD1⟩ := hB9
            rw [ht9] at hP1
            obtain ⟨hP, hD⟩ := va_join (wr := [(ra, .inl ((cy 4), 2, .inr (.inr (.inr (.inr (va_up (va_up (fun _ => none) 0 (some kq.1)) 1 (some kq.2))))))), (kq.1, .inl ((cy 0), 72, .inl (mh (uh u)))), (kq.2, .inl ((cy 0), 2, .inl (mb (uh u))))]) (w1 := wM cy b (uH u (hN 0 12 (uw u) (ud u) (uh u) (k + 1))) 0 pz) hP hD [0, 1, 2, 3, 4, 5, 6] [7, 8, 9] rfl rfl (by decide) (by decide) hk9 hFc hP1 hD1
            generalize H1 = H at hP hS ⊢
            have hP : va_P D vwCl (wM cy b (uH u (hN 0 12 (uw u) (ud u) (uh u) (k + 1))) 0 pz ++ kp cy ra kq.1 kq.2 (mh (uh u)) (mb (uh u))) H := hP.sub [3, 4, 5, 6, 7, 8, 9, 0, 1, 2] rfl
            have hD : va_D A (wM cy b (uH u (hN 0 12 (uw u) (ud u) (uh u) (k + 1))) 0 pz ++ kp cy ra kq.1 kq.2 (mh (uh u)) (mb (uh u))) := hD.sub [3, 4, 5, 6, 7, 8, 9, 0, 1, 2] (by decide) rfl
            clear hP1 hD1 hk9 hz9 ht9 hvm9 hPc hDc hFc
            subst hw9
            refine lv_pop hx hb dX3_holds_45 rfl ?_
            refine lv_iinc (v := nI (k + 1)) (lv' := [(3, .int (nI (k + 1))), (0, .ref (b 0)), (1, .int (nI j)), (2, .ref ra)]) hx hb dX3_holds_46 hl (k := 3) rfl ((show (nI k) + Int32.ofInt 1 = (nI k) + 1 from rfl).trans (show (nI k) + 1 = nI (k + 1) from nI_add k 1)) (by decide) rfl (fun ls hl => ?_)
            refine lv_goto (tgt := 26) hx hb dX3_holds_49 (by decide) ?_
            exact ih26 (k + 1) n2 (by omega) (hv.trans (by simp [lowF, bI_1.mp c38])) (by omega) _ _ hP hD hS ls (lv_sub hl [1, 2, 3, 0] rfl)
    exact loop26 (200 + 1) 0 200 rfl rfl (by omega) _ _ hP hD hS ls (lv_sub hl [2, 3, 1, 0] rfl)
  · refine lv_aload_n hx hb dX3_holds_13 rfl (lv_at hl 0 rfl) ?_
    refine lv_iconst (v := 1) hx hb dX3_holds_14 (by decide) ?_
    have hPc := hP.sub (ws' := wM cy b u 0 pz) [0, 1, 2, 3, 4, 5, 6] rfl
    have hDc := hD.sub (ws' := wM cy b u 0 pz) [0, 1, 2, 3, 4, 5, 6] (by decide) rfl
    have hFc := va_free (wc := wM cy b u 0 pz) hD hS hA [0, 1, 2, 3, 4, 5, 6] rfl
    refine va_calli (va_runV (As := [.int 1]) (rest := []) ⟨hx, hb, hml, hown, hts⟩ (mX3_fail l D cy H.size b u 0 pz 1) (cwV 1 hts gX3_holds_X3_fail rfl rfl rfl (by decide +kernel) ⟨Nat.le_of_ble_eq_true rfl, Nat.le_of_ble_eq_true rfl⟩) ⟨fun a U g mk q => ⟨q.1, q.2.1, q.2.2.1, va_K.moved (u := U) (U := U.calling g mk a) (Vm.Alike.refl U.vm) q.2.2.2.1, q.2.2.2.2⟩, va_recv hK hPc (ci := 3) (q0 := 0) rfl rfl, fun U hU hW => ⟨rfl, by rw [hU], by rw [hU]; exact hPc, va_K.moved hW.alike hK, hDc.weaken (fun _ _ _ _ => trivial)⟩⟩ rfl rfl hl.1 rfl (lv_room (Nat.le_of_ble_eq_true rfl)) dX3_holds_15 ⟨Nat.le_of_ble_eq_true rfl, Nat.le_of_ble_eq_true rfl⟩) hS (fun q _ h => hFc q h) hFc (fun r9 u9 t9 H1 locs ht9 hvm9 hw9 hB9 hz9 hk9 hS => ?_)
    obtain ⟨hP1, hD1⟩ := hB9
    rw [ht9] at hP1
    obtain ⟨hP, hD⟩ := va_join (wr := []) (w1 := wM cy b u 1 pz) hP hD [0, 1, 2, 3, 4, 5, 6] [] rfl rfl (by decide) (by decide) hk9 hFc hP1 hD1
    generalize H1 = H at hP hS ⊢
    have hP : va_P D vwCl (wM cy b u 1 pz) H := hP.sub [0, 1, 2, 3, 4, 5, 6] rfl
    have hD : va_D A (wM cy b u 1 pz) := hD.sub [0, 1, 2, 3, 4, 5, 6] (by decide) rfl
    clear hP1 hD1 hk9 hz9 ht9 hvm9 hPc hDc hFc
    subst hw9
    have hex9 : exC u cv = 1 := by simp [exC, bI_0.mp c10]
    have hP9 : va_P D vwCl (wM cy b u (nI (exC u cv)) pz) H := (by rw [hex9]; exact hP)
    have hD9 : va_D A (wM cy b u (nI (exC u cv)) pz) := (by rw [hex9]; exact hD)
    refine W.widen (k := 3) (n := 76) (Nat.le_of_ble_eq_true rfl) (Nat.le_of_ble_eq_true rfl) ?_
    exact W.iret (v := 0) hx hb hr (fun t ht hW => ⟨⟨0, u, rfl, ⟨fun z => absurd (hex9.symm.trans z) (by decide), fun _ => rfl⟩, by rw [ht]; exact hP9, hD9⟩, hS.F ht⟩) hS.2.2 dX3_holds_18

