theorem inX2_letHourGo_RX2 : ∀ w ∈ u_ws RX2 TX2 6, w ∈ wsX2_letHourGo := by decide +kernel
theorem kX2_letHourGo_0 : (.fieldLink RX2 19 "WedgeHarps" "windTable" "[I" : Cond) ∈ wsX2_letHourGo := by decide +kernel
theorem kX2_letHourGo_1 : (.fieldLink RX2 23 "WedgeHarps" "dampTable" "[I" : Cond) ∈ wsX2_letHourGo := by decide +kernel
set_option maxHeartbeats 4000000 in
set_option maxRecDepth 100000 in
theorem mX2_letHourGo (l : Launch) (D : va_G) (cy : Nat → ClassId) (sz : Nat) (a q q2 : Nat → Nat) (n : Nat) (wt dt : Nat → Int32) (r : Nat → Nat) (h : HS) (f u : Nat) (hf : f ≤ u) (hu : u ≤ 12) (hh : zh h < 2147483648) : Met l yX2_letHourGo wsX2_letHourGo ({ frames := 3, cells := 0, slots := 0, locals := 71 } : Room) (va_Pc [.ref (a 0), .ref (r 0), .int (nI f), .int (nI u)] (fun U => U.heap.size = sz ∧ va_P D vwCl (wO cy a q q2 n wt dt ++ wH cy r h) U.heap ∧ va_K D vwCl (TY cy) U ∧ va_D (fun _ => True) (wO cy a q q2 n wt dt ++ wH cy r h))) (va_Qi (fun (r8 : Int32) (_ : Unit) => r8 = nI (brkN f u wt h)) (fun (_ : Unit) t => va_P D vwCl (wO cy a q q2 n wt dt ++ wH cy r (hStep f u wt dt h)) t.heap ∧ va_D (va_A (wO cy a q q2 n wt dt ++ wH cy r h) sz) (wO cy a q q2 n wt dt ++ wH cy r (hStep f u wt dt h))) (va_A (wO cy a q q2 n wt dt ++ wH cy r h) sz)) 0 0 (va_A (wO cy a q q2 n wt dt ++ wH cy r h) sz) := by
  refine Met.ofW (cc := cX2_letHourGo) (maxL := 5) (ret := (some .int)) (by decide) rfl ?_
  intro p e s m args below meth c s₁ B hml hv
  obtain ⟨rfl, hsz, hP, hK, hD0⟩ := hv
  have hx := B.exec
  have hb := B.bytes
  have hr := B.returns
  have hts := atoms_spec (ws := wsX2_letHourGo) B.pre
  have hown : s.vm.findClass RX2 = some m.cls := findClass_of_methodNamed B.named
  have hlocks := B.notSynchronized
  have hl := lv_entry ([.ref (a 0), .ref (r 0), .int (nI f), .int (nI u)]) (n := 5) (Nat.le_of_ble_eq_true rfl)
  rw [lg_entry_eq]
  generalize (lg_sl ([.ref (a 0), .ref (r 0), .int (nI f), .int (nI u)]) ++ List.replicate (5 - (lg_sl ([.ref (a 0), .ref (r 0), .int (nI f), .int (nI u)])).length) Slot.unset).toArray = ls at hl ⊢
  have hl : lv_has ls 5 [(0, .ref (a 0)), (1, .ref (r 0)), (2, .int (nI f)), (3, .int (nI u))] := hl
  subst hsz
  have hD := hD0.self (sz := s.heap.size)
  generalize hAe : va_A (wO cy a q q2 n wt dt ++ wH cy r h) s.heap.size = A at hD ⊢
  have hA : ∀ q : Nat, s.heap.size ≤ q → A q := fun q h => by rw [← hAe]; exact Or.inr h
  have hS : va_S A s.heap s.heap [] := va_S.rf
  have hP : va_P D vwCl (wO cy a q q2 n wt dt ++ wH cy r h) s.heap := hP
  refine lv_aload_n hx hb dX2_letHourGo_0 rfl (lv_at hl 1 rfl) ?_
  have hPc := hP.sub (ws' := wH cy r h) [3, 4, 5, 6, 7, 8, 9] rfl
  refine pc_calli (va_runV (As := []) (rest := []) ⟨hx, hb, hml, hown, hts⟩ (mX1_hourOfTable l D cy r h hh) (cwV 0 hts gX2_letHourGo_X1_hourOfTable rfl rfl rfl (by decide +kernel) ⟨Nat.le_of_ble_eq_true rfl, Nat.le_of_ble_eq_true rfl⟩) ⟨fun a U g mk q => ⟨q.1, q.2.1, va_K.moved (u := U) (U := U.calling g mk a) (Vm.Alike.refl U.vm) q.2.2⟩, va_recv hK hPc (ci := 1) (q0 := 0) rfl rfl, fun U hU hW => ⟨rfl, by rw [hU]; exact hPc, va_K.moved hW.alike hK⟩⟩ rfl rfl hl.1 rfl (lv_room (Nat.le_of_ble_eq_true rfl)) dX2_letHourGo_1 ⟨Nat.le_of_ble_eq_true rfl, Nat.le_of_ble_eq_true rfl⟩) (fun r9 hr9 => ?_)
  subst hr9
  refine lv_istore (lv' := [(4, .int (nI (zh h % 12))), (0, .ref (a 0)), (1, .ref (r 0)), (2, .int (nI f)), (3, .int (nI u))]) hx hb dX2_letHourGo_4 hl (by decide) rfl (fun ls hl => ?_)
  refine lv_aload_n hx hb dX2_letHourGo_6 rfl (lv_at hl 2 rfl) ?_
  refine lv_iload_n hx hb dX2_letHourGo_7 rfl (lv_at hl 3 rfl) ?_
  refine lv_iload_n hx hb dX2_letHourGo_8 rfl (lv_at hl 4 rfl) ?_
  refine lv_aload_n hx hb dX2_letHourGo_9 rfl (lv_at hl 1 rfl) ?_
  refine va_get (D := D) (ci := 2) (v := .ref (a 1)) (C := RX2) (T := TX2) (N := 6) hx hb hts inX2_letHourGo_RX2 hown hK hP 0 rfl rfl 2 (by decide) (hts _ kX2_letHourGo_0) (fun _ h9 => h9) rfl dX2_letHourGo_10 ?_
  refine lv_iload hx hb dX2_letHourGo_13 (lv_at hl 0 rfl) ?_
  refine pc_iald hx hb hK hP 1 0 rfl rfl (k := zh h % 12) (show zh h % 12 < 12 by omega) (by decide) dX2_letHourGo_15 ?_
  refine lv_aload_n hx hb dX2_letHourGo_16 rfl (lv_at hl 1 rfl) ?_
  refine va_get (D := D) (ci := 2) (v := .ref (a 2)) (C := RX2) (T := TX2) (N := 6) hx hb hts inX2_letHourGo_RX2 hown hK hP 0 rfl rfl 3 (by decide) (hts _ kX2_letHourGo_1) (fun _ h9 => h9) rfl dX2_letHourGo_17 ?_
  refine lv_iload hx hb dX2_letHourGo_20 (lv_at hl 0 rfl) ?_
  refine pc_iald hx hb hK hP 2 0 rfl rfl (k := zh h % 12) (show zh h % 12 < 12 by omega) (by decide) dX2_letHourGo_22 ?_
  have hPc := hP.sub (ws' := wH cy r h) [3, 4, 5, 6, 7, 8, 9] rfl
  have hDc := hD.sub (ws' := wH cy r h) [3, 4, 5, 6, 7, 8, 9] (by decide) rfl
  have hFc := va_free (wc := wH cy r h) hD hS hA [3, 4, 5, 6, 7, 8, 9] rfl
  refine va_calli (va_runV (As := [.int (nI f), .int (nI u), .int (wt (zh h % 12)), .int (dt (zh h % 12))]) (rest := []) ⟨hx, hb, hml, hown, hts⟩ (mX1_spendHour l D cy s.heap.size r h f u hf hu (wt (zh h % 12)) (dt (zh h % 12))) (cwV 4 hts gX2_letHourGo_X1_spendHour rfl rfl rfl (by decide +kernel) ⟨Nat.le_of_ble_eq_true rfl, Nat.le_of_ble_eq_true rfl⟩) ⟨fun a U g mk q => ⟨q.1, q.2.1, q.2.2.1, va_K.moved (u := U) (U := U.calling g mk a) (Vm.Alike.refl U.vm) q.2.2.2.1, q.2.2.2.2⟩, va_recv hK hPc (ci := 1) (q0 := 0) rfl rfl, fun U hU hW => ⟨rfl, by rw [hU], by rw [hU]; exact hPc, va_K.moved hW.alike hK, hDc.weaken (fun _ _ _ _ => trivial)⟩⟩ rfl rfl hl.1 rfl (lv_room (Nat.le_of_ble_eq_true rfl)) dX2_letHourGo_23 ⟨Nat.le_of_ble_eq_true rfl, Nat.le_of_ble_eq_true rfl⟩) hS (fun q _ h => hFc q h) hFc (fun r9 u9 t9 H1 locs ht9 hvm9 hw9 hB9 hz9 hk9 hS => ?_)
  obtain ⟨hP1, hD1⟩ := hB9
  rw [ht9] at hP1
  obtain ⟨hP, hD⟩ := va_join (wr := [(a 0, .inr (2, [.ref (q 0), .ref (q2 0), .ref (a 1), .ref (a 2), .ref (a 3), .int (nI n)])), (a 1, .inl ((cy 0), 12, .inl wt)), (a 2, .inl ((cy 0), 12, .inl dt))]) (w1 := wH cy r (hStep f u wt dt h)) hP hD [3, 4, 5, 6, 7, 8, 9] [0, 1, 2] rfl rfl (by decide) (by decide) hk9 hFc hP1 hD1
  generalize H1 = H at hP hS ⊢
  have hP : va_P D vwCl (wO cy a q q2 n wt dt ++ wH cy r (hStep f u wt dt h)) H := hP.sub [0, 1, 2, 3, 4, 5, 6, 7, 8, 9] rfl
  have hD : va_D A (wO cy a q q2 n wt dt ++ wH cy r (hStep f u wt dt h)) := hD.sub [0, 1, 2, 3, 4, 5, 6, 7, 8, 9] (by decide) rfl
  clear hP1 hD1 hk9 hz9 ht9 hvm9 hPc hDc hFc
  subst hw9
  have hP9 : va_P D vwCl (wO cy a q q2 n wt dt ++ wH cy r (hStep f u wt dt h)) H := hP
  have hD9 : va_D A (wO cy a q q2 n wt dt ++ wH cy r (hStep f u wt dt h)) := hD
  exact W.iret (v := nI (brkN f u wt h)) hx hb hr (fun t ht hW => ⟨⟨nI (brkN f u wt h), (), rfl, rfl, by rw [ht]; exact hP9, hD9⟩, hS.F ht⟩) hS.2.2 dX2_letHourGo_26

theorem inX2_lowestToBreak_RX1 : ∀ w ∈ u_ws RX1 TX1 8, w ∈ wsX2_lowestToBreak := by decide +kernel
theorem inX2_lowestToBreak_RX2 : ∀ w ∈ u_ws RX2 TX2 6, w ∈ wsX2_lowestToBreak := by decide +kernel
theorem kX2_lowestToBreak_0 : (.fieldLink RX2 10 "WedgeHarps" "now" "LWedgeHarps$Harp;" : Cond) ∈ wsX2_lowestToBreak := by decide +kernel
theorem kX2_lowestToBreak_1 : (.fieldLink RX2 91 "WedgeHarps$Harp" "whole" "[Z" : Cond) ∈ wsX2_lowestToBreak := by decide +kernel
theorem kX2_lowestToBreak_2 : (.fieldLink RX2 16 "WedgeHarps" "later" "LWedgeHarps$Harp;" : Cond) ∈ wsX2_lowestToBreak := by decide +kernel
set_option maxHeartbeats 4000000 in
set_option maxRecDepth 100000 in
theorem mX2_lowestToBreak (l : Launch) (D : va_G) (cy : Nat → ClassId) (a q q2 ca ta : Nat → Nat) (u : US) (g : HS) (hu : uOk u) : Met l yX2_lowestToBreak wsX2_lowestToBreak ({ frames := 0, cells := 0, slots := 0, locals := 0 } : Room) (va_Pc [.ref (a 0)] (fun U => va_P D vwCl (wX cy a q q2 ca ta u g) U.heap ∧ va_K D vwCl (TY cy) U)) (vp_Si (fun r8 => r8 = lowF (lowB (uh u) g) 0 12)) 0 0 (fun _ => False) := by
  refine Met.ofW (cc := cX2_lowestToBreak) (maxL := 2) (ret := (some .int)) (by decide) rfl ?_
  intro p e s m args below meth c s₁ B hml hv
  obtain ⟨rfl, hP, hK⟩ := hv
  have hx := B.exec
  have hb := B.bytes
  have hr := B.returns
  have hts := atoms_spec (ws := wsX2_lowestToBreak) B.pre
  have hown : s.vm.findClass RX2 = some m.cls := findClass_of_methodNamed B.named
  have hlocks := B.notSynchronized
  have hl := lv_entry ([.ref (a 0)]) (n := 2) (Nat.le_of_ble_eq_true rfl)
  rw [lg_entry_eq]
  generalize (lg_sl ([.ref (a 0)]) ++ List.replicate (2 - (lg_sl ([.ref (a 0)])).length) Slot.unset).toArray = ls at hl ⊢
  have hl : lv_has ls 2 [(0, .ref (a 0))] := hl
  refine lv_iconst (v := 0) hx hb dX2_lowestToBreak_0 (by decide) ?_
  refine lv_istore_n (lv' := [(1, .int 0), (0, .ref (a 0))]) hx hb dX2_lowestToBreak_1 rfl hl (by decide) rfl (fun ls hl => ?_)
  have loop2 : ∀ (n9 : Nat) (k : Nat) (n : Nat), k + n = 12 → lowF (lowB (uh u) g) 0 12 = lowF (lowB (uh u) g) k n → n < n9 → ∀ ls : Array Slot, lv_has ls 2 [(0, .ref (a 0)), (1, .int (nI k))] → W p l e (headSpec wsX2_lowestToBreak ({ frames := 0, cells := 0, slots := 0, locals := 0 } : Room)).room s m ([.ref (a 0)] : List Value).toArray below meth c s.heap [] 0 0 (MQ below (vp_Si (fun r8 => r8 = lowF (lowB (uh u) g) 0 12)) ([.ref (a 0)] : List Value).toArray s 0 0 (fun _ => False)) (F0 m 2 ls []) := by
    intro n9
    induction n9 with
    | zero => intro k n hk hv h9 ls hl; exact absurd h9 (by omega)
    | succ n9 ih2 =>
      intro k n hk hv h9 ls hl
      refine lv_iload_n hx hb dX2_lowestToBreak_2 rfl (lv_at hl 1 rfl) ?_
      refine lv_bipush (v := 12) hx hb dX2_lowestToBreak_3 (by decide) ?_
      refine lv_icmp_ge (tgt := 40) hx hb dX2_lowestToBreak_5 (by decide) (fun c5 => ?_) (fun c5 => ?_)
      · have n5 : 12 ≤ k := (nI_leI (a := 12) (b := k) (by omega) (by omega)).mp c5
        refine lv_iconst (v := (-1)) hx hb dX2_lowestToBreak_40 (by decide) ?_
        exact W.iret (v := (-1)) hx hb hr (fun t ht hW => ⟨(-1), rfl, (by rw [hv, show n = 0 by omega]; rfl), ht⟩) (fun q hq => absurd hq List.not_mem_nil) dX2_lowestToBreak_41
      · have n5 : ¬ (12 ≤ k) := fun h9 => c5 ((nI_leI (a := 12) (b := k) (by omega) (by omega)).mpr h9)
        obtain ⟨n2, rfl⟩ : ∃ n2, n = n2 + 1 := ⟨n - 1, by omega⟩
        refine lv_aload_n hx hb dX2_lowestToBreak_8 rfl (lv_at hl 0 rfl) ?_
        refine va_get (D := D) (ci := 2) (v := .ref (q 0)) (C := RX2) (T := TX2) (N := 6) hx hb hts inX2_lowestToBreak_RX2 hown hK hP 0 rfl rfl 0 (by decide) (hts _ kX2_lowestToBreak_0) (fun _ h9 => h9) rfl dX2_lowestToBreak_9 ?_
        refine va_get (D := D) (ci := 1) (v := .ref (q 6)) (C := RX1) (T := TX1) (N := 8) hx hb hts inX2_lowestToBreak_RX1 hown hK hP 3 rfl rfl 5 (by decide) (hts _ kX2_lowestToBreak_1) (fun _ h9 => h9) rfl dX2_lowestToBreak_12 ?_
        refine lv_iload_n hx hb dX2_lowestToBreak_15 rfl (lv_at hl 1 rfl) ?_
        refine pc_zald hx hb hK hP 9 1 rfl rfl (k := k) (show k < 12 by omega) (by decide) dX2_lowestToBreak_16 ?_
        refine lv_if_eq (tgt := 34) hx hb dX2_lowestToBreak_17 (by decide) (fun c17 => ?_) (fun c17 => ?_)
        · refine lv_iinc (v := nI (k + 1)) (lv' := [(1, .int (nI (k + 1))), (0, .ref (a 0))]) hx hb dX2_lowestToBreak_34 hl (k := 1) rfl ((show (nI k) + Int32.ofInt 1 = (nI k) + 1 from rfl).trans (show (nI k) + 1 = nI (k + 1) from nI_add k 1)) (by decide) rfl (fun ls hl => ?_)
          refine lv_goto (tgt := 2) hx hb dX2_lowestToBreak_37 (by decide) ?_
          exact ih2 (k + 1) n2 (by omega) (hv.trans (by simp [lowF, lowB, c17])) (by omega) ls (lv_sub hl [1, 0] rfl)
        · refine lv_aload_n hx hb dX2_lowestToBreak_20 rfl (lv_at hl 0 rfl) ?_
          refine va_get (D := D) (ci := 2) (v := .ref (q2 0)) (C := RX2) (T := TX2) (N := 6) hx hb hts inX2_lowestToBreak_RX2 hown hK hP 0 rfl rfl 1 (by decide) (hts _ kX2_lowestToBreak_2) (fun _ h9 => h9) rfl dX2_lowestToBreak_21 ?_
          refine va_get (D := D) (ci := 1) (v := .ref (q2 6)) (C := RX1) (T := TX1) (N := 8) hx hb hts inX2_lowestToBreak_RX1 hown hK hP 10 rfl rfl 5 (by decide) (hts _ kX2_lowestToBreak_1) (fun _ h9 => h9) rfl dX2_lowestToBreak_24 ?_
          refine lv_iload_n hx hb dX2_lowestToBreak_27 rfl (lv_at hl 1 rfl) ?_
          refine pc_zald hx hb hK hP 16 1 rfl rfl (k := k) (show k < 12 by omega) (by decide) dX2_lowestToBreak_28 ?_
          refine lv_if_ne (tgt := 34) hx hb dX2_lowestToBreak_29 (by decide) (fun c29 => ?_) (fun c29 => ?_)
          · refine lv_iinc (v := nI (k + 1)) (lv' := [(1, .int (nI (k + 1))), (0, .ref (a 0))]) hx hb dX2_lowestToBreak_34 hl (k := 1) rfl ((show (nI k) + Int32.ofInt 1 = (nI k) + 1 from rfl).trans (show (nI k) + 1 = nI (k + 1) from nI_add k 1)) (by decide) rfl (fun ls hl => ?_)
            refine lv_goto (tgt := 2) hx hb dX2_lowestToBreak_37 (by decide) ?_
            exact ih2 (k + 1) n2 (by omega) (hv.trans (by simp [lowF, lowB, c17, c29])) (by omega) ls (lv_sub hl [1, 0] rfl)
          · refine lv_iload_n hx hb dX2_lowestToBreak_32 rfl (lv_at hl 1 rfl) ?_
            exact W.iret (v := nI k) hx hb hr (fun t ht hW => ⟨nI k, rfl, (by rw [hv]; simp [lowF, lowB, c17, c29]), ht⟩) (fun q hq => absurd hq List.not_mem_nil) dX2_lowestToBreak_33
  exact loop2 (12 + 1) 0 12 rfl rfl (by omega) ls (lv_sub hl [1, 0] rfl)

theorem inX2_pass_RX2 : ∀ w ∈ u_ws RX2 TX2 6, w ∈ wsX2_pass := by decide +kernel
theorem kX2_pass_0 : (.fieldLink RX2 10 "WedgeHarps" "now" "LWedgeHarps$Harp;" : Cond) ∈ wsX2_pass := by decide +kernel
set_option maxHeartbeats 4000000 in
set_option maxRecDepth 100000 in
theorem mX2_pass (l : Launch) (hst : l.stackTraces = false) (D : va_G) (cy : Nat → ClassId) (sz : Nat) (a q q2 ca ta : Nat → Nat) (u : US) (g : HS) (hu : uOk u) (v : Int32) : vx_Met l yX2_pass wsX2_pass ({ frames := 7, cells := 1, slots := 6, locals := 102 } : Room) (va_Pc [.ref (a 0), .int v] (fun U => U.heap.size = sz ∧ va_P D vwCl (wX cy a q q2 ca ta u g) U.heap ∧ va_K D vwCl (TY cy) U ∧ va_D (fun _ => True) (wX cy a q q2 ca ta u g) ∧ xC U U.heap)) (va_Qi (fun (r8 : Int32) (_ : Unit) => (exPass v = 0) ∧ r8 = nI (passB (uw u) (ud u) (uh u) (ix v))) (fun (_ : Unit) t => va_P D vwCl (wX cy a q q2 ca ta (uH u (hN 0 12 (uw u) (ud u) (uh u) (ix v))) g) t.heap ∧ va_D (va_A (wX cy a q q2 ca ta u g) sz) (wX cy a q q2 ca ta (uH u (hN 0 12 (uw u) (ud u) (uh u) (ix v))) g)) (va_A (wX cy a q q2 ca ta u g) sz)) (pX (fun E => E = xm (exPass v) ∧ exPass v ≠ 0)) 1 6 (va_A (wX cy a q q2 ca ta u g) sz) := by
  refine vx_ofW (cc := cX2_pass) (maxL := 4) (ret := (some .int)) (by decide) rfl ?_
  intro p e s m args below meth c s₁ B hml hex hv
  obtain ⟨rfl, hsz, hP, hK, hD0, hX⟩ := hv
  have hx := B.exec
  have hb := B.bytes
  have hr := B.returns
  have hts := atoms_spec (ws := wsX2_pass) B.pre
  have hown : s.vm.findClass RX2 = some m.cls := findClass_of_methodNamed B.named
  have hlocks := B.notSynchronized
  have hl := lv_entry ([.ref (a 0), .int v]) (n := 4) (Nat.le_of_ble_eq_true rfl)
  rw [lg_entry_eq]
  generalize (lg_sl ([.ref (a 0), .int v]) ++ List.replicate (4 - (lg_sl ([.ref (a 0), .int v])).length) Slot.unset).toArray = ls at hl ⊢
  have hl : lv_has ls 4 [(0, .ref (a 0)), (1, .int v)] := hl
  subst hsz
  have hD := hD0.self (sz := s.heap.size)
  generalize hAe : va_A (wX cy a q q2 ca ta u g) s.heap.size = A at hD ⊢
  have hA : ∀ q : Nat, s.heap.size ≤ q → A q := fun q h => by rw [← hAe]; exact Or.inr h
  have hS : va_S A s.heap s.heap [] := va_S.rf
  have hP : va_P D vwCl (wX cy a q q2 ca ta u g) s.heap := hP
  refine lv_iload_n hx hb dX2_pass_0 rfl (lv_at hl 1 rfl) ?_
  refine px_callv (vx_runS (As := [.int v]) (rest := []) ⟨hx, hb, hml, hown, hts⟩ (mX2_checkHours l hst D cy v) (va_cwS 1 hts gX2_pass_X2_checkHours rfl rfl rfl (by decide +kernel) ⟨Nat.le_of_ble_eq_true rfl, Nat.le_of_ble_eq_true rfl⟩) ⟨fun a U g mk q => ⟨q.1, xC.warm (State.WarmedH.refl U) q.2⟩, fun U hU hW => ⟨rfl, (show xC U U.heap by rw [hU]; exact hX.warm hW)⟩⟩ rfl rfl hl.1 rfl (lv_room (Nat.le_of_ble_eq_true rfl)) dX2_pass_1 ⟨Nat.le_of_ble_eq_true rfl, Nat.le_of_ble_eq_true rfl⟩) (fun E9 ce9 q9 H9 hE9 h19 h29 hce9 hcv9 hcl9 => px_out hex hlocks h19 h29 hce9 hcv9 hcl9 (by simp [exPass, xm, hE9.1, hE9.2]) (Nat.le_of_ble_eq_true rfl) (Nat.le_of_ble_eq_true rfl)) (fun hp1 => ?_)
  refine W.widen (k := 1) (n := 6) (Nat.le_of_ble_eq_true rfl) (Nat.le_of_ble_eq_true rfl) ?_
  obtain ⟨j, hj1, hj2, rfl⟩ := isH_nat hp1
  have e9 : ix (nI j) = j := (ix_nI (show j < 2147483648 by omega))
  have hz9 : zh (uh u) < 1000000000 := hu.2.2.2.2
  refine lv_iconst (v := 0) hx hb dX2_pass_4 (by decide) ?_
  refine lv_istore_n (lv' := [(2, .int 0), (0, .ref (a 0)), (1, .int (nI j))]) hx hb dX2_pass_5 rfl hl (by decide) rfl (fun ls hl => ?_)
  refine lv_iconst (v := 0) hx hb dX2_pass_6 (by decide) ?_
  refine lv_istore_n (lv' := [(3, .int 0), (2, .int 0), (0, .ref (a 0)), (1, .int (nI j))]) hx hb dX2_pass_7 rfl hl (by decide) rfl (fun ls hl => ?_)
  have loop8 : ∀ (n9 : Nat) (k : Nat), k ≤ j → j - k < n9 → ∀ (H : Heap) (locs : List Loc), va_P D vwCl (wX cy a q q2 ca ta (uH u (hN 0 12 (uw u) (ud u) (uh u) k)) g) H → va_D A (wX cy a q q2 ca ta (uH u (hN 0 12 (uw u) (ud u) (uh u) k)) g) → va_S A s.heap H locs → ∀ ls : Array Slot, lv_has ls 4 [(0, .ref (a 0)), (1, .int (nI j)), (2, .int (nI (passB (uw u) (ud u) (uh u) k))), (3, .int (nI k))] → W p l e (headSpec wsX2_pass ({ frames := 7, cells := 1, slots := 6, locals := 102 } : Room)).room s m ([.ref (a 0), .int (nI j)] : List Value).toArray below meth c H locs 1 6 (vx_MQ below (va_Qi (fun (r8 : Int32) (_ : Unit) => (exPass (nI j) = 0) ∧ r8 = nI (passB (uw u) (ud u) (uh u) (ix (nI j)))) (fun (_ : Unit) t => va_P D vwCl (wX cy a q q2 ca ta (uH u (hN 0 12 (uw u) (ud u) (uh u) (ix (nI j)))) g) t.heap ∧ va_D A (wX cy a q q2 ca ta (uH u (hN 0 12 (uw u) (ud u) (uh u) (ix (nI j)))) g)) A) (pX (fun E => E = xm (exPass (nI j)) ∧ exPass (nI j) ≠ 0)) ([.ref (a 0), .int (nI j)] : List Value).toArray s 1 6 A) (F0 m 8 ls []) := by
    intro n9
    induction n9 with
    | zero => intro k hk h9 H locs hP hD hS ls hl; exact absurd h9 (by omega)
    | succ n9 ih8 =>
      intro k hk h9 H locs hP hD hS ls hl
      refine lv_iload_n hx hb dX2_pass_8 rfl (lv_at hl 3 rfl) ?_
      refine lv_iload_n hx hb dX2_pass_9 rfl (lv_at hl 1 rfl) ?_
      refine lv_icmp_ge (tgt := 33) hx hb dX2_pass_10 (by decide) (fun c10 => ?_) (fun c10 => ?_)
      · have n10 : j ≤ k := (nI_leI (a := j) (b := k) (by omega) (by omega)).mp c10
        refine lv_iload_n hx hb dX2_pass_33 rfl (lv_at hl 2 rfl) ?_
        have hP9 : va_P D vwCl (wX cy a q q2 ca ta (uH u (hN 0 12 (uw u) (ud u) (uh u) (ix (nI j)))) g) H := (by rw [e9, show j = k by omega]; exact hP)
        have hD9 : va_D A (wX cy a q q2 ca ta (uH u (hN 0 12 (uw u) (ud u) (uh u) (ix (nI j)))) g) := (by rw [e9, show j = k by omega]; exact hD)
        refine vx_ret ?_
        exact W.iret (v := nI (passB (uw u) (ud u) (uh u) k)) hx hb hr (fun t ht hW => ⟨⟨nI (passB (uw u) (ud u) (uh u) k), (), rfl, ⟨(by simp [exPass, hp1]), by rw [e9, show j = k by omega]⟩, by rw [ht]; exact hP9, hD9⟩, hS.F ht⟩) hS.2.2 dX2_pass_34
      · have n10 : ¬ (j ≤ k) := fun h9 => c10 ((nI_leI (a := j) (b := k) (by omega) (by omega)).mpr h9)
        refine lv_iload_n hx hb dX2_pass_13 rfl (lv_at hl 2 rfl) ?_
        refine lv_aload_n hx hb dX2_pass_14 rfl (lv_at hl 0 rfl) ?_
        refine lv_aload_n hx hb dX2_pass_15 rfl (lv_at hl 0 rfl) ?_
        refine va_get (D := D) (ci := 2) (v := .ref (q 0)) (C := RX2) (T := TX2) (N := 6) hx hb hts inX2_pass_RX2 hown hK hP 0 rfl rfl 0 (by decide) (hts _ kX2_pass_0) (fun _ h9 => h9) rfl dX2_pass_16 ?_
        refine lv_iconst (v := 0) hx hb dX2_pass_19 (by decide) ?_
        refine lv_bipush (v := 12) hx hb dX2_pass_20 (by decide) ?_
        have hPc := hP.sub (ws' := wO cy a q q2 (un u) (uw u) (ud u) ++ wH cy q (hN 0 12 (uw u) (ud u) (uh u) k)) [0, 1, 2, 3, 4, 5, 6, 7, 8, 9] rfl
        have hDc := hD.sub (ws' := wO cy a q q2 (un u) (uw u) (ud u) ++ wH cy q (hN 0 12 (uw u) (ud u) (uh u) k)) [0, 1, 2, 3, 4, 5, 6, 7, 8, 9] (by decide) rfl
        have hFc := va_free (wc := wO cy a q q2 (un u) (uw u) (ud u) ++ wH cy q (hN 0 12 (uw u) (ud u) (uh u) k)) hD hS hA [0, 1, 2, 3, 4, 5, 6, 7, 8, 9] rfl
        refine va_calli (va_runV (As := [.ref (q 0), .int 0, .int 12]) (rest := [.int (nI (passB (uw u) (ud u) (uh u) k))]) ⟨hx, hb, hml, hown, hts⟩ (mX2_letHourGo l D cy H.size a q q2 (un u) (uw u) (ud u) q (hN 0 12 (uw u) (ud u) (uh u) k) 0 12 (by decide) (by decide) (by rw [zh_hN]; omega)) (cwV 3 hts gX2_pass_X2_letHourGo rfl rfl rfl (by decide +kernel) ⟨Nat.le_of_ble_eq_true rfl, Nat.le_of_ble_eq_true rfl⟩) ⟨fun a U g mk q => ⟨q.1, q.2.1, q.2.2.1, va_K.moved (u := U) (U := U.calling g mk a) (Vm.Alike.refl U.vm) q.2.2.2.1, q.2.2.2.2⟩, va_recv hK hPc (ci := 2) (q0 := 0) rfl rfl, fun U hU hW => ⟨rfl, by rw [hU], by rw [hU]; exact hPc, va_K.moved hW.alike hK, hDc.weaken (fun _ _ _ _ => trivial)⟩⟩ rfl rfl hl.1 rfl (lv_room (Nat.le_of_ble_eq_true rfl)) dX2_pass_22 ⟨Nat.le_of_ble_eq_true rfl, Nat.le_of_ble_eq_true rfl⟩) hS (fun q _ h => hFc q h) hFc (fun r9 u9 t9 H1 locs ht9 hvm9 hw9 hB9 hz9 hk9 hS => ?_)
        obtain ⟨hP1, hD1⟩ := hB9
        rw [ht9] at hP1
        obtain ⟨hP, hD⟩ := va_join (wr := [(q2 0, .inr (1, [.ref (q2 1), .ref (q2 2), .ref (q2 3), .ref (q2 4), .ref (q2 5), .ref (q2 6), .int (zl g), .int (nI (zh g))])), (q2 1, .inl ((cy 0), 12, .inl (zb g))), (q2 2, .inl ((cy 0), 12, .inl (zw g))), (q2 3, .inl ((cy 0), 12, .inl (zd g))), (q2 4, .inl ((cy 0), 12, .inl (zs g))), (q2 5, .inl ((cy 0), 12, .inl (zr g))), (q2 6, .inl ((cy 1), 12, .inl (zo g))), (a 3, .inl ((cy 2), 6, .inr (.inr (.inr (.inr (fun i => some (ca i))))))), (ca 0, .inr (0, [.ref (ta 0), .int (nI (ul u 0)), .int (nI (uz u 0))])), (ca 1, .inr (0, [.ref (ta 1), .int (nI (ul u 1)), .int (nI (uz u 1))])), (ca 2, .inr (0, [.ref (ta 2), .int (nI (ul u 2)), .int (nI (uz u 2))])), (ca 3, .inr (0, [.ref (ta 3), .int (nI (ul u 3)), .int (nI (uz u 3))])), (ca 4, .inr (0, [.ref (ta 4), .int (nI (ul u 4)), .int (nI (uz u 4))])), (ca 5, .inr (0, [.ref (ta 5), .int (nI (ul u 5)), .int (nI (uz u 5))])), (ta 0, .inl ((cy 0), 4, .inl (ut u 0))), (ta 1, .inl ((cy 0), 4, .inl (ut u 1))), (ta 2, .inl ((cy 0), 4, .inl (ut u 2))), (ta 3, .inl ((cy 0), 4, .inl (ut u 3))), (ta 4, .inl ((cy 0), 4, .inl (ut u 4))), (ta 5, .inl ((cy 0), 4, .inl (ut u 5)))]) (w1 := wO cy a q q2 (un u) (uw u) (ud u) ++ wH cy q (hN 0 12 (uw u) (ud u) (uh u) (k + 1))) hP hD [0, 1, 2, 3, 4, 5, 6, 7, 8, 9] [10, 11, 12, 13, 14, 15, 16, 17, 18, 19, 20, 21, 22, 23, 24, 25, 26, 27, 28, 29] rfl rfl (by decide) (by decide) hk9 hFc hP1 hD1
        generalize H1 = H at hP hS ⊢
        have hP : va_P D vwCl (wX cy a q q2 ca ta (uH u (hN 0 12 (uw u) (ud u) (uh u) (k + 1))) g) H := hP.sub [20, 21, 22, 23, 24, 25, 26, 27, 28, 29, 0, 1, 2, 3, 4, 5, 6, 7, 8, 9, 10, 11, 12, 13, 14, 15, 16, 17, 18, 19] rfl
        have hD : va_D A (wX cy a q q2 ca ta (uH u (hN 0 12 (uw u) (ud u) (uh u) (k + 1))) g) := hD.sub [20, 21, 22, 23, 24, 25, 26, 27, 28, 29, 0, 1, 2, 3, 4, 5, 6, 7, 8, 9, 10, 11, 12, 13, 14, 15, 16, 17, 18, 19] (by decide) rfl
        clear hP1 hD1 hk9 hz9 ht9 hvm9 hPc hDc hFc
        subst hw9
        refine lv_iadd hx hb dX2_pass_25 ?_
        refine pc_top (show (nI (passB (uw u) (ud u) (uh u) k)) + (nI (brkN 0 12 (uw u) (hN 0 12 (uw u) (ud u) (uh u) k))) = nI (passB (uw u) (ud u) (uh u) k + brkN 0 12 (uw u) (hN 0 12 (uw u) (ud u) (uh u) k)) from nI_add (passB (uw u) (ud u) (uh u) k) (brkN 0 12 (uw u) (hN 0 12 (uw u) (ud u) (uh u) k))) ?_
        refine lv_istore_n (lv' := [(2, .int (nI (passB (uw u) (ud u) (uh u) k + brkN 0 12 (uw u) (hN 0 12 (uw u) (ud u) (uh u) k)))), (0, .ref (a 0)), (1, .int (nI j)), (3, .int (nI k))]) hx hb dX2_pass_26 rfl hl (by decide) rfl (fun ls hl => ?_)
        refine lv_iinc (v := nI (k + 1)) (lv' := [(3, .int (nI (k + 1))), (2, .int (nI (passB (uw u) (ud u) (uh u) k + brkN 0 12 (uw u) (hN 0 12 (uw u) (ud u) (uh u) k)))), (0, .ref (a 0)), (1, .int (nI j))]) hx hb dX2_pass_27 hl (k := 3) rfl ((show (nI k) + Int32.ofInt 1 = (nI k) + 1 from rfl).trans (show (nI k) + 1 = nI (k + 1) from nI_add k 1)) (by decide) rfl (fun ls hl => ?_)
        refine lv_goto (tgt := 8) hx hb dX2_pass_30 (by decide) ?_
        exact ih8 (k + 1) (by omega) (by omega) _ _ hP hD hS ls (lv_sub hl [2, 3, 1, 0] rfl)
  exact loop8 (j + 1) 0 (Nat.zero_le _) (by omega) _ _ hP hD hS ls (lv_sub hl [2, 3, 1, 0] rfl)

theorem inX2_first_RX2 : ∀ w ∈ u_ws RX2 TX2 6, w ∈ wsX2_first := by decide +kernel
theorem kX2_first_0 : (.fieldLink RX2 16 "WedgeHarps" "later" "LWedgeHarps$Harp;" : Cond) ∈ wsX2_first := by decide +kernel
theorem kX2_first_1 : (.fieldLink RX2 10 "WedgeHarps" "now" "LWedgeHarps$Harp;" : Cond) ∈ wsX2_first := by decide +kernel
set_option maxHeartbeats 4000000 in
set_option maxRecDepth 100000 in
theorem mX2_first (l : Launch) (D : va_G) (cy : Nat → ClassId) (sz : Nat) (a q q2 ca ta : Nat → Nat) (u : US) (g : HS) (hu : uOk u) : Met l yX2_first wsX2_first ({ frames := 4, cells := 0, slots := 0, locals := 95 } : Room) (va_Pc [.ref (a 0)] (fun U => U.heap.size = sz ∧ va_P D vwCl (wX cy a q q2 ca ta u g) U.heap ∧ va_K D vwCl (TY cy) U ∧ va_D (fun _ => True) (wX cy a q q2 ca ta u g))) (va_Qi (fun (r8 : Int32) (_ : HS) => r8 = firF (uw u) (ud u) (uh u) 0 200) (fun (g9 : HS) t => va_P D vwCl (wX cy a q q2 ca ta u g9) t.heap ∧ va_D (va_A (wX cy a q q2 ca ta u g) sz) (wX cy a q q2 ca ta u g9)) (va_A (wX cy a q q2 ca ta u g) sz)) 0 0 (va_A (wX cy a q q2 ca ta u g) sz) := by
  refine Met.ofW (cc := cX2_first) (maxL := 2) (ret := (some .int)) (by decide) rfl ?_
  intro p e s m args below meth c s₁ B hml hv
  obtain ⟨rfl, hsz, hP, hK, hD0⟩ := hv
  have hx := B.exec
  have hb := B.bytes
  have hr := B.returns
  have hts := atoms_spec (ws := wsX2_first) B.pre
  have hown : s.vm.findClass RX2 = some m.cls := findClass_of_methodNamed B.named
  have hlocks := B.notSynchronized
  have hl := lv_entry ([.ref (a 0)]) (n := 2) (Nat.le_of_ble_eq_true rfl)
  rw [lg_entry_eq]
  generalize (lg_sl ([.ref (a 0)]) ++ List.replicate (2 - (lg_sl ([.ref (a 0)])).length) Slot.unset).toArray = ls at hl ⊢
  have hl : lv_has ls 2 [(0, .ref (a 0))] := hl
  subst hsz
  have hD := hD0.self (sz := s.heap.size)
  generalize hAe : va_A (wX cy a q q2 ca ta u g) s.heap.size = A at hD ⊢
  have hA : ∀ q : Nat, s.heap.size ≤ q → A q := fun q h => by rw [← hAe]; exact Or.inr h
  have hS : va_S A s.heap s.heap [] := va_S.rf
  have hP : va_P D vwCl (wX cy a q q2 ca ta u g) s.heap := hP
  have hz9 : zh (uh u) < 1000000000 := hu.2.2.2.2
  refine lv_aload_n hx hb dX2_first_0 rfl (lv_at hl 0 rfl) ?_
  refine va_get (D := D) (ci := 2) (v := .ref (q2 0)) (C := RX2) (T := TX2) (N := 6) hx hb hts inX2_first_RX2 hown hK hP 0 rfl rfl 1 (by decide) (hts _ kX2_first_0) (fun _ h9 => h9) rfl dX2_first_1 ?_
  refine lv_aload_n hx hb dX2_first_4 rfl (lv_at hl 0 rfl) ?_
  refine va_get (D := D) (ci := 2) (v := .ref (q 0)) (C := RX2) (T := TX2) (N := 6) hx hb hts inX2_first_RX2 hown hK hP 0 rfl rfl 0 (by decide) (hts _ kX2_first_1) (fun _ h9 => h9) rfl dX2_first_5 ?_
  have hPc := hP.sub (ws' := wH cy q2 g ++ wH cy q (uh u)) [10, 11, 12, 13, 14, 15, 16, 3, 4, 5, 6, 7, 8, 9] rfl
  have hDc := hD.sub (ws' := wH cy q2 g ++ wH cy q (uh u)) [10, 11, 12, 13, 14, 15, 16, 3, 4, 5, 6, 7, 8, 9] (by decide) rfl
  have hFc := va_free (wc := wH cy q2 g ++ wH cy q (uh u)) hD hS hA [10, 11, 12, 13, 14, 15, 16, 3, 4, 5, 6, 7, 8, 9] rfl
  refine va_callv (va_runV (As := [.ref (q 0)]) (rest := []) ⟨hx, hb, hml, hown, hts⟩ (mX1_copy l D cy s.heap.size q2 q g (uh u) hu.1) (cwV 1 hts gX2_first_X1_copy rfl rfl rfl (by decide +kernel) ⟨Nat.le_of_ble_eq_true rfl, Nat.le_of_ble_eq_true rfl⟩) ⟨fun a U g mk q => ⟨q.1, q.2.1, q.2.2.1, va_K.moved (u := U) (U := U.calling g mk a) (Vm.Alike.refl U.vm) q.2.2.2.1, q.2.2.2.2⟩, va_recv hK hPc (ci := 1) (q0 := 0) rfl rfl, fun U hU hW => ⟨rfl, by rw [hU], by rw [hU]; exact hPc, va_K.moved hW.alike hK, hDc.weaken (fun _ _ _ _ => trivial)⟩⟩ rfl rfl hl.1 rfl (lv_room (Nat.le_of_ble_eq_true rfl)) dX2_first_8 ⟨Nat.le_of_ble_eq_true rfl, Nat.le_of_ble_eq_true rfl⟩) hS (fun q _ h => hFc q h) hFc (fun u9 t9 H1 locs ht9 hvm9 hw9 hB9 hz9 hk9 hS => ?_)
  obtain ⟨hP1, hD1⟩ := hB9
  rw [ht9] at hP1
  obtain ⟨hP, hD⟩ := va_join (wr := [(a 0, .inr (2, [.ref (q 0), .ref (q2 0), .ref (a 1), .ref (a 2), .ref (a 3), .int (nI (un u))])), (a 1, .inl ((cy 0), 12, .inl (uw u))), (a 2, .inl ((cy 0), 12, .inl (ud u))), (a 3, .inl ((cy 2), 6, .inr (.inr (.inr (.inr (fun i => some (ca i))))))), (ca 0, .inr (0, [.ref (ta 0), .int (nI (ul u 0)), .int (nI (uz u 0))])), (ca 1, .inr (0, [.ref (ta 1), .int (nI (ul u 1)), .int (nI (uz u 1))])), (ca 2, .inr (0, [.ref (ta 2), .int (nI (ul u 2)), .int (nI (uz u 2))])), (ca 3, .inr (0, [.ref (ta 3), .int (nI (ul u 3)), .int (nI (uz u 3))])), (ca 4, .inr (0, [.ref (ta 4), .int (nI (ul u 4)), .int (nI (uz u 4))])), (ca 5, .inr (0, [.ref (ta 5), .int (nI (ul u 5)), .int (nI (uz u 5))])), (ta 0, .inl ((cy 0), 4, .inl (ut u 0))), (ta 1, .inl ((cy 0), 4, .inl (ut u 1))), (ta 2, .inl ((cy 0), 4, .inl (ut u 2))), (ta 3, .inl ((cy 0), 4, .inl (ut u 3))), (ta 4, .inl ((cy 0), 4, .inl (ut u 4))), (ta 5, .inl ((cy 0), 4, .inl (ut u 5)))]) (w1 := wH cy q2 (uh u) ++ wH cy q (uh u)) hP hD [10, 11, 12, 13, 14, 15, 16, 3, 4, 5, 6, 7, 8, 9] [0, 1, 2, 17, 18, 19, 20, 21, 22, 23, 24, 25, 26, 27, 28, 29] rfl rfl (by decide) (by decide) hk9 hFc hP1 hD1
  generalize H1 = H at hP hS ⊢
  have hP : va_P D vwCl (wX cy a q q2 ca ta u (uh u)) H := hP.sub [0, 1, 2, 23, 24, 25, 26, 27, 28, 29, 16, 17, 18, 19, 20, 21, 22, 3, 4, 5, 6, 7, 8, 9, 10, 11, 12, 13, 14, 15] rfl
  have hD : va_D A (wX cy a q q2 ca ta u (uh u)) := hD.sub [0, 1, 2, 23, 24, 25, 26, 27, 28, 29, 16, 17, 18, 19, 20, 21, 22, 3, 4, 5, 6, 7, 8, 9, 10, 11, 12, 13, 14, 15] (by decide) rfl
  clear hP1 hD1 hk9 hz9 ht9 hvm9 hPc hDc hFc
  refine lv_iconst (v := 0) hx hb dX2_first_11 (by decide) ?_
  refine lv_istore_n (lv' := [(1, .int 0), (0, .ref (a 0))]) hx hb dX2_first_12 rfl hl (by decide) rfl (fun ls hl => ?_)
  have loop13 : ∀ (n9 : Nat) (k : Nat) (n : Nat), k + n = 200 → firF (uw u) (ud u) (uh u) 0 200 = firF (uw u) (ud u) (uh u) k n → n < n9 → ∀ (H : Heap) (locs : List Loc), va_P D vwCl (wX cy a q q2 ca ta u (hN 0 12 (uw u) (ud u) (uh u) k)) H → va_D A (wX cy a q q2 ca ta u (hN 0 12 (uw u) (ud u) (uh u) k)) → va_S A s.heap H locs → ∀ ls : Array Slot, lv_has ls 2 [(0, .ref (a 0)), (1, .int (nI k))] → W p l e (headSpec wsX2_first ({ frames := 4, cells := 0, slots := 0, locals := 95 } : Room)).room s m ([.ref (a 0)] : List Value).toArray below meth c H locs 0 0 (MQ below (va_Qi (fun (r8 : Int32) (_ : HS) => r8 = firF (uw u) (ud u) (uh u) 0 200) (fun (g9 : HS) t => va_P D vwCl (wX cy a q q2 ca ta u g9) t.heap ∧ va_D A (wX cy a q q2 ca ta u g9)) A) ([.ref (a 0)] : List Value).toArray s 0 0 A) (F0 m 13 ls []) := by
    intro n9
    induction n9 with
    | zero => intro k n hk hv h9 H locs hP hD hS ls hl; exact absurd h9 (by omega)
    | succ n9 ih13 =>
      intro k n hk hv h9 H locs hP hD hS ls hl
      refine lv_iload_n hx hb dX2_first_13 rfl (lv_at hl 1 rfl) ?_
      refine lv_sipush (v := 200) hx hb dX2_first_14 (by decide) ?_
      refine lv_icmp_ge (tgt := 45) hx hb dX2_first_17 (by decide) (fun c17 => ?_) (fun c17 => ?_)
      · have n17 : 200 ≤ k := (nI_leI (a := 200) (b := k) (by omega) (by omega)).mp c17
        refine lv_iconst (v := (-1)) hx hb dX2_first_45 (by decide) ?_
        have hP9 : va_P D vwCl (wX cy a q q2 ca ta u (hN 0 12 (uw u) (ud u) (uh u) k)) H := hP
        have hD9 : va_D A (wX cy a q q2 ca ta u (hN 0 12 (uw u) (ud u) (uh u) k)) := hD
        exact W.iret (v := (-1)) hx hb hr (fun t ht hW => ⟨⟨(-1), (hN 0 12 (uw u) (ud u) (uh u) k), rfl, (by rw [hv, show n = 0 by omega]; rfl), by rw [ht]; exact hP9, hD9⟩, hS.F ht⟩) hS.2.2 dX2_first_46
      · have n17 : ¬ (200 ≤ k) := fun h9 => c17 ((nI_leI (a := 200) (b := k) (by omega) (by omega)).mpr h9)
        obtain ⟨n2, rfl⟩ : ∃ n2, n = n2 + 1 := ⟨n - 1, by omega⟩
        refine lv_aload_n hx hb dX2_first_20 rfl (lv_at hl 0 rfl) ?_
        refine lv_aload_n hx hb dX2_first_21 rfl (lv_at hl 0 rfl) ?_
        refine va_get (D := D) (ci := 2) (v := .ref (q2 0)) (C := RX2) (T := TX2) (N := 6) hx hb hts inX2_first_RX2 hown hK hP 0 rfl rfl 1 (by decide) (hts _ kX2_first_0) (fun _ h9 => h9) rfl dX2_first_22 ?_
        refine lv_iconst (v := 0) hx hb dX2_first_25 (by decide) ?_
        refine lv_bipush (v := 12) hx hb dX2_first_26 (by decide) ?_
        have hPc := hP.sub (ws' := wO cy a q q2 (un u) (uw u) (ud u) ++ wH cy q2 (hN 0 12 (uw u) (ud u) (uh u) k)) [0, 1, 2, 10, 11, 12, 13, 14, 15, 16] rfl
        have hDc := hD.sub (ws' := wO cy a q q2 (un u) (uw u) (ud u) ++ wH cy q2 (hN 0 12 (uw u) (ud u) (uh u) k)) [0, 1, 2, 10, 11, 12, 13, 14, 15, 16] (by decide) rfl
        have hFc := va_free (wc := wO cy a q q2 (un u) (uw u) (ud u) ++ wH cy q2 (hN 0 12 (uw u) (ud u) (uh u) k)) hD hS hA [0, 1, 2, 10, 11, 12, 13, 14, 15, 16] rfl
        refine va_calli (va_runV (As := [.ref (q2 0), .int 0, .int 12]) (rest := []) ⟨hx, hb, hml, hown, hts⟩ (mX2_letHourGo l D cy H.size a q q2 (un u) (uw u) (ud u) q2 (hN 0 12 (uw u) (ud u) (uh u) k) 0 12 (by decide) (by decide) (by rw [zh_hN]; omega)) (cwV 3 hts gX2_first_X2_letHourGo rfl rfl rfl (by decide +kernel) ⟨Nat.le_of_ble_eq_true rfl, Nat.le_of_ble_eq_true rfl⟩) ⟨fun a U g mk q => ⟨q.1, q.2.1, q.2.2.1, va_K.moved (u := U) (U := U.calling g mk a) (Vm.Alike.refl U.vm) q.2.2.2.1, q.2.2.2.2⟩, va_recv hK hPc (ci := 2) (q0 := 0) rfl rfl, fun U hU hW => ⟨rfl, by rw [hU], by rw [hU]; exact hPc, va_K.moved hW.alike hK, hDc.weaken (fun _ _ _ _ => trivial)⟩⟩ rfl rfl hl.1 rfl (lv_room (Nat.le_of_ble_eq_true rfl)) dX2_first_28 ⟨Nat.le_of_ble_eq_true rfl, Nat.le_of_ble_eq_true rfl⟩) hS (fun q _ h => hFc q h) hFc (fun r9 u9 t9 H1 locs ht9 hvm9 hw9 hB9 hz9 hk9 hS => ?_)
        obtain ⟨hP1, hD1⟩ := hB9
        rw [ht9] at hP1
        obtain ⟨hP, hD⟩ := va_join (wr := [(q 0, .inr (1, [.ref (q 1), .ref (q 2), .ref (q 3), .ref (q 4), .ref (q 5), .ref (q 6), .int (zl (uh u)), .int (nI (zh (uh u)))])), (q 1, .inl ((cy 0), 12, .inl (zb (uh u)))), (q 2, .inl ((cy 0), 12, .inl (zw (uh u)))), (q 3, .inl ((cy 0), 12, .inl (zd (uh u)))), (q 4, .inl ((cy 0), 12, .inl (zs (uh u)))), (q 5, .inl ((cy 0), 12, .inl (zr (uh u)))), (q 6, .inl ((cy 1), 12, .inl (zo (uh u)))), (a 3, .inl ((cy 2), 6, .inr (.inr (.inr (.inr (fun i => some (ca i))))))), (ca 0, .inr (0, [.ref (ta 0), .int (nI (ul u 0)), .int (nI (uz u 0))])), (ca 1, .inr (0, [.ref (ta 1), .int (nI (ul u 1)), .int (nI (uz u 1))])), (ca 2, .inr (0, [.ref (ta 2), .int (nI (ul u 2)), .int (nI (uz u 2))])), (ca 3, .inr (0, [.ref (ta 3), .int (nI (ul u 3)), .int (nI (uz u 3))])), (ca 4, .inr (0, [.ref (ta 4), .int (nI (ul u 4)), .int (nI (uz u 4))])), (ca 5, .inr (0, [.ref (ta 5), .int (nI (ul u 5)), .int (nI (uz u 5))])), (ta 0, .inl ((cy 0), 4, .inl (ut u 0))), (ta 1, .inl ((cy 0), 4, .inl (ut u 1))), (ta 2, .inl ((cy 0), 4, .inl (ut u 2))), (ta 3, .inl ((cy 0), 4, .inl (ut u 3))), (ta 4, .inl ((cy 0), 4, .inl (ut u 4))), (ta 5, .inl ((cy 0), 4, .inl (ut u 5)))]) (w1 := wO cy a q q2 (un u) (uw u) (ud u) ++ wH cy q2 (hN 0 12 (uw u) (ud u) (uh u) (k + 1))) hP hD [0, 1, 2, 10, 11, 12, 13, 14, 15, 16] [3, 4, 5, 6, 7, 8, 9, 17, 18, 19, 20, 21, 22, 23, 24, 25, 26, 27, 28, 29] rfl rfl (by decide) (by decide) hk9 hFc hP1 hD1
        generalize H1 = H at hP hS ⊢
        have hP : va_P D vwCl (wX cy a q q2 ca ta u (hN 0 12 (uw u) (ud u) (uh u) (k + 1))) H := hP.sub [20, 21, 22, 0, 1, 2, 3, 4, 5, 6, 23, 24, 25, 26, 27, 28, 29, 7, 8, 9, 10, 11, 12, 13, 14, 15, 16, 17, 18, 19] rfl
        have hD : va_D A (wX cy a q q2 ca ta u (hN 0 12 (uw u) (ud u) (uh u) (k + 1))) := hD.sub [20, 21, 22, 0, 1, 2, 3, 4, 5, 6, 23, 24, 25, 26, 27, 28, 29, 7, 8, 9, 10, 11, 12, 13, 14, 15, 16, 17, 18, 19] (by decide) rfl
        clear hP1 hD1 hk9 hz9 ht9 hvm9 hPc hDc hFc
        subst hw9
        have hb9 := brkN_le 0 12 (uw u) (hN 0 12 (uw u) (ud u) (uh u) k)
        refine lv_if_le (tgt := 39) hx hb dX2_first_31 (by decide) (fun c31 => ?_) (fun c31 => ?_)
        · have n31 : brkN 0 12 (uw u) (hN 0 12 (uw u) (ud u) (uh u) k) ≤ 0 := (nI_leI (a := brkN 0 12 (uw u) (hN 0 12 (uw u) (ud u) (uh u) k)) (b := 0) (by omega) (by omega)).mp c31
          have b31 : brkN 0 12 (uw u) (hN 0 12 (uw u) (ud u) (uh u) k) = 0 := by omega
          refine lv_iinc (v := nI (k + 1)) (lv' := [(1, .int (nI (k + 1))), (0, .ref (a 0))]) hx hb dX2_first_39 hl (k := 1) rfl ((show (nI k) + Int32.ofInt 1 = (nI k) + 1 from rfl).trans (show (nI k) + 1 = nI (k + 1) from nI_add k 1)) (by decide) rfl (fun ls hl => ?_)
          refine lv_goto (tgt := 13) hx hb dX2_first_42 (by decide) ?_
          exact ih13 (k + 1) n2 (by omega) (hv.trans (by simp [firF, b31])) (by omega) _ _ hP hD hS ls (lv_sub hl [1, 0] rfl)
        · have n31 : ¬ (brkN 0 12 (uw u) (hN 0 12 (uw u) (ud u) (uh u) k) ≤ 0) := fun h9 => c31 ((nI_leI (a := brkN 0 12 (uw u) (hN 0 12 (uw u) (ud u) (uh u) k)) (b := 0) (by omega) (by omega)).mpr h9)
          have b31 : ¬ brkN 0 12 (uw u) (hN 0 12 (uw u) (ud u) (uh u) k) = 0 := by omega
          refine lv_aload_n hx hb dX2_first_34 rfl (lv_at hl 0 rfl) ?_
          refine pc_calli (va_runV (As := []) (rest := []) ⟨hx, hb, hml, hown, hts⟩ (mX2_lowestToBreak l D cy a q q2 ca ta u (hN 0 12 (uw u) (ud u) (uh u) (k + 1)) hu) (cwV 0 hts gX2_first_X2_lowestToBreak rfl rfl rfl (by decide +kernel) ⟨Nat.le_of_ble_eq_true rfl, Nat.le_of_ble_eq_true rfl⟩) ⟨fun a U g mk q => ⟨q.1, q.2.1, va_K.moved (u := U) (U := U.calling g mk a) (Vm.Alike.refl U.vm) q.2.2⟩, va_recv hK hP (ci := 2) (q0 := 0) rfl rfl, fun U hU hW => ⟨rfl, by rw [hU]; exact hP, va_K.moved hW.alike hK⟩⟩ rfl rfl hl.1 rfl (lv_room (Nat.le_of_ble_eq_true rfl)) dX2_first_35 ⟨Nat.le_of_ble_eq_true rfl, Nat.le_of_ble_eq_true rfl⟩) (fun r9 hr9 => ?_)
          subst hr9
          have hP9 : va_P D vwCl (wX cy a q q2 ca ta u (hN 0 12 (uw u) (ud u) (uh u) (k + 1))) H := hP
          have hD9 : va_D A (wX cy a q q2 ca ta u (hN 0 12 (uw u) (ud u) (uh u) (k + 1))) := hD
          exact W.iret (v := lowF (lowB (uh u) (hN 0 12 (uw u) (ud u) (uh u) (k + 1))) 0 12) hx hb hr (fun t ht hW => ⟨⟨lowF (lowB (uh u) (hN 0 12 (uw u) (ud u) (uh u) (k + 1))) 0 12, (hN 0 12 (uw u) (ud u) (uh u) (k + 1)), rfl, (by rw [hv]; simp [firF, b31]), by rw [ht]; exact hP9, hD9⟩, hS.F ht⟩) hS.2.2 dX2_first_38
  exact loop13 (200 + 1) 0 200 rfl rfl (by omega) _ _ hP hD hS ls (lv_sub hl [1, 0] rfl)



theorem inX2_foresee_RX2 : ∀ w ∈ u_ws RX2 TX2 6, w ∈ wsX2_foresee := by decide +kernel
theorem kX2_foresee_0 : (.fieldLink RX2 16 "WedgeHarps" "later" "LWedgeHarps$Harp;" : Cond) ∈ wsX2_foresee := by decide +kernel
theorem kX2_foresee_1 : (.fieldLink RX2 10 "WedgeHarps" "now" "LWedgeHarps$Harp;" : Cond) ∈ wsX2_foresee := by decide +kernel
set_option maxHeartbeats 4000000 in
set_option maxRecDepth 100000 in
theorem mX2_foresee (l : Launch) (hst : l.stackTraces = false) (D : va_G) (cy : Nat → ClassId) (sz : Nat) (a q q2 ca ta : Nat → Nat) (u : US) (g : HS) (hu : uOk u) (v k : Int32) : vx_Met l yX2_foresee wsX2_foresee ({ frames := 7, cells := 2, slots := 12, locals := 102 } : Room) (va_Pc [.ref (a 0), .int v, .int k] (fun U => U.heap.size = sz ∧ va_P D vwCl (wX cy a q q2 ca ta u g) U.heap ∧ va_K D vwCl (TY cy) U ∧ va_D (fun _ => True) (wX cy a q q2 ca ta u g) ∧ xC U U.heap)) (va_Qi (fun (r8 : Int32) (_ : HS) => (exFor v k = 0) ∧ r8 = tone (hN (ix k) (ix k + 1) (uw u) (ud u) (uh u) (ix v)) (ix k)) (fun (g9 : HS) t => va_P D vwCl (wX cy a q q2 ca ta u g9) t.heap ∧ va_D (va_A (wX cy a q q2 ca ta u g) sz) (wX cy a q q2 ca ta u g9)) (va_A (wX cy a q q2 ca ta u g) sz)) (pX (fun E => E = xm (exFor v k) ∧ exFor v k ≠ 0)) 2 12 (va_A (wX cy a q q2 ca ta u g) sz) := by
  refine vx_ofW (cc := cX2_foresee) (maxL := 4) (ret := (some .int)) (by decide) rfl ?_
  intro p e s m args below meth c s₁ B hml hex hv
  obtain ⟨rfl, hsz, hP, hK, hD0, hX⟩ := hv
  have hx := B.exec
  have hb := B.bytes
  have hr := B.returns
  have hts := atoms_spec (ws := wsX2_foresee) B.pre
  have hown : s.vm.findClass RX2 = some m.cls := findClass_of_methodNamed B.named
  have hlocks := B.notSynchronized
  have hl := lv_entry ([.ref (a 0), .int v, .int k]) (n := 4) (Nat.le_of_ble_eq_true rfl)
  rw [lg_entry_eq]
  generalize (lg_sl ([.ref (a 0), .int v, .int k]) ++ List.replicate (4 - (lg_sl ([.ref (a 0), .int v, .int k])).length) Slot.unset).toArray = ls at hl ⊢
  have hl : lv_has ls 4 [(0, .ref (a 0)), (1, .int v), (2, .int k)] := hl
  subst hsz
  have hD := hD0.self (sz := s.heap.size)
  generalize hAe : va_A (wX cy a q q2 ca ta u g) s.heap.size = A at hD ⊢
  have hA : ∀ q : Nat, s.heap.size ≤ q → A q := fun q h => by rw [← hAe]; exact Or.inr h
  have hS : va_S A s.heap s.heap [] := va_S.rf
  have hP : va_P D vwCl (wX cy a q q2 ca ta u g) s.heap := hP
  refine lv_iload_n hx hb dX2_foresee_0 rfl (lv_at hl 1 rfl) ?_
  refine px_callv (vx_runS (As := [.int v]) (rest := []) ⟨hx, hb, hml, hown, hts⟩ (mX2_checkHours l hst D cy v) (va_cwS 1 hts gX2_foresee_X2_checkHours rfl rfl rfl (by decide +kernel) ⟨Nat.le_of_ble_eq_true rfl, Nat.le_of_ble_eq_true rfl⟩) ⟨fun a U g mk q => ⟨q.1, xC.warm (State.WarmedH.refl U) q.2⟩, fun U hU hW => ⟨rfl, (show xC U U.heap by rw [hU]; exact hX.warm hW)⟩⟩ rfl rfl hl.1 rfl (lv_room (Nat.le_of_ble_eq_true rfl)) dX2_foresee_1 ⟨Nat.le_of_ble_eq_true rfl, Nat.le_of_ble_eq_true rfl⟩) (fun E9 ce9 q9 H9 hE9 h19 h29 hce9 hcv9 hcl9 => px_out hex hlocks h19 h29 hce9 hcv9 hcl9 (by simp [exFor, xm, hE9.1, hE9.2]) (Nat.le_of_ble_eq_true rfl) (Nat.le_of_ble_eq_true rfl)) (fun hp1 => ?_)
  refine W.widen (k := 1) (n := 6) (Nat.le_of_ble_eq_true rfl) (Nat.le_of_ble_eq_true rfl) ?_
  refine lv_iload_n hx hb dX2_foresee_4 rfl (lv_at hl 2 rfl) ?_
  refine px_callv (vx_runS (As := [.int k]) (rest := []) ⟨hx, hb, hml, hown, hts⟩ (mX2_checkString l hst D cy k) (va_cwS 1 hts gX2_foresee_X2_checkString rfl rfl rfl (by decide +kernel) ⟨Nat.le_of_ble_eq_true rfl, Nat.le_of_ble_eq_true rfl⟩) ⟨fun a U g mk q => ⟨q.1, xC.warm (State.WarmedH.refl U) q.2⟩, fun U hU hW => ⟨rfl, (show xC U U.heap by rw [hU]; exact hX.warm hW)⟩⟩ rfl rfl hl.1 rfl (lv_room (Nat.le_of_ble_eq_true rfl)) dX2_foresee_5 ⟨Nat.le_of_ble_eq_true rfl, Nat.le_of_ble_eq_true rfl⟩) (fun E9 ce9 q9 H9 hE9 h19 h29 hce9 hcv9 hcl9 => px_out hex hlocks h19 h29 hce9 hcv9 hcl9 (by simp [exFor, xm, hp1, hE9.1, hE9.2]) (Nat.le_of_ble_eq_true rfl) (Nat.le_of_ble_eq_true rfl)) (fun hp5 => ?_)
  refine W.widen (k := 2) (n := 12) (Nat.le_of_ble_eq_true rfl) (Nat.le_of_ble_eq_true rfl) ?_
  obtain ⟨j, hj1, hj2, rfl⟩ := isH_nat hp1
  have e9 : ix (nI j) = j := (ix_nI (show j < 2147483648 by omega))
  have hz9 : zh (uh u) < 1000000000 := hu.2.2.2.2
  obtain ⟨i, hi, rfl⟩ := isS_nat hp5
  have f9 : ix (nI i) = i := (ix_nI (show i < 2147483648 by omega))
  refine lv_aload_n hx hb dX2_foresee_8 rfl (lv_at hl 0 rfl) ?_
  refine va_get (D := D) (ci := 2) (v := .ref (q2 0)) (C := RX2) (T := TX2) (N := 6) hx hb hts inX2_foresee_RX2 hown hK hP 0 rfl rfl 1 (by decide) (hts _ kX2_foresee_0) (fun _ h9 => h9) rfl dX2_foresee_9 ?_
  refine lv_aload_n hx hb dX2_foresee_12 rfl (lv_at hl 0 rfl) ?_
  refine va_get (D := D) (ci := 2) (v := .ref (q 0)) (C := RX2) (T := TX2) (N := 6) hx hb hts inX2_foresee_RX2 hown hK hP 0 rfl rfl 0 (by decide) (hts _ kX2_foresee_1) (fun _ h9 => h9) rfl dX2_foresee_13 ?_
  have hPc := hP.sub (ws' := wH cy q2 g ++ wH cy q (uh u)) [10, 11, 12, 13, 14, 15, 16, 3, 4, 5, 6, 7, 8, 9] rfl
  have hDc := hD.sub (ws' := wH cy q2 g ++ wH cy q (uh u)) [10, 11, 12, 13, 14, 15, 16, 3, 4, 5, 6, 7, 8, 9] (by decide) rfl
  have hFc := va_free (wc := wH cy q2 g ++ wH cy q (uh u)) hD hS hA [10, 11, 12, 13, 14, 15, 16, 3, 4, 5, 6, 7, 8, 9] rfl
  refine va_callv (va_runV (As := [.ref (q 0)]) (rest := []) ⟨hx, hb, hml, hown, hts⟩ (mX1_copy l D cy s.heap.size q2 q g (uh u) hu.1) (cwV 1 hts gX2_foresee_X1_copy rfl rfl rfl (by decide +kernel) ⟨Nat.le_of_ble_eq_true rfl, Nat.le_of_ble_eq_true rfl⟩) ⟨fun a U g mk q => ⟨q.1, q.2.1, q.2.2.1, va_K.moved (u := U) (U := U.calling g mk a) (Vm.Alike.refl U.vm) q.2.2.2.1, q.2.2.2.2⟩, va_recv hK hPc (ci := 1) (q0 := 0) rfl rfl, fun U hU hW => ⟨rfl, by rw [hU], by rw [hU]; exact hPc, va_K.moved hW.alike hK, hDc.weaken (fun _ _ _ _ => trivial)⟩⟩ rfl rfl hl.1 rfl (lv_room (Nat.le_of_ble_eq_true rfl)) dX2_foresee_16 ⟨Nat.le_of_ble_eq_true rfl, Nat.le_of_ble_eq_true rfl⟩) hS (fun q _ h => hFc q h) hFc (fun u9 t9 H1 locs ht9 hvm9 hw9 hB9 hz9 hk9 hS => ?_)
  obtain ⟨hP1, hD1⟩ := hB9
  rw [ht9] at hP1
  obtain ⟨hP, hD⟩ := va_join (wr := [(a 0, .inr (2, [.ref (q 0), .ref (q2 0), .ref (a 1), .ref (a 2), .ref (a 3), .int (nI (un u))])), (a 1, .inl ((cy 0), 12, .inl (uw u))), (a 2, .inl ((cy 0), 12, .inl (ud u))), (a 3, .inl ((cy 2), 6, .inr (.inr (.inr (.inr (fun i => some (ca i))))))), (ca 0, .inr (0, [.ref (ta 0), .int (nI (ul u 0)), .int (nI (uz u 0))])), (ca 1, .inr (0, [.ref (ta 1), .int (nI (ul u 1)), .int (nI (uz u 1))])), (ca 2, .inr (0, [.ref (ta 2), .int (nI (ul u 2)), .int (nI (uz u 2))])), (ca 3, .inr (0, [.ref (ta 3), .int (nI (ul u 3)), .int (nI (uz u 3))])), (ca 4, .inr (0, [.ref (ta 4), .int (nI (ul u 4)), .int (nI (uz u 4))])), (ca 5, .inr (0, [.ref (ta 5), .int (nI (ul u 5)), .int (nI (uz u 5))])), (ta 0, .inl ((cy 0), 4, .inl (ut u 0))), (ta 1, .inl ((cy 0), 4, .inl (ut u 1))), (ta 2, .inl ((cy 0), 4, .inl (ut u 2))), (ta 3, .inl ((cy 0), 4, .inl (ut u 3))), (ta 4, .inl ((cy 0), 4, .inl (ut u 4))), (ta 5, .inl ((cy 0), 4, .inl (ut u 5)))]) (w1 := wH cy q2 (uh u) ++ wH cy q (uh u)) hP hD [10, 11, 12, 13, 14, 15, 16, 3, 4, 5, 6, 7, 8, 9] [0, 1, 2, 17, 18, 19, 20, 21, 22, 23, 24, 25, 26, 27, 28, 29] rfl rfl (by decide) (by decide) hk9 hFc hP1 hD1
  generalize H1 = H at hP hS ⊢
  have hP : va_P D vwCl (wX cy a q q2 ca ta u (uh u)) H := hP.sub [0, 1, 2, 23, 24, 25, 26, 27, 28, 29, 16, 17, 18, 19, 20, 21, 22, 3, 4, 5, 6, 7, 8, 9, 10, 11, 12, 13, 14, 15] rfl
  have hD : va_D A (wX cy a q q2 ca ta u (uh u)) := hD.sub [0, 1, 2, 23, 24, 25, 26, 27, 28, 29, 16, 17, 18, 19, 20, 21, 22, 3, 4, 5, 6, 7, 8, 9, 10, 11, 12, 13, 14, 15] (by decide) rfl
  clear hP1 hD1 hk9 hz9 ht9 hvm9 hPc hDc hFc
  refine lv_iconst (v := 0) hx hb dX2_foresee_19 (by decide) ?_
  refine lv_istore_n (lv' := [(3, .int 0), (0, .ref (a 0)), (1, .int (nI j)), (2, .int (nI i))]) hx hb dX2_foresee_20 rfl hl (by decide) rfl (fun ls hl => ?_)
  have loop21 : ∀ (n9 : Nat) (n : Nat), n ≤ j → j - n < n9 → ∀ (H : Heap) (locs : List Loc), va_P D vwCl (wX cy a q q2 ca ta u (hN i (i + 1) (uw u) (ud u) (uh u) n)) H → va_D A (wX cy a q q2 ca ta u (hN i (i + 1) (uw u) (ud u) (uh u) n)) → va_S A s.heap H locs → ∀ ls : Array Slot, lv_has ls 4 [(0, .ref (a 0)), (1, .int (nI j)), (2, .int (nI i)), (3, .int (nI n))] → W p l e (headSpec wsX2_foresee ({ frames := 7, cells := 2, slots := 12, locals := 102 } : Room)).room s m ([.ref (a 0), .int (nI j), .int (nI i)] : List Value).toArray below meth c H locs 2 12 (vx_MQ below (va_Qi (fun (r8 : Int32) (_ : HS) => (exFor (nI j) (nI i) = 0) ∧ r8 = tone (hN (ix (nI i)) (ix (nI i) + 1) (uw u) (ud u) (uh u) (ix (nI j))) (ix (nI i))) (fun (g9 : HS) t => va_P D vwCl (wX cy a q q2 ca ta u g9) t.heap ∧ va_D A (wX cy a q q2 ca ta u g9)) A) (pX (fun E => E = xm (exFor (nI j) (nI i)) ∧ exFor (nI j) (nI i) ≠ 0)) ([.ref (a 0), .int (nI j), .int (nI i)] : List Value).toArray s 2 12 A) (F0 m 21 ls []) := by
    intro n9
    induction n9 with
    | zero => intro n hn h9 H locs hP hD hS ls hl; exact absurd h9 (by omega)
    | succ n9 ih21 =>
      intro n hn h9 H locs hP hD hS ls hl
      refine lv_iload_n hx hb dX2_foresee_21 rfl (lv_at hl 3 rfl) ?_
      refine lv_iload_n hx hb dX2_foresee_22 rfl (lv_at hl 1 rfl) ?_
      refine lv_icmp_ge (tgt := 45) hx hb dX2_foresee_23 (by decide) (fun c23 => ?_) (fun c23 => ?_)
      · have n23 : j ≤ n := (nI_leI (a := j) (b := n) (by omega) (by omega)).mp c23
        refine lv_aload_n hx hb dX2_foresee_45 rfl (lv_at hl 0 rfl) ?_
        refine va_get (D := D) (ci := 2) (v := .ref (q2 0)) (C := RX2) (T := TX2) (N := 6) hx hb hts inX2_foresee_RX2 hown hK hP 0 rfl rfl 1 (by decide) (hts _ kX2_foresee_0) (fun _ h9 => h9) rfl dX2_foresee_46 ?_
        refine lv_iload_n hx hb dX2_foresee_49 rfl (lv_at hl 2 rfl) ?_
        have hPc := hP.sub (ws' := wH cy q2 (hN i (i + 1) (uw u) (ud u) (uh u) n)) [10, 11, 12, 13, 14, 15, 16] rfl
        refine pc_calli (va_runV (As := [.int (nI i)]) (rest := []) ⟨hx, hb, hml, hown, hts⟩ (mX1_toneOf l D cy q2 (hN i (i + 1) (uw u) (ud u) (uh u) n) i hi) (cwV 1 hts gX2_foresee_X1_toneOf rfl rfl rfl (by decide +kernel) ⟨Nat.le_of_ble_eq_true rfl, Nat.le_of_ble_eq_true rfl⟩) ⟨fun a U g mk q => ⟨q.1, q.2.1, va_K.moved (u := U) (U := U.calling g mk a) (Vm.Alike.refl U.vm) q.2.2⟩, va_recv hK hPc (ci := 1) (q0 := 0) rfl rfl, fun U hU hW => ⟨rfl, by rw [hU]; exact hPc, va_K.moved hW.alike hK⟩⟩ rfl rfl hl.1 rfl (lv_room (Nat.le_of_ble_eq_true rfl)) dX2_foresee_50 ⟨Nat.le_of_ble_eq_true rfl, Nat.le_of_ble_eq_true rfl⟩) (fun r9 hr9 => ?_)
        subst hr9
        have hP9 : va_P D vwCl (wX cy a q q2 ca ta u (hN i (i + 1) (uw u) (ud u) (uh u) n)) H := hP
        have hD9 : va_D A (wX cy a q q2 ca ta u (hN i (i + 1) (uw u) (ud u) (uh u) n)) := hD
        refine vx_ret ?_
        exact W.iret (v := tone (hN i (i + 1) (uw u) (ud u) (uh u) n) i) hx hb hr (fun t ht hW => ⟨⟨tone (hN i (i + 1) (uw u) (ud u) (uh u) n) i, (hN i (i + 1) (uw u) (ud u) (uh u) n), rfl, ⟨(by simp [exFor, hp1, hp5]), by rw [e9, f9, show j = n by omega]⟩, by rw [ht]; exact hP9, hD9⟩, hS.F ht⟩) hS.2.2 dX2_foresee_53
      · have n23 : ¬ (j ≤ n) := fun h9 => c23 ((nI_leI (a := j) (b := n) (by omega) (by omega)).mpr h9)
        refine lv_aload_n hx hb dX2_foresee_26 rfl (lv_at hl 0 rfl) ?_
        refine lv_aload_n hx hb dX2_foresee_27 rfl (lv_at hl 0 rfl) ?_
        refine va_get (D := D) (ci := 2) (v := .ref (q2 0)) (C := RX2) (T := TX2) (N := 6) hx hb hts inX2_foresee_RX2 hown hK hP 0 rfl rfl 1 (by decide) (hts _ kX2_foresee_0) (fun _ h9 => h9) rfl dX2_foresee_28 ?_
        refine lv_iload_n hx hb dX2_foresee_31 rfl (lv_at hl 2 rfl) ?_
        refine lv_iload_n hx hb dX2_foresee_32 rfl (lv_at hl 2 rfl) ?_
        refine lv_iconst (v := 1) hx hb dX2_foresee_33 (by decide) ?_
        refine lv_iadd hx hb dX2_foresee_34 ?_
        refine pc_top (show (nI i) + 1 = nI (i + 1) from nI_add i 1) ?_
        have hPc := hP.sub (ws' := wO cy a q q2 (un u) (uw u) (ud u) ++ wH cy q2 (hN i (i + 1) (uw u) (ud u) (uh u) n)) [0, 1, 2, 10, 11, 12, 13, 14, 15, 16] rfl
        have hDc := hD.sub (ws' := wO cy a q q2 (un u) (uw u) (ud u) ++ wH cy q2 (hN i (i + 1) (uw u) (ud u) (uh u) n)) [0, 1, 2, 10, 11, 12, 13, 14, 15, 16] (by decide) rfl
        have hFc := va_free (wc := wO cy a q q2 (un u) (uw u) (ud u) ++ wH cy q2 (hN i (i + 1) (uw u) (ud u) (uh u) n)) hD hS hA [0, 1, 2, 10, 11, 12, 13, 14, 15, 16] rfl
        refine va_calli (va_runV (As := [.ref (q2 0), .int (nI i), .int (nI (i + 1))]) (rest := []) ⟨hx, hb, hml, hown, hts⟩ (mX2_letHourGo l D cy H.size a q q2 (un u) (uw u) (ud u) q2 (hN i (i + 1) (uw u) (ud u) (uh u) n) i (i + 1) (by omega) (by omega) (by rw [zh_hN]; omega)) (cwV 3 hts gX2_foresee_X2_letHourGo rfl rfl rfl (by decide +kernel) ⟨Nat.le_of_ble_eq_true rfl, Nat.le_of_ble_eq_true rfl⟩) ⟨fun a U g mk q => ⟨q.1, q.2.1, q.2.2.1, va_K.moved (u := U) (U := U.calling g mk a) (Vm.Alike.refl U.vm) q.2.2.2.1, q.2.2.2.2⟩, va_recv hK hPc (ci := 2) (q0 := 0) rfl rfl, fun U hU hW => ⟨rfl, by rw [hU], by rw [hU]; exact hPc, va_K.moved hW.alike hK, hDc.weaken (fun _ _ _ _ => trivial)⟩⟩ rfl rfl hl.1 rfl (lv_room (Nat.le_of_ble_eq_true rfl)) dX2_foresee_35 ⟨Nat.le_of_ble_eq_true rfl, Nat.le_of_ble_eq_true rfl⟩) hS (fun q _ h => hFc q h) hFc (fun r9 u9 t9 H1 locs ht9 hvm9 hw9 hB9 hz9 hk9 hS => ?_)
        obtain ⟨hP1, hD1⟩ := hB9
        rw [ht9] at hP1
        obtain ⟨hP, hD⟩ := va_join (wr := [(q 0, .inr (1, [.ref (q 1), .ref (q 2), .ref (q 3), .ref (q 4), .ref (q 5), .ref (q 6), .int (zl (uh u)), .int (nI (zh (uh u)))])), (q 1, .inl ((cy 0), 12, .inl (zb (uh u)))), (q 2, .inl ((cy 0), 12, .inl (zw (uh u)))), (q 3, .inl ((cy 0), 12, .inl (zd (uh u)))), (q 4, .inl ((cy 0), 12, .inl (zs (uh u)))), (q 5, .inl ((cy 0), 12, .inl (zr (uh u)))), (q 6, .inl ((cy 1), 12, .inl (zo (uh u)))), (a 3, .inl ((cy 2), 6, .inr (.inr (.inr (.inr (fun i => some (ca i))))))), (ca 0, .inr (0, [.ref (ta 0), .int (nI (ul u 0)), .int (nI (uz u 0))])), (ca 1, .inr (0, [.ref (ta 1), .int (nI (ul u 1)), .int (nI (uz u 1))])), (ca 2, .inr (0, [.ref (ta 2), .int (nI (ul u 2)), .int (nI (uz u 2))])), (ca 3, .inr (0, [.ref (ta 3), .int (nI (ul u 3)), .int (nI (uz u 3))])), (ca 4, .inr (0, [.ref (ta 4), .int (nI (ul u 4)), .int (nI (uz u 4))])), (ca 5, .inr (0, [.ref (ta 5), .int (nI (ul u 5)), .int (nI (uz u 5))])), (ta 0, .inl ((cy 0), 4, .inl (ut u 0))), (ta 1, .inl ((cy 0), 4, .inl (ut u 1))), (ta 2, .inl ((cy 0), 4, .inl (ut u 2))), (ta 3, .inl ((cy 0), 4, .inl (ut u 3))), (ta 4, .inl ((cy 0), 4, .inl (ut u 4))), (ta 5, .inl ((cy 0), 4, .inl (ut u 5)))]) (w1 := wO cy a q q2 (un u) (uw u) (ud u) ++ wH cy q2 (hN i (i + 1) (uw u) (ud u) (uh u) (n + 1))) hP hD [0, 1, 2, 10, 11, 12, 13, 14, 15, 16] [3, 4, 5, 6, 7, 8, 9, 17, 18, 19, 20, 21, 22, 23, 24, 25, 26, 27, 28, 29] rfl rfl (by decide) (by decide) hk9 hFc hP1 hD1
        generalize H1 = H at hP hS ⊢
        have hP : va_P D vwCl (wX cy a q q2 ca ta u (hN i (i + 1) (uw u) (ud u) (uh u) (n + 1))) H := hP.sub [20, 21, 22, 0, 1, 2, 3, 4, 5, 6, 23, 24, 25, 26, 27, 28, 29, 7, 8, 9, 10, 11, 12, 13, 14, 15, 16, 17, 18, 19] rfl
        have hD : va_D A (wX cy a q q2 ca ta u (hN i (i + 1) (uw u) (ud u) (uh u) (n + 1))) := hD.sub [20, 21, 22, 0, 1, 2, 3, 4, 5, 6, 23, 24, 25, 26, 27, 28, 29, 7, 8, 9, 10, 11, 12, 13, 14, 15, 16, 17, 18, 19] (by decide) rfl
        clear hP1 hD1 hk9 hz9 ht9 hvm9 hPc hDc hFc
        subst hw9
        refine lv_pop hx hb dX2_foresee_38 rfl ?_
        refine lv_iinc (v := nI (n + 1)) (lv' := [(3, .int (nI (n + 1))), (0, .ref (a 0)), (1, .int (nI j)), (2, .int (nI i))]) hx hb dX2_foresee_39 hl (k := 3) rfl ((show (nI n) + Int32.ofInt 1 = (nI n) + 1 from rfl).trans (show (nI n) + 1 = nI (n + 1) from nI_add n 1)) (by decide) rfl (fun ls hl => ?_)
        refine lv_goto (tgt := 21) hx hb dX2_foresee_42 (by decide) ?_
        exact ih21 (n + 1) (by omega) (by omega) _ _ hP hD hS ls (lv_sub hl [1, 2, 3, 0] rfl)
  exact loop21 (j + 1) 0 (Nat.zero_le _) (by omega) _ _ hP hD hS ls (lv_sub hl [1, 2, 3, 0] rfl)

theorem inX2_holds_RX0 : ∀ w ∈ u_ws RX0 TX0 3, w ∈ wsX2_holds := by decide +kernel
theorem inX2_holds_RX2 : ∀ w ∈ u_ws RX2 TX2 6, w ∈ wsX2_holds := by decide +kernel
theorem kX2_holds_0 : (.fieldLink RX2 28 "WedgeHarps" "chords" "[LWedgeHarps$Chord;" : Cond) ∈ wsX2_holds := by decide +kernel
theorem kX2_holds_1 : (.fieldLink RX2 16 "WedgeHarps" "later" "LWedgeHarps$Harp;" : Cond) ∈ wsX2_holds := by decide +kernel
theorem kX2_holds_2 : (.fieldLink RX2 10 "WedgeHarps" "now" "LWedgeHarps$Harp;" : Cond) ∈ wsX2_holds := by decide +kernel
theorem kX2_holds_3 : (.fieldLink RX2 154 "WedgeHarps$Chord" "lowest" "I" : Cond) ∈ wsX2_holds := by decide +kernel
theorem kX2_holds_4 : (.fieldLink RX2 157 "WedgeHarps$Chord" "size" "I" : Cond) ∈ wsX2_holds := by decide +kernel
set_option maxHeartbeats 4000000 in
set_option maxRecDepth 100000 in
theorem mX2_holds (l : Launch) (hst : l.stackTraces = false) (D : va_G) (cy : Nat → ClassId) (sz : Nat) (a q q2 ca ta : Nat → Nat) (u : US) (g : HS) (hu : uOk u) (v : Int32) : vx_Met l yX2_holds wsX2_holds ({ frames := 7, cells := 1, slots := 6, locals := 103 } : Room) (va_Pc [.ref (a 0), .int v] (fun U => U.heap.size = sz ∧ va_P D vwCl (wX cy a q q2 ca ta u g) U.heap ∧ va_K D vwCl (TY cy) U ∧ va_D (fun _ => True) (wX cy a q q2 ca ta u g) ∧ xC U U.heap)) (va_Qi (fun (r8 : Int32) (_ : HS) => (exC u v = 0) ∧ r8 = lowF (fun k => !(holdP u (ix v) k)) 0 201) (fun (g9 : HS) t => va_P D vwCl (wX cy a q q2 ca ta u g9) t.heap ∧ va_D (va_A (wX cy a q q2 ca ta u g) sz) (wX cy a q q2 ca ta u g9)) (va_A (wX cy a q q2 ca ta u g) sz)) (pX (fun E => E = xn (exC u v) ∧ exC u v ≠ 0)) 1 6 (va_A (wX cy a q q2 ca ta u g) sz) := by
  refine vx_ofW (cc := cX2_holds) (maxL := 4) (ret := (some .int)) (by decide) rfl ?_
  intro p e s m args below meth c s₁ B hml hex hv
  obtain ⟨rfl, hsz, hP, hK, hD0, hX⟩ := hv
  have hx := B.exec
  have hb := B.bytes
  have hr := B.returns
  have hts := atoms_spec (ws := wsX2_holds) B.pre
  have hown : s.vm.findClass RX2 = some m.cls := findClass_of_methodNamed B.named
  have hlocks := B.notSynchronized
  have hl := lv_entry ([.ref (a 0), .int v]) (n := 4) (Nat.le_of_ble_eq_true rfl)
  rw [lg_entry_eq]
  generalize (lg_sl ([.ref (a 0), .int v]) ++ List.replicate (4 - (lg_sl ([.ref (a 0), .int v])).length) Slot.unset).toArray = ls at hl ⊢
  have hl : lv_has ls 4 [(0, .ref (a 0)), (1, .int v)] := hl
  subst hsz
  have hD := hD0.self (sz := s.heap.size)
  generalize hAe : va_A (wX cy a q q2 ca ta u g) s.heap.size = A at hD ⊢
  have hA : ∀ q : Nat, s.heap.size ≤ q → A q := fun q h => by rw [← hAe]; exact Or.inr h
  have hS : va_S A s.heap s.heap [] := va_S.rf
  have hP : va_P D vwCl (wX cy a q q2 ca ta u g) s.heap := hP
  refine lv_aload_n hx hb dX2_holds_0 rfl (lv_at hl 0 rfl) ?_
  refine lv_iload_n hx hb dX2_holds_1 rfl (lv_at hl 1 rfl) ?_
  refine px_callv (vx_runV (As := [.int v]) (rest := []) ⟨hx, hb, hml, hown, hts⟩ (mX2_checkChord l hst D cy a q q2 ca ta u g hu v) (cwV 1 hts gX2_holds_X2_checkChord rfl rfl rfl (by decide +kernel) ⟨Nat.le_of_ble_eq_true rfl, Nat.le_of_ble_eq_true rfl⟩) ⟨fun a U g mk q => ⟨q.1, q.2.1, va_K.moved (u := U) (U := U.calling g mk a) (Vm.Alike.refl U.vm) q.2.2.1, xC.warm (State.WarmedH.refl U) q.2.2.2⟩, va_recv hK hP (ci := 2) (q0 := 0) rfl rfl, fun U hU hW => ⟨rfl, by rw [hU]; exact hP, va_K.moved hW.alike hK, (show xC U U.heap by rw [hU]; exact hX.warm hW)⟩⟩ rfl rfl hl.1 rfl (lv_room (Nat.le_of_ble_eq_true rfl)) dX2_holds_2 ⟨Nat.le_of_ble_eq_true rfl, Nat.le_of_ble_eq_true rfl⟩) (fun E9 ce9 q9 H9 hE9 h19 h29 hce9 hcv9 hcl9 => px_out hex hlocks h19 h29 hce9 hcv9 hcl9 (by simp [exC, xn, hE9.1, hE9.2]) (Nat.le_of_ble_eq_true rfl) (Nat.le_of_ble_eq_true rfl)) (fun hp2 => ?_)
  refine W.widen (k := 1) (n := 6) (Nat.le_of_ble_eq_true rfl) (Nat.le_of_ble_eq_true rfl) ?_
  obtain ⟨j, hj, rfl⟩ := isC_nat hu.2.1 hp2
  have h6 : j < 6 := by have := hu.2.1; omega
  have e9 : ix (nI j) = j := (ix_nI (show j < 2147483648 by omega))
  have hz9 : zh (uh u) < 1000000000 := hu.2.2.2.2
  have hc9 := hu.2.2.1 j h6
  refine lv_aload_n hx hb dX2_holds_5 rfl (lv_at hl 0 rfl) ?_
  refine va_get (D := D) (ci := 2) (v := .ref (a 3)) (C := RX2) (T := TX2) (N := 6) hx hb hts inX2_holds_RX2 hown hK hP 0 rfl rfl 4 (by decide) (hts _ kX2_holds_0) (fun _ h9 => h9) rfl dX2_holds_6 ?_
  refine lv_iload_n hx hb dX2_holds_9 rfl (lv_at hl 1 rfl) ?_
  refine pc_aldq hx hb hK hP 17 2 rfl rfl (k := j) (show j < 6 by omega) (by decide) (v := ca j) rfl dX2_holds_10 ?_
  refine lv_astore_n (lv' := [(2, .ref (ca j)), (0, .ref (a 0)), (1, .int (nI j))]) hx hb dX2_holds_11 rfl hl (by decide) rfl (fun ls hl => ?_)
  refine lv_aload_n hx hb dX2_holds_12 rfl (lv_at hl 1 rfl) ?_
  refine va_get (D := D) (ci := 2) (v := .ref (q2 0)) (C := RX2) (T := TX2) (N := 6) hx hb hts inX2_holds_RX2 hown hK hP 0 rfl rfl 1 (by decide) (hts _ kX2_holds_1) (fun _ h9 => h9) rfl dX2_holds_13 ?_
  refine lv_aload_n hx hb dX2_holds_16 rfl (lv_at hl 1 rfl) ?_
  refine va_get (D := D) (ci := 2) (v := .ref (q 0)) (C := RX2) (T := TX2) (N := 6) hx hb hts inX2_holds_RX2 hown hK hP 0 rfl rfl 0 (by decide) (hts _ kX2_holds_2) (fun _ h9 => h9) rfl dX2_holds_17 ?_
  have hPc := hP.sub (ws' := wH cy q2 g ++ wH cy q (uh u)) [10, 11, 12, 13, 14, 15, 16, 3, 4, 5, 6, 7, 8, 9] rfl
  have hDc := hD.sub (ws' := wH cy q2 g ++ wH cy q (uh u)) [10, 11, 12, 13, 14, 15, 16, 3, 4, 5, 6, 7, 8, 9] (by decide) rfl
  have hFc := va_free (wc := wH cy q2 g ++ wH cy q (uh u)) hD hS hA [10, 11, 12, 13, 14, 15, 16, 3, 4, 5, 6, 7, 8, 9] rfl
  refine va_callv (va_runV (As := [.ref (q 0)]) (rest := []) ⟨hx, hb, hml, hown, hts⟩ (mX1_copy l D cy s.heap.size q2 q g (uh u) hu.1) (cwV 1 hts gX2_holds_X1_copy rfl rfl rfl (by decide +kernel) ⟨Nat.le_of_ble_eq_true rfl, Nat.le_of_ble_eq_true rfl⟩) ⟨fun a U g mk q => ⟨q.1, q.2.1, q.2.2.1, va_K.moved (u := U) (U := U.calling g mk a) (Vm.Alike.refl U.vm) q.2.2.2.1, q.2.2.2.2⟩, va_recv hK hPc (ci := 1) (q0 := 0) rfl rfl, fun U hU hW => ⟨rfl, by rw [hU], by rw [hU]; exact hPc, va_K.moved hW.alike hK, hDc.weaken (fun _ _ _ _ => trivial)⟩⟩ rfl rfl hl.1 rfl (lv_room (Nat.le_of_ble_eq_true rfl)) dX2_holds_20 ⟨Nat.le_of_ble_eq_true rfl, Nat.le_of_ble_eq_true rfl⟩) hS (fun q _ h => hFc q h) hFc (fun u9 t9 H1 locs ht9 hvm9 hw9 hB9 hz9 hk9 hS => ?_)
  obtain ⟨hP1, hD1⟩ := hB9
  rw [ht9] at hP1
  obtain ⟨hP, hD⟩ := va_join (wr := [(a 0, .inr (2, [.ref (q 0), .ref (q2 0), .ref (a 1), .ref (a 2), .ref (a 3), .int (nI (un u))])), (a 1, .inl ((cy 0), 12, .inl (uw u))), (a 2, .inl ((cy 0), 12, .inl (ud u))), (a 3, .inl ((cy 2), 6, .inr (.inr (.inr (.inr (fun i => some (ca i))))))), (ca 0, .inr (0, [.ref (ta 0), .int (nI (ul u 0)), .int (nI (uz u 0))])), (ca 1, .inr (0, [.ref (ta 1), .int (nI (ul u 1)), .int (nI (uz u 1))])), (ca 2, .inr (0, [.ref (ta 2), .int (nI (ul u 2)), .int (nI (uz u 2))])), (ca 3, .inr (0, [.ref (ta 3), .int (nI (ul u 3)), .int (nI (uz u 3))])), (ca 4, .inr (0, [.ref (ta 4), .int (nI (ul u 4)), .int (nI (uz u 4))])), (ca 5, .inr (0, [.ref (ta 5), .int (nI (ul u 5)), .int (nI (uz u 5))])), (ta 0, .inl ((cy 0), 4, .inl (ut u 0))), (ta 1, .inl ((cy 0), 4, .inl (ut u 1))), (ta 2, .inl ((cy 0), 4, .inl (ut u 2))), (ta 3, .inl ((cy 0), 4, .inl (ut u 3))), (ta 4, .inl ((cy 0), 4, .inl (ut u 4))), (ta 5, .inl ((cy 0), 4, .inl (ut u 5)))]) (w1 := wH cy q2 (uh u) ++ wH cy q (uh u)) hP hD [10, 11, 12, 13, 14, 15, 16, 3, 4, 5, 6, 7, 8, 9] [0, 1, 2, 17, 18, 19, 20, 21, 22, 23, 24, 25, 26, 27, 28, 29] rfl rfl (by decide) (by decide) hk9 hFc hP1 hD1
  generalize H1 = H at hP hS ⊢
  have hP : va_P D vwCl (wX cy a q q2 ca ta u (uh u)) H := hP.sub [0, 1, 2, 23, 24, 25, 26, 27, 28, 29, 16, 17, 18, 19, 20, 21, 22, 3, 4, 5, 6, 7, 8, 9, 10, 11, 12, 13, 14, 15] rfl
  have hD : va_D A (wX cy a q q2 ca ta u (uh u)) := hD.sub [0, 1, 2, 23, 24, 25, 26, 27, 28, 29, 16, 17, 18, 19, 20, 21, 22, 3, 4, 5, 6, 7, 8, 9, 10, 11, 12, 13, 14, 15] (by decide) rfl
  clear hP1 hD1 hk9 hz9 ht9 hvm9 hPc hDc hFc
  refine lv_iconst (v := 0) hx hb dX2_holds_23 (by decide) ?_
  refine lv_istore_n (lv' := [(3, .int 0), (2, .ref (ca j)), (0, .ref (a 0)), (1, .int (nI j))]) hx hb dX2_holds_24 rfl hl (by decide) rfl (fun ls hl => ?_)
  have loop25 : ∀ (n9 : Nat) (k : Nat) (n : Nat), k + n = 201 → lowF (fun k => !(holdP u j k)) 0 201 = lowF (fun k => !(holdP u j k)) k n → n < n9 → ∀ (H : Heap) (locs : List Loc), va_P D vwCl (wX cy a q q2 ca ta u (hN (ul u j) (ul u j + uz u j) (uw u) (ud u) (uh u) k)) H → va_D A (wX cy a q q2 ca ta u (hN (ul u j) (ul u j + uz u j) (uw u) (ud u) (uh u) k)) → va_S A s.heap H locs → ∀ ls : Array Slot, lv_has ls 4 [(0, .ref (a 0)), (1, .int (nI j)), (2, .ref (ca j)), (3, .int (nI k))] → W p l e (headSpec wsX2_holds ({ frames := 7, cells := 1, slots := 6, locals := 103 } : Room)).room s m ([.ref (a 0), .int (nI j)] : List Value).toArray below meth c H locs 1 6 (vx_MQ below (va_Qi (fun (r8 : Int32) (_ : HS) => (exC u (nI j) = 0) ∧ r8 = lowF (fun k => !(holdP u (ix (nI j)) k)) 0 201) (fun (g9 : HS) t => va_P D vwCl (wX cy a q q2 ca ta u g9) t.heap ∧ va_D A (wX cy a q q2 ca ta u g9)) A) (pX (fun E => E = xn (exC u (nI j)) ∧ exC u (nI j) ≠ 0)) ([.ref (a 0), .int (nI j)] : List Value).toArray s 1 6 A) (F0 m 25 ls []) := by
    intro n9
    induction n9 with
    | zero => intro k n hk hv h9 H locs hP hD hS ls hl; exact absurd h9 (by omega)
    | succ n9 ih25 =>
      intro k n hk hv h9 H locs hP hD hS ls hl
      refine lv_iload_n hx hb dX2_holds_25 rfl (lv_at hl 3 rfl) ?_
      refine lv_sipush (v := 200) hx hb dX2_holds_26 (by decide) ?_
      refine lv_icmp_gt (tgt := 73) hx hb dX2_holds_29 (by decide) (fun c29 => ?_) (fun c29 => ?_)
      · have n29 : 200 < k := (nI_ltI (a := 200) (b := k) (by omega) (by omega)).mp c29
        refine lv_iconst (v := (-1)) hx hb dX2_holds_73 (by decide) ?_
        have hP9 : va_P D vwCl (wX cy a q q2 ca ta u (hN (ul u j) (ul u j + uz u j) (uw u) (ud u) (uh u) k)) H := hP
        have hD9 : va_D A (wX cy a q q2 ca ta u (hN (ul u j) (ul u j + uz u j) (uw u) (ud u) (uh u) k)) := hD
        refine vx_ret ?_
        exact W.iret (v := (-1)) hx hb hr (fun t ht hW => ⟨⟨(-1), (hN (ul u j) (ul u j + uz u j) (uw u) (ud u) (uh u) k), rfl, ⟨(by simp [exC, hp2]), by rw [e9, hv, show n = 0 by omega]; rfl⟩, by rw [ht]; exact hP9, hD9⟩, hS.F ht⟩) hS.2.2 dX2_holds_74
      · have n29 : ¬ (200 < k) := fun h9 => c29 ((nI_ltI (a := 200) (b := k) (by omega) (by omega)).mpr h9)
        obtain ⟨n2, rfl⟩ : ∃ n2, n = n2 + 1 := ⟨n - 1, by omega⟩
        refine lv_aload_n hx hb dX2_holds_32 rfl (lv_at hl 0 rfl) ?_
        refine va_get (D := D) (ci := 2) (v := .ref (q2 0)) (C := RX2) (T := TX2) (N := 6) hx hb hts inX2_holds_RX2 hown hK hP 0 rfl rfl 1 (by decide) (hts _ kX2_holds_1) (fun _ h9 => h9) rfl dX2_holds_33 ?_
        refine lv_aload_n hx hb dX2_holds_36 rfl (lv_at hl 2 rfl) ?_
        have hPc := wX_ch2 hP h6
        refine pc_calli (va_runV (As := [.ref (ca j)]) (rest := []) ⟨hx, hb, hml, hown, hts⟩ (mX1_isTunedTo l D cy q2 (hN (ul u j) (ul u j + uz u j) (uw u) (ud u) (uh u) k) (ca j) (ta j) (ul u j) (uz u j) (ut u j) hc9.1 hc9.2) (cwV 1 hts gX2_holds_X1_isTunedTo rfl rfl rfl (by decide +kernel) ⟨Nat.le_of_ble_eq_true rfl, Nat.le_of_ble_eq_true rfl⟩) ⟨fun a U g mk q => ⟨q.1, q.2.1, va_K.moved (u := U) (U := U.calling g mk a) (Vm.Alike.refl U.vm) q.2.2⟩, va_recv hK hPc (ci := 1) (q0 := 0) rfl rfl, fun U hU hW => ⟨rfl, by rw [hU]; exact hPc, va_K.moved hW.alike hK⟩⟩ rfl rfl hl.1 rfl (lv_room (Nat.le_of_ble_eq_true rfl)) dX2_holds_37 ⟨Nat.le_of_ble_eq_true rfl, Nat.le_of_ble_eq_true rfl⟩) (fun r9 hr9 => ?_)
        subst hr9
        refine lv_if_ne (tgt := 45) hx hb dX2_holds_40 (by decide) (fun c40 => ?_) (fun c40 => ?_)
        · have b40 : holdP u j k = true := bI_1.mp c40
          refine lv_aload_n hx hb dX2_holds_45 rfl (lv_at hl 0 rfl) ?_
          refine lv_aload_n hx hb dX2_holds_46 rfl (lv_at hl 0 rfl) ?_
          refine va_get (D := D) (ci := 2) (v := .ref (q2 0)) (C := RX2) (T := TX2) (N := 6) hx hb hts inX2_holds_RX2 hown hK hP 0 rfl rfl 1 (by decide) (hts _ kX2_holds_1) (fun _ h9 => h9) rfl dX2_holds_47 ?_
          refine lv_aload_n hx hb dX2_holds_50 rfl (lv_at hl 2 rfl) ?_
          refine va_get (D := D) (ci := 0) (v := .int (nI (ul u j))) (C := RX0) (T := TX0) (N := 3) hx hb hts inX2_holds_RX0 hown hK (wX_ch hP h6) 7 rfl rfl 1 (by decide) (hts _ kX2_holds_3) (fun _ h9 => h9) rfl dX2_holds_51 ?_
          refine lv_aload_n hx hb dX2_holds_54 rfl (lv_at hl 2 rfl) ?_
          refine va_get (D := D) (ci := 0) (v := .int (nI (ul u j))) (C := RX0) (T := TX0) (N := 3) hx hb hts inX2_holds_RX0 hown hK (wX_ch hP h6) 7 rfl rfl 1 (by decide) (hts _ kX2_holds_3) (fun _ h9 => h9) rfl dX2_holds_55 ?_
          refine lv_aload_n hx hb dX2_holds_58 rfl (lv_at hl 2 rfl) ?_
          refine va_get (D := D) (ci := 0) (v := .int (nI (uz u j))) (C := RX0) (T := TX0) (N := 3) hx hb hts inX2_holds_RX0 hown hK (wX_ch hP h6) 7 rfl rfl 2 (by decide) (hts _ kX2_holds_4) (fun _ h9 => h9) rfl dX2_holds_59 ?_
          refine lv_iadd hx hb dX2_holds_62 ?_
          refine pc_top (show (nI (ul u j)) + (nI (uz u j)) = nI (ul u j + uz u j) from nI_add (ul u j) (uz u j)) ?_
          have hPc := hP.sub (ws' := wO cy a q q2 (un u) (uw u) (ud u) ++ wH cy q2 (hN (ul u j) (ul u j + uz u j) (uw u) (ud u) (uh u) k)) [0, 1, 2, 10, 11, 12, 13, 14, 15, 16] rfl
          have hDc := hD.sub (ws' := wO cy a q q2 (un u) (uw u) (ud u) ++ wH cy q2 (hN (ul u j) (ul u j + uz u j) (uw u) (ud u) (uh u) k)) [0, 1, 2, 10, 11, 12, 13, 14, 15, 16] (by decide) rfl
          have hFc := va_free (wc := wO cy a q q2 (un u) (uw u) (ud u) ++ wH cy q2 (hN (ul u j) (ul u j + uz u j) (uw u) (ud u) (uh u) k)) hD hS hA [0, 1, 2, 10, 11, 12, 13, 14, 15, 16] rfl
          refine va_calli (va_runV (As := [.ref (q2 0), .int (nI (ul u j)), .int (nI (ul u j + uz u j))]) (rest := []) ⟨hx, hb, hml, hown, hts⟩ (mX2_letHourGo l D cy H.size a q q2 (un u) (uw u) (ud u) q2 (hN (ul u j) (ul u j + uz u j) (uw u) (ud u) (uh u) k) (ul u j) (ul u j + uz u j) (by omega) (by omega) (by rw [zh_hN]; omega)) (cwV 3 hts gX2_holds_X2_letHourGo rfl rfl rfl (by decide +kernel) ⟨Nat.le_of_ble_eq_true rfl, Nat.le_of_ble_eq_true rfl⟩) ⟨fun a U g mk q => ⟨q.1, q.2.1, q.2.2.1, va_K.moved (u := U) (U := U.calling g mk a) (Vm.Alike.refl U.vm) q.2.2.2.1, q.2.2.2.2⟩, va_recv hK hPc (ci := 2) (q0 := 0) rfl rfl, fun U hU hW => ⟨rfl, by rw [hU], by rw [hU]; exact hPc, va_K.moved hW.alike hK, hDc.weaken (fun _ _ _ _ => trivial)⟩⟩ rfl rfl hl.1 rfl (lv_room (Nat.le_of_ble_eq_true rfl)) dX2_holds_63 ⟨Nat.le_of_ble_eq_true rfl, Nat.le_of_ble_eq_true rfl⟩) hS (fun q _ h => hFc q h) hFc (fun r9 u9 t9 H1 locs ht9 hvm9 hw9 hB9 hz9 hk9 hS => ?_)
          obtain ⟨hP1, hD1⟩ := hB9
          rw [ht9] at hP1
          obtain ⟨hP, hD⟩ := va_join (wr := [(q 0, .inr (1, [.ref (q 1), .ref (q 2), .ref (q 3), .ref (q 4), .ref (q 5), .ref (q 6), .int (zl (uh u)), .int (nI (zh (uh u)))])), (q 1, .inl ((cy 0), 12, .inl (zb (uh u)))), (q 2, .inl ((cy 0), 12, .inl (zw (uh u)))), (q 3, .inl ((cy 0), 12, .inl (zd (uh u)))), (q 4, .inl ((cy 0), 12, .inl (zs (uh u)))), (q 5, .inl ((cy 0), 12, .inl (zr (uh u)))), (q 6, .inl ((cy 1), 12, .inl (zo (uh u)))), (a 3, .inl ((cy 2), 6, .inr (.inr (.inr (.inr (fun i => some (ca i))))))), (ca 0, .inr (0, [.ref (ta 0), .int (nI (ul u 0)), .int (nI (uz u 0))])), (ca 1, .inr (0, [.ref (ta 1), .int (nI (ul u 1)), .int (nI (uz u 1))])), (ca 2, .inr (0, [.ref (ta 2), .int (nI (ul u 2)), .int (nI (uz u 2))])), (ca 3, .inr (0, [.ref (ta 3), .int (nI (ul u 3)), .int (nI (uz u 3))])), (ca 4, .inr (0, [.ref (ta 4), .int (nI (ul u 4)), .int (nI (uz u 4))])), (ca 5, .inr (0, [.ref (ta 5), .int (nI (ul u 5)), .int (nI (uz u 5))])), (ta 0, .inl ((cy 0), 4, .inl (ut u 0))), (ta 1, .inl ((cy 0), 4, .inl (ut u 1))), (ta 2, .inl ((cy 0), 4, .inl (ut u 2))), (ta 3, .inl ((cy 0), 4, .inl (ut u 3))), (ta 4, .inl ((cy 0), 4, .inl (ut u 4))), (ta 5, .inl ((cy 0), 4, .inl (ut u 5)))]) (w1 := wO cy a q q2 (un u) (uw u) (ud u) ++ wH cy q2 (hN (ul u j) (ul u j + uz u j) (uw u) (ud u) (uh u) (k + 1))) hP hD [0, 1, 2, 10, 11, 12, 13, 14, 15, 16] [3, 4, 5, 6, 7, 8, 9, 17, 18, 19, 20, 21, 22, 23, 24, 25, 26, 27, 28, 29] rfl rfl (by decide) (by decide) hk9 hFc hP1 hD1
          generalize H1 = H at hP hS ⊢
          have hP : va_P D vwCl (wX cy a q q2 ca ta u (hN (ul u j) (ul u j + uz u j) (uw u) (ud u) (uh u) (k + 1))) H := hP.sub [20, 21, 22, 0, 1, 2, 3, 4, 5, 6, 23, 24, 25, 26, 27, 28, 29, 7, 8, 9, 10, 11, 12, 13, 14, 15, 16, 17, 18, 19] rfl
          have hD : va_D A (wX cy a q q2 ca ta u (hN (ul u j) (ul u j + uz u j) (uw u) (ud u) (uh u) (k + 1))) := hD.sub [20, 21, 22, 0, 1, 2, 3, 4, 5, 6, 23, 24, 25, 26, 27, 28, 29, 7, 8, 9, 10, 11, 12, 13, 14, 15, 16, 17, 18, 19] (by decide) rfl
          clear hP1 hD1 hk9 hz9 ht9 hvm9 hPc hDc hFc
          subst hw9
          refine lv_pop hx hb dX2_holds_66 rfl ?_
          refine lv_iinc (v := nI (k + 1)) (lv' := [(3, .int (nI (k + 1))), (0, .ref (a 0)), (1, .int (nI j)), (2, .ref (ca j))]) hx hb dX2_holds_67 hl (k := 3) rfl ((show (nI k) + Int32.ofInt 1 = (nI k) + 1 from rfl).trans (show (nI k) + 1 = nI (k + 1) from nI_add k 1)) (by decide) rfl (fun ls hl => ?_)
          refine lv_goto (tgt := 25) hx hb dX2_holds_70 (by decide) ?_
          exact ih25 (k + 1) n2 (by omega) (hv.trans (by simp [lowF, b40])) (by omega) _ _ hP hD hS ls (lv_sub hl [1, 2, 3, 0] rfl)
        · have b40 : holdP u j k = false := bI_0.mp c40
          refine lv_iload_n hx hb dX2_holds_43 rfl (lv_at hl 3 rfl) ?_
          have hP9 : va_P D vwCl (wX cy a q q2 ca ta u (hN (ul u j) (ul u j + uz u j) (uw u) (ud u) (uh u) k)) H := hP
          have hD9 : va_D A (wX cy a q q2 ca ta u (hN (ul u j) (ul u j + uz u j) (uw u) (ud u) (uh u) k)) := hD
          refine vx_ret ?_
          exact W.iret (v := nI k) hx hb hr (fun t ht hW => ⟨⟨nI k, (hN (ul u j) (ul u j + uz u j) (uw u) (ud u) (uh u) k), rfl, ⟨(by simp [exC, hp2]), by rw [e9, hv]; simp [lowF, b40]⟩, by rw [ht]; exact hP9, hD9⟩, hS.F ht⟩) hS.2.2 dX2_holds_44
  exact loop25 (201 + 1) 0 201 rfl rfl (by omega) _ _ hP hD hS ls (lv_sub hl [2, 3, 1, 0] rfl)

