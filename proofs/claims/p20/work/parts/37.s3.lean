theorem inX3_isSame_RX3 : ∀ w ∈ u_ws RX3 TX3 6, w ∈ wsX3_isSame := by decide +kernel
theorem kX3_isSame_0 : (.arrayClass .int : Cond) ∈ wsX3_isSame := by decide +kernel
theorem kX3_isSame_1 : (.fieldLink RX3 15 "WedgeHarpsLaw$Sim" "chords" "[[I" : Cond) ∈ wsX3_isSame := by decide +kernel
theorem kX3_isSame_2 : (.fieldLink RX3 25 "WedgeHarpsLaw$Sim" "hour" "I" : Cond) ∈ wsX3_isSame := by decide +kernel
theorem kX3_isSame_3 : (.fieldLink RX3 29 "WedgeHarpsLaw$Sim" "swelling" "I" : Cond) ∈ wsX3_isSame := by decide +kernel
theorem kX3_isSame_4 : (.fieldLink RX3 9 "WedgeHarpsLaw$Sim" "strings" "[[I" : Cond) ∈ wsX3_isSame := by decide +kernel
set_option maxHeartbeats 4000000 in
set_option maxRecDepth 100000 in
theorem mX3_isSame (l : Launch) (hst : l.stackTraces = false) (D : va_G) (cy : Nat → ClassId) (sz : Nat) (b : Nat) (sa st ch : Nat → Nat) (a q q2 ca ta : Nat → Nat) (u : US) (g : HS) (I : INV u) : Met l yX3_isSame wsX3_isSame ({ frames := 12, cells := 200, slots := 1200, locals := 300 } : Room) (va_Pc [.ref b, .ref (a 0)] (fun U => U.heap.size = sz ∧ va_P D vwCl (wSu cy b sa st ch u ++ (wSr cy st u ++ (wX cy a q q2 ca ta u g ++ chT cy ch u))) U.heap ∧ va_K D vwCl (TY cy) U ∧ va_D (fun _ => True) (wSu cy b sa st ch u ++ (wSr cy st u ++ (wX cy a q q2 ca ta u g ++ chT cy ch u))) ∧ vKP cy U ∧ xCA (va_A (wSu cy b sa st ch u ++ (wSr cy st u ++ (wX cy a q q2 ca ta u g ++ chT cy ch u))) sz) U U.heap)) (va_Qi (fun (r8 : Int32) (_ : Unit) => r8 = 1) (fun (_ : Unit) t => va_P D vwCl (wSu cy b sa st ch u ++ (wSr cy st u ++ (wX cy a q q2 ca ta u g ++ chT cy ch u))) t.heap ∧ va_D (va_A (wSu cy b sa st ch u ++ (wSr cy st u ++ (wX cy a q q2 ca ta u g ++ chT cy ch u))) sz) (wSu cy b sa st ch u ++ (wSr cy st u ++ (wX cy a q q2 ca ta u g ++ chT cy ch u)))) (va_A (wSu cy b sa st ch u ++ (wSr cy st u ++ (wX cy a q q2 ca ta u g ++ chT cy ch u))) sz)) 200 1200 (va_A (wSu cy b sa st ch u ++ (wSr cy st u ++ (wX cy a q q2 ca ta u g ++ chT cy ch u))) sz) := by
  refine Met.ofW (cc := cX3_isSame) (maxL := 7) (ret := (some .boolean)) (by decide) rfl ?_
  intro p e s m args below meth c s₁ B hml hv
  obtain ⟨rfl, hsz, hP, hK, hD0, hkp, hXA⟩ := hv
  have hx := B.exec
  have hb := B.bytes
  have hr := B.returns
  have hts := atoms_spec (ws := wsX3_isSame) B.pre
  have hown : s.vm.findClass RX3 = some m.cls := findClass_of_methodNamed B.named
  have hlocks := B.notSynchronized
  have hl := lv_entry ([.ref b, .ref (a 0)]) (n := 7) (Nat.le_of_ble_eq_true rfl)
  rw [lg_entry_eq]
  generalize (lg_sl ([.ref b, .ref (a 0)]) ++ List.replicate (7 - (lg_sl ([.ref b, .ref (a 0)])).length) Slot.unset).toArray = ls at hl ⊢
  have hl : lv_has ls 7 [(0, .ref b), (1, .ref (a 0))] := hl
  subst hsz
  have hD := hD0.self (sz := s.heap.size)
  generalize hAe : va_A (wSu cy b sa st ch u ++ (wSr cy st u ++ (wX cy a q q2 ca ta u g ++ chT cy ch u))) s.heap.size = A at hD hXA ⊢
  have hA : ∀ q : Nat, s.heap.size ≤ q → A q := fun q h => by rw [← hAe]; exact Or.inr h
  have hS : va_S A s.heap s.heap [] := va_S.rf
  have hu6 : un u ≤ 6 := I.1.2.1
  have hP : va_P D vwCl (([] : va_W) ++ (wS5 cy b sa st ch (un u) (uw u) (ud u) (nI (zh (uh u))) (zl (uh u)) ++ (rows12 cy st 6 (rowS (uh u)) ++ (wX cy a q q2 ca ta u g ++ chT cy ch u)))) s.heap := hP
  have hD : va_D A (([] : va_W) ++ (wS5 cy b sa st ch (un u) (uw u) (ud u) (nI (zh (uh u))) (zl (uh u)) ++ (rows12 cy st 6 (rowS (uh u)) ++ (wX cy a q q2 ca ta u g ++ chT cy ch u)))) := hD
  refine lv_bipush (v := 6) hx hb dX3_isSame_0 (by decide) ?_
  refine pc_newaF (atype := .int) (ty := .int) (N' := 6) (a0 := (6, .inl (fun _ => 0))) hx hb (hts _ kX3_isSame_0) rfl hK hP hD hS hA 0 rfl (fun _ => rfl) (by decide) (by decide) (by decide) (Nat.le_of_ble_eq_true rfl) (Nat.le_of_ble_eq_true rfl) dX3_isSame_2 (fun r2 H hP hD hS => ?_)
  have hP : va_P D vwCl (([(r2, .inl ((cy 0), 6, .inl (fun _ => 0)))] : va_W) ++ (wS5 cy b sa st ch (un u) (uw u) (ud u) (nI (zh (uh u))) (zl (uh u)) ++ (rows12 cy st 6 (rowS (uh u)) ++ (wX cy a q q2 ca ta u g ++ chT cy ch u)))) H := hP
  have hD : va_D A (([(r2, .inl ((cy 0), 6, .inl (fun _ => 0)))] : va_W) ++ (wS5 cy b sa st ch (un u) (uw u) (ud u) (nI (zh (uh u))) (zl (uh u)) ++ (rows12 cy st 6 (rowS (uh u)) ++ (wX cy a q q2 ca ta u g ++ chT cy ch u)))) := hD
  refine W.widen (k := 1) (n := 6) (Nat.le_of_ble_eq_true rfl) (Nat.le_of_ble_eq_true rfl) ?_
  refine lv_astore_n (lv' := [(2, .ref r2), (0, .ref b), (1, .ref (a 0))]) hx hb dX3_isSame_4 rfl hl (by decide) rfl (fun ls hl => ?_)
  have e9 : ((fun _ => 0)) = smG (uh u) 0 0 := (smG_0 _)
  rw [e9] at hP hD
  clear e9
  have hP : va_P D vwCl (([(r2, .inl ((cy 0), 6, .inl (smG (uh u) 0 0)))] : va_W) ++ (wS5 cy b sa st ch (un u) (uw u) (ud u) (nI (zh (uh u))) (zl (uh u)) ++ (rows12 cy st 6 (rowS (uh u)) ++ (wX cy a q q2 ca ta u g ++ chT cy ch u)))) H := hP
  have hD : va_D A (([(r2, .inl ((cy 0), 6, .inl (smG (uh u) 0 0)))] : va_W) ++ (wS5 cy b sa st ch (un u) (uw u) (ud u) (nI (zh (uh u))) (zl (uh u)) ++ (rows12 cy st 6 (rowS (uh u)) ++ (wX cy a q q2 ca ta u g ++ chT cy ch u)))) := hD
  refine lv_iconst (v := 0) hx hb dX3_isSame_5 (by decide) ?_
  refine lv_istore_n (lv' := [(3, .int 0), (2, .ref r2), (0, .ref b), (1, .ref (a 0))]) hx hb dX3_isSame_6 rfl hl (by decide) rfl (fun ls hl => ?_)
  refine lv_iconst (v := 0) hx hb dX3_isSame_7 (by decide) ?_
  refine lv_istore (lv' := [(4, .int 0), (3, .int 0), (2, .ref r2), (0, .ref b), (1, .ref (a 0))]) hx hb dX3_isSame_8 hl (by decide) rfl (fun ls hl => ?_)
  refine lv_iconst (v := 0) hx hb dX3_isSame_10 (by decide) ?_
  refine lv_istore (lv' := [(5, .int 0), (4, .int 0), (3, .int 0), (2, .ref r2), (0, .ref b), (1, .ref (a 0))]) hx hb dX3_isSame_11 hl (by decide) rfl (fun ls hl => ?_)
  have loop13 : ∀ (n9 : Nat) (k : Nat), k ≤ 12 → 12 - k < n9 → ∀ (H : Heap) (locs : List Loc), va_P D vwCl (([(r2, .inl ((cy 0), 6, .inl (smG (uh u) k 0)))] : va_W) ++ (wS5 cy b sa st ch (un u) (uw u) (ud u) (nI (zh (uh u))) (zl (uh u)) ++ (rows12 cy st 6 (rowS (uh u)) ++ (wX cy a q q2 ca ta u g ++ chT cy ch u)))) H → va_D A (([(r2, .inl ((cy 0), 6, .inl (smG (uh u) k 0)))] : va_W) ++ (wS5 cy b sa st ch (un u) (uw u) (ud u) (nI (zh (uh u))) (zl (uh u)) ++ (rows12 cy st 6 (rowS (uh u)) ++ (wX cy a q q2 ca ta u g ++ chT cy ch u)))) → va_S A s.heap H locs → ∀ ls : Array Slot, lv_has ls 7 [(0, .ref b), (1, .ref (a 0)), (2, .ref r2), (3, .int (sumN (tone (uh u)) k)), (4, .int 0), (5, .int (nI k))] → W p l e (headSpec wsX3_isSame ({ frames := 12, cells := 200, slots := 1200, locals := 300 } : Room)).room s m ([.ref b, .ref (a 0)] : List Value).toArray below meth c H locs (1 + 14 * k) (6 + 84 * k) (MQ below (va_Qi (fun (r8 : Int32) (_ : Unit) => r8 = 1) (fun (_ : Unit) t => va_P D vwCl (wSu cy b sa st ch u ++ (wSr cy st u ++ (wX cy a q q2 ca ta u g ++ chT cy ch u))) t.heap ∧ va_D A (wSu cy b sa st ch u ++ (wSr cy st u ++ (wX cy a q q2 ca ta u g ++ chT cy ch u)))) A) ([.ref b, .ref (a 0)] : List Value).toArray s 200 1200 A) (F0 m 13 ls []) := by
    intro n9
    induction n9 with
    | zero => intro k hk h9 H locs hP hD hS ls hl; exact absurd h9 (by omega)
    | succ n9 ih13 =>
      intro k hk h9 H locs hP hD hS ls hl
      refine lv_iload hx hb dX3_isSame_13 (lv_at hl 5 rfl) ?_
      refine lv_bipush (v := 12) hx hb dX3_isSame_15 (by decide) ?_
      refine lv_icmp_ge (tgt := 120) hx hb dX3_isSame_17 (by decide) (fun c17 => ?_) (fun c17 => ?_)
      · have n17 : 12 ≤ k := (nI_leI (a := 12) (b := k) (by omega) (by omega)).mp c17
        have e9 : (smG (uh u) k 0) = smG (uh u) 12 0 := (by rw [show k = 12 by omega])
        rw [e9] at hP hD
        clear e9
        have hP : va_P D vwCl (([(r2, .inl ((cy 0), 6, .inl (smG (uh u) 12 0)))] : va_W) ++ (wS5 cy b sa st ch (un u) (uw u) (ud u) (nI (zh (uh u))) (zl (uh u)) ++ (rows12 cy st 6 (rowS (uh u)) ++ (wX cy a q q2 ca ta u g ++ chT cy ch u)))) H := hP
        have hD : va_D A (([(r2, .inl ((cy 0), 6, .inl (smG (uh u) 12 0)))] : va_W) ++ (wS5 cy b sa st ch (un u) (uw u) (ud u) (nI (zh (uh u))) (zl (uh u)) ++ (rows12 cy st 6 (rowS (uh u)) ++ (wX cy a q q2 ca ta u g ++ chT cy ch u)))) := hD
        have r9 : sumN (tone (uh u)) k = sumN (tone (uh u)) 12 := (by rw [show k = 12 by omega])
        rw [r9] at hl
        clear r9
        refine W.widen (k := 169) (n := 1014) (by omega) (by omega) ?_
        refine lv_iconst (v := 0) hx hb dX3_isSame_120 (by decide) ?_
        refine lv_istore (lv' := [(5, .int 0), (0, .ref b), (1, .ref (a 0)), (2, .ref r2), (3, .int (sumN (tone (uh u)) 12)), (4, .int 0)]) hx hb dX3_isSame_121 hl (by decide) rfl (fun ls hl => ?_)
        have loop123 : ∀ (n9 : Nat) (ci : Nat), ci ≤ un u → un u - ci < n9 → ∀ (H : Heap) (locs : List Loc), va_P D vwCl (([(r2, .inl ((cy 0), 6, .inl (smG (uh u) 12 0)))] : va_W) ++ (wS5 cy b sa st ch (un u) (uw u) (ud u) (nI (zh (uh u))) (zl (uh u)) ++ (rows12 cy st 6 (rowS (uh u)) ++ (wX cy a q q2 ca ta u g ++ chT cy ch u)))) H → va_D A (([(r2, .inl ((cy 0), 6, .inl (smG (uh u) 12 0)))] : va_W) ++ (wS5 cy b sa st ch (un u) (uw u) (ud u) (nI (zh (uh u))) (zl (uh u)) ++ (rows12 cy st 6 (rowS (uh u)) ++ (wX cy a q q2 ca ta u g ++ chT cy ch u)))) → va_S A s.heap H locs → ∀ ls : Array Slot, lv_has ls 7 [(0, .ref b), (1, .ref (a 0)), (2, .ref r2), (3, .int (sumN (tone (uh u)) 12)), (4, .int (nI (cnt (snd u) 0 ci))), (5, .int (nI ci))] → W p l e (headSpec wsX3_isSame ({ frames := 12, cells := 200, slots := 1200, locals := 300 } : Room)).room s m ([.ref b, .ref (a 0)] : List Value).toArray below meth c H locs (169 + 2 * ci) (1014 + 12 * ci) (MQ below (va_Qi (fun (r8 : Int32) (_ : Unit) => r8 = 1) (fun (_ : Unit) t => va_P D vwCl (wSu cy b sa st ch u ++ (wSr cy st u ++ (wX cy a q q2 ca ta u g ++ chT cy ch u))) t.heap ∧ va_D A (wSu cy b sa st ch u ++ (wSr cy st u ++ (wX cy a q q2 ca ta u g ++ chT cy ch u)))) A) ([.ref b, .ref (a 0)] : List Value).toArray s 200 1200 A) (F0 m 123 ls []) := by
          intro n9
          induction n9 with
          | zero => intro ci hc h9 H locs hP hD hS ls hl; exact absurd h9 (by omega)
          | succ n9 ih123 =>
            intro ci hc h9 H locs hP hD hS ls hl
            refine lv_iload hx hb dX3_isSame_123 (lv_at hl 5 rfl) ?_
            refine lv_aload_n hx hb dX3_isSame_125 rfl (lv_at hl 0 rfl) ?_
            refine va_get (D := D) (ci := 3) (v := .ref (sa 1)) (C := RX3) (T := TX3) (N := 6) hx hb hts inX3_isSame_RX3 hown hK hP 1 rfl rfl 1 (by decide) (hts _ kX3_isSame_1) (fun _ h9 => h9) rfl dX3_isSame_126 ?_
            refine pc_alenA hx hb hkp hP 3 rfl (v := nI (un u)) rfl dX3_isSame_129 ?_
            refine lv_icmp_ge (tgt := 205) hx hb dX3_isSame_130 (by decide) (fun c130 => ?_) (fun c130 => ?_)
            · have n130 : un u ≤ ci := (nI_leI (a := un u) (b := ci) (by omega) (by omega)).mp c130
              have r9 : nI (cnt (snd u) 0 ci) = nI (cnt (snd u) 0 (un u)) := (by rw [show ci = un u by omega])
              rw [r9] at hl
              clear r9
              refine W.widen (k := 181) (n := 1086) (by omega) (by omega) ?_
              refine lv_bipush (v := 8) hx hb dX3_isSame_205 (by decide) ?_
              refine pc_newaF (atype := .int) (ty := .int) (N' := 8) (a0 := (8, .inl (fun _ => 0))) hx hb (hts _ kX3_isSame_0) rfl hK hP hD hS hA 0 rfl (fun _ => rfl) (by decide) (by decide) (by decide) (Nat.le_of_ble_eq_true rfl) (Nat.le_of_ble_eq_true rfl) dX3_isSame_207 (fun r207 H hP hD hS => ?_)
              have hP : va_P D vwCl (([(r207, .inl ((cy 0), 8, .inl (fun _ => 0))), (r2, .inl ((cy 0), 6, .inl (smG (uh u) 12 0)))] : va_W) ++ (wS5 cy b sa st ch (un u) (uw u) (ud u) (nI (zh (uh u))) (zl (uh u)) ++ (rows12 cy st 6 (rowS (uh u)) ++ (wX cy a q q2 ca ta u g ++ chT cy ch u)))) H := hP
              have hD : va_D A (([(r207, .inl ((cy 0), 8, .inl (fun _ => 0))), (r2, .inl ((cy 0), 6, .inl (smG (uh u) 12 0)))] : va_W) ++ (wS5 cy b sa st ch (un u) (uw u) (ud u) (nI (zh (uh u))) (zl (uh u)) ++ (rows12 cy st 6 (rowS (uh u)) ++ (wX cy a q q2 ca ta u g ++ chT cy ch u)))) := hD
              refine W.widen (k := 182) (n := 1094) (Nat.le_of_ble_eq_true rfl) (Nat.le_of_ble_eq_true rfl) ?_
              refine lv_dup hx hb dX3_isSame_209 rfl ?_
              refine lv_iconst (v := 0) hx hb dX3_isSame_210 (by decide) ?_
              refine lv_aload_n hx hb dX3_isSame_211 rfl (lv_at hl 0 rfl) ?_
              refine va_get (D := D) (ci := 3) (v := .int (nI (zh (uh u)))) (C := RX3) (T := TX3) (N := 6) hx hb hts inX3_isSame_RX3 hown hK hP 2 rfl rfl 4 (by decide) (hts _ kX3_isSame_2) (fun _ h9 => h9) rfl dX3_isSame_212 ?_
              refine pc_iast hx hb hK hP hD hS 0 0 rfl rfl (k := 0) (show 0 < 8 by omega) (by decide) dX3_isSame_215 (fun H locs hP hD hS => ?_)
              have hP : va_P D vwCl (([(r207, .inl ((cy 0), 8, .inl (upd (fun _ => 0) 0 (nI (zh (uh u)))))), (r2, .inl ((cy 0), 6, .inl (smG (uh u) 12 0)))] : va_W) ++ (wS5 cy b sa st ch (un u) (uw u) (ud u) (nI (zh (uh u))) (zl (uh u)) ++ (rows12 cy st 6 (rowS (uh u)) ++ (wX cy a q q2 ca ta u g ++ chT cy ch u)))) H := hP
              have hD : va_D A (([(r207, .inl ((cy 0), 8, .inl (upd (fun _ => 0) 0 (nI (zh (uh u)))))), (r2, .inl ((cy 0), 6, .inl (smG (uh u) 12 0)))] : va_W) ++ (wS5 cy b sa st ch (un u) (uw u) (ud u) (nI (zh (uh u))) (zl (uh u)) ++ (rows12 cy st 6 (rowS (uh u)) ++ (wX cy a q q2 ca ta u g ++ chT cy ch u)))) := hD
              refine lv_dup hx hb dX3_isSame_216 rfl ?_
              refine lv_iconst (v := 1) hx hb dX3_isSame_217 (by decide) ?_
              refine lv_aload_n hx hb dX3_isSame_218 rfl (lv_at hl 2 rfl) ?_
              refine lv_iconst (v := 4) hx hb dX3_isSame_219 (by decide) ?_
              refine pc_iald hx hb hK hP 1 0 rfl rfl (k := 4) (show 4 < 6 by omega) (by decide) dX3_isSame_220 ?_
              refine pc_top (show (smG (uh u) 12 0) 4 = sumN (zo (uh u)) 12 from rfl) ?_
              refine pc_iast hx hb hK hP hD hS 0 0 rfl rfl (k := 1) (show 1 < 8 by omega) (by decide) dX3_isSame_221 (fun H locs hP hD hS => ?_)
              have hP : va_P D vwCl (([(r207, .inl ((cy 0), 8, .inl (upd (upd (fun _ => 0) 0 (nI (zh (uh u)))) 1 (sumN (zo (uh u)) 12)))), (r2, .inl ((cy 0), 6, .inl (smG (uh u) 12 0)))] : va_W) ++ (wS5 cy b sa st ch (un u) (uw u) (ud u) (nI (zh (uh u))) (zl (uh u)) ++ (rows12 cy st 6 (rowS (uh u)) ++ (wX cy a q q2 ca ta u g ++ chT cy ch u)))) H := hP
              have hD : va_D A (([(r207, .inl ((cy 0), 8, .inl (upd (upd (fun _ => 0) 0 (nI (zh (uh u)))) 1 (sumN (zo (uh u)) 12)))), (r2, .inl ((cy 0), 6, .inl (smG (uh u) 12 0)))] : va_W) ++ (wS5 cy b sa st ch (un u) (uw u) (ud u) (nI (zh (uh u))) (zl (uh u)) ++ (rows12 cy st 6 (rowS (uh u)) ++ (wX cy a q q2 ca ta u g ++ chT cy ch u)))) := hD
              refine lv_dup hx hb dX3_isSame_222 rfl ?_
              refine lv_iconst (v := 2) hx hb dX3_isSame_223 (by decide) ?_
              refine lv_aload_n hx hb dX3_isSame_224 rfl (lv_at hl 0 rfl) ?_
              refine va_get (D := D) (ci := 3) (v := .ref (sa 1)) (C := RX3) (T := TX3) (N := 6) hx hb hts inX3_isSame_RX3 hown hK hP 2 rfl rfl 1 (by decide) (hts _ kX3_isSame_1) (fun _ h9 => h9) rfl dX3_isSame_225 ?_
              refine pc_alenA hx hb hkp hP 4 rfl (v := nI (un u)) rfl dX3_isSame_228 ?_
              refine pc_iast hx hb hK hP hD hS 0 0 rfl rfl (k := 2) (show 2 < 8 by omega) (by decide) dX3_isSame_229 (fun H locs hP hD hS => ?_)
              have hP : va_P D vwCl (([(r207, .inl ((cy 0), 8, .inl (upd (upd (upd (fun _ => 0) 0 (nI (zh (uh u)))) 1 (sumN (zo (uh u)) 12)) 2 (nI (un u))))), (r2, .inl ((cy 0), 6, .inl (smG (uh u) 12 0)))] : va_W) ++ (wS5 cy b sa st ch (un u) (uw u) (ud u) (nI (zh (uh u))) (zl (uh u)) ++ (rows12 cy st 6 (rowS (uh u)) ++ (wX cy a q q2 ca ta u g ++ chT cy ch u)))) H := hP
              have hD : va_D A (([(r207, .inl ((cy 0), 8, .inl (upd (upd (upd (fun _ => 0) 0 (nI (zh (uh u)))) 1 (sumN (zo (uh u)) 12)) 2 (nI (un u))))), (r2, .inl ((cy 0), 6, .inl (smG (uh u) 12 0)))] : va_W) ++ (wS5 cy b sa st ch (un u) (uw u) (ud u) (nI (zh (uh u))) (zl (uh u)) ++ (rows12 cy st 6 (rowS (uh u)) ++ (wX cy a q q2 ca ta u g ++ chT cy ch u)))) := hD
              refine lv_dup hx hb dX3_isSame_230 rfl ?_
              refine lv_iconst (v := 3) hx hb dX3_isSame_231 (by decide) ?_
              refine lv_iload hx hb dX3_isSame_232 (lv_at hl 4 rfl) ?_
              refine pc_iast hx hb hK hP hD hS 0 0 rfl rfl (k := 3) (show 3 < 8 by omega) (by decide) dX3_isSame_234 (fun H locs hP hD hS => ?_)
              have hP : va_P D vwCl (([(r207, .inl ((cy 0), 8, .inl (upd (upd (upd (upd (fun _ => 0) 0 (nI (zh (uh u)))) 1 (sumN (zo (uh u)) 12)) 2 (nI (un u))) 3 (nI (cnt (snd u) 0 (un u)))))), (r2, .inl ((cy 0), 6, .inl (smG (uh u) 12 0)))] : va_W) ++ (wS5 cy b sa st ch (un u) (uw u) (ud u) (nI (zh (uh u))) (zl (uh u)) ++ (rows12 cy st 6 (rowS (uh u)) ++ (wX cy a q q2 ca ta u g ++ chT cy ch u)))) H := hP
              have hD : va_D A (([(r207, .inl ((cy 0), 8, .inl (upd (upd (upd (upd (fun _ => 0) 0 (nI (zh (uh u)))) 1 (sumN (zo (uh u)) 12)) 2 (nI (un u))) 3 (nI (cnt (snd u) 0 (un u)))))), (r2, .inl ((cy 0), 6, .inl (smG (uh u) 12 0)))] : va_W) ++ (wS5 cy b sa st ch (un u) (uw u) (ud u) (nI (zh (uh u))) (zl (uh u)) ++ (rows12 cy st 6 (rowS (uh u)) ++ (wX cy a q q2 ca ta u g ++ chT cy ch u)))) := hD
              refine lv_dup hx hb dX3_isSame_235 rfl ?_
              refine lv_iconst (v := 4) hx hb dX3_isSame_236 (by decide) ?_
              refine lv_aload_n hx hb dX3_isSame_237 rfl (lv_at hl 0 rfl) ?_
              refine va_get (D := D) (ci := 3) (v := .int (zl (uh u))) (C := RX3) (T := TX3) (N := 6) hx hb hts inX3_isSame_RX3 hown hK hP 2 rfl rfl 5 (by decide) (hts _ kX3_isSame_3) (fun _ h9 => h9) rfl dX3_isSame_238 ?_
              refine pc_iast hx hb hK hP hD hS 0 0 rfl rfl (k := 4) (show 4 < 8 by omega) (by decide) dX3_isSame_241 (fun H locs hP hD hS => ?_)
              have hP : va_P D vwCl (([(r207, .inl ((cy 0), 8, .inl (upd (upd (upd (upd (upd (fun _ => 0) 0 (nI (zh (uh u)))) 1 (sumN (zo (uh u)) 12)) 2 (nI (un u))) 3 (nI (cnt (snd u) 0 (un u)))) 4 (zl (uh u))))), (r2, .inl ((cy 0), 6, .inl (smG (uh u) 12 0)))] : va_W) ++ (wS5 cy b sa st ch (un u) (uw u) (ud u) (nI (zh (uh u))) (zl (uh u)) ++ (rows12 cy st 6 (rowS (uh u)) ++ (wX cy a q q2 ca ta u g ++ chT cy ch u)))) H := hP
              have hD : va_D A (([(r207, .inl ((cy 0), 8, .inl (upd (upd (upd (upd (upd (fun _ => 0) 0 (nI (zh (uh u)))) 1 (sumN (zo (uh u)) 12)) 2 (nI (un u))) 3 (nI (cnt (snd u) 0 (un u)))) 4 (zl (uh u))))), (r2, .inl ((cy 0), 6, .inl (smG (uh u) 12 0)))] : va_W) ++ (wS5 cy b sa st ch (un u) (uw u) (ud u) (nI (zh (uh u))) (zl (uh u)) ++ (rows12 cy st 6 (rowS (uh u)) ++ (wX cy a q q2 ca ta u g ++ chT cy ch u)))) := hD
              refine lv_dup hx hb dX3_isSame_242 rfl ?_
              refine lv_iconst (v := 5) hx hb dX3_isSame_243 (by decide) ?_
              refine lv_aload_n hx hb dX3_isSame_244 rfl (lv_at hl 2 rfl) ?_
              refine lv_iconst (v := 1) hx hb dX3_isSame_245 (by decide) ?_
              refine pc_iald hx hb hK hP 1 0 rfl rfl (k := 1) (show 1 < 6 by omega) (by decide) dX3_isSame_246 ?_
              refine pc_top (show (smG (uh u) 12 0) 1 = sumN (zw (uh u)) 12 from rfl) ?_
              refine pc_iast hx hb hK hP hD hS 0 0 rfl rfl (k := 5) (show 5 < 8 by omega) (by decide) dX3_isSame_247 (fun H locs hP hD hS => ?_)
              have hP : va_P D vwCl (([(r207, .inl ((cy 0), 8, .inl (upd (upd (upd (upd (upd (upd (fun _ => 0) 0 (nI (zh (uh u)))) 1 (sumN (zo (uh u)) 12)) 2 (nI (un u))) 3 (nI (cnt (snd u) 0 (un u)))) 4 (zl (uh u))) 5 (sumN (zw (uh u)) 12)))), (r2, .inl ((cy 0), 6, .inl (smG (uh u) 12 0)))] : va_W) ++ (wS5 cy b sa st ch (un u) (uw u) (ud u) (nI (zh (uh u))) (zl (uh u)) ++ (rows12 cy st 6 (rowS (uh u)) ++ (wX cy a q q2 ca ta u g ++ chT cy ch u)))) H := hP
              have hD : va_D A (([(r207, .inl ((cy 0), 8, .inl (upd (upd (upd (upd (upd (upd (fun _ => 0) 0 (nI (zh (uh u)))) 1 (sumN (zo (uh u)) 12)) 2 (nI (un u))) 3 (nI (cnt (snd u) 0 (un u)))) 4 (zl (uh u))) 5 (sumN (zw (uh u)) 12)))), (r2, .inl ((cy 0), 6, .inl (smG (uh u) 12 0)))] : va_W) ++ (wS5 cy b sa st ch (un u) (uw u) (ud u) (nI (zh (uh u))) (zl (uh u)) ++ (rows12 cy st 6 (rowS (uh u)) ++ (wX cy a q q2 ca ta u g ++ chT cy ch u)))) := hD
              refine lv_dup hx hb dX3_isSame_248 rfl ?_
              refine lv_bipush (v := 6) hx hb dX3_isSame_249 (by decide) ?_
              refine lv_aload_n hx hb dX3_isSame_251 rfl (lv_at hl 2 rfl) ?_
              refine lv_iconst (v := 3) hx hb dX3_isSame_252 (by decide) ?_
              refine pc_iald hx hb hK hP 1 0 rfl rfl (k := 3) (show 3 < 6 by omega) (by decide) dX3_isSame_253 ?_
              refine pc_top (show (smG (uh u) 12 0) 3 = sumN (zs (uh u)) 12 from rfl) ?_
              refine pc_iast hx hb hK hP hD hS 0 0 rfl rfl (k := 6) (show 6 < 8 by omega) (by decide) dX3_isSame_254 (fun H locs hP hD hS => ?_)
              have hP : va_P D vwCl (([(r207, .inl ((cy 0), 8, .inl (upd (upd (upd (upd (upd (upd (upd (fun _ => 0) 0 (nI (zh (uh u)))) 1 (sumN (zo (uh u)) 12)) 2 (nI (un u))) 3 (nI (cnt (snd u) 0 (un u)))) 4 (zl (uh u))) 5 (sumN (zw (uh u)) 12)) 6 (sumN (zs (uh u)) 12)))), (r2, .inl ((cy 0), 6, .inl (smG (uh u) 12 0)))] : va_W) ++ (wS5 cy b sa st ch (un u) (uw u) (ud u) (nI (zh (uh u))) (zl (uh u)) ++ (rows12 cy st 6 (rowS (uh u)) ++ (wX cy a q q2 ca ta u g ++ chT cy ch u)))) H := hP
              have hD : va_D A (([(r207, .inl ((cy 0), 8, .inl (upd (upd (upd (upd (upd (upd (upd (fun _ => 0) 0 (nI (zh (uh u)))) 1 (sumN (zo (uh u)) 12)) 2 (nI (un u))) 3 (nI (cnt (snd u) 0 (un u)))) 4 (zl (uh u))) 5 (sumN (zw (uh u)) 12)) 6 (sumN (zs (uh u)) 12)))), (r2, .inl ((cy 0), 6, .inl (smG (uh u) 12 0)))] : va_W) ++ (wS5 cy b sa st ch (un u) (uw u) (ud u) (nI (zh (uh u))) (zl (uh u)) ++ (rows12 cy st 6 (rowS (uh u)) ++ (wX cy a q q2 ca ta u g ++ chT cy ch u)))) := hD
              refine lv_dup hx hb dX3_isSame_255 rfl ?_
              refine lv_bipush (v := 7) hx hb dX3_isSame_256 (by decide) ?_
              refine lv_aload_n hx hb dX3_isSame_258 rfl (lv_at hl 2 rfl) ?_
              refine lv_iconst (v := 5) hx hb dX3_isSame_259 (by decide) ?_
              refine pc_iald hx hb hK hP 1 0 rfl rfl (k := 5) (show 5 < 6 by omega) (by decide) dX3_isSame_260 ?_
              refine pc_top (show (smG (uh u) 12 0) 5 = sumN (zr (uh u)) 12 from rfl) ?_
              refine pc_iast hx hb hK hP hD hS 0 0 rfl rfl (k := 7) (show 7 < 8 by omega) (by decide) dX3_isSame_261 (fun H locs hP hD hS => ?_)
              have hP : va_P D vwCl (([(r207, .inl ((cy 0), 8, .inl (upd (upd (upd (upd (upd (upd (upd (upd (fun _ => 0) 0 (nI (zh (uh u)))) 1 (sumN (zo (uh u)) 12)) 2 (nI (un u))) 3 (nI (cnt (snd u) 0 (un u)))) 4 (zl (uh u))) 5 (sumN (zw (uh u)) 12)) 6 (sumN (zs (uh u)) 12)) 7 (sumN (zr (uh u)) 12)))), (r2, .inl ((cy 0), 6, .inl (smG (uh u) 12 0)))] : va_W) ++ (wS5 cy b sa st ch (un u) (uw u) (ud u) (nI (zh (uh u))) (zl (uh u)) ++ (rows12 cy st 6 (rowS (uh u)) ++ (wX cy a q q2 ca ta u g ++ chT cy ch u)))) H := hP
              have hD : va_D A (([(r207, .inl ((cy 0), 8, .inl (upd (upd (upd (upd (upd (upd (upd (upd (fun _ => 0) 0 (nI (zh (uh u)))) 1 (sumN (zo (uh u)) 12)) 2 (nI (un u))) 3 (nI (cnt (snd u) 0 (un u)))) 4 (zl (uh u))) 5 (sumN (zw (uh u)) 12)) 6 (sumN (zs (uh u)) 12)) 7 (sumN (zr (uh u)) 12)))), (r2, .inl ((cy 0), 6, .inl (smG (uh u) 12 0)))] : va_W) ++ (wS5 cy b sa st ch (un u) (uw u) (ud u) (nI (zh (uh u))) (zl (uh u)) ++ (rows12 cy st 6 (rowS (uh u)) ++ (wX cy a q q2 ca ta u g ++ chT cy ch u)))) := hD
              have e9 : (upd (upd (upd (upd (upd (upd (upd (upd (fun _ => 0) 0 (nI (zh (uh u)))) 1 (sumN (zo (uh u)) 12)) 2 (nI (un u))) 3 (nI (cnt (snd u) 0 (un u)))) 4 (zl (uh u))) 5 (sumN (zw (uh u)) 12)) 6 (sumN (zs (uh u)) 12)) 7 (sumN (zr (uh u)) 12)) = cnF u := (cnF_all _)
              rw [e9] at hP hD
              clear e9
              have hP : va_P D vwCl (([(r207, .inl ((cy 0), 8, .inl (cnF u))), (r2, .inl ((cy 0), 6, .inl (smG (uh u) 12 0)))] : va_W) ++ (wS5 cy b sa st ch (un u) (uw u) (ud u) (nI (zh (uh u))) (zl (uh u)) ++ (rows12 cy st 6 (rowS (uh u)) ++ (wX cy a q q2 ca ta u g ++ chT cy ch u)))) H := hP
              have hD : va_D A (([(r207, .inl ((cy 0), 8, .inl (cnF u))), (r2, .inl ((cy 0), 6, .inl (smG (uh u) 12 0)))] : va_W) ++ (wS5 cy b sa st ch (un u) (uw u) (ud u) (nI (zh (uh u))) (zl (uh u)) ++ (rows12 cy st 6 (rowS (uh u)) ++ (wX cy a q q2 ca ta u g ++ chT cy ch u)))) := hD
              refine lv_astore (lv' := [(5, .ref r207), (0, .ref b), (1, .ref (a 0)), (2, .ref r2), (3, .int (sumN (tone (uh u)) 12)), (4, .int (nI (cnt (snd u) 0 (un u))))]) hx hb dX3_isSame_262 hl (by decide) rfl (fun ls hl => ?_)
              refine lv_iconst (v := 0) hx hb dX3_isSame_264 (by decide) ?_
              refine lv_istore (lv' := [(6, .int 0), (5, .ref r207), (0, .ref b), (1, .ref (a 0)), (2, .ref r2), (3, .int (sumN (tone (uh u)) 12)), (4, .int (nI (cnt (snd u) 0 (un u))))]) hx hb dX3_isSame_265 hl (by decide) rfl (fun ls hl => ?_)
              have loop267 : ∀ (n9 : Nat) (i : Nat), i ≤ 8 → 8 - i < n9 → ∀ (H : Heap) (locs : List Loc), va_P D vwCl (([(r207, .inl ((cy 0), 8, .inl (cnF u))), (r2, .inl ((cy 0), 6, .inl (smG (uh u) 12 0)))] : va_W) ++ (wS5 cy b sa st ch (un u) (uw u) (ud u) (nI (zh (uh u))) (zl (uh u)) ++ (rows12 cy st 6 (rowS (uh u)) ++ (wX cy a q q2 ca ta u g ++ chT cy ch u)))) H → va_D A (([(r207, .inl ((cy 0), 8, .inl (cnF u))), (r2, .inl ((cy 0), 6, .inl (smG (uh u) 12 0)))] : va_W) ++ (wS5 cy b sa st ch (un u) (uw u) (ud u) (nI (zh (uh u))) (zl (uh u)) ++ (rows12 cy st 6 (rowS (uh u)) ++ (wX cy a q q2 ca ta u g ++ chT cy ch u)))) → va_S A s.heap H locs → ∀ ls : Array Slot, lv_has ls 7 [(0, .ref b), (1, .ref (a 0)), (2, .ref r2), (3, .int (sumN (tone (uh u)) 12)), (4, .int (nI (cnt (snd u) 0 (un u)))), (5, .ref r207), (6, .int (nI i))] → W p l e (headSpec wsX3_isSame ({ frames := 12, cells := 200, slots := 1200, locals := 300 } : Room)).room s m ([.ref b, .ref (a 0)] : List Value).toArray below meth c H locs (182 + i) (1094 + 6 * i) (MQ below (va_Qi (fun (r8 : Int32) (_ : Unit) => r8 = 1) (fun (_ : Unit) t => va_P D vwCl (wSu cy b sa st ch u ++ (wSr cy st u ++ (wX cy a q q2 ca ta u g ++ chT cy ch u))) t.heap ∧ va_D A (wSu cy b sa st ch u ++ (wSr cy st u ++ (wX cy a q q2 ca ta u g ++ chT cy ch u)))) A) ([.ref b, .ref (a 0)] : List Value).toArray s 200 1200 A) (F0 m 267 ls []) := by
                intro n9
                induction n9 with
                | zero => intro i hi h9 H locs hP hD hS ls hl; exact absurd h9 (by omega)
                | succ n9 ih267 =>
                  intro i hi h9 H locs hP hD hS ls hl
                  refine lv_iload hx hb dX3_isSame_267 (lv_at hl 6 rfl) ?_
                  refine lv_bipush (v := 8) hx hb dX3_isSame_269 (by decide) ?_
                  refine lv_icmp_ge (tgt := 296) hx hb dX3_isSame_271 (by decide) (fun c271 => ?_) (fun c271 => ?_)
                  · have n271 : 8 ≤ i := (nI_leI (a := 8) (b := i) (by omega) (by omega)).mp c271
                    refine lv_aload_n hx hb dX3_isSame_296 rfl (lv_at hl 1 rfl) ?_
                    refine cls_d (Lc := ([(r207, .inl ((cy 0), 8, .inl (cnF u))), (r2, .inl ((cy 0), 6, .inl (smG (uh u) 12 0)))] : va_W)) (S5 := wS5 cy b sa st ch (un u) (uw u) (ud u) (nI (zh (uh u))) (zl (uh u))) (S12 := rows12 cy st 6 (rowS (uh u))) (T := chT cy ch u) (As := []) (rest := []) hP hK ⟨hx, hb, hml, hown, hts⟩ (mX2_mean l D cy a q q2 ca ta u g I.1) (cwV 0 hts gX3_isSame_X2_mean rfl rfl rfl (by decide +kernel) ⟨Nat.le_of_ble_eq_true rfl, Nat.le_of_ble_eq_true rfl⟩) rfl rfl hl.1 (Nat.le_of_ble_eq_true rfl) dX3_isSame_297 ⟨(show 182 + i ≤ 200 by omega), (show 1094 + 6 * i ≤ 1200 by omega)⟩ ?_
                    refine lv_aload_n hx hb dX3_isSame_300 rfl (lv_at hl 2 rfl) ?_
                    refine lv_iconst (v := 4) hx hb dX3_isSame_301 (by decide) ?_
                    refine pc_iald hx hb hK hP 1 0 rfl rfl (k := 4) (show 4 < 6 by omega) (by decide) dX3_isSame_302 ?_
                    refine pc_top (show (smG (uh u) 12 0) 4 = sumN (zo (uh u)) 12 from rfl) ?_
                    refine lv_if_ne (tgt := 310) hx hb dX3_isSame_303 (by decide) (fun c303 => ?_) (fun c303 => ?_)
                    · refine lv_iload_n hx hb dX3_isSame_310 rfl (lv_at hl 3 rfl) ?_
                      refine lv_i2d hx hb dX3_isSame_311 ?_
                      refine lv_aload_n hx hb dX3_isSame_312 rfl (lv_at hl 2 rfl) ?_
                      refine lv_iconst (v := 4) hx hb dX3_isSame_313 (by decide) ?_
                      refine pc_iald hx hb hK hP 1 0 rfl rfl (k := 4) (show 4 < 6 by omega) (by decide) dX3_isSame_314 ?_
                      refine pc_top (show (smG (uh u) 12 0) 4 = sumN (zo (uh u)) 12 from rfl) ?_
                      refine lv_i2d hx hb dX3_isSame_315 ?_
                      refine lv_ddiv hx hb dX3_isSame_316 (mean_ok I.1.1 c303 _) ?_
                      refine lv_dcmp hx hb dX3_isSame_317 ?_
                      refine pc_top (show Op.cmpValue (FP.dcmp (meanH (uh u)) (FP.ddiv (FP.i2d (sumN (tone (uh u)) 12)) (FP.i2d (sumN (zo (uh u)) 12)))) .l = 0 from (mean_same I.1.1 c303 _)) ?_
                      refine lv_if_ne (tgt := 325) hx hb dX3_isSame_318 (by decide) (fun c318 => absurd c318 (not_not_intro (by decide))) (fun c318 => ?_)
                      have n318 : 0 = 0 := (nI_eq (a := 0) (b := 0) (by omega) (by omega)).mp c318
                      refine lv_iconst (v := 1) hx hb dX3_isSame_321 (by decide) ?_
                      refine lv_goto (tgt := 326) hx hb dX3_isSame_322 (by decide) ?_
                      refine W.widen (k := 200) (n := 1200) (by omega) (by omega) ?_
                      have hP9 : va_P D vwCl (wSu cy b sa st ch u ++ (wSr cy st u ++ (wX cy a q q2 ca ta u g ++ chT cy ch u))) H := (pM_dropP hP)
                      have hD9 : va_D A (wSu cy b sa st ch u ++ (wSr cy st u ++ (wX cy a q q2 ca ta u g ++ chT cy ch u))) := (pM_dropD hD)
                      exact W.zret (v := 1) hx hb hr (by decide) (fun t ht hW => ⟨⟨1, (), rfl, rfl, by rw [ht]; exact hP9, hD9⟩, hS.F ht⟩) hS.2.2 dX3_isSame_326
                    · refine lv_dconst0 hx hb dX3_isSame_306 ?_
                      refine lv_goto (tgt := 317) hx hb dX3_isSame_307 (by decide) ?_
                      refine lv_dcmp hx hb dX3_isSame_317 ?_
                      refine pc_top (show Op.cmpValue (FP.dcmp (meanH (uh u)) FP.dconst0) .l = 0 from (mean_none c303 _)) ?_
                      refine lv_if_ne (tgt := 325) hx hb dX3_isSame_318 (by decide) (fun c318 => absurd c318 (not_not_intro (by decide))) (fun c318 => ?_)
                      have n318 : 0 = 0 := (nI_eq (a := 0) (b := 0) (by omega) (by omega)).mp c318
                      refine lv_iconst (v := 1) hx hb dX3_isSame_321 (by decide) ?_
                      refine lv_goto (tgt := 326) hx hb dX3_isSame_322 (by decide) ?_
                      refine W.widen (k := 200) (n := 1200) (by omega) (by omega) ?_
                      have hP9 : va_P D vwCl (wSu cy b sa st ch u ++ (wSr cy st u ++ (wX cy a q q2 ca ta u g ++ chT cy ch u))) H := (pM_dropP hP)
                      have hD9 : va_D A (wSu cy b sa st ch u ++ (wSr cy st u ++ (wX cy a q q2 ca ta u g ++ chT cy ch u))) := (pM_dropD hD)
                      exact W.zret (v := 1) hx hb hr (by decide) (fun t ht hW => ⟨⟨1, (), rfl, rfl, by rw [ht]; exact hP9, hD9⟩, hS.F ht⟩) hS.2.2 dX3_isSame_326
                  · have n271 : ¬ (8 ≤ i) := fun h9 => c271 ((nI_leI (a := 8) (b := i) (by omega) (by omega)).mpr h9)
                    refine lv_aload_n hx hb dX3_isSame_274 rfl (lv_at hl 1 rfl) ?_
                    refine lv_iload hx hb dX3_isSame_275 (lv_at hl 6 rfl) ?_
                    refine cls_p (Lc := ([(r207, .inl ((cy 0), 8, .inl (cnF u))), (r2, .inl ((cy 0), 6, .inl (smG (uh u) 12 0)))] : va_W)) (S5 := wS5 cy b sa st ch (un u) (uw u) (ud u) (nI (zh (uh u))) (zl (uh u))) (S12 := rows12 cy st 6 (rowS (uh u))) (T := chT cy ch u) (As := [.int (nI i)]) (rest := []) hP hS hK hXA ⟨hx, hb, hml, hown, hts⟩ (mX2_count l hst D cy a q q2 ca ta u g I.1 (nI i)) (fun E h => h.2 (exCnt_0 (by omega))) (cwV 1 hts gX3_isSame_X2_count rfl rfl rfl (by decide +kernel) ⟨Nat.le_of_ble_eq_true rfl, Nat.le_of_ble_eq_true rfl⟩) rfl rfl hl.1 (Nat.le_of_ble_eq_true rfl) dX3_isSame_277 ⟨(show 182 + i + 1 ≤ 200 by omega), (show 1094 + 6 * i + 6 ≤ 1200 by omega)⟩ ?_
                    refine pc_top (show cntOf u (ix (nI i)) = cntOf u i from (by rw [ix_nI (by omega)])) ?_
                    refine lv_aload hx hb dX3_isSame_280 (lv_at hl 5 rfl) ?_
                    refine lv_iload hx hb dX3_isSame_282 (lv_at hl 6 rfl) ?_
                    refine pc_iald hx hb hK hP 0 0 rfl rfl (k := i) (show i < 8 by omega) (by decide) dX3_isSame_284 ?_
                    refine pc_top (show (cnF u) i = cntOf u i from (cnF_at (by omega))) ?_
                    refine lv_icmp_eq (tgt := 290) hx hb dX3_isSame_285 (by decide) (fun c285 => ?_) (fun c285 => absurd c285 (not_not_intro rfl))
                    refine lv_iinc (v := nI (i + 1)) (lv' := [(6, .int (nI (i + 1))), (0, .ref b), (1, .ref (a 0)), (2, .ref r2), (3, .int (sumN (tone (uh u)) 12)), (4, .int (nI (cnt (snd u) 0 (un u)))), (5, .ref r207)]) hx hb dX3_isSame_290 hl (k := 6) rfl ((show (nI i) + Int32.ofInt 1 = (nI i) + 1 from rfl).trans (show (nI i) + 1 = nI (i + 1) from nI_add i 1)) (by decide) rfl (fun ls hl => ?_)
                    refine lv_goto (tgt := 267) hx hb dX3_isSame_293 (by decide) ?_
                    refine W.widen (k := 182 + (i + 1)) (n := 1094 + 6 * (i + 1)) (by omega) (by omega) ?_
                    exact ih267 (i + 1) (by omega) (by omega) _ _ hP hD hS ls (lv_sub hl [1, 2, 3, 4, 5, 6, 0] rfl)
              refine W.widen (k := 182 + 0) (n := 1094 + 6 * 0) (by omega) (by omega) ?_
              exact loop267 (8 + 1) 0 (by decide) (by omega) _ _ hP hD hS ls (lv_sub hl [2, 3, 4, 5, 6, 1, 0] rfl)
            · have n130 : ¬ (un u ≤ ci) := fun h9 => c130 ((nI_leI (a := un u) (b := ci) (by omega) (by omega)).mpr h9)
              have hc9 := u_c I (c := ci) (by omega)
              have ixc : ix (nI ci) = ci := ix_nI (by omega)
              refine lv_iload hx hb dX3_isSame_133 (lv_at hl 4 rfl) ?_
              refine lv_aload_n hx hb dX3_isSame_135 rfl (lv_at hl 0 rfl) ?_
              refine lv_aload_n hx hb dX3_isSame_136 rfl (lv_at hl 0 rfl) ?_
              refine va_get (D := D) (ci := 3) (v := .ref (sa 1)) (C := RX3) (T := TX3) (N := 6) hx hb hts inX3_isSame_RX3 hown hK hP 1 rfl rfl 1 (by decide) (hts _ kX3_isSame_1) (fun _ h9 => h9) rfl dX3_isSame_137 ?_
              refine lv_iload hx hb dX3_isSame_140 (lv_at hl 5 rfl) ?_
              refine pc_aldA hx hb hkp hP 3 rfl (k := ci) (show ci < un u by omega) (by omega) (v := ch ci) rfl dX3_isSame_142 ?_
              refine sim_p (Lc := ([(r2, .inl ((cy 0), 6, .inl (smG (uh u) 12 0)))] : va_W)) (S5 := wS5 cy b sa st ch (un u) (uw u) (ud u) (nI (zh (uh u))) (zl (uh u))) (S12 := rows12 cy st 6 (rowS (uh u))) (X := wX cy a q q2 ca ta u g ++ chT cy ch u) (Y := [(ch ci, .inl (cy 0, uz u ci + 1, .inl (rowL (ul u ci) (ut u ci))))]) (As := [.ref (ch ci)]) (rest := [.int (nI (cnt (snd u) 0 ci))]) hP hK hkp ⟨hx, hb, hml, hown, hts⟩ (mX3_sounds l D cy b sa st ch u (ch ci) (ul u ci) (uz u ci) (ut u ci) hc9.2.1 hc9.2.2.1 (snd_q I (by omega) hc9.2.1)) (fun x hx => by rw [List.mem_singleton.mp hx]; exact List.mem_append_right _ (chT_mem (by omega))) rfl (cwV 1 hts gX3_isSame_X3_sounds rfl rfl rfl (by decide +kernel) ⟨Nat.le_of_ble_eq_true rfl, Nat.le_of_ble_eq_true rfl⟩) rfl rfl hl.1 (Nat.le_of_ble_eq_true rfl) dX3_isSame_143 ⟨(show 169 + 2 * ci ≤ 200 by omega), (show 1014 + 12 * ci ≤ 1200 by omega)⟩ ?_
              refine pc_top (show bI (tuned (uh u) (ul u ci) (uz u ci) (ut u ci)) = bI (snd u ci) from rfl) ?_
              refine lv_if_eq (tgt := 153) hx hb dX3_isSame_146 (by decide) (fun c146 => ?_) (fun c146 => ?_)
              · refine lv_iconst (v := 0) hx hb dX3_isSame_153 (by decide) ?_
                refine lv_iadd hx hb dX3_isSame_154 ?_
                refine pc_top (show (nI (cnt (snd u) 0 ci)) + 0 = nI (cnt (snd u) 0 ci + 0) from nI_add (cnt (snd u) 0 ci) 0) ?_
                refine lv_istore (lv' := [(4, .int (nI (cnt (snd u) 0 ci + 0))), (0, .ref b), (1, .ref (a 0)), (2, .ref r2), (3, .int (sumN (tone (uh u)) 12)), (5, .int (nI ci))]) hx hb dX3_isSame_155 hl (by decide) rfl (fun ls hl => ?_)
                have r9 : nI (cnt (snd u) 0 ci + 0) = nI (cnt (snd u) 0 (ci + 1)) := (by rw [cnt_s0 (bI_0.mp c146), Nat.add_zero])
                rw [r9] at hl
                clear r9
                refine lv_aload_n hx hb dX3_isSame_157 rfl (lv_at hl 2 rfl) ?_
                refine lv_iload hx hb dX3_isSame_158 (lv_at hl 5 rfl) ?_
                refine cls_p (Lc := ([(r2, .inl ((cy 0), 6, .inl (smG (uh u) 12 0)))] : va_W)) (S5 := wS5 cy b sa st ch (un u) (uw u) (ud u) (nI (zh (uh u))) (zl (uh u))) (S12 := rows12 cy st 6 (rowS (uh u))) (T := chT cy ch u) (As := [.int (nI ci)]) (rest := []) hP hS hK hXA ⟨hx, hb, hml, hown, hts⟩ (mX2_off l hst D cy a q q2 ca ta u g I.1 (nI ci)) (fun E h => h.2 (exC_0 hu6 (by omega))) (cwV 1 hts gX3_isSame_X2_off rfl rfl rfl (by decide +kernel) ⟨Nat.le_of_ble_eq_true rfl, Nat.le_of_ble_eq_true rfl⟩) rfl rfl hl.1 (Nat.le_of_ble_eq_true rfl) dX3_isSame_160 ⟨(show 169 + 2 * ci + 1 ≤ 200 by omega), (show 1014 + 12 * ci + 6 ≤ 1200 by omega)⟩ ?_
                refine pc_top (show offBy (uh u) (ul u (ix (nI ci))) (ut u (ix (nI ci))) (uz u (ix (nI ci))) = offBy (uh u) (ul u ci) (ut u ci) (uz u ci) from (by rw [ixc])) ?_
                refine lv_aload_n hx hb dX3_isSame_163 rfl (lv_at hl 1 rfl) ?_
                refine lv_aload_n hx hb dX3_isSame_164 rfl (lv_at hl 1 rfl) ?_
                refine va_get (D := D) (ci := 3) (v := .ref (sa 1)) (C := RX3) (T := TX3) (N := 6) hx hb hts inX3_isSame_RX3 hown hK hP 1 rfl rfl 1 (by decide) (hts _ kX3_isSame_1) (fun _ h9 => h9) rfl dX3_isSame_165 ?_
                refine lv_iload hx hb dX3_isSame_168 (lv_at hl 5 rfl) ?_
                refine pc_aldA hx hb hkp hP 3 rfl (k := ci) (show ci < un u by omega) (by omega) (v := ch ci) rfl dX3_isSame_170 ?_
                refine sim_p (Lc := ([(r2, .inl ((cy 0), 6, .inl (smG (uh u) 12 0)))] : va_W)) (S5 := wS5 cy b sa st ch (un u) (uw u) (ud u) (nI (zh (uh u))) (zl (uh u))) (S12 := rows12 cy st 6 (rowS (uh u))) (X := wX cy a q q2 ca ta u g ++ chT cy ch u) (Y := [(ch ci, .inl (cy 0, uz u ci + 1, .inl (rowL (ul u ci) (ut u ci))))]) (As := [.ref (ch ci)]) (rest := [.int (offBy (uh u) (ul u ci) (ut u ci) (uz u ci))]) hP hK hkp ⟨hx, hb, hml, hown, hts⟩ (mX3_off l D cy b sa st ch u (ch ci) (ul u ci) (uz u ci) (ut u ci) hc9.2.1 hc9.2.2.1) (fun x hx => by rw [List.mem_singleton.mp hx]; exact List.mem_append_right _ (chT_mem (by omega))) rfl (cwV 1 hts gX3_isSame_X3_off rfl rfl rfl (by decide +kernel) ⟨Nat.le_of_ble_eq_true rfl, Nat.le_of_ble_eq_true rfl⟩) rfl rfl hl.1 (Nat.le_of_ble_eq_true rfl) dX3_isSame_171 ⟨(show 169 + 2 * ci + 1 ≤ 200 by omega), (show 1014 + 12 * ci + 6 ≤ 1200 by omega)⟩ ?_
                refine lv_icmp_ne (tgt := 197) hx hb dX3_isSame_174 (by decide) (fun c174 => absurd c174 (not_not_intro rfl)) (fun c174 => ?_)
                refine lv_aload_n hx hb dX3_isSame_177 rfl (lv_at hl 2 rfl) ?_
                refine lv_iload hx hb dX3_isSame_178 (lv_at hl 5 rfl) ?_
                refine cls_p (Lc := ([(r2, .inl ((cy 0), 6, .inl (smG (uh u) 12 0)))] : va_W)) (S5 := wS5 cy b sa st ch (un u) (uw u) (ud u) (nI (zh (uh u))) (zl (uh u))) (S12 := rows12 cy st 6 (rowS (uh u))) (T := chT cy ch u) (As := [.int (nI ci)]) (rest := []) hP hS hK hXA ⟨hx, hb, hml, hown, hts⟩ (mX2_sounds l hst D cy a q q2 ca ta u g I.1 (nI ci)) (fun E h => h.2 (exC_0 hu6 (by omega))) (cwV 1 hts gX3_isSame_X2_sounds rfl rfl rfl (by decide +kernel) ⟨Nat.le_of_ble_eq_true rfl, Nat.le_of_ble_eq_true rfl⟩) rfl rfl hl.1 (Nat.le_of_ble_eq_true rfl) dX3_isSame_180 ⟨(show 169 + 2 * ci + 1 + 1 ≤ 200 by omega), (show 1014 + 12 * ci + 6 + 6 ≤ 1200 by omega)⟩ ?_
                refine pc_top (show bI (snd u (ix (nI ci))) = bI (snd u ci) from (by rw [ixc])) ?_
                refine lv_aload_n hx hb dX3_isSame_183 rfl (lv_at hl 1 rfl) ?_
                refine lv_aload_n hx hb dX3_isSame_184 rfl (lv_at hl 1 rfl) ?_
                refine va_get (D := D) (ci := 3) (v := .ref (sa 1)) (C := RX3) (T := TX3) (N := 6) hx hb hts inX3_isSame_RX3 hown hK hP 1 rfl rfl 1 (by decide) (hts _ kX3_isSame_1) (fun _ h9 => h9) rfl dX3_isSame_185 ?_
                refine lv_iload hx hb dX3_isSame_188 (lv_at hl 5 rfl) ?_
                refine pc_aldA hx hb hkp hP 3 rfl (k := ci) (show ci < un u by omega) (by omega) (v := ch ci) rfl dX3_isSame_190 ?_
                refine sim_p (Lc := ([(r2, .inl ((cy 0), 6, .inl (smG (uh u) 12 0)))] : va_W)) (S5 := wS5 cy b sa st ch (un u) (uw u) (ud u) (nI (zh (uh u))) (zl (uh u))) (S12 := rows12 cy st 6 (rowS (uh u))) (X := wX cy a q q2 ca ta u g ++ chT cy ch u) (Y := [(ch ci, .inl (cy 0, uz u ci + 1, .inl (rowL (ul u ci) (ut u ci))))]) (As := [.ref (ch ci)]) (rest := [.int (bI (snd u ci))]) hP hK hkp ⟨hx, hb, hml, hown, hts⟩ (mX3_sounds l D cy b sa st ch u (ch ci) (ul u ci) (uz u ci) (ut u ci) hc9.2.1 hc9.2.2.1 (snd_q I (by omega) hc9.2.1)) (fun x hx => by rw [List.mem_singleton.mp hx]; exact List.mem_append_right _ (chT_mem (by omega))) rfl (cwV 1 hts gX3_isSame_X3_sounds rfl rfl rfl (by decide +kernel) ⟨Nat.le_of_ble_eq_true rfl, Nat.le_of_ble_eq_true rfl⟩) rfl rfl hl.1 (Nat.le_of_ble_eq_true rfl) dX3_isSame_191 ⟨(show 169 + 2 * ci + 1 + 1 ≤ 200 by omega), (show 1014 + 12 * ci + 6 + 6 ≤ 1200 by omega)⟩ ?_
                refine pc_top (show bI (tuned (uh u) (ul u ci) (uz u ci) (ut u ci)) = bI (snd u ci) from rfl) ?_
                refine lv_icmp_eq (tgt := 199) hx hb dX3_isSame_194 (by decide) (fun c194 => ?_) (fun c194 => absurd c194 (not_not_intro rfl))
                refine lv_iinc (v := nI (ci + 1)) (lv' := [(5, .int (nI (ci + 1))), (4, .int (nI (cnt (snd u) 0 (ci + 1)))), (0, .ref b), (1, .ref (a 0)), (2, .ref r2), (3, .int (sumN (tone (uh u)) 12))]) hx hb dX3_isSame_199 hl (k := 5) rfl ((show (nI ci) + Int32.ofInt 1 = (nI ci) + 1 from rfl).trans (show (nI ci) + 1 = nI (ci + 1) from nI_add ci 1)) (by decide) rfl (fun ls hl => ?_)
                refine lv_goto (tgt := 123) hx hb dX3_isSame_202 (by decide) ?_
                refine W.widen (k := 169 + 2 * (ci + 1)) (n := 1014 + 12 * (ci + 1)) (by omega) (by omega) ?_
                exact ih123 (ci + 1) (by omega) (by omega) _ _ hP hD hS ls (lv_sub hl [2, 3, 4, 5, 1, 0] rfl)
              · refine lv_iconst (v := 1) hx hb dX3_isSame_149 (by decide) ?_
                refine lv_goto (tgt := 154) hx hb dX3_isSame_150 (by decide) ?_
                refine lv_iadd hx hb dX3_isSame_154 ?_
                refine pc_top (show (nI (cnt (snd u) 0 ci)) + 1 = nI (cnt (snd u) 0 ci + 1) from nI_add (cnt (snd u) 0 ci) 1) ?_
                refine lv_istore (lv' := [(4, .int (nI (cnt (snd u) 0 ci + 1))), (0, .ref b), (1, .ref (a 0)), (2, .ref r2), (3, .int (sumN (tone (uh u)) 12)), (5, .int (nI ci))]) hx hb dX3_isSame_155 hl (by decide) rfl (fun ls hl => ?_)
                have r9 : nI (cnt (snd u) 0 ci + 1) = nI (cnt (snd u) 0 (ci + 1)) := (by rw [cnt_s1 (bI_1.mp c146)])
                rw [r9] at hl
                clear r9
                refine lv_aload_n hx hb dX3_isSame_157 rfl (lv_at hl 2 rfl) ?_
                refine lv_iload hx hb dX3_isSame_158 (lv_at hl 5 rfl) ?_
                refine cls_p (Lc := ([(r2, .inl ((cy 0), 6, .inl (smG (uh u) 12 0)))] : va_W)) (S5 := wS5 cy b sa st ch (un u) (uw u) (ud u) (nI (zh (uh u))) (zl (uh u))) (S12 := rows12 cy st 6 (rowS (uh u))) (T := chT cy ch u) (As := [.int (nI ci)]) (rest := []) hP hS hK hXA ⟨hx, hb, hml, hown, hts⟩ (mX2_off l hst D cy a q q2 ca ta u g I.1 (nI ci)) (fun E h => h.2 (exC_0 hu6 (by omega))) (cwV 1 hts gX3_isSame_X2_off rfl rfl rfl (by decide +kernel) ⟨Nat.le_of_ble_eq_true rfl, Nat.le_of_ble_eq_true rfl⟩) rfl rfl hl.1 (Nat.le_of_ble_eq_true rfl) dX3_isSame_160 ⟨(show 169 + 2 * ci + 1 ≤ 200 by omega), (show 1014 + 12 * ci + 6 ≤ 1200 by omega)⟩ ?_
                refine pc_top (show offBy (uh u) (ul u (ix (nI ci))) (ut u (ix (nI ci))) (uz u (ix (nI ci))) = offBy (uh u) (ul u ci) (ut u ci) (uz u ci) from (by rw [ixc])) ?_
                refine lv_aload_n hx hb dX3_isSame_163 rfl (lv_at hl 1 rfl) ?_
                refine lv_aload_n hx hb dX3_isSame_164 rfl (lv_at hl 1 rfl) ?_
                refine va_get (D := D) (ci := 3) (v := .ref (sa 1)) (C := RX3) (T := TX3) (N := 6) hx hb hts inX3_isSame_RX3 hown hK hP 1 rfl rfl 1 (by decide) (hts _ kX3_isSame_1) (fun _ h9 => h9) rfl dX3_isSame_165 ?_
                refine lv_iload hx hb dX3_isSame_168 (lv_at hl 5 rfl) ?_
                refine pc_aldA hx hb hkp hP 3 rfl (k := ci) (show ci < un u by omega) (by omega) (v := ch ci) rfl dX3_isSame_170 ?_
                refine sim_p (Lc := ([(r2, .inl ((cy 0), 6, .inl (smG (uh u) 12 0)))] : va_W)) (S5 := wS5 cy b sa st ch (un u) (uw u) (ud u) (nI (zh (uh u))) (zl (uh u))) (S12 := rows12 cy st 6 (rowS (uh u))) (X := wX cy a q q2 ca ta u g ++ chT cy ch u) (Y := [(ch ci, .inl (cy 0, uz u ci + 1, .inl (rowL (ul u ci) (ut u ci))))]) (As := [.ref (ch ci)]) (rest := [.int (offBy (uh u) (ul u ci) (ut u ci) (uz u ci))]) hP hK hkp ⟨hx, hb, hml, hown, hts⟩ (mX3_off l D cy b sa st ch u (ch ci) (ul u ci) (uz u ci) (ut u ci) hc9.2.1 hc9.2.2.1) (fun x hx => by rw [List.mem_singleton.mp hx]; exact List.mem_append_right _ (chT_mem (by omega))) rfl (cwV 1 hts gX3_isSame_X3_off rfl rfl rfl (by decide +kernel) ⟨Nat.le_of_ble_eq_true rfl, Nat.le_of_ble_eq_true rfl⟩) rfl rfl hl.1 (Nat.le_of_ble_eq_true rfl) dX3_isSame_171 ⟨(show 169 + 2 * ci + 1 ≤ 200 by omega), (show 1014 + 12 * ci + 6 ≤ 1200 by omega)⟩ ?_
                refine lv_icmp_ne (tgt := 197) hx hb dX3_isSame_174 (by decide) (fun c174 => absurd c174 (not_not_intro rfl)) (fun c174 => ?_)
                refine lv_aload_n hx hb dX3_isSame_177 rfl (lv_at hl 2 rfl) ?_
                refine lv_iload hx hb dX3_isSame_178 (lv_at hl 5 rfl) ?_
                refine cls_p (Lc := ([(r2, .inl ((cy 0), 6, .inl (smG (uh u) 12 0)))] : va_W)) (S5 := wS5 cy b sa st ch (un u) (uw u) (ud u) (nI (zh (uh u))) (zl (uh u))) (S12 := rows12 cy st 6 (rowS (uh u))) (T := chT cy ch u) (As := [.int (nI ci)]) (rest := []) hP hS hK hXA ⟨hx, hb, hml, hown, hts⟩ (mX2_sounds l hst D cy a q q2 ca ta u g I.1 (nI ci)) (fun E h => h.2 (exC_0 hu6 (by omega))) (cwV 1 hts gX3_isSame_X2_sounds rfl rfl rfl (by decide +kernel) ⟨Nat.le_of_ble_eq_true rfl, Nat.le_of_ble_eq_true rfl⟩) rfl rfl hl.1 (Nat.le_of_ble_eq_true rfl) dX3_isSame_180 ⟨(show 169 + 2 * ci + 1 + 1 ≤ 200 by omega), (show 1014 + 12 * ci + 6 + 6 ≤ 1200 by omega)⟩ ?_
                refine pc_top (show bI (snd u (ix (nI ci))) = bI (snd u ci) from (by rw [ixc])) ?_
                refine lv_aload_n hx hb dX3_isSame_183 rfl (lv_at hl 1 rfl) ?_
                refine lv_aload_n hx hb dX3_isSame_184 rfl (lv_at hl 1 rfl) ?_
                refine va_get (D := D) (ci := 3) (v := .ref (sa 1)) (C := RX3) (T := TX3) (N := 6) hx hb hts inX3_isSame_RX3 hown hK hP 1 rfl rfl 1 (by decide) (hts _ kX3_isSame_1) (fun _ h9 => h9) rfl dX3_isSame_185 ?_
                refine lv_iload hx hb dX3_isSame_188 (lv_at hl 5 rfl) ?_
                refine pc_aldA hx hb hkp hP 3 rfl (k := ci) (show ci < un u by omega) (by omega) (v := ch ci) rfl dX3_isSame_190 ?_
                refine sim_p (Lc := ([(r2, .inl ((cy 0), 6, .inl (smG (uh u) 12 0)))] : va_W)) (S5 := wS5 cy b sa st ch (un u) (uw u) (ud u) (nI (zh (uh u))) (zl (uh u))) (S12 := rows12 cy st 6 (rowS (uh u))) (X := wX cy a q q2 ca ta u g ++ chT cy ch u) (Y := [(ch ci, .inl (cy 0, uz u ci + 1, .inl (rowL (ul u ci) (ut u ci))))]) (As := [.ref (ch ci)]) (rest := [.int (bI (snd u ci))]) hP hK hkp ⟨hx, hb, hml, hown, hts⟩ (mX3_sounds l D cy b sa st ch u (ch ci) (ul u ci) (uz u ci) (ut u ci) hc9.2.1 hc9.2.2.1 (snd_q I (by omega) hc9.2.1)) (fun x hx => by rw [List.mem_singleton.mp hx]; exact List.mem_append_right _ (chT_mem (by omega))) rfl (cwV 1 hts gX3_isSame_X3_sounds rfl rfl rfl (by decide +kernel) ⟨Nat.le_of_ble_eq_true rfl, Nat.le_of_ble_eq_true rfl⟩) rfl rfl hl.1 (Nat.le_of_ble_eq_true rfl) dX3_isSame_191 ⟨(show 169 + 2 * ci + 1 + 1 ≤ 200 by omega), (show 1014 + 12 * ci + 6 + 6 ≤ 1200 by omega)⟩ ?_
                refine pc_top (show bI (tuned (uh u) (ul u ci) (uz u ci) (ut u ci)) = bI (snd u ci) from rfl) ?_
                refine lv_icmp_eq (tgt := 199) hx hb dX3_isSame_194 (by decide) (fun c194 => ?_) (fun c194 => absurd c194 (not_not_intro rfl))
                refine lv_iinc (v := nI (ci + 1)) (lv' := [(5, .int (nI (ci + 1))), (4, .int (nI (cnt (snd u) 0 (ci + 1)))), (0, .ref b), (1, .ref (a 0)), (2, .ref r2), (3, .int (sumN (tone (uh u)) 12))]) hx hb dX3_isSame_199 hl (k := 5) rfl ((show (nI ci) + Int32.ofInt 1 = (nI ci) + 1 from rfl).trans (show (nI ci) + 1 = nI (ci + 1) from nI_add ci 1)) (by decide) rfl (fun ls hl => ?_)
                refine lv_goto (tgt := 123) hx hb dX3_isSame_202 (by decide) ?_
                refine W.widen (k := 169 + 2 * (ci + 1)) (n := 1014 + 12 * (ci + 1)) (by omega) (by omega) ?_
                exact ih123 (ci + 1) (by omega) (by omega) _ _ hP hD hS ls (lv_sub hl [2, 3, 4, 5, 1, 0] rfl)
        refine W.widen (k := 169 + 2 * 0) (n := 1014 + 12 * 0) (by omega) (by omega) ?_
        exact loop123 (un u + 1) 0 (Nat.zero_le _) (by omega) _ _ hP hD hS ls (lv_sub hl [1, 2, 3, 4, 5, 0] rfl)
      · have n17 : ¬ (12 ≤ k) := fun h9 => c17 ((nI_leI (a := 12) (b := k) (by omega) (by omega)).mpr h9)
        refine lv_iconst (v := 0) hx hb dX3_isSame_20 (by decide) ?_
        refine lv_istore (lv' := [(6, .int 0), (0, .ref b), (1, .ref (a 0)), (2, .ref r2), (3, .int (sumN (tone (uh u)) k)), (4, .int 0), (5, .int (nI k))]) hx hb dX3_isSame_21 hl (by decide) rfl (fun ls hl => ?_)
        have loop23 : ∀ (n9 : Nat) (w : Nat), w ≤ 6 → 6 - w < n9 → ∀ (H : Heap) (locs : List Loc), va_P D vwCl (([(r2, .inl ((cy 0), 6, .inl (smG (uh u) k w)))] : va_W) ++ (wS5 cy b sa st ch (un u) (uw u) (ud u) (nI (zh (uh u))) (zl (uh u)) ++ (rows12 cy st 6 (rowS (uh u)) ++ (wX cy a q q2 ca ta u g ++ chT cy ch u)))) H → va_D A (([(r2, .inl ((cy 0), 6, .inl (smG (uh u) k w)))] : va_W) ++ (wS5 cy b sa st ch (un u) (uw u) (ud u) (nI (zh (uh u))) (zl (uh u)) ++ (rows12 cy st 6 (rowS (uh u)) ++ (wX cy a q q2 ca ta u g ++ chT cy ch u)))) → va_S A s.heap H locs → ∀ ls : Array Slot, lv_has ls 7 [(0, .ref b), (1, .ref (a 0)), (2, .ref r2), (3, .int (sumN (tone (uh u)) k)), (4, .int 0), (5, .int (nI k)), (6, .int (nI w))] → W p l e (headSpec wsX3_isSame ({ frames := 12, cells := 200, slots := 1200, locals := 300 } : Room)).room s m ([.ref b, .ref (a 0)] : List Value).toArray below meth c H locs (1 + 14 * k + 2 * w) (6 + 84 * k + 12 * w) (MQ below (va_Qi (fun (r8 : Int32) (_ : Unit) => r8 = 1) (fun (_ : Unit) t => va_P D vwCl (wSu cy b sa st ch u ++ (wSr cy st u ++ (wX cy a q q2 ca ta u g ++ chT cy ch u))) t.heap ∧ va_D A (wSu cy b sa st ch u ++ (wSr cy st u ++ (wX cy a q q2 ca ta u g ++ chT cy ch u)))) A) ([.ref b, .ref (a 0)] : List Value).toArray s 200 1200 A) (F0 m 23 ls []) := by
          intro n9
          induction n9 with
          | zero => intro w hw h9 H locs hP hD hS ls hl; exact absurd h9 (by omega)
          | succ n9 ih23 =>
            intro w hw h9 H locs hP hD hS ls hl
            refine lv_iload hx hb dX3_isSame_23 (lv_at hl 6 rfl) ?_
            refine lv_bipush (v := 6) hx hb dX3_isSame_25 (by decide) ?_
            refine lv_icmp_ge (tgt := 87) hx hb dX3_isSame_27 (by decide) (fun c27 => ?_) (fun c27 => ?_)
            · have n27 : 6 ≤ w := (nI_leI (a := 6) (b := w) (by omega) (by omega)).mp c27
              have e9 : (smG (uh u) k w) = smG (uh u) (k + 1) 0 := (by rw [show w = 6 by omega]; exact smG_6 _ _)
              rw [e9] at hP hD
              clear e9
              have hP : va_P D vwCl (([(r2, .inl ((cy 0), 6, .inl (smG (uh u) (k + 1) 0)))] : va_W) ++ (wS5 cy b sa st ch (un u) (uw u) (ud u) (nI (zh (uh u))) (zl (uh u)) ++ (rows12 cy st 6 (rowS (uh u)) ++ (wX cy a q q2 ca ta u g ++ chT cy ch u)))) H := hP
              have hD : va_D A (([(r2, .inl ((cy 0), 6, .inl (smG (uh u) (k + 1) 0)))] : va_W) ++ (wS5 cy b sa st ch (un u) (uw u) (ud u) (nI (zh (uh u))) (zl (uh u)) ++ (rows12 cy st 6 (rowS (uh u)) ++ (wX cy a q q2 ca ta u g ++ chT cy ch u)))) := hD
              refine lv_iload_n hx hb dX3_isSame_87 rfl (lv_at hl 3 rfl) ?_
              refine lv_aload_n hx hb dX3_isSame_88 rfl (lv_at hl 0 rfl) ?_
              refine lv_iload hx hb dX3_isSame_89 (lv_at hl 5 rfl) ?_
              refine sim_p (Lc := ([(r2, .inl ((cy 0), 6, .inl (smG (uh u) (k + 1) 0)))] : va_W)) (S5 := wS5 cy b sa st ch (un u) (uw u) (ud u) (nI (zh (uh u))) (zl (uh u))) (S12 := rows12 cy st 6 (rowS (uh u))) (X := wX cy a q q2 ca ta u g ++ chT cy ch u) (Y := []) (As := [.int (nI k)]) (rest := [.int (sumN (tone (uh u)) k)]) hP hK hkp ⟨hx, hb, hml, hown, hts⟩ (mX3_tone l D cy b sa st ch u k (by omega)) (no_mem) rfl (cwV 1 hts gX3_isSame_X3_tone rfl rfl rfl (by decide +kernel) ⟨Nat.le_of_ble_eq_true rfl, Nat.le_of_ble_eq_true rfl⟩) rfl rfl hl.1 (Nat.le_of_ble_eq_true rfl) dX3_isSame_91 ⟨(show 1 + 14 * k + 2 * w ≤ 200 by omega), (show 6 + 84 * k + 12 * w ≤ 1200 by omega)⟩ ?_
              refine lv_iadd hx hb dX3_isSame_94 ?_
              refine lv_istore_n (lv' := [(3, .int ((sumN (tone (uh u)) k) + (tone (uh u) k))), (0, .ref b), (1, .ref (a 0)), (2, .ref r2), (4, .int 0), (5, .int (nI k)), (6, .int (nI w))]) hx hb dX3_isSame_95 rfl hl (by decide) rfl (fun ls hl => ?_)
              have r9 : (sumN (tone (uh u)) k) + (tone (uh u) k) = sumN (tone (uh u)) (k + 1) := rfl
              rw [r9] at hl
              clear r9
              refine lv_aload_n hx hb dX3_isSame_96 rfl (lv_at hl 2 rfl) ?_
              refine lv_iload hx hb dX3_isSame_97 (lv_at hl 5 rfl) ?_
              refine lv_iconst (v := 5) hx hb dX3_isSame_99 (by decide) ?_
              refine cls_p (Lc := ([(r2, .inl ((cy 0), 6, .inl (smG (uh u) (k + 1) 0)))] : va_W)) (S5 := wS5 cy b sa st ch (un u) (uw u) (ud u) (nI (zh (uh u))) (zl (uh u))) (S12 := rows12 cy st 6 (rowS (uh u))) (T := chT cy ch u) (As := [.int (nI k), .int 5]) (rest := []) hP hS hK hXA ⟨hx, hb, hml, hown, hts⟩ (mX2_string l hst D cy a q q2 ca ta u g I.1 (nI k) 5) (fun E h => h.2 (exStr_0 (w := 5) (by omega) (by omega))) (cwV 2 hts gX3_isSame_X2_string rfl rfl rfl (by decide +kernel) ⟨Nat.le_of_ble_eq_true rfl, Nat.le_of_ble_eq_true rfl⟩) rfl rfl hl.1 (Nat.le_of_ble_eq_true rfl) dX3_isSame_100 ⟨(show 1 + 14 * k + 2 * w + 2 ≤ 200 by omega), (show 6 + 84 * k + 12 * w + 12 ≤ 1200 by omega)⟩ ?_
              refine pc_top (show factH (uh u) (ix (nI k)) (ix 5) = tone (uh u) k from (fact_nI (w := 5) (by omega) (by omega))) ?_
              refine lv_aload_n hx hb dX3_isSame_103 rfl (lv_at hl 1 rfl) ?_
              refine lv_iload hx hb dX3_isSame_104 (lv_at hl 5 rfl) ?_
              refine sim_p (Lc := ([(r2, .inl ((cy 0), 6, .inl (smG (uh u) (k + 1) 0)))] : va_W)) (S5 := wS5 cy b sa st ch (un u) (uw u) (ud u) (nI (zh (uh u))) (zl (uh u))) (S12 := rows12 cy st 6 (rowS (uh u))) (X := wX cy a q q2 ca ta u g ++ chT cy ch u) (Y := []) (As := [.int (nI k)]) (rest := [.int (tone (uh u) k)]) hP hK hkp ⟨hx, hb, hml, hown, hts⟩ (mX3_tone l D cy b sa st ch u k (by omega)) (no_mem) rfl (cwV 1 hts gX3_isSame_X3_tone rfl rfl rfl (by decide +kernel) ⟨Nat.le_of_ble_eq_true rfl, Nat.le_of_ble_eq_true rfl⟩) rfl rfl hl.1 (Nat.le_of_ble_eq_true rfl) dX3_isSame_106 ⟨(show 1 + 14 * k + 2 * w + 2 ≤ 200 by omega), (show 6 + 84 * k + 12 * w + 12 ≤ 1200 by omega)⟩ ?_
              refine lv_icmp_eq (tgt := 114) hx hb dX3_isSame_109 (by decide) (fun c109 => ?_) (fun c109 => absurd c109 (not_not_intro rfl))
              refine lv_iinc (v := nI (k + 1)) (lv' := [(5, .int (nI (k + 1))), (3, .int (sumN (tone (uh u)) (k + 1))), (0, .ref b), (1, .ref (a 0)), (2, .ref r2), (4, .int 0), (6, .int (nI w))]) hx hb dX3_isSame_114 hl (k := 5) rfl ((show (nI k) + Int32.ofInt 1 = (nI k) + 1 from rfl).trans (show (nI k) + 1 = nI (k + 1) from nI_add k 1)) (by decide) rfl (fun ls hl => ?_)
              refine lv_goto (tgt := 13) hx hb dX3_isSame_117 (by decide) ?_
              refine W.widen (k := 1 + 14 * (k + 1)) (n := 6 + 84 * (k + 1)) (by omega) (by omega) ?_
              exact ih13 (k + 1) (by omega) (by omega) _ _ hP hD hS ls (lv_sub hl [2, 3, 4, 1, 5, 0] rfl)
            · have n27 : ¬ (6 ≤ w) := fun h9 => c27 ((nI_leI (a := 6) (b := w) (by omega) (by omega)).mpr h9)
              refine lv_aload_n hx hb dX3_isSame_30 rfl (lv_at hl 2 rfl) ?_
              refine lv_iload hx hb dX3_isSame_31 (lv_at hl 6 rfl) ?_
              refine lv_dup2_11 hx hb dX3_isSame_33 rfl rfl ?_
              refine pc_iald hx hb hK hP 0 0 rfl rfl (k := w) (show w < 6 by omega) (by decide) dX3_isSame_34 ?_
              refine lv_aload_n hx hb dX3_isSame_35 rfl (lv_at hl 0 rfl) ?_
              refine va_get (D := D) (ci := 3) (v := .ref (sa 0)) (C := RX3) (T := TX3) (N := 6) hx hb hts inX3_isSame_RX3 hown hK hP 1 rfl rfl 0 (by decide) (hts _ kX3_isSame_4) (fun _ h9 => h9) rfl dX3_isSame_36 ?_
              refine lv_iload hx hb dX3_isSame_39 (lv_at hl 5 rfl) ?_
              refine pc_aldA hx hb hkp hP 2 rfl (k := k) (show k < 12 by omega) (by decide) (v := st k) rfl dX3_isSame_41 ?_
              refine lv_iload hx hb dX3_isSame_42 (lv_at hl 6 rfl) ?_
              refine row_aldS hx hb hK hP (k := k) (j := w) (show k < 12 by omega) (show w < 6 by omega) (by decide) dX3_isSame_44 ?_
              refine lv_iadd hx hb dX3_isSame_45 ?_
              refine pc_iast hx hb hK hP hD hS 0 0 rfl rfl (k := w) (show w < 6 by omega) (by decide) dX3_isSame_46 (fun H locs hP hD hS => ?_)
              have hP : va_P D vwCl (([(r2, .inl ((cy 0), 6, .inl (upd (smG (uh u) k w) w (((smG (uh u) k w) w) + ((rowS (uh u)) k w)))))] : va_W) ++ (wS5 cy b sa st ch (un u) (uw u) (ud u) (nI (zh (uh u))) (zl (uh u)) ++ (rows12 cy st 6 (rowS (uh u)) ++ (wX cy a q q2 ca ta u g ++ chT cy ch u)))) H := hP
              have hD : va_D A (([(r2, .inl ((cy 0), 6, .inl (upd (smG (uh u) k w) w (((smG (uh u) k w) w) + ((rowS (uh u)) k w)))))] : va_W) ++ (wS5 cy b sa st ch (un u) (uw u) (ud u) (nI (zh (uh u))) (zl (uh u)) ++ (rows12 cy st 6 (rowS (uh u)) ++ (wX cy a q q2 ca ta u g ++ chT cy ch u)))) := hD
              have e9 : (upd (smG (uh u) k w) w (((smG (uh u) k w) w) + ((rowS (uh u)) k w))) = smG (uh u) k (w + 1) := (smG_s _ _ _)
              rw [e9] at hP hD
              clear e9
              have hP : va_P D vwCl (([(r2, .inl ((cy 0), 6, .inl (smG (uh u) k (w + 1))))] : va_W) ++ (wS5 cy b sa st ch (un u) (uw u) (ud u) (nI (zh (uh u))) (zl (uh u)) ++ (rows12 cy st 6 (rowS (uh u)) ++ (wX cy a q q2 ca ta u g ++ chT cy ch u)))) H := hP
              have hD : va_D A (([(r2, .inl ((cy 0), 6, .inl (smG (uh u) k (w + 1))))] : va_W) ++ (wS5 cy b sa st ch (un u) (uw u) (ud u) (nI (zh (uh u))) (zl (uh u)) ++ (rows12 cy st 6 (rowS (uh u)) ++ (wX cy a q q2 ca ta u g ++ chT cy ch u)))) := hD
              refine lv_aload_n hx hb dX3_isSame_47 rfl (lv_at hl 1 rfl) ?_
              refine lv_iload hx hb dX3_isSame_48 (lv_at hl 5 rfl) ?_
              refine lv_iload hx hb dX3_isSame_50 (lv_at hl 6 rfl) ?_
              refine lv_iconst (v := 5) hx hb dX3_isSame_52 (by decide) ?_
              refine lv_icmp_ge (tgt := 61) hx hb dX3_isSame_53 (by decide) (fun c53 => ?_) (fun c53 => ?_)
              · have n53 : 5 ≤ w := (nI_leI (a := 5) (b := w) (by omega) (by omega)).mp c53
                refine lv_bipush (v := 6) hx hb dX3_isSame_61 (by decide) ?_
                refine cls_p (Lc := ([(r2, .inl ((cy 0), 6, .inl (smG (uh u) k (w + 1))))] : va_W)) (S5 := wS5 cy b sa st ch (un u) (uw u) (ud u) (nI (zh (uh u))) (zl (uh u))) (S12 := rows12 cy st 6 (rowS (uh u))) (T := chT cy ch u) (As := [.int (nI k), .int 6]) (rest := []) hP hS hK hXA ⟨hx, hb, hml, hown, hts⟩ (mX2_string l hst D cy a q q2 ca ta u g I.1 (nI k) 6) (fun E h => h.2 (exStr_0 (w := 6) (by omega) (by omega))) (cwV 2 hts gX3_isSame_X2_string rfl rfl rfl (by decide +kernel) ⟨Nat.le_of_ble_eq_true rfl, Nat.le_of_ble_eq_true rfl⟩) rfl rfl hl.1 (Nat.le_of_ble_eq_true rfl) dX3_isSame_63 ⟨(show 1 + 14 * k + 2 * w + 2 ≤ 200 by omega), (show 6 + 84 * k + 12 * w + 12 ≤ 1200 by omega)⟩ ?_
                refine pc_top (show factH (uh u) (ix (nI k)) (ix 6) = rowS (uh u) k w from (fact_row6 (by omega) (by omega))) ?_
                refine lv_aload_n hx hb dX3_isSame_66 rfl (lv_at hl 0 rfl) ?_
                refine va_get (D := D) (ci := 3) (v := .ref (sa 0)) (C := RX3) (T := TX3) (N := 6) hx hb hts inX3_isSame_RX3 hown hK hP 1 rfl rfl 0 (by decide) (hts _ kX3_isSame_4) (fun _ h9 => h9) rfl dX3_isSame_67 ?_
                refine lv_iload hx hb dX3_isSame_70 (lv_at hl 5 rfl) ?_
                refine pc_aldA hx hb hkp hP 2 rfl (k := k) (show k < 12 by omega) (by decide) (v := st k) rfl dX3_isSame_72 ?_
                refine lv_iload hx hb dX3_isSame_73 (lv_at hl 6 rfl) ?_
                refine row_aldS hx hb hK hP (k := k) (j := w) (show k < 12 by omega) (show w < 6 by omega) (by decide) dX3_isSame_75 ?_
                refine lv_icmp_eq (tgt := 81) hx hb dX3_isSame_76 (by decide) (fun c76 => ?_) (fun c76 => absurd c76 (not_not_intro rfl))
                refine lv_iinc (v := nI (w + 1)) (lv' := [(6, .int (nI (w + 1))), (0, .ref b), (1, .ref (a 0)), (2, .ref r2), (3, .int (sumN (tone (uh u)) k)), (4, .int 0), (5, .int (nI k))]) hx hb dX3_isSame_81 hl (k := 6) rfl ((show (nI w) + Int32.ofInt 1 = (nI w) + 1 from rfl).trans (show (nI w) + 1 = nI (w + 1) from nI_add w 1)) (by decide) rfl (fun ls hl => ?_)
                refine lv_goto (tgt := 23) hx hb dX3_isSame_84 (by decide) ?_
                refine W.widen (k := 1 + 14 * k + 2 * (w + 1)) (n := 6 + 84 * k + 12 * (w + 1)) (by omega) (by omega) ?_
                exact ih23 (w + 1) (by omega) (by omega) _ _ hP hD hS ls (lv_sub hl [1, 2, 3, 4, 5, 6, 0] rfl)
              · have n53 : ¬ (5 ≤ w) := fun h9 => c53 ((nI_leI (a := 5) (b := w) (by omega) (by omega)).mpr h9)
                refine lv_iload hx hb dX3_isSame_56 (lv_at hl 6 rfl) ?_
                refine lv_goto (tgt := 63) hx hb dX3_isSame_58 (by decide) ?_
                refine cls_p (Lc := ([(r2, .inl ((cy 0), 6, .inl (smG (uh u) k (w + 1))))] : va_W)) (S5 := wS5 cy b sa st ch (un u) (uw u) (ud u) (nI (zh (uh u))) (zl (uh u))) (S12 := rows12 cy st 6 (rowS (uh u))) (T := chT cy ch u) (As := [.int (nI k), .int (nI w)]) (rest := []) hP hS hK hXA ⟨hx, hb, hml, hown, hts⟩ (mX2_string l hst D cy a q q2 ca ta u g I.1 (nI k) (nI w)) (fun E h => h.2 (exStr_0 (by omega) (by omega))) (cwV 2 hts gX3_isSame_X2_string rfl rfl rfl (by decide +kernel) ⟨Nat.le_of_ble_eq_true rfl, Nat.le_of_ble_eq_true rfl⟩) rfl rfl hl.1 (Nat.le_of_ble_eq_true rfl) dX3_isSame_63 ⟨(show 1 + 14 * k + 2 * w + 2 ≤ 200 by omega), (show 6 + 84 * k + 12 * w + 12 ≤ 1200 by omega)⟩ ?_
                refine pc_top (show factH (uh u) (ix (nI k)) (ix (nI w)) = rowS (uh u) k w from (fact_row (by omega) (by omega))) ?_
                refine lv_aload_n hx hb dX3_isSame_66 rfl (lv_at hl 0 rfl) ?_
                refine va_get (D := D) (ci := 3) (v := .ref (sa 0)) (C := RX3) (T := TX3) (N := 6) hx hb hts inX3_isSame_RX3 hown hK hP 1 rfl rfl 0 (by decide) (hts _ kX3_isSame_4) (fun _ h9 => h9) rfl dX3_isSame_67 ?_
                refine lv_iload hx hb dX3_isSame_70 (lv_at hl 5 rfl) ?_
                refine pc_aldA hx hb hkp hP 2 rfl (k := k) (show k < 12 by omega) (by decide) (v := st k) rfl dX3_isSame_72 ?_
                refine lv_iload hx hb dX3_isSame_73 (lv_at hl 6 rfl) ?_
                refine row_aldS hx hb hK hP (k := k) (j := w) (show k < 12 by omega) (show w < 6 by omega) (by decide) dX3_isSame_75 ?_
                refine lv_icmp_eq (tgt := 81) hx hb dX3_isSame_76 (by decide) (fun c76 => ?_) (fun c76 => absurd c76 (not_not_intro rfl))
                refine lv_iinc (v := nI (w + 1)) (lv' := [(6, .int (nI (w + 1))), (0, .ref b), (1, .ref (a 0)), (2, .ref r2), (3, .int (sumN (tone (uh u)) k)), (4, .int 0), (5, .int (nI k))]) hx hb dX3_isSame_81 hl (k := 6) rfl ((show (nI w) + Int32.ofInt 1 = (nI w) + 1 from rfl).trans (show (nI w) + 1 = nI (w + 1) from nI_add w 1)) (by decide) rfl (fun ls hl => ?_)
                refine lv_goto (tgt := 23) hx hb dX3_isSame_84 (by decide) ?_
                refine W.widen (k := 1 + 14 * k + 2 * (w + 1)) (n := 6 + 84 * k + 12 * (w + 1)) (by omega) (by omega) ?_
                exact ih23 (w + 1) (by omega) (by omega) _ _ hP hD hS ls (lv_sub hl [1, 2, 3, 4, 5, 6, 0] rfl)
        refine W.widen (k := 1 + 14 * k + 2 * 0) (n := 6 + 84 * k + 12 * 0) (by omega) (by omega) ?_
        exact loop23 (6 + 1) 0 (by decide) (by omega) _ _ hP hD hS ls (lv_sub hl [1, 2, 3, 4, 5, 6, 0] rfl)
  refine W.widen (k := 1 + 14 * 0) (n := 6 + 84 * 0) (by omega) (by omega) ?_
  exact loop13 (12 + 1) 0 (by decide) (by omega) _ _ hP hD hS ls (lv_sub hl [4, 5, 3, 2, 1, 0] rfl)

