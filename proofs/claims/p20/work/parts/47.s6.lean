theorem inL_build_RX3 : ∀ w ∈ u_ws RX3 TX3 6, w ∈ wsL_build := by decide +kernel
theorem kL_build_0 : (.classLink RL 16 RX3 : Cond) ∈ wsL_build := by decide +kernel
theorem kL_build_1 : (.instantiable RX3 6 : Cond) ∈ wsL_build := by decide +kernel
theorem kL_build_2 : (.initialized RX3 : Cond) ∈ wsL_build := by decide +kernel
theorem kL_build_3 : (.methodLink RL 57 yX3_init : Cond) ∈ wsL_build := by decide +kernel
theorem kL_build_4 : (.instanceMethod yX3_init : Cond) ∈ wsL_build := by decide +kernel
theorem kL_build_5 : (.fieldLink RL 33 "WedgeHarpsLaw$Sim" "wind" "[I" : Cond) ∈ wsL_build := by decide +kernel
theorem kL_build_6 : (.fieldLink RL 37 "WedgeHarpsLaw$Sim" "damp" "[I" : Cond) ∈ wsL_build := by decide +kernel
theorem kL_build_7 : (.fieldLink RL 15 "WedgeHarpsLaw$Sim" "strings" "[[I" : Cond) ∈ wsL_build := by decide +kernel
set_option maxHeartbeats 4000000 in
set_option maxRecDepth 100000 in
theorem mL_build (l : Launch) (hst : l.stackTraces = false) (D : va_G) (cy : Nat → ClassId) (sz : Nat) (a q q2 ca ta : Nat → Nat) (b0 L : Nat) (xs : Nat → Int32) (hL9 : L ≤ 260) : Met l yL_build wsL_build ({ frames := 14, cells := 140, slots := 840, locals := 400 } : Room) (va_Pc [.ref (a 0), .ref b0] (fun U => U.heap.size = sz ∧ va_P D vwCl (wX cy a q q2 ca ta uNew hNew) U.heap ∧ va_K D vwCl (TY cy) U ∧ va_D (fun _ => True) (wX cy a q q2 ca ta uNew hNew) ∧ vKP cy U ∧ xCA (va_A (wX cy a q q2 ca ta uNew hNew) sz) U U.heap ∧ va_X b0 L xs U U.heap ∧ b0 < sz ∧ ¬ va_A (wX cy a q q2 ca ta uNew hNew) sz b0)) (va_Qr (fun (z9 : US × (Nat → Nat) × (Nat → Nat) × (Nat → Nat)) => INV z9.1 ∧ zh (uh z9.1) = 0) (fun (z9 : US × (Nat → Nat) × (Nat → Nat) × (Nat → Nat)) (a9 : Nat) t => va_P D vwCl (wSu cy a9 z9.2.1 z9.2.2.1 z9.2.2.2 z9.1 ++ (wSr cy z9.2.2.1 z9.1 ++ (wX cy a q q2 ca ta z9.1 hNew ++ chT cy z9.2.2.2 z9.1))) t.heap ∧ va_D (va_A (wX cy a q q2 ca ta uNew hNew) sz) (wSu cy a9 z9.2.1 z9.2.2.1 z9.2.2.2 z9.1 ++ (wSr cy z9.2.2.1 z9.1 ++ (wX cy a q q2 ca ta z9.1 hNew ++ chT cy z9.2.2.2 z9.1)))) (va_A (wX cy a q q2 ca ta uNew hNew) sz)) 140 840 (va_A (wX cy a q q2 ca ta uNew hNew) sz) := by
  refine Met.ofW (cc := cL_build) (maxL := 6) (ret := (some (.object "WedgeHarpsLaw$Sim"))) (by decide) rfl ?_
  intro p e s m args below meth c s₁ B hml hv
  obtain ⟨rfl, hsz, hP, hK, hD0, hkp, hXA, hX0, hbl, hbA⟩ := hv
  have hx := B.exec
  have hb := B.bytes
  have hr := B.returns
  have hts := atoms_spec (ws := wsL_build) B.pre
  have hown : s.vm.findClass RL = some m.cls := findClass_of_methodNamed B.named
  have hlocks := B.notSynchronized
  have hl := lv_entry ([.ref (a 0), .ref b0]) (n := 6) (Nat.le_of_ble_eq_true rfl)
  rw [lg_entry_eq]
  generalize (lg_sl ([.ref (a 0), .ref b0]) ++ List.replicate (6 - (lg_sl ([.ref (a 0), .ref b0])).length) Slot.unset).toArray = ls at hl ⊢
  have hl : lv_has ls 6 [(0, .ref (a 0)), (1, .ref b0)] := hl
  subst hsz
  have hD := hD0.self (sz := s.heap.size)
  generalize hAe : va_A (wX cy a q q2 ca ta uNew hNew) s.heap.size = A at hD hXA hbA ⊢
  have hA : ∀ q : Nat, s.heap.size ≤ q → A q := fun q h => by rw [← hAe]; exact Or.inr h
  have hS : va_S A s.heap s.heap [] := va_S.rf
  refine va_new (ci := 3) (fs := [.null, .null, .null, .null, .int 0, .int 0]) (C := RX3) (T := TX3) (N := 6) hx hb hts inL_build_RX3 tyX3 tyX3_ok hown (hts _ kL_build_0) (hts _ kL_build_1) (hts _ kL_build_2) hK hP hD hS hA rfl (fun j hj => by rcases (show j = 0 ∨ j = 1 ∨ j = 2 ∨ j = 3 ∨ j = 4 ∨ j = 5 by omega) with rfl | rfl | rfl | rfl | rfl | rfl <;> rfl) (Nat.le_of_ble_eq_true rfl) (Nat.le_of_ble_eq_true rfl) dL_build_0 (fun r0 H hP hD hS => ?_)
  have hP : va_P D vwCl ([] ++ ([(r0, .inr (3, [.null, .null, .null, .null, .int 0, .int 0]))] ++ (wX cy a q q2 ca ta uNew hNew))) H := pM_frontP hP
  have hD : va_D A ([] ++ ([(r0, .inr (3, [.null, .null, .null, .null, .int 0, .int 0]))] ++ (wX cy a q q2 ca ta uNew hNew))) := pM_frontD hD
  refine W.widen (k := 1) (n := 6) (Nat.le_of_ble_eq_true rfl) (Nat.le_of_ble_eq_true rfl) ?_
  refine lv_dup hx hb dL_build_3 rfl ?_
  have hPc := pM_P hP
  have hDc := pM_D hD
  have hFc := pM_F hD hS hA
  refine va_callv (va_runI (As := []) (rest := [.ref r0]) ⟨hx, hb, hml, hown, hts⟩ (mX3_init l D cy H.size r0) (cwI 0 hts gL_build_X3_init rfl rfl rfl (hts _ kL_build_2) (hts _ kL_build_3) (hts _ kL_build_4) rfl (by decide +kernel) ⟨Nat.le_of_ble_eq_true rfl, Nat.le_of_ble_eq_true rfl⟩) ⟨fun a U g mk q => ⟨q.1, q.2.1, q.2.2.1, va_K.moved (u := U) (U := U.calling g mk a) (Vm.Alike.refl U.vm) q.2.2.2.1, q.2.2.2.2.1, vKP.warm (U := U.calling g mk a) (State.WarmedH.refl U) q.2.2.2.2.2⟩, fun U hU hW => ⟨rfl, by rw [hU], by rw [hU]; exact hPc, va_K.moved hW.alike hK, hDc.weaken (fun _ _ _ _ => trivial), hkp.warm hW⟩⟩ rfl rfl hl.1 rfl (lv_room (Nat.le_of_ble_eq_true rfl)) dL_build_4 ⟨Nat.le_of_ble_eq_true rfl, Nat.le_of_ble_eq_true rfl⟩) hS (fun q _ h => hFc q h) hFc (fun u9 t9 H1 locs ht9 hvm9 hw9 hB9 hz9 hk9 hS => ?_)
  obtain ⟨sa, st⟩ := u9
  obtain ⟨hP1, hD1⟩ := hB9
  rw [ht9] at hP1
  obtain ⟨hP, hD⟩ := pM_J hP hD hk9 hFc hP1 hD1
  generalize H1 = H at hP hS ⊢
  clear hP1 hD1 hk9 hz9 ht9 hvm9 hPc hDc hFc
  have hP : va_P D vwCl ([] ++ ((wSu cy r0 sa st (fun _ => 0) uNew ++ (wSr cy st uNew ++ [])) ++ (wX cy a q q2 ca ta uNew hNew))) H := hP
  have hD : va_D A ([] ++ ((wSu cy r0 sa st (fun _ => 0) uNew ++ (wSr cy st uNew ++ [])) ++ (wX cy a q q2 ca ta uNew hNew))) := hD
  rw [mk_join] at hP hD
  refine W.widen (k := 17) (n := 114) (Nat.le_of_ble_eq_true rfl) (Nat.le_of_ble_eq_true rfl) ?_
  have hP : va_P D vwCl (([] : va_W) ++ (wS5 cy r0 sa st (fun _ => 0) (un uNew) (uw uNew) (ud uNew) (nI (zh (uh uNew))) (zl (uh uNew)) ++ (rows12 cy st 6 (rowS (uh uNew)) ++ (wX cy a q q2 ca ta uNew hNew ++ [])))) H := hP
  have hD : va_D A (([] : va_W) ++ (wS5 cy r0 sa st (fun _ => 0) (un uNew) (uw uNew) (ud uNew) (nI (zh (uh uNew))) (zl (uh uNew)) ++ (rows12 cy st 6 (rowS (uh uNew)) ++ (wX cy a q q2 ca ta uNew hNew ++ [])))) := hD
  refine lv_astore_n (lv' := [(2, .ref r0), (0, .ref (a 0)), (1, .ref b0)]) hx hb dL_build_7 rfl hl (by decide) rfl (fun ls hl => ?_)
  refine lv_iconst (v := 0) hx hb dL_build_8 (by decide) ?_
  refine lv_istore_n (lv' := [(3, .int 0), (2, .ref r0), (0, .ref (a 0)), (1, .ref b0)]) hx hb dL_build_9 rfl hl (by decide) rfl (fun ls hl => ?_)
  have loop10 : ∀ (n9 : Nat) (k : Nat) (u : US), k ≤ 12 → INV u → FR u k → FW u k → 12 - k < n9 → ∀ (H : Heap) (locs : List Loc), va_P D vwCl (([] : va_W) ++ (wS5 cy r0 sa st (fun _ => 0) (un u) (uw u) (ud u) (nI (zh (uh u))) (zl (uh u)) ++ (rows12 cy st 6 (rowS (uh u)) ++ (wX cy a q q2 ca ta u hNew ++ [])))) H → va_D A (([] : va_W) ++ (wS5 cy r0 sa st (fun _ => 0) (un u) (uw u) (ud u) (nI (zh (uh u))) (zl (uh u)) ++ (rows12 cy st 6 (rowS (uh u)) ++ (wX cy a q q2 ca ta u hNew ++ [])))) → va_S A s.heap H locs → ∀ ls : Array Slot, lv_has ls 6 [(0, .ref (a 0)), (1, .ref b0), (2, .ref r0), (3, .int (nI k))] → W p l e (headSpec wsL_build ({ frames := 14, cells := 140, slots := 840, locals := 400 } : Room)).room s m ([.ref (a 0), .ref b0] : List Value).toArray below meth c H locs (17 + 6 * k) (114 + 36 * k) (MQ below (va_Qr (fun (z9 : US × (Nat → Nat) × (Nat → Nat) × (Nat → Nat)) => INV z9.1 ∧ zh (uh z9.1) = 0) (fun (z9 : US × (Nat → Nat) × (Nat → Nat) × (Nat → Nat)) (a9 : Nat) t => va_P D vwCl (wSu cy a9 z9.2.1 z9.2.2.1 z9.2.2.2 z9.1 ++ (wSr cy z9.2.2.1 z9.1 ++ (wX cy a q q2 ca ta z9.1 hNew ++ chT cy z9.2.2.2 z9.1))) t.heap ∧ va_D A (wSu cy a9 z9.2.1 z9.2.2.1 z9.2.2.2 z9.1 ++ (wSr cy z9.2.2.1 z9.1 ++ (wX cy a q q2 ca ta z9.1 hNew ++ chT cy z9.2.2.2 z9.1)))) A) ([.ref (a 0), .ref b0] : List Value).toArray s 140 840 A) (F0 m 10 ls []) := by
    intro n9
    induction n9 with
    | zero => intro k u hk I F G h9 H locs hP hD hS ls hl; exact absurd h9 (by omega)
    | succ n9 ih10 =>
      intro k u hk I F G h9 H locs hP hD hS ls hl
      refine lv_iload_n hx hb dL_build_10 rfl (lv_at hl 3 rfl) ?_
      refine lv_bipush (v := 12) hx hb dL_build_11 (by decide) ?_
      refine lv_icmp_ge (tgt := 216) hx hb dL_build_13 (by decide) (fun c13 => ?_) (fun c13 => ?_)
      · have n13 : 12 ≤ k := (nI_leI (a := 12) (b := k) (by omega) (by omega)).mp c13
        have hP : va_P D vwCl (([] : va_W) ++ (wS5 cy r0 sa st (fun _ => 0) (un u) (uw u) (ud u) (nI (zh (uh u))) (zl (uh u)) ++ (rows12 cy st 6 (rowS (uh u)) ++ (wX cy a q q2 ca ta u hNew ++ chT cy (fun _ => 0) u)))) H := (by rw [← chT_nil (cy := cy) (ch := (fun _ => 0)) F.1]; exact hP)
        have hD : va_D A (([] : va_W) ++ (wS5 cy r0 sa st (fun _ => 0) (un u) (uw u) (ud u) (nI (zh (uh u))) (zl (uh u)) ++ (rows12 cy st 6 (rowS (uh u)) ++ (wX cy a q q2 ca ta u hNew ++ chT cy (fun _ => 0) u)))) := (by rw [← chT_nil (cy := cy) (ch := (fun _ => 0)) F.1]; exact hD)
        refine W.widen (k := 89) (n := 546) (by omega) (by omega) ?_
        refine lv_iconst (v := 0) hx hb dL_build_216 (by decide) ?_
        refine lv_istore_n (lv' := [(3, .int 0), (0, .ref (a 0)), (1, .ref b0), (2, .ref r0)]) hx hb dL_build_217 rfl hl (by decide) rfl (fun ls hl => ?_)
        have loop218 : ∀ (n9 : Nat) (i2 : Nat) (v : US) (s1 : Nat → Nat) (s2 : Nat → Nat) (s3 : Nat → Nat), i2 ≤ 6 → INV v → zh (uh v) = 0 → 6 - i2 < n9 → ∀ (H : Heap) (locs : List Loc), va_P D vwCl (([] : va_W) ++ (wS5 cy r0 s1 s2 s3 (un v) (uw v) (ud v) (nI (zh (uh v))) (zl (uh v)) ++ (rows12 cy s2 6 (rowS (uh v)) ++ (wX cy a q q2 ca ta v hNew ++ chT cy s3 v)))) H → va_D A (([] : va_W) ++ (wS5 cy r0 s1 s2 s3 (un v) (uw v) (ud v) (nI (zh (uh v))) (zl (uh v)) ++ (rows12 cy s2 6 (rowS (uh v)) ++ (wX cy a q q2 ca ta v hNew ++ chT cy s3 v)))) → va_S A s.heap H locs → ∀ ls : Array Slot, lv_has ls 6 [(0, .ref (a 0)), (1, .ref b0), (2, .ref r0), (3, .int (nI i2))] → W p l e (headSpec wsL_build ({ frames := 14, cells := 140, slots := 840, locals := 400 } : Room)).room s m ([.ref (a 0), .ref b0] : List Value).toArray below meth c H locs (89 + 8 * i2) (546 + 48 * i2) (MQ below (va_Qr (fun (z9 : US × (Nat → Nat) × (Nat → Nat) × (Nat → Nat)) => INV z9.1 ∧ zh (uh z9.1) = 0) (fun (z9 : US × (Nat → Nat) × (Nat → Nat) × (Nat → Nat)) (a9 : Nat) t => va_P D vwCl (wSu cy a9 z9.2.1 z9.2.2.1 z9.2.2.2 z9.1 ++ (wSr cy z9.2.2.1 z9.1 ++ (wX cy a q q2 ca ta z9.1 hNew ++ chT cy z9.2.2.2 z9.1))) t.heap ∧ va_D A (wSu cy a9 z9.2.1 z9.2.2.1 z9.2.2.2 z9.1 ++ (wSr cy z9.2.2.1 z9.1 ++ (wX cy a q q2 ca ta z9.1 hNew ++ chT cy z9.2.2.2 z9.1)))) A) ([.ref (a 0), .ref b0] : List Value).toArray s 140 840 A) (F0 m 218 ls []) := by
          intro n9
          induction n9 with
          | zero => intro i2 v s1 s2 s3 hi2 J hzv h9 H locs hP hD hS ls hl; exact absurd h9 (by omega)
          | succ n9 ih218 =>
            intro i2 v s1 s2 s3 hi2 J hzv h9 H locs hP hD hS ls hl
            refine lv_iload_n hx hb dL_build_218 rfl (lv_at hl 3 rfl) ?_
            refine lv_bipush (v := 6) hx hb dL_build_219 (by decide) ?_
            refine lv_icmp_ge (tgt := 282) hx hb dL_build_221 (by decide) (fun c221 => ?_) (fun c221 => ?_)
            · have n221 : 6 ≤ i2 := (nI_leI (a := 6) (b := i2) (by omega) (by omega)).mp c221
              refine lv_aload_n hx hb dL_build_282 rfl (lv_at hl 2 rfl) ?_
              refine W.widen (k := 140) (n := 840) (by omega) (by omega) ?_
              have hP9 : va_P D vwCl (wSu cy r0 ((v, s1, s2, s3) : US × (Nat → Nat) × (Nat → Nat) × (Nat → Nat)).2.1 ((v, s1, s2, s3) : US × (Nat → Nat) × (Nat → Nat) × (Nat → Nat)).2.2.1 ((v, s1, s2, s3) : US × (Nat → Nat) × (Nat → Nat) × (Nat → Nat)).2.2.2 ((v, s1, s2, s3) : US × (Nat → Nat) × (Nat → Nat) × (Nat → Nat)).1 ++ (wSr cy ((v, s1, s2, s3) : US × (Nat → Nat) × (Nat → Nat) × (Nat → Nat)).2.2.1 ((v, s1, s2, s3) : US × (Nat → Nat) × (Nat → Nat) × (Nat → Nat)).1 ++ (wX cy a q q2 ca ta ((v, s1, s2, s3) : US × (Nat → Nat) × (Nat → Nat) × (Nat → Nat)).1 hNew ++ chT cy ((v, s1, s2, s3) : US × (Nat → Nat) × (Nat → Nat) × (Nat → Nat)).2.2.2 ((v, s1, s2, s3) : US × (Nat → Nat) × (Nat → Nat) × (Nat → Nat)).1))) H := (pM_dropP hP)
              have hD9 : va_D A (wSu cy r0 ((v, s1, s2, s3) : US × (Nat → Nat) × (Nat → Nat) × (Nat → Nat)).2.1 ((v, s1, s2, s3) : US × (Nat → Nat) × (Nat → Nat) × (Nat → Nat)).2.2.1 ((v, s1, s2, s3) : US × (Nat → Nat) × (Nat → Nat) × (Nat → Nat)).2.2.2 ((v, s1, s2, s3) : US × (Nat → Nat) × (Nat → Nat) × (Nat → Nat)).1 ++ (wSr cy ((v, s1, s2, s3) : US × (Nat → Nat) × (Nat → Nat) × (Nat → Nat)).2.2.1 ((v, s1, s2, s3) : US × (Nat → Nat) × (Nat → Nat) × (Nat → Nat)).1 ++ (wX cy a q q2 ca ta ((v, s1, s2, s3) : US × (Nat → Nat) × (Nat → Nat) × (Nat → Nat)).1 hNew ++ chT cy ((v, s1, s2, s3) : US × (Nat → Nat) × (Nat → Nat) × (Nat → Nat)).2.2.2 ((v, s1, s2, s3) : US × (Nat → Nat) × (Nat → Nat) × (Nat → Nat)).1))) := (pM_dropD hD)
              exact W.aret hx hb hr (Or.inl ⟨_, rfl⟩) (Or.inr ⟨_, rfl⟩) (fun t ht hW => ⟨⟨((v, s1, s2, s3) : US × (Nat → Nat) × (Nat → Nat) × (Nat → Nat)), _, rfl, ⟨J, hzv⟩, by rw [ht]; exact hP9, hD9⟩, hS.F ht⟩) hS.2.2 dL_build_283
            · have n221 : ¬ (6 ≤ i2) := fun h9 => c221 ((nI_leI (a := 6) (b := i2) (by omega) (by omega)).mpr h9)
              refine lv_aload_n hx hb dL_build_224 rfl (lv_at hl 0 rfl) ?_
              refine lv_aload_n hx hb dL_build_225 rfl (lv_at hl 2 rfl) ?_
              refine lv_aload_n hx hb dL_build_226 rfl (lv_at hl 1 rfl) ?_
              refine lv_bipush (v := 7) hx hb dL_build_227 (by decide) ?_
              refine lv_iload_n hx hb dL_build_229 rfl (lv_at hl 3 rfl) ?_
              refine lv_iadd hx hb dL_build_230 ?_
              refine pc_top (show 7 + (nI i2) = nI (7 + i2) from nI_add 7 i2) ?_
              refine pc_calli (va_runS (As := [.ref b0, .int (nI (7 + i2))]) (rest := [.ref r0, .ref (a 0)]) ⟨hx, hb, hml, hown, hts⟩ (mL_cell l D cy b0 L xs (by omega) (7 + i2) (by omega)) (va_cwS 2 hts gL_build_L_cell rfl rfl rfl (by decide +kernel) ⟨Nat.le_of_ble_eq_true rfl, Nat.le_of_ble_eq_true rfl⟩) ⟨fun a U g mk q => ⟨q.1, va_X.moved (u := U) (U := U.calling g mk a) (Vm.Alike.refl U.vm) q.2.1, q.2.2⟩, fun U hU hW => ⟨rfl, by rw [hU]; exact va_X.moved hW.alike (hX0.kept (hS.2.1 b0 hbl hbA)), by rw [hU]; exact Nat.lt_of_lt_of_le hbl hS.1⟩⟩ rfl rfl hl.1 rfl (lv_room (Nat.le_of_ble_eq_true rfl)) dL_build_231 ⟨(show 89 + 8 * i2 ≤ 140 by omega), (show 546 + 48 * i2 ≤ 840 by omega)⟩) (fun r9 hr9 => ?_)
              clear hr9
              obtain ⟨w231, rfl⟩ : ∃ z, z = r9 := ⟨_, rfl⟩
              refine lv_sipush (v := 255) hx hb dL_build_234 (by decide) ?_
              refine lv_iand hx hb dL_build_237 ?_
              refine lv_sipush (v := 1024) hx hb dL_build_238 (by decide) ?_
              refine lv_iadd hx hb dL_build_241 ?_
              refine lv_aload_n hx hb dL_build_242 rfl (lv_at hl 1 rfl) ?_
              refine lv_bipush (v := 7) hx hb dL_build_243 (by decide) ?_
              refine lv_iload_n hx hb dL_build_245 rfl (lv_at hl 3 rfl) ?_
              refine lv_iadd hx hb dL_build_246 ?_
              refine pc_top (show 7 + (nI i2) = nI (7 + i2) from nI_add 7 i2) ?_
              refine pc_calli (va_runS (As := [.ref b0, .int (nI (7 + i2))]) (rest := [.int ((w231 &&& 255) + 1024), .ref r0, .ref (a 0)]) ⟨hx, hb, hml, hown, hts⟩ (mL_cell l D cy b0 L xs (by omega) (7 + i2) (by omega)) (va_cwS 2 hts gL_build_L_cell rfl rfl rfl (by decide +kernel) ⟨Nat.le_of_ble_eq_true rfl, Nat.le_of_ble_eq_true rfl⟩) ⟨fun a U g mk q => ⟨q.1, va_X.moved (u := U) (U := U.calling g mk a) (Vm.Alike.refl U.vm) q.2.1, q.2.2⟩, fun U hU hW => ⟨rfl, by rw [hU]; exact va_X.moved hW.alike (hX0.kept (hS.2.1 b0 hbl hbA)), by rw [hU]; exact Nat.lt_of_lt_of_le hbl hS.1⟩⟩ rfl rfl hl.1 rfl (lv_room (Nat.le_of_ble_eq_true rfl)) dL_build_247 ⟨(show 89 + 8 * i2 ≤ 140 by omega), (show 546 + 48 * i2 ≤ 840 by omega)⟩) (fun r9 hr9 => ?_)
              clear hr9
              obtain ⟨w247, rfl⟩ : ∃ z, z = r9 := ⟨_, rfl⟩
              refine lv_bipush (v := 8) hx hb dL_build_250 (by decide) ?_
              refine lv_ishr hx hb dL_build_252 ?_
              refine lv_iconst (v := 2) hx hb dL_build_253 (by decide) ?_
              refine pc_calli (va_runS (As := [.int (w247 >>> (8 &&& 31)), .int 2]) (rest := [.int ((w231 &&& 255) + 1024), .ref r0, .ref (a 0)]) ⟨hx, hb, hml, hown, hts⟩ (mL_below l D cy (w247 >>> (8 &&& 31)) 2 (by decide) (by decide)) (va_cwS 2 hts gL_build_L_below rfl rfl rfl (by decide +kernel) ⟨Nat.le_of_ble_eq_true rfl, Nat.le_of_ble_eq_true rfl⟩) ⟨fun a U g mk q => q, fun U hU hW => ⟨rfl, trivial⟩⟩ rfl rfl hl.1 rfl (lv_room (Nat.le_of_ble_eq_true rfl)) dL_build_254 ⟨(show 89 + 8 * i2 ≤ 140 by omega), (show 546 + 48 * i2 ≤ 840 by omega)⟩) (fun r9 hr9 => ?_)
              obtain ⟨k254, hk254, rfl⟩ := hr9
              refine lv_if_ne (tgt := 266) hx hb dL_build_257 (by decide) (fun c257 => ?_) (fun c257 => ?_)
              · have n257 : ¬ (k254 = 0) := fun h9 => c257 ((nI_eq (a := k254) (b := 0) (by omega) (by omega)).mpr h9)
                refine lv_iconst (v := 0) hx hb dL_build_266 (by decide) ?_
                refine lv_iadd hx hb dL_build_267 ?_
                refine act_call (xv := ((w231 &&& 255) + 1024) + 0) (rest := []) hst J hP hD hS hA hK hkp hXA ⟨hx, hb, hml, hown, hts⟩ (va_cwS 3 hts gL_build_L_act rfl rfl rfl (by decide +kernel) ⟨Nat.le_of_ble_eq_true rfl, Nat.le_of_ble_eq_true rfl⟩) rfl hl.1 (Nat.le_of_ble_eq_true rfl) dL_build_268 ⟨(show 89 + 8 * i2 + 8 ≤ 140 by omega), (show 546 + 48 * i2 + 48 ≤ 840 by omega)⟩ (fun v1 sa1 st1 ch1 H locs J1 hz1 hP hD hS => ?_)
                have hP : va_P D vwCl (([] : va_W) ++ (wS5 cy r0 sa1 st1 ch1 (un v1) (uw v1) (ud v1) (nI (zh (uh v1))) (zl (uh v1)) ++ (rows12 cy st1 6 (rowS (uh v1)) ++ (wX cy a q q2 ca ta v1 hNew ++ chT cy ch1 v1)))) H := hP
                have hD : va_D A (([] : va_W) ++ (wS5 cy r0 sa1 st1 ch1 (un v1) (uw v1) (ud v1) (nI (zh (uh v1))) (zl (uh v1)) ++ (rows12 cy st1 6 (rowS (uh v1)) ++ (wX cy a q q2 ca ta v1 hNew ++ chT cy ch1 v1)))) := hD
                refine lv_if_ne (tgt := 276) hx hb dL_build_271 (by decide) (fun c271 => ?_) (fun c271 => absurd c271 (by decide))
                have n271 : ¬ (1 = 0) := fun h9 => c271 ((nI_eq (a := 1) (b := 0) (by omega) (by omega)).mpr h9)
                refine lv_iinc (v := nI (i2 + 1)) (lv' := [(3, .int (nI (i2 + 1))), (0, .ref (a 0)), (1, .ref b0), (2, .ref r0)]) hx hb dL_build_276 hl (k := 3) rfl ((show (nI i2) + Int32.ofInt 1 = (nI i2) + 1 from rfl).trans (show (nI i2) + 1 = nI (i2 + 1) from nI_add i2 1)) (by decide) rfl (fun ls hl => ?_)
                refine lv_goto (tgt := 218) hx hb dL_build_279 (by decide) ?_
                refine W.widen (k := 89 + 8 * (i2 + 1)) (n := 546 + 48 * (i2 + 1)) (by omega) (by omega) ?_
                exact ih218 (i2 + 1) v1 sa1 st1 ch1 (by omega) J1 (hz1.trans hzv) (by omega) _ _ hP hD hS ls (lv_sub hl [1, 2, 3, 0] rfl)
              · have n257 : k254 = 0 := (nI_eq (a := k254) (b := 0) (by omega) (by omega)).mp c257
                refine lv_sipush (v := 256) hx hb dL_build_260 (by decide) ?_
                refine lv_goto (tgt := 267) hx hb dL_build_263 (by decide) ?_
                refine lv_iadd hx hb dL_build_267 ?_
                refine act_call (xv := ((w231 &&& 255) + 1024) + 256) (rest := []) hst J hP hD hS hA hK hkp hXA ⟨hx, hb, hml, hown, hts⟩ (va_cwS 3 hts gL_build_L_act rfl rfl rfl (by decide +kernel) ⟨Nat.le_of_ble_eq_true rfl, Nat.le_of_ble_eq_true rfl⟩) rfl hl.1 (Nat.le_of_ble_eq_true rfl) dL_build_268 ⟨(show 89 + 8 * i2 + 8 ≤ 140 by omega), (show 546 + 48 * i2 + 48 ≤ 840 by omega)⟩ (fun v1 sa1 st1 ch1 H locs J1 hz1 hP hD hS => ?_)
                have hP : va_P D vwCl (([] : va_W) ++ (wS5 cy r0 sa1 st1 ch1 (un v1) (uw v1) (ud v1) (nI (zh (uh v1))) (zl (uh v1)) ++ (rows12 cy st1 6 (rowS (uh v1)) ++ (wX cy a q q2 ca ta v1 hNew ++ chT cy ch1 v1)))) H := hP
                have hD : va_D A (([] : va_W) ++ (wS5 cy r0 sa1 st1 ch1 (un v1) (uw v1) (ud v1) (nI (zh (uh v1))) (zl (uh v1)) ++ (rows12 cy st1 6 (rowS (uh v1)) ++ (wX cy a q q2 ca ta v1 hNew ++ chT cy ch1 v1)))) := hD
                refine lv_if_ne (tgt := 276) hx hb dL_build_271 (by decide) (fun c271 => ?_) (fun c271 => absurd c271 (by decide))
                have n271 : ¬ (1 = 0) := fun h9 => c271 ((nI_eq (a := 1) (b := 0) (by omega) (by omega)).mpr h9)
                refine lv_iinc (v := nI (i2 + 1)) (lv' := [(3, .int (nI (i2 + 1))), (0, .ref (a 0)), (1, .ref b0), (2, .ref r0)]) hx hb dL_build_276 hl (k := 3) rfl ((show (nI i2) + Int32.ofInt 1 = (nI i2) + 1 from rfl).trans (show (nI i2) + 1 = nI (i2 + 1) from nI_add i2 1)) (by decide) rfl (fun ls hl => ?_)
                refine lv_goto (tgt := 218) hx hb dL_build_279 (by decide) ?_
                refine W.widen (k := 89 + 8 * (i2 + 1)) (n := 546 + 48 * (i2 + 1)) (by omega) (by omega) ?_
                exact ih218 (i2 + 1) v1 sa1 st1 ch1 (by omega) J1 (hz1.trans hzv) (by omega) _ _ hP hD hS ls (lv_sub hl [1, 2, 3, 0] rfl)
        refine W.widen (k := 89 + 8 * 0) (n := 546 + 48 * 0) (by omega) (by omega) ?_
        exact loop218 (6 + 1) 0 u sa st (fun _ => 0) (by decide) I F.2.1 (by omega) _ _ hP hD hS ls (lv_sub hl [1, 2, 3, 0] rfl)
      · have n13 : ¬ (12 ≤ k) := fun h9 => c13 ((nI_leI (a := 12) (b := k) (by omega) (by omega)).mpr h9)
        have ixk : ix (nI k) = k := ix_nI (by omega)
        refine lv_aload_n hx hb dL_build_16 rfl (lv_at hl 2 rfl) ?_
        refine va_get (D := D) (ci := 3) (v := .ref (sa 2)) (C := RX3) (T := TX3) (N := 6) hx hb hts inL_build_RX3 hown hK hP 0 rfl rfl 2 (by decide) (hts _ kL_build_5) (fun _ h9 => h9) rfl dL_build_17 ?_
        refine lv_iload_n hx hb dL_build_20 rfl (lv_at hl 3 rfl) ?_
        refine lv_aload_n hx hb dL_build_21 rfl (lv_at hl 1 rfl) ?_
        refine lv_iconst (v := 0) hx hb dL_build_22 (by decide) ?_
        refine pc_calli (va_runS (As := [.ref b0, .int 0]) (rest := [.int (nI k), .ref (sa 2)]) ⟨hx, hb, hml, hown, hts⟩ (mL_cell l D cy b0 L xs (by omega) (0) (by omega)) (va_cwS 2 hts gL_build_L_cell rfl rfl rfl (by decide +kernel) ⟨Nat.le_of_ble_eq_true rfl, Nat.le_of_ble_eq_true rfl⟩) ⟨fun a U g mk q => ⟨q.1, va_X.moved (u := U) (U := U.calling g mk a) (Vm.Alike.refl U.vm) q.2.1, q.2.2⟩, fun U hU hW => ⟨rfl, by rw [hU]; exact va_X.moved hW.alike (hX0.kept (hS.2.1 b0 hbl hbA)), by rw [hU]; exact Nat.lt_of_lt_of_le hbl hS.1⟩⟩ rfl rfl hl.1 rfl (lv_room (Nat.le_of_ble_eq_true rfl)) dL_build_23 ⟨(show 17 + 6 * k ≤ 140 by omega), (show 114 + 36 * k ≤ 840 by omega)⟩) (fun r9 hr9 => ?_)
        clear hr9
        obtain ⟨w23, rfl⟩ : ∃ z, z = r9 := ⟨_, rfl⟩
        refine lv_iload_n hx hb dL_build_26 rfl (lv_at hl 3 rfl) ?_
        refine lv_ishr hx hb dL_build_27 ?_
        refine lv_aload_n hx hb dL_build_28 rfl (lv_at hl 1 rfl) ?_
        refine lv_iconst (v := 1) hx hb dL_build_29 (by decide) ?_
        refine pc_calli (va_runS (As := [.ref b0, .int 1]) (rest := [.int (w23 >>> ((nI k) &&& 31)), .int (nI k), .ref (sa 2)]) ⟨hx, hb, hml, hown, hts⟩ (mL_cell l D cy b0 L xs (by omega) (1) (by omega)) (va_cwS 2 hts gL_build_L_cell rfl rfl rfl (by decide +kernel) ⟨Nat.le_of_ble_eq_true rfl, Nat.le_of_ble_eq_true rfl⟩) ⟨fun a U g mk q => ⟨q.1, va_X.moved (u := U) (U := U.calling g mk a) (Vm.Alike.refl U.vm) q.2.1, q.2.2⟩, fun U hU hW => ⟨rfl, by rw [hU]; exact va_X.moved hW.alike (hX0.kept (hS.2.1 b0 hbl hbA)), by rw [hU]; exact Nat.lt_of_lt_of_le hbl hS.1⟩⟩ rfl rfl hl.1 rfl (lv_room (Nat.le_of_ble_eq_true rfl)) dL_build_30 ⟨(show 17 + 6 * k ≤ 140 by omega), (show 114 + 36 * k ≤ 840 by omega)⟩) (fun r9 hr9 => ?_)
        clear hr9
        obtain ⟨w30, rfl⟩ : ∃ z, z = r9 := ⟨_, rfl⟩
        refine lv_iload_n hx hb dL_build_33 rfl (lv_at hl 3 rfl) ?_
        refine lv_ishr hx hb dL_build_34 ?_
        refine lv_iconst (v := 3) hx hb dL_build_35 (by decide) ?_
        refine pc_calli (va_runS (As := [.int (w30 >>> ((nI k) &&& 31)), .int 3]) (rest := [.int (w23 >>> ((nI k) &&& 31)), .int (nI k), .ref (sa 2)]) ⟨hx, hb, hml, hown, hts⟩ (mL_below l D cy (w30 >>> ((nI k) &&& 31)) 3 (by decide) (by decide)) (va_cwS 2 hts gL_build_L_below rfl rfl rfl (by decide +kernel) ⟨Nat.le_of_ble_eq_true rfl, Nat.le_of_ble_eq_true rfl⟩) ⟨fun a U g mk q => q, fun U hU hW => ⟨rfl, trivial⟩⟩ rfl rfl hl.1 rfl (lv_room (Nat.le_of_ble_eq_true rfl)) dL_build_36 ⟨(show 17 + 6 * k ≤ 140 by omega), (show 114 + 36 * k ≤ 840 by omega)⟩) (fun r9 hr9 => ?_)
        obtain ⟨k36, hk36, rfl⟩ := hr9
        refine lv_if_ne (tgt := 47) hx hb dL_build_39 (by decide) (fun c39 => ?_) (fun c39 => ?_)
        · have n39 : ¬ (k36 = 0) := fun h9 => c39 ((nI_eq (a := k36) (b := 0) (by omega) (by omega)).mpr h9)
          refine lv_bipush (v := 9) hx hb dL_build_47 (by decide) ?_
          refine pc_calli (va_runS (As := [.int (w23 >>> ((nI k) &&& 31)), .int 9]) (rest := [.int (nI k), .ref (sa 2)]) ⟨hx, hb, hml, hown, hts⟩ (mL_below l D cy (w23 >>> ((nI k) &&& 31)) 9 (by decide) (by decide)) (va_cwS 2 hts gL_build_L_below rfl rfl rfl (by decide +kernel) ⟨Nat.le_of_ble_eq_true rfl, Nat.le_of_ble_eq_true rfl⟩) ⟨fun a U g mk q => q, fun U hU hW => ⟨rfl, trivial⟩⟩ rfl rfl hl.1 rfl (lv_room (Nat.le_of_ble_eq_true rfl)) dL_build_49 ⟨(show 17 + 6 * k ≤ 140 by omega), (show 114 + 36 * k ≤ 840 by omega)⟩) (fun r9 hr9 => ?_)
          obtain ⟨k49, hk49, rfl⟩ := hr9
          refine pc_iast hx hb hK hP hD hS 3 0 rfl rfl (k := k) (show k < 12 by omega) (by decide) dL_build_52 (fun H locs hP hD hS => ?_)
          have hP : va_P D vwCl (([] : va_W) ++ (wS5 cy r0 sa st (fun _ => 0) (un u) (upd (uw u) k (nI k49)) (ud u) (nI (zh (uh u))) (zl (uh u)) ++ (rows12 cy st 6 (rowS (uh u)) ++ (wX cy a q q2 ca ta u hNew ++ [])))) H := hP
          have hD : va_D A (([] : va_W) ++ (wS5 cy r0 sa st (fun _ => 0) (un u) (upd (uw u) k (nI k49)) (ud u) (nI (zh (uh u))) (zl (uh u)) ++ (rows12 cy st 6 (rowS (uh u)) ++ (wX cy a q q2 ca ta u hNew ++ [])))) := hD
          refine lv_aload_n hx hb dL_build_53 rfl (lv_at hl 2 rfl) ?_
          refine va_get (D := D) (ci := 3) (v := .ref (sa 3)) (C := RX3) (T := TX3) (N := 6) hx hb hts inL_build_RX3 hown hK hP 0 rfl rfl 3 (by decide) (hts _ kL_build_6) (fun _ h9 => h9) rfl dL_build_54 ?_
          refine lv_iload_n hx hb dL_build_57 rfl (lv_at hl 3 rfl) ?_
          refine lv_aload_n hx hb dL_build_58 rfl (lv_at hl 1 rfl) ?_
          refine lv_iconst (v := 2) hx hb dL_build_59 (by decide) ?_
          refine pc_calli (va_runS (As := [.ref b0, .int 2]) (rest := [.int (nI k), .ref (sa 3)]) ⟨hx, hb, hml, hown, hts⟩ (mL_cell l D cy b0 L xs (by omega) (2) (by omega)) (va_cwS 2 hts gL_build_L_cell rfl rfl rfl (by decide +kernel) ⟨Nat.le_of_ble_eq_true rfl, Nat.le_of_ble_eq_true rfl⟩) ⟨fun a U g mk q => ⟨q.1, va_X.moved (u := U) (U := U.calling g mk a) (Vm.Alike.refl U.vm) q.2.1, q.2.2⟩, fun U hU hW => ⟨rfl, by rw [hU]; exact va_X.moved hW.alike (hX0.kept (hS.2.1 b0 hbl hbA)), by rw [hU]; exact Nat.lt_of_lt_of_le hbl hS.1⟩⟩ rfl rfl hl.1 rfl (lv_room (Nat.le_of_ble_eq_true rfl)) dL_build_60 ⟨(show 17 + 6 * k ≤ 140 by omega), (show 114 + 36 * k ≤ 840 by omega)⟩) (fun r9 hr9 => ?_)
          clear hr9
          obtain ⟨w60, rfl⟩ : ∃ z, z = r9 := ⟨_, rfl⟩
          refine lv_iload_n hx hb dL_build_63 rfl (lv_at hl 3 rfl) ?_
          refine lv_ishr hx hb dL_build_64 ?_
          refine lv_bipush (v := 10) hx hb dL_build_65 (by decide) ?_
          refine pc_calli (va_runS (As := [.int (w60 >>> ((nI k) &&& 31)), .int 10]) (rest := [.int (nI k), .ref (sa 3)]) ⟨hx, hb, hml, hown, hts⟩ (mL_below l D cy (w60 >>> ((nI k) &&& 31)) 10 (by decide) (by decide)) (va_cwS 2 hts gL_build_L_below rfl rfl rfl (by decide +kernel) ⟨Nat.le_of_ble_eq_true rfl, Nat.le_of_ble_eq_true rfl⟩) ⟨fun a U g mk q => q, fun U hU hW => ⟨rfl, trivial⟩⟩ rfl rfl hl.1 rfl (lv_room (Nat.le_of_ble_eq_true rfl)) dL_build_67 ⟨(show 17 + 6 * k ≤ 140 by omega), (show 114 + 36 * k ≤ 840 by omega)⟩) (fun r9 hr9 => ?_)
          obtain ⟨k67, hk67, rfl⟩ := hr9
          refine pc_iast hx hb hK hP hD hS 4 0 rfl rfl (k := k) (show k < 12 by omega) (by decide) dL_build_70 (fun H locs hP hD hS => ?_)
          have hP : va_P D vwCl (([] : va_W) ++ (wS5 cy r0 sa st (fun _ => 0) (un u) (upd (uw u) k (nI k49)) (upd (ud u) k (nI k67)) (nI (zh (uh u))) (zl (uh u)) ++ (rows12 cy st 6 (rowS (uh u)) ++ (wX cy a q q2 ca ta u hNew ++ [])))) H := hP
          have hD : va_D A (([] : va_W) ++ (wS5 cy r0 sa st (fun _ => 0) (un u) (upd (uw u) k (nI k49)) (upd (ud u) k (nI k67)) (nI (zh (uh u))) (zl (uh u)) ++ (rows12 cy st 6 (rowS (uh u)) ++ (wX cy a q q2 ca ta u hNew ++ [])))) := hD
          refine lv_aload_n hx hb dL_build_71 rfl (lv_at hl 0 rfl) ?_
          refine lv_iload_n hx hb dL_build_72 rfl (lv_at hl 3 rfl) ?_
          refine lv_aload_n hx hb dL_build_73 rfl (lv_at hl 2 rfl) ?_
          refine va_get (D := D) (ci := 3) (v := .ref (sa 2)) (C := RX3) (T := TX3) (N := 6) hx hb hts inL_build_RX3 hown hK hP 0 rfl rfl 2 (by decide) (hts _ kL_build_5) (fun _ h9 => h9) rfl dL_build_74 ?_
          refine lv_iload_n hx hb dL_build_77 rfl (lv_at hl 3 rfl) ?_
          refine pc_iald hx hb hK hP 3 0 rfl rfl (k := k) (show k < 12 by omega) (by decide) dL_build_78 ?_
          refine pc_top (show (upd (uw u) k (nI k49)) k = nI k49 from pk_us) ?_
          refine lv_aload_n hx hb dL_build_79 rfl (lv_at hl 2 rfl) ?_
          refine va_get (D := D) (ci := 3) (v := .ref (sa 3)) (C := RX3) (T := TX3) (N := 6) hx hb hts inL_build_RX3 hown hK hP 0 rfl rfl 3 (by decide) (hts _ kL_build_6) (fun _ h9 => h9) rfl dL_build_80 ?_
          refine lv_iload_n hx hb dL_build_83 rfl (lv_at hl 3 rfl) ?_
          refine pc_iald hx hb hK hP 4 0 rfl rfl (k := k) (show k < 12 by omega) (by decide) dL_build_84 ?_
          refine pc_top (show (upd (ud u) k (nI k67)) k = nI k67 from pk_us) ?_
          refine cls_w (Lc := ([] : va_W)) (S5 := wS5 cy r0 sa st (fun _ => 0) (un u) (upd (uw u) k (nI k49)) (upd (ud u) k (nI k67)) (nI (zh (uh u))) (zl (uh u))) (S12 := rows12 cy st 6 (rowS (uh u))) (T := []) (As := [.int (nI k), .int (nI k49), .int (nI k67)]) (rest := []) (uf := fun (_ : Unit) => uWea u (ix (nI k)) (nI k49) (nI k67)) (gf := fun (_ : Unit) => hNew) hP hD hS hA hK hXA ⟨hx, hb, hml, hown, hts⟩ (mX2_setWeather l hst D cy H.size a q q2 ca ta u hNew I.1 (nI k) (nI k49) (nI k67)) (fun E h => h.2 (exWea_0 (by omega) (by omega) hk67)) (cwV 3 hts gL_build_X2_setWeather rfl rfl rfl (by decide +kernel) ⟨Nat.le_of_ble_eq_true rfl, Nat.le_of_ble_eq_true rfl⟩) rfl rfl hl.1 (Nat.le_of_ble_eq_true rfl) dL_build_85 ⟨(show 17 + 6 * k + 1 ≤ 140 by omega), (show 114 + 36 * k + 6 ≤ 840 by omega)⟩ (fun _ H locs hP hD hS => ?_)
          have hP : va_P D vwCl (([] : va_W) ++ (wS5 cy r0 sa st (fun _ => 0) (un u) (upd (uw u) k (nI k49)) (upd (ud u) k (nI k67)) (nI (zh (uh u))) (zl (uh u)) ++ (rows12 cy st 6 (rowS (uh u)) ++ (wX cy a q q2 ca ta (uWea u (ix (nI k)) (nI k49) (nI k67)) hNew ++ [])))) H := hP
          have hD : va_D A (([] : va_W) ++ (wS5 cy r0 sa st (fun _ => 0) (un u) (upd (uw u) k (nI k49)) (upd (ud u) k (nI k67)) (nI (zh (uh u))) (zl (uh u)) ++ (rows12 cy st 6 (rowS (uh u)) ++ (wX cy a q q2 ca ta (uWea u (ix (nI k)) (nI k49) (nI k67)) hNew ++ [])))) := hD
          rw [ixk] at hP hD
          have hP : va_P D vwCl (([] : va_W) ++ (wS5 cy r0 sa st (fun _ => 0) (un u) (upd (uw u) k (nI k49)) (upd (ud u) k (nI k67)) (nI (zh (uh u))) (zl (uh u)) ++ (rows12 cy st 6 (rowS (uh u)) ++ (wX cy a q q2 ca ta (uWea u k (nI k49) (nI k67)) hNew ++ [])))) H := hP
          have hD : va_D A (([] : va_W) ++ (wS5 cy r0 sa st (fun _ => 0) (un u) (upd (uw u) k (nI k49)) (upd (ud u) k (nI k67)) (nI (zh (uh u))) (zl (uh u)) ++ (rows12 cy st 6 (rowS (uh u)) ++ (wX cy a q q2 ca ta (uWea u k (nI k49) (nI k67)) hNew ++ [])))) := hD
          refine pc_top (show wea u (ix (nI k)) = wea u k from (by rw [ixk])) ?_
          refine pc_top (show wea u k = 0 from (FW_wea0 G (by omega))) ?_
          have hP : va_P D vwCl (([] : va_W) ++ (wS5 cy r0 sa st (fun _ => 0) (un (uWea u k (nI k49) (nI k67))) (uw (uWea u k (nI k49) (nI k67))) (ud (uWea u k (nI k49) (nI k67))) (nI (zh (uh (uWea u k (nI k49) (nI k67))))) (zl (uh (uWea u k (nI k49) (nI k67)))) ++ (rows12 cy st 6 (rowS (uh (uWea u k (nI k49) (nI k67)))) ++ (wX cy a q q2 ca ta (uWea u k (nI k49) (nI k67)) hNew ++ [])))) H := hP
          have hD : va_D A (([] : va_W) ++ (wS5 cy r0 sa st (fun _ => 0) (un (uWea u k (nI k49) (nI k67))) (uw (uWea u k (nI k49) (nI k67))) (ud (uWea u k (nI k49) (nI k67))) (nI (zh (uh (uWea u k (nI k49) (nI k67))))) (zl (uh (uWea u k (nI k49) (nI k67)))) ++ (rows12 cy st 6 (rowS (uh (uWea u k (nI k49) (nI k67)))) ++ (wX cy a q q2 ca ta (uWea u k (nI k49) (nI k67)) hNew ++ [])))) := hD
          have I1 : INV (uWea u k (nI k49) (nI k67)) := INV_wea I (by omega) hk67
          have F1 : FR (uWea u k (nI k49) (nI k67)) k := F
          have G1 : FW (uWea u k (nI k49) (nI k67)) (k + 1) := FW_wea G
          generalize hu1 : (uWea u k (nI k49) (nI k67) : US) = u1 at hP hD I1 F1 G1
          have hP : va_P D vwCl (([] : va_W) ++ (wS5 cy r0 sa st (fun _ => 0) (un u1) (uw u1) (ud u1) (nI (zh (uh u1))) (zl (uh u1)) ++ (rows12 cy st 6 (rowS (uh u1)) ++ (wX cy a q q2 ca ta u1 hNew ++ [])))) H := hP
          have hD : va_D A (([] : va_W) ++ (wS5 cy r0 sa st (fun _ => 0) (un u1) (uw u1) (ud u1) (nI (zh (uh u1))) (zl (uh u1)) ++ (rows12 cy st 6 (rowS (uh u1)) ++ (wX cy a q q2 ca ta u1 hNew ++ [])))) := hD
          refine lv_if_eq (tgt := 93) hx hb dL_build_88 (by decide) (fun c88 => ?_) (fun c88 => absurd c88 (not_not_intro rfl))
          have n88 : 0 = 0 := (nI_eq (a := 0) (b := 0) (by omega) (by omega)).mp c88
          refine lv_aload_n hx hb dL_build_93 rfl (lv_at hl 1 rfl) ?_
          refine lv_iconst (v := 3) hx hb dL_build_94 (by decide) ?_
          refine lv_iload_n hx hb dL_build_95 rfl (lv_at hl 3 rfl) ?_
          refine lv_iconst (v := 4) hx hb dL_build_96 (by decide) ?_
          refine lv_irem hx hb dL_build_97 (by decide) ?_
          refine pc_top (show (nI k) - (nI k) / 4 * 4 = nI (k % 4) from (pk_rem (by omega) (by decide) (by decide))) ?_
          refine lv_iadd hx hb dL_build_98 ?_
          refine pc_top (show 3 + (nI (k % 4)) = nI (3 + k % 4) from nI_add 3 (k % 4)) ?_
          refine pc_calli (va_runS (As := [.ref b0, .int (nI (3 + k % 4))]) (rest := []) ⟨hx, hb, hml, hown, hts⟩ (mL_cell l D cy b0 L xs (by omega) (3 + k % 4) (by omega)) (va_cwS 2 hts gL_build_L_cell rfl rfl rfl (by decide +kernel) ⟨Nat.le_of_ble_eq_true rfl, Nat.le_of_ble_eq_true rfl⟩) ⟨fun a U g mk q => ⟨q.1, va_X.moved (u := U) (U := U.calling g mk a) (Vm.Alike.refl U.vm) q.2.1, q.2.2⟩, fun U hU hW => ⟨rfl, by rw [hU]; exact va_X.moved hW.alike (hX0.kept (hS.2.1 b0 hbl hbA)), by rw [hU]; exact Nat.lt_of_lt_of_le hbl hS.1⟩⟩ rfl rfl hl.1 rfl (lv_room (Nat.le_of_ble_eq_true rfl)) dL_build_99 ⟨(show 17 + 6 * k + 1 ≤ 140 by omega), (show 114 + 36 * k + 6 ≤ 840 by omega)⟩) (fun r9 hr9 => ?_)
          clear hr9
          obtain ⟨w99, rfl⟩ : ∃ z, z = r9 := ⟨_, rfl⟩
          refine lv_iload_n hx hb dL_build_102 rfl (lv_at hl 3 rfl) ?_
          refine lv_ishr hx hb dL_build_103 ?_
          refine lv_bipush (v := 19) hx hb dL_build_104 (by decide) ?_
          refine lv_iload_n hx hb dL_build_106 rfl (lv_at hl 3 rfl) ?_
          refine lv_imul hx hb dL_build_107 ?_
          refine pc_top (show 19 * (nI k) = nI (19 * k) from pk_mul 19 k) ?_
          refine lv_iadd hx hb dL_build_108 ?_
          refine lv_istore (lv' := [(4, .int ((w99 >>> ((nI k) &&& 31)) + (nI (19 * k)))), (0, .ref (a 0)), (1, .ref b0), (2, .ref r0), (3, .int (nI k))]) hx hb dL_build_109 hl (by decide) rfl (fun ls hl => ?_)
          refine lv_iload hx hb dL_build_111 (lv_at hl 0 rfl) ?_
          refine lv_iconst (v := 3) hx hb dL_build_113 (by decide) ?_
          refine pc_calli (va_runS (As := [.int ((w99 >>> ((nI k) &&& 31)) + (nI (19 * k))), .int 3]) (rest := []) ⟨hx, hb, hml, hown, hts⟩ (mL_below l D cy ((w99 >>> ((nI k) &&& 31)) + (nI (19 * k))) 3 (by decide) (by decide)) (va_cwS 2 hts gL_build_L_below rfl rfl rfl (by decide +kernel) ⟨Nat.le_of_ble_eq_true rfl, Nat.le_of_ble_eq_true rfl⟩) ⟨fun a U g mk q => q, fun U hU hW => ⟨rfl, trivial⟩⟩ rfl rfl hl.1 rfl (lv_room (Nat.le_of_ble_eq_true rfl)) dL_build_114 ⟨(show 17 + 6 * k + 1 ≤ 140 by omega), (show 114 + 36 * k + 6 ≤ 840 by omega)⟩) (fun r9 hr9 => ?_)
          obtain ⟨k114, hk114, rfl⟩ := hr9
          refine lv_if_le (tgt := 164) hx hb dL_build_117 (by decide) (fun c117 => ?_) (fun c117 => ?_)
          · have n117 : k114 ≤ 0 := (nI_leI (a := k114) (b := 0) (by omega) (by omega)).mp c117
            refine lv_iload hx hb dL_build_164 (lv_at hl 0 rfl) ?_
            refine lv_iconst (v := 3) hx hb dL_build_166 (by decide) ?_
            refine lv_ishr hx hb dL_build_167 ?_
            refine lv_bipush (v := 21) hx hb dL_build_168 (by decide) ?_
            refine pc_calli (va_runS (As := [.int (((w99 >>> ((nI k) &&& 31)) + (nI (19 * k))) >>> (3 &&& 31)), .int 21]) (rest := []) ⟨hx, hb, hml, hown, hts⟩ (mL_below l D cy (((w99 >>> ((nI k) &&& 31)) + (nI (19 * k))) >>> (3 &&& 31)) 21 (by decide) (by decide)) (va_cwS 2 hts gL_build_L_below rfl rfl rfl (by decide +kernel) ⟨Nat.le_of_ble_eq_true rfl, Nat.le_of_ble_eq_true rfl⟩) ⟨fun a U g mk q => q, fun U hU hW => ⟨rfl, trivial⟩⟩ rfl rfl hl.1 rfl (lv_room (Nat.le_of_ble_eq_true rfl)) dL_build_170 ⟨(show 17 + 6 * k + 1 ≤ 140 by omega), (show 114 + 36 * k + 6 ≤ 840 by omega)⟩) (fun r9 hr9 => ?_)
            obtain ⟨k170, hk170, rfl⟩ := hr9
            refine lv_istore (lv' := [(5, .int (nI k170)), (4, .int ((w99 >>> ((nI k) &&& 31)) + (nI (19 * k)))), (0, .ref (a 0)), (1, .ref b0), (2, .ref r0), (3, .int (nI k))]) hx hb dL_build_173 hl (by decide) rfl (fun ls hl => ?_)
            refine lv_iload hx hb dL_build_175 (lv_at hl 0 rfl) ?_
            refine lv_if_ne (tgt := 183) hx hb dL_build_177 (by decide) (fun c177 => ?_) (fun c177 => ?_)
            · have n177 : ¬ (k170 = 0) := fun h9 => c177 ((nI_eq (a := k170) (b := 0) (by omega) (by omega)).mpr h9)
              obtain ⟨e1, e2, e3, e4⟩ := F1.2.2 k (Nat.le_refl _) (by omega)
              refine lv_aload_n hx hb dL_build_183 rfl (lv_at hl 4 rfl) ?_
              refine va_get (D := D) (ci := 3) (v := .ref (sa 0)) (C := RX3) (T := TX3) (N := 6) hx hb hts inL_build_RX3 hown hK hP 0 rfl rfl 0 (by decide) (hts _ kL_build_7) (fun _ h9 => h9) rfl dL_build_184 ?_
              refine lv_iload_n hx hb dL_build_187 rfl (lv_at hl 5 rfl) ?_
              refine pc_aldA hx hb hkp hP 1 rfl (k := k) (show k < 12 by omega) (by decide) (v := st k) rfl dL_build_188 ?_
              refine lv_iconst (v := 1) hx hb dL_build_189 (by decide) ?_
              refine lv_iload hx hb dL_build_190 (lv_at hl 0 rfl) ?_
              refine row_astS hx hb hK hP hD hS (k := k) (j := 1) (show k < 12 by omega) (show 1 < 6 by omega) (by decide) dL_build_192 (fun H locs hP hD hS => ?_)
              have hP : va_P D vwCl (([] : va_W) ++ (wS5 cy r0 sa st (fun _ => 0) (un u1) (uw u1) (ud u1) (nI (zh (uh u1))) (zl (uh u1)) ++ (rows12 cy st 6 (rset (rowS (uh u1)) k 1 (nI k170)) ++ (wX cy a q q2 ca ta u1 hNew ++ [])))) H := hP
              have hD : va_D A (([] : va_W) ++ (wS5 cy r0 sa st (fun _ => 0) (un u1) (uw u1) (ud u1) (nI (zh (uh u1))) (zl (uh u1)) ++ (rows12 cy st 6 (rset (rowS (uh u1)) k 1 (nI k170)) ++ (wX cy a q q2 ca ta u1 hNew ++ [])))) := hD
              have e9 : (rset (rowS (uh u1)) k 1 (nI k170)) = rowS (hPush (uh u1) k (nI k170)) := (fresh_push e1)
              rw [e9] at hP hD
              clear e9
              have hP : va_P D vwCl (([] : va_W) ++ (wS5 cy r0 sa st (fun _ => 0) (un u1) (uw u1) (ud u1) (nI (zh (uh u1))) (zl (uh u1)) ++ (rows12 cy st 6 (rowS (hPush (uh u1) k (nI k170))) ++ (wX cy a q q2 ca ta u1 hNew ++ [])))) H := hP
              have hD : va_D A (([] : va_W) ++ (wS5 cy r0 sa st (fun _ => 0) (un u1) (uw u1) (ud u1) (nI (zh (uh u1))) (zl (uh u1)) ++ (rows12 cy st 6 (rowS (hPush (uh u1) k (nI k170))) ++ (wX cy a q q2 ca ta u1 hNew ++ [])))) := hD
              refine lv_aload_n hx hb dL_build_193 rfl (lv_at hl 2 rfl) ?_
              refine lv_iload_n hx hb dL_build_194 rfl (lv_at hl 5 rfl) ?_
              refine lv_iload hx hb dL_build_195 (lv_at hl 0 rfl) ?_
              refine cls_w (Lc := ([] : va_W)) (S5 := wS5 cy r0 sa st (fun _ => 0) (un u1) (uw u1) (ud u1) (nI (zh (uh u1))) (zl (uh u1))) (S12 := rows12 cy st 6 (rowS (hPush (uh u1) k (nI k170)))) (T := []) (As := [.int (nI k), .int (nI k170)]) (rest := []) (uf := fun (_ : Unit) => uH u1 (hPush (uh u1) (ix (nI k)) (nI k170))) (gf := fun (_ : Unit) => hNew) hP hD hS hA hK hXA ⟨hx, hb, hml, hown, hts⟩ (mX2_push l hst D cy H.size a q q2 ca ta u1 hNew I1.1 (nI k) (nI k170)) (fun E h => h.2 (exPush_w (by omega) (by omega) (by omega) e1)) (cwV 2 hts gL_build_X2_push rfl rfl rfl (by decide +kernel) ⟨Nat.le_of_ble_eq_true rfl, Nat.le_of_ble_eq_true rfl⟩) rfl rfl hl.1 (Nat.le_of_ble_eq_true rfl) dL_build_197 ⟨(show 17 + 6 * k + 1 + 3 ≤ 140 by omega), (show 114 + 36 * k + 6 + 18 ≤ 840 by omega)⟩ (fun _ H locs hP hD hS => ?_)
              have hP : va_P D vwCl (([] : va_W) ++ (wS5 cy r0 sa st (fun _ => 0) (un u1) (uw u1) (ud u1) (nI (zh (uh u1))) (zl (uh u1)) ++ (rows12 cy st 6 (rowS (hPush (uh u1) k (nI k170))) ++ (wX cy a q q2 ca ta (uH u1 (hPush (uh u1) (ix (nI k)) (nI k170))) hNew ++ [])))) H := hP
              have hD : va_D A (([] : va_W) ++ (wS5 cy r0 sa st (fun _ => 0) (un u1) (uw u1) (ud u1) (nI (zh (uh u1))) (zl (uh u1)) ++ (rows12 cy st 6 (rowS (hPush (uh u1) k (nI k170))) ++ (wX cy a q q2 ca ta (uH u1 (hPush (uh u1) (ix (nI k)) (nI k170))) hNew ++ [])))) := hD
              rw [ixk] at hP hD
              have hP : va_P D vwCl (([] : va_W) ++ (wS5 cy r0 sa st (fun _ => 0) (un u1) (uw u1) (ud u1) (nI (zh (uh u1))) (zl (uh u1)) ++ (rows12 cy st 6 (rowS (hPush (uh u1) k (nI k170))) ++ (wX cy a q q2 ca ta (uH u1 (hPush (uh u1) k (nI k170))) hNew ++ [])))) H := hP
              have hD : va_D A (([] : va_W) ++ (wS5 cy r0 sa st (fun _ => 0) (un u1) (uw u1) (ud u1) (nI (zh (uh u1))) (zl (uh u1)) ++ (rows12 cy st 6 (rowS (hPush (uh u1) k (nI k170))) ++ (wX cy a q q2 ca ta (uH u1 (hPush (uh u1) k (nI k170))) hNew ++ [])))) := hD
              refine pc_top (show tone (hPush (uh u1) (ix (nI k)) (nI k170)) (ix (nI k)) = tone (hPush (uh u1) k (nI k170)) k from (by rw [ixk])) ?_
              refine lv_aload_n hx hb dL_build_200 rfl (lv_at hl 4 rfl) ?_
              refine lv_iload_n hx hb dL_build_201 rfl (lv_at hl 5 rfl) ?_
              refine sim_p (Lc := ([] : va_W)) (S5 := wS5 cy r0 sa st (fun _ => 0) (un u1) (uw u1) (ud u1) (nI (zh (uh u1))) (zl (uh u1))) (S12 := rows12 cy st 6 (rowS (hPush (uh u1) k (nI k170)))) (X := wX cy a q q2 ca ta (uH u1 (hPush (uh u1) k (nI k170))) hNew ++ []) (Y := []) (As := [.int (nI k)]) (rest := [.int (tone (hPush (uh u1) k (nI k170)) k)]) hP hK hkp ⟨hx, hb, hml, hown, hts⟩ (mX3_tone l D cy r0 sa st (fun _ => 0) (uH u1 (hPush (uh u1) k (nI k170))) k (by omega)) (no_mem) rfl (cwV 1 hts gL_build_X3_tone rfl rfl rfl (by decide +kernel) ⟨Nat.le_of_ble_eq_true rfl, Nat.le_of_ble_eq_true rfl⟩) rfl rfl hl.1 (Nat.le_of_ble_eq_true rfl) dL_build_202 ⟨(show 17 + 6 * k + 1 + 3 ≤ 140 by omega), (show 114 + 36 * k + 6 + 18 ≤ 840 by omega)⟩ ?_
              refine lv_icmp_eq (tgt := 210) hx hb dL_build_205 (by decide) (fun c205 => ?_) (fun c205 => absurd c205 (not_not_intro rfl))
              have hP : va_P D vwCl (([] : va_W) ++ (wS5 cy r0 sa st (fun _ => 0) (un (uH u1 (hPush (uh u1) k (nI k170)))) (uw (uH u1 (hPush (uh u1) k (nI k170)))) (ud (uH u1 (hPush (uh u1) k (nI k170)))) (nI (zh (uh (uH u1 (hPush (uh u1) k (nI k170)))))) (zl (uh (uH u1 (hPush (uh u1) k (nI k170))))) ++ (rows12 cy st 6 (rowS (uh (uH u1 (hPush (uh u1) k (nI k170))))) ++ (wX cy a q q2 ca ta (uH u1 (hPush (uh u1) k (nI k170))) hNew ++ [])))) H := hP
              have hD : va_D A (([] : va_W) ++ (wS5 cy r0 sa st (fun _ => 0) (un (uH u1 (hPush (uh u1) k (nI k170)))) (uw (uH u1 (hPush (uh u1) k (nI k170)))) (ud (uH u1 (hPush (uh u1) k (nI k170)))) (nI (zh (uh (uH u1 (hPush (uh u1) k (nI k170)))))) (zl (uh (uH u1 (hPush (uh u1) k (nI k170))))) ++ (rows12 cy st 6 (rowS (uh (uH u1 (hPush (uh u1) k (nI k170))))) ++ (wX cy a q q2 ca ta (uH u1 (hPush (uh u1) k (nI k170))) hNew ++ [])))) := hD
              have I3 : INV (uH u1 (hPush (uh u1) k (nI k170))) := INV_pushw I1 e1 hk170
              have F3 : FR (uH u1 (hPush (uh u1) k (nI k170))) (k + 1) := FR_push F1
              have G3 : FW (uH u1 (hPush (uh u1) k (nI k170))) (k + 1) := FW_H G1
              generalize hu3 : (uH u1 (hPush (uh u1) k (nI k170)) : US) = u3 at hP hD I3 F3 G3
              have hP : va_P D vwCl (([] : va_W) ++ (wS5 cy r0 sa st (fun _ => 0) (un u3) (uw u3) (ud u3) (nI (zh (uh u3))) (zl (uh u3)) ++ (rows12 cy st 6 (rowS (uh u3)) ++ (wX cy a q q2 ca ta u3 hNew ++ [])))) H := hP
              have hD : va_D A (([] : va_W) ++ (wS5 cy r0 sa st (fun _ => 0) (un u3) (uw u3) (ud u3) (nI (zh (uh u3))) (zl (uh u3)) ++ (rows12 cy st 6 (rowS (uh u3)) ++ (wX cy a q q2 ca ta u3 hNew ++ [])))) := hD
              refine lv_iinc (v := nI (k + 1)) (lv' := [(3, .int (nI (k + 1))), (5, .int (nI k170)), (4, .int ((w99 >>> ((nI k) &&& 31)) + (nI (19 * k)))), (0, .ref (a 0)), (1, .ref b0), (2, .ref r0)]) hx hb dL_build_210 hl (k := 5) rfl ((show (nI k) + Int32.ofInt 1 = (nI k) + 1 from rfl).trans (show (nI k) + 1 = nI (k + 1) from nI_add k 1)) (by decide) rfl (fun ls hl => ?_)
              refine lv_goto (tgt := 10) hx hb dL_build_213 (by decide) ?_
              refine W.widen (k := 17 + 6 * (k + 1)) (n := 114 + 36 * (k + 1)) (by omega) (by omega) ?_
              exact ih10 (k + 1) u3 (by omega) I3 F3 G3 (by omega) _ _ hP hD hS ls (lv_sub hl [3, 4, 5, 0] rfl)
            · have n177 : k170 = 0 := (nI_eq (a := k170) (b := 0) (by omega) (by omega)).mp c177
              refine lv_goto (tgt := 210) hx hb dL_build_180 (by decide) ?_
              have F3 := FR_s F1
              refine lv_iinc (v := nI (k + 1)) (lv' := [(3, .int (nI (k + 1))), (5, .int (nI k170)), (4, .int ((w99 >>> ((nI k) &&& 31)) + (nI (19 * k)))), (0, .ref (a 0)), (1, .ref b0), (2, .ref r0)]) hx hb dL_build_210 hl (k := 5) rfl ((show (nI k) + Int32.ofInt 1 = (nI k) + 1 from rfl).trans (show (nI k) + 1 = nI (k + 1) from nI_add k 1)) (by decide) rfl (fun ls hl => ?_)
              refine lv_goto (tgt := 10) hx hb dL_build_213 (by decide) ?_
              refine W.widen (k := 17 + 6 * (k + 1)) (n := 114 + 36 * (k + 1)) (by omega) (by omega) ?_
              exact ih10 (k + 1) u1 (by omega) I1 F3 G1 (by omega) _ _ hP hD hS ls (lv_sub hl [3, 4, 5, 0] rfl)
          · have n117 : ¬ (k114 ≤ 0) := fun h9 => c117 ((nI_leI (a := k114) (b := 0) (by omega) (by omega)).mpr h9)
            obtain ⟨f1, f2, f3, f4⟩ := F1.2.2 k (Nat.le_refl _) (by omega)
            refine lv_aload_n hx hb dL_build_120 rfl (lv_at hl 3 rfl) ?_
            refine va_get (D := D) (ci := 3) (v := .ref (sa 0)) (C := RX3) (T := TX3) (N := 6) hx hb hts inL_build_RX3 hown hK hP 0 rfl rfl 0 (by decide) (hts _ kL_build_7) (fun _ h9 => h9) rfl dL_build_121 ?_
            refine lv_iload_n hx hb dL_build_124 rfl (lv_at hl 4 rfl) ?_
            refine pc_aldA hx hb hkp hP 1 rfl (k := k) (show k < 12 by omega) (by decide) (v := st k) rfl dL_build_125 ?_
            refine lv_iconst (v := 0) hx hb dL_build_126 (by decide) ?_
            refine lv_bipush (v := 100) hx hb dL_build_127 (by decide) ?_
            refine lv_iload hx hb dL_build_129 (lv_at hl 0 rfl) ?_
            refine lv_iconst (v := 5) hx hb dL_build_131 (by decide) ?_
            refine lv_imul hx hb dL_build_132 ?_
            refine lv_sipush (v := 801) hx hb dL_build_133 (by decide) ?_
            refine pc_calli (va_runS (As := [.int (((w99 >>> ((nI k) &&& 31)) + (nI (19 * k))) * 5), .int 801]) (rest := [.int 100, .int 0, .ref (st k)]) ⟨hx, hb, hml, hown, hts⟩ (mL_below l D cy (((w99 >>> ((nI k) &&& 31)) + (nI (19 * k))) * 5) 801 (by decide) (by decide)) (va_cwS 2 hts gL_build_L_below rfl rfl rfl (by decide +kernel) ⟨Nat.le_of_ble_eq_true rfl, Nat.le_of_ble_eq_true rfl⟩) ⟨fun a U g mk q => q, fun U hU hW => ⟨rfl, trivial⟩⟩ rfl rfl hl.1 rfl (lv_room (Nat.le_of_ble_eq_true rfl)) dL_build_136 ⟨(show 17 + 6 * k + 1 ≤ 140 by omega), (show 114 + 36 * k + 6 ≤ 840 by omega)⟩) (fun r9 hr9 => ?_)
            obtain ⟨k136, hk136, rfl⟩ := hr9
            refine lv_iadd hx hb dL_build_139 ?_
            refine pc_top (show 100 + (nI k136) = nI (100 + k136) from nI_add 100 k136) ?_
            refine row_astS hx hb hK hP hD hS (k := k) (j := 0) (show k < 12 by omega) (show 0 < 6 by omega) (by decide) dL_build_140 (fun H locs hP hD hS => ?_)
            have hP : va_P D vwCl (([] : va_W) ++ (wS5 cy r0 sa st (fun _ => 0) (un u1) (uw u1) (ud u1) (nI (zh (uh u1))) (zl (uh u1)) ++ (rows12 cy st 6 (rset (rowS (uh u1)) k 0 (nI (100 + k136))) ++ (wX cy a q q2 ca ta u1 hNew ++ [])))) H := hP
            have hD : va_D A (([] : va_W) ++ (wS5 cy r0 sa st (fun _ => 0) (un u1) (uw u1) (ud u1) (nI (zh (uh u1))) (zl (uh u1)) ++ (rows12 cy st 6 (rset (rowS (uh u1)) k 0 (nI (100 + k136))) ++ (wX cy a q q2 ca ta u1 hNew ++ [])))) := hD
            have e9 : (rset (rowS (uh u1)) k 0 (nI (100 + k136))) = rowS (hRenew (uh u1) k (nI (100 + k136))) := (fresh_draw f2 f3 f4)
            rw [e9] at hP hD
            clear e9
            have hP : va_P D vwCl (([] : va_W) ++ (wS5 cy r0 sa st (fun _ => 0) (un u1) (uw u1) (ud u1) (nI (zh (uh u1))) (zl (uh u1)) ++ (rows12 cy st 6 (rowS (hRenew (uh u1) k (nI (100 + k136)))) ++ (wX cy a q q2 ca ta u1 hNew ++ [])))) H := hP
            have hD : va_D A (([] : va_W) ++ (wS5 cy r0 sa st (fun _ => 0) (un u1) (uw u1) (ud u1) (nI (zh (uh u1))) (zl (uh u1)) ++ (rows12 cy st 6 (rowS (hRenew (uh u1) k (nI (100 + k136)))) ++ (wX cy a q q2 ca ta u1 hNew ++ [])))) := hD
            refine lv_aload_n hx hb dL_build_141 rfl (lv_at hl 1 rfl) ?_
            refine lv_iload_n hx hb dL_build_142 rfl (lv_at hl 4 rfl) ?_
            refine lv_aload_n hx hb dL_build_143 rfl (lv_at hl 3 rfl) ?_
            refine va_get (D := D) (ci := 3) (v := .ref (sa 0)) (C := RX3) (T := TX3) (N := 6) hx hb hts inL_build_RX3 hown hK hP 0 rfl rfl 0 (by decide) (hts _ kL_build_7) (fun _ h9 => h9) rfl dL_build_144 ?_
            refine lv_iload_n hx hb dL_build_147 rfl (lv_at hl 4 rfl) ?_
            refine pc_aldA hx hb hkp hP 1 rfl (k := k) (show k < 12 by omega) (by decide) (v := st k) rfl dL_build_148 ?_
            refine lv_iconst (v := 0) hx hb dL_build_149 (by decide) ?_
            refine row_aldS hx hb hK hP (k := k) (j := 0) (show k < 12 by omega) (show 0 < 6 by omega) (by decide) dL_build_150 ?_
            refine pc_top (show (rowS (hRenew (uh u1) k (nI (100 + k136)))) k 0 = zb (hRenew (uh u1) k (nI (100 + k136))) k from rfl) ?_
            refine pc_top (show zb (hRenew (uh u1) k (nI (100 + k136))) k = nI (100 + k136) from pk_us) ?_
            refine cls_w (Lc := ([] : va_W)) (S5 := wS5 cy r0 sa st (fun _ => 0) (un u1) (uw u1) (ud u1) (nI (zh (uh u1))) (zl (uh u1))) (S12 := rows12 cy st 6 (rowS (hRenew (uh u1) k (nI (100 + k136))))) (T := []) (As := [.int (nI k), .int (nI (100 + k136))]) (rest := []) (uf := fun (_ : Unit) => uH u1 (hRenew (uh u1) (ix (nI k)) (nI (100 + k136)))) (gf := fun (_ : Unit) => hNew) hP hD hS hA hK hXA ⟨hx, hb, hml, hown, hts⟩ (mX2_draw l hst D cy H.size a q q2 ca ta u1 hNew I1.1 (nI k) (nI (100 + k136))) (fun E h => h.2 (exDraw_0 (by omega) hk136)) (cwV 2 hts gL_build_X2_draw rfl rfl rfl (by decide +kernel) ⟨Nat.le_of_ble_eq_true rfl, Nat.le_of_ble_eq_true rfl⟩) rfl rfl hl.1 (Nat.le_of_ble_eq_true rfl) dL_build_151 ⟨(show 17 + 6 * k + 1 + 2 ≤ 140 by omega), (show 114 + 36 * k + 6 + 12 ≤ 840 by omega)⟩ (fun _ H locs hP hD hS => ?_)
            have hP : va_P D vwCl (([] : va_W) ++ (wS5 cy r0 sa st (fun _ => 0) (un u1) (uw u1) (ud u1) (nI (zh (uh u1))) (zl (uh u1)) ++ (rows12 cy st 6 (rowS (hRenew (uh u1) k (nI (100 + k136)))) ++ (wX cy a q q2 ca ta (uH u1 (hRenew (uh u1) (ix (nI k)) (nI (100 + k136)))) hNew ++ [])))) H := hP
            have hD : va_D A (([] : va_W) ++ (wS5 cy r0 sa st (fun _ => 0) (un u1) (uw u1) (ud u1) (nI (zh (uh u1))) (zl (uh u1)) ++ (rows12 cy st 6 (rowS (hRenew (uh u1) k (nI (100 + k136)))) ++ (wX cy a q q2 ca ta (uH u1 (hRenew (uh u1) (ix (nI k)) (nI (100 + k136)))) hNew ++ [])))) := hD
            rw [ixk] at hP hD
            have hP : va_P D vwCl (([] : va_W) ++ (wS5 cy r0 sa st (fun _ => 0) (un u1) (uw u1) (ud u1) (nI (zh (uh u1))) (zl (uh u1)) ++ (rows12 cy st 6 (rowS (hRenew (uh u1) k (nI (100 + k136)))) ++ (wX cy a q q2 ca ta (uH u1 (hRenew (uh u1) k (nI (100 + k136)))) hNew ++ [])))) H := hP
            have hD : va_D A (([] : va_W) ++ (wS5 cy r0 sa st (fun _ => 0) (un u1) (uw u1) (ud u1) (nI (zh (uh u1))) (zl (uh u1)) ++ (rows12 cy st 6 (rowS (hRenew (uh u1) k (nI (100 + k136)))) ++ (wX cy a q q2 ca ta (uH u1 (hRenew (uh u1) k (nI (100 + k136)))) hNew ++ [])))) := hD
            refine pc_top (show tone (hRenew (uh u1) (ix (nI k)) (nI (100 + k136))) (ix (nI k)) = tone (hRenew (uh u1) k (nI (100 + k136))) k from (by rw [ixk])) ?_
            refine lv_aload_n hx hb dL_build_154 rfl (lv_at hl 3 rfl) ?_
            refine lv_iload_n hx hb dL_build_155 rfl (lv_at hl 4 rfl) ?_
            refine sim_p (Lc := ([] : va_W)) (S5 := wS5 cy r0 sa st (fun _ => 0) (un u1) (uw u1) (ud u1) (nI (zh (uh u1))) (zl (uh u1))) (S12 := rows12 cy st 6 (rowS (hRenew (uh u1) k (nI (100 + k136))))) (X := wX cy a q q2 ca ta (uH u1 (hRenew (uh u1) k (nI (100 + k136)))) hNew ++ []) (Y := []) (As := [.int (nI k)]) (rest := [.int (tone (hRenew (uh u1) k (nI (100 + k136))) k)]) hP hK hkp ⟨hx, hb, hml, hown, hts⟩ (mX3_tone l D cy r0 sa st (fun _ => 0) (uH u1 (hRenew (uh u1) k (nI (100 + k136)))) k (by omega)) (no_mem) rfl (cwV 1 hts gL_build_X3_tone rfl rfl rfl (by decide +kernel) ⟨Nat.le_of_ble_eq_true rfl, Nat.le_of_ble_eq_true rfl⟩) rfl rfl hl.1 (Nat.le_of_ble_eq_true rfl) dL_build_156 ⟨(show 17 + 6 * k + 1 + 2 ≤ 140 by omega), (show 114 + 36 * k + 6 + 12 ≤ 840 by omega)⟩ ?_
            refine lv_icmp_eq (tgt := 164) hx hb dL_build_159 (by decide) (fun c159 => ?_) (fun c159 => absurd c159 (not_not_intro rfl))
            have hP : va_P D vwCl (([] : va_W) ++ (wS5 cy r0 sa st (fun _ => 0) (un (uH u1 (hRenew (uh u1) k (nI (100 + k136))))) (uw (uH u1 (hRenew (uh u1) k (nI (100 + k136))))) (ud (uH u1 (hRenew (uh u1) k (nI (100 + k136))))) (nI (zh (uh (uH u1 (hRenew (uh u1) k (nI (100 + k136))))))) (zl (uh (uH u1 (hRenew (uh u1) k (nI (100 + k136)))))) ++ (rows12 cy st 6 (rowS (uh (uH u1 (hRenew (uh u1) k (nI (100 + k136)))))) ++ (wX cy a q q2 ca ta (uH u1 (hRenew (uh u1) k (nI (100 + k136)))) hNew ++ [])))) H := hP
            have hD : va_D A (([] : va_W) ++ (wS5 cy r0 sa st (fun _ => 0) (un (uH u1 (hRenew (uh u1) k (nI (100 + k136))))) (uw (uH u1 (hRenew (uh u1) k (nI (100 + k136))))) (ud (uH u1 (hRenew (uh u1) k (nI (100 + k136))))) (nI (zh (uh (uH u1 (hRenew (uh u1) k (nI (100 + k136))))))) (zl (uh (uH u1 (hRenew (uh u1) k (nI (100 + k136)))))) ++ (rows12 cy st 6 (rowS (uh (uH u1 (hRenew (uh u1) k (nI (100 + k136)))))) ++ (wX cy a q q2 ca ta (uH u1 (hRenew (uh u1) k (nI (100 + k136)))) hNew ++ [])))) := hD
            have I2 : INV (uH u1 (hRenew (uh u1) k (nI (100 + k136)))) := INV_draw I1 hk136
            have F2 : FR (uH u1 (hRenew (uh u1) k (nI (100 + k136)))) k := FR_draw F1
            have G2 : FW (uH u1 (hRenew (uh u1) k (nI (100 + k136)))) (k + 1) := FW_H G1
            generalize hu2 : (uH u1 (hRenew (uh u1) k (nI (100 + k136))) : US) = u2 at hP hD I2 F2 G2
            have hP : va_P D vwCl (([] : va_W) ++ (wS5 cy r0 sa st (fun _ => 0) (un u2) (uw u2) (ud u2) (nI (zh (uh u2))) (zl (uh u2)) ++ (rows12 cy st 6 (rowS (uh u2)) ++ (wX cy a q q2 ca ta u2 hNew ++ [])))) H := hP
            have hD : va_D A (([] : va_W) ++ (wS5 cy r0 sa st (fun _ => 0) (un u2) (uw u2) (ud u2) (nI (zh (uh u2))) (zl (uh u2)) ++ (rows12 cy st 6 (rowS (uh u2)) ++ (wX cy a q q2 ca ta u2 hNew ++ [])))) := hD
            refine lv_iload hx hb dL_build_164 (lv_at hl 0 rfl) ?_
            refine lv_iconst (v := 3) hx hb dL_build_166 (by decide) ?_
            refine lv_ishr hx hb dL_build_167 ?_
            refine lv_bipush (v := 21) hx hb dL_build_168 (by decide) ?_
            refine pc_calli (va_runS (As := [.int (((w99 >>> ((nI k) &&& 31)) + (nI (19 * k))) >>> (3 &&& 31)), .int 21]) (rest := []) ⟨hx, hb, hml, hown, hts⟩ (mL_below l D cy (((w99 >>> ((nI k) &&& 31)) + (nI (19 * k))) >>> (3 &&& 31)) 21 (by decide) (by decide)) (va_cwS 2 hts gL_build_L_below rfl rfl rfl (by decide +kernel) ⟨Nat.le_of_ble_eq_true rfl, Nat.le_of_ble_eq_true rfl⟩) ⟨fun a U g mk q => q, fun U hU hW => ⟨rfl, trivial⟩⟩ rfl rfl hl.1 rfl (lv_room (Nat.le_of_ble_eq_true rfl)) dL_build_170 ⟨(show 17 + 6 * k + 1 + 2 ≤ 140 by omega), (show 114 + 36 * k + 6 + 12 ≤ 840 by omega)⟩) (fun r9 hr9 => ?_)
            obtain ⟨k170, hk170, rfl⟩ := hr9
            refine lv_istore (lv' := [(5, .int (nI k170)), (4, .int ((w99 >>> ((nI k) &&& 31)) + (nI (19 * k)))), (0, .ref (a 0)), (1, .ref b0), (2, .ref r0), (3, .int (nI k))]) hx hb dL_build_173 hl (by decide) rfl (fun ls hl => ?_)
            refine lv_iload hx hb dL_build_175 (lv_at hl 0 rfl) ?_
            refine lv_if_ne (tgt := 183) hx hb dL_build_177 (by decide) (fun c177 => ?_) (fun c177 => ?_)
            · have n177 : ¬ (k170 = 0) := fun h9 => c177 ((nI_eq (a := k170) (b := 0) (by omega) (by omega)).mpr h9)
              obtain ⟨e1, e2, e3, e4⟩ := F2.2.2 k (Nat.le_refl _) (by omega)
              refine lv_aload_n hx hb dL_build_183 rfl (lv_at hl 4 rfl) ?_
              refine va_get (D := D) (ci := 3) (v := .ref (sa 0)) (C := RX3) (T := TX3) (N := 6) hx hb hts inL_build_RX3 hown hK hP 0 rfl rfl 0 (by decide) (hts _ kL_build_7) (fun _ h9 => h9) rfl dL_build_184 ?_
              refine lv_iload_n hx hb dL_build_187 rfl (lv_at hl 5 rfl) ?_
              refine pc_aldA hx hb hkp hP 1 rfl (k := k) (show k < 12 by omega) (by decide) (v := st k) rfl dL_build_188 ?_
              refine lv_iconst (v := 1) hx hb dL_build_189 (by decide) ?_
              refine lv_iload hx hb dL_build_190 (lv_at hl 0 rfl) ?_
              refine row_astS hx hb hK hP hD hS (k := k) (j := 1) (show k < 12 by omega) (show 1 < 6 by omega) (by decide) dL_build_192 (fun H locs hP hD hS => ?_)
              have hP : va_P D vwCl (([] : va_W) ++ (wS5 cy r0 sa st (fun _ => 0) (un u2) (uw u2) (ud u2) (nI (zh (uh u2))) (zl (uh u2)) ++ (rows12 cy st 6 (rset (rowS (uh u2)) k 1 (nI k170)) ++ (wX cy a q q2 ca ta u2 hNew ++ [])))) H := hP
              have hD : va_D A (([] : va_W) ++ (wS5 cy r0 sa st (fun _ => 0) (un u2) (uw u2) (ud u2) (nI (zh (uh u2))) (zl (uh u2)) ++ (rows12 cy st 6 (rset (rowS (uh u2)) k 1 (nI k170)) ++ (wX cy a q q2 ca ta u2 hNew ++ [])))) := hD
              have e9 : (rset (rowS (uh u2)) k 1 (nI k170)) = rowS (hPush (uh u2) k (nI k170)) := (fresh_push e1)
              rw [e9] at hP hD
              clear e9
              have hP : va_P D vwCl (([] : va_W) ++ (wS5 cy r0 sa st (fun _ => 0) (un u2) (uw u2) (ud u2) (nI (zh (uh u2))) (zl (uh u2)) ++ (rows12 cy st 6 (rowS (hPush (uh u2) k (nI k170))) ++ (wX cy a q q2 ca ta u2 hNew ++ [])))) H := hP
              have hD : va_D A (([] : va_W) ++ (wS5 cy r0 sa st (fun _ => 0) (un u2) (uw u2) (ud u2) (nI (zh (uh u2))) (zl (uh u2)) ++ (rows12 cy st 6 (rowS (hPush (uh u2) k (nI k170))) ++ (wX cy a q q2 ca ta u2 hNew ++ [])))) := hD
              refine lv_aload_n hx hb dL_build_193 rfl (lv_at hl 2 rfl) ?_
              refine lv_iload_n hx hb dL_build_194 rfl (lv_at hl 5 rfl) ?_
              refine lv_iload hx hb dL_build_195 (lv_at hl 0 rfl) ?_
              refine cls_w (Lc := ([] : va_W)) (S5 := wS5 cy r0 sa st (fun _ => 0) (un u2) (uw u2) (ud u2) (nI (zh (uh u2))) (zl (uh u2))) (S12 := rows12 cy st 6 (rowS (hPush (uh u2) k (nI k170)))) (T := []) (As := [.int (nI k), .int (nI k170)]) (rest := []) (uf := fun (_ : Unit) => uH u2 (hPush (uh u2) (ix (nI k)) (nI k170))) (gf := fun (_ : Unit) => hNew) hP hD hS hA hK hXA ⟨hx, hb, hml, hown, hts⟩ (mX2_push l hst D cy H.size a q q2 ca ta u2 hNew I2.1 (nI k) (nI k170)) (fun E h => h.2 (exPush_w (by omega) (by omega) (by omega) e1)) (cwV 2 hts gL_build_X2_push rfl rfl rfl (by decide +kernel) ⟨Nat.le_of_ble_eq_true rfl, Nat.le_of_ble_eq_true rfl⟩) rfl rfl hl.1 (Nat.le_of_ble_eq_true rfl) dL_build_197 ⟨(show 17 + 6 * k + 1 + 2 + 3 ≤ 140 by omega), (show 114 + 36 * k + 6 + 12 + 18 ≤ 840 by omega)⟩ (fun _ H locs hP hD hS => ?_)
              have hP : va_P D vwCl (([] : va_W) ++ (wS5 cy r0 sa st (fun _ => 0) (un u2) (uw u2) (ud u2) (nI (zh (uh u2))) (zl (uh u2)) ++ (rows12 cy st 6 (rowS (hPush (uh u2) k (nI k170))) ++ (wX cy a q q2 ca ta (uH u2 (hPush (uh u2) (ix (nI k)) (nI k170))) hNew ++ [])))) H := hP
              have hD : va_D A (([] : va_W) ++ (wS5 cy r0 sa st (fun _ => 0) (un u2) (uw u2) (ud u2) (nI (zh (uh u2))) (zl (uh u2)) ++ (rows12 cy st 6 (rowS (hPush (uh u2) k (nI k170))) ++ (wX cy a q q2 ca ta (uH u2 (hPush (uh u2) (ix (nI k)) (nI k170))) hNew ++ [])))) := hD
              rw [ixk] at hP hD
              have hP : va_P D vwCl (([] : va_W) ++ (wS5 cy r0 sa st (fun _ => 0) (un u2) (uw u2) (ud u2) (nI (zh (uh u2))) (zl (uh u2)) ++ (rows12 cy st 6 (rowS (hPush (uh u2) k (nI k170))) ++ (wX cy a q q2 ca ta (uH u2 (hPush (uh u2) k (nI k170))) hNew ++ [])))) H := hP
              have hD : va_D A (([] : va_W) ++ (wS5 cy r0 sa st (fun _ => 0) (un u2) (uw u2) (ud u2) (nI (zh (uh u2))) (zl (uh u2)) ++ (rows12 cy st 6 (rowS (hPush (uh u2) k (nI k170))) ++ (wX cy a q q2 ca ta (uH u2 (hPush (uh u2) k (nI k170))) hNew ++ [])))) := hD
              refine pc_top (show tone (hPush (uh u2) (ix (nI k)) (nI k170)) (ix (nI k)) = tone (hPush (uh u2) k (nI k170)) k from (by rw [ixk])) ?_
              refine lv_aload_n hx hb dL_build_200 rfl (lv_at hl 4 rfl) ?_
              refine lv_iload_n hx hb dL_build_201 rfl (lv_at hl 5 rfl) ?_
              refine sim_p (Lc := ([] : va_W)) (S5 := wS5 cy r0 sa st (fun _ => 0) (un u2) (uw u2) (ud u2) (nI (zh (uh u2))) (zl (uh u2))) (S12 := rows12 cy st 6 (rowS (hPush (uh u2) k (nI k170)))) (X := wX cy a q q2 ca ta (uH u2 (hPush (uh u2) k (nI k170))) hNew ++ []) (Y := []) (As := [.int (nI k)]) (rest := [.int (tone (hPush (uh u2) k (nI k170)) k)]) hP hK hkp ⟨hx, hb, hml, hown, hts⟩ (mX3_tone l D cy r0 sa st (fun _ => 0) (uH u2 (hPush (uh u2) k (nI k170))) k (by omega)) (no_mem) rfl (cwV 1 hts gL_build_X3_tone rfl rfl rfl (by decide +kernel) ⟨Nat.le_of_ble_eq_true rfl, Nat.le_of_ble_eq_true rfl⟩) rfl rfl hl.1 (Nat.le_of_ble_eq_true rfl) dL_build_202 ⟨(show 17 + 6 * k + 1 + 2 + 3 ≤ 140 by omega), (show 114 + 36 * k + 6 + 12 + 18 ≤ 840 by omega)⟩ ?_
              refine lv_icmp_eq (tgt := 210) hx hb dL_build_205 (by decide) (fun c205 => ?_) (fun c205 => absurd c205 (not_not_intro rfl))
              have hP : va_P D vwCl (([] : va_W) ++ (wS5 cy r0 sa st (fun _ => 0) (un (uH u2 (hPush (uh u2) k (nI k170)))) (uw (uH u2 (hPush (uh u2) k (nI k170)))) (ud (uH u2 (hPush (uh u2) k (nI k170)))) (nI (zh (uh (uH u2 (hPush (uh u2) k (nI k170)))))) (zl (uh (uH u2 (hPush (uh u2) k (nI k170))))) ++ (rows12 cy st 6 (rowS (uh (uH u2 (hPush (uh u2) k (nI k170))))) ++ (wX cy a q q2 ca ta (uH u2 (hPush (uh u2) k (nI k170))) hNew ++ [])))) H := hP
              have hD : va_D A (([] : va_W) ++ (wS5 cy r0 sa st (fun _ => 0) (un (uH u2 (hPush (uh u2) k (nI k170)))) (uw (uH u2 (hPush (uh u2) k (nI k170)))) (ud (uH u2 (hPush (uh u2) k (nI k170)))) (nI (zh (uh (uH u2 (hPush (uh u2) k (nI k170)))))) (zl (uh (uH u2 (hPush (uh u2) k (nI k170))))) ++ (rows12 cy st 6 (rowS (uh (uH u2 (hPush (uh u2) k (nI k170))))) ++ (wX cy a q q2 ca ta (uH u2 (hPush (uh u2) k (nI k170))) hNew ++ [])))) := hD
              have I3 : INV (uH u2 (hPush (uh u2) k (nI k170))) := INV_pushw I2 e1 hk170
              have F3 : FR (uH u2 (hPush (uh u2) k (nI k170))) (k + 1) := FR_push F2
              have G3 : FW (uH u2 (hPush (uh u2) k (nI k170))) (k + 1) := FW_H G2
              generalize hu3 : (uH u2 (hPush (uh u2) k (nI k170)) : US) = u3 at hP hD I3 F3 G3
              have hP : va_P D vwCl (([] : va_W) ++ (wS5 cy r0 sa st (fun _ => 0) (un u3) (uw u3) (ud u3) (nI (zh (uh u3))) (zl (uh u3)) ++ (rows12 cy st 6 (rowS (uh u3)) ++ (wX cy a q q2 ca ta u3 hNew ++ [])))) H := hP
              have hD : va_D A (([] : va_W) ++ (wS5 cy r0 sa st (fun _ => 0) (un u3) (uw u3) (ud u3) (nI (zh (uh u3))) (zl (uh u3)) ++ (rows12 cy st 6 (rowS (uh u3)) ++ (wX cy a q q2 ca ta u3 hNew ++ [])))) := hD
              refine lv_iinc (v := nI (k + 1)) (lv' := [(3, .int (nI (k + 1))), (5, .int (nI k170)), (4, .int ((w99 >>> ((nI k) &&& 31)) + (nI (19 * k)))), (0, .ref (a 0)), (1, .ref b0), (2, .ref r0)]) hx hb dL_build_210 hl (k := 5) rfl ((show (nI k) + Int32.ofInt 1 = (nI k) + 1 from rfl).trans (show (nI k) + 1 = nI (k + 1) from nI_add k 1)) (by decide) rfl (fun ls hl => ?_)
              refine lv_goto (tgt := 10) hx hb dL_build_213 (by decide) ?_
              refine W.widen (k := 17 + 6 * (k + 1)) (n := 114 + 36 * (k + 1)) (by omega) (by omega) ?_
              exact ih10 (k + 1) u3 (by omega) I3 F3 G3 (by omega) _ _ hP hD hS ls (lv_sub hl [3, 4, 5, 0] rfl)
            · have n177 : k170 = 0 := (nI_eq (a := k170) (b := 0) (by omega) (by omega)).mp c177
              refine lv_goto (tgt := 210) hx hb dL_build_180 (by decide) ?_
              have F3 := FR_s F2
              refine lv_iinc (v := nI (k + 1)) (lv' := [(3, .int (nI (k + 1))), (5, .int (nI k170)), (4, .int ((w99 >>> ((nI k) &&& 31)) + (nI (19 * k)))), (0, .ref (a 0)), (1, .ref b0), (2, .ref r0)]) hx hb dL_build_210 hl (k := 5) rfl ((show (nI k) + Int32.ofInt 1 = (nI k) + 1 from rfl).trans (show (nI k) + 1 = nI (k + 1) from nI_add k 1)) (by decide) rfl (fun ls hl => ?_)
              refine lv_goto (tgt := 10) hx hb dL_build_213 (by decide) ?_
              refine W.widen (k := 17 + 6 * (k + 1)) (n := 114 + 36 * (k + 1)) (by omega) (by omega) ?_
              exact ih10 (k + 1) u2 (by omega) I2 F3 G2 (by omega) _ _ hP hD hS ls (lv_sub hl [3, 4, 5, 0] rfl)
        · have n39 : k36 = 0 := (nI_eq (a := k36) (b := 0) (by omega) (by omega)).mp c39
          refine lv_bipush (v := 21) hx hb dL_build_42 (by decide) ?_
          refine lv_goto (tgt := 49) hx hb dL_build_44 (by decide) ?_
          refine pc_calli (va_runS (As := [.int (w23 >>> ((nI k) &&& 31)), .int 21]) (rest := [.int (nI k), .ref (sa 2)]) ⟨hx, hb, hml, hown, hts⟩ (mL_below l D cy (w23 >>> ((nI k) &&& 31)) 21 (by decide) (by decide)) (va_cwS 2 hts gL_build_L_below rfl rfl rfl (by decide +kernel) ⟨Nat.le_of_ble_eq_true rfl, Nat.le_of_ble_eq_true rfl⟩) ⟨fun a U g mk q => q, fun U hU hW => ⟨rfl, trivial⟩⟩ rfl rfl hl.1 rfl (lv_room (Nat.le_of_ble_eq_true rfl)) dL_build_49 ⟨(show 17 + 6 * k ≤ 140 by omega), (show 114 + 36 * k ≤ 840 by omega)⟩) (fun r9 hr9 => ?_)
          obtain ⟨k49, hk49, rfl⟩ := hr9
          refine pc_iast hx hb hK hP hD hS 3 0 rfl rfl (k := k) (show k < 12 by omega) (by decide) dL_build_52 (fun H locs hP hD hS => ?_)
          have hP : va_P D vwCl (([] : va_W) ++ (wS5 cy r0 sa st (fun _ => 0) (un u) (upd (uw u) k (nI k49)) (ud u) (nI (zh (uh u))) (zl (uh u)) ++ (rows12 cy st 6 (rowS (uh u)) ++ (wX cy a q q2 ca ta u hNew ++ [])))) H := hP
          have hD : va_D A (([] : va_W) ++ (wS5 cy r0 sa st (fun _ => 0) (un u) (upd (uw u) k (nI k49)) (ud u) (nI (zh (uh u))) (zl (uh u)) ++ (rows12 cy st 6 (rowS (uh u)) ++ (wX cy a q q2 ca ta u hNew ++ [])))) := hD
          refine lv_aload_n hx hb dL_build_53 rfl (lv_at hl 2 rfl) ?_
          refine va_get (D := D) (ci := 3) (v := .ref (sa 3)) (C := RX3) (T := TX3) (N := 6) hx hb hts inL_build_RX3 hown hK hP 0 rfl rfl 3 (by decide) (hts _ kL_build_6) (fun _ h9 => h9) rfl dL_build_54 ?_
          refine lv_iload_n hx hb dL_build_57 rfl (lv_at hl 3 rfl) ?_
          refine lv_aload_n hx hb dL_build_58 rfl (lv_at hl 1 rfl) ?_
          refine lv_iconst (v := 2) hx hb dL_build_59 (by decide) ?_
          refine pc_calli (va_runS (As := [.ref b0, .int 2]) (rest := [.int (nI k), .ref (sa 3)]) ⟨hx, hb, hml, hown, hts⟩ (mL_cell l D cy b0 L xs (by omega) (2) (by omega)) (va_cwS 2 hts gL_build_L_cell rfl rfl rfl (by decide +kernel) ⟨Nat.le_of_ble_eq_true rfl, Nat.le_of_ble_eq_true rfl⟩) ⟨fun a U g mk q => ⟨q.1, va_X.moved (u := U) (U := U.calling g mk a) (Vm.Alike.refl U.vm) q.2.1, q.2.2⟩, fun U hU hW => ⟨rfl, by rw [hU]; exact va_X.moved hW.alike (hX0.kept (hS.2.1 b0 hbl hbA)), by rw [hU]; exact Nat.lt_of_lt_of_le hbl hS.1⟩⟩ rfl rfl hl.1 rfl (lv_room (Nat.le_of_ble_eq_true rfl)) dL_build_60 ⟨(show 17 + 6 * k ≤ 140 by omega), (show 114 + 36 * k ≤ 840 by omega)⟩) (fun r9 hr9 => ?_)
          clear hr9
          obtain ⟨w60, rfl⟩ : ∃ z, z = r9 := ⟨_, rfl⟩
          refine lv_iload_n hx hb dL_build_63 rfl (lv_at hl 3 rfl) ?_
          refine lv_ishr hx hb dL_build_64 ?_
          refine lv_bipush (v := 10) hx hb dL_build_65 (by decide) ?_
          refine pc_calli (va_runS (As := [.int (w60 >>> ((nI k) &&& 31)), .int 10]) (rest := [.int (nI k), .ref (sa 3)]) ⟨hx, hb, hml, hown, hts⟩ (mL_below l D cy (w60 >>> ((nI k) &&& 31)) 10 (by decide) (by decide)) (va_cwS 2 hts gL_build_L_below rfl rfl rfl (by decide +kernel) ⟨Nat.le_of_ble_eq_true rfl, Nat.le_of_ble_eq_true rfl⟩) ⟨fun a U g mk q => q, fun U hU hW => ⟨rfl, trivial⟩⟩ rfl rfl hl.1 rfl (lv_room (Nat.le_of_ble_eq_true rfl)) dL_build_67 ⟨(show 17 + 6 * k ≤ 140 by omega), (show 114 + 36 * k ≤ 840 by omega)⟩) (fun r9 hr9 => ?_)
          obtain ⟨k67, hk67, rfl⟩ := hr9
          refine pc_iast hx hb hK hP hD hS 4 0 rfl rfl (k := k) (show k < 12 by omega) (by decide) dL_build_70 (fun H locs hP hD hS => ?_)
          have hP : va_P D vwCl (([] : va_W) ++ (wS5 cy r0 sa st (fun _ => 0) (un u) (upd (uw u) k (nI k49)) (upd (ud u) k (nI k67)) (nI (zh (uh u))) (zl (uh u)) ++ (rows12 cy st 6 (rowS (uh u)) ++ (wX cy a q q2 ca ta u hNew ++ [])))) H := hP
          have hD : va_D A (([] : va_W) ++ (wS5 cy r0 sa st (fun _ => 0) (un u) (upd (uw u) k (nI k49)) (upd (ud u) k (nI k67)) (nI (zh (uh u))) (zl (uh u)) ++ (rows12 cy st 6 (rowS (uh u)) ++ (wX cy a q q2 ca ta u hNew ++ [])))) := hD
          refine lv_aload_n hx hb dL_build_71 rfl (lv_at hl 0 rfl) ?_
          refine lv_iload_n hx hb dL_build_72 rfl (lv_at hl 3 rfl) ?_
          refine lv_aload_n hx hb dL_build_73 rfl (lv_at hl 2 rfl) ?_
          refine va_get (D := D) (ci := 3) (v := .ref (sa 2)) (C := RX3) (T := TX3) (N := 6) hx hb hts inL_build_RX3 hown hK hP 0 rfl rfl 2 (by decide) (hts _ kL_build_5) (fun _ h9 => h9) rfl dL_build_74 ?_
          refine lv_iload_n hx hb dL_build_77 rfl (lv_at hl 3 rfl) ?_
          refine pc_iald hx hb hK hP 3 0 rfl rfl (k := k) (show k < 12 by omega) (by decide) dL_build_78 ?_
          refine pc_top (show (upd (uw u) k (nI k49)) k = nI k49 from pk_us) ?_
          refine lv_aload_n hx hb dL_build_79 rfl (lv_at hl 2 rfl) ?_
          refine va_get (D := D) (ci := 3) (v := .ref (sa 3)) (C := RX3) (T := TX3) (N := 6) hx hb hts inL_build_RX3 hown hK hP 0 rfl rfl 3 (by decide) (hts _ kL_build_6) (fun _ h9 => h9) rfl dL_build_80 ?_
          refine lv_iload_n hx hb dL_build_83 rfl (lv_at hl 3 rfl) ?_
          refine pc_iald hx hb hK hP 4 0 rfl rfl (k := k) (show k < 12 by omega) (by decide) dL_build_84 ?_
          refine pc_top (show (upd (ud u) k (nI k67)) k = nI k67 from pk_us) ?_
          refine cls_w (Lc := ([] : va_W)) (S5 := wS5 cy r0 sa st (fun _ => 0) (un u) (upd (uw u) k (nI k49)) (upd (ud u) k (nI k67)) (nI (zh (uh u))) (zl (uh u))) (S12 := rows12 cy st 6 (rowS (uh u))) (T := []) (As := [.int (nI k), .int (nI k49), .int (nI k67)]) (rest := []) (uf := fun (_ : Unit) => uWea u (ix (nI k)) (nI k49) (nI k67)) (gf := fun (_ : Unit) => hNew) hP hD hS hA hK hXA ⟨hx, hb, hml, hown, hts⟩ (mX2_setWeather l hst D cy H.size a q q2 ca ta u hNew I.1 (nI k) (nI k49) (nI k67)) (fun E h => h.2 (exWea_0 (by omega) (by omega) hk67)) (cwV 3 hts gL_build_X2_setWeather rfl rfl rfl (by decide +kernel) ⟨Nat.le_of_ble_eq_true rfl, Nat.le_of_ble_eq_true rfl⟩) rfl rfl hl.1 (Nat.le_of_ble_eq_true rfl) dL_build_85 ⟨(show 17 + 6 * k + 1 ≤ 140 by omega), (show 114 + 36 * k + 6 ≤ 840 by omega)⟩ (fun _ H locs hP hD hS => ?_)
          have hP : va_P D vwCl (([] : va_W) ++ (wS5 cy r0 sa st (fun _ => 0) (un u) (upd (uw u) k (nI k49)) (upd (ud u) k (nI k67)) (nI (zh (uh u))) (zl (uh u)) ++ (rows12 cy st 6 (rowS (uh u)) ++ (wX cy a q q2 ca ta (uWea u (ix (nI k)) (nI k49) (nI k67)) hNew ++ [])))) H := hP
          have hD : va_D A (([] : va_W) ++ (wS5 cy r0 sa st (fun _ => 0) (un u) (upd (uw u) k (nI k49)) (upd (ud u) k (nI k67)) (nI (zh (uh u))) (zl (uh u)) ++ (rows12 cy st 6 (rowS (uh u)) ++ (wX cy a q q2 ca ta (uWea u (ix (nI k)) (nI k49) (nI k67)) hNew ++ [])))) := hD
          rw [ixk] at hP hD
          have hP : va_P D vwCl (([] : va_W) ++ (wS5 cy r0 sa st (fun _ => 0) (un u) (upd (uw u) k (nI k49)) (upd (ud u) k (nI k67)) (nI (zh (uh u))) (zl (uh u)) ++ (rows12 cy st 6 (rowS (uh u)) ++ (wX cy a q q2 ca ta (uWea u k (nI k49) (nI k67)) hNew ++ [])))) H := hP
          have hD : va_D A (([] : va_W) ++ (wS5 cy r0 sa st (fun _ => 0) (un u) (upd (uw u) k (nI k49)) (upd (ud u) k (nI k67)) (nI (zh (uh u))) (zl (uh u)) ++ (rows12 cy st 6 (rowS (uh u)) ++ (wX cy a q q2 ca ta (uWea u k (nI k49) (nI k67)) hNew ++ [])))) := hD
          refine pc_top (show wea u (ix (nI k)) = wea u k from (by rw [ixk])) ?_
          refine pc_top (show wea u k = 0 from (FW_wea0 G (by omega))) ?_
          have hP : va_P D vwCl (([] : va_W) ++ (wS5 cy r0 sa st (fun _ => 0) (un (uWea u k (nI k49) (nI k67))) (uw (uWea u k (nI k49) (nI k67))) (ud (uWea u k (nI k49) (nI k67))) (nI (zh (uh (uWea u k (nI k49) (nI k67))))) (zl (uh (uWea u k (nI k49) (nI k67)))) ++ (rows12 cy st 6 (rowS (uh (uWea u k (nI k49) (nI k67)))) ++ (wX cy a q q2 ca ta (uWea u k (nI k49) (nI k67)) hNew ++ [])))) H := hP
          have hD : va_D A (([] : va_W) ++ (wS5 cy r0 sa st (fun _ => 0) (un (uWea u k (nI k49) (nI k67))) (uw (uWea u k (nI k49) (nI k67))) (ud (uWea u k (nI k49) (nI k67))) (nI (zh (uh (uWea u k (nI k49) (nI k67))))) (zl (uh (uWea u k (nI k49) (nI k67)))) ++ (rows12 cy st 6 (rowS (uh (uWea u k (nI k49) (nI k67)))) ++ (wX cy a q q2 ca ta (uWea u k (nI k49) (nI k67)) hNew ++ [])))) := hD
          have I1 : INV (uWea u k (nI k49) (nI k67)) := INV_wea I (by omega) hk67
          have F1 : FR (uWea u k (nI k49) (nI k67)) k := F
          have G1 : FW (uWea u k (nI k49) (nI k67)) (k + 1) := FW_wea G
          generalize hu1 : (uWea u k (nI k49) (nI k67) : US) = u1 at hP hD I1 F1 G1
          have hP : va_P D vwCl (([] : va_W) ++ (wS5 cy r0 sa st (fun _ => 0) (un u1) (uw u1) (ud u1) (nI (zh (uh u1))) (zl (uh u1)) ++ (rows12 cy st 6 (rowS (uh u1)) ++ (wX cy a q q2 ca ta u1 hNew ++ [])))) H := hP
          have hD : va_D A (([] : va_W) ++ (wS5 cy r0 sa st (fun _ => 0) (un u1) (uw u1) (ud u1) (nI (zh (uh u1))) (zl (uh u1)) ++ (rows12 cy st 6 (rowS (uh u1)) ++ (wX cy a q q2 ca ta u1 hNew ++ [])))) := hD
          refine lv_if_eq (tgt := 93) hx hb dL_build_88 (by decide) (fun c88 => ?_) (fun c88 => absurd c88 (not_not_intro rfl))
          have n88 : 0 = 0 := (nI_eq (a := 0) (b := 0) (by omega) (by omega)).mp c88
          refine lv_aload_n hx hb dL_build_93 rfl (lv_at hl 1 rfl) ?_
          refine lv_iconst (v := 3) hx hb dL_build_94 (by decide) ?_
          refine lv_iload_n hx hb dL_build_95 rfl (lv_at hl 3 rfl) ?_
          refine lv_iconst (v := 4) hx hb dL_build_96 (by decide) ?_
          refine lv_irem hx hb dL_build_97 (by decide) ?_
          refine pc_top (show (nI k) - (nI k) / 4 * 4 = nI (k % 4) from (pk_rem (by omega) (by decide) (by decide))) ?_
          refine lv_iadd hx hb dL_build_98 ?_
          refine pc_top (show 3 + (nI (k % 4)) = nI (3 + k % 4) from nI_add 3 (k % 4)) ?_
          refine pc_calli (va_runS (As := [.ref b0, .int (nI (3 + k % 4))]) (rest := []) ⟨hx, hb, hml, hown, hts⟩ (mL_cell l D cy b0 L xs (by omega) (3 + k % 4) (by omega)) (va_cwS 2 hts gL_build_L_cell rfl rfl rfl (by decide +kernel) ⟨Nat.le_of_ble_eq_true rfl, Nat.le_of_ble_eq_true rfl⟩) ⟨fun a U g mk q => ⟨q.1, va_X.moved (u := U) (U := U.calling g mk a) (Vm.Alike.refl U.vm) q.2.1, q.2.2⟩, fun U hU hW => ⟨rfl, by rw [hU]; exact va_X.moved hW.alike (hX0.kept (hS.2.1 b0 hbl hbA)), by rw [hU]; exact Nat.lt_of_lt_of_le hbl hS.1⟩⟩ rfl rfl hl.1 rfl (lv_room (Nat.le_of_ble_eq_true rfl)) dL_build_99 ⟨(show 17 + 6 * k + 1 ≤ 140 by omega), (show 114 + 36 * k + 6 ≤ 840 by omega)⟩) (fun r9 hr9 => ?_)
          clear hr9
          obtain ⟨w99, rfl⟩ : ∃ z, z = r9 := ⟨_, rfl⟩
          refine lv_iload_n hx hb dL_build_102 rfl (lv_at hl 3 rfl) ?_
          refine lv_ishr hx hb dL_build_103 ?_
          refine lv_bipush (v := 19) hx hb dL_build_104 (by decide) ?_
          refine lv_iload_n hx hb dL_build_106 rfl (lv_at hl 3 rfl) ?_
          refine lv_imul hx hb dL_build_107 ?_
          refine pc_top (show 19 * (nI k) = nI (19 * k) from pk_mul 19 k) ?_
          refine lv_iadd hx hb dL_build_108 ?_
          refine lv_istore (lv' := [(4, .int ((w99 >>> ((nI k) &&& 31)) + (nI (19 * k)))), (0, .ref (a 0)), (1, .ref b0), (2, .ref r0), (3, .int (nI k))]) hx hb dL_build_109 hl (by decide) rfl (fun ls hl => ?_)
          refine lv_iload hx hb dL_build_111 (lv_at hl 0 rfl) ?_
          refine lv_iconst (v := 3) hx hb dL_build_113 (by decide) ?_
          refine pc_calli (va_runS (As := [.int ((w99 >>> ((nI k) &&& 31)) + (nI (19 * k))), .int 3]) (rest := []) ⟨hx, hb, hml, hown, hts⟩ (mL_below l D cy ((w99 >>> ((nI k) &&& 31)) + (nI (19 * k))) 3 (by decide) (by decide)) (va_cwS 2 hts gL_build_L_below rfl rfl rfl (by decide +kernel) ⟨Nat.le_of_ble_eq_true rfl, Nat.le_of_ble_eq_true rfl⟩) ⟨fun a U g mk q => q, fun U hU hW => ⟨rfl, trivial⟩⟩ rfl rfl hl.1 rfl (lv_room (Nat.le_of_ble_eq_true rfl)) dL_build_114 ⟨(show 17 + 6 * k + 1 ≤ 140 by omega), (show 114 + 36 * k + 6 ≤ 840 by omega)⟩) (fun r9 hr9 => ?_)
          obtain ⟨k114, hk114, rfl⟩ := hr9
          refine lv_if_le (tgt := 164) hx hb dL_build_117 (by decide) (fun c117 => ?_) (fun c117 => ?_)
          · have n117 : k114 ≤ 0 := (nI_leI (a := k114) (b := 0) (by omega) (by omega)).mp c117
            refine lv_iload hx hb dL_build_164 (lv_at hl 0 rfl) ?_
            refine lv_iconst (v := 3) hx hb dL_build_166 (by decide) ?_
            refine lv_ishr hx hb dL_build_167 ?_
            refine lv_bipush (v := 21) hx hb dL_build_168 (by decide) ?_
            refine pc_calli (va_runS (As := [.int (((w99 >>> ((nI k) &&& 31)) + (nI (19 * k))) >>> (3 &&& 31)), .int 21]) (rest := []) ⟨hx, hb, hml, hown, hts⟩ (mL_below l D cy (((w99 >>> ((nI k) &&& 31)) + (nI (19 * k))) >>> (3 &&& 31)) 21 (by decide) (by decide)) (va_cwS 2 hts gL_build_L_below rfl rfl rfl (by decide +kernel) ⟨Nat.le_of_ble_eq_true rfl, Nat.le_of_ble_eq_true rfl⟩) ⟨fun a U g mk q => q, fun U hU hW => ⟨rfl, trivial⟩⟩ rfl rfl hl.1 rfl (lv_room (Nat.le_of_ble_eq_true rfl)) dL_build_170 ⟨(show 17 + 6 * k + 1 ≤ 140 by omega), (show 114 + 36 * k + 6 ≤ 840 by omega)⟩) (fun r9 hr9 => ?_)
            obtain ⟨k170, hk170, rfl⟩ := hr9
            refine lv_istore (lv' := [(5, .int (nI k170)), (4, .int ((w99 >>> ((nI k) &&& 31)) + (nI (19 * k)))), (0, .ref (a 0)), (1, .ref b0), (2, .ref r0), (3, .int (nI k))]) hx hb dL_build_173 hl (by decide) rfl (fun ls hl => ?_)
            refine lv_iload hx hb dL_build_175 (lv_at hl 0 rfl) ?_
            refine lv_if_ne (tgt := 183) hx hb dL_build_177 (by decide) (fun c177 => ?_) (fun c177 => ?_)
            · have n177 : ¬ (k170 = 0) := fun h9 => c177 ((nI_eq (a := k170) (b := 0) (by omega) (by omega)).mpr h9)
              obtain ⟨e1, e2, e3, e4⟩ := F1.2.2 k (Nat.le_refl _) (by omega)
              refine lv_aload_n hx hb dL_build_183 rfl (lv_at hl 4 rfl) ?_
              refine va_get (D := D) (ci := 3) (v := .ref (sa 0)) (C := RX3) (T := TX3) (N := 6) hx hb hts inL_build_RX3 hown hK hP 0 rfl rfl 0 (by decide) (hts _ kL_build_7) (fun _ h9 => h9) rfl dL_build_184 ?_
              refine lv_iload_n hx hb dL_build_187 rfl (lv_at hl 5 rfl) ?_
              refine pc_aldA hx hb hkp hP 1 rfl (k := k) (show k < 12 by omega) (by decide) (v := st k) rfl dL_build_188 ?_
              refine lv_iconst (v := 1) hx hb dL_build_189 (by decide) ?_
              refine lv_iload hx hb dL_build_190 (lv_at hl 0 rfl) ?_
              refine row_astS hx hb hK hP hD hS (k := k) (j := 1) (show k < 12 by omega) (show 1 < 6 by omega) (by decide) dL_build_192 (fun H locs hP hD hS => ?_)
              have hP : va_P D vwCl (([] : va_W) ++ (wS5 cy r0 sa st (fun _ => 0) (un u1) (uw u1) (ud u1) (nI (zh (uh u1))) (zl (uh u1)) ++ (rows12 cy st 6 (rset (rowS (uh u1)) k 1 (nI k170)) ++ (wX cy a q q2 ca ta u1 hNew ++ [])))) H := hP
              have hD : va_D A (([] : va_W) ++ (wS5 cy r0 sa st (fun _ => 0) (un u1) (uw u1) (ud u1) (nI (zh (uh u1))) (zl (uh u1)) ++ (rows12 cy st 6 (rset (rowS (uh u1)) k 1 (nI k170)) ++ (wX cy a q q2 ca ta u1 hNew ++ [])))) := hD
              have e9 : (rset (rowS (uh u1)) k 1 (nI k170)) = rowS (hPush (uh u1) k (nI k170)) := (fresh_push e1)
              rw [e9] at hP hD
              clear e9
              have hP : va_P D vwCl (([] : va_W) ++ (wS5 cy r0 sa st (fun _ => 0) (un u1) (uw u1) (ud u1) (nI (zh (uh u1))) (zl (uh u1)) ++ (rows12 cy st 6 (rowS (hPush (uh u1) k (nI k170))) ++ (wX cy a q q2 ca ta u1 hNew ++ [])))) H := hP
              have hD : va_D A (([] : va_W) ++ (wS5 cy r0 sa st (fun _ => 0) (un u1) (uw u1) (ud u1) (nI (zh (uh u1))) (zl (uh u1)) ++ (rows12 cy st 6 (rowS (hPush (uh u1) k (nI k170))) ++ (wX cy a q q2 ca ta u1 hNew ++ [])))) := hD
              refine lv_aload_n hx hb dL_build_193 rfl (lv_at hl 2 rfl) ?_
              refine lv_iload_n hx hb dL_build_194 rfl (lv_at hl 5 rfl) ?_
              refine lv_iload hx hb dL_build_195 (lv_at hl 0 rfl) ?_
              refine cls_w (Lc := ([] : va_W)) (S5 := wS5 cy r0 sa st (fun _ => 0) (un u1) (uw u1) (ud u1) (nI (zh (uh u1))) (zl (uh u1))) (S12 := rows12 cy st 6 (rowS (hPush (uh u1) k (nI k170)))) (T := []) (As := [.int (nI k), .int (nI k170)]) (rest := []) (uf := fun (_ : Unit) => uH u1 (hPush (uh u1) (ix (nI k)) (nI k170))) (gf := fun (_ : Unit) => hNew) hP hD hS hA hK hXA ⟨hx, hb, hml, hown, hts⟩ (mX2_push l hst D cy H.size a q q2 ca ta u1 hNew I1.1 (nI k) (nI k170)) (fun E h => h.2 (exPush_w (by omega) (by omega) (by omega) e1)) (cwV 2 hts gL_build_X2_push rfl rfl rfl (by decide +kernel) ⟨Nat.le_of_ble_eq_true rfl, Nat.le_of_ble_eq_true rfl⟩) rfl rfl hl.1 (Nat.le_of_ble_eq_true rfl) dL_build_197 ⟨(show 17 + 6 * k + 1 + 3 ≤ 140 by omega), (show 114 + 36 * k + 6 + 18 ≤ 840 by omega)⟩ (fun _ H locs hP hD hS => ?_)
              have hP : va_P D vwCl (([] : va_W) ++ (wS5 cy r0 sa st (fun _ => 0) (un u1) (uw u1) (ud u1) (nI (zh (uh u1))) (zl (uh u1)) ++ (rows12 cy st 6 (rowS (hPush (uh u1) k (nI k170))) ++ (wX cy a q q2 ca ta (uH u1 (hPush (uh u1) (ix (nI k)) (nI k170))) hNew ++ [])))) H := hP
              have hD : va_D A (([] : va_W) ++ (wS5 cy r0 sa st (fun _ => 0) (un u1) (uw u1) (ud u1) (nI (zh (uh u1))) (zl (uh u1)) ++ (rows12 cy st 6 (rowS (hPush (uh u1) k (nI k170))) ++ (wX cy a q q2 ca ta (uH u1 (hPush (uh u1) (ix (nI k)) (nI k170))) hNew ++ [])))) := hD
              rw [ixk] at hP hD
              have hP : va_P D vwCl (([] : va_W) ++ (wS5 cy r0 sa st (fun _ => 0) (un u1) (uw u1) (ud u1) (nI (zh (uh u1))) (zl (uh u1)) ++ (rows12 cy st 6 (rowS (hPush (uh u1) k (nI k170))) ++ (wX cy a q q2 ca ta (uH u1 (hPush (uh u1) k (nI k170))) hNew ++ [])))) H := hP
              have hD : va_D A (([] : va_W) ++ (wS5 cy r0 sa st (fun _ => 0) (un u1) (uw u1) (ud u1) (nI (zh (uh u1))) (zl (uh u1)) ++ (rows12 cy st 6 (rowS (hPush (uh u1) k (nI k170))) ++ (wX cy a q q2 ca ta (uH u1 (hPush (uh u1) k (nI k170))) hNew ++ [])))) := hD
              refine pc_top (show tone (hPush (uh u1) (ix (nI k)) (nI k170)) (ix (nI k)) = tone (hPush (uh u1) k (nI k170)) k from (by rw [ixk])) ?_
              refine lv_aload_n hx hb dL_build_200 rfl (lv_at hl 4 rfl) ?_
              refine lv_iload_n hx hb dL_build_201 rfl (lv_at hl 5 rfl) ?_
              refine sim_p (Lc := ([] : va_W)) (S5 := wS5 cy r0 sa st (fun _ => 0) (un u1) (uw u1) (ud u1) (nI (zh (uh u1))) (zl (uh u1))) (S12 := rows12 cy st 6 (rowS (hPush (uh u1) k (nI k170)))) (X := wX cy a q q2 ca ta (uH u1 (hPush (uh u1) k (nI k170))) hNew ++ []) (Y := []) (As := [.int (nI k)]) (rest := [.int (tone (hPush (uh u1) k (nI k170)) k)]) hP hK hkp ⟨hx, hb, hml, hown, hts⟩ (mX3_tone l D cy r0 sa st (fun _ => 0) (uH u1 (hPush (uh u1) k (nI k170))) k (by omega)) (no_mem) rfl (cwV 1 hts gL_build_X3_tone rfl rfl rfl (by decide +kernel) ⟨Nat.le_of_ble_eq_true rfl, Nat.le_of_ble_eq_true rfl⟩) rfl rfl hl.1 (Nat.le_of_ble_eq_true rfl) dL_build_202 ⟨(show 17 + 6 * k + 1 + 3 ≤ 140 by omega), (show 114 + 36 * k + 6 + 18 ≤ 840 by omega)⟩ ?_
              refine lv_icmp_eq (tgt := 210) hx hb dL_build_205 (by decide) (fun c205 => ?_) (fun c205 => absurd c205 (not_not_intro rfl))
              have hP : va_P D vwCl (([] : va_W) ++ (wS5 cy r0 sa st (fun _ => 0) (un (uH u1 (hPush (uh u1) k (nI k170)))) (uw (uH u1 (hPush (uh u1) k (nI k170)))) (ud (uH u1 (hPush (uh u1) k (nI k170)))) (nI (zh (uh (uH u1 (hPush (uh u1) k (nI k170)))))) (zl (uh (uH u1 (hPush (uh u1) k (nI k170))))) ++ (rows12 cy st 6 (rowS (uh (uH u1 (hPush (uh u1) k (nI k170))))) ++ (wX cy a q q2 ca ta (uH u1 (hPush (uh u1) k (nI k170))) hNew ++ [])))) H := hP
              have hD : va_D A (([] : va_W) ++ (wS5 cy r0 sa st (fun _ => 0) (un (uH u1 (hPush (uh u1) k (nI k170)))) (uw (uH u1 (hPush (uh u1) k (nI k170)))) (ud (uH u1 (hPush (uh u1) k (nI k170)))) (nI (zh (uh (uH u1 (hPush (uh u1) k (nI k170)))))) (zl (uh (uH u1 (hPush (uh u1) k (nI k170))))) ++ (rows12 cy st 6 (rowS (uh (uH u1 (hPush (uh u1) k (nI k170))))) ++ (wX cy a q q2 ca ta (uH u1 (hPush (uh u1) k (nI k170))) hNew ++ [])))) := hD
              have I3 : INV (uH u1 (hPush (uh u1) k (nI k170))) := INV_pushw I1 e1 hk170
              have F3 : FR (uH u1 (hPush (uh u1) k (nI k170))) (k + 1) := FR_push F1
              have G3 : FW (uH u1 (hPush (uh u1) k (nI k170))) (k + 1) := FW_H G1
              generalize hu3 : (uH u1 (hPush (uh u1) k (nI k170)) : US) = u3 at hP hD I3 F3 G3
              have hP : va_P D vwCl (([] : va_W) ++ (wS5 cy r0 sa st (fun _ => 0) (un u3) (uw u3) (ud u3) (nI (zh (uh u3))) (zl (uh u3)) ++ (rows12 cy st 6 (rowS (uh u3)) ++ (wX cy a q q2 ca ta u3 hNew ++ [])))) H := hP
              have hD : va_D A (([] : va_W) ++ (wS5 cy r0 sa st (fun _ => 0) (un u3) (uw u3) (ud u3) (nI (zh (uh u3))) (zl (uh u3)) ++ (rows12 cy st 6 (rowS (uh u3)) ++ (wX cy a q q2 ca ta u3 hNew ++ [])))) := hD
              refine lv_iinc (v := nI (k + 1)) (lv' := [(3, .int (nI (k + 1))), (5, .int (nI k170)), (4, .int ((w99 >>> ((nI k) &&& 31)) + (nI (19 * k)))), (0, .ref (a 0)), (1, .ref b0), (2, .ref r0)]) hx hb dL_build_210 hl (k := 5) rfl ((show (nI k) + Int32.ofInt 1 = (nI k) + 1 from rfl).trans (show (nI k) + 1 = nI (k + 1) from nI_add k 1)) (by decide) rfl (fun ls hl => ?_)
              refine lv_goto (tgt := 10) hx hb dL_build_213 (by decide) ?_
              refine W.widen (k := 17 + 6 * (k + 1)) (n := 114 + 36 * (k + 1)) (by omega) (by omega) ?_
              exact ih10 (k + 1) u3 (by omega) I3 F3 G3 (by omega) _ _ hP hD hS ls (lv_sub hl [3, 4, 5, 0] rfl)
            · have n177 : k170 = 0 := (nI_eq (a := k170) (b := 0) (by omega) (by omega)).mp c177
              refine lv_goto (tgt := 210) hx hb dL_build_180 (by decide) ?_
              have F3 := FR_s F1
              refine lv_iinc (v := nI (k + 1)) (lv' := [(3, .int (nI (k + 1))), (5, .int (nI k170)), (4, .int ((w99 >>> ((nI k) &&& 31)) + (nI (19 * k)))), (0, .ref (a 0)), (1, .ref b0), (2, .ref r0)]) hx hb dL_build_210 hl (k := 5) rfl ((show (nI k) + Int32.ofInt 1 = (nI k) + 1 from rfl).trans (show (nI k) + 1 = nI (k + 1) from nI_add k 1)) (by decide) rfl (fun ls hl => ?_)
              refine lv_goto (tgt := 10) hx hb dL_build_213 (by decide) ?_
              refine W.widen (k := 17 + 6 * (k + 1)) (n := 114 + 36 * (k + 1)) (by omega) (by omega) ?_
              exact ih10 (k + 1) u1 (by omega) I1 F3 G1 (by omega) _ _ hP hD hS ls (lv_sub hl [3, 4, 5, 0] rfl)
          · have n117 : ¬ (k114 ≤ 0) := fun h9 => c117 ((nI_leI (a := k114) (b := 0) (by omega) (by omega)).mpr h9)
            obtain ⟨f1, f2, f3, f4⟩ := F1.2.2 k (Nat.le_refl _) (by omega)
            refine lv_aload_n hx hb dL_build_120 rfl (lv_at hl 3 rfl) ?_
            refine va_get (D := D) (ci := 3) (v := .ref (sa 0)) (C := RX3) (T := TX3) (N := 6) hx hb hts inL_build_RX3 hown hK hP 0 rfl rfl 0 (by decide) (hts _ kL_build_7) (fun _ h9 => h9) rfl dL_build_121 ?_
            refine lv_iload_n hx hb dL_build_124 rfl (lv_at hl 4 rfl) ?_
            refine pc_aldA hx hb hkp hP 1 rfl (k := k) (show k < 12 by omega) (by decide) (v := st k) rfl dL_build_125 ?_
            refine lv_iconst (v := 0) hx hb dL_build_126 (by decide) ?_
            refine lv_bipush (v := 100) hx hb dL_build_127 (by decide) ?_
            refine lv_iload hx hb dL_build_129 (lv_at hl 0 rfl) ?_
            refine lv_iconst (v := 5) hx hb dL_build_131 (by decide) ?_
            refine lv_imul hx hb dL_build_132 ?_
            refine lv_sipush (v := 801) hx hb dL_build_133 (by decide) ?_
            refine pc_calli (va_runS (As := [.int (((w99 >>> ((nI k) &&& 31)) + (nI (19 * k))) * 5), .int 801]) (rest := [.int 100, .int 0, .ref (st k)]) ⟨hx, hb, hml, hown, hts⟩ (mL_below l D cy (((w99 >>> ((nI k) &&& 31)) + (nI (19 * k))) * 5) 801 (by decide) (by decide)) (va_cwS 2 hts gL_build_L_below rfl rfl rfl (by decide +kernel) ⟨Nat.le_of_ble_eq_true rfl, Nat.le_of_ble_eq_true rfl⟩) ⟨fun a U g mk q => q, fun U hU hW => ⟨rfl, trivial⟩⟩ rfl rfl hl.1 rfl (lv_room (Nat.le_of_ble_eq_true rfl)) dL_build_136 ⟨(show 17 + 6 * k + 1 ≤ 140 by omega), (show 114 + 36 * k + 6 ≤ 840 by omega)⟩) (fun r9 hr9 => ?_)
            obtain ⟨k136, hk136, rfl⟩ := hr9
            refine lv_iadd hx hb dL_build_139 ?_
            refine pc_top (show 100 + (nI k136) = nI (100 + k136) from nI_add 100 k136) ?_
            refine row_astS hx hb hK hP hD hS (k := k) (j := 0) (show k < 12 by omega) (show 0 < 6 by omega) (by decide) dL_build_140 (fun H locs hP hD hS => ?_)
            have hP : va_P D vwCl (([] : va_W) ++ (wS5 cy r0 sa st (fun _ => 0) (un u1) (uw u1) (ud u1) (nI (zh (uh u1))) (zl (uh u1)) ++ (rows12 cy st 6 (rset (rowS (uh u1)) k 0 (nI (100 + k136))) ++ (wX cy a q q2 ca ta u1 hNew ++ [])))) H := hP
            have hD : va_D A (([] : va_W) ++ (wS5 cy r0 sa st (fun _ => 0) (un u1) (uw u1) (ud u1) (nI (zh (uh u1))) (zl (uh u1)) ++ (rows12 cy st 6 (rset (rowS (uh u1)) k 0 (nI (100 + k136))) ++ (wX cy a q q2 ca ta u1 hNew ++ [])))) := hD
            have e9 : (rset (rowS (uh u1)) k 0 (nI (100 + k136))) = rowS (hRenew (uh u1) k (nI (100 + k136))) := (fresh_draw f2 f3 f4)
            rw [e9] at hP hD
            clear e9
            have hP : va_P D vwCl (([] : va_W) ++ (wS5 cy r0 sa st (fun _ => 0) (un u1) (uw u1) (ud u1) (nI (zh (uh u1))) (zl (uh u1)) ++ (rows12 cy st 6 (rowS (hRenew (uh u1) k (nI (100 + k136)))) ++ (wX cy a q q2 ca ta u1 hNew ++ [])))) H := hP
            have hD : va_D A (([] : va_W) ++ (wS5 cy r0 sa st (fun _ => 0) (un u1) (uw u1) (ud u1) (nI (zh (uh u1))) (zl (uh u1)) ++ (rows12 cy st 6 (rowS (hRenew (uh u1) k (nI (100 + k136)))) ++ (wX cy a q q2 ca ta u1 hNew ++ [])))) := hD
            refine lv_aload_n hx hb dL_build_141 rfl (lv_at hl 1 rfl) ?_
            refine lv_iload_n hx hb dL_build_142 rfl (lv_at hl 4 rfl) ?_
            refine lv_aload_n hx hb dL_build_143 rfl (lv_at hl 3 rfl) ?_
            refine va_get (D := D) (ci := 3) (v := .ref (sa 0)) (C := RX3) (T := TX3) (N := 6) hx hb hts inL_build_RX3 hown hK hP 0 rfl rfl 0 (by decide) (hts _ kL_build_7) (fun _ h9 => h9) rfl dL_build_144 ?_
            refine lv_iload_n hx hb dL_build_147 rfl (lv_at hl 4 rfl) ?_
            refine pc_aldA hx hb hkp hP 1 rfl (k := k) (show k < 12 by omega) (by decide) (v := st k) rfl dL_build_148 ?_
            refine lv_iconst (v := 0) hx hb dL_build_149 (by decide) ?_
            refine row_aldS hx hb hK hP (k := k) (j := 0) (show k < 12 by omega) (show 0 < 6 by omega) (by decide) dL_build_150 ?_
            refine pc_top (show (rowS (hRenew (uh u1) k (nI (100 + k136)))) k 0 = zb (hRenew (uh u1) k (nI (100 + k136))) k from rfl) ?_
            refine pc_top (show zb (hRenew (uh u1) k (nI (100 + k136))) k = nI (100 + k136) from pk_us) ?_
            refine cls_w (Lc := ([] : va_W)) (S5 := wS5 cy r0 sa st (fun _ => 0) (un u1) (uw u1) (ud u1) (nI (zh (uh u1))) (zl (uh u1))) (S12 := rows12 cy st 6 (rowS (hRenew (uh u1) k (nI (100 + k136))))) (T := []) (As := [.int (nI k), .int (nI (100 + k136))]) (rest := []) (uf := fun (_ : Unit) => uH u1 (hRenew (uh u1) (ix (nI k)) (nI (100 + k136)))) (gf := fun (_ : Unit) => hNew) hP hD hS hA hK hXA ⟨hx, hb, hml, hown, hts⟩ (mX2_draw l hst D cy H.size a q q2 ca ta u1 hNew I1.1 (nI k) (nI (100 + k136))) (fun E h => h.2 (exDraw_0 (by omega) hk136)) (cwV 2 hts gL_build_X2_draw rfl rfl rfl (by decide +kernel) ⟨Nat.le_of_ble_eq_true rfl, Nat.le_of_ble_eq_true rfl⟩) rfl rfl hl.1 (Nat.le_of_ble_eq_true rfl) dL_build_151 ⟨(show 17 + 6 * k + 1 + 2 ≤ 140 by omega), (show 114 + 36 * k + 6 + 12 ≤ 840 by omega)⟩ (fun _ H locs hP hD hS => ?_)
            have hP : va_P D vwCl (([] : va_W) ++ (wS5 cy r0 sa st (fun _ => 0) (un u1) (uw u1) (ud u1) (nI (zh (uh u1))) (zl (uh u1)) ++ (rows12 cy st 6 (rowS (hRenew (uh u1) k (nI (100 + k136)))) ++ (wX cy a q q2 ca ta (uH u1 (hRenew (uh u1) (ix (nI k)) (nI (100 + k136)))) hNew ++ [])))) H := hP
            have hD : va_D A (([] : va_W) ++ (wS5 cy r0 sa st (fun _ => 0) (un u1) (uw u1) (ud u1) (nI (zh (uh u1))) (zl (uh u1)) ++ (rows12 cy st 6 (rowS (hRenew (uh u1) k (nI (100 + k136)))) ++ (wX cy a q q2 ca ta (uH u1 (hRenew (uh u1) (ix (nI k)) (nI (100 + k136)))) hNew ++ [])))) := hD
            rw [ixk] at hP hD
            have hP : va_P D vwCl (([] : va_W) ++ (wS5 cy r0 sa st (fun _ => 0) (un u1) (uw u1) (ud u1) (nI (zh (uh u1))) (zl (uh u1)) ++ (rows12 cy st 6 (rowS (hRenew (uh u1) k (nI (100 + k136)))) ++ (wX cy a q q2 ca ta (uH u1 (hRenew (uh u1) k (nI (100 + k136)))) hNew ++ [])))) H := hP
            have hD : va_D A (([] : va_W) ++ (wS5 cy r0 sa st (fun _ => 0) (un u1) (uw u1) (ud u1) (nI (zh (uh u1))) (zl (uh u1)) ++ (rows12 cy st 6 (rowS (hRenew (uh u1) k (nI (100 + k136)))) ++ (wX cy a q q2 ca ta (uH u1 (hRenew (uh u1) k (nI (100 + k136)))) hNew ++ [])))) := hD
            refine pc_top (show tone (hRenew (uh u1) (ix (nI k)) (nI (100 + k136))) (ix (nI k)) = tone (hRenew (uh u1) k (nI (100 + k136))) k from (by rw [ixk])) ?_
            refine lv_aload_n hx hb dL_build_154 rfl (lv_at hl 3 rfl) ?_
            refine lv_iload_n hx hb dL_build_155 rfl (lv_at hl 4 rfl) ?_
            refine sim_p (Lc := ([] : va_W)) (S5 := wS5 cy r0 sa st (fun _ => 0) (un u1) (uw u1) (ud u1) (nI (zh (uh u1))) (zl (uh u1))) (S12 := rows12 cy st 6 (rowS (hRenew (uh u1) k (nI (100 + k136))))) (X := wX cy a q q2 ca ta (uH u1 (hRenew (uh u1) k (nI (100 + k136)))) hNew ++ []) (Y := []) (As := [.int (nI k)]) (rest := [.int (tone (hRenew (uh u1) k (nI (100 + k136))) k)]) hP hK hkp ⟨hx, hb, hml, hown, hts⟩ (mX3_tone l D cy r0 sa st (fun _ => 0) (uH u1 (hRenew (uh u1) k (nI (100 + k136)))) k (by omega)) (no_mem) rfl (cwV 1 hts gL_build_X3_tone rfl rfl rfl (by decide +kernel) ⟨Nat.le_of_ble_eq_true rfl, Nat.le_of_ble_eq_true rfl⟩) rfl rfl hl.1 (Nat.le_of_ble_eq_true rfl) dL_build_156 ⟨(show 17 + 6 * k + 1 + 2 ≤ 140 by omega), (show 114 + 36 * k + 6 + 12 ≤ 840 by omega)⟩ ?_
            refine lv_icmp_eq (tgt := 164) hx hb dL_build_159 (by decide) (fun c159 => ?_) (fun c159 => absurd c159 (not_not_intro rfl))
            have hP : va_P D vwCl (([] : va_W) ++ (wS5 cy r0 sa st (fun _ => 0) (un (uH u1 (hRenew (uh u1) k (nI (100 + k136))))) (uw (uH u1 (hRenew (uh u1) k (nI (100 + k136))))) (ud (uH u1 (hRenew (uh u1) k (nI (100 + k136))))) (nI (zh (uh (uH u1 (hRenew (uh u1) k (nI (100 + k136))))))) (zl (uh (uH u1 (hRenew (uh u1) k (nI (100 + k136)))))) ++ (rows12 cy st 6 (rowS (uh (uH u1 (hRenew (uh u1) k (nI (100 + k136)))))) ++ (wX cy a q q2 ca ta (uH u1 (hRenew (uh u1) k (nI (100 + k136)))) hNew ++ [])))) H := hP
            have hD : va_D A (([] : va_W) ++ (wS5 cy r0 sa st (fun _ => 0) (un (uH u1 (hRenew (uh u1) k (nI (100 + k136))))) (uw (uH u1 (hRenew (uh u1) k (nI (100 + k136))))) (ud (uH u1 (hRenew (uh u1) k (nI (100 + k136))))) (nI (zh (uh (uH u1 (hRenew (uh u1) k (nI (100 + k136))))))) (zl (uh (uH u1 (hRenew (uh u1) k (nI (100 + k136)))))) ++ (rows12 cy st 6 (rowS (uh (uH u1 (hRenew (uh u1) k (nI (100 + k136)))))) ++ (wX cy a q q2 ca ta (uH u1 (hRenew (uh u1) k (nI (100 + k136)))) hNew ++ [])))) := hD
            have I2 : INV (uH u1 (hRenew (uh u1) k (nI (100 + k136)))) := INV_draw I1 hk136
            have F2 : FR (uH u1 (hRenew (uh u1) k (nI (100 + k136)))) k := FR_draw F1
            have G2 : FW (uH u1 (hRenew (uh u1) k (nI (100 + k136)))) (k + 1) := FW_H G1
            generalize hu2 : (uH u1 (hRenew (uh u1) k (nI (100 + k136))) : US) = u2 at hP hD I2 F2 G2
            have hP : va_P D vwCl (([] : va_W) ++ (wS5 cy r0 sa st (fun _ => 0) (un u2) (uw u2) (ud u2) (nI (zh (uh u2))) (zl (uh u2)) ++ (rows12 cy st 6 (rowS (uh u2)) ++ (wX cy a q q2 ca ta u2 hNew ++ [])))) H := hP
            have hD : va_D A (([] : va_W) ++ (wS5 cy r0 sa st (fun _ => 0) (un u2) (uw u2) (ud u2) (nI (zh (uh u2))) (zl (uh u2)) ++ (rows12 cy st 6 (rowS (uh u2)) ++ (wX cy a q q2 ca ta u2 hNew ++ [])))) := hD
            refine lv_iload hx hb dL_build_164 (lv_at hl 0 rfl) ?_
            refine lv_iconst (v := 3) hx hb dL_build_166 (by decide) ?_
            refine lv_ishr hx hb dL_build_167 ?_
            refine lv_bipush (v := 21) hx hb dL_build_168 (by decide) ?_
            refine pc_calli (va_runS (As := [.int (((w99 >>> ((nI k) &&& 31)) + (nI (19 * k))) >>> (3 &&& 31)), .int 21]) (rest := []) ⟨hx, hb, hml, hown, hts⟩ (mL_below l D cy (((w99 >>> ((nI k) &&& 31)) + (nI (19 * k))) >>> (3 &&& 31)) 21 (by decide) (by decide)) (va_cwS 2 hts gL_build_L_below rfl rfl rfl (by decide +kernel) ⟨Nat.le_of_ble_eq_true rfl, Nat.le_of_ble_eq_true rfl⟩) ⟨fun a U g mk q => q, fun U hU hW => ⟨rfl, trivial⟩⟩ rfl rfl hl.1 rfl (lv_room (Nat.le_of_ble_eq_true rfl)) dL_build_170 ⟨(show 17 + 6 * k + 1 + 2 ≤ 140 by omega), (show 114 + 36 * k + 6 + 12 ≤ 840 by omega)⟩) (fun r9 hr9 => ?_)
            obtain ⟨k170, hk170, rfl⟩ := hr9
            refine lv_istore (lv' := [(5, .int (nI k170)), (4, .int ((w99 >>> ((nI k) &&& 31)) + (nI (19 * k)))), (0, .ref (a 0)), (1, .ref b0), (2, .ref r0), (3, .int (nI k))]) hx hb dL_build_173 hl (by decide) rfl (fun ls hl => ?_)
            refine lv_iload hx hb dL_build_175 (lv_at hl 0 rfl) ?_
            refine lv_if_ne (tgt := 183) hx hb dL_build_177 (by decide) (fun c177 => ?_) (fun c177 => ?_)
            · have n177 : ¬ (k170 = 0) := fun h9 => c177 ((nI_eq (a := k170) (b := 0) (by omega) (by omega)).mpr h9)
              obtain ⟨e1, e2, e3, e4⟩ := F2.2.2 k (Nat.le_refl _) (by omega)
              refine lv_aload_n hx hb dL_build_183 rfl (lv_at hl 4 rfl) ?_
              refine va_get (D := D) (ci := 3) (v := .ref (sa 0)) (C := RX3) (T := TX3) (N := 6) hx hb hts inL_build_RX3 hown hK hP 0 rfl rfl 0 (by decide) (hts _ kL_build_7) (fun _ h9 => h9) rfl dL_build_184 ?_
              refine lv_iload_n hx hb dL_build_187 rfl (lv_at hl 5 rfl) ?_
              refine pc_aldA hx hb hkp hP 1 rfl (k := k) (show k < 12 by omega) (by decide) (v := st k) rfl dL_build_188 ?_
              refine lv_iconst (v := 1) hx hb dL_build_189 (by decide) ?_
              refine lv_iload hx hb dL_build_190 (lv_at hl 0 rfl) ?_
              refine row_astS hx hb hK hP hD hS (k := k) (j := 1) (show k < 12 by omega) (show 1 < 6 by omega) (by decide) dL_build_192 (fun H locs hP hD hS => ?_)
              have hP : va_P D vwCl (([] : va_W) ++ (wS5 cy r0 sa st (fun _ => 0) (un u2) (uw u2) (ud u2) (nI (zh (uh u2))) (zl (uh u2)) ++ (rows12 cy st 6 (rset (rowS (uh u2)) k 1 (nI k170)) ++ (wX cy a q q2 ca ta u2 hNew ++ [])))) H := hP
              have hD : va_D A (([] : va_W) ++ (wS5 cy r0 sa st (fun _ => 0) (un u2) (uw u2) (ud u2) (nI (zh (uh u2))) (zl (uh u2)) ++ (rows12 cy st 6 (rset (rowS (uh u2)) k 1 (nI k170)) ++ (wX cy a q q2 ca ta u2 hNew ++ [])))) := hD
              have e9 : (rset (rowS (uh u2)) k 1 (nI k170)) = rowS (hPush (uh u2) k (nI k170)) := (fresh_push e1)
              rw [e9] at hP hD
              clear e9
              have hP : va_P D vwCl (([] : va_W) ++ (wS5 cy r0 sa st (fun _ => 0) (un u2) (uw u2) (ud u2) (nI (zh (uh u2))) (zl (uh u2)) ++ (rows12 cy st 6 (rowS (hPush (uh u2) k (nI k170))) ++ (wX cy a q q2 ca ta u2 hNew ++ [])))) H := hP
              have hD : va_D A (([] : va_W) ++ (wS5 cy r0 sa st (fun _ => 0) (un u2) (uw u2) (ud u2) (nI (zh (uh u2))) (zl (uh u2)) ++ (rows12 cy st 6 (rowS (hPush (uh u2) k (nI k170))) ++ (wX cy a q q2 ca ta u2 hNew ++ [])))) := hD
              refine lv_aload_n hx hb dL_build_193 rfl (lv_at hl 2 rfl) ?_
              refine lv_iload_n hx hb dL_build_194 rfl (lv_at hl 5 rfl) ?_
              refine lv_iload hx hb dL_build_195 (lv_at hl 0 rfl) ?_
              refine cls_w (Lc := ([] : va_W)) (S5 := wS5 cy r0 sa st (fun _ => 0) (un u2) (uw u2) (ud u2) (nI (zh (uh u2))) (zl (uh u2))) (S12 := rows12 cy st 6 (rowS (hPush (uh u2) k (nI k170)))) (T := []) (As := [.int (nI k), .int (nI k170)]) (rest := []) (uf := fun (_ : Unit) => uH u2 (hPush (uh u2) (ix (nI k)) (nI k170))) (gf := fun (_ : Unit) => hNew) hP hD hS hA hK hXA ⟨hx, hb, hml, hown, hts⟩ (mX2_push l hst D cy H.size a q q2 ca ta u2 hNew I2.1 (nI k) (nI k170)) (fun E h => h.2 (exPush_w (by omega) (by omega) (by omega) e1)) (cwV 2 hts gL_build_X2_push rfl rfl rfl (by decide +kernel) ⟨Nat.le_of_ble_eq_true rfl, Nat.le_of_ble_eq_true rfl⟩) rfl rfl hl.1 (Nat.le_of_ble_eq_true rfl) dL_build_197 ⟨(show 17 + 6 * k + 1 + 2 + 3 ≤ 140 by omega), (show 114 + 36 * k + 6 + 12 + 18 ≤ 840 by omega)⟩ (fun _ H locs hP hD hS => ?_)
              have hP : va_P D vwCl (([] : va_W) ++ (wS5 cy r0 sa st (fun _ => 0) (un u2) (uw u2) (ud u2) (nI (zh (uh u2))) (zl (uh u2)) ++ (rows12 cy st 6 (rowS (hPush (uh u2) k (nI k170))) ++ (wX cy a q q2 ca ta (uH u2 (hPush (uh u2) (ix (nI k)) (nI k170))) hNew ++ [])))) H := hP
              have hD : va_D A (([] : va_W) ++ (wS5 cy r0 sa st (fun _ => 0) (un u2) (uw u2) (ud u2) (nI (zh (uh u2))) (zl (uh u2)) ++ (rows12 cy st 6 (rowS (hPush (uh u2) k (nI k170))) ++ (wX cy a q q2 ca ta (uH u2 (hPush (uh u2) (ix (nI k)) (nI k170))) hNew ++ [])))) := hD
              rw [ixk] at hP hD
              have hP : va_P D vwCl (([] : va_W) ++ (wS5 cy r0 sa st (fun _ => 0) (un u2) (uw u2) (ud u2) (nI (zh (uh u2))) (zl (uh u2)) ++ (rows12 cy st 6 (rowS (hPush (uh u2) k (nI k170))) ++ (wX cy a q q2 ca ta (uH u2 (hPush (uh u2) k (nI k170))) hNew ++ [])))) H := hP
              have hD : va_D A (([] : va_W) ++ (wS5 cy r0 sa st (fun _ => 0) (un u2) (uw u2) (ud u2) (nI (zh (uh u2))) (zl (uh u2)) ++ (rows12 cy st 6 (rowS (hPush (uh u2) k (nI k170))) ++ (wX cy a q q2 ca ta (uH u2 (hPush (uh u2) k (nI k170))) hNew ++ [])))) := hD
              refine pc_top (show tone (hPush (uh u2) (ix (nI k)) (nI k170)) (ix (nI k)) = tone (hPush (uh u2) k (nI k170)) k from (by rw [ixk])) ?_
              refine lv_aload_n hx hb dL_build_200 rfl (lv_at hl 4 rfl) ?_
              refine lv_iload_n hx hb dL_build_201 rfl (lv_at hl 5 rfl) ?_
              refine sim_p (Lc := ([] : va_W)) (S5 := wS5 cy r0 sa st (fun _ => 0) (un u2) (uw u2) (ud u2) (nI (zh (uh u2))) (zl (uh u2))) (S12 := rows12 cy st 6 (rowS (hPush (uh u2) k (nI k170)))) (X := wX cy a q q2 ca ta (uH u2 (hPush (uh u2) k (nI k170))) hNew ++ []) (Y := []) (As := [.int (nI k)]) (rest := [.int (tone (hPush (uh u2) k (nI k170)) k)]) hP hK hkp ⟨hx, hb, hml, hown, hts⟩ (mX3_tone l D cy r0 sa st (fun _ => 0) (uH u2 (hPush (uh u2) k (nI k170))) k (by omega)) (no_mem) rfl (cwV 1 hts gL_build_X3_tone rfl rfl rfl (by decide +kernel) ⟨Nat.le_of_ble_eq_true rfl, Nat.le_of_ble_eq_true rfl⟩) rfl rfl hl.1 (Nat.le_of_ble_eq_true rfl) dL_build_202 ⟨(show 17 + 6 * k + 1 + 2 + 3 ≤ 140 by omega), (show 114 + 36 * k + 6 + 12 + 18 ≤ 840 by omega)⟩ ?_
              refine lv_icmp_eq (tgt := 210) hx hb dL_build_205 (by decide) (fun c205 => ?_) (fun c205 => absurd c205 (not_not_intro rfl))
              have hP : va_P D vwCl (([] : va_W) ++ (wS5 cy r0 sa st (fun _ => 0) (un (uH u2 (hPush (uh u2) k (nI k170)))) (uw (uH u2 (hPush (uh u2) k (nI k170)))) (ud (uH u2 (hPush (uh u2) k (nI k170)))) (nI (zh (uh (uH u2 (hPush (uh u2) k (nI k170)))))) (zl (uh (uH u2 (hPush (uh u2) k (nI k170))))) ++ (rows12 cy st 6 (rowS (uh (uH u2 (hPush (uh u2) k (nI k170))))) ++ (wX cy a q q2 ca ta (uH u2 (hPush (uh u2) k (nI k170))) hNew ++ [])))) H := hP
              have hD : va_D A (([] : va_W) ++ (wS5 cy r0 sa st (fun _ => 0) (un (uH u2 (hPush (uh u2) k (nI k170)))) (uw (uH u2 (hPush (uh u2) k (nI k170)))) (ud (uH u2 (hPush (uh u2) k (nI k170)))) (nI (zh (uh (uH u2 (hPush (uh u2) k (nI k170)))))) (zl (uh (uH u2 (hPush (uh u2) k (nI k170))))) ++ (rows12 cy st 6 (rowS (uh (uH u2 (hPush (uh u2) k (nI k170))))) ++ (wX cy a q q2 ca ta (uH u2 (hPush (uh u2) k (nI k170))) hNew ++ [])))) := hD
              have I3 : INV (uH u2 (hPush (uh u2) k (nI k170))) := INV_pushw I2 e1 hk170
              have F3 : FR (uH u2 (hPush (uh u2) k (nI k170))) (k + 1) := FR_push F2
              have G3 : FW (uH u2 (hPush (uh u2) k (nI k170))) (k + 1) := FW_H G2
              generalize hu3 : (uH u2 (hPush (uh u2) k (nI k170)) : US) = u3 at hP hD I3 F3 G3
              have hP : va_P D vwCl (([] : va_W) ++ (wS5 cy r0 sa st (fun _ => 0) (un u3) (uw u3) (ud u3) (nI (zh (uh u3))) (zl (uh u3)) ++ (rows12 cy st 6 (rowS (uh u3)) ++ (wX cy a q q2 ca ta u3 hNew ++ [])))) H := hP
              have hD : va_D A (([] : va_W) ++ (wS5 cy r0 sa st (fun _ => 0) (un u3) (uw u3) (ud u3) (nI (zh (uh u3))) (zl (uh u3)) ++ (rows12 cy st 6 (rowS (uh u3)) ++ (wX cy a q q2 ca ta u3 hNew ++ [])))) := hD
              refine lv_iinc (v := nI (k + 1)) (lv' := [(3, .int (nI (k + 1))), (5, .int (nI k170)), (4, .int ((w99 >>> ((nI k) &&& 31)) + (nI (19 * k)))), (0, .ref (a 0)), (1, .ref b0), (2, .ref r0)]) hx hb dL_build_210 hl (k := 5) rfl ((show (nI k) + Int32.ofInt 1 = (nI k) + 1 from rfl).trans (show (nI k) + 1 = nI (k + 1) from nI_add k 1)) (by decide) rfl (fun ls hl => ?_)
              refine lv_goto (tgt := 10) hx hb dL_build_213 (by decide) ?_
              refine W.widen (k := 17 + 6 * (k + 1)) (n := 114 + 36 * (k + 1)) (by omega) (by omega) ?_
              exact ih10 (k + 1) u3 (by omega) I3 F3 G3 (by omega) _ _ hP hD hS ls (lv_sub hl [3, 4, 5, 0] rfl)
            · have n177 : k170 = 0 := (nI_eq (a := k170) (b := 0) (by omega) (by omega)).mp c177
              refine lv_goto (tgt := 210) hx hb dL_build_180 (by decide) ?_
              have F3 := FR_s F2
              refine lv_iinc (v := nI (k + 1)) (lv' := [(3, .int (nI (k + 1))), (5, .int (nI k170)), (4, .int ((w99 >>> ((nI k) &&& 31)) + (nI (19 * k)))), (0, .ref (a 0)), (1, .ref b0), (2, .ref r0)]) hx hb dL_build_210 hl (k := 5) rfl ((show (nI k) + Int32.ofInt 1 = (nI k) + 1 from rfl).trans (show (nI k) + 1 = nI (k + 1) from nI_add k 1)) (by decide) rfl (fun ls hl => ?_)
              refine lv_goto (tgt := 10) hx hb dL_build_213 (by decide) ?_
              refine W.widen (k := 17 + 6 * (k + 1)) (n := 114 + 36 * (k + 1)) (by omega) (by omega) ?_
              exact ih10 (k + 1) u2 (by omega) I2 F3 G2 (by omega) _ _ hP hD hS ls (lv_sub hl [3, 4, 5, 0] rfl)
  refine W.widen (k := 17 + 6 * 0) (n := 114 + 36 * 0) (by omega) (by omega) ?_
  exact loop10 (12 + 1) 0 uNew (by decide) INV_new FR_new FW_new (by omega) _ _ hP hD hS ls (lv_sub hl [2, 3, 1, 0] rfl)

