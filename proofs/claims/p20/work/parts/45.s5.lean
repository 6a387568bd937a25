theorem inL_act_RX3 : ∀ w ∈ u_ws RX3 TX3 6, w ∈ wsL_act := by decide +kernel
theorem kL_act_0 : (.fieldLink RL 15 "WedgeHarpsLaw$Sim" "strings" "[[I" : Cond) ∈ wsL_act := by decide +kernel
theorem kL_act_1 : (.arrayClass .int : Cond) ∈ wsL_act := by decide +kernel
theorem kL_act_2 : (.fieldLink RL 33 "WedgeHarpsLaw$Sim" "wind" "[I" : Cond) ∈ wsL_act := by decide +kernel
theorem kL_act_3 : (.fieldLink RL 37 "WedgeHarpsLaw$Sim" "damp" "[I" : Cond) ∈ wsL_act := by decide +kernel
theorem kL_act_4 : (.fieldLink RL 44 "WedgeHarpsLaw$Sim" "chords" "[[I" : Cond) ∈ wsL_act := by decide +kernel
theorem kL_act_5 : (.classLink RL 52 "[I" : Cond) ∈ wsL_act := by decide +kernel
theorem kL_act_6 : (.methodLink RL 47 Lib.Math.max.name : Cond) ∈ wsL_act := by decide +kernel
theorem kL_act_7 : (.static Lib.Math.max.name : Cond) ∈ wsL_act := by decide +kernel
theorem kL_act_8 : (.initialized "java/lang/Math" : Cond) ∈ wsL_act := by decide +kernel
theorem kL_act_9 : (.code Lib.Math.max.name Lib.Math.max.code 2 (some .int) : Cond) ∈ wsL_act := by decide +kernel
set_option maxHeartbeats 4000000 in
set_option maxRecDepth 100000 in
theorem mL_act (l : Launch) (hst : l.stackTraces = false) (D : va_G) (cy : Nat → ClassId) (sz : Nat) (b : Nat) (sa st ch : Nat → Nat) (a q q2 ca ta : Nat → Nat) (u : US) (g : HS) (I : INV u) (xv : Int32) : Met l yL_act wsL_act ({ frames := 12, cells := 8, slots := 48, locals := 300 } : Room) (va_Pc [.ref (a 0), .ref b, .int xv] (fun U => U.heap.size = sz ∧ va_P D vwCl (wSu cy b sa st ch u ++ (wSr cy st u ++ (wX cy a q q2 ca ta u g ++ chT cy ch u))) U.heap ∧ va_K D vwCl (TY cy) U ∧ va_D (fun _ => True) (wSu cy b sa st ch u ++ (wSr cy st u ++ (wX cy a q q2 ca ta u g ++ chT cy ch u))) ∧ vKP cy U ∧ xCA (va_A (wSu cy b sa st ch u ++ (wSr cy st u ++ (wX cy a q q2 ca ta u g ++ chT cy ch u))) sz) U U.heap)) (va_Qi (fun (r8 : Int32) (z9 : US × (Nat → Nat) × (Nat → Nat) × (Nat → Nat)) => r8 = 1 ∧ INV z9.1 ∧ zh (uh z9.1) = zh (uh u)) (fun (z9 : US × (Nat → Nat) × (Nat → Nat) × (Nat → Nat)) t => va_P D vwCl (wSu cy b z9.2.1 z9.2.2.1 z9.2.2.2 z9.1 ++ (wSr cy z9.2.2.1 z9.1 ++ (wX cy a q q2 ca ta z9.1 g ++ chT cy z9.2.2.2 z9.1))) t.heap ∧ va_D (va_A (wSu cy b sa st ch u ++ (wSr cy st u ++ (wX cy a q q2 ca ta u g ++ chT cy ch u))) sz) (wSu cy b z9.2.1 z9.2.2.1 z9.2.2.2 z9.1 ++ (wSr cy z9.2.2.1 z9.1 ++ (wX cy a q q2 ca ta z9.1 g ++ chT cy z9.2.2.2 z9.1)))) (va_A (wSu cy b sa st ch u ++ (wSr cy st u ++ (wX cy a q q2 ca ta u g ++ chT cy ch u))) sz)) 8 48 (va_A (wSu cy b sa st ch u ++ (wSr cy st u ++ (wX cy a q q2 ca ta u g ++ chT cy ch u))) sz) := by
  refine Met.ofW (cc := cL_act) (maxL := 12) (ret := (some .boolean)) (by decide) rfl ?_
  intro p e s m args below meth c s₁ B hml hv
  obtain ⟨rfl, hsz, hP, hK, hD0, hkp, hXA⟩ := hv
  have hx := B.exec
  have hb := B.bytes
  have hr := B.returns
  have hts := atoms_spec (ws := wsL_act) B.pre
  have hown : s.vm.findClass RL = some m.cls := findClass_of_methodNamed B.named
  have hlocks := B.notSynchronized
  have hl := lv_entry ([.ref (a 0), .ref b, .int xv]) (n := 12) (Nat.le_of_ble_eq_true rfl)
  rw [lg_entry_eq]
  generalize (lg_sl ([.ref (a 0), .ref b, .int xv]) ++ List.replicate (12 - (lg_sl ([.ref (a 0), .ref b, .int xv])).length) Slot.unset).toArray = ls at hl ⊢
  have hl : lv_has ls 12 [(0, .ref (a 0)), (1, .ref b), (2, .int xv)] := hl
  subst hsz
  have hD := hD0.self (sz := s.heap.size)
  generalize hAe : va_A (wSu cy b sa st ch u ++ (wSr cy st u ++ (wX cy a q q2 ca ta u g ++ chT cy ch u))) s.heap.size = A at hD hXA ⊢
  have hA : ∀ q : Nat, s.heap.size ≤ q → A q := fun q h => by rw [← hAe]; exact Or.inr h
  have hS : va_S A s.heap s.heap [] := va_S.rf
  have hu6 : un u ≤ 6 := I.1.2.1
  have hP : va_P D vwCl (([] : va_W) ++ (wS5 cy b sa st ch (un u) (uw u) (ud u) (nI (zh (uh u))) (zl (uh u)) ++ (rows12 cy st 6 (rowS (uh u)) ++ (wX cy a q q2 ca ta u g ++ chT cy ch u)))) s.heap := hP
  have hD : va_D A (([] : va_W) ++ (wS5 cy b sa st ch (un u) (uw u) (ud u) (nI (zh (uh u))) (zl (uh u)) ++ (rows12 cy st 6 (rowS (uh u)) ++ (wX cy a q q2 ca ta u g ++ chT cy ch u)))) := hD
  refine lv_iload_n hx hb dL_act_0 rfl (lv_at hl 2 rfl) ?_
  refine lv_bipush (v := 12) hx hb dL_act_1 (by decide) ?_
  refine pc_calli (va_runS (As := [.int xv, .int 12]) (rest := []) ⟨hx, hb, hml, hown, hts⟩ (mL_below l D cy (xv) 12 (by decide) (by decide)) (va_cwS 2 hts gL_act_L_below rfl rfl rfl (by decide +kernel) ⟨Nat.le_of_ble_eq_true rfl, Nat.le_of_ble_eq_true rfl⟩) ⟨fun a U g mk q => q, fun U hU hW => ⟨rfl, trivial⟩⟩ rfl rfl hl.1 rfl (lv_room (Nat.le_of_ble_eq_true rfl)) dL_act_3 ⟨Nat.le_of_ble_eq_true rfl, Nat.le_of_ble_eq_true rfl⟩) (fun r9 hr9 => ?_)
  obtain ⟨k3, hk3, rfl⟩ := hr9
  have ixk : ix (nI k3) = k3 := ix_nI (by omega)
  refine lv_istore_n (lv' := [(3, .int (nI k3)), (0, .ref (a 0)), (1, .ref b), (2, .int xv)]) hx hb dL_act_6 rfl hl (by decide) rfl (fun ls hl => ?_)
  refine lv_aload_n hx hb dL_act_7 rfl (lv_at hl 2 rfl) ?_
  refine va_get (D := D) (ci := 3) (v := .ref (sa 0)) (C := RX3) (T := TX3) (N := 6) hx hb hts inL_act_RX3 hown hK hP 0 rfl rfl 0 (by decide) (hts _ kL_act_0) (fun _ h9 => h9) rfl dL_act_8 ?_
  refine lv_iload_n hx hb dL_act_11 rfl (lv_at hl 0 rfl) ?_
  refine pc_aldA hx hb hkp hP 1 rfl (k := k3) (show k3 < 12 by omega) (by decide) (v := st k3) rfl dL_act_12 ?_
  refine lv_astore (lv' := [(4, .ref (st k3)), (3, .int (nI k3)), (0, .ref (a 0)), (1, .ref b), (2, .int xv)]) hx hb dL_act_13 hl (by decide) rfl (fun ls hl => ?_)
  refine lv_iload_n hx hb dL_act_15 rfl (lv_at hl 4 rfl) ?_
  refine lv_bipush (v := 8) hx hb dL_act_16 (by decide) ?_
  refine lv_ishr hx hb dL_act_18 ?_
  refine lv_bipush (v := 6) hx hb dL_act_19 (by decide) ?_
  refine pc_calli (va_runS (As := [.int (xv >>> (8 &&& 31)), .int 6]) (rest := []) ⟨hx, hb, hml, hown, hts⟩ (mL_below l D cy (xv >>> (8 &&& 31)) 6 (by decide) (by decide)) (va_cwS 2 hts gL_act_L_below rfl rfl rfl (by decide +kernel) ⟨Nat.le_of_ble_eq_true rfl, Nat.le_of_ble_eq_true rfl⟩) ⟨fun a U g mk q => q, fun U hU hW => ⟨rfl, trivial⟩⟩ rfl rfl hl.1 rfl (lv_room (Nat.le_of_ble_eq_true rfl)) dL_act_21 ⟨Nat.le_of_ble_eq_true rfl, Nat.le_of_ble_eq_true rfl⟩) (fun r9 hr9 => ?_)
  obtain ⟨k21, hk21, rfl⟩ := hr9
  rcases (show k21 = 0 ∨ k21 = 1 ∨ k21 = 2 ∨ k21 = 3 ∨ k21 = 4 ∨ k21 = 5 by omega) with rfl | rfl | rfl | rfl | rfl | rfl
  · skip
    refine lv_tableIn (off := 32) (tgt := 56) hx hb dL_act_24 (by decide) (by decide) rfl (by decide) ?_
    refine lv_iload_n hx hb dL_act_56 rfl (lv_at hl 4 rfl) ?_
    refine lv_iconst (v := 3) hx hb dL_act_57 (by decide) ?_
    refine lv_ishr hx hb dL_act_58 ?_
    refine lv_bipush (v := 9) hx hb dL_act_59 (by decide) ?_
    refine pc_calli (va_runS (As := [.int (xv >>> (3 &&& 31)), .int 9]) (rest := []) ⟨hx, hb, hml, hown, hts⟩ (mL_below l D cy (xv >>> (3 &&& 31)) 9 (by decide) (by decide)) (va_cwS 2 hts gL_act_L_below rfl rfl rfl (by decide +kernel) ⟨Nat.le_of_ble_eq_true rfl, Nat.le_of_ble_eq_true rfl⟩) ⟨fun a U g mk q => q, fun U hU hW => ⟨rfl, trivial⟩⟩ rfl rfl hl.1 rfl (lv_room (Nat.le_of_ble_eq_true rfl)) dL_act_61 ⟨Nat.le_of_ble_eq_true rfl, Nat.le_of_ble_eq_true rfl⟩) (fun r9 hr9 => ?_)
    obtain ⟨k61, hk61, rfl⟩ := hr9
    refine lv_iconst (v := 4) hx hb dL_act_64 (by decide) ?_
    refine lv_isub hx hb dL_act_65 ?_
    refine lv_istore (lv' := [(5, .int ((nI k61) - 4)), (4, .ref (st k3)), (3, .int (nI k3)), (0, .ref (a 0)), (1, .ref b), (2, .int xv)]) hx hb dL_act_66 hl (by decide) rfl (fun ls hl => ?_)
    refine lv_iload hx hb dL_act_68 (lv_at hl 0 rfl) ?_
    refine lv_if_eq (tgt := 95) hx hb dL_act_70 (by decide) (fun c70 => ?_) (fun c70 => ?_)
    · refine lv_iconst (v := 1) hx hb dL_act_95 (by decide) ?_
      have hP9 : va_P D vwCl (wSu cy b ((u, sa, st, ch) : US × (Nat → Nat) × (Nat → Nat) × (Nat → Nat)).2.1 ((u, sa, st, ch) : US × (Nat → Nat) × (Nat → Nat) × (Nat → Nat)).2.2.1 ((u, sa, st, ch) : US × (Nat → Nat) × (Nat → Nat) × (Nat → Nat)).2.2.2 ((u, sa, st, ch) : US × (Nat → Nat) × (Nat → Nat) × (Nat → Nat)).1 ++ (wSr cy ((u, sa, st, ch) : US × (Nat → Nat) × (Nat → Nat) × (Nat → Nat)).2.2.1 ((u, sa, st, ch) : US × (Nat → Nat) × (Nat → Nat) × (Nat → Nat)).1 ++ (wX cy a q q2 ca ta ((u, sa, st, ch) : US × (Nat → Nat) × (Nat → Nat) × (Nat → Nat)).1 g ++ chT cy ((u, sa, st, ch) : US × (Nat → Nat) × (Nat → Nat) × (Nat → Nat)).2.2.2 ((u, sa, st, ch) : US × (Nat → Nat) × (Nat → Nat) × (Nat → Nat)).1))) s.heap := (pM_dropP hP)
      have hD9 : va_D A (wSu cy b ((u, sa, st, ch) : US × (Nat → Nat) × (Nat → Nat) × (Nat → Nat)).2.1 ((u, sa, st, ch) : US × (Nat → Nat) × (Nat → Nat) × (Nat → Nat)).2.2.1 ((u, sa, st, ch) : US × (Nat → Nat) × (Nat → Nat) × (Nat → Nat)).2.2.2 ((u, sa, st, ch) : US × (Nat → Nat) × (Nat → Nat) × (Nat → Nat)).1 ++ (wSr cy ((u, sa, st, ch) : US × (Nat → Nat) × (Nat → Nat) × (Nat → Nat)).2.2.1 ((u, sa, st, ch) : US × (Nat → Nat) × (Nat → Nat) × (Nat → Nat)).1 ++ (wX cy a q q2 ca ta ((u, sa, st, ch) : US × (Nat → Nat) × (Nat → Nat) × (Nat → Nat)).1 g ++ chT cy ((u, sa, st, ch) : US × (Nat → Nat) × (Nat → Nat) × (Nat → Nat)).2.2.2 ((u, sa, st, ch) : US × (Nat → Nat) × (Nat → Nat) × (Nat → Nat)).1))) := (pM_dropD hD)
      refine W.widen (k := 8) (n := 48) (Nat.le_of_ble_eq_true rfl) (Nat.le_of_ble_eq_true rfl) ?_
      exact W.zret (v := 1) hx hb hr (by decide) (fun t ht hW => ⟨⟨1, ((u, sa, st, ch) : US × (Nat → Nat) × (Nat → Nat) × (Nat → Nat)), rfl, ⟨rfl, I, rfl⟩, by rw [ht]; exact hP9, hD9⟩, hS.F ht⟩) hS.2.2 dL_act_96
    · refine lv_aload hx hb dL_act_73 (lv_at hl 1 rfl) ?_
      refine lv_iconst (v := 1) hx hb dL_act_75 (by decide) ?_
      refine row_aldS hx hb hK hP (k := k3) (j := 1) (show k3 < 12 by omega) (show 1 < 6 by omega) (by decide) dL_act_76 ?_
      refine pc_top (show (rowS (uh u)) k3 1 = zw (uh u) k3 from rfl) ?_
      refine lv_iload hx hb dL_act_77 (lv_at hl 0 rfl) ?_
      refine lv_iadd hx hb dL_act_79 ?_
      refine lv_if_lt (tgt := 95) hx hb dL_act_80 (by decide) (fun c80 => ?_) (fun c80 => ?_)
      · refine lv_iconst (v := 1) hx hb dL_act_95 (by decide) ?_
        have hP9 : va_P D vwCl (wSu cy b ((u, sa, st, ch) : US × (Nat → Nat) × (Nat → Nat) × (Nat → Nat)).2.1 ((u, sa, st, ch) : US × (Nat → Nat) × (Nat → Nat) × (Nat → Nat)).2.2.1 ((u, sa, st, ch) : US × (Nat → Nat) × (Nat → Nat) × (Nat → Nat)).2.2.2 ((u, sa, st, ch) : US × (Nat → Nat) × (Nat → Nat) × (Nat → Nat)).1 ++ (wSr cy ((u, sa, st, ch) : US × (Nat → Nat) × (Nat → Nat) × (Nat → Nat)).2.2.1 ((u, sa, st, ch) : US × (Nat → Nat) × (Nat → Nat) × (Nat → Nat)).1 ++ (wX cy a q q2 ca ta ((u, sa, st, ch) : US × (Nat → Nat) × (Nat → Nat) × (Nat → Nat)).1 g ++ chT cy ((u, sa, st, ch) : US × (Nat → Nat) × (Nat → Nat) × (Nat → Nat)).2.2.2 ((u, sa, st, ch) : US × (Nat → Nat) × (Nat → Nat) × (Nat → Nat)).1))) s.heap := (pM_dropP hP)
        have hD9 : va_D A (wSu cy b ((u, sa, st, ch) : US × (Nat → Nat) × (Nat → Nat) × (Nat → Nat)).2.1 ((u, sa, st, ch) : US × (Nat → Nat) × (Nat → Nat) × (Nat → Nat)).2.2.1 ((u, sa, st, ch) : US × (Nat → Nat) × (Nat → Nat) × (Nat → Nat)).2.2.2 ((u, sa, st, ch) : US × (Nat → Nat) × (Nat → Nat) × (Nat → Nat)).1 ++ (wSr cy ((u, sa, st, ch) : US × (Nat → Nat) × (Nat → Nat) × (Nat → Nat)).2.2.1 ((u, sa, st, ch) : US × (Nat → Nat) × (Nat → Nat) × (Nat → Nat)).1 ++ (wX cy a q q2 ca ta ((u, sa, st, ch) : US × (Nat → Nat) × (Nat → Nat) × (Nat → Nat)).1 g ++ chT cy ((u, sa, st, ch) : US × (Nat → Nat) × (Nat → Nat) × (Nat → Nat)).2.2.2 ((u, sa, st, ch) : US × (Nat → Nat) × (Nat → Nat) × (Nat → Nat)).1))) := (pM_dropD hD)
        refine W.widen (k := 8) (n := 48) (Nat.le_of_ble_eq_true rfl) (Nat.le_of_ble_eq_true rfl) ?_
        exact W.zret (v := 1) hx hb hr (by decide) (fun t ht hW => ⟨⟨1, ((u, sa, st, ch) : US × (Nat → Nat) × (Nat → Nat) × (Nat → Nat)), rfl, ⟨rfl, I, rfl⟩, by rw [ht]; exact hP9, hD9⟩, hS.F ht⟩) hS.2.2 dL_act_96
      · refine lv_aload hx hb dL_act_83 (lv_at hl 1 rfl) ?_
        refine lv_iconst (v := 1) hx hb dL_act_85 (by decide) ?_
        refine row_aldS hx hb hK hP (k := k3) (j := 1) (show k3 < 12 by omega) (show 1 < 6 by omega) (by decide) dL_act_86 ?_
        refine pc_top (show (rowS (uh u)) k3 1 = zw (uh u) k3 from rfl) ?_
        refine lv_iload hx hb dL_act_87 (lv_at hl 0 rfl) ?_
        refine lv_iadd hx hb dL_act_89 ?_
        refine lv_bipush (v := 20) hx hb dL_act_90 (by decide) ?_
        refine lv_icmp_le (tgt := 97) hx hb dL_act_92 (by decide) (fun c92 => ?_) (fun c92 => ?_)
        · refine lv_aload hx hb dL_act_97 (lv_at hl 1 rfl) ?_
          refine lv_iconst (v := 1) hx hb dL_act_99 (by decide) ?_
          refine lv_dup2_11 hx hb dL_act_100 rfl rfl ?_
          refine row_aldS hx hb hK hP (k := k3) (j := 1) (show k3 < 12 by omega) (show 1 < 6 by omega) (by decide) dL_act_101 ?_
          refine pc_top (show (rowS (uh u)) k3 1 = zw (uh u) k3 from rfl) ?_
          refine lv_iload hx hb dL_act_102 (lv_at hl 0 rfl) ?_
          refine lv_iadd hx hb dL_act_104 ?_
          refine row_astS hx hb hK hP hD hS (k := k3) (j := 1) (show k3 < 12 by omega) (show 1 < 6 by omega) (by decide) dL_act_105 (fun H locs hP hD hS => ?_)
          have hP : va_P D vwCl (([] : va_W) ++ (wS5 cy b sa st ch (un u) (uw u) (ud u) (nI (zh (uh u))) (zl (uh u)) ++ (rows12 cy st 6 (rset (rowS (uh u)) k3 1 ((zw (uh u) k3) + ((nI k61) - 4))) ++ (wX cy a q q2 ca ta u g ++ chT cy ch u)))) H := hP
          have hD : va_D A (([] : va_W) ++ (wS5 cy b sa st ch (un u) (uw u) (ud u) (nI (zh (uh u))) (zl (uh u)) ++ (rows12 cy st 6 (rset (rowS (uh u)) k3 1 ((zw (uh u) k3) + ((nI k61) - 4))) ++ (wX cy a q q2 ca ta u g ++ chT cy ch u)))) := hD
          have e9 : (rset (rowS (uh u)) k3 1 ((zw (uh u) k3) + ((nI k61) - 4))) = rowS (hPush (uh u) k3 (nI k61 - 4)) := (rset_put (uh u) k3 (by omega) _)
          rw [e9] at hP hD
          clear e9
          have hP : va_P D vwCl (([] : va_W) ++ (wS5 cy b sa st ch (un u) (uw u) (ud u) (nI (zh (uh u))) (zl (uh u)) ++ (rows12 cy st 6 (rowS (hPush (uh u) k3 (nI k61 - 4))) ++ (wX cy a q q2 ca ta u g ++ chT cy ch u)))) H := hP
          have hD : va_D A (([] : va_W) ++ (wS5 cy b sa st ch (un u) (uw u) (ud u) (nI (zh (uh u))) (zl (uh u)) ++ (rows12 cy st 6 (rowS (hPush (uh u) k3 (nI k61 - 4))) ++ (wX cy a q q2 ca ta u g ++ chT cy ch u)))) := hD
          refine lv_aload_n hx hb dL_act_106 rfl (lv_at hl 3 rfl) ?_
          refine lv_iload_n hx hb dL_act_107 rfl (lv_at hl 2 rfl) ?_
          refine lv_iload hx hb dL_act_108 (lv_at hl 0 rfl) ?_
          refine cls_w (Lc := ([] : va_W)) (S5 := wS5 cy b sa st ch (un u) (uw u) (ud u) (nI (zh (uh u))) (zl (uh u))) (S12 := rows12 cy st 6 (rowS (hPush (uh u) k3 (nI k61 - 4)))) (T := chT cy ch u) (As := [.int (nI k3), .int ((nI k61) - 4)]) (rest := []) (uf := fun (_ : Unit) => uH u (hPush (uh u) (ix (nI k3)) (nI k61 - 4))) (gf := fun (_ : Unit) => g) hP hD hS hA hK hXA ⟨hx, hb, hml, hown, hts⟩ (mX2_push l hst D cy H.size a q q2 ca ta u g I.1 (nI k3) (nI k61 - 4)) (fun E h => h.2 (exPush_0 hk3 hk61 c70 c80 c92)) (cwV 2 hts gL_act_X2_push rfl rfl rfl (by decide +kernel) ⟨Nat.le_of_ble_eq_true rfl, Nat.le_of_ble_eq_true rfl⟩) rfl rfl hl.1 (Nat.le_of_ble_eq_true rfl) dL_act_110 ⟨Nat.le_of_ble_eq_true rfl, Nat.le_of_ble_eq_true rfl⟩ (fun _ H locs hP hD hS => ?_)
          have hP : va_P D vwCl (([] : va_W) ++ (wS5 cy b sa st ch (un u) (uw u) (ud u) (nI (zh (uh u))) (zl (uh u)) ++ (rows12 cy st 6 (rowS (hPush (uh u) k3 (nI k61 - 4))) ++ (wX cy a q q2 ca ta (uH u (hPush (uh u) (ix (nI k3)) (nI k61 - 4))) g ++ chT cy ch u)))) H := hP
          have hD : va_D A (([] : va_W) ++ (wS5 cy b sa st ch (un u) (uw u) (ud u) (nI (zh (uh u))) (zl (uh u)) ++ (rows12 cy st 6 (rowS (hPush (uh u) k3 (nI k61 - 4))) ++ (wX cy a q q2 ca ta (uH u (hPush (uh u) (ix (nI k3)) (nI k61 - 4))) g ++ chT cy ch u)))) := hD
          refine W.widen (k := 3) (n := 18) (Nat.le_of_ble_eq_true rfl) (Nat.le_of_ble_eq_true rfl) ?_
          rw [ixk] at hP hD
          have hP : va_P D vwCl (([] : va_W) ++ (wS5 cy b sa st ch (un u) (uw u) (ud u) (nI (zh (uh u))) (zl (uh u)) ++ (rows12 cy st 6 (rowS (hPush (uh u) k3 (nI k61 - 4))) ++ (wX cy a q q2 ca ta (uH u (hPush (uh u) k3 (nI k61 - 4))) g ++ chT cy ch u)))) H := hP
          have hD : va_D A (([] : va_W) ++ (wS5 cy b sa st ch (un u) (uw u) (ud u) (nI (zh (uh u))) (zl (uh u)) ++ (rows12 cy st 6 (rowS (hPush (uh u) k3 (nI k61 - 4))) ++ (wX cy a q q2 ca ta (uH u (hPush (uh u) k3 (nI k61 - 4))) g ++ chT cy ch u)))) := hD
          refine pc_top (show tone (hPush (uh u) (ix (nI k3)) (nI k61 - 4)) (ix (nI k3)) = tone (hPush (uh u) k3 (nI k61 - 4)) k3 from (by rw [ixk])) ?_
          refine lv_aload_n hx hb dL_act_113 rfl (lv_at hl 4 rfl) ?_
          refine lv_iload_n hx hb dL_act_114 rfl (lv_at hl 2 rfl) ?_
          refine sim_p (Lc := ([] : va_W)) (S5 := wS5 cy b sa st ch (un u) (uw u) (ud u) (nI (zh (uh u))) (zl (uh u))) (S12 := rows12 cy st 6 (rowS (hPush (uh u) k3 (nI k61 - 4)))) (X := wX cy a q q2 ca ta (uH u (hPush (uh u) k3 (nI k61 - 4))) g ++ chT cy ch u) (Y := []) (As := [.int (nI k3)]) (rest := [.int (tone (hPush (uh u) k3 (nI k61 - 4)) k3)]) hP hK hkp ⟨hx, hb, hml, hown, hts⟩ (mX3_tone l D cy b sa st ch (uH u (hPush (uh u) k3 (nI k61 - 4))) k3 hk3) (no_mem) rfl (cwV 1 hts gL_act_X3_tone rfl rfl rfl (by decide +kernel) ⟨Nat.le_of_ble_eq_true rfl, Nat.le_of_ble_eq_true rfl⟩) rfl rfl hl.1 (Nat.le_of_ble_eq_true rfl) dL_act_115 ⟨Nat.le_of_ble_eq_true rfl, Nat.le_of_ble_eq_true rfl⟩ ?_
          refine lv_icmp_ne (tgt := 125) hx hb dL_act_118 (by decide) (fun c118 => absurd c118 (not_not_intro rfl)) (fun c118 => ?_)
          refine lv_iconst (v := 1) hx hb dL_act_121 (by decide) ?_
          refine lv_goto (tgt := 126) hx hb dL_act_122 (by decide) ?_
          have hP9 : va_P D vwCl (wSu cy b ((uH u (hPush (uh u) k3 (nI k61 - 4)), sa, st, ch) : US × (Nat → Nat) × (Nat → Nat) × (Nat → Nat)).2.1 ((uH u (hPush (uh u) k3 (nI k61 - 4)), sa, st, ch) : US × (Nat → Nat) × (Nat → Nat) × (Nat → Nat)).2.2.1 ((uH u (hPush (uh u) k3 (nI k61 - 4)), sa, st, ch) : US × (Nat → Nat) × (Nat → Nat) × (Nat → Nat)).2.2.2 ((uH u (hPush (uh u) k3 (nI k61 - 4)), sa, st, ch) : US × (Nat → Nat) × (Nat → Nat) × (Nat → Nat)).1 ++ (wSr cy ((uH u (hPush (uh u) k3 (nI k61 - 4)), sa, st, ch) : US × (Nat → Nat) × (Nat → Nat) × (Nat → Nat)).2.2.1 ((uH u (hPush (uh u) k3 (nI k61 - 4)), sa, st, ch) : US × (Nat → Nat) × (Nat → Nat) × (Nat → Nat)).1 ++ (wX cy a q q2 ca ta ((uH u (hPush (uh u) k3 (nI k61 - 4)), sa, st, ch) : US × (Nat → Nat) × (Nat → Nat) × (Nat → Nat)).1 g ++ chT cy ((uH u (hPush (uh u) k3 (nI k61 - 4)), sa, st, ch) : US × (Nat → Nat) × (Nat → Nat) × (Nat → Nat)).2.2.2 ((uH u (hPush (uh u) k3 (nI k61 - 4)), sa, st, ch) : US × (Nat → Nat) × (Nat → Nat) × (Nat → Nat)).1))) H := (pM_dropP hP)
          have hD9 : va_D A (wSu cy b ((uH u (hPush (uh u) k3 (nI k61 - 4)), sa, st, ch) : US × (Nat → Nat) × (Nat → Nat) × (Nat → Nat)).2.1 ((uH u (hPush (uh u) k3 (nI k61 - 4)), sa, st, ch) : US × (Nat → Nat) × (Nat → Nat) × (Nat → Nat)).2.2.1 ((uH u (hPush (uh u) k3 (nI k61 - 4)), sa, st, ch) : US × (Nat → Nat) × (Nat → Nat) × (Nat → Nat)).2.2.2 ((uH u (hPush (uh u) k3 (nI k61 - 4)), sa, st, ch) : US × (Nat → Nat) × (Nat → Nat) × (Nat → Nat)).1 ++ (wSr cy ((uH u (hPush (uh u) k3 (nI k61 - 4)), sa, st, ch) : US × (Nat → Nat) × (Nat → Nat) × (Nat → Nat)).2.2.1 ((uH u (hPush (uh u) k3 (nI k61 - 4)), sa, st, ch) : US × (Nat → Nat) × (Nat → Nat) × (Nat → Nat)).1 ++ (wX cy a q q2 ca ta ((uH u (hPush (uh u) k3 (nI k61 - 4)), sa, st, ch) : US × (Nat → Nat) × (Nat → Nat) × (Nat → Nat)).1 g ++ chT cy ((uH u (hPush (uh u) k3 (nI k61 - 4)), sa, st, ch) : US × (Nat → Nat) × (Nat → Nat) × (Nat → Nat)).2.2.2 ((uH u (hPush (uh u) k3 (nI k61 - 4)), sa, st, ch) : US × (Nat → Nat) × (Nat → Nat) × (Nat → Nat)).1))) := (pM_dropD hD)
          refine W.widen (k := 8) (n := 48) (Nat.le_of_ble_eq_true rfl) (Nat.le_of_ble_eq_true rfl) ?_
          exact W.zret (v := 1) hx hb hr (by decide) (fun t ht hW => ⟨⟨1, ((uH u (hPush (uh u) k3 (nI k61 - 4)), sa, st, ch) : US × (Nat → Nat) × (Nat → Nat) × (Nat → Nat)), rfl, ⟨rfl, INV_push I c80 c92, rfl⟩, by rw [ht]; exact hP9, hD9⟩, hS.F ht⟩) hS.2.2 dL_act_126
        · refine lv_iconst (v := 1) hx hb dL_act_95 (by decide) ?_
          have hP9 : va_P D vwCl (wSu cy b ((u, sa, st, ch) : US × (Nat → Nat) × (Nat → Nat) × (Nat → Nat)).2.1 ((u, sa, st, ch) : US × (Nat → Nat) × (Nat → Nat) × (Nat → Nat)).2.2.1 ((u, sa, st, ch) : US × (Nat → Nat) × (Nat → Nat) × (Nat → Nat)).2.2.2 ((u, sa, st, ch) : US × (Nat → Nat) × (Nat → Nat) × (Nat → Nat)).1 ++ (wSr cy ((u, sa, st, ch) : US × (Nat → Nat) × (Nat → Nat) × (Nat → Nat)).2.2.1 ((u, sa, st, ch) : US × (Nat → Nat) × (Nat → Nat) × (Nat → Nat)).1 ++ (wX cy a q q2 ca ta ((u, sa, st, ch) : US × (Nat → Nat) × (Nat → Nat) × (Nat → Nat)).1 g ++ chT cy ((u, sa, st, ch) : US × (Nat → Nat) × (Nat → Nat) × (Nat → Nat)).2.2.2 ((u, sa, st, ch) : US × (Nat → Nat) × (Nat → Nat) × (Nat → Nat)).1))) s.heap := (pM_dropP hP)
          have hD9 : va_D A (wSu cy b ((u, sa, st, ch) : US × (Nat → Nat) × (Nat → Nat) × (Nat → Nat)).2.1 ((u, sa, st, ch) : US × (Nat → Nat) × (Nat → Nat) × (Nat → Nat)).2.2.1 ((u, sa, st, ch) : US × (Nat → Nat) × (Nat → Nat) × (Nat → Nat)).2.2.2 ((u, sa, st, ch) : US × (Nat → Nat) × (Nat → Nat) × (Nat → Nat)).1 ++ (wSr cy ((u, sa, st, ch) : US × (Nat → Nat) × (Nat → Nat) × (Nat → Nat)).2.2.1 ((u, sa, st, ch) : US × (Nat → Nat) × (Nat → Nat) × (Nat → Nat)).1 ++ (wX cy a q q2 ca ta ((u, sa, st, ch) : US × (Nat → Nat) × (Nat → Nat) × (Nat → Nat)).1 g ++ chT cy ((u, sa, st, ch) : US × (Nat → Nat) × (Nat → Nat) × (Nat → Nat)).2.2.2 ((u, sa, st, ch) : US × (Nat → Nat) × (Nat → Nat) × (Nat → Nat)).1))) := (pM_dropD hD)
          refine W.widen (k := 8) (n := 48) (Nat.le_of_ble_eq_true rfl) (Nat.le_of_ble_eq_true rfl) ?_
          exact W.zret (v := 1) hx hb hr (by decide) (fun t ht hW => ⟨⟨1, ((u, sa, st, ch) : US × (Nat → Nat) × (Nat → Nat) × (Nat → Nat)), rfl, ⟨rfl, I, rfl⟩, by rw [ht]; exact hP9, hD9⟩, hS.F ht⟩) hS.2.2 dL_act_96
  · skip
    refine lv_tableIn (off := 32) (tgt := 56) hx hb dL_act_24 (by decide) (by decide) rfl (by decide) ?_
    refine lv_iload_n hx hb dL_act_56 rfl (lv_at hl 4 rfl) ?_
    refine lv_iconst (v := 3) hx hb dL_act_57 (by decide) ?_
    refine lv_ishr hx hb dL_act_58 ?_
    refine lv_bipush (v := 9) hx hb dL_act_59 (by decide) ?_
    refine pc_calli (va_runS (As := [.int (xv >>> (3 &&& 31)), .int 9]) (rest := []) ⟨hx, hb, hml, hown, hts⟩ (mL_below l D cy (xv >>> (3 &&& 31)) 9 (by decide) (by decide)) (va_cwS 2 hts gL_act_L_below rfl rfl rfl (by decide +kernel) ⟨Nat.le_of_ble_eq_true rfl, Nat.le_of_ble_eq_true rfl⟩) ⟨fun a U g mk q => q, fun U hU hW => ⟨rfl, trivial⟩⟩ rfl rfl hl.1 rfl (lv_room (Nat.le_of_ble_eq_true rfl)) dL_act_61 ⟨Nat.le_of_ble_eq_true rfl, Nat.le_of_ble_eq_true rfl⟩) (fun r9 hr9 => ?_)
    obtain ⟨k61, hk61, rfl⟩ := hr9
    refine lv_iconst (v := 4) hx hb dL_act_64 (by decide) ?_
    refine lv_isub hx hb dL_act_65 ?_
    refine lv_istore (lv' := [(5, .int ((nI k61) - 4)), (4, .ref (st k3)), (3, .int (nI k3)), (0, .ref (a 0)), (1, .ref b), (2, .int xv)]) hx hb dL_act_66 hl (by decide) rfl (fun ls hl => ?_)
    refine lv_iload hx hb dL_act_68 (lv_at hl 0 rfl) ?_
    refine lv_if_eq (tgt := 95) hx hb dL_act_70 (by decide) (fun c70 => ?_) (fun c70 => ?_)
    · refine lv_iconst (v := 1) hx hb dL_act_95 (by decide) ?_
      have hP9 : va_P D vwCl (wSu cy b ((u, sa, st, ch) : US × (Nat → Nat) × (Nat → Nat) × (Nat → Nat)).2.1 ((u, sa, st, ch) : US × (Nat → Nat) × (Nat → Nat) × (Nat → Nat)).2.2.1 ((u, sa, st, ch) : US × (Nat → Nat) × (Nat → Nat) × (Nat → Nat)).2.2.2 ((u, sa, st, ch) : US × (Nat → Nat) × (Nat → Nat) × (Nat → Nat)).1 ++ (wSr cy ((u, sa, st, ch) : US × (Nat → Nat) × (Nat → Nat) × (Nat → Nat)).2.2.1 ((u, sa, st, ch) : US × (Nat → Nat) × (Nat → Nat) × (Nat → Nat)).1 ++ (wX cy a q q2 ca ta ((u, sa, st, ch) : US × (Nat → Nat) × (Nat → Nat) × (Nat → Nat)).1 g ++ chT cy ((u, sa, st, ch) : US × (Nat → Nat) × (Nat → Nat) × (Nat → Nat)).2.2.2 ((u, sa, st, ch) : US × (Nat → Nat) × (Nat → Nat) × (Nat → Nat)).1))) s.heap := (pM_dropP hP)
      have hD9 : va_D A (wSu cy b ((u, sa, st, ch) : US × (Nat → Nat) × (Nat → Nat) × (Nat → Nat)).2.1 ((u, sa, st, ch) : US × (Nat → Nat) × (Nat → Nat) × (Nat → Nat)).2.2.1 ((u, sa, st, ch) : US × (Nat → Nat) × (Nat → Nat) × (Nat → Nat)).2.2.2 ((u, sa, st, ch) : US × (Nat → Nat) × (Nat → Nat) × (Nat → Nat)).1 ++ (wSr cy ((u, sa, st, ch) : US × (Nat → Nat) × (Nat → Nat) × (Nat → Nat)).2.2.1 ((u, sa, st, ch) : US × (Nat → Nat) × (Nat → Nat) × (Nat → Nat)).1 ++ (wX cy a q q2 ca ta ((u, sa, st, ch) : US × (Nat → Nat) × (Nat → Nat) × (Nat → Nat)).1 g ++ chT cy ((u, sa, st, ch) : US × (Nat → Nat) × (Nat → Nat) × (Nat → Nat)).2.2.2 ((u, sa, st, ch) : US × (Nat → Nat) × (Nat → Nat) × (Nat → Nat)).1))) := (pM_dropD hD)
      refine W.widen (k := 8) (n := 48) (Nat.le_of_ble_eq_true rfl) (Nat.le_of_ble_eq_true rfl) ?_
      exact W.zret (v := 1) hx hb hr (by decide) (fun t ht hW => ⟨⟨1, ((u, sa, st, ch) : US × (Nat → Nat) × (Nat → Nat) × (Nat → Nat)), rfl, ⟨rfl, I, rfl⟩, by rw [ht]; exact hP9, hD9⟩, hS.F ht⟩) hS.2.2 dL_act_96
    · refine lv_aload hx hb dL_act_73 (lv_at hl 1 rfl) ?_
      refine lv_iconst (v := 1) hx hb dL_act_75 (by decide) ?_
      refine row_aldS hx hb hK hP (k := k3) (j := 1) (show k3 < 12 by omega) (show 1 < 6 by omega) (by decide) dL_act_76 ?_
      refine pc_top (show (rowS (uh u)) k3 1 = zw (uh u) k3 from rfl) ?_
      refine lv_iload hx hb dL_act_77 (lv_at hl 0 rfl) ?_
      refine lv_iadd hx hb dL_act_79 ?_
      refine lv_if_lt (tgt := 95) hx hb dL_act_80 (by decide) (fun c80 => ?_) (fun c80 => ?_)
      · refine lv_iconst (v := 1) hx hb dL_act_95 (by decide) ?_
        have hP9 : va_P D vwCl (wSu cy b ((u, sa, st, ch) : US × (Nat → Nat) × (Nat → Nat) × (Nat → Nat)).2.1 ((u, sa, st, ch) : US × (Nat → Nat) × (Nat → Nat) × (Nat → Nat)).2.2.1 ((u, sa, st, ch) : US × (Nat → Nat) × (Nat → Nat) × (Nat → Nat)).2.2.2 ((u, sa, st, ch) : US × (Nat → Nat) × (Nat → Nat) × (Nat → Nat)).1 ++ (wSr cy ((u, sa, st, ch) : US × (Nat → Nat) × (Nat → Nat) × (Nat → Nat)).2.2.1 ((u, sa, st, ch) : US × (Nat → Nat) × (Nat → Nat) × (Nat → Nat)).1 ++ (wX cy a q q2 ca ta ((u, sa, st, ch) : US × (Nat → Nat) × (Nat → Nat) × (Nat → Nat)).1 g ++ chT cy ((u, sa, st, ch) : US × (Nat → Nat) × (Nat → Nat) × (Nat → Nat)).2.2.2 ((u, sa, st, ch) : US × (Nat → Nat) × (Nat → Nat) × (Nat → Nat)).1))) s.heap := (pM_dropP hP)
        have hD9 : va_D A (wSu cy b ((u, sa, st, ch) : US × (Nat → Nat) × (Nat → Nat) × (Nat → Nat)).2.1 ((u, sa, st, ch) : US × (Nat → Nat) × (Nat → Nat) × (Nat → Nat)).2.2.1 ((u, sa, st, ch) : US × (Nat → Nat) × (Nat → Nat) × (Nat → Nat)).2.2.2 ((u, sa, st, ch) : US × (Nat → Nat) × (Nat → Nat) × (Nat → Nat)).1 ++ (wSr cy ((u, sa, st, ch) : US × (Nat → Nat) × (Nat → Nat) × (Nat → Nat)).2.2.1 ((u, sa, st, ch) : US × (Nat → Nat) × (Nat → Nat) × (Nat → Nat)).1 ++ (wX cy a q q2 ca ta ((u, sa, st, ch) : US × (Nat → Nat) × (Nat → Nat) × (Nat → Nat)).1 g ++ chT cy ((u, sa, st, ch) : US × (Nat → Nat) × (Nat → Nat) × (Nat → Nat)).2.2.2 ((u, sa, st, ch) : US × (Nat → Nat) × (Nat → Nat) × (Nat → Nat)).1))) := (pM_dropD hD)
        refine W.widen (k := 8) (n := 48) (Nat.le_of_ble_eq_true rfl) (Nat.le_of_ble_eq_true rfl) ?_
        exact W.zret (v := 1) hx hb hr (by decide) (fun t ht hW => ⟨⟨1, ((u, sa, st, ch) : US × (Nat → Nat) × (Nat → Nat) × (Nat → Nat)), rfl, ⟨rfl, I, rfl⟩, by rw [ht]; exact hP9, hD9⟩, hS.F ht⟩) hS.2.2 dL_act_96
      · refine lv_aload hx hb dL_act_83 (lv_at hl 1 rfl) ?_
        refine lv_iconst (v := 1) hx hb dL_act_85 (by decide) ?_
        refine row_aldS hx hb hK hP (k := k3) (j := 1) (show k3 < 12 by omega) (show 1 < 6 by omega) (by decide) dL_act_86 ?_
        refine pc_top (show (rowS (uh u)) k3 1 = zw (uh u) k3 from rfl) ?_
        refine lv_iload hx hb dL_act_87 (lv_at hl 0 rfl) ?_
        refine lv_iadd hx hb dL_act_89 ?_
        refine lv_bipush (v := 20) hx hb dL_act_90 (by decide) ?_
        refine lv_icmp_le (tgt := 97) hx hb dL_act_92 (by decide) (fun c92 => ?_) (fun c92 => ?_)
        · refine lv_aload hx hb dL_act_97 (lv_at hl 1 rfl) ?_
          refine lv_iconst (v := 1) hx hb dL_act_99 (by decide) ?_
          refine lv_dup2_11 hx hb dL_act_100 rfl rfl ?_
          refine row_aldS hx hb hK hP (k := k3) (j := 1) (show k3 < 12 by omega) (show 1 < 6 by omega) (by decide) dL_act_101 ?_
          refine pc_top (show (rowS (uh u)) k3 1 = zw (uh u) k3 from rfl) ?_
          refine lv_iload hx hb dL_act_102 (lv_at hl 0 rfl) ?_
          refine lv_iadd hx hb dL_act_104 ?_
          refine row_astS hx hb hK hP hD hS (k := k3) (j := 1) (show k3 < 12 by omega) (show 1 < 6 by omega) (by decide) dL_act_105 (fun H locs hP hD hS => ?_)
          have hP : va_P D vwCl (([] : va_W) ++ (wS5 cy b sa st ch (un u) (uw u) (ud u) (nI (zh (uh u))) (zl (uh u)) ++ (rows12 cy st 6 (rset (rowS (uh u)) k3 1 ((zw (uh u) k3) + ((nI k61) - 4))) ++ (wX cy a q q2 ca ta u g ++ chT cy ch u)))) H := hP
          have hD : va_D A (([] : va_W) ++ (wS5 cy b sa st ch (un u) (uw u) (ud u) (nI (zh (uh u))) (zl (uh u)) ++ (rows12 cy st 6 (rset (rowS (uh u)) k3 1 ((zw (uh u) k3) + ((nI k61) - 4))) ++ (wX cy a q q2 ca ta u g ++ chT cy ch u)))) := hD
          have e9 : (rset (rowS (uh u)) k3 1 ((zw (uh u) k3) + ((nI k61) - 4))) = rowS (hPush (uh u) k3 (nI k61 - 4)) := (rset_put (uh u) k3 (by omega) _)
          rw [e9] at hP hD
          clear e9
          have hP : va_P D vwCl (([] : va_W) ++ (wS5 cy b sa st ch (un u) (uw u) (ud u) (nI (zh (uh u))) (zl (uh u)) ++ (rows12 cy st 6 (rowS (hPush (uh u) k3 (nI k61 - 4))) ++ (wX cy a q q2 ca ta u g ++ chT cy ch u)))) H := hP
          have hD : va_D A (([] : va_W) ++ (wS5 cy b sa st ch (un u) (uw u) (ud u) (nI (zh (uh u))) (zl (uh u)) ++ (rows12 cy st 6 (rowS (hPush (uh u) k3 (nI k61 - 4))) ++ (wX cy a q q2 ca ta u g ++ chT cy ch u)))) := hD
          refine lv_aload_n hx hb dL_act_106 rfl (lv_at hl 3 rfl) ?_
          refine lv_iload_n hx hb dL_act_107 rfl (lv_at hl 2 rfl) ?_
          refine lv_iload hx hb dL_act_108 (lv_at hl 0 rfl) ?_
          refine cls_w (Lc := ([] : va_W)) (S5 := wS5 cy b sa st ch (un u) (uw u) (ud u) (nI (zh (uh u))) (zl (uh u))) (S12 := rows12 cy st 6 (rowS (hPush (uh u) k3 (nI k61 - 4)))) (T := chT cy ch u) (As := [.int (nI k3), .int ((nI k61) - 4)]) (rest := []) (uf := fun (_ : Unit) => uH u (hPush (uh u) (ix (nI k3)) (nI k61 - 4))) (gf := fun (_ : Unit) => g) hP hD hS hA hK hXA ⟨hx, hb, hml, hown, hts⟩ (mX2_push l hst D cy H.size a q q2 ca ta u g I.1 (nI k3) (nI k61 - 4)) (fun E h => h.2 (exPush_0 hk3 hk61 c70 c80 c92)) (cwV 2 hts gL_act_X2_push rfl rfl rfl (by decide +kernel) ⟨Nat.le_of_ble_eq_true rfl, Nat.le_of_ble_eq_true rfl⟩) rfl rfl hl.1 (Nat.le_of_ble_eq_true rfl) dL_act_110 ⟨Nat.le_of_ble_eq_true rfl, Nat.le_of_ble_eq_true rfl⟩ (fun _ H locs hP hD hS => ?_)
          have hP : va_P D vwCl (([] : va_W) ++ (wS5 cy b sa st ch (un u) (uw u) (ud u) (nI (zh (uh u))) (zl (uh u)) ++ (rows12 cy st 6 (rowS (hPush (uh u) k3 (nI k61 - 4))) ++ (wX cy a q q2 ca ta (uH u (hPush (uh u) (ix (nI k3)) (nI k61 - 4))) g ++ chT cy ch u)))) H := hP
          have hD : va_D A (([] : va_W) ++ (wS5 cy b sa st ch (un u) (uw u) (ud u) (nI (zh (uh u))) (zl (uh u)) ++ (rows12 cy st 6 (rowS (hPush (uh u) k3 (nI k61 - 4))) ++ (wX cy a q q2 ca ta (uH u (hPush (uh u) (ix (nI k3)) (nI k61 - 4))) g ++ chT cy ch u)))) := hD
          refine W.widen (k := 3) (n := 18) (Nat.le_of_ble_eq_true rfl) (Nat.le_of_ble_eq_true rfl) ?_
          rw [ixk] at hP hD
          have hP : va_P D vwCl (([] : va_W) ++ (wS5 cy b sa st ch (un u) (uw u) (ud u) (nI (zh (uh u))) (zl (uh u)) ++ (rows12 cy st 6 (rowS (hPush (uh u) k3 (nI k61 - 4))) ++ (wX cy a q q2 ca ta (uH u (hPush (uh u) k3 (nI k61 - 4))) g ++ chT cy ch u)))) H := hP
          have hD : va_D A (([] : va_W) ++ (wS5 cy b sa st ch (un u) (uw u) (ud u) (nI (zh (uh u))) (zl (uh u)) ++ (rows12 cy st 6 (rowS (hPush (uh u) k3 (nI k61 - 4))) ++ (wX cy a q q2 ca ta (uH u (hPush (uh u) k3 (nI k61 - 4))) g ++ chT cy ch u)))) := hD
          refine pc_top (show tone (hPush (uh u) (ix (nI k3)) (nI k61 - 4)) (ix (nI k3)) = tone (hPush (uh u) k3 (nI k61 - 4)) k3 from (by rw [ixk])) ?_
          refine lv_aload_n hx hb dL_act_113 rfl (lv_at hl 4 rfl) ?_
          refine lv_iload_n hx hb dL_act_114 rfl (lv_at hl 2 rfl) ?_
          refine sim_p (Lc := ([] : va_W)) (S5 := wS5 cy b sa st ch (un u) (uw u) (ud u) (nI (zh (uh u))) (zl (uh u))) (S12 := rows12 cy st 6 (rowS (hPush (uh u) k3 (nI k61 - 4)))) (X := wX cy a q q2 ca ta (uH u (hPush (uh u) k3 (nI k61 - 4))) g ++ chT cy ch u) (Y := []) (As := [.int (nI k3)]) (rest := [.int (tone (hPush (uh u) k3 (nI k61 - 4)) k3)]) hP hK hkp ⟨hx, hb, hml, hown, hts⟩ (mX3_tone l D cy b sa st ch (uH u (hPush (uh u) k3 (nI k61 - 4))) k3 hk3) (no_mem) rfl (cwV 1 hts gL_act_X3_tone rfl rfl rfl (by decide +kernel) ⟨Nat.le_of_ble_eq_true rfl, Nat.le_of_ble_eq_true rfl⟩) rfl rfl hl.1 (Nat.le_of_ble_eq_true rfl) dL_act_115 ⟨Nat.le_of_ble_eq_true rfl, Nat.le_of_ble_eq_true rfl⟩ ?_
          refine lv_icmp_ne (tgt := 125) hx hb dL_act_118 (by decide) (fun c118 => absurd c118 (not_not_intro rfl)) (fun c118 => ?_)
          refine lv_iconst (v := 1) hx hb dL_act_121 (by decide) ?_
          refine lv_goto (tgt := 126) hx hb dL_act_122 (by decide) ?_
          have hP9 : va_P D vwCl (wSu cy b ((uH u (hPush (uh u) k3 (nI k61 - 4)), sa, st, ch) : US × (Nat → Nat) × (Nat → Nat) × (Nat → Nat)).2.1 ((uH u (hPush (uh u) k3 (nI k61 - 4)), sa, st, ch) : US × (Nat → Nat) × (Nat → Nat) × (Nat → Nat)).2.2.1 ((uH u (hPush (uh u) k3 (nI k61 - 4)), sa, st, ch) : US × (Nat → Nat) × (Nat → Nat) × (Nat → Nat)).2.2.2 ((uH u (hPush (uh u) k3 (nI k61 - 4)), sa, st, ch) : US × (Nat → Nat) × (Nat → Nat) × (Nat → Nat)).1 ++ (wSr cy ((uH u (hPush (uh u) k3 (nI k61 - 4)), sa, st, ch) : US × (Nat → Nat) × (Nat → Nat) × (Nat → Nat)).2.2.1 ((uH u (hPush (uh u) k3 (nI k61 - 4)), sa, st, ch) : US × (Nat → Nat) × (Nat → Nat) × (Nat → Nat)).1 ++ (wX cy a q q2 ca ta ((uH u (hPush (uh u) k3 (nI k61 - 4)), sa, st, ch) : US × (Nat → Nat) × (Nat → Nat) × (Nat → Nat)).1 g ++ chT cy ((uH u (hPush (uh u) k3 (nI k61 - 4)), sa, st, ch) : US × (Nat → Nat) × (Nat → Nat) × (Nat → Nat)).2.2.2 ((uH u (hPush (uh u) k3 (nI k61 - 4)), sa, st, ch) : US × (Nat → Nat) × (Nat → Nat) × (Nat → Nat)).1))) H := (pM_dropP hP)
          have hD9 : va_D A (wSu cy b ((uH u (hPush (uh u) k3 (nI k61 - 4)), sa, st, ch) : US × (Nat → Nat) × (Nat → Nat) × (Nat → Nat)).2.1 ((uH u (hPush (uh u) k3 (nI k61 - 4)), sa, st, ch) : US × (Nat → Nat) × (Nat → Nat) × (Nat → Nat)).2.2.1 ((uH u (hPush (uh u) k3 (nI k61 - 4)), sa, st, ch) : US × (Nat → Nat) × (Nat → Nat) × (Nat → Nat)).2.2.2 ((uH u (hPush (uh u) k3 (nI k61 - 4)), sa, st, ch) : US × (Nat → Nat) × (Nat → Nat) × (Nat → Nat)).1 ++ (wSr cy ((uH u (hPush (uh u) k3 (nI k61 - 4)), sa, st, ch) : US × (Nat → Nat) × (Nat → Nat) × (Nat → Nat)).2.2.1 ((uH u (hPush (uh u) k3 (nI k61 - 4)), sa, st, ch) : US × (Nat → Nat) × (Nat → Nat) × (Nat → Nat)).1 ++ (wX cy a q q2 ca ta ((uH u (hPush (uh u) k3 (nI k61 - 4)), sa, st, ch) : US × (Nat → Nat) × (Nat → Nat) × (Nat → Nat)).1 g ++ chT cy ((uH u (hPush (uh u) k3 (nI k61 - 4)), sa, st, ch) : US × (Nat → Nat) × (Nat → Nat) × (Nat → Nat)).2.2.2 ((uH u (hPush (uh u) k3 (nI k61 - 4)), sa, st, ch) : US × (Nat → Nat) × (Nat → Nat) × (Nat → Nat)).1))) := (pM_dropD hD)
          refine W.widen (k := 8) (n := 48) (Nat.le_of_ble_eq_true rfl) (Nat.le_of_ble_eq_true rfl) ?_
          exact W.zret (v := 1) hx hb hr (by decide) (fun t ht hW => ⟨⟨1, ((uH u (hPush (uh u) k3 (nI k61 - 4)), sa, st, ch) : US × (Nat → Nat) × (Nat → Nat) × (Nat → Nat)), rfl, ⟨rfl, INV_push I c80 c92, rfl⟩, by rw [ht]; exact hP9, hD9⟩, hS.F ht⟩) hS.2.2 dL_act_126
        · refine lv_iconst (v := 1) hx hb dL_act_95 (by decide) ?_
          have hP9 : va_P D vwCl (wSu cy b ((u, sa, st, ch) : US × (Nat → Nat) × (Nat → Nat) × (Nat → Nat)).2.1 ((u, sa, st, ch) : US × (Nat → Nat) × (Nat → Nat) × (Nat → Nat)).2.2.1 ((u, sa, st, ch) : US × (Nat → Nat) × (Nat → Nat) × (Nat → Nat)).2.2.2 ((u, sa, st, ch) : US × (Nat → Nat) × (Nat → Nat) × (Nat → Nat)).1 ++ (wSr cy ((u, sa, st, ch) : US × (Nat → Nat) × (Nat → Nat) × (Nat → Nat)).2.2.1 ((u, sa, st, ch) : US × (Nat → Nat) × (Nat → Nat) × (Nat → Nat)).1 ++ (wX cy a q q2 ca ta ((u, sa, st, ch) : US × (Nat → Nat) × (Nat → Nat) × (Nat → Nat)).1 g ++ chT cy ((u, sa, st, ch) : US × (Nat → Nat) × (Nat → Nat) × (Nat → Nat)).2.2.2 ((u, sa, st, ch) : US × (Nat → Nat) × (Nat → Nat) × (Nat → Nat)).1))) s.heap := (pM_dropP hP)
          have hD9 : va_D A (wSu cy b ((u, sa, st, ch) : US × (Nat → Nat) × (Nat → Nat) × (Nat → Nat)).2.1 ((u, sa, st, ch) : US × (Nat → Nat) × (Nat → Nat) × (Nat → Nat)).2.2.1 ((u, sa, st, ch) : US × (Nat → Nat) × (Nat → Nat) × (Nat → Nat)).2.2.2 ((u, sa, st, ch) : US × (Nat → Nat) × (Nat → Nat) × (Nat → Nat)).1 ++ (wSr cy ((u, sa, st, ch) : US × (Nat → Nat) × (Nat → Nat) × (Nat → Nat)).2.2.1 ((u, sa, st, ch) : US × (Nat → Nat) × (Nat → Nat) × (Nat → Nat)).1 ++ (wX cy a q q2 ca ta ((u, sa, st, ch) : US × (Nat → Nat) × (Nat → Nat) × (Nat → Nat)).1 g ++ chT cy ((u, sa, st, ch) : US × (Nat → Nat) × (Nat → Nat) × (Nat → Nat)).2.2.2 ((u, sa, st, ch) : US × (Nat → Nat) × (Nat → Nat) × (Nat → Nat)).1))) := (pM_dropD hD)
          refine W.widen (k := 8) (n := 48) (Nat.le_of_ble_eq_true rfl) (Nat.le_of_ble_eq_true rfl) ?_
          exact W.zret (v := 1) hx hb hr (by decide) (fun t ht hW => ⟨⟨1, ((u, sa, st, ch) : US × (Nat → Nat) × (Nat → Nat) × (Nat → Nat)), rfl, ⟨rfl, I, rfl⟩, by rw [ht]; exact hP9, hD9⟩, hS.F ht⟩) hS.2.2 dL_act_96
  · skip
    refine lv_tableIn (off := 103) (tgt := 127) hx hb dL_act_24 (by decide) (by decide) rfl (by decide) ?_
    refine lv_aload hx hb dL_act_127 (lv_at hl 0 rfl) ?_
    refine lv_iconst (v := 4) hx hb dL_act_129 (by decide) ?_
    refine row_aldS hx hb hK hP (k := k3) (j := 4) (show k3 < 12 by omega) (show 4 < 6 by omega) (by decide) dL_act_130 ?_
    refine pc_top (show (rowS (uh u)) k3 4 = zo (uh u) k3 from rfl) ?_
    refine lv_iconst (v := 1) hx hb dL_act_131 (by decide) ?_
    refine lv_icmp_ne (tgt := 147) hx hb dL_act_132 (by decide) (fun c132 => ?_) (fun c132 => ?_)
    · refine lv_aload_n hx hb dL_act_147 rfl (lv_at hl 3 rfl) ?_
      refine va_get (D := D) (ci := 3) (v := .ref (sa 0)) (C := RX3) (T := TX3) (N := 6) hx hb hts inL_act_RX3 hown hK hP 0 rfl rfl 0 (by decide) (hts _ kL_act_0) (fun _ h9 => h9) rfl dL_act_148 ?_
      refine lv_iload_n hx hb dL_act_151 rfl (lv_at hl 1 rfl) ?_
      refine lv_bipush (v := 6) hx hb dL_act_152 (by decide) ?_
      refine pc_newaF (atype := .int) (ty := .int) (N' := 6) (a0 := (6, .inl (fun _ => 0))) hx hb (hts _ kL_act_1) rfl hK hP hD hS hA 0 rfl (fun _ => rfl) (by decide) (by decide) (by decide) (Nat.le_of_ble_eq_true rfl) (Nat.le_of_ble_eq_true rfl) dL_act_154 (fun r154 H hP hD hS => ?_)
      have hP : va_P D vwCl (([(r154, .inl ((cy 0), 6, .inl (fun _ => 0)))] : va_W) ++ (wS5 cy b sa st ch (un u) (uw u) (ud u) (nI (zh (uh u))) (zl (uh u)) ++ (rows12 cy st 6 (rowS (uh u)) ++ (wX cy a q q2 ca ta u g ++ chT cy ch u)))) H := hP
      have hD : va_D A (([(r154, .inl ((cy 0), 6, .inl (fun _ => 0)))] : va_W) ++ (wS5 cy b sa st ch (un u) (uw u) (ud u) (nI (zh (uh u))) (zl (uh u)) ++ (rows12 cy st 6 (rowS (uh u)) ++ (wX cy a q q2 ca ta u g ++ chT cy ch u)))) := hD
      refine W.widen (k := 1) (n := 6) (Nat.le_of_ble_eq_true rfl) (Nat.le_of_ble_eq_true rfl) ?_
      refine lv_dup hx hb dL_act_156 rfl ?_
      refine lv_iconst (v := 0) hx hb dL_act_157 (by decide) ?_
      refine lv_bipush (v := 100) hx hb dL_act_158 (by decide) ?_
      refine lv_iload_n hx hb dL_act_160 rfl (lv_at hl 4 rfl) ?_
      refine lv_bipush (v := 7) hx hb dL_act_161 (by decide) ?_
      refine lv_imul hx hb dL_act_163 ?_
      refine lv_sipush (v := 801) hx hb dL_act_164 (by decide) ?_
      refine pc_calli (va_runS (As := [.int (xv * 7), .int 801]) (rest := [.int 100, .int 0, .ref r154, .ref r154, .int (nI k3), .ref (sa 0)]) ⟨hx, hb, hml, hown, hts⟩ (mL_below l D cy (xv * 7) 801 (by decide) (by decide)) (va_cwS 2 hts gL_act_L_below rfl rfl rfl (by decide +kernel) ⟨Nat.le_of_ble_eq_true rfl, Nat.le_of_ble_eq_true rfl⟩) ⟨fun a U g mk q => q, fun U hU hW => ⟨rfl, trivial⟩⟩ rfl rfl hl.1 rfl (lv_room (Nat.le_of_ble_eq_true rfl)) dL_act_167 ⟨Nat.le_of_ble_eq_true rfl, Nat.le_of_ble_eq_true rfl⟩) (fun r9 hr9 => ?_)
      obtain ⟨k167, hk167, rfl⟩ := hr9
      refine lv_iadd hx hb dL_act_170 ?_
      refine pc_top (show 100 + (nI k167) = nI (100 + k167) from nI_add 100 k167) ?_
      refine pc_iast hx hb hK hP hD hS 0 0 rfl rfl (k := 0) (show 0 < 6 by omega) (by decide) dL_act_171 (fun H locs hP hD hS => ?_)
      have hP : va_P D vwCl (([(r154, .inl ((cy 0), 6, .inl (upd (fun _ => 0) 0 (nI (100 + k167)))))] : va_W) ++ (wS5 cy b sa st ch (un u) (uw u) (ud u) (nI (zh (uh u))) (zl (uh u)) ++ (rows12 cy st 6 (rowS (uh u)) ++ (wX cy a q q2 ca ta u g ++ chT cy ch u)))) H := hP
      have hD : va_D A (([(r154, .inl ((cy 0), 6, .inl (upd (fun _ => 0) 0 (nI (100 + k167)))))] : va_W) ++ (wS5 cy b sa st ch (un u) (uw u) (ud u) (nI (zh (uh u))) (zl (uh u)) ++ (rows12 cy st 6 (rowS (uh u)) ++ (wX cy a q q2 ca ta u g ++ chT cy ch u)))) := hD
      refine lv_dup hx hb dL_act_172 rfl ?_
      refine lv_iconst (v := 1) hx hb dL_act_173 (by decide) ?_
      refine lv_aload hx hb dL_act_174 (lv_at hl 0 rfl) ?_
      refine lv_iconst (v := 1) hx hb dL_act_176 (by decide) ?_
      refine row_aldS hx hb hK hP (k := k3) (j := 1) (show k3 < 12 by omega) (show 1 < 6 by omega) (by decide) dL_act_177 ?_
      refine pc_top (show (rowS (uh u)) k3 1 = zw (uh u) k3 from rfl) ?_
      refine pc_iast hx hb hK hP hD hS 0 0 rfl rfl (k := 1) (show 1 < 6 by omega) (by decide) dL_act_178 (fun H locs hP hD hS => ?_)
      have hP : va_P D vwCl (([(r154, .inl ((cy 0), 6, .inl (upd (upd (fun _ => 0) 0 (nI (100 + k167))) 1 (zw (uh u) k3))))] : va_W) ++ (wS5 cy b sa st ch (un u) (uw u) (ud u) (nI (zh (uh u))) (zl (uh u)) ++ (rows12 cy st 6 (rowS (uh u)) ++ (wX cy a q q2 ca ta u g ++ chT cy ch u)))) H := hP
      have hD : va_D A (([(r154, .inl ((cy 0), 6, .inl (upd (upd (fun _ => 0) 0 (nI (100 + k167))) 1 (zw (uh u) k3))))] : va_W) ++ (wS5 cy b sa st ch (un u) (uw u) (ud u) (nI (zh (uh u))) (zl (uh u)) ++ (rows12 cy st 6 (rowS (uh u)) ++ (wX cy a q q2 ca ta u g ++ chT cy ch u)))) := hD
      refine lv_dup hx hb dL_act_179 rfl ?_
      refine lv_iconst (v := 2) hx hb dL_act_180 (by decide) ?_
      refine lv_iconst (v := 0) hx hb dL_act_181 (by decide) ?_
      refine pc_iast hx hb hK hP hD hS 0 0 rfl rfl (k := 2) (show 2 < 6 by omega) (by decide) dL_act_182 (fun H locs hP hD hS => ?_)
      have hP : va_P D vwCl (([(r154, .inl ((cy 0), 6, .inl (upd (upd (upd (fun _ => 0) 0 (nI (100 + k167))) 1 (zw (uh u) k3)) 2 0)))] : va_W) ++ (wS5 cy b sa st ch (un u) (uw u) (ud u) (nI (zh (uh u))) (zl (uh u)) ++ (rows12 cy st 6 (rowS (uh u)) ++ (wX cy a q q2 ca ta u g ++ chT cy ch u)))) H := hP
      have hD : va_D A (([(r154, .inl ((cy 0), 6, .inl (upd (upd (upd (fun _ => 0) 0 (nI (100 + k167))) 1 (zw (uh u) k3)) 2 0)))] : va_W) ++ (wS5 cy b sa st ch (un u) (uw u) (ud u) (nI (zh (uh u))) (zl (uh u)) ++ (rows12 cy st 6 (rowS (uh u)) ++ (wX cy a q q2 ca ta u g ++ chT cy ch u)))) := hD
      refine lv_dup hx hb dL_act_183 rfl ?_
      refine lv_iconst (v := 3) hx hb dL_act_184 (by decide) ?_
      refine lv_iconst (v := 0) hx hb dL_act_185 (by decide) ?_
      refine pc_iast hx hb hK hP hD hS 0 0 rfl rfl (k := 3) (show 3 < 6 by omega) (by decide) dL_act_186 (fun H locs hP hD hS => ?_)
      have hP : va_P D vwCl (([(r154, .inl ((cy 0), 6, .inl (upd (upd (upd (upd (fun _ => 0) 0 (nI (100 + k167))) 1 (zw (uh u) k3)) 2 0) 3 0)))] : va_W) ++ (wS5 cy b sa st ch (un u) (uw u) (ud u) (nI (zh (uh u))) (zl (uh u)) ++ (rows12 cy st 6 (rowS (uh u)) ++ (wX cy a q q2 ca ta u g ++ chT cy ch u)))) H := hP
      have hD : va_D A (([(r154, .inl ((cy 0), 6, .inl (upd (upd (upd (upd (fun _ => 0) 0 (nI (100 + k167))) 1 (zw (uh u) k3)) 2 0) 3 0)))] : va_W) ++ (wS5 cy b sa st ch (un u) (uw u) (ud u) (nI (zh (uh u))) (zl (uh u)) ++ (rows12 cy st 6 (rowS (uh u)) ++ (wX cy a q q2 ca ta u g ++ chT cy ch u)))) := hD
      refine lv_dup hx hb dL_act_187 rfl ?_
      refine lv_iconst (v := 4) hx hb dL_act_188 (by decide) ?_
      refine lv_iconst (v := 1) hx hb dL_act_189 (by decide) ?_
      refine pc_iast hx hb hK hP hD hS 0 0 rfl rfl (k := 4) (show 4 < 6 by omega) (by decide) dL_act_190 (fun H locs hP hD hS => ?_)
      have hP : va_P D vwCl (([(r154, .inl ((cy 0), 6, .inl (upd (upd (upd (upd (upd (fun _ => 0) 0 (nI (100 + k167))) 1 (zw (uh u) k3)) 2 0) 3 0) 4 1)))] : va_W) ++ (wS5 cy b sa st ch (un u) (uw u) (ud u) (nI (zh (uh u))) (zl (uh u)) ++ (rows12 cy st 6 (rowS (uh u)) ++ (wX cy a q q2 ca ta u g ++ chT cy ch u)))) H := hP
      have hD : va_D A (([(r154, .inl ((cy 0), 6, .inl (upd (upd (upd (upd (upd (fun _ => 0) 0 (nI (100 + k167))) 1 (zw (uh u) k3)) 2 0) 3 0) 4 1)))] : va_W) ++ (wS5 cy b sa st ch (un u) (uw u) (ud u) (nI (zh (uh u))) (zl (uh u)) ++ (rows12 cy st 6 (rowS (uh u)) ++ (wX cy a q q2 ca ta u g ++ chT cy ch u)))) := hD
      refine lv_dup hx hb dL_act_191 rfl ?_
      refine lv_iconst (v := 5) hx hb dL_act_192 (by decide) ?_
      refine lv_aload hx hb dL_act_193 (lv_at hl 0 rfl) ?_
      refine lv_iconst (v := 5) hx hb dL_act_195 (by decide) ?_
      refine row_aldS hx hb hK hP (k := k3) (j := 5) (show k3 < 12 by omega) (show 5 < 6 by omega) (by decide) dL_act_196 ?_
      refine pc_top (show (rowS (uh u)) k3 5 = zr (uh u) k3 from rfl) ?_
      refine pc_iast hx hb hK hP hD hS 0 0 rfl rfl (k := 5) (show 5 < 6 by omega) (by decide) dL_act_197 (fun H locs hP hD hS => ?_)
      have hP : va_P D vwCl (([(r154, .inl ((cy 0), 6, .inl (upd (upd (upd (upd (upd (upd (fun _ => 0) 0 (nI (100 + k167))) 1 (zw (uh u) k3)) 2 0) 3 0) 4 1) 5 (zr (uh u) k3))))] : va_W) ++ (wS5 cy b sa st ch (un u) (uw u) (ud u) (nI (zh (uh u))) (zl (uh u)) ++ (rows12 cy st 6 (rowS (uh u)) ++ (wX cy a q q2 ca ta u g ++ chT cy ch u)))) H := hP
      have hD : va_D A (([(r154, .inl ((cy 0), 6, .inl (upd (upd (upd (upd (upd (upd (fun _ => 0) 0 (nI (100 + k167))) 1 (zw (uh u) k3)) 2 0) 3 0) 4 1) 5 (zr (uh u) k3))))] : va_W) ++ (wS5 cy b sa st ch (un u) (uw u) (ud u) (nI (zh (uh u))) (zl (uh u)) ++ (rows12 cy st 6 (rowS (uh u)) ++ (wX cy a q q2 ca ta u g ++ chT cy ch u)))) := hD
      refine pc_astA hx hb hK hkp hP hD hS 2 0 rfl rfl (k := k3) (show k3 < 12 by omega) (by decide) dL_act_198 (fun H locs hP hD hS => ?_)
      have hP : va_P D vwCl (([(r154, .inl ((cy 0), 6, .inl (upd (upd (upd (upd (upd (upd (fun _ => 0) 0 (nI (100 + k167))) 1 (zw (uh u) k3)) 2 0) 3 0) 4 1) 5 (zr (uh u) k3))))] : va_W) ++ (([(b, .inr (3, [.ref (sa 0), .ref (sa 1), .ref (sa 2), .ref (sa 3), .int (nI (zh (uh u))), .int (zl (uh u))])), (sa 0, .inl (cy 4, 12, qf (va_up (fun i => some (st i)) k3 (some r154)))), (sa 1, .inl (cy 4, un u, qf (fun i => some (ch i)))), (sa 2, .inl (cy 0, 12, .inl (uw u))), (sa 3, .inl (cy 0, 12, .inl (ud u)))] : va_W) ++ (rows12 cy st 6 (rowS (uh u)) ++ (wX cy a q q2 ca ta u g ++ chT cy ch u)))) H := hP
      have hD : va_D A (([(r154, .inl ((cy 0), 6, .inl (upd (upd (upd (upd (upd (upd (fun _ => 0) 0 (nI (100 + k167))) 1 (zw (uh u) k3)) 2 0) 3 0) 4 1) 5 (zr (uh u) k3))))] : va_W) ++ (([(b, .inr (3, [.ref (sa 0), .ref (sa 1), .ref (sa 2), .ref (sa 3), .int (nI (zh (uh u))), .int (zl (uh u))])), (sa 0, .inl (cy 4, 12, qf (va_up (fun i => some (st i)) k3 (some r154)))), (sa 1, .inl (cy 4, un u, qf (fun i => some (ch i)))), (sa 2, .inl (cy 0, 12, .inl (uw u))), (sa 3, .inl (cy 0, 12, .inl (ud u)))] : va_W) ++ (rows12 cy st 6 (rowS (uh u)) ++ (wX cy a q q2 ca ta u g ++ chT cy ch u)))) := hD
      rw [va_up_sup] at hP hD
      have hP := row_swapP hk3 hP
      have hD := row_swapD hk3 hD
      obtain ⟨st2, hst2⟩ : ∃ z, z = sup st k3 r154 := ⟨_, rfl⟩
      rw [← hst2] at hP hD
      have hP : va_P D vwCl (([] : va_W) ++ (wS5 cy b sa st2 ch (un u) (uw u) (ud u) (nI (zh (uh u))) (zl (uh u)) ++ (rows12 cy st2 6 (fup (rowS (uh u)) k3 (upd (upd (upd (upd (upd (upd (fun _ => 0) 0 (nI (100 + k167))) 1 (zw (uh u) k3)) 2 0) 3 0) 4 1) 5 (zr (uh u) k3))) ++ (wX cy a q q2 ca ta u g ++ chT cy ch u)))) H := hP
      have hD : va_D A (([] : va_W) ++ (wS5 cy b sa st2 ch (un u) (uw u) (ud u) (nI (zh (uh u))) (zl (uh u)) ++ (rows12 cy st2 6 (fup (rowS (uh u)) k3 (upd (upd (upd (upd (upd (upd (fun _ => 0) 0 (nI (100 + k167))) 1 (zw (uh u) k3)) 2 0) 3 0) 4 1) 5 (zr (uh u) k3))) ++ (wX cy a q q2 ca ta u g ++ chT cy ch u)))) := hD
      have e9 : (fup (rowS (uh u)) k3 (upd (upd (upd (upd (upd (upd (fun _ => 0) 0 (nI (100 + k167))) 1 (zw (uh u) k3)) 2 0) 3 0) 4 1) 5 (zr (uh u) k3))) = rowS (hRenew (uh u) k3 (nI (100 + k167))) := (rowRenew _ _ _)
      rw [e9] at hP hD
      clear e9
      have hP : va_P D vwCl (([] : va_W) ++ (wS5 cy b sa st2 ch (un u) (uw u) (ud u) (nI (zh (uh u))) (zl (uh u)) ++ (rows12 cy st2 6 (rowS (hRenew (uh u) k3 (nI (100 + k167)))) ++ (wX cy a q q2 ca ta u g ++ chT cy ch u)))) H := hP
      have hD : va_D A (([] : va_W) ++ (wS5 cy b sa st2 ch (un u) (uw u) (ud u) (nI (zh (uh u))) (zl (uh u)) ++ (rows12 cy st2 6 (rowS (hRenew (uh u) k3 (nI (100 + k167)))) ++ (wX cy a q q2 ca ta u g ++ chT cy ch u)))) := hD
      refine lv_aload_n hx hb dL_act_199 rfl (lv_at hl 2 rfl) ?_
      refine lv_iload_n hx hb dL_act_200 rfl (lv_at hl 1 rfl) ?_
      refine lv_aload_n hx hb dL_act_201 rfl (lv_at hl 3 rfl) ?_
      refine va_get (D := D) (ci := 3) (v := .ref (sa 0)) (C := RX3) (T := TX3) (N := 6) hx hb hts inL_act_RX3 hown hK hP 0 rfl rfl 0 (by decide) (hts _ kL_act_0) (fun _ h9 => h9) rfl dL_act_202 ?_
      refine lv_iload_n hx hb dL_act_205 rfl (lv_at hl 1 rfl) ?_
      refine pc_aldA hx hb hkp hP 1 rfl (k := k3) (show k3 < 12 by omega) (by decide) (v := st2 k3) rfl dL_act_206 ?_
      refine lv_iconst (v := 0) hx hb dL_act_207 (by decide) ?_
      refine row_aldS hx hb hK hP (k := k3) (j := 0) (show k3 < 12 by omega) (show 0 < 6 by omega) (by decide) dL_act_208 ?_
      refine pc_top (show (rowS (hRenew (uh u) k3 (nI (100 + k167)))) k3 0 = zb (hRenew (uh u) k3 (nI (100 + k167))) k3 from rfl) ?_
      refine pc_top (show zb (hRenew (uh u) k3 (nI (100 + k167))) k3 = nI (100 + k167) from pk_us) ?_
      refine cls_w (Lc := ([] : va_W)) (S5 := wS5 cy b sa st2 ch (un u) (uw u) (ud u) (nI (zh (uh u))) (zl (uh u))) (S12 := rows12 cy st2 6 (rowS (hRenew (uh u) k3 (nI (100 + k167))))) (T := chT cy ch u) (As := [.int (nI k3), .int (nI (100 + k167))]) (rest := []) (uf := fun (_ : Unit) => uH u (hRenew (uh u) (ix (nI k3)) (nI (100 + k167)))) (gf := fun (_ : Unit) => g) hP hD hS hA hK hXA ⟨hx, hb, hml, hown, hts⟩ (mX2_draw l hst D cy H.size a q q2 ca ta u g I.1 (nI k3) (nI (100 + k167))) (fun E h => h.2 (exDraw_0 hk3 hk167)) (cwV 2 hts gL_act_X2_draw rfl rfl rfl (by decide +kernel) ⟨Nat.le_of_ble_eq_true rfl, Nat.le_of_ble_eq_true rfl⟩) rfl rfl hl.1 (Nat.le_of_ble_eq_true rfl) dL_act_209 ⟨Nat.le_of_ble_eq_true rfl, Nat.le_of_ble_eq_true rfl⟩ (fun _ H locs hP hD hS => ?_)
      have hP : va_P D vwCl (([] : va_W) ++ (wS5 cy b sa st2 ch (un u) (uw u) (ud u) (nI (zh (uh u))) (zl (uh u)) ++ (rows12 cy st2 6 (rowS (hRenew (uh u) k3 (nI (100 + k167)))) ++ (wX cy a q q2 ca ta (uH u (hRenew (uh u) (ix (nI k3)) (nI (100 + k167)))) g ++ chT cy ch u)))) H := hP
      have hD : va_D A (([] : va_W) ++ (wS5 cy b sa st2 ch (un u) (uw u) (ud u) (nI (zh (uh u))) (zl (uh u)) ++ (rows12 cy st2 6 (rowS (hRenew (uh u) k3 (nI (100 + k167)))) ++ (wX cy a q q2 ca ta (uH u (hRenew (uh u) (ix (nI k3)) (nI (100 + k167)))) g ++ chT cy ch u)))) := hD
      refine W.widen (k := 3) (n := 18) (Nat.le_of_ble_eq_true rfl) (Nat.le_of_ble_eq_true rfl) ?_
      rw [ixk] at hP hD
      have hP : va_P D vwCl (([] : va_W) ++ (wS5 cy b sa st2 ch (un u) (uw u) (ud u) (nI (zh (uh u))) (zl (uh u)) ++ (rows12 cy st2 6 (rowS (hRenew (uh u) k3 (nI (100 + k167)))) ++ (wX cy a q q2 ca ta (uH u (hRenew (uh u) k3 (nI (100 + k167)))) g ++ chT cy ch u)))) H := hP
      have hD : va_D A (([] : va_W) ++ (wS5 cy b sa st2 ch (un u) (uw u) (ud u) (nI (zh (uh u))) (zl (uh u)) ++ (rows12 cy st2 6 (rowS (hRenew (uh u) k3 (nI (100 + k167)))) ++ (wX cy a q q2 ca ta (uH u (hRenew (uh u) k3 (nI (100 + k167)))) g ++ chT cy ch u)))) := hD
      refine pc_top (show tone (hRenew (uh u) (ix (nI k3)) (nI (100 + k167))) (ix (nI k3)) = tone (hRenew (uh u) k3 (nI (100 + k167))) k3 from (by rw [ixk])) ?_
      refine lv_aload_n hx hb dL_act_212 rfl (lv_at hl 3 rfl) ?_
      refine lv_iload_n hx hb dL_act_213 rfl (lv_at hl 1 rfl) ?_
      refine sim_p (Lc := ([] : va_W)) (S5 := wS5 cy b sa st2 ch (un u) (uw u) (ud u) (nI (zh (uh u))) (zl (uh u))) (S12 := rows12 cy st2 6 (rowS (hRenew (uh u) k3 (nI (100 + k167))))) (X := wX cy a q q2 ca ta (uH u (hRenew (uh u) k3 (nI (100 + k167)))) g ++ chT cy ch u) (Y := []) (As := [.int (nI k3)]) (rest := [.int (tone (hRenew (uh u) k3 (nI (100 + k167))) k3)]) hP hK hkp ⟨hx, hb, hml, hown, hts⟩ (mX3_tone l D cy b sa st2 ch (uH u (hRenew (uh u) k3 (nI (100 + k167)))) k3 hk3) (no_mem) rfl (cwV 1 hts gL_act_X3_tone rfl rfl rfl (by decide +kernel) ⟨Nat.le_of_ble_eq_true rfl, Nat.le_of_ble_eq_true rfl⟩) rfl rfl hl.1 (Nat.le_of_ble_eq_true rfl) dL_act_214 ⟨Nat.le_of_ble_eq_true rfl, Nat.le_of_ble_eq_true rfl⟩ ?_
      refine lv_icmp_ne (tgt := 224) hx hb dL_act_217 (by decide) (fun c217 => absurd c217 (not_not_intro rfl)) (fun c217 => ?_)
      refine lv_iconst (v := 1) hx hb dL_act_220 (by decide) ?_
      refine lv_goto (tgt := 225) hx hb dL_act_221 (by decide) ?_
      have hP9 : va_P D vwCl (wSu cy b ((uH u (hRenew (uh u) k3 (nI (100 + k167))), sa, st2, ch) : US × (Nat → Nat) × (Nat → Nat) × (Nat → Nat)).2.1 ((uH u (hRenew (uh u) k3 (nI (100 + k167))), sa, st2, ch) : US × (Nat → Nat) × (Nat → Nat) × (Nat → Nat)).2.2.1 ((uH u (hRenew (uh u) k3 (nI (100 + k167))), sa, st2, ch) : US × (Nat → Nat) × (Nat → Nat) × (Nat → Nat)).2.2.2 ((uH u (hRenew (uh u) k3 (nI (100 + k167))), sa, st2, ch) : US × (Nat → Nat) × (Nat → Nat) × (Nat → Nat)).1 ++ (wSr cy ((uH u (hRenew (uh u) k3 (nI (100 + k167))), sa, st2, ch) : US × (Nat → Nat) × (Nat → Nat) × (Nat → Nat)).2.2.1 ((uH u (hRenew (uh u) k3 (nI (100 + k167))), sa, st2, ch) : US × (Nat → Nat) × (Nat → Nat) × (Nat → Nat)).1 ++ (wX cy a q q2 ca ta ((uH u (hRenew (uh u) k3 (nI (100 + k167))), sa, st2, ch) : US × (Nat → Nat) × (Nat → Nat) × (Nat → Nat)).1 g ++ chT cy ((uH u (hRenew (uh u) k3 (nI (100 + k167))), sa, st2, ch) : US × (Nat → Nat) × (Nat → Nat) × (Nat → Nat)).2.2.2 ((uH u (hRenew (uh u) k3 (nI (100 + k167))), sa, st2, ch) : US × (Nat → Nat) × (Nat → Nat) × (Nat → Nat)).1))) H := (pM_dropP hP)
      have hD9 : va_D A (wSu cy b ((uH u (hRenew (uh u) k3 (nI (100 + k167))), sa, st2, ch) : US × (Nat → Nat) × (Nat → Nat) × (Nat → Nat)).2.1 ((uH u (hRenew (uh u) k3 (nI (100 + k167))), sa, st2, ch) : US × (Nat → Nat) × (Nat → Nat) × (Nat → Nat)).2.2.1 ((uH u (hRenew (uh u) k3 (nI (100 + k167))), sa, st2, ch) : US × (Nat → Nat) × (Nat → Nat) × (Nat → Nat)).2.2.2 ((uH u (hRenew (uh u) k3 (nI (100 + k167))), sa, st2, ch) : US × (Nat → Nat) × (Nat → Nat) × (Nat → Nat)).1 ++ (wSr cy ((uH u (hRenew (uh u) k3 (nI (100 + k167))), sa, st2, ch) : US × (Nat → Nat) × (Nat → Nat) × (Nat → Nat)).2.2.1 ((uH u (hRenew (uh u) k3 (nI (100 + k167))), sa, st2, ch) : US × (Nat → Nat) × (Nat → Nat) × (Nat → Nat)).1 ++ (wX cy a q q2 ca ta ((uH u (hRenew (uh u) k3 (nI (100 + k167))), sa, st2, ch) : US × (Nat → Nat) × (Nat → Nat) × (Nat → Nat)).1 g ++ chT cy ((uH u (hRenew (uh u) k3 (nI (100 + k167))), sa, st2, ch) : US × (Nat → Nat) × (Nat → Nat) × (Nat → Nat)).2.2.2 ((uH u (hRenew (uh u) k3 (nI (100 + k167))), sa, st2, ch) : US × (Nat → Nat) × (Nat → Nat) × (Nat → Nat)).1))) := (pM_dropD hD)
      refine W.widen (k := 8) (n := 48) (Nat.le_of_ble_eq_true rfl) (Nat.le_of_ble_eq_true rfl) ?_
      exact W.zret (v := 1) hx hb hr (by decide) (fun t ht hW => ⟨⟨1, ((uH u (hRenew (uh u) k3 (nI (100 + k167))), sa, st2, ch) : US × (Nat → Nat) × (Nat → Nat) × (Nat → Nat)), rfl, ⟨rfl, INV_draw I hk167, rfl⟩, by rw [ht]; exact hP9, hD9⟩, hS.F ht⟩) hS.2.2 dL_act_225
    · refine lv_iload_n hx hb dL_act_135 rfl (lv_at hl 4 rfl) ?_
      refine lv_iconst (v := 5) hx hb dL_act_136 (by decide) ?_
      refine lv_ishr hx hb dL_act_137 ?_
      refine lv_iconst (v := 3) hx hb dL_act_138 (by decide) ?_
      refine pc_calli (va_runS (As := [.int (xv >>> (5 &&& 31)), .int 3]) (rest := []) ⟨hx, hb, hml, hown, hts⟩ (mL_below l D cy (xv >>> (5 &&& 31)) 3 (by decide) (by decide)) (va_cwS 2 hts gL_act_L_below rfl rfl rfl (by decide +kernel) ⟨Nat.le_of_ble_eq_true rfl, Nat.le_of_ble_eq_true rfl⟩) ⟨fun a U g mk q => q, fun U hU hW => ⟨rfl, trivial⟩⟩ rfl rfl hl.1 rfl (lv_room (Nat.le_of_ble_eq_true rfl)) dL_act_139 ⟨Nat.le_of_ble_eq_true rfl, Nat.le_of_ble_eq_true rfl⟩) (fun r9 hr9 => ?_)
      obtain ⟨k139, hk139, rfl⟩ := hr9
      refine lv_if_le (tgt := 147) hx hb dL_act_142 (by decide) (fun c142 => ?_) (fun c142 => ?_)
      · have n142 : k139 ≤ 0 := (nI_leI (a := k139) (b := 0) (by omega) (by omega)).mp c142
        refine lv_aload_n hx hb dL_act_147 rfl (lv_at hl 3 rfl) ?_
        refine va_get (D := D) (ci := 3) (v := .ref (sa 0)) (C := RX3) (T := TX3) (N := 6) hx hb hts inL_act_RX3 hown hK hP 0 rfl rfl 0 (by decide) (hts _ kL_act_0) (fun _ h9 => h9) rfl dL_act_148 ?_
        refine lv_iload_n hx hb dL_act_151 rfl (lv_at hl 1 rfl) ?_
        refine lv_bipush (v := 6) hx hb dL_act_152 (by decide) ?_
        refine pc_newaF (atype := .int) (ty := .int) (N' := 6) (a0 := (6, .inl (fun _ => 0))) hx hb (hts _ kL_act_1) rfl hK hP hD hS hA 0 rfl (fun _ => rfl) (by decide) (by decide) (by decide) (Nat.le_of_ble_eq_true rfl) (Nat.le_of_ble_eq_true rfl) dL_act_154 (fun r154 H hP hD hS => ?_)
        have hP : va_P D vwCl (([(r154, .inl ((cy 0), 6, .inl (fun _ => 0)))] : va_W) ++ (wS5 cy b sa st ch (un u) (uw u) (ud u) (nI (zh (uh u))) (zl (uh u)) ++ (rows12 cy st 6 (rowS (uh u)) ++ (wX cy a q q2 ca ta u g ++ chT cy ch u)))) H := hP
        have hD : va_D A (([(r154, .inl ((cy 0), 6, .inl (fun _ => 0)))] : va_W) ++ (wS5 cy b sa st ch (un u) (uw u) (ud u) (nI (zh (uh u))) (zl (uh u)) ++ (rows12 cy st 6 (rowS (uh u)) ++ (wX cy a q q2 ca ta u g ++ chT cy ch u)))) := hD
        refine W.widen (k := 1) (n := 6) (Nat.le_of_ble_eq_true rfl) (Nat.le_of_ble_eq_true rfl) ?_
        refine lv_dup hx hb dL_act_156 rfl ?_
        refine lv_iconst (v := 0) hx hb dL_act_157 (by decide) ?_
        refine lv_bipush (v := 100) hx hb dL_act_158 (by decide) ?_
        refine lv_iload_n hx hb dL_act_160 rfl (lv_at hl 4 rfl) ?_
        refine lv_bipush (v := 7) hx hb dL_act_161 (by decide) ?_
        refine lv_imul hx hb dL_act_163 ?_
        refine lv_sipush (v := 801) hx hb dL_act_164 (by decide) ?_
        refine pc_calli (va_runS (As := [.int (xv * 7), .int 801]) (rest := [.int 100, .int 0, .ref r154, .ref r154, .int (nI k3), .ref (sa 0)]) ⟨hx, hb, hml, hown, hts⟩ (mL_below l D cy (xv * 7) 801 (by decide) (by decide)) (va_cwS 2 hts gL_act_L_below rfl rfl rfl (by decide +kernel) ⟨Nat.le_of_ble_eq_true rfl, Nat.le_of_ble_eq_true rfl⟩) ⟨fun a U g mk q => q, fun U hU hW => ⟨rfl, trivial⟩⟩ rfl rfl hl.1 rfl (lv_room (Nat.le_of_ble_eq_true rfl)) dL_act_167 ⟨Nat.le_of_ble_eq_true rfl, Nat.le_of_ble_eq_true rfl⟩) (fun r9 hr9 => ?_)
        obtain ⟨k167, hk167, rfl⟩ := hr9
        refine lv_iadd hx hb dL_act_170 ?_
        refine pc_top (show 100 + (nI k167) = nI (100 + k167) from nI_add 100 k167) ?_
        refine pc_iast hx hb hK hP hD hS 0 0 rfl rfl (k := 0) (show 0 < 6 by omega) (by decide) dL_act_171 (fun H locs hP hD hS => ?_)
        have hP : va_P D vwCl (([(r154, .inl ((cy 0), 6, .inl (upd (fun _ => 0) 0 (nI (100 + k167)))))] : va_W) ++ (wS5 cy b sa st ch (un u) (uw u) (ud u) (nI (zh (uh u))) (zl (uh u)) ++ (rows12 cy st 6 (rowS (uh u)) ++ (wX cy a q q2 ca ta u g ++ chT cy ch u)))) H := hP
        have hD : va_D A (([(r154, .inl ((cy 0), 6, .inl (upd (fun _ => 0) 0 (nI (100 + k167)))))] : va_W) ++ (wS5 cy b sa st ch (un u) (uw u) (ud u) (nI (zh (uh u))) (zl (uh u)) ++ (rows12 cy st 6 (rowS (uh u)) ++ (wX cy a q q2 ca ta u g ++ chT cy ch u)))) := hD
        refine lv_dup hx hb dL_act_172 rfl ?_
        refine lv_iconst (v := 1) hx hb dL_act_173 (by decide) ?_
        refine lv_aload hx hb dL_act_174 (lv_at hl 0 rfl) ?_
        refine lv_iconst (v := 1) hx hb dL_act_176 (by decide) ?_
        refine row_aldS hx hb hK hP (k := k3) (j := 1) (show k3 < 12 by omega) (show 1 < 6 by omega) (by decide) dL_act_177 ?_
        refine pc_top (show (rowS (uh u)) k3 1 = zw (uh u) k3 from rfl) ?_
        refine pc_iast hx hb hK hP hD hS 0 0 rfl rfl (k := 1) (show 1 < 6 by omega) (by decide) dL_act_178 (fun H locs hP hD hS => ?_)
        have hP : va_P D vwCl (([(r154, .inl ((cy 0), 6, .inl (upd (upd (fun _ => 0) 0 (nI (100 + k167))) 1 (zw (uh u) k3))))] : va_W) ++ (wS5 cy b sa st ch (un u) (uw u) (ud u) (nI (zh (uh u))) (zl (uh u)) ++ (rows12 cy st 6 (rowS (uh u)) ++ (wX cy a q q2 ca ta u g ++ chT cy ch u)))) H := hP
        have hD : va_D A (([(r154, .inl ((cy 0), 6, .inl (upd (upd (fun _ => 0) 0 (nI (100 + k167))) 1 (zw (uh u) k3))))] : va_W) ++ (wS5 cy b sa st ch (un u) (uw u) (ud u) (nI (zh (uh u))) (zl (uh u)) ++ (rows12 cy st 6 (rowS (uh u)) ++ (wX cy a q q2 ca ta u g ++ chT cy ch u)))) := hD
        refine lv_dup hx hb dL_act_179 rfl ?_
        refine lv_iconst (v := 2) hx hb dL_act_180 (by decide) ?_
        refine lv_iconst (v := 0) hx hb dL_act_181 (by decide) ?_
        refine pc_iast hx hb hK hP hD hS 0 0 rfl rfl (k := 2) (show 2 < 6 by omega) (by decide) dL_act_182 (fun H locs hP hD hS => ?_)
        have hP : va_P D vwCl (([(r154, .inl ((cy 0), 6, .inl (upd (upd (upd (fun _ => 0) 0 (nI (100 + k167))) 1 (zw (uh u) k3)) 2 0)))] : va_W) ++ (wS5 cy b sa st ch (un u) (uw u) (ud u) (nI (zh (uh u))) (zl (uh u)) ++ (rows12 cy st 6 (rowS (uh u)) ++ (wX cy a q q2 ca ta u g ++ chT cy ch u)))) H := hP
        have hD : va_D A (([(r154, .inl ((cy 0), 6, .inl (upd (upd (upd (fun _ => 0) 0 (nI (100 + k167))) 1 (zw (uh u) k3)) 2 0)))] : va_W) ++ (wS5 cy b sa st ch (un u) (uw u) (ud u) (nI (zh (uh u))) (zl (uh u)) ++ (rows12 cy st 6 (rowS (uh u)) ++ (wX cy a q q2 ca ta u g ++ chT cy ch u)))) := hD
        refine lv_dup hx hb dL_act_183 rfl ?_
        refine lv_iconst (v := 3) hx hb dL_act_184 (by decide) ?_
        refine lv_iconst (v := 0) hx hb dL_act_185 (by decide) ?_
        refine pc_iast hx hb hK hP hD hS 0 0 rfl rfl (k := 3) (show 3 < 6 by omega) (by decide) dL_act_186 (fun H locs hP hD hS => ?_)
        have hP : va_P D vwCl (([(r154, .inl ((cy 0), 6, .inl (upd (upd (upd (upd (fun _ => 0) 0 (nI (100 + k167))) 1 (zw (uh u) k3)) 2 0) 3 0)))] : va_W) ++ (wS5 cy b sa st ch (un u) (uw u) (ud u) (nI (zh (uh u))) (zl (uh u)) ++ (rows12 cy st 6 (rowS (uh u)) ++ (wX cy a q q2 ca ta u g ++ chT cy ch u)))) H := hP
        have hD : va_D A (([(r154, .inl ((cy 0), 6, .inl (upd (upd (upd (upd (fun _ => 0) 0 (nI (100 + k167))) 1 (zw (uh u) k3)) 2 0) 3 0)))] : va_W) ++ (wS5 cy b sa st ch (un u) (uw u) (ud u) (nI (zh (uh u))) (zl (uh u)) ++ (rows12 cy st 6 (rowS (uh u)) ++ (wX cy a q q2 ca ta u g ++ chT cy ch u)))) := hD
        refine lv_dup hx hb dL_act_187 rfl ?_
        refine lv_iconst (v := 4) hx hb dL_act_188 (by decide) ?_
        refine lv_iconst (v := 1) hx hb dL_act_189 (by decide) ?_
        refine pc_iast hx hb hK hP hD hS 0 0 rfl rfl (k := 4) (show 4 < 6 by omega) (by decide) dL_act_190 (fun H locs hP hD hS => ?_)
        have hP : va_P D vwCl (([(r154, .inl ((cy 0), 6, .inl (upd (upd (upd (upd (upd (fun _ => 0) 0 (nI (100 + k167))) 1 (zw (uh u) k3)) 2 0) 3 0) 4 1)))] : va_W) ++ (wS5 cy b sa st ch (un u) (uw u) (ud u) (nI (zh (uh u))) (zl (uh u)) ++ (rows12 cy st 6 (rowS (uh u)) ++ (wX cy a q q2 ca ta u g ++ chT cy ch u)))) H := hP
        have hD : va_D A (([(r154, .inl ((cy 0), 6, .inl (upd (upd (upd (upd (upd (fun _ => 0) 0 (nI (100 + k167))) 1 (zw (uh u) k3)) 2 0) 3 0) 4 1)))] : va_W) ++ (wS5 cy b sa st ch (un u) (uw u) (ud u) (nI (zh (uh u))) (zl (uh u)) ++ (rows12 cy st 6 (rowS (uh u)) ++ (wX cy a q q2 ca ta u g ++ chT cy ch u)))) := hD
        refine lv_dup hx hb dL_act_191 rfl ?_
        refine lv_iconst (v := 5) hx hb dL_act_192 (by decide) ?_
        refine lv_aload hx hb dL_act_193 (lv_at hl 0 rfl) ?_
        refine lv_iconst (v := 5) hx hb dL_act_195 (by decide) ?_
        refine row_aldS hx hb hK hP (k := k3) (j := 5) (show k3 < 12 by omega) (show 5 < 6 by omega) (by decide) dL_act_196 ?_
        refine pc_top (show (rowS (uh u)) k3 5 = zr (uh u) k3 from rfl) ?_
        refine pc_iast hx hb hK hP hD hS 0 0 rfl rfl (k := 5) (show 5 < 6 by omega) (by decide) dL_act_197 (fun H locs hP hD hS => ?_)
        have hP : va_P D vwCl (([(r154, .inl ((cy 0), 6, .inl (upd (upd (upd (upd (upd (upd (fun _ => 0) 0 (nI (100 + k167))) 1 (zw (uh u) k3)) 2 0) 3 0) 4 1) 5 (zr (uh u) k3))))] : va_W) ++ (wS5 cy b sa st ch (un u) (uw u) (ud u) (nI (zh (uh u))) (zl (uh u)) ++ (rows12 cy st 6 (rowS (uh u)) ++ (wX cy a q q2 ca ta u g ++ chT cy ch u)))) H := hP
        have hD : va_D A (([(r154, .inl ((cy 0), 6, .inl (upd (upd (upd (upd (upd (upd (fun _ => 0) 0 (nI (100 + k167))) 1 (zw (uh u) k3)) 2 0) 3 0) 4 1) 5 (zr (uh u) k3))))] : va_W) ++ (wS5 cy b sa st ch (un u) (uw u) (ud u) (nI (zh (uh u))) (zl (uh u)) ++ (rows12 cy st 6 (rowS (uh u)) ++ (wX cy a q q2 ca ta u g ++ chT cy ch u)))) := hD
        refine pc_astA hx hb hK hkp hP hD hS 2 0 rfl rfl (k := k3) (show k3 < 12 by omega) (by decide) dL_act_198 (fun H locs hP hD hS => ?_)
        have hP : va_P D vwCl (([(r154, .inl ((cy 0), 6, .inl (upd (upd (upd (upd (upd (upd (fun _ => 0) 0 (nI (100 + k167))) 1 (zw (uh u) k3)) 2 0) 3 0) 4 1) 5 (zr (uh u) k3))))] : va_W) ++ (([(b, .inr (3, [.ref (sa 0), .ref (sa 1), .ref (sa 2), .ref (sa 3), .int (nI (zh (uh u))), .int (zl (uh u))])), (sa 0, .inl (cy 4, 12, qf (va_up (fun i => some (st i)) k3 (some r154)))), (sa 1, .inl (cy 4, un u, qf (fun i => some (ch i)))), (sa 2, .inl (cy 0, 12, .inl (uw u))), (sa 3, .inl (cy 0, 12, .inl (ud u)))] : va_W) ++ (rows12 cy st 6 (rowS (uh u)) ++ (wX cy a q q2 ca ta u g ++ chT cy ch u)))) H := hP
        have hD : va_D A (([(r154, .inl ((cy 0), 6, .inl (upd (upd (upd (upd (upd (upd (fun _ => 0) 0 (nI (100 + k167))) 1 (zw (uh u) k3)) 2 0) 3 0) 4 1) 5 (zr (uh u) k3))))] : va_W) ++ (([(b, .inr (3, [.ref (sa 0), .ref (sa 1), .ref (sa 2), .ref (sa 3), .int (nI (zh (uh u))), .int (zl (uh u))])), (sa 0, .inl (cy 4, 12, qf (va_up (fun i => some (st i)) k3 (some r154)))), (sa 1, .inl (cy 4, un u, qf (fun i => some (ch i)))), (sa 2, .inl (cy 0, 12, .inl (uw u))), (sa 3, .inl (cy 0, 12, .inl (ud u)))] : va_W) ++ (rows12 cy st 6 (rowS (uh u)) ++ (wX cy a q q2 ca ta u g ++ chT cy ch u)))) := hD
        rw [va_up_sup] at hP hD
        have hP := row_swapP hk3 hP
        have hD := row_swapD hk3 hD
        obtain ⟨st2, hst2⟩ : ∃ z, z = sup st k3 r154 := ⟨_, rfl⟩
        rw [← hst2] at hP hD
        have hP : va_P D vwCl (([] : va_W) ++ (wS5 cy b sa st2 ch (un u) (uw u) (ud u) (nI (zh (uh u))) (zl (uh u)) ++ (rows12 cy st2 6 (fup (rowS (uh u)) k3 (upd (upd (upd (upd (upd (upd (fun _ => 0) 0 (nI (100 + k167))) 1 (zw (uh u) k3)) 2 0) 3 0) 4 1) 5 (zr (uh u) k3))) ++ (wX cy a q q2 ca ta u g ++ chT cy ch u)))) H := hP
        have hD : va_D A (([] : va_W) ++ (wS5 cy b sa st2 ch (un u) (uw u) (ud u) (nI (zh (uh u))) (zl (uh u)) ++ (rows12 cy st2 6 (fup (rowS (uh u)) k3 (upd (upd (upd (upd (upd (upd (fun _ => 0) 0 (nI (100 + k167))) 1 (zw (uh u) k3)) 2 0) 3 0) 4 1) 5 (zr (uh u) k3))) ++ (wX cy a q q2 ca ta u g ++ chT cy ch u)))) := hD
        have e9 : (fup (rowS (uh u)) k3 (upd (upd (upd (upd (upd (upd (fun _ => 0) 0 (nI (100 + k167))) 1 (zw (uh u) k3)) 2 0) 3 0) 4 1) 5 (zr (uh u) k3))) = rowS (hRenew (uh u) k3 (nI (100 + k167))) := (rowRenew _ _ _)
        rw [e9] at hP hD
        clear e9
        have hP : va_P D vwCl (([] : va_W) ++ (wS5 cy b sa st2 ch (un u) (uw u) (ud u) (nI (zh (uh u))) (zl (uh u)) ++ (rows12 cy st2 6 (rowS (hRenew (uh u) k3 (nI (100 + k167)))) ++ (wX cy a q q2 ca ta u g ++ chT cy ch u)))) H := hP
        have hD : va_D A (([] : va_W) ++ (wS5 cy b sa st2 ch (un u) (uw u) (ud u) (nI (zh (uh u))) (zl (uh u)) ++ (rows12 cy st2 6 (rowS (hRenew (uh u) k3 (nI (100 + k167)))) ++ (wX cy a q q2 ca ta u g ++ chT cy ch u)))) := hD
        refine lv_aload_n hx hb dL_act_199 rfl (lv_at hl 2 rfl) ?_
        refine lv_iload_n hx hb dL_act_200 rfl (lv_at hl 1 rfl) ?_
        refine lv_aload_n hx hb dL_act_201 rfl (lv_at hl 3 rfl) ?_
        refine va_get (D := D) (ci := 3) (v := .ref (sa 0)) (C := RX3) (T := TX3) (N := 6) hx hb hts inL_act_RX3 hown hK hP 0 rfl rfl 0 (by decide) (hts _ kL_act_0) (fun _ h9 => h9) rfl dL_act_202 ?_
        refine lv_iload_n hx hb dL_act_205 rfl (lv_at hl 1 rfl) ?_
        refine pc_aldA hx hb hkp hP 1 rfl (k := k3) (show k3 < 12 by omega) (by decide) (v := st2 k3) rfl dL_act_206 ?_
        refine lv_iconst (v := 0) hx hb dL_act_207 (by decide) ?_
        refine row_aldS hx hb hK hP (k := k3) (j := 0) (show k3 < 12 by omega) (show 0 < 6 by omega) (by decide) dL_act_208 ?_
        refine pc_top (show (rowS (hRenew (uh u) k3 (nI (100 + k167)))) k3 0 = zb (hRenew (uh u) k3 (nI (100 + k167))) k3 from rfl) ?_
        refine pc_top (show zb (hRenew (uh u) k3 (nI (100 + k167))) k3 = nI (100 + k167) from pk_us) ?_
        refine cls_w (Lc := ([] : va_W)) (S5 := wS5 cy b sa st2 ch (un u) (uw u) (ud u) (nI (zh (uh u))) (zl (uh u))) (S12 := rows12 cy st2 6 (rowS (hRenew (uh u) k3 (nI (100 + k167))))) (T := chT cy ch u) (As := [.int (nI k3), .int (nI (100 + k167))]) (rest := []) (uf := fun (_ : Unit) => uH u (hRenew (uh u) (ix (nI k3)) (nI (100 + k167)))) (gf := fun (_ : Unit) => g) hP hD hS hA hK hXA ⟨hx, hb, hml, hown, hts⟩ (mX2_draw l hst D cy H.size a q q2 ca ta u g I.1 (nI k3) (nI (100 + k167))) (fun E h => h.2 (exDraw_0 hk3 hk167)) (cwV 2 hts gL_act_X2_draw rfl rfl rfl (by decide +kernel) ⟨Nat.le_of_ble_eq_true rfl, Nat.le_of_ble_eq_true rfl⟩) rfl rfl hl.1 (Nat.le_of_ble_eq_true rfl) dL_act_209 ⟨Nat.le_of_ble_eq_true rfl, Nat.le_of_ble_eq_true rfl⟩ (fun _ H locs hP hD hS => ?_)
        have hP : va_P D vwCl (([] : va_W) ++ (wS5 cy b sa st2 ch (un u) (uw u) (ud u) (nI (zh (uh u))) (zl (uh u)) ++ (rows12 cy st2 6 (rowS (hRenew (uh u) k3 (nI (100 + k167)))) ++ (wX cy a q q2 ca ta (uH u (hRenew (uh u) (ix (nI k3)) (nI (100 + k167)))) g ++ chT cy ch u)))) H := hP
        have hD : va_D A (([] : va_W) ++ (wS5 cy b sa st2 ch (un u) (uw u) (ud u) (nI (zh (uh u))) (zl (uh u)) ++ (rows12 cy st2 6 (rowS (hRenew (uh u) k3 (nI (100 + k167)))) ++ (wX cy a q q2 ca ta (uH u (hRenew (uh u) (ix (nI k3)) (nI (100 + k167)))) g ++ chT cy ch u)))) := hD
        refine W.widen (k := 3) (n := 18) (Nat.le_of_ble_eq_true rfl) (Nat.le_of_ble_eq_true rfl) ?_
        rw [ixk] at hP hD
        have hP : va_P D vwCl (([] : va_W) ++ (wS5 cy b sa st2 ch (un u) (uw u) (ud u) (nI (zh (uh u))) (zl (uh u)) ++ (rows12 cy st2 6 (rowS (hRenew (uh u) k3 (nI (100 + k167)))) ++ (wX cy a q q2 ca ta (uH u (hRenew (uh u) k3 (nI (100 + k167)))) g ++ chT cy ch u)))) H := hP
        have hD : va_D A (([] : va_W) ++ (wS5 cy b sa st2 ch (un u) (uw u) (ud u) (nI (zh (uh u))) (zl (uh u)) ++ (rows12 cy st2 6 (rowS (hRenew (uh u) k3 (nI (100 + k167)))) ++ (wX cy a q q2 ca ta (uH u (hRenew (uh u) k3 (nI (100 + k167)))) g ++ chT cy ch u)))) := hD
        refine pc_top (show tone (hRenew (uh u) (ix (nI k3)) (nI (100 + k167))) (ix (nI k3)) = tone (hRenew (uh u) k3 (nI (100 + k167))) k3 from (by rw [ixk])) ?_
        refine lv_aload_n hx hb dL_act_212 rfl (lv_at hl 3 rfl) ?_
        refine lv_iload_n hx hb dL_act_213 rfl (lv_at hl 1 rfl) ?_
        refine sim_p (Lc := ([] : va_W)) (S5 := wS5 cy b sa st2 ch (un u) (uw u) (ud u) (nI (zh (uh u))) (zl (uh u))) (S12 := rows12 cy st2 6 (rowS (hRenew (uh u) k3 (nI (100 + k167))))) (X := wX cy a q q2 ca ta (uH u (hRenew (uh u) k3 (nI (100 + k167)))) g ++ chT cy ch u) (Y := []) (As := [.int (nI k3)]) (rest := [.int (tone (hRenew (uh u) k3 (nI (100 + k167))) k3)]) hP hK hkp ⟨hx, hb, hml, hown, hts⟩ (mX3_tone l D cy b sa st2 ch (uH u (hRenew (uh u) k3 (nI (100 + k167)))) k3 hk3) (no_mem) rfl (cwV 1 hts gL_act_X3_tone rfl rfl rfl (by decide +kernel) ⟨Nat.le_of_ble_eq_true rfl, Nat.le_of_ble_eq_true rfl⟩) rfl rfl hl.1 (Nat.le_of_ble_eq_true rfl) dL_act_214 ⟨Nat.le_of_ble_eq_true rfl, Nat.le_of_ble_eq_true rfl⟩ ?_
        refine lv_icmp_ne (tgt := 224) hx hb dL_act_217 (by decide) (fun c217 => absurd c217 (not_not_intro rfl)) (fun c217 => ?_)
        refine lv_iconst (v := 1) hx hb dL_act_220 (by decide) ?_
        refine lv_goto (tgt := 225) hx hb dL_act_221 (by decide) ?_
        have hP9 : va_P D vwCl (wSu cy b ((uH u (hRenew (uh u) k3 (nI (100 + k167))), sa, st2, ch) : US × (Nat → Nat) × (Nat → Nat) × (Nat → Nat)).2.1 ((uH u (hRenew (uh u) k3 (nI (100 + k167))), sa, st2, ch) : US × (Nat → Nat) × (Nat → Nat) × (Nat → Nat)).2.2.1 ((uH u (hRenew (uh u) k3 (nI (100 + k167))), sa, st2, ch) : US × (Nat → Nat) × (Nat → Nat) × (Nat → Nat)).2.2.2 ((uH u (hRenew (uh u) k3 (nI (100 + k167))), sa, st2, ch) : US × (Nat → Nat) × (Nat → Nat) × (Nat → Nat)).1 ++ (wSr cy ((uH u (hRenew (uh u) k3 (nI (100 + k167))), sa, st2, ch) : US × (Nat → Nat) × (Nat → Nat) × (Nat → Nat)).2.2.1 ((uH u (hRenew (uh u) k3 (nI (100 + k167))), sa, st2, ch) : US × (Nat → Nat) × (Nat → Nat) × (Nat → Nat)).1 ++ (wX cy a q q2 ca ta ((uH u (hRenew (uh u) k3 (nI (100 + k167))), sa, st2, ch) : US × (Nat → Nat) × (Nat → Nat) × (Nat → Nat)).1 g ++ chT cy ((uH u (hRenew (uh u) k3 (nI (100 + k167))), sa, st2, ch) : US × (Nat → Nat) × (Nat → Nat) × (Nat → Nat)).2.2.2 ((uH u (hRenew (uh u) k3 (nI (100 + k167))), sa, st2, ch) : US × (Nat → Nat) × (Nat → Nat) × (Nat → Nat)).1))) H := (pM_dropP hP)
        have hD9 : va_D A (wSu cy b ((uH u (hRenew (uh u) k3 (nI (100 + k167))), sa, st2, ch) : US × (Nat → Nat) × (Nat → Nat) × (Nat → Nat)).2.1 ((uH u (hRenew (uh u) k3 (nI (100 + k167))), sa, st2, ch) : US × (Nat → Nat) × (Nat → Nat) × (Nat → Nat)).2.2.1 ((uH u (hRenew (uh u) k3 (nI (100 + k167))), sa, st2, ch) : US × (Nat → Nat) × (Nat → Nat) × (Nat → Nat)).2.2.2 ((uH u (hRenew (uh u) k3 (nI (100 + k167))), sa, st2, ch) : US × (Nat → Nat) × (Nat → Nat) × (Nat → Nat)).1 ++ (wSr cy ((uH u (hRenew (uh u) k3 (nI (100 + k167))), sa, st2, ch) : US × (Nat → Nat) × (Nat → Nat) × (Nat → Nat)).2.2.1 ((uH u (hRenew (uh u) k3 (nI (100 + k167))), sa, st2, ch) : US × (Nat → Nat) × (Nat → Nat) × (Nat → Nat)).1 ++ (wX cy a q q2 ca ta ((uH u (hRenew (uh u) k3 (nI (100 + k167))), sa, st2, ch) : US × (Nat → Nat) × (Nat → Nat) × (Nat → Nat)).1 g ++ chT cy ((uH u (hRenew (uh u) k3 (nI (100 + k167))), sa, st2, ch) : US × (Nat → Nat) × (Nat → Nat) × (Nat → Nat)).2.2.2 ((uH u (hRenew (uh u) k3 (nI (100 + k167))), sa, st2, ch) : US × (Nat → Nat) × (Nat → Nat) × (Nat → Nat)).1))) := (pM_dropD hD)
        refine W.widen (k := 8) (n := 48) (Nat.le_of_ble_eq_true rfl) (Nat.le_of_ble_eq_true rfl) ?_
        exact W.zret (v := 1) hx hb hr (by decide) (fun t ht hW => ⟨⟨1, ((uH u (hRenew (uh u) k3 (nI (100 + k167))), sa, st2, ch) : US × (Nat → Nat) × (Nat → Nat) × (Nat → Nat)), rfl, ⟨rfl, INV_draw I hk167, rfl⟩, by rw [ht]; exact hP9, hD9⟩, hS.F ht⟩) hS.2.2 dL_act_225
      · have n142 : ¬ (k139 ≤ 0) := fun h9 => c142 ((nI_leI (a := k139) (b := 0) (by omega) (by omega)).mpr h9)
        refine lv_iconst (v := 1) hx hb dL_act_145 (by decide) ?_
        have hP9 : va_P D vwCl (wSu cy b ((u, sa, st, ch) : US × (Nat → Nat) × (Nat → Nat) × (Nat → Nat)).2.1 ((u, sa, st, ch) : US × (Nat → Nat) × (Nat → Nat) × (Nat → Nat)).2.2.1 ((u, sa, st, ch) : US × (Nat → Nat) × (Nat → Nat) × (Nat → Nat)).2.2.2 ((u, sa, st, ch) : US × (Nat → Nat) × (Nat → Nat) × (Nat → Nat)).1 ++ (wSr cy ((u, sa, st, ch) : US × (Nat → Nat) × (Nat → Nat) × (Nat → Nat)).2.2.1 ((u, sa, st, ch) : US × (Nat → Nat) × (Nat → Nat) × (Nat → Nat)).1 ++ (wX cy a q q2 ca ta ((u, sa, st, ch) : US × (Nat → Nat) × (Nat → Nat) × (Nat → Nat)).1 g ++ chT cy ((u, sa, st, ch) : US × (Nat → Nat) × (Nat → Nat) × (Nat → Nat)).2.2.2 ((u, sa, st, ch) : US × (Nat → Nat) × (Nat → Nat) × (Nat → Nat)).1))) s.heap := (pM_dropP hP)
        have hD9 : va_D A (wSu cy b ((u, sa, st, ch) : US × (Nat → Nat) × (Nat → Nat) × (Nat → Nat)).2.1 ((u, sa, st, ch) : US × (Nat → Nat) × (Nat → Nat) × (Nat → Nat)).2.2.1 ((u, sa, st, ch) : US × (Nat → Nat) × (Nat → Nat) × (Nat → Nat)).2.2.2 ((u, sa, st, ch) : US × (Nat → Nat) × (Nat → Nat) × (Nat → Nat)).1 ++ (wSr cy ((u, sa, st, ch) : US × (Nat → Nat) × (Nat → Nat) × (Nat → Nat)).2.2.1 ((u, sa, st, ch) : US × (Nat → Nat) × (Nat → Nat) × (Nat → Nat)).1 ++ (wX cy a q q2 ca ta ((u, sa, st, ch) : US × (Nat → Nat) × (Nat → Nat) × (Nat → Nat)).1 g ++ chT cy ((u, sa, st, ch) : US × (Nat → Nat) × (Nat → Nat) × (Nat → Nat)).2.2.2 ((u, sa, st, ch) : US × (Nat → Nat) × (Nat → Nat) × (Nat → Nat)).1))) := (pM_dropD hD)
        refine W.widen (k := 8) (n := 48) (Nat.le_of_ble_eq_true rfl) (Nat.le_of_ble_eq_true rfl) ?_
        exact W.zret (v := 1) hx hb hr (by decide) (fun t ht hW => ⟨⟨1, ((u, sa, st, ch) : US × (Nat → Nat) × (Nat → Nat) × (Nat → Nat)), rfl, ⟨rfl, I, rfl⟩, by rw [ht]; exact hP9, hD9⟩, hS.F ht⟩) hS.2.2 dL_act_146
  · skip
    refine lv_tableIn (off := 202) (tgt := 226) hx hb dL_act_24 (by decide) (by decide) rfl (by decide) ?_
    refine lv_iload_n hx hb dL_act_226 rfl (lv_at hl 4 rfl) ?_
    refine lv_iconst (v := 2) hx hb dL_act_227 (by decide) ?_
    refine lv_ishr hx hb dL_act_228 ?_
    refine lv_bipush (v := 12) hx hb dL_act_229 (by decide) ?_
    refine pc_calli (va_runS (As := [.int (xv >>> (2 &&& 31)), .int 12]) (rest := []) ⟨hx, hb, hml, hown, hts⟩ (mL_below l D cy (xv >>> (2 &&& 31)) 12 (by decide) (by decide)) (va_cwS 2 hts gL_act_L_below rfl rfl rfl (by decide +kernel) ⟨Nat.le_of_ble_eq_true rfl, Nat.le_of_ble_eq_true rfl⟩) ⟨fun a U g mk q => q, fun U hU hW => ⟨rfl, trivial⟩⟩ rfl rfl hl.1 rfl (lv_room (Nat.le_of_ble_eq_true rfl)) dL_act_231 ⟨Nat.le_of_ble_eq_true rfl, Nat.le_of_ble_eq_true rfl⟩) (fun r9 hr9 => ?_)
    obtain ⟨k231, hk231, rfl⟩ := hr9
    have ixh : ix (nI k231) = k231 := ix_nI (by omega)
    refine lv_istore (lv' := [(6, .int (nI k231)), (4, .ref (st k3)), (3, .int (nI k3)), (0, .ref (a 0)), (1, .ref b), (2, .int xv)]) hx hb dL_act_234 hl (by decide) rfl (fun ls hl => ?_)
    refine lv_bipush (v := 10) hx hb dL_act_236 (by decide) ?_
    refine lv_aload_n hx hb dL_act_238 rfl (lv_at hl 4 rfl) ?_
    refine va_get (D := D) (ci := 3) (v := .ref (sa 2)) (C := RX3) (T := TX3) (N := 6) hx hb hts inL_act_RX3 hown hK hP 0 rfl rfl 2 (by decide) (hts _ kL_act_2) (fun _ h9 => h9) rfl dL_act_239 ?_
    refine lv_iload hx hb dL_act_242 (lv_at hl 0 rfl) ?_
    refine pc_iald hx hb hK hP 3 0 rfl rfl (k := k231) (show k231 < 12 by omega) (by decide) dL_act_244 ?_
    refine lv_imul hx hb dL_act_245 ?_
    refine lv_aload_n hx hb dL_act_246 rfl (lv_at hl 4 rfl) ?_
    refine va_get (D := D) (ci := 3) (v := .ref (sa 3)) (C := RX3) (T := TX3) (N := 6) hx hb hts inL_act_RX3 hown hK hP 0 rfl rfl 3 (by decide) (hts _ kL_act_3) (fun _ h9 => h9) rfl dL_act_247 ?_
    refine lv_iload hx hb dL_act_250 (lv_at hl 0 rfl) ?_
    refine pc_iald hx hb hK hP 4 0 rfl rfl (k := k231) (show k231 < 12 by omega) (by decide) dL_act_252 ?_
    refine lv_iadd hx hb dL_act_253 ?_
    refine lv_istore (lv' := [(7, .int ((10 * ((uw u) k231)) + ((ud u) k231))), (6, .int (nI k231)), (4, .ref (st k3)), (3, .int (nI k3)), (0, .ref (a 0)), (1, .ref b), (2, .int xv)]) hx hb dL_act_254 hl (by decide) rfl (fun ls hl => ?_)
    have r9 : (10 * ((uw u) k231)) + ((ud u) k231) = wea u k231 := rfl
    rw [r9] at hl
    clear r9
    refine lv_aload_n hx hb dL_act_256 rfl (lv_at hl 5 rfl) ?_
    refine va_get (D := D) (ci := 3) (v := .ref (sa 2)) (C := RX3) (T := TX3) (N := 6) hx hb hts inL_act_RX3 hown hK hP 0 rfl rfl 2 (by decide) (hts _ kL_act_2) (fun _ h9 => h9) rfl dL_act_257 ?_
    refine lv_iload hx hb dL_act_260 (lv_at hl 1 rfl) ?_
    refine lv_iload_n hx hb dL_act_262 rfl (lv_at hl 6 rfl) ?_
    refine lv_iconst (v := 3) hx hb dL_act_263 (by decide) ?_
    refine lv_ishr hx hb dL_act_264 ?_
    refine lv_iload_n hx hb dL_act_265 rfl (lv_at hl 6 rfl) ?_
    refine lv_bipush (v := 6) hx hb dL_act_266 (by decide) ?_
    refine lv_ishr hx hb dL_act_268 ?_
    refine lv_iconst (v := 2) hx hb dL_act_269 (by decide) ?_
    refine pc_calli (va_runS (As := [.int (xv >>> (6 &&& 31)), .int 2]) (rest := [.int (xv >>> (3 &&& 31)), .int (nI k231), .ref (sa 2)]) ⟨hx, hb, hml, hown, hts⟩ (mL_below l D cy (xv >>> (6 &&& 31)) 2 (by decide) (by decide)) (va_cwS 2 hts gL_act_L_below rfl rfl rfl (by decide +kernel) ⟨Nat.le_of_ble_eq_true rfl, Nat.le_of_ble_eq_true rfl⟩) ⟨fun a U g mk q => q, fun U hU hW => ⟨rfl, trivial⟩⟩ rfl rfl hl.1 rfl (lv_room (Nat.le_of_ble_eq_true rfl)) dL_act_270 ⟨Nat.le_of_ble_eq_true rfl, Nat.le_of_ble_eq_true rfl⟩) (fun r9 hr9 => ?_)
    obtain ⟨k270, hk270, rfl⟩ := hr9
    refine lv_if_ne (tgt := 281) hx hb dL_act_273 (by decide) (fun c273 => ?_) (fun c273 => ?_)
    · have n273 : ¬ (k270 = 0) := fun h9 => c273 ((nI_eq (a := k270) (b := 0) (by omega) (by omega)).mpr h9)
      refine lv_bipush (v := 8) hx hb dL_act_281 (by decide) ?_
      refine pc_calli (va_runS (As := [.int (xv >>> (3 &&& 31)), .int 8]) (rest := [.int (nI k231), .ref (sa 2)]) ⟨hx, hb, hml, hown, hts⟩ (mL_below l D cy (xv >>> (3 &&& 31)) 8 (by decide) (by decide)) (va_cwS 2 hts gL_act_L_below rfl rfl rfl (by decide +kernel) ⟨Nat.le_of_ble_eq_true rfl, Nat.le_of_ble_eq_true rfl⟩) ⟨fun a U g mk q => q, fun U hU hW => ⟨rfl, trivial⟩⟩ rfl rfl hl.1 rfl (lv_room (Nat.le_of_ble_eq_true rfl)) dL_act_283 ⟨Nat.le_of_ble_eq_true rfl, Nat.le_of_ble_eq_true rfl⟩) (fun r9 hr9 => ?_)
      obtain ⟨k283, hk283, rfl⟩ := hr9
      refine pc_iast hx hb hK hP hD hS 3 0 rfl rfl (k := k231) (show k231 < 12 by omega) (by decide) dL_act_286 (fun H locs hP hD hS => ?_)
      have hP : va_P D vwCl (([] : va_W) ++ (wS5 cy b sa st ch (un u) (upd (uw u) k231 (nI k283)) (ud u) (nI (zh (uh u))) (zl (uh u)) ++ (rows12 cy st 6 (rowS (uh u)) ++ (wX cy a q q2 ca ta u g ++ chT cy ch u)))) H := hP
      have hD : va_D A (([] : va_W) ++ (wS5 cy b sa st ch (un u) (upd (uw u) k231 (nI k283)) (ud u) (nI (zh (uh u))) (zl (uh u)) ++ (rows12 cy st 6 (rowS (uh u)) ++ (wX cy a q q2 ca ta u g ++ chT cy ch u)))) := hD
      refine lv_aload_n hx hb dL_act_287 rfl (lv_at hl 5 rfl) ?_
      refine va_get (D := D) (ci := 3) (v := .ref (sa 3)) (C := RX3) (T := TX3) (N := 6) hx hb hts inL_act_RX3 hown hK hP 0 rfl rfl 3 (by decide) (hts _ kL_act_3) (fun _ h9 => h9) rfl dL_act_288 ?_
      refine lv_iload hx hb dL_act_291 (lv_at hl 1 rfl) ?_
      refine lv_iload_n hx hb dL_act_293 rfl (lv_at hl 6 rfl) ?_
      refine lv_iconst (v := 5) hx hb dL_act_294 (by decide) ?_
      refine lv_ishr hx hb dL_act_295 ?_
      refine lv_bipush (v := 10) hx hb dL_act_296 (by decide) ?_
      refine pc_calli (va_runS (As := [.int (xv >>> (5 &&& 31)), .int 10]) (rest := [.int (nI k231), .ref (sa 3)]) ⟨hx, hb, hml, hown, hts⟩ (mL_below l D cy (xv >>> (5 &&& 31)) 10 (by decide) (by decide)) (va_cwS 2 hts gL_act_L_below rfl rfl rfl (by decide +kernel) ⟨Nat.le_of_ble_eq_true rfl, Nat.le_of_ble_eq_true rfl⟩) ⟨fun a U g mk q => q, fun U hU hW => ⟨rfl, trivial⟩⟩ rfl rfl hl.1 rfl (lv_room (Nat.le_of_ble_eq_true rfl)) dL_act_298 ⟨Nat.le_of_ble_eq_true rfl, Nat.le_of_ble_eq_true rfl⟩) (fun r9 hr9 => ?_)
      obtain ⟨k298, hk298, rfl⟩ := hr9
      refine pc_iast hx hb hK hP hD hS 4 0 rfl rfl (k := k231) (show k231 < 12 by omega) (by decide) dL_act_301 (fun H locs hP hD hS => ?_)
      have hP : va_P D vwCl (([] : va_W) ++ (wS5 cy b sa st ch (un u) (upd (uw u) k231 (nI k283)) (upd (ud u) k231 (nI k298)) (nI (zh (uh u))) (zl (uh u)) ++ (rows12 cy st 6 (rowS (uh u)) ++ (wX cy a q q2 ca ta u g ++ chT cy ch u)))) H := hP
      have hD : va_D A (([] : va_W) ++ (wS5 cy b sa st ch (un u) (upd (uw u) k231 (nI k283)) (upd (ud u) k231 (nI k298)) (nI (zh (uh u))) (zl (uh u)) ++ (rows12 cy st 6 (rowS (uh u)) ++ (wX cy a q q2 ca ta u g ++ chT cy ch u)))) := hD
      refine lv_aload_n hx hb dL_act_302 rfl (lv_at hl 4 rfl) ?_
      refine lv_iload hx hb dL_act_303 (lv_at hl 1 rfl) ?_
      refine lv_aload_n hx hb dL_act_305 rfl (lv_at hl 5 rfl) ?_
      refine va_get (D := D) (ci := 3) (v := .ref (sa 2)) (C := RX3) (T := TX3) (N := 6) hx hb hts inL_act_RX3 hown hK hP 0 rfl rfl 2 (by decide) (hts _ kL_act_2) (fun _ h9 => h9) rfl dL_act_306 ?_
      refine lv_iload hx hb dL_act_309 (lv_at hl 1 rfl) ?_
      refine pc_iald hx hb hK hP 3 0 rfl rfl (k := k231) (show k231 < 12 by omega) (by decide) dL_act_311 ?_
      refine pc_top (show (upd (uw u) k231 (nI k283)) k231 = nI k283 from pk_us) ?_
      refine lv_aload_n hx hb dL_act_312 rfl (lv_at hl 5 rfl) ?_
      refine va_get (D := D) (ci := 3) (v := .ref (sa 3)) (C := RX3) (T := TX3) (N := 6) hx hb hts inL_act_RX3 hown hK hP 0 rfl rfl 3 (by decide) (hts _ kL_act_3) (fun _ h9 => h9) rfl dL_act_313 ?_
      refine lv_iload hx hb dL_act_316 (lv_at hl 1 rfl) ?_
      refine pc_iald hx hb hK hP 4 0 rfl rfl (k := k231) (show k231 < 12 by omega) (by decide) dL_act_318 ?_
      refine pc_top (show (upd (ud u) k231 (nI k298)) k231 = nI k298 from pk_us) ?_
      refine cls_w (Lc := ([] : va_W)) (S5 := wS5 cy b sa st ch (un u) (upd (uw u) k231 (nI k283)) (upd (ud u) k231 (nI k298)) (nI (zh (uh u))) (zl (uh u))) (S12 := rows12 cy st 6 (rowS (uh u))) (T := chT cy ch u) (As := [.int (nI k231), .int (nI k283), .int (nI k298)]) (rest := []) (uf := fun (_ : Unit) => uWea u (ix (nI k231)) (nI k283) (nI k298)) (gf := fun (_ : Unit) => g) hP hD hS hA hK hXA ⟨hx, hb, hml, hown, hts⟩ (mX2_setWeather l hst D cy H.size a q q2 ca ta u g I.1 (nI k231) (nI k283) (nI k298)) (fun E h => h.2 (exWea_0 hk231 (by omega) hk298)) (cwV 3 hts gL_act_X2_setWeather rfl rfl rfl (by decide +kernel) ⟨Nat.le_of_ble_eq_true rfl, Nat.le_of_ble_eq_true rfl⟩) rfl rfl hl.1 (Nat.le_of_ble_eq_true rfl) dL_act_319 ⟨Nat.le_of_ble_eq_true rfl, Nat.le_of_ble_eq_true rfl⟩ (fun _ H locs hP hD hS => ?_)
      have hP : va_P D vwCl (([] : va_W) ++ (wS5 cy b sa st ch (un u) (upd (uw u) k231 (nI k283)) (upd (ud u) k231 (nI k298)) (nI (zh (uh u))) (zl (uh u)) ++ (rows12 cy st 6 (rowS (uh u)) ++ (wX cy a q q2 ca ta (uWea u (ix (nI k231)) (nI k283) (nI k298)) g ++ chT cy ch u)))) H := hP
      have hD : va_D A (([] : va_W) ++ (wS5 cy b sa st ch (un u) (upd (uw u) k231 (nI k283)) (upd (ud u) k231 (nI k298)) (nI (zh (uh u))) (zl (uh u)) ++ (rows12 cy st 6 (rowS (uh u)) ++ (wX cy a q q2 ca ta (uWea u (ix (nI k231)) (nI k283) (nI k298)) g ++ chT cy ch u)))) := hD
      refine W.widen (k := 1) (n := 6) (Nat.le_of_ble_eq_true rfl) (Nat.le_of_ble_eq_true rfl) ?_
      rw [ixh] at hP hD
      have hP : va_P D vwCl (([] : va_W) ++ (wS5 cy b sa st ch (un u) (upd (uw u) k231 (nI k283)) (upd (ud u) k231 (nI k298)) (nI (zh (uh u))) (zl (uh u)) ++ (rows12 cy st 6 (rowS (uh u)) ++ (wX cy a q q2 ca ta (uWea u k231 (nI k283) (nI k298)) g ++ chT cy ch u)))) H := hP
      have hD : va_D A (([] : va_W) ++ (wS5 cy b sa st ch (un u) (upd (uw u) k231 (nI k283)) (upd (ud u) k231 (nI k298)) (nI (zh (uh u))) (zl (uh u)) ++ (rows12 cy st 6 (rowS (uh u)) ++ (wX cy a q q2 ca ta (uWea u k231 (nI k283) (nI k298)) g ++ chT cy ch u)))) := hD
      refine pc_top (show wea u (ix (nI k231)) = wea u k231 from (by rw [ixh])) ?_
      refine lv_iload hx hb dL_act_322 (lv_at hl 0 rfl) ?_
      refine lv_icmp_ne (tgt := 331) hx hb dL_act_324 (by decide) (fun c324 => absurd c324 (not_not_intro rfl)) (fun c324 => ?_)
      refine lv_iconst (v := 1) hx hb dL_act_327 (by decide) ?_
      refine lv_goto (tgt := 332) hx hb dL_act_328 (by decide) ?_
      have hP9 : va_P D vwCl (wSu cy b ((uWea u k231 (nI k283) (nI k298), sa, st, ch) : US × (Nat → Nat) × (Nat → Nat) × (Nat → Nat)).2.1 ((uWea u k231 (nI k283) (nI k298), sa, st, ch) : US × (Nat → Nat) × (Nat → Nat) × (Nat → Nat)).2.2.1 ((uWea u k231 (nI k283) (nI k298), sa, st, ch) : US × (Nat → Nat) × (Nat → Nat) × (Nat → Nat)).2.2.2 ((uWea u k231 (nI k283) (nI k298), sa, st, ch) : US × (Nat → Nat) × (Nat → Nat) × (Nat → Nat)).1 ++ (wSr cy ((uWea u k231 (nI k283) (nI k298), sa, st, ch) : US × (Nat → Nat) × (Nat → Nat) × (Nat → Nat)).2.2.1 ((uWea u k231 (nI k283) (nI k298), sa, st, ch) : US × (Nat → Nat) × (Nat → Nat) × (Nat → Nat)).1 ++ (wX cy a q q2 ca ta ((uWea u k231 (nI k283) (nI k298), sa, st, ch) : US × (Nat → Nat) × (Nat → Nat) × (Nat → Nat)).1 g ++ chT cy ((uWea u k231 (nI k283) (nI k298), sa, st, ch) : US × (Nat → Nat) × (Nat → Nat) × (Nat → Nat)).2.2.2 ((uWea u k231 (nI k283) (nI k298), sa, st, ch) : US × (Nat → Nat) × (Nat → Nat) × (Nat → Nat)).1))) H := (pM_dropP hP)
      have hD9 : va_D A (wSu cy b ((uWea u k231 (nI k283) (nI k298), sa, st, ch) : US × (Nat → Nat) × (Nat → Nat) × (Nat → Nat)).2.1 ((uWea u k231 (nI k283) (nI k298), sa, st, ch) : US × (Nat → Nat) × (Nat → Nat) × (Nat → Nat)).2.2.1 ((uWea u k231 (nI k283) (nI k298), sa, st, ch) : US × (Nat → Nat) × (Nat → Nat) × (Nat → Nat)).2.2.2 ((uWea u k231 (nI k283) (nI k298), sa, st, ch) : US × (Nat → Nat) × (Nat → Nat) × (Nat → Nat)).1 ++ (wSr cy ((uWea u k231 (nI k283) (nI k298), sa, st, ch) : US × (Nat → Nat) × (Nat → Nat) × (Nat → Nat)).2.2.1 ((uWea u k231 (nI k283) (nI k298), sa, st, ch) : US × (Nat → Nat) × (Nat → Nat) × (Nat → Nat)).1 ++ (wX cy a q q2 ca ta ((uWea u k231 (nI k283) (nI k298), sa, st, ch) : US × (Nat → Nat) × (Nat → Nat) × (Nat → Nat)).1 g ++ chT cy ((uWea u k231 (nI k283) (nI k298), sa, st, ch) : US × (Nat → Nat) × (Nat → Nat) × (Nat → Nat)).2.2.2 ((uWea u k231 (nI k283) (nI k298), sa, st, ch) : US × (Nat → Nat) × (Nat → Nat) × (Nat → Nat)).1))) := (pM_dropD hD)
      refine W.widen (k := 8) (n := 48) (Nat.le_of_ble_eq_true rfl) (Nat.le_of_ble_eq_true rfl) ?_
      exact W.zret (v := 1) hx hb hr (by decide) (fun t ht hW => ⟨⟨1, ((uWea u k231 (nI k283) (nI k298), sa, st, ch) : US × (Nat → Nat) × (Nat → Nat) × (Nat → Nat)), rfl, ⟨rfl, INV_wea I (by omega) hk298, rfl⟩, by rw [ht]; exact hP9, hD9⟩, hS.F ht⟩) hS.2.2 dL_act_332
    · have n273 : k270 = 0 := (nI_eq (a := k270) (b := 0) (by omega) (by omega)).mp c273
      refine lv_bipush (v := 21) hx hb dL_act_276 (by decide) ?_
      refine lv_goto (tgt := 283) hx hb dL_act_278 (by decide) ?_
      refine pc_calli (va_runS (As := [.int (xv >>> (3 &&& 31)), .int 21]) (rest := [.int (nI k231), .ref (sa 2)]) ⟨hx, hb, hml, hown, hts⟩ (mL_below l D cy (xv >>> (3 &&& 31)) 21 (by decide) (by decide)) (va_cwS 2 hts gL_act_L_below rfl rfl rfl (by decide +kernel) ⟨Nat.le_of_ble_eq_true rfl, Nat.le_of_ble_eq_true rfl⟩) ⟨fun a U g mk q => q, fun U hU hW => ⟨rfl, trivial⟩⟩ rfl rfl hl.1 rfl (lv_room (Nat.le_of_ble_eq_true rfl)) dL_act_283 ⟨Nat.le_of_ble_eq_true rfl, Nat.le_of_ble_eq_true rfl⟩) (fun r9 hr9 => ?_)
      obtain ⟨k283, hk283, rfl⟩ := hr9
      refine pc_iast hx hb hK hP hD hS 3 0 rfl rfl (k := k231) (show k231 < 12 by omega) (by decide) dL_act_286 (fun H locs hP hD hS => ?_)
      have hP : va_P D vwCl (([] : va_W) ++ (wS5 cy b sa st ch (un u) (upd (uw u) k231 (nI k283)) (ud u) (nI (zh (uh u))) (zl (uh u)) ++ (rows12 cy st 6 (rowS (uh u)) ++ (wX cy a q q2 ca ta u g ++ chT cy ch u)))) H := hP
      have hD : va_D A (([] : va_W) ++ (wS5 cy b sa st ch (un u) (upd (uw u) k231 (nI k283)) (ud u) (nI (zh (uh u))) (zl (uh u)) ++ (rows12 cy st 6 (rowS (uh u)) ++ (wX cy a q q2 ca ta u g ++ chT cy ch u)))) := hD
      refine lv_aload_n hx hb dL_act_287 rfl (lv_at hl 5 rfl) ?_
      refine va_get (D := D) (ci := 3) (v := .ref (sa 3)) (C := RX3) (T := TX3) (N := 6) hx hb hts inL_act_RX3 hown hK hP 0 rfl rfl 3 (by decide) (hts _ kL_act_3) (fun _ h9 => h9) rfl dL_act_288 ?_
      refine lv_iload hx hb dL_act_291 (lv_at hl 1 rfl) ?_
      refine lv_iload_n hx hb dL_act_293 rfl (lv_at hl 6 rfl) ?_
      refine lv_iconst (v := 5) hx hb dL_act_294 (by decide) ?_
      refine lv_ishr hx hb dL_act_295 ?_
      refine lv_bipush (v := 10) hx hb dL_act_296 (by decide) ?_
      refine pc_calli (va_runS (As := [.int (xv >>> (5 &&& 31)), .int 10]) (rest := [.int (nI k231), .ref (sa 3)]) ⟨hx, hb, hml, hown, hts⟩ (mL_below l D cy (xv >>> (5 &&& 31)) 10 (by decide) (by decide)) (va_cwS 2 hts gL_act_L_below rfl rfl rfl (by decide +kernel) ⟨Nat.le_of_ble_eq_true rfl, Nat.le_of_ble_eq_true rfl⟩) ⟨fun a U g mk q => q, fun U hU hW => ⟨rfl, trivial⟩⟩ rfl rfl hl.1 rfl (lv_room (Nat.le_of_ble_eq_true rfl)) dL_act_298 ⟨Nat.le_of_ble_eq_true rfl, Nat.le_of_ble_eq_true rfl⟩) (fun r9 hr9 => ?_)
      obtain ⟨k298, hk298, rfl⟩ := hr9
      refine pc_iast hx hb hK hP hD hS 4 0 rfl rfl (k := k231) (show k231 < 12 by omega) (by decide) dL_act_301 (fun H locs hP hD hS => ?_)
      have hP : va_P D vwCl (([] : va_W) ++ (wS5 cy b sa st ch (un u) (upd (uw u) k231 (nI k283)) (upd (ud u) k231 (nI k298)) (nI (zh (uh u))) (zl (uh u)) ++ (rows12 cy st 6 (rowS (uh u)) ++ (wX cy a q q2 ca ta u g ++ chT cy ch u)))) H := hP
      have hD : va_D A (([] : va_W) ++ (wS5 cy b sa st ch (un u) (upd (uw u) k231 (nI k283)) (upd (ud u) k231 (nI k298)) (nI (zh (uh u))) (zl (uh u)) ++ (rows12 cy st 6 (rowS (uh u)) ++ (wX cy a q q2 ca ta u g ++ chT cy ch u)))) := hD
      refine lv_aload_n hx hb dL_act_302 rfl (lv_at hl 4 rfl) ?_
      refine lv_iload hx hb dL_act_303 (lv_at hl 1 rfl) ?_
      refine lv_aload_n hx hb dL_act_305 rfl (lv_at hl 5 rfl) ?_
      refine va_get (D := D) (ci := 3) (v := .ref (sa 2)) (C := RX3) (T := TX3) (N := 6) hx hb hts inL_act_RX3 hown hK hP 0 rfl rfl 2 (by decide) (hts _ kL_act_2) (fun _ h9 => h9) rfl dL_act_306 ?_
      refine lv_iload hx hb dL_act_309 (lv_at hl 1 rfl) ?_
      refine pc_iald hx hb hK hP 3 0 rfl rfl (k := k231) (show k231 < 12 by omega) (by decide) dL_act_311 ?_
      refine pc_top (show (upd (uw u) k231 (nI k283)) k231 = nI k283 from pk_us) ?_
      refine lv_aload_n hx hb dL_act_312 rfl (lv_at hl 5 rfl) ?_
      refine va_get (D := D) (ci := 3) (v := .ref (sa 3)) (C := RX3) (T := TX3) (N := 6) hx hb hts inL_act_RX3 hown hK hP 0 rfl rfl 3 (by decide) (hts _ kL_act_3) (fun _ h9 => h9) rfl dL_act_313 ?_
      refine lv_iload hx hb dL_act_316 (lv_at hl 1 rfl) ?_
      refine pc_iald hx hb hK hP 4 0 rfl rfl (k := k231) (show k231 < 12 by omega) (by decide) dL_act_318 ?_
      refine pc_top (show (upd (ud u) k231 (nI k298)) k231 = nI k298 from pk_us) ?_
      refine cls_w (Lc := ([] : va_W)) (S5 := wS5 cy b sa st ch (un u) (upd (uw u) k231 (nI k283)) (upd (ud u) k231 (nI k298)) (nI (zh (uh u))) (zl (uh u))) (S12 := rows12 cy st 6 (rowS (uh u))) (T := chT cy ch u) (As := [.int (nI k231), .int (nI k283), .int (nI k298)]) (rest := []) (uf := fun (_ : Unit) => uWea u (ix (nI k231)) (nI k283) (nI k298)) (gf := fun (_ : Unit) => g) hP hD hS hA hK hXA ⟨hx, hb, hml, hown, hts⟩ (mX2_setWeather l hst D cy H.size a q q2 ca ta u g I.1 (nI k231) (nI k283) (nI k298)) (fun E h => h.2 (exWea_0 hk231 (by omega) hk298)) (cwV 3 hts gL_act_X2_setWeather rfl rfl rfl (by decide +kernel) ⟨Nat.le_of_ble_eq_true rfl, Nat.le_of_ble_eq_true rfl⟩) rfl rfl hl.1 (Nat.le_of_ble_eq_true rfl) dL_act_319 ⟨Nat.le_of_ble_eq_true rfl, Nat.le_of_ble_eq_true rfl⟩ (fun _ H locs hP hD hS => ?_)
      have hP : va_P D vwCl (([] : va_W) ++ (wS5 cy b sa st ch (un u) (upd (uw u) k231 (nI k283)) (upd (ud u) k231 (nI k298)) (nI (zh (uh u))) (zl (uh u)) ++ (rows12 cy st 6 (rowS (uh u)) ++ (wX cy a q q2 ca ta (uWea u (ix (nI k231)) (nI k283) (nI k298)) g ++ chT cy ch u)))) H := hP
      have hD : va_D A (([] : va_W) ++ (wS5 cy b sa st ch (un u) (upd (uw u) k231 (nI k283)) (upd (ud u) k231 (nI k298)) (nI (zh (uh u))) (zl (uh u)) ++ (rows12 cy st 6 (rowS (uh u)) ++ (wX cy a q q2 ca ta (uWea u (ix (nI k231)) (nI k283) (nI k298)) g ++ chT cy ch u)))) := hD
      refine W.widen (k := 1) (n := 6) (Nat.le_of_ble_eq_true rfl) (Nat.le_of_ble_eq_true rfl) ?_
      rw [ixh] at hP hD
      have hP : va_P D vwCl (([] : va_W) ++ (wS5 cy b sa st ch (un u) (upd (uw u) k231 (nI k283)) (upd (ud u) k231 (nI k298)) (nI (zh (uh u))) (zl (uh u)) ++ (rows12 cy st 6 (rowS (uh u)) ++ (wX cy a q q2 ca ta (uWea u k231 (nI k283) (nI k298)) g ++ chT cy ch u)))) H := hP
      have hD : va_D A (([] : va_W) ++ (wS5 cy b sa st ch (un u) (upd (uw u) k231 (nI k283)) (upd (ud u) k231 (nI k298)) (nI (zh (uh u))) (zl (uh u)) ++ (rows12 cy st 6 (rowS (uh u)) ++ (wX cy a q q2 ca ta (uWea u k231 (nI k283) (nI k298)) g ++ chT cy ch u)))) := hD
      refine pc_top (show wea u (ix (nI k231)) = wea u k231 from (by rw [ixh])) ?_
      refine lv_iload hx hb dL_act_322 (lv_at hl 0 rfl) ?_
      refine lv_icmp_ne (tgt := 331) hx hb dL_act_324 (by decide) (fun c324 => absurd c324 (not_not_intro rfl)) (fun c324 => ?_)
      refine lv_iconst (v := 1) hx hb dL_act_327 (by decide) ?_
      refine lv_goto (tgt := 332) hx hb dL_act_328 (by decide) ?_
      have hP9 : va_P D vwCl (wSu cy b ((uWea u k231 (nI k283) (nI k298), sa, st, ch) : US × (Nat → Nat) × (Nat → Nat) × (Nat → Nat)).2.1 ((uWea u k231 (nI k283) (nI k298), sa, st, ch) : US × (Nat → Nat) × (Nat → Nat) × (Nat → Nat)).2.2.1 ((uWea u k231 (nI k283) (nI k298), sa, st, ch) : US × (Nat → Nat) × (Nat → Nat) × (Nat → Nat)).2.2.2 ((uWea u k231 (nI k283) (nI k298), sa, st, ch) : US × (Nat → Nat) × (Nat → Nat) × (Nat → Nat)).1 ++ (wSr cy ((uWea u k231 (nI k283) (nI k298), sa, st, ch) : US × (Nat → Nat) × (Nat → Nat) × (Nat → Nat)).2.2.1 ((uWea u k231 (nI k283) (nI k298), sa, st, ch) : US × (Nat → Nat) × (Nat → Nat) × (Nat → Nat)).1 ++ (wX cy a q q2 ca ta ((uWea u k231 (nI k283) (nI k298), sa, st, ch) : US × (Nat → Nat) × (Nat → Nat) × (Nat → Nat)).1 g ++ chT cy ((uWea u k231 (nI k283) (nI k298), sa, st, ch) : US × (Nat → Nat) × (Nat → Nat) × (Nat → Nat)).2.2.2 ((uWea u k231 (nI k283) (nI k298), sa, st, ch) : US × (Nat → Nat) × (Nat → Nat) × (Nat → Nat)).1))) H := (pM_dropP hP)
      have hD9 : va_D A (wSu cy b ((uWea u k231 (nI k283) (nI k298), sa, st, ch) : US × (Nat → Nat) × (Nat → Nat) × (Nat → Nat)).2.1 ((uWea u k231 (nI k283) (nI k298), sa, st, ch) : US × (Nat → Nat) × (Nat → Nat) × (Nat → Nat)).2.2.1 ((uWea u k231 (nI k283) (nI k298), sa, st, ch) : US × (Nat → Nat) × (Nat → Nat) × (Nat → Nat)).2.2.2 ((uWea u k231 (nI k283) (nI k298), sa, st, ch) : US × (Nat → Nat) × (Nat → Nat) × (Nat → Nat)).1 ++ (wSr cy ((uWea u k231 (nI k283) (nI k298), sa, st, ch) : US × (Nat → Nat) × (Nat → Nat) × (Nat → Nat)).2.2.1 ((uWea u k231 (nI k283) (nI k298), sa, st, ch) : US × (Nat → Nat) × (Nat → Nat) × (Nat → Nat)).1 ++ (wX cy a q q2 ca ta ((uWea u k231 (nI k283) (nI k298), sa, st, ch) : US × (Nat → Nat) × (Nat → Nat) × (Nat → Nat)).1 g ++ chT cy ((uWea u k231 (nI k283) (nI k298), sa, st, ch) : US × (Nat → Nat) × (Nat → Nat) × (Nat → Nat)).2.2.2 ((uWea u k231 (nI k283) (nI k298), sa, st, ch) : US × (Nat → Nat) × (Nat → Nat) × (Nat → Nat)).1))) := (pM_dropD hD)
      refine W.widen (k := 8) (n := 48) (Nat.le_of_ble_eq_true rfl) (Nat.le_of_ble_eq_true rfl) ?_
      exact W.zret (v := 1) hx hb hr (by decide) (fun t ht hW => ⟨⟨1, ((uWea u k231 (nI k283) (nI k298), sa, st, ch) : US × (Nat → Nat) × (Nat → Nat) × (Nat → Nat)), rfl, ⟨rfl, INV_wea I (by omega) hk298, rfl⟩, by rw [ht]; exact hP9, hD9⟩, hS.F ht⟩) hS.2.2 dL_act_332
  · skip
    refine lv_tableOut (tgt := 333) hx hb dL_act_24 (by first | exact Or.inl (by decide) | exact Or.inr (by decide)) (by decide) ?_
    refine lv_aload_n hx hb dL_act_333 rfl (lv_at hl 3 rfl) ?_
    refine va_get (D := D) (ci := 3) (v := .ref (sa 1)) (C := RX3) (T := TX3) (N := 6) hx hb hts inL_act_RX3 hown hK hP 0 rfl rfl 1 (by decide) (hts _ kL_act_4) (fun _ h9 => h9) rfl dL_act_334 ?_
    refine pc_alenA hx hb hkp hP 2 rfl (v := nI (un u)) rfl dL_act_337 ?_
    refine lv_bipush (v := 6) hx hb dL_act_338 (by decide) ?_
    refine lv_icmp_ne (tgt := 345) hx hb dL_act_340 (by decide) (fun c340 => ?_) (fun c340 => ?_)
    · have n340 : ¬ (un u = 6) := fun h9 => c340 ((nI_eq (a := un u) (b := 6) (by omega) (by omega)).mpr h9)
      refine lv_iconst (v := 2) hx hb dL_act_345 (by decide) ?_
      refine lv_iload_n hx hb dL_act_346 rfl (lv_at hl 4 rfl) ?_
      refine lv_iconst (v := 2) hx hb dL_act_347 (by decide) ?_
      refine lv_ishr hx hb dL_act_348 ?_
      refine lv_iconst (v := 3) hx hb dL_act_349 (by decide) ?_
      refine pc_calli (va_runS (As := [.int (xv >>> (2 &&& 31)), .int 3]) (rest := [.int 2]) ⟨hx, hb, hml, hown, hts⟩ (mL_below l D cy (xv >>> (2 &&& 31)) 3 (by decide) (by decide)) (va_cwS 2 hts gL_act_L_below rfl rfl rfl (by decide +kernel) ⟨Nat.le_of_ble_eq_true rfl, Nat.le_of_ble_eq_true rfl⟩) ⟨fun a U g mk q => q, fun U hU hW => ⟨rfl, trivial⟩⟩ rfl rfl hl.1 rfl (lv_room (Nat.le_of_ble_eq_true rfl)) dL_act_350 ⟨Nat.le_of_ble_eq_true rfl, Nat.le_of_ble_eq_true rfl⟩) (fun r9 hr9 => ?_)
      obtain ⟨k350, hk350, rfl⟩ := hr9
      rcases (show k350 = 0 ∨ k350 = 1 ∨ k350 = 2 by omega) with rfl | rfl | rfl
      · skip
        refine lv_iadd hx hb dL_act_353 ?_
        refine pc_top (show 2 + (nI 0) = 2 from (by decide)) ?_
        refine lv_istore (lv' := [(8, .int 2), (4, .ref (st k3)), (3, .int (nI k3)), (0, .ref (a 0)), (1, .ref b), (2, .int xv)]) hx hb dL_act_354 hl (by decide) rfl (fun ls hl => ?_)
        refine lv_iload_n hx hb dL_act_356 rfl (lv_at hl 2 rfl) ?_
        refine lv_iload hx hb dL_act_357 (lv_at hl 0 rfl) ?_
        refine lv_iadd hx hb dL_act_359 ?_
        refine pc_top (show (nI k3) + 2 = nI (k3 + 2) from nI_add k3 2) ?_
        refine lv_bipush (v := 12) hx hb dL_act_360 (by decide) ?_
        refine lv_icmp_le (tgt := 367) hx hb dL_act_362 (by decide) (fun c362 => ?_) (fun c362 => ?_)
        · have n362 : k3 + 2 ≤ 12 := (nI_leI (a := k3 + 2) (b := 12) (by omega) (by omega)).mp c362
          refine lv_iconst (v := 1) hx hb dL_act_367 (by decide) ?_
          refine lv_iload hx hb dL_act_368 (lv_at hl 0 rfl) ?_
          refine lv_iadd hx hb dL_act_370 ?_
          refine pc_top (show 1 + 2 = 3 from (by decide)) ?_
          refine pc_newaF (atype := .int) (ty := .int) (N' := 3) (a0 := (3, .inl (fun _ => 0))) hx hb (hts _ kL_act_1) rfl hK hP hD hS hA 0 rfl (fun _ => rfl) (by decide) (by decide) (by decide) (Nat.le_of_ble_eq_true rfl) (Nat.le_of_ble_eq_true rfl) dL_act_371 (fun r371 H hP hD hS => ?_)
          have hP : va_P D vwCl (([(r371, .inl ((cy 0), 3, .inl (fun _ => 0)))] : va_W) ++ (wS5 cy b sa st ch (un u) (uw u) (ud u) (nI (zh (uh u))) (zl (uh u)) ++ (rows12 cy st 6 (rowS (uh u)) ++ (wX cy a q q2 ca ta u g ++ chT cy ch u)))) H := hP
          have hD : va_D A (([(r371, .inl ((cy 0), 3, .inl (fun _ => 0)))] : va_W) ++ (wS5 cy b sa st ch (un u) (uw u) (ud u) (nI (zh (uh u))) (zl (uh u)) ++ (rows12 cy st 6 (rowS (uh u)) ++ (wX cy a q q2 ca ta u g ++ chT cy ch u)))) := hD
          refine W.widen (k := 1) (n := 3) (Nat.le_of_ble_eq_true rfl) (Nat.le_of_ble_eq_true rfl) ?_
          refine lv_astore (lv' := [(9, .ref r371), (8, .int 2), (4, .ref (st k3)), (3, .int (nI k3)), (0, .ref (a 0)), (1, .ref b), (2, .int xv)]) hx hb dL_act_373 hl (by decide) rfl (fun ls hl => ?_)
          refine lv_aload hx hb dL_act_375 (lv_at hl 0 rfl) ?_
          refine lv_iconst (v := 0) hx hb dL_act_377 (by decide) ?_
          refine lv_iload_n hx hb dL_act_378 rfl (lv_at hl 3 rfl) ?_
          refine pc_iast hx hb hK hP hD hS 0 0 rfl rfl (k := 0) (show 0 < 3 by omega) (by decide) dL_act_379 (fun H locs hP hD hS => ?_)
          have hP : va_P D vwCl (([(r371, .inl ((cy 0), 3, .inl (upd (fun _ => 0) 0 (nI k3))))] : va_W) ++ (wS5 cy b sa st ch (un u) (uw u) (ud u) (nI (zh (uh u))) (zl (uh u)) ++ (rows12 cy st 6 (rowS (uh u)) ++ (wX cy a q q2 ca ta u g ++ chT cy ch u)))) H := hP
          have hD : va_D A (([(r371, .inl ((cy 0), 3, .inl (upd (fun _ => 0) 0 (nI k3))))] : va_W) ++ (wS5 cy b sa st ch (un u) (uw u) (ud u) (nI (zh (uh u))) (zl (uh u)) ++ (rows12 cy st 6 (rowS (uh u)) ++ (wX cy a q q2 ca ta u g ++ chT cy ch u)))) := hD
          refine lv_iconst (v := 1) hx hb dL_act_380 (by decide) ?_
          refine lv_istore (lv' := [(10, .int 1), (9, .ref r371), (8, .int 2), (4, .ref (st k3)), (3, .int (nI k3)), (0, .ref (a 0)), (1, .ref b), (2, .int xv)]) hx hb dL_act_381 hl (by decide) rfl (fun ls hl => ?_)
          have loop383 : ∀ (n9 : Nat) (i : Nat) (M : Nat → Int32), (1 ≤ i ∧ i ≤ 3) → M 0 = nI k3 → (∀ j, 1 ≤ j → j < i → ∃ t, 1 ≤ t ∧ t ≤ 1500 ∧ M j = nI t) → 3 - i < n9 → ∀ (H : Heap) (locs : List Loc), va_P D vwCl (([(r371, .inl ((cy 0), 3, .inl M))] : va_W) ++ (wS5 cy b sa st ch (un u) (uw u) (ud u) (nI (zh (uh u))) (zl (uh u)) ++ (rows12 cy st 6 (rowS (uh u)) ++ (wX cy a q q2 ca ta u g ++ chT cy ch u)))) H → va_D A (([(r371, .inl ((cy 0), 3, .inl M))] : va_W) ++ (wS5 cy b sa st ch (un u) (uw u) (ud u) (nI (zh (uh u))) (zl (uh u)) ++ (rows12 cy st 6 (rowS (uh u)) ++ (wX cy a q q2 ca ta u g ++ chT cy ch u)))) → va_S A s.heap H locs → ∀ ls : Array Slot, lv_has ls 12 [(0, .ref (a 0)), (1, .ref b), (2, .int xv), (3, .int (nI k3)), (8, .int 2), (9, .ref r371), (10, .int (nI i))] → W p l e (headSpec wsL_act ({ frames := 12, cells := 8, slots := 48, locals := 300 } : Room)).room s m ([.ref (a 0), .ref b, .int xv] : List Value).toArray below meth c H locs 1 3 (MQ below (va_Qi (fun (r8 : Int32) (z9 : US × (Nat → Nat) × (Nat → Nat) × (Nat → Nat)) => r8 = 1 ∧ INV z9.1 ∧ zh (uh z9.1) = zh (uh u)) (fun (z9 : US × (Nat → Nat) × (Nat → Nat) × (Nat → Nat)) t => va_P D vwCl (wSu cy b z9.2.1 z9.2.2.1 z9.2.2.2 z9.1 ++ (wSr cy z9.2.2.1 z9.1 ++ (wX cy a q q2 ca ta z9.1 g ++ chT cy z9.2.2.2 z9.1))) t.heap ∧ va_D A (wSu cy b z9.2.1 z9.2.2.1 z9.2.2.2 z9.1 ++ (wSr cy z9.2.2.1 z9.1 ++ (wX cy a q q2 ca ta z9.1 g ++ chT cy z9.2.2.2 z9.1)))) A) ([.ref (a 0), .ref b, .int xv] : List Value).toArray s 8 48 A) (F0 m 383 ls []) := by
            intro n9
            induction n9 with
            | zero => intro i M hi hM0 hM h9 H locs hP hD hS ls hl; exact absurd h9 (by omega)
            | succ n9 ih383 =>
              intro i M hi hM0 hM h9 H locs hP hD hS ls hl
              refine lv_iload hx hb dL_act_383 (lv_at hl 6 rfl) ?_
              refine lv_iload hx hb dL_act_385 (lv_at hl 4 rfl) ?_
              refine lv_icmp_gt (tgt := 464) hx hb dL_act_387 (by decide) (fun c387 => ?_) (fun c387 => ?_)
              · have n387 : 2 < i := (nI_ltI (a := 2) (b := i) (by omega) (by omega)).mp c387
                refine lv_aload_n hx hb dL_act_464 rfl (lv_at hl 1 rfl) ?_
                refine va_get (D := D) (ci := 3) (v := .ref (sa 1)) (C := RX3) (T := TX3) (N := 6) hx hb hts inL_act_RX3 hown hK hP 1 rfl rfl 1 (by decide) (hts _ kL_act_4) (fun _ h9 => h9) rfl dL_act_465 ?_
                refine pc_alenA hx hb hkp hP 3 rfl (v := nI (un u)) rfl dL_act_468 ?_
                refine lv_iconst (v := 1) hx hb dL_act_469 (by decide) ?_
                refine lv_iadd hx hb dL_act_470 ?_
                refine pc_top (show (nI (un u)) + 1 = nI (un u + 1) from nI_add (un u) 1) ?_
                refine pc_newqAF hx hb hown (hts _ kL_act_5) hkp hP hD hS hA (N' := un u + 1) (nI_neg (show un u + 1 < 2147483648 by omega)) (nI_clamp (show un u + 1 < 2147483648 by omega)) (show (un u + 1) * 4 ≤ 536870912 by omega) (show 1 + 1 ≤ 8 by omega) (show 3 + un u + 1 ≤ 48 by omega) dL_act_471 (fun r471 H hP hD hS => ?_)
                have hP : va_P D vwCl (([(r471, .inl ((cy 4), un u + 1, .inr (.inr (.inr (.inr (fun _ => none)))))), (r371, .inl ((cy 0), 3, .inl M))] : va_W) ++ (wS5 cy b sa st ch (un u) (uw u) (ud u) (nI (zh (uh u))) (zl (uh u)) ++ (rows12 cy st 6 (rowS (uh u)) ++ (wX cy a q q2 ca ta u g ++ chT cy ch u)))) H := hP
                have hD : va_D A (([(r471, .inl ((cy 4), un u + 1, .inr (.inr (.inr (.inr (fun _ => none)))))), (r371, .inl ((cy 0), 3, .inl M))] : va_W) ++ (wS5 cy b sa st ch (un u) (uw u) (ud u) (nI (zh (uh u))) (zl (uh u)) ++ (rows12 cy st 6 (rowS (uh u)) ++ (wX cy a q q2 ca ta u g ++ chT cy ch u)))) := hD
                refine W.widen (k := 2) (n := 9) (by omega) (by omega) ?_
                refine lv_astore (lv' := [(10, .ref r471), (0, .ref (a 0)), (1, .ref b), (2, .int xv), (3, .int (nI k3)), (8, .int 2), (9, .ref r371)]) hx hb dL_act_474 hl (by decide) rfl (fun ls hl => ?_)
                have e9 : ((fun _ => none)) = cpF ch 0 := (cpF_0 _)
                rw [e9] at hP hD
                clear e9
                have hP : va_P D vwCl (([(r471, .inl ((cy 4), un u + 1, .inr (.inr (.inr (.inr (cpF ch 0)))))), (r371, .inl ((cy 0), 3, .inl M))] : va_W) ++ (wS5 cy b sa st ch (un u) (uw u) (ud u) (nI (zh (uh u))) (zl (uh u)) ++ (rows12 cy st 6 (rowS (uh u)) ++ (wX cy a q q2 ca ta u g ++ chT cy ch u)))) H := hP
                have hD : va_D A (([(r471, .inl ((cy 4), un u + 1, .inr (.inr (.inr (.inr (cpF ch 0)))))), (r371, .inl ((cy 0), 3, .inl M))] : va_W) ++ (wS5 cy b sa st ch (un u) (uw u) (ud u) (nI (zh (uh u))) (zl (uh u)) ++ (rows12 cy st 6 (rowS (uh u)) ++ (wX cy a q q2 ca ta u g ++ chT cy ch u)))) := hD
                refine lv_iconst (v := 0) hx hb dL_act_476 (by decide) ?_
                refine lv_istore (lv' := [(11, .int 0), (10, .ref r471), (0, .ref (a 0)), (1, .ref b), (2, .int xv), (3, .int (nI k3)), (8, .int 2), (9, .ref r371)]) hx hb dL_act_477 hl (by decide) rfl (fun ls hl => ?_)
                have loop479 : ∀ (n9 : Nat) (jj : Nat), jj ≤ un u → un u - jj < n9 → ∀ (H : Heap) (locs : List Loc), va_P D vwCl (([(r471, .inl ((cy 4), un u + 1, .inr (.inr (.inr (.inr (cpF ch jj)))))), (r371, .inl ((cy 0), 3, .inl M))] : va_W) ++ (wS5 cy b sa st ch (un u) (uw u) (ud u) (nI (zh (uh u))) (zl (uh u)) ++ (rows12 cy st 6 (rowS (uh u)) ++ (wX cy a q q2 ca ta u g ++ chT cy ch u)))) H → va_D A (([(r471, .inl ((cy 4), un u + 1, .inr (.inr (.inr (.inr (cpF ch jj)))))), (r371, .inl ((cy 0), 3, .inl M))] : va_W) ++ (wS5 cy b sa st ch (un u) (uw u) (ud u) (nI (zh (uh u))) (zl (uh u)) ++ (rows12 cy st 6 (rowS (uh u)) ++ (wX cy a q q2 ca ta u g ++ chT cy ch u)))) → va_S A s.heap H locs → ∀ ls : Array Slot, lv_has ls 12 [(0, .ref (a 0)), (1, .ref b), (2, .int xv), (3, .int (nI k3)), (8, .int 2), (9, .ref r371), (10, .ref r471), (11, .int (nI jj))] → W p l e (headSpec wsL_act ({ frames := 12, cells := 8, slots := 48, locals := 300 } : Room)).room s m ([.ref (a 0), .ref b, .int xv] : List Value).toArray below meth c H locs 2 9 (MQ below (va_Qi (fun (r8 : Int32) (z9 : US × (Nat → Nat) × (Nat → Nat) × (Nat → Nat)) => r8 = 1 ∧ INV z9.1 ∧ zh (uh z9.1) = zh (uh u)) (fun (z9 : US × (Nat → Nat) × (Nat → Nat) × (Nat → Nat)) t => va_P D vwCl (wSu cy b z9.2.1 z9.2.2.1 z9.2.2.2 z9.1 ++ (wSr cy z9.2.2.1 z9.1 ++ (wX cy a q q2 ca ta z9.1 g ++ chT cy z9.2.2.2 z9.1))) t.heap ∧ va_D A (wSu cy b z9.2.1 z9.2.2.1 z9.2.2.2 z9.1 ++ (wSr cy z9.2.2.1 z9.1 ++ (wX cy a q q2 ca ta z9.1 g ++ chT cy z9.2.2.2 z9.1)))) A) ([.ref (a 0), .ref b, .int xv] : List Value).toArray s 8 48 A) (F0 m 479 ls []) := by
                  intro n9
                  induction n9 with
                  | zero => intro jj hjj h9 H locs hP hD hS ls hl; exact absurd h9 (by omega)
                  | succ n9 ih479 =>
                    intro jj hjj h9 H locs hP hD hS ls hl
                    refine lv_iload hx hb dL_act_479 (lv_at hl 7 rfl) ?_
                    refine lv_aload_n hx hb dL_act_481 rfl (lv_at hl 1 rfl) ?_
                    refine va_get (D := D) (ci := 3) (v := .ref (sa 1)) (C := RX3) (T := TX3) (N := 6) hx hb hts inL_act_RX3 hown hK hP 2 rfl rfl 1 (by decide) (hts _ kL_act_4) (fun _ h9 => h9) rfl dL_act_482 ?_
                    refine pc_alenA hx hb hkp hP 4 rfl (v := nI (un u)) rfl dL_act_485 ?_
                    refine lv_icmp_ge (tgt := 507) hx hb dL_act_486 (by decide) (fun c486 => ?_) (fun c486 => ?_)
                    · have n486 : un u ≤ jj := (nI_leI (a := un u) (b := jj) (by omega) (by omega)).mp c486
                      have e9 : (cpF ch jj) = cpF ch (un u) := (by rw [show jj = un u by omega])
                      rw [e9] at hP hD
                      clear e9
                      have hP : va_P D vwCl (([(r471, .inl ((cy 4), un u + 1, .inr (.inr (.inr (.inr (cpF ch (un u))))))), (r371, .inl ((cy 0), 3, .inl M))] : va_W) ++ (wS5 cy b sa st ch (un u) (uw u) (ud u) (nI (zh (uh u))) (zl (uh u)) ++ (rows12 cy st 6 (rowS (uh u)) ++ (wX cy a q q2 ca ta u g ++ chT cy ch u)))) H := hP
                      have hD : va_D A (([(r471, .inl ((cy 4), un u + 1, .inr (.inr (.inr (.inr (cpF ch (un u))))))), (r371, .inl ((cy 0), 3, .inl M))] : va_W) ++ (wS5 cy b sa st ch (un u) (uw u) (ud u) (nI (zh (uh u))) (zl (uh u)) ++ (rows12 cy st 6 (rowS (uh u)) ++ (wX cy a q q2 ca ta u g ++ chT cy ch u)))) := hD
                      refine lv_aload hx hb dL_act_507 (lv_at hl 6 rfl) ?_
                      refine lv_aload_n hx hb dL_act_509 rfl (lv_at hl 1 rfl) ?_
                      refine va_get (D := D) (ci := 3) (v := .ref (sa 1)) (C := RX3) (T := TX3) (N := 6) hx hb hts inL_act_RX3 hown hK hP 2 rfl rfl 1 (by decide) (hts _ kL_act_4) (fun _ h9 => h9) rfl dL_act_510 ?_
                      refine pc_alenA hx hb hkp hP 4 rfl (v := nI (un u)) rfl dL_act_513 ?_
                      refine lv_aload hx hb dL_act_514 (lv_at hl 5 rfl) ?_
                      refine pc_astA hx hb hK hkp hP hD hS 0 1 rfl rfl (k := un u) (show un u < un u + 1 by omega) (by omega) dL_act_516 (fun H locs hP hD hS => ?_)
                      have hP : va_P D vwCl (([(r471, .inl ((cy 4), un u + 1, .inr (.inr (.inr (.inr (va_up (cpF ch (un u)) (un u) (some r371))))))), (r371, .inl ((cy 0), 3, .inl M))] : va_W) ++ (wS5 cy b sa st ch (un u) (uw u) (ud u) (nI (zh (uh u))) (zl (uh u)) ++ (rows12 cy st 6 (rowS (uh u)) ++ (wX cy a q q2 ca ta u g ++ chT cy ch u)))) H := hP
                      have hD : va_D A (([(r471, .inl ((cy 4), un u + 1, .inr (.inr (.inr (.inr (va_up (cpF ch (un u)) (un u) (some r371))))))), (r371, .inl ((cy 0), 3, .inl M))] : va_W) ++ (wS5 cy b sa st ch (un u) (uw u) (ud u) (nI (zh (uh u))) (zl (uh u)) ++ (rows12 cy st 6 (rowS (uh u)) ++ (wX cy a q q2 ca ta u g ++ chT cy ch u)))) := hD
                      obtain ⟨t1, ta1, tb1, te1⟩ := hM 1 (by omega) (by omega)
                      obtain ⟨t2, ta2, tb2, te2⟩ := hM 2 (by omega) (by omega)
                      have hP := va_P_rowq (g := fun i => some (sup ch (un u) r371 i)) hP 0 rfl (cpF_end ch (un u) r371)
                      have hP := va_P_row (g := rowC (uCh u k3 2 (nI t1) (nI t2) 0 0) (un u)) hP 1 rfl (made_row2 hM0 te1 te2)
                      have hP : va_P D vwCl (([(r471, .inl ((cy 4), un u + 1, .inr (.inr (.inr (.inr (fun i => some (sup ch (un u) r371 i))))))), (r371, .inl ((cy 0), 3, .inl (rowC (uCh u k3 2 (nI t1) (nI t2) 0 0) (un u))))] : va_W) ++ (wS5 cy b sa st ch (un u) (uw u) (ud u) (nI (zh (uh u))) (zl (uh u)) ++ (rows12 cy st 6 (rowS (uh u)) ++ (wX cy a q q2 ca ta u g ++ chT cy ch u)))) H := hP
                      have hD : va_D A (([(r471, .inl ((cy 4), un u + 1, .inr (.inr (.inr (.inr (fun i => some (sup ch (un u) r371 i))))))), (r371, .inl ((cy 0), 3, .inl (rowC (uCh u k3 2 (nI t1) (nI t2) 0 0) (un u))))] : va_W) ++ (wS5 cy b sa st ch (un u) (uw u) (ud u) (nI (zh (uh u))) (zl (uh u)) ++ (rows12 cy st 6 (rowS (uh u)) ++ (wX cy a q q2 ca ta u g ++ chT cy ch u)))) := va_D_addr hD rfl
                      refine lv_aload_n hx hb dL_act_517 rfl (lv_at hl 1 rfl) ?_
                      refine lv_aload hx hb dL_act_518 (lv_at hl 6 rfl) ?_
                      refine va_put (D := D) (ci := 3) (v := .ref r471) (ty := .array (.array .int)) (C := RX3) (T := TX3) (N := 6) hx hb hts inL_act_RX3 tyX3 tyX3_ok nmX3 hown hK hP hD hS 2 rfl rfl 1 (by decide) (hts _ kL_act_4) (fun _ h9 => h9) rfl (by decide +kernel) rfl rfl (Nat.le_of_ble_eq_true rfl) dL_act_520 (fun H locs hP hD hS => ?_)
                      have hP := pM_forP (x := (r471, .inl ((cy 4), un u + 1, .inr (.inr (.inr (.inr (fun i => some (sup ch (un u) r371 i)))))))) (y := (sa 1, .inl (cy 4, un u, qf (fun i => some (ch i))))) (P := [(r371, .inl ((cy 0), 3, .inl (rowC (uCh u k3 2 (nI t1) (nI t2) 0 0) (un u)))), (b, .inr (3, [.ref (sa 0), .ref r471, .ref (sa 2), .ref (sa 3), .int (nI (zh (uh u))), .int (zl (uh u))])), (sa 0, .inl (cy 4, 12, qf (fun i => some (st i))))]) (Q := [(sa 2, .inl (cy 0, 12, .inl (uw u))), (sa 3, .inl (cy 0, 12, .inl (ud u)))] ++ (rows12 cy st 6 (rowS (uh u)) ++ (wX cy a q q2 ca ta u g ++ chT cy ch u))) hP
                      have hD := pM_forD (x := (r471, .inl ((cy 4), un u + 1, .inr (.inr (.inr (.inr (fun i => some (sup ch (un u) r371 i)))))))) (y := (sa 1, .inl (cy 4, un u, qf (fun i => some (ch i))))) (P := [(r371, .inl ((cy 0), 3, .inl (rowC (uCh u k3 2 (nI t1) (nI t2) 0 0) (un u)))), (b, .inr (3, [.ref (sa 0), .ref r471, .ref (sa 2), .ref (sa 3), .int (nI (zh (uh u))), .int (zl (uh u))])), (sa 0, .inl (cy 4, 12, qf (fun i => some (st i))))]) (Q := [(sa 2, .inl (cy 0, 12, .inl (uw u))), (sa 3, .inl (cy 0, 12, .inl (ud u)))] ++ (rows12 cy st 6 (rowS (uh u)) ++ (wX cy a q q2 ca ta u g ++ chT cy ch u))) hD
                      have hP : va_P D vwCl (([(r371, .inl ((cy 0), 3, .inl (rowC (uCh u k3 2 (nI t1) (nI t2) 0 0) (un u))))] : va_W) ++ (wS5 cy b (sup sa 1 r471) st (sup ch (un u) r371) (un u + 1) (uw u) (ud u) (nI (zh (uh u))) (zl (uh u)) ++ (rows12 cy st 6 (rowS (uh u)) ++ (wX cy a q q2 ca ta u g ++ chT cy ch u)))) H := hP
                      have hD : va_D A (([(r371, .inl ((cy 0), 3, .inl (rowC (uCh u k3 2 (nI t1) (nI t2) 0 0) (un u))))] : va_W) ++ (wS5 cy b (sup sa 1 r471) st (sup ch (un u) r371) (un u + 1) (uw u) (ud u) (nI (zh (uh u))) (zl (uh u)) ++ (rows12 cy st 6 (rowS (uh u)) ++ (wX cy a q q2 ca ta u g ++ chT cy ch u)))) := hD
                      refine lv_aload_n hx hb dL_act_523 rfl (lv_at hl 0 rfl) ?_
                      refine lv_iload_n hx hb dL_act_524 rfl (lv_at hl 3 rfl) ?_
                      refine lv_aload hx hb dL_act_525 (lv_at hl 5 rfl) ?_
                      refine lv_iconst (v := 1) hx hb dL_act_527 (by decide) ?_
                      refine pc_iald hx hb hK hP 0 0 rfl rfl (k := 1) (show 1 < 3 by omega) (by decide) dL_act_528 ?_
                      refine pc_top (show (rowC (uCh u k3 2 (nI t1) (nI t2) 0 0) (un u)) 1 = nI t1 from rowC_1) ?_
                      refine lv_aload hx hb dL_act_529 (lv_at hl 5 rfl) ?_
                      refine lv_iconst (v := 2) hx hb dL_act_531 (by decide) ?_
                      refine pc_iald hx hb hK hP 0 0 rfl rfl (k := 2) (show 2 < 3 by omega) (by decide) dL_act_532 ?_
                      refine pc_top (show (rowC (uCh u k3 2 (nI t1) (nI t2) 0 0) (un u)) 2 = nI t2 from rowC_2) ?_
                      refine lv_iload hx hb dL_act_533 (lv_at hl 4 rfl) ?_
                      refine lv_iconst (v := 2) hx hb dL_act_535 (by decide) ?_
                      refine lv_icmp_le (tgt := 546) hx hb dL_act_536 (by decide) (fun c536 => ?_) (fun c536 => absurd c536 (not_not_intro (by decide)))
                      have n536 : 2 ≤ 2 := (nI_leI (a := 2) (b := 2) (by omega) (by omega)).mp c536
                      refine lv_iconst (v := 0) hx hb dL_act_546 (by decide) ?_
                      refine lv_iload hx hb dL_act_547 (lv_at hl 4 rfl) ?_
                      refine lv_iconst (v := 3) hx hb dL_act_549 (by decide) ?_
                      refine lv_icmp_le (tgt := 560) hx hb dL_act_550 (by decide) (fun c550 => ?_) (fun c550 => absurd c550 (not_not_intro (by decide)))
                      have n550 : 2 ≤ 3 := (nI_leI (a := 2) (b := 3) (by omega) (by omega)).mp c550
                      refine lv_iconst (v := 0) hx hb dL_act_560 (by decide) ?_
                      refine cls_w (Lc := ([(r371, .inl ((cy 0), 3, .inl (rowC (uCh u k3 2 (nI t1) (nI t2) 0 0) (un u))))] : va_W)) (S5 := wS5 cy b (sup sa 1 r471) st (sup ch (un u) r371) (un u + 1) (uw u) (ud u) (nI (zh (uh u))) (zl (uh u))) (S12 := rows12 cy st 6 (rowS (uh u))) (T := chT cy ch u) (As := [.int (nI k3), .int (nI t1), .int (nI t2), .int 0, .int 0]) (rest := []) (uf := fun (_ : Unit) => uCh u (ix (nI k3)) (chSz 0 0) (nI t1) (nI t2) 0 0) (gf := fun (_ : Unit) => g) hP hD hS hA hK hXA ⟨hx, hb, hml, hown, hts⟩ (mX2_chord l hst D cy H.size a q q2 ca ta u g I.1 (nI k3) (nI t1) (nI t2) 0 0) (fun E h => h.2 (exCh_0 (t0 := t1) (t1 := t2) (t2 := 0) (t3 := 0) hk3 ta1 tb1 ta2 tb2 (by decide) (by decide) (by omega) (by rw [show chSz (nI 0) (nI 0) = 2 from rfl]; omega) (by omega))) (cwV 5 hts gL_act_X2_chord rfl rfl rfl (by decide +kernel) ⟨Nat.le_of_ble_eq_true rfl, Nat.le_of_ble_eq_true rfl⟩) rfl rfl hl.1 (Nat.le_of_ble_eq_true rfl) dL_act_561 ⟨Nat.le_of_ble_eq_true rfl, Nat.le_of_ble_eq_true rfl⟩ (fun _ H locs hP hD hS => ?_)
                      have hP : va_P D vwCl (([(r371, .inl ((cy 0), 3, .inl (rowC (uCh u k3 2 (nI t1) (nI t2) 0 0) (un u))))] : va_W) ++ (wS5 cy b (sup sa 1 r471) st (sup ch (un u) r371) (un u + 1) (uw u) (ud u) (nI (zh (uh u))) (zl (uh u)) ++ (rows12 cy st 6 (rowS (uh u)) ++ (wX cy a q q2 ca ta (uCh u (ix (nI k3)) (chSz 0 0) (nI t1) (nI t2) 0 0) g ++ chT cy ch u)))) H := hP
                      have hD : va_D A (([(r371, .inl ((cy 0), 3, .inl (rowC (uCh u k3 2 (nI t1) (nI t2) 0 0) (un u))))] : va_W) ++ (wS5 cy b (sup sa 1 r471) st (sup ch (un u) r371) (un u + 1) (uw u) (ud u) (nI (zh (uh u))) (zl (uh u)) ++ (rows12 cy st 6 (rowS (uh u)) ++ (wX cy a q q2 ca ta (uCh u (ix (nI k3)) (chSz 0 0) (nI t1) (nI t2) 0 0) g ++ chT cy ch u)))) := hD
                      refine W.widen (k := 8) (n := 45) (Nat.le_of_ble_eq_true rfl) (Nat.le_of_ble_eq_true rfl) ?_
                      rw [ixk, chSz_2] at hP hD
                      have hP : va_P D vwCl (([(r371, .inl ((cy 0), 3, .inl (rowC (uCh u k3 2 (nI t1) (nI t2) 0 0) (un u))))] : va_W) ++ (wS5 cy b (sup sa 1 r471) st (sup ch (un u) r371) (un u + 1) (uw u) (ud u) (nI (zh (uh u))) (zl (uh u)) ++ (rows12 cy st 6 (rowS (uh u)) ++ (wX cy a q q2 ca ta (uCh u k3 2 (nI t1) (nI t2) 0 0) g ++ chT cy ch u)))) H := hP
                      have hD : va_D A (([(r371, .inl ((cy 0), 3, .inl (rowC (uCh u k3 2 (nI t1) (nI t2) 0 0) (un u))))] : va_W) ++ (wS5 cy b (sup sa 1 r471) st (sup ch (un u) r371) (un u + 1) (uw u) (ud u) (nI (zh (uh u))) (zl (uh u)) ++ (rows12 cy st 6 (rowS (uh u)) ++ (wX cy a q q2 ca ta (uCh u k3 2 (nI t1) (nI t2) 0 0) g ++ chT cy ch u)))) := hD
                      refine lv_aload hx hb dL_act_564 (lv_at hl 6 rfl) ?_
                      refine pc_alenA hx hb hkp hP 3 rfl (v := nI (un u + 1)) rfl dL_act_566 ?_
                      refine lv_iconst (v := 1) hx hb dL_act_567 (by decide) ?_
                      refine lv_isub hx hb dL_act_568 ?_
                      refine pc_top (show (nI (un u + 1)) - 1 = nI ((un u + 1) - 1) from pk_sub (a := un u + 1) (b := 1) (by omega)) ?_
                      refine pc_top (show nI ((un u + 1) - 1) = nI (un u) from (by rw [Nat.add_sub_cancel])) ?_
                      refine lv_icmp_ne (tgt := 576) hx hb dL_act_569 (by decide) (fun c569 => absurd c569 (not_not_intro rfl)) (fun c569 => ?_)
                      have n569 : un u = un u := (nI_eq (a := un u) (b := un u) (by omega) (by omega)).mp c569
                      refine lv_iconst (v := 1) hx hb dL_act_572 (by decide) ?_
                      refine lv_goto (tgt := 577) hx hb dL_act_573 (by decide) ?_
                      refine W.widen (k := 8) (n := 48) (by omega) (by omega) ?_
                      have hP9 : va_P D vwCl (wSu cy b ((uCh u k3 2 (nI t1) (nI t2) 0 0, sup sa 1 r471, st, sup ch (un u) r371) : US × (Nat → Nat) × (Nat → Nat) × (Nat → Nat)).2.1 ((uCh u k3 2 (nI t1) (nI t2) 0 0, sup sa 1 r471, st, sup ch (un u) r371) : US × (Nat → Nat) × (Nat → Nat) × (Nat → Nat)).2.2.1 ((uCh u k3 2 (nI t1) (nI t2) 0 0, sup sa 1 r471, st, sup ch (un u) r371) : US × (Nat → Nat) × (Nat → Nat) × (Nat → Nat)).2.2.2 ((uCh u k3 2 (nI t1) (nI t2) 0 0, sup sa 1 r471, st, sup ch (un u) r371) : US × (Nat → Nat) × (Nat → Nat) × (Nat → Nat)).1 ++ (wSr cy ((uCh u k3 2 (nI t1) (nI t2) 0 0, sup sa 1 r471, st, sup ch (un u) r371) : US × (Nat → Nat) × (Nat → Nat) × (Nat → Nat)).2.2.1 ((uCh u k3 2 (nI t1) (nI t2) 0 0, sup sa 1 r471, st, sup ch (un u) r371) : US × (Nat → Nat) × (Nat → Nat) × (Nat → Nat)).1 ++ (wX cy a q q2 ca ta ((uCh u k3 2 (nI t1) (nI t2) 0 0, sup sa 1 r471, st, sup ch (un u) r371) : US × (Nat → Nat) × (Nat → Nat) × (Nat → Nat)).1 g ++ chT cy ((uCh u k3 2 (nI t1) (nI t2) 0 0, sup sa 1 r471, st, sup ch (un u) r371) : US × (Nat → Nat) × (Nat → Nat) × (Nat → Nat)).2.2.2 ((uCh u k3 2 (nI t1) (nI t2) 0 0, sup sa 1 r471, st, sup ch (un u) r371) : US × (Nat → Nat) × (Nat → Nat) × (Nat → Nat)).1))) H := (by show va_P D vwCl (wSu cy b (sup sa 1 r471) st (sup ch (un u) r371) (uCh u k3 2 (nI t1) (nI t2) 0 0) ++ (wSr cy st (uCh u k3 2 (nI t1) (nI t2) 0 0) ++ (wX cy a q q2 ca ta (uCh u k3 2 (nI t1) (nI t2) 0 0) g ++ chT cy (sup ch (un u) r371) (uCh u k3 2 (nI t1) (nI t2) 0 0)))) H; rw [← chT_new]; exact act_endP hP)
                      have hD9 : va_D A (wSu cy b ((uCh u k3 2 (nI t1) (nI t2) 0 0, sup sa 1 r471, st, sup ch (un u) r371) : US × (Nat → Nat) × (Nat → Nat) × (Nat → Nat)).2.1 ((uCh u k3 2 (nI t1) (nI t2) 0 0, sup sa 1 r471, st, sup ch (un u) r371) : US × (Nat → Nat) × (Nat → Nat) × (Nat → Nat)).2.2.1 ((uCh u k3 2 (nI t1) (nI t2) 0 0, sup sa 1 r471, st, sup ch (un u) r371) : US × (Nat → Nat) × (Nat → Nat) × (Nat → Nat)).2.2.2 ((uCh u k3 2 (nI t1) (nI t2) 0 0, sup sa 1 r471, st, sup ch (un u) r371) : US × (Nat → Nat) × (Nat → Nat) × (Nat → Nat)).1 ++ (wSr cy ((uCh u k3 2 (nI t1) (nI t2) 0 0, sup sa 1 r471, st, sup ch (un u) r371) : US × (Nat → Nat) × (Nat → Nat) × (Nat → Nat)).2.2.1 ((uCh u k3 2 (nI t1) (nI t2) 0 0, sup sa 1 r471, st, sup ch (un u) r371) : US × (Nat → Nat) × (Nat → Nat) × (Nat → Nat)).1 ++ (wX cy a q q2 ca ta ((uCh u k3 2 (nI t1) (nI t2) 0 0, sup sa 1 r471, st, sup ch (un u) r371) : US × (Nat → Nat) × (Nat → Nat) × (Nat → Nat)).1 g ++ chT cy ((uCh u k3 2 (nI t1) (nI t2) 0 0, sup sa 1 r471, st, sup ch (un u) r371) : US × (Nat → Nat) × (Nat → Nat) × (Nat → Nat)).2.2.2 ((uCh u k3 2 (nI t1) (nI t2) 0 0, sup sa 1 r471, st, sup ch (un u) r371) : US × (Nat → Nat) × (Nat → Nat) × (Nat → Nat)).1))) := (by show va_D A (wSu cy b (sup sa 1 r471) st (sup ch (un u) r371) (uCh u k3 2 (nI t1) (nI t2) 0 0) ++ (wSr cy st (uCh u k3 2 (nI t1) (nI t2) 0 0) ++ (wX cy a q q2 ca ta (uCh u k3 2 (nI t1) (nI t2) 0 0) g ++ chT cy (sup ch (un u) r371) (uCh u k3 2 (nI t1) (nI t2) 0 0)))); rw [← chT_new]; exact act_endD hD)
                      exact W.zret (v := 1) hx hb hr (by decide) (fun t ht hW => ⟨⟨1, ((uCh u k3 2 (nI t1) (nI t2) 0 0, sup sa 1 r471, st, sup ch (un u) r371) : US × (Nat → Nat) × (Nat → Nat) × (Nat → Nat)), rfl, ⟨rfl, INV_ch2 I (by omega) (by omega) ta1 tb1 ta2 tb2, rfl⟩, by rw [ht]; exact hP9, hD9⟩, hS.F ht⟩) hS.2.2 dL_act_577
                    · have n486 : ¬ (un u ≤ jj) := fun h9 => c486 ((nI_leI (a := un u) (b := jj) (by omega) (by omega)).mpr h9)
                      refine lv_aload hx hb dL_act_489 (lv_at hl 6 rfl) ?_
                      refine lv_iload hx hb dL_act_491 (lv_at hl 7 rfl) ?_
                      refine lv_aload_n hx hb dL_act_493 rfl (lv_at hl 1 rfl) ?_
                      refine va_get (D := D) (ci := 3) (v := .ref (sa 1)) (C := RX3) (T := TX3) (N := 6) hx hb hts inL_act_RX3 hown hK hP 2 rfl rfl 1 (by decide) (hts _ kL_act_4) (fun _ h9 => h9) rfl dL_act_494 ?_
                      refine lv_iload hx hb dL_act_497 (lv_at hl 7 rfl) ?_
                      refine pc_aldA hx hb hkp hP 4 rfl (k := jj) (show jj < un u by omega) (by omega) (v := ch jj) rfl dL_act_499 ?_
                      obtain ⟨qk, hqk⟩ := List.getElem?_of_mem (show ((ch jj, .inl (cy 0, uz u jj + 1, .inl (rowC u jj))) : Nat × va_E) ∈ (([(r471, .inl ((cy 4), un u + 1, .inr (.inr (.inr (.inr (cpF ch jj)))))), (r371, .inl ((cy 0), 3, .inl M))] : va_W) ++ (wS5 cy b sa st ch (un u) (uw u) (ud u) (nI (zh (uh u))) (zl (uh u)) ++ (rows12 cy st 6 (rowS (uh u)) ++ (wX cy a q q2 ca ta u g ++ chT cy ch u))) : va_W) from List.mem_append_right _ (List.mem_append_right _ (List.mem_append_right _ (List.mem_append_right _ (chT_mem (by omega))))))
                      refine pc_astA hx hb hK hkp hP hD hS 0 qk rfl hqk (k := jj) (show jj < un u + 1 by omega) (by omega) dL_act_500 (fun H locs hP hD hS => ?_)
                      have hP : va_P D vwCl (([(r471, .inl ((cy 4), un u + 1, .inr (.inr (.inr (.inr (va_up (cpF ch jj) jj (some (ch jj)))))))), (r371, .inl ((cy 0), 3, .inl M))] : va_W) ++ (wS5 cy b sa st ch (un u) (uw u) (ud u) (nI (zh (uh u))) (zl (uh u)) ++ (rows12 cy st 6 (rowS (uh u)) ++ (wX cy a q q2 ca ta u g ++ chT cy ch u)))) H := hP
                      have hD : va_D A (([(r471, .inl ((cy 4), un u + 1, .inr (.inr (.inr (.inr (va_up (cpF ch jj) jj (some (ch jj)))))))), (r371, .inl ((cy 0), 3, .inl M))] : va_W) ++ (wS5 cy b sa st ch (un u) (uw u) (ud u) (nI (zh (uh u))) (zl (uh u)) ++ (rows12 cy st 6 (rowS (uh u)) ++ (wX cy a q q2 ca ta u g ++ chT cy ch u)))) := hD
                      have e9 : (va_up (cpF ch jj) jj (some (ch jj))) = cpF ch (jj + 1) := (cpF_s _ _)
                      rw [e9] at hP hD
                      clear e9
                      have hP : va_P D vwCl (([(r471, .inl ((cy 4), un u + 1, .inr (.inr (.inr (.inr (cpF ch (jj + 1))))))), (r371, .inl ((cy 0), 3, .inl M))] : va_W) ++ (wS5 cy b sa st ch (un u) (uw u) (ud u) (nI (zh (uh u))) (zl (uh u)) ++ (rows12 cy st 6 (rowS (uh u)) ++ (wX cy a q q2 ca ta u g ++ chT cy ch u)))) H := hP
                      have hD : va_D A (([(r471, .inl ((cy 4), un u + 1, .inr (.inr (.inr (.inr (cpF ch (jj + 1))))))), (r371, .inl ((cy 0), 3, .inl M))] : va_W) ++ (wS5 cy b sa st ch (un u) (uw u) (ud u) (nI (zh (uh u))) (zl (uh u)) ++ (rows12 cy st 6 (rowS (uh u)) ++ (wX cy a q q2 ca ta u g ++ chT cy ch u)))) := hD
                      refine lv_iinc (v := nI (jj + 1)) (lv' := [(11, .int (nI (jj + 1))), (0, .ref (a 0)), (1, .ref b), (2, .int xv), (3, .int (nI k3)), (8, .int 2), (9, .ref r371), (10, .ref r471)]) hx hb dL_act_501 hl (k := 7) rfl ((show (nI jj) + Int32.ofInt 1 = (nI jj) + 1 from rfl).trans (show (nI jj) + 1 = nI (jj + 1) from nI_add jj 1)) (by decide) rfl (fun ls hl => ?_)
                      refine lv_goto (tgt := 479) hx hb dL_act_504 (by decide) ?_
                      exact ih479 (jj + 1) (by omega) (by omega) _ _ hP hD hS ls (lv_sub hl [1, 2, 3, 4, 5, 6, 7, 0] rfl)
                exact loop479 (un u + 1) 0 (Nat.zero_le _) (by omega) _ _ hP hD hS ls (lv_sub hl [2, 3, 4, 5, 6, 7, 1, 0] rfl)
              · have n387 : ¬ (2 < i) := fun h9 => c387 ((nI_ltI (a := 2) (b := i) (by omega) (by omega)).mpr h9)
                refine lv_aload hx hb dL_act_390 (lv_at hl 5 rfl) ?_
                refine lv_iload hx hb dL_act_392 (lv_at hl 6 rfl) ?_
                refine lv_iconst (v := 1) hx hb dL_act_394 (by decide) ?_
                refine lv_aload_n hx hb dL_act_395 rfl (lv_at hl 1 rfl) ?_
                refine lv_iload_n hx hb dL_act_396 rfl (lv_at hl 3 rfl) ?_
                refine lv_iload hx hb dL_act_397 (lv_at hl 6 rfl) ?_
                refine lv_iadd hx hb dL_act_399 ?_
                refine pc_top (show (nI k3) + (nI i) = nI (k3 + i) from nI_add k3 i) ?_
                refine lv_iconst (v := 1) hx hb dL_act_400 (by decide) ?_
                refine lv_isub hx hb dL_act_401 ?_
                refine pc_top (show (nI (k3 + i)) - 1 = nI ((k3 + i) - 1) from pk_sub (a := k3 + i) (b := 1) (by omega)) ?_
                refine sim_p (Lc := ([(r371, .inl ((cy 0), 3, .inl M))] : va_W)) (S5 := wS5 cy b sa st ch (un u) (uw u) (ud u) (nI (zh (uh u))) (zl (uh u))) (S12 := rows12 cy st 6 (rowS (uh u))) (X := wX cy a q q2 ca ta u g ++ chT cy ch u) (Y := []) (As := [.int (nI ((k3 + i) - 1))]) (rest := [.int 1, .int (nI i), .ref r371]) hP hK hkp ⟨hx, hb, hml, hown, hts⟩ (mX3_tone l D cy b sa st ch u (k3 + i - 1) (by omega)) (no_mem) rfl (cwV 1 hts gL_act_X3_tone rfl rfl rfl (by decide +kernel) ⟨Nat.le_of_ble_eq_true rfl, Nat.le_of_ble_eq_true rfl⟩) rfl rfl hl.1 (Nat.le_of_ble_eq_true rfl) dL_act_402 ⟨Nat.le_of_ble_eq_true rfl, Nat.le_of_ble_eq_true rfl⟩ ?_
                obtain ⟨tt, htt, ett⟩ := tone_b I (show k3 + i - 1 < 12 by omega)
                refine pc_top (show tone (uh u) (k3 + i - 1) = nI tt from ett) ?_
                refine lv_iload_n hx hb dL_act_405 rfl (lv_at hl 2 rfl) ?_
                refine lv_iload hx hb dL_act_406 (lv_at hl 6 rfl) ?_
                refine lv_ishr hx hb dL_act_408 ?_
                refine lv_iconst (v := 5) hx hb dL_act_409 (by decide) ?_
                refine lv_iload hx hb dL_act_410 (lv_at hl 6 rfl) ?_
                refine lv_imul hx hb dL_act_412 ?_
                refine pc_top (show 5 * (nI i) = nI (5 * i) from pk_mul 5 i) ?_
                refine lv_iadd hx hb dL_act_413 ?_
                refine lv_iload_n hx hb dL_act_414 rfl (lv_at hl 2 rfl) ?_
                refine lv_bipush (v := 6) hx hb dL_act_415 (by decide) ?_
                refine lv_ishr hx hb dL_act_417 ?_
                refine lv_iconst (v := 2) hx hb dL_act_418 (by decide) ?_
                refine pc_calli (va_runS (As := [.int (xv >>> (6 &&& 31)), .int 2]) (rest := [.int ((xv >>> ((nI i) &&& 31)) + (nI (5 * i))), .int (nI tt), .int 1, .int (nI i), .ref r371]) ⟨hx, hb, hml, hown, hts⟩ (mL_below l D cy (xv >>> (6 &&& 31)) 2 (by decide) (by decide)) (va_cwS 2 hts gL_act_L_below rfl rfl rfl (by decide +kernel) ⟨Nat.le_of_ble_eq_true rfl, Nat.le_of_ble_eq_true rfl⟩) ⟨fun a U g mk q => q, fun U hU hW => ⟨rfl, trivial⟩⟩ rfl rfl hl.1 rfl (lv_room (Nat.le_of_ble_eq_true rfl)) dL_act_419 ⟨Nat.le_of_ble_eq_true rfl, Nat.le_of_ble_eq_true rfl⟩) (fun r9 hr9 => ?_)
                obtain ⟨k419, hk419, rfl⟩ := hr9
                refine lv_if_ne (tgt := 430) hx hb dL_act_422 (by decide) (fun c422 => ?_) (fun c422 => ?_)
                · have n422 : ¬ (k419 = 0) := fun h9 => c422 ((nI_eq (a := k419) (b := 0) (by omega) (by omega)).mpr h9)
                  refine lv_bipush (v := 61) hx hb dL_act_430 (by decide) ?_
                  refine pc_calli (va_runS (As := [.int ((xv >>> ((nI i) &&& 31)) + (nI (5 * i))), .int 61]) (rest := [.int (nI tt), .int 1, .int (nI i), .ref r371]) ⟨hx, hb, hml, hown, hts⟩ (mL_below l D cy ((xv >>> ((nI i) &&& 31)) + (nI (5 * i))) 61 (by decide) (by decide)) (va_cwS 2 hts gL_act_L_below rfl rfl rfl (by decide +kernel) ⟨Nat.le_of_ble_eq_true rfl, Nat.le_of_ble_eq_true rfl⟩) ⟨fun a U g mk q => q, fun U hU hW => ⟨rfl, trivial⟩⟩ rfl rfl hl.1 rfl (lv_room (Nat.le_of_ble_eq_true rfl)) dL_act_432 ⟨Nat.le_of_ble_eq_true rfl, Nat.le_of_ble_eq_true rfl⟩) (fun r9 hr9 => ?_)
                  obtain ⟨k432, hk432, rfl⟩ := hr9
                  refine lv_iadd hx hb dL_act_435 ?_
                  refine lv_iload_n hx hb dL_act_436 rfl (lv_at hl 2 rfl) ?_
                  refine lv_bipush (v := 6) hx hb dL_act_437 (by decide) ?_
                  refine lv_ishr hx hb dL_act_439 ?_
                  refine lv_iconst (v := 2) hx hb dL_act_440 (by decide) ?_
                  refine pc_calli (va_runS (As := [.int (xv >>> (6 &&& 31)), .int 2]) (rest := [.int ((nI tt) + (nI k432)), .int 1, .int (nI i), .ref r371]) ⟨hx, hb, hml, hown, hts⟩ (mL_below l D cy (xv >>> (6 &&& 31)) 2 (by decide) (by decide)) (va_cwS 2 hts gL_act_L_below rfl rfl rfl (by decide +kernel) ⟨Nat.le_of_ble_eq_true rfl, Nat.le_of_ble_eq_true rfl⟩) ⟨fun a U g mk q => q, fun U hU hW => ⟨rfl, trivial⟩⟩ rfl rfl hl.1 rfl (lv_room (Nat.le_of_ble_eq_true rfl)) dL_act_441 ⟨Nat.le_of_ble_eq_true rfl, Nat.le_of_ble_eq_true rfl⟩) (fun r9 hr9 => ?_)
                  obtain ⟨k441, hk441, rfl⟩ := hr9
                  refine lv_if_ne (tgt := 451) hx hb dL_act_444 (by decide) (fun c444 => ?_) (fun c444 => ?_)
                  · have n444 : ¬ (k441 = 0) := fun h9 => c444 ((nI_eq (a := k441) (b := 0) (by omega) (by omega)).mpr h9)
                    refine lv_bipush (v := 30) hx hb dL_act_451 (by decide) ?_
                    refine lv_isub hx hb dL_act_453 ?_
                    refine va_mmax hx hb (by rw [hml]; exact hl.1.symm) hown (hts _ kL_act_6) (hts _ kL_act_7) (hts _ kL_act_8) (hts _ kL_act_9) (Nat.le_of_ble_eq_true rfl) (Nat.le_of_ble_eq_true rfl) (Nat.le_of_ble_eq_true rfl) (Nat.le_of_ble_eq_true rfl) dL_act_454 ?_
                    refine pc_top (show (if 1 < (((nI tt) + (nI k432)) - 30) then (((nI tt) + (nI k432)) - 30) else 1) = mx 1 (((nI tt) + (nI k432)) - 30) from rfl) ?_
                    obtain ⟨v9, hv1, hv2, ev9⟩ := made_b (t := tt) (r := k432) (c := 30) htt (by omega) (by decide)
                    refine pc_top (show mx 1 (((nI tt) + (nI k432)) - 30) = nI v9 from ev9) ?_
                    refine pc_iast hx hb hK hP hD hS 0 0 rfl rfl (k := i) (show i < 3 by omega) (by decide) dL_act_457 (fun H locs hP hD hS => ?_)
                    have hP : va_P D vwCl (([(r371, .inl ((cy 0), 3, .inl (upd M i (nI v9))))] : va_W) ++ (wS5 cy b sa st ch (un u) (uw u) (ud u) (nI (zh (uh u))) (zl (uh u)) ++ (rows12 cy st 6 (rowS (uh u)) ++ (wX cy a q q2 ca ta u g ++ chT cy ch u)))) H := hP
                    have hD : va_D A (([(r371, .inl ((cy 0), 3, .inl (upd M i (nI v9))))] : va_W) ++ (wS5 cy b sa st ch (un u) (uw u) (ud u) (nI (zh (uh u))) (zl (uh u)) ++ (rows12 cy st 6 (rowS (uh u)) ++ (wX cy a q q2 ca ta u g ++ chT cy ch u)))) := hD
                    refine lv_iinc (v := nI (i + 1)) (lv' := [(10, .int (nI (i + 1))), (0, .ref (a 0)), (1, .ref b), (2, .int xv), (3, .int (nI k3)), (8, .int 2), (9, .ref r371)]) hx hb dL_act_458 hl (k := 6) rfl ((show (nI i) + Int32.ofInt 1 = (nI i) + 1 from rfl).trans (show (nI i) + 1 = nI (i + 1) from nI_add i 1)) (by decide) rfl (fun ls hl => ?_)
                    refine lv_goto (tgt := 383) hx hb dL_act_461 (by decide) ?_
                    exact ih383 (i + 1) (upd M i (nI v9)) (⟨by omega, by omega⟩) ((pk_un (by omega)).trans hM0) (made_s hM hv1 hv2) (by omega) _ _ hP hD hS ls (lv_sub hl [1, 2, 3, 4, 5, 6, 0] rfl)
                  · have n444 : k441 = 0 := (nI_eq (a := k441) (b := 0) (by omega) (by omega)).mp c444
                    refine lv_iconst (v := 4) hx hb dL_act_447 (by decide) ?_
                    refine lv_goto (tgt := 453) hx hb dL_act_448 (by decide) ?_
                    refine lv_isub hx hb dL_act_453 ?_
                    refine va_mmax hx hb (by rw [hml]; exact hl.1.symm) hown (hts _ kL_act_6) (hts _ kL_act_7) (hts _ kL_act_8) (hts _ kL_act_9) (Nat.le_of_ble_eq_true rfl) (Nat.le_of_ble_eq_true rfl) (Nat.le_of_ble_eq_true rfl) (Nat.le_of_ble_eq_true rfl) dL_act_454 ?_
                    refine pc_top (show (if 1 < (((nI tt) + (nI k432)) - 4) then (((nI tt) + (nI k432)) - 4) else 1) = mx 1 (((nI tt) + (nI k432)) - 4) from rfl) ?_
                    obtain ⟨v9, hv1, hv2, ev9⟩ := made_b (t := tt) (r := k432) (c := 4) htt (by omega) (by decide)
                    refine pc_top (show mx 1 (((nI tt) + (nI k432)) - 4) = nI v9 from ev9) ?_
                    refine pc_iast hx hb hK hP hD hS 0 0 rfl rfl (k := i) (show i < 3 by omega) (by decide) dL_act_457 (fun H locs hP hD hS => ?_)
                    have hP : va_P D vwCl (([(r371, .inl ((cy 0), 3, .inl (upd M i (nI v9))))] : va_W) ++ (wS5 cy b sa st ch (un u) (uw u) (ud u) (nI (zh (uh u))) (zl (uh u)) ++ (rows12 cy st 6 (rowS (uh u)) ++ (wX cy a q q2 ca ta u g ++ chT cy ch u)))) H := hP
                    have hD : va_D A (([(r371, .inl ((cy 0), 3, .inl (upd M i (nI v9))))] : va_W) ++ (wS5 cy b sa st ch (un u) (uw u) (ud u) (nI (zh (uh u))) (zl (uh u)) ++ (rows12 cy st 6 (rowS (uh u)) ++ (wX cy a q q2 ca ta u g ++ chT cy ch u)))) := hD
                    refine lv_iinc (v := nI (i + 1)) (lv' := [(10, .int (nI (i + 1))), (0, .ref (a 0)), (1, .ref b), (2, .int xv), (3, .int (nI k3)), (8, .int 2), (9, .ref r371)]) hx hb dL_act_458 hl (k := 6) rfl ((show (nI i) + Int32.ofInt 1 = (nI i) + 1 from rfl).trans (show (nI i) + 1 = nI (i + 1) from nI_add i 1)) (by decide) rfl (fun ls hl => ?_)
                    refine lv_goto (tgt := 383) hx hb dL_act_461 (by decide) ?_
                    exact ih383 (i + 1) (upd M i (nI v9)) (⟨by omega, by omega⟩) ((pk_un (by omega)).trans hM0) (made_s hM hv1 hv2) (by omega) _ _ hP hD hS ls (lv_sub hl [1, 2, 3, 4, 5, 6, 0] rfl)
                · have n422 : k419 = 0 := (nI_eq (a := k419) (b := 0) (by omega) (by omega)).mp c422
                  refine lv_bipush (v := 9) hx hb dL_act_425 (by decide) ?_
                  refine lv_goto (tgt := 432) hx hb dL_act_427 (by decide) ?_
                  refine pc_calli (va_runS (As := [.int ((xv >>> ((nI i) &&& 31)) + (nI (5 * i))), .int 9]) (rest := [.int (nI tt), .int 1, .int (nI i), .ref r371]) ⟨hx, hb, hml, hown, hts⟩ (mL_below l D cy ((xv >>> ((nI i) &&& 31)) + (nI (5 * i))) 9 (by decide) (by decide)) (va_cwS 2 hts gL_act_L_below rfl rfl rfl (by decide +kernel) ⟨Nat.le_of_ble_eq_true rfl, Nat.le_of_ble_eq_true rfl⟩) ⟨fun a U g mk q => q, fun U hU hW => ⟨rfl, trivial⟩⟩ rfl rfl hl.1 rfl (lv_room (Nat.le_of_ble_eq_true rfl)) dL_act_432 ⟨Nat.le_of_ble_eq_true rfl, Nat.le_of_ble_eq_true rfl⟩) (fun r9 hr9 => ?_)
                  obtain ⟨k432, hk432, rfl⟩ := hr9
                  refine lv_iadd hx hb dL_act_435 ?_
                  refine lv_iload_n hx hb dL_act_436 rfl (lv_at hl 2 rfl) ?_
                  refine lv_bipush (v := 6) hx hb dL_act_437 (by decide) ?_
                  refine lv_ishr hx hb dL_act_439 ?_
                  refine lv_iconst (v := 2) hx hb dL_act_440 (by decide) ?_
                  refine pc_calli (va_runS (As := [.int (xv >>> (6 &&& 31)), .int 2]) (rest := [.int ((nI tt) + (nI k432)), .int 1, .int (nI i), .ref r371]) ⟨hx, hb, hml, hown, hts⟩ (mL_below l D cy (xv >>> (6 &&& 31)) 2 (by decide) (by decide)) (va_cwS 2 hts gL_act_L_below rfl rfl rfl (by decide +kernel) ⟨Nat.le_of_ble_eq_true rfl, Nat.le_of_ble_eq_true rfl⟩) ⟨fun a U g mk q => q, fun U hU hW => ⟨rfl, trivial⟩⟩ rfl rfl hl.1 rfl (lv_room (Nat.le_of_ble_eq_true rfl)) dL_act_441 ⟨Nat.le_of_ble_eq_true rfl, Nat.le_of_ble_eq_true rfl⟩) (fun r9 hr9 => ?_)
                  obtain ⟨k441, hk441, rfl⟩ := hr9
                  refine lv_if_ne (tgt := 451) hx hb dL_act_444 (by decide) (fun c444 => ?_) (fun c444 => ?_)
                  · have n444 : ¬ (k441 = 0) := fun h9 => c444 ((nI_eq (a := k441) (b := 0) (by omega) (by omega)).mpr h9)
                    refine lv_bipush (v := 30) hx hb dL_act_451 (by decide) ?_
                    refine lv_isub hx hb dL_act_453 ?_
                    refine va_mmax hx hb (by rw [hml]; exact hl.1.symm) hown (hts _ kL_act_6) (hts _ kL_act_7) (hts _ kL_act_8) (hts _ kL_act_9) (Nat.le_of_ble_eq_true rfl) (Nat.le_of_ble_eq_true rfl) (Nat.le_of_ble_eq_true rfl) (Nat.le_of_ble_eq_true rfl) dL_act_454 ?_
                    refine pc_top (show (if 1 < (((nI tt) + (nI k432)) - 30) then (((nI tt) + (nI k432)) - 30) else 1) = mx 1 (((nI tt) + (nI k432)) - 30) from rfl) ?_
                    obtain ⟨v9, hv1, hv2, ev9⟩ := made_b (t := tt) (r := k432) (c := 30) htt (by omega) (by decide)
                    refine pc_top (show mx 1 (((nI tt) + (nI k432)) - 30) = nI v9 from ev9) ?_
                    refine pc_iast hx hb hK hP hD hS 0 0 rfl rfl (k := i) (show i < 3 by omega) (by decide) dL_act_457 (fun H locs hP hD hS => ?_)
                    have hP : va_P D vwCl (([(r371, .inl ((cy 0), 3, .inl (upd M i (nI v9))))] : va_W) ++ (wS5 cy b sa st ch (un u) (uw u) (ud u) (nI (zh (uh u))) (zl (uh u)) ++ (rows12 cy st 6 (rowS (uh u)) ++ (wX cy a q q2 ca ta u g ++ chT cy ch u)))) H := hP
                    have hD : va_D A (([(r371, .inl ((cy 0), 3, .inl (upd M i (nI v9))))] : va_W) ++ (wS5 cy b sa st ch (un u) (uw u) (ud u) (nI (zh (uh u))) (zl (uh u)) ++ (rows12 cy st 6 (rowS (uh u)) ++ (wX cy a q q2 ca ta u g ++ chT cy ch u)))) := hD
                    refine lv_iinc (v := nI (i + 1)) (lv' := [(10, .int (nI (i + 1))), (0, .ref (a 0)), (1, .ref b), (2, .int xv), (3, .int (nI k3)), (8, .int 2), (9, .ref r371)]) hx hb dL_act_458 hl (k := 6) rfl ((show (nI i) + Int32.ofInt 1 = (nI i) + 1 from rfl).trans (show (nI i) + 1 = nI (i + 1) from nI_add i 1)) (by decide) rfl (fun ls hl => ?_)
                    refine lv_goto (tgt := 383) hx hb dL_act_461 (by decide) ?_
                    exact ih383 (i + 1) (upd M i (nI v9)) (⟨by omega, by omega⟩) ((pk_un (by omega)).trans hM0) (made_s hM hv1 hv2) (by omega) _ _ hP hD hS ls (lv_sub hl [1, 2, 3, 4, 5, 6, 0] rfl)
                  · have n444 : k441 = 0 := (nI_eq (a := k441) (b := 0) (by omega) (by omega)).mp c444
                    refine lv_iconst (v := 4) hx hb dL_act_447 (by decide) ?_
                    refine lv_goto (tgt := 453) hx hb dL_act_448 (by decide) ?_
                    refine lv_isub hx hb dL_act_453 ?_
                    refine va_mmax hx hb (by rw [hml]; exact hl.1.symm) hown (hts _ kL_act_6) (hts _ kL_act_7) (hts _ kL_act_8) (hts _ kL_act_9) (Nat.le_of_ble_eq_true rfl) (Nat.le_of_ble_eq_true rfl) (Nat.le_of_ble_eq_true rfl) (Nat.le_of_ble_eq_true rfl) dL_act_454 ?_
                    refine pc_top (show (if 1 < (((nI tt) + (nI k432)) - 4) then (((nI tt) + (nI k432)) - 4) else 1) = mx 1 (((nI tt) + (nI k432)) - 4) from rfl) ?_
                    obtain ⟨v9, hv1, hv2, ev9⟩ := made_b (t := tt) (r := k432) (c := 4) htt (by omega) (by decide)
                    refine pc_top (show mx 1 (((nI tt) + (nI k432)) - 4) = nI v9 from ev9) ?_
                    refine pc_iast hx hb hK hP hD hS 0 0 rfl rfl (k := i) (show i < 3 by omega) (by decide) dL_act_457 (fun H locs hP hD hS => ?_)
                    have hP : va_P D vwCl (([(r371, .inl ((cy 0), 3, .inl (upd M i (nI v9))))] : va_W) ++ (wS5 cy b sa st ch (un u) (uw u) (ud u) (nI (zh (uh u))) (zl (uh u)) ++ (rows12 cy st 6 (rowS (uh u)) ++ (wX cy a q q2 ca ta u g ++ chT cy ch u)))) H := hP
                    have hD : va_D A (([(r371, .inl ((cy 0), 3, .inl (upd M i (nI v9))))] : va_W) ++ (wS5 cy b sa st ch (un u) (uw u) (ud u) (nI (zh (uh u))) (zl (uh u)) ++ (rows12 cy st 6 (rowS (uh u)) ++ (wX cy a q q2 ca ta u g ++ chT cy ch u)))) := hD
                    refine lv_iinc (v := nI (i + 1)) (lv' := [(10, .int (nI (i + 1))), (0, .ref (a 0)), (1, .ref b), (2, .int xv), (3, .int (nI k3)), (8, .int 2), (9, .ref r371)]) hx hb dL_act_458 hl (k := 6) rfl ((show (nI i) + Int32.ofInt 1 = (nI i) + 1 from rfl).trans (show (nI i) + 1 = nI (i + 1) from nI_add i 1)) (by decide) rfl (fun ls hl => ?_)
                    refine lv_goto (tgt := 383) hx hb dL_act_461 (by decide) ?_
                    exact ih383 (i + 1) (upd M i (nI v9)) (⟨by omega, by omega⟩) ((pk_un (by omega)).trans hM0) (made_s hM hv1 hv2) (by omega) _ _ hP hD hS ls (lv_sub hl [1, 2, 3, 4, 5, 6, 0] rfl)
          exact loop383 (3 + 1) 1 (upd (fun _ => 0) 0 (nI k3)) (⟨Nat.le_refl _, by decide⟩) pk_us (fun j h1 h2 => absurd h2 (by omega)) (by omega) _ _ hP hD hS ls (lv_sub hl [5, 6, 7, 4, 2, 1, 0] rfl)
        · have n362 : ¬ (k3 + 2 ≤ 12) := fun h9 => c362 ((nI_leI (a := k3 + 2) (b := 12) (by omega) (by omega)).mpr h9)
          refine lv_iconst (v := 1) hx hb dL_act_365 (by decide) ?_
          have hP9 : va_P D vwCl (wSu cy b ((u, sa, st, ch) : US × (Nat → Nat) × (Nat → Nat) × (Nat → Nat)).2.1 ((u, sa, st, ch) : US × (Nat → Nat) × (Nat → Nat) × (Nat → Nat)).2.2.1 ((u, sa, st, ch) : US × (Nat → Nat) × (Nat → Nat) × (Nat → Nat)).2.2.2 ((u, sa, st, ch) : US × (Nat → Nat) × (Nat → Nat) × (Nat → Nat)).1 ++ (wSr cy ((u, sa, st, ch) : US × (Nat → Nat) × (Nat → Nat) × (Nat → Nat)).2.2.1 ((u, sa, st, ch) : US × (Nat → Nat) × (Nat → Nat) × (Nat → Nat)).1 ++ (wX cy a q q2 ca ta ((u, sa, st, ch) : US × (Nat → Nat) × (Nat → Nat) × (Nat → Nat)).1 g ++ chT cy ((u, sa, st, ch) : US × (Nat → Nat) × (Nat → Nat) × (Nat → Nat)).2.2.2 ((u, sa, st, ch) : US × (Nat → Nat) × (Nat → Nat) × (Nat → Nat)).1))) s.heap := (pM_dropP hP)
          have hD9 : va_D A (wSu cy b ((u, sa, st, ch) : US × (Nat → Nat) × (Nat → Nat) × (Nat → Nat)).2.1 ((u, sa, st, ch) : US × (Nat → Nat) × (Nat → Nat) × (Nat → Nat)).2.2.1 ((u, sa, st, ch) : US × (Nat → Nat) × (Nat → Nat) × (Nat → Nat)).2.2.2 ((u, sa, st, ch) : US × (Nat → Nat) × (Nat → Nat) × (Nat → Nat)).1 ++ (wSr cy ((u, sa, st, ch) : US × (Nat → Nat) × (Nat → Nat) × (Nat → Nat)).2.2.1 ((u, sa, st, ch) : US × (Nat → Nat) × (Nat → Nat) × (Nat → Nat)).1 ++ (wX cy a q q2 ca ta ((u, sa, st, ch) : US × (Nat → Nat) × (Nat → Nat) × (Nat → Nat)).1 g ++ chT cy ((u, sa, st, ch) : US × (Nat → Nat) × (Nat → Nat) × (Nat → Nat)).2.2.2 ((u, sa, st, ch) : US × (Nat → Nat) × (Nat → Nat) × (Nat → Nat)).1))) := (pM_dropD hD)
          refine W.widen (k := 8) (n := 48) (Nat.le_of_ble_eq_true rfl) (Nat.le_of_ble_eq_true rfl) ?_
          exact W.zret (v := 1) hx hb hr (by decide) (fun t ht hW => ⟨⟨1, ((u, sa, st, ch) : US × (Nat → Nat) × (Nat → Nat) × (Nat → Nat)), rfl, ⟨rfl, I, rfl⟩, by rw [ht]; exact hP9, hD9⟩, hS.F ht⟩) hS.2.2 dL_act_366
      · skip
        refine lv_iadd hx hb dL_act_353 ?_
        refine pc_top (show 2 + (nI 1) = 3 from (by decide)) ?_
        refine lv_istore (lv' := [(8, .int 3), (4, .ref (st k3)), (3, .int (nI k3)), (0, .ref (a 0)), (1, .ref b), (2, .int xv)]) hx hb dL_act_354 hl (by decide) rfl (fun ls hl => ?_)
        refine lv_iload_n hx hb dL_act_356 rfl (lv_at hl 2 rfl) ?_
        refine lv_iload hx hb dL_act_357 (lv_at hl 0 rfl) ?_
        refine lv_iadd hx hb dL_act_359 ?_
        refine pc_top (show (nI k3) + 3 = nI (k3 + 3) from nI_add k3 3) ?_
        refine lv_bipush (v := 12) hx hb dL_act_360 (by decide) ?_
        refine lv_icmp_le (tgt := 367) hx hb dL_act_362 (by decide) (fun c362 => ?_) (fun c362 => ?_)
        · have n362 : k3 + 3 ≤ 12 := (nI_leI (a := k3 + 3) (b := 12) (by omega) (by omega)).mp c362
          refine lv_iconst (v := 1) hx hb dL_act_367 (by decide) ?_
          refine lv_iload hx hb dL_act_368 (lv_at hl 0 rfl) ?_
          refine lv_iadd hx hb dL_act_370 ?_
          refine pc_top (show 1 + 3 = 4 from (by decide)) ?_
          refine pc_newaF (atype := .int) (ty := .int) (N' := 4) (a0 := (4, .inl (fun _ => 0))) hx hb (hts _ kL_act_1) rfl hK hP hD hS hA 0 rfl (fun _ => rfl) (by decide) (by decide) (by decide) (Nat.le_of_ble_eq_true rfl) (Nat.le_of_ble_eq_true rfl) dL_act_371 (fun r371 H hP hD hS => ?_)
          have hP : va_P D vwCl (([(r371, .inl ((cy 0), 4, .inl (fun _ => 0)))] : va_W) ++ (wS5 cy b sa st ch (un u) (uw u) (ud u) (nI (zh (uh u))) (zl (uh u)) ++ (rows12 cy st 6 (rowS (uh u)) ++ (wX cy a q q2 ca ta u g ++ chT cy ch u)))) H := hP
          have hD : va_D A (([(r371, .inl ((cy 0), 4, .inl (fun _ => 0)))] : va_W) ++ (wS5 cy b sa st ch (un u) (uw u) (ud u) (nI (zh (uh u))) (zl (uh u)) ++ (rows12 cy st 6 (rowS (uh u)) ++ (wX cy a q q2 ca ta u g ++ chT cy ch u)))) := hD
          refine W.widen (k := 1) (n := 4) (Nat.le_of_ble_eq_true rfl) (Nat.le_of_ble_eq_true rfl) ?_
          refine lv_astore (lv' := [(9, .ref r371), (8, .int 3), (4, .ref (st k3)), (3, .int (nI k3)), (0, .ref (a 0)), (1, .ref b), (2, .int xv)]) hx hb dL_act_373 hl (by decide) rfl (fun ls hl => ?_)
          refine lv_aload hx hb dL_act_375 (lv_at hl 0 rfl) ?_
          refine lv_iconst (v := 0) hx hb dL_act_377 (by decide) ?_
          refine lv_iload_n hx hb dL_act_378 rfl (lv_at hl 3 rfl) ?_
          refine pc_iast hx hb hK hP hD hS 0 0 rfl rfl (k := 0) (show 0 < 4 by omega) (by decide) dL_act_379 (fun H locs hP hD hS => ?_)
          have hP : va_P D vwCl (([(r371, .inl ((cy 0), 4, .inl (upd (fun _ => 0) 0 (nI k3))))] : va_W) ++ (wS5 cy b sa st ch (un u) (uw u) (ud u) (nI (zh (uh u))) (zl (uh u)) ++ (rows12 cy st 6 (rowS (uh u)) ++ (wX cy a q q2 ca ta u g ++ chT cy ch u)))) H := hP
          have hD : va_D A (([(r371, .inl ((cy 0), 4, .inl (upd (fun _ => 0) 0 (nI k3))))] : va_W) ++ (wS5 cy b sa st ch (un u) (uw u) (ud u) (nI (zh (uh u))) (zl (uh u)) ++ (rows12 cy st 6 (rowS (uh u)) ++ (wX cy a q q2 ca ta u g ++ chT cy ch u)))) := hD
          refine lv_iconst (v := 1) hx hb dL_act_380 (by decide) ?_
          refine lv_istore (lv' := [(10, .int 1), (9, .ref r371), (8, .int 3), (4, .ref (st k3)), (3, .int (nI k3)), (0, .ref (a 0)), (1, .ref b), (2, .int xv)]) hx hb dL_act_381 hl (by decide) rfl (fun ls hl => ?_)
          have loop383 : ∀ (n9 : Nat) (i : Nat) (M : Nat → Int32), (1 ≤ i ∧ i ≤ 4) → M 0 = nI k3 → (∀ j, 1 ≤ j → j < i → ∃ t, 1 ≤ t ∧ t ≤ 1500 ∧ M j = nI t) → 4 - i < n9 → ∀ (H : Heap) (locs : List Loc), va_P D vwCl (([(r371, .inl ((cy 0), 4, .inl M))] : va_W) ++ (wS5 cy b sa st ch (un u) (uw u) (ud u) (nI (zh (uh u))) (zl (uh u)) ++ (rows12 cy st 6 (rowS (uh u)) ++ (wX cy a q q2 ca ta u g ++ chT cy ch u)))) H → va_D A (([(r371, .inl ((cy 0), 4, .inl M))] : va_W) ++ (wS5 cy b sa st ch (un u) (uw u) (ud u) (nI (zh (uh u))) (zl (uh u)) ++ (rows12 cy st 6 (rowS (uh u)) ++ (wX cy a q q2 ca ta u g ++ chT cy ch u)))) → va_S A s.heap H locs → ∀ ls : Array Slot, lv_has ls 12 [(0, .ref (a 0)), (1, .ref b), (2, .int xv), (3, .int (nI k3)), (8, .int 3), (9, .ref r371), (10, .int (nI i))] → W p l e (headSpec wsL_act ({ frames := 12, cells := 8, slots := 48, locals := 300 } : Room)).room s m ([.ref (a 0), .ref b, .int xv] : List Value).toArray below meth c H locs 1 4 (MQ below (va_Qi (fun (r8 : Int32) (z9 : US × (Nat → Nat) × (Nat → Nat) × (Nat → Nat)) => r8 = 1 ∧ INV z9.1 ∧ zh (uh z9.1) = zh (uh u)) (fun (z9 : US × (Nat → Nat) × (Nat → Nat) × (Nat → Nat)) t => va_P D vwCl (wSu cy b z9.2.1 z9.2.2.1 z9.2.2.2 z9.1 ++ (wSr cy z9.2.2.1 z9.1 ++ (wX cy a q q2 ca ta z9.1 g ++ chT cy z9.2.2.2 z9.1))) t.heap ∧ va_D A (wSu cy b z9.2.1 z9.2.2.1 z9.2.2.2 z9.1 ++ (wSr cy z9.2.2.1 z9.1 ++ (wX cy a q q2 ca ta z9.1 g ++ chT cy z9.2.2.2 z9.1)))) A) ([.ref (a 0), .ref b, .int xv] : List Value).toArray s 8 48 A) (F0 m 383 ls []) := by
            intro n9
            induction n9 with
            | zero => intro i M hi hM0 hM h9 H locs hP hD hS ls hl; exact absurd h9 (by omega)
            | succ n9 ih383 =>
              intro i M hi hM0 hM h9 H locs hP hD hS ls hl
              refine lv_iload hx hb dL_act_383 (lv_at hl 6 rfl) ?_
              refine lv_iload hx hb dL_act_385 (lv_at hl 4 rfl) ?_
              refine lv_icmp_gt (tgt := 464) hx hb dL_act_387 (by decide) (fun c387 => ?_) (fun c387 => ?_)
              · have n387 : 3 < i := (nI_ltI (a := 3) (b := i) (by omega) (by omega)).mp c387
                refine lv_aload_n hx hb dL_act_464 rfl (lv_at hl 1 rfl) ?_
                refine va_get (D := D) (ci := 3) (v := .ref (sa 1)) (C := RX3) (T := TX3) (N := 6) hx hb hts inL_act_RX3 hown hK hP 1 rfl rfl 1 (by decide) (hts _ kL_act_4) (fun _ h9 => h9) rfl dL_act_465 ?_
                refine pc_alenA hx hb hkp hP 3 rfl (v := nI (un u)) rfl dL_act_468 ?_
                refine lv_iconst (v := 1) hx hb dL_act_469 (by decide) ?_
                refine lv_iadd hx hb dL_act_470 ?_
                refine pc_top (show (nI (un u)) + 1 = nI (un u + 1) from nI_add (un u) 1) ?_
                refine pc_newqAF hx hb hown (hts _ kL_act_5) hkp hP hD hS hA (N' := un u + 1) (nI_neg (show un u + 1 < 2147483648 by omega)) (nI_clamp (show un u + 1 < 2147483648 by omega)) (show (un u + 1) * 4 ≤ 536870912 by omega) (show 1 + 1 ≤ 8 by omega) (show 4 + un u + 1 ≤ 48 by omega) dL_act_471 (fun r471 H hP hD hS => ?_)
                have hP : va_P D vwCl (([(r471, .inl ((cy 4), un u + 1, .inr (.inr (.inr (.inr (fun _ => none)))))), (r371, .inl ((cy 0), 4, .inl M))] : va_W) ++ (wS5 cy b sa st ch (un u) (uw u) (ud u) (nI (zh (uh u))) (zl (uh u)) ++ (rows12 cy st 6 (rowS (uh u)) ++ (wX cy a q q2 ca ta u g ++ chT cy ch u)))) H := hP
                have hD : va_D A (([(r471, .inl ((cy 4), un u + 1, .inr (.inr (.inr (.inr (fun _ => none)))))), (r371, .inl ((cy 0), 4, .inl M))] : va_W) ++ (wS5 cy b sa st ch (un u) (uw u) (ud u) (nI (zh (uh u))) (zl (uh u)) ++ (rows12 cy st 6 (rowS (uh u)) ++ (wX cy a q q2 ca ta u g ++ chT cy ch u)))) := hD
                refine W.widen (k := 2) (n := 10) (by omega) (by omega) ?_
                refine lv_astore (lv' := [(10, .ref r471), (0, .ref (a 0)), (1, .ref b), (2, .int xv), (3, .int (nI k3)), (8, .int 3), (9, .ref r371)]) hx hb dL_act_474 hl (by decide) rfl (fun ls hl => ?_)
                have e9 : ((fun _ => none)) = cpF ch 0 := (cpF_0 _)
                rw [e9] at hP hD
                clear e9
                have hP : va_P D vwCl (([(r471, .inl ((cy 4), un u + 1, .inr (.inr (.inr (.inr (cpF ch 0)))))), (r371, .inl ((cy 0), 4, .inl M))] : va_W) ++ (wS5 cy b sa st ch (un u) (uw u) (ud u) (nI (zh (uh u))) (zl (uh u)) ++ (rows12 cy st 6 (rowS (uh u)) ++ (wX cy a q q2 ca ta u g ++ chT cy ch u)))) H := hP
                have hD : va_D A (([(r471, .inl ((cy 4), un u + 1, .inr (.inr (.inr (.inr (cpF ch 0)))))), (r371, .inl ((cy 0), 4, .inl M))] : va_W) ++ (wS5 cy b sa st ch (un u) (uw u) (ud u) (nI (zh (uh u))) (zl (uh u)) ++ (rows12 cy st 6 (rowS (uh u)) ++ (wX cy a q q2 ca ta u g ++ chT cy ch u)))) := hD
                refine lv_iconst (v := 0) hx hb dL_act_476 (by decide) ?_
                refine lv_istore (lv' := [(11, .int 0), (10, .ref r471), (0, .ref (a 0)), (1, .ref b), (2, .int xv), (3, .int (nI k3)), (8, .int 3), (9, .ref r371)]) hx hb dL_act_477 hl (by decide) rfl (fun ls hl => ?_)
                have loop479 : ∀ (n9 : Nat) (jj : Nat), jj ≤ un u → un u - jj < n9 → ∀ (H : Heap) (locs : List Loc), va_P D vwCl (([(r471, .inl ((cy 4), un u + 1, .inr (.inr (.inr (.inr (cpF ch jj)))))), (r371, .inl ((cy 0), 4, .inl M))] : va_W) ++ (wS5 cy b sa st ch (un u) (uw u) (ud u) (nI (zh (uh u))) (zl (uh u)) ++ (rows12 cy st 6 (rowS (uh u)) ++ (wX cy a q q2 ca ta u g ++ chT cy ch u)))) H → va_D A (([(r471, .inl ((cy 4), un u + 1, .inr (.inr (.inr (.inr (cpF ch jj)))))), (r371, .inl ((cy 0), 4, .inl M))] : va_W) ++ (wS5 cy b sa st ch (un u) (uw u) (ud u) (nI (zh (uh u))) (zl (uh u)) ++ (rows12 cy st 6 (rowS (uh u)) ++ (wX cy a q q2 ca ta u g ++ chT cy ch u)))) → va_S A s.heap H locs → ∀ ls : Array Slot, lv_has ls 12 [(0, .ref (a 0)), (1, .ref b), (2, .int xv), (3, .int (nI k3)), (8, .int 3), (9, .ref r371), (10, .ref r471), (11, .int (nI jj))] → W p l e (headSpec wsL_act ({ frames := 12, cells := 8, slots := 48, locals := 300 } : Room)).room s m ([.ref (a 0), .ref b, .int xv] : List Value).toArray below meth c H locs 2 10 (MQ below (va_Qi (fun (r8 : Int32) (z9 : US × (Nat → Nat) × (Nat → Nat) × (Nat → Nat)) => r8 = 1 ∧ INV z9.1 ∧ zh (uh z9.1) = zh (uh u)) (fun (z9 : US × (Nat → Nat) × (Nat → Nat) × (Nat → Nat)) t => va_P D vwCl (wSu cy b z9.2.1 z9.2.2.1 z9.2.2.2 z9.1 ++ (wSr cy z9.2.2.1 z9.1 ++ (wX cy a q q2 ca ta z9.1 g ++ chT cy z9.2.2.2 z9.1))) t.heap ∧ va_D A (wSu cy b z9.2.1 z9.2.2.1 z9.2.2.2 z9.1 ++ (wSr cy z9.2.2.1 z9.1 ++ (wX cy a q q2 ca ta z9.1 g ++ chT cy z9.2.2.2 z9.1)))) A) ([.ref (a 0), .ref b, .int xv] : List Value).toArray s 8 48 A) (F0 m 479 ls []) := by
                  intro n9
                  induction n9 with
                  | zero => intro jj hjj h9 H locs hP hD hS ls hl; exact absurd h9 (by omega)
                  | succ n9 ih479 =>
                    intro jj hjj h9 H locs hP hD hS ls hl
                    refine lv_iload hx hb dL_act_479 (lv_at hl 7 rfl) ?_
                    refine lv_aload_n hx hb dL_act_481 rfl (lv_at hl 1 rfl) ?_
                    refine va_get (D := D) (ci := 3) (v := .ref (sa 1)) (C := RX3) (T := TX3) (N := 6) hx hb hts inL_act_RX3 hown hK hP 2 rfl rfl 1 (by decide) (hts _ kL_act_4) (fun _ h9 => h9) rfl dL_act_482 ?_
                    refine pc_alenA hx hb hkp hP 4 rfl (v := nI (un u)) rfl dL_act_485 ?_
                    refine lv_icmp_ge (tgt := 507) hx hb dL_act_486 (by decide) (fun c486 => ?_) (fun c486 => ?_)
                    · have n486 : un u ≤ jj := (nI_leI (a := un u) (b := jj) (by omega) (by omega)).mp c486
                      have e9 : (cpF ch jj) = cpF ch (un u) := (by rw [show jj = un u by omega])
                      rw [e9] at hP hD
                      clear e9
                      have hP : va_P D vwCl (([(r471, .inl ((cy 4), un u + 1, .inr (.inr (.inr (.inr (cpF ch (un u))))))), (r371, .inl ((cy 0), 4, .inl M))] : va_W) ++ (wS5 cy b sa st ch (un u) (uw u) (ud u) (nI (zh (uh u))) (zl (uh u)) ++ (rows12 cy st 6 (rowS (uh u)) ++ (wX cy a q q2 ca ta u g ++ chT cy ch u)))) H := hP
                      have hD : va_D A (([(r471, .inl ((cy 4), un u + 1, .inr (.inr (.inr (.inr (cpF ch (un u))))))), (r371, .inl ((cy 0), 4, .inl M))] : va_W) ++ (wS5 cy b sa st ch (un u) (uw u) (ud u) (nI (zh (uh u))) (zl (uh u)) ++ (rows12 cy st 6 (rowS (uh u)) ++ (wX cy a q q2 ca ta u g ++ chT cy ch u)))) := hD
                      refine lv_aload hx hb dL_act_507 (lv_at hl 6 rfl) ?_
                      refine lv_aload_n hx hb dL_act_509 rfl (lv_at hl 1 rfl) ?_
                      refine va_get (D := D) (ci := 3) (v := .ref (sa 1)) (C := RX3) (T := TX3) (N := 6) hx hb hts inL_act_RX3 hown hK hP 2 rfl rfl 1 (by decide) (hts _ kL_act_4) (fun _ h9 => h9) rfl dL_act_510 ?_
                      refine pc_alenA hx hb hkp hP 4 rfl (v := nI (un u)) rfl dL_act_513 ?_
                      refine lv_aload hx hb dL_act_514 (lv_at hl 5 rfl) ?_
                      refine pc_astA hx hb hK hkp hP hD hS 0 1 rfl rfl (k := un u) (show un u < un u + 1 by omega) (by omega) dL_act_516 (fun H locs hP hD hS => ?_)
                      have hP : va_P D vwCl (([(r471, .inl ((cy 4), un u + 1, .inr (.inr (.inr (.inr (va_up (cpF ch (un u)) (un u) (some r371))))))), (r371, .inl ((cy 0), 4, .inl M))] : va_W) ++ (wS5 cy b sa st ch (un u) (uw u) (ud u) (nI (zh (uh u))) (zl (uh u)) ++ (rows12 cy st 6 (rowS (uh u)) ++ (wX cy a q q2 ca ta u g ++ chT cy ch u)))) H := hP
                      have hD : va_D A (([(r471, .inl ((cy 4), un u + 1, .inr (.inr (.inr (.inr (va_up (cpF ch (un u)) (un u) (some r371))))))), (r371, .inl ((cy 0), 4, .inl M))] : va_W) ++ (wS5 cy b sa st ch (un u) (uw u) (ud u) (nI (zh (uh u))) (zl (uh u)) ++ (rows12 cy st 6 (rowS (uh u)) ++ (wX cy a q q2 ca ta u g ++ chT cy ch u)))) := hD
                      obtain ⟨t1, ta1, tb1, te1⟩ := hM 1 (by omega) (by omega)
                      obtain ⟨t2, ta2, tb2, te2⟩ := hM 2 (by omega) (by omega)
                      obtain ⟨t3, ta3, tb3, te3⟩ := hM 3 (by omega) (by omega)
                      have hP := va_P_rowq (g := fun i => some (sup ch (un u) r371 i)) hP 0 rfl (cpF_end ch (un u) r371)
                      have hP := va_P_row (g := rowC (uCh u k3 3 (nI t1) (nI t2) (nI t3) 0) (un u)) hP 1 rfl (made_row3 hM0 te1 te2 te3)
                      have hP : va_P D vwCl (([(r471, .inl ((cy 4), un u + 1, .inr (.inr (.inr (.inr (fun i => some (sup ch (un u) r371 i))))))), (r371, .inl ((cy 0), 4, .inl (rowC (uCh u k3 3 (nI t1) (nI t2) (nI t3) 0) (un u))))] : va_W) ++ (wS5 cy b sa st ch (un u) (uw u) (ud u) (nI (zh (uh u))) (zl (uh u)) ++ (rows12 cy st 6 (rowS (uh u)) ++ (wX cy a q q2 ca ta u g ++ chT cy ch u)))) H := hP
                      have hD : va_D A (([(r471, .inl ((cy 4), un u + 1, .inr (.inr (.inr (.inr (fun i => some (sup ch (un u) r371 i))))))), (r371, .inl ((cy 0), 4, .inl (rowC (uCh u k3 3 (nI t1) (nI t2) (nI t3) 0) (un u))))] : va_W) ++ (wS5 cy b sa st ch (un u) (uw u) (ud u) (nI (zh (uh u))) (zl (uh u)) ++ (rows12 cy st 6 (rowS (uh u)) ++ (wX cy a q q2 ca ta u g ++ chT cy ch u)))) := va_D_addr hD rfl
                      refine lv_aload_n hx hb dL_act_517 rfl (lv_at hl 1 rfl) ?_
                      refine lv_aload hx hb dL_act_518 (lv_at hl 6 rfl) ?_
                      refine va_put (D := D) (ci := 3) (v := .ref r471) (ty := .array (.array .int)) (C := RX3) (T := TX3) (N := 6) hx hb hts inL_act_RX3 tyX3 tyX3_ok nmX3 hown hK hP hD hS 2 rfl rfl 1 (by decide) (hts _ kL_act_4) (fun _ h9 => h9) rfl (by decide +kernel) rfl rfl (Nat.le_of_ble_eq_true rfl) dL_act_520 (fun H locs hP hD hS => ?_)
                      have hP := pM_forP (x := (r471, .inl ((cy 4), un u + 1, .inr (.inr (.inr (.inr (fun i => some (sup ch (un u) r371 i)))))))) (y := (sa 1, .inl (cy 4, un u, qf (fun i => some (ch i))))) (P := [(r371, .inl ((cy 0), 4, .inl (rowC (uCh u k3 3 (nI t1) (nI t2) (nI t3) 0) (un u)))), (b, .inr (3, [.ref (sa 0), .ref r471, .ref (sa 2), .ref (sa 3), .int (nI (zh (uh u))), .int (zl (uh u))])), (sa 0, .inl (cy 4, 12, qf (fun i => some (st i))))]) (Q := [(sa 2, .inl (cy 0, 12, .inl (uw u))), (sa 3, .inl (cy 0, 12, .inl (ud u)))] ++ (rows12 cy st 6 (rowS (uh u)) ++ (wX cy a q q2 ca ta u g ++ chT cy ch u))) hP
                      have hD := pM_forD (x := (r471, .inl ((cy 4), un u + 1, .inr (.inr (.inr (.inr (fun i => some (sup ch (un u) r371 i)))))))) (y := (sa 1, .inl (cy 4, un u, qf (fun i => some (ch i))))) (P := [(r371, .inl ((cy 0), 4, .inl (rowC (uCh u k3 3 (nI t1) (nI t2) (nI t3) 0) (un u)))), (b, .inr (3, [.ref (sa 0), .ref r471, .ref (sa 2), .ref (sa 3), .int (nI (zh (uh u))), .int (zl (uh u))])), (sa 0, .inl (cy 4, 12, qf (fun i => some (st i))))]) (Q := [(sa 2, .inl (cy 0, 12, .inl (uw u))), (sa 3, .inl (cy 0, 12, .inl (ud u)))] ++ (rows12 cy st 6 (rowS (uh u)) ++ (wX cy a q q2 ca ta u g ++ chT cy ch u))) hD
                      have hP : va_P D vwCl (([(r371, .inl ((cy 0), 4, .inl (rowC (uCh u k3 3 (nI t1) (nI t2) (nI t3) 0) (un u))))] : va_W) ++ (wS5 cy b (sup sa 1 r471) st (sup ch (un u) r371) (un u + 1) (uw u) (ud u) (nI (zh (uh u))) (zl (uh u)) ++ (rows12 cy st 6 (rowS (uh u)) ++ (wX cy a q q2 ca ta u g ++ chT cy ch u)))) H := hP
                      have hD : va_D A (([(r371, .inl ((cy 0), 4, .inl (rowC (uCh u k3 3 (nI t1) (nI t2) (nI t3) 0) (un u))))] : va_W) ++ (wS5 cy b (sup sa 1 r471) st (sup ch (un u) r371) (un u + 1) (uw u) (ud u) (nI (zh (uh u))) (zl (uh u)) ++ (rows12 cy st 6 (rowS (uh u)) ++ (wX cy a q q2 ca ta u g ++ chT cy ch u)))) := hD
                      refine lv_aload_n hx hb dL_act_523 rfl (lv_at hl 0 rfl) ?_
                      refine lv_iload_n hx hb dL_act_524 rfl (lv_at hl 3 rfl) ?_
                      refine lv_aload hx hb dL_act_525 (lv_at hl 5 rfl) ?_
                      refine lv_iconst (v := 1) hx hb dL_act_527 (by decide) ?_
                      refine pc_iald hx hb hK hP 0 0 rfl rfl (k := 1) (show 1 < 4 by omega) (by decide) dL_act_528 ?_
                      refine pc_top (show (rowC (uCh u k3 3 (nI t1) (nI t2) (nI t3) 0) (un u)) 1 = nI t1 from rowC_1) ?_
                      refine lv_aload hx hb dL_act_529 (lv_at hl 5 rfl) ?_
                      refine lv_iconst (v := 2) hx hb dL_act_531 (by decide) ?_
                      refine pc_iald hx hb hK hP 0 0 rfl rfl (k := 2) (show 2 < 4 by omega) (by decide) dL_act_532 ?_
                      refine pc_top (show (rowC (uCh u k3 3 (nI t1) (nI t2) (nI t3) 0) (un u)) 2 = nI t2 from rowC_2) ?_
                      refine lv_iload hx hb dL_act_533 (lv_at hl 4 rfl) ?_
                      refine lv_iconst (v := 2) hx hb dL_act_535 (by decide) ?_
                      refine lv_icmp_le (tgt := 546) hx hb dL_act_536 (by decide) (fun c536 => absurd c536 (by decide)) (fun c536 => ?_)
                      have n536 : ¬ (3 ≤ 2) := fun h9 => c536 ((nI_leI (a := 3) (b := 2) (by omega) (by omega)).mpr h9)
                      refine lv_aload hx hb dL_act_539 (lv_at hl 5 rfl) ?_
                      refine lv_iconst (v := 3) hx hb dL_act_541 (by decide) ?_
                      refine pc_iald hx hb hK hP 0 0 rfl rfl (k := 3) (show 3 < 4 by omega) (by decide) dL_act_542 ?_
                      refine pc_top (show (rowC (uCh u k3 3 (nI t1) (nI t2) (nI t3) 0) (un u)) 3 = nI t3 from rowC_3) ?_
                      refine lv_goto (tgt := 547) hx hb dL_act_543 (by decide) ?_
                      refine lv_iload hx hb dL_act_547 (lv_at hl 4 rfl) ?_
                      refine lv_iconst (v := 3) hx hb dL_act_549 (by decide) ?_
                      refine lv_icmp_le (tgt := 560) hx hb dL_act_550 (by decide) (fun c550 => ?_) (fun c550 => absurd c550 (not_not_intro (by decide)))
                      have n550 : 3 ≤ 3 := (nI_leI (a := 3) (b := 3) (by omega) (by omega)).mp c550
                      refine lv_iconst (v := 0) hx hb dL_act_560 (by decide) ?_
                      refine cls_w (Lc := ([(r371, .inl ((cy 0), 4, .inl (rowC (uCh u k3 3 (nI t1) (nI t2) (nI t3) 0) (un u))))] : va_W)) (S5 := wS5 cy b (sup sa 1 r471) st (sup ch (un u) r371) (un u + 1) (uw u) (ud u) (nI (zh (uh u))) (zl (uh u))) (S12 := rows12 cy st 6 (rowS (uh u))) (T := chT cy ch u) (As := [.int (nI k3), .int (nI t1), .int (nI t2), .int (nI t3), .int 0]) (rest := []) (uf := fun (_ : Unit) => uCh u (ix (nI k3)) (chSz (nI t3) 0) (nI t1) (nI t2) (nI t3) 0) (gf := fun (_ : Unit) => g) hP hD hS hA hK hXA ⟨hx, hb, hml, hown, hts⟩ (mX2_chord l hst D cy H.size a q q2 ca ta u g I.1 (nI k3) (nI t1) (nI t2) (nI t3) 0) (fun E h => h.2 (exCh_0 (t0 := t1) (t1 := t2) (t2 := t3) (t3 := 0) hk3 ta1 tb1 ta2 tb2 tb3 (by decide) (by omega) (by rw [show chSz (nI t3) (nI 0) = 3 from chSz_3 ta3 tb3]; omega) (by omega))) (cwV 5 hts gL_act_X2_chord rfl rfl rfl (by decide +kernel) ⟨Nat.le_of_ble_eq_true rfl, Nat.le_of_ble_eq_true rfl⟩) rfl rfl hl.1 (Nat.le_of_ble_eq_true rfl) dL_act_561 ⟨Nat.le_of_ble_eq_true rfl, Nat.le_of_ble_eq_true rfl⟩ (fun _ H locs hP hD hS => ?_)
                      have hP : va_P D vwCl (([(r371, .inl ((cy 0), 4, .inl (rowC (uCh u k3 3 (nI t1) (nI t2) (nI t3) 0) (un u))))] : va_W) ++ (wS5 cy b (sup sa 1 r471) st (sup ch (un u) r371) (un u + 1) (uw u) (ud u) (nI (zh (uh u))) (zl (uh u)) ++ (rows12 cy st 6 (rowS (uh u)) ++ (wX cy a q q2 ca ta (uCh u (ix (nI k3)) (chSz (nI t3) 0) (nI t1) (nI t2) (nI t3) 0) g ++ chT cy ch u)))) H := hP
                      have hD : va_D A (([(r371, .inl ((cy 0), 4, .inl (rowC (uCh u k3 3 (nI t1) (nI t2) (nI t3) 0) (un u))))] : va_W) ++ (wS5 cy b (sup sa 1 r471) st (sup ch (un u) r371) (un u + 1) (uw u) (ud u) (nI (zh (uh u))) (zl (uh u)) ++ (rows12 cy st 6 (rowS (uh u)) ++ (wX cy a q q2 ca ta (uCh u (ix (nI k3)) (chSz (nI t3) 0) (nI t1) (nI t2) (nI t3) 0) g ++ chT cy ch u)))) := hD
                      refine W.widen (k := 8) (n := 46) (Nat.le_of_ble_eq_true rfl) (Nat.le_of_ble_eq_true rfl) ?_
                      rw [ixk, chSz_3 ta3 tb3] at hP hD
                      have hP : va_P D vwCl (([(r371, .inl ((cy 0), 4, .inl (rowC (uCh u k3 3 (nI t1) (nI t2) (nI t3) 0) (un u))))] : va_W) ++ (wS5 cy b (sup sa 1 r471) st (sup ch (un u) r371) (un u + 1) (uw u) (ud u) (nI (zh (uh u))) (zl (uh u)) ++ (rows12 cy st 6 (rowS (uh u)) ++ (wX cy a q q2 ca ta (uCh u k3 3 (nI t1) (nI t2) (nI t3) 0) g ++ chT cy ch u)))) H := hP
                      have hD : va_D A (([(r371, .inl ((cy 0), 4, .inl (rowC (uCh u k3 3 (nI t1) (nI t2) (nI t3) 0) (un u))))] : va_W) ++ (wS5 cy b (sup sa 1 r471) st (sup ch (un u) r371) (un u + 1) (uw u) (ud u) (nI (zh (uh u))) (zl (uh u)) ++ (rows12 cy st 6 (rowS (uh u)) ++ (wX cy a q q2 ca ta (uCh u k3 3 (nI t1) (nI t2) (nI t3) 0) g ++ chT cy ch u)))) := hD
                      refine lv_aload hx hb dL_act_564 (lv_at hl 6 rfl) ?_
                      refine pc_alenA hx hb hkp hP 3 rfl (v := nI (un u + 1)) rfl dL_act_566 ?_
                      refine lv_iconst (v := 1) hx hb dL_act_567 (by decide) ?_
                      refine lv_isub hx hb dL_act_568 ?_
                      refine pc_top (show (nI (un u + 1)) - 1 = nI ((un u + 1) - 1) from pk_sub (a := un u + 1) (b := 1) (by omega)) ?_
                      refine pc_top (show nI ((un u + 1) - 1) = nI (un u) from (by rw [Nat.add_sub_cancel])) ?_
                      refine lv_icmp_ne (tgt := 576) hx hb dL_act_569 (by decide) (fun c569 => absurd c569 (not_not_intro rfl)) (fun c569 => ?_)
                      have n569 : un u = un u := (nI_eq (a := un u) (b := un u) (by omega) (by omega)).mp c569
                      refine lv_iconst (v := 1) hx hb dL_act_572 (by decide) ?_
                      refine lv_goto (tgt := 577) hx hb dL_act_573 (by decide) ?_
                      refine W.widen (k := 8) (n := 48) (by omega) (by omega) ?_
                      have hP9 : va_P D vwCl (wSu cy b ((uCh u k3 3 (nI t1) (nI t2) (nI t3) 0, sup sa 1 r471, st, sup ch (un u) r371) : US × (Nat → Nat) × (Nat → Nat) × (Nat → Nat)).2.1 ((uCh u k3 3 (nI t1) (nI t2) (nI t3) 0, sup sa 1 r471, st, sup ch (un u) r371) : US × (Nat → Nat) × (Nat → Nat) × (Nat → Nat)).2.2.1 ((uCh u k3 3 (nI t1) (nI t2) (nI t3) 0, sup sa 1 r471, st, sup ch (un u) r371) : US × (Nat → Nat) × (Nat → Nat) × (Nat → Nat)).2.2.2 ((uCh u k3 3 (nI t1) (nI t2) (nI t3) 0, sup sa 1 r471, st, sup ch (un u) r371) : US × (Nat → Nat) × (Nat → Nat) × (Nat → Nat)).1 ++ (wSr cy ((uCh u k3 3 (nI t1) (nI t2) (nI t3) 0, sup sa 1 r471, st, sup ch (un u) r371) : US × (Nat → Nat) × (Nat → Nat) × (Nat → Nat)).2.2.1 ((uCh u k3 3 (nI t1) (nI t2) (nI t3) 0, sup sa 1 r471, st, sup ch (un u) r371) : US × (Nat → Nat) × (Nat → Nat) × (Nat → Nat)).1 ++ (wX cy a q q2 ca ta ((uCh u k3 3 (nI t1) (nI t2) (nI t3) 0, sup sa 1 r471, st, sup ch (un u) r371) : US × (Nat → Nat) × (Nat → Nat) × (Nat → Nat)).1 g ++ chT cy ((uCh u k3 3 (nI t1) (nI t2) (nI t3) 0, sup sa 1 r471, st, sup ch (un u) r371) : US × (Nat → Nat) × (Nat → Nat) × (Nat → Nat)).2.2.2 ((uCh u k3 3 (nI t1) (nI t2) (nI t3) 0, sup sa 1 r471, st, sup ch (un u) r371) : US × (Nat → Nat) × (Nat → Nat) × (Nat → Nat)).1))) H := (by show va_P D vwCl (wSu cy b (sup sa 1 r471) st (sup ch (un u) r371) (uCh u k3 3 (nI t1) (nI t2) (nI t3) 0) ++ (wSr cy st (uCh u k3 3 (nI t1) (nI t2) (nI t3) 0) ++ (wX cy a q q2 ca ta (uCh u k3 3 (nI t1) (nI t2) (nI t3) 0) g ++ chT cy (sup ch (un u) r371) (uCh u k3 3 (nI t1) (nI t2) (nI t3) 0)))) H; rw [← chT_new]; exact act_endP hP)
                      have hD9 : va_D A (wSu cy b ((uCh u k3 3 (nI t1) (nI t2) (nI t3) 0, sup sa 1 r471, st, sup ch (un u) r371) : US × (Nat → Nat) × (Nat → Nat) × (Nat → Nat)).2.1 ((uCh u k3 3 (nI t1) (nI t2) (nI t3) 0, sup sa 1 r471, st, sup ch (un u) r371) : US × (Nat → Nat) × (Nat → Nat) × (Nat → Nat)).2.2.1 ((uCh u k3 3 (nI t1) (nI t2) (nI t3) 0, sup sa 1 r471, st, sup ch (un u) r371) : US × (Nat → Nat) × (Nat → Nat) × (Nat → Nat)).2.2.2 ((uCh u k3 3 (nI t1) (nI t2) (nI t3) 0, sup sa 1 r471, st, sup ch (un u) r371) : US × (Nat → Nat) × (Nat → Nat) × (Nat → Nat)).1 ++ (wSr cy ((uCh u k3 3 (nI t1) (nI t2) (nI t3) 0, sup sa 1 r471, st, sup ch (un u) r371) : US × (Nat → Nat) × (Nat → Nat) × (Nat → Nat)).2.2.1 ((uCh u k3 3 (nI t1) (nI t2) (nI t3) 0, sup sa 1 r471, st, sup ch (un u) r371) : US × (Nat → Nat) × (Nat → Nat) × (Nat → Nat)).1 ++ (wX cy a q q2 ca ta ((uCh u k3 3 (nI t1) (nI t2) (nI t3) 0, sup sa 1 r471, st, sup ch (un u) r371) : US × (Nat → Nat) × (Nat → Nat) × (Nat → Nat)).1 g ++ chT cy ((uCh u k3 3 (nI t1) (nI t2) (nI t3) 0, sup sa 1 r471, st, sup ch (un u) r371) : US × (Nat → Nat) × (Nat → Nat) × (Nat → Nat)).2.2.2 ((uCh u k3 3 (nI t1) (nI t2) (nI t3) 0, sup sa 1 r471, st, sup ch (un u) r371) : US × (Nat → Nat) × (Nat → Nat) × (Nat → Nat)).1))) := (by show va_D A (wSu cy b (sup sa 1 r471) st (sup ch (un u) r371) (uCh u k3 3 (nI t1) (nI t2) (nI t3) 0) ++ (wSr cy st (uCh u k3 3 (nI t1) (nI t2) (nI t3) 0) ++ (wX cy a q q2 ca ta (uCh u k3 3 (nI t1) (nI t2) (nI t3) 0) g ++ chT cy (sup ch (un u) r371) (uCh u k3 3 (nI t1) (nI t2) (nI t3) 0)))); rw [← chT_new]; exact act_endD hD)
                      exact W.zret (v := 1) hx hb hr (by decide) (fun t ht hW => ⟨⟨1, ((uCh u k3 3 (nI t1) (nI t2) (nI t3) 0, sup sa 1 r471, st, sup ch (un u) r371) : US × (Nat → Nat) × (Nat → Nat) × (Nat → Nat)), rfl, ⟨rfl, INV_ch3 I (by omega) (by omega) ta1 tb1 ta2 tb2 ta3 tb3, rfl⟩, by rw [ht]; exact hP9, hD9⟩, hS.F ht⟩) hS.2.2 dL_act_577
                    · have n486 : ¬ (un u ≤ jj) := fun h9 => c486 ((nI_leI (a := un u) (b := jj) (by omega) (by omega)).mpr h9)
                      refine lv_aload hx hb dL_act_489 (lv_at hl 6 rfl) ?_
                      refine lv_iload hx hb dL_act_491 (lv_at hl 7 rfl) ?_
                      refine lv_aload_n hx hb dL_act_493 rfl (lv_at hl 1 rfl) ?_
                      refine va_get (D := D) (ci := 3) (v := .ref (sa 1)) (C := RX3) (T := TX3) (N := 6) hx hb hts inL_act_RX3 hown hK hP 2 rfl rfl 1 (by decide) (hts _ kL_act_4) (fun _ h9 => h9) rfl dL_act_494 ?_
                      refine lv_iload hx hb dL_act_497 (lv_at hl 7 rfl) ?_
                      refine pc_aldA hx hb hkp hP 4 rfl (k := jj) (show jj < un u by omega) (by omega) (v := ch jj) rfl dL_act_499 ?_
                      obtain ⟨qk, hqk⟩ := List.getElem?_of_mem (show ((ch jj, .inl (cy 0, uz u jj + 1, .inl (rowC u jj))) : Nat × va_E) ∈ (([(r471, .inl ((cy 4), un u + 1, .inr (.inr (.inr (.inr (cpF ch jj)))))), (r371, .inl ((cy 0), 4, .inl M))] : va_W) ++ (wS5 cy b sa st ch (un u) (uw u) (ud u) (nI (zh (uh u))) (zl (uh u)) ++ (rows12 cy st 6 (rowS (uh u)) ++ (wX cy a q q2 ca ta u g ++ chT cy ch u))) : va_W) from List.mem_append_right _ (List.mem_append_right _ (List.mem_append_right _ (List.mem_append_right _ (chT_mem (by omega))))))
                      refine pc_astA hx hb hK hkp hP hD hS 0 qk rfl hqk (k := jj) (show jj < un u + 1 by omega) (by omega) dL_act_500 (fun H locs hP hD hS => ?_)
                      have hP : va_P D vwCl (([(r471, .inl ((cy 4), un u + 1, .inr (.inr (.inr (.inr (va_up (cpF ch jj) jj (some (ch jj)))))))), (r371, .inl ((cy 0), 4, .inl M))] : va_W) ++ (wS5 cy b sa st ch (un u) (uw u) (ud u) (nI (zh (uh u))) (zl (uh u)) ++ (rows12 cy st 6 (rowS (uh u)) ++ (wX cy a q q2 ca ta u g ++ chT cy ch u)))) H := hP
                      have hD : va_D A (([(r471, .inl ((cy 4), un u + 1, .inr (.inr (.inr (.inr (va_up (cpF ch jj) jj (some (ch jj)))))))), (r371, .inl ((cy 0), 4, .inl M))] : va_W) ++ (wS5 cy b sa st ch (un u) (uw u) (ud u) (nI (zh (uh u))) (zl (uh u)) ++ (rows12 cy st 6 (rowS (uh u)) ++ (wX cy a q q2 ca ta u g ++ chT cy ch u)))) := hD
                      have e9 : (va_up (cpF ch jj) jj (some (ch jj))) = cpF ch (jj + 1) := (cpF_s _ _)
                      rw [e9] at hP hD
                      clear e9
                      have hP : va_P D vwCl (([(r471, .inl ((cy 4), un u + 1, .inr (.inr (.inr (.inr (cpF ch (jj + 1))))))), (r371, .inl ((cy 0), 4, .inl M))] : va_W) ++ (wS5 cy b sa st ch (un u) (uw u) (ud u) (nI (zh (uh u))) (zl (uh u)) ++ (rows12 cy st 6 (rowS (uh u)) ++ (wX cy a q q2 ca ta u g ++ chT cy ch u)))) H := hP
                      have hD : va_D A (([(r471, .inl ((cy 4), un u + 1, .inr (.inr (.inr (.inr (cpF ch (jj + 1))))))), (r371, .inl ((cy 0), 4, .inl M))] : va_W) ++ (wS5 cy b sa st ch (un u) (uw u) (ud u) (nI (zh (uh u))) (zl (uh u)) ++ (rows12 cy st 6 (rowS (uh u)) ++ (wX cy a q q2 ca ta u g ++ chT cy ch u)))) := hD
                      refine lv_iinc (v := nI (jj + 1)) (lv' := [(11, .int (nI (jj + 1))), (0, .ref (a 0)), (1, .ref b), (2, .int xv), (3, .int (nI k3)), (8, .int 3), (9, .ref r371), (10, .ref r471)]) hx hb dL_act_501 hl (k := 7) rfl ((show (nI jj) + Int32.ofInt 1 = (nI jj) + 1 from rfl).trans (show (nI jj) + 1 = nI (jj + 1) from nI_add jj 1)) (by decide) rfl (fun ls hl => ?_)
                      refine lv_goto (tgt := 479) hx hb dL_act_504 (by decide) ?_
                      exact ih479 (jj + 1) (by omega) (by omega) _ _ hP hD hS ls (lv_sub hl [1, 2, 3, 4, 5, 6, 7, 0] rfl)
                exact loop479 (un u + 1) 0 (Nat.zero_le _) (by omega) _ _ hP hD hS ls (lv_sub hl [2, 3, 4, 5, 6, 7, 1, 0] rfl)
              · have n387 : ¬ (3 < i) := fun h9 => c387 ((nI_ltI (a := 3) (b := i) (by omega) (by omega)).mpr h9)
                refine lv_aload hx hb dL_act_390 (lv_at hl 5 rfl) ?_
                refine lv_iload hx hb dL_act_392 (lv_at hl 6 rfl) ?_
                refine lv_iconst (v := 1) hx hb dL_act_394 (by decide) ?_
                refine lv_aload_n hx hb dL_act_395 rfl (lv_at hl 1 rfl) ?_
                refine lv_iload_n hx hb dL_act_396 rfl (lv_at hl 3 rfl) ?_
                refine lv_iload hx hb dL_act_397 (lv_at hl 6 rfl) ?_
                refine lv_iadd hx hb dL_act_399 ?_
                refine pc_top (show (nI k3) + (nI i) = nI (k3 + i) from nI_add k3 i) ?_
                refine lv_iconst (v := 1) hx hb dL_act_400 (by decide) ?_
                refine lv_isub hx hb dL_act_401 ?_
                refine pc_top (show (nI (k3 + i)) - 1 = nI ((k3 + i) - 1) from pk_sub (a := k3 + i) (b := 1) (by omega)) ?_
                refine sim_p (Lc := ([(r371, .inl ((cy 0), 4, .inl M))] : va_W)) (S5 := wS5 cy b sa st ch (un u) (uw u) (ud u) (nI (zh (uh u))) (zl (uh u))) (S12 := rows12 cy st 6 (rowS (uh u))) (X := wX cy a q q2 ca ta u g ++ chT cy ch u) (Y := []) (As := [.int (nI ((k3 + i) - 1))]) (rest := [.int 1, .int (nI i), .ref r371]) hP hK hkp ⟨hx, hb, hml, hown, hts⟩ (mX3_tone l D cy b sa st ch u (k3 + i - 1) (by omega)) (no_mem) rfl (cwV 1 hts gL_act_X3_tone rfl rfl rfl (by decide +kernel) ⟨Nat.le_of_ble_eq_true rfl, Nat.le_of_ble_eq_true rfl⟩) rfl rfl hl.1 (Nat.le_of_ble_eq_true rfl) dL_act_402 ⟨Nat.le_of_ble_eq_true rfl, Nat.le_of_ble_eq_true rfl⟩ ?_
                obtain ⟨tt, htt, ett⟩ := tone_b I (show k3 + i - 1 < 12 by omega)
                refine pc_top (show tone (uh u) (k3 + i - 1) = nI tt from ett) ?_
                refine lv_iload_n hx hb dL_act_405 rfl (lv_at hl 2 rfl) ?_
                refine lv_iload hx hb dL_act_406 (lv_at hl 6 rfl) ?_
                refine lv_ishr hx hb dL_act_408 ?_
                refine lv_iconst (v := 5) hx hb dL_act_409 (by decide) ?_
                refine lv_iload hx hb dL_act_410 (lv_at hl 6 rfl) ?_
                refine lv_imul hx hb dL_act_412 ?_
                refine pc_top (show 5 * (nI i) = nI (5 * i) from pk_mul 5 i) ?_
                refine lv_iadd hx hb dL_act_413 ?_
                refine lv_iload_n hx hb dL_act_414 rfl (lv_at hl 2 rfl) ?_
                refine lv_bipush (v := 6) hx hb dL_act_415 (by decide) ?_
                refine lv_ishr hx hb dL_act_417 ?_
                refine lv_iconst (v := 2) hx hb dL_act_418 (by decide) ?_
                refine pc_calli (va_runS (As := [.int (xv >>> (6 &&& 31)), .int 2]) (rest := [.int ((xv >>> ((nI i) &&& 31)) + (nI (5 * i))), .int (nI tt), .int 1, .int (nI i), .ref r371]) ⟨hx, hb, hml, hown, hts⟩ (mL_below l D cy (xv >>> (6 &&& 31)) 2 (by decide) (by decide)) (va_cwS 2 hts gL_act_L_below rfl rfl rfl (by decide +kernel) ⟨Nat.le_of_ble_eq_true rfl, Nat.le_of_ble_eq_true rfl⟩) ⟨fun a U g mk q => q, fun U hU hW => ⟨rfl, trivial⟩⟩ rfl rfl hl.1 rfl (lv_room (Nat.le_of_ble_eq_true rfl)) dL_act_419 ⟨Nat.le_of_ble_eq_true rfl, Nat.le_of_ble_eq_true rfl⟩) (fun r9 hr9 => ?_)
                obtain ⟨k419, hk419, rfl⟩ := hr9
                refine lv_if_ne (tgt := 430) hx hb dL_act_422 (by decide) (fun c422 => ?_) (fun c422 => ?_)
                · have n422 : ¬ (k419 = 0) := fun h9 => c422 ((nI_eq (a := k419) (b := 0) (by omega) (by omega)).mpr h9)
                  refine lv_bipush (v := 61) hx hb dL_act_430 (by decide) ?_
                  refine pc_calli (va_runS (As := [.int ((xv >>> ((nI i) &&& 31)) + (nI (5 * i))), .int 61]) (rest := [.int (nI tt), .int 1, .int (nI i), .ref r371]) ⟨hx, hb, hml, hown, hts⟩ (mL_below l D cy ((xv >>> ((nI i) &&& 31)) + (nI (5 * i))) 61 (by decide) (by decide)) (va_cwS 2 hts gL_act_L_below rfl rfl rfl (by decide +kernel) ⟨Nat.le_of_ble_eq_true rfl, Nat.le_of_ble_eq_true rfl⟩) ⟨fun a U g mk q => q, fun U hU hW => ⟨rfl, trivial⟩⟩ rfl rfl hl.1 rfl (lv_room (Nat.le_of_ble_eq_true rfl)) dL_act_432 ⟨Nat.le_of_ble_eq_true rfl, Nat.le_of_ble_eq_true rfl⟩) (fun r9 hr9 => ?_)
                  obtain ⟨k432, hk432, rfl⟩ := hr9
                  refine lv_iadd hx hb dL_act_435 ?_
                  refine lv_iload_n hx hb dL_act_436 rfl (lv_at hl 2 rfl) ?_
                  refine lv_bipush (v := 6) hx hb dL_act_437 (by decide) ?_
                  refine lv_ishr hx hb dL_act_439 ?_
                  refine lv_iconst (v := 2) hx hb dL_act_440 (by decide) ?_
                  refine pc_calli (va_runS (As := [.int (xv >>> (6 &&& 31)), .int 2]) (rest := [.int ((nI tt) + (nI k432)), .int 1, .int (nI i), .ref r371]) ⟨hx, hb, hml, hown, hts⟩ (mL_below l D cy (xv >>> (6 &&& 31)) 2 (by decide) (by decide)) (va_cwS 2 hts gL_act_L_below rfl rfl rfl (by decide +kernel) ⟨Nat.le_of_ble_eq_true rfl, Nat.le_of_ble_eq_true rfl⟩) ⟨fun a U g mk q => q, fun U hU hW => ⟨rfl, trivial⟩⟩ rfl rfl hl.1 rfl (lv_room (Nat.le_of_ble_eq_true rfl)) dL_act_441 ⟨Nat.le_of_ble_eq_true rfl, Nat.le_of_ble_eq_true rfl⟩) (fun r9 hr9 => ?_)
                  obtain ⟨k441, hk441, rfl⟩ := hr9
                  refine lv_if_ne (tgt := 451) hx hb dL_act_444 (by decide) (fun c444 => ?_) (fun c444 => ?_)
                  · have n444 : ¬ (k441 = 0) := fun h9 => c444 ((nI_eq (a := k441) (b := 0) (by omega) (by omega)).mpr h9)
                    refine lv_bipush (v := 30) hx hb dL_act_451 (by decide) ?_
                    refine lv_isub hx hb dL_act_453 ?_
                    refine va_mmax hx hb (by rw [hml]; exact hl.1.symm) hown (hts _ kL_act_6) (hts _ kL_act_7) (hts _ kL_act_8) (hts _ kL_act_9) (Nat.le_of_ble_eq_true rfl) (Nat.le_of_ble_eq_true rfl) (Nat.le_of_ble_eq_true rfl) (Nat.le_of_ble_eq_true rfl) dL_act_454 ?_
                    refine pc_top (show (if 1 < (((nI tt) + (nI k432)) - 30) then (((nI tt) + (nI k432)) - 30) else 1) = mx 1 (((nI tt) + (nI k432)) - 30) from rfl) ?_
                    obtain ⟨v9, hv1, hv2, ev9⟩ := made_b (t := tt) (r := k432) (c := 30) htt (by omega) (by decide)
                    refine pc_top (show mx 1 (((nI tt) + (nI k432)) - 30) = nI v9 from ev9) ?_
                    refine pc_iast hx hb hK hP hD hS 0 0 rfl rfl (k := i) (show i < 4 by omega) (by decide) dL_act_457 (fun H locs hP hD hS => ?_)
                    have hP : va_P D vwCl (([(r371, .inl ((cy 0), 4, .inl (upd M i (nI v9))))] : va_W) ++ (wS5 cy b sa st ch (un u) (uw u) (ud u) (nI (zh (uh u))) (zl (uh u)) ++ (rows12 cy st 6 (rowS (uh u)) ++ (wX cy a q q2 ca ta u g ++ chT cy ch u)))) H := hP
                    have hD : va_D A (([(r371, .inl ((cy 0), 4, .inl (upd M i (nI v9))))] : va_W) ++ (wS5 cy b sa st ch (un u) (uw u) (ud u) (nI (zh (uh u))) (zl (uh u)) ++ (rows12 cy st 6 (rowS (uh u)) ++ (wX cy a q q2 ca ta u g ++ chT cy ch u)))) := hD
                    refine lv_iinc (v := nI (i + 1)) (lv' := [(10, .int (nI (i + 1))), (0, .ref (a 0)), (1, .ref b), (2, .int xv), (3, .int (nI k3)), (8, .int 3), (9, .ref r371)]) hx hb dL_act_458 hl (k := 6) rfl ((show (nI i) + Int32.ofInt 1 = (nI i) + 1 from rfl).trans (show (nI i) + 1 = nI (i + 1) from nI_add i 1)) (by decide) rfl (fun ls hl => ?_)
                    refine lv_goto (tgt := 383) hx hb dL_act_461 (by decide) ?_
                    exact ih383 (i + 1) (upd M i (nI v9)) (⟨by omega, by omega⟩) ((pk_un (by omega)).trans hM0) (made_s hM hv1 hv2) (by omega) _ _ hP hD hS ls (lv_sub hl [1, 2, 3, 4, 5, 6, 0] rfl)
                  · have n444 : k441 = 0 := (nI_eq (a := k441) (b := 0) (by omega) (by omega)).mp c444
                    refine lv_iconst (v := 4) hx hb dL_act_447 (by decide) ?_
                    refine lv_goto (tgt := 453) hx hb dL_act_448 (by decide) ?_
                    refine lv_isub hx hb dL_act_453 ?_
                    refine va_mmax hx hb (by rw [hml]; exact hl.1.symm) hown (hts _ kL_act_6) (hts _ kL_act_7) (hts _ kL_act_8) (hts _ kL_act_9) (Nat.le_of_ble_eq_true rfl) (Nat.le_of_ble_eq_true rfl) (Nat.le_of_ble_eq_true rfl) (Nat.le_of_ble_eq_true rfl) dL_act_454 ?_
                    refine pc_top (show (if 1 < (((nI tt) + (nI k432)) - 4) then (((nI tt) + (nI k432)) - 4) else 1) = mx 1 (((nI tt) + (nI k432)) - 4) from rfl) ?_
                    obtain ⟨v9, hv1, hv2, ev9⟩ := made_b (t := tt) (r := k432) (c := 4) htt (by omega) (by decide)
                    refine pc_top (show mx 1 (((nI tt) + (nI k432)) - 4) = nI v9 from ev9) ?_
                    refine pc_iast hx hb hK hP hD hS 0 0 rfl rfl (k := i) (show i < 4 by omega) (by decide) dL_act_457 (fun H locs hP hD hS => ?_)
                    have hP : va_P D vwCl (([(r371, .inl ((cy 0), 4, .inl (upd M i (nI v9))))] : va_W) ++ (wS5 cy b sa st ch (un u) (uw u) (ud u) (nI (zh (uh u))) (zl (uh u)) ++ (rows12 cy st 6 (rowS (uh u)) ++ (wX cy a q q2 ca ta u g ++ chT cy ch u)))) H := hP
                    have hD : va_D A (([(r371, .inl ((cy 0), 4, .inl (upd M i (nI v9))))] : va_W) ++ (wS5 cy b sa st ch (un u) (uw u) (ud u) (nI (zh (uh u))) (zl (uh u)) ++ (rows12 cy st 6 (rowS (uh u)) ++ (wX cy a q q2 ca ta u g ++ chT cy ch u)))) := hD
                    refine lv_iinc (v := nI (i + 1)) (lv' := [(10, .int (nI (i + 1))), (0, .ref (a 0)), (1, .ref b), (2, .int xv), (3, .int (nI k3)), (8, .int 3), (9, .ref r371)]) hx hb dL_act_458 hl (k := 6) rfl ((show (nI i) + Int32.ofInt 1 = (nI i) + 1 from rfl).trans (show (nI i) + 1 = nI (i + 1) from nI_add i 1)) (by decide) rfl (fun ls hl => ?_)
                    refine lv_goto (tgt := 383) hx hb dL_act_461 (by decide) ?_
                    exact ih383 (i + 1) (upd M i (nI v9)) (⟨by omega, by omega⟩) ((pk_un (by omega)).trans hM0) (made_s hM hv1 hv2) (by omega) _ _ hP hD hS ls (lv_sub hl [1, 2, 3, 4, 5, 6, 0] rfl)
                · have n422 : k419 = 0 := (nI_eq (a := k419) (b := 0) (by omega) (by omega)).mp c422
                  refine lv_bipush (v := 9) hx hb dL_act_425 (by decide) ?_
                  refine lv_goto (tgt := 432) hx hb dL_act_427 (by decide) ?_
                  refine pc_calli (va_runS (As := [.int ((xv >>> ((nI i) &&& 31)) + (nI (5 * i))), .int 9]) (rest := [.int (nI tt), .int 1, .int (nI i), .ref r371]) ⟨hx, hb, hml, hown, hts⟩ (mL_below l D cy ((xv >>> ((nI i) &&& 31)) + (nI (5 * i))) 9 (by decide) (by decide)) (va_cwS 2 hts gL_act_L_below rfl rfl rfl (by decide +kernel) ⟨Nat.le_of_ble_eq_true rfl, Nat.le_of_ble_eq_true rfl⟩) ⟨fun a U g mk q => q, fun U hU hW => ⟨rfl, trivial⟩⟩ rfl rfl hl.1 rfl (lv_room (Nat.le_of_ble_eq_true rfl)) dL_act_432 ⟨Nat.le_of_ble_eq_true rfl, Nat.le_of_ble_eq_true rfl⟩) (fun r9 hr9 => ?_)
                  obtain ⟨k432, hk432, rfl⟩ := hr9
                  refine lv_iadd hx hb dL_act_435 ?_
                  refine lv_iload_n hx hb dL_act_436 rfl (lv_at hl 2 rfl) ?_
                  refine lv_bipush (v := 6) hx hb dL_act_437 (by decide) ?_
                  refine lv_ishr hx hb dL_act_439 ?_
                  refine lv_iconst (v := 2) hx hb dL_act_440 (by decide) ?_
                  refine pc_calli (va_runS (As := [.int (xv >>> (6 &&& 31)), .int 2]) (rest := [.int ((nI tt) + (nI k432)), .int 1, .int (nI i), .ref r371]) ⟨hx, hb, hml, hown, hts⟩ (mL_below l D cy (xv >>> (6 &&& 31)) 2 (by decide) (by decide)) (va_cwS 2 hts gL_act_L_below rfl rfl rfl (by decide +kernel) ⟨Nat.le_of_ble_eq_true rfl, Nat.le_of_ble_eq_true rfl⟩) ⟨fun a U g mk q => q, fun U hU hW => ⟨rfl, trivial⟩⟩ rfl rfl hl.1 rfl (lv_room (Nat.le_of_ble_eq_true rfl)) dL_act_441 ⟨Nat.le_of_ble_eq_true rfl, Nat.le_of_ble_eq_true rfl⟩) (fun r9 hr9 => ?_)
                  obtain ⟨k441, hk441, rfl⟩ := hr9
                  refine lv_if_ne (tgt := 451) hx hb dL_act_444 (by decide) (fun c444 => ?_) (fun c444 => ?_)
                  · have n444 : ¬ (k441 = 0) := fun h9 => c444 ((nI_eq (a := k441) (b := 0) (by omega) (by omega)).mpr h9)
                    refine lv_bipush (v := 30) hx hb dL_act_451 (by decide) ?_
                    refine lv_isub hx hb dL_act_453 ?_
                    refine va_mmax hx hb (by rw [hml]; exact hl.1.symm) hown (hts _ kL_act_6) (hts _ kL_act_7) (hts _ kL_act_8) (hts _ kL_act_9) (Nat.le_of_ble_eq_true rfl) (Nat.le_of_ble_eq_true rfl) (Nat.le_of_ble_eq_true rfl) (Nat.le_of_ble_eq_true rfl) dL_act_454 ?_
                    refine pc_top (show (if 1 < (((nI tt) + (nI k432)) - 30) then (((nI tt) + (nI k432)) - 30) else 1) = mx 1 (((nI tt) + (nI k432)) - 30) from rfl) ?_
                    obtain ⟨v9, hv1, hv2, ev9⟩ := made_b (t := tt) (r := k432) (c := 30) htt (by omega) (by decide)
                    refine pc_top (show mx 1 (((nI tt) + (nI k432)) - 30) = nI v9 from ev9) ?_
                    refine pc_iast hx hb hK hP hD hS 0 0 rfl rfl (k := i) (show i < 4 by omega) (by decide) dL_act_457 (fun H locs hP hD hS => ?_)
                    have hP : va_P D vwCl (([(r371, .inl ((cy 0), 4, .inl (upd M i (nI v9))))] : va_W) ++ (wS5 cy b sa st ch (un u) (uw u) (ud u) (nI (zh (uh u))) (zl (uh u)) ++ (rows12 cy st 6 (rowS (uh u)) ++ (wX cy a q q2 ca ta u g ++ chT cy ch u)))) H := hP
                    have hD : va_D A (([(r371, .inl ((cy 0), 4, .inl (upd M i (nI v9))))] : va_W) ++ (wS5 cy b sa st ch (un u) (uw u) (ud u) (nI (zh (uh u))) (zl (uh u)) ++ (rows12 cy st 6 (rowS (uh u)) ++ (wX cy a q q2 ca ta u g ++ chT cy ch u)))) := hD
                    refine lv_iinc (v := nI (i + 1)) (lv' := [(10, .int (nI (i + 1))), (0, .ref (a 0)), (1, .ref b), (2, .int xv), (3, .int (nI k3)), (8, .int 3), (9, .ref r371)]) hx hb dL_act_458 hl (k := 6) rfl ((show (nI i) + Int32.ofInt 1 = (nI i) + 1 from rfl).trans (show (nI i) + 1 = nI (i + 1) from nI_add i 1)) (by decide) rfl (fun ls hl => ?_)
                    refine lv_goto (tgt := 383) hx hb dL_act_461 (by decide) ?_
                    exact ih383 (i + 1) (upd M i (nI v9)) (⟨by omega, by omega⟩) ((pk_un (by omega)).trans hM0) (made_s hM hv1 hv2) (by omega) _ _ hP hD hS ls (lv_sub hl [1, 2, 3, 4, 5, 6, 0] rfl)
                  · have n444 : k441 = 0 := (nI_eq (a := k441) (b := 0) (by omega) (by omega)).mp c444
                    refine lv_iconst (v := 4) hx hb dL_act_447 (by decide) ?_
                    refine lv_goto (tgt := 453) hx hb dL_act_448 (by decide) ?_
                    refine lv_isub hx hb dL_act_453 ?_
                    refine va_mmax hx hb (by rw [hml]; exact hl.1.symm) hown (hts _ kL_act_6) (hts _ kL_act_7) (hts _ kL_act_8) (hts _ kL_act_9) (Nat.le_of_ble_eq_true rfl) (Nat.le_of_ble_eq_true rfl) (Nat.le_of_ble_eq_true rfl) (Nat.le_of_ble_eq_true rfl) dL_act_454 ?_
                    refine pc_top (show (if 1 < (((nI tt) + (nI k432)) - 4) then (((nI tt) + (nI k432)) - 4) else 1) = mx 1 (((nI tt) + (nI k432)) - 4) from rfl) ?_
                    obtain ⟨v9, hv1, hv2, ev9⟩ := made_b (t := tt) (r := k432) (c := 4) htt (by omega) (by decide)
                    refine pc_top (show mx 1 (((nI tt) + (nI k432)) - 4) = nI v9 from ev9) ?_
                    refine pc_iast hx hb hK hP hD hS 0 0 rfl rfl (k := i) (show i < 4 by omega) (by decide) dL_act_457 (fun H locs hP hD hS => ?_)
                    have hP : va_P D vwCl (([(r371, .inl ((cy 0), 4, .inl (upd M i (nI v9))))] : va_W) ++ (wS5 cy b sa st ch (un u) (uw u) (ud u) (nI (zh (uh u))) (zl (uh u)) ++ (rows12 cy st 6 (rowS (uh u)) ++ (wX cy a q q2 ca ta u g ++ chT cy ch u)))) H := hP
                    have hD : va_D A (([(r371, .inl ((cy 0), 4, .inl (upd M i (nI v9))))] : va_W) ++ (wS5 cy b sa st ch (un u) (uw u) (ud u) (nI (zh (uh u))) (zl (uh u)) ++ (rows12 cy st 6 (rowS (uh u)) ++ (wX cy a q q2 ca ta u g ++ chT cy ch u)))) := hD
                    refine lv_iinc (v := nI (i + 1)) (lv' := [(10, .int (nI (i + 1))), (0, .ref (a 0)), (1, .ref b), (2, .int xv), (3, .int (nI k3)), (8, .int 3), (9, .ref r371)]) hx hb dL_act_458 hl (k := 6) rfl ((show (nI i) + Int32.ofInt 1 = (nI i) + 1 from rfl).trans (show (nI i) + 1 = nI (i + 1) from nI_add i 1)) (by decide) rfl (fun ls hl => ?_)
                    refine lv_goto (tgt := 383) hx hb dL_act_461 (by decide) ?_
                    exact ih383 (i + 1) (upd M i (nI v9)) (⟨by omega, by omega⟩) ((pk_un (by omega)).trans hM0) (made_s hM hv1 hv2) (by omega) _ _ hP hD hS ls (lv_sub hl [1, 2, 3, 4, 5, 6, 0] rfl)
          exact loop383 (4 + 1) 1 (upd (fun _ => 0) 0 (nI k3)) (⟨Nat.le_refl _, by decide⟩) pk_us (fun j h1 h2 => absurd h2 (by omega)) (by omega) _ _ hP hD hS ls (lv_sub hl [5, 6, 7, 4, 2, 1, 0] rfl)
        · have n362 : ¬ (k3 + 3 ≤ 12) := fun h9 => c362 ((nI_leI (a := k3 + 3) (b := 12) (by omega) (by omega)).mpr h9)
          refine lv_iconst (v := 1) hx hb dL_act_365 (by decide) ?_
          have hP9 : va_P D vwCl (wSu cy b ((u, sa, st, ch) : US × (Nat → Nat) × (Nat → Nat) × (Nat → Nat)).2.1 ((u, sa, st, ch) : US × (Nat → Nat) × (Nat → Nat) × (Nat → Nat)).2.2.1 ((u, sa, st, ch) : US × (Nat → Nat) × (Nat → Nat) × (Nat → Nat)).2.2.2 ((u, sa, st, ch) : US × (Nat → Nat) × (Nat → Nat) × (Nat → Nat)).1 ++ (wSr cy ((u, sa, st, ch) : US × (Nat → Nat) × (Nat → Nat) × (Nat → Nat)).2.2.1 ((u, sa, st, ch) : US × (Nat → Nat) × (Nat → Nat) × (Nat → Nat)).1 ++ (wX cy a q q2 ca ta ((u, sa, st, ch) : US × (Nat → Nat) × (Nat → Nat) × (Nat → Nat)).1 g ++ chT cy ((u, sa, st, ch) : US × (Nat → Nat) × (Nat → Nat) × (Nat → Nat)).2.2.2 ((u, sa, st, ch) : US × (Nat → Nat) × (Nat → Nat) × (Nat → Nat)).1))) s.heap := (pM_dropP hP)
          have hD9 : va_D A (wSu cy b ((u, sa, st, ch) : US × (Nat → Nat) × (Nat → Nat) × (Nat → Nat)).2.1 ((u, sa, st, ch) : US × (Nat → Nat) × (Nat → Nat) × (Nat → Nat)).2.2.1 ((u, sa, st, ch) : US × (Nat → Nat) × (Nat → Nat) × (Nat → Nat)).2.2.2 ((u, sa, st, ch) : US × (Nat → Nat) × (Nat → Nat) × (Nat → Nat)).1 ++ (wSr cy ((u, sa, st, ch) : US × (Nat → Nat) × (Nat → Nat) × (Nat → Nat)).2.2.1 ((u, sa, st, ch) : US × (Nat → Nat) × (Nat → Nat) × (Nat → Nat)).1 ++ (wX cy a q q2 ca ta ((u, sa, st, ch) : US × (Nat → Nat) × (Nat → Nat) × (Nat → Nat)).1 g ++ chT cy ((u, sa, st, ch) : US × (Nat → Nat) × (Nat → Nat) × (Nat → Nat)).2.2.2 ((u, sa, st, ch) : US × (Nat → Nat) × (Nat → Nat) × (Nat → Nat)).1))) := (pM_dropD hD)
          refine W.widen (k := 8) (n := 48) (Nat.le_of_ble_eq_true rfl) (Nat.le_of_ble_eq_true rfl) ?_
          exact W.zret (v := 1) hx hb hr (by decide) (fun t ht hW => ⟨⟨1, ((u, sa, st, ch) : US × (Nat → Nat) × (Nat → Nat) × (Nat → Nat)), rfl, ⟨rfl, I, rfl⟩, by rw [ht]; exact hP9, hD9⟩, hS.F ht⟩) hS.2.2 dL_act_366
      · skip
        refine lv_iadd hx hb dL_act_353 ?_
        refine pc_top (show 2 + (nI 2) = 4 from (by decide)) ?_
        refine lv_istore (lv' := [(8, .int 4), (4, .ref (st k3)), (3, .int (nI k3)), (0, .ref (a 0)), (1, .ref b), (2, .int xv)]) hx hb dL_act_354 hl (by decide) rfl (fun ls hl => ?_)
        refine lv_iload_n hx hb dL_act_356 rfl (lv_at hl 2 rfl) ?_
        refine lv_iload hx hb dL_act_357 (lv_at hl 0 rfl) ?_
        refine lv_iadd hx hb dL_act_359 ?_
        refine pc_top (show (nI k3) + 4 = nI (k3 + 4) from nI_add k3 4) ?_
        refine lv_bipush (v := 12) hx hb dL_act_360 (by decide) ?_
        refine lv_icmp_le (tgt := 367) hx hb dL_act_362 (by decide) (fun c362 => ?_) (fun c362 => ?_)
        · have n362 : k3 + 4 ≤ 12 := (nI_leI (a := k3 + 4) (b := 12) (by omega) (by omega)).mp c362
          refine lv_iconst (v := 1) hx hb dL_act_367 (by decide) ?_
          refine lv_iload hx hb dL_act_368 (lv_at hl 0 rfl) ?_
          refine lv_iadd hx hb dL_act_370 ?_
          refine pc_top (show 1 + 4 = 5 from (by decide)) ?_
          refine pc_newaF (atype := .int) (ty := .int) (N' := 5) (a0 := (5, .inl (fun _ => 0))) hx hb (hts _ kL_act_1) rfl hK hP hD hS hA 0 rfl (fun _ => rfl) (by decide) (by decide) (by decide) (Nat.le_of_ble_eq_true rfl) (Nat.le_of_ble_eq_true rfl) dL_act_371 (fun r371 H hP hD hS => ?_)
          have hP : va_P D vwCl (([(r371, .inl ((cy 0), 5, .inl (fun _ => 0)))] : va_W) ++ (wS5 cy b sa st ch (un u) (uw u) (ud u) (nI (zh (uh u))) (zl (uh u)) ++ (rows12 cy st 6 (rowS (uh u)) ++ (wX cy a q q2 ca ta u g ++ chT cy ch u)))) H := hP
          have hD : va_D A (([(r371, .inl ((cy 0), 5, .inl (fun _ => 0)))] : va_W) ++ (wS5 cy b sa st ch (un u) (uw u) (ud u) (nI (zh (uh u))) (zl (uh u)) ++ (rows12 cy st 6 (rowS (uh u)) ++ (wX cy a q q2 ca ta u g ++ chT cy ch u)))) := hD
          refine W.widen (k := 1) (n := 5) (Nat.le_of_ble_eq_true rfl) (Nat.le_of_ble_eq_true rfl) ?_
          refine lv_astore (lv' := [(9, .ref r371), (8, .int 4), (4, .ref (st k3)), (3, .int (nI k3)), (0, .ref (a 0)), (1, .ref b), (2, .int xv)]) hx hb dL_act_373 hl (by decide) rfl (fun ls hl => ?_)
          refine lv_aload hx hb dL_act_375 (lv_at hl 0 rfl) ?_
          refine lv_iconst (v := 0) hx hb dL_act_377 (by decide) ?_
          refine lv_iload_n hx hb dL_act_378 rfl (lv_at hl 3 rfl) ?_
          refine pc_iast hx hb hK hP hD hS 0 0 rfl rfl (k := 0) (show 0 < 5 by omega) (by decide) dL_act_379 (fun H locs hP hD hS => ?_)
          have hP : va_P D vwCl (([(r371, .inl ((cy 0), 5, .inl (upd (fun _ => 0) 0 (nI k3))))] : va_W) ++ (wS5 cy b sa st ch (un u) (uw u) (ud u) (nI (zh (uh u))) (zl (uh u)) ++ (rows12 cy st 6 (rowS (uh u)) ++ (wX cy a q q2 ca ta u g ++ chT cy ch u)))) H := hP
          have hD : va_D A (([(r371, .inl ((cy 0), 5, .inl (upd (fun _ => 0) 0 (nI k3))))] : va_W) ++ (wS5 cy b sa st ch (un u) (uw u) (ud u) (nI (zh (uh u))) (zl (uh u)) ++ (rows12 cy st 6 (rowS (uh u)) ++ (wX cy a q q2 ca ta u g ++ chT cy ch u)))) := hD
          refine lv_iconst (v := 1) hx hb dL_act_380 (by decide) ?_
          refine lv_istore (lv' := [(10, .int 1), (9, .ref r371), (8, .int 4), (4, .ref (st k3)), (3, .int (nI k3)), (0, .ref (a 0)), (1, .ref b), (2, .int xv)]) hx hb dL_act_381 hl (by decide) rfl (fun ls hl => ?_)
          have loop383 : ∀ (n9 : Nat) (i : Nat) (M : Nat → Int32), (1 ≤ i ∧ i ≤ 5) → M 0 = nI k3 → (∀ j, 1 ≤ j → j < i → ∃ t, 1 ≤ t ∧ t ≤ 1500 ∧ M j = nI t) → 5 - i < n9 → ∀ (H : Heap) (locs : List Loc), va_P D vwCl (([(r371, .inl ((cy 0), 5, .inl M))] : va_W) ++ (wS5 cy b sa st ch (un u) (uw u) (ud u) (nI (zh (uh u))) (zl (uh u)) ++ (rows12 cy st 6 (rowS (uh u)) ++ (wX cy a q q2 ca ta u g ++ chT cy ch u)))) H → va_D A (([(r371, .inl ((cy 0), 5, .inl M))] : va_W) ++ (wS5 cy b sa st ch (un u) (uw u) (ud u) (nI (zh (uh u))) (zl (uh u)) ++ (rows12 cy st 6 (rowS (uh u)) ++ (wX cy a q q2 ca ta u g ++ chT cy ch u)))) → va_S A s.heap H locs → ∀ ls : Array Slot, lv_has ls 12 [(0, .ref (a 0)), (1, .ref b), (2, .int xv), (3, .int (nI k3)), (8, .int 4), (9, .ref r371), (10, .int (nI i))] → W p l e (headSpec wsL_act ({ frames := 12, cells := 8, slots := 48, locals := 300 } : Room)).room s m ([.ref (a 0), .ref b, .int xv] : List Value).toArray below meth c H locs 1 5 (MQ below (va_Qi (fun (r8 : Int32) (z9 : US × (Nat → Nat) × (Nat → Nat) × (Nat → Nat)) => r8 = 1 ∧ INV z9.1 ∧ zh (uh z9.1) = zh (uh u)) (fun (z9 : US × (Nat → Nat) × (Nat → Nat) × (Nat → Nat)) t => va_P D vwCl (wSu cy b z9.2.1 z9.2.2.1 z9.2.2.2 z9.1 ++ (wSr cy z9.2.2.1 z9.1 ++ (wX cy a q q2 ca ta z9.1 g ++ chT cy z9.2.2.2 z9.1))) t.heap ∧ va_D A (wSu cy b z9.2.1 z9.2.2.1 z9.2.2.2 z9.1 ++ (wSr cy z9.2.2.1 z9.1 ++ (wX cy a q q2 ca ta z9.1 g ++ chT cy z9.2.2.2 z9.1)))) A) ([.ref (a 0), .ref b, .int xv] : List Value).toArray s 8 48 A) (F0 m 383 ls []) := by
            intro n9
            induction n9 with
            | zero => intro i M hi hM0 hM h9 H locs hP hD hS ls hl; exact absurd h9 (by omega)
            | succ n9 ih383 =>
              intro i M hi hM0 hM h9 H locs hP hD hS ls hl
              refine lv_iload hx hb dL_act_383 (lv_at hl 6 rfl) ?_
              refine lv_iload hx hb dL_act_385 (lv_at hl 4 rfl) ?_
              refine lv_icmp_gt (tgt := 464) hx hb dL_act_387 (by decide) (fun c387 => ?_) (fun c387 => ?_)
              · have n387 : 4 < i := (nI_ltI (a := 4) (b := i) (by omega) (by omega)).mp c387
                refine lv_aload_n hx hb dL_act_464 rfl (lv_at hl 1 rfl) ?_
                refine va_get (D := D) (ci := 3) (v := .ref (sa 1)) (C := RX3) (T := TX3) (N := 6) hx hb hts inL_act_RX3 hown hK hP 1 rfl rfl 1 (by decide) (hts _ kL_act_4) (fun _ h9 => h9) rfl dL_act_465 ?_
                refine pc_alenA hx hb hkp hP 3 rfl (v := nI (un u)) rfl dL_act_468 ?_
                refine lv_iconst (v := 1) hx hb dL_act_469 (by decide) ?_
                refine lv_iadd hx hb dL_act_470 ?_
                refine pc_top (show (nI (un u)) + 1 = nI (un u + 1) from nI_add (un u) 1) ?_
                refine pc_newqAF hx hb hown (hts _ kL_act_5) hkp hP hD hS hA (N' := un u + 1) (nI_neg (show un u + 1 < 2147483648 by omega)) (nI_clamp (show un u + 1 < 2147483648 by omega)) (show (un u + 1) * 4 ≤ 536870912 by omega) (show 1 + 1 ≤ 8 by omega) (show 5 + un u + 1 ≤ 48 by omega) dL_act_471 (fun r471 H hP hD hS => ?_)
                have hP : va_P D vwCl (([(r471, .inl ((cy 4), un u + 1, .inr (.inr (.inr (.inr (fun _ => none)))))), (r371, .inl ((cy 0), 5, .inl M))] : va_W) ++ (wS5 cy b sa st ch (un u) (uw u) (ud u) (nI (zh (uh u))) (zl (uh u)) ++ (rows12 cy st 6 (rowS (uh u)) ++ (wX cy a q q2 ca ta u g ++ chT cy ch u)))) H := hP
                have hD : va_D A (([(r471, .inl ((cy 4), un u + 1, .inr (.inr (.inr (.inr (fun _ => none)))))), (r371, .inl ((cy 0), 5, .inl M))] : va_W) ++ (wS5 cy b sa st ch (un u) (uw u) (ud u) (nI (zh (uh u))) (zl (uh u)) ++ (rows12 cy st 6 (rowS (uh u)) ++ (wX cy a q q2 ca ta u g ++ chT cy ch u)))) := hD
                refine W.widen (k := 2) (n := 11) (by omega) (by omega) ?_
                refine lv_astore (lv' := [(10, .ref r471), (0, .ref (a 0)), (1, .ref b), (2, .int xv), (3, .int (nI k3)), (8, .int 4), (9, .ref r371)]) hx hb dL_act_474 hl (by decide) rfl (fun ls hl => ?_)
                have e9 : ((fun _ => none)) = cpF ch 0 := (cpF_0 _)
                rw [e9] at hP hD
                clear e9
                have hP : va_P D vwCl (([(r471, .inl ((cy 4), un u + 1, .inr (.inr (.inr (.inr (cpF ch 0)))))), (r371, .inl ((cy 0), 5, .inl M))] : va_W) ++ (wS5 cy b sa st ch (un u) (uw u) (ud u) (nI (zh (uh u))) (zl (uh u)) ++ (rows12 cy st 6 (rowS (uh u)) ++ (wX cy a q q2 ca ta u g ++ chT cy ch u)))) H := hP
                have hD : va_D A (([(r471, .inl ((cy 4), un u + 1, .inr (.inr (.inr (.inr (cpF ch 0)))))), (r371, .inl ((cy 0), 5, .inl M))] : va_W) ++ (wS5 cy b sa st ch (un u) (uw u) (ud u) (nI (zh (uh u))) (zl (uh u)) ++ (rows12 cy st 6 (rowS (uh u)) ++ (wX cy a q q2 ca ta u g ++ chT cy ch u)))) := hD
                refine lv_iconst (v := 0) hx hb dL_act_476 (by decide) ?_
                refine lv_istore (lv' := [(11, .int 0), (10, .ref r471), (0, .ref (a 0)), (1, .ref b), (2, .int xv), (3, .int (nI k3)), (8, .int 4), (9, .ref r371)]) hx hb dL_act_477 hl (by decide) rfl (fun ls hl => ?_)
                have loop479 : ∀ (n9 : Nat) (jj : Nat), jj ≤ un u → un u - jj < n9 → ∀ (H : Heap) (locs : List Loc), va_P D vwCl (([(r471, .inl ((cy 4), un u + 1, .inr (.inr (.inr (.inr (cpF ch jj)))))), (r371, .inl ((cy 0), 5, .inl M))] : va_W) ++ (wS5 cy b sa st ch (un u) (uw u) (ud u) (nI (zh (uh u))) (zl (uh u)) ++ (rows12 cy st 6 (rowS (uh u)) ++ (wX cy a q q2 ca ta u g ++ chT cy ch u)))) H → va_D A (([(r471, .inl ((cy 4), un u + 1, .inr (.inr (.inr (.inr (cpF ch jj)))))), (r371, .inl ((cy 0), 5, .inl M))] : va_W) ++ (wS5 cy b sa st ch (un u) (uw u) (ud u) (nI (zh (uh u))) (zl (uh u)) ++ (rows12 cy st 6 (rowS (uh u)) ++ (wX cy a q q2 ca ta u g ++ chT cy ch u)))) → va_S A s.heap H locs → ∀ ls : Array Slot, lv_has ls 12 [(0, .ref (a 0)), (1, .ref b), (2, .int xv), (3, .int (nI k3)), (8, .int 4), (9, .ref r371), (10, .ref r471), (11, .int (nI jj))] → W p l e (headSpec wsL_act ({ frames := 12, cells := 8, slots := 48, locals := 300 } : Room)).room s m ([.ref (a 0), .ref b, .int xv] : List Value).toArray below meth c H locs 2 11 (MQ below (va_Qi (fun (r8 : Int32) (z9 : US × (Nat → Nat) × (Nat → Nat) × (Nat → Nat)) => r8 = 1 ∧ INV z9.1 ∧ zh (uh z9.1) = zh (uh u)) (fun (z9 : US × (Nat → Nat) × (Nat → Nat) × (Nat → Nat)) t => va_P D vwCl (wSu cy b z9.2.1 z9.2.2.1 z9.2.2.2 z9.1 ++ (wSr cy z9.2.2.1 z9.1 ++ (wX cy a q q2 ca ta z9.1 g ++ chT cy z9.2.2.2 z9.1))) t.heap ∧ va_D A (wSu cy b z9.2.1 z9.2.2.1 z9.2.2.2 z9.1 ++ (wSr cy z9.2.2.1 z9.1 ++ (wX cy a q q2 ca ta z9.1 g ++ chT cy z9.2.2.2 z9.1)))) A) ([.ref (a 0), .ref b, .int xv] : List Value).toArray s 8 48 A) (F0 m 479 ls []) := by
                  intro n9
                  induction n9 with
                  | zero => intro jj hjj h9 H locs hP hD hS ls hl; exact absurd h9 (by omega)
                  | succ n9 ih479 =>
                    intro jj hjj h9 H locs hP hD hS ls hl
                    refine lv_iload hx hb dL_act_479 (lv_at hl 7 rfl) ?_
                    refine lv_aload_n hx hb dL_act_481 rfl (lv_at hl 1 rfl) ?_
                    refine va_get (D := D) (ci := 3) (v := .ref (sa 1)) (C := RX3) (T := TX3) (N := 6) hx hb hts inL_act_RX3 hown hK hP 2 rfl rfl 1 (by decide) (hts _ kL_act_4) (fun _ h9 => h9) rfl dL_act_482 ?_
                    refine pc_alenA hx hb hkp hP 4 rfl (v := nI (un u)) rfl dL_act_485 ?_
                    refine lv_icmp_ge (tgt := 507) hx hb dL_act_486 (by decide) (fun c486 => ?_) (fun c486 => ?_)
                    · have n486 : un u ≤ jj := (nI_leI (a := un u) (b := jj) (by omega) (by omega)).mp c486
                      have e9 : (cpF ch jj) = cpF ch (un u) := (by rw [show jj = un u by omega])
                      rw [e9] at hP hD
                      clear e9
                      have hP : va_P D vwCl (([(r471, .inl ((cy 4), un u + 1, .inr (.inr (.inr (.inr (cpF ch (un u))))))), (r371, .inl ((cy 0), 5, .inl M))] : va_W) ++ (wS5 cy b sa st ch (un u) (uw u) (ud u) (nI (zh (uh u))) (zl (uh u)) ++ (rows12 cy st 6 (rowS (uh u)) ++ (wX cy a q q2 ca ta u g ++ chT cy ch u)))) H := hP
                      have hD : va_D A (([(r471, .inl ((cy 4), un u + 1, .inr (.inr (.inr (.inr (cpF ch (un u))))))), (r371, .inl ((cy 0), 5, .inl M))] : va_W) ++ (wS5 cy b sa st ch (un u) (uw u) (ud u) (nI (zh (uh u))) (zl (uh u)) ++ (rows12 cy st 6 (rowS (uh u)) ++ (wX cy a q q2 ca ta u g ++ chT cy ch u)))) := hD
                      refine lv_aload hx hb dL_act_507 (lv_at hl 6 rfl) ?_
                      refine lv_aload_n hx hb dL_act_509 rfl (lv_at hl 1 rfl) ?_
                      refine va_get (D := D) (ci := 3) (v := .ref (sa 1)) (C := RX3) (T := TX3) (N := 6) hx hb hts inL_act_RX3 hown hK hP 2 rfl rfl 1 (by decide) (hts _ kL_act_4) (fun _ h9 => h9) rfl dL_act_510 ?_
                      refine pc_alenA hx hb hkp hP 4 rfl (v := nI (un u)) rfl dL_act_513 ?_
                      refine lv_aload hx hb dL_act_514 (lv_at hl 5 rfl) ?_
                      refine pc_astA hx hb hK hkp hP hD hS 0 1 rfl rfl (k := un u) (show un u < un u + 1 by omega) (by omega) dL_act_516 (fun H locs hP hD hS => ?_)
                      have hP : va_P D vwCl (([(r471, .inl ((cy 4), un u + 1, .inr (.inr (.inr (.inr (va_up (cpF ch (un u)) (un u) (some r371))))))), (r371, .inl ((cy 0), 5, .inl M))] : va_W) ++ (wS5 cy b sa st ch (un u) (uw u) (ud u) (nI (zh (uh u))) (zl (uh u)) ++ (rows12 cy st 6 (rowS (uh u)) ++ (wX cy a q q2 ca ta u g ++ chT cy ch u)))) H := hP
                      have hD : va_D A (([(r471, .inl ((cy 4), un u + 1, .inr (.inr (.inr (.inr (va_up (cpF ch (un u)) (un u) (some r371))))))), (r371, .inl ((cy 0), 5, .inl M))] : va_W) ++ (wS5 cy b sa st ch (un u) (uw u) (ud u) (nI (zh (uh u))) (zl (uh u)) ++ (rows12 cy st 6 (rowS (uh u)) ++ (wX cy a q q2 ca ta u g ++ chT cy ch u)))) := hD
                      obtain ⟨t1, ta1, tb1, te1⟩ := hM 1 (by omega) (by omega)
                      obtain ⟨t2, ta2, tb2, te2⟩ := hM 2 (by omega) (by omega)
                      obtain ⟨t3, ta3, tb3, te3⟩ := hM 3 (by omega) (by omega)
                      obtain ⟨t4, ta4, tb4, te4⟩ := hM 4 (by omega) (by omega)
                      have hP := va_P_rowq (g := fun i => some (sup ch (un u) r371 i)) hP 0 rfl (cpF_end ch (un u) r371)
                      have hP := va_P_row (g := rowC (uCh u k3 4 (nI t1) (nI t2) (nI t3) (nI t4)) (un u)) hP 1 rfl (made_row4 hM0 te1 te2 te3 te4)
                      have hP : va_P D vwCl (([(r471, .inl ((cy 4), un u + 1, .inr (.inr (.inr (.inr (fun i => some (sup ch (un u) r371 i))))))), (r371, .inl ((cy 0), 5, .inl (rowC (uCh u k3 4 (nI t1) (nI t2) (nI t3) (nI t4)) (un u))))] : va_W) ++ (wS5 cy b sa st ch (un u) (uw u) (ud u) (nI (zh (uh u))) (zl (uh u)) ++ (rows12 cy st 6 (rowS (uh u)) ++ (wX cy a q q2 ca ta u g ++ chT cy ch u)))) H := hP
                      have hD : va_D A (([(r471, .inl ((cy 4), un u + 1, .inr (.inr (.inr (.inr (fun i => some (sup ch (un u) r371 i))))))), (r371, .inl ((cy 0), 5, .inl (rowC (uCh u k3 4 (nI t1) (nI t2) (nI t3) (nI t4)) (un u))))] : va_W) ++ (wS5 cy b sa st ch (un u) (uw u) (ud u) (nI (zh (uh u))) (zl (uh u)) ++ (rows12 cy st 6 (rowS (uh u)) ++ (wX cy a q q2 ca ta u g ++ chT cy ch u)))) := va_D_addr hD rfl
                      refine lv_aload_n hx hb dL_act_517 rfl (lv_at hl 1 rfl) ?_
                      refine lv_aload hx hb dL_act_518 (lv_at hl 6 rfl) ?_
                      refine va_put (D := D) (ci := 3) (v := .ref r471) (ty := .array (.array .int)) (C := RX3) (T := TX3) (N := 6) hx hb hts inL_act_RX3 tyX3 tyX3_ok nmX3 hown hK hP hD hS 2 rfl rfl 1 (by decide) (hts _ kL_act_4) (fun _ h9 => h9) rfl (by decide +kernel) rfl rfl (Nat.le_of_ble_eq_true rfl) dL_act_520 (fun H locs hP hD hS => ?_)
                      have hP := pM_forP (x := (r471, .inl ((cy 4), un u + 1, .inr (.inr (.inr (.inr (fun i => some (sup ch (un u) r371 i)))))))) (y := (sa 1, .inl (cy 4, un u, qf (fun i => some (ch i))))) (P := [(r371, .inl ((cy 0), 5, .inl (rowC (uCh u k3 4 (nI t1) (nI t2) (nI t3) (nI t4)) (un u)))), (b, .inr (3, [.ref (sa 0), .ref r471, .ref (sa 2), .ref (sa 3), .int (nI (zh (uh u))), .int (zl (uh u))])), (sa 0, .inl (cy 4, 12, qf (fun i => some (st i))))]) (Q := [(sa 2, .inl (cy 0, 12, .inl (uw u))), (sa 3, .inl (cy 0, 12, .inl (ud u)))] ++ (rows12 cy st 6 (rowS (uh u)) ++ (wX cy a q q2 ca ta u g ++ chT cy ch u))) hP
                      have hD := pM_forD (x := (r471, .inl ((cy 4), un u + 1, .inr (.inr (.inr (.inr (fun i => some (sup ch (un u) r371 i)))))))) (y := (sa 1, .inl (cy 4, un u, qf (fun i => some (ch i))))) (P := [(r371, .inl ((cy 0), 5, .inl (rowC (uCh u k3 4 (nI t1) (nI t2) (nI t3) (nI t4)) (un u)))), (b, .inr (3, [.ref (sa 0), .ref r471, .ref (sa 2), .ref (sa 3), .int (nI (zh (uh u))), .int (zl (uh u))])), (sa 0, .inl (cy 4, 12, qf (fun i => some (st i))))]) (Q := [(sa 2, .inl (cy 0, 12, .inl (uw u))), (sa 3, .inl (cy 0, 12, .inl (ud u)))] ++ (rows12 cy st 6 (rowS (uh u)) ++ (wX cy a q q2 ca ta u g ++ chT cy ch u))) hD
                      have hP : va_P D vwCl (([(r371, .inl ((cy 0), 5, .inl (rowC (uCh u k3 4 (nI t1) (nI t2) (nI t3) (nI t4)) (un u))))] : va_W) ++ (wS5 cy b (sup sa 1 r471) st (sup ch (un u) r371) (un u + 1) (uw u) (ud u) (nI (zh (uh u))) (zl (uh u)) ++ (rows12 cy st 6 (rowS (uh u)) ++ (wX cy a q q2 ca ta u g ++ chT cy ch u)))) H := hP
                      have hD : va_D A (([(r371, .inl ((cy 0), 5, .inl (rowC (uCh u k3 4 (nI t1) (nI t2) (nI t3) (nI t4)) (un u))))] : va_W) ++ (wS5 cy b (sup sa 1 r471) st (sup ch (un u) r371) (un u + 1) (uw u) (ud u) (nI (zh (uh u))) (zl (uh u)) ++ (rows12 cy st 6 (rowS (uh u)) ++ (wX cy a q q2 ca ta u g ++ chT cy ch u)))) := hD
                      refine lv_aload_n hx hb dL_act_523 rfl (lv_at hl 0 rfl) ?_
                      refine lv_iload_n hx hb dL_act_524 rfl (lv_at hl 3 rfl) ?_
                      refine lv_aload hx hb dL_act_525 (lv_at hl 5 rfl) ?_
                      refine lv_iconst (v := 1) hx hb dL_act_527 (by decide) ?_
                      refine pc_iald hx hb hK hP 0 0 rfl rfl (k := 1) (show 1 < 5 by omega) (by decide) dL_act_528 ?_
                      refine pc_top (show (rowC (uCh u k3 4 (nI t1) (nI t2) (nI t3) (nI t4)) (un u)) 1 = nI t1 from rowC_1) ?_
                      refine lv_aload hx hb dL_act_529 (lv_at hl 5 rfl) ?_
                      refine lv_iconst (v := 2) hx hb dL_act_531 (by decide) ?_
                      refine pc_iald hx hb hK hP 0 0 rfl rfl (k := 2) (show 2 < 5 by omega) (by decide) dL_act_532 ?_
                      refine pc_top (show (rowC (uCh u k3 4 (nI t1) (nI t2) (nI t3) (nI t4)) (un u)) 2 = nI t2 from rowC_2) ?_
                      refine lv_iload hx hb dL_act_533 (lv_at hl 4 rfl) ?_
                      refine lv_iconst (v := 2) hx hb dL_act_535 (by decide) ?_
                      refine lv_icmp_le (tgt := 546) hx hb dL_act_536 (by decide) (fun c536 => absurd c536 (by decide)) (fun c536 => ?_)
                      have n536 : ¬ (4 ≤ 2) := fun h9 => c536 ((nI_leI (a := 4) (b := 2) (by omega) (by omega)).mpr h9)
                      refine lv_aload hx hb dL_act_539 (lv_at hl 5 rfl) ?_
                      refine lv_iconst (v := 3) hx hb dL_act_541 (by decide) ?_
                      refine pc_iald hx hb hK hP 0 0 rfl rfl (k := 3) (show 3 < 5 by omega) (by decide) dL_act_542 ?_
                      refine pc_top (show (rowC (uCh u k3 4 (nI t1) (nI t2) (nI t3) (nI t4)) (un u)) 3 = nI t3 from rowC_3) ?_
                      refine lv_goto (tgt := 547) hx hb dL_act_543 (by decide) ?_
                      refine lv_iload hx hb dL_act_547 (lv_at hl 4 rfl) ?_
                      refine lv_iconst (v := 3) hx hb dL_act_549 (by decide) ?_
                      refine lv_icmp_le (tgt := 560) hx hb dL_act_550 (by decide) (fun c550 => absurd c550 (by decide)) (fun c550 => ?_)
                      have n550 : ¬ (4 ≤ 3) := fun h9 => c550 ((nI_leI (a := 4) (b := 3) (by omega) (by omega)).mpr h9)
                      refine lv_aload hx hb dL_act_553 (lv_at hl 5 rfl) ?_
                      refine lv_iconst (v := 4) hx hb dL_act_555 (by decide) ?_
                      refine pc_iald hx hb hK hP 0 0 rfl rfl (k := 4) (show 4 < 5 by omega) (by decide) dL_act_556 ?_
                      refine pc_top (show (rowC (uCh u k3 4 (nI t1) (nI t2) (nI t3) (nI t4)) (un u)) 4 = nI t4 from rowC_4) ?_
                      refine lv_goto (tgt := 561) hx hb dL_act_557 (by decide) ?_
                      refine cls_w (Lc := ([(r371, .inl ((cy 0), 5, .inl (rowC (uCh u k3 4 (nI t1) (nI t2) (nI t3) (nI t4)) (un u))))] : va_W)) (S5 := wS5 cy b (sup sa 1 r471) st (sup ch (un u) r371) (un u + 1) (uw u) (ud u) (nI (zh (uh u))) (zl (uh u))) (S12 := rows12 cy st 6 (rowS (uh u))) (T := chT cy ch u) (As := [.int (nI k3), .int (nI t1), .int (nI t2), .int (nI t3), .int (nI t4)]) (rest := []) (uf := fun (_ : Unit) => uCh u (ix (nI k3)) (chSz (nI t3) (nI t4)) (nI t1) (nI t2) (nI t3) (nI t4)) (gf := fun (_ : Unit) => g) hP hD hS hA hK hXA ⟨hx, hb, hml, hown, hts⟩ (mX2_chord l hst D cy H.size a q q2 ca ta u g I.1 (nI k3) (nI t1) (nI t2) (nI t3) (nI t4)) (fun E h => h.2 (exCh_0 (t0 := t1) (t1 := t2) (t2 := t3) (t3 := t4) hk3 ta1 tb1 ta2 tb2 tb3 tb4 (by omega) (by rw [chSz_4 ta3 tb3 ta4 tb4]; omega) (by omega))) (cwV 5 hts gL_act_X2_chord rfl rfl rfl (by decide +kernel) ⟨Nat.le_of_ble_eq_true rfl, Nat.le_of_ble_eq_true rfl⟩) rfl rfl hl.1 (Nat.le_of_ble_eq_true rfl) dL_act_561 ⟨Nat.le_of_ble_eq_true rfl, Nat.le_of_ble_eq_true rfl⟩ (fun _ H locs hP hD hS => ?_)
                      have hP : va_P D vwCl (([(r371, .inl ((cy 0), 5, .inl (rowC (uCh u k3 4 (nI t1) (nI t2) (nI t3) (nI t4)) (un u))))] : va_W) ++ (wS5 cy b (sup sa 1 r471) st (sup ch (un u) r371) (un u + 1) (uw u) (ud u) (nI (zh (uh u))) (zl (uh u)) ++ (rows12 cy st 6 (rowS (uh u)) ++ (wX cy a q q2 ca ta (uCh u (ix (nI k3)) (chSz (nI t3) (nI t4)) (nI t1) (nI t2) (nI t3) (nI t4)) g ++ chT cy ch u)))) H := hP
                      have hD : va_D A (([(r371, .inl ((cy 0), 5, .inl (rowC (uCh u k3 4 (nI t1) (nI t2) (nI t3) (nI t4)) (un u))))] : va_W) ++ (wS5 cy b (sup sa 1 r471) st (sup ch (un u) r371) (un u + 1) (uw u) (ud u) (nI (zh (uh u))) (zl (uh u)) ++ (rows12 cy st 6 (rowS (uh u)) ++ (wX cy a q q2 ca ta (uCh u (ix (nI k3)) (chSz (nI t3) (nI t4)) (nI t1) (nI t2) (nI t3) (nI t4)) g ++ chT cy ch u)))) := hD
                      refine W.widen (k := 8) (n := 47) (Nat.le_of_ble_eq_true rfl) (Nat.le_of_ble_eq_true rfl) ?_
                      rw [ixk, chSz_4 ta3 tb3 ta4 tb4] at hP hD
                      have hP : va_P D vwCl (([(r371, .inl ((cy 0), 5, .inl (rowC (uCh u k3 4 (nI t1) (nI t2) (nI t3) (nI t4)) (un u))))] : va_W) ++ (wS5 cy b (sup sa 1 r471) st (sup ch (un u) r371) (un u + 1) (uw u) (ud u) (nI (zh (uh u))) (zl (uh u)) ++ (rows12 cy st 6 (rowS (uh u)) ++ (wX cy a q q2 ca ta (uCh u k3 4 (nI t1) (nI t2) (nI t3) (nI t4)) g ++ chT cy ch u)))) H := hP
                      have hD : va_D A (([(r371, .inl ((cy 0), 5, .inl (rowC (uCh u k3 4 (nI t1) (nI t2) (nI t3) (nI t4)) (un u))))] : va_W) ++ (wS5 cy b (sup sa 1 r471) st (sup ch (un u) r371) (un u + 1) (uw u) (ud u) (nI (zh (uh u))) (zl (uh u)) ++ (rows12 cy st 6 (rowS (uh u)) ++ (wX cy a q q2 ca ta (uCh u k3 4 (nI t1) (nI t2) (nI t3) (nI t4)) g ++ chT cy ch u)))) := hD
                      refine lv_aload hx hb dL_act_564 (lv_at hl 6 rfl) ?_
                      refine pc_alenA hx hb hkp hP 3 rfl (v := nI (un u + 1)) rfl dL_act_566 ?_
                      refine lv_iconst (v := 1) hx hb dL_act_567 (by decide) ?_
                      refine lv_isub hx hb dL_act_568 ?_
                      refine pc_top (show (nI (un u + 1)) - 1 = nI ((un u + 1) - 1) from pk_sub (a := un u + 1) (b := 1) (by omega)) ?_
                      refine pc_top (show nI ((un u + 1) - 1) = nI (un u) from (by rw [Nat.add_sub_cancel])) ?_
                      refine lv_icmp_ne (tgt := 576) hx hb dL_act_569 (by decide) (fun c569 => absurd c569 (not_not_intro rfl)) (fun c569 => ?_)
                      have n569 : un u = un u := (nI_eq (a := un u) (b := un u) (by omega) (by omega)).mp c569
                      refine lv_iconst (v := 1) hx hb dL_act_572 (by decide) ?_
                      refine lv_goto (tgt := 577) hx hb dL_act_573 (by decide) ?_
                      refine W.widen (k := 8) (n := 48) (by omega) (by omega) ?_
                      have hP9 : va_P D vwCl (wSu cy b ((uCh u k3 4 (nI t1) (nI t2) (nI t3) (nI t4), sup sa 1 r471, st, sup ch (un u) r371) : US × (Nat → Nat) × (Nat → Nat) × (Nat → Nat)).2.1 ((uCh u k3 4 (nI t1) (nI t2) (nI t3) (nI t4), sup sa 1 r471, st, sup ch (un u) r371) : US × (Nat → Nat) × (Nat → Nat) × (Nat → Nat)).2.2.1 ((uCh u k3 4 (nI t1) (nI t2) (nI t3) (nI t4), sup sa 1 r471, st, sup ch (un u) r371) : US × (Nat → Nat) × (Nat → Nat) × (Nat → Nat)).2.2.2 ((uCh u k3 4 (nI t1) (nI t2) (nI t3) (nI t4), sup sa 1 r471, st, sup ch (un u) r371) : US × (Nat → Nat) × (Nat → Nat) × (Nat → Nat)).1 ++ (wSr cy ((uCh u k3 4 (nI t1) (nI t2) (nI t3) (nI t4), sup sa 1 r471, st, sup ch (un u) r371) : US × (Nat → Nat) × (Nat → Nat) × (Nat → Nat)).2.2.1 ((uCh u k3 4 (nI t1) (nI t2) (nI t3) (nI t4), sup sa 1 r471, st, sup ch (un u) r371) : US × (Nat → Nat) × (Nat → Nat) × (Nat → Nat)).1 ++ (wX cy a q q2 ca ta ((uCh u k3 4 (nI t1) (nI t2) (nI t3) (nI t4), sup sa 1 r471, st, sup ch (un u) r371) : US × (Nat → Nat) × (Nat → Nat) × (Nat → Nat)).1 g ++ chT cy ((uCh u k3 4 (nI t1) (nI t2) (nI t3) (nI t4), sup sa 1 r471, st, sup ch (un u) r371) : US × (Nat → Nat) × (Nat → Nat) × (Nat → Nat)).2.2.2 ((uCh u k3 4 (nI t1) (nI t2) (nI t3) (nI t4), sup sa 1 r471, st, sup ch (un u) r371) : US × (Nat → Nat) × (Nat → Nat) × (Nat → Nat)).1))) H := (by show va_P D vwCl (wSu cy b (sup sa 1 r471) st (sup ch (un u) r371) (uCh u k3 4 (nI t1) (nI t2) (nI t3) (nI t4)) ++ (wSr cy st (uCh u k3 4 (nI t1) (nI t2) (nI t3) (nI t4)) ++ (wX cy a q q2 ca ta (uCh u k3 4 (nI t1) (nI t2) (nI t3) (nI t4)) g ++ chT cy (sup ch (un u) r371) (uCh u k3 4 (nI t1) (nI t2) (nI t3) (nI t4))))) H; rw [← chT_new]; exact act_endP hP)
                      have hD9 : va_D A (wSu cy b ((uCh u k3 4 (nI t1) (nI t2) (nI t3) (nI t4), sup sa 1 r471, st, sup ch (un u) r371) : US × (Nat → Nat) × (Nat → Nat) × (Nat → Nat)).2.1 ((uCh u k3 4 (nI t1) (nI t2) (nI t3) (nI t4), sup sa 1 r471, st, sup ch (un u) r371) : US × (Nat → Nat) × (Nat → Nat) × (Nat → Nat)).2.2.1 ((uCh u k3 4 (nI t1) (nI t2) (nI t3) (nI t4), sup sa 1 r471, st, sup ch (un u) r371) : US × (Nat → Nat) × (Nat → Nat) × (Nat → Nat)).2.2.2 ((uCh u k3 4 (nI t1) (nI t2) (nI t3) (nI t4), sup sa 1 r471, st, sup ch (un u) r371) : US × (Nat → Nat) × (Nat → Nat) × (Nat → Nat)).1 ++ (wSr cy ((uCh u k3 4 (nI t1) (nI t2) (nI t3) (nI t4), sup sa 1 r471, st, sup ch (un u) r371) : US × (Nat → Nat) × (Nat → Nat) × (Nat → Nat)).2.2.1 ((uCh u k3 4 (nI t1) (nI t2) (nI t3) (nI t4), sup sa 1 r471, st, sup ch (un u) r371) : US × (Nat → Nat) × (Nat → Nat) × (Nat → Nat)).1 ++ (wX cy a q q2 ca ta ((uCh u k3 4 (nI t1) (nI t2) (nI t3) (nI t4), sup sa 1 r471, st, sup ch (un u) r371) : US × (Nat → Nat) × (Nat → Nat) × (Nat → Nat)).1 g ++ chT cy ((uCh u k3 4 (nI t1) (nI t2) (nI t3) (nI t4), sup sa 1 r471, st, sup ch (un u) r371) : US × (Nat → Nat) × (Nat → Nat) × (Nat → Nat)).2.2.2 ((uCh u k3 4 (nI t1) (nI t2) (nI t3) (nI t4), sup sa 1 r471, st, sup ch (un u) r371) : US × (Nat → Nat) × (Nat → Nat) × (Nat → Nat)).1))) := (by show va_D A (wSu cy b (sup sa 1 r471) st (sup ch (un u) r371) (uCh u k3 4 (nI t1) (nI t2) (nI t3) (nI t4)) ++ (wSr cy st (uCh u k3 4 (nI t1) (nI t2) (nI t3) (nI t4)) ++ (wX cy a q q2 ca ta (uCh u k3 4 (nI t1) (nI t2) (nI t3) (nI t4)) g ++ chT cy (sup ch (un u) r371) (uCh u k3 4 (nI t1) (nI t2) (nI t3) (nI t4))))); rw [← chT_new]; exact act_endD hD)
                      exact W.zret (v := 1) hx hb hr (by decide) (fun t ht hW => ⟨⟨1, ((uCh u k3 4 (nI t1) (nI t2) (nI t3) (nI t4), sup sa 1 r471, st, sup ch (un u) r371) : US × (Nat → Nat) × (Nat → Nat) × (Nat → Nat)), rfl, ⟨rfl, INV_ch4 I (by omega) (by omega) ta1 tb1 ta2 tb2 ta3 tb3 ta4 tb4, rfl⟩, by rw [ht]; exact hP9, hD9⟩, hS.F ht⟩) hS.2.2 dL_act_577
                    · have n486 : ¬ (un u ≤ jj) := fun h9 => c486 ((nI_leI (a := un u) (b := jj) (by omega) (by omega)).mpr h9)
                      refine lv_aload hx hb dL_act_489 (lv_at hl 6 rfl) ?_
                      refine lv_iload hx hb dL_act_491 (lv_at hl 7 rfl) ?_
                      refine lv_aload_n hx hb dL_act_493 rfl (lv_at hl 1 rfl) ?_
                      refine va_get (D := D) (ci := 3) (v := .ref (sa 1)) (C := RX3) (T := TX3) (N := 6) hx hb hts inL_act_RX3 hown hK hP 2 rfl rfl 1 (by decide) (hts _ kL_act_4) (fun _ h9 => h9) rfl dL_act_494 ?_
                      refine lv_iload hx hb dL_act_497 (lv_at hl 7 rfl) ?_
                      refine pc_aldA hx hb hkp hP 4 rfl (k := jj) (show jj < un u by omega) (by omega) (v := ch jj) rfl dL_act_499 ?_
                      obtain ⟨qk, hqk⟩ := List.getElem?_of_mem (show ((ch jj, .inl (cy 0, uz u jj + 1, .inl (rowC u jj))) : Nat × va_E) ∈ (([(r471, .inl ((cy 4), un u + 1, .inr (.inr (.inr (.inr (cpF ch jj)))))), (r371, .inl ((cy 0), 5, .inl M))] : va_W) ++ (wS5 cy b sa st ch (un u) (uw u) (ud u) (nI (zh (uh u))) (zl (uh u)) ++ (rows12 cy st 6 (rowS (uh u)) ++ (wX cy a q q2 ca ta u g ++ chT cy ch u))) : va_W) from List.mem_append_right _ (List.mem_append_right _ (List.mem_append_right _ (List.mem_append_right _ (chT_mem (by omega))))))
                      refine pc_astA hx hb hK hkp hP hD hS 0 qk rfl hqk (k := jj) (show jj < un u + 1 by omega) (by omega) dL_act_500 (fun H locs hP hD hS => ?_)
                      have hP : va_P D vwCl (([(r471, .inl ((cy 4), un u + 1, .inr (.inr (.inr (.inr (va_up (cpF ch jj) jj (some (ch jj)))))))), (r371, .inl ((cy 0), 5, .inl M))] : va_W) ++ (wS5 cy b sa st ch (un u) (uw u) (ud u) (nI (zh (uh u))) (zl (uh u)) ++ (rows12 cy st 6 (rowS (uh u)) ++ (wX cy a q q2 ca ta u g ++ chT cy ch u)))) H := hP
                      have hD : va_D A (([(r471, .inl ((cy 4), un u + 1, .inr (.inr (.inr (.inr (va_up (cpF ch jj) jj (some (ch jj)))))))), (r371, .inl ((cy 0), 5, .inl M))] : va_W) ++ (wS5 cy b sa st ch (un u) (uw u) (ud u) (nI (zh (uh u))) (zl (uh u)) ++ (rows12 cy st 6 (rowS (uh u)) ++ (wX cy a q q2 ca ta u g ++ chT cy ch u)))) := hD
                      have e9 : (va_up (cpF ch jj) jj (some (ch jj))) = cpF ch (jj + 1) := (cpF_s _ _)
                      rw [e9] at hP hD
                      clear e9
                      have hP : va_P D vwCl (([(r471, .inl ((cy 4), un u + 1, .inr (.inr (.inr (.inr (cpF ch (jj + 1))))))), (r371, .inl ((cy 0), 5, .inl M))] : va_W) ++ (wS5 cy b sa st ch (un u) (uw u) (ud u) (nI (zh (uh u))) (zl (uh u)) ++ (rows12 cy st 6 (rowS (uh u)) ++ (wX cy a q q2 ca ta u g ++ chT cy ch u)))) H := hP
                      have hD : va_D A (([(r471, .inl ((cy 4), un u + 1, .inr (.inr (.inr (.inr (cpF ch (jj + 1))))))), (r371, .inl ((cy 0), 5, .inl M))] : va_W) ++ (wS5 cy b sa st ch (un u) (uw u) (ud u) (nI (zh (uh u))) (zl (uh u)) ++ (rows12 cy st 6 (rowS (uh u)) ++ (wX cy a q q2 ca ta u g ++ chT cy ch u)))) := hD
                      refine lv_iinc (v := nI (jj + 1)) (lv' := [(11, .int (nI (jj + 1))), (0, .ref (a 0)), (1, .ref b), (2, .int xv), (3, .int (nI k3)), (8, .int 4), (9, .ref r371), (10, .ref r471)]) hx hb dL_act_501 hl (k := 7) rfl ((show (nI jj) + Int32.ofInt 1 = (nI jj) + 1 from rfl).trans (show (nI jj) + 1 = nI (jj + 1) from nI_add jj 1)) (by decide) rfl (fun ls hl => ?_)
                      refine lv_goto (tgt := 479) hx hb dL_act_504 (by decide) ?_
                      exact ih479 (jj + 1) (by omega) (by omega) _ _ hP hD hS ls (lv_sub hl [1, 2, 3, 4, 5, 6, 7, 0] rfl)
                exact loop479 (un u + 1) 0 (Nat.zero_le _) (by omega) _ _ hP hD hS ls (lv_sub hl [2, 3, 4, 5, 6, 7, 1, 0] rfl)
              · have n387 : ¬ (4 < i) := fun h9 => c387 ((nI_ltI (a := 4) (b := i) (by omega) (by omega)).mpr h9)
                refine lv_aload hx hb dL_act_390 (lv_at hl 5 rfl) ?_
                refine lv_iload hx hb dL_act_392 (lv_at hl 6 rfl) ?_
                refine lv_iconst (v := 1) hx hb dL_act_394 (by decide) ?_
                refine lv_aload_n hx hb dL_act_395 rfl (lv_at hl 1 rfl) ?_
                refine lv_iload_n hx hb dL_act_396 rfl (lv_at hl 3 rfl) ?_
                refine lv_iload hx hb dL_act_397 (lv_at hl 6 rfl) ?_
                refine lv_iadd hx hb dL_act_399 ?_
                refine pc_top (show (nI k3) + (nI i) = nI (k3 + i) from nI_add k3 i) ?_
                refine lv_iconst (v := 1) hx hb dL_act_400 (by decide) ?_
                refine lv_isub hx hb dL_act_401 ?_
                refine pc_top (show (nI (k3 + i)) - 1 = nI ((k3 + i) - 1) from pk_sub (a := k3 + i) (b := 1) (by omega)) ?_
                refine sim_p (Lc := ([(r371, .inl ((cy 0), 5, .inl M))] : va_W)) (S5 := wS5 cy b sa st ch (un u) (uw u) (ud u) (nI (zh (uh u))) (zl (uh u))) (S12 := rows12 cy st 6 (rowS (uh u))) (X := wX cy a q q2 ca ta u g ++ chT cy ch u) (Y := []) (As := [.int (nI ((k3 + i) - 1))]) (rest := [.int 1, .int (nI i), .ref r371]) hP hK hkp ⟨hx, hb, hml, hown, hts⟩ (mX3_tone l D cy b sa st ch u (k3 + i - 1) (by omega)) (no_mem) rfl (cwV 1 hts gL_act_X3_tone rfl rfl rfl (by decide +kernel) ⟨Nat.le_of_ble_eq_true rfl, Nat.le_of_ble_eq_true rfl⟩) rfl rfl hl.1 (Nat.le_of_ble_eq_true rfl) dL_act_402 ⟨Nat.le_of_ble_eq_true rfl, Nat.le_of_ble_eq_true rfl⟩ ?_
                obtain ⟨tt, htt, ett⟩ := tone_b I (show k3 + i - 1 < 12 by omega)
                refine pc_top (show tone (uh u) (k3 + i - 1) = nI tt from ett) ?_
                refine lv_iload_n hx hb dL_act_405 rfl (lv_at hl 2 rfl) ?_
                refine lv_iload hx hb dL_act_406 (lv_at hl 6 rfl) ?_
                refine lv_ishr hx hb dL_act_408 ?_
                refine lv_iconst (v := 5) hx hb dL_act_409 (by decide) ?_
                refine lv_iload hx hb dL_act_410 (lv_at hl 6 rfl) ?_
                refine lv_imul hx hb dL_act_412 ?_
                refine pc_top (show 5 * (nI i) = nI (5 * i) from pk_mul 5 i) ?_
                refine lv_iadd hx hb dL_act_413 ?_
                refine lv_iload_n hx hb dL_act_414 rfl (lv_at hl 2 rfl) ?_
                refine lv_bipush (v := 6) hx hb dL_act_415 (by decide) ?_
                refine lv_ishr hx hb dL_act_417 ?_
                refine lv_iconst (v := 2) hx hb dL_act_418 (by decide) ?_
                refine pc_calli (va_runS (As := [.int (xv >>> (6 &&& 31)), .int 2]) (rest := [.int ((xv >>> ((nI i) &&& 31)) + (nI (5 * i))), .int (nI tt), .int 1, .int (nI i), .ref r371]) ⟨hx, hb, hml, hown, hts⟩ (mL_below l D cy (xv >>> (6 &&& 31)) 2 (by decide) (by decide)) (va_cwS 2 hts gL_act_L_below rfl rfl rfl (by decide +kernel) ⟨Nat.le_of_ble_eq_true rfl, Nat.le_of_ble_eq_true rfl⟩) ⟨fun a U g mk q => q, fun U hU hW => ⟨rfl, trivial⟩⟩ rfl rfl hl.1 rfl (lv_room (Nat.le_of_ble_eq_true rfl)) dL_act_419 ⟨Nat.le_of_ble_eq_true rfl, Nat.le_of_ble_eq_true rfl⟩) (fun r9 hr9 => ?_)
                obtain ⟨k419, hk419, rfl⟩ := hr9
                refine lv_if_ne (tgt := 430) hx hb dL_act_422 (by decide) (fun c422 => ?_) (fun c422 => ?_)
                · have n422 : ¬ (k419 = 0) := fun h9 => c422 ((nI_eq (a := k419) (b := 0) (by omega) (by omega)).mpr h9)
                  refine lv_bipush (v := 61) hx hb dL_act_430 (by decide) ?_
                  refine pc_calli (va_runS (As := [.int ((xv >>> ((nI i) &&& 31)) + (nI (5 * i))), .int 61]) (rest := [.int (nI tt), .int 1, .int (nI i), .ref r371]) ⟨hx, hb, hml, hown, hts⟩ (mL_below l D cy ((xv >>> ((nI i) &&& 31)) + (nI (5 * i))) 61 (by decide) (by decide)) (va_cwS 2 hts gL_act_L_below rfl rfl rfl (by decide +kernel) ⟨Nat.le_of_ble_eq_true rfl, Nat.le_of_ble_eq_true rfl⟩) ⟨fun a U g mk q => q, fun U hU hW => ⟨rfl, trivial⟩⟩ rfl rfl hl.1 rfl (lv_room (Nat.le_of_ble_eq_true rfl)) dL_act_432 ⟨Nat.le_of_ble_eq_true rfl, Nat.le_of_ble_eq_true rfl⟩) (fun r9 hr9 => ?_)
                  obtain ⟨k432, hk432, rfl⟩ := hr9
                  refine lv_iadd hx hb dL_act_435 ?_
                  refine lv_iload_n hx hb dL_act_436 rfl (lv_at hl 2 rfl) ?_
                  refine lv_bipush (v := 6) hx hb dL_act_437 (by decide) ?_
                  refine lv_ishr hx hb dL_act_439 ?_
                  refine lv_iconst (v := 2) hx hb dL_act_440 (by decide) ?_
                  refine pc_calli (va_runS (As := [.int (xv >>> (6 &&& 31)), .int 2]) (rest := [.int ((nI tt) + (nI k432)), .int 1, .int (nI i), .ref r371]) ⟨hx, hb, hml, hown, hts⟩ (mL_below l D cy (xv >>> (6 &&& 31)) 2 (by decide) (by decide)) (va_cwS 2 hts gL_act_L_below rfl rfl rfl (by decide +kernel) ⟨Nat.le_of_ble_eq_true rfl, Nat.le_of_ble_eq_true rfl⟩) ⟨fun a U g mk q => q, fun U hU hW => ⟨rfl, trivial⟩⟩ rfl rfl hl.1 rfl (lv_room (Nat.le_of_ble_eq_true rfl)) dL_act_441 ⟨Nat.le_of_ble_eq_true rfl, Nat.le_of_ble_eq_true rfl⟩) (fun r9 hr9 => ?_)
                  obtain ⟨k441, hk441, rfl⟩ := hr9
                  refine lv_if_ne (tgt := 451) hx hb dL_act_444 (by decide) (fun c444 => ?_) (fun c444 => ?_)
                  · have n444 : ¬ (k441 = 0) := fun h9 => c444 ((nI_eq (a := k441) (b := 0) (by omega) (by omega)).mpr h9)
                    refine lv_bipush (v := 30) hx hb dL_act_451 (by decide) ?_
                    refine lv_isub hx hb dL_act_453 ?_
                    refine va_mmax hx hb (by rw [hml]; exact hl.1.symm) hown (hts _ kL_act_6) (hts _ kL_act_7) (hts _ kL_act_8) (hts _ kL_act_9) (Nat.le_of_ble_eq_true rfl) (Nat.le_of_ble_eq_true rfl) (Nat.le_of_ble_eq_true rfl) (Nat.le_of_ble_eq_true rfl) dL_act_454 ?_
                    refine pc_top (show (if 1 < (((nI tt) + (nI k432)) - 30) then (((nI tt) + (nI k432)) - 30) else 1) = mx 1 (((nI tt) + (nI k432)) - 30) from rfl) ?_
                    obtain ⟨v9, hv1, hv2, ev9⟩ := made_b (t := tt) (r := k432) (c := 30) htt (by omega) (by decide)
                    refine pc_top (show mx 1 (((nI tt) + (nI k432)) - 30) = nI v9 from ev9) ?_
                    refine pc_iast hx hb hK hP hD hS 0 0 rfl rfl (k := i) (show i < 5 by omega) (by decide) dL_act_457 (fun H locs hP hD hS => ?_)
                    have hP : va_P D vwCl (([(r371, .inl ((cy 0), 5, .inl (upd M i (nI v9))))] : va_W) ++ (wS5 cy b sa st ch (un u) (uw u) (ud u) (nI (zh (uh u))) (zl (uh u)) ++ (rows12 cy st 6 (rowS (uh u)) ++ (wX cy a q q2 ca ta u g ++ chT cy ch u)))) H := hP
                    have hD : va_D A (([(r371, .inl ((cy 0), 5, .inl (upd M i (nI v9))))] : va_W) ++ (wS5 cy b sa st ch (un u) (uw u) (ud u) (nI (zh (uh u))) (zl (uh u)) ++ (rows12 cy st 6 (rowS (uh u)) ++ (wX cy a q q2 ca ta u g ++ chT cy ch u)))) := hD
                    refine lv_iinc (v := nI (i + 1)) (lv' := [(10, .int (nI (i + 1))), (0, .ref (a 0)), (1, .ref b), (2, .int xv), (3, .int (nI k3)), (8, .int 4), (9, .ref r371)]) hx hb dL_act_458 hl (k := 6) rfl ((show (nI i) + Int32.ofInt 1 = (nI i) + 1 from rfl).trans (show (nI i) + 1 = nI (i + 1) from nI_add i 1)) (by decide) rfl (fun ls hl => ?_)
                    refine lv_goto (tgt := 383) hx hb dL_act_461 (by decide) ?_
                    exact ih383 (i + 1) (upd M i (nI v9)) (⟨by omega, by omega⟩) ((pk_un (by omega)).trans hM0) (made_s hM hv1 hv2) (by omega) _ _ hP hD hS ls (lv_sub hl [1, 2, 3, 4, 5, 6, 0] rfl)
                  · have n444 : k441 = 0 := (nI_eq (a := k441) (b := 0) (by omega) (by omega)).mp c444
                    refine lv_iconst (v := 4) hx hb dL_act_447 (by decide) ?_
                    refine lv_goto (tgt := 453) hx hb dL_act_448 (by decide) ?_
                    refine lv_isub hx hb dL_act_453 ?_
                    refine va_mmax hx hb (by rw [hml]; exact hl.1.symm) hown (hts _ kL_act_6) (hts _ kL_act_7) (hts _ kL_act_8) (hts _ kL_act_9) (Nat.le_of_ble_eq_true rfl) (Nat.le_of_ble_eq_true rfl) (Nat.le_of_ble_eq_true rfl) (Nat.le_of_ble_eq_true rfl) dL_act_454 ?_
                    refine pc_top (show (if 1 < (((nI tt) + (nI k432)) - 4) then (((nI tt) + (nI k432)) - 4) else 1) = mx 1 (((nI tt) + (nI k432)) - 4) from rfl) ?_
                    obtain ⟨v9, hv1, hv2, ev9⟩ := made_b (t := tt) (r := k432) (c := 4) htt (by omega) (by decide)
                    refine pc_top (show mx 1 (((nI tt) + (nI k432)) - 4) = nI v9 from ev9) ?_
                    refine pc_iast hx hb hK hP hD hS 0 0 rfl rfl (k := i) (show i < 5 by omega) (by decide) dL_act_457 (fun H locs hP hD hS => ?_)
                    have hP : va_P D vwCl (([(r371, .inl ((cy 0), 5, .inl (upd M i (nI v9))))] : va_W) ++ (wS5 cy b sa st ch (un u) (uw u) (ud u) (nI (zh (uh u))) (zl (uh u)) ++ (rows12 cy st 6 (rowS (uh u)) ++ (wX cy a q q2 ca ta u g ++ chT cy ch u)))) H := hP
                    have hD : va_D A (([(r371, .inl ((cy 0), 5, .inl (upd M i (nI v9))))] : va_W) ++ (wS5 cy b sa st ch (un u) (uw u) (ud u) (nI (zh (uh u))) (zl (uh u)) ++ (rows12 cy st 6 (rowS (uh u)) ++ (wX cy a q q2 ca ta u g ++ chT cy ch u)))) := hD
                    refine lv_iinc (v := nI (i + 1)) (lv' := [(10, .int (nI (i + 1))), (0, .ref (a 0)), (1, .ref b), (2, .int xv), (3, .int (nI k3)), (8, .int 4), (9, .ref r371)]) hx hb dL_act_458 hl (k := 6) rfl ((show (nI i) + Int32.ofInt 1 = (nI i) + 1 from rfl).trans (show (nI i) + 1 = nI (i + 1) from nI_add i 1)) (by decide) rfl (fun ls hl => ?_)
                    refine lv_goto (tgt := 383) hx hb dL_act_461 (by decide) ?_
                    exact ih383 (i + 1) (upd M i (nI v9)) (⟨by omega, by omega⟩) ((pk_un (by omega)).trans hM0) (made_s hM hv1 hv2) (by omega) _ _ hP hD hS ls (lv_sub hl [1, 2, 3, 4, 5, 6, 0] rfl)
                · have n422 : k419 = 0 := (nI_eq (a := k419) (b := 0) (by omega) (by omega)).mp c422
                  refine lv_bipush (v := 9) hx hb dL_act_425 (by decide) ?_
                  refine lv_goto (tgt := 432) hx hb dL_act_427 (by decide) ?_
                  refine pc_calli (va_runS (As := [.int ((xv >>> ((nI i) &&& 31)) + (nI (5 * i))), .int 9]) (rest := [.int (nI tt), .int 1, .int (nI i), .ref r371]) ⟨hx, hb, hml, hown, hts⟩ (mL_below l D cy ((xv >>> ((nI i) &&& 31)) + (nI (5 * i))) 9 (by decide) (by decide)) (va_cwS 2 hts gL_act_L_below rfl rfl rfl (by decide +kernel) ⟨Nat.le_of_ble_eq_true rfl, Nat.le_of_ble_eq_true rfl⟩) ⟨fun a U g mk q => q, fun U hU hW => ⟨rfl, trivial⟩⟩ rfl rfl hl.1 rfl (lv_room (Nat.le_of_ble_eq_true rfl)) dL_act_432 ⟨Nat.le_of_ble_eq_true rfl, Nat.le_of_ble_eq_true rfl⟩) (fun r9 hr9 => ?_)
                  obtain ⟨k432, hk432, rfl⟩ := hr9
                  refine lv_iadd hx hb dL_act_435 ?_
                  refine lv_iload_n hx hb dL_act_436 rfl (lv_at hl 2 rfl) ?_
                  refine lv_bipush (v := 6) hx hb dL_act_437 (by decide) ?_
                  refine lv_ishr hx hb dL_act_439 ?_
                  refine lv_iconst (v := 2) hx hb dL_act_440 (by decide) ?_
                  refine pc_calli (va_runS (As := [.int (xv >>> (6 &&& 31)), .int 2]) (rest := [.int ((nI tt) + (nI k432)), .int 1, .int (nI i), .ref r371]) ⟨hx, hb, hml, hown, hts⟩ (mL_below l D cy (xv >>> (6 &&& 31)) 2 (by decide) (by decide)) (va_cwS 2 hts gL_act_L_below rfl rfl rfl (by decide +kernel) ⟨Nat.le_of_ble_eq_true rfl, Nat.le_of_ble_eq_true rfl⟩) ⟨fun a U g mk q => q, fun U hU hW => ⟨rfl, trivial⟩⟩ rfl rfl hl.1 rfl (lv_room (Nat.le_of_ble_eq_true rfl)) dL_act_441 ⟨Nat.le_of_ble_eq_true rfl, Nat.le_of_ble_eq_true rfl⟩) (fun r9 hr9 => ?_)
                  obtain ⟨k441, hk441, rfl⟩ := hr9
                  refine lv_if_ne (tgt := 451) hx hb dL_act_444 (by decide) (fun c444 => ?_) (fun c444 => ?_)
                  · have n444 : ¬ (k441 = 0) := fun h9 => c444 ((nI_eq (a := k441) (b := 0) (by omega) (by omega)).mpr h9)
                    refine lv_bipush (v := 30) hx hb dL_act_451 (by decide) ?_
                    refine lv_isub hx hb dL_act_453 ?_
                    refine va_mmax hx hb (by rw [hml]; exact hl.1.symm) hown (hts _ kL_act_6) (hts _ kL_act_7) (hts _ kL_act_8) (hts _ kL_act_9) (Nat.le_of_ble_eq_true rfl) (Nat.le_of_ble_eq_true rfl) (Nat.le_of_ble_eq_true rfl) (Nat.le_of_ble_eq_true rfl) dL_act_454 ?_
                    refine pc_top (show (if 1 < (((nI tt) + (nI k432)) - 30) then (((nI tt) + (nI k432)) - 30) else 1) = mx 1 (((nI tt) + (nI k432)) - 30) from rfl) ?_
                    obtain ⟨v9, hv1, hv2, ev9⟩ := made_b (t := tt) (r := k432) (c := 30) htt (by omega) (by decide)
                    refine pc_top (show mx 1 (((nI tt) + (nI k432)) - 30) = nI v9 from ev9) ?_
                    refine pc_iast hx hb hK hP hD hS 0 0 rfl rfl (k := i) (show i < 5 by omega) (by decide) dL_act_457 (fun H locs hP hD hS => ?_)
                    have hP : va_P D vwCl (([(r371, .inl ((cy 0), 5, .inl (upd M i (nI v9))))] : va_W) ++ (wS5 cy b sa st ch (un u) (uw u) (ud u) (nI (zh (uh u))) (zl (uh u)) ++ (rows12 cy st 6 (rowS (uh u)) ++ (wX cy a q q2 ca ta u g ++ chT cy ch u)))) H := hP
                    have hD : va_D A (([(r371, .inl ((cy 0), 5, .inl (upd M i (nI v9))))] : va_W) ++ (wS5 cy b sa st ch (un u) (uw u) (ud u) (nI (zh (uh u))) (zl (uh u)) ++ (rows12 cy st 6 (rowS (uh u)) ++ (wX cy a q q2 ca ta u g ++ chT cy ch u)))) := hD
                    refine lv_iinc (v := nI (i + 1)) (lv' := [(10, .int (nI (i + 1))), (0, .ref (a 0)), (1, .ref b), (2, .int xv), (3, .int (nI k3)), (8, .int 4), (9, .ref r371)]) hx hb dL_act_458 hl (k := 6) rfl ((show (nI i) + Int32.ofInt 1 = (nI i) + 1 from rfl).trans (show (nI i) + 1 = nI (i + 1) from nI_add i 1)) (by decide) rfl (fun ls hl => ?_)
                    refine lv_goto (tgt := 383) hx hb dL_act_461 (by decide) ?_
                    exact ih383 (i + 1) (upd M i (nI v9)) (⟨by omega, by omega⟩) ((pk_un (by omega)).trans hM0) (made_s hM hv1 hv2) (by omega) _ _ hP hD hS ls (lv_sub hl [1, 2, 3, 4, 5, 6, 0] rfl)
                  · have n444 : k441 = 0 := (nI_eq (a := k441) (b := 0) (by omega) (by omega)).mp c444
                    refine lv_iconst (v := 4) hx hb dL_act_447 (by decide) ?_
                    refine lv_goto (tgt := 453) hx hb dL_act_448 (by decide) ?_
                    refine lv_isub hx hb dL_act_453 ?_
                    refine va_mmax hx hb (by rw [hml]; exact hl.1.symm) hown (hts _ kL_act_6) (hts _ kL_act_7) (hts _ kL_act_8) (hts _ kL_act_9) (Nat.le_of_ble_eq_true rfl) (Nat.le_of_ble_eq_true rfl) (Nat.le_of_ble_eq_true rfl) (Nat.le_of_ble_eq_true rfl) dL_act_454 ?_
                    refine pc_top (show (if 1 < (((nI tt) + (nI k432)) - 4) then (((nI tt) + (nI k432)) - 4) else 1) = mx 1 (((nI tt) + (nI k432)) - 4) from rfl) ?_
                    obtain ⟨v9, hv1, hv2, ev9⟩ := made_b (t := tt) (r := k432) (c := 4) htt (by omega) (by decide)
                    refine pc_top (show mx 1 (((nI tt) + (nI k432)) - 4) = nI v9 from ev9) ?_
                    refine pc_iast hx hb hK hP hD hS 0 0 rfl rfl (k := i) (show i < 5 by omega) (by decide) dL_act_457 (fun H locs hP hD hS => ?_)
                    have hP : va_P D vwCl (([(r371, .inl ((cy 0), 5, .inl (upd M i (nI v9))))] : va_W) ++ (wS5 cy b sa st ch (un u) (uw u) (ud u) (nI (zh (uh u))) (zl (uh u)) ++ (rows12 cy st 6 (rowS (uh u)) ++ (wX cy a q q2 ca ta u g ++ chT cy ch u)))) H := hP
                    have hD : va_D A (([(r371, .inl ((cy 0), 5, .inl (upd M i (nI v9))))] : va_W) ++ (wS5 cy b sa st ch (un u) (uw u) (ud u) (nI (zh (uh u))) (zl (uh u)) ++ (rows12 cy st 6 (rowS (uh u)) ++ (wX cy a q q2 ca ta u g ++ chT cy ch u)))) := hD
                    refine lv_iinc (v := nI (i + 1)) (lv' := [(10, .int (nI (i + 1))), (0, .ref (a 0)), (1, .ref b), (2, .int xv), (3, .int (nI k3)), (8, .int 4), (9, .ref r371)]) hx hb dL_act_458 hl (k := 6) rfl ((show (nI i) + Int32.ofInt 1 = (nI i) + 1 from rfl).trans (show (nI i) + 1 = nI (i + 1) from nI_add i 1)) (by decide) rfl (fun ls hl => ?_)
                    refine lv_goto (tgt := 383) hx hb dL_act_461 (by decide) ?_
                    exact ih383 (i + 1) (upd M i (nI v9)) (⟨by omega, by omega⟩) ((pk_un (by omega)).trans hM0) (made_s hM hv1 hv2) (by omega) _ _ hP hD hS ls (lv_sub hl [1, 2, 3, 4, 5, 6, 0] rfl)
          exact loop383 (5 + 1) 1 (upd (fun _ => 0) 0 (nI k3)) (⟨Nat.le_refl _, by decide⟩) pk_us (fun j h1 h2 => absurd h2 (by omega)) (by omega) _ _ hP hD hS ls (lv_sub hl [5, 6, 7, 4, 2, 1, 0] rfl)
        · have n362 : ¬ (k3 + 4 ≤ 12) := fun h9 => c362 ((nI_leI (a := k3 + 4) (b := 12) (by omega) (by omega)).mpr h9)
          refine lv_iconst (v := 1) hx hb dL_act_365 (by decide) ?_
          have hP9 : va_P D vwCl (wSu cy b ((u, sa, st, ch) : US × (Nat → Nat) × (Nat → Nat) × (Nat → Nat)).2.1 ((u, sa, st, ch) : US × (Nat → Nat) × (Nat → Nat) × (Nat → Nat)).2.2.1 ((u, sa, st, ch) : US × (Nat → Nat) × (Nat → Nat) × (Nat → Nat)).2.2.2 ((u, sa, st, ch) : US × (Nat → Nat) × (Nat → Nat) × (Nat → Nat)).1 ++ (wSr cy ((u, sa, st, ch) : US × (Nat → Nat) × (Nat → Nat) × (Nat → Nat)).2.2.1 ((u, sa, st, ch) : US × (Nat → Nat) × (Nat → Nat) × (Nat → Nat)).1 ++ (wX cy a q q2 ca ta ((u, sa, st, ch) : US × (Nat → Nat) × (Nat → Nat) × (Nat → Nat)).1 g ++ chT cy ((u, sa, st, ch) : US × (Nat → Nat) × (Nat → Nat) × (Nat → Nat)).2.2.2 ((u, sa, st, ch) : US × (Nat → Nat) × (Nat → Nat) × (Nat → Nat)).1))) s.heap := (pM_dropP hP)
          have hD9 : va_D A (wSu cy b ((u, sa, st, ch) : US × (Nat → Nat) × (Nat → Nat) × (Nat → Nat)).2.1 ((u, sa, st, ch) : US × (Nat → Nat) × (Nat → Nat) × (Nat → Nat)).2.2.1 ((u, sa, st, ch) : US × (Nat → Nat) × (Nat → Nat) × (Nat → Nat)).2.2.2 ((u, sa, st, ch) : US × (Nat → Nat) × (Nat → Nat) × (Nat → Nat)).1 ++ (wSr cy ((u, sa, st, ch) : US × (Nat → Nat) × (Nat → Nat) × (Nat → Nat)).2.2.1 ((u, sa, st, ch) : US × (Nat → Nat) × (Nat → Nat) × (Nat → Nat)).1 ++ (wX cy a q q2 ca ta ((u, sa, st, ch) : US × (Nat → Nat) × (Nat → Nat) × (Nat → Nat)).1 g ++ chT cy ((u, sa, st, ch) : US × (Nat → Nat) × (Nat → Nat) × (Nat → Nat)).2.2.2 ((u, sa, st, ch) : US × (Nat → Nat) × (Nat → Nat) × (Nat → Nat)).1))) := (pM_dropD hD)
          refine W.widen (k := 8) (n := 48) (Nat.le_of_ble_eq_true rfl) (Nat.le_of_ble_eq_true rfl) ?_
          exact W.zret (v := 1) hx hb hr (by decide) (fun t ht hW => ⟨⟨1, ((u, sa, st, ch) : US × (Nat → Nat) × (Nat → Nat) × (Nat → Nat)), rfl, ⟨rfl, I, rfl⟩, by rw [ht]; exact hP9, hD9⟩, hS.F ht⟩) hS.2.2 dL_act_366
    · have n340 : un u = 6 := (nI_eq (a := un u) (b := 6) (by omega) (by omega)).mp c340
      refine lv_iconst (v := 1) hx hb dL_act_343 (by decide) ?_
      have hP9 : va_P D vwCl (wSu cy b ((u, sa, st, ch) : US × (Nat → Nat) × (Nat → Nat) × (Nat → Nat)).2.1 ((u, sa, st, ch) : US × (Nat → Nat) × (Nat → Nat) × (Nat → Nat)).2.2.1 ((u, sa, st, ch) : US × (Nat → Nat) × (Nat → Nat) × (Nat → Nat)).2.2.2 ((u, sa, st, ch) : US × (Nat → Nat) × (Nat → Nat) × (Nat → Nat)).1 ++ (wSr cy ((u, sa, st, ch) : US × (Nat → Nat) × (Nat → Nat) × (Nat → Nat)).2.2.1 ((u, sa, st, ch) : US × (Nat → Nat) × (Nat → Nat) × (Nat → Nat)).1 ++ (wX cy a q q2 ca ta ((u, sa, st, ch) : US × (Nat → Nat) × (Nat → Nat) × (Nat → Nat)).1 g ++ chT cy ((u, sa, st, ch) : US × (Nat → Nat) × (Nat → Nat) × (Nat → Nat)).2.2.2 ((u, sa, st, ch) : US × (Nat → Nat) × (Nat → Nat) × (Nat → Nat)).1))) s.heap := (pM_dropP hP)
      have hD9 : va_D A (wSu cy b ((u, sa, st, ch) : US × (Nat → Nat) × (Nat → Nat) × (Nat → Nat)).2.1 ((u, sa, st, ch) : US × (Nat → Nat) × (Nat → Nat) × (Nat → Nat)).2.2.1 ((u, sa, st, ch) : US × (Nat → Nat) × (Nat → Nat) × (Nat → Nat)).2.2.2 ((u, sa, st, ch) : US × (Nat → Nat) × (Nat → Nat) × (Nat → Nat)).1 ++ (wSr cy ((u, sa, st, ch) : US × (Nat → Nat) × (Nat → Nat) × (Nat → Nat)).2.2.1 ((u, sa, st, ch) : US × (Nat → Nat) × (Nat → Nat) × (Nat → Nat)).1 ++ (wX cy a q q2 ca ta ((u, sa, st, ch) : US × (Nat → Nat) × (Nat → Nat) × (Nat → Nat)).1 g ++ chT cy ((u, sa, st, ch) : US × (Nat → Nat) × (Nat → Nat) × (Nat → Nat)).2.2.2 ((u, sa, st, ch) : US × (Nat → Nat) × (Nat → Nat) × (Nat → Nat)).1))) := (pM_dropD hD)
      refine W.widen (k := 8) (n := 48) (Nat.le_of_ble_eq_true rfl) (Nat.le_of_ble_eq_true rfl) ?_
      exact W.zret (v := 1) hx hb hr (by decide) (fun t ht hW => ⟨⟨1, ((u, sa, st, ch) : US × (Nat → Nat) × (Nat → Nat) × (Nat → Nat)), rfl, ⟨rfl, I, rfl⟩, by rw [ht]; exact hP9, hD9⟩, hS.F ht⟩) hS.2.2 dL_act_344
  · skip
    refine lv_tableOut (tgt := 333) hx hb dL_act_24 (by first | exact Or.inl (by decide) | exact Or.inr (by decide)) (by decide) ?_
    refine lv_aload_n hx hb dL_act_333 rfl (lv_at hl 3 rfl) ?_
    refine va_get (D := D) (ci := 3) (v := .ref (sa 1)) (C := RX3) (T := TX3) (N := 6) hx hb hts inL_act_RX3 hown hK hP 0 rfl rfl 1 (by decide) (hts _ kL_act_4) (fun _ h9 => h9) rfl dL_act_334 ?_
    refine pc_alenA hx hb hkp hP 2 rfl (v := nI (un u)) rfl dL_act_337 ?_
    refine lv_bipush (v := 6) hx hb dL_act_338 (by decide) ?_
    refine lv_icmp_ne (tgt := 345) hx hb dL_act_340 (by decide) (fun c340 => ?_) (fun c340 => ?_)
    · have n340 : ¬ (un u = 6) := fun h9 => c340 ((nI_eq (a := un u) (b := 6) (by omega) (by omega)).mpr h9)
      refine lv_iconst (v := 2) hx hb dL_act_345 (by decide) ?_
      refine lv_iload_n hx hb dL_act_346 rfl (lv_at hl 4 rfl) ?_
      refine lv_iconst (v := 2) hx hb dL_act_347 (by decide) ?_
      refine lv_ishr hx hb dL_act_348 ?_
      refine lv_iconst (v := 3) hx hb dL_act_349 (by decide) ?_
      refine pc_calli (va_runS (As := [.int (xv >>> (2 &&& 31)), .int 3]) (rest := [.int 2]) ⟨hx, hb, hml, hown, hts⟩ (mL_below l D cy (xv >>> (2 &&& 31)) 3 (by decide) (by decide)) (va_cwS 2 hts gL_act_L_below rfl rfl rfl (by decide +kernel) ⟨Nat.le_of_ble_eq_true rfl, Nat.le_of_ble_eq_true rfl⟩) ⟨fun a U g mk q => q, fun U hU hW => ⟨rfl, trivial⟩⟩ rfl rfl hl.1 rfl (lv_room (Nat.le_of_ble_eq_true rfl)) dL_act_350 ⟨Nat.le_of_ble_eq_true rfl, Nat.le_of_ble_eq_true rfl⟩) (fun r9 hr9 => ?_)
      obtain ⟨k350, hk350, rfl⟩ := hr9
      rcases (show k350 = 0 ∨ k350 = 1 ∨ k350 = 2 by omega) with rfl | rfl | rfl
      · skip
        refine lv_iadd hx hb dL_act_353 ?_
        refine pc_top (show 2 + (nI 0) = 2 from (by decide)) ?_
        refine lv_istore (lv' := [(8, .int 2), (4, .ref (st k3)), (3, .int (nI k3)), (0, .ref (a 0)), (1, .ref b), (2, .int xv)]) hx hb dL_act_354 hl (by decide) rfl (fun ls hl => ?_)
        refine lv_iload_n hx hb dL_act_356 rfl (lv_at hl 2 rfl) ?_
        refine lv_iload hx hb dL_act_357 (lv_at hl 0 rfl) ?_
        refine lv_iadd hx hb dL_act_359 ?_
        refine pc_top (show (nI k3) + 2 = nI (k3 + 2) from nI_add k3 2) ?_
        refine lv_bipush (v := 12) hx hb dL_act_360 (by decide) ?_
        refine lv_icmp_le (tgt := 367) hx hb dL_act_362 (by decide) (fun c362 => ?_) (fun c362 => ?_)
        · have n362 : k3 + 2 ≤ 12 := (nI_leI (a := k3 + 2) (b := 12) (by omega) (by omega)).mp c362
          refine lv_iconst (v := 1) hx hb dL_act_367 (by decide) ?_
          refine lv_iload hx hb dL_act_368 (lv_at hl 0 rfl) ?_
          refine lv_iadd hx hb dL_act_370 ?_
          refine pc_top (show 1 + 2 = 3 from (by decide)) ?_
          refine pc_newaF (atype := .int) (ty := .int) (N' := 3) (a0 := (3, .inl (fun _ => 0))) hx hb (hts _ kL_act_1) rfl hK hP hD hS hA 0 rfl (fun _ => rfl) (by decide) (by decide) (by decide) (Nat.le_of_ble_eq_true rfl) (Nat.le_of_ble_eq_true rfl) dL_act_371 (fun r371 H hP hD hS => ?_)
          have hP : va_P D vwCl (([(r371, .inl ((cy 0), 3, .inl (fun _ => 0)))] : va_W) ++ (wS5 cy b sa st ch (un u) (uw u) (ud u) (nI (zh (uh u))) (zl (uh u)) ++ (rows12 cy st 6 (rowS (uh u)) ++ (wX cy a q q2 ca ta u g ++ chT cy ch u)))) H := hP
          have hD : va_D A (([(r371, .inl ((cy 0), 3, .inl (fun _ => 0)))] : va_W) ++ (wS5 cy b sa st ch (un u) (uw u) (ud u) (nI (zh (uh u))) (zl (uh u)) ++ (rows12 cy st 6 (rowS (uh u)) ++ (wX cy a q q2 ca ta u g ++ chT cy ch u)))) := hD
          refine W.widen (k := 1) (n := 3) (Nat.le_of_ble_eq_true rfl) (Nat.le_of_ble_eq_true rfl) ?_
          refine lv_astore (lv' := [(9, .ref r371), (8, .int 2), (4, .ref (st k3)), (3, .int (nI k3)), (0, .ref (a 0)), (1, .ref b), (2, .int xv)]) hx hb dL_act_373 hl (by decide) rfl (fun ls hl => ?_)
          refine lv_aload hx hb dL_act_375 (lv_at hl 0 rfl) ?_
          refine lv_iconst (v := 0) hx hb dL_act_377 (by decide) ?_
          refine lv_iload_n hx hb dL_act_378 rfl (lv_at hl 3 rfl) ?_
          refine pc_iast hx hb hK hP hD hS 0 0 rfl rfl (k := 0) (show 0 < 3 by omega) (by decide) dL_act_379 (fun H locs hP hD hS => ?_)
          have hP : va_P D vwCl (([(r371, .inl ((cy 0), 3, .inl (upd (fun _ => 0) 0 (nI k3))))] : va_W) ++ (wS5 cy b sa st ch (un u) (uw u) (ud u) (nI (zh (uh u))) (zl (uh u)) ++ (rows12 cy st 6 (rowS (uh u)) ++ (wX cy a q q2 ca ta u g ++ chT cy ch u)))) H := hP
          have hD : va_D A (([(r371, .inl ((cy 0), 3, .inl (upd (fun _ => 0) 0 (nI k3))))] : va_W) ++ (wS5 cy b sa st ch (un u) (uw u) (ud u) (nI (zh (uh u))) (zl (uh u)) ++ (rows12 cy st 6 (rowS (uh u)) ++ (wX cy a q q2 ca ta u g ++ chT cy ch u)))) := hD
          refine lv_iconst (v := 1) hx hb dL_act_380 (by decide) ?_
          refine lv_istore (lv' := [(10, .int 1), (9, .ref r371), (8, .int 2), (4, .ref (st k3)), (3, .int (nI k3)), (0, .ref (a 0)), (1, .ref b), (2, .int xv)]) hx hb dL_act_381 hl (by decide) rfl (fun ls hl => ?_)
          have loop383 : ∀ (n9 : Nat) (i : Nat) (M : Nat → Int32), (1 ≤ i ∧ i ≤ 3) → M 0 = nI k3 → (∀ j, 1 ≤ j → j < i → ∃ t, 1 ≤ t ∧ t ≤ 1500 ∧ M j = nI t) → 3 - i < n9 → ∀ (H : Heap) (locs : List Loc), va_P D vwCl (([(r371, .inl ((cy 0), 3, .inl M))] : va_W) ++ (wS5 cy b sa st ch (un u) (uw u) (ud u) (nI (zh (uh u))) (zl (uh u)) ++ (rows12 cy st 6 (rowS (uh u)) ++ (wX cy a q q2 ca ta u g ++ chT cy ch u)))) H → va_D A (([(r371, .inl ((cy 0), 3, .inl M))] : va_W) ++ (wS5 cy b sa st ch (un u) (uw u) (ud u) (nI (zh (uh u))) (zl (uh u)) ++ (rows12 cy st 6 (rowS (uh u)) ++ (wX cy a q q2 ca ta u g ++ chT cy ch u)))) → va_S A s.heap H locs → ∀ ls : Array Slot, lv_has ls 12 [(0, .ref (a 0)), (1, .ref b), (2, .int xv), (3, .int (nI k3)), (8, .int 2), (9, .ref r371), (10, .int (nI i))] → W p l e (headSpec wsL_act ({ frames := 12, cells := 8, slots := 48, locals := 300 } : Room)).room s m ([.ref (a 0), .ref b, .int xv] : List Value).toArray below meth c H locs 1 3 (MQ below (va_Qi (fun (r8 : Int32) (z9 : US × (Nat → Nat) × (Nat → Nat) × (Nat → Nat)) => r8 = 1 ∧ INV z9.1 ∧ zh (uh z9.1) = zh (uh u)) (fun (z9 : US × (Nat → Nat) × (Nat → Nat) × (Nat → Nat)) t => va_P D vwCl (wSu cy b z9.2.1 z9.2.2.1 z9.2.2.2 z9.1 ++ (wSr cy z9.2.2.1 z9.1 ++ (wX cy a q q2 ca ta z9.1 g ++ chT cy z9.2.2.2 z9.1))) t.heap ∧ va_D A (wSu cy b z9.2.1 z9.2.2.1 z9.2.2.2 z9.1 ++ (wSr cy z9.2.2.1 z9.1 ++ (wX cy a q q2 ca ta z9.1 g ++ chT cy z9.2.2.2 z9.1)))) A) ([.ref (a 0), .ref b, .int xv] : List Value).toArray s 8 48 A) (F0 m 383 ls []) := by
            intro n9
            induction n9 with
            | zero => intro i M hi hM0 hM h9 H locs hP hD hS ls hl; exact absurd h9 (by omega)
            | succ n9 ih383 =>
              intro i M hi hM0 hM h9 H locs hP hD hS ls hl
              refine lv_iload hx hb dL_act_383 (lv_at hl 6 rfl) ?_
              refine lv_iload hx hb dL_act_385 (lv_at hl 4 rfl) ?_
              refine lv_icmp_gt (tgt := 464) hx hb dL_act_387 (by decide) (fun c387 => ?_) (fun c387 => ?_)
              · have n387 : 2 < i := (nI_ltI (a := 2) (b := i) (by omega) (by omega)).mp c387
                refine lv_aload_n hx hb dL_act_464 rfl (lv_at hl 1 rfl) ?_
                refine va_get (D := D) (ci := 3) (v := .ref (sa 1)) (C := RX3) (T := TX3) (N := 6) hx hb hts inL_act_RX3 hown hK hP 1 rfl rfl 1 (by decide) (hts _ kL_act_4) (fun _ h9 => h9) rfl dL_act_465 ?_
                refine pc_alenA hx hb hkp hP 3 rfl (v := nI (un u)) rfl dL_act_468 ?_
                refine lv_iconst (v := 1) hx hb dL_act_469 (by decide) ?_
                refine lv_iadd hx hb dL_act_470 ?_
                refine pc_top (show (nI (un u)) + 1 = nI (un u + 1) from nI_add (un u) 1) ?_
                refine pc_newqAF hx hb hown (hts _ kL_act_5) hkp hP hD hS hA (N' := un u + 1) (nI_neg (show un u + 1 < 2147483648 by omega)) (nI_clamp (show un u + 1 < 2147483648 by omega)) (show (un u + 1) * 4 ≤ 536870912 by omega) (show 1 + 1 ≤ 8 by omega) (show 3 + un u + 1 ≤ 48 by omega) dL_act_471 (fun r471 H hP hD hS => ?_)
                have hP : va_P D vwCl (([(r471, .inl ((cy 4), un u + 1, .inr (.inr (.inr (.inr (fun _ => none)))))), (r371, .inl ((cy 0), 3, .inl M))] : va_W) ++ (wS5 cy b sa st ch (un u) (uw u) (ud u) (nI (zh (uh u))) (zl (uh u)) ++ (rows12 cy st 6 (rowS (uh u)) ++ (wX cy a q q2 ca ta u g ++ chT cy ch u)))) H := hP
                have hD : va_D A (([(r471, .inl ((cy 4), un u + 1, .inr (.inr (.inr (.inr (fun _ => none)))))), (r371, .inl ((cy 0), 3, .inl M))] : va_W) ++ (wS5 cy b sa st ch (un u) (uw u) (ud u) (nI (zh (uh u))) (zl (uh u)) ++ (rows12 cy st 6 (rowS (uh u)) ++ (wX cy a q q2 ca ta u g ++ chT cy ch u)))) := hD
                refine W.widen (k := 2) (n := 9) (by omega) (by omega) ?_
                refine lv_astore (lv' := [(10, .ref r471), (0, .ref (a 0)), (1, .ref b), (2, .int xv), (3, .int (nI k3)), (8, .int 2), (9, .ref r371)]) hx hb dL_act_474 hl (by decide) rfl (fun ls hl => ?_)
                have e9 : ((fun _ => none)) = cpF ch 0 := (cpF_0 _)
                rw [e9] at hP hD
                clear e9
                have hP : va_P D vwCl (([(r471, .inl ((cy 4), un u + 1, .inr (.inr (.inr (.inr (cpF ch 0)))))), (r371, .inl ((cy 0), 3, .inl M))] : va_W) ++ (wS5 cy b sa st ch (un u) (uw u) (ud u) (nI (zh (uh u))) (zl (uh u)) ++ (rows12 cy st 6 (rowS (uh u)) ++ (wX cy a q q2 ca ta u g ++ chT cy ch u)))) H := hP
                have hD : va_D A (([(r471, .inl ((cy 4), un u + 1, .inr (.inr (.inr (.inr (cpF ch 0)))))), (r371, .inl ((cy 0), 3, .inl M))] : va_W) ++ (wS5 cy b sa st ch (un u) (uw u) (ud u) (nI (zh (uh u))) (zl (uh u)) ++ (rows12 cy st 6 (rowS (uh u)) ++ (wX cy a q q2 ca ta u g ++ chT cy ch u)))) := hD
                refine lv_iconst (v := 0) hx hb dL_act_476 (by decide) ?_
                refine lv_istore (lv' := [(11, .int 0), (10, .ref r471), (0, .ref (a 0)), (1, .ref b), (2, .int xv), (3, .int (nI k3)), (8, .int 2), (9, .ref r371)]) hx hb dL_act_477 hl (by decide) rfl (fun ls hl => ?_)
                have loop479 : ∀ (n9 : Nat) (jj : Nat), jj ≤ un u → un u - jj < n9 → ∀ (H : Heap) (locs : List Loc), va_P D vwCl (([(r471, .inl ((cy 4), un u + 1, .inr (.inr (.inr (.inr (cpF ch jj)))))), (r371, .inl ((cy 0), 3, .inl M))] : va_W) ++ (wS5 cy b sa st ch (un u) (uw u) (ud u) (nI (zh (uh u))) (zl (uh u)) ++ (rows12 cy st 6 (rowS (uh u)) ++ (wX cy a q q2 ca ta u g ++ chT cy ch u)))) H → va_D A (([(r471, .inl ((cy 4), un u + 1, .inr (.inr (.inr (.inr (cpF ch jj)))))), (r371, .inl ((cy 0), 3, .inl M))] : va_W) ++ (wS5 cy b sa st ch (un u) (uw u) (ud u) (nI (zh (uh u))) (zl (uh u)) ++ (rows12 cy st 6 (rowS (uh u)) ++ (wX cy a q q2 ca ta u g ++ chT cy ch u)))) → va_S A s.heap H locs → ∀ ls : Array Slot, lv_has ls 12 [(0, .ref (a 0)), (1, .ref b), (2, .int xv), (3, .int (nI k3)), (8, .int 2), (9, .ref r371), (10, .ref r471), (11, .int (nI jj))] → W p l e (headSpec wsL_act ({ frames := 12, cells := 8, slots := 48, locals := 300 } : Room)).room s m ([.ref (a 0), .ref b, .int xv] : List Value).toArray below meth c H locs 2 9 (MQ below (va_Qi (fun (r8 : Int32) (z9 : US × (Nat → Nat) × (Nat → Nat) × (Nat → Nat)) => r8 = 1 ∧ INV z9.1 ∧ zh (uh z9.1) = zh (uh u)) (fun (z9 : US × (Nat → Nat) × (Nat → Nat) × (Nat → Nat)) t => va_P D vwCl (wSu cy b z9.2.1 z9.2.2.1 z9.2.2.2 z9.1 ++ (wSr cy z9.2.2.1 z9.1 ++ (wX cy a q q2 ca ta z9.1 g ++ chT cy z9.2.2.2 z9.1))) t.heap ∧ va_D A (wSu cy b z9.2.1 z9.2.2.1 z9.2.2.2 z9.1 ++ (wSr cy z9.2.2.1 z9.1 ++ (wX cy a q q2 ca ta z9.1 g ++ chT cy z9.2.2.2 z9.1)))) A) ([.ref (a 0), .ref b, .int xv] : List Value).toArray s 8 48 A) (F0 m 479 ls []) := by
                  intro n9
                  induction n9 with
                  | zero => intro jj hjj h9 H locs hP hD hS ls hl; exact absurd h9 (by omega)
                  | succ n9 ih479 =>
                    intro jj hjj h9 H locs hP hD hS ls hl
                    refine lv_iload hx hb dL_act_479 (lv_at hl 7 rfl) ?_
                    refine lv_aload_n hx hb dL_act_481 rfl (lv_at hl 1 rfl) ?_
                    refine va_get (D := D) (ci := 3) (v := .ref (sa 1)) (C := RX3) (T := TX3) (N := 6) hx hb hts inL_act_RX3 hown hK hP 2 rfl rfl 1 (by decide) (hts _ kL_act_4) (fun _ h9 => h9) rfl dL_act_482 ?_
                    refine pc_alenA hx hb hkp hP 4 rfl (v := nI (un u)) rfl dL_act_485 ?_
                    refine lv_icmp_ge (tgt := 507) hx hb dL_act_486 (by decide) (fun c486 => ?_) (fun c486 => ?_)
                    · have n486 : un u ≤ jj := (nI_leI (a := un u) (b := jj) (by omega) (by omega)).mp c486
                      have e9 : (cpF ch jj) = cpF ch (un u) := (by rw [show jj = un u by omega])
                      rw [e9] at hP hD
                      clear e9
                      have hP : va_P D vwCl (([(r471, .inl ((cy 4), un u + 1, .inr (.inr (.inr (.inr (cpF ch (un u))))))), (r371, .inl ((cy 0), 3, .inl M))] : va_W) ++ (wS5 cy b sa st ch (un u) (uw u) (ud u) (nI (zh (uh u))) (zl (uh u)) ++ (rows12 cy st 6 (rowS (uh u)) ++ (wX cy a q q2 ca ta u g ++ chT cy ch u)))) H := hP
                      have hD : va_D A (([(r471, .inl ((cy 4), un u + 1, .inr (.inr (.inr (.inr (cpF ch (un u))))))), (r371, .inl ((cy 0), 3, .inl M))] : va_W) ++ (wS5 cy b sa st ch (un u) (uw u) (ud u) (nI (zh (uh u))) (zl (uh u)) ++ (rows12 cy st 6 (rowS (uh u)) ++ (wX cy a q q2 ca ta u g ++ chT cy ch u)))) := hD
                      refine lv_aload hx hb dL_act_507 (lv_at hl 6 rfl) ?_
                      refine lv_aload_n hx hb dL_act_509 rfl (lv_at hl 1 rfl) ?_
                      refine va_get (D := D) (ci := 3) (v := .ref (sa 1)) (C := RX3) (T := TX3) (N := 6) hx hb hts inL_act_RX3 hown hK hP 2 rfl rfl 1 (by decide) (hts _ kL_act_4) (fun _ h9 => h9) rfl dL_act_510 ?_
                      refine pc_alenA hx hb hkp hP 4 rfl (v := nI (un u)) rfl dL_act_513 ?_
                      refine lv_aload hx hb dL_act_514 (lv_at hl 5 rfl) ?_
                      refine pc_astA hx hb hK hkp hP hD hS 0 1 rfl rfl (k := un u) (show un u < un u + 1 by omega) (by omega) dL_act_516 (fun H locs hP hD hS => ?_)
                      have hP : va_P D vwCl (([(r471, .inl ((cy 4), un u + 1, .inr (.inr (.inr (.inr (va_up (cpF ch (un u)) (un u) (some r371))))))), (r371, .inl ((cy 0), 3, .inl M))] : va_W) ++ (wS5 cy b sa st ch (un u) (uw u) (ud u) (nI (zh (uh u))) (zl (uh u)) ++ (rows12 cy st 6 (rowS (uh u)) ++ (wX cy a q q2 ca ta u g ++ chT cy ch u)))) H := hP
                      have hD : va_D A (([(r471, .inl ((cy 4), un u + 1, .inr (.inr (.inr (.inr (va_up (cpF ch (un u)) (un u) (some r371))))))), (r371, .inl ((cy 0), 3, .inl M))] : va_W) ++ (wS5 cy b sa st ch (un u) (uw u) (ud u) (nI (zh (uh u))) (zl (uh u)) ++ (rows12 cy st 6 (rowS (uh u)) ++ (wX cy a q q2 ca ta u g ++ chT cy ch u)))) := hD
                      obtain ⟨t1, ta1, tb1, te1⟩ := hM 1 (by omega) (by omega)
                      obtain ⟨t2, ta2, tb2, te2⟩ := hM 2 (by omega) (by omega)
                      have hP := va_P_rowq (g := fun i => some (sup ch (un u) r371 i)) hP 0 rfl (cpF_end ch (un u) r371)
                      have hP := va_P_row (g := rowC (uCh u k3 2 (nI t1) (nI t2) 0 0) (un u)) hP 1 rfl (made_row2 hM0 te1 te2)
                      have hP : va_P D vwCl (([(r471, .inl ((cy 4), un u + 1, .inr (.inr (.inr (.inr (fun i => some (sup ch (un u) r371 i))))))), (r371, .inl ((cy 0), 3, .inl (rowC (uCh u k3 2 (nI t1) (nI t2) 0 0) (un u))))] : va_W) ++ (wS5 cy b sa st ch (un u) (uw u) (ud u) (nI (zh (uh u))) (zl (uh u)) ++ (rows12 cy st 6 (rowS (uh u)) ++ (wX cy a q q2 ca ta u g ++ chT cy ch u)))) H := hP
                      have hD : va_D A (([(r471, .inl ((cy 4), un u + 1, .inr (.inr (.inr (.inr (fun i => some (sup ch (un u) r371 i))))))), (r371, .inl ((cy 0), 3, .inl (rowC (uCh u k3 2 (nI t1) (nI t2) 0 0) (un u))))] : va_W) ++ (wS5 cy b sa st ch (un u) (uw u) (ud u) (nI (zh (uh u))) (zl (uh u)) ++ (rows12 cy st 6 (rowS (uh u)) ++ (wX cy a q q2 ca ta u g ++ chT cy ch u)))) := va_D_addr hD rfl
                      refine lv_aload_n hx hb dL_act_517 rfl (lv_at hl 1 rfl) ?_
                      refine lv_aload hx hb dL_act_518 (lv_at hl 6 rfl) ?_
                      refine va_put (D := D) (ci := 3) (v := .ref r471) (ty := .array (.array .int)) (C := RX3) (T := TX3) (N := 6) hx hb hts inL_act_RX3 tyX3 tyX3_ok nmX3 hown hK hP hD hS 2 rfl rfl 1 (by decide) (hts _ kL_act_4) (fun _ h9 => h9) rfl (by decide +kernel) rfl rfl (Nat.le_of_ble_eq_true rfl) dL_act_520 (fun H locs hP hD hS => ?_)
                      have hP := pM_forP (x := (r471, .inl ((cy 4), un u + 1, .inr (.inr (.inr (.inr (fun i => some (sup ch (un u) r371 i)))))))) (y := (sa 1, .inl (cy 4, un u, qf (fun i => some (ch i))))) (P := [(r371, .inl ((cy 0), 3, .inl (rowC (uCh u k3 2 (nI t1) (nI t2) 0 0) (un u)))), (b, .inr (3, [.ref (sa 0), .ref r471, .ref (sa 2), .ref (sa 3), .int (nI (zh (uh u))), .int (zl (uh u))])), (sa 0, .inl (cy 4, 12, qf (fun i => some (st i))))]) (Q := [(sa 2, .inl (cy 0, 12, .inl (uw u))), (sa 3, .inl (cy 0, 12, .inl (ud u)))] ++ (rows12 cy st 6 (rowS (uh u)) ++ (wX cy a q q2 ca ta u g ++ chT cy ch u))) hP
                      have hD := pM_forD (x := (r471, .inl ((cy 4), un u + 1, .inr (.inr (.inr (.inr (fun i => some (sup ch (un u) r371 i)))))))) (y := (sa 1, .inl (cy 4, un u, qf (fun i => some (ch i))))) (P := [(r371, .inl ((cy 0), 3, .inl (rowC (uCh u k3 2 (nI t1) (nI t2) 0 0) (un u)))), (b, .inr (3, [.ref (sa 0), .ref r471, .ref (sa 2), .ref (sa 3), .int (nI (zh (uh u))), .int (zl (uh u))])), (sa 0, .inl (cy 4, 12, qf (fun i => some (st i))))]) (Q := [(sa 2, .inl (cy 0, 12, .inl (uw u))), (sa 3, .inl (cy 0, 12, .inl (ud u)))] ++ (rows12 cy st 6 (rowS (uh u)) ++ (wX cy a q q2 ca ta u g ++ chT cy ch u))) hD
                      have hP : va_P D vwCl (([(r371, .inl ((cy 0), 3, .inl (rowC (uCh u k3 2 (nI t1) (nI t2) 0 0) (un u))))] : va_W) ++ (wS5 cy b (sup sa 1 r471) st (sup ch (un u) r371) (un u + 1) (uw u) (ud u) (nI (zh (uh u))) (zl (uh u)) ++ (rows12 cy st 6 (rowS (uh u)) ++ (wX cy a q q2 ca ta u g ++ chT cy ch u)))) H := hP
                      have hD : va_D A (([(r371, .inl ((cy 0), 3, .inl (rowC (uCh u k3 2 (nI t1) (nI t2) 0 0) (un u))))] : va_W) ++ (wS5 cy b (sup sa 1 r471) st (sup ch (un u) r371) (un u + 1) (uw u) (ud u) (nI (zh (uh u))) (zl (uh u)) ++ (rows12 cy st 6 (rowS (uh u)) ++ (wX cy a q q2 ca ta u g ++ chT cy ch u)))) := hD
                      refine lv_aload_n hx hb dL_act_523 rfl (lv_at hl 0 rfl) ?_
                      refine lv_iload_n hx hb dL_act_524 rfl (lv_at hl 3 rfl) ?_
                      refine lv_aload hx hb dL_act_525 (lv_at hl 5 rfl) ?_
                      refine lv_iconst (v := 1) hx hb dL_act_527 (by decide) ?_
                      refine pc_iald hx hb hK hP 0 0 rfl rfl (k := 1) (show 1 < 3 by omega) (by decide) dL_act_528 ?_
                      refine pc_top (show (rowC (uCh u k3 2 (nI t1) (nI t2) 0 0) (un u)) 1 = nI t1 from rowC_1) ?_
                      refine lv_aload hx hb dL_act_529 (lv_at hl 5 rfl) ?_
                      refine lv_iconst (v := 2) hx hb dL_act_531 (by decide) ?_
                      refine pc_iald hx hb hK hP 0 0 rfl rfl (k := 2) (show 2 < 3 by omega) (by decide) dL_act_532 ?_
                      refine pc_top (show (rowC (uCh u k3 2 (nI t1) (nI t2) 0 0) (un u)) 2 = nI t2 from rowC_2) ?_
                      refine lv_iload hx hb dL_act_533 (lv_at hl 4 rfl) ?_
                      refine lv_iconst (v := 2) hx hb dL_act_535 (by decide) ?_
                      refine lv_icmp_le (tgt := 546) hx hb dL_act_536 (by decide) (fun c536 => ?_) (fun c536 => absurd c536 (not_not_intro (by decide)))
                      have n536 : 2 ≤ 2 := (nI_leI (a := 2) (b := 2) (by omega) (by omega)).mp c536
                      refine lv_iconst (v := 0) hx hb dL_act_546 (by decide) ?_
                      refine lv_iload hx hb dL_act_547 (lv_at hl 4 rfl) ?_
                      refine lv_iconst (v := 3) hx hb dL_act_549 (by decide) ?_
                      refine lv_icmp_le (tgt := 560) hx hb dL_act_550 (by decide) (fun c550 => ?_) (fun c550 => absurd c550 (not_not_intro (by decide)))
                      have n550 : 2 ≤ 3 := (nI_leI (a := 2) (b := 3) (by omega) (by omega)).mp c550
                      refine lv_iconst (v := 0) hx hb dL_act_560 (by decide) ?_
                      refine cls_w (Lc := ([(r371, .inl ((cy 0), 3, .inl (rowC (uCh u k3 2 (nI t1) (nI t2) 0 0) (un u))))] : va_W)) (S5 := wS5 cy b (sup sa 1 r471) st (sup ch (un u) r371) (un u + 1) (uw u) (ud u) (nI (zh (uh u))) (zl (uh u))) (S12 := rows12 cy st 6 (rowS (uh u))) (T := chT cy ch u) (As := [.int (nI k3), .int (nI t1), .int (nI t2), .int 0, .int 0]) (rest := []) (uf := fun (_ : Unit) => uCh u (ix (nI k3)) (chSz 0 0) (nI t1) (nI t2) 0 0) (gf := fun (_ : Unit) => g) hP hD hS hA hK hXA ⟨hx, hb, hml, hown, hts⟩ (mX2_chord l hst D cy H.size a q q2 ca ta u g I.1 (nI k3) (nI t1) (nI t2) 0 0) (fun E h => h.2 (exCh_0 (t0 := t1) (t1 := t2) (t2 := 0) (t3 := 0) hk3 ta1 tb1 ta2 tb2 (by decide) (by decide) (by omega) (by rw [show chSz (nI 0) (nI 0) = 2 from rfl]; omega) (by omega))) (cwV 5 hts gL_act_X2_chord rfl rfl rfl (by decide +kernel) ⟨Nat.le_of_ble_eq_true rfl, Nat.le_of_ble_eq_true rfl⟩) rfl rfl hl.1 (Nat.le_of_ble_eq_true rfl) dL_act_561 ⟨Nat.le_of_ble_eq_true rfl, Nat.le_of_ble_eq_true rfl⟩ (fun _ H locs hP hD hS => ?_)
                      have hP : va_P D vwCl (([(r371, .inl ((cy 0), 3, .inl (rowC (uCh u k3 2 (nI t1) (nI t2) 0 0) (un u))))] : va_W) ++ (wS5 cy b (sup sa 1 r471) st (sup ch (un u) r371) (un u + 1) (uw u) (ud u) (nI (zh (uh u))) (zl (uh u)) ++ (rows12 cy st 6 (rowS (uh u)) ++ (wX cy a q q2 ca ta (uCh u (ix (nI k3)) (chSz 0 0) (nI t1) (nI t2) 0 0) g ++ chT cy ch u)))) H := hP
                      have hD : va_D A (([(r371, .inl ((cy 0), 3, .inl (rowC (uCh u k3 2 (nI t1) (nI t2) 0 0) (un u))))] : va_W) ++ (wS5 cy b (sup sa 1 r471) st (sup ch (un u) r371) (un u + 1) (uw u) (ud u) (nI (zh (uh u))) (zl (uh u)) ++ (rows12 cy st 6 (rowS (uh u)) ++ (wX cy a q q2 ca ta (uCh u (ix (nI k3)) (chSz 0 0) (nI t1) (nI t2) 0 0) g ++ chT cy ch u)))) := hD
                      refine W.widen (k := 8) (n := 45) (Nat.le_of_ble_eq_true rfl) (Nat.le_of_ble_eq_true rfl) ?_
                      rw [ixk, chSz_2] at hP hD
                      have hP : va_P D vwCl (([(r371, .inl ((cy 0), 3, .inl (rowC (uCh u k3 2 (nI t1) (nI t2) 0 0) (un u))))] : va_W) ++ (wS5 cy b (sup sa 1 r471) st (sup ch (un u) r371) (un u + 1) (uw u) (ud u) (nI (zh (uh u))) (zl (uh u)) ++ (rows12 cy st 6 (rowS (uh u)) ++ (wX cy a q q2 ca ta (uCh u k3 2 (nI t1) (nI t2) 0 0) g ++ chT cy ch u)))) H := hP
                      have hD : va_D A (([(r371, .inl ((cy 0), 3, .inl (rowC (uCh u k3 2 (nI t1) (nI t2) 0 0) (un u))))] : va_W) ++ (wS5 cy b (sup sa 1 r471) st (sup ch (un u) r371) (un u + 1) (uw u) (ud u) (nI (zh (uh u))) (zl (uh u)) ++ (rows12 cy st 6 (rowS (uh u)) ++ (wX cy a q q2 ca ta (uCh u k3 2 (nI t1) (nI t2) 0 0) g ++ chT cy ch u)))) := hD
                      refine lv_aload hx hb dL_act_564 (lv_at hl 6 rfl) ?_
                      refine pc_alenA hx hb hkp hP 3 rfl (v := nI (un u + 1)) rfl dL_act_566 ?_
                      refine lv_iconst (v := 1) hx hb dL_act_567 (by decide) ?_
                      refine lv_isub hx hb dL_act_568 ?_
                      refine pc_top (show (nI (un u + 1)) - 1 = nI ((un u + 1) - 1) from pk_sub (a := un u + 1) (b := 1) (by omega)) ?_
                      refine pc_top (show nI ((un u + 1) - 1) = nI (un u) from (by rw [Nat.add_sub_cancel])) ?_
                      refine lv_icmp_ne (tgt := 576) hx hb dL_act_569 (by decide) (fun c569 => absurd c569 (not_not_intro rfl)) (fun c569 => ?_)
                      have n569 : un u = un u := (nI_eq (a := un u) (b := un u) (by omega) (by omega)).mp c569
                      refine lv_iconst (v := 1) hx hb dL_act_572 (by decide) ?_
                      refine lv_goto (tgt := 577) hx hb dL_act_573 (by decide) ?_
                      refine W.widen (k := 8) (n := 48) (by omega) (by omega) ?_
                      have hP9 : va_P D vwCl (wSu cy b ((uCh u k3 2 (nI t1) (nI t2) 0 0, sup sa 1 r471, st, sup ch (un u) r371) : US × (Nat → Nat) × (Nat → Nat) × (Nat → Nat)).2.1 ((uCh u k3 2 (nI t1) (nI t2) 0 0, sup sa 1 r471, st, sup ch (un u) r371) : US × (Nat → Nat) × (Nat → Nat) × (Nat → Nat)).2.2.1 ((uCh u k3 2 (nI t1) (nI t2) 0 0, sup sa 1 r471, st, sup ch (un u) r371) : US × (Nat → Nat) × (Nat → Nat) × (Nat → Nat)).2.2.2 ((uCh u k3 2 (nI t1) (nI t2) 0 0, sup sa 1 r471, st, sup ch (un u) r371) : US × (Nat → Nat) × (Nat → Nat) × (Nat → Nat)).1 ++ (wSr cy ((uCh u k3 2 (nI t1) (nI t2) 0 0, sup sa 1 r471, st, sup ch (un u) r371) : US × (Nat → Nat) × (Nat → Nat) × (Nat → Nat)).2.2.1 ((uCh u k3 2 (nI t1) (nI t2) 0 0, sup sa 1 r471, st, sup ch (un u) r371) : US × (Nat → Nat) × (Nat → Nat) × (Nat → Nat)).1 ++ (wX cy a q q2 ca ta ((uCh u k3 2 (nI t1) (nI t2) 0 0, sup sa 1 r471, st, sup ch (un u) r371) : US × (Nat → Nat) × (Nat → Nat) × (Nat → Nat)).1 g ++ chT cy ((uCh u k3 2 (nI t1) (nI t2) 0 0, sup sa 1 r471, st, sup ch (un u) r371) : US × (Nat → Nat) × (Nat → Nat) × (Nat → Nat)).2.2.2 ((uCh u k3 2 (nI t1) (nI t2) 0 0, sup sa 1 r471, st, sup ch (un u) r371) : US × (Nat → Nat) × (Nat → Nat) × (Nat → Nat)).1))) H := (by show va_P D vwCl (wSu cy b (sup sa 1 r471) st (sup ch (un u) r371) (uCh u k3 2 (nI t1) (nI t2) 0 0) ++ (wSr cy st (uCh u k3 2 (nI t1) (nI t2) 0 0) ++ (wX cy a q q2 ca ta (uCh u k3 2 (nI t1) (nI t2) 0 0) g ++ chT cy (sup ch (un u) r371) (uCh u k3 2 (nI t1) (nI t2) 0 0)))) H; rw [← chT_new]; exact act_endP hP)
                      have hD9 : va_D A (wSu cy b ((uCh u k3 2 (nI t1) (nI t2) 0 0, sup sa 1 r471, st, sup ch (un u) r371) : US × (Nat → Nat) × (Nat → Nat) × (Nat → Nat)).2.1 ((uCh u k3 2 (nI t1) (nI t2) 0 0, sup sa 1 r471, st, sup ch (un u) r371) : US × (Nat → Nat) × (Nat → Nat) × (Nat → Nat)).2.2.1 ((uCh u k3 2 (nI t1) (nI t2) 0 0, sup sa 1 r471, st, sup ch (un u) r371) : US × (Nat → Nat) × (Nat → Nat) × (Nat → Nat)).2.2.2 ((uCh u k3 2 (nI t1) (nI t2) 0 0, sup sa 1 r471, st, sup ch (un u) r371) : US × (Nat → Nat) × (Nat → Nat) × (Nat → Nat)).1 ++ (wSr cy ((uCh u k3 2 (nI t1) (nI t2) 0 0, sup sa 1 r471, st, sup ch (un u) r371) : US × (Nat → Nat) × (Nat → Nat) × (Nat → Nat)).2.2.1 ((uCh u k3 2 (nI t1) (nI t2) 0 0, sup sa 1 r471, st, sup ch (un u) r371) : US × (Nat → Nat) × (Nat → Nat) × (Nat → Nat)).1 ++ (wX cy a q q2 ca ta ((uCh u k3 2 (nI t1) (nI t2) 0 0, sup sa 1 r471, st, sup ch (un u) r371) : US × (Nat → Nat) × (Nat → Nat) × (Nat → Nat)).1 g ++ chT cy ((uCh u k3 2 (nI t1) (nI t2) 0 0, sup sa 1 r471, st, sup ch (un u) r371) : US × (Nat → Nat) × (Nat → Nat) × (Nat → Nat)).2.2.2 ((uCh u k3 2 (nI t1) (nI t2) 0 0, sup sa 1 r471, st, sup ch (un u) r371) : US × (Nat → Nat) × (Nat → Nat) × (Nat → Nat)).1))) := (by show va_D A (wSu cy b (sup sa 1 r471) st (sup ch (un u) r371) (uCh u k3 2 (nI t1) (nI t2) 0 0) ++ (wSr cy st (uCh u k3 2 (nI t1) (nI t2) 0 0) ++ (wX cy a q q2 ca ta (uCh u k3 2 (nI t1) (nI t2) 0 0) g ++ chT cy (sup ch (un u) r371) (uCh u k3 2 (nI t1) (nI t2) 0 0)))); rw [← chT_new]; exact act_endD hD)
                      exact W.zret (v := 1) hx hb hr (by decide) (fun t ht hW => ⟨⟨1, ((uCh u k3 2 (nI t1) (nI t2) 0 0, sup sa 1 r471, st, sup ch (un u) r371) : US × (Nat → Nat) × (Nat → Nat) × (Nat → Nat)), rfl, ⟨rfl, INV_ch2 I (by omega) (by omega) ta1 tb1 ta2 tb2, rfl⟩, by rw [ht]; exact hP9, hD9⟩, hS.F ht⟩) hS.2.2 dL_act_577
                    · have n486 : ¬ (un u ≤ jj) := fun h9 => c486 ((nI_leI (a := un u) (b := jj) (by omega) (by omega)).mpr h9)
                      refine lv_aload hx hb dL_act_489 (lv_at hl 6 rfl) ?_
                      refine lv_iload hx hb dL_act_491 (lv_at hl 7 rfl) ?_
                      refine lv_aload_n hx hb dL_act_493 rfl (lv_at hl 1 rfl) ?_
                      refine va_get (D := D) (ci := 3) (v := .ref (sa 1)) (C := RX3) (T := TX3) (N := 6) hx hb hts inL_act_RX3 hown hK hP 2 rfl rfl 1 (by decide) (hts _ kL_act_4) (fun _ h9 => h9) rfl dL_act_494 ?_
                      refine lv_iload hx hb dL_act_497 (lv_at hl 7 rfl) ?_
                      refine pc_aldA hx hb hkp hP 4 rfl (k := jj) (show jj < un u by omega) (by omega) (v := ch jj) rfl dL_act_499 ?_
                      obtain ⟨qk, hqk⟩ := List.getElem?_of_mem (show ((ch jj, .inl (cy 0, uz u jj + 1, .inl (rowC u jj))) : Nat × va_E) ∈ (([(r471, .inl ((cy 4), un u + 1, .inr (.inr (.inr (.inr (cpF ch jj)))))), (r371, .inl ((cy 0), 3, .inl M))] : va_W) ++ (wS5 cy b sa st ch (un u) (uw u) (ud u) (nI (zh (uh u))) (zl (uh u)) ++ (rows12 cy st 6 (rowS (uh u)) ++ (wX cy a q q2 ca ta u g ++ chT cy ch u))) : va_W) from List.mem_append_right _ (List.mem_append_right _ (List.mem_append_right _ (List.mem_append_right _ (chT_mem (by omega))))))
                      refine pc_astA hx hb hK hkp hP hD hS 0 qk rfl hqk (k := jj) (show jj < un u + 1 by omega) (by omega) dL_act_500 (fun H locs hP hD hS => ?_)
                      have hP : va_P D vwCl (([(r471, .inl ((cy 4), un u + 1, .inr (.inr (.inr (.inr (va_up (cpF ch jj) jj (some (ch jj)))))))), (r371, .inl ((cy 0), 3, .inl M))] : va_W) ++ (wS5 cy b sa st ch (un u) (uw u) (ud u) (nI (zh (uh u))) (zl (uh u)) ++ (rows12 cy st 6 (rowS (uh u)) ++ (wX cy a q q2 ca ta u g ++ chT cy ch u)))) H := hP
                      have hD : va_D A (([(r471, .inl ((cy 4), un u + 1, .inr (.inr (.inr (.inr (va_up (cpF ch jj) jj (some (ch jj)))))))), (r371, .inl ((cy 0), 3, .inl M))] : va_W) ++ (wS5 cy b sa st ch (un u) (uw u) (ud u) (nI (zh (uh u))) (zl (uh u)) ++ (rows12 cy st 6 (rowS (uh u)) ++ (wX cy a q q2 ca ta u g ++ chT cy ch u)))) := hD
                      have e9 : (va_up (cpF ch jj) jj (some (ch jj))) = cpF ch (jj + 1) := (cpF_s _ _)
                      rw [e9] at hP hD
                      clear e9
                      have hP : va_P D vwCl (([(r471, .inl ((cy 4), un u + 1, .inr (.inr (.inr (.inr (cpF ch (jj + 1))))))), (r371, .inl ((cy 0), 3, .inl M))] : va_W) ++ (wS5 cy b sa st ch (un u) (uw u) (ud u) (nI (zh (uh u))) (zl (uh u)) ++ (rows12 cy st 6 (rowS (uh u)) ++ (wX cy a q q2 ca ta u g ++ chT cy ch u)))) H := hP
                      have hD : va_D A (([(r471, .inl ((cy 4), un u + 1, .inr (.inr (.inr (.inr (cpF ch (jj + 1))))))), (r371, .inl ((cy 0), 3, .inl M))] : va_W) ++ (wS5 cy b sa st ch (un u) (uw u) (ud u) (nI (zh (uh u))) (zl (uh u)) ++ (rows12 cy st 6 (rowS (uh u)) ++ (wX cy a q q2 ca ta u g ++ chT cy ch u)))) := hD
                      refine lv_iinc (v := nI (jj + 1)) (lv' := [(11, .int (nI (jj + 1))), (0, .ref (a 0)), (1, .ref b), (2, .int xv), (3, .int (nI k3)), (8, .int 2), (9, .ref r371), (10, .ref r471)]) hx hb dL_act_501 hl (k := 7) rfl ((show (nI jj) + Int32.ofInt 1 = (nI jj) + 1 from rfl).trans (show (nI jj) + 1 = nI (jj + 1) from nI_add jj 1)) (by decide) rfl (fun ls hl => ?_)
                      refine lv_goto (tgt := 479) hx hb dL_act_504 (by decide) ?_
                      exact ih479 (jj + 1) (by omega) (by omega) _ _ hP hD hS ls (lv_sub hl [1, 2, 3, 4, 5, 6, 7, 0] rfl)
                exact loop479 (un u + 1) 0 (Nat.zero_le _) (by omega) _ _ hP hD hS ls (lv_sub hl [2, 3, 4, 5, 6, 7, 1, 0] rfl)
              · have n387 : ¬ (2 < i) := fun h9 => c387 ((nI_ltI (a := 2) (b := i) (by omega) (by omega)).mpr h9)
                refine lv_aload hx hb dL_act_390 (lv_at hl 5 rfl) ?_
                refine lv_iload hx hb dL_act_392 (lv_at hl 6 rfl) ?_
                refine lv_iconst (v := 1) hx hb dL_act_394 (by decide) ?_
                refine lv_aload_n hx hb dL_act_395 rfl (lv_at hl 1 rfl) ?_
                refine lv_iload_n hx hb dL_act_396 rfl (lv_at hl 3 rfl) ?_
                refine lv_iload hx hb dL_act_397 (lv_at hl 6 rfl) ?_
                refine lv_iadd hx hb dL_act_399 ?_
                refine pc_top (show (nI k3) + (nI i) = nI (k3 + i) from nI_add k3 i) ?_
                refine lv_iconst (v := 1) hx hb dL_act_400 (by decide) ?_
                refine lv_isub hx hb dL_act_401 ?_
                refine pc_top (show (nI (k3 + i)) - 1 = nI ((k3 + i) - 1) from pk_sub (a := k3 + i) (b := 1) (by omega)) ?_
                refine sim_p (Lc := ([(r371, .inl ((cy 0), 3, .inl M))] : va_W)) (S5 := wS5 cy b sa st ch (un u) (uw u) (ud u) (nI (zh (uh u))) (zl (uh u))) (S12 := rows12 cy st 6 (rowS (uh u))) (X := wX cy a q q2 ca ta u g ++ chT cy ch u) (Y := []) (As := [.int (nI ((k3 + i) - 1))]) (rest := [.int 1, .int (nI i), .ref r371]) hP hK hkp ⟨hx, hb, hml, hown, hts⟩ (mX3_tone l D cy b sa st ch u (k3 + i - 1) (by omega)) (no_mem) rfl (cwV 1 hts gL_act_X3_tone rfl rfl rfl (by decide +kernel) ⟨Nat.le_of_ble_eq_true rfl, Nat.le_of_ble_eq_true rfl⟩) rfl rfl hl.1 (Nat.le_of_ble_eq_true rfl) dL_act_402 ⟨Nat.le_of_ble_eq_true rfl, Nat.le_of_ble_eq_true rfl⟩ ?_
                obtain ⟨tt, htt, ett⟩ := tone_b I (show k3 + i - 1 < 12 by omega)
                refine pc_top (show tone (uh u) (k3 + i - 1) = nI tt from ett) ?_
                refine lv_iload_n hx hb dL_act_405 rfl (lv_at hl 2 rfl) ?_
                refine lv_iload hx hb dL_act_406 (lv_at hl 6 rfl) ?_
                refine lv_ishr hx hb dL_act_408 ?_
                refine lv_iconst (v := 5) hx hb dL_act_409 (by decide) ?_
                refine lv_iload hx hb dL_act_410 (lv_at hl 6 rfl) ?_
                refine lv_imul hx hb dL_act_412 ?_
                refine pc_top (show 5 * (nI i) = nI (5 * i) from pk_mul 5 i) ?_
                refine lv_iadd hx hb dL_act_413 ?_
                refine lv_iload_n hx hb dL_act_414 rfl (lv_at hl 2 rfl) ?_
                refine lv_bipush (v := 6) hx hb dL_act_415 (by decide) ?_
                refine lv_ishr hx hb dL_act_417 ?_
                refine lv_iconst (v := 2) hx hb dL_act_418 (by decide) ?_
                refine pc_calli (va_runS (As := [.int (xv >>> (6 &&& 31)), .int 2]) (rest := [.int ((xv >>> ((nI i) &&& 31)) + (nI (5 * i))), .int (nI tt), .int 1, .int (nI i), .ref r371]) ⟨hx, hb, hml, hown, hts⟩ (mL_below l D cy (xv >>> (6 &&& 31)) 2 (by decide) (by decide)) (va_cwS 2 hts gL_act_L_below rfl rfl rfl (by decide +kernel) ⟨Nat.le_of_ble_eq_true rfl, Nat.le_of_ble_eq_true rfl⟩) ⟨fun a U g mk q => q, fun U hU hW => ⟨rfl, trivial⟩⟩ rfl rfl hl.1 rfl (lv_room (Nat.le_of_ble_eq_true rfl)) dL_act_419 ⟨Nat.le_of_ble_eq_true rfl, Nat.le_of_ble_eq_true rfl⟩) (fun r9 hr9 => ?_)
                obtain ⟨k419, hk419, rfl⟩ := hr9
                refine lv_if_ne (tgt := 430) hx hb dL_act_422 (by decide) (fun c422 => ?_) (fun c422 => ?_)
                · have n422 : ¬ (k419 = 0) := fun h9 => c422 ((nI_eq (a := k419) (b := 0) (by omega) (by omega)).mpr h9)
                  refine lv_bipush (v := 61) hx hb dL_act_430 (by decide) ?_
                  refine pc_calli (va_runS (As := [.int ((xv >>> ((nI i) &&& 31)) + (nI (5 * i))), .int 61]) (rest := [.int (nI tt), .int 1, .int (nI i), .ref r371]) ⟨hx, hb, hml, hown, hts⟩ (mL_below l D cy ((xv >>> ((nI i) &&& 31)) + (nI (5 * i))) 61 (by decide) (by decide)) (va_cwS 2 hts gL_act_L_below rfl rfl rfl (by decide +kernel) ⟨Nat.le_of_ble_eq_true rfl, Nat.le_of_ble_eq_true rfl⟩) ⟨fun a U g mk q => q, fun U hU hW => ⟨rfl, trivial⟩⟩ rfl rfl hl.1 rfl (lv_room (Nat.le_of_ble_eq_true rfl)) dL_act_432 ⟨Nat.le_of_ble_eq_true rfl, Nat.le_of_ble_eq_true rfl⟩) (fun r9 hr9 => ?_)
                  obtain ⟨k432, hk432, rfl⟩ := hr9
                  refine lv_iadd hx hb dL_act_435 ?_
                  refine lv_iload_n hx hb dL_act_436 rfl (lv_at hl 2 rfl) ?_
                  refine lv_bipush (v := 6) hx hb dL_act_437 (by decide) ?_
                  refine lv_ishr hx hb dL_act_439 ?_
                  refine lv_iconst (v := 2) hx hb dL_act_440 (by decide) ?_
                  refine pc_calli (va_runS (As := [.int (xv >>> (6 &&& 31)), .int 2]) (rest := [.int ((nI tt) + (nI k432)), .int 1, .int (nI i), .ref r371]) ⟨hx, hb, hml, hown, hts⟩ (mL_below l D cy (xv >>> (6 &&& 31)) 2 (by decide) (by decide)) (va_cwS 2 hts gL_act_L_below rfl rfl rfl (by decide +kernel) ⟨Nat.le_of_ble_eq_true rfl, Nat.le_of_ble_eq_true rfl⟩) ⟨fun a U g mk q => q, fun U hU hW => ⟨rfl, trivial⟩⟩ rfl rfl hl.1 rfl (lv_room (Nat.le_of_ble_eq_true rfl)) dL_act_441 ⟨Nat.le_of_ble_eq_true rfl, Nat.le_of_ble_eq_true rfl⟩) (fun r9 hr9 => ?_)
                  obtain ⟨k441, hk441, rfl⟩ := hr9
                  refine lv_if_ne (tgt := 451) hx hb dL_act_444 (by decide) (fun c444 => ?_) (fun c444 => ?_)
                  · have n444 : ¬ (k441 = 0) := fun h9 => c444 ((nI_eq (a := k441) (b := 0) (by omega) (by omega)).mpr h9)
                    refine lv_bipush (v := 30) hx hb dL_act_451 (by decide) ?_
                    refine lv_isub hx hb dL_act_453 ?_
                    refine va_mmax hx hb (by rw [hml]; exact hl.1.symm) hown (hts _ kL_act_6) (hts _ kL_act_7) (hts _ kL_act_8) (hts _ kL_act_9) (Nat.le_of_ble_eq_true rfl) (Nat.le_of_ble_eq_true rfl) (Nat.le_of_ble_eq_true rfl) (Nat.le_of_ble_eq_true rfl) dL_act_454 ?_
                    refine pc_top (show (if 1 < (((nI tt) + (nI k432)) - 30) then (((nI tt) + (nI k432)) - 30) else 1) = mx 1 (((nI tt) + (nI k432)) - 30) from rfl) ?_
                    obtain ⟨v9, hv1, hv2, ev9⟩ := made_b (t := tt) (r := k432) (c := 30) htt (by omega) (by decide)
                    refine pc_top (show mx 1 (((nI tt) + (nI k432)) - 30) = nI v9 from ev9) ?_
                    refine pc_iast hx hb hK hP hD hS 0 0 rfl rfl (k := i) (show i < 3 by omega) (by decide) dL_act_457 (fun H locs hP hD hS => ?_)
                    have hP : va_P D vwCl (([(r371, .inl ((cy 0), 3, .inl (upd M i (nI v9))))] : va_W) ++ (wS5 cy b sa st ch (un u) (uw u) (ud u) (nI (zh (uh u))) (zl (uh u)) ++ (rows12 cy st 6 (rowS (uh u)) ++ (wX cy a q q2 ca ta u g ++ chT cy ch u)))) H := hP
                    have hD : va_D A (([(r371, .inl ((cy 0), 3, .inl (upd M i (nI v9))))] : va_W) ++ (wS5 cy b sa st ch (un u) (uw u) (ud u) (nI (zh (uh u))) (zl (uh u)) ++ (rows12 cy st 6 (rowS (uh u)) ++ (wX cy a q q2 ca ta u g ++ chT cy ch u)))) := hD
                    refine lv_iinc (v := nI (i + 1)) (lv' := [(10, .int (nI (i + 1))), (0, .ref (a 0)), (1, .ref b), (2, .int xv), (3, .int (nI k3)), (8, .int 2), (9, .ref r371)]) hx hb dL_act_458 hl (k := 6) rfl ((show (nI i) + Int32.ofInt 1 = (nI i) + 1 from rfl).trans (show (nI i) + 1 = nI (i + 1) from nI_add i 1)) (by decide) rfl (fun ls hl => ?_)
                    refine lv_goto (tgt := 383) hx hb dL_act_461 (by decide) ?_
                    exact ih383 (i + 1) (upd M i (nI v9)) (⟨by omega, by omega⟩) ((pk_un (by omega)).trans hM0) (made_s hM hv1 hv2) (by omega) _ _ hP hD hS ls (lv_sub hl [1, 2, 3, 4, 5, 6, 0] rfl)
                  · have n444 : k441 = 0 := (nI_eq (a := k441) (b := 0) (by omega) (by omega)).mp c444
                    refine lv_iconst (v := 4) hx hb dL_act_447 (by decide) ?_
                    refine lv_goto (tgt := 453) hx hb dL_act_448 (by decide) ?_
                    refine lv_isub hx hb dL_act_453 ?_
                    refine va_mmax hx hb (by rw [hml]; exact hl.1.symm) hown (hts _ kL_act_6) (hts _ kL_act_7) (hts _ kL_act_8) (hts _ kL_act_9) (Nat.le_of_ble_eq_true rfl) (Nat.le_of_ble_eq_true rfl) (Nat.le_of_ble_eq_true rfl) (Nat.le_of_ble_eq_true rfl) dL_act_454 ?_
                    refine pc_top (show (if 1 < (((nI tt) + (nI k432)) - 4) then (((nI tt) + (nI k432)) - 4) else 1) = mx 1 (((nI tt) + (nI k432)) - 4) from rfl) ?_
                    obtain ⟨v9, hv1, hv2, ev9⟩ := made_b (t := tt) (r := k432) (c := 4) htt (by omega) (by decide)
                    refine pc_top (show mx 1 (((nI tt) + (nI k432)) - 4) = nI v9 from ev9) ?_
                    refine pc_iast hx hb hK hP hD hS 0 0 rfl rfl (k := i) (show i < 3 by omega) (by decide) dL_act_457 (fun H locs hP hD hS => ?_)
                    have hP : va_P D vwCl (([(r371, .inl ((cy 0), 3, .inl (upd M i (nI v9))))] : va_W) ++ (wS5 cy b sa st ch (un u) (uw u) (ud u) (nI (zh (uh u))) (zl (uh u)) ++ (rows12 cy st 6 (rowS (uh u)) ++ (wX cy a q q2 ca ta u g ++ chT cy ch u)))) H := hP
                    have hD : va_D A (([(r371, .inl ((cy 0), 3, .inl (upd M i (nI v9))))] : va_W) ++ (wS5 cy b sa st ch (un u) (uw u) (ud u) (nI (zh (uh u))) (zl (uh u)) ++ (rows12 cy st 6 (rowS (uh u)) ++ (wX cy a q q2 ca ta u g ++ chT cy ch u)))) := hD
                    refine lv_iinc (v := nI (i + 1)) (lv' := [(10, .int (nI (i + 1))), (0, .ref (a 0)), (1, .ref b), (2, .int xv), (3, .int (nI k3)), (8, .int 2), (9, .ref r371)]) hx hb dL_act_458 hl (k := 6) rfl ((show (nI i) + Int32.ofInt 1 = (nI i) + 1 from rfl).trans (show (nI i) + 1 = nI (i + 1) from nI_add i 1)) (by decide) rfl (fun ls hl => ?_)
                    refine lv_goto (tgt := 383) hx hb dL_act_461 (by decide) ?_
                    exact ih383 (i + 1) (upd M i (nI v9)) (⟨by omega, by omega⟩) ((pk_un (by omega)).trans hM0) (made_s hM hv1 hv2) (by omega) _ _ hP hD hS ls (lv_sub hl [1, 2, 3, 4, 5, 6, 0] rfl)
                · have n422 : k419 = 0 := (nI_eq (a := k419) (b := 0) (by omega) (by omega)).mp c422
                  refine lv_bipush (v := 9) hx hb dL_act_425 (by decide) ?_
                  refine lv_goto (tgt := 432) hx hb dL_act_427 (by decide) ?_
                  refine pc_calli (va_runS (As := [.int ((xv >>> ((nI i) &&& 31)) + (nI (5 * i))), .int 9]) (rest := [.int (nI tt), .int 1, .int (nI i), .ref r371]) ⟨hx, hb, hml, hown, hts⟩ (mL_below l D cy ((xv >>> ((nI i) &&& 31)) + (nI (5 * i))) 9 (by decide) (by decide)) (va_cwS 2 hts gL_act_L_below rfl rfl rfl (by decide +kernel) ⟨Nat.le_of_ble_eq_true rfl, Nat.le_of_ble_eq_true rfl⟩) ⟨fun a U g mk q => q, fun U hU hW => ⟨rfl, trivial⟩⟩ rfl rfl hl.1 rfl (lv_room (Nat.le_of_ble_eq_true rfl)) dL_act_432 ⟨Nat.le_of_ble_eq_true rfl, Nat.le_of_ble_eq_true rfl⟩) (fun r9 hr9 => ?_)
                  obtain ⟨k432, hk432, rfl⟩ := hr9
                  refine lv_iadd hx hb dL_act_435 ?_
                  refine lv_iload_n hx hb dL_act_436 rfl (lv_at hl 2 rfl) ?_
                  refine lv_bipush (v := 6) hx hb dL_act_437 (by decide) ?_
                  refine lv_ishr hx hb dL_act_439 ?_
                  refine lv_iconst (v := 2) hx hb dL_act_440 (by decide) ?_
                  refine pc_calli (va_runS (As := [.int (xv >>> (6 &&& 31)), .int 2]) (rest := [.int ((nI tt) + (nI k432)), .int 1, .int (nI i), .ref r371]) ⟨hx, hb, hml, hown, hts⟩ (mL_below l D cy (xv >>> (6 &&& 31)) 2 (by decide) (by decide)) (va_cwS 2 hts gL_act_L_below rfl rfl rfl (by decide +kernel) ⟨Nat.le_of_ble_eq_true rfl, Nat.le_of_ble_eq_true rfl⟩) ⟨fun a U g mk q => q, fun U hU hW => ⟨rfl, trivial⟩⟩ rfl rfl hl.1 rfl (lv_room (Nat.le_of_ble_eq_true rfl)) dL_act_441 ⟨Nat.le_of_ble_eq_true rfl, Nat.le_of_ble_eq_true rfl⟩) (fun r9 hr9 => ?_)
                  obtain ⟨k441, hk441, rfl⟩ := hr9
                  refine lv_if_ne (tgt := 451) hx hb dL_act_444 (by decide) (fun c444 => ?_) (fun c444 => ?_)
                  · have n444 : ¬ (k441 = 0) := fun h9 => c444 ((nI_eq (a := k441) (b := 0) (by omega) (by omega)).mpr h9)
                    refine lv_bipush (v := 30) hx hb dL_act_451 (by decide) ?_
                    refine lv_isub hx hb dL_act_453 ?_
                    refine va_mmax hx hb (by rw [hml]; exact hl.1.symm) hown (hts _ kL_act_6) (hts _ kL_act_7) (hts _ kL_act_8) (hts _ kL_act_9) (Nat.le_of_ble_eq_true rfl) (Nat.le_of_ble_eq_true rfl) (Nat.le_of_ble_eq_true rfl) (Nat.le_of_ble_eq_true rfl) dL_act_454 ?_
                    refine pc_top (show (if 1 < (((nI tt) + (nI k432)) - 30) then (((nI tt) + (nI k432)) - 30) else 1) = mx 1 (((nI tt) + (nI k432)) - 30) from rfl) ?_
                    obtain ⟨v9, hv1, hv2, ev9⟩ := made_b (t := tt) (r := k432) (c := 30) htt (by omega) (by decide)
                    refine pc_top (show mx 1 (((nI tt) + (nI k432)) - 30) = nI v9 from ev9) ?_
                    refine pc_iast hx hb hK hP hD hS 0 0 rfl rfl (k := i) (show i < 3 by omega) (by decide) dL_act_457 (fun H locs hP hD hS => ?_)
                    have hP : va_P D vwCl (([(r371, .inl ((cy 0), 3, .inl (upd M i (nI v9))))] : va_W) ++ (wS5 cy b sa st ch (un u) (uw u) (ud u) (nI (zh (uh u))) (zl (uh u)) ++ (rows12 cy st 6 (rowS (uh u)) ++ (wX cy a q q2 ca ta u g ++ chT cy ch u)))) H := hP
                    have hD : va_D A (([(r371, .inl ((cy 0), 3, .inl (upd M i (nI v9))))] : va_W) ++ (wS5 cy b sa st ch (un u) (uw u) (ud u) (nI (zh (uh u))) (zl (uh u)) ++ (rows12 cy st 6 (rowS (uh u)) ++ (wX cy a q q2 ca ta u g ++ chT cy ch u)))) := hD
                    refine lv_iinc (v := nI (i + 1)) (lv' := [(10, .int (nI (i + 1))), (0, .ref (a 0)), (1, .ref b), (2, .int xv), (3, .int (nI k3)), (8, .int 2), (9, .ref r371)]) hx hb dL_act_458 hl (k := 6) rfl ((show (nI i) + Int32.ofInt 1 = (nI i) + 1 from rfl).trans (show (nI i) + 1 = nI (i + 1) from nI_add i 1)) (by decide) rfl (fun ls hl => ?_)
                    refine lv_goto (tgt := 383) hx hb dL_act_461 (by decide) ?_
                    exact ih383 (i + 1) (upd M i (nI v9)) (⟨by omega, by omega⟩) ((pk_un (by omega)).trans hM0) (made_s hM hv1 hv2) (by omega) _ _ hP hD hS ls (lv_sub hl [1, 2, 3, 4, 5, 6, 0] rfl)
                  · have n444 : k441 = 0 := (nI_eq (a := k441) (b := 0) (by omega) (by omega)).mp c444
                    refine lv_iconst (v := 4) hx hb dL_act_447 (by decide) ?_
                    refine lv_goto (tgt := 453) hx hb dL_act_448 (by decide) ?_
                    refine lv_isub hx hb dL_act_453 ?_
                    refine va_mmax hx hb (by rw [hml]; exact hl.1.symm) hown (hts _ kL_act_6) (hts _ kL_act_7) (hts _ kL_act_8) (hts _ kL_act_9) (Nat.le_of_ble_eq_true rfl) (Nat.le_of_ble_eq_true rfl) (Nat.le_of_ble_eq_true rfl) (Nat.le_of_ble_eq_true rfl) dL_act_454 ?_
                    refine pc_top (show (if 1 < (((nI tt) + (nI k432)) - 4) then (((nI tt) + (nI k432)) - 4) else 1) = mx 1 (((nI tt) + (nI k432)) - 4) from rfl) ?_
                    obtain ⟨v9, hv1, hv2, ev9⟩ := made_b (t := tt) (r := k432) (c := 4) htt (by omega) (by decide)
                    refine pc_top (show mx 1 (((nI tt) + (nI k432)) - 4) = nI v9 from ev9) ?_
                    refine pc_iast hx hb hK hP hD hS 0 0 rfl rfl (k := i) (show i < 3 by omega) (by decide) dL_act_457 (fun H locs hP hD hS => ?_)
                    have hP : va_P D vwCl (([(r371, .inl ((cy 0), 3, .inl (upd M i (nI v9))))] : va_W) ++ (wS5 cy b sa st ch (un u) (uw u) (ud u) (nI (zh (uh u))) (zl (uh u)) ++ (rows12 cy st 6 (rowS (uh u)) ++ (wX cy a q q2 ca ta u g ++ chT cy ch u)))) H := hP
                    have hD : va_D A (([(r371, .inl ((cy 0), 3, .inl (upd M i (nI v9))))] : va_W) ++ (wS5 cy b sa st ch (un u) (uw u) (ud u) (nI (zh (uh u))) (zl (uh u)) ++ (rows12 cy st 6 (rowS (uh u)) ++ (wX cy a q q2 ca ta u g ++ chT cy ch u)))) := hD
                    refine lv_iinc (v := nI (i + 1)) (lv' := [(10, .int (nI (i + 1))), (0, .ref (a 0)), (1, .ref b), (2, .int xv), (3, .int (nI k3)), (8, .int 2), (9, .ref r371)]) hx hb dL_act_458 hl (k := 6) rfl ((show (nI i) + Int32.ofInt 1 = (nI i) + 1 from rfl).trans (show (nI i) + 1 = nI (i + 1) from nI_add i 1)) (by decide) rfl (fun ls hl => ?_)
                    refine lv_goto (tgt := 383) hx hb dL_act_461 (by decide) ?_
                    exact ih383 (i + 1) (upd M i (nI v9)) (⟨by omega, by omega⟩) ((pk_un (by omega)).trans hM0) (made_s hM hv1 hv2) (by omega) _ _ hP hD hS ls (lv_sub hl [1, 2, 3, 4, 5, 6, 0] rfl)
          exact loop383 (3 + 1) 1 (upd (fun _ => 0) 0 (nI k3)) (⟨Nat.le_refl _, by decide⟩) pk_us (fun j h1 h2 => absurd h2 (by omega)) (by omega) _ _ hP hD hS ls (lv_sub hl [5, 6, 7, 4, 2, 1, 0] rfl)
        · have n362 : ¬ (k3 + 2 ≤ 12) := fun h9 => c362 ((nI_leI (a := k3 + 2) (b := 12) (by omega) (by omega)).mpr h9)
          refine lv_iconst (v := 1) hx hb dL_act_365 (by decide) ?_
          have hP9 : va_P D vwCl (wSu cy b ((u, sa, st, ch) : US × (Nat → Nat) × (Nat → Nat) × (Nat → Nat)).2.1 ((u, sa, st, ch) : US × (Nat → Nat) × (Nat → Nat) × (Nat → Nat)).2.2.1 ((u, sa, st, ch) : US × (Nat → Nat) × (Nat → Nat) × (Nat → Nat)).2.2.2 ((u, sa, st, ch) : US × (Nat → Nat) × (Nat → Nat) × (Nat → Nat)).1 ++ (wSr cy ((u, sa, st, ch) : US × (Nat → Nat) × (Nat → Nat) × (Nat → Nat)).2.2.1 ((u, sa, st, ch) : US × (Nat → Nat) × (Nat → Nat) × (Nat → Nat)).1 ++ (wX cy a q q2 ca ta ((u, sa, st, ch) : US × (Nat → Nat) × (Nat → Nat) × (Nat → Nat)).1 g ++ chT cy ((u, sa, st, ch) : US × (Nat → Nat) × (Nat → Nat) × (Nat → Nat)).2.2.2 ((u, sa, st, ch) : US × (Nat → Nat) × (Nat → Nat) × (Nat → Nat)).1))) s.heap := (pM_dropP hP)
          have hD9 : va_D A (wSu cy b ((u, sa, st, ch) : US × (Nat → Nat) × (Nat → Nat) × (Nat → Nat)).2.1 ((u, sa, st, ch) : US × (Nat → Nat) × (Nat → Nat) × (Nat → Nat)).2.2.1 ((u, sa, st, ch) : US × (Nat → Nat) × (Nat → Nat) × (Nat → Nat)).2.2.2 ((u, sa, st, ch) : US × (Nat → Nat) × (Nat → Nat) × (Nat → Nat)).1 ++ (wSr cy ((u, sa, st, ch) : US × (Nat → Nat) × (Nat → Nat) × (Nat → Nat)).2.2.1 ((u, sa, st, ch) : US × (Nat → Nat) × (Nat → Nat) × (Nat → Nat)).1 ++ (wX cy a q q2 ca ta ((u, sa, st, ch) : US × (Nat → Nat) × (Nat → Nat) × (Nat → Nat)).1 g ++ chT cy ((u, sa, st, ch) : US × (Nat → Nat) × (Nat → Nat) × (Nat → Nat)).2.2.2 ((u, sa, st, ch) : US × (Nat → Nat) × (Nat → Nat) × (Nat → Nat)).1))) := (pM_dropD hD)
          refine W.widen (k := 8) (n := 48) (Nat.le_of_ble_eq_true rfl) (Nat.le_of_ble_eq_true rfl) ?_
          exact W.zret (v := 1) hx hb hr (by decide) (fun t ht hW => ⟨⟨1, ((u, sa, st, ch) : US × (Nat → Nat) × (Nat → Nat) × (Nat → Nat)), rfl, ⟨rfl, I, rfl⟩, by rw [ht]; exact hP9, hD9⟩, hS.F ht⟩) hS.2.2 dL_act_366
      · skip
        refine lv_iadd hx hb dL_act_353 ?_
        refine pc_top (show 2 + (nI 1) = 3 from (by decide)) ?_
        refine lv_istore (lv' := [(8, .int 3), (4, .ref (st k3)), (3, .int (nI k3)), (0, .ref (a 0)), (1, .ref b), (2, .int xv)]) hx hb dL_act_354 hl (by decide) rfl (fun ls hl => ?_)
        refine lv_iload_n hx hb dL_act_356 rfl (lv_at hl 2 rfl) ?_
        refine lv_iload hx hb dL_act_357 (lv_at hl 0 rfl) ?_
        refine lv_iadd hx hb dL_act_359 ?_
        refine pc_top (show (nI k3) + 3 = nI (k3 + 3) from nI_add k3 3) ?_
        refine lv_bipush (v := 12) hx hb dL_act_360 (by decide) ?_
        refine lv_icmp_le (tgt := 367) hx hb dL_act_362 (by decide) (fun c362 => ?_) (fun c362 => ?_)
        · have n362 : k3 + 3 ≤ 12 := (nI_leI (a := k3 + 3) (b := 12) (by omega) (by omega)).mp c362
          refine lv_iconst (v := 1) hx hb dL_act_367 (by decide) ?_
          refine lv_iload hx hb dL_act_368 (lv_at hl 0 rfl) ?_
          refine lv_iadd hx hb dL_act_370 ?_
          refine pc_top (show 1 + 3 = 4 from (by decide)) ?_
          refine pc_newaF (atype := .int) (ty := .int) (N' := 4) (a0 := (4, .inl (fun _ => 0))) hx hb (hts _ kL_act_1) rfl hK hP hD hS hA 0 rfl (fun _ => rfl) (by decide) (by decide) (by decide) (Nat.le_of_ble_eq_true rfl) (Nat.le_of_ble_eq_true rfl) dL_act_371 (fun r371 H hP hD hS => ?_)
          have hP : va_P D vwCl (([(r371, .inl ((cy 0), 4, .inl (fun _ => 0)))] : va_W) ++ (wS5 cy b sa st ch (un u) (uw u) (ud u) (nI (zh (uh u))) (zl (uh u)) ++ (rows12 cy st 6 (rowS (uh u)) ++ (wX cy a q q2 ca ta u g ++ chT cy ch u)))) H := hP
          have hD : va_D A (([(r371, .inl ((cy 0), 4, .inl (fun _ => 0)))] : va_W) ++ (wS5 cy b sa st ch (un u) (uw u) (ud u) (nI (zh (uh u))) (zl (uh u)) ++ (rows12 cy st 6 (rowS (uh u)) ++ (wX cy a q q2 ca ta u g ++ chT cy ch u)))) := hD
          refine W.widen (k := 1) (n := 4) (Nat.le_of_ble_eq_true rfl) (Nat.le_of_ble_eq_true rfl) ?_
          refine lv_astore (lv' := [(9, .ref r371), (8, .int 3), (4, .ref (st k3)), (3, .int (nI k3)), (0, .ref (a 0)), (1, .ref b), (2, .int xv)]) hx hb dL_act_373 hl (by decide) rfl (fun ls hl => ?_)
          refine lv_aload hx hb dL_act_375 (lv_at hl 0 rfl) ?_
          refine lv_iconst (v := 0) hx hb dL_act_377 (by decide) ?_
          refine lv_iload_n hx hb dL_act_378 rfl (lv_at hl 3 rfl) ?_
          refine pc_iast hx hb hK hP hD hS 0 0 rfl rfl (k := 0) (show 0 < 4 by omega) (by decide) dL_act_379 (fun H locs hP hD hS => ?_)
          have hP : va_P D vwCl (([(r371, .inl ((cy 0), 4, .inl (upd (fun _ => 0) 0 (nI k3))))] : va_W) ++ (wS5 cy b sa st ch (un u) (uw u) (ud u) (nI (zh (uh u))) (zl (uh u)) ++ (rows12 cy st 6 (rowS (uh u)) ++ (wX cy a q q2 ca ta u g ++ chT cy ch u)))) H := hP
          have hD : va_D A (([(r371, .inl ((cy 0), 4, .inl (upd (fun _ => 0) 0 (nI k3))))] : va_W) ++ (wS5 cy b sa st ch (un u) (uw u) (ud u) (nI (zh (uh u))) (zl (uh u)) ++ (rows12 cy st 6 (rowS (uh u)) ++ (wX cy a q q2 ca ta u g ++ chT cy ch u)))) := hD
          refine lv_iconst (v := 1) hx hb dL_act_380 (by decide) ?_
          refine lv_istore (lv' := [(10, .int 1), (9, .ref r371), (8, .int 3), (4, .ref (st k3)), (3, .int (nI k3)), (0, .ref (a 0)), (1, .ref b), (2, .int xv)]) hx hb dL_act_381 hl (by decide) rfl (fun ls hl => ?_)
          have loop383 : ∀ (n9 : Nat) (i : Nat) (M : Nat → Int32), (1 ≤ i ∧ i ≤ 4) → M 0 = nI k3 → (∀ j, 1 ≤ j → j < i → ∃ t, 1 ≤ t ∧ t ≤ 1500 ∧ M j = nI t) → 4 - i < n9 → ∀ (H : Heap) (locs : List Loc), va_P D vwCl (([(r371, .inl ((cy 0), 4, .inl M))] : va_W) ++ (wS5 cy b sa st ch (un u) (uw u) (ud u) (nI (zh (uh u))) (zl (uh u)) ++ (rows12 cy st 6 (rowS (uh u)) ++ (wX cy a q q2 ca ta u g ++ chT cy ch u)))) H → va_D A (([(r371, .inl ((cy 0), 4, .inl M))] : va_W) ++ (wS5 cy b sa st ch (un u) (uw u) (ud u) (nI (zh (uh u))) (zl (uh u)) ++ (rows12 cy st 6 (rowS (uh u)) ++ (wX cy a q q2 ca ta u g ++ chT cy ch u)))) → va_S A s.heap H locs → ∀ ls : Array Slot, lv_has ls 12 [(0, .ref (a 0)), (1, .ref b), (2, .int xv), (3, .int (nI k3)), (8, .int 3), (9, .ref r371), (10, .int (nI i))] → W p l e (headSpec wsL_act ({ frames := 12, cells := 8, slots := 48, locals := 300 } : Room)).room s m ([.ref (a 0), .ref b, .int xv] : List Value).toArray below meth c H locs 1 4 (MQ below (va_Qi (fun (r8 : Int32) (z9 : US × (Nat → Nat) × (Nat → Nat) × (Nat → Nat)) => r8 = 1 ∧ INV z9.1 ∧ zh (uh z9.1) = zh (uh u)) (fun (z9 : US × (Nat → Nat) × (Nat → Nat) × (Nat → Nat)) t => va_P D vwCl (wSu cy b z9.2.1 z9.2.2.1 z9.2.2.2 z9.1 ++ (wSr cy z9.2.2.1 z9.1 ++ (wX cy a q q2 ca ta z9.1 g ++ chT cy z9.2.2.2 z9.1))) t.heap ∧ va_D A (wSu cy b z9.2.1 z9.2.2.1 z9.2.2.2 z9.1 ++ (wSr cy z9.2.2.1 z9.1 ++ (wX cy a q q2 ca ta z9.1 g ++ chT cy z9.2.2.2 z9.1)))) A) ([.ref (a 0), .ref b, .int xv] : List Value).toArray s 8 48 A) (F0 m 383 ls []) := by
            intro n9
            induction n9 with
            | zero => intro i M hi hM0 hM h9 H locs hP hD hS ls hl; exact absurd h9 (by omega)
            | succ n9 ih383 =>
              intro i M hi hM0 hM h9 H locs hP hD hS ls hl
              refine lv_iload hx hb dL_act_383 (lv_at hl 6 rfl) ?_
              refine lv_iload hx hb dL_act_385 (lv_at hl 4 rfl) ?_
              refine lv_icmp_gt (tgt := 464) hx hb dL_act_387 (by decide) (fun c387 => ?_) (fun c387 => ?_)
              · have n387 : 3 < i := (nI_ltI (a := 3) (b := i) (by omega) (by omega)).mp c387
                refine lv_aload_n hx hb dL_act_464 rfl (lv_at hl 1 rfl) ?_
                refine va_get (D := D) (ci := 3) (v := .ref (sa 1)) (C := RX3) (T := TX3) (N := 6) hx hb hts inL_act_RX3 hown hK hP 1 rfl rfl 1 (by decide) (hts _ kL_act_4) (fun _ h9 => h9) rfl dL_act_465 ?_
                refine pc_alenA hx hb hkp hP 3 rfl (v := nI (un u)) rfl dL_act_468 ?_
                refine lv_iconst (v := 1) hx hb dL_act_469 (by decide) ?_
                refine lv_iadd hx hb dL_act_470 ?_
                refine pc_top (show (nI (un u)) + 1 = nI (un u + 1) from nI_add (un u) 1) ?_
                refine pc_newqAF hx hb hown (hts _ kL_act_5) hkp hP hD hS hA (N' := un u + 1) (nI_neg (show un u + 1 < 2147483648 by omega)) (nI_clamp (show un u + 1 < 2147483648 by omega)) (show (un u + 1) * 4 ≤ 536870912 by omega) (show 1 + 1 ≤ 8 by omega) (show 4 + un u + 1 ≤ 48 by omega) dL_act_471 (fun r471 H hP hD hS => ?_)
                have hP : va_P D vwCl (([(r471, .inl ((cy 4), un u + 1, .inr (.inr (.inr (.inr (fun _ => none)))))), (r371, .inl ((cy 0), 4, .inl M))] : va_W) ++ (wS5 cy b sa st ch (un u) (uw u) (ud u) (nI (zh (uh u))) (zl (uh u)) ++ (rows12 cy st 6 (rowS (uh u)) ++ (wX cy a q q2 ca ta u g ++ chT cy ch u)))) H := hP
                have hD : va_D A (([(r471, .inl ((cy 4), un u + 1, .inr (.inr (.inr (.inr (fun _ => none)))))), (r371, .inl ((cy 0), 4, .inl M))] : va_W) ++ (wS5 cy b sa st ch (un u) (uw u) (ud u) (nI (zh (uh u))) (zl (uh u)) ++ (rows12 cy st 6 (rowS (uh u)) ++ (wX cy a q q2 ca ta u g ++ chT cy ch u)))) := hD
                refine W.widen (k := 2) (n := 10) (by omega) (by omega) ?_
                refine lv_astore (lv' := [(10, .ref r471), (0, .ref (a 0)), (1, .ref b), (2, .int xv), (3, .int (nI k3)), (8, .int 3), (9, .ref r371)]) hx hb dL_act_474 hl (by decide) rfl (fun ls hl => ?_)
                have e9 : ((fun _ => none)) = cpF ch 0 := (cpF_0 _)
                rw [e9] at hP hD
                clear e9
                have hP : va_P D vwCl (([(r471, .inl ((cy 4), un u + 1, .inr (.inr (.inr (.inr (cpF ch 0)))))), (r371, .inl ((cy 0), 4, .inl M))] : va_W) ++ (wS5 cy b sa st ch (un u) (uw u) (ud u) (nI (zh (uh u))) (zl (uh u)) ++ (rows12 cy st 6 (rowS (uh u)) ++ (wX cy a q q2 ca ta u g ++ chT cy ch u)))) H := hP
                have hD : va_D A (([(r471, .inl ((cy 4), un u + 1, .inr (.inr (.inr (.inr (cpF ch 0)))))), (r371, .inl ((cy 0), 4, .inl M))] : va_W) ++ (wS5 cy b sa st ch (un u) (uw u) (ud u) (nI (zh (uh u))) (zl (uh u)) ++ (rows12 cy st 6 (rowS (uh u)) ++ (wX cy a q q2 ca ta u g ++ chT cy ch u)))) := hD
                refine lv_iconst (v := 0) hx hb dL_act_476 (by decide) ?_
                refine lv_istore (lv' := [(11, .int 0), (10, .ref r471), (0, .ref (a 0)), (1, .ref b), (2, .int xv), (3, .int (nI k3)), (8, .int 3), (9, .ref r371)]) hx hb dL_act_477 hl (by decide) rfl (fun ls hl => ?_)
                have loop479 : ∀ (n9 : Nat) (jj : Nat), jj ≤ un u → un u - jj < n9 → ∀ (H : Heap) (locs : List Loc), va_P D vwCl (([(r471, .inl ((cy 4), un u + 1, .inr (.inr (.inr (.inr (cpF ch jj)))))), (r371, .inl ((cy 0), 4, .inl M))] : va_W) ++ (wS5 cy b sa st ch (un u) (uw u) (ud u) (nI (zh (uh u))) (zl (uh u)) ++ (rows12 cy st 6 (rowS (uh u)) ++ (wX cy a q q2 ca ta u g ++ chT cy ch u)))) H → va_D A (([(r471, .inl ((cy 4), un u + 1, .inr (.inr (.inr (.inr (cpF ch jj)))))), (r371, .inl ((cy 0), 4, .inl M))] : va_W) ++ (wS5 cy b sa st ch (un u) (uw u) (ud u) (nI (zh (uh u))) (zl (uh u)) ++ (rows12 cy st 6 (rowS (uh u)) ++ (wX cy a q q2 ca ta u g ++ chT cy ch u)))) → va_S A s.heap H locs → ∀ ls : Array Slot, lv_has ls 12 [(0, .ref (a 0)), (1, .ref b), (2, .int xv), (3, .int (nI k3)), (8, .int 3), (9, .ref r371), (10, .ref r471), (11, .int (nI jj))] → W p l e (headSpec wsL_act ({ frames := 12, cells := 8, slots := 48, locals := 300 } : Room)).room s m ([.ref (a 0), .ref b, .int xv] : List Value).toArray below meth c H locs 2 10 (MQ below (va_Qi (fun (r8 : Int32) (z9 : US × (Nat → Nat) × (Nat → Nat) × (Nat → Nat)) => r8 = 1 ∧ INV z9.1 ∧ zh (uh z9.1) = zh (uh u)) (fun (z9 : US × (Nat → Nat) × (Nat → Nat) × (Nat → Nat)) t => va_P D vwCl (wSu cy b z9.2.1 z9.2.2.1 z9.2.2.2 z9.1 ++ (wSr cy z9.2.2.1 z9.1 ++ (wX cy a q q2 ca ta z9.1 g ++ chT cy z9.2.2.2 z9.1))) t.heap ∧ va_D A (wSu cy b z9.2.1 z9.2.2.1 z9.2.2.2 z9.1 ++ (wSr cy z9.2.2.1 z9.1 ++ (wX cy a q q2 ca ta z9.1 g ++ chT cy z9.2.2.2 z9.1)))) A) ([.ref (a 0), .ref b, .int xv] : List Value).toArray s 8 48 A) (F0 m 479 ls []) := by
                  intro n9
                  induction n9 with
                  | zero => intro jj hjj h9 H locs hP hD hS ls hl; exact absurd h9 (by omega)
                  | succ n9 ih479 =>
                    intro jj hjj h9 H locs hP hD hS ls hl
                    refine lv_iload hx hb dL_act_479 (lv_at hl 7 rfl) ?_
                    refine lv_aload_n hx hb dL_act_481 rfl (lv_at hl 1 rfl) ?_
                    refine va_get (D := D) (ci := 3) (v := .ref (sa 1)) (C := RX3) (T := TX3) (N := 6) hx hb hts inL_act_RX3 hown hK hP 2 rfl rfl 1 (by decide) (hts _ kL_act_4) (fun _ h9 => h9) rfl dL_act_482 ?_
                    refine pc_alenA hx hb hkp hP 4 rfl (v := nI (un u)) rfl dL_act_485 ?_
                    refine lv_icmp_ge (tgt := 507) hx hb dL_act_486 (by decide) (fun c486 => ?_) (fun c486 => ?_)
                    · have n486 : un u ≤ jj := (nI_leI (a := un u) (b := jj) (by omega) (by omega)).mp c486
                      have e9 : (cpF ch jj) = cpF ch (un u) := (by rw [show jj = un u by omega])
                      rw [e9] at hP hD
                      clear e9
                      have hP : va_P D vwCl (([(r471, .inl ((cy 4), un u + 1, .inr (.inr (.inr (.inr (cpF ch (un u))))))), (r371, .inl ((cy 0), 4, .inl M))] : va_W) ++ (wS5 cy b sa st ch (un u) (uw u) (ud u) (nI (zh (uh u))) (zl (uh u)) ++ (rows12 cy st 6 (rowS (uh u)) ++ (wX cy a q q2 ca ta u g ++ chT cy ch u)))) H := hP
                      have hD : va_D A (([(r471, .inl ((cy 4), un u + 1, .inr (.inr (.inr (.inr (cpF ch (un u))))))), (r371, .inl ((cy 0), 4, .inl M))] : va_W) ++ (wS5 cy b sa st ch (un u) (uw u) (ud u) (nI (zh (uh u))) (zl (uh u)) ++ (rows12 cy st 6 (rowS (uh u)) ++ (wX cy a q q2 ca ta u g ++ chT cy ch u)))) := hD
                      refine lv_aload hx hb dL_act_507 (lv_at hl 6 rfl) ?_
                      refine lv_aload_n hx hb dL_act_509 rfl (lv_at hl 1 rfl) ?_
                      refine va_get (D := D) (ci := 3) (v := .ref (sa 1)) (C := RX3) (T := TX3) (N := 6) hx hb hts inL_act_RX3 hown hK hP 2 rfl rfl 1 (by decide) (hts _ kL_act_4) (fun _ h9 => h9) rfl dL_act_510 ?_
                      refine pc_alenA hx hb hkp hP 4 rfl (v := nI (un u)) rfl dL_act_513 ?_
                      refine lv_aload hx hb dL_act_514 (lv_at hl 5 rfl) ?_
                      refine pc_astA hx hb hK hkp hP hD hS 0 1 rfl rfl (k := un u) (show un u < un u + 1 by omega) (by omega) dL_act_516 (fun H locs hP hD hS => ?_)
                      have hP : va_P D vwCl (([(r471, .inl ((cy 4), un u + 1, .inr (.inr (.inr (.inr (va_up (cpF ch (un u)) (un u) (some r371))))))), (r371, .inl ((cy 0), 4, .inl M))] : va_W) ++ (wS5 cy b sa st ch (un u) (uw u) (ud u) (nI (zh (uh u))) (zl (uh u)) ++ (rows12 cy st 6 (rowS (uh u)) ++ (wX cy a q q2 ca ta u g ++ chT cy ch u)))) H := hP
                      have hD : va_D A (([(r471, .inl ((cy 4), un u + 1, .inr (.inr (.inr (.inr (va_up (cpF ch (un u)) (un u) (some r371))))))), (r371, .inl ((cy 0), 4, .inl M))] : va_W) ++ (wS5 cy b sa st ch (un u) (uw u) (ud u) (nI (zh (uh u))) (zl (uh u)) ++ (rows12 cy st 6 (rowS (uh u)) ++ (wX cy a q q2 ca ta u g ++ chT cy ch u)))) := hD
                      obtain ⟨t1, ta1, tb1, te1⟩ := hM 1 (by omega) (by omega)
                      obtain ⟨t2, ta2, tb2, te2⟩ := hM 2 (by omega) (by omega)
                      obtain ⟨t3, ta3, tb3, te3⟩ := hM 3 (by omega) (by omega)
                      have hP := va_P_rowq (g := fun i => some (sup ch (un u) r371 i)) hP 0 rfl (cpF_end ch (un u) r371)
                      have hP := va_P_row (g := rowC (uCh u k3 3 (nI t1) (nI t2) (nI t3) 0) (un u)) hP 1 rfl (made_row3 hM0 te1 te2 te3)
                      have hP : va_P D vwCl (([(r471, .inl ((cy 4), un u + 1, .inr (.inr (.inr (.inr (fun i => some (sup ch (un u) r371 i))))))), (r371, .inl ((cy 0), 4, .inl (rowC (uCh u k3 3 (nI t1) (nI t2) (nI t3) 0) (un u))))] : va_W) ++ (wS5 cy b sa st ch (un u) (uw u) (ud u) (nI (zh (uh u))) (zl (uh u)) ++ (rows12 cy st 6 (rowS (uh u)) ++ (wX cy a q q2 ca ta u g ++ chT cy ch u)))) H := hP
                      have hD : va_D A (([(r471, .inl ((cy 4), un u + 1, .inr (.inr (.inr (.inr (fun i => some (sup ch (un u) r371 i))))))), (r371, .inl ((cy 0), 4, .inl (rowC (uCh u k3 3 (nI t1) (nI t2) (nI t3) 0) (un u))))] : va_W) ++ (wS5 cy b sa st ch (un u) (uw u) (ud u) (nI (zh (uh u))) (zl (uh u)) ++ (rows12 cy st 6 (rowS (uh u)) ++ (wX cy a q q2 ca ta u g ++ chT cy ch u)))) := va_D_addr hD rfl
                      refine lv_aload_n hx hb dL_act_517 rfl (lv_at hl 1 rfl) ?_
                      refine lv_aload hx hb dL_act_518 (lv_at hl 6 rfl) ?_
                      refine va_put (D := D) (ci := 3) (v := .ref r471) (ty := .array (.array .int)) (C := RX3) (T := TX3) (N := 6) hx hb hts inL_act_RX3 tyX3 tyX3_ok nmX3 hown hK hP hD hS 2 rfl rfl 1 (by decide) (hts _ kL_act_4) (fun _ h9 => h9) rfl (by decide +kernel) rfl rfl (Nat.le_of_ble_eq_true rfl) dL_act_520 (fun H locs hP hD hS => ?_)
                      have hP := pM_forP (x := (r471, .inl ((cy 4), un u + 1, .inr (.inr (.inr (.inr (fun i => some (sup ch (un u) r371 i)))))))) (y := (sa 1, .inl (cy 4, un u, qf (fun i => some (ch i))))) (P := [(r371, .inl ((cy 0), 4, .inl (rowC (uCh u k3 3 (nI t1) (nI t2) (nI t3) 0) (un u)))), (b, .inr (3, [.ref (sa 0), .ref r471, .ref (sa 2), .ref (sa 3), .int (nI (zh (uh u))), .int (zl (uh u))])), (sa 0, .inl (cy 4, 12, qf (fun i => some (st i))))]) (Q := [(sa 2, .inl (cy 0, 12, .inl (uw u))), (sa 3, .inl (cy 0, 12, .inl (ud u)))] ++ (rows12 cy st 6 (rowS (uh u)) ++ (wX cy a q q2 ca ta u g ++ chT cy ch u))) hP
                      have hD := pM_forD (x := (r471, .inl ((cy 4), un u + 1, .inr (.inr (.inr (.inr (fun i => some (sup ch (un u) r371 i)))))))) (y := (sa 1, .inl (cy 4, un u, qf (fun i => some (ch i))))) (P := [(r371, .inl ((cy 0), 4, .inl (rowC (uCh u k3 3 (nI t1) (nI t2) (nI t3) 0) (un u)))), (b, .inr (3, [.ref (sa 0), .ref r471, .ref (sa 2), .ref (sa 3), .int (nI (zh (uh u))), .int (zl (uh u))])), (sa 0, .inl (cy 4, 12, qf (fun i => some (st i))))]) (Q := [(sa 2, .inl (cy 0, 12, .inl (uw u))), (sa 3, .inl (cy 0, 12, .inl (ud u)))] ++ (rows12 cy st 6 (rowS (uh u)) ++ (wX cy a q q2 ca ta u g ++ chT cy ch u))) hD
                      have hP : va_P D vwCl (([(r371, .inl ((cy 0), 4, .inl (rowC (uCh u k3 3 (nI t1) (nI t2) (nI t3) 0) (un u))))] : va_W) ++ (wS5 cy b (sup sa 1 r471) st (sup ch (un u) r371) (un u + 1) (uw u) (ud u) (nI (zh (uh u))) (zl (uh u)) ++ (rows12 cy st 6 (rowS (uh u)) ++ (wX cy a q q2 ca ta u g ++ chT cy ch u)))) H := hP
                      have hD : va_D A (([(r371, .inl ((cy 0), 4, .inl (rowC (uCh u k3 3 (nI t1) (nI t2) (nI t3) 0) (un u))))] : va_W) ++ (wS5 cy b (sup sa 1 r471) st (sup ch (un u) r371) (un u + 1) (uw u) (ud u) (nI (zh (uh u))) (zl (uh u)) ++ (rows12 cy st 6 (rowS (uh u)) ++ (wX cy a q q2 ca ta u g ++ chT cy ch u)))) := hD
                      refine lv_aload_n hx hb dL_act_523 rfl (lv_at hl 0 rfl) ?_
                      refine lv_iload_n hx hb dL_act_524 rfl (lv_at hl 3 rfl) ?_
                      refine lv_aload hx hb dL_act_525 (lv_at hl 5 rfl) ?_
                      refine lv_iconst (v := 1) hx hb dL_act_527 (by decide) ?_
                      refine pc_iald hx hb hK hP 0 0 rfl rfl (k := 1) (show 1 < 4 by omega) (by decide) dL_act_528 ?_
                      refine pc_top (show (rowC (uCh u k3 3 (nI t1) (nI t2) (nI t3) 0) (un u)) 1 = nI t1 from rowC_1) ?_
                      refine lv_aload hx hb dL_act_529 (lv_at hl 5 rfl) ?_
                      refine lv_iconst (v := 2) hx hb dL_act_531 (by decide) ?_
                      refine pc_iald hx hb hK hP 0 0 rfl rfl (k := 2) (show 2 < 4 by omega) (by decide) dL_act_532 ?_
                      refine pc_top (show (rowC (uCh u k3 3 (nI t1) (nI t2) (nI t3) 0) (un u)) 2 = nI t2 from rowC_2) ?_
                      refine lv_iload hx hb dL_act_533 (lv_at hl 4 rfl) ?_
                      refine lv_iconst (v := 2) hx hb dL_act_535 (by decide) ?_
                      refine lv_icmp_le (tgt := 546) hx hb dL_act_536 (by decide) (fun c536 => absurd c536 (by decide)) (fun c536 => ?_)
                      have n536 : ¬ (3 ≤ 2) := fun h9 => c536 ((nI_leI (a := 3) (b := 2) (by omega) (by omega)).mpr h9)
                      refine lv_aload hx hb dL_act_539 (lv_at hl 5 rfl) ?_
                      refine lv_iconst (v := 3) hx hb dL_act_541 (by decide) ?_
                      refine pc_iald hx hb hK hP 0 0 rfl rfl (k := 3) (show 3 < 4 by omega) (by decide) dL_act_542 ?_
                      refine pc_top (show (rowC (uCh u k3 3 (nI t1) (nI t2) (nI t3) 0) (un u)) 3 = nI t3 from rowC_3) ?_
                      refine lv_goto (tgt := 547) hx hb dL_act_543 (by decide) ?_
                      refine lv_iload hx hb dL_act_547 (lv_at hl 4 rfl) ?_
                      refine lv_iconst (v := 3) hx hb dL_act_549 (by decide) ?_
                      refine lv_icmp_le (tgt := 560) hx hb dL_act_550 (by decide) (fun c550 => ?_) (fun c550 => absurd c550 (not_not_intro (by decide)))
                      have n550 : 3 ≤ 3 := (nI_leI (a := 3) (b := 3) (by omega) (by omega)).mp c550
                      refine lv_iconst (v := 0) hx hb dL_act_560 (by decide) ?_
                      refine cls_w (Lc := ([(r371, .inl ((cy 0), 4, .inl (rowC (uCh u k3 3 (nI t1) (nI t2) (nI t3) 0) (un u))))] : va_W)) (S5 := wS5 cy b (sup sa 1 r471) st (sup ch (un u) r371) (un u + 1) (uw u) (ud u) (nI (zh (uh u))) (zl (uh u))) (S12 := rows12 cy st 6 (rowS (uh u))) (T := chT cy ch u) (As := [.int (nI k3), .int (nI t1), .int (nI t2), .int (nI t3), .int 0]) (rest := []) (uf := fun (_ : Unit) => uCh u (ix (nI k3)) (chSz (nI t3) 0) (nI t1) (nI t2) (nI t3) 0) (gf := fun (_ : Unit) => g) hP hD hS hA hK hXA ⟨hx, hb, hml, hown, hts⟩ (mX2_chord l hst D cy H.size a q q2 ca ta u g I.1 (nI k3) (nI t1) (nI t2) (nI t3) 0) (fun E h => h.2 (exCh_0 (t0 := t1) (t1 := t2) (t2 := t3) (t3 := 0) hk3 ta1 tb1 ta2 tb2 tb3 (by decide) (by omega) (by rw [show chSz (nI t3) (nI 0) = 3 from chSz_3 ta3 tb3]; omega) (by omega))) (cwV 5 hts gL_act_X2_chord rfl rfl rfl (by decide +kernel) ⟨Nat.le_of_ble_eq_true rfl, Nat.le_of_ble_eq_true rfl⟩) rfl rfl hl.1 (Nat.le_of_ble_eq_true rfl) dL_act_561 ⟨Nat.le_of_ble_eq_true rfl, Nat.le_of_ble_eq_true rfl⟩ (fun _ H locs hP hD hS => ?_)
                      have hP : va_P D vwCl (([(r371, .inl ((cy 0), 4, .inl (rowC (uCh u k3 3 (nI t1) (nI t2) (nI t3) 0) (un u))))] : va_W) ++ (wS5 cy b (sup sa 1 r471) st (sup ch (un u) r371) (un u + 1) (uw u) (ud u) (nI (zh (uh u))) (zl (uh u)) ++ (rows12 cy st 6 (rowS (uh u)) ++ (wX cy a q q2 ca ta (uCh u (ix (nI k3)) (chSz (nI t3) 0) (nI t1) (nI t2) (nI t3) 0) g ++ chT cy ch u)))) H := hP
                      have hD : va_D A (([(r371, .inl ((cy 0), 4, .inl (rowC (uCh u k3 3 (nI t1) (nI t2) (nI t3) 0) (un u))))] : va_W) ++ (wS5 cy b (sup sa 1 r471) st (sup ch (un u) r371) (un u + 1) (uw u) (ud u) (nI (zh (uh u))) (zl (uh u)) ++ (rows12 cy st 6 (rowS (uh u)) ++ (wX cy a q q2 ca ta (uCh u (ix (nI k3)) (chSz (nI t3) 0) (nI t1) (nI t2) (nI t3) 0) g ++ chT cy ch u)))) := hD
                      refine W.widen (k := 8) (n := 46) (Nat.le_of_ble_eq_true rfl) (Nat.le_of_ble_eq_true rfl) ?_
                      rw [ixk, chSz_3 ta3 tb3] at hP hD
                      have hP : va_P D vwCl (([(r371, .inl ((cy 0), 4, .inl (rowC (uCh u k3 3 (nI t1) (nI t2) (nI t3) 0) (un u))))] : va_W) ++ (wS5 cy b (sup sa 1 r471) st (sup ch (un u) r371) (un u + 1) (uw u) (ud u) (nI (zh (uh u))) (zl (uh u)) ++ (rows12 cy st 6 (rowS (uh u)) ++ (wX cy a q q2 ca ta (uCh u k3 3 (nI t1) (nI t2) (nI t3) 0) g ++ chT cy ch u)))) H := hP
                      have hD : va_D A (([(r371, .inl ((cy 0), 4, .inl (rowC (uCh u k3 3 (nI t1) (nI t2) (nI t3) 0) (un u))))] : va_W) ++ (wS5 cy b (sup sa 1 r471) st (sup ch (un u) r371) (un u + 1) (uw u) (ud u) (nI (zh (uh u))) (zl (uh u)) ++ (rows12 cy st 6 (rowS (uh u)) ++ (wX cy a q q2 ca ta (uCh u k3 3 (nI t1) (nI t2) (nI t3) 0) g ++ chT cy ch u)))) := hD
                      refine lv_aload hx hb dL_act_564 (lv_at hl 6 rfl) ?_
                      refine pc_alenA hx hb hkp hP 3 rfl (v := nI (un u + 1)) rfl dL_act_566 ?_
                      refine lv_iconst (v := 1) hx hb dL_act_567 (by decide) ?_
                      refine lv_isub hx hb dL_act_568 ?_
                      refine pc_top (show (nI (un u + 1)) - 1 = nI ((un u + 1) - 1) from pk_sub (a := un u + 1) (b := 1) (by omega)) ?_
                      refine pc_top (show nI ((un u + 1) - 1) = nI (un u) from (by rw [Nat.add_sub_cancel])) ?_
                      refine lv_icmp_ne (tgt := 576) hx hb dL_act_569 (by decide) (fun c569 => absurd c569 (not_not_intro rfl)) (fun c569 => ?_)
                      have n569 : un u = un u := (nI_eq (a := un u) (b := un u) (by omega) (by omega)).mp c569
                      refine lv_iconst (v := 1) hx hb dL_act_572 (by decide) ?_
                      refine lv_goto (tgt := 577) hx hb dL_act_573 (by decide) ?_
                      refine W.widen (k := 8) (n := 48) (by omega) (by omega) ?_
                      have hP9 : va_P D vwCl (wSu cy b ((uCh u k3 3 (nI t1) (nI t2) (nI t3) 0, sup sa 1 r471, st, sup ch (un u) r371) : US × (Nat → Nat) × (Nat → Nat) × (Nat → Nat)).2.1 ((uCh u k3 3 (nI t1) (nI t2) (nI t3) 0, sup sa 1 r471, st, sup ch (un u) r371) : US × (Nat → Nat) × (Nat → Nat) × (Nat → Nat)).2.2.1 ((uCh u k3 3 (nI t1) (nI t2) (nI t3) 0, sup sa 1 r471, st, sup ch (un u) r371) : US × (Nat → Nat) × (Nat → Nat) × (Nat → Nat)).2.2.2 ((uCh u k3 3 (nI t1) (nI t2) (nI t3) 0, sup sa 1 r471, st, sup ch (un u) r371) : US × (Nat → Nat) × (Nat → Nat) × (Nat → Nat)).1 ++ (wSr cy ((uCh u k3 3 (nI t1) (nI t2) (nI t3) 0, sup sa 1 r471, st, sup ch (un u) r371) : US × (Nat → Nat) × (Nat → Nat) × (Nat → Nat)).2.2.1 ((uCh u k3 3 (nI t1) (nI t2) (nI t3) 0, sup sa 1 r471, st, sup ch (un u) r371) : US × (Nat → Nat) × (Nat → Nat) × (Nat → Nat)).1 ++ (wX cy a q q2 ca ta ((uCh u k3 3 (nI t1) (nI t2) (nI t3) 0, sup sa 1 r471, st, sup ch (un u) r371) : US × (Nat → Nat) × (Nat → Nat) × (Nat → Nat)).1 g ++ chT cy ((uCh u k3 3 (nI t1) (nI t2) (nI t3) 0, sup sa 1 r471, st, sup ch (un u) r371) : US × (Nat → Nat) × (Nat → Nat) × (Nat → Nat)).2.2.2 ((uCh u k3 3 (nI t1) (nI t2) (nI t3) 0, sup sa 1 r471, st, sup ch (un u) r371) : US × (Nat → Nat) × (Nat → Nat) × (Nat → Nat)).1))) H := (by show va_P D vwCl (wSu cy b (sup sa 1 r471) st (sup ch (un u) r371) (uCh u k3 3 (nI t1) (nI t2) (nI t3) 0) ++ (wSr cy st (uCh u k3 3 (nI t1) (nI t2) (nI t3) 0) ++ (wX cy a q q2 ca ta (uCh u k3 3 (nI t1) (nI t2) (nI t3) 0) g ++ chT cy (sup ch (un u) r371) (uCh u k3 3 (nI t1) (nI t2) (nI t3) 0)))) H; rw [← chT_new]; exact act_endP hP)
                      have hD9 : va_D A (wSu cy b ((uCh u k3 3 (nI t1) (nI t2) (nI t3) 0, sup sa 1 r471, st, sup ch (un u) r371) : US × (Nat → Nat) × (Nat → Nat) × (Nat → Nat)).2.1 ((uCh u k3 3 (nI t1) (nI t2) (nI t3) 0, sup sa 1 r471, st, sup ch (un u) r371) : US × (Nat → Nat) × (Nat → Nat) × (Nat → Nat)).2.2.1 ((uCh u k3 3 (nI t1) (nI t2) (nI t3) 0, sup sa 1 r471, st, sup ch (un u) r371) : US × (Nat → Nat) × (Nat → Nat) × (Nat → Nat)).2.2.2 ((uCh u k3 3 (nI t1) (nI t2) (nI t3) 0, sup sa 1 r471, st, sup ch (un u) r371) : US × (Nat → Nat) × (Nat → Nat) × (Nat → Nat)).1 ++ (wSr cy ((uCh u k3 3 (nI t1) (nI t2) (nI t3) 0, sup sa 1 r471, st, sup ch (un u) r371) : US × (Nat → Nat) × (Nat → Nat) × (Nat → Nat)).2.2.1 ((uCh u k3 3 (nI t1) (nI t2) (nI t3) 0, sup sa 1 r471, st, sup ch (un u) r371) : US × (Nat → Nat) × (Nat → Nat) × (Nat → Nat)).1 ++ (wX cy a q q2 ca ta ((uCh u k3 3 (nI t1) (nI t2) (nI t3) 0, sup sa 1 r471, st, sup ch (un u) r371) : US × (Nat → Nat) × (Nat → Nat) × (Nat → Nat)).1 g ++ chT cy ((uCh u k3 3 (nI t1) (nI t2) (nI t3) 0, sup sa 1 r471, st, sup ch (un u) r371) : US × (Nat → Nat) × (Nat → Nat) × (Nat → Nat)).2.2.2 ((uCh u k3 3 (nI t1) (nI t2) (nI t3) 0, sup sa 1 r471, st, sup ch (un u) r371) : US × (Nat → Nat) × (Nat → Nat) × (Nat → Nat)).1))) := (by show va_D A (wSu cy b (sup sa 1 r471) st (sup ch (un u) r371) (uCh u k3 3 (nI t1) (nI t2) (nI t3) 0) ++ (wSr cy st (uCh u k3 3 (nI t1) (nI t2) (nI t3) 0) ++ (wX cy a q q2 ca ta (uCh u k3 3 (nI t1) (nI t2) (nI t3) 0) g ++ chT cy (sup ch (un u) r371) (uCh u k3 3 (nI t1) (nI t2) (nI t3) 0)))); rw [← chT_new]; exact act_endD hD)
                      exact W.zret (v := 1) hx hb hr (by decide) (fun t ht hW => ⟨⟨1, ((uCh u k3 3 (nI t1) (nI t2) (nI t3) 0, sup sa 1 r471, st, sup ch (un u) r371) : US × (Nat → Nat) × (Nat → Nat) × (Nat → Nat)), rfl, ⟨rfl, INV_ch3 I (by omega) (by omega) ta1 tb1 ta2 tb2 ta3 tb3, rfl⟩, by rw [ht]; exact hP9, hD9⟩, hS.F ht⟩) hS.2.2 dL_act_577
                    · have n486 : ¬ (un u ≤ jj) := fun h9 => c486 ((nI_leI (a := un u) (b := jj) (by omega) (by omega)).mpr h9)
                      refine lv_aload hx hb dL_act_489 (lv_at hl 6 rfl) ?_
                      refine lv_iload hx hb dL_act_491 (lv_at hl 7 rfl) ?_
                      refine lv_aload_n hx hb dL_act_493 rfl (lv_at hl 1 rfl) ?_
                      refine va_get (D := D) (ci := 3) (v := .ref (sa 1)) (C := RX3) (T := TX3) (N := 6) hx hb hts inL_act_RX3 hown hK hP 2 rfl rfl 1 (by decide) (hts _ kL_act_4) (fun _ h9 => h9) rfl dL_act_494 ?_
                      refine lv_iload hx hb dL_act_497 (lv_at hl 7 rfl) ?_
                      refine pc_aldA hx hb hkp hP 4 rfl (k := jj) (show jj < un u by omega) (by omega) (v := ch jj) rfl dL_act_499 ?_
                      obtain ⟨qk, hqk⟩ := List.getElem?_of_mem (show ((ch jj, .inl (cy 0, uz u jj + 1, .inl (rowC u jj))) : Nat × va_E) ∈ (([(r471, .inl ((cy 4), un u + 1, .inr (.inr (.inr (.inr (cpF ch jj)))))), (r371, .inl ((cy 0), 4, .inl M))] : va_W) ++ (wS5 cy b sa st ch (un u) (uw u) (ud u) (nI (zh (uh u))) (zl (uh u)) ++ (rows12 cy st 6 (rowS (uh u)) ++ (wX cy a q q2 ca ta u g ++ chT cy ch u))) : va_W) from List.mem_append_right _ (List.mem_append_right _ (List.mem_append_right _ (List.mem_append_right _ (chT_mem (by omega))))))
                      refine pc_astA hx hb hK hkp hP hD hS 0 qk rfl hqk (k := jj) (show jj < un u + 1 by omega) (by omega) dL_act_500 (fun H locs hP hD hS => ?_)
                      have hP : va_P D vwCl (([(r471, .inl ((cy 4), un u + 1, .inr (.inr (.inr (.inr (va_up (cpF ch jj) jj (some (ch jj)))))))), (r371, .inl ((cy 0), 4, .inl M))] : va_W) ++ (wS5 cy b sa st ch (un u) (uw u) (ud u) (nI (zh (uh u))) (zl (uh u)) ++ (rows12 cy st 6 (rowS (uh u)) ++ (wX cy a q q2 ca ta u g ++ chT cy ch u)))) H := hP
                      have hD : va_D A (([(r471, .inl ((cy 4), un u + 1, .inr (.inr (.inr (.inr (va_up (cpF ch jj) jj (some (ch jj)))))))), (r371, .inl ((cy 0), 4, .inl M))] : va_W) ++ (wS5 cy b sa st ch (un u) (uw u) (ud u) (nI (zh (uh u))) (zl (uh u)) ++ (rows12 cy st 6 (rowS (uh u)) ++ (wX cy a q q2 ca ta u g ++ chT cy ch u)))) := hD
                      have e9 : (va_up (cpF ch jj) jj (some (ch jj))) = cpF ch (jj + 1) := (cpF_s _ _)
                      rw [e9] at hP hD
                      clear e9
                      have hP : va_P D vwCl (([(r471, .inl ((cy 4), un u + 1, .inr (.inr (.inr (.inr (cpF ch (jj + 1))))))), (r371, .inl ((cy 0), 4, .inl M))] : va_W) ++ (wS5 cy b sa st ch (un u) (uw u) (ud u) (nI (zh (uh u))) (zl (uh u)) ++ (rows12 cy st 6 (rowS (uh u)) ++ (wX cy a q q2 ca ta u g ++ chT cy ch u)))) H := hP
                      have hD : va_D A (([(r471, .inl ((cy 4), un u + 1, .inr (.inr (.inr (.inr (cpF ch (jj + 1))))))), (r371, .inl ((cy 0), 4, .inl M))] : va_W) ++ (wS5 cy b sa st ch (un u) (uw u) (ud u) (nI (zh (uh u))) (zl (uh u)) ++ (rows12 cy st 6 (rowS (uh u)) ++ (wX cy a q q2 ca ta u g ++ chT cy ch u)))) := hD
                      refine lv_iinc (v := nI (jj + 1)) (lv' := [(11, .int (nI (jj + 1))), (0, .ref (a 0)), (1, .ref b), (2, .int xv), (3, .int (nI k3)), (8, .int 3), (9, .ref r371), (10, .ref r471)]) hx hb dL_act_501 hl (k := 7) rfl ((show (nI jj) + Int32.ofInt 1 = (nI jj) + 1 from rfl).trans (show (nI jj) + 1 = nI (jj + 1) from nI_add jj 1)) (by decide) rfl (fun ls hl => ?_)
                      refine lv_goto (tgt := 479) hx hb dL_act_504 (by decide) ?_
                      exact ih479 (jj + 1) (by omega) (by omega) _ _ hP hD hS ls (lv_sub hl [1, 2, 3, 4, 5, 6, 7, 0] rfl)
                exact loop479 (un u + 1) 0 (Nat.zero_le _) (by omega) _ _ hP hD hS ls (lv_sub hl [2, 3, 4, 5, 6, 7, 1, 0] rfl)
              · have n387 : ¬ (3 < i) := fun h9 => c387 ((nI_ltI (a := 3) (b := i) (by omega) (by omega)).mpr h9)
                refine lv_aload hx hb dL_act_390 (lv_at hl 5 rfl) ?_
                refine lv_iload hx hb dL_act_392 (lv_at hl 6 rfl) ?_
                refine lv_iconst (v := 1) hx hb dL_act_394 (by decide) ?_
                refine lv_aload_n hx hb dL_act_395 rfl (lv_at hl 1 rfl) ?_
                refine lv_iload_n hx hb dL_act_396 rfl (lv_at hl 3 rfl) ?_
                refine lv_iload hx hb dL_act_397 (lv_at hl 6 rfl) ?_
                refine lv_iadd hx hb dL_act_399 ?_
                refine pc_top (show (nI k3) + (nI i) = nI (k3 + i) from nI_add k3 i) ?_
                refine lv_iconst (v := 1) hx hb dL_act_400 (by decide) ?_
                refine lv_isub hx hb dL_act_401 ?_
                refine pc_top (show (nI (k3 + i)) - 1 = nI ((k3 + i) - 1) from pk_sub (a := k3 + i) (b := 1) (by omega)) ?_
                refine sim_p (Lc := ([(r371, .inl ((cy 0), 4, .inl M))] : va_W)) (S5 := wS5 cy b sa st ch (un u) (uw u) (ud u) (nI (zh (uh u))) (zl (uh u))) (S12 := rows12 cy st 6 (rowS (uh u))) (X := wX cy a q q2 ca ta u g ++ chT cy ch u) (Y := []) (As := [.int (nI ((k3 + i) - 1))]) (rest := [.int 1, .int (nI i), .ref r371]) hP hK hkp ⟨hx, hb, hml, hown, hts⟩ (mX3_tone l D cy b sa st ch u (k3 + i - 1) (by omega)) (no_mem) rfl (cwV 1 hts gL_act_X3_tone rfl rfl rfl (by decide +kernel) ⟨Nat.le_of_ble_eq_true rfl, Nat.le_of_ble_eq_true rfl⟩) rfl rfl hl.1 (Nat.le_of_ble_eq_true rfl) dL_act_402 ⟨Nat.le_of_ble_eq_true rfl, Nat.le_of_ble_eq_true rfl⟩ ?_
                obtain ⟨tt, htt, ett⟩ := tone_b I (show k3 + i - 1 < 12 by omega)
                refine pc_top (show tone (uh u) (k3 + i - 1) = nI tt from ett) ?_
                refine lv_iload_n hx hb dL_act_405 rfl (lv_at hl 2 rfl) ?_
                refine lv_iload hx hb dL_act_406 (lv_at hl 6 rfl) ?_
                refine lv_ishr hx hb dL_act_408 ?_
                refine lv_iconst (v := 5) hx hb dL_act_409 (by decide) ?_
                refine lv_iload hx hb dL_act_410 (lv_at hl 6 rfl) ?_
                refine lv_imul hx hb dL_act_412 ?_
                refine pc_top (show 5 * (nI i) = nI (5 * i) from pk_mul 5 i) ?_
                refine lv_iadd hx hb dL_act_413 ?_
                refine lv_iload_n hx hb dL_act_414 rfl (lv_at hl 2 rfl) ?_
                refine lv_bipush (v := 6) hx hb dL_act_415 (by decide) ?_
                refine lv_ishr hx hb dL_act_417 ?_
                refine lv_iconst (v := 2) hx hb dL_act_418 (by decide) ?_
                refine pc_calli (va_runS (As := [.int (xv >>> (6 &&& 31)), .int 2]) (rest := [.int ((xv >>> ((nI i) &&& 31)) + (nI (5 * i))), .int (nI tt), .int 1, .int (nI i), .ref r371]) ⟨hx, hb, hml, hown, hts⟩ (mL_below l D cy (xv >>> (6 &&& 31)) 2 (by decide) (by decide)) (va_cwS 2 hts gL_act_L_below rfl rfl rfl (by decide +kernel) ⟨Nat.le_of_ble_eq_true rfl, Nat.le_of_ble_eq_true rfl⟩) ⟨fun a U g mk q => q, fun U hU hW => ⟨rfl, trivial⟩⟩ rfl rfl hl.1 rfl (lv_room (Nat.le_of_ble_eq_true rfl)) dL_act_419 ⟨Nat.le_of_ble_eq_true rfl, Nat.le_of_ble_eq_true rfl⟩) (fun r9 hr9 => ?_)
                obtain ⟨k419, hk419, rfl⟩ := hr9
                refine lv_if_ne (tgt := 430) hx hb dL_act_422 (by decide) (fun c422 => ?_) (fun c422 => ?_)
                · have n422 : ¬ (k419 = 0) := fun h9 => c422 ((nI_eq (a := k419) (b := 0) (by omega) (by omega)).mpr h9)
                  refine lv_bipush (v := 61) hx hb dL_act_430 (by decide) ?_
                  refine pc_calli (va_runS (As := [.int ((xv >>> ((nI i) &&& 31)) + (nI (5 * i))), .int 61]) (rest := [.int (nI tt), .int 1, .int (nI i), .ref r371]) ⟨hx, hb, hml, hown, hts⟩ (mL_below l D cy ((xv >>> ((nI i) &&& 31)) + (nI (5 * i))) 61 (by decide) (by decide)) (va_cwS 2 hts gL_act_L_below rfl rfl rfl (by decide +kernel) ⟨Nat.le_of_ble_eq_true rfl, Nat.le_of_ble_eq_true rfl⟩) ⟨fun a U g mk q => q, fun U hU hW => ⟨rfl, trivial⟩⟩ rfl rfl hl.1 rfl (lv_room (Nat.le_of_ble_eq_true rfl)) dL_act_432 ⟨Nat.le_of_ble_eq_true rfl, Nat.le_of_ble_eq_true rfl⟩) (fun r9 hr9 => ?_)
                  obtain ⟨k432, hk432, rfl⟩ := hr9
                  refine lv_iadd hx hb dL_act_435 ?_
                  refine lv_iload_n hx hb dL_act_436 rfl (lv_at hl 2 rfl) ?_
                  refine lv_bipush (v := 6) hx hb dL_act_437 (by decide) ?_
                  refine lv_ishr hx hb dL_act_439 ?_
                  refine lv_iconst (v := 2) hx hb dL_act_440 (by decide) ?_
                  refine pc_calli (va_runS (As := [.int (xv >>> (6 &&& 31)), .int 2]) (rest := [.int ((nI tt) + (nI k432)), .int 1, .int (nI i), .ref r371]) ⟨hx, hb, hml, hown, hts⟩ (mL_below l D cy (xv >>> (6 &&& 31)) 2 (by decide) (by decide)) (va_cwS 2 hts gL_act_L_below rfl rfl rfl (by decide +kernel) ⟨Nat.le_of_ble_eq_true rfl, Nat.le_of_ble_eq_true rfl⟩) ⟨fun a U g mk q => q, fun U hU hW => ⟨rfl, trivial⟩⟩ rfl rfl hl.1 rfl (lv_room (Nat.le_of_ble_eq_true rfl)) dL_act_441 ⟨Nat.le_of_ble_eq_true rfl, Nat.le_of_ble_eq_true rfl⟩) (fun r9 hr9 => ?_)
                  obtain ⟨k441, hk441, rfl⟩ := hr9
                  refine lv_if_ne (tgt := 451) hx hb dL_act_444 (by decide) (fun c444 => ?_) (fun c444 => ?_)
                  · have n444 : ¬ (k441 = 0) := fun h9 => c444 ((nI_eq (a := k441) (b := 0) (by omega) (by omega)).mpr h9)
                    refine lv_bipush (v := 30) hx hb dL_act_451 (by decide) ?_
                    refine lv_isub hx hb dL_act_453 ?_
                    refine va_mmax hx hb (by rw [hml]; exact hl.1.symm) hown (hts _ kL_act_6) (hts _ kL_act_7) (hts _ kL_act_8) (hts _ kL_act_9) (Nat.le_of_ble_eq_true rfl) (Nat.le_of_ble_eq_true rfl) (Nat.le_of_ble_eq_true rfl) (Nat.le_of_ble_eq_true rfl) dL_act_454 ?_
                    refine pc_top (show (if 1 < (((nI tt) + (nI k432)) - 30) then (((nI tt) + (nI k432)) - 30) else 1) = mx 1 (((nI tt) + (nI k432)) - 30) from rfl) ?_
                    obtain ⟨v9, hv1, hv2, ev9⟩ := made_b (t := tt) (r := k432) (c := 30) htt (by omega) (by decide)
                    refine pc_top (show mx 1 (((nI tt) + (nI k432)) - 30) = nI v9 from ev9) ?_
                    refine pc_iast hx hb hK hP hD hS 0 0 rfl rfl (k := i) (show i < 4 by omega) (by decide) dL_act_457 (fun H locs hP hD hS => ?_)
                    have hP : va_P D vwCl (([(r371, .inl ((cy 0), 4, .inl (upd M i (nI v9))))] : va_W) ++ (wS5 cy b sa st ch (un u) (uw u) (ud u) (nI (zh (uh u))) (zl (uh u)) ++ (rows12 cy st 6 (rowS (uh u)) ++ (wX cy a q q2 ca ta u g ++ chT cy ch u)))) H := hP
                    have hD : va_D A (([(r371, .inl ((cy 0), 4, .inl (upd M i (nI v9))))] : va_W) ++ (wS5 cy b sa st ch (un u) (uw u) (ud u) (nI (zh (uh u))) (zl (uh u)) ++ (rows12 cy st 6 (rowS (uh u)) ++ (wX cy a q q2 ca ta u g ++ chT cy ch u)))) := hD
                    refine lv_iinc (v := nI (i + 1)) (lv' := [(10, .int (nI (i + 1))), (0, .ref (a 0)), (1, .ref b), (2, .int xv), (3, .int (nI k3)), (8, .int 3), (9, .ref r371)]) hx hb dL_act_458 hl (k := 6) rfl ((show (nI i) + Int32.ofInt 1 = (nI i) + 1 from rfl).trans (show (nI i) + 1 = nI (i + 1) from nI_add i 1)) (by decide) rfl (fun ls hl => ?_)
                    refine lv_goto (tgt := 383) hx hb dL_act_461 (by decide) ?_
                    exact ih383 (i + 1) (upd M i (nI v9)) (⟨by omega, by omega⟩) ((pk_un (by omega)).trans hM0) (made_s hM hv1 hv2) (by omega) _ _ hP hD hS ls (lv_sub hl [1, 2, 3, 4, 5, 6, 0] rfl)
                  · have n444 : k441 = 0 := (nI_eq (a := k441) (b := 0) (by omega) (by omega)).mp c444
                    refine lv_iconst (v := 4) hx hb dL_act_447 (by decide) ?_
                    refine lv_goto (tgt := 453) hx hb dL_act_448 (by decide) ?_
                    refine lv_isub hx hb dL_act_453 ?_
                    refine va_mmax hx hb (by rw [hml]; exact hl.1.symm) hown (hts _ kL_act_6) (hts _ kL_act_7) (hts _ kL_act_8) (hts _ kL_act_9) (Nat.le_of_ble_eq_true rfl) (Nat.le_of_ble_eq_true rfl) (Nat.le_of_ble_eq_true rfl) (Nat.le_of_ble_eq_true rfl) dL_act_454 ?_
                    refine pc_top (show (if 1 < (((nI tt) + (nI k432)) - 4) then (((nI tt) + (nI k432)) - 4) else 1) = mx 1 (((nI tt) + (nI k432)) - 4) from rfl) ?_
                    obtain ⟨v9, hv1, hv2, ev9⟩ := made_b (t := tt) (r := k432) (c := 4) htt (by omega) (by decide)
                    refine pc_top (show mx 1 (((nI tt) + (nI k432)) - 4) = nI v9 from ev9) ?_
                    refine pc_iast hx hb hK hP hD hS 0 0 rfl rfl (k := i) (show i < 4 by omega) (by decide) dL_act_457 (fun H locs hP hD hS => ?_)
                    have hP : va_P D vwCl (([(r371, .inl ((cy 0), 4, .inl (upd M i (nI v9))))] : va_W) ++ (wS5 cy b sa st ch (un u) (uw u) (ud u) (nI (zh (uh u))) (zl (uh u)) ++ (rows12 cy st 6 (rowS (uh u)) ++ (wX cy a q q2 ca ta u g ++ chT cy ch u)))) H := hP
                    have hD : va_D A (([(r371, .inl ((cy 0), 4, .inl (upd M i (nI v9))))] : va_W) ++ (wS5 cy b sa st ch (un u) (uw u) (ud u) (nI (zh (uh u))) (zl (uh u)) ++ (rows12 cy st 6 (rowS (uh u)) ++ (wX cy a q q2 ca ta u g ++ chT cy ch u)))) := hD
                    refine lv_iinc (v := nI (i + 1)) (lv' := [(10, .int (nI (i + 1))), (0, .ref (a 0)), (1, .ref b), (2, .int xv), (3, .int (nI k3)), (8, .int 3), (9, .ref r371)]) hx hb dL_act_458 hl (k := 6) rfl ((show (nI i) + Int32.ofInt 1 = (nI i) + 1 from rfl).trans (show (nI i) + 1 = nI (i + 1) from nI_add i 1)) (by decide) rfl (fun ls hl => ?_)
                    refine lv_goto (tgt := 383) hx hb dL_act_461 (by decide) ?_
                    exact ih383 (i + 1) (upd M i (nI v9)) (⟨by omega, by omega⟩) ((pk_un (by omega)).trans hM0) (made_s hM hv1 hv2) (by omega) _ _ hP hD hS ls (lv_sub hl [1, 2, 3, 4, 5, 6, 0] rfl)
                · have n422 : k419 = 0 := (nI_eq (a := k419) (b := 0) (by omega) (by omega)).mp c422
                  refine lv_bipush (v := 9) hx hb dL_act_425 (by decide) ?_
                  refine lv_goto (tgt := 432) hx hb dL_act_427 (by decide) ?_
                  refine pc_calli (va_runS (As := [.int ((xv >>> ((nI i) &&& 31)) + (nI (5 * i))), .int 9]) (rest := [.int (nI tt), .int 1, .int (nI i), .ref r371]) ⟨hx, hb, hml, hown, hts⟩ (mL_below l D cy ((xv >>> ((nI i) &&& 31)) + (nI (5 * i))) 9 (by decide) (by decide)) (va_cwS 2 hts gL_act_L_below rfl rfl rfl (by decide +kernel) ⟨Nat.le_of_ble_eq_true rfl, Nat.le_of_ble_eq_true rfl⟩) ⟨fun a U g mk q => q, fun U hU hW => ⟨rfl, trivial⟩⟩ rfl rfl hl.1 rfl (lv_room (Nat.le_of_ble_eq_true rfl)) dL_act_432 ⟨Nat.le_of_ble_eq_true rfl, Nat.le_of_ble_eq_true rfl⟩) (fun r9 hr9 => ?_)
                  obtain ⟨k432, hk432, rfl⟩ := hr9
                  refine lv_iadd hx hb dL_act_435 ?_
                  refine lv_iload_n hx hb dL_act_436 rfl (lv_at hl 2 rfl) ?_
                  refine lv_bipush (v := 6) hx hb dL_act_437 (by decide) ?_
                  refine lv_ishr hx hb dL_act_439 ?_
                  refine lv_iconst (v := 2) hx hb dL_act_440 (by decide) ?_
                  refine pc_calli (va_runS (As := [.int (xv >>> (6 &&& 31)), .int 2]) (rest := [.int ((nI tt) + (nI k432)), .int 1, .int (nI i), .ref r371]) ⟨hx, hb, hml, hown, hts⟩ (mL_below l D cy (xv >>> (6 &&& 31)) 2 (by decide) (by decide)) (va_cwS 2 hts gL_act_L_below rfl rfl rfl (by decide +kernel) ⟨Nat.le_of_ble_eq_true rfl, Nat.le_of_ble_eq_true rfl⟩) ⟨fun a U g mk q => q, fun U hU hW => ⟨rfl, trivial⟩⟩ rfl rfl hl.1 rfl (lv_room (Nat.le_of_ble_eq_true rfl)) dL_act_441 ⟨Nat.le_of_ble_eq_true rfl, Nat.le_of_ble_eq_true rfl⟩) (fun r9 hr9 => ?_)
                  obtain ⟨k441, hk441, rfl⟩ := hr9
                  refine lv_if_ne (tgt := 451) hx hb dL_act_444 (by decide) (fun c444 => ?_) (fun c444 => ?_)
                  · have n444 : ¬ (k441 = 0) := fun h9 => c444 ((nI_eq (a := k441) (b := 0) (by omega) (by omega)).mpr h9)
                    refine lv_bipush (v := 30) hx hb dL_act_451 (by decide) ?_
                    refine lv_isub hx hb dL_act_453 ?_
                    refine va_mmax hx hb (by rw [hml]; exact hl.1.symm) hown (hts _ kL_act_6) (hts _ kL_act_7) (hts _ kL_act_8) (hts _ kL_act_9) (Nat.le_of_ble_eq_true rfl) (Nat.le_of_ble_eq_true rfl) (Nat.le_of_ble_eq_true rfl) (Nat.le_of_ble_eq_true rfl) dL_act_454 ?_
                    refine pc_top (show (if 1 < (((nI tt) + (nI k432)) - 30) then (((nI tt) + (nI k432)) - 30) else 1) = mx 1 (((nI tt) + (nI k432)) - 30) from rfl) ?_
                    obtain ⟨v9, hv1, hv2, ev9⟩ := made_b (t := tt) (r := k432) (c := 30) htt (by omega) (by decide)
                    refine pc_top (show mx 1 (((nI tt) + (nI k432)) - 30) = nI v9 from ev9) ?_
                    refine pc_iast hx hb hK hP hD hS 0 0 rfl rfl (k := i) (show i < 4 by omega) (by decide) dL_act_457 (fun H locs hP hD hS => ?_)
                    have hP : va_P D vwCl (([(r371, .inl ((cy 0), 4, .inl (upd M i (nI v9))))] : va_W) ++ (wS5 cy b sa st ch (un u) (uw u) (ud u) (nI (zh (uh u))) (zl (uh u)) ++ (rows12 cy st 6 (rowS (uh u)) ++ (wX cy a q q2 ca ta u g ++ chT cy ch u)))) H := hP
                    have hD : va_D A (([(r371, .inl ((cy 0), 4, .inl (upd M i (nI v9))))] : va_W) ++ (wS5 cy b sa st ch (un u) (uw u) (ud u) (nI (zh (uh u))) (zl (uh u)) ++ (rows12 cy st 6 (rowS (uh u)) ++ (wX cy a q q2 ca ta u g ++ chT cy ch u)))) := hD
                    refine lv_iinc (v := nI (i + 1)) (lv' := [(10, .int (nI (i + 1))), (0, .ref (a 0)), (1, .ref b), (2, .int xv), (3, .int (nI k3)), (8, .int 3), (9, .ref r371)]) hx hb dL_act_458 hl (k := 6) rfl ((show (nI i) + Int32.ofInt 1 = (nI i) + 1 from rfl).trans (show (nI i) + 1 = nI (i + 1) from nI_add i 1)) (by decide) rfl (fun ls hl => ?_)
                    refine lv_goto (tgt := 383) hx hb dL_act_461 (by decide) ?_
                    exact ih383 (i + 1) (upd M i (nI v9)) (⟨by omega, by omega⟩) ((pk_un (by omega)).trans hM0) (made_s hM hv1 hv2) (by omega) _ _ hP hD hS ls (lv_sub hl [1, 2, 3, 4, 5, 6, 0] rfl)
                  · have n444 : k441 = 0 := (nI_eq (a := k441) (b := 0) (by omega) (by omega)).mp c444
                    refine lv_iconst (v := 4) hx hb dL_act_447 (by decide) ?_
                    refine lv_goto (tgt := 453) hx hb dL_act_448 (by decide) ?_
                    refine lv_isub hx hb dL_act_453 ?_
                    refine va_mmax hx hb (by rw [hml]; exact hl.1.symm) hown (hts _ kL_act_6) (hts _ kL_act_7) (hts _ kL_act_8) (hts _ kL_act_9) (Nat.le_of_ble_eq_true rfl) (Nat.le_of_ble_eq_true rfl) (Nat.le_of_ble_eq_true rfl) (Nat.le_of_ble_eq_true rfl) dL_act_454 ?_
                    refine pc_top (show (if 1 < (((nI tt) + (nI k432)) - 4) then (((nI tt) + (nI k432)) - 4) else 1) = mx 1 (((nI tt) + (nI k432)) - 4) from rfl) ?_
                    obtain ⟨v9, hv1, hv2, ev9⟩ := made_b (t := tt) (r := k432) (c := 4) htt (by omega) (by decide)
                    refine pc_top (show mx 1 (((nI tt) + (nI k432)) - 4) = nI v9 from ev9) ?_
                    refine pc_iast hx hb hK hP hD hS 0 0 rfl rfl (k := i) (show i < 4 by omega) (by decide) dL_act_457 (fun H locs hP hD hS => ?_)
                    have hP : va_P D vwCl (([(r371, .inl ((cy 0), 4, .inl (upd M i (nI v9))))] : va_W) ++ (wS5 cy b sa st ch (un u) (uw u) (ud u) (nI (zh (uh u))) (zl (uh u)) ++ (rows12 cy st 6 (rowS (uh u)) ++ (wX cy a q q2 ca ta u g ++ chT cy ch u)))) H := hP
                    have hD : va_D A (([(r371, .inl ((cy 0), 4, .inl (upd M i (nI v9))))] : va_W) ++ (wS5 cy b sa st ch (un u) (uw u) (ud u) (nI (zh (uh u))) (zl (uh u)) ++ (rows12 cy st 6 (rowS (uh u)) ++ (wX cy a q q2 ca ta u g ++ chT cy ch u)))) := hD
                    refine lv_iinc (v := nI (i + 1)) (lv' := [(10, .int (nI (i + 1))), (0, .ref (a 0)), (1, .ref b), (2, .int xv), (3, .int (nI k3)), (8, .int 3), (9, .ref r371)]) hx hb dL_act_458 hl (k := 6) rfl ((show (nI i) + Int32.ofInt 1 = (nI i) + 1 from rfl).trans (show (nI i) + 1 = nI (i + 1) from nI_add i 1)) (by decide) rfl (fun ls hl => ?_)
                    refine lv_goto (tgt := 383) hx hb dL_act_461 (by decide) ?_
                    exact ih383 (i + 1) (upd M i (nI v9)) (⟨by omega, by omega⟩) ((pk_un (by omega)).trans hM0) (made_s hM hv1 hv2) (by omega) _ _ hP hD hS ls (lv_sub hl [1, 2, 3, 4, 5, 6, 0] rfl)
          exact loop383 (4 + 1) 1 (upd (fun _ => 0) 0 (nI k3)) (⟨Nat.le_refl _, by decide⟩) pk_us (fun j h1 h2 => absurd h2 (by omega)) (by omega) _ _ hP hD hS ls (lv_sub hl [5, 6, 7, 4, 2, 1, 0] rfl)
        · have n362 : ¬ (k3 + 3 ≤ 12) := fun h9 => c362 ((nI_leI (a := k3 + 3) (b := 12) (by omega) (by omega)).mpr h9)
          refine lv_iconst (v := 1) hx hb dL_act_365 (by decide) ?_
          have hP9 : va_P D vwCl (wSu cy b ((u, sa, st, ch) : US × (Nat → Nat) × (Nat → Nat) × (Nat → Nat)).2.1 ((u, sa, st, ch) : US × (Nat → Nat) × (Nat → Nat) × (Nat → Nat)).2.2.1 ((u, sa, st, ch) : US × (Nat → Nat) × (Nat → Nat) × (Nat → Nat)).2.2.2 ((u, sa, st, ch) : US × (Nat → Nat) × (Nat → Nat) × (Nat → Nat)).1 ++ (wSr cy ((u, sa, st, ch) : US × (Nat → Nat) × (Nat → Nat) × (Nat → Nat)).2.2.1 ((u, sa, st, ch) : US × (Nat → Nat) × (Nat → Nat) × (Nat → Nat)).1 ++ (wX cy a q q2 ca ta ((u, sa, st, ch) : US × (Nat → Nat) × (Nat → Nat) × (Nat → Nat)).1 g ++ chT cy ((u, sa, st, ch) : US × (Nat → Nat) × (Nat → Nat) × (Nat → Nat)).2.2.2 ((u, sa, st, ch) : US × (Nat → Nat) × (Nat → Nat) × (Nat → Nat)).1))) s.heap := (pM_dropP hP)
          have hD9 : va_D A (wSu cy b ((u, sa, st, ch) : US × (Nat → Nat) × (Nat → Nat) × (Nat → Nat)).2.1 ((u, sa, st, ch) : US × (Nat → Nat) × (Nat → Nat) × (Nat → Nat)).2.2.1 ((u, sa, st, ch) : US × (Nat → Nat) × (Nat → Nat) × (Nat → Nat)).2.2.2 ((u, sa, st, ch) : US × (Nat → Nat) × (Nat → Nat) × (Nat → Nat)).1 ++ (wSr cy ((u, sa, st, ch) : US × (Nat → Nat) × (Nat → Nat) × (Nat → Nat)).2.2.1 ((u, sa, st, ch) : US × (Nat → Nat) × (Nat → Nat) × (Nat → Nat)).1 ++ (wX cy a q q2 ca ta ((u, sa, st, ch) : US × (Nat → Nat) × (Nat → Nat) × (Nat → Nat)).1 g ++ chT cy ((u, sa, st, ch) : US × (Nat → Nat) × (Nat → Nat) × (Nat → Nat)).2.2.2 ((u, sa, st, ch) : US × (Nat → Nat) × (Nat → Nat) × (Nat → Nat)).1))) := (pM_dropD hD)
          refine W.widen (k := 8) (n := 48) (Nat.le_of_ble_eq_true rfl) (Nat.le_of_ble_eq_true rfl) ?_
          exact W.zret (v := 1) hx hb hr (by decide) (fun t ht hW => ⟨⟨1, ((u, sa, st, ch) : US × (Nat → Nat) × (Nat → Nat) × (Nat → Nat)), rfl, ⟨rfl, I, rfl⟩, by rw [ht]; exact hP9, hD9⟩, hS.F ht⟩) hS.2.2 dL_act_366
      · skip
        refine lv_iadd hx hb dL_act_353 ?_
        refine pc_top (show 2 + (nI 2) = 4 from (by decide)) ?_
        refine lv_istore (lv' := [(8, .int 4), (4, .ref (st k3)), (3, .int (nI k3)), (0, .ref (a 0)), (1, .ref b), (2, .int xv)]) hx hb dL_act_354 hl (by decide) rfl (fun ls hl => ?_)
        refine lv_iload_n hx hb dL_act_356 rfl (lv_at hl 2 rfl) ?_
        refine lv_iload hx hb dL_act_357 (lv_at hl 0 rfl) ?_
        refine lv_iadd hx hb dL_act_359 ?_
        refine pc_top (show (nI k3) + 4 = nI (k3 + 4) from nI_add k3 4) ?_
        refine lv_bipush (v := 12) hx hb dL_act_360 (by decide) ?_
        refine lv_icmp_le (tgt := 367) hx hb dL_act_362 (by decide) (fun c362 => ?_) (fun c362 => ?_)
        · have n362 : k3 + 4 ≤ 12 := (nI_leI (a := k3 + 4) (b := 12) (by omega) (by omega)).mp c362
          refine lv_iconst (v := 1) hx hb dL_act_367 (by decide) ?_
          refine lv_iload hx hb dL_act_368 (lv_at hl 0 rfl) ?_
          refine lv_iadd hx hb dL_act_370 ?_
          refine pc_top (show 1 + 4 = 5 from (by decide)) ?_
          refine pc_newaF (atype := .int) (ty := .int) (N' := 5) (a0 := (5, .inl (fun _ => 0))) hx hb (hts _ kL_act_1) rfl hK hP hD hS hA 0 rfl (fun _ => rfl) (by decide) (by decide) (by decide) (Nat.le_of_ble_eq_true rfl) (Nat.le_of_ble_eq_true rfl) dL_act_371 (fun r371 H hP hD hS => ?_)
          have hP : va_P D vwCl (([(r371, .inl ((cy 0), 5, .inl (fun _ => 0)))] : va_W) ++ (wS5 cy b sa st ch (un u) (uw u) (ud u) (nI (zh (uh u))) (zl (uh u)) ++ (rows12 cy st 6 (rowS (uh u)) ++ (wX cy a q q2 ca ta u g ++ chT cy ch u)))) H := hP
          have hD : va_D A (([(r371, .inl ((cy 0), 5, .inl (fun _ => 0)))] : va_W) ++ (wS5 cy b sa st ch (un u) (uw u) (ud u) (nI (zh (uh u))) (zl (uh u)) ++ (rows12 cy st 6 (rowS (uh u)) ++ (wX cy a q q2 ca ta u g ++ chT cy ch u)))) := hD
          refine W.widen (k := 1) (n := 5) (Nat.le_of_ble_eq_true rfl) (Nat.le_of_ble_eq_true rfl) ?_
          refine lv_astore (lv' := [(9, .ref r371), (8, .int 4), (4, .ref (st k3)), (3, .int (nI k3)), (0, .ref (a 0)), (1, .ref b), (2, .int xv)]) hx hb dL_act_373 hl (by decide) rfl (fun ls hl => ?_)
          refine lv_aload hx hb dL_act_375 (lv_at hl 0 rfl) ?_
          refine lv_iconst (v := 0) hx hb dL_act_377 (by decide) ?_
          refine lv_iload_n hx hb dL_act_378 rfl (lv_at hl 3 rfl) ?_
          refine pc_iast hx hb hK hP hD hS 0 0 rfl rfl (k := 0) (show 0 < 5 by omega) (by decide) dL_act_379 (fun H locs hP hD hS => ?_)
          have hP : va_P D vwCl (([(r371, .inl ((cy 0), 5, .inl (upd (fun _ => 0) 0 (nI k3))))] : va_W) ++ (wS5 cy b sa st ch (un u) (uw u) (ud u) (nI (zh (uh u))) (zl (uh u)) ++ (rows12 cy st 6 (rowS (uh u)) ++ (wX cy a q q2 ca ta u g ++ chT cy ch u)))) H := hP
          have hD : va_D A (([(r371, .inl ((cy 0), 5, .inl (upd (fun _ => 0) 0 (nI k3))))] : va_W) ++ (wS5 cy b sa st ch (un u) (uw u) (ud u) (nI (zh (uh u))) (zl (uh u)) ++ (rows12 cy st 6 (rowS (uh u)) ++ (wX cy a q q2 ca ta u g ++ chT cy ch u)))) := hD
          refine lv_iconst (v := 1) hx hb dL_act_380 (by decide) ?_
          refine lv_istore (lv' := [(10, .int 1), (9, .ref r371), (8, .int 4), (4, .ref (st k3)), (3, .int (nI k3)), (0, .ref (a 0)), (1, .ref b), (2, .int xv)]) hx hb dL_act_381 hl (by decide) rfl (fun ls hl => ?_)
          have loop383 : ∀ (n9 : Nat) (i : Nat) (M : Nat → Int32), (1 ≤ i ∧ i ≤ 5) → M 0 = nI k3 → (∀ j, 1 ≤ j → j < i → ∃ t, 1 ≤ t ∧ t ≤ 1500 ∧ M j = nI t) → 5 - i < n9 → ∀ (H : Heap) (locs : List Loc), va_P D vwCl (([(r371, .inl ((cy 0), 5, .inl M))] : va_W) ++ (wS5 cy b sa st ch (un u) (uw u) (ud u) (nI (zh (uh u))) (zl (uh u)) ++ (rows12 cy st 6 (rowS (uh u)) ++ (wX cy a q q2 ca ta u g ++ chT cy ch u)))) H → va_D A (([(r371, .inl ((cy 0), 5, .inl M))] : va_W) ++ (wS5 cy b sa st ch (un u) (uw u) (ud u) (nI (zh (uh u))) (zl (uh u)) ++ (rows12 cy st 6 (rowS (uh u)) ++ (wX cy a q q2 ca ta u g ++ chT cy ch u)))) → va_S A s.heap H locs → ∀ ls : Array Slot, lv_has ls 12 [(0, .ref (a 0)), (1, .ref b), (2, .int xv), (3, .int (nI k3)), (8, .int 4), (9, .ref r371), (10, .int (nI i))] → W p l e (headSpec wsL_act ({ frames := 12, cells := 8, slots := 48, locals := 300 } : Room)).room s m ([.ref (a 0), .ref b, .int xv] : List Value).toArray below meth c H locs 1 5 (MQ below (va_Qi (fun (r8 : Int32) (z9 : US × (Nat → Nat) × (Nat → Nat) × (Nat → Nat)) => r8 = 1 ∧ INV z9.1 ∧ zh (uh z9.1) = zh (uh u)) (fun (z9 : US × (Nat → Nat) × (Nat → Nat) × (Nat → Nat)) t => va_P D vwCl (wSu cy b z9.2.1 z9.2.2.1 z9.2.2.2 z9.1 ++ (wSr cy z9.2.2.1 z9.1 ++ (wX cy a q q2 ca ta z9.1 g ++ chT cy z9.2.2.2 z9.1))) t.heap ∧ va_D A (wSu cy b z9.2.1 z9.2.2.1 z9.2.2.2 z9.1 ++ (wSr cy z9.2.2.1 z9.1 ++ (wX cy a q q2 ca ta z9.1 g ++ chT cy z9.2.2.2 z9.1)))) A) ([.ref (a 0), .ref b, .int xv] : List Value).toArray s 8 48 A) (F0 m 383 ls []) := by
            intro n9
            induction n9 with
            | zero => intro i M hi hM0 hM h9 H locs hP hD hS ls hl; exact absurd h9 (by omega)
            | succ n9 ih383 =>
              intro i M hi hM0 hM h9 H locs hP hD hS ls hl
              refine lv_iload hx hb dL_act_383 (lv_at hl 6 rfl) ?_
              refine lv_iload hx hb dL_act_385 (lv_at hl 4 rfl) ?_
              refine lv_icmp_gt (tgt := 464) hx hb dL_act_387 (by decide) (fun c387 => ?_) (fun c387 => ?_)
              · have n387 : 4 < i := (nI_ltI (a := 4) (b := i) (by omega) (by omega)).mp c387
                refine lv_aload_n hx hb dL_act_464 rfl (lv_at hl 1 rfl) ?_
                refine va_get (D := D) (ci := 3) (v := .ref (sa 1)) (C := RX3) (T := TX3) (N := 6) hx hb hts inL_act_RX3 hown hK hP 1 rfl rfl 1 (by decide) (hts _ kL_act_4) (fun _ h9 => h9) rfl dL_act_465 ?_
                refine pc_alenA hx hb hkp hP 3 rfl (v := nI (un u)) rfl dL_act_468 ?_
                refine lv_iconst (v := 1) hx hb dL_act_469 (by decide) ?_
                refine lv_iadd hx hb dL_act_470 ?_
                refine pc_top (show (nI (un u)) + 1 = nI (un u + 1) from nI_add (un u) 1) ?_
                refine pc_newqAF hx hb hown (hts _ kL_act_5) hkp hP hD hS hA (N' := un u + 1) (nI_neg (show un u + 1 < 2147483648 by omega)) (nI_clamp (show un u + 1 < 2147483648 by omega)) (show (un u + 1) * 4 ≤ 536870912 by omega) (show 1 + 1 ≤ 8 by omega) (show 5 + un u + 1 ≤ 48 by omega) dL_act_471 (fun r471 H hP hD hS => ?_)
                have hP : va_P D vwCl (([(r471, .inl ((cy 4), un u + 1, .inr (.inr (.inr (.inr (fun _ => none)))))), (r371, .inl ((cy 0), 5, .inl M))] : va_W) ++ (wS5 cy b sa st ch (un u) (uw u) (ud u) (nI (zh (uh u))) (zl (uh u)) ++ (rows12 cy st 6 (rowS (uh u)) ++ (wX cy a q q2 ca ta u g ++ chT cy ch u)))) H := hP
                have hD : va_D A (([(r471, .inl ((cy 4), un u + 1, .inr (.inr (.inr (.inr (fun _ => none)))))), (r371, .inl ((cy 0), 5, .inl M))] : va_W) ++ (wS5 cy b sa st ch (un u) (uw u) (ud u) (nI (zh (uh u))) (zl (uh u)) ++ (rows12 cy st 6 (rowS (uh u)) ++ (wX cy a q q2 ca ta u g ++ chT cy ch u)))) := hD
                refine W.widen (k := 2) (n := 11) (by omega) (by omega) ?_
                refine lv_astore (lv' := [(10, .ref r471), (0, .ref (a 0)), (1, .ref b), (2, .int xv), (3, .int (nI k3)), (8, .int 4), (9, .ref r371)]) hx hb dL_act_474 hl (by decide) rfl (fun ls hl => ?_)
                have e9 : ((fun _ => none)) = cpF ch 0 := (cpF_0 _)
                rw [e9] at hP hD
                clear e9
                have hP : va_P D vwCl (([(r471, .inl ((cy 4), un u + 1, .inr (.inr (.inr (.inr (cpF ch 0)))))), (r371, .inl ((cy 0), 5, .inl M))] : va_W) ++ (wS5 cy b sa st ch (un u) (uw u) (ud u) (nI (zh (uh u))) (zl (uh u)) ++ (rows12 cy st 6 (rowS (uh u)) ++ (wX cy a q q2 ca ta u g ++ chT cy ch u)))) H := hP
                have hD : va_D A (([(r471, .inl ((cy 4), un u + 1, .inr (.inr (.inr (.inr (cpF ch 0)))))), (r371, .inl ((cy 0), 5, .inl M))] : va_W) ++ (wS5 cy b sa st ch (un u) (uw u) (ud u) (nI (zh (uh u))) (zl (uh u)) ++ (rows12 cy st 6 (rowS (uh u)) ++ (wX cy a q q2 ca ta u g ++ chT cy ch u)))) := hD
                refine lv_iconst (v := 0) hx hb dL_act_476 (by decide) ?_
                refine lv_istore (lv' := [(11, .int 0), (10, .ref r471), (0, .ref (a 0)), (1, .ref b), (2, .int xv), (3, .int (nI k3)), (8, .int 4), (9, .ref r371)]) hx hb dL_act_477 hl (by decide) rfl (fun ls hl => ?_)
                have loop479 : ∀ (n9 : Nat) (jj : Nat), jj ≤ un u → un u - jj < n9 → ∀ (H : Heap) (locs : List Loc), va_P D vwCl (([(r471, .inl ((cy 4), un u + 1, .inr (.inr (.inr (.inr (cpF ch jj)))))), (r371, .inl ((cy 0), 5, .inl M))] : va_W) ++ (wS5 cy b sa st ch (un u) (uw u) (ud u) (nI (zh (uh u))) (zl (uh u)) ++ (rows12 cy st 6 (rowS (uh u)) ++ (wX cy a q q2 ca ta u g ++ chT cy ch u)))) H → va_D A (([(r471, .inl ((cy 4), un u + 1, .inr (.inr (.inr (.inr (cpF ch jj)))))), (r371, .inl ((cy 0), 5, .inl M))] : va_W) ++ (wS5 cy b sa st ch (un u) (uw u) (ud u) (nI (zh (uh u))) (zl (uh u)) ++ (rows12 cy st 6 (rowS (uh u)) ++ (wX cy a q q2 ca ta u g ++ chT cy ch u)))) → va_S A s.heap H locs → ∀ ls : Array Slot, lv_has ls 12 [(0, .ref (a 0)), (1, .ref b), (2, .int xv), (3, .int (nI k3)), (8, .int 4), (9, .ref r371), (10, .ref r471), (11, .int (nI jj))] → W p l e (headSpec wsL_act ({ frames := 12, cells := 8, slots := 48, locals := 300 } : Room)).room s m ([.ref (a 0), .ref b, .int xv] : List Value).toArray below meth c H locs 2 11 (MQ below (va_Qi (fun (r8 : Int32) (z9 : US × (Nat → Nat) × (Nat → Nat) × (Nat → Nat)) => r8 = 1 ∧ INV z9.1 ∧ zh (uh z9.1) = zh (uh u)) (fun (z9 : US × (Nat → Nat) × (Nat → Nat) × (Nat → Nat)) t => va_P D vwCl (wSu cy b z9.2.1 z9.2.2.1 z9.2.2.2 z9.1 ++ (wSr cy z9.2.2.1 z9.1 ++ (wX cy a q q2 ca ta z9.1 g ++ chT cy z9.2.2.2 z9.1))) t.heap ∧ va_D A (wSu cy b z9.2.1 z9.2.2.1 z9.2.2.2 z9.1 ++ (wSr cy z9.2.2.1 z9.1 ++ (wX cy a q q2 ca ta z9.1 g ++ chT cy z9.2.2.2 z9.1)))) A) ([.ref (a 0), .ref b, .int xv] : List Value).toArray s 8 48 A) (F0 m 479 ls []) := by
                  intro n9
                  induction n9 with
                  | zero => intro jj hjj h9 H locs hP hD hS ls hl; exact absurd h9 (by omega)
                  | succ n9 ih479 =>
                    intro jj hjj h9 H locs hP hD hS ls hl
                    refine lv_iload hx hb dL_act_479 (lv_at hl 7 rfl) ?_
                    refine lv_aload_n hx hb dL_act_481 rfl (lv_at hl 1 rfl) ?_
                    refine va_get (D := D) (ci := 3) (v := .ref (sa 1)) (C := RX3) (T := TX3) (N := 6) hx hb hts inL_act_RX3 hown hK hP 2 rfl rfl 1 (by decide) (hts _ kL_act_4) (fun _ h9 => h9) rfl dL_act_482 ?_
                    refine pc_alenA hx hb hkp hP 4 rfl (v := nI (un u)) rfl dL_act_485 ?_
                    refine lv_icmp_ge (tgt := 507) hx hb dL_act_486 (by decide) (fun c486 => ?_) (fun c486 => ?_)
                    · have n486 : un u ≤ jj := (nI_leI (a := un u) (b := jj) (by omega) (by omega)).mp c486
                      have e9 : (cpF ch jj) = cpF ch (un u) := (by rw [show jj = un u by omega])
                      rw [e9] at hP hD
                      clear e9
                      have hP : va_P D vwCl (([(r471, .inl ((cy 4), un u + 1, .inr (.inr (.inr (.inr (cpF ch (un u))))))), (r371, .inl ((cy 0), 5, .inl M))] : va_W) ++ (wS5 cy b sa st ch (un u) (uw u) (ud u) (nI (zh (uh u))) (zl (uh u)) ++ (rows12 cy st 6 (rowS (uh u)) ++ (wX cy a q q2 ca ta u g ++ chT cy ch u)))) H := hP
                      have hD : va_D A (([(r471, .inl ((cy 4), un u + 1, .inr (.inr (.inr (.inr (cpF ch (un u))))))), (r371, .inl ((cy 0), 5, .inl M))] : va_W) ++ (wS5 cy b sa st ch (un u) (uw u) (ud u) (nI (zh (uh u))) (zl (uh u)) ++ (rows12 cy st 6 (rowS (uh u)) ++ (wX cy a q q2 ca ta u g ++ chT cy ch u)))) := hD
                      refine lv_aload hx hb dL_act_507 (lv_at hl 6 rfl) ?_
                      refine lv_aload_n hx hb dL_act_509 rfl (lv_at hl 1 rfl) ?_
                      refine va_get (D := D) (ci := 3) (v := .ref (sa 1)) (C := RX3) (T := TX3) (N := 6) hx hb hts inL_act_RX3 hown hK hP 2 rfl rfl 1 (by decide) (hts _ kL_act_4) (fun _ h9 => h9) rfl dL_act_510 ?_
                      refine pc_alenA hx hb hkp hP 4 rfl (v := nI (un u)) rfl dL_act_513 ?_
                      refine lv_aload hx hb dL_act_514 (lv_at hl 5 rfl) ?_
                      refine pc_astA hx hb hK hkp hP hD hS 0 1 rfl rfl (k := un u) (show un u < un u + 1 by omega) (by omega) dL_act_516 (fun H locs hP hD hS => ?_)
                      have hP : va_P D vwCl (([(r471, .inl ((cy 4), un u + 1, .inr (.inr (.inr (.inr (va_up (cpF ch (un u)) (un u) (some r371))))))), (r371, .inl ((cy 0), 5, .inl M))] : va_W) ++ (wS5 cy b sa st ch (un u) (uw u) (ud u) (nI (zh (uh u))) (zl (uh u)) ++ (rows12 cy st 6 (rowS (uh u)) ++ (wX cy a q q2 ca ta u g ++ chT cy ch u)))) H := hP
                      have hD : va_D A (([(r471, .inl ((cy 4), un u + 1, .inr (.inr (.inr (.inr (va_up (cpF ch (un u)) (un u) (some r371))))))), (r371, .inl ((cy 0), 5, .inl M))] : va_W) ++ (wS5 cy b sa st ch (un u) (uw u) (ud u) (nI (zh (uh u))) (zl (uh u)) ++ (rows12 cy st 6 (rowS (uh u)) ++ (wX cy a q q2 ca ta u g ++ chT cy ch u)))) := hD
                      obtain ⟨t1, ta1, tb1, te1⟩ := hM 1 (by omega) (by omega)
                      obtain ⟨t2, ta2, tb2, te2⟩ := hM 2 (by omega) (by omega)
                      obtain ⟨t3, ta3, tb3, te3⟩ := hM 3 (by omega) (by omega)
                      obtain ⟨t4, ta4, tb4, te4⟩ := hM 4 (by omega) (by omega)
                      have hP := va_P_rowq (g := fun i => some (sup ch (un u) r371 i)) hP 0 rfl (cpF_end ch (un u) r371)
                      have hP := va_P_row (g := rowC (uCh u k3 4 (nI t1) (nI t2) (nI t3) (nI t4)) (un u)) hP 1 rfl (made_row4 hM0 te1 te2 te3 te4)
                      have hP : va_P D vwCl (([(r471, .inl ((cy 4), un u + 1, .inr (.inr (.inr (.inr (fun i => some (sup ch (un u) r371 i))))))), (r371, .inl ((cy 0), 5, .inl (rowC (uCh u k3 4 (nI t1) (nI t2) (nI t3) (nI t4)) (un u))))] : va_W) ++ (wS5 cy b sa st ch (un u) (uw u) (ud u) (nI (zh (uh u))) (zl (uh u)) ++ (rows12 cy st 6 (rowS (uh u)) ++ (wX cy a q q2 ca ta u g ++ chT cy ch u)))) H := hP
                      have hD : va_D A (([(r471, .inl ((cy 4), un u + 1, .inr (.inr (.inr (.inr (fun i => some (sup ch (un u) r371 i))))))), (r371, .inl ((cy 0), 5, .inl (rowC (uCh u k3 4 (nI t1) (nI t2) (nI t3) (nI t4)) (un u))))] : va_W) ++ (wS5 cy b sa st ch (un u) (uw u) (ud u) (nI (zh (uh u))) (zl (uh u)) ++ (rows12 cy st 6 (rowS (uh u)) ++ (wX cy a q q2 ca ta u g ++ chT cy ch u)))) := va_D_addr hD rfl
                      refine lv_aload_n hx hb dL_act_517 rfl (lv_at hl 1 rfl) ?_
                      refine lv_aload hx hb dL_act_518 (lv_at hl 6 rfl) ?_
                      refine va_put (D := D) (ci := 3) (v := .ref r471) (ty := .array (.array .int)) (C := RX3) (T := TX3) (N := 6) hx hb hts inL_act_RX3 tyX3 tyX3_ok nmX3 hown hK hP hD hS 2 rfl rfl 1 (by decide) (hts _ kL_act_4) (fun _ h9 => h9) rfl (by decide +kernel) rfl rfl (Nat.le_of_ble_eq_true rfl) dL_act_520 (fun H locs hP hD hS => ?_)
                      have hP := pM_forP (x := (r471, .inl ((cy 4), un u + 1, .inr (.inr (.inr (.inr (fun i => some (sup ch (un u) r371 i)))))))) (y := (sa 1, .inl (cy 4, un u, qf (fun i => some (ch i))))) (P := [(r371, .inl ((cy 0), 5, .inl (rowC (uCh u k3 4 (nI t1) (nI t2) (nI t3) (nI t4)) (un u)))), (b, .inr (3, [.ref (sa 0), .ref r471, .ref (sa 2), .ref (sa 3), .int (nI (zh (uh u))), .int (zl (uh u))])), (sa 0, .inl (cy 4, 12, qf (fun i => some (st i))))]) (Q := [(sa 2, .inl (cy 0, 12, .inl (uw u))), (sa 3, .inl (cy 0, 12, .inl (ud u)))] ++ (rows12 cy st 6 (rowS (uh u)) ++ (wX cy a q q2 ca ta u g ++ chT cy ch u))) hP
                      have hD := pM_forD (x := (r471, .inl ((cy 4), un u + 1, .inr (.inr (.inr (.inr (fun i => some (sup ch (un u) r371 i)))))))) (y := (sa 1, .inl (cy 4, un u, qf (fun i => some (ch i))))) (P := [(r371, .inl ((cy 0), 5, .inl (rowC (uCh u k3 4 (nI t1) (nI t2) (nI t3) (nI t4)) (un u)))), (b, .inr (3, [.ref (sa 0), .ref r471, .ref (sa 2), .ref (sa 3), .int (nI (zh (uh u))), .int (zl (uh u))])), (sa 0, .inl (cy 4, 12, qf (fun i => some (st i))))]) (Q := [(sa 2, .inl (cy 0, 12, .inl (uw u))), (sa 3, .inl (cy 0, 12, .inl (ud u)))] ++ (rows12 cy st 6 (rowS (uh u)) ++ (wX cy a q q2 ca ta u g ++ chT cy ch u))) hD
                      have hP : va_P D vwCl (([(r371, .inl ((cy 0), 5, .inl (rowC (uCh u k3 4 (nI t1) (nI t2) (nI t3) (nI t4)) (un u))))] : va_W) ++ (wS5 cy b (sup sa 1 r471) st (sup ch (un u) r371) (un u + 1) (uw u) (ud u) (nI (zh (uh u))) (zl (uh u)) ++ (rows12 cy st 6 (rowS (uh u)) ++ (wX cy a q q2 ca ta u g ++ chT cy ch u)))) H := hP
                      have hD : va_D A (([(r371, .inl ((cy 0), 5, .inl (rowC (uCh u k3 4 (nI t1) (nI t2) (nI t3) (nI t4)) (un u))))] : va_W) ++ (wS5 cy b (sup sa 1 r471) st (sup ch (un u) r371) (un u + 1) (uw u) (ud u) (nI (zh (uh u))) (zl (uh u)) ++ (rows12 cy st 6 (rowS (uh u)) ++ (wX cy a q q2 ca ta u g ++ chT cy ch u)))) := hD
                      refine lv_aload_n hx hb dL_act_523 rfl (lv_at hl 0 rfl) ?_
                      refine lv_iload_n hx hb dL_act_524 rfl (lv_at hl 3 rfl) ?_
                      refine lv_aload hx hb dL_act_525 (lv_at hl 5 rfl) ?_
                      refine lv_iconst (v := 1) hx hb dL_act_527 (by decide) ?_
                      refine pc_iald hx hb hK hP 0 0 rfl rfl (k := 1) (show 1 < 5 by omega) (by decide) dL_act_528 ?_
                      refine pc_top (show (rowC (uCh u k3 4 (nI t1) (nI t2) (nI t3) (nI t4)) (un u)) 1 = nI t1 from rowC_1) ?_
                      refine lv_aload hx hb dL_act_529 (lv_at hl 5 rfl) ?_
                      refine lv_iconst (v := 2) hx hb dL_act_531 (by decide) ?_
                      refine pc_iald hx hb hK hP 0 0 rfl rfl (k := 2) (show 2 < 5 by omega) (by decide) dL_act_532 ?_
                      refine pc_top (show (rowC (uCh u k3 4 (nI t1) (nI t2) (nI t3) (nI t4)) (un u)) 2 = nI t2 from rowC_2) ?_
                      refine lv_iload hx hb dL_act_533 (lv_at hl 4 rfl) ?_
                      refine lv_iconst (v := 2) hx hb dL_act_535 (by decide) ?_
                      refine lv_icmp_le (tgt := 546) hx hb dL_act_536 (by decide) (fun c536 => absurd c536 (by decide)) (fun c536 => ?_)
                      have n536 : ¬ (4 ≤ 2) := fun h9 => c536 ((nI_leI (a := 4) (b := 2) (by omega) (by omega)).mpr h9)
                      refine lv_aload hx hb dL_act_539 (lv_at hl 5 rfl) ?_
                      refine lv_iconst (v := 3) hx hb dL_act_541 (by decide) ?_
                      refine pc_iald hx hb hK hP 0 0 rfl rfl (k := 3) (show 3 < 5 by omega) (by decide) dL_act_542 ?_
                      refine pc_top (show (rowC (uCh u k3 4 (nI t1) (nI t2) (nI t3) (nI t4)) (un u)) 3 = nI t3 from rowC_3) ?_
                      refine lv_goto (tgt := 547) hx hb dL_act_543 (by decide) ?_
                      refine lv_iload hx hb dL_act_547 (lv_at hl 4 rfl) ?_
                      refine lv_iconst (v := 3) hx hb dL_act_549 (by decide) ?_
                      refine lv_icmp_le (tgt := 560) hx hb dL_act_550 (by decide) (fun c550 => absurd c550 (by decide)) (fun c550 => ?_)
                      have n550 : ¬ (4 ≤ 3) := fun h9 => c550 ((nI_leI (a := 4) (b := 3) (by omega) (by omega)).mpr h9)
                      refine lv_aload hx hb dL_act_553 (lv_at hl 5 rfl) ?_
                      refine lv_iconst (v := 4) hx hb dL_act_555 (by decide) ?_
                      refine pc_iald hx hb hK hP 0 0 rfl rfl (k := 4) (show 4 < 5 by omega) (by decide) dL_act_556 ?_
                      refine pc_top (show (rowC (uCh u k3 4 (nI t1) (nI t2) (nI t3) (nI t4)) (un u)) 4 = nI t4 from rowC_4) ?_
                      refine lv_goto (tgt := 561) hx hb dL_act_557 (by decide) ?_
                      refine cls_w (Lc := ([(r371, .inl ((cy 0), 5, .inl (rowC (uCh u k3 4 (nI t1) (nI t2) (nI t3) (nI t4)) (un u))))] : va_W)) (S5 := wS5 cy b (sup sa 1 r471) st (sup ch (un u) r371) (un u + 1) (uw u) (ud u) (nI (zh (uh u))) (zl (uh u))) (S12 := rows12 cy st 6 (rowS (uh u))) (T := chT cy ch u) (As := [.int (nI k3), .int (nI t1), .int (nI t2), .int (nI t3), .int (nI t4)]) (rest := []) (uf := fun (_ : Unit) => uCh u (ix (nI k3)) (chSz (nI t3) (nI t4)) (nI t1) (nI t2) (nI t3) (nI t4)) (gf := fun (_ : Unit) => g) hP hD hS hA hK hXA ⟨hx, hb, hml, hown, hts⟩ (mX2_chord l hst D cy H.size a q q2 ca ta u g I.1 (nI k3) (nI t1) (nI t2) (nI t3) (nI t4)) (fun E h => h.2 (exCh_0 (t0 := t1) (t1 := t2) (t2 := t3) (t3 := t4) hk3 ta1 tb1 ta2 tb2 tb3 tb4 (by omega) (by rw [chSz_4 ta3 tb3 ta4 tb4]; omega) (by omega))) (cwV 5 hts gL_act_X2_chord rfl rfl rfl (by decide +kernel) ⟨Nat.le_of_ble_eq_true rfl, Nat.le_of_ble_eq_true rfl⟩) rfl rfl hl.1 (Nat.le_of_ble_eq_true rfl) dL_act_561 ⟨Nat.le_of_ble_eq_true rfl, Nat.le_of_ble_eq_true rfl⟩ (fun _ H locs hP hD hS => ?_)
                      have hP : va_P D vwCl (([(r371, .inl ((cy 0), 5, .inl (rowC (uCh u k3 4 (nI t1) (nI t2) (nI t3) (nI t4)) (un u))))] : va_W) ++ (wS5 cy b (sup sa 1 r471) st (sup ch (un u) r371) (un u + 1) (uw u) (ud u) (nI (zh (uh u))) (zl (uh u)) ++ (rows12 cy st 6 (rowS (uh u)) ++ (wX cy a q q2 ca ta (uCh u (ix (nI k3)) (chSz (nI t3) (nI t4)) (nI t1) (nI t2) (nI t3) (nI t4)) g ++ chT cy ch u)))) H := hP
                      have hD : va_D A (([(r371, .inl ((cy 0), 5, .inl (rowC (uCh u k3 4 (nI t1) (nI t2) (nI t3) (nI t4)) (un u))))] : va_W) ++ (wS5 cy b (sup sa 1 r471) st (sup ch (un u) r371) (un u + 1) (uw u) (ud u) (nI (zh (uh u))) (zl (uh u)) ++ (rows12 cy st 6 (rowS (uh u)) ++ (wX cy a q q2 ca ta (uCh u (ix (nI k3)) (chSz (nI t3) (nI t4)) (nI t1) (nI t2) (nI t3) (nI t4)) g ++ chT cy ch u)))) := hD
                      refine W.widen (k := 8) (n := 47) (Nat.le_of_ble_eq_true rfl) (Nat.le_of_ble_eq_true rfl) ?_
                      rw [ixk, chSz_4 ta3 tb3 ta4 tb4] at hP hD
                      have hP : va_P D vwCl (([(r371, .inl ((cy 0), 5, .inl (rowC (uCh u k3 4 (nI t1) (nI t2) (nI t3) (nI t4)) (un u))))] : va_W) ++ (wS5 cy b (sup sa 1 r471) st (sup ch (un u) r371) (un u + 1) (uw u) (ud u) (nI (zh (uh u))) (zl (uh u)) ++ (rows12 cy st 6 (rowS (uh u)) ++ (wX cy a q q2 ca ta (uCh u k3 4 (nI t1) (nI t2) (nI t3) (nI t4)) g ++ chT cy ch u)))) H := hP
                      have hD : va_D A (([(r371, .inl ((cy 0), 5, .inl (rowC (uCh u k3 4 (nI t1) (nI t2) (nI t3) (nI t4)) (un u))))] : va_W) ++ (wS5 cy b (sup sa 1 r471) st (sup ch (un u) r371) (un u + 1) (uw u) (ud u) (nI (zh (uh u))) (zl (uh u)) ++ (rows12 cy st 6 (rowS (uh u)) ++ (wX cy a q q2 ca ta (uCh u k3 4 (nI t1) (nI t2) (nI t3) (nI t4)) g ++ chT cy ch u)))) := hD
                      refine lv_aload hx hb dL_act_564 (lv_at hl 6 rfl) ?_
                      refine pc_alenA hx hb hkp hP 3 rfl (v := nI (un u + 1)) rfl dL_act_566 ?_
                      refine lv_iconst (v := 1) hx hb dL_act_567 (by decide) ?_
                      refine lv_isub hx hb dL_act_568 ?_
                      refine pc_top (show (nI (un u + 1)) - 1 = nI ((un u + 1) - 1) from pk_sub (a := un u + 1) (b := 1) (by omega)) ?_
                      refine pc_top (show nI ((un u + 1) - 1) = nI (un u) from (by rw [Nat.add_sub_cancel])) ?_
                      refine lv_icmp_ne (tgt := 576) hx hb dL_act_569 (by decide) (fun c569 => absurd c569 (not_not_intro rfl)) (fun c569 => ?_)
                      have n569 : un u = un u := (nI_eq (a := un u) (b := un u) (by omega) (by omega)).mp c569
                      refine lv_iconst (v := 1) hx hb dL_act_572 (by decide) ?_
                      refine lv_goto (tgt := 577) hx hb dL_act_573 (by decide) ?_
                      refine W.widen (k := 8) (n := 48) (by omega) (by omega) ?_
                      have hP9 : va_P D vwCl (wSu cy b ((uCh u k3 4 (nI t1) (nI t2) (nI t3) (nI t4), sup sa 1 r471, st, sup ch (un u) r371) : US × (Nat → Nat) × (Nat → Nat) × (Nat → Nat)).2.1 ((uCh u k3 4 (nI t1) (nI t2) (nI t3) (nI t4), sup sa 1 r471, st, sup ch (un u) r371) : US × (Nat → Nat) × (Nat → Nat) × (Nat → Nat)).2.2.1 ((uCh u k3 4 (nI t1) (nI t2) (nI t3) (nI t4), sup sa 1 r471, st, sup ch (un u) r371) : US × (Nat → Nat) × (Nat → Nat) × (Nat → Nat)).2.2.2 ((uCh u k3 4 (nI t1) (nI t2) (nI t3) (nI t4), sup sa 1 r471, st, sup ch (un u) r371) : US × (Nat → Nat) × (Nat → Nat) × (Nat → Nat)).1 ++ (wSr cy ((uCh u k3 4 (nI t1) (nI t2) (nI t3) (nI t4), sup sa 1 r471, st, sup ch (un u) r371) : US × (Nat → Nat) × (Nat → Nat) × (Nat → Nat)).2.2.1 ((uCh u k3 4 (nI t1) (nI t2) (nI t3) (nI t4), sup sa 1 r471, st, sup ch (un u) r371) : US × (Nat → Nat) × (Nat → Nat) × (Nat → Nat)).1 ++ (wX cy a q q2 ca ta ((uCh u k3 4 (nI t1) (nI t2) (nI t3) (nI t4), sup sa 1 r471, st, sup ch (un u) r371) : US × (Nat → Nat) × (Nat → Nat) × (Nat → Nat)).1 g ++ chT cy ((uCh u k3 4 (nI t1) (nI t2) (nI t3) (nI t4), sup sa 1 r471, st, sup ch (un u) r371) : US × (Nat → Nat) × (Nat → Nat) × (Nat → Nat)).2.2.2 ((uCh u k3 4 (nI t1) (nI t2) (nI t3) (nI t4), sup sa 1 r471, st, sup ch (un u) r371) : US × (Nat → Nat) × (Nat → Nat) × (Nat → Nat)).1))) H := (by show va_P D vwCl (wSu cy b (sup sa 1 r471) st (sup ch (un u) r371) (uCh u k3 4 (nI t1) (nI t2) (nI t3) (nI t4)) ++ (wSr cy st (uCh u k3 4 (nI t1) (nI t2) (nI t3) (nI t4)) ++ (wX cy a q q2 ca ta (uCh u k3 4 (nI t1) (nI t2) (nI t3) (nI t4)) g ++ chT cy (sup ch (un u) r371) (uCh u k3 4 (nI t1) (nI t2) (nI t3) (nI t4))))) H; rw [← chT_new]; exact act_endP hP)
                      have hD9 : va_D A (wSu cy b ((uCh u k3 4 (nI t1) (nI t2) (nI t3) (nI t4), sup sa 1 r471, st, sup ch (un u) r371) : US × (Nat → Nat) × (Nat → Nat) × (Nat → Nat)).2.1 ((uCh u k3 4 (nI t1) (nI t2) (nI t3) (nI t4), sup sa 1 r471, st, sup ch (un u) r371) : US × (Nat → Nat) × (Nat → Nat) × (Nat → Nat)).2.2.1 ((uCh u k3 4 (nI t1) (nI t2) (nI t3) (nI t4), sup sa 1 r471, st, sup ch (un u) r371) : US × (Nat → Nat) × (Nat → Nat) × (Nat → Nat)).2.2.2 ((uCh u k3 4 (nI t1) (nI t2) (nI t3) (nI t4), sup sa 1 r471, st, sup ch (un u) r371) : US × (Nat → Nat) × (Nat → Nat) × (Nat → Nat)).1 ++ (wSr cy ((uCh u k3 4 (nI t1) (nI t2) (nI t3) (nI t4), sup sa 1 r471, st, sup ch (un u) r371) : US × (Nat → Nat) × (Nat → Nat) × (Nat → Nat)).2.2.1 ((uCh u k3 4 (nI t1) (nI t2) (nI t3) (nI t4), sup sa 1 r471, st, sup ch (un u) r371) : US × (Nat → Nat) × (Nat → Nat) × (Nat → Nat)).1 ++ (wX cy a q q2 ca ta ((uCh u k3 4 (nI t1) (nI t2) (nI t3) (nI t4), sup sa 1 r471, st, sup ch (un u) r371) : US × (Nat → Nat) × (Nat → Nat) × (Nat → Nat)).1 g ++ chT cy ((uCh u k3 4 (nI t1) (nI t2) (nI t3) (nI t4), sup sa 1 r471, st, sup ch (un u) r371) : US × (Nat → Nat) × (Nat → Nat) × (Nat → Nat)).2.2.2 ((uCh u k3 4 (nI t1) (nI t2) (nI t3) (nI t4), sup sa 1 r471, st, sup ch (un u) r371) : US × (Nat → Nat) × (Nat → Nat) × (Nat → Nat)).1))) := (by show va_D A (wSu cy b (sup sa 1 r471) st (sup ch (un u) r371) (uCh u k3 4 (nI t1) (nI t2) (nI t3) (nI t4)) ++ (wSr cy st (uCh u k3 4 (nI t1) (nI t2) (nI t3) (nI t4)) ++ (wX cy a q q2 ca ta (uCh u k3 4 (nI t1) (nI t2) (nI t3) (nI t4)) g ++ chT cy (sup ch (un u) r371) (uCh u k3 4 (nI t1) (nI t2) (nI t3) (nI t4))))); rw [← chT_new]; exact act_endD hD)
                      exact W.zret (v := 1) hx hb hr (by decide) (fun t ht hW => ⟨⟨1, ((uCh u k3 4 (nI t1) (nI t2) (nI t3) (nI t4), sup sa 1 r471, st, sup ch (un u) r371) : US × (Nat → Nat) × (Nat → Nat) × (Nat → Nat)), rfl, ⟨rfl, INV_ch4 I (by omega) (by omega) ta1 tb1 ta2 tb2 ta3 tb3 ta4 tb4, rfl⟩, by rw [ht]; exact hP9, hD9⟩, hS.F ht⟩) hS.2.2 dL_act_577
                    · have n486 : ¬ (un u ≤ jj) := fun h9 => c486 ((nI_leI (a := un u) (b := jj) (by omega) (by omega)).mpr h9)
                      refine lv_aload hx hb dL_act_489 (lv_at hl 6 rfl) ?_
                      refine lv_iload hx hb dL_act_491 (lv_at hl 7 rfl) ?_
                      refine lv_aload_n hx hb dL_act_493 rfl (lv_at hl 1 rfl) ?_
                      refine va_get (D := D) (ci := 3) (v := .ref (sa 1)) (C := RX3) (T := TX3) (N := 6) hx hb hts inL_act_RX3 hown hK hP 2 rfl rfl 1 (by decide) (hts _ kL_act_4) (fun _ h9 => h9) rfl dL_act_494 ?_
                      refine lv_iload hx hb dL_act_497 (lv_at hl 7 rfl) ?_
                      refine pc_aldA hx hb hkp hP 4 rfl (k := jj) (show jj < un u by omega) (by omega) (v := ch jj) rfl dL_act_499 ?_
                      obtain ⟨qk, hqk⟩ := List.getElem?_of_mem (show ((ch jj, .inl (cy 0, uz u jj + 1, .inl (rowC u jj))) : Nat × va_E) ∈ (([(r471, .inl ((cy 4), un u + 1, .inr (.inr (.inr (.inr (cpF ch jj)))))), (r371, .inl ((cy 0), 5, .inl M))] : va_W) ++ (wS5 cy b sa st ch (un u) (uw u) (ud u) (nI (zh (uh u))) (zl (uh u)) ++ (rows12 cy st 6 (rowS (uh u)) ++ (wX cy a q q2 ca ta u g ++ chT cy ch u))) : va_W) from List.mem_append_right _ (List.mem_append_right _ (List.mem_append_right _ (List.mem_append_right _ (chT_mem (by omega))))))
                      refine pc_astA hx hb hK hkp hP hD hS 0 qk rfl hqk (k := jj) (show jj < un u + 1 by omega) (by omega) dL_act_500 (fun H locs hP hD hS => ?_)
                      have hP : va_P D vwCl (([(r471, .inl ((cy 4), un u + 1, .inr (.inr (.inr (.inr (va_up (cpF ch jj) jj (some (ch jj)))))))), (r371, .inl ((cy 0), 5, .inl M))] : va_W) ++ (wS5 cy b sa st ch (un u) (uw u) (ud u) (nI (zh (uh u))) (zl (uh u)) ++ (rows12 cy st 6 (rowS (uh u)) ++ (wX cy a q q2 ca ta u g ++ chT cy ch u)))) H := hP
                      have hD : va_D A (([(r471, .inl ((cy 4), un u + 1, .inr (.inr (.inr (.inr (va_up (cpF ch jj) jj (some (ch jj)))))))), (r371, .inl ((cy 0), 5, .inl M))] : va_W) ++ (wS5 cy b sa st ch (un u) (uw u) (ud u) (nI (zh (uh u))) (zl (uh u)) ++ (rows12 cy st 6 (rowS (uh u)) ++ (wX cy a q q2 ca ta u g ++ chT cy ch u)))) := hD
                      have e9 : (va_up (cpF ch jj) jj (some (ch jj))) = cpF ch (jj + 1) := (cpF_s _ _)
                      rw [e9] at hP hD
                      clear e9
                      have hP : va_P D vwCl (([(r471, .inl ((cy 4), un u + 1, .inr (.inr (.inr (.inr (cpF ch (jj + 1))))))), (r371, .inl ((cy 0), 5, .inl M))] : va_W) ++ (wS5 cy b sa st ch (un u) (uw u) (ud u) (nI (zh (uh u))) (zl (uh u)) ++ (rows12 cy st 6 (rowS (uh u)) ++ (wX cy a q q2 ca ta u g ++ chT cy ch u)))) H := hP
                      have hD : va_D A (([(r471, .inl ((cy 4), un u + 1, .inr (.inr (.inr (.inr (cpF ch (jj + 1))))))), (r371, .inl ((cy 0), 5, .inl M))] : va_W) ++ (wS5 cy b sa st ch (un u) (uw u) (ud u) (nI (zh (uh u))) (zl (uh u)) ++ (rows12 cy st 6 (rowS (uh u)) ++ (wX cy a q q2 ca ta u g ++ chT cy ch u)))) := hD
                      refine lv_iinc (v := nI (jj + 1)) (lv' := [(11, .int (nI (jj + 1))), (0, .ref (a 0)), (1, .ref b), (2, .int xv), (3, .int (nI k3)), (8, .int 4), (9, .ref r371), (10, .ref r471)]) hx hb dL_act_501 hl (k := 7) rfl ((show (nI jj) + Int32.ofInt 1 = (nI jj) + 1 from rfl).trans (show (nI jj) + 1 = nI (jj + 1) from nI_add jj 1)) (by decide) rfl (fun ls hl => ?_)
                      refine lv_goto (tgt := 479) hx hb dL_act_504 (by decide) ?_
                      exact ih479 (jj + 1) (by omega) (by omega) _ _ hP hD hS ls (lv_sub hl [1, 2, 3, 4, 5, 6, 7, 0] rfl)
                exact loop479 (un u + 1) 0 (Nat.zero_le _) (by omega) _ _ hP hD hS ls (lv_sub hl [2, 3, 4, 5, 6, 7, 1, 0] rfl)
              · have n387 : ¬ (4 < i) := fun h9 => c387 ((nI_ltI (a := 4) (b := i) (by omega) (by omega)).mpr h9)
                refine lv_aload hx hb dL_act_390 (lv_at hl 5 rfl) ?_
                refine lv_iload hx hb dL_act_392 (lv_at hl 6 rfl) ?_
                refine lv_iconst (v := 1) hx hb dL_act_394 (by decide) ?_
                refine lv_aload_n hx hb dL_act_395 rfl (lv_at hl 1 rfl) ?_
                refine lv_iload_n hx hb dL_act_396 rfl (lv_at hl 3 rfl) ?_
                refine lv_iload hx hb dL_act_397 (lv_at hl 6 rfl) ?_
                refine lv_iadd hx hb dL_act_399 ?_
                refine pc_top (show (nI k3) + (nI i) = nI (k3 + i) from nI_add k3 i) ?_
                refine lv_iconst (v := 1) hx hb dL_act_400 (by decide) ?_
                refine lv_isub hx hb dL_act_401 ?_
                refine pc_top (show (nI (k3 + i)) - 1 = nI ((k3 + i) - 1) from pk_sub (a := k3 + i) (b := 1) (by omega)) ?_
                refine sim_p (Lc := ([(r371, .inl ((cy 0), 5, .inl M))] : va_W)) (S5 := wS5 cy b sa st ch (un u) (uw u) (ud u) (nI (zh (uh u))) (zl (uh u))) (S12 := rows12 cy st 6 (rowS (uh u))) (X := wX cy a q q2 ca ta u g ++ chT cy ch u) (Y := []) (As := [.int (nI ((k3 + i) - 1))]) (rest := [.int 1, .int (nI i), .ref r371]) hP hK hkp ⟨hx, hb, hml, hown, hts⟩ (mX3_tone l D cy b sa st ch u (k3 + i - 1) (by omega)) (no_mem) rfl (cwV 1 hts gL_act_X3_tone rfl rfl rfl (by decide +kernel) ⟨Nat.le_of_ble_eq_true rfl, Nat.le_of_ble_eq_true rfl⟩) rfl rfl hl.1 (Nat.le_of_ble_eq_true rfl) dL_act_402 ⟨Nat.le_of_ble_eq_true rfl, Nat.le_of_ble_eq_true rfl⟩ ?_
                obtain ⟨tt, htt, ett⟩ := tone_b I (show k3 + i - 1 < 12 by omega)
                refine pc_top (show tone (uh u) (k3 + i - 1) = nI tt from ett) ?_
                refine lv_iload_n hx hb dL_act_405 rfl (lv_at hl 2 rfl) ?_
                refine lv_iload hx hb dL_act_406 (lv_at hl 6 rfl) ?_
                refine lv_ishr hx hb dL_act_408 ?_
                refine lv_iconst (v := 5) hx hb dL_act_409 (by decide) ?_
                refine lv_iload hx hb dL_act_410 (lv_at hl 6 rfl) ?_
                refine lv_imul hx hb dL_act_412 ?_
                refine pc_top (show 5 * (nI i) = nI (5 * i) from pk_mul 5 i) ?_
                refine lv_iadd hx hb dL_act_413 ?_
                refine lv_iload_n hx hb dL_act_414 rfl (lv_at hl 2 rfl) ?_
                refine lv_bipush (v := 6) hx hb dL_act_415 (by decide) ?_
                refine lv_ishr hx hb dL_act_417 ?_
                refine lv_iconst (v := 2) hx hb dL_act_418 (by decide) ?_
                refine pc_calli (va_runS (As := [.int (xv >>> (6 &&& 31)), .int 2]) (rest := [.int ((xv >>> ((nI i) &&& 31)) + (nI (5 * i))), .int (nI tt), .int 1, .int (nI i), .ref r371]) ⟨hx, hb, hml, hown, hts⟩ (mL_below l D cy (xv >>> (6 &&& 31)) 2 (by decide) (by decide)) (va_cwS 2 hts gL_act_L_below rfl rfl rfl (by decide +kernel) ⟨Nat.le_of_ble_eq_true rfl, Nat.le_of_ble_eq_true rfl⟩) ⟨fun a U g mk q => q, fun U hU hW => ⟨rfl, trivial⟩⟩ rfl rfl hl.1 rfl (lv_room (Nat.le_of_ble_eq_true rfl)) dL_act_419 ⟨Nat.le_of_ble_eq_true rfl, Nat.le_of_ble_eq_true rfl⟩) (fun r9 hr9 => ?_)
                obtain ⟨k419, hk419, rfl⟩ := hr9
                refine lv_if_ne (tgt := 430) hx hb dL_act_422 (by decide) (fun c422 => ?_) (fun c422 => ?_)
                · have n422 : ¬ (k419 = 0) := fun h9 => c422 ((nI_eq (a := k419) (b := 0) (by omega) (by omega)).mpr h9)
                  refine lv_bipush (v := 61) hx hb dL_act_430 (by decide) ?_
                  refine pc_calli (va_runS (As := [.int ((xv >>> ((nI i) &&& 31)) + (nI (5 * i))), .int 61]) (rest := [.int (nI tt), .int 1, .int (nI i), .ref r371]) ⟨hx, hb, hml, hown, hts⟩ (mL_below l D cy ((xv >>> ((nI i) &&& 31)) + (nI (5 * i))) 61 (by decide) (by decide)) (va_cwS 2 hts gL_act_L_below rfl rfl rfl (by decide +kernel) ⟨Nat.le_of_ble_eq_true rfl, Nat.le_of_ble_eq_true rfl⟩) ⟨fun a U g mk q => q, fun U hU hW => ⟨rfl, trivial⟩⟩ rfl rfl hl.1 rfl (lv_room (Nat.le_of_ble_eq_true rfl)) dL_act_432 ⟨Nat.le_of_ble_eq_true rfl, Nat.le_of_ble_eq_true rfl⟩) (fun r9 hr9 => ?_)
                  obtain ⟨k432, hk432, rfl⟩ := hr9
                  refine lv_iadd hx hb dL_act_435 ?_
                  refine lv_iload_n hx hb dL_act_436 rfl (lv_at hl 2 rfl) ?_
                  refine lv_bipush (v := 6) hx hb dL_act_437 (by decide) ?_
                  refine lv_ishr hx hb dL_act_439 ?_
                  refine lv_iconst (v := 2) hx hb dL_act_440 (by decide) ?_
                  refine pc_calli (va_runS (As := [.int (xv >>> (6 &&& 31)), .int 2]) (rest := [.int ((nI tt) + (nI k432)), .int 1, .int (nI i), .ref r371]) ⟨hx, hb, hml, hown, hts⟩ (mL_below l D cy (xv >>> (6 &&& 31)) 2 (by decide) (by decide)) (va_cwS 2 hts gL_act_L_below rfl rfl rfl (by decide +kernel) ⟨Nat.le_of_ble_eq_true rfl, Nat.le_of_ble_eq_true rfl⟩) ⟨fun a U g mk q => q, fun U hU hW => ⟨rfl, trivial⟩⟩ rfl rfl hl.1 rfl (lv_room (Nat.le_of_ble_eq_true rfl)) dL_act_441 ⟨Nat.le_of_ble_eq_true rfl, Nat.le_of_ble_eq_true rfl⟩) (fun r9 hr9 => ?_)
                  obtain ⟨k441, hk441, rfl⟩ := hr9
                  refine lv_if_ne (tgt := 451) hx hb dL_act_444 (by decide) (fun c444 => ?_) (fun c444 => ?_)
                  · have n444 : ¬ (k441 = 0) := fun h9 => c444 ((nI_eq (a := k441) (b := 0) (by omega) (by omega)).mpr h9)
                    refine lv_bipush (v := 30) hx hb dL_act_451 (by decide) ?_
                    refine lv_isub hx hb dL_act_453 ?_
                    refine va_mmax hx hb (by rw [hml]; exact hl.1.symm) hown (hts _ kL_act_6) (hts _ kL_act_7) (hts _ kL_act_8) (hts _ kL_act_9) (Nat.le_of_ble_eq_true rfl) (Nat.le_of_ble_eq_true rfl) (Nat.le_of_ble_eq_true rfl) (Nat.le_of_ble_eq_true rfl) dL_act_454 ?_
                    refine pc_top (show (if 1 < (((nI tt) + (nI k432)) - 30) then (((nI tt) + (nI k432)) - 30) else 1) = mx 1 (((nI tt) + (nI k432)) - 30) from rfl) ?_
                    obtain ⟨v9, hv1, hv2, ev9⟩ := made_b (t := tt) (r := k432) (c := 30) htt (by omega) (by decide)
                    refine pc_top (show mx 1 (((nI tt) + (nI k432)) - 30) = nI v9 from ev9) ?_
                    refine pc_iast hx hb hK hP hD hS 0 0 rfl rfl (k := i) (show i < 5 by omega) (by decide) dL_act_457 (fun H locs hP hD hS => ?_)
                    have hP : va_P D vwCl (([(r371, .inl ((cy 0), 5, .inl (upd M i (nI v9))))] : va_W) ++ (wS5 cy b sa st ch (un u) (uw u) (ud u) (nI (zh (uh u))) (zl (uh u)) ++ (rows12 cy st 6 (rowS (uh u)) ++ (wX cy a q q2 ca ta u g ++ chT cy ch u)))) H := hP
                    have hD : va_D A (([(r371, .inl ((cy 0), 5, .inl (upd M i (nI v9))))] : va_W) ++ (wS5 cy b sa st ch (un u) (uw u) (ud u) (nI (zh (uh u))) (zl (uh u)) ++ (rows12 cy st 6 (rowS (uh u)) ++ (wX cy a q q2 ca ta u g ++ chT cy ch u)))) := hD
                    refine lv_iinc (v := nI (i + 1)) (lv' := [(10, .int (nI (i + 1))), (0, .ref (a 0)), (1, .ref b), (2, .int xv), (3, .int (nI k3)), (8, .int 4), (9, .ref r371)]) hx hb dL_act_458 hl (k := 6) rfl ((show (nI i) + Int32.ofInt 1 = (nI i) + 1 from rfl).trans (show (nI i) + 1 = nI (i + 1) from nI_add i 1)) (by decide) rfl (fun ls hl => ?_)
                    refine lv_goto (tgt := 383) hx hb dL_act_461 (by decide) ?_
                    exact ih383 (i + 1) (upd M i (nI v9)) (⟨by omega, by omega⟩) ((pk_un (by omega)).trans hM0) (made_s hM hv1 hv2) (by omega) _ _ hP hD hS ls (lv_sub hl [1, 2, 3, 4, 5, 6, 0] rfl)
                  · have n444 : k441 = 0 := (nI_eq (a := k441) (b := 0) (by omega) (by omega)).mp c444
                    refine lv_iconst (v := 4) hx hb dL_act_447 (by decide) ?_
                    refine lv_goto (tgt := 453) hx hb dL_act_448 (by decide) ?_
                    refine lv_isub hx hb dL_act_453 ?_
                    refine va_mmax hx hb (by rw [hml]; exact hl.1.symm) hown (hts _ kL_act_6) (hts _ kL_act_7) (hts _ kL_act_8) (hts _ kL_act_9) (Nat.le_of_ble_eq_true rfl) (Nat.le_of_ble_eq_true rfl) (Nat.le_of_ble_eq_true rfl) (Nat.le_of_ble_eq_true rfl) dL_act_454 ?_
                    refine pc_top (show (if 1 < (((nI tt) + (nI k432)) - 4) then (((nI tt) + (nI k432)) - 4) else 1) = mx 1 (((nI tt) + (nI k432)) - 4) from rfl) ?_
                    obtain ⟨v9, hv1, hv2, ev9⟩ := made_b (t := tt) (r := k432) (c := 4) htt (by omega) (by decide)
                    refine pc_top (show mx 1 (((nI tt) + (nI k432)) - 4) = nI v9 from ev9) ?_
                    refine pc_iast hx hb hK hP hD hS 0 0 rfl rfl (k := i) (show i < 5 by omega) (by decide) dL_act_457 (fun H locs hP hD hS => ?_)
                    have hP : va_P D vwCl (([(r371, .inl ((cy 0), 5, .inl (upd M i (nI v9))))] : va_W) ++ (wS5 cy b sa st ch (un u) (uw u) (ud u) (nI (zh (uh u))) (zl (uh u)) ++ (rows12 cy st 6 (rowS (uh u)) ++ (wX cy a q q2 ca ta u g ++ chT cy ch u)))) H := hP
                    have hD : va_D A (([(r371, .inl ((cy 0), 5, .inl (upd M i (nI v9))))] : va_W) ++ (wS5 cy b sa st ch (un u) (uw u) (ud u) (nI (zh (uh u))) (zl (uh u)) ++ (rows12 cy st 6 (rowS (uh u)) ++ (wX cy a q q2 ca ta u g ++ chT cy ch u)))) := hD
                    refine lv_iinc (v := nI (i + 1)) (lv' := [(10, .int (nI (i + 1))), (0, .ref (a 0)), (1, .ref b), (2, .int xv), (3, .int (nI k3)), (8, .int 4), (9, .ref r371)]) hx hb dL_act_458 hl (k := 6) rfl ((show (nI i) + Int32.ofInt 1 = (nI i) + 1 from rfl).trans (show (nI i) + 1 = nI (i + 1) from nI_add i 1)) (by decide) rfl (fun ls hl => ?_)
                    refine lv_goto (tgt := 383) hx hb dL_act_461 (by decide) ?_
                    exact ih383 (i + 1) (upd M i (nI v9)) (⟨by omega, by omega⟩) ((pk_un (by omega)).trans hM0) (made_s hM hv1 hv2) (by omega) _ _ hP hD hS ls (lv_sub hl [1, 2, 3, 4, 5, 6, 0] rfl)
                · have n422 : k419 = 0 := (nI_eq (a := k419) (b := 0) (by omega) (by omega)).mp c422
                  refine lv_bipush (v := 9) hx hb dL_act_425 (by decide) ?_
                  refine lv_goto (tgt := 432) hx hb dL_act_427 (by decide) ?_
                  refine pc_calli (va_runS (As := [.int ((xv >>> ((nI i) &&& 31)) + (nI (5 * i))), .int 9]) (rest := [.int (nI tt), .int 1, .int (nI i), .ref r371]) ⟨hx, hb, hml, hown, hts⟩ (mL_below l D cy ((xv >>> ((nI i) &&& 31)) + (nI (5 * i))) 9 (by decide) (by decide)) (va_cwS 2 hts gL_act_L_below rfl rfl rfl (by decide +kernel) ⟨Nat.le_of_ble_eq_true rfl, Nat.le_of_ble_eq_true rfl⟩) ⟨fun a U g mk q => q, fun U hU hW => ⟨rfl, trivial⟩⟩ rfl rfl hl.1 rfl (lv_room (Nat.le_of_ble_eq_true rfl)) dL_act_432 ⟨Nat.le_of_ble_eq_true rfl, Nat.le_of_ble_eq_true rfl⟩) (fun r9 hr9 => ?_)
                  obtain ⟨k432, hk432, rfl⟩ := hr9
                  refine lv_iadd hx hb dL_act_435 ?_
                  refine lv_iload_n hx hb dL_act_436 rfl (lv_at hl 2 rfl) ?_
                  refine lv_bipush (v := 6) hx hb dL_act_437 (by decide) ?_
                  refine lv_ishr hx hb dL_act_439 ?_
                  refine lv_iconst (v := 2) hx hb dL_act_440 (by decide) ?_
                  refine pc_calli (va_runS (As := [.int (xv >>> (6 &&& 31)), .int 2]) (rest := [.int ((nI tt) + (nI k432)), .int 1, .int (nI i), .ref r371]) ⟨hx, hb, hml, hown, hts⟩ (mL_below l D cy (xv >>> (6 &&& 31)) 2 (by decide) (by decide)) (va_cwS 2 hts gL_act_L_below rfl rfl rfl (by decide +kernel) ⟨Nat.le_of_ble_eq_true rfl, Nat.le_of_ble_eq_true rfl⟩) ⟨fun a U g mk q => q, fun U hU hW => ⟨rfl, trivial⟩⟩ rfl rfl hl.1 rfl (lv_room (Nat.le_of_ble_eq_true rfl)) dL_act_441 ⟨Nat.le_of_ble_eq_true rfl, Nat.le_of_ble_eq_true rfl⟩) (fun r9 hr9 => ?_)
                  obtain ⟨k441, hk441, rfl⟩ := hr9
                  refine lv_if_ne (tgt := 451) hx hb dL_act_444 (by decide) (fun c444 => ?_) (fun c444 => ?_)
                  · have n444 : ¬ (k441 = 0) := fun h9 => c444 ((nI_eq (a := k441) (b := 0) (by omega) (by omega)).mpr h9)
                    refine lv_bipush (v := 30) hx hb dL_act_451 (by decide) ?_
                    refine lv_isub hx hb dL_act_453 ?_
                    refine va_mmax hx hb (by rw [hml]; exact hl.1.symm) hown (hts _ kL_act_6) (hts _ kL_act_7) (hts _ kL_act_8) (hts _ kL_act_9) (Nat.le_of_ble_eq_true rfl) (Nat.le_of_ble_eq_true rfl) (Nat.le_of_ble_eq_true rfl) (Nat.le_of_ble_eq_true rfl) dL_act_454 ?_
                    refine pc_top (show (if 1 < (((nI tt) + (nI k432)) - 30) then (((nI tt) + (nI k432)) - 30) else 1) = mx 1 (((nI tt) + (nI k432)) - 30) from rfl) ?_
                    obtain ⟨v9, hv1, hv2, ev9⟩ := made_b (t := tt) (r := k432) (c := 30) htt (by omega) (by decide)
                    refine pc_top (show mx 1 (((nI tt) + (nI k432)) - 30) = nI v9 from ev9) ?_
                    refine pc_iast hx hb hK hP hD hS 0 0 rfl rfl (k := i) (show i < 5 by omega) (by decide) dL_act_457 (fun H locs hP hD hS => ?_)
                    have hP : va_P D vwCl (([(r371, .inl ((cy 0), 5, .inl (upd M i (nI v9))))] : va_W) ++ (wS5 cy b sa st ch (un u) (uw u) (ud u) (nI (zh (uh u))) (zl (uh u)) ++ (rows12 cy st 6 (rowS (uh u)) ++ (wX cy a q q2 ca ta u g ++ chT cy ch u)))) H := hP
                    have hD : va_D A (([(r371, .inl ((cy 0), 5, .inl (upd M i (nI v9))))] : va_W) ++ (wS5 cy b sa st ch (un u) (uw u) (ud u) (nI (zh (uh u))) (zl (uh u)) ++ (rows12 cy st 6 (rowS (uh u)) ++ (wX cy a q q2 ca ta u g ++ chT cy ch u)))) := hD
                    refine lv_iinc (v := nI (i + 1)) (lv' := [(10, .int (nI (i + 1))), (0, .ref (a 0)), (1, .ref b), (2, .int xv), (3, .int (nI k3)), (8, .int 4), (9, .ref r371)]) hx hb dL_act_458 hl (k := 6) rfl ((show (nI i) + Int32.ofInt 1 = (nI i) + 1 from rfl).trans (show (nI i) + 1 = nI (i + 1) from nI_add i 1)) (by decide) rfl (fun ls hl => ?_)
                    refine lv_goto (tgt := 383) hx hb dL_act_461 (by decide) ?_
                    exact ih383 (i + 1) (upd M i (nI v9)) (⟨by omega, by omega⟩) ((pk_un (by omega)).trans hM0) (made_s hM hv1 hv2) (by omega) _ _ hP hD hS ls (lv_sub hl [1, 2, 3, 4, 5, 6, 0] rfl)
                  · have n444 : k441 = 0 := (nI_eq (a := k441) (b := 0) (by omega) (by omega)).mp c444
                    refine lv_iconst (v := 4) hx hb dL_act_447 (by decide) ?_
                    refine lv_goto (tgt := 453) hx hb dL_act_448 (by decide) ?_
                    refine lv_isub hx hb dL_act_453 ?_
                    refine va_mmax hx hb (by rw [hml]; exact hl.1.symm) hown (hts _ kL_act_6) (hts _ kL_act_7) (hts _ kL_act_8) (hts _ kL_act_9) (Nat.le_of_ble_eq_true rfl) (Nat.le_of_ble_eq_true rfl) (Nat.le_of_ble_eq_true rfl) (Nat.le_of_ble_eq_true rfl) dL_act_454 ?_
                    refine pc_top (show (if 1 < (((nI tt) + (nI k432)) - 4) then (((nI tt) + (nI k432)) - 4) else 1) = mx 1 (((nI tt) + (nI k432)) - 4) from rfl) ?_
                    obtain ⟨v9, hv1, hv2, ev9⟩ := made_b (t := tt) (r := k432) (c := 4) htt (by omega) (by decide)
                    refine pc_top (show mx 1 (((nI tt) + (nI k432)) - 4) = nI v9 from ev9) ?_
                    refine pc_iast hx hb hK hP hD hS 0 0 rfl rfl (k := i) (show i < 5 by omega) (by decide) dL_act_457 (fun H locs hP hD hS => ?_)
                    have hP : va_P D vwCl (([(r371, .inl ((cy 0), 5, .inl (upd M i (nI v9))))] : va_W) ++ (wS5 cy b sa st ch (un u) (uw u) (ud u) (nI (zh (uh u))) (zl (uh u)) ++ (rows12 cy st 6 (rowS (uh u)) ++ (wX cy a q q2 ca ta u g ++ chT cy ch u)))) H := hP
                    have hD : va_D A (([(r371, .inl ((cy 0), 5, .inl (upd M i (nI v9))))] : va_W) ++ (wS5 cy b sa st ch (un u) (uw u) (ud u) (nI (zh (uh u))) (zl (uh u)) ++ (rows12 cy st 6 (rowS (uh u)) ++ (wX cy a q q2 ca ta u g ++ chT cy ch u)))) := hD
                    refine lv_iinc (v := nI (i + 1)) (lv' := [(10, .int (nI (i + 1))), (0, .ref (a 0)), (1, .ref b), (2, .int xv), (3, .int (nI k3)), (8, .int 4), (9, .ref r371)]) hx hb dL_act_458 hl (k := 6) rfl ((show (nI i) + Int32.ofInt 1 = (nI i) + 1 from rfl).trans (show (nI i) + 1 = nI (i + 1) from nI_add i 1)) (by decide) rfl (fun ls hl => ?_)
                    refine lv_goto (tgt := 383) hx hb dL_act_461 (by decide) ?_
                    exact ih383 (i + 1) (upd M i (nI v9)) (⟨by omega, by omega⟩) ((pk_un (by omega)).trans hM0) (made_s hM hv1 hv2) (by omega) _ _ hP hD hS ls (lv_sub hl [1, 2, 3, 4, 5, 6, 0] rfl)
          exact loop383 (5 + 1) 1 (upd (fun _ => 0) 0 (nI k3)) (⟨Nat.le_refl _, by decide⟩) pk_us (fun j h1 h2 => absurd h2 (by omega)) (by omega) _ _ hP hD hS ls (lv_sub hl [5, 6, 7, 4, 2, 1, 0] rfl)
        · have n362 : ¬ (k3 + 4 ≤ 12) := fun h9 => c362 ((nI_leI (a := k3 + 4) (b := 12) (by omega) (by omega)).mpr h9)
          refine lv_iconst (v := 1) hx hb dL_act_365 (by decide) ?_
          have hP9 : va_P D vwCl (wSu cy b ((u, sa, st, ch) : US × (Nat → Nat) × (Nat → Nat) × (Nat → Nat)).2.1 ((u, sa, st, ch) : US × (Nat → Nat) × (Nat → Nat) × (Nat → Nat)).2.2.1 ((u, sa, st, ch) : US × (Nat → Nat) × (Nat → Nat) × (Nat → Nat)).2.2.2 ((u, sa, st, ch) : US × (Nat → Nat) × (Nat → Nat) × (Nat → Nat)).1 ++ (wSr cy ((u, sa, st, ch) : US × (Nat → Nat) × (Nat → Nat) × (Nat → Nat)).2.2.1 ((u, sa, st, ch) : US × (Nat → Nat) × (Nat → Nat) × (Nat → Nat)).1 ++ (wX cy a q q2 ca ta ((u, sa, st, ch) : US × (Nat → Nat) × (Nat → Nat) × (Nat → Nat)).1 g ++ chT cy ((u, sa, st, ch) : US × (Nat → Nat) × (Nat → Nat) × (Nat → Nat)).2.2.2 ((u, sa, st, ch) : US × (Nat → Nat) × (Nat → Nat) × (Nat → Nat)).1))) s.heap := (pM_dropP hP)
          have hD9 : va_D A (wSu cy b ((u, sa, st, ch) : US × (Nat → Nat) × (Nat → Nat) × (Nat → Nat)).2.1 ((u, sa, st, ch) : US × (Nat → Nat) × (Nat → Nat) × (Nat → Nat)).2.2.1 ((u, sa, st, ch) : US × (Nat → Nat) × (Nat → Nat) × (Nat → Nat)).2.2.2 ((u, sa, st, ch) : US × (Nat → Nat) × (Nat → Nat) × (Nat → Nat)).1 ++ (wSr cy ((u, sa, st, ch) : US × (Nat → Nat) × (Nat → Nat) × (Nat → Nat)).2.2.1 ((u, sa, st, ch) : US × (Nat → Nat) × (Nat → Nat) × (Nat → Nat)).1 ++ (wX cy a q q2 ca ta ((u, sa, st, ch) : US × (Nat → Nat) × (Nat → Nat) × (Nat → Nat)).1 g ++ chT cy ((u, sa, st, ch) : US × (Nat → Nat) × (Nat → Nat) × (Nat → Nat)).2.2.2 ((u, sa, st, ch) : US × (Nat → Nat) × (Nat → Nat) × (Nat → Nat)).1))) := (pM_dropD hD)
          refine W.widen (k := 8) (n := 48) (Nat.le_of_ble_eq_true rfl) (Nat.le_of_ble_eq_true rfl) ?_
          exact W.zret (v := 1) hx hb hr (by decide) (fun t ht hW => ⟨⟨1, ((u, sa, st, ch) : US × (Nat → Nat) × (Nat → Nat) × (Nat → Nat)), rfl, ⟨rfl, I, rfl⟩, by rw [ht]; exact hP9, hD9⟩, hS.F ht⟩) hS.2.2 dL_act_366
    · have n340 : un u = 6 := (nI_eq (a := un u) (b := 6) (by omega) (by omega)).mp c340
      refine lv_iconst (v := 1) hx hb dL_act_343 (by decide) ?_
      have hP9 : va_P D vwCl (wSu cy b ((u, sa, st, ch) : US × (Nat → Nat) × (Nat → Nat) × (Nat → Nat)).2.1 ((u, sa, st, ch) : US × (Nat → Nat) × (Nat → Nat) × (Nat → Nat)).2.2.1 ((u, sa, st, ch) : US × (Nat → Nat) × (Nat → Nat) × (Nat → Nat)).2.2.2 ((u, sa, st, ch) : US × (Nat → Nat) × (Nat → Nat) × (Nat → Nat)).1 ++ (wSr cy ((u, sa, st, ch) : US × (Nat → Nat) × (Nat → Nat) × (Nat → Nat)).2.2.1 ((u, sa, st, ch) : US × (Nat → Nat) × (Nat → Nat) × (Nat → Nat)).1 ++ (wX cy a q q2 ca ta ((u, sa, st, ch) : US × (Nat → Nat) × (Nat → Nat) × (Nat → Nat)).1 g ++ chT cy ((u, sa, st, ch) : US × (Nat → Nat) × (Nat → Nat) × (Nat → Nat)).2.2.2 ((u, sa, st, ch) : US × (Nat → Nat) × (Nat → Nat) × (Nat → Nat)).1))) s.heap := (pM_dropP hP)
      have hD9 : va_D A (wSu cy b ((u, sa, st, ch) : US × (Nat → Nat) × (Nat → Nat) × (Nat → Nat)).2.1 ((u, sa, st, ch) : US × (Nat → Nat) × (Nat → Nat) × (Nat → Nat)).2.2.1 ((u, sa, st, ch) : US × (Nat → Nat) × (Nat → Nat) × (Nat → Nat)).2.2.2 ((u, sa, st, ch) : US × (Nat → Nat) × (Nat → Nat) × (Nat → Nat)).1 ++ (wSr cy ((u, sa, st, ch) : US × (Nat → Nat) × (Nat → Nat) × (Nat → Nat)).2.2.1 ((u, sa, st, ch) : US × (Nat → Nat) × (Nat → Nat) × (Nat → Nat)).1 ++ (wX cy a q q2 ca ta ((u, sa, st, ch) : US × (Nat → Nat) × (Nat → Nat) × (Nat → Nat)).1 g ++ chT cy ((u, sa, st, ch) : US × (Nat → Nat) × (Nat → Nat) × (Nat → Nat)).2.2.2 ((u, sa, st, ch) : US × (Nat → Nat) × (Nat → Nat) × (Nat → Nat)).1))) := (pM_dropD hD)
      refine W.widen (k := 8) (n := 48) (Nat.le_of_ble_eq_true rfl) (Nat.le_of_ble_eq_true rfl) ?_
      exact W.zret (v := 1) hx hb hr (by decide) (fun t ht hW => ⟨⟨1, ((u, sa, st, ch) : US × (Nat → Nat) × (Nat → Nat) × (Nat → Nat)), rfl, ⟨rfl, I, rfl⟩, by rw [ht]; exact hP9, hD9⟩, hS.F ht⟩) hS.2.2 dL_act_344

