theorem inX1_toneOf_RX1 : ∀ w ∈ u_ws RX1 TX1 8, w ∈ wsX1_toneOf := by decide +kernel
theorem kX1_toneOf_0 : (.fieldLink RX1 27 "WedgeHarps$Harp" "whole" "[Z" : Cond) ∈ wsX1_toneOf := by decide +kernel
theorem kX1_toneOf_1 : (.fieldLink RX1 9 "WedgeHarps$Harp" "base" "[I" : Cond) ∈ wsX1_toneOf := by decide +kernel
theorem kX1_toneOf_2 : (.fieldLink RX1 15 "WedgeHarps$Harp" "wedge" "[I" : Cond) ∈ wsX1_toneOf := by decide +kernel
theorem kX1_toneOf_3 : (.fieldLink RX1 18 "WedgeHarps$Harp" "drift" "[I" : Cond) ∈ wsX1_toneOf := by decide +kernel
theorem kX1_toneOf_4 : (.fieldLink RX1 31 "WedgeHarps$Harp" "swelling" "I" : Cond) ∈ wsX1_toneOf := by decide +kernel
set_option maxHeartbeats 4000000 in
set_option maxRecDepth 100000 in
theorem mX1_toneOf (l : Launch) (D : va_G) (cy : Nat → ClassId) (q : Nat → Nat) (h : HS) (k : Nat) (hk : k < 12) : Met l yX1_toneOf wsX1_toneOf ({ frames := 0, cells := 0, slots := 0, locals := 0 } : Room) (va_Pc [.ref (q 0), .int (nI k)] (fun U => va_P D vwCl (wH cy q h) U.heap ∧ va_K D vwCl (TY cy) U)) (vp_Si (fun r8 => r8 = tone h k)) 0 0 (fun _ => False) := by
  refine Met.ofW (cc := cX1_toneOf) (maxL := 3) (ret := (some .int)) (by decide) rfl ?_
  intro p e s m args below meth c s₁ B hml hv
  obtain ⟨rfl, hP, hK⟩ := hv
  have hx := B.exec
  have hb := B.bytes
  have hr := B.returns
  have hts := atoms_spec (ws := wsX1_toneOf) B.pre
  have hown : s.vm.findClass RX1 = some m.cls := findClass_of_methodNamed B.named
  have hlocks := B.notSynchronized
  have hl := lv_entry ([.ref (q 0), .int (nI k)]) (n := 3) (Nat.le_of_ble_eq_true rfl)
  rw [lg_entry_eq]
  generalize (lg_sl ([.ref (q 0), .int (nI k)]) ++ List.replicate (3 - (lg_sl ([.ref (q 0), .int (nI k)])).length) Slot.unset).toArray = ls at hl ⊢
  have hl : lv_has ls 3 [(0, .ref (q 0)), (1, .int (nI k))] := hl
  refine lv_aload_n hx hb dX1_toneOf_0 rfl (lv_at hl 0 rfl) ?_
  refine va_get (D := D) (ci := 1) (v := .ref (q 6)) (C := RX1) (T := TX1) (N := 8) hx hb hts inX1_toneOf_RX1 hown hK hP 0 rfl rfl 5 (by decide) (hts _ kX1_toneOf_0) (fun _ h9 => h9) rfl dX1_toneOf_1 ?_
  refine lv_iload_n hx hb dX1_toneOf_4 rfl (lv_at hl 1 rfl) ?_
  refine pc_zald hx hb hK hP 6 1 rfl rfl (k := k) (show k < 12 by omega) (by decide) dX1_toneOf_5 ?_
  refine lv_if_ne (tgt := 11) hx hb dX1_toneOf_6 (by decide) (fun c6 => ?_) (fun c6 => ?_)
  · refine lv_iconst (v := 0) hx hb dX1_toneOf_11 (by decide) ?_
    refine lv_istore_n (lv' := [(2, .int 0), (0, .ref (q 0)), (1, .int (nI k))]) hx hb dX1_toneOf_12 rfl hl (by decide) rfl (fun ls hl => ?_)
    refine lv_iload_n hx hb dX1_toneOf_13 rfl (lv_at hl 2 rfl) ?_
    refine lv_if_le (tgt := 28) hx hb dX1_toneOf_14 (by decide) (fun c14 => ?_) (fun c14 => ?_)
    · have n14 : k ≤ 0 := (nI_leI (a := k) (b := 0) (by omega) (by omega)).mp c14
      have f14 : ¬ (0 < k) := by omega
      refine lv_iload_n hx hb dX1_toneOf_28 rfl (lv_at hl 2 rfl) ?_
      refine lv_bipush (v := 11) hx hb dX1_toneOf_29 (by decide) ?_
      refine lv_icmp_ge (tgt := 45) hx hb dX1_toneOf_31 (by decide) (fun c31 => ?_) (fun c31 => ?_)
      · have n31 : 11 ≤ k := (nI_leI (a := 11) (b := k) (by omega) (by omega)).mp c31
        have f31 : ¬ (k < 11) := by omega
        refine lv_aload_n hx hb dX1_toneOf_45 rfl (lv_at hl 1 rfl) ?_
        refine va_get (D := D) (ci := 1) (v := .ref (q 1)) (C := RX1) (T := TX1) (N := 8) hx hb hts inX1_toneOf_RX1 hown hK hP 0 rfl rfl 0 (by decide) (hts _ kX1_toneOf_1) (fun _ h9 => h9) rfl dX1_toneOf_46 ?_
        refine lv_iload_n hx hb dX1_toneOf_49 rfl (lv_at hl 2 rfl) ?_
        refine pc_iald hx hb hK hP 1 0 rfl rfl (k := k) (show k < 12 by omega) (by decide) dX1_toneOf_50 ?_
        refine lv_bipush (v := 10) hx hb dX1_toneOf_51 (by decide) ?_
        refine lv_aload_n hx hb dX1_toneOf_53 rfl (lv_at hl 1 rfl) ?_
        refine va_get (D := D) (ci := 1) (v := .ref (q 2)) (C := RX1) (T := TX1) (N := 8) hx hb hts inX1_toneOf_RX1 hown hK hP 0 rfl rfl 1 (by decide) (hts _ kX1_toneOf_2) (fun _ h9 => h9) rfl dX1_toneOf_54 ?_
        refine lv_iload_n hx hb dX1_toneOf_57 rfl (lv_at hl 2 rfl) ?_
        refine pc_iald hx hb hK hP 2 0 rfl rfl (k := k) (show k < 12 by omega) (by decide) dX1_toneOf_58 ?_
        refine lv_imul hx hb dX1_toneOf_59 ?_
        refine lv_iadd hx hb dX1_toneOf_60 ?_
        refine lv_iconst (v := 3) hx hb dX1_toneOf_61 (by decide) ?_
        refine lv_iload_n hx hb dX1_toneOf_62 rfl (lv_at hl 0 rfl) ?_
        refine lv_imul hx hb dX1_toneOf_63 ?_
        refine lv_iadd hx hb dX1_toneOf_64 ?_
        refine lv_aload_n hx hb dX1_toneOf_65 rfl (lv_at hl 1 rfl) ?_
        refine va_get (D := D) (ci := 1) (v := .ref (q 3)) (C := RX1) (T := TX1) (N := 8) hx hb hts inX1_toneOf_RX1 hown hK hP 0 rfl rfl 2 (by decide) (hts _ kX1_toneOf_3) (fun _ h9 => h9) rfl dX1_toneOf_66 ?_
        refine lv_iload_n hx hb dX1_toneOf_69 rfl (lv_at hl 2 rfl) ?_
        refine pc_iald hx hb hK hP 3 0 rfl rfl (k := k) (show k < 12 by omega) (by decide) dX1_toneOf_70 ?_
        refine lv_iadd hx hb dX1_toneOf_71 ?_
        refine lv_aload_n hx hb dX1_toneOf_72 rfl (lv_at hl 1 rfl) ?_
        refine va_get (D := D) (ci := 1) (v := .int (zl h)) (C := RX1) (T := TX1) (N := 8) hx hb hts inX1_toneOf_RX1 hown hK hP 0 rfl rfl 6 (by decide) (hts _ kX1_toneOf_4) (fun _ h9 => h9) rfl dX1_toneOf_73 ?_
        refine lv_isub hx hb dX1_toneOf_76 ?_
        exact W.iret (v := (((((zb h) k) + (10 * ((zw h) k))) + (3 * 0)) + ((zd h) k)) - (zl h)) hx hb hr (fun t ht hW => ⟨(((((zb h) k) + (10 * ((zw h) k))) + (3 * 0)) + ((zd h) k)) - (zl h), rfl, (by simp [tone, c6, f14, f31]), ht⟩) (fun q hq => absurd hq List.not_mem_nil) dX1_toneOf_77
      · have n31 : ¬ (11 ≤ k) := fun h9 => c31 ((nI_leI (a := 11) (b := k) (by omega) (by omega)).mpr h9)
        have f31 : k < 11 := by omega
        refine lv_iload_n hx hb dX1_toneOf_34 rfl (lv_at hl 0 rfl) ?_
        refine lv_aload_n hx hb dX1_toneOf_35 rfl (lv_at hl 1 rfl) ?_
        refine va_get (D := D) (ci := 1) (v := .ref (q 2)) (C := RX1) (T := TX1) (N := 8) hx hb hts inX1_toneOf_RX1 hown hK hP 0 rfl rfl 1 (by decide) (hts _ kX1_toneOf_2) (fun _ h9 => h9) rfl dX1_toneOf_36 ?_
        refine lv_iload_n hx hb dX1_toneOf_39 rfl (lv_at hl 2 rfl) ?_
        refine lv_iconst (v := 1) hx hb dX1_toneOf_40 (by decide) ?_
        refine lv_iadd hx hb dX1_toneOf_41 ?_
        refine pc_top (show (nI k) + 1 = nI (k + 1) from nI_add k 1) ?_
        refine pc_iald hx hb hK hP 2 0 rfl rfl (k := k + 1) (show k + 1 < 12 by omega) (by decide) dX1_toneOf_42 ?_
        refine lv_iadd hx hb dX1_toneOf_43 ?_
        refine lv_istore_n (lv' := [(2, .int (0 + ((zw h) (k + 1)))), (0, .ref (q 0)), (1, .int (nI k))]) hx hb dX1_toneOf_44 rfl hl (by decide) rfl (fun ls hl => ?_)
        refine lv_aload_n hx hb dX1_toneOf_45 rfl (lv_at hl 1 rfl) ?_
        refine va_get (D := D) (ci := 1) (v := .ref (q 1)) (C := RX1) (T := TX1) (N := 8) hx hb hts inX1_toneOf_RX1 hown hK hP 0 rfl rfl 0 (by decide) (hts _ kX1_toneOf_1) (fun _ h9 => h9) rfl dX1_toneOf_46 ?_
        refine lv_iload_n hx hb dX1_toneOf_49 rfl (lv_at hl 2 rfl) ?_
        refine pc_iald hx hb hK hP 1 0 rfl rfl (k := k) (show k < 12 by omega) (by decide) dX1_toneOf_50 ?_
        refine lv_bipush (v := 10) hx hb dX1_toneOf_51 (by decide) ?_
        refine lv_aload_n hx hb dX1_toneOf_53 rfl (lv_at hl 1 rfl) ?_
        refine va_get (D := D) (ci := 1) (v := .ref (q 2)) (C := RX1) (T := TX1) (N := 8) hx hb hts inX1_toneOf_RX1 hown hK hP 0 rfl rfl 1 (by decide) (hts _ kX1_toneOf_2) (fun _ h9 => h9) rfl dX1_toneOf_54 ?_
        refine lv_iload_n hx hb dX1_toneOf_57 rfl (lv_at hl 2 rfl) ?_
        refine pc_iald hx hb hK hP 2 0 rfl rfl (k := k) (show k < 12 by omega) (by decide) dX1_toneOf_58 ?_
        refine lv_imul hx hb dX1_toneOf_59 ?_
        refine lv_iadd hx hb dX1_toneOf_60 ?_
        refine lv_iconst (v := 3) hx hb dX1_toneOf_61 (by decide) ?_
        refine lv_iload_n hx hb dX1_toneOf_62 rfl (lv_at hl 0 rfl) ?_
        refine lv_imul hx hb dX1_toneOf_63 ?_
        refine lv_iadd hx hb dX1_toneOf_64 ?_
        refine lv_aload_n hx hb dX1_toneOf_65 rfl (lv_at hl 1 rfl) ?_
        refine va_get (D := D) (ci := 1) (v := .ref (q 3)) (C := RX1) (T := TX1) (N := 8) hx hb hts inX1_toneOf_RX1 hown hK hP 0 rfl rfl 2 (by decide) (hts _ kX1_toneOf_3) (fun _ h9 => h9) rfl dX1_toneOf_66 ?_
        refine lv_iload_n hx hb dX1_toneOf_69 rfl (lv_at hl 2 rfl) ?_
        refine pc_iald hx hb hK hP 3 0 rfl rfl (k := k) (show k < 12 by omega) (by decide) dX1_toneOf_70 ?_
        refine lv_iadd hx hb dX1_toneOf_71 ?_
        refine lv_aload_n hx hb dX1_toneOf_72 rfl (lv_at hl 1 rfl) ?_
        refine va_get (D := D) (ci := 1) (v := .int (zl h)) (C := RX1) (T := TX1) (N := 8) hx hb hts inX1_toneOf_RX1 hown hK hP 0 rfl rfl 6 (by decide) (hts _ kX1_toneOf_4) (fun _ h9 => h9) rfl dX1_toneOf_73 ?_
        refine lv_isub hx hb dX1_toneOf_76 ?_
        exact W.iret (v := (((((zb h) k) + (10 * ((zw h) k))) + (3 * (0 + ((zw h) (k + 1))))) + ((zd h) k)) - (zl h)) hx hb hr (fun t ht hW => ⟨(((((zb h) k) + (10 * ((zw h) k))) + (3 * (0 + ((zw h) (k + 1))))) + ((zd h) k)) - (zl h), rfl, (by simp [tone, c6, f14, f31]), ht⟩) (fun q hq => absurd hq List.not_mem_nil) dX1_toneOf_77
    · have n14 : ¬ (k ≤ 0) := fun h9 => c14 ((nI_leI (a := k) (b := 0) (by omega) (by omega)).mpr h9)
      have f14 : 0 < k := by omega
      refine lv_iload_n hx hb dX1_toneOf_17 rfl (lv_at hl 0 rfl) ?_
      refine lv_aload_n hx hb dX1_toneOf_18 rfl (lv_at hl 1 rfl) ?_
      refine va_get (D := D) (ci := 1) (v := .ref (q 2)) (C := RX1) (T := TX1) (N := 8) hx hb hts inX1_toneOf_RX1 hown hK hP 0 rfl rfl 1 (by decide) (hts _ kX1_toneOf_2) (fun _ h9 => h9) rfl dX1_toneOf_19 ?_
      refine lv_iload_n hx hb dX1_toneOf_22 rfl (lv_at hl 2 rfl) ?_
      refine lv_iconst (v := 1) hx hb dX1_toneOf_23 (by decide) ?_
      refine lv_isub hx hb dX1_toneOf_24 ?_
      refine pc_top (show (nI k) - 1 = nI (k - 1) from pk_sub (a := k) (b := 1) (by omega)) ?_
      refine pc_iald hx hb hK hP 2 0 rfl rfl (k := k - 1) (show k - 1 < 12 by omega) (by decide) dX1_toneOf_25 ?_
      refine lv_iadd hx hb dX1_toneOf_26 ?_
      refine lv_istore_n (lv' := [(2, .int (0 + ((zw h) (k - 1)))), (0, .ref (q 0)), (1, .int (nI k))]) hx hb dX1_toneOf_27 rfl hl (by decide) rfl (fun ls hl => ?_)
      refine lv_iload_n hx hb dX1_toneOf_28 rfl (lv_at hl 2 rfl) ?_
      refine lv_bipush (v := 11) hx hb dX1_toneOf_29 (by decide) ?_
      refine lv_icmp_ge (tgt := 45) hx hb dX1_toneOf_31 (by decide) (fun c31 => ?_) (fun c31 => ?_)
      · have n31 : 11 ≤ k := (nI_leI (a := 11) (b := k) (by omega) (by omega)).mp c31
        have f31 : ¬ (k < 11) := by omega
        refine lv_aload_n hx hb dX1_toneOf_45 rfl (lv_at hl 1 rfl) ?_
        refine va_get (D := D) (ci := 1) (v := .ref (q 1)) (C := RX1) (T := TX1) (N := 8) hx hb hts inX1_toneOf_RX1 hown hK hP 0 rfl rfl 0 (by decide) (hts _ kX1_toneOf_1) (fun _ h9 => h9) rfl dX1_toneOf_46 ?_
        refine lv_iload_n hx hb dX1_toneOf_49 rfl (lv_at hl 2 rfl) ?_
        refine pc_iald hx hb hK hP 1 0 rfl rfl (k := k) (show k < 12 by omega) (by decide) dX1_toneOf_50 ?_
        refine lv_bipush (v := 10) hx hb dX1_toneOf_51 (by decide) ?_
        refine lv_aload_n hx hb dX1_toneOf_53 rfl (lv_at hl 1 rfl) ?_
        refine va_get (D := D) (ci := 1) (v := .ref (q 2)) (C := RX1) (T := TX1) (N := 8) hx hb hts inX1_toneOf_RX1 hown hK hP 0 rfl rfl 1 (by decide) (hts _ kX1_toneOf_2) (fun _ h9 => h9) rfl dX1_toneOf_54 ?_
        refine lv_iload_n hx hb dX1_toneOf_57 rfl (lv_at hl 2 rfl) ?_
        refine pc_iald hx hb hK hP 2 0 rfl rfl (k := k) (show k < 12 by omega) (by decide) dX1_toneOf_58 ?_
        refine lv_imul hx hb dX1_toneOf_59 ?_
        refine lv_iadd hx hb dX1_toneOf_60 ?_
        refine lv_iconst (v := 3) hx hb dX1_toneOf_61 (by decide) ?_
        refine lv_iload_n hx hb dX1_toneOf_62 rfl (lv_at hl 0 rfl) ?_
        refine lv_imul hx hb dX1_toneOf_63 ?_
        refine lv_iadd hx hb dX1_toneOf_64 ?_
        refine lv_aload_n hx hb dX1_toneOf_65 rfl (lv_at hl 1 rfl) ?_
        refine va_get (D := D) (ci := 1) (v := .ref (q 3)) (C := RX1) (T := TX1) (N := 8) hx hb hts inX1_toneOf_RX1 hown hK hP 0 rfl rfl 2 (by decide) (hts _ kX1_toneOf_3) (fun _ h9 => h9) rfl dX1_toneOf_66 ?_
        refine lv_iload_n hx hb dX1_toneOf_69 rfl (lv_at hl 2 rfl) ?_
        refine pc_iald hx hb hK hP 3 0 rfl rfl (k := k) (show k < 12 by omega) (by decide) dX1_toneOf_70 ?_
        refine lv_iadd hx hb dX1_toneOf_71 ?_
        refine lv_aload_n hx hb dX1_toneOf_72 rfl (lv_at hl 1 rfl) ?_
        refine va_get (D := D) (ci := 1) (v := .int (zl h)) (C := RX1) (T := TX1) (N := 8) hx hb hts inX1_toneOf_RX1 hown hK hP 0 rfl rfl 6 (by decide) (hts _ kX1_toneOf_4) (fun _ h9 => h9) rfl dX1_toneOf_73 ?_
        refine lv_isub hx hb dX1_toneOf_76 ?_
        exact W.iret (v := (((((zb h) k) + (10 * ((zw h) k))) + (3 * (0 + ((zw h) (k - 1))))) + ((zd h) k)) - (zl h)) hx hb hr (fun t ht hW => ⟨(((((zb h) k) + (10 * ((zw h) k))) + (3 * (0 + ((zw h) (k - 1))))) + ((zd h) k)) - (zl h), rfl, (by simp [tone, c6, f14, f31]), ht⟩) (fun q hq => absurd hq List.not_mem_nil) dX1_toneOf_77
      · have n31 : ¬ (11 ≤ k) := fun h9 => c31 ((nI_leI (a := 11) (b := k) (by omega) (by omega)).mpr h9)
        have f31 : k < 11 := by omega
        refine lv_iload_n hx hb dX1_toneOf_34 rfl (lv_at hl 0 rfl) ?_
        refine lv_aload_n hx hb dX1_toneOf_35 rfl (lv_at hl 1 rfl) ?_
        refine va_get (D := D) (ci := 1) (v := .ref (q 2)) (C := RX1) (T := TX1) (N := 8) hx hb hts inX1_toneOf_RX1 hown hK hP 0 rfl rfl 1 (by decide) (hts _ kX1_toneOf_2) (fun _ h9 => h9) rfl dX1_toneOf_36 ?_
        refine lv_iload_n hx hb dX1_toneOf_39 rfl (lv_at hl 2 rfl) ?_
        refine lv_iconst (v := 1) hx hb dX1_toneOf_40 (by decide) ?_
        refine lv_iadd hx hb dX1_toneOf_41 ?_
        refine pc_top (show (nI k) + 1 = nI (k + 1) from nI_add k 1) ?_
        refine pc_iald hx hb hK hP 2 0 rfl rfl (k := k + 1) (show k + 1 < 12 by omega) (by decide) dX1_toneOf_42 ?_
        refine lv_iadd hx hb dX1_toneOf_43 ?_
        refine lv_istore_n (lv' := [(2, .int ((0 + ((zw h) (k - 1))) + ((zw h) (k + 1)))), (0, .ref (q 0)), (1, .int (nI k))]) hx hb dX1_toneOf_44 rfl hl (by decide) rfl (fun ls hl => ?_)
        refine lv_aload_n hx hb dX1_toneOf_45 rfl (lv_at hl 1 rfl) ?_
        refine va_get (D := D) (ci := 1) (v := .ref (q 1)) (C := RX1) (T := TX1) (N := 8) hx hb hts inX1_toneOf_RX1 hown hK hP 0 rfl rfl 0 (by decide) (hts _ kX1_toneOf_1) (fun _ h9 => h9) rfl dX1_toneOf_46 ?_
        refine lv_iload_n hx hb dX1_toneOf_49 rfl (lv_at hl 2 rfl) ?_
        refine pc_iald hx hb hK hP 1 0 rfl rfl (k := k) (show k < 12 by omega) (by decide) dX1_toneOf_50 ?_
        refine lv_bipush (v := 10) hx hb dX1_toneOf_51 (by decide) ?_
        refine lv_aload_n hx hb dX1_toneOf_53 rfl (lv_at hl 1 rfl) ?_
        refine va_get (D := D) (ci := 1) (v := .ref (q 2)) (C := RX1) (T := TX1) (N := 8) hx hb hts inX1_toneOf_RX1 hown hK hP 0 rfl rfl 1 (by decide) (hts _ kX1_toneOf_2) (fun _ h9 => h9) rfl dX1_toneOf_54 ?_
        refine lv_iload_n hx hb dX1_toneOf_57 rfl (lv_at hl 2 rfl) ?_
        refine pc_iald hx hb hK hP 2 0 rfl rfl (k := k) (show k < 12 by omega) (by decide) dX1_toneOf_58 ?_
        refine lv_imul hx hb dX1_toneOf_59 ?_
        refine lv_iadd hx hb dX1_toneOf_60 ?_
        refine lv_iconst (v := 3) hx hb dX1_toneOf_61 (by decide) ?_
        refine lv_iload_n hx hb dX1_toneOf_62 rfl (lv_at hl 0 rfl) ?_
        refine lv_imul hx hb dX1_toneOf_63 ?_
        refine lv_iadd hx hb dX1_toneOf_64 ?_
        refine lv_aload_n hx hb dX1_toneOf_65 rfl (lv_at hl 1 rfl) ?_
        refine va_get (D := D) (ci := 1) (v := .ref (q 3)) (C := RX1) (T := TX1) (N := 8) hx hb hts inX1_toneOf_RX1 hown hK hP 0 rfl rfl 2 (by decide) (hts _ kX1_toneOf_3) (fun _ h9 => h9) rfl dX1_toneOf_66 ?_
        refine lv_iload_n hx hb dX1_toneOf_69 rfl (lv_at hl 2 rfl) ?_
        refine pc_iald hx hb hK hP 3 0 rfl rfl (k := k) (show k < 12 by omega) (by decide) dX1_toneOf_70 ?_
        refine lv_iadd hx hb dX1_toneOf_71 ?_
        refine lv_aload_n hx hb dX1_toneOf_72 rfl (lv_at hl 1 rfl) ?_
        refine va_get (D := D) (ci := 1) (v := .int (zl h)) (C := RX1) (T := TX1) (N := 8) hx hb hts inX1_toneOf_RX1 hown hK hP 0 rfl rfl 6 (by decide) (hts _ kX1_toneOf_4) (fun _ h9 => h9) rfl dX1_toneOf_73 ?_
        refine lv_isub hx hb dX1_toneOf_76 ?_
        exact W.iret (v := (((((zb h) k) + (10 * ((zw h) k))) + (3 * ((0 + ((zw h) (k - 1))) + ((zw h) (k + 1))))) + ((zd h) k)) - (zl h)) hx hb hr (fun t ht hW => ⟨(((((zb h) k) + (10 * ((zw h) k))) + (3 * ((0 + ((zw h) (k - 1))) + ((zw h) (k + 1))))) + ((zd h) k)) - (zl h), rfl, (by simp [tone, c6, f14, f31]), ht⟩) (fun q hq => absurd hq List.not_mem_nil) dX1_toneOf_77
  · refine lv_iconst (v := 0) hx hb dX1_toneOf_9 (by decide) ?_
    exact W.iret (v := 0) hx hb hr (fun t ht hW => ⟨0, rfl, (by simp [tone, c6]), ht⟩) (fun q hq => absurd hq List.not_mem_nil) dX1_toneOf_10

theorem inX1_takesPush_RX1 : ∀ w ∈ u_ws RX1 TX1 8, w ∈ wsX1_takesPush := by decide +kernel
theorem kX1_takesPush_0 : (.fieldLink RX1 15 "WedgeHarps$Harp" "wedge" "[I" : Cond) ∈ wsX1_takesPush := by decide +kernel
set_option maxHeartbeats 4000000 in
set_option maxRecDepth 100000 in
theorem mX1_takesPush (l : Launch) (D : va_G) (cy : Nat → ClassId) (q : Nat → Nat) (h : HS) (k : Nat) (hk : k < 12) (x : Int32) : Met l yX1_takesPush wsX1_takesPush ({ frames := 0, cells := 0, slots := 0, locals := 0 } : Room) (va_Pc [.ref (q 0), .int (nI k), .int x] (fun U => va_P D vwCl (wH cy q h) U.heap ∧ va_K D vwCl (TY cy) U)) (vp_Si (fun r8 => r8 = bI (fitsW (zw h k + x)))) 0 0 (fun _ => False) := by
  refine Met.ofW (cc := cX1_takesPush) (maxL := 4) (ret := (some .boolean)) (by decide) rfl ?_
  intro p e s m args below meth c s₁ B hml hv
  obtain ⟨rfl, hP, hK⟩ := hv
  have hx := B.exec
  have hb := B.bytes
  have hr := B.returns
  have hts := atoms_spec (ws := wsX1_takesPush) B.pre
  have hown : s.vm.findClass RX1 = some m.cls := findClass_of_methodNamed B.named
  have hlocks := B.notSynchronized
  have hl := lv_entry ([.ref (q 0), .int (nI k), .int x]) (n := 4) (Nat.le_of_ble_eq_true rfl)
  rw [lg_entry_eq]
  generalize (lg_sl ([.ref (q 0), .int (nI k), .int x]) ++ List.replicate (4 - (lg_sl ([.ref (q 0), .int (nI k), .int x])).length) Slot.unset).toArray = ls at hl ⊢
  have hl : lv_has ls 4 [(0, .ref (q 0)), (1, .int (nI k)), (2, .int x)] := hl
  refine lv_aload_n hx hb dX1_takesPush_0 rfl (lv_at hl 0 rfl) ?_
  refine va_get (D := D) (ci := 1) (v := .ref (q 2)) (C := RX1) (T := TX1) (N := 8) hx hb hts inX1_takesPush_RX1 hown hK hP 0 rfl rfl 1 (by decide) (hts _ kX1_takesPush_0) (fun _ h9 => h9) rfl dX1_takesPush_1 ?_
  refine lv_iload_n hx hb dX1_takesPush_4 rfl (lv_at hl 1 rfl) ?_
  refine pc_iald hx hb hK hP 2 0 rfl rfl (k := k) (show k < 12 by omega) (by decide) dX1_takesPush_5 ?_
  refine lv_iload_n hx hb dX1_takesPush_6 rfl (lv_at hl 2 rfl) ?_
  refine lv_iadd hx hb dX1_takesPush_7 ?_
  refine lv_istore_n (lv' := [(3, .int (((zw h) k) + x)), (0, .ref (q 0)), (1, .int (nI k)), (2, .int x)]) hx hb dX1_takesPush_8 rfl hl (by decide) rfl (fun ls hl => ?_)
  refine lv_iload_n hx hb dX1_takesPush_9 rfl (lv_at hl 0 rfl) ?_
  refine lv_if_lt (tgt := 23) hx hb dX1_takesPush_10 (by decide) (fun c10 => ?_) (fun c10 => ?_)
  · refine lv_iconst (v := 0) hx hb dX1_takesPush_23 (by decide) ?_
    exact W.zret (v := 0) hx hb hr (by decide) (fun t ht hW => ⟨0, rfl, (by simp [bI, fitsW, c10]), ht⟩) (fun q hq => absurd hq List.not_mem_nil) dX1_takesPush_24
  · refine lv_iload_n hx hb dX1_takesPush_13 rfl (lv_at hl 0 rfl) ?_
    refine lv_bipush (v := 20) hx hb dX1_takesPush_14 (by decide) ?_
    refine lv_icmp_gt (tgt := 23) hx hb dX1_takesPush_16 (by decide) (fun c16 => ?_) (fun c16 => ?_)
    · refine lv_iconst (v := 0) hx hb dX1_takesPush_23 (by decide) ?_
      exact W.zret (v := 0) hx hb hr (by decide) (fun t ht hW => ⟨0, rfl, (by simp [bI, fitsW, c10, c16]), ht⟩) (fun q hq => absurd hq List.not_mem_nil) dX1_takesPush_24
    · refine lv_iconst (v := 1) hx hb dX1_takesPush_19 (by decide) ?_
      refine lv_goto (tgt := 24) hx hb dX1_takesPush_20 (by decide) ?_
      exact W.zret (v := 1) hx hb hr (by decide) (fun t ht hW => ⟨1, rfl, (by simp [bI, fitsW, c10, c16]), ht⟩) (fun q hq => absurd hq List.not_mem_nil) dX1_takesPush_24

theorem inX1_factOf_RX1 : ∀ w ∈ u_ws RX1 TX1 8, w ∈ wsX1_factOf := by decide +kernel
theorem kX1_factOf_0 : (.fieldLink RX1 9 "WedgeHarps$Harp" "base" "[I" : Cond) ∈ wsX1_factOf := by decide +kernel
theorem kX1_factOf_1 : (.fieldLink RX1 15 "WedgeHarps$Harp" "wedge" "[I" : Cond) ∈ wsX1_factOf := by decide +kernel
theorem kX1_factOf_2 : (.fieldLink RX1 18 "WedgeHarps$Harp" "drift" "[I" : Cond) ∈ wsX1_factOf := by decide +kernel
theorem kX1_factOf_3 : (.fieldLink RX1 21 "WedgeHarps$Harp" "strain" "[I" : Cond) ∈ wsX1_factOf := by decide +kernel
theorem kX1_factOf_4 : (.fieldLink RX1 27 "WedgeHarps$Harp" "whole" "[Z" : Cond) ∈ wsX1_factOf := by decide +kernel
theorem kX1_factOf_5 : (.fieldLink RX1 24 "WedgeHarps$Harp" "breaks" "[I" : Cond) ∈ wsX1_factOf := by decide +kernel
set_option maxHeartbeats 4000000 in
set_option maxRecDepth 100000 in
theorem mX1_factOf (l : Launch) (D : va_G) (cy : Nat → ClassId) (q : Nat → Nat) (h : HS) (k : Nat) (hk : k < 12) (w : Nat) (hw : w < 7) (ho : ok01 h) : Met l yX1_factOf wsX1_factOf ({ frames := 1, cells := 0, slots := 0, locals := 22 } : Room) (va_Pc [.ref (q 0), .int (nI k), .int (nI w)] (fun U => va_P D vwCl (wH cy q h) U.heap ∧ va_K D vwCl (TY cy) U)) (vp_Si (fun r8 => r8 = factH h k w)) 0 0 (fun _ => False) := by
  refine Met.ofW (cc := cX1_factOf) (maxL := 3) (ret := (some .int)) (by decide) rfl ?_
  intro p e s m args below meth c s₁ B hml hv
  obtain ⟨rfl, hP, hK⟩ := hv
  have hx := B.exec
  have hb := B.bytes
  have hr := B.returns
  have hts := atoms_spec (ws := wsX1_factOf) B.pre
  have hown : s.vm.findClass RX1 = some m.cls := findClass_of_methodNamed B.named
  have hlocks := B.notSynchronized
  have hl := lv_entry ([.ref (q 0), .int (nI k), .int (nI w)]) (n := 3) (Nat.le_of_ble_eq_true rfl)
  rw [lg_entry_eq]
  generalize (lg_sl ([.ref (q 0), .int (nI k), .int (nI w)]) ++ List.replicate (3 - (lg_sl ([.ref (q 0), .int (nI k), .int (nI w)])).length) Slot.unset).toArray = ls at hl ⊢
  have hl : lv_has ls 3 [(0, .ref (q 0)), (1, .int (nI k)), (2, .int (nI w))] := hl
  refine lv_iload_n hx hb dX1_factOf_0 rfl (lv_at hl 2 rfl) ?_
  rcases (show w = 0 ∨ w = 1 ∨ w = 2 ∨ w = 3 ∨ w = 4 ∨ w = 5 ∨ w = 6 by omega) with rfl | rfl | rfl | rfl | rfl | rfl | rfl
  ·
    refine lv_tableIn (off := 39) (tgt := 40) hx hb dX1_factOf_1 (by decide) (by decide) rfl (by decide) ?_
    refine lv_aload_n hx hb dX1_factOf_40 rfl (lv_at hl 0 rfl) ?_
    refine va_get (D := D) (ci := 1) (v := .ref (q 1)) (C := RX1) (T := TX1) (N := 8) hx hb hts inX1_factOf_RX1 hown hK hP 0 rfl rfl 0 (by decide) (hts _ kX1_factOf_0) (fun _ h9 => h9) rfl dX1_factOf_41 ?_
    refine lv_iload_n hx hb dX1_factOf_44 rfl (lv_at hl 1 rfl) ?_
    refine pc_iald hx hb hK hP 1 0 rfl rfl (k := k) (show k < 12 by omega) (by decide) dX1_factOf_45 ?_
    exact W.iret (v := (zb h) k) hx hb hr (fun t ht hW => ⟨(zb h) k, rfl, rfl, ht⟩) (fun q hq => absurd hq List.not_mem_nil) dX1_factOf_46
  ·
    refine lv_tableIn (off := 46) (tgt := 47) hx hb dX1_factOf_1 (by decide) (by decide) rfl (by decide) ?_
    refine lv_aload_n hx hb dX1_factOf_47 rfl (lv_at hl 0 rfl) ?_
    refine va_get (D := D) (ci := 1) (v := .ref (q 2)) (C := RX1) (T := TX1) (N := 8) hx hb hts inX1_factOf_RX1 hown hK hP 0 rfl rfl 1 (by decide) (hts _ kX1_factOf_1) (fun _ h9 => h9) rfl dX1_factOf_48 ?_
    refine lv_iload_n hx hb dX1_factOf_51 rfl (lv_at hl 1 rfl) ?_
    refine pc_iald hx hb hK hP 2 0 rfl rfl (k := k) (show k < 12 by omega) (by decide) dX1_factOf_52 ?_
    exact W.iret (v := (zw h) k) hx hb hr (fun t ht hW => ⟨(zw h) k, rfl, rfl, ht⟩) (fun q hq => absurd hq List.not_mem_nil) dX1_factOf_53
  ·
    refine lv_tableIn (off := 53) (tgt := 54) hx hb dX1_factOf_1 (by decide) (by decide) rfl (by decide) ?_
    refine lv_aload_n hx hb dX1_factOf_54 rfl (lv_at hl 0 rfl) ?_
    refine va_get (D := D) (ci := 1) (v := .ref (q 3)) (C := RX1) (T := TX1) (N := 8) hx hb hts inX1_factOf_RX1 hown hK hP 0 rfl rfl 2 (by decide) (hts _ kX1_factOf_2) (fun _ h9 => h9) rfl dX1_factOf_55 ?_
    refine lv_iload_n hx hb dX1_factOf_58 rfl (lv_at hl 1 rfl) ?_
    refine pc_iald hx hb hK hP 3 0 rfl rfl (k := k) (show k < 12 by omega) (by decide) dX1_factOf_59 ?_
    exact W.iret (v := (zd h) k) hx hb hr (fun t ht hW => ⟨(zd h) k, rfl, rfl, ht⟩) (fun q hq => absurd hq List.not_mem_nil) dX1_factOf_60
  ·
    refine lv_tableIn (off := 60) (tgt := 61) hx hb dX1_factOf_1 (by decide) (by decide) rfl (by decide) ?_
    refine lv_aload_n hx hb dX1_factOf_61 rfl (lv_at hl 0 rfl) ?_
    refine va_get (D := D) (ci := 1) (v := .ref (q 4)) (C := RX1) (T := TX1) (N := 8) hx hb hts inX1_factOf_RX1 hown hK hP 0 rfl rfl 3 (by decide) (hts _ kX1_factOf_3) (fun _ h9 => h9) rfl dX1_factOf_62 ?_
    refine lv_iload_n hx hb dX1_factOf_65 rfl (lv_at hl 1 rfl) ?_
    refine pc_iald hx hb hK hP 4 0 rfl rfl (k := k) (show k < 12 by omega) (by decide) dX1_factOf_66 ?_
    exact W.iret (v := (zs h) k) hx hb hr (fun t ht hW => ⟨(zs h) k, rfl, rfl, ht⟩) (fun q hq => absurd hq List.not_mem_nil) dX1_factOf_67
  ·
    refine lv_tableIn (off := 67) (tgt := 68) hx hb dX1_factOf_1 (by decide) (by decide) rfl (by decide) ?_
    refine lv_aload_n hx hb dX1_factOf_68 rfl (lv_at hl 0 rfl) ?_
    refine va_get (D := D) (ci := 1) (v := .ref (q 6)) (C := RX1) (T := TX1) (N := 8) hx hb hts inX1_factOf_RX1 hown hK hP 0 rfl rfl 5 (by decide) (hts _ kX1_factOf_4) (fun _ h9 => h9) rfl dX1_factOf_69 ?_
    refine lv_iload_n hx hb dX1_factOf_72 rfl (lv_at hl 1 rfl) ?_
    refine pc_zald hx hb hK hP 6 1 rfl rfl (k := k) (show k < 12 by omega) (by decide) dX1_factOf_73 ?_
    refine lv_if_eq (tgt := 81) hx hb dX1_factOf_74 (by decide) (fun c74 => ?_) (fun c74 => ?_)
    · have o74 := ho k hk
      refine lv_iconst (v := 0) hx hb dX1_factOf_81 (by decide) ?_
      exact W.iret (v := 0) hx hb hr (fun t ht hW => ⟨0, rfl, (by rcases o74 with o | o <;> simp_all [factH]), ht⟩) (fun q hq => absurd hq List.not_mem_nil) dX1_factOf_82
    · have o74 := ho k hk
      refine lv_iconst (v := 1) hx hb dX1_factOf_77 (by decide) ?_
      refine lv_goto (tgt := 82) hx hb dX1_factOf_78 (by decide) ?_
      exact W.iret (v := 1) hx hb hr (fun t ht hW => ⟨1, rfl, (by rcases o74 with o | o <;> simp_all [factH]), ht⟩) (fun q hq => absurd hq List.not_mem_nil) dX1_factOf_82
  ·
    refine lv_tableIn (off := 82) (tgt := 83) hx hb dX1_factOf_1 (by decide) (by decide) rfl (by decide) ?_
    refine lv_aload_n hx hb dX1_factOf_83 rfl (lv_at hl 0 rfl) ?_
    refine lv_iload_n hx hb dX1_factOf_84 rfl (lv_at hl 1 rfl) ?_
    refine pc_calli (va_runV (As := [.int (nI k)]) (rest := []) ⟨hx, hb, hml, hown, hts⟩ (mX1_toneOf l D cy q h k hk) (cwV 1 hts gX1_factOf_X1_toneOf rfl rfl rfl (by decide +kernel) ⟨Nat.le_of_ble_eq_true rfl, Nat.le_of_ble_eq_true rfl⟩) ⟨fun a U g mk q => ⟨q.1, q.2.1, va_K.moved (u := U) (U := U.calling g mk a) (Vm.Alike.refl U.vm) q.2.2⟩, va_recv hK hP (ci := 1) (q0 := 0) rfl rfl, fun U hU hW => ⟨rfl, by rw [hU]; exact hP, va_K.moved hW.alike hK⟩⟩ rfl rfl hl.1 rfl (lv_room (Nat.le_of_ble_eq_true rfl)) dX1_factOf_85 ⟨Nat.le_of_ble_eq_true rfl, Nat.le_of_ble_eq_true rfl⟩) (fun r9 hr9 => ?_)
    subst hr9
    exact W.iret (v := tone h k) hx hb hr (fun t ht hW => ⟨tone h k, rfl, rfl, ht⟩) (fun q hq => absurd hq List.not_mem_nil) dX1_factOf_88
  ·
    refine lv_tableOut (tgt := 89) hx hb dX1_factOf_1 (by first | exact Or.inl (by decide) | exact Or.inr (by decide)) (by decide) ?_
    refine lv_aload_n hx hb dX1_factOf_89 rfl (lv_at hl 0 rfl) ?_
    refine va_get (D := D) (ci := 1) (v := .ref (q 5)) (C := RX1) (T := TX1) (N := 8) hx hb hts inX1_factOf_RX1 hown hK hP 0 rfl rfl 4 (by decide) (hts _ kX1_factOf_5) (fun _ h9 => h9) rfl dX1_factOf_90 ?_
    refine lv_iload_n hx hb dX1_factOf_93 rfl (lv_at hl 1 rfl) ?_
    refine pc_iald hx hb hK hP 5 0 rfl rfl (k := k) (show k < 12 by omega) (by decide) dX1_factOf_94 ?_
    exact W.iret (v := (zr h) k) hx hb hr (fun t ht hW => ⟨(zr h) k, rfl, rfl, ht⟩) (fun q hq => absurd hq List.not_mem_nil) dX1_factOf_95

theorem inX1_wholeStrings_RX1 : ∀ w ∈ u_ws RX1 TX1 8, w ∈ wsX1_wholeStrings := by decide +kernel
theorem kX1_wholeStrings_0 : (.fieldLink RX1 27 "WedgeHarps$Harp" "whole" "[Z" : Cond) ∈ wsX1_wholeStrings := by decide +kernel
set_option maxHeartbeats 4000000 in
set_option maxRecDepth 100000 in
theorem mX1_wholeStrings (l : Launch) (D : va_G) (cy : Nat → ClassId) (q : Nat → Nat) (h : HS) (ho : ok01 h) : Met l yX1_wholeStrings wsX1_wholeStrings ({ frames := 0, cells := 0, slots := 0, locals := 0 } : Room) (va_Pc [.ref (q 0)] (fun U => va_P D vwCl (wH cy q h) U.heap ∧ va_K D vwCl (TY cy) U)) (vp_Si (fun r8 => r8 = sumN (zo h) 12)) 0 0 (fun _ => False) := by
  refine Met.ofW (cc := cX1_wholeStrings) (maxL := 3) (ret := (some .int)) (by decide) rfl ?_
  intro p e s m args below meth c s₁ B hml hv
  obtain ⟨rfl, hP, hK⟩ := hv
  have hx := B.exec
  have hb := B.bytes
  have hr := B.returns
  have hts := atoms_spec (ws := wsX1_wholeStrings) B.pre
  have hown : s.vm.findClass RX1 = some m.cls := findClass_of_methodNamed B.named
  have hlocks := B.notSynchronized
  have hl := lv_entry ([.ref (q 0)]) (n := 3) (Nat.le_of_ble_eq_true rfl)
  rw [lg_entry_eq]
  generalize (lg_sl ([.ref (q 0)]) ++ List.replicate (3 - (lg_sl ([.ref (q 0)])).length) Slot.unset).toArray = ls at hl ⊢
  have hl : lv_has ls 3 [(0, .ref (q 0))] := hl
  refine lv_iconst (v := 0) hx hb dX1_wholeStrings_0 (by decide) ?_
  refine lv_istore_n (lv' := [(1, .int 0), (0, .ref (q 0))]) hx hb dX1_wholeStrings_1 rfl hl (by decide) rfl (fun ls hl => ?_)
  refine lv_iconst (v := 0) hx hb dX1_wholeStrings_2 (by decide) ?_
  refine lv_istore_n (lv' := [(2, .int 0), (1, .int 0), (0, .ref (q 0))]) hx hb dX1_wholeStrings_3 rfl hl (by decide) rfl (fun ls hl => ?_)
  have loop4 : ∀ (n9 : Nat) (k : Nat), k ≤ 12 → 12 - k < n9 → ∀ ls : Array Slot, lv_has ls 3 [(0, .ref (q 0)), (1, .int (sumN (zo h) k)), (2, .int (nI k))] → W p l e (headSpec wsX1_wholeStrings ({ frames := 0, cells := 0, slots := 0, locals := 0 } : Room)).room s m ([.ref (q 0)] : List Value).toArray below meth c s.heap [] 0 0 (MQ below (vp_Si (fun r8 => r8 = sumN (zo h) 12)) ([.ref (q 0)] : List Value).toArray s 0 0 (fun _ => False)) (F0 m 4 ls []) := by
    intro n9
    induction n9 with
    | zero => intro k hk h9 ls hl; exact absurd h9 (by omega)
    | succ n9 ih4 =>
      intro k hk h9 ls hl
      refine lv_iload_n hx hb dX1_wholeStrings_4 rfl (lv_at hl 2 rfl) ?_
      refine lv_bipush (v := 12) hx hb dX1_wholeStrings_5 (by decide) ?_
      refine lv_icmp_ge (tgt := 28) hx hb dX1_wholeStrings_7 (by decide) (fun c7 => ?_) (fun c7 => ?_)
      · have n7 : 12 ≤ k := (nI_leI (a := 12) (b := k) (by omega) (by omega)).mp c7
        refine lv_iload_n hx hb dX1_wholeStrings_28 rfl (lv_at hl 1 rfl) ?_
        exact W.iret (v := sumN (zo h) k) hx hb hr (fun t ht hW => ⟨sumN (zo h) k, rfl, (by rw [show k = 12 by omega]), ht⟩) (fun q hq => absurd hq List.not_mem_nil) dX1_wholeStrings_29
      · have n7 : ¬ (12 ≤ k) := fun h9 => c7 ((nI_leI (a := 12) (b := k) (by omega) (by omega)).mpr h9)
        refine lv_aload_n hx hb dX1_wholeStrings_10 rfl (lv_at hl 0 rfl) ?_
        refine va_get (D := D) (ci := 1) (v := .ref (q 6)) (C := RX1) (T := TX1) (N := 8) hx hb hts inX1_wholeStrings_RX1 hown hK hP 0 rfl rfl 5 (by decide) (hts _ kX1_wholeStrings_0) (fun _ h9 => h9) rfl dX1_wholeStrings_11 ?_
        refine lv_iload_n hx hb dX1_wholeStrings_14 rfl (lv_at hl 2 rfl) ?_
        refine pc_zald hx hb hK hP 6 1 rfl rfl (k := k) (show k < 12 by omega) (by decide) dX1_wholeStrings_15 ?_
        refine lv_if_eq (tgt := 22) hx hb dX1_wholeStrings_16 (by decide) (fun c16 => ?_) (fun c16 => ?_)
        · have r9 : sumN (zo h) k = sumN (zo h) (k + 1) := (by simp [sumN, c16])
          rw [r9] at hl
          clear r9
          refine lv_iinc (v := nI (k + 1)) (lv' := [(2, .int (nI (k + 1))), (0, .ref (q 0)), (1, .int (sumN (zo h) (k + 1)))]) hx hb dX1_wholeStrings_22 hl (k := 2) rfl ((show (nI k) + Int32.ofInt 1 = (nI k) + 1 from rfl).trans (show (nI k) + 1 = nI (k + 1) from nI_add k 1)) (by decide) rfl (fun ls hl => ?_)
          refine lv_goto (tgt := 4) hx hb dX1_wholeStrings_25 (by decide) ?_
          exact ih4 (k + 1) (by omega) (by omega) ls (lv_sub hl [1, 2, 0] rfl)
        · refine lv_iinc (v := (sumN (zo h) k) + 1) (lv' := [(1, .int ((sumN (zo h) k) + 1)), (0, .ref (q 0)), (2, .int (nI k))]) hx hb dX1_wholeStrings_19 hl (k := 1) rfl rfl (by decide) rfl (fun ls hl => ?_)
          have r9 : (sumN (zo h) k) + 1 = sumN (zo h) (k + 1) := (by simp [sumN, (ho k (by omega)).resolve_left c16])
          rw [r9] at hl
          clear r9
          refine lv_iinc (v := nI (k + 1)) (lv' := [(2, .int (nI (k + 1))), (1, .int (sumN (zo h) (k + 1))), (0, .ref (q 0))]) hx hb dX1_wholeStrings_22 hl (k := 2) rfl ((show (nI k) + Int32.ofInt 1 = (nI k) + 1 from rfl).trans (show (nI k) + 1 = nI (k + 1) from nI_add k 1)) (by decide) rfl (fun ls hl => ?_)
          refine lv_goto (tgt := 4) hx hb dX1_wholeStrings_25 (by decide) ?_
          exact ih4 (k + 1) (by omega) (by omega) ls (lv_sub hl [2, 1, 0] rfl)
  exact loop4 (12 + 1) 0 (by decide) (by omega) ls (lv_sub hl [2, 1, 0] rfl)

set_option maxHeartbeats 4000000 in
set_option maxRecDepth 100000 in
theorem mX1_sumOfTones (l : Launch) (D : va_G) (cy : Nat → ClassId) (q : Nat → Nat) (h : HS) : Met l yX1_sumOfTones wsX1_sumOfTones ({ frames := 1, cells := 0, slots := 0, locals := 22 } : Room) (va_Pc [.ref (q 0)] (fun U => va_P D vwCl (wH cy q h) U.heap ∧ va_K D vwCl (TY cy) U)) (vp_Si (fun r8 => r8 = sumN (tone h) 12)) 0 0 (fun _ => False) := by
  refine Met.ofW (cc := cX1_sumOfTones) (maxL := 3) (ret := (some .int)) (by decide) rfl ?_
  intro p e s m args below meth c s₁ B hml hv
  obtain ⟨rfl, hP, hK⟩ := hv
  have hx := B.exec
  have hb := B.bytes
  have hr := B.returns
  have hts := atoms_spec (ws := wsX1_sumOfTones) B.pre
  have hown : s.vm.findClass RX1 = some m.cls := findClass_of_methodNamed B.named
  have hlocks := B.notSynchronized
  have hl := lv_entry ([.ref (q 0)]) (n := 3) (Nat.le_of_ble_eq_true rfl)
  rw [lg_entry_eq]
  generalize (lg_sl ([.ref (q 0)]) ++ List.replicate (3 - (lg_sl ([.ref (q 0)])).length) Slot.unset).toArray = ls at hl ⊢
  have hl : lv_has ls 3 [(0, .ref (q 0))] := hl
  refine lv_iconst (v := 0) hx hb dX1_sumOfTones_0 (by decide) ?_
  refine lv_istore_n (lv' := [(1, .int 0), (0, .ref (q 0))]) hx hb dX1_sumOfTones_1 rfl hl (by decide) rfl (fun ls hl => ?_)
  refine lv_iconst (v := 0) hx hb dX1_sumOfTones_2 (by decide) ?_
  refine lv_istore_n (lv' := [(2, .int 0), (1, .int 0), (0, .ref (q 0))]) hx hb dX1_sumOfTones_3 rfl hl (by decide) rfl (fun ls hl => ?_)
  have loop4 : ∀ (n9 : Nat) (k : Nat), k ≤ 12 → 12 - k < n9 → ∀ ls : Array Slot, lv_has ls 3 [(0, .ref (q 0)), (1, .int (sumN (tone h) k)), (2, .int (nI k))] → W p l e (headSpec wsX1_sumOfTones ({ frames := 1, cells := 0, slots := 0, locals := 22 } : Room)).room s m ([.ref (q 0)] : List Value).toArray below meth c s.heap [] 0 0 (MQ below (vp_Si (fun r8 => r8 = sumN (tone h) 12)) ([.ref (q 0)] : List Value).toArray s 0 0 (fun _ => False)) (F0 m 4 ls []) := by
    intro n9
    induction n9 with
    | zero => intro k hk h9 ls hl; exact absurd h9 (by omega)
    | succ n9 ih4 =>
      intro k hk h9 ls hl
      refine lv_iload_n hx hb dX1_sumOfTones_4 rfl (lv_at hl 2 rfl) ?_
      refine lv_bipush (v := 12) hx hb dX1_sumOfTones_5 (by decide) ?_
      refine lv_icmp_ge (tgt := 24) hx hb dX1_sumOfTones_7 (by decide) (fun c7 => ?_) (fun c7 => ?_)
      · have n7 : 12 ≤ k := (nI_leI (a := 12) (b := k) (by omega) (by omega)).mp c7
        refine lv_iload_n hx hb dX1_sumOfTones_24 rfl (lv_at hl 1 rfl) ?_
        exact W.iret (v := sumN (tone h) k) hx hb hr (fun t ht hW => ⟨sumN (tone h) k, rfl, (by rw [show k = 12 by omega]), ht⟩) (fun q hq => absurd hq List.not_mem_nil) dX1_sumOfTones_25
      · have n7 : ¬ (12 ≤ k) := fun h9 => c7 ((nI_leI (a := 12) (b := k) (by omega) (by omega)).mpr h9)
        refine lv_iload_n hx hb dX1_sumOfTones_10 rfl (lv_at hl 1 rfl) ?_
        refine lv_aload_n hx hb dX1_sumOfTones_11 rfl (lv_at hl 0 rfl) ?_
        refine lv_iload_n hx hb dX1_sumOfTones_12 rfl (lv_at hl 2 rfl) ?_
        refine pc_calli (va_runV (As := [.int (nI k)]) (rest := [.int (sumN (tone h) k)]) ⟨hx, hb, hml, hown, hts⟩ (mX1_toneOf l D cy q h k (by omega)) (cwV 1 hts gX1_sumOfTones_X1_toneOf rfl rfl rfl (by decide +kernel) ⟨Nat.le_of_ble_eq_true rfl, Nat.le_of_ble_eq_true rfl⟩) ⟨fun a U g mk q => ⟨q.1, q.2.1, va_K.moved (u := U) (U := U.calling g mk a) (Vm.Alike.refl U.vm) q.2.2⟩, va_recv hK hP (ci := 1) (q0 := 0) rfl rfl, fun U hU hW => ⟨rfl, by rw [hU]; exact hP, va_K.moved hW.alike hK⟩⟩ rfl rfl hl.1 rfl (lv_room (Nat.le_of_ble_eq_true rfl)) dX1_sumOfTones_13 ⟨Nat.le_of_ble_eq_true rfl, Nat.le_of_ble_eq_true rfl⟩) (fun r9 hr9 => ?_)
        subst hr9
        refine lv_iadd hx hb dX1_sumOfTones_16 ?_
        refine lv_istore_n (lv' := [(1, .int ((sumN (tone h) k) + (tone h k))), (0, .ref (q 0)), (2, .int (nI k))]) hx hb dX1_sumOfTones_17 rfl hl (by decide) rfl (fun ls hl => ?_)
        refine lv_iinc (v := nI (k + 1)) (lv' := [(2, .int (nI (k + 1))), (1, .int ((sumN (tone h) k) + (tone h k))), (0, .ref (q 0))]) hx hb dX1_sumOfTones_18 hl (k := 2) rfl ((show (nI k) + Int32.ofInt 1 = (nI k) + 1 from rfl).trans (show (nI k) + 1 = nI (k + 1) from nI_add k 1)) (by decide) rfl (fun ls hl => ?_)
        refine lv_goto (tgt := 4) hx hb dX1_sumOfTones_21 (by decide) ?_
        exact ih4 (k + 1) (by omega) (by omega) ls (lv_sub hl [2, 1, 0] rfl)
  exact loop4 (12 + 1) 0 (by decide) (by omega) ls (lv_sub hl [2, 1, 0] rfl)

theorem inX1_distanceFrom_RX0 : ∀ w ∈ u_ws RX0 TX0 3, w ∈ wsX1_distanceFrom := by decide +kernel
theorem kX1_distanceFrom_0 : (.fieldLink RX1 42 "WedgeHarps$Chord" "size" "I" : Cond) ∈ wsX1_distanceFrom := by decide +kernel
theorem kX1_distanceFrom_1 : (.fieldLink RX1 47 "WedgeHarps$Chord" "lowest" "I" : Cond) ∈ wsX1_distanceFrom := by decide +kernel
theorem kX1_distanceFrom_2 : (.fieldLink RX1 50 "WedgeHarps$Chord" "tones" "[I" : Cond) ∈ wsX1_distanceFrom := by decide +kernel
theorem kX1_distanceFrom_3 : (.methodLink RX1 53 Lib.Math.abs.name : Cond) ∈ wsX1_distanceFrom := by decide +kernel
theorem kX1_distanceFrom_4 : (.static Lib.Math.abs.name : Cond) ∈ wsX1_distanceFrom := by decide +kernel
theorem kX1_distanceFrom_5 : (.initialized "java/lang/Math" : Cond) ∈ wsX1_distanceFrom := by decide +kernel
theorem kX1_distanceFrom_6 : (.code Lib.Math.abs.name Lib.Math.abs.code 1 (some .int) : Cond) ∈ wsX1_distanceFrom := by decide +kernel
set_option maxHeartbeats 4000000 in
set_option maxRecDepth 100000 in
theorem mX1_distanceFrom (l : Launch) (D : va_G) (cy : Nat → ClassId) (q : Nat → Nat) (h : HS) (ca ta lo sz : Nat) (tn : Nat → Int32) (hls : lo + sz ≤ 12) (hs4 : sz ≤ 4) : Met l yX1_distanceFrom wsX1_distanceFrom ({ frames := 1, cells := 0, slots := 0, locals := 22 } : Room) (va_Pc [.ref (q 0), .ref ca] (fun U => va_P D vwCl (wH cy q h ++ wC cy ca ta lo sz tn) U.heap ∧ va_K D vwCl (TY cy) U)) (vp_Si (fun r8 => r8 = offBy h lo tn sz)) 0 0 (fun _ => False) := by
  refine Met.ofW (cc := cX1_distanceFrom) (maxL := 4) (ret := (some .int)) (by decide) rfl ?_
  intro p e s m args below meth c s₁ B hml hv
  obtain ⟨rfl, hP, hK⟩ := hv
  have hx := B.exec
  have hb := B.bytes
  have hr := B.returns
  have hts := atoms_spec (ws := wsX1_distanceFrom) B.pre
  have hown : s.vm.findClass RX1 = some m.cls := findClass_of_methodNamed B.named
  have hlocks := B.notSynchronized
  have hl := lv_entry ([.ref (q 0), .ref ca]) (n := 4) (Nat.le_of_ble_eq_true rfl)
  rw [lg_entry_eq]
  generalize (lg_sl ([.ref (q 0), .ref ca]) ++ List.replicate (4 - (lg_sl ([.ref (q 0), .ref ca])).length) Slot.unset).toArray = ls at hl ⊢
  have hl : lv_has ls 4 [(0, .ref (q 0)), (1, .ref ca)] := hl
  refine lv_iconst (v := 0) hx hb dX1_distanceFrom_0 (by decide) ?_
  refine lv_istore_n (lv' := [(2, .int 0), (0, .ref (q 0)), (1, .ref ca)]) hx hb dX1_distanceFrom_1 rfl hl (by decide) rfl (fun ls hl => ?_)
  refine lv_iconst (v := 0) hx hb dX1_distanceFrom_2 (by decide) ?_
  refine lv_istore_n (lv' := [(3, .int 0), (2, .int 0), (0, .ref (q 0)), (1, .ref ca)]) hx hb dX1_distanceFrom_3 rfl hl (by decide) rfl (fun ls hl => ?_)
  have loop4 : ∀ (n9 : Nat) (k : Nat), k ≤ sz → sz - k < n9 → ∀ ls : Array Slot, lv_has ls 4 [(0, .ref (q 0)), (1, .ref ca), (2, .int (offBy h lo tn k)), (3, .int (nI k))] → W p l e (headSpec wsX1_distanceFrom ({ frames := 1, cells := 0, slots := 0, locals := 22 } : Room)).room s m ([.ref (q 0), .ref ca] : List Value).toArray below meth c s.heap [] 0 0 (MQ below (vp_Si (fun r8 => r8 = offBy h lo tn sz)) ([.ref (q 0), .ref ca] : List Value).toArray s 0 0 (fun _ => False)) (F0 m 4 ls []) := by
    intro n9
    induction n9 with
    | zero => intro k hk h9 ls hl; exact absurd h9 (by omega)
    | succ n9 ih4 =>
      intro k hk h9 ls hl
      refine lv_iload_n hx hb dX1_distanceFrom_4 rfl (lv_at hl 3 rfl) ?_
      refine lv_aload_n hx hb dX1_distanceFrom_5 rfl (lv_at hl 1 rfl) ?_
      refine va_get (D := D) (ci := 0) (v := .int (nI sz)) (C := RX0) (T := TX0) (N := 3) hx hb hts inX1_distanceFrom_RX0 hown hK hP 7 rfl rfl 2 (by decide) (hts _ kX1_distanceFrom_0) (fun _ h9 => h9) rfl dX1_distanceFrom_6 ?_
      refine lv_icmp_ge (tgt := 41) hx hb dX1_distanceFrom_9 (by decide) (fun c9 => ?_) (fun c9 => ?_)
      · have n9 : sz ≤ k := (nI_leI (a := sz) (b := k) (by omega) (by omega)).mp c9
        refine lv_iload_n hx hb dX1_distanceFrom_41 rfl (lv_at hl 2 rfl) ?_
        exact W.iret (v := offBy h lo tn k) hx hb hr (fun t ht hW => ⟨offBy h lo tn k, rfl, (by rw [show k = sz by omega]), ht⟩) (fun q hq => absurd hq List.not_mem_nil) dX1_distanceFrom_42
      · have n9 : ¬ (sz ≤ k) := fun h9 => c9 ((nI_leI (a := sz) (b := k) (by omega) (by omega)).mpr h9)
        refine lv_iload_n hx hb dX1_distanceFrom_12 rfl (lv_at hl 2 rfl) ?_
        refine lv_aload_n hx hb dX1_distanceFrom_13 rfl (lv_at hl 0 rfl) ?_
        refine lv_aload_n hx hb dX1_distanceFrom_14 rfl (lv_at hl 1 rfl) ?_
        refine va_get (D := D) (ci := 0) (v := .int (nI lo)) (C := RX0) (T := TX0) (N := 3) hx hb hts inX1_distanceFrom_RX0 hown hK hP 7 rfl rfl 1 (by decide) (hts _ kX1_distanceFrom_1) (fun _ h9 => h9) rfl dX1_distanceFrom_15 ?_
        refine lv_iload_n hx hb dX1_distanceFrom_18 rfl (lv_at hl 3 rfl) ?_
        refine lv_iadd hx hb dX1_distanceFrom_19 ?_
        refine pc_top (show (nI lo) + (nI k) = nI (lo + k) from nI_add lo k) ?_
        have hPc := hP.sub (ws' := wH cy q h) [0, 1, 2, 3, 4, 5, 6] rfl
        refine pc_calli (va_runV (As := [.int (nI (lo + k))]) (rest := [.int (offBy h lo tn k)]) ⟨hx, hb, hml, hown, hts⟩ (mX1_toneOf l D cy q h (lo + k) (by omega)) (cwV 1 hts gX1_distanceFrom_X1_toneOf rfl rfl rfl (by decide +kernel) ⟨Nat.le_of_ble_eq_true rfl, Nat.le_of_ble_eq_true rfl⟩) ⟨fun a U g mk q => ⟨q.1, q.2.1, va_K.moved (u := U) (U := U.calling g mk a) (Vm.Alike.refl U.vm) q.2.2⟩, va_recv hK hPc (ci := 1) (q0 := 0) rfl rfl, fun U hU hW => ⟨rfl, by rw [hU]; exact hPc, va_K.moved hW.alike hK⟩⟩ rfl rfl hl.1 rfl (lv_room (Nat.le_of_ble_eq_true rfl)) dX1_distanceFrom_20 ⟨Nat.le_of_ble_eq_true rfl, Nat.le_of_ble_eq_true rfl⟩) (fun r9 hr9 => ?_)
        subst hr9
        refine lv_aload_n hx hb dX1_distanceFrom_23 rfl (lv_at hl 1 rfl) ?_
        refine va_get (D := D) (ci := 0) (v := .ref ta) (C := RX0) (T := TX0) (N := 3) hx hb hts inX1_distanceFrom_RX0 hown hK hP 7 rfl rfl 0 (by decide) (hts _ kX1_distanceFrom_2) (fun _ h9 => h9) rfl dX1_distanceFrom_24 ?_
        refine lv_iload_n hx hb dX1_distanceFrom_27 rfl (lv_at hl 3 rfl) ?_
        refine pc_iald hx hb hK hP 8 0 rfl rfl (k := k) (show k < 4 by omega) (by decide) dX1_distanceFrom_28 ?_
        refine lv_isub hx hb dX1_distanceFrom_29 ?_
        refine va_mabs hx hb (by rw [hml]; exact hl.1.symm) hown (hts _ kX1_distanceFrom_3) (hts _ kX1_distanceFrom_4) (hts _ kX1_distanceFrom_5) (hts _ kX1_distanceFrom_6) (Nat.le_of_ble_eq_true rfl) (Nat.le_of_ble_eq_true rfl) (Nat.le_of_ble_eq_true rfl) (Nat.le_of_ble_eq_true rfl) dX1_distanceFrom_30 ?_
        refine pc_top (show (if 0 ≤ ((tone h (lo + k)) - (tn k)) then ((tone h (lo + k)) - (tn k)) else 0 - ((tone h (lo + k)) - (tn k))) = ab ((tone h (lo + k)) - (tn k)) from rfl) ?_
        refine lv_iadd hx hb dX1_distanceFrom_33 ?_
        refine lv_istore_n (lv' := [(2, .int ((offBy h lo tn k) + (ab ((tone h (lo + k)) - (tn k))))), (0, .ref (q 0)), (1, .ref ca), (3, .int (nI k))]) hx hb dX1_distanceFrom_34 rfl hl (by decide) rfl (fun ls hl => ?_)
        refine lv_iinc (v := nI (k + 1)) (lv' := [(3, .int (nI (k + 1))), (2, .int ((offBy h lo tn k) + (ab ((tone h (lo + k)) - (tn k))))), (0, .ref (q 0)), (1, .ref ca)]) hx hb dX1_distanceFrom_35 hl (k := 3) rfl ((show (nI k) + Int32.ofInt 1 = (nI k) + 1 from rfl).trans (show (nI k) + 1 = nI (k + 1) from nI_add k 1)) (by decide) rfl (fun ls hl => ?_)
        refine lv_goto (tgt := 4) hx hb dX1_distanceFrom_38 (by decide) ?_
        exact ih4 (k + 1) (by omega) (by omega) ls (lv_sub hl [2, 3, 1, 0] rfl)
  exact loop4 (sz + 1) 0 (Nat.zero_le _) (by omega) ls (lv_sub hl [2, 3, 1, 0] rfl)

theorem inX1_fitsPushed_RX0 : ∀ w ∈ u_ws RX0 TX0 3, w ∈ wsX1_fitsPushed := by decide +kernel
theorem inX1_fitsPushed_RX1 : ∀ w ∈ u_ws RX1 TX1 8, w ∈ wsX1_fitsPushed := by decide +kernel
theorem kX1_fitsPushed_0 : (.fieldLink RX1 47 "WedgeHarps$Chord" "lowest" "I" : Cond) ∈ wsX1_fitsPushed := by decide +kernel
theorem kX1_fitsPushed_1 : (.fieldLink RX1 27 "WedgeHarps$Harp" "whole" "[Z" : Cond) ∈ wsX1_fitsPushed := by decide +kernel
theorem kX1_fitsPushed_2 : (.fieldLink RX1 50 "WedgeHarps$Chord" "tones" "[I" : Cond) ∈ wsX1_fitsPushed := by decide +kernel
theorem kX1_fitsPushed_3 : (.methodLink RX1 53 Lib.Math.abs.name : Cond) ∈ wsX1_fitsPushed := by decide +kernel
theorem kX1_fitsPushed_4 : (.static Lib.Math.abs.name : Cond) ∈ wsX1_fitsPushed := by decide +kernel
theorem kX1_fitsPushed_5 : (.initialized "java/lang/Math" : Cond) ∈ wsX1_fitsPushed := by decide +kernel
theorem kX1_fitsPushed_6 : (.code Lib.Math.abs.name Lib.Math.abs.code 1 (some .int) : Cond) ∈ wsX1_fitsPushed := by decide +kernel
set_option maxHeartbeats 4000000 in
set_option maxRecDepth 100000 in
theorem mX1_fitsPushed (l : Launch) (D : va_G) (cy : Nat → ClassId) (q : Nat → Nat) (h : HS) (ca ta lo sz : Nat) (tn : Nat → Int32) (hls : lo + sz ≤ 12) (hs4 : sz ≤ 4) (j : Nat) (hj : j < sz) (x y : Int32) : Met l yX1_fitsPushed wsX1_fitsPushed ({ frames := 1, cells := 0, slots := 0, locals := 22 } : Room) (va_Pc [.ref (q 0), .ref ca, .int (nI j), .int x, .int y] (fun U => va_P D vwCl (wH cy q h ++ wC cy ca ta lo sz tn) U.heap ∧ va_K D vwCl (TY cy) U)) (vp_Si (fun r8 => r8 = bI (fits1 h lo tn j x y))) 0 0 (fun _ => False) := by
  refine Met.ofW (cc := cX1_fitsPushed) (maxL := 7) (ret := (some .boolean)) (by decide) rfl ?_
  intro p e s m args below meth c s₁ B hml hv
  obtain ⟨rfl, hP, hK⟩ := hv
  have hx := B.exec
  have hb := B.bytes
  have hr := B.returns
  have hts := atoms_spec (ws := wsX1_fitsPushed) B.pre
  have hown : s.vm.findClass RX1 = some m.cls := findClass_of_methodNamed B.named
  have hlocks := B.notSynchronized
  have hl := lv_entry ([.ref (q 0), .ref ca, .int (nI j), .int x, .int y]) (n := 7) (Nat.le_of_ble_eq_true rfl)
  rw [lg_entry_eq]
  generalize (lg_sl ([.ref (q 0), .ref ca, .int (nI j), .int x, .int y]) ++ List.replicate (7 - (lg_sl ([.ref (q 0), .ref ca, .int (nI j), .int x, .int y])).length) Slot.unset).toArray = ls at hl ⊢
  have hl : lv_has ls 7 [(0, .ref (q 0)), (1, .ref ca), (2, .int (nI j)), (3, .int x), (4, .int y)] := hl
  refine lv_aload_n hx hb dX1_fitsPushed_0 rfl (lv_at hl 1 rfl) ?_
  refine va_get (D := D) (ci := 0) (v := .int (nI lo)) (C := RX0) (T := TX0) (N := 3) hx hb hts inX1_fitsPushed_RX0 hown hK hP 7 rfl rfl 1 (by decide) (hts _ kX1_fitsPushed_0) (fun _ h9 => h9) rfl dX1_fitsPushed_1 ?_
  refine lv_iload_n hx hb dX1_fitsPushed_4 rfl (lv_at hl 2 rfl) ?_
  refine lv_iadd hx hb dX1_fitsPushed_5 ?_
  refine pc_top (show (nI lo) + (nI j) = nI (lo + j) from nI_add lo j) ?_
  refine lv_istore (lv' := [(5, .int (nI (lo + j))), (0, .ref (q 0)), (1, .ref ca), (2, .int (nI j)), (3, .int x), (4, .int y)]) hx hb dX1_fitsPushed_6 hl (by decide) rfl (fun ls hl => ?_)
  refine lv_aload_n hx hb dX1_fitsPushed_8 rfl (lv_at hl 1 rfl) ?_
  refine lv_iload hx hb dX1_fitsPushed_9 (lv_at hl 0 rfl) ?_
  have hPc := hP.sub (ws' := wH cy q h) [0, 1, 2, 3, 4, 5, 6] rfl
  refine pc_calli (va_runV (As := [.int (nI (lo + j))]) (rest := []) ⟨hx, hb, hml, hown, hts⟩ (mX1_toneOf l D cy q h (lo + j) (by omega)) (cwV 1 hts gX1_fitsPushed_X1_toneOf rfl rfl rfl (by decide +kernel) ⟨Nat.le_of_ble_eq_true rfl, Nat.le_of_ble_eq_true rfl⟩) ⟨fun a U g mk q => ⟨q.1, q.2.1, va_K.moved (u := U) (U := U.calling g mk a) (Vm.Alike.refl U.vm) q.2.2⟩, va_recv hK hPc (ci := 1) (q0 := 0) rfl rfl, fun U hU hW => ⟨rfl, by rw [hU]; exact hPc, va_K.moved hW.alike hK⟩⟩ rfl rfl hl.1 rfl (lv_room (Nat.le_of_ble_eq_true rfl)) dX1_fitsPushed_11 ⟨Nat.le_of_ble_eq_true rfl, Nat.le_of_ble_eq_true rfl⟩) (fun r9 hr9 => ?_)
  subst hr9
  refine lv_bipush (v := 10) hx hb dX1_fitsPushed_14 (by decide) ?_
  refine lv_iload_n hx hb dX1_fitsPushed_16 rfl (lv_at hl 4 rfl) ?_
  refine lv_imul hx hb dX1_fitsPushed_17 ?_
  refine lv_iadd hx hb dX1_fitsPushed_18 ?_
  refine lv_iconst (v := 3) hx hb dX1_fitsPushed_19 (by decide) ?_
  refine lv_iload hx hb dX1_fitsPushed_20 (lv_at hl 5 rfl) ?_
  refine lv_imul hx hb dX1_fitsPushed_22 ?_
  refine lv_iadd hx hb dX1_fitsPushed_23 ?_
  refine lv_istore (lv' := [(6, .int (((tone h (lo + j)) + (10 * x)) + (3 * y))), (5, .int (nI (lo + j))), (0, .ref (q 0)), (1, .ref ca), (2, .int (nI j)), (3, .int x), (4, .int y)]) hx hb dX1_fitsPushed_24 hl (by decide) rfl (fun ls hl => ?_)
  refine lv_aload_n hx hb dX1_fitsPushed_26 rfl (lv_at hl 2 rfl) ?_
  refine va_get (D := D) (ci := 1) (v := .ref (q 6)) (C := RX1) (T := TX1) (N := 8) hx hb hts inX1_fitsPushed_RX1 hown hK hP 0 rfl rfl 5 (by decide) (hts _ kX1_fitsPushed_1) (fun _ h9 => h9) rfl dX1_fitsPushed_27 ?_
  refine lv_iload hx hb dX1_fitsPushed_30 (lv_at hl 1 rfl) ?_
  refine pc_zald hx hb hK hP 6 1 rfl rfl (k := lo + j) (show lo + j < 12 by omega) (by decide) dX1_fitsPushed_32 ?_
  refine lv_if_eq (tgt := 56) hx hb dX1_fitsPushed_33 (by decide) (fun c33 => ?_) (fun c33 => ?_)
  · refine lv_iconst (v := 0) hx hb dX1_fitsPushed_56 (by decide) ?_
    exact W.zret (v := 0) hx hb hr (by decide) (fun t ht hW => ⟨0, rfl, (by simp [bI, fits1, c33]), ht⟩) (fun q hq => absurd hq List.not_mem_nil) dX1_fitsPushed_57
  · refine lv_iload hx hb dX1_fitsPushed_36 (lv_at hl 0 rfl) ?_
    refine lv_aload_n hx hb dX1_fitsPushed_38 rfl (lv_at hl 3 rfl) ?_
    refine va_get (D := D) (ci := 0) (v := .ref ta) (C := RX0) (T := TX0) (N := 3) hx hb hts inX1_fitsPushed_RX0 hown hK hP 7 rfl rfl 0 (by decide) (hts _ kX1_fitsPushed_2) (fun _ h9 => h9) rfl dX1_fitsPushed_39 ?_
    refine lv_iload_n hx hb dX1_fitsPushed_42 rfl (lv_at hl 4 rfl) ?_
    refine pc_iald hx hb hK hP 8 0 rfl rfl (k := j) (show j < 4 by omega) (by decide) dX1_fitsPushed_43 ?_
    refine lv_isub hx hb dX1_fitsPushed_44 ?_
    refine va_mabs hx hb (by rw [hml]; exact hl.1.symm) hown (hts _ kX1_fitsPushed_3) (hts _ kX1_fitsPushed_4) (hts _ kX1_fitsPushed_5) (hts _ kX1_fitsPushed_6) (Nat.le_of_ble_eq_true rfl) (Nat.le_of_ble_eq_true rfl) (Nat.le_of_ble_eq_true rfl) (Nat.le_of_ble_eq_true rfl) dX1_fitsPushed_45 ?_
    refine pc_top (show (if 0 ≤ ((((tone h (lo + j)) + (10 * x)) + (3 * y)) - (tn j)) then ((((tone h (lo + j)) + (10 * x)) + (3 * y)) - (tn j)) else 0 - ((((tone h (lo + j)) + (10 * x)) + (3 * y)) - (tn j))) = ab ((((tone h (lo + j)) + (10 * x)) + (3 * y)) - (tn j)) from rfl) ?_
    refine lv_iconst (v := 5) hx hb dX1_fitsPushed_48 (by decide) ?_
    refine lv_icmp_gt (tgt := 56) hx hb dX1_fitsPushed_49 (by decide) (fun c49 => ?_) (fun c49 => ?_)
    · refine lv_iconst (v := 0) hx hb dX1_fitsPushed_56 (by decide) ?_
      exact W.zret (v := 0) hx hb hr (by decide) (fun t ht hW => ⟨0, rfl, (by simp [bI, fits1, c33, c49]), ht⟩) (fun q hq => absurd hq List.not_mem_nil) dX1_fitsPushed_57
    · refine lv_iconst (v := 1) hx hb dX1_fitsPushed_52 (by decide) ?_
      refine lv_goto (tgt := 57) hx hb dX1_fitsPushed_53 (by decide) ?_
      exact W.zret (v := 1) hx hb hr (by decide) (fun t ht hW => ⟨1, rfl, (by simp [bI, fits1, c33, c49]), ht⟩) (fun q hq => absurd hq List.not_mem_nil) dX1_fitsPushed_57

theorem inX1_isTunedTo_RX0 : ∀ w ∈ u_ws RX0 TX0 3, w ∈ wsX1_isTunedTo := by decide +kernel
theorem kX1_isTunedTo_0 : (.fieldLink RX1 42 "WedgeHarps$Chord" "size" "I" : Cond) ∈ wsX1_isTunedTo := by decide +kernel
set_option maxHeartbeats 4000000 in
set_option maxRecDepth 100000 in
theorem mX1_isTunedTo (l : Launch) (D : va_G) (cy : Nat → ClassId) (q : Nat → Nat) (h : HS) (ca ta lo sz : Nat) (tn : Nat → Int32) (hls : lo + sz ≤ 12) (hs4 : sz ≤ 4) : Met l yX1_isTunedTo wsX1_isTunedTo ({ frames := 2, cells := 0, slots := 0, locals := 48 } : Room) (va_Pc [.ref (q 0), .ref ca] (fun U => va_P D vwCl (wH cy q h ++ wC cy ca ta lo sz tn) U.heap ∧ va_K D vwCl (TY cy) U)) (vp_Si (fun r8 => r8 = bI (tuned h lo sz tn))) 0 0 (fun _ => False) := by
  refine Met.ofW (cc := cX1_isTunedTo) (maxL := 3) (ret := (some .boolean)) (by decide) rfl ?_
  intro p e s m args below meth c s₁ B hml hv
  obtain ⟨rfl, hP, hK⟩ := hv
  have hx := B.exec
  have hb := B.bytes
  have hr := B.returns
  have hts := atoms_spec (ws := wsX1_isTunedTo) B.pre
  have hown : s.vm.findClass RX1 = some m.cls := findClass_of_methodNamed B.named
  have hlocks := B.notSynchronized
  have hl := lv_entry ([.ref (q 0), .ref ca]) (n := 3) (Nat.le_of_ble_eq_true rfl)
  rw [lg_entry_eq]
  generalize (lg_sl ([.ref (q 0), .ref ca]) ++ List.replicate (3 - (lg_sl ([.ref (q 0), .ref ca])).length) Slot.unset).toArray = ls at hl ⊢
  have hl : lv_has ls 3 [(0, .ref (q 0)), (1, .ref ca)] := hl
  refine lv_iconst (v := 0) hx hb dX1_isTunedTo_0 (by decide) ?_
  refine lv_istore_n (lv' := [(2, .int 0), (0, .ref (q 0)), (1, .ref ca)]) hx hb dX1_isTunedTo_1 rfl hl (by decide) rfl (fun ls hl => ?_)
  have loop2 : ∀ (n9 : Nat) (k : Nat), k ≤ sz → allN (fun j => fits1 h lo tn j 0 0) k = true → sz - k < n9 → ∀ ls : Array Slot, lv_has ls 3 [(0, .ref (q 0)), (1, .ref ca), (2, .int (nI k))] → W p l e (headSpec wsX1_isTunedTo ({ frames := 2, cells := 0, slots := 0, locals := 48 } : Room)).room s m ([.ref (q 0), .ref ca] : List Value).toArray below meth c s.heap [] 0 0 (MQ below (vp_Si (fun r8 => r8 = bI (tuned h lo sz tn))) ([.ref (q 0), .ref ca] : List Value).toArray s 0 0 (fun _ => False)) (F0 m 2 ls []) := by
    intro n9
    induction n9 with
    | zero => intro k hk ha h9 ls hl; exact absurd h9 (by omega)
    | succ n9 ih2 =>
      intro k hk ha h9 ls hl
      refine lv_iload_n hx hb dX1_isTunedTo_2 rfl (lv_at hl 2 rfl) ?_
      refine lv_aload_n hx hb dX1_isTunedTo_3 rfl (lv_at hl 1 rfl) ?_
      refine va_get (D := D) (ci := 0) (v := .int (nI sz)) (C := RX0) (T := TX0) (N := 3) hx hb hts inX1_isTunedTo_RX0 hown hK hP 7 rfl rfl 2 (by decide) (hts _ kX1_isTunedTo_0) (fun _ h9 => h9) rfl dX1_isTunedTo_4 ?_
      refine lv_icmp_ge (tgt := 29) hx hb dX1_isTunedTo_7 (by decide) (fun c7 => ?_) (fun c7 => ?_)
      · have n7 : sz ≤ k := (nI_leI (a := sz) (b := k) (by omega) (by omega)).mp c7
        refine lv_iconst (v := 1) hx hb dX1_isTunedTo_29 (by decide) ?_
        exact W.zret (v := 1) hx hb hr (by decide) (fun t ht hW => ⟨1, rfl, (by rw [tuned, show sz = k by omega, ha]; rfl), ht⟩) (fun q hq => absurd hq List.not_mem_nil) dX1_isTunedTo_30
      · have n7 : ¬ (sz ≤ k) := fun h9 => c7 ((nI_leI (a := sz) (b := k) (by omega) (by omega)).mpr h9)
        refine lv_aload_n hx hb dX1_isTunedTo_10 rfl (lv_at hl 0 rfl) ?_
        refine lv_aload_n hx hb dX1_isTunedTo_11 rfl (lv_at hl 1 rfl) ?_
        refine lv_iload_n hx hb dX1_isTunedTo_12 rfl (lv_at hl 2 rfl) ?_
        refine lv_iconst (v := 0) hx hb dX1_isTunedTo_13 (by decide) ?_
        refine lv_iconst (v := 0) hx hb dX1_isTunedTo_14 (by decide) ?_
        refine pc_calli (va_runV (As := [.ref ca, .int (nI k), .int 0, .int 0]) (rest := []) ⟨hx, hb, hml, hown, hts⟩ (mX1_fitsPushed l D cy q h ca ta lo sz tn hls hs4 k (by omega) 0 0) (cwV 4 hts gX1_isTunedTo_X1_fitsPushed rfl rfl rfl (by decide +kernel) ⟨Nat.le_of_ble_eq_true rfl, Nat.le_of_ble_eq_true rfl⟩) ⟨fun a U g mk q => ⟨q.1, q.2.1, va_K.moved (u := U) (U := U.calling g mk a) (Vm.Alike.refl U.vm) q.2.2⟩, va_recv hK hP (ci := 1) (q0 := 0) rfl rfl, fun U hU hW => ⟨rfl, by rw [hU]; exact hP, va_K.moved hW.alike hK⟩⟩ rfl rfl hl.1 rfl (lv_room (Nat.le_of_ble_eq_true rfl)) dX1_isTunedTo_15 ⟨Nat.le_of_ble_eq_true rfl, Nat.le_of_ble_eq_true rfl⟩) (fun r9 hr9 => ?_)
        subst hr9
        refine lv_if_ne (tgt := 23) hx hb dX1_isTunedTo_18 (by decide) (fun c18 => ?_) (fun c18 => ?_)
        · refine lv_iinc (v := nI (k + 1)) (lv' := [(2, .int (nI (k + 1))), (0, .ref (q 0)), (1, .ref ca)]) hx hb dX1_isTunedTo_23 hl (k := 2) rfl ((show (nI k) + Int32.ofInt 1 = (nI k) + 1 from rfl).trans (show (nI k) + 1 = nI (k + 1) from nI_add k 1)) (by decide) rfl (fun ls hl => ?_)
          refine lv_goto (tgt := 2) hx hb dX1_isTunedTo_26 (by decide) ?_
          exact ih2 (k + 1) (by omega) (by simp [allN, ha, bI_1.mp c18]) (by omega) ls (lv_sub hl [1, 2, 0] rfl)
        · refine lv_iconst (v := 0) hx hb dX1_isTunedTo_21 (by decide) ?_
          exact W.zret (v := 0) hx hb hr (by decide) (fun t ht hW => ⟨0, rfl, (by rw [tuned, allN_f (j := k) (by omega) (bI_0.mp c18)]; rfl), ht⟩) (fun q hq => absurd hq List.not_mem_nil) dX1_isTunedTo_22
  exact loop2 (sz + 1) 0 (Nat.zero_le _) rfl (by omega) ls (lv_sub hl [1, 2, 0] rfl)

theorem inX1_renew_RX1 : ∀ w ∈ u_ws RX1 TX1 8, w ∈ wsX1_renew := by decide +kernel
theorem kX1_renew_0 : (.fieldLink RX1 9 "WedgeHarps$Harp" "base" "[I" : Cond) ∈ wsX1_renew := by decide +kernel
theorem kX1_renew_1 : (.fieldLink RX1 18 "WedgeHarps$Harp" "drift" "[I" : Cond) ∈ wsX1_renew := by decide +kernel
theorem kX1_renew_2 : (.fieldLink RX1 21 "WedgeHarps$Harp" "strain" "[I" : Cond) ∈ wsX1_renew := by decide +kernel
theorem kX1_renew_3 : (.fieldLink RX1 27 "WedgeHarps$Harp" "whole" "[Z" : Cond) ∈ wsX1_renew := by decide +kernel
set_option maxHeartbeats 4000000 in
set_option maxRecDepth 100000 in
theorem mX1_renew (l : Launch) (D : va_G) (cy : Nat → ClassId) (sz : Nat) (q : Nat → Nat) (h : HS) (k : Nat) (hk : k < 12) (x : Int32) : Met l yX1_renew wsX1_renew ({ frames := 0, cells := 0, slots := 0, locals := 0 } : Room) (va_Pc [.ref (q 0), .int (nI k), .int x] (fun U => U.heap.size = sz ∧ va_P D vwCl (wH cy q h) U.heap ∧ va_K D vwCl (TY cy) U ∧ va_D (fun _ => True) (wH cy q h))) (va_Qv (fun (_ : Unit) => True) (fun (_ : Unit) t => va_P D vwCl (wH cy q (hRenew h k x)) t.heap ∧ va_D (va_A (wH cy q h) sz) (wH cy q (hRenew h k x))) (va_A (wH cy q h) sz)) 0 0 (va_A (wH cy q h) sz) := by
  refine Met.ofW (cc := cX1_renew) (maxL := 3) (ret := none) (by decide) rfl ?_
  intro p e s m args below meth c s₁ B hml hv
  obtain ⟨rfl, hsz, hP, hK, hD0⟩ := hv
  have hx := B.exec
  have hb := B.bytes
  have hr := B.returns
  have hts := atoms_spec (ws := wsX1_renew) B.pre
  have hown : s.vm.findClass RX1 = some m.cls := findClass_of_methodNamed B.named
  have hlocks := B.notSynchronized
  have hl := lv_entry ([.ref (q 0), .int (nI k), .int x]) (n := 3) (Nat.le_of_ble_eq_true rfl)
  rw [lg_entry_eq]
  generalize (lg_sl ([.ref (q 0), .int (nI k), .int x]) ++ List.replicate (3 - (lg_sl ([.ref (q 0), .int (nI k), .int x])).length) Slot.unset).toArray = ls at hl ⊢
  have hl : lv_has ls 3 [(0, .ref (q 0)), (1, .int (nI k)), (2, .int x)] := hl
  subst hsz
  have hD := hD0.self (sz := s.heap.size)
  generalize hAe : va_A (wH cy q h) s.heap.size = A at hD ⊢
  have hA : ∀ q : Nat, s.heap.size ≤ q → A q := fun q h => by rw [← hAe]; exact Or.inr h
  have hS : va_S A s.heap s.heap [] := va_S.rf
  have hP : va_P D vwCl (wH cy q h) s.heap := hP
  refine lv_aload_n hx hb dX1_renew_0 rfl (lv_at hl 0 rfl) ?_
  refine va_get (D := D) (ci := 1) (v := .ref (q 1)) (C := RX1) (T := TX1) (N := 8) hx hb hts inX1_renew_RX1 hown hK hP 0 rfl rfl 0 (by decide) (hts _ kX1_renew_0) (fun _ h9 => h9) rfl dX1_renew_1 ?_
  refine lv_iload_n hx hb dX1_renew_4 rfl (lv_at hl 1 rfl) ?_
  refine lv_iload_n hx hb dX1_renew_5 rfl (lv_at hl 2 rfl) ?_
  refine pc_iast hx hb hK hP hD hS 1 0 rfl rfl (k := k) (show k < 12 by omega) (by decide) dX1_renew_6 (fun H locs hP hD hS => ?_)
  have hP : va_P D vwCl [(q 0, .inr (1, [.ref (q 1), .ref (q 2), .ref (q 3), .ref (q 4), .ref (q 5), .ref (q 6), .int (zl h), .int (nI (zh h))])), (q 1, .inl ((cy 0), 12, .inl (upd (zb h) k x))), (q 2, .inl ((cy 0), 12, .inl (zw h))), (q 3, .inl ((cy 0), 12, .inl (zd h))), (q 4, .inl ((cy 0), 12, .inl (zs h))), (q 5, .inl ((cy 0), 12, .inl (zr h))), (q 6, .inl ((cy 1), 12, .inl (zo h)))] H := hP
  have hD : va_D A [(q 0, .inr (1, [.ref (q 1), .ref (q 2), .ref (q 3), .ref (q 4), .ref (q 5), .ref (q 6), .int (zl h), .int (nI (zh h))])), (q 1, .inl ((cy 0), 12, .inl (upd (zb h) k x))), (q 2, .inl ((cy 0), 12, .inl (zw h))), (q 3, .inl ((cy 0), 12, .inl (zd h))), (q 4, .inl ((cy 0), 12, .inl (zs h))), (q 5, .inl ((cy 0), 12, .inl (zr h))), (q 6, .inl ((cy 1), 12, .inl (zo h)))] := hD
  refine lv_aload_n hx hb dX1_renew_7 rfl (lv_at hl 0 rfl) ?_
  refine va_get (D := D) (ci := 1) (v := .ref (q 3)) (C := RX1) (T := TX1) (N := 8) hx hb hts inX1_renew_RX1 hown hK hP 0 rfl rfl 2 (by decide) (hts _ kX1_renew_1) (fun _ h9 => h9) rfl dX1_renew_8 ?_
  refine lv_iload_n hx hb dX1_renew_11 rfl (lv_at hl 1 rfl) ?_
  refine lv_iconst (v := 0) hx hb dX1_renew_12 (by decide) ?_
  refine pc_iast hx hb hK hP hD hS 3 0 rfl rfl (k := k) (show k < 12 by omega) (by decide) dX1_renew_13 (fun H locs hP hD hS => ?_)
  have hP : va_P D vwCl [(q 0, .inr (1, [.ref (q 1), .ref (q 2), .ref (q 3), .ref (q 4), .ref (q 5), .ref (q 6), .int (zl h), .int (nI (zh h))])), (q 1, .inl ((cy 0), 12, .inl (upd (zb h) k x))), (q 2, .inl ((cy 0), 12, .inl (zw h))), (q 3, .inl ((cy 0), 12, .inl (upd (zd h) k 0))), (q 4, .inl ((cy 0), 12, .inl (zs h))), (q 5, .inl ((cy 0), 12, .inl (zr h))), (q 6, .inl ((cy 1), 12, .inl (zo h)))] H := hP
  have hD : va_D A [(q 0, .inr (1, [.ref (q 1), .ref (q 2), .ref (q 3), .ref (q 4), .ref (q 5), .ref (q 6), .int (zl h), .int (nI (zh h))])), (q 1, .inl ((cy 0), 12, .inl (upd (zb h) k x))), (q 2, .inl ((cy 0), 12, .inl (zw h))), (q 3, .inl ((cy 0), 12, .inl (upd (zd h) k 0))), (q 4, .inl ((cy 0), 12, .inl (zs h))), (q 5, .inl ((cy 0), 12, .inl (zr h))), (q 6, .inl ((cy 1), 12, .inl (zo h)))] := hD
  refine lv_aload_n hx hb dX1_renew_14 rfl (lv_at hl 0 rfl) ?_
  refine va_get (D := D) (ci := 1) (v := .ref (q 4)) (C := RX1) (T := TX1) (N := 8) hx hb hts inX1_renew_RX1 hown hK hP 0 rfl rfl 3 (by decide) (hts _ kX1_renew_2) (fun _ h9 => h9) rfl dX1_renew_15 ?_
  refine lv_iload_n hx hb dX1_renew_18 rfl (lv_at hl 1 rfl) ?_
  refine lv_iconst (v := 0) hx hb dX1_renew_19 (by decide) ?_
  refine pc_iast hx hb hK hP hD hS 4 0 rfl rfl (k := k) (show k < 12 by omega) (by decide) dX1_renew_20 (fun H locs hP hD hS => ?_)
  have hP : va_P D vwCl [(q 0, .inr (1, [.ref (q 1), .ref (q 2), .ref (q 3), .ref (q 4), .ref (q 5), .ref (q 6), .int (zl h), .int (nI (zh h))])), (q 1, .inl ((cy 0), 12, .inl (upd (zb h) k x))), (q 2, .inl ((cy 0), 12, .inl (zw h))), (q 3, .inl ((cy 0), 12, .inl (upd (zd h) k 0))), (q 4, .inl ((cy 0), 12, .inl (upd (zs h) k 0))), (q 5, .inl ((cy 0), 12, .inl (zr h))), (q 6, .inl ((cy 1), 12, .inl (zo h)))] H := hP
  have hD : va_D A [(q 0, .inr (1, [.ref (q 1), .ref (q 2), .ref (q 3), .ref (q 4), .ref (q 5), .ref (q 6), .int (zl h), .int (nI (zh h))])), (q 1, .inl ((cy 0), 12, .inl (upd (zb h) k x))), (q 2, .inl ((cy 0), 12, .inl (zw h))), (q 3, .inl ((cy 0), 12, .inl (upd (zd h) k 0))), (q 4, .inl ((cy 0), 12, .inl (upd (zs h) k 0))), (q 5, .inl ((cy 0), 12, .inl (zr h))), (q 6, .inl ((cy 1), 12, .inl (zo h)))] := hD
  refine lv_aload_n hx hb dX1_renew_21 rfl (lv_at hl 0 rfl) ?_
  refine va_get (D := D) (ci := 1) (v := .ref (q 6)) (C := RX1) (T := TX1) (N := 8) hx hb hts inX1_renew_RX1 hown hK hP 0 rfl rfl 5 (by decide) (hts _ kX1_renew_3) (fun _ h9 => h9) rfl dX1_renew_22 ?_
  refine lv_iload_n hx hb dX1_renew_25 rfl (lv_at hl 1 rfl) ?_
  refine lv_iconst (v := 1) hx hb dX1_renew_26 (by decide) ?_
  refine pc_zast hx hb hK hP hD hS 6 1 rfl rfl (by decide) (k := k) (show k < 12 by omega) (by decide) dX1_renew_27 (fun H locs hP hD hS => ?_)
  have hP : va_P D vwCl [(q 0, .inr (1, [.ref (q 1), .ref (q 2), .ref (q 3), .ref (q 4), .ref (q 5), .ref (q 6), .int (zl h), .int (nI (zh h))])), (q 1, .inl ((cy 0), 12, .inl (upd (zb h) k x))), (q 2, .inl ((cy 0), 12, .inl (zw h))), (q 3, .inl ((cy 0), 12, .inl (upd (zd h) k 0))), (q 4, .inl ((cy 0), 12, .inl (upd (zs h) k 0))), (q 5, .inl ((cy 0), 12, .inl (zr h))), (q 6, .inl ((cy 1), 12, .inl (upd (zo h) k 1)))] H := hP
  have hD : va_D A [(q 0, .inr (1, [.ref (q 1), .ref (q 2), .ref (q 3), .ref (q 4), .ref (q 5), .ref (q 6), .int (zl h), .int (nI (zh h))])), (q 1, .inl ((cy 0), 12, .inl (upd (zb h) k x))), (q 2, .inl ((cy 0), 12, .inl (zw h))), (q 3, .inl ((cy 0), 12, .inl (upd (zd h) k 0))), (q 4, .inl ((cy 0), 12, .inl (upd (zs h) k 0))), (q 5, .inl ((cy 0), 12, .inl (zr h))), (q 6, .inl ((cy 1), 12, .inl (upd (zo h) k 1)))] := hD
  have hP9 : va_P D vwCl (wH cy q (hRenew h k x)) H := hP
  have hD9 : va_D A (wH cy q (hRenew h k x)) := hD
  exact W.vret hx hb hr (fun t ht hW => ⟨⟨(), rfl, trivial, by rw [ht]; exact hP9, hD9⟩, hS.F ht⟩) hS.2.2 dX1_renew_28

theorem inX1_slip_RX1 : ∀ w ∈ u_ws RX1 TX1 8, w ∈ wsX1_slip := by decide +kernel
theorem kX1_slip_0 : (.fieldLink RX1 21 "WedgeHarps$Harp" "strain" "[I" : Cond) ∈ wsX1_slip := by decide +kernel
theorem kX1_slip_1 : (.fieldLink RX1 18 "WedgeHarps$Harp" "drift" "[I" : Cond) ∈ wsX1_slip := by decide +kernel
theorem kX1_slip_2 : (.methodLink RX1 81 Lib.Math.min.name : Cond) ∈ wsX1_slip := by decide +kernel
theorem kX1_slip_3 : (.static Lib.Math.min.name : Cond) ∈ wsX1_slip := by decide +kernel
theorem kX1_slip_4 : (.initialized "java/lang/Math" : Cond) ∈ wsX1_slip := by decide +kernel
theorem kX1_slip_5 : (.code Lib.Math.min.name Lib.Math.min.code 2 (some .int) : Cond) ∈ wsX1_slip := by decide +kernel
theorem kX1_slip_6 : (.methodLink RX1 78 Lib.Math.max.name : Cond) ∈ wsX1_slip := by decide +kernel
theorem kX1_slip_7 : (.static Lib.Math.max.name : Cond) ∈ wsX1_slip := by decide +kernel
theorem kX1_slip_8 : (.code Lib.Math.max.name Lib.Math.max.code 2 (some .int) : Cond) ∈ wsX1_slip := by decide +kernel
set_option maxHeartbeats 4000000 in
set_option maxRecDepth 100000 in
theorem mX1_slip (l : Launch) (D : va_G) (cy : Nat → ClassId) (sz : Nat) (q : Nat → Nat) (h : HS) (k : Nat) (hk : k < 12) (da : Int32) : Met l yX1_slip wsX1_slip ({ frames := 1, cells := 0, slots := 0, locals := 21 } : Room) (va_Pc [.ref (q 0), .int (nI k), .int da] (fun U => U.heap.size = sz ∧ va_P D vwCl (wH cy q h) U.heap ∧ va_K D vwCl (TY cy) U ∧ va_D (fun _ => True) (wH cy q h))) (va_Qv (fun (_ : Unit) => True) (fun (_ : Unit) t => va_P D vwCl (wH cy q (hSlip da h k)) t.heap ∧ va_D (va_A (wH cy q h) sz) (wH cy q (hSlip da h k))) (va_A (wH cy q h) sz)) 0 0 (va_A (wH cy q h) sz) := by
  refine Met.ofW (cc := cX1_slip) (maxL := 3) (ret := none) (by decide) rfl ?_
  intro p e s m args below meth c s₁ B hml hv
  obtain ⟨rfl, hsz, hP, hK, hD0⟩ := hv
  have hx := B.exec
  have hb := B.bytes
  have hr := B.returns
  have hts := atoms_spec (ws := wsX1_slip) B.pre
  have hown : s.vm.findClass RX1 = some m.cls := findClass_of_methodNamed B.named
  have hlocks := B.notSynchronized
  have hl := lv_entry ([.ref (q 0), .int (nI k), .int da]) (n := 3) (Nat.le_of_ble_eq_true rfl)
  rw [lg_entry_eq]
  generalize (lg_sl ([.ref (q 0), .int (nI k), .int da]) ++ List.replicate (3 - (lg_sl ([.ref (q 0), .int (nI k), .int da])).length) Slot.unset).toArray = ls at hl ⊢
  have hl : lv_has ls 3 [(0, .ref (q 0)), (1, .int (nI k)), (2, .int da)] := hl
  subst hsz
  have hD := hD0.self (sz := s.heap.size)
  generalize hAe : va_A (wH cy q h) s.heap.size = A at hD ⊢
  have hA : ∀ q : Nat, s.heap.size ≤ q → A q := fun q h => by rw [← hAe]; exact Or.inr h
  have hS : va_S A s.heap s.heap [] := va_S.rf
  have hP : va_P D vwCl (wH cy q h) s.heap := hP
  refine lv_aload_n hx hb dX1_slip_0 rfl (lv_at hl 0 rfl) ?_
  refine va_get (D := D) (ci := 1) (v := .ref (q 4)) (C := RX1) (T := TX1) (N := 8) hx hb hts inX1_slip_RX1 hown hK hP 0 rfl rfl 3 (by decide) (hts _ kX1_slip_0) (fun _ h9 => h9) rfl dX1_slip_1 ?_
  refine lv_iload_n hx hb dX1_slip_4 rfl (lv_at hl 1 rfl) ?_
  refine pc_iald hx hb hK hP 4 0 rfl rfl (k := k) (show k < 12 by omega) (by decide) dX1_slip_5 ?_
  refine lv_bipush (v := 50) hx hb dX1_slip_6 (by decide) ?_
  refine lv_icmp_lt (tgt := 33) hx hb dX1_slip_8 (by decide) (fun c8 => ?_) (fun c8 => ?_)
  · refine lv_iload_n hx hb dX1_slip_33 rfl (lv_at hl 2 rfl) ?_
    refine lv_bipush (v := 6) hx hb dX1_slip_34 (by decide) ?_
    refine lv_icmp_lt (tgt := 58) hx hb dX1_slip_36 (by decide) (fun c36 => ?_) (fun c36 => ?_)
    · have hP9 : va_P D vwCl (wH cy q (hSlip da h k)) s.heap := (by simp only [hSlip, slipd, if_pos c8, if_pos c36]; first | exact hP | (rw [upd_id]; exact hP))
      have hD9 : va_D A (wH cy q (hSlip da h k)) := (by simp only [hSlip, slipd, if_pos c8, if_pos c36]; first | exact hD | (rw [upd_id]; exact hD))
      exact W.vret hx hb hr (fun t ht hW => ⟨⟨(), rfl, trivial, by rw [ht]; exact hP9, hD9⟩, hS.F ht⟩) hS.2.2 dX1_slip_58
    · refine lv_aload_n hx hb dX1_slip_39 rfl (lv_at hl 0 rfl) ?_
      refine va_get (D := D) (ci := 1) (v := .ref (q 3)) (C := RX1) (T := TX1) (N := 8) hx hb hts inX1_slip_RX1 hown hK hP 0 rfl rfl 2 (by decide) (hts _ kX1_slip_1) (fun _ h9 => h9) rfl dX1_slip_40 ?_
      refine lv_iload_n hx hb dX1_slip_43 rfl (lv_at hl 1 rfl) ?_
      refine lv_bipush (v := 50) hx hb dX1_slip_44 (by decide) ?_
      refine lv_aload_n hx hb dX1_slip_46 rfl (lv_at hl 0 rfl) ?_
      refine va_get (D := D) (ci := 1) (v := .ref (q 3)) (C := RX1) (T := TX1) (N := 8) hx hb hts inX1_slip_RX1 hown hK hP 0 rfl rfl 2 (by decide) (hts _ kX1_slip_1) (fun _ h9 => h9) rfl dX1_slip_47 ?_
      refine lv_iload_n hx hb dX1_slip_50 rfl (lv_at hl 1 rfl) ?_
      refine pc_iald hx hb hK hP 3 0 rfl rfl (k := k) (show k < 12 by omega) (by decide) dX1_slip_51 ?_
      refine lv_iconst (v := 1) hx hb dX1_slip_52 (by decide) ?_
      refine lv_iadd hx hb dX1_slip_53 ?_
      refine va_mmin hx hb (by rw [hml]; exact hl.1.symm) hown (hts _ kX1_slip_2) (hts _ kX1_slip_3) (hts _ kX1_slip_4) (hts _ kX1_slip_5) (Nat.le_of_ble_eq_true rfl) (Nat.le_of_ble_eq_true rfl) (Nat.le_of_ble_eq_true rfl) (Nat.le_of_ble_eq_true rfl) dX1_slip_54 ?_
      refine pc_top (show (if (((zd h) k) + 1) < 50 then (((zd h) k) + 1) else 50) = mn 50 (((zd h) k) + 1) from rfl) ?_
      refine pc_iast hx hb hK hP hD hS 3 0 rfl rfl (k := k) (show k < 12 by omega) (by decide) dX1_slip_57 (fun H locs hP hD hS => ?_)
      have hP : va_P D vwCl [(q 0, .inr (1, [.ref (q 1), .ref (q 2), .ref (q 3), .ref (q 4), .ref (q 5), .ref (q 6), .int (zl h), .int (nI (zh h))])), (q 1, .inl ((cy 0), 12, .inl (zb h))), (q 2, .inl ((cy 0), 12, .inl (zw h))), (q 3, .inl ((cy 0), 12, .inl (upd (zd h) k (mn 50 (((zd h) k) + 1))))), (q 4, .inl ((cy 0), 12, .inl (zs h))), (q 5, .inl ((cy 0), 12, .inl (zr h))), (q 6, .inl ((cy 1), 12, .inl (zo h)))] H := hP
      have hD : va_D A [(q 0, .inr (1, [.ref (q 1), .ref (q 2), .ref (q 3), .ref (q 4), .ref (q 5), .ref (q 6), .int (zl h), .int (nI (zh h))])), (q 1, .inl ((cy 0), 12, .inl (zb h))), (q 2, .inl ((cy 0), 12, .inl (zw h))), (q 3, .inl ((cy 0), 12, .inl (upd (zd h) k (mn 50 (((zd h) k) + 1))))), (q 4, .inl ((cy 0), 12, .inl (zs h))), (q 5, .inl ((cy 0), 12, .inl (zr h))), (q 6, .inl ((cy 1), 12, .inl (zo h)))] := hD
      have hP9 : va_P D vwCl (wH cy q (hSlip da h k)) H := (by simp only [hSlip, slipd, if_pos c8, if_neg c36]; first | exact hP | (rw [upd_id]; exact hP))
      have hD9 : va_D A (wH cy q (hSlip da h k)) := (by simp only [hSlip, slipd, if_pos c8, if_neg c36]; first | exact hD | (rw [upd_id]; exact hD))
      exact W.vret hx hb hr (fun t ht hW => ⟨⟨(), rfl, trivial, by rw [ht]; exact hP9, hD9⟩, hS.F ht⟩) hS.2.2 dX1_slip_58
  · refine lv_aload_n hx hb dX1_slip_11 rfl (lv_at hl 0 rfl) ?_
    refine va_get (D := D) (ci := 1) (v := .ref (q 3)) (C := RX1) (T := TX1) (N := 8) hx hb hts inX1_slip_RX1 hown hK hP 0 rfl rfl 2 (by decide) (hts _ kX1_slip_1) (fun _ h9 => h9) rfl dX1_slip_12 ?_
    refine lv_iload_n hx hb dX1_slip_15 rfl (lv_at hl 1 rfl) ?_
    refine lv_bipush (v := (-50)) hx hb dX1_slip_16 (by decide) ?_
    refine lv_aload_n hx hb dX1_slip_18 rfl (lv_at hl 0 rfl) ?_
    refine va_get (D := D) (ci := 1) (v := .ref (q 3)) (C := RX1) (T := TX1) (N := 8) hx hb hts inX1_slip_RX1 hown hK hP 0 rfl rfl 2 (by decide) (hts _ kX1_slip_1) (fun _ h9 => h9) rfl dX1_slip_19 ?_
    refine lv_iload_n hx hb dX1_slip_22 rfl (lv_at hl 1 rfl) ?_
    refine pc_iald hx hb hK hP 3 0 rfl rfl (k := k) (show k < 12 by omega) (by decide) dX1_slip_23 ?_
    refine lv_iconst (v := 1) hx hb dX1_slip_24 (by decide) ?_
    refine lv_isub hx hb dX1_slip_25 ?_
    refine va_mmax hx hb (by rw [hml]; exact hl.1.symm) hown (hts _ kX1_slip_6) (hts _ kX1_slip_7) (hts _ kX1_slip_4) (hts _ kX1_slip_8) (Nat.le_of_ble_eq_true rfl) (Nat.le_of_ble_eq_true rfl) (Nat.le_of_ble_eq_true rfl) (Nat.le_of_ble_eq_true rfl) dX1_slip_26 ?_
    refine pc_top (show (if (-50) < (((zd h) k) - 1) then (((zd h) k) - 1) else (-50)) = mx (-50) (((zd h) k) - 1) from rfl) ?_
    refine pc_iast hx hb hK hP hD hS 3 0 rfl rfl (k := k) (show k < 12 by omega) (by decide) dX1_slip_29 (fun H locs hP hD hS => ?_)
    have hP : va_P D vwCl [(q 0, .inr (1, [.ref (q 1), .ref (q 2), .ref (q 3), .ref (q 4), .ref (q 5), .ref (q 6), .int (zl h), .int (nI (zh h))])), (q 1, .inl ((cy 0), 12, .inl (zb h))), (q 2, .inl ((cy 0), 12, .inl (zw h))), (q 3, .inl ((cy 0), 12, .inl (upd (zd h) k (mx (-50) (((zd h) k) - 1))))), (q 4, .inl ((cy 0), 12, .inl (zs h))), (q 5, .inl ((cy 0), 12, .inl (zr h))), (q 6, .inl ((cy 1), 12, .inl (zo h)))] H := hP
    have hD : va_D A [(q 0, .inr (1, [.ref (q 1), .ref (q 2), .ref (q 3), .ref (q 4), .ref (q 5), .ref (q 6), .int (zl h), .int (nI (zh h))])), (q 1, .inl ((cy 0), 12, .inl (zb h))), (q 2, .inl ((cy 0), 12, .inl (zw h))), (q 3, .inl ((cy 0), 12, .inl (upd (zd h) k (mx (-50) (((zd h) k) - 1))))), (q 4, .inl ((cy 0), 12, .inl (zs h))), (q 5, .inl ((cy 0), 12, .inl (zr h))), (q 6, .inl ((cy 1), 12, .inl (zo h)))] := hD
    refine lv_goto (tgt := 58) hx hb dX1_slip_30 (by decide) ?_
    have hP9 : va_P D vwCl (wH cy q (hSlip da h k)) H := (by simp only [hSlip, slipd, if_neg c8]; first | exact hP | (rw [upd_id]; exact hP))
    have hD9 : va_D A (wH cy q (hSlip da h k)) := (by simp only [hSlip, slipd, if_neg c8]; first | exact hD | (rw [upd_id]; exact hD))
    exact W.vret hx hb hr (fun t ht hW => ⟨⟨(), rfl, trivial, by rw [ht]; exact hP9, hD9⟩, hS.F ht⟩) hS.2.2 dX1_slip_58

theorem inX1_swell_RX1 : ∀ w ∈ u_ws RX1 TX1 8, w ∈ wsX1_swell := by decide +kernel
theorem kX1_swell_0 : (.fieldLink RX1 31 "WedgeHarps$Harp" "swelling" "I" : Cond) ∈ wsX1_swell := by decide +kernel
theorem kX1_swell_1 : (.methodLink RX1 78 Lib.Math.max.name : Cond) ∈ wsX1_swell := by decide +kernel
theorem kX1_swell_2 : (.static Lib.Math.max.name : Cond) ∈ wsX1_swell := by decide +kernel
theorem kX1_swell_3 : (.initialized "java/lang/Math" : Cond) ∈ wsX1_swell := by decide +kernel
theorem kX1_swell_4 : (.code Lib.Math.max.name Lib.Math.max.code 2 (some .int) : Cond) ∈ wsX1_swell := by decide +kernel
theorem kX1_swell_5 : (.methodLink RX1 81 Lib.Math.min.name : Cond) ∈ wsX1_swell := by decide +kernel
theorem kX1_swell_6 : (.static Lib.Math.min.name : Cond) ∈ wsX1_swell := by decide +kernel
theorem kX1_swell_7 : (.code Lib.Math.min.name Lib.Math.min.code 2 (some .int) : Cond) ∈ wsX1_swell := by decide +kernel
set_option maxHeartbeats 4000000 in
set_option maxRecDepth 100000 in
theorem mX1_swell (l : Launch) (D : va_G) (cy : Nat → ClassId) (sz : Nat) (q : Nat → Nat) (h : HS) (da : Int32) : Met l yX1_swell wsX1_swell ({ frames := 1, cells := 0, slots := 0, locals := 21 } : Room) (va_Pc [.ref (q 0), .int da] (fun U => U.heap.size = sz ∧ va_P D vwCl (wH cy q h) U.heap ∧ va_K D vwCl (TY cy) U ∧ va_D (fun _ => True) (wH cy q h))) (va_Qv (fun (_ : Unit) => True) (fun (_ : Unit) t => va_P D vwCl (wH cy q (hSwell da h)) t.heap ∧ va_D (va_A (wH cy q h) sz) (wH cy q (hSwell da h))) (va_A (wH cy q h) sz)) 0 0 (va_A (wH cy q h) sz) := by
  refine Met.ofW (cc := cX1_swell) (maxL := 2) (ret := none) (by decide) rfl ?_
  intro p e s m args below meth c s₁ B hml hv
  obtain ⟨rfl, hsz, hP, hK, hD0⟩ := hv
  have hx := B.exec
  have hb := B.bytes
  have hr := B.returns
  have hts := atoms_spec (ws := wsX1_swell) B.pre
  have hown : s.vm.findClass RX1 = some m.cls := findClass_of_methodNamed B.named
  have hlocks := B.notSynchronized
  have hl := lv_entry ([.ref (q 0), .int da]) (n := 2) (Nat.le_of_ble_eq_true rfl)
  rw [lg_entry_eq]
  generalize (lg_sl ([.ref (q 0), .int da]) ++ List.replicate (2 - (lg_sl ([.ref (q 0), .int da])).length) Slot.unset).toArray = ls at hl ⊢
  have hl : lv_has ls 2 [(0, .ref (q 0)), (1, .int da)] := hl
  subst hsz
  have hD := hD0.self (sz := s.heap.size)
  generalize hAe : va_A (wH cy q h) s.heap.size = A at hD ⊢
  have hA : ∀ q : Nat, s.heap.size ≤ q → A q := fun q h => by rw [← hAe]; exact Or.inr h
  have hS : va_S A s.heap s.heap [] := va_S.rf
  have hP : va_P D vwCl (wH cy q h) s.heap := hP
  refine lv_aload_n hx hb dX1_swell_0 rfl (lv_at hl 0 rfl) ?_
  refine lv_iload_n hx hb dX1_swell_1 rfl (lv_at hl 1 rfl) ?_
  refine lv_iconst (v := 5) hx hb dX1_swell_2 (by decide) ?_
  refine lv_icmp_lt (tgt := 20) hx hb dX1_swell_3 (by decide) (fun c3 => ?_) (fun c3 => ?_)
  · refine lv_iconst (v := 0) hx hb dX1_swell_20 (by decide) ?_
    refine lv_aload_n hx hb dX1_swell_21 rfl (lv_at hl 0 rfl) ?_
    refine va_get (D := D) (ci := 1) (v := .int (zl h)) (C := RX1) (T := TX1) (N := 8) hx hb hts inX1_swell_RX1 hown hK hP 0 rfl rfl 6 (by decide) (hts _ kX1_swell_0) (fun _ h9 => h9) rfl dX1_swell_22 ?_
    refine lv_iconst (v := 1) hx hb dX1_swell_25 (by decide) ?_
    refine lv_isub hx hb dX1_swell_26 ?_
    refine va_mmax hx hb (by rw [hml]; exact hl.1.symm) hown (hts _ kX1_swell_1) (hts _ kX1_swell_2) (hts _ kX1_swell_3) (hts _ kX1_swell_4) (Nat.le_of_ble_eq_true rfl) (Nat.le_of_ble_eq_true rfl) (Nat.le_of_ble_eq_true rfl) (Nat.le_of_ble_eq_true rfl) dX1_swell_27 ?_
    refine pc_top (show (if 0 < ((zl h) - 1) then ((zl h) - 1) else 0) = mx 0 ((zl h) - 1) from rfl) ?_
    refine va_put (D := D) (ci := 1) (v := .int (mx 0 ((zl h) - 1))) (ty := .int) (C := RX1) (T := TX1) (N := 8) hx hb hts inX1_swell_RX1 tyX1 tyX1_ok nmX1 hown hK hP hD hS 0 rfl rfl 6 (by decide) (hts _ kX1_swell_0) (fun _ h9 => h9) rfl (by decide +kernel) rfl rfl (Nat.le_of_ble_eq_true rfl) dX1_swell_30 (fun H locs hP hD hS => ?_)
    have hP : va_P D vwCl [(q 0, .inr (1, [.ref (q 1), .ref (q 2), .ref (q 3), .ref (q 4), .ref (q 5), .ref (q 6), .int (mx 0 ((zl h) - 1)), .int (nI (zh h))])), (q 1, .inl ((cy 0), 12, .inl (zb h))), (q 2, .inl ((cy 0), 12, .inl (zw h))), (q 3, .inl ((cy 0), 12, .inl (zd h))), (q 4, .inl ((cy 0), 12, .inl (zs h))), (q 5, .inl ((cy 0), 12, .inl (zr h))), (q 6, .inl ((cy 1), 12, .inl (zo h)))] H := hP
    have hD : va_D A [(q 0, .inr (1, [.ref (q 1), .ref (q 2), .ref (q 3), .ref (q 4), .ref (q 5), .ref (q 6), .int (mx 0 ((zl h) - 1)), .int (nI (zh h))])), (q 1, .inl ((cy 0), 12, .inl (zb h))), (q 2, .inl ((cy 0), 12, .inl (zw h))), (q 3, .inl ((cy 0), 12, .inl (zd h))), (q 4, .inl ((cy 0), 12, .inl (zs h))), (q 5, .inl ((cy 0), 12, .inl (zr h))), (q 6, .inl ((cy 1), 12, .inl (zo h)))] := hD
    have hP9 : va_P D vwCl (wH cy q (hSwell da h)) H := (by simp only [hSwell, swell, if_pos c3]; exact hP)
    have hD9 : va_D A (wH cy q (hSwell da h)) := (by simp only [hSwell, swell, if_pos c3]; exact hD)
    exact W.vret hx hb hr (fun t ht hW => ⟨⟨(), rfl, trivial, by rw [ht]; exact hP9, hD9⟩, hS.F ht⟩) hS.2.2 dX1_swell_33
  · refine lv_bipush (v := 30) hx hb dX1_swell_6 (by decide) ?_
    refine lv_aload_n hx hb dX1_swell_8 rfl (lv_at hl 0 rfl) ?_
    refine va_get (D := D) (ci := 1) (v := .int (zl h)) (C := RX1) (T := TX1) (N := 8) hx hb hts inX1_swell_RX1 hown hK hP 0 rfl rfl 6 (by decide) (hts _ kX1_swell_0) (fun _ h9 => h9) rfl dX1_swell_9 ?_
    refine lv_iconst (v := 1) hx hb dX1_swell_12 (by decide) ?_
    refine lv_iadd hx hb dX1_swell_13 ?_
    refine va_mmin hx hb (by rw [hml]; exact hl.1.symm) hown (hts _ kX1_swell_5) (hts _ kX1_swell_6) (hts _ kX1_swell_3) (hts _ kX1_swell_7) (Nat.le_of_ble_eq_true rfl) (Nat.le_of_ble_eq_true rfl) (Nat.le_of_ble_eq_true rfl) (Nat.le_of_ble_eq_true rfl) dX1_swell_14 ?_
    refine pc_top (show (if ((zl h) + 1) < 30 then ((zl h) + 1) else 30) = mn 30 ((zl h) + 1) from rfl) ?_
    refine lv_goto (tgt := 30) hx hb dX1_swell_17 (by decide) ?_
    refine va_put (D := D) (ci := 1) (v := .int (mn 30 ((zl h) + 1))) (ty := .int) (C := RX1) (T := TX1) (N := 8) hx hb hts inX1_swell_RX1 tyX1 tyX1_ok nmX1 hown hK hP hD hS 0 rfl rfl 6 (by decide) (hts _ kX1_swell_0) (fun _ h9 => h9) rfl (by decide +kernel) rfl rfl (Nat.le_of_ble_eq_true rfl) dX1_swell_30 (fun H locs hP hD hS => ?_)
    have hP : va_P D vwCl [(q 0, .inr (1, [.ref (q 1), .ref (q 2), .ref (q 3), .ref (q 4), .ref (q 5), .ref (q 6), .int (mn 30 ((zl h) + 1)), .int (nI (zh h))])), (q 1, .inl ((cy 0), 12, .inl (zb h))), (q 2, .inl ((cy 0), 12, .inl (zw h))), (q 3, .inl ((cy 0), 12, .inl (zd h))), (q 4, .inl ((cy 0), 12, .inl (zs h))), (q 5, .inl ((cy 0), 12, .inl (zr h))), (q 6, .inl ((cy 1), 12, .inl (zo h)))] H := hP
    have hD : va_D A [(q 0, .inr (1, [.ref (q 1), .ref (q 2), .ref (q 3), .ref (q 4), .ref (q 5), .ref (q 6), .int (mn 30 ((zl h) + 1)), .int (nI (zh h))])), (q 1, .inl ((cy 0), 12, .inl (zb h))), (q 2, .inl ((cy 0), 12, .inl (zw h))), (q 3, .inl ((cy 0), 12, .inl (zd h))), (q 4, .inl ((cy 0), 12, .inl (zs h))), (q 5, .inl ((cy 0), 12, .inl (zr h))), (q 6, .inl ((cy 1), 12, .inl (zo h)))] := hD
    have hP9 : va_P D vwCl (wH cy q (hSwell da h)) H := (by simp only [hSwell, swell, if_neg c3]; exact hP)
    have hD9 : va_D A (wH cy q (hSwell da h)) := (by simp only [hSwell, swell, if_neg c3]; exact hD)
    exact W.vret hx hb hr (fun t ht hW => ⟨⟨(), rfl, trivial, by rw [ht]; exact hP9, hD9⟩, hS.F ht⟩) hS.2.2 dX1_swell_33

theorem inX1_breaksIn_RX1 : ∀ w ∈ u_ws RX1 TX1 8, w ∈ wsX1_breaksIn := by decide +kernel
theorem kX1_breaksIn_0 : (.fieldLink RX1 21 "WedgeHarps$Harp" "strain" "[I" : Cond) ∈ wsX1_breaksIn := by decide +kernel
theorem kX1_breaksIn_1 : (.methodLink RX1 78 Lib.Math.max.name : Cond) ∈ wsX1_breaksIn := by decide +kernel
theorem kX1_breaksIn_2 : (.static Lib.Math.max.name : Cond) ∈ wsX1_breaksIn := by decide +kernel
theorem kX1_breaksIn_3 : (.initialized "java/lang/Math" : Cond) ∈ wsX1_breaksIn := by decide +kernel
theorem kX1_breaksIn_4 : (.code Lib.Math.max.name Lib.Math.max.code 2 (some .int) : Cond) ∈ wsX1_breaksIn := by decide +kernel
theorem kX1_breaksIn_5 : (.fieldLink RX1 27 "WedgeHarps$Harp" "whole" "[Z" : Cond) ∈ wsX1_breaksIn := by decide +kernel
theorem kX1_breaksIn_6 : (.fieldLink RX1 18 "WedgeHarps$Harp" "drift" "[I" : Cond) ∈ wsX1_breaksIn := by decide +kernel
theorem kX1_breaksIn_7 : (.fieldLink RX1 24 "WedgeHarps$Harp" "breaks" "[I" : Cond) ∈ wsX1_breaksIn := by decide +kernel
set_option maxHeartbeats 4000000 in
set_option maxRecDepth 100000 in
theorem mX1_breaksIn (l : Launch) (D : va_G) (cy : Nat → ClassId) (sz : Nat) (q : Nat → Nat) (h : HS) (k : Nat) (hk : k < 12) (wi : Int32) : Met l yX1_breaksIn wsX1_breaksIn ({ frames := 1, cells := 0, slots := 0, locals := 22 } : Room) (va_Pc [.ref (q 0), .int (nI k), .int wi] (fun U => U.heap.size = sz ∧ va_P D vwCl (wH cy q h) U.heap ∧ va_K D vwCl (TY cy) U ∧ va_D (fun _ => True) (wH cy q h))) (va_Qi (fun (r8 : Int32) (_ : Unit) => r8 = bI (decide (100 < pull wi h k))) (fun (_ : Unit) t => va_P D vwCl (wH cy q (hBrk wi h k)) t.heap ∧ va_D (va_A (wH cy q h) sz) (wH cy q (hBrk wi h k))) (va_A (wH cy q h) sz)) 0 0 (va_A (wH cy q h) sz) := by
  refine Met.ofW (cc := cX1_breaksIn) (maxL := 4) (ret := (some .boolean)) (by decide) rfl ?_
  intro p e s m args below meth c s₁ B hml hv
  obtain ⟨rfl, hsz, hP, hK, hD0⟩ := hv
  have hx := B.exec
  have hb := B.bytes
  have hr := B.returns
  have hts := atoms_spec (ws := wsX1_breaksIn) B.pre
  have hown : s.vm.findClass RX1 = some m.cls := findClass_of_methodNamed B.named
  have hlocks := B.notSynchronized
  have hl := lv_entry ([.ref (q 0), .int (nI k), .int wi]) (n := 4) (Nat.le_of_ble_eq_true rfl)
  rw [lg_entry_eq]
  generalize (lg_sl ([.ref (q 0), .int (nI k), .int wi]) ++ List.replicate (4 - (lg_sl ([.ref (q 0), .int (nI k), .int wi])).length) Slot.unset).toArray = ls at hl ⊢
  have hl : lv_has ls 4 [(0, .ref (q 0)), (1, .int (nI k)), (2, .int wi)] := hl
  subst hsz
  have hD := hD0.self (sz := s.heap.size)
  generalize hAe : va_A (wH cy q h) s.heap.size = A at hD ⊢
  have hA : ∀ q : Nat, s.heap.size ≤ q → A q := fun q h => by rw [← hAe]; exact Or.inr h
  have hS : va_S A s.heap s.heap [] := va_S.rf
  have hP : va_P D vwCl (wH cy q h) s.heap := hP
  refine lv_iconst (v := 0) hx hb dX1_breaksIn_0 (by decide) ?_
  refine lv_aload_n hx hb dX1_breaksIn_1 rfl (lv_at hl 0 rfl) ?_
  refine va_get (D := D) (ci := 1) (v := .ref (q 4)) (C := RX1) (T := TX1) (N := 8) hx hb hts inX1_breaksIn_RX1 hown hK hP 0 rfl rfl 3 (by decide) (hts _ kX1_breaksIn_0) (fun _ h9 => h9) rfl dX1_breaksIn_2 ?_
  refine lv_iload_n hx hb dX1_breaksIn_5 rfl (lv_at hl 1 rfl) ?_
  refine pc_iald hx hb hK hP 4 0 rfl rfl (k := k) (show k < 12 by omega) (by decide) dX1_breaksIn_6 ?_
  refine lv_iload_n hx hb dX1_breaksIn_7 rfl (lv_at hl 2 rfl) ?_
  refine lv_aload_n hx hb dX1_breaksIn_8 rfl (lv_at hl 0 rfl) ?_
  refine lv_iload_n hx hb dX1_breaksIn_9 rfl (lv_at hl 1 rfl) ?_
  refine pc_calli (va_runV (As := [.int (nI k)]) (rest := [.int wi, .int ((zs h) k), .int 0]) ⟨hx, hb, hml, hown, hts⟩ (mX1_toneOf l D cy q h k hk) (cwV 1 hts gX1_breaksIn_X1_toneOf rfl rfl rfl (by decide +kernel) ⟨Nat.le_of_ble_eq_true rfl, Nat.le_of_ble_eq_true rfl⟩) ⟨fun a U g mk q => ⟨q.1, q.2.1, va_K.moved (u := U) (U := U.calling g mk a) (Vm.Alike.refl U.vm) q.2.2⟩, va_recv hK hP (ci := 1) (q0 := 0) rfl rfl, fun U hU hW => ⟨rfl, by rw [hU]; exact hP, va_K.moved hW.alike hK⟩⟩ rfl rfl hl.1 rfl (lv_room (Nat.le_of_ble_eq_true rfl)) dX1_breaksIn_10 ⟨Nat.le_of_ble_eq_true rfl, Nat.le_of_ble_eq_true rfl⟩) (fun r9 hr9 => ?_)
  subst hr9
  refine lv_imul hx hb dX1_breaksIn_13 ?_
  refine lv_sipush (v := 1000) hx hb dX1_breaksIn_14 (by decide) ?_
  refine lv_idiv hx hb dX1_breaksIn_17 (by decide) ?_
  refine lv_iadd hx hb dX1_breaksIn_18 ?_
  refine lv_iconst (v := 2) hx hb dX1_breaksIn_19 (by decide) ?_
  refine lv_isub hx hb dX1_breaksIn_20 ?_
  refine va_mmax hx hb (by rw [hml]; exact hl.1.symm) hown (hts _ kX1_breaksIn_1) (hts _ kX1_breaksIn_2) (hts _ kX1_breaksIn_3) (hts _ kX1_breaksIn_4) (Nat.le_of_ble_eq_true rfl) (Nat.le_of_ble_eq_true rfl) (Nat.le_of_ble_eq_true rfl) (Nat.le_of_ble_eq_true rfl) dX1_breaksIn_21 ?_
  refine pc_top (show (if 0 < ((((zs h) k) + ((wi * (tone h k)) / 1000)) - 2) then ((((zs h) k) + ((wi * (tone h k)) / 1000)) - 2) else 0) = mx 0 ((((zs h) k) + ((wi * (tone h k)) / 1000)) - 2) from rfl) ?_
  refine pc_top (show mx 0 ((((zs h) k) + ((wi * (tone h k)) / 1000)) - 2) = pull wi h k from rfl) ?_
  refine lv_istore_n (lv' := [(3, .int (pull wi h k)), (0, .ref (q 0)), (1, .int (nI k)), (2, .int wi)]) hx hb dX1_breaksIn_24 rfl hl (by decide) rfl (fun ls hl => ?_)
  refine lv_iload_n hx hb dX1_breaksIn_25 rfl (lv_at hl 0 rfl) ?_
  refine lv_bipush (v := 100) hx hb dX1_breaksIn_26 (by decide) ?_
  refine lv_icmp_gt (tgt := 40) hx hb dX1_breaksIn_28 (by decide) (fun c28 => ?_) (fun c28 => ?_)
  · refine lv_aload_n hx hb dX1_breaksIn_40 rfl (lv_at hl 1 rfl) ?_
    refine va_get (D := D) (ci := 1) (v := .ref (q 6)) (C := RX1) (T := TX1) (N := 8) hx hb hts inX1_breaksIn_RX1 hown hK hP 0 rfl rfl 5 (by decide) (hts _ kX1_breaksIn_5) (fun _ h9 => h9) rfl dX1_breaksIn_41 ?_
    refine lv_iload_n hx hb dX1_breaksIn_44 rfl (lv_at hl 2 rfl) ?_
    refine lv_iconst (v := 0) hx hb dX1_breaksIn_45 (by decide) ?_
    refine pc_zast hx hb hK hP hD hS 6 1 rfl rfl (by decide) (k := k) (show k < 12 by omega) (by decide) dX1_breaksIn_46 (fun H locs hP hD hS => ?_)
    have hP : va_P D vwCl [(q 0, .inr (1, [.ref (q 1), .ref (q 2), .ref (q 3), .ref (q 4), .ref (q 5), .ref (q 6), .int (zl h), .int (nI (zh h))])), (q 1, .inl ((cy 0), 12, .inl (zb h))), (q 2, .inl ((cy 0), 12, .inl (zw h))), (q 3, .inl ((cy 0), 12, .inl (zd h))), (q 4, .inl ((cy 0), 12, .inl (zs h))), (q 5, .inl ((cy 0), 12, .inl (zr h))), (q 6, .inl ((cy 1), 12, .inl (upd (zo h) k 0)))] H := hP
    have hD : va_D A [(q 0, .inr (1, [.ref (q 1), .ref (q 2), .ref (q 3), .ref (q 4), .ref (q 5), .ref (q 6), .int (zl h), .int (nI (zh h))])), (q 1, .inl ((cy 0), 12, .inl (zb h))), (q 2, .inl ((cy 0), 12, .inl (zw h))), (q 3, .inl ((cy 0), 12, .inl (zd h))), (q 4, .inl ((cy 0), 12, .inl (zs h))), (q 5, .inl ((cy 0), 12, .inl (zr h))), (q 6, .inl ((cy 1), 12, .inl (upd (zo h) k 0)))] := hD
    refine lv_aload_n hx hb dX1_breaksIn_47 rfl (lv_at hl 1 rfl) ?_
    refine va_get (D := D) (ci := 1) (v := .ref (q 4)) (C := RX1) (T := TX1) (N := 8) hx hb hts inX1_breaksIn_RX1 hown hK hP 0 rfl rfl 3 (by decide) (hts _ kX1_breaksIn_0) (fun _ h9 => h9) rfl dX1_breaksIn_48 ?_
    refine lv_iload_n hx hb dX1_breaksIn_51 rfl (lv_at hl 2 rfl) ?_
    refine lv_iconst (v := 0) hx hb dX1_breaksIn_52 (by decide) ?_
    refine pc_iast hx hb hK hP hD hS 4 0 rfl rfl (k := k) (show k < 12 by omega) (by decide) dX1_breaksIn_53 (fun H locs hP hD hS => ?_)
    have hP : va_P D vwCl [(q 0, .inr (1, [.ref (q 1), .ref (q 2), .ref (q 3), .ref (q 4), .ref (q 5), .ref (q 6), .int (zl h), .int (nI (zh h))])), (q 1, .inl ((cy 0), 12, .inl (zb h))), (q 2, .inl ((cy 0), 12, .inl (zw h))), (q 3, .inl ((cy 0), 12, .inl (zd h))), (q 4, .inl ((cy 0), 12, .inl (upd (zs h) k 0))), (q 5, .inl ((cy 0), 12, .inl (zr h))), (q 6, .inl ((cy 1), 12, .inl (upd (zo h) k 0)))] H := hP
    have hD : va_D A [(q 0, .inr (1, [.ref (q 1), .ref (q 2), .ref (q 3), .ref (q 4), .ref (q 5), .ref (q 6), .int (zl h), .int (nI (zh h))])), (q 1, .inl ((cy 0), 12, .inl (zb h))), (q 2, .inl ((cy 0), 12, .inl (zw h))), (q 3, .inl ((cy 0), 12, .inl (zd h))), (q 4, .inl ((cy 0), 12, .inl (upd (zs h) k 0))), (q 5, .inl ((cy 0), 12, .inl (zr h))), (q 6, .inl ((cy 1), 12, .inl (upd (zo h) k 0)))] := hD
    refine lv_aload_n hx hb dX1_breaksIn_54 rfl (lv_at hl 1 rfl) ?_
    refine va_get (D := D) (ci := 1) (v := .ref (q 3)) (C := RX1) (T := TX1) (N := 8) hx hb hts inX1_breaksIn_RX1 hown hK hP 0 rfl rfl 2 (by decide) (hts _ kX1_breaksIn_6) (fun _ h9 => h9) rfl dX1_breaksIn_55 ?_
    refine lv_iload_n hx hb dX1_breaksIn_58 rfl (lv_at hl 2 rfl) ?_
    refine lv_iconst (v := 0) hx hb dX1_breaksIn_59 (by decide) ?_
    refine pc_iast hx hb hK hP hD hS 3 0 rfl rfl (k := k) (show k < 12 by omega) (by decide) dX1_breaksIn_60 (fun H locs hP hD hS => ?_)
    have hP : va_P D vwCl [(q 0, .inr (1, [.ref (q 1), .ref (q 2), .ref (q 3), .ref (q 4), .ref (q 5), .ref (q 6), .int (zl h), .int (nI (zh h))])), (q 1, .inl ((cy 0), 12, .inl (zb h))), (q 2, .inl ((cy 0), 12, .inl (zw h))), (q 3, .inl ((cy 0), 12, .inl (upd (zd h) k 0))), (q 4, .inl ((cy 0), 12, .inl (upd (zs h) k 0))), (q 5, .inl ((cy 0), 12, .inl (zr h))), (q 6, .inl ((cy 1), 12, .inl (upd (zo h) k 0)))] H := hP
    have hD : va_D A [(q 0, .inr (1, [.ref (q 1), .ref (q 2), .ref (q 3), .ref (q 4), .ref (q 5), .ref (q 6), .int (zl h), .int (nI (zh h))])), (q 1, .inl ((cy 0), 12, .inl (zb h))), (q 2, .inl ((cy 0), 12, .inl (zw h))), (q 3, .inl ((cy 0), 12, .inl (upd (zd h) k 0))), (q 4, .inl ((cy 0), 12, .inl (upd (zs h) k 0))), (q 5, .inl ((cy 0), 12, .inl (zr h))), (q 6, .inl ((cy 1), 12, .inl (upd (zo h) k 0)))] := hD
    refine lv_aload_n hx hb dX1_breaksIn_61 rfl (lv_at hl 1 rfl) ?_
    refine va_get (D := D) (ci := 1) (v := .ref (q 5)) (C := RX1) (T := TX1) (N := 8) hx hb hts inX1_breaksIn_RX1 hown hK hP 0 rfl rfl 4 (by decide) (hts _ kX1_breaksIn_7) (fun _ h9 => h9) rfl dX1_breaksIn_62 ?_
    refine lv_iload_n hx hb dX1_breaksIn_65 rfl (lv_at hl 2 rfl) ?_
    refine lv_dup2_11 hx hb dX1_breaksIn_66 rfl rfl ?_
    refine pc_iald hx hb hK hP 5 0 rfl rfl (k := k) (show k < 12 by omega) (by decide) dX1_breaksIn_67 ?_
    refine lv_iconst (v := 1) hx hb dX1_breaksIn_68 (by decide) ?_
    refine lv_iadd hx hb dX1_breaksIn_69 ?_
    refine pc_iast hx hb hK hP hD hS 5 0 rfl rfl (k := k) (show k < 12 by omega) (by decide) dX1_breaksIn_70 (fun H locs hP hD hS => ?_)
    have hP : va_P D vwCl [(q 0, .inr (1, [.ref (q 1), .ref (q 2), .ref (q 3), .ref (q 4), .ref (q 5), .ref (q 6), .int (zl h), .int (nI (zh h))])), (q 1, .inl ((cy 0), 12, .inl (zb h))), (q 2, .inl ((cy 0), 12, .inl (zw h))), (q 3, .inl ((cy 0), 12, .inl (upd (zd h) k 0))), (q 4, .inl ((cy 0), 12, .inl (upd (zs h) k 0))), (q 5, .inl ((cy 0), 12, .inl (upd (zr h) k (((zr h) k) + 1)))), (q 6, .inl ((cy 1), 12, .inl (upd (zo h) k 0)))] H := hP
    have hD : va_D A [(q 0, .inr (1, [.ref (q 1), .ref (q 2), .ref (q 3), .ref (q 4), .ref (q 5), .ref (q 6), .int (zl h), .int (nI (zh h))])), (q 1, .inl ((cy 0), 12, .inl (zb h))), (q 2, .inl ((cy 0), 12, .inl (zw h))), (q 3, .inl ((cy 0), 12, .inl (upd (zd h) k 0))), (q 4, .inl ((cy 0), 12, .inl (upd (zs h) k 0))), (q 5, .inl ((cy 0), 12, .inl (upd (zr h) k (((zr h) k) + 1)))), (q 6, .inl ((cy 1), 12, .inl (upd (zo h) k 0)))] := hD
    refine lv_iconst (v := 1) hx hb dX1_breaksIn_71 (by decide) ?_
    have hP9 : va_P D vwCl (wH cy q (hBrk wi h k)) H := (by simp only [hBrk, if_pos c28]; exact hP)
    have hD9 : va_D A (wH cy q (hBrk wi h k)) := (by simp only [hBrk, if_pos c28]; exact hD)
    exact W.zret (v := 1) hx hb hr (by decide) (fun t ht hW => ⟨⟨1, (), rfl, (by rw [decide_eq_true c28]; rfl), by rw [ht]; exact hP9, hD9⟩, hS.F ht⟩) hS.2.2 dX1_breaksIn_72
  · refine lv_aload_n hx hb dX1_breaksIn_31 rfl (lv_at hl 1 rfl) ?_
    refine va_get (D := D) (ci := 1) (v := .ref (q 4)) (C := RX1) (T := TX1) (N := 8) hx hb hts inX1_breaksIn_RX1 hown hK hP 0 rfl rfl 3 (by decide) (hts _ kX1_breaksIn_0) (fun _ h9 => h9) rfl dX1_breaksIn_32 ?_
    refine lv_iload_n hx hb dX1_breaksIn_35 rfl (lv_at hl 2 rfl) ?_
    refine lv_iload_n hx hb dX1_breaksIn_36 rfl (lv_at hl 0 rfl) ?_
    refine pc_iast hx hb hK hP hD hS 4 0 rfl rfl (k := k) (show k < 12 by omega) (by decide) dX1_breaksIn_37 (fun H locs hP hD hS => ?_)
    have hP : va_P D vwCl [(q 0, .inr (1, [.ref (q 1), .ref (q 2), .ref (q 3), .ref (q 4), .ref (q 5), .ref (q 6), .int (zl h), .int (nI (zh h))])), (q 1, .inl ((cy 0), 12, .inl (zb h))), (q 2, .inl ((cy 0), 12, .inl (zw h))), (q 3, .inl ((cy 0), 12, .inl (zd h))), (q 4, .inl ((cy 0), 12, .inl (upd (zs h) k (pull wi h k)))), (q 5, .inl ((cy 0), 12, .inl (zr h))), (q 6, .inl ((cy 1), 12, .inl (zo h)))] H := hP
    have hD : va_D A [(q 0, .inr (1, [.ref (q 1), .ref (q 2), .ref (q 3), .ref (q 4), .ref (q 5), .ref (q 6), .int (zl h), .int (nI (zh h))])), (q 1, .inl ((cy 0), 12, .inl (zb h))), (q 2, .inl ((cy 0), 12, .inl (zw h))), (q 3, .inl ((cy 0), 12, .inl (zd h))), (q 4, .inl ((cy 0), 12, .inl (upd (zs h) k (pull wi h k)))), (q 5, .inl ((cy 0), 12, .inl (zr h))), (q 6, .inl ((cy 1), 12, .inl (zo h)))] := hD
    refine lv_iconst (v := 0) hx hb dX1_breaksIn_38 (by decide) ?_
    have hP9 : va_P D vwCl (wH cy q (hBrk wi h k)) H := (by simp only [hBrk, if_neg c28]; exact hP)
    have hD9 : va_D A (wH cy q (hBrk wi h k)) := (by simp only [hBrk, if_neg c28]; exact hD)
    exact W.zret (v := 0) hx hb hr (by decide) (fun t ht hW => ⟨⟨0, (), rfl, (by rw [decide_eq_false c28]; rfl), by rw [ht]; exact hP9, hD9⟩, hS.F ht⟩) hS.2.2 dX1_breaksIn_39

set_option maxHeartbeats 4000000 in
set_option maxRecDepth 100000 in
theorem mJ9_floorMod_7cf53 (l : Launch) (D : va_G) (cy : Nat → ClassId) (a : Nat) (ha : a < 2147483648) : Met l yJ9_floorMod_7cf53 wsJ9_floorMod_7cf53 ({ frames := 0, cells := 0, slots := 0, locals := 0 } : Room) (va_Pc [.int (nI a), .int 12] (fun _ => True)) (vp_Si (fun r8 => r8 = nI (a % 12))) 0 0 (fun _ => False) := by
  refine va_MetF (cc := cJ9_floorMod_7cf53) (maxL := 3) (ret := (some .int)) (by decide +kernel) rfl ?_
  intro p e s m args below meth c s₁ B hml hv
  obtain ⟨rfl, -⟩ := hv
  have hx := B.exec
  have hb := B.bytes
  have hr := B.returns
  have hts := atoms_spec (ws := wsJ9_floorMod_7cf53) B.pre
  have hown : s.vm.findClass RJ9 = some m.cls := findClass_of_methodNamed B.named
  have hlocks := B.notSynchronized
  have hl := lv_entry ([.int (nI a), .int 12]) (n := 3) (Nat.le_of_ble_eq_true rfl)
  rw [lg_entry_eq]
  generalize (lg_sl ([.int (nI a), .int 12]) ++ List.replicate (3 - (lg_sl ([.int (nI a), .int 12])).length) Slot.unset).toArray = ls at hl ⊢
  have hl : lv_has ls 3 [(0, .int (nI a)), (1, .int 12)] := hl
  refine lv_iload_n hx hb dJ9_floorMod_7cf53_0 rfl (lv_at hl 0 rfl) ?_
  refine lv_iload_n hx hb dJ9_floorMod_7cf53_1 rfl (lv_at hl 1 rfl) ?_
  refine lv_irem hx hb dJ9_floorMod_7cf53_2 (by decide) ?_
  refine pc_top (show (nI a) - (nI a) / 12 * 12 = nI (a % 12) from pk_rem ha (by decide) (by decide)) ?_
  refine lv_istore_n (lv' := [(2, .int (nI (a % 12))), (0, .int (nI a)), (1, .int 12)]) hx hb dJ9_floorMod_7cf53_3 rfl hl (by decide) rfl (fun ls hl => ?_)
  refine lv_iload_n hx hb dJ9_floorMod_7cf53_4 rfl (lv_at hl 1 rfl) ?_
  refine lv_iload_n hx hb dJ9_floorMod_7cf53_5 rfl (lv_at hl 2 rfl) ?_
  refine lv_ixor hx hb dJ9_floorMod_7cf53_6 ?_
  refine lv_if_ge (tgt := 18) hx hb dJ9_floorMod_7cf53_7 (by decide) (fun c7 => ?_) (fun c7 => absurd c7 (nI_xor12 ha))
  refine lv_iload_n hx hb dJ9_floorMod_7cf53_18 rfl (lv_at hl 0 rfl) ?_
  exact W.iret (v := nI (a % 12)) hx hb hr (fun t ht hW => ⟨nI (a % 12), rfl, rfl, ht⟩) (fun q hq => absurd hq List.not_mem_nil) dJ9_floorMod_7cf53_19

theorem inX1_copy_RX1 : ∀ w ∈ u_ws RX1 TX1 8, w ∈ wsX1_copy := by decide +kernel
theorem kX1_copy_0 : (.fieldLink RX1 31 "WedgeHarps$Harp" "swelling" "I" : Cond) ∈ wsX1_copy := by decide +kernel
theorem kX1_copy_1 : (.fieldLink RX1 35 "WedgeHarps$Harp" "hour" "I" : Cond) ∈ wsX1_copy := by decide +kernel
theorem kX1_copy_2 : (.fieldLink RX1 9 "WedgeHarps$Harp" "base" "[I" : Cond) ∈ wsX1_copy := by decide +kernel
theorem kX1_copy_3 : (.fieldLink RX1 15 "WedgeHarps$Harp" "wedge" "[I" : Cond) ∈ wsX1_copy := by decide +kernel
theorem kX1_copy_4 : (.fieldLink RX1 18 "WedgeHarps$Harp" "drift" "[I" : Cond) ∈ wsX1_copy := by decide +kernel
theorem kX1_copy_5 : (.fieldLink RX1 21 "WedgeHarps$Harp" "strain" "[I" : Cond) ∈ wsX1_copy := by decide +kernel
theorem kX1_copy_6 : (.fieldLink RX1 24 "WedgeHarps$Harp" "breaks" "[I" : Cond) ∈ wsX1_copy := by decide +kernel
theorem kX1_copy_7 : (.fieldLink RX1 27 "WedgeHarps$Harp" "whole" "[Z" : Cond) ∈ wsX1_copy := by decide +kernel
set_option maxHeartbeats 4000000 in
set_option maxRecDepth 100000 in
theorem mX1_copy (l : Launch) (D : va_G) (cy : Nat → ClassId) (sz : Nat) (q q2 : Nat → Nat) (h h2 : HS) (ho : ok01 h2) : Met l yX1_copy wsX1_copy ({ frames := 0, cells := 0, slots := 0, locals := 0 } : Room) (va_Pc [.ref (q 0), .ref (q2 0)] (fun U => U.heap.size = sz ∧ va_P D vwCl (wH cy q h ++ wH cy q2 h2) U.heap ∧ va_K D vwCl (TY cy) U ∧ va_D (fun _ => True) (wH cy q h ++ wH cy q2 h2))) (va_Qv (fun (_ : Unit) => True) (fun (_ : Unit) t => va_P D vwCl (wH cy q h2 ++ wH cy q2 h2) t.heap ∧ va_D (va_A (wH cy q h ++ wH cy q2 h2) sz) (wH cy q h2 ++ wH cy q2 h2)) (va_A (wH cy q h ++ wH cy q2 h2) sz)) 0 0 (va_A (wH cy q h ++ wH cy q2 h2) sz) := by
  refine Met.ofW (cc := cX1_copy) (maxL := 3) (ret := none) (by decide) rfl ?_
  intro p e s m args below meth c s₁ B hml hv
  obtain ⟨rfl, hsz, hP, hK, hD0⟩ := hv
  have hx := B.exec
  have hb := B.bytes
  have hr := B.returns
  have hts := atoms_spec (ws := wsX1_copy) B.pre
  have hown : s.vm.findClass RX1 = some m.cls := findClass_of_methodNamed B.named
  have hlocks := B.notSynchronized
  have hl := lv_entry ([.ref (q 0), .ref (q2 0)]) (n := 3) (Nat.le_of_ble_eq_true rfl)
  rw [lg_entry_eq]
  generalize (lg_sl ([.ref (q 0), .ref (q2 0)]) ++ List.replicate (3 - (lg_sl ([.ref (q 0), .ref (q2 0)])).length) Slot.unset).toArray = ls at hl ⊢
  have hl : lv_has ls 3 [(0, .ref (q 0)), (1, .ref (q2 0))] := hl
  subst hsz
  have hD := hD0.self (sz := s.heap.size)
  generalize hAe : va_A (wH cy q h ++ wH cy q2 h2) s.heap.size = A at hD ⊢
  have hA : ∀ q : Nat, s.heap.size ≤ q → A q := fun q h => by rw [← hAe]; exact Or.inr h
  have hS : va_S A s.heap s.heap [] := va_S.rf
  have hP : va_P D vwCl (wH cy q h ++ wH cy q2 h2) s.heap := hP
  refine lv_iconst (v := 0) hx hb dX1_copy_0 (by decide) ?_
  refine lv_istore_n (lv' := [(2, .int 0), (0, .ref (q 0)), (1, .ref (q2 0))]) hx hb dX1_copy_1 rfl hl (by decide) rfl (fun ls hl => ?_)
  have loop2 : ∀ (n9 : Nat) (k : Nat), k ≤ 12 → 12 - k < n9 → ∀ (H : Heap) (locs : List Loc), va_P D vwCl (wH cy q (hCp k h h2) ++ wH cy q2 h2) H → va_D A (wH cy q (hCp k h h2) ++ wH cy q2 h2) → va_S A s.heap H locs → ∀ ls : Array Slot, lv_has ls 3 [(0, .ref (q 0)), (1, .ref (q2 0)), (2, .int (nI k))] → W p l e (headSpec wsX1_copy ({ frames := 0, cells := 0, slots := 0, locals := 0 } : Room)).room s m ([.ref (q 0), .ref (q2 0)] : List Value).toArray below meth c H locs 0 0 (MQ below (va_Qv (fun (_ : Unit) => True) (fun (_ : Unit) t => va_P D vwCl (wH cy q h2 ++ wH cy q2 h2) t.heap ∧ va_D A (wH cy q h2 ++ wH cy q2 h2)) A) ([.ref (q 0), .ref (q2 0)] : List Value).toArray s 0 0 A) (F0 m 2 ls []) := by
    intro n9
    induction n9 with
    | zero => intro k hk h9 H locs hP hD hS ls hl; exact absurd h9 (by omega)
    | succ n9 ih2 =>
      intro k hk h9 H locs hP hD hS ls hl
      refine lv_iload_n hx hb dX1_copy_2 rfl (lv_at hl 2 rfl) ?_
      refine lv_bipush (v := 12) hx hb dX1_copy_3 (by decide) ?_
      refine lv_icmp_ge (tgt := 86) hx hb dX1_copy_5 (by decide) (fun c5 => ?_) (fun c5 => ?_)
      · have n5 : 12 ≤ k := (nI_leI (a := 12) (b := k) (by omega) (by omega)).mp c5
        obtain rfl : k = 12 := by omega
        refine lv_aload_n hx hb dX1_copy_86 rfl (lv_at hl 0 rfl) ?_
        refine lv_aload_n hx hb dX1_copy_87 rfl (lv_at hl 1 rfl) ?_
        refine va_get (D := D) (ci := 1) (v := .int (zl h2)) (C := RX1) (T := TX1) (N := 8) hx hb hts inX1_copy_RX1 hown hK hP 7 rfl rfl 6 (by decide) (hts _ kX1_copy_0) (fun _ h9 => h9) rfl dX1_copy_88 ?_
        refine va_put (D := D) (ci := 1) (v := .int (zl h2)) (ty := .int) (C := RX1) (T := TX1) (N := 8) hx hb hts inX1_copy_RX1 tyX1 tyX1_ok nmX1 hown hK hP hD hS 0 rfl rfl 6 (by decide) (hts _ kX1_copy_0) (fun _ h9 => h9) rfl (by decide +kernel) rfl rfl (Nat.le_of_ble_eq_true rfl) dX1_copy_91 (fun H locs hP hD hS => ?_)
        have hP : va_P D vwCl [(q 0, .inr (1, [.ref (q 1), .ref (q 2), .ref (q 3), .ref (q 4), .ref (q 5), .ref (q 6), .int (zl h2), .int (nI (zh (hCp 12 h h2)))])), (q 1, .inl ((cy 0), 12, .inl (zb (hCp 12 h h2)))), (q 2, .inl ((cy 0), 12, .inl (zw (hCp 12 h h2)))), (q 3, .inl ((cy 0), 12, .inl (zd (hCp 12 h h2)))), (q 4, .inl ((cy 0), 12, .inl (zs (hCp 12 h h2)))), (q 5, .inl ((cy 0), 12, .inl (zr (hCp 12 h h2)))), (q 6, .inl ((cy 1), 12, .inl (zo (hCp 12 h h2)))), (q2 0, .inr (1, [.ref (q2 1), .ref (q2 2), .ref (q2 3), .ref (q2 4), .ref (q2 5), .ref (q2 6), .int (zl h2), .int (nI (zh h2))])), (q2 1, .inl ((cy 0), 12, .inl (zb h2))), (q2 2, .inl ((cy 0), 12, .inl (zw h2))), (q2 3, .inl ((cy 0), 12, .inl (zd h2))), (q2 4, .inl ((cy 0), 12, .inl (zs h2))), (q2 5, .inl ((cy 0), 12, .inl (zr h2))), (q2 6, .inl ((cy 1), 12, .inl (zo h2)))] H := hP
        have hD : va_D A [(q 0, .inr (1, [.ref (q 1), .ref (q 2), .ref (q 3), .ref (q 4), .ref (q 5), .ref (q 6), .int (zl h2), .int (nI (zh (hCp 12 h h2)))])), (q 1, .inl ((cy 0), 12, .inl (zb (hCp 12 h h2)))), (q 2, .inl ((cy 0), 12, .inl (zw (hCp 12 h h2)))), (q 3, .inl ((cy 0), 12, .inl (zd (hCp 12 h h2)))), (q 4, .inl ((cy 0), 12, .inl (zs (hCp 12 h h2)))), (q 5, .inl ((cy 0), 12, .inl (zr (hCp 12 h h2)))), (q 6, .inl ((cy 1), 12, .inl (zo (hCp 12 h h2)))), (q2 0, .inr (1, [.ref (q2 1), .ref (q2 2), .ref (q2 3), .ref (q2 4), .ref (q2 5), .ref (q2 6), .int (zl h2), .int (nI (zh h2))])), (q2 1, .inl ((cy 0), 12, .inl (zb h2))), (q2 2, .inl ((cy 0), 12, .inl (zw h2))), (q2 3, .inl ((cy 0), 12, .inl (zd h2))), (q2 4, .inl ((cy 0), 12, .inl (zs h2))), (q2 5, .inl ((cy 0), 12, .inl (zr h2))), (q2 6, .inl ((cy 1), 12, .inl (zo h2)))] := hD
        refine lv_aload_n hx hb dX1_copy_94 rfl (lv_at hl 0 rfl) ?_
        refine lv_aload_n hx hb dX1_copy_95 rfl (lv_at hl 1 rfl) ?_
        refine va_get (D := D) (ci := 1) (v := .int (nI (zh h2))) (C := RX1) (T := TX1) (N := 8) hx hb hts inX1_copy_RX1 hown hK hP 7 rfl rfl 7 (by decide) (hts _ kX1_copy_1) (fun _ h9 => h9) rfl dX1_copy_96 ?_
        refine va_put (D := D) (ci := 1) (v := .int (nI (zh h2))) (ty := .int) (C := RX1) (T := TX1) (N := 8) hx hb hts inX1_copy_RX1 tyX1 tyX1_ok nmX1 hown hK hP hD hS 0 rfl rfl 7 (by decide) (hts _ kX1_copy_1) (fun _ h9 => h9) rfl (by decide +kernel) rfl rfl (Nat.le_of_ble_eq_true rfl) dX1_copy_99 (fun H locs hP hD hS => ?_)
        have hP : va_P D vwCl [(q 0, .inr (1, [.ref (q 1), .ref (q 2), .ref (q 3), .ref (q 4), .ref (q 5), .ref (q 6), .int (zl h2), .int (nI (zh h2))])), (q 1, .inl ((cy 0), 12, .inl (zb (hCp 12 h h2)))), (q 2, .inl ((cy 0), 12, .inl (zw (hCp 12 h h2)))), (q 3, .inl ((cy 0), 12, .inl (zd (hCp 12 h h2)))), (q 4, .inl ((cy 0), 12, .inl (zs (hCp 12 h h2)))), (q 5, .inl ((cy 0), 12, .inl (zr (hCp 12 h h2)))), (q 6, .inl ((cy 1), 12, .inl (zo (hCp 12 h h2)))), (q2 0, .inr (1, [.ref (q2 1), .ref (q2 2), .ref (q2 3), .ref (q2 4), .ref (q2 5), .ref (q2 6), .int (zl h2), .int (nI (zh h2))])), (q2 1, .inl ((cy 0), 12, .inl (zb h2))), (q2 2, .inl ((cy 0), 12, .inl (zw h2))), (q2 3, .inl ((cy 0), 12, .inl (zd h2))), (q2 4, .inl ((cy 0), 12, .inl (zs h2))), (q2 5, .inl ((cy 0), 12, .inl (zr h2))), (q2 6, .inl ((cy 1), 12, .inl (zo h2)))] H := hP
        have hD : va_D A [(q 0, .inr (1, [.ref (q 1), .ref (q 2), .ref (q 3), .ref (q 4), .ref (q 5), .ref (q 6), .int (zl h2), .int (nI (zh h2))])), (q 1, .inl ((cy 0), 12, .inl (zb (hCp 12 h h2)))), (q 2, .inl ((cy 0), 12, .inl (zw (hCp 12 h h2)))), (q 3, .inl ((cy 0), 12, .inl (zd (hCp 12 h h2)))), (q 4, .inl ((cy 0), 12, .inl (zs (hCp 12 h h2)))), (q 5, .inl ((cy 0), 12, .inl (zr (hCp 12 h h2)))), (q 6, .inl ((cy 1), 12, .inl (zo (hCp 12 h h2)))), (q2 0, .inr (1, [.ref (q2 1), .ref (q2 2), .ref (q2 3), .ref (q2 4), .ref (q2 5), .ref (q2 6), .int (zl h2), .int (nI (zh h2))])), (q2 1, .inl ((cy 0), 12, .inl (zb h2))), (q2 2, .inl ((cy 0), 12, .inl (zw h2))), (q2 3, .inl ((cy 0), 12, .inl (zd h2))), (q2 4, .inl ((cy 0), 12, .inl (zs h2))), (q2 5, .inl ((cy 0), 12, .inl (zr h2))), (q2 6, .inl ((cy 1), 12, .inl (zo h2)))] := hD
        have hP9 : va_P D vwCl (wH cy q h2 ++ wH cy q2 h2) H := (va_P_row (g := zo h2) (va_P_row (g := zr h2) (va_P_row (g := zs h2) (va_P_row (g := zd h2) (va_P_row (g := zw h2) (va_P_row (g := zb h2) hP 1 rfl (fun j hj => if_pos ⟨Nat.zero_le _, hj⟩)) 2 rfl (fun j hj => if_pos ⟨Nat.zero_le _, hj⟩)) 3 rfl (fun j hj => if_pos ⟨Nat.zero_le _, hj⟩)) 4 rfl (fun j hj => if_pos ⟨Nat.zero_le _, hj⟩)) 5 rfl (fun j hj => if_pos ⟨Nat.zero_le _, hj⟩)) 6 rfl (fun j hj => if_pos ⟨Nat.zero_le _, hj⟩))
        have hD9 : va_D A (wH cy q h2 ++ wH cy q2 h2) := (va_D_addr hD rfl)
        exact W.vret hx hb hr (fun t ht hW => ⟨⟨(), rfl, trivial, by rw [ht]; exact hP9, hD9⟩, hS.F ht⟩) hS.2.2 dX1_copy_102
      · have n5 : ¬ (12 ≤ k) := fun h9 => c5 ((nI_leI (a := 12) (b := k) (by omega) (by omega)).mpr h9)
        refine lv_aload_n hx hb dX1_copy_8 rfl (lv_at hl 0 rfl) ?_
        refine va_get (D := D) (ci := 1) (v := .ref (q 1)) (C := RX1) (T := TX1) (N := 8) hx hb hts inX1_copy_RX1 hown hK hP 0 rfl rfl 0 (by decide) (hts _ kX1_copy_2) (fun _ h9 => h9) rfl dX1_copy_9 ?_
        refine lv_iload_n hx hb dX1_copy_12 rfl (lv_at hl 2 rfl) ?_
        refine lv_aload_n hx hb dX1_copy_13 rfl (lv_at hl 1 rfl) ?_
        refine va_get (D := D) (ci := 1) (v := .ref (q2 1)) (C := RX1) (T := TX1) (N := 8) hx hb hts inX1_copy_RX1 hown hK hP 7 rfl rfl 0 (by decide) (hts _ kX1_copy_2) (fun _ h9 => h9) rfl dX1_copy_14 ?_
        refine lv_iload_n hx hb dX1_copy_17 rfl (lv_at hl 2 rfl) ?_
        refine pc_iald hx hb hK hP 8 0 rfl rfl (k := k) (show k < 12 by omega) (by decide) dX1_copy_18 ?_
        refine pc_iast hx hb hK hP hD hS 1 0 rfl rfl (k := k) (show k < 12 by omega) (by decide) dX1_copy_19 (fun H locs hP hD hS => ?_)
        have hP : va_P D vwCl [(q 0, .inr (1, [.ref (q 1), .ref (q 2), .ref (q 3), .ref (q 4), .ref (q 5), .ref (q 6), .int (zl (hCp k h h2)), .int (nI (zh (hCp k h h2)))])), (q 1, .inl ((cy 0), 12, .inl (upd (zb (hCp k h h2)) k ((zb h2) k)))), (q 2, .inl ((cy 0), 12, .inl (zw (hCp k h h2)))), (q 3, .inl ((cy 0), 12, .inl (zd (hCp k h h2)))), (q 4, .inl ((cy 0), 12, .inl (zs (hCp k h h2)))), (q 5, .inl ((cy 0), 12, .inl (zr (hCp k h h2)))), (q 6, .inl ((cy 1), 12, .inl (zo (hCp k h h2)))), (q2 0, .inr (1, [.ref (q2 1), .ref (q2 2), .ref (q2 3), .ref (q2 4), .ref (q2 5), .ref (q2 6), .int (zl h2), .int (nI (zh h2))])), (q2 1, .inl ((cy 0), 12, .inl (zb h2))), (q2 2, .inl ((cy 0), 12, .inl (zw h2))), (q2 3, .inl ((cy 0), 12, .inl (zd h2))), (q2 4, .inl ((cy 0), 12, .inl (zs h2))), (q2 5, .inl ((cy 0), 12, .inl (zr h2))), (q2 6, .inl ((cy 1), 12, .inl (zo h2)))] H := hP
        have hD : va_D A [(q 0, .inr (1, [.ref (q 1), .ref (q 2), .ref (q 3), .ref (q 4), .ref (q 5), .ref (q 6), .int (zl (hCp k h h2)), .int (nI (zh (hCp k h h2)))])), (q 1, .inl ((cy 0), 12, .inl (upd (zb (hCp k h h2)) k ((zb h2) k)))), (q 2, .inl ((cy 0), 12, .inl (zw (hCp k h h2)))), (q 3, .inl ((cy 0), 12, .inl (zd (hCp k h h2)))), (q 4, .inl ((cy 0), 12, .inl (zs (hCp k h h2)))), (q 5, .inl ((cy 0), 12, .inl (zr (hCp k h h2)))), (q 6, .inl ((cy 1), 12, .inl (zo (hCp k h h2)))), (q2 0, .inr (1, [.ref (q2 1), .ref (q2 2), .ref (q2 3), .ref (q2 4), .ref (q2 5), .ref (q2 6), .int (zl h2), .int (nI (zh h2))])), (q2 1, .inl ((cy 0), 12, .inl (zb h2))), (q2 2, .inl ((cy 0), 12, .inl (zw h2))), (q2 3, .inl ((cy 0), 12, .inl (zd h2))), (q2 4, .inl ((cy 0), 12, .inl (zs h2))), (q2 5, .inl ((cy 0), 12, .inl (zr h2))), (q2 6, .inl ((cy 1), 12, .inl (zo h2)))] := hD
        refine lv_aload_n hx hb dX1_copy_20 rfl (lv_at hl 0 rfl) ?_
        refine va_get (D := D) (ci := 1) (v := .ref (q 2)) (C := RX1) (T := TX1) (N := 8) hx hb hts inX1_copy_RX1 hown hK hP 0 rfl rfl 1 (by decide) (hts _ kX1_copy_3) (fun _ h9 => h9) rfl dX1_copy_21 ?_
        refine lv_iload_n hx hb dX1_copy_24 rfl (lv_at hl 2 rfl) ?_
        refine lv_aload_n hx hb dX1_copy_25 rfl (lv_at hl 1 rfl) ?_
        refine va_get (D := D) (ci := 1) (v := .ref (q2 2)) (C := RX1) (T := TX1) (N := 8) hx hb hts inX1_copy_RX1 hown hK hP 7 rfl rfl 1 (by decide) (hts _ kX1_copy_3) (fun _ h9 => h9) rfl dX1_copy_26 ?_
        refine lv_iload_n hx hb dX1_copy_29 rfl (lv_at hl 2 rfl) ?_
        refine pc_iald hx hb hK hP 9 0 rfl rfl (k := k) (show k < 12 by omega) (by decide) dX1_copy_30 ?_
        refine pc_iast hx hb hK hP hD hS 2 0 rfl rfl (k := k) (show k < 12 by omega) (by decide) dX1_copy_31 (fun H locs hP hD hS => ?_)
        have hP : va_P D vwCl [(q 0, .inr (1, [.ref (q 1), .ref (q 2), .ref (q 3), .ref (q 4), .ref (q 5), .ref (q 6), .int (zl (hCp k h h2)), .int (nI (zh (hCp k h h2)))])), (q 1, .inl ((cy 0), 12, .inl (upd (zb (hCp k h h2)) k ((zb h2) k)))), (q 2, .inl ((cy 0), 12, .inl (upd (zw (hCp k h h2)) k ((zw h2) k)))), (q 3, .inl ((cy 0), 12, .inl (zd (hCp k h h2)))), (q 4, .inl ((cy 0), 12, .inl (zs (hCp k h h2)))), (q 5, .inl ((cy 0), 12, .inl (zr (hCp k h h2)))), (q 6, .inl ((cy 1), 12, .inl (zo (hCp k h h2)))), (q2 0, .inr (1, [.ref (q2 1), .ref (q2 2), .ref (q2 3), .ref (q2 4), .ref (q2 5), .ref (q2 6), .int (zl h2), .int (nI (zh h2))])), (q2 1, .inl ((cy 0), 12, .inl (zb h2))), (q2 2, .inl ((cy 0), 12, .inl (zw h2))), (q2 3, .inl ((cy 0), 12, .inl (zd h2))), (q2 4, .inl ((cy 0), 12, .inl (zs h2))), (q2 5, .inl ((cy 0), 12, .inl (zr h2))), (q2 6, .inl ((cy 1), 12, .inl (zo h2)))] H := hP
        have hD : va_D A [(q 0, .inr (1, [.ref (q 1), .ref (q 2), .ref (q 3), .ref (q 4), .ref (q 5), .ref (q 6), .int (zl (hCp k h h2)), .int (nI (zh (hCp k h h2)))])), (q 1, .inl ((cy 0), 12, .inl (upd (zb (hCp k h h2)) k ((zb h2) k)))), (q 2, .inl ((cy 0), 12, .inl (upd (zw (hCp k h h2)) k ((zw h2) k)))), (q 3, .inl ((cy 0), 12, .inl (zd (hCp k h h2)))), (q 4, .inl ((cy 0), 12, .inl (zs (hCp k h h2)))), (q 5, .inl ((cy 0), 12, .inl (zr (hCp k h h2)))), (q 6, .inl ((cy 1), 12, .inl (zo (hCp k h h2)))), (q2 0, .inr (1, [.ref (q2 1), .ref (q2 2), .ref (q2 3), .ref (q2 4), .ref (q2 5), .ref (q2 6), .int (zl h2), .int (nI (zh h2))])), (q2 1, .inl ((cy 0), 12, .inl (zb h2))), (q2 2, .inl ((cy 0), 12, .inl (zw h2))), (q2 3, .inl ((cy 0), 12, .inl (zd h2))), (q2 4, .inl ((cy 0), 12, .inl (zs h2))), (q2 5, .inl ((cy 0), 12, .inl (zr h2))), (q2 6, .inl ((cy 1), 12, .inl (zo h2)))] := hD
        refine lv_aload_n hx hb dX1_copy_32 rfl (lv_at hl 0 rfl) ?_
        refine va_get (D := D) (ci := 1) (v := .ref (q 3)) (C := RX1) (T := TX1) (N := 8) hx hb hts inX1_copy_RX1 hown hK hP 0 rfl rfl 2 (by decide) (hts _ kX1_copy_4) (fun _ h9 => h9) rfl dX1_copy_33 ?_
        refine lv_iload_n hx hb dX1_copy_36 rfl (lv_at hl 2 rfl) ?_
        refine lv_aload_n hx hb dX1_copy_37 rfl (lv_at hl 1 rfl) ?_
        refine va_get (D := D) (ci := 1) (v := .ref (q2 3)) (C := RX1) (T := TX1) (N := 8) hx hb hts inX1_copy_RX1 hown hK hP 7 rfl rfl 2 (by decide) (hts _ kX1_copy_4) (fun _ h9 => h9) rfl dX1_copy_38 ?_
        refine lv_iload_n hx hb dX1_copy_41 rfl (lv_at hl 2 rfl) ?_
        refine pc_iald hx hb hK hP 10 0 rfl rfl (k := k) (show k < 12 by omega) (by decide) dX1_copy_42 ?_
        refine pc_iast hx hb hK hP hD hS 3 0 rfl rfl (k := k) (show k < 12 by omega) (by decide) dX1_copy_43 (fun H locs hP hD hS => ?_)
        have hP : va_P D vwCl [(q 0, .inr (1, [.ref (q 1), .ref (q 2), .ref (q 3), .ref (q 4), .ref (q 5), .ref (q 6), .int (zl (hCp k h h2)), .int (nI (zh (hCp k h h2)))])), (q 1, .inl ((cy 0), 12, .inl (upd (zb (hCp k h h2)) k ((zb h2) k)))), (q 2, .inl ((cy 0), 12, .inl (upd (zw (hCp k h h2)) k ((zw h2) k)))), (q 3, .inl ((cy 0), 12, .inl (upd (zd (hCp k h h2)) k ((zd h2) k)))), (q 4, .inl ((cy 0), 12, .inl (zs (hCp k h h2)))), (q 5, .inl ((cy 0), 12, .inl (zr (hCp k h h2)))), (q 6, .inl ((cy 1), 12, .inl (zo (hCp k h h2)))), (q2 0, .inr (1, [.ref (q2 1), .ref (q2 2), .ref (q2 3), .ref (q2 4), .ref (q2 5), .ref (q2 6), .int (zl h2), .int (nI (zh h2))])), (q2 1, .inl ((cy 0), 12, .inl (zb h2))), (q2 2, .inl ((cy 0), 12, .inl (zw h2))), (q2 3, .inl ((cy 0), 12, .inl (zd h2))), (q2 4, .inl ((cy 0), 12, .inl (zs h2))), (q2 5, .inl ((cy 0), 12, .inl (zr h2))), (q2 6, .inl ((cy 1), 12, .inl (zo h2)))] H := hP
        have hD : va_D A [(q 0, .inr (1, [.ref (q 1), .ref (q 2), .ref (q 3), .ref (q 4), .ref (q 5), .ref (q 6), .int (zl (hCp k h h2)), .int (nI (zh (hCp k h h2)))])), (q 1, .inl ((cy 0), 12, .inl (upd (zb (hCp k h h2)) k ((zb h2) k)))), (q 2, .inl ((cy 0), 12, .inl (upd (zw (hCp k h h2)) k ((zw h2) k)))), (q 3, .inl ((cy 0), 12, .inl (upd (zd (hCp k h h2)) k ((zd h2) k)))), (q 4, .inl ((cy 0), 12, .inl (zs (hCp k h h2)))), (q 5, .inl ((cy 0), 12, .inl (zr (hCp k h h2)))), (q 6, .inl ((cy 1), 12, .inl (zo (hCp k h h2)))), (q2 0, .inr (1, [.ref (q2 1), .ref (q2 2), .ref (q2 3), .ref (q2 4), .ref (q2 5), .ref (q2 6), .int (zl h2), .int (nI (zh h2))])), (q2 1, .inl ((cy 0), 12, .inl (zb h2))), (q2 2, .inl ((cy 0), 12, .inl (zw h2))), (q2 3, .inl ((cy 0), 12, .inl (zd h2))), (q2 4, .inl ((cy 0), 12, .inl (zs h2))), (q2 5, .inl ((cy 0), 12, .inl (zr h2))), (q2 6, .inl ((cy 1), 12, .inl (zo h2)))] := hD
        refine lv_aload_n hx hb dX1_copy_44 rfl (lv_at hl 0 rfl) ?_
        refine va_get (D := D) (ci := 1) (v := .ref (q 4)) (C := RX1) (T := TX1) (N := 8) hx hb hts inX1_copy_RX1 hown hK hP 0 rfl rfl 3 (by decide) (hts _ kX1_copy_5) (fun _ h9 => h9) rfl dX1_copy_45 ?_
        refine lv_iload_n hx hb dX1_copy_48 rfl (lv_at hl 2 rfl) ?_
        refine lv_aload_n hx hb dX1_copy_49 rfl (lv_at hl 1 rfl) ?_
        refine va_get (D := D) (ci := 1) (v := .ref (q2 4)) (C := RX1) (T := TX1) (N := 8) hx hb hts inX1_copy_RX1 hown hK hP 7 rfl rfl 3 (by decide) (hts _ kX1_copy_5) (fun _ h9 => h9) rfl dX1_copy_50 ?_
        refine lv_iload_n hx hb dX1_copy_53 rfl (lv_at hl 2 rfl) ?_
        refine pc_iald hx hb hK hP 11 0 rfl rfl (k := k) (show k < 12 by omega) (by decide) dX1_copy_54 ?_
        refine pc_iast hx hb hK hP hD hS 4 0 rfl rfl (k := k) (show k < 12 by omega) (by decide) dX1_copy_55 (fun H locs hP hD hS => ?_)
        have hP : va_P D vwCl [(q 0, .inr (1, [.ref (q 1), .ref (q 2), .ref (q 3), .ref (q 4), .ref (q 5), .ref (q 6), .int (zl (hCp k h h2)), .int (nI (zh (hCp k h h2)))])), (q 1, .inl ((cy 0), 12, .inl (upd (zb (hCp k h h2)) k ((zb h2) k)))), (q 2, .inl ((cy 0), 12, .inl (upd (zw (hCp k h h2)) k ((zw h2) k)))), (q 3, .inl ((cy 0), 12, .inl (upd (zd (hCp k h h2)) k ((zd h2) k)))), (q 4, .inl ((cy 0), 12, .inl (upd (zs (hCp k h h2)) k ((zs h2) k)))), (q 5, .inl ((cy 0), 12, .inl (zr (hCp k h h2)))), (q 6, .inl ((cy 1), 12, .inl (zo (hCp k h h2)))), (q2 0, .inr (1, [.ref (q2 1), .ref (q2 2), .ref (q2 3), .ref (q2 4), .ref (q2 5), .ref (q2 6), .int (zl h2), .int (nI (zh h2))])), (q2 1, .inl ((cy 0), 12, .inl (zb h2))), (q2 2, .inl ((cy 0), 12, .inl (zw h2))), (q2 3, .inl ((cy 0), 12, .inl (zd h2))), (q2 4, .inl ((cy 0), 12, .inl (zs h2))), (q2 5, .inl ((cy 0), 12, .inl (zr h2))), (q2 6, .inl ((cy 1), 12, .inl (zo h2)))] H := hP
        have hD : va_D A [(q 0, .inr (1, [.ref (q 1), .ref (q 2), .ref (q 3), .ref (q 4), .ref (q 5), .ref (q 6), .int (zl (hCp k h h2)), .int (nI (zh (hCp k h h2)))])), (q 1, .inl ((cy 0), 12, .inl (upd (zb (hCp k h h2)) k ((zb h2) k)))), (q 2, .inl ((cy 0), 12, .inl (upd (zw (hCp k h h2)) k ((zw h2) k)))), (q 3, .inl ((cy 0), 12, .inl (upd (zd (hCp k h h2)) k ((zd h2) k)))), (q 4, .inl ((cy 0), 12, .inl (upd (zs (hCp k h h2)) k ((zs h2) k)))), (q 5, .inl ((cy 0), 12, .inl (zr (hCp k h h2)))), (q 6, .inl ((cy 1), 12, .inl (zo (hCp k h h2)))), (q2 0, .inr (1, [.ref (q2 1), .ref (q2 2), .ref (q2 3), .ref (q2 4), .ref (q2 5), .ref (q2 6), .int (zl h2), .int (nI (zh h2))])), (q2 1, .inl ((cy 0), 12, .inl (zb h2))), (q2 2, .inl ((cy 0), 12, .inl (zw h2))), (q2 3, .inl ((cy 0), 12, .inl (zd h2))), (q2 4, .inl ((cy 0), 12, .inl (zs h2))), (q2 5, .inl ((cy 0), 12, .inl (zr h2))), (q2 6, .inl ((cy 1), 12, .inl (zo h2)))] := hD
        refine lv_aload_n hx hb dX1_copy_56 rfl (lv_at hl 0 rfl) ?_
        refine va_get (D := D) (ci := 1) (v := .ref (q 5)) (C := RX1) (T := TX1) (N := 8) hx hb hts inX1_copy_RX1 hown hK hP 0 rfl rfl 4 (by decide) (hts _ kX1_copy_6) (fun _ h9 => h9) rfl dX1_copy_57 ?_
        refine lv_iload_n hx hb dX1_copy_60 rfl (lv_at hl 2 rfl) ?_
        refine lv_aload_n hx hb dX1_copy_61 rfl (lv_at hl 1 rfl) ?_
        refine va_get (D := D) (ci := 1) (v := .ref (q2 5)) (C := RX1) (T := TX1) (N := 8) hx hb hts inX1_copy_RX1 hown hK hP 7 rfl rfl 4 (by decide) (hts _ kX1_copy_6) (fun _ h9 => h9) rfl dX1_copy_62 ?_
        refine lv_iload_n hx hb dX1_copy_65 rfl (lv_at hl 2 rfl) ?_
        refine pc_iald hx hb hK hP 12 0 rfl rfl (k := k) (show k < 12 by omega) (by decide) dX1_copy_66 ?_
        refine pc_iast hx hb hK hP hD hS 5 0 rfl rfl (k := k) (show k < 12 by omega) (by decide) dX1_copy_67 (fun H locs hP hD hS => ?_)
        have hP : va_P D vwCl [(q 0, .inr (1, [.ref (q 1), .ref (q 2), .ref (q 3), .ref (q 4), .ref (q 5), .ref (q 6), .int (zl (hCp k h h2)), .int (nI (zh (hCp k h h2)))])), (q 1, .inl ((cy 0), 12, .inl (upd (zb (hCp k h h2)) k ((zb h2) k)))), (q 2, .inl ((cy 0), 12, .inl (upd (zw (hCp k h h2)) k ((zw h2) k)))), (q 3, .inl ((cy 0), 12, .inl (upd (zd (hCp k h h2)) k ((zd h2) k)))), (q 4, .inl ((cy 0), 12, .inl (upd (zs (hCp k h h2)) k ((zs h2) k)))), (q 5, .inl ((cy 0), 12, .inl (upd (zr (hCp k h h2)) k ((zr h2) k)))), (q 6, .inl ((cy 1), 12, .inl (zo (hCp k h h2)))), (q2 0, .inr (1, [.ref (q2 1), .ref (q2 2), .ref (q2 3), .ref (q2 4), .ref (q2 5), .ref (q2 6), .int (zl h2), .int (nI (zh h2))])), (q2 1, .inl ((cy 0), 12, .inl (zb h2))), (q2 2, .inl ((cy 0), 12, .inl (zw h2))), (q2 3, .inl ((cy 0), 12, .inl (zd h2))), (q2 4, .inl ((cy 0), 12, .inl (zs h2))), (q2 5, .inl ((cy 0), 12, .inl (zr h2))), (q2 6, .inl ((cy 1), 12, .inl (zo h2)))] H := hP
        have hD : va_D A [(q 0, .inr (1, [.ref (q 1), .ref (q 2), .ref (q 3), .ref (q 4), .ref (q 5), .ref (q 6), .int (zl (hCp k h h2)), .int (nI (zh (hCp k h h2)))])), (q 1, .inl ((cy 0), 12, .inl (upd (zb (hCp k h h2)) k ((zb h2) k)))), (q 2, .inl ((cy 0), 12, .inl (upd (zw (hCp k h h2)) k ((zw h2) k)))), (q 3, .inl ((cy 0), 12, .inl (upd (zd (hCp k h h2)) k ((zd h2) k)))), (q 4, .inl ((cy 0), 12, .inl (upd (zs (hCp k h h2)) k ((zs h2) k)))), (q 5, .inl ((cy 0), 12, .inl (upd (zr (hCp k h h2)) k ((zr h2) k)))), (q 6, .inl ((cy 1), 12, .inl (zo (hCp k h h2)))), (q2 0, .inr (1, [.ref (q2 1), .ref (q2 2), .ref (q2 3), .ref (q2 4), .ref (q2 5), .ref (q2 6), .int (zl h2), .int (nI (zh h2))])), (q2 1, .inl ((cy 0), 12, .inl (zb h2))), (q2 2, .inl ((cy 0), 12, .inl (zw h2))), (q2 3, .inl ((cy 0), 12, .inl (zd h2))), (q2 4, .inl ((cy 0), 12, .inl (zs h2))), (q2 5, .inl ((cy 0), 12, .inl (zr h2))), (q2 6, .inl ((cy 1), 12, .inl (zo h2)))] := hD
        refine lv_aload_n hx hb dX1_copy_68 rfl (lv_at hl 0 rfl) ?_
        refine va_get (D := D) (ci := 1) (v := .ref (q 6)) (C := RX1) (T := TX1) (N := 8) hx hb hts inX1_copy_RX1 hown hK hP 0 rfl rfl 5 (by decide) (hts _ kX1_copy_7) (fun _ h9 => h9) rfl dX1_copy_69 ?_
        refine lv_iload_n hx hb dX1_copy_72 rfl (lv_at hl 2 rfl) ?_
        refine lv_aload_n hx hb dX1_copy_73 rfl (lv_at hl 1 rfl) ?_
        refine va_get (D := D) (ci := 1) (v := .ref (q2 6)) (C := RX1) (T := TX1) (N := 8) hx hb hts inX1_copy_RX1 hown hK hP 7 rfl rfl 5 (by decide) (hts _ kX1_copy_7) (fun _ h9 => h9) rfl dX1_copy_74 ?_
        refine lv_iload_n hx hb dX1_copy_77 rfl (lv_at hl 2 rfl) ?_
        refine pc_zald hx hb hK hP 13 1 rfl rfl (k := k) (show k < 12 by omega) (by decide) dX1_copy_78 ?_
        refine pc_zast hx hb hK hP hD hS 6 1 rfl rfl (nar01 (ho k (by omega))) (k := k) (show k < 12 by omega) (by decide) dX1_copy_79 (fun H locs hP hD hS => ?_)
        have hP : va_P D vwCl [(q 0, .inr (1, [.ref (q 1), .ref (q 2), .ref (q 3), .ref (q 4), .ref (q 5), .ref (q 6), .int (zl (hCp k h h2)), .int (nI (zh (hCp k h h2)))])), (q 1, .inl ((cy 0), 12, .inl (upd (zb (hCp k h h2)) k ((zb h2) k)))), (q 2, .inl ((cy 0), 12, .inl (upd (zw (hCp k h h2)) k ((zw h2) k)))), (q 3, .inl ((cy 0), 12, .inl (upd (zd (hCp k h h2)) k ((zd h2) k)))), (q 4, .inl ((cy 0), 12, .inl (upd (zs (hCp k h h2)) k ((zs h2) k)))), (q 5, .inl ((cy 0), 12, .inl (upd (zr (hCp k h h2)) k ((zr h2) k)))), (q 6, .inl ((cy 1), 12, .inl (upd (zo (hCp k h h2)) k ((zo h2) k)))), (q2 0, .inr (1, [.ref (q2 1), .ref (q2 2), .ref (q2 3), .ref (q2 4), .ref (q2 5), .ref (q2 6), .int (zl h2), .int (nI (zh h2))])), (q2 1, .inl ((cy 0), 12, .inl (zb h2))), (q2 2, .inl ((cy 0), 12, .inl (zw h2))), (q2 3, .inl ((cy 0), 12, .inl (zd h2))), (q2 4, .inl ((cy 0), 12, .inl (zs h2))), (q2 5, .inl ((cy 0), 12, .inl (zr h2))), (q2 6, .inl ((cy 1), 12, .inl (zo h2)))] H := hP
        have hD : va_D A [(q 0, .inr (1, [.ref (q 1), .ref (q 2), .ref (q 3), .ref (q 4), .ref (q 5), .ref (q 6), .int (zl (hCp k h h2)), .int (nI (zh (hCp k h h2)))])), (q 1, .inl ((cy 0), 12, .inl (upd (zb (hCp k h h2)) k ((zb h2) k)))), (q 2, .inl ((cy 0), 12, .inl (upd (zw (hCp k h h2)) k ((zw h2) k)))), (q 3, .inl ((cy 0), 12, .inl (upd (zd (hCp k h h2)) k ((zd h2) k)))), (q 4, .inl ((cy 0), 12, .inl (upd (zs (hCp k h h2)) k ((zs h2) k)))), (q 5, .inl ((cy 0), 12, .inl (upd (zr (hCp k h h2)) k ((zr h2) k)))), (q 6, .inl ((cy 1), 12, .inl (upd (zo (hCp k h h2)) k ((zo h2) k)))), (q2 0, .inr (1, [.ref (q2 1), .ref (q2 2), .ref (q2 3), .ref (q2 4), .ref (q2 5), .ref (q2 6), .int (zl h2), .int (nI (zh h2))])), (q2 1, .inl ((cy 0), 12, .inl (zb h2))), (q2 2, .inl ((cy 0), 12, .inl (zw h2))), (q2 3, .inl ((cy 0), 12, .inl (zd h2))), (q2 4, .inl ((cy 0), 12, .inl (zs h2))), (q2 5, .inl ((cy 0), 12, .inl (zr h2))), (q2 6, .inl ((cy 1), 12, .inl (zo h2)))] := hD
        refine lv_iinc (v := nI (k + 1)) (lv' := [(2, .int (nI (k + 1))), (0, .ref (q 0)), (1, .ref (q2 0))]) hx hb dX1_copy_80 hl (k := 2) rfl ((show (nI k) + Int32.ofInt 1 = (nI k) + 1 from rfl).trans (show (nI k) + 1 = nI (k + 1) from nI_add k 1)) (by decide) rfl (fun ls hl => ?_)
        have e9 : ([(q 0, .inr (1, [.ref (q 1), .ref (q 2), .ref (q 3), .ref (q 4), .ref (q 5), .ref (q 6), .int (zl (hCp k h h2)), .int (nI (zh (hCp k h h2)))])), (q 1, .inl ((cy 0), 12, .inl (upd (zb (hCp k h h2)) k ((zb h2) k)))), (q 2, .inl ((cy 0), 12, .inl (upd (zw (hCp k h h2)) k ((zw h2) k)))), (q 3, .inl ((cy 0), 12, .inl (upd (zd (hCp k h h2)) k ((zd h2) k)))), (q 4, .inl ((cy 0), 12, .inl (upd (zs (hCp k h h2)) k ((zs h2) k)))), (q 5, .inl ((cy 0), 12, .inl (upd (zr (hCp k h h2)) k ((zr h2) k)))), (q 6, .inl ((cy 1), 12, .inl (upd (zo (hCp k h h2)) k ((zo h2) k)))), (q2 0, .inr (1, [.ref (q2 1), .ref (q2 2), .ref (q2 3), .ref (q2 4), .ref (q2 5), .ref (q2 6), .int (zl h2), .int (nI (zh h2))])), (q2 1, .inl ((cy 0), 12, .inl (zb h2))), (q2 2, .inl ((cy 0), 12, .inl (zw h2))), (q2 3, .inl ((cy 0), 12, .inl (zd h2))), (q2 4, .inl ((cy 0), 12, .inl (zs h2))), (q2 5, .inl ((cy 0), 12, .inl (zr h2))), (q2 6, .inl ((cy 1), 12, .inl (zo h2)))] : va_W) = (wH cy q (hCp (k + 1) h h2) ++ wH cy q2 h2) := (by simp only [hCp, ← part_new (Nat.zero_le k)]; rfl)
        have hP : va_P D vwCl (wH cy q (hCp (k + 1) h h2) ++ wH cy q2 h2) H := e9 ▸ hP
        have hD : va_D A (wH cy q (hCp (k + 1) h h2) ++ wH cy q2 h2) := e9 ▸ hD
        clear e9
        refine lv_goto (tgt := 2) hx hb dX1_copy_83 (by decide) ?_
        exact ih2 (k + 1) (by omega) (by omega) _ _ hP hD hS ls (lv_sub hl [1, 2, 0] rfl)
  exact loop2 (12 + 1) 0 (Nat.zero_le _) (by omega) _ _ (by rw [hCp_0]; exact hP) (by rw [hCp_0]; exact hD) hS ls (lv_sub hl [1, 2, 0] rfl)

theorem inX1_spendHour_RX1 : ∀ w ∈ u_ws RX1 TX1 8, w ∈ wsX1_spendHour := by decide +kernel
theorem kX1_spendHour_0 : (.fieldLink RX1 35 "WedgeHarps$Harp" "hour" "I" : Cond) ∈ wsX1_spendHour := by decide +kernel
theorem kX1_spendHour_1 : (.fieldLink RX1 27 "WedgeHarps$Harp" "whole" "[Z" : Cond) ∈ wsX1_spendHour := by decide +kernel
set_option maxHeartbeats 4000000 in
set_option maxRecDepth 100000 in
theorem mX1_spendHour (l : Launch) (D : va_G) (cy : Nat → ClassId) (sz : Nat) (q : Nat → Nat) (h : HS) (f u : Nat) (hf : f ≤ u) (hu : u ≤ 12) (wi da : Int32) : Met l yX1_spendHour wsX1_spendHour ({ frames := 2, cells := 0, slots := 0, locals := 45 } : Room) (va_Pc [.ref (q 0), .int (nI f), .int (nI u), .int wi, .int da] (fun U => U.heap.size = sz ∧ va_P D vwCl (wH cy q h) U.heap ∧ va_K D vwCl (TY cy) U ∧ va_D (fun _ => True) (wH cy q h))) (va_Qi (fun (r8 : Int32) (_ : Unit) => r8 = nI (cnt (brk wi h) f (u - f))) (fun (_ : Unit) t => va_P D vwCl (wH cy q (hHour f u wi da h)) t.heap ∧ va_D (va_A (wH cy q h) sz) (wH cy q (hHour f u wi da h))) (va_A (wH cy q h) sz)) 0 0 (va_A (wH cy q h) sz) := by
  refine Met.ofW (cc := cX1_spendHour) (maxL := 7) (ret := (some .int)) (by decide) rfl ?_
  intro p e s m args below meth c s₁ B hml hv
  obtain ⟨rfl, hsz, hP, hK, hD0⟩ := hv
  have hx := B.exec
  have hb := B.bytes
  have hr := B.returns
  have hts := atoms_spec (ws := wsX1_spendHour) B.pre
  have hown : s.vm.findClass RX1 = some m.cls := findClass_of_methodNamed B.named
  have hlocks := B.notSynchronized
  have hl := lv_entry ([.ref (q 0), .int (nI f), .int (nI u), .int wi, .int da]) (n := 7) (Nat.le_of_ble_eq_true rfl)
  rw [lg_entry_eq]
  generalize (lg_sl ([.ref (q 0), .int (nI f), .int (nI u), .int wi, .int da]) ++ List.replicate (7 - (lg_sl ([.ref (q 0), .int (nI f), .int (nI u), .int wi, .int da])).length) Slot.unset).toArray = ls at hl ⊢
  have hl : lv_has ls 7 [(0, .ref (q 0)), (1, .int (nI f)), (2, .int (nI u)), (3, .int wi), (4, .int da)] := hl
  subst hsz
  have hD := hD0.self (sz := s.heap.size)
  generalize hAe : va_A (wH cy q h) s.heap.size = A at hD ⊢
  have hA : ∀ q : Nat, s.heap.size ≤ q → A q := fun q h => by rw [← hAe]; exact Or.inr h
  have hS : va_S A s.heap s.heap [] := va_S.rf
  have hP : va_P D vwCl (wH cy q h) s.heap := hP
  refine lv_iconst (v := 0) hx hb dX1_spendHour_0 (by decide) ?_
  refine lv_istore (lv' := [(5, .int 0), (0, .ref (q 0)), (1, .int (nI f)), (2, .int (nI u)), (3, .int wi), (4, .int da)]) hx hb dX1_spendHour_1 hl (by decide) rfl (fun ls hl => ?_)
  refine lv_iload_n hx hb dX1_spendHour_3 rfl (lv_at hl 2 rfl) ?_
  refine lv_istore (lv' := [(6, .int (nI f)), (5, .int 0), (0, .ref (q 0)), (1, .int (nI f)), (2, .int (nI u)), (3, .int wi), (4, .int da)]) hx hb dX1_spendHour_4 hl (by decide) rfl (fun ls hl => ?_)
  have loop6 : ∀ (n9 : Nat) (n : Nat), f + n ≤ u → u - (f + n) < n9 → ∀ (H : Heap) (locs : List Loc), va_P D vwCl (wH cy q (hPart f (f + n) wi da h)) H → va_D A (wH cy q (hPart f (f + n) wi da h)) → va_S A s.heap H locs → ∀ ls : Array Slot, lv_has ls 7 [(0, .ref (q 0)), (1, .int (nI f)), (2, .int (nI u)), (3, .int wi), (4, .int da), (5, .int (nI (cnt (brk wi h) f n))), (6, .int (nI (f + n)))] → W p l e (headSpec wsX1_spendHour ({ frames := 2, cells := 0, slots := 0, locals := 45 } : Room)).room s m ([.ref (q 0), .int (nI f), .int (nI u), .int wi, .int da] : List Value).toArray below meth c H locs 0 0 (MQ below (va_Qi (fun (r8 : Int32) (_ : Unit) => r8 = nI (cnt (brk wi h) f (u - f))) (fun (_ : Unit) t => va_P D vwCl (wH cy q (hHour f u wi da h)) t.heap ∧ va_D A (wH cy q (hHour f u wi da h))) A) ([.ref (q 0), .int (nI f), .int (nI u), .int wi, .int da] : List Value).toArray s 0 0 A) (F0 m 6 ls []) := by
    intro n9
    induction n9 with
    | zero => intro n hn h9 H locs hP hD hS ls hl; exact absurd h9 (by omega)
    | succ n9 ih6 =>
      intro n hn h9 H locs hP hD hS ls hl
      refine lv_iload hx hb dX1_spendHour_6 (lv_at hl 6 rfl) ?_
      refine lv_iload_n hx hb dX1_spendHour_8 rfl (lv_at hl 2 rfl) ?_
      refine lv_icmp_ge (tgt := 62) hx hb dX1_spendHour_9 (by decide) (fun c9 => ?_) (fun c9 => ?_)
      · have n9 : u ≤ f + n := (nI_leI (a := u) (b := f + n) (by omega) (by omega)).mp c9
        refine lv_aload_n hx hb dX1_spendHour_62 rfl (lv_at hl 0 rfl) ?_
        refine lv_iload hx hb dX1_spendHour_63 (lv_at hl 4 rfl) ?_
        have hPc := hP.sub (ws' := wH cy q (hPart f (f + n) wi da h)) [0, 1, 2, 3, 4, 5, 6] rfl
        have hDc := hD.sub (ws' := wH cy q (hPart f (f + n) wi da h)) [0, 1, 2, 3, 4, 5, 6] (by decide) rfl
        have hFc := va_free (wc := wH cy q (hPart f (f + n) wi da h)) hD hS hA [0, 1, 2, 3, 4, 5, 6] rfl
        refine va_callv (va_runV (As := [.int da]) (rest := []) ⟨hx, hb, hml, hown, hts⟩ (mX1_swell l D cy H.size q (hPart f (f + n) wi da h) da) (cwV 1 hts gX1_spendHour_X1_swell rfl rfl rfl (by decide +kernel) ⟨Nat.le_of_ble_eq_true rfl, Nat.le_of_ble_eq_true rfl⟩) ⟨fun a U g mk q => ⟨q.1, q.2.1, q.2.2.1, va_K.moved (u := U) (U := U.calling g mk a) (Vm.Alike.refl U.vm) q.2.2.2.1, q.2.2.2.2⟩, va_recv hK hPc (ci := 1) (q0 := 0) rfl rfl, fun U hU hW => ⟨rfl, by rw [hU], by rw [hU]; exact hPc, va_K.moved hW.alike hK, hDc.weaken (fun _ _ _ _ => trivial)⟩⟩ rfl rfl hl.1 rfl (lv_room (Nat.le_of_ble_eq_true rfl)) dX1_spendHour_65 ⟨Nat.le_of_ble_eq_true rfl, Nat.le_of_ble_eq_true rfl⟩) hS (fun q _ h => hFc q h) hFc (fun u9 t9 H1 locs ht9 hvm9 hw9 hB9 hz9 hk9 hS => ?_)
        obtain ⟨hP1, hD1⟩ := hB9
        rw [ht9] at hP1
        obtain ⟨hP, hD⟩ := va_join (wr := []) (w1 := wH cy q (hSwell da (hPart f (f + n) wi da h))) hP hD [0, 1, 2, 3, 4, 5, 6] [] rfl rfl (by decide) (by decide) hk9 hFc hP1 hD1
        generalize H1 = H at hP hS ⊢
        have hP : va_P D vwCl (wH cy q (hSwell da (hPart f (f + n) wi da h))) H := hP.sub [0, 1, 2, 3, 4, 5, 6] rfl
        have hD : va_D A (wH cy q (hSwell da (hPart f (f + n) wi da h))) := hD.sub [0, 1, 2, 3, 4, 5, 6] (by decide) rfl
        clear hP1 hD1 hk9 hz9 ht9 hvm9 hPc hDc hFc
        refine lv_aload_n hx hb dX1_spendHour_68 rfl (lv_at hl 0 rfl) ?_
        refine lv_dup hx hb dX1_spendHour_69 rfl ?_
        refine va_get (D := D) (ci := 1) (v := .int (nI (zh (hSwell da (hPart f (f + n) wi da h))))) (C := RX1) (T := TX1) (N := 8) hx hb hts inX1_spendHour_RX1 hown hK hP 0 rfl rfl 7 (by decide) (hts _ kX1_spendHour_0) (fun _ h9 => h9) rfl dX1_spendHour_70 ?_
        refine lv_iconst (v := 1) hx hb dX1_spendHour_73 (by decide) ?_
        refine lv_iadd hx hb dX1_spendHour_74 ?_
        refine pc_top (show (nI (zh (hSwell da (hPart f (f + n) wi da h)))) + 1 = nI (zh (hSwell da (hPart f (f + n) wi da h)) + 1) from nI_add (zh (hSwell da (hPart f (f + n) wi da h))) 1) ?_
        refine va_put (D := D) (ci := 1) (v := .int (nI (zh (hSwell da (hPart f (f + n) wi da h)) + 1))) (ty := .int) (C := RX1) (T := TX1) (N := 8) hx hb hts inX1_spendHour_RX1 tyX1 tyX1_ok nmX1 hown hK hP hD hS 0 rfl rfl 7 (by decide) (hts _ kX1_spendHour_0) (fun _ h9 => h9) rfl (by decide +kernel) rfl rfl (Nat.le_of_ble_eq_true rfl) dX1_spendHour_75 (fun H locs hP hD hS => ?_)
        have hP : va_P D vwCl [(q 0, .inr (1, [.ref (q 1), .ref (q 2), .ref (q 3), .ref (q 4), .ref (q 5), .ref (q 6), .int (zl (hSwell da (hPart f (f + n) wi da h))), .int (nI (zh (hSwell da (hPart f (f + n) wi da h)) + 1))])), (q 1, .inl ((cy 0), 12, .inl (zb (hSwell da (hPart f (f + n) wi da h))))), (q 2, .inl ((cy 0), 12, .inl (zw (hSwell da (hPart f (f + n) wi da h))))), (q 3, .inl ((cy 0), 12, .inl (zd (hSwell da (hPart f (f + n) wi da h))))), (q 4, .inl ((cy 0), 12, .inl (zs (hSwell da (hPart f (f + n) wi da h))))), (q 5, .inl ((cy 0), 12, .inl (zr (hSwell da (hPart f (f + n) wi da h))))), (q 6, .inl ((cy 1), 12, .inl (zo (hSwell da (hPart f (f + n) wi da h)))))] H := hP
        have hD : va_D A [(q 0, .inr (1, [.ref (q 1), .ref (q 2), .ref (q 3), .ref (q 4), .ref (q 5), .ref (q 6), .int (zl (hSwell da (hPart f (f + n) wi da h))), .int (nI (zh (hSwell da (hPart f (f + n) wi da h)) + 1))])), (q 1, .inl ((cy 0), 12, .inl (zb (hSwell da (hPart f (f + n) wi da h))))), (q 2, .inl ((cy 0), 12, .inl (zw (hSwell da (hPart f (f + n) wi da h))))), (q 3, .inl ((cy 0), 12, .inl (zd (hSwell da (hPart f (f + n) wi da h))))), (q 4, .inl ((cy 0), 12, .inl (zs (hSwell da (hPart f (f + n) wi da h))))), (q 5, .inl ((cy 0), 12, .inl (zr (hSwell da (hPart f (f + n) wi da h))))), (q 6, .inl ((cy 1), 12, .inl (zo (hSwell da (hPart f (f + n) wi da h)))))] := hD
        refine lv_iload hx hb dX1_spendHour_78 (lv_at hl 5 rfl) ?_
        have hP9 : va_P D vwCl (wH cy q (hHour f u wi da h)) H := (by rw [show u = f + n by omega]; exact hP)
        have hD9 : va_D A (wH cy q (hHour f u wi da h)) := (by rw [show u = f + n by omega]; exact hD)
        exact W.iret (v := nI (cnt (brk wi h) f n)) hx hb hr (fun t ht hW => ⟨⟨nI (cnt (brk wi h) f n), (), rfl, (by rw [show u - f = n by omega]), by rw [ht]; exact hP9, hD9⟩, hS.F ht⟩) hS.2.2 dX1_spendHour_80
      · have n9 : ¬ (u ≤ f + n) := fun h9 => c9 ((nI_leI (a := u) (b := f + n) (by omega) (by omega)).mpr h9)
        refine lv_aload_n hx hb dX1_spendHour_12 rfl (lv_at hl 0 rfl) ?_
        refine va_get (D := D) (ci := 1) (v := .ref (q 6)) (C := RX1) (T := TX1) (N := 8) hx hb hts inX1_spendHour_RX1 hown hK hP 0 rfl rfl 5 (by decide) (hts _ kX1_spendHour_1) (fun _ h9 => h9) rfl dX1_spendHour_13 ?_
        refine lv_iload hx hb dX1_spendHour_16 (lv_at hl 6 rfl) ?_
        refine pc_zald hx hb hK hP 6 1 rfl rfl (k := f + n) (show f + n < 12 by omega) (by decide) dX1_spendHour_18 ?_
        refine lv_if_eq (tgt := 38) hx hb dX1_spendHour_19 (by decide) (fun c19 => ?_) (fun c19 => ?_)
        · have o19 : zo h (f + n) = 0 := part_at.symm.trans c19
          refine lv_aload_n hx hb dX1_spendHour_38 rfl (lv_at hl 0 rfl) ?_
          refine va_get (D := D) (ci := 1) (v := .ref (q 6)) (C := RX1) (T := TX1) (N := 8) hx hb hts inX1_spendHour_RX1 hown hK hP 0 rfl rfl 5 (by decide) (hts _ kX1_spendHour_1) (fun _ h9 => h9) rfl dX1_spendHour_39 ?_
          refine lv_iload hx hb dX1_spendHour_42 (lv_at hl 6 rfl) ?_
          refine pc_zald hx hb hK hP 6 1 rfl rfl (k := f + n) (show f + n < 12 by omega) (by decide) dX1_spendHour_44 ?_
          refine lv_if_eq (tgt := 56) hx hb dX1_spendHour_45 (by decide) (fun c45 => ?_) (fun c45 => absurd c45 (not_not_intro c19))
          have e9 : (wH cy q (hPart f (f + n) wi da h) : va_W) = (wH cy q (hPart f (f + (n + 1)) wi da h)) := (congrArg (fun x => wH cy q x) (hPart_skip (Nat.le_add_right f n) o19))
          have hP : va_P D vwCl (wH cy q (hPart f (f + (n + 1)) wi da h)) H := e9 ▸ hP
          have hD : va_D A (wH cy q (hPart f (f + (n + 1)) wi da h)) := e9 ▸ hD
          clear e9
          have r9 : nI (cnt (brk wi h) f n) = nI (cnt (brk wi h) f (n + 1)) := (by simp [cnt, brk, o19])
          rw [r9] at hl
          clear r9
          refine lv_iinc (v := nI (f + n + 1)) (lv' := [(6, .int (nI (f + n + 1))), (0, .ref (q 0)), (1, .int (nI f)), (2, .int (nI u)), (3, .int wi), (4, .int da), (5, .int (nI (cnt (brk wi h) f (n + 1))))]) hx hb dX1_spendHour_56 hl (k := 6) rfl ((show (nI (f + n)) + Int32.ofInt 1 = (nI (f + n)) + 1 from rfl).trans (show (nI (f + n)) + 1 = nI (f + n + 1) from nI_add (f + n) 1)) (by decide) rfl (fun ls hl => ?_)
          refine lv_goto (tgt := 6) hx hb dX1_spendHour_59 (by decide) ?_
          exact ih6 (n + 1) (by omega) (by omega) _ _ hP hD hS ls (lv_sub hl [1, 2, 3, 4, 5, 6, 0] rfl)
        · have o19 : ¬ zo h (f + n) = 0 := fun z => c19 (part_at.trans z)
          refine lv_aload_n hx hb dX1_spendHour_22 rfl (lv_at hl 0 rfl) ?_
          refine lv_iload hx hb dX1_spendHour_23 (lv_at hl 6 rfl) ?_
          refine lv_iload_n hx hb dX1_spendHour_25 rfl (lv_at hl 3 rfl) ?_
          have hPc := hP.sub (ws' := wH cy q (hPart f (f + n) wi da h)) [0, 1, 2, 3, 4, 5, 6] rfl
          have hDc := hD.sub (ws' := wH cy q (hPart f (f + n) wi da h)) [0, 1, 2, 3, 4, 5, 6] (by decide) rfl
          have hFc := va_free (wc := wH cy q (hPart f (f + n) wi da h)) hD hS hA [0, 1, 2, 3, 4, 5, 6] rfl
          refine va_calli (va_runV (As := [.int (nI (f + n)), .int wi]) (rest := []) ⟨hx, hb, hml, hown, hts⟩ (mX1_breaksIn l D cy H.size q (hPart f (f + n) wi da h) (f + n) (by omega) wi) (cwV 2 hts gX1_spendHour_X1_breaksIn rfl rfl rfl (by decide +kernel) ⟨Nat.le_of_ble_eq_true rfl, Nat.le_of_ble_eq_true rfl⟩) ⟨fun a U g mk q => ⟨q.1, q.2.1, q.2.2.1, va_K.moved (u := U) (U := U.calling g mk a) (Vm.Alike.refl U.vm) q.2.2.2.1, q.2.2.2.2⟩, va_recv hK hPc (ci := 1) (q0 := 0) rfl rfl, fun U hU hW => ⟨rfl, by rw [hU], by rw [hU]; exact hPc, va_K.moved hW.alike hK, hDc.weaken (fun _ _ _ _ => trivial)⟩⟩ rfl rfl hl.1 rfl (lv_room (Nat.le_of_ble_eq_true rfl)) dX1_spendHour_26 ⟨Nat.le_of_ble_eq_true rfl, Nat.le_of_ble_eq_true rfl⟩) hS (fun q _ h => hFc q h) hFc (fun r9 u9 t9 H1 locs ht9 hvm9 hw9 hB9 hz9 hk9 hS => ?_)
          obtain ⟨hP1, hD1⟩ := hB9
          rw [ht9] at hP1
          obtain ⟨hP, hD⟩ := va_join (wr := []) (w1 := wH cy q (hBrk wi (hPart f (f + n) wi da h) (f + n))) hP hD [0, 1, 2, 3, 4, 5, 6] [] rfl rfl (by decide) (by decide) hk9 hFc hP1 hD1
          generalize H1 = H at hP hS ⊢
          have hP : va_P D vwCl (wH cy q (hBrk wi (hPart f (f + n) wi da h) (f + n))) H := hP.sub [0, 1, 2, 3, 4, 5, 6] rfl
          have hD : va_D A (wH cy q (hBrk wi (hPart f (f + n) wi da h) (f + n))) := hD.sub [0, 1, 2, 3, 4, 5, 6] (by decide) rfl
          clear hP1 hD1 hk9 hz9 ht9 hvm9 hPc hDc hFc
          subst hw9
          refine lv_if_eq (tgt := 38) hx hb dX1_spendHour_29 (by decide) (fun c29 => ?_) (fun c29 => ?_)
          · have b29 : ¬ 100 < pull wi h (f + n) := by rw [← pull_part (f := f) (da := da)]; exact of_decide_eq_false (bI_0.mp c29)
            refine lv_aload_n hx hb dX1_spendHour_38 rfl (lv_at hl 0 rfl) ?_
            refine va_get (D := D) (ci := 1) (v := .ref (q 6)) (C := RX1) (T := TX1) (N := 8) hx hb hts inX1_spendHour_RX1 hown hK hP 0 rfl rfl 5 (by decide) (hts _ kX1_spendHour_1) (fun _ h9 => h9) rfl dX1_spendHour_39 ?_
            refine lv_iload hx hb dX1_spendHour_42 (lv_at hl 6 rfl) ?_
            refine pc_zald hx hb hK hP 6 1 rfl rfl (k := f + n) (show f + n < 12 by omega) (by decide) dX1_spendHour_44 ?_
            refine lv_if_eq (tgt := 56) hx hb dX1_spendHour_45 (by decide) (fun c45 => absurd c45 (fun z => o19 (by rw [hBrk_o (by rw [pull_part]; exact b29)] at z; exact part_at.symm.trans z))) (fun c45 => ?_)
            refine lv_aload_n hx hb dX1_spendHour_48 rfl (lv_at hl 0 rfl) ?_
            refine lv_iload hx hb dX1_spendHour_49 (lv_at hl 6 rfl) ?_
            refine lv_iload hx hb dX1_spendHour_51 (lv_at hl 4 rfl) ?_
            have hPc := hP.sub (ws' := wH cy q (hBrk wi (hPart f (f + n) wi da h) (f + n))) [0, 1, 2, 3, 4, 5, 6] rfl
            have hDc := hD.sub (ws' := wH cy q (hBrk wi (hPart f (f + n) wi da h) (f + n))) [0, 1, 2, 3, 4, 5, 6] (by decide) rfl
            have hFc := va_free (wc := wH cy q (hBrk wi (hPart f (f + n) wi da h) (f + n))) hD hS hA [0, 1, 2, 3, 4, 5, 6] rfl
            refine va_callv (va_runV (As := [.int (nI (f + n)), .int da]) (rest := []) ⟨hx, hb, hml, hown, hts⟩ (mX1_slip l D cy H.size q (hBrk wi (hPart f (f + n) wi da h) (f + n)) (f + n) (by omega) da) (cwV 2 hts gX1_spendHour_X1_slip rfl rfl rfl (by decide +kernel) ⟨Nat.le_of_ble_eq_true rfl, Nat.le_of_ble_eq_true rfl⟩) ⟨fun a U g mk q => ⟨q.1, q.2.1, q.2.2.1, va_K.moved (u := U) (U := U.calling g mk a) (Vm.Alike.refl U.vm) q.2.2.2.1, q.2.2.2.2⟩, va_recv hK hPc (ci := 1) (q0 := 0) rfl rfl, fun U hU hW => ⟨rfl, by rw [hU], by rw [hU]; exact hPc, va_K.moved hW.alike hK, hDc.weaken (fun _ _ _ _ => trivial)⟩⟩ rfl rfl hl.1 rfl (lv_room (Nat.le_of_ble_eq_true rfl)) dX1_spendHour_53 ⟨Nat.le_of_ble_eq_true rfl, Nat.le_of_ble_eq_true rfl⟩) hS (fun q _ h => hFc q h) hFc (fun u9 t9 H1 locs ht9 hvm9 hw9 hB9 hz9 hk9 hS => ?_)
            obtain ⟨hP1, hD1⟩ := hB9
            rw [ht9] at hP1
            obtain ⟨hP, hD⟩ := va_join (wr := []) (w1 := wH cy q (hSlip da (hBrk wi (hPart f (f + n) wi da h) (f + n)) (f + n))) hP hD [0, 1, 2, 3, 4, 5, 6] [] rfl rfl (by decide) (by decide) hk9 hFc hP1 hD1
            generalize H1 = H at hP hS ⊢
            have hP : va_P D vwCl (wH cy q (hSlip da (hBrk wi (hPart f (f + n) wi da h) (f + n)) (f + n))) H := hP.sub [0, 1, 2, 3, 4, 5, 6] rfl
            have hD : va_D A (wH cy q (hSlip da (hBrk wi (hPart f (f + n) wi da h) (f + n)) (f + n))) := hD.sub [0, 1, 2, 3, 4, 5, 6] (by decide) rfl
            clear hP1 hD1 hk9 hz9 ht9 hvm9 hPc hDc hFc
            have e9 : (wH cy q (hSlip da (hBrk wi (hPart f (f + n) wi da h) (f + n)) (f + n)) : va_W) = (wH cy q (hPart f (f + (n + 1)) wi da h)) := (congrArg (fun x => wH cy q x) (hPart_slip (Nat.le_add_right f n) o19 b29))
            have hP : va_P D vwCl (wH cy q (hPart f (f + (n + 1)) wi da h)) H := e9 ▸ hP
            have hD : va_D A (wH cy q (hPart f (f + (n + 1)) wi da h)) := e9 ▸ hD
            clear e9
            have r9 : nI (cnt (brk wi h) f n) = nI (cnt (brk wi h) f (n + 1)) := (by simp [cnt, brk, o19, b29])
            rw [r9] at hl
            clear r9
            refine lv_iinc (v := nI (f + n + 1)) (lv' := [(6, .int (nI (f + n + 1))), (0, .ref (q 0)), (1, .int (nI f)), (2, .int (nI u)), (3, .int wi), (4, .int da), (5, .int (nI (cnt (brk wi h) f (n + 1))))]) hx hb dX1_spendHour_56 hl (k := 6) rfl ((show (nI (f + n)) + Int32.ofInt 1 = (nI (f + n)) + 1 from rfl).trans (show (nI (f + n)) + 1 = nI (f + n + 1) from nI_add (f + n) 1)) (by decide) rfl (fun ls hl => ?_)
            refine lv_goto (tgt := 6) hx hb dX1_spendHour_59 (by decide) ?_
            exact ih6 (n + 1) (by omega) (by omega) _ _ hP hD hS ls (lv_sub hl [1, 2, 3, 4, 5, 6, 0] rfl)
          · have b29 : 100 < pull wi h (f + n) := by rw [← pull_part (f := f) (da := da)]; exact of_decide_eq_true (bI_1.mp c29)
            refine lv_iinc (v := nI (cnt (brk wi h) f n + 1)) (lv' := [(5, .int (nI (cnt (brk wi h) f n + 1))), (0, .ref (q 0)), (1, .int (nI f)), (2, .int (nI u)), (3, .int wi), (4, .int da), (6, .int (nI (f + n)))]) hx hb dX1_spendHour_32 hl (k := 5) rfl ((show (nI (cnt (brk wi h) f n)) + Int32.ofInt 1 = (nI (cnt (brk wi h) f n)) + 1 from rfl).trans (show (nI (cnt (brk wi h) f n)) + 1 = nI (cnt (brk wi h) f n + 1) from nI_add (cnt (brk wi h) f n) 1)) (by decide) rfl (fun ls hl => ?_)
            refine lv_goto (tgt := 56) hx hb dX1_spendHour_35 (by decide) ?_
            have e9 : (wH cy q (hBrk wi (hPart f (f + n) wi da h) (f + n)) : va_W) = (wH cy q (hPart f (f + (n + 1)) wi da h)) := (congrArg (fun x => wH cy q x) (hPart_brk (Nat.le_add_right f n) o19 b29))
            have hP : va_P D vwCl (wH cy q (hPart f (f + (n + 1)) wi da h)) H := e9 ▸ hP
            have hD : va_D A (wH cy q (hPart f (f + (n + 1)) wi da h)) := e9 ▸ hD
            clear e9
            have r9 : nI (cnt (brk wi h) f n + 1) = nI (cnt (brk wi h) f (n + 1)) := (by simp [cnt, brk, o19, b29])
            rw [r9] at hl
            clear r9
            refine lv_iinc (v := nI (f + n + 1)) (lv' := [(6, .int (nI (f + n + 1))), (5, .int (nI (cnt (brk wi h) f (n + 1)))), (0, .ref (q 0)), (1, .int (nI f)), (2, .int (nI u)), (3, .int wi), (4, .int da)]) hx hb dX1_spendHour_56 hl (k := 6) rfl ((show (nI (f + n)) + Int32.ofInt 1 = (nI (f + n)) + 1 from rfl).trans (show (nI (f + n)) + 1 = nI (f + n + 1) from nI_add (f + n) 1)) (by decide) rfl (fun ls hl => ?_)
            refine lv_goto (tgt := 6) hx hb dX1_spendHour_59 (by decide) ?_
            exact ih6 (n + 1) (by omega) (by omega) _ _ hP hD hS ls (lv_sub hl [2, 3, 4, 5, 6, 1, 0] rfl)
  exact loop6 (u + 1) 0 (by omega) (by omega) _ _ (by rw [show f + 0 = f from rfl, hPart_0]; exact hP) (by rw [show f + 0 = f from rfl, hPart_0]; exact hD) hS ls (lv_sub hl [2, 3, 4, 5, 6, 1, 0] rfl)

theorem inX1_hourOfTable_RX1 : ∀ w ∈ u_ws RX1 TX1 8, w ∈ wsX1_hourOfTable := by decide +kernel
theorem kX1_hourOfTable_0 : (.fieldLink RX1 35 "WedgeHarps$Harp" "hour" "I" : Cond) ∈ wsX1_hourOfTable := by decide +kernel
set_option maxHeartbeats 4000000 in
set_option maxRecDepth 100000 in
theorem mX1_hourOfTable (l : Launch) (D : va_G) (cy : Nat → ClassId) (q : Nat → Nat) (h : HS) (hh : zh h < 2147483648) : Met l yX1_hourOfTable wsX1_hourOfTable ({ frames := 1, cells := 0, slots := 0, locals := 22 } : Room) (va_Pc [.ref (q 0)] (fun U => va_P D vwCl (wH cy q h) U.heap ∧ va_K D vwCl (TY cy) U)) (vp_Si (fun r8 => r8 = nI (zh h % 12))) 0 0 (fun _ => False) := by
  refine Met.ofW (cc := cX1_hourOfTable) (maxL := 1) (ret := (some .int)) (by decide) rfl ?_
  intro p e s m args below meth c s₁ B hml hv
  obtain ⟨rfl, hP, hK⟩ := hv
  have hx := B.exec
  have hb := B.bytes
  have hr := B.returns
  have hts := atoms_spec (ws := wsX1_hourOfTable) B.pre
  have hown : s.vm.findClass RX1 = some m.cls := findClass_of_methodNamed B.named
  have hlocks := B.notSynchronized
  have hl := lv_entry ([.ref (q 0)]) (n := 1) (Nat.le_of_ble_eq_true rfl)
  rw [lg_entry_eq]
  generalize (lg_sl ([.ref (q 0)]) ++ List.replicate (1 - (lg_sl ([.ref (q 0)])).length) Slot.unset).toArray = ls at hl ⊢
  have hl : lv_has ls 1 [(0, .ref (q 0))] := hl
  refine lv_aload_n hx hb dX1_hourOfTable_0 rfl (lv_at hl 0 rfl) ?_
  refine va_get (D := D) (ci := 1) (v := .int (nI (zh h))) (C := RX1) (T := TX1) (N := 8) hx hb hts inX1_hourOfTable_RX1 hown hK hP 0 rfl rfl 7 (by decide) (hts _ kX1_hourOfTable_0) (fun _ h9 => h9) rfl dX1_hourOfTable_1 ?_
  refine lv_bipush (v := 12) hx hb dX1_hourOfTable_4 (by decide) ?_
  refine pc_calli (va_runS (As := [.int (nI (zh h)), .int 12]) (rest := []) ⟨hx, hb, hml, hown, hts⟩ (mJ9_floorMod_7cf53 l D cy (zh h) hh) (va_cwS 2 hts gX1_hourOfTable_J9_floorMod_7cf53 rfl rfl rfl (by decide +kernel) ⟨Nat.le_of_ble_eq_true rfl, Nat.le_of_ble_eq_true rfl⟩) ⟨fun a U g mk q => q, fun U hU hW => ⟨rfl, trivial⟩⟩ rfl rfl hl.1 rfl (lv_room (Nat.le_of_ble_eq_true rfl)) dX1_hourOfTable_6 ⟨Nat.le_of_ble_eq_true rfl, Nat.le_of_ble_eq_true rfl⟩) (fun r9 hr9 => ?_)
  subst hr9
  exact W.iret (v := nI (zh h % 12)) hx hb hr (fun t ht hW => ⟨nI (zh h % 12), rfl, rfl, ht⟩) (fun q hq => absurd hq List.not_mem_nil) dX1_hourOfTable_9

