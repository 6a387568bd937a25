section ALEN
variable {p : Program} {l : Launch} {e : Env} {R : Room} {s : State} {m : MethodId} {args : Array Value} {below : List Frame} {meth : Method} {c : Code} {H : Heap} {locs : List Loc} {cells slots : Nat} {Q : State → Prop}
variable {cc : ByteArray} {pc : Nat} {ls : Array Slot} {rest st0 : List Value} {D : va_G} {cl : List vw_C} {a : Nat} {ws : va_W} {cy : Nat → ClassId}
theorem pc_alenA (hexec : p.tables.exec = Jvm.exec) (hb : c.code = cc) (hover : vKP cy s) (hP : va_P D cl ws H) (q0 : Nat) {n : Nat} {f : Nat → Option Nat} (ha : ws[q0]? = some (a, .inl (cy 4, n, qf f))) {v : Int32} (hv : Int32.ofNat n = v) (hdg : decode cc pc = .ok (.arraylength, 1))
    (kk : W p l e R s m args below meth c H locs cells slots Q (F0 m (pc + 1) ls (.int v :: rest))) : W p l e R s m args below meth c H locs cells slots Q (F0 m pc ls (.ref a :: rest)) := by
  subst hv
  exact W.alen (n := Int32.ofNat n) hexec hb (hP q0 _ ha) (hover.arr n (fun j => va_rf (f j))) (by rw [vp_cell_q, arrV_size] <;> rfl) rfl rfl hdg kk
end ALEN
theorem nI_neg {n : Nat} (h : n < 2147483648) : ¬ nI n < 0 := Int32.not_lt.mpr (nI_pos' h)
theorem tone_36 {h : HS} {k : Nat} (hz : ¬ zo h k = 0) : tone h k = zb h k + zd h k + 10 * zw h k - zl h + 3 * (if 0 < k then zw h (k - 1) else 0) + 3 * (if k < 11 then zw h (k + 1) else 0) := by
  unfold tone
  rw [if_neg hz]
  grind
theorem all_s {p : Nat → Prop} {j : Nat} (hf : ∀ i, i < j → p i) (hx : p j) : ∀ i, i < j + 1 → p i := fun i hi => (Nat.lt_succ_iff_lt_or_eq.mp hi).elim (hf i) (fun z => z ▸ hx)
theorem inX3_tone_RX3 : ∀ w ∈ u_ws RX3 TX3 6, w ∈ wsX3_tone := by decide +kernel
theorem kX3_tone_0 : (.fieldLink RX3 9 "WedgeHarpsLaw$Sim" "strings" "[[I" : Cond) ∈ wsX3_tone := by decide +kernel
theorem kX3_tone_1 : (.fieldLink RX3 29 "WedgeHarpsLaw$Sim" "swelling" "I" : Cond) ∈ wsX3_tone := by decide +kernel
set_option maxHeartbeats 4000000 in
set_option maxRecDepth 100000 in
theorem mX3_tone (l : Launch) (D : va_G) (cy : Nat → ClassId) (b : Nat) (sa st ch : Nat → Nat) (u : US) (k : Nat) (hk : k < 12) : Met l yX3_tone wsX3_tone ({ frames := 0, cells := 0, slots := 0, locals := 0 } : Room) (va_Pc [.ref b, .int (nI k)] (fun U => va_P D vwCl (wSm cy b sa st ch u) U.heap ∧ va_K D vwCl (TY cy) U ∧ vKP cy U)) (vp_Si (fun r8 => r8 = tone (uh u) k)) 0 0 (fun _ => False) := by
  refine Met.ofW (cc := cX3_tone) (maxL := 4) (ret := (some .int)) (by decide) rfl ?_
  intro p e s m args below meth c s₁ B hml hv
  obtain ⟨rfl, hP, hK, hkp⟩ := hv
  have hx := B.exec
  have hb := B.bytes
  have hr := B.returns
  have hts := atoms_spec (ws := wsX3_tone) B.pre
  have hown : s.vm.findClass RX3 = some m.cls := findClass_of_methodNamed B.named
  have hlocks := B.notSynchronized
  have hl := lv_entry ([.ref b, .int (nI k)]) (n := 4) (Nat.le_of_ble_eq_true rfl)
  rw [lg_entry_eq]
  generalize (lg_sl ([.ref b, .int (nI k)]) ++ List.replicate (4 - (lg_sl ([.ref b, .int (nI k)])).length) Slot.unset).toArray = ls at hl ⊢
  have hl : lv_has ls 4 [(0, .ref b), (1, .int (nI k))] := hl
  have hP : va_P D vwCl (([] : va_W) ++ (wS5 cy b sa st ch (un u) (uw u) (ud u) (nI (zh (uh u))) (zl (uh u)) ++ (rows12 cy st 6 (rowS (uh u)) ++ ([])))) s.heap := hP
  refine lv_aload_n hx hb dX3_tone_0 rfl (lv_at hl 0 rfl) ?_
  refine va_get (D := D) (ci := 3) (v := .ref (sa 0)) (C := RX3) (T := TX3) (N := 6) hx hb hts inX3_tone_RX3 hown hK hP 0 rfl rfl 0 (by decide) (hts _ kX3_tone_0) (fun _ h9 => h9) rfl dX3_tone_1 ?_
  refine lv_iload_n hx hb dX3_tone_4 rfl (lv_at hl 1 rfl) ?_
  refine pc_aldA hx hb hkp hP 1 rfl (k := k) (show k < 12 by omega) (by decide) (v := st k) rfl dX3_tone_5 ?_
  refine lv_astore_n (lv' := [(2, .ref (st k)), (0, .ref b), (1, .int (nI k))]) hx hb dX3_tone_6 rfl hl (by decide) rfl (fun ls hl => ?_)
  refine lv_aload_n hx hb dX3_tone_7 rfl (lv_at hl 0 rfl) ?_
  refine lv_iconst (v := 4) hx hb dX3_tone_8 (by decide) ?_
  refine row_aldS hx hb hK hP (k := k) (j := 4) (show k < 12 by omega) (show 4 < 6 by omega) (by decide) dX3_tone_9 ?_
  refine pc_top (show (rowS (uh u)) k 4 = zo (uh u) k from rfl) ?_
  refine lv_if_ne (tgt := 15) hx hb dX3_tone_10 (by decide) (fun c10 => ?_) (fun c10 => ?_)
  · refine lv_aload_n hx hb dX3_tone_15 rfl (lv_at hl 0 rfl) ?_
    refine lv_iconst (v := 0) hx hb dX3_tone_16 (by decide) ?_
    refine row_aldS hx hb hK hP (k := k) (j := 0) (show k < 12 by omega) (show 0 < 6 by omega) (by decide) dX3_tone_17 ?_
    refine pc_top (show (rowS (uh u)) k 0 = zb (uh u) k from rfl) ?_
    refine lv_aload_n hx hb dX3_tone_18 rfl (lv_at hl 0 rfl) ?_
    refine lv_iconst (v := 2) hx hb dX3_tone_19 (by decide) ?_
    refine row_aldS hx hb hK hP (k := k) (j := 2) (show k < 12 by omega) (show 2 < 6 by omega) (by decide) dX3_tone_20 ?_
    refine pc_top (show (rowS (uh u)) k 2 = zd (uh u) k from rfl) ?_
    refine lv_iadd hx hb dX3_tone_21 ?_
    refine lv_bipush (v := 10) hx hb dX3_tone_22 (by decide) ?_
    refine lv_aload_n hx hb dX3_tone_24 rfl (lv_at hl 0 rfl) ?_
    refine lv_iconst (v := 1) hx hb dX3_tone_25 (by decide) ?_
    refine row_aldS hx hb hK hP (k := k) (j := 1) (show k < 12 by omega) (show 1 < 6 by omega) (by decide) dX3_tone_26 ?_
    refine pc_top (show (rowS (uh u)) k 1 = zw (uh u) k from rfl) ?_
    refine lv_imul hx hb dX3_tone_27 ?_
    refine lv_iadd hx hb dX3_tone_28 ?_
    refine lv_aload_n hx hb dX3_tone_29 rfl (lv_at hl 1 rfl) ?_
    refine va_get (D := D) (ci := 3) (v := .int (zl (uh u))) (C := RX3) (T := TX3) (N := 6) hx hb hts inX3_tone_RX3 hown hK hP 0 rfl rfl 5 (by decide) (hts _ kX3_tone_1) (fun _ h9 => h9) rfl dX3_tone_30 ?_
    refine lv_isub hx hb dX3_tone_33 ?_
    refine lv_istore_n (lv' := [(3, .int ((((zb (uh u) k) + (zd (uh u) k)) + (10 * (zw (uh u) k))) - (zl (uh u)))), (2, .ref (st k)), (0, .ref b), (1, .int (nI k))]) hx hb dX3_tone_34 rfl hl (by decide) rfl (fun ls hl => ?_)
    refine lv_iload_n hx hb dX3_tone_35 rfl (lv_at hl 3 rfl) ?_
    refine lv_if_le (tgt := 54) hx hb dX3_tone_36 (by decide) (fun c36 => ?_) (fun c36 => ?_)
    · have n36 : k ≤ 0 := (nI_leI (a := k) (b := 0) (by omega) (by omega)).mp c36
      have f36 : ¬ (0 < k) := by omega
      refine lv_iload_n hx hb dX3_tone_54 rfl (lv_at hl 3 rfl) ?_
      refine lv_bipush (v := 11) hx hb dX3_tone_55 (by decide) ?_
      refine lv_icmp_ge (tgt := 75) hx hb dX3_tone_57 (by decide) (fun c57 => ?_) (fun c57 => ?_)
      · have n57 : 11 ≤ k := (nI_leI (a := 11) (b := k) (by omega) (by omega)).mp c57
        have f57 : ¬ (k < 11) := by omega
        refine lv_iload_n hx hb dX3_tone_75 rfl (lv_at hl 0 rfl) ?_
        exact W.iret (v := (((zb (uh u) k) + (zd (uh u) k)) + (10 * (zw (uh u) k))) - (zl (uh u))) hx hb hr (fun t ht hW => ⟨(((zb (uh u) k) + (zd (uh u) k)) + (10 * (zw (uh u) k))) - (zl (uh u)), rfl, (by rw [tone_36 c10]; simp [f36, f57]), ht⟩) (fun q hq => absurd hq List.not_mem_nil) dX3_tone_76
      · have n57 : ¬ (11 ≤ k) := fun h9 => c57 ((nI_leI (a := 11) (b := k) (by omega) (by omega)).mpr h9)
        have f57 : k < 11 := by omega
        refine lv_iload_n hx hb dX3_tone_60 rfl (lv_at hl 0 rfl) ?_
        refine lv_iconst (v := 3) hx hb dX3_tone_61 (by decide) ?_
        refine lv_aload_n hx hb dX3_tone_62 rfl (lv_at hl 2 rfl) ?_
        refine va_get (D := D) (ci := 3) (v := .ref (sa 0)) (C := RX3) (T := TX3) (N := 6) hx hb hts inX3_tone_RX3 hown hK hP 0 rfl rfl 0 (by decide) (hts _ kX3_tone_0) (fun _ h9 => h9) rfl dX3_tone_63 ?_
        refine lv_iload_n hx hb dX3_tone_66 rfl (lv_at hl 3 rfl) ?_
        refine lv_iconst (v := 1) hx hb dX3_tone_67 (by decide) ?_
        refine lv_iadd hx hb dX3_tone_68 ?_
        refine pc_top (show (nI k) + 1 = nI (k + 1) from nI_add k 1) ?_
        refine pc_aldA hx hb hkp hP 1 rfl (k := k + 1) (show k + 1 < 12 by omega) (by decide) (v := st (k + 1)) rfl dX3_tone_69 ?_
        refine lv_iconst (v := 1) hx hb dX3_tone_70 (by decide) ?_
        refine row_aldS hx hb hK hP (k := (k + 1)) (j := 1) (show (k + 1) < 12 by omega) (show 1 < 6 by omega) (by decide) dX3_tone_71 ?_
        refine pc_top (show (rowS (uh u)) (k + 1) 1 = zw (uh u) (k + 1) from rfl) ?_
        refine lv_imul hx hb dX3_tone_72 ?_
        refine lv_iadd hx hb dX3_tone_73 ?_
        refine lv_istore_n (lv' := [(3, .int (((((zb (uh u) k) + (zd (uh u) k)) + (10 * (zw (uh u) k))) - (zl (uh u))) + (3 * (zw (uh u) (k + 1))))), (2, .ref (st k)), (0, .ref b), (1, .int (nI k))]) hx hb dX3_tone_74 rfl hl (by decide) rfl (fun ls hl => ?_)
        refine lv_iload_n hx hb dX3_tone_75 rfl (lv_at hl 0 rfl) ?_
        exact W.iret (v := ((((zb (uh u) k) + (zd (uh u) k)) + (10 * (zw (uh u) k))) - (zl (uh u))) + (3 * (zw (uh u) (k + 1)))) hx hb hr (fun t ht hW => ⟨((((zb (uh u) k) + (zd (uh u) k)) + (10 * (zw (uh u) k))) - (zl (uh u))) + (3 * (zw (uh u) (k + 1))), rfl, (by rw [tone_36 c10]; simp [f36, f57]), ht⟩) (fun q hq => absurd hq List.not_mem_nil) dX3_tone_76
    · have n36 : ¬ (k ≤ 0) := fun h9 => c36 ((nI_leI (a := k) (b := 0) (by omega) (by omega)).mpr h9)
      have f36 : 0 < k := by omega
      refine lv_iload_n hx hb dX3_tone_39 rfl (lv_at hl 0 rfl) ?_
      refine lv_iconst (v := 3) hx hb dX3_tone_40 (by decide) ?_
      refine lv_aload_n hx hb dX3_tone_41 rfl (lv_at hl 2 rfl) ?_
      refine va_get (D := D) (ci := 3) (v := .ref (sa 0)) (C := RX3) (T := TX3) (N := 6) hx hb hts inX3_tone_RX3 hown hK hP 0 rfl rfl 0 (by decide) (hts _ kX3_tone_0) (fun _ h9 => h9) rfl dX3_tone_42 ?_
      refine lv_iload_n hx hb dX3_tone_45 rfl (lv_at hl 3 rfl) ?_
      refine lv_iconst (v := 1) hx hb dX3_tone_46 (by decide) ?_
      refine lv_isub hx hb dX3_tone_47 ?_
      refine pc_top (show (nI k) - 1 = nI (k - 1) from pk_sub (a := k) (b := 1) (by omega)) ?_
      refine pc_aldA hx hb hkp hP 1 rfl (k := k - 1) (show k - 1 < 12 by omega) (by decide) (v := st (k - 1)) rfl dX3_tone_48 ?_
      refine lv_iconst (v := 1) hx hb dX3_tone_49 (by decide) ?_
      refine row_aldS hx hb hK hP (k := (k - 1)) (j := 1) (show (k - 1) < 12 by omega) (show 1 < 6 by omega) (by decide) dX3_tone_50 ?_
      refine pc_top (show (rowS (uh u)) (k - 1) 1 = zw (uh u) (k - 1) from rfl) ?_
      refine lv_imul hx hb dX3_tone_51 ?_
      refine lv_iadd hx hb dX3_tone_52 ?_
      refine lv_istore_n (lv' := [(3, .int (((((zb (uh u) k) + (zd (uh u) k)) + (10 * (zw (uh u) k))) - (zl (uh u))) + (3 * (zw (uh u) (k - 1))))), (2, .ref (st k)), (0, .ref b), (1, .int (nI k))]) hx hb dX3_tone_53 rfl hl (by decide) rfl (fun ls hl => ?_)
      refine lv_iload_n hx hb dX3_tone_54 rfl (lv_at hl 3 rfl) ?_
      refine lv_bipush (v := 11) hx hb dX3_tone_55 (by decide) ?_
      refine lv_icmp_ge (tgt := 75) hx hb dX3_tone_57 (by decide) (fun c57 => ?_) (fun c57 => ?_)
      · have n57 : 11 ≤ k := (nI_leI (a := 11) (b := k) (by omega) (by omega)).mp c57
        have f57 : ¬ (k < 11) := by omega
        refine lv_iload_n hx hb dX3_tone_75 rfl (lv_at hl 0 rfl) ?_
        exact W.iret (v := ((((zb (uh u) k) + (zd (uh u) k)) + (10 * (zw (uh u) k))) - (zl (uh u))) + (3 * (zw (uh u) (k - 1)))) hx hb hr (fun t ht hW => ⟨((((zb (uh u) k) + (zd (uh u) k)) + (10 * (zw (uh u) k))) - (zl (uh u))) + (3 * (zw (uh u) (k - 1))), rfl, (by rw [tone_36 c10]; simp [f36, f57]), ht⟩) (fun q hq => absurd hq List.not_mem_nil) dX3_tone_76
      · have n57 : ¬ (11 ≤ k) := fun h9 => c57 ((nI_leI (a := 11) (b := k) (by omega) (by omega)).mpr h9)
        have f57 : k < 11 := by omega
        refine lv_iload_n hx hb dX3_tone_60 rfl (lv_at hl 0 rfl) ?_
        refine lv_iconst (v := 3) hx hb dX3_tone_61 (by decide) ?_
        refine lv_aload_n hx hb dX3_tone_62 rfl (lv_at hl 2 rfl) ?_
        refine va_get (D := D) (ci := 3) (v := .ref (sa 0)) (C := RX3) (T := TX3) (N := 6) hx hb hts inX3_tone_RX3 hown hK hP 0 rfl rfl 0 (by decide) (hts _ kX3_tone_0) (fun _ h9 => h9) rfl dX3_tone_63 ?_
        refine lv_iload_n hx hb dX3_tone_66 rfl (lv_at hl 3 rfl) ?_
        refine lv_iconst (v := 1) hx hb dX3_tone_67 (by decide) ?_
        refine lv_iadd hx hb dX3_tone_68 ?_
        refine pc_top (show (nI k) + 1 = nI (k + 1) from nI_add k 1) ?_
        refine pc_aldA hx hb hkp hP 1 rfl (k := k + 1) (show k + 1 < 12 by omega) (by decide) (v := st (k + 1)) rfl dX3_tone_69 ?_
        refine lv_iconst (v := 1) hx hb dX3_tone_70 (by decide) ?_
        refine row_aldS hx hb hK hP (k := (k + 1)) (j := 1) (show (k + 1) < 12 by omega) (show 1 < 6 by omega) (by decide) dX3_tone_71 ?_
        refine pc_top (show (rowS (uh u)) (k + 1) 1 = zw (uh u) (k + 1) from rfl) ?_
        refine lv_imul hx hb dX3_tone_72 ?_
        refine lv_iadd hx hb dX3_tone_73 ?_
        refine lv_istore_n (lv' := [(3, .int ((((((zb (uh u) k) + (zd (uh u) k)) + (10 * (zw (uh u) k))) - (zl (uh u))) + (3 * (zw (uh u) (k - 1)))) + (3 * (zw (uh u) (k + 1))))), (2, .ref (st k)), (0, .ref b), (1, .int (nI k))]) hx hb dX3_tone_74 rfl hl (by decide) rfl (fun ls hl => ?_)
        refine lv_iload_n hx hb dX3_tone_75 rfl (lv_at hl 0 rfl) ?_
        exact W.iret (v := (((((zb (uh u) k) + (zd (uh u) k)) + (10 * (zw (uh u) k))) - (zl (uh u))) + (3 * (zw (uh u) (k - 1)))) + (3 * (zw (uh u) (k + 1)))) hx hb hr (fun t ht hW => ⟨(((((zb (uh u) k) + (zd (uh u) k)) + (10 * (zw (uh u) k))) - (zl (uh u))) + (3 * (zw (uh u) (k - 1)))) + (3 * (zw (uh u) (k + 1))), rfl, (by rw [tone_36 c10]; simp [f36, f57]), ht⟩) (fun q hq => absurd hq List.not_mem_nil) dX3_tone_76
  · refine lv_iconst (v := 0) hx hb dX3_tone_13 (by decide) ?_
    exact W.iret (v := 0) hx hb hr (fun t ht hW => ⟨0, rfl, (by simp [tone, c10]), ht⟩) (fun q hq => absurd hq List.not_mem_nil) dX3_tone_14

set_option maxHeartbeats 4000000 in
set_option maxRecDepth 100000 in
theorem mX3_off (l : Launch) (D : va_G) (cy : Nat → ClassId) (b : Nat) (sa st ch : Nat → Nat) (u : US) (c0 lo sz : Nat) (tn : Nat → Int32) (hls : lo + sz ≤ 12) (hs4 : sz ≤ 4) : Met l yX3_off wsX3_off ({ frames := 1, cells := 0, slots := 0, locals := 30 } : Room) (va_Pc [.ref b, .ref c0] (fun U => va_P D vwCl (wSu cy b sa st ch u ++ (wSr cy st u ++ [(c0, .inl (cy 0, sz + 1, .inl (rowL lo tn)))])) U.heap ∧ va_K D vwCl (TY cy) U ∧ vKP cy U)) (vp_Si (fun r8 => r8 = offBy (uh u) lo tn sz)) 0 0 (fun _ => False) := by
  refine Met.ofW (cc := cX3_off) (maxL := 5) (ret := (some .int)) (by decide) rfl ?_
  intro p e s m args below meth c s₁ B hml hv
  obtain ⟨rfl, hP, hK, hkp⟩ := hv
  have hx := B.exec
  have hb := B.bytes
  have hr := B.returns
  have hts := atoms_spec (ws := wsX3_off) B.pre
  have hown : s.vm.findClass RX3 = some m.cls := findClass_of_methodNamed B.named
  have hlocks := B.notSynchronized
  have hl := lv_entry ([.ref b, .ref c0]) (n := 5) (Nat.le_of_ble_eq_true rfl)
  rw [lg_entry_eq]
  generalize (lg_sl ([.ref b, .ref c0]) ++ List.replicate (5 - (lg_sl ([.ref b, .ref c0])).length) Slot.unset).toArray = ls at hl ⊢
  have hl : lv_has ls 5 [(0, .ref b), (1, .ref c0)] := hl
  have hP : va_P D vwCl (([] : va_W) ++ (wS5 cy b sa st ch (un u) (uw u) (ud u) (nI (zh (uh u))) (zl (uh u)) ++ (rows12 cy st 6 (rowS (uh u)) ++ ([(c0, .inl (cy 0, sz + 1, .inl (rowL lo tn)))])))) s.heap := hP
  refine lv_iconst (v := 0) hx hb dX3_off_0 (by decide) ?_
  refine lv_istore_n (lv' := [(2, .int 0), (0, .ref b), (1, .ref c0)]) hx hb dX3_off_1 rfl hl (by decide) rfl (fun ls hl => ?_)
  refine lv_iconst (v := 1) hx hb dX3_off_2 (by decide) ?_
  refine lv_istore_n (lv' := [(3, .int 1), (2, .int 0), (0, .ref b), (1, .ref c0)]) hx hb dX3_off_3 rfl hl (by decide) rfl (fun ls hl => ?_)
  have loop4 : ∀ (n9 : Nat) (j : Nat), j ≤ sz → sz - j < n9 → ∀ ls : Array Slot, lv_has ls 5 [(0, .ref b), (1, .ref c0), (2, .int (offBy (uh u) lo tn j)), (3, .int (nI (j + 1)))] → W p l e (headSpec wsX3_off ({ frames := 1, cells := 0, slots := 0, locals := 30 } : Room)).room s m ([.ref b, .ref c0] : List Value).toArray below meth c s.heap [] 0 0 (MQ below (vp_Si (fun r8 => r8 = offBy (uh u) lo tn sz)) ([.ref b, .ref c0] : List Value).toArray s 0 0 (fun _ => False)) (F0 m 4 ls []) := by
    intro n9
    induction n9 with
    | zero => intro j hj h9 ls hl; exact absurd h9 (by omega)
    | succ n9 ih4 =>
      intro j hj h9 ls hl
      refine lv_iload_n hx hb dX3_off_4 rfl (lv_at hl 3 rfl) ?_
      refine lv_aload_n hx hb dX3_off_5 rfl (lv_at hl 1 rfl) ?_
      refine va_alen hx hb hK hP 17 0 rfl rfl (v := nI (sz + 1)) rfl dX3_off_6 ?_
      refine lv_icmp_ge (tgt := 49) hx hb dX3_off_7 (by decide) (fun c7 => ?_) (fun c7 => ?_)
      · have n7 : sz + 1 ≤ j + 1 := (nI_leI (a := sz + 1) (b := j + 1) (by omega) (by omega)).mp c7
        refine lv_iload_n hx hb dX3_off_49 rfl (lv_at hl 2 rfl) ?_
        exact W.iret (v := offBy (uh u) lo tn j) hx hb hr (fun t ht hW => ⟨offBy (uh u) lo tn j, rfl, (by rw [show j = sz by omega]), ht⟩) (fun q hq => absurd hq List.not_mem_nil) dX3_off_50
      · have n7 : ¬ (sz + 1 ≤ j + 1) := fun h9 => c7 ((nI_leI (a := sz + 1) (b := j + 1) (by omega) (by omega)).mpr h9)
        refine lv_aload_n hx hb dX3_off_10 rfl (lv_at hl 0 rfl) ?_
        refine lv_aload_n hx hb dX3_off_11 rfl (lv_at hl 1 rfl) ?_
        refine lv_iconst (v := 0) hx hb dX3_off_12 (by decide) ?_
        refine pc_iald hx hb hK hP 17 0 rfl rfl (k := 0) (show 0 < sz + 1 by omega) (by omega) dX3_off_13 ?_
        refine pc_top (show (rowL lo tn) 0 = nI lo from rfl) ?_
        refine lv_iload_n hx hb dX3_off_14 rfl (lv_at hl 3 rfl) ?_
        refine lv_iadd hx hb dX3_off_15 ?_
        refine pc_top (show (nI lo) + (nI (j + 1)) = nI (lo + j + 1) from nI_add lo (j + 1)) ?_
        refine lv_iconst (v := 1) hx hb dX3_off_16 (by decide) ?_
        refine lv_isub hx hb dX3_off_17 ?_
        refine pc_top (show (nI (lo + j + 1)) - 1 = nI ((lo + j + 1) - 1) from pk_sub (a := lo + j + 1) (b := 1) (by omega)) ?_
        refine pc_top (show nI ((lo + j + 1) - 1) = nI (lo + j) from (by rw [Nat.add_sub_cancel])) ?_
        refine sim_p (Lc := ([] : va_W)) (S5 := wS5 cy b sa st ch (un u) (uw u) (ud u) (nI (zh (uh u))) (zl (uh u))) (S12 := rows12 cy st 6 (rowS (uh u))) (X := [(c0, .inl (cy 0, sz + 1, .inl (rowL lo tn)))]) (Y := []) (As := [.int (nI (lo + j))]) (rest := []) hP hK hkp ⟨hx, hb, hml, hown, hts⟩ (mX3_tone l D cy b sa st ch u (lo + j) (by omega)) (no_mem) rfl (cwV 1 hts gX3_off_X3_tone rfl rfl rfl (by decide +kernel) ⟨Nat.le_of_ble_eq_true rfl, Nat.le_of_ble_eq_true rfl⟩) rfl rfl hl.1 (Nat.le_of_ble_eq_true rfl) dX3_off_18 ⟨Nat.le_of_ble_eq_true rfl, Nat.le_of_ble_eq_true rfl⟩ ?_
        refine lv_aload_n hx hb dX3_off_21 rfl (lv_at hl 1 rfl) ?_
        refine lv_iload_n hx hb dX3_off_22 rfl (lv_at hl 3 rfl) ?_
        refine pc_iald hx hb hK hP 17 0 rfl rfl (k := j + 1) (show j + 1 < sz + 1 by omega) (by omega) dX3_off_23 ?_
        refine pc_top (show (rowL lo tn) (j + 1) = tn j from (by show (if j + 1 = 0 then nI lo else tn (j + 1 - 1)) = tn j; rw [if_neg (by omega), Nat.add_sub_cancel])) ?_
        refine lv_isub hx hb dX3_off_24 ?_
        refine lv_istore (lv' := [(4, .int ((tone (uh u) (lo + j)) - (tn j))), (0, .ref b), (1, .ref c0), (2, .int (offBy (uh u) lo tn j)), (3, .int (nI (j + 1)))]) hx hb dX3_off_25 hl (by decide) rfl (fun ls hl => ?_)
        refine lv_iload_n hx hb dX3_off_27 rfl (lv_at hl 3 rfl) ?_
        refine lv_iload hx hb dX3_off_28 (lv_at hl 0 rfl) ?_
        refine lv_if_ge (tgt := 39) hx hb dX3_off_30 (by decide) (fun c30 => ?_) (fun c30 => ?_)
        · refine lv_iload hx hb dX3_off_39 (lv_at hl 0 rfl) ?_
          refine lv_iadd hx hb dX3_off_41 ?_
          refine lv_istore_n (lv' := [(2, .int ((offBy (uh u) lo tn j) + ((tone (uh u) (lo + j)) - (tn j)))), (4, .int ((tone (uh u) (lo + j)) - (tn j))), (0, .ref b), (1, .ref c0), (3, .int (nI (j + 1)))]) hx hb dX3_off_42 rfl hl (by decide) rfl (fun ls hl => ?_)
          have r9 : (offBy (uh u) lo tn j) + ((tone (uh u) (lo + j)) - (tn j)) = offBy (uh u) lo tn (j + 1) := (by simp [offBy, sumN, ab, c30])
          rw [r9] at hl
          clear r9
          refine lv_iinc (v := nI (j + 1 + 1)) (lv' := [(3, .int (nI (j + 1 + 1))), (2, .int (offBy (uh u) lo tn (j + 1))), (4, .int ((tone (uh u) (lo + j)) - (tn j))), (0, .ref b), (1, .ref c0)]) hx hb dX3_off_43 hl (k := 4) rfl ((show (nI (j + 1)) + Int32.ofInt 1 = (nI (j + 1)) + 1 from rfl).trans (show (nI (j + 1)) + 1 = nI (j + 1 + 1) from nI_add (j + 1) 1)) (by decide) rfl (fun ls hl => ?_)
          refine lv_goto (tgt := 4) hx hb dX3_off_46 (by decide) ?_
          exact ih4 (j + 1) (by omega) (by omega) ls (lv_sub hl [3, 4, 1, 0] rfl)
        · refine lv_iload hx hb dX3_off_33 (lv_at hl 0 rfl) ?_
          refine lv_ineg hx hb dX3_off_35 ?_
          refine lv_goto (tgt := 41) hx hb dX3_off_36 (by decide) ?_
          refine lv_iadd hx hb dX3_off_41 ?_
          refine lv_istore_n (lv' := [(2, .int ((offBy (uh u) lo tn j) + (0 - ((tone (uh u) (lo + j)) - (tn j))))), (4, .int ((tone (uh u) (lo + j)) - (tn j))), (0, .ref b), (1, .ref c0), (3, .int (nI (j + 1)))]) hx hb dX3_off_42 rfl hl (by decide) rfl (fun ls hl => ?_)
          have r9 : (offBy (uh u) lo tn j) + (0 - ((tone (uh u) (lo + j)) - (tn j))) = offBy (uh u) lo tn (j + 1) := (by simp [offBy, sumN, ab, c30])
          rw [r9] at hl
          clear r9
          refine lv_iinc (v := nI (j + 1 + 1)) (lv' := [(3, .int (nI (j + 1 + 1))), (2, .int (offBy (uh u) lo tn (j + 1))), (4, .int ((tone (uh u) (lo + j)) - (tn j))), (0, .ref b), (1, .ref c0)]) hx hb dX3_off_43 hl (k := 4) rfl ((show (nI (j + 1)) + Int32.ofInt 1 = (nI (j + 1)) + 1 from rfl).trans (show (nI (j + 1)) + 1 = nI (j + 1 + 1) from nI_add (j + 1) 1)) (by decide) rfl (fun ls hl => ?_)
          refine lv_goto (tgt := 4) hx hb dX3_off_46 (by decide) ?_
          exact ih4 (j + 1) (by omega) (by omega) ls (lv_sub hl [3, 4, 1, 0] rfl)
  exact loop4 (sz + 1) 0 (Nat.zero_le _) (by omega) ls (lv_sub hl [2, 3, 1, 0] rfl)

theorem inX3_sounds_RX3 : ∀ w ∈ u_ws RX3 TX3 6, w ∈ wsX3_sounds := by decide +kernel
theorem kX3_sounds_0 : (.fieldLink RX3 9 "WedgeHarpsLaw$Sim" "strings" "[[I" : Cond) ∈ wsX3_sounds := by decide +kernel
set_option maxHeartbeats 4000000 in
set_option maxRecDepth 100000 in
theorem mX3_sounds (l : Launch) (D : va_G) (cy : Nat → ClassId) (b : Nat) (sa st ch : Nat → Nat) (u : US) (c0 lo sz : Nat) (tn : Nat → Int32) (hls : lo + sz ≤ 12) (hs4 : sz ≤ 4) (hq : ∀ j, j < sz → ¬ tone (uh u) (lo + j) - tn j = -2147483648) : Met l yX3_sounds wsX3_sounds ({ frames := 1, cells := 0, slots := 0, locals := 30 } : Room) (va_Pc [.ref b, .ref c0] (fun U => va_P D vwCl (wSu cy b sa st ch u ++ (wSr cy st u ++ [(c0, .inl (cy 0, sz + 1, .inl (rowL lo tn)))])) U.heap ∧ va_K D vwCl (TY cy) U ∧ vKP cy U)) (vp_Si (fun r8 => r8 = bI (tuned (uh u) lo sz tn))) 0 0 (fun _ => False) := by
  refine Met.ofW (cc := cX3_sounds) (maxL := 4) (ret := (some .boolean)) (by decide) rfl ?_
  intro p e s m args below meth c s₁ B hml hv
  obtain ⟨rfl, hP, hK, hkp⟩ := hv
  have hx := B.exec
  have hb := B.bytes
  have hr := B.returns
  have hts := atoms_spec (ws := wsX3_sounds) B.pre
  have hown : s.vm.findClass RX3 = some m.cls := findClass_of_methodNamed B.named
  have hlocks := B.notSynchronized
  have hl := lv_entry ([.ref b, .ref c0]) (n := 4) (Nat.le_of_ble_eq_true rfl)
  rw [lg_entry_eq]
  generalize (lg_sl ([.ref b, .ref c0]) ++ List.replicate (4 - (lg_sl ([.ref b, .ref c0])).length) Slot.unset).toArray = ls at hl ⊢
  have hl : lv_has ls 4 [(0, .ref b), (1, .ref c0)] := hl
  have hP : va_P D vwCl (([] : va_W) ++ (wS5 cy b sa st ch (un u) (uw u) (ud u) (nI (zh (uh u))) (zl (uh u)) ++ (rows12 cy st 6 (rowS (uh u)) ++ ([(c0, .inl (cy 0, sz + 1, .inl (rowL lo tn)))])))) s.heap := hP
  refine lv_iconst (v := 1) hx hb dX3_sounds_0 (by decide) ?_
  refine lv_istore_n (lv' := [(2, .int 1), (0, .ref b), (1, .ref c0)]) hx hb dX3_sounds_1 rfl hl (by decide) rfl (fun ls hl => ?_)
  have loop2 : ∀ (n9 : Nat) (j : Nat), j ≤ sz → (∀ i, i < j → fits1 (uh u) lo tn i 0 0 = true) → sz - j < n9 → ∀ ls : Array Slot, lv_has ls 4 [(0, .ref b), (1, .ref c0), (2, .int (nI (j + 1)))] → W p l e (headSpec wsX3_sounds ({ frames := 1, cells := 0, slots := 0, locals := 30 } : Room)).room s m ([.ref b, .ref c0] : List Value).toArray below meth c s.heap [] 0 0 (MQ below (vp_Si (fun r8 => r8 = bI (tuned (uh u) lo sz tn))) ([.ref b, .ref c0] : List Value).toArray s 0 0 (fun _ => False)) (F0 m 2 ls []) := by
    intro n9
    induction n9 with
    | zero => intro j hj hf h9 ls hl; exact absurd h9 (by omega)
    | succ n9 ih2 =>
      intro j hj hf h9 ls hl
      refine lv_iload_n hx hb dX3_sounds_2 rfl (lv_at hl 2 rfl) ?_
      refine lv_aload_n hx hb dX3_sounds_3 rfl (lv_at hl 1 rfl) ?_
      refine va_alen hx hb hK hP 17 0 rfl rfl (v := nI (sz + 1)) rfl dX3_sounds_4 ?_
      refine lv_icmp_ge (tgt := 60) hx hb dX3_sounds_5 (by decide) (fun c5 => ?_) (fun c5 => ?_)
      · have n5 : sz + 1 ≤ j + 1 := (nI_leI (a := sz + 1) (b := j + 1) (by omega) (by omega)).mp c5
        refine lv_iconst (v := 1) hx hb dX3_sounds_60 (by decide) ?_
        exact W.zret (v := 1) hx hb hr (by decide) (fun t ht hW => ⟨1, rfl, (by unfold tuned; rw [allN_t (fun i hi => hf i (by omega))]; rfl), ht⟩) (fun q hq => absurd hq List.not_mem_nil) dX3_sounds_61
      · have n5 : ¬ (sz + 1 ≤ j + 1) := fun h9 => c5 ((nI_leI (a := sz + 1) (b := j + 1) (by omega) (by omega)).mpr h9)
        refine lv_aload_n hx hb dX3_sounds_8 rfl (lv_at hl 0 rfl) ?_
        refine lv_aload_n hx hb dX3_sounds_9 rfl (lv_at hl 1 rfl) ?_
        refine lv_iconst (v := 0) hx hb dX3_sounds_10 (by decide) ?_
        refine pc_iald hx hb hK hP 17 0 rfl rfl (k := 0) (show 0 < sz + 1 by omega) (by omega) dX3_sounds_11 ?_
        refine pc_top (show (rowL lo tn) 0 = nI lo from rfl) ?_
        refine lv_iload_n hx hb dX3_sounds_12 rfl (lv_at hl 2 rfl) ?_
        refine lv_iadd hx hb dX3_sounds_13 ?_
        refine pc_top (show (nI lo) + (nI (j + 1)) = nI (lo + j + 1) from nI_add lo (j + 1)) ?_
        refine lv_iconst (v := 1) hx hb dX3_sounds_14 (by decide) ?_
        refine lv_isub hx hb dX3_sounds_15 ?_
        refine pc_top (show (nI (lo + j + 1)) - 1 = nI ((lo + j + 1) - 1) from pk_sub (a := lo + j + 1) (b := 1) (by omega)) ?_
        refine pc_top (show nI ((lo + j + 1) - 1) = nI (lo + j) from (by rw [Nat.add_sub_cancel])) ?_
        refine sim_p (Lc := ([] : va_W)) (S5 := wS5 cy b sa st ch (un u) (uw u) (ud u) (nI (zh (uh u))) (zl (uh u))) (S12 := rows12 cy st 6 (rowS (uh u))) (X := [(c0, .inl (cy 0, sz + 1, .inl (rowL lo tn)))]) (Y := []) (As := [.int (nI (lo + j))]) (rest := []) hP hK hkp ⟨hx, hb, hml, hown, hts⟩ (mX3_tone l D cy b sa st ch u (lo + j) (by omega)) (no_mem) rfl (cwV 1 hts gX3_sounds_X3_tone rfl rfl rfl (by decide +kernel) ⟨Nat.le_of_ble_eq_true rfl, Nat.le_of_ble_eq_true rfl⟩) rfl rfl hl.1 (Nat.le_of_ble_eq_true rfl) dX3_sounds_16 ⟨Nat.le_of_ble_eq_true rfl, Nat.le_of_ble_eq_true rfl⟩ ?_
        refine lv_aload_n hx hb dX3_sounds_19 rfl (lv_at hl 1 rfl) ?_
        refine lv_iload_n hx hb dX3_sounds_20 rfl (lv_at hl 2 rfl) ?_
        refine pc_iald hx hb hK hP 17 0 rfl rfl (k := j + 1) (show j + 1 < sz + 1 by omega) (by omega) dX3_sounds_21 ?_
        refine pc_top (show (rowL lo tn) (j + 1) = tn j from (by show (if j + 1 = 0 then nI lo else tn (j + 1 - 1)) = tn j; rw [if_neg (by omega), Nat.add_sub_cancel])) ?_
        refine lv_isub hx hb dX3_sounds_22 ?_
        refine lv_istore_n (lv' := [(3, .int ((tone (uh u) (lo + j)) - (tn j))), (0, .ref b), (1, .ref c0), (2, .int (nI (j + 1)))]) hx hb dX3_sounds_23 rfl hl (by decide) rfl (fun ls hl => ?_)
        refine lv_iload_n hx hb dX3_sounds_24 rfl (lv_at hl 0 rfl) ?_
        refine lv_iconst (v := 5) hx hb dX3_sounds_25 (by decide) ?_
        refine lv_icmp_gt (tgt := 52) hx hb dX3_sounds_26 (by decide) (fun c26 => ?_) (fun c26 => ?_)
        · refine lv_iconst (v := 0) hx hb dX3_sounds_52 (by decide) ?_
          exact W.zret (v := 0) hx hb hr (by decide) (fun t ht hW => ⟨0, rfl, (by have h9 : fits1 (uh u) lo tn j 0 0 = false := (by rw [fits0, decide_eq_false_iff_not]; exact fun z => z.2 ((ab_5 (hq j (by omega))).mpr (Or.inl c26))); unfold tuned; rw [allN_f (by omega) h9]; rfl), ht⟩) (fun q hq => absurd hq List.not_mem_nil) dX3_sounds_53
        · refine lv_iload_n hx hb dX3_sounds_29 rfl (lv_at hl 0 rfl) ?_
          refine lv_bipush (v := (-5)) hx hb dX3_sounds_30 (by decide) ?_
          refine lv_icmp_lt (tgt := 52) hx hb dX3_sounds_32 (by decide) (fun c32 => ?_) (fun c32 => ?_)
          · refine lv_iconst (v := 0) hx hb dX3_sounds_52 (by decide) ?_
            exact W.zret (v := 0) hx hb hr (by decide) (fun t ht hW => ⟨0, rfl, (by have h9 : fits1 (uh u) lo tn j 0 0 = false := (by rw [fits0, decide_eq_false_iff_not]; exact fun z => z.2 ((ab_5 (hq j (by omega))).mpr (Or.inr c32))); unfold tuned; rw [allN_f (by omega) h9]; rfl), ht⟩) (fun q hq => absurd hq List.not_mem_nil) dX3_sounds_53
          · refine lv_aload_n hx hb dX3_sounds_35 rfl (lv_at hl 1 rfl) ?_
            refine va_get (D := D) (ci := 3) (v := .ref (sa 0)) (C := RX3) (T := TX3) (N := 6) hx hb hts inX3_sounds_RX3 hown hK hP 0 rfl rfl 0 (by decide) (hts _ kX3_sounds_0) (fun _ h9 => h9) rfl dX3_sounds_36 ?_
            refine lv_aload_n hx hb dX3_sounds_39 rfl (lv_at hl 2 rfl) ?_
            refine lv_iconst (v := 0) hx hb dX3_sounds_40 (by decide) ?_
            refine pc_iald hx hb hK hP 17 0 rfl rfl (k := 0) (show 0 < sz + 1 by omega) (by omega) dX3_sounds_41 ?_
            refine pc_top (show (rowL lo tn) 0 = nI lo from rfl) ?_
            refine lv_iload_n hx hb dX3_sounds_42 rfl (lv_at hl 3 rfl) ?_
            refine lv_iadd hx hb dX3_sounds_43 ?_
            refine pc_top (show (nI lo) + (nI (j + 1)) = nI (lo + j + 1) from nI_add lo (j + 1)) ?_
            refine lv_iconst (v := 1) hx hb dX3_sounds_44 (by decide) ?_
            refine lv_isub hx hb dX3_sounds_45 ?_
            refine pc_top (show (nI (lo + j + 1)) - 1 = nI ((lo + j + 1) - 1) from pk_sub (a := lo + j + 1) (b := 1) (by omega)) ?_
            refine pc_top (show nI ((lo + j + 1) - 1) = nI (lo + j) from (by rw [Nat.add_sub_cancel])) ?_
            refine pc_aldA hx hb hkp hP 1 rfl (k := lo + j) (show lo + j < 12 by omega) (by decide) (v := st (lo + j)) rfl dX3_sounds_46 ?_
            refine lv_iconst (v := 4) hx hb dX3_sounds_47 (by decide) ?_
            refine row_aldS hx hb hK hP (k := (lo + j)) (j := 4) (show (lo + j) < 12 by omega) (show 4 < 6 by omega) (by decide) dX3_sounds_48 ?_
            refine pc_top (show (rowS (uh u)) (lo + j) 4 = zo (uh u) (lo + j) from rfl) ?_
            refine lv_if_ne (tgt := 54) hx hb dX3_sounds_49 (by decide) (fun c49 => ?_) (fun c49 => ?_)
            · refine lv_iinc (v := nI (j + 1 + 1)) (lv' := [(2, .int (nI (j + 1 + 1))), (3, .int ((tone (uh u) (lo + j)) - (tn j))), (0, .ref b), (1, .ref c0)]) hx hb dX3_sounds_54 hl (k := 3) rfl ((show (nI (j + 1)) + Int32.ofInt 1 = (nI (j + 1)) + 1 from rfl).trans (show (nI (j + 1)) + 1 = nI (j + 1 + 1) from nI_add (j + 1) 1)) (by decide) rfl (fun ls hl => ?_)
              refine lv_goto (tgt := 2) hx hb dX3_sounds_57 (by decide) ?_
              exact ih2 (j + 1) (by omega) (all_s hf (by rw [fits0, decide_eq_true_iff]; exact ⟨c49, fun z => ((ab_5 (hq _ (by omega))).mp z).elim c26 c32⟩)) (by omega) ls (lv_sub hl [2, 3, 0] rfl)
            · refine lv_iconst (v := 0) hx hb dX3_sounds_52 (by decide) ?_
              exact W.zret (v := 0) hx hb hr (by decide) (fun t ht hW => ⟨0, rfl, (by have h9 : fits1 (uh u) lo tn j 0 0 = false := (by rw [fits0, decide_eq_false_iff_not]; exact fun z => z.1 c49); unfold tuned; rw [allN_f (by omega) h9]; rfl), ht⟩) (fun q hq => absurd hq List.not_mem_nil) dX3_sounds_53
  exact loop2 (sz + 1) 0 (Nat.zero_le _) (fun i hi => absurd hi (Nat.not_lt_zero _)) (by omega) ls (lv_sub hl [1, 2, 0] rfl)

