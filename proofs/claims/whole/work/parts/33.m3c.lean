theorem kJ6_bitCount_0f7a4_0 : (.constant RJ6 265 (1431655765) : Cond) ∈ wsJ6_bitCount_0f7a4 := by decide +kernel
theorem kJ6_bitCount_0f7a4_1 : (.constant RJ6 266 (858993459) : Cond) ∈ wsJ6_bitCount_0f7a4 := by decide +kernel
theorem kJ6_bitCount_0f7a4_2 : (.constant RJ6 267 (252645135) : Cond) ∈ wsJ6_bitCount_0f7a4 := by decide +kernel
set_option maxHeartbeats 4000000 in
set_option maxRecDepth 100000 in
theorem mJ6_bitCount_0f7a4 (l : Launch) (D : va_G) (cy : Nat → ClassId) (v : Int32) : Met l yJ6_bitCount_0f7a4 wsJ6_bitCount_0f7a4 ({ frames := 0, cells := 0, slots := 0, locals := 0 } : Room) (va_Pc [.int v] (fun _ => True)) (vp_Si (fun r8 => r8 = bitC v)) 0 0 (fun _ => False) := by
  refine va_MetF (cc := cJ6_bitCount_0f7a4) (maxL := 1) (ret := (some .int)) (by decide +kernel) rfl ?_
  intro p e s m args below meth c s₁ B hml hv
  obtain ⟨rfl, -⟩ := hv
  have hx := B.exec
  have hb := B.bytes
  have hr := B.returns
  have hts := atoms_spec (ws := wsJ6_bitCount_0f7a4) B.pre
  have hown : s.vm.findClass RJ6 = some m.cls := findClass_of_methodNamed B.named
  have hlocks := B.notSynchronized
  have hl := lv_entry ([.int v]) (n := 1) (Nat.le_of_ble_eq_true rfl)
  rw [lg_entry_eq]
  generalize (lg_sl ([.int v]) ++ List.replicate (1 - (lg_sl ([.int v])).length) Slot.unset).toArray = ls at hl ⊢
  have hl : lv_has ls 1 [(0, .int v)] := hl
  refine lv_iload_n hx hb dJ6_bitCount_0f7a4_0 rfl (lv_at hl 0 rfl) ?_
  refine lv_iload_n hx hb dJ6_bitCount_0f7a4_1 rfl (lv_at hl 0 rfl) ?_
  refine lv_iconst (v := 1) hx hb dJ6_bitCount_0f7a4_2 (by decide) ?_
  refine lv_iushr (v := (v.toUInt32 >>> ((1 : Int32).toUInt32 &&& Int32.toUInt32 31)).toInt32) hx hb dJ6_bitCount_0f7a4_3 rfl ?_
  refine lv_ldcw (v := 1431655765) hx hb hown (hts _ kJ6_bitCount_0f7a4_0) dJ6_bitCount_0f7a4_4 ?_
  refine lv_iand hx hb dJ6_bitCount_0f7a4_7 ?_
  refine lv_isub hx hb dJ6_bitCount_0f7a4_8 ?_
  refine lv_istore_n (lv' := [(0, .int (v - (((v.toUInt32 >>> ((1 : Int32).toUInt32 &&& Int32.toUInt32 31)).toInt32) &&& 1431655765)))]) hx hb dJ6_bitCount_0f7a4_9 rfl hl (by decide) rfl (fun ls hl => ?_)
  have r9 : v - (((v.toUInt32 >>> ((1 : Int32).toUInt32 &&& Int32.toUInt32 31)).toInt32) &&& 1431655765) = bc1 v := rfl
  rw [r9] at hl
  clear r9
  refine lv_iload_n hx hb dJ6_bitCount_0f7a4_10 rfl (lv_at hl 0 rfl) ?_
  refine lv_ldcw (v := 858993459) hx hb hown (hts _ kJ6_bitCount_0f7a4_1) dJ6_bitCount_0f7a4_11 ?_
  refine lv_iand hx hb dJ6_bitCount_0f7a4_14 ?_
  refine lv_iload_n hx hb dJ6_bitCount_0f7a4_15 rfl (lv_at hl 0 rfl) ?_
  refine lv_iconst (v := 2) hx hb dJ6_bitCount_0f7a4_16 (by decide) ?_
  refine lv_iushr (v := ((bc1 v).toUInt32 >>> ((2 : Int32).toUInt32 &&& Int32.toUInt32 31)).toInt32) hx hb dJ6_bitCount_0f7a4_17 rfl ?_
  refine lv_ldcw (v := 858993459) hx hb hown (hts _ kJ6_bitCount_0f7a4_1) dJ6_bitCount_0f7a4_18 ?_
  refine lv_iand hx hb dJ6_bitCount_0f7a4_21 ?_
  refine lv_iadd hx hb dJ6_bitCount_0f7a4_22 ?_
  refine lv_istore_n (lv' := [(0, .int (((bc1 v) &&& 858993459) + ((((bc1 v).toUInt32 >>> ((2 : Int32).toUInt32 &&& Int32.toUInt32 31)).toInt32) &&& 858993459)))]) hx hb dJ6_bitCount_0f7a4_23 rfl hl (by decide) rfl (fun ls hl => ?_)
  have r9 : ((bc1 v) &&& 858993459) + ((((bc1 v).toUInt32 >>> ((2 : Int32).toUInt32 &&& Int32.toUInt32 31)).toInt32) &&& 858993459) = bc2 (bc1 v) := rfl
  rw [r9] at hl
  clear r9
  refine lv_iload_n hx hb dJ6_bitCount_0f7a4_24 rfl (lv_at hl 0 rfl) ?_
  refine lv_iload_n hx hb dJ6_bitCount_0f7a4_25 rfl (lv_at hl 0 rfl) ?_
  refine lv_iconst (v := 4) hx hb dJ6_bitCount_0f7a4_26 (by decide) ?_
  refine lv_iushr (v := ((bc2 (bc1 v)).toUInt32 >>> ((4 : Int32).toUInt32 &&& Int32.toUInt32 31)).toInt32) hx hb dJ6_bitCount_0f7a4_27 rfl ?_
  refine lv_iadd hx hb dJ6_bitCount_0f7a4_28 ?_
  refine lv_ldcw (v := 252645135) hx hb hown (hts _ kJ6_bitCount_0f7a4_2) dJ6_bitCount_0f7a4_29 ?_
  refine lv_iand hx hb dJ6_bitCount_0f7a4_32 ?_
  refine lv_istore_n (lv' := [(0, .int (((bc2 (bc1 v)) + (((bc2 (bc1 v)).toUInt32 >>> ((4 : Int32).toUInt32 &&& Int32.toUInt32 31)).toInt32)) &&& 252645135))]) hx hb dJ6_bitCount_0f7a4_33 rfl hl (by decide) rfl (fun ls hl => ?_)
  have r9 : ((bc2 (bc1 v)) + (((bc2 (bc1 v)).toUInt32 >>> ((4 : Int32).toUInt32 &&& Int32.toUInt32 31)).toInt32)) &&& 252645135 = bc3 (bc2 (bc1 v)) := rfl
  rw [r9] at hl
  clear r9
  refine lv_iload_n hx hb dJ6_bitCount_0f7a4_34 rfl (lv_at hl 0 rfl) ?_
  refine lv_iload_n hx hb dJ6_bitCount_0f7a4_35 rfl (lv_at hl 0 rfl) ?_
  refine lv_bipush (v := 8) hx hb dJ6_bitCount_0f7a4_36 (by decide) ?_
  refine lv_iushr (v := ((bc3 (bc2 (bc1 v))).toUInt32 >>> ((8 : Int32).toUInt32 &&& Int32.toUInt32 31)).toInt32) hx hb dJ6_bitCount_0f7a4_38 rfl ?_
  refine lv_iadd hx hb dJ6_bitCount_0f7a4_39 ?_
  refine lv_istore_n (lv' := [(0, .int ((bc3 (bc2 (bc1 v))) + (((bc3 (bc2 (bc1 v))).toUInt32 >>> ((8 : Int32).toUInt32 &&& Int32.toUInt32 31)).toInt32)))]) hx hb dJ6_bitCount_0f7a4_40 rfl hl (by decide) rfl (fun ls hl => ?_)
  have r9 : (bc3 (bc2 (bc1 v))) + (((bc3 (bc2 (bc1 v))).toUInt32 >>> ((8 : Int32).toUInt32 &&& Int32.toUInt32 31)).toInt32) = bc4 (bc3 (bc2 (bc1 v))) := rfl
  rw [r9] at hl
  clear r9
  refine lv_iload_n hx hb dJ6_bitCount_0f7a4_41 rfl (lv_at hl 0 rfl) ?_
  refine lv_iload_n hx hb dJ6_bitCount_0f7a4_42 rfl (lv_at hl 0 rfl) ?_
  refine lv_bipush (v := 16) hx hb dJ6_bitCount_0f7a4_43 (by decide) ?_
  refine lv_iushr (v := ((bc4 (bc3 (bc2 (bc1 v)))).toUInt32 >>> ((16 : Int32).toUInt32 &&& Int32.toUInt32 31)).toInt32) hx hb dJ6_bitCount_0f7a4_45 rfl ?_
  refine lv_iadd hx hb dJ6_bitCount_0f7a4_46 ?_
  refine lv_istore_n (lv' := [(0, .int ((bc4 (bc3 (bc2 (bc1 v)))) + (((bc4 (bc3 (bc2 (bc1 v)))).toUInt32 >>> ((16 : Int32).toUInt32 &&& Int32.toUInt32 31)).toInt32)))]) hx hb dJ6_bitCount_0f7a4_47 rfl hl (by decide) rfl (fun ls hl => ?_)
  have r9 : (bc4 (bc3 (bc2 (bc1 v)))) + (((bc4 (bc3 (bc2 (bc1 v)))).toUInt32 >>> ((16 : Int32).toUInt32 &&& Int32.toUInt32 31)).toInt32) = bc5 (bc4 (bc3 (bc2 (bc1 v)))) := rfl
  rw [r9] at hl
  clear r9
  refine lv_iload_n hx hb dJ6_bitCount_0f7a4_48 rfl (lv_at hl 0 rfl) ?_
  refine lv_bipush (v := 63) hx hb dJ6_bitCount_0f7a4_49 (by decide) ?_
  refine lv_iand hx hb dJ6_bitCount_0f7a4_51 ?_
  exact W.iret (v := (bc5 (bc4 (bc3 (bc2 (bc1 v))))) &&& 63) hx hb hr (fun t ht hW => ⟨(bc5 (bc4 (bc3 (bc2 (bc1 v))))) &&& 63, rfl, rfl, ht⟩) (fun q hq => absurd hq List.not_mem_nil) dJ6_bitCount_0f7a4_52

theorem kJ6_numberOfTrailingZeros_0f7a4_0 : (.constant RJ6 264 (65536) : Cond) ∈ wsJ6_numberOfTrailingZeros_0f7a4 := by decide +kernel
set_option maxHeartbeats 4000000 in
set_option maxRecDepth 100000 in
theorem mJ6_numberOfTrailingZeros_0f7a4 (l : Launch) (D : va_G) (cy : Nat → ClassId) (v : Int32) : Met l yJ6_numberOfTrailingZeros_0f7a4 wsJ6_numberOfTrailingZeros_0f7a4 ({ frames := 0, cells := 0, slots := 0, locals := 0 } : Room) (va_Pc [.int v] (fun _ => True)) (vp_Si (fun r8 => r8 = ntzF v)) 0 0 (fun _ => False) := by
  refine va_MetF (cc := cJ6_numberOfTrailingZeros_0f7a4) (maxL := 2) (ret := (some .int)) (by decide +kernel) rfl ?_
  intro p e s m args below meth c s₁ B hml hv
  obtain ⟨rfl, -⟩ := hv
  have hx := B.exec
  have hb := B.bytes
  have hr := B.returns
  have hts := atoms_spec (ws := wsJ6_numberOfTrailingZeros_0f7a4) B.pre
  have hown : s.vm.findClass RJ6 = some m.cls := findClass_of_methodNamed B.named
  have hlocks := B.notSynchronized
  have hl := lv_entry ([.int v]) (n := 2) (Nat.le_of_ble_eq_true rfl)
  rw [lg_entry_eq]
  generalize (lg_sl ([.int v]) ++ List.replicate (2 - (lg_sl ([.int v])).length) Slot.unset).toArray = ls at hl ⊢
  have hl : lv_has ls 2 [(0, .int v)] := hl
  refine lv_iload_n hx hb dJ6_numberOfTrailingZeros_0f7a4_0 rfl (lv_at hl 0 rfl) ?_
  refine lv_iconst (v := (-1)) hx hb dJ6_numberOfTrailingZeros_0f7a4_1 (by decide) ?_
  refine lv_ixor hx hb dJ6_numberOfTrailingZeros_0f7a4_2 ?_
  refine lv_iload_n hx hb dJ6_numberOfTrailingZeros_0f7a4_3 rfl (lv_at hl 0 rfl) ?_
  refine lv_iconst (v := 1) hx hb dJ6_numberOfTrailingZeros_0f7a4_4 (by decide) ?_
  refine lv_isub hx hb dJ6_numberOfTrailingZeros_0f7a4_5 ?_
  refine lv_iand hx hb dJ6_numberOfTrailingZeros_0f7a4_6 ?_
  refine lv_istore_n (lv' := [(0, .int ((v ^^^ (-1)) &&& (v - 1)))]) hx hb dJ6_numberOfTrailingZeros_0f7a4_7 rfl hl (by decide) rfl (fun ls hl => ?_)
  have r9 : (v ^^^ (-1)) &&& (v - 1) = nt0 v := rfl
  rw [r9] at hl
  clear r9
  refine lv_iload_n hx hb dJ6_numberOfTrailingZeros_0f7a4_8 rfl (lv_at hl 0 rfl) ?_
  refine lv_if_gt (tgt := 17) hx hb dJ6_numberOfTrailingZeros_0f7a4_9 (by decide) (fun c9 => ?_) (fun c9 => ?_)
  · refine lv_iconst (v := 1) hx hb dJ6_numberOfTrailingZeros_0f7a4_17 (by decide) ?_
    refine lv_istore_n (lv' := [(1, .int 1), (0, .int (nt0 v))]) hx hb dJ6_numberOfTrailingZeros_0f7a4_18 rfl hl (by decide) rfl (fun ls hl => ?_)
    refine lv_iload_n hx hb dJ6_numberOfTrailingZeros_0f7a4_19 rfl (lv_at hl 1 rfl) ?_
    refine lv_ldcw (v := 65536) hx hb hown (hts _ kJ6_numberOfTrailingZeros_0f7a4_0) dJ6_numberOfTrailingZeros_0f7a4_20 ?_
    refine lv_icmp_le (tgt := 34) hx hb dJ6_numberOfTrailingZeros_0f7a4_23 (by decide) (fun c23 => ?_) (fun c23 => ?_)
    · refine lv_iload_n hx hb dJ6_numberOfTrailingZeros_0f7a4_34 rfl (lv_at hl 1 rfl) ?_
      refine lv_sipush (v := 256) hx hb dJ6_numberOfTrailingZeros_0f7a4_35 (by decide) ?_
      refine lv_icmp_le (tgt := 49) hx hb dJ6_numberOfTrailingZeros_0f7a4_38 (by decide) (fun c38 => ?_) (fun c38 => ?_)
      · refine lv_iload_n hx hb dJ6_numberOfTrailingZeros_0f7a4_49 rfl (lv_at hl 1 rfl) ?_
        refine lv_bipush (v := 16) hx hb dJ6_numberOfTrailingZeros_0f7a4_50 (by decide) ?_
        refine lv_icmp_le (tgt := 62) hx hb dJ6_numberOfTrailingZeros_0f7a4_52 (by decide) (fun c52 => ?_) (fun c52 => ?_)
        · refine lv_iload_n hx hb dJ6_numberOfTrailingZeros_0f7a4_62 rfl (lv_at hl 1 rfl) ?_
          refine lv_iconst (v := 4) hx hb dJ6_numberOfTrailingZeros_0f7a4_63 (by decide) ?_
          refine lv_icmp_le (tgt := 74) hx hb dJ6_numberOfTrailingZeros_0f7a4_64 (by decide) (fun c64 => ?_) (fun c64 => ?_)
          · refine lv_iload_n hx hb dJ6_numberOfTrailingZeros_0f7a4_74 rfl (lv_at hl 0 rfl) ?_
            refine lv_iload_n hx hb dJ6_numberOfTrailingZeros_0f7a4_75 rfl (lv_at hl 1 rfl) ?_
            refine lv_iconst (v := 1) hx hb dJ6_numberOfTrailingZeros_0f7a4_76 (by decide) ?_
            refine lv_iushr (v := ((nt0 v).toUInt32 >>> ((1 : Int32).toUInt32 &&& Int32.toUInt32 31)).toInt32) hx hb dJ6_numberOfTrailingZeros_0f7a4_77 rfl ?_
            refine lv_iadd hx hb dJ6_numberOfTrailingZeros_0f7a4_78 ?_
            exact W.iret (v := 1 + (((nt0 v).toUInt32 >>> ((1 : Int32).toUInt32 &&& Int32.toUInt32 31)).toInt32)) hx hb hr (fun t ht hW => ⟨1 + (((nt0 v).toUInt32 >>> ((1 : Int32).toUInt32 &&& Int32.toUInt32 31)).toInt32), rfl, (by rw [ntzF, if_pos c9, nt1, if_pos c23, nt2, if_pos c38, nt3, if_pos c52, nt4, if_pos c64]; rfl), ht⟩) (fun q hq => absurd hq List.not_mem_nil) dJ6_numberOfTrailingZeros_0f7a4_79
          · refine lv_iinc (v := 3) (lv' := [(1, .int 3), (0, .int (nt0 v))]) hx hb dJ6_numberOfTrailingZeros_0f7a4_67 hl (k := 0) rfl (by decide) (by decide) rfl (fun ls hl => ?_)
            refine lv_iload_n hx hb dJ6_numberOfTrailingZeros_0f7a4_70 rfl (lv_at hl 1 rfl) ?_
            refine lv_iconst (v := 2) hx hb dJ6_numberOfTrailingZeros_0f7a4_71 (by decide) ?_
            refine lv_iushr (v := ((nt0 v).toUInt32 >>> ((2 : Int32).toUInt32 &&& Int32.toUInt32 31)).toInt32) hx hb dJ6_numberOfTrailingZeros_0f7a4_72 rfl ?_
            refine lv_istore_n (lv' := [(0, .int (((nt0 v).toUInt32 >>> ((2 : Int32).toUInt32 &&& Int32.toUInt32 31)).toInt32)), (1, .int 3)]) hx hb dJ6_numberOfTrailingZeros_0f7a4_73 rfl hl (by decide) rfl (fun ls hl => ?_)
            have r9 : ((nt0 v).toUInt32 >>> ((2 : Int32).toUInt32 &&& Int32.toUInt32 31)).toInt32 = sh32 (nt0 v) 2 := rfl
            rw [r9] at hl
            clear r9
            refine lv_iload_n hx hb dJ6_numberOfTrailingZeros_0f7a4_74 rfl (lv_at hl 1 rfl) ?_
            refine lv_iload_n hx hb dJ6_numberOfTrailingZeros_0f7a4_75 rfl (lv_at hl 0 rfl) ?_
            refine lv_iconst (v := 1) hx hb dJ6_numberOfTrailingZeros_0f7a4_76 (by decide) ?_
            refine lv_iushr (v := ((sh32 (nt0 v) 2).toUInt32 >>> ((1 : Int32).toUInt32 &&& Int32.toUInt32 31)).toInt32) hx hb dJ6_numberOfTrailingZeros_0f7a4_77 rfl ?_
            refine lv_iadd hx hb dJ6_numberOfTrailingZeros_0f7a4_78 ?_
            exact W.iret (v := 3 + (((sh32 (nt0 v) 2).toUInt32 >>> ((1 : Int32).toUInt32 &&& Int32.toUInt32 31)).toInt32)) hx hb hr (fun t ht hW => ⟨3 + (((sh32 (nt0 v) 2).toUInt32 >>> ((1 : Int32).toUInt32 &&& Int32.toUInt32 31)).toInt32), rfl, (by rw [ntzF, if_pos c9, nt1, if_pos c23, nt2, if_pos c38, nt3, if_pos c52, nt4, if_neg c64]; rfl), ht⟩) (fun q hq => absurd hq List.not_mem_nil) dJ6_numberOfTrailingZeros_0f7a4_79
        · refine lv_iinc (v := 5) (lv' := [(1, .int 5), (0, .int (nt0 v))]) hx hb dJ6_numberOfTrailingZeros_0f7a4_55 hl (k := 0) rfl (by decide) (by decide) rfl (fun ls hl => ?_)
          refine lv_iload_n hx hb dJ6_numberOfTrailingZeros_0f7a4_58 rfl (lv_at hl 1 rfl) ?_
          refine lv_iconst (v := 4) hx hb dJ6_numberOfTrailingZeros_0f7a4_59 (by decide) ?_
          refine lv_iushr (v := ((nt0 v).toUInt32 >>> ((4 : Int32).toUInt32 &&& Int32.toUInt32 31)).toInt32) hx hb dJ6_numberOfTrailingZeros_0f7a4_60 rfl ?_
          refine lv_istore_n (lv' := [(0, .int (((nt0 v).toUInt32 >>> ((4 : Int32).toUInt32 &&& Int32.toUInt32 31)).toInt32)), (1, .int 5)]) hx hb dJ6_numberOfTrailingZeros_0f7a4_61 rfl hl (by decide) rfl (fun ls hl => ?_)
          have r9 : ((nt0 v).toUInt32 >>> ((4 : Int32).toUInt32 &&& Int32.toUInt32 31)).toInt32 = sh32 (nt0 v) 4 := rfl
          rw [r9] at hl
          clear r9
          refine lv_iload_n hx hb dJ6_numberOfTrailingZeros_0f7a4_62 rfl (lv_at hl 0 rfl) ?_
          refine lv_iconst (v := 4) hx hb dJ6_numberOfTrailingZeros_0f7a4_63 (by decide) ?_
          refine lv_icmp_le (tgt := 74) hx hb dJ6_numberOfTrailingZeros_0f7a4_64 (by decide) (fun c64 => ?_) (fun c64 => ?_)
          · refine lv_iload_n hx hb dJ6_numberOfTrailingZeros_0f7a4_74 rfl (lv_at hl 1 rfl) ?_
            refine lv_iload_n hx hb dJ6_numberOfTrailingZeros_0f7a4_75 rfl (lv_at hl 0 rfl) ?_
            refine lv_iconst (v := 1) hx hb dJ6_numberOfTrailingZeros_0f7a4_76 (by decide) ?_
            refine lv_iushr (v := ((sh32 (nt0 v) 4).toUInt32 >>> ((1 : Int32).toUInt32 &&& Int32.toUInt32 31)).toInt32) hx hb dJ6_numberOfTrailingZeros_0f7a4_77 rfl ?_
            refine lv_iadd hx hb dJ6_numberOfTrailingZeros_0f7a4_78 ?_
            exact W.iret (v := 5 + (((sh32 (nt0 v) 4).toUInt32 >>> ((1 : Int32).toUInt32 &&& Int32.toUInt32 31)).toInt32)) hx hb hr (fun t ht hW => ⟨5 + (((sh32 (nt0 v) 4).toUInt32 >>> ((1 : Int32).toUInt32 &&& Int32.toUInt32 31)).toInt32), rfl, (by rw [ntzF, if_pos c9, nt1, if_pos c23, nt2, if_pos c38, nt3, if_neg c52, nt4, if_pos c64]; rfl), ht⟩) (fun q hq => absurd hq List.not_mem_nil) dJ6_numberOfTrailingZeros_0f7a4_79
          · refine lv_iinc (v := 7) (lv' := [(1, .int 7), (0, .int (sh32 (nt0 v) 4))]) hx hb dJ6_numberOfTrailingZeros_0f7a4_67 hl (k := 1) rfl (by decide) (by decide) rfl (fun ls hl => ?_)
            refine lv_iload_n hx hb dJ6_numberOfTrailingZeros_0f7a4_70 rfl (lv_at hl 1 rfl) ?_
            refine lv_iconst (v := 2) hx hb dJ6_numberOfTrailingZeros_0f7a4_71 (by decide) ?_
            refine lv_iushr (v := ((sh32 (nt0 v) 4).toUInt32 >>> ((2 : Int32).toUInt32 &&& Int32.toUInt32 31)).toInt32) hx hb dJ6_numberOfTrailingZeros_0f7a4_72 rfl ?_
            refine lv_istore_n (lv' := [(0, .int (((sh32 (nt0 v) 4).toUInt32 >>> ((2 : Int32).toUInt32 &&& Int32.toUInt32 31)).toInt32)), (1, .int 7)]) hx hb dJ6_numberOfTrailingZeros_0f7a4_73 rfl hl (by decide) rfl (fun ls hl => ?_)
            have r9 : ((sh32 (nt0 v) 4).toUInt32 >>> ((2 : Int32).toUInt32 &&& Int32.toUInt32 31)).toInt32 = sh32 (sh32 (nt0 v) 4) 2 := rfl
            rw [r9] at hl
            clear r9
            refine lv_iload_n hx hb dJ6_numberOfTrailingZeros_0f7a4_74 rfl (lv_at hl 1 rfl) ?_
            refine lv_iload_n hx hb dJ6_numberOfTrailingZeros_0f7a4_75 rfl (lv_at hl 0 rfl) ?_
            refine lv_iconst (v := 1) hx hb dJ6_numberOfTrailingZeros_0f7a4_76 (by decide) ?_
            refine lv_iushr (v := ((sh32 (sh32 (nt0 v) 4) 2).toUInt32 >>> ((1 : Int32).toUInt32 &&& Int32.toUInt32 31)).toInt32) hx hb dJ6_numberOfTrailingZeros_0f7a4_77 rfl ?_
            refine lv_iadd hx hb dJ6_numberOfTrailingZeros_0f7a4_78 ?_
            exact W.iret (v := 7 + (((sh32 (sh32 (nt0 v) 4) 2).toUInt32 >>> ((1 : Int32).toUInt32 &&& Int32.toUInt32 31)).toInt32)) hx hb hr (fun t ht hW => ⟨7 + (((sh32 (sh32 (nt0 v) 4) 2).toUInt32 >>> ((1 : Int32).toUInt32 &&& Int32.toUInt32 31)).toInt32), rfl, (by rw [ntzF, if_pos c9, nt1, if_pos c23, nt2, if_pos c38, nt3, if_neg c52, nt4, if_neg c64]; rfl), ht⟩) (fun q hq => absurd hq List.not_mem_nil) dJ6_numberOfTrailingZeros_0f7a4_79
      · refine lv_iinc (v := 9) (lv' := [(1, .int 9), (0, .int (nt0 v))]) hx hb dJ6_numberOfTrailingZeros_0f7a4_41 hl (k := 0) rfl (by decide) (by decide) rfl (fun ls hl => ?_)
        refine lv_iload_n hx hb dJ6_numberOfTrailingZeros_0f7a4_44 rfl (lv_at hl 1 rfl) ?_
        refine lv_bipush (v := 8) hx hb dJ6_numberOfTrailingZeros_0f7a4_45 (by decide) ?_
        refine lv_iushr (v := ((nt0 v).toUInt32 >>> ((8 : Int32).toUInt32 &&& Int32.toUInt32 31)).toInt32) hx hb dJ6_numberOfTrailingZeros_0f7a4_47 rfl ?_
        refine lv_istore_n (lv' := [(0, .int (((nt0 v).toUInt32 >>> ((8 : Int32).toUInt32 &&& Int32.toUInt32 31)).toInt32)), (1, .int 9)]) hx hb dJ6_numberOfTrailingZeros_0f7a4_48 rfl hl (by decide) rfl (fun ls hl => ?_)
        have r9 : ((nt0 v).toUInt32 >>> ((8 : Int32).toUInt32 &&& Int32.toUInt32 31)).toInt32 = sh32 (nt0 v) 8 := rfl
        rw [r9] at hl
        clear r9
        refine lv_iload_n hx hb dJ6_numberOfTrailingZeros_0f7a4_49 rfl (lv_at hl 0 rfl) ?_
        refine lv_bipush (v := 16) hx hb dJ6_numberOfTrailingZeros_0f7a4_50 (by decide) ?_
        refine lv_icmp_le (tgt := 62) hx hb dJ6_numberOfTrailingZeros_0f7a4_52 (by decide) (fun c52 => ?_) (fun c52 => ?_)
        · refine lv_iload_n hx hb dJ6_numberOfTrailingZeros_0f7a4_62 rfl (lv_at hl 0 rfl) ?_
          refine lv_iconst (v := 4) hx hb dJ6_numberOfTrailingZeros_0f7a4_63 (by decide) ?_
          refine lv_icmp_le (tgt := 74) hx hb dJ6_numberOfTrailingZeros_0f7a4_64 (by decide) (fun c64 => ?_) (fun c64 => ?_)
          · refine lv_iload_n hx hb dJ6_numberOfTrailingZeros_0f7a4_74 rfl (lv_at hl 1 rfl) ?_
            refine lv_iload_n hx hb dJ6_numberOfTrailingZeros_0f7a4_75 rfl (lv_at hl 0 rfl) ?_
            refine lv_iconst (v := 1) hx hb dJ6_numberOfTrailingZeros_0f7a4_76 (by decide) ?_
            refine lv_iushr (v := ((sh32 (nt0 v) 8).toUInt32 >>> ((1 : Int32).toUInt32 &&& Int32.toUInt32 31)).toInt32) hx hb dJ6_numberOfTrailingZeros_0f7a4_77 rfl ?_
            refine lv_iadd hx hb dJ6_numberOfTrailingZeros_0f7a4_78 ?_
            exact W.iret (v := 9 + (((sh32 (nt0 v) 8).toUInt32 >>> ((1 : Int32).toUInt32 &&& Int32.toUInt32 31)).toInt32)) hx hb hr (fun t ht hW => ⟨9 + (((sh32 (nt0 v) 8).toUInt32 >>> ((1 : Int32).toUInt32 &&& Int32.toUInt32 31)).toInt32), rfl, (by rw [ntzF, if_pos c9, nt1, if_pos c23, nt2, if_neg c38, nt3, if_pos c52, nt4, if_pos c64]; rfl), ht⟩) (fun q hq => absurd hq List.not_mem_nil) dJ6_numberOfTrailingZeros_0f7a4_79
          · refine lv_iinc (v := 11) (lv' := [(1, .int 11), (0, .int (sh32 (nt0 v) 8))]) hx hb dJ6_numberOfTrailingZeros_0f7a4_67 hl (k := 1) rfl (by decide) (by decide) rfl (fun ls hl => ?_)
            refine lv_iload_n hx hb dJ6_numberOfTrailingZeros_0f7a4_70 rfl (lv_at hl 1 rfl) ?_
            refine lv_iconst (v := 2) hx hb dJ6_numberOfTrailingZeros_0f7a4_71 (by decide) ?_
            refine lv_iushr (v := ((sh32 (nt0 v) 8).toUInt32 >>> ((2 : Int32).toUInt32 &&& Int32.toUInt32 31)).toInt32) hx hb dJ6_numberOfTrailingZeros_0f7a4_72 rfl ?_
            refine lv_istore_n (lv' := [(0, .int (((sh32 (nt0 v) 8).toUInt32 >>> ((2 : Int32).toUInt32 &&& Int32.toUInt32 31)).toInt32)), (1, .int 11)]) hx hb dJ6_numberOfTrailingZeros_0f7a4_73 rfl hl (by decide) rfl (fun ls hl => ?_)
            have r9 : ((sh32 (nt0 v) 8).toUInt32 >>> ((2 : Int32).toUInt32 &&& Int32.toUInt32 31)).toInt32 = sh32 (sh32 (nt0 v) 8) 2 := rfl
            rw [r9] at hl
            clear r9
            refine lv_iload_n hx hb dJ6_numberOfTrailingZeros_0f7a4_74 rfl (lv_at hl 1 rfl) ?_
            refine lv_iload_n hx hb dJ6_numberOfTrailingZeros_0f7a4_75 rfl (lv_at hl 0 rfl) ?_
            refine lv_iconst (v := 1) hx hb dJ6_numberOfTrailingZeros_0f7a4_76 (by decide) ?_
            refine lv_iushr (v := ((sh32 (sh32 (nt0 v) 8) 2).toUInt32 >>> ((1 : Int32).toUInt32 &&& Int32.toUInt32 31)).toInt32) hx hb dJ6_numberOfTrailingZeros_0f7a4_77 rfl ?_
            refine lv_iadd hx hb dJ6_numberOfTrailingZeros_0f7a4_78 ?_
            exact W.iret (v := 11 + (((sh32 (sh32 (nt0 v) 8) 2).toUInt32 >>> ((1 : Int32).toUInt32 &&& Int32.toUInt32 31)).toInt32)) hx hb hr (fun t ht hW => ⟨11 + (((sh32 (sh32 (nt0 v) 8) 2).toUInt32 >>> ((1 : Int32).toUInt32 &&& Int32.toUInt32 31)).toInt32), rfl, (by rw [ntzF, if_pos c9, nt1, if_pos c23, nt2, if_neg c38, nt3, if_pos c52, nt4, if_neg c64]; rfl), ht⟩) (fun q hq => absurd hq List.not_mem_nil) dJ6_numberOfTrailingZeros_0f7a4_79
        · refine lv_iinc (v := 13) (lv' := [(1, .int 13), (0, .int (sh32 (nt0 v) 8))]) hx hb dJ6_numberOfTrailingZeros_0f7a4_55 hl (k := 1) rfl (by decide) (by decide) rfl (fun ls hl => ?_)
          refine lv_iload_n hx hb dJ6_numberOfTrailingZeros_0f7a4_58 rfl (lv_at hl 1 rfl) ?_
          refine lv_iconst (v := 4) hx hb dJ6_numberOfTrailingZeros_0f7a4_59 (by decide) ?_
          refine lv_iushr (v := ((sh32 (nt0 v) 8).toUInt32 >>> ((4 : Int32).toUInt32 &&& Int32.toUInt32 31)).toInt32) hx hb dJ6_numberOfTrailingZeros_0f7a4_60 rfl ?_
          refine lv_istore_n (lv' := [(0, .int (((sh32 (nt0 v) 8).toUInt32 >>> ((4 : Int32).toUInt32 &&& Int32.toUInt32 31)).toInt32)), (1, .int 13)]) hx hb dJ6_numberOfTrailingZeros_0f7a4_61 rfl hl (by decide) rfl (fun ls hl => ?_)
          have r9 : ((sh32 (nt0 v) 8).toUInt32 >>> ((4 : Int32).toUInt32 &&& Int32.toUInt32 31)).toInt32 = sh32 (sh32 (nt0 v) 8) 4 := rfl
          rw [r9] at hl
          clear r9
          refine lv_iload_n hx hb dJ6_numberOfTrailingZeros_0f7a4_62 rfl (lv_at hl 0 rfl) ?_
          refine lv_iconst (v := 4) hx hb dJ6_numberOfTrailingZeros_0f7a4_63 (by decide) ?_
          refine lv_icmp_le (tgt := 74) hx hb dJ6_numberOfTrailingZeros_0f7a4_64 (by decide) (fun c64 => ?_) (fun c64 => ?_)
          · refine lv_iload_n hx hb dJ6_numberOfTrailingZeros_0f7a4_74 rfl (lv_at hl 1 rfl) ?_
            refine lv_iload_n hx hb dJ6_numberOfTrailingZeros_0f7a4_75 rfl (lv_at hl 0 rfl) ?_
            refine lv_iconst (v := 1) hx hb dJ6_numberOfTrailingZeros_0f7a4_76 (by decide) ?_
            refine lv_iushr (v := ((sh32 (sh32 (nt0 v) 8) 4).toUInt32 >>> ((1 : Int32).toUInt32 &&& Int32.toUInt32 31)).toInt32) hx hb dJ6_numberOfTrailingZeros_0f7a4_77 rfl ?_
            refine lv_iadd hx hb dJ6_numberOfTrailingZeros_0f7a4_78 ?_
            exact W.iret (v := 13 + (((sh32 (sh32 (nt0 v) 8) 4).toUInt32 >>> ((1 : Int32).toUInt32 &&& Int32.toUInt32 31)).toInt32)) hx hb hr (fun t ht hW => ⟨13 + (((sh32 (sh32 (nt0 v) 8) 4).toUInt32 >>> ((1 : Int32).toUInt32 &&& Int32.toUInt32 31)).toInt32), rfl, (by rw [ntzF, if_pos c9, nt1, if_pos c23, nt2, if_neg c38, nt3, if_neg c52, nt4, if_pos c64]; rfl), ht⟩) (fun q hq => absurd hq List.not_mem_nil) dJ6_numberOfTrailingZeros_0f7a4_79
          · refine lv_iinc (v := 15) (lv' := [(1, .int 15), (0, .int (sh32 (sh32 (nt0 v) 8) 4))]) hx hb dJ6_numberOfTrailingZeros_0f7a4_67 hl (k := 1) rfl (by decide) (by decide) rfl (fun ls hl => ?_)
            refine lv_iload_n hx hb dJ6_numberOfTrailingZeros_0f7a4_70 rfl (lv_at hl 1 rfl) ?_
            refine lv_iconst (v := 2) hx hb dJ6_numberOfTrailingZeros_0f7a4_71 (by decide) ?_
            refine lv_iushr (v := ((sh32 (sh32 (nt0 v) 8) 4).toUInt32 >>> ((2 : Int32).toUInt32 &&& Int32.toUInt32 31)).toInt32) hx hb dJ6_numberOfTrailingZeros_0f7a4_72 rfl ?_
            refine lv_istore_n (lv' := [(0, .int (((sh32 (sh32 (nt0 v) 8) 4).toUInt32 >>> ((2 : Int32).toUInt32 &&& Int32.toUInt32 31)).toInt32)), (1, .int 15)]) hx hb dJ6_numberOfTrailingZeros_0f7a4_73 rfl hl (by decide) rfl (fun ls hl => ?_)
            have r9 : ((sh32 (sh32 (nt0 v) 8) 4).toUInt32 >>> ((2 : Int32).toUInt32 &&& Int32.toUInt32 31)).toInt32 = sh32 (sh32 (sh32 (nt0 v) 8) 4) 2 := rfl
            rw [r9] at hl
            clear r9
            refine lv_iload_n hx hb dJ6_numberOfTrailingZeros_0f7a4_74 rfl (lv_at hl 1 rfl) ?_
            refine lv_iload_n hx hb dJ6_numberOfTrailingZeros_0f7a4_75 rfl (lv_at hl 0 rfl) ?_
            refine lv_iconst (v := 1) hx hb dJ6_numberOfTrailingZeros_0f7a4_76 (by decide) ?_
            refine lv_iushr (v := ((sh32 (sh32 (sh32 (nt0 v) 8) 4) 2).toUInt32 >>> ((1 : Int32).toUInt32 &&& Int32.toUInt32 31)).toInt32) hx hb dJ6_numberOfTrailingZeros_0f7a4_77 rfl ?_
            refine lv_iadd hx hb dJ6_numberOfTrailingZeros_0f7a4_78 ?_
            exact W.iret (v := 15 + (((sh32 (sh32 (sh32 (nt0 v) 8) 4) 2).toUInt32 >>> ((1 : Int32).toUInt32 &&& Int32.toUInt32 31)).toInt32)) hx hb hr (fun t ht hW => ⟨15 + (((sh32 (sh32 (sh32 (nt0 v) 8) 4) 2).toUInt32 >>> ((1 : Int32).toUInt32 &&& Int32.toUInt32 31)).toInt32), rfl, (by rw [ntzF, if_pos c9, nt1, if_pos c23, nt2, if_neg c38, nt3, if_neg c52, nt4, if_neg c64]; rfl), ht⟩) (fun q hq => absurd hq List.not_mem_nil) dJ6_numberOfTrailingZeros_0f7a4_79
    · refine lv_iinc (v := 17) (lv' := [(1, .int 17), (0, .int (nt0 v))]) hx hb dJ6_numberOfTrailingZeros_0f7a4_26 hl (k := 0) rfl (by decide) (by decide) rfl (fun ls hl => ?_)
      refine lv_iload_n hx hb dJ6_numberOfTrailingZeros_0f7a4_29 rfl (lv_at hl 1 rfl) ?_
      refine lv_bipush (v := 16) hx hb dJ6_numberOfTrailingZeros_0f7a4_30 (by decide) ?_
      refine lv_iushr (v := ((nt0 v).toUInt32 >>> ((16 : Int32).toUInt32 &&& Int32.toUInt32 31)).toInt32) hx hb dJ6_numberOfTrailingZeros_0f7a4_32 rfl ?_
      refine lv_istore_n (lv' := [(0, .int (((nt0 v).toUInt32 >>> ((16 : Int32).toUInt32 &&& Int32.toUInt32 31)).toInt32)), (1, .int 17)]) hx hb dJ6_numberOfTrailingZeros_0f7a4_33 rfl hl (by decide) rfl (fun ls hl => ?_)
      have r9 : ((nt0 v).toUInt32 >>> ((16 : Int32).toUInt32 &&& Int32.toUInt32 31)).toInt32 = sh32 (nt0 v) 16 := rfl
      rw [r9] at hl
      clear r9
      refine lv_iload_n hx hb dJ6_numberOfTrailingZeros_0f7a4_34 rfl (lv_at hl 0 rfl) ?_
      refine lv_sipush (v := 256) hx hb dJ6_numberOfTrailingZeros_0f7a4_35 (by decide) ?_
      refine lv_icmp_le (tgt := 49) hx hb dJ6_numberOfTrailingZeros_0f7a4_38 (by decide) (fun c38 => ?_) (fun c38 => ?_)
      · refine lv_iload_n hx hb dJ6_numberOfTrailingZeros_0f7a4_49 rfl (lv_at hl 0 rfl) ?_
        refine lv_bipush (v := 16) hx hb dJ6_numberOfTrailingZeros_0f7a4_50 (by decide) ?_
        refine lv_icmp_le (tgt := 62) hx hb dJ6_numberOfTrailingZeros_0f7a4_52 (by decide) (fun c52 => ?_) (fun c52 => ?_)
        · refine lv_iload_n hx hb dJ6_numberOfTrailingZeros_0f7a4_62 rfl (lv_at hl 0 rfl) ?_
          refine lv_iconst (v := 4) hx hb dJ6_numberOfTrailingZeros_0f7a4_63 (by decide) ?_
          refine lv_icmp_le (tgt := 74) hx hb dJ6_numberOfTrailingZeros_0f7a4_64 (by decide) (fun c64 => ?_) (fun c64 => ?_)
          · refine lv_iload_n hx hb dJ6_numberOfTrailingZeros_0f7a4_74 rfl (lv_at hl 1 rfl) ?_
            refine lv_iload_n hx hb dJ6_numberOfTrailingZeros_0f7a4_75 rfl (lv_at hl 0 rfl) ?_
            refine lv_iconst (v := 1) hx hb dJ6_numberOfTrailingZeros_0f7a4_76 (by decide) ?_
            refine lv_iushr (v := ((sh32 (nt0 v) 16).toUInt32 >>> ((1 : Int32).toUInt32 &&& Int32.toUInt32 31)).toInt32) hx hb dJ6_numberOfTrailingZeros_0f7a4_77 rfl ?_
            refine lv_iadd hx hb dJ6_numberOfTrailingZeros_0f7a4_78 ?_
            exact W.iret (v := 17 + (((sh32 (nt0 v) 16).toUInt32 >>> ((1 : Int32).toUInt32 &&& Int32.toUInt32 31)).toInt32)) hx hb hr (fun t ht hW => ⟨17 + (((sh32 (nt0 v) 16).toUInt32 >>> ((1 : Int32).toUInt32 &&& Int32.toUInt32 31)).toInt32), rfl, (by rw [ntzF, if_pos c9, nt1, if_neg c23, nt2, if_pos c38, nt3, if_pos c52, nt4, if_pos c64]; rfl), ht⟩) (fun q hq => absurd hq List.not_mem_nil) dJ6_numberOfTrailingZeros_0f7a4_79
          · refine lv_iinc (v := 19) (lv' := [(1, .int 19), (0, .int (sh32 (nt0 v) 16))]) hx hb dJ6_numberOfTrailingZeros_0f7a4_67 hl (k := 1) rfl (by decide) (by decide) rfl (fun ls hl => ?_)
            refine lv_iload_n hx hb dJ6_numberOfTrailingZeros_0f7a4_70 rfl (lv_at hl 1 rfl) ?_
            refine lv_iconst (v := 2) hx hb dJ6_numberOfTrailingZeros_0f7a4_71 (by decide) ?_
            refine lv_iushr (v := ((sh32 (nt0 v) 16).toUInt32 >>> ((2 : Int32).toUInt32 &&& Int32.toUInt32 31)).toInt32) hx hb dJ6_numberOfTrailingZeros_0f7a4_72 rfl ?_
            refine lv_istore_n (lv' := [(0, .int (((sh32 (nt0 v) 16).toUInt32 >>> ((2 : Int32).toUInt32 &&& Int32.toUInt32 31)).toInt32)), (1, .int 19)]) hx hb dJ6_numberOfTrailingZeros_0f7a4_73 rfl hl (by decide) rfl (fun ls hl => ?_)
            have r9 : ((sh32 (nt0 v) 16).toUInt32 >>> ((2 : Int32).toUInt32 &&& Int32.toUInt32 31)).toInt32 = sh32 (sh32 (nt0 v) 16) 2 := rfl
            rw [r9] at hl
            clear r9
            refine lv_iload_n hx hb dJ6_numberOfTrailingZeros_0f7a4_74 rfl (lv_at hl 1 rfl) ?_
            refine lv_iload_n hx hb dJ6_numberOfTrailingZeros_0f7a4_75 rfl (lv_at hl 0 rfl) ?_
            refine lv_iconst (v := 1) hx hb dJ6_numberOfTrailingZeros_0f7a4_76 (by decide) ?_
            refine lv_iushr (v := ((sh32 (sh32 (nt0 v) 16) 2).toUInt32 >>> ((1 : Int32).toUInt32 &&& Int32.toUInt32 31)).toInt32) hx hb dJ6_numberOfTrailingZeros_0f7a4_77 rfl ?_
            refine lv_iadd hx hb dJ6_numberOfTrailingZeros_0f7a4_78 ?_
            exact W.iret (v := 19 + (((sh32 (sh32 (nt0 v) 16) 2).toUInt32 >>> ((1 : Int32).toUInt32 &&& Int32.toUInt32 31)).toInt32)) hx hb hr (fun t ht hW => ⟨19 + (((sh32 (sh32 (nt0 v) 16) 2).toUInt32 >>> ((1 : Int32).toUInt32 &&& Int32.toUInt32 31)).toInt32), rfl, (by rw [ntzF, if_pos c9, nt1, if_neg c23, nt2, if_pos c38, nt3, if_pos c52, nt4, if_neg c64]; rfl), ht⟩) (fun q hq => absurd hq List.not_mem_nil) dJ6_numberOfTrailingZeros_0f7a4_79
        · refine lv_iinc (v := 21) (lv' := [(1, .int 21), (0, .int (sh32 (nt0 v) 16))]) hx hb dJ6_numberOfTrailingZeros_0f7a4_55 hl (k := 1) rfl (by decide) (by decide) rfl (fun ls hl => ?_)
          refine lv_iload_n hx hb dJ6_numberOfTrailingZeros_0f7a4_58 rfl (lv_at hl 1 rfl) ?_
          refine lv_iconst (v := 4) hx hb dJ6_numberOfTrailingZeros_0f7a4_59 (by decide) ?_
          refine lv_iushr (v := ((sh32 (nt0 v) 16).toUInt32 >>> ((4 : Int32).toUInt32 &&& Int32.toUInt32 31)).toInt32) hx hb dJ6_numberOfTrailingZeros_0f7a4_60 rfl ?_
          refine lv_istore_n (lv' := [(0, .int (((sh32 (nt0 v) 16).toUInt32 >>> ((4 : Int32).toUInt32 &&& Int32.toUInt32 31)).toInt32)), (1, .int 21)]) hx hb dJ6_numberOfTrailingZeros_0f7a4_61 rfl hl (by decide) rfl (fun ls hl => ?_)
          have r9 : ((sh32 (nt0 v) 16).toUInt32 >>> ((4 : Int32).toUInt32 &&& Int32.toUInt32 31)).toInt32 = sh32 (sh32 (nt0 v) 16) 4 := rfl
          rw [r9] at hl
          clear r9
          refine lv_iload_n hx hb dJ6_numberOfTrailingZeros_0f7a4_62 rfl (lv_at hl 0 rfl) ?_
          refine lv_iconst (v := 4) hx hb dJ6_numberOfTrailingZeros_0f7a4_63 (by decide) ?_
          refine lv_icmp_le (tgt := 74) hx hb dJ6_numberOfTrailingZeros_0f7a4_64 (by decide) (fun c64 => ?_) (fun c64 => ?_)
          · refine lv_iload_n hx hb dJ6_numberOfTrailingZeros_0f7a4_74 rfl (lv_at hl 1 rfl) ?_
            refine lv_iload_n hx hb dJ6_numberOfTrailingZeros_0f7a4_75 rfl (lv_at hl 0 rfl) ?_
            refine lv_iconst (v := 1) hx hb dJ6_numberOfTrailingZeros_0f7a4_76 (by decide) ?_
            refine lv_iushr (v := ((sh32 (sh32 (nt0 v) 16) 4).toUInt32 >>> ((1 : Int32).toUInt32 &&& Int32.toUInt32 31)).toInt32) hx hb dJ6_numberOfTrailingZeros_0f7a4_77 rfl ?_
            refine lv_iadd hx hb dJ6_numberOfTrailingZeros_0f7a4_78 ?_
            exact W.iret (v := 21 + (((sh32 (sh32 (nt0 v) 16) 4).toUInt32 >>> ((1 : Int32).toUInt32 &&& Int32.toUInt32 31)).toInt32)) hx hb hr (fun t ht hW => ⟨21 + (((sh32 (sh32 (nt0 v) 16) 4).toUInt32 >>> ((1 : Int32).toUInt32 &&& Int32.toUInt32 31)).toInt32), rfl, (by rw [ntzF, if_pos c9, nt1, if_neg c23, nt2, if_pos c38, nt3, if_neg c52, nt4, if_pos c64]; rfl), ht⟩) (fun q hq => absurd hq List.not_mem_nil) dJ6_numberOfTrailingZeros_0f7a4_79
          · refine lv_iinc (v := 23) (lv' := [(1, .int 23), (0, .int (sh32 (sh32 (nt0 v) 16) 4))]) hx hb dJ6_numberOfTrailingZeros_0f7a4_67 hl (k := 1) rfl (by decide) (by decide) rfl (fun ls hl => ?_)
            refine lv_iload_n hx hb dJ6_numberOfTrailingZeros_0f7a4_70 rfl (lv_at hl 1 rfl) ?_
            refine lv_iconst (v := 2) hx hb dJ6_numberOfTrailingZeros_0f7a4_71 (by decide) ?_
            refine lv_iushr (v := ((sh32 (sh32 (nt0 v) 16) 4).toUInt32 >>> ((2 : Int32).toUInt32 &&& Int32.toUInt32 31)).toInt32) hx hb dJ6_numberOfTrailingZeros_0f7a4_72 rfl ?_
            refine lv_istore_n (lv' := [(0, .int (((sh32 (sh32 (nt0 v) 16) 4).toUInt32 >>> ((2 : Int32).toUInt32 &&& Int32.toUInt32 31)).toInt32)), (1, .int 23)]) hx hb dJ6_numberOfTrailingZeros_0f7a4_73 rfl hl (by decide) rfl (fun ls hl => ?_)
            have r9 : ((sh32 (sh32 (nt0 v) 16) 4).toUInt32 >>> ((2 : Int32).toUInt32 &&& Int32.toUInt32 31)).toInt32 = sh32 (sh32 (sh32 (nt0 v) 16) 4) 2 := rfl
            rw [r9] at hl
            clear r9
            refine lv_iload_n hx hb dJ6_numberOfTrailingZeros_0f7a4_74 rfl (lv_at hl 1 rfl) ?_
            refine lv_iload_n hx hb dJ6_numberOfTrailingZeros_0f7a4_75 rfl (lv_at hl 0 rfl) ?_
            refine lv_iconst (v := 1) hx hb dJ6_numberOfTrailingZeros_0f7a4_76 (by decide) ?_
            refine lv_iushr (v := ((sh32 (sh32 (sh32 (nt0 v) 16) 4) 2).toUInt32 >>> ((1 : Int32).toUInt32 &&& Int32.toUInt32 31)).toInt32) hx hb dJ6_numberOfTrailingZeros_0f7a4_77 rfl ?_
            refine lv_iadd hx hb dJ6_numberOfTrailingZeros_0f7a4_78 ?_
            exact W.iret (v := 23 + (((sh32 (sh32 (sh32 (nt0 v) 16) 4) 2).toUInt32 >>> ((1 : Int32).toUInt32 &&& Int32.toUInt32 31)).toInt32)) hx hb hr (fun t ht hW => ⟨23 + (((sh32 (sh32 (sh32 (nt0 v) 16) 4) 2).toUInt32 >>> ((1 : Int32).toUInt32 &&& Int32.toUInt32 31)).toInt32), rfl, (by rw [ntzF, if_pos c9, nt1, if_neg c23, nt2, if_pos c38, nt3, if_neg c52, nt4, if_neg c64]; rfl), ht⟩) (fun q hq => absurd hq List.not_mem_nil) dJ6_numberOfTrailingZeros_0f7a4_79
      · refine lv_iinc (v := 25) (lv' := [(1, .int 25), (0, .int (sh32 (nt0 v) 16))]) hx hb dJ6_numberOfTrailingZeros_0f7a4_41 hl (k := 1) rfl (by decide) (by decide) rfl (fun ls hl => ?_)
        refine lv_iload_n hx hb dJ6_numberOfTrailingZeros_0f7a4_44 rfl (lv_at hl 1 rfl) ?_
        refine lv_bipush (v := 8) hx hb dJ6_numberOfTrailingZeros_0f7a4_45 (by decide) ?_
        refine lv_iushr (v := ((sh32 (nt0 v) 16).toUInt32 >>> ((8 : Int32).toUInt32 &&& Int32.toUInt32 31)).toInt32) hx hb dJ6_numberOfTrailingZeros_0f7a4_47 rfl ?_
        refine lv_istore_n (lv' := [(0, .int (((sh32 (nt0 v) 16).toUInt32 >>> ((8 : Int32).toUInt32 &&& Int32.toUInt32 31)).toInt32)), (1, .int 25)]) hx hb dJ6_numberOfTrailingZeros_0f7a4_48 rfl hl (by decide) rfl (fun ls hl => ?_)
        have r9 : ((sh32 (nt0 v) 16).toUInt32 >>> ((8 : Int32).toUInt32 &&& Int32.toUInt32 31)).toInt32 = sh32 (sh32 (nt0 v) 16) 8 := rfl
        rw [r9] at hl
        clear r9
        refine lv_iload_n hx hb dJ6_numberOfTrailingZeros_0f7a4_49 rfl (lv_at hl 0 rfl) ?_
        refine lv_bipush (v := 16) hx hb dJ6_numberOfTrailingZeros_0f7a4_50 (by decide) ?_
        refine lv_icmp_le (tgt := 62) hx hb dJ6_numberOfTrailingZeros_0f7a4_52 (by decide) (fun c52 => ?_) (fun c52 => ?_)
        · refine lv_iload_n hx hb dJ6_numberOfTrailingZeros_0f7a4_62 rfl (lv_at hl 0 rfl) ?_
          refine lv_iconst (v := 4) hx hb dJ6_numberOfTrailingZeros_0f7a4_63 (by decide) ?_
          refine lv_icmp_le (tgt := 74) hx hb dJ6_numberOfTrailingZeros_0f7a4_64 (by decide) (fun c64 => ?_) (fun c64 => ?_)
          · refine lv_iload_n hx hb dJ6_numberOfTrailingZeros_0f7a4_74 rfl (lv_at hl 1 rfl) ?_
            refine lv_iload_n hx hb dJ6_numberOfTrailingZeros_0f7a4_75 rfl (lv_at hl 0 rfl) ?_
            refine lv_iconst (v := 1) hx hb dJ6_numberOfTrailingZeros_0f7a4_76 (by decide) ?_
            refine lv_iushr (v := ((sh32 (sh32 (nt0 v) 16) 8).toUInt32 >>> ((1 : Int32).toUInt32 &&& Int32.toUInt32 31)).toInt32) hx hb dJ6_numberOfTrailingZeros_0f7a4_77 rfl ?_
            refine lv_iadd hx hb dJ6_numberOfTrailingZeros_0f7a4_78 ?_
            exact W.iret (v := 25 + (((sh32 (sh32 (nt0 v) 16) 8).toUInt32 >>> ((1 : Int32).toUInt32 &&& Int32.toUInt32 31)).toInt32)) hx hb hr (fun t ht hW => ⟨25 + (((sh32 (sh32 (nt0 v) 16) 8).toUInt32 >>> ((1 : Int32).toUInt32 &&& Int32.toUInt32 31)).toInt32), rfl, (by rw [ntzF, if_pos c9, nt1, if_neg c23, nt2, if_neg c38, nt3, if_pos c52, nt4, if_pos c64]; rfl), ht⟩) (fun q hq => absurd hq List.not_mem_nil) dJ6_numberOfTrailingZeros_0f7a4_79
          · refine lv_iinc (v := 27) (lv' := [(1, .int 27), (0, .int (sh32 (sh32 (nt0 v) 16) 8))]) hx hb dJ6_numberOfTrailingZeros_0f7a4_67 hl (k := 1) rfl (by decide) (by decide) rfl (fun ls hl => ?_)
            refine lv_iload_n hx hb dJ6_numberOfTrailingZeros_0f7a4_70 rfl (lv_at hl 1 rfl) ?_
            refine lv_iconst (v := 2) hx hb dJ6_numberOfTrailingZeros_0f7a4_71 (by decide) ?_
            refine lv_iushr (v := ((sh32 (sh32 (nt0 v) 16) 8).toUInt32 >>> ((2 : Int32).toUInt32 &&& Int32.toUInt32 31)).toInt32) hx hb dJ6_numberOfTrailingZeros_0f7a4_72 rfl ?_
            refine lv_istore_n (lv' := [(0, .int (((sh32 (sh32 (nt0 v) 16) 8).toUInt32 >>> ((2 : Int32).toUInt32 &&& Int32.toUInt32 31)).toInt32)), (1, .int 27)]) hx hb dJ6_numberOfTrailingZeros_0f7a4_73 rfl hl (by decide) rfl (fun ls hl => ?_)
            have r9 : ((sh32 (sh32 (nt0 v) 16) 8).toUInt32 >>> ((2 : Int32).toUInt32 &&& Int32.toUInt32 31)).toInt32 = sh32 (sh32 (sh32 (nt0 v) 16) 8) 2 := rfl
            rw [r9] at hl
            clear r9
            refine lv_iload_n hx hb dJ6_numberOfTrailingZeros_0f7a4_74 rfl (lv_at hl 1 rfl) ?_
            refine lv_iload_n hx hb dJ6_numberOfTrailingZeros_0f7a4_75 rfl (lv_at hl 0 rfl) ?_
            refine lv_iconst (v := 1) hx hb dJ6_numberOfTrailingZeros_0f7a4_76 (by decide) ?_
            refine lv_iushr (v := ((sh32 (sh32 (sh32 (nt0 v) 16) 8) 2).toUInt32 >>> ((1 : Int32).toUInt32 &&& Int32.toUInt32 31)).toInt32) hx hb dJ6_numberOfTrailingZeros_0f7a4_77 rfl ?_
            refine lv_iadd hx hb dJ6_numberOfTrailingZeros_0f7a4_78 ?_
            exact W.iret (v := 27 + (((sh32 (sh32 (sh32 (nt0 v) 16) 8) 2).toUInt32 >>> ((1 : Int32).toUInt32 &&& Int32.toUInt32 31)).toInt32)) hx hb hr (fun t ht hW => ⟨27 + (((sh32 (sh32 (sh32 (nt0 v) 16) 8) 2).toUInt32 >>> ((1 : Int32).toUInt32 &&& Int32.toUInt32 31)).toInt32), rfl, (by rw [ntzF, if_pos c9, nt1, if_neg c23, nt2, if_neg c38, nt3, if_pos c52, nt4, if_neg c64]; rfl), ht⟩) (fun q hq => absurd hq List.not_mem_nil) dJ6_numberOfTrailingZeros_0f7a4_79
        · refine lv_iinc (v := 29) (lv' := [(1, .int 29), (0, .int (sh32 (sh32 (nt0 v) 16) 8))]) hx hb dJ6_numberOfTrailingZeros_0f7a4_55 hl (k := 1) rfl (by decide) (by decide) rfl (fun ls hl => ?_)
          refine lv_iload_n hx hb dJ6_numberOfTrailingZeros_0f7a4_58 rfl (lv_at hl 1 rfl) ?_
          refine lv_iconst (v := 4) hx hb dJ6_numberOfTrailingZeros_0f7a4_59 (by decide) ?_
          refine lv_iushr (v := ((sh32 (sh32 (nt0 v) 16) 8).toUInt32 >>> ((4 : Int32).toUInt32 &&& Int32.toUInt32 31)).toInt32) hx hb dJ6_numberOfTrailingZeros_0f7a4_60 rfl ?_
          refine lv_istore_n (lv' := [(0, .int (((sh32 (sh32 (nt0 v) 16) 8).toUInt32 >>> ((4 : Int32).toUInt32 &&& Int32.toUInt32 31)).toInt32)), (1, .int 29)]) hx hb dJ6_numberOfTrailingZeros_0f7a4_61 rfl hl (by decide) rfl (fun ls hl => ?_)
          have r9 : ((sh32 (sh32 (nt0 v) 16) 8).toUInt32 >>> ((4 : Int32).toUInt32 &&& Int32.toUInt32 31)).toInt32 = sh32 (sh32 (sh32 (nt0 v) 16) 8) 4 := rfl
          rw [r9] at hl
          clear r9
          refine lv_iload_n hx hb dJ6_numberOfTrailingZeros_0f7a4_62 rfl (lv_at hl 0 rfl) ?_
          refine lv_iconst (v := 4) hx hb dJ6_numberOfTrailingZeros_0f7a4_63 (by decide) ?_
          refine lv_icmp_le (tgt := 74) hx hb dJ6_numberOfTrailingZeros_0f7a4_64 (by decide) (fun c64 => ?_) (fun c64 => ?_)
          · refine lv_iload_n hx hb dJ6_numberOfTrailingZeros_0f7a4_74 rfl (lv_at hl 1 rfl) ?_
            refine lv_iload_n hx hb dJ6_numberOfTrailingZeros_0f7a4_75 rfl (lv_at hl 0 rfl) ?_
            refine lv_iconst (v := 1) hx hb dJ6_numberOfTrailingZeros_0f7a4_76 (by decide) ?_
            refine lv_iushr (v := ((sh32 (sh32 (sh32 (nt0 v) 16) 8) 4).toUInt32 >>> ((1 : Int32).toUInt32 &&& Int32.toUInt32 31)).toInt32) hx hb dJ6_numberOfTrailingZeros_0f7a4_77 rfl ?_
            refine lv_iadd hx hb dJ6_numberOfTrailingZeros_0f7a4_78 ?_
            exact W.iret (v := 29 + (((sh32 (sh32 (sh32 (nt0 v) 16) 8) 4).toUInt32 >>> ((1 : Int32).toUInt32 &&& Int32.toUInt32 31)).toInt32)) hx hb hr (fun t ht hW => ⟨29 + (((sh32 (sh32 (sh32 (nt0 v) 16) 8) 4).toUInt32 >>> ((1 : Int32).toUInt32 &&& Int32.toUInt32 31)).toInt32), rfl, (by rw [ntzF, if_pos c9, nt1, if_neg c23, nt2, if_neg c38, nt3, if_neg c52, nt4, if_pos c64]; rfl), ht⟩) (fun q hq => absurd hq List.not_mem_nil) dJ6_numberOfTrailingZeros_0f7a4_79
          · refine lv_iinc (v := 31) (lv' := [(1, .int 31), (0, .int (sh32 (sh32 (sh32 (nt0 v) 16) 8) 4))]) hx hb dJ6_numberOfTrailingZeros_0f7a4_67 hl (k := 1) rfl (by decide) (by decide) rfl (fun ls hl => ?_)
            refine lv_iload_n hx hb dJ6_numberOfTrailingZeros_0f7a4_70 rfl (lv_at hl 1 rfl) ?_
            refine lv_iconst (v := 2) hx hb dJ6_numberOfTrailingZeros_0f7a4_71 (by decide) ?_
            refine lv_iushr (v := ((sh32 (sh32 (sh32 (nt0 v) 16) 8) 4).toUInt32 >>> ((2 : Int32).toUInt32 &&& Int32.toUInt32 31)).toInt32) hx hb dJ6_numberOfTrailingZeros_0f7a4_72 rfl ?_
            refine lv_istore_n (lv' := [(0, .int (((sh32 (sh32 (sh32 (nt0 v) 16) 8) 4).toUInt32 >>> ((2 : Int32).toUInt32 &&& Int32.toUInt32 31)).toInt32)), (1, .int 31)]) hx hb dJ6_numberOfTrailingZeros_0f7a4_73 rfl hl (by decide) rfl (fun ls hl => ?_)
            have r9 : ((sh32 (sh32 (sh32 (nt0 v) 16) 8) 4).toUInt32 >>> ((2 : Int32).toUInt32 &&& Int32.toUInt32 31)).toInt32 = sh32 (sh32 (sh32 (sh32 (nt0 v) 16) 8) 4) 2 := rfl
            rw [r9] at hl
            clear r9
            refine lv_iload_n hx hb dJ6_numberOfTrailingZeros_0f7a4_74 rfl (lv_at hl 1 rfl) ?_
            refine lv_iload_n hx hb dJ6_numberOfTrailingZeros_0f7a4_75 rfl (lv_at hl 0 rfl) ?_
            refine lv_iconst (v := 1) hx hb dJ6_numberOfTrailingZeros_0f7a4_76 (by decide) ?_
            refine lv_iushr (v := ((sh32 (sh32 (sh32 (sh32 (nt0 v) 16) 8) 4) 2).toUInt32 >>> ((1 : Int32).toUInt32 &&& Int32.toUInt32 31)).toInt32) hx hb dJ6_numberOfTrailingZeros_0f7a4_77 rfl ?_
            refine lv_iadd hx hb dJ6_numberOfTrailingZeros_0f7a4_78 ?_
            exact W.iret (v := 31 + (((sh32 (sh32 (sh32 (sh32 (nt0 v) 16) 8) 4) 2).toUInt32 >>> ((1 : Int32).toUInt32 &&& Int32.toUInt32 31)).toInt32)) hx hb hr (fun t ht hW => ⟨31 + (((sh32 (sh32 (sh32 (sh32 (nt0 v) 16) 8) 4) 2).toUInt32 >>> ((1 : Int32).toUInt32 &&& Int32.toUInt32 31)).toInt32), rfl, (by rw [ntzF, if_pos c9, nt1, if_neg c23, nt2, if_neg c38, nt3, if_neg c52, nt4, if_neg c64]; rfl), ht⟩) (fun q hq => absurd hq List.not_mem_nil) dJ6_numberOfTrailingZeros_0f7a4_79
  · refine lv_iload_n hx hb dJ6_numberOfTrailingZeros_0f7a4_12 rfl (lv_at hl 0 rfl) ?_
    refine lv_bipush (v := 32) hx hb dJ6_numberOfTrailingZeros_0f7a4_13 (by decide) ?_
    refine lv_iand hx hb dJ6_numberOfTrailingZeros_0f7a4_15 ?_
    exact W.iret (v := (nt0 v) &&& 32) hx hb hr (fun t ht hW => ⟨(nt0 v) &&& 32, rfl, (by rw [ntzF, if_neg c9]), ht⟩) (fun q hq => absurd hq List.not_mem_nil) dJ6_numberOfTrailingZeros_0f7a4_16

theorem inX3_digest_RX3 : ∀ w ∈ u_ws RX3 TX3 8, w ∈ wsX3_digest := by decide +kernel
theorem kX3_digest_0 : (.fieldLink RX3 32 "WedgeHarpsModel" "thrown" "I" : Cond) ∈ wsX3_digest := by decide +kernel
theorem kX3_digest_1 : (.constantLong RX3 126 (947) : Cond) ∈ wsX3_digest := by decide +kernel
theorem kX3_digest_2 : (.fieldLink RX3 61 "WedgeHarpsModel" "chords" "I" : Cond) ∈ wsX3_digest := by decide +kernel
theorem kX3_digest_3 : (.constantLong RX3 128 (31) : Cond) ∈ wsX3_digest := by decide +kernel
theorem kX3_digest_4 : (.fieldLink RX3 16 "WedgeHarpsModel" "winds" "[I" : Cond) ∈ wsX3_digest := by decide +kernel
theorem kX3_digest_5 : (.fieldLink RX3 19 "WedgeHarpsModel" "damps" "[I" : Cond) ∈ wsX3_digest := by decide +kernel
set_option maxHeartbeats 4000000 in
set_option maxRecDepth 100000 in
theorem mX3_digest (l : Launch) (D : va_G) (cy : Nat → ClassId) (sz : Nat) (b : Nat → Nat) (u : US) (th : Int32) (hu : uOk u)  : Met l yX3_digest wsX3_digest ({ frames := 7, cells := 0, slots := 0, locals := 170 } : Room) (va_Pc [.ref (b 0)] (fun U => U.heap.size = sz ∧ va_P D vwCl (wM cy b u th pz) U.heap ∧ va_K D vwCl (TY cy) U ∧ va_D (fun _ => True) (wM cy b u th pz))) (va_Ql (fun (r8 : Int64) (u9 : US) => ((0 : Nat) = 0 → r8 = digU u ∧ u9 = u) ∧ (¬ (0 : Nat) = 0 → u9 = u)) (fun (u9 : US) t => va_P D vwCl (wM cy b u9 (nI ((0 : Nat))) pz) t.heap ∧ va_D (va_A (wM cy b u th pz) sz) (wM cy b u9 (nI ((0 : Nat))) pz)) (va_A (wM cy b u th pz) sz)) 0 0 (va_A (wM cy b u th pz) sz) := by
  refine Met.ofW (cc := cX3_digest) (maxL := 5) (ret := (some .long)) (by decide) rfl ?_
  intro p e s m args below meth c s₁ B hml hv
  obtain ⟨rfl, hsz, hP, hK, hD0⟩ := hv
  have hx := B.exec
  have hb := B.bytes
  have hr := B.returns
  have hts := atoms_spec (ws := wsX3_digest) B.pre
  have hown : s.vm.findClass RX3 = some m.cls := findClass_of_methodNamed B.named
  have hlocks := B.notSynchronized
  have hl := lv_entry ([.ref (b 0)]) (n := 5) (Nat.le_of_ble_eq_true rfl)
  rw [lg_entry_eq]
  generalize (lg_sl ([.ref (b 0)]) ++ List.replicate (5 - (lg_sl ([.ref (b 0)])).length) Slot.unset).toArray = ls at hl ⊢
  have hl : lv_has ls 5 [(0, .ref (b 0))] := hl
  subst hsz
  have hD := hD0.self (sz := s.heap.size)
  generalize hAe : va_A (wM cy b u th pz) s.heap.size = A at hD ⊢
  have hA : ∀ q : Nat, s.heap.size ≤ q → A q := fun q h => by rw [← hAe]; exact Or.inr h
  have hS : va_S A s.heap s.heap [] := va_S.rf
  have hP : va_P D vwCl (wM cy b u th pz) s.heap := hP
  have hn9 : un u ≤ 6 := hu.2.1
  refine lv_aload_n hx hb dX3_digest_0 rfl (lv_at hl 0 rfl) ?_
  refine lv_iconst (v := 0) hx hb dX3_digest_1 (by decide) ?_
  refine va_put (D := D) (ci := 3) (v := .int 0) (ty := .int) (C := RX3) (T := TX3) (N := 8) hx hb hts inX3_digest_RX3 tyX3 tyX3_ok nmX3 hown hK hP hD hS 0 rfl rfl 0 (by decide) (hts _ kX3_digest_0) (fun _ h9 => h9) rfl (by decide +kernel) rfl rfl (Nat.le_of_ble_eq_true rfl) dX3_digest_2 (fun H locs hP hD hS => ?_)
  have hP : va_P D vwCl [(b 0, .inr (3, [.int 0, .ref (b 1), .int (nI (un u)), .ref (b 2), .ref (b 3), .ref (b 4), .ref (b 5), .ref (b 6)])), (b 1, .inl ((cy 0), 72, .inl (mh (uh u)))), (b 2, .inl ((cy 0), 36, .inl (mt (ul u) (uz u) (ut u)))), (b 3, .inl ((cy 0), 12, .inl (uw u))), (b 4, .inl ((cy 0), 12, .inl (ud u))), (b 5, .inl ((cy 0), 2, .inl (mb (uh u)))), (b 6, .inl ((cy 0), 12, .inl pz))] H := hP
  have hD : va_D A [(b 0, .inr (3, [.int 0, .ref (b 1), .int (nI (un u)), .ref (b 2), .ref (b 3), .ref (b 4), .ref (b 5), .ref (b 6)])), (b 1, .inl ((cy 0), 72, .inl (mh (uh u)))), (b 2, .inl ((cy 0), 36, .inl (mt (ul u) (uz u) (ut u)))), (b 3, .inl ((cy 0), 12, .inl (uw u))), (b 4, .inl ((cy 0), 12, .inl (ud u))), (b 5, .inl ((cy 0), 2, .inl (mb (uh u)))), (b 6, .inl ((cy 0), 12, .inl pz))] := hD
  have hP : va_P D vwCl (wM cy b u 0 pz) H := hP
  have hD : va_D A (wM cy b u 0 pz) := hD
  refine lv_ldc2 (v := 947) hx hb hown (hts _ kX3_digest_1) dX3_digest_5 ?_
  refine lv_lstore_n (lv' := [(1, .long 947), (0, .ref (b 0))]) hx hb dX3_digest_8 rfl hl (by decide) rfl (fun ls hl => ?_)
  refine lv_iconst (v := 0) hx hb dX3_digest_9 (by decide) ?_
  refine lv_istore_n (lv' := [(3, .int 0), (1, .long 947), (0, .ref (b 0))]) hx hb dX3_digest_10 rfl hl (by decide) rfl (fun ls hl => ?_)
  have loop11 : ∀ (n9 : Nat) (k : Nat), k ≤ 8 → 8 - k < n9 → ∀ ls : Array Slot, lv_has ls 5 [(0, .ref (b 0)), (1, .long (dgN (cntOf u) 947 k)), (3, .int (nI k))] → W p l e (headSpec wsX3_digest ({ frames := 7, cells := 0, slots := 0, locals := 170 } : Room)).room s m ([.ref (b 0)] : List Value).toArray below meth c H locs 0 0 (MQ below (va_Ql (fun (r8 : Int64) (u9 : US) => ((0 : Nat) = 0 → r8 = digU u ∧ u9 = u) ∧ (¬ (0 : Nat) = 0 → u9 = u)) (fun (u9 : US) t => va_P D vwCl (wM cy b u9 (nI ((0 : Nat))) pz) t.heap ∧ va_D A (wM cy b u9 (nI ((0 : Nat))) pz)) A) ([.ref (b 0)] : List Value).toArray s 0 0 A) (F0 m 11 ls []) := by
    intro n9
    induction n9 with
    | zero => intro k hk h9 ls hl; exact absurd h9 (by omega)
    | succ n9 ih11 =>
      intro k hk h9 ls hl
      refine lv_iload_n hx hb dX3_digest_11 rfl (lv_at hl 2 rfl) ?_
      refine lv_bipush (v := 8) hx hb dX3_digest_12 (by decide) ?_
      refine lv_icmp_ge (tgt := 36) hx hb dX3_digest_14 (by decide) (fun c14 => ?_) (fun c14 => ?_)
      · have n14 : 8 ≤ k := (nI_leI (a := 8) (b := k) (by omega) (by omega)).mp c14
        rw [show k = 8 by omega] at hl
        have hl : lv_has ls 5 [(0, .ref (b 0)), (1, .long (dgN (cntOf u) 947 8)), (3, .int (nI 8))] := hl
        refine lv_iconst (v := 0) hx hb dX3_digest_36 (by decide) ?_
        refine lv_istore_n (lv' := [(3, .int 0), (0, .ref (b 0)), (1, .long (dgN (cntOf u) 947 8))]) hx hb dX3_digest_37 rfl hl (by decide) rfl (fun ls hl => ?_)
        have loop38 : ∀ (n9 : Nat) (k2 : Nat), k2 ≤ 12 → 12 - k2 < n9 → ∀ ls : Array Slot, lv_has ls 5 [(0, .ref (b 0)), (1, .long (dg2 (factH (uh u)) (dgN (cntOf u) 947 8) k2)), (3, .int (nI k2))] → W p l e (headSpec wsX3_digest ({ frames := 7, cells := 0, slots := 0, locals := 170 } : Room)).room s m ([.ref (b 0)] : List Value).toArray below meth c H locs 0 0 (MQ below (va_Ql (fun (r8 : Int64) (u9 : US) => ((0 : Nat) = 0 → r8 = digU u ∧ u9 = u) ∧ (¬ (0 : Nat) = 0 → u9 = u)) (fun (u9 : US) t => va_P D vwCl (wM cy b u9 (nI ((0 : Nat))) pz) t.heap ∧ va_D A (wM cy b u9 (nI ((0 : Nat))) pz)) A) ([.ref (b 0)] : List Value).toArray s 0 0 A) (F0 m 38 ls []) := by
          intro n9
          induction n9 with
          | zero => intro k2 hk2 h9 ls hl; exact absurd h9 (by omega)
          | succ n9 ih38 =>
            intro k2 hk2 h9 ls hl
            refine lv_iload_n hx hb dX3_digest_38 rfl (lv_at hl 2 rfl) ?_
            refine lv_bipush (v := 12) hx hb dX3_digest_39 (by decide) ?_
            refine lv_icmp_ge (tgt := 81) hx hb dX3_digest_41 (by decide) (fun c41 => ?_) (fun c41 => ?_)
            · have n41 : 12 ≤ k2 := (nI_leI (a := 12) (b := k2) (by omega) (by omega)).mp c41
              rw [show k2 = 12 by omega] at hl
              have hl : lv_has ls 5 [(0, .ref (b 0)), (1, .long (dg2 (factH (uh u)) (dgN (cntOf u) 947 8) 12)), (3, .int (nI 12))] := hl
              refine lv_iconst (v := 0) hx hb dX3_digest_81 (by decide) ?_
              refine lv_istore_n (lv' := [(3, .int 0), (0, .ref (b 0)), (1, .long (dg2 (factH (uh u)) (dgN (cntOf u) 947 8) 12))]) hx hb dX3_digest_82 rfl hl (by decide) rfl (fun ls hl => ?_)
              have loop83 : ∀ (n9 : Nat) (k3 : Nat), k3 ≤ 12 → 12 - k3 < n9 → ∀ ls : Array Slot, lv_has ls 5 [(0, .ref (b 0)), (1, .long (dgN (wea u) (dg2 (factH (uh u)) (dgN (cntOf u) 947 8) 12) k3)), (3, .int (nI k3))] → W p l e (headSpec wsX3_digest ({ frames := 7, cells := 0, slots := 0, locals := 170 } : Room)).room s m ([.ref (b 0)] : List Value).toArray below meth c H locs 0 0 (MQ below (va_Ql (fun (r8 : Int64) (u9 : US) => ((0 : Nat) = 0 → r8 = digU u ∧ u9 = u) ∧ (¬ (0 : Nat) = 0 → u9 = u)) (fun (u9 : US) t => va_P D vwCl (wM cy b u9 (nI ((0 : Nat))) pz) t.heap ∧ va_D A (wM cy b u9 (nI ((0 : Nat))) pz)) A) ([.ref (b 0)] : List Value).toArray s 0 0 A) (F0 m 83 ls []) := by
                intro n9
                induction n9 with
                | zero => intro k3 hk3 h9 ls hl; exact absurd h9 (by omega)
                | succ n9 ih83 =>
                  intro k3 hk3 h9 ls hl
                  refine lv_iload_n hx hb dX3_digest_83 rfl (lv_at hl 2 rfl) ?_
                  refine lv_bipush (v := 12) hx hb dX3_digest_84 (by decide) ?_
                  refine lv_icmp_ge (tgt := 119) hx hb dX3_digest_86 (by decide) (fun c86 => ?_) (fun c86 => ?_)
                  · have n86 : 12 ≤ k3 := (nI_leI (a := 12) (b := k3) (by omega) (by omega)).mp c86
                    rw [show k3 = 12 by omega] at hl
                    have hl : lv_has ls 5 [(0, .ref (b 0)), (1, .long (dgN (wea u) (dg2 (factH (uh u)) (dgN (cntOf u) 947 8) 12) 12)), (3, .int (nI 12))] := hl
                    refine lv_iconst (v := 0) hx hb dX3_digest_119 (by decide) ?_
                    refine lv_istore_n (lv' := [(3, .int 0), (0, .ref (b 0)), (1, .long (dgN (wea u) (dg2 (factH (uh u)) (dgN (cntOf u) 947 8) 12) 12))]) hx hb dX3_digest_120 rfl hl (by decide) rfl (fun ls hl => ?_)
                    have loop121 : ∀ (n9 : Nat) (k4 : Nat), k4 ≤ un u → un u - k4 < n9 → ∀ ls : Array Slot, lv_has ls 5 [(0, .ref (b 0)), (1, .long (dgCs u (dgN (wea u) (dg2 (factH (uh u)) (dgN (cntOf u) 947 8) 12) 12) k4)), (3, .int (nI k4))] → W p l e (headSpec wsX3_digest ({ frames := 7, cells := 0, slots := 0, locals := 170 } : Room)).room s m ([.ref (b 0)] : List Value).toArray below meth c H locs 0 0 (MQ below (va_Ql (fun (r8 : Int64) (u9 : US) => ((0 : Nat) = 0 → r8 = digU u ∧ u9 = u) ∧ (¬ (0 : Nat) = 0 → u9 = u)) (fun (u9 : US) t => va_P D vwCl (wM cy b u9 (nI ((0 : Nat))) pz) t.heap ∧ va_D A (wM cy b u9 (nI ((0 : Nat))) pz)) A) ([.ref (b 0)] : List Value).toArray s 0 0 A) (F0 m 121 ls []) := by
                      intro n9
                      induction n9 with
                      | zero => intro k4 hk4 h9 ls hl; exact absurd h9 (by omega)
                      | succ n9 ih121 =>
                        intro k4 hk4 h9 ls hl
                        refine lv_iload_n hx hb dX3_digest_121 rfl (lv_at hl 2 rfl) ?_
                        refine lv_aload_n hx hb dX3_digest_122 rfl (lv_at hl 0 rfl) ?_
                        refine va_get (D := D) (ci := 3) (v := .int (nI (un u))) (C := RX3) (T := TX3) (N := 8) hx hb hts inX3_digest_RX3 hown hK hP 0 rfl rfl 2 (by decide) (hts _ kX3_digest_2) (fun _ h9 => h9) rfl dX3_digest_123 ?_
                        refine lv_icmp_ge (tgt := 185) hx hb dX3_digest_126 (by decide) (fun c126 => ?_) (fun c126 => ?_)
                        · have n126 : un u ≤ k4 := (nI_leI (a := un u) (b := k4) (by omega) (by omega)).mp c126
                          refine lv_lload_n hx hb dX3_digest_185 rfl (lv_at hl 1 rfl) ?_
                          have hex9 : (0 : Nat) = 0 := by simp []
                          have hP9 : va_P D vwCl (wM cy b u (nI ((0 : Nat))) pz) H := (by rw [hex9]; exact hP)
                          have hD9 : va_D A (wM cy b u (nI ((0 : Nat))) pz) := (by rw [hex9]; exact hD)
                          exact W.lret (v := dgCs u (dgN (wea u) (dg2 (factH (uh u)) (dgN (cntOf u) 947 8) 12) 12) k4) hx hb hr (fun t ht hW => ⟨⟨dgCs u (dgN (wea u) (dg2 (factH (uh u)) (dgN (cntOf u) 947 8) 12) 12) k4, u, rfl, ⟨fun _ => ⟨by rw [show k4 = un u by omega]; rfl, rfl⟩, fun z => absurd hex9 z⟩, by rw [ht]; exact hP9, hD9⟩, hS.F ht⟩) hS.2.2 dX3_digest_186
                        · have n126 : ¬ (un u ≤ k4) := fun h9 => c126 ((nI_leI (a := un u) (b := k4) (by omega) (by omega)).mpr h9)
                          have k6 : k4 < 6 := by omega
                          have hc9 := hu.2.2.1 k4 k6
                          refine lv_iconst (v := 0) hx hb dX3_digest_129 (by decide) ?_
                          refine lv_istore (lv' := [(4, .int 0), (0, .ref (b 0)), (1, .long (dgCs u (dgN (wea u) (dg2 (factH (uh u)) (dgN (cntOf u) 947 8) 12) 12) k4)), (3, .int (nI k4))]) hx hb dX3_digest_130 hl (by decide) rfl (fun ls hl => ?_)
                          have loop132 : ∀ (n9 : Nat) (w6 : Nat), w6 ≤ 2 + uz u k4 → 2 + uz u k4 - w6 < n9 → ∀ ls : Array Slot, lv_has ls 5 [(0, .ref (b 0)), (1, .long (dgN (mtF (ul u) (uz u) (ut u) k4) (dgCs u (dgN (wea u) (dg2 (factH (uh u)) (dgN (cntOf u) 947 8) 12) 12) k4) w6)), (3, .int (nI k4)), (4, .int (nI w6))] → W p l e (headSpec wsX3_digest ({ frames := 7, cells := 0, slots := 0, locals := 170 } : Room)).room s m ([.ref (b 0)] : List Value).toArray below meth c H locs 0 0 (MQ below (va_Ql (fun (r8 : Int64) (u9 : US) => ((0 : Nat) = 0 → r8 = digU u ∧ u9 = u) ∧ (¬ (0 : Nat) = 0 → u9 = u)) (fun (u9 : US) t => va_P D vwCl (wM cy b u9 (nI ((0 : Nat))) pz) t.heap ∧ va_D A (wM cy b u9 (nI ((0 : Nat))) pz)) A) ([.ref (b 0)] : List Value).toArray s 0 0 A) (F0 m 132 ls []) := by
                            intro n9
                            induction n9 with
                            | zero => intro w6 hw6 h9 ls hl; exact absurd h9 (by omega)
                            | succ n9 ih132 =>
                              intro w6 hw6 h9 ls hl
                              refine lv_iload hx hb dX3_digest_132 (lv_at hl 3 rfl) ?_
                              refine lv_iconst (v := 2) hx hb dX3_digest_134 (by decide) ?_
                              refine lv_aload_n hx hb dX3_digest_135 rfl (lv_at hl 0 rfl) ?_
                              refine lv_iload_n hx hb dX3_digest_136 rfl (lv_at hl 2 rfl) ?_
                              refine lv_iconst (v := 1) hx hb dX3_digest_137 (by decide) ?_
                              refine pc_calli (va_runV (As := [.int (nI k4), .int 1]) (rest := [.int 2, .int (nI w6)]) ⟨hx, hb, hml, hown, hts⟩ (mX3_to l D cy b u 0 pz k4 1 k6 (by decide)) (cwV 2 hts gX3_digest_X3_to rfl rfl rfl (by decide +kernel) ⟨Nat.le_of_ble_eq_true rfl, Nat.le_of_ble_eq_true rfl⟩) ⟨fun a U g mk q => ⟨q.1, q.2.1, va_K.moved (u := U) (U := U.calling g mk a) (Vm.Alike.refl U.vm) q.2.2⟩, va_recv hK hP (ci := 3) (q0 := 0) rfl rfl, fun U hU hW => ⟨rfl, by rw [hU]; exact hP, va_K.moved hW.alike hK⟩⟩ rfl rfl hl.1 rfl (lv_room (Nat.le_of_ble_eq_true rfl)) dX3_digest_138 ⟨Nat.le_of_ble_eq_true rfl, Nat.le_of_ble_eq_true rfl⟩) (fun r9 hr9 => ?_)
                              subst hr9
                              refine pc_top (show mtF (ul u) (uz u) (ut u) k4 1 = nI (uz u k4) from rfl) ?_
                              refine lv_iadd hx hb dX3_digest_141 ?_
                              refine pc_top (show 2 + (nI (uz u k4)) = nI (2 + uz u k4) from nI_add 2 (uz u k4)) ?_
                              refine lv_icmp_ge (tgt := 166) hx hb dX3_digest_142 (by decide) (fun c142 => ?_) (fun c142 => ?_)
                              · have n142 : 2 + uz u k4 ≤ w6 := (nI_leI (a := 2 + uz u k4) (b := w6) (by omega) (by omega)).mp c142
                                rw [show w6 = 2 + uz u k4 by omega] at hl
                                have hl : lv_has ls 5 [(0, .ref (b 0)), (1, .long (dgN (mtF (ul u) (uz u) (ut u) k4) (dgCs u (dgN (wea u) (dg2 (factH (uh u)) (dgN (cntOf u) 947 8) 12) 12) k4) (2 + uz u k4))), (3, .int (nI k4)), (4, .int (nI (2 + uz u k4)))] := hl
                                have r9 : dgN (mtF (ul u) (uz u) (ut u) k4) (dgCs u (dgN (wea u) (dg2 (factH (uh u)) (dgN (cntOf u) 947 8) 12) 12) k4) (2 + uz u k4) = dgN (ut u k4) ((dgCs u (dgN (wea u) (dg2 (factH (uh u)) (dgN (cntOf u) 947 8) 12) 12) k4 * 31 + (nI (ul u k4)).toInt64) * 31 + (nI (uz u k4)).toInt64) (uz u k4) := (dg_mt _ _ _ _ _ _)
                                rw [r9] at hl
                                clear r9
                                refine lv_lload_n hx hb dX3_digest_166 rfl (lv_at hl 1 rfl) ?_
                                refine lv_ldc2 (v := 31) hx hb hown (hts _ kX3_digest_3) dX3_digest_167 ?_
                                refine lv_lmul hx hb dX3_digest_170 ?_
                                refine lv_aload_n hx hb dX3_digest_171 rfl (lv_at hl 0 rfl) ?_
                                refine lv_iload_n hx hb dX3_digest_172 rfl (lv_at hl 2 rfl) ?_
                                refine pc_calli (va_runV (As := [.int (nI k4)]) (rest := [.long ((dgN (ut u k4) ((dgCs u (dgN (wea u) (dg2 (factH (uh u)) (dgN (cntOf u) 947 8) 12) 12) k4 * 31 + (nI (ul u k4)).toInt64) * 31 + (nI (uz u k4)).toInt64) (uz u k4)) * 31)]) ⟨hx, hb, hml, hown, hts⟩ (mX3_offBy l D cy b u 0 pz k4 k6 (hu.2.2.1 k4 k6)) (cwV 1 hts gX3_digest_X3_offBy rfl rfl rfl (by decide +kernel) ⟨Nat.le_of_ble_eq_true rfl, Nat.le_of_ble_eq_true rfl⟩) ⟨fun a U g mk q => ⟨q.1, q.2.1, va_K.moved (u := U) (U := U.calling g mk a) (Vm.Alike.refl U.vm) q.2.2⟩, va_recv hK hP (ci := 3) (q0 := 0) rfl rfl, fun U hU hW => ⟨rfl, by rw [hU]; exact hP, va_K.moved hW.alike hK⟩⟩ rfl rfl hl.1 rfl (lv_room (Nat.le_of_ble_eq_true rfl)) dX3_digest_173 ⟨Nat.le_of_ble_eq_true rfl, Nat.le_of_ble_eq_true rfl⟩) (fun r9 hr9 => ?_)
                                subst hr9
                                refine pc_top (show offP (uh u) pz (ul u k4) (ut u k4) (uz u k4) = offBy (uh u) (ul u k4) (ut u k4) (uz u k4) from (offP_0 hc9.1)) ?_
                                refine lv_i2l (v := (offBy (uh u) (ul u k4) (ut u k4) (uz u k4)).toInt64) hx hb dX3_digest_176 rfl ?_
                                refine lv_ladd hx hb dX3_digest_177 ?_
                                refine lv_lstore_n (lv' := [(1, .long (((dgN (ut u k4) ((dgCs u (dgN (wea u) (dg2 (factH (uh u)) (dgN (cntOf u) 947 8) 12) 12) k4 * 31 + (nI (ul u k4)).toInt64) * 31 + (nI (uz u k4)).toInt64) (uz u k4)) * 31) + ((offBy (uh u) (ul u k4) (ut u k4) (uz u k4)).toInt64))), (0, .ref (b 0)), (3, .int (nI k4)), (4, .int (nI (2 + uz u k4)))]) hx hb dX3_digest_178 rfl hl (by decide) rfl (fun ls hl => ?_)
                                refine lv_iinc (v := nI (k4 + 1)) (lv' := [(3, .int (nI (k4 + 1))), (1, .long (((dgN (ut u k4) ((dgCs u (dgN (wea u) (dg2 (factH (uh u)) (dgN (cntOf u) 947 8) 12) 12) k4 * 31 + (nI (ul u k4)).toInt64) * 31 + (nI (uz u k4)).toInt64) (uz u k4)) * 31) + ((offBy (uh u) (ul u k4) (ut u k4) (uz u k4)).toInt64))), (0, .ref (b 0)), (4, .int (nI (2 + uz u k4)))]) hx hb dX3_digest_179 hl (k := 2) rfl ((show (nI k4) + Int32.ofInt 1 = (nI k4) + 1 from rfl).trans (show (nI k4) + 1 = nI (k4 + 1) from nI_add k4 1)) (by decide) rfl (fun ls hl => ?_)
                                refine lv_goto (tgt := 121) hx hb dX3_digest_182 (by decide) ?_
                                exact ih121 (k4 + 1) (by omega) (by omega) ls (lv_sub hl [2, 1, 0] rfl)
                              · have n142 : ¬ (2 + uz u k4 ≤ w6) := fun h9 => c142 ((nI_leI (a := 2 + uz u k4) (b := w6) (by omega) (by omega)).mpr h9)
                                refine lv_lload_n hx hb dX3_digest_145 rfl (lv_at hl 1 rfl) ?_
                                refine lv_ldc2 (v := 31) hx hb hown (hts _ kX3_digest_3) dX3_digest_146 ?_
                                refine lv_lmul hx hb dX3_digest_149 ?_
                                refine lv_aload_n hx hb dX3_digest_150 rfl (lv_at hl 0 rfl) ?_
                                refine lv_iload_n hx hb dX3_digest_151 rfl (lv_at hl 2 rfl) ?_
                                refine lv_iload hx hb dX3_digest_152 (lv_at hl 3 rfl) ?_
                                refine pc_calli (va_runV (As := [.int (nI k4), .int (nI w6)]) (rest := [.long ((dgN (mtF (ul u) (uz u) (ut u) k4) (dgCs u (dgN (wea u) (dg2 (factH (uh u)) (dgN (cntOf u) 947 8) 12) 12) k4) w6) * 31)]) ⟨hx, hb, hml, hown, hts⟩ (mX3_to l D cy b u 0 pz k4 w6 k6 (by omega)) (cwV 2 hts gX3_digest_X3_to rfl rfl rfl (by decide +kernel) ⟨Nat.le_of_ble_eq_true rfl, Nat.le_of_ble_eq_true rfl⟩) ⟨fun a U g mk q => ⟨q.1, q.2.1, va_K.moved (u := U) (U := U.calling g mk a) (Vm.Alike.refl U.vm) q.2.2⟩, va_recv hK hP (ci := 3) (q0 := 0) rfl rfl, fun U hU hW => ⟨rfl, by rw [hU]; exact hP, va_K.moved hW.alike hK⟩⟩ rfl rfl hl.1 rfl (lv_room (Nat.le_of_ble_eq_true rfl)) dX3_digest_154 ⟨Nat.le_of_ble_eq_true rfl, Nat.le_of_ble_eq_true rfl⟩) (fun r9 hr9 => ?_)
                                subst hr9
                                refine lv_i2l (v := (mtF (ul u) (uz u) (ut u) k4 w6).toInt64) hx hb dX3_digest_157 rfl ?_
                                refine lv_ladd hx hb dX3_digest_158 ?_
                                refine lv_lstore_n (lv' := [(1, .long (((dgN (mtF (ul u) (uz u) (ut u) k4) (dgCs u (dgN (wea u) (dg2 (factH (uh u)) (dgN (cntOf u) 947 8) 12) 12) k4) w6) * 31) + ((mtF (ul u) (uz u) (ut u) k4 w6).toInt64))), (0, .ref (b 0)), (3, .int (nI k4)), (4, .int (nI w6))]) hx hb dX3_digest_159 rfl hl (by decide) rfl (fun ls hl => ?_)
                                refine lv_iinc (v := nI (w6 + 1)) (lv' := [(4, .int (nI (w6 + 1))), (1, .long (((dgN (mtF (ul u) (uz u) (ut u) k4) (dgCs u (dgN (wea u) (dg2 (factH (uh u)) (dgN (cntOf u) 947 8) 12) 12) k4) w6) * 31) + ((mtF (ul u) (uz u) (ut u) k4 w6).toInt64))), (0, .ref (b 0)), (3, .int (nI k4))]) hx hb dX3_digest_160 hl (k := 3) rfl ((show (nI w6) + Int32.ofInt 1 = (nI w6) + 1 from rfl).trans (show (nI w6) + 1 = nI (w6 + 1) from nI_add w6 1)) (by decide) rfl (fun ls hl => ?_)
                                refine lv_goto (tgt := 132) hx hb dX3_digest_163 (by decide) ?_
                                exact ih132 (w6 + 1) (by omega) (by omega) ls (lv_sub hl [2, 1, 3, 0] rfl)
                          exact loop132 (2 + uz u k4 + 1) 0 (Nat.zero_le _) (by omega) ls (lv_sub hl [1, 2, 3, 0] rfl)
                    exact loop121 (un u + 1) 0 (Nat.zero_le _) (by omega) ls (lv_sub hl [1, 2, 0] rfl)
                  · have n86 : ¬ (12 ≤ k3) := fun h9 => c86 ((nI_leI (a := 12) (b := k3) (by omega) (by omega)).mpr h9)
                    refine lv_lload_n hx hb dX3_digest_89 rfl (lv_at hl 1 rfl) ?_
                    refine lv_ldc2 (v := 31) hx hb hown (hts _ kX3_digest_3) dX3_digest_90 ?_
                    refine lv_lmul hx hb dX3_digest_93 ?_
                    refine lv_bipush (v := 10) hx hb dX3_digest_94 (by decide) ?_
                    refine lv_aload_n hx hb dX3_digest_96 rfl (lv_at hl 0 rfl) ?_
                    refine va_get (D := D) (ci := 3) (v := .ref (b 3)) (C := RX3) (T := TX3) (N := 8) hx hb hts inX3_digest_RX3 hown hK hP 0 rfl rfl 4 (by decide) (hts _ kX3_digest_4) (fun _ h9 => h9) rfl dX3_digest_97 ?_
                    refine lv_iload_n hx hb dX3_digest_100 rfl (lv_at hl 2 rfl) ?_
                    refine pc_iald hx hb hK hP 3 0 rfl rfl (k := k3) (show k3 < 12 by omega) (by decide) dX3_digest_101 ?_
                    refine lv_imul hx hb dX3_digest_102 ?_
                    refine lv_aload_n hx hb dX3_digest_103 rfl (lv_at hl 0 rfl) ?_
                    refine va_get (D := D) (ci := 3) (v := .ref (b 4)) (C := RX3) (T := TX3) (N := 8) hx hb hts inX3_digest_RX3 hown hK hP 0 rfl rfl 5 (by decide) (hts _ kX3_digest_5) (fun _ h9 => h9) rfl dX3_digest_104 ?_
                    refine lv_iload_n hx hb dX3_digest_107 rfl (lv_at hl 2 rfl) ?_
                    refine pc_iald hx hb hK hP 4 0 rfl rfl (k := k3) (show k3 < 12 by omega) (by decide) dX3_digest_108 ?_
                    refine lv_iadd hx hb dX3_digest_109 ?_
                    refine pc_top (show (10 * ((uw u) k3)) + ((ud u) k3) = wea u k3 from rfl) ?_
                    refine lv_i2l (v := (wea u k3).toInt64) hx hb dX3_digest_110 rfl ?_
                    refine lv_ladd hx hb dX3_digest_111 ?_
                    refine lv_lstore_n (lv' := [(1, .long (((dgN (wea u) (dg2 (factH (uh u)) (dgN (cntOf u) 947 8) 12) k3) * 31) + ((wea u k3).toInt64))), (0, .ref (b 0)), (3, .int (nI k3))]) hx hb dX3_digest_112 rfl hl (by decide) rfl (fun ls hl => ?_)
                    refine lv_iinc (v := nI (k3 + 1)) (lv' := [(3, .int (nI (k3 + 1))), (1, .long (((dgN (wea u) (dg2 (factH (uh u)) (dgN (cntOf u) 947 8) 12) k3) * 31) + ((wea u k3).toInt64))), (0, .ref (b 0))]) hx hb dX3_digest_113 hl (k := 2) rfl ((show (nI k3) + Int32.ofInt 1 = (nI k3) + 1 from rfl).trans (show (nI k3) + 1 = nI (k3 + 1) from nI_add k3 1)) (by decide) rfl (fun ls hl => ?_)
                    refine lv_goto (tgt := 83) hx hb dX3_digest_116 (by decide) ?_
                    exact ih83 (k3 + 1) (by omega) (by omega) ls (lv_sub hl [2, 1, 0] rfl)
              exact loop83 (12 + 1) 0 (by decide) (by omega) ls (lv_sub hl [1, 2, 0] rfl)
            · have n41 : ¬ (12 ≤ k2) := fun h9 => c41 ((nI_leI (a := 12) (b := k2) (by omega) (by omega)).mpr h9)
              refine lv_iconst (v := 0) hx hb dX3_digest_44 (by decide) ?_
              refine lv_istore (lv' := [(4, .int 0), (0, .ref (b 0)), (1, .long (dg2 (factH (uh u)) (dgN (cntOf u) 947 8) k2)), (3, .int (nI k2))]) hx hb dX3_digest_45 hl (by decide) rfl (fun ls hl => ?_)
              have loop47 : ∀ (n9 : Nat) (w : Nat), w ≤ 7 → 7 - w < n9 → ∀ ls : Array Slot, lv_has ls 5 [(0, .ref (b 0)), (1, .long (dgN (factH (uh u) k2) (dg2 (factH (uh u)) (dgN (cntOf u) 947 8) k2) w)), (3, .int (nI k2)), (4, .int (nI w))] → W p l e (headSpec wsX3_digest ({ frames := 7, cells := 0, slots := 0, locals := 170 } : Room)).room s m ([.ref (b 0)] : List Value).toArray below meth c H locs 0 0 (MQ below (va_Ql (fun (r8 : Int64) (u9 : US) => ((0 : Nat) = 0 → r8 = digU u ∧ u9 = u) ∧ (¬ (0 : Nat) = 0 → u9 = u)) (fun (u9 : US) t => va_P D vwCl (wM cy b u9 (nI ((0 : Nat))) pz) t.heap ∧ va_D A (wM cy b u9 (nI ((0 : Nat))) pz)) A) ([.ref (b 0)] : List Value).toArray s 0 0 A) (F0 m 47 ls []) := by
                intro n9
                induction n9 with
                | zero => intro w hw h9 ls hl; exact absurd h9 (by omega)
                | succ n9 ih47 =>
                  intro w hw h9 ls hl
                  refine lv_iload hx hb dX3_digest_47 (lv_at hl 3 rfl) ?_
                  refine lv_bipush (v := 7) hx hb dX3_digest_49 (by decide) ?_
                  refine lv_icmp_ge (tgt := 75) hx hb dX3_digest_51 (by decide) (fun c51 => ?_) (fun c51 => ?_)
                  · have n51 : 7 ≤ w := (nI_leI (a := 7) (b := w) (by omega) (by omega)).mp c51
                    rw [show w = 7 by omega] at hl
                    have hl : lv_has ls 5 [(0, .ref (b 0)), (1, .long (dg2 (factH (uh u)) (dgN (cntOf u) 947 8) (k2 + 1))), (3, .int (nI k2)), (4, .int (nI 7))] := hl
                    refine lv_iinc (v := nI (k2 + 1)) (lv' := [(3, .int (nI (k2 + 1))), (0, .ref (b 0)), (1, .long (dg2 (factH (uh u)) (dgN (cntOf u) 947 8) (k2 + 1))), (4, .int (nI 7))]) hx hb dX3_digest_75 hl (k := 2) rfl ((show (nI k2) + Int32.ofInt 1 = (nI k2) + 1 from rfl).trans (show (nI k2) + 1 = nI (k2 + 1) from nI_add k2 1)) (by decide) rfl (fun ls hl => ?_)
                    refine lv_goto (tgt := 38) hx hb dX3_digest_78 (by decide) ?_
                    exact ih38 (k2 + 1) (by omega) (by omega) ls (lv_sub hl [1, 2, 0] rfl)
                  · have n51 : ¬ (7 ≤ w) := fun h9 => c51 ((nI_leI (a := 7) (b := w) (by omega) (by omega)).mpr h9)
                    refine lv_lload_n hx hb dX3_digest_54 rfl (lv_at hl 1 rfl) ?_
                    refine lv_ldc2 (v := 31) hx hb hown (hts _ kX3_digest_3) dX3_digest_55 ?_
                    refine lv_lmul hx hb dX3_digest_58 ?_
                    refine lv_aload_n hx hb dX3_digest_59 rfl (lv_at hl 0 rfl) ?_
                    refine lv_iload_n hx hb dX3_digest_60 rfl (lv_at hl 2 rfl) ?_
                    refine lv_iload hx hb dX3_digest_61 (lv_at hl 3 rfl) ?_
                    refine pc_calli (va_runV (As := [.int (nI k2), .int (nI w)]) (rest := [.long ((dgN (factH (uh u) k2) (dg2 (factH (uh u)) (dgN (cntOf u) 947 8) k2) w) * 31)]) ⟨hx, hb, hml, hown, hts⟩ (mX3_stringTold l D cy b u 0 k2 (by omega) w (by omega)) (cwV 2 hts gX3_digest_X3_stringTold rfl rfl rfl (by decide +kernel) ⟨Nat.le_of_ble_eq_true rfl, Nat.le_of_ble_eq_true rfl⟩) ⟨fun a U g mk q => ⟨q.1, q.2.1, va_K.moved (u := U) (U := U.calling g mk a) (Vm.Alike.refl U.vm) q.2.2⟩, va_recv hK hP (ci := 3) (q0 := 0) rfl rfl, fun U hU hW => ⟨rfl, by rw [hU]; exact hP, va_K.moved hW.alike hK⟩⟩ rfl rfl hl.1 rfl (lv_room (Nat.le_of_ble_eq_true rfl)) dX3_digest_63 ⟨Nat.le_of_ble_eq_true rfl, Nat.le_of_ble_eq_true rfl⟩) (fun r9 hr9 => ?_)
                    subst hr9
                    refine lv_i2l (v := (factH (uh u) k2 w).toInt64) hx hb dX3_digest_66 rfl ?_
                    refine lv_ladd hx hb dX3_digest_67 ?_
                    refine lv_lstore_n (lv' := [(1, .long (((dgN (factH (uh u) k2) (dg2 (factH (uh u)) (dgN (cntOf u) 947 8) k2) w) * 31) + ((factH (uh u) k2 w).toInt64))), (0, .ref (b 0)), (3, .int (nI k2)), (4, .int (nI w))]) hx hb dX3_digest_68 rfl hl (by decide) rfl (fun ls hl => ?_)
                    refine lv_iinc (v := nI (w + 1)) (lv' := [(4, .int (nI (w + 1))), (1, .long (((dgN (factH (uh u) k2) (dg2 (factH (uh u)) (dgN (cntOf u) 947 8) k2) w) * 31) + ((factH (uh u) k2 w).toInt64))), (0, .ref (b 0)), (3, .int (nI k2))]) hx hb dX3_digest_69 hl (k := 3) rfl ((show (nI w) + Int32.ofInt 1 = (nI w) + 1 from rfl).trans (show (nI w) + 1 = nI (w + 1) from nI_add w 1)) (by decide) rfl (fun ls hl => ?_)
                    refine lv_goto (tgt := 47) hx hb dX3_digest_72 (by decide) ?_
                    exact ih47 (w + 1) (by omega) (by omega) ls (lv_sub hl [2, 1, 3, 0] rfl)
              exact loop47 (7 + 1) 0 (by decide) (by omega) ls (lv_sub hl [1, 2, 3, 0] rfl)
        exact loop38 (12 + 1) 0 (by decide) (by omega) ls (lv_sub hl [1, 2, 0] rfl)
      · have n14 : ¬ (8 ≤ k) := fun h9 => c14 ((nI_leI (a := 8) (b := k) (by omega) (by omega)).mpr h9)
        refine lv_lload_n hx hb dX3_digest_17 rfl (lv_at hl 1 rfl) ?_
        refine lv_ldc2 (v := 31) hx hb hown (hts _ kX3_digest_3) dX3_digest_18 ?_
        refine lv_lmul hx hb dX3_digest_21 ?_
        refine lv_aload_n hx hb dX3_digest_22 rfl (lv_at hl 0 rfl) ?_
        refine lv_iload_n hx hb dX3_digest_23 rfl (lv_at hl 2 rfl) ?_
        refine pc_calli (va_runV (As := [.int (nI k)]) (rest := [.long ((dgN (cntOf u) 947 k) * 31)]) ⟨hx, hb, hml, hown, hts⟩ (mX3_counted l D cy b u 0 hu k (by omega)) (cwV 1 hts gX3_digest_X3_counted rfl rfl rfl (by decide +kernel) ⟨Nat.le_of_ble_eq_true rfl, Nat.le_of_ble_eq_true rfl⟩) ⟨fun a U g mk q => ⟨q.1, q.2.1, va_K.moved (u := U) (U := U.calling g mk a) (Vm.Alike.refl U.vm) q.2.2⟩, va_recv hK hP (ci := 3) (q0 := 0) rfl rfl, fun U hU hW => ⟨rfl, by rw [hU]; exact hP, va_K.moved hW.alike hK⟩⟩ rfl rfl hl.1 rfl (lv_room (Nat.le_of_ble_eq_true rfl)) dX3_digest_24 ⟨Nat.le_of_ble_eq_true rfl, Nat.le_of_ble_eq_true rfl⟩) (fun r9 hr9 => ?_)
        subst hr9
        refine lv_i2l (v := (cntOf u k).toInt64) hx hb dX3_digest_27 rfl ?_
        refine lv_ladd hx hb dX3_digest_28 ?_
        refine lv_lstore_n (lv' := [(1, .long (((dgN (cntOf u) 947 k) * 31) + ((cntOf u k).toInt64))), (0, .ref (b 0)), (3, .int (nI k))]) hx hb dX3_digest_29 rfl hl (by decide) rfl (fun ls hl => ?_)
        refine lv_iinc (v := nI (k + 1)) (lv' := [(3, .int (nI (k + 1))), (1, .long (((dgN (cntOf u) 947 k) * 31) + ((cntOf u k).toInt64))), (0, .ref (b 0))]) hx hb dX3_digest_30 hl (k := 2) rfl ((show (nI k) + Int32.ofInt 1 = (nI k) + 1 from rfl).trans (show (nI k) + 1 = nI (k + 1) from nI_add k 1)) (by decide) rfl (fun ls hl => ?_)
        refine lv_goto (tgt := 11) hx hb dX3_digest_33 (by decide) ?_
        exact ih11 (k + 1) (by omega) (by omega) ls (lv_sub hl [2, 1, 0] rfl)
  exact loop11 (8 + 1) 0 (by decide) (by omega) ls (lv_sub hl [2, 1, 0] rfl)

