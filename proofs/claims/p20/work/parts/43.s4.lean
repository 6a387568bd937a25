theorem and_nat (v : Int32) : ∃ w : Nat, w < 2147483648 ∧ v &&& 2147483647 = nI w := by
  refine ⟨(v &&& 2147483647).toBitVec.toNat, ?_, ?_⟩
  · show (v.toBitVec &&& (2147483647 : Int32).toBitVec).toNat < 2147483648
    rw [BitVec.toNat_and]
    exact Nat.lt_of_le_of_lt Nat.and_le_right (by decide)
  · apply Int32.toBitVec_inj.1
    show (v &&& 2147483647).toBitVec = BitVec.ofNat 32 ((v &&& 2147483647).toBitVec.toNat)
    simp
theorem nI_ne {n : Nat} (h1 : 0 < n) (h2 : n < 2147483648) : ¬ nI n = 0 := fun e => by
  have := (nI_eq (a := n) (b := 0) (by omega) (by decide)).mp (e.trans nI_0.symm)
  omega
theorem kL_below_0 : (.constant RL 7 (2147483647) : Cond) ∈ wsL_below := by decide +kernel
set_option maxHeartbeats 4000000 in
set_option maxRecDepth 100000 in
theorem mL_below (l : Launch) (D : va_G) (cy : Nat → ClassId) (v : Int32) (n : Nat) (hn : 0 < n) (hn2 : n < 2147483648) : Met l yL_below wsL_below ({ frames := 0, cells := 0, slots := 0, locals := 0 } : Room) (va_Pc [.int v, .int (nI n)] (fun _ => True)) (vp_Si (fun r8 => ∃ k : Nat, k < n ∧ r8 = nI k)) 0 0 (fun _ => False) := by
  refine Met.ofW (cc := cL_below) (maxL := 2) (ret := (some .int)) (by decide) rfl ?_
  intro p e s m args below meth c s₁ B hml hv
  obtain ⟨rfl, -⟩ := hv
  have hx := B.exec
  have hb := B.bytes
  have hr := B.returns
  have hts := atoms_spec (ws := wsL_below) B.pre
  have hown : s.vm.findClass RL = some m.cls := findClass_of_methodNamed B.named
  have hlocks := B.notSynchronized
  have hl := lv_entry ([.int v, .int (nI n)]) (n := 2) (Nat.le_of_ble_eq_true rfl)
  rw [lg_entry_eq]
  generalize (lg_sl ([.int v, .int (nI n)]) ++ List.replicate (2 - (lg_sl ([.int v, .int (nI n)])).length) Slot.unset).toArray = ls at hl ⊢
  have hl : lv_has ls 2 [(0, .int v), (1, .int (nI n))] := hl
  refine lv_iload_n hx hb dL_below_0 rfl (lv_at hl 0 rfl) ?_
  refine lv_ldc (v := 2147483647) hx hb hown (hts _ kL_below_0) dL_below_1 ?_
  refine lv_iand hx hb dL_below_3 ?_
  obtain ⟨w9, hw9, ew9⟩ := and_nat v
  refine pc_top (show v &&& 2147483647 = nI w9 from ew9) ?_
  refine lv_iload_n hx hb dL_below_4 rfl (lv_at hl 1 rfl) ?_
  refine lv_irem hx hb dL_below_5 (nI_ne hn hn2) ?_
  refine pc_top (show (nI w9) - (nI w9) / (nI n) * (nI n) = nI (w9 % n) from (pk_rem (by omega) hn (by omega))) ?_
  exact W.iret (v := nI (w9 % n)) hx hb hr (fun t ht hW => ⟨nI (w9 % n), rfl, ⟨w9 % n, Nat.mod_lt _ hn, rfl⟩, ht⟩) (fun q hq => absurd hq List.not_mem_nil) dL_below_6

theorem kL_cell_0 : (.constant RL 8 (790386105) : Cond) ∈ wsL_cell := by decide +kernel
set_option maxHeartbeats 4000000 in
set_option maxRecDepth 100000 in
theorem mL_cell (l : Launch) (D : va_G) (cy : Nat → ClassId) (b0 L : Nat) (xs : Nat → Int32) (hL : L < 2147483648) (k : Nat) (hk : k < 2147483648) : Met l yL_cell wsL_cell ({ frames := 0, cells := 0, slots := 0, locals := 0 } : Room) (va_Pc [.ref b0, .int (nI k)] (fun U => va_X b0 L xs U U.heap ∧ b0 < U.heap.size)) (vp_Si (fun r8 => True)) 0 0 (fun _ => False) := by
  refine Met.ofW (cc := cL_cell) (maxL := 2) (ret := (some .int)) (by decide) rfl ?_
  intro p e s m args below meth c s₁ B hml hv
  obtain ⟨rfl, hX, hbl⟩ := hv
  have hx := B.exec
  have hb := B.bytes
  have hr := B.returns
  have hts := atoms_spec (ws := wsL_cell) B.pre
  have hown : s.vm.findClass RL = some m.cls := findClass_of_methodNamed B.named
  have hlocks := B.notSynchronized
  have hl := lv_entry ([.ref b0, .int (nI k)]) (n := 2) (Nat.le_of_ble_eq_true rfl)
  rw [lg_entry_eq]
  generalize (lg_sl ([.ref b0, .int (nI k)]) ++ List.replicate (2 - (lg_sl ([.ref b0, .int (nI k)])).length) Slot.unset).toArray = ls at hl ⊢
  have hl : lv_has ls 2 [(0, .ref b0), (1, .int (nI k))] := hl
  refine lv_iload_n hx hb dL_cell_0 rfl (lv_at hl 1 rfl) ?_
  refine lv_aload_n hx hb dL_cell_1 rfl (lv_at hl 0 rfl) ?_
  refine va_slen (A := fun _ => False) hx hb hX hbl (fun z => z) va_S.rf dL_cell_2 ?_
  refine pc_top (show Int32.ofNat L = nI L from rfl) ?_
  refine lv_icmp_ge (tgt := 12) hx hb dL_cell_3 (by decide) (fun c3 => ?_) (fun c3 => ?_)
  · have n3 : L ≤ k := (nI_leI (a := L) (b := k) (by omega) (by omega)).mp c3
    refine lv_ldc (v := 790386105) hx hb hown (hts _ kL_cell_0) dL_cell_12 ?_
    refine lv_iload_n hx hb dL_cell_14 rfl (lv_at hl 1 rfl) ?_
    refine lv_iconst (v := 3) hx hb dL_cell_15 (by decide) ?_
    refine lv_iadd hx hb dL_cell_16 ?_
    refine pc_top (show (nI k) + 3 = nI (k + 3) from nI_add k 3) ?_
    refine lv_imul hx hb dL_cell_17 ?_
    refine pc_top (show 790386105 * (nI (k + 3)) = nI (790386105 * (k + 3)) from pk_mul 790386105 (k + 3)) ?_
    exact W.iret (v := nI (790386105 * (k + 3))) hx hb hr (fun t ht hW => ⟨nI (790386105 * (k + 3)), rfl, trivial, ht⟩) (fun q hq => absurd hq List.not_mem_nil) dL_cell_18
  · have n3 : ¬ (L ≤ k) := fun h9 => c3 ((nI_leI (a := L) (b := k) (by omega) (by omega)).mpr h9)
    refine lv_aload_n hx hb dL_cell_6 rfl (lv_at hl 0 rfl) ?_
    refine lv_iload_n hx hb dL_cell_7 rfl (lv_at hl 1 rfl) ?_
    refine va_sld (A := fun _ => False) hx hb hX hbl (fun z => z) va_S.rf (vp_in_nI (show k < L by omega) (by omega)) dL_cell_8 ?_
    refine lv_goto (tgt := 18) hx hb dL_cell_9 (by decide) ?_
    exact W.iret (v := xs (nI k).toNatClampNeg) hx hb hr (fun t ht hW => ⟨xs (nI k).toNatClampNeg, rfl, trivial, ht⟩) (fun q hq => absurd hq List.not_mem_nil) dL_cell_18

