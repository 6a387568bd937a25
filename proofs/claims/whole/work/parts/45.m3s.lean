theorem inX3_steps_RX3 : ∀ w ∈ u_ws RX3 TX3 8, w ∈ wsX3_steps := by decide +kernel
theorem kX3_steps_0 : (.fieldLink RX3 32 "WedgeHarpsModel" "thrown" "I" : Cond) ∈ wsX3_steps := by decide +kernel
theorem kX3_steps_1 : (.fieldLink RX3 25 "WedgeHarpsModel" "pushed" "[I" : Cond) ∈ wsX3_steps := by decide +kernel
theorem kX3_steps_2 : (.methodLink RX3 73 Lib.Math.abs.name : Cond) ∈ wsX3_steps := by decide +kernel
theorem kX3_steps_3 : (.static Lib.Math.abs.name : Cond) ∈ wsX3_steps := by decide +kernel
theorem kX3_steps_4 : (.initialized "java/lang/Math" : Cond) ∈ wsX3_steps := by decide +kernel
theorem kX3_steps_5 : (.code Lib.Math.abs.name Lib.Math.abs.code 1 (some .int) : Cond) ∈ wsX3_steps := by decide +kernel
set_option maxHeartbeats 4000000 in
set_option maxRecDepth 100000 in
theorem mX3_steps (l : Launch) (D : va_G) (cy : Nat → ClassId) (sz : Nat) (b : Nat → Nat) (u : US) (th : Int32) (hu : uOk u) (cv : Int32) : Met l yX3_steps wsX3_steps ({ frames := 7, cells := 0, slots := 0, locals := 170 } : Room) (va_Pc [.ref (b 0), .int cv] (fun U => U.heap.size = sz ∧ va_P D vwCl (wM cy b u th pz) U.heap ∧ va_K D vwCl (TY cy) U ∧ va_D (fun _ => True) (wM cy b u th pz))) (va_Qi (fun (r8 : Int32) (u9 : US) => (exC u cv = 0 → r8 = fewS u (ix cv) ∧ u9 = u) ∧ (¬ exC u cv = 0 → u9 = u)) (fun (u9 : US) t => va_P D vwCl (wM cy b u9 (nI (exC u cv)) pz) t.heap ∧ va_D (va_A (wM cy b u th pz) sz) (wM cy b u9 (nI (exC u cv)) pz)) (va_A (wM cy b u th pz) sz)) 0 0 (va_A (wM cy b u th pz) sz) := by
  refine Met.ofW (cc := cX3_steps) (maxL := 11) (ret := (some .int)) (by decide) rfl ?_
  intro p e s m args below meth c s₁ B hml hv
  obtain ⟨rfl, hsz, hP, hK, hD0⟩ := hv
  have hx := B.exec
  have hb := B.bytes
  have hr := B.returns
  have hts := atoms_spec (ws := wsX3_steps) B.pre
  have hown : s.vm.findClass RX3 = some m.cls := findClass_of_methodNamed B.named
  have hlocks := B.notSynchronized
  have hl := lv_entry ([.ref (b 0), .int cv]) (n := 11) (Nat.le_of_ble_eq_true rfl)
  rw [lg_entry_eq]
  generalize (lg_sl ([.ref (b 0), .int cv]) ++ List.replicate (11 - (lg_sl ([.ref (b 0), .int cv])).length) Slot.unset).toArray = ls at hl ⊢
  have hl : lv_has ls 11 [(0, .ref (b 0)), (1, .int cv)] := hl
  subst hsz
  have hD := hD0.self (sz := s.heap.size)
  generalize hAe : va_A (wM cy b u th pz) s.heap.size = A at hD ⊢
  have hA : ∀ q : Nat, s.heap.size ≤ q → A q := fun q h => by rw [← hAe]; exact Or.inr h
  have hS : va_S A s.heap s.heap [] := va_S.rf
  have hP : va_P D vwCl (wM cy b u th pz) s.heap := hP
  refine lv_aload_n hx hb dX3_steps_0 rfl (lv_at hl 0 rfl) ?_
  refine lv_iconst (v := 0) hx hb dX3_steps_1 (by decide) ?_
  refine va_put (D := D) (ci := 3) (v := .int 0) (ty := .int) (C := RX3) (T := TX3) (N := 8) hx hb hts inX3_steps_RX3 tyX3 tyX3_ok nmX3 hown hK hP hD hS 0 rfl rfl 0 (by decide) (hts _ kX3_steps_0) (fun _ h9 => h9) rfl (by decide +kernel) rfl rfl (Nat.le_of_ble_eq_true rfl) dX3_steps_2 (fun H locs hP hD hS => ?_)
  have hP : va_P D vwCl [(b 0, .inr (3, [.int 0, .ref (b 1), .int (nI (un u)), .ref (b 2), .ref (b 3), .ref (b 4), .ref (b 5), .ref (b 6)])), (b 1, .inl ((cy 0), 72, .inl (mh (uh u)))), (b 2, .inl ((cy 0), 36, .inl (mt (ul u) (uz u) (ut u)))), (b 3, .inl ((cy 0), 12, .inl (uw u))), (b 4, .inl ((cy 0), 12, .inl (ud u))), (b 5, .inl ((cy 0), 2, .inl (mb (uh u)))), (b 6, .inl ((cy 0), 12, .inl pz))] H := hP
  have hD : va_D A [(b 0, .inr (3, [.int 0, .ref (b 1), .int (nI (un u)), .ref (b 2), .ref (b 3), .ref (b 4), .ref (b 5), .ref (b 6)])), (b 1, .inl ((cy 0), 72, .inl (mh (uh u)))), (b 2, .inl ((cy 0), 36, .inl (mt (ul u) (uz u) (ut u)))), (b 3, .inl ((cy 0), 12, .inl (uw u))), (b 4, .inl ((cy 0), 12, .inl (ud u))), (b 5, .inl ((cy 0), 2, .inl (mb (uh u)))), (b 6, .inl ((cy 0), 12, .inl pz))] := hD
  have hP : va_P D vwCl (wM cy b u 0 pz) H := hP
  have hD : va_D A (wM cy b u 0 pz) := hD
  refine lv_aload_n hx hb dX3_steps_5 rfl (lv_at hl 0 rfl) ?_
  refine lv_iload_n hx hb dX3_steps_6 rfl (lv_at hl 1 rfl) ?_
  refine pc_calli (va_runV (As := [.int cv]) (rest := []) ⟨hx, hb, hml, hown, hts⟩ (mX3_isChord l D cy b u 0 pz hu cv) (cwV 1 hts gX3_steps_X3_isChord rfl rfl rfl (by decide +kernel) ⟨Nat.le_of_ble_eq_true rfl, Nat.le_of_ble_eq_true rfl⟩) ⟨fun a U g mk q => ⟨q.1, q.2.1, va_K.moved (u := U) (U := U.calling g mk a) (Vm.Alike.refl U.vm) q.2.2⟩, va_recv hK hP (ci := 3) (q0 := 0) rfl rfl, fun U hU hW => ⟨rfl, by rw [hU]; exact hP, va_K.moved hW.alike hK⟩⟩ rfl rfl hl.1 rfl (lv_room (Nat.le_of_ble_eq_true rfl)) dX3_steps_7 ⟨Nat.le_of_ble_eq_true rfl, Nat.le_of_ble_eq_true rfl⟩) (fun r9 hr9 => ?_)
  subst hr9
  refine lv_if_ne (tgt := 19) hx hb dX3_steps_10 (by decide) (fun c10 => ?_) (fun c10 => ?_)
  · obtain ⟨j, hj, rfl⟩ := isC_nat hu.2.1 (bI_1.mp c10)
    have h6 : j < 6 := Nat.lt_of_lt_of_le hj hu.2.1
    have ej : ix (nI j) = j := ix_nI (show j < 2147483648 by omega)
    have hc9 := hu.2.2.1 j h6
    have h2z := hu.2.2.2.1 j hj
    have h9q : 0 < 9 ^ uz u j := Nat.pow_pos (by decide)
    have h9p : 9 ^ uz u j ≤ 6561 := Nat.pow_le_pow_right (by decide) hc9.2
    refine lv_aload_n hx hb dX3_steps_19 rfl (lv_at hl 0 rfl) ?_
    refine lv_iload_n hx hb dX3_steps_20 rfl (lv_at hl 1 rfl) ?_
    refine lv_iconst (v := 1) hx hb dX3_steps_21 (by decide) ?_
    refine pc_calli (va_runV (As := [.int (nI j), .int 1]) (rest := []) ⟨hx, hb, hml, hown, hts⟩ (mX3_to l D cy b u 0 pz j 1 h6 (by decide)) (cwV 2 hts gX3_steps_X3_to rfl rfl rfl (by decide +kernel) ⟨Nat.le_of_ble_eq_true rfl, Nat.le_of_ble_eq_true rfl⟩) ⟨fun a U g mk q => ⟨q.1, q.2.1, va_K.moved (u := U) (U := U.calling g mk a) (Vm.Alike.refl U.vm) q.2.2⟩, va_recv hK hP (ci := 3) (q0 := 0) rfl rfl, fun U hU hW => ⟨rfl, by rw [hU]; exact hP, va_K.moved hW.alike hK⟩⟩ rfl rfl hl.1 rfl (lv_room (Nat.le_of_ble_eq_true rfl)) dX3_steps_22 ⟨Nat.le_of_ble_eq_true rfl, Nat.le_of_ble_eq_true rfl⟩) (fun r9 hr9 => ?_)
    subst hr9
    refine pc_top (show mtF (ul u) (uz u) (ut u) j 1 = nI (uz u j) from rfl) ?_
    refine lv_istore_n (lv' := [(2, .int (nI (uz u j))), (0, .ref (b 0)), (1, .int (nI j))]) hx hb dX3_steps_25 rfl hl (by decide) rfl (fun ls hl => ?_)
    refine lv_iconst (v := 1) hx hb dX3_steps_26 (by decide) ?_
    refine lv_istore_n (lv' := [(3, .int 1), (2, .int (nI (uz u j))), (0, .ref (b 0)), (1, .int (nI j))]) hx hb dX3_steps_27 rfl hl (by decide) rfl (fun ls hl => ?_)
    refine lv_iconst (v := 0) hx hb dX3_steps_28 (by decide) ?_
    refine lv_istore (lv' := [(4, .int 0), (3, .int 1), (2, .int (nI (uz u j))), (0, .ref (b 0)), (1, .int (nI j))]) hx hb dX3_steps_29 hl (by decide) rfl (fun ls hl => ?_)
    have loop31 : ∀ (n9 : Nat) (k : Nat), k ≤ uz u j → uz u j - k < n9 → ∀ (H : Heap) (locs : List Loc), va_P D vwCl (wM cy b u 0 pz) H → va_D A (wM cy b u 0 pz) → va_S A s.heap H locs → ∀ ls : Array Slot, lv_has ls 11 [(0, .ref (b 0)), (1, .int (nI j)), (2, .int (nI (uz u j))), (3, .int (nI (9 ^ k))), (4, .int (nI k))] → W p l e (headSpec wsX3_steps ({ frames := 7, cells := 0, slots := 0, locals := 170 } : Room)).room s m ([.ref (b 0), .int (nI j)] : List Value).toArray below meth c H locs 0 0 (MQ below (va_Qi (fun (r8 : Int32) (u9 : US) => (exC u (nI j) = 0 → r8 = fewS u (ix (nI j)) ∧ u9 = u) ∧ (¬ exC u (nI j) = 0 → u9 = u)) (fun (u9 : US) t => va_P D vwCl (wM cy b u9 (nI (exC u (nI j))) pz) t.heap ∧ va_D A (wM cy b u9 (nI (exC u (nI j))) pz)) A) ([.ref (b 0), .int (nI j)] : List Value).toArray s 0 0 A) (F0 m 31 ls []) := by
      intro n9
      induction n9 with
      | zero => intro k hk h9 H locs hP hD hS ls hl; exact absurd h9 (by omega)
      | succ n9 ih31 =>
        intro k hk h9 H locs hP hD hS ls hl
        refine lv_iload hx hb dX3_steps_31 (lv_at hl 4 rfl) ?_
        refine lv_iload_n hx hb dX3_steps_33 rfl (lv_at hl 2 rfl) ?_
        refine lv_icmp_ge (tgt := 48) hx hb dX3_steps_34 (by decide) (fun c34 => ?_) (fun c34 => ?_)
        · have n34 : uz u j ≤ k := (nI_leI (a := uz u j) (b := k) (by omega) (by omega)).mp c34
          have r9 : nI (9 ^ k) = nI (9 ^ uz u j) := (by rw [show k = uz u j by omega])
          rw [r9] at hl
          clear r9
          refine lv_iconst (v := (-1)) hx hb dX3_steps_48 (by decide) ?_
          refine lv_istore (lv' := [(4, .int (-1)), (0, .ref (b 0)), (1, .int (nI j)), (2, .int (nI (uz u j))), (3, .int (nI (9 ^ uz u j)))]) hx hb dX3_steps_49 hl (by decide) rfl (fun ls hl => ?_)
          refine lv_iconst (v := 0) hx hb dX3_steps_51 (by decide) ?_
          refine lv_istore (lv' := [(5, .int 0), (4, .int (-1)), (0, .ref (b 0)), (1, .int (nI j)), (2, .int (nI (uz u j))), (3, .int (nI (9 ^ uz u j)))]) hx hb dX3_steps_52 hl (by decide) rfl (fun ls hl => ?_)
          have loop54 : ∀ (n9 : Nat) (n : Nat) (q1 : Nat → Int32), n ≤ 9 ^ uz u j → (∀ i, i < ul u j ∨ ul u j + uz u j ≤ i → q1 i = 0) → 9 ^ uz u j - n < n9 → ∀ (H : Heap) (locs : List Loc), va_P D vwCl (wM cy b u 0 q1) H → va_D A (wM cy b u 0 q1) → va_S A s.heap H locs → ∀ ls : Array Slot, lv_has ls 11 [(0, .ref (b 0)), (1, .int (nI j)), (2, .int (nI (uz u j))), (3, .int (nI (9 ^ uz u j))), (4, .int (enc (BM (uh u) (ul u j) (uz u j) (ut u j) n))), (5, .int (nI n))] → W p l e (headSpec wsX3_steps ({ frames := 7, cells := 0, slots := 0, locals := 170 } : Room)).room s m ([.ref (b 0), .int (nI j)] : List Value).toArray below meth c H locs 0 0 (MQ below (va_Qi (fun (r8 : Int32) (u9 : US) => (exC u (nI j) = 0 → r8 = fewS u (ix (nI j)) ∧ u9 = u) ∧ (¬ exC u (nI j) = 0 → u9 = u)) (fun (u9 : US) t => va_P D vwCl (wM cy b u9 (nI (exC u (nI j))) pz) t.heap ∧ va_D A (wM cy b u9 (nI (exC u (nI j))) pz)) A) ([.ref (b 0), .int (nI j)] : List Value).toArray s 0 0 A) (F0 m 54 ls []) := by
            intro n9
            induction n9 with
            | zero => intro n q1 hn hq1 h9 H locs hP hD hS ls hl; exact absurd h9 (by omega)
            | succ n9 ih54 =>
              intro n q1 hn hq1 h9 H locs hP hD hS ls hl
              refine lv_iload hx hb dX3_steps_54 (lv_at hl 5 rfl) ?_
              refine lv_iload_n hx hb dX3_steps_56 rfl (lv_at hl 3 rfl) ?_
              refine lv_icmp_ge (tgt := 185) hx hb dX3_steps_57 (by decide) (fun c57 => ?_) (fun c57 => ?_)
              · have n57 : 9 ^ uz u j ≤ n := (nI_leI (a := 9 ^ uz u j) (b := n) (by omega) (by omega)).mp c57
                refine lv_iconst (v := 0) hx hb dX3_steps_185 (by decide) ?_
                refine lv_istore (lv' := [(5, .int 0), (0, .ref (b 0)), (1, .int (nI j)), (2, .int (nI (uz u j))), (3, .int (nI (9 ^ uz u j))), (4, .int (enc (BM (uh u) (ul u j) (uz u j) (ut u j) n)))]) hx hb dX3_steps_186 hl (by decide) rfl (fun ls hl => ?_)
                have loop188 : ∀ (n9 : Nat) (i : Nat) (q4 : Nat → Int32), i ≤ 12 → (∀ v, v < i → q4 v = 0) → 12 - i < n9 → ∀ (H : Heap) (locs : List Loc), va_P D vwCl (wM cy b u 0 q4) H → va_D A (wM cy b u 0 q4) → va_S A s.heap H locs → ∀ ls : Array Slot, lv_has ls 11 [(0, .ref (b 0)), (4, .int (enc (BM (uh u) (ul u j) (uz u j) (ut u j) n))), (5, .int (nI i))] → W p l e (headSpec wsX3_steps ({ frames := 7, cells := 0, slots := 0, locals := 170 } : Room)).room s m ([.ref (b 0), .int (nI j)] : List Value).toArray below meth c H locs 0 0 (MQ below (va_Qi (fun (r8 : Int32) (u9 : US) => (exC u (nI j) = 0 → r8 = fewS u (ix (nI j)) ∧ u9 = u) ∧ (¬ exC u (nI j) = 0 → u9 = u)) (fun (u9 : US) t => va_P D vwCl (wM cy b u9 (nI (exC u (nI j))) pz) t.heap ∧ va_D A (wM cy b u9 (nI (exC u (nI j))) pz)) A) ([.ref (b 0), .int (nI j)] : List Value).toArray s 0 0 A) (F0 m 188 ls []) := by
                  intro n9
                  induction n9 with
                  | zero => intro i q4 hi hq4 h9 H locs hP hD hS ls hl; exact absurd h9 (by omega)
                  | succ n9 ih188 =>
                    intro i q4 hi hq4 h9 H locs hP hD hS ls hl
                    refine lv_iload hx hb dX3_steps_188 (lv_at hl 2 rfl) ?_
                    refine lv_bipush (v := 12) hx hb dX3_steps_190 (by decide) ?_
                    refine lv_icmp_ge (tgt := 209) hx hb dX3_steps_192 (by decide) (fun c192 => ?_) (fun c192 => ?_)
                    · have n192 : 12 ≤ i := (nI_leI (a := 12) (b := i) (by omega) (by omega)).mp c192
                      have hP := va_P_row hP 6 rfl (g := pz) (fun v hv => hq4 v (by omega))
                      have hD := va_D_addr (ws' := [(b 0, .inr (3, [.int 0, .ref (b 1), .int (nI (un u)), .ref (b 2), .ref (b 3), .ref (b 4), .ref (b 5), .ref (b 6)])), (b 1, .inl ((cy 0), 72, .inl (mh (uh u)))), (b 2, .inl ((cy 0), 36, .inl (mt (ul u) (uz u) (ut u)))), (b 3, .inl ((cy 0), 12, .inl (uw u))), (b 4, .inl ((cy 0), 12, .inl (ud u))), (b 5, .inl ((cy 0), 2, .inl (mb (uh u)))), (b 6, .inl ((cy 0), 12, .inl pz))]) hD rfl
                      have hP : va_P D vwCl (wM cy b u 0 pz) H := hP
                      have hD : va_D A (wM cy b u 0 pz) := hD
                      refine lv_iload hx hb dX3_steps_209 (lv_at hl 1 rfl) ?_
                      have hex9 : exC u (nI j) = 0 := by simp [exC, bI_1.mp c10, c34, c57, c192]
                      have hP9 : va_P D vwCl (wM cy b u (nI (exC u (nI j))) pz) H := (by rw [hex9]; exact hP)
                      have hD9 : va_D A (wM cy b u (nI (exC u (nI j))) pz) := (by rw [hex9]; exact hD)
                      exact W.iret (v := enc (BM (uh u) (ul u j) (uz u j) (ut u j) n)) hx hb hr (fun t ht hW => ⟨⟨enc (BM (uh u) (ul u j) (uz u j) (ut u j) n), u, rfl, ⟨fun _ => ⟨by rw [ej, show n = 9 ^ uz u j by omega]; exact few_enc (by omega) hc9.2 hc9.1, rfl⟩, fun z => absurd hex9 z⟩, by rw [ht]; exact hP9, hD9⟩, hS.F ht⟩) hS.2.2 dX3_steps_211
                    · have n192 : ¬ (12 ≤ i) := fun h9 => c192 ((nI_leI (a := 12) (b := i) (by omega) (by omega)).mpr h9)
                      refine lv_aload_n hx hb dX3_steps_195 rfl (lv_at hl 0 rfl) ?_
                      refine va_get (D := D) (ci := 3) (v := .ref (b 6)) (C := RX3) (T := TX3) (N := 8) hx hb hts inX3_steps_RX3 hown hK hP 0 rfl rfl 7 (by decide) (hts _ kX3_steps_1) (fun _ h9 => h9) rfl dX3_steps_196 ?_
                      refine lv_iload hx hb dX3_steps_199 (lv_at hl 2 rfl) ?_
                      refine lv_iconst (v := 0) hx hb dX3_steps_201 (by decide) ?_
                      refine pc_iast hx hb hK hP hD hS 6 0 rfl rfl (k := i) (show i < 12 by omega) (by decide) dX3_steps_202 (fun H locs hP hD hS => ?_)
                      have hP : va_P D vwCl [(b 0, .inr (3, [.int 0, .ref (b 1), .int (nI (un u)), .ref (b 2), .ref (b 3), .ref (b 4), .ref (b 5), .ref (b 6)])), (b 1, .inl ((cy 0), 72, .inl (mh (uh u)))), (b 2, .inl ((cy 0), 36, .inl (mt (ul u) (uz u) (ut u)))), (b 3, .inl ((cy 0), 12, .inl (uw u))), (b 4, .inl ((cy 0), 12, .inl (ud u))), (b 5, .inl ((cy 0), 2, .inl (mb (uh u)))), (b 6, .inl ((cy 0), 12, .inl (upd q4 i 0)))] H := hP
                      have hD : va_D A [(b 0, .inr (3, [.int 0, .ref (b 1), .int (nI (un u)), .ref (b 2), .ref (b 3), .ref (b 4), .ref (b 5), .ref (b 6)])), (b 1, .inl ((cy 0), 72, .inl (mh (uh u)))), (b 2, .inl ((cy 0), 36, .inl (mt (ul u) (uz u) (ut u)))), (b 3, .inl ((cy 0), 12, .inl (uw u))), (b 4, .inl ((cy 0), 12, .inl (ud u))), (b 5, .inl ((cy 0), 2, .inl (mb (uh u)))), (b 6, .inl ((cy 0), 12, .inl (upd q4 i 0)))] := hD
                      refine lv_iinc (v := nI (i + 1)) (lv' := [(5, .int (nI (i + 1))), (0, .ref (b 0)), (4, .int (enc (BM (uh u) (ul u j) (uz u j) (ut u j) n)))]) hx hb dX3_steps_203 hl (k := 2) rfl ((show (nI i) + Int32.ofInt 1 = (nI i) + 1 from rfl).trans (show (nI i) + 1 = nI (i + 1) from nI_add i 1)) (by decide) rfl (fun ls hl => ?_)
                      refine lv_goto (tgt := 188) hx hb dX3_steps_206 (by decide) ?_
                      exact ih188 (i + 1) (upd q4 i 0) (by omega) (fun v hv => by rcases Nat.lt_succ_iff_lt_or_eq.mp hv with z | z; (rw [pk_un (by omega)]; exact hq4 v z); (subst z; exact pk_us)) (by omega) _ _ hP hD hS ls (lv_sub hl [1, 2, 0] rfl)
                exact loop188 (12 + 1) 0 q1 (by decide) (fun v hv => absurd hv (by omega)) (by omega) _ _ hP hD hS ls (lv_sub hl [1, 5, 0] rfl)
              · have n57 : ¬ (9 ^ uz u j ≤ n) := fun h9 => c57 ((nI_leI (a := 9 ^ uz u j) (b := n) (by omega) (by omega)).mpr h9)
                refine lv_iload hx hb dX3_steps_60 (lv_at hl 5 rfl) ?_
                refine pc_top (show nI n = nI (n / 9 ^ 0) from (by rw [Nat.pow_zero, Nat.div_one])) ?_
                refine lv_istore (lv' := [(6, .int (nI (n / 9 ^ 0))), (0, .ref (b 0)), (1, .int (nI j)), (2, .int (nI (uz u j))), (3, .int (nI (9 ^ uz u j))), (4, .int (enc (BM (uh u) (ul u j) (uz u j) (ut u j) n))), (5, .int (nI n))]) hx hb dX3_steps_62 hl (by decide) rfl (fun ls hl => ?_)
                refine lv_iconst (v := 0) hx hb dX3_steps_64 (by decide) ?_
                refine lv_istore (lv' := [(7, .int 0), (6, .int (nI (n / 9 ^ 0))), (0, .ref (b 0)), (1, .int (nI j)), (2, .int (nI (uz u j))), (3, .int (nI (9 ^ uz u j))), (4, .int (enc (BM (uh u) (ul u j) (uz u j) (ut u j) n))), (5, .int (nI n))]) hx hb dX3_steps_65 hl (by decide) rfl (fun ls hl => ?_)
                refine lv_iconst (v := 1) hx hb dX3_steps_67 (by decide) ?_
                refine lv_istore (lv' := [(8, .int 1), (7, .int 0), (6, .int (nI (n / 9 ^ 0))), (0, .ref (b 0)), (1, .int (nI j)), (2, .int (nI (uz u j))), (3, .int (nI (9 ^ uz u j))), (4, .int (enc (BM (uh u) (ul u j) (uz u j) (ut u j) n))), (5, .int (nI n))]) hx hb dX3_steps_68 hl (by decide) rfl (fun ls hl => ?_)
                refine lv_iconst (v := 0) hx hb dX3_steps_70 (by decide) ?_
                refine lv_istore (lv' := [(9, .int 0), (8, .int 1), (7, .int 0), (6, .int (nI (n / 9 ^ 0))), (0, .ref (b 0)), (1, .int (nI j)), (2, .int (nI (uz u j))), (3, .int (nI (9 ^ uz u j))), (4, .int (enc (BM (uh u) (ul u j) (uz u j) (ut u j) n))), (5, .int (nI n))]) hx hb dX3_steps_71 hl (by decide) rfl (fun ls hl => ?_)
                have loop73 : ∀ (n9 : Nat) (w : Nat) (q2 : Nat → Int32), w ≤ uz u j → (∀ i, i < ul u j ∨ ul u j + uz u j ≤ i → q2 i = 0) → (∀ v, v < w → q2 (ul u j + v) = xD (dgt n v)) → uz u j - w < n9 → ∀ (H : Heap) (locs : List Loc), va_P D vwCl (wM cy b u 0 q2) H → va_D A (wM cy b u 0 q2) → va_S A s.heap H locs → ∀ ls : Array Slot, lv_has ls 11 [(0, .ref (b 0)), (1, .int (nI j)), (2, .int (nI (uz u j))), (3, .int (nI (9 ^ uz u j))), (4, .int (enc (BM (uh u) (ul u j) (uz u j) (ut u j) n))), (5, .int (nI n)), (6, .int (nI (n / 9 ^ w))), (7, .int (nI (sumE (dgt n) w))), (8, .int (bI (allN (fitV (uh u) (ul u j) n) w))), (9, .int (nI w))] → W p l e (headSpec wsX3_steps ({ frames := 7, cells := 0, slots := 0, locals := 170 } : Room)).room s m ([.ref (b 0), .int (nI j)] : List Value).toArray below meth c H locs 0 0 (MQ below (va_Qi (fun (r8 : Int32) (u9 : US) => (exC u (nI j) = 0 → r8 = fewS u (ix (nI j)) ∧ u9 = u) ∧ (¬ exC u (nI j) = 0 → u9 = u)) (fun (u9 : US) t => va_P D vwCl (wM cy b u9 (nI (exC u (nI j))) pz) t.heap ∧ va_D A (wM cy b u9 (nI (exC u (nI j))) pz)) A) ([.ref (b 0), .int (nI j)] : List Value).toArray s 0 0 A) (F0 m 73 ls []) := by
                  intro n9
                  induction n9 with
                  | zero => intro w q2 hw hq2 hq3 h9 H locs hP hD hS ls hl; exact absurd h9 (by omega)
                  | succ n9 ih73 =>
                    intro w q2 hw hq2 hq3 h9 H locs hP hD hS ls hl
                    refine lv_iload hx hb dX3_steps_73 (lv_at hl 9 rfl) ?_
                    refine lv_iload_n hx hb dX3_steps_75 rfl (lv_at hl 2 rfl) ?_
                    refine lv_icmp_ge (tgt := 149) hx hb dX3_steps_76 (by decide) (fun c76 => ?_) (fun c76 => ?_)
                    · have n76 : uz u j ≤ w := (nI_leI (a := uz u j) (b := w) (by omega) (by omega)).mp c76
                      refine lv_iload hx hb dX3_steps_149 (lv_at hl 8 rfl) ?_
                      refine lv_if_eq (tgt := 179) hx hb dX3_steps_151 (by decide) (fun c151 => ?_) (fun c151 => ?_)
                      · have hw9 : w = uz u j := by omega
                        rw [hw9] at hl
                        have hl : lv_has ls 11 [(0, .ref (b 0)), (1, .int (nI j)), (2, .int (nI (uz u j))), (3, .int (nI (9 ^ uz u j))), (4, .int (enc (BM (uh u) (ul u j) (uz u j) (ut u j) n))), (5, .int (nI n)), (6, .int (nI (n / 9 ^ (uz u j)))), (7, .int (nI (sumE (dgt n) (uz u j)))), (8, .int (bI (allN (fitV (uh u) (ul u j) n) (uz u j)))), (9, .int (nI (uz u j)))] := hl
                        have r9 : enc (BM (uh u) (ul u j) (uz u j) (ut u j) n) = enc (BM (uh u) (ul u j) (uz u j) (ut u j) (n + 1)) := (enc_no (VB_no1 (by rw [← hw9]; exact bI_0.mp c151)))
                        rw [r9] at hl
                        clear r9
                        refine lv_iinc (v := nI (n + 1)) (lv' := [(5, .int (nI (n + 1))), (0, .ref (b 0)), (1, .int (nI j)), (2, .int (nI (uz u j))), (3, .int (nI (9 ^ uz u j))), (4, .int (enc (BM (uh u) (ul u j) (uz u j) (ut u j) (n + 1)))), (6, .int (nI (n / 9 ^ (uz u j)))), (7, .int (nI (sumE (dgt n) (uz u j)))), (8, .int (bI (allN (fitV (uh u) (ul u j) n) (uz u j)))), (9, .int (nI (uz u j)))]) hx hb dX3_steps_179 hl (k := 5) rfl ((show (nI n) + Int32.ofInt 1 = (nI n) + 1 from rfl).trans (show (nI n) + 1 = nI (n + 1) from nI_add n 1)) (by decide) rfl (fun ls hl => ?_)
                        refine lv_goto (tgt := 54) hx hb dX3_steps_182 (by decide) ?_
                        exact ih54 (n + 1) q2 (by omega) hq2 (by omega) _ _ hP hD hS ls (lv_sub hl [1, 2, 3, 4, 5, 0] rfl)
                      · refine lv_iload hx hb dX3_steps_154 (lv_at hl 4 rfl) ?_
                        refine lv_iconst (v := (-1)) hx hb dX3_steps_156 (by decide) ?_
                        refine lv_icmp_eq (tgt := 167) hx hb dX3_steps_157 (by decide) (fun c157 => ?_) (fun c157 => ?_)
                        · refine lv_aload_n hx hb dX3_steps_167 rfl (lv_at hl 0 rfl) ?_
                          refine lv_iload_n hx hb dX3_steps_168 rfl (lv_at hl 1 rfl) ?_
                          refine pc_calli (va_runV (As := [.int (nI j)]) (rest := []) ⟨hx, hb, hml, hown, hts⟩ (mX3_isSounding l D cy b u 0 q2 j h6 hc9) (cwV 1 hts gX3_steps_X3_isSounding rfl rfl rfl (by decide +kernel) ⟨Nat.le_of_ble_eq_true rfl, Nat.le_of_ble_eq_true rfl⟩) ⟨fun a U g mk q => ⟨q.1, q.2.1, va_K.moved (u := U) (U := U.calling g mk a) (Vm.Alike.refl U.vm) q.2.2⟩, va_recv hK hP (ci := 3) (q0 := 0) rfl rfl, fun U hU hW => ⟨rfl, by rw [hU]; exact hP, va_K.moved hW.alike hK⟩⟩ rfl rfl hl.1 rfl (lv_room (Nat.le_of_ble_eq_true rfl)) dX3_steps_169 ⟨Nat.le_of_ble_eq_true rfl, Nat.le_of_ble_eq_true rfl⟩) (fun r9 hr9 => ?_)
                          subst hr9
                          refine lv_if_eq (tgt := 179) hx hb dX3_steps_172 (by decide) (fun c172 => ?_) (fun c172 => ?_)
                          · have hw9 : w = uz u j := by omega
                            rw [hw9] at hl
                            have hl : lv_has ls 11 [(0, .ref (b 0)), (1, .int (nI j)), (2, .int (nI (uz u j))), (3, .int (nI (9 ^ uz u j))), (4, .int (enc (BM (uh u) (ul u j) (uz u j) (ut u j) n))), (5, .int (nI n)), (6, .int (nI (n / 9 ^ (uz u j)))), (7, .int (nI (sumE (dgt n) (uz u j)))), (8, .int (bI (allN (fitV (uh u) (ul u j) n) (uz u j)))), (9, .int (nI (uz u j)))] := hl
                            have r9 : enc (BM (uh u) (ul u j) (uz u j) (ut u j) n) = enc (BM (uh u) (ul u j) (uz u j) (ut u j) (n + 1)) := (enc_no (VB_no2 (by rw [← pv_is hq2 (fun v hv => hq3 v (by omega))]; exact bI_0.mp c172)))
                            rw [r9] at hl
                            clear r9
                            refine lv_iinc (v := nI (n + 1)) (lv' := [(5, .int (nI (n + 1))), (0, .ref (b 0)), (1, .int (nI j)), (2, .int (nI (uz u j))), (3, .int (nI (9 ^ uz u j))), (4, .int (enc (BM (uh u) (ul u j) (uz u j) (ut u j) (n + 1)))), (6, .int (nI (n / 9 ^ (uz u j)))), (7, .int (nI (sumE (dgt n) (uz u j)))), (8, .int (bI (allN (fitV (uh u) (ul u j) n) (uz u j)))), (9, .int (nI (uz u j)))]) hx hb dX3_steps_179 hl (k := 5) rfl ((show (nI n) + Int32.ofInt 1 = (nI n) + 1 from rfl).trans (show (nI n) + 1 = nI (n + 1) from nI_add n 1)) (by decide) rfl (fun ls hl => ?_)
                            refine lv_goto (tgt := 54) hx hb dX3_steps_182 (by decide) ?_
                            exact ih54 (n + 1) q2 (by omega) hq2 (by omega) _ _ hP hD hS ls (lv_sub hl [1, 2, 3, 4, 5, 0] rfl)
                          · refine lv_iload hx hb dX3_steps_175 (lv_at hl 7 rfl) ?_
                            have hw8 : w = uz u j := by omega
                            refine pc_top (show nI (sumE (dgt n) w) = enc (BM (uh u) (ul u j) (uz u j) (ut u j) (n + 1)) from (by have z9 := enc_take (n := n) hc9.2 (VB_yes (by rw [← hw8]; exact bI_1.mp c151) (by rw [← pv_is hq2 (fun v hv => hq3 v (by omega))]; exact bI_1.mp c172)) (Or.inl c157); rw [← hw8] at z9 ⊢; exact z9)) ?_
                            refine lv_istore (lv' := [(4, .int (enc (BM (uh u) (ul u j) (uz u j) (ut u j) (n + 1)))), (0, .ref (b 0)), (1, .int (nI j)), (2, .int (nI (uz u j))), (3, .int (nI (9 ^ uz u j))), (5, .int (nI n)), (6, .int (nI (n / 9 ^ w))), (7, .int (nI (sumE (dgt n) w))), (8, .int (bI (allN (fitV (uh u) (ul u j) n) w))), (9, .int (nI w))]) hx hb dX3_steps_177 hl (by decide) rfl (fun ls hl => ?_)
                            have hw9 : w = uz u j := by omega
                            rw [hw9] at hl
                            have hl : lv_has ls 11 [(4, .int (enc (BM (uh u) (ul u j) (uz u j) (ut u j) (n + 1)))), (0, .ref (b 0)), (1, .int (nI j)), (2, .int (nI (uz u j))), (3, .int (nI (9 ^ uz u j))), (5, .int (nI n)), (6, .int (nI (n / 9 ^ (uz u j)))), (7, .int (nI (sumE (dgt n) (uz u j)))), (8, .int (bI (allN (fitV (uh u) (ul u j) n) (uz u j)))), (9, .int (nI (uz u j)))] := hl
                            refine lv_iinc (v := nI (n + 1)) (lv' := [(5, .int (nI (n + 1))), (4, .int (enc (BM (uh u) (ul u j) (uz u j) (ut u j) (n + 1)))), (0, .ref (b 0)), (1, .int (nI j)), (2, .int (nI (uz u j))), (3, .int (nI (9 ^ uz u j))), (6, .int (nI (n / 9 ^ (uz u j)))), (7, .int (nI (sumE (dgt n) (uz u j)))), (8, .int (bI (allN (fitV (uh u) (ul u j) n) (uz u j)))), (9, .int (nI (uz u j)))]) hx hb dX3_steps_179 hl (k := 5) rfl ((show (nI n) + Int32.ofInt 1 = (nI n) + 1 from rfl).trans (show (nI n) + 1 = nI (n + 1) from nI_add n 1)) (by decide) rfl (fun ls hl => ?_)
                            refine lv_goto (tgt := 54) hx hb dX3_steps_182 (by decide) ?_
                            exact ih54 (n + 1) q2 (by omega) hq2 (by omega) _ _ hP hD hS ls (lv_sub hl [2, 3, 4, 5, 1, 0] rfl)
                        · refine lv_iload hx hb dX3_steps_160 (lv_at hl 7 rfl) ?_
                          refine lv_iload hx hb dX3_steps_162 (lv_at hl 4 rfl) ?_
                          refine lv_icmp_ge (tgt := 179) hx hb dX3_steps_164 (by decide) (fun c164 => ?_) (fun c164 => ?_)
                          · have hw9 : w = uz u j := by omega
                            rw [hw9] at hl
                            have hl : lv_has ls 11 [(0, .ref (b 0)), (1, .int (nI j)), (2, .int (nI (uz u j))), (3, .int (nI (9 ^ uz u j))), (4, .int (enc (BM (uh u) (ul u j) (uz u j) (ut u j) n))), (5, .int (nI n)), (6, .int (nI (n / 9 ^ (uz u j)))), (7, .int (nI (sumE (dgt n) (uz u j)))), (8, .int (bI (allN (fitV (uh u) (ul u j) n) (uz u j)))), (9, .int (nI (uz u j)))] := hl
                            have r9 : enc (BM (uh u) (ul u j) (uz u j) (ut u j) n) = enc (BM (uh u) (ul u j) (uz u j) (ut u j) (n + 1)) := (enc_ge hc9.2 c157 (by rw [hw9] at c164; exact c164))
                            rw [r9] at hl
                            clear r9
                            refine lv_iinc (v := nI (n + 1)) (lv' := [(5, .int (nI (n + 1))), (0, .ref (b 0)), (1, .int (nI j)), (2, .int (nI (uz u j))), (3, .int (nI (9 ^ uz u j))), (4, .int (enc (BM (uh u) (ul u j) (uz u j) (ut u j) (n + 1)))), (6, .int (nI (n / 9 ^ (uz u j)))), (7, .int (nI (sumE (dgt n) (uz u j)))), (8, .int (bI (allN (fitV (uh u) (ul u j) n) (uz u j)))), (9, .int (nI (uz u j)))]) hx hb dX3_steps_179 hl (k := 5) rfl ((show (nI n) + Int32.ofInt 1 = (nI n) + 1 from rfl).trans (show (nI n) + 1 = nI (n + 1) from nI_add n 1)) (by decide) rfl (fun ls hl => ?_)
                            refine lv_goto (tgt := 54) hx hb dX3_steps_182 (by decide) ?_
                            exact ih54 (n + 1) q2 (by omega) hq2 (by omega) _ _ hP hD hS ls (lv_sub hl [1, 2, 3, 4, 5, 0] rfl)
                          · refine lv_aload_n hx hb dX3_steps_167 rfl (lv_at hl 0 rfl) ?_
                            refine lv_iload_n hx hb dX3_steps_168 rfl (lv_at hl 1 rfl) ?_
                            refine pc_calli (va_runV (As := [.int (nI j)]) (rest := []) ⟨hx, hb, hml, hown, hts⟩ (mX3_isSounding l D cy b u 0 q2 j h6 hc9) (cwV 1 hts gX3_steps_X3_isSounding rfl rfl rfl (by decide +kernel) ⟨Nat.le_of_ble_eq_true rfl, Nat.le_of_ble_eq_true rfl⟩) ⟨fun a U g mk q => ⟨q.1, q.2.1, va_K.moved (u := U) (U := U.calling g mk a) (Vm.Alike.refl U.vm) q.2.2⟩, va_recv hK hP (ci := 3) (q0 := 0) rfl rfl, fun U hU hW => ⟨rfl, by rw [hU]; exact hP, va_K.moved hW.alike hK⟩⟩ rfl rfl hl.1 rfl (lv_room (Nat.le_of_ble_eq_true rfl)) dX3_steps_169 ⟨Nat.le_of_ble_eq_true rfl, Nat.le_of_ble_eq_true rfl⟩) (fun r9 hr9 => ?_)
                            subst hr9
                            refine lv_if_eq (tgt := 179) hx hb dX3_steps_172 (by decide) (fun c172 => ?_) (fun c172 => ?_)
                            · have hw9 : w = uz u j := by omega
                              rw [hw9] at hl
                              have hl : lv_has ls 11 [(0, .ref (b 0)), (1, .int (nI j)), (2, .int (nI (uz u j))), (3, .int (nI (9 ^ uz u j))), (4, .int (enc (BM (uh u) (ul u j) (uz u j) (ut u j) n))), (5, .int (nI n)), (6, .int (nI (n / 9 ^ (uz u j)))), (7, .int (nI (sumE (dgt n) (uz u j)))), (8, .int (bI (allN (fitV (uh u) (ul u j) n) (uz u j)))), (9, .int (nI (uz u j)))] := hl
                              have r9 : enc (BM (uh u) (ul u j) (uz u j) (ut u j) n) = enc (BM (uh u) (ul u j) (uz u j) (ut u j) (n + 1)) := (enc_no (VB_no2 (by rw [← pv_is hq2 (fun v hv => hq3 v (by omega))]; exact bI_0.mp c172)))
                              rw [r9] at hl
                              clear r9
                              refine lv_iinc (v := nI (n + 1)) (lv' := [(5, .int (nI (n + 1))), (0, .ref (b 0)), (1, .int (nI j)), (2, .int (nI (uz u j))), (3, .int (nI (9 ^ uz u j))), (4, .int (enc (BM (uh u) (ul u j) (uz u j) (ut u j) (n + 1)))), (6, .int (nI (n / 9 ^ (uz u j)))), (7, .int (nI (sumE (dgt n) (uz u j)))), (8, .int (bI (allN (fitV (uh u) (ul u j) n) (uz u j)))), (9, .int (nI (uz u j)))]) hx hb dX3_steps_179 hl (k := 5) rfl ((show (nI n) + Int32.ofInt 1 = (nI n) + 1 from rfl).trans (show (nI n) + 1 = nI (n + 1) from nI_add n 1)) (by decide) rfl (fun ls hl => ?_)
                              refine lv_goto (tgt := 54) hx hb dX3_steps_182 (by decide) ?_
                              exact ih54 (n + 1) q2 (by omega) hq2 (by omega) _ _ hP hD hS ls (lv_sub hl [1, 2, 3, 4, 5, 0] rfl)
                            · refine lv_iload hx hb dX3_steps_175 (lv_at hl 7 rfl) ?_
                              have hw8 : w = uz u j := by omega
                              refine pc_top (show nI (sumE (dgt n) w) = enc (BM (uh u) (ul u j) (uz u j) (ut u j) (n + 1)) from (by have z9 := enc_take (n := n) hc9.2 (VB_yes (by rw [← hw8]; exact bI_1.mp c151) (by rw [← pv_is hq2 (fun v hv => hq3 v (by omega))]; exact bI_1.mp c172)) (Or.inr (by rw [hw8] at c164; exact c164)); rw [← hw8] at z9 ⊢; exact z9)) ?_
                              refine lv_istore (lv' := [(4, .int (enc (BM (uh u) (ul u j) (uz u j) (ut u j) (n + 1)))), (0, .ref (b 0)), (1, .int (nI j)), (2, .int (nI (uz u j))), (3, .int (nI (9 ^ uz u j))), (5, .int (nI n)), (6, .int (nI (n / 9 ^ w))), (7, .int (nI (sumE (dgt n) w))), (8, .int (bI (allN (fitV (uh u) (ul u j) n) w))), (9, .int (nI w))]) hx hb dX3_steps_177 hl (by decide) rfl (fun ls hl => ?_)
                              have hw9 : w = uz u j := by omega
                              rw [hw9] at hl
                              have hl : lv_has ls 11 [(4, .int (enc (BM (uh u) (ul u j) (uz u j) (ut u j) (n + 1)))), (0, .ref (b 0)), (1, .int (nI j)), (2, .int (nI (uz u j))), (3, .int (nI (9 ^ uz u j))), (5, .int (nI n)), (6, .int (nI (n / 9 ^ (uz u j)))), (7, .int (nI (sumE (dgt n) (uz u j)))), (8, .int (bI (allN (fitV (uh u) (ul u j) n) (uz u j)))), (9, .int (nI (uz u j)))] := hl
                              refine lv_iinc (v := nI (n + 1)) (lv' := [(5, .int (nI (n + 1))), (4, .int (enc (BM (uh u) (ul u j) (uz u j) (ut u j) (n + 1)))), (0, .ref (b 0)), (1, .int (nI j)), (2, .int (nI (uz u j))), (3, .int (nI (9 ^ uz u j))), (6, .int (nI (n / 9 ^ (uz u j)))), (7, .int (nI (sumE (dgt n) (uz u j)))), (8, .int (bI (allN (fitV (uh u) (ul u j) n) (uz u j)))), (9, .int (nI (uz u j)))]) hx hb dX3_steps_179 hl (k := 5) rfl ((show (nI n) + Int32.ofInt 1 = (nI n) + 1 from rfl).trans (show (nI n) + 1 = nI (n + 1) from nI_add n 1)) (by decide) rfl (fun ls hl => ?_)
                              refine lv_goto (tgt := 54) hx hb dX3_steps_182 (by decide) ?_
                              exact ih54 (n + 1) q2 (by omega) hq2 (by omega) _ _ hP hD hS ls (lv_sub hl [2, 3, 4, 5, 1, 0] rfl)
                    · have n76 : ¬ (uz u j ≤ w) := fun h9 => c76 ((nI_leI (a := uz u j) (b := w) (by omega) (by omega)).mpr h9)
                      have hd9 : n / 9 ^ w ≤ n := Nat.div_le_self _ _
                      refine lv_aload_n hx hb dX3_steps_79 rfl (lv_at hl 0 rfl) ?_
                      refine lv_iload_n hx hb dX3_steps_80 rfl (lv_at hl 1 rfl) ?_
                      refine lv_iconst (v := 0) hx hb dX3_steps_81 (by decide) ?_
                      refine pc_calli (va_runV (As := [.int (nI j), .int 0]) (rest := []) ⟨hx, hb, hml, hown, hts⟩ (mX3_to l D cy b u 0 q2 j 0 h6 (by decide)) (cwV 2 hts gX3_steps_X3_to rfl rfl rfl (by decide +kernel) ⟨Nat.le_of_ble_eq_true rfl, Nat.le_of_ble_eq_true rfl⟩) ⟨fun a U g mk q => ⟨q.1, q.2.1, va_K.moved (u := U) (U := U.calling g mk a) (Vm.Alike.refl U.vm) q.2.2⟩, va_recv hK hP (ci := 3) (q0 := 0) rfl rfl, fun U hU hW => ⟨rfl, by rw [hU]; exact hP, va_K.moved hW.alike hK⟩⟩ rfl rfl hl.1 rfl (lv_room (Nat.le_of_ble_eq_true rfl)) dX3_steps_82 ⟨Nat.le_of_ble_eq_true rfl, Nat.le_of_ble_eq_true rfl⟩) (fun r9 hr9 => ?_)
                      subst hr9
                      refine pc_top (show mtF (ul u) (uz u) (ut u) j 0 = nI (ul u j) from rfl) ?_
                      refine lv_iload hx hb dX3_steps_85 (lv_at hl 9 rfl) ?_
                      refine lv_iadd hx hb dX3_steps_87 ?_
                      refine pc_top (show (nI (ul u j)) + (nI w) = nI (ul u j + w) from nI_add (ul u j) w) ?_
                      refine lv_istore (lv' := [(10, .int (nI (ul u j + w))), (0, .ref (b 0)), (1, .int (nI j)), (2, .int (nI (uz u j))), (3, .int (nI (9 ^ uz u j))), (4, .int (enc (BM (uh u) (ul u j) (uz u j) (ut u j) n))), (5, .int (nI n)), (6, .int (nI (n / 9 ^ w))), (7, .int (nI (sumE (dgt n) w))), (8, .int (bI (allN (fitV (uh u) (ul u j) n) w))), (9, .int (nI w))]) hx hb dX3_steps_88 hl (by decide) rfl (fun ls hl => ?_)
                      refine lv_aload_n hx hb dX3_steps_90 rfl (lv_at hl 1 rfl) ?_
                      refine va_get (D := D) (ci := 3) (v := .ref (b 6)) (C := RX3) (T := TX3) (N := 8) hx hb hts inX3_steps_RX3 hown hK hP 0 rfl rfl 7 (by decide) (hts _ kX3_steps_1) (fun _ h9 => h9) rfl dX3_steps_91 ?_
                      refine lv_iload hx hb dX3_steps_94 (lv_at hl 0 rfl) ?_
                      refine lv_iload hx hb dX3_steps_96 (lv_at hl 7 rfl) ?_
                      refine lv_bipush (v := 9) hx hb dX3_steps_98 (by decide) ?_
                      refine lv_irem hx hb dX3_steps_100 (by decide) ?_
                      refine pc_top (show (nI (n / 9 ^ w)) - (nI (n / 9 ^ w)) / 9 * 9 = nI (dgt n w) from (pk_rem (by omega) (by decide) (by decide))) ?_
                      refine lv_iconst (v := 4) hx hb dX3_steps_101 (by decide) ?_
                      refine lv_isub hx hb dX3_steps_102 ?_
                      refine pc_top (show (nI (dgt n w)) - 4 = xD (dgt n w) from rfl) ?_
                      refine pc_iast hx hb hK hP hD hS 6 0 rfl rfl (k := ul u j + w) (show ul u j + w < 12 by omega) (by decide) dX3_steps_103 (fun H locs hP hD hS => ?_)
                      have hP : va_P D vwCl [(b 0, .inr (3, [.int 0, .ref (b 1), .int (nI (un u)), .ref (b 2), .ref (b 3), .ref (b 4), .ref (b 5), .ref (b 6)])), (b 1, .inl ((cy 0), 72, .inl (mh (uh u)))), (b 2, .inl ((cy 0), 36, .inl (mt (ul u) (uz u) (ut u)))), (b 3, .inl ((cy 0), 12, .inl (uw u))), (b 4, .inl ((cy 0), 12, .inl (ud u))), (b 5, .inl ((cy 0), 2, .inl (mb (uh u)))), (b 6, .inl ((cy 0), 12, .inl (upd q2 (ul u j + w) (xD (dgt n w)))))] H := hP
                      have hD : va_D A [(b 0, .inr (3, [.int 0, .ref (b 1), .int (nI (un u)), .ref (b 2), .ref (b 3), .ref (b 4), .ref (b 5), .ref (b 6)])), (b 1, .inl ((cy 0), 72, .inl (mh (uh u)))), (b 2, .inl ((cy 0), 36, .inl (mt (ul u) (uz u) (ut u)))), (b 3, .inl ((cy 0), 12, .inl (uw u))), (b 4, .inl ((cy 0), 12, .inl (ud u))), (b 5, .inl ((cy 0), 2, .inl (mb (uh u)))), (b 6, .inl ((cy 0), 12, .inl (upd q2 (ul u j + w) (xD (dgt n w)))))] := hD
                      refine lv_iload hx hb dX3_steps_104 (lv_at hl 8 rfl) ?_
                      refine lv_aload_n hx hb dX3_steps_106 rfl (lv_at hl 1 rfl) ?_
                      refine va_get (D := D) (ci := 3) (v := .ref (b 6)) (C := RX3) (T := TX3) (N := 8) hx hb hts inX3_steps_RX3 hown hK hP 0 rfl rfl 7 (by decide) (hts _ kX3_steps_1) (fun _ h9 => h9) rfl dX3_steps_107 ?_
                      refine lv_iload hx hb dX3_steps_110 (lv_at hl 0 rfl) ?_
                      refine pc_iald hx hb hK hP 6 0 rfl rfl (k := ul u j + w) (show ul u j + w < 12 by omega) (by decide) dX3_steps_112 ?_
                      refine pc_top (show (upd q2 (ul u j + w) (xD (dgt n w))) (ul u j + w) = xD (dgt n w) from pk_us) ?_
                      refine va_mabs hx hb (by rw [hml]; exact hl.1.symm) hown (hts _ kX3_steps_2) (hts _ kX3_steps_3) (hts _ kX3_steps_4) (hts _ kX3_steps_5) (Nat.le_of_ble_eq_true rfl) (Nat.le_of_ble_eq_true rfl) (Nat.le_of_ble_eq_true rfl) (Nat.le_of_ble_eq_true rfl) dX3_steps_113 ?_
                      refine pc_top (show (if 0 ≤ (xD (dgt n w)) then (xD (dgt n w)) else 0 - (xD (dgt n w))) = ab (xD (dgt n w)) from rfl) ?_
                      refine pc_top (show ab (xD (dgt n w)) = nI (dn (dgt n w)) from (ab_dn_all _ (dgt_lt n w))) ?_
                      refine lv_iadd hx hb dX3_steps_116 ?_
                      refine pc_top (show (nI (sumE (dgt n) w)) + (nI (dn (dgt n w))) = nI (sumE (dgt n) w + dn (dgt n w)) from nI_add (sumE (dgt n) w) (dn (dgt n w))) ?_
                      refine pc_top (show nI (sumE (dgt n) w + dn (dgt n w)) = nI (sumE (dgt n) (w + 1)) from rfl) ?_
                      refine lv_istore (lv' := [(7, .int (nI (sumE (dgt n) (w + 1)))), (10, .int (nI (ul u j + w))), (0, .ref (b 0)), (1, .int (nI j)), (2, .int (nI (uz u j))), (3, .int (nI (9 ^ uz u j))), (4, .int (enc (BM (uh u) (ul u j) (uz u j) (ut u j) n))), (5, .int (nI n)), (6, .int (nI (n / 9 ^ w))), (8, .int (bI (allN (fitV (uh u) (ul u j) n) w))), (9, .int (nI w))]) hx hb dX3_steps_117 hl (by decide) rfl (fun ls hl => ?_)
                      refine lv_iload hx hb dX3_steps_119 (lv_at hl 9 rfl) ?_
                      refine lv_aload_n hx hb dX3_steps_121 rfl (lv_at hl 2 rfl) ?_
                      refine lv_iload hx hb dX3_steps_122 (lv_at hl 1 rfl) ?_
                      refine pc_calli (va_runV (As := [.int (nI (ul u j + w))]) (rest := [.int (bI (allN (fitV (uh u) (ul u j) n) w))]) ⟨hx, hb, hml, hown, hts⟩ (mX3_wedge l D cy b u 0 (upd q2 (ul u j + w) (xD (dgt n w))) (nI (ul u j + w))) (cwV 1 hts gX3_steps_X3_wedge rfl rfl rfl (by decide +kernel) ⟨Nat.le_of_ble_eq_true rfl, Nat.le_of_ble_eq_true rfl⟩) ⟨fun a U g mk q => ⟨q.1, q.2.1, va_K.moved (u := U) (U := U.calling g mk a) (Vm.Alike.refl U.vm) q.2.2⟩, va_recv hK hP (ci := 3) (q0 := 0) rfl rfl, fun U hU hW => ⟨rfl, by rw [hU]; exact hP, va_K.moved hW.alike hK⟩⟩ rfl rfl hl.1 rfl (lv_room (Nat.le_of_ble_eq_true rfl)) dX3_steps_124 ⟨Nat.le_of_ble_eq_true rfl, Nat.le_of_ble_eq_true rfl⟩) (fun r9 hr9 => ?_)
                      subst hr9
                      refine pc_top (show wedF (uh u) (upd q2 (ul u j + w) (xD (dgt n w))) (nI (ul u j + w)) = zw (uh u) (ul u j + w) + xD (dgt n w) from ((wedF_in (by omega)).trans (by rw [pk_us]))) ?_
                      refine lv_iconst (v := 0) hx hb dX3_steps_127 (by decide) ?_
                      refine lv_bipush (v := 20) hx hb dX3_steps_128 (by decide) ?_
                      refine pc_calli (va_runS (As := [.int (zw (uh u) (ul u j + w) + xD (dgt n w)), .int 0, .int 20]) (rest := [.int (bI (allN (fitV (uh u) (ul u j) n) w))]) ⟨hx, hb, hml, hown, hts⟩ (mX3_isIn l D cy (zw (uh u) (ul u j + w) + xD (dgt n w)) 0 20) (va_cwS 3 hts gX3_steps_X3_isIn rfl rfl rfl (by decide +kernel) ⟨Nat.le_of_ble_eq_true rfl, Nat.le_of_ble_eq_true rfl⟩) ⟨fun a U g mk q => q, fun U hU hW => ⟨rfl, trivial⟩⟩ rfl rfl hl.1 rfl (lv_room (Nat.le_of_ble_eq_true rfl)) dX3_steps_130 ⟨Nat.le_of_ble_eq_true rfl, Nat.le_of_ble_eq_true rfl⟩) (fun r9 hr9 => ?_)
                      subst hr9
                      refine pc_top (show bI (isIn (zw (uh u) (ul u j + w) + xD (dgt n w)) 0 20) = bI (fitV (uh u) (ul u j) n w) from rfl) ?_
                      refine lv_iand hx hb dX3_steps_133 ?_
                      refine pc_top (show (bI (allN (fitV (uh u) (ul u j) n) w)) &&& (bI (fitV (uh u) (ul u j) n w)) = bI (allN (fitV (uh u) (ul u j) n) (w + 1)) from (bI_and _ _)) ?_
                      refine lv_istore (lv' := [(8, .int (bI (allN (fitV (uh u) (ul u j) n) (w + 1)))), (7, .int (nI (sumE (dgt n) (w + 1)))), (10, .int (nI (ul u j + w))), (0, .ref (b 0)), (1, .int (nI j)), (2, .int (nI (uz u j))), (3, .int (nI (9 ^ uz u j))), (4, .int (enc (BM (uh u) (ul u j) (uz u j) (ut u j) n))), (5, .int (nI n)), (6, .int (nI (n / 9 ^ w))), (9, .int (nI w))]) hx hb dX3_steps_134 hl (by decide) rfl (fun ls hl => ?_)
                      refine lv_iload hx hb dX3_steps_136 (lv_at hl 9 rfl) ?_
                      refine lv_bipush (v := 9) hx hb dX3_steps_138 (by decide) ?_
                      refine lv_idiv hx hb dX3_steps_140 (by decide) ?_
                      refine pc_top (show (nI (n / 9 ^ w)) / 9 = nI (n / 9 ^ (w + 1)) from ((pk_div (by omega) (by decide) (by decide)).trans (by rw [Nat.div_div_eq_div_mul]; rfl))) ?_
                      refine lv_istore (lv' := [(6, .int (nI (n / 9 ^ (w + 1)))), (8, .int (bI (allN (fitV (uh u) (ul u j) n) (w + 1)))), (7, .int (nI (sumE (dgt n) (w + 1)))), (10, .int (nI (ul u j + w))), (0, .ref (b 0)), (1, .int (nI j)), (2, .int (nI (uz u j))), (3, .int (nI (9 ^ uz u j))), (4, .int (enc (BM (uh u) (ul u j) (uz u j) (ut u j) n))), (5, .int (nI n)), (9, .int (nI w))]) hx hb dX3_steps_141 hl (by decide) rfl (fun ls hl => ?_)
                      refine lv_iinc (v := nI (w + 1)) (lv' := [(9, .int (nI (w + 1))), (6, .int (nI (n / 9 ^ (w + 1)))), (8, .int (bI (allN (fitV (uh u) (ul u j) n) (w + 1)))), (7, .int (nI (sumE (dgt n) (w + 1)))), (10, .int (nI (ul u j + w))), (0, .ref (b 0)), (1, .int (nI j)), (2, .int (nI (uz u j))), (3, .int (nI (9 ^ uz u j))), (4, .int (enc (BM (uh u) (ul u j) (uz u j) (ut u j) n))), (5, .int (nI n))]) hx hb dX3_steps_143 hl (k := 10) rfl ((show (nI w) + Int32.ofInt 1 = (nI w) + 1 from rfl).trans (show (nI w) + 1 = nI (w + 1) from nI_add w 1)) (by decide) rfl (fun ls hl => ?_)
                      refine lv_goto (tgt := 73) hx hb dX3_steps_146 (by decide) ?_
                      exact ih73 (w + 1) (upd q2 (ul u j + w) (xD (dgt n w))) (by omega) (fun i hi => by rw [pk_un (by omega)]; exact hq2 i hi) (fun v hv => by rcases Nat.lt_succ_iff_lt_or_eq.mp hv with z | z; (rw [pk_un (by omega)]; exact hq3 v z); (subst z; exact pk_us)) (by omega) _ _ hP hD hS ls (lv_sub hl [5, 6, 7, 8, 9, 10, 1, 3, 2, 0] rfl)
                exact loop73 (uz u j + 1) 0 q1 (Nat.zero_le _) hq1 (fun v hv => absurd hv (by omega)) (by omega) _ _ hP hD hS ls (lv_sub hl [4, 5, 6, 7, 8, 9, 3, 2, 1, 0] rfl)
          exact loop54 (9 ^ uz u j + 1) 0 pz (Nat.zero_le _) (fun _ _ => rfl) (by omega) _ _ hP hD hS ls (lv_sub hl [2, 3, 4, 5, 1, 0] rfl)
        · have n34 : ¬ (uz u j ≤ k) := fun h9 => c34 ((nI_leI (a := uz u j) (b := k) (by omega) (by omega)).mpr h9)
          refine lv_iload_n hx hb dX3_steps_37 rfl (lv_at hl 3 rfl) ?_
          refine lv_bipush (v := 9) hx hb dX3_steps_38 (by decide) ?_
          refine lv_imul hx hb dX3_steps_40 ?_
          refine pc_top (show (nI (9 ^ k)) * 9 = nI ((9 ^ k) * 9) from pk_mul (9 ^ k) 9) ?_
          refine lv_istore_n (lv' := [(3, .int (nI ((9 ^ k) * 9))), (0, .ref (b 0)), (1, .int (nI j)), (2, .int (nI (uz u j))), (4, .int (nI k))]) hx hb dX3_steps_41 rfl hl (by decide) rfl (fun ls hl => ?_)
          refine lv_iinc (v := nI (k + 1)) (lv' := [(4, .int (nI (k + 1))), (3, .int (nI ((9 ^ k) * 9))), (0, .ref (b 0)), (1, .int (nI j)), (2, .int (nI (uz u j)))]) hx hb dX3_steps_42 hl (k := 4) rfl ((show (nI k) + Int32.ofInt 1 = (nI k) + 1 from rfl).trans (show (nI k) + 1 = nI (k + 1) from nI_add k 1)) (by decide) rfl (fun ls hl => ?_)
          refine lv_goto (tgt := 31) hx hb dX3_steps_45 (by decide) ?_
          exact ih31 (k + 1) (by omega) (by omega) _ _ hP hD hS ls (lv_sub hl [2, 3, 4, 1, 0] rfl)
    exact loop31 (uz u j + 1) 0 (Nat.zero_le _) (by omega) _ _ hP hD hS ls (lv_sub hl [3, 4, 2, 1, 0] rfl)
  · refine lv_aload_n hx hb dX3_steps_13 rfl (lv_at hl 0 rfl) ?_
    refine lv_iconst (v := 1) hx hb dX3_steps_14 (by decide) ?_
    have hPc := hP.sub (ws' := wM cy b u 0 pz) [0, 1, 2, 3, 4, 5, 6] rfl
    have hDc := hD.sub (ws' := wM cy b u 0 pz) [0, 1, 2, 3, 4, 5, 6] (by decide) rfl
    have hFc := va_free (wc := wM cy b u 0 pz) hD hS hA [0, 1, 2, 3, 4, 5, 6] rfl
    refine va_calli (va_runV (As := [.int 1]) (rest := []) ⟨hx, hb, hml, hown, hts⟩ (mX3_fail l D cy H.size b u 0 pz 1) (cwV 1 hts gX3_steps_X3_fail rfl rfl rfl (by decide +kernel) ⟨Nat.le_of_ble_eq_true rfl, Nat.le_of_ble_eq_true rfl⟩) ⟨fun a U g mk q => ⟨q.1, q.2.1, q.2.2.1, va_K.moved (u := U) (U := U.calling g mk a) (Vm.Alike.refl U.vm) q.2.2.2.1, q.2.2.2.2⟩, va_recv hK hPc (ci := 3) (q0 := 0) rfl rfl, fun U hU hW => ⟨rfl, by rw [hU], by rw [hU]; exact hPc, va_K.moved hW.alike hK, hDc.weaken (fun _ _ _ _ => trivial)⟩⟩ rfl rfl hl.1 rfl (lv_room (Nat.le_of_ble_eq_true rfl)) dX3_steps_15 ⟨Nat.le_of_ble_eq_true rfl, Nat.le_of_ble_eq_true rfl⟩) hS (fun q _ h => hFc q h) hFc (fun r9 u9 t9 H1 locs ht9 hvm9 hw9 hB9 hz9 hk9 hS => ?_)
    obtain ⟨hP1, hD1⟩ := hB9
    rw [ht9] at hP1
    obtain ⟨hP, hD⟩ := va_join (wr := []) (w1 := wM cy b u 1 pz) hP hD [0, 1, 2, 3, 4, 5, 6] [] rfl rfl (by decide) (by decide) hk9 hFc hP1 hD1
    generalize H1 = H at hP hS ⊢
    have hP : va_P D vwCl (wM cy b u 1 pz) H := hP.sub [0, 1, 2, 3, 4, 5, 6] rfl
    have hD : va_D A (wM cy b u 1 pz) := hD.sub [0, 1, 2, 3, 4, 5, 6] (by decide) rfl
    clear hP1 hD1 hk9 hz9 ht9 hvm9 hPc hDc hFc
    subst hw9
    have hex9 : exC u cv = 1 := by simp [exC, bI_0.mp c10]
    have hP9 : va_P D vwCl (wM cy b u (nI (exC u cv)) pz) H := (by rw [hex9]; exact hP)
    have hD9 : va_D A (wM cy b u (nI (exC u cv)) pz) := (by rw [hex9]; exact hD)
    exact W.iret (v := 0) hx hb hr (fun t ht hW => ⟨⟨0, u, rfl, ⟨fun z => absurd (hex9.symm.trans z) (by decide), fun _ => rfl⟩, by rw [ht]; exact hP9, hD9⟩, hS.F ht⟩) hS.2.2 dX3_steps_18

