theorem inX3_hourOn_RX3 : ∀ w ∈ u_ws RX3 TX3 8, w ∈ wsX3_hourOn := by decide +kernel
theorem kX3_hourOn_0 : (.fieldLink RX3 19 "WedgeHarpsModel" "damps" "[I" : Cond) ∈ wsX3_hourOn := by decide +kernel
theorem kX3_hourOn_1 : (.fieldLink RX3 22 "WedgeHarpsModel" "numbers" "[I" : Cond) ∈ wsX3_hourOn := by decide +kernel
theorem kX3_hourOn_2 : (.methodLink RX3 93 Lib.Math.min.name : Cond) ∈ wsX3_hourOn := by decide +kernel
theorem kX3_hourOn_3 : (.static Lib.Math.min.name : Cond) ∈ wsX3_hourOn := by decide +kernel
theorem kX3_hourOn_4 : (.initialized "java/lang/Math" : Cond) ∈ wsX3_hourOn := by decide +kernel
theorem kX3_hourOn_5 : (.code Lib.Math.min.name Lib.Math.min.code 2 (some .int) : Cond) ∈ wsX3_hourOn := by decide +kernel
theorem kX3_hourOn_6 : (.methodLink RX3 90 Lib.Math.max.name : Cond) ∈ wsX3_hourOn := by decide +kernel
theorem kX3_hourOn_7 : (.static Lib.Math.max.name : Cond) ∈ wsX3_hourOn := by decide +kernel
theorem kX3_hourOn_8 : (.code Lib.Math.max.name Lib.Math.max.code 2 (some .int) : Cond) ∈ wsX3_hourOn := by decide +kernel
set_option maxHeartbeats 4000000 in
set_option maxRecDepth 100000 in
theorem mX3_hourOn (l : Launch) (D : va_G) (cy : Nat → ClassId) (sz : Nat) (b : Nat → Nat) (u : US) (th : Int32) (hz9 : zh (uh u) < 2147483647) (hb9 : bd (uh u)) (wi : Int32) : Met l yX3_hourOn wsX3_hourOn ({ frames := 4, cells := 0, slots := 0, locals := 90 } : Room) (va_Pc [.ref (b 0), .int wi] (fun U => U.heap.size = sz ∧ va_P D vwCl (wM cy b u th pz) U.heap ∧ va_K D vwCl (TY cy) U ∧ va_D (fun _ => True) (wM cy b u th pz))) (va_Qi (fun (r8 : Int32) (_ : Unit) => r8 = msk (brk wi (uh u)) 12) (fun (_ : Unit) t => va_P D vwCl (wM cy b (uH u (hHour 0 12 wi (ud u (zh (uh u) % 12)) (uh u))) th pz) t.heap ∧ va_D (va_A (wM cy b u th pz) sz) (wM cy b (uH u (hHour 0 12 wi (ud u (zh (uh u) % 12)) (uh u))) th pz)) (va_A (wM cy b u th pz) sz)) 0 0 (va_A (wM cy b u th pz) sz) := by
  refine Met.ofW (cc := cX3_hourOn) (maxL := 6) (ret := (some .int)) (by decide) rfl ?_
  intro p e s m args below meth c s₁ B hml hv
  obtain ⟨rfl, hsz, hP, hK, hD0⟩ := hv
  have hx := B.exec
  have hb := B.bytes
  have hr := B.returns
  have hts := atoms_spec (ws := wsX3_hourOn) B.pre
  have hown : s.vm.findClass RX3 = some m.cls := findClass_of_methodNamed B.named
  have hlocks := B.notSynchronized
  have hl := lv_entry ([.ref (b 0), .int wi]) (n := 6) (Nat.le_of_ble_eq_true rfl)
  rw [lg_entry_eq]
  generalize (lg_sl ([.ref (b 0), .int wi]) ++ List.replicate (6 - (lg_sl ([.ref (b 0), .int wi])).length) Slot.unset).toArray = ls at hl ⊢
  have hl : lv_has ls 6 [(0, .ref (b 0)), (1, .int wi)] := hl
  subst hsz
  have hD := hD0.self (sz := s.heap.size)
  generalize hAe : va_A (wM cy b u th pz) s.heap.size = A at hD ⊢
  have hA : ∀ q : Nat, s.heap.size ≤ q → A q := fun q h => by rw [← hAe]; exact Or.inr h
  have hS : va_S A s.heap s.heap [] := va_S.rf
  have hP : va_P D vwCl (wM cy b u th pz) s.heap := hP
  refine lv_iconst (v := 0) hx hb dX3_hourOn_0 (by decide) ?_
  refine lv_istore_n (lv' := [(2, .int 0), (0, .ref (b 0)), (1, .int wi)]) hx hb dX3_hourOn_1 rfl hl (by decide) rfl (fun ls hl => ?_)
  refine lv_aload_n hx hb dX3_hourOn_2 rfl (lv_at hl 1 rfl) ?_
  refine va_get (D := D) (ci := 3) (v := .ref (b 4)) (C := RX3) (T := TX3) (N := 8) hx hb hts inX3_hourOn_RX3 hown hK hP 0 rfl rfl 5 (by decide) (hts _ kX3_hourOn_0) (fun _ h9 => h9) rfl dX3_hourOn_3 ?_
  refine lv_aload_n hx hb dX3_hourOn_6 rfl (lv_at hl 1 rfl) ?_
  refine va_get (D := D) (ci := 3) (v := .ref (b 5)) (C := RX3) (T := TX3) (N := 8) hx hb hts inX3_hourOn_RX3 hown hK hP 0 rfl rfl 6 (by decide) (hts _ kX3_hourOn_1) (fun _ h9 => h9) rfl dX3_hourOn_7 ?_
  refine lv_iconst (v := 0) hx hb dX3_hourOn_10 (by decide) ?_
  refine pc_iald hx hb hK hP 5 0 rfl rfl (k := 0) (show 0 < 2 by omega) (by decide) dX3_hourOn_11 ?_
  refine pc_top (show (mb (uh u)) 0 = nI (zh (uh u)) from rfl) ?_
  refine lv_bipush (v := 12) hx hb dX3_hourOn_12 (by decide) ?_
  refine lv_irem hx hb dX3_hourOn_14 (by decide) ?_
  refine pc_top (show (nI (zh (uh u))) - (nI (zh (uh u))) / 12 * 12 = nI (zh (uh u) % 12) from (pk_rem (by omega) (by decide) (by decide))) ?_
  refine pc_iald hx hb hK hP 4 0 rfl rfl (k := zh (uh u) % 12) (show zh (uh u) % 12 < 12 by omega) (by decide) dX3_hourOn_15 ?_
  refine lv_istore_n (lv' := [(3, .int ((ud u) (zh (uh u) % 12))), (2, .int 0), (0, .ref (b 0)), (1, .int wi)]) hx hb dX3_hourOn_16 rfl hl (by decide) rfl (fun ls hl => ?_)
  have e9 : (wM cy b u th pz : va_W) = (wM cy b (uH u (h1 0 wi (uh u))) th pz) := (by rw [h1_0]; rfl)
  have hP : va_P D vwCl (wM cy b (uH u (h1 0 wi (uh u))) th pz) s.heap := e9 ▸ hP
  have hD : va_D A (wM cy b (uH u (h1 0 wi (uh u))) th pz) := e9 ▸ hD
  clear e9
  refine lv_iconst (v := 0) hx hb dX3_hourOn_17 (by decide) ?_
  refine lv_istore (lv' := [(4, .int 0), (3, .int ((ud u) (zh (uh u) % 12))), (2, .int 0), (0, .ref (b 0)), (1, .int wi)]) hx hb dX3_hourOn_18 hl (by decide) rfl (fun ls hl => ?_)
  have loop20 : ∀ (n9 : Nat) (k : Nat), k ≤ 12 → 12 - k < n9 → ∀ (H : Heap) (locs : List Loc), va_P D vwCl (wM cy b (uH u (h1 k wi (uh u))) th pz) H → va_D A (wM cy b (uH u (h1 k wi (uh u))) th pz) → va_S A s.heap H locs → ∀ ls : Array Slot, lv_has ls 6 [(0, .ref (b 0)), (1, .int wi), (2, .int (msk (brk wi (uh u)) k)), (3, .int (ud u (zh (uh u) % 12))), (4, .int (nI k))] → W p l e (headSpec wsX3_hourOn ({ frames := 4, cells := 0, slots := 0, locals := 90 } : Room)).room s m ([.ref (b 0), .int wi] : List Value).toArray below meth c H locs 0 0 (MQ below (va_Qi (fun (r8 : Int32) (_ : Unit) => r8 = msk (brk wi (uh u)) 12) (fun (_ : Unit) t => va_P D vwCl (wM cy b (uH u (hHour 0 12 wi (ud u (zh (uh u) % 12)) (uh u))) th pz) t.heap ∧ va_D A (wM cy b (uH u (hHour 0 12 wi (ud u (zh (uh u) % 12)) (uh u))) th pz)) A) ([.ref (b 0), .int wi] : List Value).toArray s 0 0 A) (F0 m 20 ls []) := by
    intro n9
    induction n9 with
    | zero => intro k hk h9 H locs hP hD hS ls hl; exact absurd h9 (by omega)
    | succ n9 ih20 =>
      intro k hk h9 H locs hP hD hS ls hl
      refine lv_iload hx hb dX3_hourOn_20 (lv_at hl 4 rfl) ?_
      refine lv_bipush (v := 12) hx hb dX3_hourOn_22 (by decide) ?_
      refine lv_icmp_ge (tgt := 132) hx hb dX3_hourOn_24 (by decide) (fun c24 => ?_) (fun c24 => ?_)
      · have n24 : 12 ≤ k := (nI_leI (a := 12) (b := k) (by omega) (by omega)).mp c24
        have e9 : (wM cy b (uH u (h1 k wi (uh u))) th pz : va_W) = (wM cy b (uH u (h2 0 wi (ud u (zh (uh u) % 12)) (uh u))) th pz) := (by rw [show k = 12 by omega, ← h2_0 wi (ud u (zh (uh u) % 12)) (uh u)])
        have hP : va_P D vwCl (wM cy b (uH u (h2 0 wi (ud u (zh (uh u) % 12)) (uh u))) th pz) H := e9 ▸ hP
        have hD : va_D A (wM cy b (uH u (h2 0 wi (ud u (zh (uh u) % 12)) (uh u))) th pz) := e9 ▸ hD
        clear e9
        have r9 : msk (brk wi (uh u)) k = msk (brk wi (uh u)) 12 := (by rw [show k = 12 by omega])
        rw [r9] at hl
        clear r9
        refine lv_iconst (v := 0) hx hb dX3_hourOn_132 (by decide) ?_
        refine lv_istore (lv' := [(4, .int 0), (0, .ref (b 0)), (1, .int wi), (2, .int (msk (brk wi (uh u)) 12)), (3, .int (ud u (zh (uh u) % 12)))]) hx hb dX3_hourOn_133 hl (by decide) rfl (fun ls hl => ?_)
        have loop135 : ∀ (n9 : Nat) (i : Nat), i ≤ 12 → 12 - i < n9 → ∀ (H : Heap) (locs : List Loc), va_P D vwCl (wM cy b (uH u (h2 i wi (ud u (zh (uh u) % 12)) (uh u))) th pz) H → va_D A (wM cy b (uH u (h2 i wi (ud u (zh (uh u) % 12)) (uh u))) th pz) → va_S A s.heap H locs → ∀ ls : Array Slot, lv_has ls 6 [(0, .ref (b 0)), (1, .int wi), (2, .int (msk (brk wi (uh u)) 12)), (3, .int (ud u (zh (uh u) % 12))), (4, .int (nI i))] → W p l e (headSpec wsX3_hourOn ({ frames := 4, cells := 0, slots := 0, locals := 90 } : Room)).room s m ([.ref (b 0), .int wi] : List Value).toArray below meth c H locs 0 0 (MQ below (va_Qi (fun (r8 : Int32) (_ : Unit) => r8 = msk (brk wi (uh u)) 12) (fun (_ : Unit) t => va_P D vwCl (wM cy b (uH u (hHour 0 12 wi (ud u (zh (uh u) % 12)) (uh u))) th pz) t.heap ∧ va_D A (wM cy b (uH u (hHour 0 12 wi (ud u (zh (uh u) % 12)) (uh u))) th pz)) A) ([.ref (b 0), .int wi] : List Value).toArray s 0 0 A) (F0 m 135 ls []) := by
          intro n9
          induction n9 with
          | zero => intro i hi h9 H locs hP hD hS ls hl; exact absurd h9 (by omega)
          | succ n9 ih135 =>
            intro i hi h9 H locs hP hD hS ls hl
            refine lv_iload hx hb dX3_hourOn_135 (lv_at hl 4 rfl) ?_
            refine lv_bipush (v := 12) hx hb dX3_hourOn_137 (by decide) ?_
            refine lv_icmp_ge (tgt := 217) hx hb dX3_hourOn_139 (by decide) (fun c139 => ?_) (fun c139 => ?_)
            · have n139 : 12 ≤ i := (nI_leI (a := 12) (b := i) (by omega) (by omega)).mp c139
              have e9 : (wM cy b (uH u (h2 i wi (ud u (zh (uh u) % 12)) (uh u))) th pz : va_W) = (wM cy b (uH u (h2 12 wi (ud u (zh (uh u) % 12)) (uh u))) th pz) := (by rw [show i = 12 by omega])
              have hP : va_P D vwCl (wM cy b (uH u (h2 12 wi (ud u (zh (uh u) % 12)) (uh u))) th pz) H := e9 ▸ hP
              have hD : va_D A (wM cy b (uH u (h2 12 wi (ud u (zh (uh u) % 12)) (uh u))) th pz) := e9 ▸ hD
              clear e9
              refine lv_aload_n hx hb dX3_hourOn_217 rfl (lv_at hl 0 rfl) ?_
              refine va_get (D := D) (ci := 3) (v := .ref (b 5)) (C := RX3) (T := TX3) (N := 8) hx hb hts inX3_hourOn_RX3 hown hK hP 0 rfl rfl 6 (by decide) (hts _ kX3_hourOn_1) (fun _ h9 => h9) rfl dX3_hourOn_218 ?_
              refine lv_iconst (v := 1) hx hb dX3_hourOn_221 (by decide) ?_
              refine lv_iconst (v := 0) hx hb dX3_hourOn_222 (by decide) ?_
              refine lv_bipush (v := 30) hx hb dX3_hourOn_223 (by decide) ?_
              refine lv_aload_n hx hb dX3_hourOn_225 rfl (lv_at hl 0 rfl) ?_
              refine va_get (D := D) (ci := 3) (v := .ref (b 5)) (C := RX3) (T := TX3) (N := 8) hx hb hts inX3_hourOn_RX3 hown hK hP 0 rfl rfl 6 (by decide) (hts _ kX3_hourOn_1) (fun _ h9 => h9) rfl dX3_hourOn_226 ?_
              refine lv_iconst (v := 1) hx hb dX3_hourOn_229 (by decide) ?_
              refine pc_iald hx hb hK hP 5 0 rfl rfl (k := 1) (show 1 < 2 by omega) (by decide) dX3_hourOn_230 ?_
              refine lv_iload_n hx hb dX3_hourOn_231 rfl (lv_at hl 3 rfl) ?_
              refine lv_iconst (v := 5) hx hb dX3_hourOn_232 (by decide) ?_
              refine lv_icmp_lt (tgt := 240) hx hb dX3_hourOn_233 (by decide) (fun c233 => ?_) (fun c233 => ?_)
              · refine lv_iconst (v := (-1)) hx hb dX3_hourOn_240 (by decide) ?_
                refine lv_iadd hx hb dX3_hourOn_241 ?_
                refine va_mmin hx hb (by rw [hml]; exact hl.1.symm) hown (hts _ kX3_hourOn_2) (hts _ kX3_hourOn_3) (hts _ kX3_hourOn_4) (hts _ kX3_hourOn_5) (Nat.le_of_ble_eq_true rfl) (Nat.le_of_ble_eq_true rfl) (Nat.le_of_ble_eq_true rfl) (Nat.le_of_ble_eq_true rfl) dX3_hourOn_242 ?_
                refine pc_top (show (if (((mb (h2 12 wi (ud u (zh (uh u) % 12)) (uh u))) 1) + (-1)) < 30 then (((mb (h2 12 wi (ud u (zh (uh u) % 12)) (uh u))) 1) + (-1)) else 30) = mn 30 (((mb (h2 12 wi (ud u (zh (uh u) % 12)) (uh u))) 1) + (-1)) from rfl) ?_
                refine va_mmax hx hb (by rw [hml]; exact hl.1.symm) hown (hts _ kX3_hourOn_6) (hts _ kX3_hourOn_7) (hts _ kX3_hourOn_4) (hts _ kX3_hourOn_8) (Nat.le_of_ble_eq_true rfl) (Nat.le_of_ble_eq_true rfl) (Nat.le_of_ble_eq_true rfl) (Nat.le_of_ble_eq_true rfl) dX3_hourOn_245 ?_
                refine pc_top (show (if 0 < (mn 30 (((mb (h2 12 wi (ud u (zh (uh u) % 12)) (uh u))) 1) + (-1))) then (mn 30 (((mb (h2 12 wi (ud u (zh (uh u) % 12)) (uh u))) 1) + (-1))) else 0) = mx 0 (mn 30 (((mb (h2 12 wi (ud u (zh (uh u) % 12)) (uh u))) 1) + (-1))) from rfl) ?_
                refine pc_iast hx hb hK hP hD hS 5 0 rfl rfl (k := 1) (show 1 < 2 by omega) (by decide) dX3_hourOn_248 (fun H locs hP hD hS => ?_)
                have hP : va_P D vwCl [(b 0, .inr (3, [.int th, .ref (b 1), .int (nI (un u)), .ref (b 2), .ref (b 3), .ref (b 4), .ref (b 5), .ref (b 6)])), (b 1, .inl ((cy 0), 72, .inl (mh (h2 12 wi (ud u (zh (uh u) % 12)) (uh u))))), (b 2, .inl ((cy 0), 36, .inl (mt (ul u) (uz u) (ut u)))), (b 3, .inl ((cy 0), 12, .inl (uw u))), (b 4, .inl ((cy 0), 12, .inl (ud u))), (b 5, .inl ((cy 0), 2, .inl (upd (mb (h2 12 wi (ud u (zh (uh u) % 12)) (uh u))) 1 (mx 0 (mn 30 (((mb (h2 12 wi (ud u (zh (uh u) % 12)) (uh u))) 1) + (-1))))))), (b 6, .inl ((cy 0), 12, .inl pz))] H := hP
                have hD : va_D A [(b 0, .inr (3, [.int th, .ref (b 1), .int (nI (un u)), .ref (b 2), .ref (b 3), .ref (b 4), .ref (b 5), .ref (b 6)])), (b 1, .inl ((cy 0), 72, .inl (mh (h2 12 wi (ud u (zh (uh u) % 12)) (uh u))))), (b 2, .inl ((cy 0), 36, .inl (mt (ul u) (uz u) (ut u)))), (b 3, .inl ((cy 0), 12, .inl (uw u))), (b 4, .inl ((cy 0), 12, .inl (ud u))), (b 5, .inl ((cy 0), 2, .inl (upd (mb (h2 12 wi (ud u (zh (uh u) % 12)) (uh u))) 1 (mx 0 (mn 30 (((mb (h2 12 wi (ud u (zh (uh u) % 12)) (uh u))) 1) + (-1))))))), (b 6, .inl ((cy 0), 12, .inl pz))] := hD
                refine lv_aload_n hx hb dX3_hourOn_249 rfl (lv_at hl 0 rfl) ?_
                refine va_get (D := D) (ci := 3) (v := .ref (b 5)) (C := RX3) (T := TX3) (N := 8) hx hb hts inX3_hourOn_RX3 hown hK hP 0 rfl rfl 6 (by decide) (hts _ kX3_hourOn_1) (fun _ h9 => h9) rfl dX3_hourOn_250 ?_
                refine lv_iconst (v := 0) hx hb dX3_hourOn_253 (by decide) ?_
                refine lv_dup2_11 hx hb dX3_hourOn_254 rfl rfl ?_
                refine pc_iald hx hb hK hP 5 0 rfl rfl (k := 0) (show 0 < 2 by omega) (by decide) dX3_hourOn_255 ?_
                refine pc_top (show (upd (mb (h2 12 wi (ud u (zh (uh u) % 12)) (uh u))) 1 (mx 0 (mn 30 (((mb (h2 12 wi (ud u (zh (uh u) % 12)) (uh u))) 1) + (-1))))) 0 = nI (zh (uh u)) from rfl) ?_
                refine lv_iconst (v := 1) hx hb dX3_hourOn_256 (by decide) ?_
                refine lv_iadd hx hb dX3_hourOn_257 ?_
                refine pc_top (show (nI (zh (uh u))) + 1 = nI (zh (uh u) + 1) from nI_add (zh (uh u)) 1) ?_
                refine pc_iast hx hb hK hP hD hS 5 0 rfl rfl (k := 0) (show 0 < 2 by omega) (by decide) dX3_hourOn_258 (fun H locs hP hD hS => ?_)
                have hP : va_P D vwCl [(b 0, .inr (3, [.int th, .ref (b 1), .int (nI (un u)), .ref (b 2), .ref (b 3), .ref (b 4), .ref (b 5), .ref (b 6)])), (b 1, .inl ((cy 0), 72, .inl (mh (h2 12 wi (ud u (zh (uh u) % 12)) (uh u))))), (b 2, .inl ((cy 0), 36, .inl (mt (ul u) (uz u) (ut u)))), (b 3, .inl ((cy 0), 12, .inl (uw u))), (b 4, .inl ((cy 0), 12, .inl (ud u))), (b 5, .inl ((cy 0), 2, .inl (upd (upd (mb (h2 12 wi (ud u (zh (uh u) % 12)) (uh u))) 1 (mx 0 (mn 30 (((mb (h2 12 wi (ud u (zh (uh u) % 12)) (uh u))) 1) + (-1))))) 0 (nI (zh (uh u) + 1))))), (b 6, .inl ((cy 0), 12, .inl pz))] H := hP
                have hD : va_D A [(b 0, .inr (3, [.int th, .ref (b 1), .int (nI (un u)), .ref (b 2), .ref (b 3), .ref (b 4), .ref (b 5), .ref (b 6)])), (b 1, .inl ((cy 0), 72, .inl (mh (h2 12 wi (ud u (zh (uh u) % 12)) (uh u))))), (b 2, .inl ((cy 0), 36, .inl (mt (ul u) (uz u) (ut u)))), (b 3, .inl ((cy 0), 12, .inl (uw u))), (b 4, .inl ((cy 0), 12, .inl (ud u))), (b 5, .inl ((cy 0), 2, .inl (upd (upd (mb (h2 12 wi (ud u (zh (uh u) % 12)) (uh u))) 1 (mx 0 (mn 30 (((mb (h2 12 wi (ud u (zh (uh u) % 12)) (uh u))) 1) + (-1))))) 0 (nI (zh (uh u) + 1))))), (b 6, .inl ((cy 0), 12, .inl pz))] := hD
                have e9 : ([(b 0, .inr (3, [.int th, .ref (b 1), .int (nI (un u)), .ref (b 2), .ref (b 3), .ref (b 4), .ref (b 5), .ref (b 6)])), (b 1, .inl ((cy 0), 72, .inl (mh (h2 12 wi (ud u (zh (uh u) % 12)) (uh u))))), (b 2, .inl ((cy 0), 36, .inl (mt (ul u) (uz u) (ut u)))), (b 3, .inl ((cy 0), 12, .inl (uw u))), (b 4, .inl ((cy 0), 12, .inl (ud u))), (b 5, .inl ((cy 0), 2, .inl (upd (upd (mb (h2 12 wi (ud u (zh (uh u) % 12)) (uh u))) 1 (mx 0 (mn 30 (((mb (h2 12 wi (ud u (zh (uh u) % 12)) (uh u))) 1) + (-1))))) 0 (nI (zh (uh u) + 1))))), (b 6, .inl ((cy 0), 12, .inl pz))] : va_W) = ([(b 0, .inr (3, [.int th, .ref (b 1), .int (nI (un u)), .ref (b 2), .ref (b 3), .ref (b 4), .ref (b 5), .ref (b 6)])), (b 1, .inl ((cy 0), 72, .inl (mh (hHour 0 12 wi (ud u (zh (uh u) % 12)) (uh u))))), (b 2, .inl ((cy 0), 36, .inl (mt (ul u) (uz u) (ut u)))), (b 3, .inl ((cy 0), 12, .inl (uw u))), (b 4, .inl ((cy 0), 12, .inl (ud u))), (b 5, .inl ((cy 0), 2, .inl (upd (upd (mb (h2 12 wi (ud u (zh (uh u) % 12)) (uh u))) 1 (mx 0 (mn 30 (((mb (h2 12 wi (ud u (zh (uh u) % 12)) (uh u))) 1) + (-1))))) 0 (nI (zh (uh u) + 1))))), (b 6, .inl ((cy 0), 12, .inl pz))]) := (by rw [mh_h2])
                have hP : va_P D vwCl ([(b 0, .inr (3, [.int th, .ref (b 1), .int (nI (un u)), .ref (b 2), .ref (b 3), .ref (b 4), .ref (b 5), .ref (b 6)])), (b 1, .inl ((cy 0), 72, .inl (mh (hHour 0 12 wi (ud u (zh (uh u) % 12)) (uh u))))), (b 2, .inl ((cy 0), 36, .inl (mt (ul u) (uz u) (ut u)))), (b 3, .inl ((cy 0), 12, .inl (uw u))), (b 4, .inl ((cy 0), 12, .inl (ud u))), (b 5, .inl ((cy 0), 2, .inl (upd (upd (mb (h2 12 wi (ud u (zh (uh u) % 12)) (uh u))) 1 (mx 0 (mn 30 (((mb (h2 12 wi (ud u (zh (uh u) % 12)) (uh u))) 1) + (-1))))) 0 (nI (zh (uh u) + 1))))), (b 6, .inl ((cy 0), 12, .inl pz))]) H := e9 ▸ hP
                have hD : va_D A ([(b 0, .inr (3, [.int th, .ref (b 1), .int (nI (un u)), .ref (b 2), .ref (b 3), .ref (b 4), .ref (b 5), .ref (b 6)])), (b 1, .inl ((cy 0), 72, .inl (mh (hHour 0 12 wi (ud u (zh (uh u) % 12)) (uh u))))), (b 2, .inl ((cy 0), 36, .inl (mt (ul u) (uz u) (ut u)))), (b 3, .inl ((cy 0), 12, .inl (uw u))), (b 4, .inl ((cy 0), 12, .inl (ud u))), (b 5, .inl ((cy 0), 2, .inl (upd (upd (mb (h2 12 wi (ud u (zh (uh u) % 12)) (uh u))) 1 (mx 0 (mn 30 (((mb (h2 12 wi (ud u (zh (uh u) % 12)) (uh u))) 1) + (-1))))) 0 (nI (zh (uh u) + 1))))), (b 6, .inl ((cy 0), 12, .inl pz))]) := e9 ▸ hD
                clear e9
                have hP := va_P_row hP 5 rfl (fun j hj => mb_hour (wi := wi) (sw_A (da := (ud u (zh (uh u) % 12))) hb9.2 c233) hj)
                have hD := va_D_addr (ws' := [(b 0, .inr (3, [.int th, .ref (b 1), .int (nI (un u)), .ref (b 2), .ref (b 3), .ref (b 4), .ref (b 5), .ref (b 6)])), (b 1, .inl ((cy 0), 72, .inl (mh (hHour 0 12 wi (ud u (zh (uh u) % 12)) (uh u))))), (b 2, .inl ((cy 0), 36, .inl (mt (ul u) (uz u) (ut u)))), (b 3, .inl ((cy 0), 12, .inl (uw u))), (b 4, .inl ((cy 0), 12, .inl (ud u))), (b 5, .inl ((cy 0), 2, .inl (mb (hHour 0 12 wi (ud u (zh (uh u) % 12)) (uh u))))), (b 6, .inl ((cy 0), 12, .inl pz))]) hD rfl
                have hP : va_P D vwCl (wM cy b (uH u (hHour 0 12 wi (ud u (zh (uh u) % 12)) (uh u))) th pz) H := hP
                have hD : va_D A (wM cy b (uH u (hHour 0 12 wi (ud u (zh (uh u) % 12)) (uh u))) th pz) := hD
                refine lv_iload_n hx hb dX3_hourOn_259 rfl (lv_at hl 2 rfl) ?_
                have hP9 : va_P D vwCl (wM cy b (uH u (hHour 0 12 wi (ud u (zh (uh u) % 12)) (uh u))) th pz) H := hP
                have hD9 : va_D A (wM cy b (uH u (hHour 0 12 wi (ud u (zh (uh u) % 12)) (uh u))) th pz) := hD
                exact W.iret (v := msk (brk wi (uh u)) 12) hx hb hr (fun t ht hW => ⟨⟨msk (brk wi (uh u)) 12, (), rfl, rfl, by rw [ht]; exact hP9, hD9⟩, hS.F ht⟩) hS.2.2 dX3_hourOn_260
              · refine lv_iconst (v := 1) hx hb dX3_hourOn_236 (by decide) ?_
                refine lv_goto (tgt := 241) hx hb dX3_hourOn_237 (by decide) ?_
                refine lv_iadd hx hb dX3_hourOn_241 ?_
                refine va_mmin hx hb (by rw [hml]; exact hl.1.symm) hown (hts _ kX3_hourOn_2) (hts _ kX3_hourOn_3) (hts _ kX3_hourOn_4) (hts _ kX3_hourOn_5) (Nat.le_of_ble_eq_true rfl) (Nat.le_of_ble_eq_true rfl) (Nat.le_of_ble_eq_true rfl) (Nat.le_of_ble_eq_true rfl) dX3_hourOn_242 ?_
                refine pc_top (show (if (((mb (h2 12 wi (ud u (zh (uh u) % 12)) (uh u))) 1) + 1) < 30 then (((mb (h2 12 wi (ud u (zh (uh u) % 12)) (uh u))) 1) + 1) else 30) = mn 30 (((mb (h2 12 wi (ud u (zh (uh u) % 12)) (uh u))) 1) + 1) from rfl) ?_
                refine va_mmax hx hb (by rw [hml]; exact hl.1.symm) hown (hts _ kX3_hourOn_6) (hts _ kX3_hourOn_7) (hts _ kX3_hourOn_4) (hts _ kX3_hourOn_8) (Nat.le_of_ble_eq_true rfl) (Nat.le_of_ble_eq_true rfl) (Nat.le_of_ble_eq_true rfl) (Nat.le_of_ble_eq_true rfl) dX3_hourOn_245 ?_
                refine pc_top (show (if 0 < (mn 30 (((mb (h2 12 wi (ud u (zh (uh u) % 12)) (uh u))) 1) + 1)) then (mn 30 (((mb (h2 12 wi (ud u (zh (uh u) % 12)) (uh u))) 1) + 1)) else 0) = mx 0 (mn 30 (((mb (h2 12 wi (ud u (zh (uh u) % 12)) (uh u))) 1) + 1)) from rfl) ?_
                refine pc_iast hx hb hK hP hD hS 5 0 rfl rfl (k := 1) (show 1 < 2 by omega) (by decide) dX3_hourOn_248 (fun H locs hP hD hS => ?_)
                have hP : va_P D vwCl [(b 0, .inr (3, [.int th, .ref (b 1), .int (nI (un u)), .ref (b 2), .ref (b 3), .ref (b 4), .ref (b 5), .ref (b 6)])), (b 1, .inl ((cy 0), 72, .inl (mh (h2 12 wi (ud u (zh (uh u) % 12)) (uh u))))), (b 2, .inl ((cy 0), 36, .inl (mt (ul u) (uz u) (ut u)))), (b 3, .inl ((cy 0), 12, .inl (uw u))), (b 4, .inl ((cy 0), 12, .inl (ud u))), (b 5, .inl ((cy 0), 2, .inl (upd (mb (h2 12 wi (ud u (zh (uh u) % 12)) (uh u))) 1 (mx 0 (mn 30 (((mb (h2 12 wi (ud u (zh (uh u) % 12)) (uh u))) 1) + 1)))))), (b 6, .inl ((cy 0), 12, .inl pz))] H := hP
                have hD : va_D A [(b 0, .inr (3, [.int th, .ref (b 1), .int (nI (un u)), .ref (b 2), .ref (b 3), .ref (b 4), .ref (b 5), .ref (b 6)])), (b 1, .inl ((cy 0), 72, .inl (mh (h2 12 wi (ud u (zh (uh u) % 12)) (uh u))))), (b 2, .inl ((cy 0), 36, .inl (mt (ul u) (uz u) (ut u)))), (b 3, .inl ((cy 0), 12, .inl (uw u))), (b 4, .inl ((cy 0), 12, .inl (ud u))), (b 5, .inl ((cy 0), 2, .inl (upd (mb (h2 12 wi (ud u (zh (uh u) % 12)) (uh u))) 1 (mx 0 (mn 30 (((mb (h2 12 wi (ud u (zh (uh u) % 12)) (uh u))) 1) + 1)))))), (b 6, .inl ((cy 0), 12, .inl pz))] := hD
                refine lv_aload_n hx hb dX3_hourOn_249 rfl (lv_at hl 0 rfl) ?_
                refine va_get (D := D) (ci := 3) (v := .ref (b 5)) (C := RX3) (T := TX3) (N := 8) hx hb hts inX3_hourOn_RX3 hown hK hP 0 rfl rfl 6 (by decide) (hts _ kX3_hourOn_1) (fun _ h9 => h9) rfl dX3_hourOn_250 ?_
                refine lv_iconst (v := 0) hx hb dX3_hourOn_253 (by decide) ?_
                refine lv_dup2_11 hx hb dX3_hourOn_254 rfl rfl ?_
                refine pc_iald hx hb hK hP 5 0 rfl rfl (k := 0) (show 0 < 2 by omega) (by decide) dX3_hourOn_255 ?_
                refine pc_top (show (upd (mb (h2 12 wi (ud u (zh (uh u) % 12)) (uh u))) 1 (mx 0 (mn 30 (((mb (h2 12 wi (ud u (zh (uh u) % 12)) (uh u))) 1) + 1)))) 0 = nI (zh (uh u)) from rfl) ?_
                refine lv_iconst (v := 1) hx hb dX3_hourOn_256 (by decide) ?_
                refine lv_iadd hx hb dX3_hourOn_257 ?_
                refine pc_top (show (nI (zh (uh u))) + 1 = nI (zh (uh u) + 1) from nI_add (zh (uh u)) 1) ?_
                refine pc_iast hx hb hK hP hD hS 5 0 rfl rfl (k := 0) (show 0 < 2 by omega) (by decide) dX3_hourOn_258 (fun H locs hP hD hS => ?_)
                have hP : va_P D vwCl [(b 0, .inr (3, [.int th, .ref (b 1), .int (nI (un u)), .ref (b 2), .ref (b 3), .ref (b 4), .ref (b 5), .ref (b 6)])), (b 1, .inl ((cy 0), 72, .inl (mh (h2 12 wi (ud u (zh (uh u) % 12)) (uh u))))), (b 2, .inl ((cy 0), 36, .inl (mt (ul u) (uz u) (ut u)))), (b 3, .inl ((cy 0), 12, .inl (uw u))), (b 4, .inl ((cy 0), 12, .inl (ud u))), (b 5, .inl ((cy 0), 2, .inl (upd (upd (mb (h2 12 wi (ud u (zh (uh u) % 12)) (uh u))) 1 (mx 0 (mn 30 (((mb (h2 12 wi (ud u (zh (uh u) % 12)) (uh u))) 1) + 1)))) 0 (nI (zh (uh u) + 1))))), (b 6, .inl ((cy 0), 12, .inl pz))] H := hP
                have hD : va_D A [(b 0, .inr (3, [.int th, .ref (b 1), .int (nI (un u)), .ref (b 2), .ref (b 3), .ref (b 4), .ref (b 5), .ref (b 6)])), (b 1, .inl ((cy 0), 72, .inl (mh (h2 12 wi (ud u (zh (uh u) % 12)) (uh u))))), (b 2, .inl ((cy 0), 36, .inl (mt (ul u) (uz u) (ut u)))), (b 3, .inl ((cy 0), 12, .inl (uw u))), (b 4, .inl ((cy 0), 12, .inl (ud u))), (b 5, .inl ((cy 0), 2, .inl (upd (upd (mb (h2 12 wi (ud u (zh (uh u) % 12)) (uh u))) 1 (mx 0 (mn 30 (((mb (h2 12 wi (ud u (zh (uh u) % 12)) (uh u))) 1) + 1)))) 0 (nI (zh (uh u) + 1))))), (b 6, .inl ((cy 0), 12, .inl pz))] := hD
                have e9 : ([(b 0, .inr (3, [.int th, .ref (b 1), .int (nI (un u)), .ref (b 2), .ref (b 3), .ref (b 4), .ref (b 5), .ref (b 6)])), (b 1, .inl ((cy 0), 72, .inl (mh (h2 12 wi (ud u (zh (uh u) % 12)) (uh u))))), (b 2, .inl ((cy 0), 36, .inl (mt (ul u) (uz u) (ut u)))), (b 3, .inl ((cy 0), 12, .inl (uw u))), (b 4, .inl ((cy 0), 12, .inl (ud u))), (b 5, .inl ((cy 0), 2, .inl (upd (upd (mb (h2 12 wi (ud u (zh (uh u) % 12)) (uh u))) 1 (mx 0 (mn 30 (((mb (h2 12 wi (ud u (zh (uh u) % 12)) (uh u))) 1) + 1)))) 0 (nI (zh (uh u) + 1))))), (b 6, .inl ((cy 0), 12, .inl pz))] : va_W) = ([(b 0, .inr (3, [.int th, .ref (b 1), .int (nI (un u)), .ref (b 2), .ref (b 3), .ref (b 4), .ref (b 5), .ref (b 6)])), (b 1, .inl ((cy 0), 72, .inl (mh (hHour 0 12 wi (ud u (zh (uh u) % 12)) (uh u))))), (b 2, .inl ((cy 0), 36, .inl (mt (ul u) (uz u) (ut u)))), (b 3, .inl ((cy 0), 12, .inl (uw u))), (b 4, .inl ((cy 0), 12, .inl (ud u))), (b 5, .inl ((cy 0), 2, .inl (upd (upd (mb (h2 12 wi (ud u (zh (uh u) % 12)) (uh u))) 1 (mx 0 (mn 30 (((mb (h2 12 wi (ud u (zh (uh u) % 12)) (uh u))) 1) + 1)))) 0 (nI (zh (uh u) + 1))))), (b 6, .inl ((cy 0), 12, .inl pz))]) := (by rw [mh_h2])
                have hP : va_P D vwCl ([(b 0, .inr (3, [.int th, .ref (b 1), .int (nI (un u)), .ref (b 2), .ref (b 3), .ref (b 4), .ref (b 5), .ref (b 6)])), (b 1, .inl ((cy 0), 72, .inl (mh (hHour 0 12 wi (ud u (zh (uh u) % 12)) (uh u))))), (b 2, .inl ((cy 0), 36, .inl (mt (ul u) (uz u) (ut u)))), (b 3, .inl ((cy 0), 12, .inl (uw u))), (b 4, .inl ((cy 0), 12, .inl (ud u))), (b 5, .inl ((cy 0), 2, .inl (upd (upd (mb (h2 12 wi (ud u (zh (uh u) % 12)) (uh u))) 1 (mx 0 (mn 30 (((mb (h2 12 wi (ud u (zh (uh u) % 12)) (uh u))) 1) + 1)))) 0 (nI (zh (uh u) + 1))))), (b 6, .inl ((cy 0), 12, .inl pz))]) H := e9 ▸ hP
                have hD : va_D A ([(b 0, .inr (3, [.int th, .ref (b 1), .int (nI (un u)), .ref (b 2), .ref (b 3), .ref (b 4), .ref (b 5), .ref (b 6)])), (b 1, .inl ((cy 0), 72, .inl (mh (hHour 0 12 wi (ud u (zh (uh u) % 12)) (uh u))))), (b 2, .inl ((cy 0), 36, .inl (mt (ul u) (uz u) (ut u)))), (b 3, .inl ((cy 0), 12, .inl (uw u))), (b 4, .inl ((cy 0), 12, .inl (ud u))), (b 5, .inl ((cy 0), 2, .inl (upd (upd (mb (h2 12 wi (ud u (zh (uh u) % 12)) (uh u))) 1 (mx 0 (mn 30 (((mb (h2 12 wi (ud u (zh (uh u) % 12)) (uh u))) 1) + 1)))) 0 (nI (zh (uh u) + 1))))), (b 6, .inl ((cy 0), 12, .inl pz))]) := e9 ▸ hD
                clear e9
                have hP := va_P_row hP 5 rfl (fun j hj => mb_hour (wi := wi) (sw_B (da := (ud u (zh (uh u) % 12))) hb9.2 c233) hj)
                have hD := va_D_addr (ws' := [(b 0, .inr (3, [.int th, .ref (b 1), .int (nI (un u)), .ref (b 2), .ref (b 3), .ref (b 4), .ref (b 5), .ref (b 6)])), (b 1, .inl ((cy 0), 72, .inl (mh (hHour 0 12 wi (ud u (zh (uh u) % 12)) (uh u))))), (b 2, .inl ((cy 0), 36, .inl (mt (ul u) (uz u) (ut u)))), (b 3, .inl ((cy 0), 12, .inl (uw u))), (b 4, .inl ((cy 0), 12, .inl (ud u))), (b 5, .inl ((cy 0), 2, .inl (mb (hHour 0 12 wi (ud u (zh (uh u) % 12)) (uh u))))), (b 6, .inl ((cy 0), 12, .inl pz))]) hD rfl
                have hP : va_P D vwCl (wM cy b (uH u (hHour 0 12 wi (ud u (zh (uh u) % 12)) (uh u))) th pz) H := hP
                have hD : va_D A (wM cy b (uH u (hHour 0 12 wi (ud u (zh (uh u) % 12)) (uh u))) th pz) := hD
                refine lv_iload_n hx hb dX3_hourOn_259 rfl (lv_at hl 2 rfl) ?_
                have hP9 : va_P D vwCl (wM cy b (uH u (hHour 0 12 wi (ud u (zh (uh u) % 12)) (uh u))) th pz) H := hP
                have hD9 : va_D A (wM cy b (uH u (hHour 0 12 wi (ud u (zh (uh u) % 12)) (uh u))) th pz) := hD
                exact W.iret (v := msk (brk wi (uh u)) 12) hx hb hr (fun t ht hW => ⟨⟨msk (brk wi (uh u)) 12, (), rfl, rfl, by rw [ht]; exact hP9, hD9⟩, hS.F ht⟩) hS.2.2 dX3_hourOn_260
            · have n139 : ¬ (12 ≤ i) := fun h9 => c139 ((nI_leI (a := 12) (b := i) (by omega) (by omega)).mpr h9)
              refine lv_aload_n hx hb dX3_hourOn_142 rfl (lv_at hl 0 rfl) ?_
              refine lv_iload hx hb dX3_hourOn_143 (lv_at hl 4 rfl) ?_
              refine lv_iconst (v := 4) hx hb dX3_hourOn_145 (by decide) ?_
              refine pc_calli (va_runV (As := [.int (nI i), .int 4]) (rest := []) ⟨hx, hb, hml, hown, hts⟩ (mX3_ha l D cy b (uH u (h2 i wi (ud u (zh (uh u) % 12)) (uh u))) th pz i 4 (by omega) (by decide)) (cwV 2 hts gX3_hourOn_X3_ha rfl rfl rfl (by decide +kernel) ⟨Nat.le_of_ble_eq_true rfl, Nat.le_of_ble_eq_true rfl⟩) ⟨fun a U g mk q => ⟨q.1, q.2.1, va_K.moved (u := U) (U := U.calling g mk a) (Vm.Alike.refl U.vm) q.2.2⟩, va_recv hK hP (ci := 3) (q0 := 0) rfl rfl, fun U hU hW => ⟨rfl, by rw [hU]; exact hP, va_K.moved hW.alike hK⟩⟩ rfl rfl hl.1 rfl (lv_room (Nat.le_of_ble_eq_true rfl)) dX3_hourOn_146 ⟨Nat.le_of_ble_eq_true rfl, Nat.le_of_ble_eq_true rfl⟩) (fun r9 hr9 => ?_)
              subst hr9
              refine pc_top (show haF (h2 i wi (ud u (zh (uh u) % 12)) (uh u)) i 4 = zo (h2 i wi (ud u (zh (uh u) % 12)) (uh u)) i from rfl) ?_
              refine pc_top (show zo (h2 i wi (ud u (zh (uh u) % 12)) (uh u)) i = nO wi (uh u) i from (part_lt (by omega))) ?_
              refine lv_if_ne (tgt := 155) hx hb dX3_hourOn_149 (by decide) (fun c149 => ?_) (fun c149 => ?_)
              · refine lv_aload_n hx hb dX3_hourOn_155 rfl (lv_at hl 0 rfl) ?_
                refine lv_iload hx hb dX3_hourOn_156 (lv_at hl 4 rfl) ?_
                refine lv_iconst (v := 3) hx hb dX3_hourOn_158 (by decide) ?_
                refine pc_calli (va_runV (As := [.int (nI i), .int 3]) (rest := []) ⟨hx, hb, hml, hown, hts⟩ (mX3_ha l D cy b (uH u (h2 i wi (ud u (zh (uh u) % 12)) (uh u))) th pz i 3 (by omega) (by decide)) (cwV 2 hts gX3_hourOn_X3_ha rfl rfl rfl (by decide +kernel) ⟨Nat.le_of_ble_eq_true rfl, Nat.le_of_ble_eq_true rfl⟩) ⟨fun a U g mk q => ⟨q.1, q.2.1, va_K.moved (u := U) (U := U.calling g mk a) (Vm.Alike.refl U.vm) q.2.2⟩, va_recv hK hP (ci := 3) (q0 := 0) rfl rfl, fun U hU hW => ⟨rfl, by rw [hU]; exact hP, va_K.moved hW.alike hK⟩⟩ rfl rfl hl.1 rfl (lv_room (Nat.le_of_ble_eq_true rfl)) dX3_hourOn_159 ⟨Nat.le_of_ble_eq_true rfl, Nat.le_of_ble_eq_true rfl⟩) (fun r9 hr9 => ?_)
                subst hr9
                refine pc_top (show haF (h2 i wi (ud u (zh (uh u) % 12)) (uh u)) i 3 = zs (h2 i wi (ud u (zh (uh u) % 12)) (uh u)) i from rfl) ?_
                refine pc_top (show zs (h2 i wi (ud u (zh (uh u) % 12)) (uh u)) i = pull wi (uh u) i from ((part_lt (by omega)).trans (nS_at c149))) ?_
                refine lv_bipush (v := 50) hx hb dX3_hourOn_162 (by decide) ?_
                refine lv_icmp_lt (tgt := 171) hx hb dX3_hourOn_164 (by decide) (fun c164 => ?_) (fun c164 => ?_)
                · refine lv_iload_n hx hb dX3_hourOn_171 rfl (lv_at hl 3 rfl) ?_
                  refine lv_bipush (v := 6) hx hb dX3_hourOn_172 (by decide) ?_
                  refine lv_icmp_lt (tgt := 181) hx hb dX3_hourOn_174 (by decide) (fun c174 => ?_) (fun c174 => ?_)
                  · refine lv_iconst (v := 0) hx hb dX3_hourOn_181 (by decide) ?_
                    refine lv_istore (lv' := [(5, .int 0), (0, .ref (b 0)), (1, .int wi), (2, .int (msk (brk wi (uh u)) 12)), (3, .int (ud u (zh (uh u) % 12))), (4, .int (nI i))]) hx hb dX3_hourOn_182 hl (by decide) rfl (fun ls hl => ?_)
                    refine lv_aload_n hx hb dX3_hourOn_184 rfl (lv_at hl 1 rfl) ?_
                    refine lv_iload hx hb dX3_hourOn_185 (lv_at hl 5 rfl) ?_
                    refine lv_iconst (v := 2) hx hb dX3_hourOn_187 (by decide) ?_
                    refine lv_bipush (v := (-50)) hx hb dX3_hourOn_188 (by decide) ?_
                    refine lv_bipush (v := 50) hx hb dX3_hourOn_190 (by decide) ?_
                    refine lv_aload_n hx hb dX3_hourOn_192 rfl (lv_at hl 1 rfl) ?_
                    refine lv_iload hx hb dX3_hourOn_193 (lv_at hl 5 rfl) ?_
                    refine lv_iconst (v := 2) hx hb dX3_hourOn_195 (by decide) ?_
                    refine pc_calli (va_runV (As := [.int (nI i), .int 2]) (rest := [.int 50, .int (-50), .int 2, .int (nI i), .ref (b 0)]) ⟨hx, hb, hml, hown, hts⟩ (mX3_ha l D cy b (uH u (h2 i wi (ud u (zh (uh u) % 12)) (uh u))) th pz i 2 (by omega) (by decide)) (cwV 2 hts gX3_hourOn_X3_ha rfl rfl rfl (by decide +kernel) ⟨Nat.le_of_ble_eq_true rfl, Nat.le_of_ble_eq_true rfl⟩) ⟨fun a U g mk q => ⟨q.1, q.2.1, va_K.moved (u := U) (U := U.calling g mk a) (Vm.Alike.refl U.vm) q.2.2⟩, va_recv hK hP (ci := 3) (q0 := 0) rfl rfl, fun U hU hW => ⟨rfl, by rw [hU]; exact hP, va_K.moved hW.alike hK⟩⟩ rfl rfl hl.1 rfl (lv_room (Nat.le_of_ble_eq_true rfl)) dX3_hourOn_196 ⟨Nat.le_of_ble_eq_true rfl, Nat.le_of_ble_eq_true rfl⟩) (fun r9 hr9 => ?_)
                    subst hr9
                    refine pc_top (show haF (h2 i wi (ud u (zh (uh u) % 12)) (uh u)) i 2 = zd (h2 i wi (ud u (zh (uh u) % 12)) (uh u)) i from rfl) ?_
                    refine pc_top (show zd (h2 i wi (ud u (zh (uh u) % 12)) (uh u)) i = zd (uh u) i from (part_at.trans ((part_lt (by omega)).trans (n1D_at c149)))) ?_
                    refine lv_iload hx hb dX3_hourOn_199 (lv_at hl 0 rfl) ?_
                    refine lv_iadd hx hb dX3_hourOn_201 ?_
                    refine va_mmin hx hb (by rw [hml]; exact hl.1.symm) hown (hts _ kX3_hourOn_2) (hts _ kX3_hourOn_3) (hts _ kX3_hourOn_4) (hts _ kX3_hourOn_5) (Nat.le_of_ble_eq_true rfl) (Nat.le_of_ble_eq_true rfl) (Nat.le_of_ble_eq_true rfl) (Nat.le_of_ble_eq_true rfl) dX3_hourOn_202 ?_
                    refine pc_top (show (if ((zd (uh u) i) + 0) < 50 then ((zd (uh u) i) + 0) else 50) = mn 50 ((zd (uh u) i) + 0) from rfl) ?_
                    refine va_mmax hx hb (by rw [hml]; exact hl.1.symm) hown (hts _ kX3_hourOn_6) (hts _ kX3_hourOn_7) (hts _ kX3_hourOn_4) (hts _ kX3_hourOn_8) (Nat.le_of_ble_eq_true rfl) (Nat.le_of_ble_eq_true rfl) (Nat.le_of_ble_eq_true rfl) (Nat.le_of_ble_eq_true rfl) dX3_hourOn_205 ?_
                    refine pc_top (show (if (-50) < (mn 50 ((zd (uh u) i) + 0)) then (mn 50 ((zd (uh u) i) + 0)) else (-50)) = mx (-50) (mn 50 ((zd (uh u) i) + 0)) from rfl) ?_
                    have hPc := hP.sub (ws' := wM cy b (uH u (h2 i wi (ud u (zh (uh u) % 12)) (uh u))) th pz) [0, 1, 2, 3, 4, 5, 6] rfl
                    have hDc := hD.sub (ws' := wM cy b (uH u (h2 i wi (ud u (zh (uh u) % 12)) (uh u))) th pz) [0, 1, 2, 3, 4, 5, 6] (by decide) rfl
                    have hFc := va_free (wc := wM cy b (uH u (h2 i wi (ud u (zh (uh u) % 12)) (uh u))) th pz) hD hS hA [0, 1, 2, 3, 4, 5, 6] rfl
                    refine va_callv (va_runV (As := [.int (nI i), .int 2, .int (mx (-50) (mn 50 ((zd (uh u) i) + 0)))]) (rest := []) ⟨hx, hb, hml, hown, hts⟩ (mX3_put l D cy H.size b (uH u (h2 i wi (ud u (zh (uh u) % 12)) (uh u))) th pz i 2 (by omega) (by decide) (mx (-50) (mn 50 (zd (uh u) i + 0)))) (cwV 3 hts gX3_hourOn_X3_put rfl rfl rfl (by decide +kernel) ⟨Nat.le_of_ble_eq_true rfl, Nat.le_of_ble_eq_true rfl⟩) ⟨fun a U g mk q => ⟨q.1, q.2.1, q.2.2.1, va_K.moved (u := U) (U := U.calling g mk a) (Vm.Alike.refl U.vm) q.2.2.2.1, q.2.2.2.2⟩, va_recv hK hPc (ci := 3) (q0 := 0) rfl rfl, fun U hU hW => ⟨rfl, by rw [hU], by rw [hU]; exact hPc, va_K.moved hW.alike hK, hDc.weaken (fun _ _ _ _ => trivial)⟩⟩ rfl rfl hl.1 rfl (lv_room (Nat.le_of_ble_eq_true rfl)) dX3_hourOn_208 ⟨Nat.le_of_ble_eq_true rfl, Nat.le_of_ble_eq_true rfl⟩) hS (fun q _ h => hFc q h) hFc (fun u9 t9 H1 locs ht9 hvm9 hw9 hB9 hz9 hk9 hS => ?_)
                    obtain ⟨hP1, hD1⟩ := hB9
                    rw [ht9] at hP1
                    obtain ⟨hP, hD⟩ := va_join (wr := []) (w1 := wM cy b (uH u (putH (h2 i wi (ud u (zh (uh u) % 12)) (uh u)) i 2 (mx (-50) (mn 50 (zd (uh u) i + 0))))) th pz) hP hD [0, 1, 2, 3, 4, 5, 6] [] rfl rfl (by decide) (by decide) hk9 hFc hP1 hD1
                    generalize H1 = H at hP hS ⊢
                    have hP : va_P D vwCl (wM cy b (uH u (putH (h2 i wi (ud u (zh (uh u) % 12)) (uh u)) i 2 (mx (-50) (mn 50 (zd (uh u) i + 0))))) th pz) H := hP.sub [0, 1, 2, 3, 4, 5, 6] rfl
                    have hD : va_D A (wM cy b (uH u (putH (h2 i wi (ud u (zh (uh u) % 12)) (uh u)) i 2 (mx (-50) (mn 50 (zd (uh u) i + 0))))) th pz) := hD.sub [0, 1, 2, 3, 4, 5, 6] (by decide) rfl
                    clear hP1 hD1 hk9 hz9 ht9 hvm9 hPc hDc hFc
                    have e9 : (wM cy b (uH u (putH (h2 i wi (ud u (zh (uh u) % 12)) (uh u)) i 2 (mx (-50) (mn 50 (zd (uh u) i + 0))))) th pz : va_W) = (wM cy b (uH u (h2 (i + 1) wi (ud u (zh (uh u) % 12)) (uh u))) th pz) := (by rw [h2_put c149 (sl_A (hb9.1 i (by omega)) c164 c174)])
                    have hP : va_P D vwCl (wM cy b (uH u (h2 (i + 1) wi (ud u (zh (uh u) % 12)) (uh u))) th pz) H := e9 ▸ hP
                    have hD : va_D A (wM cy b (uH u (h2 (i + 1) wi (ud u (zh (uh u) % 12)) (uh u))) th pz) := e9 ▸ hD
                    clear e9
                    refine lv_iinc (v := nI (i + 1)) (lv' := [(4, .int (nI (i + 1))), (5, .int 0), (0, .ref (b 0)), (1, .int wi), (2, .int (msk (brk wi (uh u)) 12)), (3, .int (ud u (zh (uh u) % 12)))]) hx hb dX3_hourOn_211 hl (k := 5) rfl ((show (nI i) + Int32.ofInt 1 = (nI i) + 1 from rfl).trans (show (nI i) + 1 = nI (i + 1) from nI_add i 1)) (by decide) rfl (fun ls hl => ?_)
                    refine lv_goto (tgt := 135) hx hb dX3_hourOn_214 (by decide) ?_
                    exact ih135 (i + 1) (by omega) (by omega) _ _ hP hD hS ls (lv_sub hl [2, 3, 4, 5, 0] rfl)
                  · refine lv_iconst (v := 1) hx hb dX3_hourOn_177 (by decide) ?_
                    refine lv_goto (tgt := 182) hx hb dX3_hourOn_178 (by decide) ?_
                    refine lv_istore (lv' := [(5, .int 1), (0, .ref (b 0)), (1, .int wi), (2, .int (msk (brk wi (uh u)) 12)), (3, .int (ud u (zh (uh u) % 12))), (4, .int (nI i))]) hx hb dX3_hourOn_182 hl (by decide) rfl (fun ls hl => ?_)
                    refine lv_aload_n hx hb dX3_hourOn_184 rfl (lv_at hl 1 rfl) ?_
                    refine lv_iload hx hb dX3_hourOn_185 (lv_at hl 5 rfl) ?_
                    refine lv_iconst (v := 2) hx hb dX3_hourOn_187 (by decide) ?_
                    refine lv_bipush (v := (-50)) hx hb dX3_hourOn_188 (by decide) ?_
                    refine lv_bipush (v := 50) hx hb dX3_hourOn_190 (by decide) ?_
                    refine lv_aload_n hx hb dX3_hourOn_192 rfl (lv_at hl 1 rfl) ?_
                    refine lv_iload hx hb dX3_hourOn_193 (lv_at hl 5 rfl) ?_
                    refine lv_iconst (v := 2) hx hb dX3_hourOn_195 (by decide) ?_
                    refine pc_calli (va_runV (As := [.int (nI i), .int 2]) (rest := [.int 50, .int (-50), .int 2, .int (nI i), .ref (b 0)]) ⟨hx, hb, hml, hown, hts⟩ (mX3_ha l D cy b (uH u (h2 i wi (ud u (zh (uh u) % 12)) (uh u))) th pz i 2 (by omega) (by decide)) (cwV 2 hts gX3_hourOn_X3_ha rfl rfl rfl (by decide +kernel) ⟨Nat.le_of_ble_eq_true rfl, Nat.le_of_ble_eq_true rfl⟩) ⟨fun a U g mk q => ⟨q.1, q.2.1, va_K.moved (u := U) (U := U.calling g mk a) (Vm.Alike.refl U.vm) q.2.2⟩, va_recv hK hP (ci := 3) (q0 := 0) rfl rfl, fun U hU hW => ⟨rfl, by rw [hU]; exact hP, va_K.moved hW.alike hK⟩⟩ rfl rfl hl.1 rfl (lv_room (Nat.le_of_ble_eq_true rfl)) dX3_hourOn_196 ⟨Nat.le_of_ble_eq_true rfl, Nat.le_of_ble_eq_true rfl⟩) (fun r9 hr9 => ?_)
                    subst hr9
                    refine pc_top (show haF (h2 i wi (ud u (zh (uh u) % 12)) (uh u)) i 2 = zd (h2 i wi (ud u (zh (uh u) % 12)) (uh u)) i from rfl) ?_
                    refine pc_top (show zd (h2 i wi (ud u (zh (uh u) % 12)) (uh u)) i = zd (uh u) i from (part_at.trans ((part_lt (by omega)).trans (n1D_at c149)))) ?_
                    refine lv_iload hx hb dX3_hourOn_199 (lv_at hl 0 rfl) ?_
                    refine lv_iadd hx hb dX3_hourOn_201 ?_
                    refine va_mmin hx hb (by rw [hml]; exact hl.1.symm) hown (hts _ kX3_hourOn_2) (hts _ kX3_hourOn_3) (hts _ kX3_hourOn_4) (hts _ kX3_hourOn_5) (Nat.le_of_ble_eq_true rfl) (Nat.le_of_ble_eq_true rfl) (Nat.le_of_ble_eq_true rfl) (Nat.le_of_ble_eq_true rfl) dX3_hourOn_202 ?_
                    refine pc_top (show (if ((zd (uh u) i) + 1) < 50 then ((zd (uh u) i) + 1) else 50) = mn 50 ((zd (uh u) i) + 1) from rfl) ?_
                    refine va_mmax hx hb (by rw [hml]; exact hl.1.symm) hown (hts _ kX3_hourOn_6) (hts _ kX3_hourOn_7) (hts _ kX3_hourOn_4) (hts _ kX3_hourOn_8) (Nat.le_of_ble_eq_true rfl) (Nat.le_of_ble_eq_true rfl) (Nat.le_of_ble_eq_true rfl) (Nat.le_of_ble_eq_true rfl) dX3_hourOn_205 ?_
                    refine pc_top (show (if (-50) < (mn 50 ((zd (uh u) i) + 1)) then (mn 50 ((zd (uh u) i) + 1)) else (-50)) = mx (-50) (mn 50 ((zd (uh u) i) + 1)) from rfl) ?_
                    have hPc := hP.sub (ws' := wM cy b (uH u (h2 i wi (ud u (zh (uh u) % 12)) (uh u))) th pz) [0, 1, 2, 3, 4, 5, 6] rfl
                    have hDc := hD.sub (ws' := wM cy b (uH u (h2 i wi (ud u (zh (uh u) % 12)) (uh u))) th pz) [0, 1, 2, 3, 4, 5, 6] (by decide) rfl
                    have hFc := va_free (wc := wM cy b (uH u (h2 i wi (ud u (zh (uh u) % 12)) (uh u))) th pz) hD hS hA [0, 1, 2, 3, 4, 5, 6] rfl
                    refine va_callv (va_runV (As := [.int (nI i), .int 2, .int (mx (-50) (mn 50 ((zd (uh u) i) + 1)))]) (rest := []) ⟨hx, hb, hml, hown, hts⟩ (mX3_put l D cy H.size b (uH u (h2 i wi (ud u (zh (uh u) % 12)) (uh u))) th pz i 2 (by omega) (by decide) (mx (-50) (mn 50 (zd (uh u) i + 1)))) (cwV 3 hts gX3_hourOn_X3_put rfl rfl rfl (by decide +kernel) ⟨Nat.le_of_ble_eq_true rfl, Nat.le_of_ble_eq_true rfl⟩) ⟨fun a U g mk q => ⟨q.1, q.2.1, q.2.2.1, va_K.moved (u := U) (U := U.calling g mk a) (Vm.Alike.refl U.vm) q.2.2.2.1, q.2.2.2.2⟩, va_recv hK hPc (ci := 3) (q0 := 0) rfl rfl, fun U hU hW => ⟨rfl, by rw [hU], by rw [hU]; exact hPc, va_K.moved hW.alike hK, hDc.weaken (fun _ _ _ _ => trivial)⟩⟩ rfl rfl hl.1 rfl (lv_room (Nat.le_of_ble_eq_true rfl)) dX3_hourOn_208 ⟨Nat.le_of_ble_eq_true rfl, Nat.le_of_ble_eq_true rfl⟩) hS (fun q _ h => hFc q h) hFc (fun u9 t9 H1 locs ht9 hvm9 hw9 hB9 hz9 hk9 hS => ?_)
                    obtain ⟨hP1, hD1⟩ := hB9
                    rw [ht9] at hP1
                    obtain ⟨hP, hD⟩ := va_join (wr := []) (w1 := wM cy b (uH u (putH (h2 i wi (ud u (zh (uh u) % 12)) (uh u)) i 2 (mx (-50) (mn 50 (zd (uh u) i + 1))))) th pz) hP hD [0, 1, 2, 3, 4, 5, 6] [] rfl rfl (by decide) (by decide) hk9 hFc hP1 hD1
                    generalize H1 = H at hP hS ⊢
                    have hP : va_P D vwCl (wM cy b (uH u (putH (h2 i wi (ud u (zh (uh u) % 12)) (uh u)) i 2 (mx (-50) (mn 50 (zd (uh u) i + 1))))) th pz) H := hP.sub [0, 1, 2, 3, 4, 5, 6] rfl
                    have hD : va_D A (wM cy b (uH u (putH (h2 i wi (ud u (zh (uh u) % 12)) (uh u)) i 2 (mx (-50) (mn 50 (zd (uh u) i + 1))))) th pz) := hD.sub [0, 1, 2, 3, 4, 5, 6] (by decide) rfl
                    clear hP1 hD1 hk9 hz9 ht9 hvm9 hPc hDc hFc
                    have e9 : (wM cy b (uH u (putH (h2 i wi (ud u (zh (uh u) % 12)) (uh u)) i 2 (mx (-50) (mn 50 (zd (uh u) i + 1))))) th pz : va_W) = (wM cy b (uH u (h2 (i + 1) wi (ud u (zh (uh u) % 12)) (uh u))) th pz) := (by rw [h2_put c149 (sl_B (hb9.1 i (by omega)) c164 c174)])
                    have hP : va_P D vwCl (wM cy b (uH u (h2 (i + 1) wi (ud u (zh (uh u) % 12)) (uh u))) th pz) H := e9 ▸ hP
                    have hD : va_D A (wM cy b (uH u (h2 (i + 1) wi (ud u (zh (uh u) % 12)) (uh u))) th pz) := e9 ▸ hD
                    clear e9
                    refine lv_iinc (v := nI (i + 1)) (lv' := [(4, .int (nI (i + 1))), (5, .int 1), (0, .ref (b 0)), (1, .int wi), (2, .int (msk (brk wi (uh u)) 12)), (3, .int (ud u (zh (uh u) % 12)))]) hx hb dX3_hourOn_211 hl (k := 5) rfl ((show (nI i) + Int32.ofInt 1 = (nI i) + 1 from rfl).trans (show (nI i) + 1 = nI (i + 1) from nI_add i 1)) (by decide) rfl (fun ls hl => ?_)
                    refine lv_goto (tgt := 135) hx hb dX3_hourOn_214 (by decide) ?_
                    exact ih135 (i + 1) (by omega) (by omega) _ _ hP hD hS ls (lv_sub hl [2, 3, 4, 5, 0] rfl)
                · refine lv_iconst (v := (-1)) hx hb dX3_hourOn_167 (by decide) ?_
                  refine lv_goto (tgt := 182) hx hb dX3_hourOn_168 (by decide) ?_
                  refine lv_istore (lv' := [(5, .int (-1)), (0, .ref (b 0)), (1, .int wi), (2, .int (msk (brk wi (uh u)) 12)), (3, .int (ud u (zh (uh u) % 12))), (4, .int (nI i))]) hx hb dX3_hourOn_182 hl (by decide) rfl (fun ls hl => ?_)
                  refine lv_aload_n hx hb dX3_hourOn_184 rfl (lv_at hl 1 rfl) ?_
                  refine lv_iload hx hb dX3_hourOn_185 (lv_at hl 5 rfl) ?_
                  refine lv_iconst (v := 2) hx hb dX3_hourOn_187 (by decide) ?_
                  refine lv_bipush (v := (-50)) hx hb dX3_hourOn_188 (by decide) ?_
                  refine lv_bipush (v := 50) hx hb dX3_hourOn_190 (by decide) ?_
                  refine lv_aload_n hx hb dX3_hourOn_192 rfl (lv_at hl 1 rfl) ?_
                  refine lv_iload hx hb dX3_hourOn_193 (lv_at hl 5 rfl) ?_
                  refine lv_iconst (v := 2) hx hb dX3_hourOn_195 (by decide) ?_
                  refine pc_calli (va_runV (As := [.int (nI i), .int 2]) (rest := [.int 50, .int (-50), .int 2, .int (nI i), .ref (b 0)]) ⟨hx, hb, hml, hown, hts⟩ (mX3_ha l D cy b (uH u (h2 i wi (ud u (zh (uh u) % 12)) (uh u))) th pz i 2 (by omega) (by decide)) (cwV 2 hts gX3_hourOn_X3_ha rfl rfl rfl (by decide +kernel) ⟨Nat.le_of_ble_eq_true rfl, Nat.le_of_ble_eq_true rfl⟩) ⟨fun a U g mk q => ⟨q.1, q.2.1, va_K.moved (u := U) (U := U.calling g mk a) (Vm.Alike.refl U.vm) q.2.2⟩, va_recv hK hP (ci := 3) (q0 := 0) rfl rfl, fun U hU hW => ⟨rfl, by rw [hU]; exact hP, va_K.moved hW.alike hK⟩⟩ rfl rfl hl.1 rfl (lv_room (Nat.le_of_ble_eq_true rfl)) dX3_hourOn_196 ⟨Nat.le_of_ble_eq_true rfl, Nat.le_of_ble_eq_true rfl⟩) (fun r9 hr9 => ?_)
                  subst hr9
                  refine pc_top (show haF (h2 i wi (ud u (zh (uh u) % 12)) (uh u)) i 2 = zd (h2 i wi (ud u (zh (uh u) % 12)) (uh u)) i from rfl) ?_
                  refine pc_top (show zd (h2 i wi (ud u (zh (uh u) % 12)) (uh u)) i = zd (uh u) i from (part_at.trans ((part_lt (by omega)).trans (n1D_at c149)))) ?_
                  refine lv_iload hx hb dX3_hourOn_199 (lv_at hl 0 rfl) ?_
                  refine lv_iadd hx hb dX3_hourOn_201 ?_
                  refine va_mmin hx hb (by rw [hml]; exact hl.1.symm) hown (hts _ kX3_hourOn_2) (hts _ kX3_hourOn_3) (hts _ kX3_hourOn_4) (hts _ kX3_hourOn_5) (Nat.le_of_ble_eq_true rfl) (Nat.le_of_ble_eq_true rfl) (Nat.le_of_ble_eq_true rfl) (Nat.le_of_ble_eq_true rfl) dX3_hourOn_202 ?_
                  refine pc_top (show (if ((zd (uh u) i) + (-1)) < 50 then ((zd (uh u) i) + (-1)) else 50) = mn 50 ((zd (uh u) i) + (-1)) from rfl) ?_
                  refine va_mmax hx hb (by rw [hml]; exact hl.1.symm) hown (hts _ kX3_hourOn_6) (hts _ kX3_hourOn_7) (hts _ kX3_hourOn_4) (hts _ kX3_hourOn_8) (Nat.le_of_ble_eq_true rfl) (Nat.le_of_ble_eq_true rfl) (Nat.le_of_ble_eq_true rfl) (Nat.le_of_ble_eq_true rfl) dX3_hourOn_205 ?_
                  refine pc_top (show (if (-50) < (mn 50 ((zd (uh u) i) + (-1))) then (mn 50 ((zd (uh u) i) + (-1))) else (-50)) = mx (-50) (mn 50 ((zd (uh u) i) + (-1))) from rfl) ?_
                  have hPc := hP.sub (ws' := wM cy b (uH u (h2 i wi (ud u (zh (uh u) % 12)) (uh u))) th pz) [0, 1, 2, 3, 4, 5, 6] rfl
                  have hDc := hD.sub (ws' := wM cy b (uH u (h2 i wi (ud u (zh (uh u) % 12)) (uh u))) th pz) [0, 1, 2, 3, 4, 5, 6] (by decide) rfl
                  have hFc := va_free (wc := wM cy b (uH u (h2 i wi (ud u (zh (uh u) % 12)) (uh u))) th pz) hD hS hA [0, 1, 2, 3, 4, 5, 6] rfl
                  refine va_callv (va_runV (As := [.int (nI i), .int 2, .int (mx (-50) (mn 50 ((zd (uh u) i) + (-1))))]) (rest := []) ⟨hx, hb, hml, hown, hts⟩ (mX3_put l D cy H.size b (uH u (h2 i wi (ud u (zh (uh u) % 12)) (uh u))) th pz i 2 (by omega) (by decide) (mx (-50) (mn 50 (zd (uh u) i + (-1))))) (cwV 3 hts gX3_hourOn_X3_put rfl rfl rfl (by decide +kernel) ⟨Nat.le_of_ble_eq_true rfl, Nat.le_of_ble_eq_true rfl⟩) ⟨fun a U g mk q => ⟨q.1, q.2.1, q.2.2.1, va_K.moved (u := U) (U := U.calling g mk a) (Vm.Alike.refl U.vm) q.2.2.2.1, q.2.2.2.2⟩, va_recv hK hPc (ci := 3) (q0 := 0) rfl rfl, fun U hU hW => ⟨rfl, by rw [hU], by rw [hU]; exact hPc, va_K.moved hW.alike hK, hDc.weaken (fun _ _ _ _ => trivial)⟩⟩ rfl rfl hl.1 rfl (lv_room (Nat.le_of_ble_eq_true rfl)) dX3_hourOn_208 ⟨Nat.le_of_ble_eq_true rfl, Nat.le_of_ble_eq_true rfl⟩) hS (fun q _ h => hFc q h) hFc (fun u9 t9 H1 locs ht9 hvm9 hw9 hB9 hz9 hk9 hS => ?_)
                  obtain ⟨hP1, hD1⟩ := hB9
                  rw [ht9] at hP1
                  obtain ⟨hP, hD⟩ := va_join (wr := []) (w1 := wM cy b (uH u (putH (h2 i wi (ud u (zh (uh u) % 12)) (uh u)) i 2 (mx (-50) (mn 50 (zd (uh u) i + (-1)))))) th pz) hP hD [0, 1, 2, 3, 4, 5, 6] [] rfl rfl (by decide) (by decide) hk9 hFc hP1 hD1
                  generalize H1 = H at hP hS ⊢
                  have hP : va_P D vwCl (wM cy b (uH u (putH (h2 i wi (ud u (zh (uh u) % 12)) (uh u)) i 2 (mx (-50) (mn 50 (zd (uh u) i + (-1)))))) th pz) H := hP.sub [0, 1, 2, 3, 4, 5, 6] rfl
                  have hD : va_D A (wM cy b (uH u (putH (h2 i wi (ud u (zh (uh u) % 12)) (uh u)) i 2 (mx (-50) (mn 50 (zd (uh u) i + (-1)))))) th pz) := hD.sub [0, 1, 2, 3, 4, 5, 6] (by decide) rfl
                  clear hP1 hD1 hk9 hz9 ht9 hvm9 hPc hDc hFc
                  have e9 : (wM cy b (uH u (putH (h2 i wi (ud u (zh (uh u) % 12)) (uh u)) i 2 (mx (-50) (mn 50 (zd (uh u) i + (-1)))))) th pz : va_W) = (wM cy b (uH u (h2 (i + 1) wi (ud u (zh (uh u) % 12)) (uh u))) th pz) := (by rw [h2_put c149 (sl_C (hb9.1 i (by omega)) c164)])
                  have hP : va_P D vwCl (wM cy b (uH u (h2 (i + 1) wi (ud u (zh (uh u) % 12)) (uh u))) th pz) H := e9 ▸ hP
                  have hD : va_D A (wM cy b (uH u (h2 (i + 1) wi (ud u (zh (uh u) % 12)) (uh u))) th pz) := e9 ▸ hD
                  clear e9
                  refine lv_iinc (v := nI (i + 1)) (lv' := [(4, .int (nI (i + 1))), (5, .int (-1)), (0, .ref (b 0)), (1, .int wi), (2, .int (msk (brk wi (uh u)) 12)), (3, .int (ud u (zh (uh u) % 12)))]) hx hb dX3_hourOn_211 hl (k := 5) rfl ((show (nI i) + Int32.ofInt 1 = (nI i) + 1 from rfl).trans (show (nI i) + 1 = nI (i + 1) from nI_add i 1)) (by decide) rfl (fun ls hl => ?_)
                  refine lv_goto (tgt := 135) hx hb dX3_hourOn_214 (by decide) ?_
                  exact ih135 (i + 1) (by omega) (by omega) _ _ hP hD hS ls (lv_sub hl [2, 3, 4, 5, 0] rfl)
              · refine lv_goto (tgt := 211) hx hb dX3_hourOn_152 (by decide) ?_
                have e9 : (wM cy b (uH u (h2 i wi (ud u (zh (uh u) % 12)) (uh u))) th pz : va_W) = (wM cy b (uH u (h2 (i + 1) wi (ud u (zh (uh u) % 12)) (uh u))) th pz) := (by rw [h2_skip (by omega) c149])
                have hP : va_P D vwCl (wM cy b (uH u (h2 (i + 1) wi (ud u (zh (uh u) % 12)) (uh u))) th pz) H := e9 ▸ hP
                have hD : va_D A (wM cy b (uH u (h2 (i + 1) wi (ud u (zh (uh u) % 12)) (uh u))) th pz) := e9 ▸ hD
                clear e9
                refine lv_iinc (v := nI (i + 1)) (lv' := [(4, .int (nI (i + 1))), (0, .ref (b 0)), (1, .int wi), (2, .int (msk (brk wi (uh u)) 12)), (3, .int (ud u (zh (uh u) % 12)))]) hx hb dX3_hourOn_211 hl (k := 4) rfl ((show (nI i) + Int32.ofInt 1 = (nI i) + 1 from rfl).trans (show (nI i) + 1 = nI (i + 1) from nI_add i 1)) (by decide) rfl (fun ls hl => ?_)
                refine lv_goto (tgt := 135) hx hb dX3_hourOn_214 (by decide) ?_
                exact ih135 (i + 1) (by omega) (by omega) _ _ hP hD hS ls (lv_sub hl [1, 2, 3, 4, 0] rfl)
        exact loop135 (12 + 1) 0 (by decide) (by omega) _ _ hP hD hS ls (lv_sub hl [1, 2, 3, 4, 0] rfl)
      · have n24 : ¬ (12 ≤ k) := fun h9 => c24 ((nI_leI (a := 12) (b := k) (by omega) (by omega)).mpr h9)
        refine lv_aload_n hx hb dX3_hourOn_27 rfl (lv_at hl 0 rfl) ?_
        refine lv_iload hx hb dX3_hourOn_28 (lv_at hl 4 rfl) ?_
        refine lv_iconst (v := 4) hx hb dX3_hourOn_30 (by decide) ?_
        refine pc_calli (va_runV (As := [.int (nI k), .int 4]) (rest := []) ⟨hx, hb, hml, hown, hts⟩ (mX3_ha l D cy b (uH u (h1 k wi (uh u))) th pz k 4 (by omega) (by decide)) (cwV 2 hts gX3_hourOn_X3_ha rfl rfl rfl (by decide +kernel) ⟨Nat.le_of_ble_eq_true rfl, Nat.le_of_ble_eq_true rfl⟩) ⟨fun a U g mk q => ⟨q.1, q.2.1, va_K.moved (u := U) (U := U.calling g mk a) (Vm.Alike.refl U.vm) q.2.2⟩, va_recv hK hP (ci := 3) (q0 := 0) rfl rfl, fun U hU hW => ⟨rfl, by rw [hU]; exact hP, va_K.moved hW.alike hK⟩⟩ rfl rfl hl.1 rfl (lv_room (Nat.le_of_ble_eq_true rfl)) dX3_hourOn_31 ⟨Nat.le_of_ble_eq_true rfl, Nat.le_of_ble_eq_true rfl⟩) (fun r9 hr9 => ?_)
        subst hr9
        refine pc_top (show haF (h1 k wi (uh u)) k 4 = zo (h1 k wi (uh u)) k from rfl) ?_
        refine pc_top (show zo (h1 k wi (uh u)) k = zo (uh u) k from part_at) ?_
        refine lv_if_ne (tgt := 40) hx hb dX3_hourOn_34 (by decide) (fun c34 => ?_) (fun c34 => ?_)
        · refine lv_iconst (v := 0) hx hb dX3_hourOn_40 (by decide) ?_
          refine lv_aload_n hx hb dX3_hourOn_41 rfl (lv_at hl 0 rfl) ?_
          refine lv_iload hx hb dX3_hourOn_42 (lv_at hl 4 rfl) ?_
          refine lv_iconst (v := 3) hx hb dX3_hourOn_44 (by decide) ?_
          refine pc_calli (va_runV (As := [.int (nI k), .int 3]) (rest := [.int 0]) ⟨hx, hb, hml, hown, hts⟩ (mX3_ha l D cy b (uH u (h1 k wi (uh u))) th pz k 3 (by omega) (by decide)) (cwV 2 hts gX3_hourOn_X3_ha rfl rfl rfl (by decide +kernel) ⟨Nat.le_of_ble_eq_true rfl, Nat.le_of_ble_eq_true rfl⟩) ⟨fun a U g mk q => ⟨q.1, q.2.1, va_K.moved (u := U) (U := U.calling g mk a) (Vm.Alike.refl U.vm) q.2.2⟩, va_recv hK hP (ci := 3) (q0 := 0) rfl rfl, fun U hU hW => ⟨rfl, by rw [hU]; exact hP, va_K.moved hW.alike hK⟩⟩ rfl rfl hl.1 rfl (lv_room (Nat.le_of_ble_eq_true rfl)) dX3_hourOn_45 ⟨Nat.le_of_ble_eq_true rfl, Nat.le_of_ble_eq_true rfl⟩) (fun r9 hr9 => ?_)
          subst hr9
          refine pc_top (show haF (h1 k wi (uh u)) k 3 = zs (h1 k wi (uh u)) k from rfl) ?_
          refine pc_top (show zs (h1 k wi (uh u)) k = zs (uh u) k from part_at) ?_
          refine lv_iload_n hx hb dX3_hourOn_48 rfl (lv_at hl 1 rfl) ?_
          refine lv_aload_n hx hb dX3_hourOn_49 rfl (lv_at hl 0 rfl) ?_
          refine lv_iload hx hb dX3_hourOn_50 (lv_at hl 4 rfl) ?_
          refine pc_calli (va_runV (As := [.int (nI k)]) (rest := [.int wi, .int (zs (uh u) k), .int 0]) ⟨hx, hb, hml, hown, hts⟩ (mX3_tone l D cy b (uH u (h1 k wi (uh u))) th pz k (by omega)) (cwV 1 hts gX3_hourOn_X3_tone rfl rfl rfl (by decide +kernel) ⟨Nat.le_of_ble_eq_true rfl, Nat.le_of_ble_eq_true rfl⟩) ⟨fun a U g mk q => ⟨q.1, q.2.1, va_K.moved (u := U) (U := U.calling g mk a) (Vm.Alike.refl U.vm) q.2.2⟩, va_recv hK hP (ci := 3) (q0 := 0) rfl rfl, fun U hU hW => ⟨rfl, by rw [hU]; exact hP, va_K.moved hW.alike hK⟩⟩ rfl rfl hl.1 rfl (lv_room (Nat.le_of_ble_eq_true rfl)) dX3_hourOn_52 ⟨Nat.le_of_ble_eq_true rfl, Nat.le_of_ble_eq_true rfl⟩) (fun r9 hr9 => ?_)
          subst hr9
          refine pc_top (show toneP (h1 k wi (uh u)) pz k = tone (uh u) k from ((toneP_0 (by omega)).trans tone_h1)) ?_
          refine lv_imul hx hb dX3_hourOn_55 ?_
          refine lv_sipush (v := 1000) hx hb dX3_hourOn_56 (by decide) ?_
          refine lv_idiv hx hb dX3_hourOn_59 (by decide) ?_
          refine lv_iadd hx hb dX3_hourOn_60 ?_
          refine lv_iconst (v := 2) hx hb dX3_hourOn_61 (by decide) ?_
          refine lv_isub hx hb dX3_hourOn_62 ?_
          refine va_mmax hx hb (by rw [hml]; exact hl.1.symm) hown (hts _ kX3_hourOn_6) (hts _ kX3_hourOn_7) (hts _ kX3_hourOn_4) (hts _ kX3_hourOn_8) (Nat.le_of_ble_eq_true rfl) (Nat.le_of_ble_eq_true rfl) (Nat.le_of_ble_eq_true rfl) (Nat.le_of_ble_eq_true rfl) dX3_hourOn_63 ?_
          refine pc_top (show (if 0 < (((zs (uh u) k) + ((wi * (tone (uh u) k)) / 1000)) - 2) then (((zs (uh u) k) + ((wi * (tone (uh u) k)) / 1000)) - 2) else 0) = mx 0 (((zs (uh u) k) + ((wi * (tone (uh u) k)) / 1000)) - 2) from rfl) ?_
          refine pc_top (show mx 0 (((zs (uh u) k) + ((wi * (tone (uh u) k)) / 1000)) - 2) = pull wi (uh u) k from rfl) ?_
          refine lv_istore (lv' := [(5, .int (pull wi (uh u) k)), (0, .ref (b 0)), (1, .int wi), (2, .int (msk (brk wi (uh u)) k)), (3, .int (ud u (zh (uh u) % 12))), (4, .int (nI k))]) hx hb dX3_hourOn_66 hl (by decide) rfl (fun ls hl => ?_)
          refine lv_iload hx hb dX3_hourOn_68 (lv_at hl 0 rfl) ?_
          refine lv_bipush (v := 100) hx hb dX3_hourOn_70 (by decide) ?_
          refine lv_icmp_le (tgt := 117) hx hb dX3_hourOn_72 (by decide) (fun c72 => ?_) (fun c72 => ?_)
          · refine lv_aload_n hx hb dX3_hourOn_117 rfl (lv_at hl 1 rfl) ?_
            refine lv_iload hx hb dX3_hourOn_118 (lv_at hl 5 rfl) ?_
            refine lv_iconst (v := 3) hx hb dX3_hourOn_120 (by decide) ?_
            refine lv_iload hx hb dX3_hourOn_121 (lv_at hl 0 rfl) ?_
            have hPc := hP.sub (ws' := wM cy b (uH u (h1 k wi (uh u))) th pz) [0, 1, 2, 3, 4, 5, 6] rfl
            have hDc := hD.sub (ws' := wM cy b (uH u (h1 k wi (uh u))) th pz) [0, 1, 2, 3, 4, 5, 6] (by decide) rfl
            have hFc := va_free (wc := wM cy b (uH u (h1 k wi (uh u))) th pz) hD hS hA [0, 1, 2, 3, 4, 5, 6] rfl
            refine va_callv (va_runV (As := [.int (nI k), .int 3, .int (pull wi (uh u) k)]) (rest := []) ⟨hx, hb, hml, hown, hts⟩ (mX3_put l D cy H.size b (uH u (h1 k wi (uh u))) th pz k 3 (by omega) (by decide) (pull wi (uh u) k)) (cwV 3 hts gX3_hourOn_X3_put rfl rfl rfl (by decide +kernel) ⟨Nat.le_of_ble_eq_true rfl, Nat.le_of_ble_eq_true rfl⟩) ⟨fun a U g mk q => ⟨q.1, q.2.1, q.2.2.1, va_K.moved (u := U) (U := U.calling g mk a) (Vm.Alike.refl U.vm) q.2.2.2.1, q.2.2.2.2⟩, va_recv hK hPc (ci := 3) (q0 := 0) rfl rfl, fun U hU hW => ⟨rfl, by rw [hU], by rw [hU]; exact hPc, va_K.moved hW.alike hK, hDc.weaken (fun _ _ _ _ => trivial)⟩⟩ rfl rfl hl.1 rfl (lv_room (Nat.le_of_ble_eq_true rfl)) dX3_hourOn_123 ⟨Nat.le_of_ble_eq_true rfl, Nat.le_of_ble_eq_true rfl⟩) hS (fun q _ h => hFc q h) hFc (fun u9 t9 H1 locs ht9 hvm9 hw9 hB9 hz9 hk9 hS => ?_)
            obtain ⟨hP1, hD1⟩ := hB9
            rw [ht9] at hP1
            obtain ⟨hP, hD⟩ := va_join (wr := []) (w1 := wM cy b (uH u (putH (h1 k wi (uh u)) k 3 (pull wi (uh u) k))) th pz) hP hD [0, 1, 2, 3, 4, 5, 6] [] rfl rfl (by decide) (by decide) hk9 hFc hP1 hD1
            generalize H1 = H at hP hS ⊢
            have hP : va_P D vwCl (wM cy b (uH u (putH (h1 k wi (uh u)) k 3 (pull wi (uh u) k))) th pz) H := hP.sub [0, 1, 2, 3, 4, 5, 6] rfl
            have hD : va_D A (wM cy b (uH u (putH (h1 k wi (uh u)) k 3 (pull wi (uh u) k))) th pz) := hD.sub [0, 1, 2, 3, 4, 5, 6] (by decide) rfl
            clear hP1 hD1 hk9 hz9 ht9 hvm9 hPc hDc hFc
            have e9 : (wM cy b (uH u (putH (h1 k wi (uh u)) k 3 (pull wi (uh u) k))) th pz : va_W) = (wM cy b (uH u (h1 (k + 1) wi (uh u))) th pz) := (by rw [h1_hold c34 (Int32.not_lt.mpr c72)])
            have hP : va_P D vwCl (wM cy b (uH u (h1 (k + 1) wi (uh u))) th pz) H := e9 ▸ hP
            have hD : va_D A (wM cy b (uH u (h1 (k + 1) wi (uh u))) th pz) := e9 ▸ hD
            clear e9
            have r9 : msk (brk wi (uh u)) k = msk (brk wi (uh u)) (k + 1) := (by simp [msk, brk, c34, Int32.not_lt.mpr c72])
            rw [r9] at hl
            clear r9
            refine lv_iinc (v := nI (k + 1)) (lv' := [(4, .int (nI (k + 1))), (5, .int (pull wi (uh u) k)), (0, .ref (b 0)), (1, .int wi), (2, .int (msk (brk wi (uh u)) (k + 1))), (3, .int (ud u (zh (uh u) % 12)))]) hx hb dX3_hourOn_126 hl (k := 5) rfl ((show (nI k) + Int32.ofInt 1 = (nI k) + 1 from rfl).trans (show (nI k) + 1 = nI (k + 1) from nI_add k 1)) (by decide) rfl (fun ls hl => ?_)
            refine lv_goto (tgt := 20) hx hb dX3_hourOn_129 (by decide) ?_
            exact ih20 (k + 1) (by omega) (by omega) _ _ hP hD hS ls (lv_sub hl [2, 3, 4, 5, 0] rfl)
          · refine lv_aload_n hx hb dX3_hourOn_75 rfl (lv_at hl 1 rfl) ?_
            refine lv_iload hx hb dX3_hourOn_76 (lv_at hl 5 rfl) ?_
            refine lv_iconst (v := 4) hx hb dX3_hourOn_78 (by decide) ?_
            refine lv_iconst (v := 0) hx hb dX3_hourOn_79 (by decide) ?_
            have hPc := hP.sub (ws' := wM cy b (uH u (h1 k wi (uh u))) th pz) [0, 1, 2, 3, 4, 5, 6] rfl
            have hDc := hD.sub (ws' := wM cy b (uH u (h1 k wi (uh u))) th pz) [0, 1, 2, 3, 4, 5, 6] (by decide) rfl
            have hFc := va_free (wc := wM cy b (uH u (h1 k wi (uh u))) th pz) hD hS hA [0, 1, 2, 3, 4, 5, 6] rfl
            refine va_callv (va_runV (As := [.int (nI k), .int 4, .int 0]) (rest := []) ⟨hx, hb, hml, hown, hts⟩ (mX3_put l D cy H.size b (uH u (h1 k wi (uh u))) th pz k 4 (by omega) (by decide) 0) (cwV 3 hts gX3_hourOn_X3_put rfl rfl rfl (by decide +kernel) ⟨Nat.le_of_ble_eq_true rfl, Nat.le_of_ble_eq_true rfl⟩) ⟨fun a U g mk q => ⟨q.1, q.2.1, q.2.2.1, va_K.moved (u := U) (U := U.calling g mk a) (Vm.Alike.refl U.vm) q.2.2.2.1, q.2.2.2.2⟩, va_recv hK hPc (ci := 3) (q0 := 0) rfl rfl, fun U hU hW => ⟨rfl, by rw [hU], by rw [hU]; exact hPc, va_K.moved hW.alike hK, hDc.weaken (fun _ _ _ _ => trivial)⟩⟩ rfl rfl hl.1 rfl (lv_room (Nat.le_of_ble_eq_true rfl)) dX3_hourOn_80 ⟨Nat.le_of_ble_eq_true rfl, Nat.le_of_ble_eq_true rfl⟩) hS (fun q _ h => hFc q h) hFc (fun u9 t9 H1 locs ht9 hvm9 hw9 hB9 hz9 hk9 hS => ?_)
            obtain ⟨hP1, hD1⟩ := hB9
            rw [ht9] at hP1
            obtain ⟨hP, hD⟩ := va_join (wr := []) (w1 := wM cy b (uH u (putH (h1 k wi (uh u)) k 4 0)) th pz) hP hD [0, 1, 2, 3, 4, 5, 6] [] rfl rfl (by decide) (by decide) hk9 hFc hP1 hD1
            generalize H1 = H at hP hS ⊢
            have hP : va_P D vwCl (wM cy b (uH u (putH (h1 k wi (uh u)) k 4 0)) th pz) H := hP.sub [0, 1, 2, 3, 4, 5, 6] rfl
            have hD : va_D A (wM cy b (uH u (putH (h1 k wi (uh u)) k 4 0)) th pz) := hD.sub [0, 1, 2, 3, 4, 5, 6] (by decide) rfl
            clear hP1 hD1 hk9 hz9 ht9 hvm9 hPc hDc hFc
            refine lv_aload_n hx hb dX3_hourOn_83 rfl (lv_at hl 1 rfl) ?_
            refine lv_iload hx hb dX3_hourOn_84 (lv_at hl 5 rfl) ?_
            refine lv_iconst (v := 2) hx hb dX3_hourOn_86 (by decide) ?_
            refine lv_iconst (v := 0) hx hb dX3_hourOn_87 (by decide) ?_
            have hPc := hP.sub (ws' := wM cy b (uH u (putH (h1 k wi (uh u)) k 4 0)) th pz) [0, 1, 2, 3, 4, 5, 6] rfl
            have hDc := hD.sub (ws' := wM cy b (uH u (putH (h1 k wi (uh u)) k 4 0)) th pz) [0, 1, 2, 3, 4, 5, 6] (by decide) rfl
            have hFc := va_free (wc := wM cy b (uH u (putH (h1 k wi (uh u)) k 4 0)) th pz) hD hS hA [0, 1, 2, 3, 4, 5, 6] rfl
            refine va_callv (va_runV (As := [.int (nI k), .int 2, .int 0]) (rest := []) ⟨hx, hb, hml, hown, hts⟩ (mX3_put l D cy H.size b (uH u (putH (h1 k wi (uh u)) k 4 0)) th pz k 2 (by omega) (by decide) 0) (cwV 3 hts gX3_hourOn_X3_put rfl rfl rfl (by decide +kernel) ⟨Nat.le_of_ble_eq_true rfl, Nat.le_of_ble_eq_true rfl⟩) ⟨fun a U g mk q => ⟨q.1, q.2.1, q.2.2.1, va_K.moved (u := U) (U := U.calling g mk a) (Vm.Alike.refl U.vm) q.2.2.2.1, q.2.2.2.2⟩, va_recv hK hPc (ci := 3) (q0 := 0) rfl rfl, fun U hU hW => ⟨rfl, by rw [hU], by rw [hU]; exact hPc, va_K.moved hW.alike hK, hDc.weaken (fun _ _ _ _ => trivial)⟩⟩ rfl rfl hl.1 rfl (lv_room (Nat.le_of_ble_eq_true rfl)) dX3_hourOn_88 ⟨Nat.le_of_ble_eq_true rfl, Nat.le_of_ble_eq_true rfl⟩) hS (fun q _ h => hFc q h) hFc (fun u9 t9 H1 locs ht9 hvm9 hw9 hB9 hz9 hk9 hS => ?_)
            obtain ⟨hP1, hD1⟩ := hB9
            rw [ht9] at hP1
            obtain ⟨hP, hD⟩ := va_join (wr := []) (w1 := wM cy b (uH u (putH (putH (h1 k wi (uh u)) k 4 0) k 2 0)) th pz) hP hD [0, 1, 2, 3, 4, 5, 6] [] rfl rfl (by decide) (by decide) hk9 hFc hP1 hD1
            generalize H1 = H at hP hS ⊢
            have hP : va_P D vwCl (wM cy b (uH u (putH (putH (h1 k wi (uh u)) k 4 0) k 2 0)) th pz) H := hP.sub [0, 1, 2, 3, 4, 5, 6] rfl
            have hD : va_D A (wM cy b (uH u (putH (putH (h1 k wi (uh u)) k 4 0) k 2 0)) th pz) := hD.sub [0, 1, 2, 3, 4, 5, 6] (by decide) rfl
            clear hP1 hD1 hk9 hz9 ht9 hvm9 hPc hDc hFc
            refine lv_aload_n hx hb dX3_hourOn_91 rfl (lv_at hl 1 rfl) ?_
            refine lv_iload hx hb dX3_hourOn_92 (lv_at hl 5 rfl) ?_
            refine lv_iconst (v := 5) hx hb dX3_hourOn_94 (by decide) ?_
            refine lv_aload_n hx hb dX3_hourOn_95 rfl (lv_at hl 1 rfl) ?_
            refine lv_iload hx hb dX3_hourOn_96 (lv_at hl 5 rfl) ?_
            refine lv_iconst (v := 5) hx hb dX3_hourOn_98 (by decide) ?_
            refine pc_calli (va_runV (As := [.int (nI k), .int 5]) (rest := [.int 5, .int (nI k), .ref (b 0)]) ⟨hx, hb, hml, hown, hts⟩ (mX3_ha l D cy b (uH u (putH (putH (h1 k wi (uh u)) k 4 0) k 2 0)) th pz k 5 (by omega) (by decide)) (cwV 2 hts gX3_hourOn_X3_ha rfl rfl rfl (by decide +kernel) ⟨Nat.le_of_ble_eq_true rfl, Nat.le_of_ble_eq_true rfl⟩) ⟨fun a U g mk q => ⟨q.1, q.2.1, va_K.moved (u := U) (U := U.calling g mk a) (Vm.Alike.refl U.vm) q.2.2⟩, va_recv hK hP (ci := 3) (q0 := 0) rfl rfl, fun U hU hW => ⟨rfl, by rw [hU]; exact hP, va_K.moved hW.alike hK⟩⟩ rfl rfl hl.1 rfl (lv_room (Nat.le_of_ble_eq_true rfl)) dX3_hourOn_99 ⟨Nat.le_of_ble_eq_true rfl, Nat.le_of_ble_eq_true rfl⟩) (fun r9 hr9 => ?_)
            subst hr9
            refine pc_top (show haF (putH (putH (h1 k wi (uh u)) k 4 0) k 2 0) k 5 = zr (putH (putH (h1 k wi (uh u)) k 4 0) k 2 0) k from rfl) ?_
            refine pc_top (show zr (putH (putH (h1 k wi (uh u)) k 4 0) k 2 0) k = zr (uh u) k from part_at) ?_
            refine lv_iconst (v := 1) hx hb dX3_hourOn_102 (by decide) ?_
            refine lv_iadd hx hb dX3_hourOn_103 ?_
            have hPc := hP.sub (ws' := wM cy b (uH u (putH (putH (h1 k wi (uh u)) k 4 0) k 2 0)) th pz) [0, 1, 2, 3, 4, 5, 6] rfl
            have hDc := hD.sub (ws' := wM cy b (uH u (putH (putH (h1 k wi (uh u)) k 4 0) k 2 0)) th pz) [0, 1, 2, 3, 4, 5, 6] (by decide) rfl
            have hFc := va_free (wc := wM cy b (uH u (putH (putH (h1 k wi (uh u)) k 4 0) k 2 0)) th pz) hD hS hA [0, 1, 2, 3, 4, 5, 6] rfl
            refine va_callv (va_runV (As := [.int (nI k), .int 5, .int ((zr (uh u) k) + 1)]) (rest := []) ⟨hx, hb, hml, hown, hts⟩ (mX3_put l D cy H.size b (uH u (putH (putH (h1 k wi (uh u)) k 4 0) k 2 0)) th pz k 5 (by omega) (by decide) (zr (uh u) k + 1)) (cwV 3 hts gX3_hourOn_X3_put rfl rfl rfl (by decide +kernel) ⟨Nat.le_of_ble_eq_true rfl, Nat.le_of_ble_eq_true rfl⟩) ⟨fun a U g mk q => ⟨q.1, q.2.1, q.2.2.1, va_K.moved (u := U) (U := U.calling g mk a) (Vm.Alike.refl U.vm) q.2.2.2.1, q.2.2.2.2⟩, va_recv hK hPc (ci := 3) (q0 := 0) rfl rfl, fun U hU hW => ⟨rfl, by rw [hU], by rw [hU]; exact hPc, va_K.moved hW.alike hK, hDc.weaken (fun _ _ _ _ => trivial)⟩⟩ rfl rfl hl.1 rfl (lv_room (Nat.le_of_ble_eq_true rfl)) dX3_hourOn_104 ⟨Nat.le_of_ble_eq_true rfl, Nat.le_of_ble_eq_true rfl⟩) hS (fun q _ h => hFc q h) hFc (fun u9 t9 H1 locs ht9 hvm9 hw9 hB9 hz9 hk9 hS => ?_)
            obtain ⟨hP1, hD1⟩ := hB9
            rw [ht9] at hP1
            obtain ⟨hP, hD⟩ := va_join (wr := []) (w1 := wM cy b (uH u (putH (putH (putH (h1 k wi (uh u)) k 4 0) k 2 0) k 5 (zr (uh u) k + 1))) th pz) hP hD [0, 1, 2, 3, 4, 5, 6] [] rfl rfl (by decide) (by decide) hk9 hFc hP1 hD1
            generalize H1 = H at hP hS ⊢
            have hP : va_P D vwCl (wM cy b (uH u (putH (putH (putH (h1 k wi (uh u)) k 4 0) k 2 0) k 5 (zr (uh u) k + 1))) th pz) H := hP.sub [0, 1, 2, 3, 4, 5, 6] rfl
            have hD : va_D A (wM cy b (uH u (putH (putH (putH (h1 k wi (uh u)) k 4 0) k 2 0) k 5 (zr (uh u) k + 1))) th pz) := hD.sub [0, 1, 2, 3, 4, 5, 6] (by decide) rfl
            clear hP1 hD1 hk9 hz9 ht9 hvm9 hPc hDc hFc
            refine lv_iconst (v := 0) hx hb dX3_hourOn_107 (by decide) ?_
            refine lv_istore (lv' := [(5, .int 0), (0, .ref (b 0)), (1, .int wi), (2, .int (msk (brk wi (uh u)) k)), (3, .int (ud u (zh (uh u) % 12))), (4, .int (nI k))]) hx hb dX3_hourOn_108 hl (by decide) rfl (fun ls hl => ?_)
            refine lv_iload_n hx hb dX3_hourOn_110 rfl (lv_at hl 3 rfl) ?_
            refine lv_iconst (v := 1) hx hb dX3_hourOn_111 (by decide) ?_
            refine lv_iload hx hb dX3_hourOn_112 (lv_at hl 5 rfl) ?_
            refine lv_ishl hx hb dX3_hourOn_114 ?_
            refine lv_ior hx hb dX3_hourOn_115 ?_
            refine lv_istore_n (lv' := [(2, .int ((msk (brk wi (uh u)) k) ||| (1 <<< (nI k &&& 31)))), (5, .int 0), (0, .ref (b 0)), (1, .int wi), (3, .int (ud u (zh (uh u) % 12))), (4, .int (nI k))]) hx hb dX3_hourOn_116 rfl hl (by decide) rfl (fun ls hl => ?_)
            refine lv_aload_n hx hb dX3_hourOn_117 rfl (lv_at hl 2 rfl) ?_
            refine lv_iload hx hb dX3_hourOn_118 (lv_at hl 5 rfl) ?_
            refine lv_iconst (v := 3) hx hb dX3_hourOn_120 (by decide) ?_
            refine lv_iload hx hb dX3_hourOn_121 (lv_at hl 1 rfl) ?_
            have hPc := hP.sub (ws' := wM cy b (uH u (putH (putH (putH (h1 k wi (uh u)) k 4 0) k 2 0) k 5 (zr (uh u) k + 1))) th pz) [0, 1, 2, 3, 4, 5, 6] rfl
            have hDc := hD.sub (ws' := wM cy b (uH u (putH (putH (putH (h1 k wi (uh u)) k 4 0) k 2 0) k 5 (zr (uh u) k + 1))) th pz) [0, 1, 2, 3, 4, 5, 6] (by decide) rfl
            have hFc := va_free (wc := wM cy b (uH u (putH (putH (putH (h1 k wi (uh u)) k 4 0) k 2 0) k 5 (zr (uh u) k + 1))) th pz) hD hS hA [0, 1, 2, 3, 4, 5, 6] rfl
            refine va_callv (va_runV (As := [.int (nI k), .int 3, .int 0]) (rest := []) ⟨hx, hb, hml, hown, hts⟩ (mX3_put l D cy H.size b (uH u (putH (putH (putH (h1 k wi (uh u)) k 4 0) k 2 0) k 5 (zr (uh u) k + 1))) th pz k 3 (by omega) (by decide) 0) (cwV 3 hts gX3_hourOn_X3_put rfl rfl rfl (by decide +kernel) ⟨Nat.le_of_ble_eq_true rfl, Nat.le_of_ble_eq_true rfl⟩) ⟨fun a U g mk q => ⟨q.1, q.2.1, q.2.2.1, va_K.moved (u := U) (U := U.calling g mk a) (Vm.Alike.refl U.vm) q.2.2.2.1, q.2.2.2.2⟩, va_recv hK hPc (ci := 3) (q0 := 0) rfl rfl, fun U hU hW => ⟨rfl, by rw [hU], by rw [hU]; exact hPc, va_K.moved hW.alike hK, hDc.weaken (fun _ _ _ _ => trivial)⟩⟩ rfl rfl hl.1 rfl (lv_room (Nat.le_of_ble_eq_true rfl)) dX3_hourOn_123 ⟨Nat.le_of_ble_eq_true rfl, Nat.le_of_ble_eq_true rfl⟩) hS (fun q _ h => hFc q h) hFc (fun u9 t9 H1 locs ht9 hvm9 hw9 hB9 hz9 hk9 hS => ?_)
            obtain ⟨hP1, hD1⟩ := hB9
            rw [ht9] at hP1
            obtain ⟨hP, hD⟩ := va_join (wr := []) (w1 := wM cy b (uH u (putH (putH (putH (putH (h1 k wi (uh u)) k 4 0) k 2 0) k 5 (zr (uh u) k + 1)) k 3 0)) th pz) hP hD [0, 1, 2, 3, 4, 5, 6] [] rfl rfl (by decide) (by decide) hk9 hFc hP1 hD1
            generalize H1 = H at hP hS ⊢
            have hP : va_P D vwCl (wM cy b (uH u (putH (putH (putH (putH (h1 k wi (uh u)) k 4 0) k 2 0) k 5 (zr (uh u) k + 1)) k 3 0)) th pz) H := hP.sub [0, 1, 2, 3, 4, 5, 6] rfl
            have hD : va_D A (wM cy b (uH u (putH (putH (putH (putH (h1 k wi (uh u)) k 4 0) k 2 0) k 5 (zr (uh u) k + 1)) k 3 0)) th pz) := hD.sub [0, 1, 2, 3, 4, 5, 6] (by decide) rfl
            clear hP1 hD1 hk9 hz9 ht9 hvm9 hPc hDc hFc
            have e9 : (wM cy b (uH u (putH (putH (putH (putH (h1 k wi (uh u)) k 4 0) k 2 0) k 5 (zr (uh u) k + 1)) k 3 0)) th pz : va_W) = (wM cy b (uH u (h1 (k + 1) wi (uh u))) th pz) := (by rw [h1_brk c34 (Int32.not_le.mp c72)])
            have hP : va_P D vwCl (wM cy b (uH u (h1 (k + 1) wi (uh u))) th pz) H := e9 ▸ hP
            have hD : va_D A (wM cy b (uH u (h1 (k + 1) wi (uh u))) th pz) := e9 ▸ hD
            clear e9
            have r9 : (msk (brk wi (uh u)) k) ||| (1 <<< (nI k &&& 31)) = msk (brk wi (uh u)) (k + 1) := (by simp [msk, brk, c34, Int32.not_le.mp c72])
            rw [r9] at hl
            clear r9
            refine lv_iinc (v := nI (k + 1)) (lv' := [(4, .int (nI (k + 1))), (2, .int (msk (brk wi (uh u)) (k + 1))), (5, .int 0), (0, .ref (b 0)), (1, .int wi), (3, .int (ud u (zh (uh u) % 12)))]) hx hb dX3_hourOn_126 hl (k := 5) rfl ((show (nI k) + Int32.ofInt 1 = (nI k) + 1 from rfl).trans (show (nI k) + 1 = nI (k + 1) from nI_add k 1)) (by decide) rfl (fun ls hl => ?_)
            refine lv_goto (tgt := 20) hx hb dX3_hourOn_129 (by decide) ?_
            exact ih20 (k + 1) (by omega) (by omega) _ _ hP hD hS ls (lv_sub hl [3, 4, 1, 5, 0] rfl)
        · refine lv_goto (tgt := 126) hx hb dX3_hourOn_37 (by decide) ?_
          have e9 : (wM cy b (uH u (h1 k wi (uh u))) th pz : va_W) = (wM cy b (uH u (h1 (k + 1) wi (uh u))) th pz) := (by rw [h1_skip c34])
          have hP : va_P D vwCl (wM cy b (uH u (h1 (k + 1) wi (uh u))) th pz) H := e9 ▸ hP
          have hD : va_D A (wM cy b (uH u (h1 (k + 1) wi (uh u))) th pz) := e9 ▸ hD
          clear e9
          have r9 : msk (brk wi (uh u)) k = msk (brk wi (uh u)) (k + 1) := (by simp [msk, brk, c34])
          rw [r9] at hl
          clear r9
          refine lv_iinc (v := nI (k + 1)) (lv' := [(4, .int (nI (k + 1))), (0, .ref (b 0)), (1, .int wi), (2, .int (msk (brk wi (uh u)) (k + 1))), (3, .int (ud u (zh (uh u) % 12)))]) hx hb dX3_hourOn_126 hl (k := 4) rfl ((show (nI k) + Int32.ofInt 1 = (nI k) + 1 from rfl).trans (show (nI k) + 1 = nI (k + 1) from nI_add k 1)) (by decide) rfl (fun ls hl => ?_)
          refine lv_goto (tgt := 20) hx hb dX3_hourOn_129 (by decide) ?_
          exact ih20 (k + 1) (by omega) (by omega) _ _ hP hD hS ls (lv_sub hl [1, 2, 3, 4, 0] rfl)
  exact loop20 (12 + 1) 0 (by decide) (by omega) _ _ hP hD hS ls (lv_sub hl [3, 4, 2, 1, 0] rfl)

theorem inX3_hourOn__RX3 : ∀ w ∈ u_ws RX3 TX3 8, w ∈ wsX3_hourOn_ := by decide +kernel
theorem kX3_hourOn__0 : (.fieldLink RX3 16 "WedgeHarpsModel" "winds" "[I" : Cond) ∈ wsX3_hourOn_ := by decide +kernel
theorem kX3_hourOn__1 : (.fieldLink RX3 22 "WedgeHarpsModel" "numbers" "[I" : Cond) ∈ wsX3_hourOn_ := by decide +kernel
set_option maxHeartbeats 4000000 in
set_option maxRecDepth 100000 in
theorem mX3_hourOn_ (l : Launch) (D : va_G) (cy : Nat → ClassId) (sz : Nat) (b : Nat → Nat) (u : US) (th : Int32) (hz9 : zh (uh u) < 2147483647) (hb9 : bd (uh u)) : Met l yX3_hourOn_ wsX3_hourOn_ ({ frames := 5, cells := 0, slots := 0, locals := 115 } : Room) (va_Pc [.ref (b 0)] (fun U => U.heap.size = sz ∧ va_P D vwCl (wM cy b u th pz) U.heap ∧ va_K D vwCl (TY cy) U ∧ va_D (fun _ => True) (wM cy b u th pz))) (va_Qi (fun (r8 : Int32) (_ : Unit) => r8 = msk (brk (uw u (zh (uh u) % 12)) (uh u)) 12) (fun (_ : Unit) t => va_P D vwCl (wM cy b (uH u (hStep 0 12 (uw u) (ud u) (uh u))) th pz) t.heap ∧ va_D (va_A (wM cy b u th pz) sz) (wM cy b (uH u (hStep 0 12 (uw u) (ud u) (uh u))) th pz)) (va_A (wM cy b u th pz) sz)) 0 0 (va_A (wM cy b u th pz) sz) := by
  refine Met.ofW (cc := cX3_hourOn_) (maxL := 1) (ret := (some .int)) (by decide) rfl ?_
  intro p e s m args below meth c s₁ B hml hv
  obtain ⟨rfl, hsz, hP, hK, hD0⟩ := hv
  have hx := B.exec
  have hb := B.bytes
  have hr := B.returns
  have hts := atoms_spec (ws := wsX3_hourOn_) B.pre
  have hown : s.vm.findClass RX3 = some m.cls := findClass_of_methodNamed B.named
  have hlocks := B.notSynchronized
  have hl := lv_entry ([.ref (b 0)]) (n := 1) (Nat.le_of_ble_eq_true rfl)
  rw [lg_entry_eq]
  generalize (lg_sl ([.ref (b 0)]) ++ List.replicate (1 - (lg_sl ([.ref (b 0)])).length) Slot.unset).toArray = ls at hl ⊢
  have hl : lv_has ls 1 [(0, .ref (b 0))] := hl
  subst hsz
  have hD := hD0.self (sz := s.heap.size)
  generalize hAe : va_A (wM cy b u th pz) s.heap.size = A at hD ⊢
  have hA : ∀ q : Nat, s.heap.size ≤ q → A q := fun q h => by rw [← hAe]; exact Or.inr h
  have hS : va_S A s.heap s.heap [] := va_S.rf
  have hP : va_P D vwCl (wM cy b u th pz) s.heap := hP
  refine lv_aload_n hx hb dX3_hourOn__0 rfl (lv_at hl 0 rfl) ?_
  refine lv_aload_n hx hb dX3_hourOn__1 rfl (lv_at hl 0 rfl) ?_
  refine va_get (D := D) (ci := 3) (v := .ref (b 3)) (C := RX3) (T := TX3) (N := 8) hx hb hts inX3_hourOn__RX3 hown hK hP 0 rfl rfl 4 (by decide) (hts _ kX3_hourOn__0) (fun _ h9 => h9) rfl dX3_hourOn__2 ?_
  refine lv_aload_n hx hb dX3_hourOn__5 rfl (lv_at hl 0 rfl) ?_
  refine va_get (D := D) (ci := 3) (v := .ref (b 5)) (C := RX3) (T := TX3) (N := 8) hx hb hts inX3_hourOn__RX3 hown hK hP 0 rfl rfl 6 (by decide) (hts _ kX3_hourOn__1) (fun _ h9 => h9) rfl dX3_hourOn__6 ?_
  refine lv_iconst (v := 0) hx hb dX3_hourOn__9 (by decide) ?_
  refine pc_iald hx hb hK hP 5 0 rfl rfl (k := 0) (show 0 < 2 by omega) (by decide) dX3_hourOn__10 ?_
  refine pc_top (show (mb (uh u)) 0 = nI (zh (uh u)) from rfl) ?_
  refine lv_bipush (v := 12) hx hb dX3_hourOn__11 (by decide) ?_
  refine lv_irem hx hb dX3_hourOn__13 (by decide) ?_
  refine pc_top (show (nI (zh (uh u))) - (nI (zh (uh u))) / 12 * 12 = nI (zh (uh u) % 12) from (pk_rem (by omega) (by decide) (by decide))) ?_
  refine pc_iald hx hb hK hP 3 0 rfl rfl (k := zh (uh u) % 12) (show zh (uh u) % 12 < 12 by omega) (by decide) dX3_hourOn__14 ?_
  have hPc := hP.sub (ws' := wM cy b u th pz) [0, 1, 2, 3, 4, 5, 6] rfl
  have hDc := hD.sub (ws' := wM cy b u th pz) [0, 1, 2, 3, 4, 5, 6] (by decide) rfl
  have hFc := va_free (wc := wM cy b u th pz) hD hS hA [0, 1, 2, 3, 4, 5, 6] rfl
  refine va_calli (va_runV (As := [.int ((uw u) (zh (uh u) % 12))]) (rest := []) ⟨hx, hb, hml, hown, hts⟩ (mX3_hourOn l D cy s.heap.size b u th hz9 hb9 (uw u (zh (uh u) % 12))) (cwV 1 hts gX3_hourOn__X3_hourOn rfl rfl rfl (by decide +kernel) ⟨Nat.le_of_ble_eq_true rfl, Nat.le_of_ble_eq_true rfl⟩) ⟨fun a U g mk q => ⟨q.1, q.2.1, q.2.2.1, va_K.moved (u := U) (U := U.calling g mk a) (Vm.Alike.refl U.vm) q.2.2.2.1, q.2.2.2.2⟩, va_recv hK hPc (ci := 3) (q0 := 0) rfl rfl, fun U hU hW => ⟨rfl, by rw [hU], by rw [hU]; exact hPc, va_K.moved hW.alike hK, hDc.weaken (fun _ _ _ _ => trivial)⟩⟩ rfl rfl hl.1 rfl (lv_room (Nat.le_of_ble_eq_true rfl)) dX3_hourOn__15 ⟨Nat.le_of_ble_eq_true rfl, Nat.le_of_ble_eq_true rfl⟩) hS (fun q _ h => hFc q h) hFc (fun r9 u9 t9 H1 locs ht9 hvm9 hw9 hB9 hz9 hk9 hS => ?_)
  obtain ⟨hP1, hD1⟩ := hB9
  rw [ht9] at hP1
  obtain ⟨hP, hD⟩ := va_join (wr := []) (w1 := wM cy b (uH u (hStep 0 12 (uw u) (ud u) (uh u))) th pz) hP hD [0, 1, 2, 3, 4, 5, 6] [] rfl rfl (by decide) (by decide) hk9 hFc hP1 hD1
  generalize H1 = H at hP hS ⊢
  have hP : va_P D vwCl (wM cy b (uH u (hStep 0 12 (uw u) (ud u) (uh u))) th pz) H := hP.sub [0, 1, 2, 3, 4, 5, 6] rfl
  have hD : va_D A (wM cy b (uH u (hStep 0 12 (uw u) (ud u) (uh u))) th pz) := hD.sub [0, 1, 2, 3, 4, 5, 6] (by decide) rfl
  clear hP1 hD1 hk9 hz9 ht9 hvm9 hPc hDc hFc
  subst hw9
  have hP9 : va_P D vwCl (wM cy b (uH u (hStep 0 12 (uw u) (ud u) (uh u))) th pz) H := hP
  have hD9 : va_D A (wM cy b (uH u (hStep 0 12 (uw u) (ud u) (uh u))) th pz) := hD
  exact W.iret (v := msk (brk (uw u (zh (uh u) % 12)) (uh u)) 12) hx hb hr (fun t ht hW => ⟨⟨msk (brk (uw u (zh (uh u) % 12)) (uh u)) 12, (), rfl, rfl, by rw [ht]; exact hP9, hD9⟩, hS.F ht⟩) hS.2.2 dX3_hourOn__18

theorem inX3_pass_RX3 : ∀ w ∈ u_ws RX3 TX3 8, w ∈ wsX3_pass := by decide +kernel
theorem kX3_pass_0 : (.fieldLink RX3 32 "WedgeHarpsModel" "thrown" "I" : Cond) ∈ wsX3_pass := by decide +kernel
set_option maxHeartbeats 4000000 in
set_option maxRecDepth 100000 in
theorem mX3_pass (l : Launch) (D : va_G) (cy : Nat → ClassId) (sz : Nat) (b : Nat → Nat) (u : US) (th : Int32) (hu : uOk u) (hb9 : bd (uh u)) (xv : Int32) : Met l yX3_pass wsX3_pass ({ frames := 6, cells := 0, slots := 0, locals := 140 } : Room) (va_Pc [.ref (b 0), .int xv] (fun U => U.heap.size = sz ∧ va_P D vwCl (wM cy b u th pz) U.heap ∧ va_K D vwCl (TY cy) U ∧ va_D (fun _ => True) (wM cy b u th pz))) (va_Qi (fun (r8 : Int32) (u9 : US) => (exPass xv = 0 → r8 = nI (passB (uw u) (ud u) (uh u) (ix xv)) ∧ u9 = uH u (hN 0 12 (uw u) (ud u) (uh u) (ix xv))) ∧ (¬ exPass xv = 0 → u9 = u)) (fun (u9 : US) t => va_P D vwCl (wM cy b u9 (nI (exPass xv)) pz) t.heap ∧ va_D (va_A (wM cy b u th pz) sz) (wM cy b u9 (nI (exPass xv)) pz)) (va_A (wM cy b u th pz) sz)) 0 0 (va_A (wM cy b u th pz) sz) := by
  refine Met.ofW (cc := cX3_pass) (maxL := 4) (ret := (some .int)) (by decide) rfl ?_
  intro p e s m args below meth c s₁ B hml hv
  obtain ⟨rfl, hsz, hP, hK, hD0⟩ := hv
  have hx := B.exec
  have hb := B.bytes
  have hr := B.returns
  have hts := atoms_spec (ws := wsX3_pass) B.pre
  have hown : s.vm.findClass RX3 = some m.cls := findClass_of_methodNamed B.named
  have hlocks := B.notSynchronized
  have hl := lv_entry ([.ref (b 0), .int xv]) (n := 4) (Nat.le_of_ble_eq_true rfl)
  rw [lg_entry_eq]
  generalize (lg_sl ([.ref (b 0), .int xv]) ++ List.replicate (4 - (lg_sl ([.ref (b 0), .int xv])).length) Slot.unset).toArray = ls at hl ⊢
  have hl : lv_has ls 4 [(0, .ref (b 0)), (1, .int xv)] := hl
  subst hsz
  have hD := hD0.self (sz := s.heap.size)
  generalize hAe : va_A (wM cy b u th pz) s.heap.size = A at hD ⊢
  have hA : ∀ q : Nat, s.heap.size ≤ q → A q := fun q h => by rw [← hAe]; exact Or.inr h
  have hS : va_S A s.heap s.heap [] := va_S.rf
  have hP : va_P D vwCl (wM cy b u th pz) s.heap := hP
  refine lv_aload_n hx hb dX3_pass_0 rfl (lv_at hl 0 rfl) ?_
  refine lv_iconst (v := 0) hx hb dX3_pass_1 (by decide) ?_
  refine va_put (D := D) (ci := 3) (v := .int 0) (ty := .int) (C := RX3) (T := TX3) (N := 8) hx hb hts inX3_pass_RX3 tyX3 tyX3_ok nmX3 hown hK hP hD hS 0 rfl rfl 0 (by decide) (hts _ kX3_pass_0) (fun _ h9 => h9) rfl (by decide +kernel) rfl rfl (Nat.le_of_ble_eq_true rfl) dX3_pass_2 (fun H locs hP hD hS => ?_)
  have hP : va_P D vwCl [(b 0, .inr (3, [.int 0, .ref (b 1), .int (nI (un u)), .ref (b 2), .ref (b 3), .ref (b 4), .ref (b 5), .ref (b 6)])), (b 1, .inl ((cy 0), 72, .inl (mh (uh u)))), (b 2, .inl ((cy 0), 36, .inl (mt (ul u) (uz u) (ut u)))), (b 3, .inl ((cy 0), 12, .inl (uw u))), (b 4, .inl ((cy 0), 12, .inl (ud u))), (b 5, .inl ((cy 0), 2, .inl (mb (uh u)))), (b 6, .inl ((cy 0), 12, .inl pz))] H := hP
  have hD : va_D A [(b 0, .inr (3, [.int 0, .ref (b 1), .int (nI (un u)), .ref (b 2), .ref (b 3), .ref (b 4), .ref (b 5), .ref (b 6)])), (b 1, .inl ((cy 0), 72, .inl (mh (uh u)))), (b 2, .inl ((cy 0), 36, .inl (mt (ul u) (uz u) (ut u)))), (b 3, .inl ((cy 0), 12, .inl (uw u))), (b 4, .inl ((cy 0), 12, .inl (ud u))), (b 5, .inl ((cy 0), 2, .inl (mb (uh u)))), (b 6, .inl ((cy 0), 12, .inl pz))] := hD
  have hP : va_P D vwCl (wM cy b u 0 pz) H := hP
  have hD : va_D A (wM cy b u 0 pz) := hD
  refine lv_iload_n hx hb dX3_pass_5 rfl (lv_at hl 1 rfl) ?_
  refine lv_iconst (v := 1) hx hb dX3_pass_6 (by decide) ?_
  refine lv_sipush (v := 200) hx hb dX3_pass_7 (by decide) ?_
  refine pc_calli (va_runS (As := [.int xv, .int 1, .int 200]) (rest := []) ⟨hx, hb, hml, hown, hts⟩ (mX3_isIn l D cy xv 1 200) (va_cwS 3 hts gX3_pass_X3_isIn rfl rfl rfl (by decide +kernel) ⟨Nat.le_of_ble_eq_true rfl, Nat.le_of_ble_eq_true rfl⟩) ⟨fun a U g mk q => q, fun U hU hW => ⟨rfl, trivial⟩⟩ rfl rfl hl.1 rfl (lv_room (Nat.le_of_ble_eq_true rfl)) dX3_pass_10 ⟨Nat.le_of_ble_eq_true rfl, Nat.le_of_ble_eq_true rfl⟩) (fun r9 hr9 => ?_)
  subst hr9
  refine pc_top (show bI (isIn xv 1 200) = bI (isH xv) from (by rw [isIn_H])) ?_
  refine lv_if_ne (tgt := 22) hx hb dX3_pass_13 (by decide) (fun c13 => ?_) (fun c13 => ?_)
  · obtain ⟨j, hj1, hj2, rfl⟩ := isH_nat (bI_1.mp c13)
    have ej : ix (nI j) = j := ix_nI (show j < 2147483648 by omega)
    have hz9 : zh (uh u) < 1000000000 := hu.2.2.2.2
    refine lv_iconst (v := 0) hx hb dX3_pass_22 (by decide) ?_
    refine lv_istore_n (lv' := [(2, .int 0), (0, .ref (b 0)), (1, .int (nI j))]) hx hb dX3_pass_23 rfl hl (by decide) rfl (fun ls hl => ?_)
    refine lv_iconst (v := 0) hx hb dX3_pass_24 (by decide) ?_
    refine lv_istore_n (lv' := [(3, .int 0), (2, .int 0), (0, .ref (b 0)), (1, .int (nI j))]) hx hb dX3_pass_25 rfl hl (by decide) rfl (fun ls hl => ?_)
    have loop26 : ∀ (n9 : Nat) (k : Nat), k ≤ j → j - k < n9 → ∀ (H : Heap) (locs : List Loc), va_P D vwCl (wM cy b (uH u (hN 0 12 (uw u) (ud u) (uh u) k)) 0 pz) H → va_D A (wM cy b (uH u (hN 0 12 (uw u) (ud u) (uh u) k)) 0 pz) → va_S A s.heap H locs → ∀ ls : Array Slot, lv_has ls 4 [(0, .ref (b 0)), (1, .int (nI j)), (2, .int (nI (passB (uw u) (ud u) (uh u) k))), (3, .int (nI k))] → W p l e (headSpec wsX3_pass ({ frames := 6, cells := 0, slots := 0, locals := 140 } : Room)).room s m ([.ref (b 0), .int (nI j)] : List Value).toArray below meth c H locs 0 0 (MQ below (va_Qi (fun (r8 : Int32) (u9 : US) => (exPass (nI j) = 0 → r8 = nI (passB (uw u) (ud u) (uh u) (ix (nI j))) ∧ u9 = uH u (hN 0 12 (uw u) (ud u) (uh u) (ix (nI j)))) ∧ (¬ exPass (nI j) = 0 → u9 = u)) (fun (u9 : US) t => va_P D vwCl (wM cy b u9 (nI (exPass (nI j))) pz) t.heap ∧ va_D A (wM cy b u9 (nI (exPass (nI j))) pz)) A) ([.ref (b 0), .int (nI j)] : List Value).toArray s 0 0 A) (F0 m 26 ls []) := by
      intro n9
      induction n9 with
      | zero => intro k hk h9 H locs hP hD hS ls hl; exact absurd h9 (by omega)
      | succ n9 ih26 =>
        intro k hk h9 H locs hP hD hS ls hl
        refine lv_iload_n hx hb dX3_pass_26 rfl (lv_at hl 3 rfl) ?_
        refine lv_iload_n hx hb dX3_pass_27 rfl (lv_at hl 1 rfl) ?_
        refine lv_icmp_ge (tgt := 47) hx hb dX3_pass_28 (by decide) (fun c28 => ?_) (fun c28 => ?_)
        · have n28 : j ≤ k := (nI_leI (a := j) (b := k) (by omega) (by omega)).mp c28
          refine lv_iload_n hx hb dX3_pass_47 rfl (lv_at hl 2 rfl) ?_
          have hex9 : exPass (nI j) = 0 := by simp [exPass, bI_1.mp c13, c28]
          have hP9 : va_P D vwCl (wM cy b (uH u (hN 0 12 (uw u) (ud u) (uh u) (ix (nI j)))) (nI (exPass (nI j))) pz) H := (by rw [hex9, ej, show j = k by omega]; exact hP)
          have hD9 : va_D A (wM cy b (uH u (hN 0 12 (uw u) (ud u) (uh u) (ix (nI j)))) (nI (exPass (nI j))) pz) := (by rw [hex9, ej, show j = k by omega]; exact hD)
          exact W.iret (v := nI (passB (uw u) (ud u) (uh u) k)) hx hb hr (fun t ht hW => ⟨⟨nI (passB (uw u) (ud u) (uh u) k), (uH u (hN 0 12 (uw u) (ud u) (uh u) (ix (nI j)))), rfl, ⟨fun _ => ⟨by rw [ej, show j = k by omega], rfl⟩, fun z => absurd hex9 z⟩, by rw [ht]; exact hP9, hD9⟩, hS.F ht⟩) hS.2.2 dX3_pass_48
        · have n28 : ¬ (j ≤ k) := fun h9 => c28 ((nI_leI (a := j) (b := k) (by omega) (by omega)).mpr h9)
          refine lv_iload_n hx hb dX3_pass_31 rfl (lv_at hl 2 rfl) ?_
          refine lv_aload_n hx hb dX3_pass_32 rfl (lv_at hl 0 rfl) ?_
          have hPc := hP.sub (ws' := wM cy b (uH u (hN 0 12 (uw u) (ud u) (uh u) k)) 0 pz) [0, 1, 2, 3, 4, 5, 6] rfl
          have hDc := hD.sub (ws' := wM cy b (uH u (hN 0 12 (uw u) (ud u) (uh u) k)) 0 pz) [0, 1, 2, 3, 4, 5, 6] (by decide) rfl
          have hFc := va_free (wc := wM cy b (uH u (hN 0 12 (uw u) (ud u) (uh u) k)) 0 pz) hD hS hA [0, 1, 2, 3, 4, 5, 6] rfl
          refine va_calli (va_runV (As := []) (rest := [.int (nI (passB (uw u) (ud u) (uh u) k))]) ⟨hx, hb, hml, hown, hts⟩ (mX3_hourOn_ l D cy H.size b (uH u (hN 0 12 (uw u) (ud u) (uh u) k)) 0 (by show zh (hN 0 12 (uw u) (ud u) (uh u) k) < _; rw [zh_hN]; omega) (bd_hN hb9 k)) (cwV 0 hts gX3_pass_X3_hourOn_ rfl rfl rfl (by decide +kernel) ⟨Nat.le_of_ble_eq_true rfl, Nat.le_of_ble_eq_true rfl⟩) ⟨fun a U g mk q => ⟨q.1, q.2.1, q.2.2.1, va_K.moved (u := U) (U := U.calling g mk a) (Vm.Alike.refl U.vm) q.2.2.2.1, q.2.2.2.2⟩, va_recv hK hPc (ci := 3) (q0 := 0) rfl rfl, fun U hU hW => ⟨rfl, by rw [hU], by rw [hU]; exact hPc, va_K.moved hW.alike hK, hDc.weaken (fun _ _ _ _ => trivial)⟩⟩ rfl rfl hl.1 rfl (lv_room (Nat.le_of_ble_eq_true rfl)) dX3_pass_33 ⟨Nat.le_of_ble_eq_true rfl, Nat.le_of_ble_eq_true rfl⟩) hS (fun q _ h => hFc q h) hFc (fun r9 u9 t9 H1 locs ht9 hvm9 hw9 hB9 hz9 hk9 hS => ?_)
          obtain ⟨hP1, hD1⟩ := hB9
          rw [ht9] at hP1
          obtain ⟨hP, hD⟩ := va_join (wr := []) (w1 := wM cy b (uH u (hN 0 12 (uw u) (ud u) (uh u) (k + 1))) 0 pz) hP hD [0, 1, 2, 3, 4, 5, 6] [] rfl rfl (by decide) (by decide) hk9 hFc hP1 hD1
          generalize H1 = H at hP hS ⊢
          have hP : va_P D vwCl (wM cy b (uH u (hN 0 12 (uw u) (ud u) (uh u) (k + 1))) 0 pz) H := hP.sub [0, 1, 2, 3, 4, 5, 6] rfl
          have hD : va_D A (wM cy b (uH u (hN 0 12 (uw u) (ud u) (uh u) (k + 1))) 0 pz) := hD.sub [0, 1, 2, 3, 4, 5, 6] (by decide) rfl
          clear hP1 hD1 hk9 hz9 ht9 hvm9 hPc hDc hFc
          subst hw9
          refine pc_calli (va_runS (As := [.int (msk (brk (uw u (zh (hN 0 12 (uw u) (ud u) (uh u) k) % 12)) (hN 0 12 (uw u) (ud u) (uh u) k)) 12)]) (rest := [.int (nI (passB (uw u) (ud u) (uh u) k))]) ⟨hx, hb, hml, hown, hts⟩ (mJ6_bitCount_0f7a4 l D cy (msk (brk (uw u (zh (hN 0 12 (uw u) (ud u) (uh u) k) % 12)) (hN 0 12 (uw u) (ud u) (uh u) k)) 12)) (va_cwS 1 hts gX3_pass_J6_bitCount_0f7a4 rfl rfl rfl (by decide +kernel) ⟨Nat.le_of_ble_eq_true rfl, Nat.le_of_ble_eq_true rfl⟩) ⟨fun a U g mk q => q, fun U hU hW => ⟨rfl, trivial⟩⟩ rfl rfl hl.1 rfl (lv_room (Nat.le_of_ble_eq_true rfl)) dX3_pass_36 ⟨Nat.le_of_ble_eq_true rfl, Nat.le_of_ble_eq_true rfl⟩) (fun r9 hr9 => ?_)
          subst hr9
          refine pc_top (show bitC (msk (brk (uw u (zh (hN 0 12 (uw u) (ud u) (uh u) k) % 12)) (hN 0 12 (uw u) (ud u) (uh u) k)) 12) = nI (brkN 0 12 (uw u) (hN 0 12 (uw u) (ud u) (uh u) k)) from (msk_is _).1) ?_
          refine lv_iadd hx hb dX3_pass_39 ?_
          refine pc_top (show (nI (passB (uw u) (ud u) (uh u) k)) + (nI (brkN 0 12 (uw u) (hN 0 12 (uw u) (ud u) (uh u) k))) = nI (passB (uw u) (ud u) (uh u) k + brkN 0 12 (uw u) (hN 0 12 (uw u) (ud u) (uh u) k)) from nI_add (passB (uw u) (ud u) (uh u) k) (brkN 0 12 (uw u) (hN 0 12 (uw u) (ud u) (uh u) k))) ?_
          refine lv_istore_n (lv' := [(2, .int (nI (passB (uw u) (ud u) (uh u) k + brkN 0 12 (uw u) (hN 0 12 (uw u) (ud u) (uh u) k)))), (0, .ref (b 0)), (1, .int (nI j)), (3, .int (nI k))]) hx hb dX3_pass_40 rfl hl (by decide) rfl (fun ls hl => ?_)
          refine lv_iinc (v := nI (k + 1)) (lv' := [(3, .int (nI (k + 1))), (2, .int (nI (passB (uw u) (ud u) (uh u) k + brkN 0 12 (uw u) (hN 0 12 (uw u) (ud u) (uh u) k)))), (0, .ref (b 0)), (1, .int (nI j))]) hx hb dX3_pass_41 hl (k := 3) rfl ((show (nI k) + Int32.ofInt 1 = (nI k) + 1 from rfl).trans (show (nI k) + 1 = nI (k + 1) from nI_add k 1)) (by decide) rfl (fun ls hl => ?_)
          refine lv_goto (tgt := 26) hx hb dX3_pass_44 (by decide) ?_
          exact ih26 (k + 1) (by omega) (by omega) _ _ hP hD hS ls (lv_sub hl [2, 3, 1, 0] rfl)
    exact loop26 (j + 1) 0 (Nat.zero_le _) (by omega) _ _ hP hD hS ls (lv_sub hl [2, 3, 1, 0] rfl)
  · refine lv_aload_n hx hb dX3_pass_16 rfl (lv_at hl 0 rfl) ?_
    refine lv_iconst (v := 1) hx hb dX3_pass_17 (by decide) ?_
    have hPc := hP.sub (ws' := wM cy b u 0 pz) [0, 1, 2, 3, 4, 5, 6] rfl
    have hDc := hD.sub (ws' := wM cy b u 0 pz) [0, 1, 2, 3, 4, 5, 6] (by decide) rfl
    have hFc := va_free (wc := wM cy b u 0 pz) hD hS hA [0, 1, 2, 3, 4, 5, 6] rfl
    refine va_calli (va_runV (As := [.int 1]) (rest := []) ⟨hx, hb, hml, hown, hts⟩ (mX3_fail l D cy H.size b u 0 pz 1) (cwV 1 hts gX3_pass_X3_fail rfl rfl rfl (by decide +kernel) ⟨Nat.le_of_ble_eq_true rfl, Nat.le_of_ble_eq_true rfl⟩) ⟨fun a U g mk q => ⟨q.1, q.2.1, q.2.2.1, va_K.moved (u := U) (U := U.calling g mk a) (Vm.Alike.refl U.vm) q.2.2.2.1, q.2.2.2.2⟩, va_recv hK hPc (ci := 3) (q0 := 0) rfl rfl, fun U hU hW => ⟨rfl, by rw [hU], by rw [hU]; exact hPc, va_K.moved hW.alike hK, hDc.weaken (fun _ _ _ _ => trivial)⟩⟩ rfl rfl hl.1 rfl (lv_room (Nat.le_of_ble_eq_true rfl)) dX3_pass_18 ⟨Nat.le_of_ble_eq_true rfl, Nat.le_of_ble_eq_true rfl⟩) hS (fun q _ h => hFc q h) hFc (fun r9 u9 t9 H1 locs ht9 hvm9 hw9 hB9 hz9 hk9 hS => ?_)
    obtain ⟨hP1, hD1⟩ := hB9
    rw [ht9] at hP1
    obtain ⟨hP, hD⟩ := va_join (wr := []) (w1 := wM cy b u 1 pz) hP hD [0, 1, 2, 3, 4, 5, 6] [] rfl rfl (by decide) (by decide) hk9 hFc hP1 hD1
    generalize H1 = H at hP hS ⊢
    have hP : va_P D vwCl (wM cy b u 1 pz) H := hP.sub [0, 1, 2, 3, 4, 5, 6] rfl
    have hD : va_D A (wM cy b u 1 pz) := hD.sub [0, 1, 2, 3, 4, 5, 6] (by decide) rfl
    clear hP1 hD1 hk9 hz9 ht9 hvm9 hPc hDc hFc
    subst hw9
    have hex9 : exPass xv = 1 := by simp [exPass, bI_0.mp c13]
    have hP9 : va_P D vwCl (wM cy b u (nI (exPass xv)) pz) H := (by rw [hex9]; exact hP)
    have hD9 : va_D A (wM cy b u (nI (exPass xv)) pz) := (by rw [hex9]; exact hD)
    exact W.iret (v := 0) hx hb hr (fun t ht hW => ⟨⟨0, u, rfl, ⟨fun z => absurd (hex9.symm.trans z) (by decide), fun _ => rfl⟩, by rw [ht]; exact hP9, hD9⟩, hS.F ht⟩) hS.2.2 dX3_pass_21

