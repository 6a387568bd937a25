/-! what the start gives -/
theorem law_and (x : Int32) : ∃ n : Nat, n < 32 ∧ x &&& 31 = nI n := by
  refine ⟨(x &&& 31).toBitVec.toNat, ?_, ?_⟩
  · show (x.toBitVec &&& (31 : Int32).toBitVec).toNat < 32
    rw [BitVec.toNat_and]
    exact Nat.lt_of_le_of_lt Nat.and_le_right (by decide)
  · apply Int32.toBitVec_inj.1
    show (x &&& 31).toBitVec = BitVec.ofNat 32 ((x &&& 31).toBitVec.toNat)
    simp
theorem law_ge {i L : Nat} (hL : L ≤ 3072) (hi : i ≤ 4000) (h : ¬ (nI L - 6 < nI i)) : i + 6 ≤ L := by
  have h1 : ¬ ((nI L - nI 6).toInt < (nI i).toInt) := fun z => h (Int32.lt_iff_toInt_lt.mpr z)
  rw [pk_sub_toInt (by omega) (by omega), nI_toInt (by omega)] at h1
  omega
theorem xbad_in : ∀ C ∈ xExc, ∀ w ∈ xBad C, w ∈ lw_tbl := by decide +kernel
theorem xstr_in : ∀ kt ∈ xStr, Cond.stringRef RX2 kt.1 kt.2 ∈ lw_tbl := by decide +kernel
theorem xstr_ex : ∀ kt ∈ xStr, Cond.exactly (Term.string RX2 kt.1) "java/lang/String" ∈ flatC (Jvm.Cond.and given_1 narrow_1) := by decide +kernel
theorem xlay_in : Cond.laysStatic Bundle.tN "UNASSIGNED_STACK" Bundle.steD ∈ lw_tbl ∧ Cond.laysStatic Bundle.tN "SUPPRESSED_SENTINEL" Bundle.listD ∈ lw_tbl ∧ Cond.initialized Bundle.tN ∈ lw_tbl := by decide +kernel
theorem xref_in : Cond.isRef (.static Bundle.tN "UNASSIGNED_STACK" Bundle.steD) ∈ flatC (Jvm.Cond.and given_1 narrow_1) ∧ Cond.isRef (.static Bundle.tN "SUPPRESSED_SENTINEL" Bundle.listD) ∈ flatC (Jvm.Cond.and given_1 narrow_1) := by decide +kernel
theorem xnc_in : Cond.not (.castable xA xI) ∈ flatC (Jvm.Cond.and given_1 narrow_1) ∧ Cond.not (.castable xT xI) ∈ flatC (Jvm.Cond.and given_1 narrow_1) ∧ Cond.not (.castable xT xA) ∈ flatC (Jvm.Cond.and given_1 narrow_1) ∧ Cond.not (.castable xI xA) ∈ flatC (Jvm.Cond.and given_1 narrow_1) := by decide +kernel
theorem xarr_in : Cond.arrayClass .int ∈ lw_tbl ∧ Cond.arrayClass .boolean ∈ lw_tbl ∧ Cond.arrayClass .long ∈ lw_tbl ∧ Cond.arrayOver (.object RX0) ∈ lw_tbl ∧ Cond.arrayOver (.array .int) ∈ lw_tbl ∧ Cond.castable "[I" "java/lang/Cloneable" ∈ lw_tbl := by decide +kernel
theorem xins_in : Cond.instantiable RX0 3 ∈ lw_tbl ∧ Cond.instantiable RX1 8 ∈ lw_tbl ∧ Cond.instantiable RX2 6 ∈ lw_tbl ∧ Cond.instantiable RX3 8 ∈ lw_tbl := by decide +kernel
theorem law_st {l : Launch} (h : l.flags = flags0) : l.stackTraces = false := by
  show (!l.flags.contains noTraceFlag) = false
  rw [h]
  decide +kernel
theorem law_xC {s : State} {b : Nat} (hts : ∀ w ∈ lw_tbl, w.before #[Value.ref b] s = true) (hgv : (Jvm.Cond.and given_1 narrow_1).before #[Value.ref b] s = true) : xC s s.heap ∧ xNc s := by
  have hs := flat_of_before _ hgv
  refine ⟨⟨vx_Zqof (hts _ xlay_in.1) (hts _ xlay_in.2.2) (hs _ xref_in.1) (fun _ _ z => z), vx_Zqof (hts _ xlay_in.2.1) (hts _ xlay_in.2.2) (hs _ xref_in.2) (fun _ _ z => z), fun C hC w hw => va_Nw.of (xBad_tab w hw) (hts w (xbad_in C hC w hw)), fun kt hk => ?_⟩, va_Nc.of (hs _ xnc_in.1), va_Nc.of (hs _ xnc_in.2.1), va_Nc.of (hs _ xnc_in.2.2.1), va_Nc.of (hs _ xnc_in.2.2.2)⟩
  obtain ⟨a9, c9, cell9, k9, h9, h8⟩ := Cond.exactly_spec (hs _ (xstr_ex kt hk))
  exact ⟨a9, vk_R.of (hts _ (xstr_in kt hk)) h9⟩
theorem law_arr {s : State} {A : Array Value} {ty : FieldType} (h : (Cond.arrayClass ty).before A s = true) : ∃ cA : ClassId, ArrOfT s cA ty ∧ s.vm.findClass ("[" ++ ty.toString) = some cA := by
  obtain ⟨c9, k9, comp, h1, h2, h3⟩ := Cond.arrayClass_spec h
  exact ⟨c9, fun n z => ⟨fun k h => (by cases h), k9, h2, comp, h3⟩, h1⟩
theorem law_X {p : Program} {s : State} {m : MethodId} {meth : Method} {c : Code} {l : Launch} (hflags : l.flags = flags0) {b L : Nat} {xs : Nat → Int32} (hL : L ≤ 3072) (C0 : lw_At p s m meth c b L xs) : ∃ (D : va_G) (cy : Nat → ClassId), LX p l s m meth c b L xs D cy ∧ va_AO RX0 s := by
  obtain ⟨hx, hb, hr, hml, hown, hts, hX, hbl, hlocks, hgv⟩ := id C0
  obtain ⟨hXc, hNc⟩ := law_xC hts hgv
  obtain ⟨d0, i0, hK0⟩ := u_known (C := RX0) (T := TX0) (N := 3) (n := 3) hts wsX00_in9 (hts _ xins_in.1)
  obtain ⟨d1, i1, hK1⟩ := u_known (C := RX1) (T := TX1) (N := 8) (n := 8) hts wsX10_in9 (hts _ xins_in.2.1)
  obtain ⟨d2, i2, hK2⟩ := u_known (C := RX2) (T := TX2) (N := 6) (n := 6) hts wsX20_in9 (hts _ xins_in.2.2.1)
  obtain ⟨d3, i3, hK3⟩ := u_known (C := RX3) (T := TX3) (N := 8) (n := 8) hts wsX30_in9 (hts _ xins_in.2.2.2)
  obtain ⟨cI, hI1, hI2⟩ := law_arr (hts _ xarr_in.1)
  obtain ⟨cZ, hZ1, hZ2⟩ := law_arr (hts _ xarr_in.2.1)
  obtain ⟨cJ, hJ1, hJ2⟩ := law_arr (hts _ xarr_in.2.2.1)
  have hAO : va_AO RX0 s := va_AO.of (hts _ xarr_in.2.2.2.1)
  obtain ⟨pQ, cQ, kQ, hQ1, hQ2, hQ3, hQ4, hQ5⟩ := Cond.arrayOver_spec (hts _ xarr_in.2.2.2.1)
  have hA2 : (Cond.arrayOver (.array .int)).before #[] s = true := hts _ xarr_in.2.2.2.2.1
  obtain ⟨pA, cA, kA, hA3, hA4, hA5, hA6, hA7⟩ := Jvm.Stand.arrayOver_specB (args := #[]) hA2
  refine ⟨(fun k => if k = 0 then d0 else if k = 1 then d1 else if k = 2 then d2 else d3, fun k => if k = 0 then i0 else if k = 1 then i1 else if k = 2 then i2 else i3), fun k => if k = 0 then cI else if k = 1 then cZ else if k = 2 then cQ else if k = 3 then cJ else cA, ⟨C0, hL, law_st hflags, ⟨?_, ?_⟩, ⟨hA2, hA7, va_Nw.of rfl (hts _ xarr_in.2.2.2.2.2)⟩, hXc, hNc⟩, hAO⟩
  · intro k q9 hq
    match k, hq with
    | 0, hq => cases hq; exact hK0
    | 1, hq => cases hq; exact hK1
    | 2, hq => cases hq; exact hK2
    | 3, hq => cases hq; exact hK3
    | k + 4, hq => simp [vwCl] at hq
  · intro k q9 hq
    match k, hq with
    | 0, hq => cases hq; exact ⟨hI1, hI2⟩
    | 1, hq => cases hq; exact ⟨hZ1, hZ2⟩
    | 2, hq => cases hq; exact ⟨fun n z => ⟨fun k h => (by cases h), kQ, hQ3, pQ, hQ4⟩, kQ, pQ, hQ3, hQ4, hQ1, hQ5⟩
    | 3, hq => cases hq; exact ⟨hJ1, hJ2⟩
    | k + 4, hq => simp [TY] at hq
set_option maxHeartbeats 4000000 in
set_option maxRecDepth 100000 in
/-- THE LAW'S LOOP: at its head, with i ints read in k calls, the class and the model agree -/
theorem law_loop {p : Program} {l : Launch} {e : Env} {s : State} {m : MethodId} {below : List Frame} {meth : Method} {c : Code} {b L : Nat} {xs : Nat → Int32} {D : va_G} {cy : Nat → ClassId} {a q q2 ca ta mo : Nat → Nat} {o : Nat} (X : LX p l s m meth c b L xs D cy) : ∀ (n i k C S : Nat), i ≤ L → 6 * k ≤ i → L + 1 ≤ i + n → C + 9 * n ≤ 601024 → S + 112 * n ≤ 7293034 → LK p l e s m below meth c (lw_Z below #[Value.ref b] s) b D cy a q q2 ca ta mo o i k C S 23 := by
  obtain ⟨⟨hx, hb, hr, hml, hown, hts, hX, hbl, hlocks, hgv⟩, hL, hst, hK, hKP, hXc, hNc⟩ := id X
  have hb9 : c.code = cL_law := hb
  intro n
  induction n with
  | zero => intro i k C S h1 h2 h3 h4 h5; exact absurd h3 (by omega)
  | succ n ih =>
    intro i k C S h1 h2 h3 h4 h5 u g th f H locs ls hI hP hD hS hl
    refine lv_iload hx hb9 dL_law_23 (lv_at hl 4 rfl) ?_
    refine lv_aload_n hx hb9 dL_law_25 rfl (lv_at hl 0 rfl) ?_
    refine va_slen hx hb9 hX hbl (A := AL s) (Nat.not_le.mpr hbl) hS dL_law_26 ?_
    refine pc_top (show Int32.ofNat L = nI L from rfl) ?_
    refine lv_bipush (v := 6) hx hb9 dL_law_27 (by decide) ?_
    refine lv_isub hx hb9 dL_law_29 ?_
    refine lv_icmp_gt (tgt := 1133) hx hb9 dL_law_30 (by decide) (fun c9 => ?_) (fun c9 => ?_)
    · refine lv_iconst (v := 1) hx hb9 dL_law_1133 (by decide) ?_
      refine va_forget (fun z hz => hS.2.2 z hz) ?_
      refine W.widen (k := 601024) (n := 7293034) (by omega) (by omega) ?_
      exact W.base (lw_ret (Drawn.sameBut.refl s.drawn lw_cs) hx hb hr hlocks dL_law_1134)
    · have hi6 : i + 6 ≤ L := law_ge hL (by omega) c9
      have kk : LK p l e s m below meth c (lw_Z below #[Value.ref b] s) b D cy a q q2 ca ta mo o i (k + 1) (C + 9) (S + 112) 1127 := by
        intro u g th f H locs ls hI hP hD hS hl
        refine lv_iinc (v := nI (i + 6)) (lv' := [(4, .int (nI (i + 6))), (0, .ref b), (1, .ref (a 0)), (2, .ref (mo 0)), (3, .ref o)]) hx hb9 dL_law_1127 hl (k := 4) rfl ((show nI i + Int32.ofInt 6 = nI i + 6 from rfl).trans (show nI i + 6 = nI (i + 6) from nI_add i 6)) (by decide) rfl (fun ls hl => ?_)
        refine lv_goto (tgt := 23) hx hb9 dL_law_1130 (by decide) ?_
        exact ih (i + 6) (k + 1) (C + 9) (S + 112) hi6 (by omega) (by omega) (by omega) (by omega) u g th f H locs ls hI hP hD hS (lv_sub hl [1, 2, 3, 4, 0] rfl)
      refine lv_aload_n hx hb9 dL_law_33 rfl (lv_at hl 0 rfl) ?_
      refine lv_iload hx hb9 dL_law_34 (lv_at hl 4 rfl) ?_
      refine law_rd hx hb9 hX hbl hS (by omega) hL dL_law_36 ?_
      refine lv_bipush (v := 31) hx hb9 dL_law_37 (by decide) ?_
      refine lv_iand hx hb9 dL_law_39 ?_
      obtain ⟨w, hw, ew⟩ := law_and (xs i)
      refine pc_top ew ?_
      rcases (show w = 0 ∨ w = 1 ∨ w = 2 ∨ w = 3 ∨ w = 4 ∨ w = 5 ∨ w = 6 ∨ w = 7 ∨ w = 8 ∨ w = 9 ∨ w = 10 ∨ w = 11 ∨ w = 12 ∨ w = 13 ∨ w = 14 ∨ w = 15 ∨ w = 16 ∨ 16 < w by omega) with rfl | rfl | rfl | rfl | rfl | rfl | rfl | rfl | rfl | rfl | rfl | rfl | rfl | rfl | rfl | rfl | rfl | hw
      · exact lv_tableIn (off := 84) (tgt := 124) hx hb9 dL_law_40 (by decide) (by decide) rfl (by decide) (law_k0 X hi6 (by omega) (by omega) (by omega) kk u g th f H locs ls hI hP hD hS hl)
      · exact lv_tableIn (off := 152) (tgt := 192) hx hb9 dL_law_40 (by decide) (by decide) rfl (by decide) (law_k1 X hi6 (by omega) (by omega) (by omega) kk u g th f H locs ls hI hP hD hS hl)
      · exact lv_tableIn (off := 220) (tgt := 260) hx hb9 dL_law_40 (by decide) (by decide) rfl (by decide) (law_k2 X hi6 (by omega) (by omega) (by omega) kk u g th f H locs ls hI hP hD hS hl)
      · exact lv_tableIn (off := 300) (tgt := 340) hx hb9 dL_law_40 (by decide) (by decide) rfl (by decide) (law_k3 X hi6 (by omega) (by omega) (by omega) kk u g th f H locs ls hI hP hD hS hl)
      · exact lv_tableIn (off := 368) (tgt := 408) hx hb9 dL_law_40 (by decide) (by decide) rfl (by decide) (law_k4 X hi6 (by omega) (by omega) (by omega) kk u g th f H locs ls hI hP hD hS hl)
      · exact lv_tableIn (off := 448) (tgt := 488) hx hb9 dL_law_40 (by decide) (by decide) rfl (by decide) (law_k5 X hi6 (by omega) (by omega) (by omega) kk u g th f H locs ls hI hP hD hS hl)
      · exact lv_tableIn (off := 552) (tgt := 592) hx hb9 dL_law_40 (by decide) (by decide) rfl (by decide) (law_k6 X hi6 (by omega) (by omega) (by omega) kk u g th f H locs ls hI hP hD hS hl)
      · exact lv_tableIn (off := 608) (tgt := 648) hx hb9 dL_law_40 (by decide) (by decide) rfl (by decide) (law_k7 X hi6 (by omega) (by omega) (by omega) kk u g th f H locs ls hI hP hD hS hl)
      · exact lv_tableIn (off := 671) (tgt := 711) hx hb9 dL_law_40 (by decide) (by decide) rfl (by decide) (law_k8 X hi6 (by omega) (by omega) (by omega) kk u g th f H locs ls hI hP hD hS hl)
      · exact lv_tableIn (off := 727) (tgt := 767) hx hb9 dL_law_40 (by decide) (by decide) rfl (by decide) (law_k9 X hi6 (by omega) (by omega) (by omega) kk u g th f H locs ls hI hP hD hS hl)
      · exact lv_tableIn (off := 783) (tgt := 823) hx hb9 dL_law_40 (by decide) (by decide) rfl (by decide) (law_k10 X hi6 (by omega) (by omega) (by omega) kk u g th f H locs ls hI hP hD hS hl)
      · exact lv_tableIn (off := 839) (tgt := 879) hx hb9 dL_law_40 (by decide) (by decide) rfl (by decide) (law_k11 X hi6 (by omega) (by omega) (by omega) kk u g th f H locs ls hI hP hD hS hl)
      · exact lv_tableIn (off := 895) (tgt := 935) hx hb9 dL_law_40 (by decide) (by decide) rfl (by decide) (law_k12 X hi6 (by omega) (by omega) (by omega) kk u g th f H locs ls hI hP hD hS hl)
      · exact lv_tableIn (off := 908) (tgt := 948) hx hb9 dL_law_40 (by decide) (by decide) rfl (by decide) (law_k13 X hi6 (by omega) (by omega) (by omega) kk u g th f H locs ls hI hP hD hS hl)
      · exact lv_tableIn (off := 964) (tgt := 1004) hx hb9 dL_law_40 (by decide) (by decide) rfl (by decide) (law_k14 X hi6 (by omega) (by omega) (by omega) kk u g th f H locs ls hI hP hD hS hl)
      · exact lv_tableIn (off := 1032) (tgt := 1072) hx hb9 dL_law_40 (by decide) (by decide) rfl (by decide) (law_k15 X hi6 (by omega) (by omega) (by omega) kk u g th f H locs ls hI hP hD hS hl)
      · exact lv_tableIn (off := 1073) (tgt := 1113) hx hb9 dL_law_40 (by decide) (by decide) rfl (by decide) (law_k16 X hi6 (by omega) (by omega) (by omega) kk u g th f H locs ls hI hP hD hS hl)
      · refine lv_tableOut (tgt := 1127) hx hb9 dL_law_40 (Or.inr (show (16 : Int) < (nI w).toInt by rw [nI_toInt (by omega)]; omega)) (by decide) ?_
        refine W.widen (k := C + 9) (n := S + 112) (by omega) (by omega) ?_
        exact kk u g th f H locs ls (IJ_stay hI) hP hD hS hl
set_option maxHeartbeats 4000000 in
set_option maxRecDepth 100000 in
/-- THE LAW, from its entry -/
theorem whole_start {p : Program} {e : Env} {s : State} {m : MethodId} {below : List Frame} {meth : Method} {c : Code} (l : Launch) (hflags : l.flags = flags0) {b L : Nat} {xs : Nat → Int32} (hL : L ≤ 3072) (C0 : lw_At p s m meth c b L xs) : W p l e room_1 s m #[Value.ref b] below meth c s.heap [] 0 0 (lw_Z below #[Value.ref b] s) (entryFrame m ([Value.ref b] : List Value).toArray 9) := by
  obtain ⟨D, cy, X, hAO⟩ := law_X hflags hL C0
  obtain ⟨⟨hx, hb, hr, hml, hown, hts, hX, hbl, hlocks, hgv⟩, hL, hst, hK, hKP, hXc, hNc⟩ := id X
  have hb : c.code = cL_law := hb
  have hown : s.vm.findClass RL = some m.cls := hown
  have S9 : CallFix p m c cL_law 9 s #[Value.ref b] lw_tbl RL := ⟨hx, hb, hml, hown, hts⟩
  have hA : ∀ q : Nat, s.heap.size ≤ q → AL s q := fun _ h => h
  have hS : va_S (AL s) s.heap s.heap [] := va_S.rf
  have hP : va_P D vwCl [] s.heap := fun k q h => by simp at h
  have hD : va_D (AL s) [] := ⟨fun i j p q h => by simp at h, fun k q h => by simp at h⟩
  have hl := lv_entry ([.ref b]) (n := 9) (Nat.le_of_ble_eq_true rfl)
  rw [lg_entry_eq]
  generalize (lg_sl ([.ref b]) ++ List.replicate (9 - (lg_sl ([.ref b])).length) Slot.unset).toArray = ls at hl ⊢
  have hl : lv_has ls 9 [(0, .ref b)] := hl
  refine va_new (ci := 2) (fs := [.null, .null, .null, .null, .null, .int 0]) (C := RX2) (T := TX2) (N := 6) hx hb hts wsX20_in9 tyX2 tyX2_ok hown (hts (.classLink RL 8 RX2) lq_1_0.1) (hts (.instantiable RX2 6) lq_1_1.1) (hts (.initialized RX2) lq_1_2.1) hK hP hD hS hA rfl (fun j hj => by rcases (show j = 0 ∨ j = 1 ∨ j = 2 ∨ j = 3 ∨ j = 4 ∨ j = 5 by omega) with rfl | rfl | rfl | rfl | rfl | rfl <;> rfl) (Nat.le_of_ble_eq_true rfl) (Nat.le_of_ble_eq_true rfl) dL_law_0 (fun x0 H hP hD hS => ?_)
  have hP : va_P D vwCl ([(x0, .inr (2, [.null, .null, .null, .null, .null, .int 0]))]) H := hP
  have hD : va_D (AL s) ([(x0, .inr (2, [.null, .null, .null, .null, .null, .int 0]))]) := hD
  refine W.widen (k := 1) (n := 6) (Nat.le_of_ble_eq_true rfl) (Nat.le_of_ble_eq_true rfl) ?_
  refine lv_dup hx hb dL_law_3 rfl ?_
  have hPc := hP.sub (ws' := [(x0, .inr (2, [.null, .null, .null, .null, .null, .int 0]))]) [0] rfl
  have hDc := hD.sub (ws' := [(x0, .inr (2, [.null, .null, .null, .null, .null, .int 0]))]) [0] (by decide) rfl
  have hFc := va_free (wc := [(x0, .inr (2, [.null, .null, .null, .null, .null, .int 0]))]) hD hS hA [0] rfl
  refine va_callv (va_runI (As := []) (rest := [.ref x0]) S9 (mX2_init l D cy H.size x0) (cwI 0 hts lg_wsX2_init rfl rfl rfl (hts (.initialized RX2) lq_1_2.1) (hts (.methodLink RL 62 yX2_init) lq_1_7.1) (hts (.instanceMethod yX2_init) lq_1_8.1) rfl (by decide +kernel) ⟨Nat.le_of_ble_eq_true rfl, Nat.le_of_ble_eq_true rfl⟩) ⟨fun a U g mk q => ⟨q.1, q.2.1, q.2.2.1, va_K.moved (u := U) (U := U.calling g mk a) (Vm.Alike.refl U.vm) q.2.2.2.1, q.2.2.2.2.1, va_AO.moved (u := U) (U := U.calling g mk a) (Vm.Alike.refl U.vm) q.2.2.2.2.2⟩, fun U hU hW => ⟨rfl, by rw [hU], by rw [hU]; exact hPc, va_K.moved hW.alike hK, hDc.weaken (fun _ _ _ _ => trivial), va_AO.moved hW.alike hAO⟩⟩ rfl rfl hl.1 rfl (lv_room (Nat.le_of_ble_eq_true rfl)) dL_law_4 ⟨Nat.le_of_ble_eq_true rfl, Nat.le_of_ble_eq_true rfl⟩) hS (fun q _ h => hFc q h) hFc (fun u9 t9 H1 locs ht9 hvm9 hw9 hB9 hz9 hk9 hS => ?_)
  obtain ⟨a, q, q2, ca, ta⟩ := u9
  have hP1 : va_P D vwCl (wX cy a q q2 ca ta uNew hNew) t9.heap := hB9.1
  have hD1 : va_D (va_A [(x0, .inr (2, [.null, .null, .null, .null, .null, .int 0]))] H.size) (wX cy a q q2 ca ta uNew hNew) := hB9.2
  rw [ht9] at hP1
  have hw9 : a 0 = x0 := hw9
  obtain ⟨hP, hD⟩ := va_join (wc := [(x0, .inr (2, [.null, .null, .null, .null, .null, .int 0]))]) (wr := []) (w1 := wX cy a q q2 ca ta uNew hNew) hP hD [0] [] rfl rfl (by decide) (by decide) hk9 hFc hP1 hD1
  have hP : va_P D vwCl (wX cy a q q2 ca ta uNew hNew) H1 := hP
  have hD : va_D (AL s) (wX cy a q q2 ca ta uNew hNew) := hD
  rw [← hw9]
  clear hP1 hD1 hk9 hz9 ht9 hvm9 hPc hDc hFc hB9 hw9
  generalize H1 = H9 at hP hS ⊢
  refine W.widen (k := 30) (n := 238) (Nat.le_of_ble_eq_true rfl) (Nat.le_of_ble_eq_true rfl) ?_
  refine lv_astore_n (lv' := [(1, .ref (a 0)), (0, .ref b)]) hx hb dL_law_7 rfl hl (by decide) rfl (fun ls hl => ?_)
  refine va_new (ci := 3) (fs := [.int 0, .null, .int 0, .null, .null, .null, .null, .null]) (C := RX3) (T := TX3) (N := 8) hx hb hts wsX30_in9 tyX3 tyX3_ok hown (hts (.classLink RL 63 RX3) lq_1_3.1) (hts (.instantiable RX3 8) lq_1_4.1) (hts (.initialized RX3) lq_1_5.1) hK hP hD hS hA rfl (fun j hj => by rcases (show j = 0 ∨ j = 1 ∨ j = 2 ∨ j = 3 ∨ j = 4 ∨ j = 5 ∨ j = 6 ∨ j = 7 by omega) with rfl | rfl | rfl | rfl | rfl | rfl | rfl | rfl <;> rfl) (Nat.le_of_ble_eq_true rfl) (Nat.le_of_ble_eq_true rfl) dL_law_8 (fun y0 H hP hD hS => ?_)
  have hP : va_P D vwCl (wX cy a q q2 ca ta uNew hNew ++ [(y0, .inr (3, [.int 0, .null, .int 0, .null, .null, .null, .null, .null]))]) H := hP
  have hD : va_D (AL s) (wX cy a q q2 ca ta uNew hNew ++ [(y0, .inr (3, [.int 0, .null, .int 0, .null, .null, .null, .null, .null]))]) := hD
  refine W.widen (k := 31) (n := 246) (Nat.le_of_ble_eq_true rfl) (Nat.le_of_ble_eq_true rfl) ?_
  refine lv_dup hx hb dL_law_11 rfl ?_
  have hPc := hP.sub (ws' := [(y0, .inr (3, [.int 0, .null, .int 0, .null, .null, .null, .null, .null]))]) [30] rfl
  have hDc := hD.sub (ws' := [(y0, .inr (3, [.int 0, .null, .int 0, .null, .null, .null, .null, .null]))]) [30] (by decide) rfl
  have hFc := va_free (wc := [(y0, .inr (3, [.int 0, .null, .int 0, .null, .null, .null, .null, .null]))]) hD hS hA [30] rfl
  refine va_callv (va_runI (As := []) (rest := [.ref y0]) S9 (mX3_init l D cy H.size y0) (cwI 0 hts lg_wsX3_init rfl rfl rfl (hts (.initialized RX3) lq_1_5.1) (hts (.methodLink RL 65 yX3_init) lq_2_22.1) (hts (.instanceMethod yX3_init) lq_2_23.1) rfl (by decide +kernel) ⟨Nat.le_of_ble_eq_true rfl, Nat.le_of_ble_eq_true rfl⟩) ⟨fun a U g mk q => ⟨q.1, q.2.1, q.2.2.1, va_K.moved (u := U) (U := U.calling g mk a) (Vm.Alike.refl U.vm) q.2.2.2.1, q.2.2.2.2⟩, fun U hU hW => ⟨rfl, by rw [hU], by rw [hU]; exact hPc, va_K.moved hW.alike hK, hDc.weaken (fun _ _ _ _ => trivial)⟩⟩ rfl rfl hl.1 rfl (lv_room (Nat.le_of_ble_eq_true rfl)) dL_law_12 ⟨Nat.le_of_ble_eq_true rfl, Nat.le_of_ble_eq_true rfl⟩) hS (fun q _ h => hFc q h) hFc (fun mo t9 H1 locs ht9 hvm9 hw9 hB9 hz9 hk9 hS => ?_)
  obtain ⟨hP1, hD1⟩ := hB9
  rw [ht9] at hP1
  obtain ⟨hP, hD⟩ := va_join (wc := [(y0, .inr (3, [.int 0, .null, .int 0, .null, .null, .null, .null, .null]))]) (wr := wX cy a q q2 ca ta uNew hNew) (w1 := wM cy mo uNew 0 pz) hP hD [30] [0, 1, 2, 3, 4, 5, 6, 7, 8, 9, 10, 11, 12, 13, 14, 15, 16, 17, 18, 19, 20, 21, 22, 23, 24, 25, 26, 27, 28, 29] rfl rfl (by decide) (by decide) hk9 hFc hP1 hD1
  rw [← hw9]
  clear hP1 hD1 hk9 hz9 ht9 hvm9 hPc hDc hFc hw9
  generalize H1 = H8 at hP hS ⊢
  refine W.widen (k := 37) (n := 392) (Nat.le_of_ble_eq_true rfl) (Nat.le_of_ble_eq_true rfl) ?_
  refine lv_astore_n (lv' := [(2, .ref (mo 0)), (1, .ref (a 0)), (0, .ref b)]) hx hb dL_law_15 rfl hl (by decide) rfl (fun ls hl => ?_)
  refine lv_iconst (v := 1) hx hb dL_law_16 (by decide) ?_
  refine pc_newa (atype := .long) (ty := .long) (N' := 1) (a0 := (1, .inr (.inl (fun _ => 0)))) hx hb (hts (.arrayClass .long) lq_1_6.1) rfl hK hP hD hS hA 3 rfl (fun _ => rfl) (by decide) (by decide) (by decide) (Nat.le_of_ble_eq_true rfl) (Nat.le_of_ble_eq_true rfl) dL_law_17 (fun o H hP hD hS => ?_)
  have hP : va_P D vwCl (wLw cy a q q2 ca ta mo o uNew hNew uNew 0 (fun _ => 0)) H := hP.sub [0, 1, 2, 3, 4, 5, 6, 7, 8, 9, 10, 11, 12, 13, 14, 15, 16, 17, 18, 19, 20, 21, 22, 23, 24, 25, 26, 27, 28, 29, 30, 31, 32, 33, 34, 35, 36, 37] rfl
  have hD : va_D (AL s) (wLw cy a q q2 ca ta mo o uNew hNew uNew 0 (fun _ => 0)) := hD.sub [0, 1, 2, 3, 4, 5, 6, 7, 8, 9, 10, 11, 12, 13, 14, 15, 16, 17, 18, 19, 20, 21, 22, 23, 24, 25, 26, 27, 28, 29, 30, 31, 32, 33, 34, 35, 36, 37] (by decide) rfl
  refine lv_astore_n (lv' := [(3, .ref o), (2, .ref (mo 0)), (1, .ref (a 0)), (0, .ref b)]) hx hb dL_law_19 rfl hl (by decide) rfl (fun ls hl => ?_)
  refine lv_iconst (v := 0) hx hb dL_law_20 (by decide) ?_
  refine pc_top (show (0 : Int32) = nI 0 from nI_0.symm) ?_
  refine lv_istore (lv' := [(4, .int (nI 0)), (3, .ref o), (2, .ref (mo 0)), (1, .ref (a 0)), (0, .ref b)]) hx hb dL_law_21 hl (by decide) rfl (fun ls hl => ?_)
  refine W.widen (k := 38) (n := 393) (Nat.le_of_ble_eq_true rfl) (Nat.le_of_ble_eq_true rfl) ?_
  exact law_loop X (L + 1) 0 0 38 393 (Nat.zero_le L) (Nat.le_refl _) (by omega) (by omega) (by omega) uNew hNew 0 (fun _ => 0) H _ ls IJ_new hP hD hS (lv_sub hl [4, 3, 2, 1, 0] rfl)
