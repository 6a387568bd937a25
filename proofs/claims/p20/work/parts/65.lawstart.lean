/-! the law's own end and what holds at its entry (begun from the skeleton) -/
def R_law : String := "WedgeHarpsLaw"
def lw_P (b : Addr) (xs : List Int32) (args : Array Value) (s : State) : Prop := args = #[.ref b] ∧ s.IntsAt b xs ∧ xs.length ≤ 260 ∧ (Jvm.Cond.and given_1 narrow_1).before args s = true
/-- what a walk over the start with the record d0 says of its end, said of the start itself -/
theorem lw_closed {s t : State} {o : Outcome} {d0 : Drawn} {L : List Loc} {k n : Nat} (hd0 : s.drawn.sameBut d0 lw_cs) (hv : ∃ v, o = .returned v) (hW : (s.setDrawn d0).WarmedH t.vm) (hs : (s.setDrawn d0).sameButNew ({ t with vm := s.vm } : State) L k n) : State.butDraws s t lw_cs (fun t1 => Framed s o t1 L k n) := by
  have h2 : t.drawn = d0 := congrArg State.drawn hs.1
  refine ⟨⟨hv, hW, State.sameButNew.setDrawn hs s.drawn⟩, ?_, by decide⟩
  rw [h2]
  exact hd0
def lw_Q (_ : Array Value) (s : State) (o : Outcome) (t : State) : Prop := o = .returned (some (.int 1)) ∧ State.butDraws s t lw_cs (fun t1 => Framed s o t1 [] 617289 7249830)
def lw_Z (below : List Frame) (a : Array Value) (s : State) : State → Prop := fun t => ∃ o, t.status = .running ∧ Ended t below o ∧ lw_Q a s o t
/-- the law's own end, with 1 on the stack, nothing written that was there before, its room as the claim has it; d0: the record of draws at this point (at the entry s.drawn: begin with 'refine W.base ?_' and 'have hd0 := Drawn.sameBut.refl s.drawn lw_cs') -/
theorem lw_ret {p : Program} {l : Launch} {e : Env} {s : State} {m : MethodId} {below : List Frame} {meth : Method} {c : Code} {b : Nat} {d0 : Drawn} (hd0 : s.drawn.sameBut d0 lw_cs) (hx : p.tables.exec = Jvm.exec) (hb : c.code = code) (hr : meth.sig.returnType = ret) (hlocks : meth.locks = false) {pc : Nat} {H : Heap} {ls : Array Slot} (hdg : decode code pc = .ok (.ireturn, 1)) : W p l e room_1 (s.setDrawn d0) m #[Value.ref b] below meth c H [] 617289 7249830 (lw_Z below #[Value.ref b] s) (F0 m pc ls [.int 1]) := by
  intro T hT X
  obtain ⟨fs, hret, hrun, hended, hW, hframe⟩ := X.leave (v := some (.int 1)) (hlocks := hlocks) (fun h => by rw [hr] at h; cases h)
  have hmeth' : T.vm.method? m = some meth := X.method'
  refine ⟨T.setFrames fs, ?_, .returned (some (.int 1)), hrun, hended, rfl, lw_closed hd0 ⟨_, rfl⟩ hW hframe⟩
  jvm_step X.here [X.here.top, hx, hb, hdg, hmeth', hr, ret, narrow_b1]
  (try refine ⟨rfl, ?_⟩); (try refine ⟨rfl, ?_⟩)
  first | (intro acts; rw [hret _ acts rfl rfl rfl]) | rw [hret _ _ rfl rfl rfl]
  exact Steps.refl _
/-- what holds at the law's entry: the machine, the code, the tables' words (any of lw_tbl by 'hts w (by decide +kernel)'), the script of L ints xs at the cell b, what the Statement gives of the start (any of its parts by flat_of_before) -/
def lw_At (p : Program) (s : State) (m : MethodId) (meth : Method) (c : Code) (b L : Nat) (xs : Nat → Int32) : Prop :=
  p.tables.exec = Jvm.exec ∧ c.code = code ∧ meth.sig.returnType = ret ∧ c.maxLocals = 26 ∧ s.vm.findClass R_law = some m.cls ∧ (∀ w ∈ lw_tbl, w.before #[Value.ref b] s = true) ∧ va_X b L xs s s.heap ∧ b < s.heap.size ∧ meth.locks = false ∧ (Jvm.Cond.and given_1 narrow_1).before #[Value.ref b] s = true

/-! what the start gives -/
theorem xbad_in : ∀ C ∈ xExc, ∀ w ∈ xBad C, w ∈ lw_tbl := by decide +kernel
theorem xstr_in : ∀ kt ∈ xStr, Cond.stringRef RX2 kt.1 kt.2 ∈ lw_tbl := by decide +kernel
theorem xstr_ex : ∀ kt ∈ xStr, Cond.exactly (Term.string RX2 kt.1) "java/lang/String" ∈ flatC (Jvm.Cond.and given_1 narrow_1) := by decide +kernel
theorem xlay_in : Cond.laysStatic Bundle.tN "UNASSIGNED_STACK" Bundle.steD ∈ lw_tbl ∧ Cond.laysStatic Bundle.tN "SUPPRESSED_SENTINEL" Bundle.listD ∈ lw_tbl ∧ Cond.initialized Bundle.tN ∈ lw_tbl := by decide +kernel
theorem xref_in : Cond.isRef (.static Bundle.tN "UNASSIGNED_STACK" Bundle.steD) ∈ flatC (Jvm.Cond.and given_1 narrow_1) ∧ Cond.isRef (.static Bundle.tN "SUPPRESSED_SENTINEL" Bundle.listD) ∈ flatC (Jvm.Cond.and given_1 narrow_1) := by decide +kernel
theorem xarr_in : Cond.arrayClass .int ∈ lw_tbl ∧ Cond.arrayClass .boolean ∈ lw_tbl ∧ Cond.arrayOver (.object RX0) ∈ lw_tbl ∧ Cond.arrayOver (.array .int) ∈ lw_tbl := by decide +kernel
theorem xins_in : Cond.instantiable RX0 3 ∈ lw_tbl ∧ Cond.instantiable RX1 8 ∈ lw_tbl ∧ Cond.instantiable RX2 6 ∈ lw_tbl ∧ Cond.instantiable RX3 6 ∈ lw_tbl := by decide +kernel
theorem law_st {l : Launch} (h : l.flags = flags0) : l.stackTraces = false := by
  show (!l.flags.contains noTraceFlag) = false
  rw [h]
  decide +kernel
abbrev AL (s : State) : Nat → Prop := fun q => s.heap.size ≤ q
theorem law_xCA {s : State} {b : Nat} (hts : ∀ w ∈ lw_tbl, w.before #[Value.ref b] s = true) (hgv : (Jvm.Cond.and given_1 narrow_1).before #[Value.ref b] s = true) : xCA (AL s) s s.heap := by
  have hs := flat_of_before _ hgv
  refine ⟨vx_Zqof (hts _ xlay_in.1) (hts _ xlay_in.2.2) (hs _ xref_in.1) (fun _ h z => absurd h (Nat.not_lt.mpr z)), vx_Zqof (hts _ xlay_in.2.1) (hts _ xlay_in.2.2) (hs _ xref_in.2) (fun _ h z => absurd h (Nat.not_lt.mpr z)), fun C hC w hw => va_Nw.of (xBad_tab w hw) (hts w (xbad_in C hC w hw)), fun kt hk => ?_⟩
  obtain ⟨a9, c9, cell9, k9, h9, h8⟩ := Cond.exactly_spec (hs _ (xstr_ex kt hk))
  exact ⟨a9, vk_R.of (hts _ (xstr_in kt hk)) h9⟩
theorem law_arr {s : State} {A : Array Value} {ty : FieldType} (h : (Cond.arrayClass ty).before A s = true) : ∃ cA : ClassId, ArrOfT s cA ty ∧ s.vm.findClass ("[" ++ ty.toString) = some cA := by
  obtain ⟨c9, k9, comp, h1, h2, h3⟩ := Cond.arrayClass_spec h
  exact ⟨c9, fun n z => ⟨fun k h => (by cases h), k9, h2, comp, h3⟩, h1⟩
theorem law_X {p : Program} {s : State} {m : MethodId} {meth : Method} {c : Code} {l : Launch} (hflags : l.flags = flags0) {b L : Nat} {xs : Nat → Int32} (hL : L ≤ 260) (C0 : lw_At p s m meth c b L xs) : ∃ (D : va_G) (cy : Nat → ClassId), LX p l s m c b L xs D cy (AL s) ∧ va_AO RX0 s := by
  obtain ⟨hx, hb, hr, hml, hown, hts, hX, hbl, hlocks, hgv⟩ := id C0
  have hXA := law_xCA hts hgv
  obtain ⟨d0, i0, hK0⟩ := u_known (C := RX0) (T := TX0) (N := 3) (n := 3) hts wsX00_in9 (hts _ xins_in.1)
  obtain ⟨d1, i1, hK1⟩ := u_known (C := RX1) (T := TX1) (N := 8) (n := 8) hts wsX10_in9 (hts _ xins_in.2.1)
  obtain ⟨d2, i2, hK2⟩ := u_known (C := RX2) (T := TX2) (N := 6) (n := 6) hts wsX20_in9 (hts _ xins_in.2.2.1)
  obtain ⟨d3, i3, hK3⟩ := u_known (C := RX3) (T := TX3) (N := 6) (n := 6) hts wsX30_in9 (hts _ xins_in.2.2.2)
  obtain ⟨cI, hI1, hI2⟩ := law_arr (hts _ xarr_in.1)
  obtain ⟨cZ, hZ1, hZ2⟩ := law_arr (hts _ xarr_in.2.1)
  have hAO : va_AO RX0 s := va_AO.of (hts _ xarr_in.2.2.1)
  obtain ⟨pQ, cQ, kQ, hQ1, hQ2, hQ3, hQ4, hQ5⟩ := Cond.arrayOver_spec (hts _ xarr_in.2.2.1)
  have hA2 : (Cond.arrayOver (.array .int)).before #[] s = true := hts _ xarr_in.2.2.2
  obtain ⟨pA, cA, kA, hA3, hA4, hA5, hA6, hA7⟩ := Jvm.Stand.arrayOver_specB (args := #[]) hA2
  refine ⟨(fun k => if k = 0 then d0 else if k = 1 then d1 else if k = 2 then d2 else d3, fun k => if k = 0 then i0 else if k = 1 then i1 else if k = 2 then i2 else i3), fun k => if k = 0 then cI else if k = 1 then cZ else if k = 2 then cQ else cA, ⟨hx, hb, hml, hown, hts, hX, hbl, hL, law_st hflags, ⟨?_, ?_⟩, ⟨hA2, hA7⟩, fun _ h => h, hXA, Nat.not_le.mpr hbl⟩, hAO⟩
  · intro k q9 hq
    match k, hq with
    | 0, hq => cases hq; exact hK0
    | 1, hq => cases hq; exact hK1
    | 2, hq => cases hq; exact hK2
    | 3, hq => cases hq; exact hK3
    | k + 4, hq => simp [vwCl] at hq
  · intro k q9 hq
    match k, hq with
    | 0, hq => cases hq; exact ⟨hI1, hI2⟩
    | 1, hq => cases hq; exact ⟨hZ1, hZ2⟩
    | 2, hq => cases hq; exact ⟨fun n z => ⟨fun k h => (by cases h), kQ, hQ3, pQ, hQ4⟩, kQ, pQ, hQ3, hQ4, hQ1, hQ5⟩
    | k + 3, hq => simp [TY] at hq
set_option maxHeartbeats 4000000 in
set_option maxRecDepth 100000 in
/-- THE LAW, from its entry -/
theorem whole_start {p : Program} {e : Env} {s : State} {m : MethodId} {below : List Frame} {meth : Method} {c : Code} (l : Launch) (hflags : l.flags = flags0) {b L : Nat} {xs : Nat → Int32} (hL : L ≤ 260) (C0 : lw_At p s m meth c b L xs) : W p l e room_1 s m #[Value.ref b] below meth c s.heap [] 0 0 (lw_Z below #[Value.ref b] s) (entryFrame m ([Value.ref b] : List Value).toArray 26) := by
  obtain ⟨D, cy, X, hAO⟩ := law_X hflags hL C0
  obtain ⟨-, -, hr, -, -, -, -, -, hlocks, -⟩ := id C0
  obtain ⟨hx, hb, hml, hown, hts, hX0, hbl, hL9, hst, hK, hkp, hA, hXA, hbA⟩ := id X
  have S9 : CallFix p m c cL_law 26 s #[Value.ref b] lw_tbl RL := ⟨hx, hb, hml, hown, hts⟩
  have hS : va_S (AL s) s.heap s.heap [] := va_S.rf
  have hP : va_P D vwCl [] s.heap := fun k q h => by simp at h
  have hD : va_D (AL s) [] := ⟨fun i j p q h => by simp at h, fun k q h => by simp at h⟩
  have hl := lv_entry ([.ref b]) (n := 26) (Nat.le_of_ble_eq_true rfl)
  rw [lg_entry_eq]
  generalize (lg_sl ([.ref b]) ++ List.replicate (26 - (lg_sl ([.ref b])).length) Slot.unset).toArray = ls at hl ⊢
  have hl : lv_has ls 26 [(0, .ref b)] := hl
  refine va_new (ci := 2) (fs := [.null, .null, .null, .null, .null, .int 0]) (C := RX2) (T := TX2) (N := 6) hx hb hts wsX20_in9 tyX2 tyX2_ok hown (hts (Cond.classLink RL 22 RX2) lq_1_0.1) (hts (Cond.instantiable RX2 6) lq_1_1.1) (hts (Cond.initialized RX2) lq_1_2.1) hK hP hD hS hA rfl (fun j hj => by rcases (show j = 0 ∨ j = 1 ∨ j = 2 ∨ j = 3 ∨ j = 4 ∨ j = 5 by omega) with rfl | rfl | rfl | rfl | rfl | rfl <;> rfl) (Nat.le_of_ble_eq_true rfl) (Nat.le_of_ble_eq_true rfl) dL_law_0 (fun x0 H hP hD hS => ?_)
  have hP : va_P D vwCl ([(x0, .inr (2, [.null, .null, .null, .null, .null, .int 0]))]) H := hP
  have hD : va_D (AL s) ([(x0, .inr (2, [.null, .null, .null, .null, .null, .int 0]))]) := hD
  refine W.widen (k := 1) (n := 6) (Nat.le_of_ble_eq_true rfl) (Nat.le_of_ble_eq_true rfl) ?_
  refine lv_dup hx hb dL_law_3 rfl ?_
  have hPc := hP.sub (ws' := [(x0, .inr (2, [.null, .null, .null, .null, .null, .int 0]))]) [0] rfl
  have hDc := hD.sub (ws' := [(x0, .inr (2, [.null, .null, .null, .null, .null, .int 0]))]) [0] (by decide) rfl
  have hFc := va_free (wc := [(x0, .inr (2, [.null, .null, .null, .null, .null, .int 0]))]) hD hS hA [0] rfl
  refine va_callv (va_runI (As := []) (rest := [.ref x0]) S9 (mX2_init l D cy H.size x0) (cwI 0 hts lg_wsX2_init rfl rfl rfl (hts (Cond.initialized RX2) lq_1_2.1) (hts (Cond.methodLink RL 66 yX2_init) lq_1_16.1) (hts (Cond.instanceMethod yX2_init) lq_1_17.1) rfl (by decide +kernel) ⟨Nat.le_of_ble_eq_true rfl, Nat.le_of_ble_eq_true rfl⟩) ⟨fun a U g mk q => ⟨q.1, q.2.1, q.2.2.1, va_K.moved (u := U) (U := U.calling g mk a) (Vm.Alike.refl U.vm) q.2.2.2.1, q.2.2.2.2.1, va_AO.moved (u := U) (U := U.calling g mk a) (Vm.Alike.refl U.vm) q.2.2.2.2.2⟩, fun U hU hW => ⟨rfl, by rw [hU], by rw [hU]; exact hPc, va_K.moved hW.alike hK, hDc.weaken (fun _ _ _ _ => trivial), va_AO.moved hW.alike hAO⟩⟩ rfl rfl hl.1 rfl (lv_room (Nat.le_of_ble_eq_true rfl)) dL_law_4 ⟨Nat.le_of_ble_eq_true rfl, Nat.le_of_ble_eq_true rfl⟩) hS (fun q _ h => hFc q h) hFc (fun u9 t9 H1 locs ht9 hvm9 hw9 hB9 hz9 hk9 hS => ?_)
  obtain ⟨a, q, q2, ca, ta⟩ := u9
  have hP1 : va_P D vwCl (wX cy a q q2 ca ta uNew hNew) t9.heap := hB9.1
  have hD1 : va_D (va_A [(x0, .inr (2, [.null, .null, .null, .null, .null, .int 0]))] H.size) (wX cy a q q2 ca ta uNew hNew) := hB9.2
  rw [ht9] at hP1
  have hw9 : a 0 = x0 := hw9
  obtain ⟨hP, hD⟩ := va_join (wc := [(x0, .inr (2, [.null, .null, .null, .null, .null, .int 0]))]) (wr := []) (w1 := wX cy a q q2 ca ta uNew hNew) hP hD [0] [] rfl rfl (by decide) (by decide) hk9 hFc hP1 hD1
  have hP : va_P D vwCl (wX cy a q q2 ca ta uNew hNew) H1 := hP
  have hD : va_D (AL s) (wX cy a q q2 ca ta uNew hNew) := hD
  rw [← hw9]
  clear hP1 hD1 hk9 hz9 ht9 hvm9 hPc hDc hFc hB9 hw9
  generalize H1 = H9 at hP hS ⊢
  refine W.widen (k := 30) (n := 238) (Nat.le_of_ble_eq_true rfl) (Nat.le_of_ble_eq_true rfl) ?_
  refine lv_astore_n (lv' := [(1, .ref (a 0)), (0, .ref b)]) hx hb dL_law_7 rfl hl (by decide) rfl (fun ls hl => ?_)
  refine lv_aload_n hx hb dL_law_8 rfl (lv_at hl 0 rfl) ?_
  refine lv_aload_n hx hb dL_law_9 rfl (lv_at hl 1 rfl) ?_
  have hFc := all_F hD hS hA
  have hXk : xCA (va_A (wX cy a q q2 ca ta uNew hNew) H9.size) s H9 := (hXA.go hS).narrow hFc
  have hbn : ¬ va_A (wX cy a q q2 ca ta uNew hNew) H9.size b := fun z => hbA (hFc b z)
  have hXs : va_X b L xs s H9 := hX0.kept (hS.2.1 b hbl hbA)
  have hb9 : b < H9.size := Nat.lt_of_lt_of_le hbl hS.1
  refine va_callr (va_runS (As := [.ref (a 0), .ref b]) (rest := []) S9 (mL_build l hst D cy H9.size a q q2 ca ta b L xs hL9) (va_cwS 2 hts gW_L_build rfl rfl rfl (by decide +kernel) ⟨Nat.le_of_ble_eq_true rfl, Nat.le_of_ble_eq_true rfl⟩) ⟨fun a U g mk q => ⟨q.1, q.2.1, q.2.2.1, va_K.moved (u := U) (U := U.calling g mk a) (Vm.Alike.refl U.vm) q.2.2.2.1, q.2.2.2.2.1, vKP.warm (U := U.calling g mk a) (State.WarmedH.refl U) q.2.2.2.2.2.1, xCA.warm (U := U.calling g mk a) (State.WarmedH.refl U) q.2.2.2.2.2.2.1, va_X.moved (u := U) (U := U.calling g mk a) (Vm.Alike.refl U.vm) q.2.2.2.2.2.2.2.1, q.2.2.2.2.2.2.2.2⟩, fun U hU hW => ⟨rfl, by rw [hU], by rw [hU]; exact hP, va_K.moved hW.alike hK, hD.weaken (fun _ _ _ _ => trivial), hkp.warm hW, by rw [hU]; exact hXk.warm hW, by rw [hU]; exact va_X.moved hW.alike hXs, hb9, hbn⟩⟩ rfl rfl hl.1 rfl (lv_room (Nat.le_of_ble_eq_true rfl)) dL_law_10 ⟨Nat.le_of_ble_eq_true rfl, Nat.le_of_ble_eq_true rfl⟩) hS (fun q _ h => hFc q h) hFc (fun u9 b1 t9 H1 locs ht9 hvm9 hw9 hB9 hz9 hk9 hS => ?_)
  obtain ⟨u0, sa0, st0, ch0⟩ := u9
  obtain ⟨hP1, hD1⟩ := hB9
  rw [ht9] at hP1
  obtain ⟨I0, hz0⟩ := hw9
  have hP : va_P D vwCl ([] ++ wAll cy b1 sa0 st0 ch0 a q q2 ca ta u0 hNew) H1 := hP1
  have hD : va_D (AL s) ([] ++ wAll cy b1 sa0 st0 ch0 a q q2 ca ta u0 hNew) := pD_iff.mpr ⟨(pD_iff.mp hD1).1, fun x hx => hFc _ ((pD_iff.mp hD1).2 x hx)⟩
  clear hP1 hD1 hk9 hz9 ht9 hvm9 hFc hXk hbn hXs hb9
  generalize H1 = H9 at hP hS ⊢
  refine lv_astore_n (lv' := [(2, .ref b1), (1, .ref (a 0)), (0, .ref b)]) hx hb dL_law_13 rfl hl (by decide) rfl (fun ls hl => ?_)
  refine lv_aload_n hx hb dL_law_14 rfl (lv_at hl 0 rfl) ?_
  refine lv_ifnonnull (tgt := 20) hx hb dL_law_15 (by decide) ?_
  refine lv_iconst (v := 0) hx hb dL_law_20 (by decide) ?_
  refine lv_istore_n (lv' := [(3, .int 0), (2, .ref b1), (1, .ref (a 0)), (0, .ref b)]) hx hb dL_law_21 rfl hl (by decide) rfl (fun ls hl => ?_)
  refine W.widen (k := 170) (n := 1078) (Nat.le_of_ble_eq_true rfl) (Nat.le_of_ble_eq_true rfl) ?_
  refine law_loop X I0 hz0 (fun v9 g9 sa9 st9 ch9 H locs ls I9 hP hD hS hl => ?_) _ _ _ hP hD hS (lv_sub hl [3, 2, 1, 0] rfl)
  refine lv_aload_n hx hb dL_law_1037 rfl (lv_at hl 2 rfl) ?_
  refine lv_aload_n hx hb dL_law_1038 rfl (lv_at hl 1 rfl) ?_
  refine same_call (rest := []) hst I9 hP hD hS hA hK hkp hXA S9 (cwV 1 hts gW_X3_isSame rfl rfl rfl (by decide +kernel) ⟨Nat.le_of_ble_eq_true rfl, Nat.le_of_ble_eq_true rfl⟩) rfl hl.1 (Nat.le_of_ble_eq_true rfl) dL_law_1039 ⟨Nat.le_of_ble_eq_true rfl, Nat.le_of_ble_eq_true rfl⟩ (fun H locs hS => ?_)
  refine va_forget (fun z hz => hS.2.2 z hz) ?_
  refine W.widen (k := 617289) (n := 7249830) (Nat.le_of_ble_eq_true rfl) (Nat.le_of_ble_eq_true rfl) ?_
  exact W.base (lw_ret (Drawn.sameBut.refl s.drawn lw_cs) hx hb hr hlocks dL_law_1042)
