/-! THE CLAIM OUT OF ONE WALK OF THE LAW'S BODY (begun from the skeleton) -/
def R_law : String := "WedgeHarpsLaw"
def lw_P (b : Addr) (xs : List Int32) (args : Array Value) (s : State) : Prop := args = #[.ref b] ∧ s.IntsAt b xs ∧ xs.length ≤ 3072 ∧ (Jvm.Cond.and given_1 narrow_1).before args s = true
/-- what a walk over the start with the record d0 says of its end, said of the start itself -/
theorem lw_closed {s t : State} {o : Outcome} {d0 : Drawn} {L : List Loc} {k n : Nat} (hd0 : s.drawn.sameBut d0 lw_cs) (hv : ∃ v, o = .returned v) (hW : (s.setDrawn d0).WarmedH t.vm) (hs : (s.setDrawn d0).sameButNew ({ t with vm := s.vm } : State) L k n) : State.butDraws s t lw_cs (fun t1 => Framed s o t1 L k n) := by
  have h2 : t.drawn = d0 := congrArg State.drawn hs.1
  refine ⟨⟨hv, hW, State.sameButNew.setDrawn hs s.drawn⟩, ?_, by decide⟩
  rw [h2]
  exact hd0
def lw_Q (_ : Array Value) (s : State) (o : Outcome) (t : State) : Prop := o = .returned (some (.int 1)) ∧ State.butDraws s t lw_cs (fun t1 => Framed s o t1 [] 601024 7293034)
def lw_Z (below : List Frame) (a : Array Value) (s : State) : State → Prop := fun t => ∃ o, t.status = .running ∧ Ended t below o ∧ lw_Q a s o t
/-- the law's own end, with 1 on the stack, nothing written that was there before, its room as the claim has it; d0: the record of draws at this point (at the entry s.drawn: begin with 'refine W.base ?_' and 'have hd0 := Drawn.sameBut.refl s.drawn lw_cs') -/
theorem lw_ret {p : Program} {l : Launch} {e : Env} {s : State} {m : MethodId} {below : List Frame} {meth : Method} {c : Code} {b : Nat} {d0 : Drawn} (hd0 : s.drawn.sameBut d0 lw_cs) (hx : p.tables.exec = Jvm.exec) (hb : c.code = code) (hr : meth.sig.returnType = ret) (hlocks : meth.locks = false) {pc : Nat} {H : Heap} {ls : Array Slot} (hdg : decode code pc = .ok (.ireturn, 1)) : W p l e room_1 (s.setDrawn d0) m #[Value.ref b] below meth c H [] 601024 7293034 (lw_Z below #[Value.ref b] s) (F0 m pc ls [.int 1]) := by
  intro T hT X
  obtain ⟨fs, hret, hrun, hended, hW, hframe⟩ := X.leave (v := some (.int 1)) (hlocks := hlocks) (fun h => by rw [hr] at h; cases h)
  have hmeth' : T.vm.method? m = some meth := X.method'
  refine ⟨T.setFrames fs, ?_, .returned (some (.int 1)), hrun, hended, rfl, lw_closed hd0 ⟨_, rfl⟩ hW hframe⟩
  jvm_step X.here [X.here.top, hx, hb, hdg, hmeth', hr, ret, narrow_b1]
  (try refine ⟨rfl, ?_⟩); (try refine ⟨rfl, ?_⟩)
  first | (intro acts; rw [hret _ acts rfl rfl rfl]) | rw [hret _ _ rfl rfl rfl]
  exact Steps.refl _
/-- what holds at the law's entry: the machine, the code, the tables' words (any of lw_tbl by 'hts w (by decide +kernel)'), the script of L ints xs at the cell b, what the Statement gives of the start (any of its parts by flat_of_before) -/
def lw_At (p : Program) (s : State) (m : MethodId) (meth : Method) (c : Code) (b L : Nat) (xs : Nat → Int32) : Prop :=
  p.tables.exec = Jvm.exec ∧ c.code = code ∧ meth.sig.returnType = ret ∧ c.maxLocals = 9 ∧ s.vm.findClass R_law = some m.cls ∧ (∀ w ∈ lw_tbl, w.before #[Value.ref b] s = true) ∧ va_X b L xs s s.heap ∧ b < s.heap.size ∧ meth.locks = false ∧ (Jvm.Cond.and given_1 narrow_1).before #[Value.ref b] s = true

/-! the law: what its calls of the class and of the model do, side by side -/
abbrev AL (s : State) : Nat → Prop := fun q => s.heap.size ≤ q
abbrev wLx (cy : Nat → ClassId) (a q q2 ca ta : Nat → Nat) (o : Nat) (u : US) (g : HS) (f : Nat → Int64) : va_W := wX cy a q q2 ca ta u g ++ [(o, .inl (cy 3, 1, .inr (.inl f)))]
abbrev wLo (cy : Nat → ClassId) (mo : Nat → Nat) (o : Nat) (um : US) (th : Int32) (f : Nat → Int64) : va_W := wM cy mo um th pz ++ [(o, .inl (cy 3, 1, .inr (.inl f)))]
/-- the class's object (places 0 to 29), the model's (30 to 36), the law's own long (37) -/
abbrev wLw (cy : Nat → ClassId) (a q q2 ca ta mo : Nat → Nat) (o : Nat) (u : US) (g : HS) (um : US) (th : Int32) (f : Nat → Int64) : va_W := wX cy a q q2 ca ta u g ++ (wM cy mo um th pz ++ [(o, .inl (cy 3, 1, .inr (.inl f)))])
section LAWK
variable {p : Program} {l : Launch} {e : Env} {s : State} {m : MethodId} {below : List Frame} {meth : Method} {c : Code} {H : Heap} {locs : List Loc} {C S : Nat} {Q : State → Prop} {b : Nat}
variable {D : va_G} {cy : Nat → ClassId} {a q q2 ca ta mo : Nat → Nat} {o : Nat} {u : US} {g : HS} {um : US} {th : Int32} {f : Nat → Int64} {pc : Nat} {ls : Array Slot} {cc : ByteArray} {nL : Nat} {Ts : List Cond}
variable {y : MethodName} {ws : List Cond} {rm : Room} {mc ms n idx maxL : Nat} {bytes : ByteArray} {ret : Option FieldType} {As rest st : List Value} {Pc : Array Value → State → Prop}
theorem pc_calld {R : Room} {args : Array Value} {post : UInt64 → Prop} {ar : Array Value} (hr : va_Run p l e R s m args below meth c H locs C S 0 0 (F0 m pc ls st) rest (vp_Sd post ar) (fun _ => False)) (kk : ∀ r : UInt64, post r → W p l e R s m args below meth c H locs C S Q (F0 m (pc + 3) ls (.double r :: rest))) : W p l e R s m args below meth c H locs C S Q (F0 m pc ls st) := by
  intro T hT X
  obtain ⟨v, st₀, t, T', L, h0, X', hL, e1, e2, ⟨r, hv, hp, hh⟩, hst⟩ := hr T hT X
  cases hv
  have hL0 : L = [] := List.eq_nil_iff_forall_not_mem.mpr (fun q hq => hL q hq)
  subst hL0
  rw [List.append_nil] at X'
  obtain ⟨t2, a1, b1⟩ := kk r hp T' (by rw [e1, hh, h0]) X'
  exact ⟨t2, hst t2 a1, b1⟩
theorem law_rd (hx : p.tables.exec = Jvm.exec) (hb : c.code = cc) {L k : Nat} {xs : Nat → Int32} (hX : va_X b L xs s s.heap) (hbl : b < s.heap.size) (hS : va_S (AL s) s.heap H locs) (hk : k < L) (hL : L ≤ 3072) (hdg : decode cc pc = .ok (.iaload, 1))
    (kk : W p l e room_1 s m #[Value.ref b] below meth c H locs C S Q (F0 m (pc + 1) ls (.int (xs k) :: rest))) : W p l e room_1 s m #[Value.ref b] below meth c H locs C S Q (F0 m pc ls (.int (nI k) :: .ref b :: rest)) :=
  va_sld (A := AL s) hx hb hX hbl (Nat.not_le.mpr hbl) hS (vp_in_nI hk (by omega)) hdg (by rw [nI_clamp (n := k) (by omega)]; exact kk)
/-- a static caller of the class -/
theorem law_cL (hP : va_P D vwCl (wLw cy a q q2 ca ta mo o u g um th f) H) (hD : va_D (AL s) (wLw cy a q q2 ca ta mo o u g um th f)) (hS : va_S (AL s) s.heap H locs) (hK : va_K D vwCl (TY cy) s) (hXc : xC s s.heap) (hNc : xNc s) (S9 : CallFix p m c cc nL s #[Value.ref b] Ts RL) {hh : List (Nat × Nat × Nat × Nat)} {ex : Nat} {an : Int64} {af : US}
    (hM : Met l y ws rm (va_Pc As (fun U => U.heap.size = H.size ∧ va_P D vwCl (wLx cy a q q2 ca ta o u g f) U.heap ∧ va_K D vwCl (TY cy) U ∧ va_D (fun _ => True) (wLx cy a q q2 ca ta o u g f) ∧ xC U U.heap ∧ xNc U)) (va_Qi (fun (r8 : Int32) (w9 : US × HS × (Nat → Int64)) => r8 = nI ex ∧ (ex = 0 → w9.2.2 0 = an ∧ w9.1 = af) ∧ (¬ ex = 0 → w9.1 = u)) (fun (w9 : US × HS × (Nat → Int64)) t => va_P D vwCl (wLx cy a q q2 ca ta o w9.1 w9.2.1 w9.2.2) t.heap ∧ va_D (va_A (wLx cy a q q2 ca ta o u g f) H.size) (wLx cy a q q2 ca ta o w9.1 w9.2.1 w9.2.2)) (va_A (wLx cy a q q2 ca ta o u g f) H.size)) mc ms (va_A (wLx cy a q q2 ca ta o u g f) H.size))
    (hc : vx_CSW room_1 s #[Value.ref b] RL idx y bytes maxL ret hh ws rm mc ms n) (hn : As.length = n) (hst : st = As.reverse ++ rest) (hz : ls.size = nL) (hw8 : (rest.map fun v => v.category).sum ≤ 8) (hdg : decode cc pc = .ok (.invokestatic idx, 3)) (hr : C + mc ≤ 601024 ∧ S + ms ≤ 7293034)
    (kk : ∀ (u9 : US) (g9 : HS) (f9 : Nat → Int64) (H : Heap) (locs : List Loc), (ex = 0 → f9 0 = an ∧ u9 = af) → (¬ ex = 0 → u9 = u) → va_P D vwCl (wLw cy a q q2 ca ta mo o u9 g9 um th f9) H → va_D (AL s) (wLw cy a q q2 ca ta mo o u9 g9 um th f9) → va_S (AL s) s.heap H locs → W p l e room_1 s m #[Value.ref b] below meth c H locs (C + mc) (S + ms) Q (F0 m (pc + 3) ls (.int (nI ex) :: rest))) :
    W p l e room_1 s m #[Value.ref b] below meth c H locs C S Q (F0 m pc ls st) := by
  have hA : ∀ q : Nat, s.heap.size ≤ q → AL s q := fun _ h => h
  have hPc := hP.sub (ws' := wLx cy a q q2 ca ta o u g f) [0, 1, 2, 3, 4, 5, 6, 7, 8, 9, 10, 11, 12, 13, 14, 15, 16, 17, 18, 19, 20, 21, 22, 23, 24, 25, 26, 27, 28, 29, 37] rfl
  have hDc := hD.sub (ws' := wLx cy a q q2 ca ta o u g f) [0, 1, 2, 3, 4, 5, 6, 7, 8, 9, 10, 11, 12, 13, 14, 15, 16, 17, 18, 19, 20, 21, 22, 23, 24, 25, 26, 27, 28, 29, 37] (by decide) rfl
  have hFc := va_free (wc := wLx cy a q q2 ca ta o u g f) hD hS hA [0, 1, 2, 3, 4, 5, 6, 7, 8, 9, 10, 11, 12, 13, 14, 15, 16, 17, 18, 19, 20, 21, 22, 23, 24, 25, 26, 27, 28, 29, 37] rfl
  have hXk : xC s H := hXc.kept (fun z hz => hS.2.1 z hz (Nat.not_le.mpr hz))
  refine va_calli (vx_runSW (As := As) (rest := rest) S9 hM hc ⟨fun a U g mk q => ⟨q.1, q.2.1, q.2.2.1, va_K.moved (u := U) (U := U.calling g mk a) (Vm.Alike.refl U.vm) q.2.2.2.1, q.2.2.2.2.1, xC.warm (State.WarmedH.refl U) q.2.2.2.2.2.1, xNc.moved (u := U) (U := U.calling g mk a) (Vm.Alike.refl U.vm) q.2.2.2.2.2.2⟩, fun U hU hW => ⟨rfl, by rw [hU], by rw [hU]; exact hPc, va_K.moved hW.alike hK, hDc.weaken (fun _ _ _ _ => trivial), (show xC U U.heap by rw [hU]; exact hXk.warm hW), xNc.moved hW.alike hNc⟩⟩ rfl hn hz hst (lv_room hw8) hdg hr) hS (fun q _ h => hFc q h) hFc (fun r9 w9 t9 H1 locs ht9 hvm9 hw9 hB9 hz9 hk9 hS => ?_)
  obtain ⟨hP1, hD1⟩ := hB9
  rw [ht9] at hP1
  obtain ⟨hP, hD⟩ := va_join (wc := wLx cy a q q2 ca ta o u g f) (wr := wM cy mo um th pz) (w1 := wLx cy a q q2 ca ta o w9.1 w9.2.1 w9.2.2) hP hD [0, 1, 2, 3, 4, 5, 6, 7, 8, 9, 10, 11, 12, 13, 14, 15, 16, 17, 18, 19, 20, 21, 22, 23, 24, 25, 26, 27, 28, 29, 37] [30, 31, 32, 33, 34, 35, 36] rfl rfl (by decide) (by decide) hk9 hFc hP1 hD1
  obtain ⟨rfl, h1, h2⟩ := hw9
  exact kk w9.1 w9.2.1 w9.2.2 H1 locs h1 h2 (hP.sub [7, 8, 9, 10, 11, 12, 13, 14, 15, 16, 17, 18, 19, 20, 21, 22, 23, 24, 25, 26, 27, 28, 29, 30, 31, 32, 33, 34, 35, 36, 0, 1, 2, 3, 4, 5, 6, 37] rfl) (hD.sub [7, 8, 9, 10, 11, 12, 13, 14, 15, 16, 17, 18, 19, 20, 21, 22, 23, 24, 25, 26, 27, 28, 29, 30, 31, 32, 33, 34, 35, 36, 0, 1, 2, 3, 4, 5, 6, 37] (by decide) rfl) hS
/-- a method of the model -/
theorem law_cM (hP : va_P D vwCl (wLw cy a q q2 ca ta mo o u g um th f) H) (hD : va_D (AL s) (wLw cy a q q2 ca ta mo o u g um th f)) (hS : va_S (AL s) s.heap H locs) (hK : va_K D vwCl (TY cy) s) (S9 : CallFix p m c cc nL s #[Value.ref b] Ts RL) {ex : Nat} {an : Int32} {af : US}
    (hM : Met l y ws rm Pc (va_Qi (fun (r8 : Int32) (u9 : US) => (ex = 0 → r8 = an ∧ u9 = af) ∧ (¬ ex = 0 → u9 = um)) (fun (u9 : US) t => va_P D vwCl (wM cy mo u9 (nI ex) pz) t.heap ∧ va_D (va_A (wM cy mo um th pz) H.size) (wM cy mo u9 (nI ex) pz)) (va_A (wM cy mo um th pz) H.size)) mc ms (va_A (wM cy mo um th pz) H.size))
    (hc : CallW room_1 s #[Value.ref b] RL RX3 idx y bytes maxL ret ws rm mc ms n) (hp : va_P D vwCl (wM cy mo um th pz) H → va_D (fun _ => True) (wM cy mo um th pz) → PreV s H RX3 (mo 0) Pc As) (hn : As.length = n) (hst : st = As.reverse ++ .ref (mo 0) :: rest) (hz : ls.size = nL) (hw8 : (rest.map fun v => v.category).sum ≤ 8) (hdg : decode cc pc = .ok (.invokevirtual idx, 3)) (hr : C + mc ≤ 601024 ∧ S + ms ≤ 7293034)
    (kk : ∀ (r9 : Int32) (v9 : US) (H : Heap) (locs : List Loc), (ex = 0 → r9 = an ∧ v9 = af) → (¬ ex = 0 → v9 = um) → va_P D vwCl (wLw cy a q q2 ca ta mo o u g v9 (nI ex) f) H → va_D (AL s) (wLw cy a q q2 ca ta mo o u g v9 (nI ex) f) → va_S (AL s) s.heap H locs → W p l e room_1 s m #[Value.ref b] below meth c H locs (C + mc) (S + ms) Q (F0 m (pc + 3) ls (.int r9 :: rest))) :
    W p l e room_1 s m #[Value.ref b] below meth c H locs C S Q (F0 m pc ls st) := by
  have hA : ∀ q : Nat, s.heap.size ≤ q → AL s q := fun _ h => h
  have hPc := hP.sub (ws' := wM cy mo um th pz) [30, 31, 32, 33, 34, 35, 36] rfl
  have hDc := hD.sub (ws' := wM cy mo um th pz) [30, 31, 32, 33, 34, 35, 36] (by decide) rfl
  have hFc := va_free (wc := wM cy mo um th pz) hD hS hA [30, 31, 32, 33, 34, 35, 36] rfl
  refine va_calli (va_runV (As := As) (rest := rest) S9 hM hc (hp hPc (hDc.weaken (fun _ _ _ _ => trivial))) rfl hn hz hst (lv_room hw8) hdg hr) hS (fun q _ h => hFc q h) hFc (fun r9 v9 t9 H1 locs ht9 hvm9 hw9 hB9 hz9 hk9 hS => ?_)
  obtain ⟨hP1, hD1⟩ := hB9
  rw [ht9] at hP1
  obtain ⟨hP, hD⟩ := va_join (wc := wM cy mo um th pz) (wr := wLx cy a q q2 ca ta o u g f) (w1 := wM cy mo v9 (nI ex) pz) hP hD [30, 31, 32, 33, 34, 35, 36] [0, 1, 2, 3, 4, 5, 6, 7, 8, 9, 10, 11, 12, 13, 14, 15, 16, 17, 18, 19, 20, 21, 22, 23, 24, 25, 26, 27, 28, 29, 37] rfl rfl (by decide) (by decide) hk9 hFc hP1 hD1
  obtain ⟨h1, h2⟩ := hw9
  exact kk r9 v9 H1 locs h1 h2 (hP.sub [0, 1, 2, 3, 4, 5, 6, 7, 8, 9, 10, 11, 12, 13, 14, 15, 16, 17, 18, 19, 20, 21, 22, 23, 24, 25, 26, 27, 28, 29, 31, 32, 33, 34, 35, 36, 37, 30] rfl) (hD.sub [0, 1, 2, 3, 4, 5, 6, 7, 8, 9, 10, 11, 12, 13, 14, 15, 16, 17, 18, 19, 20, 21, 22, 23, 24, 25, 26, 27, 28, 29, 31, 32, 33, 34, 35, 36, 37, 30] (by decide) rfl) hS
/-- a method of the model -/
theorem law_cMd (hP : va_P D vwCl (wLw cy a q q2 ca ta mo o u g um th f) H) (hD : va_D (AL s) (wLw cy a q q2 ca ta mo o u g um th f)) (hS : va_S (AL s) s.heap H locs) (hK : va_K D vwCl (TY cy) s) (S9 : CallFix p m c cc nL s #[Value.ref b] Ts RL) {ex : Nat} {an : UInt64} {af : US}
    (hM : Met l y ws rm Pc (va_Qd (fun (r8 : UInt64) (u9 : US) => (ex = 0 → r8 = an ∧ u9 = af) ∧ (¬ ex = 0 → u9 = um)) (fun (u9 : US) t => va_P D vwCl (wM cy mo u9 (nI ex) pz) t.heap ∧ va_D (va_A (wM cy mo um th pz) H.size) (wM cy mo u9 (nI ex) pz)) (va_A (wM cy mo um th pz) H.size)) mc ms (va_A (wM cy mo um th pz) H.size))
    (hc : CallW room_1 s #[Value.ref b] RL RX3 idx y bytes maxL ret ws rm mc ms n) (hp : va_P D vwCl (wM cy mo um th pz) H → va_D (fun _ => True) (wM cy mo um th pz) → PreV s H RX3 (mo 0) Pc As) (hn : As.length = n) (hst : st = As.reverse ++ .ref (mo 0) :: rest) (hz : ls.size = nL) (hw8 : (rest.map fun v => v.category).sum ≤ 8) (hdg : decode cc pc = .ok (.invokevirtual idx, 3)) (hr : C + mc ≤ 601024 ∧ S + ms ≤ 7293034)
    (kk : ∀ (r9 : UInt64) (v9 : US) (H : Heap) (locs : List Loc), (ex = 0 → r9 = an ∧ v9 = af) → (¬ ex = 0 → v9 = um) → va_P D vwCl (wLw cy a q q2 ca ta mo o u g v9 (nI ex) f) H → va_D (AL s) (wLw cy a q q2 ca ta mo o u g v9 (nI ex) f) → va_S (AL s) s.heap H locs → W p l e room_1 s m #[Value.ref b] below meth c H locs (C + mc) (S + ms) Q (F0 m (pc + 3) ls (.double r9 :: rest))) :
    W p l e room_1 s m #[Value.ref b] below meth c H locs C S Q (F0 m pc ls st) := by
  have hA : ∀ q : Nat, s.heap.size ≤ q → AL s q := fun _ h => h
  have hPc := hP.sub (ws' := wM cy mo um th pz) [30, 31, 32, 33, 34, 35, 36] rfl
  have hDc := hD.sub (ws' := wM cy mo um th pz) [30, 31, 32, 33, 34, 35, 36] (by decide) rfl
  have hFc := va_free (wc := wM cy mo um th pz) hD hS hA [30, 31, 32, 33, 34, 35, 36] rfl
  refine va_calld (va_runV (As := As) (rest := rest) S9 hM hc (hp hPc (hDc.weaken (fun _ _ _ _ => trivial))) rfl hn hz hst (lv_room hw8) hdg hr) hS (fun q _ h => hFc q h) hFc (fun r9 v9 t9 H1 locs ht9 hvm9 hw9 hB9 hz9 hk9 hS => ?_)
  obtain ⟨hP1, hD1⟩ := hB9
  rw [ht9] at hP1
  obtain ⟨hP, hD⟩ := va_join (wc := wM cy mo um th pz) (wr := wLx cy a q q2 ca ta o u g f) (w1 := wM cy mo v9 (nI ex) pz) hP hD [30, 31, 32, 33, 34, 35, 36] [0, 1, 2, 3, 4, 5, 6, 7, 8, 9, 10, 11, 12, 13, 14, 15, 16, 17, 18, 19, 20, 21, 22, 23, 24, 25, 26, 27, 28, 29, 37] rfl rfl (by decide) (by decide) hk9 hFc hP1 hD1
  obtain ⟨h1, h2⟩ := hw9
  exact kk r9 v9 H1 locs h1 h2 (hP.sub [0, 1, 2, 3, 4, 5, 6, 7, 8, 9, 10, 11, 12, 13, 14, 15, 16, 17, 18, 19, 20, 21, 22, 23, 24, 25, 26, 27, 28, 29, 31, 32, 33, 34, 35, 36, 37, 30] rfl) (hD.sub [0, 1, 2, 3, 4, 5, 6, 7, 8, 9, 10, 11, 12, 13, 14, 15, 16, 17, 18, 19, 20, 21, 22, 23, 24, 25, 26, 27, 28, 29, 31, 32, 33, 34, 35, 36, 37, 30] (by decide) rfl) hS
/-- a method of the model -/
theorem law_cMl (hP : va_P D vwCl (wLw cy a q q2 ca ta mo o u g um th f) H) (hD : va_D (AL s) (wLw cy a q q2 ca ta mo o u g um th f)) (hS : va_S (AL s) s.heap H locs) (hK : va_K D vwCl (TY cy) s) (S9 : CallFix p m c cc nL s #[Value.ref b] Ts RL) {ex : Nat} {an : Int64} {af : US}
    (hM : Met l y ws rm Pc (va_Ql (fun (r8 : Int64) (u9 : US) => (ex = 0 → r8 = an ∧ u9 = af) ∧ (¬ ex = 0 → u9 = um)) (fun (u9 : US) t => va_P D vwCl (wM cy mo u9 (nI ex) pz) t.heap ∧ va_D (va_A (wM cy mo um th pz) H.size) (wM cy mo u9 (nI ex) pz)) (va_A (wM cy mo um th pz) H.size)) mc ms (va_A (wM cy mo um th pz) H.size))
    (hc : CallW room_1 s #[Value.ref b] RL RX3 idx y bytes maxL ret ws rm mc ms n) (hp : va_P D vwCl (wM cy mo um th pz) H → va_D (fun _ => True) (wM cy mo um th pz) → PreV s H RX3 (mo 0) Pc As) (hn : As.length = n) (hst : st = As.reverse ++ .ref (mo 0) :: rest) (hz : ls.size = nL) (hw8 : (rest.map fun v => v.category).sum ≤ 8) (hdg : decode cc pc = .ok (.invokevirtual idx, 3)) (hr : C + mc ≤ 601024 ∧ S + ms ≤ 7293034)
    (kk : ∀ (r9 : Int64) (v9 : US) (H : Heap) (locs : List Loc), (ex = 0 → r9 = an ∧ v9 = af) → (¬ ex = 0 → v9 = um) → va_P D vwCl (wLw cy a q q2 ca ta mo o u g v9 (nI ex) f) H → va_D (AL s) (wLw cy a q q2 ca ta mo o u g v9 (nI ex) f) → va_S (AL s) s.heap H locs → W p l e room_1 s m #[Value.ref b] below meth c H locs (C + mc) (S + ms) Q (F0 m (pc + 3) ls (.long r9 :: rest))) :
    W p l e room_1 s m #[Value.ref b] below meth c H locs C S Q (F0 m pc ls st) := by
  have hA : ∀ q : Nat, s.heap.size ≤ q → AL s q := fun _ h => h
  have hPc := hP.sub (ws' := wM cy mo um th pz) [30, 31, 32, 33, 34, 35, 36] rfl
  have hDc := hD.sub (ws' := wM cy mo um th pz) [30, 31, 32, 33, 34, 35, 36] (by decide) rfl
  have hFc := va_free (wc := wM cy mo um th pz) hD hS hA [30, 31, 32, 33, 34, 35, 36] rfl
  refine va_calll (va_runV (As := As) (rest := rest) S9 hM hc (hp hPc (hDc.weaken (fun _ _ _ _ => trivial))) rfl hn hz hst (lv_room hw8) hdg hr) hS (fun q _ h => hFc q h) hFc (fun r9 v9 t9 H1 locs ht9 hvm9 hw9 hB9 hz9 hk9 hS => ?_)
  obtain ⟨hP1, hD1⟩ := hB9
  rw [ht9] at hP1
  obtain ⟨hP, hD⟩ := va_join (wc := wM cy mo um th pz) (wr := wLx cy a q q2 ca ta o u g f) (w1 := wM cy mo v9 (nI ex) pz) hP hD [30, 31, 32, 33, 34, 35, 36] [0, 1, 2, 3, 4, 5, 6, 7, 8, 9, 10, 11, 12, 13, 14, 15, 16, 17, 18, 19, 20, 21, 22, 23, 24, 25, 26, 27, 28, 29, 37] rfl rfl (by decide) (by decide) hk9 hFc hP1 hD1
  obtain ⟨h1, h2⟩ := hw9
  exact kk r9 v9 H1 locs h1 h2 (hP.sub [0, 1, 2, 3, 4, 5, 6, 7, 8, 9, 10, 11, 12, 13, 14, 15, 16, 17, 18, 19, 20, 21, 22, 23, 24, 25, 26, 27, 28, 29, 31, 32, 33, 34, 35, 36, 37, 30] rfl) (hD.sub [0, 1, 2, 3, 4, 5, 6, 7, 8, 9, 10, 11, 12, 13, 14, 15, 16, 17, 18, 19, 20, 21, 22, 23, 24, 25, 26, 27, 28, 29, 31, 32, 33, 34, 35, 36, 37, 30] (by decide) rfl) hS
theorem law_pV1 (hK : va_K D vwCl (TY cy) s) (hP : va_P D vwCl (wM cy mo um th pz) H) (hD : va_D (fun _ => True) (wM cy mo um th pz)) : PreV s H RX3 (mo 0) (va_Pc (.ref (mo 0) :: As) (fun U => U.heap.size = H.size ∧ va_P D vwCl (wM cy mo um th pz) U.heap ∧ va_K D vwCl (TY cy) U ∧ va_D (fun _ => True) (wM cy mo um th pz))) As :=
  ⟨fun a U g mk q => ⟨q.1, q.2.1, q.2.2.1, va_K.moved (u := U) (U := U.calling g mk a) (Vm.Alike.refl U.vm) q.2.2.2.1, q.2.2.2.2⟩, va_recv hK hP (ci := 3) (q0 := 0) rfl rfl, fun U hU hW => ⟨rfl, by rw [hU], by rw [hU]; exact hP, va_K.moved hW.alike hK, hD⟩⟩
theorem law_pV2 (hK : va_K D vwCl (TY cy) s) (hKP : vKP cy s) (hP : va_P D vwCl (wM cy mo um th pz) H) (hD : va_D (fun _ => True) (wM cy mo um th pz)) : PreV s H RX3 (mo 0) (va_Pc (.ref (mo 0) :: As) (fun U => U.heap.size = H.size ∧ va_P D vwCl (wM cy mo um th pz) U.heap ∧ va_K D vwCl (TY cy) U ∧ va_D (fun _ => True) (wM cy mo um th pz) ∧ vKP cy U)) As :=
  ⟨fun a U g mk q => ⟨q.1, q.2.1, q.2.2.1, va_K.moved (u := U) (U := U.calling g mk a) (Vm.Alike.refl U.vm) q.2.2.2.1, q.2.2.2.2.1, vKP.warm (U := U.calling g mk a) (State.WarmedH.refl U) q.2.2.2.2.2⟩, va_recv hK hP (ci := 3) (q0 := 0) rfl rfl, fun U hU hW => ⟨rfl, by rw [hU], by rw [hU]; exact hP, va_K.moved hW.alike hK, hD, hKP.warm hW⟩⟩
theorem law_th (hP : va_P D vwCl (wLw cy a q q2 ca ta mo o u g um th f) H) (hK : va_K D vwCl (TY cy) s) (S9 : CallFix p m c cc nL s #[Value.ref b] Ts RL) (hr : C ≤ 601024 ∧ S ≤ 7293034) (hT : GoodIn Ts (wsV RL 72 RX3 yX3_thrown wsX3_thrown)) (hz : ls.size = nL) (hdg : decode cc pc = .ok (.invokevirtual 72, 3)) (kk : W p l e room_1 s m #[Value.ref b] below meth c H locs C S Q (F0 m (pc + 3) ls [.int th])) : W p l e room_1 s m #[Value.ref b] below meth c H locs C S Q (F0 m pc ls [.ref (mo 0)]) := by
  have hPc := hP.sub (ws' := wM cy mo um th pz) [30, 31, 32, 33, 34, 35, 36] rfl
  refine pc_calli (va_runV (As := []) (rest := []) S9 (mX3_thrown l D cy mo um th pz) (cwV 0 S9.2.2.2.2 hT rfl rfl rfl (by decide +kernel) ⟨Nat.le_of_ble_eq_true rfl, Nat.le_of_ble_eq_true rfl⟩) ⟨fun a U g mk q => ⟨q.1, q.2.1, va_K.moved (u := U) (U := U.calling g mk a) (Vm.Alike.refl U.vm) q.2.2⟩, va_recv hK hPc (ci := 3) (q0 := 0) rfl rfl, fun U hU hW => ⟨rfl, by rw [hU]; exact hPc, va_K.moved hW.alike hK⟩⟩ rfl rfl hz rfl (lv_room (Nat.le_of_ble_eq_true rfl)) hdg ⟨Nat.le_trans (Nat.le_of_eq (Nat.add_zero C)) hr.1, Nat.le_trans (Nat.le_of_eq (Nat.add_zero S)) hr.2⟩) (fun r9 hr9 => ?_)
  subst hr9
  exact kk
theorem law_first (hP : va_P D vwCl (wLw cy a q q2 ca ta mo o u g um th f) H) (hD : va_D (AL s) (wLw cy a q q2 ca ta mo o u g um th f)) (hS : va_S (AL s) s.heap H locs) (hK : va_K D vwCl (TY cy) s) (S9 : CallFix p m c cc nL s #[Value.ref b] Ts RL) (hu : uOk u) (hT : GoodIn Ts (wsV RL 112 RX2 yX2_first wsX2_first)) (hz : ls.size = nL) (hr : C ≤ 601024 ∧ S ≤ 7293034) (hdg : decode cc pc = .ok (.invokevirtual 112, 3))
    (kk : ∀ (g9 : HS) (H : Heap) (locs : List Loc), va_P D vwCl (wLw cy a q q2 ca ta mo o u g9 um th f) H → va_D (AL s) (wLw cy a q q2 ca ta mo o u g9 um th f) → va_S (AL s) s.heap H locs → W p l e room_1 s m #[Value.ref b] below meth c H locs C S Q (F0 m (pc + 3) ls [.int (firF (uw u) (ud u) (uh u) 0 200)])) : W p l e room_1 s m #[Value.ref b] below meth c H locs C S Q (F0 m pc ls [.ref (a 0)]) := by
  have hA : ∀ q : Nat, s.heap.size ≤ q → AL s q := fun _ h => h
  have hPc := hP.sub (ws' := wX cy a q q2 ca ta u g) [0, 1, 2, 3, 4, 5, 6, 7, 8, 9, 10, 11, 12, 13, 14, 15, 16, 17, 18, 19, 20, 21, 22, 23, 24, 25, 26, 27, 28, 29] rfl
  have hDc := hD.sub (ws' := wX cy a q q2 ca ta u g) [0, 1, 2, 3, 4, 5, 6, 7, 8, 9, 10, 11, 12, 13, 14, 15, 16, 17, 18, 19, 20, 21, 22, 23, 24, 25, 26, 27, 28, 29] (by decide) rfl
  have hFc := va_free (wc := wX cy a q q2 ca ta u g) hD hS hA [0, 1, 2, 3, 4, 5, 6, 7, 8, 9, 10, 11, 12, 13, 14, 15, 16, 17, 18, 19, 20, 21, 22, 23, 24, 25, 26, 27, 28, 29] rfl
  refine va_calli (va_runV (As := []) (rest := []) S9 (mX2_first l D cy H.size a q q2 ca ta u g hu) (cwV 0 S9.2.2.2.2 hT rfl rfl rfl (by decide +kernel) ⟨Nat.le_of_ble_eq_true rfl, Nat.le_of_ble_eq_true rfl⟩) ⟨fun a U g mk q => ⟨q.1, q.2.1, q.2.2.1, va_K.moved (u := U) (U := U.calling g mk a) (Vm.Alike.refl U.vm) q.2.2.2.1, q.2.2.2.2⟩, va_recv hK hPc (ci := 2) (q0 := 0) rfl rfl, fun U hU hW => ⟨rfl, by rw [hU], by rw [hU]; exact hPc, va_K.moved hW.alike hK, hDc.weaken (fun _ _ _ _ => trivial)⟩⟩ rfl rfl hz rfl (lv_room (Nat.le_of_ble_eq_true rfl)) hdg ⟨Nat.le_trans (Nat.le_of_eq (Nat.add_zero C)) hr.1, Nat.le_trans (Nat.le_of_eq (Nat.add_zero S)) hr.2⟩) hS (fun q _ h => hFc q h) hFc (fun r9 g9 t9 H1 locs ht9 hvm9 hw9 hB9 hz9 hk9 hS => ?_)
  obtain ⟨hP1, hD1⟩ := hB9
  rw [ht9] at hP1
  subst hw9
  obtain ⟨hP, hD⟩ := va_join (wc := wX cy a q q2 ca ta u g) (wr := wLo cy mo o um th f) (w1 := wX cy a q q2 ca ta u g9) hP hD [0, 1, 2, 3, 4, 5, 6, 7, 8, 9, 10, 11, 12, 13, 14, 15, 16, 17, 18, 19, 20, 21, 22, 23, 24, 25, 26, 27, 28, 29] [30, 31, 32, 33, 34, 35, 36, 37] rfl rfl (by decide) (by decide) hk9 hFc hP1 hD1
  exact kk g9 H1 locs (hP.sub [8, 9, 10, 11, 12, 13, 14, 15, 16, 17, 18, 19, 20, 21, 22, 23, 24, 25, 26, 27, 28, 29, 30, 31, 32, 33, 34, 35, 36, 37, 0, 1, 2, 3, 4, 5, 6, 7] rfl) (hD.sub [8, 9, 10, 11, 12, 13, 14, 15, 16, 17, 18, 19, 20, 21, 22, 23, 24, 25, 26, 27, 28, 29, 30, 31, 32, 33, 34, 35, 36, 37, 0, 1, 2, 3, 4, 5, 6, 7] (by decide) rfl) hS
theorem law_mean (hP : va_P D vwCl (wLw cy a q q2 ca ta mo o u g um th f) H) (hK : va_K D vwCl (TY cy) s) (S9 : CallFix p m c cc nL s #[Value.ref b] Ts RL) (hu : uOk u) (hT : GoodIn Ts (wsV RL 122 RX2 yX2_mean wsX2_mean)) (hz : ls.size = nL) (hr : C ≤ 601024 ∧ S ≤ 7293034) (hdg : decode cc pc = .ok (.invokevirtual 122, 3)) (kk : W p l e room_1 s m #[Value.ref b] below meth c H locs C S Q (F0 m (pc + 3) ls [.double (meanH (uh u))])) : W p l e room_1 s m #[Value.ref b] below meth c H locs C S Q (F0 m pc ls [.ref (a 0)]) := by
  have hPc := hP.sub (ws' := wX cy a q q2 ca ta u g) [0, 1, 2, 3, 4, 5, 6, 7, 8, 9, 10, 11, 12, 13, 14, 15, 16, 17, 18, 19, 20, 21, 22, 23, 24, 25, 26, 27, 28, 29] rfl
  refine pc_calld (va_runV (As := []) (rest := []) S9 (mX2_mean l D cy a q q2 ca ta u g hu) (cwV 0 S9.2.2.2.2 hT rfl rfl rfl (by decide +kernel) ⟨Nat.le_of_ble_eq_true rfl, Nat.le_of_ble_eq_true rfl⟩) ⟨fun a U g mk q => ⟨q.1, q.2.1, va_K.moved (u := U) (U := U.calling g mk a) (Vm.Alike.refl U.vm) q.2.2⟩, va_recv hK hPc (ci := 2) (q0 := 0) rfl rfl, fun U hU hW => ⟨rfl, by rw [hU]; exact hPc, va_K.moved hW.alike hK⟩⟩ rfl rfl hz rfl (lv_room (Nat.le_of_ble_eq_true rfl)) hdg ⟨Nat.le_trans (Nat.le_of_eq (Nat.add_zero C)) hr.1, Nat.le_trans (Nat.le_of_eq (Nat.add_zero S)) hr.2⟩) (fun r9 hr9 => ?_)
  subst hr9
  exact kk
theorem law_dig (hP : va_P D vwCl (wLw cy a q q2 ca ta mo o u g um th f) H) (hK : va_K D vwCl (TY cy) s) (S9 : CallFix p m c cc nL s #[Value.ref b] Ts RL) (hu : uOk u) (hT : GoodIn Ts (wsV RL 127 RX2 yX2_digest wsX2_digest)) (hz : ls.size = nL) (hr : C ≤ 601024 ∧ S ≤ 7293034) (hdg : decode cc pc = .ok (.invokevirtual 127, 3)) (kk : W p l e room_1 s m #[Value.ref b] below meth c H locs C S Q (F0 m (pc + 3) ls [.long (digU u)])) : W p l e room_1 s m #[Value.ref b] below meth c H locs C S Q (F0 m pc ls [.ref (a 0)]) := by
  have hPc := hP.sub (ws' := wX cy a q q2 ca ta u g) [0, 1, 2, 3, 4, 5, 6, 7, 8, 9, 10, 11, 12, 13, 14, 15, 16, 17, 18, 19, 20, 21, 22, 23, 24, 25, 26, 27, 28, 29] rfl
  refine pc_calll (va_runV (As := []) (rest := []) S9 (mX2_digest l D cy a q q2 ca ta u g hu) (cwV 0 S9.2.2.2.2 hT rfl rfl rfl (by decide +kernel) ⟨Nat.le_of_ble_eq_true rfl, Nat.le_of_ble_eq_true rfl⟩) ⟨fun a U g mk q => ⟨q.1, q.2.1, va_K.moved (u := U) (U := U.calling g mk a) (Vm.Alike.refl U.vm) q.2.2⟩, va_recv hK hPc (ci := 2) (q0 := 0) rfl rfl, fun U hU hW => ⟨rfl, by rw [hU]; exact hPc, va_K.moved hW.alike hK⟩⟩ rfl rfl hz rfl (lv_room (Nat.le_of_ble_eq_true rfl)) hdg ⟨Nat.le_trans (Nat.le_of_eq (Nat.add_zero C)) hr.1, Nat.le_trans (Nat.le_of_eq (Nat.add_zero S)) hr.2⟩) (fun r9 hr9 => ?_)
  subst hr9
  exact kk
end LAWK
theorem law_ex0 {n : Nat} (h : n ≤ 3) (e : nI n = 0) : n = 0 := (nI_eq (a := n) (b := 0) (by omega) (by decide)).mp (e.trans nI_0.symm)
theorem law_same {X Y : Prop} {ex : Nat} {u9 v9 af u : US} (h1 : ex = 0 → X ∧ u9 = af) (h2 : ¬ ex = 0 → u9 = u) (h3 : ex = 0 → Y ∧ v9 = af) (h4 : ¬ ex = 0 → v9 = u) : v9 = u9 := by
  by_cases z : ex = 0
  · rw [(h1 z).2, (h3 z).2]
  · rw [h2 z, h4 z]
theorem law_stay {X : Prop} {ex : Nat} {u9 u : US} {i : Nat} (hI : IJ u i) (h1 : ex = 0 → X ∧ u9 = u) (h2 : ¬ ex = 0 → u9 = u) : IJ u9 (i + 1) := by
  by_cases z : ex = 0
  · rw [(h1 z).2]; exact IJ_stay hI
  · rw [h2 z]; exact IJ_stay hI
theorem law_step {X : Prop} {ex : Nat} {u9 u af : US} {i : Nat} (hI : IJ u i) (h0 : ex = 0 → IJ af (i + 1)) (h1 : ex = 0 → X ∧ u9 = af) (h2 : ¬ ex = 0 → u9 = u) : IJ u9 (i + 1) := by
  by_cases z : ex = 0
  · rw [(h1 z).2]; exact h0 z
  · rw [h2 z]; exact IJ_stay hI
theorem lg_same (x : Int64) : lg_cmp x x = 0 := by simp [lg_cmp]
theorem one_le3 {n : Nat} (h : n ≤ 1) : n ≤ 3 := by omega
theorem two_le3 {n : Nat} (h : n ≤ 2) : n ≤ 3 := by omega
/-- what stands through the whole loop -/
def LX (p : Program) (l : Launch) (s : State) (m : MethodId) (meth : Method) (c : Code) (b L : Nat) (xs : Nat → Int32) (D : va_G) (cy : Nat → ClassId) : Prop := lw_At p s m meth c b L xs ∧ L ≤ 3072 ∧ l.stackTraces = false ∧ va_K D vwCl (TY cy) s ∧ vKP cy s ∧ xC s s.heap ∧ xNc s
/-- from the place pc on, with i ints read in k calls, all is well -/
def LK (p : Program) (l : Launch) (e : Env) (s : State) (m : MethodId) (below : List Frame) (meth : Method) (c : Code) (Q : State → Prop) (b : Nat) (D : va_G) (cy : Nat → ClassId) (a q q2 ca ta mo : Nat → Nat) (o i k C S pc : Nat) : Prop :=
  ∀ (u : US) (g : HS) (th : Int32) (f : Nat → Int64) (H : Heap) (locs : List Loc) (ls : Array Slot), IJ u k → va_P D vwCl (wLw cy a q q2 ca ta mo o u g u th f) H → va_D (AL s) (wLw cy a q q2 ca ta mo o u g u th f) → va_S (AL s) s.heap H locs → lv_has ls 9 [(0, .ref b), (1, .ref (a 0)), (2, .ref (mo 0)), (3, .ref o), (4, .int (nI i))] → W p l e room_1 s m #[Value.ref b] below meth c H locs C S Q (F0 m pc ls [])
