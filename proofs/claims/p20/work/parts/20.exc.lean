/-! methods of the class that may throw: what they need of the start, and their rows -/
def xNm : List String := ["java/lang/RuntimeException", "java/lang/Exception"]
def xI : String := "java/lang/IndexOutOfBoundsException"
def xA : String := "java/lang/IllegalArgumentException"
def xT : String := "java/lang/IllegalStateException"
def xExc : List String := [xI, xA, xT]
def xStr : List (Nat × String) := [(46, "a push of 0 steps"), (57, "the wedge would not be 0 to 20"), (67, "the base is not 100 to 900"), (75, "the hour is not 0 to 11"), (78, "the wind is not 0 to 20"), (80, "the damp is not 0 to 9"), (85, "what is not 0 to 6"), (103, "a fourth tone without a third one"), (105, "there are not so many strings from the first one on"), (107, "there are 6 chords"), (138, "what is not 0 to 7"), (174, "a string is not 0 to 11"), (176, "the steps are not -20 to 20"), (178, "a tone is too small, or more than 1500"), (180, "the hours are not 1 to 200"), (182, "there is no such chord")]
def xBad (cls : String) : List Cond := [.declares (Bundle.initS "java/lang/RuntimeException"), .declares (Bundle.initS "java/lang/Exception"), .declares (Bundle.initS Bundle.tN), .castable cls cls]
theorem xBad_warm {s U : State} (hW : s.WarmedH U.vm) {cls : String} (h : ∀ w ∈ xBad cls, va_Nw w s) : ∀ w ∈ xBad cls, va_Nw w U := by
  have h1 := List.forall_mem_cons.mp h
  have h2 := List.forall_mem_cons.mp h1.2
  have h3 := List.forall_mem_cons.mp h2.2
  have h4 := List.forall_mem_cons.mp h3.2
  exact List.forall_mem_cons.mpr ⟨va_Nw.warmD hW h1.1, List.forall_mem_cons.mpr ⟨va_Nw.warmD hW h2.1, List.forall_mem_cons.mpr ⟨va_Nw.warmD hW h3.1, List.forall_mem_cons.mpr ⟨va_Nw.warmC hW h4.1, fun _ z => absurd z List.not_mem_nil⟩⟩⟩⟩
theorem xBad_tab {cls : String} : ∀ w ∈ xBad cls, w.onTables = true := List.forall_mem_cons.mpr ⟨rfl, List.forall_mem_cons.mpr ⟨rfl, List.forall_mem_cons.mpr ⟨rfl, List.forall_mem_cons.mpr ⟨rfl, fun _ z => absurd z List.not_mem_nil⟩⟩⟩⟩
/-- what a throw needs of the start -/
def xC (U : State) (H : Heap) : Prop := vx_Zq Bundle.tN "UNASSIGNED_STACK" Bundle.steD (fun _ => False) U H ∧ vx_Zq Bundle.tN "SUPPRESSED_SENTINEL" Bundle.listD (fun _ => False) U H ∧ (∀ C ∈ xExc, ∀ w ∈ xBad C, va_Nw w U) ∧ ∀ kt ∈ xStr, ∃ a, vk_R RX2 kt.1 kt.2 a U
theorem xC.warm {s U : State} {H : Heap} (hW : s.WarmedH U.vm) (h : xC s H) : xC U H :=
  ⟨vx_Zq.moved hW.alike h.1, vx_Zq.moved hW.alike h.2.1, fun C hC => xBad_warm hW (h.2.2.1 C hC), fun kt hk => (h.2.2.2 kt hk).imp fun _ q => vk_R.warm hW q⟩
theorem xC.kept {U : State} {H H1 : Heap} (h : xC U H) (hq : ∀ a : Nat, a < H.size → H1[a]? = H[a]?) : xC U H1 :=
  ⟨vx_Zq.kept h.1 (fun a h1 _ => hq a h1), vx_Zq.kept h.2.1 (fun a h1 _ => hq a h1), h.2.2⟩
/-- how such a method ends with a throw: E is as c9 says, and no old cell has changed -/
def pX (c9 : String → Prop) : String → State → State → Prop := fun E st t => c9 E ∧ st.heap.size ≤ t.heap.size ∧ ∀ q : Nat, q < st.heap.size → t.heap[q]? = st.heap[q]?
def pQv (post : Prop) : Array Value → State → Outcome → State → Prop := fun _ st o t => o = .returned none ∧ post ∧ t.heap = st.heap
theorem xb_48 : ∀ w ∈ (vx_atS RX2 48 xA xNm).filter (fun w => !goodWord w), w ∈ xBad xA := by decide +kernel
theorem xb_59 : ∀ w ∈ (vx_atS RX2 59 xT xNm).filter (fun w => !goodWord w), w ∈ xBad xT := by decide +kernel
theorem xb_77 : ∀ w ∈ (vx_atS RX2 77 xI xNm).filter (fun w => !goodWord w), w ∈ xBad xI := by decide +kernel
theorem xo_48 : ∀ w ∈ Cond.classLink RX2 44 xA :: Cond.initialized xA :: vx_atS RX2 48 xA xNm, vx_ot w = true := by decide +kernel
theorem xo_59 : ∀ w ∈ Cond.classLink RX2 55 xT :: Cond.initialized xT :: vx_atS RX2 59 xT xNm, vx_ot w = true := by decide +kernel
theorem xo_77 : ∀ w ∈ Cond.classLink RX2 73 xI :: Cond.initialized xI :: vx_atS RX2 77 xI xNm, vx_ot w = true := by decide +kernel
theorem xf_A : Bundle.fit xA = true := by decide +kernel
theorem xf_I : Bundle.fit xI = true := by decide +kernel
theorem xf_T : Bundle.fit xT = true := by decide +kernel
theorem xf_N : ∀ n ∈ xNm, Bundle.fit n = true := by decide +kernel
section PX
variable {p : Program} {l : Launch} {e : Env} {R : Room} {s : State} {m : MethodId} {args : Array Value} {below : List Frame} {meth : Method} {c : Code} {H : Heap} {locs : List Loc} {cells slots : Nat} {Q : State → Prop}
variable {cc : ByteArray} {pc : Nat} {ls : Array Slot} {rest st0 : List Value} {D : va_G} {cl : List vw_C} {A : Nat → Prop} {a : Nat} {tys : List (ClassId × FieldType)} {ws : va_W} {H0 : Heap}
theorem px_throwS {Qc : Array Value → State → Outcome → State → Prop} {c9 : String → Prop} {mc ms : Nat} {free : Addr → Prop} {cls text : String} {ik is ic : Nat} (hexec : p.tables.exec = Jvm.exec) (hb : c.code = cc) (hst : l.stackTraces = false) (hown : s.vm.findClass RX2 = some m.cls)
    (hcls : Bundle.fit cls = true) (hC : cls ∈ xExc) (hk : (Cond.classLink RX2 ik cls).before args s = true) (hini : (Cond.initialized cls).before args s = true)
    (hgw : ∀ w ∈ (vx_atS RX2 ic cls xNm).filter goodWord, w.before args s = true) (hbw : ∀ w ∈ (vx_atS RX2 ic cls xNm).filter (fun w => !goodWord w), w ∈ xBad cls) (hgood : ∀ w ∈ Cond.classLink RX2 ik cls :: Cond.initialized cls :: vx_atS RX2 ic cls xNm, vx_ot w = true)
    (hX : xC s s.heap) (htx : (is, text) ∈ xStr) (hH : H = s.heap) (hlocs : locs = []) (hsize : ls.size = c.maxLocals)
    (d0 : decode cc pc = .ok (.new ik, 3)) (d3 : decode cc (pc + 3) = .ok (.dup, 1)) (d4 : decode cc (pc + 4) = .ok (.ldc is, 2)) (d6 : decode cc (pc + 6) = .ok (.invokespecial ic, 3)) (d9 : decode cc (pc + 9) = .ok (.athrow, 1))
    (hout : ∀ x ∈ c.exceptionTable.toList, False) (hRf : 5 < R.frames) (hRl : (rest.map fun v => v.category).sum + 82 ≤ R.locals) (hRc : cells + 1 ≤ R.cells) (hRs : slots + 6 ≤ R.slots) (hlocks : meth.locks = false) (hc9 : c9 cls) (hc : cells + 1 ≤ mc) (hs : slots + 6 ≤ ms) :
    W p l e R s m args below meth c H locs cells slots (vx_MQ below Qc (pX c9) args s mc ms free) (F0 m pc ls rest) := by
  subst hH; subst hlocs
  obtain ⟨sa, hsa⟩ := hX.2.2.2 _ htx
  exact vx_throwS (A := fun _ => False) (names := xNm) (text := text) hexec hb hst hown hcls xf_N hk hini hsa (vx_hat hgw hbw (fun w hw => va_Nw.use (xBad_tab w hw) (hX.2.2.1 cls hC w hw))) hgood hX.1 hX.2.1 va_S.rf hsize d0 d3 d4 d6 d9 (fun x hx => (hout x hx).elim) hRf hRl hRc hRs hlocks
    (fun t hA h1 h2 => ⟨hc9, h1, h2⟩) (fun z hz => absurd hz List.not_mem_nil) hc hs
/-- a check is called: behind it, or on with its throw -/
theorem px_callv {post : Prop} {c9 : String → Prop} {ar : Array Value} {mc ms : Nat} (hr : vx_Run p l e R s m args below meth c H locs cells slots mc ms (F0 m pc ls st0) rest (pQv post ar) (pX c9) (fun _ => False))
    (kx : ∀ (E : String) (ce : Cell) (q9 : Addr) (H1 : Heap), c9 E → H.size ≤ H1.size → (∀ q : Nat, q < H.size → H1[q]? = H[q]?) → H1[q9]? = some ce → ce.vm = .none → s.vm.findClass E = some ce.cls → vx_W p l e R s m args below meth c H1 locs (cells + mc) (slots + ms) Q (F0 m pc ls rest) q9)
    (kk : post → W p l e R s m args below meth c H locs (cells + mc) (slots + ms) Q (F0 m (pc + 3) ls rest)) : W p l e R s m args below meth c H locs cells slots Q (F0 m pc ls st0) := by
  intro T hT X
  rcases hr T hT X with ⟨v, st₀, t, T', L, h0, X', hL, e1, e2, ⟨hv, hp, hh⟩, st⟩ | ⟨q, st₀, t, T', L, E, ce, h0, X', hL, e1, e2, ⟨hc9, hF1, hF2⟩, hce, hcv, hcl, st⟩
  · cases hv
    have hL0 : L = [] := List.eq_nil_iff_forall_not_mem.mpr (fun q hq => hL q hq)
    subst hL0
    rw [List.append_nil] at X'
    obtain ⟨t2, a1, b1⟩ := kk hp T' (by rw [e1, hh, h0]) X'
    exact ⟨t2, st t2 a1, b1⟩
  · have hL0 : L = [] := List.eq_nil_iff_forall_not_mem.mpr (fun q hq => hL q hq)
    subst hL0
    rw [List.append_nil] at X'
    rw [h0] at hF1 hF2
    obtain ⟨t2, a1, b1⟩ := kx E ce q T'.heap hc9 (by rw [e1]; exact hF1) (fun q h => by rw [e1]; exact hF2 q h) (by rw [e1]; exact hce) hcv hcl T' rfl X'
    exact ⟨t2, st.trans a1, b1⟩
/-- an answer out of a method that may throw and leaves the heap -/
theorem px_calli {post : Int32 → Prop} {c9 : String → Prop} {ar : Array Value} {mc ms : Nat} (hr : vx_Run p l e R s m args below meth c H locs cells slots mc ms (F0 m pc ls st0) rest (vp_Si post ar) (pX c9) (fun _ => False))
    (kx : ∀ (E : String) (ce : Cell) (q9 : Addr) (H1 : Heap), c9 E → H.size ≤ H1.size → (∀ q : Nat, q < H.size → H1[q]? = H[q]?) → H1[q9]? = some ce → ce.vm = .none → s.vm.findClass E = some ce.cls → vx_W p l e R s m args below meth c H1 locs (cells + mc) (slots + ms) Q (F0 m pc ls rest) q9)
    (kk : ∀ r : Int32, post r → W p l e R s m args below meth c H locs (cells + mc) (slots + ms) Q (F0 m (pc + 3) ls (.int r :: rest))) : W p l e R s m args below meth c H locs cells slots Q (F0 m pc ls st0) := by
  intro T hT X
  rcases hr T hT X with ⟨v, st₀, t, T', L, h0, X', hL, e1, e2, ⟨r, hv, hp, hh⟩, st⟩ | ⟨q, st₀, t, T', L, E, ce, h0, X', hL, e1, e2, ⟨hc9, hF1, hF2⟩, hce, hcv, hcl, st⟩
  · cases hv
    have hL0 : L = [] := List.eq_nil_iff_forall_not_mem.mpr (fun q hq => hL q hq)
    subst hL0
    rw [List.append_nil] at X'
    obtain ⟨t2, a1, b1⟩ := kk r hp T' (by rw [e1, hh, h0]) X'
    exact ⟨t2, st t2 a1, b1⟩
  · have hL0 : L = [] := List.eq_nil_iff_forall_not_mem.mpr (fun q hq => hL q hq)
    subst hL0
    rw [List.append_nil] at X'
    rw [h0] at hF1 hF2
    obtain ⟨t2, a1, b1⟩ := kx E ce q T'.heap hc9 (by rw [e1]; exact hF1) (fun q h => by rw [e1]; exact hF2 q h) (by rw [e1]; exact hce) hcv hcl T' rfl X'
    exact ⟨t2, st.trans a1, b1⟩
/-- an answer out of a method that may throw and writes its world -/
theorem px_callw {S : Type} {post : Int32 → S → Prop} {B : S → State → Prop} {A1 A0 : Nat → Prop} {c9 : String → Prop} {ar : Array Value} {mc ms : Nat} {free : Addr → Prop} (hr : vx_Run p l e R s m args below meth c H locs cells slots mc ms (F0 m pc ls st0) rest (va_Qi post B A1 ar) (pX c9) free) (hS : va_S A0 H0 H locs) (hA : ∀ q, q < H.size → A1 q → A0 q) (hf : ∀ q, free q → A0 q)
    (kx : ∀ (E : String) (ce : Cell) (q9 : Addr) (H1 : Heap) (locs1 : List Loc), c9 E → H.size ≤ H1.size → (∀ q : Nat, q < H.size → H1[q]? = H[q]?) → va_S A0 H0 H1 locs1 → H1[q9]? = some ce → ce.vm = .none → s.vm.findClass E = some ce.cls → vx_W p l e R s m args below meth c H1 locs1 (cells + mc) (slots + ms) Q (F0 m pc ls rest) q9)
    (kk : ∀ (r : Int32) (u : S) (t : State) (H1 : Heap) (locs1 : List Loc), t.heap = H1 → s.vm.Alike t.vm → post r u → B u t → H.size ≤ H1.size → (∀ q : Nat, q < H.size → ¬ A1 q → H1[q]? = H[q]?) → va_S A0 H0 H1 locs1 → W p l e R s m args below meth c H1 locs1 (cells + mc) (slots + ms) Q (F0 m (pc + 3) ls (.int r :: rest))) : W p l e R s m args below meth c H locs cells slots Q (F0 m pc ls st0) := by
  intro T hT X
  rcases hr T hT X with ⟨v, st₀, t, T', L, h0, X', hL, e1, e2, ⟨⟨r, u, hv, hp, hb⟩, hF⟩, st⟩ | ⟨q, st₀, t, T', L, E, ce, h0, X', hL, e1, e2, ⟨hc9, hF1, hF2⟩, hce, hcv, hcl, st⟩
  · cases hv
    obtain ⟨k1, k2, k3⟩ := vx_keep h0 e1 hS hA hf hL hF
    obtain ⟨t2, a1, b1⟩ := kk r u t T'.heap (locs ++ L) e1.symm (by rw [← e2]; exact X'.warmed.alike) hp hb k1 k2 k3 T' rfl X'
    exact ⟨t2, st t2 a1, b1⟩
  · obtain ⟨k1, k2, k3⟩ := vx_keep (A1 := fun _ => False) h0 e1 hS (fun _ _ h => h.elim) hf hL ⟨hF1, fun q h _ => hF2 q h⟩
    obtain ⟨t2, a1, b1⟩ := kx E ce q T'.heap (locs ++ L) hc9 k1 (fun q h => k2 q h id) k3 (by rw [e1]; exact hce) hcv hcl T' rfl X'
    exact ⟨t2, st.trans a1, b1⟩
end PX
/-- not caught: on to the caller -/
theorem px_out {p : Program} {l : Launch} {e : Env} {R : Room} {s : State} {m : MethodId} {args : Array Value} {below : List Frame} {meth : Method} {c : Code} {H1 : Heap} {cells slots : Nat} {ls : Array Slot} {rest : List Value} {pc : Nat} {Qc : Array Value → State → Outcome → State → Prop} {c9 : String → Prop} {E : String} {ce : Cell} {q : Addr} {mc ms : Nat} {free : Addr → Prop} (hout : ∀ x ∈ c.exceptionTable.toList, False) (hlocks : meth.locks = false) (h1 : s.heap.size ≤ H1.size) (h2 : ∀ q : Nat, q < s.heap.size → H1[q]? = s.heap[q]?) (hcell : H1[q]? = some ce) (hv : ce.vm = .none) (hcl : s.vm.findClass E = some ce.cls) (hc9 : c9 E) (hc : cells ≤ mc) (hs : slots ≤ ms) :
    vx_W p l e R s m args below meth c H1 [] cells slots (vx_MQ below Qc (pX c9) args s mc ms free) (F0 m pc ls rest) q :=
  vx_out (fun x hx => (hout x hx).elim) hlocks hcell hv hcl (fun t ht _ => ⟨hc9, by rw [ht]; exact h1, fun q hq => by rw [ht]; exact h2 q hq⟩) (fun z hz => absurd hz List.not_mem_nil) hc hs
