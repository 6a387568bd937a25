section
-- ===== PART A: goes FIRST, ahead of the names: the tables' words, and 'selects' of the private methods out of them =====
/-- a private method of a class that the tables say can be made, by its rows of tables_1 -/
def lw_okq (q : MethodName × Nat) : Prop := (q.1.cls ≠ "java/lang/invoke/MethodHandle" ∧ q.1.cls ≠ "java/lang/invoke/VarHandle") ∧ Cond.instantiable q.1.cls q.2 ∈ tables_1 ∧ Cond.privateMethod q.1 ∈ tables_1 ∧ Cond.instanceMethod q.1 ∈ tables_1
theorem lw_p0 : lw_okq (⟨"WedgeHarps", "letHourGo", "(LWedgeHarps$Harp;II)I"⟩, 6) := ⟨⟨by decide +kernel, by decide +kernel⟩, List.mem_of_getElem? (i := 15) (by decide +kernel), List.mem_of_getElem? (i := 112) (by decide +kernel), List.mem_of_getElem? (i := 113) (by decide +kernel)⟩
theorem lw_p1 : lw_okq (⟨"WedgeHarps$Harp", "breaksIn", "(II)Z"⟩, 8) := ⟨⟨by decide +kernel, by decide +kernel⟩, List.mem_of_getElem? (i := 23) (by decide +kernel), List.mem_of_getElem? (i := 127) (by decide +kernel), List.mem_of_getElem? (i := 128) (by decide +kernel)⟩
theorem lw_p2 : lw_okq (⟨"WedgeHarps$Harp", "slip", "(II)V"⟩, 8) := ⟨⟨by decide +kernel, by decide +kernel⟩, List.mem_of_getElem? (i := 23) (by decide +kernel), List.mem_of_getElem? (i := 138) (by decide +kernel), List.mem_of_getElem? (i := 139) (by decide +kernel)⟩
theorem lw_p3 : lw_okq (⟨"WedgeHarps$Harp", "swell", "(I)V"⟩, 8) := ⟨⟨by decide +kernel, by decide +kernel⟩, List.mem_of_getElem? (i := 23) (by decide +kernel), List.mem_of_getElem? (i := 145) (by decide +kernel), List.mem_of_getElem? (i := 146) (by decide +kernel)⟩
theorem lw_p4 : lw_okq (⟨"WedgeHarps", "lowestToBreak", "()I"⟩, 6) := ⟨⟨by decide +kernel, by decide +kernel⟩, List.mem_of_getElem? (i := 15) (by decide +kernel), List.mem_of_getElem? (i := 149) (by decide +kernel), List.mem_of_getElem? (i := 150) (by decide +kernel)⟩
theorem lw_p5 : lw_okq (⟨"WedgeHarps", "countOf", "(I)I"⟩, 6) := ⟨⟨by decide +kernel, by decide +kernel⟩, List.mem_of_getElem? (i := 15) (by decide +kernel), List.mem_of_getElem? (i := 171) (by decide +kernel), List.mem_of_getElem? (i := 172) (by decide +kernel)⟩
theorem lw_p6 : lw_okq (⟨"WedgeHarps", "soundingChords", "()I"⟩, 6) := ⟨⟨by decide +kernel, by decide +kernel⟩, List.mem_of_getElem? (i := 15) (by decide +kernel), List.mem_of_getElem? (i := 175) (by decide +kernel), List.mem_of_getElem? (i := 176) (by decide +kernel)⟩
theorem lw_p7 : lw_okq (⟨"WedgeHarps", "weatherAt", "(I)I"⟩, 6) := ⟨⟨by decide +kernel, by decide +kernel⟩, List.mem_of_getElem? (i := 15) (by decide +kernel), List.mem_of_getElem? (i := 197) (by decide +kernel), List.mem_of_getElem? (i := 198) (by decide +kernel)⟩
theorem lw_p8 : lw_okq (⟨"WedgeHarps", "digestWith", "(JLWedgeHarps$Chord;)J"⟩, 6) := ⟨⟨by decide +kernel, by decide +kernel⟩, List.mem_of_getElem? (i := 15) (by decide +kernel), List.mem_of_getElem? (i := 201) (by decide +kernel), List.mem_of_getElem? (i := 202) (by decide +kernel)⟩
theorem lw_p9 : lw_okq (⟨"java/lang/Throwable", "fillInStackTrace", "(I)Ljava/lang/Throwable;"⟩, 6) := ⟨⟨by decide +kernel, by decide +kernel⟩, List.mem_of_getElem? (i := 260) (by decide +kernel), List.mem_of_getElem? (i := 258) (by decide +kernel), List.mem_of_getElem? (i := 259) (by decide +kernel)⟩
theorem lw_p10 : lw_okq (⟨"WedgeHarps", "checkChord", "(I)V"⟩, 6) := ⟨⟨by decide +kernel, by decide +kernel⟩, List.mem_of_getElem? (i := 15) (by decide +kernel), List.mem_of_getElem? (i := 398) (by decide +kernel), List.mem_of_getElem? (i := 399) (by decide +kernel)⟩
theorem lw_p11 : lw_okq (⟨"WedgeHarps", "withstands", "(II)Z"⟩, 6) := ⟨⟨by decide +kernel, by decide +kernel⟩, List.mem_of_getElem? (i := 15) (by decide +kernel), List.mem_of_getElem? (i := 448) (by decide +kernel), List.mem_of_getElem? (i := 449) (by decide +kernel)⟩
theorem lw_p12 : lw_okq (⟨"WedgeHarpsModel", "put", "(III)V"⟩, 8) := ⟨⟨by decide +kernel, by decide +kernel⟩, List.mem_of_getElem? (i := 466) (by decide +kernel), List.mem_of_getElem? (i := 472) (by decide +kernel), List.mem_of_getElem? (i := 473) (by decide +kernel)⟩
theorem lw_p13 : lw_okq (⟨"WedgeHarpsModel", "fail", "(I)I"⟩, 8) := ⟨⟨by decide +kernel, by decide +kernel⟩, List.mem_of_getElem? (i := 466) (by decide +kernel), List.mem_of_getElem? (i := 515) (by decide +kernel), List.mem_of_getElem? (i := 516) (by decide +kernel)⟩
theorem lw_p14 : lw_okq (⟨"WedgeHarpsModel", "ha", "(II)I"⟩, 8) := ⟨⟨by decide +kernel, by decide +kernel⟩, List.mem_of_getElem? (i := 466) (by decide +kernel), List.mem_of_getElem? (i := 519) (by decide +kernel), List.mem_of_getElem? (i := 520) (by decide +kernel)⟩
theorem lw_p15 : lw_okq (⟨"WedgeHarpsModel", "tone", "(I)I"⟩, 8) := ⟨⟨by decide +kernel, by decide +kernel⟩, List.mem_of_getElem? (i := 466) (by decide +kernel), List.mem_of_getElem? (i := 523) (by decide +kernel), List.mem_of_getElem? (i := 524) (by decide +kernel)⟩
def lw_privs_1 : List (MethodName × Nat) := [(⟨"WedgeHarps", "letHourGo", "(LWedgeHarps$Harp;II)I"⟩, 6), (⟨"WedgeHarps$Harp", "breaksIn", "(II)Z"⟩, 8), (⟨"WedgeHarps$Harp", "slip", "(II)V"⟩, 8), (⟨"WedgeHarps$Harp", "swell", "(I)V"⟩, 8), (⟨"WedgeHarps", "lowestToBreak", "()I"⟩, 6), (⟨"WedgeHarps", "countOf", "(I)I"⟩, 6), (⟨"WedgeHarps", "soundingChords", "()I"⟩, 6), (⟨"WedgeHarps", "weatherAt", "(I)I"⟩, 6), (⟨"WedgeHarps", "digestWith", "(JLWedgeHarps$Chord;)J"⟩, 6), (⟨"java/lang/Throwable", "fillInStackTrace", "(I)Ljava/lang/Throwable;"⟩, 6), (⟨"WedgeHarps", "checkChord", "(I)V"⟩, 6), (⟨"WedgeHarps", "withstands", "(II)Z"⟩, 6), (⟨"WedgeHarpsModel", "put", "(III)V"⟩, 8), (⟨"WedgeHarpsModel", "fail", "(I)I"⟩, 8), (⟨"WedgeHarpsModel", "ha", "(II)I"⟩, 8), (⟨"WedgeHarpsModel", "tone", "(I)I"⟩, 8)]
theorem lw_r1 : ∀ q ∈ lw_privs_1, lw_okq q := List.forall_mem_cons.mpr ⟨lw_p0, List.forall_mem_cons.mpr ⟨lw_p1, List.forall_mem_cons.mpr ⟨lw_p2, List.forall_mem_cons.mpr ⟨lw_p3, List.forall_mem_cons.mpr ⟨lw_p4, List.forall_mem_cons.mpr ⟨lw_p5, List.forall_mem_cons.mpr ⟨lw_p6, List.forall_mem_cons.mpr ⟨lw_p7, List.forall_mem_cons.mpr ⟨lw_p8, List.forall_mem_cons.mpr ⟨lw_p9, List.forall_mem_cons.mpr ⟨lw_p10, List.forall_mem_cons.mpr ⟨lw_p11, List.forall_mem_cons.mpr ⟨lw_p12, List.forall_mem_cons.mpr ⟨lw_p13, List.forall_mem_cons.mpr ⟨lw_p14, List.forall_mem_cons.mpr ⟨lw_p15, fun _ h => absurd h List.not_mem_nil⟩⟩⟩⟩⟩⟩⟩⟩⟩⟩⟩⟩⟩⟩⟩⟩
theorem lw_p16 : lw_okq (⟨"WedgeHarpsModel", "wedge", "(I)I"⟩, 8) := ⟨⟨by decide +kernel, by decide +kernel⟩, List.mem_of_getElem? (i := 466) (by decide +kernel), List.mem_of_getElem? (i := 527) (by decide +kernel), List.mem_of_getElem? (i := 528) (by decide +kernel)⟩
theorem lw_p17 : lw_okq (⟨"WedgeHarpsModel", "stringTold", "(II)I"⟩, 8) := ⟨⟨by decide +kernel, by decide +kernel⟩, List.mem_of_getElem? (i := 466) (by decide +kernel), List.mem_of_getElem? (i := 543) (by decide +kernel), List.mem_of_getElem? (i := 544) (by decide +kernel)⟩
theorem lw_p18 : lw_okq (⟨"WedgeHarpsModel", "isChord", "(I)Z"⟩, 8) := ⟨⟨by decide +kernel, by decide +kernel⟩, List.mem_of_getElem? (i := 466) (by decide +kernel), List.mem_of_getElem? (i := 562) (by decide +kernel), List.mem_of_getElem? (i := 563) (by decide +kernel)⟩
theorem lw_p19 : lw_okq (⟨"WedgeHarpsModel", "offBy", "(I)I"⟩, 8) := ⟨⟨by decide +kernel, by decide +kernel⟩, List.mem_of_getElem? (i := 466) (by decide +kernel), List.mem_of_getElem? (i := 566) (by decide +kernel), List.mem_of_getElem? (i := 567) (by decide +kernel)⟩
theorem lw_p20 : lw_okq (⟨"WedgeHarpsModel", "to", "(II)I"⟩, 8) := ⟨⟨by decide +kernel, by decide +kernel⟩, List.mem_of_getElem? (i := 466) (by decide +kernel), List.mem_of_getElem? (i := 570) (by decide +kernel), List.mem_of_getElem? (i := 571) (by decide +kernel)⟩
theorem lw_p21 : lw_okq (⟨"WedgeHarpsModel", "differs", "(II)I"⟩, 8) := ⟨⟨by decide +kernel, by decide +kernel⟩, List.mem_of_getElem? (i := 466) (by decide +kernel), List.mem_of_getElem? (i := 574) (by decide +kernel), List.mem_of_getElem? (i := 575) (by decide +kernel)⟩
theorem lw_p22 : lw_okq (⟨"WedgeHarpsModel", "isSounding", "(I)Z"⟩, 8) := ⟨⟨by decide +kernel, by decide +kernel⟩, List.mem_of_getElem? (i := 466) (by decide +kernel), List.mem_of_getElem? (i := 583) (by decide +kernel), List.mem_of_getElem? (i := 584) (by decide +kernel)⟩
theorem lw_p23 : lw_okq (⟨"WedgeHarpsModel", "hourOn", "()I"⟩, 8) := ⟨⟨by decide +kernel, by decide +kernel⟩, List.mem_of_getElem? (i := 466) (by decide +kernel), List.mem_of_getElem? (i := 595) (by decide +kernel), List.mem_of_getElem? (i := 596) (by decide +kernel)⟩
theorem lw_p24 : lw_okq (⟨"WedgeHarpsModel", "hourOn", "(I)I"⟩, 8) := ⟨⟨by decide +kernel, by decide +kernel⟩, List.mem_of_getElem? (i := 466) (by decide +kernel), List.mem_of_getElem? (i := 599) (by decide +kernel), List.mem_of_getElem? (i := 600) (by decide +kernel)⟩
theorem lw_p25 : lw_okq (⟨"WedgeHarpsModel", "counted", "(I)I"⟩, 8) := ⟨⟨by decide +kernel, by decide +kernel⟩, List.mem_of_getElem? (i := 466) (by decide +kernel), List.mem_of_getElem? (i := 615) (by decide +kernel), List.mem_of_getElem? (i := 616) (by decide +kernel)⟩
theorem lw_p26 : lw_okq (⟨"WedgeHarpsModel", "kept", "()[[I"⟩, 8) := ⟨⟨by decide +kernel, by decide +kernel⟩, List.mem_of_getElem? (i := 466) (by decide +kernel), List.mem_of_getElem? (i := 623) (by decide +kernel), List.mem_of_getElem? (i := 624) (by decide +kernel)⟩
theorem lw_p27 : lw_okq (⟨"WedgeHarpsModel", "bringBack", "([[I)V"⟩, 8) := ⟨⟨by decide +kernel, by decide +kernel⟩, List.mem_of_getElem? (i := 466) (by decide +kernel), List.mem_of_getElem? (i := 635) (by decide +kernel), List.mem_of_getElem? (i := 636) (by decide +kernel)⟩
def lw_privs_2 : List (MethodName × Nat) := [(⟨"WedgeHarpsModel", "wedge", "(I)I"⟩, 8), (⟨"WedgeHarpsModel", "stringTold", "(II)I"⟩, 8), (⟨"WedgeHarpsModel", "isChord", "(I)Z"⟩, 8), (⟨"WedgeHarpsModel", "offBy", "(I)I"⟩, 8), (⟨"WedgeHarpsModel", "to", "(II)I"⟩, 8), (⟨"WedgeHarpsModel", "differs", "(II)I"⟩, 8), (⟨"WedgeHarpsModel", "isSounding", "(I)Z"⟩, 8), (⟨"WedgeHarpsModel", "hourOn", "()I"⟩, 8), (⟨"WedgeHarpsModel", "hourOn", "(I)I"⟩, 8), (⟨"WedgeHarpsModel", "counted", "(I)I"⟩, 8), (⟨"WedgeHarpsModel", "kept", "()[[I"⟩, 8), (⟨"WedgeHarpsModel", "bringBack", "([[I)V"⟩, 8)]
theorem lw_r2 : ∀ q ∈ lw_privs_2, lw_okq q := List.forall_mem_cons.mpr ⟨lw_p16, List.forall_mem_cons.mpr ⟨lw_p17, List.forall_mem_cons.mpr ⟨lw_p18, List.forall_mem_cons.mpr ⟨lw_p19, List.forall_mem_cons.mpr ⟨lw_p20, List.forall_mem_cons.mpr ⟨lw_p21, List.forall_mem_cons.mpr ⟨lw_p22, List.forall_mem_cons.mpr ⟨lw_p23, List.forall_mem_cons.mpr ⟨lw_p24, List.forall_mem_cons.mpr ⟨lw_p25, List.forall_mem_cons.mpr ⟨lw_p26, List.forall_mem_cons.mpr ⟨lw_p27, fun _ h => absurd h List.not_mem_nil⟩⟩⟩⟩⟩⟩⟩⟩⟩⟩⟩⟩
def lw_privs : List (MethodName × Nat) := lw_privs_1 ++ (lw_privs_2)
def lw_tbl : List Cond := k2_sels lw_privs ++ tables_1
theorem lw_privs_ok : ∀ q ∈ lw_privs, lw_okq q := by
  show ∀ q ∈ lw_privs_1 ++ (lw_privs_2), lw_okq q
  exact List.forall_mem_append.mpr ⟨lw_r1, lw_r2⟩
/-- the streams that the claim lets the run draw from -/
abbrev lw_cs : List Choice := [Jvm.Choice.named "NaN.bits"]
theorem lw_bits : nanBits ∈ lw_cs := by first | decide | exact List.mem_cons_self | simp [lw_cs, nanBits]

/-! ===== BEGIN words of one list among another's, by their places ===== -/
theorem goodIn_r {big : List Cond} (ws : List Cond) (ps : List Nat) (hp : ws = ps.filterMap (fun i => big[i]?)) (h : ws.all goodWord = true) : GoodIn big ws := by
  intro w hw
  have h1 := List.all_eq_true.mp h w hw
  rw [hp] at hw
  obtain ⟨i, -, hi⟩ := List.mem_filterMap.mp hw
  have hm : w ∈ big := by first | exact List.mem_of_getElem? hi | exact List.getElem?_mem hi
  exact ⟨hm, good_of_word h1⟩
theorem goodIn_app {big a b : List Cond} (ha : GoodIn big a) (hb : GoodIn big b) : GoodIn big (a ++ b) := fun w h => (List.mem_append.mp h).elim (ha w) (hb w)
theorem goodIn_ca {big a b : List Cond} {c : Cond} (ha : GoodIn big (c :: a)) (hb : GoodIn big b) : GoodIn big (c :: (a ++ b)) := fun w h => (List.mem_cons.mp h).elim (fun e => ha w (List.mem_cons.mpr (Or.inl e))) (fun h => (List.mem_append.mp h).elim (fun h => ha w (List.mem_cons.mpr (Or.inr h))) (hb w))
theorem goodIn_sub {big ws : List Cond} (hm : ∀ w ∈ ws, w ∈ big) (h : ws.all goodWord = true) : GoodIn big ws := fun w hw => ⟨hm w hw, good_of_word (List.all_eq_true.mp h w hw)⟩
/-! ===== END ===== -/

/-! ===== BEGIN exceptions that leave a method, and their catching by the caller (launches without stack traces) ===== -/
section VXA
/-! The laws vx_back, vx_callV, vx_callS, vx_callSW, vx_throw0, vx_throwS follow proofs of the library, with one case more: JvmDerived/Free/Laws.lean (Back.of_free), Shelf42/LK1.lean (callV, callS), Shelf/KitTraced.lean (throwNew0V, throwNewS). -/
/-- where a method has thrown q: the class by its name, the cell, what was written, the world -/
def vx_T (XC : String → State → State → Prop) (st : State) (q : Addr) (t : State) (mc ms : Nat) (free : Addr → Prop) : Prop :=
  ∃ (E : String) (ce : Cell) (L : List Loc), XC E st t ∧ t.heap[q]? = some ce ∧ ce.vm = .none ∧ st.vm.findClass E = some ce.cls ∧ st.WarmedH t.vm ∧ st.sameButNew ({ t with vm := st.vm } : State) L mc ms ∧ ∀ z ∈ L, free z.base
def vx_Q (Qc : Array Value → State → Outcome → State → Prop) (XC : String → State → State → Prop) (mc ms : Nat) (free : Addr → Prop) : Array Value → State → Outcome → State → Prop := fun a st o t =>
  (Qc a st o t ∧ ∃ L, FrameEnd st o t L mc ms ∧ ∀ q ∈ L, free q.base) ∨ ∃ q, o = .threw q ∧ vx_T XC st q t mc ms free
/-- a callee that returns or throws -/
def vx_Met (l : Launch) (y : MethodName) (ws : List Cond) (rm : Room) (Pc : Array Value → State → Prop) (Qc : Array Value → State → Outcome → State → Prop) (XC : String → State → State → Prop) (mc ms : Nat) (free : Addr → Prop) : Prop :=
  MetFree l y (headSpec ws rm) Pc (fun _ _ _ _ _ => True) (vx_Q Qc XC mc ms free)
def vx_Post (XC : String → State → State → Prop) (mc ms : Nat) (free : Addr → Prop) : Pt → Array Value → Addr → Pt → Prop := fun A a q B =>
  ∃ (g : JFrame) (mk : MethodId) (t : State) (L : List Loc) (E : String) (ce : Cell), B.U.heap = t.heap ∧ B.U.vm = t.vm ∧ XC E (A.U.calling g mk a) t ∧ t.heap[q]? = some ce ∧ ce.vm = .none ∧ A.U.vm.findClass E = some ce.cls ∧ B.locs = A.locs ++ L ∧ (∀ z ∈ L, free z.base) ∧ B.cells = A.cells + mc ∧ B.slots = A.slots + ms
def vx_Back (l : Launch) (R : Room) (p : Program) (e : Env) (below : List Frame) (s : State) (sargs : Array Value) (y : MethodName) (len W9 : Nat)
    (Pre : Pt → Array Value → Prop) (Post : Pt → Array Value → Option Value → Pt → Prop) (PostX : Pt → Array Value → Addr → Pt → Prop) : Prop :=
  ∀ (m : MethodId) (meth : Method) (c : Code) (A : Pt) (g : JFrame) (ig : Instr) (mk : MethodId) (a : Array Value),
    Stand p l e R s m sargs below meth c A.U A.locs A.cells A.slots → g.method = m → g.locals.size = c.maxLocals → decode c.code g.pc = .ok (ig, len) →
    2 * g.monitorRoom + (g.stack.map fun v => v.category).sum ≤ W9 → A.U.methodNamed? y = some mk → Pre A a →
    (∃ (v : Option Value) (B : Pt), Stand p l e R s m sargs below meth c B.U B.locs B.cells B.slots ∧ Post A a v B ∧
      Steps p.tables e below (doInvoke e (A.U.setTop g) [] mk a).1 (B.U.setTop { g with pc := g.pc + len, stack := v.toList ++ g.stack })) ∨
    (∃ (q : Addr) (B : Pt), Stand p l e R s m sargs below meth c B.U B.locs B.cells B.slots ∧ PostX A a q B ∧
      Steps p.tables e below (doInvoke e (A.U.setTop g) [] mk a).1 ((B.U.setTop g).pushFrame (.throwing q)))
section Payer
variable {l : Launch} {R : Room} {p : Program} {e : Env} {below : List Frame} {s : State} {sargs : Array Value} {y : MethodName} {len W9 : Nat}
theorem vx_back {ws : List Cond} {rm : Room} {Pc : Array Value → State → Prop} {Qc : Array Value → State → Outcome → State → Prop} {XC : String → State → State → Prop} {mc ms : Nat} {free : Addr → Prop} {bytes : ByteArray} {maxL : Nat} {ret : Option FieldType}
    (hM : vx_Met l y ws rm Pc Qc XC mc ms free) (hblind : FrameBlind Pc) (hrc : rm.cells = mc) (hrs : rm.slots = ms)
    (hframes : rm.frames + 1 ≤ R.frames) (hlocals : W9 + (maxL + 11) + rm.locals ≤ R.locals)
    (hws : ∀ w ∈ ws, ∀ a' U, s.WarmedH U.vm → w.before a' U = true) (hcode : Cond.code y bytes maxL ret ∈ ws) (hinit : ∀ a' U, s.WarmedH U.vm → (Cond.initialized y.cls).before a' U = true) :
    vx_Back l R p e below s sargs y len W9 (PreOf R mc ms Pc) (PostOf Qc mc ms free) (vx_Post XC mc ms free) := by
  intro m meth c A g ig mk a X hg hsize hdg hW hn hp
  have h1 : (headSpec ws rm).pre.before a A.U = true := atoms_intro fun w hw => hws w hw _ _ X.warmed
  have h2 : (Cond.code y bytes maxL ret).before a A.U = true := hws _ hcode _ _ X.warmed
  have h3 : (Cond.initialized y.cls).before a A.U = true := hinit _ _ X.warmed
  have h4 : A.cells + (headSpec ws rm).room.cells ≤ R.cells := by rw [show (headSpec ws rm).room.cells = mc from hrc]; exact hp.1
  have h5 : A.slots + (headSpec ws rm).room.slots ≤ R.slots := by rw [show (headSpec ws rm).room.slots = ms from hrs]; exact hp.2.1
  have hPc : Pc a (A.U.calling g mk a) := hblind _ _ _ _ hp.2.2
  obtain ⟨U, Ls, c0, s0⟩ := A
  dsimp only [Pt.U, Pt.locs, Pt.cells, Pt.slots] at h1 h2 h3 h4 h5 X hn hPc ⊢
  obtain ⟨methY, cY, hmY, hcY, -, hlY, -, -, -, -⟩ := Cond.code_spec hn h2
  obtain ⟨kY, hkY, -⟩ := className_of_methodNamed hn
  have hinitY : kY.init = .initialized := Cond.initialized_spec (findClass_of_methodNamed hn) hkY h3
  have h : At U g.method c below := by rw [hg]; exact X.here
  have hlocals9 : W9 + (maxL + 11) + (headSpec ws rm).room.locals ≤ R.locals := hlocals
  have happ : (headSpec ws rm).appliesLoose y e.platform (U.calling g mk a) = true :=
    Spec.appliesLoose_calling (g := g) h hdg hn hkY hinitY
      (X.room_calling (g := g) (R' := (headSpec ws rm).room) hsize hmY hcY hframes (by rw [hlY]; omega) h4 h5) h1
  obtain ⟨mid, hmid⟩ := h.above
  have hfr : (U.setTop g).frames = (.java g :: mid) ++ below := by rw [State.frames_setTop' g h.top, hmid]; rfl
  obtain ⟨o, s₂, hsteps, -, hend, hq⟩ := Steps.callFree hM p X.admits X.cas X.clock (acts := []) hfr happ hPc trivial
  have hq' : vx_Q Qc XC mc ms free a (U.calling g mk a) o s₂ := hq
  rw [State.frames_setTop' g h.top] at hend
  obtain ⟨g₀, hg0⟩ := Option.isSome_iff_exists.mp h.top
  obtain ⟨r, hr⟩ := State.topJava?_eq_some.mp hg0
  have hr' : (({ U with heap := s₂.heap, slotsUsed := s₂.slotsUsed } : State).setVm s₂.vm).frames = .java g₀ :: r := hr
  rcases hq' with ⟨hqc, L, hfe, hL⟩ | ⟨q, rfl, E, ce, L, hx, hce, hcv, hcl, hW₂, hsm, hL⟩
  · obtain ⟨⟨v, rfl⟩, hW₂, e2, q2, q3, q4, q5, q6⟩ := id hfe
    have e3 : s₂ = ({ (U.calling g mk a).setFrames s₂.frames with heap := s₂.heap, slotsUsed := s₂.slotsUsed } : State).setVm s₂.vm := by
      have : s₂ = ({ s₂ with vm := (U.calling g mk a).vm } : State).setVm s₂.vm := rfl
      rw [e2] at this
      exact this
    obtain ⟨c₂, i₂, len₂, hc₂, hd₂, hf₂⟩ := hend
    have hW' : U.WarmedH s₂.vm := hW₂
    have hcc : c₂ = c := by
      have h1 : s₂.code? g.method = U.code? g.method := by
        rw [State.code?_eq, State.code?_eq, hW'.alike.method?]
      exact Option.some.inj (hc₂.symm.trans (h1.trans h.code))
    subst hcc
    have hlen : len₂ = len := by rw [hdg] at hd₂; cases hd₂; rfl
    subst hlen
    have hs₂ : s₂ = (({ U with heap := s₂.heap, slotsUsed := s₂.slotsUsed } : State).setVm s₂.vm).setTop { g with pc := g.pc + len₂, stack := v.toList ++ g.stack } := by
      refine e3.trans ?_
      rw [hf₂, State.calling_eq h.top, State.setFrames_setFrames, State.setTop_of_frames _ hr', hr]
      rfl
    have hsame : U.sameButNew ({ U with heap := s₂.heap, slotsUsed := s₂.slotsUsed } : State) L mc ms := by
      refine ⟨?_, q2, q3, q4, q5, q6⟩
      obtain ⟨t, ht, -⟩ := State.frames_cons hr
      show ({ U with heap := s₂.heap, slotsUsed := s₂.slotsUsed } : State) = { U.setFrames U.frames with heap := s₂.heap, slotsUsed := s₂.slotsUsed }
      rw [State.setFrames_self ht]
    subst hg
    refine Or.inl ⟨v, ⟨(({ U with heap := s₂.heap, slotsUsed := s₂.slotsUsed } : State).setVm s₂.vm), Ls ++ L, c0 + mc, s0 + ms⟩,
      ⟨X.admits, X.cas, X.clock, X.frames, X.room, X.hears, X.method, X.code, (X.here.setHeapUsed s₂.heap s₂.slotsUsed).setVm hW'.alike, X.tail, State.WarmedH.trans X.warmed hW', X.limits, X.bytes, X.same.trans (hsame.setVm s.vm)⟩,
      ⟨g, mk, s₂, L, rfl, rfl, hqc, rfl, hL, rfl, rfl⟩, ?_⟩
    show Steps p.tables e below _ ((({ U with heap := s₂.heap, slotsUsed := s₂.slotsUsed } : State).setVm s₂.vm).setTop { g with pc := g.pc + len₂, stack := v.toList ++ g.stack })
    rw [← hs₂]
    exact hsteps
  · obtain ⟨e2, q2, q3, q4, q5, q6⟩ := id hsm
    have e3 : s₂ = ({ (U.calling g mk a).setFrames s₂.frames with heap := s₂.heap, slotsUsed := s₂.slotsUsed } : State).setVm s₂.vm := by
      have : s₂ = ({ s₂ with vm := (U.calling g mk a).vm } : State).setVm s₂.vm := rfl
      rw [e2] at this
      exact this
    have hf₂ : s₂.frames = .throwing q :: .java g :: U.frames.tail := hend
    have hW' : U.WarmedH s₂.vm := hW₂
    have hs₂ : s₂ = ((({ U with heap := s₂.heap, slotsUsed := s₂.slotsUsed } : State).setVm s₂.vm).setTop g).pushFrame (.throwing q) := by
      refine e3.trans ?_
      rw [hf₂, State.calling_eq h.top, State.setFrames_setFrames, State.pushFrame, State.frames_setTop _ hr', State.setTop_of_frames _ hr', State.setFrames_setFrames, hr]
      rfl
    have hsame : U.sameButNew ({ U with heap := s₂.heap, slotsUsed := s₂.slotsUsed } : State) L mc ms := by
      refine ⟨?_, q2, q3, q4, q5, q6⟩
      obtain ⟨t, ht, -⟩ := State.frames_cons hr
      show ({ U with heap := s₂.heap, slotsUsed := s₂.slotsUsed } : State) = { U.setFrames U.frames with heap := s₂.heap, slotsUsed := s₂.slotsUsed }
      rw [State.setFrames_self ht]
    subst hg
    refine Or.inr ⟨q, ⟨(({ U with heap := s₂.heap, slotsUsed := s₂.slotsUsed } : State).setVm s₂.vm), Ls ++ L, c0 + mc, s0 + ms⟩,
      ⟨X.admits, X.cas, X.clock, X.frames, X.room, X.hears, X.method, X.code, (X.here.setHeapUsed s₂.heap s₂.slotsUsed).setVm hW'.alike, X.tail, State.WarmedH.trans X.warmed hW', X.limits, X.bytes, X.same.trans (hsame.setVm s.vm)⟩,
      ⟨g, mk, s₂, L, E, ce, rfl, rfl, hx, hce, hcv, hcl, rfl, hL, rfl, rfl⟩, ?_⟩
    show Steps p.tables e below _ (((({ U with heap := s₂.heap, slotsUsed := s₂.slotsUsed } : State).setVm s₂.vm).setTop g).pushFrame (.throwing q))
    rw [← hs₂]
    exact hsteps
end Payer
section Calls
variable {p : Program} {l : Launch} {e : Env} {R : Room} {s : State} {m : MethodId} {args : Array Value} {below : List Frame} {meth : Method} {c : Code} {T : State} {locs : List Loc} {cells slots : Nat}
theorem vx_callV (X : Stand p l e R s m args below meth c T locs cells slots) (hexec : p.tables.exec = Jvm.exec) {own C : String} {index : Nat} {y : MethodName} {bytes : ByteArray} {maxL : Nat} {ret : Option FieldType}
    (hown : s.vm.findClass own = some m.cls) (hlink : (Cond.methodLink own index y).before args s = true) (hinst : (Cond.instanceMethod y).before args s = true) (hsel : (Cond.selects C y y).before args s = true)
    (hcode : (Cond.code y bytes maxL ret).before args s = true) (hy : y.cls ≠ "java/lang/invoke/MethodHandle" ∧ y.cls ≠ "java/lang/invoke/VarHandle")
    {W9 : Nat} {Pre : Pt → Array Value → Prop} {Post : Pt → Array Value → Option Value → Pt → Prop} {PostX : Pt → Array Value → Addr → Pt → Prop} (hK : vx_Back l R p e below s args y 3 W9 Pre Post PostX)
    {b : Addr} {cellB : Cell} (hcell : T.heap[b]? = some cellB) (hobj : cellB.vm.isStatics = false) (hcls : s.vm.findClass C = some cellB.cls)
    {g : JFrame} (hg : g.method = m) (hsize : g.locals.size = c.maxLocals) {argsL rest : List Value} (hlen : ∀ sig, parseMethodDescriptor y.desc = some sig → argsL.length = sig.parameters.length)
    (hstack : g.stack = argsL.reverse ++ .ref b :: rest) (hW : 2 * g.monitorRoom + (rest.map fun v => v.category).sum ≤ W9) (hdg : decode c.code g.pc = .ok (.invokevirtual index, 3))
    (hpre : ∀ vm₁, s.WarmedH vm₁ → Pre ⟨T.setVm vm₁, locs, cells, slots⟩ (Value.ref b :: argsL).toArray) :
    (∃ (v : Option Value) (vm₁ : Vm) (B : Pt), s.WarmedH vm₁ ∧ Stand p l e R s m args below meth c B.U B.locs B.cells B.slots ∧ Post ⟨T.setVm vm₁, locs, cells, slots⟩ (Value.ref b :: argsL).toArray v B ∧
      ∀ target, Steps p.tables e below (B.U.setTop { g with pc := g.pc + 3, stack := v.toList ++ rest }) target → Steps p.tables e below (T.setTop g) target) ∨
    (∃ (q : Addr) (vm₁ : Vm) (B : Pt), s.WarmedH vm₁ ∧ Stand p l e R s m args below meth c B.U B.locs B.cells B.slots ∧ PostX ⟨T.setVm vm₁, locs, cells, slots⟩ (Value.ref b :: argsL).toArray q B ∧
      Steps p.tables e below (T.setTop g) ((B.U.setTop { g with stack := rest }).pushFrame (.throwing q))) := by
  obtain ⟨mk, methM, hnamed, hmethM, hstM, habM⟩ := Cond.instanceMethod_spec hinst
  obtain ⟨methM', cM, hmethM', -, -, -, -, -, -, hsigM⟩ := Cond.code_spec hnamed hcode
  cases hmethM.symm.trans hmethM'
  obtain ⟨c2, r2, m2, q1, q2, q3, q4, kP, hkP, hkPi⟩ := Cond.selects_spec hsel
  cases hcls.symm.trans q1
  cases (State.methodFound?_of_named hnamed hy).symm.trans q2
  cases hnamed.symm.trans q3
  have hselP : selectMethod e.platform s.vm cellB.cls mk = .method mk := by rw [Launch.admits_selectMethod X.admits]; exact q4
  obtain ⟨vm₁, X₁, hstep₁⟩ := X.invokevirtual hexec hown hlink hnamed hmethM hstM hkP hkPi hy (a := b) (cell := cellB) hcell
    (fun z h => by rw [h] at hobj; cases hobj) hselP hmethM habM hkP hkPi (g := g) hg (argsL := argsL) (rest := rest) (hlen _ hsigM) hstack hdg
  rcases hK m meth c ⟨T.setVm vm₁, locs, cells, slots⟩ { g with stack := rest } (.invokevirtual index) mk (Value.ref b :: argsL).toArray X₁ hg hsize hdg hW (X₁.named hnamed) (hpre vm₁ X₁.warmed) with ⟨v, B, X', hpost, hsteps⟩ | ⟨q, B, X', hpost, hsteps⟩
  · exact Or.inl ⟨v, vm₁, B, X₁.warmed, X', hpost, fun target h => hstep₁ _ fun acts => by rw [doInvoke_state]; exact hsteps.trans h⟩
  · exact Or.inr ⟨q, vm₁, B, X₁.warmed, X', hpost, hstep₁ _ fun acts => by rw [doInvoke_state]; exact hsteps⟩
theorem vx_callS (X : Stand p l e R s m args below meth c T locs cells slots) (hexec : p.tables.exec = Jvm.exec) {own : String} {index : Nat} {y : MethodName} {bytes : ByteArray} {maxL : Nat} {ret : Option FieldType}
    (hown : s.vm.findClass own = some m.cls) (hlink : (Cond.methodLink own index y).before args s = true) (hstat : (Cond.static y).before args s = true) (hinit : (Cond.initialized y.cls).before args s = true)
    (hcode : (Cond.code y bytes maxL ret).before args s = true) (hy : y.cls ≠ "java/lang/invoke/MethodHandle" ∧ y.cls ≠ "java/lang/invoke/VarHandle")
    {W9 : Nat} {Pre : Pt → Array Value → Prop} {Post : Pt → Array Value → Option Value → Pt → Prop} {PostX : Pt → Array Value → Addr → Pt → Prop} (hK : vx_Back l R p e below s args y 3 W9 Pre Post PostX)
    {g : JFrame} (hg : g.method = m) (hsize : g.locals.size = c.maxLocals) {argsL rest : List Value} (hlen : ∀ sig, parseMethodDescriptor y.desc = some sig → argsL.length = sig.parameters.length)
    (hstack : g.stack = argsL.reverse ++ rest) (hW : 2 * g.monitorRoom + (rest.map fun v => v.category).sum ≤ W9) (hdg : decode c.code g.pc = .ok (.invokestatic index, 3))
    (hpre : ∀ vm₁, s.WarmedH vm₁ → Pre ⟨T.setVm vm₁, locs, cells, slots⟩ argsL.toArray) :
    (∃ (v : Option Value) (vm₁ : Vm) (B : Pt), s.WarmedH vm₁ ∧ Stand p l e R s m args below meth c B.U B.locs B.cells B.slots ∧ Post ⟨T.setVm vm₁, locs, cells, slots⟩ argsL.toArray v B ∧
      ∀ target, Steps p.tables e below (B.U.setTop { g with pc := g.pc + 3, stack := v.toList ++ rest }) target → Steps p.tables e below (T.setTop g) target) ∨
    (∃ (q : Addr) (vm₁ : Vm) (B : Pt), s.WarmedH vm₁ ∧ Stand p l e R s m args below meth c B.U B.locs B.cells B.slots ∧ PostX ⟨T.setVm vm₁, locs, cells, slots⟩ argsL.toArray q B ∧
      Steps p.tables e below (T.setTop g) ((B.U.setTop { g with stack := rest }).pushFrame (.throwing q))) := by
  obtain ⟨mk, hnamed⟩ := Cond.code_named hcode
  obtain ⟨methM, cM, hmethM, -, -, -, -, -, -, hsigM⟩ := Cond.code_spec hnamed hcode
  have hstatic : methM.isStatic = true := Cond.static_spec hnamed hmethM hstat
  obtain ⟨kP, hkP, -⟩ := className_of_methodNamed hnamed
  have hinitP : kP.init = .initialized := Cond.initialized_spec (findClass_of_methodNamed hnamed) hkP hinit
  obtain ⟨vm₁, X₁, hstep₁⟩ := X.invokestatic hexec hown hlink hnamed hmethM hstatic hkP hinitP hy (g := g) hg (argsL := argsL) (rest := rest) (hlen _ hsigM) hstack hdg
  rcases hK m meth c ⟨T.setVm vm₁, locs, cells, slots⟩ { g with stack := rest } (.invokestatic index) mk argsL.toArray X₁ hg hsize hdg hW (X₁.named hnamed) (hpre vm₁ X₁.warmed) with ⟨v, B, X', hpost, hsteps⟩ | ⟨q, B, X', hpost, hsteps⟩
  · exact Or.inl ⟨v, vm₁, B, X₁.warmed, X', hpost, fun target h => hstep₁ _ fun acts => by rw [doInvoke_state]; exact hsteps.trans h⟩
  · exact Or.inr ⟨q, vm₁, B, X₁.warmed, X', hpost, hstep₁ _ fun acts => by rw [doInvoke_state]; exact hsteps⟩
end Calls
theorem vx_cls {s : State} {T : State} {vm₁ : Vm} {E : String} {k : ClassId} (hW : s.WarmedH vm₁) (h : (T.setVm vm₁).vm.findClass E = some k) : s.vm.findClass E = some k := by
  have h1 : vm₁.findClass E = some k := h
  rw [hW.alike.findClass] at h1
  exact h1
/-- the method's frame g, with q thrown over it -/
def vx_W (p : Program) (l : Launch) (e : Env) (R : Room) (s : State) (m : MethodId) (args : Array Value) (below : List Frame) (meth : Method) (c : Code) (H : Heap) (locs : List Loc) (cells slots : Nat) (Q : State → Prop) (g : JFrame) (q : Addr) : Prop :=
  ∀ T : State, T.heap = H → Stand p l e R s m args below meth c T locs cells slots → ∃ t, Steps p.tables e below ((T.setTop g).pushFrame (.throwing q)) t ∧ Q t
def vx_Run (p : Program) (l : Launch) (e : Env) (R : Room) (s : State) (m : MethodId) (args : Array Value) (below : List Frame) (meth : Method) (c : Code) (H : Heap) (locs : List Loc) (cells slots mc ms : Nat) (g : JFrame) (rest : List Value) (Qa : State → Outcome → State → Prop) (XC : String → State → State → Prop) (free : Addr → Prop) : Prop :=
  ∀ T : State, T.heap = H → Stand p l e R s m args below meth c T locs cells slots →
    (∃ (v : Option Value) (st₀ t T' : State) (L : List Loc), st₀.heap = H ∧ Stand p l e R s m args below meth c T' (locs ++ L) (cells + mc) (slots + ms) ∧ (∀ q ∈ L, free q.base) ∧ T'.heap = t.heap ∧ T'.vm = t.vm ∧ Qa st₀ (.returned v) t ∧
      Goes p e below T g T' { g with pc := g.pc + 3, stack := v.toList ++ rest }) ∨
    (∃ (q : Addr) (st₀ t T' : State) (L : List Loc) (E : String) (ce : Cell), st₀.heap = H ∧ Stand p l e R s m args below meth c T' (locs ++ L) (cells + mc) (slots + ms) ∧ (∀ z ∈ L, free z.base) ∧ T'.heap = t.heap ∧ T'.vm = t.vm ∧ XC E st₀ t ∧ t.heap[q]? = some ce ∧ ce.vm = .none ∧ s.vm.findClass E = some ce.cls ∧
      Steps p.tables e below (T.setTop g) ((T'.setTop { g with stack := rest }).pushFrame (.throwing q)))
def vx_X {S : Type} (px : S → Prop) (B : String → S → State → Prop) (A : Nat → Prop) : String → State → State → Prop := fun E st t => ∃ u : S, px u ∧ B E u t ∧ va_F A st t
section Runs
variable {p : Program} {l : Launch} {e : Env} {R : Room} {s : State} {m : MethodId} {args : Array Value} {below : List Frame} {meth : Method} {c : Code} {H : Heap} {locs : List Loc} {cells slots : Nat}
variable {y : MethodName} {bytes cc : ByteArray} {maxL nL mc ms n index : Nat} {ret : Option FieldType} {ws : List Cond} {rm : Room} {Pc : Array Value → State → Prop} {Qc : Array Value → State → Outcome → State → Prop} {XC : String → State → State → Prop} {free : Addr → Prop} {Ts : List Cond} {own C : String} {b : Addr} {As rest : List Value} {g : JFrame}
theorem vx_callBack (cb : CallB R s args own index y bytes maxL ret ws rm mc ms n) (hM : vx_Met l y ws rm Pc Qc XC mc ms free) (hbl : FrameBlind Pc) : vx_Back l R p e below s args y 3 8 (PreOf R mc ms Pc) (PostOf Qc mc ms free) (vx_Post XC mc ms free) := by
  obtain ⟨hrc, hrs, hfr, hlo, hws, hcw, -, hini, -⟩ := cb
  exact vx_back (bytes := bytes) (maxL := maxL) (ret := ret) hM hbl hrc hrs hfr hlo hws hcw (fun a' U hW => word_at hW (Or.inl (by first | rfl | simp [Cond.onTables, Cond.keeps, Cond.steady])) hini)
theorem vx_runV (S : CallFix p m c cc nL s args Ts own) (hM : vx_Met l y ws rm Pc Qc XC mc ms free) (cw : CallW R s args own C index y bytes maxL ret ws rm mc ms n) (hp : PreV s H C b Pc As)
    (hg : g.method = m) (hn : As.length = n) (hsize : g.locals.size = nL) (hstack : g.stack = As.reverse ++ .ref b :: rest) (hW : 2 * g.monitorRoom + (rest.map fun v => v.category).sum ≤ 8) (hdg : decode cc g.pc = .ok (.invokevirtual index, 3)) (hf : cells + mc ≤ R.cells ∧ slots + ms ≤ R.slots) :
    vx_Run p l e R s m args below meth c H locs cells slots mc ms g rest (Qc (Value.ref b :: As).toArray) XC free := by
  have hK : vx_Back l R p e below s args y 3 8 (PreOf R mc ms Pc) (PostOf Qc mc ms free) (vx_Post XC mc ms free) := vx_callBack cw.1 hM hp.1
  obtain ⟨⟨-, -, -, -, -, -, hcode, -, hy, hlen, hl⟩, hin, hse⟩ := cw
  obtain ⟨hx, hb, hml, ho, -⟩ := S
  obtain ⟨-, ⟨cellB, hcB, hoB, hclB⟩, hPc⟩ := hp
  intro T hT X
  rcases vx_callV X hx (C := C) (bytes := bytes) (maxL := maxL) (ret := ret) ho hl hin hse hcode hy hK (by rw [hT]; exact hcB) hoB hclB hg (hsize.trans hml.symm) (argsL := As) (rest := rest) (fun sig h => hn.trans (hlen sig h)) hstack hW (by rw [hb]; exact hdg)
    (fun vm₁ hW₁ => ⟨hf.1, hf.2, hPc (T.setVm vm₁) hT hW₁⟩) with ⟨v, vm₁, ⟨U', l2, c2, s2⟩, hW₁, X', ⟨g', mk, t, L, e1, e2, hq, h1, hL, h2, h3⟩, st⟩ | ⟨q, vm₁, ⟨U', l2, c2, s2⟩, hW₁, X', ⟨g', mk, t, L, E, ce, e1, e2, hq, hce, hcv, hcl, h1, hL, h2, h3⟩, st⟩
  · dsimp only [Pt.U, Pt.locs, Pt.cells, Pt.slots] at X' e1 e2 h1 h2 h3 st
    subst h1; subst h2; subst h3
    exact Or.inl ⟨v, (T.setVm vm₁).calling g' mk (Value.ref b :: As).toArray, t, U', L, hT, X', hL, e1, e2, hq, st⟩
  · dsimp only [Pt.U, Pt.locs, Pt.cells, Pt.slots] at X' e1 e2 h1 h2 h3 st hcl
    subst h1; subst h2; subst h3
    exact Or.inr ⟨q, (T.setVm vm₁).calling g' mk (Value.ref b :: As).toArray, t, U', L, E, ce, hT, X', hL, e1, e2, hq, hce, hcv, vx_cls hW₁ hcl, st⟩
theorem vx_runS (S : CallFix p m c cc nL s args Ts own) (hM : vx_Met l y ws rm Pc Qc XC mc ms free) (cw : CallB R s args own index y bytes maxL ret ws rm mc ms n ∧ (Cond.static y).before args s = true) (hp : PreS s H Pc As)
    (hg : g.method = m) (hn : As.length = n) (hsize : g.locals.size = nL) (hstack : g.stack = As.reverse ++ rest) (hW : 2 * g.monitorRoom + (rest.map fun v => v.category).sum ≤ 8) (hdg : decode cc g.pc = .ok (.invokestatic index, 3)) (hf : cells + mc ≤ R.cells ∧ slots + ms ≤ R.slots) :
    vx_Run p l e R s m args below meth c H locs cells slots mc ms g rest (Qc As.toArray) XC free := by
  have hK : vx_Back l R p e below s args y 3 8 (PreOf R mc ms Pc) (PostOf Qc mc ms free) (vx_Post XC mc ms free) := vx_callBack cw.1 hM hp.1
  obtain ⟨⟨-, -, -, -, -, -, hcode, hini, hy, hlen, hl⟩, hstt⟩ := cw
  obtain ⟨hx, hb, hml, ho, -⟩ := S
  intro T hT X
  rcases vx_callS X hx (bytes := bytes) (maxL := maxL) (ret := ret) ho hl hstt hini hcode hy hK hg (hsize.trans hml.symm) (argsL := As) (rest := rest) (fun sig h => hn.trans (hlen sig h)) hstack hW (by rw [hb]; exact hdg)
    (fun vm₁ hW₁ => ⟨hf.1, hf.2, hp.2 (T.setVm vm₁) hT hW₁⟩) with ⟨v, vm₁, ⟨U', l2, c2, s2⟩, hW₁, X', ⟨g', mk, t, L, e1, e2, hq, h1, hL, h2, h3⟩, st⟩ | ⟨q, vm₁, ⟨U', l2, c2, s2⟩, hW₁, X', ⟨g', mk, t, L, E, ce, e1, e2, hq, hce, hcv, hcl, h1, hL, h2, h3⟩, st⟩
  · dsimp only [Pt.U, Pt.locs, Pt.cells, Pt.slots] at X' e1 e2 h1 h2 h3 st
    subst h1; subst h2; subst h3
    exact Or.inl ⟨v, (T.setVm vm₁).calling g' mk As.toArray, t, U', L, hT, X', hL, e1, e2, hq, st⟩
  · dsimp only [Pt.U, Pt.locs, Pt.cells, Pt.slots] at X' e1 e2 h1 h2 h3 st hcl
    subst h1; subst h2; subst h3
    exact Or.inr ⟨q, (T.setVm vm₁).calling g' mk As.toArray, t, U', L, E, ce, hT, X', hL, e1, e2, hq, hce, hcv, vx_cls hW₁ hcl, st⟩
end Runs
section Rows
variable {p : Program} {l : Launch} {e : Env} {R : Room} {s : State} {m : MethodId} {args : Array Value} {below : List Frame} {meth : Method} {c : Code} {H : Heap} {locs : List Loc} {cells slots : Nat} {Q : State → Prop}
variable {mc ms : Nat} {free : Addr → Prop} {A0 A1 : Nat → Prop} {H0 : Heap} {a : Array Value} {pc : Nat} {ls : Array Slot} {st0 rest : List Value}
theorem vx_keep {st₀ t T' : State} {L : List Loc} (h0 : st₀.heap = H) (e1 : T'.heap = t.heap) (hS : va_S A0 H0 H locs) (hA : ∀ q, q < H.size → A1 q → A0 q) (hf : ∀ q, free q → A0 q) (hL : ∀ q ∈ L, free q.base) (hF : va_F A1 st₀ t) :
    H.size ≤ T'.heap.size ∧ (∀ q : Nat, q < H.size → ¬ A1 q → T'.heap[q]? = H[q]?) ∧ va_S A0 H0 T'.heap (locs ++ L) := by
  obtain ⟨hz, hk⟩ := hF
  rw [h0] at hz hk
  exact ⟨by rw [e1]; exact hz, fun q h1 h2 => by rw [e1]; exact hk q h1 h2,
    ⟨Nat.le_trans hS.1 (by rw [e1]; exact hz), fun q h1 h2 => by rw [e1, hk q (Nat.lt_of_lt_of_le h1 hS.1) (fun z => h2 (hA q (Nat.lt_of_lt_of_le h1 hS.1) z))]; exact hS.2.1 q h1 h2, fun q hq => by
      rcases List.mem_append.mp hq with h | h
      · exact hS.2.2 q h
      · exact hf _ (hL q h)⟩⟩
theorem vx_calli {S SX : Type} {post : Int32 → S → Prop} {px : SX → Prop} {B : S → State → Prop} {BX : String → SX → State → Prop} {AX : Nat → Prop} (hr : vx_Run p l e R s m args below meth c H locs cells slots mc ms (F0 m pc ls st0) rest (va_Qi post B A1 a) (vx_X px BX AX) free) (hS : va_S A0 H0 H locs) (hA : ∀ q, q < H.size → A1 q → A0 q) (hf : ∀ q, free q → A0 q) (hAX : ∀ q, q < H.size → AX q → A0 q)
    (kx : ∀ (E : String) (ce : Cell) (q9 : Addr) (u : SX) (t : State) (H1 : Heap) (locs1 : List Loc), t.heap = H1 → s.vm.Alike t.vm → px u → BX E u t → H.size ≤ H1.size → (∀ q : Nat, q < H.size → ¬ AX q → H1[q]? = H[q]?) → va_S A0 H0 H1 locs1 → H1[q9]? = some ce → ce.vm = .none → s.vm.findClass E = some ce.cls → vx_W p l e R s m args below meth c H1 locs1 (cells + mc) (slots + ms) Q (F0 m pc ls rest) q9)
    (kk : ∀ (r : Int32) (u : S) (t : State) (H1 : Heap) (locs1 : List Loc), t.heap = H1 → s.vm.Alike t.vm → post r u → B u t → H.size ≤ H1.size → (∀ q : Nat, q < H.size → ¬ A1 q → H1[q]? = H[q]?) → va_S A0 H0 H1 locs1 → W p l e R s m args below meth c H1 locs1 (cells + mc) (slots + ms) Q (F0 m (pc + 3) ls (.int r :: rest))) : W p l e R s m args below meth c H locs cells slots Q (F0 m pc ls st0) := by
  intro T hT X
  rcases hr T hT X with ⟨v, st₀, t, T', L, h0, X', hL, e1, e2, ⟨⟨r, u, hv, hp, hb⟩, hF⟩, st⟩ | ⟨q, st₀, t, T', L, E, ce, h0, X', hL, e1, e2, ⟨u, hp, hb, hF⟩, hce, hcv, hcl, st⟩
  · cases hv
    obtain ⟨k1, k2, k3⟩ := vx_keep h0 e1 hS hA hf hL hF
    obtain ⟨t2, a1, b1⟩ := kk r u t T'.heap (locs ++ L) e1.symm (by rw [← e2]; exact X'.warmed.alike) hp hb k1 k2 k3 T' rfl X'
    exact ⟨t2, st t2 a1, b1⟩
  · obtain ⟨k1, k2, k3⟩ := vx_keep h0 e1 hS hAX hf hL hF
    obtain ⟨t2, a1, b1⟩ := kx E ce q u t T'.heap (locs ++ L) e1.symm (by rw [← e2]; exact X'.warmed.alike) hp hb k1 k2 k3 (by rw [e1]; exact hce) hcv hcl T' rfl X'
    exact ⟨t2, st.trans a1, b1⟩
theorem vx_calll {S SX : Type} {post : Int64 → S → Prop} {px : SX → Prop} {B : S → State → Prop} {BX : String → SX → State → Prop} {AX : Nat → Prop} (hr : vx_Run p l e R s m args below meth c H locs cells slots mc ms (F0 m pc ls st0) rest (va_Ql post B A1 a) (vx_X px BX AX) free) (hS : va_S A0 H0 H locs) (hA : ∀ q, q < H.size → A1 q → A0 q) (hf : ∀ q, free q → A0 q) (hAX : ∀ q, q < H.size → AX q → A0 q)
    (kx : ∀ (E : String) (ce : Cell) (q9 : Addr) (u : SX) (t : State) (H1 : Heap) (locs1 : List Loc), t.heap = H1 → s.vm.Alike t.vm → px u → BX E u t → H.size ≤ H1.size → (∀ q : Nat, q < H.size → ¬ AX q → H1[q]? = H[q]?) → va_S A0 H0 H1 locs1 → H1[q9]? = some ce → ce.vm = .none → s.vm.findClass E = some ce.cls → vx_W p l e R s m args below meth c H1 locs1 (cells + mc) (slots + ms) Q (F0 m pc ls rest) q9)
    (kk : ∀ (r : Int64) (u : S) (t : State) (H1 : Heap) (locs1 : List Loc), t.heap = H1 → s.vm.Alike t.vm → post r u → B u t → H.size ≤ H1.size → (∀ q : Nat, q < H.size → ¬ A1 q → H1[q]? = H[q]?) → va_S A0 H0 H1 locs1 → W p l e R s m args below meth c H1 locs1 (cells + mc) (slots + ms) Q (F0 m (pc + 3) ls (.long r :: rest))) : W p l e R s m args below meth c H locs cells slots Q (F0 m pc ls st0) := by
  intro T hT X
  rcases hr T hT X with ⟨v, st₀, t, T', L, h0, X', hL, e1, e2, ⟨⟨r, u, hv, hp, hb⟩, hF⟩, st⟩ | ⟨q, st₀, t, T', L, E, ce, h0, X', hL, e1, e2, ⟨u, hp, hb, hF⟩, hce, hcv, hcl, st⟩
  · cases hv
    obtain ⟨k1, k2, k3⟩ := vx_keep h0 e1 hS hA hf hL hF
    obtain ⟨t2, a1, b1⟩ := kk r u t T'.heap (locs ++ L) e1.symm (by rw [← e2]; exact X'.warmed.alike) hp hb k1 k2 k3 T' rfl X'
    exact ⟨t2, st t2 a1, b1⟩
  · obtain ⟨k1, k2, k3⟩ := vx_keep h0 e1 hS hAX hf hL hF
    obtain ⟨t2, a1, b1⟩ := kx E ce q u t T'.heap (locs ++ L) e1.symm (by rw [← e2]; exact X'.warmed.alike) hp hb k1 k2 k3 (by rw [e1]; exact hce) hcv hcl T' rfl X'
    exact ⟨t2, st.trans a1, b1⟩
theorem vx_callf {S SX : Type} {post : UInt32 → S → Prop} {px : SX → Prop} {B : S → State → Prop} {BX : String → SX → State → Prop} {AX : Nat → Prop} (hr : vx_Run p l e R s m args below meth c H locs cells slots mc ms (F0 m pc ls st0) rest (va_Qf post B A1 a) (vx_X px BX AX) free) (hS : va_S A0 H0 H locs) (hA : ∀ q, q < H.size → A1 q → A0 q) (hf : ∀ q, free q → A0 q) (hAX : ∀ q, q < H.size → AX q → A0 q)
    (kx : ∀ (E : String) (ce : Cell) (q9 : Addr) (u : SX) (t : State) (H1 : Heap) (locs1 : List Loc), t.heap = H1 → s.vm.Alike t.vm → px u → BX E u t → H.size ≤ H1.size → (∀ q : Nat, q < H.size → ¬ AX q → H1[q]? = H[q]?) → va_S A0 H0 H1 locs1 → H1[q9]? = some ce → ce.vm = .none → s.vm.findClass E = some ce.cls → vx_W p l e R s m args below meth c H1 locs1 (cells + mc) (slots + ms) Q (F0 m pc ls rest) q9)
    (kk : ∀ (r : UInt32) (u : S) (t : State) (H1 : Heap) (locs1 : List Loc), t.heap = H1 → s.vm.Alike t.vm → post r u → B u t → H.size ≤ H1.size → (∀ q : Nat, q < H.size → ¬ A1 q → H1[q]? = H[q]?) → va_S A0 H0 H1 locs1 → W p l e R s m args below meth c H1 locs1 (cells + mc) (slots + ms) Q (F0 m (pc + 3) ls (.float r :: rest))) : W p l e R s m args below meth c H locs cells slots Q (F0 m pc ls st0) := by
  intro T hT X
  rcases hr T hT X with ⟨v, st₀, t, T', L, h0, X', hL, e1, e2, ⟨⟨r, u, hv, hp, hb⟩, hF⟩, st⟩ | ⟨q, st₀, t, T', L, E, ce, h0, X', hL, e1, e2, ⟨u, hp, hb, hF⟩, hce, hcv, hcl, st⟩
  · cases hv
    obtain ⟨k1, k2, k3⟩ := vx_keep h0 e1 hS hA hf hL hF
    obtain ⟨t2, a1, b1⟩ := kk r u t T'.heap (locs ++ L) e1.symm (by rw [← e2]; exact X'.warmed.alike) hp hb k1 k2 k3 T' rfl X'
    exact ⟨t2, st t2 a1, b1⟩
  · obtain ⟨k1, k2, k3⟩ := vx_keep h0 e1 hS hAX hf hL hF
    obtain ⟨t2, a1, b1⟩ := kx E ce q u t T'.heap (locs ++ L) e1.symm (by rw [← e2]; exact X'.warmed.alike) hp hb k1 k2 k3 (by rw [e1]; exact hce) hcv hcl T' rfl X'
    exact ⟨t2, st.trans a1, b1⟩
theorem vx_calld {S SX : Type} {post : UInt64 → S → Prop} {px : SX → Prop} {B : S → State → Prop} {BX : String → SX → State → Prop} {AX : Nat → Prop} (hr : vx_Run p l e R s m args below meth c H locs cells slots mc ms (F0 m pc ls st0) rest (va_Qd post B A1 a) (vx_X px BX AX) free) (hS : va_S A0 H0 H locs) (hA : ∀ q, q < H.size → A1 q → A0 q) (hf : ∀ q, free q → A0 q) (hAX : ∀ q, q < H.size → AX q → A0 q)
    (kx : ∀ (E : String) (ce : Cell) (q9 : Addr) (u : SX) (t : State) (H1 : Heap) (locs1 : List Loc), t.heap = H1 → s.vm.Alike t.vm → px u → BX E u t → H.size ≤ H1.size → (∀ q : Nat, q < H.size → ¬ AX q → H1[q]? = H[q]?) → va_S A0 H0 H1 locs1 → H1[q9]? = some ce → ce.vm = .none → s.vm.findClass E = some ce.cls → vx_W p l e R s m args below meth c H1 locs1 (cells + mc) (slots + ms) Q (F0 m pc ls rest) q9)
    (kk : ∀ (r : UInt64) (u : S) (t : State) (H1 : Heap) (locs1 : List Loc), t.heap = H1 → s.vm.Alike t.vm → post r u → B u t → H.size ≤ H1.size → (∀ q : Nat, q < H.size → ¬ A1 q → H1[q]? = H[q]?) → va_S A0 H0 H1 locs1 → W p l e R s m args below meth c H1 locs1 (cells + mc) (slots + ms) Q (F0 m (pc + 3) ls (.double r :: rest))) : W p l e R s m args below meth c H locs cells slots Q (F0 m pc ls st0) := by
  intro T hT X
  rcases hr T hT X with ⟨v, st₀, t, T', L, h0, X', hL, e1, e2, ⟨⟨r, u, hv, hp, hb⟩, hF⟩, st⟩ | ⟨q, st₀, t, T', L, E, ce, h0, X', hL, e1, e2, ⟨u, hp, hb, hF⟩, hce, hcv, hcl, st⟩
  · cases hv
    obtain ⟨k1, k2, k3⟩ := vx_keep h0 e1 hS hA hf hL hF
    obtain ⟨t2, a1, b1⟩ := kk r u t T'.heap (locs ++ L) e1.symm (by rw [← e2]; exact X'.warmed.alike) hp hb k1 k2 k3 T' rfl X'
    exact ⟨t2, st t2 a1, b1⟩
  · obtain ⟨k1, k2, k3⟩ := vx_keep h0 e1 hS hAX hf hL hF
    obtain ⟨t2, a1, b1⟩ := kx E ce q u t T'.heap (locs ++ L) e1.symm (by rw [← e2]; exact X'.warmed.alike) hp hb k1 k2 k3 (by rw [e1]; exact hce) hcv hcl T' rfl X'
    exact ⟨t2, st.trans a1, b1⟩
theorem vx_callv {S SX : Type} {post : S → Prop} {px : SX → Prop} {B : S → State → Prop} {BX : String → SX → State → Prop} {AX : Nat → Prop} (hr : vx_Run p l e R s m args below meth c H locs cells slots mc ms (F0 m pc ls st0) rest (va_Qv post B A1 a) (vx_X px BX AX) free) (hS : va_S A0 H0 H locs) (hA : ∀ q, q < H.size → A1 q → A0 q) (hf : ∀ q, free q → A0 q) (hAX : ∀ q, q < H.size → AX q → A0 q)
    (kx : ∀ (E : String) (ce : Cell) (q9 : Addr) (u : SX) (t : State) (H1 : Heap) (locs1 : List Loc), t.heap = H1 → s.vm.Alike t.vm → px u → BX E u t → H.size ≤ H1.size → (∀ q : Nat, q < H.size → ¬ AX q → H1[q]? = H[q]?) → va_S A0 H0 H1 locs1 → H1[q9]? = some ce → ce.vm = .none → s.vm.findClass E = some ce.cls → vx_W p l e R s m args below meth c H1 locs1 (cells + mc) (slots + ms) Q (F0 m pc ls rest) q9)
    (kk : ∀ (u : S) (t : State) (H1 : Heap) (locs1 : List Loc), t.heap = H1 → s.vm.Alike t.vm → post u → B u t → H.size ≤ H1.size → (∀ q : Nat, q < H.size → ¬ A1 q → H1[q]? = H[q]?) → va_S A0 H0 H1 locs1 → W p l e R s m args below meth c H1 locs1 (cells + mc) (slots + ms) Q (F0 m (pc + 3) ls (rest))) : W p l e R s m args below meth c H locs cells slots Q (F0 m pc ls st0) := by
  intro T hT X
  rcases hr T hT X with ⟨v, st₀, t, T', L, h0, X', hL, e1, e2, ⟨⟨u, hv, hp, hb⟩, hF⟩, st⟩ | ⟨q, st₀, t, T', L, E, ce, h0, X', hL, e1, e2, ⟨u, hp, hb, hF⟩, hce, hcv, hcl, st⟩
  · cases hv
    obtain ⟨k1, k2, k3⟩ := vx_keep h0 e1 hS hA hf hL hF
    obtain ⟨t2, a1, b1⟩ := kk u t T'.heap (locs ++ L) e1.symm (by rw [← e2]; exact X'.warmed.alike) hp hb k1 k2 k3 T' rfl X'
    exact ⟨t2, st t2 a1, b1⟩
  · obtain ⟨k1, k2, k3⟩ := vx_keep h0 e1 hS hAX hf hL hF
    obtain ⟨t2, a1, b1⟩ := kx E ce q u t T'.heap (locs ++ L) e1.symm (by rw [← e2]; exact X'.warmed.alike) hp hb k1 k2 k3 (by rw [e1]; exact hce) hcv hcl T' rfl X'
    exact ⟨t2, st.trans a1, b1⟩
/-- caught by the row x of this method's table; the rows ahead don't take it -/
theorem vx_catch {own name : String} {E : String} {ce : Cell} {q : Addr} (hown : s.vm.findClass own = some m.cls) (pre : List ExceptionTableEntry) (x : ExceptionTableEntry) (suf : List ExceptionTableEntry) (hsplit : c.exceptionTable.toList = pre ++ x :: suf)
    (hpass : ∀ z ∈ pre, covers z pc = false ∨ (z.catchType ≠ 0 ∧ ∃ nm : String, (Cond.classLink own z.catchType nm).before args s = true ∧ va_Nc E nm s)) (hx : covers x pc = true) (h0 : x.catchType ≠ 0)
    (hlink : (Cond.classLink own x.catchType name).before args s = true) (hcast : (Cond.castable E name).before args s = true) (hcell : H[q]? = some ce) (hv : ce.vm = .none) (hcl : s.vm.findClass E = some ce.cls)
    (kk : W p l e R s m args below meth c H locs cells slots Q (F0 m x.handlerPc ls [.ref q])) : vx_W p l e R s m args below meth c H locs cells slots Q (F0 m pc ls rest) q := by
  intro T hT X
  have hpl : e.platform.magicAccessors = ({} : Platform).magicAccessors := by rw [X.admits.platform]
  obtain ⟨c3, c4, hc3, hc4, hasg⟩ := Cond.castable_spec hcast
  cases Option.some.inj (hc3.symm.trans hcl)
  obtain ⟨c5, hc5, hcl5⟩ := Cond.classLink_spec hown hlink e.platform hpl
  cases Option.some.inj (hc4.symm.trans hc5)
  obtain ⟨vm', X', st⟩ := X.thenCaughtThrough q (g := F0 m pc ls rest) rfl (Steps.refl _) (by rw [hT]; exact hcell) (by rw [hv]; rfl) (by obtain ⟨k9, h9, -⟩ := Vm.findClass_spec hcl; exact ⟨k9, h9⟩) pre x suf hsplit
    (fun z hz => by
      rcases hpass z hz with h | ⟨hz0, nm, hl1, hn1⟩
      · exact Or.inl h
      · obtain ⟨c6, hc6, hcl6⟩ := Cond.classLink_spec hown hl1 e.platform hpl
        obtain ⟨a8, b8, h1, h2, h3⟩ := hn1
        cases Option.some.inj (h1.symm.trans hcl)
        cases Option.some.inj (h2.symm.trans hc6)
        exact Or.inr ⟨hz0, _, hcl6, h3⟩) hx (Or.inr ⟨h0, c4, hcl5, hasg⟩)
  obtain ⟨t, a1, b1⟩ := kk (T.setVm vm') hT X'
  exact ⟨t, st.trans a1, b1⟩
end Rows
section Ends
variable {p : Program} {l : Launch} {e : Env} {R : Room} {s : State} {m : MethodId} {args : Array Value} {below : List Frame} {meth : Method} {c : Code} {H : Heap} {locs : List Loc} {cells slots : Nat} {Q : State → Prop}
variable {mc ms : Nat} {free : Addr → Prop} {A0 A1 : Nat → Prop} {H0 : Heap} {a : Array Value} {ls : Array Slot} {st0 rest : List Value}
variable {Qc : Array Value → State → Outcome → State → Prop} {XC : String → State → State → Prop}
/-- what a body that may throw owes at its end -/
def vx_MQ (below : List Frame) (Qc : Array Value → State → Outcome → State → Prop) (XC : String → State → State → Prop) (a : Array Value) (s : State) (mc ms : Nat) (free : Addr → Prop) : State → Prop := fun t =>
  ∃ o, t.status = .running ∧ Ended t below o ∧ vx_Q Qc XC mc ms free a s o t
theorem vx_ret {g : JFrame} {mc ms : Nat} (k : W p l e R s m args below meth c H locs cells slots (MQ below Qc args s mc ms free) g) : W p l e R s m args below meth c H locs cells slots (vx_MQ below Qc XC args s mc ms free) g := by
  intro T hT X
  obtain ⟨t, a1, o, b1, b2, b3, b4⟩ := k T hT X
  exact ⟨t, a1, o, b1, b2, Or.inl ⟨b3, b4⟩⟩
/-- not caught here: it goes on to the caller -/
theorem vx_widen {g : JFrame} {q : Addr} {k n : Nat} (h1 : cells ≤ k) (h2 : slots ≤ n) (kk : vx_W p l e R s m args below meth c H locs k n Q g q) : vx_W p l e R s m args below meth c H locs cells slots Q g q := fun T hT X => kk T hT (stand_widen X h1 h2)
theorem vx_out {pc : Nat} {E : String} {ce : Cell} {q : Addr} {mc ms : Nat} (hout : ∀ x ∈ c.exceptionTable.toList, covers x pc = false) (hlocks : meth.locks = false) (hcell : H[q]? = some ce) (hv : ce.vm = .none) (hcl : s.vm.findClass E = some ce.cls)
    (hx : ∀ t : State, t.heap = H → s.vm.Alike t.vm → XC E s t) (hf : ∀ z ∈ locs, free z.base) (hc : cells ≤ mc) (hs : slots ≤ ms) :
    vx_W p l e R s m args below meth c H locs cells slots (vx_MQ below Qc XC args s mc ms free) (F0 m pc ls rest) q := by
  intro T hT X
  obtain ⟨st1, hrun, hend, hW, hsm⟩ := X.leaveThrown q (g := F0 m pc ls rest) rfl rfl rfl hout hlocks
  have hcell9 : (T.setFrames (.throwing q :: below)).heap[q]? = some ce := by
    show T.heap[q]? = some ce
    rw [hT]; exact hcell
  exact ⟨_, st1, .threw q, hrun, hend, Or.inr ⟨q, rfl, E, ce, locs, hx _ hT hW.alike, hcell9, hv, hcl, hW, hsm.mono hc hs, hf⟩⟩
theorem vx_frame {U : State} {k n : Nat} (h : s.sameButNew ({ U with vm := s.vm } : State) locs k n) : s.heap.size ≤ U.heap.size ∧ ∀ q : Nat, q < s.heap.size → (∀ z ∈ locs, z.base ≠ q) → U.heap[q]? = s.heap[q]? := by
  obtain ⟨-, h2, -, -, -, h6⟩ := h
  refine ⟨h2, fun q hq hz => ?_⟩
  obtain ⟨c9, e1, e2, e3, e4⟩ := h6 q _ (Array.getElem?_eq_getElem hq)
  have hs : c9.slots = (s.heap[q]).slots := Array.ext_getElem? fun i => e4 i fun hm => hz _ hm rfl
  have h9 : c9 = s.heap[q] := by
    rw [hs] at e2
    exact e2
  have e5 : U.heap[q]? = some c9 := e1
  rw [e5, h9, Array.getElem?_eq_getElem hq]
/-- the words of a throw but the four that speak of the heap -/
def vx_no (w : Cond) : Bool := decide (w ≠ .isRef (.static Bundle.tN "UNASSIGNED_STACK" Bundle.steD)) && decide (w ≠ .isRef (.static Bundle.tN "SUPPRESSED_SENTINEL" Bundle.listD)) && decide (w ≠ .laysStatic Bundle.tN "UNASSIGNED_STACK" Bundle.steD) && decide (w ≠ .laysStatic Bundle.tN "SUPPRESSED_SENTINEL" Bundle.listD)
def vx_at0 (own : String) (ic : Nat) (X : String) (names : List String) : List Cond := (Bundle.ownAtoms0 own ic X names).filter vx_no
def vx_atS (own : String) (ic : Nat) (X : String) (names : List String) : List Cond := (Bundle.ownAtoms own ic X names).filter vx_no
/-- a word that the tables alone decide, or a good one -/
def vx_ot (w : Cond) : Bool := w.onTables || goodWord w
theorem vx_ot_at {args a' : Array Value} {s U : State} {w : Cond} (hW : s.WarmedH U.vm) (hvm : s.vm = U.vm) (hg : vx_ot w = true) (h : w.before args s = true) : w.before a' U = true := by
  simp only [vx_ot, Bool.or_eq_true] at hg
  rcases hg with hg | hg
  · exact va_tabs hg hvm h
  · exact word_at hW (good_of_word hg) h
/-- a list's words: the good ones out of the method's own list, the others by premises of their own -/
theorem vx_hat {args : Array Value} {s : State} {L B : List Cond} (h1 : ∀ w ∈ L.filter goodWord, w.before args s = true) (h2 : ∀ w ∈ L.filter (fun w => !goodWord w), w ∈ B) (h3 : ∀ w ∈ B, w.before args s = true) : ∀ w ∈ L, w.before args s = true := by
  intro w hw
  by_cases g : goodWord w = true
  · exact h1 w (List.mem_filter.mpr ⟨hw, g⟩)
  · refine h3 w (h2 w (List.mem_filter.mpr ⟨hw, ?_⟩))
    show (!goodWord w) = true
    cases hgw : goodWord w
    · rfl
    · exact absurd hgw g
theorem vx_c {args : Array Value} {s : State} {w : Cond} {B : List Cond} (h : w.before args s = true) (t : ∀ w ∈ B, w.before args s = true) : ∀ w' ∈ w :: B, w'.before args s = true := fun w' h' => (List.mem_cons.mp h').elim (fun e => by rw [e]; exact h) (t w')
theorem vx_n {args : Array Value} {s : State} : ∀ w ∈ ([] : List Cond), w.before args s = true := fun _ h => nomatch h
theorem vx_own {args : Array Value} {s : State} {L : List Cond} (h1 : ∀ w ∈ L.filter vx_no, w.before args s = true)
    (hU : (Cond.isRef (.static Bundle.tN "UNASSIGNED_STACK" Bundle.steD)).before args s = true) (hN : (Cond.isRef (.static Bundle.tN "SUPPRESSED_SENTINEL" Bundle.listD)).before args s = true)
    (lU : (Cond.laysStatic Bundle.tN "UNASSIGNED_STACK" Bundle.steD).before args s = true) (lN : (Cond.laysStatic Bundle.tN "SUPPRESSED_SENTINEL" Bundle.listD).before args s = true) : ∀ w ∈ L, w.before args s = true := by
  intro w hw
  by_cases e1 : w = .isRef (.static Bundle.tN "UNASSIGNED_STACK" Bundle.steD)
  · rw [e1]; exact hU
  · by_cases e2 : w = .isRef (.static Bundle.tN "SUPPRESSED_SENTINEL" Bundle.listD)
    · rw [e2]; exact hN
    · by_cases e3 : w = .laysStatic Bundle.tN "UNASSIGNED_STACK" Bundle.steD
      · rw [e3]; exact lU
      · by_cases e4 : w = .laysStatic Bundle.tN "SUPPRESSED_SENTINEL" Bundle.listD
        · rw [e4]; exact lN
        · exact h1 w (List.mem_filter.mpr ⟨hw, by unfold vx_no; rw [decide_eq_true e1, decide_eq_true e2, decide_eq_true e3, decide_eq_true e4]; rfl⟩)
/-- where a static field lies, its class's statics cell in H -/
def vx_L (C n d : String) (A : Nat → Prop) (U : State) (H : Heap) : Prop := ∃ (c : ClassId) (k : Class) (i : Nat) (f : Field) (a : Nat) (cell : Cell), U.vm.findClass C = some c ∧ U.fieldFound? C n d = some (c, k, i, f) ∧ f.isStatic = true ∧ k.statics = some a ∧ H[a]? = some cell ∧ cell.vm.isStatics = true ∧ cell.cls = c ∧ f.slot < cell.slots.size ∧ k.staticTypes[f.slot]? = some f.type ∧ ¬ A a
theorem vx_L.moved {C n d : String} {A : Nat → Prop} {u U : State} {H : Heap} (hvm : u.vm.Alike U.vm) (h : vx_L C n d A u H) : vx_L C n d A U H := by
  obtain ⟨c, k, i, f, a, cell, h1, h2, h3, h4, h5, h6, h7, h8, h9, h10⟩ := h
  obtain ⟨k', hi', he⟩ := State.fieldFound?_setVm hvm h2
  exact ⟨c, k', i, f, a, cell, by rw [hvm.findClass]; exact h1, hi', h3, by rw [he]; exact h4, h5, h6, h7, h8, by rw [he]; exact h9, h10⟩
theorem vx_L.kept {C n d : String} {A : Nat → Prop} {U : State} {H H1 : Heap} (h : vx_L C n d A U H) (hq : ∀ a : Nat, a < H.size → ¬ A a → H1[a]? = H[a]?) : vx_L C n d A U H1 := by
  obtain ⟨c, k, i, f, a, cell, h1, h2, h3, h4, h5, h6, h7, h8, h9, h10⟩ := h
  exact ⟨c, k, i, f, a, cell, h1, h2, h3, h4, by rw [hq a (Array.getElem?_eq_some_iff.mp h5).1 h10]; exact h5, h6, h7, h8, h9, h10⟩
theorem vx_L.narrow {C n d : String} {A B : Nat → Prop} {U : State} {H : Heap} (h : vx_L C n d A U H) (hAB : ∀ q, B q → A q) : vx_L C n d B U H := by
  obtain ⟨c, k, i, f, a, cell, h1, h2, h3, h4, h5, h6, h7, h8, h9, h10⟩ := h
  exact ⟨c, k, i, f, a, cell, h1, h2, h3, h4, h5, h6, h7, h8, h9, fun z => h10 (hAB _ z)⟩
theorem vx_L.word {C n d : String} {A : Nat → Prop} {s : State} {args : Array Value} (h : vx_L C n d A s s.heap) : (Cond.laysStatic C n d).before args s = true := by
  obtain ⟨c, k, i, f, a, cell, h1, h2, h3, h4, h5, h6, h7, h8, h9, -⟩ := h
  show (Cond.laysStatic C n d).holds args s none s [] = true
  exact Cond.laysStatic_of h1 h2 h3 h4 h5 h6 h7 h8 h9
/-- .. and what it holds: null or some reference -/
def vx_Zq (C n d : String) (A : Nat → Prop) (U : State) (H : Heap) : Prop := va_Zq C n d A U H ∧ vx_L C n d A U H
theorem vx_Zq.moved {C n d : String} {A : Nat → Prop} {u U : State} {H : Heap} (hvm : u.vm.Alike U.vm) (h : vx_Zq C n d A u H) : vx_Zq C n d A U H := ⟨va_Zq.moved hvm h.1, vx_L.moved hvm h.2⟩
theorem vx_Zq.kept {C n d : String} {A : Nat → Prop} {U : State} {H H1 : Heap} (h : vx_Zq C n d A U H) (hq : ∀ a : Nat, a < H.size → ¬ A a → H1[a]? = H[a]?) : vx_Zq C n d A U H1 := ⟨va_Zq.kept h.1 hq, vx_L.kept h.2 hq⟩
theorem vx_Zq.narrow {C n d : String} {A B : Nat → Prop} {U : State} {H : Heap} (h : vx_Zq C n d A U H) (hAB : ∀ q, B q → A q) : vx_Zq C n d B U H := ⟨va_Zq.narrow h.1 hAB, vx_L.narrow h.2 hAB⟩
theorem vx_Zqof {args : Array Value} {s : State} {C n d : String} {A : Nat → Prop} (hl : (Cond.laysStatic C n d).before args s = true) (hini : (Cond.initialized C).before args s = true) (h : (Cond.isRef (.static C n d)).before args s = true) (hA : ∀ a : Nat, a < s.heap.size → ¬ A a) : vx_Zq C n d A s s.heap := by
  refine ⟨va_Zqof hl hini h hA, ?_⟩
  obtain ⟨c, k, i, f, a, cell, h1, h2, h3, h4, h5, h6, h7, h8, h9⟩ := Cond.laysStatic_spec hl
  exact ⟨c, k, i, f, a, cell, h1, h2, h3, h4, h5, h6, h7, h8, h9, hA a (Array.getElem?_eq_some_iff.mp h5).1⟩
theorem vx_isRef {C n d : String} {v : Value} {A : Nat → Prop} {s : State} {args : Array Value} (h : va_Z C n d v A s s.heap) (hv : v.isRef = true) : (Cond.isRef (.static C n d)).before args s = true := by
  obtain ⟨cf, kf, fi, f, a, cell, h1, h2, h3, h4, h5, h6, h7, -⟩ := h
  have he : (Term.static C n d).eval args s none [] s = some v := by
    simp [Term.eval, State.fieldNamed?, h1, h2, h4, h5, h6, h7]
  simp only [Cond.before, Cond.holds, Cond.value, he]
  cases v <;> simp_all [Value.isRef]
theorem vx_isRefq {C n d : String} {A : Nat → Prop} {s : State} {args : Array Value} (h : va_Zq C n d A s s.heap) : (Cond.isRef (.static C n d)).before args s = true := by
  rcases h with h | ⟨t, h⟩
  · exact vx_isRef h rfl
  · exact vx_isRef h rfl
/-- the same frame, seen from here: as if the method were called anew in this heap -/
theorem vx_rebase {T : State} (X : Stand p l e R s m args below meth c T locs cells slots) {R' : Room} (hf : R'.frames ≤ R.frames) (hl : R'.locals ≤ R.locals) (hc : cells + R'.cells ≤ R.cells) (hs : slots + R'.slots ≤ R.slots) :
    Stand p l e R' ((T.setVm s.vm).setFrames (.invoking m args :: below)) m args below meth c T [] 0 0 := by
  have htop : (T.setVm s.vm).topJava?.isSome := X.here.top
  have hF : ((T.setVm s.vm).setFrames (.invoking m args :: below)).frames = .invoking m args :: below := State.frames_setFrames _ (State.cur_lt_of_top htop)
  obtain ⟨g₀, hg0⟩ := Option.isSome_iff_exists.mp htop
  obtain ⟨r, hr⟩ := State.topJava?_eq_some.mp hg0
  have hl9 : e.platform.stackLimits (T.setVm s.vm).me = e.platform.stackLimits s.me := X.limits
  have hb9 : (T.setVm s.vm).me.stackBytes = s.me.stackBytes := X.bytes
  refine ⟨X.admits, X.cas, X.clock, hF, ?_, X.hears, X.method, X.code, X.here, X.tail, X.warmed, ?_, ?_, ?_⟩
  · have h := X.room
    have hU : ((T.setVm s.vm).setFrames (.invoking m args :: below)).localsInUse = s.localsInUse := by
      rw [State.localsInUse_invoking hF (meth := meth) (c := c) X.method X.code, State.localsInUse_invoking X.frames X.method X.code]
    simp only [State.hasRoom, Bool.and_eq_true, decide_eq_true_eq] at h ⊢
    obtain ⟨⟨⟨⟨h1, h2, h3, h4, h5, h6⟩, h7⟩, h8⟩, h9⟩ := h
    rw [X.frames, List.length_cons] at h2 h3
    have q1 := X.heapSize
    have q2 := X.used
    simp only [hF, hU, List.length_cons, State.stackLimits_setFrames, State.stackBytes_setFrames, hl9, hb9]
    refine ⟨⟨⟨⟨by omega, by omega, by omega, by omega, by omega, h6⟩, ?_⟩, ?_⟩, X.book⟩
    · show T.heap.size + R'.cells ≤ e.platform.maxCells
      omega
    · show T.slotsUsed + R'.slots ≤ e.platform.maxSlots
      omega
  · rw [State.stackLimits_setFrames]; rfl
  · rw [State.stackBytes_setFrames]; rfl
  · refine ⟨?_, Nat.le_refl _, Nat.le_refl _, ?_, ?_, fun a c9 h9 => ⟨c9, h9, rfl, rfl, fun _ _ => rfl⟩⟩
    · obtain ⟨t, ht, -⟩ := State.frames_cons hr
      show T.setVm s.vm = { ((T.setVm s.vm).setFrames (.invoking m args :: below)).setFrames (T.setVm s.vm).frames with heap := T.heap, slotsUsed := T.slotsUsed }
      rw [State.setFrames_setFrames, State.setFrames_self ht]
      rfl
    · show T.slotsUsed = T.slotsUsed + ((T.heap.toList.drop T.heap.size).map (·.slots.size)).sum
      rw [List.drop_eq_nil_of_le (Nat.le_of_eq Array.length_toList)]
      rfl
    · show ((T.heap.toList.drop T.heap.size).map (·.slots.size)).sum ≤ 0
      rw [List.drop_eq_nil_of_le (Nat.le_of_eq Array.length_toList)]
      exact Nat.le_refl _
/-- 'throw new E()': new; dup; invokespecial; athrow -/
theorem vx_throw0 {cc : ByteArray} {pc : Nat} (hexec : p.tables.exec = Jvm.exec) (hb : c.code = cc) (hl : l.stackTraces = false) {own cls : String} {names : List String} {ik ic mc ms : Nat} {A : Nat → Prop}
    (hown : s.vm.findClass own = some m.cls) (hcls : Bundle.fit cls = true) (hnames : ∀ n ∈ names, Bundle.fit n = true)
    (hk : (Cond.classLink own ik cls).before args s = true) (hini : (Cond.initialized cls).before args s = true) (hat : ∀ w ∈ vx_at0 own ic cls names, w.before args s = true)
    (hgood : ∀ w ∈ Cond.classLink own ik cls :: Cond.initialized cls :: vx_at0 own ic cls names, vx_ot w = true)
    (hU : vx_Zq Bundle.tN "UNASSIGNED_STACK" Bundle.steD A s s.heap) (hN : vx_Zq Bundle.tN "SUPPRESSED_SENTINEL" Bundle.listD A s s.heap) (hS : va_S A s.heap H locs) (hsize : ls.size = c.maxLocals)
    (d0 : decode cc pc = .ok (.new ik, 3)) (d3 : decode cc (pc + 3) = .ok (.dup, 1)) (d4 : decode cc (pc + 4) = .ok (.invokespecial ic, 3)) (d7 : decode cc (pc + 7) = .ok (.athrow, 1))
    (hout : ∀ x ∈ c.exceptionTable.toList, covers x (pc + 7) = false)
    (hRframes : names.length + 3 < R.frames) (hRlocals : (rest.map fun v => v.category).sum + (13 * (names.length + 1) + 42) ≤ R.locals) (hRcells : cells + 1 ≤ R.cells) (hRslots : slots + 6 ≤ R.slots) (hlocks : meth.locks = false)
    (hx : ∀ t : State, s.vm.Alike t.vm → H.size ≤ t.heap.size → (∀ q : Nat, q < H.size → t.heap[q]? = H[q]?) → XC cls s t)
    (hf : ∀ z ∈ locs, free z.base) (hc : cells + 1 ≤ mc) (hs : slots + 6 ≤ ms) :
    W p l e R s m args below meth c H locs cells slots (vx_MQ below Qc XC args s mc ms free) (F0 m pc ls rest) := by
  intro T hT X
  have htr : e.platform.stackTraces = false := (show e.platform.stackTraces = l.stackTraces by rw [X.admits.platform]).trans hl
  have Y := vx_rebase X (R' := { frames := R.frames, locals := R.locals, cells := 1, slots := 6 }) (Nat.le_refl _) (Nat.le_refl _) hRcells hRslots
  obtain ⟨s', hA⟩ : ∃ z, z = (T.setVm s.vm).setFrames (.invoking m args :: below) := ⟨_, rfl⟩
  rw [← hA] at Y
  have hvm : s'.vm = s.vm := by rw [hA]; rfl
  have hhp : s'.heap = H := by rw [hA]; exact hT
  have hW0 : s.WarmedH s'.vm := by rw [hvm]; exact State.WarmedH.refl s
  have hat' : ∀ w ∈ vx_at0 own ic cls names, w.before args s' = true := fun w hw => vx_ot_at hW0 hvm.symm (hgood w (List.mem_cons_of_mem _ (List.mem_cons_of_mem _ hw))) (hat w hw)
  have hk' : (Cond.classLink own ik cls).before args s' = true := vx_ot_at hW0 hvm.symm (hgood _ List.mem_cons_self) hk
  have hini' : (Cond.initialized cls).before args s' = true := vx_ot_at hW0 hvm.symm (hgood _ (List.mem_cons_of_mem _ List.mem_cons_self)) hini
  have hU' : vx_Zq Bundle.tN "UNASSIGNED_STACK" Bundle.steD A s' s'.heap := by rw [hhp]; exact vx_Zq.moved hW0.alike (hU.kept hS.2.1)
  have hN' : vx_Zq Bundle.tN "SUPPRESSED_SENTINEL" Bundle.listD A s' s'.heap := by rw [hhp]; exact vx_Zq.moved hW0.alike (hN.kept hS.2.1)
  have h : ∀ w ∈ Bundle.ownAtoms0 own ic cls names, w.before args s' = true := vx_own hat' (vx_isRefq hU'.1) (vx_isRefq hN'.1) hU'.2.word hN'.2.word
  have hown' : s'.vm.findClass own = some m.cls := by rw [hvm]; exact hown
  have hins : (Cond.instantiable cls 6).before args s' = true := h _ (by simp [Bundle.ownAtoms0])
  obtain ⟨vm₁, cX, kX, hfX, hkX, -, -, X₁, st1⟩ := Y.newCold hexec (own := own) (C := cls) (index := ik) (n := 6) hown' hk' hins hini'
    (g := F0 m pc ls rest) rfl (by rw [hb]; exact d0) (Nat.le_refl _) (Nat.le_refl _)
  generalize hT1 : (T.setVm vm₁).pushCell { cls := cX, slots := kX.instanceTypes.map defaultValue, vm := .none } = T1 at X₁ st1
  have hcat : (Value.ref T.heap.size).category = 1 := rfl
  have hcellA : T1.heap[T.heap.size]? = some (freshCell cX kX) := by rw [← hT1]; exact State.heap_pushCell_size _ _
  have d3' : decode c.code (pc + 3) = .ok (.dup, 1) := by rw [hb]; exact d3
  obtain ⟨U, hsteps, hrun, hend, hW, hsame, ce, hce, hO⟩ := X₁.ctorThrow0 hexec htr (own := own) (cls := cls) (names := names) (ic := ic) hown' hcls hnames h (fun x hx => nomatch hx) hfX hkX hcellA (by rw [hhp, hT]; exact Nat.le_refl _)
    (g := { method := m, pc := pc + 4, locals := ls, stack := .ref T.heap.size :: .ref T.heap.size :: rest, locked := none }) rfl hsize rfl rfl (rest := rest) rfl
    (by rw [hb]; exact d4) (by rw [hb]; exact d7) hout hRframes (by simp only [List.map_cons, List.sum_cons, hcat]; omega) hlocks
  obtain ⟨f1, f2⟩ := vx_frame hsame
  rw [hhp] at f1 f2
  have hWs : s.WarmedH U.vm := State.WarmedH.trans hW0 hW
  have hcl : s.vm.findClass cls = some ce.cls := by
    have h9 := hO.cls
    rw [hvm] at h9
    exact h9
  have hall : s.sameButNew ({ U with vm := s.vm } : State) locs mc ms := by
    subst hA
    obtain ⟨e1, e2⟩ := hsame
    rw [State.setFrames_setFrames] at e1
    have h2 : (T.setVm s.vm).sameButNew ({ U with vm := s.vm } : State) [] (0 + 1) (0 + 6) := ⟨e1, e2⟩
    have h3 := X.same.trans h2
    rw [List.append_nil] at h3
    exact h3.mono hc hs
  refine ⟨U, ?_, .threw T.heap.size, hrun, hend, Or.inr ⟨T.heap.size, rfl, cls, ce, locs, hx U hWs.alike f1 (fun q hq => f2 q hq (fun z hz => nomatch hz)), hce, hO.vm, hcl, hWs, hall, hf⟩⟩
  refine st1 _ ?_
  show Steps p.tables e below (T1.setTop { method := m, pc := pc + 3, locals := ls, stack := .ref T.heap.size :: rest, locked := none }) _
  jvm_step X₁.here [X₁.here.top, hexec, d3', Value.category]
  exact hsteps
/-- 'throw new E("text")': new; dup; ldc; invokespecial; athrow -/
theorem vx_throwS {cc : ByteArray} {pc : Nat} (hexec : p.tables.exec = Jvm.exec) (hb : c.code = cc) (hl : l.stackTraces = false) {own cls text : String} {names : List String} {ik is ic mc ms sa : Nat} {A : Nat → Prop}
    (hown : s.vm.findClass own = some m.cls) (hcls : Bundle.fit cls = true) (hnames : ∀ n ∈ names, Bundle.fit n = true)
    (hk : (Cond.classLink own ik cls).before args s = true) (hini : (Cond.initialized cls).before args s = true) (hstr : vk_R own is text sa s) (hat : ∀ w ∈ vx_atS own ic cls names, w.before args s = true)
    (hgood : ∀ w ∈ Cond.classLink own ik cls :: Cond.initialized cls :: vx_atS own ic cls names, vx_ot w = true)
    (hU : vx_Zq Bundle.tN "UNASSIGNED_STACK" Bundle.steD A s s.heap) (hN : vx_Zq Bundle.tN "SUPPRESSED_SENTINEL" Bundle.listD A s s.heap) (hS : va_S A s.heap H locs) (hsize : ls.size = c.maxLocals)
    (d0 : decode cc pc = .ok (.new ik, 3)) (d3 : decode cc (pc + 3) = .ok (.dup, 1)) (d4 : decode cc (pc + 4) = .ok (.ldc is, 2)) (d6 : decode cc (pc + 6) = .ok (.invokespecial ic, 3)) (d9 : decode cc (pc + 9) = .ok (.athrow, 1))
    (hout : ∀ x ∈ c.exceptionTable.toList, covers x (pc + 9) = false)
    (hRframes : names.length + 3 < R.frames) (hRlocals : (rest.map fun v => v.category).sum + (13 * (names.length + 1) + 43) ≤ R.locals) (hRcells : cells + 1 ≤ R.cells) (hRslots : slots + 6 ≤ R.slots) (hlocks : meth.locks = false)
    (hx : ∀ t : State, s.vm.Alike t.vm → H.size ≤ t.heap.size → (∀ q : Nat, q < H.size → t.heap[q]? = H[q]?) → XC cls s t)
    (hf : ∀ z ∈ locs, free z.base) (hc : cells + 1 ≤ mc) (hs : slots + 6 ≤ ms) :
    W p l e R s m args below meth c H locs cells slots (vx_MQ below Qc XC args s mc ms free) (F0 m pc ls rest) := by
  intro T hT X
  have htr : e.platform.stackTraces = false := (show e.platform.stackTraces = l.stackTraces by rw [X.admits.platform]).trans hl
  have Y := vx_rebase X (R' := { frames := R.frames, locals := R.locals, cells := 1, slots := 6 }) (Nat.le_refl _) (Nat.le_refl _) hRcells hRslots
  obtain ⟨s', hA⟩ : ∃ z, z = (T.setVm s.vm).setFrames (.invoking m args :: below) := ⟨_, rfl⟩
  rw [← hA] at Y
  have hvm : s'.vm = s.vm := by rw [hA]; rfl
  have hhp : s'.heap = H := by rw [hA]; exact hT
  have hW0 : s.WarmedH s'.vm := by rw [hvm]; exact State.WarmedH.refl s
  have hat' : ∀ w ∈ vx_atS own ic cls names, w.before args s' = true := fun w hw => vx_ot_at hW0 hvm.symm (hgood w (List.mem_cons_of_mem _ (List.mem_cons_of_mem _ hw))) (hat w hw)
  have hk' : (Cond.classLink own ik cls).before args s' = true := vx_ot_at hW0 hvm.symm (hgood _ List.mem_cons_self) hk
  have hini' : (Cond.initialized cls).before args s' = true := vx_ot_at hW0 hvm.symm (hgood _ (List.mem_cons_of_mem _ List.mem_cons_self)) hini
  have hU' : vx_Zq Bundle.tN "UNASSIGNED_STACK" Bundle.steD A s' s'.heap := by rw [hhp]; exact vx_Zq.moved hW0.alike (hU.kept hS.2.1)
  have hN' : vx_Zq Bundle.tN "SUPPRESSED_SENTINEL" Bundle.listD A s' s'.heap := by rw [hhp]; exact vx_Zq.moved hW0.alike (hN.kept hS.2.1)
  have h : ∀ w ∈ Bundle.ownAtoms own ic cls names, w.before args s' = true := vx_own hat' (vx_isRefq hU'.1) (vx_isRefq hN'.1) hU'.2.word hN'.2.word
  have hown' : s'.vm.findClass own = some m.cls := by rw [hvm]; exact hown
  have hins : (Cond.instantiable cls 6).before args s' = true := h _ (by simp [Bundle.ownAtoms])
  obtain ⟨vm₁, cX, kX, hfX, hkX, -, -, X₁, st1⟩ := Y.newCold hexec (own := own) (C := cls) (index := ik) (n := 6) hown' hk' hins hini'
    (g := F0 m pc ls rest) rfl (by rw [hb]; exact d0) (Nat.le_refl _) (Nat.le_refl _)
  generalize hT1 : (T.setVm vm₁).pushCell { cls := cX, slots := kX.instanceTypes.map defaultValue, vm := .none } = T1 at X₁ st1
  have hcat : (Value.ref T.heap.size).category = 1 := rfl
  have hcellA : T1.heap[T.heap.size]? = some (freshCell cX kX) := by rw [← hT1]; exact State.heap_pushCell_size _ _
  have d3' : decode c.code (pc + 3) = .ok (.dup, 1) := by rw [hb]; exact d3
  have d4' : decode c.code (pc + 4) = .ok (.ldc is, 2) := by rw [hb]; exact d4
  have hstr' : vk_R own is text sa s' := vk_R.warm hW0 hstr
  obtain ⟨U, hsteps, hrun, hend, hW, hsame, ce, hce, hO⟩ := X₁.ctorThrowS hexec htr (own := own) (cls := cls) (names := names) (ic := ic) hown' hcls hnames h (fun x hx => nomatch hx) hfX hkX hcellA (by rw [hhp, hT]; exact Nat.le_refl _) (msg := .ref sa) rfl
    (g := { method := m, pc := pc + 6, locals := ls, stack := .ref sa :: .ref T.heap.size :: .ref T.heap.size :: rest, locked := none }) rfl hsize rfl rfl (rest := rest) rfl
    (by rw [hb]; exact d6) (by rw [hb]; exact d9) hout hRframes (by simp only [List.map_cons, List.sum_cons, hcat]; omega) hlocks
  obtain ⟨f1, f2⟩ := vx_frame hsame
  rw [hhp] at f1 f2
  have hWs : s.WarmedH U.vm := State.WarmedH.trans hW0 hW
  have hcl : s.vm.findClass cls = some ce.cls := by
    have h9 := hO.cls
    rw [hvm] at h9
    exact h9
  have hall : s.sameButNew ({ U with vm := s.vm } : State) locs mc ms := by
    subst hA
    obtain ⟨e1, e2⟩ := hsame
    rw [State.setFrames_setFrames] at e1
    have h2 : (T.setVm s.vm).sameButNew ({ U with vm := s.vm } : State) [] (0 + 1) (0 + 6) := ⟨e1, e2⟩
    have h3 := X.same.trans h2
    rw [List.append_nil] at h3
    exact h3.mono hc hs
  refine ⟨U, ?_, .threw T.heap.size, hrun, hend, Or.inr ⟨T.heap.size, rfl, cls, ce, locs, hx U hWs.alike f1 (fun q hq => f2 q hq (fun z hz => nomatch hz)), hce, hO.vm, hcl, hWs, hall, hf⟩⟩
  refine st1 _ ?_
  show Steps p.tables e below (T1.setTop { method := m, pc := pc + 3, locals := ls, stack := .ref T.heap.size :: rest, locked := none }) _
  jvm_step X₁.here [X₁.here.top, hexec, d3', Value.category]
  exact X₁.ldcString hexec (own := own) (text := text) (index := is) (a := sa) hown' hstr'.1 hstr'.2
    (g := { method := m, pc := pc + 4, locals := ls, stack := .ref T.heap.size :: .ref T.heap.size :: rest, locked := none }) rfl d4' _ hsteps
/-- 'throw new E("text")', the text by a wide index -/
theorem vx_throwSW {cc : ByteArray} {pc : Nat} (hexec : p.tables.exec = Jvm.exec) (hb : c.code = cc) (hl : l.stackTraces = false) {own cls text : String} {names : List String} {ik is ic mc ms sa : Nat} {A : Nat → Prop}
    (hown : s.vm.findClass own = some m.cls) (hcls : Bundle.fit cls = true) (hnames : ∀ n ∈ names, Bundle.fit n = true)
    (hk : (Cond.classLink own ik cls).before args s = true) (hini : (Cond.initialized cls).before args s = true) (hstr : vk_R own is text sa s) (hat : ∀ w ∈ vx_atS own ic cls names, w.before args s = true)
    (hgood : ∀ w ∈ Cond.classLink own ik cls :: Cond.initialized cls :: vx_atS own ic cls names, vx_ot w = true)
    (hU : vx_Zq Bundle.tN "UNASSIGNED_STACK" Bundle.steD A s s.heap) (hN : vx_Zq Bundle.tN "SUPPRESSED_SENTINEL" Bundle.listD A s s.heap) (hS : va_S A s.heap H locs) (hsize : ls.size = c.maxLocals)
    (d0 : decode cc pc = .ok (.new ik, 3)) (d3 : decode cc (pc + 3) = .ok (.dup, 1)) (d4 : decode cc (pc + 4) = .ok (.ldc_w is, 3)) (d7 : decode cc (pc + 7) = .ok (.invokespecial ic, 3)) (d10 : decode cc (pc + 10) = .ok (.athrow, 1))
    (hout : ∀ x ∈ c.exceptionTable.toList, covers x (pc + 10) = false)
    (hRframes : names.length + 3 < R.frames) (hRlocals : (rest.map fun v => v.category).sum + (13 * (names.length + 1) + 43) ≤ R.locals) (hRcells : cells + 1 ≤ R.cells) (hRslots : slots + 6 ≤ R.slots) (hlocks : meth.locks = false)
    (hx : ∀ t : State, s.vm.Alike t.vm → H.size ≤ t.heap.size → (∀ q : Nat, q < H.size → t.heap[q]? = H[q]?) → XC cls s t)
    (hf : ∀ z ∈ locs, free z.base) (hc : cells + 1 ≤ mc) (hs : slots + 6 ≤ ms) :
    W p l e R s m args below meth c H locs cells slots (vx_MQ below Qc XC args s mc ms free) (F0 m pc ls rest) := by
  intro T hT X
  have htr : e.platform.stackTraces = false := (show e.platform.stackTraces = l.stackTraces by rw [X.admits.platform]).trans hl
  have Y := vx_rebase X (R' := { frames := R.frames, locals := R.locals, cells := 1, slots := 6 }) (Nat.le_refl _) (Nat.le_refl _) hRcells hRslots
  obtain ⟨s', hA⟩ : ∃ z, z = (T.setVm s.vm).setFrames (.invoking m args :: below) := ⟨_, rfl⟩
  rw [← hA] at Y
  have hvm : s'.vm = s.vm := by rw [hA]; rfl
  have hhp : s'.heap = H := by rw [hA]; exact hT
  have hW0 : s.WarmedH s'.vm := by rw [hvm]; exact State.WarmedH.refl s
  have hat' : ∀ w ∈ vx_atS own ic cls names, w.before args s' = true := fun w hw => vx_ot_at hW0 hvm.symm (hgood w (List.mem_cons_of_mem _ (List.mem_cons_of_mem _ hw))) (hat w hw)
  have hk' : (Cond.classLink own ik cls).before args s' = true := vx_ot_at hW0 hvm.symm (hgood _ List.mem_cons_self) hk
  have hini' : (Cond.initialized cls).before args s' = true := vx_ot_at hW0 hvm.symm (hgood _ (List.mem_cons_of_mem _ List.mem_cons_self)) hini
  have hU' : vx_Zq Bundle.tN "UNASSIGNED_STACK" Bundle.steD A s' s'.heap := by rw [hhp]; exact vx_Zq.moved hW0.alike (hU.kept hS.2.1)
  have hN' : vx_Zq Bundle.tN "SUPPRESSED_SENTINEL" Bundle.listD A s' s'.heap := by rw [hhp]; exact vx_Zq.moved hW0.alike (hN.kept hS.2.1)
  have h : ∀ w ∈ Bundle.ownAtoms own ic cls names, w.before args s' = true := vx_own hat' (vx_isRefq hU'.1) (vx_isRefq hN'.1) hU'.2.word hN'.2.word
  have hown' : s'.vm.findClass own = some m.cls := by rw [hvm]; exact hown
  have hins : (Cond.instantiable cls 6).before args s' = true := h _ (by simp [Bundle.ownAtoms])
  obtain ⟨vm₁, cX, kX, hfX, hkX, -, -, X₁, st1⟩ := Y.newCold hexec (own := own) (C := cls) (index := ik) (n := 6) hown' hk' hins hini'
    (g := F0 m pc ls rest) rfl (by rw [hb]; exact d0) (Nat.le_refl _) (Nat.le_refl _)
  generalize hT1 : (T.setVm vm₁).pushCell { cls := cX, slots := kX.instanceTypes.map defaultValue, vm := .none } = T1 at X₁ st1
  have hcat : (Value.ref T.heap.size).category = 1 := rfl
  have hcellA : T1.heap[T.heap.size]? = some (freshCell cX kX) := by rw [← hT1]; exact State.heap_pushCell_size _ _
  have d3' : decode c.code (pc + 3) = .ok (.dup, 1) := by rw [hb]; exact d3
  have d4' : decode c.code (pc + 4) = .ok (.ldc_w is, 3) := by rw [hb]; exact d4
  have hstr' : vk_R own is text sa s' := vk_R.warm hW0 hstr
  obtain ⟨U, hsteps, hrun, hend, hW, hsame, ce, hce, hO⟩ := X₁.ctorThrowS hexec htr (own := own) (cls := cls) (names := names) (ic := ic) hown' hcls hnames h (fun x hx => nomatch hx) hfX hkX hcellA (by rw [hhp, hT]; exact Nat.le_refl _) (msg := .ref sa) rfl
    (g := { method := m, pc := pc + 7, locals := ls, stack := .ref sa :: .ref T.heap.size :: .ref T.heap.size :: rest, locked := none }) rfl hsize rfl rfl (rest := rest) rfl
    (by rw [hb]; exact d7) (by rw [hb]; exact d10) hout hRframes (by simp only [List.map_cons, List.sum_cons, hcat]; omega) hlocks
  obtain ⟨f1, f2⟩ := vx_frame hsame
  rw [hhp] at f1 f2
  have hWs : s.WarmedH U.vm := State.WarmedH.trans hW0 hW
  have hcl : s.vm.findClass cls = some ce.cls := by
    have h9 := hO.cls
    rw [hvm] at h9
    exact h9
  have hall : s.sameButNew ({ U with vm := s.vm } : State) locs mc ms := by
    subst hA
    obtain ⟨e1, e2⟩ := hsame
    rw [State.setFrames_setFrames] at e1
    have h2 : (T.setVm s.vm).sameButNew ({ U with vm := s.vm } : State) [] (0 + 1) (0 + 6) := ⟨e1, e2⟩
    have h3 := X.same.trans h2
    rw [List.append_nil] at h3
    exact h3.mono hc hs
  refine ⟨U, ?_, .threw T.heap.size, hrun, hend, Or.inr ⟨T.heap.size, rfl, cls, ce, locs, hx U hWs.alike f1 (fun q hq => f2 q hq (fun z hz => nomatch hz)), hce, hO.vm, hcl, hWs, hall, hf⟩⟩
  refine st1 _ ?_
  show Steps p.tables e below (T1.setTop { method := m, pc := pc + 3, locals := ls, stack := .ref T.heap.size :: rest, locked := none }) _
  jvm_step X₁.here [X₁.here.top, hexec, d3', Value.category]
  exact X₁.ldcStringW hexec (own := own) (text := text) (index := is) (a := sa) hown' hstr'.1 hstr'.2
    (g := { method := m, pc := pc + 4, locals := ls, stack := .ref T.heap.size :: .ref T.heap.size :: rest, locked := none }) rfl d4' _ hsteps
end Ends
section Bodies
variable {l : Launch}
theorem vx_ofW {y : MethodName} {ws ws' : List Cond} {rm : Room} {Pc : Array Value → State → Prop} {Qc : Array Value → State → Outcome → State → Prop} {XC : String → State → State → Prop} {mc ms : Nat} {free : Addr → Prop} {cc : ByteArray} {maxL : Nat} {ret : Option FieldType}
    (hy : plainName y.cls = true) (hw : ws = Cond.code y cc maxL ret :: ws')
    (body : ∀ p e s m args below meth c s₁, BodyLoose p l y (headSpec ws rm) cc maxL ret e s m args below meth c s₁ → c.maxLocals = maxL → (∀ x ∈ c.exceptionTable.toList, False) → Pc args s →
      W p l e (headSpec ws rm).room s m args below meth c s.heap [] 0 0 (vx_MQ below Qc XC args s mc ms free) (entryFrame m args maxL)) : vx_Met l y ws rm Pc Qc XC mc ms free := by
  refine MetFree.of_bodyS (code := cc) (maxLocals := maxL) (ret := ret) hy ?_ ?_
  · intro args s m h hn
    obtain ⟨meth, c, h1, h2, h3, h4, h5, h6, -, -⟩ := Cond.code_spec hn (atoms_spec (ws := ws) h _ (by rw [hw]; exact List.mem_cons_self))
    exact ⟨meth, c, h1, h2, h3, h4, h5, h6⟩
  · intro p e s m args below meth c s₁ B hml hP _
    have hh0 : s₁.heap = s.heap := by rw [B.state]; rfl
    have ht : ∀ x ∈ c.exceptionTable.toList, False := by
      obtain ⟨meth9, c9, h1, h2, -, -, -, -, h7, -⟩ := Cond.code_spec B.named (atoms_spec (ws := ws) B.pre _ (by rw [hw]; exact List.mem_cons_self))
      cases Option.some.inj (h1.symm.trans B.method)
      cases Option.some.inj (h2.symm.trans (Stand.of_body B).code)
      intro x hx
      rw [Array.isEmpty_iff.mp h7] at hx
      cases hx
    obtain ⟨t, a1, o, b1, b2, b3⟩ := body p e s m args below meth c s₁ B hml ht hP s₁ hh0 (Stand.of_body B)
    exact ⟨t, o, a1, b1, b2, b3⟩
/-- the table of a body with handlers -/
theorem vx_table {p : Program} {x y : MethodName} {S : Spec} {cc bytes : ByteArray} {maxL maxL' : Nat} {ret ret' : Option FieldType} {e : Env} {s s₁ : State} {m : MethodId} {args : Array Value} {below : List Frame} {meth : Method} {c : Code} {hh : List (Nat × Nat × Nat × Nat)}
    (B : BodyLoose p l y S cc maxL ret e s m args below meth c s₁) (h : (Cond.codeWith y bytes maxL' ret' hh).before args s = true) : c.exceptionTable.toList = tableOf hh := by
  obtain ⟨m9, meth9, c9, hn9, h1, h2, -, -, h6, -⟩ := Cond.codeWith_spec h
  cases Option.some.inj (hn9.symm.trans B.named)
  cases Option.some.inj (h1.symm.trans B.method)
  cases Option.some.inj (h2.symm.trans (Stand.of_body B).code)
  rw [← h6, table_eq]
end Bodies
end VXA
/-! ===== END ===== -/
/-! ===== BEGIN a static call of a method with an exception table ===== -/
section VXS
variable {p : Program} {l : Launch} {e : Env} {R : Room} {s : State} {m : MethodId} {args : Array Value} {below : List Frame} {meth : Method} {c : Code} {T : State} {H : Heap} {locs : List Loc} {cells slots : Nat}
abbrev vx_CSW (R : Room) (s : State) (args : Array Value) (own : String) (index : Nat) (y : MethodName) (bytes : ByteArray) (maxL : Nat) (ret : Option FieldType) (hh : List (Nat × Nat × Nat × Nat)) (ws : List Cond) (rm : Room) (mc ms n : Nat) : Prop :=
  (rm.cells = mc ∧ rm.slots = ms ∧ rm.frames + 1 ≤ R.frames ∧ 8 + (maxL + 11) + rm.locals ≤ R.locals ∧ (∀ w ∈ ws, ∀ (a' : Array Value) (U : State), s.WarmedH U.vm → w.before a' U = true) ∧ Cond.codeWith y bytes maxL ret hh ∈ ws) ∧
  (Cond.codeWith y bytes maxL ret hh).before args s = true ∧ (Cond.initialized y.cls).before args s = true ∧ (y.cls ≠ "java/lang/invoke/MethodHandle" ∧ y.cls ≠ "java/lang/invoke/VarHandle") ∧
  (∀ sig, parseMethodDescriptor y.desc = some sig → n = sig.parameters.length) ∧ (Cond.methodLink own index y).before args s = true ∧ (Cond.static y).before args s = true
theorem vx_cwSW {own : String} {index maxL mc ms : Nat} {y : MethodName} {bytes : ByteArray} {ret : Option FieldType} {hh : List (Nat × Nat × Nat × Nat)} {Ts ws ws' : List Cond} {rm : Room} (n : Nat) (ht : ∀ w ∈ Ts, w.before args s = true) (hT : GoodIn Ts (va_wsS own index y ws)) (hw : ws = Cond.codeWith y bytes maxL ret hh :: ws') (hrc : rm.cells = mc) (hrs : rm.slots = ms)
    (hd : y.cls ≠ "java/lang/invoke/MethodHandle" ∧ y.cls ≠ "java/lang/invoke/VarHandle" ∧ (parseMethodDescriptor y.desc).map (fun d => d.parameters.length) = some n) (hR : rm.frames + 1 ≤ R.frames ∧ 8 + (maxL + 11) + rm.locals ≤ R.locals) :
    vx_CSW R s args own index y bytes maxL ret hh ws rm mc ms n := by
  have ok : ∀ w ∈ va_wsS own index y ws, w.before args s = true := fun w h => ht w (hT w h).1
  have hG : GoodIn Ts ws := fun w h => hT w (by unfold va_wsS; exact List.mem_append_right _ h)
  have hc : Cond.codeWith y bytes maxL ret hh ∈ ws := by rw [hw]; exact List.mem_cons_self
  refine ⟨⟨hrc, hrs, hR.1, hR.2, pay_in ht hG, hc⟩, ht _ (hG _ hc).1, ok _ (by simp [va_wsS]), ⟨hd.1, hd.2.1⟩, fun sig h => ?_, ok _ (by simp [va_wsS]), ok _ (by simp [va_wsS])⟩
  have h2 := hd.2.2
  rw [h] at h2
  exact (Option.some.inj h2).symm
theorem vx_callSW (X : Stand p l e R s m args below meth c T locs cells slots) (hexec : p.tables.exec = Jvm.exec) {own : String} {index : Nat} {y : MethodName} {bytes : ByteArray} {maxL : Nat} {ret : Option FieldType} {hh : List (Nat × Nat × Nat × Nat)}
    (hown : s.vm.findClass own = some m.cls) (hlink : (Cond.methodLink own index y).before args s = true) (hstat : (Cond.static y).before args s = true) (hinit : (Cond.initialized y.cls).before args s = true)
    (hcode : (Cond.codeWith y bytes maxL ret hh).before args s = true) (hy : y.cls ≠ "java/lang/invoke/MethodHandle" ∧ y.cls ≠ "java/lang/invoke/VarHandle")
    {W9 : Nat} {Pre : Pt → Array Value → Prop} {Post : Pt → Array Value → Option Value → Pt → Prop} (hK : Back l R p e below s args y 3 W9 Pre Post)
    {g : JFrame} (hg : g.method = m) (hsize : g.locals.size = c.maxLocals) {argsL rest : List Value} (hlen : ∀ sig, parseMethodDescriptor y.desc = some sig → argsL.length = sig.parameters.length)
    (hstack : g.stack = argsL.reverse ++ rest) (hW : 2 * g.monitorRoom + (rest.map fun v => v.category).sum ≤ W9) (hdg : decode c.code g.pc = .ok (.invokestatic index, 3))
    (hpre : ∀ vm₁, s.WarmedH vm₁ → Pre ⟨T.setVm vm₁, locs, cells, slots⟩ argsL.toArray) :
    ∃ (v : Option Value) (vm₁ : Vm) (B : Pt), s.WarmedH vm₁ ∧ Stand p l e R s m args below meth c B.U B.locs B.cells B.slots ∧ Post ⟨T.setVm vm₁, locs, cells, slots⟩ argsL.toArray v B ∧
      ∀ target, Steps p.tables e below (B.U.setTop { g with pc := g.pc + 3, stack := v.toList ++ rest }) target → Steps p.tables e below (T.setTop g) target := by
  obtain ⟨mk, methM, cM, hnamed, hmethM, -, -, -, -, -, -, hsigM⟩ := Cond.codeWith_spec hcode
  have hstatic : methM.isStatic = true := Cond.static_spec hnamed hmethM hstat
  obtain ⟨kP, hkP, -⟩ := className_of_methodNamed hnamed
  have hinitP : kP.init = .initialized := Cond.initialized_spec (findClass_of_methodNamed hnamed) hkP hinit
  obtain ⟨vm₁, X₁, hstep₁⟩ := X.invokestatic hexec hown hlink hnamed hmethM hstatic hkP hinitP hy (g := g) hg (argsL := argsL) (rest := rest) (hlen _ hsigM) hstack hdg
  obtain ⟨v, B, X', hpost, hsteps⟩ := hK m meth c ⟨T.setVm vm₁, locs, cells, slots⟩ { g with stack := rest } (.invokestatic index) mk argsL.toArray X₁ hg hsize hdg hW (X₁.named hnamed) (hpre vm₁ X₁.warmed)
  exact ⟨v, vm₁, B, X₁.warmed, X', hpost, fun target h => hstep₁ _ fun acts => by rw [doInvoke_state]; exact hsteps.trans h⟩
theorem vx_runSW {y : MethodName} {bytes cc : ByteArray} {maxL nL mc ms n index : Nat} {ret : Option FieldType} {hh : List (Nat × Nat × Nat × Nat)} {ws : List Cond} {rm : Room} {Pc : Array Value → State → Prop} {Qc : Array Value → State → Outcome → State → Prop} {free : Addr → Prop} {Ts : List Cond} {own : String} {As rest : List Value} {g : JFrame}
    (S : CallFix p m c cc nL s args Ts own) (hM : Met l y ws rm Pc Qc mc ms free) (cw : vx_CSW R s args own index y bytes maxL ret hh ws rm mc ms n) (hp : PreS s H Pc As)
    (hg : g.method = m) (hn : As.length = n) (hsize : g.locals.size = nL) (hstack : g.stack = As.reverse ++ rest) (hW : 2 * g.monitorRoom + (rest.map fun v => v.category).sum ≤ 8) (hdg : decode cc g.pc = .ok (.invokestatic index, 3)) (hf : cells + mc ≤ R.cells ∧ slots + ms ≤ R.slots) :
    va_Run p l e R s m args below meth c H locs cells slots mc ms g rest (Qc As.toArray) (free) := by
  obtain ⟨⟨hrc, hrs, hfr, hlo, hws, hcw⟩, hcode, hini, hy, hlen, hl, hstt⟩ := cw
  have hK : Back l R p e below s args y 3 8 (PreOf R mc ms Pc) (PostOf Qc mc ms free) := va_backW (hh := hh) (bytes := bytes) (maxL := maxL) (ret := ret) hM hp.1 hrc hrs hfr hlo hws hcw (fun a' U hW => word_at hW (Or.inl (by first | rfl | simp [Cond.onTables, Cond.keeps, Cond.steady])) hini)
  obtain ⟨hx, hb, hml, ho, -⟩ := S
  intro T hT X
  obtain ⟨v, vm₁, ⟨U', l2, c2, s2⟩, hW₁, X', ⟨g', mk, t, L, e1, e2, hq, h1, hL, h2, h3⟩, st⟩ := vx_callSW X hx (hh := hh) (bytes := bytes) (maxL := maxL) (ret := ret) ho hl hstt hini hcode hy hK hg (hsize.trans hml.symm) (argsL := As) (rest := rest) (fun sig h => hn.trans (hlen sig h)) hstack hW (by rw [hb]; exact hdg)
    (fun vm₁ hW₁ => ⟨hf.1, hf.2, hp.2 (T.setVm vm₁) hT hW₁⟩)
  dsimp only [Pt.U, Pt.locs, Pt.cells, Pt.slots] at X' e1 e2 h1 h2 h3 st
  subst h1; subst h2; subst h3
  exact ⟨v, (T.setVm vm₁).calling g' mk As.toArray, t, U', L, hT, X', hL, e1, e2, hq, st⟩
/-- not caught here, past rows that name other classes: it goes on to the caller -/
theorem vx_outP {p : Program} {l : Launch} {e : Env} {R : Room} {s : State} {m : MethodId} {args : Array Value} {below : List Frame} {meth : Method} {c : Code} {H : Heap} {locs : List Loc} {cells slots : Nat} {free : Addr → Prop} {ls : Array Slot} {rest : List Value} {Qc : Array Value → State → Outcome → State → Prop} {XC : String → State → State → Prop}
    {pc : Nat} {own E : String} {ce : Cell} {q : Addr} {mc ms : Nat} (hown : s.vm.findClass own = some m.cls) (hlocks : meth.locks = false)
    (hpass : ∀ z ∈ c.exceptionTable.toList, covers z pc = false ∨ (z.catchType ≠ 0 ∧ ∃ nm : String, (Cond.classLink own z.catchType nm).before args s = true ∧ va_Nc E nm s)) (hcell : H[q]? = some ce) (hv : ce.vm = .none) (hcl : s.vm.findClass E = some ce.cls)
    (hx : ∀ t : State, t.heap = H → s.vm.Alike t.vm → XC E s t) (hf : ∀ z ∈ locs, free z.base) (hc : cells ≤ mc) (hs : slots ≤ ms) :
    vx_W p l e R s m args below meth c H locs cells slots (vx_MQ below Qc XC args s mc ms free) (F0 m pc ls rest) q := by
  intro T hT X
  have hpl : e.platform.magicAccessors = ({} : Platform).magicAccessors := by rw [X.admits.platform]
  obtain ⟨vm', hW', X', st⟩ := X.outThrough hlocks q (g := F0 m pc ls rest) rfl rfl rfl (cell := ce) (by rw [hT]; exact hcell) (by rw [hv]; rfl)
    (by obtain ⟨k9, h9, -⟩ := Vm.findClass_spec hcl; exact ⟨k9, h9⟩) (fun z hz => by
      rcases hpass z hz with h | ⟨hz0, nm, hl1, hn1⟩
      · exact Or.inl h
      · obtain ⟨c6, hc6, hcl6⟩ := Cond.classLink_spec hown hl1 e.platform hpl
        obtain ⟨a8, b8, h1, h2, h3⟩ := hn1
        cases Option.some.inj (h1.symm.trans hcl)
        cases Option.some.inj (h2.symm.trans hc6)
        exact Or.inr ⟨hz0, _, hcl6, h3⟩)
  obtain ⟨g₀, hfr⟩ := X'.frames_eq
  have hcell9 : ((T.setVm vm').setFrames (.throwing q :: below)).heap[q]? = some ce := by
    show T.heap[q]? = some ce
    rw [hT]; exact hcell
  have hend : Ended ((T.setVm vm').setFrames (.throwing q :: below)) below (.threw q) := State.frames_setFrames _ (State.cur_lt_of_frames hfr)
  refine ⟨(T.setVm vm').setFrames (.throwing q :: below), ?_, .threw q, X'.here.running, hend, Or.inr ⟨q, rfl, E, ce, locs, hx _ hT (X'.ends _).1.alike, hcell9, hv, hcl, (X'.ends _).1, (X'.ends _).2.mono hc hs, hf⟩⟩
  rw [X.pushThrowing_eq]
  exact st
/-- a thing of a world lies in the heap -/
theorem vx_lt {D : va_G} {cl : List vw_C} {ws : va_W} {H1 : Heap} (h : va_P D cl ws H1) {k : Nat} {q : Nat × va_E} (hk : ws[k]? = some q) : q.1 < H1.size := (h k q hk).lt
end VXS
/-! ===== END ===== -/
/-! ===== BEGIN methods with a table of their own: called by a name, returning or throwing ===== -/
section VXH
/-! vx_backW, vx_callVX, vx_callSX, vx_callVW, vx_runVW, vx_runVX, vx_runSX, vx_ofWH follow the same proofs as their sisters above (Free/Laws.lean, Shelf42/LK1.lean); vx_outP calls Shelf42/NT130.lean (outThrough). -/
section
variable {l : Launch} {R : Room} {p : Program} {e : Env} {below : List Frame} {s : State} {sargs : Array Value} {y : MethodName} {len W9 : Nat}
theorem vx_backW {ws : List Cond} {rm : Room} {Pc : Array Value → State → Prop} {Qc : Array Value → State → Outcome → State → Prop} {XC : String → State → State → Prop} {mc ms : Nat} {free : Addr → Prop} {bytes : ByteArray} {maxL : Nat} {ret : Option FieldType} {hh : List (Nat × Nat × Nat × Nat)}
    (hM : vx_Met l y ws rm Pc Qc XC mc ms free) (hblind : FrameBlind Pc) (hrc : rm.cells = mc) (hrs : rm.slots = ms)
    (hframes : rm.frames + 1 ≤ R.frames) (hlocals : W9 + (maxL + 11) + rm.locals ≤ R.locals)
    (hws : ∀ w ∈ ws, ∀ a' U, s.WarmedH U.vm → w.before a' U = true) (hcode : Cond.codeWith y bytes maxL ret hh ∈ ws) (hinit : ∀ a' U, s.WarmedH U.vm → (Cond.initialized y.cls).before a' U = true) :
    vx_Back l R p e below s sargs y len W9 (PreOf R mc ms Pc) (PostOf Qc mc ms free) (vx_Post XC mc ms free) := by
  intro m meth c A g ig mk a X hg hsize hdg hW hn hp
  have h1 : (headSpec ws rm).pre.before a A.U = true := atoms_intro fun w hw => hws w hw _ _ X.warmed
  have h2 : (Cond.codeWith y bytes maxL ret hh).before a A.U = true := hws _ hcode _ _ X.warmed
  have h3 : (Cond.initialized y.cls).before a A.U = true := hinit _ _ X.warmed
  have h4 : A.cells + (headSpec ws rm).room.cells ≤ R.cells := by rw [show (headSpec ws rm).room.cells = mc from hrc]; exact hp.1
  have h5 : A.slots + (headSpec ws rm).room.slots ≤ R.slots := by rw [show (headSpec ws rm).room.slots = ms from hrs]; exact hp.2.1
  have hPc : Pc a (A.U.calling g mk a) := hblind _ _ _ _ hp.2.2
  obtain ⟨U, Ls, c0, s0⟩ := A
  dsimp only [Pt.U, Pt.locs, Pt.cells, Pt.slots] at h1 h2 h3 h4 h5 X hn hPc ⊢
  obtain ⟨m9, methY, cY, hn9, hmY, hcY, -, hlY, -⟩ := Cond.codeWith_spec h2
  cases Option.some.inj (hn9.symm.trans hn)
  obtain ⟨kY, hkY, -⟩ := className_of_methodNamed hn
  have hinitY : kY.init = .initialized := Cond.initialized_spec (findClass_of_methodNamed hn) hkY h3
  have h : At U g.method c below := by rw [hg]; exact X.here
  have hlocals9 : W9 + (maxL + 11) + (headSpec ws rm).room.locals ≤ R.locals := hlocals
  have happ : (headSpec ws rm).appliesLoose y e.platform (U.calling g mk a) = true :=
    Spec.appliesLoose_calling (g := g) h hdg hn hkY hinitY
      (X.room_calling (g := g) (R' := (headSpec ws rm).room) hsize hmY hcY hframes (by rw [hlY]; omega) h4 h5) h1
  obtain ⟨mid, hmid⟩ := h.above
  have hfr : (U.setTop g).frames = (.java g :: mid) ++ below := by rw [State.frames_setTop' g h.top, hmid]; rfl
  obtain ⟨o, s₂, hsteps, -, hend, hq⟩ := Steps.callFree hM p X.admits X.cas X.clock (acts := []) hfr happ hPc trivial
  have hq' : vx_Q Qc XC mc ms free a (U.calling g mk a) o s₂ := hq
  rw [State.frames_setTop' g h.top] at hend
  obtain ⟨g₀, hg0⟩ := Option.isSome_iff_exists.mp h.top
  obtain ⟨r, hr⟩ := State.topJava?_eq_some.mp hg0
  have hr' : (({ U with heap := s₂.heap, slotsUsed := s₂.slotsUsed } : State).setVm s₂.vm).frames = .java g₀ :: r := hr
  rcases hq' with ⟨hqc, L, hfe, hL⟩ | ⟨q, rfl, E, ce, L, hx, hce, hcv, hcl, hW₂, hsm, hL⟩
  · obtain ⟨⟨v, rfl⟩, hW₂, e2, q2, q3, q4, q5, q6⟩ := id hfe
    have e3 : s₂ = ({ (U.calling g mk a).setFrames s₂.frames with heap := s₂.heap, slotsUsed := s₂.slotsUsed } : State).setVm s₂.vm := by
      have : s₂ = ({ s₂ with vm := (U.calling g mk a).vm } : State).setVm s₂.vm := rfl
      rw [e2] at this
      exact this
    obtain ⟨c₂, i₂, len₂, hc₂, hd₂, hf₂⟩ := hend
    have hW' : U.WarmedH s₂.vm := hW₂
    have hcc : c₂ = c := by
      have h1 : s₂.code? g.method = U.code? g.method := by
        rw [State.code?_eq, State.code?_eq, hW'.alike.method?]
      exact Option.some.inj (hc₂.symm.trans (h1.trans h.code))
    subst hcc
    have hlen : len₂ = len := by rw [hdg] at hd₂; cases hd₂; rfl
    subst hlen
    have hs₂ : s₂ = (({ U with heap := s₂.heap, slotsUsed := s₂.slotsUsed } : State).setVm s₂.vm).setTop { g with pc := g.pc + len₂, stack := v.toList ++ g.stack } := by
      refine e3.trans ?_
      rw [hf₂, State.calling_eq h.top, State.setFrames_setFrames, State.setTop_of_frames _ hr', hr]
      rfl
    have hsame : U.sameButNew ({ U with heap := s₂.heap, slotsUsed := s₂.slotsUsed } : State) L mc ms := by
      refine ⟨?_, q2, q3, q4, q5, q6⟩
      obtain ⟨t, ht, -⟩ := State.frames_cons hr
      show ({ U with heap := s₂.heap, slotsUsed := s₂.slotsUsed } : State) = { U.setFrames U.frames with heap := s₂.heap, slotsUsed := s₂.slotsUsed }
      rw [State.setFrames_self ht]
    subst hg
    refine Or.inl ⟨v, ⟨(({ U with heap := s₂.heap, slotsUsed := s₂.slotsUsed } : State).setVm s₂.vm), Ls ++ L, c0 + mc, s0 + ms⟩,
      ⟨X.admits, X.cas, X.clock, X.frames, X.room, X.hears, X.method, X.code, (X.here.setHeapUsed s₂.heap s₂.slotsUsed).setVm hW'.alike, X.tail, State.WarmedH.trans X.warmed hW', X.limits, X.bytes, X.same.trans (hsame.setVm s.vm)⟩,
      ⟨g, mk, s₂, L, rfl, rfl, hqc, rfl, hL, rfl, rfl⟩, ?_⟩
    show Steps p.tables e below _ ((({ U with heap := s₂.heap, slotsUsed := s₂.slotsUsed } : State).setVm s₂.vm).setTop { g with pc := g.pc + len₂, stack := v.toList ++ g.stack })
    rw [← hs₂]
    exact hsteps
  · obtain ⟨e2, q2, q3, q4, q5, q6⟩ := id hsm
    have e3 : s₂ = ({ (U.calling g mk a).setFrames s₂.frames with heap := s₂.heap, slotsUsed := s₂.slotsUsed } : State).setVm s₂.vm := by
      have : s₂ = ({ s₂ with vm := (U.calling g mk a).vm } : State).setVm s₂.vm := rfl
      rw [e2] at this
      exact this
    have hf₂ : s₂.frames = .throwing q :: .java g :: U.frames.tail := hend
    have hW' : U.WarmedH s₂.vm := hW₂
    have hs₂ : s₂ = ((({ U with heap := s₂.heap, slotsUsed := s₂.slotsUsed } : State).setVm s₂.vm).setTop g).pushFrame (.throwing q) := by
      refine e3.trans ?_
      rw [hf₂, State.calling_eq h.top, State.setFrames_setFrames, State.pushFrame, State.frames_setTop _ hr', State.setTop_of_frames _ hr', State.setFrames_setFrames, hr]
      rfl
    have hsame : U.sameButNew ({ U with heap := s₂.heap, slotsUsed := s₂.slotsUsed } : State) L mc ms := by
      refine ⟨?_, q2, q3, q4, q5, q6⟩
      obtain ⟨t, ht, -⟩ := State.frames_cons hr
      show ({ U with heap := s₂.heap, slotsUsed := s₂.slotsUsed } : State) = { U.setFrames U.frames with heap := s₂.heap, slotsUsed := s₂.slotsUsed }
      rw [State.setFrames_self ht]
    subst hg
    refine Or.inr ⟨q, ⟨(({ U with heap := s₂.heap, slotsUsed := s₂.slotsUsed } : State).setVm s₂.vm), Ls ++ L, c0 + mc, s0 + ms⟩,
      ⟨X.admits, X.cas, X.clock, X.frames, X.room, X.hears, X.method, X.code, (X.here.setHeapUsed s₂.heap s₂.slotsUsed).setVm hW'.alike, X.tail, State.WarmedH.trans X.warmed hW', X.limits, X.bytes, X.same.trans (hsame.setVm s.vm)⟩,
      ⟨g, mk, s₂, L, E, ce, rfl, rfl, hx, hce, hcv, hcl, rfl, hL, rfl, rfl⟩, ?_⟩
    show Steps p.tables e below _ (((({ U with heap := s₂.heap, slotsUsed := s₂.slotsUsed } : State).setVm s₂.vm).setTop g).pushFrame (.throwing q))
    rw [← hs₂]
    exact hsteps
end
variable {p : Program} {l : Launch} {e : Env} {R : Room} {s : State} {m : MethodId} {args : Array Value} {below : List Frame} {meth : Method} {c : Code} {T : State} {H : Heap} {locs : List Loc} {cells slots : Nat}
theorem vx_callVX (X : Stand p l e R s m args below meth c T locs cells slots) (hexec : p.tables.exec = Jvm.exec) {own C : String} {index : Nat} {y : MethodName} {bytes : ByteArray} {maxL : Nat} {ret : Option FieldType} {hh : List (Nat × Nat × Nat × Nat)}
    (hown : s.vm.findClass own = some m.cls) (hlink : (Cond.methodLink own index y).before args s = true) (hinst : (Cond.instanceMethod y).before args s = true) (hsel : (Cond.selects C y y).before args s = true)
    (hcode : (Cond.codeWith y bytes maxL ret hh).before args s = true) (hy : y.cls ≠ "java/lang/invoke/MethodHandle" ∧ y.cls ≠ "java/lang/invoke/VarHandle")
    {W9 : Nat} {Pre : Pt → Array Value → Prop} {Post : Pt → Array Value → Option Value → Pt → Prop} {PostX : Pt → Array Value → Addr → Pt → Prop} (hK : vx_Back l R p e below s args y 3 W9 Pre Post PostX)
    {b : Addr} {cellB : Cell} (hcell : T.heap[b]? = some cellB) (hobj : cellB.vm.isStatics = false) (hcls : s.vm.findClass C = some cellB.cls)
    {g : JFrame} (hg : g.method = m) (hsize : g.locals.size = c.maxLocals) {argsL rest : List Value} (hlen : ∀ sig, parseMethodDescriptor y.desc = some sig → argsL.length = sig.parameters.length)
    (hstack : g.stack = argsL.reverse ++ .ref b :: rest) (hW : 2 * g.monitorRoom + (rest.map fun v => v.category).sum ≤ W9) (hdg : decode c.code g.pc = .ok (.invokevirtual index, 3))
    (hpre : ∀ vm₁, s.WarmedH vm₁ → Pre ⟨T.setVm vm₁, locs, cells, slots⟩ (Value.ref b :: argsL).toArray) :
    (∃ (v : Option Value) (vm₁ : Vm) (B : Pt), s.WarmedH vm₁ ∧ Stand p l e R s m args below meth c B.U B.locs B.cells B.slots ∧ Post ⟨T.setVm vm₁, locs, cells, slots⟩ (Value.ref b :: argsL).toArray v B ∧
      ∀ target, Steps p.tables e below (B.U.setTop { g with pc := g.pc + 3, stack := v.toList ++ rest }) target → Steps p.tables e below (T.setTop g) target) ∨
    (∃ (q : Addr) (vm₁ : Vm) (B : Pt), s.WarmedH vm₁ ∧ Stand p l e R s m args below meth c B.U B.locs B.cells B.slots ∧ PostX ⟨T.setVm vm₁, locs, cells, slots⟩ (Value.ref b :: argsL).toArray q B ∧
      Steps p.tables e below (T.setTop g) ((B.U.setTop { g with stack := rest }).pushFrame (.throwing q))) := by
  obtain ⟨mk, methM, hnamed, hmethM, hstM, habM⟩ := Cond.instanceMethod_spec hinst
  obtain ⟨m8, methM', cM, hn8, hmethM', -, -, -, -, -, -, hsigM⟩ := Cond.codeWith_spec hcode
  cases Option.some.inj (hn8.symm.trans hnamed)
  cases hmethM.symm.trans hmethM'
  obtain ⟨c2, r2, m2, q1, q2, q3, q4, kP, hkP, hkPi⟩ := Cond.selects_spec hsel
  cases hcls.symm.trans q1
  cases (State.methodFound?_of_named hnamed hy).symm.trans q2
  cases hnamed.symm.trans q3
  have hselP : selectMethod e.platform s.vm cellB.cls mk = .method mk := by rw [Launch.admits_selectMethod X.admits]; exact q4
  obtain ⟨vm₁, X₁, hstep₁⟩ := X.invokevirtual hexec hown hlink hnamed hmethM hstM hkP hkPi hy (a := b) (cell := cellB) hcell
    (fun z h => by rw [h] at hobj; cases hobj) hselP hmethM habM hkP hkPi (g := g) hg (argsL := argsL) (rest := rest) (hlen _ hsigM) hstack hdg
  rcases hK m meth c ⟨T.setVm vm₁, locs, cells, slots⟩ { g with stack := rest } (.invokevirtual index) mk (Value.ref b :: argsL).toArray X₁ hg hsize hdg hW (X₁.named hnamed) (hpre vm₁ X₁.warmed) with ⟨v, B, X', hpost, hsteps⟩ | ⟨q, B, X', hpost, hsteps⟩
  · exact Or.inl ⟨v, vm₁, B, X₁.warmed, X', hpost, fun target h => hstep₁ _ fun acts => by rw [doInvoke_state]; exact hsteps.trans h⟩
  · exact Or.inr ⟨q, vm₁, B, X₁.warmed, X', hpost, hstep₁ _ fun acts => by rw [doInvoke_state]; exact hsteps⟩
theorem vx_callSX (X : Stand p l e R s m args below meth c T locs cells slots) (hexec : p.tables.exec = Jvm.exec) {own : String} {index : Nat} {y : MethodName} {bytes : ByteArray} {maxL : Nat} {ret : Option FieldType} {hh : List (Nat × Nat × Nat × Nat)}
    (hown : s.vm.findClass own = some m.cls) (hlink : (Cond.methodLink own index y).before args s = true) (hstat : (Cond.static y).before args s = true) (hinit : (Cond.initialized y.cls).before args s = true)
    (hcode : (Cond.codeWith y bytes maxL ret hh).before args s = true) (hy : y.cls ≠ "java/lang/invoke/MethodHandle" ∧ y.cls ≠ "java/lang/invoke/VarHandle")
    {W9 : Nat} {Pre : Pt → Array Value → Prop} {Post : Pt → Array Value → Option Value → Pt → Prop} {PostX : Pt → Array Value → Addr → Pt → Prop} (hK : vx_Back l R p e below s args y 3 W9 Pre Post PostX)
    {g : JFrame} (hg : g.method = m) (hsize : g.locals.size = c.maxLocals) {argsL rest : List Value} (hlen : ∀ sig, parseMethodDescriptor y.desc = some sig → argsL.length = sig.parameters.length)
    (hstack : g.stack = argsL.reverse ++ rest) (hW : 2 * g.monitorRoom + (rest.map fun v => v.category).sum ≤ W9) (hdg : decode c.code g.pc = .ok (.invokestatic index, 3))
    (hpre : ∀ vm₁, s.WarmedH vm₁ → Pre ⟨T.setVm vm₁, locs, cells, slots⟩ argsL.toArray) :
    (∃ (v : Option Value) (vm₁ : Vm) (B : Pt), s.WarmedH vm₁ ∧ Stand p l e R s m args below meth c B.U B.locs B.cells B.slots ∧ Post ⟨T.setVm vm₁, locs, cells, slots⟩ argsL.toArray v B ∧
      ∀ target, Steps p.tables e below (B.U.setTop { g with pc := g.pc + 3, stack := v.toList ++ rest }) target → Steps p.tables e below (T.setTop g) target) ∨
    (∃ (q : Addr) (vm₁ : Vm) (B : Pt), s.WarmedH vm₁ ∧ Stand p l e R s m args below meth c B.U B.locs B.cells B.slots ∧ PostX ⟨T.setVm vm₁, locs, cells, slots⟩ argsL.toArray q B ∧
      Steps p.tables e below (T.setTop g) ((B.U.setTop { g with stack := rest }).pushFrame (.throwing q))) := by
  obtain ⟨mk, methM, cM, hnamed, hmethM, -, -, -, -, -, -, hsigM⟩ := Cond.codeWith_spec hcode
  have hstatic : methM.isStatic = true := Cond.static_spec hnamed hmethM hstat
  obtain ⟨kP, hkP, -⟩ := className_of_methodNamed hnamed
  have hinitP : kP.init = .initialized := Cond.initialized_spec (findClass_of_methodNamed hnamed) hkP hinit
  obtain ⟨vm₁, X₁, hstep₁⟩ := X.invokestatic hexec hown hlink hnamed hmethM hstatic hkP hinitP hy (g := g) hg (argsL := argsL) (rest := rest) (hlen _ hsigM) hstack hdg
  rcases hK m meth c ⟨T.setVm vm₁, locs, cells, slots⟩ { g with stack := rest } (.invokestatic index) mk argsL.toArray X₁ hg hsize hdg hW (X₁.named hnamed) (hpre vm₁ X₁.warmed) with ⟨v, B, X', hpost, hsteps⟩ | ⟨q, B, X', hpost, hsteps⟩
  · exact Or.inl ⟨v, vm₁, B, X₁.warmed, X', hpost, fun target h => hstep₁ _ fun acts => by rw [doInvoke_state]; exact hsteps.trans h⟩
  · exact Or.inr ⟨q, vm₁, B, X₁.warmed, X', hpost, hstep₁ _ fun acts => by rw [doInvoke_state]; exact hsteps⟩
theorem vx_callVW (X : Stand p l e R s m args below meth c T locs cells slots) (hexec : p.tables.exec = Jvm.exec) {own C : String} {index : Nat} {y : MethodName} {bytes : ByteArray} {maxL : Nat} {ret : Option FieldType} {hh : List (Nat × Nat × Nat × Nat)}
    (hown : s.vm.findClass own = some m.cls) (hlink : (Cond.methodLink own index y).before args s = true) (hinst : (Cond.instanceMethod y).before args s = true) (hsel : (Cond.selects C y y).before args s = true)
    (hcode : (Cond.codeWith y bytes maxL ret hh).before args s = true) (hy : y.cls ≠ "java/lang/invoke/MethodHandle" ∧ y.cls ≠ "java/lang/invoke/VarHandle")
    {W9 : Nat} {Pre : Pt → Array Value → Prop} {Post : Pt → Array Value → Option Value → Pt → Prop} (hK : Back l R p e below s args y 3 W9 Pre Post)
    {b : Addr} {cellB : Cell} (hcell : T.heap[b]? = some cellB) (hobj : cellB.vm.isStatics = false) (hcls : s.vm.findClass C = some cellB.cls)
    {g : JFrame} (hg : g.method = m) (hsize : g.locals.size = c.maxLocals) {argsL rest : List Value} (hlen : ∀ sig, parseMethodDescriptor y.desc = some sig → argsL.length = sig.parameters.length)
    (hstack : g.stack = argsL.reverse ++ .ref b :: rest) (hW : 2 * g.monitorRoom + (rest.map fun v => v.category).sum ≤ W9) (hdg : decode c.code g.pc = .ok (.invokevirtual index, 3))
    (hpre : ∀ vm₁, s.WarmedH vm₁ → Pre ⟨T.setVm vm₁, locs, cells, slots⟩ (Value.ref b :: argsL).toArray) :
    ∃ (v : Option Value) (vm₁ : Vm) (B : Pt), s.WarmedH vm₁ ∧ Stand p l e R s m args below meth c B.U B.locs B.cells B.slots ∧ Post ⟨T.setVm vm₁, locs, cells, slots⟩ (Value.ref b :: argsL).toArray v B ∧
      ∀ target, Steps p.tables e below (B.U.setTop { g with pc := g.pc + 3, stack := v.toList ++ rest }) target → Steps p.tables e below (T.setTop g) target := by
  obtain ⟨mk, methM, hnamed, hmethM, hstM, habM⟩ := Cond.instanceMethod_spec hinst
  obtain ⟨m8, methM', cM, hn8, hmethM', -, -, -, -, -, -, hsigM⟩ := Cond.codeWith_spec hcode
  cases Option.some.inj (hn8.symm.trans hnamed)
  cases hmethM.symm.trans hmethM'
  obtain ⟨c2, r2, m2, q1, q2, q3, q4, kP, hkP, hkPi⟩ := Cond.selects_spec hsel
  cases hcls.symm.trans q1
  cases (State.methodFound?_of_named hnamed hy).symm.trans q2
  cases hnamed.symm.trans q3
  have hselP : selectMethod e.platform s.vm cellB.cls mk = .method mk := by rw [Launch.admits_selectMethod X.admits]; exact q4
  obtain ⟨vm₁, X₁, hstep₁⟩ := X.invokevirtual hexec hown hlink hnamed hmethM hstM hkP hkPi hy (a := b) (cell := cellB) hcell
    (fun z h => by rw [h] at hobj; cases hobj) hselP hmethM habM hkP hkPi (g := g) hg (argsL := argsL) (rest := rest) (hlen _ hsigM) hstack hdg
  obtain ⟨v, B, X', hpost, hsteps⟩ := hK m meth c ⟨T.setVm vm₁, locs, cells, slots⟩ { g with stack := rest } (.invokevirtual index) mk (Value.ref b :: argsL).toArray X₁ hg hsize hdg hW (X₁.named hnamed) (hpre vm₁ X₁.warmed)
  exact ⟨v, vm₁, B, X₁.warmed, X', hpost, fun target h => hstep₁ _ fun acts => by rw [doInvoke_state]; exact hsteps.trans h⟩
abbrev vx_CVW (R : Room) (s : State) (args : Array Value) (own C : String) (index : Nat) (y : MethodName) (bytes : ByteArray) (maxL : Nat) (ret : Option FieldType) (hh : List (Nat × Nat × Nat × Nat)) (ws : List Cond) (rm : Room) (mc ms n : Nat) : Prop :=
  (rm.cells = mc ∧ rm.slots = ms ∧ rm.frames + 1 ≤ R.frames ∧ 8 + (maxL + 11) + rm.locals ≤ R.locals ∧ (∀ w ∈ ws, ∀ (a' : Array Value) (U : State), s.WarmedH U.vm → w.before a' U = true) ∧ Cond.codeWith y bytes maxL ret hh ∈ ws) ∧
  (Cond.codeWith y bytes maxL ret hh).before args s = true ∧ (Cond.initialized y.cls).before args s = true ∧ (y.cls ≠ "java/lang/invoke/MethodHandle" ∧ y.cls ≠ "java/lang/invoke/VarHandle") ∧
  (∀ sig, parseMethodDescriptor y.desc = some sig → n = sig.parameters.length) ∧ (Cond.methodLink own index y).before args s = true ∧ (Cond.instanceMethod y).before args s = true ∧ (Cond.selects C y y).before args s = true
theorem vx_cwVW {own C : String} {index maxL mc ms : Nat} {y : MethodName} {bytes : ByteArray} {ret : Option FieldType} {hh : List (Nat × Nat × Nat × Nat)} {Ts ws ws' : List Cond} {rm : Room} (n : Nat) (ht : ∀ w ∈ Ts, w.before args s = true) (hT : GoodIn Ts (wsV own index C y ws)) (hw : ws = Cond.codeWith y bytes maxL ret hh :: ws') (hrc : rm.cells = mc) (hrs : rm.slots = ms)
    (hd : y.cls = C ∧ y.cls ≠ "java/lang/invoke/MethodHandle" ∧ y.cls ≠ "java/lang/invoke/VarHandle" ∧ (parseMethodDescriptor y.desc).map (fun d => d.parameters.length) = some n) (hR : rm.frames + 1 ≤ R.frames ∧ 8 + (maxL + 11) + rm.locals ≤ R.locals) :
    vx_CVW R s args own C index y bytes maxL ret hh ws rm mc ms n := by
  obtain ⟨hC, hd⟩ := hd
  subst hC
  have ok : ∀ w ∈ wsV own index y.cls y ws, w.before args s = true := fun w h => ht w (hT w h).1
  have hG : GoodIn Ts ws := fun w h => hT w (by unfold wsV; exact List.mem_append_right _ h)
  have hc : Cond.codeWith y bytes maxL ret hh ∈ ws := by rw [hw]; exact List.mem_cons_self
  refine ⟨⟨hrc, hrs, hR.1, hR.2, pay_in ht hG, hc⟩, ht _ (hG _ hc).1, ok _ (by simp [wsV]), ⟨hd.1, hd.2.1⟩, fun sig h => ?_, ok _ (by simp [wsV]), ok _ (by simp [wsV]), ok _ (by simp [wsV])⟩
  have h2 := hd.2.2
  rw [h] at h2
  exact (Option.some.inj h2).symm
theorem vx_runVW {y : MethodName} {bytes cc : ByteArray} {maxL nL mc ms n index : Nat} {ret : Option FieldType} {hh : List (Nat × Nat × Nat × Nat)} {ws : List Cond} {rm : Room} {Pc : Array Value → State → Prop} {Qc : Array Value → State → Outcome → State → Prop} {free : Addr → Prop} {Ts : List Cond} {own C : String} {b : Addr} {As rest : List Value} {g : JFrame}
    (S : CallFix p m c cc nL s args Ts own) (hM : Met l y ws rm Pc Qc mc ms free) (cw : vx_CVW R s args own C index y bytes maxL ret hh ws rm mc ms n) (hp : PreV s H C b Pc As)
    (hg : g.method = m) (hn : As.length = n) (hsize : g.locals.size = nL) (hstack : g.stack = As.reverse ++ .ref b :: rest) (hW : 2 * g.monitorRoom + (rest.map fun v => v.category).sum ≤ 8) (hdg : decode cc g.pc = .ok (.invokevirtual index, 3)) (hf : cells + mc ≤ R.cells ∧ slots + ms ≤ R.slots) :
    va_Run p l e R s m args below meth c H locs cells slots mc ms g rest (Qc (Value.ref b :: As).toArray) free := by
  obtain ⟨⟨hrc, hrs, hfr, hlo, hws, hcw⟩, hcode, hini, hy, hlen, hl, hin, hse⟩ := cw
  have hK : Back l R p e below s args y 3 8 (PreOf R mc ms Pc) (PostOf Qc mc ms free) := va_backW (hh := hh) (bytes := bytes) (maxL := maxL) (ret := ret) hM hp.1 hrc hrs hfr hlo hws hcw (fun a' U hW => word_at hW (Or.inl (by first | rfl | simp [Cond.onTables, Cond.keeps, Cond.steady])) hini)
  obtain ⟨hx, hb, hml, ho, -⟩ := S
  obtain ⟨-, ⟨cellB, hcB, hoB, hclB⟩, hPc⟩ := hp
  intro T hT X
  obtain ⟨v, vm₁, ⟨U', l2, c2, s2⟩, hW₁, X', ⟨g', mk, t, L, e1, e2, hq, h1, hL, h2, h3⟩, st⟩ := vx_callVW X hx (C := C) (hh := hh) (bytes := bytes) (maxL := maxL) (ret := ret) ho hl hin hse hcode hy hK (by rw [hT]; exact hcB) hoB hclB hg (hsize.trans hml.symm) (argsL := As) (rest := rest) (fun sig h => hn.trans (hlen sig h)) hstack hW (by rw [hb]; exact hdg)
    (fun vm₁ hW₁ => ⟨hf.1, hf.2, hPc (T.setVm vm₁) hT hW₁⟩)
  dsimp only [Pt.U, Pt.locs, Pt.cells, Pt.slots] at X' e1 e2 h1 h2 h3 st
  subst h1; subst h2; subst h3
  exact ⟨v, (T.setVm vm₁).calling g' mk (Value.ref b :: As).toArray, t, U', L, hT, X', hL, e1, e2, hq, st⟩
section
variable {y : MethodName} {bytes cc : ByteArray} {maxL nL mc ms n index : Nat} {ret : Option FieldType} {ws : List Cond} {rm : Room} {Pc : Array Value → State → Prop} {Qc : Array Value → State → Outcome → State → Prop} {XC : String → State → State → Prop} {free : Addr → Prop} {Ts : List Cond} {own C : String} {b : Addr} {As rest : List Value} {g : JFrame}
theorem vx_runVX {hh : List (Nat × Nat × Nat × Nat)} (S : CallFix p m c cc nL s args Ts own) (hM : vx_Met l y ws rm Pc Qc XC mc ms free) (cw : vx_CVW R s args own C index y bytes maxL ret hh ws rm mc ms n) (hp : PreV s H C b Pc As)
    (hg : g.method = m) (hn : As.length = n) (hsize : g.locals.size = nL) (hstack : g.stack = As.reverse ++ .ref b :: rest) (hW : 2 * g.monitorRoom + (rest.map fun v => v.category).sum ≤ 8) (hdg : decode cc g.pc = .ok (.invokevirtual index, 3)) (hf : cells + mc ≤ R.cells ∧ slots + ms ≤ R.slots) :
    vx_Run p l e R s m args below meth c H locs cells slots mc ms g rest (Qc (Value.ref b :: As).toArray) XC free := by
  obtain ⟨⟨hrc, hrs, hfr, hlo, hws, hcw⟩, hcode, hini, hy, hlen, hl, hin, hse⟩ := cw
  have hK : vx_Back l R p e below s args y 3 8 (PreOf R mc ms Pc) (PostOf Qc mc ms free) (vx_Post XC mc ms free) := vx_backW (hh := hh) (bytes := bytes) (maxL := maxL) (ret := ret) hM hp.1 hrc hrs hfr hlo hws hcw (fun a' U hW => word_at hW (Or.inl (by first | rfl | simp [Cond.onTables, Cond.keeps, Cond.steady])) hini)
  obtain ⟨hx, hb, hml, ho, -⟩ := S
  obtain ⟨-, ⟨cellB, hcB, hoB, hclB⟩, hPc⟩ := hp
  intro T hT X
  rcases vx_callVX X hx (C := C) (hh := hh) (bytes := bytes) (maxL := maxL) (ret := ret) ho hl hin hse hcode hy hK (by rw [hT]; exact hcB) hoB hclB hg (hsize.trans hml.symm) (argsL := As) (rest := rest) (fun sig h => hn.trans (hlen sig h)) hstack hW (by rw [hb]; exact hdg)
    (fun vm₁ hW₁ => ⟨hf.1, hf.2, hPc (T.setVm vm₁) hT hW₁⟩) with ⟨v, vm₁, ⟨U', l2, c2, s2⟩, hW₁, X', ⟨g', mk, t, L, e1, e2, hq, h1, hL, h2, h3⟩, st⟩ | ⟨q, vm₁, ⟨U', l2, c2, s2⟩, hW₁, X', ⟨g', mk, t, L, E, ce, e1, e2, hq, hce, hcv, hcl, h1, hL, h2, h3⟩, st⟩
  · dsimp only [Pt.U, Pt.locs, Pt.cells, Pt.slots] at X' e1 e2 h1 h2 h3 st
    subst h1; subst h2; subst h3
    exact Or.inl ⟨v, (T.setVm vm₁).calling g' mk (Value.ref b :: As).toArray, t, U', L, hT, X', hL, e1, e2, hq, st⟩
  · dsimp only [Pt.U, Pt.locs, Pt.cells, Pt.slots] at X' e1 e2 h1 h2 h3 st hcl
    subst h1; subst h2; subst h3
    exact Or.inr ⟨q, (T.setVm vm₁).calling g' mk (Value.ref b :: As).toArray, t, U', L, E, ce, hT, X', hL, e1, e2, hq, hce, hcv, vx_cls hW₁ hcl, st⟩
theorem vx_runSX {hh : List (Nat × Nat × Nat × Nat)} (S : CallFix p m c cc nL s args Ts own) (hM : vx_Met l y ws rm Pc Qc XC mc ms free) (cw : vx_CSW R s args own index y bytes maxL ret hh ws rm mc ms n) (hp : PreS s H Pc As)
    (hg : g.method = m) (hn : As.length = n) (hsize : g.locals.size = nL) (hstack : g.stack = As.reverse ++ rest) (hW : 2 * g.monitorRoom + (rest.map fun v => v.category).sum ≤ 8) (hdg : decode cc g.pc = .ok (.invokestatic index, 3)) (hf : cells + mc ≤ R.cells ∧ slots + ms ≤ R.slots) :
    vx_Run p l e R s m args below meth c H locs cells slots mc ms g rest (Qc As.toArray) XC free := by
  obtain ⟨⟨hrc, hrs, hfr, hlo, hws, hcw⟩, hcode, hini, hy, hlen, hl, hstt⟩ := cw
  have hK : vx_Back l R p e below s args y 3 8 (PreOf R mc ms Pc) (PostOf Qc mc ms free) (vx_Post XC mc ms free) := vx_backW (hh := hh) (bytes := bytes) (maxL := maxL) (ret := ret) hM hp.1 hrc hrs hfr hlo hws hcw (fun a' U hW => word_at hW (Or.inl (by first | rfl | simp [Cond.onTables, Cond.keeps, Cond.steady])) hini)
  obtain ⟨hx, hb, hml, ho, -⟩ := S
  intro T hT X
  rcases vx_callSX X hx (hh := hh) (bytes := bytes) (maxL := maxL) (ret := ret) ho hl hstt hini hcode hy hK hg (hsize.trans hml.symm) (argsL := As) (rest := rest) (fun sig h => hn.trans (hlen sig h)) hstack hW (by rw [hb]; exact hdg)
    (fun vm₁ hW₁ => ⟨hf.1, hf.2, hp.2 (T.setVm vm₁) hT hW₁⟩) with ⟨v, vm₁, ⟨U', l2, c2, s2⟩, hW₁, X', ⟨g', mk, t, L, e1, e2, hq, h1, hL, h2, h3⟩, st⟩ | ⟨q, vm₁, ⟨U', l2, c2, s2⟩, hW₁, X', ⟨g', mk, t, L, E, ce, e1, e2, hq, hce, hcv, hcl, h1, hL, h2, h3⟩, st⟩
  · dsimp only [Pt.U, Pt.locs, Pt.cells, Pt.slots] at X' e1 e2 h1 h2 h3 st
    subst h1; subst h2; subst h3
    exact Or.inl ⟨v, (T.setVm vm₁).calling g' mk As.toArray, t, U', L, hT, X', hL, e1, e2, hq, st⟩
  · dsimp only [Pt.U, Pt.locs, Pt.cells, Pt.slots] at X' e1 e2 h1 h2 h3 st hcl
    subst h1; subst h2; subst h3
    exact Or.inr ⟨q, (T.setVm vm₁).calling g' mk As.toArray, t, U', L, E, ce, hT, X', hL, e1, e2, hq, hce, hcv, vx_cls hW₁ hcl, st⟩
end
end VXH
theorem vx_ofWH {l : Launch} {y : MethodName} {ws ws' : List Cond} {rm : Room} {Pc : Array Value → State → Prop} {Qc : Array Value → State → Outcome → State → Prop} {XC : String → State → State → Prop} {mc ms : Nat} {free : Addr → Prop} {cc : ByteArray} {maxL : Nat} {ret : Option FieldType} {hh : List (Nat × Nat × Nat × Nat)}
    (hy : plainName y.cls = true) (hw : ws = Cond.codeWith y cc maxL ret hh :: ws')
    (body : ∀ p e s m args below meth c s₁, BodyLoose p l y (headSpec ws rm) cc maxL ret e s m args below meth c s₁ → c.maxLocals = maxL → Pc args s →
      W p l e (headSpec ws rm).room s m args below meth c s.heap [] 0 0 (vx_MQ below Qc XC args s mc ms free) (entryFrame m args maxL)) : vx_Met l y ws rm Pc Qc XC mc ms free := by
  refine MetFree.of_bodyS (code := cc) (maxLocals := maxL) (ret := ret) hy ?_ ?_
  · intro args s m h hn
    obtain ⟨m9, meth, c, hn9, h1, h2, h3, h4, -, h5, h6, -⟩ := Cond.codeWith_spec (atoms_spec (ws := ws) h _ (by rw [hw]; exact List.mem_cons_self))
    cases hn.symm.trans hn9
    exact ⟨meth, c, h1, h2, h3, h4, h5, h6⟩
  · intro p e s m args below meth c s₁ B hml hP _
    have hh0 : s₁.heap = s.heap := by rw [B.state]; rfl
    obtain ⟨t, a1, o, b1, b2, b3⟩ := body p e s m args below meth c s₁ B hml hP s₁ hh0 (Stand.of_body B)
    exact ⟨t, o, a1, b1, b2, b3⟩
/-! ===== END ===== -/
end
section
/-! ===== BEGIN printed: names, fields, word lists, decode rows ===== -/
def RX0 : String := "WedgeHarps$Chord"
def TX0 : u_T := fun k => match k with
  | 0 => ("WedgeHarps$Chord", "tones", "[I", true)
  | 1 => ("WedgeHarps$Chord", "lowest", "I", false)
  | _ => ("WedgeHarps$Chord", "size", "I", false)
def tyX0 : Nat → FieldType := fun k => match k with
  | 0 => .array .int
  | 1 => .int
  | _ => .int
abbrev wsX00 : List Cond := u_ws RX0 TX0 3
theorem nmX0 : ∀ a, a < 3 → ∀ b, b < 3 → a ≠ b → (TX0 a).2.1 ≠ (TX0 b).2.1 := by decide +kernel
theorem tyX0_ok : ∀ k, k < 3 → parseFieldDescriptor (TX0 k).2.2.1 = some (tyX0 k) := by decide +kernel
abbrev cX0_init : ByteArray := prog_2_method_1_code
def yX0_init : MethodName := ⟨RX0, "<init>", "()V"⟩
abbrev cX0_place : ByteArray := prog_2_method_2_code
def yX0_place : MethodName := ⟨RX0, "place", "(II)V"⟩
abbrev cX0_tune : ByteArray := prog_2_method_3_code
def yX0_tune : MethodName := ⟨RX0, "tune", "(IIII)V"⟩
def RX1 : String := "WedgeHarps$Harp"
def TX1 : u_T := fun k => match k with
  | 0 => ("WedgeHarps$Harp", "base", "[I", true)
  | 1 => ("WedgeHarps$Harp", "wedge", "[I", true)
  | 2 => ("WedgeHarps$Harp", "drift", "[I", true)
  | 3 => ("WedgeHarps$Harp", "strain", "[I", true)
  | 4 => ("WedgeHarps$Harp", "breaks", "[I", true)
  | 5 => ("WedgeHarps$Harp", "whole", "[Z", true)
  | 6 => ("WedgeHarps$Harp", "swelling", "I", false)
  | _ => ("WedgeHarps$Harp", "hour", "I", false)
def tyX1 : Nat → FieldType := fun k => match k with
  | 0 => .array .int
  | 1 => .array .int
  | 2 => .array .int
  | 3 => .array .int
  | 4 => .array .int
  | 5 => .array .boolean
  | 6 => .int
  | _ => .int
abbrev wsX10 : List Cond := u_ws RX1 TX1 8
theorem nmX1 : ∀ a, a < 8 → ∀ b, b < 8 → a ≠ b → (TX1 a).2.1 ≠ (TX1 b).2.1 := by decide +kernel
theorem tyX1_ok : ∀ k, k < 8 → parseFieldDescriptor (TX1 k).2.2.1 = some (tyX1 k) := by decide +kernel
abbrev cX1_init : ByteArray := prog_3_method_1_code
def yX1_init : MethodName := ⟨RX1, "<init>", "()V"⟩
abbrev cX1_copy : ByteArray := prog_3_method_2_code
def yX1_copy : MethodName := ⟨RX1, "copy", "(LWedgeHarps$Harp;)V"⟩
abbrev cX1_renew : ByteArray := prog_3_method_3_code
def yX1_renew : MethodName := ⟨RX1, "renew", "(II)V"⟩
abbrev cX1_takesPush : ByteArray := prog_3_method_4_code
def yX1_takesPush : MethodName := ⟨RX1, "takesPush", "(II)Z"⟩
abbrev cX1_toneOf : ByteArray := prog_3_method_5_code
def yX1_toneOf : MethodName := ⟨RX1, "toneOf", "(I)I"⟩
abbrev cX1_factOf : ByteArray := prog_3_method_6_code
def yX1_factOf : MethodName := ⟨RX1, "factOf", "(II)I"⟩
abbrev cX1_wholeStrings : ByteArray := prog_3_method_7_code
def yX1_wholeStrings : MethodName := ⟨RX1, "wholeStrings", "()I"⟩
abbrev cX1_sumOfTones : ByteArray := prog_3_method_8_code
def yX1_sumOfTones : MethodName := ⟨RX1, "sumOfTones", "()I"⟩
abbrev cX1_distanceFrom : ByteArray := prog_3_method_9_code
def yX1_distanceFrom : MethodName := ⟨RX1, "distanceFrom", "(LWedgeHarps$Chord;)I"⟩
abbrev cX1_isTunedTo : ByteArray := prog_3_method_10_code
def yX1_isTunedTo : MethodName := ⟨RX1, "isTunedTo", "(LWedgeHarps$Chord;)Z"⟩
abbrev cX1_fitsPushed : ByteArray := prog_3_method_11_code
def yX1_fitsPushed : MethodName := ⟨RX1, "fitsPushed", "(LWedgeHarps$Chord;III)Z"⟩
abbrev cX1_hourOfTable : ByteArray := prog_3_method_12_code
def yX1_hourOfTable : MethodName := ⟨RX1, "hourOfTable", "()I"⟩
abbrev cX1_spendHour : ByteArray := prog_3_method_13_code
def yX1_spendHour : MethodName := ⟨RX1, "spendHour", "(IIII)I"⟩
abbrev cX1_breaksIn : ByteArray := prog_3_method_14_code
def yX1_breaksIn : MethodName := ⟨RX1, "breaksIn", "(II)Z"⟩
abbrev cX1_slip : ByteArray := prog_3_method_15_code
def yX1_slip : MethodName := ⟨RX1, "slip", "(II)V"⟩
abbrev cX1_swell : ByteArray := prog_3_method_16_code
def yX1_swell : MethodName := ⟨RX1, "swell", "(I)V"⟩
def RX2 : String := "WedgeHarps"
def TX2 : u_T := fun k => match k with
  | 0 => ("WedgeHarps", "now", "LWedgeHarps$Harp;", true)
  | 1 => ("WedgeHarps", "later", "LWedgeHarps$Harp;", true)
  | 2 => ("WedgeHarps", "windTable", "[I", true)
  | 3 => ("WedgeHarps", "dampTable", "[I", true)
  | 4 => ("WedgeHarps", "chords", "[LWedgeHarps$Chord;", true)
  | _ => ("WedgeHarps", "told", "I", false)
def tyX2 : Nat → FieldType := fun k => match k with
  | 0 => .object "WedgeHarps$Harp"
  | 1 => .object "WedgeHarps$Harp"
  | 2 => .array .int
  | 3 => .array .int
  | 4 => .array (.object "WedgeHarps$Chord")
  | _ => .int
abbrev wsX20 : List Cond := u_ws RX2 TX2 6
theorem nmX2 : ∀ a, a < 6 → ∀ b, b < 6 → a ≠ b → (TX2 a).2.1 ≠ (TX2 b).2.1 := by decide +kernel
theorem tyX2_ok : ∀ k, k < 6 → parseFieldDescriptor (TX2 k).2.2.1 = some (tyX2 k) := by decide +kernel
abbrev cX2_init : ByteArray := prog_1_method_1_code
def yX2_init : MethodName := ⟨RX2, "<init>", "()V"⟩
abbrev cX2_push : ByteArray := prog_1_method_2_code
def yX2_push : MethodName := ⟨RX2, "push", "(II)I"⟩
abbrev cX2_draw : ByteArray := prog_1_method_3_code
def yX2_draw : MethodName := ⟨RX2, "draw", "(II)I"⟩
abbrev cX2_setWeather : ByteArray := prog_1_method_4_code
def yX2_setWeather : MethodName := ⟨RX2, "setWeather", "(III)I"⟩
abbrev cX2_string : ByteArray := prog_1_method_5_code
def yX2_string : MethodName := ⟨RX2, "string", "(II)I"⟩
abbrev cX2_moves : ByteArray := prog_1_method_6_code
def yX2_moves : MethodName := ⟨RX2, "moves", "(III)I"⟩
abbrev cX2_chord : ByteArray := prog_1_method_7_code
def yX2_chord : MethodName := ⟨RX2, "chord", "(IIIII)I"⟩
abbrev cX2_off : ByteArray := prog_1_method_8_code
def yX2_off : MethodName := ⟨RX2, "off", "(I)I"⟩
abbrev cX2_sounds : ByteArray := prog_1_method_9_code
def yX2_sounds : MethodName := ⟨RX2, "sounds", "(I)Z"⟩
abbrev cX2_steps : ByteArray := prog_1_method_10_code
def yX2_steps : MethodName := ⟨RX2, "steps", "(I)I"⟩
abbrev cX2_pass : ByteArray := prog_1_method_11_code
def yX2_pass : MethodName := ⟨RX2, "pass", "(I)I"⟩
abbrev cX2_count : ByteArray := prog_1_method_12_code
def yX2_count : MethodName := ⟨RX2, "count", "(I)I"⟩
abbrev cX2_bears : ByteArray := prog_1_method_13_code
def yX2_bears : MethodName := ⟨RX2, "bears", "(I)I"⟩
abbrev cX2_first : ByteArray := prog_1_method_14_code
def yX2_first : MethodName := ⟨RX2, "first", "()I"⟩
abbrev cX2_holds : ByteArray := prog_1_method_15_code
def yX2_holds : MethodName := ⟨RX2, "holds", "(I)I"⟩
abbrev cX2_foresee : ByteArray := prog_1_method_16_code
def yX2_foresee : MethodName := ⟨RX2, "foresee", "(II)I"⟩
abbrev cX2_mean : ByteArray := prog_1_method_17_code
def yX2_mean : MethodName := ⟨RX2, "mean", "()D"⟩
abbrev cX2_digest : ByteArray := prog_1_method_18_code
def yX2_digest : MethodName := ⟨RX2, "digest", "()J"⟩
abbrev cX2_checkString : ByteArray := prog_1_method_19_code
def yX2_checkString : MethodName := ⟨RX2, "checkString", "(I)V"⟩
abbrev cX2_checkWedgeSteps : ByteArray := prog_1_method_20_code
def yX2_checkWedgeSteps : MethodName := ⟨RX2, "checkWedgeSteps", "(I)V"⟩
abbrev cX2_checkTone : ByteArray := prog_1_method_21_code
def yX2_checkTone : MethodName := ⟨RX2, "checkTone", "(II)V"⟩
abbrev cX2_checkHours : ByteArray := prog_1_method_22_code
def yX2_checkHours : MethodName := ⟨RX2, "checkHours", "(I)V"⟩
abbrev cX2_checkChord : ByteArray := prog_1_method_23_code
def yX2_checkChord : MethodName := ⟨RX2, "checkChord", "(I)V"⟩
abbrev cX2_weatherAt : ByteArray := prog_1_method_24_code
def yX2_weatherAt : MethodName := ⟨RX2, "weatherAt", "(I)I"⟩
abbrev cX2_countOf : ByteArray := prog_1_method_25_code
def yX2_countOf : MethodName := ⟨RX2, "countOf", "(I)I"⟩
abbrev cX2_soundingChords : ByteArray := prog_1_method_26_code
def yX2_soundingChords : MethodName := ⟨RX2, "soundingChords", "()I"⟩
abbrev cX2_sumOf : ByteArray := prog_1_method_27_code
def yX2_sumOf : MethodName := ⟨RX2, "sumOf", "([I)I"⟩
abbrev cX2_digestWith : ByteArray := prog_1_method_28_code
def yX2_digestWith : MethodName := ⟨RX2, "digestWith", "(JLWedgeHarps$Chord;)J"⟩
abbrev cX2_letHourGo : ByteArray := prog_1_method_29_code
def yX2_letHourGo : MethodName := ⟨RX2, "letHourGo", "(LWedgeHarps$Harp;II)I"⟩
abbrev cX2_withstands : ByteArray := prog_1_method_30_code
def yX2_withstands : MethodName := ⟨RX2, "withstands", "(II)Z"⟩
abbrev cX2_lowestToBreak : ByteArray := prog_1_method_31_code
def yX2_lowestToBreak : MethodName := ⟨RX2, "lowestToBreak", "()I"⟩
abbrev cX2_fewestSteps : ByteArray := prog_1_method_32_code
def yX2_fewestSteps : MethodName := ⟨RX2, "fewestSteps", "(LWedgeHarps$Harp;LWedgeHarps$Chord;III)I"⟩
def RX3 : String := "WedgeHarpsModel"
def TX3 : u_T := fun k => match k with
  | 0 => ("WedgeHarpsModel", "thrown", "I", false)
  | 1 => ("WedgeHarpsModel", "harp", "[I", true)
  | 2 => ("WedgeHarpsModel", "chords", "I", false)
  | 3 => ("WedgeHarpsModel", "told", "[I", true)
  | 4 => ("WedgeHarpsModel", "winds", "[I", true)
  | 5 => ("WedgeHarpsModel", "damps", "[I", true)
  | 6 => ("WedgeHarpsModel", "numbers", "[I", true)
  | _ => ("WedgeHarpsModel", "pushed", "[I", true)
def tyX3 : Nat → FieldType := fun k => match k with
  | 0 => .int
  | 1 => .array .int
  | 2 => .int
  | 3 => .array .int
  | 4 => .array .int
  | 5 => .array .int
  | 6 => .array .int
  | _ => .array .int
abbrev wsX30 : List Cond := u_ws RX3 TX3 8
theorem nmX3 : ∀ a, a < 8 → ∀ b, b < 8 → a ≠ b → (TX3 a).2.1 ≠ (TX3 b).2.1 := by decide +kernel
theorem tyX3_ok : ∀ k, k < 8 → parseFieldDescriptor (TX3 k).2.2.1 = some (tyX3 k) := by decide +kernel
abbrev cX3_init : ByteArray := prog_5_method_1_code
def yX3_init : MethodName := ⟨RX3, "<init>", "()V"⟩
abbrev cX3_thrown : ByteArray := prog_5_method_2_code
def yX3_thrown : MethodName := ⟨RX3, "thrown", "()I"⟩
abbrev cX3_fail : ByteArray := prog_5_method_3_code
def yX3_fail : MethodName := ⟨RX3, "fail", "(I)I"⟩
abbrev cX3_isIn : ByteArray := prog_5_method_4_code
def yX3_isIn : MethodName := ⟨RX3, "isIn", "(III)Z"⟩
abbrev cX3_isString : ByteArray := prog_5_method_5_code
def yX3_isString : MethodName := ⟨RX3, "isString", "(I)Z"⟩
abbrev cX3_ha : ByteArray := prog_5_method_6_code
def yX3_ha : MethodName := ⟨RX3, "ha", "(II)I"⟩
abbrev cX3_put : ByteArray := prog_5_method_7_code
def yX3_put : MethodName := ⟨RX3, "put", "(III)V"⟩
abbrev cX3_wedge : ByteArray := prog_5_method_8_code
def yX3_wedge : MethodName := ⟨RX3, "wedge", "(I)I"⟩
abbrev cX3_tone : ByteArray := prog_5_method_9_code
def yX3_tone : MethodName := ⟨RX3, "tone", "(I)I"⟩
abbrev cX3_push : ByteArray := prog_5_method_10_code
def yX3_push : MethodName := ⟨RX3, "push", "(II)I"⟩
abbrev cX3_draw : ByteArray := prog_5_method_11_code
def yX3_draw : MethodName := ⟨RX3, "draw", "(II)I"⟩
abbrev cX3_setWeather : ByteArray := prog_5_method_12_code
def yX3_setWeather : MethodName := ⟨RX3, "setWeather", "(III)I"⟩
abbrev cX3_stringTold : ByteArray := prog_5_method_13_code
def yX3_stringTold : MethodName := ⟨RX3, "stringTold", "(II)I"⟩
abbrev cX3_string : ByteArray := prog_5_method_14_code
def yX3_string : MethodName := ⟨RX3, "string", "(II)I"⟩
abbrev cX3_moves : ByteArray := prog_5_method_15_code
def yX3_moves : MethodName := ⟨RX3, "moves", "(III)I"⟩
abbrev cX3_chord : ByteArray := prog_5_method_16_code
def yX3_chord : MethodName := ⟨RX3, "chord", "(IIIII)I"⟩
abbrev cX3_isChord : ByteArray := prog_5_method_17_code
def yX3_isChord : MethodName := ⟨RX3, "isChord", "(I)Z"⟩
abbrev cX3_to : ByteArray := prog_5_method_18_code
def yX3_to : MethodName := ⟨RX3, "to", "(II)I"⟩
abbrev cX3_differs : ByteArray := prog_5_method_19_code
def yX3_differs : MethodName := ⟨RX3, "differs", "(II)I"⟩
abbrev cX3_offBy : ByteArray := prog_5_method_20_code
def yX3_offBy : MethodName := ⟨RX3, "offBy", "(I)I"⟩
abbrev cX3_off : ByteArray := prog_5_method_21_code
def yX3_off : MethodName := ⟨RX3, "off", "(I)I"⟩
abbrev cX3_isSounding : ByteArray := prog_5_method_22_code
def yX3_isSounding : MethodName := ⟨RX3, "isSounding", "(I)Z"⟩
abbrev cX3_sounds : ByteArray := prog_5_method_23_code
def yX3_sounds : MethodName := ⟨RX3, "sounds", "(I)Z"⟩
abbrev cX3_steps : ByteArray := prog_5_method_24_code
def yX3_steps : MethodName := ⟨RX3, "steps", "(I)I"⟩
abbrev cX3_hourOn : ByteArray := prog_5_method_25_code
def yX3_hourOn : MethodName := ⟨RX3, "hourOn", "(I)I"⟩
abbrev cX3_hourOn_ : ByteArray := prog_5_method_26_code
def yX3_hourOn_ : MethodName := ⟨RX3, "hourOn", "()I"⟩
abbrev cX3_pass : ByteArray := prog_5_method_27_code
def yX3_pass : MethodName := ⟨RX3, "pass", "(I)I"⟩
abbrev cX3_counted : ByteArray := prog_5_method_28_code
def yX3_counted : MethodName := ⟨RX3, "counted", "(I)I"⟩
abbrev cX3_count : ByteArray := prog_5_method_29_code
def yX3_count : MethodName := ⟨RX3, "count", "(I)I"⟩
abbrev cX3_kept : ByteArray := prog_5_method_30_code
def yX3_kept : MethodName := ⟨RX3, "kept", "()[[I"⟩
abbrev cX3_bringBack : ByteArray := prog_5_method_31_code
def yX3_bringBack : MethodName := ⟨RX3, "bringBack", "([[I)V"⟩
abbrev cX3_bears : ByteArray := prog_5_method_32_code
def yX3_bears : MethodName := ⟨RX3, "bears", "(I)I"⟩
abbrev cX3_first : ByteArray := prog_5_method_33_code
def yX3_first : MethodName := ⟨RX3, "first", "()I"⟩
abbrev cX3_holds : ByteArray := prog_5_method_34_code
def yX3_holds : MethodName := ⟨RX3, "holds", "(I)I"⟩
abbrev cX3_foresee : ByteArray := prog_5_method_35_code
def yX3_foresee : MethodName := ⟨RX3, "foresee", "(II)I"⟩
abbrev cX3_mean : ByteArray := prog_5_method_36_code
def yX3_mean : MethodName := ⟨RX3, "mean", "()D"⟩
abbrev cX3_digest : ByteArray := prog_5_method_37_code
def yX3_digest : MethodName := ⟨RX3, "digest", "()J"⟩
def RJx8e188 : String := "java/lang/Cloneable"
def TJx8e188 : u_T := fun k => match k with
  | _ => ("", "", "", false)
def tyJx8e188 : Nat → FieldType := fun k => match k with
  | _ => .int
abbrev wsJx8e1880 : List Cond := u_ws RJx8e188 TJx8e188 0
theorem nmJx8e188 : ∀ a, a < 0 → ∀ b, b < 0 → a ≠ b → (TJx8e188 a).2.1 ≠ (TJx8e188 b).2.1 := by decide +kernel
theorem tyJx8e188_ok : ∀ k, k < 0 → parseFieldDescriptor (TJx8e188 k).2.2.1 = some (tyJx8e188 k) := by decide +kernel
def RJ6 : String := "java/lang/Integer"
def TJ6 : u_T := fun k => match k with
  | _ => ("", "", "", false)
def tyJ6 : Nat → FieldType := fun k => match k with
  | _ => .int
abbrev wsJ60 : List Cond := u_ws RJ6 TJ6 0
theorem nmJ6 : ∀ a, a < 0 → ∀ b, b < 0 → a ≠ b → (TJ6 a).2.1 ≠ (TJ6 b).2.1 := by decide +kernel
theorem tyJ6_ok : ∀ k, k < 0 → parseFieldDescriptor (TJ6 k).2.2.1 = some (tyJ6 k) := by decide +kernel
abbrev cJ6_numberOfTrailingZeros_0f7a4 : ByteArray := prog_11_method_48_code
def yJ6_numberOfTrailingZeros_0f7a4 : MethodName := ⟨RJ6, "numberOfTrailingZeros", "(I)I"⟩
abbrev cJ6_bitCount_0f7a4 : ByteArray := prog_11_method_49_code
def yJ6_bitCount_0f7a4 : MethodName := ⟨RJ6, "bitCount", "(I)I"⟩
def RJ9 : String := "java/lang/Math"
def TJ9 : u_T := fun k => match k with
  | _ => ("", "", "", false)
def tyJ9 : Nat → FieldType := fun k => match k with
  | _ => .int
abbrev wsJ90 : List Cond := u_ws RJ9 TJ9 0
theorem nmJ9 : ∀ a, a < 0 → ∀ b, b < 0 → a ≠ b → (TJ9 a).2.1 ≠ (TJ9 b).2.1 := by decide +kernel
theorem tyJ9_ok : ∀ k, k < 0 → parseFieldDescriptor (TJ9 k).2.2.1 = some (tyJ9 k) := by decide +kernel
abbrev cJ9_floorMod_7cf53 : ByteArray := prog_12_method_50_code
def yJ9_floorMod_7cf53 : MethodName := ⟨RJ9, "floorMod", "(II)I"⟩
abbrev cJ9_abs_0f7a4 : ByteArray := prog_12_method_59_code
def yJ9_abs_0f7a4 : MethodName := ⟨RJ9, "abs", "(I)I"⟩
abbrev cJ9_max_7cf53 : ByteArray := prog_12_method_65_code
def yJ9_max_7cf53 : MethodName := ⟨RJ9, "max", "(II)I"⟩
abbrev cJ9_min_7cf53 : ByteArray := prog_12_method_69_code
def yJ9_min_7cf53 : MethodName := ⟨RJ9, "min", "(II)I"⟩
def RJ0 : String := "java/lang/String"
def TJ0 : u_T := fun k => match k with
  | _ => ("", "", "", false)
def tyJ0 : Nat → FieldType := fun k => match k with
  | _ => .int
abbrev wsJ00 : List Cond := u_ws RJ0 TJ0 0
theorem nmJ0 : ∀ a, a < 0 → ∀ b, b < 0 → a ≠ b → (TJ0 a).2.1 ≠ (TJ0 b).2.1 := by decide +kernel
theorem tyJ0_ok : ∀ k, k < 0 → parseFieldDescriptor (TJ0 k).2.2.1 = some (tyJ0 k) := by decide +kernel
def RJ10 : String := "java/lang/System"
def TJ10 : u_T := fun k => match k with
  | _ => ("", "", "", false)
def tyJ10 : Nat → FieldType := fun k => match k with
  | _ => .int
abbrev wsJ100 : List Cond := u_ws RJ10 TJ10 0
theorem nmJ10 : ∀ a, a < 0 → ∀ b, b < 0 → a ≠ b → (TJ10 a).2.1 ≠ (TJ10 b).2.1 := by decide +kernel
theorem tyJ10_ok : ∀ k, k < 0 → parseFieldDescriptor (TJ10 k).2.2.1 = some (tyJ10 k) := by decide +kernel
def RL : String := "WedgeHarpsLaw"
abbrev cL_push : ByteArray := method_3_code
def yL_push : MethodName := ⟨RL, "push", "(LWedgeHarps;II[J)I"⟩
abbrev cL_draw : ByteArray := method_4_code
def yL_draw : MethodName := ⟨RL, "draw", "(LWedgeHarps;II[J)I"⟩
abbrev cL_setWeather : ByteArray := method_5_code
def yL_setWeather : MethodName := ⟨RL, "setWeather", "(LWedgeHarps;III[J)I"⟩
abbrev cL_string : ByteArray := method_6_code
def yL_string : MethodName := ⟨RL, "string", "(LWedgeHarps;II[J)I"⟩
abbrev cL_moves : ByteArray := method_7_code
def yL_moves : MethodName := ⟨RL, "moves", "(LWedgeHarps;III[J)I"⟩
abbrev cL_chord : ByteArray := method_8_code
def yL_chord : MethodName := ⟨RL, "chord", "(LWedgeHarps;IIIII[J)I"⟩
abbrev cL_off : ByteArray := method_9_code
def yL_off : MethodName := ⟨RL, "off", "(LWedgeHarps;I[J)I"⟩
abbrev cL_sounds : ByteArray := method_10_code
def yL_sounds : MethodName := ⟨RL, "sounds", "(LWedgeHarps;I[J)I"⟩
abbrev cL_steps : ByteArray := method_11_code
def yL_steps : MethodName := ⟨RL, "steps", "(LWedgeHarps;I[J)I"⟩
abbrev cL_pass : ByteArray := method_12_code
def yL_pass : MethodName := ⟨RL, "pass", "(LWedgeHarps;I[J)I"⟩
abbrev cL_count : ByteArray := method_13_code
def yL_count : MethodName := ⟨RL, "count", "(LWedgeHarps;I[J)I"⟩
abbrev cL_bears : ByteArray := method_14_code
def yL_bears : MethodName := ⟨RL, "bears", "(LWedgeHarps;I[J)I"⟩
abbrev cL_holds : ByteArray := method_15_code
def yL_holds : MethodName := ⟨RL, "holds", "(LWedgeHarps;I[J)I"⟩
abbrev cL_foresee : ByteArray := method_16_code
def yL_foresee : MethodName := ⟨RL, "foresee", "(LWedgeHarps;II[J)I"⟩
abbrev cL_law : ByteArray := code
def yL_law : MethodName := ⟨RL, "law", "([I)Z"⟩
def wsX0_init : List Cond := .code yX0_init cX0_init 1 none :: ([.methodLink RX0 3 objectInit, .instanceMethod objectInit, .code objectInit ⟨#[0xb1]⟩ 1 none, .arrayClass .int, .fieldLink RX0 9 "WedgeHarps$Chord" "tones" "[I", .fieldLink RX0 15 "WedgeHarps$Chord" "lowest" "I", .fieldLink RX0 19 "WedgeHarps$Chord" "size" "I"] ++ wsX00)
def wsX0_place : List Cond := .code yX0_place cX0_place 3 none :: ([.fieldLink RX0 15 "WedgeHarps$Chord" "lowest" "I", .fieldLink RX0 19 "WedgeHarps$Chord" "size" "I"] ++ wsX00)
def wsX0_tune : List Cond := .code yX0_tune cX0_tune 5 none :: ([.fieldLink RX0 9 "WedgeHarps$Chord" "tones" "[I"] ++ wsX00)
def wsX1_init : List Cond := .code yX1_init cX1_init 2 none :: ([.methodLink RX1 3 objectInit, .instanceMethod objectInit, .code objectInit ⟨#[0xb1]⟩ 1 none, .arrayClass .int, .fieldLink RX1 9 "WedgeHarps$Harp" "base" "[I", .fieldLink RX1 15 "WedgeHarps$Harp" "wedge" "[I", .fieldLink RX1 18 "WedgeHarps$Harp" "drift" "[I", .fieldLink RX1 21 "WedgeHarps$Harp" "strain" "[I", .fieldLink RX1 24 "WedgeHarps$Harp" "breaks" "[I", .arrayClass .boolean, .fieldLink RX1 27 "WedgeHarps$Harp" "whole" "[Z", .fieldLink RX1 31 "WedgeHarps$Harp" "swelling" "I", .fieldLink RX1 35 "WedgeHarps$Harp" "hour" "I"] ++ wsX10)
def wsX1_copy : List Cond := .code yX1_copy cX1_copy 3 none :: ([.fieldLink RX1 9 "WedgeHarps$Harp" "base" "[I", .fieldLink RX1 15 "WedgeHarps$Harp" "wedge" "[I", .fieldLink RX1 18 "WedgeHarps$Harp" "drift" "[I", .fieldLink RX1 21 "WedgeHarps$Harp" "strain" "[I", .fieldLink RX1 24 "WedgeHarps$Harp" "breaks" "[I", .fieldLink RX1 27 "WedgeHarps$Harp" "whole" "[Z", .fieldLink RX1 31 "WedgeHarps$Harp" "swelling" "I", .fieldLink RX1 35 "WedgeHarps$Harp" "hour" "I"] ++ wsX10)
def wsX1_renew : List Cond := .code yX1_renew cX1_renew 3 none :: ([.fieldLink RX1 9 "WedgeHarps$Harp" "base" "[I", .fieldLink RX1 18 "WedgeHarps$Harp" "drift" "[I", .fieldLink RX1 21 "WedgeHarps$Harp" "strain" "[I", .fieldLink RX1 27 "WedgeHarps$Harp" "whole" "[Z"] ++ wsX10)
def wsX1_takesPush : List Cond := .code yX1_takesPush cX1_takesPush 4 (some .boolean) :: ([.fieldLink RX1 15 "WedgeHarps$Harp" "wedge" "[I"] ++ wsX10)
def wsX1_toneOf : List Cond := .code yX1_toneOf cX1_toneOf 3 (some .int) :: ([.fieldLink RX1 27 "WedgeHarps$Harp" "whole" "[Z", .fieldLink RX1 15 "WedgeHarps$Harp" "wedge" "[I", .fieldLink RX1 9 "WedgeHarps$Harp" "base" "[I", .fieldLink RX1 18 "WedgeHarps$Harp" "drift" "[I", .fieldLink RX1 31 "WedgeHarps$Harp" "swelling" "I"] ++ wsX10)
def wsX1_factOf : List Cond := .code yX1_factOf cX1_factOf 3 (some .int) :: ([.fieldLink RX1 9 "WedgeHarps$Harp" "base" "[I", .fieldLink RX1 15 "WedgeHarps$Harp" "wedge" "[I", .fieldLink RX1 18 "WedgeHarps$Harp" "drift" "[I", .fieldLink RX1 21 "WedgeHarps$Harp" "strain" "[I", .fieldLink RX1 27 "WedgeHarps$Harp" "whole" "[Z", .fieldLink RX1 24 "WedgeHarps$Harp" "breaks" "[I", .methodLink RX1 38 yX1_toneOf, .instanceMethod yX1_toneOf, .selects RX1 yX1_toneOf yX1_toneOf, .initialized RX1, .code yX1_toneOf cX1_toneOf 3 (some .int), .fieldLink RX1 31 "WedgeHarps$Harp" "swelling" "I"] ++ wsX10)
def wsX1_wholeStrings : List Cond := .code yX1_wholeStrings cX1_wholeStrings 3 (some .int) :: ([.fieldLink RX1 27 "WedgeHarps$Harp" "whole" "[Z"] ++ wsX10)
def wsX1_sumOfTones : List Cond := .code yX1_sumOfTones cX1_sumOfTones 3 (some .int) :: ([.methodLink RX1 38 yX1_toneOf, .instanceMethod yX1_toneOf, .selects RX1 yX1_toneOf yX1_toneOf, .initialized RX1, .code yX1_toneOf cX1_toneOf 3 (some .int), .fieldLink RX1 27 "WedgeHarps$Harp" "whole" "[Z", .fieldLink RX1 15 "WedgeHarps$Harp" "wedge" "[I", .fieldLink RX1 9 "WedgeHarps$Harp" "base" "[I", .fieldLink RX1 18 "WedgeHarps$Harp" "drift" "[I", .fieldLink RX1 31 "WedgeHarps$Harp" "swelling" "I"] ++ wsX10)
def wsX1_distanceFrom : List Cond := .code yX1_distanceFrom cX1_distanceFrom 4 (some .int) :: ([.fieldLink RX1 42 "WedgeHarps$Chord" "size" "I", .fieldLink RX1 47 "WedgeHarps$Chord" "lowest" "I", .fieldLink RX1 50 "WedgeHarps$Chord" "tones" "[I", .methodLink RX1 53 Lib.Math.abs.name, .static Lib.Math.abs.name, .initialized "java/lang/Math", .code Lib.Math.abs.name Lib.Math.abs.code 1 (some .int), .methodLink RX1 38 yX1_toneOf, .instanceMethod yX1_toneOf, .selects RX1 yX1_toneOf yX1_toneOf, .initialized RX1, .code yX1_toneOf cX1_toneOf 3 (some .int), .fieldLink RX1 27 "WedgeHarps$Harp" "whole" "[Z", .fieldLink RX1 15 "WedgeHarps$Harp" "wedge" "[I", .fieldLink RX1 9 "WedgeHarps$Harp" "base" "[I", .fieldLink RX1 18 "WedgeHarps$Harp" "drift" "[I", .fieldLink RX1 31 "WedgeHarps$Harp" "swelling" "I"] ++ wsX00 ++ wsX10)
def wsX1_fitsPushed : List Cond := .code yX1_fitsPushed cX1_fitsPushed 7 (some .boolean) :: ([.fieldLink RX1 47 "WedgeHarps$Chord" "lowest" "I", .fieldLink RX1 27 "WedgeHarps$Harp" "whole" "[Z", .fieldLink RX1 50 "WedgeHarps$Chord" "tones" "[I", .methodLink RX1 53 Lib.Math.abs.name, .static Lib.Math.abs.name, .initialized "java/lang/Math", .code Lib.Math.abs.name Lib.Math.abs.code 1 (some .int), .methodLink RX1 38 yX1_toneOf, .instanceMethod yX1_toneOf, .selects RX1 yX1_toneOf yX1_toneOf, .initialized RX1, .code yX1_toneOf cX1_toneOf 3 (some .int), .fieldLink RX1 15 "WedgeHarps$Harp" "wedge" "[I", .fieldLink RX1 9 "WedgeHarps$Harp" "base" "[I", .fieldLink RX1 18 "WedgeHarps$Harp" "drift" "[I", .fieldLink RX1 31 "WedgeHarps$Harp" "swelling" "I"] ++ wsX00 ++ wsX10)
def wsX1_isTunedTo : List Cond := .code yX1_isTunedTo cX1_isTunedTo 3 (some .boolean) :: ([.fieldLink RX1 42 "WedgeHarps$Chord" "size" "I", .methodLink RX1 58 yX1_fitsPushed, .instanceMethod yX1_fitsPushed, .selects RX1 yX1_fitsPushed yX1_fitsPushed, .initialized RX1, .code yX1_fitsPushed cX1_fitsPushed 7 (some .boolean), .fieldLink RX1 47 "WedgeHarps$Chord" "lowest" "I", .fieldLink RX1 27 "WedgeHarps$Harp" "whole" "[Z", .fieldLink RX1 50 "WedgeHarps$Chord" "tones" "[I", .methodLink RX1 53 Lib.Math.abs.name, .static Lib.Math.abs.name, .initialized "java/lang/Math", .code Lib.Math.abs.name Lib.Math.abs.code 1 (some .int), .methodLink RX1 38 yX1_toneOf, .instanceMethod yX1_toneOf, .selects RX1 yX1_toneOf yX1_toneOf, .code yX1_toneOf cX1_toneOf 3 (some .int), .fieldLink RX1 15 "WedgeHarps$Harp" "wedge" "[I", .fieldLink RX1 9 "WedgeHarps$Harp" "base" "[I", .fieldLink RX1 18 "WedgeHarps$Harp" "drift" "[I", .fieldLink RX1 31 "WedgeHarps$Harp" "swelling" "I"] ++ wsX00 ++ wsX10)
def wsJ9_floorMod_7cf53 : List Cond := .code yJ9_floorMod_7cf53 cJ9_floorMod_7cf53 3 (some .int) :: ([])
def wsX1_hourOfTable : List Cond := .code yX1_hourOfTable cX1_hourOfTable 1 (some .int) :: ([.fieldLink RX1 35 "WedgeHarps$Harp" "hour" "I", .methodLink RX1 62 yJ9_floorMod_7cf53, .static yJ9_floorMod_7cf53, .initialized RJ9, .code yJ9_floorMod_7cf53 cJ9_floorMod_7cf53 3 (some .int)] ++ wsX10)
def wsX1_breaksIn : List Cond := .code yX1_breaksIn cX1_breaksIn 4 (some .boolean) :: ([.fieldLink RX1 21 "WedgeHarps$Harp" "strain" "[I", .methodLink RX1 78 Lib.Math.max.name, .static Lib.Math.max.name, .initialized "java/lang/Math", .code Lib.Math.max.name Lib.Math.max.code 2 (some .int), .fieldLink RX1 27 "WedgeHarps$Harp" "whole" "[Z", .fieldLink RX1 18 "WedgeHarps$Harp" "drift" "[I", .fieldLink RX1 24 "WedgeHarps$Harp" "breaks" "[I", .methodLink RX1 38 yX1_toneOf, .instanceMethod yX1_toneOf, .selects RX1 yX1_toneOf yX1_toneOf, .initialized RX1, .code yX1_toneOf cX1_toneOf 3 (some .int), .fieldLink RX1 15 "WedgeHarps$Harp" "wedge" "[I", .fieldLink RX1 9 "WedgeHarps$Harp" "base" "[I", .fieldLink RX1 31 "WedgeHarps$Harp" "swelling" "I"] ++ wsX10)
def wsX1_slip : List Cond := .code yX1_slip cX1_slip 3 none :: ([.fieldLink RX1 21 "WedgeHarps$Harp" "strain" "[I", .fieldLink RX1 18 "WedgeHarps$Harp" "drift" "[I", .methodLink RX1 78 Lib.Math.max.name, .static Lib.Math.max.name, .initialized "java/lang/Math", .code Lib.Math.max.name Lib.Math.max.code 2 (some .int), .methodLink RX1 81 Lib.Math.min.name, .static Lib.Math.min.name, .code Lib.Math.min.name Lib.Math.min.code 2 (some .int)] ++ wsX10)
def wsX1_swell : List Cond := .code yX1_swell cX1_swell 2 none :: ([.fieldLink RX1 31 "WedgeHarps$Harp" "swelling" "I", .methodLink RX1 81 Lib.Math.min.name, .static Lib.Math.min.name, .initialized "java/lang/Math", .code Lib.Math.min.name Lib.Math.min.code 2 (some .int), .methodLink RX1 78 Lib.Math.max.name, .static Lib.Math.max.name, .code Lib.Math.max.name Lib.Math.max.code 2 (some .int)] ++ wsX10)
def wsX1_spendHour_r1 : List Cond := [Cond.fieldLink RX1 27 "WedgeHarps$Harp" "whole" "[Z", Cond.fieldLink RX1 35 "WedgeHarps$Harp" "hour" "I", Cond.methodLink RX1 66 yX1_breaksIn, Cond.instanceMethod yX1_breaksIn, Cond.selects RX1 yX1_breaksIn yX1_breaksIn, Cond.initialized RX1, Cond.code yX1_breaksIn cX1_breaksIn 4 (some .boolean), Cond.fieldLink RX1 21 "WedgeHarps$Harp" "strain" "[I", Cond.methodLink RX1 78 Lib.Math.max.name, Cond.static Lib.Math.max.name, Cond.initialized "java/lang/Math", Cond.code Lib.Math.max.name Lib.Math.max.code 2 (some .int), Cond.fieldLink RX1 18 "WedgeHarps$Harp" "drift" "[I", Cond.fieldLink RX1 24 "WedgeHarps$Harp" "breaks" "[I", Cond.methodLink RX1 38 yX1_toneOf, Cond.instanceMethod yX1_toneOf, Cond.selects RX1 yX1_toneOf yX1_toneOf, Cond.code yX1_toneOf cX1_toneOf 3 (some .int), Cond.fieldLink RX1 15 "WedgeHarps$Harp" "wedge" "[I", Cond.fieldLink RX1 9 "WedgeHarps$Harp" "base" "[I", Cond.fieldLink RX1 31 "WedgeHarps$Harp" "swelling" "I", Cond.methodLink RX1 70 yX1_slip, Cond.instanceMethod yX1_slip, Cond.selects RX1 yX1_slip yX1_slip]
def wsX1_spendHour_r2 : List Cond := [Cond.code yX1_slip cX1_slip 3 none, Cond.methodLink RX1 81 Lib.Math.min.name, Cond.static Lib.Math.min.name, Cond.code Lib.Math.min.name Lib.Math.min.code 2 (some .int), Cond.methodLink RX1 74 yX1_swell, Cond.instanceMethod yX1_swell, Cond.selects RX1 yX1_swell yX1_swell, Cond.code yX1_swell cX1_swell 2 none]
def wsX1_spendHour : List Cond := .code yX1_spendHour cX1_spendHour 7 (some .int) :: ((wsX1_spendHour_r1 ++ wsX1_spendHour_r2) ++ wsX10)
def wsX2_init_r1 : List Cond := [Cond.methodLink RX2 1 objectInit, Cond.instanceMethod objectInit, Cond.code objectInit ⟨#[0xb1]⟩ 1 none, Cond.classLink RX2 7 RX1, Cond.instantiable RX1 8, Cond.initialized RX1, Cond.fieldLink RX2 10 "WedgeHarps" "now" "LWedgeHarps$Harp;", Cond.fieldLink RX2 16 "WedgeHarps" "later" "LWedgeHarps$Harp;", Cond.arrayClass .int, Cond.fieldLink RX2 19 "WedgeHarps" "windTable" "[I", Cond.fieldLink RX2 23 "WedgeHarps" "dampTable" "[I", Cond.classLink RX2 26 RX0, Cond.fieldLink RX2 28 "WedgeHarps" "chords" "[LWedgeHarps$Chord;", Cond.instantiable RX0 3, Cond.initialized RX0, Cond.fieldLink RX2 33 "WedgeHarps" "told" "I", Cond.methodLink RX2 9 yX1_init, Cond.instanceMethod yX1_init, Cond.code yX1_init cX1_init 2 none, Cond.methodLink RX1 3 objectInit, Cond.fieldLink RX1 9 "WedgeHarps$Harp" "base" "[I", Cond.fieldLink RX1 15 "WedgeHarps$Harp" "wedge" "[I", Cond.fieldLink RX1 18 "WedgeHarps$Harp" "drift" "[I", Cond.fieldLink RX1 21 "WedgeHarps$Harp" "strain" "[I"]
def wsX2_init_r2 : List Cond := [Cond.fieldLink RX1 24 "WedgeHarps$Harp" "breaks" "[I", Cond.arrayClass .boolean, Cond.fieldLink RX1 27 "WedgeHarps$Harp" "whole" "[Z", Cond.fieldLink RX1 31 "WedgeHarps$Harp" "swelling" "I", Cond.fieldLink RX1 35 "WedgeHarps$Harp" "hour" "I", Cond.methodLink RX2 32 yX0_init, Cond.instanceMethod yX0_init, Cond.code yX0_init cX0_init 1 none, Cond.methodLink RX0 3 objectInit, Cond.fieldLink RX0 9 "WedgeHarps$Chord" "tones" "[I", Cond.fieldLink RX0 15 "WedgeHarps$Chord" "lowest" "I", Cond.fieldLink RX0 19 "WedgeHarps$Chord" "size" "I"]
def wsX2_init : List Cond := .code yX2_init cX2_init 2 none :: ((wsX2_init_r1 ++ wsX2_init_r2) ++ wsX10 ++ wsX20 ++ wsX00)
def wsX2_checkString : List Cond := .code yX2_checkString cX2_checkString 1 none :: ([.classLink RX2 73 "java/lang/IndexOutOfBoundsException", .initialized "java/lang/IndexOutOfBoundsException"] ++ (vx_atS RX2 77 "java/lang/IndexOutOfBoundsException" ["java/lang/RuntimeException", "java/lang/Exception"]).filter goodWord)
def wsX2_checkWedgeSteps : List Cond := .code yX2_checkWedgeSteps cX2_checkWedgeSteps 1 none :: ([.classLink RX2 44 "java/lang/IllegalArgumentException", .initialized "java/lang/IllegalArgumentException"] ++ (vx_atS RX2 48 "java/lang/IllegalArgumentException" ["java/lang/RuntimeException", "java/lang/Exception"]).filter goodWord)
def wsX2_push_r1 : List Cond := [Cond.classLink RX2 44 "java/lang/IllegalArgumentException", Cond.initialized "java/lang/IllegalArgumentException", Cond.classLink RX2 55 "java/lang/IllegalStateException", Cond.initialized "java/lang/IllegalStateException", Cond.fieldLink RX2 10 "WedgeHarps" "now" "LWedgeHarps$Harp;", Cond.fieldLink RX2 60 "WedgeHarps$Harp" "wedge" "[I", Cond.methodLink RX2 37 yX2_checkString, Cond.static yX2_checkString, Cond.initialized RX2, Cond.code yX2_checkString cX2_checkString 1 none, Cond.classLink RX2 73 "java/lang/IndexOutOfBoundsException", Cond.initialized "java/lang/IndexOutOfBoundsException", Cond.methodLink RX2 41 yX2_checkWedgeSteps, Cond.static yX2_checkWedgeSteps, Cond.code yX2_checkWedgeSteps cX2_checkWedgeSteps 1 none, Cond.methodLink RX2 51 yX1_takesPush, Cond.instanceMethod yX1_takesPush, Cond.selects RX1 yX1_takesPush yX1_takesPush, Cond.initialized RX1, Cond.code yX1_takesPush cX1_takesPush 4 (some .boolean), Cond.fieldLink RX1 15 "WedgeHarps$Harp" "wedge" "[I", Cond.methodLink RX2 63 yX1_toneOf, Cond.instanceMethod yX1_toneOf, Cond.selects RX1 yX1_toneOf yX1_toneOf]
def wsX2_push_r2 : List Cond := [Cond.code yX1_toneOf cX1_toneOf 3 (some .int), Cond.fieldLink RX1 27 "WedgeHarps$Harp" "whole" "[Z", Cond.fieldLink RX1 9 "WedgeHarps$Harp" "base" "[I", Cond.fieldLink RX1 18 "WedgeHarps$Harp" "drift" "[I", Cond.fieldLink RX1 31 "WedgeHarps$Harp" "swelling" "I"]
def wsX2_push : List Cond := .code yX2_push cX2_push 3 (some .int) :: ((wsX2_push_r1 ++ wsX2_push_r2) ++ wsX20 ++ wsX10 ++ (vx_atS RX2 48 "java/lang/IllegalArgumentException" ["java/lang/RuntimeException", "java/lang/Exception"]).filter goodWord ++ (vx_atS RX2 59 "java/lang/IllegalStateException" ["java/lang/RuntimeException", "java/lang/Exception"]).filter goodWord ++ (vx_atS RX2 77 "java/lang/IndexOutOfBoundsException" ["java/lang/RuntimeException", "java/lang/Exception"]).filter goodWord)
def wsX2_draw : List Cond := .code yX2_draw cX2_draw 3 (some .int) :: ([.classLink RX2 44 "java/lang/IllegalArgumentException", .initialized "java/lang/IllegalArgumentException", .fieldLink RX2 10 "WedgeHarps" "now" "LWedgeHarps$Harp;", .methodLink RX2 37 yX2_checkString, .static yX2_checkString, .initialized RX2, .code yX2_checkString cX2_checkString 1 none, .classLink RX2 73 "java/lang/IndexOutOfBoundsException", .initialized "java/lang/IndexOutOfBoundsException", .methodLink RX2 69 yX1_renew, .instanceMethod yX1_renew, .selects RX1 yX1_renew yX1_renew, .initialized RX1, .code yX1_renew cX1_renew 3 none, .fieldLink RX1 9 "WedgeHarps$Harp" "base" "[I", .fieldLink RX1 18 "WedgeHarps$Harp" "drift" "[I", .fieldLink RX1 21 "WedgeHarps$Harp" "strain" "[I", .fieldLink RX1 27 "WedgeHarps$Harp" "whole" "[Z", .methodLink RX2 63 yX1_toneOf, .instanceMethod yX1_toneOf, .selects RX1 yX1_toneOf yX1_toneOf, .code yX1_toneOf cX1_toneOf 3 (some .int), .fieldLink RX1 15 "WedgeHarps$Harp" "wedge" "[I", .fieldLink RX1 31 "WedgeHarps$Harp" "swelling" "I"] ++ wsX20 ++ wsX10 ++ (vx_atS RX2 48 "java/lang/IllegalArgumentException" ["java/lang/RuntimeException", "java/lang/Exception"]).filter goodWord ++ (vx_atS RX2 77 "java/lang/IndexOutOfBoundsException" ["java/lang/RuntimeException", "java/lang/Exception"]).filter goodWord)
def wsX2_weatherAt : List Cond := .code yX2_weatherAt cX2_weatherAt 2 (some .int) :: ([.fieldLink RX2 19 "WedgeHarps" "windTable" "[I", .fieldLink RX2 23 "WedgeHarps" "dampTable" "[I"] ++ wsX20)
def wsX2_setWeather : List Cond := .code yX2_setWeather cX2_setWeather 5 (some .int) :: ([.classLink RX2 73 "java/lang/IndexOutOfBoundsException", .initialized "java/lang/IndexOutOfBoundsException", .classLink RX2 44 "java/lang/IllegalArgumentException", .initialized "java/lang/IllegalArgumentException", .fieldLink RX2 19 "WedgeHarps" "windTable" "[I", .fieldLink RX2 23 "WedgeHarps" "dampTable" "[I", .methodLink RX2 82 yX2_weatherAt, .instanceMethod yX2_weatherAt, .selects RX2 yX2_weatherAt yX2_weatherAt, .initialized RX2, .code yX2_weatherAt cX2_weatherAt 2 (some .int)] ++ wsX20 ++ (vx_atS RX2 77 "java/lang/IndexOutOfBoundsException" ["java/lang/RuntimeException", "java/lang/Exception"]).filter goodWord ++ (vx_atS RX2 48 "java/lang/IllegalArgumentException" ["java/lang/RuntimeException", "java/lang/Exception"]).filter goodWord)
def wsX2_string : List Cond := .code yX2_string cX2_string 3 (some .int) :: ([.classLink RX2 73 "java/lang/IndexOutOfBoundsException", .initialized "java/lang/IndexOutOfBoundsException", .fieldLink RX2 10 "WedgeHarps" "now" "LWedgeHarps$Harp;", .methodLink RX2 37 yX2_checkString, .static yX2_checkString, .initialized RX2, .code yX2_checkString cX2_checkString 1 none, .methodLink RX2 87 yX1_factOf, .instanceMethod yX1_factOf, .selects RX1 yX1_factOf yX1_factOf, .initialized RX1, .code yX1_factOf cX1_factOf 3 (some .int), .fieldLink RX1 9 "WedgeHarps$Harp" "base" "[I", .fieldLink RX1 15 "WedgeHarps$Harp" "wedge" "[I", .fieldLink RX1 18 "WedgeHarps$Harp" "drift" "[I", .fieldLink RX1 21 "WedgeHarps$Harp" "strain" "[I", .fieldLink RX1 27 "WedgeHarps$Harp" "whole" "[Z", .fieldLink RX1 24 "WedgeHarps$Harp" "breaks" "[I", .methodLink RX1 38 yX1_toneOf, .instanceMethod yX1_toneOf, .selects RX1 yX1_toneOf yX1_toneOf, .code yX1_toneOf cX1_toneOf 3 (some .int), .fieldLink RX1 31 "WedgeHarps$Harp" "swelling" "I"] ++ wsX20 ++ wsX10 ++ (vx_atS RX2 77 "java/lang/IndexOutOfBoundsException" ["java/lang/RuntimeException", "java/lang/Exception"]).filter goodWord)
def wsX2_moves : List Cond := .code yX2_moves cX2_moves 4 (some .int) :: ([.fieldLink RX2 10 "WedgeHarps" "now" "LWedgeHarps$Harp;", .fieldLink RX2 91 "WedgeHarps$Harp" "whole" "[Z", .methodLink RX2 95 Lib.Math.abs.name, .static Lib.Math.abs.name, .initialized "java/lang/Math", .code Lib.Math.abs.name Lib.Math.abs.code 1 (some .int), .methodLink RX2 37 yX2_checkString, .static yX2_checkString, .initialized RX2, .code yX2_checkString cX2_checkString 1 none, .classLink RX2 73 "java/lang/IndexOutOfBoundsException", .initialized "java/lang/IndexOutOfBoundsException", .methodLink RX2 41 yX2_checkWedgeSteps, .static yX2_checkWedgeSteps, .code yX2_checkWedgeSteps cX2_checkWedgeSteps 1 none, .classLink RX2 44 "java/lang/IllegalArgumentException", .initialized "java/lang/IllegalArgumentException"] ++ wsX20 ++ wsX10 ++ (vx_atS RX2 77 "java/lang/IndexOutOfBoundsException" ["java/lang/RuntimeException", "java/lang/Exception"]).filter goodWord ++ (vx_atS RX2 48 "java/lang/IllegalArgumentException" ["java/lang/RuntimeException", "java/lang/Exception"]).filter goodWord)
def wsX2_checkTone : List Cond := .code yX2_checkTone cX2_checkTone 2 none :: ([.classLink RX2 44 "java/lang/IllegalArgumentException", .initialized "java/lang/IllegalArgumentException"] ++ (vx_atS RX2 48 "java/lang/IllegalArgumentException" ["java/lang/RuntimeException", "java/lang/Exception"]).filter goodWord)
def wsX2_chord_r1 : List Cond := [Cond.classLink RX2 44 "java/lang/IllegalArgumentException", Cond.initialized "java/lang/IllegalArgumentException", Cond.classLink RX2 55 "java/lang/IllegalStateException", Cond.initialized "java/lang/IllegalStateException", Cond.fieldLink RX2 33 "WedgeHarps" "told" "I", Cond.fieldLink RX2 28 "WedgeHarps" "chords" "[LWedgeHarps$Chord;", Cond.methodLink RX2 37 yX2_checkString, Cond.static yX2_checkString, Cond.initialized RX2, Cond.code yX2_checkString cX2_checkString 1 none, Cond.classLink RX2 73 "java/lang/IndexOutOfBoundsException", Cond.initialized "java/lang/IndexOutOfBoundsException", Cond.methodLink RX2 100 yX2_checkTone, Cond.static yX2_checkTone, Cond.code yX2_checkTone cX2_checkTone 2 none, Cond.methodLink RX2 109 yX0_place, Cond.instanceMethod yX0_place, Cond.selects RX0 yX0_place yX0_place, Cond.initialized RX0, Cond.code yX0_place cX0_place 3 none, Cond.fieldLink RX0 15 "WedgeHarps$Chord" "lowest" "I", Cond.fieldLink RX0 19 "WedgeHarps$Chord" "size" "I", Cond.methodLink RX2 112 yX0_tune, Cond.instanceMethod yX0_tune]
def wsX2_chord_r2 : List Cond := [Cond.selects RX0 yX0_tune yX0_tune, Cond.code yX0_tune cX0_tune 5 none, Cond.fieldLink RX0 9 "WedgeHarps$Chord" "tones" "[I"]
def wsX2_chord : List Cond := .code yX2_chord cX2_chord 8 (some .int) :: ((wsX2_chord_r1 ++ wsX2_chord_r2) ++ wsX20 ++ wsX00 ++ (vx_atS RX2 48 "java/lang/IllegalArgumentException" ["java/lang/RuntimeException", "java/lang/Exception"]).filter goodWord ++ (vx_atS RX2 59 "java/lang/IllegalStateException" ["java/lang/RuntimeException", "java/lang/Exception"]).filter goodWord ++ (vx_atS RX2 77 "java/lang/IndexOutOfBoundsException" ["java/lang/RuntimeException", "java/lang/Exception"]).filter goodWord)
def wsX2_checkChord : List Cond := .code yX2_checkChord cX2_checkChord 2 none :: ([.classLink RX2 73 "java/lang/IndexOutOfBoundsException", .initialized "java/lang/IndexOutOfBoundsException", .fieldLink RX2 33 "WedgeHarps" "told" "I"] ++ wsX20 ++ (vx_atS RX2 77 "java/lang/IndexOutOfBoundsException" ["java/lang/RuntimeException", "java/lang/Exception"]).filter goodWord)
def wsX2_off_r1 : List Cond := [Cond.fieldLink RX2 10 "WedgeHarps" "now" "LWedgeHarps$Harp;", Cond.fieldLink RX2 28 "WedgeHarps" "chords" "[LWedgeHarps$Chord;", Cond.methodLink RX2 116 yX2_checkChord, Cond.instanceMethod yX2_checkChord, Cond.selects RX2 yX2_checkChord yX2_checkChord, Cond.initialized RX2, Cond.code yX2_checkChord cX2_checkChord 2 none, Cond.classLink RX2 73 "java/lang/IndexOutOfBoundsException", Cond.initialized "java/lang/IndexOutOfBoundsException", Cond.fieldLink RX2 33 "WedgeHarps" "told" "I", Cond.methodLink RX2 119 yX1_distanceFrom, Cond.instanceMethod yX1_distanceFrom, Cond.selects RX1 yX1_distanceFrom yX1_distanceFrom, Cond.initialized RX1, Cond.code yX1_distanceFrom cX1_distanceFrom 4 (some .int), Cond.fieldLink RX1 42 "WedgeHarps$Chord" "size" "I", Cond.fieldLink RX1 47 "WedgeHarps$Chord" "lowest" "I", Cond.fieldLink RX1 50 "WedgeHarps$Chord" "tones" "[I", Cond.methodLink RX1 53 Lib.Math.abs.name, Cond.static Lib.Math.abs.name, Cond.initialized "java/lang/Math", Cond.code Lib.Math.abs.name Lib.Math.abs.code 1 (some .int), Cond.methodLink RX1 38 yX1_toneOf, Cond.instanceMethod yX1_toneOf]
def wsX2_off_r2 : List Cond := [Cond.selects RX1 yX1_toneOf yX1_toneOf, Cond.code yX1_toneOf cX1_toneOf 3 (some .int), Cond.fieldLink RX1 27 "WedgeHarps$Harp" "whole" "[Z", Cond.fieldLink RX1 15 "WedgeHarps$Harp" "wedge" "[I", Cond.fieldLink RX1 9 "WedgeHarps$Harp" "base" "[I", Cond.fieldLink RX1 18 "WedgeHarps$Harp" "drift" "[I", Cond.fieldLink RX1 31 "WedgeHarps$Harp" "swelling" "I"]
def wsX2_off : List Cond := .code yX2_off cX2_off 2 (some .int) :: ((wsX2_off_r1 ++ wsX2_off_r2) ++ wsX20 ++ wsX00 ++ wsX10 ++ (vx_atS RX2 77 "java/lang/IndexOutOfBoundsException" ["java/lang/RuntimeException", "java/lang/Exception"]).filter goodWord)
def wsX2_sounds_r1 : List Cond := [Cond.fieldLink RX2 10 "WedgeHarps" "now" "LWedgeHarps$Harp;", Cond.fieldLink RX2 28 "WedgeHarps" "chords" "[LWedgeHarps$Chord;", Cond.methodLink RX2 116 yX2_checkChord, Cond.instanceMethod yX2_checkChord, Cond.selects RX2 yX2_checkChord yX2_checkChord, Cond.initialized RX2, Cond.code yX2_checkChord cX2_checkChord 2 none, Cond.classLink RX2 73 "java/lang/IndexOutOfBoundsException", Cond.initialized "java/lang/IndexOutOfBoundsException", Cond.fieldLink RX2 33 "WedgeHarps" "told" "I", Cond.methodLink RX2 123 yX1_isTunedTo, Cond.instanceMethod yX1_isTunedTo, Cond.selects RX1 yX1_isTunedTo yX1_isTunedTo, Cond.initialized RX1, Cond.code yX1_isTunedTo cX1_isTunedTo 3 (some .boolean), Cond.fieldLink RX1 42 "WedgeHarps$Chord" "size" "I", Cond.methodLink RX1 58 yX1_fitsPushed, Cond.instanceMethod yX1_fitsPushed, Cond.selects RX1 yX1_fitsPushed yX1_fitsPushed, Cond.code yX1_fitsPushed cX1_fitsPushed 7 (some .boolean), Cond.fieldLink RX1 47 "WedgeHarps$Chord" "lowest" "I", Cond.fieldLink RX1 27 "WedgeHarps$Harp" "whole" "[Z", Cond.fieldLink RX1 50 "WedgeHarps$Chord" "tones" "[I", Cond.methodLink RX1 53 Lib.Math.abs.name]
def wsX2_sounds_r2 : List Cond := [Cond.static Lib.Math.abs.name, Cond.initialized "java/lang/Math", Cond.code Lib.Math.abs.name Lib.Math.abs.code 1 (some .int), Cond.methodLink RX1 38 yX1_toneOf, Cond.instanceMethod yX1_toneOf, Cond.selects RX1 yX1_toneOf yX1_toneOf, Cond.code yX1_toneOf cX1_toneOf 3 (some .int), Cond.fieldLink RX1 15 "WedgeHarps$Harp" "wedge" "[I", Cond.fieldLink RX1 9 "WedgeHarps$Harp" "base" "[I", Cond.fieldLink RX1 18 "WedgeHarps$Harp" "drift" "[I", Cond.fieldLink RX1 31 "WedgeHarps$Harp" "swelling" "I"]
def wsX2_sounds : List Cond := .code yX2_sounds cX2_sounds 2 (some .boolean) :: ((wsX2_sounds_r1 ++ wsX2_sounds_r2) ++ wsX20 ++ wsX00 ++ wsX10 ++ (vx_atS RX2 77 "java/lang/IndexOutOfBoundsException" ["java/lang/RuntimeException", "java/lang/Exception"]).filter goodWord)
def wsX2_fewestSteps_r1 : List Cond := [Cond.fieldLink RX2 157 "WedgeHarps$Chord" "size" "I", Cond.fieldLink RX2 154 "WedgeHarps$Chord" "lowest" "I", Cond.methodLink RX2 95 Lib.Math.abs.name, Cond.static Lib.Math.abs.name, Cond.initialized "java/lang/Math", Cond.code Lib.Math.abs.name Lib.Math.abs.code 1 (some .int), Cond.methodLink RX2 217 Lib.Math.min.name, Cond.static Lib.Math.min.name, Cond.code Lib.Math.min.name Lib.Math.min.code 2 (some .int), Cond.methodLink RX2 213 yX1_fitsPushed, Cond.instanceMethod yX1_fitsPushed, Cond.selects RX1 yX1_fitsPushed yX1_fitsPushed, Cond.initialized RX1, Cond.code yX1_fitsPushed cX1_fitsPushed 7 (some .boolean), Cond.fieldLink RX1 47 "WedgeHarps$Chord" "lowest" "I", Cond.fieldLink RX1 27 "WedgeHarps$Harp" "whole" "[Z", Cond.fieldLink RX1 50 "WedgeHarps$Chord" "tones" "[I", Cond.methodLink RX1 53 Lib.Math.abs.name, Cond.methodLink RX1 38 yX1_toneOf, Cond.instanceMethod yX1_toneOf, Cond.selects RX1 yX1_toneOf yX1_toneOf, Cond.code yX1_toneOf cX1_toneOf 3 (some .int), Cond.fieldLink RX1 15 "WedgeHarps$Harp" "wedge" "[I", Cond.fieldLink RX1 9 "WedgeHarps$Harp" "base" "[I"]
def wsX2_fewestSteps_r2 : List Cond := [Cond.fieldLink RX1 18 "WedgeHarps$Harp" "drift" "[I", Cond.fieldLink RX1 31 "WedgeHarps$Harp" "swelling" "I", Cond.methodLink RX2 51 yX1_takesPush, Cond.instanceMethod yX1_takesPush, Cond.selects RX1 yX1_takesPush yX1_takesPush, Cond.code yX1_takesPush cX1_takesPush 4 (some .boolean), Cond.methodLink RX2 127 yX2_fewestSteps, Cond.static yX2_fewestSteps, Cond.initialized RX2]
def wsX2_fewestSteps : List Cond := .code yX2_fewestSteps cX2_fewestSteps 8 (some .int) :: ((wsX2_fewestSteps_r1 ++ wsX2_fewestSteps_r2) ++ wsX00 ++ wsX10)
def wsX2_steps_r1 : List Cond := [Cond.fieldLink RX2 10 "WedgeHarps" "now" "LWedgeHarps$Harp;", Cond.fieldLink RX2 28 "WedgeHarps" "chords" "[LWedgeHarps$Chord;", Cond.methodLink RX2 116 yX2_checkChord, Cond.instanceMethod yX2_checkChord, Cond.selects RX2 yX2_checkChord yX2_checkChord, Cond.initialized RX2, Cond.code yX2_checkChord cX2_checkChord 2 none, Cond.classLink RX2 73 "java/lang/IndexOutOfBoundsException", Cond.initialized "java/lang/IndexOutOfBoundsException", Cond.fieldLink RX2 33 "WedgeHarps" "told" "I", Cond.methodLink RX2 127 yX2_fewestSteps, Cond.static yX2_fewestSteps, Cond.code yX2_fewestSteps cX2_fewestSteps 8 (some .int), Cond.fieldLink RX2 157 "WedgeHarps$Chord" "size" "I", Cond.fieldLink RX2 154 "WedgeHarps$Chord" "lowest" "I", Cond.methodLink RX2 95 Lib.Math.abs.name, Cond.static Lib.Math.abs.name, Cond.initialized "java/lang/Math", Cond.code Lib.Math.abs.name Lib.Math.abs.code 1 (some .int), Cond.methodLink RX2 217 Lib.Math.min.name, Cond.static Lib.Math.min.name, Cond.code Lib.Math.min.name Lib.Math.min.code 2 (some .int), Cond.methodLink RX2 213 yX1_fitsPushed, Cond.instanceMethod yX1_fitsPushed]
def wsX2_steps_r2 : List Cond := [Cond.selects RX1 yX1_fitsPushed yX1_fitsPushed, Cond.initialized RX1, Cond.code yX1_fitsPushed cX1_fitsPushed 7 (some .boolean), Cond.fieldLink RX1 47 "WedgeHarps$Chord" "lowest" "I", Cond.fieldLink RX1 27 "WedgeHarps$Harp" "whole" "[Z", Cond.fieldLink RX1 50 "WedgeHarps$Chord" "tones" "[I", Cond.methodLink RX1 53 Lib.Math.abs.name, Cond.methodLink RX1 38 yX1_toneOf, Cond.instanceMethod yX1_toneOf, Cond.selects RX1 yX1_toneOf yX1_toneOf, Cond.code yX1_toneOf cX1_toneOf 3 (some .int), Cond.fieldLink RX1 15 "WedgeHarps$Harp" "wedge" "[I", Cond.fieldLink RX1 9 "WedgeHarps$Harp" "base" "[I", Cond.fieldLink RX1 18 "WedgeHarps$Harp" "drift" "[I", Cond.fieldLink RX1 31 "WedgeHarps$Harp" "swelling" "I", Cond.methodLink RX2 51 yX1_takesPush, Cond.instanceMethod yX1_takesPush, Cond.selects RX1 yX1_takesPush yX1_takesPush, Cond.code yX1_takesPush cX1_takesPush 4 (some .boolean)]
def wsX2_steps : List Cond := .code yX2_steps cX2_steps 3 (some .int) :: ((wsX2_steps_r1 ++ wsX2_steps_r2) ++ wsX20 ++ wsX00 ++ wsX10 ++ (vx_atS RX2 77 "java/lang/IndexOutOfBoundsException" ["java/lang/RuntimeException", "java/lang/Exception"]).filter goodWord)
def wsX2_checkHours : List Cond := .code yX2_checkHours cX2_checkHours 1 none :: ([.classLink RX2 44 "java/lang/IllegalArgumentException", .initialized "java/lang/IllegalArgumentException"] ++ (vx_atS RX2 48 "java/lang/IllegalArgumentException" ["java/lang/RuntimeException", "java/lang/Exception"]).filter goodWord)
def wsX2_letHourGo_r1 : List Cond := [Cond.fieldLink RX2 19 "WedgeHarps" "windTable" "[I", Cond.fieldLink RX2 23 "WedgeHarps" "dampTable" "[I", Cond.methodLink RX2 206 yX1_hourOfTable, Cond.instanceMethod yX1_hourOfTable, Cond.selects RX1 yX1_hourOfTable yX1_hourOfTable, Cond.initialized RX1, Cond.code yX1_hourOfTable cX1_hourOfTable 1 (some .int), Cond.fieldLink RX1 35 "WedgeHarps$Harp" "hour" "I", Cond.methodLink RX1 62 yJ9_floorMod_7cf53, Cond.static yJ9_floorMod_7cf53, Cond.initialized RJ9, Cond.code yJ9_floorMod_7cf53 cJ9_floorMod_7cf53 3 (some .int), Cond.methodLink RX2 209 yX1_spendHour, Cond.instanceMethod yX1_spendHour, Cond.selects RX1 yX1_spendHour yX1_spendHour, Cond.code yX1_spendHour cX1_spendHour 7 (some .int), Cond.fieldLink RX1 27 "WedgeHarps$Harp" "whole" "[Z", Cond.methodLink RX1 66 yX1_breaksIn, Cond.instanceMethod yX1_breaksIn, Cond.selects RX1 yX1_breaksIn yX1_breaksIn, Cond.code yX1_breaksIn cX1_breaksIn 4 (some .boolean), Cond.fieldLink RX1 21 "WedgeHarps$Harp" "strain" "[I", Cond.methodLink RX1 78 Lib.Math.max.name, Cond.static Lib.Math.max.name]
def wsX2_letHourGo_r2 : List Cond := [Cond.initialized "java/lang/Math", Cond.code Lib.Math.max.name Lib.Math.max.code 2 (some .int), Cond.fieldLink RX1 18 "WedgeHarps$Harp" "drift" "[I", Cond.fieldLink RX1 24 "WedgeHarps$Harp" "breaks" "[I", Cond.methodLink RX1 38 yX1_toneOf, Cond.instanceMethod yX1_toneOf, Cond.selects RX1 yX1_toneOf yX1_toneOf, Cond.code yX1_toneOf cX1_toneOf 3 (some .int), Cond.fieldLink RX1 15 "WedgeHarps$Harp" "wedge" "[I", Cond.fieldLink RX1 9 "WedgeHarps$Harp" "base" "[I", Cond.fieldLink RX1 31 "WedgeHarps$Harp" "swelling" "I", Cond.methodLink RX1 70 yX1_slip, Cond.instanceMethod yX1_slip, Cond.selects RX1 yX1_slip yX1_slip, Cond.code yX1_slip cX1_slip 3 none, Cond.methodLink RX1 81 Lib.Math.min.name, Cond.static Lib.Math.min.name, Cond.code Lib.Math.min.name Lib.Math.min.code 2 (some .int), Cond.methodLink RX1 74 yX1_swell, Cond.instanceMethod yX1_swell, Cond.selects RX1 yX1_swell yX1_swell, Cond.code yX1_swell cX1_swell 2 none]
def wsX2_letHourGo : List Cond := .code yX2_letHourGo cX2_letHourGo 5 (some .int) :: ((wsX2_letHourGo_r1 ++ wsX2_letHourGo_r2) ++ wsX20 ++ wsX10)
def wsX2_pass_r1 : List Cond := [Cond.fieldLink RX2 10 "WedgeHarps" "now" "LWedgeHarps$Harp;", Cond.methodLink RX2 131 yX2_checkHours, Cond.static yX2_checkHours, Cond.initialized RX2, Cond.code yX2_checkHours cX2_checkHours 1 none, Cond.classLink RX2 44 "java/lang/IllegalArgumentException", Cond.initialized "java/lang/IllegalArgumentException", Cond.methodLink RX2 134 yX2_letHourGo, Cond.instanceMethod yX2_letHourGo, Cond.selects RX2 yX2_letHourGo yX2_letHourGo, Cond.code yX2_letHourGo cX2_letHourGo 5 (some .int), Cond.fieldLink RX2 19 "WedgeHarps" "windTable" "[I", Cond.fieldLink RX2 23 "WedgeHarps" "dampTable" "[I", Cond.methodLink RX2 206 yX1_hourOfTable, Cond.instanceMethod yX1_hourOfTable, Cond.selects RX1 yX1_hourOfTable yX1_hourOfTable, Cond.initialized RX1, Cond.code yX1_hourOfTable cX1_hourOfTable 1 (some .int), Cond.fieldLink RX1 35 "WedgeHarps$Harp" "hour" "I", Cond.methodLink RX1 62 yJ9_floorMod_7cf53, Cond.static yJ9_floorMod_7cf53, Cond.initialized RJ9, Cond.code yJ9_floorMod_7cf53 cJ9_floorMod_7cf53 3 (some .int), Cond.methodLink RX2 209 yX1_spendHour]
def wsX2_pass_r2 : List Cond := [Cond.instanceMethod yX1_spendHour, Cond.selects RX1 yX1_spendHour yX1_spendHour, Cond.code yX1_spendHour cX1_spendHour 7 (some .int), Cond.fieldLink RX1 27 "WedgeHarps$Harp" "whole" "[Z", Cond.methodLink RX1 66 yX1_breaksIn, Cond.instanceMethod yX1_breaksIn, Cond.selects RX1 yX1_breaksIn yX1_breaksIn, Cond.code yX1_breaksIn cX1_breaksIn 4 (some .boolean), Cond.fieldLink RX1 21 "WedgeHarps$Harp" "strain" "[I", Cond.methodLink RX1 78 Lib.Math.max.name, Cond.static Lib.Math.max.name, Cond.initialized "java/lang/Math", Cond.code Lib.Math.max.name Lib.Math.max.code 2 (some .int), Cond.fieldLink RX1 18 "WedgeHarps$Harp" "drift" "[I", Cond.fieldLink RX1 24 "WedgeHarps$Harp" "breaks" "[I", Cond.methodLink RX1 38 yX1_toneOf, Cond.instanceMethod yX1_toneOf, Cond.selects RX1 yX1_toneOf yX1_toneOf, Cond.code yX1_toneOf cX1_toneOf 3 (some .int), Cond.fieldLink RX1 15 "WedgeHarps$Harp" "wedge" "[I", Cond.fieldLink RX1 9 "WedgeHarps$Harp" "base" "[I", Cond.fieldLink RX1 31 "WedgeHarps$Harp" "swelling" "I", Cond.methodLink RX1 70 yX1_slip, Cond.instanceMethod yX1_slip]
def wsX2_pass_r3 : List Cond := [Cond.selects RX1 yX1_slip yX1_slip, Cond.code yX1_slip cX1_slip 3 none, Cond.methodLink RX1 81 Lib.Math.min.name, Cond.static Lib.Math.min.name, Cond.code Lib.Math.min.name Lib.Math.min.code 2 (some .int), Cond.methodLink RX1 74 yX1_swell, Cond.instanceMethod yX1_swell, Cond.selects RX1 yX1_swell yX1_swell, Cond.code yX1_swell cX1_swell 2 none]
def wsX2_pass : List Cond := .code yX2_pass cX2_pass 4 (some .int) :: ((wsX2_pass_r1 ++ (wsX2_pass_r2 ++ wsX2_pass_r3)) ++ wsX20 ++ wsX10 ++ (vx_atS RX2 48 "java/lang/IllegalArgumentException" ["java/lang/RuntimeException", "java/lang/Exception"]).filter goodWord)
def wsX2_soundingChords_r1 : List Cond := [Cond.fieldLink RX2 33 "WedgeHarps" "told" "I", Cond.fieldLink RX2 10 "WedgeHarps" "now" "LWedgeHarps$Harp;", Cond.fieldLink RX2 28 "WedgeHarps" "chords" "[LWedgeHarps$Chord;", Cond.methodLink RX2 123 yX1_isTunedTo, Cond.instanceMethod yX1_isTunedTo, Cond.selects RX1 yX1_isTunedTo yX1_isTunedTo, Cond.initialized RX1, Cond.code yX1_isTunedTo cX1_isTunedTo 3 (some .boolean), Cond.fieldLink RX1 42 "WedgeHarps$Chord" "size" "I", Cond.methodLink RX1 58 yX1_fitsPushed, Cond.instanceMethod yX1_fitsPushed, Cond.selects RX1 yX1_fitsPushed yX1_fitsPushed, Cond.code yX1_fitsPushed cX1_fitsPushed 7 (some .boolean), Cond.fieldLink RX1 47 "WedgeHarps$Chord" "lowest" "I", Cond.fieldLink RX1 27 "WedgeHarps$Harp" "whole" "[Z", Cond.fieldLink RX1 50 "WedgeHarps$Chord" "tones" "[I", Cond.methodLink RX1 53 Lib.Math.abs.name, Cond.static Lib.Math.abs.name, Cond.initialized "java/lang/Math", Cond.code Lib.Math.abs.name Lib.Math.abs.code 1 (some .int), Cond.methodLink RX1 38 yX1_toneOf, Cond.instanceMethod yX1_toneOf, Cond.selects RX1 yX1_toneOf yX1_toneOf, Cond.code yX1_toneOf cX1_toneOf 3 (some .int)]
def wsX2_soundingChords_r2 : List Cond := [Cond.fieldLink RX1 15 "WedgeHarps$Harp" "wedge" "[I", Cond.fieldLink RX1 9 "WedgeHarps$Harp" "base" "[I", Cond.fieldLink RX1 18 "WedgeHarps$Harp" "drift" "[I", Cond.fieldLink RX1 31 "WedgeHarps$Harp" "swelling" "I"]
def wsX2_soundingChords : List Cond := .code yX2_soundingChords cX2_soundingChords 3 (some .int) :: ((wsX2_soundingChords_r1 ++ wsX2_soundingChords_r2) ++ wsX20 ++ wsX00 ++ wsX10)
def wsX2_sumOf : List Cond := .code yX2_sumOf cX2_sumOf 6 (some .int) :: ([])
def wsX2_countOf_r1 : List Cond := [Cond.fieldLink RX2 10 "WedgeHarps" "now" "LWedgeHarps$Harp;", Cond.fieldLink RX2 184 "WedgeHarps$Harp" "hour" "I", Cond.fieldLink RX2 33 "WedgeHarps" "told" "I", Cond.fieldLink RX2 190 "WedgeHarps$Harp" "swelling" "I", Cond.fieldLink RX2 60 "WedgeHarps$Harp" "wedge" "[I", Cond.fieldLink RX2 197 "WedgeHarps$Harp" "strain" "[I", Cond.fieldLink RX2 200 "WedgeHarps$Harp" "breaks" "[I", Cond.methodLink RX2 160 yX1_wholeStrings, Cond.instanceMethod yX1_wholeStrings, Cond.selects RX1 yX1_wholeStrings yX1_wholeStrings, Cond.initialized RX1, Cond.code yX1_wholeStrings cX1_wholeStrings 3 (some .int), Cond.fieldLink RX1 27 "WedgeHarps$Harp" "whole" "[Z", Cond.methodLink RX2 187 yX2_soundingChords, Cond.instanceMethod yX2_soundingChords, Cond.selects RX2 yX2_soundingChords yX2_soundingChords, Cond.initialized RX2, Cond.code yX2_soundingChords cX2_soundingChords 3 (some .int), Cond.fieldLink RX2 28 "WedgeHarps" "chords" "[LWedgeHarps$Chord;", Cond.methodLink RX2 123 yX1_isTunedTo, Cond.instanceMethod yX1_isTunedTo, Cond.selects RX1 yX1_isTunedTo yX1_isTunedTo, Cond.code yX1_isTunedTo cX1_isTunedTo 3 (some .boolean), Cond.fieldLink RX1 42 "WedgeHarps$Chord" "size" "I"]
def wsX2_countOf_r2 : List Cond := [Cond.methodLink RX1 58 yX1_fitsPushed, Cond.instanceMethod yX1_fitsPushed, Cond.selects RX1 yX1_fitsPushed yX1_fitsPushed, Cond.code yX1_fitsPushed cX1_fitsPushed 7 (some .boolean), Cond.fieldLink RX1 47 "WedgeHarps$Chord" "lowest" "I", Cond.fieldLink RX1 50 "WedgeHarps$Chord" "tones" "[I", Cond.methodLink RX1 53 Lib.Math.abs.name, Cond.static Lib.Math.abs.name, Cond.initialized "java/lang/Math", Cond.code Lib.Math.abs.name Lib.Math.abs.code 1 (some .int), Cond.methodLink RX1 38 yX1_toneOf, Cond.instanceMethod yX1_toneOf, Cond.selects RX1 yX1_toneOf yX1_toneOf, Cond.code yX1_toneOf cX1_toneOf 3 (some .int), Cond.fieldLink RX1 15 "WedgeHarps$Harp" "wedge" "[I", Cond.fieldLink RX1 9 "WedgeHarps$Harp" "base" "[I", Cond.fieldLink RX1 18 "WedgeHarps$Harp" "drift" "[I", Cond.fieldLink RX1 31 "WedgeHarps$Harp" "swelling" "I", Cond.methodLink RX2 193 yX2_sumOf, Cond.static yX2_sumOf, Cond.code yX2_sumOf cX2_sumOf 6 (some .int)]
def wsX2_countOf : List Cond := .code yX2_countOf cX2_countOf 2 (some .int) :: ((wsX2_countOf_r1 ++ wsX2_countOf_r2) ++ wsX20 ++ wsX10 ++ wsX00)
def wsX2_count_r1 : List Cond := [Cond.classLink RX2 73 "java/lang/IndexOutOfBoundsException", Cond.initialized "java/lang/IndexOutOfBoundsException", Cond.methodLink RX2 140 yX2_countOf, Cond.instanceMethod yX2_countOf, Cond.selects RX2 yX2_countOf yX2_countOf, Cond.initialized RX2, Cond.code yX2_countOf cX2_countOf 2 (some .int), Cond.fieldLink RX2 10 "WedgeHarps" "now" "LWedgeHarps$Harp;", Cond.fieldLink RX2 184 "WedgeHarps$Harp" "hour" "I", Cond.fieldLink RX2 33 "WedgeHarps" "told" "I", Cond.fieldLink RX2 190 "WedgeHarps$Harp" "swelling" "I", Cond.fieldLink RX2 60 "WedgeHarps$Harp" "wedge" "[I", Cond.fieldLink RX2 197 "WedgeHarps$Harp" "strain" "[I", Cond.fieldLink RX2 200 "WedgeHarps$Harp" "breaks" "[I", Cond.methodLink RX2 160 yX1_wholeStrings, Cond.instanceMethod yX1_wholeStrings, Cond.selects RX1 yX1_wholeStrings yX1_wholeStrings, Cond.initialized RX1, Cond.code yX1_wholeStrings cX1_wholeStrings 3 (some .int), Cond.fieldLink RX1 27 "WedgeHarps$Harp" "whole" "[Z", Cond.methodLink RX2 187 yX2_soundingChords, Cond.instanceMethod yX2_soundingChords, Cond.selects RX2 yX2_soundingChords yX2_soundingChords, Cond.code yX2_soundingChords cX2_soundingChords 3 (some .int)]
def wsX2_count_r2 : List Cond := [Cond.fieldLink RX2 28 "WedgeHarps" "chords" "[LWedgeHarps$Chord;", Cond.methodLink RX2 123 yX1_isTunedTo, Cond.instanceMethod yX1_isTunedTo, Cond.selects RX1 yX1_isTunedTo yX1_isTunedTo, Cond.code yX1_isTunedTo cX1_isTunedTo 3 (some .boolean), Cond.fieldLink RX1 42 "WedgeHarps$Chord" "size" "I", Cond.methodLink RX1 58 yX1_fitsPushed, Cond.instanceMethod yX1_fitsPushed, Cond.selects RX1 yX1_fitsPushed yX1_fitsPushed, Cond.code yX1_fitsPushed cX1_fitsPushed 7 (some .boolean), Cond.fieldLink RX1 47 "WedgeHarps$Chord" "lowest" "I", Cond.fieldLink RX1 50 "WedgeHarps$Chord" "tones" "[I", Cond.methodLink RX1 53 Lib.Math.abs.name, Cond.static Lib.Math.abs.name, Cond.initialized "java/lang/Math", Cond.code Lib.Math.abs.name Lib.Math.abs.code 1 (some .int), Cond.methodLink RX1 38 yX1_toneOf, Cond.instanceMethod yX1_toneOf, Cond.selects RX1 yX1_toneOf yX1_toneOf, Cond.code yX1_toneOf cX1_toneOf 3 (some .int), Cond.fieldLink RX1 15 "WedgeHarps$Harp" "wedge" "[I", Cond.fieldLink RX1 9 "WedgeHarps$Harp" "base" "[I", Cond.fieldLink RX1 18 "WedgeHarps$Harp" "drift" "[I", Cond.fieldLink RX1 31 "WedgeHarps$Harp" "swelling" "I"]
def wsX2_count_r3 : List Cond := [Cond.methodLink RX2 193 yX2_sumOf, Cond.static yX2_sumOf, Cond.code yX2_sumOf cX2_sumOf 6 (some .int)]
def wsX2_count : List Cond := .code yX2_count cX2_count 2 (some .int) :: ((wsX2_count_r1 ++ (wsX2_count_r2 ++ wsX2_count_r3)) ++ wsX20 ++ wsX10 ++ wsX00 ++ (vx_atS RX2 77 "java/lang/IndexOutOfBoundsException" ["java/lang/RuntimeException", "java/lang/Exception"]).filter goodWord)
def wsX2_withstands_r1 : List Cond := [Cond.fieldLink RX2 16 "WedgeHarps" "later" "LWedgeHarps$Harp;", Cond.fieldLink RX2 10 "WedgeHarps" "now" "LWedgeHarps$Harp;", Cond.fieldLink RX2 91 "WedgeHarps$Harp" "whole" "[Z", Cond.fieldLink RX2 23 "WedgeHarps" "dampTable" "[I", Cond.methodLink RX2 146 yX1_copy, Cond.instanceMethod yX1_copy, Cond.selects RX1 yX1_copy yX1_copy, Cond.initialized RX1, Cond.code yX1_copy cX1_copy 3 none, Cond.fieldLink RX1 9 "WedgeHarps$Harp" "base" "[I", Cond.fieldLink RX1 15 "WedgeHarps$Harp" "wedge" "[I", Cond.fieldLink RX1 18 "WedgeHarps$Harp" "drift" "[I", Cond.fieldLink RX1 21 "WedgeHarps$Harp" "strain" "[I", Cond.fieldLink RX1 24 "WedgeHarps$Harp" "breaks" "[I", Cond.fieldLink RX1 27 "WedgeHarps$Harp" "whole" "[Z", Cond.fieldLink RX1 31 "WedgeHarps$Harp" "swelling" "I", Cond.fieldLink RX1 35 "WedgeHarps$Harp" "hour" "I", Cond.methodLink RX2 206 yX1_hourOfTable, Cond.instanceMethod yX1_hourOfTable, Cond.selects RX1 yX1_hourOfTable yX1_hourOfTable, Cond.code yX1_hourOfTable cX1_hourOfTable 1 (some .int), Cond.methodLink RX1 62 yJ9_floorMod_7cf53, Cond.static yJ9_floorMod_7cf53, Cond.initialized RJ9]
def wsX2_withstands_r2 : List Cond := [Cond.code yJ9_floorMod_7cf53 cJ9_floorMod_7cf53 3 (some .int), Cond.methodLink RX2 209 yX1_spendHour, Cond.instanceMethod yX1_spendHour, Cond.selects RX1 yX1_spendHour yX1_spendHour, Cond.code yX1_spendHour cX1_spendHour 7 (some .int), Cond.methodLink RX1 66 yX1_breaksIn, Cond.instanceMethod yX1_breaksIn, Cond.selects RX1 yX1_breaksIn yX1_breaksIn, Cond.code yX1_breaksIn cX1_breaksIn 4 (some .boolean), Cond.methodLink RX1 78 Lib.Math.max.name, Cond.static Lib.Math.max.name, Cond.initialized "java/lang/Math", Cond.code Lib.Math.max.name Lib.Math.max.code 2 (some .int), Cond.methodLink RX1 38 yX1_toneOf, Cond.instanceMethod yX1_toneOf, Cond.selects RX1 yX1_toneOf yX1_toneOf, Cond.code yX1_toneOf cX1_toneOf 3 (some .int), Cond.methodLink RX1 70 yX1_slip, Cond.instanceMethod yX1_slip, Cond.selects RX1 yX1_slip yX1_slip, Cond.code yX1_slip cX1_slip 3 none, Cond.methodLink RX1 81 Lib.Math.min.name, Cond.static Lib.Math.min.name, Cond.code Lib.Math.min.name Lib.Math.min.code 2 (some .int)]
def wsX2_withstands_r3 : List Cond := [Cond.methodLink RX1 74 yX1_swell, Cond.instanceMethod yX1_swell, Cond.selects RX1 yX1_swell yX1_swell, Cond.code yX1_swell cX1_swell 2 none]
def wsX2_withstands : List Cond := .code yX2_withstands cX2_withstands 4 (some .boolean) :: ((wsX2_withstands_r1 ++ (wsX2_withstands_r2 ++ wsX2_withstands_r3)) ++ wsX20 ++ wsX10)
def wsX2_bears_r1 : List Cond := [Cond.methodLink RX2 37 yX2_checkString, Cond.static yX2_checkString, Cond.initialized RX2, Cond.code yX2_checkString cX2_checkString 1 none, Cond.classLink RX2 73 "java/lang/IndexOutOfBoundsException", Cond.initialized "java/lang/IndexOutOfBoundsException", Cond.methodLink RX2 143 yX2_withstands, Cond.instanceMethod yX2_withstands, Cond.selects RX2 yX2_withstands yX2_withstands, Cond.code yX2_withstands cX2_withstands 4 (some .boolean), Cond.fieldLink RX2 16 "WedgeHarps" "later" "LWedgeHarps$Harp;", Cond.fieldLink RX2 10 "WedgeHarps" "now" "LWedgeHarps$Harp;", Cond.fieldLink RX2 91 "WedgeHarps$Harp" "whole" "[Z", Cond.fieldLink RX2 23 "WedgeHarps" "dampTable" "[I", Cond.methodLink RX2 146 yX1_copy, Cond.instanceMethod yX1_copy, Cond.selects RX1 yX1_copy yX1_copy, Cond.initialized RX1, Cond.code yX1_copy cX1_copy 3 none, Cond.fieldLink RX1 9 "WedgeHarps$Harp" "base" "[I", Cond.fieldLink RX1 15 "WedgeHarps$Harp" "wedge" "[I", Cond.fieldLink RX1 18 "WedgeHarps$Harp" "drift" "[I", Cond.fieldLink RX1 21 "WedgeHarps$Harp" "strain" "[I", Cond.fieldLink RX1 24 "WedgeHarps$Harp" "breaks" "[I"]
def wsX2_bears_r2 : List Cond := [Cond.fieldLink RX1 27 "WedgeHarps$Harp" "whole" "[Z", Cond.fieldLink RX1 31 "WedgeHarps$Harp" "swelling" "I", Cond.fieldLink RX1 35 "WedgeHarps$Harp" "hour" "I", Cond.methodLink RX2 206 yX1_hourOfTable, Cond.instanceMethod yX1_hourOfTable, Cond.selects RX1 yX1_hourOfTable yX1_hourOfTable, Cond.code yX1_hourOfTable cX1_hourOfTable 1 (some .int), Cond.methodLink RX1 62 yJ9_floorMod_7cf53, Cond.static yJ9_floorMod_7cf53, Cond.initialized RJ9, Cond.code yJ9_floorMod_7cf53 cJ9_floorMod_7cf53 3 (some .int), Cond.methodLink RX2 209 yX1_spendHour, Cond.instanceMethod yX1_spendHour, Cond.selects RX1 yX1_spendHour yX1_spendHour, Cond.code yX1_spendHour cX1_spendHour 7 (some .int), Cond.methodLink RX1 66 yX1_breaksIn, Cond.instanceMethod yX1_breaksIn, Cond.selects RX1 yX1_breaksIn yX1_breaksIn, Cond.code yX1_breaksIn cX1_breaksIn 4 (some .boolean), Cond.methodLink RX1 78 Lib.Math.max.name, Cond.static Lib.Math.max.name, Cond.initialized "java/lang/Math", Cond.code Lib.Math.max.name Lib.Math.max.code 2 (some .int), Cond.methodLink RX1 38 yX1_toneOf]
def wsX2_bears_r3 : List Cond := [Cond.instanceMethod yX1_toneOf, Cond.selects RX1 yX1_toneOf yX1_toneOf, Cond.code yX1_toneOf cX1_toneOf 3 (some .int), Cond.methodLink RX1 70 yX1_slip, Cond.instanceMethod yX1_slip, Cond.selects RX1 yX1_slip yX1_slip, Cond.code yX1_slip cX1_slip 3 none, Cond.methodLink RX1 81 Lib.Math.min.name, Cond.static Lib.Math.min.name, Cond.code Lib.Math.min.name Lib.Math.min.code 2 (some .int), Cond.methodLink RX1 74 yX1_swell, Cond.instanceMethod yX1_swell, Cond.selects RX1 yX1_swell yX1_swell, Cond.code yX1_swell cX1_swell 2 none]
def wsX2_bears : List Cond := .code yX2_bears cX2_bears 3 (some .int) :: ((wsX2_bears_r1 ++ (wsX2_bears_r2 ++ wsX2_bears_r3)) ++ wsX20 ++ wsX10 ++ (vx_atS RX2 77 "java/lang/IndexOutOfBoundsException" ["java/lang/RuntimeException", "java/lang/Exception"]).filter goodWord)
def wsX2_lowestToBreak : List Cond := .code yX2_lowestToBreak cX2_lowestToBreak 2 (some .int) :: ([.fieldLink RX2 10 "WedgeHarps" "now" "LWedgeHarps$Harp;", .fieldLink RX2 91 "WedgeHarps$Harp" "whole" "[Z", .fieldLink RX2 16 "WedgeHarps" "later" "LWedgeHarps$Harp;"] ++ wsX20 ++ wsX10)
def wsX2_first_r1 : List Cond := [Cond.fieldLink RX2 16 "WedgeHarps" "later" "LWedgeHarps$Harp;", Cond.fieldLink RX2 10 "WedgeHarps" "now" "LWedgeHarps$Harp;", Cond.methodLink RX2 146 yX1_copy, Cond.instanceMethod yX1_copy, Cond.selects RX1 yX1_copy yX1_copy, Cond.initialized RX1, Cond.code yX1_copy cX1_copy 3 none, Cond.fieldLink RX1 9 "WedgeHarps$Harp" "base" "[I", Cond.fieldLink RX1 15 "WedgeHarps$Harp" "wedge" "[I", Cond.fieldLink RX1 18 "WedgeHarps$Harp" "drift" "[I", Cond.fieldLink RX1 21 "WedgeHarps$Harp" "strain" "[I", Cond.fieldLink RX1 24 "WedgeHarps$Harp" "breaks" "[I", Cond.fieldLink RX1 27 "WedgeHarps$Harp" "whole" "[Z", Cond.fieldLink RX1 31 "WedgeHarps$Harp" "swelling" "I", Cond.fieldLink RX1 35 "WedgeHarps$Harp" "hour" "I", Cond.methodLink RX2 134 yX2_letHourGo, Cond.instanceMethod yX2_letHourGo, Cond.selects RX2 yX2_letHourGo yX2_letHourGo, Cond.initialized RX2, Cond.code yX2_letHourGo cX2_letHourGo 5 (some .int), Cond.fieldLink RX2 19 "WedgeHarps" "windTable" "[I", Cond.fieldLink RX2 23 "WedgeHarps" "dampTable" "[I", Cond.methodLink RX2 206 yX1_hourOfTable, Cond.instanceMethod yX1_hourOfTable]
def wsX2_first_r2 : List Cond := [Cond.selects RX1 yX1_hourOfTable yX1_hourOfTable, Cond.code yX1_hourOfTable cX1_hourOfTable 1 (some .int), Cond.methodLink RX1 62 yJ9_floorMod_7cf53, Cond.static yJ9_floorMod_7cf53, Cond.initialized RJ9, Cond.code yJ9_floorMod_7cf53 cJ9_floorMod_7cf53 3 (some .int), Cond.methodLink RX2 209 yX1_spendHour, Cond.instanceMethod yX1_spendHour, Cond.selects RX1 yX1_spendHour yX1_spendHour, Cond.code yX1_spendHour cX1_spendHour 7 (some .int), Cond.methodLink RX1 66 yX1_breaksIn, Cond.instanceMethod yX1_breaksIn, Cond.selects RX1 yX1_breaksIn yX1_breaksIn, Cond.code yX1_breaksIn cX1_breaksIn 4 (some .boolean), Cond.methodLink RX1 78 Lib.Math.max.name, Cond.static Lib.Math.max.name, Cond.initialized "java/lang/Math", Cond.code Lib.Math.max.name Lib.Math.max.code 2 (some .int), Cond.methodLink RX1 38 yX1_toneOf, Cond.instanceMethod yX1_toneOf, Cond.selects RX1 yX1_toneOf yX1_toneOf, Cond.code yX1_toneOf cX1_toneOf 3 (some .int), Cond.methodLink RX1 70 yX1_slip, Cond.instanceMethod yX1_slip]
def wsX2_first_r3 : List Cond := [Cond.selects RX1 yX1_slip yX1_slip, Cond.code yX1_slip cX1_slip 3 none, Cond.methodLink RX1 81 Lib.Math.min.name, Cond.static Lib.Math.min.name, Cond.code Lib.Math.min.name Lib.Math.min.code 2 (some .int), Cond.methodLink RX1 74 yX1_swell, Cond.instanceMethod yX1_swell, Cond.selects RX1 yX1_swell yX1_swell, Cond.code yX1_swell cX1_swell 2 none, Cond.methodLink RX2 150 yX2_lowestToBreak, Cond.instanceMethod yX2_lowestToBreak, Cond.selects RX2 yX2_lowestToBreak yX2_lowestToBreak, Cond.code yX2_lowestToBreak cX2_lowestToBreak 2 (some .int), Cond.fieldLink RX2 91 "WedgeHarps$Harp" "whole" "[Z"]
def wsX2_first : List Cond := .code yX2_first cX2_first 2 (some .int) :: ((wsX2_first_r1 ++ (wsX2_first_r2 ++ wsX2_first_r3)) ++ wsX20 ++ wsX10)
def wsX2_holds_r1 : List Cond := [Cond.fieldLink RX2 28 "WedgeHarps" "chords" "[LWedgeHarps$Chord;", Cond.fieldLink RX2 16 "WedgeHarps" "later" "LWedgeHarps$Harp;", Cond.fieldLink RX2 10 "WedgeHarps" "now" "LWedgeHarps$Harp;", Cond.fieldLink RX2 154 "WedgeHarps$Chord" "lowest" "I", Cond.fieldLink RX2 157 "WedgeHarps$Chord" "size" "I", Cond.methodLink RX2 116 yX2_checkChord, Cond.instanceMethod yX2_checkChord, Cond.selects RX2 yX2_checkChord yX2_checkChord, Cond.initialized RX2, Cond.code yX2_checkChord cX2_checkChord 2 none, Cond.classLink RX2 73 "java/lang/IndexOutOfBoundsException", Cond.initialized "java/lang/IndexOutOfBoundsException", Cond.fieldLink RX2 33 "WedgeHarps" "told" "I", Cond.methodLink RX2 146 yX1_copy, Cond.instanceMethod yX1_copy, Cond.selects RX1 yX1_copy yX1_copy, Cond.initialized RX1, Cond.code yX1_copy cX1_copy 3 none, Cond.fieldLink RX1 9 "WedgeHarps$Harp" "base" "[I", Cond.fieldLink RX1 15 "WedgeHarps$Harp" "wedge" "[I", Cond.fieldLink RX1 18 "WedgeHarps$Harp" "drift" "[I", Cond.fieldLink RX1 21 "WedgeHarps$Harp" "strain" "[I", Cond.fieldLink RX1 24 "WedgeHarps$Harp" "breaks" "[I", Cond.fieldLink RX1 27 "WedgeHarps$Harp" "whole" "[Z"]
def wsX2_holds_r2 : List Cond := [Cond.fieldLink RX1 31 "WedgeHarps$Harp" "swelling" "I", Cond.fieldLink RX1 35 "WedgeHarps$Harp" "hour" "I", Cond.methodLink RX2 123 yX1_isTunedTo, Cond.instanceMethod yX1_isTunedTo, Cond.selects RX1 yX1_isTunedTo yX1_isTunedTo, Cond.code yX1_isTunedTo cX1_isTunedTo 3 (some .boolean), Cond.fieldLink RX1 42 "WedgeHarps$Chord" "size" "I", Cond.methodLink RX1 58 yX1_fitsPushed, Cond.instanceMethod yX1_fitsPushed, Cond.selects RX1 yX1_fitsPushed yX1_fitsPushed, Cond.code yX1_fitsPushed cX1_fitsPushed 7 (some .boolean), Cond.fieldLink RX1 47 "WedgeHarps$Chord" "lowest" "I", Cond.fieldLink RX1 50 "WedgeHarps$Chord" "tones" "[I", Cond.methodLink RX1 53 Lib.Math.abs.name, Cond.static Lib.Math.abs.name, Cond.initialized "java/lang/Math", Cond.code Lib.Math.abs.name Lib.Math.abs.code 1 (some .int), Cond.methodLink RX1 38 yX1_toneOf, Cond.instanceMethod yX1_toneOf, Cond.selects RX1 yX1_toneOf yX1_toneOf, Cond.code yX1_toneOf cX1_toneOf 3 (some .int), Cond.methodLink RX2 134 yX2_letHourGo, Cond.instanceMethod yX2_letHourGo, Cond.selects RX2 yX2_letHourGo yX2_letHourGo]
def wsX2_holds_r3 : List Cond := [Cond.code yX2_letHourGo cX2_letHourGo 5 (some .int), Cond.fieldLink RX2 19 "WedgeHarps" "windTable" "[I", Cond.fieldLink RX2 23 "WedgeHarps" "dampTable" "[I", Cond.methodLink RX2 206 yX1_hourOfTable, Cond.instanceMethod yX1_hourOfTable, Cond.selects RX1 yX1_hourOfTable yX1_hourOfTable, Cond.code yX1_hourOfTable cX1_hourOfTable 1 (some .int), Cond.methodLink RX1 62 yJ9_floorMod_7cf53, Cond.static yJ9_floorMod_7cf53, Cond.initialized RJ9, Cond.code yJ9_floorMod_7cf53 cJ9_floorMod_7cf53 3 (some .int), Cond.methodLink RX2 209 yX1_spendHour, Cond.instanceMethod yX1_spendHour, Cond.selects RX1 yX1_spendHour yX1_spendHour, Cond.code yX1_spendHour cX1_spendHour 7 (some .int), Cond.methodLink RX1 66 yX1_breaksIn, Cond.instanceMethod yX1_breaksIn, Cond.selects RX1 yX1_breaksIn yX1_breaksIn, Cond.code yX1_breaksIn cX1_breaksIn 4 (some .boolean), Cond.methodLink RX1 78 Lib.Math.max.name, Cond.static Lib.Math.max.name, Cond.code Lib.Math.max.name Lib.Math.max.code 2 (some .int), Cond.methodLink RX1 70 yX1_slip, Cond.instanceMethod yX1_slip]
def wsX2_holds_r4 : List Cond := [Cond.selects RX1 yX1_slip yX1_slip, Cond.code yX1_slip cX1_slip 3 none, Cond.methodLink RX1 81 Lib.Math.min.name, Cond.static Lib.Math.min.name, Cond.code Lib.Math.min.name Lib.Math.min.code 2 (some .int), Cond.methodLink RX1 74 yX1_swell, Cond.instanceMethod yX1_swell, Cond.selects RX1 yX1_swell yX1_swell, Cond.code yX1_swell cX1_swell 2 none]
def wsX2_holds : List Cond := .code yX2_holds cX2_holds 4 (some .int) :: ((wsX2_holds_r1 ++ (wsX2_holds_r2 ++ (wsX2_holds_r3 ++ wsX2_holds_r4))) ++ wsX20 ++ wsX00 ++ wsX10 ++ (vx_atS RX2 77 "java/lang/IndexOutOfBoundsException" ["java/lang/RuntimeException", "java/lang/Exception"]).filter goodWord)
def wsX2_foresee_r1 : List Cond := [Cond.fieldLink RX2 16 "WedgeHarps" "later" "LWedgeHarps$Harp;", Cond.fieldLink RX2 10 "WedgeHarps" "now" "LWedgeHarps$Harp;", Cond.methodLink RX2 131 yX2_checkHours, Cond.static yX2_checkHours, Cond.initialized RX2, Cond.code yX2_checkHours cX2_checkHours 1 none, Cond.classLink RX2 44 "java/lang/IllegalArgumentException", Cond.initialized "java/lang/IllegalArgumentException", Cond.methodLink RX2 37 yX2_checkString, Cond.static yX2_checkString, Cond.code yX2_checkString cX2_checkString 1 none, Cond.classLink RX2 73 "java/lang/IndexOutOfBoundsException", Cond.initialized "java/lang/IndexOutOfBoundsException", Cond.methodLink RX2 146 yX1_copy, Cond.instanceMethod yX1_copy, Cond.selects RX1 yX1_copy yX1_copy, Cond.initialized RX1, Cond.code yX1_copy cX1_copy 3 none, Cond.fieldLink RX1 9 "WedgeHarps$Harp" "base" "[I", Cond.fieldLink RX1 15 "WedgeHarps$Harp" "wedge" "[I", Cond.fieldLink RX1 18 "WedgeHarps$Harp" "drift" "[I", Cond.fieldLink RX1 21 "WedgeHarps$Harp" "strain" "[I", Cond.fieldLink RX1 24 "WedgeHarps$Harp" "breaks" "[I", Cond.fieldLink RX1 27 "WedgeHarps$Harp" "whole" "[Z"]
def wsX2_foresee_r2 : List Cond := [Cond.fieldLink RX1 31 "WedgeHarps$Harp" "swelling" "I", Cond.fieldLink RX1 35 "WedgeHarps$Harp" "hour" "I", Cond.methodLink RX2 134 yX2_letHourGo, Cond.instanceMethod yX2_letHourGo, Cond.selects RX2 yX2_letHourGo yX2_letHourGo, Cond.code yX2_letHourGo cX2_letHourGo 5 (some .int), Cond.fieldLink RX2 19 "WedgeHarps" "windTable" "[I", Cond.fieldLink RX2 23 "WedgeHarps" "dampTable" "[I", Cond.methodLink RX2 206 yX1_hourOfTable, Cond.instanceMethod yX1_hourOfTable, Cond.selects RX1 yX1_hourOfTable yX1_hourOfTable, Cond.code yX1_hourOfTable cX1_hourOfTable 1 (some .int), Cond.methodLink RX1 62 yJ9_floorMod_7cf53, Cond.static yJ9_floorMod_7cf53, Cond.initialized RJ9, Cond.code yJ9_floorMod_7cf53 cJ9_floorMod_7cf53 3 (some .int), Cond.methodLink RX2 209 yX1_spendHour, Cond.instanceMethod yX1_spendHour, Cond.selects RX1 yX1_spendHour yX1_spendHour, Cond.code yX1_spendHour cX1_spendHour 7 (some .int), Cond.methodLink RX1 66 yX1_breaksIn, Cond.instanceMethod yX1_breaksIn, Cond.selects RX1 yX1_breaksIn yX1_breaksIn, Cond.code yX1_breaksIn cX1_breaksIn 4 (some .boolean)]
def wsX2_foresee_r3 : List Cond := [Cond.methodLink RX1 78 Lib.Math.max.name, Cond.static Lib.Math.max.name, Cond.initialized "java/lang/Math", Cond.code Lib.Math.max.name Lib.Math.max.code 2 (some .int), Cond.methodLink RX1 38 yX1_toneOf, Cond.instanceMethod yX1_toneOf, Cond.selects RX1 yX1_toneOf yX1_toneOf, Cond.code yX1_toneOf cX1_toneOf 3 (some .int), Cond.methodLink RX1 70 yX1_slip, Cond.instanceMethod yX1_slip, Cond.selects RX1 yX1_slip yX1_slip, Cond.code yX1_slip cX1_slip 3 none, Cond.methodLink RX1 81 Lib.Math.min.name, Cond.static Lib.Math.min.name, Cond.code Lib.Math.min.name Lib.Math.min.code 2 (some .int), Cond.methodLink RX1 74 yX1_swell, Cond.instanceMethod yX1_swell, Cond.selects RX1 yX1_swell yX1_swell, Cond.code yX1_swell cX1_swell 2 none, Cond.methodLink RX2 63 yX1_toneOf]
def wsX2_foresee : List Cond := .code yX2_foresee cX2_foresee 4 (some .int) :: ((wsX2_foresee_r1 ++ (wsX2_foresee_r2 ++ wsX2_foresee_r3)) ++ wsX20 ++ wsX10 ++ (vx_atS RX2 48 "java/lang/IllegalArgumentException" ["java/lang/RuntimeException", "java/lang/Exception"]).filter goodWord ++ (vx_atS RX2 77 "java/lang/IndexOutOfBoundsException" ["java/lang/RuntimeException", "java/lang/Exception"]).filter goodWord)
def wsX2_mean : List Cond := .code yX2_mean cX2_mean 2 (some .double) :: ([.fieldLink RX2 10 "WedgeHarps" "now" "LWedgeHarps$Harp;", .methodLink RX2 160 yX1_wholeStrings, .instanceMethod yX1_wholeStrings, .selects RX1 yX1_wholeStrings yX1_wholeStrings, .initialized RX1, .code yX1_wholeStrings cX1_wholeStrings 3 (some .int), .fieldLink RX1 27 "WedgeHarps$Harp" "whole" "[Z", .methodLink RX2 163 yX1_sumOfTones, .instanceMethod yX1_sumOfTones, .selects RX1 yX1_sumOfTones yX1_sumOfTones, .code yX1_sumOfTones cX1_sumOfTones 3 (some .int), .methodLink RX1 38 yX1_toneOf, .instanceMethod yX1_toneOf, .selects RX1 yX1_toneOf yX1_toneOf, .code yX1_toneOf cX1_toneOf 3 (some .int), .fieldLink RX1 15 "WedgeHarps$Harp" "wedge" "[I", .fieldLink RX1 9 "WedgeHarps$Harp" "base" "[I", .fieldLink RX1 18 "WedgeHarps$Harp" "drift" "[I", .fieldLink RX1 31 "WedgeHarps$Harp" "swelling" "I"] ++ wsX20 ++ wsX10)
def wsX2_digestWith_r1 : List Cond := [Cond.constantLong RX2 168 (31), Cond.fieldLink RX2 154 "WedgeHarps$Chord" "lowest" "I", Cond.fieldLink RX2 157 "WedgeHarps$Chord" "size" "I", Cond.fieldLink RX2 203 "WedgeHarps$Chord" "tones" "[I", Cond.fieldLink RX2 10 "WedgeHarps" "now" "LWedgeHarps$Harp;", Cond.methodLink RX2 119 yX1_distanceFrom, Cond.instanceMethod yX1_distanceFrom, Cond.selects RX1 yX1_distanceFrom yX1_distanceFrom, Cond.initialized RX1, Cond.code yX1_distanceFrom cX1_distanceFrom 4 (some .int), Cond.fieldLink RX1 42 "WedgeHarps$Chord" "size" "I", Cond.fieldLink RX1 47 "WedgeHarps$Chord" "lowest" "I", Cond.fieldLink RX1 50 "WedgeHarps$Chord" "tones" "[I", Cond.methodLink RX1 53 Lib.Math.abs.name, Cond.static Lib.Math.abs.name, Cond.initialized "java/lang/Math", Cond.code Lib.Math.abs.name Lib.Math.abs.code 1 (some .int), Cond.methodLink RX1 38 yX1_toneOf, Cond.instanceMethod yX1_toneOf, Cond.selects RX1 yX1_toneOf yX1_toneOf, Cond.code yX1_toneOf cX1_toneOf 3 (some .int), Cond.fieldLink RX1 27 "WedgeHarps$Harp" "whole" "[Z", Cond.fieldLink RX1 15 "WedgeHarps$Harp" "wedge" "[I", Cond.fieldLink RX1 9 "WedgeHarps$Harp" "base" "[I"]
def wsX2_digestWith_r2 : List Cond := [Cond.fieldLink RX1 18 "WedgeHarps$Harp" "drift" "[I", Cond.fieldLink RX1 31 "WedgeHarps$Harp" "swelling" "I"]
def wsX2_digestWith : List Cond := .code yX2_digestWith cX2_digestWith 7 (some .long) :: ((wsX2_digestWith_r1 ++ wsX2_digestWith_r2) ++ wsX00 ++ wsX20 ++ wsX10)
def wsX2_digest_r1 : List Cond := [Cond.constantLong RX2 166 (947), Cond.constantLong RX2 168 (31), Cond.fieldLink RX2 10 "WedgeHarps" "now" "LWedgeHarps$Harp;", Cond.fieldLink RX2 33 "WedgeHarps" "told" "I", Cond.fieldLink RX2 28 "WedgeHarps" "chords" "[LWedgeHarps$Chord;", Cond.methodLink RX2 140 yX2_countOf, Cond.instanceMethod yX2_countOf, Cond.selects RX2 yX2_countOf yX2_countOf, Cond.initialized RX2, Cond.code yX2_countOf cX2_countOf 2 (some .int), Cond.fieldLink RX2 184 "WedgeHarps$Harp" "hour" "I", Cond.fieldLink RX2 190 "WedgeHarps$Harp" "swelling" "I", Cond.fieldLink RX2 60 "WedgeHarps$Harp" "wedge" "[I", Cond.fieldLink RX2 197 "WedgeHarps$Harp" "strain" "[I", Cond.fieldLink RX2 200 "WedgeHarps$Harp" "breaks" "[I", Cond.methodLink RX2 160 yX1_wholeStrings, Cond.instanceMethod yX1_wholeStrings, Cond.selects RX1 yX1_wholeStrings yX1_wholeStrings, Cond.initialized RX1, Cond.code yX1_wholeStrings cX1_wholeStrings 3 (some .int), Cond.fieldLink RX1 27 "WedgeHarps$Harp" "whole" "[Z", Cond.methodLink RX2 187 yX2_soundingChords, Cond.instanceMethod yX2_soundingChords, Cond.selects RX2 yX2_soundingChords yX2_soundingChords]
def wsX2_digest_r2 : List Cond := [Cond.code yX2_soundingChords cX2_soundingChords 3 (some .int), Cond.methodLink RX2 123 yX1_isTunedTo, Cond.instanceMethod yX1_isTunedTo, Cond.selects RX1 yX1_isTunedTo yX1_isTunedTo, Cond.code yX1_isTunedTo cX1_isTunedTo 3 (some .boolean), Cond.fieldLink RX1 42 "WedgeHarps$Chord" "size" "I", Cond.methodLink RX1 58 yX1_fitsPushed, Cond.instanceMethod yX1_fitsPushed, Cond.selects RX1 yX1_fitsPushed yX1_fitsPushed, Cond.code yX1_fitsPushed cX1_fitsPushed 7 (some .boolean), Cond.fieldLink RX1 47 "WedgeHarps$Chord" "lowest" "I", Cond.fieldLink RX1 50 "WedgeHarps$Chord" "tones" "[I", Cond.methodLink RX1 53 Lib.Math.abs.name, Cond.static Lib.Math.abs.name, Cond.initialized "java/lang/Math", Cond.code Lib.Math.abs.name Lib.Math.abs.code 1 (some .int), Cond.methodLink RX1 38 yX1_toneOf, Cond.instanceMethod yX1_toneOf, Cond.selects RX1 yX1_toneOf yX1_toneOf, Cond.code yX1_toneOf cX1_toneOf 3 (some .int), Cond.fieldLink RX1 15 "WedgeHarps$Harp" "wedge" "[I", Cond.fieldLink RX1 9 "WedgeHarps$Harp" "base" "[I", Cond.fieldLink RX1 18 "WedgeHarps$Harp" "drift" "[I", Cond.fieldLink RX1 31 "WedgeHarps$Harp" "swelling" "I"]
def wsX2_digest_r3 : List Cond := [Cond.methodLink RX2 193 yX2_sumOf, Cond.static yX2_sumOf, Cond.code yX2_sumOf cX2_sumOf 6 (some .int), Cond.methodLink RX2 87 yX1_factOf, Cond.instanceMethod yX1_factOf, Cond.selects RX1 yX1_factOf yX1_factOf, Cond.code yX1_factOf cX1_factOf 3 (some .int), Cond.fieldLink RX1 21 "WedgeHarps$Harp" "strain" "[I", Cond.fieldLink RX1 24 "WedgeHarps$Harp" "breaks" "[I", Cond.methodLink RX2 82 yX2_weatherAt, Cond.instanceMethod yX2_weatherAt, Cond.selects RX2 yX2_weatherAt yX2_weatherAt, Cond.code yX2_weatherAt cX2_weatherAt 2 (some .int), Cond.fieldLink RX2 19 "WedgeHarps" "windTable" "[I", Cond.fieldLink RX2 23 "WedgeHarps" "dampTable" "[I", Cond.methodLink RX2 170 yX2_digestWith, Cond.instanceMethod yX2_digestWith, Cond.selects RX2 yX2_digestWith yX2_digestWith, Cond.code yX2_digestWith cX2_digestWith 7 (some .long), Cond.fieldLink RX2 154 "WedgeHarps$Chord" "lowest" "I", Cond.fieldLink RX2 157 "WedgeHarps$Chord" "size" "I", Cond.fieldLink RX2 203 "WedgeHarps$Chord" "tones" "[I", Cond.methodLink RX2 119 yX1_distanceFrom, Cond.instanceMethod yX1_distanceFrom]
def wsX2_digest_r4 : List Cond := [Cond.selects RX1 yX1_distanceFrom yX1_distanceFrom, Cond.code yX1_distanceFrom cX1_distanceFrom 4 (some .int)]
def wsX2_digest : List Cond := .code yX2_digest cX2_digest 5 (some .long) :: ((wsX2_digest_r1 ++ (wsX2_digest_r2 ++ (wsX2_digest_r3 ++ wsX2_digest_r4))) ++ wsX20 ++ wsX10 ++ wsX00)
def wsX3_put : List Cond := .code yX3_put cX3_put 4 none :: ([.fieldLink RX3 9 "WedgeHarpsModel" "harp" "[I"] ++ wsX30)
def wsX3_init : List Cond := .code yX3_init cX3_init 2 none :: ([.methodLink RX3 1 objectInit, .instanceMethod objectInit, .code objectInit ⟨#[0xb1]⟩ 1 none, .arrayClass .int, .fieldLink RX3 9 "WedgeHarpsModel" "harp" "[I", .fieldLink RX3 13 "WedgeHarpsModel" "told" "[I", .fieldLink RX3 16 "WedgeHarpsModel" "winds" "[I", .fieldLink RX3 19 "WedgeHarpsModel" "damps" "[I", .fieldLink RX3 22 "WedgeHarpsModel" "numbers" "[I", .fieldLink RX3 25 "WedgeHarpsModel" "pushed" "[I", .methodLink RX3 28 yX3_put, .instanceMethod yX3_put, .selects RX3 yX3_put yX3_put, .initialized RX3, .code yX3_put cX3_put 4 none] ++ wsX30)
def wsX3_thrown : List Cond := .code yX3_thrown cX3_thrown 1 (some .int) :: ([.fieldLink RX3 32 "WedgeHarpsModel" "thrown" "I"] ++ wsX30)
def wsX3_fail : List Cond := .code yX3_fail cX3_fail 2 (some .int) :: ([.fieldLink RX3 32 "WedgeHarpsModel" "thrown" "I"] ++ wsX30)
def wsX3_isIn : List Cond := .code yX3_isIn cX3_isIn 3 (some .boolean) :: ([])
def wsX3_isString : List Cond := .code yX3_isString cX3_isString 1 (some .boolean) :: ([.methodLink RX3 36 yX3_isIn, .static yX3_isIn, .initialized RX3, .code yX3_isIn cX3_isIn 3 (some .boolean)])
def wsX3_ha : List Cond := .code yX3_ha cX3_ha 3 (some .int) :: ([.fieldLink RX3 9 "WedgeHarpsModel" "harp" "[I"] ++ wsX30)
def wsX3_wedge : List Cond := .code yX3_wedge cX3_wedge 2 (some .int) :: ([.fieldLink RX3 25 "WedgeHarpsModel" "pushed" "[I", .methodLink RX3 40 yX3_isString, .static yX3_isString, .initialized RX3, .code yX3_isString cX3_isString 1 (some .boolean), .methodLink RX3 36 yX3_isIn, .static yX3_isIn, .code yX3_isIn cX3_isIn 3 (some .boolean), .methodLink RX3 44 yX3_ha, .instanceMethod yX3_ha, .selects RX3 yX3_ha yX3_ha, .code yX3_ha cX3_ha 3 (some .int), .fieldLink RX3 9 "WedgeHarpsModel" "harp" "[I"] ++ wsX30)
def wsX3_tone : List Cond := .code yX3_tone cX3_tone 2 (some .int) :: ([.fieldLink RX3 22 "WedgeHarpsModel" "numbers" "[I", .methodLink RX3 44 yX3_ha, .instanceMethod yX3_ha, .selects RX3 yX3_ha yX3_ha, .initialized RX3, .code yX3_ha cX3_ha 3 (some .int), .fieldLink RX3 9 "WedgeHarpsModel" "harp" "[I", .methodLink RX3 48 yX3_wedge, .instanceMethod yX3_wedge, .selects RX3 yX3_wedge yX3_wedge, .code yX3_wedge cX3_wedge 2 (some .int), .fieldLink RX3 25 "WedgeHarpsModel" "pushed" "[I", .methodLink RX3 40 yX3_isString, .static yX3_isString, .code yX3_isString cX3_isString 1 (some .boolean), .methodLink RX3 36 yX3_isIn, .static yX3_isIn, .code yX3_isIn cX3_isIn 3 (some .boolean)] ++ wsX30)
def wsX3_push_r1 : List Cond := [Cond.fieldLink RX3 32 "WedgeHarpsModel" "thrown" "I", Cond.methodLink RX3 40 yX3_isString, Cond.static yX3_isString, Cond.initialized RX3, Cond.code yX3_isString cX3_isString 1 (some .boolean), Cond.methodLink RX3 36 yX3_isIn, Cond.static yX3_isIn, Cond.code yX3_isIn cX3_isIn 3 (some .boolean), Cond.methodLink RX3 52 yX3_fail, Cond.instanceMethod yX3_fail, Cond.selects RX3 yX3_fail yX3_fail, Cond.code yX3_fail cX3_fail 2 (some .int), Cond.methodLink RX3 44 yX3_ha, Cond.instanceMethod yX3_ha, Cond.selects RX3 yX3_ha yX3_ha, Cond.code yX3_ha cX3_ha 3 (some .int), Cond.fieldLink RX3 9 "WedgeHarpsModel" "harp" "[I", Cond.methodLink RX3 28 yX3_put, Cond.instanceMethod yX3_put, Cond.selects RX3 yX3_put yX3_put, Cond.code yX3_put cX3_put 4 none, Cond.methodLink RX3 55 yX3_tone, Cond.instanceMethod yX3_tone, Cond.selects RX3 yX3_tone yX3_tone]
def wsX3_push_r2 : List Cond := [Cond.code yX3_tone cX3_tone 2 (some .int), Cond.fieldLink RX3 22 "WedgeHarpsModel" "numbers" "[I", Cond.methodLink RX3 48 yX3_wedge, Cond.instanceMethod yX3_wedge, Cond.selects RX3 yX3_wedge yX3_wedge, Cond.code yX3_wedge cX3_wedge 2 (some .int), Cond.fieldLink RX3 25 "WedgeHarpsModel" "pushed" "[I"]
def wsX3_push : List Cond := .code yX3_push cX3_push 3 (some .int) :: ((wsX3_push_r1 ++ wsX3_push_r2) ++ wsX30)
def wsX3_draw_r1 : List Cond := [Cond.fieldLink RX3 32 "WedgeHarpsModel" "thrown" "I", Cond.methodLink RX3 40 yX3_isString, Cond.static yX3_isString, Cond.initialized RX3, Cond.code yX3_isString cX3_isString 1 (some .boolean), Cond.methodLink RX3 36 yX3_isIn, Cond.static yX3_isIn, Cond.code yX3_isIn cX3_isIn 3 (some .boolean), Cond.methodLink RX3 52 yX3_fail, Cond.instanceMethod yX3_fail, Cond.selects RX3 yX3_fail yX3_fail, Cond.code yX3_fail cX3_fail 2 (some .int), Cond.methodLink RX3 28 yX3_put, Cond.instanceMethod yX3_put, Cond.selects RX3 yX3_put yX3_put, Cond.code yX3_put cX3_put 4 none, Cond.fieldLink RX3 9 "WedgeHarpsModel" "harp" "[I", Cond.methodLink RX3 55 yX3_tone, Cond.instanceMethod yX3_tone, Cond.selects RX3 yX3_tone yX3_tone, Cond.code yX3_tone cX3_tone 2 (some .int), Cond.fieldLink RX3 22 "WedgeHarpsModel" "numbers" "[I", Cond.methodLink RX3 44 yX3_ha, Cond.instanceMethod yX3_ha]
def wsX3_draw_r2 : List Cond := [Cond.selects RX3 yX3_ha yX3_ha, Cond.code yX3_ha cX3_ha 3 (some .int), Cond.methodLink RX3 48 yX3_wedge, Cond.instanceMethod yX3_wedge, Cond.selects RX3 yX3_wedge yX3_wedge, Cond.code yX3_wedge cX3_wedge 2 (some .int), Cond.fieldLink RX3 25 "WedgeHarpsModel" "pushed" "[I"]
def wsX3_draw : List Cond := .code yX3_draw cX3_draw 3 (some .int) :: ((wsX3_draw_r1 ++ wsX3_draw_r2) ++ wsX30)
def wsX3_setWeather : List Cond := .code yX3_setWeather cX3_setWeather 5 (some .int) :: ([.fieldLink RX3 32 "WedgeHarpsModel" "thrown" "I", .fieldLink RX3 16 "WedgeHarpsModel" "winds" "[I", .fieldLink RX3 19 "WedgeHarpsModel" "damps" "[I", .methodLink RX3 36 yX3_isIn, .static yX3_isIn, .initialized RX3, .code yX3_isIn cX3_isIn 3 (some .boolean), .methodLink RX3 52 yX3_fail, .instanceMethod yX3_fail, .selects RX3 yX3_fail yX3_fail, .code yX3_fail cX3_fail 2 (some .int)] ++ wsX30)
def wsX3_stringTold : List Cond := .code yX3_stringTold cX3_stringTold 3 (some .int) :: ([.methodLink RX3 44 yX3_ha, .instanceMethod yX3_ha, .selects RX3 yX3_ha yX3_ha, .initialized RX3, .code yX3_ha cX3_ha 3 (some .int), .fieldLink RX3 9 "WedgeHarpsModel" "harp" "[I", .methodLink RX3 55 yX3_tone, .instanceMethod yX3_tone, .selects RX3 yX3_tone yX3_tone, .code yX3_tone cX3_tone 2 (some .int), .fieldLink RX3 22 "WedgeHarpsModel" "numbers" "[I", .methodLink RX3 48 yX3_wedge, .instanceMethod yX3_wedge, .selects RX3 yX3_wedge yX3_wedge, .code yX3_wedge cX3_wedge 2 (some .int), .fieldLink RX3 25 "WedgeHarpsModel" "pushed" "[I", .methodLink RX3 40 yX3_isString, .static yX3_isString, .code yX3_isString cX3_isString 1 (some .boolean), .methodLink RX3 36 yX3_isIn, .static yX3_isIn, .code yX3_isIn cX3_isIn 3 (some .boolean)] ++ wsX30)
def wsX3_string_r1 : List Cond := [Cond.fieldLink RX3 32 "WedgeHarpsModel" "thrown" "I", Cond.methodLink RX3 40 yX3_isString, Cond.static yX3_isString, Cond.initialized RX3, Cond.code yX3_isString cX3_isString 1 (some .boolean), Cond.methodLink RX3 36 yX3_isIn, Cond.static yX3_isIn, Cond.code yX3_isIn cX3_isIn 3 (some .boolean), Cond.methodLink RX3 58 yX3_stringTold, Cond.instanceMethod yX3_stringTold, Cond.selects RX3 yX3_stringTold yX3_stringTold, Cond.code yX3_stringTold cX3_stringTold 3 (some .int), Cond.methodLink RX3 44 yX3_ha, Cond.instanceMethod yX3_ha, Cond.selects RX3 yX3_ha yX3_ha, Cond.code yX3_ha cX3_ha 3 (some .int), Cond.fieldLink RX3 9 "WedgeHarpsModel" "harp" "[I", Cond.methodLink RX3 55 yX3_tone, Cond.instanceMethod yX3_tone, Cond.selects RX3 yX3_tone yX3_tone, Cond.code yX3_tone cX3_tone 2 (some .int), Cond.fieldLink RX3 22 "WedgeHarpsModel" "numbers" "[I", Cond.methodLink RX3 48 yX3_wedge, Cond.instanceMethod yX3_wedge]
def wsX3_string_r2 : List Cond := [Cond.selects RX3 yX3_wedge yX3_wedge, Cond.code yX3_wedge cX3_wedge 2 (some .int), Cond.fieldLink RX3 25 "WedgeHarpsModel" "pushed" "[I", Cond.methodLink RX3 52 yX3_fail, Cond.instanceMethod yX3_fail, Cond.selects RX3 yX3_fail yX3_fail, Cond.code yX3_fail cX3_fail 2 (some .int)]
def wsX3_string : List Cond := .code yX3_string cX3_string 3 (some .int) :: ((wsX3_string_r1 ++ wsX3_string_r2) ++ wsX30)
def wsX3_moves_r1 : List Cond := [Cond.fieldLink RX3 32 "WedgeHarpsModel" "thrown" "I", Cond.fieldLink RX3 25 "WedgeHarpsModel" "pushed" "[I", Cond.methodLink RX3 40 yX3_isString, Cond.static yX3_isString, Cond.initialized RX3, Cond.code yX3_isString cX3_isString 1 (some .boolean), Cond.methodLink RX3 36 yX3_isIn, Cond.static yX3_isIn, Cond.code yX3_isIn cX3_isIn 3 (some .boolean), Cond.methodLink RX3 52 yX3_fail, Cond.instanceMethod yX3_fail, Cond.selects RX3 yX3_fail yX3_fail, Cond.code yX3_fail cX3_fail 2 (some .int), Cond.methodLink RX3 55 yX3_tone, Cond.instanceMethod yX3_tone, Cond.selects RX3 yX3_tone yX3_tone, Cond.code yX3_tone cX3_tone 2 (some .int), Cond.fieldLink RX3 22 "WedgeHarpsModel" "numbers" "[I", Cond.methodLink RX3 44 yX3_ha, Cond.instanceMethod yX3_ha, Cond.selects RX3 yX3_ha yX3_ha, Cond.code yX3_ha cX3_ha 3 (some .int), Cond.fieldLink RX3 9 "WedgeHarpsModel" "harp" "[I", Cond.methodLink RX3 48 yX3_wedge]
def wsX3_moves_r2 : List Cond := [Cond.instanceMethod yX3_wedge, Cond.selects RX3 yX3_wedge yX3_wedge, Cond.code yX3_wedge cX3_wedge 2 (some .int)]
def wsX3_moves : List Cond := .code yX3_moves cX3_moves 6 (some .int) :: ((wsX3_moves_r1 ++ wsX3_moves_r2) ++ wsX30)
def wsX3_chord : List Cond := .code yX3_chord cX3_chord 8 (some .int) :: ([.fieldLink RX3 32 "WedgeHarpsModel" "thrown" "I", .fieldLink RX3 61 "WedgeHarpsModel" "chords" "I", .arrayClass .int, .fieldLink RX3 13 "WedgeHarpsModel" "told" "[I", .methodLink RX3 64 arraycopyName, .native arraycopyName, .static arraycopyName, .initialized "java/lang/System", .methodLink RX3 40 yX3_isString, .static yX3_isString, .initialized RX3, .code yX3_isString cX3_isString 1 (some .boolean), .methodLink RX3 36 yX3_isIn, .static yX3_isIn, .code yX3_isIn cX3_isIn 3 (some .boolean), .methodLink RX3 52 yX3_fail, .instanceMethod yX3_fail, .selects RX3 yX3_fail yX3_fail, .code yX3_fail cX3_fail 2 (some .int)] ++ wsX30)
def wsX3_isChord : List Cond := .code yX3_isChord cX3_isChord 2 (some .boolean) :: ([.fieldLink RX3 61 "WedgeHarpsModel" "chords" "I", .methodLink RX3 36 yX3_isIn, .static yX3_isIn, .initialized RX3, .code yX3_isIn cX3_isIn 3 (some .boolean)] ++ wsX30)
def wsX3_to : List Cond := .code yX3_to cX3_to 3 (some .int) :: ([.fieldLink RX3 13 "WedgeHarpsModel" "told" "[I"] ++ wsX30)
def wsX3_differs_r1 : List Cond := [Cond.methodLink RX3 73 Lib.Math.abs.name, Cond.static Lib.Math.abs.name, Cond.initialized "java/lang/Math", Cond.code Lib.Math.abs.name Lib.Math.abs.code 1 (some .int), Cond.methodLink RX3 70 yX3_to, Cond.instanceMethod yX3_to, Cond.selects RX3 yX3_to yX3_to, Cond.initialized RX3, Cond.code yX3_to cX3_to 3 (some .int), Cond.fieldLink RX3 13 "WedgeHarpsModel" "told" "[I", Cond.methodLink RX3 55 yX3_tone, Cond.instanceMethod yX3_tone, Cond.selects RX3 yX3_tone yX3_tone, Cond.code yX3_tone cX3_tone 2 (some .int), Cond.fieldLink RX3 22 "WedgeHarpsModel" "numbers" "[I", Cond.methodLink RX3 44 yX3_ha, Cond.instanceMethod yX3_ha, Cond.selects RX3 yX3_ha yX3_ha, Cond.code yX3_ha cX3_ha 3 (some .int), Cond.fieldLink RX3 9 "WedgeHarpsModel" "harp" "[I", Cond.methodLink RX3 48 yX3_wedge, Cond.instanceMethod yX3_wedge, Cond.selects RX3 yX3_wedge yX3_wedge, Cond.code yX3_wedge cX3_wedge 2 (some .int)]
def wsX3_differs_r2 : List Cond := [Cond.fieldLink RX3 25 "WedgeHarpsModel" "pushed" "[I", Cond.methodLink RX3 40 yX3_isString, Cond.static yX3_isString, Cond.code yX3_isString cX3_isString 1 (some .boolean), Cond.methodLink RX3 36 yX3_isIn, Cond.static yX3_isIn, Cond.code yX3_isIn cX3_isIn 3 (some .boolean)]
def wsX3_differs : List Cond := .code yX3_differs cX3_differs 3 (some .int) :: ((wsX3_differs_r1 ++ wsX3_differs_r2) ++ wsX30)
def wsX3_offBy_r1 : List Cond := [Cond.methodLink RX3 70 yX3_to, Cond.instanceMethod yX3_to, Cond.selects RX3 yX3_to yX3_to, Cond.initialized RX3, Cond.code yX3_to cX3_to 3 (some .int), Cond.fieldLink RX3 13 "WedgeHarpsModel" "told" "[I", Cond.methodLink RX3 78 yX3_differs, Cond.instanceMethod yX3_differs, Cond.selects RX3 yX3_differs yX3_differs, Cond.code yX3_differs cX3_differs 3 (some .int), Cond.methodLink RX3 73 Lib.Math.abs.name, Cond.static Lib.Math.abs.name, Cond.initialized "java/lang/Math", Cond.code Lib.Math.abs.name Lib.Math.abs.code 1 (some .int), Cond.methodLink RX3 55 yX3_tone, Cond.instanceMethod yX3_tone, Cond.selects RX3 yX3_tone yX3_tone, Cond.code yX3_tone cX3_tone 2 (some .int), Cond.fieldLink RX3 22 "WedgeHarpsModel" "numbers" "[I", Cond.methodLink RX3 44 yX3_ha, Cond.instanceMethod yX3_ha, Cond.selects RX3 yX3_ha yX3_ha, Cond.code yX3_ha cX3_ha 3 (some .int), Cond.fieldLink RX3 9 "WedgeHarpsModel" "harp" "[I"]
def wsX3_offBy_r2 : List Cond := [Cond.methodLink RX3 48 yX3_wedge, Cond.instanceMethod yX3_wedge, Cond.selects RX3 yX3_wedge yX3_wedge, Cond.code yX3_wedge cX3_wedge 2 (some .int), Cond.fieldLink RX3 25 "WedgeHarpsModel" "pushed" "[I", Cond.methodLink RX3 40 yX3_isString, Cond.static yX3_isString, Cond.code yX3_isString cX3_isString 1 (some .boolean), Cond.methodLink RX3 36 yX3_isIn, Cond.static yX3_isIn, Cond.code yX3_isIn cX3_isIn 3 (some .boolean)]
def wsX3_offBy : List Cond := .code yX3_offBy cX3_offBy 4 (some .int) :: ((wsX3_offBy_r1 ++ wsX3_offBy_r2) ++ wsX30)
def wsX3_off_r1 : List Cond := [Cond.fieldLink RX3 32 "WedgeHarpsModel" "thrown" "I", Cond.methodLink RX3 81 yX3_isChord, Cond.instanceMethod yX3_isChord, Cond.selects RX3 yX3_isChord yX3_isChord, Cond.initialized RX3, Cond.code yX3_isChord cX3_isChord 2 (some .boolean), Cond.fieldLink RX3 61 "WedgeHarpsModel" "chords" "I", Cond.methodLink RX3 36 yX3_isIn, Cond.static yX3_isIn, Cond.code yX3_isIn cX3_isIn 3 (some .boolean), Cond.methodLink RX3 84 yX3_offBy, Cond.instanceMethod yX3_offBy, Cond.selects RX3 yX3_offBy yX3_offBy, Cond.code yX3_offBy cX3_offBy 4 (some .int), Cond.methodLink RX3 70 yX3_to, Cond.instanceMethod yX3_to, Cond.selects RX3 yX3_to yX3_to, Cond.code yX3_to cX3_to 3 (some .int), Cond.fieldLink RX3 13 "WedgeHarpsModel" "told" "[I", Cond.methodLink RX3 78 yX3_differs, Cond.instanceMethod yX3_differs, Cond.selects RX3 yX3_differs yX3_differs, Cond.code yX3_differs cX3_differs 3 (some .int), Cond.methodLink RX3 73 Lib.Math.abs.name]
def wsX3_off_r2 : List Cond := [Cond.static Lib.Math.abs.name, Cond.initialized "java/lang/Math", Cond.code Lib.Math.abs.name Lib.Math.abs.code 1 (some .int), Cond.methodLink RX3 55 yX3_tone, Cond.instanceMethod yX3_tone, Cond.selects RX3 yX3_tone yX3_tone, Cond.code yX3_tone cX3_tone 2 (some .int), Cond.fieldLink RX3 22 "WedgeHarpsModel" "numbers" "[I", Cond.methodLink RX3 44 yX3_ha, Cond.instanceMethod yX3_ha, Cond.selects RX3 yX3_ha yX3_ha, Cond.code yX3_ha cX3_ha 3 (some .int), Cond.fieldLink RX3 9 "WedgeHarpsModel" "harp" "[I", Cond.methodLink RX3 48 yX3_wedge, Cond.instanceMethod yX3_wedge, Cond.selects RX3 yX3_wedge yX3_wedge, Cond.code yX3_wedge cX3_wedge 2 (some .int), Cond.fieldLink RX3 25 "WedgeHarpsModel" "pushed" "[I", Cond.methodLink RX3 40 yX3_isString, Cond.static yX3_isString, Cond.code yX3_isString cX3_isString 1 (some .boolean), Cond.methodLink RX3 52 yX3_fail, Cond.instanceMethod yX3_fail, Cond.selects RX3 yX3_fail yX3_fail]
def wsX3_off_r3 : List Cond := [Cond.code yX3_fail cX3_fail 2 (some .int)]
def wsX3_off : List Cond := .code yX3_off cX3_off 2 (some .int) :: ((wsX3_off_r1 ++ (wsX3_off_r2 ++ wsX3_off_r3)) ++ wsX30)
def wsX3_isSounding_r1 : List Cond := [Cond.methodLink RX3 70 yX3_to, Cond.instanceMethod yX3_to, Cond.selects RX3 yX3_to yX3_to, Cond.initialized RX3, Cond.code yX3_to cX3_to 3 (some .int), Cond.fieldLink RX3 13 "WedgeHarpsModel" "told" "[I", Cond.methodLink RX3 44 yX3_ha, Cond.instanceMethod yX3_ha, Cond.selects RX3 yX3_ha yX3_ha, Cond.code yX3_ha cX3_ha 3 (some .int), Cond.fieldLink RX3 9 "WedgeHarpsModel" "harp" "[I", Cond.methodLink RX3 78 yX3_differs, Cond.instanceMethod yX3_differs, Cond.selects RX3 yX3_differs yX3_differs, Cond.code yX3_differs cX3_differs 3 (some .int), Cond.methodLink RX3 73 Lib.Math.abs.name, Cond.static Lib.Math.abs.name, Cond.initialized "java/lang/Math", Cond.code Lib.Math.abs.name Lib.Math.abs.code 1 (some .int), Cond.methodLink RX3 55 yX3_tone, Cond.instanceMethod yX3_tone, Cond.selects RX3 yX3_tone yX3_tone, Cond.code yX3_tone cX3_tone 2 (some .int), Cond.fieldLink RX3 22 "WedgeHarpsModel" "numbers" "[I"]
def wsX3_isSounding_r2 : List Cond := [Cond.methodLink RX3 48 yX3_wedge, Cond.instanceMethod yX3_wedge, Cond.selects RX3 yX3_wedge yX3_wedge, Cond.code yX3_wedge cX3_wedge 2 (some .int), Cond.fieldLink RX3 25 "WedgeHarpsModel" "pushed" "[I", Cond.methodLink RX3 40 yX3_isString, Cond.static yX3_isString, Cond.code yX3_isString cX3_isString 1 (some .boolean), Cond.methodLink RX3 36 yX3_isIn, Cond.static yX3_isIn, Cond.code yX3_isIn cX3_isIn 3 (some .boolean)]
def wsX3_isSounding : List Cond := .code yX3_isSounding cX3_isSounding 3 (some .boolean) :: ((wsX3_isSounding_r1 ++ wsX3_isSounding_r2) ++ wsX30)
def wsX3_sounds_r1 : List Cond := [Cond.fieldLink RX3 32 "WedgeHarpsModel" "thrown" "I", Cond.methodLink RX3 81 yX3_isChord, Cond.instanceMethod yX3_isChord, Cond.selects RX3 yX3_isChord yX3_isChord, Cond.initialized RX3, Cond.code yX3_isChord cX3_isChord 2 (some .boolean), Cond.fieldLink RX3 61 "WedgeHarpsModel" "chords" "I", Cond.methodLink RX3 36 yX3_isIn, Cond.static yX3_isIn, Cond.code yX3_isIn cX3_isIn 3 (some .boolean), Cond.methodLink RX3 87 yX3_isSounding, Cond.instanceMethod yX3_isSounding, Cond.selects RX3 yX3_isSounding yX3_isSounding, Cond.code yX3_isSounding cX3_isSounding 3 (some .boolean), Cond.methodLink RX3 70 yX3_to, Cond.instanceMethod yX3_to, Cond.selects RX3 yX3_to yX3_to, Cond.code yX3_to cX3_to 3 (some .int), Cond.fieldLink RX3 13 "WedgeHarpsModel" "told" "[I", Cond.methodLink RX3 44 yX3_ha, Cond.instanceMethod yX3_ha, Cond.selects RX3 yX3_ha yX3_ha, Cond.code yX3_ha cX3_ha 3 (some .int), Cond.fieldLink RX3 9 "WedgeHarpsModel" "harp" "[I"]
def wsX3_sounds_r2 : List Cond := [Cond.methodLink RX3 78 yX3_differs, Cond.instanceMethod yX3_differs, Cond.selects RX3 yX3_differs yX3_differs, Cond.code yX3_differs cX3_differs 3 (some .int), Cond.methodLink RX3 73 Lib.Math.abs.name, Cond.static Lib.Math.abs.name, Cond.initialized "java/lang/Math", Cond.code Lib.Math.abs.name Lib.Math.abs.code 1 (some .int), Cond.methodLink RX3 55 yX3_tone, Cond.instanceMethod yX3_tone, Cond.selects RX3 yX3_tone yX3_tone, Cond.code yX3_tone cX3_tone 2 (some .int), Cond.fieldLink RX3 22 "WedgeHarpsModel" "numbers" "[I", Cond.methodLink RX3 48 yX3_wedge, Cond.instanceMethod yX3_wedge, Cond.selects RX3 yX3_wedge yX3_wedge, Cond.code yX3_wedge cX3_wedge 2 (some .int), Cond.fieldLink RX3 25 "WedgeHarpsModel" "pushed" "[I", Cond.methodLink RX3 40 yX3_isString, Cond.static yX3_isString, Cond.code yX3_isString cX3_isString 1 (some .boolean)]
def wsX3_sounds : List Cond := .code yX3_sounds cX3_sounds 2 (some .boolean) :: ((wsX3_sounds_r1 ++ wsX3_sounds_r2) ++ wsX30)
def wsX3_steps_r1 : List Cond := [Cond.fieldLink RX3 32 "WedgeHarpsModel" "thrown" "I", Cond.fieldLink RX3 25 "WedgeHarpsModel" "pushed" "[I", Cond.methodLink RX3 73 Lib.Math.abs.name, Cond.static Lib.Math.abs.name, Cond.initialized "java/lang/Math", Cond.code Lib.Math.abs.name Lib.Math.abs.code 1 (some .int), Cond.methodLink RX3 81 yX3_isChord, Cond.instanceMethod yX3_isChord, Cond.selects RX3 yX3_isChord yX3_isChord, Cond.initialized RX3, Cond.code yX3_isChord cX3_isChord 2 (some .boolean), Cond.fieldLink RX3 61 "WedgeHarpsModel" "chords" "I", Cond.methodLink RX3 36 yX3_isIn, Cond.static yX3_isIn, Cond.code yX3_isIn cX3_isIn 3 (some .boolean), Cond.methodLink RX3 52 yX3_fail, Cond.instanceMethod yX3_fail, Cond.selects RX3 yX3_fail yX3_fail, Cond.code yX3_fail cX3_fail 2 (some .int), Cond.methodLink RX3 70 yX3_to, Cond.instanceMethod yX3_to, Cond.selects RX3 yX3_to yX3_to, Cond.code yX3_to cX3_to 3 (some .int), Cond.fieldLink RX3 13 "WedgeHarpsModel" "told" "[I"]
def wsX3_steps_r2 : List Cond := [Cond.methodLink RX3 48 yX3_wedge, Cond.instanceMethod yX3_wedge, Cond.selects RX3 yX3_wedge yX3_wedge, Cond.code yX3_wedge cX3_wedge 2 (some .int), Cond.methodLink RX3 40 yX3_isString, Cond.static yX3_isString, Cond.code yX3_isString cX3_isString 1 (some .boolean), Cond.methodLink RX3 44 yX3_ha, Cond.instanceMethod yX3_ha, Cond.selects RX3 yX3_ha yX3_ha, Cond.code yX3_ha cX3_ha 3 (some .int), Cond.fieldLink RX3 9 "WedgeHarpsModel" "harp" "[I", Cond.methodLink RX3 87 yX3_isSounding, Cond.instanceMethod yX3_isSounding, Cond.selects RX3 yX3_isSounding yX3_isSounding, Cond.code yX3_isSounding cX3_isSounding 3 (some .boolean), Cond.methodLink RX3 78 yX3_differs, Cond.instanceMethod yX3_differs, Cond.selects RX3 yX3_differs yX3_differs, Cond.code yX3_differs cX3_differs 3 (some .int), Cond.methodLink RX3 55 yX3_tone, Cond.instanceMethod yX3_tone, Cond.selects RX3 yX3_tone yX3_tone, Cond.code yX3_tone cX3_tone 2 (some .int)]
def wsX3_steps_r3 : List Cond := [Cond.fieldLink RX3 22 "WedgeHarpsModel" "numbers" "[I"]
def wsX3_steps : List Cond := .code yX3_steps cX3_steps 11 (some .int) :: ((wsX3_steps_r1 ++ (wsX3_steps_r2 ++ wsX3_steps_r3)) ++ wsX30)
def wsX3_hourOn_r1 : List Cond := [Cond.fieldLink RX3 19 "WedgeHarpsModel" "damps" "[I", Cond.fieldLink RX3 22 "WedgeHarpsModel" "numbers" "[I", Cond.methodLink RX3 90 Lib.Math.max.name, Cond.static Lib.Math.max.name, Cond.initialized "java/lang/Math", Cond.code Lib.Math.max.name Lib.Math.max.code 2 (some .int), Cond.methodLink RX3 93 Lib.Math.min.name, Cond.static Lib.Math.min.name, Cond.code Lib.Math.min.name Lib.Math.min.code 2 (some .int), Cond.methodLink RX3 44 yX3_ha, Cond.instanceMethod yX3_ha, Cond.selects RX3 yX3_ha yX3_ha, Cond.initialized RX3, Cond.code yX3_ha cX3_ha 3 (some .int), Cond.fieldLink RX3 9 "WedgeHarpsModel" "harp" "[I", Cond.methodLink RX3 55 yX3_tone, Cond.instanceMethod yX3_tone, Cond.selects RX3 yX3_tone yX3_tone, Cond.code yX3_tone cX3_tone 2 (some .int), Cond.methodLink RX3 48 yX3_wedge, Cond.instanceMethod yX3_wedge, Cond.selects RX3 yX3_wedge yX3_wedge, Cond.code yX3_wedge cX3_wedge 2 (some .int), Cond.fieldLink RX3 25 "WedgeHarpsModel" "pushed" "[I"]
def wsX3_hourOn_r2 : List Cond := [Cond.methodLink RX3 40 yX3_isString, Cond.static yX3_isString, Cond.code yX3_isString cX3_isString 1 (some .boolean), Cond.methodLink RX3 36 yX3_isIn, Cond.static yX3_isIn, Cond.code yX3_isIn cX3_isIn 3 (some .boolean), Cond.methodLink RX3 28 yX3_put, Cond.instanceMethod yX3_put, Cond.selects RX3 yX3_put yX3_put, Cond.code yX3_put cX3_put 4 none]
def wsX3_hourOn : List Cond := .code yX3_hourOn cX3_hourOn 6 (some .int) :: ((wsX3_hourOn_r1 ++ wsX3_hourOn_r2) ++ wsX30)
def wsX3_hourOn__r1 : List Cond := [Cond.fieldLink RX3 16 "WedgeHarpsModel" "winds" "[I", Cond.fieldLink RX3 22 "WedgeHarpsModel" "numbers" "[I", Cond.methodLink RX3 96 yX3_hourOn, Cond.instanceMethod yX3_hourOn, Cond.selects RX3 yX3_hourOn yX3_hourOn, Cond.initialized RX3, Cond.code yX3_hourOn cX3_hourOn 6 (some .int), Cond.fieldLink RX3 19 "WedgeHarpsModel" "damps" "[I", Cond.methodLink RX3 90 Lib.Math.max.name, Cond.static Lib.Math.max.name, Cond.initialized "java/lang/Math", Cond.code Lib.Math.max.name Lib.Math.max.code 2 (some .int), Cond.methodLink RX3 93 Lib.Math.min.name, Cond.static Lib.Math.min.name, Cond.code Lib.Math.min.name Lib.Math.min.code 2 (some .int), Cond.methodLink RX3 44 yX3_ha, Cond.instanceMethod yX3_ha, Cond.selects RX3 yX3_ha yX3_ha, Cond.code yX3_ha cX3_ha 3 (some .int), Cond.fieldLink RX3 9 "WedgeHarpsModel" "harp" "[I", Cond.methodLink RX3 55 yX3_tone, Cond.instanceMethod yX3_tone, Cond.selects RX3 yX3_tone yX3_tone, Cond.code yX3_tone cX3_tone 2 (some .int)]
def wsX3_hourOn__r2 : List Cond := [Cond.methodLink RX3 48 yX3_wedge, Cond.instanceMethod yX3_wedge, Cond.selects RX3 yX3_wedge yX3_wedge, Cond.code yX3_wedge cX3_wedge 2 (some .int), Cond.fieldLink RX3 25 "WedgeHarpsModel" "pushed" "[I", Cond.methodLink RX3 40 yX3_isString, Cond.static yX3_isString, Cond.code yX3_isString cX3_isString 1 (some .boolean), Cond.methodLink RX3 36 yX3_isIn, Cond.static yX3_isIn, Cond.code yX3_isIn cX3_isIn 3 (some .boolean), Cond.methodLink RX3 28 yX3_put, Cond.instanceMethod yX3_put, Cond.selects RX3 yX3_put yX3_put, Cond.code yX3_put cX3_put 4 none]
def wsX3_hourOn_ : List Cond := .code yX3_hourOn_ cX3_hourOn_ 1 (some .int) :: ((wsX3_hourOn__r1 ++ wsX3_hourOn__r2) ++ wsX30)
def wsJ6_bitCount_0f7a4 : List Cond := .code yJ6_bitCount_0f7a4 cJ6_bitCount_0f7a4 1 (some .int) :: ([.constant RJ6 265 (1431655765), .constant RJ6 266 (858993459), .constant RJ6 267 (252645135)])
def wsX3_pass_r1 : List Cond := [Cond.fieldLink RX3 32 "WedgeHarpsModel" "thrown" "I", Cond.methodLink RX3 36 yX3_isIn, Cond.static yX3_isIn, Cond.initialized RX3, Cond.code yX3_isIn cX3_isIn 3 (some .boolean), Cond.methodLink RX3 52 yX3_fail, Cond.instanceMethod yX3_fail, Cond.selects RX3 yX3_fail yX3_fail, Cond.code yX3_fail cX3_fail 2 (some .int), Cond.methodLink RX3 99 yX3_hourOn_, Cond.instanceMethod yX3_hourOn_, Cond.selects RX3 yX3_hourOn_ yX3_hourOn_, Cond.code yX3_hourOn_ cX3_hourOn_ 1 (some .int), Cond.fieldLink RX3 16 "WedgeHarpsModel" "winds" "[I", Cond.fieldLink RX3 22 "WedgeHarpsModel" "numbers" "[I", Cond.methodLink RX3 96 yX3_hourOn, Cond.instanceMethod yX3_hourOn, Cond.selects RX3 yX3_hourOn yX3_hourOn, Cond.code yX3_hourOn cX3_hourOn 6 (some .int), Cond.fieldLink RX3 19 "WedgeHarpsModel" "damps" "[I", Cond.methodLink RX3 90 Lib.Math.max.name, Cond.static Lib.Math.max.name, Cond.initialized "java/lang/Math", Cond.code Lib.Math.max.name Lib.Math.max.code 2 (some .int)]
def wsX3_pass_r2 : List Cond := [Cond.methodLink RX3 93 Lib.Math.min.name, Cond.static Lib.Math.min.name, Cond.code Lib.Math.min.name Lib.Math.min.code 2 (some .int), Cond.methodLink RX3 44 yX3_ha, Cond.instanceMethod yX3_ha, Cond.selects RX3 yX3_ha yX3_ha, Cond.code yX3_ha cX3_ha 3 (some .int), Cond.fieldLink RX3 9 "WedgeHarpsModel" "harp" "[I", Cond.methodLink RX3 55 yX3_tone, Cond.instanceMethod yX3_tone, Cond.selects RX3 yX3_tone yX3_tone, Cond.code yX3_tone cX3_tone 2 (some .int), Cond.methodLink RX3 48 yX3_wedge, Cond.instanceMethod yX3_wedge, Cond.selects RX3 yX3_wedge yX3_wedge, Cond.code yX3_wedge cX3_wedge 2 (some .int), Cond.fieldLink RX3 25 "WedgeHarpsModel" "pushed" "[I", Cond.methodLink RX3 40 yX3_isString, Cond.static yX3_isString, Cond.code yX3_isString cX3_isString 1 (some .boolean), Cond.methodLink RX3 28 yX3_put, Cond.instanceMethod yX3_put, Cond.selects RX3 yX3_put yX3_put, Cond.code yX3_put cX3_put 4 none]
def wsX3_pass_r3 : List Cond := [Cond.methodLink RX3 102 yJ6_bitCount_0f7a4, Cond.static yJ6_bitCount_0f7a4, Cond.initialized RJ6, Cond.code yJ6_bitCount_0f7a4 cJ6_bitCount_0f7a4 1 (some .int), Cond.constant RJ6 265 (1431655765), Cond.constant RJ6 266 (858993459), Cond.constant RJ6 267 (252645135)]
def wsX3_pass : List Cond := .code yX3_pass cX3_pass 4 (some .int) :: ((wsX3_pass_r1 ++ (wsX3_pass_r2 ++ wsX3_pass_r3)) ++ wsX30)
def wsX3_counted_r1 : List Cond := [Cond.fieldLink RX3 22 "WedgeHarpsModel" "numbers" "[I", Cond.fieldLink RX3 61 "WedgeHarpsModel" "chords" "I", Cond.methodLink RX3 87 yX3_isSounding, Cond.instanceMethod yX3_isSounding, Cond.selects RX3 yX3_isSounding yX3_isSounding, Cond.initialized RX3, Cond.code yX3_isSounding cX3_isSounding 3 (some .boolean), Cond.methodLink RX3 70 yX3_to, Cond.instanceMethod yX3_to, Cond.selects RX3 yX3_to yX3_to, Cond.code yX3_to cX3_to 3 (some .int), Cond.fieldLink RX3 13 "WedgeHarpsModel" "told" "[I", Cond.methodLink RX3 44 yX3_ha, Cond.instanceMethod yX3_ha, Cond.selects RX3 yX3_ha yX3_ha, Cond.code yX3_ha cX3_ha 3 (some .int), Cond.fieldLink RX3 9 "WedgeHarpsModel" "harp" "[I", Cond.methodLink RX3 78 yX3_differs, Cond.instanceMethod yX3_differs, Cond.selects RX3 yX3_differs yX3_differs, Cond.code yX3_differs cX3_differs 3 (some .int), Cond.methodLink RX3 73 Lib.Math.abs.name, Cond.static Lib.Math.abs.name, Cond.initialized "java/lang/Math"]
def wsX3_counted_r2 : List Cond := [Cond.code Lib.Math.abs.name Lib.Math.abs.code 1 (some .int), Cond.methodLink RX3 55 yX3_tone, Cond.instanceMethod yX3_tone, Cond.selects RX3 yX3_tone yX3_tone, Cond.code yX3_tone cX3_tone 2 (some .int), Cond.methodLink RX3 48 yX3_wedge, Cond.instanceMethod yX3_wedge, Cond.selects RX3 yX3_wedge yX3_wedge, Cond.code yX3_wedge cX3_wedge 2 (some .int), Cond.fieldLink RX3 25 "WedgeHarpsModel" "pushed" "[I", Cond.methodLink RX3 40 yX3_isString, Cond.static yX3_isString, Cond.code yX3_isString cX3_isString 1 (some .boolean), Cond.methodLink RX3 36 yX3_isIn, Cond.static yX3_isIn, Cond.code yX3_isIn cX3_isIn 3 (some .boolean)]
def wsX3_counted : List Cond := .code yX3_counted cX3_counted 5 (some .int) :: ((wsX3_counted_r1 ++ wsX3_counted_r2) ++ wsX30)
def wsX3_count_r1 : List Cond := [Cond.fieldLink RX3 32 "WedgeHarpsModel" "thrown" "I", Cond.methodLink RX3 36 yX3_isIn, Cond.static yX3_isIn, Cond.initialized RX3, Cond.code yX3_isIn cX3_isIn 3 (some .boolean), Cond.methodLink RX3 107 yX3_counted, Cond.instanceMethod yX3_counted, Cond.selects RX3 yX3_counted yX3_counted, Cond.code yX3_counted cX3_counted 5 (some .int), Cond.fieldLink RX3 22 "WedgeHarpsModel" "numbers" "[I", Cond.fieldLink RX3 61 "WedgeHarpsModel" "chords" "I", Cond.methodLink RX3 87 yX3_isSounding, Cond.instanceMethod yX3_isSounding, Cond.selects RX3 yX3_isSounding yX3_isSounding, Cond.code yX3_isSounding cX3_isSounding 3 (some .boolean), Cond.methodLink RX3 70 yX3_to, Cond.instanceMethod yX3_to, Cond.selects RX3 yX3_to yX3_to, Cond.code yX3_to cX3_to 3 (some .int), Cond.fieldLink RX3 13 "WedgeHarpsModel" "told" "[I", Cond.methodLink RX3 44 yX3_ha, Cond.instanceMethod yX3_ha, Cond.selects RX3 yX3_ha yX3_ha, Cond.code yX3_ha cX3_ha 3 (some .int)]
def wsX3_count_r2 : List Cond := [Cond.fieldLink RX3 9 "WedgeHarpsModel" "harp" "[I", Cond.methodLink RX3 78 yX3_differs, Cond.instanceMethod yX3_differs, Cond.selects RX3 yX3_differs yX3_differs, Cond.code yX3_differs cX3_differs 3 (some .int), Cond.methodLink RX3 73 Lib.Math.abs.name, Cond.static Lib.Math.abs.name, Cond.initialized "java/lang/Math", Cond.code Lib.Math.abs.name Lib.Math.abs.code 1 (some .int), Cond.methodLink RX3 55 yX3_tone, Cond.instanceMethod yX3_tone, Cond.selects RX3 yX3_tone yX3_tone, Cond.code yX3_tone cX3_tone 2 (some .int), Cond.methodLink RX3 48 yX3_wedge, Cond.instanceMethod yX3_wedge, Cond.selects RX3 yX3_wedge yX3_wedge, Cond.code yX3_wedge cX3_wedge 2 (some .int), Cond.fieldLink RX3 25 "WedgeHarpsModel" "pushed" "[I", Cond.methodLink RX3 40 yX3_isString, Cond.static yX3_isString, Cond.code yX3_isString cX3_isString 1 (some .boolean), Cond.methodLink RX3 52 yX3_fail, Cond.instanceMethod yX3_fail, Cond.selects RX3 yX3_fail yX3_fail]
def wsX3_count_r3 : List Cond := [Cond.code yX3_fail cX3_fail 2 (some .int)]
def wsX3_count : List Cond := .code yX3_count cX3_count 2 (some .int) :: ((wsX3_count_r1 ++ (wsX3_count_r2 ++ wsX3_count_r3)) ++ wsX30)
def wsX3_kept : List Cond := .code yX3_kept cX3_kept 1 (some (.array (.array .int))) :: ([.classLink RX3 110 "[I", .fieldLink RX3 9 "WedgeHarpsModel" "harp" "[I", .methodLink RX3 111 ⟨"[I", "clone", "()Ljava/lang/Object;"⟩, .sameMethod "[I" "java/lang/Object" "clone" "()Ljava/lang/Object;", .native ⟨"java/lang/Object", "clone", "()Ljava/lang/Object;"⟩, .instanceMethod ⟨"java/lang/Object", "clone", "()Ljava/lang/Object;"⟩, .selects "[I" ⟨"[I", "clone", "()Ljava/lang/Object;"⟩ ⟨"java/lang/Object", "clone", "()Ljava/lang/Object;"⟩, .fieldLink RX3 22 "WedgeHarpsModel" "numbers" "[I"] ++ wsX30)
def wsX3_bringBack : List Cond := .code yX3_bringBack cX3_bringBack 2 none :: ([.fieldLink RX3 9 "WedgeHarpsModel" "harp" "[I", .methodLink RX3 64 arraycopyName, .native arraycopyName, .static arraycopyName, .initialized "java/lang/System", .fieldLink RX3 22 "WedgeHarpsModel" "numbers" "[I"] ++ wsX30)
def wsX3_bears_r1 : List Cond := [Cond.fieldLink RX3 32 "WedgeHarpsModel" "thrown" "I", Cond.methodLink RX3 40 yX3_isString, Cond.static yX3_isString, Cond.initialized RX3, Cond.code yX3_isString cX3_isString 1 (some .boolean), Cond.methodLink RX3 36 yX3_isIn, Cond.static yX3_isIn, Cond.code yX3_isIn cX3_isIn 3 (some .boolean), Cond.methodLink RX3 52 yX3_fail, Cond.instanceMethod yX3_fail, Cond.selects RX3 yX3_fail yX3_fail, Cond.code yX3_fail cX3_fail 2 (some .int), Cond.methodLink RX3 44 yX3_ha, Cond.instanceMethod yX3_ha, Cond.selects RX3 yX3_ha yX3_ha, Cond.code yX3_ha cX3_ha 3 (some .int), Cond.fieldLink RX3 9 "WedgeHarpsModel" "harp" "[I", Cond.methodLink RX3 115 yX3_kept, Cond.instanceMethod yX3_kept, Cond.selects RX3 yX3_kept yX3_kept, Cond.code yX3_kept cX3_kept 1 (some (.array (.array .int))), Cond.classLink RX3 110 "[I", Cond.methodLink RX3 111 ⟨"[I", "clone", "()Ljava/lang/Object;"⟩, Cond.sameMethod "[I" "java/lang/Object" "clone" "()Ljava/lang/Object;"]
def wsX3_bears_r2 : List Cond := [Cond.native ⟨"java/lang/Object", "clone", "()Ljava/lang/Object;"⟩, Cond.instanceMethod ⟨"java/lang/Object", "clone", "()Ljava/lang/Object;"⟩, Cond.selects "[I" ⟨"[I", "clone", "()Ljava/lang/Object;"⟩ ⟨"java/lang/Object", "clone", "()Ljava/lang/Object;"⟩, Cond.fieldLink RX3 22 "WedgeHarpsModel" "numbers" "[I", Cond.methodLink RX3 96 yX3_hourOn, Cond.instanceMethod yX3_hourOn, Cond.selects RX3 yX3_hourOn yX3_hourOn, Cond.code yX3_hourOn cX3_hourOn 6 (some .int), Cond.fieldLink RX3 19 "WedgeHarpsModel" "damps" "[I", Cond.methodLink RX3 90 Lib.Math.max.name, Cond.static Lib.Math.max.name, Cond.initialized "java/lang/Math", Cond.code Lib.Math.max.name Lib.Math.max.code 2 (some .int), Cond.methodLink RX3 93 Lib.Math.min.name, Cond.static Lib.Math.min.name, Cond.code Lib.Math.min.name Lib.Math.min.code 2 (some .int), Cond.methodLink RX3 55 yX3_tone, Cond.instanceMethod yX3_tone, Cond.selects RX3 yX3_tone yX3_tone, Cond.code yX3_tone cX3_tone 2 (some .int), Cond.methodLink RX3 48 yX3_wedge, Cond.instanceMethod yX3_wedge, Cond.selects RX3 yX3_wedge yX3_wedge, Cond.code yX3_wedge cX3_wedge 2 (some .int)]
def wsX3_bears_r3 : List Cond := [Cond.fieldLink RX3 25 "WedgeHarpsModel" "pushed" "[I", Cond.methodLink RX3 28 yX3_put, Cond.instanceMethod yX3_put, Cond.selects RX3 yX3_put yX3_put, Cond.code yX3_put cX3_put 4 none, Cond.methodLink RX3 119 yX3_bringBack, Cond.instanceMethod yX3_bringBack, Cond.selects RX3 yX3_bringBack yX3_bringBack, Cond.code yX3_bringBack cX3_bringBack 2 none, Cond.methodLink RX3 64 arraycopyName, Cond.native arraycopyName, Cond.static arraycopyName, Cond.initialized "java/lang/System"]
def wsX3_bears : List Cond := .code yX3_bears cX3_bears 6 (some .int) :: ((wsX3_bears_r1 ++ (wsX3_bears_r2 ++ wsX3_bears_r3)) ++ wsX30)
def wsJ6_numberOfTrailingZeros_0f7a4 : List Cond := .code yJ6_numberOfTrailingZeros_0f7a4 cJ6_numberOfTrailingZeros_0f7a4 2 (some .int) :: ([.constant RJ6 264 (65536)])
def wsX3_first_r1 : List Cond := [Cond.fieldLink RX3 32 "WedgeHarpsModel" "thrown" "I", Cond.methodLink RX3 115 yX3_kept, Cond.instanceMethod yX3_kept, Cond.selects RX3 yX3_kept yX3_kept, Cond.initialized RX3, Cond.code yX3_kept cX3_kept 1 (some (.array (.array .int))), Cond.classLink RX3 110 "[I", Cond.fieldLink RX3 9 "WedgeHarpsModel" "harp" "[I", Cond.methodLink RX3 111 ⟨"[I", "clone", "()Ljava/lang/Object;"⟩, Cond.sameMethod "[I" "java/lang/Object" "clone" "()Ljava/lang/Object;", Cond.native ⟨"java/lang/Object", "clone", "()Ljava/lang/Object;"⟩, Cond.instanceMethod ⟨"java/lang/Object", "clone", "()Ljava/lang/Object;"⟩, Cond.selects "[I" ⟨"[I", "clone", "()Ljava/lang/Object;"⟩ ⟨"java/lang/Object", "clone", "()Ljava/lang/Object;"⟩, Cond.fieldLink RX3 22 "WedgeHarpsModel" "numbers" "[I", Cond.methodLink RX3 99 yX3_hourOn_, Cond.instanceMethod yX3_hourOn_, Cond.selects RX3 yX3_hourOn_ yX3_hourOn_, Cond.code yX3_hourOn_ cX3_hourOn_ 1 (some .int), Cond.fieldLink RX3 16 "WedgeHarpsModel" "winds" "[I", Cond.methodLink RX3 96 yX3_hourOn, Cond.instanceMethod yX3_hourOn, Cond.selects RX3 yX3_hourOn yX3_hourOn, Cond.code yX3_hourOn cX3_hourOn 6 (some .int), Cond.fieldLink RX3 19 "WedgeHarpsModel" "damps" "[I"]
def wsX3_first_r2 : List Cond := [Cond.methodLink RX3 90 Lib.Math.max.name, Cond.static Lib.Math.max.name, Cond.initialized "java/lang/Math", Cond.code Lib.Math.max.name Lib.Math.max.code 2 (some .int), Cond.methodLink RX3 93 Lib.Math.min.name, Cond.static Lib.Math.min.name, Cond.code Lib.Math.min.name Lib.Math.min.code 2 (some .int), Cond.methodLink RX3 44 yX3_ha, Cond.instanceMethod yX3_ha, Cond.selects RX3 yX3_ha yX3_ha, Cond.code yX3_ha cX3_ha 3 (some .int), Cond.methodLink RX3 55 yX3_tone, Cond.instanceMethod yX3_tone, Cond.selects RX3 yX3_tone yX3_tone, Cond.code yX3_tone cX3_tone 2 (some .int), Cond.methodLink RX3 48 yX3_wedge, Cond.instanceMethod yX3_wedge, Cond.selects RX3 yX3_wedge yX3_wedge, Cond.code yX3_wedge cX3_wedge 2 (some .int), Cond.fieldLink RX3 25 "WedgeHarpsModel" "pushed" "[I", Cond.methodLink RX3 40 yX3_isString, Cond.static yX3_isString, Cond.code yX3_isString cX3_isString 1 (some .boolean), Cond.methodLink RX3 36 yX3_isIn]
def wsX3_first_r3 : List Cond := [Cond.static yX3_isIn, Cond.code yX3_isIn cX3_isIn 3 (some .boolean), Cond.methodLink RX3 28 yX3_put, Cond.instanceMethod yX3_put, Cond.selects RX3 yX3_put yX3_put, Cond.code yX3_put cX3_put 4 none, Cond.methodLink RX3 119 yX3_bringBack, Cond.instanceMethod yX3_bringBack, Cond.selects RX3 yX3_bringBack yX3_bringBack, Cond.code yX3_bringBack cX3_bringBack 2 none, Cond.methodLink RX3 64 arraycopyName, Cond.native arraycopyName, Cond.static arraycopyName, Cond.initialized "java/lang/System", Cond.methodLink RX3 123 yJ6_numberOfTrailingZeros_0f7a4, Cond.static yJ6_numberOfTrailingZeros_0f7a4, Cond.initialized RJ6, Cond.code yJ6_numberOfTrailingZeros_0f7a4 cJ6_numberOfTrailingZeros_0f7a4 2 (some .int), Cond.constant RJ6 264 (65536)]
def wsX3_first : List Cond := .code yX3_first cX3_first 4 (some .int) :: ((wsX3_first_r1 ++ (wsX3_first_r2 ++ wsX3_first_r3)) ++ wsX30)
def wsX3_holds_r1 : List Cond := [Cond.fieldLink RX3 32 "WedgeHarpsModel" "thrown" "I", Cond.methodLink RX3 81 yX3_isChord, Cond.instanceMethod yX3_isChord, Cond.selects RX3 yX3_isChord yX3_isChord, Cond.initialized RX3, Cond.code yX3_isChord cX3_isChord 2 (some .boolean), Cond.fieldLink RX3 61 "WedgeHarpsModel" "chords" "I", Cond.methodLink RX3 36 yX3_isIn, Cond.static yX3_isIn, Cond.code yX3_isIn cX3_isIn 3 (some .boolean), Cond.methodLink RX3 52 yX3_fail, Cond.instanceMethod yX3_fail, Cond.selects RX3 yX3_fail yX3_fail, Cond.code yX3_fail cX3_fail 2 (some .int), Cond.methodLink RX3 115 yX3_kept, Cond.instanceMethod yX3_kept, Cond.selects RX3 yX3_kept yX3_kept, Cond.code yX3_kept cX3_kept 1 (some (.array (.array .int))), Cond.classLink RX3 110 "[I", Cond.fieldLink RX3 9 "WedgeHarpsModel" "harp" "[I", Cond.methodLink RX3 111 ⟨"[I", "clone", "()Ljava/lang/Object;"⟩, Cond.sameMethod "[I" "java/lang/Object" "clone" "()Ljava/lang/Object;", Cond.native ⟨"java/lang/Object", "clone", "()Ljava/lang/Object;"⟩, Cond.instanceMethod ⟨"java/lang/Object", "clone", "()Ljava/lang/Object;"⟩]
def wsX3_holds_r2 : List Cond := [Cond.selects "[I" ⟨"[I", "clone", "()Ljava/lang/Object;"⟩ ⟨"java/lang/Object", "clone", "()Ljava/lang/Object;"⟩, Cond.fieldLink RX3 22 "WedgeHarpsModel" "numbers" "[I", Cond.methodLink RX3 87 yX3_isSounding, Cond.instanceMethod yX3_isSounding, Cond.selects RX3 yX3_isSounding yX3_isSounding, Cond.code yX3_isSounding cX3_isSounding 3 (some .boolean), Cond.methodLink RX3 70 yX3_to, Cond.instanceMethod yX3_to, Cond.selects RX3 yX3_to yX3_to, Cond.code yX3_to cX3_to 3 (some .int), Cond.fieldLink RX3 13 "WedgeHarpsModel" "told" "[I", Cond.methodLink RX3 44 yX3_ha, Cond.instanceMethod yX3_ha, Cond.selects RX3 yX3_ha yX3_ha, Cond.code yX3_ha cX3_ha 3 (some .int), Cond.methodLink RX3 78 yX3_differs, Cond.instanceMethod yX3_differs, Cond.selects RX3 yX3_differs yX3_differs, Cond.code yX3_differs cX3_differs 3 (some .int), Cond.methodLink RX3 73 Lib.Math.abs.name, Cond.static Lib.Math.abs.name, Cond.initialized "java/lang/Math", Cond.code Lib.Math.abs.name Lib.Math.abs.code 1 (some .int), Cond.methodLink RX3 55 yX3_tone]
def wsX3_holds_r3 : List Cond := [Cond.instanceMethod yX3_tone, Cond.selects RX3 yX3_tone yX3_tone, Cond.code yX3_tone cX3_tone 2 (some .int), Cond.methodLink RX3 48 yX3_wedge, Cond.instanceMethod yX3_wedge, Cond.selects RX3 yX3_wedge yX3_wedge, Cond.code yX3_wedge cX3_wedge 2 (some .int), Cond.fieldLink RX3 25 "WedgeHarpsModel" "pushed" "[I", Cond.methodLink RX3 40 yX3_isString, Cond.static yX3_isString, Cond.code yX3_isString cX3_isString 1 (some .boolean), Cond.methodLink RX3 99 yX3_hourOn_, Cond.instanceMethod yX3_hourOn_, Cond.selects RX3 yX3_hourOn_ yX3_hourOn_, Cond.code yX3_hourOn_ cX3_hourOn_ 1 (some .int), Cond.fieldLink RX3 16 "WedgeHarpsModel" "winds" "[I", Cond.methodLink RX3 96 yX3_hourOn, Cond.instanceMethod yX3_hourOn, Cond.selects RX3 yX3_hourOn yX3_hourOn, Cond.code yX3_hourOn cX3_hourOn 6 (some .int), Cond.fieldLink RX3 19 "WedgeHarpsModel" "damps" "[I", Cond.methodLink RX3 90 Lib.Math.max.name, Cond.static Lib.Math.max.name, Cond.code Lib.Math.max.name Lib.Math.max.code 2 (some .int)]
def wsX3_holds_r4 : List Cond := [Cond.methodLink RX3 93 Lib.Math.min.name, Cond.static Lib.Math.min.name, Cond.code Lib.Math.min.name Lib.Math.min.code 2 (some .int), Cond.methodLink RX3 28 yX3_put, Cond.instanceMethod yX3_put, Cond.selects RX3 yX3_put yX3_put, Cond.code yX3_put cX3_put 4 none, Cond.methodLink RX3 119 yX3_bringBack, Cond.instanceMethod yX3_bringBack, Cond.selects RX3 yX3_bringBack yX3_bringBack, Cond.code yX3_bringBack cX3_bringBack 2 none, Cond.methodLink RX3 64 arraycopyName, Cond.native arraycopyName, Cond.static arraycopyName, Cond.initialized "java/lang/System"]
def wsX3_holds : List Cond := .code yX3_holds cX3_holds 4 (some .int) :: ((wsX3_holds_r1 ++ (wsX3_holds_r2 ++ (wsX3_holds_r3 ++ wsX3_holds_r4))) ++ wsX30)
def wsX3_foresee_r1 : List Cond := [Cond.fieldLink RX3 32 "WedgeHarpsModel" "thrown" "I", Cond.methodLink RX3 36 yX3_isIn, Cond.static yX3_isIn, Cond.initialized RX3, Cond.code yX3_isIn cX3_isIn 3 (some .boolean), Cond.methodLink RX3 52 yX3_fail, Cond.instanceMethod yX3_fail, Cond.selects RX3 yX3_fail yX3_fail, Cond.code yX3_fail cX3_fail 2 (some .int), Cond.methodLink RX3 40 yX3_isString, Cond.static yX3_isString, Cond.code yX3_isString cX3_isString 1 (some .boolean), Cond.methodLink RX3 115 yX3_kept, Cond.instanceMethod yX3_kept, Cond.selects RX3 yX3_kept yX3_kept, Cond.code yX3_kept cX3_kept 1 (some (.array (.array .int))), Cond.classLink RX3 110 "[I", Cond.fieldLink RX3 9 "WedgeHarpsModel" "harp" "[I", Cond.methodLink RX3 111 ⟨"[I", "clone", "()Ljava/lang/Object;"⟩, Cond.sameMethod "[I" "java/lang/Object" "clone" "()Ljava/lang/Object;", Cond.native ⟨"java/lang/Object", "clone", "()Ljava/lang/Object;"⟩, Cond.instanceMethod ⟨"java/lang/Object", "clone", "()Ljava/lang/Object;"⟩, Cond.selects "[I" ⟨"[I", "clone", "()Ljava/lang/Object;"⟩ ⟨"java/lang/Object", "clone", "()Ljava/lang/Object;"⟩, Cond.fieldLink RX3 22 "WedgeHarpsModel" "numbers" "[I"]
def wsX3_foresee_r2 : List Cond := [Cond.methodLink RX3 99 yX3_hourOn_, Cond.instanceMethod yX3_hourOn_, Cond.selects RX3 yX3_hourOn_ yX3_hourOn_, Cond.code yX3_hourOn_ cX3_hourOn_ 1 (some .int), Cond.fieldLink RX3 16 "WedgeHarpsModel" "winds" "[I", Cond.methodLink RX3 96 yX3_hourOn, Cond.instanceMethod yX3_hourOn, Cond.selects RX3 yX3_hourOn yX3_hourOn, Cond.code yX3_hourOn cX3_hourOn 6 (some .int), Cond.fieldLink RX3 19 "WedgeHarpsModel" "damps" "[I", Cond.methodLink RX3 90 Lib.Math.max.name, Cond.static Lib.Math.max.name, Cond.initialized "java/lang/Math", Cond.code Lib.Math.max.name Lib.Math.max.code 2 (some .int), Cond.methodLink RX3 93 Lib.Math.min.name, Cond.static Lib.Math.min.name, Cond.code Lib.Math.min.name Lib.Math.min.code 2 (some .int), Cond.methodLink RX3 44 yX3_ha, Cond.instanceMethod yX3_ha, Cond.selects RX3 yX3_ha yX3_ha, Cond.code yX3_ha cX3_ha 3 (some .int), Cond.methodLink RX3 55 yX3_tone, Cond.instanceMethod yX3_tone, Cond.selects RX3 yX3_tone yX3_tone]
def wsX3_foresee_r3 : List Cond := [Cond.code yX3_tone cX3_tone 2 (some .int), Cond.methodLink RX3 48 yX3_wedge, Cond.instanceMethod yX3_wedge, Cond.selects RX3 yX3_wedge yX3_wedge, Cond.code yX3_wedge cX3_wedge 2 (some .int), Cond.fieldLink RX3 25 "WedgeHarpsModel" "pushed" "[I", Cond.methodLink RX3 28 yX3_put, Cond.instanceMethod yX3_put, Cond.selects RX3 yX3_put yX3_put, Cond.code yX3_put cX3_put 4 none, Cond.methodLink RX3 119 yX3_bringBack, Cond.instanceMethod yX3_bringBack, Cond.selects RX3 yX3_bringBack yX3_bringBack, Cond.code yX3_bringBack cX3_bringBack 2 none, Cond.methodLink RX3 64 arraycopyName, Cond.native arraycopyName, Cond.static arraycopyName, Cond.initialized "java/lang/System"]
def wsX3_foresee : List Cond := .code yX3_foresee cX3_foresee 5 (some .int) :: ((wsX3_foresee_r1 ++ (wsX3_foresee_r2 ++ wsX3_foresee_r3)) ++ wsX30)
def wsX3_mean_r1 : List Cond := [Cond.fieldLink RX3 32 "WedgeHarpsModel" "thrown" "I", Cond.methodLink RX3 55 yX3_tone, Cond.instanceMethod yX3_tone, Cond.selects RX3 yX3_tone yX3_tone, Cond.initialized RX3, Cond.code yX3_tone cX3_tone 2 (some .int), Cond.fieldLink RX3 22 "WedgeHarpsModel" "numbers" "[I", Cond.methodLink RX3 44 yX3_ha, Cond.instanceMethod yX3_ha, Cond.selects RX3 yX3_ha yX3_ha, Cond.code yX3_ha cX3_ha 3 (some .int), Cond.fieldLink RX3 9 "WedgeHarpsModel" "harp" "[I", Cond.methodLink RX3 48 yX3_wedge, Cond.instanceMethod yX3_wedge, Cond.selects RX3 yX3_wedge yX3_wedge, Cond.code yX3_wedge cX3_wedge 2 (some .int), Cond.fieldLink RX3 25 "WedgeHarpsModel" "pushed" "[I", Cond.methodLink RX3 40 yX3_isString, Cond.static yX3_isString, Cond.code yX3_isString cX3_isString 1 (some .boolean), Cond.methodLink RX3 36 yX3_isIn, Cond.static yX3_isIn, Cond.code yX3_isIn cX3_isIn 3 (some .boolean), Cond.methodLink RX3 107 yX3_counted]
def wsX3_mean_r2 : List Cond := [Cond.instanceMethod yX3_counted, Cond.selects RX3 yX3_counted yX3_counted, Cond.code yX3_counted cX3_counted 5 (some .int), Cond.fieldLink RX3 61 "WedgeHarpsModel" "chords" "I", Cond.methodLink RX3 87 yX3_isSounding, Cond.instanceMethod yX3_isSounding, Cond.selects RX3 yX3_isSounding yX3_isSounding, Cond.code yX3_isSounding cX3_isSounding 3 (some .boolean), Cond.methodLink RX3 70 yX3_to, Cond.instanceMethod yX3_to, Cond.selects RX3 yX3_to yX3_to, Cond.code yX3_to cX3_to 3 (some .int), Cond.fieldLink RX3 13 "WedgeHarpsModel" "told" "[I", Cond.methodLink RX3 78 yX3_differs, Cond.instanceMethod yX3_differs, Cond.selects RX3 yX3_differs yX3_differs, Cond.code yX3_differs cX3_differs 3 (some .int), Cond.methodLink RX3 73 Lib.Math.abs.name, Cond.static Lib.Math.abs.name, Cond.initialized "java/lang/Math", Cond.code Lib.Math.abs.name Lib.Math.abs.code 1 (some .int)]
def wsX3_mean : List Cond := .code yX3_mean cX3_mean 3 (some .double) :: ((wsX3_mean_r1 ++ wsX3_mean_r2) ++ wsX30)
def wsX3_digest_r1 : List Cond := [Cond.fieldLink RX3 32 "WedgeHarpsModel" "thrown" "I", Cond.constantLong RX3 126 (947), Cond.constantLong RX3 128 (31), Cond.fieldLink RX3 16 "WedgeHarpsModel" "winds" "[I", Cond.fieldLink RX3 19 "WedgeHarpsModel" "damps" "[I", Cond.fieldLink RX3 61 "WedgeHarpsModel" "chords" "I", Cond.methodLink RX3 107 yX3_counted, Cond.instanceMethod yX3_counted, Cond.selects RX3 yX3_counted yX3_counted, Cond.initialized RX3, Cond.code yX3_counted cX3_counted 5 (some .int), Cond.fieldLink RX3 22 "WedgeHarpsModel" "numbers" "[I", Cond.methodLink RX3 87 yX3_isSounding, Cond.instanceMethod yX3_isSounding, Cond.selects RX3 yX3_isSounding yX3_isSounding, Cond.code yX3_isSounding cX3_isSounding 3 (some .boolean), Cond.methodLink RX3 70 yX3_to, Cond.instanceMethod yX3_to, Cond.selects RX3 yX3_to yX3_to, Cond.code yX3_to cX3_to 3 (some .int), Cond.fieldLink RX3 13 "WedgeHarpsModel" "told" "[I", Cond.methodLink RX3 44 yX3_ha, Cond.instanceMethod yX3_ha, Cond.selects RX3 yX3_ha yX3_ha]
def wsX3_digest_r2 : List Cond := [Cond.code yX3_ha cX3_ha 3 (some .int), Cond.fieldLink RX3 9 "WedgeHarpsModel" "harp" "[I", Cond.methodLink RX3 78 yX3_differs, Cond.instanceMethod yX3_differs, Cond.selects RX3 yX3_differs yX3_differs, Cond.code yX3_differs cX3_differs 3 (some .int), Cond.methodLink RX3 73 Lib.Math.abs.name, Cond.static Lib.Math.abs.name, Cond.initialized "java/lang/Math", Cond.code Lib.Math.abs.name Lib.Math.abs.code 1 (some .int), Cond.methodLink RX3 55 yX3_tone, Cond.instanceMethod yX3_tone, Cond.selects RX3 yX3_tone yX3_tone, Cond.code yX3_tone cX3_tone 2 (some .int), Cond.methodLink RX3 48 yX3_wedge, Cond.instanceMethod yX3_wedge, Cond.selects RX3 yX3_wedge yX3_wedge, Cond.code yX3_wedge cX3_wedge 2 (some .int), Cond.fieldLink RX3 25 "WedgeHarpsModel" "pushed" "[I", Cond.methodLink RX3 40 yX3_isString, Cond.static yX3_isString, Cond.code yX3_isString cX3_isString 1 (some .boolean), Cond.methodLink RX3 36 yX3_isIn, Cond.static yX3_isIn]
def wsX3_digest_r3 : List Cond := [Cond.code yX3_isIn cX3_isIn 3 (some .boolean), Cond.methodLink RX3 58 yX3_stringTold, Cond.instanceMethod yX3_stringTold, Cond.selects RX3 yX3_stringTold yX3_stringTold, Cond.code yX3_stringTold cX3_stringTold 3 (some .int), Cond.methodLink RX3 84 yX3_offBy, Cond.instanceMethod yX3_offBy, Cond.selects RX3 yX3_offBy yX3_offBy, Cond.code yX3_offBy cX3_offBy 4 (some .int)]
def wsX3_digest : List Cond := .code yX3_digest cX3_digest 5 (some .long) :: ((wsX3_digest_r1 ++ (wsX3_digest_r2 ++ wsX3_digest_r3)) ++ wsX30)
def wsJ9_abs_0f7a4 : List Cond := .code yJ9_abs_0f7a4 cJ9_abs_0f7a4 1 (some .int) :: ([])
def wsJ9_max_7cf53 : List Cond := .code yJ9_max_7cf53 cJ9_max_7cf53 2 (some .int) :: ([])
def wsJ9_min_7cf53 : List Cond := .code yJ9_min_7cf53 cJ9_min_7cf53 2 (some .int) :: ([])
def wsL_push_r1 : List Cond := [Cond.classLink RL 13 "java/lang/IndexOutOfBoundsException", Cond.classLink RL 15 "java/lang/IllegalArgumentException", Cond.classLink RL 17 "java/lang/IllegalStateException", Cond.methodLink RL 7 yX2_push, Cond.instanceMethod yX2_push, Cond.selects RX2 yX2_push yX2_push, Cond.initialized RX2, Cond.code yX2_push cX2_push 3 (some .int), Cond.classLink RX2 44 "java/lang/IllegalArgumentException", Cond.initialized "java/lang/IllegalArgumentException", Cond.classLink RX2 55 "java/lang/IllegalStateException", Cond.initialized "java/lang/IllegalStateException", Cond.fieldLink RX2 10 "WedgeHarps" "now" "LWedgeHarps$Harp;", Cond.fieldLink RX2 60 "WedgeHarps$Harp" "wedge" "[I", Cond.methodLink RX2 37 yX2_checkString, Cond.static yX2_checkString, Cond.code yX2_checkString cX2_checkString 1 none, Cond.classLink RX2 73 "java/lang/IndexOutOfBoundsException", Cond.initialized "java/lang/IndexOutOfBoundsException", Cond.methodLink RX2 41 yX2_checkWedgeSteps, Cond.static yX2_checkWedgeSteps, Cond.code yX2_checkWedgeSteps cX2_checkWedgeSteps 1 none, Cond.methodLink RX2 51 yX1_takesPush, Cond.instanceMethod yX1_takesPush]
def wsL_push_r2 : List Cond := [Cond.selects RX1 yX1_takesPush yX1_takesPush, Cond.initialized RX1, Cond.code yX1_takesPush cX1_takesPush 4 (some .boolean), Cond.fieldLink RX1 15 "WedgeHarps$Harp" "wedge" "[I", Cond.methodLink RX2 63 yX1_toneOf, Cond.instanceMethod yX1_toneOf, Cond.selects RX1 yX1_toneOf yX1_toneOf, Cond.code yX1_toneOf cX1_toneOf 3 (some .int), Cond.fieldLink RX1 27 "WedgeHarps$Harp" "whole" "[Z", Cond.fieldLink RX1 9 "WedgeHarps$Harp" "base" "[I", Cond.fieldLink RX1 18 "WedgeHarps$Harp" "drift" "[I", Cond.fieldLink RX1 31 "WedgeHarps$Harp" "swelling" "I"]
def wsL_push : List Cond := .codeWith yL_push cL_push 5 (some .int) [(0, 10, 13, 13), (0, 10, 17, 15), (0, 10, 21, 17)] :: ((wsL_push_r1 ++ wsL_push_r2) ++ wsX20 ++ wsX10 ++ (vx_atS RX2 48 "java/lang/IllegalArgumentException" ["java/lang/RuntimeException", "java/lang/Exception"]).filter goodWord ++ (vx_atS RX2 59 "java/lang/IllegalStateException" ["java/lang/RuntimeException", "java/lang/Exception"]).filter goodWord ++ (vx_atS RX2 77 "java/lang/IndexOutOfBoundsException" ["java/lang/RuntimeException", "java/lang/Exception"]).filter goodWord)
def wsL_draw_r1 : List Cond := [Cond.classLink RL 13 "java/lang/IndexOutOfBoundsException", Cond.classLink RL 15 "java/lang/IllegalArgumentException", Cond.methodLink RL 19 yX2_draw, Cond.instanceMethod yX2_draw, Cond.selects RX2 yX2_draw yX2_draw, Cond.initialized RX2, Cond.code yX2_draw cX2_draw 3 (some .int), Cond.classLink RX2 44 "java/lang/IllegalArgumentException", Cond.initialized "java/lang/IllegalArgumentException", Cond.fieldLink RX2 10 "WedgeHarps" "now" "LWedgeHarps$Harp;", Cond.methodLink RX2 37 yX2_checkString, Cond.static yX2_checkString, Cond.code yX2_checkString cX2_checkString 1 none, Cond.classLink RX2 73 "java/lang/IndexOutOfBoundsException", Cond.initialized "java/lang/IndexOutOfBoundsException", Cond.methodLink RX2 69 yX1_renew, Cond.instanceMethod yX1_renew, Cond.selects RX1 yX1_renew yX1_renew, Cond.initialized RX1, Cond.code yX1_renew cX1_renew 3 none, Cond.fieldLink RX1 9 "WedgeHarps$Harp" "base" "[I", Cond.fieldLink RX1 18 "WedgeHarps$Harp" "drift" "[I", Cond.fieldLink RX1 21 "WedgeHarps$Harp" "strain" "[I", Cond.fieldLink RX1 27 "WedgeHarps$Harp" "whole" "[Z"]
def wsL_draw_r2 : List Cond := [Cond.methodLink RX2 63 yX1_toneOf, Cond.instanceMethod yX1_toneOf, Cond.selects RX1 yX1_toneOf yX1_toneOf, Cond.code yX1_toneOf cX1_toneOf 3 (some .int), Cond.fieldLink RX1 15 "WedgeHarps$Harp" "wedge" "[I", Cond.fieldLink RX1 31 "WedgeHarps$Harp" "swelling" "I"]
def wsL_draw : List Cond := .codeWith yL_draw cL_draw 5 (some .int) [(0, 10, 13, 13), (0, 10, 17, 15)] :: ((wsL_draw_r1 ++ wsL_draw_r2) ++ wsX20 ++ wsX10 ++ (vx_atS RX2 48 "java/lang/IllegalArgumentException" ["java/lang/RuntimeException", "java/lang/Exception"]).filter goodWord ++ (vx_atS RX2 77 "java/lang/IndexOutOfBoundsException" ["java/lang/RuntimeException", "java/lang/Exception"]).filter goodWord)
def wsL_setWeather : List Cond := .codeWith yL_setWeather cL_setWeather 6 (some .int) [(0, 12, 15, 13), (0, 12, 19, 15)] :: ([.classLink RL 13 "java/lang/IndexOutOfBoundsException", .classLink RL 15 "java/lang/IllegalArgumentException", .methodLink RL 22 yX2_setWeather, .instanceMethod yX2_setWeather, .selects RX2 yX2_setWeather yX2_setWeather, .initialized RX2, .code yX2_setWeather cX2_setWeather 5 (some .int), .classLink RX2 73 "java/lang/IndexOutOfBoundsException", .initialized "java/lang/IndexOutOfBoundsException", .classLink RX2 44 "java/lang/IllegalArgumentException", .initialized "java/lang/IllegalArgumentException", .fieldLink RX2 19 "WedgeHarps" "windTable" "[I", .fieldLink RX2 23 "WedgeHarps" "dampTable" "[I", .methodLink RX2 82 yX2_weatherAt, .instanceMethod yX2_weatherAt, .selects RX2 yX2_weatherAt yX2_weatherAt, .code yX2_weatherAt cX2_weatherAt 2 (some .int)] ++ wsX20 ++ (vx_atS RX2 77 "java/lang/IndexOutOfBoundsException" ["java/lang/RuntimeException", "java/lang/Exception"]).filter goodWord ++ (vx_atS RX2 48 "java/lang/IllegalArgumentException" ["java/lang/RuntimeException", "java/lang/Exception"]).filter goodWord)
def wsL_string_r1 : List Cond := [Cond.classLink RL 13 "java/lang/IndexOutOfBoundsException", Cond.methodLink RL 26 yX2_string, Cond.instanceMethod yX2_string, Cond.selects RX2 yX2_string yX2_string, Cond.initialized RX2, Cond.code yX2_string cX2_string 3 (some .int), Cond.classLink RX2 73 "java/lang/IndexOutOfBoundsException", Cond.initialized "java/lang/IndexOutOfBoundsException", Cond.fieldLink RX2 10 "WedgeHarps" "now" "LWedgeHarps$Harp;", Cond.methodLink RX2 37 yX2_checkString, Cond.static yX2_checkString, Cond.code yX2_checkString cX2_checkString 1 none, Cond.methodLink RX2 87 yX1_factOf, Cond.instanceMethod yX1_factOf, Cond.selects RX1 yX1_factOf yX1_factOf, Cond.initialized RX1, Cond.code yX1_factOf cX1_factOf 3 (some .int), Cond.fieldLink RX1 9 "WedgeHarps$Harp" "base" "[I", Cond.fieldLink RX1 15 "WedgeHarps$Harp" "wedge" "[I", Cond.fieldLink RX1 18 "WedgeHarps$Harp" "drift" "[I", Cond.fieldLink RX1 21 "WedgeHarps$Harp" "strain" "[I", Cond.fieldLink RX1 27 "WedgeHarps$Harp" "whole" "[Z", Cond.fieldLink RX1 24 "WedgeHarps$Harp" "breaks" "[I", Cond.methodLink RX1 38 yX1_toneOf]
def wsL_string_r2 : List Cond := [Cond.instanceMethod yX1_toneOf, Cond.selects RX1 yX1_toneOf yX1_toneOf, Cond.code yX1_toneOf cX1_toneOf 3 (some .int), Cond.fieldLink RX1 31 "WedgeHarps$Harp" "swelling" "I"]
def wsL_string : List Cond := .codeWith yL_string cL_string 5 (some .int) [(0, 10, 13, 13)] :: ((wsL_string_r1 ++ wsL_string_r2) ++ wsX20 ++ wsX10 ++ (vx_atS RX2 77 "java/lang/IndexOutOfBoundsException" ["java/lang/RuntimeException", "java/lang/Exception"]).filter goodWord)
def wsL_moves : List Cond := .codeWith yL_moves cL_moves 6 (some .int) [(0, 12, 15, 13), (0, 12, 19, 15)] :: ([.classLink RL 13 "java/lang/IndexOutOfBoundsException", .classLink RL 15 "java/lang/IllegalArgumentException", .methodLink RL 29 yX2_moves, .instanceMethod yX2_moves, .selects RX2 yX2_moves yX2_moves, .initialized RX2, .code yX2_moves cX2_moves 4 (some .int), .fieldLink RX2 10 "WedgeHarps" "now" "LWedgeHarps$Harp;", .fieldLink RX2 91 "WedgeHarps$Harp" "whole" "[Z", .methodLink RX2 95 Lib.Math.abs.name, .static Lib.Math.abs.name, .initialized "java/lang/Math", .code Lib.Math.abs.name Lib.Math.abs.code 1 (some .int), .methodLink RX2 37 yX2_checkString, .static yX2_checkString, .code yX2_checkString cX2_checkString 1 none, .classLink RX2 73 "java/lang/IndexOutOfBoundsException", .initialized "java/lang/IndexOutOfBoundsException", .methodLink RX2 41 yX2_checkWedgeSteps, .static yX2_checkWedgeSteps, .code yX2_checkWedgeSteps cX2_checkWedgeSteps 1 none, .classLink RX2 44 "java/lang/IllegalArgumentException", .initialized "java/lang/IllegalArgumentException"] ++ wsX20 ++ wsX10 ++ (vx_atS RX2 77 "java/lang/IndexOutOfBoundsException" ["java/lang/RuntimeException", "java/lang/Exception"]).filter goodWord ++ (vx_atS RX2 48 "java/lang/IllegalArgumentException" ["java/lang/RuntimeException", "java/lang/Exception"]).filter goodWord)
def wsL_chord_r1 : List Cond := [Cond.classLink RL 13 "java/lang/IndexOutOfBoundsException", Cond.classLink RL 15 "java/lang/IllegalArgumentException", Cond.classLink RL 17 "java/lang/IllegalStateException", Cond.methodLink RL 32 yX2_chord, Cond.instanceMethod yX2_chord, Cond.selects RX2 yX2_chord yX2_chord, Cond.initialized RX2, Cond.code yX2_chord cX2_chord 8 (some .int), Cond.classLink RX2 44 "java/lang/IllegalArgumentException", Cond.initialized "java/lang/IllegalArgumentException", Cond.classLink RX2 55 "java/lang/IllegalStateException", Cond.initialized "java/lang/IllegalStateException", Cond.fieldLink RX2 33 "WedgeHarps" "told" "I", Cond.fieldLink RX2 28 "WedgeHarps" "chords" "[LWedgeHarps$Chord;", Cond.methodLink RX2 37 yX2_checkString, Cond.static yX2_checkString, Cond.code yX2_checkString cX2_checkString 1 none, Cond.classLink RX2 73 "java/lang/IndexOutOfBoundsException", Cond.initialized "java/lang/IndexOutOfBoundsException", Cond.methodLink RX2 100 yX2_checkTone, Cond.static yX2_checkTone, Cond.code yX2_checkTone cX2_checkTone 2 none, Cond.methodLink RX2 109 yX0_place, Cond.instanceMethod yX0_place]
def wsL_chord_r2 : List Cond := [Cond.selects RX0 yX0_place yX0_place, Cond.initialized RX0, Cond.code yX0_place cX0_place 3 none, Cond.fieldLink RX0 15 "WedgeHarps$Chord" "lowest" "I", Cond.fieldLink RX0 19 "WedgeHarps$Chord" "size" "I", Cond.methodLink RX2 112 yX0_tune, Cond.instanceMethod yX0_tune, Cond.selects RX0 yX0_tune yX0_tune, Cond.code yX0_tune cX0_tune 5 none, Cond.fieldLink RX0 9 "WedgeHarps$Chord" "tones" "[I"]
def wsL_chord : List Cond := .codeWith yL_chord cL_chord 8 (some .int) [(0, 16, 19, 13), (0, 16, 23, 15), (0, 16, 27, 17)] :: ((wsL_chord_r1 ++ wsL_chord_r2) ++ wsX20 ++ wsX00 ++ (vx_atS RX2 48 "java/lang/IllegalArgumentException" ["java/lang/RuntimeException", "java/lang/Exception"]).filter goodWord ++ (vx_atS RX2 59 "java/lang/IllegalStateException" ["java/lang/RuntimeException", "java/lang/Exception"]).filter goodWord ++ (vx_atS RX2 77 "java/lang/IndexOutOfBoundsException" ["java/lang/RuntimeException", "java/lang/Exception"]).filter goodWord)
def wsL_off_r1 : List Cond := [Cond.classLink RL 13 "java/lang/IndexOutOfBoundsException", Cond.methodLink RL 36 yX2_off, Cond.instanceMethod yX2_off, Cond.selects RX2 yX2_off yX2_off, Cond.initialized RX2, Cond.code yX2_off cX2_off 2 (some .int), Cond.fieldLink RX2 10 "WedgeHarps" "now" "LWedgeHarps$Harp;", Cond.fieldLink RX2 28 "WedgeHarps" "chords" "[LWedgeHarps$Chord;", Cond.methodLink RX2 116 yX2_checkChord, Cond.instanceMethod yX2_checkChord, Cond.selects RX2 yX2_checkChord yX2_checkChord, Cond.code yX2_checkChord cX2_checkChord 2 none, Cond.classLink RX2 73 "java/lang/IndexOutOfBoundsException", Cond.initialized "java/lang/IndexOutOfBoundsException", Cond.fieldLink RX2 33 "WedgeHarps" "told" "I", Cond.methodLink RX2 119 yX1_distanceFrom, Cond.instanceMethod yX1_distanceFrom, Cond.selects RX1 yX1_distanceFrom yX1_distanceFrom, Cond.initialized RX1, Cond.code yX1_distanceFrom cX1_distanceFrom 4 (some .int), Cond.fieldLink RX1 42 "WedgeHarps$Chord" "size" "I", Cond.fieldLink RX1 47 "WedgeHarps$Chord" "lowest" "I", Cond.fieldLink RX1 50 "WedgeHarps$Chord" "tones" "[I", Cond.methodLink RX1 53 Lib.Math.abs.name]
def wsL_off_r2 : List Cond := [Cond.static Lib.Math.abs.name, Cond.initialized "java/lang/Math", Cond.code Lib.Math.abs.name Lib.Math.abs.code 1 (some .int), Cond.methodLink RX1 38 yX1_toneOf, Cond.instanceMethod yX1_toneOf, Cond.selects RX1 yX1_toneOf yX1_toneOf, Cond.code yX1_toneOf cX1_toneOf 3 (some .int), Cond.fieldLink RX1 27 "WedgeHarps$Harp" "whole" "[Z", Cond.fieldLink RX1 15 "WedgeHarps$Harp" "wedge" "[I", Cond.fieldLink RX1 9 "WedgeHarps$Harp" "base" "[I", Cond.fieldLink RX1 18 "WedgeHarps$Harp" "drift" "[I", Cond.fieldLink RX1 31 "WedgeHarps$Harp" "swelling" "I"]
def wsL_off : List Cond := .codeWith yL_off cL_off 4 (some .int) [(0, 9, 12, 13)] :: ((wsL_off_r1 ++ wsL_off_r2) ++ wsX20 ++ wsX00 ++ wsX10 ++ (vx_atS RX2 77 "java/lang/IndexOutOfBoundsException" ["java/lang/RuntimeException", "java/lang/Exception"]).filter goodWord)
def wsL_sounds_r1 : List Cond := [Cond.classLink RL 13 "java/lang/IndexOutOfBoundsException", Cond.methodLink RL 40 yX2_sounds, Cond.instanceMethod yX2_sounds, Cond.selects RX2 yX2_sounds yX2_sounds, Cond.initialized RX2, Cond.code yX2_sounds cX2_sounds 2 (some .boolean), Cond.fieldLink RX2 10 "WedgeHarps" "now" "LWedgeHarps$Harp;", Cond.fieldLink RX2 28 "WedgeHarps" "chords" "[LWedgeHarps$Chord;", Cond.methodLink RX2 116 yX2_checkChord, Cond.instanceMethod yX2_checkChord, Cond.selects RX2 yX2_checkChord yX2_checkChord, Cond.code yX2_checkChord cX2_checkChord 2 none, Cond.classLink RX2 73 "java/lang/IndexOutOfBoundsException", Cond.initialized "java/lang/IndexOutOfBoundsException", Cond.fieldLink RX2 33 "WedgeHarps" "told" "I", Cond.methodLink RX2 123 yX1_isTunedTo, Cond.instanceMethod yX1_isTunedTo, Cond.selects RX1 yX1_isTunedTo yX1_isTunedTo, Cond.initialized RX1, Cond.code yX1_isTunedTo cX1_isTunedTo 3 (some .boolean), Cond.fieldLink RX1 42 "WedgeHarps$Chord" "size" "I", Cond.methodLink RX1 58 yX1_fitsPushed, Cond.instanceMethod yX1_fitsPushed, Cond.selects RX1 yX1_fitsPushed yX1_fitsPushed]
def wsL_sounds_r2 : List Cond := [Cond.code yX1_fitsPushed cX1_fitsPushed 7 (some .boolean), Cond.fieldLink RX1 47 "WedgeHarps$Chord" "lowest" "I", Cond.fieldLink RX1 27 "WedgeHarps$Harp" "whole" "[Z", Cond.fieldLink RX1 50 "WedgeHarps$Chord" "tones" "[I", Cond.methodLink RX1 53 Lib.Math.abs.name, Cond.static Lib.Math.abs.name, Cond.initialized "java/lang/Math", Cond.code Lib.Math.abs.name Lib.Math.abs.code 1 (some .int), Cond.methodLink RX1 38 yX1_toneOf, Cond.instanceMethod yX1_toneOf, Cond.selects RX1 yX1_toneOf yX1_toneOf, Cond.code yX1_toneOf cX1_toneOf 3 (some .int), Cond.fieldLink RX1 15 "WedgeHarps$Harp" "wedge" "[I", Cond.fieldLink RX1 9 "WedgeHarps$Harp" "base" "[I", Cond.fieldLink RX1 18 "WedgeHarps$Harp" "drift" "[I", Cond.fieldLink RX1 31 "WedgeHarps$Harp" "swelling" "I"]
def wsL_sounds : List Cond := .codeWith yL_sounds cL_sounds 4 (some .int) [(0, 16, 19, 13)] :: ((wsL_sounds_r1 ++ wsL_sounds_r2) ++ wsX20 ++ wsX00 ++ wsX10 ++ (vx_atS RX2 77 "java/lang/IndexOutOfBoundsException" ["java/lang/RuntimeException", "java/lang/Exception"]).filter goodWord)
def wsL_steps_r1 : List Cond := [Cond.classLink RL 13 "java/lang/IndexOutOfBoundsException", Cond.methodLink RL 44 yX2_steps, Cond.instanceMethod yX2_steps, Cond.selects RX2 yX2_steps yX2_steps, Cond.initialized RX2, Cond.code yX2_steps cX2_steps 3 (some .int), Cond.fieldLink RX2 10 "WedgeHarps" "now" "LWedgeHarps$Harp;", Cond.fieldLink RX2 28 "WedgeHarps" "chords" "[LWedgeHarps$Chord;", Cond.methodLink RX2 116 yX2_checkChord, Cond.instanceMethod yX2_checkChord, Cond.selects RX2 yX2_checkChord yX2_checkChord, Cond.code yX2_checkChord cX2_checkChord 2 none, Cond.classLink RX2 73 "java/lang/IndexOutOfBoundsException", Cond.initialized "java/lang/IndexOutOfBoundsException", Cond.fieldLink RX2 33 "WedgeHarps" "told" "I", Cond.methodLink RX2 127 yX2_fewestSteps, Cond.static yX2_fewestSteps, Cond.code yX2_fewestSteps cX2_fewestSteps 8 (some .int), Cond.fieldLink RX2 157 "WedgeHarps$Chord" "size" "I", Cond.fieldLink RX2 154 "WedgeHarps$Chord" "lowest" "I", Cond.methodLink RX2 95 Lib.Math.abs.name, Cond.static Lib.Math.abs.name, Cond.initialized "java/lang/Math", Cond.code Lib.Math.abs.name Lib.Math.abs.code 1 (some .int)]
def wsL_steps_r2 : List Cond := [Cond.methodLink RX2 217 Lib.Math.min.name, Cond.static Lib.Math.min.name, Cond.code Lib.Math.min.name Lib.Math.min.code 2 (some .int), Cond.methodLink RX2 213 yX1_fitsPushed, Cond.instanceMethod yX1_fitsPushed, Cond.selects RX1 yX1_fitsPushed yX1_fitsPushed, Cond.initialized RX1, Cond.code yX1_fitsPushed cX1_fitsPushed 7 (some .boolean), Cond.fieldLink RX1 47 "WedgeHarps$Chord" "lowest" "I", Cond.fieldLink RX1 27 "WedgeHarps$Harp" "whole" "[Z", Cond.fieldLink RX1 50 "WedgeHarps$Chord" "tones" "[I", Cond.methodLink RX1 53 Lib.Math.abs.name, Cond.methodLink RX1 38 yX1_toneOf, Cond.instanceMethod yX1_toneOf, Cond.selects RX1 yX1_toneOf yX1_toneOf, Cond.code yX1_toneOf cX1_toneOf 3 (some .int), Cond.fieldLink RX1 15 "WedgeHarps$Harp" "wedge" "[I", Cond.fieldLink RX1 9 "WedgeHarps$Harp" "base" "[I", Cond.fieldLink RX1 18 "WedgeHarps$Harp" "drift" "[I", Cond.fieldLink RX1 31 "WedgeHarps$Harp" "swelling" "I", Cond.methodLink RX2 51 yX1_takesPush, Cond.instanceMethod yX1_takesPush, Cond.selects RX1 yX1_takesPush yX1_takesPush, Cond.code yX1_takesPush cX1_takesPush 4 (some .boolean)]
def wsL_steps : List Cond := .codeWith yL_steps cL_steps 4 (some .int) [(0, 9, 12, 13)] :: ((wsL_steps_r1 ++ wsL_steps_r2) ++ wsX20 ++ wsX00 ++ wsX10 ++ (vx_atS RX2 77 "java/lang/IndexOutOfBoundsException" ["java/lang/RuntimeException", "java/lang/Exception"]).filter goodWord)
def wsL_pass_r1 : List Cond := [Cond.classLink RL 15 "java/lang/IllegalArgumentException", Cond.methodLink RL 47 yX2_pass, Cond.instanceMethod yX2_pass, Cond.selects RX2 yX2_pass yX2_pass, Cond.initialized RX2, Cond.code yX2_pass cX2_pass 4 (some .int), Cond.fieldLink RX2 10 "WedgeHarps" "now" "LWedgeHarps$Harp;", Cond.methodLink RX2 131 yX2_checkHours, Cond.static yX2_checkHours, Cond.code yX2_checkHours cX2_checkHours 1 none, Cond.classLink RX2 44 "java/lang/IllegalArgumentException", Cond.initialized "java/lang/IllegalArgumentException", Cond.methodLink RX2 134 yX2_letHourGo, Cond.instanceMethod yX2_letHourGo, Cond.selects RX2 yX2_letHourGo yX2_letHourGo, Cond.code yX2_letHourGo cX2_letHourGo 5 (some .int), Cond.fieldLink RX2 19 "WedgeHarps" "windTable" "[I", Cond.fieldLink RX2 23 "WedgeHarps" "dampTable" "[I", Cond.methodLink RX2 206 yX1_hourOfTable, Cond.instanceMethod yX1_hourOfTable, Cond.selects RX1 yX1_hourOfTable yX1_hourOfTable, Cond.initialized RX1, Cond.code yX1_hourOfTable cX1_hourOfTable 1 (some .int), Cond.fieldLink RX1 35 "WedgeHarps$Harp" "hour" "I"]
def wsL_pass_r2 : List Cond := [Cond.methodLink RX1 62 yJ9_floorMod_7cf53, Cond.static yJ9_floorMod_7cf53, Cond.initialized RJ9, Cond.code yJ9_floorMod_7cf53 cJ9_floorMod_7cf53 3 (some .int), Cond.methodLink RX2 209 yX1_spendHour, Cond.instanceMethod yX1_spendHour, Cond.selects RX1 yX1_spendHour yX1_spendHour, Cond.code yX1_spendHour cX1_spendHour 7 (some .int), Cond.fieldLink RX1 27 "WedgeHarps$Harp" "whole" "[Z", Cond.methodLink RX1 66 yX1_breaksIn, Cond.instanceMethod yX1_breaksIn, Cond.selects RX1 yX1_breaksIn yX1_breaksIn, Cond.code yX1_breaksIn cX1_breaksIn 4 (some .boolean), Cond.fieldLink RX1 21 "WedgeHarps$Harp" "strain" "[I", Cond.methodLink RX1 78 Lib.Math.max.name, Cond.static Lib.Math.max.name, Cond.initialized "java/lang/Math", Cond.code Lib.Math.max.name Lib.Math.max.code 2 (some .int), Cond.fieldLink RX1 18 "WedgeHarps$Harp" "drift" "[I", Cond.fieldLink RX1 24 "WedgeHarps$Harp" "breaks" "[I", Cond.methodLink RX1 38 yX1_toneOf, Cond.instanceMethod yX1_toneOf, Cond.selects RX1 yX1_toneOf yX1_toneOf, Cond.code yX1_toneOf cX1_toneOf 3 (some .int)]
def wsL_pass_r3 : List Cond := [Cond.fieldLink RX1 15 "WedgeHarps$Harp" "wedge" "[I", Cond.fieldLink RX1 9 "WedgeHarps$Harp" "base" "[I", Cond.fieldLink RX1 31 "WedgeHarps$Harp" "swelling" "I", Cond.methodLink RX1 70 yX1_slip, Cond.instanceMethod yX1_slip, Cond.selects RX1 yX1_slip yX1_slip, Cond.code yX1_slip cX1_slip 3 none, Cond.methodLink RX1 81 Lib.Math.min.name, Cond.static Lib.Math.min.name, Cond.code Lib.Math.min.name Lib.Math.min.code 2 (some .int), Cond.methodLink RX1 74 yX1_swell, Cond.instanceMethod yX1_swell, Cond.selects RX1 yX1_swell yX1_swell, Cond.code yX1_swell cX1_swell 2 none]
def wsL_pass : List Cond := .codeWith yL_pass cL_pass 4 (some .int) [(0, 9, 12, 15)] :: ((wsL_pass_r1 ++ (wsL_pass_r2 ++ wsL_pass_r3)) ++ wsX20 ++ wsX10 ++ (vx_atS RX2 48 "java/lang/IllegalArgumentException" ["java/lang/RuntimeException", "java/lang/Exception"]).filter goodWord)
def wsL_count_r1 : List Cond := [Cond.classLink RL 13 "java/lang/IndexOutOfBoundsException", Cond.methodLink RL 50 yX2_count, Cond.instanceMethod yX2_count, Cond.selects RX2 yX2_count yX2_count, Cond.initialized RX2, Cond.code yX2_count cX2_count 2 (some .int), Cond.classLink RX2 73 "java/lang/IndexOutOfBoundsException", Cond.initialized "java/lang/IndexOutOfBoundsException", Cond.methodLink RX2 140 yX2_countOf, Cond.instanceMethod yX2_countOf, Cond.selects RX2 yX2_countOf yX2_countOf, Cond.code yX2_countOf cX2_countOf 2 (some .int), Cond.fieldLink RX2 10 "WedgeHarps" "now" "LWedgeHarps$Harp;", Cond.fieldLink RX2 184 "WedgeHarps$Harp" "hour" "I", Cond.fieldLink RX2 33 "WedgeHarps" "told" "I", Cond.fieldLink RX2 190 "WedgeHarps$Harp" "swelling" "I", Cond.fieldLink RX2 60 "WedgeHarps$Harp" "wedge" "[I", Cond.fieldLink RX2 197 "WedgeHarps$Harp" "strain" "[I", Cond.fieldLink RX2 200 "WedgeHarps$Harp" "breaks" "[I", Cond.methodLink RX2 160 yX1_wholeStrings, Cond.instanceMethod yX1_wholeStrings, Cond.selects RX1 yX1_wholeStrings yX1_wholeStrings, Cond.initialized RX1, Cond.code yX1_wholeStrings cX1_wholeStrings 3 (some .int)]
def wsL_count_r2 : List Cond := [Cond.fieldLink RX1 27 "WedgeHarps$Harp" "whole" "[Z", Cond.methodLink RX2 187 yX2_soundingChords, Cond.instanceMethod yX2_soundingChords, Cond.selects RX2 yX2_soundingChords yX2_soundingChords, Cond.code yX2_soundingChords cX2_soundingChords 3 (some .int), Cond.fieldLink RX2 28 "WedgeHarps" "chords" "[LWedgeHarps$Chord;", Cond.methodLink RX2 123 yX1_isTunedTo, Cond.instanceMethod yX1_isTunedTo, Cond.selects RX1 yX1_isTunedTo yX1_isTunedTo, Cond.code yX1_isTunedTo cX1_isTunedTo 3 (some .boolean), Cond.fieldLink RX1 42 "WedgeHarps$Chord" "size" "I", Cond.methodLink RX1 58 yX1_fitsPushed, Cond.instanceMethod yX1_fitsPushed, Cond.selects RX1 yX1_fitsPushed yX1_fitsPushed, Cond.code yX1_fitsPushed cX1_fitsPushed 7 (some .boolean), Cond.fieldLink RX1 47 "WedgeHarps$Chord" "lowest" "I", Cond.fieldLink RX1 50 "WedgeHarps$Chord" "tones" "[I", Cond.methodLink RX1 53 Lib.Math.abs.name, Cond.static Lib.Math.abs.name, Cond.initialized "java/lang/Math", Cond.code Lib.Math.abs.name Lib.Math.abs.code 1 (some .int), Cond.methodLink RX1 38 yX1_toneOf, Cond.instanceMethod yX1_toneOf, Cond.selects RX1 yX1_toneOf yX1_toneOf]
def wsL_count_r3 : List Cond := [Cond.code yX1_toneOf cX1_toneOf 3 (some .int), Cond.fieldLink RX1 15 "WedgeHarps$Harp" "wedge" "[I", Cond.fieldLink RX1 9 "WedgeHarps$Harp" "base" "[I", Cond.fieldLink RX1 18 "WedgeHarps$Harp" "drift" "[I", Cond.fieldLink RX1 31 "WedgeHarps$Harp" "swelling" "I", Cond.methodLink RX2 193 yX2_sumOf, Cond.static yX2_sumOf, Cond.code yX2_sumOf cX2_sumOf 6 (some .int)]
def wsL_count : List Cond := .codeWith yL_count cL_count 4 (some .int) [(0, 9, 12, 13)] :: ((wsL_count_r1 ++ (wsL_count_r2 ++ wsL_count_r3)) ++ wsX20 ++ wsX10 ++ wsX00 ++ (vx_atS RX2 77 "java/lang/IndexOutOfBoundsException" ["java/lang/RuntimeException", "java/lang/Exception"]).filter goodWord)
def wsL_bears_r1 : List Cond := [Cond.classLink RL 13 "java/lang/IndexOutOfBoundsException", Cond.methodLink RL 53 yX2_bears, Cond.instanceMethod yX2_bears, Cond.selects RX2 yX2_bears yX2_bears, Cond.initialized RX2, Cond.code yX2_bears cX2_bears 3 (some .int), Cond.methodLink RX2 37 yX2_checkString, Cond.static yX2_checkString, Cond.code yX2_checkString cX2_checkString 1 none, Cond.classLink RX2 73 "java/lang/IndexOutOfBoundsException", Cond.initialized "java/lang/IndexOutOfBoundsException", Cond.methodLink RX2 143 yX2_withstands, Cond.instanceMethod yX2_withstands, Cond.selects RX2 yX2_withstands yX2_withstands, Cond.code yX2_withstands cX2_withstands 4 (some .boolean), Cond.fieldLink RX2 16 "WedgeHarps" "later" "LWedgeHarps$Harp;", Cond.fieldLink RX2 10 "WedgeHarps" "now" "LWedgeHarps$Harp;", Cond.fieldLink RX2 91 "WedgeHarps$Harp" "whole" "[Z", Cond.fieldLink RX2 23 "WedgeHarps" "dampTable" "[I", Cond.methodLink RX2 146 yX1_copy, Cond.instanceMethod yX1_copy, Cond.selects RX1 yX1_copy yX1_copy, Cond.initialized RX1, Cond.code yX1_copy cX1_copy 3 none]
def wsL_bears_r2 : List Cond := [Cond.fieldLink RX1 9 "WedgeHarps$Harp" "base" "[I", Cond.fieldLink RX1 15 "WedgeHarps$Harp" "wedge" "[I", Cond.fieldLink RX1 18 "WedgeHarps$Harp" "drift" "[I", Cond.fieldLink RX1 21 "WedgeHarps$Harp" "strain" "[I", Cond.fieldLink RX1 24 "WedgeHarps$Harp" "breaks" "[I", Cond.fieldLink RX1 27 "WedgeHarps$Harp" "whole" "[Z", Cond.fieldLink RX1 31 "WedgeHarps$Harp" "swelling" "I", Cond.fieldLink RX1 35 "WedgeHarps$Harp" "hour" "I", Cond.methodLink RX2 206 yX1_hourOfTable, Cond.instanceMethod yX1_hourOfTable, Cond.selects RX1 yX1_hourOfTable yX1_hourOfTable, Cond.code yX1_hourOfTable cX1_hourOfTable 1 (some .int), Cond.methodLink RX1 62 yJ9_floorMod_7cf53, Cond.static yJ9_floorMod_7cf53, Cond.initialized RJ9, Cond.code yJ9_floorMod_7cf53 cJ9_floorMod_7cf53 3 (some .int), Cond.methodLink RX2 209 yX1_spendHour, Cond.instanceMethod yX1_spendHour, Cond.selects RX1 yX1_spendHour yX1_spendHour, Cond.code yX1_spendHour cX1_spendHour 7 (some .int), Cond.methodLink RX1 66 yX1_breaksIn, Cond.instanceMethod yX1_breaksIn, Cond.selects RX1 yX1_breaksIn yX1_breaksIn, Cond.code yX1_breaksIn cX1_breaksIn 4 (some .boolean)]
def wsL_bears_r3 : List Cond := [Cond.methodLink RX1 78 Lib.Math.max.name, Cond.static Lib.Math.max.name, Cond.initialized "java/lang/Math", Cond.code Lib.Math.max.name Lib.Math.max.code 2 (some .int), Cond.methodLink RX1 38 yX1_toneOf, Cond.instanceMethod yX1_toneOf, Cond.selects RX1 yX1_toneOf yX1_toneOf, Cond.code yX1_toneOf cX1_toneOf 3 (some .int), Cond.methodLink RX1 70 yX1_slip, Cond.instanceMethod yX1_slip, Cond.selects RX1 yX1_slip yX1_slip, Cond.code yX1_slip cX1_slip 3 none, Cond.methodLink RX1 81 Lib.Math.min.name, Cond.static Lib.Math.min.name, Cond.code Lib.Math.min.name Lib.Math.min.code 2 (some .int), Cond.methodLink RX1 74 yX1_swell, Cond.instanceMethod yX1_swell, Cond.selects RX1 yX1_swell yX1_swell, Cond.code yX1_swell cX1_swell 2 none]
def wsL_bears : List Cond := .codeWith yL_bears cL_bears 4 (some .int) [(0, 9, 12, 13)] :: ((wsL_bears_r1 ++ (wsL_bears_r2 ++ wsL_bears_r3)) ++ wsX20 ++ wsX10 ++ (vx_atS RX2 77 "java/lang/IndexOutOfBoundsException" ["java/lang/RuntimeException", "java/lang/Exception"]).filter goodWord)
def wsL_holds_r1 : List Cond := [Cond.classLink RL 13 "java/lang/IndexOutOfBoundsException", Cond.methodLink RL 56 yX2_holds, Cond.instanceMethod yX2_holds, Cond.selects RX2 yX2_holds yX2_holds, Cond.initialized RX2, Cond.code yX2_holds cX2_holds 4 (some .int), Cond.fieldLink RX2 28 "WedgeHarps" "chords" "[LWedgeHarps$Chord;", Cond.fieldLink RX2 16 "WedgeHarps" "later" "LWedgeHarps$Harp;", Cond.fieldLink RX2 10 "WedgeHarps" "now" "LWedgeHarps$Harp;", Cond.fieldLink RX2 154 "WedgeHarps$Chord" "lowest" "I", Cond.fieldLink RX2 157 "WedgeHarps$Chord" "size" "I", Cond.methodLink RX2 116 yX2_checkChord, Cond.instanceMethod yX2_checkChord, Cond.selects RX2 yX2_checkChord yX2_checkChord, Cond.code yX2_checkChord cX2_checkChord 2 none, Cond.classLink RX2 73 "java/lang/IndexOutOfBoundsException", Cond.initialized "java/lang/IndexOutOfBoundsException", Cond.fieldLink RX2 33 "WedgeHarps" "told" "I", Cond.methodLink RX2 146 yX1_copy, Cond.instanceMethod yX1_copy, Cond.selects RX1 yX1_copy yX1_copy, Cond.initialized RX1, Cond.code yX1_copy cX1_copy 3 none, Cond.fieldLink RX1 9 "WedgeHarps$Harp" "base" "[I"]
def wsL_holds_r2 : List Cond := [Cond.fieldLink RX1 15 "WedgeHarps$Harp" "wedge" "[I", Cond.fieldLink RX1 18 "WedgeHarps$Harp" "drift" "[I", Cond.fieldLink RX1 21 "WedgeHarps$Harp" "strain" "[I", Cond.fieldLink RX1 24 "WedgeHarps$Harp" "breaks" "[I", Cond.fieldLink RX1 27 "WedgeHarps$Harp" "whole" "[Z", Cond.fieldLink RX1 31 "WedgeHarps$Harp" "swelling" "I", Cond.fieldLink RX1 35 "WedgeHarps$Harp" "hour" "I", Cond.methodLink RX2 123 yX1_isTunedTo, Cond.instanceMethod yX1_isTunedTo, Cond.selects RX1 yX1_isTunedTo yX1_isTunedTo, Cond.code yX1_isTunedTo cX1_isTunedTo 3 (some .boolean), Cond.fieldLink RX1 42 "WedgeHarps$Chord" "size" "I", Cond.methodLink RX1 58 yX1_fitsPushed, Cond.instanceMethod yX1_fitsPushed, Cond.selects RX1 yX1_fitsPushed yX1_fitsPushed, Cond.code yX1_fitsPushed cX1_fitsPushed 7 (some .boolean), Cond.fieldLink RX1 47 "WedgeHarps$Chord" "lowest" "I", Cond.fieldLink RX1 50 "WedgeHarps$Chord" "tones" "[I", Cond.methodLink RX1 53 Lib.Math.abs.name, Cond.static Lib.Math.abs.name, Cond.initialized "java/lang/Math", Cond.code Lib.Math.abs.name Lib.Math.abs.code 1 (some .int), Cond.methodLink RX1 38 yX1_toneOf, Cond.instanceMethod yX1_toneOf]
def wsL_holds_r3 : List Cond := [Cond.selects RX1 yX1_toneOf yX1_toneOf, Cond.code yX1_toneOf cX1_toneOf 3 (some .int), Cond.methodLink RX2 134 yX2_letHourGo, Cond.instanceMethod yX2_letHourGo, Cond.selects RX2 yX2_letHourGo yX2_letHourGo, Cond.code yX2_letHourGo cX2_letHourGo 5 (some .int), Cond.fieldLink RX2 19 "WedgeHarps" "windTable" "[I", Cond.fieldLink RX2 23 "WedgeHarps" "dampTable" "[I", Cond.methodLink RX2 206 yX1_hourOfTable, Cond.instanceMethod yX1_hourOfTable, Cond.selects RX1 yX1_hourOfTable yX1_hourOfTable, Cond.code yX1_hourOfTable cX1_hourOfTable 1 (some .int), Cond.methodLink RX1 62 yJ9_floorMod_7cf53, Cond.static yJ9_floorMod_7cf53, Cond.initialized RJ9, Cond.code yJ9_floorMod_7cf53 cJ9_floorMod_7cf53 3 (some .int), Cond.methodLink RX2 209 yX1_spendHour, Cond.instanceMethod yX1_spendHour, Cond.selects RX1 yX1_spendHour yX1_spendHour, Cond.code yX1_spendHour cX1_spendHour 7 (some .int), Cond.methodLink RX1 66 yX1_breaksIn, Cond.instanceMethod yX1_breaksIn, Cond.selects RX1 yX1_breaksIn yX1_breaksIn, Cond.code yX1_breaksIn cX1_breaksIn 4 (some .boolean)]
def wsL_holds_r4 : List Cond := [Cond.methodLink RX1 78 Lib.Math.max.name, Cond.static Lib.Math.max.name, Cond.code Lib.Math.max.name Lib.Math.max.code 2 (some .int), Cond.methodLink RX1 70 yX1_slip, Cond.instanceMethod yX1_slip, Cond.selects RX1 yX1_slip yX1_slip, Cond.code yX1_slip cX1_slip 3 none, Cond.methodLink RX1 81 Lib.Math.min.name, Cond.static Lib.Math.min.name, Cond.code Lib.Math.min.name Lib.Math.min.code 2 (some .int), Cond.methodLink RX1 74 yX1_swell, Cond.instanceMethod yX1_swell, Cond.selects RX1 yX1_swell yX1_swell, Cond.code yX1_swell cX1_swell 2 none]
def wsL_holds : List Cond := .codeWith yL_holds cL_holds 4 (some .int) [(0, 9, 12, 13)] :: ((wsL_holds_r1 ++ (wsL_holds_r2 ++ (wsL_holds_r3 ++ wsL_holds_r4))) ++ wsX20 ++ wsX00 ++ wsX10 ++ (vx_atS RX2 77 "java/lang/IndexOutOfBoundsException" ["java/lang/RuntimeException", "java/lang/Exception"]).filter goodWord)
def wsL_foresee_r1 : List Cond := [Cond.classLink RL 15 "java/lang/IllegalArgumentException", Cond.classLink RL 13 "java/lang/IndexOutOfBoundsException", Cond.methodLink RL 59 yX2_foresee, Cond.instanceMethod yX2_foresee, Cond.selects RX2 yX2_foresee yX2_foresee, Cond.initialized RX2, Cond.code yX2_foresee cX2_foresee 4 (some .int), Cond.fieldLink RX2 16 "WedgeHarps" "later" "LWedgeHarps$Harp;", Cond.fieldLink RX2 10 "WedgeHarps" "now" "LWedgeHarps$Harp;", Cond.methodLink RX2 131 yX2_checkHours, Cond.static yX2_checkHours, Cond.code yX2_checkHours cX2_checkHours 1 none, Cond.classLink RX2 44 "java/lang/IllegalArgumentException", Cond.initialized "java/lang/IllegalArgumentException", Cond.methodLink RX2 37 yX2_checkString, Cond.static yX2_checkString, Cond.code yX2_checkString cX2_checkString 1 none, Cond.classLink RX2 73 "java/lang/IndexOutOfBoundsException", Cond.initialized "java/lang/IndexOutOfBoundsException", Cond.methodLink RX2 146 yX1_copy, Cond.instanceMethod yX1_copy, Cond.selects RX1 yX1_copy yX1_copy, Cond.initialized RX1, Cond.code yX1_copy cX1_copy 3 none]
def wsL_foresee_r2 : List Cond := [Cond.fieldLink RX1 9 "WedgeHarps$Harp" "base" "[I", Cond.fieldLink RX1 15 "WedgeHarps$Harp" "wedge" "[I", Cond.fieldLink RX1 18 "WedgeHarps$Harp" "drift" "[I", Cond.fieldLink RX1 21 "WedgeHarps$Harp" "strain" "[I", Cond.fieldLink RX1 24 "WedgeHarps$Harp" "breaks" "[I", Cond.fieldLink RX1 27 "WedgeHarps$Harp" "whole" "[Z", Cond.fieldLink RX1 31 "WedgeHarps$Harp" "swelling" "I", Cond.fieldLink RX1 35 "WedgeHarps$Harp" "hour" "I", Cond.methodLink RX2 134 yX2_letHourGo, Cond.instanceMethod yX2_letHourGo, Cond.selects RX2 yX2_letHourGo yX2_letHourGo, Cond.code yX2_letHourGo cX2_letHourGo 5 (some .int), Cond.fieldLink RX2 19 "WedgeHarps" "windTable" "[I", Cond.fieldLink RX2 23 "WedgeHarps" "dampTable" "[I", Cond.methodLink RX2 206 yX1_hourOfTable, Cond.instanceMethod yX1_hourOfTable, Cond.selects RX1 yX1_hourOfTable yX1_hourOfTable, Cond.code yX1_hourOfTable cX1_hourOfTable 1 (some .int), Cond.methodLink RX1 62 yJ9_floorMod_7cf53, Cond.static yJ9_floorMod_7cf53, Cond.initialized RJ9, Cond.code yJ9_floorMod_7cf53 cJ9_floorMod_7cf53 3 (some .int), Cond.methodLink RX2 209 yX1_spendHour, Cond.instanceMethod yX1_spendHour]
def wsL_foresee_r3 : List Cond := [Cond.selects RX1 yX1_spendHour yX1_spendHour, Cond.code yX1_spendHour cX1_spendHour 7 (some .int), Cond.methodLink RX1 66 yX1_breaksIn, Cond.instanceMethod yX1_breaksIn, Cond.selects RX1 yX1_breaksIn yX1_breaksIn, Cond.code yX1_breaksIn cX1_breaksIn 4 (some .boolean), Cond.methodLink RX1 78 Lib.Math.max.name, Cond.static Lib.Math.max.name, Cond.initialized "java/lang/Math", Cond.code Lib.Math.max.name Lib.Math.max.code 2 (some .int), Cond.methodLink RX1 38 yX1_toneOf, Cond.instanceMethod yX1_toneOf, Cond.selects RX1 yX1_toneOf yX1_toneOf, Cond.code yX1_toneOf cX1_toneOf 3 (some .int), Cond.methodLink RX1 70 yX1_slip, Cond.instanceMethod yX1_slip, Cond.selects RX1 yX1_slip yX1_slip, Cond.code yX1_slip cX1_slip 3 none, Cond.methodLink RX1 81 Lib.Math.min.name, Cond.static Lib.Math.min.name, Cond.code Lib.Math.min.name Lib.Math.min.code 2 (some .int), Cond.methodLink RX1 74 yX1_swell, Cond.instanceMethod yX1_swell, Cond.selects RX1 yX1_swell yX1_swell]
def wsL_foresee_r4 : List Cond := [Cond.code yX1_swell cX1_swell 2 none, Cond.methodLink RX2 63 yX1_toneOf]
def wsL_foresee : List Cond := .codeWith yL_foresee cL_foresee 5 (some .int) [(0, 10, 13, 15), (0, 10, 17, 13)] :: ((wsL_foresee_r1 ++ (wsL_foresee_r2 ++ (wsL_foresee_r3 ++ wsL_foresee_r4))) ++ wsX20 ++ wsX10 ++ (vx_atS RX2 48 "java/lang/IllegalArgumentException" ["java/lang/RuntimeException", "java/lang/Exception"]).filter goodWord ++ (vx_atS RX2 77 "java/lang/IndexOutOfBoundsException" ["java/lang/RuntimeException", "java/lang/Exception"]).filter goodWord)
def wsL_law0_r1 : List Cond := [Cond.classLink RL 8 RX2, Cond.instantiable RX2 6, Cond.initialized RX2, Cond.classLink RL 63 RX3, Cond.instantiable RX3 8, Cond.initialized RX3, Cond.arrayClass .long, Cond.methodLink RL 62 yX2_init, Cond.instanceMethod yX2_init, Cond.code yX2_init cX2_init 2 none, Cond.methodLink RX2 1 objectInit, Cond.instanceMethod objectInit, Cond.code objectInit ⟨#[0xb1]⟩ 1 none, Cond.classLink RX2 7 RX1, Cond.instantiable RX1 8, Cond.initialized RX1, Cond.fieldLink RX2 10 "WedgeHarps" "now" "LWedgeHarps$Harp;", Cond.fieldLink RX2 16 "WedgeHarps" "later" "LWedgeHarps$Harp;", Cond.arrayClass .int, Cond.fieldLink RX2 19 "WedgeHarps" "windTable" "[I", Cond.fieldLink RX2 23 "WedgeHarps" "dampTable" "[I", Cond.classLink RX2 26 RX0, Cond.fieldLink RX2 28 "WedgeHarps" "chords" "[LWedgeHarps$Chord;", Cond.instantiable RX0 3]
def wsL_law0_r2 : List Cond := [Cond.initialized RX0, Cond.fieldLink RX2 33 "WedgeHarps" "told" "I", Cond.methodLink RX2 9 yX1_init, Cond.instanceMethod yX1_init, Cond.code yX1_init cX1_init 2 none, Cond.methodLink RX1 3 objectInit, Cond.fieldLink RX1 9 "WedgeHarps$Harp" "base" "[I", Cond.fieldLink RX1 15 "WedgeHarps$Harp" "wedge" "[I", Cond.fieldLink RX1 18 "WedgeHarps$Harp" "drift" "[I", Cond.fieldLink RX1 21 "WedgeHarps$Harp" "strain" "[I", Cond.fieldLink RX1 24 "WedgeHarps$Harp" "breaks" "[I", Cond.arrayClass .boolean, Cond.fieldLink RX1 27 "WedgeHarps$Harp" "whole" "[Z", Cond.fieldLink RX1 31 "WedgeHarps$Harp" "swelling" "I", Cond.fieldLink RX1 35 "WedgeHarps$Harp" "hour" "I", Cond.methodLink RX2 32 yX0_init, Cond.instanceMethod yX0_init, Cond.code yX0_init cX0_init 1 none, Cond.methodLink RX0 3 objectInit, Cond.fieldLink RX0 9 "WedgeHarps$Chord" "tones" "[I", Cond.fieldLink RX0 15 "WedgeHarps$Chord" "lowest" "I", Cond.fieldLink RX0 19 "WedgeHarps$Chord" "size" "I", Cond.methodLink RL 65 yX3_init, Cond.instanceMethod yX3_init]
def wsL_law0_r3 : List Cond := [Cond.code yX3_init cX3_init 2 none, Cond.methodLink RX3 1 objectInit, Cond.fieldLink RX3 9 "WedgeHarpsModel" "harp" "[I", Cond.fieldLink RX3 13 "WedgeHarpsModel" "told" "[I", Cond.fieldLink RX3 16 "WedgeHarpsModel" "winds" "[I", Cond.fieldLink RX3 19 "WedgeHarpsModel" "damps" "[I", Cond.fieldLink RX3 22 "WedgeHarpsModel" "numbers" "[I", Cond.fieldLink RX3 25 "WedgeHarpsModel" "pushed" "[I", Cond.methodLink RX3 28 yX3_put, Cond.instanceMethod yX3_put, Cond.selects RX3 yX3_put yX3_put, Cond.code yX3_put cX3_put 4 none, Cond.methodLink RL 66 yL_push, Cond.static yL_push, Cond.initialized RL, Cond.codeWith yL_push cL_push 5 (some .int) [(0, 10, 13, 13), (0, 10, 17, 15), (0, 10, 21, 17)], Cond.classLink RL 13 "java/lang/IndexOutOfBoundsException", Cond.classLink RL 15 "java/lang/IllegalArgumentException", Cond.classLink RL 17 "java/lang/IllegalStateException", Cond.methodLink RL 7 yX2_push, Cond.instanceMethod yX2_push, Cond.selects RX2 yX2_push yX2_push, Cond.code yX2_push cX2_push 3 (some .int), Cond.classLink RX2 44 "java/lang/IllegalArgumentException"]
def wsL_law0_r4 : List Cond := [Cond.initialized "java/lang/IllegalArgumentException", Cond.classLink RX2 55 "java/lang/IllegalStateException", Cond.initialized "java/lang/IllegalStateException", Cond.fieldLink RX2 60 "WedgeHarps$Harp" "wedge" "[I", Cond.methodLink RX2 37 yX2_checkString, Cond.static yX2_checkString, Cond.code yX2_checkString cX2_checkString 1 none, Cond.classLink RX2 73 "java/lang/IndexOutOfBoundsException", Cond.initialized "java/lang/IndexOutOfBoundsException", Cond.methodLink RX2 41 yX2_checkWedgeSteps, Cond.static yX2_checkWedgeSteps, Cond.code yX2_checkWedgeSteps cX2_checkWedgeSteps 1 none, Cond.methodLink RX2 51 yX1_takesPush, Cond.instanceMethod yX1_takesPush, Cond.selects RX1 yX1_takesPush yX1_takesPush, Cond.code yX1_takesPush cX1_takesPush 4 (some .boolean), Cond.methodLink RX2 63 yX1_toneOf, Cond.instanceMethod yX1_toneOf, Cond.selects RX1 yX1_toneOf yX1_toneOf, Cond.code yX1_toneOf cX1_toneOf 3 (some .int), Cond.methodLink RL 71 yX3_push, Cond.instanceMethod yX3_push, Cond.selects RX3 yX3_push yX3_push, Cond.code yX3_push cX3_push 3 (some .int)]
def wsL_law0_r5 : List Cond := [Cond.fieldLink RX3 32 "WedgeHarpsModel" "thrown" "I", Cond.methodLink RX3 40 yX3_isString, Cond.static yX3_isString, Cond.code yX3_isString cX3_isString 1 (some .boolean), Cond.methodLink RX3 36 yX3_isIn, Cond.static yX3_isIn, Cond.code yX3_isIn cX3_isIn 3 (some .boolean), Cond.methodLink RX3 52 yX3_fail, Cond.instanceMethod yX3_fail, Cond.selects RX3 yX3_fail yX3_fail, Cond.code yX3_fail cX3_fail 2 (some .int), Cond.methodLink RX3 44 yX3_ha, Cond.instanceMethod yX3_ha, Cond.selects RX3 yX3_ha yX3_ha, Cond.code yX3_ha cX3_ha 3 (some .int), Cond.methodLink RX3 55 yX3_tone, Cond.instanceMethod yX3_tone, Cond.selects RX3 yX3_tone yX3_tone, Cond.code yX3_tone cX3_tone 2 (some .int), Cond.methodLink RX3 48 yX3_wedge, Cond.instanceMethod yX3_wedge, Cond.selects RX3 yX3_wedge yX3_wedge, Cond.code yX3_wedge cX3_wedge 2 (some .int), Cond.methodLink RL 72 yX3_thrown]
def wsL_law0_r6 : List Cond := [Cond.instanceMethod yX3_thrown, Cond.selects RX3 yX3_thrown yX3_thrown, Cond.code yX3_thrown cX3_thrown 1 (some .int), Cond.methodLink RL 76 yL_draw, Cond.static yL_draw, Cond.codeWith yL_draw cL_draw 5 (some .int) [(0, 10, 13, 13), (0, 10, 17, 15)], Cond.methodLink RL 19 yX2_draw, Cond.instanceMethod yX2_draw, Cond.selects RX2 yX2_draw yX2_draw, Cond.code yX2_draw cX2_draw 3 (some .int), Cond.methodLink RX2 69 yX1_renew, Cond.instanceMethod yX1_renew, Cond.selects RX1 yX1_renew yX1_renew, Cond.code yX1_renew cX1_renew 3 none, Cond.methodLink RL 78 yX3_draw, Cond.instanceMethod yX3_draw, Cond.selects RX3 yX3_draw yX3_draw, Cond.code yX3_draw cX3_draw 3 (some .int), Cond.methodLink RL 79 yL_setWeather, Cond.static yL_setWeather, Cond.codeWith yL_setWeather cL_setWeather 6 (some .int) [(0, 12, 15, 13), (0, 12, 19, 15)], Cond.methodLink RL 22 yX2_setWeather, Cond.instanceMethod yX2_setWeather, Cond.selects RX2 yX2_setWeather yX2_setWeather]
def wsL_law0_r7 : List Cond := [Cond.code yX2_setWeather cX2_setWeather 5 (some .int), Cond.methodLink RX2 82 yX2_weatherAt, Cond.instanceMethod yX2_weatherAt, Cond.selects RX2 yX2_weatherAt yX2_weatherAt, Cond.code yX2_weatherAt cX2_weatherAt 2 (some .int), Cond.methodLink RL 82 yX3_setWeather, Cond.instanceMethod yX3_setWeather, Cond.selects RX3 yX3_setWeather yX3_setWeather, Cond.code yX3_setWeather cX3_setWeather 5 (some .int), Cond.methodLink RL 83 yL_string, Cond.static yL_string, Cond.codeWith yL_string cL_string 5 (some .int) [(0, 10, 13, 13)], Cond.methodLink RL 26 yX2_string, Cond.instanceMethod yX2_string, Cond.selects RX2 yX2_string yX2_string, Cond.code yX2_string cX2_string 3 (some .int), Cond.methodLink RX2 87 yX1_factOf, Cond.instanceMethod yX1_factOf, Cond.selects RX1 yX1_factOf yX1_factOf, Cond.code yX1_factOf cX1_factOf 3 (some .int), Cond.methodLink RX1 38 yX1_toneOf, Cond.methodLink RL 85 yX3_string, Cond.instanceMethod yX3_string, Cond.selects RX3 yX3_string yX3_string]
def wsL_law0_r8 : List Cond := [Cond.code yX3_string cX3_string 3 (some .int), Cond.methodLink RX3 58 yX3_stringTold, Cond.instanceMethod yX3_stringTold, Cond.selects RX3 yX3_stringTold yX3_stringTold, Cond.code yX3_stringTold cX3_stringTold 3 (some .int), Cond.methodLink RL 86 yL_moves, Cond.static yL_moves, Cond.codeWith yL_moves cL_moves 6 (some .int) [(0, 12, 15, 13), (0, 12, 19, 15)], Cond.methodLink RL 29 yX2_moves, Cond.instanceMethod yX2_moves, Cond.selects RX2 yX2_moves yX2_moves, Cond.code yX2_moves cX2_moves 4 (some .int), Cond.fieldLink RX2 91 "WedgeHarps$Harp" "whole" "[Z", Cond.methodLink RX2 95 Lib.Math.abs.name, Cond.static Lib.Math.abs.name, Cond.initialized "java/lang/Math", Cond.code Lib.Math.abs.name Lib.Math.abs.code 1 (some .int), Cond.methodLink RL 88 yX3_moves, Cond.instanceMethod yX3_moves, Cond.selects RX3 yX3_moves yX3_moves, Cond.code yX3_moves cX3_moves 6 (some .int), Cond.methodLink RL 89 yL_chord, Cond.static yL_chord, Cond.codeWith yL_chord cL_chord 8 (some .int) [(0, 16, 19, 13), (0, 16, 23, 15), (0, 16, 27, 17)]]
def wsL_law0_r9 : List Cond := [Cond.methodLink RL 32 yX2_chord, Cond.instanceMethod yX2_chord, Cond.selects RX2 yX2_chord yX2_chord, Cond.code yX2_chord cX2_chord 8 (some .int), Cond.methodLink RX2 100 yX2_checkTone, Cond.static yX2_checkTone, Cond.code yX2_checkTone cX2_checkTone 2 none, Cond.methodLink RX2 109 yX0_place, Cond.instanceMethod yX0_place, Cond.selects RX0 yX0_place yX0_place, Cond.code yX0_place cX0_place 3 none, Cond.methodLink RX2 112 yX0_tune, Cond.instanceMethod yX0_tune, Cond.selects RX0 yX0_tune yX0_tune, Cond.code yX0_tune cX0_tune 5 none, Cond.methodLink RL 92 yX3_chord, Cond.instanceMethod yX3_chord, Cond.selects RX3 yX3_chord yX3_chord, Cond.code yX3_chord cX3_chord 8 (some .int), Cond.fieldLink RX3 61 "WedgeHarpsModel" "chords" "I", Cond.methodLink RX3 64 arraycopyName, Cond.native arraycopyName, Cond.static arraycopyName, Cond.initialized "java/lang/System"]
def wsL_law0_r10 : List Cond := [Cond.methodLink RL 93 yL_off, Cond.static yL_off, Cond.codeWith yL_off cL_off 4 (some .int) [(0, 9, 12, 13)], Cond.methodLink RL 36 yX2_off, Cond.instanceMethod yX2_off, Cond.selects RX2 yX2_off yX2_off, Cond.code yX2_off cX2_off 2 (some .int), Cond.methodLink RX2 116 yX2_checkChord, Cond.instanceMethod yX2_checkChord, Cond.selects RX2 yX2_checkChord yX2_checkChord, Cond.code yX2_checkChord cX2_checkChord 2 none, Cond.methodLink RX2 119 yX1_distanceFrom, Cond.instanceMethod yX1_distanceFrom, Cond.selects RX1 yX1_distanceFrom yX1_distanceFrom, Cond.code yX1_distanceFrom cX1_distanceFrom 4 (some .int), Cond.fieldLink RX1 42 "WedgeHarps$Chord" "size" "I", Cond.fieldLink RX1 47 "WedgeHarps$Chord" "lowest" "I", Cond.fieldLink RX1 50 "WedgeHarps$Chord" "tones" "[I", Cond.methodLink RX1 53 Lib.Math.abs.name, Cond.methodLink RL 96 yX3_off, Cond.instanceMethod yX3_off, Cond.selects RX3 yX3_off yX3_off, Cond.code yX3_off cX3_off 2 (some .int), Cond.methodLink RX3 81 yX3_isChord]
def wsL_law0_r11 : List Cond := [Cond.instanceMethod yX3_isChord, Cond.selects RX3 yX3_isChord yX3_isChord, Cond.code yX3_isChord cX3_isChord 2 (some .boolean), Cond.methodLink RX3 84 yX3_offBy, Cond.instanceMethod yX3_offBy, Cond.selects RX3 yX3_offBy yX3_offBy, Cond.code yX3_offBy cX3_offBy 4 (some .int), Cond.methodLink RX3 70 yX3_to, Cond.instanceMethod yX3_to, Cond.selects RX3 yX3_to yX3_to, Cond.code yX3_to cX3_to 3 (some .int), Cond.methodLink RX3 78 yX3_differs, Cond.instanceMethod yX3_differs, Cond.selects RX3 yX3_differs yX3_differs, Cond.code yX3_differs cX3_differs 3 (some .int), Cond.methodLink RX3 73 Lib.Math.abs.name, Cond.methodLink RL 97 yL_sounds, Cond.static yL_sounds, Cond.codeWith yL_sounds cL_sounds 4 (some .int) [(0, 16, 19, 13)], Cond.methodLink RL 40 yX2_sounds, Cond.instanceMethod yX2_sounds, Cond.selects RX2 yX2_sounds yX2_sounds, Cond.code yX2_sounds cX2_sounds 2 (some .boolean), Cond.methodLink RX2 123 yX1_isTunedTo]
def wsL_law0_r12 : List Cond := [Cond.instanceMethod yX1_isTunedTo, Cond.selects RX1 yX1_isTunedTo yX1_isTunedTo, Cond.code yX1_isTunedTo cX1_isTunedTo 3 (some .boolean), Cond.methodLink RX1 58 yX1_fitsPushed, Cond.instanceMethod yX1_fitsPushed, Cond.selects RX1 yX1_fitsPushed yX1_fitsPushed, Cond.code yX1_fitsPushed cX1_fitsPushed 7 (some .boolean), Cond.methodLink RL 99 yX3_sounds, Cond.instanceMethod yX3_sounds, Cond.selects RX3 yX3_sounds yX3_sounds, Cond.code yX3_sounds cX3_sounds 2 (some .boolean), Cond.methodLink RX3 87 yX3_isSounding, Cond.instanceMethod yX3_isSounding, Cond.selects RX3 yX3_isSounding yX3_isSounding, Cond.code yX3_isSounding cX3_isSounding 3 (some .boolean), Cond.methodLink RL 100 yL_steps, Cond.static yL_steps, Cond.codeWith yL_steps cL_steps 4 (some .int) [(0, 9, 12, 13)], Cond.methodLink RL 44 yX2_steps, Cond.instanceMethod yX2_steps, Cond.selects RX2 yX2_steps yX2_steps, Cond.code yX2_steps cX2_steps 3 (some .int), Cond.methodLink RX2 127 yX2_fewestSteps, Cond.static yX2_fewestSteps]
def wsL_law0_r13 : List Cond := [Cond.code yX2_fewestSteps cX2_fewestSteps 8 (some .int), Cond.fieldLink RX2 157 "WedgeHarps$Chord" "size" "I", Cond.fieldLink RX2 154 "WedgeHarps$Chord" "lowest" "I", Cond.methodLink RX2 217 Lib.Math.min.name, Cond.static Lib.Math.min.name, Cond.code Lib.Math.min.name Lib.Math.min.code 2 (some .int), Cond.methodLink RX2 213 yX1_fitsPushed, Cond.methodLink RL 102 yX3_steps, Cond.instanceMethod yX3_steps, Cond.selects RX3 yX3_steps yX3_steps, Cond.code yX3_steps cX3_steps 11 (some .int), Cond.methodLink RL 103 yL_pass, Cond.static yL_pass, Cond.codeWith yL_pass cL_pass 4 (some .int) [(0, 9, 12, 15)], Cond.methodLink RL 47 yX2_pass, Cond.instanceMethod yX2_pass, Cond.selects RX2 yX2_pass yX2_pass, Cond.code yX2_pass cX2_pass 4 (some .int), Cond.methodLink RX2 131 yX2_checkHours, Cond.static yX2_checkHours, Cond.code yX2_checkHours cX2_checkHours 1 none, Cond.methodLink RX2 134 yX2_letHourGo, Cond.instanceMethod yX2_letHourGo, Cond.selects RX2 yX2_letHourGo yX2_letHourGo]
def wsL_law0_r14 : List Cond := [Cond.code yX2_letHourGo cX2_letHourGo 5 (some .int), Cond.methodLink RX2 206 yX1_hourOfTable, Cond.instanceMethod yX1_hourOfTable, Cond.selects RX1 yX1_hourOfTable yX1_hourOfTable, Cond.code yX1_hourOfTable cX1_hourOfTable 1 (some .int), Cond.methodLink RX1 62 yJ9_floorMod_7cf53, Cond.static yJ9_floorMod_7cf53, Cond.initialized RJ9, Cond.code yJ9_floorMod_7cf53 cJ9_floorMod_7cf53 3 (some .int), Cond.methodLink RX2 209 yX1_spendHour, Cond.instanceMethod yX1_spendHour, Cond.selects RX1 yX1_spendHour yX1_spendHour, Cond.code yX1_spendHour cX1_spendHour 7 (some .int), Cond.methodLink RX1 66 yX1_breaksIn, Cond.instanceMethod yX1_breaksIn, Cond.selects RX1 yX1_breaksIn yX1_breaksIn, Cond.code yX1_breaksIn cX1_breaksIn 4 (some .boolean), Cond.methodLink RX1 78 Lib.Math.max.name, Cond.static Lib.Math.max.name, Cond.code Lib.Math.max.name Lib.Math.max.code 2 (some .int), Cond.methodLink RX1 70 yX1_slip, Cond.instanceMethod yX1_slip, Cond.selects RX1 yX1_slip yX1_slip, Cond.code yX1_slip cX1_slip 3 none]
def wsL_law0_r15 : List Cond := [Cond.methodLink RX1 81 Lib.Math.min.name, Cond.methodLink RX1 74 yX1_swell, Cond.instanceMethod yX1_swell, Cond.selects RX1 yX1_swell yX1_swell, Cond.code yX1_swell cX1_swell 2 none, Cond.methodLink RL 105 yX3_pass, Cond.instanceMethod yX3_pass, Cond.selects RX3 yX3_pass yX3_pass, Cond.code yX3_pass cX3_pass 4 (some .int), Cond.methodLink RX3 99 yX3_hourOn_, Cond.instanceMethod yX3_hourOn_, Cond.selects RX3 yX3_hourOn_ yX3_hourOn_, Cond.code yX3_hourOn_ cX3_hourOn_ 1 (some .int), Cond.methodLink RX3 96 yX3_hourOn, Cond.instanceMethod yX3_hourOn, Cond.selects RX3 yX3_hourOn yX3_hourOn, Cond.code yX3_hourOn cX3_hourOn 6 (some .int), Cond.methodLink RX3 90 Lib.Math.max.name, Cond.methodLink RX3 93 Lib.Math.min.name, Cond.methodLink RX3 102 yJ6_bitCount_0f7a4, Cond.static yJ6_bitCount_0f7a4, Cond.initialized RJ6, Cond.code yJ6_bitCount_0f7a4 cJ6_bitCount_0f7a4 1 (some .int), Cond.constant RJ6 265 (1431655765)]
def wsL_law0_r16 : List Cond := [Cond.constant RJ6 266 (858993459), Cond.constant RJ6 267 (252645135), Cond.methodLink RL 106 yL_count, Cond.static yL_count, Cond.codeWith yL_count cL_count 4 (some .int) [(0, 9, 12, 13)], Cond.methodLink RL 50 yX2_count, Cond.instanceMethod yX2_count, Cond.selects RX2 yX2_count yX2_count, Cond.code yX2_count cX2_count 2 (some .int), Cond.methodLink RX2 140 yX2_countOf, Cond.instanceMethod yX2_countOf, Cond.selects RX2 yX2_countOf yX2_countOf, Cond.code yX2_countOf cX2_countOf 2 (some .int), Cond.fieldLink RX2 184 "WedgeHarps$Harp" "hour" "I", Cond.fieldLink RX2 190 "WedgeHarps$Harp" "swelling" "I", Cond.fieldLink RX2 197 "WedgeHarps$Harp" "strain" "[I", Cond.fieldLink RX2 200 "WedgeHarps$Harp" "breaks" "[I", Cond.methodLink RX2 160 yX1_wholeStrings, Cond.instanceMethod yX1_wholeStrings, Cond.selects RX1 yX1_wholeStrings yX1_wholeStrings, Cond.code yX1_wholeStrings cX1_wholeStrings 3 (some .int), Cond.methodLink RX2 187 yX2_soundingChords, Cond.instanceMethod yX2_soundingChords, Cond.selects RX2 yX2_soundingChords yX2_soundingChords]
def wsL_law0_r17 : List Cond := [Cond.code yX2_soundingChords cX2_soundingChords 3 (some .int), Cond.methodLink RX2 193 yX2_sumOf, Cond.static yX2_sumOf, Cond.code yX2_sumOf cX2_sumOf 6 (some .int), Cond.methodLink RL 108 yX3_count, Cond.instanceMethod yX3_count, Cond.selects RX3 yX3_count yX3_count, Cond.code yX3_count cX3_count 2 (some .int), Cond.methodLink RX3 107 yX3_counted, Cond.instanceMethod yX3_counted, Cond.selects RX3 yX3_counted yX3_counted, Cond.code yX3_counted cX3_counted 5 (some .int), Cond.methodLink RL 109 yL_bears, Cond.static yL_bears, Cond.codeWith yL_bears cL_bears 4 (some .int) [(0, 9, 12, 13)], Cond.methodLink RL 53 yX2_bears, Cond.instanceMethod yX2_bears, Cond.selects RX2 yX2_bears yX2_bears, Cond.code yX2_bears cX2_bears 3 (some .int), Cond.methodLink RX2 143 yX2_withstands, Cond.instanceMethod yX2_withstands, Cond.selects RX2 yX2_withstands yX2_withstands, Cond.code yX2_withstands cX2_withstands 4 (some .boolean), Cond.methodLink RX2 146 yX1_copy]
def wsL_law0_r18 : List Cond := [Cond.instanceMethod yX1_copy, Cond.selects RX1 yX1_copy yX1_copy, Cond.code yX1_copy cX1_copy 3 none, Cond.methodLink RL 111 yX3_bears, Cond.instanceMethod yX3_bears, Cond.selects RX3 yX3_bears yX3_bears, Cond.code yX3_bears cX3_bears 6 (some .int), Cond.methodLink RX3 115 yX3_kept, Cond.instanceMethod yX3_kept, Cond.selects RX3 yX3_kept yX3_kept, Cond.code yX3_kept cX3_kept 1 (some (.array (.array .int))), Cond.classLink RX3 110 "[I", Cond.methodLink RX3 111 ⟨"[I", "clone", "()Ljava/lang/Object;"⟩, Cond.sameMethod "[I" "java/lang/Object" "clone" "()Ljava/lang/Object;", Cond.native ⟨"java/lang/Object", "clone", "()Ljava/lang/Object;"⟩, Cond.instanceMethod ⟨"java/lang/Object", "clone", "()Ljava/lang/Object;"⟩, Cond.selects "[I" ⟨"[I", "clone", "()Ljava/lang/Object;"⟩ ⟨"java/lang/Object", "clone", "()Ljava/lang/Object;"⟩, Cond.methodLink RX3 119 yX3_bringBack, Cond.instanceMethod yX3_bringBack, Cond.selects RX3 yX3_bringBack yX3_bringBack, Cond.code yX3_bringBack cX3_bringBack 2 none, Cond.methodLink RL 112 yX2_first, Cond.instanceMethod yX2_first, Cond.selects RX2 yX2_first yX2_first]
def wsL_law0_r19 : List Cond := [Cond.code yX2_first cX2_first 2 (some .int), Cond.methodLink RX2 150 yX2_lowestToBreak, Cond.instanceMethod yX2_lowestToBreak, Cond.selects RX2 yX2_lowestToBreak yX2_lowestToBreak, Cond.code yX2_lowestToBreak cX2_lowestToBreak 2 (some .int), Cond.methodLink RL 115 yX3_first, Cond.instanceMethod yX3_first, Cond.selects RX3 yX3_first yX3_first, Cond.code yX3_first cX3_first 4 (some .int), Cond.methodLink RX3 123 yJ6_numberOfTrailingZeros_0f7a4, Cond.static yJ6_numberOfTrailingZeros_0f7a4, Cond.code yJ6_numberOfTrailingZeros_0f7a4 cJ6_numberOfTrailingZeros_0f7a4 2 (some .int), Cond.constant RJ6 264 (65536), Cond.methodLink RL 116 yL_holds, Cond.static yL_holds, Cond.codeWith yL_holds cL_holds 4 (some .int) [(0, 9, 12, 13)], Cond.methodLink RL 56 yX2_holds, Cond.instanceMethod yX2_holds, Cond.selects RX2 yX2_holds yX2_holds, Cond.code yX2_holds cX2_holds 4 (some .int), Cond.methodLink RL 118 yX3_holds, Cond.instanceMethod yX3_holds, Cond.selects RX3 yX3_holds yX3_holds, Cond.code yX3_holds cX3_holds 4 (some .int)]
def wsL_law0_r20 : List Cond := [Cond.methodLink RL 119 yL_foresee, Cond.static yL_foresee, Cond.codeWith yL_foresee cL_foresee 5 (some .int) [(0, 10, 13, 15), (0, 10, 17, 13)], Cond.methodLink RL 59 yX2_foresee, Cond.instanceMethod yX2_foresee, Cond.selects RX2 yX2_foresee yX2_foresee, Cond.code yX2_foresee cX2_foresee 4 (some .int), Cond.methodLink RL 121 yX3_foresee, Cond.instanceMethod yX3_foresee, Cond.selects RX3 yX3_foresee yX3_foresee, Cond.code yX3_foresee cX3_foresee 5 (some .int), Cond.methodLink RL 122 yX2_mean, Cond.instanceMethod yX2_mean, Cond.selects RX2 yX2_mean yX2_mean, Cond.code yX2_mean cX2_mean 2 (some .double), Cond.methodLink RX2 163 yX1_sumOfTones, Cond.instanceMethod yX1_sumOfTones, Cond.selects RX1 yX1_sumOfTones yX1_sumOfTones, Cond.code yX1_sumOfTones cX1_sumOfTones 3 (some .int), Cond.methodLink RL 126 yX3_mean, Cond.instanceMethod yX3_mean, Cond.selects RX3 yX3_mean yX3_mean, Cond.code yX3_mean cX3_mean 3 (some .double), Cond.methodLink RL 127 yX2_digest]
def wsL_law0_r21 : List Cond := [Cond.instanceMethod yX2_digest, Cond.selects RX2 yX2_digest yX2_digest, Cond.code yX2_digest cX2_digest 5 (some .long), Cond.constantLong RX2 166 (947), Cond.constantLong RX2 168 (31), Cond.methodLink RX2 170 yX2_digestWith, Cond.instanceMethod yX2_digestWith, Cond.selects RX2 yX2_digestWith yX2_digestWith, Cond.code yX2_digestWith cX2_digestWith 7 (some .long), Cond.fieldLink RX2 203 "WedgeHarps$Chord" "tones" "[I", Cond.methodLink RL 131 yX3_digest, Cond.instanceMethod yX3_digest, Cond.selects RX3 yX3_digest yX3_digest, Cond.code yX3_digest cX3_digest 5 (some .long), Cond.constantLong RX3 126 (947), Cond.constantLong RX3 128 (31)]
def wsL_law0 : List Cond := (wsL_law0_r1 ++ (wsL_law0_r2 ++ (wsL_law0_r3 ++ (wsL_law0_r4 ++ (wsL_law0_r5 ++ (wsL_law0_r6 ++ (wsL_law0_r7 ++ (wsL_law0_r8 ++ (wsL_law0_r9 ++ (wsL_law0_r10 ++ (wsL_law0_r11 ++ (wsL_law0_r12 ++ (wsL_law0_r13 ++ (wsL_law0_r14 ++ (wsL_law0_r15 ++ (wsL_law0_r16 ++ (wsL_law0_r17 ++ (wsL_law0_r18 ++ (wsL_law0_r19 ++ (wsL_law0_r20 ++ wsL_law0_r21)))))))))))))))))))) ++ wsX20 ++ wsX30 ++ wsX10 ++ wsX00 ++ ([] : List Cond)
def wsL_law : List Cond := wsL_law0 ++ (vx_atS RX2 48 "java/lang/IllegalArgumentException" ["java/lang/RuntimeException", "java/lang/Exception"]).filter goodWord ++ (vx_atS RX2 59 "java/lang/IllegalStateException" ["java/lang/RuntimeException", "java/lang/Exception"]).filter goodWord ++ (vx_atS RX2 77 "java/lang/IndexOutOfBoundsException" ["java/lang/RuntimeException", "java/lang/Exception"]).filter goodWord
abbrev vwCl : List vw_C := [(RX0, TX0, 3), (RX1, TX1, 8), (RX2, TX2, 6), (RX3, TX3, 8)]
end
section
theorem dX0_init_0 : decode cX0_init 0 = .ok (.aload_n 0, 1) := by decide +kernel
theorem dX0_init_1 : decode cX0_init 1 = .ok (.invokespecial 3, 3) := by decide +kernel
theorem dX0_init_4 : decode cX0_init 4 = .ok (.aload_n 0, 1) := by decide +kernel
theorem dX0_init_5 : decode cX0_init 5 = .ok (.iconst 4, 1) := by decide +kernel
theorem dX0_init_6 : decode cX0_init 6 = .ok (.newarray .int, 2) := by decide +kernel
theorem dX0_init_8 : decode cX0_init 8 = .ok (.putfield 9, 3) := by decide +kernel
theorem dX0_init_11 : decode cX0_init 11 = .ok (.aload_n 0, 1) := by decide +kernel
theorem dX0_init_12 : decode cX0_init 12 = .ok (.iconst 0, 1) := by decide +kernel
theorem dX0_init_13 : decode cX0_init 13 = .ok (.putfield 15, 3) := by decide +kernel
theorem dX0_init_16 : decode cX0_init 16 = .ok (.aload_n 0, 1) := by decide +kernel
theorem dX0_init_17 : decode cX0_init 17 = .ok (.iconst 0, 1) := by decide +kernel
theorem dX0_init_18 : decode cX0_init 18 = .ok (.putfield 19, 3) := by decide +kernel
theorem dX0_init_21 : decode cX0_init 21 = .ok (.return_, 1) := by decide +kernel
theorem dX0_place_0 : decode cX0_place 0 = .ok (.aload_n 0, 1) := by decide +kernel
theorem dX0_place_1 : decode cX0_place 1 = .ok (.iload_n 1, 1) := by decide +kernel
theorem dX0_place_2 : decode cX0_place 2 = .ok (.putfield 15, 3) := by decide +kernel
theorem dX0_place_5 : decode cX0_place 5 = .ok (.aload_n 0, 1) := by decide +kernel
theorem dX0_place_6 : decode cX0_place 6 = .ok (.iload_n 2, 1) := by decide +kernel
theorem dX0_place_7 : decode cX0_place 7 = .ok (.putfield 19, 3) := by decide +kernel
theorem dX0_place_10 : decode cX0_place 10 = .ok (.return_, 1) := by decide +kernel
theorem dX0_tune_0 : decode cX0_tune 0 = .ok (.aload_n 0, 1) := by decide +kernel
theorem dX0_tune_1 : decode cX0_tune 1 = .ok (.getfield 9, 3) := by decide +kernel
theorem dX0_tune_4 : decode cX0_tune 4 = .ok (.iconst 0, 1) := by decide +kernel
theorem dX0_tune_5 : decode cX0_tune 5 = .ok (.iload_n 1, 1) := by decide +kernel
theorem dX0_tune_6 : decode cX0_tune 6 = .ok (.iastore, 1) := by decide +kernel
theorem dX0_tune_7 : decode cX0_tune 7 = .ok (.aload_n 0, 1) := by decide +kernel
theorem dX0_tune_8 : decode cX0_tune 8 = .ok (.getfield 9, 3) := by decide +kernel
theorem dX0_tune_11 : decode cX0_tune 11 = .ok (.iconst 1, 1) := by decide +kernel
theorem dX0_tune_12 : decode cX0_tune 12 = .ok (.iload_n 2, 1) := by decide +kernel
theorem dX0_tune_13 : decode cX0_tune 13 = .ok (.iastore, 1) := by decide +kernel
theorem dX0_tune_14 : decode cX0_tune 14 = .ok (.aload_n 0, 1) := by decide +kernel
theorem dX0_tune_15 : decode cX0_tune 15 = .ok (.getfield 9, 3) := by decide +kernel
theorem dX0_tune_18 : decode cX0_tune 18 = .ok (.iconst 2, 1) := by decide +kernel
theorem dX0_tune_19 : decode cX0_tune 19 = .ok (.iload_n 3, 1) := by decide +kernel
theorem dX0_tune_20 : decode cX0_tune 20 = .ok (.iastore, 1) := by decide +kernel
theorem dX0_tune_21 : decode cX0_tune 21 = .ok (.aload_n 0, 1) := by decide +kernel
theorem dX0_tune_22 : decode cX0_tune 22 = .ok (.getfield 9, 3) := by decide +kernel
theorem dX0_tune_25 : decode cX0_tune 25 = .ok (.iconst 3, 1) := by decide +kernel
theorem dX0_tune_26 : decode cX0_tune 26 = .ok (.iload 4, 2) := by decide +kernel
theorem dX0_tune_28 : decode cX0_tune 28 = .ok (.iastore, 1) := by decide +kernel
theorem dX0_tune_29 : decode cX0_tune 29 = .ok (.return_, 1) := by decide +kernel
theorem dX1_init_0 : decode cX1_init 0 = .ok (.aload_n 0, 1) := by decide +kernel
theorem dX1_init_1 : decode cX1_init 1 = .ok (.invokespecial 3, 3) := by decide +kernel
theorem dX1_init_4 : decode cX1_init 4 = .ok (.aload_n 0, 1) := by decide +kernel
theorem dX1_init_5 : decode cX1_init 5 = .ok (.bipush 12, 2) := by decide +kernel
theorem dX1_init_7 : decode cX1_init 7 = .ok (.newarray .int, 2) := by decide +kernel
theorem dX1_init_9 : decode cX1_init 9 = .ok (.putfield 9, 3) := by decide +kernel
theorem dX1_init_12 : decode cX1_init 12 = .ok (.aload_n 0, 1) := by decide +kernel
theorem dX1_init_13 : decode cX1_init 13 = .ok (.bipush 12, 2) := by decide +kernel
theorem dX1_init_15 : decode cX1_init 15 = .ok (.newarray .int, 2) := by decide +kernel
theorem dX1_init_17 : decode cX1_init 17 = .ok (.putfield 15, 3) := by decide +kernel
theorem dX1_init_20 : decode cX1_init 20 = .ok (.aload_n 0, 1) := by decide +kernel
theorem dX1_init_21 : decode cX1_init 21 = .ok (.bipush 12, 2) := by decide +kernel
theorem dX1_init_23 : decode cX1_init 23 = .ok (.newarray .int, 2) := by decide +kernel
theorem dX1_init_25 : decode cX1_init 25 = .ok (.putfield 18, 3) := by decide +kernel
theorem dX1_init_28 : decode cX1_init 28 = .ok (.aload_n 0, 1) := by decide +kernel
theorem dX1_init_29 : decode cX1_init 29 = .ok (.bipush 12, 2) := by decide +kernel
theorem dX1_init_31 : decode cX1_init 31 = .ok (.newarray .int, 2) := by decide +kernel
theorem dX1_init_33 : decode cX1_init 33 = .ok (.putfield 21, 3) := by decide +kernel
theorem dX1_init_36 : decode cX1_init 36 = .ok (.aload_n 0, 1) := by decide +kernel
theorem dX1_init_37 : decode cX1_init 37 = .ok (.bipush 12, 2) := by decide +kernel
theorem dX1_init_39 : decode cX1_init 39 = .ok (.newarray .int, 2) := by decide +kernel
theorem dX1_init_41 : decode cX1_init 41 = .ok (.putfield 24, 3) := by decide +kernel
theorem dX1_init_44 : decode cX1_init 44 = .ok (.aload_n 0, 1) := by decide +kernel
theorem dX1_init_45 : decode cX1_init 45 = .ok (.bipush 12, 2) := by decide +kernel
theorem dX1_init_47 : decode cX1_init 47 = .ok (.newarray .boolean, 2) := by decide +kernel
theorem dX1_init_49 : decode cX1_init 49 = .ok (.putfield 27, 3) := by decide +kernel
theorem dX1_init_52 : decode cX1_init 52 = .ok (.iconst 0, 1) := by decide +kernel
theorem dX1_init_53 : decode cX1_init 53 = .ok (.istore_n 1, 1) := by decide +kernel
theorem dX1_init_54 : decode cX1_init 54 = .ok (.iload_n 1, 1) := by decide +kernel
theorem dX1_init_55 : decode cX1_init 55 = .ok (.bipush 12, 2) := by decide +kernel
theorem dX1_init_57 : decode cX1_init 57 = .ok (.if_icmp .ge 30, 3) := by decide +kernel
theorem dX1_init_60 : decode cX1_init 60 = .ok (.aload_n 0, 1) := by decide +kernel
theorem dX1_init_61 : decode cX1_init 61 = .ok (.getfield 9, 3) := by decide +kernel
theorem dX1_init_64 : decode cX1_init 64 = .ok (.iload_n 1, 1) := by decide +kernel
theorem dX1_init_65 : decode cX1_init 65 = .ok (.sipush 300, 3) := by decide +kernel
theorem dX1_init_68 : decode cX1_init 68 = .ok (.bipush 20, 2) := by decide +kernel
theorem dX1_init_70 : decode cX1_init 70 = .ok (.iload_n 1, 1) := by decide +kernel
theorem dX1_init_71 : decode cX1_init 71 = .ok (.imul, 1) := by decide +kernel
theorem dX1_init_72 : decode cX1_init 72 = .ok (.iadd, 1) := by decide +kernel
theorem dX1_init_73 : decode cX1_init 73 = .ok (.iastore, 1) := by decide +kernel
theorem dX1_init_74 : decode cX1_init 74 = .ok (.aload_n 0, 1) := by decide +kernel
theorem dX1_init_75 : decode cX1_init 75 = .ok (.getfield 27, 3) := by decide +kernel
theorem dX1_init_78 : decode cX1_init 78 = .ok (.iload_n 1, 1) := by decide +kernel
theorem dX1_init_79 : decode cX1_init 79 = .ok (.iconst 1, 1) := by decide +kernel
theorem dX1_init_80 : decode cX1_init 80 = .ok (.bastore, 1) := by decide +kernel
theorem dX1_init_81 : decode cX1_init 81 = .ok (.iinc 1 1, 3) := by decide +kernel
theorem dX1_init_84 : decode cX1_init 84 = .ok (.goto (-30), 3) := by decide +kernel
theorem dX1_init_87 : decode cX1_init 87 = .ok (.aload_n 0, 1) := by decide +kernel
theorem dX1_init_88 : decode cX1_init 88 = .ok (.iconst 0, 1) := by decide +kernel
theorem dX1_init_89 : decode cX1_init 89 = .ok (.putfield 31, 3) := by decide +kernel
theorem dX1_init_92 : decode cX1_init 92 = .ok (.aload_n 0, 1) := by decide +kernel
theorem dX1_init_93 : decode cX1_init 93 = .ok (.iconst 0, 1) := by decide +kernel
theorem dX1_init_94 : decode cX1_init 94 = .ok (.putfield 35, 3) := by decide +kernel
theorem dX1_init_97 : decode cX1_init 97 = .ok (.return_, 1) := by decide +kernel
theorem dX1_copy_0 : decode cX1_copy 0 = .ok (.iconst 0, 1) := by decide +kernel
theorem dX1_copy_1 : decode cX1_copy 1 = .ok (.istore_n 2, 1) := by decide +kernel
theorem dX1_copy_2 : decode cX1_copy 2 = .ok (.iload_n 2, 1) := by decide +kernel
theorem dX1_copy_3 : decode cX1_copy 3 = .ok (.bipush 12, 2) := by decide +kernel
theorem dX1_copy_5 : decode cX1_copy 5 = .ok (.if_icmp .ge 81, 3) := by decide +kernel
theorem dX1_copy_8 : decode cX1_copy 8 = .ok (.aload_n 0, 1) := by decide +kernel
theorem dX1_copy_9 : decode cX1_copy 9 = .ok (.getfield 9, 3) := by decide +kernel
theorem dX1_copy_12 : decode cX1_copy 12 = .ok (.iload_n 2, 1) := by decide +kernel
theorem dX1_copy_13 : decode cX1_copy 13 = .ok (.aload_n 1, 1) := by decide +kernel
theorem dX1_copy_14 : decode cX1_copy 14 = .ok (.getfield 9, 3) := by decide +kernel
theorem dX1_copy_17 : decode cX1_copy 17 = .ok (.iload_n 2, 1) := by decide +kernel
theorem dX1_copy_18 : decode cX1_copy 18 = .ok (.iaload, 1) := by decide +kernel
theorem dX1_copy_19 : decode cX1_copy 19 = .ok (.iastore, 1) := by decide +kernel
theorem dX1_copy_20 : decode cX1_copy 20 = .ok (.aload_n 0, 1) := by decide +kernel
theorem dX1_copy_21 : decode cX1_copy 21 = .ok (.getfield 15, 3) := by decide +kernel
theorem dX1_copy_24 : decode cX1_copy 24 = .ok (.iload_n 2, 1) := by decide +kernel
theorem dX1_copy_25 : decode cX1_copy 25 = .ok (.aload_n 1, 1) := by decide +kernel
theorem dX1_copy_26 : decode cX1_copy 26 = .ok (.getfield 15, 3) := by decide +kernel
theorem dX1_copy_29 : decode cX1_copy 29 = .ok (.iload_n 2, 1) := by decide +kernel
theorem dX1_copy_30 : decode cX1_copy 30 = .ok (.iaload, 1) := by decide +kernel
theorem dX1_copy_31 : decode cX1_copy 31 = .ok (.iastore, 1) := by decide +kernel
theorem dX1_copy_32 : decode cX1_copy 32 = .ok (.aload_n 0, 1) := by decide +kernel
theorem dX1_copy_33 : decode cX1_copy 33 = .ok (.getfield 18, 3) := by decide +kernel
theorem dX1_copy_36 : decode cX1_copy 36 = .ok (.iload_n 2, 1) := by decide +kernel
theorem dX1_copy_37 : decode cX1_copy 37 = .ok (.aload_n 1, 1) := by decide +kernel
theorem dX1_copy_38 : decode cX1_copy 38 = .ok (.getfield 18, 3) := by decide +kernel
theorem dX1_copy_41 : decode cX1_copy 41 = .ok (.iload_n 2, 1) := by decide +kernel
theorem dX1_copy_42 : decode cX1_copy 42 = .ok (.iaload, 1) := by decide +kernel
theorem dX1_copy_43 : decode cX1_copy 43 = .ok (.iastore, 1) := by decide +kernel
theorem dX1_copy_44 : decode cX1_copy 44 = .ok (.aload_n 0, 1) := by decide +kernel
theorem dX1_copy_45 : decode cX1_copy 45 = .ok (.getfield 21, 3) := by decide +kernel
theorem dX1_copy_48 : decode cX1_copy 48 = .ok (.iload_n 2, 1) := by decide +kernel
theorem dX1_copy_49 : decode cX1_copy 49 = .ok (.aload_n 1, 1) := by decide +kernel
theorem dX1_copy_50 : decode cX1_copy 50 = .ok (.getfield 21, 3) := by decide +kernel
theorem dX1_copy_53 : decode cX1_copy 53 = .ok (.iload_n 2, 1) := by decide +kernel
theorem dX1_copy_54 : decode cX1_copy 54 = .ok (.iaload, 1) := by decide +kernel
theorem dX1_copy_55 : decode cX1_copy 55 = .ok (.iastore, 1) := by decide +kernel
theorem dX1_copy_56 : decode cX1_copy 56 = .ok (.aload_n 0, 1) := by decide +kernel
theorem dX1_copy_57 : decode cX1_copy 57 = .ok (.getfield 24, 3) := by decide +kernel
theorem dX1_copy_60 : decode cX1_copy 60 = .ok (.iload_n 2, 1) := by decide +kernel
theorem dX1_copy_61 : decode cX1_copy 61 = .ok (.aload_n 1, 1) := by decide +kernel
theorem dX1_copy_62 : decode cX1_copy 62 = .ok (.getfield 24, 3) := by decide +kernel
theorem dX1_copy_65 : decode cX1_copy 65 = .ok (.iload_n 2, 1) := by decide +kernel
theorem dX1_copy_66 : decode cX1_copy 66 = .ok (.iaload, 1) := by decide +kernel
theorem dX1_copy_67 : decode cX1_copy 67 = .ok (.iastore, 1) := by decide +kernel
theorem dX1_copy_68 : decode cX1_copy 68 = .ok (.aload_n 0, 1) := by decide +kernel
theorem dX1_copy_69 : decode cX1_copy 69 = .ok (.getfield 27, 3) := by decide +kernel
theorem dX1_copy_72 : decode cX1_copy 72 = .ok (.iload_n 2, 1) := by decide +kernel
theorem dX1_copy_73 : decode cX1_copy 73 = .ok (.aload_n 1, 1) := by decide +kernel
theorem dX1_copy_74 : decode cX1_copy 74 = .ok (.getfield 27, 3) := by decide +kernel
theorem dX1_copy_77 : decode cX1_copy 77 = .ok (.iload_n 2, 1) := by decide +kernel
theorem dX1_copy_78 : decode cX1_copy 78 = .ok (.baload, 1) := by decide +kernel
theorem dX1_copy_79 : decode cX1_copy 79 = .ok (.bastore, 1) := by decide +kernel
theorem dX1_copy_80 : decode cX1_copy 80 = .ok (.iinc 2 1, 3) := by decide +kernel
theorem dX1_copy_83 : decode cX1_copy 83 = .ok (.goto (-81), 3) := by decide +kernel
theorem dX1_copy_86 : decode cX1_copy 86 = .ok (.aload_n 0, 1) := by decide +kernel
theorem dX1_copy_87 : decode cX1_copy 87 = .ok (.aload_n 1, 1) := by decide +kernel
theorem dX1_copy_88 : decode cX1_copy 88 = .ok (.getfield 31, 3) := by decide +kernel
theorem dX1_copy_91 : decode cX1_copy 91 = .ok (.putfield 31, 3) := by decide +kernel
theorem dX1_copy_94 : decode cX1_copy 94 = .ok (.aload_n 0, 1) := by decide +kernel
theorem dX1_copy_95 : decode cX1_copy 95 = .ok (.aload_n 1, 1) := by decide +kernel
theorem dX1_copy_96 : decode cX1_copy 96 = .ok (.getfield 35, 3) := by decide +kernel
theorem dX1_copy_99 : decode cX1_copy 99 = .ok (.putfield 35, 3) := by decide +kernel
theorem dX1_copy_102 : decode cX1_copy 102 = .ok (.return_, 1) := by decide +kernel
theorem dX1_renew_0 : decode cX1_renew 0 = .ok (.aload_n 0, 1) := by decide +kernel
theorem dX1_renew_1 : decode cX1_renew 1 = .ok (.getfield 9, 3) := by decide +kernel
theorem dX1_renew_4 : decode cX1_renew 4 = .ok (.iload_n 1, 1) := by decide +kernel
theorem dX1_renew_5 : decode cX1_renew 5 = .ok (.iload_n 2, 1) := by decide +kernel
theorem dX1_renew_6 : decode cX1_renew 6 = .ok (.iastore, 1) := by decide +kernel
theorem dX1_renew_7 : decode cX1_renew 7 = .ok (.aload_n 0, 1) := by decide +kernel
theorem dX1_renew_8 : decode cX1_renew 8 = .ok (.getfield 18, 3) := by decide +kernel
theorem dX1_renew_11 : decode cX1_renew 11 = .ok (.iload_n 1, 1) := by decide +kernel
theorem dX1_renew_12 : decode cX1_renew 12 = .ok (.iconst 0, 1) := by decide +kernel
theorem dX1_renew_13 : decode cX1_renew 13 = .ok (.iastore, 1) := by decide +kernel
theorem dX1_renew_14 : decode cX1_renew 14 = .ok (.aload_n 0, 1) := by decide +kernel
theorem dX1_renew_15 : decode cX1_renew 15 = .ok (.getfield 21, 3) := by decide +kernel
theorem dX1_renew_18 : decode cX1_renew 18 = .ok (.iload_n 1, 1) := by decide +kernel
theorem dX1_renew_19 : decode cX1_renew 19 = .ok (.iconst 0, 1) := by decide +kernel
theorem dX1_renew_20 : decode cX1_renew 20 = .ok (.iastore, 1) := by decide +kernel
theorem dX1_renew_21 : decode cX1_renew 21 = .ok (.aload_n 0, 1) := by decide +kernel
theorem dX1_renew_22 : decode cX1_renew 22 = .ok (.getfield 27, 3) := by decide +kernel
theorem dX1_renew_25 : decode cX1_renew 25 = .ok (.iload_n 1, 1) := by decide +kernel
theorem dX1_renew_26 : decode cX1_renew 26 = .ok (.iconst 1, 1) := by decide +kernel
theorem dX1_renew_27 : decode cX1_renew 27 = .ok (.bastore, 1) := by decide +kernel
theorem dX1_renew_28 : decode cX1_renew 28 = .ok (.return_, 1) := by decide +kernel
theorem dX1_takesPush_0 : decode cX1_takesPush 0 = .ok (.aload_n 0, 1) := by decide +kernel
theorem dX1_takesPush_1 : decode cX1_takesPush 1 = .ok (.getfield 15, 3) := by decide +kernel
theorem dX1_takesPush_4 : decode cX1_takesPush 4 = .ok (.iload_n 1, 1) := by decide +kernel
theorem dX1_takesPush_5 : decode cX1_takesPush 5 = .ok (.iaload, 1) := by decide +kernel
theorem dX1_takesPush_6 : decode cX1_takesPush 6 = .ok (.iload_n 2, 1) := by decide +kernel
theorem dX1_takesPush_7 : decode cX1_takesPush 7 = .ok (.iadd, 1) := by decide +kernel
theorem dX1_takesPush_8 : decode cX1_takesPush 8 = .ok (.istore_n 3, 1) := by decide +kernel
theorem dX1_takesPush_9 : decode cX1_takesPush 9 = .ok (.iload_n 3, 1) := by decide +kernel
theorem dX1_takesPush_10 : decode cX1_takesPush 10 = .ok (.ifCond .lt 13, 3) := by decide +kernel
theorem dX1_takesPush_13 : decode cX1_takesPush 13 = .ok (.iload_n 3, 1) := by decide +kernel
theorem dX1_takesPush_14 : decode cX1_takesPush 14 = .ok (.bipush 20, 2) := by decide +kernel
theorem dX1_takesPush_16 : decode cX1_takesPush 16 = .ok (.if_icmp .gt 7, 3) := by decide +kernel
theorem dX1_takesPush_19 : decode cX1_takesPush 19 = .ok (.iconst 1, 1) := by decide +kernel
theorem dX1_takesPush_20 : decode cX1_takesPush 20 = .ok (.goto 4, 3) := by decide +kernel
theorem dX1_takesPush_23 : decode cX1_takesPush 23 = .ok (.iconst 0, 1) := by decide +kernel
theorem dX1_takesPush_24 : decode cX1_takesPush 24 = .ok (.ireturn, 1) := by decide +kernel
theorem dX1_toneOf_0 : decode cX1_toneOf 0 = .ok (.aload_n 0, 1) := by decide +kernel
theorem dX1_toneOf_1 : decode cX1_toneOf 1 = .ok (.getfield 27, 3) := by decide +kernel
theorem dX1_toneOf_4 : decode cX1_toneOf 4 = .ok (.iload_n 1, 1) := by decide +kernel
theorem dX1_toneOf_5 : decode cX1_toneOf 5 = .ok (.baload, 1) := by decide +kernel
theorem dX1_toneOf_6 : decode cX1_toneOf 6 = .ok (.ifCond .ne 5, 3) := by decide +kernel
theorem dX1_toneOf_9 : decode cX1_toneOf 9 = .ok (.iconst 0, 1) := by decide +kernel
theorem dX1_toneOf_10 : decode cX1_toneOf 10 = .ok (.ireturn, 1) := by decide +kernel
theorem dX1_toneOf_11 : decode cX1_toneOf 11 = .ok (.iconst 0, 1) := by decide +kernel
theorem dX1_toneOf_12 : decode cX1_toneOf 12 = .ok (.istore_n 2, 1) := by decide +kernel
theorem dX1_toneOf_13 : decode cX1_toneOf 13 = .ok (.iload_n 1, 1) := by decide +kernel
theorem dX1_toneOf_14 : decode cX1_toneOf 14 = .ok (.ifCond .le 14, 3) := by decide +kernel
theorem dX1_toneOf_17 : decode cX1_toneOf 17 = .ok (.iload_n 2, 1) := by decide +kernel
theorem dX1_toneOf_18 : decode cX1_toneOf 18 = .ok (.aload_n 0, 1) := by decide +kernel
theorem dX1_toneOf_19 : decode cX1_toneOf 19 = .ok (.getfield 15, 3) := by decide +kernel
theorem dX1_toneOf_22 : decode cX1_toneOf 22 = .ok (.iload_n 1, 1) := by decide +kernel
theorem dX1_toneOf_23 : decode cX1_toneOf 23 = .ok (.iconst 1, 1) := by decide +kernel
theorem dX1_toneOf_24 : decode cX1_toneOf 24 = .ok (.isub, 1) := by decide +kernel
theorem dX1_toneOf_25 : decode cX1_toneOf 25 = .ok (.iaload, 1) := by decide +kernel
theorem dX1_toneOf_26 : decode cX1_toneOf 26 = .ok (.iadd, 1) := by decide +kernel
theorem dX1_toneOf_27 : decode cX1_toneOf 27 = .ok (.istore_n 2, 1) := by decide +kernel
theorem dX1_toneOf_28 : decode cX1_toneOf 28 = .ok (.iload_n 1, 1) := by decide +kernel
theorem dX1_toneOf_29 : decode cX1_toneOf 29 = .ok (.bipush 11, 2) := by decide +kernel
theorem dX1_toneOf_31 : decode cX1_toneOf 31 = .ok (.if_icmp .ge 14, 3) := by decide +kernel
theorem dX1_toneOf_34 : decode cX1_toneOf 34 = .ok (.iload_n 2, 1) := by decide +kernel
theorem dX1_toneOf_35 : decode cX1_toneOf 35 = .ok (.aload_n 0, 1) := by decide +kernel
theorem dX1_toneOf_36 : decode cX1_toneOf 36 = .ok (.getfield 15, 3) := by decide +kernel
theorem dX1_toneOf_39 : decode cX1_toneOf 39 = .ok (.iload_n 1, 1) := by decide +kernel
theorem dX1_toneOf_40 : decode cX1_toneOf 40 = .ok (.iconst 1, 1) := by decide +kernel
theorem dX1_toneOf_41 : decode cX1_toneOf 41 = .ok (.iadd, 1) := by decide +kernel
theorem dX1_toneOf_42 : decode cX1_toneOf 42 = .ok (.iaload, 1) := by decide +kernel
theorem dX1_toneOf_43 : decode cX1_toneOf 43 = .ok (.iadd, 1) := by decide +kernel
theorem dX1_toneOf_44 : decode cX1_toneOf 44 = .ok (.istore_n 2, 1) := by decide +kernel
theorem dX1_toneOf_45 : decode cX1_toneOf 45 = .ok (.aload_n 0, 1) := by decide +kernel
theorem dX1_toneOf_46 : decode cX1_toneOf 46 = .ok (.getfield 9, 3) := by decide +kernel
theorem dX1_toneOf_49 : decode cX1_toneOf 49 = .ok (.iload_n 1, 1) := by decide +kernel
theorem dX1_toneOf_50 : decode cX1_toneOf 50 = .ok (.iaload, 1) := by decide +kernel
theorem dX1_toneOf_51 : decode cX1_toneOf 51 = .ok (.bipush 10, 2) := by decide +kernel
theorem dX1_toneOf_53 : decode cX1_toneOf 53 = .ok (.aload_n 0, 1) := by decide +kernel
theorem dX1_toneOf_54 : decode cX1_toneOf 54 = .ok (.getfield 15, 3) := by decide +kernel
theorem dX1_toneOf_57 : decode cX1_toneOf 57 = .ok (.iload_n 1, 1) := by decide +kernel
theorem dX1_toneOf_58 : decode cX1_toneOf 58 = .ok (.iaload, 1) := by decide +kernel
theorem dX1_toneOf_59 : decode cX1_toneOf 59 = .ok (.imul, 1) := by decide +kernel
theorem dX1_toneOf_60 : decode cX1_toneOf 60 = .ok (.iadd, 1) := by decide +kernel
theorem dX1_toneOf_61 : decode cX1_toneOf 61 = .ok (.iconst 3, 1) := by decide +kernel
theorem dX1_toneOf_62 : decode cX1_toneOf 62 = .ok (.iload_n 2, 1) := by decide +kernel
theorem dX1_toneOf_63 : decode cX1_toneOf 63 = .ok (.imul, 1) := by decide +kernel
theorem dX1_toneOf_64 : decode cX1_toneOf 64 = .ok (.iadd, 1) := by decide +kernel
theorem dX1_toneOf_65 : decode cX1_toneOf 65 = .ok (.aload_n 0, 1) := by decide +kernel
theorem dX1_toneOf_66 : decode cX1_toneOf 66 = .ok (.getfield 18, 3) := by decide +kernel
theorem dX1_toneOf_69 : decode cX1_toneOf 69 = .ok (.iload_n 1, 1) := by decide +kernel
theorem dX1_toneOf_70 : decode cX1_toneOf 70 = .ok (.iaload, 1) := by decide +kernel
theorem dX1_toneOf_71 : decode cX1_toneOf 71 = .ok (.iadd, 1) := by decide +kernel
theorem dX1_toneOf_72 : decode cX1_toneOf 72 = .ok (.aload_n 0, 1) := by decide +kernel
theorem dX1_toneOf_73 : decode cX1_toneOf 73 = .ok (.getfield 31, 3) := by decide +kernel
theorem dX1_toneOf_76 : decode cX1_toneOf 76 = .ok (.isub, 1) := by decide +kernel
theorem dX1_toneOf_77 : decode cX1_toneOf 77 = .ok (.ireturn, 1) := by decide +kernel
set_option maxRecDepth 20000 in
theorem ggX1_factOf_X1_toneOf : GoodIn wsX1_factOf wsX1_toneOf := goodIn_r _ [11, 5, 2, 1, 3, 12, 13, 14, 15, 16, 17, 18, 19, 20] (by decide +kernel) (by decide +kernel)
set_option maxRecDepth 20000 in
theorem gX1_factOf_X1_toneOf : GoodIn wsX1_factOf (wsV RX1 38 RX1 yX1_toneOf wsX1_toneOf) := goodIn_app (goodIn_of _ (by decide +kernel)) ggX1_factOf_X1_toneOf
theorem dX1_factOf_0 : decode cX1_factOf 0 = .ok (.iload_n 2, 1) := by decide +kernel
theorem dX1_factOf_1 : decode cX1_factOf 1 = .ok (.tableswitch 88 0 5 #[39, 46, 53, 60, 67, 82], 39) := by decide +kernel
theorem dX1_factOf_40 : decode cX1_factOf 40 = .ok (.aload_n 0, 1) := by decide +kernel
theorem dX1_factOf_41 : decode cX1_factOf 41 = .ok (.getfield 9, 3) := by decide +kernel
theorem dX1_factOf_44 : decode cX1_factOf 44 = .ok (.iload_n 1, 1) := by decide +kernel
theorem dX1_factOf_45 : decode cX1_factOf 45 = .ok (.iaload, 1) := by decide +kernel
theorem dX1_factOf_46 : decode cX1_factOf 46 = .ok (.ireturn, 1) := by decide +kernel
theorem dX1_factOf_47 : decode cX1_factOf 47 = .ok (.aload_n 0, 1) := by decide +kernel
theorem dX1_factOf_48 : decode cX1_factOf 48 = .ok (.getfield 15, 3) := by decide +kernel
theorem dX1_factOf_51 : decode cX1_factOf 51 = .ok (.iload_n 1, 1) := by decide +kernel
theorem dX1_factOf_52 : decode cX1_factOf 52 = .ok (.iaload, 1) := by decide +kernel
theorem dX1_factOf_53 : decode cX1_factOf 53 = .ok (.ireturn, 1) := by decide +kernel
theorem dX1_factOf_54 : decode cX1_factOf 54 = .ok (.aload_n 0, 1) := by decide +kernel
theorem dX1_factOf_55 : decode cX1_factOf 55 = .ok (.getfield 18, 3) := by decide +kernel
theorem dX1_factOf_58 : decode cX1_factOf 58 = .ok (.iload_n 1, 1) := by decide +kernel
theorem dX1_factOf_59 : decode cX1_factOf 59 = .ok (.iaload, 1) := by decide +kernel
theorem dX1_factOf_60 : decode cX1_factOf 60 = .ok (.ireturn, 1) := by decide +kernel
theorem dX1_factOf_61 : decode cX1_factOf 61 = .ok (.aload_n 0, 1) := by decide +kernel
theorem dX1_factOf_62 : decode cX1_factOf 62 = .ok (.getfield 21, 3) := by decide +kernel
theorem dX1_factOf_65 : decode cX1_factOf 65 = .ok (.iload_n 1, 1) := by decide +kernel
theorem dX1_factOf_66 : decode cX1_factOf 66 = .ok (.iaload, 1) := by decide +kernel
theorem dX1_factOf_67 : decode cX1_factOf 67 = .ok (.ireturn, 1) := by decide +kernel
theorem dX1_factOf_68 : decode cX1_factOf 68 = .ok (.aload_n 0, 1) := by decide +kernel
theorem dX1_factOf_69 : decode cX1_factOf 69 = .ok (.getfield 27, 3) := by decide +kernel
theorem dX1_factOf_72 : decode cX1_factOf 72 = .ok (.iload_n 1, 1) := by decide +kernel
theorem dX1_factOf_73 : decode cX1_factOf 73 = .ok (.baload, 1) := by decide +kernel
theorem dX1_factOf_74 : decode cX1_factOf 74 = .ok (.ifCond .eq 7, 3) := by decide +kernel
theorem dX1_factOf_77 : decode cX1_factOf 77 = .ok (.iconst 1, 1) := by decide +kernel
theorem dX1_factOf_78 : decode cX1_factOf 78 = .ok (.goto 4, 3) := by decide +kernel
theorem dX1_factOf_81 : decode cX1_factOf 81 = .ok (.iconst 0, 1) := by decide +kernel
theorem dX1_factOf_82 : decode cX1_factOf 82 = .ok (.ireturn, 1) := by decide +kernel
theorem dX1_factOf_83 : decode cX1_factOf 83 = .ok (.aload_n 0, 1) := by decide +kernel
theorem dX1_factOf_84 : decode cX1_factOf 84 = .ok (.iload_n 1, 1) := by decide +kernel
theorem dX1_factOf_85 : decode cX1_factOf 85 = .ok (.invokevirtual 38, 3) := by decide +kernel
theorem dX1_factOf_88 : decode cX1_factOf 88 = .ok (.ireturn, 1) := by decide +kernel
theorem dX1_factOf_89 : decode cX1_factOf 89 = .ok (.aload_n 0, 1) := by decide +kernel
theorem dX1_factOf_90 : decode cX1_factOf 90 = .ok (.getfield 24, 3) := by decide +kernel
theorem dX1_factOf_93 : decode cX1_factOf 93 = .ok (.iload_n 1, 1) := by decide +kernel
theorem dX1_factOf_94 : decode cX1_factOf 94 = .ok (.iaload, 1) := by decide +kernel
theorem dX1_factOf_95 : decode cX1_factOf 95 = .ok (.ireturn, 1) := by decide +kernel
theorem dX1_wholeStrings_0 : decode cX1_wholeStrings 0 = .ok (.iconst 0, 1) := by decide +kernel
theorem dX1_wholeStrings_1 : decode cX1_wholeStrings 1 = .ok (.istore_n 1, 1) := by decide +kernel
theorem dX1_wholeStrings_2 : decode cX1_wholeStrings 2 = .ok (.iconst 0, 1) := by decide +kernel
theorem dX1_wholeStrings_3 : decode cX1_wholeStrings 3 = .ok (.istore_n 2, 1) := by decide +kernel
theorem dX1_wholeStrings_4 : decode cX1_wholeStrings 4 = .ok (.iload_n 2, 1) := by decide +kernel
theorem dX1_wholeStrings_5 : decode cX1_wholeStrings 5 = .ok (.bipush 12, 2) := by decide +kernel
theorem dX1_wholeStrings_7 : decode cX1_wholeStrings 7 = .ok (.if_icmp .ge 21, 3) := by decide +kernel
theorem dX1_wholeStrings_10 : decode cX1_wholeStrings 10 = .ok (.aload_n 0, 1) := by decide +kernel
theorem dX1_wholeStrings_11 : decode cX1_wholeStrings 11 = .ok (.getfield 27, 3) := by decide +kernel
theorem dX1_wholeStrings_14 : decode cX1_wholeStrings 14 = .ok (.iload_n 2, 1) := by decide +kernel
theorem dX1_wholeStrings_15 : decode cX1_wholeStrings 15 = .ok (.baload, 1) := by decide +kernel
theorem dX1_wholeStrings_16 : decode cX1_wholeStrings 16 = .ok (.ifCond .eq 6, 3) := by decide +kernel
theorem dX1_wholeStrings_19 : decode cX1_wholeStrings 19 = .ok (.iinc 1 1, 3) := by decide +kernel
theorem dX1_wholeStrings_22 : decode cX1_wholeStrings 22 = .ok (.iinc 2 1, 3) := by decide +kernel
theorem dX1_wholeStrings_25 : decode cX1_wholeStrings 25 = .ok (.goto (-21), 3) := by decide +kernel
theorem dX1_wholeStrings_28 : decode cX1_wholeStrings 28 = .ok (.iload_n 1, 1) := by decide +kernel
theorem dX1_wholeStrings_29 : decode cX1_wholeStrings 29 = .ok (.ireturn, 1) := by decide +kernel
set_option maxRecDepth 20000 in
theorem ggX1_sumOfTones_X1_toneOf : GoodIn wsX1_sumOfTones wsX1_toneOf := goodIn_r _ [5, 6, 7, 8, 9, 10, 11, 12, 13, 14, 15, 16, 17, 18] (by decide +kernel) (by decide +kernel)
set_option maxRecDepth 20000 in
theorem gX1_sumOfTones_X1_toneOf : GoodIn wsX1_sumOfTones (wsV RX1 38 RX1 yX1_toneOf wsX1_toneOf) := goodIn_app (goodIn_of _ (by decide +kernel)) ggX1_sumOfTones_X1_toneOf
theorem dX1_sumOfTones_0 : decode cX1_sumOfTones 0 = .ok (.iconst 0, 1) := by decide +kernel
theorem dX1_sumOfTones_1 : decode cX1_sumOfTones 1 = .ok (.istore_n 1, 1) := by decide +kernel
theorem dX1_sumOfTones_2 : decode cX1_sumOfTones 2 = .ok (.iconst 0, 1) := by decide +kernel
theorem dX1_sumOfTones_3 : decode cX1_sumOfTones 3 = .ok (.istore_n 2, 1) := by decide +kernel
theorem dX1_sumOfTones_4 : decode cX1_sumOfTones 4 = .ok (.iload_n 2, 1) := by decide +kernel
theorem dX1_sumOfTones_5 : decode cX1_sumOfTones 5 = .ok (.bipush 12, 2) := by decide +kernel
theorem dX1_sumOfTones_7 : decode cX1_sumOfTones 7 = .ok (.if_icmp .ge 17, 3) := by decide +kernel
theorem dX1_sumOfTones_10 : decode cX1_sumOfTones 10 = .ok (.iload_n 1, 1) := by decide +kernel
theorem dX1_sumOfTones_11 : decode cX1_sumOfTones 11 = .ok (.aload_n 0, 1) := by decide +kernel
theorem dX1_sumOfTones_12 : decode cX1_sumOfTones 12 = .ok (.iload_n 2, 1) := by decide +kernel
theorem dX1_sumOfTones_13 : decode cX1_sumOfTones 13 = .ok (.invokevirtual 38, 3) := by decide +kernel
theorem dX1_sumOfTones_16 : decode cX1_sumOfTones 16 = .ok (.iadd, 1) := by decide +kernel
theorem dX1_sumOfTones_17 : decode cX1_sumOfTones 17 = .ok (.istore_n 1, 1) := by decide +kernel
theorem dX1_sumOfTones_18 : decode cX1_sumOfTones 18 = .ok (.iinc 2 1, 3) := by decide +kernel
theorem dX1_sumOfTones_21 : decode cX1_sumOfTones 21 = .ok (.goto (-17), 3) := by decide +kernel
theorem dX1_sumOfTones_24 : decode cX1_sumOfTones 24 = .ok (.iload_n 1, 1) := by decide +kernel
theorem dX1_sumOfTones_25 : decode cX1_sumOfTones 25 = .ok (.ireturn, 1) := by decide +kernel
set_option maxRecDepth 20000 in
theorem ggX1_distanceFrom_X1_toneOf : GoodIn wsX1_distanceFrom wsX1_toneOf := goodIn_r _ [12, 13, 14, 15, 16, 17, 21, 22, 23, 24, 25, 26, 27, 28] (by decide +kernel) (by decide +kernel)
set_option maxRecDepth 20000 in
theorem gX1_distanceFrom_X1_toneOf : GoodIn wsX1_distanceFrom (wsV RX1 38 RX1 yX1_toneOf wsX1_toneOf) := goodIn_app (goodIn_of _ (by decide +kernel)) ggX1_distanceFrom_X1_toneOf
theorem dX1_distanceFrom_0 : decode cX1_distanceFrom 0 = .ok (.iconst 0, 1) := by decide +kernel
theorem dX1_distanceFrom_1 : decode cX1_distanceFrom 1 = .ok (.istore_n 2, 1) := by decide +kernel
theorem dX1_distanceFrom_2 : decode cX1_distanceFrom 2 = .ok (.iconst 0, 1) := by decide +kernel
theorem dX1_distanceFrom_3 : decode cX1_distanceFrom 3 = .ok (.istore_n 3, 1) := by decide +kernel
theorem dX1_distanceFrom_4 : decode cX1_distanceFrom 4 = .ok (.iload_n 3, 1) := by decide +kernel
theorem dX1_distanceFrom_5 : decode cX1_distanceFrom 5 = .ok (.aload_n 1, 1) := by decide +kernel
theorem dX1_distanceFrom_6 : decode cX1_distanceFrom 6 = .ok (.getfield 42, 3) := by decide +kernel
theorem dX1_distanceFrom_9 : decode cX1_distanceFrom 9 = .ok (.if_icmp .ge 32, 3) := by decide +kernel
theorem dX1_distanceFrom_12 : decode cX1_distanceFrom 12 = .ok (.iload_n 2, 1) := by decide +kernel
theorem dX1_distanceFrom_13 : decode cX1_distanceFrom 13 = .ok (.aload_n 0, 1) := by decide +kernel
theorem dX1_distanceFrom_14 : decode cX1_distanceFrom 14 = .ok (.aload_n 1, 1) := by decide +kernel
theorem dX1_distanceFrom_15 : decode cX1_distanceFrom 15 = .ok (.getfield 47, 3) := by decide +kernel
theorem dX1_distanceFrom_18 : decode cX1_distanceFrom 18 = .ok (.iload_n 3, 1) := by decide +kernel
theorem dX1_distanceFrom_19 : decode cX1_distanceFrom 19 = .ok (.iadd, 1) := by decide +kernel
theorem dX1_distanceFrom_20 : decode cX1_distanceFrom 20 = .ok (.invokevirtual 38, 3) := by decide +kernel
theorem dX1_distanceFrom_23 : decode cX1_distanceFrom 23 = .ok (.aload_n 1, 1) := by decide +kernel
theorem dX1_distanceFrom_24 : decode cX1_distanceFrom 24 = .ok (.getfield 50, 3) := by decide +kernel
theorem dX1_distanceFrom_27 : decode cX1_distanceFrom 27 = .ok (.iload_n 3, 1) := by decide +kernel
theorem dX1_distanceFrom_28 : decode cX1_distanceFrom 28 = .ok (.iaload, 1) := by decide +kernel
theorem dX1_distanceFrom_29 : decode cX1_distanceFrom 29 = .ok (.isub, 1) := by decide +kernel
theorem dX1_distanceFrom_30 : decode cX1_distanceFrom 30 = .ok (.invokestatic 53, 3) := by decide +kernel
theorem dX1_distanceFrom_33 : decode cX1_distanceFrom 33 = .ok (.iadd, 1) := by decide +kernel
theorem dX1_distanceFrom_34 : decode cX1_distanceFrom 34 = .ok (.istore_n 2, 1) := by decide +kernel
theorem dX1_distanceFrom_35 : decode cX1_distanceFrom 35 = .ok (.iinc 3 1, 3) := by decide +kernel
theorem dX1_distanceFrom_38 : decode cX1_distanceFrom 38 = .ok (.goto (-34), 3) := by decide +kernel
theorem dX1_distanceFrom_41 : decode cX1_distanceFrom 41 = .ok (.iload_n 2, 1) := by decide +kernel
theorem dX1_distanceFrom_42 : decode cX1_distanceFrom 42 = .ok (.ireturn, 1) := by decide +kernel
set_option maxRecDepth 20000 in
theorem ggX1_isTunedTo_X1_fitsPushed : GoodIn wsX1_isTunedTo wsX1_fitsPushed := goodIn_r _ [6, 7, 8, 9, 10, 11, 12, 13, 14, 15, 16, 5, 17, 18, 19, 20, 21, 22, 23, 24, 25, 26, 27, 28, 29, 30, 31, 32] (by decide +kernel) (by decide +kernel)
set_option maxRecDepth 20000 in
theorem gX1_isTunedTo_X1_fitsPushed : GoodIn wsX1_isTunedTo (wsV RX1 58 RX1 yX1_fitsPushed wsX1_fitsPushed) := goodIn_app (goodIn_of _ (by decide +kernel)) ggX1_isTunedTo_X1_fitsPushed
theorem dX1_isTunedTo_0 : decode cX1_isTunedTo 0 = .ok (.iconst 0, 1) := by decide +kernel
theorem dX1_isTunedTo_1 : decode cX1_isTunedTo 1 = .ok (.istore_n 2, 1) := by decide +kernel
theorem dX1_isTunedTo_2 : decode cX1_isTunedTo 2 = .ok (.iload_n 2, 1) := by decide +kernel
theorem dX1_isTunedTo_3 : decode cX1_isTunedTo 3 = .ok (.aload_n 1, 1) := by decide +kernel
theorem dX1_isTunedTo_4 : decode cX1_isTunedTo 4 = .ok (.getfield 42, 3) := by decide +kernel
theorem dX1_isTunedTo_7 : decode cX1_isTunedTo 7 = .ok (.if_icmp .ge 22, 3) := by decide +kernel
theorem dX1_isTunedTo_10 : decode cX1_isTunedTo 10 = .ok (.aload_n 0, 1) := by decide +kernel
theorem dX1_isTunedTo_11 : decode cX1_isTunedTo 11 = .ok (.aload_n 1, 1) := by decide +kernel
theorem dX1_isTunedTo_12 : decode cX1_isTunedTo 12 = .ok (.iload_n 2, 1) := by decide +kernel
theorem dX1_isTunedTo_13 : decode cX1_isTunedTo 13 = .ok (.iconst 0, 1) := by decide +kernel
theorem dX1_isTunedTo_14 : decode cX1_isTunedTo 14 = .ok (.iconst 0, 1) := by decide +kernel
theorem dX1_isTunedTo_15 : decode cX1_isTunedTo 15 = .ok (.invokevirtual 58, 3) := by decide +kernel
theorem dX1_isTunedTo_18 : decode cX1_isTunedTo 18 = .ok (.ifCond .ne 5, 3) := by decide +kernel
theorem dX1_isTunedTo_21 : decode cX1_isTunedTo 21 = .ok (.iconst 0, 1) := by decide +kernel
theorem dX1_isTunedTo_22 : decode cX1_isTunedTo 22 = .ok (.ireturn, 1) := by decide +kernel
theorem dX1_isTunedTo_23 : decode cX1_isTunedTo 23 = .ok (.iinc 2 1, 3) := by decide +kernel
theorem dX1_isTunedTo_26 : decode cX1_isTunedTo 26 = .ok (.goto (-24), 3) := by decide +kernel
theorem dX1_isTunedTo_29 : decode cX1_isTunedTo 29 = .ok (.iconst 1, 1) := by decide +kernel
theorem dX1_isTunedTo_30 : decode cX1_isTunedTo 30 = .ok (.ireturn, 1) := by decide +kernel
set_option maxRecDepth 20000 in
theorem ggX1_fitsPushed_X1_toneOf : GoodIn wsX1_fitsPushed wsX1_toneOf := goodIn_r _ [12, 2, 13, 14, 15, 16, 20, 21, 22, 23, 24, 25, 26, 27] (by decide +kernel) (by decide +kernel)
set_option maxRecDepth 20000 in
theorem gX1_fitsPushed_X1_toneOf : GoodIn wsX1_fitsPushed (wsV RX1 38 RX1 yX1_toneOf wsX1_toneOf) := goodIn_app (goodIn_of _ (by decide +kernel)) ggX1_fitsPushed_X1_toneOf
theorem dX1_fitsPushed_0 : decode cX1_fitsPushed 0 = .ok (.aload_n 1, 1) := by decide +kernel
theorem dX1_fitsPushed_1 : decode cX1_fitsPushed 1 = .ok (.getfield 47, 3) := by decide +kernel
theorem dX1_fitsPushed_4 : decode cX1_fitsPushed 4 = .ok (.iload_n 2, 1) := by decide +kernel
theorem dX1_fitsPushed_5 : decode cX1_fitsPushed 5 = .ok (.iadd, 1) := by decide +kernel
theorem dX1_fitsPushed_6 : decode cX1_fitsPushed 6 = .ok (.istore 5, 2) := by decide +kernel
theorem dX1_fitsPushed_8 : decode cX1_fitsPushed 8 = .ok (.aload_n 0, 1) := by decide +kernel
theorem dX1_fitsPushed_9 : decode cX1_fitsPushed 9 = .ok (.iload 5, 2) := by decide +kernel
theorem dX1_fitsPushed_11 : decode cX1_fitsPushed 11 = .ok (.invokevirtual 38, 3) := by decide +kernel
theorem dX1_fitsPushed_14 : decode cX1_fitsPushed 14 = .ok (.bipush 10, 2) := by decide +kernel
theorem dX1_fitsPushed_16 : decode cX1_fitsPushed 16 = .ok (.iload_n 3, 1) := by decide +kernel
theorem dX1_fitsPushed_17 : decode cX1_fitsPushed 17 = .ok (.imul, 1) := by decide +kernel
theorem dX1_fitsPushed_18 : decode cX1_fitsPushed 18 = .ok (.iadd, 1) := by decide +kernel
theorem dX1_fitsPushed_19 : decode cX1_fitsPushed 19 = .ok (.iconst 3, 1) := by decide +kernel
theorem dX1_fitsPushed_20 : decode cX1_fitsPushed 20 = .ok (.iload 4, 2) := by decide +kernel
theorem dX1_fitsPushed_22 : decode cX1_fitsPushed 22 = .ok (.imul, 1) := by decide +kernel
theorem dX1_fitsPushed_23 : decode cX1_fitsPushed 23 = .ok (.iadd, 1) := by decide +kernel
theorem dX1_fitsPushed_24 : decode cX1_fitsPushed 24 = .ok (.istore 6, 2) := by decide +kernel
theorem dX1_fitsPushed_26 : decode cX1_fitsPushed 26 = .ok (.aload_n 0, 1) := by decide +kernel
theorem dX1_fitsPushed_27 : decode cX1_fitsPushed 27 = .ok (.getfield 27, 3) := by decide +kernel
theorem dX1_fitsPushed_30 : decode cX1_fitsPushed 30 = .ok (.iload 5, 2) := by decide +kernel
theorem dX1_fitsPushed_32 : decode cX1_fitsPushed 32 = .ok (.baload, 1) := by decide +kernel
theorem dX1_fitsPushed_33 : decode cX1_fitsPushed 33 = .ok (.ifCond .eq 23, 3) := by decide +kernel
theorem dX1_fitsPushed_36 : decode cX1_fitsPushed 36 = .ok (.iload 6, 2) := by decide +kernel
theorem dX1_fitsPushed_38 : decode cX1_fitsPushed 38 = .ok (.aload_n 1, 1) := by decide +kernel
theorem dX1_fitsPushed_39 : decode cX1_fitsPushed 39 = .ok (.getfield 50, 3) := by decide +kernel
theorem dX1_fitsPushed_42 : decode cX1_fitsPushed 42 = .ok (.iload_n 2, 1) := by decide +kernel
theorem dX1_fitsPushed_43 : decode cX1_fitsPushed 43 = .ok (.iaload, 1) := by decide +kernel
theorem dX1_fitsPushed_44 : decode cX1_fitsPushed 44 = .ok (.isub, 1) := by decide +kernel
theorem dX1_fitsPushed_45 : decode cX1_fitsPushed 45 = .ok (.invokestatic 53, 3) := by decide +kernel
theorem dX1_fitsPushed_48 : decode cX1_fitsPushed 48 = .ok (.iconst 5, 1) := by decide +kernel
theorem dX1_fitsPushed_49 : decode cX1_fitsPushed 49 = .ok (.if_icmp .gt 7, 3) := by decide +kernel
theorem dX1_fitsPushed_52 : decode cX1_fitsPushed 52 = .ok (.iconst 1, 1) := by decide +kernel
theorem dX1_fitsPushed_53 : decode cX1_fitsPushed 53 = .ok (.goto 4, 3) := by decide +kernel
theorem dX1_fitsPushed_56 : decode cX1_fitsPushed 56 = .ok (.iconst 0, 1) := by decide +kernel
theorem dX1_fitsPushed_57 : decode cX1_fitsPushed 57 = .ok (.ireturn, 1) := by decide +kernel
set_option maxRecDepth 20000 in
theorem ggX1_hourOfTable_J9_floorMod_7cf53 : GoodIn wsX1_hourOfTable wsJ9_floorMod_7cf53 := goodIn_r _ [5] (by decide +kernel) (by decide +kernel)
set_option maxRecDepth 20000 in
theorem gX1_hourOfTable_J9_floorMod_7cf53 : GoodIn wsX1_hourOfTable (va_wsS RX1 62 yJ9_floorMod_7cf53 wsJ9_floorMod_7cf53) := goodIn_app (goodIn_of _ (by decide +kernel)) ggX1_hourOfTable_J9_floorMod_7cf53
theorem dX1_hourOfTable_0 : decode cX1_hourOfTable 0 = .ok (.aload_n 0, 1) := by decide +kernel
theorem dX1_hourOfTable_1 : decode cX1_hourOfTable 1 = .ok (.getfield 35, 3) := by decide +kernel
theorem dX1_hourOfTable_4 : decode cX1_hourOfTable 4 = .ok (.bipush 12, 2) := by decide +kernel
theorem dX1_hourOfTable_6 : decode cX1_hourOfTable 6 = .ok (.invokestatic 62, 3) := by decide +kernel
theorem dX1_hourOfTable_9 : decode cX1_hourOfTable 9 = .ok (.ireturn, 1) := by decide +kernel
set_option maxRecDepth 20000 in
theorem ggX1_spendHour_X1_breaksIn : GoodIn wsX1_spendHour wsX1_breaksIn := goodIn_r _ [7, 8, 9, 10, 11, 12, 1, 13, 14, 15, 16, 17, 6, 18, 19, 20, 21, 33, 34, 35, 36, 37, 38, 39, 40] (by decide +kernel) (by decide +kernel)
set_option maxRecDepth 20000 in
theorem gX1_spendHour_X1_breaksIn : GoodIn wsX1_spendHour (wsV RX1 66 RX1 yX1_breaksIn wsX1_breaksIn) := goodIn_app (goodIn_of _ (by decide +kernel)) ggX1_spendHour_X1_breaksIn
set_option maxRecDepth 20000 in
theorem ggX1_spendHour_X1_slip : GoodIn wsX1_spendHour wsX1_slip := goodIn_r _ [25, 8, 13, 9, 10, 11, 12, 26, 27, 28, 33, 34, 35, 36, 37, 38, 39, 40] (by decide +kernel) (by decide +kernel)
set_option maxRecDepth 20000 in
theorem gX1_spendHour_X1_slip : GoodIn wsX1_spendHour (wsV RX1 70 RX1 yX1_slip wsX1_slip) := goodIn_app (goodIn_of _ (by decide +kernel)) ggX1_spendHour_X1_slip
set_option maxRecDepth 20000 in
theorem ggX1_spendHour_X1_swell : GoodIn wsX1_spendHour wsX1_swell := goodIn_r _ [32, 21, 26, 27, 11, 28, 9, 10, 12, 33, 34, 35, 36, 37, 38, 39, 40] (by decide +kernel) (by decide +kernel)
set_option maxRecDepth 20000 in
theorem gX1_spendHour_X1_swell : GoodIn wsX1_spendHour (wsV RX1 74 RX1 yX1_swell wsX1_swell) := goodIn_app (goodIn_of _ (by decide +kernel)) ggX1_spendHour_X1_swell
theorem dX1_spendHour_0 : decode cX1_spendHour 0 = .ok (.iconst 0, 1) := by decide +kernel
theorem dX1_spendHour_1 : decode cX1_spendHour 1 = .ok (.istore 5, 2) := by decide +kernel
theorem dX1_spendHour_3 : decode cX1_spendHour 3 = .ok (.iload_n 1, 1) := by decide +kernel
theorem dX1_spendHour_4 : decode cX1_spendHour 4 = .ok (.istore 6, 2) := by decide +kernel
theorem dX1_spendHour_6 : decode cX1_spendHour 6 = .ok (.iload 6, 2) := by decide +kernel
theorem dX1_spendHour_8 : decode cX1_spendHour 8 = .ok (.iload_n 2, 1) := by decide +kernel
theorem dX1_spendHour_9 : decode cX1_spendHour 9 = .ok (.if_icmp .ge 53, 3) := by decide +kernel
theorem dX1_spendHour_12 : decode cX1_spendHour 12 = .ok (.aload_n 0, 1) := by decide +kernel
theorem dX1_spendHour_13 : decode cX1_spendHour 13 = .ok (.getfield 27, 3) := by decide +kernel
theorem dX1_spendHour_16 : decode cX1_spendHour 16 = .ok (.iload 6, 2) := by decide +kernel
theorem dX1_spendHour_18 : decode cX1_spendHour 18 = .ok (.baload, 1) := by decide +kernel
theorem dX1_spendHour_19 : decode cX1_spendHour 19 = .ok (.ifCond .eq 19, 3) := by decide +kernel
theorem dX1_spendHour_22 : decode cX1_spendHour 22 = .ok (.aload_n 0, 1) := by decide +kernel
theorem dX1_spendHour_23 : decode cX1_spendHour 23 = .ok (.iload 6, 2) := by decide +kernel
theorem dX1_spendHour_25 : decode cX1_spendHour 25 = .ok (.iload_n 3, 1) := by decide +kernel
theorem dX1_spendHour_26 : decode cX1_spendHour 26 = .ok (.invokevirtual 66, 3) := by decide +kernel
theorem dX1_spendHour_29 : decode cX1_spendHour 29 = .ok (.ifCond .eq 9, 3) := by decide +kernel
theorem dX1_spendHour_32 : decode cX1_spendHour 32 = .ok (.iinc 5 1, 3) := by decide +kernel
theorem dX1_spendHour_35 : decode cX1_spendHour 35 = .ok (.goto 21, 3) := by decide +kernel
theorem dX1_spendHour_38 : decode cX1_spendHour 38 = .ok (.aload_n 0, 1) := by decide +kernel
theorem dX1_spendHour_39 : decode cX1_spendHour 39 = .ok (.getfield 27, 3) := by decide +kernel
theorem dX1_spendHour_42 : decode cX1_spendHour 42 = .ok (.iload 6, 2) := by decide +kernel
theorem dX1_spendHour_44 : decode cX1_spendHour 44 = .ok (.baload, 1) := by decide +kernel
theorem dX1_spendHour_45 : decode cX1_spendHour 45 = .ok (.ifCond .eq 11, 3) := by decide +kernel
theorem dX1_spendHour_48 : decode cX1_spendHour 48 = .ok (.aload_n 0, 1) := by decide +kernel
theorem dX1_spendHour_49 : decode cX1_spendHour 49 = .ok (.iload 6, 2) := by decide +kernel
theorem dX1_spendHour_51 : decode cX1_spendHour 51 = .ok (.iload 4, 2) := by decide +kernel
theorem dX1_spendHour_53 : decode cX1_spendHour 53 = .ok (.invokevirtual 70, 3) := by decide +kernel
theorem dX1_spendHour_56 : decode cX1_spendHour 56 = .ok (.iinc 6 1, 3) := by decide +kernel
theorem dX1_spendHour_59 : decode cX1_spendHour 59 = .ok (.goto (-53), 3) := by decide +kernel
theorem dX1_spendHour_62 : decode cX1_spendHour 62 = .ok (.aload_n 0, 1) := by decide +kernel
theorem dX1_spendHour_63 : decode cX1_spendHour 63 = .ok (.iload 4, 2) := by decide +kernel
theorem dX1_spendHour_65 : decode cX1_spendHour 65 = .ok (.invokevirtual 74, 3) := by decide +kernel
theorem dX1_spendHour_68 : decode cX1_spendHour 68 = .ok (.aload_n 0, 1) := by decide +kernel
theorem dX1_spendHour_69 : decode cX1_spendHour 69 = .ok (.dup, 1) := by decide +kernel
theorem dX1_spendHour_70 : decode cX1_spendHour 70 = .ok (.getfield 35, 3) := by decide +kernel
theorem dX1_spendHour_73 : decode cX1_spendHour 73 = .ok (.iconst 1, 1) := by decide +kernel
theorem dX1_spendHour_74 : decode cX1_spendHour 74 = .ok (.iadd, 1) := by decide +kernel
theorem dX1_spendHour_75 : decode cX1_spendHour 75 = .ok (.putfield 35, 3) := by decide +kernel
theorem dX1_spendHour_78 : decode cX1_spendHour 78 = .ok (.iload 5, 2) := by decide +kernel
theorem dX1_spendHour_80 : decode cX1_spendHour 80 = .ok (.ireturn, 1) := by decide +kernel
set_option maxRecDepth 20000 in
theorem ggX1_breaksIn_X1_toneOf : GoodIn wsX1_breaksIn wsX1_toneOf := goodIn_r _ [13, 6, 14, 15, 7, 16, 17, 18, 19, 20, 21, 22, 23, 24] (by decide +kernel) (by decide +kernel)
set_option maxRecDepth 20000 in
theorem gX1_breaksIn_X1_toneOf : GoodIn wsX1_breaksIn (wsV RX1 38 RX1 yX1_toneOf wsX1_toneOf) := goodIn_app (goodIn_of _ (by decide +kernel)) ggX1_breaksIn_X1_toneOf
theorem dX1_breaksIn_0 : decode cX1_breaksIn 0 = .ok (.iconst 0, 1) := by decide +kernel
theorem dX1_breaksIn_1 : decode cX1_breaksIn 1 = .ok (.aload_n 0, 1) := by decide +kernel
theorem dX1_breaksIn_2 : decode cX1_breaksIn 2 = .ok (.getfield 21, 3) := by decide +kernel
theorem dX1_breaksIn_5 : decode cX1_breaksIn 5 = .ok (.iload_n 1, 1) := by decide +kernel
theorem dX1_breaksIn_6 : decode cX1_breaksIn 6 = .ok (.iaload, 1) := by decide +kernel
theorem dX1_breaksIn_7 : decode cX1_breaksIn 7 = .ok (.iload_n 2, 1) := by decide +kernel
theorem dX1_breaksIn_8 : decode cX1_breaksIn 8 = .ok (.aload_n 0, 1) := by decide +kernel
theorem dX1_breaksIn_9 : decode cX1_breaksIn 9 = .ok (.iload_n 1, 1) := by decide +kernel
theorem dX1_breaksIn_10 : decode cX1_breaksIn 10 = .ok (.invokevirtual 38, 3) := by decide +kernel
theorem dX1_breaksIn_13 : decode cX1_breaksIn 13 = .ok (.imul, 1) := by decide +kernel
theorem dX1_breaksIn_14 : decode cX1_breaksIn 14 = .ok (.sipush 1000, 3) := by decide +kernel
theorem dX1_breaksIn_17 : decode cX1_breaksIn 17 = .ok (.idiv, 1) := by decide +kernel
theorem dX1_breaksIn_18 : decode cX1_breaksIn 18 = .ok (.iadd, 1) := by decide +kernel
theorem dX1_breaksIn_19 : decode cX1_breaksIn 19 = .ok (.iconst 2, 1) := by decide +kernel
theorem dX1_breaksIn_20 : decode cX1_breaksIn 20 = .ok (.isub, 1) := by decide +kernel
theorem dX1_breaksIn_21 : decode cX1_breaksIn 21 = .ok (.invokestatic 78, 3) := by decide +kernel
theorem dX1_breaksIn_24 : decode cX1_breaksIn 24 = .ok (.istore_n 3, 1) := by decide +kernel
theorem dX1_breaksIn_25 : decode cX1_breaksIn 25 = .ok (.iload_n 3, 1) := by decide +kernel
theorem dX1_breaksIn_26 : decode cX1_breaksIn 26 = .ok (.bipush 100, 2) := by decide +kernel
theorem dX1_breaksIn_28 : decode cX1_breaksIn 28 = .ok (.if_icmp .gt 12, 3) := by decide +kernel
theorem dX1_breaksIn_31 : decode cX1_breaksIn 31 = .ok (.aload_n 0, 1) := by decide +kernel
theorem dX1_breaksIn_32 : decode cX1_breaksIn 32 = .ok (.getfield 21, 3) := by decide +kernel
theorem dX1_breaksIn_35 : decode cX1_breaksIn 35 = .ok (.iload_n 1, 1) := by decide +kernel
theorem dX1_breaksIn_36 : decode cX1_breaksIn 36 = .ok (.iload_n 3, 1) := by decide +kernel
theorem dX1_breaksIn_37 : decode cX1_breaksIn 37 = .ok (.iastore, 1) := by decide +kernel
theorem dX1_breaksIn_38 : decode cX1_breaksIn 38 = .ok (.iconst 0, 1) := by decide +kernel
theorem dX1_breaksIn_39 : decode cX1_breaksIn 39 = .ok (.ireturn, 1) := by decide +kernel
theorem dX1_breaksIn_40 : decode cX1_breaksIn 40 = .ok (.aload_n 0, 1) := by decide +kernel
theorem dX1_breaksIn_41 : decode cX1_breaksIn 41 = .ok (.getfield 27, 3) := by decide +kernel
theorem dX1_breaksIn_44 : decode cX1_breaksIn 44 = .ok (.iload_n 1, 1) := by decide +kernel
theorem dX1_breaksIn_45 : decode cX1_breaksIn 45 = .ok (.iconst 0, 1) := by decide +kernel
theorem dX1_breaksIn_46 : decode cX1_breaksIn 46 = .ok (.bastore, 1) := by decide +kernel
theorem dX1_breaksIn_47 : decode cX1_breaksIn 47 = .ok (.aload_n 0, 1) := by decide +kernel
theorem dX1_breaksIn_48 : decode cX1_breaksIn 48 = .ok (.getfield 21, 3) := by decide +kernel
theorem dX1_breaksIn_51 : decode cX1_breaksIn 51 = .ok (.iload_n 1, 1) := by decide +kernel
theorem dX1_breaksIn_52 : decode cX1_breaksIn 52 = .ok (.iconst 0, 1) := by decide +kernel
theorem dX1_breaksIn_53 : decode cX1_breaksIn 53 = .ok (.iastore, 1) := by decide +kernel
theorem dX1_breaksIn_54 : decode cX1_breaksIn 54 = .ok (.aload_n 0, 1) := by decide +kernel
theorem dX1_breaksIn_55 : decode cX1_breaksIn 55 = .ok (.getfield 18, 3) := by decide +kernel
theorem dX1_breaksIn_58 : decode cX1_breaksIn 58 = .ok (.iload_n 1, 1) := by decide +kernel
theorem dX1_breaksIn_59 : decode cX1_breaksIn 59 = .ok (.iconst 0, 1) := by decide +kernel
theorem dX1_breaksIn_60 : decode cX1_breaksIn 60 = .ok (.iastore, 1) := by decide +kernel
theorem dX1_breaksIn_61 : decode cX1_breaksIn 61 = .ok (.aload_n 0, 1) := by decide +kernel
theorem dX1_breaksIn_62 : decode cX1_breaksIn 62 = .ok (.getfield 24, 3) := by decide +kernel
theorem dX1_breaksIn_65 : decode cX1_breaksIn 65 = .ok (.iload_n 1, 1) := by decide +kernel
theorem dX1_breaksIn_66 : decode cX1_breaksIn 66 = .ok (.dup2, 1) := by decide +kernel
theorem dX1_breaksIn_67 : decode cX1_breaksIn 67 = .ok (.iaload, 1) := by decide +kernel
theorem dX1_breaksIn_68 : decode cX1_breaksIn 68 = .ok (.iconst 1, 1) := by decide +kernel
theorem dX1_breaksIn_69 : decode cX1_breaksIn 69 = .ok (.iadd, 1) := by decide +kernel
theorem dX1_breaksIn_70 : decode cX1_breaksIn 70 = .ok (.iastore, 1) := by decide +kernel
theorem dX1_breaksIn_71 : decode cX1_breaksIn 71 = .ok (.iconst 1, 1) := by decide +kernel
theorem dX1_breaksIn_72 : decode cX1_breaksIn 72 = .ok (.ireturn, 1) := by decide +kernel
theorem dX1_slip_0 : decode cX1_slip 0 = .ok (.aload_n 0, 1) := by decide +kernel
theorem dX1_slip_1 : decode cX1_slip 1 = .ok (.getfield 21, 3) := by decide +kernel
theorem dX1_slip_4 : decode cX1_slip 4 = .ok (.iload_n 1, 1) := by decide +kernel
theorem dX1_slip_5 : decode cX1_slip 5 = .ok (.iaload, 1) := by decide +kernel
theorem dX1_slip_6 : decode cX1_slip 6 = .ok (.bipush 50, 2) := by decide +kernel
theorem dX1_slip_8 : decode cX1_slip 8 = .ok (.if_icmp .lt 25, 3) := by decide +kernel
theorem dX1_slip_11 : decode cX1_slip 11 = .ok (.aload_n 0, 1) := by decide +kernel
theorem dX1_slip_12 : decode cX1_slip 12 = .ok (.getfield 18, 3) := by decide +kernel
theorem dX1_slip_15 : decode cX1_slip 15 = .ok (.iload_n 1, 1) := by decide +kernel
theorem dX1_slip_16 : decode cX1_slip 16 = .ok (.bipush (-50), 2) := by decide +kernel
theorem dX1_slip_18 : decode cX1_slip 18 = .ok (.aload_n 0, 1) := by decide +kernel
theorem dX1_slip_19 : decode cX1_slip 19 = .ok (.getfield 18, 3) := by decide +kernel
theorem dX1_slip_22 : decode cX1_slip 22 = .ok (.iload_n 1, 1) := by decide +kernel
theorem dX1_slip_23 : decode cX1_slip 23 = .ok (.iaload, 1) := by decide +kernel
theorem dX1_slip_24 : decode cX1_slip 24 = .ok (.iconst 1, 1) := by decide +kernel
theorem dX1_slip_25 : decode cX1_slip 25 = .ok (.isub, 1) := by decide +kernel
theorem dX1_slip_26 : decode cX1_slip 26 = .ok (.invokestatic 78, 3) := by decide +kernel
theorem dX1_slip_29 : decode cX1_slip 29 = .ok (.iastore, 1) := by decide +kernel
theorem dX1_slip_30 : decode cX1_slip 30 = .ok (.goto 28, 3) := by decide +kernel
theorem dX1_slip_33 : decode cX1_slip 33 = .ok (.iload_n 2, 1) := by decide +kernel
theorem dX1_slip_34 : decode cX1_slip 34 = .ok (.bipush 6, 2) := by decide +kernel
theorem dX1_slip_36 : decode cX1_slip 36 = .ok (.if_icmp .lt 22, 3) := by decide +kernel
theorem dX1_slip_39 : decode cX1_slip 39 = .ok (.aload_n 0, 1) := by decide +kernel
theorem dX1_slip_40 : decode cX1_slip 40 = .ok (.getfield 18, 3) := by decide +kernel
theorem dX1_slip_43 : decode cX1_slip 43 = .ok (.iload_n 1, 1) := by decide +kernel
theorem dX1_slip_44 : decode cX1_slip 44 = .ok (.bipush 50, 2) := by decide +kernel
theorem dX1_slip_46 : decode cX1_slip 46 = .ok (.aload_n 0, 1) := by decide +kernel
theorem dX1_slip_47 : decode cX1_slip 47 = .ok (.getfield 18, 3) := by decide +kernel
theorem dX1_slip_50 : decode cX1_slip 50 = .ok (.iload_n 1, 1) := by decide +kernel
theorem dX1_slip_51 : decode cX1_slip 51 = .ok (.iaload, 1) := by decide +kernel
theorem dX1_slip_52 : decode cX1_slip 52 = .ok (.iconst 1, 1) := by decide +kernel
theorem dX1_slip_53 : decode cX1_slip 53 = .ok (.iadd, 1) := by decide +kernel
theorem dX1_slip_54 : decode cX1_slip 54 = .ok (.invokestatic 81, 3) := by decide +kernel
theorem dX1_slip_57 : decode cX1_slip 57 = .ok (.iastore, 1) := by decide +kernel
theorem dX1_slip_58 : decode cX1_slip 58 = .ok (.return_, 1) := by decide +kernel
theorem dX1_swell_0 : decode cX1_swell 0 = .ok (.aload_n 0, 1) := by decide +kernel
theorem dX1_swell_1 : decode cX1_swell 1 = .ok (.iload_n 1, 1) := by decide +kernel
theorem dX1_swell_2 : decode cX1_swell 2 = .ok (.iconst 5, 1) := by decide +kernel
theorem dX1_swell_3 : decode cX1_swell 3 = .ok (.if_icmp .lt 17, 3) := by decide +kernel
theorem dX1_swell_6 : decode cX1_swell 6 = .ok (.bipush 30, 2) := by decide +kernel
theorem dX1_swell_8 : decode cX1_swell 8 = .ok (.aload_n 0, 1) := by decide +kernel
theorem dX1_swell_9 : decode cX1_swell 9 = .ok (.getfield 31, 3) := by decide +kernel
theorem dX1_swell_12 : decode cX1_swell 12 = .ok (.iconst 1, 1) := by decide +kernel
theorem dX1_swell_13 : decode cX1_swell 13 = .ok (.iadd, 1) := by decide +kernel
theorem dX1_swell_14 : decode cX1_swell 14 = .ok (.invokestatic 81, 3) := by decide +kernel
theorem dX1_swell_17 : decode cX1_swell 17 = .ok (.goto 13, 3) := by decide +kernel
theorem dX1_swell_20 : decode cX1_swell 20 = .ok (.iconst 0, 1) := by decide +kernel
theorem dX1_swell_21 : decode cX1_swell 21 = .ok (.aload_n 0, 1) := by decide +kernel
theorem dX1_swell_22 : decode cX1_swell 22 = .ok (.getfield 31, 3) := by decide +kernel
theorem dX1_swell_25 : decode cX1_swell 25 = .ok (.iconst 1, 1) := by decide +kernel
theorem dX1_swell_26 : decode cX1_swell 26 = .ok (.isub, 1) := by decide +kernel
theorem dX1_swell_27 : decode cX1_swell 27 = .ok (.invokestatic 78, 3) := by decide +kernel
theorem dX1_swell_30 : decode cX1_swell 30 = .ok (.putfield 31, 3) := by decide +kernel
theorem dX1_swell_33 : decode cX1_swell 33 = .ok (.return_, 1) := by decide +kernel
end
section
set_option maxRecDepth 20000 in
theorem ggX2_init_X1_init : GoodIn wsX2_init wsX1_init := goodIn_r _ [19, 20, 2, 3, 9, 21, 22, 23, 24, 25, 26, 27, 28, 29, 37, 38, 39, 40, 41, 42, 43, 44] (by decide +kernel) (by decide +kernel)
set_option maxRecDepth 20000 in
theorem gX2_init_X1_init : GoodIn wsX2_init (wsX1_init) := ggX2_init_X1_init
set_option maxRecDepth 20000 in
theorem ggX2_init_X0_init : GoodIn wsX2_init wsX0_init := goodIn_r _ [32, 33, 2, 3, 9, 34, 35, 36, 51, 52, 53] (by decide +kernel) (by decide +kernel)
set_option maxRecDepth 20000 in
theorem gX2_init_X0_init : GoodIn wsX2_init (wsX0_init) := ggX2_init_X0_init
theorem dX2_init_0 : decode cX2_init 0 = .ok (.aload_n 0, 1) := by decide +kernel
theorem dX2_init_1 : decode cX2_init 1 = .ok (.invokespecial 1, 3) := by decide +kernel
theorem dX2_init_4 : decode cX2_init 4 = .ok (.aload_n 0, 1) := by decide +kernel
theorem dX2_init_5 : decode cX2_init 5 = .ok (.new 7, 3) := by decide +kernel
theorem dX2_init_8 : decode cX2_init 8 = .ok (.dup, 1) := by decide +kernel
theorem dX2_init_9 : decode cX2_init 9 = .ok (.invokespecial 9, 3) := by decide +kernel
theorem dX2_init_12 : decode cX2_init 12 = .ok (.putfield 10, 3) := by decide +kernel
theorem dX2_init_15 : decode cX2_init 15 = .ok (.aload_n 0, 1) := by decide +kernel
theorem dX2_init_16 : decode cX2_init 16 = .ok (.new 7, 3) := by decide +kernel
theorem dX2_init_19 : decode cX2_init 19 = .ok (.dup, 1) := by decide +kernel
theorem dX2_init_20 : decode cX2_init 20 = .ok (.invokespecial 9, 3) := by decide +kernel
theorem dX2_init_23 : decode cX2_init 23 = .ok (.putfield 16, 3) := by decide +kernel
theorem dX2_init_26 : decode cX2_init 26 = .ok (.aload_n 0, 1) := by decide +kernel
theorem dX2_init_27 : decode cX2_init 27 = .ok (.bipush 12, 2) := by decide +kernel
theorem dX2_init_29 : decode cX2_init 29 = .ok (.newarray .int, 2) := by decide +kernel
theorem dX2_init_31 : decode cX2_init 31 = .ok (.putfield 19, 3) := by decide +kernel
theorem dX2_init_34 : decode cX2_init 34 = .ok (.aload_n 0, 1) := by decide +kernel
theorem dX2_init_35 : decode cX2_init 35 = .ok (.bipush 12, 2) := by decide +kernel
theorem dX2_init_37 : decode cX2_init 37 = .ok (.newarray .int, 2) := by decide +kernel
theorem dX2_init_39 : decode cX2_init 39 = .ok (.putfield 23, 3) := by decide +kernel
theorem dX2_init_42 : decode cX2_init 42 = .ok (.aload_n 0, 1) := by decide +kernel
theorem dX2_init_43 : decode cX2_init 43 = .ok (.bipush 6, 2) := by decide +kernel
theorem dX2_init_45 : decode cX2_init 45 = .ok (.anewarray 26, 3) := by decide +kernel
theorem dX2_init_48 : decode cX2_init 48 = .ok (.putfield 28, 3) := by decide +kernel
theorem dX2_init_51 : decode cX2_init 51 = .ok (.iconst 0, 1) := by decide +kernel
theorem dX2_init_52 : decode cX2_init 52 = .ok (.istore_n 1, 1) := by decide +kernel
theorem dX2_init_53 : decode cX2_init 53 = .ok (.iload_n 1, 1) := by decide +kernel
theorem dX2_init_54 : decode cX2_init 54 = .ok (.bipush 6, 2) := by decide +kernel
theorem dX2_init_56 : decode cX2_init 56 = .ok (.if_icmp .ge 22, 3) := by decide +kernel
theorem dX2_init_59 : decode cX2_init 59 = .ok (.aload_n 0, 1) := by decide +kernel
theorem dX2_init_60 : decode cX2_init 60 = .ok (.getfield 28, 3) := by decide +kernel
theorem dX2_init_63 : decode cX2_init 63 = .ok (.iload_n 1, 1) := by decide +kernel
theorem dX2_init_64 : decode cX2_init 64 = .ok (.new 26, 3) := by decide +kernel
theorem dX2_init_67 : decode cX2_init 67 = .ok (.dup, 1) := by decide +kernel
theorem dX2_init_68 : decode cX2_init 68 = .ok (.invokespecial 32, 3) := by decide +kernel
theorem dX2_init_71 : decode cX2_init 71 = .ok (.aastore, 1) := by decide +kernel
theorem dX2_init_72 : decode cX2_init 72 = .ok (.iinc 1 1, 3) := by decide +kernel
theorem dX2_init_75 : decode cX2_init 75 = .ok (.goto (-22), 3) := by decide +kernel
theorem dX2_init_78 : decode cX2_init 78 = .ok (.aload_n 0, 1) := by decide +kernel
theorem dX2_init_79 : decode cX2_init 79 = .ok (.iconst 0, 1) := by decide +kernel
theorem dX2_init_80 : decode cX2_init 80 = .ok (.putfield 33, 3) := by decide +kernel
theorem dX2_init_83 : decode cX2_init 83 = .ok (.return_, 1) := by decide +kernel
set_option maxRecDepth 20000 in
theorem ggX2_push_X2_checkString : GoodIn wsX2_push wsX2_checkString := goodIn_ca (goodIn_r _ [10, 11, 12] (by decide +kernel) (by decide +kernel)) (goodIn_sub (fun _ h => List.mem_cons_of_mem _ (List.mem_append_right _ h)) (by decide +kernel))
set_option maxRecDepth 20000 in
theorem gX2_push_X2_checkString : GoodIn wsX2_push (va_wsS RX2 37 yX2_checkString wsX2_checkString) := goodIn_app (goodIn_of _ (by decide +kernel)) ggX2_push_X2_checkString
set_option maxRecDepth 20000 in
theorem ggX2_push_X2_checkWedgeSteps : GoodIn wsX2_push wsX2_checkWedgeSteps := goodIn_ca (goodIn_r _ [15, 1, 2] (by decide +kernel) (by decide +kernel)) (goodIn_sub (fun _ h => List.mem_cons_of_mem _ (List.mem_append_left _ (List.mem_append_left _ (List.mem_append_right _ h)))) (by decide +kernel))
set_option maxRecDepth 20000 in
theorem gX2_push_X2_checkWedgeSteps : GoodIn wsX2_push (va_wsS RX2 41 yX2_checkWedgeSteps wsX2_checkWedgeSteps) := goodIn_app (goodIn_of _ (by decide +kernel)) ggX2_push_X2_checkWedgeSteps
set_option maxRecDepth 20000 in
theorem ggX2_push_X1_takesPush : GoodIn wsX2_push wsX1_takesPush := goodIn_r _ [20, 21, 36, 37, 38, 39, 40, 41, 42, 43] (by decide +kernel) (by decide +kernel)
set_option maxRecDepth 20000 in
theorem gX2_push_X1_takesPush : GoodIn wsX2_push (wsV RX2 51 RX1 yX1_takesPush wsX1_takesPush) := goodIn_app (goodIn_of _ (by decide +kernel)) ggX2_push_X1_takesPush
set_option maxRecDepth 20000 in
theorem ggX2_push_X1_toneOf : GoodIn wsX2_push wsX1_toneOf := goodIn_r _ [25, 26, 21, 27, 28, 29, 36, 37, 38, 39, 40, 41, 42, 43] (by decide +kernel) (by decide +kernel)
set_option maxRecDepth 20000 in
theorem gX2_push_X1_toneOf : GoodIn wsX2_push (wsV RX2 63 RX1 yX1_toneOf wsX1_toneOf) := goodIn_app (goodIn_of _ (by decide +kernel)) ggX2_push_X1_toneOf
theorem dX2_push_0 : decode cX2_push 0 = .ok (.iload_n 1, 1) := by decide +kernel
theorem dX2_push_1 : decode cX2_push 1 = .ok (.invokestatic 37, 3) := by decide +kernel
theorem dX2_push_4 : decode cX2_push 4 = .ok (.iload_n 2, 1) := by decide +kernel
theorem dX2_push_5 : decode cX2_push 5 = .ok (.invokestatic 41, 3) := by decide +kernel
theorem dX2_push_8 : decode cX2_push 8 = .ok (.iload_n 2, 1) := by decide +kernel
theorem dX2_push_9 : decode cX2_push 9 = .ok (.ifCond .ne 13, 3) := by decide +kernel
theorem dX2_push_12 : decode cX2_push 12 = .ok (.new 44, 3) := by decide +kernel
theorem dX2_push_15 : decode cX2_push 15 = .ok (.dup, 1) := by decide +kernel
theorem dX2_push_16 : decode cX2_push 16 = .ok (.ldc 46, 2) := by decide +kernel
theorem dX2_push_18 : decode cX2_push 18 = .ok (.invokespecial 48, 3) := by decide +kernel
theorem dX2_push_21 : decode cX2_push 21 = .ok (.athrow, 1) := by decide +kernel
theorem dX2_push_22 : decode cX2_push 22 = .ok (.aload_n 0, 1) := by decide +kernel
theorem dX2_push_23 : decode cX2_push 23 = .ok (.getfield 10, 3) := by decide +kernel
theorem dX2_push_26 : decode cX2_push 26 = .ok (.iload_n 1, 1) := by decide +kernel
theorem dX2_push_27 : decode cX2_push 27 = .ok (.iload_n 2, 1) := by decide +kernel
theorem dX2_push_28 : decode cX2_push 28 = .ok (.invokevirtual 51, 3) := by decide +kernel
theorem dX2_push_31 : decode cX2_push 31 = .ok (.ifCond .ne 13, 3) := by decide +kernel
theorem dX2_push_34 : decode cX2_push 34 = .ok (.new 55, 3) := by decide +kernel
theorem dX2_push_37 : decode cX2_push 37 = .ok (.dup, 1) := by decide +kernel
theorem dX2_push_38 : decode cX2_push 38 = .ok (.ldc 57, 2) := by decide +kernel
theorem dX2_push_40 : decode cX2_push 40 = .ok (.invokespecial 59, 3) := by decide +kernel
theorem dX2_push_43 : decode cX2_push 43 = .ok (.athrow, 1) := by decide +kernel
theorem dX2_push_44 : decode cX2_push 44 = .ok (.aload_n 0, 1) := by decide +kernel
theorem dX2_push_45 : decode cX2_push 45 = .ok (.getfield 10, 3) := by decide +kernel
theorem dX2_push_48 : decode cX2_push 48 = .ok (.getfield 60, 3) := by decide +kernel
theorem dX2_push_51 : decode cX2_push 51 = .ok (.iload_n 1, 1) := by decide +kernel
theorem dX2_push_52 : decode cX2_push 52 = .ok (.dup2, 1) := by decide +kernel
theorem dX2_push_53 : decode cX2_push 53 = .ok (.iaload, 1) := by decide +kernel
theorem dX2_push_54 : decode cX2_push 54 = .ok (.iload_n 2, 1) := by decide +kernel
theorem dX2_push_55 : decode cX2_push 55 = .ok (.iadd, 1) := by decide +kernel
theorem dX2_push_56 : decode cX2_push 56 = .ok (.iastore, 1) := by decide +kernel
theorem dX2_push_57 : decode cX2_push 57 = .ok (.aload_n 0, 1) := by decide +kernel
theorem dX2_push_58 : decode cX2_push 58 = .ok (.getfield 10, 3) := by decide +kernel
theorem dX2_push_61 : decode cX2_push 61 = .ok (.iload_n 1, 1) := by decide +kernel
theorem dX2_push_62 : decode cX2_push 62 = .ok (.invokevirtual 63, 3) := by decide +kernel
theorem dX2_push_65 : decode cX2_push 65 = .ok (.ireturn, 1) := by decide +kernel
set_option maxRecDepth 20000 in
theorem ggX2_draw_X2_checkString : GoodIn wsX2_draw wsX2_checkString := goodIn_ca (goodIn_r _ [7, 8, 9] (by decide +kernel) (by decide +kernel)) (goodIn_sub (fun _ h => List.mem_cons_of_mem _ (List.mem_append_right _ h)) (by decide +kernel))
set_option maxRecDepth 20000 in
theorem gX2_draw_X2_checkString : GoodIn wsX2_draw (va_wsS RX2 37 yX2_checkString wsX2_checkString) := goodIn_app (goodIn_of _ (by decide +kernel)) ggX2_draw_X2_checkString
set_option maxRecDepth 20000 in
theorem ggX2_draw_X1_renew : GoodIn wsX2_draw wsX1_renew := goodIn_r _ [14, 15, 16, 17, 18, 31, 32, 33, 34, 35, 36, 37, 38] (by decide +kernel) (by decide +kernel)
set_option maxRecDepth 20000 in
theorem gX2_draw_X1_renew : GoodIn wsX2_draw (wsV RX2 69 RX1 yX1_renew wsX1_renew) := goodIn_app (goodIn_of _ (by decide +kernel)) ggX2_draw_X1_renew
set_option maxRecDepth 20000 in
theorem ggX2_draw_X1_toneOf : GoodIn wsX2_draw wsX1_toneOf := goodIn_r _ [22, 18, 23, 15, 16, 24, 31, 32, 33, 34, 35, 36, 37, 38] (by decide +kernel) (by decide +kernel)
set_option maxRecDepth 20000 in
theorem gX2_draw_X1_toneOf : GoodIn wsX2_draw (wsV RX2 63 RX1 yX1_toneOf wsX1_toneOf) := goodIn_app (goodIn_of _ (by decide +kernel)) ggX2_draw_X1_toneOf
theorem dX2_draw_0 : decode cX2_draw 0 = .ok (.iload_n 1, 1) := by decide +kernel
theorem dX2_draw_1 : decode cX2_draw 1 = .ok (.invokestatic 37, 3) := by decide +kernel
theorem dX2_draw_4 : decode cX2_draw 4 = .ok (.iload_n 2, 1) := by decide +kernel
theorem dX2_draw_5 : decode cX2_draw 5 = .ok (.bipush 100, 2) := by decide +kernel
theorem dX2_draw_7 : decode cX2_draw 7 = .ok (.if_icmp .lt 10, 3) := by decide +kernel
theorem dX2_draw_10 : decode cX2_draw 10 = .ok (.iload_n 2, 1) := by decide +kernel
theorem dX2_draw_11 : decode cX2_draw 11 = .ok (.sipush 900, 3) := by decide +kernel
theorem dX2_draw_14 : decode cX2_draw 14 = .ok (.if_icmp .le 13, 3) := by decide +kernel
theorem dX2_draw_17 : decode cX2_draw 17 = .ok (.new 44, 3) := by decide +kernel
theorem dX2_draw_20 : decode cX2_draw 20 = .ok (.dup, 1) := by decide +kernel
theorem dX2_draw_21 : decode cX2_draw 21 = .ok (.ldc 67, 2) := by decide +kernel
theorem dX2_draw_23 : decode cX2_draw 23 = .ok (.invokespecial 48, 3) := by decide +kernel
theorem dX2_draw_26 : decode cX2_draw 26 = .ok (.athrow, 1) := by decide +kernel
theorem dX2_draw_27 : decode cX2_draw 27 = .ok (.aload_n 0, 1) := by decide +kernel
theorem dX2_draw_28 : decode cX2_draw 28 = .ok (.getfield 10, 3) := by decide +kernel
theorem dX2_draw_31 : decode cX2_draw 31 = .ok (.iload_n 1, 1) := by decide +kernel
theorem dX2_draw_32 : decode cX2_draw 32 = .ok (.iload_n 2, 1) := by decide +kernel
theorem dX2_draw_33 : decode cX2_draw 33 = .ok (.invokevirtual 69, 3) := by decide +kernel
theorem dX2_draw_36 : decode cX2_draw 36 = .ok (.aload_n 0, 1) := by decide +kernel
theorem dX2_draw_37 : decode cX2_draw 37 = .ok (.getfield 10, 3) := by decide +kernel
theorem dX2_draw_40 : decode cX2_draw 40 = .ok (.iload_n 1, 1) := by decide +kernel
theorem dX2_draw_41 : decode cX2_draw 41 = .ok (.invokevirtual 63, 3) := by decide +kernel
theorem dX2_draw_44 : decode cX2_draw 44 = .ok (.ireturn, 1) := by decide +kernel
set_option maxRecDepth 20000 in
theorem ggX2_setWeather_X2_weatherAt : GoodIn wsX2_setWeather wsX2_weatherAt := goodIn_r _ [11, 5, 6, 12, 13, 14, 15, 16, 17] (by decide +kernel) (by decide +kernel)
set_option maxRecDepth 20000 in
theorem gX2_setWeather_X2_weatherAt : GoodIn wsX2_setWeather (wsV RX2 82 RX2 yX2_weatherAt wsX2_weatherAt) := goodIn_app (goodIn_of _ (by decide +kernel)) ggX2_setWeather_X2_weatherAt
theorem dX2_setWeather_0 : decode cX2_setWeather 0 = .ok (.iload_n 1, 1) := by decide +kernel
theorem dX2_setWeather_1 : decode cX2_setWeather 1 = .ok (.ifCond .lt 9, 3) := by decide +kernel
theorem dX2_setWeather_4 : decode cX2_setWeather 4 = .ok (.iload_n 1, 1) := by decide +kernel
theorem dX2_setWeather_5 : decode cX2_setWeather 5 = .ok (.bipush 12, 2) := by decide +kernel
theorem dX2_setWeather_7 : decode cX2_setWeather 7 = .ok (.if_icmp .lt 13, 3) := by decide +kernel
theorem dX2_setWeather_10 : decode cX2_setWeather 10 = .ok (.new 73, 3) := by decide +kernel
theorem dX2_setWeather_13 : decode cX2_setWeather 13 = .ok (.dup, 1) := by decide +kernel
theorem dX2_setWeather_14 : decode cX2_setWeather 14 = .ok (.ldc 75, 2) := by decide +kernel
theorem dX2_setWeather_16 : decode cX2_setWeather 16 = .ok (.invokespecial 77, 3) := by decide +kernel
theorem dX2_setWeather_19 : decode cX2_setWeather 19 = .ok (.athrow, 1) := by decide +kernel
theorem dX2_setWeather_20 : decode cX2_setWeather 20 = .ok (.iload_n 2, 1) := by decide +kernel
theorem dX2_setWeather_21 : decode cX2_setWeather 21 = .ok (.ifCond .lt 9, 3) := by decide +kernel
theorem dX2_setWeather_24 : decode cX2_setWeather 24 = .ok (.iload_n 2, 1) := by decide +kernel
theorem dX2_setWeather_25 : decode cX2_setWeather 25 = .ok (.bipush 20, 2) := by decide +kernel
theorem dX2_setWeather_27 : decode cX2_setWeather 27 = .ok (.if_icmp .le 13, 3) := by decide +kernel
theorem dX2_setWeather_30 : decode cX2_setWeather 30 = .ok (.new 44, 3) := by decide +kernel
theorem dX2_setWeather_33 : decode cX2_setWeather 33 = .ok (.dup, 1) := by decide +kernel
theorem dX2_setWeather_34 : decode cX2_setWeather 34 = .ok (.ldc 78, 2) := by decide +kernel
theorem dX2_setWeather_36 : decode cX2_setWeather 36 = .ok (.invokespecial 48, 3) := by decide +kernel
theorem dX2_setWeather_39 : decode cX2_setWeather 39 = .ok (.athrow, 1) := by decide +kernel
theorem dX2_setWeather_40 : decode cX2_setWeather 40 = .ok (.iload_n 3, 1) := by decide +kernel
theorem dX2_setWeather_41 : decode cX2_setWeather 41 = .ok (.ifCond .lt 9, 3) := by decide +kernel
theorem dX2_setWeather_44 : decode cX2_setWeather 44 = .ok (.iload_n 3, 1) := by decide +kernel
theorem dX2_setWeather_45 : decode cX2_setWeather 45 = .ok (.bipush 9, 2) := by decide +kernel
theorem dX2_setWeather_47 : decode cX2_setWeather 47 = .ok (.if_icmp .le 13, 3) := by decide +kernel
theorem dX2_setWeather_50 : decode cX2_setWeather 50 = .ok (.new 44, 3) := by decide +kernel
theorem dX2_setWeather_53 : decode cX2_setWeather 53 = .ok (.dup, 1) := by decide +kernel
theorem dX2_setWeather_54 : decode cX2_setWeather 54 = .ok (.ldc 80, 2) := by decide +kernel
theorem dX2_setWeather_56 : decode cX2_setWeather 56 = .ok (.invokespecial 48, 3) := by decide +kernel
theorem dX2_setWeather_59 : decode cX2_setWeather 59 = .ok (.athrow, 1) := by decide +kernel
theorem dX2_setWeather_60 : decode cX2_setWeather 60 = .ok (.aload_n 0, 1) := by decide +kernel
theorem dX2_setWeather_61 : decode cX2_setWeather 61 = .ok (.iload_n 1, 1) := by decide +kernel
theorem dX2_setWeather_62 : decode cX2_setWeather 62 = .ok (.invokevirtual 82, 3) := by decide +kernel
theorem dX2_setWeather_65 : decode cX2_setWeather 65 = .ok (.istore 4, 2) := by decide +kernel
theorem dX2_setWeather_67 : decode cX2_setWeather 67 = .ok (.aload_n 0, 1) := by decide +kernel
theorem dX2_setWeather_68 : decode cX2_setWeather 68 = .ok (.getfield 19, 3) := by decide +kernel
theorem dX2_setWeather_71 : decode cX2_setWeather 71 = .ok (.iload_n 1, 1) := by decide +kernel
theorem dX2_setWeather_72 : decode cX2_setWeather 72 = .ok (.iload_n 2, 1) := by decide +kernel
theorem dX2_setWeather_73 : decode cX2_setWeather 73 = .ok (.iastore, 1) := by decide +kernel
theorem dX2_setWeather_74 : decode cX2_setWeather 74 = .ok (.aload_n 0, 1) := by decide +kernel
theorem dX2_setWeather_75 : decode cX2_setWeather 75 = .ok (.getfield 23, 3) := by decide +kernel
theorem dX2_setWeather_78 : decode cX2_setWeather 78 = .ok (.iload_n 1, 1) := by decide +kernel
theorem dX2_setWeather_79 : decode cX2_setWeather 79 = .ok (.iload_n 3, 1) := by decide +kernel
theorem dX2_setWeather_80 : decode cX2_setWeather 80 = .ok (.iastore, 1) := by decide +kernel
theorem dX2_setWeather_81 : decode cX2_setWeather 81 = .ok (.iload 4, 2) := by decide +kernel
theorem dX2_setWeather_83 : decode cX2_setWeather 83 = .ok (.ireturn, 1) := by decide +kernel
set_option maxRecDepth 20000 in
theorem ggX2_string_X2_checkString : GoodIn wsX2_string wsX2_checkString := goodIn_ca (goodIn_r _ [7, 1, 2] (by decide +kernel) (by decide +kernel)) (goodIn_sub (fun _ h => List.mem_cons_of_mem _ (List.mem_append_right _ h)) (by decide +kernel))
set_option maxRecDepth 20000 in
theorem gX2_string_X2_checkString : GoodIn wsX2_string (va_wsS RX2 37 yX2_checkString wsX2_checkString) := goodIn_app (goodIn_of _ (by decide +kernel)) ggX2_string_X2_checkString
set_option maxRecDepth 20000 in
theorem ggX2_string_X1_factOf : GoodIn wsX2_string wsX1_factOf := goodIn_r _ [12, 13, 14, 15, 16, 17, 18, 19, 20, 21, 11, 22, 23, 30, 31, 32, 33, 34, 35, 36, 37] (by decide +kernel) (by decide +kernel)
set_option maxRecDepth 20000 in
theorem gX2_string_X1_factOf : GoodIn wsX2_string (wsV RX2 87 RX1 yX1_factOf wsX1_factOf) := goodIn_app (goodIn_of _ (by decide +kernel)) ggX2_string_X1_factOf
theorem dX2_string_0 : decode cX2_string 0 = .ok (.iload_n 1, 1) := by decide +kernel
theorem dX2_string_1 : decode cX2_string 1 = .ok (.invokestatic 37, 3) := by decide +kernel
theorem dX2_string_4 : decode cX2_string 4 = .ok (.iload_n 2, 1) := by decide +kernel
theorem dX2_string_5 : decode cX2_string 5 = .ok (.ifCond .lt 9, 3) := by decide +kernel
theorem dX2_string_8 : decode cX2_string 8 = .ok (.iload_n 2, 1) := by decide +kernel
theorem dX2_string_9 : decode cX2_string 9 = .ok (.bipush 7, 2) := by decide +kernel
theorem dX2_string_11 : decode cX2_string 11 = .ok (.if_icmp .lt 13, 3) := by decide +kernel
theorem dX2_string_14 : decode cX2_string 14 = .ok (.new 73, 3) := by decide +kernel
theorem dX2_string_17 : decode cX2_string 17 = .ok (.dup, 1) := by decide +kernel
theorem dX2_string_18 : decode cX2_string 18 = .ok (.ldc 85, 2) := by decide +kernel
theorem dX2_string_20 : decode cX2_string 20 = .ok (.invokespecial 77, 3) := by decide +kernel
theorem dX2_string_23 : decode cX2_string 23 = .ok (.athrow, 1) := by decide +kernel
theorem dX2_string_24 : decode cX2_string 24 = .ok (.aload_n 0, 1) := by decide +kernel
theorem dX2_string_25 : decode cX2_string 25 = .ok (.getfield 10, 3) := by decide +kernel
theorem dX2_string_28 : decode cX2_string 28 = .ok (.iload_n 1, 1) := by decide +kernel
theorem dX2_string_29 : decode cX2_string 29 = .ok (.iload_n 2, 1) := by decide +kernel
theorem dX2_string_30 : decode cX2_string 30 = .ok (.invokevirtual 87, 3) := by decide +kernel
theorem dX2_string_33 : decode cX2_string 33 = .ok (.ireturn, 1) := by decide +kernel
set_option maxRecDepth 20000 in
theorem ggX2_moves_X2_checkString : GoodIn wsX2_moves wsX2_checkString := goodIn_ca (goodIn_r _ [10, 11, 12] (by decide +kernel) (by decide +kernel)) (goodIn_sub (fun _ h => List.mem_cons_of_mem _ (List.mem_append_left _ (List.mem_append_right _ h))) (by decide +kernel))
set_option maxRecDepth 20000 in
theorem gX2_moves_X2_checkString : GoodIn wsX2_moves (va_wsS RX2 37 yX2_checkString wsX2_checkString) := goodIn_app (goodIn_of _ (by decide +kernel)) ggX2_moves_X2_checkString
set_option maxRecDepth 20000 in
theorem ggX2_moves_X2_checkWedgeSteps : GoodIn wsX2_moves wsX2_checkWedgeSteps := goodIn_ca (goodIn_r _ [15, 16, 17] (by decide +kernel) (by decide +kernel)) (goodIn_sub (fun _ h => List.mem_cons_of_mem _ (List.mem_append_right _ h)) (by decide +kernel))
set_option maxRecDepth 20000 in
theorem gX2_moves_X2_checkWedgeSteps : GoodIn wsX2_moves (va_wsS RX2 41 yX2_checkWedgeSteps wsX2_checkWedgeSteps) := goodIn_app (goodIn_of _ (by decide +kernel)) ggX2_moves_X2_checkWedgeSteps
theorem dX2_moves_0 : decode cX2_moves 0 = .ok (.iload_n 1, 1) := by decide +kernel
theorem dX2_moves_1 : decode cX2_moves 1 = .ok (.invokestatic 37, 3) := by decide +kernel
theorem dX2_moves_4 : decode cX2_moves 4 = .ok (.iload_n 3, 1) := by decide +kernel
theorem dX2_moves_5 : decode cX2_moves 5 = .ok (.invokestatic 37, 3) := by decide +kernel
theorem dX2_moves_8 : decode cX2_moves 8 = .ok (.iload_n 2, 1) := by decide +kernel
theorem dX2_moves_9 : decode cX2_moves 9 = .ok (.invokestatic 41, 3) := by decide +kernel
theorem dX2_moves_12 : decode cX2_moves 12 = .ok (.aload_n 0, 1) := by decide +kernel
theorem dX2_moves_13 : decode cX2_moves 13 = .ok (.getfield 10, 3) := by decide +kernel
theorem dX2_moves_16 : decode cX2_moves 16 = .ok (.getfield 91, 3) := by decide +kernel
theorem dX2_moves_19 : decode cX2_moves 19 = .ok (.iload_n 3, 1) := by decide +kernel
theorem dX2_moves_20 : decode cX2_moves 20 = .ok (.baload, 1) := by decide +kernel
theorem dX2_moves_21 : decode cX2_moves 21 = .ok (.ifCond .ne 5, 3) := by decide +kernel
theorem dX2_moves_24 : decode cX2_moves 24 = .ok (.iconst 0, 1) := by decide +kernel
theorem dX2_moves_25 : decode cX2_moves 25 = .ok (.ireturn, 1) := by decide +kernel
theorem dX2_moves_26 : decode cX2_moves 26 = .ok (.iload_n 1, 1) := by decide +kernel
theorem dX2_moves_27 : decode cX2_moves 27 = .ok (.iload_n 3, 1) := by decide +kernel
theorem dX2_moves_28 : decode cX2_moves 28 = .ok (.if_icmp .ne 8, 3) := by decide +kernel
theorem dX2_moves_31 : decode cX2_moves 31 = .ok (.bipush 10, 2) := by decide +kernel
theorem dX2_moves_33 : decode cX2_moves 33 = .ok (.iload_n 2, 1) := by decide +kernel
theorem dX2_moves_34 : decode cX2_moves 34 = .ok (.imul, 1) := by decide +kernel
theorem dX2_moves_35 : decode cX2_moves 35 = .ok (.ireturn, 1) := by decide +kernel
theorem dX2_moves_36 : decode cX2_moves 36 = .ok (.iload_n 1, 1) := by decide +kernel
theorem dX2_moves_37 : decode cX2_moves 37 = .ok (.iload_n 3, 1) := by decide +kernel
theorem dX2_moves_38 : decode cX2_moves 38 = .ok (.isub, 1) := by decide +kernel
theorem dX2_moves_39 : decode cX2_moves 39 = .ok (.invokestatic 95, 3) := by decide +kernel
theorem dX2_moves_42 : decode cX2_moves 42 = .ok (.iconst 1, 1) := by decide +kernel
theorem dX2_moves_43 : decode cX2_moves 43 = .ok (.if_icmp .ne 9, 3) := by decide +kernel
theorem dX2_moves_46 : decode cX2_moves 46 = .ok (.iconst 3, 1) := by decide +kernel
theorem dX2_moves_47 : decode cX2_moves 47 = .ok (.iload_n 2, 1) := by decide +kernel
theorem dX2_moves_48 : decode cX2_moves 48 = .ok (.imul, 1) := by decide +kernel
theorem dX2_moves_49 : decode cX2_moves 49 = .ok (.goto 4, 3) := by decide +kernel
theorem dX2_moves_52 : decode cX2_moves 52 = .ok (.iconst 0, 1) := by decide +kernel
theorem dX2_moves_53 : decode cX2_moves 53 = .ok (.ireturn, 1) := by decide +kernel
set_option maxRecDepth 20000 in
theorem ggX2_chord_X2_checkString : GoodIn wsX2_chord wsX2_checkString := goodIn_ca (goodIn_r _ [10, 11, 12] (by decide +kernel) (by decide +kernel)) (goodIn_sub (fun _ h => List.mem_cons_of_mem _ (List.mem_append_right _ h)) (by decide +kernel))
set_option maxRecDepth 20000 in
theorem gX2_chord_X2_checkString : GoodIn wsX2_chord (va_wsS RX2 37 yX2_checkString wsX2_checkString) := goodIn_app (goodIn_of _ (by decide +kernel)) ggX2_chord_X2_checkString
set_option maxRecDepth 20000 in
theorem ggX2_chord_X2_checkTone : GoodIn wsX2_chord wsX2_checkTone := goodIn_ca (goodIn_r _ [15, 1, 2] (by decide +kernel) (by decide +kernel)) (goodIn_sub (fun _ h => List.mem_cons_of_mem _ (List.mem_append_left _ (List.mem_append_left _ (List.mem_append_right _ h)))) (by decide +kernel))
set_option maxRecDepth 20000 in
theorem gX2_chord_X2_checkTone : GoodIn wsX2_chord (va_wsS RX2 100 yX2_checkTone wsX2_checkTone) := goodIn_app (goodIn_of _ (by decide +kernel)) ggX2_chord_X2_checkTone
set_option maxRecDepth 20000 in
theorem ggX2_chord_X0_place : GoodIn wsX2_chord wsX0_place := goodIn_r _ [20, 21, 22, 34, 35, 36] (by decide +kernel) (by decide +kernel)
set_option maxRecDepth 20000 in
theorem gX2_chord_X0_place : GoodIn wsX2_chord (wsV RX2 109 RX0 yX0_place wsX0_place) := goodIn_app (goodIn_of _ (by decide +kernel)) ggX2_chord_X0_place
set_option maxRecDepth 20000 in
theorem ggX2_chord_X0_tune : GoodIn wsX2_chord wsX0_tune := goodIn_r _ [26, 27, 34, 35, 36] (by decide +kernel) (by decide +kernel)
set_option maxRecDepth 20000 in
theorem gX2_chord_X0_tune : GoodIn wsX2_chord (wsV RX2 112 RX0 yX0_tune wsX0_tune) := goodIn_app (goodIn_of _ (by decide +kernel)) ggX2_chord_X0_tune
theorem dX2_chord_0 : decode cX2_chord 0 = .ok (.iload_n 1, 1) := by decide +kernel
theorem dX2_chord_1 : decode cX2_chord 1 = .ok (.invokestatic 37, 3) := by decide +kernel
theorem dX2_chord_4 : decode cX2_chord 4 = .ok (.iload_n 2, 1) := by decide +kernel
theorem dX2_chord_5 : decode cX2_chord 5 = .ok (.iconst 1, 1) := by decide +kernel
theorem dX2_chord_6 : decode cX2_chord 6 = .ok (.invokestatic 100, 3) := by decide +kernel
theorem dX2_chord_9 : decode cX2_chord 9 = .ok (.iload_n 3, 1) := by decide +kernel
theorem dX2_chord_10 : decode cX2_chord 10 = .ok (.iconst 1, 1) := by decide +kernel
theorem dX2_chord_11 : decode cX2_chord 11 = .ok (.invokestatic 100, 3) := by decide +kernel
theorem dX2_chord_14 : decode cX2_chord 14 = .ok (.iload 4, 2) := by decide +kernel
theorem dX2_chord_16 : decode cX2_chord 16 = .ok (.iconst 0, 1) := by decide +kernel
theorem dX2_chord_17 : decode cX2_chord 17 = .ok (.invokestatic 100, 3) := by decide +kernel
theorem dX2_chord_20 : decode cX2_chord 20 = .ok (.iload 5, 2) := by decide +kernel
theorem dX2_chord_22 : decode cX2_chord 22 = .ok (.iconst 0, 1) := by decide +kernel
theorem dX2_chord_23 : decode cX2_chord 23 = .ok (.invokestatic 100, 3) := by decide +kernel
theorem dX2_chord_26 : decode cX2_chord 26 = .ok (.iload 4, 2) := by decide +kernel
theorem dX2_chord_28 : decode cX2_chord 28 = .ok (.ifCond .ne 18, 3) := by decide +kernel
theorem dX2_chord_31 : decode cX2_chord 31 = .ok (.iload 5, 2) := by decide +kernel
theorem dX2_chord_33 : decode cX2_chord 33 = .ok (.ifCond .eq 13, 3) := by decide +kernel
theorem dX2_chord_36 : decode cX2_chord 36 = .ok (.new 44, 3) := by decide +kernel
theorem dX2_chord_39 : decode cX2_chord 39 = .ok (.dup, 1) := by decide +kernel
theorem dX2_chord_40 : decode cX2_chord 40 = .ok (.ldc 103, 2) := by decide +kernel
theorem dX2_chord_42 : decode cX2_chord 42 = .ok (.invokespecial 48, 3) := by decide +kernel
theorem dX2_chord_45 : decode cX2_chord 45 = .ok (.athrow, 1) := by decide +kernel
theorem dX2_chord_46 : decode cX2_chord 46 = .ok (.iload 4, 2) := by decide +kernel
theorem dX2_chord_48 : decode cX2_chord 48 = .ok (.ifCond .ne 7, 3) := by decide +kernel
theorem dX2_chord_51 : decode cX2_chord 51 = .ok (.iconst 2, 1) := by decide +kernel
theorem dX2_chord_52 : decode cX2_chord 52 = .ok (.goto 13, 3) := by decide +kernel
theorem dX2_chord_55 : decode cX2_chord 55 = .ok (.iload 5, 2) := by decide +kernel
theorem dX2_chord_57 : decode cX2_chord 57 = .ok (.ifCond .ne 7, 3) := by decide +kernel
theorem dX2_chord_60 : decode cX2_chord 60 = .ok (.iconst 3, 1) := by decide +kernel
theorem dX2_chord_61 : decode cX2_chord 61 = .ok (.goto 4, 3) := by decide +kernel
theorem dX2_chord_64 : decode cX2_chord 64 = .ok (.iconst 4, 1) := by decide +kernel
theorem dX2_chord_65 : decode cX2_chord 65 = .ok (.istore 6, 2) := by decide +kernel
theorem dX2_chord_67 : decode cX2_chord 67 = .ok (.iload_n 1, 1) := by decide +kernel
theorem dX2_chord_68 : decode cX2_chord 68 = .ok (.iload 6, 2) := by decide +kernel
theorem dX2_chord_70 : decode cX2_chord 70 = .ok (.iadd, 1) := by decide +kernel
theorem dX2_chord_71 : decode cX2_chord 71 = .ok (.bipush 12, 2) := by decide +kernel
theorem dX2_chord_73 : decode cX2_chord 73 = .ok (.if_icmp .le 13, 3) := by decide +kernel
theorem dX2_chord_76 : decode cX2_chord 76 = .ok (.new 44, 3) := by decide +kernel
theorem dX2_chord_79 : decode cX2_chord 79 = .ok (.dup, 1) := by decide +kernel
theorem dX2_chord_80 : decode cX2_chord 80 = .ok (.ldc 105, 2) := by decide +kernel
theorem dX2_chord_82 : decode cX2_chord 82 = .ok (.invokespecial 48, 3) := by decide +kernel
theorem dX2_chord_85 : decode cX2_chord 85 = .ok (.athrow, 1) := by decide +kernel
theorem dX2_chord_86 : decode cX2_chord 86 = .ok (.aload_n 0, 1) := by decide +kernel
theorem dX2_chord_87 : decode cX2_chord 87 = .ok (.getfield 33, 3) := by decide +kernel
theorem dX2_chord_90 : decode cX2_chord 90 = .ok (.bipush 6, 2) := by decide +kernel
theorem dX2_chord_92 : decode cX2_chord 92 = .ok (.if_icmp .lt 13, 3) := by decide +kernel
theorem dX2_chord_95 : decode cX2_chord 95 = .ok (.new 55, 3) := by decide +kernel
theorem dX2_chord_98 : decode cX2_chord 98 = .ok (.dup, 1) := by decide +kernel
theorem dX2_chord_99 : decode cX2_chord 99 = .ok (.ldc 107, 2) := by decide +kernel
theorem dX2_chord_101 : decode cX2_chord 101 = .ok (.invokespecial 59, 3) := by decide +kernel
theorem dX2_chord_104 : decode cX2_chord 104 = .ok (.athrow, 1) := by decide +kernel
theorem dX2_chord_105 : decode cX2_chord 105 = .ok (.aload_n 0, 1) := by decide +kernel
theorem dX2_chord_106 : decode cX2_chord 106 = .ok (.getfield 28, 3) := by decide +kernel
theorem dX2_chord_109 : decode cX2_chord 109 = .ok (.aload_n 0, 1) := by decide +kernel
theorem dX2_chord_110 : decode cX2_chord 110 = .ok (.getfield 33, 3) := by decide +kernel
theorem dX2_chord_113 : decode cX2_chord 113 = .ok (.aaload, 1) := by decide +kernel
theorem dX2_chord_114 : decode cX2_chord 114 = .ok (.astore 7, 2) := by decide +kernel
theorem dX2_chord_116 : decode cX2_chord 116 = .ok (.aload 7, 2) := by decide +kernel
theorem dX2_chord_118 : decode cX2_chord 118 = .ok (.iload_n 1, 1) := by decide +kernel
theorem dX2_chord_119 : decode cX2_chord 119 = .ok (.iload 6, 2) := by decide +kernel
theorem dX2_chord_121 : decode cX2_chord 121 = .ok (.invokevirtual 109, 3) := by decide +kernel
theorem dX2_chord_124 : decode cX2_chord 124 = .ok (.aload 7, 2) := by decide +kernel
theorem dX2_chord_126 : decode cX2_chord 126 = .ok (.iload_n 2, 1) := by decide +kernel
theorem dX2_chord_127 : decode cX2_chord 127 = .ok (.iload_n 3, 1) := by decide +kernel
theorem dX2_chord_128 : decode cX2_chord 128 = .ok (.iload 4, 2) := by decide +kernel
theorem dX2_chord_130 : decode cX2_chord 130 = .ok (.iload 5, 2) := by decide +kernel
theorem dX2_chord_132 : decode cX2_chord 132 = .ok (.invokevirtual 112, 3) := by decide +kernel
theorem dX2_chord_135 : decode cX2_chord 135 = .ok (.aload_n 0, 1) := by decide +kernel
theorem dX2_chord_136 : decode cX2_chord 136 = .ok (.dup, 1) := by decide +kernel
theorem dX2_chord_137 : decode cX2_chord 137 = .ok (.getfield 33, 3) := by decide +kernel
theorem dX2_chord_140 : decode cX2_chord 140 = .ok (.iconst 1, 1) := by decide +kernel
theorem dX2_chord_141 : decode cX2_chord 141 = .ok (.iadd, 1) := by decide +kernel
theorem dX2_chord_142 : decode cX2_chord 142 = .ok (.putfield 33, 3) := by decide +kernel
theorem dX2_chord_145 : decode cX2_chord 145 = .ok (.aload_n 0, 1) := by decide +kernel
theorem dX2_chord_146 : decode cX2_chord 146 = .ok (.getfield 33, 3) := by decide +kernel
theorem dX2_chord_149 : decode cX2_chord 149 = .ok (.iconst 1, 1) := by decide +kernel
theorem dX2_chord_150 : decode cX2_chord 150 = .ok (.isub, 1) := by decide +kernel
theorem dX2_chord_151 : decode cX2_chord 151 = .ok (.ireturn, 1) := by decide +kernel
set_option maxRecDepth 20000 in
theorem ggX2_off_X2_checkChord : GoodIn wsX2_off wsX2_checkChord := goodIn_ca (goodIn_r _ [7, 8, 9, 10, 32, 33, 34, 35, 36, 37] (by decide +kernel) (by decide +kernel)) (goodIn_sub (fun _ h => List.mem_cons_of_mem _ (List.mem_append_right _ h)) (by decide +kernel))
set_option maxRecDepth 20000 in
theorem gX2_off_X2_checkChord : GoodIn wsX2_off (wsV RX2 116 RX2 yX2_checkChord wsX2_checkChord) := goodIn_app (goodIn_of _ (by decide +kernel)) ggX2_off_X2_checkChord
set_option maxRecDepth 20000 in
theorem ggX2_off_X1_distanceFrom : GoodIn wsX2_off wsX1_distanceFrom := goodIn_r _ [15, 16, 17, 18, 19, 20, 21, 22, 23, 24, 25, 14, 26, 27, 28, 29, 30, 31, 38, 39, 40, 41, 42, 43, 44, 45, 46, 47, 48] (by decide +kernel) (by decide +kernel)
set_option maxRecDepth 20000 in
theorem gX2_off_X1_distanceFrom : GoodIn wsX2_off (wsV RX2 119 RX1 yX1_distanceFrom wsX1_distanceFrom) := goodIn_app (goodIn_of _ (by decide +kernel)) ggX2_off_X1_distanceFrom
theorem dX2_off_0 : decode cX2_off 0 = .ok (.aload_n 0, 1) := by decide +kernel
theorem dX2_off_1 : decode cX2_off 1 = .ok (.iload_n 1, 1) := by decide +kernel
theorem dX2_off_2 : decode cX2_off 2 = .ok (.invokevirtual 116, 3) := by decide +kernel
theorem dX2_off_5 : decode cX2_off 5 = .ok (.aload_n 0, 1) := by decide +kernel
theorem dX2_off_6 : decode cX2_off 6 = .ok (.getfield 10, 3) := by decide +kernel
theorem dX2_off_9 : decode cX2_off 9 = .ok (.aload_n 0, 1) := by decide +kernel
theorem dX2_off_10 : decode cX2_off 10 = .ok (.getfield 28, 3) := by decide +kernel
theorem dX2_off_13 : decode cX2_off 13 = .ok (.iload_n 1, 1) := by decide +kernel
theorem dX2_off_14 : decode cX2_off 14 = .ok (.aaload, 1) := by decide +kernel
theorem dX2_off_15 : decode cX2_off 15 = .ok (.invokevirtual 119, 3) := by decide +kernel
theorem dX2_off_18 : decode cX2_off 18 = .ok (.ireturn, 1) := by decide +kernel
set_option maxRecDepth 20000 in
theorem ggX2_sounds_X2_checkChord : GoodIn wsX2_sounds wsX2_checkChord := goodIn_ca (goodIn_r _ [7, 8, 9, 10, 36, 37, 38, 39, 40, 41] (by decide +kernel) (by decide +kernel)) (goodIn_sub (fun _ h => List.mem_cons_of_mem _ (List.mem_append_right _ h)) (by decide +kernel))
set_option maxRecDepth 20000 in
theorem gX2_sounds_X2_checkChord : GoodIn wsX2_sounds (wsV RX2 116 RX2 yX2_checkChord wsX2_checkChord) := goodIn_app (goodIn_of _ (by decide +kernel)) ggX2_sounds_X2_checkChord
set_option maxRecDepth 20000 in
theorem ggX2_sounds_X1_isTunedTo : GoodIn wsX2_sounds wsX1_isTunedTo := goodIn_r _ [15, 16, 17, 18, 19, 14, 20, 21, 22, 23, 24, 25, 26, 27, 28, 29, 30, 31, 32, 33, 34, 35, 42, 43, 44, 45, 46, 47, 48, 49, 50, 51, 52] (by decide +kernel) (by decide +kernel)
set_option maxRecDepth 20000 in
theorem gX2_sounds_X1_isTunedTo : GoodIn wsX2_sounds (wsV RX2 123 RX1 yX1_isTunedTo wsX1_isTunedTo) := goodIn_app (goodIn_of _ (by decide +kernel)) ggX2_sounds_X1_isTunedTo
theorem dX2_sounds_0 : decode cX2_sounds 0 = .ok (.aload_n 0, 1) := by decide +kernel
theorem dX2_sounds_1 : decode cX2_sounds 1 = .ok (.iload_n 1, 1) := by decide +kernel
theorem dX2_sounds_2 : decode cX2_sounds 2 = .ok (.invokevirtual 116, 3) := by decide +kernel
theorem dX2_sounds_5 : decode cX2_sounds 5 = .ok (.aload_n 0, 1) := by decide +kernel
theorem dX2_sounds_6 : decode cX2_sounds 6 = .ok (.getfield 10, 3) := by decide +kernel
theorem dX2_sounds_9 : decode cX2_sounds 9 = .ok (.aload_n 0, 1) := by decide +kernel
theorem dX2_sounds_10 : decode cX2_sounds 10 = .ok (.getfield 28, 3) := by decide +kernel
theorem dX2_sounds_13 : decode cX2_sounds 13 = .ok (.iload_n 1, 1) := by decide +kernel
theorem dX2_sounds_14 : decode cX2_sounds 14 = .ok (.aaload, 1) := by decide +kernel
theorem dX2_sounds_15 : decode cX2_sounds 15 = .ok (.invokevirtual 123, 3) := by decide +kernel
theorem dX2_sounds_18 : decode cX2_sounds 18 = .ok (.ireturn, 1) := by decide +kernel
set_option maxRecDepth 20000 in
theorem ggX2_steps_X2_checkChord : GoodIn wsX2_steps wsX2_checkChord := goodIn_ca (goodIn_r _ [7, 8, 9, 10, 44, 45, 46, 47, 48, 49] (by decide +kernel) (by decide +kernel)) (goodIn_sub (fun _ h => List.mem_cons_of_mem _ (List.mem_append_right _ h)) (by decide +kernel))
set_option maxRecDepth 20000 in
theorem gX2_steps_X2_checkChord : GoodIn wsX2_steps (wsV RX2 116 RX2 yX2_checkChord wsX2_checkChord) := goodIn_app (goodIn_of _ (by decide +kernel)) ggX2_steps_X2_checkChord
set_option maxRecDepth 20000 in
theorem ggX2_steps_X2_fewestSteps : GoodIn wsX2_steps wsX2_fewestSteps := goodIn_r _ [13, 14, 15, 16, 17, 18, 19, 20, 21, 22, 23, 24, 25, 26, 27, 28, 29, 30, 31, 32, 33, 34, 35, 36, 37, 38, 39, 40, 41, 42, 43, 11, 12, 6, 50, 51, 52, 53, 54, 55, 56, 57, 58, 59, 60] (by decide +kernel) (by decide +kernel)
set_option maxRecDepth 20000 in
theorem gX2_steps_X2_fewestSteps : GoodIn wsX2_steps (va_wsS RX2 127 yX2_fewestSteps wsX2_fewestSteps) := goodIn_app (goodIn_of _ (by decide +kernel)) ggX2_steps_X2_fewestSteps
theorem dX2_steps_0 : decode cX2_steps 0 = .ok (.aload_n 0, 1) := by decide +kernel
theorem dX2_steps_1 : decode cX2_steps 1 = .ok (.iload_n 1, 1) := by decide +kernel
theorem dX2_steps_2 : decode cX2_steps 2 = .ok (.invokevirtual 116, 3) := by decide +kernel
theorem dX2_steps_5 : decode cX2_steps 5 = .ok (.aload_n 0, 1) := by decide +kernel
theorem dX2_steps_6 : decode cX2_steps 6 = .ok (.getfield 10, 3) := by decide +kernel
theorem dX2_steps_9 : decode cX2_steps 9 = .ok (.aload_n 0, 1) := by decide +kernel
theorem dX2_steps_10 : decode cX2_steps 10 = .ok (.getfield 28, 3) := by decide +kernel
theorem dX2_steps_13 : decode cX2_steps 13 = .ok (.iload_n 1, 1) := by decide +kernel
theorem dX2_steps_14 : decode cX2_steps 14 = .ok (.aaload, 1) := by decide +kernel
theorem dX2_steps_15 : decode cX2_steps 15 = .ok (.iconst 0, 1) := by decide +kernel
theorem dX2_steps_16 : decode cX2_steps 16 = .ok (.iconst 0, 1) := by decide +kernel
theorem dX2_steps_17 : decode cX2_steps 17 = .ok (.iconst 0, 1) := by decide +kernel
theorem dX2_steps_18 : decode cX2_steps 18 = .ok (.invokestatic 127, 3) := by decide +kernel
theorem dX2_steps_21 : decode cX2_steps 21 = .ok (.istore_n 2, 1) := by decide +kernel
theorem dX2_steps_22 : decode cX2_steps 22 = .ok (.iload_n 2, 1) := by decide +kernel
theorem dX2_steps_23 : decode cX2_steps 23 = .ok (.sipush 1000, 3) := by decide +kernel
theorem dX2_steps_26 : decode cX2_steps 26 = .ok (.if_icmp .ge 7, 3) := by decide +kernel
theorem dX2_steps_29 : decode cX2_steps 29 = .ok (.iload_n 2, 1) := by decide +kernel
theorem dX2_steps_30 : decode cX2_steps 30 = .ok (.goto 4, 3) := by decide +kernel
theorem dX2_steps_33 : decode cX2_steps 33 = .ok (.iconst (-1), 1) := by decide +kernel
theorem dX2_steps_34 : decode cX2_steps 34 = .ok (.ireturn, 1) := by decide +kernel
set_option maxRecDepth 20000 in
theorem ggX2_pass_X2_checkHours : GoodIn wsX2_pass wsX2_checkHours := goodIn_ca (goodIn_r _ [5, 6, 7] (by decide +kernel) (by decide +kernel)) (goodIn_sub (fun _ h => List.mem_cons_of_mem _ (List.mem_append_right _ h)) (by decide +kernel))
set_option maxRecDepth 20000 in
theorem gX2_pass_X2_checkHours : GoodIn wsX2_pass (va_wsS RX2 131 yX2_checkHours wsX2_checkHours) := goodIn_app (goodIn_of _ (by decide +kernel)) ggX2_pass_X2_checkHours
set_option maxRecDepth 20000 in
theorem ggX2_pass_X2_letHourGo : GoodIn wsX2_pass wsX2_letHourGo := goodIn_r _ [11, 12, 13, 14, 15, 16, 17, 18, 19, 20, 21, 22, 23, 24, 25, 26, 27, 28, 29, 30, 31, 32, 33, 34, 35, 36, 37, 38, 39, 40, 41, 42, 43, 44, 45, 46, 47, 48, 49, 50, 51, 52, 53, 54, 55, 56, 57, 58, 59, 60, 61, 62, 63, 64, 65, 66, 67, 68, 69, 70, 71] (by decide +kernel) (by decide +kernel)
set_option maxRecDepth 20000 in
theorem gX2_pass_X2_letHourGo : GoodIn wsX2_pass (wsV RX2 134 RX2 yX2_letHourGo wsX2_letHourGo) := goodIn_app (goodIn_of _ (by decide +kernel)) ggX2_pass_X2_letHourGo
theorem dX2_pass_0 : decode cX2_pass 0 = .ok (.iload_n 1, 1) := by decide +kernel
theorem dX2_pass_1 : decode cX2_pass 1 = .ok (.invokestatic 131, 3) := by decide +kernel
theorem dX2_pass_4 : decode cX2_pass 4 = .ok (.iconst 0, 1) := by decide +kernel
theorem dX2_pass_5 : decode cX2_pass 5 = .ok (.istore_n 2, 1) := by decide +kernel
theorem dX2_pass_6 : decode cX2_pass 6 = .ok (.iconst 0, 1) := by decide +kernel
theorem dX2_pass_7 : decode cX2_pass 7 = .ok (.istore_n 3, 1) := by decide +kernel
theorem dX2_pass_8 : decode cX2_pass 8 = .ok (.iload_n 3, 1) := by decide +kernel
theorem dX2_pass_9 : decode cX2_pass 9 = .ok (.iload_n 1, 1) := by decide +kernel
theorem dX2_pass_10 : decode cX2_pass 10 = .ok (.if_icmp .ge 23, 3) := by decide +kernel
theorem dX2_pass_13 : decode cX2_pass 13 = .ok (.iload_n 2, 1) := by decide +kernel
theorem dX2_pass_14 : decode cX2_pass 14 = .ok (.aload_n 0, 1) := by decide +kernel
theorem dX2_pass_15 : decode cX2_pass 15 = .ok (.aload_n 0, 1) := by decide +kernel
theorem dX2_pass_16 : decode cX2_pass 16 = .ok (.getfield 10, 3) := by decide +kernel
theorem dX2_pass_19 : decode cX2_pass 19 = .ok (.iconst 0, 1) := by decide +kernel
theorem dX2_pass_20 : decode cX2_pass 20 = .ok (.bipush 12, 2) := by decide +kernel
theorem dX2_pass_22 : decode cX2_pass 22 = .ok (.invokevirtual 134, 3) := by decide +kernel
theorem dX2_pass_25 : decode cX2_pass 25 = .ok (.iadd, 1) := by decide +kernel
theorem dX2_pass_26 : decode cX2_pass 26 = .ok (.istore_n 2, 1) := by decide +kernel
theorem dX2_pass_27 : decode cX2_pass 27 = .ok (.iinc 3 1, 3) := by decide +kernel
theorem dX2_pass_30 : decode cX2_pass 30 = .ok (.goto (-22), 3) := by decide +kernel
theorem dX2_pass_33 : decode cX2_pass 33 = .ok (.iload_n 2, 1) := by decide +kernel
theorem dX2_pass_34 : decode cX2_pass 34 = .ok (.ireturn, 1) := by decide +kernel
set_option maxRecDepth 20000 in
theorem ggX2_count_X2_countOf : GoodIn wsX2_count wsX2_countOf := goodIn_r _ [7, 8, 9, 10, 11, 12, 13, 14, 15, 16, 17, 18, 19, 20, 21, 22, 23, 6, 24, 25, 26, 27, 28, 29, 30, 31, 32, 33, 34, 35, 36, 37, 38, 39, 40, 41, 42, 43, 44, 45, 46, 47, 48, 49, 50, 51, 52, 53, 54, 55, 56, 57, 58, 59, 60, 61, 62, 63, 64, 65, 66, 67, 68] (by decide +kernel) (by decide +kernel)
set_option maxRecDepth 20000 in
theorem gX2_count_X2_countOf : GoodIn wsX2_count (wsV RX2 140 RX2 yX2_countOf wsX2_countOf) := goodIn_app (goodIn_of _ (by decide +kernel)) ggX2_count_X2_countOf
theorem dX2_count_0 : decode cX2_count 0 = .ok (.iload_n 1, 1) := by decide +kernel
theorem dX2_count_1 : decode cX2_count 1 = .ok (.ifCond .lt 9, 3) := by decide +kernel
theorem dX2_count_4 : decode cX2_count 4 = .ok (.iload_n 1, 1) := by decide +kernel
theorem dX2_count_5 : decode cX2_count 5 = .ok (.bipush 8, 2) := by decide +kernel
theorem dX2_count_7 : decode cX2_count 7 = .ok (.if_icmp .lt 13, 3) := by decide +kernel
theorem dX2_count_10 : decode cX2_count 10 = .ok (.new 73, 3) := by decide +kernel
theorem dX2_count_13 : decode cX2_count 13 = .ok (.dup, 1) := by decide +kernel
theorem dX2_count_14 : decode cX2_count 14 = .ok (.ldc 138, 2) := by decide +kernel
theorem dX2_count_16 : decode cX2_count 16 = .ok (.invokespecial 77, 3) := by decide +kernel
theorem dX2_count_19 : decode cX2_count 19 = .ok (.athrow, 1) := by decide +kernel
theorem dX2_count_20 : decode cX2_count 20 = .ok (.aload_n 0, 1) := by decide +kernel
theorem dX2_count_21 : decode cX2_count 21 = .ok (.iload_n 1, 1) := by decide +kernel
theorem dX2_count_22 : decode cX2_count 22 = .ok (.invokevirtual 140, 3) := by decide +kernel
theorem dX2_count_25 : decode cX2_count 25 = .ok (.ireturn, 1) := by decide +kernel
set_option maxRecDepth 20000 in
theorem ggX2_bears_X2_checkString : GoodIn wsX2_bears wsX2_checkString := goodIn_ca (goodIn_r _ [4, 5, 6] (by decide +kernel) (by decide +kernel)) (goodIn_sub (fun _ h => List.mem_cons_of_mem _ (List.mem_append_right _ h)) (by decide +kernel))
set_option maxRecDepth 20000 in
theorem gX2_bears_X2_checkString : GoodIn wsX2_bears (va_wsS RX2 37 yX2_checkString wsX2_checkString) := goodIn_app (goodIn_of _ (by decide +kernel)) ggX2_bears_X2_checkString
set_option maxRecDepth 20000 in
theorem ggX2_bears_X2_withstands : GoodIn wsX2_bears wsX2_withstands := goodIn_r _ [10, 11, 12, 13, 14, 15, 16, 17, 18, 19, 20, 21, 22, 23, 24, 25, 26, 27, 28, 29, 30, 31, 32, 33, 34, 35, 36, 37, 38, 39, 40, 41, 42, 43, 44, 45, 46, 47, 48, 49, 50, 51, 52, 53, 54, 55, 56, 57, 58, 59, 60, 61, 62, 63, 64, 65, 66, 67, 68, 69, 70, 71, 72, 73, 74, 75, 76] (by decide +kernel) (by decide +kernel)
set_option maxRecDepth 20000 in
theorem gX2_bears_X2_withstands : GoodIn wsX2_bears (wsV RX2 143 RX2 yX2_withstands wsX2_withstands) := goodIn_app (goodIn_of _ (by decide +kernel)) ggX2_bears_X2_withstands
theorem dX2_bears_0 : decode cX2_bears 0 = .ok (.iload_n 1, 1) := by decide +kernel
theorem dX2_bears_1 : decode cX2_bears 1 = .ok (.invokestatic 37, 3) := by decide +kernel
theorem dX2_bears_4 : decode cX2_bears 4 = .ok (.bipush 20, 2) := by decide +kernel
theorem dX2_bears_6 : decode cX2_bears 6 = .ok (.istore_n 2, 1) := by decide +kernel
theorem dX2_bears_7 : decode cX2_bears 7 = .ok (.iload_n 2, 1) := by decide +kernel
theorem dX2_bears_8 : decode cX2_bears 8 = .ok (.ifCond .lt 20, 3) := by decide +kernel
theorem dX2_bears_11 : decode cX2_bears 11 = .ok (.aload_n 0, 1) := by decide +kernel
theorem dX2_bears_12 : decode cX2_bears 12 = .ok (.iload_n 1, 1) := by decide +kernel
theorem dX2_bears_13 : decode cX2_bears 13 = .ok (.iload_n 2, 1) := by decide +kernel
theorem dX2_bears_14 : decode cX2_bears 14 = .ok (.invokevirtual 143, 3) := by decide +kernel
theorem dX2_bears_17 : decode cX2_bears 17 = .ok (.ifCond .eq 5, 3) := by decide +kernel
theorem dX2_bears_20 : decode cX2_bears 20 = .ok (.iload_n 2, 1) := by decide +kernel
theorem dX2_bears_21 : decode cX2_bears 21 = .ok (.ireturn, 1) := by decide +kernel
theorem dX2_bears_22 : decode cX2_bears 22 = .ok (.iinc 2 (-1), 3) := by decide +kernel
theorem dX2_bears_25 : decode cX2_bears 25 = .ok (.goto (-18), 3) := by decide +kernel
theorem dX2_bears_28 : decode cX2_bears 28 = .ok (.iconst (-1), 1) := by decide +kernel
theorem dX2_bears_29 : decode cX2_bears 29 = .ok (.ireturn, 1) := by decide +kernel
set_option maxRecDepth 20000 in
theorem ggX2_first_X1_copy : GoodIn wsX2_first wsX1_copy := goodIn_r _ [7, 8, 9, 10, 11, 12, 13, 14, 15, 69, 70, 71, 72, 73, 74, 75, 76] (by decide +kernel) (by decide +kernel)
set_option maxRecDepth 20000 in
theorem gX2_first_X1_copy : GoodIn wsX2_first (wsV RX2 146 RX1 yX1_copy wsX1_copy) := goodIn_app (goodIn_of _ (by decide +kernel)) ggX2_first_X1_copy
set_option maxRecDepth 20000 in
theorem ggX2_first_X2_letHourGo : GoodIn wsX2_first wsX2_letHourGo := goodIn_r _ [20, 21, 22, 23, 24, 25, 6, 26, 15, 27, 28, 29, 30, 31, 32, 33, 34, 13, 35, 36, 37, 38, 11, 39, 40, 41, 42, 10, 12, 43, 44, 45, 46, 9, 8, 14, 47, 48, 49, 50, 51, 52, 53, 54, 55, 56, 57, 63, 64, 65, 66, 67, 68, 69, 70, 71, 72, 73, 74, 75, 76] (by decide +kernel) (by decide +kernel)
set_option maxRecDepth 20000 in
theorem gX2_first_X2_letHourGo : GoodIn wsX2_first (wsV RX2 134 RX2 yX2_letHourGo wsX2_letHourGo) := goodIn_app (goodIn_of _ (by decide +kernel)) ggX2_first_X2_letHourGo
set_option maxRecDepth 20000 in
theorem ggX2_first_X2_lowestToBreak : GoodIn wsX2_first wsX2_lowestToBreak := goodIn_r _ [61, 2, 62, 1, 63, 64, 65, 66, 67, 68, 69, 70, 71, 72, 73, 74, 75, 76] (by decide +kernel) (by decide +kernel)
set_option maxRecDepth 20000 in
theorem gX2_first_X2_lowestToBreak : GoodIn wsX2_first (wsV RX2 150 RX2 yX2_lowestToBreak wsX2_lowestToBreak) := goodIn_app (goodIn_of _ (by decide +kernel)) ggX2_first_X2_lowestToBreak
theorem dX2_first_0 : decode cX2_first 0 = .ok (.aload_n 0, 1) := by decide +kernel
theorem dX2_first_1 : decode cX2_first 1 = .ok (.getfield 16, 3) := by decide +kernel
theorem dX2_first_4 : decode cX2_first 4 = .ok (.aload_n 0, 1) := by decide +kernel
theorem dX2_first_5 : decode cX2_first 5 = .ok (.getfield 10, 3) := by decide +kernel
theorem dX2_first_8 : decode cX2_first 8 = .ok (.invokevirtual 146, 3) := by decide +kernel
theorem dX2_first_11 : decode cX2_first 11 = .ok (.iconst 0, 1) := by decide +kernel
theorem dX2_first_12 : decode cX2_first 12 = .ok (.istore_n 1, 1) := by decide +kernel
theorem dX2_first_13 : decode cX2_first 13 = .ok (.iload_n 1, 1) := by decide +kernel
theorem dX2_first_14 : decode cX2_first 14 = .ok (.sipush 200, 3) := by decide +kernel
theorem dX2_first_17 : decode cX2_first 17 = .ok (.if_icmp .ge 28, 3) := by decide +kernel
theorem dX2_first_20 : decode cX2_first 20 = .ok (.aload_n 0, 1) := by decide +kernel
theorem dX2_first_21 : decode cX2_first 21 = .ok (.aload_n 0, 1) := by decide +kernel
theorem dX2_first_22 : decode cX2_first 22 = .ok (.getfield 16, 3) := by decide +kernel
theorem dX2_first_25 : decode cX2_first 25 = .ok (.iconst 0, 1) := by decide +kernel
theorem dX2_first_26 : decode cX2_first 26 = .ok (.bipush 12, 2) := by decide +kernel
theorem dX2_first_28 : decode cX2_first 28 = .ok (.invokevirtual 134, 3) := by decide +kernel
theorem dX2_first_31 : decode cX2_first 31 = .ok (.ifCond .le 8, 3) := by decide +kernel
theorem dX2_first_34 : decode cX2_first 34 = .ok (.aload_n 0, 1) := by decide +kernel
theorem dX2_first_35 : decode cX2_first 35 = .ok (.invokevirtual 150, 3) := by decide +kernel
theorem dX2_first_38 : decode cX2_first 38 = .ok (.ireturn, 1) := by decide +kernel
theorem dX2_first_39 : decode cX2_first 39 = .ok (.iinc 1 1, 3) := by decide +kernel
theorem dX2_first_42 : decode cX2_first 42 = .ok (.goto (-29), 3) := by decide +kernel
theorem dX2_first_45 : decode cX2_first 45 = .ok (.iconst (-1), 1) := by decide +kernel
theorem dX2_first_46 : decode cX2_first 46 = .ok (.ireturn, 1) := by decide +kernel
set_option maxRecDepth 20000 in
theorem ggX2_holds_X2_checkChord : GoodIn wsX2_holds wsX2_checkChord := goodIn_ca (goodIn_r _ [10, 11, 12, 13, 82, 83, 84, 85, 86, 87] (by decide +kernel) (by decide +kernel)) (goodIn_sub (fun _ h => List.mem_cons_of_mem _ (List.mem_append_right _ h)) (by decide +kernel))
set_option maxRecDepth 20000 in
theorem gX2_holds_X2_checkChord : GoodIn wsX2_holds (wsV RX2 116 RX2 yX2_checkChord wsX2_checkChord) := goodIn_app (goodIn_of _ (by decide +kernel)) ggX2_holds_X2_checkChord
set_option maxRecDepth 20000 in
theorem ggX2_holds_X1_copy : GoodIn wsX2_holds wsX1_copy := goodIn_r _ [18, 19, 20, 21, 22, 23, 24, 25, 26, 91, 92, 93, 94, 95, 96, 97, 98] (by decide +kernel) (by decide +kernel)
set_option maxRecDepth 20000 in
theorem gX2_holds_X1_copy : GoodIn wsX2_holds (wsV RX2 146 RX1 yX1_copy wsX1_copy) := goodIn_app (goodIn_of _ (by decide +kernel)) ggX2_holds_X1_copy
set_option maxRecDepth 20000 in
theorem ggX2_holds_X1_isTunedTo : GoodIn wsX2_holds wsX1_isTunedTo := goodIn_r _ [30, 31, 32, 33, 34, 17, 35, 36, 24, 37, 38, 39, 40, 41, 42, 43, 44, 45, 20, 19, 21, 25, 88, 89, 90, 91, 92, 93, 94, 95, 96, 97, 98] (by decide +kernel) (by decide +kernel)
set_option maxRecDepth 20000 in
theorem gX2_holds_X1_isTunedTo : GoodIn wsX2_holds (wsV RX2 123 RX1 yX1_isTunedTo wsX1_isTunedTo) := goodIn_app (goodIn_of _ (by decide +kernel)) ggX2_holds_X1_isTunedTo
set_option maxRecDepth 20000 in
theorem ggX2_holds_X2_letHourGo : GoodIn wsX2_holds wsX2_letHourGo := goodIn_r _ [49, 50, 51, 52, 53, 54, 17, 55, 26, 56, 57, 58, 59, 60, 61, 62, 63, 24, 64, 65, 66, 67, 22, 68, 69, 40, 70, 21, 23, 42, 43, 44, 45, 20, 19, 25, 71, 72, 73, 74, 75, 76, 77, 78, 79, 80, 81, 82, 83, 84, 85, 86, 87, 91, 92, 93, 94, 95, 96, 97, 98] (by decide +kernel) (by decide +kernel)
set_option maxRecDepth 20000 in
theorem gX2_holds_X2_letHourGo : GoodIn wsX2_holds (wsV RX2 134 RX2 yX2_letHourGo wsX2_letHourGo) := goodIn_app (goodIn_of _ (by decide +kernel)) ggX2_holds_X2_letHourGo
theorem dX2_holds_0 : decode cX2_holds 0 = .ok (.aload_n 0, 1) := by decide +kernel
theorem dX2_holds_1 : decode cX2_holds 1 = .ok (.iload_n 1, 1) := by decide +kernel
theorem dX2_holds_2 : decode cX2_holds 2 = .ok (.invokevirtual 116, 3) := by decide +kernel
theorem dX2_holds_5 : decode cX2_holds 5 = .ok (.aload_n 0, 1) := by decide +kernel
theorem dX2_holds_6 : decode cX2_holds 6 = .ok (.getfield 28, 3) := by decide +kernel
theorem dX2_holds_9 : decode cX2_holds 9 = .ok (.iload_n 1, 1) := by decide +kernel
theorem dX2_holds_10 : decode cX2_holds 10 = .ok (.aaload, 1) := by decide +kernel
theorem dX2_holds_11 : decode cX2_holds 11 = .ok (.astore_n 2, 1) := by decide +kernel
theorem dX2_holds_12 : decode cX2_holds 12 = .ok (.aload_n 0, 1) := by decide +kernel
theorem dX2_holds_13 : decode cX2_holds 13 = .ok (.getfield 16, 3) := by decide +kernel
theorem dX2_holds_16 : decode cX2_holds 16 = .ok (.aload_n 0, 1) := by decide +kernel
theorem dX2_holds_17 : decode cX2_holds 17 = .ok (.getfield 10, 3) := by decide +kernel
theorem dX2_holds_20 : decode cX2_holds 20 = .ok (.invokevirtual 146, 3) := by decide +kernel
theorem dX2_holds_23 : decode cX2_holds 23 = .ok (.iconst 0, 1) := by decide +kernel
theorem dX2_holds_24 : decode cX2_holds 24 = .ok (.istore_n 3, 1) := by decide +kernel
theorem dX2_holds_25 : decode cX2_holds 25 = .ok (.iload_n 3, 1) := by decide +kernel
theorem dX2_holds_26 : decode cX2_holds 26 = .ok (.sipush 200, 3) := by decide +kernel
theorem dX2_holds_29 : decode cX2_holds 29 = .ok (.if_icmp .gt 44, 3) := by decide +kernel
theorem dX2_holds_32 : decode cX2_holds 32 = .ok (.aload_n 0, 1) := by decide +kernel
theorem dX2_holds_33 : decode cX2_holds 33 = .ok (.getfield 16, 3) := by decide +kernel
theorem dX2_holds_36 : decode cX2_holds 36 = .ok (.aload_n 2, 1) := by decide +kernel
theorem dX2_holds_37 : decode cX2_holds 37 = .ok (.invokevirtual 123, 3) := by decide +kernel
theorem dX2_holds_40 : decode cX2_holds 40 = .ok (.ifCond .ne 5, 3) := by decide +kernel
theorem dX2_holds_43 : decode cX2_holds 43 = .ok (.iload_n 3, 1) := by decide +kernel
theorem dX2_holds_44 : decode cX2_holds 44 = .ok (.ireturn, 1) := by decide +kernel
theorem dX2_holds_45 : decode cX2_holds 45 = .ok (.aload_n 0, 1) := by decide +kernel
theorem dX2_holds_46 : decode cX2_holds 46 = .ok (.aload_n 0, 1) := by decide +kernel
theorem dX2_holds_47 : decode cX2_holds 47 = .ok (.getfield 16, 3) := by decide +kernel
theorem dX2_holds_50 : decode cX2_holds 50 = .ok (.aload_n 2, 1) := by decide +kernel
theorem dX2_holds_51 : decode cX2_holds 51 = .ok (.getfield 154, 3) := by decide +kernel
theorem dX2_holds_54 : decode cX2_holds 54 = .ok (.aload_n 2, 1) := by decide +kernel
theorem dX2_holds_55 : decode cX2_holds 55 = .ok (.getfield 154, 3) := by decide +kernel
theorem dX2_holds_58 : decode cX2_holds 58 = .ok (.aload_n 2, 1) := by decide +kernel
theorem dX2_holds_59 : decode cX2_holds 59 = .ok (.getfield 157, 3) := by decide +kernel
theorem dX2_holds_62 : decode cX2_holds 62 = .ok (.iadd, 1) := by decide +kernel
theorem dX2_holds_63 : decode cX2_holds 63 = .ok (.invokevirtual 134, 3) := by decide +kernel
theorem dX2_holds_66 : decode cX2_holds 66 = .ok (.pop, 1) := by decide +kernel
theorem dX2_holds_67 : decode cX2_holds 67 = .ok (.iinc 3 1, 3) := by decide +kernel
theorem dX2_holds_70 : decode cX2_holds 70 = .ok (.goto (-45), 3) := by decide +kernel
theorem dX2_holds_73 : decode cX2_holds 73 = .ok (.iconst (-1), 1) := by decide +kernel
theorem dX2_holds_74 : decode cX2_holds 74 = .ok (.ireturn, 1) := by decide +kernel
set_option maxRecDepth 20000 in
theorem ggX2_foresee_X2_checkHours : GoodIn wsX2_foresee wsX2_checkHours := goodIn_ca (goodIn_r _ [6, 7, 8] (by decide +kernel) (by decide +kernel)) (goodIn_sub (fun _ h => List.mem_cons_of_mem _ (List.mem_append_left _ (List.mem_append_right _ h))) (by decide +kernel))
set_option maxRecDepth 20000 in
theorem gX2_foresee_X2_checkHours : GoodIn wsX2_foresee (va_wsS RX2 131 yX2_checkHours wsX2_checkHours) := goodIn_app (goodIn_of _ (by decide +kernel)) ggX2_foresee_X2_checkHours
set_option maxRecDepth 20000 in
theorem ggX2_foresee_X2_checkString : GoodIn wsX2_foresee wsX2_checkString := goodIn_ca (goodIn_r _ [11, 12, 13] (by decide +kernel) (by decide +kernel)) (goodIn_sub (fun _ h => List.mem_cons_of_mem _ (List.mem_append_right _ h)) (by decide +kernel))
set_option maxRecDepth 20000 in
theorem gX2_foresee_X2_checkString : GoodIn wsX2_foresee (va_wsS RX2 37 yX2_checkString wsX2_checkString) := goodIn_app (goodIn_of _ (by decide +kernel)) ggX2_foresee_X2_checkString
set_option maxRecDepth 20000 in
theorem ggX2_foresee_X1_copy : GoodIn wsX2_foresee wsX1_copy := goodIn_r _ [18, 19, 20, 21, 22, 23, 24, 25, 26, 75, 76, 77, 78, 79, 80, 81, 82] (by decide +kernel) (by decide +kernel)
set_option maxRecDepth 20000 in
theorem gX2_foresee_X1_copy : GoodIn wsX2_foresee (wsV RX2 146 RX1 yX1_copy wsX1_copy) := goodIn_app (goodIn_of _ (by decide +kernel)) ggX2_foresee_X1_copy
set_option maxRecDepth 20000 in
theorem ggX2_foresee_X2_letHourGo : GoodIn wsX2_foresee wsX2_letHourGo := goodIn_r _ [30, 31, 32, 33, 34, 35, 17, 36, 26, 37, 38, 39, 40, 41, 42, 43, 44, 24, 45, 46, 47, 48, 22, 49, 50, 51, 52, 21, 23, 53, 54, 55, 56, 20, 19, 25, 57, 58, 59, 60, 61, 62, 63, 64, 65, 66, 67, 69, 70, 71, 72, 73, 74, 75, 76, 77, 78, 79, 80, 81, 82] (by decide +kernel) (by decide +kernel)
set_option maxRecDepth 20000 in
theorem gX2_foresee_X2_letHourGo : GoodIn wsX2_foresee (wsV RX2 134 RX2 yX2_letHourGo wsX2_letHourGo) := goodIn_app (goodIn_of _ (by decide +kernel)) ggX2_foresee_X2_letHourGo
set_option maxRecDepth 20000 in
theorem ggX2_foresee_X1_toneOf : GoodIn wsX2_foresee wsX1_toneOf := goodIn_r _ [56, 24, 20, 19, 21, 25, 75, 76, 77, 78, 79, 80, 81, 82] (by decide +kernel) (by decide +kernel)
set_option maxRecDepth 20000 in
theorem gX2_foresee_X1_toneOf : GoodIn wsX2_foresee (wsV RX2 63 RX1 yX1_toneOf wsX1_toneOf) := goodIn_app (goodIn_of _ (by decide +kernel)) ggX2_foresee_X1_toneOf
theorem dX2_foresee_0 : decode cX2_foresee 0 = .ok (.iload_n 1, 1) := by decide +kernel
theorem dX2_foresee_1 : decode cX2_foresee 1 = .ok (.invokestatic 131, 3) := by decide +kernel
theorem dX2_foresee_4 : decode cX2_foresee 4 = .ok (.iload_n 2, 1) := by decide +kernel
theorem dX2_foresee_5 : decode cX2_foresee 5 = .ok (.invokestatic 37, 3) := by decide +kernel
theorem dX2_foresee_8 : decode cX2_foresee 8 = .ok (.aload_n 0, 1) := by decide +kernel
theorem dX2_foresee_9 : decode cX2_foresee 9 = .ok (.getfield 16, 3) := by decide +kernel
theorem dX2_foresee_12 : decode cX2_foresee 12 = .ok (.aload_n 0, 1) := by decide +kernel
theorem dX2_foresee_13 : decode cX2_foresee 13 = .ok (.getfield 10, 3) := by decide +kernel
theorem dX2_foresee_16 : decode cX2_foresee 16 = .ok (.invokevirtual 146, 3) := by decide +kernel
theorem dX2_foresee_19 : decode cX2_foresee 19 = .ok (.iconst 0, 1) := by decide +kernel
theorem dX2_foresee_20 : decode cX2_foresee 20 = .ok (.istore_n 3, 1) := by decide +kernel
theorem dX2_foresee_21 : decode cX2_foresee 21 = .ok (.iload_n 3, 1) := by decide +kernel
theorem dX2_foresee_22 : decode cX2_foresee 22 = .ok (.iload_n 1, 1) := by decide +kernel
theorem dX2_foresee_23 : decode cX2_foresee 23 = .ok (.if_icmp .ge 22, 3) := by decide +kernel
theorem dX2_foresee_26 : decode cX2_foresee 26 = .ok (.aload_n 0, 1) := by decide +kernel
theorem dX2_foresee_27 : decode cX2_foresee 27 = .ok (.aload_n 0, 1) := by decide +kernel
theorem dX2_foresee_28 : decode cX2_foresee 28 = .ok (.getfield 16, 3) := by decide +kernel
theorem dX2_foresee_31 : decode cX2_foresee 31 = .ok (.iload_n 2, 1) := by decide +kernel
theorem dX2_foresee_32 : decode cX2_foresee 32 = .ok (.iload_n 2, 1) := by decide +kernel
theorem dX2_foresee_33 : decode cX2_foresee 33 = .ok (.iconst 1, 1) := by decide +kernel
theorem dX2_foresee_34 : decode cX2_foresee 34 = .ok (.iadd, 1) := by decide +kernel
theorem dX2_foresee_35 : decode cX2_foresee 35 = .ok (.invokevirtual 134, 3) := by decide +kernel
theorem dX2_foresee_38 : decode cX2_foresee 38 = .ok (.pop, 1) := by decide +kernel
theorem dX2_foresee_39 : decode cX2_foresee 39 = .ok (.iinc 3 1, 3) := by decide +kernel
theorem dX2_foresee_42 : decode cX2_foresee 42 = .ok (.goto (-21), 3) := by decide +kernel
theorem dX2_foresee_45 : decode cX2_foresee 45 = .ok (.aload_n 0, 1) := by decide +kernel
theorem dX2_foresee_46 : decode cX2_foresee 46 = .ok (.getfield 16, 3) := by decide +kernel
theorem dX2_foresee_49 : decode cX2_foresee 49 = .ok (.iload_n 2, 1) := by decide +kernel
theorem dX2_foresee_50 : decode cX2_foresee 50 = .ok (.invokevirtual 63, 3) := by decide +kernel
theorem dX2_foresee_53 : decode cX2_foresee 53 = .ok (.ireturn, 1) := by decide +kernel
set_option maxRecDepth 20000 in
theorem ggX2_mean_X1_wholeStrings : GoodIn wsX2_mean wsX1_wholeStrings := goodIn_r _ [6, 7, 26, 27, 28, 29, 30, 31, 32, 33] (by decide +kernel) (by decide +kernel)
set_option maxRecDepth 20000 in
theorem gX2_mean_X1_wholeStrings : GoodIn wsX2_mean (wsV RX2 160 RX1 yX1_wholeStrings wsX1_wholeStrings) := goodIn_app (goodIn_of _ (by decide +kernel)) ggX2_mean_X1_wholeStrings
set_option maxRecDepth 20000 in
theorem ggX2_mean_X1_sumOfTones : GoodIn wsX2_mean wsX1_sumOfTones := goodIn_r _ [11, 12, 13, 14, 5, 15, 7, 16, 17, 18, 19, 26, 27, 28, 29, 30, 31, 32, 33] (by decide +kernel) (by decide +kernel)
set_option maxRecDepth 20000 in
theorem gX2_mean_X1_sumOfTones : GoodIn wsX2_mean (wsV RX2 163 RX1 yX1_sumOfTones wsX1_sumOfTones) := goodIn_app (goodIn_of _ (by decide +kernel)) ggX2_mean_X1_sumOfTones
theorem dX2_mean_0 : decode cX2_mean 0 = .ok (.aload_n 0, 1) := by decide +kernel
theorem dX2_mean_1 : decode cX2_mean 1 = .ok (.getfield 10, 3) := by decide +kernel
theorem dX2_mean_4 : decode cX2_mean 4 = .ok (.invokevirtual 160, 3) := by decide +kernel
theorem dX2_mean_7 : decode cX2_mean 7 = .ok (.istore_n 1, 1) := by decide +kernel
theorem dX2_mean_8 : decode cX2_mean 8 = .ok (.iload_n 1, 1) := by decide +kernel
theorem dX2_mean_9 : decode cX2_mean 9 = .ok (.ifCond .ne 7, 3) := by decide +kernel
theorem dX2_mean_12 : decode cX2_mean 12 = .ok (.dconst 0, 1) := by decide +kernel
theorem dX2_mean_13 : decode cX2_mean 13 = .ok (.goto 14, 3) := by decide +kernel
theorem dX2_mean_16 : decode cX2_mean 16 = .ok (.aload_n 0, 1) := by decide +kernel
theorem dX2_mean_17 : decode cX2_mean 17 = .ok (.getfield 10, 3) := by decide +kernel
theorem dX2_mean_20 : decode cX2_mean 20 = .ok (.invokevirtual 163, 3) := by decide +kernel
theorem dX2_mean_23 : decode cX2_mean 23 = .ok (.i2d, 1) := by decide +kernel
theorem dX2_mean_24 : decode cX2_mean 24 = .ok (.iload_n 1, 1) := by decide +kernel
theorem dX2_mean_25 : decode cX2_mean 25 = .ok (.i2d, 1) := by decide +kernel
theorem dX2_mean_26 : decode cX2_mean 26 = .ok (.ddiv, 1) := by decide +kernel
theorem dX2_mean_27 : decode cX2_mean 27 = .ok (.dreturn, 1) := by decide +kernel
set_option maxRecDepth 20000 in
theorem ggX2_digest_X2_countOf : GoodIn wsX2_digest wsX2_countOf := goodIn_r _ [10, 3, 11, 4, 12, 13, 14, 15, 16, 17, 18, 19, 20, 21, 22, 23, 24, 9, 25, 5, 26, 27, 28, 29, 30, 31, 32, 33, 34, 35, 36, 37, 38, 39, 40, 41, 42, 43, 44, 45, 46, 47, 48, 49, 50, 51, 75, 76, 77, 78, 79, 80, 81, 82, 83, 84, 85, 86, 87, 88, 89, 90, 91] (by decide +kernel) (by decide +kernel)
set_option maxRecDepth 20000 in
theorem gX2_digest_X2_countOf : GoodIn wsX2_digest (wsV RX2 140 RX2 yX2_countOf wsX2_countOf) := goodIn_app (goodIn_of _ (by decide +kernel)) ggX2_digest_X2_countOf
set_option maxRecDepth 20000 in
theorem ggX2_digest_X1_factOf : GoodIn wsX2_digest wsX1_factOf := goodIn_r _ [55, 46, 45, 47, 56, 21, 57, 41, 42, 43, 19, 44, 48, 81, 82, 83, 84, 85, 86, 87, 88] (by decide +kernel) (by decide +kernel)
set_option maxRecDepth 20000 in
theorem gX2_digest_X1_factOf : GoodIn wsX2_digest (wsV RX2 87 RX1 yX1_factOf wsX1_factOf) := goodIn_app (goodIn_of _ (by decide +kernel)) ggX2_digest_X1_factOf
set_option maxRecDepth 20000 in
theorem ggX2_digest_X2_weatherAt : GoodIn wsX2_digest wsX2_weatherAt := goodIn_r _ [61, 62, 63, 75, 76, 77, 78, 79, 80] (by decide +kernel) (by decide +kernel)
set_option maxRecDepth 20000 in
theorem gX2_digest_X2_weatherAt : GoodIn wsX2_digest (wsV RX2 82 RX2 yX2_weatherAt wsX2_weatherAt) := goodIn_app (goodIn_of _ (by decide +kernel)) ggX2_digest_X2_weatherAt
set_option maxRecDepth 20000 in
theorem ggX2_digest_X2_digestWith : GoodIn wsX2_digest wsX2_digestWith := goodIn_r _ [67, 2, 68, 69, 70, 3, 71, 72, 73, 19, 74, 30, 35, 36, 37, 38, 39, 40, 41, 42, 43, 44, 21, 45, 46, 47, 48, 89, 90, 91, 75, 76, 77, 78, 79, 80, 81, 82, 83, 84, 85, 86, 87, 88] (by decide +kernel) (by decide +kernel)
set_option maxRecDepth 20000 in
theorem gX2_digest_X2_digestWith : GoodIn wsX2_digest (wsV RX2 170 RX2 yX2_digestWith wsX2_digestWith) := goodIn_app (goodIn_of _ (by decide +kernel)) ggX2_digest_X2_digestWith
theorem dX2_digest_0 : decode cX2_digest 0 = .ok (.ldc2_w 166, 3) := by decide +kernel
theorem dX2_digest_3 : decode cX2_digest 3 = .ok (.lstore_n 1, 1) := by decide +kernel
theorem dX2_digest_4 : decode cX2_digest 4 = .ok (.iconst 0, 1) := by decide +kernel
theorem dX2_digest_5 : decode cX2_digest 5 = .ok (.istore_n 3, 1) := by decide +kernel
theorem dX2_digest_6 : decode cX2_digest 6 = .ok (.iload_n 3, 1) := by decide +kernel
theorem dX2_digest_7 : decode cX2_digest 7 = .ok (.bipush 8, 2) := by decide +kernel
theorem dX2_digest_9 : decode cX2_digest 9 = .ok (.if_icmp .ge 22, 3) := by decide +kernel
theorem dX2_digest_12 : decode cX2_digest 12 = .ok (.lload_n 1, 1) := by decide +kernel
theorem dX2_digest_13 : decode cX2_digest 13 = .ok (.ldc2_w 168, 3) := by decide +kernel
theorem dX2_digest_16 : decode cX2_digest 16 = .ok (.lmul, 1) := by decide +kernel
theorem dX2_digest_17 : decode cX2_digest 17 = .ok (.aload_n 0, 1) := by decide +kernel
theorem dX2_digest_18 : decode cX2_digest 18 = .ok (.iload_n 3, 1) := by decide +kernel
theorem dX2_digest_19 : decode cX2_digest 19 = .ok (.invokevirtual 140, 3) := by decide +kernel
theorem dX2_digest_22 : decode cX2_digest 22 = .ok (.i2l, 1) := by decide +kernel
theorem dX2_digest_23 : decode cX2_digest 23 = .ok (.ladd, 1) := by decide +kernel
theorem dX2_digest_24 : decode cX2_digest 24 = .ok (.lstore_n 1, 1) := by decide +kernel
theorem dX2_digest_25 : decode cX2_digest 25 = .ok (.iinc 3 1, 3) := by decide +kernel
theorem dX2_digest_28 : decode cX2_digest 28 = .ok (.goto (-22), 3) := by decide +kernel
theorem dX2_digest_31 : decode cX2_digest 31 = .ok (.iconst 0, 1) := by decide +kernel
theorem dX2_digest_32 : decode cX2_digest 32 = .ok (.istore_n 3, 1) := by decide +kernel
theorem dX2_digest_33 : decode cX2_digest 33 = .ok (.iload_n 3, 1) := by decide +kernel
theorem dX2_digest_34 : decode cX2_digest 34 = .ok (.bipush 12, 2) := by decide +kernel
theorem dX2_digest_36 : decode cX2_digest 36 = .ok (.if_icmp .ge 43, 3) := by decide +kernel
theorem dX2_digest_39 : decode cX2_digest 39 = .ok (.iconst 0, 1) := by decide +kernel
theorem dX2_digest_40 : decode cX2_digest 40 = .ok (.istore 4, 2) := by decide +kernel
theorem dX2_digest_42 : decode cX2_digest 42 = .ok (.iload 4, 2) := by decide +kernel
theorem dX2_digest_44 : decode cX2_digest 44 = .ok (.bipush 7, 2) := by decide +kernel
theorem dX2_digest_46 : decode cX2_digest 46 = .ok (.if_icmp .ge 27, 3) := by decide +kernel
theorem dX2_digest_49 : decode cX2_digest 49 = .ok (.lload_n 1, 1) := by decide +kernel
theorem dX2_digest_50 : decode cX2_digest 50 = .ok (.ldc2_w 168, 3) := by decide +kernel
theorem dX2_digest_53 : decode cX2_digest 53 = .ok (.lmul, 1) := by decide +kernel
theorem dX2_digest_54 : decode cX2_digest 54 = .ok (.aload_n 0, 1) := by decide +kernel
theorem dX2_digest_55 : decode cX2_digest 55 = .ok (.getfield 10, 3) := by decide +kernel
theorem dX2_digest_58 : decode cX2_digest 58 = .ok (.iload_n 3, 1) := by decide +kernel
theorem dX2_digest_59 : decode cX2_digest 59 = .ok (.iload 4, 2) := by decide +kernel
theorem dX2_digest_61 : decode cX2_digest 61 = .ok (.invokevirtual 87, 3) := by decide +kernel
theorem dX2_digest_64 : decode cX2_digest 64 = .ok (.i2l, 1) := by decide +kernel
theorem dX2_digest_65 : decode cX2_digest 65 = .ok (.ladd, 1) := by decide +kernel
theorem dX2_digest_66 : decode cX2_digest 66 = .ok (.lstore_n 1, 1) := by decide +kernel
theorem dX2_digest_67 : decode cX2_digest 67 = .ok (.iinc 4 1, 3) := by decide +kernel
theorem dX2_digest_70 : decode cX2_digest 70 = .ok (.goto (-28), 3) := by decide +kernel
theorem dX2_digest_73 : decode cX2_digest 73 = .ok (.iinc 3 1, 3) := by decide +kernel
theorem dX2_digest_76 : decode cX2_digest 76 = .ok (.goto (-43), 3) := by decide +kernel
theorem dX2_digest_79 : decode cX2_digest 79 = .ok (.iconst 0, 1) := by decide +kernel
theorem dX2_digest_80 : decode cX2_digest 80 = .ok (.istore_n 3, 1) := by decide +kernel
theorem dX2_digest_81 : decode cX2_digest 81 = .ok (.iload_n 3, 1) := by decide +kernel
theorem dX2_digest_82 : decode cX2_digest 82 = .ok (.bipush 12, 2) := by decide +kernel
theorem dX2_digest_84 : decode cX2_digest 84 = .ok (.if_icmp .ge 22, 3) := by decide +kernel
theorem dX2_digest_87 : decode cX2_digest 87 = .ok (.lload_n 1, 1) := by decide +kernel
theorem dX2_digest_88 : decode cX2_digest 88 = .ok (.ldc2_w 168, 3) := by decide +kernel
theorem dX2_digest_91 : decode cX2_digest 91 = .ok (.lmul, 1) := by decide +kernel
theorem dX2_digest_92 : decode cX2_digest 92 = .ok (.aload_n 0, 1) := by decide +kernel
theorem dX2_digest_93 : decode cX2_digest 93 = .ok (.iload_n 3, 1) := by decide +kernel
theorem dX2_digest_94 : decode cX2_digest 94 = .ok (.invokevirtual 82, 3) := by decide +kernel
theorem dX2_digest_97 : decode cX2_digest 97 = .ok (.i2l, 1) := by decide +kernel
theorem dX2_digest_98 : decode cX2_digest 98 = .ok (.ladd, 1) := by decide +kernel
theorem dX2_digest_99 : decode cX2_digest 99 = .ok (.lstore_n 1, 1) := by decide +kernel
theorem dX2_digest_100 : decode cX2_digest 100 = .ok (.iinc 3 1, 3) := by decide +kernel
theorem dX2_digest_103 : decode cX2_digest 103 = .ok (.goto (-22), 3) := by decide +kernel
theorem dX2_digest_106 : decode cX2_digest 106 = .ok (.iconst 0, 1) := by decide +kernel
theorem dX2_digest_107 : decode cX2_digest 107 = .ok (.istore_n 3, 1) := by decide +kernel
theorem dX2_digest_108 : decode cX2_digest 108 = .ok (.iload_n 3, 1) := by decide +kernel
theorem dX2_digest_109 : decode cX2_digest 109 = .ok (.aload_n 0, 1) := by decide +kernel
theorem dX2_digest_110 : decode cX2_digest 110 = .ok (.getfield 33, 3) := by decide +kernel
theorem dX2_digest_113 : decode cX2_digest 113 = .ok (.if_icmp .ge 21, 3) := by decide +kernel
theorem dX2_digest_116 : decode cX2_digest 116 = .ok (.aload_n 0, 1) := by decide +kernel
theorem dX2_digest_117 : decode cX2_digest 117 = .ok (.lload_n 1, 1) := by decide +kernel
theorem dX2_digest_118 : decode cX2_digest 118 = .ok (.aload_n 0, 1) := by decide +kernel
theorem dX2_digest_119 : decode cX2_digest 119 = .ok (.getfield 28, 3) := by decide +kernel
theorem dX2_digest_122 : decode cX2_digest 122 = .ok (.iload_n 3, 1) := by decide +kernel
theorem dX2_digest_123 : decode cX2_digest 123 = .ok (.aaload, 1) := by decide +kernel
theorem dX2_digest_124 : decode cX2_digest 124 = .ok (.invokevirtual 170, 3) := by decide +kernel
theorem dX2_digest_127 : decode cX2_digest 127 = .ok (.lstore_n 1, 1) := by decide +kernel
theorem dX2_digest_128 : decode cX2_digest 128 = .ok (.iinc 3 1, 3) := by decide +kernel
theorem dX2_digest_131 : decode cX2_digest 131 = .ok (.goto (-23), 3) := by decide +kernel
theorem dX2_digest_134 : decode cX2_digest 134 = .ok (.lload_n 1, 1) := by decide +kernel
theorem dX2_digest_135 : decode cX2_digest 135 = .ok (.lreturn, 1) := by decide +kernel
theorem dX2_checkString_0 : decode cX2_checkString 0 = .ok (.iload_n 0, 1) := by decide +kernel
theorem dX2_checkString_1 : decode cX2_checkString 1 = .ok (.ifCond .lt 9, 3) := by decide +kernel
theorem dX2_checkString_4 : decode cX2_checkString 4 = .ok (.iload_n 0, 1) := by decide +kernel
theorem dX2_checkString_5 : decode cX2_checkString 5 = .ok (.bipush 12, 2) := by decide +kernel
theorem dX2_checkString_7 : decode cX2_checkString 7 = .ok (.if_icmp .lt 13, 3) := by decide +kernel
theorem dX2_checkString_10 : decode cX2_checkString 10 = .ok (.new 73, 3) := by decide +kernel
theorem dX2_checkString_13 : decode cX2_checkString 13 = .ok (.dup, 1) := by decide +kernel
theorem dX2_checkString_14 : decode cX2_checkString 14 = .ok (.ldc 174, 2) := by decide +kernel
theorem dX2_checkString_16 : decode cX2_checkString 16 = .ok (.invokespecial 77, 3) := by decide +kernel
theorem dX2_checkString_19 : decode cX2_checkString 19 = .ok (.athrow, 1) := by decide +kernel
theorem dX2_checkString_20 : decode cX2_checkString 20 = .ok (.return_, 1) := by decide +kernel
theorem dX2_checkWedgeSteps_0 : decode cX2_checkWedgeSteps 0 = .ok (.iload_n 0, 1) := by decide +kernel
theorem dX2_checkWedgeSteps_1 : decode cX2_checkWedgeSteps 1 = .ok (.bipush (-20), 2) := by decide +kernel
theorem dX2_checkWedgeSteps_3 : decode cX2_checkWedgeSteps 3 = .ok (.if_icmp .lt 9, 3) := by decide +kernel
theorem dX2_checkWedgeSteps_6 : decode cX2_checkWedgeSteps 6 = .ok (.iload_n 0, 1) := by decide +kernel
theorem dX2_checkWedgeSteps_7 : decode cX2_checkWedgeSteps 7 = .ok (.bipush 20, 2) := by decide +kernel
theorem dX2_checkWedgeSteps_9 : decode cX2_checkWedgeSteps 9 = .ok (.if_icmp .le 13, 3) := by decide +kernel
theorem dX2_checkWedgeSteps_12 : decode cX2_checkWedgeSteps 12 = .ok (.new 44, 3) := by decide +kernel
theorem dX2_checkWedgeSteps_15 : decode cX2_checkWedgeSteps 15 = .ok (.dup, 1) := by decide +kernel
theorem dX2_checkWedgeSteps_16 : decode cX2_checkWedgeSteps 16 = .ok (.ldc 176, 2) := by decide +kernel
theorem dX2_checkWedgeSteps_18 : decode cX2_checkWedgeSteps 18 = .ok (.invokespecial 48, 3) := by decide +kernel
theorem dX2_checkWedgeSteps_21 : decode cX2_checkWedgeSteps 21 = .ok (.athrow, 1) := by decide +kernel
theorem dX2_checkWedgeSteps_22 : decode cX2_checkWedgeSteps 22 = .ok (.return_, 1) := by decide +kernel
theorem dX2_checkTone_0 : decode cX2_checkTone 0 = .ok (.iload_n 0, 1) := by decide +kernel
theorem dX2_checkTone_1 : decode cX2_checkTone 1 = .ok (.iload_n 1, 1) := by decide +kernel
theorem dX2_checkTone_2 : decode cX2_checkTone 2 = .ok (.if_icmp .lt 10, 3) := by decide +kernel
theorem dX2_checkTone_5 : decode cX2_checkTone 5 = .ok (.iload_n 0, 1) := by decide +kernel
theorem dX2_checkTone_6 : decode cX2_checkTone 6 = .ok (.sipush 1500, 3) := by decide +kernel
theorem dX2_checkTone_9 : decode cX2_checkTone 9 = .ok (.if_icmp .le 13, 3) := by decide +kernel
theorem dX2_checkTone_12 : decode cX2_checkTone 12 = .ok (.new 44, 3) := by decide +kernel
theorem dX2_checkTone_15 : decode cX2_checkTone 15 = .ok (.dup, 1) := by decide +kernel
theorem dX2_checkTone_16 : decode cX2_checkTone 16 = .ok (.ldc 178, 2) := by decide +kernel
theorem dX2_checkTone_18 : decode cX2_checkTone 18 = .ok (.invokespecial 48, 3) := by decide +kernel
theorem dX2_checkTone_21 : decode cX2_checkTone 21 = .ok (.athrow, 1) := by decide +kernel
theorem dX2_checkTone_22 : decode cX2_checkTone 22 = .ok (.return_, 1) := by decide +kernel
theorem dX2_checkHours_0 : decode cX2_checkHours 0 = .ok (.iload_n 0, 1) := by decide +kernel
theorem dX2_checkHours_1 : decode cX2_checkHours 1 = .ok (.iconst 1, 1) := by decide +kernel
theorem dX2_checkHours_2 : decode cX2_checkHours 2 = .ok (.if_icmp .lt 10, 3) := by decide +kernel
theorem dX2_checkHours_5 : decode cX2_checkHours 5 = .ok (.iload_n 0, 1) := by decide +kernel
theorem dX2_checkHours_6 : decode cX2_checkHours 6 = .ok (.sipush 200, 3) := by decide +kernel
theorem dX2_checkHours_9 : decode cX2_checkHours 9 = .ok (.if_icmp .le 13, 3) := by decide +kernel
theorem dX2_checkHours_12 : decode cX2_checkHours 12 = .ok (.new 44, 3) := by decide +kernel
theorem dX2_checkHours_15 : decode cX2_checkHours 15 = .ok (.dup, 1) := by decide +kernel
theorem dX2_checkHours_16 : decode cX2_checkHours 16 = .ok (.ldc 180, 2) := by decide +kernel
theorem dX2_checkHours_18 : decode cX2_checkHours 18 = .ok (.invokespecial 48, 3) := by decide +kernel
theorem dX2_checkHours_21 : decode cX2_checkHours 21 = .ok (.athrow, 1) := by decide +kernel
theorem dX2_checkHours_22 : decode cX2_checkHours 22 = .ok (.return_, 1) := by decide +kernel
theorem dX2_checkChord_0 : decode cX2_checkChord 0 = .ok (.iload_n 1, 1) := by decide +kernel
theorem dX2_checkChord_1 : decode cX2_checkChord 1 = .ok (.ifCond .lt 11, 3) := by decide +kernel
theorem dX2_checkChord_4 : decode cX2_checkChord 4 = .ok (.iload_n 1, 1) := by decide +kernel
theorem dX2_checkChord_5 : decode cX2_checkChord 5 = .ok (.aload_n 0, 1) := by decide +kernel
theorem dX2_checkChord_6 : decode cX2_checkChord 6 = .ok (.getfield 33, 3) := by decide +kernel
theorem dX2_checkChord_9 : decode cX2_checkChord 9 = .ok (.if_icmp .lt 13, 3) := by decide +kernel
theorem dX2_checkChord_12 : decode cX2_checkChord 12 = .ok (.new 73, 3) := by decide +kernel
theorem dX2_checkChord_15 : decode cX2_checkChord 15 = .ok (.dup, 1) := by decide +kernel
theorem dX2_checkChord_16 : decode cX2_checkChord 16 = .ok (.ldc 182, 2) := by decide +kernel
theorem dX2_checkChord_18 : decode cX2_checkChord 18 = .ok (.invokespecial 77, 3) := by decide +kernel
theorem dX2_checkChord_21 : decode cX2_checkChord 21 = .ok (.athrow, 1) := by decide +kernel
theorem dX2_checkChord_22 : decode cX2_checkChord 22 = .ok (.return_, 1) := by decide +kernel
theorem dX2_weatherAt_0 : decode cX2_weatherAt 0 = .ok (.bipush 10, 2) := by decide +kernel
theorem dX2_weatherAt_2 : decode cX2_weatherAt 2 = .ok (.aload_n 0, 1) := by decide +kernel
theorem dX2_weatherAt_3 : decode cX2_weatherAt 3 = .ok (.getfield 19, 3) := by decide +kernel
theorem dX2_weatherAt_6 : decode cX2_weatherAt 6 = .ok (.iload_n 1, 1) := by decide +kernel
theorem dX2_weatherAt_7 : decode cX2_weatherAt 7 = .ok (.iaload, 1) := by decide +kernel
theorem dX2_weatherAt_8 : decode cX2_weatherAt 8 = .ok (.imul, 1) := by decide +kernel
theorem dX2_weatherAt_9 : decode cX2_weatherAt 9 = .ok (.aload_n 0, 1) := by decide +kernel
theorem dX2_weatherAt_10 : decode cX2_weatherAt 10 = .ok (.getfield 23, 3) := by decide +kernel
theorem dX2_weatherAt_13 : decode cX2_weatherAt 13 = .ok (.iload_n 1, 1) := by decide +kernel
theorem dX2_weatherAt_14 : decode cX2_weatherAt 14 = .ok (.iaload, 1) := by decide +kernel
theorem dX2_weatherAt_15 : decode cX2_weatherAt 15 = .ok (.iadd, 1) := by decide +kernel
theorem dX2_weatherAt_16 : decode cX2_weatherAt 16 = .ok (.ireturn, 1) := by decide +kernel
set_option maxRecDepth 20000 in
theorem ggX2_countOf_X1_wholeStrings : GoodIn wsX2_countOf wsX1_wholeStrings := goodIn_r _ [12, 13, 52, 53, 54, 55, 56, 57, 58, 59] (by decide +kernel) (by decide +kernel)
set_option maxRecDepth 20000 in
theorem gX2_countOf_X1_wholeStrings : GoodIn wsX2_countOf (wsV RX2 160 RX1 yX1_wholeStrings wsX1_wholeStrings) := goodIn_app (goodIn_of _ (by decide +kernel)) ggX2_countOf_X1_wholeStrings
set_option maxRecDepth 20000 in
theorem ggX2_countOf_X2_soundingChords : GoodIn wsX2_countOf wsX2_soundingChords := goodIn_r _ [18, 3, 1, 19, 20, 21, 22, 11, 23, 24, 25, 26, 27, 28, 29, 13, 30, 31, 32, 33, 34, 35, 36, 37, 38, 39, 40, 41, 42, 46, 47, 48, 49, 50, 51, 60, 61, 62, 52, 53, 54, 55, 56, 57, 58, 59] (by decide +kernel) (by decide +kernel)
set_option maxRecDepth 20000 in
theorem gX2_countOf_X2_soundingChords : GoodIn wsX2_countOf (wsV RX2 187 RX2 yX2_soundingChords wsX2_soundingChords) := goodIn_app (goodIn_of _ (by decide +kernel)) ggX2_countOf_X2_soundingChords
set_option maxRecDepth 20000 in
theorem ggX2_countOf_X2_sumOf : GoodIn wsX2_countOf wsX2_sumOf := goodIn_r _ [45] (by decide +kernel) (by decide +kernel)
set_option maxRecDepth 20000 in
theorem gX2_countOf_X2_sumOf : GoodIn wsX2_countOf (va_wsS RX2 193 yX2_sumOf wsX2_sumOf) := goodIn_app (goodIn_of _ (by decide +kernel)) ggX2_countOf_X2_sumOf
theorem dX2_countOf_0 : decode cX2_countOf 0 = .ok (.iload_n 1, 1) := by decide +kernel
theorem dX2_countOf_1 : decode cX2_countOf 1 = .ok (.tableswitch 99 0 6 #[43, 51, 59, 64, 69, 77, 88], 43) := by decide +kernel
theorem dX2_countOf_44 : decode cX2_countOf 44 = .ok (.aload_n 0, 1) := by decide +kernel
theorem dX2_countOf_45 : decode cX2_countOf 45 = .ok (.getfield 10, 3) := by decide +kernel
theorem dX2_countOf_48 : decode cX2_countOf 48 = .ok (.getfield 184, 3) := by decide +kernel
theorem dX2_countOf_51 : decode cX2_countOf 51 = .ok (.ireturn, 1) := by decide +kernel
theorem dX2_countOf_52 : decode cX2_countOf 52 = .ok (.aload_n 0, 1) := by decide +kernel
theorem dX2_countOf_53 : decode cX2_countOf 53 = .ok (.getfield 10, 3) := by decide +kernel
theorem dX2_countOf_56 : decode cX2_countOf 56 = .ok (.invokevirtual 160, 3) := by decide +kernel
theorem dX2_countOf_59 : decode cX2_countOf 59 = .ok (.ireturn, 1) := by decide +kernel
theorem dX2_countOf_60 : decode cX2_countOf 60 = .ok (.aload_n 0, 1) := by decide +kernel
theorem dX2_countOf_61 : decode cX2_countOf 61 = .ok (.getfield 33, 3) := by decide +kernel
theorem dX2_countOf_64 : decode cX2_countOf 64 = .ok (.ireturn, 1) := by decide +kernel
theorem dX2_countOf_65 : decode cX2_countOf 65 = .ok (.aload_n 0, 1) := by decide +kernel
theorem dX2_countOf_66 : decode cX2_countOf 66 = .ok (.invokevirtual 187, 3) := by decide +kernel
theorem dX2_countOf_69 : decode cX2_countOf 69 = .ok (.ireturn, 1) := by decide +kernel
theorem dX2_countOf_70 : decode cX2_countOf 70 = .ok (.aload_n 0, 1) := by decide +kernel
theorem dX2_countOf_71 : decode cX2_countOf 71 = .ok (.getfield 10, 3) := by decide +kernel
theorem dX2_countOf_74 : decode cX2_countOf 74 = .ok (.getfield 190, 3) := by decide +kernel
theorem dX2_countOf_77 : decode cX2_countOf 77 = .ok (.ireturn, 1) := by decide +kernel
theorem dX2_countOf_78 : decode cX2_countOf 78 = .ok (.aload_n 0, 1) := by decide +kernel
theorem dX2_countOf_79 : decode cX2_countOf 79 = .ok (.getfield 10, 3) := by decide +kernel
theorem dX2_countOf_82 : decode cX2_countOf 82 = .ok (.getfield 60, 3) := by decide +kernel
theorem dX2_countOf_85 : decode cX2_countOf 85 = .ok (.invokestatic 193, 3) := by decide +kernel
theorem dX2_countOf_88 : decode cX2_countOf 88 = .ok (.ireturn, 1) := by decide +kernel
theorem dX2_countOf_89 : decode cX2_countOf 89 = .ok (.aload_n 0, 1) := by decide +kernel
theorem dX2_countOf_90 : decode cX2_countOf 90 = .ok (.getfield 10, 3) := by decide +kernel
theorem dX2_countOf_93 : decode cX2_countOf 93 = .ok (.getfield 197, 3) := by decide +kernel
theorem dX2_countOf_96 : decode cX2_countOf 96 = .ok (.invokestatic 193, 3) := by decide +kernel
theorem dX2_countOf_99 : decode cX2_countOf 99 = .ok (.ireturn, 1) := by decide +kernel
theorem dX2_countOf_100 : decode cX2_countOf 100 = .ok (.aload_n 0, 1) := by decide +kernel
theorem dX2_countOf_101 : decode cX2_countOf 101 = .ok (.getfield 10, 3) := by decide +kernel
theorem dX2_countOf_104 : decode cX2_countOf 104 = .ok (.getfield 200, 3) := by decide +kernel
theorem dX2_countOf_107 : decode cX2_countOf 107 = .ok (.invokestatic 193, 3) := by decide +kernel
theorem dX2_countOf_110 : decode cX2_countOf 110 = .ok (.ireturn, 1) := by decide +kernel
set_option maxRecDepth 20000 in
theorem ggX2_soundingChords_X1_isTunedTo : GoodIn wsX2_soundingChords wsX1_isTunedTo := goodIn_r _ [8, 9, 10, 11, 12, 7, 13, 14, 15, 16, 17, 18, 19, 20, 21, 22, 23, 24, 25, 26, 27, 28, 35, 36, 37, 38, 39, 40, 41, 42, 43, 44, 45] (by decide +kernel) (by decide +kernel)
set_option maxRecDepth 20000 in
theorem gX2_soundingChords_X1_isTunedTo : GoodIn wsX2_soundingChords (wsV RX2 123 RX1 yX1_isTunedTo wsX1_isTunedTo) := goodIn_app (goodIn_of _ (by decide +kernel)) ggX2_soundingChords_X1_isTunedTo
theorem dX2_soundingChords_0 : decode cX2_soundingChords 0 = .ok (.iconst 0, 1) := by decide +kernel
theorem dX2_soundingChords_1 : decode cX2_soundingChords 1 = .ok (.istore_n 1, 1) := by decide +kernel
theorem dX2_soundingChords_2 : decode cX2_soundingChords 2 = .ok (.iconst 0, 1) := by decide +kernel
theorem dX2_soundingChords_3 : decode cX2_soundingChords 3 = .ok (.istore_n 2, 1) := by decide +kernel
theorem dX2_soundingChords_4 : decode cX2_soundingChords 4 = .ok (.iload_n 2, 1) := by decide +kernel
theorem dX2_soundingChords_5 : decode cX2_soundingChords 5 = .ok (.aload_n 0, 1) := by decide +kernel
theorem dX2_soundingChords_6 : decode cX2_soundingChords 6 = .ok (.getfield 33, 3) := by decide +kernel
theorem dX2_soundingChords_9 : decode cX2_soundingChords 9 = .ok (.if_icmp .ge 28, 3) := by decide +kernel
theorem dX2_soundingChords_12 : decode cX2_soundingChords 12 = .ok (.aload_n 0, 1) := by decide +kernel
theorem dX2_soundingChords_13 : decode cX2_soundingChords 13 = .ok (.getfield 10, 3) := by decide +kernel
theorem dX2_soundingChords_16 : decode cX2_soundingChords 16 = .ok (.aload_n 0, 1) := by decide +kernel
theorem dX2_soundingChords_17 : decode cX2_soundingChords 17 = .ok (.getfield 28, 3) := by decide +kernel
theorem dX2_soundingChords_20 : decode cX2_soundingChords 20 = .ok (.iload_n 2, 1) := by decide +kernel
theorem dX2_soundingChords_21 : decode cX2_soundingChords 21 = .ok (.aaload, 1) := by decide +kernel
theorem dX2_soundingChords_22 : decode cX2_soundingChords 22 = .ok (.invokevirtual 123, 3) := by decide +kernel
theorem dX2_soundingChords_25 : decode cX2_soundingChords 25 = .ok (.ifCond .eq 6, 3) := by decide +kernel
theorem dX2_soundingChords_28 : decode cX2_soundingChords 28 = .ok (.iinc 1 1, 3) := by decide +kernel
theorem dX2_soundingChords_31 : decode cX2_soundingChords 31 = .ok (.iinc 2 1, 3) := by decide +kernel
theorem dX2_soundingChords_34 : decode cX2_soundingChords 34 = .ok (.goto (-30), 3) := by decide +kernel
theorem dX2_soundingChords_37 : decode cX2_soundingChords 37 = .ok (.iload_n 1, 1) := by decide +kernel
theorem dX2_soundingChords_38 : decode cX2_soundingChords 38 = .ok (.ireturn, 1) := by decide +kernel
theorem dX2_sumOf_0 : decode cX2_sumOf 0 = .ok (.iconst 0, 1) := by decide +kernel
theorem dX2_sumOf_1 : decode cX2_sumOf 1 = .ok (.istore_n 1, 1) := by decide +kernel
theorem dX2_sumOf_2 : decode cX2_sumOf 2 = .ok (.aload_n 0, 1) := by decide +kernel
theorem dX2_sumOf_3 : decode cX2_sumOf 3 = .ok (.astore_n 2, 1) := by decide +kernel
theorem dX2_sumOf_4 : decode cX2_sumOf 4 = .ok (.aload_n 2, 1) := by decide +kernel
theorem dX2_sumOf_5 : decode cX2_sumOf 5 = .ok (.arraylength, 1) := by decide +kernel
theorem dX2_sumOf_6 : decode cX2_sumOf 6 = .ok (.istore_n 3, 1) := by decide +kernel
theorem dX2_sumOf_7 : decode cX2_sumOf 7 = .ok (.iconst 0, 1) := by decide +kernel
theorem dX2_sumOf_8 : decode cX2_sumOf 8 = .ok (.istore 4, 2) := by decide +kernel
theorem dX2_sumOf_10 : decode cX2_sumOf 10 = .ok (.iload 4, 2) := by decide +kernel
theorem dX2_sumOf_12 : decode cX2_sumOf 12 = .ok (.iload_n 3, 1) := by decide +kernel
theorem dX2_sumOf_13 : decode cX2_sumOf 13 = .ok (.if_icmp .ge 20, 3) := by decide +kernel
theorem dX2_sumOf_16 : decode cX2_sumOf 16 = .ok (.aload_n 2, 1) := by decide +kernel
theorem dX2_sumOf_17 : decode cX2_sumOf 17 = .ok (.iload 4, 2) := by decide +kernel
theorem dX2_sumOf_19 : decode cX2_sumOf 19 = .ok (.iaload, 1) := by decide +kernel
theorem dX2_sumOf_20 : decode cX2_sumOf 20 = .ok (.istore 5, 2) := by decide +kernel
theorem dX2_sumOf_22 : decode cX2_sumOf 22 = .ok (.iload_n 1, 1) := by decide +kernel
theorem dX2_sumOf_23 : decode cX2_sumOf 23 = .ok (.iload 5, 2) := by decide +kernel
theorem dX2_sumOf_25 : decode cX2_sumOf 25 = .ok (.iadd, 1) := by decide +kernel
theorem dX2_sumOf_26 : decode cX2_sumOf 26 = .ok (.istore_n 1, 1) := by decide +kernel
theorem dX2_sumOf_27 : decode cX2_sumOf 27 = .ok (.iinc 4 1, 3) := by decide +kernel
theorem dX2_sumOf_30 : decode cX2_sumOf 30 = .ok (.goto (-20), 3) := by decide +kernel
theorem dX2_sumOf_33 : decode cX2_sumOf 33 = .ok (.iload_n 1, 1) := by decide +kernel
theorem dX2_sumOf_34 : decode cX2_sumOf 34 = .ok (.ireturn, 1) := by decide +kernel
set_option maxRecDepth 20000 in
theorem ggX2_digestWith_X1_distanceFrom : GoodIn wsX2_digestWith wsX1_distanceFrom := goodIn_r _ [10, 11, 12, 13, 14, 15, 16, 17, 18, 19, 20, 9, 21, 22, 23, 24, 25, 26, 27, 28, 29, 36, 37, 38, 39, 40, 41, 42, 43] (by decide +kernel) (by decide +kernel)
set_option maxRecDepth 20000 in
theorem gX2_digestWith_X1_distanceFrom : GoodIn wsX2_digestWith (wsV RX2 119 RX1 yX1_distanceFrom wsX1_distanceFrom) := goodIn_app (goodIn_of _ (by decide +kernel)) ggX2_digestWith_X1_distanceFrom
theorem dX2_digestWith_0 : decode cX2_digestWith 0 = .ok (.lload_n 1, 1) := by decide +kernel
theorem dX2_digestWith_1 : decode cX2_digestWith 1 = .ok (.ldc2_w 168, 3) := by decide +kernel
theorem dX2_digestWith_4 : decode cX2_digestWith 4 = .ok (.lmul, 1) := by decide +kernel
theorem dX2_digestWith_5 : decode cX2_digestWith 5 = .ok (.aload_n 3, 1) := by decide +kernel
theorem dX2_digestWith_6 : decode cX2_digestWith 6 = .ok (.getfield 154, 3) := by decide +kernel
theorem dX2_digestWith_9 : decode cX2_digestWith 9 = .ok (.i2l, 1) := by decide +kernel
theorem dX2_digestWith_10 : decode cX2_digestWith 10 = .ok (.ladd, 1) := by decide +kernel
theorem dX2_digestWith_11 : decode cX2_digestWith 11 = .ok (.lstore 4, 2) := by decide +kernel
theorem dX2_digestWith_13 : decode cX2_digestWith 13 = .ok (.lload 4, 2) := by decide +kernel
theorem dX2_digestWith_15 : decode cX2_digestWith 15 = .ok (.ldc2_w 168, 3) := by decide +kernel
theorem dX2_digestWith_18 : decode cX2_digestWith 18 = .ok (.lmul, 1) := by decide +kernel
theorem dX2_digestWith_19 : decode cX2_digestWith 19 = .ok (.aload_n 3, 1) := by decide +kernel
theorem dX2_digestWith_20 : decode cX2_digestWith 20 = .ok (.getfield 157, 3) := by decide +kernel
theorem dX2_digestWith_23 : decode cX2_digestWith 23 = .ok (.i2l, 1) := by decide +kernel
theorem dX2_digestWith_24 : decode cX2_digestWith 24 = .ok (.ladd, 1) := by decide +kernel
theorem dX2_digestWith_25 : decode cX2_digestWith 25 = .ok (.lstore 4, 2) := by decide +kernel
theorem dX2_digestWith_27 : decode cX2_digestWith 27 = .ok (.iconst 0, 1) := by decide +kernel
theorem dX2_digestWith_28 : decode cX2_digestWith 28 = .ok (.istore 6, 2) := by decide +kernel
theorem dX2_digestWith_30 : decode cX2_digestWith 30 = .ok (.iload 6, 2) := by decide +kernel
theorem dX2_digestWith_32 : decode cX2_digestWith 32 = .ok (.aload_n 3, 1) := by decide +kernel
theorem dX2_digestWith_33 : decode cX2_digestWith 33 = .ok (.getfield 157, 3) := by decide +kernel
theorem dX2_digestWith_36 : decode cX2_digestWith 36 = .ok (.if_icmp .ge 26, 3) := by decide +kernel
theorem dX2_digestWith_39 : decode cX2_digestWith 39 = .ok (.lload 4, 2) := by decide +kernel
theorem dX2_digestWith_41 : decode cX2_digestWith 41 = .ok (.ldc2_w 168, 3) := by decide +kernel
theorem dX2_digestWith_44 : decode cX2_digestWith 44 = .ok (.lmul, 1) := by decide +kernel
theorem dX2_digestWith_45 : decode cX2_digestWith 45 = .ok (.aload_n 3, 1) := by decide +kernel
theorem dX2_digestWith_46 : decode cX2_digestWith 46 = .ok (.getfield 203, 3) := by decide +kernel
theorem dX2_digestWith_49 : decode cX2_digestWith 49 = .ok (.iload 6, 2) := by decide +kernel
theorem dX2_digestWith_51 : decode cX2_digestWith 51 = .ok (.iaload, 1) := by decide +kernel
theorem dX2_digestWith_52 : decode cX2_digestWith 52 = .ok (.i2l, 1) := by decide +kernel
theorem dX2_digestWith_53 : decode cX2_digestWith 53 = .ok (.ladd, 1) := by decide +kernel
theorem dX2_digestWith_54 : decode cX2_digestWith 54 = .ok (.lstore 4, 2) := by decide +kernel
theorem dX2_digestWith_56 : decode cX2_digestWith 56 = .ok (.iinc 6 1, 3) := by decide +kernel
theorem dX2_digestWith_59 : decode cX2_digestWith 59 = .ok (.goto (-29), 3) := by decide +kernel
theorem dX2_digestWith_62 : decode cX2_digestWith 62 = .ok (.lload 4, 2) := by decide +kernel
theorem dX2_digestWith_64 : decode cX2_digestWith 64 = .ok (.ldc2_w 168, 3) := by decide +kernel
theorem dX2_digestWith_67 : decode cX2_digestWith 67 = .ok (.lmul, 1) := by decide +kernel
theorem dX2_digestWith_68 : decode cX2_digestWith 68 = .ok (.aload_n 0, 1) := by decide +kernel
theorem dX2_digestWith_69 : decode cX2_digestWith 69 = .ok (.getfield 10, 3) := by decide +kernel
theorem dX2_digestWith_72 : decode cX2_digestWith 72 = .ok (.aload_n 3, 1) := by decide +kernel
theorem dX2_digestWith_73 : decode cX2_digestWith 73 = .ok (.invokevirtual 119, 3) := by decide +kernel
theorem dX2_digestWith_76 : decode cX2_digestWith 76 = .ok (.i2l, 1) := by decide +kernel
theorem dX2_digestWith_77 : decode cX2_digestWith 77 = .ok (.ladd, 1) := by decide +kernel
theorem dX2_digestWith_78 : decode cX2_digestWith 78 = .ok (.lreturn, 1) := by decide +kernel
set_option maxRecDepth 20000 in
theorem ggX2_letHourGo_X1_hourOfTable : GoodIn wsX2_letHourGo wsX1_hourOfTable := goodIn_r _ [7, 8, 9, 10, 11, 12, 53, 54, 55, 56, 57, 58, 59, 60] (by decide +kernel) (by decide +kernel)
set_option maxRecDepth 20000 in
theorem gX2_letHourGo_X1_hourOfTable : GoodIn wsX2_letHourGo (wsV RX2 206 RX1 yX1_hourOfTable wsX1_hourOfTable) := goodIn_app (goodIn_of _ (by decide +kernel)) ggX2_letHourGo_X1_hourOfTable
set_option maxRecDepth 20000 in
theorem ggX2_letHourGo_X1_spendHour : GoodIn wsX2_letHourGo wsX1_spendHour := goodIn_r _ [16, 17, 8, 18, 19, 20, 6, 21, 22, 23, 24, 25, 26, 27, 28, 29, 30, 31, 32, 33, 34, 35, 36, 37, 38, 39, 40, 41, 42, 43, 44, 45, 46, 53, 54, 55, 56, 57, 58, 59, 60] (by decide +kernel) (by decide +kernel)
set_option maxRecDepth 20000 in
theorem gX2_letHourGo_X1_spendHour : GoodIn wsX2_letHourGo (wsV RX2 209 RX1 yX1_spendHour wsX1_spendHour) := goodIn_app (goodIn_of _ (by decide +kernel)) ggX2_letHourGo_X1_spendHour
theorem dX2_letHourGo_0 : decode cX2_letHourGo 0 = .ok (.aload_n 1, 1) := by decide +kernel
theorem dX2_letHourGo_1 : decode cX2_letHourGo 1 = .ok (.invokevirtual 206, 3) := by decide +kernel
theorem dX2_letHourGo_4 : decode cX2_letHourGo 4 = .ok (.istore 4, 2) := by decide +kernel
theorem dX2_letHourGo_6 : decode cX2_letHourGo 6 = .ok (.aload_n 1, 1) := by decide +kernel
theorem dX2_letHourGo_7 : decode cX2_letHourGo 7 = .ok (.iload_n 2, 1) := by decide +kernel
theorem dX2_letHourGo_8 : decode cX2_letHourGo 8 = .ok (.iload_n 3, 1) := by decide +kernel
theorem dX2_letHourGo_9 : decode cX2_letHourGo 9 = .ok (.aload_n 0, 1) := by decide +kernel
theorem dX2_letHourGo_10 : decode cX2_letHourGo 10 = .ok (.getfield 19, 3) := by decide +kernel
theorem dX2_letHourGo_13 : decode cX2_letHourGo 13 = .ok (.iload 4, 2) := by decide +kernel
theorem dX2_letHourGo_15 : decode cX2_letHourGo 15 = .ok (.iaload, 1) := by decide +kernel
theorem dX2_letHourGo_16 : decode cX2_letHourGo 16 = .ok (.aload_n 0, 1) := by decide +kernel
theorem dX2_letHourGo_17 : decode cX2_letHourGo 17 = .ok (.getfield 23, 3) := by decide +kernel
theorem dX2_letHourGo_20 : decode cX2_letHourGo 20 = .ok (.iload 4, 2) := by decide +kernel
theorem dX2_letHourGo_22 : decode cX2_letHourGo 22 = .ok (.iaload, 1) := by decide +kernel
theorem dX2_letHourGo_23 : decode cX2_letHourGo 23 = .ok (.invokevirtual 209, 3) := by decide +kernel
theorem dX2_letHourGo_26 : decode cX2_letHourGo 26 = .ok (.ireturn, 1) := by decide +kernel
set_option maxRecDepth 20000 in
theorem ggX2_withstands_X1_copy : GoodIn wsX2_withstands wsX1_copy := goodIn_r _ [9, 10, 11, 12, 13, 14, 15, 16, 17, 59, 60, 61, 62, 63, 64, 65, 66] (by decide +kernel) (by decide +kernel)
set_option maxRecDepth 20000 in
theorem gX2_withstands_X1_copy : GoodIn wsX2_withstands (wsV RX2 146 RX1 yX1_copy wsX1_copy) := goodIn_app (goodIn_of _ (by decide +kernel)) ggX2_withstands_X1_copy
set_option maxRecDepth 20000 in
theorem ggX2_withstands_X1_hourOfTable : GoodIn wsX2_withstands wsX1_hourOfTable := goodIn_r _ [21, 17, 22, 23, 24, 25, 59, 60, 61, 62, 63, 64, 65, 66] (by decide +kernel) (by decide +kernel)
set_option maxRecDepth 20000 in
theorem gX2_withstands_X1_hourOfTable : GoodIn wsX2_withstands (wsV RX2 206 RX1 yX1_hourOfTable wsX1_hourOfTable) := goodIn_app (goodIn_of _ (by decide +kernel)) ggX2_withstands_X1_hourOfTable
set_option maxRecDepth 20000 in
theorem ggX2_withstands_X1_spendHour : GoodIn wsX2_withstands wsX1_spendHour := goodIn_r _ [29, 15, 17, 30, 31, 32, 8, 33, 13, 34, 35, 36, 37, 12, 14, 38, 39, 40, 41, 11, 10, 16, 42, 43, 44, 45, 46, 47, 48, 49, 50, 51, 52, 59, 60, 61, 62, 63, 64, 65, 66] (by decide +kernel) (by decide +kernel)
set_option maxRecDepth 20000 in
theorem gX2_withstands_X1_spendHour : GoodIn wsX2_withstands (wsV RX2 209 RX1 yX1_spendHour wsX1_spendHour) := goodIn_app (goodIn_of _ (by decide +kernel)) ggX2_withstands_X1_spendHour
theorem dX2_withstands_0 : decode cX2_withstands 0 = .ok (.aload_n 0, 1) := by decide +kernel
theorem dX2_withstands_1 : decode cX2_withstands 1 = .ok (.getfield 16, 3) := by decide +kernel
theorem dX2_withstands_4 : decode cX2_withstands 4 = .ok (.aload_n 0, 1) := by decide +kernel
theorem dX2_withstands_5 : decode cX2_withstands 5 = .ok (.getfield 10, 3) := by decide +kernel
theorem dX2_withstands_8 : decode cX2_withstands 8 = .ok (.invokevirtual 146, 3) := by decide +kernel
theorem dX2_withstands_11 : decode cX2_withstands 11 = .ok (.iconst 0, 1) := by decide +kernel
theorem dX2_withstands_12 : decode cX2_withstands 12 = .ok (.istore_n 3, 1) := by decide +kernel
theorem dX2_withstands_13 : decode cX2_withstands 13 = .ok (.iload_n 3, 1) := by decide +kernel
theorem dX2_withstands_14 : decode cX2_withstands 14 = .ok (.bipush 24, 2) := by decide +kernel
theorem dX2_withstands_16 : decode cX2_withstands 16 = .ok (.if_icmp .ge 46, 3) := by decide +kernel
theorem dX2_withstands_19 : decode cX2_withstands 19 = .ok (.aload_n 0, 1) := by decide +kernel
theorem dX2_withstands_20 : decode cX2_withstands 20 = .ok (.getfield 16, 3) := by decide +kernel
theorem dX2_withstands_23 : decode cX2_withstands 23 = .ok (.getfield 91, 3) := by decide +kernel
theorem dX2_withstands_26 : decode cX2_withstands 26 = .ok (.iload_n 1, 1) := by decide +kernel
theorem dX2_withstands_27 : decode cX2_withstands 27 = .ok (.baload, 1) := by decide +kernel
theorem dX2_withstands_28 : decode cX2_withstands 28 = .ok (.ifCond .eq 34, 3) := by decide +kernel
theorem dX2_withstands_31 : decode cX2_withstands 31 = .ok (.aload_n 0, 1) := by decide +kernel
theorem dX2_withstands_32 : decode cX2_withstands 32 = .ok (.getfield 16, 3) := by decide +kernel
theorem dX2_withstands_35 : decode cX2_withstands 35 = .ok (.iload_n 1, 1) := by decide +kernel
theorem dX2_withstands_36 : decode cX2_withstands 36 = .ok (.iload_n 1, 1) := by decide +kernel
theorem dX2_withstands_37 : decode cX2_withstands 37 = .ok (.iconst 1, 1) := by decide +kernel
theorem dX2_withstands_38 : decode cX2_withstands 38 = .ok (.iadd, 1) := by decide +kernel
theorem dX2_withstands_39 : decode cX2_withstands 39 = .ok (.iload_n 2, 1) := by decide +kernel
theorem dX2_withstands_40 : decode cX2_withstands 40 = .ok (.aload_n 0, 1) := by decide +kernel
theorem dX2_withstands_41 : decode cX2_withstands 41 = .ok (.getfield 23, 3) := by decide +kernel
theorem dX2_withstands_44 : decode cX2_withstands 44 = .ok (.aload_n 0, 1) := by decide +kernel
theorem dX2_withstands_45 : decode cX2_withstands 45 = .ok (.getfield 16, 3) := by decide +kernel
theorem dX2_withstands_48 : decode cX2_withstands 48 = .ok (.invokevirtual 206, 3) := by decide +kernel
theorem dX2_withstands_51 : decode cX2_withstands 51 = .ok (.iaload, 1) := by decide +kernel
theorem dX2_withstands_52 : decode cX2_withstands 52 = .ok (.invokevirtual 209, 3) := by decide +kernel
theorem dX2_withstands_55 : decode cX2_withstands 55 = .ok (.pop, 1) := by decide +kernel
theorem dX2_withstands_56 : decode cX2_withstands 56 = .ok (.iinc 3 1, 3) := by decide +kernel
theorem dX2_withstands_59 : decode cX2_withstands 59 = .ok (.goto (-46), 3) := by decide +kernel
theorem dX2_withstands_62 : decode cX2_withstands 62 = .ok (.aload_n 0, 1) := by decide +kernel
theorem dX2_withstands_63 : decode cX2_withstands 63 = .ok (.getfield 16, 3) := by decide +kernel
theorem dX2_withstands_66 : decode cX2_withstands 66 = .ok (.getfield 91, 3) := by decide +kernel
theorem dX2_withstands_69 : decode cX2_withstands 69 = .ok (.iload_n 1, 1) := by decide +kernel
theorem dX2_withstands_70 : decode cX2_withstands 70 = .ok (.baload, 1) := by decide +kernel
theorem dX2_withstands_71 : decode cX2_withstands 71 = .ok (.ireturn, 1) := by decide +kernel
theorem dX2_lowestToBreak_0 : decode cX2_lowestToBreak 0 = .ok (.iconst 0, 1) := by decide +kernel
theorem dX2_lowestToBreak_1 : decode cX2_lowestToBreak 1 = .ok (.istore_n 1, 1) := by decide +kernel
theorem dX2_lowestToBreak_2 : decode cX2_lowestToBreak 2 = .ok (.iload_n 1, 1) := by decide +kernel
theorem dX2_lowestToBreak_3 : decode cX2_lowestToBreak 3 = .ok (.bipush 12, 2) := by decide +kernel
theorem dX2_lowestToBreak_5 : decode cX2_lowestToBreak 5 = .ok (.if_icmp .ge 35, 3) := by decide +kernel
theorem dX2_lowestToBreak_8 : decode cX2_lowestToBreak 8 = .ok (.aload_n 0, 1) := by decide +kernel
theorem dX2_lowestToBreak_9 : decode cX2_lowestToBreak 9 = .ok (.getfield 10, 3) := by decide +kernel
theorem dX2_lowestToBreak_12 : decode cX2_lowestToBreak 12 = .ok (.getfield 91, 3) := by decide +kernel
theorem dX2_lowestToBreak_15 : decode cX2_lowestToBreak 15 = .ok (.iload_n 1, 1) := by decide +kernel
theorem dX2_lowestToBreak_16 : decode cX2_lowestToBreak 16 = .ok (.baload, 1) := by decide +kernel
theorem dX2_lowestToBreak_17 : decode cX2_lowestToBreak 17 = .ok (.ifCond .eq 17, 3) := by decide +kernel
theorem dX2_lowestToBreak_20 : decode cX2_lowestToBreak 20 = .ok (.aload_n 0, 1) := by decide +kernel
theorem dX2_lowestToBreak_21 : decode cX2_lowestToBreak 21 = .ok (.getfield 16, 3) := by decide +kernel
theorem dX2_lowestToBreak_24 : decode cX2_lowestToBreak 24 = .ok (.getfield 91, 3) := by decide +kernel
theorem dX2_lowestToBreak_27 : decode cX2_lowestToBreak 27 = .ok (.iload_n 1, 1) := by decide +kernel
theorem dX2_lowestToBreak_28 : decode cX2_lowestToBreak 28 = .ok (.baload, 1) := by decide +kernel
theorem dX2_lowestToBreak_29 : decode cX2_lowestToBreak 29 = .ok (.ifCond .ne 5, 3) := by decide +kernel
theorem dX2_lowestToBreak_32 : decode cX2_lowestToBreak 32 = .ok (.iload_n 1, 1) := by decide +kernel
theorem dX2_lowestToBreak_33 : decode cX2_lowestToBreak 33 = .ok (.ireturn, 1) := by decide +kernel
theorem dX2_lowestToBreak_34 : decode cX2_lowestToBreak 34 = .ok (.iinc 1 1, 3) := by decide +kernel
theorem dX2_lowestToBreak_37 : decode cX2_lowestToBreak 37 = .ok (.goto (-35), 3) := by decide +kernel
theorem dX2_lowestToBreak_40 : decode cX2_lowestToBreak 40 = .ok (.iconst (-1), 1) := by decide +kernel
theorem dX2_lowestToBreak_41 : decode cX2_lowestToBreak 41 = .ok (.ireturn, 1) := by decide +kernel
set_option maxRecDepth 20000 in
theorem ggX2_fewestSteps_X1_fitsPushed : GoodIn wsX2_fewestSteps wsX1_fitsPushed := goodIn_r _ [14, 15, 16, 17, 18, 4, 5, 6, 19, 20, 21, 13, 22, 23, 24, 25, 26, 34, 35, 36, 37, 38, 39, 40, 41, 42, 43, 44] (by decide +kernel) (by decide +kernel)
set_option maxRecDepth 20000 in
theorem gX2_fewestSteps_X1_fitsPushed : GoodIn wsX2_fewestSteps (wsV RX2 213 RX1 yX1_fitsPushed wsX1_fitsPushed) := goodIn_app (goodIn_of _ (by decide +kernel)) ggX2_fewestSteps_X1_fitsPushed
set_option maxRecDepth 20000 in
theorem ggX2_fewestSteps_X1_takesPush : GoodIn wsX2_fewestSteps wsX1_takesPush := goodIn_r _ [30, 23, 37, 38, 39, 40, 41, 42, 43, 44] (by decide +kernel) (by decide +kernel)
set_option maxRecDepth 20000 in
theorem gX2_fewestSteps_X1_takesPush : GoodIn wsX2_fewestSteps (wsV RX2 51 RX1 yX1_takesPush wsX1_takesPush) := goodIn_app (goodIn_of _ (by decide +kernel)) ggX2_fewestSteps_X1_takesPush
set_option maxRecDepth 20000 in
theorem ggX2_fewestSteps_X2_fewestSteps : GoodIn wsX2_fewestSteps wsX2_fewestSteps := goodIn_r _ [0, 1, 2, 3, 4, 5, 6, 7, 8, 9, 10, 11, 12, 13, 14, 15, 16, 17, 18, 19, 20, 21, 22, 23, 24, 25, 26, 27, 28, 29, 30, 31, 32, 33, 34, 35, 36, 37, 38, 39, 40, 41, 42, 43, 44] (by decide +kernel) (by decide +kernel)
set_option maxRecDepth 20000 in
theorem gX2_fewestSteps_X2_fewestSteps : GoodIn wsX2_fewestSteps (va_wsS RX2 127 yX2_fewestSteps wsX2_fewestSteps) := goodIn_app (goodIn_of _ (by decide +kernel)) ggX2_fewestSteps_X2_fewestSteps
theorem dX2_fewestSteps_0 : decode cX2_fewestSteps 0 = .ok (.iload_n 2, 1) := by decide +kernel
theorem dX2_fewestSteps_1 : decode cX2_fewestSteps 1 = .ok (.aload_n 1, 1) := by decide +kernel
theorem dX2_fewestSteps_2 : decode cX2_fewestSteps 2 = .ok (.getfield 157, 3) := by decide +kernel
theorem dX2_fewestSteps_5 : decode cX2_fewestSteps 5 = .ok (.if_icmp .lt 25, 3) := by decide +kernel
theorem dX2_fewestSteps_8 : decode cX2_fewestSteps 8 = .ok (.aload_n 0, 1) := by decide +kernel
theorem dX2_fewestSteps_9 : decode cX2_fewestSteps 9 = .ok (.aload_n 1, 1) := by decide +kernel
theorem dX2_fewestSteps_10 : decode cX2_fewestSteps 10 = .ok (.iload_n 2, 1) := by decide +kernel
theorem dX2_fewestSteps_11 : decode cX2_fewestSteps 11 = .ok (.iconst 1, 1) := by decide +kernel
theorem dX2_fewestSteps_12 : decode cX2_fewestSteps 12 = .ok (.isub, 1) := by decide +kernel
theorem dX2_fewestSteps_13 : decode cX2_fewestSteps 13 = .ok (.iload 4, 2) := by decide +kernel
theorem dX2_fewestSteps_15 : decode cX2_fewestSteps 15 = .ok (.iload_n 3, 1) := by decide +kernel
theorem dX2_fewestSteps_16 : decode cX2_fewestSteps 16 = .ok (.invokevirtual 213, 3) := by decide +kernel
theorem dX2_fewestSteps_19 : decode cX2_fewestSteps 19 = .ok (.ifCond .eq 7, 3) := by decide +kernel
theorem dX2_fewestSteps_22 : decode cX2_fewestSteps 22 = .ok (.iconst 0, 1) := by decide +kernel
theorem dX2_fewestSteps_23 : decode cX2_fewestSteps 23 = .ok (.goto 6, 3) := by decide +kernel
theorem dX2_fewestSteps_26 : decode cX2_fewestSteps 26 = .ok (.sipush 1000, 3) := by decide +kernel
theorem dX2_fewestSteps_29 : decode cX2_fewestSteps 29 = .ok (.ireturn, 1) := by decide +kernel
theorem dX2_fewestSteps_30 : decode cX2_fewestSteps 30 = .ok (.sipush 1000, 3) := by decide +kernel
theorem dX2_fewestSteps_33 : decode cX2_fewestSteps 33 = .ok (.istore 5, 2) := by decide +kernel
theorem dX2_fewestSteps_35 : decode cX2_fewestSteps 35 = .ok (.bipush (-4), 2) := by decide +kernel
theorem dX2_fewestSteps_37 : decode cX2_fewestSteps 37 = .ok (.istore 6, 2) := by decide +kernel
theorem dX2_fewestSteps_39 : decode cX2_fewestSteps 39 = .ok (.iload 6, 2) := by decide +kernel
theorem dX2_fewestSteps_41 : decode cX2_fewestSteps 41 = .ok (.iconst 4, 1) := by decide +kernel
theorem dX2_fewestSteps_42 : decode cX2_fewestSteps 42 = .ok (.if_icmp .gt 74, 3) := by decide +kernel
theorem dX2_fewestSteps_45 : decode cX2_fewestSteps 45 = .ok (.aload_n 0, 1) := by decide +kernel
theorem dX2_fewestSteps_46 : decode cX2_fewestSteps 46 = .ok (.aload_n 1, 1) := by decide +kernel
theorem dX2_fewestSteps_47 : decode cX2_fewestSteps 47 = .ok (.getfield 154, 3) := by decide +kernel
theorem dX2_fewestSteps_50 : decode cX2_fewestSteps 50 = .ok (.iload_n 2, 1) := by decide +kernel
theorem dX2_fewestSteps_51 : decode cX2_fewestSteps 51 = .ok (.iadd, 1) := by decide +kernel
theorem dX2_fewestSteps_52 : decode cX2_fewestSteps 52 = .ok (.iload 6, 2) := by decide +kernel
theorem dX2_fewestSteps_54 : decode cX2_fewestSteps 54 = .ok (.invokevirtual 51, 3) := by decide +kernel
theorem dX2_fewestSteps_57 : decode cX2_fewestSteps 57 = .ok (.ifCond .eq 53, 3) := by decide +kernel
theorem dX2_fewestSteps_60 : decode cX2_fewestSteps 60 = .ok (.iload_n 2, 1) := by decide +kernel
theorem dX2_fewestSteps_61 : decode cX2_fewestSteps 61 = .ok (.ifCond .eq 20, 3) := by decide +kernel
theorem dX2_fewestSteps_64 : decode cX2_fewestSteps 64 = .ok (.aload_n 0, 1) := by decide +kernel
theorem dX2_fewestSteps_65 : decode cX2_fewestSteps 65 = .ok (.aload_n 1, 1) := by decide +kernel
theorem dX2_fewestSteps_66 : decode cX2_fewestSteps 66 = .ok (.iload_n 2, 1) := by decide +kernel
theorem dX2_fewestSteps_67 : decode cX2_fewestSteps 67 = .ok (.iconst 1, 1) := by decide +kernel
theorem dX2_fewestSteps_68 : decode cX2_fewestSteps 68 = .ok (.isub, 1) := by decide +kernel
theorem dX2_fewestSteps_69 : decode cX2_fewestSteps 69 = .ok (.iload 4, 2) := by decide +kernel
theorem dX2_fewestSteps_71 : decode cX2_fewestSteps 71 = .ok (.iload_n 3, 1) := by decide +kernel
theorem dX2_fewestSteps_72 : decode cX2_fewestSteps 72 = .ok (.iload 6, 2) := by decide +kernel
theorem dX2_fewestSteps_74 : decode cX2_fewestSteps 74 = .ok (.iadd, 1) := by decide +kernel
theorem dX2_fewestSteps_75 : decode cX2_fewestSteps 75 = .ok (.invokevirtual 213, 3) := by decide +kernel
theorem dX2_fewestSteps_78 : decode cX2_fewestSteps 78 = .ok (.ifCond .eq 32, 3) := by decide +kernel
theorem dX2_fewestSteps_81 : decode cX2_fewestSteps 81 = .ok (.aload_n 0, 1) := by decide +kernel
theorem dX2_fewestSteps_82 : decode cX2_fewestSteps 82 = .ok (.aload_n 1, 1) := by decide +kernel
theorem dX2_fewestSteps_83 : decode cX2_fewestSteps 83 = .ok (.iload_n 2, 1) := by decide +kernel
theorem dX2_fewestSteps_84 : decode cX2_fewestSteps 84 = .ok (.iconst 1, 1) := by decide +kernel
theorem dX2_fewestSteps_85 : decode cX2_fewestSteps 85 = .ok (.iadd, 1) := by decide +kernel
theorem dX2_fewestSteps_86 : decode cX2_fewestSteps 86 = .ok (.iload 4, 2) := by decide +kernel
theorem dX2_fewestSteps_88 : decode cX2_fewestSteps 88 = .ok (.iload 6, 2) := by decide +kernel
theorem dX2_fewestSteps_90 : decode cX2_fewestSteps 90 = .ok (.invokestatic 127, 3) := by decide +kernel
theorem dX2_fewestSteps_93 : decode cX2_fewestSteps 93 = .ok (.istore 7, 2) := by decide +kernel
theorem dX2_fewestSteps_95 : decode cX2_fewestSteps 95 = .ok (.iload 5, 2) := by decide +kernel
theorem dX2_fewestSteps_97 : decode cX2_fewestSteps 97 = .ok (.iload 6, 2) := by decide +kernel
theorem dX2_fewestSteps_99 : decode cX2_fewestSteps 99 = .ok (.invokestatic 95, 3) := by decide +kernel
theorem dX2_fewestSteps_102 : decode cX2_fewestSteps 102 = .ok (.iload 7, 2) := by decide +kernel
theorem dX2_fewestSteps_104 : decode cX2_fewestSteps 104 = .ok (.iadd, 1) := by decide +kernel
theorem dX2_fewestSteps_105 : decode cX2_fewestSteps 105 = .ok (.invokestatic 217, 3) := by decide +kernel
theorem dX2_fewestSteps_108 : decode cX2_fewestSteps 108 = .ok (.istore 5, 2) := by decide +kernel
theorem dX2_fewestSteps_110 : decode cX2_fewestSteps 110 = .ok (.iinc 6 1, 3) := by decide +kernel
theorem dX2_fewestSteps_113 : decode cX2_fewestSteps 113 = .ok (.goto (-74), 3) := by decide +kernel
theorem dX2_fewestSteps_116 : decode cX2_fewestSteps 116 = .ok (.iload 5, 2) := by decide +kernel
theorem dX2_fewestSteps_118 : decode cX2_fewestSteps 118 = .ok (.ireturn, 1) := by decide +kernel
end
section
set_option maxRecDepth 20000 in
theorem ggX3_init_X3_put : GoodIn wsX3_init wsX3_put := goodIn_r _ [15, 5, 16, 17, 18, 19, 20, 21, 22, 23] (by decide +kernel) (by decide +kernel)
set_option maxRecDepth 20000 in
theorem gX3_init_X3_put : GoodIn wsX3_init (wsV RX3 28 RX3 yX3_put wsX3_put) := goodIn_app (goodIn_of _ (by decide +kernel)) ggX3_init_X3_put
theorem dX3_init_0 : decode cX3_init 0 = .ok (.aload_n 0, 1) := by decide +kernel
theorem dX3_init_1 : decode cX3_init 1 = .ok (.invokespecial 1, 3) := by decide +kernel
theorem dX3_init_4 : decode cX3_init 4 = .ok (.aload_n 0, 1) := by decide +kernel
theorem dX3_init_5 : decode cX3_init 5 = .ok (.bipush 72, 2) := by decide +kernel
theorem dX3_init_7 : decode cX3_init 7 = .ok (.newarray .int, 2) := by decide +kernel
theorem dX3_init_9 : decode cX3_init 9 = .ok (.putfield 9, 3) := by decide +kernel
theorem dX3_init_12 : decode cX3_init 12 = .ok (.aload_n 0, 1) := by decide +kernel
theorem dX3_init_13 : decode cX3_init 13 = .ok (.bipush 36, 2) := by decide +kernel
theorem dX3_init_15 : decode cX3_init 15 = .ok (.newarray .int, 2) := by decide +kernel
theorem dX3_init_17 : decode cX3_init 17 = .ok (.putfield 13, 3) := by decide +kernel
theorem dX3_init_20 : decode cX3_init 20 = .ok (.aload_n 0, 1) := by decide +kernel
theorem dX3_init_21 : decode cX3_init 21 = .ok (.bipush 12, 2) := by decide +kernel
theorem dX3_init_23 : decode cX3_init 23 = .ok (.newarray .int, 2) := by decide +kernel
theorem dX3_init_25 : decode cX3_init 25 = .ok (.putfield 16, 3) := by decide +kernel
theorem dX3_init_28 : decode cX3_init 28 = .ok (.aload_n 0, 1) := by decide +kernel
theorem dX3_init_29 : decode cX3_init 29 = .ok (.bipush 12, 2) := by decide +kernel
theorem dX3_init_31 : decode cX3_init 31 = .ok (.newarray .int, 2) := by decide +kernel
theorem dX3_init_33 : decode cX3_init 33 = .ok (.putfield 19, 3) := by decide +kernel
theorem dX3_init_36 : decode cX3_init 36 = .ok (.aload_n 0, 1) := by decide +kernel
theorem dX3_init_37 : decode cX3_init 37 = .ok (.iconst 2, 1) := by decide +kernel
theorem dX3_init_38 : decode cX3_init 38 = .ok (.newarray .int, 2) := by decide +kernel
theorem dX3_init_40 : decode cX3_init 40 = .ok (.putfield 22, 3) := by decide +kernel
theorem dX3_init_43 : decode cX3_init 43 = .ok (.aload_n 0, 1) := by decide +kernel
theorem dX3_init_44 : decode cX3_init 44 = .ok (.bipush 12, 2) := by decide +kernel
theorem dX3_init_46 : decode cX3_init 46 = .ok (.newarray .int, 2) := by decide +kernel
theorem dX3_init_48 : decode cX3_init 48 = .ok (.putfield 25, 3) := by decide +kernel
theorem dX3_init_51 : decode cX3_init 51 = .ok (.iconst 0, 1) := by decide +kernel
theorem dX3_init_52 : decode cX3_init 52 = .ok (.istore_n 1, 1) := by decide +kernel
theorem dX3_init_53 : decode cX3_init 53 = .ok (.iload_n 1, 1) := by decide +kernel
theorem dX3_init_54 : decode cX3_init 54 = .ok (.bipush 12, 2) := by decide +kernel
theorem dX3_init_56 : decode cX3_init 56 = .ok (.if_icmp .ge 30, 3) := by decide +kernel
theorem dX3_init_59 : decode cX3_init 59 = .ok (.aload_n 0, 1) := by decide +kernel
theorem dX3_init_60 : decode cX3_init 60 = .ok (.iload_n 1, 1) := by decide +kernel
theorem dX3_init_61 : decode cX3_init 61 = .ok (.iconst 0, 1) := by decide +kernel
theorem dX3_init_62 : decode cX3_init 62 = .ok (.sipush 300, 3) := by decide +kernel
theorem dX3_init_65 : decode cX3_init 65 = .ok (.bipush 20, 2) := by decide +kernel
theorem dX3_init_67 : decode cX3_init 67 = .ok (.iload_n 1, 1) := by decide +kernel
theorem dX3_init_68 : decode cX3_init 68 = .ok (.imul, 1) := by decide +kernel
theorem dX3_init_69 : decode cX3_init 69 = .ok (.iadd, 1) := by decide +kernel
theorem dX3_init_70 : decode cX3_init 70 = .ok (.invokevirtual 28, 3) := by decide +kernel
theorem dX3_init_73 : decode cX3_init 73 = .ok (.aload_n 0, 1) := by decide +kernel
theorem dX3_init_74 : decode cX3_init 74 = .ok (.iload_n 1, 1) := by decide +kernel
theorem dX3_init_75 : decode cX3_init 75 = .ok (.iconst 4, 1) := by decide +kernel
theorem dX3_init_76 : decode cX3_init 76 = .ok (.iconst 1, 1) := by decide +kernel
theorem dX3_init_77 : decode cX3_init 77 = .ok (.invokevirtual 28, 3) := by decide +kernel
theorem dX3_init_80 : decode cX3_init 80 = .ok (.iinc 1 1, 3) := by decide +kernel
theorem dX3_init_83 : decode cX3_init 83 = .ok (.goto (-30), 3) := by decide +kernel
theorem dX3_init_86 : decode cX3_init 86 = .ok (.return_, 1) := by decide +kernel
theorem dX3_thrown_0 : decode cX3_thrown 0 = .ok (.aload_n 0, 1) := by decide +kernel
theorem dX3_thrown_1 : decode cX3_thrown 1 = .ok (.getfield 32, 3) := by decide +kernel
theorem dX3_thrown_4 : decode cX3_thrown 4 = .ok (.ireturn, 1) := by decide +kernel
theorem dX3_fail_0 : decode cX3_fail 0 = .ok (.aload_n 0, 1) := by decide +kernel
theorem dX3_fail_1 : decode cX3_fail 1 = .ok (.iload_n 1, 1) := by decide +kernel
theorem dX3_fail_2 : decode cX3_fail 2 = .ok (.putfield 32, 3) := by decide +kernel
theorem dX3_fail_5 : decode cX3_fail 5 = .ok (.iconst 0, 1) := by decide +kernel
theorem dX3_fail_6 : decode cX3_fail 6 = .ok (.ireturn, 1) := by decide +kernel
theorem dX3_isIn_0 : decode cX3_isIn 0 = .ok (.iload_n 0, 1) := by decide +kernel
theorem dX3_isIn_1 : decode cX3_isIn 1 = .ok (.iload_n 1, 1) := by decide +kernel
theorem dX3_isIn_2 : decode cX3_isIn 2 = .ok (.if_icmp .lt 12, 3) := by decide +kernel
theorem dX3_isIn_5 : decode cX3_isIn 5 = .ok (.iload_n 0, 1) := by decide +kernel
theorem dX3_isIn_6 : decode cX3_isIn 6 = .ok (.iload_n 2, 1) := by decide +kernel
theorem dX3_isIn_7 : decode cX3_isIn 7 = .ok (.if_icmp .gt 7, 3) := by decide +kernel
theorem dX3_isIn_10 : decode cX3_isIn 10 = .ok (.iconst 1, 1) := by decide +kernel
theorem dX3_isIn_11 : decode cX3_isIn 11 = .ok (.goto 4, 3) := by decide +kernel
theorem dX3_isIn_14 : decode cX3_isIn 14 = .ok (.iconst 0, 1) := by decide +kernel
theorem dX3_isIn_15 : decode cX3_isIn 15 = .ok (.ireturn, 1) := by decide +kernel
set_option maxRecDepth 20000 in
theorem ggX3_isString_X3_isIn : GoodIn wsX3_isString wsX3_isIn := goodIn_r _ [4] (by decide +kernel) (by decide +kernel)
set_option maxRecDepth 20000 in
theorem gX3_isString_X3_isIn : GoodIn wsX3_isString (va_wsS RX3 36 yX3_isIn wsX3_isIn) := goodIn_app (goodIn_of _ (by decide +kernel)) ggX3_isString_X3_isIn
theorem dX3_isString_0 : decode cX3_isString 0 = .ok (.iload_n 0, 1) := by decide +kernel
theorem dX3_isString_1 : decode cX3_isString 1 = .ok (.iconst 0, 1) := by decide +kernel
theorem dX3_isString_2 : decode cX3_isString 2 = .ok (.bipush 11, 2) := by decide +kernel
theorem dX3_isString_4 : decode cX3_isString 4 = .ok (.invokestatic 36, 3) := by decide +kernel
theorem dX3_isString_7 : decode cX3_isString 7 = .ok (.ireturn, 1) := by decide +kernel
theorem dX3_ha_0 : decode cX3_ha 0 = .ok (.aload_n 0, 1) := by decide +kernel
theorem dX3_ha_1 : decode cX3_ha 1 = .ok (.getfield 9, 3) := by decide +kernel
theorem dX3_ha_4 : decode cX3_ha 4 = .ok (.bipush 6, 2) := by decide +kernel
theorem dX3_ha_6 : decode cX3_ha 6 = .ok (.iload_n 1, 1) := by decide +kernel
theorem dX3_ha_7 : decode cX3_ha 7 = .ok (.imul, 1) := by decide +kernel
theorem dX3_ha_8 : decode cX3_ha 8 = .ok (.iload_n 2, 1) := by decide +kernel
theorem dX3_ha_9 : decode cX3_ha 9 = .ok (.iadd, 1) := by decide +kernel
theorem dX3_ha_10 : decode cX3_ha 10 = .ok (.iaload, 1) := by decide +kernel
theorem dX3_ha_11 : decode cX3_ha 11 = .ok (.ireturn, 1) := by decide +kernel
theorem dX3_put_0 : decode cX3_put 0 = .ok (.aload_n 0, 1) := by decide +kernel
theorem dX3_put_1 : decode cX3_put 1 = .ok (.getfield 9, 3) := by decide +kernel
theorem dX3_put_4 : decode cX3_put 4 = .ok (.bipush 6, 2) := by decide +kernel
theorem dX3_put_6 : decode cX3_put 6 = .ok (.iload_n 1, 1) := by decide +kernel
theorem dX3_put_7 : decode cX3_put 7 = .ok (.imul, 1) := by decide +kernel
theorem dX3_put_8 : decode cX3_put 8 = .ok (.iload_n 2, 1) := by decide +kernel
theorem dX3_put_9 : decode cX3_put 9 = .ok (.iadd, 1) := by decide +kernel
theorem dX3_put_10 : decode cX3_put 10 = .ok (.iload_n 3, 1) := by decide +kernel
theorem dX3_put_11 : decode cX3_put 11 = .ok (.iastore, 1) := by decide +kernel
theorem dX3_put_12 : decode cX3_put 12 = .ok (.return_, 1) := by decide +kernel
set_option maxRecDepth 20000 in
theorem ggX3_wedge_X3_isString : GoodIn wsX3_wedge wsX3_isString := goodIn_r _ [5, 6, 7, 4, 8] (by decide +kernel) (by decide +kernel)
set_option maxRecDepth 20000 in
theorem gX3_wedge_X3_isString : GoodIn wsX3_wedge (va_wsS RX3 40 yX3_isString wsX3_isString) := goodIn_app (goodIn_of _ (by decide +kernel)) ggX3_wedge_X3_isString
set_option maxRecDepth 20000 in
theorem ggX3_wedge_X3_ha : GoodIn wsX3_wedge wsX3_ha := goodIn_r _ [12, 13, 14, 15, 16, 17, 18, 19, 20, 21] (by decide +kernel) (by decide +kernel)
set_option maxRecDepth 20000 in
theorem gX3_wedge_X3_ha : GoodIn wsX3_wedge (wsV RX3 44 RX3 yX3_ha wsX3_ha) := goodIn_app (goodIn_of _ (by decide +kernel)) ggX3_wedge_X3_ha
theorem dX3_wedge_0 : decode cX3_wedge 0 = .ok (.iload_n 1, 1) := by decide +kernel
theorem dX3_wedge_1 : decode cX3_wedge 1 = .ok (.invokestatic 40, 3) := by decide +kernel
theorem dX3_wedge_4 : decode cX3_wedge 4 = .ok (.ifCond .eq 19, 3) := by decide +kernel
theorem dX3_wedge_7 : decode cX3_wedge 7 = .ok (.aload_n 0, 1) := by decide +kernel
theorem dX3_wedge_8 : decode cX3_wedge 8 = .ok (.iload_n 1, 1) := by decide +kernel
theorem dX3_wedge_9 : decode cX3_wedge 9 = .ok (.iconst 1, 1) := by decide +kernel
theorem dX3_wedge_10 : decode cX3_wedge 10 = .ok (.invokevirtual 44, 3) := by decide +kernel
theorem dX3_wedge_13 : decode cX3_wedge 13 = .ok (.aload_n 0, 1) := by decide +kernel
theorem dX3_wedge_14 : decode cX3_wedge 14 = .ok (.getfield 25, 3) := by decide +kernel
theorem dX3_wedge_17 : decode cX3_wedge 17 = .ok (.iload_n 1, 1) := by decide +kernel
theorem dX3_wedge_18 : decode cX3_wedge 18 = .ok (.iaload, 1) := by decide +kernel
theorem dX3_wedge_19 : decode cX3_wedge 19 = .ok (.iadd, 1) := by decide +kernel
theorem dX3_wedge_20 : decode cX3_wedge 20 = .ok (.goto 4, 3) := by decide +kernel
theorem dX3_wedge_23 : decode cX3_wedge 23 = .ok (.iconst 0, 1) := by decide +kernel
theorem dX3_wedge_24 : decode cX3_wedge 24 = .ok (.ireturn, 1) := by decide +kernel
set_option maxRecDepth 20000 in
theorem ggX3_tone_X3_ha : GoodIn wsX3_tone wsX3_ha := goodIn_r _ [6, 7, 19, 20, 21, 22, 23, 24, 25, 26] (by decide +kernel) (by decide +kernel)
set_option maxRecDepth 20000 in
theorem gX3_tone_X3_ha : GoodIn wsX3_tone (wsV RX3 44 RX3 yX3_ha wsX3_ha) := goodIn_app (goodIn_of _ (by decide +kernel)) ggX3_tone_X3_ha
set_option maxRecDepth 20000 in
theorem ggX3_tone_X3_wedge : GoodIn wsX3_tone wsX3_wedge := goodIn_r _ [11, 12, 13, 14, 5, 15, 16, 17, 18, 2, 3, 4, 6, 7, 19, 20, 21, 22, 23, 24, 25, 26] (by decide +kernel) (by decide +kernel)
set_option maxRecDepth 20000 in
theorem gX3_tone_X3_wedge : GoodIn wsX3_tone (wsV RX3 48 RX3 yX3_wedge wsX3_wedge) := goodIn_app (goodIn_of _ (by decide +kernel)) ggX3_tone_X3_wedge
theorem dX3_tone_0 : decode cX3_tone 0 = .ok (.aload_n 0, 1) := by decide +kernel
theorem dX3_tone_1 : decode cX3_tone 1 = .ok (.iload_n 1, 1) := by decide +kernel
theorem dX3_tone_2 : decode cX3_tone 2 = .ok (.iconst 4, 1) := by decide +kernel
theorem dX3_tone_3 : decode cX3_tone 3 = .ok (.invokevirtual 44, 3) := by decide +kernel
theorem dX3_tone_6 : decode cX3_tone 6 = .ok (.ifCond .ne 7, 3) := by decide +kernel
theorem dX3_tone_9 : decode cX3_tone 9 = .ok (.iconst 0, 1) := by decide +kernel
theorem dX3_tone_10 : decode cX3_tone 10 = .ok (.goto 50, 3) := by decide +kernel
theorem dX3_tone_13 : decode cX3_tone 13 = .ok (.aload_n 0, 1) := by decide +kernel
theorem dX3_tone_14 : decode cX3_tone 14 = .ok (.iload_n 1, 1) := by decide +kernel
theorem dX3_tone_15 : decode cX3_tone 15 = .ok (.iconst 0, 1) := by decide +kernel
theorem dX3_tone_16 : decode cX3_tone 16 = .ok (.invokevirtual 44, 3) := by decide +kernel
theorem dX3_tone_19 : decode cX3_tone 19 = .ok (.bipush 10, 2) := by decide +kernel
theorem dX3_tone_21 : decode cX3_tone 21 = .ok (.aload_n 0, 1) := by decide +kernel
theorem dX3_tone_22 : decode cX3_tone 22 = .ok (.iload_n 1, 1) := by decide +kernel
theorem dX3_tone_23 : decode cX3_tone 23 = .ok (.invokevirtual 48, 3) := by decide +kernel
theorem dX3_tone_26 : decode cX3_tone 26 = .ok (.imul, 1) := by decide +kernel
theorem dX3_tone_27 : decode cX3_tone 27 = .ok (.iadd, 1) := by decide +kernel
theorem dX3_tone_28 : decode cX3_tone 28 = .ok (.iconst 3, 1) := by decide +kernel
theorem dX3_tone_29 : decode cX3_tone 29 = .ok (.aload_n 0, 1) := by decide +kernel
theorem dX3_tone_30 : decode cX3_tone 30 = .ok (.iload_n 1, 1) := by decide +kernel
theorem dX3_tone_31 : decode cX3_tone 31 = .ok (.iconst 1, 1) := by decide +kernel
theorem dX3_tone_32 : decode cX3_tone 32 = .ok (.isub, 1) := by decide +kernel
theorem dX3_tone_33 : decode cX3_tone 33 = .ok (.invokevirtual 48, 3) := by decide +kernel
theorem dX3_tone_36 : decode cX3_tone 36 = .ok (.aload_n 0, 1) := by decide +kernel
theorem dX3_tone_37 : decode cX3_tone 37 = .ok (.iload_n 1, 1) := by decide +kernel
theorem dX3_tone_38 : decode cX3_tone 38 = .ok (.iconst 1, 1) := by decide +kernel
theorem dX3_tone_39 : decode cX3_tone 39 = .ok (.iadd, 1) := by decide +kernel
theorem dX3_tone_40 : decode cX3_tone 40 = .ok (.invokevirtual 48, 3) := by decide +kernel
theorem dX3_tone_43 : decode cX3_tone 43 = .ok (.iadd, 1) := by decide +kernel
theorem dX3_tone_44 : decode cX3_tone 44 = .ok (.imul, 1) := by decide +kernel
theorem dX3_tone_45 : decode cX3_tone 45 = .ok (.iadd, 1) := by decide +kernel
theorem dX3_tone_46 : decode cX3_tone 46 = .ok (.aload_n 0, 1) := by decide +kernel
theorem dX3_tone_47 : decode cX3_tone 47 = .ok (.iload_n 1, 1) := by decide +kernel
theorem dX3_tone_48 : decode cX3_tone 48 = .ok (.iconst 2, 1) := by decide +kernel
theorem dX3_tone_49 : decode cX3_tone 49 = .ok (.invokevirtual 44, 3) := by decide +kernel
theorem dX3_tone_52 : decode cX3_tone 52 = .ok (.iadd, 1) := by decide +kernel
theorem dX3_tone_53 : decode cX3_tone 53 = .ok (.aload_n 0, 1) := by decide +kernel
theorem dX3_tone_54 : decode cX3_tone 54 = .ok (.getfield 22, 3) := by decide +kernel
theorem dX3_tone_57 : decode cX3_tone 57 = .ok (.iconst 1, 1) := by decide +kernel
theorem dX3_tone_58 : decode cX3_tone 58 = .ok (.iaload, 1) := by decide +kernel
theorem dX3_tone_59 : decode cX3_tone 59 = .ok (.isub, 1) := by decide +kernel
theorem dX3_tone_60 : decode cX3_tone 60 = .ok (.ireturn, 1) := by decide +kernel
set_option maxRecDepth 20000 in
theorem ggX3_push_X3_isString : GoodIn wsX3_push wsX3_isString := goodIn_r _ [5, 6, 7, 4, 8] (by decide +kernel) (by decide +kernel)
set_option maxRecDepth 20000 in
theorem gX3_push_X3_isString : GoodIn wsX3_push (va_wsS RX3 40 yX3_isString wsX3_isString) := goodIn_app (goodIn_of _ (by decide +kernel)) ggX3_push_X3_isString
set_option maxRecDepth 20000 in
theorem ggX3_push_X3_fail : GoodIn wsX3_push wsX3_fail := goodIn_r _ [12, 1, 32, 33, 34, 35, 36, 37, 38, 39] (by decide +kernel) (by decide +kernel)
set_option maxRecDepth 20000 in
theorem gX3_push_X3_fail : GoodIn wsX3_push (wsV RX3 52 RX3 yX3_fail wsX3_fail) := goodIn_app (goodIn_of _ (by decide +kernel)) ggX3_push_X3_fail
set_option maxRecDepth 20000 in
theorem ggX3_push_X3_isIn : GoodIn wsX3_push wsX3_isIn := goodIn_r _ [8] (by decide +kernel) (by decide +kernel)
set_option maxRecDepth 20000 in
theorem gX3_push_X3_isIn : GoodIn wsX3_push (va_wsS RX3 36 yX3_isIn wsX3_isIn) := goodIn_app (goodIn_of _ (by decide +kernel)) ggX3_push_X3_isIn
set_option maxRecDepth 20000 in
theorem ggX3_push_X3_ha : GoodIn wsX3_push wsX3_ha := goodIn_r _ [16, 17, 32, 33, 34, 35, 36, 37, 38, 39] (by decide +kernel) (by decide +kernel)
set_option maxRecDepth 20000 in
theorem gX3_push_X3_ha : GoodIn wsX3_push (wsV RX3 44 RX3 yX3_ha wsX3_ha) := goodIn_app (goodIn_of _ (by decide +kernel)) ggX3_push_X3_ha
set_option maxRecDepth 20000 in
theorem ggX3_push_X3_put : GoodIn wsX3_push wsX3_put := goodIn_r _ [21, 17, 32, 33, 34, 35, 36, 37, 38, 39] (by decide +kernel) (by decide +kernel)
set_option maxRecDepth 20000 in
theorem gX3_push_X3_put : GoodIn wsX3_push (wsV RX3 28 RX3 yX3_put wsX3_put) := goodIn_app (goodIn_of _ (by decide +kernel)) ggX3_push_X3_put
set_option maxRecDepth 20000 in
theorem ggX3_push_X3_tone : GoodIn wsX3_push wsX3_tone := goodIn_r _ [25, 26, 13, 14, 15, 4, 16, 17, 27, 28, 29, 30, 31, 2, 3, 5, 6, 7, 8, 32, 33, 34, 35, 36, 37, 38, 39] (by decide +kernel) (by decide +kernel)
set_option maxRecDepth 20000 in
theorem gX3_push_X3_tone : GoodIn wsX3_push (wsV RX3 55 RX3 yX3_tone wsX3_tone) := goodIn_app (goodIn_of _ (by decide +kernel)) ggX3_push_X3_tone
theorem dX3_push_0 : decode cX3_push 0 = .ok (.aload_n 0, 1) := by decide +kernel
theorem dX3_push_1 : decode cX3_push 1 = .ok (.iconst 0, 1) := by decide +kernel
theorem dX3_push_2 : decode cX3_push 2 = .ok (.putfield 32, 3) := by decide +kernel
theorem dX3_push_5 : decode cX3_push 5 = .ok (.iload_n 1, 1) := by decide +kernel
theorem dX3_push_6 : decode cX3_push 6 = .ok (.invokestatic 40, 3) := by decide +kernel
theorem dX3_push_9 : decode cX3_push 9 = .ok (.ifCond .ne 9, 3) := by decide +kernel
theorem dX3_push_12 : decode cX3_push 12 = .ok (.aload_n 0, 1) := by decide +kernel
theorem dX3_push_13 : decode cX3_push 13 = .ok (.iconst 1, 1) := by decide +kernel
theorem dX3_push_14 : decode cX3_push 14 = .ok (.invokevirtual 52, 3) := by decide +kernel
theorem dX3_push_17 : decode cX3_push 17 = .ok (.ireturn, 1) := by decide +kernel
theorem dX3_push_18 : decode cX3_push 18 = .ok (.iload_n 2, 1) := by decide +kernel
theorem dX3_push_19 : decode cX3_push 19 = .ok (.ifCond .eq 14, 3) := by decide +kernel
theorem dX3_push_22 : decode cX3_push 22 = .ok (.iload_n 2, 1) := by decide +kernel
theorem dX3_push_23 : decode cX3_push 23 = .ok (.bipush (-20), 2) := by decide +kernel
theorem dX3_push_25 : decode cX3_push 25 = .ok (.bipush 20, 2) := by decide +kernel
theorem dX3_push_27 : decode cX3_push 27 = .ok (.invokestatic 36, 3) := by decide +kernel
theorem dX3_push_30 : decode cX3_push 30 = .ok (.ifCond .ne 9, 3) := by decide +kernel
theorem dX3_push_33 : decode cX3_push 33 = .ok (.aload_n 0, 1) := by decide +kernel
theorem dX3_push_34 : decode cX3_push 34 = .ok (.iconst 2, 1) := by decide +kernel
theorem dX3_push_35 : decode cX3_push 35 = .ok (.invokevirtual 52, 3) := by decide +kernel
theorem dX3_push_38 : decode cX3_push 38 = .ok (.ireturn, 1) := by decide +kernel
theorem dX3_push_39 : decode cX3_push 39 = .ok (.aload_n 0, 1) := by decide +kernel
theorem dX3_push_40 : decode cX3_push 40 = .ok (.iload_n 1, 1) := by decide +kernel
theorem dX3_push_41 : decode cX3_push 41 = .ok (.iconst 1, 1) := by decide +kernel
theorem dX3_push_42 : decode cX3_push 42 = .ok (.invokevirtual 44, 3) := by decide +kernel
theorem dX3_push_45 : decode cX3_push 45 = .ok (.iload_n 2, 1) := by decide +kernel
theorem dX3_push_46 : decode cX3_push 46 = .ok (.iadd, 1) := by decide +kernel
theorem dX3_push_47 : decode cX3_push 47 = .ok (.iconst 0, 1) := by decide +kernel
theorem dX3_push_48 : decode cX3_push 48 = .ok (.bipush 20, 2) := by decide +kernel
theorem dX3_push_50 : decode cX3_push 50 = .ok (.invokestatic 36, 3) := by decide +kernel
theorem dX3_push_53 : decode cX3_push 53 = .ok (.ifCond .ne 9, 3) := by decide +kernel
theorem dX3_push_56 : decode cX3_push 56 = .ok (.aload_n 0, 1) := by decide +kernel
theorem dX3_push_57 : decode cX3_push 57 = .ok (.iconst 3, 1) := by decide +kernel
theorem dX3_push_58 : decode cX3_push 58 = .ok (.invokevirtual 52, 3) := by decide +kernel
theorem dX3_push_61 : decode cX3_push 61 = .ok (.ireturn, 1) := by decide +kernel
theorem dX3_push_62 : decode cX3_push 62 = .ok (.aload_n 0, 1) := by decide +kernel
theorem dX3_push_63 : decode cX3_push 63 = .ok (.iload_n 1, 1) := by decide +kernel
theorem dX3_push_64 : decode cX3_push 64 = .ok (.iconst 1, 1) := by decide +kernel
theorem dX3_push_65 : decode cX3_push 65 = .ok (.aload_n 0, 1) := by decide +kernel
theorem dX3_push_66 : decode cX3_push 66 = .ok (.iload_n 1, 1) := by decide +kernel
theorem dX3_push_67 : decode cX3_push 67 = .ok (.iconst 1, 1) := by decide +kernel
theorem dX3_push_68 : decode cX3_push 68 = .ok (.invokevirtual 44, 3) := by decide +kernel
theorem dX3_push_71 : decode cX3_push 71 = .ok (.iload_n 2, 1) := by decide +kernel
theorem dX3_push_72 : decode cX3_push 72 = .ok (.iadd, 1) := by decide +kernel
theorem dX3_push_73 : decode cX3_push 73 = .ok (.invokevirtual 28, 3) := by decide +kernel
theorem dX3_push_76 : decode cX3_push 76 = .ok (.aload_n 0, 1) := by decide +kernel
theorem dX3_push_77 : decode cX3_push 77 = .ok (.iload_n 1, 1) := by decide +kernel
theorem dX3_push_78 : decode cX3_push 78 = .ok (.invokevirtual 55, 3) := by decide +kernel
theorem dX3_push_81 : decode cX3_push 81 = .ok (.ireturn, 1) := by decide +kernel
set_option maxRecDepth 20000 in
theorem ggX3_draw_X3_isString : GoodIn wsX3_draw wsX3_isString := goodIn_r _ [5, 6, 7, 4, 8] (by decide +kernel) (by decide +kernel)
set_option maxRecDepth 20000 in
theorem gX3_draw_X3_isString : GoodIn wsX3_draw (va_wsS RX3 40 yX3_isString wsX3_isString) := goodIn_app (goodIn_of _ (by decide +kernel)) ggX3_draw_X3_isString
set_option maxRecDepth 20000 in
theorem ggX3_draw_X3_fail : GoodIn wsX3_draw wsX3_fail := goodIn_r _ [12, 1, 32, 33, 34, 35, 36, 37, 38, 39] (by decide +kernel) (by decide +kernel)
set_option maxRecDepth 20000 in
theorem gX3_draw_X3_fail : GoodIn wsX3_draw (wsV RX3 52 RX3 yX3_fail wsX3_fail) := goodIn_app (goodIn_of _ (by decide +kernel)) ggX3_draw_X3_fail
set_option maxRecDepth 20000 in
theorem ggX3_draw_X3_isIn : GoodIn wsX3_draw wsX3_isIn := goodIn_r _ [8] (by decide +kernel) (by decide +kernel)
set_option maxRecDepth 20000 in
theorem gX3_draw_X3_isIn : GoodIn wsX3_draw (va_wsS RX3 36 yX3_isIn wsX3_isIn) := goodIn_app (goodIn_of _ (by decide +kernel)) ggX3_draw_X3_isIn
set_option maxRecDepth 20000 in
theorem ggX3_draw_X3_put : GoodIn wsX3_draw wsX3_put := goodIn_r _ [16, 17, 32, 33, 34, 35, 36, 37, 38, 39] (by decide +kernel) (by decide +kernel)
set_option maxRecDepth 20000 in
theorem gX3_draw_X3_put : GoodIn wsX3_draw (wsV RX3 28 RX3 yX3_put wsX3_put) := goodIn_app (goodIn_of _ (by decide +kernel)) ggX3_draw_X3_put
set_option maxRecDepth 20000 in
theorem ggX3_draw_X3_tone : GoodIn wsX3_draw wsX3_tone := goodIn_r _ [21, 22, 23, 24, 25, 4, 26, 17, 27, 28, 29, 30, 31, 2, 3, 5, 6, 7, 8, 32, 33, 34, 35, 36, 37, 38, 39] (by decide +kernel) (by decide +kernel)
set_option maxRecDepth 20000 in
theorem gX3_draw_X3_tone : GoodIn wsX3_draw (wsV RX3 55 RX3 yX3_tone wsX3_tone) := goodIn_app (goodIn_of _ (by decide +kernel)) ggX3_draw_X3_tone
theorem dX3_draw_0 : decode cX3_draw 0 = .ok (.aload_n 0, 1) := by decide +kernel
theorem dX3_draw_1 : decode cX3_draw 1 = .ok (.iconst 0, 1) := by decide +kernel
theorem dX3_draw_2 : decode cX3_draw 2 = .ok (.putfield 32, 3) := by decide +kernel
theorem dX3_draw_5 : decode cX3_draw 5 = .ok (.iload_n 1, 1) := by decide +kernel
theorem dX3_draw_6 : decode cX3_draw 6 = .ok (.invokestatic 40, 3) := by decide +kernel
theorem dX3_draw_9 : decode cX3_draw 9 = .ok (.ifCond .ne 9, 3) := by decide +kernel
theorem dX3_draw_12 : decode cX3_draw 12 = .ok (.aload_n 0, 1) := by decide +kernel
theorem dX3_draw_13 : decode cX3_draw 13 = .ok (.iconst 1, 1) := by decide +kernel
theorem dX3_draw_14 : decode cX3_draw 14 = .ok (.invokevirtual 52, 3) := by decide +kernel
theorem dX3_draw_17 : decode cX3_draw 17 = .ok (.ireturn, 1) := by decide +kernel
theorem dX3_draw_18 : decode cX3_draw 18 = .ok (.iload_n 2, 1) := by decide +kernel
theorem dX3_draw_19 : decode cX3_draw 19 = .ok (.bipush 100, 2) := by decide +kernel
theorem dX3_draw_21 : decode cX3_draw 21 = .ok (.sipush 900, 3) := by decide +kernel
theorem dX3_draw_24 : decode cX3_draw 24 = .ok (.invokestatic 36, 3) := by decide +kernel
theorem dX3_draw_27 : decode cX3_draw 27 = .ok (.ifCond .ne 9, 3) := by decide +kernel
theorem dX3_draw_30 : decode cX3_draw 30 = .ok (.aload_n 0, 1) := by decide +kernel
theorem dX3_draw_31 : decode cX3_draw 31 = .ok (.iconst 2, 1) := by decide +kernel
theorem dX3_draw_32 : decode cX3_draw 32 = .ok (.invokevirtual 52, 3) := by decide +kernel
theorem dX3_draw_35 : decode cX3_draw 35 = .ok (.ireturn, 1) := by decide +kernel
theorem dX3_draw_36 : decode cX3_draw 36 = .ok (.aload_n 0, 1) := by decide +kernel
theorem dX3_draw_37 : decode cX3_draw 37 = .ok (.iload_n 1, 1) := by decide +kernel
theorem dX3_draw_38 : decode cX3_draw 38 = .ok (.iconst 0, 1) := by decide +kernel
theorem dX3_draw_39 : decode cX3_draw 39 = .ok (.iload_n 2, 1) := by decide +kernel
theorem dX3_draw_40 : decode cX3_draw 40 = .ok (.invokevirtual 28, 3) := by decide +kernel
theorem dX3_draw_43 : decode cX3_draw 43 = .ok (.aload_n 0, 1) := by decide +kernel
theorem dX3_draw_44 : decode cX3_draw 44 = .ok (.iload_n 1, 1) := by decide +kernel
theorem dX3_draw_45 : decode cX3_draw 45 = .ok (.iconst 4, 1) := by decide +kernel
theorem dX3_draw_46 : decode cX3_draw 46 = .ok (.iconst 1, 1) := by decide +kernel
theorem dX3_draw_47 : decode cX3_draw 47 = .ok (.invokevirtual 28, 3) := by decide +kernel
theorem dX3_draw_50 : decode cX3_draw 50 = .ok (.aload_n 0, 1) := by decide +kernel
theorem dX3_draw_51 : decode cX3_draw 51 = .ok (.iload_n 1, 1) := by decide +kernel
theorem dX3_draw_52 : decode cX3_draw 52 = .ok (.iconst 2, 1) := by decide +kernel
theorem dX3_draw_53 : decode cX3_draw 53 = .ok (.iconst 0, 1) := by decide +kernel
theorem dX3_draw_54 : decode cX3_draw 54 = .ok (.invokevirtual 28, 3) := by decide +kernel
theorem dX3_draw_57 : decode cX3_draw 57 = .ok (.aload_n 0, 1) := by decide +kernel
theorem dX3_draw_58 : decode cX3_draw 58 = .ok (.iload_n 1, 1) := by decide +kernel
theorem dX3_draw_59 : decode cX3_draw 59 = .ok (.iconst 3, 1) := by decide +kernel
theorem dX3_draw_60 : decode cX3_draw 60 = .ok (.iconst 0, 1) := by decide +kernel
theorem dX3_draw_61 : decode cX3_draw 61 = .ok (.invokevirtual 28, 3) := by decide +kernel
theorem dX3_draw_64 : decode cX3_draw 64 = .ok (.aload_n 0, 1) := by decide +kernel
theorem dX3_draw_65 : decode cX3_draw 65 = .ok (.iload_n 1, 1) := by decide +kernel
theorem dX3_draw_66 : decode cX3_draw 66 = .ok (.invokevirtual 55, 3) := by decide +kernel
theorem dX3_draw_69 : decode cX3_draw 69 = .ok (.ireturn, 1) := by decide +kernel
set_option maxRecDepth 20000 in
theorem ggX3_setWeather_X3_isIn : GoodIn wsX3_setWeather wsX3_isIn := goodIn_r _ [7] (by decide +kernel) (by decide +kernel)
set_option maxRecDepth 20000 in
theorem gX3_setWeather_X3_isIn : GoodIn wsX3_setWeather (va_wsS RX3 36 yX3_isIn wsX3_isIn) := goodIn_app (goodIn_of _ (by decide +kernel)) ggX3_setWeather_X3_isIn
set_option maxRecDepth 20000 in
theorem ggX3_setWeather_X3_fail : GoodIn wsX3_setWeather wsX3_fail := goodIn_r _ [11, 1, 12, 13, 14, 15, 16, 17, 18, 19] (by decide +kernel) (by decide +kernel)
set_option maxRecDepth 20000 in
theorem gX3_setWeather_X3_fail : GoodIn wsX3_setWeather (wsV RX3 52 RX3 yX3_fail wsX3_fail) := goodIn_app (goodIn_of _ (by decide +kernel)) ggX3_setWeather_X3_fail
theorem dX3_setWeather_0 : decode cX3_setWeather 0 = .ok (.aload_n 0, 1) := by decide +kernel
theorem dX3_setWeather_1 : decode cX3_setWeather 1 = .ok (.iconst 0, 1) := by decide +kernel
theorem dX3_setWeather_2 : decode cX3_setWeather 2 = .ok (.putfield 32, 3) := by decide +kernel
theorem dX3_setWeather_5 : decode cX3_setWeather 5 = .ok (.iload_n 1, 1) := by decide +kernel
theorem dX3_setWeather_6 : decode cX3_setWeather 6 = .ok (.iconst 0, 1) := by decide +kernel
theorem dX3_setWeather_7 : decode cX3_setWeather 7 = .ok (.bipush 11, 2) := by decide +kernel
theorem dX3_setWeather_9 : decode cX3_setWeather 9 = .ok (.invokestatic 36, 3) := by decide +kernel
theorem dX3_setWeather_12 : decode cX3_setWeather 12 = .ok (.ifCond .ne 9, 3) := by decide +kernel
theorem dX3_setWeather_15 : decode cX3_setWeather 15 = .ok (.aload_n 0, 1) := by decide +kernel
theorem dX3_setWeather_16 : decode cX3_setWeather 16 = .ok (.iconst 1, 1) := by decide +kernel
theorem dX3_setWeather_17 : decode cX3_setWeather 17 = .ok (.invokevirtual 52, 3) := by decide +kernel
theorem dX3_setWeather_20 : decode cX3_setWeather 20 = .ok (.ireturn, 1) := by decide +kernel
theorem dX3_setWeather_21 : decode cX3_setWeather 21 = .ok (.iload_n 2, 1) := by decide +kernel
theorem dX3_setWeather_22 : decode cX3_setWeather 22 = .ok (.iconst 0, 1) := by decide +kernel
theorem dX3_setWeather_23 : decode cX3_setWeather 23 = .ok (.bipush 20, 2) := by decide +kernel
theorem dX3_setWeather_25 : decode cX3_setWeather 25 = .ok (.invokestatic 36, 3) := by decide +kernel
theorem dX3_setWeather_28 : decode cX3_setWeather 28 = .ok (.ifCond .eq 13, 3) := by decide +kernel
theorem dX3_setWeather_31 : decode cX3_setWeather 31 = .ok (.iload_n 3, 1) := by decide +kernel
theorem dX3_setWeather_32 : decode cX3_setWeather 32 = .ok (.iconst 0, 1) := by decide +kernel
theorem dX3_setWeather_33 : decode cX3_setWeather 33 = .ok (.bipush 9, 2) := by decide +kernel
theorem dX3_setWeather_35 : decode cX3_setWeather 35 = .ok (.invokestatic 36, 3) := by decide +kernel
theorem dX3_setWeather_38 : decode cX3_setWeather 38 = .ok (.ifCond .ne 9, 3) := by decide +kernel
theorem dX3_setWeather_41 : decode cX3_setWeather 41 = .ok (.aload_n 0, 1) := by decide +kernel
theorem dX3_setWeather_42 : decode cX3_setWeather 42 = .ok (.iconst 2, 1) := by decide +kernel
theorem dX3_setWeather_43 : decode cX3_setWeather 43 = .ok (.invokevirtual 52, 3) := by decide +kernel
theorem dX3_setWeather_46 : decode cX3_setWeather 46 = .ok (.ireturn, 1) := by decide +kernel
theorem dX3_setWeather_47 : decode cX3_setWeather 47 = .ok (.bipush 10, 2) := by decide +kernel
theorem dX3_setWeather_49 : decode cX3_setWeather 49 = .ok (.aload_n 0, 1) := by decide +kernel
theorem dX3_setWeather_50 : decode cX3_setWeather 50 = .ok (.getfield 16, 3) := by decide +kernel
theorem dX3_setWeather_53 : decode cX3_setWeather 53 = .ok (.iload_n 1, 1) := by decide +kernel
theorem dX3_setWeather_54 : decode cX3_setWeather 54 = .ok (.iaload, 1) := by decide +kernel
theorem dX3_setWeather_55 : decode cX3_setWeather 55 = .ok (.imul, 1) := by decide +kernel
theorem dX3_setWeather_56 : decode cX3_setWeather 56 = .ok (.aload_n 0, 1) := by decide +kernel
theorem dX3_setWeather_57 : decode cX3_setWeather 57 = .ok (.getfield 19, 3) := by decide +kernel
theorem dX3_setWeather_60 : decode cX3_setWeather 60 = .ok (.iload_n 1, 1) := by decide +kernel
theorem dX3_setWeather_61 : decode cX3_setWeather 61 = .ok (.iaload, 1) := by decide +kernel
theorem dX3_setWeather_62 : decode cX3_setWeather 62 = .ok (.iadd, 1) := by decide +kernel
theorem dX3_setWeather_63 : decode cX3_setWeather 63 = .ok (.istore 4, 2) := by decide +kernel
theorem dX3_setWeather_65 : decode cX3_setWeather 65 = .ok (.aload_n 0, 1) := by decide +kernel
theorem dX3_setWeather_66 : decode cX3_setWeather 66 = .ok (.getfield 16, 3) := by decide +kernel
theorem dX3_setWeather_69 : decode cX3_setWeather 69 = .ok (.iload_n 1, 1) := by decide +kernel
theorem dX3_setWeather_70 : decode cX3_setWeather 70 = .ok (.iload_n 2, 1) := by decide +kernel
theorem dX3_setWeather_71 : decode cX3_setWeather 71 = .ok (.iastore, 1) := by decide +kernel
theorem dX3_setWeather_72 : decode cX3_setWeather 72 = .ok (.aload_n 0, 1) := by decide +kernel
theorem dX3_setWeather_73 : decode cX3_setWeather 73 = .ok (.getfield 19, 3) := by decide +kernel
theorem dX3_setWeather_76 : decode cX3_setWeather 76 = .ok (.iload_n 1, 1) := by decide +kernel
theorem dX3_setWeather_77 : decode cX3_setWeather 77 = .ok (.iload_n 3, 1) := by decide +kernel
theorem dX3_setWeather_78 : decode cX3_setWeather 78 = .ok (.iastore, 1) := by decide +kernel
theorem dX3_setWeather_79 : decode cX3_setWeather 79 = .ok (.iload 4, 2) := by decide +kernel
theorem dX3_setWeather_81 : decode cX3_setWeather 81 = .ok (.ireturn, 1) := by decide +kernel
set_option maxRecDepth 20000 in
theorem ggX3_stringTold_X3_ha : GoodIn wsX3_stringTold wsX3_ha := goodIn_r _ [5, 6, 23, 24, 25, 26, 27, 28, 29, 30] (by decide +kernel) (by decide +kernel)
set_option maxRecDepth 20000 in
theorem gX3_stringTold_X3_ha : GoodIn wsX3_stringTold (wsV RX3 44 RX3 yX3_ha wsX3_ha) := goodIn_app (goodIn_of _ (by decide +kernel)) ggX3_stringTold_X3_ha
set_option maxRecDepth 20000 in
theorem ggX3_stringTold_X3_tone : GoodIn wsX3_stringTold wsX3_tone := goodIn_r _ [10, 11, 1, 2, 3, 4, 5, 6, 12, 13, 14, 15, 16, 17, 18, 19, 20, 21, 22, 23, 24, 25, 26, 27, 28, 29, 30] (by decide +kernel) (by decide +kernel)
set_option maxRecDepth 20000 in
theorem gX3_stringTold_X3_tone : GoodIn wsX3_stringTold (wsV RX3 55 RX3 yX3_tone wsX3_tone) := goodIn_app (goodIn_of _ (by decide +kernel)) ggX3_stringTold_X3_tone
theorem dX3_stringTold_0 : decode cX3_stringTold 0 = .ok (.iload_n 2, 1) := by decide +kernel
theorem dX3_stringTold_1 : decode cX3_stringTold 1 = .ok (.iconst 5, 1) := by decide +kernel
theorem dX3_stringTold_2 : decode cX3_stringTold 2 = .ok (.if_icmp .ge 12, 3) := by decide +kernel
theorem dX3_stringTold_5 : decode cX3_stringTold 5 = .ok (.aload_n 0, 1) := by decide +kernel
theorem dX3_stringTold_6 : decode cX3_stringTold 6 = .ok (.iload_n 1, 1) := by decide +kernel
theorem dX3_stringTold_7 : decode cX3_stringTold 7 = .ok (.iload_n 2, 1) := by decide +kernel
theorem dX3_stringTold_8 : decode cX3_stringTold 8 = .ok (.invokevirtual 44, 3) := by decide +kernel
theorem dX3_stringTold_11 : decode cX3_stringTold 11 = .ok (.goto 22, 3) := by decide +kernel
theorem dX3_stringTold_14 : decode cX3_stringTold 14 = .ok (.iload_n 2, 1) := by decide +kernel
theorem dX3_stringTold_15 : decode cX3_stringTold 15 = .ok (.iconst 5, 1) := by decide +kernel
theorem dX3_stringTold_16 : decode cX3_stringTold 16 = .ok (.if_icmp .ne 11, 3) := by decide +kernel
theorem dX3_stringTold_19 : decode cX3_stringTold 19 = .ok (.aload_n 0, 1) := by decide +kernel
theorem dX3_stringTold_20 : decode cX3_stringTold 20 = .ok (.iload_n 1, 1) := by decide +kernel
theorem dX3_stringTold_21 : decode cX3_stringTold 21 = .ok (.invokevirtual 55, 3) := by decide +kernel
theorem dX3_stringTold_24 : decode cX3_stringTold 24 = .ok (.goto 9, 3) := by decide +kernel
theorem dX3_stringTold_27 : decode cX3_stringTold 27 = .ok (.aload_n 0, 1) := by decide +kernel
theorem dX3_stringTold_28 : decode cX3_stringTold 28 = .ok (.iload_n 1, 1) := by decide +kernel
theorem dX3_stringTold_29 : decode cX3_stringTold 29 = .ok (.iconst 5, 1) := by decide +kernel
theorem dX3_stringTold_30 : decode cX3_stringTold 30 = .ok (.invokevirtual 44, 3) := by decide +kernel
theorem dX3_stringTold_33 : decode cX3_stringTold 33 = .ok (.ireturn, 1) := by decide +kernel
set_option maxRecDepth 20000 in
theorem ggX3_string_X3_isString : GoodIn wsX3_string wsX3_isString := goodIn_r _ [5, 6, 7, 4, 8] (by decide +kernel) (by decide +kernel)
set_option maxRecDepth 20000 in
theorem gX3_string_X3_isString : GoodIn wsX3_string (va_wsS RX3 40 yX3_isString wsX3_isString) := goodIn_app (goodIn_of _ (by decide +kernel)) ggX3_string_X3_isString
set_option maxRecDepth 20000 in
theorem ggX3_string_X3_isIn : GoodIn wsX3_string wsX3_isIn := goodIn_r _ [8] (by decide +kernel) (by decide +kernel)
set_option maxRecDepth 20000 in
theorem gX3_string_X3_isIn : GoodIn wsX3_string (va_wsS RX3 36 yX3_isIn wsX3_isIn) := goodIn_app (goodIn_of _ (by decide +kernel)) ggX3_string_X3_isIn
set_option maxRecDepth 20000 in
theorem ggX3_string_X3_stringTold : GoodIn wsX3_string wsX3_stringTold := goodIn_r _ [12, 13, 14, 15, 4, 16, 17, 18, 19, 20, 21, 22, 23, 24, 25, 26, 27, 2, 3, 5, 6, 7, 8, 32, 33, 34, 35, 36, 37, 38, 39] (by decide +kernel) (by decide +kernel)
set_option maxRecDepth 20000 in
theorem gX3_string_X3_stringTold : GoodIn wsX3_string (wsV RX3 58 RX3 yX3_stringTold wsX3_stringTold) := goodIn_app (goodIn_of _ (by decide +kernel)) ggX3_string_X3_stringTold
set_option maxRecDepth 20000 in
theorem ggX3_string_X3_fail : GoodIn wsX3_string wsX3_fail := goodIn_r _ [31, 1, 32, 33, 34, 35, 36, 37, 38, 39] (by decide +kernel) (by decide +kernel)
set_option maxRecDepth 20000 in
theorem gX3_string_X3_fail : GoodIn wsX3_string (wsV RX3 52 RX3 yX3_fail wsX3_fail) := goodIn_app (goodIn_of _ (by decide +kernel)) ggX3_string_X3_fail
theorem dX3_string_0 : decode cX3_string 0 = .ok (.aload_n 0, 1) := by decide +kernel
theorem dX3_string_1 : decode cX3_string 1 = .ok (.iconst 0, 1) := by decide +kernel
theorem dX3_string_2 : decode cX3_string 2 = .ok (.putfield 32, 3) := by decide +kernel
theorem dX3_string_5 : decode cX3_string 5 = .ok (.iload_n 1, 1) := by decide +kernel
theorem dX3_string_6 : decode cX3_string 6 = .ok (.invokestatic 40, 3) := by decide +kernel
theorem dX3_string_9 : decode cX3_string 9 = .ok (.ifCond .eq 22, 3) := by decide +kernel
theorem dX3_string_12 : decode cX3_string 12 = .ok (.iload_n 2, 1) := by decide +kernel
theorem dX3_string_13 : decode cX3_string 13 = .ok (.iconst 0, 1) := by decide +kernel
theorem dX3_string_14 : decode cX3_string 14 = .ok (.bipush 6, 2) := by decide +kernel
theorem dX3_string_16 : decode cX3_string 16 = .ok (.invokestatic 36, 3) := by decide +kernel
theorem dX3_string_19 : decode cX3_string 19 = .ok (.ifCond .eq 12, 3) := by decide +kernel
theorem dX3_string_22 : decode cX3_string 22 = .ok (.aload_n 0, 1) := by decide +kernel
theorem dX3_string_23 : decode cX3_string 23 = .ok (.iload_n 1, 1) := by decide +kernel
theorem dX3_string_24 : decode cX3_string 24 = .ok (.iload_n 2, 1) := by decide +kernel
theorem dX3_string_25 : decode cX3_string 25 = .ok (.invokevirtual 58, 3) := by decide +kernel
theorem dX3_string_28 : decode cX3_string 28 = .ok (.goto 8, 3) := by decide +kernel
theorem dX3_string_31 : decode cX3_string 31 = .ok (.aload_n 0, 1) := by decide +kernel
theorem dX3_string_32 : decode cX3_string 32 = .ok (.iconst 1, 1) := by decide +kernel
theorem dX3_string_33 : decode cX3_string 33 = .ok (.invokevirtual 52, 3) := by decide +kernel
theorem dX3_string_36 : decode cX3_string 36 = .ok (.ireturn, 1) := by decide +kernel
set_option maxRecDepth 20000 in
theorem ggX3_moves_X3_isString : GoodIn wsX3_moves wsX3_isString := goodIn_r _ [6, 7, 8, 5, 9] (by decide +kernel) (by decide +kernel)
set_option maxRecDepth 20000 in
theorem gX3_moves_X3_isString : GoodIn wsX3_moves (va_wsS RX3 40 yX3_isString wsX3_isString) := goodIn_app (goodIn_of _ (by decide +kernel)) ggX3_moves_X3_isString
set_option maxRecDepth 20000 in
theorem ggX3_moves_X3_fail : GoodIn wsX3_moves wsX3_fail := goodIn_r _ [13, 1, 28, 29, 30, 31, 32, 33, 34, 35] (by decide +kernel) (by decide +kernel)
set_option maxRecDepth 20000 in
theorem gX3_moves_X3_fail : GoodIn wsX3_moves (wsV RX3 52 RX3 yX3_fail wsX3_fail) := goodIn_app (goodIn_of _ (by decide +kernel)) ggX3_moves_X3_fail
set_option maxRecDepth 20000 in
theorem ggX3_moves_X3_isIn : GoodIn wsX3_moves wsX3_isIn := goodIn_r _ [9] (by decide +kernel) (by decide +kernel)
set_option maxRecDepth 20000 in
theorem gX3_moves_X3_isIn : GoodIn wsX3_moves (va_wsS RX3 36 yX3_isIn wsX3_isIn) := goodIn_app (goodIn_of _ (by decide +kernel)) ggX3_moves_X3_isIn
set_option maxRecDepth 20000 in
theorem ggX3_moves_X3_tone : GoodIn wsX3_moves wsX3_tone := goodIn_r _ [17, 18, 19, 20, 21, 5, 22, 23, 24, 25, 26, 27, 2, 3, 4, 6, 7, 8, 9, 28, 29, 30, 31, 32, 33, 34, 35] (by decide +kernel) (by decide +kernel)
set_option maxRecDepth 20000 in
theorem gX3_moves_X3_tone : GoodIn wsX3_moves (wsV RX3 55 RX3 yX3_tone wsX3_tone) := goodIn_app (goodIn_of _ (by decide +kernel)) ggX3_moves_X3_tone
theorem dX3_moves_0 : decode cX3_moves 0 = .ok (.aload_n 0, 1) := by decide +kernel
theorem dX3_moves_1 : decode cX3_moves 1 = .ok (.iconst 0, 1) := by decide +kernel
theorem dX3_moves_2 : decode cX3_moves 2 = .ok (.putfield 32, 3) := by decide +kernel
theorem dX3_moves_5 : decode cX3_moves 5 = .ok (.iload_n 1, 1) := by decide +kernel
theorem dX3_moves_6 : decode cX3_moves 6 = .ok (.invokestatic 40, 3) := by decide +kernel
theorem dX3_moves_9 : decode cX3_moves 9 = .ok (.ifCond .eq 10, 3) := by decide +kernel
theorem dX3_moves_12 : decode cX3_moves 12 = .ok (.iload_n 3, 1) := by decide +kernel
theorem dX3_moves_13 : decode cX3_moves 13 = .ok (.invokestatic 40, 3) := by decide +kernel
theorem dX3_moves_16 : decode cX3_moves 16 = .ok (.ifCond .ne 9, 3) := by decide +kernel
theorem dX3_moves_19 : decode cX3_moves 19 = .ok (.aload_n 0, 1) := by decide +kernel
theorem dX3_moves_20 : decode cX3_moves 20 = .ok (.iconst 1, 1) := by decide +kernel
theorem dX3_moves_21 : decode cX3_moves 21 = .ok (.invokevirtual 52, 3) := by decide +kernel
theorem dX3_moves_24 : decode cX3_moves 24 = .ok (.ireturn, 1) := by decide +kernel
theorem dX3_moves_25 : decode cX3_moves 25 = .ok (.iload_n 2, 1) := by decide +kernel
theorem dX3_moves_26 : decode cX3_moves 26 = .ok (.bipush (-20), 2) := by decide +kernel
theorem dX3_moves_28 : decode cX3_moves 28 = .ok (.bipush 20, 2) := by decide +kernel
theorem dX3_moves_30 : decode cX3_moves 30 = .ok (.invokestatic 36, 3) := by decide +kernel
theorem dX3_moves_33 : decode cX3_moves 33 = .ok (.ifCond .ne 9, 3) := by decide +kernel
theorem dX3_moves_36 : decode cX3_moves 36 = .ok (.aload_n 0, 1) := by decide +kernel
theorem dX3_moves_37 : decode cX3_moves 37 = .ok (.iconst 2, 1) := by decide +kernel
theorem dX3_moves_38 : decode cX3_moves 38 = .ok (.invokevirtual 52, 3) := by decide +kernel
theorem dX3_moves_41 : decode cX3_moves 41 = .ok (.ireturn, 1) := by decide +kernel
theorem dX3_moves_42 : decode cX3_moves 42 = .ok (.aload_n 0, 1) := by decide +kernel
theorem dX3_moves_43 : decode cX3_moves 43 = .ok (.iload_n 3, 1) := by decide +kernel
theorem dX3_moves_44 : decode cX3_moves 44 = .ok (.invokevirtual 55, 3) := by decide +kernel
theorem dX3_moves_47 : decode cX3_moves 47 = .ok (.istore 4, 2) := by decide +kernel
theorem dX3_moves_49 : decode cX3_moves 49 = .ok (.aload_n 0, 1) := by decide +kernel
theorem dX3_moves_50 : decode cX3_moves 50 = .ok (.getfield 25, 3) := by decide +kernel
theorem dX3_moves_53 : decode cX3_moves 53 = .ok (.iload_n 1, 1) := by decide +kernel
theorem dX3_moves_54 : decode cX3_moves 54 = .ok (.iload_n 2, 1) := by decide +kernel
theorem dX3_moves_55 : decode cX3_moves 55 = .ok (.iastore, 1) := by decide +kernel
theorem dX3_moves_56 : decode cX3_moves 56 = .ok (.aload_n 0, 1) := by decide +kernel
theorem dX3_moves_57 : decode cX3_moves 57 = .ok (.iload_n 3, 1) := by decide +kernel
theorem dX3_moves_58 : decode cX3_moves 58 = .ok (.invokevirtual 55, 3) := by decide +kernel
theorem dX3_moves_61 : decode cX3_moves 61 = .ok (.iload 4, 2) := by decide +kernel
theorem dX3_moves_63 : decode cX3_moves 63 = .ok (.isub, 1) := by decide +kernel
theorem dX3_moves_64 : decode cX3_moves 64 = .ok (.istore 5, 2) := by decide +kernel
theorem dX3_moves_66 : decode cX3_moves 66 = .ok (.aload_n 0, 1) := by decide +kernel
theorem dX3_moves_67 : decode cX3_moves 67 = .ok (.getfield 25, 3) := by decide +kernel
theorem dX3_moves_70 : decode cX3_moves 70 = .ok (.iload_n 1, 1) := by decide +kernel
theorem dX3_moves_71 : decode cX3_moves 71 = .ok (.iconst 0, 1) := by decide +kernel
theorem dX3_moves_72 : decode cX3_moves 72 = .ok (.iastore, 1) := by decide +kernel
theorem dX3_moves_73 : decode cX3_moves 73 = .ok (.iload 5, 2) := by decide +kernel
theorem dX3_moves_75 : decode cX3_moves 75 = .ok (.ireturn, 1) := by decide +kernel
set_option maxRecDepth 20000 in
theorem ggX3_chord_X3_isString : GoodIn wsX3_chord wsX3_isString := goodIn_r _ [12, 13, 14, 11, 15] (by decide +kernel) (by decide +kernel)
set_option maxRecDepth 20000 in
theorem gX3_chord_X3_isString : GoodIn wsX3_chord (va_wsS RX3 40 yX3_isString wsX3_isString) := goodIn_app (goodIn_of _ (by decide +kernel)) ggX3_chord_X3_isString
set_option maxRecDepth 20000 in
theorem ggX3_chord_X3_fail : GoodIn wsX3_chord wsX3_fail := goodIn_r _ [19, 1, 20, 21, 22, 23, 24, 25, 26, 27] (by decide +kernel) (by decide +kernel)
set_option maxRecDepth 20000 in
theorem gX3_chord_X3_fail : GoodIn wsX3_chord (wsV RX3 52 RX3 yX3_fail wsX3_fail) := goodIn_app (goodIn_of _ (by decide +kernel)) ggX3_chord_X3_fail
set_option maxRecDepth 20000 in
theorem ggX3_chord_X3_isIn : GoodIn wsX3_chord wsX3_isIn := goodIn_r _ [15] (by decide +kernel) (by decide +kernel)
set_option maxRecDepth 20000 in
theorem gX3_chord_X3_isIn : GoodIn wsX3_chord (va_wsS RX3 36 yX3_isIn wsX3_isIn) := goodIn_app (goodIn_of _ (by decide +kernel)) ggX3_chord_X3_isIn
theorem dX3_chord_0 : decode cX3_chord 0 = .ok (.aload_n 0, 1) := by decide +kernel
theorem dX3_chord_1 : decode cX3_chord 1 = .ok (.iconst 0, 1) := by decide +kernel
theorem dX3_chord_2 : decode cX3_chord 2 = .ok (.putfield 32, 3) := by decide +kernel
theorem dX3_chord_5 : decode cX3_chord 5 = .ok (.iload_n 1, 1) := by decide +kernel
theorem dX3_chord_6 : decode cX3_chord 6 = .ok (.invokestatic 40, 3) := by decide +kernel
theorem dX3_chord_9 : decode cX3_chord 9 = .ok (.ifCond .ne 9, 3) := by decide +kernel
theorem dX3_chord_12 : decode cX3_chord 12 = .ok (.aload_n 0, 1) := by decide +kernel
theorem dX3_chord_13 : decode cX3_chord 13 = .ok (.iconst 1, 1) := by decide +kernel
theorem dX3_chord_14 : decode cX3_chord 14 = .ok (.invokevirtual 52, 3) := by decide +kernel
theorem dX3_chord_17 : decode cX3_chord 17 = .ok (.ireturn, 1) := by decide +kernel
theorem dX3_chord_18 : decode cX3_chord 18 = .ok (.iconst 2, 1) := by decide +kernel
theorem dX3_chord_19 : decode cX3_chord 19 = .ok (.iload 4, 2) := by decide +kernel
theorem dX3_chord_21 : decode cX3_chord 21 = .ok (.ifCond .le 7, 3) := by decide +kernel
theorem dX3_chord_24 : decode cX3_chord 24 = .ok (.iconst 1, 1) := by decide +kernel
theorem dX3_chord_25 : decode cX3_chord 25 = .ok (.goto 4, 3) := by decide +kernel
theorem dX3_chord_28 : decode cX3_chord 28 = .ok (.iconst 0, 1) := by decide +kernel
theorem dX3_chord_29 : decode cX3_chord 29 = .ok (.iadd, 1) := by decide +kernel
theorem dX3_chord_30 : decode cX3_chord 30 = .ok (.iload 5, 2) := by decide +kernel
theorem dX3_chord_32 : decode cX3_chord 32 = .ok (.ifCond .le 7, 3) := by decide +kernel
theorem dX3_chord_35 : decode cX3_chord 35 = .ok (.iconst 1, 1) := by decide +kernel
theorem dX3_chord_36 : decode cX3_chord 36 = .ok (.goto 4, 3) := by decide +kernel
theorem dX3_chord_39 : decode cX3_chord 39 = .ok (.iconst 0, 1) := by decide +kernel
theorem dX3_chord_40 : decode cX3_chord 40 = .ok (.iadd, 1) := by decide +kernel
theorem dX3_chord_41 : decode cX3_chord 41 = .ok (.istore 6, 2) := by decide +kernel
theorem dX3_chord_43 : decode cX3_chord 43 = .ok (.iload_n 2, 1) := by decide +kernel
theorem dX3_chord_44 : decode cX3_chord 44 = .ok (.iconst 1, 1) := by decide +kernel
theorem dX3_chord_45 : decode cX3_chord 45 = .ok (.sipush 1500, 3) := by decide +kernel
theorem dX3_chord_48 : decode cX3_chord 48 = .ok (.invokestatic 36, 3) := by decide +kernel
theorem dX3_chord_51 : decode cX3_chord 51 = .ok (.ifCond .eq 57, 3) := by decide +kernel
theorem dX3_chord_54 : decode cX3_chord 54 = .ok (.iload_n 3, 1) := by decide +kernel
theorem dX3_chord_55 : decode cX3_chord 55 = .ok (.iconst 1, 1) := by decide +kernel
theorem dX3_chord_56 : decode cX3_chord 56 = .ok (.sipush 1500, 3) := by decide +kernel
theorem dX3_chord_59 : decode cX3_chord 59 = .ok (.invokestatic 36, 3) := by decide +kernel
theorem dX3_chord_62 : decode cX3_chord 62 = .ok (.ifCond .eq 46, 3) := by decide +kernel
theorem dX3_chord_65 : decode cX3_chord 65 = .ok (.iload 4, 2) := by decide +kernel
theorem dX3_chord_67 : decode cX3_chord 67 = .ok (.iconst 0, 1) := by decide +kernel
theorem dX3_chord_68 : decode cX3_chord 68 = .ok (.sipush 1500, 3) := by decide +kernel
theorem dX3_chord_71 : decode cX3_chord 71 = .ok (.invokestatic 36, 3) := by decide +kernel
theorem dX3_chord_74 : decode cX3_chord 74 = .ok (.ifCond .eq 34, 3) := by decide +kernel
theorem dX3_chord_77 : decode cX3_chord 77 = .ok (.iload 5, 2) := by decide +kernel
theorem dX3_chord_79 : decode cX3_chord 79 = .ok (.iconst 0, 1) := by decide +kernel
theorem dX3_chord_80 : decode cX3_chord 80 = .ok (.sipush 1500, 3) := by decide +kernel
theorem dX3_chord_83 : decode cX3_chord 83 = .ok (.invokestatic 36, 3) := by decide +kernel
theorem dX3_chord_86 : decode cX3_chord 86 = .ok (.ifCond .eq 22, 3) := by decide +kernel
theorem dX3_chord_89 : decode cX3_chord 89 = .ok (.iload 4, 2) := by decide +kernel
theorem dX3_chord_91 : decode cX3_chord 91 = .ok (.ifCond .ne 8, 3) := by decide +kernel
theorem dX3_chord_94 : decode cX3_chord 94 = .ok (.iload 5, 2) := by decide +kernel
theorem dX3_chord_96 : decode cX3_chord 96 = .ok (.ifCond .gt 12, 3) := by decide +kernel
theorem dX3_chord_99 : decode cX3_chord 99 = .ok (.iload_n 1, 1) := by decide +kernel
theorem dX3_chord_100 : decode cX3_chord 100 = .ok (.iload 6, 2) := by decide +kernel
theorem dX3_chord_102 : decode cX3_chord 102 = .ok (.iadd, 1) := by decide +kernel
theorem dX3_chord_103 : decode cX3_chord 103 = .ok (.bipush 12, 2) := by decide +kernel
theorem dX3_chord_105 : decode cX3_chord 105 = .ok (.if_icmp .le 9, 3) := by decide +kernel
theorem dX3_chord_108 : decode cX3_chord 108 = .ok (.aload_n 0, 1) := by decide +kernel
theorem dX3_chord_109 : decode cX3_chord 109 = .ok (.iconst 2, 1) := by decide +kernel
theorem dX3_chord_110 : decode cX3_chord 110 = .ok (.invokevirtual 52, 3) := by decide +kernel
theorem dX3_chord_113 : decode cX3_chord 113 = .ok (.ireturn, 1) := by decide +kernel
theorem dX3_chord_114 : decode cX3_chord 114 = .ok (.aload_n 0, 1) := by decide +kernel
theorem dX3_chord_115 : decode cX3_chord 115 = .ok (.getfield 61, 3) := by decide +kernel
theorem dX3_chord_118 : decode cX3_chord 118 = .ok (.bipush 6, 2) := by decide +kernel
theorem dX3_chord_120 : decode cX3_chord 120 = .ok (.if_icmp .ne 9, 3) := by decide +kernel
theorem dX3_chord_123 : decode cX3_chord 123 = .ok (.aload_n 0, 1) := by decide +kernel
theorem dX3_chord_124 : decode cX3_chord 124 = .ok (.iconst 3, 1) := by decide +kernel
theorem dX3_chord_125 : decode cX3_chord 125 = .ok (.invokevirtual 52, 3) := by decide +kernel
theorem dX3_chord_128 : decode cX3_chord 128 = .ok (.ireturn, 1) := by decide +kernel
theorem dX3_chord_129 : decode cX3_chord 129 = .ok (.bipush 6, 2) := by decide +kernel
theorem dX3_chord_131 : decode cX3_chord 131 = .ok (.newarray .int, 2) := by decide +kernel
theorem dX3_chord_133 : decode cX3_chord 133 = .ok (.dup, 1) := by decide +kernel
theorem dX3_chord_134 : decode cX3_chord 134 = .ok (.iconst 0, 1) := by decide +kernel
theorem dX3_chord_135 : decode cX3_chord 135 = .ok (.iload_n 1, 1) := by decide +kernel
theorem dX3_chord_136 : decode cX3_chord 136 = .ok (.iastore, 1) := by decide +kernel
theorem dX3_chord_137 : decode cX3_chord 137 = .ok (.dup, 1) := by decide +kernel
theorem dX3_chord_138 : decode cX3_chord 138 = .ok (.iconst 1, 1) := by decide +kernel
theorem dX3_chord_139 : decode cX3_chord 139 = .ok (.iload 6, 2) := by decide +kernel
theorem dX3_chord_141 : decode cX3_chord 141 = .ok (.iastore, 1) := by decide +kernel
theorem dX3_chord_142 : decode cX3_chord 142 = .ok (.dup, 1) := by decide +kernel
theorem dX3_chord_143 : decode cX3_chord 143 = .ok (.iconst 2, 1) := by decide +kernel
theorem dX3_chord_144 : decode cX3_chord 144 = .ok (.iload_n 2, 1) := by decide +kernel
theorem dX3_chord_145 : decode cX3_chord 145 = .ok (.iastore, 1) := by decide +kernel
theorem dX3_chord_146 : decode cX3_chord 146 = .ok (.dup, 1) := by decide +kernel
theorem dX3_chord_147 : decode cX3_chord 147 = .ok (.iconst 3, 1) := by decide +kernel
theorem dX3_chord_148 : decode cX3_chord 148 = .ok (.iload_n 3, 1) := by decide +kernel
theorem dX3_chord_149 : decode cX3_chord 149 = .ok (.iastore, 1) := by decide +kernel
theorem dX3_chord_150 : decode cX3_chord 150 = .ok (.dup, 1) := by decide +kernel
theorem dX3_chord_151 : decode cX3_chord 151 = .ok (.iconst 4, 1) := by decide +kernel
theorem dX3_chord_152 : decode cX3_chord 152 = .ok (.iload 4, 2) := by decide +kernel
theorem dX3_chord_154 : decode cX3_chord 154 = .ok (.iastore, 1) := by decide +kernel
theorem dX3_chord_155 : decode cX3_chord 155 = .ok (.dup, 1) := by decide +kernel
theorem dX3_chord_156 : decode cX3_chord 156 = .ok (.iconst 5, 1) := by decide +kernel
theorem dX3_chord_157 : decode cX3_chord 157 = .ok (.iload 5, 2) := by decide +kernel
theorem dX3_chord_159 : decode cX3_chord 159 = .ok (.iastore, 1) := by decide +kernel
theorem dX3_chord_160 : decode cX3_chord 160 = .ok (.astore 7, 2) := by decide +kernel
theorem dX3_chord_162 : decode cX3_chord 162 = .ok (.aload 7, 2) := by decide +kernel
theorem dX3_chord_164 : decode cX3_chord 164 = .ok (.iconst 0, 1) := by decide +kernel
theorem dX3_chord_165 : decode cX3_chord 165 = .ok (.aload_n 0, 1) := by decide +kernel
theorem dX3_chord_166 : decode cX3_chord 166 = .ok (.getfield 13, 3) := by decide +kernel
theorem dX3_chord_169 : decode cX3_chord 169 = .ok (.bipush 6, 2) := by decide +kernel
theorem dX3_chord_171 : decode cX3_chord 171 = .ok (.aload_n 0, 1) := by decide +kernel
theorem dX3_chord_172 : decode cX3_chord 172 = .ok (.getfield 61, 3) := by decide +kernel
theorem dX3_chord_175 : decode cX3_chord 175 = .ok (.imul, 1) := by decide +kernel
theorem dX3_chord_176 : decode cX3_chord 176 = .ok (.bipush 6, 2) := by decide +kernel
theorem dX3_chord_178 : decode cX3_chord 178 = .ok (.invokestatic 64, 3) := by decide +kernel
theorem dX3_chord_181 : decode cX3_chord 181 = .ok (.aload_n 0, 1) := by decide +kernel
theorem dX3_chord_182 : decode cX3_chord 182 = .ok (.dup, 1) := by decide +kernel
theorem dX3_chord_183 : decode cX3_chord 183 = .ok (.getfield 61, 3) := by decide +kernel
theorem dX3_chord_186 : decode cX3_chord 186 = .ok (.iconst 1, 1) := by decide +kernel
theorem dX3_chord_187 : decode cX3_chord 187 = .ok (.iadd, 1) := by decide +kernel
theorem dX3_chord_188 : decode cX3_chord 188 = .ok (.putfield 61, 3) := by decide +kernel
theorem dX3_chord_191 : decode cX3_chord 191 = .ok (.aload_n 0, 1) := by decide +kernel
theorem dX3_chord_192 : decode cX3_chord 192 = .ok (.getfield 61, 3) := by decide +kernel
theorem dX3_chord_195 : decode cX3_chord 195 = .ok (.iconst 1, 1) := by decide +kernel
theorem dX3_chord_196 : decode cX3_chord 196 = .ok (.isub, 1) := by decide +kernel
theorem dX3_chord_197 : decode cX3_chord 197 = .ok (.ireturn, 1) := by decide +kernel
set_option maxRecDepth 20000 in
theorem ggX3_isChord_X3_isIn : GoodIn wsX3_isChord wsX3_isIn := goodIn_r _ [5] (by decide +kernel) (by decide +kernel)
set_option maxRecDepth 20000 in
theorem gX3_isChord_X3_isIn : GoodIn wsX3_isChord (va_wsS RX3 36 yX3_isIn wsX3_isIn) := goodIn_app (goodIn_of _ (by decide +kernel)) ggX3_isChord_X3_isIn
theorem dX3_isChord_0 : decode cX3_isChord 0 = .ok (.iload_n 1, 1) := by decide +kernel
theorem dX3_isChord_1 : decode cX3_isChord 1 = .ok (.iconst 0, 1) := by decide +kernel
theorem dX3_isChord_2 : decode cX3_isChord 2 = .ok (.aload_n 0, 1) := by decide +kernel
theorem dX3_isChord_3 : decode cX3_isChord 3 = .ok (.getfield 61, 3) := by decide +kernel
theorem dX3_isChord_6 : decode cX3_isChord 6 = .ok (.iconst 1, 1) := by decide +kernel
theorem dX3_isChord_7 : decode cX3_isChord 7 = .ok (.isub, 1) := by decide +kernel
theorem dX3_isChord_8 : decode cX3_isChord 8 = .ok (.invokestatic 36, 3) := by decide +kernel
theorem dX3_isChord_11 : decode cX3_isChord 11 = .ok (.ireturn, 1) := by decide +kernel
theorem dX3_to_0 : decode cX3_to 0 = .ok (.aload_n 0, 1) := by decide +kernel
theorem dX3_to_1 : decode cX3_to 1 = .ok (.getfield 13, 3) := by decide +kernel
theorem dX3_to_4 : decode cX3_to 4 = .ok (.bipush 6, 2) := by decide +kernel
theorem dX3_to_6 : decode cX3_to 6 = .ok (.iload_n 1, 1) := by decide +kernel
theorem dX3_to_7 : decode cX3_to 7 = .ok (.imul, 1) := by decide +kernel
theorem dX3_to_8 : decode cX3_to 8 = .ok (.iload_n 2, 1) := by decide +kernel
theorem dX3_to_9 : decode cX3_to 9 = .ok (.iadd, 1) := by decide +kernel
theorem dX3_to_10 : decode cX3_to 10 = .ok (.iaload, 1) := by decide +kernel
theorem dX3_to_11 : decode cX3_to 11 = .ok (.ireturn, 1) := by decide +kernel
set_option maxRecDepth 20000 in
theorem ggX3_differs_X3_to : GoodIn wsX3_differs wsX3_to := goodIn_r _ [9, 10, 32, 33, 34, 35, 36, 37, 38, 39] (by decide +kernel) (by decide +kernel)
set_option maxRecDepth 20000 in
theorem gX3_differs_X3_to : GoodIn wsX3_differs (wsV RX3 70 RX3 yX3_to wsX3_to) := goodIn_app (goodIn_of _ (by decide +kernel)) ggX3_differs_X3_to
set_option maxRecDepth 20000 in
theorem ggX3_differs_X3_tone : GoodIn wsX3_differs wsX3_tone := goodIn_r _ [14, 15, 16, 17, 18, 8, 19, 20, 21, 22, 23, 24, 25, 26, 27, 28, 29, 30, 31, 32, 33, 34, 35, 36, 37, 38, 39] (by decide +kernel) (by decide +kernel)
set_option maxRecDepth 20000 in
theorem gX3_differs_X3_tone : GoodIn wsX3_differs (wsV RX3 55 RX3 yX3_tone wsX3_tone) := goodIn_app (goodIn_of _ (by decide +kernel)) ggX3_differs_X3_tone
theorem dX3_differs_0 : decode cX3_differs 0 = .ok (.aload_n 0, 1) := by decide +kernel
theorem dX3_differs_1 : decode cX3_differs 1 = .ok (.aload_n 0, 1) := by decide +kernel
theorem dX3_differs_2 : decode cX3_differs 2 = .ok (.iload_n 1, 1) := by decide +kernel
theorem dX3_differs_3 : decode cX3_differs 3 = .ok (.iconst 0, 1) := by decide +kernel
theorem dX3_differs_4 : decode cX3_differs 4 = .ok (.invokevirtual 70, 3) := by decide +kernel
theorem dX3_differs_7 : decode cX3_differs 7 = .ok (.iload_n 2, 1) := by decide +kernel
theorem dX3_differs_8 : decode cX3_differs 8 = .ok (.iadd, 1) := by decide +kernel
theorem dX3_differs_9 : decode cX3_differs 9 = .ok (.invokevirtual 55, 3) := by decide +kernel
theorem dX3_differs_12 : decode cX3_differs 12 = .ok (.aload_n 0, 1) := by decide +kernel
theorem dX3_differs_13 : decode cX3_differs 13 = .ok (.iload_n 1, 1) := by decide +kernel
theorem dX3_differs_14 : decode cX3_differs 14 = .ok (.iconst 2, 1) := by decide +kernel
theorem dX3_differs_15 : decode cX3_differs 15 = .ok (.iload_n 2, 1) := by decide +kernel
theorem dX3_differs_16 : decode cX3_differs 16 = .ok (.iadd, 1) := by decide +kernel
theorem dX3_differs_17 : decode cX3_differs 17 = .ok (.invokevirtual 70, 3) := by decide +kernel
theorem dX3_differs_20 : decode cX3_differs 20 = .ok (.isub, 1) := by decide +kernel
theorem dX3_differs_21 : decode cX3_differs 21 = .ok (.invokestatic 73, 3) := by decide +kernel
theorem dX3_differs_24 : decode cX3_differs 24 = .ok (.ireturn, 1) := by decide +kernel
set_option maxRecDepth 20000 in
theorem ggX3_offBy_X3_to : GoodIn wsX3_offBy wsX3_to := goodIn_r _ [5, 6, 36, 37, 38, 39, 40, 41, 42, 43] (by decide +kernel) (by decide +kernel)
set_option maxRecDepth 20000 in
theorem gX3_offBy_X3_to : GoodIn wsX3_offBy (wsV RX3 70 RX3 yX3_to wsX3_to) := goodIn_app (goodIn_of _ (by decide +kernel)) ggX3_offBy_X3_to
set_option maxRecDepth 20000 in
theorem ggX3_offBy_X3_differs : GoodIn wsX3_offBy wsX3_differs := goodIn_r _ [10, 11, 12, 13, 14, 1, 2, 3, 4, 5, 6, 15, 16, 17, 18, 19, 20, 21, 22, 23, 24, 25, 26, 27, 28, 29, 30, 31, 32, 33, 34, 35, 36, 37, 38, 39, 40, 41, 42, 43] (by decide +kernel) (by decide +kernel)
set_option maxRecDepth 20000 in
theorem gX3_offBy_X3_differs : GoodIn wsX3_offBy (wsV RX3 78 RX3 yX3_differs wsX3_differs) := goodIn_app (goodIn_of _ (by decide +kernel)) ggX3_offBy_X3_differs
theorem dX3_offBy_0 : decode cX3_offBy 0 = .ok (.iconst 0, 1) := by decide +kernel
theorem dX3_offBy_1 : decode cX3_offBy 1 = .ok (.istore_n 2, 1) := by decide +kernel
theorem dX3_offBy_2 : decode cX3_offBy 2 = .ok (.iconst 0, 1) := by decide +kernel
theorem dX3_offBy_3 : decode cX3_offBy 3 = .ok (.istore_n 3, 1) := by decide +kernel
theorem dX3_offBy_4 : decode cX3_offBy 4 = .ok (.iload_n 3, 1) := by decide +kernel
theorem dX3_offBy_5 : decode cX3_offBy 5 = .ok (.aload_n 0, 1) := by decide +kernel
theorem dX3_offBy_6 : decode cX3_offBy 6 = .ok (.iload_n 1, 1) := by decide +kernel
theorem dX3_offBy_7 : decode cX3_offBy 7 = .ok (.iconst 1, 1) := by decide +kernel
theorem dX3_offBy_8 : decode cX3_offBy 8 = .ok (.invokevirtual 70, 3) := by decide +kernel
theorem dX3_offBy_11 : decode cX3_offBy 11 = .ok (.if_icmp .ge 18, 3) := by decide +kernel
theorem dX3_offBy_14 : decode cX3_offBy 14 = .ok (.iload_n 2, 1) := by decide +kernel
theorem dX3_offBy_15 : decode cX3_offBy 15 = .ok (.aload_n 0, 1) := by decide +kernel
theorem dX3_offBy_16 : decode cX3_offBy 16 = .ok (.iload_n 1, 1) := by decide +kernel
theorem dX3_offBy_17 : decode cX3_offBy 17 = .ok (.iload_n 3, 1) := by decide +kernel
theorem dX3_offBy_18 : decode cX3_offBy 18 = .ok (.invokevirtual 78, 3) := by decide +kernel
theorem dX3_offBy_21 : decode cX3_offBy 21 = .ok (.iadd, 1) := by decide +kernel
theorem dX3_offBy_22 : decode cX3_offBy 22 = .ok (.istore_n 2, 1) := by decide +kernel
theorem dX3_offBy_23 : decode cX3_offBy 23 = .ok (.iinc 3 1, 3) := by decide +kernel
theorem dX3_offBy_26 : decode cX3_offBy 26 = .ok (.goto (-22), 3) := by decide +kernel
theorem dX3_offBy_29 : decode cX3_offBy 29 = .ok (.iload_n 2, 1) := by decide +kernel
theorem dX3_offBy_30 : decode cX3_offBy 30 = .ok (.ireturn, 1) := by decide +kernel
set_option maxRecDepth 20000 in
theorem ggX3_off_X3_isChord : GoodIn wsX3_off wsX3_isChord := goodIn_r _ [6, 7, 8, 9, 5, 10, 50, 51, 52, 53, 54, 55, 56, 57] (by decide +kernel) (by decide +kernel)
set_option maxRecDepth 20000 in
theorem gX3_off_X3_isChord : GoodIn wsX3_off (wsV RX3 81 RX3 yX3_isChord wsX3_isChord) := goodIn_app (goodIn_of _ (by decide +kernel)) ggX3_off_X3_isChord
set_option maxRecDepth 20000 in
theorem ggX3_off_X3_offBy : GoodIn wsX3_off wsX3_offBy := goodIn_r _ [14, 15, 16, 17, 5, 18, 19, 20, 21, 22, 23, 24, 25, 26, 27, 28, 29, 30, 31, 32, 33, 34, 35, 36, 37, 38, 39, 40, 41, 42, 43, 44, 45, 8, 9, 10, 50, 51, 52, 53, 54, 55, 56, 57] (by decide +kernel) (by decide +kernel)
set_option maxRecDepth 20000 in
theorem gX3_off_X3_offBy : GoodIn wsX3_off (wsV RX3 84 RX3 yX3_offBy wsX3_offBy) := goodIn_app (goodIn_of _ (by decide +kernel)) ggX3_off_X3_offBy
set_option maxRecDepth 20000 in
theorem ggX3_off_X3_fail : GoodIn wsX3_off wsX3_fail := goodIn_r _ [49, 1, 50, 51, 52, 53, 54, 55, 56, 57] (by decide +kernel) (by decide +kernel)
set_option maxRecDepth 20000 in
theorem gX3_off_X3_fail : GoodIn wsX3_off (wsV RX3 52 RX3 yX3_fail wsX3_fail) := goodIn_app (goodIn_of _ (by decide +kernel)) ggX3_off_X3_fail
theorem dX3_off_0 : decode cX3_off 0 = .ok (.aload_n 0, 1) := by decide +kernel
theorem dX3_off_1 : decode cX3_off 1 = .ok (.iconst 0, 1) := by decide +kernel
theorem dX3_off_2 : decode cX3_off 2 = .ok (.putfield 32, 3) := by decide +kernel
theorem dX3_off_5 : decode cX3_off 5 = .ok (.aload_n 0, 1) := by decide +kernel
theorem dX3_off_6 : decode cX3_off 6 = .ok (.iload_n 1, 1) := by decide +kernel
theorem dX3_off_7 : decode cX3_off 7 = .ok (.invokevirtual 81, 3) := by decide +kernel
theorem dX3_off_10 : decode cX3_off 10 = .ok (.ifCond .eq 11, 3) := by decide +kernel
theorem dX3_off_13 : decode cX3_off 13 = .ok (.aload_n 0, 1) := by decide +kernel
theorem dX3_off_14 : decode cX3_off 14 = .ok (.iload_n 1, 1) := by decide +kernel
theorem dX3_off_15 : decode cX3_off 15 = .ok (.invokevirtual 84, 3) := by decide +kernel
theorem dX3_off_18 : decode cX3_off 18 = .ok (.goto 8, 3) := by decide +kernel
theorem dX3_off_21 : decode cX3_off 21 = .ok (.aload_n 0, 1) := by decide +kernel
theorem dX3_off_22 : decode cX3_off 22 = .ok (.iconst 1, 1) := by decide +kernel
theorem dX3_off_23 : decode cX3_off 23 = .ok (.invokevirtual 52, 3) := by decide +kernel
theorem dX3_off_26 : decode cX3_off 26 = .ok (.ireturn, 1) := by decide +kernel
set_option maxRecDepth 20000 in
theorem ggX3_isSounding_X3_to : GoodIn wsX3_isSounding wsX3_to := goodIn_r _ [5, 6, 36, 37, 38, 39, 40, 41, 42, 43] (by decide +kernel) (by decide +kernel)
set_option maxRecDepth 20000 in
theorem gX3_isSounding_X3_to : GoodIn wsX3_isSounding (wsV RX3 70 RX3 yX3_to wsX3_to) := goodIn_app (goodIn_of _ (by decide +kernel)) ggX3_isSounding_X3_to
set_option maxRecDepth 20000 in
theorem ggX3_isSounding_X3_ha : GoodIn wsX3_isSounding wsX3_ha := goodIn_r _ [10, 11, 36, 37, 38, 39, 40, 41, 42, 43] (by decide +kernel) (by decide +kernel)
set_option maxRecDepth 20000 in
theorem gX3_isSounding_X3_ha : GoodIn wsX3_isSounding (wsV RX3 44 RX3 yX3_ha wsX3_ha) := goodIn_app (goodIn_of _ (by decide +kernel)) ggX3_isSounding_X3_ha
set_option maxRecDepth 20000 in
theorem ggX3_isSounding_X3_differs : GoodIn wsX3_isSounding wsX3_differs := goodIn_r _ [15, 16, 17, 18, 19, 1, 2, 3, 4, 5, 6, 20, 21, 22, 23, 24, 7, 8, 9, 10, 11, 25, 26, 27, 28, 29, 30, 31, 32, 33, 34, 35, 36, 37, 38, 39, 40, 41, 42, 43] (by decide +kernel) (by decide +kernel)
set_option maxRecDepth 20000 in
theorem gX3_isSounding_X3_differs : GoodIn wsX3_isSounding (wsV RX3 78 RX3 yX3_differs wsX3_differs) := goodIn_app (goodIn_of _ (by decide +kernel)) ggX3_isSounding_X3_differs
theorem dX3_isSounding_0 : decode cX3_isSounding 0 = .ok (.iconst 0, 1) := by decide +kernel
theorem dX3_isSounding_1 : decode cX3_isSounding 1 = .ok (.istore_n 2, 1) := by decide +kernel
theorem dX3_isSounding_2 : decode cX3_isSounding 2 = .ok (.iload_n 2, 1) := by decide +kernel
theorem dX3_isSounding_3 : decode cX3_isSounding 3 = .ok (.aload_n 0, 1) := by decide +kernel
theorem dX3_isSounding_4 : decode cX3_isSounding 4 = .ok (.iload_n 1, 1) := by decide +kernel
theorem dX3_isSounding_5 : decode cX3_isSounding 5 = .ok (.iconst 1, 1) := by decide +kernel
theorem dX3_isSounding_6 : decode cX3_isSounding 6 = .ok (.invokevirtual 70, 3) := by decide +kernel
theorem dX3_isSounding_9 : decode cX3_isSounding 9 = .ok (.if_icmp .ge 37, 3) := by decide +kernel
theorem dX3_isSounding_12 : decode cX3_isSounding 12 = .ok (.aload_n 0, 1) := by decide +kernel
theorem dX3_isSounding_13 : decode cX3_isSounding 13 = .ok (.aload_n 0, 1) := by decide +kernel
theorem dX3_isSounding_14 : decode cX3_isSounding 14 = .ok (.iload_n 1, 1) := by decide +kernel
theorem dX3_isSounding_15 : decode cX3_isSounding 15 = .ok (.iconst 0, 1) := by decide +kernel
theorem dX3_isSounding_16 : decode cX3_isSounding 16 = .ok (.invokevirtual 70, 3) := by decide +kernel
theorem dX3_isSounding_19 : decode cX3_isSounding 19 = .ok (.iload_n 2, 1) := by decide +kernel
theorem dX3_isSounding_20 : decode cX3_isSounding 20 = .ok (.iadd, 1) := by decide +kernel
theorem dX3_isSounding_21 : decode cX3_isSounding 21 = .ok (.iconst 4, 1) := by decide +kernel
theorem dX3_isSounding_22 : decode cX3_isSounding 22 = .ok (.invokevirtual 44, 3) := by decide +kernel
theorem dX3_isSounding_25 : decode cX3_isSounding 25 = .ok (.ifCond .eq 13, 3) := by decide +kernel
theorem dX3_isSounding_28 : decode cX3_isSounding 28 = .ok (.aload_n 0, 1) := by decide +kernel
theorem dX3_isSounding_29 : decode cX3_isSounding 29 = .ok (.iload_n 1, 1) := by decide +kernel
theorem dX3_isSounding_30 : decode cX3_isSounding 30 = .ok (.iload_n 2, 1) := by decide +kernel
theorem dX3_isSounding_31 : decode cX3_isSounding 31 = .ok (.invokevirtual 78, 3) := by decide +kernel
theorem dX3_isSounding_34 : decode cX3_isSounding 34 = .ok (.iconst 5, 1) := by decide +kernel
theorem dX3_isSounding_35 : decode cX3_isSounding 35 = .ok (.if_icmp .le 5, 3) := by decide +kernel
theorem dX3_isSounding_38 : decode cX3_isSounding 38 = .ok (.iconst 0, 1) := by decide +kernel
theorem dX3_isSounding_39 : decode cX3_isSounding 39 = .ok (.ireturn, 1) := by decide +kernel
theorem dX3_isSounding_40 : decode cX3_isSounding 40 = .ok (.iinc 2 1, 3) := by decide +kernel
theorem dX3_isSounding_43 : decode cX3_isSounding 43 = .ok (.goto (-41), 3) := by decide +kernel
theorem dX3_isSounding_46 : decode cX3_isSounding 46 = .ok (.iconst 1, 1) := by decide +kernel
theorem dX3_isSounding_47 : decode cX3_isSounding 47 = .ok (.ireturn, 1) := by decide +kernel
set_option maxRecDepth 20000 in
theorem ggX3_sounds_X3_isChord : GoodIn wsX3_sounds wsX3_isChord := goodIn_r _ [6, 7, 8, 9, 5, 10, 46, 47, 48, 49, 50, 51, 52, 53] (by decide +kernel) (by decide +kernel)
set_option maxRecDepth 20000 in
theorem gX3_sounds_X3_isChord : GoodIn wsX3_sounds (wsV RX3 81 RX3 yX3_isChord wsX3_isChord) := goodIn_app (goodIn_of _ (by decide +kernel)) ggX3_sounds_X3_isChord
set_option maxRecDepth 20000 in
theorem ggX3_sounds_X3_isSounding : GoodIn wsX3_sounds wsX3_isSounding := goodIn_r _ [14, 15, 16, 17, 5, 18, 19, 20, 21, 22, 23, 24, 25, 26, 27, 28, 29, 30, 31, 32, 33, 34, 35, 36, 37, 38, 39, 40, 41, 42, 43, 44, 45, 8, 9, 10, 46, 47, 48, 49, 50, 51, 52, 53] (by decide +kernel) (by decide +kernel)
set_option maxRecDepth 20000 in
theorem gX3_sounds_X3_isSounding : GoodIn wsX3_sounds (wsV RX3 87 RX3 yX3_isSounding wsX3_isSounding) := goodIn_app (goodIn_of _ (by decide +kernel)) ggX3_sounds_X3_isSounding
theorem dX3_sounds_0 : decode cX3_sounds 0 = .ok (.aload_n 0, 1) := by decide +kernel
theorem dX3_sounds_1 : decode cX3_sounds 1 = .ok (.aload_n 0, 1) := by decide +kernel
theorem dX3_sounds_2 : decode cX3_sounds 2 = .ok (.iload_n 1, 1) := by decide +kernel
theorem dX3_sounds_3 : decode cX3_sounds 3 = .ok (.invokevirtual 81, 3) := by decide +kernel
theorem dX3_sounds_6 : decode cX3_sounds 6 = .ok (.ifCond .eq 7, 3) := by decide +kernel
theorem dX3_sounds_9 : decode cX3_sounds 9 = .ok (.iconst 0, 1) := by decide +kernel
theorem dX3_sounds_10 : decode cX3_sounds 10 = .ok (.goto 4, 3) := by decide +kernel
theorem dX3_sounds_13 : decode cX3_sounds 13 = .ok (.iconst 1, 1) := by decide +kernel
theorem dX3_sounds_14 : decode cX3_sounds 14 = .ok (.putfield 32, 3) := by decide +kernel
theorem dX3_sounds_17 : decode cX3_sounds 17 = .ok (.aload_n 0, 1) := by decide +kernel
theorem dX3_sounds_18 : decode cX3_sounds 18 = .ok (.getfield 32, 3) := by decide +kernel
theorem dX3_sounds_21 : decode cX3_sounds 21 = .ok (.ifCond .ne 15, 3) := by decide +kernel
theorem dX3_sounds_24 : decode cX3_sounds 24 = .ok (.aload_n 0, 1) := by decide +kernel
theorem dX3_sounds_25 : decode cX3_sounds 25 = .ok (.iload_n 1, 1) := by decide +kernel
theorem dX3_sounds_26 : decode cX3_sounds 26 = .ok (.invokevirtual 87, 3) := by decide +kernel
theorem dX3_sounds_29 : decode cX3_sounds 29 = .ok (.ifCond .eq 7, 3) := by decide +kernel
theorem dX3_sounds_32 : decode cX3_sounds 32 = .ok (.iconst 1, 1) := by decide +kernel
theorem dX3_sounds_33 : decode cX3_sounds 33 = .ok (.goto 4, 3) := by decide +kernel
theorem dX3_sounds_36 : decode cX3_sounds 36 = .ok (.iconst 0, 1) := by decide +kernel
theorem dX3_sounds_37 : decode cX3_sounds 37 = .ok (.ireturn, 1) := by decide +kernel
set_option maxRecDepth 20000 in
theorem ggX3_steps_X3_isChord : GoodIn wsX3_steps wsX3_isChord := goodIn_r _ [11, 12, 13, 14, 10, 15, 50, 51, 52, 53, 54, 55, 56, 57] (by decide +kernel) (by decide +kernel)
set_option maxRecDepth 20000 in
theorem gX3_steps_X3_isChord : GoodIn wsX3_steps (wsV RX3 81 RX3 yX3_isChord wsX3_isChord) := goodIn_app (goodIn_of _ (by decide +kernel)) ggX3_steps_X3_isChord
set_option maxRecDepth 20000 in
theorem ggX3_steps_X3_fail : GoodIn wsX3_steps wsX3_fail := goodIn_r _ [19, 1, 50, 51, 52, 53, 54, 55, 56, 57] (by decide +kernel) (by decide +kernel)
set_option maxRecDepth 20000 in
theorem gX3_steps_X3_fail : GoodIn wsX3_steps (wsV RX3 52 RX3 yX3_fail wsX3_fail) := goodIn_app (goodIn_of _ (by decide +kernel)) ggX3_steps_X3_fail
set_option maxRecDepth 20000 in
theorem ggX3_steps_X3_to : GoodIn wsX3_steps wsX3_to := goodIn_r _ [23, 24, 50, 51, 52, 53, 54, 55, 56, 57] (by decide +kernel) (by decide +kernel)
set_option maxRecDepth 20000 in
theorem gX3_steps_X3_to : GoodIn wsX3_steps (wsV RX3 70 RX3 yX3_to wsX3_to) := goodIn_app (goodIn_of _ (by decide +kernel)) ggX3_steps_X3_to
set_option maxRecDepth 20000 in
theorem ggX3_steps_X3_wedge : GoodIn wsX3_steps wsX3_wedge := goodIn_r _ [28, 2, 29, 30, 10, 31, 13, 14, 15, 32, 33, 34, 35, 36, 50, 51, 52, 53, 54, 55, 56, 57] (by decide +kernel) (by decide +kernel)
set_option maxRecDepth 20000 in
theorem gX3_steps_X3_wedge : GoodIn wsX3_steps (wsV RX3 48 RX3 yX3_wedge wsX3_wedge) := goodIn_app (goodIn_of _ (by decide +kernel)) ggX3_steps_X3_wedge
set_option maxRecDepth 20000 in
theorem ggX3_steps_X3_isIn : GoodIn wsX3_steps wsX3_isIn := goodIn_r _ [15] (by decide +kernel) (by decide +kernel)
set_option maxRecDepth 20000 in
theorem gX3_steps_X3_isIn : GoodIn wsX3_steps (va_wsS RX3 36 yX3_isIn wsX3_isIn) := goodIn_app (goodIn_of _ (by decide +kernel)) ggX3_steps_X3_isIn
set_option maxRecDepth 20000 in
theorem ggX3_steps_X3_isSounding : GoodIn wsX3_steps wsX3_isSounding := goodIn_r _ [40, 20, 21, 22, 10, 23, 24, 32, 33, 34, 35, 36, 41, 42, 43, 44, 3, 4, 5, 6, 45, 46, 47, 48, 49, 25, 26, 27, 28, 2, 29, 30, 31, 13, 14, 15, 50, 51, 52, 53, 54, 55, 56, 57] (by decide +kernel) (by decide +kernel)
set_option maxRecDepth 20000 in
theorem gX3_steps_X3_isSounding : GoodIn wsX3_steps (wsV RX3 87 RX3 yX3_isSounding wsX3_isSounding) := goodIn_app (goodIn_of _ (by decide +kernel)) ggX3_steps_X3_isSounding
theorem dX3_steps_0 : decode cX3_steps 0 = .ok (.aload_n 0, 1) := by decide +kernel
theorem dX3_steps_1 : decode cX3_steps 1 = .ok (.iconst 0, 1) := by decide +kernel
theorem dX3_steps_2 : decode cX3_steps 2 = .ok (.putfield 32, 3) := by decide +kernel
theorem dX3_steps_5 : decode cX3_steps 5 = .ok (.aload_n 0, 1) := by decide +kernel
theorem dX3_steps_6 : decode cX3_steps 6 = .ok (.iload_n 1, 1) := by decide +kernel
theorem dX3_steps_7 : decode cX3_steps 7 = .ok (.invokevirtual 81, 3) := by decide +kernel
theorem dX3_steps_10 : decode cX3_steps 10 = .ok (.ifCond .ne 9, 3) := by decide +kernel
theorem dX3_steps_13 : decode cX3_steps 13 = .ok (.aload_n 0, 1) := by decide +kernel
theorem dX3_steps_14 : decode cX3_steps 14 = .ok (.iconst 1, 1) := by decide +kernel
theorem dX3_steps_15 : decode cX3_steps 15 = .ok (.invokevirtual 52, 3) := by decide +kernel
theorem dX3_steps_18 : decode cX3_steps 18 = .ok (.ireturn, 1) := by decide +kernel
theorem dX3_steps_19 : decode cX3_steps 19 = .ok (.aload_n 0, 1) := by decide +kernel
theorem dX3_steps_20 : decode cX3_steps 20 = .ok (.iload_n 1, 1) := by decide +kernel
theorem dX3_steps_21 : decode cX3_steps 21 = .ok (.iconst 1, 1) := by decide +kernel
theorem dX3_steps_22 : decode cX3_steps 22 = .ok (.invokevirtual 70, 3) := by decide +kernel
theorem dX3_steps_25 : decode cX3_steps 25 = .ok (.istore_n 2, 1) := by decide +kernel
theorem dX3_steps_26 : decode cX3_steps 26 = .ok (.iconst 1, 1) := by decide +kernel
theorem dX3_steps_27 : decode cX3_steps 27 = .ok (.istore_n 3, 1) := by decide +kernel
theorem dX3_steps_28 : decode cX3_steps 28 = .ok (.iconst 0, 1) := by decide +kernel
theorem dX3_steps_29 : decode cX3_steps 29 = .ok (.istore 4, 2) := by decide +kernel
theorem dX3_steps_31 : decode cX3_steps 31 = .ok (.iload 4, 2) := by decide +kernel
theorem dX3_steps_33 : decode cX3_steps 33 = .ok (.iload_n 2, 1) := by decide +kernel
theorem dX3_steps_34 : decode cX3_steps 34 = .ok (.if_icmp .ge 14, 3) := by decide +kernel
theorem dX3_steps_37 : decode cX3_steps 37 = .ok (.iload_n 3, 1) := by decide +kernel
theorem dX3_steps_38 : decode cX3_steps 38 = .ok (.bipush 9, 2) := by decide +kernel
theorem dX3_steps_40 : decode cX3_steps 40 = .ok (.imul, 1) := by decide +kernel
theorem dX3_steps_41 : decode cX3_steps 41 = .ok (.istore_n 3, 1) := by decide +kernel
theorem dX3_steps_42 : decode cX3_steps 42 = .ok (.iinc 4 1, 3) := by decide +kernel
theorem dX3_steps_45 : decode cX3_steps 45 = .ok (.goto (-14), 3) := by decide +kernel
theorem dX3_steps_48 : decode cX3_steps 48 = .ok (.iconst (-1), 1) := by decide +kernel
theorem dX3_steps_49 : decode cX3_steps 49 = .ok (.istore 4, 2) := by decide +kernel
theorem dX3_steps_51 : decode cX3_steps 51 = .ok (.iconst 0, 1) := by decide +kernel
theorem dX3_steps_52 : decode cX3_steps 52 = .ok (.istore 5, 2) := by decide +kernel
theorem dX3_steps_54 : decode cX3_steps 54 = .ok (.iload 5, 2) := by decide +kernel
theorem dX3_steps_56 : decode cX3_steps 56 = .ok (.iload_n 3, 1) := by decide +kernel
theorem dX3_steps_57 : decode cX3_steps 57 = .ok (.if_icmp .ge 128, 3) := by decide +kernel
theorem dX3_steps_60 : decode cX3_steps 60 = .ok (.iload 5, 2) := by decide +kernel
theorem dX3_steps_62 : decode cX3_steps 62 = .ok (.istore 6, 2) := by decide +kernel
theorem dX3_steps_64 : decode cX3_steps 64 = .ok (.iconst 0, 1) := by decide +kernel
theorem dX3_steps_65 : decode cX3_steps 65 = .ok (.istore 7, 2) := by decide +kernel
theorem dX3_steps_67 : decode cX3_steps 67 = .ok (.iconst 1, 1) := by decide +kernel
theorem dX3_steps_68 : decode cX3_steps 68 = .ok (.istore 8, 2) := by decide +kernel
theorem dX3_steps_70 : decode cX3_steps 70 = .ok (.iconst 0, 1) := by decide +kernel
theorem dX3_steps_71 : decode cX3_steps 71 = .ok (.istore 9, 2) := by decide +kernel
theorem dX3_steps_73 : decode cX3_steps 73 = .ok (.iload 9, 2) := by decide +kernel
theorem dX3_steps_75 : decode cX3_steps 75 = .ok (.iload_n 2, 1) := by decide +kernel
theorem dX3_steps_76 : decode cX3_steps 76 = .ok (.if_icmp .ge 73, 3) := by decide +kernel
theorem dX3_steps_79 : decode cX3_steps 79 = .ok (.aload_n 0, 1) := by decide +kernel
theorem dX3_steps_80 : decode cX3_steps 80 = .ok (.iload_n 1, 1) := by decide +kernel
theorem dX3_steps_81 : decode cX3_steps 81 = .ok (.iconst 0, 1) := by decide +kernel
theorem dX3_steps_82 : decode cX3_steps 82 = .ok (.invokevirtual 70, 3) := by decide +kernel
theorem dX3_steps_85 : decode cX3_steps 85 = .ok (.iload 9, 2) := by decide +kernel
theorem dX3_steps_87 : decode cX3_steps 87 = .ok (.iadd, 1) := by decide +kernel
theorem dX3_steps_88 : decode cX3_steps 88 = .ok (.istore 10, 2) := by decide +kernel
theorem dX3_steps_90 : decode cX3_steps 90 = .ok (.aload_n 0, 1) := by decide +kernel
theorem dX3_steps_91 : decode cX3_steps 91 = .ok (.getfield 25, 3) := by decide +kernel
theorem dX3_steps_94 : decode cX3_steps 94 = .ok (.iload 10, 2) := by decide +kernel
theorem dX3_steps_96 : decode cX3_steps 96 = .ok (.iload 6, 2) := by decide +kernel
theorem dX3_steps_98 : decode cX3_steps 98 = .ok (.bipush 9, 2) := by decide +kernel
theorem dX3_steps_100 : decode cX3_steps 100 = .ok (.irem, 1) := by decide +kernel
theorem dX3_steps_101 : decode cX3_steps 101 = .ok (.iconst 4, 1) := by decide +kernel
theorem dX3_steps_102 : decode cX3_steps 102 = .ok (.isub, 1) := by decide +kernel
theorem dX3_steps_103 : decode cX3_steps 103 = .ok (.iastore, 1) := by decide +kernel
theorem dX3_steps_104 : decode cX3_steps 104 = .ok (.iload 7, 2) := by decide +kernel
theorem dX3_steps_106 : decode cX3_steps 106 = .ok (.aload_n 0, 1) := by decide +kernel
theorem dX3_steps_107 : decode cX3_steps 107 = .ok (.getfield 25, 3) := by decide +kernel
theorem dX3_steps_110 : decode cX3_steps 110 = .ok (.iload 10, 2) := by decide +kernel
theorem dX3_steps_112 : decode cX3_steps 112 = .ok (.iaload, 1) := by decide +kernel
theorem dX3_steps_113 : decode cX3_steps 113 = .ok (.invokestatic 73, 3) := by decide +kernel
theorem dX3_steps_116 : decode cX3_steps 116 = .ok (.iadd, 1) := by decide +kernel
theorem dX3_steps_117 : decode cX3_steps 117 = .ok (.istore 7, 2) := by decide +kernel
theorem dX3_steps_119 : decode cX3_steps 119 = .ok (.iload 8, 2) := by decide +kernel
theorem dX3_steps_121 : decode cX3_steps 121 = .ok (.aload_n 0, 1) := by decide +kernel
theorem dX3_steps_122 : decode cX3_steps 122 = .ok (.iload 10, 2) := by decide +kernel
theorem dX3_steps_124 : decode cX3_steps 124 = .ok (.invokevirtual 48, 3) := by decide +kernel
theorem dX3_steps_127 : decode cX3_steps 127 = .ok (.iconst 0, 1) := by decide +kernel
theorem dX3_steps_128 : decode cX3_steps 128 = .ok (.bipush 20, 2) := by decide +kernel
theorem dX3_steps_130 : decode cX3_steps 130 = .ok (.invokestatic 36, 3) := by decide +kernel
theorem dX3_steps_133 : decode cX3_steps 133 = .ok (.iand, 1) := by decide +kernel
theorem dX3_steps_134 : decode cX3_steps 134 = .ok (.istore 8, 2) := by decide +kernel
theorem dX3_steps_136 : decode cX3_steps 136 = .ok (.iload 6, 2) := by decide +kernel
theorem dX3_steps_138 : decode cX3_steps 138 = .ok (.bipush 9, 2) := by decide +kernel
theorem dX3_steps_140 : decode cX3_steps 140 = .ok (.idiv, 1) := by decide +kernel
theorem dX3_steps_141 : decode cX3_steps 141 = .ok (.istore 6, 2) := by decide +kernel
theorem dX3_steps_143 : decode cX3_steps 143 = .ok (.iinc 9 1, 3) := by decide +kernel
theorem dX3_steps_146 : decode cX3_steps 146 = .ok (.goto (-73), 3) := by decide +kernel
theorem dX3_steps_149 : decode cX3_steps 149 = .ok (.iload 8, 2) := by decide +kernel
theorem dX3_steps_151 : decode cX3_steps 151 = .ok (.ifCond .eq 28, 3) := by decide +kernel
theorem dX3_steps_154 : decode cX3_steps 154 = .ok (.iload 4, 2) := by decide +kernel
theorem dX3_steps_156 : decode cX3_steps 156 = .ok (.iconst (-1), 1) := by decide +kernel
theorem dX3_steps_157 : decode cX3_steps 157 = .ok (.if_icmp .eq 10, 3) := by decide +kernel
theorem dX3_steps_160 : decode cX3_steps 160 = .ok (.iload 7, 2) := by decide +kernel
theorem dX3_steps_162 : decode cX3_steps 162 = .ok (.iload 4, 2) := by decide +kernel
theorem dX3_steps_164 : decode cX3_steps 164 = .ok (.if_icmp .ge 15, 3) := by decide +kernel
theorem dX3_steps_167 : decode cX3_steps 167 = .ok (.aload_n 0, 1) := by decide +kernel
theorem dX3_steps_168 : decode cX3_steps 168 = .ok (.iload_n 1, 1) := by decide +kernel
theorem dX3_steps_169 : decode cX3_steps 169 = .ok (.invokevirtual 87, 3) := by decide +kernel
theorem dX3_steps_172 : decode cX3_steps 172 = .ok (.ifCond .eq 7, 3) := by decide +kernel
theorem dX3_steps_175 : decode cX3_steps 175 = .ok (.iload 7, 2) := by decide +kernel
theorem dX3_steps_177 : decode cX3_steps 177 = .ok (.istore 4, 2) := by decide +kernel
theorem dX3_steps_179 : decode cX3_steps 179 = .ok (.iinc 5 1, 3) := by decide +kernel
theorem dX3_steps_182 : decode cX3_steps 182 = .ok (.goto (-128), 3) := by decide +kernel
theorem dX3_steps_185 : decode cX3_steps 185 = .ok (.iconst 0, 1) := by decide +kernel
theorem dX3_steps_186 : decode cX3_steps 186 = .ok (.istore 5, 2) := by decide +kernel
theorem dX3_steps_188 : decode cX3_steps 188 = .ok (.iload 5, 2) := by decide +kernel
theorem dX3_steps_190 : decode cX3_steps 190 = .ok (.bipush 12, 2) := by decide +kernel
theorem dX3_steps_192 : decode cX3_steps 192 = .ok (.if_icmp .ge 17, 3) := by decide +kernel
theorem dX3_steps_195 : decode cX3_steps 195 = .ok (.aload_n 0, 1) := by decide +kernel
theorem dX3_steps_196 : decode cX3_steps 196 = .ok (.getfield 25, 3) := by decide +kernel
theorem dX3_steps_199 : decode cX3_steps 199 = .ok (.iload 5, 2) := by decide +kernel
theorem dX3_steps_201 : decode cX3_steps 201 = .ok (.iconst 0, 1) := by decide +kernel
theorem dX3_steps_202 : decode cX3_steps 202 = .ok (.iastore, 1) := by decide +kernel
theorem dX3_steps_203 : decode cX3_steps 203 = .ok (.iinc 5 1, 3) := by decide +kernel
theorem dX3_steps_206 : decode cX3_steps 206 = .ok (.goto (-18), 3) := by decide +kernel
theorem dX3_steps_209 : decode cX3_steps 209 = .ok (.iload 4, 2) := by decide +kernel
theorem dX3_steps_211 : decode cX3_steps 211 = .ok (.ireturn, 1) := by decide +kernel
set_option maxRecDepth 20000 in
theorem ggX3_hourOn_X3_ha : GoodIn wsX3_hourOn wsX3_ha := goodIn_r _ [14, 15, 35, 36, 37, 38, 39, 40, 41, 42] (by decide +kernel) (by decide +kernel)
set_option maxRecDepth 20000 in
theorem gX3_hourOn_X3_ha : GoodIn wsX3_hourOn (wsV RX3 44 RX3 yX3_ha wsX3_ha) := goodIn_app (goodIn_of _ (by decide +kernel)) ggX3_hourOn_X3_ha
set_option maxRecDepth 20000 in
theorem ggX3_hourOn_X3_tone : GoodIn wsX3_hourOn wsX3_tone := goodIn_r _ [19, 2, 10, 11, 12, 13, 14, 15, 20, 21, 22, 23, 24, 25, 26, 27, 28, 29, 30, 35, 36, 37, 38, 39, 40, 41, 42] (by decide +kernel) (by decide +kernel)
set_option maxRecDepth 20000 in
theorem gX3_hourOn_X3_tone : GoodIn wsX3_hourOn (wsV RX3 55 RX3 yX3_tone wsX3_tone) := goodIn_app (goodIn_of _ (by decide +kernel)) ggX3_hourOn_X3_tone
set_option maxRecDepth 20000 in
theorem ggX3_hourOn_X3_put : GoodIn wsX3_hourOn wsX3_put := goodIn_r _ [34, 15, 35, 36, 37, 38, 39, 40, 41, 42] (by decide +kernel) (by decide +kernel)
set_option maxRecDepth 20000 in
theorem gX3_hourOn_X3_put : GoodIn wsX3_hourOn (wsV RX3 28 RX3 yX3_put wsX3_put) := goodIn_app (goodIn_of _ (by decide +kernel)) ggX3_hourOn_X3_put
theorem dX3_hourOn_0 : decode cX3_hourOn 0 = .ok (.iconst 0, 1) := by decide +kernel
theorem dX3_hourOn_1 : decode cX3_hourOn 1 = .ok (.istore_n 2, 1) := by decide +kernel
theorem dX3_hourOn_2 : decode cX3_hourOn 2 = .ok (.aload_n 0, 1) := by decide +kernel
theorem dX3_hourOn_3 : decode cX3_hourOn 3 = .ok (.getfield 19, 3) := by decide +kernel
theorem dX3_hourOn_6 : decode cX3_hourOn 6 = .ok (.aload_n 0, 1) := by decide +kernel
theorem dX3_hourOn_7 : decode cX3_hourOn 7 = .ok (.getfield 22, 3) := by decide +kernel
theorem dX3_hourOn_10 : decode cX3_hourOn 10 = .ok (.iconst 0, 1) := by decide +kernel
theorem dX3_hourOn_11 : decode cX3_hourOn 11 = .ok (.iaload, 1) := by decide +kernel
theorem dX3_hourOn_12 : decode cX3_hourOn 12 = .ok (.bipush 12, 2) := by decide +kernel
theorem dX3_hourOn_14 : decode cX3_hourOn 14 = .ok (.irem, 1) := by decide +kernel
theorem dX3_hourOn_15 : decode cX3_hourOn 15 = .ok (.iaload, 1) := by decide +kernel
theorem dX3_hourOn_16 : decode cX3_hourOn 16 = .ok (.istore_n 3, 1) := by decide +kernel
theorem dX3_hourOn_17 : decode cX3_hourOn 17 = .ok (.iconst 0, 1) := by decide +kernel
theorem dX3_hourOn_18 : decode cX3_hourOn 18 = .ok (.istore 4, 2) := by decide +kernel
theorem dX3_hourOn_20 : decode cX3_hourOn 20 = .ok (.iload 4, 2) := by decide +kernel
theorem dX3_hourOn_22 : decode cX3_hourOn 22 = .ok (.bipush 12, 2) := by decide +kernel
theorem dX3_hourOn_24 : decode cX3_hourOn 24 = .ok (.if_icmp .ge 108, 3) := by decide +kernel
theorem dX3_hourOn_27 : decode cX3_hourOn 27 = .ok (.aload_n 0, 1) := by decide +kernel
theorem dX3_hourOn_28 : decode cX3_hourOn 28 = .ok (.iload 4, 2) := by decide +kernel
theorem dX3_hourOn_30 : decode cX3_hourOn 30 = .ok (.iconst 4, 1) := by decide +kernel
theorem dX3_hourOn_31 : decode cX3_hourOn 31 = .ok (.invokevirtual 44, 3) := by decide +kernel
theorem dX3_hourOn_34 : decode cX3_hourOn 34 = .ok (.ifCond .ne 6, 3) := by decide +kernel
theorem dX3_hourOn_37 : decode cX3_hourOn 37 = .ok (.goto 89, 3) := by decide +kernel
theorem dX3_hourOn_40 : decode cX3_hourOn 40 = .ok (.iconst 0, 1) := by decide +kernel
theorem dX3_hourOn_41 : decode cX3_hourOn 41 = .ok (.aload_n 0, 1) := by decide +kernel
theorem dX3_hourOn_42 : decode cX3_hourOn 42 = .ok (.iload 4, 2) := by decide +kernel
theorem dX3_hourOn_44 : decode cX3_hourOn 44 = .ok (.iconst 3, 1) := by decide +kernel
theorem dX3_hourOn_45 : decode cX3_hourOn 45 = .ok (.invokevirtual 44, 3) := by decide +kernel
theorem dX3_hourOn_48 : decode cX3_hourOn 48 = .ok (.iload_n 1, 1) := by decide +kernel
theorem dX3_hourOn_49 : decode cX3_hourOn 49 = .ok (.aload_n 0, 1) := by decide +kernel
theorem dX3_hourOn_50 : decode cX3_hourOn 50 = .ok (.iload 4, 2) := by decide +kernel
theorem dX3_hourOn_52 : decode cX3_hourOn 52 = .ok (.invokevirtual 55, 3) := by decide +kernel
theorem dX3_hourOn_55 : decode cX3_hourOn 55 = .ok (.imul, 1) := by decide +kernel
theorem dX3_hourOn_56 : decode cX3_hourOn 56 = .ok (.sipush 1000, 3) := by decide +kernel
theorem dX3_hourOn_59 : decode cX3_hourOn 59 = .ok (.idiv, 1) := by decide +kernel
theorem dX3_hourOn_60 : decode cX3_hourOn 60 = .ok (.iadd, 1) := by decide +kernel
theorem dX3_hourOn_61 : decode cX3_hourOn 61 = .ok (.iconst 2, 1) := by decide +kernel
theorem dX3_hourOn_62 : decode cX3_hourOn 62 = .ok (.isub, 1) := by decide +kernel
theorem dX3_hourOn_63 : decode cX3_hourOn 63 = .ok (.invokestatic 90, 3) := by decide +kernel
theorem dX3_hourOn_66 : decode cX3_hourOn 66 = .ok (.istore 5, 2) := by decide +kernel
theorem dX3_hourOn_68 : decode cX3_hourOn 68 = .ok (.iload 5, 2) := by decide +kernel
theorem dX3_hourOn_70 : decode cX3_hourOn 70 = .ok (.bipush 100, 2) := by decide +kernel
theorem dX3_hourOn_72 : decode cX3_hourOn 72 = .ok (.if_icmp .le 45, 3) := by decide +kernel
theorem dX3_hourOn_75 : decode cX3_hourOn 75 = .ok (.aload_n 0, 1) := by decide +kernel
theorem dX3_hourOn_76 : decode cX3_hourOn 76 = .ok (.iload 4, 2) := by decide +kernel
theorem dX3_hourOn_78 : decode cX3_hourOn 78 = .ok (.iconst 4, 1) := by decide +kernel
theorem dX3_hourOn_79 : decode cX3_hourOn 79 = .ok (.iconst 0, 1) := by decide +kernel
theorem dX3_hourOn_80 : decode cX3_hourOn 80 = .ok (.invokevirtual 28, 3) := by decide +kernel
theorem dX3_hourOn_83 : decode cX3_hourOn 83 = .ok (.aload_n 0, 1) := by decide +kernel
theorem dX3_hourOn_84 : decode cX3_hourOn 84 = .ok (.iload 4, 2) := by decide +kernel
theorem dX3_hourOn_86 : decode cX3_hourOn 86 = .ok (.iconst 2, 1) := by decide +kernel
theorem dX3_hourOn_87 : decode cX3_hourOn 87 = .ok (.iconst 0, 1) := by decide +kernel
theorem dX3_hourOn_88 : decode cX3_hourOn 88 = .ok (.invokevirtual 28, 3) := by decide +kernel
theorem dX3_hourOn_91 : decode cX3_hourOn 91 = .ok (.aload_n 0, 1) := by decide +kernel
theorem dX3_hourOn_92 : decode cX3_hourOn 92 = .ok (.iload 4, 2) := by decide +kernel
theorem dX3_hourOn_94 : decode cX3_hourOn 94 = .ok (.iconst 5, 1) := by decide +kernel
theorem dX3_hourOn_95 : decode cX3_hourOn 95 = .ok (.aload_n 0, 1) := by decide +kernel
theorem dX3_hourOn_96 : decode cX3_hourOn 96 = .ok (.iload 4, 2) := by decide +kernel
theorem dX3_hourOn_98 : decode cX3_hourOn 98 = .ok (.iconst 5, 1) := by decide +kernel
theorem dX3_hourOn_99 : decode cX3_hourOn 99 = .ok (.invokevirtual 44, 3) := by decide +kernel
theorem dX3_hourOn_102 : decode cX3_hourOn 102 = .ok (.iconst 1, 1) := by decide +kernel
theorem dX3_hourOn_103 : decode cX3_hourOn 103 = .ok (.iadd, 1) := by decide +kernel
theorem dX3_hourOn_104 : decode cX3_hourOn 104 = .ok (.invokevirtual 28, 3) := by decide +kernel
theorem dX3_hourOn_107 : decode cX3_hourOn 107 = .ok (.iconst 0, 1) := by decide +kernel
theorem dX3_hourOn_108 : decode cX3_hourOn 108 = .ok (.istore 5, 2) := by decide +kernel
theorem dX3_hourOn_110 : decode cX3_hourOn 110 = .ok (.iload_n 2, 1) := by decide +kernel
theorem dX3_hourOn_111 : decode cX3_hourOn 111 = .ok (.iconst 1, 1) := by decide +kernel
theorem dX3_hourOn_112 : decode cX3_hourOn 112 = .ok (.iload 4, 2) := by decide +kernel
theorem dX3_hourOn_114 : decode cX3_hourOn 114 = .ok (.ishl, 1) := by decide +kernel
theorem dX3_hourOn_115 : decode cX3_hourOn 115 = .ok (.ior, 1) := by decide +kernel
theorem dX3_hourOn_116 : decode cX3_hourOn 116 = .ok (.istore_n 2, 1) := by decide +kernel
theorem dX3_hourOn_117 : decode cX3_hourOn 117 = .ok (.aload_n 0, 1) := by decide +kernel
theorem dX3_hourOn_118 : decode cX3_hourOn 118 = .ok (.iload 4, 2) := by decide +kernel
theorem dX3_hourOn_120 : decode cX3_hourOn 120 = .ok (.iconst 3, 1) := by decide +kernel
theorem dX3_hourOn_121 : decode cX3_hourOn 121 = .ok (.iload 5, 2) := by decide +kernel
theorem dX3_hourOn_123 : decode cX3_hourOn 123 = .ok (.invokevirtual 28, 3) := by decide +kernel
theorem dX3_hourOn_126 : decode cX3_hourOn 126 = .ok (.iinc 4 1, 3) := by decide +kernel
theorem dX3_hourOn_129 : decode cX3_hourOn 129 = .ok (.goto (-109), 3) := by decide +kernel
theorem dX3_hourOn_132 : decode cX3_hourOn 132 = .ok (.iconst 0, 1) := by decide +kernel
theorem dX3_hourOn_133 : decode cX3_hourOn 133 = .ok (.istore 4, 2) := by decide +kernel
theorem dX3_hourOn_135 : decode cX3_hourOn 135 = .ok (.iload 4, 2) := by decide +kernel
theorem dX3_hourOn_137 : decode cX3_hourOn 137 = .ok (.bipush 12, 2) := by decide +kernel
theorem dX3_hourOn_139 : decode cX3_hourOn 139 = .ok (.if_icmp .ge 78, 3) := by decide +kernel
theorem dX3_hourOn_142 : decode cX3_hourOn 142 = .ok (.aload_n 0, 1) := by decide +kernel
theorem dX3_hourOn_143 : decode cX3_hourOn 143 = .ok (.iload 4, 2) := by decide +kernel
theorem dX3_hourOn_145 : decode cX3_hourOn 145 = .ok (.iconst 4, 1) := by decide +kernel
theorem dX3_hourOn_146 : decode cX3_hourOn 146 = .ok (.invokevirtual 44, 3) := by decide +kernel
theorem dX3_hourOn_149 : decode cX3_hourOn 149 = .ok (.ifCond .ne 6, 3) := by decide +kernel
theorem dX3_hourOn_152 : decode cX3_hourOn 152 = .ok (.goto 59, 3) := by decide +kernel
theorem dX3_hourOn_155 : decode cX3_hourOn 155 = .ok (.aload_n 0, 1) := by decide +kernel
theorem dX3_hourOn_156 : decode cX3_hourOn 156 = .ok (.iload 4, 2) := by decide +kernel
theorem dX3_hourOn_158 : decode cX3_hourOn 158 = .ok (.iconst 3, 1) := by decide +kernel
theorem dX3_hourOn_159 : decode cX3_hourOn 159 = .ok (.invokevirtual 44, 3) := by decide +kernel
theorem dX3_hourOn_162 : decode cX3_hourOn 162 = .ok (.bipush 50, 2) := by decide +kernel
theorem dX3_hourOn_164 : decode cX3_hourOn 164 = .ok (.if_icmp .lt 7, 3) := by decide +kernel
theorem dX3_hourOn_167 : decode cX3_hourOn 167 = .ok (.iconst (-1), 1) := by decide +kernel
theorem dX3_hourOn_168 : decode cX3_hourOn 168 = .ok (.goto 14, 3) := by decide +kernel
theorem dX3_hourOn_171 : decode cX3_hourOn 171 = .ok (.iload_n 3, 1) := by decide +kernel
theorem dX3_hourOn_172 : decode cX3_hourOn 172 = .ok (.bipush 6, 2) := by decide +kernel
theorem dX3_hourOn_174 : decode cX3_hourOn 174 = .ok (.if_icmp .lt 7, 3) := by decide +kernel
theorem dX3_hourOn_177 : decode cX3_hourOn 177 = .ok (.iconst 1, 1) := by decide +kernel
theorem dX3_hourOn_178 : decode cX3_hourOn 178 = .ok (.goto 4, 3) := by decide +kernel
theorem dX3_hourOn_181 : decode cX3_hourOn 181 = .ok (.iconst 0, 1) := by decide +kernel
theorem dX3_hourOn_182 : decode cX3_hourOn 182 = .ok (.istore 5, 2) := by decide +kernel
theorem dX3_hourOn_184 : decode cX3_hourOn 184 = .ok (.aload_n 0, 1) := by decide +kernel
theorem dX3_hourOn_185 : decode cX3_hourOn 185 = .ok (.iload 4, 2) := by decide +kernel
theorem dX3_hourOn_187 : decode cX3_hourOn 187 = .ok (.iconst 2, 1) := by decide +kernel
theorem dX3_hourOn_188 : decode cX3_hourOn 188 = .ok (.bipush (-50), 2) := by decide +kernel
theorem dX3_hourOn_190 : decode cX3_hourOn 190 = .ok (.bipush 50, 2) := by decide +kernel
theorem dX3_hourOn_192 : decode cX3_hourOn 192 = .ok (.aload_n 0, 1) := by decide +kernel
theorem dX3_hourOn_193 : decode cX3_hourOn 193 = .ok (.iload 4, 2) := by decide +kernel
theorem dX3_hourOn_195 : decode cX3_hourOn 195 = .ok (.iconst 2, 1) := by decide +kernel
theorem dX3_hourOn_196 : decode cX3_hourOn 196 = .ok (.invokevirtual 44, 3) := by decide +kernel
theorem dX3_hourOn_199 : decode cX3_hourOn 199 = .ok (.iload 5, 2) := by decide +kernel
theorem dX3_hourOn_201 : decode cX3_hourOn 201 = .ok (.iadd, 1) := by decide +kernel
theorem dX3_hourOn_202 : decode cX3_hourOn 202 = .ok (.invokestatic 93, 3) := by decide +kernel
theorem dX3_hourOn_205 : decode cX3_hourOn 205 = .ok (.invokestatic 90, 3) := by decide +kernel
theorem dX3_hourOn_208 : decode cX3_hourOn 208 = .ok (.invokevirtual 28, 3) := by decide +kernel
theorem dX3_hourOn_211 : decode cX3_hourOn 211 = .ok (.iinc 4 1, 3) := by decide +kernel
theorem dX3_hourOn_214 : decode cX3_hourOn 214 = .ok (.goto (-79), 3) := by decide +kernel
theorem dX3_hourOn_217 : decode cX3_hourOn 217 = .ok (.aload_n 0, 1) := by decide +kernel
theorem dX3_hourOn_218 : decode cX3_hourOn 218 = .ok (.getfield 22, 3) := by decide +kernel
theorem dX3_hourOn_221 : decode cX3_hourOn 221 = .ok (.iconst 1, 1) := by decide +kernel
theorem dX3_hourOn_222 : decode cX3_hourOn 222 = .ok (.iconst 0, 1) := by decide +kernel
theorem dX3_hourOn_223 : decode cX3_hourOn 223 = .ok (.bipush 30, 2) := by decide +kernel
theorem dX3_hourOn_225 : decode cX3_hourOn 225 = .ok (.aload_n 0, 1) := by decide +kernel
theorem dX3_hourOn_226 : decode cX3_hourOn 226 = .ok (.getfield 22, 3) := by decide +kernel
theorem dX3_hourOn_229 : decode cX3_hourOn 229 = .ok (.iconst 1, 1) := by decide +kernel
theorem dX3_hourOn_230 : decode cX3_hourOn 230 = .ok (.iaload, 1) := by decide +kernel
theorem dX3_hourOn_231 : decode cX3_hourOn 231 = .ok (.iload_n 3, 1) := by decide +kernel
theorem dX3_hourOn_232 : decode cX3_hourOn 232 = .ok (.iconst 5, 1) := by decide +kernel
theorem dX3_hourOn_233 : decode cX3_hourOn 233 = .ok (.if_icmp .lt 7, 3) := by decide +kernel
theorem dX3_hourOn_236 : decode cX3_hourOn 236 = .ok (.iconst 1, 1) := by decide +kernel
theorem dX3_hourOn_237 : decode cX3_hourOn 237 = .ok (.goto 4, 3) := by decide +kernel
theorem dX3_hourOn_240 : decode cX3_hourOn 240 = .ok (.iconst (-1), 1) := by decide +kernel
theorem dX3_hourOn_241 : decode cX3_hourOn 241 = .ok (.iadd, 1) := by decide +kernel
theorem dX3_hourOn_242 : decode cX3_hourOn 242 = .ok (.invokestatic 93, 3) := by decide +kernel
theorem dX3_hourOn_245 : decode cX3_hourOn 245 = .ok (.invokestatic 90, 3) := by decide +kernel
theorem dX3_hourOn_248 : decode cX3_hourOn 248 = .ok (.iastore, 1) := by decide +kernel
theorem dX3_hourOn_249 : decode cX3_hourOn 249 = .ok (.aload_n 0, 1) := by decide +kernel
theorem dX3_hourOn_250 : decode cX3_hourOn 250 = .ok (.getfield 22, 3) := by decide +kernel
theorem dX3_hourOn_253 : decode cX3_hourOn 253 = .ok (.iconst 0, 1) := by decide +kernel
theorem dX3_hourOn_254 : decode cX3_hourOn 254 = .ok (.dup2, 1) := by decide +kernel
theorem dX3_hourOn_255 : decode cX3_hourOn 255 = .ok (.iaload, 1) := by decide +kernel
theorem dX3_hourOn_256 : decode cX3_hourOn 256 = .ok (.iconst 1, 1) := by decide +kernel
theorem dX3_hourOn_257 : decode cX3_hourOn 257 = .ok (.iadd, 1) := by decide +kernel
theorem dX3_hourOn_258 : decode cX3_hourOn 258 = .ok (.iastore, 1) := by decide +kernel
theorem dX3_hourOn_259 : decode cX3_hourOn 259 = .ok (.iload_n 2, 1) := by decide +kernel
theorem dX3_hourOn_260 : decode cX3_hourOn 260 = .ok (.ireturn, 1) := by decide +kernel
set_option maxRecDepth 20000 in
theorem ggX3_hourOn__X3_hourOn : GoodIn wsX3_hourOn_ wsX3_hourOn := goodIn_r _ [7, 8, 2, 9, 10, 11, 12, 13, 14, 15, 16, 17, 18, 6, 19, 20, 21, 22, 23, 24, 25, 26, 27, 28, 29, 30, 31, 32, 33, 34, 35, 36, 37, 38, 39, 40, 41, 42, 43, 44, 45, 46, 47] (by decide +kernel) (by decide +kernel)
set_option maxRecDepth 20000 in
theorem gX3_hourOn__X3_hourOn : GoodIn wsX3_hourOn_ (wsV RX3 96 RX3 yX3_hourOn wsX3_hourOn) := goodIn_app (goodIn_of _ (by decide +kernel)) ggX3_hourOn__X3_hourOn
theorem dX3_hourOn__0 : decode cX3_hourOn_ 0 = .ok (.aload_n 0, 1) := by decide +kernel
theorem dX3_hourOn__1 : decode cX3_hourOn_ 1 = .ok (.aload_n 0, 1) := by decide +kernel
theorem dX3_hourOn__2 : decode cX3_hourOn_ 2 = .ok (.getfield 16, 3) := by decide +kernel
theorem dX3_hourOn__5 : decode cX3_hourOn_ 5 = .ok (.aload_n 0, 1) := by decide +kernel
theorem dX3_hourOn__6 : decode cX3_hourOn_ 6 = .ok (.getfield 22, 3) := by decide +kernel
theorem dX3_hourOn__9 : decode cX3_hourOn_ 9 = .ok (.iconst 0, 1) := by decide +kernel
theorem dX3_hourOn__10 : decode cX3_hourOn_ 10 = .ok (.iaload, 1) := by decide +kernel
theorem dX3_hourOn__11 : decode cX3_hourOn_ 11 = .ok (.bipush 12, 2) := by decide +kernel
theorem dX3_hourOn__13 : decode cX3_hourOn_ 13 = .ok (.irem, 1) := by decide +kernel
theorem dX3_hourOn__14 : decode cX3_hourOn_ 14 = .ok (.iaload, 1) := by decide +kernel
theorem dX3_hourOn__15 : decode cX3_hourOn_ 15 = .ok (.invokevirtual 96, 3) := by decide +kernel
theorem dX3_hourOn__18 : decode cX3_hourOn_ 18 = .ok (.ireturn, 1) := by decide +kernel
set_option maxRecDepth 20000 in
theorem ggX3_pass_X3_isIn : GoodIn wsX3_pass wsX3_isIn := goodIn_r _ [5] (by decide +kernel) (by decide +kernel)
set_option maxRecDepth 20000 in
theorem gX3_pass_X3_isIn : GoodIn wsX3_pass (va_wsS RX3 36 yX3_isIn wsX3_isIn) := goodIn_app (goodIn_of _ (by decide +kernel)) ggX3_pass_X3_isIn
set_option maxRecDepth 20000 in
theorem ggX3_pass_X3_fail : GoodIn wsX3_pass wsX3_fail := goodIn_r _ [9, 1, 56, 57, 58, 59, 60, 61, 62, 63] (by decide +kernel) (by decide +kernel)
set_option maxRecDepth 20000 in
theorem gX3_pass_X3_fail : GoodIn wsX3_pass (wsV RX3 52 RX3 yX3_fail wsX3_fail) := goodIn_app (goodIn_of _ (by decide +kernel)) ggX3_pass_X3_fail
set_option maxRecDepth 20000 in
theorem ggX3_pass_X3_hourOn_ : GoodIn wsX3_pass wsX3_hourOn_ := goodIn_r _ [13, 14, 15, 16, 17, 18, 4, 19, 20, 21, 22, 23, 24, 25, 26, 27, 28, 29, 30, 31, 32, 33, 34, 35, 36, 37, 38, 39, 40, 41, 42, 43, 44, 2, 3, 5, 45, 46, 47, 48, 56, 57, 58, 59, 60, 61, 62, 63] (by decide +kernel) (by decide +kernel)
set_option maxRecDepth 20000 in
theorem gX3_pass_X3_hourOn_ : GoodIn wsX3_pass (wsV RX3 99 RX3 yX3_hourOn_ wsX3_hourOn_) := goodIn_app (goodIn_of _ (by decide +kernel)) ggX3_pass_X3_hourOn_
set_option maxRecDepth 20000 in
theorem ggX3_pass_J6_bitCount_0f7a4 : GoodIn wsX3_pass wsJ6_bitCount_0f7a4 := goodIn_r _ [52, 53, 54, 55] (by decide +kernel) (by decide +kernel)
set_option maxRecDepth 20000 in
theorem gX3_pass_J6_bitCount_0f7a4 : GoodIn wsX3_pass (va_wsS RX3 102 yJ6_bitCount_0f7a4 wsJ6_bitCount_0f7a4) := goodIn_app (goodIn_of _ (by decide +kernel)) ggX3_pass_J6_bitCount_0f7a4
theorem dX3_pass_0 : decode cX3_pass 0 = .ok (.aload_n 0, 1) := by decide +kernel
theorem dX3_pass_1 : decode cX3_pass 1 = .ok (.iconst 0, 1) := by decide +kernel
theorem dX3_pass_2 : decode cX3_pass 2 = .ok (.putfield 32, 3) := by decide +kernel
theorem dX3_pass_5 : decode cX3_pass 5 = .ok (.iload_n 1, 1) := by decide +kernel
theorem dX3_pass_6 : decode cX3_pass 6 = .ok (.iconst 1, 1) := by decide +kernel
theorem dX3_pass_7 : decode cX3_pass 7 = .ok (.sipush 200, 3) := by decide +kernel
theorem dX3_pass_10 : decode cX3_pass 10 = .ok (.invokestatic 36, 3) := by decide +kernel
theorem dX3_pass_13 : decode cX3_pass 13 = .ok (.ifCond .ne 9, 3) := by decide +kernel
theorem dX3_pass_16 : decode cX3_pass 16 = .ok (.aload_n 0, 1) := by decide +kernel
theorem dX3_pass_17 : decode cX3_pass 17 = .ok (.iconst 1, 1) := by decide +kernel
theorem dX3_pass_18 : decode cX3_pass 18 = .ok (.invokevirtual 52, 3) := by decide +kernel
theorem dX3_pass_21 : decode cX3_pass 21 = .ok (.ireturn, 1) := by decide +kernel
theorem dX3_pass_22 : decode cX3_pass 22 = .ok (.iconst 0, 1) := by decide +kernel
theorem dX3_pass_23 : decode cX3_pass 23 = .ok (.istore_n 2, 1) := by decide +kernel
theorem dX3_pass_24 : decode cX3_pass 24 = .ok (.iconst 0, 1) := by decide +kernel
theorem dX3_pass_25 : decode cX3_pass 25 = .ok (.istore_n 3, 1) := by decide +kernel
theorem dX3_pass_26 : decode cX3_pass 26 = .ok (.iload_n 3, 1) := by decide +kernel
theorem dX3_pass_27 : decode cX3_pass 27 = .ok (.iload_n 1, 1) := by decide +kernel
theorem dX3_pass_28 : decode cX3_pass 28 = .ok (.if_icmp .ge 19, 3) := by decide +kernel
theorem dX3_pass_31 : decode cX3_pass 31 = .ok (.iload_n 2, 1) := by decide +kernel
theorem dX3_pass_32 : decode cX3_pass 32 = .ok (.aload_n 0, 1) := by decide +kernel
theorem dX3_pass_33 : decode cX3_pass 33 = .ok (.invokevirtual 99, 3) := by decide +kernel
theorem dX3_pass_36 : decode cX3_pass 36 = .ok (.invokestatic 102, 3) := by decide +kernel
theorem dX3_pass_39 : decode cX3_pass 39 = .ok (.iadd, 1) := by decide +kernel
theorem dX3_pass_40 : decode cX3_pass 40 = .ok (.istore_n 2, 1) := by decide +kernel
theorem dX3_pass_41 : decode cX3_pass 41 = .ok (.iinc 3 1, 3) := by decide +kernel
theorem dX3_pass_44 : decode cX3_pass 44 = .ok (.goto (-18), 3) := by decide +kernel
theorem dX3_pass_47 : decode cX3_pass 47 = .ok (.iload_n 2, 1) := by decide +kernel
theorem dX3_pass_48 : decode cX3_pass 48 = .ok (.ireturn, 1) := by decide +kernel
set_option maxRecDepth 20000 in
theorem ggX3_counted_X3_isSounding : GoodIn wsX3_counted wsX3_isSounding := goodIn_r _ [7, 8, 9, 10, 6, 11, 12, 13, 14, 15, 16, 17, 18, 19, 20, 21, 22, 23, 24, 25, 26, 27, 28, 29, 1, 30, 31, 32, 33, 34, 35, 36, 37, 38, 39, 40, 41, 42, 43, 44, 45, 46, 47, 48] (by decide +kernel) (by decide +kernel)
set_option maxRecDepth 20000 in
theorem gX3_counted_X3_isSounding : GoodIn wsX3_counted (wsV RX3 87 RX3 yX3_isSounding wsX3_isSounding) := goodIn_app (goodIn_of _ (by decide +kernel)) ggX3_counted_X3_isSounding
set_option maxRecDepth 20000 in
theorem ggX3_counted_X3_ha : GoodIn wsX3_counted wsX3_ha := goodIn_r _ [16, 17, 41, 42, 43, 44, 45, 46, 47, 48] (by decide +kernel) (by decide +kernel)
set_option maxRecDepth 20000 in
theorem gX3_counted_X3_ha : GoodIn wsX3_counted (wsV RX3 44 RX3 yX3_ha wsX3_ha) := goodIn_app (goodIn_of _ (by decide +kernel)) ggX3_counted_X3_ha
theorem dX3_counted_0 : decode cX3_counted 0 = .ok (.iconst 0, 1) := by decide +kernel
theorem dX3_counted_1 : decode cX3_counted 1 = .ok (.istore_n 2, 1) := by decide +kernel
theorem dX3_counted_2 : decode cX3_counted 2 = .ok (.iload_n 1, 1) := by decide +kernel
theorem dX3_counted_3 : decode cX3_counted 3 = .ok (.tableswitch 86 0 4 #[33, 86, 40, 45, 79], 33) := by decide +kernel
theorem dX3_counted_36 : decode cX3_counted 36 = .ok (.aload_n 0, 1) := by decide +kernel
theorem dX3_counted_37 : decode cX3_counted 37 = .ok (.getfield 22, 3) := by decide +kernel
theorem dX3_counted_40 : decode cX3_counted 40 = .ok (.iconst 0, 1) := by decide +kernel
theorem dX3_counted_41 : decode cX3_counted 41 = .ok (.iaload, 1) := by decide +kernel
theorem dX3_counted_42 : decode cX3_counted 42 = .ok (.ireturn, 1) := by decide +kernel
theorem dX3_counted_43 : decode cX3_counted 43 = .ok (.aload_n 0, 1) := by decide +kernel
theorem dX3_counted_44 : decode cX3_counted 44 = .ok (.getfield 61, 3) := by decide +kernel
theorem dX3_counted_47 : decode cX3_counted 47 = .ok (.ireturn, 1) := by decide +kernel
theorem dX3_counted_48 : decode cX3_counted 48 = .ok (.iconst 0, 1) := by decide +kernel
theorem dX3_counted_49 : decode cX3_counted 49 = .ok (.istore_n 3, 1) := by decide +kernel
theorem dX3_counted_50 : decode cX3_counted 50 = .ok (.iload_n 3, 1) := by decide +kernel
theorem dX3_counted_51 : decode cX3_counted 51 = .ok (.aload_n 0, 1) := by decide +kernel
theorem dX3_counted_52 : decode cX3_counted 52 = .ok (.getfield 61, 3) := by decide +kernel
theorem dX3_counted_55 : decode cX3_counted 55 = .ok (.if_icmp .ge 25, 3) := by decide +kernel
theorem dX3_counted_58 : decode cX3_counted 58 = .ok (.iload_n 2, 1) := by decide +kernel
theorem dX3_counted_59 : decode cX3_counted 59 = .ok (.aload_n 0, 1) := by decide +kernel
theorem dX3_counted_60 : decode cX3_counted 60 = .ok (.iload_n 3, 1) := by decide +kernel
theorem dX3_counted_61 : decode cX3_counted 61 = .ok (.invokevirtual 87, 3) := by decide +kernel
theorem dX3_counted_64 : decode cX3_counted 64 = .ok (.ifCond .eq 7, 3) := by decide +kernel
theorem dX3_counted_67 : decode cX3_counted 67 = .ok (.iconst 1, 1) := by decide +kernel
theorem dX3_counted_68 : decode cX3_counted 68 = .ok (.goto 4, 3) := by decide +kernel
theorem dX3_counted_71 : decode cX3_counted 71 = .ok (.iconst 0, 1) := by decide +kernel
theorem dX3_counted_72 : decode cX3_counted 72 = .ok (.iadd, 1) := by decide +kernel
theorem dX3_counted_73 : decode cX3_counted 73 = .ok (.istore_n 2, 1) := by decide +kernel
theorem dX3_counted_74 : decode cX3_counted 74 = .ok (.iinc 3 1, 3) := by decide +kernel
theorem dX3_counted_77 : decode cX3_counted 77 = .ok (.goto (-27), 3) := by decide +kernel
theorem dX3_counted_80 : decode cX3_counted 80 = .ok (.iload_n 2, 1) := by decide +kernel
theorem dX3_counted_81 : decode cX3_counted 81 = .ok (.ireturn, 1) := by decide +kernel
theorem dX3_counted_82 : decode cX3_counted 82 = .ok (.aload_n 0, 1) := by decide +kernel
theorem dX3_counted_83 : decode cX3_counted 83 = .ok (.getfield 22, 3) := by decide +kernel
theorem dX3_counted_86 : decode cX3_counted 86 = .ok (.iconst 1, 1) := by decide +kernel
theorem dX3_counted_87 : decode cX3_counted 87 = .ok (.iaload, 1) := by decide +kernel
theorem dX3_counted_88 : decode cX3_counted 88 = .ok (.ireturn, 1) := by decide +kernel
theorem dX3_counted_89 : decode cX3_counted 89 = .ok (.iload_n 1, 1) := by decide +kernel
theorem dX3_counted_90 : decode cX3_counted 90 = .ok (.iconst 1, 1) := by decide +kernel
theorem dX3_counted_91 : decode cX3_counted 91 = .ok (.if_icmp .ne 7, 3) := by decide +kernel
theorem dX3_counted_94 : decode cX3_counted 94 = .ok (.iconst 4, 1) := by decide +kernel
theorem dX3_counted_95 : decode cX3_counted 95 = .ok (.goto 23, 3) := by decide +kernel
theorem dX3_counted_98 : decode cX3_counted 98 = .ok (.iload_n 1, 1) := by decide +kernel
theorem dX3_counted_99 : decode cX3_counted 99 = .ok (.iconst 5, 1) := by decide +kernel
theorem dX3_counted_100 : decode cX3_counted 100 = .ok (.if_icmp .ne 7, 3) := by decide +kernel
theorem dX3_counted_103 : decode cX3_counted 103 = .ok (.iconst 1, 1) := by decide +kernel
theorem dX3_counted_104 : decode cX3_counted 104 = .ok (.goto 14, 3) := by decide +kernel
theorem dX3_counted_107 : decode cX3_counted 107 = .ok (.iload_n 1, 1) := by decide +kernel
theorem dX3_counted_108 : decode cX3_counted 108 = .ok (.bipush 6, 2) := by decide +kernel
theorem dX3_counted_110 : decode cX3_counted 110 = .ok (.if_icmp .ne 7, 3) := by decide +kernel
theorem dX3_counted_113 : decode cX3_counted 113 = .ok (.iconst 3, 1) := by decide +kernel
theorem dX3_counted_114 : decode cX3_counted 114 = .ok (.goto 4, 3) := by decide +kernel
theorem dX3_counted_117 : decode cX3_counted 117 = .ok (.iconst 5, 1) := by decide +kernel
theorem dX3_counted_118 : decode cX3_counted 118 = .ok (.istore_n 3, 1) := by decide +kernel
theorem dX3_counted_119 : decode cX3_counted 119 = .ok (.iconst 0, 1) := by decide +kernel
theorem dX3_counted_120 : decode cX3_counted 120 = .ok (.istore 4, 2) := by decide +kernel
theorem dX3_counted_122 : decode cX3_counted 122 = .ok (.iload 4, 2) := by decide +kernel
theorem dX3_counted_124 : decode cX3_counted 124 = .ok (.bipush 12, 2) := by decide +kernel
theorem dX3_counted_126 : decode cX3_counted 126 = .ok (.if_icmp .ge 19, 3) := by decide +kernel
theorem dX3_counted_129 : decode cX3_counted 129 = .ok (.iload_n 2, 1) := by decide +kernel
theorem dX3_counted_130 : decode cX3_counted 130 = .ok (.aload_n 0, 1) := by decide +kernel
theorem dX3_counted_131 : decode cX3_counted 131 = .ok (.iload 4, 2) := by decide +kernel
theorem dX3_counted_133 : decode cX3_counted 133 = .ok (.iload_n 3, 1) := by decide +kernel
theorem dX3_counted_134 : decode cX3_counted 134 = .ok (.invokevirtual 44, 3) := by decide +kernel
theorem dX3_counted_137 : decode cX3_counted 137 = .ok (.iadd, 1) := by decide +kernel
theorem dX3_counted_138 : decode cX3_counted 138 = .ok (.istore_n 2, 1) := by decide +kernel
theorem dX3_counted_139 : decode cX3_counted 139 = .ok (.iinc 4 1, 3) := by decide +kernel
theorem dX3_counted_142 : decode cX3_counted 142 = .ok (.goto (-20), 3) := by decide +kernel
theorem dX3_counted_145 : decode cX3_counted 145 = .ok (.iload_n 2, 1) := by decide +kernel
theorem dX3_counted_146 : decode cX3_counted 146 = .ok (.ireturn, 1) := by decide +kernel
set_option maxRecDepth 20000 in
theorem ggX3_count_X3_isIn : GoodIn wsX3_count wsX3_isIn := goodIn_r _ [5] (by decide +kernel) (by decide +kernel)
set_option maxRecDepth 20000 in
theorem gX3_count_X3_isIn : GoodIn wsX3_count (va_wsS RX3 36 yX3_isIn wsX3_isIn) := goodIn_app (goodIn_of _ (by decide +kernel)) ggX3_count_X3_isIn
set_option maxRecDepth 20000 in
theorem ggX3_count_X3_counted : GoodIn wsX3_count wsX3_counted := goodIn_r _ [9, 10, 11, 12, 13, 14, 4, 15, 16, 17, 18, 19, 20, 21, 22, 23, 24, 25, 26, 27, 28, 29, 30, 31, 32, 33, 34, 35, 36, 37, 38, 39, 40, 41, 42, 43, 44, 45, 2, 3, 5, 50, 51, 52, 53, 54, 55, 56, 57] (by decide +kernel) (by decide +kernel)
set_option maxRecDepth 20000 in
theorem gX3_count_X3_counted : GoodIn wsX3_count (wsV RX3 107 RX3 yX3_counted wsX3_counted) := goodIn_app (goodIn_of _ (by decide +kernel)) ggX3_count_X3_counted
set_option maxRecDepth 20000 in
theorem ggX3_count_X3_fail : GoodIn wsX3_count wsX3_fail := goodIn_r _ [49, 1, 50, 51, 52, 53, 54, 55, 56, 57] (by decide +kernel) (by decide +kernel)
set_option maxRecDepth 20000 in
theorem gX3_count_X3_fail : GoodIn wsX3_count (wsV RX3 52 RX3 yX3_fail wsX3_fail) := goodIn_app (goodIn_of _ (by decide +kernel)) ggX3_count_X3_fail
theorem dX3_count_0 : decode cX3_count 0 = .ok (.aload_n 0, 1) := by decide +kernel
theorem dX3_count_1 : decode cX3_count 1 = .ok (.iconst 0, 1) := by decide +kernel
theorem dX3_count_2 : decode cX3_count 2 = .ok (.putfield 32, 3) := by decide +kernel
theorem dX3_count_5 : decode cX3_count 5 = .ok (.iload_n 1, 1) := by decide +kernel
theorem dX3_count_6 : decode cX3_count 6 = .ok (.iconst 0, 1) := by decide +kernel
theorem dX3_count_7 : decode cX3_count 7 = .ok (.bipush 7, 2) := by decide +kernel
theorem dX3_count_9 : decode cX3_count 9 = .ok (.invokestatic 36, 3) := by decide +kernel
theorem dX3_count_12 : decode cX3_count 12 = .ok (.ifCond .eq 11, 3) := by decide +kernel
theorem dX3_count_15 : decode cX3_count 15 = .ok (.aload_n 0, 1) := by decide +kernel
theorem dX3_count_16 : decode cX3_count 16 = .ok (.iload_n 1, 1) := by decide +kernel
theorem dX3_count_17 : decode cX3_count 17 = .ok (.invokevirtual 107, 3) := by decide +kernel
theorem dX3_count_20 : decode cX3_count 20 = .ok (.goto 8, 3) := by decide +kernel
theorem dX3_count_23 : decode cX3_count 23 = .ok (.aload_n 0, 1) := by decide +kernel
theorem dX3_count_24 : decode cX3_count 24 = .ok (.iconst 1, 1) := by decide +kernel
theorem dX3_count_25 : decode cX3_count 25 = .ok (.invokevirtual 52, 3) := by decide +kernel
theorem dX3_count_28 : decode cX3_count 28 = .ok (.ireturn, 1) := by decide +kernel
theorem dX3_kept_0 : decode cX3_kept 0 = .ok (.iconst 2, 1) := by decide +kernel
theorem dX3_kept_1 : decode cX3_kept 1 = .ok (.anewarray 110, 3) := by decide +kernel
theorem dX3_kept_4 : decode cX3_kept 4 = .ok (.dup, 1) := by decide +kernel
theorem dX3_kept_5 : decode cX3_kept 5 = .ok (.iconst 0, 1) := by decide +kernel
theorem dX3_kept_6 : decode cX3_kept 6 = .ok (.aload_n 0, 1) := by decide +kernel
theorem dX3_kept_7 : decode cX3_kept 7 = .ok (.getfield 9, 3) := by decide +kernel
theorem dX3_kept_10 : decode cX3_kept 10 = .ok (.invokevirtual 111, 3) := by decide +kernel
theorem dX3_kept_13 : decode cX3_kept 13 = .ok (.checkcast 110, 3) := by decide +kernel
theorem dX3_kept_16 : decode cX3_kept 16 = .ok (.aastore, 1) := by decide +kernel
theorem dX3_kept_17 : decode cX3_kept 17 = .ok (.dup, 1) := by decide +kernel
theorem dX3_kept_18 : decode cX3_kept 18 = .ok (.iconst 1, 1) := by decide +kernel
theorem dX3_kept_19 : decode cX3_kept 19 = .ok (.aload_n 0, 1) := by decide +kernel
theorem dX3_kept_20 : decode cX3_kept 20 = .ok (.getfield 22, 3) := by decide +kernel
theorem dX3_kept_23 : decode cX3_kept 23 = .ok (.invokevirtual 111, 3) := by decide +kernel
theorem dX3_kept_26 : decode cX3_kept 26 = .ok (.checkcast 110, 3) := by decide +kernel
theorem dX3_kept_29 : decode cX3_kept 29 = .ok (.aastore, 1) := by decide +kernel
theorem dX3_kept_30 : decode cX3_kept 30 = .ok (.areturn, 1) := by decide +kernel
theorem dX3_bringBack_0 : decode cX3_bringBack 0 = .ok (.aload_n 1, 1) := by decide +kernel
theorem dX3_bringBack_1 : decode cX3_bringBack 1 = .ok (.iconst 0, 1) := by decide +kernel
theorem dX3_bringBack_2 : decode cX3_bringBack 2 = .ok (.aaload, 1) := by decide +kernel
theorem dX3_bringBack_3 : decode cX3_bringBack 3 = .ok (.iconst 0, 1) := by decide +kernel
theorem dX3_bringBack_4 : decode cX3_bringBack 4 = .ok (.aload_n 0, 1) := by decide +kernel
theorem dX3_bringBack_5 : decode cX3_bringBack 5 = .ok (.getfield 9, 3) := by decide +kernel
theorem dX3_bringBack_8 : decode cX3_bringBack 8 = .ok (.iconst 0, 1) := by decide +kernel
theorem dX3_bringBack_9 : decode cX3_bringBack 9 = .ok (.aload_n 0, 1) := by decide +kernel
theorem dX3_bringBack_10 : decode cX3_bringBack 10 = .ok (.getfield 9, 3) := by decide +kernel
theorem dX3_bringBack_13 : decode cX3_bringBack 13 = .ok (.arraylength, 1) := by decide +kernel
theorem dX3_bringBack_14 : decode cX3_bringBack 14 = .ok (.invokestatic 64, 3) := by decide +kernel
theorem dX3_bringBack_17 : decode cX3_bringBack 17 = .ok (.aload_n 1, 1) := by decide +kernel
theorem dX3_bringBack_18 : decode cX3_bringBack 18 = .ok (.iconst 1, 1) := by decide +kernel
theorem dX3_bringBack_19 : decode cX3_bringBack 19 = .ok (.aaload, 1) := by decide +kernel
theorem dX3_bringBack_20 : decode cX3_bringBack 20 = .ok (.iconst 0, 1) := by decide +kernel
theorem dX3_bringBack_21 : decode cX3_bringBack 21 = .ok (.aload_n 0, 1) := by decide +kernel
theorem dX3_bringBack_22 : decode cX3_bringBack 22 = .ok (.getfield 22, 3) := by decide +kernel
theorem dX3_bringBack_25 : decode cX3_bringBack 25 = .ok (.iconst 0, 1) := by decide +kernel
theorem dX3_bringBack_26 : decode cX3_bringBack 26 = .ok (.aload_n 0, 1) := by decide +kernel
theorem dX3_bringBack_27 : decode cX3_bringBack 27 = .ok (.getfield 22, 3) := by decide +kernel
theorem dX3_bringBack_30 : decode cX3_bringBack 30 = .ok (.arraylength, 1) := by decide +kernel
theorem dX3_bringBack_31 : decode cX3_bringBack 31 = .ok (.invokestatic 64, 3) := by decide +kernel
theorem dX3_bringBack_34 : decode cX3_bringBack 34 = .ok (.return_, 1) := by decide +kernel
set_option maxRecDepth 20000 in
theorem ggX3_bears_X3_isString : GoodIn wsX3_bears wsX3_isString := goodIn_r _ [5, 6, 7, 4, 8] (by decide +kernel) (by decide +kernel)
set_option maxRecDepth 20000 in
theorem gX3_bears_X3_isString : GoodIn wsX3_bears (va_wsS RX3 40 yX3_isString wsX3_isString) := goodIn_app (goodIn_of _ (by decide +kernel)) ggX3_bears_X3_isString
set_option maxRecDepth 20000 in
theorem ggX3_bears_X3_fail : GoodIn wsX3_bears wsX3_fail := goodIn_r _ [12, 1, 62, 63, 64, 65, 66, 67, 68, 69] (by decide +kernel) (by decide +kernel)
set_option maxRecDepth 20000 in
theorem gX3_bears_X3_fail : GoodIn wsX3_bears (wsV RX3 52 RX3 yX3_fail wsX3_fail) := goodIn_app (goodIn_of _ (by decide +kernel)) ggX3_bears_X3_fail
set_option maxRecDepth 20000 in
theorem ggX3_bears_X3_ha : GoodIn wsX3_bears wsX3_ha := goodIn_r _ [16, 17, 62, 63, 64, 65, 66, 67, 68, 69] (by decide +kernel) (by decide +kernel)
set_option maxRecDepth 20000 in
theorem gX3_bears_X3_ha : GoodIn wsX3_bears (wsV RX3 44 RX3 yX3_ha wsX3_ha) := goodIn_app (goodIn_of _ (by decide +kernel)) ggX3_bears_X3_ha
set_option maxRecDepth 20000 in
theorem ggX3_bears_X3_kept : GoodIn wsX3_bears wsX3_kept := goodIn_r _ [21, 22, 17, 23, 24, 25, 26, 27, 28, 62, 63, 64, 65, 66, 67, 68, 69] (by decide +kernel) (by decide +kernel)
set_option maxRecDepth 20000 in
theorem gX3_bears_X3_kept : GoodIn wsX3_bears (wsV RX3 115 RX3 yX3_kept wsX3_kept) := goodIn_app (goodIn_of _ (by decide +kernel)) ggX3_bears_X3_kept
set_option maxRecDepth 20000 in
theorem ggX3_bears_X3_hourOn : GoodIn wsX3_bears wsX3_hourOn := goodIn_r _ [32, 33, 28, 34, 35, 36, 37, 38, 39, 40, 13, 14, 15, 4, 16, 17, 41, 42, 43, 44, 45, 46, 47, 48, 49, 2, 3, 5, 6, 7, 8, 50, 51, 52, 53, 62, 63, 64, 65, 66, 67, 68, 69] (by decide +kernel) (by decide +kernel)
set_option maxRecDepth 20000 in
theorem gX3_bears_X3_hourOn : GoodIn wsX3_bears (wsV RX3 96 RX3 yX3_hourOn wsX3_hourOn) := goodIn_app (goodIn_of _ (by decide +kernel)) ggX3_bears_X3_hourOn
set_option maxRecDepth 20000 in
theorem ggX3_bears_X3_bringBack : GoodIn wsX3_bears wsX3_bringBack := goodIn_r _ [57, 17, 58, 59, 60, 61, 28, 62, 63, 64, 65, 66, 67, 68, 69] (by decide +kernel) (by decide +kernel)
set_option maxRecDepth 20000 in
theorem gX3_bears_X3_bringBack : GoodIn wsX3_bears (wsV RX3 119 RX3 yX3_bringBack wsX3_bringBack) := goodIn_app (goodIn_of _ (by decide +kernel)) ggX3_bears_X3_bringBack
theorem dX3_bears_0 : decode cX3_bears 0 = .ok (.aload_n 0, 1) := by decide +kernel
theorem dX3_bears_1 : decode cX3_bears 1 = .ok (.iconst 0, 1) := by decide +kernel
theorem dX3_bears_2 : decode cX3_bears 2 = .ok (.putfield 32, 3) := by decide +kernel
theorem dX3_bears_5 : decode cX3_bears 5 = .ok (.iload_n 1, 1) := by decide +kernel
theorem dX3_bears_6 : decode cX3_bears 6 = .ok (.invokestatic 40, 3) := by decide +kernel
theorem dX3_bears_9 : decode cX3_bears 9 = .ok (.ifCond .ne 9, 3) := by decide +kernel
theorem dX3_bears_12 : decode cX3_bears 12 = .ok (.aload_n 0, 1) := by decide +kernel
theorem dX3_bears_13 : decode cX3_bears 13 = .ok (.iconst 1, 1) := by decide +kernel
theorem dX3_bears_14 : decode cX3_bears 14 = .ok (.invokevirtual 52, 3) := by decide +kernel
theorem dX3_bears_17 : decode cX3_bears 17 = .ok (.ireturn, 1) := by decide +kernel
theorem dX3_bears_18 : decode cX3_bears 18 = .ok (.aload_n 0, 1) := by decide +kernel
theorem dX3_bears_19 : decode cX3_bears 19 = .ok (.iload_n 1, 1) := by decide +kernel
theorem dX3_bears_20 : decode cX3_bears 20 = .ok (.iconst 4, 1) := by decide +kernel
theorem dX3_bears_21 : decode cX3_bears 21 = .ok (.invokevirtual 44, 3) := by decide +kernel
theorem dX3_bears_24 : decode cX3_bears 24 = .ok (.ifCond .ne 5, 3) := by decide +kernel
theorem dX3_bears_27 : decode cX3_bears 27 = .ok (.iconst (-1), 1) := by decide +kernel
theorem dX3_bears_28 : decode cX3_bears 28 = .ok (.ireturn, 1) := by decide +kernel
theorem dX3_bears_29 : decode cX3_bears 29 = .ok (.aload_n 0, 1) := by decide +kernel
theorem dX3_bears_30 : decode cX3_bears 30 = .ok (.invokevirtual 115, 3) := by decide +kernel
theorem dX3_bears_33 : decode cX3_bears 33 = .ok (.astore_n 2, 1) := by decide +kernel
theorem dX3_bears_34 : decode cX3_bears 34 = .ok (.iconst (-1), 1) := by decide +kernel
theorem dX3_bears_35 : decode cX3_bears 35 = .ok (.istore_n 3, 1) := by decide +kernel
theorem dX3_bears_36 : decode cX3_bears 36 = .ok (.iconst 0, 1) := by decide +kernel
theorem dX3_bears_37 : decode cX3_bears 37 = .ok (.istore 4, 2) := by decide +kernel
theorem dX3_bears_39 : decode cX3_bears 39 = .ok (.iload 4, 2) := by decide +kernel
theorem dX3_bears_41 : decode cX3_bears 41 = .ok (.bipush 20, 2) := by decide +kernel
theorem dX3_bears_43 : decode cX3_bears 43 = .ok (.if_icmp .gt 50, 3) := by decide +kernel
theorem dX3_bears_46 : decode cX3_bears 46 = .ok (.iconst 0, 1) := by decide +kernel
theorem dX3_bears_47 : decode cX3_bears 47 = .ok (.istore 5, 2) := by decide +kernel
theorem dX3_bears_49 : decode cX3_bears 49 = .ok (.iload 5, 2) := by decide +kernel
theorem dX3_bears_51 : decode cX3_bears 51 = .ok (.bipush 24, 2) := by decide +kernel
theorem dX3_bears_53 : decode cX3_bears 53 = .ok (.if_icmp .ge 16, 3) := by decide +kernel
theorem dX3_bears_56 : decode cX3_bears 56 = .ok (.aload_n 0, 1) := by decide +kernel
theorem dX3_bears_57 : decode cX3_bears 57 = .ok (.iload 4, 2) := by decide +kernel
theorem dX3_bears_59 : decode cX3_bears 59 = .ok (.invokevirtual 96, 3) := by decide +kernel
theorem dX3_bears_62 : decode cX3_bears 62 = .ok (.pop, 1) := by decide +kernel
theorem dX3_bears_63 : decode cX3_bears 63 = .ok (.iinc 5 1, 3) := by decide +kernel
theorem dX3_bears_66 : decode cX3_bears 66 = .ok (.goto (-17), 3) := by decide +kernel
theorem dX3_bears_69 : decode cX3_bears 69 = .ok (.aload_n 0, 1) := by decide +kernel
theorem dX3_bears_70 : decode cX3_bears 70 = .ok (.iload_n 1, 1) := by decide +kernel
theorem dX3_bears_71 : decode cX3_bears 71 = .ok (.iconst 4, 1) := by decide +kernel
theorem dX3_bears_72 : decode cX3_bears 72 = .ok (.invokevirtual 44, 3) := by decide +kernel
theorem dX3_bears_75 : decode cX3_bears 75 = .ok (.iconst 1, 1) := by decide +kernel
theorem dX3_bears_76 : decode cX3_bears 76 = .ok (.if_icmp .ne 6, 3) := by decide +kernel
theorem dX3_bears_79 : decode cX3_bears 79 = .ok (.iload 4, 2) := by decide +kernel
theorem dX3_bears_81 : decode cX3_bears 81 = .ok (.istore_n 3, 1) := by decide +kernel
theorem dX3_bears_82 : decode cX3_bears 82 = .ok (.aload_n 0, 1) := by decide +kernel
theorem dX3_bears_83 : decode cX3_bears 83 = .ok (.aload_n 2, 1) := by decide +kernel
theorem dX3_bears_84 : decode cX3_bears 84 = .ok (.invokevirtual 119, 3) := by decide +kernel
theorem dX3_bears_87 : decode cX3_bears 87 = .ok (.iinc 4 1, 3) := by decide +kernel
theorem dX3_bears_90 : decode cX3_bears 90 = .ok (.goto (-51), 3) := by decide +kernel
theorem dX3_bears_93 : decode cX3_bears 93 = .ok (.iload_n 3, 1) := by decide +kernel
theorem dX3_bears_94 : decode cX3_bears 94 = .ok (.ireturn, 1) := by decide +kernel
set_option maxRecDepth 20000 in
theorem ggX3_first_X3_kept : GoodIn wsX3_first wsX3_kept := goodIn_r _ [6, 7, 8, 9, 10, 11, 12, 13, 14, 68, 69, 70, 71, 72, 73, 74, 75] (by decide +kernel) (by decide +kernel)
set_option maxRecDepth 20000 in
theorem gX3_first_X3_kept : GoodIn wsX3_first (wsV RX3 115 RX3 yX3_kept wsX3_kept) := goodIn_app (goodIn_of _ (by decide +kernel)) ggX3_first_X3_kept
set_option maxRecDepth 20000 in
theorem ggX3_first_X3_hourOn_ : GoodIn wsX3_first wsX3_hourOn_ := goodIn_r _ [18, 19, 14, 20, 21, 22, 5, 23, 24, 25, 26, 27, 28, 29, 30, 31, 32, 33, 34, 35, 8, 36, 37, 38, 39, 40, 41, 42, 43, 44, 45, 46, 47, 48, 49, 50, 51, 52, 53, 54, 68, 69, 70, 71, 72, 73, 74, 75] (by decide +kernel) (by decide +kernel)
set_option maxRecDepth 20000 in
theorem gX3_first_X3_hourOn_ : GoodIn wsX3_first (wsV RX3 99 RX3 yX3_hourOn_ wsX3_hourOn_) := goodIn_app (goodIn_of _ (by decide +kernel)) ggX3_first_X3_hourOn_
set_option maxRecDepth 20000 in
theorem ggX3_first_X3_bringBack : GoodIn wsX3_first wsX3_bringBack := goodIn_r _ [58, 8, 59, 60, 61, 62, 14, 68, 69, 70, 71, 72, 73, 74, 75] (by decide +kernel) (by decide +kernel)
set_option maxRecDepth 20000 in
theorem gX3_first_X3_bringBack : GoodIn wsX3_first (wsV RX3 119 RX3 yX3_bringBack wsX3_bringBack) := goodIn_app (goodIn_of _ (by decide +kernel)) ggX3_first_X3_bringBack
set_option maxRecDepth 20000 in
theorem ggX3_first_J6_numberOfTrailingZeros_0f7a4 : GoodIn wsX3_first wsJ6_numberOfTrailingZeros_0f7a4 := goodIn_r _ [66, 67] (by decide +kernel) (by decide +kernel)
set_option maxRecDepth 20000 in
theorem gX3_first_J6_numberOfTrailingZeros_0f7a4 : GoodIn wsX3_first (va_wsS RX3 123 yJ6_numberOfTrailingZeros_0f7a4 wsJ6_numberOfTrailingZeros_0f7a4) := goodIn_app (goodIn_of _ (by decide +kernel)) ggX3_first_J6_numberOfTrailingZeros_0f7a4
theorem dX3_first_0 : decode cX3_first 0 = .ok (.aload_n 0, 1) := by decide +kernel
theorem dX3_first_1 : decode cX3_first 1 = .ok (.iconst 0, 1) := by decide +kernel
theorem dX3_first_2 : decode cX3_first 2 = .ok (.putfield 32, 3) := by decide +kernel
theorem dX3_first_5 : decode cX3_first 5 = .ok (.aload_n 0, 1) := by decide +kernel
theorem dX3_first_6 : decode cX3_first 6 = .ok (.invokevirtual 115, 3) := by decide +kernel
theorem dX3_first_9 : decode cX3_first 9 = .ok (.astore_n 1, 1) := by decide +kernel
theorem dX3_first_10 : decode cX3_first 10 = .ok (.iconst 0, 1) := by decide +kernel
theorem dX3_first_11 : decode cX3_first 11 = .ok (.istore_n 2, 1) := by decide +kernel
theorem dX3_first_12 : decode cX3_first 12 = .ok (.iconst 0, 1) := by decide +kernel
theorem dX3_first_13 : decode cX3_first 13 = .ok (.istore_n 3, 1) := by decide +kernel
theorem dX3_first_14 : decode cX3_first 14 = .ok (.iload_n 3, 1) := by decide +kernel
theorem dX3_first_15 : decode cX3_first 15 = .ok (.sipush 200, 3) := by decide +kernel
theorem dX3_first_18 : decode cX3_first 18 = .ok (.if_icmp .ge 18, 3) := by decide +kernel
theorem dX3_first_21 : decode cX3_first 21 = .ok (.iload_n 2, 1) := by decide +kernel
theorem dX3_first_22 : decode cX3_first 22 = .ok (.ifCond .ne 14, 3) := by decide +kernel
theorem dX3_first_25 : decode cX3_first 25 = .ok (.aload_n 0, 1) := by decide +kernel
theorem dX3_first_26 : decode cX3_first 26 = .ok (.invokevirtual 99, 3) := by decide +kernel
theorem dX3_first_29 : decode cX3_first 29 = .ok (.istore_n 2, 1) := by decide +kernel
theorem dX3_first_30 : decode cX3_first 30 = .ok (.iinc 3 1, 3) := by decide +kernel
theorem dX3_first_33 : decode cX3_first 33 = .ok (.goto (-19), 3) := by decide +kernel
theorem dX3_first_36 : decode cX3_first 36 = .ok (.aload_n 0, 1) := by decide +kernel
theorem dX3_first_37 : decode cX3_first 37 = .ok (.aload_n 1, 1) := by decide +kernel
theorem dX3_first_38 : decode cX3_first 38 = .ok (.invokevirtual 119, 3) := by decide +kernel
theorem dX3_first_41 : decode cX3_first 41 = .ok (.iload_n 2, 1) := by decide +kernel
theorem dX3_first_42 : decode cX3_first 42 = .ok (.ifCond .ne 7, 3) := by decide +kernel
theorem dX3_first_45 : decode cX3_first 45 = .ok (.iconst (-1), 1) := by decide +kernel
theorem dX3_first_46 : decode cX3_first 46 = .ok (.goto 7, 3) := by decide +kernel
theorem dX3_first_49 : decode cX3_first 49 = .ok (.iload_n 2, 1) := by decide +kernel
theorem dX3_first_50 : decode cX3_first 50 = .ok (.invokestatic 123, 3) := by decide +kernel
theorem dX3_first_53 : decode cX3_first 53 = .ok (.ireturn, 1) := by decide +kernel
set_option maxRecDepth 20000 in
theorem ggX3_holds_X3_isChord : GoodIn wsX3_holds wsX3_isChord := goodIn_r _ [6, 7, 8, 9, 5, 10, 88, 89, 90, 91, 92, 93, 94, 95] (by decide +kernel) (by decide +kernel)
set_option maxRecDepth 20000 in
theorem gX3_holds_X3_isChord : GoodIn wsX3_holds (wsV RX3 81 RX3 yX3_isChord wsX3_isChord) := goodIn_app (goodIn_of _ (by decide +kernel)) ggX3_holds_X3_isChord
set_option maxRecDepth 20000 in
theorem ggX3_holds_X3_fail : GoodIn wsX3_holds wsX3_fail := goodIn_r _ [14, 1, 88, 89, 90, 91, 92, 93, 94, 95] (by decide +kernel) (by decide +kernel)
set_option maxRecDepth 20000 in
theorem gX3_holds_X3_fail : GoodIn wsX3_holds (wsV RX3 52 RX3 yX3_fail wsX3_fail) := goodIn_app (goodIn_of _ (by decide +kernel)) ggX3_holds_X3_fail
set_option maxRecDepth 20000 in
theorem ggX3_holds_X3_kept : GoodIn wsX3_holds wsX3_kept := goodIn_r _ [18, 19, 20, 21, 22, 23, 24, 25, 26, 88, 89, 90, 91, 92, 93, 94, 95] (by decide +kernel) (by decide +kernel)
set_option maxRecDepth 20000 in
theorem gX3_holds_X3_kept : GoodIn wsX3_holds (wsV RX3 115 RX3 yX3_kept wsX3_kept) := goodIn_app (goodIn_of _ (by decide +kernel)) ggX3_holds_X3_kept
set_option maxRecDepth 20000 in
theorem ggX3_holds_X3_isSounding : GoodIn wsX3_holds wsX3_isSounding := goodIn_r _ [30, 31, 32, 33, 5, 34, 35, 36, 37, 38, 39, 20, 40, 41, 42, 43, 44, 45, 46, 47, 48, 49, 50, 51, 26, 52, 53, 54, 55, 56, 57, 58, 59, 8, 9, 10, 88, 89, 90, 91, 92, 93, 94, 95] (by decide +kernel) (by decide +kernel)
set_option maxRecDepth 20000 in
theorem gX3_holds_X3_isSounding : GoodIn wsX3_holds (wsV RX3 87 RX3 yX3_isSounding wsX3_isSounding) := goodIn_app (goodIn_of _ (by decide +kernel)) ggX3_holds_X3_isSounding
set_option maxRecDepth 20000 in
theorem ggX3_holds_X3_hourOn_ : GoodIn wsX3_holds wsX3_hourOn_ := goodIn_r _ [63, 64, 26, 65, 66, 67, 5, 68, 69, 70, 71, 46, 72, 73, 74, 75, 36, 37, 38, 39, 20, 48, 49, 50, 51, 52, 53, 54, 55, 56, 57, 58, 59, 8, 9, 10, 76, 77, 78, 79, 88, 89, 90, 91, 92, 93, 94, 95] (by decide +kernel) (by decide +kernel)
set_option maxRecDepth 20000 in
theorem gX3_holds_X3_hourOn_ : GoodIn wsX3_holds (wsV RX3 99 RX3 yX3_hourOn_ wsX3_hourOn_) := goodIn_app (goodIn_of _ (by decide +kernel)) ggX3_holds_X3_hourOn_
set_option maxRecDepth 20000 in
theorem ggX3_holds_X3_bringBack : GoodIn wsX3_holds wsX3_bringBack := goodIn_r _ [83, 20, 84, 85, 86, 87, 26, 88, 89, 90, 91, 92, 93, 94, 95] (by decide +kernel) (by decide +kernel)
set_option maxRecDepth 20000 in
theorem gX3_holds_X3_bringBack : GoodIn wsX3_holds (wsV RX3 119 RX3 yX3_bringBack wsX3_bringBack) := goodIn_app (goodIn_of _ (by decide +kernel)) ggX3_holds_X3_bringBack
theorem dX3_holds_0 : decode cX3_holds 0 = .ok (.aload_n 0, 1) := by decide +kernel
theorem dX3_holds_1 : decode cX3_holds 1 = .ok (.iconst 0, 1) := by decide +kernel
theorem dX3_holds_2 : decode cX3_holds 2 = .ok (.putfield 32, 3) := by decide +kernel
theorem dX3_holds_5 : decode cX3_holds 5 = .ok (.aload_n 0, 1) := by decide +kernel
theorem dX3_holds_6 : decode cX3_holds 6 = .ok (.iload_n 1, 1) := by decide +kernel
theorem dX3_holds_7 : decode cX3_holds 7 = .ok (.invokevirtual 81, 3) := by decide +kernel
theorem dX3_holds_10 : decode cX3_holds 10 = .ok (.ifCond .ne 9, 3) := by decide +kernel
theorem dX3_holds_13 : decode cX3_holds 13 = .ok (.aload_n 0, 1) := by decide +kernel
theorem dX3_holds_14 : decode cX3_holds 14 = .ok (.iconst 1, 1) := by decide +kernel
theorem dX3_holds_15 : decode cX3_holds 15 = .ok (.invokevirtual 52, 3) := by decide +kernel
theorem dX3_holds_18 : decode cX3_holds 18 = .ok (.ireturn, 1) := by decide +kernel
theorem dX3_holds_19 : decode cX3_holds 19 = .ok (.aload_n 0, 1) := by decide +kernel
theorem dX3_holds_20 : decode cX3_holds 20 = .ok (.invokevirtual 115, 3) := by decide +kernel
theorem dX3_holds_23 : decode cX3_holds 23 = .ok (.astore_n 2, 1) := by decide +kernel
theorem dX3_holds_24 : decode cX3_holds 24 = .ok (.iconst 0, 1) := by decide +kernel
theorem dX3_holds_25 : decode cX3_holds 25 = .ok (.istore_n 3, 1) := by decide +kernel
theorem dX3_holds_26 : decode cX3_holds 26 = .ok (.iload_n 3, 1) := by decide +kernel
theorem dX3_holds_27 : decode cX3_holds 27 = .ok (.sipush 200, 3) := by decide +kernel
theorem dX3_holds_30 : decode cX3_holds 30 = .ok (.if_icmp .ge 22, 3) := by decide +kernel
theorem dX3_holds_33 : decode cX3_holds 33 = .ok (.aload_n 0, 1) := by decide +kernel
theorem dX3_holds_34 : decode cX3_holds 34 = .ok (.iload_n 1, 1) := by decide +kernel
theorem dX3_holds_35 : decode cX3_holds 35 = .ok (.invokevirtual 87, 3) := by decide +kernel
theorem dX3_holds_38 : decode cX3_holds 38 = .ok (.ifCond .eq 14, 3) := by decide +kernel
theorem dX3_holds_41 : decode cX3_holds 41 = .ok (.aload_n 0, 1) := by decide +kernel
theorem dX3_holds_42 : decode cX3_holds 42 = .ok (.invokevirtual 99, 3) := by decide +kernel
theorem dX3_holds_45 : decode cX3_holds 45 = .ok (.pop, 1) := by decide +kernel
theorem dX3_holds_46 : decode cX3_holds 46 = .ok (.iinc 3 1, 3) := by decide +kernel
theorem dX3_holds_49 : decode cX3_holds 49 = .ok (.goto (-23), 3) := by decide +kernel
theorem dX3_holds_52 : decode cX3_holds 52 = .ok (.aload_n 0, 1) := by decide +kernel
theorem dX3_holds_53 : decode cX3_holds 53 = .ok (.iload_n 1, 1) := by decide +kernel
theorem dX3_holds_54 : decode cX3_holds 54 = .ok (.invokevirtual 87, 3) := by decide +kernel
theorem dX3_holds_57 : decode cX3_holds 57 = .ok (.ifCond .eq 5, 3) := by decide +kernel
theorem dX3_holds_60 : decode cX3_holds 60 = .ok (.iconst (-1), 1) := by decide +kernel
theorem dX3_holds_61 : decode cX3_holds 61 = .ok (.istore_n 3, 1) := by decide +kernel
theorem dX3_holds_62 : decode cX3_holds 62 = .ok (.aload_n 0, 1) := by decide +kernel
theorem dX3_holds_63 : decode cX3_holds 63 = .ok (.aload_n 2, 1) := by decide +kernel
theorem dX3_holds_64 : decode cX3_holds 64 = .ok (.invokevirtual 119, 3) := by decide +kernel
theorem dX3_holds_67 : decode cX3_holds 67 = .ok (.iload_n 3, 1) := by decide +kernel
theorem dX3_holds_68 : decode cX3_holds 68 = .ok (.ireturn, 1) := by decide +kernel
set_option maxRecDepth 20000 in
theorem ggX3_foresee_X3_isIn : GoodIn wsX3_foresee wsX3_isIn := goodIn_r _ [5] (by decide +kernel) (by decide +kernel)
set_option maxRecDepth 20000 in
theorem gX3_foresee_X3_isIn : GoodIn wsX3_foresee (va_wsS RX3 36 yX3_isIn wsX3_isIn) := goodIn_app (goodIn_of _ (by decide +kernel)) ggX3_foresee_X3_isIn
set_option maxRecDepth 20000 in
theorem ggX3_foresee_X3_fail : GoodIn wsX3_foresee wsX3_fail := goodIn_r _ [9, 1, 67, 68, 69, 70, 71, 72, 73, 74] (by decide +kernel) (by decide +kernel)
set_option maxRecDepth 20000 in
theorem gX3_foresee_X3_fail : GoodIn wsX3_foresee (wsV RX3 52 RX3 yX3_fail wsX3_fail) := goodIn_app (goodIn_of _ (by decide +kernel)) ggX3_foresee_X3_fail
set_option maxRecDepth 20000 in
theorem ggX3_foresee_X3_isString : GoodIn wsX3_foresee wsX3_isString := goodIn_r _ [12, 2, 3, 4, 5] (by decide +kernel) (by decide +kernel)
set_option maxRecDepth 20000 in
theorem gX3_foresee_X3_isString : GoodIn wsX3_foresee (va_wsS RX3 40 yX3_isString wsX3_isString) := goodIn_app (goodIn_of _ (by decide +kernel)) ggX3_foresee_X3_isString
set_option maxRecDepth 20000 in
theorem ggX3_foresee_X3_kept : GoodIn wsX3_foresee wsX3_kept := goodIn_r _ [16, 17, 18, 19, 20, 21, 22, 23, 24, 67, 68, 69, 70, 71, 72, 73, 74] (by decide +kernel) (by decide +kernel)
set_option maxRecDepth 20000 in
theorem gX3_foresee_X3_kept : GoodIn wsX3_foresee (wsV RX3 115 RX3 yX3_kept wsX3_kept) := goodIn_app (goodIn_of _ (by decide +kernel)) ggX3_foresee_X3_kept
set_option maxRecDepth 20000 in
theorem ggX3_foresee_X3_hourOn_ : GoodIn wsX3_foresee wsX3_hourOn_ := goodIn_r _ [28, 29, 24, 30, 31, 32, 4, 33, 34, 35, 36, 37, 38, 39, 40, 41, 42, 43, 44, 45, 18, 46, 47, 48, 49, 50, 51, 52, 53, 54, 10, 11, 12, 2, 3, 5, 55, 56, 57, 58, 67, 68, 69, 70, 71, 72, 73, 74] (by decide +kernel) (by decide +kernel)
set_option maxRecDepth 20000 in
theorem gX3_foresee_X3_hourOn_ : GoodIn wsX3_foresee (wsV RX3 99 RX3 yX3_hourOn_ wsX3_hourOn_) := goodIn_app (goodIn_of _ (by decide +kernel)) ggX3_foresee_X3_hourOn_
set_option maxRecDepth 20000 in
theorem ggX3_foresee_X3_tone : GoodIn wsX3_foresee wsX3_tone := goodIn_r _ [49, 24, 42, 43, 44, 4, 45, 18, 50, 51, 52, 53, 54, 10, 11, 12, 2, 3, 5, 67, 68, 69, 70, 71, 72, 73, 74] (by decide +kernel) (by decide +kernel)
set_option maxRecDepth 20000 in
theorem gX3_foresee_X3_tone : GoodIn wsX3_foresee (wsV RX3 55 RX3 yX3_tone wsX3_tone) := goodIn_app (goodIn_of _ (by decide +kernel)) ggX3_foresee_X3_tone
set_option maxRecDepth 20000 in
theorem ggX3_foresee_X3_bringBack : GoodIn wsX3_foresee wsX3_bringBack := goodIn_r _ [62, 18, 63, 64, 65, 66, 24, 67, 68, 69, 70, 71, 72, 73, 74] (by decide +kernel) (by decide +kernel)
set_option maxRecDepth 20000 in
theorem gX3_foresee_X3_bringBack : GoodIn wsX3_foresee (wsV RX3 119 RX3 yX3_bringBack wsX3_bringBack) := goodIn_app (goodIn_of _ (by decide +kernel)) ggX3_foresee_X3_bringBack
theorem dX3_foresee_0 : decode cX3_foresee 0 = .ok (.aload_n 0, 1) := by decide +kernel
theorem dX3_foresee_1 : decode cX3_foresee 1 = .ok (.iconst 0, 1) := by decide +kernel
theorem dX3_foresee_2 : decode cX3_foresee 2 = .ok (.putfield 32, 3) := by decide +kernel
theorem dX3_foresee_5 : decode cX3_foresee 5 = .ok (.iload_n 1, 1) := by decide +kernel
theorem dX3_foresee_6 : decode cX3_foresee 6 = .ok (.iconst 1, 1) := by decide +kernel
theorem dX3_foresee_7 : decode cX3_foresee 7 = .ok (.sipush 200, 3) := by decide +kernel
theorem dX3_foresee_10 : decode cX3_foresee 10 = .ok (.invokestatic 36, 3) := by decide +kernel
theorem dX3_foresee_13 : decode cX3_foresee 13 = .ok (.ifCond .ne 9, 3) := by decide +kernel
theorem dX3_foresee_16 : decode cX3_foresee 16 = .ok (.aload_n 0, 1) := by decide +kernel
theorem dX3_foresee_17 : decode cX3_foresee 17 = .ok (.iconst 1, 1) := by decide +kernel
theorem dX3_foresee_18 : decode cX3_foresee 18 = .ok (.invokevirtual 52, 3) := by decide +kernel
theorem dX3_foresee_21 : decode cX3_foresee 21 = .ok (.ireturn, 1) := by decide +kernel
theorem dX3_foresee_22 : decode cX3_foresee 22 = .ok (.iload_n 2, 1) := by decide +kernel
theorem dX3_foresee_23 : decode cX3_foresee 23 = .ok (.invokestatic 40, 3) := by decide +kernel
theorem dX3_foresee_26 : decode cX3_foresee 26 = .ok (.ifCond .ne 9, 3) := by decide +kernel
theorem dX3_foresee_29 : decode cX3_foresee 29 = .ok (.aload_n 0, 1) := by decide +kernel
theorem dX3_foresee_30 : decode cX3_foresee 30 = .ok (.iconst 2, 1) := by decide +kernel
theorem dX3_foresee_31 : decode cX3_foresee 31 = .ok (.invokevirtual 52, 3) := by decide +kernel
theorem dX3_foresee_34 : decode cX3_foresee 34 = .ok (.ireturn, 1) := by decide +kernel
theorem dX3_foresee_35 : decode cX3_foresee 35 = .ok (.aload_n 0, 1) := by decide +kernel
theorem dX3_foresee_36 : decode cX3_foresee 36 = .ok (.invokevirtual 115, 3) := by decide +kernel
theorem dX3_foresee_39 : decode cX3_foresee 39 = .ok (.astore_n 3, 1) := by decide +kernel
theorem dX3_foresee_40 : decode cX3_foresee 40 = .ok (.iconst 0, 1) := by decide +kernel
theorem dX3_foresee_41 : decode cX3_foresee 41 = .ok (.istore 4, 2) := by decide +kernel
theorem dX3_foresee_43 : decode cX3_foresee 43 = .ok (.iload 4, 2) := by decide +kernel
theorem dX3_foresee_45 : decode cX3_foresee 45 = .ok (.iload_n 1, 1) := by decide +kernel
theorem dX3_foresee_46 : decode cX3_foresee 46 = .ok (.if_icmp .ge 14, 3) := by decide +kernel
theorem dX3_foresee_49 : decode cX3_foresee 49 = .ok (.aload_n 0, 1) := by decide +kernel
theorem dX3_foresee_50 : decode cX3_foresee 50 = .ok (.invokevirtual 99, 3) := by decide +kernel
theorem dX3_foresee_53 : decode cX3_foresee 53 = .ok (.pop, 1) := by decide +kernel
theorem dX3_foresee_54 : decode cX3_foresee 54 = .ok (.iinc 4 1, 3) := by decide +kernel
theorem dX3_foresee_57 : decode cX3_foresee 57 = .ok (.goto (-14), 3) := by decide +kernel
theorem dX3_foresee_60 : decode cX3_foresee 60 = .ok (.aload_n 0, 1) := by decide +kernel
theorem dX3_foresee_61 : decode cX3_foresee 61 = .ok (.iload_n 2, 1) := by decide +kernel
theorem dX3_foresee_62 : decode cX3_foresee 62 = .ok (.invokevirtual 55, 3) := by decide +kernel
theorem dX3_foresee_65 : decode cX3_foresee 65 = .ok (.istore 4, 2) := by decide +kernel
theorem dX3_foresee_67 : decode cX3_foresee 67 = .ok (.aload_n 0, 1) := by decide +kernel
theorem dX3_foresee_68 : decode cX3_foresee 68 = .ok (.aload_n 3, 1) := by decide +kernel
theorem dX3_foresee_69 : decode cX3_foresee 69 = .ok (.invokevirtual 119, 3) := by decide +kernel
theorem dX3_foresee_72 : decode cX3_foresee 72 = .ok (.iload 4, 2) := by decide +kernel
theorem dX3_foresee_74 : decode cX3_foresee 74 = .ok (.ireturn, 1) := by decide +kernel
set_option maxRecDepth 20000 in
theorem ggX3_mean_X3_tone : GoodIn wsX3_mean wsX3_tone := goodIn_r _ [6, 7, 8, 9, 10, 5, 11, 12, 13, 14, 15, 16, 17, 18, 19, 20, 21, 22, 23, 46, 47, 48, 49, 50, 51, 52, 53] (by decide +kernel) (by decide +kernel)
set_option maxRecDepth 20000 in
theorem gX3_mean_X3_tone : GoodIn wsX3_mean (wsV RX3 55 RX3 yX3_tone wsX3_tone) := goodIn_app (goodIn_of _ (by decide +kernel)) ggX3_mean_X3_tone
set_option maxRecDepth 20000 in
theorem ggX3_mean_X3_counted : GoodIn wsX3_mean wsX3_counted := goodIn_r _ [27, 7, 28, 29, 30, 31, 5, 32, 33, 34, 35, 36, 37, 8, 9, 10, 11, 12, 38, 39, 40, 41, 42, 43, 44, 45, 2, 3, 4, 6, 13, 14, 15, 16, 17, 18, 19, 20, 21, 22, 23, 46, 47, 48, 49, 50, 51, 52, 53] (by decide +kernel) (by decide +kernel)
set_option maxRecDepth 20000 in
theorem gX3_mean_X3_counted : GoodIn wsX3_mean (wsV RX3 107 RX3 yX3_counted wsX3_counted) := goodIn_app (goodIn_of _ (by decide +kernel)) ggX3_mean_X3_counted
theorem dX3_mean_0 : decode cX3_mean 0 = .ok (.aload_n 0, 1) := by decide +kernel
theorem dX3_mean_1 : decode cX3_mean 1 = .ok (.iconst 0, 1) := by decide +kernel
theorem dX3_mean_2 : decode cX3_mean 2 = .ok (.putfield 32, 3) := by decide +kernel
theorem dX3_mean_5 : decode cX3_mean 5 = .ok (.iconst 0, 1) := by decide +kernel
theorem dX3_mean_6 : decode cX3_mean 6 = .ok (.istore_n 1, 1) := by decide +kernel
theorem dX3_mean_7 : decode cX3_mean 7 = .ok (.iconst 0, 1) := by decide +kernel
theorem dX3_mean_8 : decode cX3_mean 8 = .ok (.istore_n 2, 1) := by decide +kernel
theorem dX3_mean_9 : decode cX3_mean 9 = .ok (.iload_n 2, 1) := by decide +kernel
theorem dX3_mean_10 : decode cX3_mean 10 = .ok (.bipush 12, 2) := by decide +kernel
theorem dX3_mean_12 : decode cX3_mean 12 = .ok (.if_icmp .ge 17, 3) := by decide +kernel
theorem dX3_mean_15 : decode cX3_mean 15 = .ok (.iload_n 1, 1) := by decide +kernel
theorem dX3_mean_16 : decode cX3_mean 16 = .ok (.aload_n 0, 1) := by decide +kernel
theorem dX3_mean_17 : decode cX3_mean 17 = .ok (.iload_n 2, 1) := by decide +kernel
theorem dX3_mean_18 : decode cX3_mean 18 = .ok (.invokevirtual 55, 3) := by decide +kernel
theorem dX3_mean_21 : decode cX3_mean 21 = .ok (.iadd, 1) := by decide +kernel
theorem dX3_mean_22 : decode cX3_mean 22 = .ok (.istore_n 1, 1) := by decide +kernel
theorem dX3_mean_23 : decode cX3_mean 23 = .ok (.iinc 2 1, 3) := by decide +kernel
theorem dX3_mean_26 : decode cX3_mean 26 = .ok (.goto (-17), 3) := by decide +kernel
theorem dX3_mean_29 : decode cX3_mean 29 = .ok (.aload_n 0, 1) := by decide +kernel
theorem dX3_mean_30 : decode cX3_mean 30 = .ok (.iconst 1, 1) := by decide +kernel
theorem dX3_mean_31 : decode cX3_mean 31 = .ok (.invokevirtual 107, 3) := by decide +kernel
theorem dX3_mean_34 : decode cX3_mean 34 = .ok (.ifCond .ne 7, 3) := by decide +kernel
theorem dX3_mean_37 : decode cX3_mean 37 = .ok (.dconst 0, 1) := by decide +kernel
theorem dX3_mean_38 : decode cX3_mean 38 = .ok (.goto 12, 3) := by decide +kernel
theorem dX3_mean_41 : decode cX3_mean 41 = .ok (.iload_n 1, 1) := by decide +kernel
theorem dX3_mean_42 : decode cX3_mean 42 = .ok (.i2d, 1) := by decide +kernel
theorem dX3_mean_43 : decode cX3_mean 43 = .ok (.aload_n 0, 1) := by decide +kernel
theorem dX3_mean_44 : decode cX3_mean 44 = .ok (.iconst 1, 1) := by decide +kernel
theorem dX3_mean_45 : decode cX3_mean 45 = .ok (.invokevirtual 107, 3) := by decide +kernel
theorem dX3_mean_48 : decode cX3_mean 48 = .ok (.i2d, 1) := by decide +kernel
theorem dX3_mean_49 : decode cX3_mean 49 = .ok (.ddiv, 1) := by decide +kernel
theorem dX3_mean_50 : decode cX3_mean 50 = .ok (.dreturn, 1) := by decide +kernel
set_option maxRecDepth 20000 in
theorem ggX3_digest_X3_counted : GoodIn wsX3_digest wsX3_counted := goodIn_r _ [11, 12, 6, 13, 14, 15, 10, 16, 17, 18, 19, 20, 21, 22, 23, 24, 25, 26, 27, 28, 29, 30, 31, 32, 33, 34, 35, 36, 37, 38, 39, 40, 41, 42, 43, 44, 45, 46, 47, 48, 49, 58, 59, 60, 61, 62, 63, 64, 65] (by decide +kernel) (by decide +kernel)
set_option maxRecDepth 20000 in
theorem gX3_digest_X3_counted : GoodIn wsX3_digest (wsV RX3 107 RX3 yX3_counted wsX3_counted) := goodIn_app (goodIn_of _ (by decide +kernel)) ggX3_digest_X3_counted
set_option maxRecDepth 20000 in
theorem ggX3_digest_X3_stringTold : GoodIn wsX3_digest wsX3_stringTold := goodIn_r _ [53, 22, 23, 24, 10, 25, 26, 35, 36, 37, 38, 12, 39, 40, 41, 42, 43, 44, 45, 46, 47, 48, 49, 58, 59, 60, 61, 62, 63, 64, 65] (by decide +kernel) (by decide +kernel)
set_option maxRecDepth 20000 in
theorem gX3_digest_X3_stringTold : GoodIn wsX3_digest (wsV RX3 58 RX3 yX3_stringTold wsX3_stringTold) := goodIn_app (goodIn_of _ (by decide +kernel)) ggX3_digest_X3_stringTold
set_option maxRecDepth 20000 in
theorem ggX3_digest_X3_to : GoodIn wsX3_digest wsX3_to := goodIn_r _ [20, 21, 58, 59, 60, 61, 62, 63, 64, 65] (by decide +kernel) (by decide +kernel)
set_option maxRecDepth 20000 in
theorem gX3_digest_X3_to : GoodIn wsX3_digest (wsV RX3 70 RX3 yX3_to wsX3_to) := goodIn_app (goodIn_of _ (by decide +kernel)) ggX3_digest_X3_to
set_option maxRecDepth 20000 in
theorem ggX3_digest_X3_offBy : GoodIn wsX3_digest wsX3_offBy := goodIn_r _ [57, 17, 18, 19, 10, 20, 21, 27, 28, 29, 30, 31, 32, 33, 34, 35, 36, 37, 38, 12, 22, 23, 24, 25, 26, 39, 40, 41, 42, 43, 44, 45, 46, 47, 48, 49, 58, 59, 60, 61, 62, 63, 64, 65] (by decide +kernel) (by decide +kernel)
set_option maxRecDepth 20000 in
theorem gX3_digest_X3_offBy : GoodIn wsX3_digest (wsV RX3 84 RX3 yX3_offBy wsX3_offBy) := goodIn_app (goodIn_of _ (by decide +kernel)) ggX3_digest_X3_offBy
theorem dX3_digest_0 : decode cX3_digest 0 = .ok (.aload_n 0, 1) := by decide +kernel
theorem dX3_digest_1 : decode cX3_digest 1 = .ok (.iconst 0, 1) := by decide +kernel
theorem dX3_digest_2 : decode cX3_digest 2 = .ok (.putfield 32, 3) := by decide +kernel
theorem dX3_digest_5 : decode cX3_digest 5 = .ok (.ldc2_w 126, 3) := by decide +kernel
theorem dX3_digest_8 : decode cX3_digest 8 = .ok (.lstore_n 1, 1) := by decide +kernel
theorem dX3_digest_9 : decode cX3_digest 9 = .ok (.iconst 0, 1) := by decide +kernel
theorem dX3_digest_10 : decode cX3_digest 10 = .ok (.istore_n 3, 1) := by decide +kernel
theorem dX3_digest_11 : decode cX3_digest 11 = .ok (.iload_n 3, 1) := by decide +kernel
theorem dX3_digest_12 : decode cX3_digest 12 = .ok (.bipush 8, 2) := by decide +kernel
theorem dX3_digest_14 : decode cX3_digest 14 = .ok (.if_icmp .ge 22, 3) := by decide +kernel
theorem dX3_digest_17 : decode cX3_digest 17 = .ok (.lload_n 1, 1) := by decide +kernel
theorem dX3_digest_18 : decode cX3_digest 18 = .ok (.ldc2_w 128, 3) := by decide +kernel
theorem dX3_digest_21 : decode cX3_digest 21 = .ok (.lmul, 1) := by decide +kernel
theorem dX3_digest_22 : decode cX3_digest 22 = .ok (.aload_n 0, 1) := by decide +kernel
theorem dX3_digest_23 : decode cX3_digest 23 = .ok (.iload_n 3, 1) := by decide +kernel
theorem dX3_digest_24 : decode cX3_digest 24 = .ok (.invokevirtual 107, 3) := by decide +kernel
theorem dX3_digest_27 : decode cX3_digest 27 = .ok (.i2l, 1) := by decide +kernel
theorem dX3_digest_28 : decode cX3_digest 28 = .ok (.ladd, 1) := by decide +kernel
theorem dX3_digest_29 : decode cX3_digest 29 = .ok (.lstore_n 1, 1) := by decide +kernel
theorem dX3_digest_30 : decode cX3_digest 30 = .ok (.iinc 3 1, 3) := by decide +kernel
theorem dX3_digest_33 : decode cX3_digest 33 = .ok (.goto (-22), 3) := by decide +kernel
theorem dX3_digest_36 : decode cX3_digest 36 = .ok (.iconst 0, 1) := by decide +kernel
theorem dX3_digest_37 : decode cX3_digest 37 = .ok (.istore_n 3, 1) := by decide +kernel
theorem dX3_digest_38 : decode cX3_digest 38 = .ok (.iload_n 3, 1) := by decide +kernel
theorem dX3_digest_39 : decode cX3_digest 39 = .ok (.bipush 12, 2) := by decide +kernel
theorem dX3_digest_41 : decode cX3_digest 41 = .ok (.if_icmp .ge 40, 3) := by decide +kernel
theorem dX3_digest_44 : decode cX3_digest 44 = .ok (.iconst 0, 1) := by decide +kernel
theorem dX3_digest_45 : decode cX3_digest 45 = .ok (.istore 4, 2) := by decide +kernel
theorem dX3_digest_47 : decode cX3_digest 47 = .ok (.iload 4, 2) := by decide +kernel
theorem dX3_digest_49 : decode cX3_digest 49 = .ok (.bipush 7, 2) := by decide +kernel
theorem dX3_digest_51 : decode cX3_digest 51 = .ok (.if_icmp .ge 24, 3) := by decide +kernel
theorem dX3_digest_54 : decode cX3_digest 54 = .ok (.lload_n 1, 1) := by decide +kernel
theorem dX3_digest_55 : decode cX3_digest 55 = .ok (.ldc2_w 128, 3) := by decide +kernel
theorem dX3_digest_58 : decode cX3_digest 58 = .ok (.lmul, 1) := by decide +kernel
theorem dX3_digest_59 : decode cX3_digest 59 = .ok (.aload_n 0, 1) := by decide +kernel
theorem dX3_digest_60 : decode cX3_digest 60 = .ok (.iload_n 3, 1) := by decide +kernel
theorem dX3_digest_61 : decode cX3_digest 61 = .ok (.iload 4, 2) := by decide +kernel
theorem dX3_digest_63 : decode cX3_digest 63 = .ok (.invokevirtual 58, 3) := by decide +kernel
theorem dX3_digest_66 : decode cX3_digest 66 = .ok (.i2l, 1) := by decide +kernel
theorem dX3_digest_67 : decode cX3_digest 67 = .ok (.ladd, 1) := by decide +kernel
theorem dX3_digest_68 : decode cX3_digest 68 = .ok (.lstore_n 1, 1) := by decide +kernel
theorem dX3_digest_69 : decode cX3_digest 69 = .ok (.iinc 4 1, 3) := by decide +kernel
theorem dX3_digest_72 : decode cX3_digest 72 = .ok (.goto (-25), 3) := by decide +kernel
theorem dX3_digest_75 : decode cX3_digest 75 = .ok (.iinc 3 1, 3) := by decide +kernel
theorem dX3_digest_78 : decode cX3_digest 78 = .ok (.goto (-40), 3) := by decide +kernel
theorem dX3_digest_81 : decode cX3_digest 81 = .ok (.iconst 0, 1) := by decide +kernel
theorem dX3_digest_82 : decode cX3_digest 82 = .ok (.istore_n 3, 1) := by decide +kernel
theorem dX3_digest_83 : decode cX3_digest 83 = .ok (.iload_n 3, 1) := by decide +kernel
theorem dX3_digest_84 : decode cX3_digest 84 = .ok (.bipush 12, 2) := by decide +kernel
theorem dX3_digest_86 : decode cX3_digest 86 = .ok (.if_icmp .ge 33, 3) := by decide +kernel
theorem dX3_digest_89 : decode cX3_digest 89 = .ok (.lload_n 1, 1) := by decide +kernel
theorem dX3_digest_90 : decode cX3_digest 90 = .ok (.ldc2_w 128, 3) := by decide +kernel
theorem dX3_digest_93 : decode cX3_digest 93 = .ok (.lmul, 1) := by decide +kernel
theorem dX3_digest_94 : decode cX3_digest 94 = .ok (.bipush 10, 2) := by decide +kernel
theorem dX3_digest_96 : decode cX3_digest 96 = .ok (.aload_n 0, 1) := by decide +kernel
theorem dX3_digest_97 : decode cX3_digest 97 = .ok (.getfield 16, 3) := by decide +kernel
theorem dX3_digest_100 : decode cX3_digest 100 = .ok (.iload_n 3, 1) := by decide +kernel
theorem dX3_digest_101 : decode cX3_digest 101 = .ok (.iaload, 1) := by decide +kernel
theorem dX3_digest_102 : decode cX3_digest 102 = .ok (.imul, 1) := by decide +kernel
theorem dX3_digest_103 : decode cX3_digest 103 = .ok (.aload_n 0, 1) := by decide +kernel
theorem dX3_digest_104 : decode cX3_digest 104 = .ok (.getfield 19, 3) := by decide +kernel
theorem dX3_digest_107 : decode cX3_digest 107 = .ok (.iload_n 3, 1) := by decide +kernel
theorem dX3_digest_108 : decode cX3_digest 108 = .ok (.iaload, 1) := by decide +kernel
theorem dX3_digest_109 : decode cX3_digest 109 = .ok (.iadd, 1) := by decide +kernel
theorem dX3_digest_110 : decode cX3_digest 110 = .ok (.i2l, 1) := by decide +kernel
theorem dX3_digest_111 : decode cX3_digest 111 = .ok (.ladd, 1) := by decide +kernel
theorem dX3_digest_112 : decode cX3_digest 112 = .ok (.lstore_n 1, 1) := by decide +kernel
theorem dX3_digest_113 : decode cX3_digest 113 = .ok (.iinc 3 1, 3) := by decide +kernel
theorem dX3_digest_116 : decode cX3_digest 116 = .ok (.goto (-33), 3) := by decide +kernel
theorem dX3_digest_119 : decode cX3_digest 119 = .ok (.iconst 0, 1) := by decide +kernel
theorem dX3_digest_120 : decode cX3_digest 120 = .ok (.istore_n 3, 1) := by decide +kernel
theorem dX3_digest_121 : decode cX3_digest 121 = .ok (.iload_n 3, 1) := by decide +kernel
theorem dX3_digest_122 : decode cX3_digest 122 = .ok (.aload_n 0, 1) := by decide +kernel
theorem dX3_digest_123 : decode cX3_digest 123 = .ok (.getfield 61, 3) := by decide +kernel
theorem dX3_digest_126 : decode cX3_digest 126 = .ok (.if_icmp .ge 59, 3) := by decide +kernel
theorem dX3_digest_129 : decode cX3_digest 129 = .ok (.iconst 0, 1) := by decide +kernel
theorem dX3_digest_130 : decode cX3_digest 130 = .ok (.istore 4, 2) := by decide +kernel
theorem dX3_digest_132 : decode cX3_digest 132 = .ok (.iload 4, 2) := by decide +kernel
theorem dX3_digest_134 : decode cX3_digest 134 = .ok (.iconst 2, 1) := by decide +kernel
theorem dX3_digest_135 : decode cX3_digest 135 = .ok (.aload_n 0, 1) := by decide +kernel
theorem dX3_digest_136 : decode cX3_digest 136 = .ok (.iload_n 3, 1) := by decide +kernel
theorem dX3_digest_137 : decode cX3_digest 137 = .ok (.iconst 1, 1) := by decide +kernel
theorem dX3_digest_138 : decode cX3_digest 138 = .ok (.invokevirtual 70, 3) := by decide +kernel
theorem dX3_digest_141 : decode cX3_digest 141 = .ok (.iadd, 1) := by decide +kernel
theorem dX3_digest_142 : decode cX3_digest 142 = .ok (.if_icmp .ge 24, 3) := by decide +kernel
theorem dX3_digest_145 : decode cX3_digest 145 = .ok (.lload_n 1, 1) := by decide +kernel
theorem dX3_digest_146 : decode cX3_digest 146 = .ok (.ldc2_w 128, 3) := by decide +kernel
theorem dX3_digest_149 : decode cX3_digest 149 = .ok (.lmul, 1) := by decide +kernel
theorem dX3_digest_150 : decode cX3_digest 150 = .ok (.aload_n 0, 1) := by decide +kernel
theorem dX3_digest_151 : decode cX3_digest 151 = .ok (.iload_n 3, 1) := by decide +kernel
theorem dX3_digest_152 : decode cX3_digest 152 = .ok (.iload 4, 2) := by decide +kernel
theorem dX3_digest_154 : decode cX3_digest 154 = .ok (.invokevirtual 70, 3) := by decide +kernel
theorem dX3_digest_157 : decode cX3_digest 157 = .ok (.i2l, 1) := by decide +kernel
theorem dX3_digest_158 : decode cX3_digest 158 = .ok (.ladd, 1) := by decide +kernel
theorem dX3_digest_159 : decode cX3_digest 159 = .ok (.lstore_n 1, 1) := by decide +kernel
theorem dX3_digest_160 : decode cX3_digest 160 = .ok (.iinc 4 1, 3) := by decide +kernel
theorem dX3_digest_163 : decode cX3_digest 163 = .ok (.goto (-31), 3) := by decide +kernel
theorem dX3_digest_166 : decode cX3_digest 166 = .ok (.lload_n 1, 1) := by decide +kernel
theorem dX3_digest_167 : decode cX3_digest 167 = .ok (.ldc2_w 128, 3) := by decide +kernel
theorem dX3_digest_170 : decode cX3_digest 170 = .ok (.lmul, 1) := by decide +kernel
theorem dX3_digest_171 : decode cX3_digest 171 = .ok (.aload_n 0, 1) := by decide +kernel
theorem dX3_digest_172 : decode cX3_digest 172 = .ok (.iload_n 3, 1) := by decide +kernel
theorem dX3_digest_173 : decode cX3_digest 173 = .ok (.invokevirtual 84, 3) := by decide +kernel
theorem dX3_digest_176 : decode cX3_digest 176 = .ok (.i2l, 1) := by decide +kernel
theorem dX3_digest_177 : decode cX3_digest 177 = .ok (.ladd, 1) := by decide +kernel
theorem dX3_digest_178 : decode cX3_digest 178 = .ok (.lstore_n 1, 1) := by decide +kernel
theorem dX3_digest_179 : decode cX3_digest 179 = .ok (.iinc 3 1, 3) := by decide +kernel
theorem dX3_digest_182 : decode cX3_digest 182 = .ok (.goto (-61), 3) := by decide +kernel
theorem dX3_digest_185 : decode cX3_digest 185 = .ok (.lload_n 1, 1) := by decide +kernel
theorem dX3_digest_186 : decode cX3_digest 186 = .ok (.lreturn, 1) := by decide +kernel
theorem dJ6_numberOfTrailingZeros_0f7a4_0 : decode cJ6_numberOfTrailingZeros_0f7a4 0 = .ok (.iload_n 0, 1) := by decide +kernel
theorem dJ6_numberOfTrailingZeros_0f7a4_1 : decode cJ6_numberOfTrailingZeros_0f7a4 1 = .ok (.iconst (-1), 1) := by decide +kernel
theorem dJ6_numberOfTrailingZeros_0f7a4_2 : decode cJ6_numberOfTrailingZeros_0f7a4 2 = .ok (.ixor, 1) := by decide +kernel
theorem dJ6_numberOfTrailingZeros_0f7a4_3 : decode cJ6_numberOfTrailingZeros_0f7a4 3 = .ok (.iload_n 0, 1) := by decide +kernel
theorem dJ6_numberOfTrailingZeros_0f7a4_4 : decode cJ6_numberOfTrailingZeros_0f7a4 4 = .ok (.iconst 1, 1) := by decide +kernel
theorem dJ6_numberOfTrailingZeros_0f7a4_5 : decode cJ6_numberOfTrailingZeros_0f7a4 5 = .ok (.isub, 1) := by decide +kernel
theorem dJ6_numberOfTrailingZeros_0f7a4_6 : decode cJ6_numberOfTrailingZeros_0f7a4 6 = .ok (.iand, 1) := by decide +kernel
theorem dJ6_numberOfTrailingZeros_0f7a4_7 : decode cJ6_numberOfTrailingZeros_0f7a4 7 = .ok (.istore_n 0, 1) := by decide +kernel
theorem dJ6_numberOfTrailingZeros_0f7a4_8 : decode cJ6_numberOfTrailingZeros_0f7a4 8 = .ok (.iload_n 0, 1) := by decide +kernel
theorem dJ6_numberOfTrailingZeros_0f7a4_9 : decode cJ6_numberOfTrailingZeros_0f7a4 9 = .ok (.ifCond .gt 8, 3) := by decide +kernel
theorem dJ6_numberOfTrailingZeros_0f7a4_12 : decode cJ6_numberOfTrailingZeros_0f7a4 12 = .ok (.iload_n 0, 1) := by decide +kernel
theorem dJ6_numberOfTrailingZeros_0f7a4_13 : decode cJ6_numberOfTrailingZeros_0f7a4 13 = .ok (.bipush 32, 2) := by decide +kernel
theorem dJ6_numberOfTrailingZeros_0f7a4_15 : decode cJ6_numberOfTrailingZeros_0f7a4 15 = .ok (.iand, 1) := by decide +kernel
theorem dJ6_numberOfTrailingZeros_0f7a4_16 : decode cJ6_numberOfTrailingZeros_0f7a4 16 = .ok (.ireturn, 1) := by decide +kernel
theorem dJ6_numberOfTrailingZeros_0f7a4_17 : decode cJ6_numberOfTrailingZeros_0f7a4 17 = .ok (.iconst 1, 1) := by decide +kernel
theorem dJ6_numberOfTrailingZeros_0f7a4_18 : decode cJ6_numberOfTrailingZeros_0f7a4 18 = .ok (.istore_n 1, 1) := by decide +kernel
theorem dJ6_numberOfTrailingZeros_0f7a4_19 : decode cJ6_numberOfTrailingZeros_0f7a4 19 = .ok (.iload_n 0, 1) := by decide +kernel
theorem dJ6_numberOfTrailingZeros_0f7a4_20 : decode cJ6_numberOfTrailingZeros_0f7a4 20 = .ok (.ldc_w 264, 3) := by decide +kernel
theorem dJ6_numberOfTrailingZeros_0f7a4_23 : decode cJ6_numberOfTrailingZeros_0f7a4 23 = .ok (.if_icmp .le 11, 3) := by decide +kernel
theorem dJ6_numberOfTrailingZeros_0f7a4_26 : decode cJ6_numberOfTrailingZeros_0f7a4 26 = .ok (.iinc 1 16, 3) := by decide +kernel
theorem dJ6_numberOfTrailingZeros_0f7a4_29 : decode cJ6_numberOfTrailingZeros_0f7a4 29 = .ok (.iload_n 0, 1) := by decide +kernel
theorem dJ6_numberOfTrailingZeros_0f7a4_30 : decode cJ6_numberOfTrailingZeros_0f7a4 30 = .ok (.bipush 16, 2) := by decide +kernel
theorem dJ6_numberOfTrailingZeros_0f7a4_32 : decode cJ6_numberOfTrailingZeros_0f7a4 32 = .ok (.iushr, 1) := by decide +kernel
theorem dJ6_numberOfTrailingZeros_0f7a4_33 : decode cJ6_numberOfTrailingZeros_0f7a4 33 = .ok (.istore_n 0, 1) := by decide +kernel
theorem dJ6_numberOfTrailingZeros_0f7a4_34 : decode cJ6_numberOfTrailingZeros_0f7a4 34 = .ok (.iload_n 0, 1) := by decide +kernel
theorem dJ6_numberOfTrailingZeros_0f7a4_35 : decode cJ6_numberOfTrailingZeros_0f7a4 35 = .ok (.sipush 256, 3) := by decide +kernel
theorem dJ6_numberOfTrailingZeros_0f7a4_38 : decode cJ6_numberOfTrailingZeros_0f7a4 38 = .ok (.if_icmp .le 11, 3) := by decide +kernel
theorem dJ6_numberOfTrailingZeros_0f7a4_41 : decode cJ6_numberOfTrailingZeros_0f7a4 41 = .ok (.iinc 1 8, 3) := by decide +kernel
theorem dJ6_numberOfTrailingZeros_0f7a4_44 : decode cJ6_numberOfTrailingZeros_0f7a4 44 = .ok (.iload_n 0, 1) := by decide +kernel
theorem dJ6_numberOfTrailingZeros_0f7a4_45 : decode cJ6_numberOfTrailingZeros_0f7a4 45 = .ok (.bipush 8, 2) := by decide +kernel
theorem dJ6_numberOfTrailingZeros_0f7a4_47 : decode cJ6_numberOfTrailingZeros_0f7a4 47 = .ok (.iushr, 1) := by decide +kernel
theorem dJ6_numberOfTrailingZeros_0f7a4_48 : decode cJ6_numberOfTrailingZeros_0f7a4 48 = .ok (.istore_n 0, 1) := by decide +kernel
theorem dJ6_numberOfTrailingZeros_0f7a4_49 : decode cJ6_numberOfTrailingZeros_0f7a4 49 = .ok (.iload_n 0, 1) := by decide +kernel
theorem dJ6_numberOfTrailingZeros_0f7a4_50 : decode cJ6_numberOfTrailingZeros_0f7a4 50 = .ok (.bipush 16, 2) := by decide +kernel
theorem dJ6_numberOfTrailingZeros_0f7a4_52 : decode cJ6_numberOfTrailingZeros_0f7a4 52 = .ok (.if_icmp .le 10, 3) := by decide +kernel
theorem dJ6_numberOfTrailingZeros_0f7a4_55 : decode cJ6_numberOfTrailingZeros_0f7a4 55 = .ok (.iinc 1 4, 3) := by decide +kernel
theorem dJ6_numberOfTrailingZeros_0f7a4_58 : decode cJ6_numberOfTrailingZeros_0f7a4 58 = .ok (.iload_n 0, 1) := by decide +kernel
theorem dJ6_numberOfTrailingZeros_0f7a4_59 : decode cJ6_numberOfTrailingZeros_0f7a4 59 = .ok (.iconst 4, 1) := by decide +kernel
theorem dJ6_numberOfTrailingZeros_0f7a4_60 : decode cJ6_numberOfTrailingZeros_0f7a4 60 = .ok (.iushr, 1) := by decide +kernel
theorem dJ6_numberOfTrailingZeros_0f7a4_61 : decode cJ6_numberOfTrailingZeros_0f7a4 61 = .ok (.istore_n 0, 1) := by decide +kernel
theorem dJ6_numberOfTrailingZeros_0f7a4_62 : decode cJ6_numberOfTrailingZeros_0f7a4 62 = .ok (.iload_n 0, 1) := by decide +kernel
theorem dJ6_numberOfTrailingZeros_0f7a4_63 : decode cJ6_numberOfTrailingZeros_0f7a4 63 = .ok (.iconst 4, 1) := by decide +kernel
theorem dJ6_numberOfTrailingZeros_0f7a4_64 : decode cJ6_numberOfTrailingZeros_0f7a4 64 = .ok (.if_icmp .le 10, 3) := by decide +kernel
theorem dJ6_numberOfTrailingZeros_0f7a4_67 : decode cJ6_numberOfTrailingZeros_0f7a4 67 = .ok (.iinc 1 2, 3) := by decide +kernel
theorem dJ6_numberOfTrailingZeros_0f7a4_70 : decode cJ6_numberOfTrailingZeros_0f7a4 70 = .ok (.iload_n 0, 1) := by decide +kernel
theorem dJ6_numberOfTrailingZeros_0f7a4_71 : decode cJ6_numberOfTrailingZeros_0f7a4 71 = .ok (.iconst 2, 1) := by decide +kernel
theorem dJ6_numberOfTrailingZeros_0f7a4_72 : decode cJ6_numberOfTrailingZeros_0f7a4 72 = .ok (.iushr, 1) := by decide +kernel
theorem dJ6_numberOfTrailingZeros_0f7a4_73 : decode cJ6_numberOfTrailingZeros_0f7a4 73 = .ok (.istore_n 0, 1) := by decide +kernel
theorem dJ6_numberOfTrailingZeros_0f7a4_74 : decode cJ6_numberOfTrailingZeros_0f7a4 74 = .ok (.iload_n 1, 1) := by decide +kernel
theorem dJ6_numberOfTrailingZeros_0f7a4_75 : decode cJ6_numberOfTrailingZeros_0f7a4 75 = .ok (.iload_n 0, 1) := by decide +kernel
theorem dJ6_numberOfTrailingZeros_0f7a4_76 : decode cJ6_numberOfTrailingZeros_0f7a4 76 = .ok (.iconst 1, 1) := by decide +kernel
theorem dJ6_numberOfTrailingZeros_0f7a4_77 : decode cJ6_numberOfTrailingZeros_0f7a4 77 = .ok (.iushr, 1) := by decide +kernel
theorem dJ6_numberOfTrailingZeros_0f7a4_78 : decode cJ6_numberOfTrailingZeros_0f7a4 78 = .ok (.iadd, 1) := by decide +kernel
theorem dJ6_numberOfTrailingZeros_0f7a4_79 : decode cJ6_numberOfTrailingZeros_0f7a4 79 = .ok (.ireturn, 1) := by decide +kernel
theorem dJ6_bitCount_0f7a4_0 : decode cJ6_bitCount_0f7a4 0 = .ok (.iload_n 0, 1) := by decide +kernel
theorem dJ6_bitCount_0f7a4_1 : decode cJ6_bitCount_0f7a4 1 = .ok (.iload_n 0, 1) := by decide +kernel
theorem dJ6_bitCount_0f7a4_2 : decode cJ6_bitCount_0f7a4 2 = .ok (.iconst 1, 1) := by decide +kernel
theorem dJ6_bitCount_0f7a4_3 : decode cJ6_bitCount_0f7a4 3 = .ok (.iushr, 1) := by decide +kernel
theorem dJ6_bitCount_0f7a4_4 : decode cJ6_bitCount_0f7a4 4 = .ok (.ldc_w 265, 3) := by decide +kernel
theorem dJ6_bitCount_0f7a4_7 : decode cJ6_bitCount_0f7a4 7 = .ok (.iand, 1) := by decide +kernel
theorem dJ6_bitCount_0f7a4_8 : decode cJ6_bitCount_0f7a4 8 = .ok (.isub, 1) := by decide +kernel
theorem dJ6_bitCount_0f7a4_9 : decode cJ6_bitCount_0f7a4 9 = .ok (.istore_n 0, 1) := by decide +kernel
theorem dJ6_bitCount_0f7a4_10 : decode cJ6_bitCount_0f7a4 10 = .ok (.iload_n 0, 1) := by decide +kernel
theorem dJ6_bitCount_0f7a4_11 : decode cJ6_bitCount_0f7a4 11 = .ok (.ldc_w 266, 3) := by decide +kernel
theorem dJ6_bitCount_0f7a4_14 : decode cJ6_bitCount_0f7a4 14 = .ok (.iand, 1) := by decide +kernel
theorem dJ6_bitCount_0f7a4_15 : decode cJ6_bitCount_0f7a4 15 = .ok (.iload_n 0, 1) := by decide +kernel
theorem dJ6_bitCount_0f7a4_16 : decode cJ6_bitCount_0f7a4 16 = .ok (.iconst 2, 1) := by decide +kernel
theorem dJ6_bitCount_0f7a4_17 : decode cJ6_bitCount_0f7a4 17 = .ok (.iushr, 1) := by decide +kernel
theorem dJ6_bitCount_0f7a4_18 : decode cJ6_bitCount_0f7a4 18 = .ok (.ldc_w 266, 3) := by decide +kernel
theorem dJ6_bitCount_0f7a4_21 : decode cJ6_bitCount_0f7a4 21 = .ok (.iand, 1) := by decide +kernel
theorem dJ6_bitCount_0f7a4_22 : decode cJ6_bitCount_0f7a4 22 = .ok (.iadd, 1) := by decide +kernel
theorem dJ6_bitCount_0f7a4_23 : decode cJ6_bitCount_0f7a4 23 = .ok (.istore_n 0, 1) := by decide +kernel
theorem dJ6_bitCount_0f7a4_24 : decode cJ6_bitCount_0f7a4 24 = .ok (.iload_n 0, 1) := by decide +kernel
theorem dJ6_bitCount_0f7a4_25 : decode cJ6_bitCount_0f7a4 25 = .ok (.iload_n 0, 1) := by decide +kernel
theorem dJ6_bitCount_0f7a4_26 : decode cJ6_bitCount_0f7a4 26 = .ok (.iconst 4, 1) := by decide +kernel
theorem dJ6_bitCount_0f7a4_27 : decode cJ6_bitCount_0f7a4 27 = .ok (.iushr, 1) := by decide +kernel
theorem dJ6_bitCount_0f7a4_28 : decode cJ6_bitCount_0f7a4 28 = .ok (.iadd, 1) := by decide +kernel
theorem dJ6_bitCount_0f7a4_29 : decode cJ6_bitCount_0f7a4 29 = .ok (.ldc_w 267, 3) := by decide +kernel
theorem dJ6_bitCount_0f7a4_32 : decode cJ6_bitCount_0f7a4 32 = .ok (.iand, 1) := by decide +kernel
theorem dJ6_bitCount_0f7a4_33 : decode cJ6_bitCount_0f7a4 33 = .ok (.istore_n 0, 1) := by decide +kernel
theorem dJ6_bitCount_0f7a4_34 : decode cJ6_bitCount_0f7a4 34 = .ok (.iload_n 0, 1) := by decide +kernel
theorem dJ6_bitCount_0f7a4_35 : decode cJ6_bitCount_0f7a4 35 = .ok (.iload_n 0, 1) := by decide +kernel
theorem dJ6_bitCount_0f7a4_36 : decode cJ6_bitCount_0f7a4 36 = .ok (.bipush 8, 2) := by decide +kernel
theorem dJ6_bitCount_0f7a4_38 : decode cJ6_bitCount_0f7a4 38 = .ok (.iushr, 1) := by decide +kernel
theorem dJ6_bitCount_0f7a4_39 : decode cJ6_bitCount_0f7a4 39 = .ok (.iadd, 1) := by decide +kernel
theorem dJ6_bitCount_0f7a4_40 : decode cJ6_bitCount_0f7a4 40 = .ok (.istore_n 0, 1) := by decide +kernel
theorem dJ6_bitCount_0f7a4_41 : decode cJ6_bitCount_0f7a4 41 = .ok (.iload_n 0, 1) := by decide +kernel
theorem dJ6_bitCount_0f7a4_42 : decode cJ6_bitCount_0f7a4 42 = .ok (.iload_n 0, 1) := by decide +kernel
theorem dJ6_bitCount_0f7a4_43 : decode cJ6_bitCount_0f7a4 43 = .ok (.bipush 16, 2) := by decide +kernel
theorem dJ6_bitCount_0f7a4_45 : decode cJ6_bitCount_0f7a4 45 = .ok (.iushr, 1) := by decide +kernel
theorem dJ6_bitCount_0f7a4_46 : decode cJ6_bitCount_0f7a4 46 = .ok (.iadd, 1) := by decide +kernel
theorem dJ6_bitCount_0f7a4_47 : decode cJ6_bitCount_0f7a4 47 = .ok (.istore_n 0, 1) := by decide +kernel
theorem dJ6_bitCount_0f7a4_48 : decode cJ6_bitCount_0f7a4 48 = .ok (.iload_n 0, 1) := by decide +kernel
theorem dJ6_bitCount_0f7a4_49 : decode cJ6_bitCount_0f7a4 49 = .ok (.bipush 63, 2) := by decide +kernel
theorem dJ6_bitCount_0f7a4_51 : decode cJ6_bitCount_0f7a4 51 = .ok (.iand, 1) := by decide +kernel
theorem dJ6_bitCount_0f7a4_52 : decode cJ6_bitCount_0f7a4 52 = .ok (.ireturn, 1) := by decide +kernel
theorem dJ9_floorMod_7cf53_0 : decode cJ9_floorMod_7cf53 0 = .ok (.iload_n 0, 1) := by decide +kernel
theorem dJ9_floorMod_7cf53_1 : decode cJ9_floorMod_7cf53 1 = .ok (.iload_n 1, 1) := by decide +kernel
theorem dJ9_floorMod_7cf53_2 : decode cJ9_floorMod_7cf53 2 = .ok (.irem, 1) := by decide +kernel
theorem dJ9_floorMod_7cf53_3 : decode cJ9_floorMod_7cf53 3 = .ok (.istore_n 2, 1) := by decide +kernel
theorem dJ9_floorMod_7cf53_4 : decode cJ9_floorMod_7cf53 4 = .ok (.iload_n 0, 1) := by decide +kernel
theorem dJ9_floorMod_7cf53_5 : decode cJ9_floorMod_7cf53 5 = .ok (.iload_n 1, 1) := by decide +kernel
theorem dJ9_floorMod_7cf53_6 : decode cJ9_floorMod_7cf53 6 = .ok (.ixor, 1) := by decide +kernel
theorem dJ9_floorMod_7cf53_7 : decode cJ9_floorMod_7cf53 7 = .ok (.ifCond .ge 11, 3) := by decide +kernel
theorem dJ9_floorMod_7cf53_10 : decode cJ9_floorMod_7cf53 10 = .ok (.iload_n 2, 1) := by decide +kernel
theorem dJ9_floorMod_7cf53_11 : decode cJ9_floorMod_7cf53 11 = .ok (.ifCond .eq 7, 3) := by decide +kernel
theorem dJ9_floorMod_7cf53_14 : decode cJ9_floorMod_7cf53 14 = .ok (.iload_n 2, 1) := by decide +kernel
theorem dJ9_floorMod_7cf53_15 : decode cJ9_floorMod_7cf53 15 = .ok (.iload_n 1, 1) := by decide +kernel
theorem dJ9_floorMod_7cf53_16 : decode cJ9_floorMod_7cf53 16 = .ok (.iadd, 1) := by decide +kernel
theorem dJ9_floorMod_7cf53_17 : decode cJ9_floorMod_7cf53 17 = .ok (.ireturn, 1) := by decide +kernel
theorem dJ9_floorMod_7cf53_18 : decode cJ9_floorMod_7cf53 18 = .ok (.iload_n 2, 1) := by decide +kernel
theorem dJ9_floorMod_7cf53_19 : decode cJ9_floorMod_7cf53 19 = .ok (.ireturn, 1) := by decide +kernel
theorem dJ9_abs_0f7a4_0 : decode cJ9_abs_0f7a4 0 = .ok (.iload_n 0, 1) := by decide +kernel
theorem dJ9_abs_0f7a4_1 : decode cJ9_abs_0f7a4 1 = .ok (.ifCond .ge 8, 3) := by decide +kernel
theorem dJ9_abs_0f7a4_4 : decode cJ9_abs_0f7a4 4 = .ok (.iload_n 0, 1) := by decide +kernel
theorem dJ9_abs_0f7a4_5 : decode cJ9_abs_0f7a4 5 = .ok (.ineg, 1) := by decide +kernel
theorem dJ9_abs_0f7a4_6 : decode cJ9_abs_0f7a4 6 = .ok (.goto 4, 3) := by decide +kernel
theorem dJ9_abs_0f7a4_9 : decode cJ9_abs_0f7a4 9 = .ok (.iload_n 0, 1) := by decide +kernel
theorem dJ9_abs_0f7a4_10 : decode cJ9_abs_0f7a4 10 = .ok (.ireturn, 1) := by decide +kernel
theorem dJ9_max_7cf53_0 : decode cJ9_max_7cf53 0 = .ok (.iload_n 0, 1) := by decide +kernel
theorem dJ9_max_7cf53_1 : decode cJ9_max_7cf53 1 = .ok (.iload_n 1, 1) := by decide +kernel
theorem dJ9_max_7cf53_2 : decode cJ9_max_7cf53 2 = .ok (.if_icmp .lt 7, 3) := by decide +kernel
theorem dJ9_max_7cf53_5 : decode cJ9_max_7cf53 5 = .ok (.iload_n 0, 1) := by decide +kernel
theorem dJ9_max_7cf53_6 : decode cJ9_max_7cf53 6 = .ok (.goto 4, 3) := by decide +kernel
theorem dJ9_max_7cf53_9 : decode cJ9_max_7cf53 9 = .ok (.iload_n 1, 1) := by decide +kernel
theorem dJ9_max_7cf53_10 : decode cJ9_max_7cf53 10 = .ok (.ireturn, 1) := by decide +kernel
theorem dJ9_min_7cf53_0 : decode cJ9_min_7cf53 0 = .ok (.iload_n 0, 1) := by decide +kernel
theorem dJ9_min_7cf53_1 : decode cJ9_min_7cf53 1 = .ok (.iload_n 1, 1) := by decide +kernel
theorem dJ9_min_7cf53_2 : decode cJ9_min_7cf53 2 = .ok (.if_icmp .gt 7, 3) := by decide +kernel
theorem dJ9_min_7cf53_5 : decode cJ9_min_7cf53 5 = .ok (.iload_n 0, 1) := by decide +kernel
theorem dJ9_min_7cf53_6 : decode cJ9_min_7cf53 6 = .ok (.goto 4, 3) := by decide +kernel
theorem dJ9_min_7cf53_9 : decode cJ9_min_7cf53 9 = .ok (.iload_n 1, 1) := by decide +kernel
theorem dJ9_min_7cf53_10 : decode cJ9_min_7cf53 10 = .ok (.ireturn, 1) := by decide +kernel
end
section
/-! rows of this work: calls that leave the heap, loads and stores by a number, arrays of a known class -/
section PC
variable {p : Program} {l : Launch} {e : Env} {R : Room} {s : State} {m : MethodId} {args : Array Value} {below : List Frame} {meth : Method} {c : Code} {H : Heap} {locs : List Loc} {cells slots : Nat} {Q : State → Prop}
variable {cc : ByteArray} {pc : Nat} {ls : Array Slot} {rest st0 : List Value} {D : va_G} {cl : List vw_C} {A : Nat → Prop} {a : Nat} {tys : List (ClassId × FieldType)} {ws : va_W} {H0 : Heap}
theorem pc_calli {post : Int32 → Prop} {ar : Array Value} (hr : va_Run p l e R s m args below meth c H locs cells slots 0 0 (F0 m pc ls st0) rest (vp_Si post ar) (fun _ => False)) (kk : ∀ r : Int32, post r → W p l e R s m args below meth c H locs cells slots Q (F0 m (pc + 3) ls (.int r :: rest))) : W p l e R s m args below meth c H locs cells slots Q (F0 m pc ls st0) := by
  intro T hT X
  obtain ⟨v, st₀, t, T', L, h0, X', hL, e1, e2, ⟨r, hv, hp, hh⟩, st⟩ := hr T hT X
  cases hv
  have hL0 : L = [] := List.eq_nil_iff_forall_not_mem.mpr (fun q hq => hL q hq)
  subst hL0
  rw [List.append_nil] at X'
  obtain ⟨t2, a1, b1⟩ := kk r hp T' (by rw [e1, hh, h0]) X'
  exact ⟨t2, st t2 a1, b1⟩
theorem pc_calll {post : Int64 → Prop} {ar : Array Value} (hr : va_Run p l e R s m args below meth c H locs cells slots 0 0 (F0 m pc ls st0) rest (vp_Sl post ar) (fun _ => False)) (kk : ∀ r : Int64, post r → W p l e R s m args below meth c H locs cells slots Q (F0 m (pc + 3) ls (.long r :: rest))) : W p l e R s m args below meth c H locs cells slots Q (F0 m pc ls st0) := by
  intro T hT X
  obtain ⟨v, st₀, t, T', L, h0, X', hL, e1, e2, ⟨r, hv, hp, hh⟩, st⟩ := hr T hT X
  cases hv
  have hL0 : L = [] := List.eq_nil_iff_forall_not_mem.mpr (fun q hq => hL q hq)
  subst hL0
  rw [List.append_nil] at X'
  obtain ⟨t2, a1, b1⟩ := kk r hp T' (by rw [e1, hh, h0]) X'
  exact ⟨t2, st t2 a1, b1⟩
theorem pc_top {x y : Int32} (h : x = y) (k : W p l e R s m args below meth c H locs cells slots Q (F0 m pc ls (.int y :: rest))) : W p l e R s m args below meth c H locs cells slots Q (F0 m pc ls (.int x :: rest)) := by rw [h]; exact k
theorem pc_topl {x y : Int64} (h : x = y) (k : W p l e R s m args below meth c H locs cells slots Q (F0 m pc ls (.long y :: rest))) : W p l e R s m args below meth c H locs cells slots Q (F0 m pc ls (.long x :: rest)) := by rw [h]; exact k
theorem pc_iald (hexec : p.tables.exec = Jvm.exec) (hb : c.code = cc) (hK : va_K D cl tys s) (hP : va_P D cl ws H) (q0 t0 : Nat) {cA : ClassId} {n k : Nat} {f : Nat → Int32} (ha : ws[q0]? = some (a, .inl (cA, n, .inl f))) (ht : tys[t0]? = some (cA, .int)) (hk : k < n) (hn : n < 2 ^ 31) (hdg : decode cc pc = .ok (.iaload, 1))
    (kk : W p l e R s m args below meth c H locs cells slots Q (F0 m (pc + 1) ls (.int (f k) :: rest))) : W p l e R s m args below meth c H locs cells slots Q (F0 m pc ls (.int (nI k) :: .ref a :: rest)) :=
  va_iald hexec hb hK hP q0 t0 ha ht (vp_in_nI hk hn) hdg (by rw [nI_clamp (Nat.lt_trans hk hn)]; exact kk)
theorem pc_zald (hexec : p.tables.exec = Jvm.exec) (hb : c.code = cc) (hK : va_K D cl tys s) (hP : va_P D cl ws H) (q0 t0 : Nat) {cA : ClassId} {n k : Nat} {f : Nat → Int32} (ha : ws[q0]? = some (a, .inl (cA, n, .inl f))) (ht : tys[t0]? = some (cA, .boolean)) (hk : k < n) (hn : n < 2 ^ 31) (hdg : decode cc pc = .ok (.baload, 1))
    (kk : W p l e R s m args below meth c H locs cells slots Q (F0 m (pc + 1) ls (.int (f k) :: rest))) : W p l e R s m args below meth c H locs cells slots Q (F0 m pc ls (.int (nI k) :: .ref a :: rest)) :=
  va_zald hexec hb hK hP q0 t0 ha ht (vp_in_nI hk hn) hdg (by rw [nI_clamp (Nat.lt_trans hk hn)]; exact kk)
theorem pc_aldq (hexec : p.tables.exec = Jvm.exec) (hb : c.code = cc) (hK : va_K D cl tys s) (hP : va_P D cl ws H) (q0 t0 : Nat) {cA : ClassId} {C : String} {n k v : Nat} {f : Nat → Option Nat} (ha : ws[q0]? = some (a, .inl (cA, n, .inr (.inr (.inr (.inr f)))))) (ht : tys[t0]? = some (cA, .object C)) (hk : k < n) (hn : n < 2 ^ 31) (hv : f k = some v) (hdg : decode cc pc = .ok (.aaload, 1))
    (kk : W p l e R s m args below meth c H locs cells slots Q (F0 m (pc + 1) ls (.ref v :: rest))) : W p l e R s m args below meth c H locs cells slots Q (F0 m pc ls (.int (nI k) :: .ref a :: rest)) :=
  va_aldq hexec hb hK hP q0 t0 ha ht (vp_in_nI hk hn) hdg (by rw [nI_clamp (Nat.lt_trans hk hn), hv]; exact kk)
theorem pc_iast (hexec : p.tables.exec = Jvm.exec) (hb : c.code = cc) (hK : va_K D cl tys s) (hP : va_P D cl ws H) (hD : va_D A ws) (hS : va_S A H0 H locs) (q0 t0 : Nat) {cA : ClassId} {n k : Nat} {f : Nat → Int32} (ha : ws[q0]? = some (a, .inl (cA, n, .inl f))) (ht : tys[t0]? = some (cA, .int)) {x : Int32} (hk : k < n) (hn : n < 2 ^ 31) (hdg : decode cc pc = .ok (.iastore, 1))
    (kk : ∀ (H1 : Heap) (locs1 : List Loc), va_P D cl (ws.set q0 (a, .inl (cA, n, .inl (upd f k x)))) H1 → va_D A (ws.set q0 (a, .inl (cA, n, .inl (upd f k x)))) → va_S A H0 H1 locs1 → W p l e R s m args below meth c H1 locs1 cells slots Q (F0 m (pc + 1) ls rest)) : W p l e R s m args below meth c H locs cells slots Q (F0 m pc ls (.int x :: .int (nI k) :: .ref a :: rest)) :=
  va_iast hexec hb hK hP hD hS q0 t0 ha ht (vp_in_nI hk hn) hdg (by rw [nI_clamp (Nat.lt_trans hk hn)]; exact kk)
theorem pc_zast (hexec : p.tables.exec = Jvm.exec) (hb : c.code = cc) (hK : va_K D cl tys s) (hP : va_P D cl ws H) (hD : va_D A ws) (hS : va_S A H0 H locs) (q0 t0 : Nat) {cA : ClassId} {n k : Nat} {f : Nat → Int32} (ha : ws[q0]? = some (a, .inl (cA, n, .inl f))) (ht : tys[t0]? = some (cA, .boolean)) {x : Int32} (hx : vp_nar .boolean x = x) (hk : k < n) (hn : n < 2 ^ 31) (hdg : decode cc pc = .ok (.bastore, 1))
    (kk : ∀ (H1 : Heap) (locs1 : List Loc), va_P D cl (ws.set q0 (a, .inl (cA, n, .inl (upd f k x)))) H1 → va_D A (ws.set q0 (a, .inl (cA, n, .inl (upd f k x)))) → va_S A H0 H1 locs1 → W p l e R s m args below meth c H1 locs1 cells slots Q (F0 m (pc + 1) ls rest)) : W p l e R s m args below meth c H locs cells slots Q (F0 m pc ls (.int x :: .int (nI k) :: .ref a :: rest)) :=
  va_zast hexec hb hK hP hD hS q0 t0 ha ht (vp_in_nI hk hn) hdg (by rw [nI_clamp (Nat.lt_trans hk hn), hx]; exact kk)
/-- a new array of a kind that the tables have already: its class is theirs -/
theorem pc_newa (hexec : p.tables.exec = Jvm.exec) (hb : c.code = cc) {atype : ArrayType} (harr : (Cond.arrayClass (newarray.typeOf atype)).before args s = true) {ty : FieldType} (hty : newarray.typeOf atype = ty) (hK : va_K D cl tys s) (hP : va_P D cl ws H) (hD : va_D A ws) (hS : va_S A H0 H locs) (hA : ∀ q, H0.size ≤ q → A q) (t0 : Nat) {c0 : ClassId} (ht : tys[t0]? = some (c0, ty))
    {n : Int32} {N' : Nat} {a0 : vp_A} (ha : ∀ cA : ClassId, vp_cell cA a0 = arrV cA N' (fun _ => defaultValue ty)) (hn : ¬ n < 0) (hN : n.toNatClampNeg = N') (hbytes : N' * componentBytes ty ≤ 536870912) (hcells : cells + 1 ≤ R.cells) (hslots : slots + N' ≤ R.slots) (hdg : decode cc pc = .ok (.newarray atype, 2))
    (kk : ∀ (q : Nat) (H1 : Heap), va_P D cl (ws ++ [(q, .inl (c0, a0))]) H1 → va_D A (ws ++ [(q, .inl (c0, a0))]) → va_S A H0 H1 locs →
      W p l e R s m args below meth c H1 locs (cells + 1) (slots + N') Q (F0 m (pc + 2) ls (.ref q :: rest))) : W p l e R s m args below meth c H locs cells slots Q (F0 m pc ls (.int n :: rest)) := by
  refine va_newa hexec hb harr hty hK hP hD hS hA ha hn hN hbytes hcells hslots hdg (fun q cA H1 hK1 hP1 hD1 hS1 => ?_)
  have h1 : va_RA s cA ty := (hK1.2 tys.length (cA, ty) (by rw [List.getElem?_append_right (Nat.le_refl _), Nat.sub_self]; rfl)).2
  have h2 : va_RA s c0 ty := (hK.2 t0 _ ht).2
  have he : cA = c0 := by
    cases atype <;> (subst hty; exact Option.some.inj (h1.symm.trans h2))
  subst he
  exact kk q H1 hP1 hD1 hS1
end PC
theorem pc_keep {D : va_G} {cl : List vw_C} {ws : va_W} {H H1 : Heap} (h : va_P D cl ws H) (hk : ∀ q : Nat, q < H.size → ¬ False → H1[q]? = H[q]?) : va_P D cl ws H1 := h.kept (fun k q hq => hk q.1 (h k q hq).lt id)
theorem cell_congr {cA : ClassId} {n : Nat} {f g : Nat → Int32} (h : ∀ j, j < n → f j = g j) : vp_cell cA (n, .inl f) = vp_cell cA (n, .inl g) := by
  rw [vp_cell_i, vp_cell_i]
  unfold arrV
  congr 1
  exact congrArg Array.ofFn (funext fun j => congrArg Value.int (h j.val j.isLt))
theorem va_D_addr {A : Nat → Prop} {ws ws' : va_W} (h : va_D A ws) (e : ws.map (fun x => x.1) = ws'.map (fun x => x.1)) : va_D A ws' := by
  have key : ∀ (k : Nat) (q : Nat × va_E), ws'[k]? = some q → ∃ p, ws[k]? = some p ∧ p.1 = q.1 := by
    intro k q hk
    have h1 : (ws.map (fun x => x.1))[k]? = some q.1 := by rw [e, List.getElem?_map, hk]; rfl
    rw [List.getElem?_map] at h1
    cases hw : ws[k]? with
    | none => rw [hw] at h1; cases h1
    | some p => rw [hw] at h1; exact ⟨p, rfl, Option.some.inj h1⟩
  refine ⟨fun i j x y hi hj hxy => ?_, fun k q hk => ?_⟩
  · obtain ⟨x0, h1, h2⟩ := key i x hi
    obtain ⟨y0, h3, h4⟩ := key j y hj
    exact h.1 i j x0 y0 h1 h3 (h2.trans (hxy.trans h4.symm))
  · obtain ⟨q0, h1, h2⟩ := key k q hk
    rw [← h2]
    exact h.2 k q0 h1
/-- one int row of a world said by another function that agrees within -/
theorem va_P_row {D : va_G} {cl : List vw_C} {ws : va_W} {H : Heap} (h : va_P D cl ws H) (p : Nat) {a n : Nat} {cA : ClassId} {f g : Nat → Int32} (hp : ws[p]? = some (a, .inl (cA, n, .inl f))) (e : ∀ j, j < n → f j = g j) : va_P D cl (ws.set p (a, .inl (cA, n, .inl g))) H := by
  have hl := (List.getElem?_eq_some_iff.mp hp).1
  intro k q hk
  by_cases hkp : k = p
  · subst hkp
    rw [List.getElem?_set_self hl] at hk
    cases hk
    show H[a]? = some (vp_cell cA (n, .inl g))
    rw [← cell_congr e]
    exact h _ _ hp
  · rw [List.getElem?_set_ne (Ne.symm hkp)] at hk
    exact h k q hk
theorem upd_id {f : Nat → Int32} {k : Nat} : upd f k (f k) = f := by
  funext j
  by_cases h : j = k
  · subst h; exact pk_us
  · exact pk_un h
theorem nx_xor (a b : Nat) : nI a ^^^ nI b = nI (a ^^^ b) := by
  apply Int32.toBitVec_inj.1
  show BitVec.ofNat 32 a ^^^ BitVec.ofNat 32 b = BitVec.ofNat 32 (a ^^^ b)
  apply BitVec.eq_of_getLsbD_eq
  intro i hi
  simp [BitVec.getLsbD_ofNat, hi]
theorem nI_xor12 {a : Nat} (h : a < 2147483648) : ¬ ¬ (0 ≤ nI a ^^^ 12) := by
  have e : nI a ^^^ 12 = nI (a ^^^ 12) := nx_xor a 12
  rw [e]
  have h2 : a ^^^ 12 < 2 ^ 31 := Nat.xor_lt_two_pow h (by decide)
  exact fun z => z (nI_pos' h2)
theorem nI_le_iff {a b : Nat} (ha : a < 2147483648) (hb : b < 2147483648) : nI a ≤ nI b ↔ a ≤ b := nI_leI ha hb
theorem nI_lt_iff {a b : Nat} (ha : a < 2147483648) (hb : b < 2147483648) : nI a < nI b ↔ a < b := nI_ltI ha hb
/-! the numbers: a harp is (base, wedge, drift, strain, breaks, whole, swelling, hour) -/
abbrev HS : Type := (Nat → Int32) × (Nat → Int32) × (Nat → Int32) × (Nat → Int32) × (Nat → Int32) × (Nat → Int32) × Int32 × Nat
abbrev zb (h : HS) : Nat → Int32 := h.1
abbrev zw (h : HS) : Nat → Int32 := h.2.1
abbrev zd (h : HS) : Nat → Int32 := h.2.2.1
abbrev zs (h : HS) : Nat → Int32 := h.2.2.2.1
abbrev zr (h : HS) : Nat → Int32 := h.2.2.2.2.1
abbrev zo (h : HS) : Nat → Int32 := h.2.2.2.2.2.1
abbrev zl (h : HS) : Int32 := h.2.2.2.2.2.2.1
abbrev zh (h : HS) : Nat := h.2.2.2.2.2.2.2
/-- the array classes that every world knows: int, boolean, Chord, long -/
abbrev TY (cy : Nat → ClassId) : List (ClassId × FieldType) := [(cy 0, .int), (cy 1, .boolean), (cy 2, .object RX0), (cy 3, .long)]
/-- a Harp in the heap: the object, its six rows -/
abbrev wH (cy : Nat → ClassId) (q : Nat → Nat) (h : HS) : va_W := [(q 0, .inr (1, [.ref (q 1), .ref (q 2), .ref (q 3), .ref (q 4), .ref (q 5), .ref (q 6), .int (zl h), .int (nI (zh h))])), (q 1, .inl (cy 0, 12, .inl (zb h))), (q 2, .inl (cy 0, 12, .inl (zw h))), (q 3, .inl (cy 0, 12, .inl (zd h))), (q 4, .inl (cy 0, 12, .inl (zs h))), (q 5, .inl (cy 0, 12, .inl (zr h))), (q 6, .inl (cy 1, 12, .inl (zo h)))]
/-- a Chord in the heap: the object and its row -/
abbrev wC (cy : Nat → ClassId) (ca ta : Nat) (lo sz : Nat) (tn : Nat → Int32) : va_W := [(ca, .inr (0, [.ref ta, .int (nI lo), .int (nI sz)])), (ta, .inl (cy 0, 4, .inl tn))]
def mx (x y : Int32) : Int32 := if x < y then y else x
def mn (x y : Int32) : Int32 := if y < x then y else x
def ab (x : Int32) : Int32 := if 0 ≤ x then x else 0 - x
def bI (b : Bool) : Int32 := if b then 1 else 0
theorem bI_nar (b : Bool) : narrow .boolean (.int (bI b)) = .int (bI b) := by cases b <;> rfl
theorem bI_0 {b : Bool} : bI b = 0 ↔ b = false := by cases b <;> simp [bI]
theorem bI_1 {b : Bool} : ¬ bI b = 0 ↔ b = true := by cases b <;> simp [bI]
/-- the tone of a string -/
def tone (h : HS) (k : Nat) : Int32 := if zo h k = 0 then 0 else zb h k + 10 * zw h k + 3 * ((if 0 < k then zw h (k - 1) else 0) + (if k < 11 then zw h (k + 1) else 0)) + zd h k - zl h
def sumN (f : Nat → Int32) : Nat → Int32
  | 0 => 0
  | n + 1 => sumN f n + f n
def allN (f : Nat → Bool) : Nat → Bool
  | 0 => true
  | n + 1 => allN f n && f n
theorem allN_f {f : Nat → Bool} {j n : Nat} (hj : j < n) (h : f j = false) : allN f n = false := by
  induction n with
  | zero => omega
  | succ n ih =>
    rcases Nat.lt_succ_iff_lt_or_eq.mp hj with h1 | h1
    · simp [allN, ih h1]
    · subst h1; simp [allN, h]
/-- how many of f, f + 1 .. (n of them) are so -/
def cnt (p : Nat → Bool) (f : Nat) : Nat → Nat
  | 0 => 0
  | n + 1 => cnt p f n + (if p (f + n) then 1 else 0)
theorem cnt_le (p : Nat → Bool) (f n : Nat) : cnt p f n ≤ n := by
  induction n with
  | zero => exact Nat.le_refl _
  | succ n ih => unfold cnt; split <;> omega
/-- off: the differences from a chord's tones -/
def offBy (h : HS) (lo : Nat) (tn : Nat → Int32) (n : Nat) : Int32 := sumN (fun j => ab (tone h (lo + j) - tn j)) n
def fits1 (h : HS) (lo : Nat) (tn : Nat → Int32) (j : Nat) (own nb : Int32) : Bool := decide (¬ zo h (lo + j) = 0 ∧ ¬ 5 < ab (tone h (lo + j) + 10 * own + 3 * nb - tn j))
def tuned (h : HS) (lo sz : Nat) (tn : Nat → Int32) : Bool := allN (fun j => fits1 h lo tn j 0 0) sz
def fitsW (x : Int32) : Bool := decide (¬ x < 0 ∧ ¬ 20 < x)
def factH (h : HS) (k : Nat) (w : Nat) : Int32 := match w with
  | 0 => zb h k
  | 1 => zw h k
  | 2 => zd h k
  | 3 => zs h k
  | 4 => zo h k
  | 5 => tone h k
  | _ => zr h k
/-- an hour -/
def pull (wi : Int32) (h : HS) (k : Nat) : Int32 := mx 0 (zs h k + wi * tone h k / 1000 - 2)
def slipd (da s d : Int32) : Int32 := if s < 50 then (if da < 6 then d else mn 50 (d + 1)) else mx (-50) (d - 1)
def swell (da l : Int32) : Int32 := if da < 5 then mx 0 (l - 1) else mn 30 (l + 1)
def brk (wi : Int32) (h : HS) (k : Nat) : Bool := decide (¬ zo h k = 0 ∧ 100 < pull wi h k)
def nS (wi : Int32) (h : HS) (k : Nat) : Int32 := if zo h k = 0 then zs h k else if 100 < pull wi h k then 0 else pull wi h k
def nD (wi da : Int32) (h : HS) (k : Nat) : Int32 := if zo h k = 0 then zd h k else if 100 < pull wi h k then 0 else slipd da (pull wi h k) (zd h k)
def nR (wi : Int32) (h : HS) (k : Nat) : Int32 := if zo h k = 0 then zr h k else if 100 < pull wi h k then zr h k + 1 else zr h k
def nO (wi : Int32) (h : HS) (k : Nat) : Int32 := if zo h k = 0 then zo h k else if 100 < pull wi h k then 0 else zo h k
def part (f u : Nat) (g n : Nat → Int32) : Nat → Int32 := fun k => if f ≤ k ∧ k < u then n k else g k
/-- the strings from f up to u (left out) behind an hour of this weather, the frame as it was -/
def hPart (f u : Nat) (wi da : Int32) (h : HS) : HS := (zb h, zw h, part f u (zd h) (nD wi da h), part f u (zs h) (nS wi h), part f u (zr h) (nR wi h), part f u (zo h) (nO wi h), zl h, zh h)
def hHour (f u : Nat) (wi da : Int32) (h : HS) : HS := (zb h, zw h, part f u (zd h) (nD wi da h), part f u (zs h) (nS wi h), part f u (zr h) (nR wi h), part f u (zo h) (nO wi h), swell da (zl h), zh h + 1)
def hBrk (wi : Int32) (h : HS) (k : Nat) : HS := if 100 < pull wi h k then (zb h, zw h, upd (zd h) k 0, upd (zs h) k 0, upd (zr h) k (zr h k + 1), upd (zo h) k 0, zl h, zh h) else (zb h, zw h, zd h, upd (zs h) k (pull wi h k), zr h, zo h, zl h, zh h)
def hSlip (da : Int32) (h : HS) (k : Nat) : HS := (zb h, zw h, upd (zd h) k (slipd da (zs h k) (zd h k)), zs h, zr h, zo h, zl h, zh h)
def hSwell (da : Int32) (h : HS) : HS := (zb h, zw h, zd h, zs h, zr h, zo h, swell da (zl h), zh h)
def hTick (h : HS) : HS := (zb h, zw h, zd h, zs h, zr h, zo h, zl h, zh h + 1)
def hRenew (h : HS) (k : Nat) (b : Int32) : HS := (upd (zb h) k b, zw h, upd (zd h) k 0, upd (zs h) k 0, zr h, upd (zo h) k 1, zl h, zh h)
/-- which strings are whole, as the machine keeps it -/
def ok01 (h : HS) : Prop := ∀ k, k < 12 → zo h k = 0 ∨ zo h k = 1
theorem part_0 (f : Nat) (g n : Nat → Int32) : part f f g n = g := by
  funext k; unfold part; rw [if_neg (by omega)]
theorem part_new {f i : Nat} {g n : Nat → Int32} (hf : f ≤ i) : upd (part f i g n) i (n i) = part f (i + 1) g n := by
  funext k
  unfold part
  by_cases hk : k = i
  · subst hk; rw [pk_us, if_pos (by omega)]
  · rw [pk_un hk]
    by_cases h1 : f ≤ k ∧ k < i
    · rw [if_pos h1, if_pos (by omega)]
    · rw [if_neg h1, if_neg (by omega)]
theorem part_old {f i : Nat} {g n : Nat → Int32} (hf : f ≤ i) (hn : n i = g i) : part f i g n = part f (i + 1) g n := by
  funext k
  unfold part
  by_cases hk : k = i
  · subst hk; rw [if_neg (by omega), if_pos (by omega), hn]
  · by_cases h1 : f ≤ k ∧ k < i
    · rw [if_pos h1, if_pos (by omega)]
    · rw [if_neg h1, if_neg (by omega)]
theorem part_at {f i : Nat} {g n : Nat → Int32} : part f i g n i = g i := by unfold part; rw [if_neg (by omega)]
theorem upd_self {f : Nat → Int32} {k : Nat} {x y : Int32} : upd (upd f k x) k y = upd f k y := by
  funext j
  by_cases h : j = k
  · subst h; rw [pk_us, pk_us]
  · rw [pk_un h, pk_un h, pk_un h]
theorem tone_part {f i : Nat} {wi da : Int32} {h : HS} : tone (hPart f i wi da h) i = tone h i := by
  simp only [tone, hPart, zb, zw, zd, zs, zr, zo, zl, zh, part_at]
theorem pull_part {f i : Nat} {wi da : Int32} {h : HS} : pull wi (hPart f i wi da h) i = pull wi h i := by
  simp only [pull, tone_part]; simp only [hPart, zs, part_at]
theorem hPart_0 (f : Nat) (wi da : Int32) (h : HS) : hPart f f wi da h = h := by simp only [hPart, part_0]
theorem part_is {f i : Nat} {g n : Nat → Int32} {x : Int32} (hf : f ≤ i) (hx : n i = x) : upd (part f i g n) i x = part f (i + 1) g n := by
  rw [← hx]; exact part_new hf
theorem nar01 {x : Int32} (h : x = 0 ∨ x = 1) : vp_nar .boolean x = x := by rcases h with rfl | rfl <;> rfl
def hCp (k : Nat) (h h2 : HS) : HS := (part 0 k (zb h) (zb h2), part 0 k (zw h) (zw h2), part 0 k (zd h) (zd h2), part 0 k (zs h) (zs h2), part 0 k (zr h) (zr h2), part 0 k (zo h) (zo h2), zl h, zh h)
theorem hCp_0 (h h2 : HS) : hCp 0 h h2 = h := by simp only [hCp, part_0]
theorem hBrk_o {wi : Int32} {h : HS} {k : Nat} (hb : ¬ 100 < pull wi h k) : zo (hBrk wi h k) = zo h := by unfold hBrk; rw [if_neg hb]
/-- a broken string: nothing of it changes -/
theorem hPart_skip {f i : Nat} {wi da : Int32} {h : HS} (hf : f ≤ i) (ho : zo h i = 0) : hPart f i wi da h = hPart f (i + 1) wi da h := by
  unfold hPart
  rw [part_old (g := zd h) hf (by simp [nD, ho]), part_old (g := zs h) hf (by simp [nS, ho]), part_old (g := zr h) hf (by simp [nR, ho]), part_old (g := zo h) hf (by simp [nO, ho])]
/-- one that breaks -/
theorem hPart_brk {f i : Nat} {wi da : Int32} {h : HS} (hf : f ≤ i) (ho : ¬ zo h i = 0) (hb : 100 < pull wi h i) : hBrk wi (hPart f i wi da h) i = hPart f (i + 1) wi da h := by
  unfold hBrk
  rw [pull_part, if_pos hb]
  show (zb h, zw h, upd (part f i (zd h) (nD wi da h)) i 0, upd (part f i (zs h) (nS wi h)) i 0, upd (part f i (zr h) (nR wi h)) i (part f i (zr h) (nR wi h) i + 1), upd (part f i (zo h) (nO wi h)) i 0, zl h, zh h) = hPart f (i + 1) wi da h
  rw [part_at, part_is hf (n := nD wi da h) (by simp [nD, ho, hb]), part_is hf (n := nS wi h) (by simp [nS, ho, hb]), part_is hf (n := nR wi h) (by simp [nR, ho, hb]), part_is hf (n := nO wi h) (by simp [nO, ho, hb])]
  rfl
/-- one that holds -/
theorem hPart_slip {f i : Nat} {wi da : Int32} {h : HS} (hf : f ≤ i) (ho : ¬ zo h i = 0) (hb : ¬ 100 < pull wi h i) : hSlip da (hBrk wi (hPart f i wi da h) i) i = hPart f (i + 1) wi da h := by
  unfold hBrk
  rw [pull_part, if_neg hb]
  show (zb h, zw h, upd (part f i (zd h) (nD wi da h)) i (slipd da (upd (part f i (zs h) (nS wi h)) i (pull wi h i) i) (part f i (zd h) (nD wi da h) i)), upd (part f i (zs h) (nS wi h)) i (pull wi h i), part f i (zr h) (nR wi h), part f i (zo h) (nO wi h), zl h, zh h) = hPart f (i + 1) wi da h
  rw [part_at, pk_us, part_is hf (n := nD wi da h) (by simp [nD, ho, hb]), part_is hf (n := nS wi h) (by simp [nS, ho, hb]), part_old (g := zr h) hf (by simp [nR, ho, hb]), part_old (g := zo h) hf (by simp [nO, ho, hb])]
  rfl
theorem hHour_eq (f u : Nat) (wi da : Int32) (h : HS) : hTick (hSwell da (hPart f u wi da h)) = hHour f u wi da h := rfl
end
section
theorem inX1_toneOf_RX1 : ∀ w ∈ u_ws RX1 TX1 8, w ∈ wsX1_toneOf := by decide +kernel
theorem kX1_toneOf_0 : (.fieldLink RX1 27 "WedgeHarps$Harp" "whole" "[Z" : Cond) ∈ wsX1_toneOf := by decide +kernel
theorem kX1_toneOf_1 : (.fieldLink RX1 9 "WedgeHarps$Harp" "base" "[I" : Cond) ∈ wsX1_toneOf := by decide +kernel
theorem kX1_toneOf_2 : (.fieldLink RX1 15 "WedgeHarps$Harp" "wedge" "[I" : Cond) ∈ wsX1_toneOf := by decide +kernel
theorem kX1_toneOf_3 : (.fieldLink RX1 18 "WedgeHarps$Harp" "drift" "[I" : Cond) ∈ wsX1_toneOf := by decide +kernel
theorem kX1_toneOf_4 : (.fieldLink RX1 31 "WedgeHarps$Harp" "swelling" "I" : Cond) ∈ wsX1_toneOf := by decide +kernel
set_option maxHeartbeats 4000000 in
set_option maxRecDepth 100000 in
theorem mX1_toneOf (l : Launch) (D : va_G) (cy : Nat → ClassId) (q : Nat → Nat) (h : HS) (k : Nat) (hk : k < 12) : Met l yX1_toneOf wsX1_toneOf ({ frames := 0, cells := 0, slots := 0, locals := 0 } : Room) (va_Pc [.ref (q 0), .int (nI k)] (fun U => va_P D vwCl (wH cy q h) U.heap ∧ va_K D vwCl (TY cy) U)) (vp_Si (fun r8 => r8 = tone h k)) 0 0 (fun _ => False) := by
  refine Met.ofW (cc := cX1_toneOf) (maxL := 3) (ret := (some .int)) (by decide) rfl ?_
  intro p e s m args below meth c s₁ B hml hv
  obtain ⟨rfl, hP, hK⟩ := hv
  have hx := B.exec
  have hb := B.bytes
  have hr := B.returns
  have hts := atoms_spec (ws := wsX1_toneOf) B.pre
  have hown : s.vm.findClass RX1 = some m.cls := findClass_of_methodNamed B.named
  have hlocks := B.notSynchronized
  have hl := lv_entry ([.ref (q 0), .int (nI k)]) (n := 3) (Nat.le_of_ble_eq_true rfl)
  rw [lg_entry_eq]
  generalize (lg_sl ([.ref (q 0), .int (nI k)]) ++ List.replicate (3 - (lg_sl ([.ref (q 0), .int (nI k)])).length) Slot.unset).toArray = ls at hl ⊢
  have hl : lv_has ls 3 [(0, .ref (q 0)), (1, .int (nI k))] := hl
  refine lv_aload_n hx hb dX1_toneOf_0 rfl (lv_at hl 0 rfl) ?_
  refine va_get (D := D) (ci := 1) (v := .ref (q 6)) (C := RX1) (T := TX1) (N := 8) hx hb hts inX1_toneOf_RX1 hown hK hP 0 rfl rfl 5 (by decide) (hts _ kX1_toneOf_0) (fun _ h9 => h9) rfl dX1_toneOf_1 ?_
  refine lv_iload_n hx hb dX1_toneOf_4 rfl (lv_at hl 1 rfl) ?_
  refine pc_zald hx hb hK hP 6 1 rfl rfl (k := k) (show k < 12 by omega) (by decide) dX1_toneOf_5 ?_
  refine lv_if_ne (tgt := 11) hx hb dX1_toneOf_6 (by decide) (fun c6 => ?_) (fun c6 => ?_)
  · refine lv_iconst (v := 0) hx hb dX1_toneOf_11 (by decide) ?_
    refine lv_istore_n (lv' := [(2, .int 0), (0, .ref (q 0)), (1, .int (nI k))]) hx hb dX1_toneOf_12 rfl hl (by decide) rfl (fun ls hl => ?_)
    refine lv_iload_n hx hb dX1_toneOf_13 rfl (lv_at hl 2 rfl) ?_
    refine lv_if_le (tgt := 28) hx hb dX1_toneOf_14 (by decide) (fun c14 => ?_) (fun c14 => ?_)
    · have n14 : k ≤ 0 := (nI_leI (a := k) (b := 0) (by omega) (by omega)).mp c14
      have f14 : ¬ (0 < k) := by omega
      refine lv_iload_n hx hb dX1_toneOf_28 rfl (lv_at hl 2 rfl) ?_
      refine lv_bipush (v := 11) hx hb dX1_toneOf_29 (by decide) ?_
      refine lv_icmp_ge (tgt := 45) hx hb dX1_toneOf_31 (by decide) (fun c31 => ?_) (fun c31 => ?_)
      · have n31 : 11 ≤ k := (nI_leI (a := 11) (b := k) (by omega) (by omega)).mp c31
        have f31 : ¬ (k < 11) := by omega
        refine lv_aload_n hx hb dX1_toneOf_45 rfl (lv_at hl 1 rfl) ?_
        refine va_get (D := D) (ci := 1) (v := .ref (q 1)) (C := RX1) (T := TX1) (N := 8) hx hb hts inX1_toneOf_RX1 hown hK hP 0 rfl rfl 0 (by decide) (hts _ kX1_toneOf_1) (fun _ h9 => h9) rfl dX1_toneOf_46 ?_
        refine lv_iload_n hx hb dX1_toneOf_49 rfl (lv_at hl 2 rfl) ?_
        refine pc_iald hx hb hK hP 1 0 rfl rfl (k := k) (show k < 12 by omega) (by decide) dX1_toneOf_50 ?_
        refine lv_bipush (v := 10) hx hb dX1_toneOf_51 (by decide) ?_
        refine lv_aload_n hx hb dX1_toneOf_53 rfl (lv_at hl 1 rfl) ?_
        refine va_get (D := D) (ci := 1) (v := .ref (q 2)) (C := RX1) (T := TX1) (N := 8) hx hb hts inX1_toneOf_RX1 hown hK hP 0 rfl rfl 1 (by decide) (hts _ kX1_toneOf_2) (fun _ h9 => h9) rfl dX1_toneOf_54 ?_
        refine lv_iload_n hx hb dX1_toneOf_57 rfl (lv_at hl 2 rfl) ?_
        refine pc_iald hx hb hK hP 2 0 rfl rfl (k := k) (show k < 12 by omega) (by decide) dX1_toneOf_58 ?_
        refine lv_imul hx hb dX1_toneOf_59 ?_
        refine lv_iadd hx hb dX1_toneOf_60 ?_
        refine lv_iconst (v := 3) hx hb dX1_toneOf_61 (by decide) ?_
        refine lv_iload_n hx hb dX1_toneOf_62 rfl (lv_at hl 0 rfl) ?_
        refine lv_imul hx hb dX1_toneOf_63 ?_
        refine lv_iadd hx hb dX1_toneOf_64 ?_
        refine lv_aload_n hx hb dX1_toneOf_65 rfl (lv_at hl 1 rfl) ?_
        refine va_get (D := D) (ci := 1) (v := .ref (q 3)) (C := RX1) (T := TX1) (N := 8) hx hb hts inX1_toneOf_RX1 hown hK hP 0 rfl rfl 2 (by decide) (hts _ kX1_toneOf_3) (fun _ h9 => h9) rfl dX1_toneOf_66 ?_
        refine lv_iload_n hx hb dX1_toneOf_69 rfl (lv_at hl 2 rfl) ?_
        refine pc_iald hx hb hK hP 3 0 rfl rfl (k := k) (show k < 12 by omega) (by decide) dX1_toneOf_70 ?_
        refine lv_iadd hx hb dX1_toneOf_71 ?_
        refine lv_aload_n hx hb dX1_toneOf_72 rfl (lv_at hl 1 rfl) ?_
        refine va_get (D := D) (ci := 1) (v := .int (zl h)) (C := RX1) (T := TX1) (N := 8) hx hb hts inX1_toneOf_RX1 hown hK hP 0 rfl rfl 6 (by decide) (hts _ kX1_toneOf_4) (fun _ h9 => h9) rfl dX1_toneOf_73 ?_
        refine lv_isub hx hb dX1_toneOf_76 ?_
        exact W.iret (v := (((((zb h) k) + (10 * ((zw h) k))) + (3 * 0)) + ((zd h) k)) - (zl h)) hx hb hr (fun t ht hW => ⟨(((((zb h) k) + (10 * ((zw h) k))) + (3 * 0)) + ((zd h) k)) - (zl h), rfl, (by simp [tone, c6, f14, f31]), ht⟩) (fun q hq => absurd hq List.not_mem_nil) dX1_toneOf_77
      · have n31 : ¬ (11 ≤ k) := fun h9 => c31 ((nI_leI (a := 11) (b := k) (by omega) (by omega)).mpr h9)
        have f31 : k < 11 := by omega
        refine lv_iload_n hx hb dX1_toneOf_34 rfl (lv_at hl 0 rfl) ?_
        refine lv_aload_n hx hb dX1_toneOf_35 rfl (lv_at hl 1 rfl) ?_
        refine va_get (D := D) (ci := 1) (v := .ref (q 2)) (C := RX1) (T := TX1) (N := 8) hx hb hts inX1_toneOf_RX1 hown hK hP 0 rfl rfl 1 (by decide) (hts _ kX1_toneOf_2) (fun _ h9 => h9) rfl dX1_toneOf_36 ?_
        refine lv_iload_n hx hb dX1_toneOf_39 rfl (lv_at hl 2 rfl) ?_
        refine lv_iconst (v := 1) hx hb dX1_toneOf_40 (by decide) ?_
        refine lv_iadd hx hb dX1_toneOf_41 ?_
        refine pc_top (show (nI k) + 1 = nI (k + 1) from nI_add k 1) ?_
        refine pc_iald hx hb hK hP 2 0 rfl rfl (k := k + 1) (show k + 1 < 12 by omega) (by decide) dX1_toneOf_42 ?_
        refine lv_iadd hx hb dX1_toneOf_43 ?_
        refine lv_istore_n (lv' := [(2, .int (0 + ((zw h) (k + 1)))), (0, .ref (q 0)), (1, .int (nI k))]) hx hb dX1_toneOf_44 rfl hl (by decide) rfl (fun ls hl => ?_)
        refine lv_aload_n hx hb dX1_toneOf_45 rfl (lv_at hl 1 rfl) ?_
        refine va_get (D := D) (ci := 1) (v := .ref (q 1)) (C := RX1) (T := TX1) (N := 8) hx hb hts inX1_toneOf_RX1 hown hK hP 0 rfl rfl 0 (by decide) (hts _ kX1_toneOf_1) (fun _ h9 => h9) rfl dX1_toneOf_46 ?_
        refine lv_iload_n hx hb dX1_toneOf_49 rfl (lv_at hl 2 rfl) ?_
        refine pc_iald hx hb hK hP 1 0 rfl rfl (k := k) (show k < 12 by omega) (by decide) dX1_toneOf_50 ?_
        refine lv_bipush (v := 10) hx hb dX1_toneOf_51 (by decide) ?_
        refine lv_aload_n hx hb dX1_toneOf_53 rfl (lv_at hl 1 rfl) ?_
        refine va_get (D := D) (ci := 1) (v := .ref (q 2)) (C := RX1) (T := TX1) (N := 8) hx hb hts inX1_toneOf_RX1 hown hK hP 0 rfl rfl 1 (by decide) (hts _ kX1_toneOf_2) (fun _ h9 => h9) rfl dX1_toneOf_54 ?_
        refine lv_iload_n hx hb dX1_toneOf_57 rfl (lv_at hl 2 rfl) ?_
        refine pc_iald hx hb hK hP 2 0 rfl rfl (k := k) (show k < 12 by omega) (by decide) dX1_toneOf_58 ?_
        refine lv_imul hx hb dX1_toneOf_59 ?_
        refine lv_iadd hx hb dX1_toneOf_60 ?_
        refine lv_iconst (v := 3) hx hb dX1_toneOf_61 (by decide) ?_
        refine lv_iload_n hx hb dX1_toneOf_62 rfl (lv_at hl 0 rfl) ?_
        refine lv_imul hx hb dX1_toneOf_63 ?_
        refine lv_iadd hx hb dX1_toneOf_64 ?_
        refine lv_aload_n hx hb dX1_toneOf_65 rfl (lv_at hl 1 rfl) ?_
        refine va_get (D := D) (ci := 1) (v := .ref (q 3)) (C := RX1) (T := TX1) (N := 8) hx hb hts inX1_toneOf_RX1 hown hK hP 0 rfl rfl 2 (by decide) (hts _ kX1_toneOf_3) (fun _ h9 => h9) rfl dX1_toneOf_66 ?_
        refine lv_iload_n hx hb dX1_toneOf_69 rfl (lv_at hl 2 rfl) ?_
        refine pc_iald hx hb hK hP 3 0 rfl rfl (k := k) (show k < 12 by omega) (by decide) dX1_toneOf_70 ?_
        refine lv_iadd hx hb dX1_toneOf_71 ?_
        refine lv_aload_n hx hb dX1_toneOf_72 rfl (lv_at hl 1 rfl) ?_
        refine va_get (D := D) (ci := 1) (v := .int (zl h)) (C := RX1) (T := TX1) (N := 8) hx hb hts inX1_toneOf_RX1 hown hK hP 0 rfl rfl 6 (by decide) (hts _ kX1_toneOf_4) (fun _ h9 => h9) rfl dX1_toneOf_73 ?_
        refine lv_isub hx hb dX1_toneOf_76 ?_
        exact W.iret (v := (((((zb h) k) + (10 * ((zw h) k))) + (3 * (0 + ((zw h) (k + 1))))) + ((zd h) k)) - (zl h)) hx hb hr (fun t ht hW => ⟨(((((zb h) k) + (10 * ((zw h) k))) + (3 * (0 + ((zw h) (k + 1))))) + ((zd h) k)) - (zl h), rfl, (by simp [tone, c6, f14, f31]), ht⟩) (fun q hq => absurd hq List.not_mem_nil) dX1_toneOf_77
    · have n14 : ¬ (k ≤ 0) := fun h9 => c14 ((nI_leI (a := k) (b := 0) (by omega) (by omega)).mpr h9)
      have f14 : 0 < k := by omega
      refine lv_iload_n hx hb dX1_toneOf_17 rfl (lv_at hl 0 rfl) ?_
      refine lv_aload_n hx hb dX1_toneOf_18 rfl (lv_at hl 1 rfl) ?_
      refine va_get (D := D) (ci := 1) (v := .ref (q 2)) (C := RX1) (T := TX1) (N := 8) hx hb hts inX1_toneOf_RX1 hown hK hP 0 rfl rfl 1 (by decide) (hts _ kX1_toneOf_2) (fun _ h9 => h9) rfl dX1_toneOf_19 ?_
      refine lv_iload_n hx hb dX1_toneOf_22 rfl (lv_at hl 2 rfl) ?_
      refine lv_iconst (v := 1) hx hb dX1_toneOf_23 (by decide) ?_
      refine lv_isub hx hb dX1_toneOf_24 ?_
      refine pc_top (show (nI k) - 1 = nI (k - 1) from pk_sub (a := k) (b := 1) (by omega)) ?_
      refine pc_iald hx hb hK hP 2 0 rfl rfl (k := k - 1) (show k - 1 < 12 by omega) (by decide) dX1_toneOf_25 ?_
      refine lv_iadd hx hb dX1_toneOf_26 ?_
      refine lv_istore_n (lv' := [(2, .int (0 + ((zw h) (k - 1)))), (0, .ref (q 0)), (1, .int (nI k))]) hx hb dX1_toneOf_27 rfl hl (by decide) rfl (fun ls hl => ?_)
      refine lv_iload_n hx hb dX1_toneOf_28 rfl (lv_at hl 2 rfl) ?_
      refine lv_bipush (v := 11) hx hb dX1_toneOf_29 (by decide) ?_
      refine lv_icmp_ge (tgt := 45) hx hb dX1_toneOf_31 (by decide) (fun c31 => ?_) (fun c31 => ?_)
      · have n31 : 11 ≤ k := (nI_leI (a := 11) (b := k) (by omega) (by omega)).mp c31
        have f31 : ¬ (k < 11) := by omega
        refine lv_aload_n hx hb dX1_toneOf_45 rfl (lv_at hl 1 rfl) ?_
        refine va_get (D := D) (ci := 1) (v := .ref (q 1)) (C := RX1) (T := TX1) (N := 8) hx hb hts inX1_toneOf_RX1 hown hK hP 0 rfl rfl 0 (by decide) (hts _ kX1_toneOf_1) (fun _ h9 => h9) rfl dX1_toneOf_46 ?_
        refine lv_iload_n hx hb dX1_toneOf_49 rfl (lv_at hl 2 rfl) ?_
        refine pc_iald hx hb hK hP 1 0 rfl rfl (k := k) (show k < 12 by omega) (by decide) dX1_toneOf_50 ?_
        refine lv_bipush (v := 10) hx hb dX1_toneOf_51 (by decide) ?_
        refine lv_aload_n hx hb dX1_toneOf_53 rfl (lv_at hl 1 rfl) ?_
        refine va_get (D := D) (ci := 1) (v := .ref (q 2)) (C := RX1) (T := TX1) (N := 8) hx hb hts inX1_toneOf_RX1 hown hK hP 0 rfl rfl 1 (by decide) (hts _ kX1_toneOf_2) (fun _ h9 => h9) rfl dX1_toneOf_54 ?_
        refine lv_iload_n hx hb dX1_toneOf_57 rfl (lv_at hl 2 rfl) ?_
        refine pc_iald hx hb hK hP 2 0 rfl rfl (k := k) (show k < 12 by omega) (by decide) dX1_toneOf_58 ?_
        refine lv_imul hx hb dX1_toneOf_59 ?_
        refine lv_iadd hx hb dX1_toneOf_60 ?_
        refine lv_iconst (v := 3) hx hb dX1_toneOf_61 (by decide) ?_
        refine lv_iload_n hx hb dX1_toneOf_62 rfl (lv_at hl 0 rfl) ?_
        refine lv_imul hx hb dX1_toneOf_63 ?_
        refine lv_iadd hx hb dX1_toneOf_64 ?_
        refine lv_aload_n hx hb dX1_toneOf_65 rfl (lv_at hl 1 rfl) ?_
        refine va_get (D := D) (ci := 1) (v := .ref (q 3)) (C := RX1) (T := TX1) (N := 8) hx hb hts inX1_toneOf_RX1 hown hK hP 0 rfl rfl 2 (by decide) (hts _ kX1_toneOf_3) (fun _ h9 => h9) rfl dX1_toneOf_66 ?_
        refine lv_iload_n hx hb dX1_toneOf_69 rfl (lv_at hl 2 rfl) ?_
        refine pc_iald hx hb hK hP 3 0 rfl rfl (k := k) (show k < 12 by omega) (by decide) dX1_toneOf_70 ?_
        refine lv_iadd hx hb dX1_toneOf_71 ?_
        refine lv_aload_n hx hb dX1_toneOf_72 rfl (lv_at hl 1 rfl) ?_
        refine va_get (D := D) (ci := 1) (v := .int (zl h)) (C := RX1) (T := TX1) (N := 8) hx hb hts inX1_toneOf_RX1 hown hK hP 0 rfl rfl 6 (by decide) (hts _ kX1_toneOf_4) (fun _ h9 => h9) rfl dX1_toneOf_73 ?_
        refine lv_isub hx hb dX1_toneOf_76 ?_
        exact W.iret (v := (((((zb h) k) + (10 * ((zw h) k))) + (3 * (0 + ((zw h) (k - 1))))) + ((zd h) k)) - (zl h)) hx hb hr (fun t ht hW => ⟨(((((zb h) k) + (10 * ((zw h) k))) + (3 * (0 + ((zw h) (k - 1))))) + ((zd h) k)) - (zl h), rfl, (by simp [tone, c6, f14, f31]), ht⟩) (fun q hq => absurd hq List.not_mem_nil) dX1_toneOf_77
      · have n31 : ¬ (11 ≤ k) := fun h9 => c31 ((nI_leI (a := 11) (b := k) (by omega) (by omega)).mpr h9)
        have f31 : k < 11 := by omega
        refine lv_iload_n hx hb dX1_toneOf_34 rfl (lv_at hl 0 rfl) ?_
        refine lv_aload_n hx hb dX1_toneOf_35 rfl (lv_at hl 1 rfl) ?_
        refine va_get (D := D) (ci := 1) (v := .ref (q 2)) (C := RX1) (T := TX1) (N := 8) hx hb hts inX1_toneOf_RX1 hown hK hP 0 rfl rfl 1 (by decide) (hts _ kX1_toneOf_2) (fun _ h9 => h9) rfl dX1_toneOf_36 ?_
        refine lv_iload_n hx hb dX1_toneOf_39 rfl (lv_at hl 2 rfl) ?_
        refine lv_iconst (v := 1) hx hb dX1_toneOf_40 (by decide) ?_
        refine lv_iadd hx hb dX1_toneOf_41 ?_
        refine pc_top (show (nI k) + 1 = nI (k + 1) from nI_add k 1) ?_
        refine pc_iald hx hb hK hP 2 0 rfl rfl (k := k + 1) (show k + 1 < 12 by omega) (by decide) dX1_toneOf_42 ?_
        refine lv_iadd hx hb dX1_toneOf_43 ?_
        refine lv_istore_n (lv' := [(2, .int ((0 + ((zw h) (k - 1))) + ((zw h) (k + 1)))), (0, .ref (q 0)), (1, .int (nI k))]) hx hb dX1_toneOf_44 rfl hl (by decide) rfl (fun ls hl => ?_)
        refine lv_aload_n hx hb dX1_toneOf_45 rfl (lv_at hl 1 rfl) ?_
        refine va_get (D := D) (ci := 1) (v := .ref (q 1)) (C := RX1) (T := TX1) (N := 8) hx hb hts inX1_toneOf_RX1 hown hK hP 0 rfl rfl 0 (by decide) (hts _ kX1_toneOf_1) (fun _ h9 => h9) rfl dX1_toneOf_46 ?_
        refine lv_iload_n hx hb dX1_toneOf_49 rfl (lv_at hl 2 rfl) ?_
        refine pc_iald hx hb hK hP 1 0 rfl rfl (k := k) (show k < 12 by omega) (by decide) dX1_toneOf_50 ?_
        refine lv_bipush (v := 10) hx hb dX1_toneOf_51 (by decide) ?_
        refine lv_aload_n hx hb dX1_toneOf_53 rfl (lv_at hl 1 rfl) ?_
        refine va_get (D := D) (ci := 1) (v := .ref (q 2)) (C := RX1) (T := TX1) (N := 8) hx hb hts inX1_toneOf_RX1 hown hK hP 0 rfl rfl 1 (by decide) (hts _ kX1_toneOf_2) (fun _ h9 => h9) rfl dX1_toneOf_54 ?_
        refine lv_iload_n hx hb dX1_toneOf_57 rfl (lv_at hl 2 rfl) ?_
        refine pc_iald hx hb hK hP 2 0 rfl rfl (k := k) (show k < 12 by omega) (by decide) dX1_toneOf_58 ?_
        refine lv_imul hx hb dX1_toneOf_59 ?_
        refine lv_iadd hx hb dX1_toneOf_60 ?_
        refine lv_iconst (v := 3) hx hb dX1_toneOf_61 (by decide) ?_
        refine lv_iload_n hx hb dX1_toneOf_62 rfl (lv_at hl 0 rfl) ?_
        refine lv_imul hx hb dX1_toneOf_63 ?_
        refine lv_iadd hx hb dX1_toneOf_64 ?_
        refine lv_aload_n hx hb dX1_toneOf_65 rfl (lv_at hl 1 rfl) ?_
        refine va_get (D := D) (ci := 1) (v := .ref (q 3)) (C := RX1) (T := TX1) (N := 8) hx hb hts inX1_toneOf_RX1 hown hK hP 0 rfl rfl 2 (by decide) (hts _ kX1_toneOf_3) (fun _ h9 => h9) rfl dX1_toneOf_66 ?_
        refine lv_iload_n hx hb dX1_toneOf_69 rfl (lv_at hl 2 rfl) ?_
        refine pc_iald hx hb hK hP 3 0 rfl rfl (k := k) (show k < 12 by omega) (by decide) dX1_toneOf_70 ?_
        refine lv_iadd hx hb dX1_toneOf_71 ?_
        refine lv_aload_n hx hb dX1_toneOf_72 rfl (lv_at hl 1 rfl) ?_
        refine va_get (D := D) (ci := 1) (v := .int (zl h)) (C := RX1) (T := TX1) (N := 8) hx hb hts inX1_toneOf_RX1 hown hK hP 0 rfl rfl 6 (by decide) (hts _ kX1_toneOf_4) (fun _ h9 => h9) rfl dX1_toneOf_73 ?_
        refine lv_isub hx hb dX1_toneOf_76 ?_
        exact W.iret (v := (((((zb h) k) + (10 * ((zw h) k))) + (3 * ((0 + ((zw h) (k - 1))) + ((zw h) (k + 1))))) + ((zd h) k)) - (zl h)) hx hb hr (fun t ht hW => ⟨(((((zb h) k) + (10 * ((zw h) k))) + (3 * ((0 + ((zw h) (k - 1))) + ((zw h) (k + 1))))) + ((zd h) k)) - (zl h), rfl, (by simp [tone, c6, f14, f31]), ht⟩) (fun q hq => absurd hq List.not_mem_nil) dX1_toneOf_77
  · refine lv_iconst (v := 0) hx hb dX1_toneOf_9 (by decide) ?_
    exact W.iret (v := 0) hx hb hr (fun t ht hW => ⟨0, rfl, (by simp [tone, c6]), ht⟩) (fun q hq => absurd hq List.not_mem_nil) dX1_toneOf_10

theorem inX1_takesPush_RX1 : ∀ w ∈ u_ws RX1 TX1 8, w ∈ wsX1_takesPush := by decide +kernel
theorem kX1_takesPush_0 : (.fieldLink RX1 15 "WedgeHarps$Harp" "wedge" "[I" : Cond) ∈ wsX1_takesPush := by decide +kernel
set_option maxHeartbeats 4000000 in
set_option maxRecDepth 100000 in
theorem mX1_takesPush (l : Launch) (D : va_G) (cy : Nat → ClassId) (q : Nat → Nat) (h : HS) (k : Nat) (hk : k < 12) (x : Int32) : Met l yX1_takesPush wsX1_takesPush ({ frames := 0, cells := 0, slots := 0, locals := 0 } : Room) (va_Pc [.ref (q 0), .int (nI k), .int x] (fun U => va_P D vwCl (wH cy q h) U.heap ∧ va_K D vwCl (TY cy) U)) (vp_Si (fun r8 => r8 = bI (fitsW (zw h k + x)))) 0 0 (fun _ => False) := by
  refine Met.ofW (cc := cX1_takesPush) (maxL := 4) (ret := (some .boolean)) (by decide) rfl ?_
  intro p e s m args below meth c s₁ B hml hv
  obtain ⟨rfl, hP, hK⟩ := hv
  have hx := B.exec
  have hb := B.bytes
  have hr := B.returns
  have hts := atoms_spec (ws := wsX1_takesPush) B.pre
  have hown : s.vm.findClass RX1 = some m.cls := findClass_of_methodNamed B.named
  have hlocks := B.notSynchronized
  have hl := lv_entry ([.ref (q 0), .int (nI k), .int x]) (n := 4) (Nat.le_of_ble_eq_true rfl)
  rw [lg_entry_eq]
  generalize (lg_sl ([.ref (q 0), .int (nI k), .int x]) ++ List.replicate (4 - (lg_sl ([.ref (q 0), .int (nI k), .int x])).length) Slot.unset).toArray = ls at hl ⊢
  have hl : lv_has ls 4 [(0, .ref (q 0)), (1, .int (nI k)), (2, .int x)] := hl
  refine lv_aload_n hx hb dX1_takesPush_0 rfl (lv_at hl 0 rfl) ?_
  refine va_get (D := D) (ci := 1) (v := .ref (q 2)) (C := RX1) (T := TX1) (N := 8) hx hb hts inX1_takesPush_RX1 hown hK hP 0 rfl rfl 1 (by decide) (hts _ kX1_takesPush_0) (fun _ h9 => h9) rfl dX1_takesPush_1 ?_
  refine lv_iload_n hx hb dX1_takesPush_4 rfl (lv_at hl 1 rfl) ?_
  refine pc_iald hx hb hK hP 2 0 rfl rfl (k := k) (show k < 12 by omega) (by decide) dX1_takesPush_5 ?_
  refine lv_iload_n hx hb dX1_takesPush_6 rfl (lv_at hl 2 rfl) ?_
  refine lv_iadd hx hb dX1_takesPush_7 ?_
  refine lv_istore_n (lv' := [(3, .int (((zw h) k) + x)), (0, .ref (q 0)), (1, .int (nI k)), (2, .int x)]) hx hb dX1_takesPush_8 rfl hl (by decide) rfl (fun ls hl => ?_)
  refine lv_iload_n hx hb dX1_takesPush_9 rfl (lv_at hl 0 rfl) ?_
  refine lv_if_lt (tgt := 23) hx hb dX1_takesPush_10 (by decide) (fun c10 => ?_) (fun c10 => ?_)
  · refine lv_iconst (v := 0) hx hb dX1_takesPush_23 (by decide) ?_
    exact W.zret (v := 0) hx hb hr (by decide) (fun t ht hW => ⟨0, rfl, (by simp [bI, fitsW, c10]), ht⟩) (fun q hq => absurd hq List.not_mem_nil) dX1_takesPush_24
  · refine lv_iload_n hx hb dX1_takesPush_13 rfl (lv_at hl 0 rfl) ?_
    refine lv_bipush (v := 20) hx hb dX1_takesPush_14 (by decide) ?_
    refine lv_icmp_gt (tgt := 23) hx hb dX1_takesPush_16 (by decide) (fun c16 => ?_) (fun c16 => ?_)
    · refine lv_iconst (v := 0) hx hb dX1_takesPush_23 (by decide) ?_
      exact W.zret (v := 0) hx hb hr (by decide) (fun t ht hW => ⟨0, rfl, (by simp [bI, fitsW, c10, c16]), ht⟩) (fun q hq => absurd hq List.not_mem_nil) dX1_takesPush_24
    · refine lv_iconst (v := 1) hx hb dX1_takesPush_19 (by decide) ?_
      refine lv_goto (tgt := 24) hx hb dX1_takesPush_20 (by decide) ?_
      exact W.zret (v := 1) hx hb hr (by decide) (fun t ht hW => ⟨1, rfl, (by simp [bI, fitsW, c10, c16]), ht⟩) (fun q hq => absurd hq List.not_mem_nil) dX1_takesPush_24

theorem inX1_factOf_RX1 : ∀ w ∈ u_ws RX1 TX1 8, w ∈ wsX1_factOf := by decide +kernel
theorem kX1_factOf_0 : (.fieldLink RX1 9 "WedgeHarps$Harp" "base" "[I" : Cond) ∈ wsX1_factOf := by decide +kernel
theorem kX1_factOf_1 : (.fieldLink RX1 15 "WedgeHarps$Harp" "wedge" "[I" : Cond) ∈ wsX1_factOf := by decide +kernel
theorem kX1_factOf_2 : (.fieldLink RX1 18 "WedgeHarps$Harp" "drift" "[I" : Cond) ∈ wsX1_factOf := by decide +kernel
theorem kX1_factOf_3 : (.fieldLink RX1 21 "WedgeHarps$Harp" "strain" "[I" : Cond) ∈ wsX1_factOf := by decide +kernel
theorem kX1_factOf_4 : (.fieldLink RX1 27 "WedgeHarps$Harp" "whole" "[Z" : Cond) ∈ wsX1_factOf := by decide +kernel
theorem kX1_factOf_5 : (.fieldLink RX1 24 "WedgeHarps$Harp" "breaks" "[I" : Cond) ∈ wsX1_factOf := by decide +kernel
set_option maxHeartbeats 4000000 in
set_option maxRecDepth 100000 in
theorem mX1_factOf (l : Launch) (D : va_G) (cy : Nat → ClassId) (q : Nat → Nat) (h : HS) (k : Nat) (hk : k < 12) (w : Nat) (hw : w < 7) (ho : ok01 h) : Met l yX1_factOf wsX1_factOf ({ frames := 1, cells := 0, slots := 0, locals := 22 } : Room) (va_Pc [.ref (q 0), .int (nI k), .int (nI w)] (fun U => va_P D vwCl (wH cy q h) U.heap ∧ va_K D vwCl (TY cy) U)) (vp_Si (fun r8 => r8 = factH h k w)) 0 0 (fun _ => False) := by
  refine Met.ofW (cc := cX1_factOf) (maxL := 3) (ret := (some .int)) (by decide) rfl ?_
  intro p e s m args below meth c s₁ B hml hv
  obtain ⟨rfl, hP, hK⟩ := hv
  have hx := B.exec
  have hb := B.bytes
  have hr := B.returns
  have hts := atoms_spec (ws := wsX1_factOf) B.pre
  have hown : s.vm.findClass RX1 = some m.cls := findClass_of_methodNamed B.named
  have hlocks := B.notSynchronized
  have hl := lv_entry ([.ref (q 0), .int (nI k), .int (nI w)]) (n := 3) (Nat.le_of_ble_eq_true rfl)
  rw [lg_entry_eq]
  generalize (lg_sl ([.ref (q 0), .int (nI k), .int (nI w)]) ++ List.replicate (3 - (lg_sl ([.ref (q 0), .int (nI k), .int (nI w)])).length) Slot.unset).toArray = ls at hl ⊢
  have hl : lv_has ls 3 [(0, .ref (q 0)), (1, .int (nI k)), (2, .int (nI w))] := hl
  refine lv_iload_n hx hb dX1_factOf_0 rfl (lv_at hl 2 rfl) ?_
  rcases (show w = 0 ∨ w = 1 ∨ w = 2 ∨ w = 3 ∨ w = 4 ∨ w = 5 ∨ w = 6 by omega) with rfl | rfl | rfl | rfl | rfl | rfl | rfl
  ·
    refine lv_tableIn (off := 39) (tgt := 40) hx hb dX1_factOf_1 (by decide) (by decide) rfl (by decide) ?_
    refine lv_aload_n hx hb dX1_factOf_40 rfl (lv_at hl 0 rfl) ?_
    refine va_get (D := D) (ci := 1) (v := .ref (q 1)) (C := RX1) (T := TX1) (N := 8) hx hb hts inX1_factOf_RX1 hown hK hP 0 rfl rfl 0 (by decide) (hts _ kX1_factOf_0) (fun _ h9 => h9) rfl dX1_factOf_41 ?_
    refine lv_iload_n hx hb dX1_factOf_44 rfl (lv_at hl 1 rfl) ?_
    refine pc_iald hx hb hK hP 1 0 rfl rfl (k := k) (show k < 12 by omega) (by decide) dX1_factOf_45 ?_
    exact W.iret (v := (zb h) k) hx hb hr (fun t ht hW => ⟨(zb h) k, rfl, rfl, ht⟩) (fun q hq => absurd hq List.not_mem_nil) dX1_factOf_46
  ·
    refine lv_tableIn (off := 46) (tgt := 47) hx hb dX1_factOf_1 (by decide) (by decide) rfl (by decide) ?_
    refine lv_aload_n hx hb dX1_factOf_47 rfl (lv_at hl 0 rfl) ?_
    refine va_get (D := D) (ci := 1) (v := .ref (q 2)) (C := RX1) (T := TX1) (N := 8) hx hb hts inX1_factOf_RX1 hown hK hP 0 rfl rfl 1 (by decide) (hts _ kX1_factOf_1) (fun _ h9 => h9) rfl dX1_factOf_48 ?_
    refine lv_iload_n hx hb dX1_factOf_51 rfl (lv_at hl 1 rfl) ?_
    refine pc_iald hx hb hK hP 2 0 rfl rfl (k := k) (show k < 12 by omega) (by decide) dX1_factOf_52 ?_
    exact W.iret (v := (zw h) k) hx hb hr (fun t ht hW => ⟨(zw h) k, rfl, rfl, ht⟩) (fun q hq => absurd hq List.not_mem_nil) dX1_factOf_53
  ·
    refine lv_tableIn (off := 53) (tgt := 54) hx hb dX1_factOf_1 (by decide) (by decide) rfl (by decide) ?_
    refine lv_aload_n hx hb dX1_factOf_54 rfl (lv_at hl 0 rfl) ?_
    refine va_get (D := D) (ci := 1) (v := .ref (q 3)) (C := RX1) (T := TX1) (N := 8) hx hb hts inX1_factOf_RX1 hown hK hP 0 rfl rfl 2 (by decide) (hts _ kX1_factOf_2) (fun _ h9 => h9) rfl dX1_factOf_55 ?_
    refine lv_iload_n hx hb dX1_factOf_58 rfl (lv_at hl 1 rfl) ?_
    refine pc_iald hx hb hK hP 3 0 rfl rfl (k := k) (show k < 12 by omega) (by decide) dX1_factOf_59 ?_
    exact W.iret (v := (zd h) k) hx hb hr (fun t ht hW => ⟨(zd h) k, rfl, rfl, ht⟩) (fun q hq => absurd hq List.not_mem_nil) dX1_factOf_60
  ·
    refine lv_tableIn (off := 60) (tgt := 61) hx hb dX1_factOf_1 (by decide) (by decide) rfl (by decide) ?_
    refine lv_aload_n hx hb dX1_factOf_61 rfl (lv_at hl 0 rfl) ?_
    refine va_get (D := D) (ci := 1) (v := .ref (q 4)) (C := RX1) (T := TX1) (N := 8) hx hb hts inX1_factOf_RX1 hown hK hP 0 rfl rfl 3 (by decide) (hts _ kX1_factOf_3) (fun _ h9 => h9) rfl dX1_factOf_62 ?_
    refine lv_iload_n hx hb dX1_factOf_65 rfl (lv_at hl 1 rfl) ?_
    refine pc_iald hx hb hK hP 4 0 rfl rfl (k := k) (show k < 12 by omega) (by decide) dX1_factOf_66 ?_
    exact W.iret (v := (zs h) k) hx hb hr (fun t ht hW => ⟨(zs h) k, rfl, rfl, ht⟩) (fun q hq => absurd hq List.not_mem_nil) dX1_factOf_67
  ·
    refine lv_tableIn (off := 67) (tgt := 68) hx hb dX1_factOf_1 (by decide) (by decide) rfl (by decide) ?_
    refine lv_aload_n hx hb dX1_factOf_68 rfl (lv_at hl 0 rfl) ?_
    refine va_get (D := D) (ci := 1) (v := .ref (q 6)) (C := RX1) (T := TX1) (N := 8) hx hb hts inX1_factOf_RX1 hown hK hP 0 rfl rfl 5 (by decide) (hts _ kX1_factOf_4) (fun _ h9 => h9) rfl dX1_factOf_69 ?_
    refine lv_iload_n hx hb dX1_factOf_72 rfl (lv_at hl 1 rfl) ?_
    refine pc_zald hx hb hK hP 6 1 rfl rfl (k := k) (show k < 12 by omega) (by decide) dX1_factOf_73 ?_
    refine lv_if_eq (tgt := 81) hx hb dX1_factOf_74 (by decide) (fun c74 => ?_) (fun c74 => ?_)
    · have o74 := ho k hk
      refine lv_iconst (v := 0) hx hb dX1_factOf_81 (by decide) ?_
      exact W.iret (v := 0) hx hb hr (fun t ht hW => ⟨0, rfl, (by rcases o74 with o | o <;> simp_all [factH]), ht⟩) (fun q hq => absurd hq List.not_mem_nil) dX1_factOf_82
    · have o74 := ho k hk
      refine lv_iconst (v := 1) hx hb dX1_factOf_77 (by decide) ?_
      refine lv_goto (tgt := 82) hx hb dX1_factOf_78 (by decide) ?_
      exact W.iret (v := 1) hx hb hr (fun t ht hW => ⟨1, rfl, (by rcases o74 with o | o <;> simp_all [factH]), ht⟩) (fun q hq => absurd hq List.not_mem_nil) dX1_factOf_82
  ·
    refine lv_tableIn (off := 82) (tgt := 83) hx hb dX1_factOf_1 (by decide) (by decide) rfl (by decide) ?_
    refine lv_aload_n hx hb dX1_factOf_83 rfl (lv_at hl 0 rfl) ?_
    refine lv_iload_n hx hb dX1_factOf_84 rfl (lv_at hl 1 rfl) ?_
    refine pc_calli (va_runV (As := [.int (nI k)]) (rest := []) ⟨hx, hb, hml, hown, hts⟩ (mX1_toneOf l D cy q h k hk) (cwV 1 hts gX1_factOf_X1_toneOf rfl rfl rfl (by decide +kernel) ⟨Nat.le_of_ble_eq_true rfl, Nat.le_of_ble_eq_true rfl⟩) ⟨fun a U g mk q => ⟨q.1, q.2.1, va_K.moved (u := U) (U := U.calling g mk a) (Vm.Alike.refl U.vm) q.2.2⟩, va_recv hK hP (ci := 1) (q0 := 0) rfl rfl, fun U hU hW => ⟨rfl, by rw [hU]; exact hP, va_K.moved hW.alike hK⟩⟩ rfl rfl hl.1 rfl (lv_room (Nat.le_of_ble_eq_true rfl)) dX1_factOf_85 ⟨Nat.zero_le _, Nat.zero_le _⟩) (fun r9 hr9 => ?_)
    subst hr9
    exact W.iret (v := tone h k) hx hb hr (fun t ht hW => ⟨tone h k, rfl, rfl, ht⟩) (fun q hq => absurd hq List.not_mem_nil) dX1_factOf_88
  ·
    refine lv_tableOut (tgt := 89) hx hb dX1_factOf_1 (by first | exact Or.inl (by decide) | exact Or.inr (by decide)) (by decide) ?_
    refine lv_aload_n hx hb dX1_factOf_89 rfl (lv_at hl 0 rfl) ?_
    refine va_get (D := D) (ci := 1) (v := .ref (q 5)) (C := RX1) (T := TX1) (N := 8) hx hb hts inX1_factOf_RX1 hown hK hP 0 rfl rfl 4 (by decide) (hts _ kX1_factOf_5) (fun _ h9 => h9) rfl dX1_factOf_90 ?_
    refine lv_iload_n hx hb dX1_factOf_93 rfl (lv_at hl 1 rfl) ?_
    refine pc_iald hx hb hK hP 5 0 rfl rfl (k := k) (show k < 12 by omega) (by decide) dX1_factOf_94 ?_
    exact W.iret (v := (zr h) k) hx hb hr (fun t ht hW => ⟨(zr h) k, rfl, rfl, ht⟩) (fun q hq => absurd hq List.not_mem_nil) dX1_factOf_95

theorem inX1_wholeStrings_RX1 : ∀ w ∈ u_ws RX1 TX1 8, w ∈ wsX1_wholeStrings := by decide +kernel
theorem kX1_wholeStrings_0 : (.fieldLink RX1 27 "WedgeHarps$Harp" "whole" "[Z" : Cond) ∈ wsX1_wholeStrings := by decide +kernel
set_option maxHeartbeats 4000000 in
set_option maxRecDepth 100000 in
theorem mX1_wholeStrings (l : Launch) (D : va_G) (cy : Nat → ClassId) (q : Nat → Nat) (h : HS) (ho : ok01 h) : Met l yX1_wholeStrings wsX1_wholeStrings ({ frames := 0, cells := 0, slots := 0, locals := 0 } : Room) (va_Pc [.ref (q 0)] (fun U => va_P D vwCl (wH cy q h) U.heap ∧ va_K D vwCl (TY cy) U)) (vp_Si (fun r8 => r8 = sumN (zo h) 12)) 0 0 (fun _ => False) := by
  refine Met.ofW (cc := cX1_wholeStrings) (maxL := 3) (ret := (some .int)) (by decide) rfl ?_
  intro p e s m args below meth c s₁ B hml hv
  obtain ⟨rfl, hP, hK⟩ := hv
  have hx := B.exec
  have hb := B.bytes
  have hr := B.returns
  have hts := atoms_spec (ws := wsX1_wholeStrings) B.pre
  have hown : s.vm.findClass RX1 = some m.cls := findClass_of_methodNamed B.named
  have hlocks := B.notSynchronized
  have hl := lv_entry ([.ref (q 0)]) (n := 3) (Nat.le_of_ble_eq_true rfl)
  rw [lg_entry_eq]
  generalize (lg_sl ([.ref (q 0)]) ++ List.replicate (3 - (lg_sl ([.ref (q 0)])).length) Slot.unset).toArray = ls at hl ⊢
  have hl : lv_has ls 3 [(0, .ref (q 0))] := hl
  refine lv_iconst (v := 0) hx hb dX1_wholeStrings_0 (by decide) ?_
  refine lv_istore_n (lv' := [(1, .int 0), (0, .ref (q 0))]) hx hb dX1_wholeStrings_1 rfl hl (by decide) rfl (fun ls hl => ?_)
  refine lv_iconst (v := 0) hx hb dX1_wholeStrings_2 (by decide) ?_
  refine lv_istore_n (lv' := [(2, .int 0), (1, .int 0), (0, .ref (q 0))]) hx hb dX1_wholeStrings_3 rfl hl (by decide) rfl (fun ls hl => ?_)
  have loop4 : ∀ (n9 : Nat) (k : Nat), k ≤ 12 → 12 - k < n9 → ∀ ls : Array Slot, lv_has ls 3 [(0, .ref (q 0)), (1, .int (sumN (zo h) k)), (2, .int (nI k))] → W p l e (headSpec wsX1_wholeStrings ({ frames := 0, cells := 0, slots := 0, locals := 0 } : Room)).room s m ([.ref (q 0)] : List Value).toArray below meth c s.heap [] 0 0 (MQ below (vp_Si (fun r8 => r8 = sumN (zo h) 12)) ([.ref (q 0)] : List Value).toArray s 0 0 (fun _ => False)) (F0 m 4 ls []) := by
    intro n9
    induction n9 with
    | zero => intro k hk h9 ls hl; exact absurd h9 (by omega)
    | succ n9 ih4 =>
      intro k hk h9 ls hl
      refine lv_iload_n hx hb dX1_wholeStrings_4 rfl (lv_at hl 2 rfl) ?_
      refine lv_bipush (v := 12) hx hb dX1_wholeStrings_5 (by decide) ?_
      refine lv_icmp_ge (tgt := 28) hx hb dX1_wholeStrings_7 (by decide) (fun c7 => ?_) (fun c7 => ?_)
      · have n7 : 12 ≤ k := (nI_leI (a := 12) (b := k) (by omega) (by omega)).mp c7
        refine lv_iload_n hx hb dX1_wholeStrings_28 rfl (lv_at hl 1 rfl) ?_
        exact W.iret (v := sumN (zo h) k) hx hb hr (fun t ht hW => ⟨sumN (zo h) k, rfl, (by rw [show k = 12 by omega]), ht⟩) (fun q hq => absurd hq List.not_mem_nil) dX1_wholeStrings_29
      · have n7 : ¬ (12 ≤ k) := fun h9 => c7 ((nI_leI (a := 12) (b := k) (by omega) (by omega)).mpr h9)
        refine lv_aload_n hx hb dX1_wholeStrings_10 rfl (lv_at hl 0 rfl) ?_
        refine va_get (D := D) (ci := 1) (v := .ref (q 6)) (C := RX1) (T := TX1) (N := 8) hx hb hts inX1_wholeStrings_RX1 hown hK hP 0 rfl rfl 5 (by decide) (hts _ kX1_wholeStrings_0) (fun _ h9 => h9) rfl dX1_wholeStrings_11 ?_
        refine lv_iload_n hx hb dX1_wholeStrings_14 rfl (lv_at hl 2 rfl) ?_
        refine pc_zald hx hb hK hP 6 1 rfl rfl (k := k) (show k < 12 by omega) (by decide) dX1_wholeStrings_15 ?_
        refine lv_if_eq (tgt := 22) hx hb dX1_wholeStrings_16 (by decide) (fun c16 => ?_) (fun c16 => ?_)
        · have r9 : sumN (zo h) k = sumN (zo h) (k + 1) := (by simp [sumN, c16])
          rw [r9] at hl
          clear r9
          refine lv_iinc (v := nI (k + 1)) (lv' := [(2, .int (nI (k + 1))), (0, .ref (q 0)), (1, .int (sumN (zo h) (k + 1)))]) hx hb dX1_wholeStrings_22 hl (k := 2) rfl ((show (nI k) + Int32.ofInt 1 = (nI k) + 1 from rfl).trans (show (nI k) + 1 = nI (k + 1) from nI_add k 1)) (by decide) rfl (fun ls hl => ?_)
          refine lv_goto (tgt := 4) hx hb dX1_wholeStrings_25 (by decide) ?_
          exact ih4 (k + 1) (by omega) (by omega) ls (lv_sub hl [1, 2, 0] rfl)
        · refine lv_iinc (v := (sumN (zo h) k) + 1) (lv' := [(1, .int ((sumN (zo h) k) + 1)), (0, .ref (q 0)), (2, .int (nI k))]) hx hb dX1_wholeStrings_19 hl (k := 1) rfl rfl (by decide) rfl (fun ls hl => ?_)
          have r9 : (sumN (zo h) k) + 1 = sumN (zo h) (k + 1) := (by simp [sumN, (ho k (by omega)).resolve_left c16])
          rw [r9] at hl
          clear r9
          refine lv_iinc (v := nI (k + 1)) (lv' := [(2, .int (nI (k + 1))), (1, .int (sumN (zo h) (k + 1))), (0, .ref (q 0))]) hx hb dX1_wholeStrings_22 hl (k := 2) rfl ((show (nI k) + Int32.ofInt 1 = (nI k) + 1 from rfl).trans (show (nI k) + 1 = nI (k + 1) from nI_add k 1)) (by decide) rfl (fun ls hl => ?_)
          refine lv_goto (tgt := 4) hx hb dX1_wholeStrings_25 (by decide) ?_
          exact ih4 (k + 1) (by omega) (by omega) ls (lv_sub hl [2, 1, 0] rfl)
  exact loop4 (12 + 1) 0 (by decide) (by omega) ls (lv_sub hl [2, 1, 0] rfl)

set_option maxHeartbeats 4000000 in
set_option maxRecDepth 100000 in
theorem mX1_sumOfTones (l : Launch) (D : va_G) (cy : Nat → ClassId) (q : Nat → Nat) (h : HS) : Met l yX1_sumOfTones wsX1_sumOfTones ({ frames := 1, cells := 0, slots := 0, locals := 22 } : Room) (va_Pc [.ref (q 0)] (fun U => va_P D vwCl (wH cy q h) U.heap ∧ va_K D vwCl (TY cy) U)) (vp_Si (fun r8 => r8 = sumN (tone h) 12)) 0 0 (fun _ => False) := by
  refine Met.ofW (cc := cX1_sumOfTones) (maxL := 3) (ret := (some .int)) (by decide) rfl ?_
  intro p e s m args below meth c s₁ B hml hv
  obtain ⟨rfl, hP, hK⟩ := hv
  have hx := B.exec
  have hb := B.bytes
  have hr := B.returns
  have hts := atoms_spec (ws := wsX1_sumOfTones) B.pre
  have hown : s.vm.findClass RX1 = some m.cls := findClass_of_methodNamed B.named
  have hlocks := B.notSynchronized
  have hl := lv_entry ([.ref (q 0)]) (n := 3) (Nat.le_of_ble_eq_true rfl)
  rw [lg_entry_eq]
  generalize (lg_sl ([.ref (q 0)]) ++ List.replicate (3 - (lg_sl ([.ref (q 0)])).length) Slot.unset).toArray = ls at hl ⊢
  have hl : lv_has ls 3 [(0, .ref (q 0))] := hl
  refine lv_iconst (v := 0) hx hb dX1_sumOfTones_0 (by decide) ?_
  refine lv_istore_n (lv' := [(1, .int 0), (0, .ref (q 0))]) hx hb dX1_sumOfTones_1 rfl hl (by decide) rfl (fun ls hl => ?_)
  refine lv_iconst (v := 0) hx hb dX1_sumOfTones_2 (by decide) ?_
  refine lv_istore_n (lv' := [(2, .int 0), (1, .int 0), (0, .ref (q 0))]) hx hb dX1_sumOfTones_3 rfl hl (by decide) rfl (fun ls hl => ?_)
  have loop4 : ∀ (n9 : Nat) (k : Nat), k ≤ 12 → 12 - k < n9 → ∀ ls : Array Slot, lv_has ls 3 [(0, .ref (q 0)), (1, .int (sumN (tone h) k)), (2, .int (nI k))] → W p l e (headSpec wsX1_sumOfTones ({ frames := 1, cells := 0, slots := 0, locals := 22 } : Room)).room s m ([.ref (q 0)] : List Value).toArray below meth c s.heap [] 0 0 (MQ below (vp_Si (fun r8 => r8 = sumN (tone h) 12)) ([.ref (q 0)] : List Value).toArray s 0 0 (fun _ => False)) (F0 m 4 ls []) := by
    intro n9
    induction n9 with
    | zero => intro k hk h9 ls hl; exact absurd h9 (by omega)
    | succ n9 ih4 =>
      intro k hk h9 ls hl
      refine lv_iload_n hx hb dX1_sumOfTones_4 rfl (lv_at hl 2 rfl) ?_
      refine lv_bipush (v := 12) hx hb dX1_sumOfTones_5 (by decide) ?_
      refine lv_icmp_ge (tgt := 24) hx hb dX1_sumOfTones_7 (by decide) (fun c7 => ?_) (fun c7 => ?_)
      · have n7 : 12 ≤ k := (nI_leI (a := 12) (b := k) (by omega) (by omega)).mp c7
        refine lv_iload_n hx hb dX1_sumOfTones_24 rfl (lv_at hl 1 rfl) ?_
        exact W.iret (v := sumN (tone h) k) hx hb hr (fun t ht hW => ⟨sumN (tone h) k, rfl, (by rw [show k = 12 by omega]), ht⟩) (fun q hq => absurd hq List.not_mem_nil) dX1_sumOfTones_25
      · have n7 : ¬ (12 ≤ k) := fun h9 => c7 ((nI_leI (a := 12) (b := k) (by omega) (by omega)).mpr h9)
        refine lv_iload_n hx hb dX1_sumOfTones_10 rfl (lv_at hl 1 rfl) ?_
        refine lv_aload_n hx hb dX1_sumOfTones_11 rfl (lv_at hl 0 rfl) ?_
        refine lv_iload_n hx hb dX1_sumOfTones_12 rfl (lv_at hl 2 rfl) ?_
        refine pc_calli (va_runV (As := [.int (nI k)]) (rest := [.int (sumN (tone h) k)]) ⟨hx, hb, hml, hown, hts⟩ (mX1_toneOf l D cy q h k (by omega)) (cwV 1 hts gX1_sumOfTones_X1_toneOf rfl rfl rfl (by decide +kernel) ⟨Nat.le_of_ble_eq_true rfl, Nat.le_of_ble_eq_true rfl⟩) ⟨fun a U g mk q => ⟨q.1, q.2.1, va_K.moved (u := U) (U := U.calling g mk a) (Vm.Alike.refl U.vm) q.2.2⟩, va_recv hK hP (ci := 1) (q0 := 0) rfl rfl, fun U hU hW => ⟨rfl, by rw [hU]; exact hP, va_K.moved hW.alike hK⟩⟩ rfl rfl hl.1 rfl (lv_room (Nat.le_of_ble_eq_true rfl)) dX1_sumOfTones_13 ⟨Nat.zero_le _, Nat.zero_le _⟩) (fun r9 hr9 => ?_)
        subst hr9
        refine lv_iadd hx hb dX1_sumOfTones_16 ?_
        refine lv_istore_n (lv' := [(1, .int ((sumN (tone h) k) + (tone h k))), (0, .ref (q 0)), (2, .int (nI k))]) hx hb dX1_sumOfTones_17 rfl hl (by decide) rfl (fun ls hl => ?_)
        refine lv_iinc (v := nI (k + 1)) (lv' := [(2, .int (nI (k + 1))), (1, .int ((sumN (tone h) k) + (tone h k))), (0, .ref (q 0))]) hx hb dX1_sumOfTones_18 hl (k := 2) rfl ((show (nI k) + Int32.ofInt 1 = (nI k) + 1 from rfl).trans (show (nI k) + 1 = nI (k + 1) from nI_add k 1)) (by decide) rfl (fun ls hl => ?_)
        refine lv_goto (tgt := 4) hx hb dX1_sumOfTones_21 (by decide) ?_
        exact ih4 (k + 1) (by omega) (by omega) ls (lv_sub hl [2, 1, 0] rfl)
  exact loop4 (12 + 1) 0 (by decide) (by omega) ls (lv_sub hl [2, 1, 0] rfl)

theorem inX1_distanceFrom_RX0 : ∀ w ∈ u_ws RX0 TX0 3, w ∈ wsX1_distanceFrom := by decide +kernel
theorem kX1_distanceFrom_0 : (.fieldLink RX1 42 "WedgeHarps$Chord" "size" "I" : Cond) ∈ wsX1_distanceFrom := by decide +kernel
theorem kX1_distanceFrom_1 : (.fieldLink RX1 47 "WedgeHarps$Chord" "lowest" "I" : Cond) ∈ wsX1_distanceFrom := by decide +kernel
theorem kX1_distanceFrom_2 : (.fieldLink RX1 50 "WedgeHarps$Chord" "tones" "[I" : Cond) ∈ wsX1_distanceFrom := by decide +kernel
theorem kX1_distanceFrom_3 : (.methodLink RX1 53 Lib.Math.abs.name : Cond) ∈ wsX1_distanceFrom := by decide +kernel
theorem kX1_distanceFrom_4 : (.static Lib.Math.abs.name : Cond) ∈ wsX1_distanceFrom := by decide +kernel
theorem kX1_distanceFrom_5 : (.initialized "java/lang/Math" : Cond) ∈ wsX1_distanceFrom := by decide +kernel
theorem kX1_distanceFrom_6 : (.code Lib.Math.abs.name Lib.Math.abs.code 1 (some .int) : Cond) ∈ wsX1_distanceFrom := by decide +kernel
set_option maxHeartbeats 4000000 in
set_option maxRecDepth 100000 in
theorem mX1_distanceFrom (l : Launch) (D : va_G) (cy : Nat → ClassId) (q : Nat → Nat) (h : HS) (ca ta lo sz : Nat) (tn : Nat → Int32) (hls : lo + sz ≤ 12) (hs4 : sz ≤ 4) : Met l yX1_distanceFrom wsX1_distanceFrom ({ frames := 1, cells := 0, slots := 0, locals := 22 } : Room) (va_Pc [.ref (q 0), .ref ca] (fun U => va_P D vwCl (wH cy q h ++ wC cy ca ta lo sz tn) U.heap ∧ va_K D vwCl (TY cy) U)) (vp_Si (fun r8 => r8 = offBy h lo tn sz)) 0 0 (fun _ => False) := by
  refine Met.ofW (cc := cX1_distanceFrom) (maxL := 4) (ret := (some .int)) (by decide) rfl ?_
  intro p e s m args below meth c s₁ B hml hv
  obtain ⟨rfl, hP, hK⟩ := hv
  have hx := B.exec
  have hb := B.bytes
  have hr := B.returns
  have hts := atoms_spec (ws := wsX1_distanceFrom) B.pre
  have hown : s.vm.findClass RX1 = some m.cls := findClass_of_methodNamed B.named
  have hlocks := B.notSynchronized
  have hl := lv_entry ([.ref (q 0), .ref ca]) (n := 4) (Nat.le_of_ble_eq_true rfl)
  rw [lg_entry_eq]
  generalize (lg_sl ([.ref (q 0), .ref ca]) ++ List.replicate (4 - (lg_sl ([.ref (q 0), .ref ca])).length) Slot.unset).toArray = ls at hl ⊢
  have hl : lv_has ls 4 [(0, .ref (q 0)), (1, .ref ca)] := hl
  refine lv_iconst (v := 0) hx hb dX1_distanceFrom_0 (by decide) ?_
  refine lv_istore_n (lv' := [(2, .int 0), (0, .ref (q 0)), (1, .ref ca)]) hx hb dX1_distanceFrom_1 rfl hl (by decide) rfl (fun ls hl => ?_)
  refine lv_iconst (v := 0) hx hb dX1_distanceFrom_2 (by decide) ?_
  refine lv_istore_n (lv' := [(3, .int 0), (2, .int 0), (0, .ref (q 0)), (1, .ref ca)]) hx hb dX1_distanceFrom_3 rfl hl (by decide) rfl (fun ls hl => ?_)
  have loop4 : ∀ (n9 : Nat) (k : Nat), k ≤ sz → sz - k < n9 → ∀ ls : Array Slot, lv_has ls 4 [(0, .ref (q 0)), (1, .ref ca), (2, .int (offBy h lo tn k)), (3, .int (nI k))] → W p l e (headSpec wsX1_distanceFrom ({ frames := 1, cells := 0, slots := 0, locals := 22 } : Room)).room s m ([.ref (q 0), .ref ca] : List Value).toArray below meth c s.heap [] 0 0 (MQ below (vp_Si (fun r8 => r8 = offBy h lo tn sz)) ([.ref (q 0), .ref ca] : List Value).toArray s 0 0 (fun _ => False)) (F0 m 4 ls []) := by
    intro n9
    induction n9 with
    | zero => intro k hk h9 ls hl; exact absurd h9 (by omega)
    | succ n9 ih4 =>
      intro k hk h9 ls hl
      refine lv_iload_n hx hb dX1_distanceFrom_4 rfl (lv_at hl 3 rfl) ?_
      refine lv_aload_n hx hb dX1_distanceFrom_5 rfl (lv_at hl 1 rfl) ?_
      refine va_get (D := D) (ci := 0) (v := .int (nI sz)) (C := RX0) (T := TX0) (N := 3) hx hb hts inX1_distanceFrom_RX0 hown hK hP 7 rfl rfl 2 (by decide) (hts _ kX1_distanceFrom_0) (fun _ h9 => h9) rfl dX1_distanceFrom_6 ?_
      refine lv_icmp_ge (tgt := 41) hx hb dX1_distanceFrom_9 (by decide) (fun c9 => ?_) (fun c9 => ?_)
      · have n9 : sz ≤ k := (nI_leI (a := sz) (b := k) (by omega) (by omega)).mp c9
        refine lv_iload_n hx hb dX1_distanceFrom_41 rfl (lv_at hl 2 rfl) ?_
        exact W.iret (v := offBy h lo tn k) hx hb hr (fun t ht hW => ⟨offBy h lo tn k, rfl, (by rw [show k = sz by omega]), ht⟩) (fun q hq => absurd hq List.not_mem_nil) dX1_distanceFrom_42
      · have n9 : ¬ (sz ≤ k) := fun h9 => c9 ((nI_leI (a := sz) (b := k) (by omega) (by omega)).mpr h9)
        refine lv_iload_n hx hb dX1_distanceFrom_12 rfl (lv_at hl 2 rfl) ?_
        refine lv_aload_n hx hb dX1_distanceFrom_13 rfl (lv_at hl 0 rfl) ?_
        refine lv_aload_n hx hb dX1_distanceFrom_14 rfl (lv_at hl 1 rfl) ?_
        refine va_get (D := D) (ci := 0) (v := .int (nI lo)) (C := RX0) (T := TX0) (N := 3) hx hb hts inX1_distanceFrom_RX0 hown hK hP 7 rfl rfl 1 (by decide) (hts _ kX1_distanceFrom_1) (fun _ h9 => h9) rfl dX1_distanceFrom_15 ?_
        refine lv_iload_n hx hb dX1_distanceFrom_18 rfl (lv_at hl 3 rfl) ?_
        refine lv_iadd hx hb dX1_distanceFrom_19 ?_
        refine pc_top (show (nI lo) + (nI k) = nI (lo + k) from nI_add lo k) ?_
        have hPc := hP.sub (ws' := wH cy q h) [0, 1, 2, 3, 4, 5, 6] rfl
        refine pc_calli (va_runV (As := [.int (nI (lo + k))]) (rest := [.int (offBy h lo tn k)]) ⟨hx, hb, hml, hown, hts⟩ (mX1_toneOf l D cy q h (lo + k) (by omega)) (cwV 1 hts gX1_distanceFrom_X1_toneOf rfl rfl rfl (by decide +kernel) ⟨Nat.le_of_ble_eq_true rfl, Nat.le_of_ble_eq_true rfl⟩) ⟨fun a U g mk q => ⟨q.1, q.2.1, va_K.moved (u := U) (U := U.calling g mk a) (Vm.Alike.refl U.vm) q.2.2⟩, va_recv hK hPc (ci := 1) (q0 := 0) rfl rfl, fun U hU hW => ⟨rfl, by rw [hU]; exact hPc, va_K.moved hW.alike hK⟩⟩ rfl rfl hl.1 rfl (lv_room (Nat.le_of_ble_eq_true rfl)) dX1_distanceFrom_20 ⟨Nat.zero_le _, Nat.zero_le _⟩) (fun r9 hr9 => ?_)
        subst hr9
        refine lv_aload_n hx hb dX1_distanceFrom_23 rfl (lv_at hl 1 rfl) ?_
        refine va_get (D := D) (ci := 0) (v := .ref ta) (C := RX0) (T := TX0) (N := 3) hx hb hts inX1_distanceFrom_RX0 hown hK hP 7 rfl rfl 0 (by decide) (hts _ kX1_distanceFrom_2) (fun _ h9 => h9) rfl dX1_distanceFrom_24 ?_
        refine lv_iload_n hx hb dX1_distanceFrom_27 rfl (lv_at hl 3 rfl) ?_
        refine pc_iald hx hb hK hP 8 0 rfl rfl (k := k) (show k < 4 by omega) (by decide) dX1_distanceFrom_28 ?_
        refine lv_isub hx hb dX1_distanceFrom_29 ?_
        refine va_mabs hx hb (by rw [hml]; exact hl.1.symm) hown (hts _ kX1_distanceFrom_3) (hts _ kX1_distanceFrom_4) (hts _ kX1_distanceFrom_5) (hts _ kX1_distanceFrom_6) (Nat.le_of_ble_eq_true rfl) (Nat.le_of_ble_eq_true rfl) (Nat.zero_le _) (Nat.zero_le _) dX1_distanceFrom_30 ?_
        refine pc_top (show (if 0 ≤ ((tone h (lo + k)) - (tn k)) then ((tone h (lo + k)) - (tn k)) else 0 - ((tone h (lo + k)) - (tn k))) = ab ((tone h (lo + k)) - (tn k)) from rfl) ?_
        refine lv_iadd hx hb dX1_distanceFrom_33 ?_
        refine lv_istore_n (lv' := [(2, .int ((offBy h lo tn k) + (ab ((tone h (lo + k)) - (tn k))))), (0, .ref (q 0)), (1, .ref ca), (3, .int (nI k))]) hx hb dX1_distanceFrom_34 rfl hl (by decide) rfl (fun ls hl => ?_)
        refine lv_iinc (v := nI (k + 1)) (lv' := [(3, .int (nI (k + 1))), (2, .int ((offBy h lo tn k) + (ab ((tone h (lo + k)) - (tn k))))), (0, .ref (q 0)), (1, .ref ca)]) hx hb dX1_distanceFrom_35 hl (k := 3) rfl ((show (nI k) + Int32.ofInt 1 = (nI k) + 1 from rfl).trans (show (nI k) + 1 = nI (k + 1) from nI_add k 1)) (by decide) rfl (fun ls hl => ?_)
        refine lv_goto (tgt := 4) hx hb dX1_distanceFrom_38 (by decide) ?_
        exact ih4 (k + 1) (by omega) (by omega) ls (lv_sub hl [2, 3, 1, 0] rfl)
  exact loop4 (sz + 1) 0 (Nat.zero_le _) (by omega) ls (lv_sub hl [2, 3, 1, 0] rfl)

theorem inX1_fitsPushed_RX0 : ∀ w ∈ u_ws RX0 TX0 3, w ∈ wsX1_fitsPushed := by decide +kernel
theorem inX1_fitsPushed_RX1 : ∀ w ∈ u_ws RX1 TX1 8, w ∈ wsX1_fitsPushed := by decide +kernel
theorem kX1_fitsPushed_0 : (.fieldLink RX1 47 "WedgeHarps$Chord" "lowest" "I" : Cond) ∈ wsX1_fitsPushed := by decide +kernel
theorem kX1_fitsPushed_1 : (.fieldLink RX1 27 "WedgeHarps$Harp" "whole" "[Z" : Cond) ∈ wsX1_fitsPushed := by decide +kernel
theorem kX1_fitsPushed_2 : (.fieldLink RX1 50 "WedgeHarps$Chord" "tones" "[I" : Cond) ∈ wsX1_fitsPushed := by decide +kernel
theorem kX1_fitsPushed_3 : (.methodLink RX1 53 Lib.Math.abs.name : Cond) ∈ wsX1_fitsPushed := by decide +kernel
theorem kX1_fitsPushed_4 : (.static Lib.Math.abs.name : Cond) ∈ wsX1_fitsPushed := by decide +kernel
theorem kX1_fitsPushed_5 : (.initialized "java/lang/Math" : Cond) ∈ wsX1_fitsPushed := by decide +kernel
theorem kX1_fitsPushed_6 : (.code Lib.Math.abs.name Lib.Math.abs.code 1 (some .int) : Cond) ∈ wsX1_fitsPushed := by decide +kernel
set_option maxHeartbeats 4000000 in
set_option maxRecDepth 100000 in
theorem mX1_fitsPushed (l : Launch) (D : va_G) (cy : Nat → ClassId) (q : Nat → Nat) (h : HS) (ca ta lo sz : Nat) (tn : Nat → Int32) (hls : lo + sz ≤ 12) (hs4 : sz ≤ 4) (j : Nat) (hj : j < sz) (x y : Int32) : Met l yX1_fitsPushed wsX1_fitsPushed ({ frames := 1, cells := 0, slots := 0, locals := 22 } : Room) (va_Pc [.ref (q 0), .ref ca, .int (nI j), .int x, .int y] (fun U => va_P D vwCl (wH cy q h ++ wC cy ca ta lo sz tn) U.heap ∧ va_K D vwCl (TY cy) U)) (vp_Si (fun r8 => r8 = bI (fits1 h lo tn j x y))) 0 0 (fun _ => False) := by
  refine Met.ofW (cc := cX1_fitsPushed) (maxL := 7) (ret := (some .boolean)) (by decide) rfl ?_
  intro p e s m args below meth c s₁ B hml hv
  obtain ⟨rfl, hP, hK⟩ := hv
  have hx := B.exec
  have hb := B.bytes
  have hr := B.returns
  have hts := atoms_spec (ws := wsX1_fitsPushed) B.pre
  have hown : s.vm.findClass RX1 = some m.cls := findClass_of_methodNamed B.named
  have hlocks := B.notSynchronized
  have hl := lv_entry ([.ref (q 0), .ref ca, .int (nI j), .int x, .int y]) (n := 7) (Nat.le_of_ble_eq_true rfl)
  rw [lg_entry_eq]
  generalize (lg_sl ([.ref (q 0), .ref ca, .int (nI j), .int x, .int y]) ++ List.replicate (7 - (lg_sl ([.ref (q 0), .ref ca, .int (nI j), .int x, .int y])).length) Slot.unset).toArray = ls at hl ⊢
  have hl : lv_has ls 7 [(0, .ref (q 0)), (1, .ref ca), (2, .int (nI j)), (3, .int x), (4, .int y)] := hl
  refine lv_aload_n hx hb dX1_fitsPushed_0 rfl (lv_at hl 1 rfl) ?_
  refine va_get (D := D) (ci := 0) (v := .int (nI lo)) (C := RX0) (T := TX0) (N := 3) hx hb hts inX1_fitsPushed_RX0 hown hK hP 7 rfl rfl 1 (by decide) (hts _ kX1_fitsPushed_0) (fun _ h9 => h9) rfl dX1_fitsPushed_1 ?_
  refine lv_iload_n hx hb dX1_fitsPushed_4 rfl (lv_at hl 2 rfl) ?_
  refine lv_iadd hx hb dX1_fitsPushed_5 ?_
  refine pc_top (show (nI lo) + (nI j) = nI (lo + j) from nI_add lo j) ?_
  refine lv_istore (lv' := [(5, .int (nI (lo + j))), (0, .ref (q 0)), (1, .ref ca), (2, .int (nI j)), (3, .int x), (4, .int y)]) hx hb dX1_fitsPushed_6 hl (by decide) rfl (fun ls hl => ?_)
  refine lv_aload_n hx hb dX1_fitsPushed_8 rfl (lv_at hl 1 rfl) ?_
  refine lv_iload hx hb dX1_fitsPushed_9 (lv_at hl 0 rfl) ?_
  have hPc := hP.sub (ws' := wH cy q h) [0, 1, 2, 3, 4, 5, 6] rfl
  refine pc_calli (va_runV (As := [.int (nI (lo + j))]) (rest := []) ⟨hx, hb, hml, hown, hts⟩ (mX1_toneOf l D cy q h (lo + j) (by omega)) (cwV 1 hts gX1_fitsPushed_X1_toneOf rfl rfl rfl (by decide +kernel) ⟨Nat.le_of_ble_eq_true rfl, Nat.le_of_ble_eq_true rfl⟩) ⟨fun a U g mk q => ⟨q.1, q.2.1, va_K.moved (u := U) (U := U.calling g mk a) (Vm.Alike.refl U.vm) q.2.2⟩, va_recv hK hPc (ci := 1) (q0 := 0) rfl rfl, fun U hU hW => ⟨rfl, by rw [hU]; exact hPc, va_K.moved hW.alike hK⟩⟩ rfl rfl hl.1 rfl (lv_room (Nat.le_of_ble_eq_true rfl)) dX1_fitsPushed_11 ⟨Nat.zero_le _, Nat.zero_le _⟩) (fun r9 hr9 => ?_)
  subst hr9
  refine lv_bipush (v := 10) hx hb dX1_fitsPushed_14 (by decide) ?_
  refine lv_iload_n hx hb dX1_fitsPushed_16 rfl (lv_at hl 4 rfl) ?_
  refine lv_imul hx hb dX1_fitsPushed_17 ?_
  refine lv_iadd hx hb dX1_fitsPushed_18 ?_
  refine lv_iconst (v := 3) hx hb dX1_fitsPushed_19 (by decide) ?_
  refine lv_iload hx hb dX1_fitsPushed_20 (lv_at hl 5 rfl) ?_
  refine lv_imul hx hb dX1_fitsPushed_22 ?_
  refine lv_iadd hx hb dX1_fitsPushed_23 ?_
  refine lv_istore (lv' := [(6, .int (((tone h (lo + j)) + (10 * x)) + (3 * y))), (5, .int (nI (lo + j))), (0, .ref (q 0)), (1, .ref ca), (2, .int (nI j)), (3, .int x), (4, .int y)]) hx hb dX1_fitsPushed_24 hl (by decide) rfl (fun ls hl => ?_)
  refine lv_aload_n hx hb dX1_fitsPushed_26 rfl (lv_at hl 2 rfl) ?_
  refine va_get (D := D) (ci := 1) (v := .ref (q 6)) (C := RX1) (T := TX1) (N := 8) hx hb hts inX1_fitsPushed_RX1 hown hK hP 0 rfl rfl 5 (by decide) (hts _ kX1_fitsPushed_1) (fun _ h9 => h9) rfl dX1_fitsPushed_27 ?_
  refine lv_iload hx hb dX1_fitsPushed_30 (lv_at hl 1 rfl) ?_
  refine pc_zald hx hb hK hP 6 1 rfl rfl (k := lo + j) (show lo + j < 12 by omega) (by decide) dX1_fitsPushed_32 ?_
  refine lv_if_eq (tgt := 56) hx hb dX1_fitsPushed_33 (by decide) (fun c33 => ?_) (fun c33 => ?_)
  · refine lv_iconst (v := 0) hx hb dX1_fitsPushed_56 (by decide) ?_
    exact W.zret (v := 0) hx hb hr (by decide) (fun t ht hW => ⟨0, rfl, (by simp [bI, fits1, c33]), ht⟩) (fun q hq => absurd hq List.not_mem_nil) dX1_fitsPushed_57
  · refine lv_iload hx hb dX1_fitsPushed_36 (lv_at hl 0 rfl) ?_
    refine lv_aload_n hx hb dX1_fitsPushed_38 rfl (lv_at hl 3 rfl) ?_
    refine va_get (D := D) (ci := 0) (v := .ref ta) (C := RX0) (T := TX0) (N := 3) hx hb hts inX1_fitsPushed_RX0 hown hK hP 7 rfl rfl 0 (by decide) (hts _ kX1_fitsPushed_2) (fun _ h9 => h9) rfl dX1_fitsPushed_39 ?_
    refine lv_iload_n hx hb dX1_fitsPushed_42 rfl (lv_at hl 4 rfl) ?_
    refine pc_iald hx hb hK hP 8 0 rfl rfl (k := j) (show j < 4 by omega) (by decide) dX1_fitsPushed_43 ?_
    refine lv_isub hx hb dX1_fitsPushed_44 ?_
    refine va_mabs hx hb (by rw [hml]; exact hl.1.symm) hown (hts _ kX1_fitsPushed_3) (hts _ kX1_fitsPushed_4) (hts _ kX1_fitsPushed_5) (hts _ kX1_fitsPushed_6) (Nat.le_of_ble_eq_true rfl) (Nat.le_of_ble_eq_true rfl) (Nat.zero_le _) (Nat.zero_le _) dX1_fitsPushed_45 ?_
    refine pc_top (show (if 0 ≤ ((((tone h (lo + j)) + (10 * x)) + (3 * y)) - (tn j)) then ((((tone h (lo + j)) + (10 * x)) + (3 * y)) - (tn j)) else 0 - ((((tone h (lo + j)) + (10 * x)) + (3 * y)) - (tn j))) = ab ((((tone h (lo + j)) + (10 * x)) + (3 * y)) - (tn j)) from rfl) ?_
    refine lv_iconst (v := 5) hx hb dX1_fitsPushed_48 (by decide) ?_
    refine lv_icmp_gt (tgt := 56) hx hb dX1_fitsPushed_49 (by decide) (fun c49 => ?_) (fun c49 => ?_)
    · refine lv_iconst (v := 0) hx hb dX1_fitsPushed_56 (by decide) ?_
      exact W.zret (v := 0) hx hb hr (by decide) (fun t ht hW => ⟨0, rfl, (by simp [bI, fits1, c33, c49]), ht⟩) (fun q hq => absurd hq List.not_mem_nil) dX1_fitsPushed_57
    · refine lv_iconst (v := 1) hx hb dX1_fitsPushed_52 (by decide) ?_
      refine lv_goto (tgt := 57) hx hb dX1_fitsPushed_53 (by decide) ?_
      exact W.zret (v := 1) hx hb hr (by decide) (fun t ht hW => ⟨1, rfl, (by simp [bI, fits1, c33, c49]), ht⟩) (fun q hq => absurd hq List.not_mem_nil) dX1_fitsPushed_57

theorem inX1_isTunedTo_RX0 : ∀ w ∈ u_ws RX0 TX0 3, w ∈ wsX1_isTunedTo := by decide +kernel
theorem kX1_isTunedTo_0 : (.fieldLink RX1 42 "WedgeHarps$Chord" "size" "I" : Cond) ∈ wsX1_isTunedTo := by decide +kernel
set_option maxHeartbeats 4000000 in
set_option maxRecDepth 100000 in
theorem mX1_isTunedTo (l : Launch) (D : va_G) (cy : Nat → ClassId) (q : Nat → Nat) (h : HS) (ca ta lo sz : Nat) (tn : Nat → Int32) (hls : lo + sz ≤ 12) (hs4 : sz ≤ 4) : Met l yX1_isTunedTo wsX1_isTunedTo ({ frames := 2, cells := 0, slots := 0, locals := 48 } : Room) (va_Pc [.ref (q 0), .ref ca] (fun U => va_P D vwCl (wH cy q h ++ wC cy ca ta lo sz tn) U.heap ∧ va_K D vwCl (TY cy) U)) (vp_Si (fun r8 => r8 = bI (tuned h lo sz tn))) 0 0 (fun _ => False) := by
  refine Met.ofW (cc := cX1_isTunedTo) (maxL := 3) (ret := (some .boolean)) (by decide) rfl ?_
  intro p e s m args below meth c s₁ B hml hv
  obtain ⟨rfl, hP, hK⟩ := hv
  have hx := B.exec
  have hb := B.bytes
  have hr := B.returns
  have hts := atoms_spec (ws := wsX1_isTunedTo) B.pre
  have hown : s.vm.findClass RX1 = some m.cls := findClass_of_methodNamed B.named
  have hlocks := B.notSynchronized
  have hl := lv_entry ([.ref (q 0), .ref ca]) (n := 3) (Nat.le_of_ble_eq_true rfl)
  rw [lg_entry_eq]
  generalize (lg_sl ([.ref (q 0), .ref ca]) ++ List.replicate (3 - (lg_sl ([.ref (q 0), .ref ca])).length) Slot.unset).toArray = ls at hl ⊢
  have hl : lv_has ls 3 [(0, .ref (q 0)), (1, .ref ca)] := hl
  refine lv_iconst (v := 0) hx hb dX1_isTunedTo_0 (by decide) ?_
  refine lv_istore_n (lv' := [(2, .int 0), (0, .ref (q 0)), (1, .ref ca)]) hx hb dX1_isTunedTo_1 rfl hl (by decide) rfl (fun ls hl => ?_)
  have loop2 : ∀ (n9 : Nat) (k : Nat), k ≤ sz → allN (fun j => fits1 h lo tn j 0 0) k = true → sz - k < n9 → ∀ ls : Array Slot, lv_has ls 3 [(0, .ref (q 0)), (1, .ref ca), (2, .int (nI k))] → W p l e (headSpec wsX1_isTunedTo ({ frames := 2, cells := 0, slots := 0, locals := 48 } : Room)).room s m ([.ref (q 0), .ref ca] : List Value).toArray below meth c s.heap [] 0 0 (MQ below (vp_Si (fun r8 => r8 = bI (tuned h lo sz tn))) ([.ref (q 0), .ref ca] : List Value).toArray s 0 0 (fun _ => False)) (F0 m 2 ls []) := by
    intro n9
    induction n9 with
    | zero => intro k hk ha h9 ls hl; exact absurd h9 (by omega)
    | succ n9 ih2 =>
      intro k hk ha h9 ls hl
      refine lv_iload_n hx hb dX1_isTunedTo_2 rfl (lv_at hl 2 rfl) ?_
      refine lv_aload_n hx hb dX1_isTunedTo_3 rfl (lv_at hl 1 rfl) ?_
      refine va_get (D := D) (ci := 0) (v := .int (nI sz)) (C := RX0) (T := TX0) (N := 3) hx hb hts inX1_isTunedTo_RX0 hown hK hP 7 rfl rfl 2 (by decide) (hts _ kX1_isTunedTo_0) (fun _ h9 => h9) rfl dX1_isTunedTo_4 ?_
      refine lv_icmp_ge (tgt := 29) hx hb dX1_isTunedTo_7 (by decide) (fun c7 => ?_) (fun c7 => ?_)
      · have n7 : sz ≤ k := (nI_leI (a := sz) (b := k) (by omega) (by omega)).mp c7
        refine lv_iconst (v := 1) hx hb dX1_isTunedTo_29 (by decide) ?_
        exact W.zret (v := 1) hx hb hr (by decide) (fun t ht hW => ⟨1, rfl, (by rw [tuned, show sz = k by omega, ha]; rfl), ht⟩) (fun q hq => absurd hq List.not_mem_nil) dX1_isTunedTo_30
      · have n7 : ¬ (sz ≤ k) := fun h9 => c7 ((nI_leI (a := sz) (b := k) (by omega) (by omega)).mpr h9)
        refine lv_aload_n hx hb dX1_isTunedTo_10 rfl (lv_at hl 0 rfl) ?_
        refine lv_aload_n hx hb dX1_isTunedTo_11 rfl (lv_at hl 1 rfl) ?_
        refine lv_iload_n hx hb dX1_isTunedTo_12 rfl (lv_at hl 2 rfl) ?_
        refine lv_iconst (v := 0) hx hb dX1_isTunedTo_13 (by decide) ?_
        refine lv_iconst (v := 0) hx hb dX1_isTunedTo_14 (by decide) ?_
        refine pc_calli (va_runV (As := [.ref ca, .int (nI k), .int 0, .int 0]) (rest := []) ⟨hx, hb, hml, hown, hts⟩ (mX1_fitsPushed l D cy q h ca ta lo sz tn hls hs4 k (by omega) 0 0) (cwV 4 hts gX1_isTunedTo_X1_fitsPushed rfl rfl rfl (by decide +kernel) ⟨Nat.le_of_ble_eq_true rfl, Nat.le_of_ble_eq_true rfl⟩) ⟨fun a U g mk q => ⟨q.1, q.2.1, va_K.moved (u := U) (U := U.calling g mk a) (Vm.Alike.refl U.vm) q.2.2⟩, va_recv hK hP (ci := 1) (q0 := 0) rfl rfl, fun U hU hW => ⟨rfl, by rw [hU]; exact hP, va_K.moved hW.alike hK⟩⟩ rfl rfl hl.1 rfl (lv_room (Nat.le_of_ble_eq_true rfl)) dX1_isTunedTo_15 ⟨Nat.zero_le _, Nat.zero_le _⟩) (fun r9 hr9 => ?_)
        subst hr9
        refine lv_if_ne (tgt := 23) hx hb dX1_isTunedTo_18 (by decide) (fun c18 => ?_) (fun c18 => ?_)
        · refine lv_iinc (v := nI (k + 1)) (lv' := [(2, .int (nI (k + 1))), (0, .ref (q 0)), (1, .ref ca)]) hx hb dX1_isTunedTo_23 hl (k := 2) rfl ((show (nI k) + Int32.ofInt 1 = (nI k) + 1 from rfl).trans (show (nI k) + 1 = nI (k + 1) from nI_add k 1)) (by decide) rfl (fun ls hl => ?_)
          refine lv_goto (tgt := 2) hx hb dX1_isTunedTo_26 (by decide) ?_
          exact ih2 (k + 1) (by omega) (by simp [allN, ha, bI_1.mp c18]) (by omega) ls (lv_sub hl [1, 2, 0] rfl)
        · refine lv_iconst (v := 0) hx hb dX1_isTunedTo_21 (by decide) ?_
          exact W.zret (v := 0) hx hb hr (by decide) (fun t ht hW => ⟨0, rfl, (by rw [tuned, allN_f (j := k) (by omega) (bI_0.mp c18)]; rfl), ht⟩) (fun q hq => absurd hq List.not_mem_nil) dX1_isTunedTo_22
  exact loop2 (sz + 1) 0 (Nat.zero_le _) rfl (by omega) ls (lv_sub hl [1, 2, 0] rfl)

theorem inX1_renew_RX1 : ∀ w ∈ u_ws RX1 TX1 8, w ∈ wsX1_renew := by decide +kernel
theorem kX1_renew_0 : (.fieldLink RX1 9 "WedgeHarps$Harp" "base" "[I" : Cond) ∈ wsX1_renew := by decide +kernel
theorem kX1_renew_1 : (.fieldLink RX1 18 "WedgeHarps$Harp" "drift" "[I" : Cond) ∈ wsX1_renew := by decide +kernel
theorem kX1_renew_2 : (.fieldLink RX1 21 "WedgeHarps$Harp" "strain" "[I" : Cond) ∈ wsX1_renew := by decide +kernel
theorem kX1_renew_3 : (.fieldLink RX1 27 "WedgeHarps$Harp" "whole" "[Z" : Cond) ∈ wsX1_renew := by decide +kernel
set_option maxHeartbeats 4000000 in
set_option maxRecDepth 100000 in
theorem mX1_renew (l : Launch) (D : va_G) (cy : Nat → ClassId) (sz : Nat) (q : Nat → Nat) (h : HS) (k : Nat) (hk : k < 12) (x : Int32) : Met l yX1_renew wsX1_renew ({ frames := 0, cells := 0, slots := 0, locals := 0 } : Room) (va_Pc [.ref (q 0), .int (nI k), .int x] (fun U => U.heap.size = sz ∧ va_P D vwCl (wH cy q h) U.heap ∧ va_K D vwCl (TY cy) U ∧ va_D (fun _ => True) (wH cy q h))) (va_Qv (fun (_ : Unit) => True) (fun (_ : Unit) t => va_P D vwCl (wH cy q (hRenew h k x)) t.heap ∧ va_D (va_A (wH cy q h) sz) (wH cy q (hRenew h k x))) (va_A (wH cy q h) sz)) 0 0 (va_A (wH cy q h) sz) := by
  refine Met.ofW (cc := cX1_renew) (maxL := 3) (ret := none) (by decide) rfl ?_
  intro p e s m args below meth c s₁ B hml hv
  obtain ⟨rfl, hsz, hP, hK, hD0⟩ := hv
  have hx := B.exec
  have hb := B.bytes
  have hr := B.returns
  have hts := atoms_spec (ws := wsX1_renew) B.pre
  have hown : s.vm.findClass RX1 = some m.cls := findClass_of_methodNamed B.named
  have hlocks := B.notSynchronized
  have hl := lv_entry ([.ref (q 0), .int (nI k), .int x]) (n := 3) (Nat.le_of_ble_eq_true rfl)
  rw [lg_entry_eq]
  generalize (lg_sl ([.ref (q 0), .int (nI k), .int x]) ++ List.replicate (3 - (lg_sl ([.ref (q 0), .int (nI k), .int x])).length) Slot.unset).toArray = ls at hl ⊢
  have hl : lv_has ls 3 [(0, .ref (q 0)), (1, .int (nI k)), (2, .int x)] := hl
  subst hsz
  have hD := hD0.self (sz := s.heap.size)
  generalize hAe : va_A (wH cy q h) s.heap.size = A at hD ⊢
  have hA : ∀ q : Nat, s.heap.size ≤ q → A q := fun q h => by rw [← hAe]; exact Or.inr h
  have hS : va_S A s.heap s.heap [] := va_S.rf
  have hP : va_P D vwCl (wH cy q h) s.heap := hP
  refine lv_aload_n hx hb dX1_renew_0 rfl (lv_at hl 0 rfl) ?_
  refine va_get (D := D) (ci := 1) (v := .ref (q 1)) (C := RX1) (T := TX1) (N := 8) hx hb hts inX1_renew_RX1 hown hK hP 0 rfl rfl 0 (by decide) (hts _ kX1_renew_0) (fun _ h9 => h9) rfl dX1_renew_1 ?_
  refine lv_iload_n hx hb dX1_renew_4 rfl (lv_at hl 1 rfl) ?_
  refine lv_iload_n hx hb dX1_renew_5 rfl (lv_at hl 2 rfl) ?_
  refine pc_iast hx hb hK hP hD hS 1 0 rfl rfl (k := k) (show k < 12 by omega) (by decide) dX1_renew_6 (fun H locs hP hD hS => ?_)
  have hP : va_P D vwCl [(q 0, .inr (1, [.ref (q 1), .ref (q 2), .ref (q 3), .ref (q 4), .ref (q 5), .ref (q 6), .int (zl h), .int (nI (zh h))])), (q 1, .inl ((cy 0), 12, .inl (upd (zb h) k x))), (q 2, .inl ((cy 0), 12, .inl (zw h))), (q 3, .inl ((cy 0), 12, .inl (zd h))), (q 4, .inl ((cy 0), 12, .inl (zs h))), (q 5, .inl ((cy 0), 12, .inl (zr h))), (q 6, .inl ((cy 1), 12, .inl (zo h)))] H := hP
  have hD : va_D A [(q 0, .inr (1, [.ref (q 1), .ref (q 2), .ref (q 3), .ref (q 4), .ref (q 5), .ref (q 6), .int (zl h), .int (nI (zh h))])), (q 1, .inl ((cy 0), 12, .inl (upd (zb h) k x))), (q 2, .inl ((cy 0), 12, .inl (zw h))), (q 3, .inl ((cy 0), 12, .inl (zd h))), (q 4, .inl ((cy 0), 12, .inl (zs h))), (q 5, .inl ((cy 0), 12, .inl (zr h))), (q 6, .inl ((cy 1), 12, .inl (zo h)))] := hD
  refine lv_aload_n hx hb dX1_renew_7 rfl (lv_at hl 0 rfl) ?_
  refine va_get (D := D) (ci := 1) (v := .ref (q 3)) (C := RX1) (T := TX1) (N := 8) hx hb hts inX1_renew_RX1 hown hK hP 0 rfl rfl 2 (by decide) (hts _ kX1_renew_1) (fun _ h9 => h9) rfl dX1_renew_8 ?_
  refine lv_iload_n hx hb dX1_renew_11 rfl (lv_at hl 1 rfl) ?_
  refine lv_iconst (v := 0) hx hb dX1_renew_12 (by decide) ?_
  refine pc_iast hx hb hK hP hD hS 3 0 rfl rfl (k := k) (show k < 12 by omega) (by decide) dX1_renew_13 (fun H locs hP hD hS => ?_)
  have hP : va_P D vwCl [(q 0, .inr (1, [.ref (q 1), .ref (q 2), .ref (q 3), .ref (q 4), .ref (q 5), .ref (q 6), .int (zl h), .int (nI (zh h))])), (q 1, .inl ((cy 0), 12, .inl (upd (zb h) k x))), (q 2, .inl ((cy 0), 12, .inl (zw h))), (q 3, .inl ((cy 0), 12, .inl (upd (zd h) k 0))), (q 4, .inl ((cy 0), 12, .inl (zs h))), (q 5, .inl ((cy 0), 12, .inl (zr h))), (q 6, .inl ((cy 1), 12, .inl (zo h)))] H := hP
  have hD : va_D A [(q 0, .inr (1, [.ref (q 1), .ref (q 2), .ref (q 3), .ref (q 4), .ref (q 5), .ref (q 6), .int (zl h), .int (nI (zh h))])), (q 1, .inl ((cy 0), 12, .inl (upd (zb h) k x))), (q 2, .inl ((cy 0), 12, .inl (zw h))), (q 3, .inl ((cy 0), 12, .inl (upd (zd h) k 0))), (q 4, .inl ((cy 0), 12, .inl (zs h))), (q 5, .inl ((cy 0), 12, .inl (zr h))), (q 6, .inl ((cy 1), 12, .inl (zo h)))] := hD
  refine lv_aload_n hx hb dX1_renew_14 rfl (lv_at hl 0 rfl) ?_
  refine va_get (D := D) (ci := 1) (v := .ref (q 4)) (C := RX1) (T := TX1) (N := 8) hx hb hts inX1_renew_RX1 hown hK hP 0 rfl rfl 3 (by decide) (hts _ kX1_renew_2) (fun _ h9 => h9) rfl dX1_renew_15 ?_
  refine lv_iload_n hx hb dX1_renew_18 rfl (lv_at hl 1 rfl) ?_
  refine lv_iconst (v := 0) hx hb dX1_renew_19 (by decide) ?_
  refine pc_iast hx hb hK hP hD hS 4 0 rfl rfl (k := k) (show k < 12 by omega) (by decide) dX1_renew_20 (fun H locs hP hD hS => ?_)
  have hP : va_P D vwCl [(q 0, .inr (1, [.ref (q 1), .ref (q 2), .ref (q 3), .ref (q 4), .ref (q 5), .ref (q 6), .int (zl h), .int (nI (zh h))])), (q 1, .inl ((cy 0), 12, .inl (upd (zb h) k x))), (q 2, .inl ((cy 0), 12, .inl (zw h))), (q 3, .inl ((cy 0), 12, .inl (upd (zd h) k 0))), (q 4, .inl ((cy 0), 12, .inl (upd (zs h) k 0))), (q 5, .inl ((cy 0), 12, .inl (zr h))), (q 6, .inl ((cy 1), 12, .inl (zo h)))] H := hP
  have hD : va_D A [(q 0, .inr (1, [.ref (q 1), .ref (q 2), .ref (q 3), .ref (q 4), .ref (q 5), .ref (q 6), .int (zl h), .int (nI (zh h))])), (q 1, .inl ((cy 0), 12, .inl (upd (zb h) k x))), (q 2, .inl ((cy 0), 12, .inl (zw h))), (q 3, .inl ((cy 0), 12, .inl (upd (zd h) k 0))), (q 4, .inl ((cy 0), 12, .inl (upd (zs h) k 0))), (q 5, .inl ((cy 0), 12, .inl (zr h))), (q 6, .inl ((cy 1), 12, .inl (zo h)))] := hD
  refine lv_aload_n hx hb dX1_renew_21 rfl (lv_at hl 0 rfl) ?_
  refine va_get (D := D) (ci := 1) (v := .ref (q 6)) (C := RX1) (T := TX1) (N := 8) hx hb hts inX1_renew_RX1 hown hK hP 0 rfl rfl 5 (by decide) (hts _ kX1_renew_3) (fun _ h9 => h9) rfl dX1_renew_22 ?_
  refine lv_iload_n hx hb dX1_renew_25 rfl (lv_at hl 1 rfl) ?_
  refine lv_iconst (v := 1) hx hb dX1_renew_26 (by decide) ?_
  refine pc_zast hx hb hK hP hD hS 6 1 rfl rfl (by decide) (k := k) (show k < 12 by omega) (by decide) dX1_renew_27 (fun H locs hP hD hS => ?_)
  have hP : va_P D vwCl [(q 0, .inr (1, [.ref (q 1), .ref (q 2), .ref (q 3), .ref (q 4), .ref (q 5), .ref (q 6), .int (zl h), .int (nI (zh h))])), (q 1, .inl ((cy 0), 12, .inl (upd (zb h) k x))), (q 2, .inl ((cy 0), 12, .inl (zw h))), (q 3, .inl ((cy 0), 12, .inl (upd (zd h) k 0))), (q 4, .inl ((cy 0), 12, .inl (upd (zs h) k 0))), (q 5, .inl ((cy 0), 12, .inl (zr h))), (q 6, .inl ((cy 1), 12, .inl (upd (zo h) k 1)))] H := hP
  have hD : va_D A [(q 0, .inr (1, [.ref (q 1), .ref (q 2), .ref (q 3), .ref (q 4), .ref (q 5), .ref (q 6), .int (zl h), .int (nI (zh h))])), (q 1, .inl ((cy 0), 12, .inl (upd (zb h) k x))), (q 2, .inl ((cy 0), 12, .inl (zw h))), (q 3, .inl ((cy 0), 12, .inl (upd (zd h) k 0))), (q 4, .inl ((cy 0), 12, .inl (upd (zs h) k 0))), (q 5, .inl ((cy 0), 12, .inl (zr h))), (q 6, .inl ((cy 1), 12, .inl (upd (zo h) k 1)))] := hD
  have hP9 : va_P D vwCl (wH cy q (hRenew h k x)) H := hP
  have hD9 : va_D A (wH cy q (hRenew h k x)) := hD
  exact W.vret hx hb hr (fun t ht hW => ⟨⟨(), rfl, trivial, by rw [ht]; exact hP9, hD9⟩, hS.F ht⟩) hS.2.2 dX1_renew_28

theorem inX1_slip_RX1 : ∀ w ∈ u_ws RX1 TX1 8, w ∈ wsX1_slip := by decide +kernel
theorem kX1_slip_0 : (.fieldLink RX1 21 "WedgeHarps$Harp" "strain" "[I" : Cond) ∈ wsX1_slip := by decide +kernel
theorem kX1_slip_1 : (.fieldLink RX1 18 "WedgeHarps$Harp" "drift" "[I" : Cond) ∈ wsX1_slip := by decide +kernel
theorem kX1_slip_2 : (.methodLink RX1 81 Lib.Math.min.name : Cond) ∈ wsX1_slip := by decide +kernel
theorem kX1_slip_3 : (.static Lib.Math.min.name : Cond) ∈ wsX1_slip := by decide +kernel
theorem kX1_slip_4 : (.initialized "java/lang/Math" : Cond) ∈ wsX1_slip := by decide +kernel
theorem kX1_slip_5 : (.code Lib.Math.min.name Lib.Math.min.code 2 (some .int) : Cond) ∈ wsX1_slip := by decide +kernel
theorem kX1_slip_6 : (.methodLink RX1 78 Lib.Math.max.name : Cond) ∈ wsX1_slip := by decide +kernel
theorem kX1_slip_7 : (.static Lib.Math.max.name : Cond) ∈ wsX1_slip := by decide +kernel
theorem kX1_slip_8 : (.code Lib.Math.max.name Lib.Math.max.code 2 (some .int) : Cond) ∈ wsX1_slip := by decide +kernel
set_option maxHeartbeats 4000000 in
set_option maxRecDepth 100000 in
theorem mX1_slip (l : Launch) (D : va_G) (cy : Nat → ClassId) (sz : Nat) (q : Nat → Nat) (h : HS) (k : Nat) (hk : k < 12) (da : Int32) : Met l yX1_slip wsX1_slip ({ frames := 1, cells := 0, slots := 0, locals := 21 } : Room) (va_Pc [.ref (q 0), .int (nI k), .int da] (fun U => U.heap.size = sz ∧ va_P D vwCl (wH cy q h) U.heap ∧ va_K D vwCl (TY cy) U ∧ va_D (fun _ => True) (wH cy q h))) (va_Qv (fun (_ : Unit) => True) (fun (_ : Unit) t => va_P D vwCl (wH cy q (hSlip da h k)) t.heap ∧ va_D (va_A (wH cy q h) sz) (wH cy q (hSlip da h k))) (va_A (wH cy q h) sz)) 0 0 (va_A (wH cy q h) sz) := by
  refine Met.ofW (cc := cX1_slip) (maxL := 3) (ret := none) (by decide) rfl ?_
  intro p e s m args below meth c s₁ B hml hv
  obtain ⟨rfl, hsz, hP, hK, hD0⟩ := hv
  have hx := B.exec
  have hb := B.bytes
  have hr := B.returns
  have hts := atoms_spec (ws := wsX1_slip) B.pre
  have hown : s.vm.findClass RX1 = some m.cls := findClass_of_methodNamed B.named
  have hlocks := B.notSynchronized
  have hl := lv_entry ([.ref (q 0), .int (nI k), .int da]) (n := 3) (Nat.le_of_ble_eq_true rfl)
  rw [lg_entry_eq]
  generalize (lg_sl ([.ref (q 0), .int (nI k), .int da]) ++ List.replicate (3 - (lg_sl ([.ref (q 0), .int (nI k), .int da])).length) Slot.unset).toArray = ls at hl ⊢
  have hl : lv_has ls 3 [(0, .ref (q 0)), (1, .int (nI k)), (2, .int da)] := hl
  subst hsz
  have hD := hD0.self (sz := s.heap.size)
  generalize hAe : va_A (wH cy q h) s.heap.size = A at hD ⊢
  have hA : ∀ q : Nat, s.heap.size ≤ q → A q := fun q h => by rw [← hAe]; exact Or.inr h
  have hS : va_S A s.heap s.heap [] := va_S.rf
  have hP : va_P D vwCl (wH cy q h) s.heap := hP
  refine lv_aload_n hx hb dX1_slip_0 rfl (lv_at hl 0 rfl) ?_
  refine va_get (D := D) (ci := 1) (v := .ref (q 4)) (C := RX1) (T := TX1) (N := 8) hx hb hts inX1_slip_RX1 hown hK hP 0 rfl rfl 3 (by decide) (hts _ kX1_slip_0) (fun _ h9 => h9) rfl dX1_slip_1 ?_
  refine lv_iload_n hx hb dX1_slip_4 rfl (lv_at hl 1 rfl) ?_
  refine pc_iald hx hb hK hP 4 0 rfl rfl (k := k) (show k < 12 by omega) (by decide) dX1_slip_5 ?_
  refine lv_bipush (v := 50) hx hb dX1_slip_6 (by decide) ?_
  refine lv_icmp_lt (tgt := 33) hx hb dX1_slip_8 (by decide) (fun c8 => ?_) (fun c8 => ?_)
  · refine lv_iload_n hx hb dX1_slip_33 rfl (lv_at hl 2 rfl) ?_
    refine lv_bipush (v := 6) hx hb dX1_slip_34 (by decide) ?_
    refine lv_icmp_lt (tgt := 58) hx hb dX1_slip_36 (by decide) (fun c36 => ?_) (fun c36 => ?_)
    · have hP9 : va_P D vwCl (wH cy q (hSlip da h k)) s.heap := (by simp only [hSlip, slipd, if_pos c8, if_pos c36]; first | exact hP | (rw [upd_id]; exact hP))
      have hD9 : va_D A (wH cy q (hSlip da h k)) := (by simp only [hSlip, slipd, if_pos c8, if_pos c36]; first | exact hD | (rw [upd_id]; exact hD))
      exact W.vret hx hb hr (fun t ht hW => ⟨⟨(), rfl, trivial, by rw [ht]; exact hP9, hD9⟩, hS.F ht⟩) hS.2.2 dX1_slip_58
    · refine lv_aload_n hx hb dX1_slip_39 rfl (lv_at hl 0 rfl) ?_
      refine va_get (D := D) (ci := 1) (v := .ref (q 3)) (C := RX1) (T := TX1) (N := 8) hx hb hts inX1_slip_RX1 hown hK hP 0 rfl rfl 2 (by decide) (hts _ kX1_slip_1) (fun _ h9 => h9) rfl dX1_slip_40 ?_
      refine lv_iload_n hx hb dX1_slip_43 rfl (lv_at hl 1 rfl) ?_
      refine lv_bipush (v := 50) hx hb dX1_slip_44 (by decide) ?_
      refine lv_aload_n hx hb dX1_slip_46 rfl (lv_at hl 0 rfl) ?_
      refine va_get (D := D) (ci := 1) (v := .ref (q 3)) (C := RX1) (T := TX1) (N := 8) hx hb hts inX1_slip_RX1 hown hK hP 0 rfl rfl 2 (by decide) (hts _ kX1_slip_1) (fun _ h9 => h9) rfl dX1_slip_47 ?_
      refine lv_iload_n hx hb dX1_slip_50 rfl (lv_at hl 1 rfl) ?_
      refine pc_iald hx hb hK hP 3 0 rfl rfl (k := k) (show k < 12 by omega) (by decide) dX1_slip_51 ?_
      refine lv_iconst (v := 1) hx hb dX1_slip_52 (by decide) ?_
      refine lv_iadd hx hb dX1_slip_53 ?_
      refine va_mmin hx hb (by rw [hml]; exact hl.1.symm) hown (hts _ kX1_slip_2) (hts _ kX1_slip_3) (hts _ kX1_slip_4) (hts _ kX1_slip_5) (Nat.le_of_ble_eq_true rfl) (Nat.le_of_ble_eq_true rfl) (Nat.zero_le _) (Nat.zero_le _) dX1_slip_54 ?_
      refine pc_top (show (if (((zd h) k) + 1) < 50 then (((zd h) k) + 1) else 50) = mn 50 (((zd h) k) + 1) from rfl) ?_
      refine pc_iast hx hb hK hP hD hS 3 0 rfl rfl (k := k) (show k < 12 by omega) (by decide) dX1_slip_57 (fun H locs hP hD hS => ?_)
      have hP : va_P D vwCl [(q 0, .inr (1, [.ref (q 1), .ref (q 2), .ref (q 3), .ref (q 4), .ref (q 5), .ref (q 6), .int (zl h), .int (nI (zh h))])), (q 1, .inl ((cy 0), 12, .inl (zb h))), (q 2, .inl ((cy 0), 12, .inl (zw h))), (q 3, .inl ((cy 0), 12, .inl (upd (zd h) k (mn 50 (((zd h) k) + 1))))), (q 4, .inl ((cy 0), 12, .inl (zs h))), (q 5, .inl ((cy 0), 12, .inl (zr h))), (q 6, .inl ((cy 1), 12, .inl (zo h)))] H := hP
      have hD : va_D A [(q 0, .inr (1, [.ref (q 1), .ref (q 2), .ref (q 3), .ref (q 4), .ref (q 5), .ref (q 6), .int (zl h), .int (nI (zh h))])), (q 1, .inl ((cy 0), 12, .inl (zb h))), (q 2, .inl ((cy 0), 12, .inl (zw h))), (q 3, .inl ((cy 0), 12, .inl (upd (zd h) k (mn 50 (((zd h) k) + 1))))), (q 4, .inl ((cy 0), 12, .inl (zs h))), (q 5, .inl ((cy 0), 12, .inl (zr h))), (q 6, .inl ((cy 1), 12, .inl (zo h)))] := hD
      have hP9 : va_P D vwCl (wH cy q (hSlip da h k)) H := (by simp only [hSlip, slipd, if_pos c8, if_neg c36]; first | exact hP | (rw [upd_id]; exact hP))
      have hD9 : va_D A (wH cy q (hSlip da h k)) := (by simp only [hSlip, slipd, if_pos c8, if_neg c36]; first | exact hD | (rw [upd_id]; exact hD))
      exact W.vret hx hb hr (fun t ht hW => ⟨⟨(), rfl, trivial, by rw [ht]; exact hP9, hD9⟩, hS.F ht⟩) hS.2.2 dX1_slip_58
  · refine lv_aload_n hx hb dX1_slip_11 rfl (lv_at hl 0 rfl) ?_
    refine va_get (D := D) (ci := 1) (v := .ref (q 3)) (C := RX1) (T := TX1) (N := 8) hx hb hts inX1_slip_RX1 hown hK hP 0 rfl rfl 2 (by decide) (hts _ kX1_slip_1) (fun _ h9 => h9) rfl dX1_slip_12 ?_
    refine lv_iload_n hx hb dX1_slip_15 rfl (lv_at hl 1 rfl) ?_
    refine lv_bipush (v := (-50)) hx hb dX1_slip_16 (by decide) ?_
    refine lv_aload_n hx hb dX1_slip_18 rfl (lv_at hl 0 rfl) ?_
    refine va_get (D := D) (ci := 1) (v := .ref (q 3)) (C := RX1) (T := TX1) (N := 8) hx hb hts inX1_slip_RX1 hown hK hP 0 rfl rfl 2 (by decide) (hts _ kX1_slip_1) (fun _ h9 => h9) rfl dX1_slip_19 ?_
    refine lv_iload_n hx hb dX1_slip_22 rfl (lv_at hl 1 rfl) ?_
    refine pc_iald hx hb hK hP 3 0 rfl rfl (k := k) (show k < 12 by omega) (by decide) dX1_slip_23 ?_
    refine lv_iconst (v := 1) hx hb dX1_slip_24 (by decide) ?_
    refine lv_isub hx hb dX1_slip_25 ?_
    refine va_mmax hx hb (by rw [hml]; exact hl.1.symm) hown (hts _ kX1_slip_6) (hts _ kX1_slip_7) (hts _ kX1_slip_4) (hts _ kX1_slip_8) (Nat.le_of_ble_eq_true rfl) (Nat.le_of_ble_eq_true rfl) (Nat.zero_le _) (Nat.zero_le _) dX1_slip_26 ?_
    refine pc_top (show (if (-50) < (((zd h) k) - 1) then (((zd h) k) - 1) else (-50)) = mx (-50) (((zd h) k) - 1) from rfl) ?_
    refine pc_iast hx hb hK hP hD hS 3 0 rfl rfl (k := k) (show k < 12 by omega) (by decide) dX1_slip_29 (fun H locs hP hD hS => ?_)
    have hP : va_P D vwCl [(q 0, .inr (1, [.ref (q 1), .ref (q 2), .ref (q 3), .ref (q 4), .ref (q 5), .ref (q 6), .int (zl h), .int (nI (zh h))])), (q 1, .inl ((cy 0), 12, .inl (zb h))), (q 2, .inl ((cy 0), 12, .inl (zw h))), (q 3, .inl ((cy 0), 12, .inl (upd (zd h) k (mx (-50) (((zd h) k) - 1))))), (q 4, .inl ((cy 0), 12, .inl (zs h))), (q 5, .inl ((cy 0), 12, .inl (zr h))), (q 6, .inl ((cy 1), 12, .inl (zo h)))] H := hP
    have hD : va_D A [(q 0, .inr (1, [.ref (q 1), .ref (q 2), .ref (q 3), .ref (q 4), .ref (q 5), .ref (q 6), .int (zl h), .int (nI (zh h))])), (q 1, .inl ((cy 0), 12, .inl (zb h))), (q 2, .inl ((cy 0), 12, .inl (zw h))), (q 3, .inl ((cy 0), 12, .inl (upd (zd h) k (mx (-50) (((zd h) k) - 1))))), (q 4, .inl ((cy 0), 12, .inl (zs h))), (q 5, .inl ((cy 0), 12, .inl (zr h))), (q 6, .inl ((cy 1), 12, .inl (zo h)))] := hD
    refine lv_goto (tgt := 58) hx hb dX1_slip_30 (by decide) ?_
    have hP9 : va_P D vwCl (wH cy q (hSlip da h k)) H := (by simp only [hSlip, slipd, if_neg c8]; first | exact hP | (rw [upd_id]; exact hP))
    have hD9 : va_D A (wH cy q (hSlip da h k)) := (by simp only [hSlip, slipd, if_neg c8]; first | exact hD | (rw [upd_id]; exact hD))
    exact W.vret hx hb hr (fun t ht hW => ⟨⟨(), rfl, trivial, by rw [ht]; exact hP9, hD9⟩, hS.F ht⟩) hS.2.2 dX1_slip_58

theorem inX1_swell_RX1 : ∀ w ∈ u_ws RX1 TX1 8, w ∈ wsX1_swell := by decide +kernel
theorem kX1_swell_0 : (.fieldLink RX1 31 "WedgeHarps$Harp" "swelling" "I" : Cond) ∈ wsX1_swell := by decide +kernel
theorem kX1_swell_1 : (.methodLink RX1 78 Lib.Math.max.name : Cond) ∈ wsX1_swell := by decide +kernel
theorem kX1_swell_2 : (.static Lib.Math.max.name : Cond) ∈ wsX1_swell := by decide +kernel
theorem kX1_swell_3 : (.initialized "java/lang/Math" : Cond) ∈ wsX1_swell := by decide +kernel
theorem kX1_swell_4 : (.code Lib.Math.max.name Lib.Math.max.code 2 (some .int) : Cond) ∈ wsX1_swell := by decide +kernel
theorem kX1_swell_5 : (.methodLink RX1 81 Lib.Math.min.name : Cond) ∈ wsX1_swell := by decide +kernel
theorem kX1_swell_6 : (.static Lib.Math.min.name : Cond) ∈ wsX1_swell := by decide +kernel
theorem kX1_swell_7 : (.code Lib.Math.min.name Lib.Math.min.code 2 (some .int) : Cond) ∈ wsX1_swell := by decide +kernel
set_option maxHeartbeats 4000000 in
set_option maxRecDepth 100000 in
theorem mX1_swell (l : Launch) (D : va_G) (cy : Nat → ClassId) (sz : Nat) (q : Nat → Nat) (h : HS) (da : Int32) : Met l yX1_swell wsX1_swell ({ frames := 1, cells := 0, slots := 0, locals := 21 } : Room) (va_Pc [.ref (q 0), .int da] (fun U => U.heap.size = sz ∧ va_P D vwCl (wH cy q h) U.heap ∧ va_K D vwCl (TY cy) U ∧ va_D (fun _ => True) (wH cy q h))) (va_Qv (fun (_ : Unit) => True) (fun (_ : Unit) t => va_P D vwCl (wH cy q (hSwell da h)) t.heap ∧ va_D (va_A (wH cy q h) sz) (wH cy q (hSwell da h))) (va_A (wH cy q h) sz)) 0 0 (va_A (wH cy q h) sz) := by
  refine Met.ofW (cc := cX1_swell) (maxL := 2) (ret := none) (by decide) rfl ?_
  intro p e s m args below meth c s₁ B hml hv
  obtain ⟨rfl, hsz, hP, hK, hD0⟩ := hv
  have hx := B.exec
  have hb := B.bytes
  have hr := B.returns
  have hts := atoms_spec (ws := wsX1_swell) B.pre
  have hown : s.vm.findClass RX1 = some m.cls := findClass_of_methodNamed B.named
  have hlocks := B.notSynchronized
  have hl := lv_entry ([.ref (q 0), .int da]) (n := 2) (Nat.le_of_ble_eq_true rfl)
  rw [lg_entry_eq]
  generalize (lg_sl ([.ref (q 0), .int da]) ++ List.replicate (2 - (lg_sl ([.ref (q 0), .int da])).length) Slot.unset).toArray = ls at hl ⊢
  have hl : lv_has ls 2 [(0, .ref (q 0)), (1, .int da)] := hl
  subst hsz
  have hD := hD0.self (sz := s.heap.size)
  generalize hAe : va_A (wH cy q h) s.heap.size = A at hD ⊢
  have hA : ∀ q : Nat, s.heap.size ≤ q → A q := fun q h => by rw [← hAe]; exact Or.inr h
  have hS : va_S A s.heap s.heap [] := va_S.rf
  have hP : va_P D vwCl (wH cy q h) s.heap := hP
  refine lv_aload_n hx hb dX1_swell_0 rfl (lv_at hl 0 rfl) ?_
  refine lv_iload_n hx hb dX1_swell_1 rfl (lv_at hl 1 rfl) ?_
  refine lv_iconst (v := 5) hx hb dX1_swell_2 (by decide) ?_
  refine lv_icmp_lt (tgt := 20) hx hb dX1_swell_3 (by decide) (fun c3 => ?_) (fun c3 => ?_)
  · refine lv_iconst (v := 0) hx hb dX1_swell_20 (by decide) ?_
    refine lv_aload_n hx hb dX1_swell_21 rfl (lv_at hl 0 rfl) ?_
    refine va_get (D := D) (ci := 1) (v := .int (zl h)) (C := RX1) (T := TX1) (N := 8) hx hb hts inX1_swell_RX1 hown hK hP 0 rfl rfl 6 (by decide) (hts _ kX1_swell_0) (fun _ h9 => h9) rfl dX1_swell_22 ?_
    refine lv_iconst (v := 1) hx hb dX1_swell_25 (by decide) ?_
    refine lv_isub hx hb dX1_swell_26 ?_
    refine va_mmax hx hb (by rw [hml]; exact hl.1.symm) hown (hts _ kX1_swell_1) (hts _ kX1_swell_2) (hts _ kX1_swell_3) (hts _ kX1_swell_4) (Nat.le_of_ble_eq_true rfl) (Nat.le_of_ble_eq_true rfl) (Nat.zero_le _) (Nat.zero_le _) dX1_swell_27 ?_
    refine pc_top (show (if 0 < ((zl h) - 1) then ((zl h) - 1) else 0) = mx 0 ((zl h) - 1) from rfl) ?_
    refine va_put (D := D) (ci := 1) (v := .int (mx 0 ((zl h) - 1))) (ty := .int) (C := RX1) (T := TX1) (N := 8) hx hb hts inX1_swell_RX1 tyX1 tyX1_ok nmX1 hown hK hP hD hS 0 rfl rfl 6 (by decide) (hts _ kX1_swell_0) (fun _ h9 => h9) rfl (by decide +kernel) rfl rfl (Nat.le_of_ble_eq_true rfl) dX1_swell_30 (fun H locs hP hD hS => ?_)
    have hP : va_P D vwCl [(q 0, .inr (1, [.ref (q 1), .ref (q 2), .ref (q 3), .ref (q 4), .ref (q 5), .ref (q 6), .int (mx 0 ((zl h) - 1)), .int (nI (zh h))])), (q 1, .inl ((cy 0), 12, .inl (zb h))), (q 2, .inl ((cy 0), 12, .inl (zw h))), (q 3, .inl ((cy 0), 12, .inl (zd h))), (q 4, .inl ((cy 0), 12, .inl (zs h))), (q 5, .inl ((cy 0), 12, .inl (zr h))), (q 6, .inl ((cy 1), 12, .inl (zo h)))] H := hP
    have hD : va_D A [(q 0, .inr (1, [.ref (q 1), .ref (q 2), .ref (q 3), .ref (q 4), .ref (q 5), .ref (q 6), .int (mx 0 ((zl h) - 1)), .int (nI (zh h))])), (q 1, .inl ((cy 0), 12, .inl (zb h))), (q 2, .inl ((cy 0), 12, .inl (zw h))), (q 3, .inl ((cy 0), 12, .inl (zd h))), (q 4, .inl ((cy 0), 12, .inl (zs h))), (q 5, .inl ((cy 0), 12, .inl (zr h))), (q 6, .inl ((cy 1), 12, .inl (zo h)))] := hD
    have hP9 : va_P D vwCl (wH cy q (hSwell da h)) H := (by simp only [hSwell, swell, if_pos c3]; exact hP)
    have hD9 : va_D A (wH cy q (hSwell da h)) := (by simp only [hSwell, swell, if_pos c3]; exact hD)
    exact W.vret hx hb hr (fun t ht hW => ⟨⟨(), rfl, trivial, by rw [ht]; exact hP9, hD9⟩, hS.F ht⟩) hS.2.2 dX1_swell_33
  · refine lv_bipush (v := 30) hx hb dX1_swell_6 (by decide) ?_
    refine lv_aload_n hx hb dX1_swell_8 rfl (lv_at hl 0 rfl) ?_
    refine va_get (D := D) (ci := 1) (v := .int (zl h)) (C := RX1) (T := TX1) (N := 8) hx hb hts inX1_swell_RX1 hown hK hP 0 rfl rfl 6 (by decide) (hts _ kX1_swell_0) (fun _ h9 => h9) rfl dX1_swell_9 ?_
    refine lv_iconst (v := 1) hx hb dX1_swell_12 (by decide) ?_
    refine lv_iadd hx hb dX1_swell_13 ?_
    refine va_mmin hx hb (by rw [hml]; exact hl.1.symm) hown (hts _ kX1_swell_5) (hts _ kX1_swell_6) (hts _ kX1_swell_3) (hts _ kX1_swell_7) (Nat.le_of_ble_eq_true rfl) (Nat.le_of_ble_eq_true rfl) (Nat.zero_le _) (Nat.zero_le _) dX1_swell_14 ?_
    refine pc_top (show (if ((zl h) + 1) < 30 then ((zl h) + 1) else 30) = mn 30 ((zl h) + 1) from rfl) ?_
    refine lv_goto (tgt := 30) hx hb dX1_swell_17 (by decide) ?_
    refine va_put (D := D) (ci := 1) (v := .int (mn 30 ((zl h) + 1))) (ty := .int) (C := RX1) (T := TX1) (N := 8) hx hb hts inX1_swell_RX1 tyX1 tyX1_ok nmX1 hown hK hP hD hS 0 rfl rfl 6 (by decide) (hts _ kX1_swell_0) (fun _ h9 => h9) rfl (by decide +kernel) rfl rfl (Nat.le_of_ble_eq_true rfl) dX1_swell_30 (fun H locs hP hD hS => ?_)
    have hP : va_P D vwCl [(q 0, .inr (1, [.ref (q 1), .ref (q 2), .ref (q 3), .ref (q 4), .ref (q 5), .ref (q 6), .int (mn 30 ((zl h) + 1)), .int (nI (zh h))])), (q 1, .inl ((cy 0), 12, .inl (zb h))), (q 2, .inl ((cy 0), 12, .inl (zw h))), (q 3, .inl ((cy 0), 12, .inl (zd h))), (q 4, .inl ((cy 0), 12, .inl (zs h))), (q 5, .inl ((cy 0), 12, .inl (zr h))), (q 6, .inl ((cy 1), 12, .inl (zo h)))] H := hP
    have hD : va_D A [(q 0, .inr (1, [.ref (q 1), .ref (q 2), .ref (q 3), .ref (q 4), .ref (q 5), .ref (q 6), .int (mn 30 ((zl h) + 1)), .int (nI (zh h))])), (q 1, .inl ((cy 0), 12, .inl (zb h))), (q 2, .inl ((cy 0), 12, .inl (zw h))), (q 3, .inl ((cy 0), 12, .inl (zd h))), (q 4, .inl ((cy 0), 12, .inl (zs h))), (q 5, .inl ((cy 0), 12, .inl (zr h))), (q 6, .inl ((cy 1), 12, .inl (zo h)))] := hD
    have hP9 : va_P D vwCl (wH cy q (hSwell da h)) H := (by simp only [hSwell, swell, if_neg c3]; exact hP)
    have hD9 : va_D A (wH cy q (hSwell da h)) := (by simp only [hSwell, swell, if_neg c3]; exact hD)
    exact W.vret hx hb hr (fun t ht hW => ⟨⟨(), rfl, trivial, by rw [ht]; exact hP9, hD9⟩, hS.F ht⟩) hS.2.2 dX1_swell_33

theorem inX1_breaksIn_RX1 : ∀ w ∈ u_ws RX1 TX1 8, w ∈ wsX1_breaksIn := by decide +kernel
theorem kX1_breaksIn_0 : (.fieldLink RX1 21 "WedgeHarps$Harp" "strain" "[I" : Cond) ∈ wsX1_breaksIn := by decide +kernel
theorem kX1_breaksIn_1 : (.methodLink RX1 78 Lib.Math.max.name : Cond) ∈ wsX1_breaksIn := by decide +kernel
theorem kX1_breaksIn_2 : (.static Lib.Math.max.name : Cond) ∈ wsX1_breaksIn := by decide +kernel
theorem kX1_breaksIn_3 : (.initialized "java/lang/Math" : Cond) ∈ wsX1_breaksIn := by decide +kernel
theorem kX1_breaksIn_4 : (.code Lib.Math.max.name Lib.Math.max.code 2 (some .int) : Cond) ∈ wsX1_breaksIn := by decide +kernel
theorem kX1_breaksIn_5 : (.fieldLink RX1 27 "WedgeHarps$Harp" "whole" "[Z" : Cond) ∈ wsX1_breaksIn := by decide +kernel
theorem kX1_breaksIn_6 : (.fieldLink RX1 18 "WedgeHarps$Harp" "drift" "[I" : Cond) ∈ wsX1_breaksIn := by decide +kernel
theorem kX1_breaksIn_7 : (.fieldLink RX1 24 "WedgeHarps$Harp" "breaks" "[I" : Cond) ∈ wsX1_breaksIn := by decide +kernel
set_option maxHeartbeats 4000000 in
set_option maxRecDepth 100000 in
theorem mX1_breaksIn (l : Launch) (D : va_G) (cy : Nat → ClassId) (sz : Nat) (q : Nat → Nat) (h : HS) (k : Nat) (hk : k < 12) (wi : Int32) : Met l yX1_breaksIn wsX1_breaksIn ({ frames := 1, cells := 0, slots := 0, locals := 22 } : Room) (va_Pc [.ref (q 0), .int (nI k), .int wi] (fun U => U.heap.size = sz ∧ va_P D vwCl (wH cy q h) U.heap ∧ va_K D vwCl (TY cy) U ∧ va_D (fun _ => True) (wH cy q h))) (va_Qi (fun (r8 : Int32) (_ : Unit) => r8 = bI (decide (100 < pull wi h k))) (fun (_ : Unit) t => va_P D vwCl (wH cy q (hBrk wi h k)) t.heap ∧ va_D (va_A (wH cy q h) sz) (wH cy q (hBrk wi h k))) (va_A (wH cy q h) sz)) 0 0 (va_A (wH cy q h) sz) := by
  refine Met.ofW (cc := cX1_breaksIn) (maxL := 4) (ret := (some .boolean)) (by decide) rfl ?_
  intro p e s m args below meth c s₁ B hml hv
  obtain ⟨rfl, hsz, hP, hK, hD0⟩ := hv
  have hx := B.exec
  have hb := B.bytes
  have hr := B.returns
  have hts := atoms_spec (ws := wsX1_breaksIn) B.pre
  have hown : s.vm.findClass RX1 = some m.cls := findClass_of_methodNamed B.named
  have hlocks := B.notSynchronized
  have hl := lv_entry ([.ref (q 0), .int (nI k), .int wi]) (n := 4) (Nat.le_of_ble_eq_true rfl)
  rw [lg_entry_eq]
  generalize (lg_sl ([.ref (q 0), .int (nI k), .int wi]) ++ List.replicate (4 - (lg_sl ([.ref (q 0), .int (nI k), .int wi])).length) Slot.unset).toArray = ls at hl ⊢
  have hl : lv_has ls 4 [(0, .ref (q 0)), (1, .int (nI k)), (2, .int wi)] := hl
  subst hsz
  have hD := hD0.self (sz := s.heap.size)
  generalize hAe : va_A (wH cy q h) s.heap.size = A at hD ⊢
  have hA : ∀ q : Nat, s.heap.size ≤ q → A q := fun q h => by rw [← hAe]; exact Or.inr h
  have hS : va_S A s.heap s.heap [] := va_S.rf
  have hP : va_P D vwCl (wH cy q h) s.heap := hP
  refine lv_iconst (v := 0) hx hb dX1_breaksIn_0 (by decide) ?_
  refine lv_aload_n hx hb dX1_breaksIn_1 rfl (lv_at hl 0 rfl) ?_
  refine va_get (D := D) (ci := 1) (v := .ref (q 4)) (C := RX1) (T := TX1) (N := 8) hx hb hts inX1_breaksIn_RX1 hown hK hP 0 rfl rfl 3 (by decide) (hts _ kX1_breaksIn_0) (fun _ h9 => h9) rfl dX1_breaksIn_2 ?_
  refine lv_iload_n hx hb dX1_breaksIn_5 rfl (lv_at hl 1 rfl) ?_
  refine pc_iald hx hb hK hP 4 0 rfl rfl (k := k) (show k < 12 by omega) (by decide) dX1_breaksIn_6 ?_
  refine lv_iload_n hx hb dX1_breaksIn_7 rfl (lv_at hl 2 rfl) ?_
  refine lv_aload_n hx hb dX1_breaksIn_8 rfl (lv_at hl 0 rfl) ?_
  refine lv_iload_n hx hb dX1_breaksIn_9 rfl (lv_at hl 1 rfl) ?_
  refine pc_calli (va_runV (As := [.int (nI k)]) (rest := [.int wi, .int ((zs h) k), .int 0]) ⟨hx, hb, hml, hown, hts⟩ (mX1_toneOf l D cy q h k hk) (cwV 1 hts gX1_breaksIn_X1_toneOf rfl rfl rfl (by decide +kernel) ⟨Nat.le_of_ble_eq_true rfl, Nat.le_of_ble_eq_true rfl⟩) ⟨fun a U g mk q => ⟨q.1, q.2.1, va_K.moved (u := U) (U := U.calling g mk a) (Vm.Alike.refl U.vm) q.2.2⟩, va_recv hK hP (ci := 1) (q0 := 0) rfl rfl, fun U hU hW => ⟨rfl, by rw [hU]; exact hP, va_K.moved hW.alike hK⟩⟩ rfl rfl hl.1 rfl (lv_room (Nat.le_of_ble_eq_true rfl)) dX1_breaksIn_10 ⟨Nat.zero_le _, Nat.zero_le _⟩) (fun r9 hr9 => ?_)
  subst hr9
  refine lv_imul hx hb dX1_breaksIn_13 ?_
  refine lv_sipush (v := 1000) hx hb dX1_breaksIn_14 (by decide) ?_
  refine lv_idiv hx hb dX1_breaksIn_17 (by decide) ?_
  refine lv_iadd hx hb dX1_breaksIn_18 ?_
  refine lv_iconst (v := 2) hx hb dX1_breaksIn_19 (by decide) ?_
  refine lv_isub hx hb dX1_breaksIn_20 ?_
  refine va_mmax hx hb (by rw [hml]; exact hl.1.symm) hown (hts _ kX1_breaksIn_1) (hts _ kX1_breaksIn_2) (hts _ kX1_breaksIn_3) (hts _ kX1_breaksIn_4) (Nat.le_of_ble_eq_true rfl) (Nat.le_of_ble_eq_true rfl) (Nat.zero_le _) (Nat.zero_le _) dX1_breaksIn_21 ?_
  refine pc_top (show (if 0 < ((((zs h) k) + ((wi * (tone h k)) / 1000)) - 2) then ((((zs h) k) + ((wi * (tone h k)) / 1000)) - 2) else 0) = mx 0 ((((zs h) k) + ((wi * (tone h k)) / 1000)) - 2) from rfl) ?_
  refine pc_top (show mx 0 ((((zs h) k) + ((wi * (tone h k)) / 1000)) - 2) = pull wi h k from rfl) ?_
  refine lv_istore_n (lv' := [(3, .int (pull wi h k)), (0, .ref (q 0)), (1, .int (nI k)), (2, .int wi)]) hx hb dX1_breaksIn_24 rfl hl (by decide) rfl (fun ls hl => ?_)
  refine lv_iload_n hx hb dX1_breaksIn_25 rfl (lv_at hl 0 rfl) ?_
  refine lv_bipush (v := 100) hx hb dX1_breaksIn_26 (by decide) ?_
  refine lv_icmp_gt (tgt := 40) hx hb dX1_breaksIn_28 (by decide) (fun c28 => ?_) (fun c28 => ?_)
  · refine lv_aload_n hx hb dX1_breaksIn_40 rfl (lv_at hl 1 rfl) ?_
    refine va_get (D := D) (ci := 1) (v := .ref (q 6)) (C := RX1) (T := TX1) (N := 8) hx hb hts inX1_breaksIn_RX1 hown hK hP 0 rfl rfl 5 (by decide) (hts _ kX1_breaksIn_5) (fun _ h9 => h9) rfl dX1_breaksIn_41 ?_
    refine lv_iload_n hx hb dX1_breaksIn_44 rfl (lv_at hl 2 rfl) ?_
    refine lv_iconst (v := 0) hx hb dX1_breaksIn_45 (by decide) ?_
    refine pc_zast hx hb hK hP hD hS 6 1 rfl rfl (by decide) (k := k) (show k < 12 by omega) (by decide) dX1_breaksIn_46 (fun H locs hP hD hS => ?_)
    have hP : va_P D vwCl [(q 0, .inr (1, [.ref (q 1), .ref (q 2), .ref (q 3), .ref (q 4), .ref (q 5), .ref (q 6), .int (zl h), .int (nI (zh h))])), (q 1, .inl ((cy 0), 12, .inl (zb h))), (q 2, .inl ((cy 0), 12, .inl (zw h))), (q 3, .inl ((cy 0), 12, .inl (zd h))), (q 4, .inl ((cy 0), 12, .inl (zs h))), (q 5, .inl ((cy 0), 12, .inl (zr h))), (q 6, .inl ((cy 1), 12, .inl (upd (zo h) k 0)))] H := hP
    have hD : va_D A [(q 0, .inr (1, [.ref (q 1), .ref (q 2), .ref (q 3), .ref (q 4), .ref (q 5), .ref (q 6), .int (zl h), .int (nI (zh h))])), (q 1, .inl ((cy 0), 12, .inl (zb h))), (q 2, .inl ((cy 0), 12, .inl (zw h))), (q 3, .inl ((cy 0), 12, .inl (zd h))), (q 4, .inl ((cy 0), 12, .inl (zs h))), (q 5, .inl ((cy 0), 12, .inl (zr h))), (q 6, .inl ((cy 1), 12, .inl (upd (zo h) k 0)))] := hD
    refine lv_aload_n hx hb dX1_breaksIn_47 rfl (lv_at hl 1 rfl) ?_
    refine va_get (D := D) (ci := 1) (v := .ref (q 4)) (C := RX1) (T := TX1) (N := 8) hx hb hts inX1_breaksIn_RX1 hown hK hP 0 rfl rfl 3 (by decide) (hts _ kX1_breaksIn_0) (fun _ h9 => h9) rfl dX1_breaksIn_48 ?_
    refine lv_iload_n hx hb dX1_breaksIn_51 rfl (lv_at hl 2 rfl) ?_
    refine lv_iconst (v := 0) hx hb dX1_breaksIn_52 (by decide) ?_
    refine pc_iast hx hb hK hP hD hS 4 0 rfl rfl (k := k) (show k < 12 by omega) (by decide) dX1_breaksIn_53 (fun H locs hP hD hS => ?_)
    have hP : va_P D vwCl [(q 0, .inr (1, [.ref (q 1), .ref (q 2), .ref (q 3), .ref (q 4), .ref (q 5), .ref (q 6), .int (zl h), .int (nI (zh h))])), (q 1, .inl ((cy 0), 12, .inl (zb h))), (q 2, .inl ((cy 0), 12, .inl (zw h))), (q 3, .inl ((cy 0), 12, .inl (zd h))), (q 4, .inl ((cy 0), 12, .inl (upd (zs h) k 0))), (q 5, .inl ((cy 0), 12, .inl (zr h))), (q 6, .inl ((cy 1), 12, .inl (upd (zo h) k 0)))] H := hP
    have hD : va_D A [(q 0, .inr (1, [.ref (q 1), .ref (q 2), .ref (q 3), .ref (q 4), .ref (q 5), .ref (q 6), .int (zl h), .int (nI (zh h))])), (q 1, .inl ((cy 0), 12, .inl (zb h))), (q 2, .inl ((cy 0), 12, .inl (zw h))), (q 3, .inl ((cy 0), 12, .inl (zd h))), (q 4, .inl ((cy 0), 12, .inl (upd (zs h) k 0))), (q 5, .inl ((cy 0), 12, .inl (zr h))), (q 6, .inl ((cy 1), 12, .inl (upd (zo h) k 0)))] := hD
    refine lv_aload_n hx hb dX1_breaksIn_54 rfl (lv_at hl 1 rfl) ?_
    refine va_get (D := D) (ci := 1) (v := .ref (q 3)) (C := RX1) (T := TX1) (N := 8) hx hb hts inX1_breaksIn_RX1 hown hK hP 0 rfl rfl 2 (by decide) (hts _ kX1_breaksIn_6) (fun _ h9 => h9) rfl dX1_breaksIn_55 ?_
    refine lv_iload_n hx hb dX1_breaksIn_58 rfl (lv_at hl 2 rfl) ?_
    refine lv_iconst (v := 0) hx hb dX1_breaksIn_59 (by decide) ?_
    refine pc_iast hx hb hK hP hD hS 3 0 rfl rfl (k := k) (show k < 12 by omega) (by decide) dX1_breaksIn_60 (fun H locs hP hD hS => ?_)
    have hP : va_P D vwCl [(q 0, .inr (1, [.ref (q 1), .ref (q 2), .ref (q 3), .ref (q 4), .ref (q 5), .ref (q 6), .int (zl h), .int (nI (zh h))])), (q 1, .inl ((cy 0), 12, .inl (zb h))), (q 2, .inl ((cy 0), 12, .inl (zw h))), (q 3, .inl ((cy 0), 12, .inl (upd (zd h) k 0))), (q 4, .inl ((cy 0), 12, .inl (upd (zs h) k 0))), (q 5, .inl ((cy 0), 12, .inl (zr h))), (q 6, .inl ((cy 1), 12, .inl (upd (zo h) k 0)))] H := hP
    have hD : va_D A [(q 0, .inr (1, [.ref (q 1), .ref (q 2), .ref (q 3), .ref (q 4), .ref (q 5), .ref (q 6), .int (zl h), .int (nI (zh h))])), (q 1, .inl ((cy 0), 12, .inl (zb h))), (q 2, .inl ((cy 0), 12, .inl (zw h))), (q 3, .inl ((cy 0), 12, .inl (upd (zd h) k 0))), (q 4, .inl ((cy 0), 12, .inl (upd (zs h) k 0))), (q 5, .inl ((cy 0), 12, .inl (zr h))), (q 6, .inl ((cy 1), 12, .inl (upd (zo h) k 0)))] := hD
    refine lv_aload_n hx hb dX1_breaksIn_61 rfl (lv_at hl 1 rfl) ?_
    refine va_get (D := D) (ci := 1) (v := .ref (q 5)) (C := RX1) (T := TX1) (N := 8) hx hb hts inX1_breaksIn_RX1 hown hK hP 0 rfl rfl 4 (by decide) (hts _ kX1_breaksIn_7) (fun _ h9 => h9) rfl dX1_breaksIn_62 ?_
    refine lv_iload_n hx hb dX1_breaksIn_65 rfl (lv_at hl 2 rfl) ?_
    refine lv_dup2_11 hx hb dX1_breaksIn_66 rfl rfl ?_
    refine pc_iald hx hb hK hP 5 0 rfl rfl (k := k) (show k < 12 by omega) (by decide) dX1_breaksIn_67 ?_
    refine lv_iconst (v := 1) hx hb dX1_breaksIn_68 (by decide) ?_
    refine lv_iadd hx hb dX1_breaksIn_69 ?_
    refine pc_iast hx hb hK hP hD hS 5 0 rfl rfl (k := k) (show k < 12 by omega) (by decide) dX1_breaksIn_70 (fun H locs hP hD hS => ?_)
    have hP : va_P D vwCl [(q 0, .inr (1, [.ref (q 1), .ref (q 2), .ref (q 3), .ref (q 4), .ref (q 5), .ref (q 6), .int (zl h), .int (nI (zh h))])), (q 1, .inl ((cy 0), 12, .inl (zb h))), (q 2, .inl ((cy 0), 12, .inl (zw h))), (q 3, .inl ((cy 0), 12, .inl (upd (zd h) k 0))), (q 4, .inl ((cy 0), 12, .inl (upd (zs h) k 0))), (q 5, .inl ((cy 0), 12, .inl (upd (zr h) k (((zr h) k) + 1)))), (q 6, .inl ((cy 1), 12, .inl (upd (zo h) k 0)))] H := hP
    have hD : va_D A [(q 0, .inr (1, [.ref (q 1), .ref (q 2), .ref (q 3), .ref (q 4), .ref (q 5), .ref (q 6), .int (zl h), .int (nI (zh h))])), (q 1, .inl ((cy 0), 12, .inl (zb h))), (q 2, .inl ((cy 0), 12, .inl (zw h))), (q 3, .inl ((cy 0), 12, .inl (upd (zd h) k 0))), (q 4, .inl ((cy 0), 12, .inl (upd (zs h) k 0))), (q 5, .inl ((cy 0), 12, .inl (upd (zr h) k (((zr h) k) + 1)))), (q 6, .inl ((cy 1), 12, .inl (upd (zo h) k 0)))] := hD
    refine lv_iconst (v := 1) hx hb dX1_breaksIn_71 (by decide) ?_
    have hP9 : va_P D vwCl (wH cy q (hBrk wi h k)) H := (by simp only [hBrk, if_pos c28]; exact hP)
    have hD9 : va_D A (wH cy q (hBrk wi h k)) := (by simp only [hBrk, if_pos c28]; exact hD)
    exact W.zret (v := 1) hx hb hr (by decide) (fun t ht hW => ⟨⟨1, (), rfl, (by rw [decide_eq_true c28]; rfl), by rw [ht]; exact hP9, hD9⟩, hS.F ht⟩) hS.2.2 dX1_breaksIn_72
  · refine lv_aload_n hx hb dX1_breaksIn_31 rfl (lv_at hl 1 rfl) ?_
    refine va_get (D := D) (ci := 1) (v := .ref (q 4)) (C := RX1) (T := TX1) (N := 8) hx hb hts inX1_breaksIn_RX1 hown hK hP 0 rfl rfl 3 (by decide) (hts _ kX1_breaksIn_0) (fun _ h9 => h9) rfl dX1_breaksIn_32 ?_
    refine lv_iload_n hx hb dX1_breaksIn_35 rfl (lv_at hl 2 rfl) ?_
    refine lv_iload_n hx hb dX1_breaksIn_36 rfl (lv_at hl 0 rfl) ?_
    refine pc_iast hx hb hK hP hD hS 4 0 rfl rfl (k := k) (show k < 12 by omega) (by decide) dX1_breaksIn_37 (fun H locs hP hD hS => ?_)
    have hP : va_P D vwCl [(q 0, .inr (1, [.ref (q 1), .ref (q 2), .ref (q 3), .ref (q 4), .ref (q 5), .ref (q 6), .int (zl h), .int (nI (zh h))])), (q 1, .inl ((cy 0), 12, .inl (zb h))), (q 2, .inl ((cy 0), 12, .inl (zw h))), (q 3, .inl ((cy 0), 12, .inl (zd h))), (q 4, .inl ((cy 0), 12, .inl (upd (zs h) k (pull wi h k)))), (q 5, .inl ((cy 0), 12, .inl (zr h))), (q 6, .inl ((cy 1), 12, .inl (zo h)))] H := hP
    have hD : va_D A [(q 0, .inr (1, [.ref (q 1), .ref (q 2), .ref (q 3), .ref (q 4), .ref (q 5), .ref (q 6), .int (zl h), .int (nI (zh h))])), (q 1, .inl ((cy 0), 12, .inl (zb h))), (q 2, .inl ((cy 0), 12, .inl (zw h))), (q 3, .inl ((cy 0), 12, .inl (zd h))), (q 4, .inl ((cy 0), 12, .inl (upd (zs h) k (pull wi h k)))), (q 5, .inl ((cy 0), 12, .inl (zr h))), (q 6, .inl ((cy 1), 12, .inl (zo h)))] := hD
    refine lv_iconst (v := 0) hx hb dX1_breaksIn_38 (by decide) ?_
    have hP9 : va_P D vwCl (wH cy q (hBrk wi h k)) H := (by simp only [hBrk, if_neg c28]; exact hP)
    have hD9 : va_D A (wH cy q (hBrk wi h k)) := (by simp only [hBrk, if_neg c28]; exact hD)
    exact W.zret (v := 0) hx hb hr (by decide) (fun t ht hW => ⟨⟨0, (), rfl, (by rw [decide_eq_false c28]; rfl), by rw [ht]; exact hP9, hD9⟩, hS.F ht⟩) hS.2.2 dX1_breaksIn_39

set_option maxHeartbeats 4000000 in
set_option maxRecDepth 100000 in
theorem mJ9_floorMod_7cf53 (l : Launch) (D : va_G) (cy : Nat → ClassId) (a : Nat) (ha : a < 2147483648) : Met l yJ9_floorMod_7cf53 wsJ9_floorMod_7cf53 ({ frames := 0, cells := 0, slots := 0, locals := 0 } : Room) (va_Pc [.int (nI a), .int 12] (fun _ => True)) (vp_Si (fun r8 => r8 = nI (a % 12))) 0 0 (fun _ => False) := by
  refine va_MetF (cc := cJ9_floorMod_7cf53) (maxL := 3) (ret := (some .int)) (by decide +kernel) rfl ?_
  intro p e s m args below meth c s₁ B hml hv
  obtain ⟨rfl, -⟩ := hv
  have hx := B.exec
  have hb := B.bytes
  have hr := B.returns
  have hts := atoms_spec (ws := wsJ9_floorMod_7cf53) B.pre
  have hown : s.vm.findClass RJ9 = some m.cls := findClass_of_methodNamed B.named
  have hlocks := B.notSynchronized
  have hl := lv_entry ([.int (nI a), .int 12]) (n := 3) (Nat.le_of_ble_eq_true rfl)
  rw [lg_entry_eq]
  generalize (lg_sl ([.int (nI a), .int 12]) ++ List.replicate (3 - (lg_sl ([.int (nI a), .int 12])).length) Slot.unset).toArray = ls at hl ⊢
  have hl : lv_has ls 3 [(0, .int (nI a)), (1, .int 12)] := hl
  refine lv_iload_n hx hb dJ9_floorMod_7cf53_0 rfl (lv_at hl 0 rfl) ?_
  refine lv_iload_n hx hb dJ9_floorMod_7cf53_1 rfl (lv_at hl 1 rfl) ?_
  refine lv_irem hx hb dJ9_floorMod_7cf53_2 (by decide) ?_
  refine pc_top (show (nI a) - (nI a) / 12 * 12 = nI (a % 12) from pk_rem ha (by decide) (by decide)) ?_
  refine lv_istore_n (lv' := [(2, .int (nI (a % 12))), (0, .int (nI a)), (1, .int 12)]) hx hb dJ9_floorMod_7cf53_3 rfl hl (by decide) rfl (fun ls hl => ?_)
  refine lv_iload_n hx hb dJ9_floorMod_7cf53_4 rfl (lv_at hl 1 rfl) ?_
  refine lv_iload_n hx hb dJ9_floorMod_7cf53_5 rfl (lv_at hl 2 rfl) ?_
  refine lv_ixor hx hb dJ9_floorMod_7cf53_6 ?_
  refine lv_if_ge (tgt := 18) hx hb dJ9_floorMod_7cf53_7 (by decide) (fun c7 => ?_) (fun c7 => absurd c7 (nI_xor12 ha))
  refine lv_iload_n hx hb dJ9_floorMod_7cf53_18 rfl (lv_at hl 0 rfl) ?_
  exact W.iret (v := nI (a % 12)) hx hb hr (fun t ht hW => ⟨nI (a % 12), rfl, rfl, ht⟩) (fun q hq => absurd hq List.not_mem_nil) dJ9_floorMod_7cf53_19

theorem inX1_copy_RX1 : ∀ w ∈ u_ws RX1 TX1 8, w ∈ wsX1_copy := by decide +kernel
theorem kX1_copy_0 : (.fieldLink RX1 31 "WedgeHarps$Harp" "swelling" "I" : Cond) ∈ wsX1_copy := by decide +kernel
theorem kX1_copy_1 : (.fieldLink RX1 35 "WedgeHarps$Harp" "hour" "I" : Cond) ∈ wsX1_copy := by decide +kernel
theorem kX1_copy_2 : (.fieldLink RX1 9 "WedgeHarps$Harp" "base" "[I" : Cond) ∈ wsX1_copy := by decide +kernel
theorem kX1_copy_3 : (.fieldLink RX1 15 "WedgeHarps$Harp" "wedge" "[I" : Cond) ∈ wsX1_copy := by decide +kernel
theorem kX1_copy_4 : (.fieldLink RX1 18 "WedgeHarps$Harp" "drift" "[I" : Cond) ∈ wsX1_copy := by decide +kernel
theorem kX1_copy_5 : (.fieldLink RX1 21 "WedgeHarps$Harp" "strain" "[I" : Cond) ∈ wsX1_copy := by decide +kernel
theorem kX1_copy_6 : (.fieldLink RX1 24 "WedgeHarps$Harp" "breaks" "[I" : Cond) ∈ wsX1_copy := by decide +kernel
theorem kX1_copy_7 : (.fieldLink RX1 27 "WedgeHarps$Harp" "whole" "[Z" : Cond) ∈ wsX1_copy := by decide +kernel
set_option maxHeartbeats 4000000 in
set_option maxRecDepth 100000 in
theorem mX1_copy (l : Launch) (D : va_G) (cy : Nat → ClassId) (sz : Nat) (q q2 : Nat → Nat) (h h2 : HS) (ho : ok01 h2) : Met l yX1_copy wsX1_copy ({ frames := 0, cells := 0, slots := 0, locals := 0 } : Room) (va_Pc [.ref (q 0), .ref (q2 0)] (fun U => U.heap.size = sz ∧ va_P D vwCl (wH cy q h ++ wH cy q2 h2) U.heap ∧ va_K D vwCl (TY cy) U ∧ va_D (fun _ => True) (wH cy q h ++ wH cy q2 h2))) (va_Qv (fun (_ : Unit) => True) (fun (_ : Unit) t => va_P D vwCl (wH cy q h2 ++ wH cy q2 h2) t.heap ∧ va_D (va_A (wH cy q h ++ wH cy q2 h2) sz) (wH cy q h2 ++ wH cy q2 h2)) (va_A (wH cy q h ++ wH cy q2 h2) sz)) 0 0 (va_A (wH cy q h ++ wH cy q2 h2) sz) := by
  refine Met.ofW (cc := cX1_copy) (maxL := 3) (ret := none) (by decide) rfl ?_
  intro p e s m args below meth c s₁ B hml hv
  obtain ⟨rfl, hsz, hP, hK, hD0⟩ := hv
  have hx := B.exec
  have hb := B.bytes
  have hr := B.returns
  have hts := atoms_spec (ws := wsX1_copy) B.pre
  have hown : s.vm.findClass RX1 = some m.cls := findClass_of_methodNamed B.named
  have hlocks := B.notSynchronized
  have hl := lv_entry ([.ref (q 0), .ref (q2 0)]) (n := 3) (Nat.le_of_ble_eq_true rfl)
  rw [lg_entry_eq]
  generalize (lg_sl ([.ref (q 0), .ref (q2 0)]) ++ List.replicate (3 - (lg_sl ([.ref (q 0), .ref (q2 0)])).length) Slot.unset).toArray = ls at hl ⊢
  have hl : lv_has ls 3 [(0, .ref (q 0)), (1, .ref (q2 0))] := hl
  subst hsz
  have hD := hD0.self (sz := s.heap.size)
  generalize hAe : va_A (wH cy q h ++ wH cy q2 h2) s.heap.size = A at hD ⊢
  have hA : ∀ q : Nat, s.heap.size ≤ q → A q := fun q h => by rw [← hAe]; exact Or.inr h
  have hS : va_S A s.heap s.heap [] := va_S.rf
  have hP : va_P D vwCl (wH cy q h ++ wH cy q2 h2) s.heap := hP
  refine lv_iconst (v := 0) hx hb dX1_copy_0 (by decide) ?_
  refine lv_istore_n (lv' := [(2, .int 0), (0, .ref (q 0)), (1, .ref (q2 0))]) hx hb dX1_copy_1 rfl hl (by decide) rfl (fun ls hl => ?_)
  have loop2 : ∀ (n9 : Nat) (k : Nat), k ≤ 12 → 12 - k < n9 → ∀ (H : Heap) (locs : List Loc), va_P D vwCl (wH cy q (hCp k h h2) ++ wH cy q2 h2) H → va_D A (wH cy q (hCp k h h2) ++ wH cy q2 h2) → va_S A s.heap H locs → ∀ ls : Array Slot, lv_has ls 3 [(0, .ref (q 0)), (1, .ref (q2 0)), (2, .int (nI k))] → W p l e (headSpec wsX1_copy ({ frames := 0, cells := 0, slots := 0, locals := 0 } : Room)).room s m ([.ref (q 0), .ref (q2 0)] : List Value).toArray below meth c H locs 0 0 (MQ below (va_Qv (fun (_ : Unit) => True) (fun (_ : Unit) t => va_P D vwCl (wH cy q h2 ++ wH cy q2 h2) t.heap ∧ va_D A (wH cy q h2 ++ wH cy q2 h2)) A) ([.ref (q 0), .ref (q2 0)] : List Value).toArray s 0 0 A) (F0 m 2 ls []) := by
    intro n9
    induction n9 with
    | zero => intro k hk h9 H locs hP hD hS ls hl; exact absurd h9 (by omega)
    | succ n9 ih2 =>
      intro k hk h9 H locs hP hD hS ls hl
      refine lv_iload_n hx hb dX1_copy_2 rfl (lv_at hl 2 rfl) ?_
      refine lv_bipush (v := 12) hx hb dX1_copy_3 (by decide) ?_
      refine lv_icmp_ge (tgt := 86) hx hb dX1_copy_5 (by decide) (fun c5 => ?_) (fun c5 => ?_)
      · have n5 : 12 ≤ k := (nI_leI (a := 12) (b := k) (by omega) (by omega)).mp c5
        obtain rfl : k = 12 := by omega
        refine lv_aload_n hx hb dX1_copy_86 rfl (lv_at hl 0 rfl) ?_
        refine lv_aload_n hx hb dX1_copy_87 rfl (lv_at hl 1 rfl) ?_
        refine va_get (D := D) (ci := 1) (v := .int (zl h2)) (C := RX1) (T := TX1) (N := 8) hx hb hts inX1_copy_RX1 hown hK hP 7 rfl rfl 6 (by decide) (hts _ kX1_copy_0) (fun _ h9 => h9) rfl dX1_copy_88 ?_
        refine va_put (D := D) (ci := 1) (v := .int (zl h2)) (ty := .int) (C := RX1) (T := TX1) (N := 8) hx hb hts inX1_copy_RX1 tyX1 tyX1_ok nmX1 hown hK hP hD hS 0 rfl rfl 6 (by decide) (hts _ kX1_copy_0) (fun _ h9 => h9) rfl (by decide +kernel) rfl rfl (Nat.le_of_ble_eq_true rfl) dX1_copy_91 (fun H locs hP hD hS => ?_)
        have hP : va_P D vwCl [(q 0, .inr (1, [.ref (q 1), .ref (q 2), .ref (q 3), .ref (q 4), .ref (q 5), .ref (q 6), .int (zl h2), .int (nI (zh (hCp 12 h h2)))])), (q 1, .inl ((cy 0), 12, .inl (zb (hCp 12 h h2)))), (q 2, .inl ((cy 0), 12, .inl (zw (hCp 12 h h2)))), (q 3, .inl ((cy 0), 12, .inl (zd (hCp 12 h h2)))), (q 4, .inl ((cy 0), 12, .inl (zs (hCp 12 h h2)))), (q 5, .inl ((cy 0), 12, .inl (zr (hCp 12 h h2)))), (q 6, .inl ((cy 1), 12, .inl (zo (hCp 12 h h2)))), (q2 0, .inr (1, [.ref (q2 1), .ref (q2 2), .ref (q2 3), .ref (q2 4), .ref (q2 5), .ref (q2 6), .int (zl h2), .int (nI (zh h2))])), (q2 1, .inl ((cy 0), 12, .inl (zb h2))), (q2 2, .inl ((cy 0), 12, .inl (zw h2))), (q2 3, .inl ((cy 0), 12, .inl (zd h2))), (q2 4, .inl ((cy 0), 12, .inl (zs h2))), (q2 5, .inl ((cy 0), 12, .inl (zr h2))), (q2 6, .inl ((cy 1), 12, .inl (zo h2)))] H := hP
        have hD : va_D A [(q 0, .inr (1, [.ref (q 1), .ref (q 2), .ref (q 3), .ref (q 4), .ref (q 5), .ref (q 6), .int (zl h2), .int (nI (zh (hCp 12 h h2)))])), (q 1, .inl ((cy 0), 12, .inl (zb (hCp 12 h h2)))), (q 2, .inl ((cy 0), 12, .inl (zw (hCp 12 h h2)))), (q 3, .inl ((cy 0), 12, .inl (zd (hCp 12 h h2)))), (q 4, .inl ((cy 0), 12, .inl (zs (hCp 12 h h2)))), (q 5, .inl ((cy 0), 12, .inl (zr (hCp 12 h h2)))), (q 6, .inl ((cy 1), 12, .inl (zo (hCp 12 h h2)))), (q2 0, .inr (1, [.ref (q2 1), .ref (q2 2), .ref (q2 3), .ref (q2 4), .ref (q2 5), .ref (q2 6), .int (zl h2), .int (nI (zh h2))])), (q2 1, .inl ((cy 0), 12, .inl (zb h2))), (q2 2, .inl ((cy 0), 12, .inl (zw h2))), (q2 3, .inl ((cy 0), 12, .inl (zd h2))), (q2 4, .inl ((cy 0), 12, .inl (zs h2))), (q2 5, .inl ((cy 0), 12, .inl (zr h2))), (q2 6, .inl ((cy 1), 12, .inl (zo h2)))] := hD
        refine lv_aload_n hx hb dX1_copy_94 rfl (lv_at hl 0 rfl) ?_
        refine lv_aload_n hx hb dX1_copy_95 rfl (lv_at hl 1 rfl) ?_
        refine va_get (D := D) (ci := 1) (v := .int (nI (zh h2))) (C := RX1) (T := TX1) (N := 8) hx hb hts inX1_copy_RX1 hown hK hP 7 rfl rfl 7 (by decide) (hts _ kX1_copy_1) (fun _ h9 => h9) rfl dX1_copy_96 ?_
        refine va_put (D := D) (ci := 1) (v := .int (nI (zh h2))) (ty := .int) (C := RX1) (T := TX1) (N := 8) hx hb hts inX1_copy_RX1 tyX1 tyX1_ok nmX1 hown hK hP hD hS 0 rfl rfl 7 (by decide) (hts _ kX1_copy_1) (fun _ h9 => h9) rfl (by decide +kernel) rfl rfl (Nat.le_of_ble_eq_true rfl) dX1_copy_99 (fun H locs hP hD hS => ?_)
        have hP : va_P D vwCl [(q 0, .inr (1, [.ref (q 1), .ref (q 2), .ref (q 3), .ref (q 4), .ref (q 5), .ref (q 6), .int (zl h2), .int (nI (zh h2))])), (q 1, .inl ((cy 0), 12, .inl (zb (hCp 12 h h2)))), (q 2, .inl ((cy 0), 12, .inl (zw (hCp 12 h h2)))), (q 3, .inl ((cy 0), 12, .inl (zd (hCp 12 h h2)))), (q 4, .inl ((cy 0), 12, .inl (zs (hCp 12 h h2)))), (q 5, .inl ((cy 0), 12, .inl (zr (hCp 12 h h2)))), (q 6, .inl ((cy 1), 12, .inl (zo (hCp 12 h h2)))), (q2 0, .inr (1, [.ref (q2 1), .ref (q2 2), .ref (q2 3), .ref (q2 4), .ref (q2 5), .ref (q2 6), .int (zl h2), .int (nI (zh h2))])), (q2 1, .inl ((cy 0), 12, .inl (zb h2))), (q2 2, .inl ((cy 0), 12, .inl (zw h2))), (q2 3, .inl ((cy 0), 12, .inl (zd h2))), (q2 4, .inl ((cy 0), 12, .inl (zs h2))), (q2 5, .inl ((cy 0), 12, .inl (zr h2))), (q2 6, .inl ((cy 1), 12, .inl (zo h2)))] H := hP
        have hD : va_D A [(q 0, .inr (1, [.ref (q 1), .ref (q 2), .ref (q 3), .ref (q 4), .ref (q 5), .ref (q 6), .int (zl h2), .int (nI (zh h2))])), (q 1, .inl ((cy 0), 12, .inl (zb (hCp 12 h h2)))), (q 2, .inl ((cy 0), 12, .inl (zw (hCp 12 h h2)))), (q 3, .inl ((cy 0), 12, .inl (zd (hCp 12 h h2)))), (q 4, .inl ((cy 0), 12, .inl (zs (hCp 12 h h2)))), (q 5, .inl ((cy 0), 12, .inl (zr (hCp 12 h h2)))), (q 6, .inl ((cy 1), 12, .inl (zo (hCp 12 h h2)))), (q2 0, .inr (1, [.ref (q2 1), .ref (q2 2), .ref (q2 3), .ref (q2 4), .ref (q2 5), .ref (q2 6), .int (zl h2), .int (nI (zh h2))])), (q2 1, .inl ((cy 0), 12, .inl (zb h2))), (q2 2, .inl ((cy 0), 12, .inl (zw h2))), (q2 3, .inl ((cy 0), 12, .inl (zd h2))), (q2 4, .inl ((cy 0), 12, .inl (zs h2))), (q2 5, .inl ((cy 0), 12, .inl (zr h2))), (q2 6, .inl ((cy 1), 12, .inl (zo h2)))] := hD
        have hP9 : va_P D vwCl (wH cy q h2 ++ wH cy q2 h2) H := (va_P_row (g := zo h2) (va_P_row (g := zr h2) (va_P_row (g := zs h2) (va_P_row (g := zd h2) (va_P_row (g := zw h2) (va_P_row (g := zb h2) hP 1 rfl (fun j hj => if_pos ⟨Nat.zero_le _, hj⟩)) 2 rfl (fun j hj => if_pos ⟨Nat.zero_le _, hj⟩)) 3 rfl (fun j hj => if_pos ⟨Nat.zero_le _, hj⟩)) 4 rfl (fun j hj => if_pos ⟨Nat.zero_le _, hj⟩)) 5 rfl (fun j hj => if_pos ⟨Nat.zero_le _, hj⟩)) 6 rfl (fun j hj => if_pos ⟨Nat.zero_le _, hj⟩))
        have hD9 : va_D A (wH cy q h2 ++ wH cy q2 h2) := (va_D_addr hD rfl)
        exact W.vret hx hb hr (fun t ht hW => ⟨⟨(), rfl, trivial, by rw [ht]; exact hP9, hD9⟩, hS.F ht⟩) hS.2.2 dX1_copy_102
      · have n5 : ¬ (12 ≤ k) := fun h9 => c5 ((nI_leI (a := 12) (b := k) (by omega) (by omega)).mpr h9)
        refine lv_aload_n hx hb dX1_copy_8 rfl (lv_at hl 0 rfl) ?_
        refine va_get (D := D) (ci := 1) (v := .ref (q 1)) (C := RX1) (T := TX1) (N := 8) hx hb hts inX1_copy_RX1 hown hK hP 0 rfl rfl 0 (by decide) (hts _ kX1_copy_2) (fun _ h9 => h9) rfl dX1_copy_9 ?_
        refine lv_iload_n hx hb dX1_copy_12 rfl (lv_at hl 2 rfl) ?_
        refine lv_aload_n hx hb dX1_copy_13 rfl (lv_at hl 1 rfl) ?_
        refine va_get (D := D) (ci := 1) (v := .ref (q2 1)) (C := RX1) (T := TX1) (N := 8) hx hb hts inX1_copy_RX1 hown hK hP 7 rfl rfl 0 (by decide) (hts _ kX1_copy_2) (fun _ h9 => h9) rfl dX1_copy_14 ?_
        refine lv_iload_n hx hb dX1_copy_17 rfl (lv_at hl 2 rfl) ?_
        refine pc_iald hx hb hK hP 8 0 rfl rfl (k := k) (show k < 12 by omega) (by decide) dX1_copy_18 ?_
        refine pc_iast hx hb hK hP hD hS 1 0 rfl rfl (k := k) (show k < 12 by omega) (by decide) dX1_copy_19 (fun H locs hP hD hS => ?_)
        have hP : va_P D vwCl [(q 0, .inr (1, [.ref (q 1), .ref (q 2), .ref (q 3), .ref (q 4), .ref (q 5), .ref (q 6), .int (zl (hCp k h h2)), .int (nI (zh (hCp k h h2)))])), (q 1, .inl ((cy 0), 12, .inl (upd (zb (hCp k h h2)) k ((zb h2) k)))), (q 2, .inl ((cy 0), 12, .inl (zw (hCp k h h2)))), (q 3, .inl ((cy 0), 12, .inl (zd (hCp k h h2)))), (q 4, .inl ((cy 0), 12, .inl (zs (hCp k h h2)))), (q 5, .inl ((cy 0), 12, .inl (zr (hCp k h h2)))), (q 6, .inl ((cy 1), 12, .inl (zo (hCp k h h2)))), (q2 0, .inr (1, [.ref (q2 1), .ref (q2 2), .ref (q2 3), .ref (q2 4), .ref (q2 5), .ref (q2 6), .int (zl h2), .int (nI (zh h2))])), (q2 1, .inl ((cy 0), 12, .inl (zb h2))), (q2 2, .inl ((cy 0), 12, .inl (zw h2))), (q2 3, .inl ((cy 0), 12, .inl (zd h2))), (q2 4, .inl ((cy 0), 12, .inl (zs h2))), (q2 5, .inl ((cy 0), 12, .inl (zr h2))), (q2 6, .inl ((cy 1), 12, .inl (zo h2)))] H := hP
        have hD : va_D A [(q 0, .inr (1, [.ref (q 1), .ref (q 2), .ref (q 3), .ref (q 4), .ref (q 5), .ref (q 6), .int (zl (hCp k h h2)), .int (nI (zh (hCp k h h2)))])), (q 1, .inl ((cy 0), 12, .inl (upd (zb (hCp k h h2)) k ((zb h2) k)))), (q 2, .inl ((cy 0), 12, .inl (zw (hCp k h h2)))), (q 3, .inl ((cy 0), 12, .inl (zd (hCp k h h2)))), (q 4, .inl ((cy 0), 12, .inl (zs (hCp k h h2)))), (q 5, .inl ((cy 0), 12, .inl (zr (hCp k h h2)))), (q 6, .inl ((cy 1), 12, .inl (zo (hCp k h h2)))), (q2 0, .inr (1, [.ref (q2 1), .ref (q2 2), .ref (q2 3), .ref (q2 4), .ref (q2 5), .ref (q2 6), .int (zl h2), .int (nI (zh h2))])), (q2 1, .inl ((cy 0), 12, .inl (zb h2))), (q2 2, .inl ((cy 0), 12, .inl (zw h2))), (q2 3, .inl ((cy 0), 12, .inl (zd h2))), (q2 4, .inl ((cy 0), 12, .inl (zs h2))), (q2 5, .inl ((cy 0), 12, .inl (zr h2))), (q2 6, .inl ((cy 1), 12, .inl (zo h2)))] := hD
        refine lv_aload_n hx hb dX1_copy_20 rfl (lv_at hl 0 rfl) ?_
        refine va_get (D := D) (ci := 1) (v := .ref (q 2)) (C := RX1) (T := TX1) (N := 8) hx hb hts inX1_copy_RX1 hown hK hP 0 rfl rfl 1 (by decide) (hts _ kX1_copy_3) (fun _ h9 => h9) rfl dX1_copy_21 ?_
        refine lv_iload_n hx hb dX1_copy_24 rfl (lv_at hl 2 rfl) ?_
        refine lv_aload_n hx hb dX1_copy_25 rfl (lv_at hl 1 rfl) ?_
        refine va_get (D := D) (ci := 1) (v := .ref (q2 2)) (C := RX1) (T := TX1) (N := 8) hx hb hts inX1_copy_RX1 hown hK hP 7 rfl rfl 1 (by decide) (hts _ kX1_copy_3) (fun _ h9 => h9) rfl dX1_copy_26 ?_
        refine lv_iload_n hx hb dX1_copy_29 rfl (lv_at hl 2 rfl) ?_
        refine pc_iald hx hb hK hP 9 0 rfl rfl (k := k) (show k < 12 by omega) (by decide) dX1_copy_30 ?_
        refine pc_iast hx hb hK hP hD hS 2 0 rfl rfl (k := k) (show k < 12 by omega) (by decide) dX1_copy_31 (fun H locs hP hD hS => ?_)
        have hP : va_P D vwCl [(q 0, .inr (1, [.ref (q 1), .ref (q 2), .ref (q 3), .ref (q 4), .ref (q 5), .ref (q 6), .int (zl (hCp k h h2)), .int (nI (zh (hCp k h h2)))])), (q 1, .inl ((cy 0), 12, .inl (upd (zb (hCp k h h2)) k ((zb h2) k)))), (q 2, .inl ((cy 0), 12, .inl (upd (zw (hCp k h h2)) k ((zw h2) k)))), (q 3, .inl ((cy 0), 12, .inl (zd (hCp k h h2)))), (q 4, .inl ((cy 0), 12, .inl (zs (hCp k h h2)))), (q 5, .inl ((cy 0), 12, .inl (zr (hCp k h h2)))), (q 6, .inl ((cy 1), 12, .inl (zo (hCp k h h2)))), (q2 0, .inr (1, [.ref (q2 1), .ref (q2 2), .ref (q2 3), .ref (q2 4), .ref (q2 5), .ref (q2 6), .int (zl h2), .int (nI (zh h2))])), (q2 1, .inl ((cy 0), 12, .inl (zb h2))), (q2 2, .inl ((cy 0), 12, .inl (zw h2))), (q2 3, .inl ((cy 0), 12, .inl (zd h2))), (q2 4, .inl ((cy 0), 12, .inl (zs h2))), (q2 5, .inl ((cy 0), 12, .inl (zr h2))), (q2 6, .inl ((cy 1), 12, .inl (zo h2)))] H := hP
        have hD : va_D A [(q 0, .inr (1, [.ref (q 1), .ref (q 2), .ref (q 3), .ref (q 4), .ref (q 5), .ref (q 6), .int (zl (hCp k h h2)), .int (nI (zh (hCp k h h2)))])), (q 1, .inl ((cy 0), 12, .inl (upd (zb (hCp k h h2)) k ((zb h2) k)))), (q 2, .inl ((cy 0), 12, .inl (upd (zw (hCp k h h2)) k ((zw h2) k)))), (q 3, .inl ((cy 0), 12, .inl (zd (hCp k h h2)))), (q 4, .inl ((cy 0), 12, .inl (zs (hCp k h h2)))), (q 5, .inl ((cy 0), 12, .inl (zr (hCp k h h2)))), (q 6, .inl ((cy 1), 12, .inl (zo (hCp k h h2)))), (q2 0, .inr (1, [.ref (q2 1), .ref (q2 2), .ref (q2 3), .ref (q2 4), .ref (q2 5), .ref (q2 6), .int (zl h2), .int (nI (zh h2))])), (q2 1, .inl ((cy 0), 12, .inl (zb h2))), (q2 2, .inl ((cy 0), 12, .inl (zw h2))), (q2 3, .inl ((cy 0), 12, .inl (zd h2))), (q2 4, .inl ((cy 0), 12, .inl (zs h2))), (q2 5, .inl ((cy 0), 12, .inl (zr h2))), (q2 6, .inl ((cy 1), 12, .inl (zo h2)))] := hD
        refine lv_aload_n hx hb dX1_copy_32 rfl (lv_at hl 0 rfl) ?_
        refine va_get (D := D) (ci := 1) (v := .ref (q 3)) (C := RX1) (T := TX1) (N := 8) hx hb hts inX1_copy_RX1 hown hK hP 0 rfl rfl 2 (by decide) (hts _ kX1_copy_4) (fun _ h9 => h9) rfl dX1_copy_33 ?_
        refine lv_iload_n hx hb dX1_copy_36 rfl (lv_at hl 2 rfl) ?_
        refine lv_aload_n hx hb dX1_copy_37 rfl (lv_at hl 1 rfl) ?_
        refine va_get (D := D) (ci := 1) (v := .ref (q2 3)) (C := RX1) (T := TX1) (N := 8) hx hb hts inX1_copy_RX1 hown hK hP 7 rfl rfl 2 (by decide) (hts _ kX1_copy_4) (fun _ h9 => h9) rfl dX1_copy_38 ?_
        refine lv_iload_n hx hb dX1_copy_41 rfl (lv_at hl 2 rfl) ?_
        refine pc_iald hx hb hK hP 10 0 rfl rfl (k := k) (show k < 12 by omega) (by decide) dX1_copy_42 ?_
        refine pc_iast hx hb hK hP hD hS 3 0 rfl rfl (k := k) (show k < 12 by omega) (by decide) dX1_copy_43 (fun H locs hP hD hS => ?_)
        have hP : va_P D vwCl [(q 0, .inr (1, [.ref (q 1), .ref (q 2), .ref (q 3), .ref (q 4), .ref (q 5), .ref (q 6), .int (zl (hCp k h h2)), .int (nI (zh (hCp k h h2)))])), (q 1, .inl ((cy 0), 12, .inl (upd (zb (hCp k h h2)) k ((zb h2) k)))), (q 2, .inl ((cy 0), 12, .inl (upd (zw (hCp k h h2)) k ((zw h2) k)))), (q 3, .inl ((cy 0), 12, .inl (upd (zd (hCp k h h2)) k ((zd h2) k)))), (q 4, .inl ((cy 0), 12, .inl (zs (hCp k h h2)))), (q 5, .inl ((cy 0), 12, .inl (zr (hCp k h h2)))), (q 6, .inl ((cy 1), 12, .inl (zo (hCp k h h2)))), (q2 0, .inr (1, [.ref (q2 1), .ref (q2 2), .ref (q2 3), .ref (q2 4), .ref (q2 5), .ref (q2 6), .int (zl h2), .int (nI (zh h2))])), (q2 1, .inl ((cy 0), 12, .inl (zb h2))), (q2 2, .inl ((cy 0), 12, .inl (zw h2))), (q2 3, .inl ((cy 0), 12, .inl (zd h2))), (q2 4, .inl ((cy 0), 12, .inl (zs h2))), (q2 5, .inl ((cy 0), 12, .inl (zr h2))), (q2 6, .inl ((cy 1), 12, .inl (zo h2)))] H := hP
        have hD : va_D A [(q 0, .inr (1, [.ref (q 1), .ref (q 2), .ref (q 3), .ref (q 4), .ref (q 5), .ref (q 6), .int (zl (hCp k h h2)), .int (nI (zh (hCp k h h2)))])), (q 1, .inl ((cy 0), 12, .inl (upd (zb (hCp k h h2)) k ((zb h2) k)))), (q 2, .inl ((cy 0), 12, .inl (upd (zw (hCp k h h2)) k ((zw h2) k)))), (q 3, .inl ((cy 0), 12, .inl (upd (zd (hCp k h h2)) k ((zd h2) k)))), (q 4, .inl ((cy 0), 12, .inl (zs (hCp k h h2)))), (q 5, .inl ((cy 0), 12, .inl (zr (hCp k h h2)))), (q 6, .inl ((cy 1), 12, .inl (zo (hCp k h h2)))), (q2 0, .inr (1, [.ref (q2 1), .ref (q2 2), .ref (q2 3), .ref (q2 4), .ref (q2 5), .ref (q2 6), .int (zl h2), .int (nI (zh h2))])), (q2 1, .inl ((cy 0), 12, .inl (zb h2))), (q2 2, .inl ((cy 0), 12, .inl (zw h2))), (q2 3, .inl ((cy 0), 12, .inl (zd h2))), (q2 4, .inl ((cy 0), 12, .inl (zs h2))), (q2 5, .inl ((cy 0), 12, .inl (zr h2))), (q2 6, .inl ((cy 1), 12, .inl (zo h2)))] := hD
        refine lv_aload_n hx hb dX1_copy_44 rfl (lv_at hl 0 rfl) ?_
        refine va_get (D := D) (ci := 1) (v := .ref (q 4)) (C := RX1) (T := TX1) (N := 8) hx hb hts inX1_copy_RX1 hown hK hP 0 rfl rfl 3 (by decide) (hts _ kX1_copy_5) (fun _ h9 => h9) rfl dX1_copy_45 ?_
        refine lv_iload_n hx hb dX1_copy_48 rfl (lv_at hl 2 rfl) ?_
        refine lv_aload_n hx hb dX1_copy_49 rfl (lv_at hl 1 rfl) ?_
        refine va_get (D := D) (ci := 1) (v := .ref (q2 4)) (C := RX1) (T := TX1) (N := 8) hx hb hts inX1_copy_RX1 hown hK hP 7 rfl rfl 3 (by decide) (hts _ kX1_copy_5) (fun _ h9 => h9) rfl dX1_copy_50 ?_
        refine lv_iload_n hx hb dX1_copy_53 rfl (lv_at hl 2 rfl) ?_
        refine pc_iald hx hb hK hP 11 0 rfl rfl (k := k) (show k < 12 by omega) (by decide) dX1_copy_54 ?_
        refine pc_iast hx hb hK hP hD hS 4 0 rfl rfl (k := k) (show k < 12 by omega) (by decide) dX1_copy_55 (fun H locs hP hD hS => ?_)
        have hP : va_P D vwCl [(q 0, .inr (1, [.ref (q 1), .ref (q 2), .ref (q 3), .ref (q 4), .ref (q 5), .ref (q 6), .int (zl (hCp k h h2)), .int (nI (zh (hCp k h h2)))])), (q 1, .inl ((cy 0), 12, .inl (upd (zb (hCp k h h2)) k ((zb h2) k)))), (q 2, .inl ((cy 0), 12, .inl (upd (zw (hCp k h h2)) k ((zw h2) k)))), (q 3, .inl ((cy 0), 12, .inl (upd (zd (hCp k h h2)) k ((zd h2) k)))), (q 4, .inl ((cy 0), 12, .inl (upd (zs (hCp k h h2)) k ((zs h2) k)))), (q 5, .inl ((cy 0), 12, .inl (zr (hCp k h h2)))), (q 6, .inl ((cy 1), 12, .inl (zo (hCp k h h2)))), (q2 0, .inr (1, [.ref (q2 1), .ref (q2 2), .ref (q2 3), .ref (q2 4), .ref (q2 5), .ref (q2 6), .int (zl h2), .int (nI (zh h2))])), (q2 1, .inl ((cy 0), 12, .inl (zb h2))), (q2 2, .inl ((cy 0), 12, .inl (zw h2))), (q2 3, .inl ((cy 0), 12, .inl (zd h2))), (q2 4, .inl ((cy 0), 12, .inl (zs h2))), (q2 5, .inl ((cy 0), 12, .inl (zr h2))), (q2 6, .inl ((cy 1), 12, .inl (zo h2)))] H := hP
        have hD : va_D A [(q 0, .inr (1, [.ref (q 1), .ref (q 2), .ref (q 3), .ref (q 4), .ref (q 5), .ref (q 6), .int (zl (hCp k h h2)), .int (nI (zh (hCp k h h2)))])), (q 1, .inl ((cy 0), 12, .inl (upd (zb (hCp k h h2)) k ((zb h2) k)))), (q 2, .inl ((cy 0), 12, .inl (upd (zw (hCp k h h2)) k ((zw h2) k)))), (q 3, .inl ((cy 0), 12, .inl (upd (zd (hCp k h h2)) k ((zd h2) k)))), (q 4, .inl ((cy 0), 12, .inl (upd (zs (hCp k h h2)) k ((zs h2) k)))), (q 5, .inl ((cy 0), 12, .inl (zr (hCp k h h2)))), (q 6, .inl ((cy 1), 12, .inl (zo (hCp k h h2)))), (q2 0, .inr (1, [.ref (q2 1), .ref (q2 2), .ref (q2 3), .ref (q2 4), .ref (q2 5), .ref (q2 6), .int (zl h2), .int (nI (zh h2))])), (q2 1, .inl ((cy 0), 12, .inl (zb h2))), (q2 2, .inl ((cy 0), 12, .inl (zw h2))), (q2 3, .inl ((cy 0), 12, .inl (zd h2))), (q2 4, .inl ((cy 0), 12, .inl (zs h2))), (q2 5, .inl ((cy 0), 12, .inl (zr h2))), (q2 6, .inl ((cy 1), 12, .inl (zo h2)))] := hD
        refine lv_aload_n hx hb dX1_copy_56 rfl (lv_at hl 0 rfl) ?_
        refine va_get (D := D) (ci := 1) (v := .ref (q 5)) (C := RX1) (T := TX1) (N := 8) hx hb hts inX1_copy_RX1 hown hK hP 0 rfl rfl 4 (by decide) (hts _ kX1_copy_6) (fun _ h9 => h9) rfl dX1_copy_57 ?_
        refine lv_iload_n hx hb dX1_copy_60 rfl (lv_at hl 2 rfl) ?_
        refine lv_aload_n hx hb dX1_copy_61 rfl (lv_at hl 1 rfl) ?_
        refine va_get (D := D) (ci := 1) (v := .ref (q2 5)) (C := RX1) (T := TX1) (N := 8) hx hb hts inX1_copy_RX1 hown hK hP 7 rfl rfl 4 (by decide) (hts _ kX1_copy_6) (fun _ h9 => h9) rfl dX1_copy_62 ?_
        refine lv_iload_n hx hb dX1_copy_65 rfl (lv_at hl 2 rfl) ?_
        refine pc_iald hx hb hK hP 12 0 rfl rfl (k := k) (show k < 12 by omega) (by decide) dX1_copy_66 ?_
        refine pc_iast hx hb hK hP hD hS 5 0 rfl rfl (k := k) (show k < 12 by omega) (by decide) dX1_copy_67 (fun H locs hP hD hS => ?_)
        have hP : va_P D vwCl [(q 0, .inr (1, [.ref (q 1), .ref (q 2), .ref (q 3), .ref (q 4), .ref (q 5), .ref (q 6), .int (zl (hCp k h h2)), .int (nI (zh (hCp k h h2)))])), (q 1, .inl ((cy 0), 12, .inl (upd (zb (hCp k h h2)) k ((zb h2) k)))), (q 2, .inl ((cy 0), 12, .inl (upd (zw (hCp k h h2)) k ((zw h2) k)))), (q 3, .inl ((cy 0), 12, .inl (upd (zd (hCp k h h2)) k ((zd h2) k)))), (q 4, .inl ((cy 0), 12, .inl (upd (zs (hCp k h h2)) k ((zs h2) k)))), (q 5, .inl ((cy 0), 12, .inl (upd (zr (hCp k h h2)) k ((zr h2) k)))), (q 6, .inl ((cy 1), 12, .inl (zo (hCp k h h2)))), (q2 0, .inr (1, [.ref (q2 1), .ref (q2 2), .ref (q2 3), .ref (q2 4), .ref (q2 5), .ref (q2 6), .int (zl h2), .int (nI (zh h2))])), (q2 1, .inl ((cy 0), 12, .inl (zb h2))), (q2 2, .inl ((cy 0), 12, .inl (zw h2))), (q2 3, .inl ((cy 0), 12, .inl (zd h2))), (q2 4, .inl ((cy 0), 12, .inl (zs h2))), (q2 5, .inl ((cy 0), 12, .inl (zr h2))), (q2 6, .inl ((cy 1), 12, .inl (zo h2)))] H := hP
        have hD : va_D A [(q 0, .inr (1, [.ref (q 1), .ref (q 2), .ref (q 3), .ref (q 4), .ref (q 5), .ref (q 6), .int (zl (hCp k h h2)), .int (nI (zh (hCp k h h2)))])), (q 1, .inl ((cy 0), 12, .inl (upd (zb (hCp k h h2)) k ((zb h2) k)))), (q 2, .inl ((cy 0), 12, .inl (upd (zw (hCp k h h2)) k ((zw h2) k)))), (q 3, .inl ((cy 0), 12, .inl (upd (zd (hCp k h h2)) k ((zd h2) k)))), (q 4, .inl ((cy 0), 12, .inl (upd (zs (hCp k h h2)) k ((zs h2) k)))), (q 5, .inl ((cy 0), 12, .inl (upd (zr (hCp k h h2)) k ((zr h2) k)))), (q 6, .inl ((cy 1), 12, .inl (zo (hCp k h h2)))), (q2 0, .inr (1, [.ref (q2 1), .ref (q2 2), .ref (q2 3), .ref (q2 4), .ref (q2 5), .ref (q2 6), .int (zl h2), .int (nI (zh h2))])), (q2 1, .inl ((cy 0), 12, .inl (zb h2))), (q2 2, .inl ((cy 0), 12, .inl (zw h2))), (q2 3, .inl ((cy 0), 12, .inl (zd h2))), (q2 4, .inl ((cy 0), 12, .inl (zs h2))), (q2 5, .inl ((cy 0), 12, .inl (zr h2))), (q2 6, .inl ((cy 1), 12, .inl (zo h2)))] := hD
        refine lv_aload_n hx hb dX1_copy_68 rfl (lv_at hl 0 rfl) ?_
        refine va_get (D := D) (ci := 1) (v := .ref (q 6)) (C := RX1) (T := TX1) (N := 8) hx hb hts inX1_copy_RX1 hown hK hP 0 rfl rfl 5 (by decide) (hts _ kX1_copy_7) (fun _ h9 => h9) rfl dX1_copy_69 ?_
        refine lv_iload_n hx hb dX1_copy_72 rfl (lv_at hl 2 rfl) ?_
        refine lv_aload_n hx hb dX1_copy_73 rfl (lv_at hl 1 rfl) ?_
        refine va_get (D := D) (ci := 1) (v := .ref (q2 6)) (C := RX1) (T := TX1) (N := 8) hx hb hts inX1_copy_RX1 hown hK hP 7 rfl rfl 5 (by decide) (hts _ kX1_copy_7) (fun _ h9 => h9) rfl dX1_copy_74 ?_
        refine lv_iload_n hx hb dX1_copy_77 rfl (lv_at hl 2 rfl) ?_
        refine pc_zald hx hb hK hP 13 1 rfl rfl (k := k) (show k < 12 by omega) (by decide) dX1_copy_78 ?_
        refine pc_zast hx hb hK hP hD hS 6 1 rfl rfl (nar01 (ho k (by omega))) (k := k) (show k < 12 by omega) (by decide) dX1_copy_79 (fun H locs hP hD hS => ?_)
        have hP : va_P D vwCl [(q 0, .inr (1, [.ref (q 1), .ref (q 2), .ref (q 3), .ref (q 4), .ref (q 5), .ref (q 6), .int (zl (hCp k h h2)), .int (nI (zh (hCp k h h2)))])), (q 1, .inl ((cy 0), 12, .inl (upd (zb (hCp k h h2)) k ((zb h2) k)))), (q 2, .inl ((cy 0), 12, .inl (upd (zw (hCp k h h2)) k ((zw h2) k)))), (q 3, .inl ((cy 0), 12, .inl (upd (zd (hCp k h h2)) k ((zd h2) k)))), (q 4, .inl ((cy 0), 12, .inl (upd (zs (hCp k h h2)) k ((zs h2) k)))), (q 5, .inl ((cy 0), 12, .inl (upd (zr (hCp k h h2)) k ((zr h2) k)))), (q 6, .inl ((cy 1), 12, .inl (upd (zo (hCp k h h2)) k ((zo h2) k)))), (q2 0, .inr (1, [.ref (q2 1), .ref (q2 2), .ref (q2 3), .ref (q2 4), .ref (q2 5), .ref (q2 6), .int (zl h2), .int (nI (zh h2))])), (q2 1, .inl ((cy 0), 12, .inl (zb h2))), (q2 2, .inl ((cy 0), 12, .inl (zw h2))), (q2 3, .inl ((cy 0), 12, .inl (zd h2))), (q2 4, .inl ((cy 0), 12, .inl (zs h2))), (q2 5, .inl ((cy 0), 12, .inl (zr h2))), (q2 6, .inl ((cy 1), 12, .inl (zo h2)))] H := hP
        have hD : va_D A [(q 0, .inr (1, [.ref (q 1), .ref (q 2), .ref (q 3), .ref (q 4), .ref (q 5), .ref (q 6), .int (zl (hCp k h h2)), .int (nI (zh (hCp k h h2)))])), (q 1, .inl ((cy 0), 12, .inl (upd (zb (hCp k h h2)) k ((zb h2) k)))), (q 2, .inl ((cy 0), 12, .inl (upd (zw (hCp k h h2)) k ((zw h2) k)))), (q 3, .inl ((cy 0), 12, .inl (upd (zd (hCp k h h2)) k ((zd h2) k)))), (q 4, .inl ((cy 0), 12, .inl (upd (zs (hCp k h h2)) k ((zs h2) k)))), (q 5, .inl ((cy 0), 12, .inl (upd (zr (hCp k h h2)) k ((zr h2) k)))), (q 6, .inl ((cy 1), 12, .inl (upd (zo (hCp k h h2)) k ((zo h2) k)))), (q2 0, .inr (1, [.ref (q2 1), .ref (q2 2), .ref (q2 3), .ref (q2 4), .ref (q2 5), .ref (q2 6), .int (zl h2), .int (nI (zh h2))])), (q2 1, .inl ((cy 0), 12, .inl (zb h2))), (q2 2, .inl ((cy 0), 12, .inl (zw h2))), (q2 3, .inl ((cy 0), 12, .inl (zd h2))), (q2 4, .inl ((cy 0), 12, .inl (zs h2))), (q2 5, .inl ((cy 0), 12, .inl (zr h2))), (q2 6, .inl ((cy 1), 12, .inl (zo h2)))] := hD
        refine lv_iinc (v := nI (k + 1)) (lv' := [(2, .int (nI (k + 1))), (0, .ref (q 0)), (1, .ref (q2 0))]) hx hb dX1_copy_80 hl (k := 2) rfl ((show (nI k) + Int32.ofInt 1 = (nI k) + 1 from rfl).trans (show (nI k) + 1 = nI (k + 1) from nI_add k 1)) (by decide) rfl (fun ls hl => ?_)
        have e9 : ([(q 0, .inr (1, [.ref (q 1), .ref (q 2), .ref (q 3), .ref (q 4), .ref (q 5), .ref (q 6), .int (zl (hCp k h h2)), .int (nI (zh (hCp k h h2)))])), (q 1, .inl ((cy 0), 12, .inl (upd (zb (hCp k h h2)) k ((zb h2) k)))), (q 2, .inl ((cy 0), 12, .inl (upd (zw (hCp k h h2)) k ((zw h2) k)))), (q 3, .inl ((cy 0), 12, .inl (upd (zd (hCp k h h2)) k ((zd h2) k)))), (q 4, .inl ((cy 0), 12, .inl (upd (zs (hCp k h h2)) k ((zs h2) k)))), (q 5, .inl ((cy 0), 12, .inl (upd (zr (hCp k h h2)) k ((zr h2) k)))), (q 6, .inl ((cy 1), 12, .inl (upd (zo (hCp k h h2)) k ((zo h2) k)))), (q2 0, .inr (1, [.ref (q2 1), .ref (q2 2), .ref (q2 3), .ref (q2 4), .ref (q2 5), .ref (q2 6), .int (zl h2), .int (nI (zh h2))])), (q2 1, .inl ((cy 0), 12, .inl (zb h2))), (q2 2, .inl ((cy 0), 12, .inl (zw h2))), (q2 3, .inl ((cy 0), 12, .inl (zd h2))), (q2 4, .inl ((cy 0), 12, .inl (zs h2))), (q2 5, .inl ((cy 0), 12, .inl (zr h2))), (q2 6, .inl ((cy 1), 12, .inl (zo h2)))]) = (wH cy q (hCp (k + 1) h h2) ++ wH cy q2 h2) := (by simp only [hCp, ← part_new (Nat.zero_le k)]; rfl)
        have hP : va_P D vwCl (wH cy q (hCp (k + 1) h h2) ++ wH cy q2 h2) H := e9 ▸ hP
        have hD : va_D A (wH cy q (hCp (k + 1) h h2) ++ wH cy q2 h2) := e9 ▸ hD
        clear e9
        refine lv_goto (tgt := 2) hx hb dX1_copy_83 (by decide) ?_
        exact ih2 (k + 1) (by omega) (by omega) _ _ hP hD hS ls (lv_sub hl [1, 2, 0] rfl)
  exact loop2 (12 + 1) 0 (Nat.zero_le _) (by omega) _ _ (by rw [hCp_0]; exact hP) (by rw [hCp_0]; exact hD) hS ls (lv_sub hl [1, 2, 0] rfl)

theorem inX1_spendHour_RX1 : ∀ w ∈ u_ws RX1 TX1 8, w ∈ wsX1_spendHour := by decide +kernel
theorem kX1_spendHour_0 : (.fieldLink RX1 35 "WedgeHarps$Harp" "hour" "I" : Cond) ∈ wsX1_spendHour := by decide +kernel
theorem kX1_spendHour_1 : (.fieldLink RX1 27 "WedgeHarps$Harp" "whole" "[Z" : Cond) ∈ wsX1_spendHour := by decide +kernel
set_option maxHeartbeats 4000000 in
set_option maxRecDepth 100000 in
theorem mX1_spendHour (l : Launch) (D : va_G) (cy : Nat → ClassId) (sz : Nat) (q : Nat → Nat) (h : HS) (f u : Nat) (hf : f ≤ u) (hu : u ≤ 12) (wi da : Int32) : Met l yX1_spendHour wsX1_spendHour ({ frames := 2, cells := 0, slots := 0, locals := 45 } : Room) (va_Pc [.ref (q 0), .int (nI f), .int (nI u), .int wi, .int da] (fun U => U.heap.size = sz ∧ va_P D vwCl (wH cy q h) U.heap ∧ va_K D vwCl (TY cy) U ∧ va_D (fun _ => True) (wH cy q h))) (va_Qi (fun (r8 : Int32) (_ : Unit) => r8 = nI (cnt (brk wi h) f (u - f))) (fun (_ : Unit) t => va_P D vwCl (wH cy q (hHour f u wi da h)) t.heap ∧ va_D (va_A (wH cy q h) sz) (wH cy q (hHour f u wi da h))) (va_A (wH cy q h) sz)) 0 0 (va_A (wH cy q h) sz) := by
  refine Met.ofW (cc := cX1_spendHour) (maxL := 7) (ret := (some .int)) (by decide) rfl ?_
  intro p e s m args below meth c s₁ B hml hv
  obtain ⟨rfl, hsz, hP, hK, hD0⟩ := hv
  have hx := B.exec
  have hb := B.bytes
  have hr := B.returns
  have hts := atoms_spec (ws := wsX1_spendHour) B.pre
  have hown : s.vm.findClass RX1 = some m.cls := findClass_of_methodNamed B.named
  have hlocks := B.notSynchronized
  have hl := lv_entry ([.ref (q 0), .int (nI f), .int (nI u), .int wi, .int da]) (n := 7) (Nat.le_of_ble_eq_true rfl)
  rw [lg_entry_eq]
  generalize (lg_sl ([.ref (q 0), .int (nI f), .int (nI u), .int wi, .int da]) ++ List.replicate (7 - (lg_sl ([.ref (q 0), .int (nI f), .int (nI u), .int wi, .int da])).length) Slot.unset).toArray = ls at hl ⊢
  have hl : lv_has ls 7 [(0, .ref (q 0)), (1, .int (nI f)), (2, .int (nI u)), (3, .int wi), (4, .int da)] := hl
  subst hsz
  have hD := hD0.self (sz := s.heap.size)
  generalize hAe : va_A (wH cy q h) s.heap.size = A at hD ⊢
  have hA : ∀ q : Nat, s.heap.size ≤ q → A q := fun q h => by rw [← hAe]; exact Or.inr h
  have hS : va_S A s.heap s.heap [] := va_S.rf
  have hP : va_P D vwCl (wH cy q h) s.heap := hP
  refine lv_iconst (v := 0) hx hb dX1_spendHour_0 (by decide) ?_
  refine lv_istore (lv' := [(5, .int 0), (0, .ref (q 0)), (1, .int (nI f)), (2, .int (nI u)), (3, .int wi), (4, .int da)]) hx hb dX1_spendHour_1 hl (by decide) rfl (fun ls hl => ?_)
  refine lv_iload_n hx hb dX1_spendHour_3 rfl (lv_at hl 2 rfl) ?_
  refine lv_istore (lv' := [(6, .int (nI f)), (5, .int 0), (0, .ref (q 0)), (1, .int (nI f)), (2, .int (nI u)), (3, .int wi), (4, .int da)]) hx hb dX1_spendHour_4 hl (by decide) rfl (fun ls hl => ?_)
  have loop6 : ∀ (n9 : Nat) (n : Nat), f + n ≤ u → u - (f + n) < n9 → ∀ (H : Heap) (locs : List Loc), va_P D vwCl (wH cy q (hPart f (f + n) wi da h)) H → va_D A (wH cy q (hPart f (f + n) wi da h)) → va_S A s.heap H locs → ∀ ls : Array Slot, lv_has ls 7 [(0, .ref (q 0)), (1, .int (nI f)), (2, .int (nI u)), (3, .int wi), (4, .int da), (5, .int (nI (cnt (brk wi h) f n))), (6, .int (nI (f + n)))] → W p l e (headSpec wsX1_spendHour ({ frames := 2, cells := 0, slots := 0, locals := 45 } : Room)).room s m ([.ref (q 0), .int (nI f), .int (nI u), .int wi, .int da] : List Value).toArray below meth c H locs 0 0 (MQ below (va_Qi (fun (r8 : Int32) (_ : Unit) => r8 = nI (cnt (brk wi h) f (u - f))) (fun (_ : Unit) t => va_P D vwCl (wH cy q (hHour f u wi da h)) t.heap ∧ va_D A (wH cy q (hHour f u wi da h))) A) ([.ref (q 0), .int (nI f), .int (nI u), .int wi, .int da] : List Value).toArray s 0 0 A) (F0 m 6 ls []) := by
    intro n9
    induction n9 with
    | zero => intro n hn h9 H locs hP hD hS ls hl; exact absurd h9 (by omega)
    | succ n9 ih6 =>
      intro n hn h9 H locs hP hD hS ls hl
      refine lv_iload hx hb dX1_spendHour_6 (lv_at hl 6 rfl) ?_
      refine lv_iload_n hx hb dX1_spendHour_8 rfl (lv_at hl 2 rfl) ?_
      refine lv_icmp_ge (tgt := 62) hx hb dX1_spendHour_9 (by decide) (fun c9 => ?_) (fun c9 => ?_)
      · have n9 : u ≤ f + n := (nI_leI (a := u) (b := f + n) (by omega) (by omega)).mp c9
        refine lv_aload_n hx hb dX1_spendHour_62 rfl (lv_at hl 0 rfl) ?_
        refine lv_iload hx hb dX1_spendHour_63 (lv_at hl 4 rfl) ?_
        have hPc := hP.sub (ws' := wH cy q (hPart f (f + n) wi da h)) [0, 1, 2, 3, 4, 5, 6] rfl
        have hDc := hD.sub (ws' := wH cy q (hPart f (f + n) wi da h)) [0, 1, 2, 3, 4, 5, 6] (by decide) rfl
        have hFc := va_free (wc := wH cy q (hPart f (f + n) wi da h)) hD hS hA [0, 1, 2, 3, 4, 5, 6] rfl
        refine va_callv (va_runV (As := [.int da]) (rest := []) ⟨hx, hb, hml, hown, hts⟩ (mX1_swell l D cy H.size q (hPart f (f + n) wi da h) da) (cwV 1 hts gX1_spendHour_X1_swell rfl rfl rfl (by decide +kernel) ⟨Nat.le_of_ble_eq_true rfl, Nat.le_of_ble_eq_true rfl⟩) ⟨fun a U g mk q => ⟨q.1, q.2.1, q.2.2.1, va_K.moved (u := U) (U := U.calling g mk a) (Vm.Alike.refl U.vm) q.2.2.2.1, q.2.2.2.2⟩, va_recv hK hPc (ci := 1) (q0 := 0) rfl rfl, fun U hU hW => ⟨rfl, by rw [hU], by rw [hU]; exact hPc, va_K.moved hW.alike hK, hDc.weaken (fun _ _ _ _ => trivial)⟩⟩ rfl rfl hl.1 rfl (lv_room (Nat.le_of_ble_eq_true rfl)) dX1_spendHour_65 ⟨Nat.zero_le _, Nat.zero_le _⟩) hS (fun q _ h => hFc q h) hFc (fun u9 t9 H1 locs ht9 hvm9 hw9 hB9 hz9 hk9 hS => ?_)
        obtain ⟨hP1, hD1⟩ := hB9
        rw [ht9] at hP1
        obtain ⟨hP, hD⟩ := va_join (wr := []) (w1 := wH cy q (hSwell da (hPart f (f + n) wi da h))) hP hD [0, 1, 2, 3, 4, 5, 6] [] rfl rfl (by decide) (by decide) hk9 hFc hP1 hD1
        generalize H1 = H at hP hS ⊢
        have hP : va_P D vwCl (wH cy q (hSwell da (hPart f (f + n) wi da h))) H := hP.sub [0, 1, 2, 3, 4, 5, 6] rfl
        have hD : va_D A (wH cy q (hSwell da (hPart f (f + n) wi da h))) := hD.sub [0, 1, 2, 3, 4, 5, 6] (by decide) rfl
        clear hP1 hD1 hk9 hz9 ht9 hvm9 hPc hDc hFc
        refine lv_aload_n hx hb dX1_spendHour_68 rfl (lv_at hl 0 rfl) ?_
        refine lv_dup hx hb dX1_spendHour_69 rfl ?_
        refine va_get (D := D) (ci := 1) (v := .int (nI (zh (hSwell da (hPart f (f + n) wi da h))))) (C := RX1) (T := TX1) (N := 8) hx hb hts inX1_spendHour_RX1 hown hK hP 0 rfl rfl 7 (by decide) (hts _ kX1_spendHour_0) (fun _ h9 => h9) rfl dX1_spendHour_70 ?_
        refine lv_iconst (v := 1) hx hb dX1_spendHour_73 (by decide) ?_
        refine lv_iadd hx hb dX1_spendHour_74 ?_
        refine pc_top (show (nI (zh (hSwell da (hPart f (f + n) wi da h)))) + 1 = nI (zh (hSwell da (hPart f (f + n) wi da h)) + 1) from nI_add (zh (hSwell da (hPart f (f + n) wi da h))) 1) ?_
        refine va_put (D := D) (ci := 1) (v := .int (nI (zh (hSwell da (hPart f (f + n) wi da h)) + 1))) (ty := .int) (C := RX1) (T := TX1) (N := 8) hx hb hts inX1_spendHour_RX1 tyX1 tyX1_ok nmX1 hown hK hP hD hS 0 rfl rfl 7 (by decide) (hts _ kX1_spendHour_0) (fun _ h9 => h9) rfl (by decide +kernel) rfl rfl (Nat.le_of_ble_eq_true rfl) dX1_spendHour_75 (fun H locs hP hD hS => ?_)
        have hP : va_P D vwCl [(q 0, .inr (1, [.ref (q 1), .ref (q 2), .ref (q 3), .ref (q 4), .ref (q 5), .ref (q 6), .int (zl (hSwell da (hPart f (f + n) wi da h))), .int (nI (zh (hSwell da (hPart f (f + n) wi da h)) + 1))])), (q 1, .inl ((cy 0), 12, .inl (zb (hSwell da (hPart f (f + n) wi da h))))), (q 2, .inl ((cy 0), 12, .inl (zw (hSwell da (hPart f (f + n) wi da h))))), (q 3, .inl ((cy 0), 12, .inl (zd (hSwell da (hPart f (f + n) wi da h))))), (q 4, .inl ((cy 0), 12, .inl (zs (hSwell da (hPart f (f + n) wi da h))))), (q 5, .inl ((cy 0), 12, .inl (zr (hSwell da (hPart f (f + n) wi da h))))), (q 6, .inl ((cy 1), 12, .inl (zo (hSwell da (hPart f (f + n) wi da h)))))] H := hP
        have hD : va_D A [(q 0, .inr (1, [.ref (q 1), .ref (q 2), .ref (q 3), .ref (q 4), .ref (q 5), .ref (q 6), .int (zl (hSwell da (hPart f (f + n) wi da h))), .int (nI (zh (hSwell da (hPart f (f + n) wi da h)) + 1))])), (q 1, .inl ((cy 0), 12, .inl (zb (hSwell da (hPart f (f + n) wi da h))))), (q 2, .inl ((cy 0), 12, .inl (zw (hSwell da (hPart f (f + n) wi da h))))), (q 3, .inl ((cy 0), 12, .inl (zd (hSwell da (hPart f (f + n) wi da h))))), (q 4, .inl ((cy 0), 12, .inl (zs (hSwell da (hPart f (f + n) wi da h))))), (q 5, .inl ((cy 0), 12, .inl (zr (hSwell da (hPart f (f + n) wi da h))))), (q 6, .inl ((cy 1), 12, .inl (zo (hSwell da (hPart f (f + n) wi da h)))))] := hD
        refine lv_iload hx hb dX1_spendHour_78 (lv_at hl 5 rfl) ?_
        have hP9 : va_P D vwCl (wH cy q (hHour f u wi da h)) H := (by rw [show u = f + n by omega]; exact hP)
        have hD9 : va_D A (wH cy q (hHour f u wi da h)) := (by rw [show u = f + n by omega]; exact hD)
        exact W.iret (v := nI (cnt (brk wi h) f n)) hx hb hr (fun t ht hW => ⟨⟨nI (cnt (brk wi h) f n), (), rfl, (by rw [show u - f = n by omega]), by rw [ht]; exact hP9, hD9⟩, hS.F ht⟩) hS.2.2 dX1_spendHour_80
      · have n9 : ¬ (u ≤ f + n) := fun h9 => c9 ((nI_leI (a := u) (b := f + n) (by omega) (by omega)).mpr h9)
        refine lv_aload_n hx hb dX1_spendHour_12 rfl (lv_at hl 0 rfl) ?_
        refine va_get (D := D) (ci := 1) (v := .ref (q 6)) (C := RX1) (T := TX1) (N := 8) hx hb hts inX1_spendHour_RX1 hown hK hP 0 rfl rfl 5 (by decide) (hts _ kX1_spendHour_1) (fun _ h9 => h9) rfl dX1_spendHour_13 ?_
        refine lv_iload hx hb dX1_spendHour_16 (lv_at hl 6 rfl) ?_
        refine pc_zald hx hb hK hP 6 1 rfl rfl (k := f + n) (show f + n < 12 by omega) (by decide) dX1_spendHour_18 ?_
        refine lv_if_eq (tgt := 38) hx hb dX1_spendHour_19 (by decide) (fun c19 => ?_) (fun c19 => ?_)
        · have o19 : zo h (f + n) = 0 := part_at.symm.trans c19
          refine lv_aload_n hx hb dX1_spendHour_38 rfl (lv_at hl 0 rfl) ?_
          refine va_get (D := D) (ci := 1) (v := .ref (q 6)) (C := RX1) (T := TX1) (N := 8) hx hb hts inX1_spendHour_RX1 hown hK hP 0 rfl rfl 5 (by decide) (hts _ kX1_spendHour_1) (fun _ h9 => h9) rfl dX1_spendHour_39 ?_
          refine lv_iload hx hb dX1_spendHour_42 (lv_at hl 6 rfl) ?_
          refine pc_zald hx hb hK hP 6 1 rfl rfl (k := f + n) (show f + n < 12 by omega) (by decide) dX1_spendHour_44 ?_
          refine lv_if_eq (tgt := 56) hx hb dX1_spendHour_45 (by decide) (fun c45 => ?_) (fun c45 => absurd c45 (not_not_intro c19))
          have e9 : (wH cy q (hPart f (f + n) wi da h)) = (wH cy q (hPart f (f + (n + 1)) wi da h)) := (congrArg (fun x => wH cy q x) (hPart_skip (Nat.le_add_right f n) o19))
          have hP : va_P D vwCl (wH cy q (hPart f (f + (n + 1)) wi da h)) H := e9 ▸ hP
          have hD : va_D A (wH cy q (hPart f (f + (n + 1)) wi da h)) := e9 ▸ hD
          clear e9
          have r9 : nI (cnt (brk wi h) f n) = nI (cnt (brk wi h) f (n + 1)) := (by simp [cnt, brk, o19])
          rw [r9] at hl
          clear r9
          refine lv_iinc (v := nI (f + n + 1)) (lv' := [(6, .int (nI (f + n + 1))), (0, .ref (q 0)), (1, .int (nI f)), (2, .int (nI u)), (3, .int wi), (4, .int da), (5, .int (nI (cnt (brk wi h) f (n + 1))))]) hx hb dX1_spendHour_56 hl (k := 6) rfl ((show (nI (f + n)) + Int32.ofInt 1 = (nI (f + n)) + 1 from rfl).trans (show (nI (f + n)) + 1 = nI (f + n + 1) from nI_add (f + n) 1)) (by decide) rfl (fun ls hl => ?_)
          refine lv_goto (tgt := 6) hx hb dX1_spendHour_59 (by decide) ?_
          exact ih6 (n + 1) (by omega) (by omega) _ _ hP hD hS ls (lv_sub hl [1, 2, 3, 4, 5, 6, 0] rfl)
        · have o19 : ¬ zo h (f + n) = 0 := fun z => c19 (part_at.trans z)
          refine lv_aload_n hx hb dX1_spendHour_22 rfl (lv_at hl 0 rfl) ?_
          refine lv_iload hx hb dX1_spendHour_23 (lv_at hl 6 rfl) ?_
          refine lv_iload_n hx hb dX1_spendHour_25 rfl (lv_at hl 3 rfl) ?_
          have hPc := hP.sub (ws' := wH cy q (hPart f (f + n) wi da h)) [0, 1, 2, 3, 4, 5, 6] rfl
          have hDc := hD.sub (ws' := wH cy q (hPart f (f + n) wi da h)) [0, 1, 2, 3, 4, 5, 6] (by decide) rfl
          have hFc := va_free (wc := wH cy q (hPart f (f + n) wi da h)) hD hS hA [0, 1, 2, 3, 4, 5, 6] rfl
          refine va_calli (va_runV (As := [.int (nI (f + n)), .int wi]) (rest := []) ⟨hx, hb, hml, hown, hts⟩ (mX1_breaksIn l D cy H.size q (hPart f (f + n) wi da h) (f + n) (by omega) wi) (cwV 2 hts gX1_spendHour_X1_breaksIn rfl rfl rfl (by decide +kernel) ⟨Nat.le_of_ble_eq_true rfl, Nat.le_of_ble_eq_true rfl⟩) ⟨fun a U g mk q => ⟨q.1, q.2.1, q.2.2.1, va_K.moved (u := U) (U := U.calling g mk a) (Vm.Alike.refl U.vm) q.2.2.2.1, q.2.2.2.2⟩, va_recv hK hPc (ci := 1) (q0 := 0) rfl rfl, fun U hU hW => ⟨rfl, by rw [hU], by rw [hU]; exact hPc, va_K.moved hW.alike hK, hDc.weaken (fun _ _ _ _ => trivial)⟩⟩ rfl rfl hl.1 rfl (lv_room (Nat.le_of_ble_eq_true rfl)) dX1_spendHour_26 ⟨Nat.zero_le _, Nat.zero_le _⟩) hS (fun q _ h => hFc q h) hFc (fun r9 u9 t9 H1 locs ht9 hvm9 hw9 hB9 hz9 hk9 hS => ?_)
          obtain ⟨hP1, hD1⟩ := hB9
          rw [ht9] at hP1
          obtain ⟨hP, hD⟩ := va_join (wr := []) (w1 := wH cy q (hBrk wi (hPart f (f + n) wi da h) (f + n))) hP hD [0, 1, 2, 3, 4, 5, 6] [] rfl rfl (by decide) (by decide) hk9 hFc hP1 hD1
          generalize H1 = H at hP hS ⊢
          have hP : va_P D vwCl (wH cy q (hBrk wi (hPart f (f + n) wi da h) (f + n))) H := hP.sub [0, 1, 2, 3, 4, 5, 6] rfl
          have hD : va_D A (wH cy q (hBrk wi (hPart f (f + n) wi da h) (f + n))) := hD.sub [0, 1, 2, 3, 4, 5, 6] (by decide) rfl
          clear hP1 hD1 hk9 hz9 ht9 hvm9 hPc hDc hFc
          subst hw9
          refine lv_if_eq (tgt := 38) hx hb dX1_spendHour_29 (by decide) (fun c29 => ?_) (fun c29 => ?_)
          · have b29 : ¬ 100 < pull wi h (f + n) := by rw [← pull_part (f := f) (da := da)]; exact of_decide_eq_false (bI_0.mp c29)
            refine lv_aload_n hx hb dX1_spendHour_38 rfl (lv_at hl 0 rfl) ?_
            refine va_get (D := D) (ci := 1) (v := .ref (q 6)) (C := RX1) (T := TX1) (N := 8) hx hb hts inX1_spendHour_RX1 hown hK hP 0 rfl rfl 5 (by decide) (hts _ kX1_spendHour_1) (fun _ h9 => h9) rfl dX1_spendHour_39 ?_
            refine lv_iload hx hb dX1_spendHour_42 (lv_at hl 6 rfl) ?_
            refine pc_zald hx hb hK hP 6 1 rfl rfl (k := f + n) (show f + n < 12 by omega) (by decide) dX1_spendHour_44 ?_
            refine lv_if_eq (tgt := 56) hx hb dX1_spendHour_45 (by decide) (fun c45 => absurd c45 (fun z => o19 (by rw [hBrk_o (by rw [pull_part]; exact b29)] at z; exact part_at.symm.trans z))) (fun c45 => ?_)
            refine lv_aload_n hx hb dX1_spendHour_48 rfl (lv_at hl 0 rfl) ?_
            refine lv_iload hx hb dX1_spendHour_49 (lv_at hl 6 rfl) ?_
            refine lv_iload hx hb dX1_spendHour_51 (lv_at hl 4 rfl) ?_
            have hPc := hP.sub (ws' := wH cy q (hBrk wi (hPart f (f + n) wi da h) (f + n))) [0, 1, 2, 3, 4, 5, 6] rfl
            have hDc := hD.sub (ws' := wH cy q (hBrk wi (hPart f (f + n) wi da h) (f + n))) [0, 1, 2, 3, 4, 5, 6] (by decide) rfl
            have hFc := va_free (wc := wH cy q (hBrk wi (hPart f (f + n) wi da h) (f + n))) hD hS hA [0, 1, 2, 3, 4, 5, 6] rfl
            refine va_callv (va_runV (As := [.int (nI (f + n)), .int da]) (rest := []) ⟨hx, hb, hml, hown, hts⟩ (mX1_slip l D cy H.size q (hBrk wi (hPart f (f + n) wi da h) (f + n)) (f + n) (by omega) da) (cwV 2 hts gX1_spendHour_X1_slip rfl rfl rfl (by decide +kernel) ⟨Nat.le_of_ble_eq_true rfl, Nat.le_of_ble_eq_true rfl⟩) ⟨fun a U g mk q => ⟨q.1, q.2.1, q.2.2.1, va_K.moved (u := U) (U := U.calling g mk a) (Vm.Alike.refl U.vm) q.2.2.2.1, q.2.2.2.2⟩, va_recv hK hPc (ci := 1) (q0 := 0) rfl rfl, fun U hU hW => ⟨rfl, by rw [hU], by rw [hU]; exact hPc, va_K.moved hW.alike hK, hDc.weaken (fun _ _ _ _ => trivial)⟩⟩ rfl rfl hl.1 rfl (lv_room (Nat.le_of_ble_eq_true rfl)) dX1_spendHour_53 ⟨Nat.zero_le _, Nat.zero_le _⟩) hS (fun q _ h => hFc q h) hFc (fun u9 t9 H1 locs ht9 hvm9 hw9 hB9 hz9 hk9 hS => ?_)
            obtain ⟨hP1, hD1⟩ := hB9
            rw [ht9] at hP1
            obtain ⟨hP, hD⟩ := va_join (wr := []) (w1 := wH cy q (hSlip da (hBrk wi (hPart f (f + n) wi da h) (f + n)) (f + n))) hP hD [0, 1, 2, 3, 4, 5, 6] [] rfl rfl (by decide) (by decide) hk9 hFc hP1 hD1
            generalize H1 = H at hP hS ⊢
            have hP : va_P D vwCl (wH cy q (hSlip da (hBrk wi (hPart f (f + n) wi da h) (f + n)) (f + n))) H := hP.sub [0, 1, 2, 3, 4, 5, 6] rfl
            have hD : va_D A (wH cy q (hSlip da (hBrk wi (hPart f (f + n) wi da h) (f + n)) (f + n))) := hD.sub [0, 1, 2, 3, 4, 5, 6] (by decide) rfl
            clear hP1 hD1 hk9 hz9 ht9 hvm9 hPc hDc hFc
            have e9 : (wH cy q (hSlip da (hBrk wi (hPart f (f + n) wi da h) (f + n)) (f + n))) = (wH cy q (hPart f (f + (n + 1)) wi da h)) := (congrArg (fun x => wH cy q x) (hPart_slip (Nat.le_add_right f n) o19 b29))
            have hP : va_P D vwCl (wH cy q (hPart f (f + (n + 1)) wi da h)) H := e9 ▸ hP
            have hD : va_D A (wH cy q (hPart f (f + (n + 1)) wi da h)) := e9 ▸ hD
            clear e9
            have r9 : nI (cnt (brk wi h) f n) = nI (cnt (brk wi h) f (n + 1)) := (by simp [cnt, brk, o19, b29])
            rw [r9] at hl
            clear r9
            refine lv_iinc (v := nI (f + n + 1)) (lv' := [(6, .int (nI (f + n + 1))), (0, .ref (q 0)), (1, .int (nI f)), (2, .int (nI u)), (3, .int wi), (4, .int da), (5, .int (nI (cnt (brk wi h) f (n + 1))))]) hx hb dX1_spendHour_56 hl (k := 6) rfl ((show (nI (f + n)) + Int32.ofInt 1 = (nI (f + n)) + 1 from rfl).trans (show (nI (f + n)) + 1 = nI (f + n + 1) from nI_add (f + n) 1)) (by decide) rfl (fun ls hl => ?_)
            refine lv_goto (tgt := 6) hx hb dX1_spendHour_59 (by decide) ?_
            exact ih6 (n + 1) (by omega) (by omega) _ _ hP hD hS ls (lv_sub hl [1, 2, 3, 4, 5, 6, 0] rfl)
          · have b29 : 100 < pull wi h (f + n) := by rw [← pull_part (f := f) (da := da)]; exact of_decide_eq_true (bI_1.mp c29)
            refine lv_iinc (v := nI (cnt (brk wi h) f n + 1)) (lv' := [(5, .int (nI (cnt (brk wi h) f n + 1))), (0, .ref (q 0)), (1, .int (nI f)), (2, .int (nI u)), (3, .int wi), (4, .int da), (6, .int (nI (f + n)))]) hx hb dX1_spendHour_32 hl (k := 5) rfl ((show (nI (cnt (brk wi h) f n)) + Int32.ofInt 1 = (nI (cnt (brk wi h) f n)) + 1 from rfl).trans (show (nI (cnt (brk wi h) f n)) + 1 = nI (cnt (brk wi h) f n + 1) from nI_add (cnt (brk wi h) f n) 1)) (by decide) rfl (fun ls hl => ?_)
            refine lv_goto (tgt := 56) hx hb dX1_spendHour_35 (by decide) ?_
            have e9 : (wH cy q (hBrk wi (hPart f (f + n) wi da h) (f + n))) = (wH cy q (hPart f (f + (n + 1)) wi da h)) := (congrArg (fun x => wH cy q x) (hPart_brk (Nat.le_add_right f n) o19 b29))
            have hP : va_P D vwCl (wH cy q (hPart f (f + (n + 1)) wi da h)) H := e9 ▸ hP
            have hD : va_D A (wH cy q (hPart f (f + (n + 1)) wi da h)) := e9 ▸ hD
            clear e9
            have r9 : nI (cnt (brk wi h) f n + 1) = nI (cnt (brk wi h) f (n + 1)) := (by simp [cnt, brk, o19, b29])
            rw [r9] at hl
            clear r9
            refine lv_iinc (v := nI (f + n + 1)) (lv' := [(6, .int (nI (f + n + 1))), (5, .int (nI (cnt (brk wi h) f (n + 1)))), (0, .ref (q 0)), (1, .int (nI f)), (2, .int (nI u)), (3, .int wi), (4, .int da)]) hx hb dX1_spendHour_56 hl (k := 6) rfl ((show (nI (f + n)) + Int32.ofInt 1 = (nI (f + n)) + 1 from rfl).trans (show (nI (f + n)) + 1 = nI (f + n + 1) from nI_add (f + n) 1)) (by decide) rfl (fun ls hl => ?_)
            refine lv_goto (tgt := 6) hx hb dX1_spendHour_59 (by decide) ?_
            exact ih6 (n + 1) (by omega) (by omega) _ _ hP hD hS ls (lv_sub hl [2, 3, 4, 5, 6, 1, 0] rfl)
  exact loop6 (u + 1) 0 (by omega) (by omega) _ _ (by rw [show f + 0 = f from rfl, hPart_0]; exact hP) (by rw [show f + 0 = f from rfl, hPart_0]; exact hD) hS ls (lv_sub hl [2, 3, 4, 5, 6, 1, 0] rfl)

theorem inX1_hourOfTable_RX1 : ∀ w ∈ u_ws RX1 TX1 8, w ∈ wsX1_hourOfTable := by decide +kernel
theorem kX1_hourOfTable_0 : (.fieldLink RX1 35 "WedgeHarps$Harp" "hour" "I" : Cond) ∈ wsX1_hourOfTable := by decide +kernel
set_option maxHeartbeats 4000000 in
set_option maxRecDepth 100000 in
theorem mX1_hourOfTable (l : Launch) (D : va_G) (cy : Nat → ClassId) (q : Nat → Nat) (h : HS) (hh : zh h < 2147483648) : Met l yX1_hourOfTable wsX1_hourOfTable ({ frames := 1, cells := 0, slots := 0, locals := 22 } : Room) (va_Pc [.ref (q 0)] (fun U => va_P D vwCl (wH cy q h) U.heap ∧ va_K D vwCl (TY cy) U)) (vp_Si (fun r8 => r8 = nI (zh h % 12))) 0 0 (fun _ => False) := by
  refine Met.ofW (cc := cX1_hourOfTable) (maxL := 1) (ret := (some .int)) (by decide) rfl ?_
  intro p e s m args below meth c s₁ B hml hv
  obtain ⟨rfl, hP, hK⟩ := hv
  have hx := B.exec
  have hb := B.bytes
  have hr := B.returns
  have hts := atoms_spec (ws := wsX1_hourOfTable) B.pre
  have hown : s.vm.findClass RX1 = some m.cls := findClass_of_methodNamed B.named
  have hlocks := B.notSynchronized
  have hl := lv_entry ([.ref (q 0)]) (n := 1) (Nat.le_of_ble_eq_true rfl)
  rw [lg_entry_eq]
  generalize (lg_sl ([.ref (q 0)]) ++ List.replicate (1 - (lg_sl ([.ref (q 0)])).length) Slot.unset).toArray = ls at hl ⊢
  have hl : lv_has ls 1 [(0, .ref (q 0))] := hl
  refine lv_aload_n hx hb dX1_hourOfTable_0 rfl (lv_at hl 0 rfl) ?_
  refine va_get (D := D) (ci := 1) (v := .int (nI (zh h))) (C := RX1) (T := TX1) (N := 8) hx hb hts inX1_hourOfTable_RX1 hown hK hP 0 rfl rfl 7 (by decide) (hts _ kX1_hourOfTable_0) (fun _ h9 => h9) rfl dX1_hourOfTable_1 ?_
  refine lv_bipush (v := 12) hx hb dX1_hourOfTable_4 (by decide) ?_
  refine pc_calli (va_runS (As := [.int (nI (zh h)), .int 12]) (rest := []) ⟨hx, hb, hml, hown, hts⟩ (mJ9_floorMod_7cf53 l D cy (zh h) hh) (va_cwS 2 hts gX1_hourOfTable_J9_floorMod_7cf53 rfl rfl rfl (by decide +kernel) ⟨Nat.le_of_ble_eq_true rfl, Nat.le_of_ble_eq_true rfl⟩) ⟨fun a U g mk q => q, fun U hU hW => ⟨rfl, trivial⟩⟩ rfl rfl hl.1 rfl (lv_room (Nat.le_of_ble_eq_true rfl)) dX1_hourOfTable_6 ⟨Nat.zero_le _, Nat.zero_le _⟩) (fun r9 hr9 => ?_)
  subst hr9
  exact W.iret (v := nI (zh h % 12)) hx hb hr (fun t ht hW => ⟨nI (zh h % 12), rfl, rfl, ht⟩) (fun q hq => absurd hq List.not_mem_nil) dX1_hourOfTable_9
end
section
/-! methods of the class that may throw: what they need of the start, and their rows -/
def xNm : List String := ["java/lang/RuntimeException", "java/lang/Exception"]
def xI : String := "java/lang/IndexOutOfBoundsException"
def xA : String := "java/lang/IllegalArgumentException"
def xT : String := "java/lang/IllegalStateException"
def xExc : List String := [xI, xA, xT]
def xStr : List (Nat × String) := [(46, "a push of 0 steps"), (57, "the wedge would not be 0 to 20"), (67, "the base is not 100 to 900"), (75, "the hour is not 0 to 11"), (78, "the wind is not 0 to 20"), (80, "the damp is not 0 to 9"), (85, "what is not 0 to 6"), (103, "a fourth tone without a third one"), (105, "there are not so many strings from the first one on"), (107, "there are 6 chords"), (138, "what is not 0 to 7"), (174, "a string is not 0 to 11"), (176, "the steps are not -20 to 20"), (178, "a tone is too small, or more than 1500"), (180, "the hours are not 1 to 200"), (182, "there is no such chord")]
def xBad (cls : String) : List Cond := [.declares (Bundle.initS "java/lang/RuntimeException"), .declares (Bundle.initS "java/lang/Exception"), .declares (Bundle.initS Bundle.tN), .castable cls cls]
theorem xBad_warm {s U : State} (hW : s.WarmedH U.vm) {cls : String} (h : ∀ w ∈ xBad cls, va_Nw w s) : ∀ w ∈ xBad cls, va_Nw w U := by
  have h1 := List.forall_mem_cons.mp h
  have h2 := List.forall_mem_cons.mp h1.2
  have h3 := List.forall_mem_cons.mp h2.2
  have h4 := List.forall_mem_cons.mp h3.2
  exact List.forall_mem_cons.mpr ⟨va_Nw.warmD hW h1.1, List.forall_mem_cons.mpr ⟨va_Nw.warmD hW h2.1, List.forall_mem_cons.mpr ⟨va_Nw.warmD hW h3.1, List.forall_mem_cons.mpr ⟨va_Nw.warmC hW h4.1, fun _ z => absurd z List.not_mem_nil⟩⟩⟩⟩
theorem xBad_tab {cls : String} : ∀ w ∈ xBad cls, w.onTables = true := List.forall_mem_cons.mpr ⟨rfl, List.forall_mem_cons.mpr ⟨rfl, List.forall_mem_cons.mpr ⟨rfl, List.forall_mem_cons.mpr ⟨rfl, fun _ z => absurd z List.not_mem_nil⟩⟩⟩⟩
/-- what a throw needs of the start -/
def xC (U : State) (H : Heap) : Prop := vx_Zq Bundle.tN "UNASSIGNED_STACK" Bundle.steD (fun _ => False) U H ∧ vx_Zq Bundle.tN "SUPPRESSED_SENTINEL" Bundle.listD (fun _ => False) U H ∧ (∀ C ∈ xExc, ∀ w ∈ xBad C, va_Nw w U) ∧ ∀ kt ∈ xStr, ∃ a, vk_R RX2 kt.1 kt.2 a U
theorem xC.warm {s U : State} {H : Heap} (hW : s.WarmedH U.vm) (h : xC s H) : xC U H :=
  ⟨vx_Zq.moved hW.alike h.1, vx_Zq.moved hW.alike h.2.1, fun C hC => xBad_warm hW (h.2.2.1 C hC), fun kt hk => (h.2.2.2 kt hk).imp fun _ q => vk_R.warm hW q⟩
theorem xC.kept {U : State} {H H1 : Heap} (h : xC U H) (hq : ∀ a : Nat, a < H.size → H1[a]? = H[a]?) : xC U H1 :=
  ⟨vx_Zq.kept h.1 (fun a h1 _ => hq a h1), vx_Zq.kept h.2.1 (fun a h1 _ => hq a h1), h.2.2⟩
/-- how such a method ends with a throw: E is as c9 says, and no old cell has changed -/
def pX (c9 : String → Prop) : String → State → State → Prop := fun E st t => c9 E ∧ st.heap.size ≤ t.heap.size ∧ ∀ q : Nat, q < st.heap.size → t.heap[q]? = st.heap[q]?
def pQv (post : Prop) : Array Value → State → Outcome → State → Prop := fun _ st o t => o = .returned none ∧ post ∧ t.heap = st.heap
theorem xb_48 : ∀ w ∈ (vx_atS RX2 48 xA xNm).filter (fun w => !goodWord w), w ∈ xBad xA := by decide +kernel
theorem xb_59 : ∀ w ∈ (vx_atS RX2 59 xT xNm).filter (fun w => !goodWord w), w ∈ xBad xT := by decide +kernel
theorem xb_77 : ∀ w ∈ (vx_atS RX2 77 xI xNm).filter (fun w => !goodWord w), w ∈ xBad xI := by decide +kernel
theorem xo_48 : ∀ w ∈ Cond.classLink RX2 44 xA :: Cond.initialized xA :: vx_atS RX2 48 xA xNm, vx_ot w = true := by decide +kernel
theorem xo_59 : ∀ w ∈ Cond.classLink RX2 55 xT :: Cond.initialized xT :: vx_atS RX2 59 xT xNm, vx_ot w = true := by decide +kernel
theorem xo_77 : ∀ w ∈ Cond.classLink RX2 73 xI :: Cond.initialized xI :: vx_atS RX2 77 xI xNm, vx_ot w = true := by decide +kernel
theorem xf_A : Bundle.fit xA = true := by decide +kernel
theorem xf_I : Bundle.fit xI = true := by decide +kernel
theorem xf_T : Bundle.fit xT = true := by decide +kernel
theorem xf_N : ∀ n ∈ xNm, Bundle.fit n = true := by decide +kernel
section PX
variable {p : Program} {l : Launch} {e : Env} {R : Room} {s : State} {m : MethodId} {args : Array Value} {below : List Frame} {meth : Method} {c : Code} {H : Heap} {locs : List Loc} {cells slots : Nat} {Q : State → Prop}
variable {cc : ByteArray} {pc : Nat} {ls : Array Slot} {rest st0 : List Value} {D : va_G} {cl : List vw_C} {A : Nat → Prop} {a : Nat} {tys : List (ClassId × FieldType)} {ws : va_W} {H0 : Heap}
theorem px_throwS {Qc : Array Value → State → Outcome → State → Prop} {c9 : String → Prop} {mc ms : Nat} {free : Addr → Prop} {cls text : String} {ik is ic : Nat} (hexec : p.tables.exec = Jvm.exec) (hb : c.code = cc) (hst : l.stackTraces = false) (hown : s.vm.findClass RX2 = some m.cls)
    (hcls : Bundle.fit cls = true) (hC : cls ∈ xExc) (hk : (Cond.classLink RX2 ik cls).before args s = true) (hini : (Cond.initialized cls).before args s = true)
    (hgw : ∀ w ∈ (vx_atS RX2 ic cls xNm).filter goodWord, w.before args s = true) (hbw : ∀ w ∈ (vx_atS RX2 ic cls xNm).filter (fun w => !goodWord w), w ∈ xBad cls) (hgood : ∀ w ∈ Cond.classLink RX2 ik cls :: Cond.initialized cls :: vx_atS RX2 ic cls xNm, vx_ot w = true)
    (hX : xC s s.heap) (htx : (is, text) ∈ xStr) (hH : H = s.heap) (hlocs : locs = []) (hsize : ls.size = c.maxLocals)
    (d0 : decode cc pc = .ok (.new ik, 3)) (d3 : decode cc (pc + 3) = .ok (.dup, 1)) (d4 : decode cc (pc + 4) = .ok (.ldc is, 2)) (d6 : decode cc (pc + 6) = .ok (.invokespecial ic, 3)) (d9 : decode cc (pc + 9) = .ok (.athrow, 1))
    (hout : ∀ x ∈ c.exceptionTable.toList, False) (hRf : 5 < R.frames) (hRl : (rest.map fun v => v.category).sum + 82 ≤ R.locals) (hRc : cells + 1 ≤ R.cells) (hRs : slots + 6 ≤ R.slots) (hlocks : meth.locks = false) (hc9 : c9 cls) (hc : cells + 1 ≤ mc) (hs : slots + 6 ≤ ms) :
    W p l e R s m args below meth c H locs cells slots (vx_MQ below Qc (pX c9) args s mc ms free) (F0 m pc ls rest) := by
  subst hH; subst hlocs
  obtain ⟨sa, hsa⟩ := hX.2.2.2 _ htx
  exact vx_throwS (A := fun _ => False) (names := xNm) (text := text) hexec hb hst hown hcls xf_N hk hini hsa (vx_hat hgw hbw (fun w hw => va_Nw.use (xBad_tab w hw) (hX.2.2.1 cls hC w hw))) hgood hX.1 hX.2.1 va_S.rf hsize d0 d3 d4 d6 d9 (fun x hx => (hout x hx).elim) hRf hRl hRc hRs hlocks
    (fun t hA h1 h2 => ⟨hc9, h1, h2⟩) (fun z hz => absurd hz List.not_mem_nil) hc hs
/-- a check is called: behind it, or on with its throw -/
theorem px_callv {post : Prop} {c9 : String → Prop} {ar : Array Value} {mc ms : Nat} (hr : vx_Run p l e R s m args below meth c H locs cells slots mc ms (F0 m pc ls st0) rest (pQv post ar) (pX c9) (fun _ => False))
    (kx : ∀ (E : String) (ce : Cell) (q9 : Addr) (H1 : Heap), c9 E → H.size ≤ H1.size → (∀ q : Nat, q < H.size → H1[q]? = H[q]?) → H1[q9]? = some ce → ce.vm = .none → s.vm.findClass E = some ce.cls → vx_W p l e R s m args below meth c H1 locs (cells + mc) (slots + ms) Q (F0 m pc ls rest) q9)
    (kk : post → W p l e R s m args below meth c H locs (cells + mc) (slots + ms) Q (F0 m (pc + 3) ls rest)) : W p l e R s m args below meth c H locs cells slots Q (F0 m pc ls st0) := by
  intro T hT X
  rcases hr T hT X with ⟨v, st₀, t, T', L, h0, X', hL, e1, e2, ⟨hv, hp, hh⟩, st⟩ | ⟨q, st₀, t, T', L, E, ce, h0, X', hL, e1, e2, ⟨hc9, hF1, hF2⟩, hce, hcv, hcl, st⟩
  · cases hv
    have hL0 : L = [] := List.eq_nil_iff_forall_not_mem.mpr (fun q hq => hL q hq)
    subst hL0
    rw [List.append_nil] at X'
    obtain ⟨t2, a1, b1⟩ := kk hp T' (by rw [e1, hh, h0]) X'
    exact ⟨t2, st t2 a1, b1⟩
  · have hL0 : L = [] := List.eq_nil_iff_forall_not_mem.mpr (fun q hq => hL q hq)
    subst hL0
    rw [List.append_nil] at X'
    rw [h0] at hF1 hF2
    obtain ⟨t2, a1, b1⟩ := kx E ce q T'.heap hc9 (by rw [e1]; exact hF1) (fun q h => by rw [e1]; exact hF2 q h) (by rw [e1]; exact hce) hcv hcl T' rfl X'
    exact ⟨t2, st.trans a1, b1⟩
/-- an answer out of a method that may throw and leaves the heap -/
theorem px_calli {post : Int32 → Prop} {c9 : String → Prop} {ar : Array Value} {mc ms : Nat} (hr : vx_Run p l e R s m args below meth c H locs cells slots mc ms (F0 m pc ls st0) rest (vp_Si post ar) (pX c9) (fun _ => False))
    (kx : ∀ (E : String) (ce : Cell) (q9 : Addr) (H1 : Heap), c9 E → H.size ≤ H1.size → (∀ q : Nat, q < H.size → H1[q]? = H[q]?) → H1[q9]? = some ce → ce.vm = .none → s.vm.findClass E = some ce.cls → vx_W p l e R s m args below meth c H1 locs (cells + mc) (slots + ms) Q (F0 m pc ls rest) q9)
    (kk : ∀ r : Int32, post r → W p l e R s m args below meth c H locs (cells + mc) (slots + ms) Q (F0 m (pc + 3) ls (.int r :: rest))) : W p l e R s m args below meth c H locs cells slots Q (F0 m pc ls st0) := by
  intro T hT X
  rcases hr T hT X with ⟨v, st₀, t, T', L, h0, X', hL, e1, e2, ⟨r, hv, hp, hh⟩, st⟩ | ⟨q, st₀, t, T', L, E, ce, h0, X', hL, e1, e2, ⟨hc9, hF1, hF2⟩, hce, hcv, hcl, st⟩
  · cases hv
    have hL0 : L = [] := List.eq_nil_iff_forall_not_mem.mpr (fun q hq => hL q hq)
    subst hL0
    rw [List.append_nil] at X'
    obtain ⟨t2, a1, b1⟩ := kk r hp T' (by rw [e1, hh, h0]) X'
    exact ⟨t2, st t2 a1, b1⟩
  · have hL0 : L = [] := List.eq_nil_iff_forall_not_mem.mpr (fun q hq => hL q hq)
    subst hL0
    rw [List.append_nil] at X'
    rw [h0] at hF1 hF2
    obtain ⟨t2, a1, b1⟩ := kx E ce q T'.heap hc9 (by rw [e1]; exact hF1) (fun q h => by rw [e1]; exact hF2 q h) (by rw [e1]; exact hce) hcv hcl T' rfl X'
    exact ⟨t2, st.trans a1, b1⟩
/-- an answer out of a method that may throw and writes its world -/
theorem px_callw {S : Type} {post : Int32 → S → Prop} {B : S → State → Prop} {A1 A0 : Nat → Prop} {c9 : String → Prop} {ar : Array Value} {mc ms : Nat} {free : Addr → Prop} (hr : vx_Run p l e R s m args below meth c H locs cells slots mc ms (F0 m pc ls st0) rest (va_Qi post B A1 ar) (pX c9) free) (hS : va_S A0 H0 H locs) (hA : ∀ q, q < H.size → A1 q → A0 q) (hf : ∀ q, free q → A0 q)
    (kx : ∀ (E : String) (ce : Cell) (q9 : Addr) (H1 : Heap) (locs1 : List Loc), c9 E → H.size ≤ H1.size → (∀ q : Nat, q < H.size → H1[q]? = H[q]?) → va_S A0 H0 H1 locs1 → H1[q9]? = some ce → ce.vm = .none → s.vm.findClass E = some ce.cls → vx_W p l e R s m args below meth c H1 locs1 (cells + mc) (slots + ms) Q (F0 m pc ls rest) q9)
    (kk : ∀ (r : Int32) (u : S) (t : State) (H1 : Heap) (locs1 : List Loc), t.heap = H1 → s.vm.Alike t.vm → post r u → B u t → H.size ≤ H1.size → (∀ q : Nat, q < H.size → ¬ A1 q → H1[q]? = H[q]?) → va_S A0 H0 H1 locs1 → W p l e R s m args below meth c H1 locs1 (cells + mc) (slots + ms) Q (F0 m (pc + 3) ls (.int r :: rest))) : W p l e R s m args below meth c H locs cells slots Q (F0 m pc ls st0) := by
  intro T hT X
  rcases hr T hT X with ⟨v, st₀, t, T', L, h0, X', hL, e1, e2, ⟨⟨r, u, hv, hp, hb⟩, hF⟩, st⟩ | ⟨q, st₀, t, T', L, E, ce, h0, X', hL, e1, e2, ⟨hc9, hF1, hF2⟩, hce, hcv, hcl, st⟩
  · cases hv
    obtain ⟨k1, k2, k3⟩ := vx_keep h0 e1 hS hA hf hL hF
    obtain ⟨t2, a1, b1⟩ := kk r u t T'.heap (locs ++ L) e1.symm (by rw [← e2]; exact X'.warmed.alike) hp hb k1 k2 k3 T' rfl X'
    exact ⟨t2, st t2 a1, b1⟩
  · obtain ⟨k1, k2, k3⟩ := vx_keep (A1 := fun _ => False) h0 e1 hS (fun _ _ h => h.elim) hf hL ⟨hF1, fun q h _ => hF2 q h⟩
    obtain ⟨t2, a1, b1⟩ := kx E ce q T'.heap (locs ++ L) hc9 k1 (fun q h => k2 q h id) k3 (by rw [e1]; exact hce) hcv hcl T' rfl X'
    exact ⟨t2, st.trans a1, b1⟩
end PX
/-- not caught: on to the caller -/
theorem px_out {p : Program} {l : Launch} {e : Env} {R : Room} {s : State} {m : MethodId} {args : Array Value} {below : List Frame} {meth : Method} {c : Code} {H1 : Heap} {cells slots : Nat} {ls : Array Slot} {rest : List Value} {pc : Nat} {Qc : Array Value → State → Outcome → State → Prop} {c9 : String → Prop} {E : String} {ce : Cell} {q : Addr} {mc ms : Nat} {free : Addr → Prop} (hout : ∀ x ∈ c.exceptionTable.toList, False) (hlocks : meth.locks = false) (h1 : s.heap.size ≤ H1.size) (h2 : ∀ q : Nat, q < s.heap.size → H1[q]? = s.heap[q]?) (hcell : H1[q]? = some ce) (hv : ce.vm = .none) (hcl : s.vm.findClass E = some ce.cls) (hc9 : c9 E) (hc : cells ≤ mc) (hs : slots ≤ ms) :
    vx_W p l e R s m args below meth c H1 [] cells slots (vx_MQ below Qc (pX c9) args s mc ms free) (F0 m pc ls rest) q :=
  vx_out (fun x hx => (hout x hx).elim) hlocks hcell hv hcl (fun t ht _ => ⟨hc9, by rw [ht]; exact h1, fun q hq => by rw [ht]; exact h2 q hq⟩) (fun z hz => absurd hz List.not_mem_nil) hc hs
end
section
/-! the whole object: (harp, winds, damps, how many chords, their first strings, their sizes, their tones) -/
abbrev US : Type := HS × (Nat → Int32) × (Nat → Int32) × Nat × (Nat → Nat) × (Nat → Nat) × (Nat → Nat → Int32)
abbrev uh (u : US) : HS := u.1
abbrev uw (u : US) : Nat → Int32 := u.2.1
abbrev ud (u : US) : Nat → Int32 := u.2.2.1
abbrev un (u : US) : Nat := u.2.2.2.1
abbrev ul (u : US) : Nat → Nat := u.2.2.2.2.1
abbrev uz (u : US) : Nat → Nat := u.2.2.2.2.2.1
abbrev ut (u : US) : Nat → Nat → Int32 := u.2.2.2.2.2.2
abbrev wO (cy : Nat → ClassId) (x q q2 : Nat → Nat) (n : Nat) (wt dt : Nat → Int32) : va_W := [(x 0, .inr (2, [.ref (q 0), .ref (q2 0), .ref (x 1), .ref (x 2), .ref (x 3), .int (nI n)])), (x 1, .inl (cy 0, 12, .inl wt)), (x 2, .inl (cy 0, 12, .inl dt))]
abbrev wK (cy : Nat → ClassId) (x ca ta : Nat → Nat) (lo sz : Nat → Nat) (tn : Nat → Nat → Int32) : va_W := [(x 3, .inl (cy 2, 6, .inr (.inr (.inr (.inr (fun i => some (ca i))))))), (ca 0, .inr (0, [.ref (ta 0), .int (nI (lo 0)), .int (nI (sz 0))])), (ca 1, .inr (0, [.ref (ta 1), .int (nI (lo 1)), .int (nI (sz 1))])), (ca 2, .inr (0, [.ref (ta 2), .int (nI (lo 2)), .int (nI (sz 2))])), (ca 3, .inr (0, [.ref (ta 3), .int (nI (lo 3)), .int (nI (sz 3))])), (ca 4, .inr (0, [.ref (ta 4), .int (nI (lo 4)), .int (nI (sz 4))])), (ca 5, .inr (0, [.ref (ta 5), .int (nI (lo 5)), .int (nI (sz 5))])), (ta 0, .inl (cy 0, 4, .inl (tn 0))), (ta 1, .inl (cy 0, 4, .inl (tn 1))), (ta 2, .inl (cy 0, 4, .inl (tn 2))), (ta 3, .inl (cy 0, 4, .inl (tn 3))), (ta 4, .inl (cy 0, 4, .inl (tn 4))), (ta 5, .inl (cy 0, 4, .inl (tn 5)))]
/-- the whole object in the heap: itself and its tables (places 0 to 2), the harp (3 to 9), the other harp (10 to 16), the chords (17 to 29) -/
abbrev wX (cy : Nat → ClassId) (x q q2 ca ta : Nat → Nat) (u : US) (g : HS) : va_W := wO cy x q q2 (un u) (uw u) (ud u) ++ (wH cy q (uh u) ++ (wH cy q2 g ++ wK cy x ca ta (ul u) (uz u) (ut u)))
/-- what holds of the numbers at any time -/
def uOk (u : US) : Prop := ok01 (uh u) ∧ un u ≤ 6 ∧ (∀ i, i < 6 → ul u i + uz u i ≤ 12 ∧ uz u i ≤ 4) ∧ (∀ i, i < un u → 2 ≤ uz u i) ∧ zh (uh u) < 1000000000
theorem wX_ch {D : va_G} {cl : List vw_C} {cy : Nat → ClassId} {x q q2 ca ta : Nat → Nat} {u : US} {g : HS} {H : Heap} (hP : va_P D cl (wX cy x q q2 ca ta u g) H) {i : Nat} (hi : i < 6) : va_P D cl (wH cy q (uh u) ++ wC cy (ca i) (ta i) (ul u i) (uz u i) (ut u i)) H := by
  rcases (show i = 0 ∨ i = 1 ∨ i = 2 ∨ i = 3 ∨ i = 4 ∨ i = 5 by omega) with rfl | rfl | rfl | rfl | rfl | rfl
  · exact hP.sub [3, 4, 5, 6, 7, 8, 9, 18, 24] rfl
  · exact hP.sub [3, 4, 5, 6, 7, 8, 9, 19, 25] rfl
  · exact hP.sub [3, 4, 5, 6, 7, 8, 9, 20, 26] rfl
  · exact hP.sub [3, 4, 5, 6, 7, 8, 9, 21, 27] rfl
  · exact hP.sub [3, 4, 5, 6, 7, 8, 9, 22, 28] rfl
  · exact hP.sub [3, 4, 5, 6, 7, 8, 9, 23, 29] rfl
theorem wX_ch2 {D : va_G} {cl : List vw_C} {cy : Nat → ClassId} {x q q2 ca ta : Nat → Nat} {u : US} {g : HS} {H : Heap} (hP : va_P D cl (wX cy x q q2 ca ta u g) H) {i : Nat} (hi : i < 6) : va_P D cl (wH cy q2 g ++ wC cy (ca i) (ta i) (ul u i) (uz u i) (ut u i)) H := by
  rcases (show i = 0 ∨ i = 1 ∨ i = 2 ∨ i = 3 ∨ i = 4 ∨ i = 5 by omega) with rfl | rfl | rfl | rfl | rfl | rfl
  · exact hP.sub [10, 11, 12, 13, 14, 15, 16, 18, 24] rfl
  · exact hP.sub [10, 11, 12, 13, 14, 15, 16, 19, 25] rfl
  · exact hP.sub [10, 11, 12, 13, 14, 15, 16, 20, 26] rfl
  · exact hP.sub [10, 11, 12, 13, 14, 15, 16, 21, 27] rfl
  · exact hP.sub [10, 11, 12, 13, 14, 15, 16, 22, 28] rfl
  · exact hP.sub [10, 11, 12, 13, 14, 15, 16, 23, 29] rfl
/-! what the calls answer -/
def ix (k : Int32) : Nat := k.toNatClampNeg
theorem ix_nI {j : Nat} (h : j < 2147483648) : ix (nI j) = j := nI_clamp h
theorem in_nat {k : Int32} {N : Nat} (hN : N < 2147483648) (h0 : ¬ k < 0) (h1 : k < nI N) : ∃ j : Nat, j < N ∧ k = nI j := by
  obtain ⟨j, hj, rfl⟩ := nI_of h0
  exact ⟨j, (nI_ltI hj hN).mp h1, rfl⟩
def isS (k : Int32) : Bool := decide (¬ k < 0 ∧ k < 12)
theorem isS_nat {k : Int32} (h : isS k = true) : ∃ j : Nat, j < 12 ∧ k = nI j := by
  have h2 := of_decide_eq_true h
  exact in_nat (N := 12) (by decide) h2.1 h2.2
def isW (x : Int32) : Bool := decide (¬ x < -20 ∧ x ≤ 20)
def isT (t lo : Int32) : Bool := decide (¬ t < lo ∧ t ≤ 1500)
def isH (x : Int32) : Bool := decide (¬ x < 1 ∧ x ≤ 200)
theorem isH_nat {k : Int32} (h : isH k = true) : ∃ j : Nat, 1 ≤ j ∧ j ≤ 200 ∧ k = nI j := by
  have h2 := of_decide_eq_true h
  have h3 : ¬ k < 0 := fun z => h2.1 (Int32.lt_trans z (by decide))
  obtain ⟨j, hj, rfl⟩ := nI_of h3
  exact ⟨j, (by have := h2.1; rcases Nat.lt_or_ge j 1 with z | z; exact absurd ((nI_ltI (a := j) (b := 1) hj (by decide)).mpr z) this; exact z), (nI_leI (a := j) (b := 200) hj (by decide)).mp h2.2, rfl⟩
def isC (u : US) (c : Int32) : Bool := decide (¬ c < 0 ∧ c < nI (un u))
theorem isC_nat {u : US} (hn : un u ≤ 6) {c : Int32} (h : isC u c = true) : ∃ j : Nat, j < un u ∧ c = nI j := by
  have h2 := of_decide_eq_true h
  exact in_nat (by omega) h2.1 h2.2
/-- the exceptions by number, as most calls name them; those that name IllegalArgumentException first -/
def xn (k : Nat) : String := match k with
  | 1 => xI
  | 2 => xA
  | _ => xT
def xm (k : Nat) : String := match k with
  | 1 => xA
  | _ => xI
def hPush (h : HS) (k : Nat) (x : Int32) : HS := (zb h, upd (zw h) k (zw h k + x), zd h, zs h, zr h, zo h, zl h, zh h)
def uH (u : US) (h : HS) : US := (h, uw u, ud u, un u, ul u, uz u, ut u)
def exPush (u : US) (k x : Int32) : Nat := if isS k = false then 1 else if isW x = false then 2 else if x = 0 then 2 else if fitsW (zw (uh u) (ix k) + x) = false then 3 else 0
def isB (b : Int32) : Bool := decide (¬ b < 100 ∧ b ≤ 900)
def exDraw (k b : Int32) : Nat := if isS k = false then 1 else if isB b = false then 2 else 0
def isWi (w : Int32) : Bool := decide (¬ w < 0 ∧ w ≤ 20)
def isDa (d : Int32) : Bool := decide (¬ d < 0 ∧ d ≤ 9)
def exWea (k w d : Int32) : Nat := if isS k = false then 1 else if isWi w = false then 2 else if isDa d = false then 2 else 0
def uWea (u : US) (k : Nat) (w d : Int32) : US := (uh u, upd (uw u) k w, upd (ud u) k d, un u, ul u, uz u, ut u)
def wea (u : US) (k : Nat) : Int32 := 10 * uw u k + ud u k
def isF (w : Int32) : Bool := decide (¬ w < 0 ∧ w < 7)
theorem isF_nat {k : Int32} (h : isF k = true) : ∃ j : Nat, j < 7 ∧ k = nI j := by
  have h2 := of_decide_eq_true h
  exact in_nat (N := 7) (by decide) h2.1 h2.2
def exStr (k w : Int32) : Nat := if isS k = false then 1 else if isF w = false then 1 else 0
def exMov (k x o : Int32) : Nat := if isS k = false then 1 else if isS o = false then 1 else if isW x = false then 2 else 0
def mov (h : HS) (k o : Nat) (x : Int32) : Int32 := if zo h o = 0 then 0 else if k = o then 10 * x else if k + 1 = o ∨ o + 1 = k then 3 * x else 0
def isN8 (w : Int32) : Bool := decide (¬ w < 0 ∧ w < 8)
theorem isN8_nat {k : Int32} (h : isN8 k = true) : ∃ j : Nat, j < 8 ∧ k = nI j := by
  have h2 := of_decide_eq_true h
  exact in_nat (N := 8) (by decide) h2.1 h2.2
def exCnt (w : Int32) : Nat := if isN8 w = false then 1 else 0
def exC (u : US) (c : Int32) : Nat := if isC u c = false then 1 else 0
def exPass (x : Int32) : Nat := if isH x = false then 1 else 0
def exFor (x k : Int32) : Nat := if isH x = false then 1 else if isS k = false then 2 else 0
def exS (k : Int32) : Nat := if isS k = false then 1 else 0
def snd (u : US) (i : Nat) : Bool := tuned (uh u) (ul u i) (uz u i) (ut u i)
def cntOf (u : US) (w : Nat) : Int32 := match w with
  | 0 => nI (zh (uh u))
  | 1 => sumN (zo (uh u)) 12
  | 2 => nI (un u)
  | 3 => nI (cnt (snd u) 0 (un u))
  | 4 => zl (uh u)
  | 5 => sumN (zw (uh u)) 12
  | 6 => sumN (zs (uh u)) 12
  | _ => sumN (zr (uh u)) 12
def lowF (p : Nat → Bool) (k : Nat) : Nat → Int32
  | 0 => -1
  | n + 1 => if p k then nI k else lowF p (k + 1) n
/-- a checksum goes on by numbers f 0, f 1 .. -/
def dgN (f : Nat → Int32) (d : Int64) : Nat → Int64
  | 0 => d
  | n + 1 => dgN f d n * 31 + (f n).toInt64
def dgC (u : US) (i : Nat) (d : Int64) : Int64 := dgN (ut u i) ((d * 31 + (nI (ul u i)).toInt64) * 31 + (nI (uz u i)).toInt64) (uz u i) * 31 + (offBy (uh u) (ul u i) (ut u i) (uz u i)).toInt64
theorem ab_one_all : ∀ j, j < 12 → ∀ i, i < 12 → (ab (nI j - nI i) = 1 ↔ (j + 1 = i ∨ i + 1 = j)) := by decide +kernel
theorem ab_one {j i : Nat} (hj : j < 12) (hi : i < 12) : ab (nI j - nI i) = 1 ↔ (j + 1 = i ∨ i + 1 = j) := ab_one_all j hj i hi
end
section
theorem xgX2_checkString_77 : ∀ w ∈ (vx_atS RX2 77 xI xNm).filter goodWord, w ∈ wsX2_checkString := by decide +kernel
theorem kX2_checkString_0 : (.classLink RX2 73 xI : Cond) ∈ wsX2_checkString := by decide +kernel
theorem kX2_checkString_1 : (.initialized xI : Cond) ∈ wsX2_checkString := by decide +kernel
set_option maxHeartbeats 4000000 in
set_option maxRecDepth 100000 in
theorem mX2_checkString (l : Launch) (hst : l.stackTraces = false) (D : va_G) (cy : Nat → ClassId) (k : Int32) : vx_Met l yX2_checkString wsX2_checkString ({ frames := 6, cells := 1, slots := 6, locals := 82 } : Room) (va_Pc [.int k] (fun U => xC U U.heap)) (pQv (isS k = true)) (pX (fun E => E = xI ∧ isS k = false)) 1 6 (fun _ => False) := by
  refine vx_ofW (cc := cX2_checkString) (maxL := 1) (ret := none) (by decide) rfl ?_
  intro p e s m args below meth c s₁ B hml hex hv
  obtain ⟨rfl, hX⟩ := hv
  have hx := B.exec
  have hb := B.bytes
  have hr := B.returns
  have hts := atoms_spec (ws := wsX2_checkString) B.pre
  have hown : s.vm.findClass RX2 = some m.cls := findClass_of_methodNamed B.named
  have hlocks := B.notSynchronized
  have hl := lv_entry ([.int k]) (n := 1) (Nat.le_of_ble_eq_true rfl)
  rw [lg_entry_eq]
  generalize (lg_sl ([.int k]) ++ List.replicate (1 - (lg_sl ([.int k])).length) Slot.unset).toArray = ls at hl ⊢
  have hl : lv_has ls 1 [(0, .int k)] := hl
  refine lv_iload_n hx hb dX2_checkString_0 rfl (lv_at hl 0 rfl) ?_
  refine lv_if_lt (tgt := 10) hx hb dX2_checkString_1 (by decide) (fun c1 => ?_) (fun c1 => ?_)
  · exact px_throwS (ik := 73) (is := 174) (ic := 77) (cls := xI) (text := "a string is not 0 to 11") hx hb hst hown xf_I (by decide) (hts _ kX2_checkString_0) (hts _ kX2_checkString_1) (fun w hw => hts w (xgX2_checkString_77 w hw)) xb_77 xo_77 hX (by decide) rfl rfl (by rw [hml]; exact hl.1) dX2_checkString_10 dX2_checkString_13 dX2_checkString_14 dX2_checkString_16 dX2_checkString_19 hex (Nat.le_of_ble_eq_true rfl) (Nat.le_of_ble_eq_true rfl) (Nat.le_of_ble_eq_true rfl) (Nat.le_of_ble_eq_true rfl) hlocks ⟨rfl, (by simp [isS, c1])⟩ (Nat.le_of_ble_eq_true rfl) (Nat.le_of_ble_eq_true rfl)
  · refine lv_iload_n hx hb dX2_checkString_4 rfl (lv_at hl 0 rfl) ?_
    refine lv_bipush (v := 12) hx hb dX2_checkString_5 (by decide) ?_
    refine lv_icmp_lt (tgt := 20) hx hb dX2_checkString_7 (by decide) (fun c7 => ?_) (fun c7 => ?_)
    · refine vx_ret ?_
      refine W.widen (k := 1) (n := 6) (Nat.le_of_ble_eq_true rfl) (Nat.le_of_ble_eq_true rfl) ?_
      exact W.vret hx hb hr (fun t ht hW => ⟨rfl, (by simp [isS, c1, c7]), ht⟩) (fun q hq => absurd hq List.not_mem_nil) dX2_checkString_20
    · exact px_throwS (ik := 73) (is := 174) (ic := 77) (cls := xI) (text := "a string is not 0 to 11") hx hb hst hown xf_I (by decide) (hts _ kX2_checkString_0) (hts _ kX2_checkString_1) (fun w hw => hts w (xgX2_checkString_77 w hw)) xb_77 xo_77 hX (by decide) rfl rfl (by rw [hml]; exact hl.1) dX2_checkString_10 dX2_checkString_13 dX2_checkString_14 dX2_checkString_16 dX2_checkString_19 hex (Nat.le_of_ble_eq_true rfl) (Nat.le_of_ble_eq_true rfl) (Nat.le_of_ble_eq_true rfl) (Nat.le_of_ble_eq_true rfl) hlocks ⟨rfl, (by simp [isS, c1, c7])⟩ (Nat.le_of_ble_eq_true rfl) (Nat.le_of_ble_eq_true rfl)

theorem xgX2_checkWedgeSteps_48 : ∀ w ∈ (vx_atS RX2 48 xA xNm).filter goodWord, w ∈ wsX2_checkWedgeSteps := by decide +kernel
theorem kX2_checkWedgeSteps_0 : (.classLink RX2 44 xA : Cond) ∈ wsX2_checkWedgeSteps := by decide +kernel
theorem kX2_checkWedgeSteps_1 : (.initialized xA : Cond) ∈ wsX2_checkWedgeSteps := by decide +kernel
set_option maxHeartbeats 4000000 in
set_option maxRecDepth 100000 in
theorem mX2_checkWedgeSteps (l : Launch) (hst : l.stackTraces = false) (D : va_G) (cy : Nat → ClassId) (v : Int32) : vx_Met l yX2_checkWedgeSteps wsX2_checkWedgeSteps ({ frames := 6, cells := 1, slots := 6, locals := 82 } : Room) (va_Pc [.int v] (fun U => xC U U.heap)) (pQv (isW v = true)) (pX (fun E => E = xA ∧ isW v = false)) 1 6 (fun _ => False) := by
  refine vx_ofW (cc := cX2_checkWedgeSteps) (maxL := 1) (ret := none) (by decide) rfl ?_
  intro p e s m args below meth c s₁ B hml hex hv
  obtain ⟨rfl, hX⟩ := hv
  have hx := B.exec
  have hb := B.bytes
  have hr := B.returns
  have hts := atoms_spec (ws := wsX2_checkWedgeSteps) B.pre
  have hown : s.vm.findClass RX2 = some m.cls := findClass_of_methodNamed B.named
  have hlocks := B.notSynchronized
  have hl := lv_entry ([.int v]) (n := 1) (Nat.le_of_ble_eq_true rfl)
  rw [lg_entry_eq]
  generalize (lg_sl ([.int v]) ++ List.replicate (1 - (lg_sl ([.int v])).length) Slot.unset).toArray = ls at hl ⊢
  have hl : lv_has ls 1 [(0, .int v)] := hl
  refine lv_iload_n hx hb dX2_checkWedgeSteps_0 rfl (lv_at hl 0 rfl) ?_
  refine lv_bipush (v := (-20)) hx hb dX2_checkWedgeSteps_1 (by decide) ?_
  refine lv_icmp_lt (tgt := 12) hx hb dX2_checkWedgeSteps_3 (by decide) (fun c3 => ?_) (fun c3 => ?_)
  · exact px_throwS (ik := 44) (is := 176) (ic := 48) (cls := xA) (text := "the steps are not -20 to 20") hx hb hst hown xf_A (by decide) (hts _ kX2_checkWedgeSteps_0) (hts _ kX2_checkWedgeSteps_1) (fun w hw => hts w (xgX2_checkWedgeSteps_48 w hw)) xb_48 xo_48 hX (by decide) rfl rfl (by rw [hml]; exact hl.1) dX2_checkWedgeSteps_12 dX2_checkWedgeSteps_15 dX2_checkWedgeSteps_16 dX2_checkWedgeSteps_18 dX2_checkWedgeSteps_21 hex (Nat.le_of_ble_eq_true rfl) (Nat.le_of_ble_eq_true rfl) (Nat.le_of_ble_eq_true rfl) (Nat.le_of_ble_eq_true rfl) hlocks ⟨rfl, (by simp [isW, c3])⟩ (Nat.le_of_ble_eq_true rfl) (Nat.le_of_ble_eq_true rfl)
  · refine lv_iload_n hx hb dX2_checkWedgeSteps_6 rfl (lv_at hl 0 rfl) ?_
    refine lv_bipush (v := 20) hx hb dX2_checkWedgeSteps_7 (by decide) ?_
    refine lv_icmp_le (tgt := 22) hx hb dX2_checkWedgeSteps_9 (by decide) (fun c9 => ?_) (fun c9 => ?_)
    · refine vx_ret ?_
      refine W.widen (k := 1) (n := 6) (Nat.le_of_ble_eq_true rfl) (Nat.le_of_ble_eq_true rfl) ?_
      exact W.vret hx hb hr (fun t ht hW => ⟨rfl, (by simp [isW, c3, c9]), ht⟩) (fun q hq => absurd hq List.not_mem_nil) dX2_checkWedgeSteps_22
    · exact px_throwS (ik := 44) (is := 176) (ic := 48) (cls := xA) (text := "the steps are not -20 to 20") hx hb hst hown xf_A (by decide) (hts _ kX2_checkWedgeSteps_0) (hts _ kX2_checkWedgeSteps_1) (fun w hw => hts w (xgX2_checkWedgeSteps_48 w hw)) xb_48 xo_48 hX (by decide) rfl rfl (by rw [hml]; exact hl.1) dX2_checkWedgeSteps_12 dX2_checkWedgeSteps_15 dX2_checkWedgeSteps_16 dX2_checkWedgeSteps_18 dX2_checkWedgeSteps_21 hex (Nat.le_of_ble_eq_true rfl) (Nat.le_of_ble_eq_true rfl) (Nat.le_of_ble_eq_true rfl) (Nat.le_of_ble_eq_true rfl) hlocks ⟨rfl, (by simp [isW, c3, c9])⟩ (Nat.le_of_ble_eq_true rfl) (Nat.le_of_ble_eq_true rfl)

theorem xgX2_checkTone_48 : ∀ w ∈ (vx_atS RX2 48 xA xNm).filter goodWord, w ∈ wsX2_checkTone := by decide +kernel
theorem kX2_checkTone_0 : (.classLink RX2 44 xA : Cond) ∈ wsX2_checkTone := by decide +kernel
theorem kX2_checkTone_1 : (.initialized xA : Cond) ∈ wsX2_checkTone := by decide +kernel
set_option maxHeartbeats 4000000 in
set_option maxRecDepth 100000 in
theorem mX2_checkTone (l : Launch) (hst : l.stackTraces = false) (D : va_G) (cy : Nat → ClassId) (v w : Int32) : vx_Met l yX2_checkTone wsX2_checkTone ({ frames := 6, cells := 1, slots := 6, locals := 82 } : Room) (va_Pc [.int v, .int w] (fun U => xC U U.heap)) (pQv (isT v w = true)) (pX (fun E => E = xA ∧ isT v w = false)) 1 6 (fun _ => False) := by
  refine vx_ofW (cc := cX2_checkTone) (maxL := 2) (ret := none) (by decide) rfl ?_
  intro p e s m args below meth c s₁ B hml hex hv
  obtain ⟨rfl, hX⟩ := hv
  have hx := B.exec
  have hb := B.bytes
  have hr := B.returns
  have hts := atoms_spec (ws := wsX2_checkTone) B.pre
  have hown : s.vm.findClass RX2 = some m.cls := findClass_of_methodNamed B.named
  have hlocks := B.notSynchronized
  have hl := lv_entry ([.int v, .int w]) (n := 2) (Nat.le_of_ble_eq_true rfl)
  rw [lg_entry_eq]
  generalize (lg_sl ([.int v, .int w]) ++ List.replicate (2 - (lg_sl ([.int v, .int w])).length) Slot.unset).toArray = ls at hl ⊢
  have hl : lv_has ls 2 [(0, .int v), (1, .int w)] := hl
  refine lv_iload_n hx hb dX2_checkTone_0 rfl (lv_at hl 0 rfl) ?_
  refine lv_iload_n hx hb dX2_checkTone_1 rfl (lv_at hl 1 rfl) ?_
  refine lv_icmp_lt (tgt := 12) hx hb dX2_checkTone_2 (by decide) (fun c2 => ?_) (fun c2 => ?_)
  · exact px_throwS (ik := 44) (is := 178) (ic := 48) (cls := xA) (text := "a tone is too small, or more than 1500") hx hb hst hown xf_A (by decide) (hts _ kX2_checkTone_0) (hts _ kX2_checkTone_1) (fun w hw => hts w (xgX2_checkTone_48 w hw)) xb_48 xo_48 hX (by decide) rfl rfl (by rw [hml]; exact hl.1) dX2_checkTone_12 dX2_checkTone_15 dX2_checkTone_16 dX2_checkTone_18 dX2_checkTone_21 hex (Nat.le_of_ble_eq_true rfl) (Nat.le_of_ble_eq_true rfl) (Nat.le_of_ble_eq_true rfl) (Nat.le_of_ble_eq_true rfl) hlocks ⟨rfl, (by simp [isT, c2])⟩ (Nat.le_of_ble_eq_true rfl) (Nat.le_of_ble_eq_true rfl)
  · refine lv_iload_n hx hb dX2_checkTone_5 rfl (lv_at hl 0 rfl) ?_
    refine lv_sipush (v := 1500) hx hb dX2_checkTone_6 (by decide) ?_
    refine lv_icmp_le (tgt := 22) hx hb dX2_checkTone_9 (by decide) (fun c9 => ?_) (fun c9 => ?_)
    · refine vx_ret ?_
      refine W.widen (k := 1) (n := 6) (Nat.le_of_ble_eq_true rfl) (Nat.le_of_ble_eq_true rfl) ?_
      exact W.vret hx hb hr (fun t ht hW => ⟨rfl, (by simp [isT, c2, c9]), ht⟩) (fun q hq => absurd hq List.not_mem_nil) dX2_checkTone_22
    · exact px_throwS (ik := 44) (is := 178) (ic := 48) (cls := xA) (text := "a tone is too small, or more than 1500") hx hb hst hown xf_A (by decide) (hts _ kX2_checkTone_0) (hts _ kX2_checkTone_1) (fun w hw => hts w (xgX2_checkTone_48 w hw)) xb_48 xo_48 hX (by decide) rfl rfl (by rw [hml]; exact hl.1) dX2_checkTone_12 dX2_checkTone_15 dX2_checkTone_16 dX2_checkTone_18 dX2_checkTone_21 hex (Nat.le_of_ble_eq_true rfl) (Nat.le_of_ble_eq_true rfl) (Nat.le_of_ble_eq_true rfl) (Nat.le_of_ble_eq_true rfl) hlocks ⟨rfl, (by simp [isT, c2, c9])⟩ (Nat.le_of_ble_eq_true rfl) (Nat.le_of_ble_eq_true rfl)

theorem xgX2_checkHours_48 : ∀ w ∈ (vx_atS RX2 48 xA xNm).filter goodWord, w ∈ wsX2_checkHours := by decide +kernel
theorem kX2_checkHours_0 : (.classLink RX2 44 xA : Cond) ∈ wsX2_checkHours := by decide +kernel
theorem kX2_checkHours_1 : (.initialized xA : Cond) ∈ wsX2_checkHours := by decide +kernel
set_option maxHeartbeats 4000000 in
set_option maxRecDepth 100000 in
theorem mX2_checkHours (l : Launch) (hst : l.stackTraces = false) (D : va_G) (cy : Nat → ClassId) (v : Int32) : vx_Met l yX2_checkHours wsX2_checkHours ({ frames := 6, cells := 1, slots := 6, locals := 82 } : Room) (va_Pc [.int v] (fun U => xC U U.heap)) (pQv (isH v = true)) (pX (fun E => E = xA ∧ isH v = false)) 1 6 (fun _ => False) := by
  refine vx_ofW (cc := cX2_checkHours) (maxL := 1) (ret := none) (by decide) rfl ?_
  intro p e s m args below meth c s₁ B hml hex hv
  obtain ⟨rfl, hX⟩ := hv
  have hx := B.exec
  have hb := B.bytes
  have hr := B.returns
  have hts := atoms_spec (ws := wsX2_checkHours) B.pre
  have hown : s.vm.findClass RX2 = some m.cls := findClass_of_methodNamed B.named
  have hlocks := B.notSynchronized
  have hl := lv_entry ([.int v]) (n := 1) (Nat.le_of_ble_eq_true rfl)
  rw [lg_entry_eq]
  generalize (lg_sl ([.int v]) ++ List.replicate (1 - (lg_sl ([.int v])).length) Slot.unset).toArray = ls at hl ⊢
  have hl : lv_has ls 1 [(0, .int v)] := hl
  refine lv_iload_n hx hb dX2_checkHours_0 rfl (lv_at hl 0 rfl) ?_
  refine lv_iconst (v := 1) hx hb dX2_checkHours_1 (by decide) ?_
  refine lv_icmp_lt (tgt := 12) hx hb dX2_checkHours_2 (by decide) (fun c2 => ?_) (fun c2 => ?_)
  · exact px_throwS (ik := 44) (is := 180) (ic := 48) (cls := xA) (text := "the hours are not 1 to 200") hx hb hst hown xf_A (by decide) (hts _ kX2_checkHours_0) (hts _ kX2_checkHours_1) (fun w hw => hts w (xgX2_checkHours_48 w hw)) xb_48 xo_48 hX (by decide) rfl rfl (by rw [hml]; exact hl.1) dX2_checkHours_12 dX2_checkHours_15 dX2_checkHours_16 dX2_checkHours_18 dX2_checkHours_21 hex (Nat.le_of_ble_eq_true rfl) (Nat.le_of_ble_eq_true rfl) (Nat.le_of_ble_eq_true rfl) (Nat.le_of_ble_eq_true rfl) hlocks ⟨rfl, (by simp [isH, c2])⟩ (Nat.le_of_ble_eq_true rfl) (Nat.le_of_ble_eq_true rfl)
  · refine lv_iload_n hx hb dX2_checkHours_5 rfl (lv_at hl 0 rfl) ?_
    refine lv_sipush (v := 200) hx hb dX2_checkHours_6 (by decide) ?_
    refine lv_icmp_le (tgt := 22) hx hb dX2_checkHours_9 (by decide) (fun c9 => ?_) (fun c9 => ?_)
    · refine vx_ret ?_
      refine W.widen (k := 1) (n := 6) (Nat.le_of_ble_eq_true rfl) (Nat.le_of_ble_eq_true rfl) ?_
      exact W.vret hx hb hr (fun t ht hW => ⟨rfl, (by simp [isH, c2, c9]), ht⟩) (fun q hq => absurd hq List.not_mem_nil) dX2_checkHours_22
    · exact px_throwS (ik := 44) (is := 180) (ic := 48) (cls := xA) (text := "the hours are not 1 to 200") hx hb hst hown xf_A (by decide) (hts _ kX2_checkHours_0) (hts _ kX2_checkHours_1) (fun w hw => hts w (xgX2_checkHours_48 w hw)) xb_48 xo_48 hX (by decide) rfl rfl (by rw [hml]; exact hl.1) dX2_checkHours_12 dX2_checkHours_15 dX2_checkHours_16 dX2_checkHours_18 dX2_checkHours_21 hex (Nat.le_of_ble_eq_true rfl) (Nat.le_of_ble_eq_true rfl) (Nat.le_of_ble_eq_true rfl) (Nat.le_of_ble_eq_true rfl) hlocks ⟨rfl, (by simp [isH, c2, c9])⟩ (Nat.le_of_ble_eq_true rfl) (Nat.le_of_ble_eq_true rfl)

theorem inX2_checkChord_RX2 : ∀ w ∈ u_ws RX2 TX2 6, w ∈ wsX2_checkChord := by decide +kernel
theorem xgX2_checkChord_77 : ∀ w ∈ (vx_atS RX2 77 xI xNm).filter goodWord, w ∈ wsX2_checkChord := by decide +kernel
theorem kX2_checkChord_0 : (.classLink RX2 73 xI : Cond) ∈ wsX2_checkChord := by decide +kernel
theorem kX2_checkChord_1 : (.initialized xI : Cond) ∈ wsX2_checkChord := by decide +kernel
theorem kX2_checkChord_2 : (.fieldLink RX2 33 "WedgeHarps" "told" "I" : Cond) ∈ wsX2_checkChord := by decide +kernel
set_option maxHeartbeats 4000000 in
set_option maxRecDepth 100000 in
theorem mX2_checkChord (l : Launch) (hst : l.stackTraces = false) (D : va_G) (cy : Nat → ClassId) (a q q2 ca ta : Nat → Nat) (u : US) (g : HS) (hu : uOk u) (v : Int32) : vx_Met l yX2_checkChord wsX2_checkChord ({ frames := 6, cells := 1, slots := 6, locals := 82 } : Room) (va_Pc [.ref (a 0), .int v] (fun U => va_P D vwCl (wX cy a q q2 ca ta u g) U.heap ∧ va_K D vwCl (TY cy) U ∧ xC U U.heap)) (pQv (isC u v = true)) (pX (fun E => E = xI ∧ isC u v = false)) 1 6 (fun _ => False) := by
  refine vx_ofW (cc := cX2_checkChord) (maxL := 2) (ret := none) (by decide) rfl ?_
  intro p e s m args below meth c s₁ B hml hex hv
  obtain ⟨rfl, hP, hK, hX⟩ := hv
  have hx := B.exec
  have hb := B.bytes
  have hr := B.returns
  have hts := atoms_spec (ws := wsX2_checkChord) B.pre
  have hown : s.vm.findClass RX2 = some m.cls := findClass_of_methodNamed B.named
  have hlocks := B.notSynchronized
  have hl := lv_entry ([.ref (a 0), .int v]) (n := 2) (Nat.le_of_ble_eq_true rfl)
  rw [lg_entry_eq]
  generalize (lg_sl ([.ref (a 0), .int v]) ++ List.replicate (2 - (lg_sl ([.ref (a 0), .int v])).length) Slot.unset).toArray = ls at hl ⊢
  have hl : lv_has ls 2 [(0, .ref (a 0)), (1, .int v)] := hl
  refine lv_iload_n hx hb dX2_checkChord_0 rfl (lv_at hl 1 rfl) ?_
  refine lv_if_lt (tgt := 12) hx hb dX2_checkChord_1 (by decide) (fun c1 => ?_) (fun c1 => ?_)
  · exact px_throwS (ik := 73) (is := 182) (ic := 77) (cls := xI) (text := "there is no such chord") hx hb hst hown xf_I (by decide) (hts _ kX2_checkChord_0) (hts _ kX2_checkChord_1) (fun w hw => hts w (xgX2_checkChord_77 w hw)) xb_77 xo_77 hX (by decide) rfl rfl (by rw [hml]; exact hl.1) dX2_checkChord_12 dX2_checkChord_15 dX2_checkChord_16 dX2_checkChord_18 dX2_checkChord_21 hex (Nat.le_of_ble_eq_true rfl) (Nat.le_of_ble_eq_true rfl) (Nat.le_of_ble_eq_true rfl) (Nat.le_of_ble_eq_true rfl) hlocks ⟨rfl, (by simp [isC, c1])⟩ (Nat.le_of_ble_eq_true rfl) (Nat.le_of_ble_eq_true rfl)
  · refine lv_iload_n hx hb dX2_checkChord_4 rfl (lv_at hl 1 rfl) ?_
    refine lv_aload_n hx hb dX2_checkChord_5 rfl (lv_at hl 0 rfl) ?_
    refine va_get (D := D) (ci := 2) (v := .int (nI (un u))) (C := RX2) (T := TX2) (N := 6) hx hb hts inX2_checkChord_RX2 hown hK hP 0 rfl rfl 5 (by decide) (hts _ kX2_checkChord_2) (fun _ h9 => h9) rfl dX2_checkChord_6 ?_
    refine lv_icmp_lt (tgt := 22) hx hb dX2_checkChord_9 (by decide) (fun c9 => ?_) (fun c9 => ?_)
    · refine vx_ret ?_
      refine W.widen (k := 1) (n := 6) (Nat.le_of_ble_eq_true rfl) (Nat.le_of_ble_eq_true rfl) ?_
      exact W.vret hx hb hr (fun t ht hW => ⟨rfl, (by simp [isC, c1, c9]), ht⟩) (fun q hq => absurd hq List.not_mem_nil) dX2_checkChord_22
    · exact px_throwS (ik := 73) (is := 182) (ic := 77) (cls := xI) (text := "there is no such chord") hx hb hst hown xf_I (by decide) (hts _ kX2_checkChord_0) (hts _ kX2_checkChord_1) (fun w hw => hts w (xgX2_checkChord_77 w hw)) xb_77 xo_77 hX (by decide) rfl rfl (by rw [hml]; exact hl.1) dX2_checkChord_12 dX2_checkChord_15 dX2_checkChord_16 dX2_checkChord_18 dX2_checkChord_21 hex (Nat.le_of_ble_eq_true rfl) (Nat.le_of_ble_eq_true rfl) (Nat.le_of_ble_eq_true rfl) (Nat.le_of_ble_eq_true rfl) hlocks ⟨rfl, (by simp [isC, c1, c9])⟩ (Nat.le_of_ble_eq_true rfl) (Nat.le_of_ble_eq_true rfl)

theorem inX2_weatherAt_RX2 : ∀ w ∈ u_ws RX2 TX2 6, w ∈ wsX2_weatherAt := by decide +kernel
theorem kX2_weatherAt_0 : (.fieldLink RX2 19 "WedgeHarps" "windTable" "[I" : Cond) ∈ wsX2_weatherAt := by decide +kernel
theorem kX2_weatherAt_1 : (.fieldLink RX2 23 "WedgeHarps" "dampTable" "[I" : Cond) ∈ wsX2_weatherAt := by decide +kernel
set_option maxHeartbeats 4000000 in
set_option maxRecDepth 100000 in
theorem mX2_weatherAt (l : Launch) (D : va_G) (cy : Nat → ClassId) (a q q2 ca ta : Nat → Nat) (u : US) (g : HS) (hu : uOk u) (k : Nat) (hk : k < 12) : Met l yX2_weatherAt wsX2_weatherAt ({ frames := 0, cells := 0, slots := 0, locals := 0 } : Room) (va_Pc [.ref (a 0), .int (nI k)] (fun U => va_P D vwCl (wX cy a q q2 ca ta u g) U.heap ∧ va_K D vwCl (TY cy) U)) (vp_Si (fun r8 => r8 = wea u k)) 0 0 (fun _ => False) := by
  refine Met.ofW (cc := cX2_weatherAt) (maxL := 2) (ret := (some .int)) (by decide) rfl ?_
  intro p e s m args below meth c s₁ B hml hv
  obtain ⟨rfl, hP, hK⟩ := hv
  have hx := B.exec
  have hb := B.bytes
  have hr := B.returns
  have hts := atoms_spec (ws := wsX2_weatherAt) B.pre
  have hown : s.vm.findClass RX2 = some m.cls := findClass_of_methodNamed B.named
  have hlocks := B.notSynchronized
  have hl := lv_entry ([.ref (a 0), .int (nI k)]) (n := 2) (Nat.le_of_ble_eq_true rfl)
  rw [lg_entry_eq]
  generalize (lg_sl ([.ref (a 0), .int (nI k)]) ++ List.replicate (2 - (lg_sl ([.ref (a 0), .int (nI k)])).length) Slot.unset).toArray = ls at hl ⊢
  have hl : lv_has ls 2 [(0, .ref (a 0)), (1, .int (nI k))] := hl
  refine lv_bipush (v := 10) hx hb dX2_weatherAt_0 (by decide) ?_
  refine lv_aload_n hx hb dX2_weatherAt_2 rfl (lv_at hl 0 rfl) ?_
  refine va_get (D := D) (ci := 2) (v := .ref (a 1)) (C := RX2) (T := TX2) (N := 6) hx hb hts inX2_weatherAt_RX2 hown hK hP 0 rfl rfl 2 (by decide) (hts _ kX2_weatherAt_0) (fun _ h9 => h9) rfl dX2_weatherAt_3 ?_
  refine lv_iload_n hx hb dX2_weatherAt_6 rfl (lv_at hl 1 rfl) ?_
  refine pc_iald hx hb hK hP 1 0 rfl rfl (k := k) (show k < 12 by omega) (by decide) dX2_weatherAt_7 ?_
  refine lv_imul hx hb dX2_weatherAt_8 ?_
  refine lv_aload_n hx hb dX2_weatherAt_9 rfl (lv_at hl 0 rfl) ?_
  refine va_get (D := D) (ci := 2) (v := .ref (a 2)) (C := RX2) (T := TX2) (N := 6) hx hb hts inX2_weatherAt_RX2 hown hK hP 0 rfl rfl 3 (by decide) (hts _ kX2_weatherAt_1) (fun _ h9 => h9) rfl dX2_weatherAt_10 ?_
  refine lv_iload_n hx hb dX2_weatherAt_13 rfl (lv_at hl 1 rfl) ?_
  refine pc_iald hx hb hK hP 2 0 rfl rfl (k := k) (show k < 12 by omega) (by decide) dX2_weatherAt_14 ?_
  refine lv_iadd hx hb dX2_weatherAt_15 ?_
  exact W.iret (v := (10 * ((uw u) k)) + ((ud u) k)) hx hb hr (fun t ht hW => ⟨(10 * ((uw u) k)) + ((ud u) k), rfl, rfl, ht⟩) (fun q hq => absurd hq List.not_mem_nil) dX2_weatherAt_16

set_option maxHeartbeats 4000000 in
set_option maxRecDepth 100000 in
theorem mX2_sumOf (l : Launch) (D : va_G) (cy : Nat → ClassId) (b : Nat) (f : Nat → Int32) : Met l yX2_sumOf wsX2_sumOf ({ frames := 0, cells := 0, slots := 0, locals := 0 } : Room) (va_Pc [.ref b] (fun U => va_P D vwCl ([(b, .inl (cy 0, 12, .inl f))]) U.heap ∧ va_K D vwCl (TY cy) U)) (vp_Si (fun r8 => r8 = sumN f 12)) 0 0 (fun _ => False) := by
  refine Met.ofW (cc := cX2_sumOf) (maxL := 6) (ret := (some .int)) (by decide) rfl ?_
  intro p e s m args below meth c s₁ B hml hv
  obtain ⟨rfl, hP, hK⟩ := hv
  have hx := B.exec
  have hb := B.bytes
  have hr := B.returns
  have hts := atoms_spec (ws := wsX2_sumOf) B.pre
  have hown : s.vm.findClass RX2 = some m.cls := findClass_of_methodNamed B.named
  have hlocks := B.notSynchronized
  have hl := lv_entry ([.ref b]) (n := 6) (Nat.le_of_ble_eq_true rfl)
  rw [lg_entry_eq]
  generalize (lg_sl ([.ref b]) ++ List.replicate (6 - (lg_sl ([.ref b])).length) Slot.unset).toArray = ls at hl ⊢
  have hl : lv_has ls 6 [(0, .ref b)] := hl
  refine lv_iconst (v := 0) hx hb dX2_sumOf_0 (by decide) ?_
  refine lv_istore_n (lv' := [(1, .int 0), (0, .ref b)]) hx hb dX2_sumOf_1 rfl hl (by decide) rfl (fun ls hl => ?_)
  refine lv_aload_n hx hb dX2_sumOf_2 rfl (lv_at hl 1 rfl) ?_
  refine lv_astore_n (lv' := [(2, .ref b), (1, .int 0), (0, .ref b)]) hx hb dX2_sumOf_3 rfl hl (by decide) rfl (fun ls hl => ?_)
  refine lv_aload_n hx hb dX2_sumOf_4 rfl (lv_at hl 0 rfl) ?_
  refine va_alen hx hb hK hP 0 0 rfl rfl (v := 12) rfl dX2_sumOf_5 ?_
  refine lv_istore_n (lv' := [(3, .int 12), (2, .ref b), (1, .int 0), (0, .ref b)]) hx hb dX2_sumOf_6 rfl hl (by decide) rfl (fun ls hl => ?_)
  refine lv_iconst (v := 0) hx hb dX2_sumOf_7 (by decide) ?_
  refine lv_istore (lv' := [(4, .int 0), (3, .int 12), (2, .ref b), (1, .int 0), (0, .ref b)]) hx hb dX2_sumOf_8 hl (by decide) rfl (fun ls hl => ?_)
  have loop10 : ∀ (n9 : Nat) (k : Nat), k ≤ 12 → 12 - k < n9 → ∀ ls : Array Slot, lv_has ls 6 [(1, .int (sumN f k)), (2, .ref b), (3, .int 12), (4, .int (nI k))] → W p l e (headSpec wsX2_sumOf ({ frames := 0, cells := 0, slots := 0, locals := 0 } : Room)).room s m ([.ref b] : List Value).toArray below meth c s.heap [] 0 0 (MQ below (vp_Si (fun r8 => r8 = sumN f 12)) ([.ref b] : List Value).toArray s 0 0 (fun _ => False)) (F0 m 10 ls []) := by
    intro n9
    induction n9 with
    | zero => intro k hk h9 ls hl; exact absurd h9 (by omega)
    | succ n9 ih10 =>
      intro k hk h9 ls hl
      refine lv_iload hx hb dX2_sumOf_10 (lv_at hl 3 rfl) ?_
      refine lv_iload_n hx hb dX2_sumOf_12 rfl (lv_at hl 2 rfl) ?_
      refine lv_icmp_ge (tgt := 33) hx hb dX2_sumOf_13 (by decide) (fun c13 => ?_) (fun c13 => ?_)
      · have n13 : 12 ≤ k := (nI_leI (a := 12) (b := k) (by omega) (by omega)).mp c13
        refine lv_iload_n hx hb dX2_sumOf_33 rfl (lv_at hl 0 rfl) ?_
        exact W.iret (v := sumN f k) hx hb hr (fun t ht hW => ⟨sumN f k, rfl, (by rw [show k = 12 by omega]), ht⟩) (fun q hq => absurd hq List.not_mem_nil) dX2_sumOf_34
      · have n13 : ¬ (12 ≤ k) := fun h9 => c13 ((nI_leI (a := 12) (b := k) (by omega) (by omega)).mpr h9)
        refine lv_aload_n hx hb dX2_sumOf_16 rfl (lv_at hl 1 rfl) ?_
        refine lv_iload hx hb dX2_sumOf_17 (lv_at hl 3 rfl) ?_
        refine pc_iald hx hb hK hP 0 0 rfl rfl (k := k) (show k < 12 by omega) (by decide) dX2_sumOf_19 ?_
        refine lv_istore (lv' := [(5, .int (f k)), (1, .int (sumN f k)), (2, .ref b), (3, .int 12), (4, .int (nI k))]) hx hb dX2_sumOf_20 hl (by decide) rfl (fun ls hl => ?_)
        refine lv_iload_n hx hb dX2_sumOf_22 rfl (lv_at hl 1 rfl) ?_
        refine lv_iload hx hb dX2_sumOf_23 (lv_at hl 0 rfl) ?_
        refine lv_iadd hx hb dX2_sumOf_25 ?_
        refine lv_istore_n (lv' := [(1, .int ((sumN f k) + (f k))), (5, .int (f k)), (2, .ref b), (3, .int 12), (4, .int (nI k))]) hx hb dX2_sumOf_26 rfl hl (by decide) rfl (fun ls hl => ?_)
        refine lv_iinc (v := nI (k + 1)) (lv' := [(4, .int (nI (k + 1))), (1, .int ((sumN f k) + (f k))), (5, .int (f k)), (2, .ref b), (3, .int 12)]) hx hb dX2_sumOf_27 hl (k := 4) rfl ((show (nI k) + Int32.ofInt 1 = (nI k) + 1 from rfl).trans (show (nI k) + 1 = nI (k + 1) from nI_add k 1)) (by decide) rfl (fun ls hl => ?_)
        refine lv_goto (tgt := 10) hx hb dX2_sumOf_30 (by decide) ?_
        exact ih10 (k + 1) (by omega) (by omega) ls (lv_sub hl [1, 3, 4, 0] rfl)
  exact loop10 (12 + 1) 0 (by decide) (by omega) ls (lv_sub hl [3, 2, 1, 0] rfl)

theorem inX2_push_RX1 : ∀ w ∈ u_ws RX1 TX1 8, w ∈ wsX2_push := by decide +kernel
theorem inX2_push_RX2 : ∀ w ∈ u_ws RX2 TX2 6, w ∈ wsX2_push := by decide +kernel
theorem xgX2_push_48 : ∀ w ∈ (vx_atS RX2 48 xA xNm).filter goodWord, w ∈ wsX2_push := by decide +kernel
theorem xgX2_push_59 : ∀ w ∈ (vx_atS RX2 59 xT xNm).filter goodWord, w ∈ wsX2_push := by decide +kernel
theorem kX2_push_0 : (.fieldLink RX2 10 "WedgeHarps" "now" "LWedgeHarps$Harp;" : Cond) ∈ wsX2_push := by decide +kernel
theorem kX2_push_1 : (.fieldLink RX2 60 "WedgeHarps$Harp" "wedge" "[I" : Cond) ∈ wsX2_push := by decide +kernel
theorem kX2_push_2 : (.classLink RX2 55 xT : Cond) ∈ wsX2_push := by decide +kernel
theorem kX2_push_3 : (.initialized xT : Cond) ∈ wsX2_push := by decide +kernel
theorem kX2_push_4 : (.classLink RX2 44 xA : Cond) ∈ wsX2_push := by decide +kernel
theorem kX2_push_5 : (.initialized xA : Cond) ∈ wsX2_push := by decide +kernel
set_option maxHeartbeats 4000000 in
set_option maxRecDepth 100000 in
theorem mX2_push (l : Launch) (hst : l.stackTraces = false) (D : va_G) (cy : Nat → ClassId) (sz : Nat) (a q q2 ca ta : Nat → Nat) (u : US) (g : HS) (hu : uOk u) (k v : Int32) : vx_Met l yX2_push wsX2_push ({ frames := 7, cells := 3, slots := 18, locals := 102 } : Room) (va_Pc [.ref (a 0), .int k, .int v] (fun U => U.heap.size = sz ∧ va_P D vwCl (wX cy a q q2 ca ta u g) U.heap ∧ va_K D vwCl (TY cy) U ∧ va_D (fun _ => True) (wX cy a q q2 ca ta u g) ∧ xC U U.heap)) (va_Qi (fun (r8 : Int32) (_ : Unit) => (exPush u k v = 0) ∧ r8 = tone (hPush (uh u) (ix k) v) (ix k)) (fun (_ : Unit) t => va_P D vwCl (wX cy a q q2 ca ta (uH u (hPush (uh u) (ix k) v)) g) t.heap ∧ va_D (va_A (wX cy a q q2 ca ta u g) sz) (wX cy a q q2 ca ta (uH u (hPush (uh u) (ix k) v)) g)) (va_A (wX cy a q q2 ca ta u g) sz)) (pX (fun E => E = xn (exPush u k v) ∧ exPush u k v ≠ 0)) 3 18 (va_A (wX cy a q q2 ca ta u g) sz) := by
  refine vx_ofW (cc := cX2_push) (maxL := 3) (ret := (some .int)) (by decide) rfl ?_
  intro p e s m args below meth c s₁ B hml hex hv
  obtain ⟨rfl, hsz, hP, hK, hD0, hX⟩ := hv
  have hx := B.exec
  have hb := B.bytes
  have hr := B.returns
  have hts := atoms_spec (ws := wsX2_push) B.pre
  have hown : s.vm.findClass RX2 = some m.cls := findClass_of_methodNamed B.named
  have hlocks := B.notSynchronized
  have hl := lv_entry ([.ref (a 0), .int k, .int v]) (n := 3) (Nat.le_of_ble_eq_true rfl)
  rw [lg_entry_eq]
  generalize (lg_sl ([.ref (a 0), .int k, .int v]) ++ List.replicate (3 - (lg_sl ([.ref (a 0), .int k, .int v])).length) Slot.unset).toArray = ls at hl ⊢
  have hl : lv_has ls 3 [(0, .ref (a 0)), (1, .int k), (2, .int v)] := hl
  subst hsz
  have hD := hD0.self (sz := s.heap.size)
  generalize hAe : va_A (wX cy a q q2 ca ta u g) s.heap.size = A at hD ⊢
  have hA : ∀ q : Nat, s.heap.size ≤ q → A q := fun q h => by rw [← hAe]; exact Or.inr h
  have hS : va_S A s.heap s.heap [] := va_S.rf
  have hP : va_P D vwCl (wX cy a q q2 ca ta u g) s.heap := hP
  refine lv_iload_n hx hb dX2_push_0 rfl (lv_at hl 1 rfl) ?_
  refine px_callv (vx_runS (As := [.int k]) (rest := []) ⟨hx, hb, hml, hown, hts⟩ (mX2_checkString l hst D cy k) (va_cwS 1 hts gX2_push_X2_checkString rfl rfl rfl (by decide +kernel) ⟨Nat.le_of_ble_eq_true rfl, Nat.le_of_ble_eq_true rfl⟩) ⟨fun a U g mk q => ⟨q.1, xC.warm (State.WarmedH.refl U) q.2⟩, fun U hU hW => ⟨rfl, (show xC U U.heap by rw [hU]; exact hX.warm hW)⟩⟩ rfl rfl hl.1 rfl (lv_room (Nat.le_of_ble_eq_true rfl)) dX2_push_1 ⟨Nat.le_of_ble_eq_true rfl, Nat.le_of_ble_eq_true rfl⟩) (fun E9 ce9 q9 H9 hE9 h19 h29 hce9 hcv9 hcl9 => px_out hex hlocks h19 h29 hce9 hcv9 hcl9 (by simp [exPush, xn, hE9.1, hE9.2]) (Nat.le_of_ble_eq_true rfl) (Nat.le_of_ble_eq_true rfl)) (fun hp1 => ?_)
  refine W.widen (k := 1) (n := 6) (Nat.le_of_ble_eq_true rfl) (Nat.le_of_ble_eq_true rfl) ?_
  refine lv_iload_n hx hb dX2_push_4 rfl (lv_at hl 2 rfl) ?_
  refine px_callv (vx_runS (As := [.int v]) (rest := []) ⟨hx, hb, hml, hown, hts⟩ (mX2_checkWedgeSteps l hst D cy v) (va_cwS 1 hts gX2_push_X2_checkWedgeSteps rfl rfl rfl (by decide +kernel) ⟨Nat.le_of_ble_eq_true rfl, Nat.le_of_ble_eq_true rfl⟩) ⟨fun a U g mk q => ⟨q.1, xC.warm (State.WarmedH.refl U) q.2⟩, fun U hU hW => ⟨rfl, (show xC U U.heap by rw [hU]; exact hX.warm hW)⟩⟩ rfl rfl hl.1 rfl (lv_room (Nat.le_of_ble_eq_true rfl)) dX2_push_5 ⟨Nat.le_of_ble_eq_true rfl, Nat.le_of_ble_eq_true rfl⟩) (fun E9 ce9 q9 H9 hE9 h19 h29 hce9 hcv9 hcl9 => px_out hex hlocks h19 h29 hce9 hcv9 hcl9 (by simp [exPush, xn, hp1, hE9.1, hE9.2]) (Nat.le_of_ble_eq_true rfl) (Nat.le_of_ble_eq_true rfl)) (fun hp5 => ?_)
  refine W.widen (k := 2) (n := 12) (Nat.le_of_ble_eq_true rfl) (Nat.le_of_ble_eq_true rfl) ?_
  refine lv_iload_n hx hb dX2_push_8 rfl (lv_at hl 2 rfl) ?_
  refine lv_if_ne (tgt := 22) hx hb dX2_push_9 (by decide) (fun c9 => ?_) (fun c9 => ?_)
  · obtain ⟨j, hj, rfl⟩ := isS_nat hp1
    have e9 : ix (nI j) = j := (ix_nI (show j < 2147483648 by omega))
    refine lv_aload_n hx hb dX2_push_22 rfl (lv_at hl 0 rfl) ?_
    refine va_get (D := D) (ci := 2) (v := .ref (q 0)) (C := RX2) (T := TX2) (N := 6) hx hb hts inX2_push_RX2 hown hK hP 0 rfl rfl 0 (by decide) (hts _ kX2_push_0) (fun _ h9 => h9) rfl dX2_push_23 ?_
    refine lv_iload_n hx hb dX2_push_26 rfl (lv_at hl 1 rfl) ?_
    refine lv_iload_n hx hb dX2_push_27 rfl (lv_at hl 2 rfl) ?_
    have hPc := hP.sub (ws' := wH cy q (uh u)) [3, 4, 5, 6, 7, 8, 9] rfl
    refine pc_calli (va_runV (As := [.int (nI j), .int v]) (rest := []) ⟨hx, hb, hml, hown, hts⟩ (mX1_takesPush l D cy q (uh u) j hj v) (cwV 2 hts gX2_push_X1_takesPush rfl rfl rfl (by decide +kernel) ⟨Nat.le_of_ble_eq_true rfl, Nat.le_of_ble_eq_true rfl⟩) ⟨fun a U g mk q => ⟨q.1, q.2.1, va_K.moved (u := U) (U := U.calling g mk a) (Vm.Alike.refl U.vm) q.2.2⟩, va_recv hK hPc (ci := 1) (q0 := 0) rfl rfl, fun U hU hW => ⟨rfl, by rw [hU]; exact hPc, va_K.moved hW.alike hK⟩⟩ rfl rfl hl.1 rfl (lv_room (Nat.le_of_ble_eq_true rfl)) dX2_push_28 ⟨Nat.le_of_ble_eq_true rfl, Nat.le_of_ble_eq_true rfl⟩) (fun r9 hr9 => ?_)
    subst hr9
    refine lv_if_ne (tgt := 44) hx hb dX2_push_31 (by decide) (fun c31 => ?_) (fun c31 => ?_)
    · refine lv_aload_n hx hb dX2_push_44 rfl (lv_at hl 0 rfl) ?_
      refine va_get (D := D) (ci := 2) (v := .ref (q 0)) (C := RX2) (T := TX2) (N := 6) hx hb hts inX2_push_RX2 hown hK hP 0 rfl rfl 0 (by decide) (hts _ kX2_push_0) (fun _ h9 => h9) rfl dX2_push_45 ?_
      refine va_get (D := D) (ci := 1) (v := .ref (q 2)) (C := RX1) (T := TX1) (N := 8) hx hb hts inX2_push_RX1 hown hK hP 3 rfl rfl 1 (by decide) (hts _ kX2_push_1) (fun _ h9 => h9) rfl dX2_push_48 ?_
      refine lv_iload_n hx hb dX2_push_51 rfl (lv_at hl 1 rfl) ?_
      refine lv_dup2_11 hx hb dX2_push_52 rfl rfl ?_
      refine pc_iald hx hb hK hP 5 0 rfl rfl (k := j) (show j < 12 by omega) (by decide) dX2_push_53 ?_
      refine lv_iload_n hx hb dX2_push_54 rfl (lv_at hl 2 rfl) ?_
      refine lv_iadd hx hb dX2_push_55 ?_
      refine pc_iast hx hb hK hP hD hS 5 0 rfl rfl (k := j) (show j < 12 by omega) (by decide) dX2_push_56 (fun H locs hP hD hS => ?_)
      have hP : va_P D vwCl [(a 0, .inr (2, [.ref (q 0), .ref (q2 0), .ref (a 1), .ref (a 2), .ref (a 3), .int (nI (un u))])), (a 1, .inl ((cy 0), 12, .inl (uw u))), (a 2, .inl ((cy 0), 12, .inl (ud u))), (q 0, .inr (1, [.ref (q 1), .ref (q 2), .ref (q 3), .ref (q 4), .ref (q 5), .ref (q 6), .int (zl (uh u)), .int (nI (zh (uh u)))])), (q 1, .inl ((cy 0), 12, .inl (zb (uh u)))), (q 2, .inl ((cy 0), 12, .inl (upd (zw (uh u)) j (((zw (uh u)) j) + v)))), (q 3, .inl ((cy 0), 12, .inl (zd (uh u)))), (q 4, .inl ((cy 0), 12, .inl (zs (uh u)))), (q 5, .inl ((cy 0), 12, .inl (zr (uh u)))), (q 6, .inl ((cy 1), 12, .inl (zo (uh u)))), (q2 0, .inr (1, [.ref (q2 1), .ref (q2 2), .ref (q2 3), .ref (q2 4), .ref (q2 5), .ref (q2 6), .int (zl g), .int (nI (zh g))])), (q2 1, .inl ((cy 0), 12, .inl (zb g))), (q2 2, .inl ((cy 0), 12, .inl (zw g))), (q2 3, .inl ((cy 0), 12, .inl (zd g))), (q2 4, .inl ((cy 0), 12, .inl (zs g))), (q2 5, .inl ((cy 0), 12, .inl (zr g))), (q2 6, .inl ((cy 1), 12, .inl (zo g))), (a 3, .inl ((cy 2), 6, .inr (.inr (.inr (.inr (fun i => some (ca i))))))), (ca 0, .inr (0, [.ref (ta 0), .int (nI (ul u 0)), .int (nI (uz u 0))])), (ca 1, .inr (0, [.ref (ta 1), .int (nI (ul u 1)), .int (nI (uz u 1))])), (ca 2, .inr (0, [.ref (ta 2), .int (nI (ul u 2)), .int (nI (uz u 2))])), (ca 3, .inr (0, [.ref (ta 3), .int (nI (ul u 3)), .int (nI (uz u 3))])), (ca 4, .inr (0, [.ref (ta 4), .int (nI (ul u 4)), .int (nI (uz u 4))])), (ca 5, .inr (0, [.ref (ta 5), .int (nI (ul u 5)), .int (nI (uz u 5))])), (ta 0, .inl ((cy 0), 4, .inl (ut u 0))), (ta 1, .inl ((cy 0), 4, .inl (ut u 1))), (ta 2, .inl ((cy 0), 4, .inl (ut u 2))), (ta 3, .inl ((cy 0), 4, .inl (ut u 3))), (ta 4, .inl ((cy 0), 4, .inl (ut u 4))), (ta 5, .inl ((cy 0), 4, .inl (ut u 5)))] H := hP
      have hD : va_D A [(a 0, .inr (2, [.ref (q 0), .ref (q2 0), .ref (a 1), .ref (a 2), .ref (a 3), .int (nI (un u))])), (a 1, .inl ((cy 0), 12, .inl (uw u))), (a 2, .inl ((cy 0), 12, .inl (ud u))), (q 0, .inr (1, [.ref (q 1), .ref (q 2), .ref (q 3), .ref (q 4), .ref (q 5), .ref (q 6), .int (zl (uh u)), .int (nI (zh (uh u)))])), (q 1, .inl ((cy 0), 12, .inl (zb (uh u)))), (q 2, .inl ((cy 0), 12, .inl (upd (zw (uh u)) j (((zw (uh u)) j) + v)))), (q 3, .inl ((cy 0), 12, .inl (zd (uh u)))), (q 4, .inl ((cy 0), 12, .inl (zs (uh u)))), (q 5, .inl ((cy 0), 12, .inl (zr (uh u)))), (q 6, .inl ((cy 1), 12, .inl (zo (uh u)))), (q2 0, .inr (1, [.ref (q2 1), .ref (q2 2), .ref (q2 3), .ref (q2 4), .ref (q2 5), .ref (q2 6), .int (zl g), .int (nI (zh g))])), (q2 1, .inl ((cy 0), 12, .inl (zb g))), (q2 2, .inl ((cy 0), 12, .inl (zw g))), (q2 3, .inl ((cy 0), 12, .inl (zd g))), (q2 4, .inl ((cy 0), 12, .inl (zs g))), (q2 5, .inl ((cy 0), 12, .inl (zr g))), (q2 6, .inl ((cy 1), 12, .inl (zo g))), (a 3, .inl ((cy 2), 6, .inr (.inr (.inr (.inr (fun i => some (ca i))))))), (ca 0, .inr (0, [.ref (ta 0), .int (nI (ul u 0)), .int (nI (uz u 0))])), (ca 1, .inr (0, [.ref (ta 1), .int (nI (ul u 1)), .int (nI (uz u 1))])), (ca 2, .inr (0, [.ref (ta 2), .int (nI (ul u 2)), .int (nI (uz u 2))])), (ca 3, .inr (0, [.ref (ta 3), .int (nI (ul u 3)), .int (nI (uz u 3))])), (ca 4, .inr (0, [.ref (ta 4), .int (nI (ul u 4)), .int (nI (uz u 4))])), (ca 5, .inr (0, [.ref (ta 5), .int (nI (ul u 5)), .int (nI (uz u 5))])), (ta 0, .inl ((cy 0), 4, .inl (ut u 0))), (ta 1, .inl ((cy 0), 4, .inl (ut u 1))), (ta 2, .inl ((cy 0), 4, .inl (ut u 2))), (ta 3, .inl ((cy 0), 4, .inl (ut u 3))), (ta 4, .inl ((cy 0), 4, .inl (ut u 4))), (ta 5, .inl ((cy 0), 4, .inl (ut u 5)))] := hD
      refine lv_aload_n hx hb dX2_push_57 rfl (lv_at hl 0 rfl) ?_
      refine va_get (D := D) (ci := 2) (v := .ref (q 0)) (C := RX2) (T := TX2) (N := 6) hx hb hts inX2_push_RX2 hown hK hP 0 rfl rfl 0 (by decide) (hts _ kX2_push_0) (fun _ h9 => h9) rfl dX2_push_58 ?_
      refine lv_iload_n hx hb dX2_push_61 rfl (lv_at hl 1 rfl) ?_
      have hPc := hP.sub (ws' := wH cy q (hPush (uh u) j v)) [3, 4, 5, 6, 7, 8, 9] rfl
      refine pc_calli (va_runV (As := [.int (nI j)]) (rest := []) ⟨hx, hb, hml, hown, hts⟩ (mX1_toneOf l D cy q (hPush (uh u) j v) j hj) (cwV 1 hts gX2_push_X1_toneOf rfl rfl rfl (by decide +kernel) ⟨Nat.le_of_ble_eq_true rfl, Nat.le_of_ble_eq_true rfl⟩) ⟨fun a U g mk q => ⟨q.1, q.2.1, va_K.moved (u := U) (U := U.calling g mk a) (Vm.Alike.refl U.vm) q.2.2⟩, va_recv hK hPc (ci := 1) (q0 := 0) rfl rfl, fun U hU hW => ⟨rfl, by rw [hU]; exact hPc, va_K.moved hW.alike hK⟩⟩ rfl rfl hl.1 rfl (lv_room (Nat.le_of_ble_eq_true rfl)) dX2_push_62 ⟨Nat.le_of_ble_eq_true rfl, Nat.le_of_ble_eq_true rfl⟩) (fun r9 hr9 => ?_)
      subst hr9
      have hP9 : va_P D vwCl (wX cy a q q2 ca ta (uH u (hPush (uh u) (ix (nI j)) v)) g) H := (by rw [e9]; exact hP)
      have hD9 : va_D A (wX cy a q q2 ca ta (uH u (hPush (uh u) (ix (nI j)) v)) g) := (by rw [e9]; exact hD)
      refine vx_ret ?_
      refine W.widen (k := 3) (n := 18) (Nat.le_of_ble_eq_true rfl) (Nat.le_of_ble_eq_true rfl) ?_
      exact W.iret (v := tone (hPush (uh u) j v) j) hx hb hr (fun t ht hW => ⟨⟨tone (hPush (uh u) j v) j, (), rfl, ⟨(by simp [exPush, hp1, hp5, c9, e9, bI_1.mp c31]), by rw [e9]⟩, by rw [ht]; exact hP9, hD9⟩, hS.F ht⟩) hS.2.2 dX2_push_65
    · exact px_throwS (ik := 55) (is := 57) (ic := 59) (cls := xT) (text := "the wedge would not be 0 to 20") hx hb hst hown xf_T (by decide) (hts _ kX2_push_2) (hts _ kX2_push_3) (fun w hw => hts w (xgX2_push_59 w hw)) xb_59 xo_59 hX (by decide) rfl rfl (by rw [hml]; exact hl.1) dX2_push_34 dX2_push_37 dX2_push_38 dX2_push_40 dX2_push_43 hex (Nat.le_of_ble_eq_true rfl) (Nat.le_of_ble_eq_true rfl) (Nat.le_of_ble_eq_true rfl) (Nat.le_of_ble_eq_true rfl) hlocks (by simp [exPush, xn, hp1, hp5, c9, e9, bI_0.mp c31]) (Nat.le_of_ble_eq_true rfl) (Nat.le_of_ble_eq_true rfl)
  · exact px_throwS (ik := 44) (is := 46) (ic := 48) (cls := xA) (text := "a push of 0 steps") hx hb hst hown xf_A (by decide) (hts _ kX2_push_4) (hts _ kX2_push_5) (fun w hw => hts w (xgX2_push_48 w hw)) xb_48 xo_48 hX (by decide) rfl rfl (by rw [hml]; exact hl.1) dX2_push_12 dX2_push_15 dX2_push_16 dX2_push_18 dX2_push_21 hex (Nat.le_of_ble_eq_true rfl) (Nat.le_of_ble_eq_true rfl) (Nat.le_of_ble_eq_true rfl) (Nat.le_of_ble_eq_true rfl) hlocks (by simp [exPush, xn, hp1, hp5, c9]) (Nat.le_of_ble_eq_true rfl) (Nat.le_of_ble_eq_true rfl)

theorem inX2_draw_RX2 : ∀ w ∈ u_ws RX2 TX2 6, w ∈ wsX2_draw := by decide +kernel
theorem xgX2_draw_48 : ∀ w ∈ (vx_atS RX2 48 xA xNm).filter goodWord, w ∈ wsX2_draw := by decide +kernel
theorem kX2_draw_0 : (.classLink RX2 44 xA : Cond) ∈ wsX2_draw := by decide +kernel
theorem kX2_draw_1 : (.initialized xA : Cond) ∈ wsX2_draw := by decide +kernel
theorem kX2_draw_2 : (.fieldLink RX2 10 "WedgeHarps" "now" "LWedgeHarps$Harp;" : Cond) ∈ wsX2_draw := by decide +kernel
set_option maxHeartbeats 4000000 in
set_option maxRecDepth 100000 in
theorem mX2_draw (l : Launch) (hst : l.stackTraces = false) (D : va_G) (cy : Nat → ClassId) (sz : Nat) (a q q2 ca ta : Nat → Nat) (u : US) (g : HS) (hu : uOk u) (k v : Int32) : vx_Met l yX2_draw wsX2_draw ({ frames := 7, cells := 2, slots := 12, locals := 102 } : Room) (va_Pc [.ref (a 0), .int k, .int v] (fun U => U.heap.size = sz ∧ va_P D vwCl (wX cy a q q2 ca ta u g) U.heap ∧ va_K D vwCl (TY cy) U ∧ va_D (fun _ => True) (wX cy a q q2 ca ta u g) ∧ xC U U.heap)) (va_Qi (fun (r8 : Int32) (_ : Unit) => (exDraw k v = 0) ∧ r8 = tone (hRenew (uh u) (ix k) v) (ix k)) (fun (_ : Unit) t => va_P D vwCl (wX cy a q q2 ca ta (uH u (hRenew (uh u) (ix k) v)) g) t.heap ∧ va_D (va_A (wX cy a q q2 ca ta u g) sz) (wX cy a q q2 ca ta (uH u (hRenew (uh u) (ix k) v)) g)) (va_A (wX cy a q q2 ca ta u g) sz)) (pX (fun E => E = xn (exDraw k v) ∧ exDraw k v ≠ 0)) 2 12 (va_A (wX cy a q q2 ca ta u g) sz) := by
  refine vx_ofW (cc := cX2_draw) (maxL := 3) (ret := (some .int)) (by decide) rfl ?_
  intro p e s m args below meth c s₁ B hml hex hv
  obtain ⟨rfl, hsz, hP, hK, hD0, hX⟩ := hv
  have hx := B.exec
  have hb := B.bytes
  have hr := B.returns
  have hts := atoms_spec (ws := wsX2_draw) B.pre
  have hown : s.vm.findClass RX2 = some m.cls := findClass_of_methodNamed B.named
  have hlocks := B.notSynchronized
  have hl := lv_entry ([.ref (a 0), .int k, .int v]) (n := 3) (Nat.le_of_ble_eq_true rfl)
  rw [lg_entry_eq]
  generalize (lg_sl ([.ref (a 0), .int k, .int v]) ++ List.replicate (3 - (lg_sl ([.ref (a 0), .int k, .int v])).length) Slot.unset).toArray = ls at hl ⊢
  have hl : lv_has ls 3 [(0, .ref (a 0)), (1, .int k), (2, .int v)] := hl
  subst hsz
  have hD := hD0.self (sz := s.heap.size)
  generalize hAe : va_A (wX cy a q q2 ca ta u g) s.heap.size = A at hD ⊢
  have hA : ∀ q : Nat, s.heap.size ≤ q → A q := fun q h => by rw [← hAe]; exact Or.inr h
  have hS : va_S A s.heap s.heap [] := va_S.rf
  have hP : va_P D vwCl (wX cy a q q2 ca ta u g) s.heap := hP
  refine lv_iload_n hx hb dX2_draw_0 rfl (lv_at hl 1 rfl) ?_
  refine px_callv (vx_runS (As := [.int k]) (rest := []) ⟨hx, hb, hml, hown, hts⟩ (mX2_checkString l hst D cy k) (va_cwS 1 hts gX2_draw_X2_checkString rfl rfl rfl (by decide +kernel) ⟨Nat.le_of_ble_eq_true rfl, Nat.le_of_ble_eq_true rfl⟩) ⟨fun a U g mk q => ⟨q.1, xC.warm (State.WarmedH.refl U) q.2⟩, fun U hU hW => ⟨rfl, (show xC U U.heap by rw [hU]; exact hX.warm hW)⟩⟩ rfl rfl hl.1 rfl (lv_room (Nat.le_of_ble_eq_true rfl)) dX2_draw_1 ⟨Nat.le_of_ble_eq_true rfl, Nat.le_of_ble_eq_true rfl⟩) (fun E9 ce9 q9 H9 hE9 h19 h29 hce9 hcv9 hcl9 => px_out hex hlocks h19 h29 hce9 hcv9 hcl9 (by simp [exDraw, xn, hE9.1, hE9.2]) (Nat.le_of_ble_eq_true rfl) (Nat.le_of_ble_eq_true rfl)) (fun hp1 => ?_)
  refine W.widen (k := 1) (n := 6) (Nat.le_of_ble_eq_true rfl) (Nat.le_of_ble_eq_true rfl) ?_
  refine lv_iload_n hx hb dX2_draw_4 rfl (lv_at hl 2 rfl) ?_
  refine lv_bipush (v := 100) hx hb dX2_draw_5 (by decide) ?_
  refine lv_icmp_lt (tgt := 17) hx hb dX2_draw_7 (by decide) (fun c7 => ?_) (fun c7 => ?_)
  · exact px_throwS (ik := 44) (is := 67) (ic := 48) (cls := xA) (text := "the base is not 100 to 900") hx hb hst hown xf_A (by decide) (hts _ kX2_draw_0) (hts _ kX2_draw_1) (fun w hw => hts w (xgX2_draw_48 w hw)) xb_48 xo_48 hX (by decide) rfl rfl (by rw [hml]; exact hl.1) dX2_draw_17 dX2_draw_20 dX2_draw_21 dX2_draw_23 dX2_draw_26 hex (Nat.le_of_ble_eq_true rfl) (Nat.le_of_ble_eq_true rfl) (Nat.le_of_ble_eq_true rfl) (Nat.le_of_ble_eq_true rfl) hlocks (by simp [exDraw, xn, hp1, isB, c7]) (Nat.le_of_ble_eq_true rfl) (Nat.le_of_ble_eq_true rfl)
  · refine lv_iload_n hx hb dX2_draw_10 rfl (lv_at hl 2 rfl) ?_
    refine lv_sipush (v := 900) hx hb dX2_draw_11 (by decide) ?_
    refine lv_icmp_le (tgt := 27) hx hb dX2_draw_14 (by decide) (fun c14 => ?_) (fun c14 => ?_)
    · obtain ⟨j, hj, rfl⟩ := isS_nat hp1
      have e9 : ix (nI j) = j := (ix_nI (show j < 2147483648 by omega))
      refine lv_aload_n hx hb dX2_draw_27 rfl (lv_at hl 0 rfl) ?_
      refine va_get (D := D) (ci := 2) (v := .ref (q 0)) (C := RX2) (T := TX2) (N := 6) hx hb hts inX2_draw_RX2 hown hK hP 0 rfl rfl 0 (by decide) (hts _ kX2_draw_2) (fun _ h9 => h9) rfl dX2_draw_28 ?_
      refine lv_iload_n hx hb dX2_draw_31 rfl (lv_at hl 1 rfl) ?_
      refine lv_iload_n hx hb dX2_draw_32 rfl (lv_at hl 2 rfl) ?_
      have hPc := hP.sub (ws' := wH cy q (uh u)) [3, 4, 5, 6, 7, 8, 9] rfl
      have hDc := hD.sub (ws' := wH cy q (uh u)) [3, 4, 5, 6, 7, 8, 9] (by decide) rfl
      have hFc := va_free (wc := wH cy q (uh u)) hD hS hA [3, 4, 5, 6, 7, 8, 9] rfl
      refine va_callv (va_runV (As := [.int (nI j), .int v]) (rest := []) ⟨hx, hb, hml, hown, hts⟩ (mX1_renew l D cy s.heap.size q (uh u) j hj v) (cwV 2 hts gX2_draw_X1_renew rfl rfl rfl (by decide +kernel) ⟨Nat.le_of_ble_eq_true rfl, Nat.le_of_ble_eq_true rfl⟩) ⟨fun a U g mk q => ⟨q.1, q.2.1, q.2.2.1, va_K.moved (u := U) (U := U.calling g mk a) (Vm.Alike.refl U.vm) q.2.2.2.1, q.2.2.2.2⟩, va_recv hK hPc (ci := 1) (q0 := 0) rfl rfl, fun U hU hW => ⟨rfl, by rw [hU], by rw [hU]; exact hPc, va_K.moved hW.alike hK, hDc.weaken (fun _ _ _ _ => trivial)⟩⟩ rfl rfl hl.1 rfl (lv_room (Nat.le_of_ble_eq_true rfl)) dX2_draw_33 ⟨Nat.le_of_ble_eq_true rfl, Nat.le_of_ble_eq_true rfl⟩) hS (fun q _ h => hFc q h) hFc (fun u9 t9 H1 locs ht9 hvm9 hw9 hB9 hz9 hk9 hS => ?_)
      obtain ⟨hP1, hD1⟩ := hB9
      rw [ht9] at hP1
      obtain ⟨hP, hD⟩ := va_join (wr := [(a 0, .inr (2, [.ref (q 0), .ref (q2 0), .ref (a 1), .ref (a 2), .ref (a 3), .int (nI (un u))])), (a 1, .inl ((cy 0), 12, .inl (uw u))), (a 2, .inl ((cy 0), 12, .inl (ud u))), (q2 0, .inr (1, [.ref (q2 1), .ref (q2 2), .ref (q2 3), .ref (q2 4), .ref (q2 5), .ref (q2 6), .int (zl g), .int (nI (zh g))])), (q2 1, .inl ((cy 0), 12, .inl (zb g))), (q2 2, .inl ((cy 0), 12, .inl (zw g))), (q2 3, .inl ((cy 0), 12, .inl (zd g))), (q2 4, .inl ((cy 0), 12, .inl (zs g))), (q2 5, .inl ((cy 0), 12, .inl (zr g))), (q2 6, .inl ((cy 1), 12, .inl (zo g))), (a 3, .inl ((cy 2), 6, .inr (.inr (.inr (.inr (fun i => some (ca i))))))), (ca 0, .inr (0, [.ref (ta 0), .int (nI (ul u 0)), .int (nI (uz u 0))])), (ca 1, .inr (0, [.ref (ta 1), .int (nI (ul u 1)), .int (nI (uz u 1))])), (ca 2, .inr (0, [.ref (ta 2), .int (nI (ul u 2)), .int (nI (uz u 2))])), (ca 3, .inr (0, [.ref (ta 3), .int (nI (ul u 3)), .int (nI (uz u 3))])), (ca 4, .inr (0, [.ref (ta 4), .int (nI (ul u 4)), .int (nI (uz u 4))])), (ca 5, .inr (0, [.ref (ta 5), .int (nI (ul u 5)), .int (nI (uz u 5))])), (ta 0, .inl ((cy 0), 4, .inl (ut u 0))), (ta 1, .inl ((cy 0), 4, .inl (ut u 1))), (ta 2, .inl ((cy 0), 4, .inl (ut u 2))), (ta 3, .inl ((cy 0), 4, .inl (ut u 3))), (ta 4, .inl ((cy 0), 4, .inl (ut u 4))), (ta 5, .inl ((cy 0), 4, .inl (ut u 5)))]) (w1 := wH cy q (hRenew (uh u) j v)) hP hD [3, 4, 5, 6, 7, 8, 9] [0, 1, 2, 10, 11, 12, 13, 14, 15, 16, 17, 18, 19, 20, 21, 22, 23, 24, 25, 26, 27, 28, 29] rfl rfl (by decide) (by decide) hk9 hFc hP1 hD1
      generalize H1 = H at hP hS ⊢
      have hP : va_P D vwCl (wX cy a q q2 ca ta (uH u (hRenew (uh u) j v)) g) H := hP.sub [0, 1, 2, 23, 24, 25, 26, 27, 28, 29, 3, 4, 5, 6, 7, 8, 9, 10, 11, 12, 13, 14, 15, 16, 17, 18, 19, 20, 21, 22] rfl
      have hD : va_D A (wX cy a q q2 ca ta (uH u (hRenew (uh u) j v)) g) := hD.sub [0, 1, 2, 23, 24, 25, 26, 27, 28, 29, 3, 4, 5, 6, 7, 8, 9, 10, 11, 12, 13, 14, 15, 16, 17, 18, 19, 20, 21, 22] (by decide) rfl
      clear hP1 hD1 hk9 hz9 ht9 hvm9 hPc hDc hFc
      refine lv_aload_n hx hb dX2_draw_36 rfl (lv_at hl 0 rfl) ?_
      refine va_get (D := D) (ci := 2) (v := .ref (q 0)) (C := RX2) (T := TX2) (N := 6) hx hb hts inX2_draw_RX2 hown hK hP 0 rfl rfl 0 (by decide) (hts _ kX2_draw_2) (fun _ h9 => h9) rfl dX2_draw_37 ?_
      refine lv_iload_n hx hb dX2_draw_40 rfl (lv_at hl 1 rfl) ?_
      have hPc := hP.sub (ws' := wH cy q (hRenew (uh u) j v)) [3, 4, 5, 6, 7, 8, 9] rfl
      refine pc_calli (va_runV (As := [.int (nI j)]) (rest := []) ⟨hx, hb, hml, hown, hts⟩ (mX1_toneOf l D cy q (hRenew (uh u) j v) j hj) (cwV 1 hts gX2_draw_X1_toneOf rfl rfl rfl (by decide +kernel) ⟨Nat.le_of_ble_eq_true rfl, Nat.le_of_ble_eq_true rfl⟩) ⟨fun a U g mk q => ⟨q.1, q.2.1, va_K.moved (u := U) (U := U.calling g mk a) (Vm.Alike.refl U.vm) q.2.2⟩, va_recv hK hPc (ci := 1) (q0 := 0) rfl rfl, fun U hU hW => ⟨rfl, by rw [hU]; exact hPc, va_K.moved hW.alike hK⟩⟩ rfl rfl hl.1 rfl (lv_room (Nat.le_of_ble_eq_true rfl)) dX2_draw_41 ⟨Nat.le_of_ble_eq_true rfl, Nat.le_of_ble_eq_true rfl⟩) (fun r9 hr9 => ?_)
      subst hr9
      have hP9 : va_P D vwCl (wX cy a q q2 ca ta (uH u (hRenew (uh u) (ix (nI j)) v)) g) H := (by rw [e9]; exact hP)
      have hD9 : va_D A (wX cy a q q2 ca ta (uH u (hRenew (uh u) (ix (nI j)) v)) g) := (by rw [e9]; exact hD)
      refine vx_ret ?_
      refine W.widen (k := 2) (n := 12) (Nat.le_of_ble_eq_true rfl) (Nat.le_of_ble_eq_true rfl) ?_
      exact W.iret (v := tone (hRenew (uh u) j v) j) hx hb hr (fun t ht hW => ⟨⟨tone (hRenew (uh u) j v) j, (), rfl, ⟨(by simp [exDraw, hp1, isB, c7, c14]), by rw [e9]⟩, by rw [ht]; exact hP9, hD9⟩, hS.F ht⟩) hS.2.2 dX2_draw_44
    · exact px_throwS (ik := 44) (is := 67) (ic := 48) (cls := xA) (text := "the base is not 100 to 900") hx hb hst hown xf_A (by decide) (hts _ kX2_draw_0) (hts _ kX2_draw_1) (fun w hw => hts w (xgX2_draw_48 w hw)) xb_48 xo_48 hX (by decide) rfl rfl (by rw [hml]; exact hl.1) dX2_draw_17 dX2_draw_20 dX2_draw_21 dX2_draw_23 dX2_draw_26 hex (Nat.le_of_ble_eq_true rfl) (Nat.le_of_ble_eq_true rfl) (Nat.le_of_ble_eq_true rfl) (Nat.le_of_ble_eq_true rfl) hlocks (by simp [exDraw, xn, hp1, isB, c7, c14]) (Nat.le_of_ble_eq_true rfl) (Nat.le_of_ble_eq_true rfl)

theorem inX2_setWeather_RX2 : ∀ w ∈ u_ws RX2 TX2 6, w ∈ wsX2_setWeather := by decide +kernel
theorem xgX2_setWeather_48 : ∀ w ∈ (vx_atS RX2 48 xA xNm).filter goodWord, w ∈ wsX2_setWeather := by decide +kernel
theorem xgX2_setWeather_77 : ∀ w ∈ (vx_atS RX2 77 xI xNm).filter goodWord, w ∈ wsX2_setWeather := by decide +kernel
theorem kX2_setWeather_0 : (.classLink RX2 73 xI : Cond) ∈ wsX2_setWeather := by decide +kernel
theorem kX2_setWeather_1 : (.initialized xI : Cond) ∈ wsX2_setWeather := by decide +kernel
theorem kX2_setWeather_2 : (.classLink RX2 44 xA : Cond) ∈ wsX2_setWeather := by decide +kernel
theorem kX2_setWeather_3 : (.initialized xA : Cond) ∈ wsX2_setWeather := by decide +kernel
theorem kX2_setWeather_4 : (.fieldLink RX2 19 "WedgeHarps" "windTable" "[I" : Cond) ∈ wsX2_setWeather := by decide +kernel
theorem kX2_setWeather_5 : (.fieldLink RX2 23 "WedgeHarps" "dampTable" "[I" : Cond) ∈ wsX2_setWeather := by decide +kernel
set_option maxHeartbeats 4000000 in
set_option maxRecDepth 100000 in
theorem mX2_setWeather (l : Launch) (hst : l.stackTraces = false) (D : va_G) (cy : Nat → ClassId) (sz : Nat) (a q q2 ca ta : Nat → Nat) (u : US) (g : HS) (hu : uOk u) (k v w : Int32) : vx_Met l yX2_setWeather wsX2_setWeather ({ frames := 6, cells := 1, slots := 6, locals := 82 } : Room) (va_Pc [.ref (a 0), .int k, .int v, .int w] (fun U => U.heap.size = sz ∧ va_P D vwCl (wX cy a q q2 ca ta u g) U.heap ∧ va_K D vwCl (TY cy) U ∧ va_D (fun _ => True) (wX cy a q q2 ca ta u g) ∧ xC U U.heap)) (va_Qi (fun (r8 : Int32) (_ : Unit) => (exWea k v w = 0) ∧ r8 = wea u (ix k)) (fun (_ : Unit) t => va_P D vwCl (wX cy a q q2 ca ta (uWea u (ix k) v w) g) t.heap ∧ va_D (va_A (wX cy a q q2 ca ta u g) sz) (wX cy a q q2 ca ta (uWea u (ix k) v w) g)) (va_A (wX cy a q q2 ca ta u g) sz)) (pX (fun E => E = xn (exWea k v w) ∧ exWea k v w ≠ 0)) 1 6 (va_A (wX cy a q q2 ca ta u g) sz) := by
  refine vx_ofW (cc := cX2_setWeather) (maxL := 5) (ret := (some .int)) (by decide) rfl ?_
  intro p e s m args below meth c s₁ B hml hex hv
  obtain ⟨rfl, hsz, hP, hK, hD0, hX⟩ := hv
  have hx := B.exec
  have hb := B.bytes
  have hr := B.returns
  have hts := atoms_spec (ws := wsX2_setWeather) B.pre
  have hown : s.vm.findClass RX2 = some m.cls := findClass_of_methodNamed B.named
  have hlocks := B.notSynchronized
  have hl := lv_entry ([.ref (a 0), .int k, .int v, .int w]) (n := 5) (Nat.le_of_ble_eq_true rfl)
  rw [lg_entry_eq]
  generalize (lg_sl ([.ref (a 0), .int k, .int v, .int w]) ++ List.replicate (5 - (lg_sl ([.ref (a 0), .int k, .int v, .int w])).length) Slot.unset).toArray = ls at hl ⊢
  have hl : lv_has ls 5 [(0, .ref (a 0)), (1, .int k), (2, .int v), (3, .int w)] := hl
  subst hsz
  have hD := hD0.self (sz := s.heap.size)
  generalize hAe : va_A (wX cy a q q2 ca ta u g) s.heap.size = A at hD ⊢
  have hA : ∀ q : Nat, s.heap.size ≤ q → A q := fun q h => by rw [← hAe]; exact Or.inr h
  have hS : va_S A s.heap s.heap [] := va_S.rf
  have hP : va_P D vwCl (wX cy a q q2 ca ta u g) s.heap := hP
  refine lv_iload_n hx hb dX2_setWeather_0 rfl (lv_at hl 1 rfl) ?_
  refine lv_if_lt (tgt := 10) hx hb dX2_setWeather_1 (by decide) (fun c1 => ?_) (fun c1 => ?_)
  · exact px_throwS (ik := 73) (is := 75) (ic := 77) (cls := xI) (text := "the hour is not 0 to 11") hx hb hst hown xf_I (by decide) (hts _ kX2_setWeather_0) (hts _ kX2_setWeather_1) (fun w hw => hts w (xgX2_setWeather_77 w hw)) xb_77 xo_77 hX (by decide) rfl rfl (by rw [hml]; exact hl.1) dX2_setWeather_10 dX2_setWeather_13 dX2_setWeather_14 dX2_setWeather_16 dX2_setWeather_19 hex (Nat.le_of_ble_eq_true rfl) (Nat.le_of_ble_eq_true rfl) (Nat.le_of_ble_eq_true rfl) (Nat.le_of_ble_eq_true rfl) hlocks (by simp [exWea, xn, isS, c1]) (Nat.le_of_ble_eq_true rfl) (Nat.le_of_ble_eq_true rfl)
  · refine lv_iload_n hx hb dX2_setWeather_4 rfl (lv_at hl 1 rfl) ?_
    refine lv_bipush (v := 12) hx hb dX2_setWeather_5 (by decide) ?_
    refine lv_icmp_lt (tgt := 20) hx hb dX2_setWeather_7 (by decide) (fun c7 => ?_) (fun c7 => ?_)
    · refine lv_iload_n hx hb dX2_setWeather_20 rfl (lv_at hl 2 rfl) ?_
      refine lv_if_lt (tgt := 30) hx hb dX2_setWeather_21 (by decide) (fun c21 => ?_) (fun c21 => ?_)
      · exact px_throwS (ik := 44) (is := 78) (ic := 48) (cls := xA) (text := "the wind is not 0 to 20") hx hb hst hown xf_A (by decide) (hts _ kX2_setWeather_2) (hts _ kX2_setWeather_3) (fun w hw => hts w (xgX2_setWeather_48 w hw)) xb_48 xo_48 hX (by decide) rfl rfl (by rw [hml]; exact hl.1) dX2_setWeather_30 dX2_setWeather_33 dX2_setWeather_34 dX2_setWeather_36 dX2_setWeather_39 hex (Nat.le_of_ble_eq_true rfl) (Nat.le_of_ble_eq_true rfl) (Nat.le_of_ble_eq_true rfl) (Nat.le_of_ble_eq_true rfl) hlocks (by simp [exWea, xn, isS, isWi, c1, c7, c21]) (Nat.le_of_ble_eq_true rfl) (Nat.le_of_ble_eq_true rfl)
      · refine lv_iload_n hx hb dX2_setWeather_24 rfl (lv_at hl 2 rfl) ?_
        refine lv_bipush (v := 20) hx hb dX2_setWeather_25 (by decide) ?_
        refine lv_icmp_le (tgt := 40) hx hb dX2_setWeather_27 (by decide) (fun c27 => ?_) (fun c27 => ?_)
        · refine lv_iload_n hx hb dX2_setWeather_40 rfl (lv_at hl 3 rfl) ?_
          refine lv_if_lt (tgt := 50) hx hb dX2_setWeather_41 (by decide) (fun c41 => ?_) (fun c41 => ?_)
          · exact px_throwS (ik := 44) (is := 80) (ic := 48) (cls := xA) (text := "the damp is not 0 to 9") hx hb hst hown xf_A (by decide) (hts _ kX2_setWeather_2) (hts _ kX2_setWeather_3) (fun w hw => hts w (xgX2_setWeather_48 w hw)) xb_48 xo_48 hX (by decide) rfl rfl (by rw [hml]; exact hl.1) dX2_setWeather_50 dX2_setWeather_53 dX2_setWeather_54 dX2_setWeather_56 dX2_setWeather_59 hex (Nat.le_of_ble_eq_true rfl) (Nat.le_of_ble_eq_true rfl) (Nat.le_of_ble_eq_true rfl) (Nat.le_of_ble_eq_true rfl) hlocks (by simp [exWea, xn, isS, isWi, isDa, c1, c7, c21, c27, c41]) (Nat.le_of_ble_eq_true rfl) (Nat.le_of_ble_eq_true rfl)
          · refine lv_iload_n hx hb dX2_setWeather_44 rfl (lv_at hl 3 rfl) ?_
            refine lv_bipush (v := 9) hx hb dX2_setWeather_45 (by decide) ?_
            refine lv_icmp_le (tgt := 60) hx hb dX2_setWeather_47 (by decide) (fun c47 => ?_) (fun c47 => ?_)
            · have hp1 : isS k = true := by simp [isS, c1, c7]
              obtain ⟨j, hj, rfl⟩ := isS_nat hp1
              have e9 : ix (nI j) = j := (ix_nI (show j < 2147483648 by omega))
              refine lv_aload_n hx hb dX2_setWeather_60 rfl (lv_at hl 0 rfl) ?_
              refine lv_iload_n hx hb dX2_setWeather_61 rfl (lv_at hl 1 rfl) ?_
              refine pc_calli (va_runV (As := [.int (nI j)]) (rest := []) ⟨hx, hb, hml, hown, hts⟩ (mX2_weatherAt l D cy a q q2 ca ta u g hu j hj) (cwV 1 hts gX2_setWeather_X2_weatherAt rfl rfl rfl (by decide +kernel) ⟨Nat.le_of_ble_eq_true rfl, Nat.le_of_ble_eq_true rfl⟩) ⟨fun a U g mk q => ⟨q.1, q.2.1, va_K.moved (u := U) (U := U.calling g mk a) (Vm.Alike.refl U.vm) q.2.2⟩, va_recv hK hP (ci := 2) (q0 := 0) rfl rfl, fun U hU hW => ⟨rfl, by rw [hU]; exact hP, va_K.moved hW.alike hK⟩⟩ rfl rfl hl.1 rfl (lv_room (Nat.le_of_ble_eq_true rfl)) dX2_setWeather_62 ⟨Nat.le_of_ble_eq_true rfl, Nat.le_of_ble_eq_true rfl⟩) (fun r9 hr9 => ?_)
              subst hr9
              refine lv_istore (lv' := [(4, .int (wea u j)), (0, .ref (a 0)), (1, .int (nI j)), (2, .int v), (3, .int w)]) hx hb dX2_setWeather_65 hl (by decide) rfl (fun ls hl => ?_)
              refine lv_aload_n hx hb dX2_setWeather_67 rfl (lv_at hl 1 rfl) ?_
              refine va_get (D := D) (ci := 2) (v := .ref (a 1)) (C := RX2) (T := TX2) (N := 6) hx hb hts inX2_setWeather_RX2 hown hK hP 0 rfl rfl 2 (by decide) (hts _ kX2_setWeather_4) (fun _ h9 => h9) rfl dX2_setWeather_68 ?_
              refine lv_iload_n hx hb dX2_setWeather_71 rfl (lv_at hl 2 rfl) ?_
              refine lv_iload_n hx hb dX2_setWeather_72 rfl (lv_at hl 3 rfl) ?_
              refine pc_iast hx hb hK hP hD hS 1 0 rfl rfl (k := j) (show j < 12 by omega) (by decide) dX2_setWeather_73 (fun H locs hP hD hS => ?_)
              have hP : va_P D vwCl [(a 0, .inr (2, [.ref (q 0), .ref (q2 0), .ref (a 1), .ref (a 2), .ref (a 3), .int (nI (un u))])), (a 1, .inl ((cy 0), 12, .inl (upd (uw u) j v))), (a 2, .inl ((cy 0), 12, .inl (ud u))), (q 0, .inr (1, [.ref (q 1), .ref (q 2), .ref (q 3), .ref (q 4), .ref (q 5), .ref (q 6), .int (zl (uh u)), .int (nI (zh (uh u)))])), (q 1, .inl ((cy 0), 12, .inl (zb (uh u)))), (q 2, .inl ((cy 0), 12, .inl (zw (uh u)))), (q 3, .inl ((cy 0), 12, .inl (zd (uh u)))), (q 4, .inl ((cy 0), 12, .inl (zs (uh u)))), (q 5, .inl ((cy 0), 12, .inl (zr (uh u)))), (q 6, .inl ((cy 1), 12, .inl (zo (uh u)))), (q2 0, .inr (1, [.ref (q2 1), .ref (q2 2), .ref (q2 3), .ref (q2 4), .ref (q2 5), .ref (q2 6), .int (zl g), .int (nI (zh g))])), (q2 1, .inl ((cy 0), 12, .inl (zb g))), (q2 2, .inl ((cy 0), 12, .inl (zw g))), (q2 3, .inl ((cy 0), 12, .inl (zd g))), (q2 4, .inl ((cy 0), 12, .inl (zs g))), (q2 5, .inl ((cy 0), 12, .inl (zr g))), (q2 6, .inl ((cy 1), 12, .inl (zo g))), (a 3, .inl ((cy 2), 6, .inr (.inr (.inr (.inr (fun i => some (ca i))))))), (ca 0, .inr (0, [.ref (ta 0), .int (nI (ul u 0)), .int (nI (uz u 0))])), (ca 1, .inr (0, [.ref (ta 1), .int (nI (ul u 1)), .int (nI (uz u 1))])), (ca 2, .inr (0, [.ref (ta 2), .int (nI (ul u 2)), .int (nI (uz u 2))])), (ca 3, .inr (0, [.ref (ta 3), .int (nI (ul u 3)), .int (nI (uz u 3))])), (ca 4, .inr (0, [.ref (ta 4), .int (nI (ul u 4)), .int (nI (uz u 4))])), (ca 5, .inr (0, [.ref (ta 5), .int (nI (ul u 5)), .int (nI (uz u 5))])), (ta 0, .inl ((cy 0), 4, .inl (ut u 0))), (ta 1, .inl ((cy 0), 4, .inl (ut u 1))), (ta 2, .inl ((cy 0), 4, .inl (ut u 2))), (ta 3, .inl ((cy 0), 4, .inl (ut u 3))), (ta 4, .inl ((cy 0), 4, .inl (ut u 4))), (ta 5, .inl ((cy 0), 4, .inl (ut u 5)))] H := hP
              have hD : va_D A [(a 0, .inr (2, [.ref (q 0), .ref (q2 0), .ref (a 1), .ref (a 2), .ref (a 3), .int (nI (un u))])), (a 1, .inl ((cy 0), 12, .inl (upd (uw u) j v))), (a 2, .inl ((cy 0), 12, .inl (ud u))), (q 0, .inr (1, [.ref (q 1), .ref (q 2), .ref (q 3), .ref (q 4), .ref (q 5), .ref (q 6), .int (zl (uh u)), .int (nI (zh (uh u)))])), (q 1, .inl ((cy 0), 12, .inl (zb (uh u)))), (q 2, .inl ((cy 0), 12, .inl (zw (uh u)))), (q 3, .inl ((cy 0), 12, .inl (zd (uh u)))), (q 4, .inl ((cy 0), 12, .inl (zs (uh u)))), (q 5, .inl ((cy 0), 12, .inl (zr (uh u)))), (q 6, .inl ((cy 1), 12, .inl (zo (uh u)))), (q2 0, .inr (1, [.ref (q2 1), .ref (q2 2), .ref (q2 3), .ref (q2 4), .ref (q2 5), .ref (q2 6), .int (zl g), .int (nI (zh g))])), (q2 1, .inl ((cy 0), 12, .inl (zb g))), (q2 2, .inl ((cy 0), 12, .inl (zw g))), (q2 3, .inl ((cy 0), 12, .inl (zd g))), (q2 4, .inl ((cy 0), 12, .inl (zs g))), (q2 5, .inl ((cy 0), 12, .inl (zr g))), (q2 6, .inl ((cy 1), 12, .inl (zo g))), (a 3, .inl ((cy 2), 6, .inr (.inr (.inr (.inr (fun i => some (ca i))))))), (ca 0, .inr (0, [.ref (ta 0), .int (nI (ul u 0)), .int (nI (uz u 0))])), (ca 1, .inr (0, [.ref (ta 1), .int (nI (ul u 1)), .int (nI (uz u 1))])), (ca 2, .inr (0, [.ref (ta 2), .int (nI (ul u 2)), .int (nI (uz u 2))])), (ca 3, .inr (0, [.ref (ta 3), .int (nI (ul u 3)), .int (nI (uz u 3))])), (ca 4, .inr (0, [.ref (ta 4), .int (nI (ul u 4)), .int (nI (uz u 4))])), (ca 5, .inr (0, [.ref (ta 5), .int (nI (ul u 5)), .int (nI (uz u 5))])), (ta 0, .inl ((cy 0), 4, .inl (ut u 0))), (ta 1, .inl ((cy 0), 4, .inl (ut u 1))), (ta 2, .inl ((cy 0), 4, .inl (ut u 2))), (ta 3, .inl ((cy 0), 4, .inl (ut u 3))), (ta 4, .inl ((cy 0), 4, .inl (ut u 4))), (ta 5, .inl ((cy 0), 4, .inl (ut u 5)))] := hD
              refine lv_aload_n hx hb dX2_setWeather_74 rfl (lv_at hl 1 rfl) ?_
              refine va_get (D := D) (ci := 2) (v := .ref (a 2)) (C := RX2) (T := TX2) (N := 6) hx hb hts inX2_setWeather_RX2 hown hK hP 0 rfl rfl 3 (by decide) (hts _ kX2_setWeather_5) (fun _ h9 => h9) rfl dX2_setWeather_75 ?_
              refine lv_iload_n hx hb dX2_setWeather_78 rfl (lv_at hl 2 rfl) ?_
              refine lv_iload_n hx hb dX2_setWeather_79 rfl (lv_at hl 4 rfl) ?_
              refine pc_iast hx hb hK hP hD hS 2 0 rfl rfl (k := j) (show j < 12 by omega) (by decide) dX2_setWeather_80 (fun H locs hP hD hS => ?_)
              have hP : va_P D vwCl [(a 0, .inr (2, [.ref (q 0), .ref (q2 0), .ref (a 1), .ref (a 2), .ref (a 3), .int (nI (un u))])), (a 1, .inl ((cy 0), 12, .inl (upd (uw u) j v))), (a 2, .inl ((cy 0), 12, .inl (upd (ud u) j w))), (q 0, .inr (1, [.ref (q 1), .ref (q 2), .ref (q 3), .ref (q 4), .ref (q 5), .ref (q 6), .int (zl (uh u)), .int (nI (zh (uh u)))])), (q 1, .inl ((cy 0), 12, .inl (zb (uh u)))), (q 2, .inl ((cy 0), 12, .inl (zw (uh u)))), (q 3, .inl ((cy 0), 12, .inl (zd (uh u)))), (q 4, .inl ((cy 0), 12, .inl (zs (uh u)))), (q 5, .inl ((cy 0), 12, .inl (zr (uh u)))), (q 6, .inl ((cy 1), 12, .inl (zo (uh u)))), (q2 0, .inr (1, [.ref (q2 1), .ref (q2 2), .ref (q2 3), .ref (q2 4), .ref (q2 5), .ref (q2 6), .int (zl g), .int (nI (zh g))])), (q2 1, .inl ((cy 0), 12, .inl (zb g))), (q2 2, .inl ((cy 0), 12, .inl (zw g))), (q2 3, .inl ((cy 0), 12, .inl (zd g))), (q2 4, .inl ((cy 0), 12, .inl (zs g))), (q2 5, .inl ((cy 0), 12, .inl (zr g))), (q2 6, .inl ((cy 1), 12, .inl (zo g))), (a 3, .inl ((cy 2), 6, .inr (.inr (.inr (.inr (fun i => some (ca i))))))), (ca 0, .inr (0, [.ref (ta 0), .int (nI (ul u 0)), .int (nI (uz u 0))])), (ca 1, .inr (0, [.ref (ta 1), .int (nI (ul u 1)), .int (nI (uz u 1))])), (ca 2, .inr (0, [.ref (ta 2), .int (nI (ul u 2)), .int (nI (uz u 2))])), (ca 3, .inr (0, [.ref (ta 3), .int (nI (ul u 3)), .int (nI (uz u 3))])), (ca 4, .inr (0, [.ref (ta 4), .int (nI (ul u 4)), .int (nI (uz u 4))])), (ca 5, .inr (0, [.ref (ta 5), .int (nI (ul u 5)), .int (nI (uz u 5))])), (ta 0, .inl ((cy 0), 4, .inl (ut u 0))), (ta 1, .inl ((cy 0), 4, .inl (ut u 1))), (ta 2, .inl ((cy 0), 4, .inl (ut u 2))), (ta 3, .inl ((cy 0), 4, .inl (ut u 3))), (ta 4, .inl ((cy 0), 4, .inl (ut u 4))), (ta 5, .inl ((cy 0), 4, .inl (ut u 5)))] H := hP
              have hD : va_D A [(a 0, .inr (2, [.ref (q 0), .ref (q2 0), .ref (a 1), .ref (a 2), .ref (a 3), .int (nI (un u))])), (a 1, .inl ((cy 0), 12, .inl (upd (uw u) j v))), (a 2, .inl ((cy 0), 12, .inl (upd (ud u) j w))), (q 0, .inr (1, [.ref (q 1), .ref (q 2), .ref (q 3), .ref (q 4), .ref (q 5), .ref (q 6), .int (zl (uh u)), .int (nI (zh (uh u)))])), (q 1, .inl ((cy 0), 12, .inl (zb (uh u)))), (q 2, .inl ((cy 0), 12, .inl (zw (uh u)))), (q 3, .inl ((cy 0), 12, .inl (zd (uh u)))), (q 4, .inl ((cy 0), 12, .inl (zs (uh u)))), (q 5, .inl ((cy 0), 12, .inl (zr (uh u)))), (q 6, .inl ((cy 1), 12, .inl (zo (uh u)))), (q2 0, .inr (1, [.ref (q2 1), .ref (q2 2), .ref (q2 3), .ref (q2 4), .ref (q2 5), .ref (q2 6), .int (zl g), .int (nI (zh g))])), (q2 1, .inl ((cy 0), 12, .inl (zb g))), (q2 2, .inl ((cy 0), 12, .inl (zw g))), (q2 3, .inl ((cy 0), 12, .inl (zd g))), (q2 4, .inl ((cy 0), 12, .inl (zs g))), (q2 5, .inl ((cy 0), 12, .inl (zr g))), (q2 6, .inl ((cy 1), 12, .inl (zo g))), (a 3, .inl ((cy 2), 6, .inr (.inr (.inr (.inr (fun i => some (ca i))))))), (ca 0, .inr (0, [.ref (ta 0), .int (nI (ul u 0)), .int (nI (uz u 0))])), (ca 1, .inr (0, [.ref (ta 1), .int (nI (ul u 1)), .int (nI (uz u 1))])), (ca 2, .inr (0, [.ref (ta 2), .int (nI (ul u 2)), .int (nI (uz u 2))])), (ca 3, .inr (0, [.ref (ta 3), .int (nI (ul u 3)), .int (nI (uz u 3))])), (ca 4, .inr (0, [.ref (ta 4), .int (nI (ul u 4)), .int (nI (uz u 4))])), (ca 5, .inr (0, [.ref (ta 5), .int (nI (ul u 5)), .int (nI (uz u 5))])), (ta 0, .inl ((cy 0), 4, .inl (ut u 0))), (ta 1, .inl ((cy 0), 4, .inl (ut u 1))), (ta 2, .inl ((cy 0), 4, .inl (ut u 2))), (ta 3, .inl ((cy 0), 4, .inl (ut u 3))), (ta 4, .inl ((cy 0), 4, .inl (ut u 4))), (ta 5, .inl ((cy 0), 4, .inl (ut u 5)))] := hD
              refine lv_iload hx hb dX2_setWeather_81 (lv_at hl 0 rfl) ?_
              have hP9 : va_P D vwCl (wX cy a q q2 ca ta (uWea u (ix (nI j)) v w) g) H := (by rw [e9]; exact hP)
              have hD9 : va_D A (wX cy a q q2 ca ta (uWea u (ix (nI j)) v w) g) := (by rw [e9]; exact hD)
              refine vx_ret ?_
              refine W.widen (k := 1) (n := 6) (Nat.le_of_ble_eq_true rfl) (Nat.le_of_ble_eq_true rfl) ?_
              exact W.iret (v := wea u j) hx hb hr (fun t ht hW => ⟨⟨wea u j, (), rfl, ⟨(by simp [exWea, hp1, isWi, isDa, c21, c27, c41, c47]), by rw [e9]⟩, by rw [ht]; exact hP9, hD9⟩, hS.F ht⟩) hS.2.2 dX2_setWeather_83
            · exact px_throwS (ik := 44) (is := 80) (ic := 48) (cls := xA) (text := "the damp is not 0 to 9") hx hb hst hown xf_A (by decide) (hts _ kX2_setWeather_2) (hts _ kX2_setWeather_3) (fun w hw => hts w (xgX2_setWeather_48 w hw)) xb_48 xo_48 hX (by decide) rfl rfl (by rw [hml]; exact hl.1) dX2_setWeather_50 dX2_setWeather_53 dX2_setWeather_54 dX2_setWeather_56 dX2_setWeather_59 hex (Nat.le_of_ble_eq_true rfl) (Nat.le_of_ble_eq_true rfl) (Nat.le_of_ble_eq_true rfl) (Nat.le_of_ble_eq_true rfl) hlocks (by simp [exWea, xn, isS, isWi, isDa, c1, c7, c21, c27, c41, c47]) (Nat.le_of_ble_eq_true rfl) (Nat.le_of_ble_eq_true rfl)
        · exact px_throwS (ik := 44) (is := 78) (ic := 48) (cls := xA) (text := "the wind is not 0 to 20") hx hb hst hown xf_A (by decide) (hts _ kX2_setWeather_2) (hts _ kX2_setWeather_3) (fun w hw => hts w (xgX2_setWeather_48 w hw)) xb_48 xo_48 hX (by decide) rfl rfl (by rw [hml]; exact hl.1) dX2_setWeather_30 dX2_setWeather_33 dX2_setWeather_34 dX2_setWeather_36 dX2_setWeather_39 hex (Nat.le_of_ble_eq_true rfl) (Nat.le_of_ble_eq_true rfl) (Nat.le_of_ble_eq_true rfl) (Nat.le_of_ble_eq_true rfl) hlocks (by simp [exWea, xn, isS, isWi, c1, c7, c21, c27]) (Nat.le_of_ble_eq_true rfl) (Nat.le_of_ble_eq_true rfl)
    · exact px_throwS (ik := 73) (is := 75) (ic := 77) (cls := xI) (text := "the hour is not 0 to 11") hx hb hst hown xf_I (by decide) (hts _ kX2_setWeather_0) (hts _ kX2_setWeather_1) (fun w hw => hts w (xgX2_setWeather_77 w hw)) xb_77 xo_77 hX (by decide) rfl rfl (by rw [hml]; exact hl.1) dX2_setWeather_10 dX2_setWeather_13 dX2_setWeather_14 dX2_setWeather_16 dX2_setWeather_19 hex (Nat.le_of_ble_eq_true rfl) (Nat.le_of_ble_eq_true rfl) (Nat.le_of_ble_eq_true rfl) (Nat.le_of_ble_eq_true rfl) hlocks (by simp [exWea, xn, isS, c1, c7]) (Nat.le_of_ble_eq_true rfl) (Nat.le_of_ble_eq_true rfl)

theorem inX2_string_RX2 : ∀ w ∈ u_ws RX2 TX2 6, w ∈ wsX2_string := by decide +kernel
theorem xgX2_string_77 : ∀ w ∈ (vx_atS RX2 77 xI xNm).filter goodWord, w ∈ wsX2_string := by decide +kernel
theorem kX2_string_0 : (.classLink RX2 73 xI : Cond) ∈ wsX2_string := by decide +kernel
theorem kX2_string_1 : (.initialized xI : Cond) ∈ wsX2_string := by decide +kernel
theorem kX2_string_2 : (.fieldLink RX2 10 "WedgeHarps" "now" "LWedgeHarps$Harp;" : Cond) ∈ wsX2_string := by decide +kernel
set_option maxHeartbeats 4000000 in
set_option maxRecDepth 100000 in
theorem mX2_string (l : Launch) (hst : l.stackTraces = false) (D : va_G) (cy : Nat → ClassId) (a q q2 ca ta : Nat → Nat) (u : US) (g : HS) (hu : uOk u) (k v : Int32) : vx_Met l yX2_string wsX2_string ({ frames := 7, cells := 2, slots := 12, locals := 102 } : Room) (va_Pc [.ref (a 0), .int k, .int v] (fun U => va_P D vwCl (wX cy a q q2 ca ta u g) U.heap ∧ va_K D vwCl (TY cy) U ∧ xC U U.heap)) (vp_Si (fun r8 => (exStr k v = 0) ∧ r8 = factH (uh u) (ix k) (ix v))) (pX (fun E => E = xn (exStr k v) ∧ exStr k v ≠ 0)) 2 12 (fun _ => False) := by
  refine vx_ofW (cc := cX2_string) (maxL := 3) (ret := (some .int)) (by decide) rfl ?_
  intro p e s m args below meth c s₁ B hml hex hv
  obtain ⟨rfl, hP, hK, hX⟩ := hv
  have hx := B.exec
  have hb := B.bytes
  have hr := B.returns
  have hts := atoms_spec (ws := wsX2_string) B.pre
  have hown : s.vm.findClass RX2 = some m.cls := findClass_of_methodNamed B.named
  have hlocks := B.notSynchronized
  have hl := lv_entry ([.ref (a 0), .int k, .int v]) (n := 3) (Nat.le_of_ble_eq_true rfl)
  rw [lg_entry_eq]
  generalize (lg_sl ([.ref (a 0), .int k, .int v]) ++ List.replicate (3 - (lg_sl ([.ref (a 0), .int k, .int v])).length) Slot.unset).toArray = ls at hl ⊢
  have hl : lv_has ls 3 [(0, .ref (a 0)), (1, .int k), (2, .int v)] := hl
  refine lv_iload_n hx hb dX2_string_0 rfl (lv_at hl 1 rfl) ?_
  refine px_callv (vx_runS (As := [.int k]) (rest := []) ⟨hx, hb, hml, hown, hts⟩ (mX2_checkString l hst D cy k) (va_cwS 1 hts gX2_string_X2_checkString rfl rfl rfl (by decide +kernel) ⟨Nat.le_of_ble_eq_true rfl, Nat.le_of_ble_eq_true rfl⟩) ⟨fun a U g mk q => ⟨q.1, xC.warm (State.WarmedH.refl U) q.2⟩, fun U hU hW => ⟨rfl, (show xC U U.heap by rw [hU]; exact hX.warm hW)⟩⟩ rfl rfl hl.1 rfl (lv_room (Nat.le_of_ble_eq_true rfl)) dX2_string_1 ⟨Nat.le_of_ble_eq_true rfl, Nat.le_of_ble_eq_true rfl⟩) (fun E9 ce9 q9 H9 hE9 h19 h29 hce9 hcv9 hcl9 => px_out hex hlocks h19 h29 hce9 hcv9 hcl9 (by simp [exStr, xn, hE9.1, hE9.2]) (Nat.le_of_ble_eq_true rfl) (Nat.le_of_ble_eq_true rfl)) (fun hp1 => ?_)
  refine W.widen (k := 1) (n := 6) (Nat.le_of_ble_eq_true rfl) (Nat.le_of_ble_eq_true rfl) ?_
  refine lv_iload_n hx hb dX2_string_4 rfl (lv_at hl 2 rfl) ?_
  refine lv_if_lt (tgt := 14) hx hb dX2_string_5 (by decide) (fun c5 => ?_) (fun c5 => ?_)
  · exact px_throwS (ik := 73) (is := 85) (ic := 77) (cls := xI) (text := "what is not 0 to 6") hx hb hst hown xf_I (by decide) (hts _ kX2_string_0) (hts _ kX2_string_1) (fun w hw => hts w (xgX2_string_77 w hw)) xb_77 xo_77 hX (by decide) rfl rfl (by rw [hml]; exact hl.1) dX2_string_14 dX2_string_17 dX2_string_18 dX2_string_20 dX2_string_23 hex (Nat.le_of_ble_eq_true rfl) (Nat.le_of_ble_eq_true rfl) (Nat.le_of_ble_eq_true rfl) (Nat.le_of_ble_eq_true rfl) hlocks (by simp [exStr, xn, hp1, isF, c5]) (Nat.le_of_ble_eq_true rfl) (Nat.le_of_ble_eq_true rfl)
  · refine lv_iload_n hx hb dX2_string_8 rfl (lv_at hl 2 rfl) ?_
    refine lv_bipush (v := 7) hx hb dX2_string_9 (by decide) ?_
    refine lv_icmp_lt (tgt := 24) hx hb dX2_string_11 (by decide) (fun c11 => ?_) (fun c11 => ?_)
    · obtain ⟨j, hj, rfl⟩ := isS_nat hp1
      have e9 : ix (nI j) = j := (ix_nI (show j < 2147483648 by omega))
      have hpf : isF v = true := by simp [isF, c5, c11]
      obtain ⟨w, hw, rfl⟩ := isF_nat hpf
      have f9 : ix (nI w) = w := (ix_nI (show w < 2147483648 by omega))
      refine lv_aload_n hx hb dX2_string_24 rfl (lv_at hl 0 rfl) ?_
      refine va_get (D := D) (ci := 2) (v := .ref (q 0)) (C := RX2) (T := TX2) (N := 6) hx hb hts inX2_string_RX2 hown hK hP 0 rfl rfl 0 (by decide) (hts _ kX2_string_2) (fun _ h9 => h9) rfl dX2_string_25 ?_
      refine lv_iload_n hx hb dX2_string_28 rfl (lv_at hl 1 rfl) ?_
      refine lv_iload_n hx hb dX2_string_29 rfl (lv_at hl 2 rfl) ?_
      have hPc := hP.sub (ws' := wH cy q (uh u)) [3, 4, 5, 6, 7, 8, 9] rfl
      refine pc_calli (va_runV (As := [.int (nI j), .int (nI w)]) (rest := []) ⟨hx, hb, hml, hown, hts⟩ (mX1_factOf l D cy q (uh u) j hj w hw hu.1) (cwV 2 hts gX2_string_X1_factOf rfl rfl rfl (by decide +kernel) ⟨Nat.le_of_ble_eq_true rfl, Nat.le_of_ble_eq_true rfl⟩) ⟨fun a U g mk q => ⟨q.1, q.2.1, va_K.moved (u := U) (U := U.calling g mk a) (Vm.Alike.refl U.vm) q.2.2⟩, va_recv hK hPc (ci := 1) (q0 := 0) rfl rfl, fun U hU hW => ⟨rfl, by rw [hU]; exact hPc, va_K.moved hW.alike hK⟩⟩ rfl rfl hl.1 rfl (lv_room (Nat.le_of_ble_eq_true rfl)) dX2_string_30 ⟨Nat.le_of_ble_eq_true rfl, Nat.le_of_ble_eq_true rfl⟩) (fun r9 hr9 => ?_)
      subst hr9
      refine vx_ret ?_
      refine W.widen (k := 2) (n := 12) (Nat.le_of_ble_eq_true rfl) (Nat.le_of_ble_eq_true rfl) ?_
      exact W.iret (v := factH (uh u) j w) hx hb hr (fun t ht hW => ⟨factH (uh u) j w, rfl, ⟨(by simp [exStr, hp1, hpf]), by rw [e9, f9]⟩, ht⟩) (fun q hq => absurd hq List.not_mem_nil) dX2_string_33
    · exact px_throwS (ik := 73) (is := 85) (ic := 77) (cls := xI) (text := "what is not 0 to 6") hx hb hst hown xf_I (by decide) (hts _ kX2_string_0) (hts _ kX2_string_1) (fun w hw => hts w (xgX2_string_77 w hw)) xb_77 xo_77 hX (by decide) rfl rfl (by rw [hml]; exact hl.1) dX2_string_14 dX2_string_17 dX2_string_18 dX2_string_20 dX2_string_23 hex (Nat.le_of_ble_eq_true rfl) (Nat.le_of_ble_eq_true rfl) (Nat.le_of_ble_eq_true rfl) (Nat.le_of_ble_eq_true rfl) hlocks (by simp [exStr, xn, hp1, isF, c5, c11]) (Nat.le_of_ble_eq_true rfl) (Nat.le_of_ble_eq_true rfl)

theorem inX2_moves_RX1 : ∀ w ∈ u_ws RX1 TX1 8, w ∈ wsX2_moves := by decide +kernel
theorem inX2_moves_RX2 : ∀ w ∈ u_ws RX2 TX2 6, w ∈ wsX2_moves := by decide +kernel
theorem kX2_moves_0 : (.fieldLink RX2 10 "WedgeHarps" "now" "LWedgeHarps$Harp;" : Cond) ∈ wsX2_moves := by decide +kernel
theorem kX2_moves_1 : (.fieldLink RX2 91 "WedgeHarps$Harp" "whole" "[Z" : Cond) ∈ wsX2_moves := by decide +kernel
theorem kX2_moves_2 : (.methodLink RX2 95 Lib.Math.abs.name : Cond) ∈ wsX2_moves := by decide +kernel
theorem kX2_moves_3 : (.static Lib.Math.abs.name : Cond) ∈ wsX2_moves := by decide +kernel
theorem kX2_moves_4 : (.initialized "java/lang/Math" : Cond) ∈ wsX2_moves := by decide +kernel
theorem kX2_moves_5 : (.code Lib.Math.abs.name Lib.Math.abs.code 1 (some .int) : Cond) ∈ wsX2_moves := by decide +kernel
set_option maxHeartbeats 4000000 in
set_option maxRecDepth 100000 in
theorem mX2_moves (l : Launch) (hst : l.stackTraces = false) (D : va_G) (cy : Nat → ClassId) (a q q2 ca ta : Nat → Nat) (u : US) (g : HS) (hu : uOk u) (k v w : Int32) : vx_Met l yX2_moves wsX2_moves ({ frames := 7, cells := 3, slots := 18, locals := 102 } : Room) (va_Pc [.ref (a 0), .int k, .int v, .int w] (fun U => va_P D vwCl (wX cy a q q2 ca ta u g) U.heap ∧ va_K D vwCl (TY cy) U ∧ xC U U.heap)) (vp_Si (fun r8 => (exMov k v w = 0) ∧ r8 = mov (uh u) (ix k) (ix w) v)) (pX (fun E => E = xn (exMov k v w) ∧ exMov k v w ≠ 0)) 3 18 (fun _ => False) := by
  refine vx_ofW (cc := cX2_moves) (maxL := 4) (ret := (some .int)) (by decide) rfl ?_
  intro p e s m args below meth c s₁ B hml hex hv
  obtain ⟨rfl, hP, hK, hX⟩ := hv
  have hx := B.exec
  have hb := B.bytes
  have hr := B.returns
  have hts := atoms_spec (ws := wsX2_moves) B.pre
  have hown : s.vm.findClass RX2 = some m.cls := findClass_of_methodNamed B.named
  have hlocks := B.notSynchronized
  have hl := lv_entry ([.ref (a 0), .int k, .int v, .int w]) (n := 4) (Nat.le_of_ble_eq_true rfl)
  rw [lg_entry_eq]
  generalize (lg_sl ([.ref (a 0), .int k, .int v, .int w]) ++ List.replicate (4 - (lg_sl ([.ref (a 0), .int k, .int v, .int w])).length) Slot.unset).toArray = ls at hl ⊢
  have hl : lv_has ls 4 [(0, .ref (a 0)), (1, .int k), (2, .int v), (3, .int w)] := hl
  refine lv_iload_n hx hb dX2_moves_0 rfl (lv_at hl 1 rfl) ?_
  refine px_callv (vx_runS (As := [.int k]) (rest := []) ⟨hx, hb, hml, hown, hts⟩ (mX2_checkString l hst D cy k) (va_cwS 1 hts gX2_moves_X2_checkString rfl rfl rfl (by decide +kernel) ⟨Nat.le_of_ble_eq_true rfl, Nat.le_of_ble_eq_true rfl⟩) ⟨fun a U g mk q => ⟨q.1, xC.warm (State.WarmedH.refl U) q.2⟩, fun U hU hW => ⟨rfl, (show xC U U.heap by rw [hU]; exact hX.warm hW)⟩⟩ rfl rfl hl.1 rfl (lv_room (Nat.le_of_ble_eq_true rfl)) dX2_moves_1 ⟨Nat.le_of_ble_eq_true rfl, Nat.le_of_ble_eq_true rfl⟩) (fun E9 ce9 q9 H9 hE9 h19 h29 hce9 hcv9 hcl9 => px_out hex hlocks h19 h29 hce9 hcv9 hcl9 (by simp [exMov, xn, hE9.1, hE9.2]) (Nat.le_of_ble_eq_true rfl) (Nat.le_of_ble_eq_true rfl)) (fun hp1 => ?_)
  refine W.widen (k := 1) (n := 6) (Nat.le_of_ble_eq_true rfl) (Nat.le_of_ble_eq_true rfl) ?_
  refine lv_iload_n hx hb dX2_moves_4 rfl (lv_at hl 3 rfl) ?_
  refine px_callv (vx_runS (As := [.int w]) (rest := []) ⟨hx, hb, hml, hown, hts⟩ (mX2_checkString l hst D cy w) (va_cwS 1 hts gX2_moves_X2_checkString rfl rfl rfl (by decide +kernel) ⟨Nat.le_of_ble_eq_true rfl, Nat.le_of_ble_eq_true rfl⟩) ⟨fun a U g mk q => ⟨q.1, xC.warm (State.WarmedH.refl U) q.2⟩, fun U hU hW => ⟨rfl, (show xC U U.heap by rw [hU]; exact hX.warm hW)⟩⟩ rfl rfl hl.1 rfl (lv_room (Nat.le_of_ble_eq_true rfl)) dX2_moves_5 ⟨Nat.le_of_ble_eq_true rfl, Nat.le_of_ble_eq_true rfl⟩) (fun E9 ce9 q9 H9 hE9 h19 h29 hce9 hcv9 hcl9 => px_out hex hlocks h19 h29 hce9 hcv9 hcl9 (by simp [exMov, xn, hp1, hE9.1, hE9.2]) (Nat.le_of_ble_eq_true rfl) (Nat.le_of_ble_eq_true rfl)) (fun hp5 => ?_)
  refine W.widen (k := 2) (n := 12) (Nat.le_of_ble_eq_true rfl) (Nat.le_of_ble_eq_true rfl) ?_
  refine lv_iload_n hx hb dX2_moves_8 rfl (lv_at hl 2 rfl) ?_
  refine px_callv (vx_runS (As := [.int v]) (rest := []) ⟨hx, hb, hml, hown, hts⟩ (mX2_checkWedgeSteps l hst D cy v) (va_cwS 1 hts gX2_moves_X2_checkWedgeSteps rfl rfl rfl (by decide +kernel) ⟨Nat.le_of_ble_eq_true rfl, Nat.le_of_ble_eq_true rfl⟩) ⟨fun a U g mk q => ⟨q.1, xC.warm (State.WarmedH.refl U) q.2⟩, fun U hU hW => ⟨rfl, (show xC U U.heap by rw [hU]; exact hX.warm hW)⟩⟩ rfl rfl hl.1 rfl (lv_room (Nat.le_of_ble_eq_true rfl)) dX2_moves_9 ⟨Nat.le_of_ble_eq_true rfl, Nat.le_of_ble_eq_true rfl⟩) (fun E9 ce9 q9 H9 hE9 h19 h29 hce9 hcv9 hcl9 => px_out hex hlocks h19 h29 hce9 hcv9 hcl9 (by simp [exMov, xn, hp1, hp5, hE9.1, hE9.2]) (Nat.le_of_ble_eq_true rfl) (Nat.le_of_ble_eq_true rfl)) (fun hp9 => ?_)
  refine W.widen (k := 3) (n := 18) (Nat.le_of_ble_eq_true rfl) (Nat.le_of_ble_eq_true rfl) ?_
  obtain ⟨j, hj, rfl⟩ := isS_nat hp1
  have e9 : ix (nI j) = j := (ix_nI (show j < 2147483648 by omega))
  obtain ⟨i, hi, rfl⟩ := isS_nat hp5
  have f9 : ix (nI i) = i := (ix_nI (show i < 2147483648 by omega))
  refine lv_aload_n hx hb dX2_moves_12 rfl (lv_at hl 0 rfl) ?_
  refine va_get (D := D) (ci := 2) (v := .ref (q 0)) (C := RX2) (T := TX2) (N := 6) hx hb hts inX2_moves_RX2 hown hK hP 0 rfl rfl 0 (by decide) (hts _ kX2_moves_0) (fun _ h9 => h9) rfl dX2_moves_13 ?_
  refine va_get (D := D) (ci := 1) (v := .ref (q 6)) (C := RX1) (T := TX1) (N := 8) hx hb hts inX2_moves_RX1 hown hK hP 3 rfl rfl 5 (by decide) (hts _ kX2_moves_1) (fun _ h9 => h9) rfl dX2_moves_16 ?_
  refine lv_iload_n hx hb dX2_moves_19 rfl (lv_at hl 3 rfl) ?_
  refine pc_zald hx hb hK hP 9 1 rfl rfl (k := i) (show i < 12 by omega) (by decide) dX2_moves_20 ?_
  refine lv_if_ne (tgt := 26) hx hb dX2_moves_21 (by decide) (fun c21 => ?_) (fun c21 => ?_)
  · refine lv_iload_n hx hb dX2_moves_26 rfl (lv_at hl 1 rfl) ?_
    refine lv_iload_n hx hb dX2_moves_27 rfl (lv_at hl 3 rfl) ?_
    refine lv_icmp_ne (tgt := 36) hx hb dX2_moves_28 (by decide) (fun c28 => ?_) (fun c28 => ?_)
    · have n28 : ¬ (j = i) := fun h9 => c28 ((nI_eq (a := j) (b := i) (by omega) (by omega)).mpr h9)
      refine lv_iload_n hx hb dX2_moves_36 rfl (lv_at hl 1 rfl) ?_
      refine lv_iload_n hx hb dX2_moves_37 rfl (lv_at hl 3 rfl) ?_
      refine lv_isub hx hb dX2_moves_38 ?_
      refine va_mabs hx hb (by rw [hml]; exact hl.1.symm) hown (hts _ kX2_moves_2) (hts _ kX2_moves_3) (hts _ kX2_moves_4) (hts _ kX2_moves_5) (Nat.le_of_ble_eq_true rfl) (Nat.le_of_ble_eq_true rfl) (Nat.le_of_ble_eq_true rfl) (Nat.le_of_ble_eq_true rfl) dX2_moves_39 ?_
      refine pc_top (show (if 0 ≤ ((nI j) - (nI i)) then ((nI j) - (nI i)) else 0 - ((nI j) - (nI i))) = ab ((nI j) - (nI i)) from rfl) ?_
      refine lv_iconst (v := 1) hx hb dX2_moves_42 (by decide) ?_
      refine lv_icmp_ne (tgt := 52) hx hb dX2_moves_43 (by decide) (fun c43 => ?_) (fun c43 => ?_)
      · have d43 : ¬ (j + 1 = i ∨ i + 1 = j) := fun z => c43 ((ab_one hj hi).mpr z)
        refine lv_iconst (v := 0) hx hb dX2_moves_52 (by decide) ?_
        refine vx_ret ?_
        exact W.iret (v := 0) hx hb hr (fun t ht hW => ⟨0, rfl, ⟨(by simp [exMov, hp1, hp5, hp9]), by rw [e9, f9]; simp [mov, c21, n28, d43]⟩, ht⟩) (fun q hq => absurd hq List.not_mem_nil) dX2_moves_53
      · have d43 := (ab_one hj hi).mp c43
        refine lv_iconst (v := 3) hx hb dX2_moves_46 (by decide) ?_
        refine lv_iload_n hx hb dX2_moves_47 rfl (lv_at hl 2 rfl) ?_
        refine lv_imul hx hb dX2_moves_48 ?_
        refine lv_goto (tgt := 53) hx hb dX2_moves_49 (by decide) ?_
        refine vx_ret ?_
        exact W.iret (v := 3 * v) hx hb hr (fun t ht hW => ⟨3 * v, rfl, ⟨(by simp [exMov, hp1, hp5, hp9]), by rw [e9, f9]; simp [mov, c21, n28, d43]⟩, ht⟩) (fun q hq => absurd hq List.not_mem_nil) dX2_moves_53
    · have n28 : j = i := (nI_eq (a := j) (b := i) (by omega) (by omega)).mp c28
      refine lv_bipush (v := 10) hx hb dX2_moves_31 (by decide) ?_
      refine lv_iload_n hx hb dX2_moves_33 rfl (lv_at hl 2 rfl) ?_
      refine lv_imul hx hb dX2_moves_34 ?_
      refine vx_ret ?_
      exact W.iret (v := 10 * v) hx hb hr (fun t ht hW => ⟨10 * v, rfl, ⟨(by simp [exMov, hp1, hp5, hp9]), by rw [e9, f9]; simp [mov, c21, n28]⟩, ht⟩) (fun q hq => absurd hq List.not_mem_nil) dX2_moves_35
  · refine lv_iconst (v := 0) hx hb dX2_moves_24 (by decide) ?_
    refine vx_ret ?_
    exact W.iret (v := 0) hx hb hr (fun t ht hW => ⟨0, rfl, ⟨(by simp [exMov, hp1, hp5, hp9]), by rw [e9, f9]; simp [mov, c21]⟩, ht⟩) (fun q hq => absurd hq List.not_mem_nil) dX2_moves_25

theorem inX2_off_RX2 : ∀ w ∈ u_ws RX2 TX2 6, w ∈ wsX2_off := by decide +kernel
theorem kX2_off_0 : (.fieldLink RX2 10 "WedgeHarps" "now" "LWedgeHarps$Harp;" : Cond) ∈ wsX2_off := by decide +kernel
theorem kX2_off_1 : (.fieldLink RX2 28 "WedgeHarps" "chords" "[LWedgeHarps$Chord;" : Cond) ∈ wsX2_off := by decide +kernel
set_option maxHeartbeats 4000000 in
set_option maxRecDepth 100000 in
theorem mX2_off (l : Launch) (hst : l.stackTraces = false) (D : va_G) (cy : Nat → ClassId) (a q q2 ca ta : Nat → Nat) (u : US) (g : HS) (hu : uOk u) (v : Int32) : vx_Met l yX2_off wsX2_off ({ frames := 7, cells := 1, slots := 6, locals := 103 } : Room) (va_Pc [.ref (a 0), .int v] (fun U => va_P D vwCl (wX cy a q q2 ca ta u g) U.heap ∧ va_K D vwCl (TY cy) U ∧ xC U U.heap)) (vp_Si (fun r8 => (exC u v = 0) ∧ r8 = offBy (uh u) (ul u (ix v)) (ut u (ix v)) (uz u (ix v)))) (pX (fun E => E = xn (exC u v) ∧ exC u v ≠ 0)) 1 6 (fun _ => False) := by
  refine vx_ofW (cc := cX2_off) (maxL := 2) (ret := (some .int)) (by decide) rfl ?_
  intro p e s m args below meth c s₁ B hml hex hv
  obtain ⟨rfl, hP, hK, hX⟩ := hv
  have hx := B.exec
  have hb := B.bytes
  have hr := B.returns
  have hts := atoms_spec (ws := wsX2_off) B.pre
  have hown : s.vm.findClass RX2 = some m.cls := findClass_of_methodNamed B.named
  have hlocks := B.notSynchronized
  have hl := lv_entry ([.ref (a 0), .int v]) (n := 2) (Nat.le_of_ble_eq_true rfl)
  rw [lg_entry_eq]
  generalize (lg_sl ([.ref (a 0), .int v]) ++ List.replicate (2 - (lg_sl ([.ref (a 0), .int v])).length) Slot.unset).toArray = ls at hl ⊢
  have hl : lv_has ls 2 [(0, .ref (a 0)), (1, .int v)] := hl
  refine lv_aload_n hx hb dX2_off_0 rfl (lv_at hl 0 rfl) ?_
  refine lv_iload_n hx hb dX2_off_1 rfl (lv_at hl 1 rfl) ?_
  refine px_callv (vx_runV (As := [.int v]) (rest := []) ⟨hx, hb, hml, hown, hts⟩ (mX2_checkChord l hst D cy a q q2 ca ta u g hu v) (cwV 1 hts gX2_off_X2_checkChord rfl rfl rfl (by decide +kernel) ⟨Nat.le_of_ble_eq_true rfl, Nat.le_of_ble_eq_true rfl⟩) ⟨fun a U g mk q => ⟨q.1, q.2.1, va_K.moved (u := U) (U := U.calling g mk a) (Vm.Alike.refl U.vm) q.2.2.1, xC.warm (State.WarmedH.refl U) q.2.2.2⟩, va_recv hK hP (ci := 2) (q0 := 0) rfl rfl, fun U hU hW => ⟨rfl, by rw [hU]; exact hP, va_K.moved hW.alike hK, (show xC U U.heap by rw [hU]; exact hX.warm hW)⟩⟩ rfl rfl hl.1 rfl (lv_room (Nat.le_of_ble_eq_true rfl)) dX2_off_2 ⟨Nat.le_of_ble_eq_true rfl, Nat.le_of_ble_eq_true rfl⟩) (fun E9 ce9 q9 H9 hE9 h19 h29 hce9 hcv9 hcl9 => px_out hex hlocks h19 h29 hce9 hcv9 hcl9 (by simp [exC, xn, hE9.1, hE9.2]) (Nat.le_of_ble_eq_true rfl) (Nat.le_of_ble_eq_true rfl)) (fun hp2 => ?_)
  refine W.widen (k := 1) (n := 6) (Nat.le_of_ble_eq_true rfl) (Nat.le_of_ble_eq_true rfl) ?_
  obtain ⟨j, hj, rfl⟩ := isC_nat hu.2.1 hp2
  have h6 : j < 6 := by have := hu.2.1; omega
  have e9 : ix (nI j) = j := (ix_nI (show j < 2147483648 by omega))
  refine lv_aload_n hx hb dX2_off_5 rfl (lv_at hl 0 rfl) ?_
  refine va_get (D := D) (ci := 2) (v := .ref (q 0)) (C := RX2) (T := TX2) (N := 6) hx hb hts inX2_off_RX2 hown hK hP 0 rfl rfl 0 (by decide) (hts _ kX2_off_0) (fun _ h9 => h9) rfl dX2_off_6 ?_
  refine lv_aload_n hx hb dX2_off_9 rfl (lv_at hl 0 rfl) ?_
  refine va_get (D := D) (ci := 2) (v := .ref (a 3)) (C := RX2) (T := TX2) (N := 6) hx hb hts inX2_off_RX2 hown hK hP 0 rfl rfl 4 (by decide) (hts _ kX2_off_1) (fun _ h9 => h9) rfl dX2_off_10 ?_
  refine lv_iload_n hx hb dX2_off_13 rfl (lv_at hl 1 rfl) ?_
  refine pc_aldq hx hb hK hP 17 2 rfl rfl (k := j) (show j < 6 by omega) (by decide) (v := ca j) rfl dX2_off_14 ?_
  have hPc := wX_ch hP h6
  refine pc_calli (va_runV (As := [.ref (ca j)]) (rest := []) ⟨hx, hb, hml, hown, hts⟩ (mX1_distanceFrom l D cy q (uh u) (ca j) (ta j) (ul u j) (uz u j) (ut u j) (hu.2.2.1 j h6).1 (hu.2.2.1 j h6).2) (cwV 1 hts gX2_off_X1_distanceFrom rfl rfl rfl (by decide +kernel) ⟨Nat.le_of_ble_eq_true rfl, Nat.le_of_ble_eq_true rfl⟩) ⟨fun a U g mk q => ⟨q.1, q.2.1, va_K.moved (u := U) (U := U.calling g mk a) (Vm.Alike.refl U.vm) q.2.2⟩, va_recv hK hPc (ci := 1) (q0 := 0) rfl rfl, fun U hU hW => ⟨rfl, by rw [hU]; exact hPc, va_K.moved hW.alike hK⟩⟩ rfl rfl hl.1 rfl (lv_room (Nat.le_of_ble_eq_true rfl)) dX2_off_15 ⟨Nat.le_of_ble_eq_true rfl, Nat.le_of_ble_eq_true rfl⟩) (fun r9 hr9 => ?_)
  subst hr9
  refine vx_ret ?_
  exact W.iret (v := offBy (uh u) (ul u j) (ut u j) (uz u j)) hx hb hr (fun t ht hW => ⟨offBy (uh u) (ul u j) (ut u j) (uz u j), rfl, ⟨(by simp [exC, hp2]), by rw [e9]⟩, ht⟩) (fun q hq => absurd hq List.not_mem_nil) dX2_off_18

theorem inX2_sounds_RX2 : ∀ w ∈ u_ws RX2 TX2 6, w ∈ wsX2_sounds := by decide +kernel
theorem kX2_sounds_0 : (.fieldLink RX2 10 "WedgeHarps" "now" "LWedgeHarps$Harp;" : Cond) ∈ wsX2_sounds := by decide +kernel
theorem kX2_sounds_1 : (.fieldLink RX2 28 "WedgeHarps" "chords" "[LWedgeHarps$Chord;" : Cond) ∈ wsX2_sounds := by decide +kernel
set_option maxHeartbeats 4000000 in
set_option maxRecDepth 100000 in
theorem mX2_sounds (l : Launch) (hst : l.stackTraces = false) (D : va_G) (cy : Nat → ClassId) (a q q2 ca ta : Nat → Nat) (u : US) (g : HS) (hu : uOk u) (v : Int32) : vx_Met l yX2_sounds wsX2_sounds ({ frames := 7, cells := 1, slots := 6, locals := 103 } : Room) (va_Pc [.ref (a 0), .int v] (fun U => va_P D vwCl (wX cy a q q2 ca ta u g) U.heap ∧ va_K D vwCl (TY cy) U ∧ xC U U.heap)) (vp_Si (fun r8 => (exC u v = 0) ∧ r8 = bI (snd u (ix v)))) (pX (fun E => E = xn (exC u v) ∧ exC u v ≠ 0)) 1 6 (fun _ => False) := by
  refine vx_ofW (cc := cX2_sounds) (maxL := 2) (ret := (some .boolean)) (by decide) rfl ?_
  intro p e s m args below meth c s₁ B hml hex hv
  obtain ⟨rfl, hP, hK, hX⟩ := hv
  have hx := B.exec
  have hb := B.bytes
  have hr := B.returns
  have hts := atoms_spec (ws := wsX2_sounds) B.pre
  have hown : s.vm.findClass RX2 = some m.cls := findClass_of_methodNamed B.named
  have hlocks := B.notSynchronized
  have hl := lv_entry ([.ref (a 0), .int v]) (n := 2) (Nat.le_of_ble_eq_true rfl)
  rw [lg_entry_eq]
  generalize (lg_sl ([.ref (a 0), .int v]) ++ List.replicate (2 - (lg_sl ([.ref (a 0), .int v])).length) Slot.unset).toArray = ls at hl ⊢
  have hl : lv_has ls 2 [(0, .ref (a 0)), (1, .int v)] := hl
  refine lv_aload_n hx hb dX2_sounds_0 rfl (lv_at hl 0 rfl) ?_
  refine lv_iload_n hx hb dX2_sounds_1 rfl (lv_at hl 1 rfl) ?_
  refine px_callv (vx_runV (As := [.int v]) (rest := []) ⟨hx, hb, hml, hown, hts⟩ (mX2_checkChord l hst D cy a q q2 ca ta u g hu v) (cwV 1 hts gX2_sounds_X2_checkChord rfl rfl rfl (by decide +kernel) ⟨Nat.le_of_ble_eq_true rfl, Nat.le_of_ble_eq_true rfl⟩) ⟨fun a U g mk q => ⟨q.1, q.2.1, va_K.moved (u := U) (U := U.calling g mk a) (Vm.Alike.refl U.vm) q.2.2.1, xC.warm (State.WarmedH.refl U) q.2.2.2⟩, va_recv hK hP (ci := 2) (q0 := 0) rfl rfl, fun U hU hW => ⟨rfl, by rw [hU]; exact hP, va_K.moved hW.alike hK, (show xC U U.heap by rw [hU]; exact hX.warm hW)⟩⟩ rfl rfl hl.1 rfl (lv_room (Nat.le_of_ble_eq_true rfl)) dX2_sounds_2 ⟨Nat.le_of_ble_eq_true rfl, Nat.le_of_ble_eq_true rfl⟩) (fun E9 ce9 q9 H9 hE9 h19 h29 hce9 hcv9 hcl9 => px_out hex hlocks h19 h29 hce9 hcv9 hcl9 (by simp [exC, xn, hE9.1, hE9.2]) (Nat.le_of_ble_eq_true rfl) (Nat.le_of_ble_eq_true rfl)) (fun hp2 => ?_)
  refine W.widen (k := 1) (n := 6) (Nat.le_of_ble_eq_true rfl) (Nat.le_of_ble_eq_true rfl) ?_
  obtain ⟨j, hj, rfl⟩ := isC_nat hu.2.1 hp2
  have h6 : j < 6 := by have := hu.2.1; omega
  have e9 : ix (nI j) = j := (ix_nI (show j < 2147483648 by omega))
  refine lv_aload_n hx hb dX2_sounds_5 rfl (lv_at hl 0 rfl) ?_
  refine va_get (D := D) (ci := 2) (v := .ref (q 0)) (C := RX2) (T := TX2) (N := 6) hx hb hts inX2_sounds_RX2 hown hK hP 0 rfl rfl 0 (by decide) (hts _ kX2_sounds_0) (fun _ h9 => h9) rfl dX2_sounds_6 ?_
  refine lv_aload_n hx hb dX2_sounds_9 rfl (lv_at hl 0 rfl) ?_
  refine va_get (D := D) (ci := 2) (v := .ref (a 3)) (C := RX2) (T := TX2) (N := 6) hx hb hts inX2_sounds_RX2 hown hK hP 0 rfl rfl 4 (by decide) (hts _ kX2_sounds_1) (fun _ h9 => h9) rfl dX2_sounds_10 ?_
  refine lv_iload_n hx hb dX2_sounds_13 rfl (lv_at hl 1 rfl) ?_
  refine pc_aldq hx hb hK hP 17 2 rfl rfl (k := j) (show j < 6 by omega) (by decide) (v := ca j) rfl dX2_sounds_14 ?_
  have hPc := wX_ch hP h6
  refine pc_calli (va_runV (As := [.ref (ca j)]) (rest := []) ⟨hx, hb, hml, hown, hts⟩ (mX1_isTunedTo l D cy q (uh u) (ca j) (ta j) (ul u j) (uz u j) (ut u j) (hu.2.2.1 j h6).1 (hu.2.2.1 j h6).2) (cwV 1 hts gX2_sounds_X1_isTunedTo rfl rfl rfl (by decide +kernel) ⟨Nat.le_of_ble_eq_true rfl, Nat.le_of_ble_eq_true rfl⟩) ⟨fun a U g mk q => ⟨q.1, q.2.1, va_K.moved (u := U) (U := U.calling g mk a) (Vm.Alike.refl U.vm) q.2.2⟩, va_recv hK hPc (ci := 1) (q0 := 0) rfl rfl, fun U hU hW => ⟨rfl, by rw [hU]; exact hPc, va_K.moved hW.alike hK⟩⟩ rfl rfl hl.1 rfl (lv_room (Nat.le_of_ble_eq_true rfl)) dX2_sounds_15 ⟨Nat.le_of_ble_eq_true rfl, Nat.le_of_ble_eq_true rfl⟩) (fun r9 hr9 => ?_)
  subst hr9
  refine vx_ret ?_
  exact W.zret (v := bI (snd u j)) hx hb hr (bI_nar _) (fun t ht hW => ⟨bI (snd u j), rfl, ⟨(by simp [exC, hp2]), by rw [e9]⟩, ht⟩) (fun q hq => absurd hq List.not_mem_nil) dX2_sounds_18

theorem inX2_soundingChords_RX2 : ∀ w ∈ u_ws RX2 TX2 6, w ∈ wsX2_soundingChords := by decide +kernel
theorem kX2_soundingChords_0 : (.fieldLink RX2 33 "WedgeHarps" "told" "I" : Cond) ∈ wsX2_soundingChords := by decide +kernel
theorem kX2_soundingChords_1 : (.fieldLink RX2 10 "WedgeHarps" "now" "LWedgeHarps$Harp;" : Cond) ∈ wsX2_soundingChords := by decide +kernel
theorem kX2_soundingChords_2 : (.fieldLink RX2 28 "WedgeHarps" "chords" "[LWedgeHarps$Chord;" : Cond) ∈ wsX2_soundingChords := by decide +kernel
set_option maxHeartbeats 4000000 in
set_option maxRecDepth 100000 in
theorem mX2_soundingChords (l : Launch) (D : va_G) (cy : Nat → ClassId) (a q q2 ca ta : Nat → Nat) (u : US) (g : HS) (hu : uOk u) : Met l yX2_soundingChords wsX2_soundingChords ({ frames := 3, cells := 0, slots := 0, locals := 70 } : Room) (va_Pc [.ref (a 0)] (fun U => va_P D vwCl (wX cy a q q2 ca ta u g) U.heap ∧ va_K D vwCl (TY cy) U)) (vp_Si (fun r8 => r8 = nI (cnt (snd u) 0 (un u)))) 0 0 (fun _ => False) := by
  refine Met.ofW (cc := cX2_soundingChords) (maxL := 3) (ret := (some .int)) (by decide) rfl ?_
  intro p e s m args below meth c s₁ B hml hv
  obtain ⟨rfl, hP, hK⟩ := hv
  have hx := B.exec
  have hb := B.bytes
  have hr := B.returns
  have hts := atoms_spec (ws := wsX2_soundingChords) B.pre
  have hown : s.vm.findClass RX2 = some m.cls := findClass_of_methodNamed B.named
  have hlocks := B.notSynchronized
  have hl := lv_entry ([.ref (a 0)]) (n := 3) (Nat.le_of_ble_eq_true rfl)
  rw [lg_entry_eq]
  generalize (lg_sl ([.ref (a 0)]) ++ List.replicate (3 - (lg_sl ([.ref (a 0)])).length) Slot.unset).toArray = ls at hl ⊢
  have hl : lv_has ls 3 [(0, .ref (a 0))] := hl
  have hn9 : un u ≤ 6 := hu.2.1
  refine lv_iconst (v := 0) hx hb dX2_soundingChords_0 (by decide) ?_
  refine lv_istore_n (lv' := [(1, .int 0), (0, .ref (a 0))]) hx hb dX2_soundingChords_1 rfl hl (by decide) rfl (fun ls hl => ?_)
  refine lv_iconst (v := 0) hx hb dX2_soundingChords_2 (by decide) ?_
  refine lv_istore_n (lv' := [(2, .int 0), (1, .int 0), (0, .ref (a 0))]) hx hb dX2_soundingChords_3 rfl hl (by decide) rfl (fun ls hl => ?_)
  have loop4 : ∀ (n9 : Nat) (k : Nat), k ≤ un u → un u - k < n9 → ∀ ls : Array Slot, lv_has ls 3 [(0, .ref (a 0)), (1, .int (nI (cnt (snd u) 0 k))), (2, .int (nI k))] → W p l e (headSpec wsX2_soundingChords ({ frames := 3, cells := 0, slots := 0, locals := 70 } : Room)).room s m ([.ref (a 0)] : List Value).toArray below meth c s.heap [] 0 0 (MQ below (vp_Si (fun r8 => r8 = nI (cnt (snd u) 0 (un u)))) ([.ref (a 0)] : List Value).toArray s 0 0 (fun _ => False)) (F0 m 4 ls []) := by
    intro n9
    induction n9 with
    | zero => intro k hk h9 ls hl; exact absurd h9 (by omega)
    | succ n9 ih4 =>
      intro k hk h9 ls hl
      refine lv_iload_n hx hb dX2_soundingChords_4 rfl (lv_at hl 2 rfl) ?_
      refine lv_aload_n hx hb dX2_soundingChords_5 rfl (lv_at hl 0 rfl) ?_
      refine va_get (D := D) (ci := 2) (v := .int (nI (un u))) (C := RX2) (T := TX2) (N := 6) hx hb hts inX2_soundingChords_RX2 hown hK hP 0 rfl rfl 5 (by decide) (hts _ kX2_soundingChords_0) (fun _ h9 => h9) rfl dX2_soundingChords_6 ?_
      refine lv_icmp_ge (tgt := 37) hx hb dX2_soundingChords_9 (by decide) (fun c9 => ?_) (fun c9 => ?_)
      · have n9 : un u ≤ k := (nI_leI (a := un u) (b := k) (by omega) (by omega)).mp c9
        refine lv_iload_n hx hb dX2_soundingChords_37 rfl (lv_at hl 1 rfl) ?_
        exact W.iret (v := nI (cnt (snd u) 0 k)) hx hb hr (fun t ht hW => ⟨nI (cnt (snd u) 0 k), rfl, (by rw [show k = un u by omega]), ht⟩) (fun q hq => absurd hq List.not_mem_nil) dX2_soundingChords_38
      · have n9 : ¬ (un u ≤ k) := fun h9 => c9 ((nI_leI (a := un u) (b := k) (by omega) (by omega)).mpr h9)
        have k6 : k < 6 := by omega
        refine lv_aload_n hx hb dX2_soundingChords_12 rfl (lv_at hl 0 rfl) ?_
        refine va_get (D := D) (ci := 2) (v := .ref (q 0)) (C := RX2) (T := TX2) (N := 6) hx hb hts inX2_soundingChords_RX2 hown hK hP 0 rfl rfl 0 (by decide) (hts _ kX2_soundingChords_1) (fun _ h9 => h9) rfl dX2_soundingChords_13 ?_
        refine lv_aload_n hx hb dX2_soundingChords_16 rfl (lv_at hl 0 rfl) ?_
        refine va_get (D := D) (ci := 2) (v := .ref (a 3)) (C := RX2) (T := TX2) (N := 6) hx hb hts inX2_soundingChords_RX2 hown hK hP 0 rfl rfl 4 (by decide) (hts _ kX2_soundingChords_2) (fun _ h9 => h9) rfl dX2_soundingChords_17 ?_
        refine lv_iload_n hx hb dX2_soundingChords_20 rfl (lv_at hl 2 rfl) ?_
        refine pc_aldq hx hb hK hP 17 2 rfl rfl (k := k) (show k < 6 by omega) (by decide) (v := ca k) rfl dX2_soundingChords_21 ?_
        have hPc := wX_ch hP k6
        refine pc_calli (va_runV (As := [.ref (ca k)]) (rest := []) ⟨hx, hb, hml, hown, hts⟩ (mX1_isTunedTo l D cy q (uh u) (ca k) (ta k) (ul u k) (uz u k) (ut u k) (hu.2.2.1 k k6).1 (hu.2.2.1 k k6).2) (cwV 1 hts gX2_soundingChords_X1_isTunedTo rfl rfl rfl (by decide +kernel) ⟨Nat.le_of_ble_eq_true rfl, Nat.le_of_ble_eq_true rfl⟩) ⟨fun a U g mk q => ⟨q.1, q.2.1, va_K.moved (u := U) (U := U.calling g mk a) (Vm.Alike.refl U.vm) q.2.2⟩, va_recv hK hPc (ci := 1) (q0 := 0) rfl rfl, fun U hU hW => ⟨rfl, by rw [hU]; exact hPc, va_K.moved hW.alike hK⟩⟩ rfl rfl hl.1 rfl (lv_room (Nat.le_of_ble_eq_true rfl)) dX2_soundingChords_22 ⟨Nat.le_of_ble_eq_true rfl, Nat.le_of_ble_eq_true rfl⟩) (fun r9 hr9 => ?_)
        subst hr9
        refine lv_if_eq (tgt := 31) hx hb dX2_soundingChords_25 (by decide) (fun c25 => ?_) (fun c25 => ?_)
        · have r9 : nI (cnt (snd u) 0 k) = nI (cnt (snd u) 0 (k + 1)) := (by simp [cnt, show snd u k = false from bI_0.mp c25])
          rw [r9] at hl
          clear r9
          refine lv_iinc (v := nI (k + 1)) (lv' := [(2, .int (nI (k + 1))), (0, .ref (a 0)), (1, .int (nI (cnt (snd u) 0 (k + 1))))]) hx hb dX2_soundingChords_31 hl (k := 2) rfl ((show (nI k) + Int32.ofInt 1 = (nI k) + 1 from rfl).trans (show (nI k) + 1 = nI (k + 1) from nI_add k 1)) (by decide) rfl (fun ls hl => ?_)
          refine lv_goto (tgt := 4) hx hb dX2_soundingChords_34 (by decide) ?_
          exact ih4 (k + 1) (by omega) (by omega) ls (lv_sub hl [1, 2, 0] rfl)
        · refine lv_iinc (v := nI (cnt (snd u) 0 k + 1)) (lv' := [(1, .int (nI (cnt (snd u) 0 k + 1))), (0, .ref (a 0)), (2, .int (nI k))]) hx hb dX2_soundingChords_28 hl (k := 1) rfl ((show (nI (cnt (snd u) 0 k)) + Int32.ofInt 1 = (nI (cnt (snd u) 0 k)) + 1 from rfl).trans (show (nI (cnt (snd u) 0 k)) + 1 = nI (cnt (snd u) 0 k + 1) from nI_add (cnt (snd u) 0 k) 1)) (by decide) rfl (fun ls hl => ?_)
          have r9 : nI (cnt (snd u) 0 k + 1) = nI (cnt (snd u) 0 (k + 1)) := (by simp [cnt, show snd u k = true from bI_1.mp c25])
          rw [r9] at hl
          clear r9
          refine lv_iinc (v := nI (k + 1)) (lv' := [(2, .int (nI (k + 1))), (1, .int (nI (cnt (snd u) 0 (k + 1)))), (0, .ref (a 0))]) hx hb dX2_soundingChords_31 hl (k := 2) rfl ((show (nI k) + Int32.ofInt 1 = (nI k) + 1 from rfl).trans (show (nI k) + 1 = nI (k + 1) from nI_add k 1)) (by decide) rfl (fun ls hl => ?_)
          refine lv_goto (tgt := 4) hx hb dX2_soundingChords_34 (by decide) ?_
          exact ih4 (k + 1) (by omega) (by omega) ls (lv_sub hl [2, 1, 0] rfl)
  exact loop4 (un u + 1) 0 (Nat.zero_le _) (by omega) ls (lv_sub hl [2, 1, 0] rfl)

theorem inX2_countOf_RX1 : ∀ w ∈ u_ws RX1 TX1 8, w ∈ wsX2_countOf := by decide +kernel
theorem inX2_countOf_RX2 : ∀ w ∈ u_ws RX2 TX2 6, w ∈ wsX2_countOf := by decide +kernel
theorem kX2_countOf_0 : (.fieldLink RX2 10 "WedgeHarps" "now" "LWedgeHarps$Harp;" : Cond) ∈ wsX2_countOf := by decide +kernel
theorem kX2_countOf_1 : (.fieldLink RX2 184 "WedgeHarps$Harp" "hour" "I" : Cond) ∈ wsX2_countOf := by decide +kernel
theorem kX2_countOf_2 : (.fieldLink RX2 33 "WedgeHarps" "told" "I" : Cond) ∈ wsX2_countOf := by decide +kernel
theorem kX2_countOf_3 : (.fieldLink RX2 190 "WedgeHarps$Harp" "swelling" "I" : Cond) ∈ wsX2_countOf := by decide +kernel
theorem kX2_countOf_4 : (.fieldLink RX2 60 "WedgeHarps$Harp" "wedge" "[I" : Cond) ∈ wsX2_countOf := by decide +kernel
theorem kX2_countOf_5 : (.fieldLink RX2 197 "WedgeHarps$Harp" "strain" "[I" : Cond) ∈ wsX2_countOf := by decide +kernel
theorem kX2_countOf_6 : (.fieldLink RX2 200 "WedgeHarps$Harp" "breaks" "[I" : Cond) ∈ wsX2_countOf := by decide +kernel
set_option maxHeartbeats 4000000 in
set_option maxRecDepth 100000 in
theorem mX2_countOf (l : Launch) (D : va_G) (cy : Nat → ClassId) (a q q2 ca ta : Nat → Nat) (u : US) (g : HS) (hu : uOk u) (w : Nat) (hw : w < 8) : Met l yX2_countOf wsX2_countOf ({ frames := 4, cells := 0, slots := 0, locals := 92 } : Room) (va_Pc [.ref (a 0), .int (nI w)] (fun U => va_P D vwCl (wX cy a q q2 ca ta u g) U.heap ∧ va_K D vwCl (TY cy) U)) (vp_Si (fun r8 => r8 = cntOf u w)) 0 0 (fun _ => False) := by
  refine Met.ofW (cc := cX2_countOf) (maxL := 2) (ret := (some .int)) (by decide) rfl ?_
  intro p e s m args below meth c s₁ B hml hv
  obtain ⟨rfl, hP, hK⟩ := hv
  have hx := B.exec
  have hb := B.bytes
  have hr := B.returns
  have hts := atoms_spec (ws := wsX2_countOf) B.pre
  have hown : s.vm.findClass RX2 = some m.cls := findClass_of_methodNamed B.named
  have hlocks := B.notSynchronized
  have hl := lv_entry ([.ref (a 0), .int (nI w)]) (n := 2) (Nat.le_of_ble_eq_true rfl)
  rw [lg_entry_eq]
  generalize (lg_sl ([.ref (a 0), .int (nI w)]) ++ List.replicate (2 - (lg_sl ([.ref (a 0), .int (nI w)])).length) Slot.unset).toArray = ls at hl ⊢
  have hl : lv_has ls 2 [(0, .ref (a 0)), (1, .int (nI w))] := hl
  refine lv_iload_n hx hb dX2_countOf_0 rfl (lv_at hl 1 rfl) ?_
  rcases (show w = 0 ∨ w = 1 ∨ w = 2 ∨ w = 3 ∨ w = 4 ∨ w = 5 ∨ w = 6 ∨ w = 7 by omega) with rfl | rfl | rfl | rfl | rfl | rfl | rfl | rfl
  ·
    refine lv_tableIn (off := 43) (tgt := 44) hx hb dX2_countOf_1 (by decide) (by decide) rfl (by decide) ?_
    refine lv_aload_n hx hb dX2_countOf_44 rfl (lv_at hl 0 rfl) ?_
    refine va_get (D := D) (ci := 2) (v := .ref (q 0)) (C := RX2) (T := TX2) (N := 6) hx hb hts inX2_countOf_RX2 hown hK hP 0 rfl rfl 0 (by decide) (hts _ kX2_countOf_0) (fun _ h9 => h9) rfl dX2_countOf_45 ?_
    refine va_get (D := D) (ci := 1) (v := .int (nI (zh (uh u)))) (C := RX1) (T := TX1) (N := 8) hx hb hts inX2_countOf_RX1 hown hK hP 3 rfl rfl 7 (by decide) (hts _ kX2_countOf_1) (fun _ h9 => h9) rfl dX2_countOf_48 ?_
    exact W.iret (v := nI (zh (uh u))) hx hb hr (fun t ht hW => ⟨nI (zh (uh u)), rfl, rfl, ht⟩) (fun q hq => absurd hq List.not_mem_nil) dX2_countOf_51
  ·
    refine lv_tableIn (off := 51) (tgt := 52) hx hb dX2_countOf_1 (by decide) (by decide) rfl (by decide) ?_
    refine lv_aload_n hx hb dX2_countOf_52 rfl (lv_at hl 0 rfl) ?_
    refine va_get (D := D) (ci := 2) (v := .ref (q 0)) (C := RX2) (T := TX2) (N := 6) hx hb hts inX2_countOf_RX2 hown hK hP 0 rfl rfl 0 (by decide) (hts _ kX2_countOf_0) (fun _ h9 => h9) rfl dX2_countOf_53 ?_
    have hPc := hP.sub (ws' := wH cy q (uh u)) [3, 4, 5, 6, 7, 8, 9] rfl
    refine pc_calli (va_runV (As := []) (rest := []) ⟨hx, hb, hml, hown, hts⟩ (mX1_wholeStrings l D cy q (uh u) hu.1) (cwV 0 hts gX2_countOf_X1_wholeStrings rfl rfl rfl (by decide +kernel) ⟨Nat.le_of_ble_eq_true rfl, Nat.le_of_ble_eq_true rfl⟩) ⟨fun a U g mk q => ⟨q.1, q.2.1, va_K.moved (u := U) (U := U.calling g mk a) (Vm.Alike.refl U.vm) q.2.2⟩, va_recv hK hPc (ci := 1) (q0 := 0) rfl rfl, fun U hU hW => ⟨rfl, by rw [hU]; exact hPc, va_K.moved hW.alike hK⟩⟩ rfl rfl hl.1 rfl (lv_room (Nat.le_of_ble_eq_true rfl)) dX2_countOf_56 ⟨Nat.le_of_ble_eq_true rfl, Nat.le_of_ble_eq_true rfl⟩) (fun r9 hr9 => ?_)
    subst hr9
    exact W.iret (v := sumN (zo (uh u)) 12) hx hb hr (fun t ht hW => ⟨sumN (zo (uh u)) 12, rfl, rfl, ht⟩) (fun q hq => absurd hq List.not_mem_nil) dX2_countOf_59
  ·
    refine lv_tableIn (off := 59) (tgt := 60) hx hb dX2_countOf_1 (by decide) (by decide) rfl (by decide) ?_
    refine lv_aload_n hx hb dX2_countOf_60 rfl (lv_at hl 0 rfl) ?_
    refine va_get (D := D) (ci := 2) (v := .int (nI (un u))) (C := RX2) (T := TX2) (N := 6) hx hb hts inX2_countOf_RX2 hown hK hP 0 rfl rfl 5 (by decide) (hts _ kX2_countOf_2) (fun _ h9 => h9) rfl dX2_countOf_61 ?_
    exact W.iret (v := nI (un u)) hx hb hr (fun t ht hW => ⟨nI (un u), rfl, rfl, ht⟩) (fun q hq => absurd hq List.not_mem_nil) dX2_countOf_64
  ·
    refine lv_tableIn (off := 64) (tgt := 65) hx hb dX2_countOf_1 (by decide) (by decide) rfl (by decide) ?_
    refine lv_aload_n hx hb dX2_countOf_65 rfl (lv_at hl 0 rfl) ?_
    refine pc_calli (va_runV (As := []) (rest := []) ⟨hx, hb, hml, hown, hts⟩ (mX2_soundingChords l D cy a q q2 ca ta u g hu) (cwV 0 hts gX2_countOf_X2_soundingChords rfl rfl rfl (by decide +kernel) ⟨Nat.le_of_ble_eq_true rfl, Nat.le_of_ble_eq_true rfl⟩) ⟨fun a U g mk q => ⟨q.1, q.2.1, va_K.moved (u := U) (U := U.calling g mk a) (Vm.Alike.refl U.vm) q.2.2⟩, va_recv hK hP (ci := 2) (q0 := 0) rfl rfl, fun U hU hW => ⟨rfl, by rw [hU]; exact hP, va_K.moved hW.alike hK⟩⟩ rfl rfl hl.1 rfl (lv_room (Nat.le_of_ble_eq_true rfl)) dX2_countOf_66 ⟨Nat.le_of_ble_eq_true rfl, Nat.le_of_ble_eq_true rfl⟩) (fun r9 hr9 => ?_)
    subst hr9
    exact W.iret (v := nI (cnt (snd u) 0 (un u))) hx hb hr (fun t ht hW => ⟨nI (cnt (snd u) 0 (un u)), rfl, rfl, ht⟩) (fun q hq => absurd hq List.not_mem_nil) dX2_countOf_69
  ·
    refine lv_tableIn (off := 69) (tgt := 70) hx hb dX2_countOf_1 (by decide) (by decide) rfl (by decide) ?_
    refine lv_aload_n hx hb dX2_countOf_70 rfl (lv_at hl 0 rfl) ?_
    refine va_get (D := D) (ci := 2) (v := .ref (q 0)) (C := RX2) (T := TX2) (N := 6) hx hb hts inX2_countOf_RX2 hown hK hP 0 rfl rfl 0 (by decide) (hts _ kX2_countOf_0) (fun _ h9 => h9) rfl dX2_countOf_71 ?_
    refine va_get (D := D) (ci := 1) (v := .int (zl (uh u))) (C := RX1) (T := TX1) (N := 8) hx hb hts inX2_countOf_RX1 hown hK hP 3 rfl rfl 6 (by decide) (hts _ kX2_countOf_3) (fun _ h9 => h9) rfl dX2_countOf_74 ?_
    exact W.iret (v := zl (uh u)) hx hb hr (fun t ht hW => ⟨zl (uh u), rfl, rfl, ht⟩) (fun q hq => absurd hq List.not_mem_nil) dX2_countOf_77
  ·
    refine lv_tableIn (off := 77) (tgt := 78) hx hb dX2_countOf_1 (by decide) (by decide) rfl (by decide) ?_
    refine lv_aload_n hx hb dX2_countOf_78 rfl (lv_at hl 0 rfl) ?_
    refine va_get (D := D) (ci := 2) (v := .ref (q 0)) (C := RX2) (T := TX2) (N := 6) hx hb hts inX2_countOf_RX2 hown hK hP 0 rfl rfl 0 (by decide) (hts _ kX2_countOf_0) (fun _ h9 => h9) rfl dX2_countOf_79 ?_
    refine va_get (D := D) (ci := 1) (v := .ref (q 2)) (C := RX1) (T := TX1) (N := 8) hx hb hts inX2_countOf_RX1 hown hK hP 3 rfl rfl 1 (by decide) (hts _ kX2_countOf_4) (fun _ h9 => h9) rfl dX2_countOf_82 ?_
    have hPc := hP.sub (ws' := [(q 2, .inl (cy 0, 12, .inl (zw (uh u))))]) [5] rfl
    refine pc_calli (va_runS (As := [.ref (q 2)]) (rest := []) ⟨hx, hb, hml, hown, hts⟩ (mX2_sumOf l D cy (q 2) (zw (uh u))) (va_cwS 1 hts gX2_countOf_X2_sumOf rfl rfl rfl (by decide +kernel) ⟨Nat.le_of_ble_eq_true rfl, Nat.le_of_ble_eq_true rfl⟩) ⟨fun a U g mk q => ⟨q.1, q.2.1, va_K.moved (u := U) (U := U.calling g mk a) (Vm.Alike.refl U.vm) q.2.2⟩, fun U hU hW => ⟨rfl, by rw [hU]; exact hPc, va_K.moved hW.alike hK⟩⟩ rfl rfl hl.1 rfl (lv_room (Nat.le_of_ble_eq_true rfl)) dX2_countOf_85 ⟨Nat.le_of_ble_eq_true rfl, Nat.le_of_ble_eq_true rfl⟩) (fun r9 hr9 => ?_)
    subst hr9
    exact W.iret (v := sumN (zw (uh u)) 12) hx hb hr (fun t ht hW => ⟨sumN (zw (uh u)) 12, rfl, rfl, ht⟩) (fun q hq => absurd hq List.not_mem_nil) dX2_countOf_88
  ·
    refine lv_tableIn (off := 88) (tgt := 89) hx hb dX2_countOf_1 (by decide) (by decide) rfl (by decide) ?_
    refine lv_aload_n hx hb dX2_countOf_89 rfl (lv_at hl 0 rfl) ?_
    refine va_get (D := D) (ci := 2) (v := .ref (q 0)) (C := RX2) (T := TX2) (N := 6) hx hb hts inX2_countOf_RX2 hown hK hP 0 rfl rfl 0 (by decide) (hts _ kX2_countOf_0) (fun _ h9 => h9) rfl dX2_countOf_90 ?_
    refine va_get (D := D) (ci := 1) (v := .ref (q 4)) (C := RX1) (T := TX1) (N := 8) hx hb hts inX2_countOf_RX1 hown hK hP 3 rfl rfl 3 (by decide) (hts _ kX2_countOf_5) (fun _ h9 => h9) rfl dX2_countOf_93 ?_
    have hPc := hP.sub (ws' := [(q 4, .inl (cy 0, 12, .inl (zs (uh u))))]) [7] rfl
    refine pc_calli (va_runS (As := [.ref (q 4)]) (rest := []) ⟨hx, hb, hml, hown, hts⟩ (mX2_sumOf l D cy (q 4) (zs (uh u))) (va_cwS 1 hts gX2_countOf_X2_sumOf rfl rfl rfl (by decide +kernel) ⟨Nat.le_of_ble_eq_true rfl, Nat.le_of_ble_eq_true rfl⟩) ⟨fun a U g mk q => ⟨q.1, q.2.1, va_K.moved (u := U) (U := U.calling g mk a) (Vm.Alike.refl U.vm) q.2.2⟩, fun U hU hW => ⟨rfl, by rw [hU]; exact hPc, va_K.moved hW.alike hK⟩⟩ rfl rfl hl.1 rfl (lv_room (Nat.le_of_ble_eq_true rfl)) dX2_countOf_96 ⟨Nat.le_of_ble_eq_true rfl, Nat.le_of_ble_eq_true rfl⟩) (fun r9 hr9 => ?_)
    subst hr9
    exact W.iret (v := sumN (zs (uh u)) 12) hx hb hr (fun t ht hW => ⟨sumN (zs (uh u)) 12, rfl, rfl, ht⟩) (fun q hq => absurd hq List.not_mem_nil) dX2_countOf_99
  ·
    refine lv_tableOut (tgt := 100) hx hb dX2_countOf_1 (by first | exact Or.inl (by decide) | exact Or.inr (by decide)) (by decide) ?_
    refine lv_aload_n hx hb dX2_countOf_100 rfl (lv_at hl 0 rfl) ?_
    refine va_get (D := D) (ci := 2) (v := .ref (q 0)) (C := RX2) (T := TX2) (N := 6) hx hb hts inX2_countOf_RX2 hown hK hP 0 rfl rfl 0 (by decide) (hts _ kX2_countOf_0) (fun _ h9 => h9) rfl dX2_countOf_101 ?_
    refine va_get (D := D) (ci := 1) (v := .ref (q 5)) (C := RX1) (T := TX1) (N := 8) hx hb hts inX2_countOf_RX1 hown hK hP 3 rfl rfl 4 (by decide) (hts _ kX2_countOf_6) (fun _ h9 => h9) rfl dX2_countOf_104 ?_
    have hPc := hP.sub (ws' := [(q 5, .inl (cy 0, 12, .inl (zr (uh u))))]) [8] rfl
    refine pc_calli (va_runS (As := [.ref (q 5)]) (rest := []) ⟨hx, hb, hml, hown, hts⟩ (mX2_sumOf l D cy (q 5) (zr (uh u))) (va_cwS 1 hts gX2_countOf_X2_sumOf rfl rfl rfl (by decide +kernel) ⟨Nat.le_of_ble_eq_true rfl, Nat.le_of_ble_eq_true rfl⟩) ⟨fun a U g mk q => ⟨q.1, q.2.1, va_K.moved (u := U) (U := U.calling g mk a) (Vm.Alike.refl U.vm) q.2.2⟩, fun U hU hW => ⟨rfl, by rw [hU]; exact hPc, va_K.moved hW.alike hK⟩⟩ rfl rfl hl.1 rfl (lv_room (Nat.le_of_ble_eq_true rfl)) dX2_countOf_107 ⟨Nat.le_of_ble_eq_true rfl, Nat.le_of_ble_eq_true rfl⟩) (fun r9 hr9 => ?_)
    subst hr9
    exact W.iret (v := sumN (zr (uh u)) 12) hx hb hr (fun t ht hW => ⟨sumN (zr (uh u)) 12, rfl, rfl, ht⟩) (fun q hq => absurd hq List.not_mem_nil) dX2_countOf_110

theorem xgX2_count_77 : ∀ w ∈ (vx_atS RX2 77 xI xNm).filter goodWord, w ∈ wsX2_count := by decide +kernel
theorem kX2_count_0 : (.classLink RX2 73 xI : Cond) ∈ wsX2_count := by decide +kernel
theorem kX2_count_1 : (.initialized xI : Cond) ∈ wsX2_count := by decide +kernel
set_option maxHeartbeats 4000000 in
set_option maxRecDepth 100000 in
theorem mX2_count (l : Launch) (hst : l.stackTraces = false) (D : va_G) (cy : Nat → ClassId) (a q q2 ca ta : Nat → Nat) (u : US) (g : HS) (hu : uOk u) (v : Int32) : vx_Met l yX2_count wsX2_count ({ frames := 6, cells := 1, slots := 6, locals := 114 } : Room) (va_Pc [.ref (a 0), .int v] (fun U => va_P D vwCl (wX cy a q q2 ca ta u g) U.heap ∧ va_K D vwCl (TY cy) U ∧ xC U U.heap)) (vp_Si (fun r8 => (exCnt v = 0) ∧ r8 = cntOf u (ix v))) (pX (fun E => E = xn (exCnt v) ∧ exCnt v ≠ 0)) 1 6 (fun _ => False) := by
  refine vx_ofW (cc := cX2_count) (maxL := 2) (ret := (some .int)) (by decide) rfl ?_
  intro p e s m args below meth c s₁ B hml hex hv
  obtain ⟨rfl, hP, hK, hX⟩ := hv
  have hx := B.exec
  have hb := B.bytes
  have hr := B.returns
  have hts := atoms_spec (ws := wsX2_count) B.pre
  have hown : s.vm.findClass RX2 = some m.cls := findClass_of_methodNamed B.named
  have hlocks := B.notSynchronized
  have hl := lv_entry ([.ref (a 0), .int v]) (n := 2) (Nat.le_of_ble_eq_true rfl)
  rw [lg_entry_eq]
  generalize (lg_sl ([.ref (a 0), .int v]) ++ List.replicate (2 - (lg_sl ([.ref (a 0), .int v])).length) Slot.unset).toArray = ls at hl ⊢
  have hl : lv_has ls 2 [(0, .ref (a 0)), (1, .int v)] := hl
  refine lv_iload_n hx hb dX2_count_0 rfl (lv_at hl 1 rfl) ?_
  refine lv_if_lt (tgt := 10) hx hb dX2_count_1 (by decide) (fun c1 => ?_) (fun c1 => ?_)
  · exact px_throwS (ik := 73) (is := 138) (ic := 77) (cls := xI) (text := "what is not 0 to 7") hx hb hst hown xf_I (by decide) (hts _ kX2_count_0) (hts _ kX2_count_1) (fun w hw => hts w (xgX2_count_77 w hw)) xb_77 xo_77 hX (by decide) rfl rfl (by rw [hml]; exact hl.1) dX2_count_10 dX2_count_13 dX2_count_14 dX2_count_16 dX2_count_19 hex (Nat.le_of_ble_eq_true rfl) (Nat.le_of_ble_eq_true rfl) (Nat.le_of_ble_eq_true rfl) (Nat.le_of_ble_eq_true rfl) hlocks (by simp [exCnt, xn, isN8, c1]) (Nat.le_of_ble_eq_true rfl) (Nat.le_of_ble_eq_true rfl)
  · refine lv_iload_n hx hb dX2_count_4 rfl (lv_at hl 1 rfl) ?_
    refine lv_bipush (v := 8) hx hb dX2_count_5 (by decide) ?_
    refine lv_icmp_lt (tgt := 20) hx hb dX2_count_7 (by decide) (fun c7 => ?_) (fun c7 => ?_)
    · have hpf : isN8 v = true := by simp [isN8, c1, c7]
      obtain ⟨w, hw, rfl⟩ := isN8_nat hpf
      have f9 : ix (nI w) = w := (ix_nI (show w < 2147483648 by omega))
      refine lv_aload_n hx hb dX2_count_20 rfl (lv_at hl 0 rfl) ?_
      refine lv_iload_n hx hb dX2_count_21 rfl (lv_at hl 1 rfl) ?_
      refine pc_calli (va_runV (As := [.int (nI w)]) (rest := []) ⟨hx, hb, hml, hown, hts⟩ (mX2_countOf l D cy a q q2 ca ta u g hu w hw) (cwV 1 hts gX2_count_X2_countOf rfl rfl rfl (by decide +kernel) ⟨Nat.le_of_ble_eq_true rfl, Nat.le_of_ble_eq_true rfl⟩) ⟨fun a U g mk q => ⟨q.1, q.2.1, va_K.moved (u := U) (U := U.calling g mk a) (Vm.Alike.refl U.vm) q.2.2⟩, va_recv hK hP (ci := 2) (q0 := 0) rfl rfl, fun U hU hW => ⟨rfl, by rw [hU]; exact hP, va_K.moved hW.alike hK⟩⟩ rfl rfl hl.1 rfl (lv_room (Nat.le_of_ble_eq_true rfl)) dX2_count_22 ⟨Nat.le_of_ble_eq_true rfl, Nat.le_of_ble_eq_true rfl⟩) (fun r9 hr9 => ?_)
      subst hr9
      refine vx_ret ?_
      refine W.widen (k := 1) (n := 6) (Nat.le_of_ble_eq_true rfl) (Nat.le_of_ble_eq_true rfl) ?_
      exact W.iret (v := cntOf u w) hx hb hr (fun t ht hW => ⟨cntOf u w, rfl, ⟨(by simp [exCnt, hpf]), by rw [f9]⟩, ht⟩) (fun q hq => absurd hq List.not_mem_nil) dX2_count_25
    · exact px_throwS (ik := 73) (is := 138) (ic := 77) (cls := xI) (text := "what is not 0 to 7") hx hb hst hown xf_I (by decide) (hts _ kX2_count_0) (hts _ kX2_count_1) (fun w hw => hts w (xgX2_count_77 w hw)) xb_77 xo_77 hX (by decide) rfl rfl (by rw [hml]; exact hl.1) dX2_count_10 dX2_count_13 dX2_count_14 dX2_count_16 dX2_count_19 hex (Nat.le_of_ble_eq_true rfl) (Nat.le_of_ble_eq_true rfl) (Nat.le_of_ble_eq_true rfl) (Nat.le_of_ble_eq_true rfl) hlocks (by simp [exCnt, xn, isN8, c1, c7]) (Nat.le_of_ble_eq_true rfl) (Nat.le_of_ble_eq_true rfl)
end
