/-! the law's callers of the class: they catch what it throws -/
theorem pl_ofWH {l : Launch} {y : MethodName} {ws ws' : List Cond} {rm : Room} {Pc : Array Value → State → Prop} {Qc : Array Value → State → Outcome → State → Prop} {mc ms : Nat} {free : Addr → Prop} {cc : ByteArray} {maxL : Nat} {ret : Option FieldType} {hh : List (Nat × Nat × Nat × Nat)}
    (hy : plainName y.cls = true) (hw : ws = Cond.codeWith y cc maxL ret hh :: ws')
    (body : ∀ p e s m args below meth c s₁, BodyLoose p l y (headSpec ws rm) cc maxL ret e s m args below meth c s₁ → c.maxLocals = maxL → Pc args s →
      W p l e (headSpec ws rm).room s m args below meth c s.heap [] 0 0 (MQ below Qc args s mc ms free) (entryFrame m args maxL)) : Met l y ws rm Pc Qc mc ms free := by
  refine MetFree.of_bodyS (code := cc) (maxLocals := maxL) (ret := ret) hy ?_ ?_
  · intro args s m h hn
    obtain ⟨m9, meth, c, hn9, h1, h2, h3, h4, -, h5, h6, -⟩ := Cond.codeWith_spec (atoms_spec (ws := ws) h _ (by rw [hw]; exact List.mem_cons_self))
    cases hn.symm.trans hn9
    exact ⟨meth, c, h1, h2, h3, h4, h5, h6⟩
  · intro p e s m args below meth c s₁ B hml hP _
    have hh0 : s₁.heap = s.heap := by rw [B.state]; rfl
    obtain ⟨t, a1, o, b1, b2, b3⟩ := body p e s m args below meth c s₁ B hml hP s₁ hh0 (Stand.of_body B)
    exact ⟨t, o, a1, b1, b2, b3⟩
theorem xC.cast {U : State} {H : Heap} {C : String} {A : Array Value} (h : xC U H) (hC : C ∈ xExc) : (Cond.castable C C).before A U = true :=
  va_Nw.use rfl (h.2.2.1 C hC _ (List.mem_cons_of_mem _ (List.mem_cons_of_mem _ (List.mem_cons_of_mem _ List.mem_cons_self))))
def xNc (U : State) : Prop := va_Nc xA xI U ∧ va_Nc xT xI U ∧ va_Nc xT xA U ∧ va_Nc xI xA U
theorem xNc.moved {u U : State} (hvm : u.vm.Alike U.vm) (h : xNc u) : xNc U := ⟨h.1.moved hvm, h.2.1.moved hvm, h.2.2.1.moved hvm, h.2.2.2.moved hvm⟩
theorem xI_in : xI ∈ xExc := List.mem_cons_self
theorem xA_in : xA ∈ xExc := List.mem_cons_of_mem _ List.mem_cons_self
theorem xT_in : xT ∈ xExc := List.mem_cons_of_mem _ (List.mem_cons_of_mem _ List.mem_cons_self)
theorem exPush_le (u : US) (k x : Int32) : exPush u k x ≤ 3 := by unfold exPush; (repeat' split) <;> omega
theorem exDraw_le (k x : Int32) : exDraw k x ≤ 2 := by unfold exDraw; (repeat' split) <;> omega
theorem exWea_le (k w d : Int32) : exWea k w d ≤ 2 := by unfold exWea; (repeat' split) <;> omega
theorem exStr_le (k w : Int32) : exStr k w ≤ 1 := by unfold exStr; (repeat' split) <;> omega
theorem exMov_le (k x o : Int32) : exMov k x o ≤ 2 := by unfold exMov; (repeat' split) <;> omega
theorem exCnt_le (k : Int32) : exCnt k ≤ 1 := by unfold exCnt; (repeat' split) <;> omega
theorem exC_le (u : US) (k : Int32) : exC u k ≤ 1 := by unfold exC; (repeat' split) <;> omega
theorem exPass_le (k : Int32) : exPass k ≤ 1 := by unfold exPass; (repeat' split) <;> omega
theorem exFor_le (k x : Int32) : exFor k x ≤ 2 := by unfold exFor; (repeat' split) <;> omega
theorem exS_le (k : Int32) : exS k ≤ 1 := by unfold exS; (repeat' split) <;> omega
theorem exCh_le (u : US) (k a b c d : Int32) : exCh u k a b c d ≤ 3 := by unfold exCh; (repeat' split) <;> omega
theorem updL_at {f : Nat → Int64} {x : Int64} : vp_updL f (0 : Int32).toNatClampNeg x 0 = x := by
  show vp_updL f 0 x 0 = x
  simp [vp_updL]
theorem bI_one {b : Bool} (h : ¬ bI b = 0) : bI b = 1 := by cases b <;> simp [bI] at h ⊢
