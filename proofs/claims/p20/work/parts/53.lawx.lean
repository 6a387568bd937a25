/-! what stands through the law -/
def LX (p : Program) (l : Launch) (s : State) (m : MethodId) (c : Code) (b L : Nat) (xs : Nat → Int32) (D : va_G) (cy : Nat → ClassId) (A : Nat → Prop) : Prop :=
  p.tables.exec = Jvm.exec ∧ c.code = cL_law ∧ c.maxLocals = 26 ∧ s.vm.findClass RL = some m.cls ∧ (∀ w ∈ lw_tbl, w.before #[Value.ref b] s = true) ∧ va_X b L xs s s.heap ∧ b < s.heap.size ∧ L ≤ 260 ∧ l.stackTraces = false ∧ va_K D vwCl (TY cy) s ∧ vKP cy s ∧ (∀ q : Nat, s.heap.size ≤ q → A q) ∧ xCA A s s.heap ∧ ¬ A b
section ROWW
variable {p : Program} {l : Launch} {e : Env} {R : Room} {s : State} {m : MethodId} {args : Array Value} {below : List Frame} {meth : Method} {c : Code} {H : Heap} {locs : List Loc} {C S : Nat} {Q : State → Prop}
variable {cc : ByteArray} {pc : Nat} {ls : Array Slot} {rest st9 : List Value} {D : va_G} {A : Nat → Prop} {P X : va_W} {cy : Nat → ClassId} {nL : Nat} {own : String} {Ts : List Cond} {n : Nat} {H0 : Heap}
theorem row_aldW {r : Nat → Nat} {k j : Nat} {F : Nat → Nat → Int32} (hexec : p.tables.exec = Jvm.exec) (hb : c.code = cc) (hK : va_K D vwCl (TY cy) s) (hP : va_P D vwCl ((P ++ rows12 cy r n F) ++ X) H) (hk : k < 12) (hj : j < n) (hn : n < 2 ^ 31) (hdg : decode cc pc = .ok (.iaload, 1))
    (kk : W p l e R s m args below meth c H locs C S Q (F0 m (pc + 1) ls (.int (F k j) :: rest))) : W p l e R s m args below meth c H locs C S Q (F0 m pc ls (.int (nI j) :: .ref (r k) :: rest)) :=
  row_ald (P := P) (X := X) hexec hb hK (by rw [← List.append_assoc]; exact hP) hk hj hn hdg kk
theorem row_astW {r : Nat → Nat} {k j : Nat} {F : Nat → Nat → Int32} (hexec : p.tables.exec = Jvm.exec) (hb : c.code = cc) (hK : va_K D vwCl (TY cy) s) (hP : va_P D vwCl ((P ++ rows12 cy r n F) ++ X) H) (hD : va_D A ((P ++ rows12 cy r n F) ++ X)) (hS : va_S A H0 H locs) (hk : k < 12) (hj : j < n) (hn : n < 2 ^ 31) {x : Int32} (hdg : decode cc pc = .ok (.iastore, 1))
    (kk : ∀ (H1 : Heap) (locs1 : List Loc), va_P D vwCl ((P ++ rows12 cy r n (rset F k j x)) ++ X) H1 → va_D A ((P ++ rows12 cy r n (rset F k j x)) ++ X) → va_S A H0 H1 locs1 → W p l e R s m args below meth c H1 locs1 C S Q (F0 m (pc + 1) ls rest)) : W p l e R s m args below meth c H locs C S Q (F0 m pc ls (.int x :: .int (nI j) :: .ref (r k) :: rest)) :=
  row_ast (P := P) (X := X) hexec hb hK (by rw [← List.append_assoc]; exact hP) (by rw [← List.append_assoc]; exact hD) hS hk hj hn hdg (fun H1 locs1 h1 h2 h3 => kk H1 locs1 (by rw [← List.append_assoc] at h1; exact h1) (by rw [← List.append_assoc] at h2; exact h2) h3)
end ROWW
theorem ct_0 (u : US) : cntOf u (ix 0) = nI (zh (uh u)) := by rw [show ix 0 = 0 from ix_nI (j := 0) (by decide)]; rfl
theorem ct_1 (u : US) : cntOf u (ix 1) = sumN (zo (uh u)) 12 := by rw [show ix 1 = 1 from ix_nI (j := 1) (by decide)]; rfl
theorem ct_2 (u : US) : cntOf u (ix 2) = nI (un u) := by rw [show ix 2 = 2 from ix_nI (j := 2) (by decide)]; rfl
theorem ct_4 (u : US) : cntOf u (ix 4) = zl (uh u) := by rw [show ix 4 = 4 from ix_nI (j := 4) (by decide)]; rfl
theorem ct_5 (u : US) : cntOf u (ix 5) = sumN (zw (uh u)) 12 := by rw [show ix 5 = 5 from ix_nI (j := 5) (by decide)]; rfl
theorem ct_6 (u : US) : cntOf u (ix 6) = sumN (zs (uh u)) 12 := by rw [show ix 6 = 6 from ix_nI (j := 6) (by decide)]; rfl
theorem exPass_1 : exPass 1 = 0 := by decide
/-- the length of a chord's row, which lies somewhere behind -/
theorem pc_alenC {p : Program} {l : Launch} {e : Env} {R : Room} {s : State} {m : MethodId} {args : Array Value} {below : List Frame} {meth : Method} {c : Code} {H : Heap} {locs : List Loc} {C S : Nat} {Q : State → Prop} {cc : ByteArray} {pc : Nat} {ls : Array Slot} {rest : List Value} {D : va_G} {ws : va_W} {cy : Nat → ClassId} {a n : Nat} {f : Nat → Int32} (hexec : p.tables.exec = Jvm.exec) (hb : c.code = cc) (hK : va_K D vwCl (TY cy) s) (hP : va_P D vwCl ws H) (hm : ((a, .inl (cy 0, n, .inl f)) : Nat × va_E) ∈ ws) (hdg : decode cc pc = .ok (.arraylength, 1))
    (kk : W p l e R s m args below meth c H locs C S Q (F0 m (pc + 1) ls (.int (nI n) :: rest))) : W p l e R s m args below meth c H locs C S Q (F0 m pc ls (.ref a :: rest)) := by
  obtain ⟨q0, hq0⟩ := List.getElem?_of_mem hm
  exact va_alen hexec hb hK hP q0 0 hq0 rfl (v := nI n) rfl hdg kk
section SAMEC
variable {p : Program} {l : Launch} {e : Env} {R : Room} {s : State} {m : MethodId} {args : Array Value} {below : List Frame} {meth : Method} {c : Code} {H : Heap} {locs : List Loc} {C S : Nat} {Q : State → Prop}
variable {cc : ByteArray} {pc : Nat} {ls : Array Slot} {rest st9 : List Value} {D : va_G} {A : Nat → Prop} {cy : Nat → ClassId} {nL : Nat} {own : String} {Ts : List Cond} {idx : Nat}
variable {b : Nat} {sa st ch a q q2 ca ta : Nat → Nat} {u : US} {g : HS}
/-- in the end all is as by hand -/
theorem same_call (hst : l.stackTraces = false) (I : INV u) (hP : va_P D vwCl ([] ++ wAll cy b sa st ch a q q2 ca ta u g) H) (hD : va_D A ([] ++ wAll cy b sa st ch a q q2 ca ta u g)) (hS : va_S A s.heap H locs) (hA : ∀ q, s.heap.size ≤ q → A q) (hK : va_K D vwCl (TY cy) s) (hkp : vKP cy s) (hXA : xCA A s s.heap) (S9 : CallFix p m c cc nL s args Ts own)
    (hc : CallW R s args own RX3 idx yX3_isSame cX3_isSame 7 (some .boolean) wsX3_isSame ({ frames := 12, cells := 200, slots := 1200, locals := 300 } : Room) 200 1200 1) (hst9 : st9 = [.ref (a 0), .ref b] ++ rest) (hz : ls.size = nL) (hw8 : (rest.map fun v => v.category).sum ≤ 8) (hdg : decode cc pc = .ok (.invokevirtual idx, 3)) (hr : C + 200 ≤ R.cells ∧ S + 1200 ≤ R.slots)
    (kk : ∀ (H1 : Heap) (locs1 : List Loc), va_S A s.heap H1 locs1 → W p l e R s m args below meth c H1 locs1 (C + 200) (S + 1200) Q (F0 m (pc + 3) ls (.int 1 :: rest))) :
    W p l e R s m args below meth c H locs C S Q (F0 m pc ls st9) := by
  have hP : va_P D vwCl (wAll cy b sa st ch a q q2 ca ta u g) H := hP
  have hD : va_D A (wAll cy b sa st ch a q q2 ca ta u g) := hD
  have hFc := all_F hD hS hA
  have hXk : xCA (va_A (wAll cy b sa st ch a q q2 ca ta u g) H.size) s H := (hXA.go hS).narrow hFc
  refine va_calli (va_runV (As := [.ref (a 0)]) (rest := rest) S9 (mX3_isSame l hst D cy H.size b sa st ch a q q2 ca ta u g I) hc ⟨fun a U g mk q => ⟨q.1, q.2.1, q.2.2.1, va_K.moved (u := U) (U := U.calling g mk a) (Vm.Alike.refl U.vm) q.2.2.2.1, q.2.2.2.2.1, vKP.warm (U := U.calling g mk a) (State.WarmedH.refl U) q.2.2.2.2.2.1, xCA.warm (U := U.calling g mk a) (State.WarmedH.refl U) q.2.2.2.2.2.2⟩, va_recv hK hP (ci := 3) (q0 := 0) rfl rfl, fun U hU hW => ⟨rfl, by rw [hU], by rw [hU]; exact hP, va_K.moved hW.alike hK, hD.weaken (fun _ _ _ _ => trivial), hkp.warm hW, by rw [hU]; exact hXk.warm hW⟩⟩ rfl rfl hz hst9 (lv_room hw8) hdg hr) hS (fun q _ h => hFc q h) hFc (fun r9 u9 t9 H1 locs1 ht9 hvm9 hw9 hB9 hz9 hk9 hS1 => ?_)
  subst hw9
  exact kk H1 locs1 hS1
end SAMEC
