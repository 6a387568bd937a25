/-! the simulation's world: the object and what it holds, its twelve rows; behind them anything -/
abbrev wS5 (cy : Nat → ClassId) (b : Nat) (sa st ch : Nat → Nat) (n : Nat) (w d : Nat → Int32) (hr sl : Int32) : va_W := [(b, .inr (3, [.ref (sa 0), .ref (sa 1), .ref (sa 2), .ref (sa 3), .int hr, .int sl])), (sa 0, .inl (cy 4, 12, qf (fun i => some (st i)))), (sa 1, .inl (cy 4, n, qf (fun i => some (ch i)))), (sa 2, .inl (cy 0, 12, .inl w)), (sa 3, .inl (cy 0, 12, .inl d))]
def rowS (h : HS) (k : Nat) : Nat → Int32 := fun j => match j with
  | 0 => zb h k
  | 1 => zw h k
  | 2 => zd h k
  | 3 => zs h k
  | 4 => zo h k
  | 5 => zr h k
  | _ => 0
abbrev wSu (cy : Nat → ClassId) (b : Nat) (sa st ch : Nat → Nat) (u : US) : va_W := wS5 cy b sa st ch (un u) (uw u) (ud u) (nI (zh (uh u))) (zl (uh u))
abbrev wSr (cy : Nat → ClassId) (st : Nat → Nat) (u : US) : va_W := rows12 cy st 6 (rowS (uh u))
abbrev wSm (cy : Nat → ClassId) (b : Nat) (sa st ch : Nat → Nat) (u : US) : va_W := wSu cy b sa st ch u ++ (wSr cy st u ++ [])
/-- the rows of the chords that were told -/
def rowC (u : US) (i : Nat) : Nat → Int32 := fun j => if j = 0 then nI (ul u i) else ut u i (j - 1)
def chT (cy : Nat → ClassId) (ch : Nat → Nat) (u : US) : va_W := (List.range (un u)).map (fun i => (ch i, .inl (cy 0, uz u i + 1, .inl (rowC u i))))
theorem chT_mem {cy : Nat → ClassId} {ch : Nat → Nat} {u : US} {i : Nat} (h : i < un u) : ((ch i, .inl (cy 0, uz u i + 1, .inl (rowC u i))) : Nat × va_E) ∈ chT cy ch u := List.mem_map.mpr ⟨i, List.mem_range.mpr h, rfl⟩
/-- one number of a row said anew -/
def putS (h : HS) (k j : Nat) (v : Int32) : HS := match j with
  | 0 => (upd (zb h) k v, zw h, zd h, zs h, zr h, zo h, zl h, zh h)
  | 1 => (zb h, upd (zw h) k v, zd h, zs h, zr h, zo h, zl h, zh h)
  | 2 => (zb h, zw h, upd (zd h) k v, zs h, zr h, zo h, zl h, zh h)
  | 3 => (zb h, zw h, zd h, upd (zs h) k v, zr h, zo h, zl h, zh h)
  | 4 => (zb h, zw h, zd h, zs h, zr h, upd (zo h) k v, zl h, zh h)
  | _ => (zb h, zw h, zd h, zs h, upd (zr h) k v, zo h, zl h, zh h)
theorem rset_put (h : HS) (k : Nat) {j : Nat} (hj : j < 6) (v : Int32) : rset (rowS h) k j v = rowS (putS h k j v) := by
  funext i i2
  rcases (show j = 0 ∨ j = 1 ∨ j = 2 ∨ j = 3 ∨ j = 4 ∨ j = 5 by omega) with rfl | rfl | rfl | rfl | rfl | rfl <;>
  · unfold rset
    by_cases hi : i = k
    · subst hi
      rw [if_pos rfl]
      unfold rowS upd
      rcases (show i2 = 0 ∨ i2 = 1 ∨ i2 = 2 ∨ i2 = 3 ∨ i2 = 4 ∨ i2 = 5 ∨ ∃ z, i2 = z + 6 from by
        rcases Nat.lt_or_ge i2 6 with z | z
        · omega
        · exact Or.inr (Or.inr (Or.inr (Or.inr (Or.inr (Or.inr ⟨i2 - 6, by omega⟩)))))) with rfl | rfl | rfl | rfl | rfl | rfl | ⟨z, rfl⟩ <;> simp [putS, upd, zb, zw, zd, zs, zr, zo]
    · rw [if_neg hi]
      unfold rowS
      rcases (show i2 = 0 ∨ i2 = 1 ∨ i2 = 2 ∨ i2 = 3 ∨ i2 = 4 ∨ i2 = 5 ∨ ∃ z, i2 = z + 6 from by
        rcases Nat.lt_or_ge i2 6 with z | z
        · omega
        · exact Or.inr (Or.inr (Or.inr (Or.inr (Or.inr (Or.inr ⟨i2 - 6, by omega⟩)))))) with rfl | rfl | rfl | rfl | rfl | rfl | ⟨z, rfl⟩ <;> simp [putS, upd, zb, zw, zd, zs, zr, zo, hi]
/-- what a throw needs, kept through writes in A -/
def xCA (A : Nat → Prop) (U : State) (H : Heap) : Prop := vx_Zq Bundle.tN "UNASSIGNED_STACK" Bundle.steD A U H ∧ vx_Zq Bundle.tN "SUPPRESSED_SENTINEL" Bundle.listD A U H ∧ (∀ C ∈ xExc, ∀ w ∈ xBad C, va_Nw w U) ∧ (∀ kt ∈ xStr, ∃ a9 : Nat, vk_R RX2 kt.1 kt.2 a9 U)
theorem xCA.warm {A : Nat → Prop} {s U : State} {H : Heap} (hW : s.WarmedH U.vm) (h : xCA A s H) : xCA A U H :=
  ⟨vx_Zq.moved hW.alike h.1, vx_Zq.moved hW.alike h.2.1, fun C hC => xBad_warm hW (h.2.2.1 C hC), fun kt hk => (h.2.2.2 kt hk).imp fun _ q => vk_R.warm hW q⟩
theorem xCA.kept {A : Nat → Prop} {U : State} {H H1 : Heap} (h : xCA A U H) (hq : ∀ a : Nat, a < H.size → ¬ A a → H1[a]? = H[a]?) : xCA A U H1 :=
  ⟨vx_Zq.kept h.1 hq, vx_Zq.kept h.2.1 hq, h.2.2⟩
theorem xCA.narrow {A B : Nat → Prop} {U : State} {H : Heap} (h : xCA A U H) (hAB : ∀ q, B q → A q) : xCA B U H := ⟨vx_Zq.narrow h.1 hAB, vx_Zq.narrow h.2.1 hAB, h.2.2⟩
theorem xCA.out {A : Nat → Prop} {U : State} {H : Heap} (h : xCA A U H) : xC U H := ⟨vx_Zq.narrow h.1 (fun _ z => z.elim), vx_Zq.narrow h.2.1 (fun _ z => z.elim), h.2.2⟩
theorem xCA.go {A : Nat → Prop} {s : State} {H : Heap} {locs : List Loc} (h : xCA A s s.heap) (hS : va_S A s.heap H locs) : xCA A s H := h.kept (fun q h1 h2 => hS.2.1 q h1 h2)
section SIMC
variable {p : Program} {l : Launch} {e : Env} {R : Room} {s : State} {m : MethodId} {args : Array Value} {below : List Frame} {meth : Method} {c : Code} {H : Heap} {locs : List Loc} {C S : Nat} {Q : State → Prop}
variable {cc : ByteArray} {pc : Nat} {ls : Array Slot} {rest st As : List Value} {D : va_G} {A : Nat → Prop} {Lc S5 S12 X Y T : va_W} {cy : Nat → ClassId} {nL : Nat} {own : String} {Ts : List Cond}
variable {y : MethodName} {ws : List Cond} {rm : Room} {mc ms n idx maxL : Nat} {bytes : ByteArray} {ret : Option FieldType} {b : Nat} {fs : List Value}
theorem row_aldS {r : Nat → Nat} {k j : Nat} {F : Nat → Nat → Int32} (hexec : p.tables.exec = Jvm.exec) (hb : c.code = cc) (hK : va_K D vwCl (TY cy) s) (hP : va_P D vwCl (Lc ++ (S5 ++ (rows12 cy r n F ++ X))) H) (hk : k < 12) (hj : j < n) (hn : n < 2 ^ 31) (hdg : decode cc pc = .ok (.iaload, 1))
    (kk : W p l e R s m args below meth c H locs C S Q (F0 m (pc + 1) ls (.int (F k j) :: rest))) : W p l e R s m args below meth c H locs C S Q (F0 m pc ls (.int (nI j) :: .ref (r k) :: rest)) :=
  row_ald (P := Lc ++ S5) hexec hb hK (by rw [List.append_assoc]; exact hP) hk hj hn hdg kk
theorem row_astS {r : Nat → Nat} {k j : Nat} {F : Nat → Nat → Int32} {H0 : Heap} (hexec : p.tables.exec = Jvm.exec) (hb : c.code = cc) (hK : va_K D vwCl (TY cy) s) (hP : va_P D vwCl (Lc ++ (S5 ++ (rows12 cy r n F ++ X))) H) (hD : va_D A (Lc ++ (S5 ++ (rows12 cy r n F ++ X)))) (hS : va_S A H0 H locs) (hk : k < 12) (hj : j < n) (hn : n < 2 ^ 31) {x : Int32} (hdg : decode cc pc = .ok (.iastore, 1))
    (kk : ∀ (H1 : Heap) (locs1 : List Loc), va_P D vwCl (Lc ++ (S5 ++ (rows12 cy r n (rset F k j x) ++ X))) H1 → va_D A (Lc ++ (S5 ++ (rows12 cy r n (rset F k j x) ++ X))) → va_S A H0 H1 locs1 → W p l e R s m args below meth c H1 locs1 C S Q (F0 m (pc + 1) ls rest)) : W p l e R s m args below meth c H locs C S Q (F0 m pc ls (.int x :: .int (nI j) :: .ref (r k) :: rest)) :=
  row_ast (P := Lc ++ S5) hexec hb hK (by rw [List.append_assoc]; exact hP) (by rw [List.append_assoc]; exact hD) hS hk hj hn hdg (fun H1 locs1 h1 h2 h3 => kk H1 locs1 (by rw [List.append_assoc] at h1; exact h1) (by rw [List.append_assoc] at h2; exact h2) h3)
theorem simP (hP : va_P D vwCl (Lc ++ (S5 ++ (S12 ++ X))) H) (hY : ∀ x ∈ Y, x ∈ X) : va_P D vwCl (S5 ++ (S12 ++ Y)) H := by
  refine pM_iff.mpr (fun x hx => pM_iff.mp hP x (List.mem_append_right _ ?_))
  rcases List.mem_append.mp hx with z | z
  · exact List.mem_append_left _ z
  · rcases List.mem_append.mp z with z | z
    · exact List.mem_append_right _ (List.mem_append_left _ z)
    · exact List.mem_append_right _ (List.mem_append_right _ (hY x z))
theorem no_mem {X : va_W} : ∀ x ∈ ([] : va_W), x ∈ X := fun _ h => absurd h List.not_mem_nil
/-- a method of the simulation that leaves the heap -/
theorem sim_p {val : Int32} (hP : va_P D vwCl (Lc ++ (S5 ++ (S12 ++ X))) H) (hK : va_K D vwCl (TY cy) s) (hkp : vKP cy s) (S9 : CallFix p m c cc nL s args Ts own)
    (hM : Met l y ws rm (va_Pc (.ref b :: As) (fun U => va_P D vwCl (S5 ++ (S12 ++ Y)) U.heap ∧ va_K D vwCl (TY cy) U ∧ vKP cy U)) (vp_Si (fun r8 => r8 = val)) 0 0 (fun _ => False))
    (hY : ∀ x ∈ Y, x ∈ X) (h0 : S5[0]? = some (b, .inr (3, fs))) (hc : CallW R s args own RX3 idx y bytes maxL ret ws rm 0 0 n) (hn : As.length = n) (hst : st = As.reverse ++ .ref b :: rest) (hz : ls.size = nL) (hw8 : (rest.map fun v => v.category).sum ≤ 8) (hdg : decode cc pc = .ok (.invokevirtual idx, 3)) (hr : C ≤ R.cells ∧ S ≤ R.slots)
    (kk : W p l e R s m args below meth c H locs C S Q (F0 m (pc + 3) ls (.int val :: rest))) : W p l e R s m args below meth c H locs C S Q (F0 m pc ls st) := by
  have hPc := simP hP hY
  refine pc_calli (va_runV (As := As) (rest := rest) S9 hM hc ⟨fun a U g mk q => ⟨q.1, q.2.1, va_K.moved (u := U) (U := U.calling g mk a) (Vm.Alike.refl U.vm) q.2.2.1, vKP.warm (U := U.calling g mk a) (State.WarmedH.refl U) q.2.2.2⟩, va_recv hK hPc (ci := 3) (q0 := 0) rfl (at_R h0), fun U hU hW => ⟨rfl, by rw [hU]; exact hPc, va_K.moved hW.alike hK, hkp.warm hW⟩⟩ rfl hn hz hst (lv_room hw8) hdg ⟨hr.1, hr.2⟩) (fun r9 hr9 => ?_)
  subst hr9
  exact kk
/-- one that writes the simulation's own cells -/
theorem sim_w {S5' S12' : va_W} {H0 : Heap} {val : Int32} (hP : va_P D vwCl (Lc ++ (S5 ++ (S12 ++ X))) H) (hD : va_D A (Lc ++ (S5 ++ (S12 ++ X)))) (hS : va_S A H0 H locs) (hA : ∀ q, H0.size ≤ q → A q) (hK : va_K D vwCl (TY cy) s) (hkp : vKP cy s) (S9 : CallFix p m c cc nL s args Ts own)
    (hM : Met l y ws rm (va_Pc (.ref b :: As) (fun U => U.heap.size = H.size ∧ va_P D vwCl (S5 ++ (S12 ++ [])) U.heap ∧ va_K D vwCl (TY cy) U ∧ va_D (fun _ => True) (S5 ++ (S12 ++ [])) ∧ vKP cy U)) (va_Qi (fun (r8 : Int32) (_ : Unit) => r8 = val) (fun (_ : Unit) t => va_P D vwCl (S5' ++ (S12' ++ [])) t.heap ∧ va_D (va_A (S5 ++ (S12 ++ [])) H.size) (S5' ++ (S12' ++ []))) (va_A (S5 ++ (S12 ++ [])) H.size)) mc ms (va_A (S5 ++ (S12 ++ [])) H.size))
    (h0 : S5[0]? = some (b, .inr (3, fs))) (hc : CallW R s args own RX3 idx y bytes maxL ret ws rm mc ms n) (hn : As.length = n) (hst : st = As.reverse ++ .ref b :: rest) (hz : ls.size = nL) (hw8 : (rest.map fun v => v.category).sum ≤ 8) (hdg : decode cc pc = .ok (.invokevirtual idx, 3)) (hr : C + mc ≤ R.cells ∧ S + ms ≤ R.slots)
    (kk : ∀ (H1 : Heap) (locs1 : List Loc), va_P D vwCl (Lc ++ (S5' ++ (S12' ++ X))) H1 → va_D A (Lc ++ (S5' ++ (S12' ++ X))) → va_S A H0 H1 locs1 → W p l e R s m args below meth c H1 locs1 (C + mc) (S + ms) Q (F0 m (pc + 3) ls (.int val :: rest))) : W p l e R s m args below meth c H locs C S Q (F0 m pc ls st) := by
  have ew : ∀ a b : va_W, Lc ++ (a ++ (b ++ X)) = Lc ++ ((a ++ (b ++ [])) ++ X) := fun a b => by simp only [List.append_assoc, List.nil_append]
  rw [ew] at hP hD
  have hPc := pM_P hP
  have hDc := pM_D hD
  have hFc := pM_F hD hS hA
  refine va_calli (va_runV (As := As) (rest := rest) S9 hM hc ⟨fun a U g mk q => ⟨q.1, q.2.1, q.2.2.1, va_K.moved (u := U) (U := U.calling g mk a) (Vm.Alike.refl U.vm) q.2.2.2.1, q.2.2.2.2.1, vKP.warm (U := U.calling g mk a) (State.WarmedH.refl U) q.2.2.2.2.2⟩, va_recv hK hPc (ci := 3) (q0 := 0) rfl (at_R h0), fun U hU hW => ⟨rfl, by rw [hU], by rw [hU]; exact hPc, va_K.moved hW.alike hK, hDc.weaken (fun _ _ _ _ => trivial), hkp.warm hW⟩⟩ rfl hn hz hst (lv_room hw8) hdg hr) hS (fun q _ h => hFc q h) hFc (fun r9 u9 t9 H1 locs1 ht9 hvm9 hw9 hB9 hz9 hk9 hS1 => ?_)
  obtain ⟨hP1, hD1⟩ := hB9
  rw [ht9] at hP1
  obtain ⟨hP2, hD2⟩ := pM_J hP hD hk9 hFc hP1 hD1
  subst hw9
  rw [← ew] at hP2 hD2
  exact kk H1 locs1 hP2 hD2 hS1
variable {a q q2 ca ta : Nat → Nat} {u : US} {g : HS}
/-- a method of the class that leaves the heap and could throw, but doesn't -/
theorem cls_p {ok : Prop} {val : Int32} {xe : String → Prop} (hP : va_P D vwCl (Lc ++ (S5 ++ (S12 ++ (wX cy a q q2 ca ta u g ++ T)))) H) (hS : va_S A s.heap H locs) (hK : va_K D vwCl (TY cy) s) (hXA : xCA A s s.heap) (S9 : CallFix p m c cc nL s args Ts own)
    (hM : vx_Met l y ws rm (va_Pc (.ref (a 0) :: As) (fun U => va_P D vwCl (wX cy a q q2 ca ta u g) U.heap ∧ va_K D vwCl (TY cy) U ∧ xC U U.heap)) (vp_Si (fun r8 => ok ∧ r8 = val)) (pX xe) mc ms (fun _ => False)) (hxe : ∀ E, xe E → False)
    (hc : CallW R s args own RX2 idx y bytes maxL ret ws rm mc ms n) (hn : As.length = n) (hst : st = As.reverse ++ .ref (a 0) :: rest) (hz : ls.size = nL) (hw8 : (rest.map fun v => v.category).sum ≤ 8) (hdg : decode cc pc = .ok (.invokevirtual idx, 3)) (hr : C + mc ≤ R.cells ∧ S + ms ≤ R.slots)
    (kk : W p l e R s m args below meth c H locs (C + mc) (S + ms) Q (F0 m (pc + 3) ls (.int val :: rest))) : W p l e R s m args below meth c H locs C S Q (F0 m pc ls st) := by
  have ew : Lc ++ (S5 ++ (S12 ++ (wX cy a q q2 ca ta u g ++ T))) = (Lc ++ (S5 ++ S12)) ++ (wX cy a q q2 ca ta u g ++ T) := by simp only [List.append_assoc]
  rw [ew] at hP
  have hPc := pM_P hP
  have hX : xC s H := (hXA.go hS).out
  refine px_calli (vx_runV (As := As) (rest := rest) S9 hM hc ⟨fun a U g mk q => ⟨q.1, q.2.1, va_K.moved (u := U) (U := U.calling g mk a) (Vm.Alike.refl U.vm) q.2.2.1, xC.warm (State.WarmedH.refl U) q.2.2.2⟩, va_recv hK hPc (ci := 2) (q0 := 0) rfl rfl, fun U hU hW => ⟨rfl, by rw [hU]; exact hPc, va_K.moved hW.alike hK, (show xC U U.heap by rw [hU]; exact hX.warm hW)⟩⟩ rfl hn hz hst (lv_room hw8) hdg hr) (fun E9 ce9 q9 H9 hE9 _ _ _ _ _ => absurd hE9 (hxe E9)) (fun r9 hw9 => ?_)
  obtain ⟨-, hw9⟩ := hw9
  subst hw9
  exact kk
/-- one that writes the class's own cells and could throw, but doesn't -/
theorem cls_w {Z : Type} {uf : Z → US} {gf : Z → HS} {ok : Prop} {val : Int32} {xe : String → Prop} (hP : va_P D vwCl (Lc ++ (S5 ++ (S12 ++ (wX cy a q q2 ca ta u g ++ T)))) H) (hD : va_D A (Lc ++ (S5 ++ (S12 ++ (wX cy a q q2 ca ta u g ++ T))))) (hS : va_S A s.heap H locs) (hA : ∀ q, s.heap.size ≤ q → A q) (hK : va_K D vwCl (TY cy) s) (hXA : xCA A s s.heap) (S9 : CallFix p m c cc nL s args Ts own)
    (hM : vx_Met l y ws rm (va_Pc (.ref (a 0) :: As) (fun U => U.heap.size = H.size ∧ va_P D vwCl (wX cy a q q2 ca ta u g) U.heap ∧ va_K D vwCl (TY cy) U ∧ va_D (fun _ => True) (wX cy a q q2 ca ta u g) ∧ xC U U.heap)) (va_Qi (fun (r8 : Int32) (_ : Z) => ok ∧ r8 = val) (fun (z : Z) t => va_P D vwCl (wX cy a q q2 ca ta (uf z) (gf z)) t.heap ∧ va_D (va_A (wX cy a q q2 ca ta u g) H.size) (wX cy a q q2 ca ta (uf z) (gf z))) (va_A (wX cy a q q2 ca ta u g) H.size)) (pX xe) mc ms (va_A (wX cy a q q2 ca ta u g) H.size)) (hxe : ∀ E, xe E → False)
    (hc : CallW R s args own RX2 idx y bytes maxL ret ws rm mc ms n) (hn : As.length = n) (hst : st = As.reverse ++ .ref (a 0) :: rest) (hz : ls.size = nL) (hw8 : (rest.map fun v => v.category).sum ≤ 8) (hdg : decode cc pc = .ok (.invokevirtual idx, 3)) (hr : C + mc ≤ R.cells ∧ S + ms ≤ R.slots)
    (kk : ∀ (z : Z) (H1 : Heap) (locs1 : List Loc), va_P D vwCl (Lc ++ (S5 ++ (S12 ++ (wX cy a q q2 ca ta (uf z) (gf z) ++ T)))) H1 → va_D A (Lc ++ (S5 ++ (S12 ++ (wX cy a q q2 ca ta (uf z) (gf z) ++ T)))) → va_S A s.heap H1 locs1 → W p l e R s m args below meth c H1 locs1 (C + mc) (S + ms) Q (F0 m (pc + 3) ls (.int val :: rest))) : W p l e R s m args below meth c H locs C S Q (F0 m pc ls st) := by
  have ew : ∀ M : va_W, Lc ++ (S5 ++ (S12 ++ (M ++ T))) = (Lc ++ (S5 ++ S12)) ++ (M ++ T) := fun M => by simp only [List.append_assoc]
  rw [ew] at hP hD
  have hPc := pM_P hP
  have hDc := pM_D hD
  have hFc := pM_F hD hS hA
  have hX : xC s H := (hXA.go hS).out
  refine px_callw (vx_runV (As := As) (rest := rest) S9 hM hc ⟨fun a U g mk q => ⟨q.1, q.2.1, q.2.2.1, va_K.moved (u := U) (U := U.calling g mk a) (Vm.Alike.refl U.vm) q.2.2.2.1, q.2.2.2.2.1, xC.warm (State.WarmedH.refl U) q.2.2.2.2.2⟩, va_recv hK hPc (ci := 2) (q0 := 0) rfl rfl, fun U hU hW => ⟨rfl, by rw [hU], by rw [hU]; exact hPc, va_K.moved hW.alike hK, hDc.weaken (fun _ _ _ _ => trivial), (show xC U U.heap by rw [hU]; exact hX.warm hW)⟩⟩ rfl hn hz hst (lv_room hw8) hdg hr) hS (fun q _ h => hFc q h) hFc (fun E9 ce9 q9 H9 locs9 hE9 _ _ _ _ _ _ => absurd hE9 (hxe E9)) (fun r9 z9 t9 H1 locs1 ht9 hvm9 hw9 hB9 hz9 hk9 hS1 => ?_)
  obtain ⟨hP1, hD1⟩ := hB9
  rw [ht9] at hP1
  obtain ⟨hP2, hD2⟩ := pM_J hP hD hk9 hFc hP1 hD1
  obtain ⟨-, hw9⟩ := hw9
  subst hw9
  rw [← ew] at hP2 hD2
  exact kk z9 H1 locs1 hP2 hD2 hS1
/-- one that writes the class's own cells and never throws -/
theorem cls_m {Z : Type} {uf : Z → US} {gf : Z → HS} {val : Int32} (hP : va_P D vwCl (Lc ++ (S5 ++ (S12 ++ (wX cy a q q2 ca ta u g ++ T)))) H) (hD : va_D A (Lc ++ (S5 ++ (S12 ++ (wX cy a q q2 ca ta u g ++ T))))) (hS : va_S A s.heap H locs) (hA : ∀ q, s.heap.size ≤ q → A q) (hK : va_K D vwCl (TY cy) s) (S9 : CallFix p m c cc nL s args Ts own)
    (hM : Met l y ws rm (va_Pc (.ref (a 0) :: As) (fun U => U.heap.size = H.size ∧ va_P D vwCl (wX cy a q q2 ca ta u g) U.heap ∧ va_K D vwCl (TY cy) U ∧ va_D (fun _ => True) (wX cy a q q2 ca ta u g))) (va_Qi (fun (r8 : Int32) (_ : Z) => r8 = val) (fun (z : Z) t => va_P D vwCl (wX cy a q q2 ca ta (uf z) (gf z)) t.heap ∧ va_D (va_A (wX cy a q q2 ca ta u g) H.size) (wX cy a q q2 ca ta (uf z) (gf z))) (va_A (wX cy a q q2 ca ta u g) H.size)) mc ms (va_A (wX cy a q q2 ca ta u g) H.size))
    (hc : CallW R s args own RX2 idx y bytes maxL ret ws rm mc ms n) (hn : As.length = n) (hst : st = As.reverse ++ .ref (a 0) :: rest) (hz : ls.size = nL) (hw8 : (rest.map fun v => v.category).sum ≤ 8) (hdg : decode cc pc = .ok (.invokevirtual idx, 3)) (hr : C + mc ≤ R.cells ∧ S + ms ≤ R.slots)
    (kk : ∀ (z : Z) (H1 : Heap) (locs1 : List Loc), va_P D vwCl (Lc ++ (S5 ++ (S12 ++ (wX cy a q q2 ca ta (uf z) (gf z) ++ T)))) H1 → va_D A (Lc ++ (S5 ++ (S12 ++ (wX cy a q q2 ca ta (uf z) (gf z) ++ T)))) → va_S A s.heap H1 locs1 → W p l e R s m args below meth c H1 locs1 (C + mc) (S + ms) Q (F0 m (pc + 3) ls (.int val :: rest))) : W p l e R s m args below meth c H locs C S Q (F0 m pc ls st) := by
  have ew : ∀ M : va_W, Lc ++ (S5 ++ (S12 ++ (M ++ T))) = (Lc ++ (S5 ++ S12)) ++ (M ++ T) := fun M => by simp only [List.append_assoc]
  rw [ew] at hP hD
  have hPc := pM_P hP
  have hDc := pM_D hD
  have hFc := pM_F hD hS hA
  refine va_calli (va_runV (As := As) (rest := rest) S9 hM hc ⟨fun a U g mk q => ⟨q.1, q.2.1, q.2.2.1, va_K.moved (u := U) (U := U.calling g mk a) (Vm.Alike.refl U.vm) q.2.2.2.1, q.2.2.2.2⟩, va_recv hK hPc (ci := 2) (q0 := 0) rfl rfl, fun U hU hW => ⟨rfl, by rw [hU], by rw [hU]; exact hPc, va_K.moved hW.alike hK, hDc.weaken (fun _ _ _ _ => trivial)⟩⟩ rfl hn hz hst (lv_room hw8) hdg hr) hS (fun q _ h => hFc q h) hFc (fun r9 z9 t9 H1 locs1 ht9 hvm9 hw9 hB9 hz9 hk9 hS1 => ?_)
  obtain ⟨hP1, hD1⟩ := hB9
  rw [ht9] at hP1
  obtain ⟨hP2, hD2⟩ := pM_J hP hD hk9 hFc hP1 hD1
  subst hw9
  rw [← ew] at hP2 hD2
  exact kk z9 H1 locs1 hP2 hD2 hS1
theorem pc_calld {post : UInt64 → Prop} {ar : Array Value} (hr : va_Run p l e R s m args below meth c H locs C S 0 0 (F0 m pc ls st) rest (vp_Sd post ar) (fun _ => False)) (kk : ∀ r : UInt64, post r → W p l e R s m args below meth c H locs C S Q (F0 m (pc + 3) ls (.double r :: rest))) : W p l e R s m args below meth c H locs C S Q (F0 m pc ls st) := by
  intro T hT X
  obtain ⟨v, st₀, t, T', L, h0, X', hL, e1, e2, ⟨r, hv, hp, hh⟩, hst⟩ := hr T hT X
  cases hv
  have hL0 : L = [] := List.eq_nil_iff_forall_not_mem.mpr (fun q hq => hL q hq)
  subst hL0
  rw [List.append_nil] at X'
  obtain ⟨t2, a1, b1⟩ := kk r hp T' (by rw [e1, hh, h0]) X'
  exact ⟨t2, hst t2 a1, b1⟩
/-- the mean -/
theorem cls_d {val : UInt64} (hP : va_P D vwCl (Lc ++ (S5 ++ (S12 ++ (wX cy a q q2 ca ta u g ++ T)))) H) (hK : va_K D vwCl (TY cy) s) (S9 : CallFix p m c cc nL s args Ts own)
    (hM : Met l y ws rm (va_Pc (.ref (a 0) :: As) (fun U => va_P D vwCl (wX cy a q q2 ca ta u g) U.heap ∧ va_K D vwCl (TY cy) U)) (vp_Sd (fun r8 => r8 = val)) 0 0 (fun _ => False))
    (hc : CallW R s args own RX2 idx y bytes maxL ret ws rm 0 0 n) (hn : As.length = n) (hst : st = As.reverse ++ .ref (a 0) :: rest) (hz : ls.size = nL) (hw8 : (rest.map fun v => v.category).sum ≤ 8) (hdg : decode cc pc = .ok (.invokevirtual idx, 3)) (hr : C ≤ R.cells ∧ S ≤ R.slots)
    (kk : W p l e R s m args below meth c H locs C S Q (F0 m (pc + 3) ls (.double val :: rest))) : W p l e R s m args below meth c H locs C S Q (F0 m pc ls st) := by
  have ew : Lc ++ (S5 ++ (S12 ++ (wX cy a q q2 ca ta u g ++ T))) = (Lc ++ (S5 ++ S12)) ++ (wX cy a q q2 ca ta u g ++ T) := by simp only [List.append_assoc]
  rw [ew] at hP
  have hPc := pM_P hP
  refine pc_calld (va_runV (As := As) (rest := rest) S9 hM hc ⟨fun a U g mk q => ⟨q.1, q.2.1, va_K.moved (u := U) (U := U.calling g mk a) (Vm.Alike.refl U.vm) q.2.2⟩, va_recv hK hPc (ci := 2) (q0 := 0) rfl rfl, fun U hU hW => ⟨rfl, by rw [hU]; exact hPc, va_K.moved hW.alike hK⟩⟩ rfl hn hz hst (lv_room hw8) hdg ⟨hr.1, hr.2⟩) (fun r9 hr9 => ?_)
  subst hr9
  exact kk
end SIMC
