/-! rows of rows -/
def vKP (cy : Nat → ClassId) (U : State) : Prop := (Cond.arrayOver (.array .int)).before #[] U = true ∧ U.vm.findClass "[[I" = some (cy 4)
theorem vKP.spec {cy : Nat → ClassId} {U : State} (h : vKP cy U) : ∃ (comp : ClassId) (k : Class), U.vm.findClass "[I" = some comp ∧ U.vm.classes[cy 4]? = some k ∧ k.kind = .array comp (.array .int) := by
  obtain ⟨comp, c, k, h1, h2, h3, h4, h5⟩ := Jvm.Stand.arrayOver_specB (args := #[]) h.1
  have hc : c = cy 4 := Option.some.inj ((show U.vm.findClass "[[I" = some c from h5).symm.trans h.2)
  subst hc
  exact ⟨comp, k, h1, h3, h4⟩
theorem vKP.arr {cy : Nat → ClassId} {U : State} (h : vKP cy U) : ArrOfT U (cy 4) (.array .int) := by
  obtain ⟨comp, k, h1, h3, h4⟩ := h.spec
  exact fun N z => ⟨(fun k h => by cases h), k, h3, comp, h4⟩
theorem vKP.warm {cy : Nat → ClassId} {s U : State} (hW : s.WarmedH U.vm) (h : vKP cy s) : vKP cy U := by
  refine ⟨?_, ?_⟩
  · exact Jvm.Stand.arrayOver_alikeB hW.alike h.1
  · exact (hW.alike.findClass _ _).trans h.2
section PKP
variable {p : Program} {l : Launch} {e : Env} {R : Room} {s : State} {m : MethodId} {args : Array Value} {below : List Frame} {meth : Method} {c : Code} {H : Heap} {locs : List Loc} {cells slots : Nat} {Q : State → Prop}
variable {cc : ByteArray} {pc : Nat} {ls : Array Slot} {rest st0 : List Value} {D : va_G} {cl : List vw_C} {A : Nat → Prop} {a : Nat} {tys : List (ClassId × FieldType)} {ws : va_W} {H0 : Heap} {cy : Nat → ClassId}
theorem pc_newqA (hexec : p.tables.exec = Jvm.exec) (hb : c.code = cc) {own : String} {index : Nat} (hown : s.vm.findClass own = some m.cls) (hclink : (Cond.classLink own index "[I").before args s = true) (hover : vKP cy s) (hP : va_P D cl ws H) (hD : va_D A ws) (hS : va_S A H0 H locs) (hA : ∀ q, H0.size ≤ q → A q)
    {n : Int32} {N' : Nat} (hn : ¬ n < 0) (hN : n.toNatClampNeg = N') (hbytes : N' * 4 ≤ 536870912) (hcells : cells + 1 ≤ R.cells) (hslots : slots + N' ≤ R.slots) (hdg : decode cc pc = .ok (.anewarray index, 3))
    (kk : ∀ (q : Nat) (H1 : Heap), va_P D cl (ws ++ [(q, .inl (cy 4, N', .inr (.inr (.inr (.inr (fun _ => none))))))]) H1 → va_D A (ws ++ [(q, .inl (cy 4, N', .inr (.inr (.inr (.inr (fun _ => none))))))]) → va_S A H0 H1 locs →
      W p l e R s m args below meth c H1 locs (cells + 1) (slots + N') Q (F0 m (pc + 3) ls (.ref q :: rest))) : W p l e R s m args below meth c H locs cells slots Q (F0 m pc ls (.int n :: rest)) := by
  subst hN
  refine W.anewA (t := .int) hexec hb hown hclink hover.1 rfl hdg rfl hn hbytes hcells hslots fun cA kA comp f1 f2 f3 f4 => ?_
  have he : cA = cy 4 := Option.some.inj ((show s.vm.findClass "[[I" = some cA from f1).symm.trans hover.2)
  subst he
  generalize hH1 : H.push ({ cls := cy 4, slots := Array.replicate n.toNatClampNeg .null, vm := .none } : Cell) = H1
  have z1 : H1.size = H.size + 1 := by rw [← hH1, Array.size_push]
  have e1 : H1[H.size]? = some (arrV (cy 4) n.toNatClampNeg (fun _ => .null)) := by rw [← hH1, Array.getElem?_push_size, ← arrV_new]
  have o1 : ∀ q : Nat, q < H.size → H1[q]? = H[q]? := fun q hq => by rw [← hH1, Array.getElem?_push, if_neg (Nat.ne_of_lt hq)]
  have hk : ∀ (k : Nat) (x : Nat × va_E), ws[k]? = some x → H1[x.1]? = H[x.1]? := fun k x hx => o1 x.1 ((hP k x hx).lt)
  refine kk H.size H1 ((hP.kept hk).app (fun k x hx => ?_)) (hD.push hP rfl (hA _ hS.1)) ⟨Nat.le_trans hS.1 (by omega), fun x h1 h2 => (o1 x (Nat.lt_of_lt_of_le h1 hS.1)).trans (hS.2.1 x h1 h2), hS.2.2⟩
  have hz : k < 1 := (List.getElem?_eq_some_iff.mp hx).1
  rw [show k = 0 by omega] at hx
  cases hx
  show H1[H.size]? = some (vp_cell _ _)
  rw [vp_cell_q]
  exact e1
theorem pc_aldA (hexec : p.tables.exec = Jvm.exec) (hb : c.code = cc) (hover : vKP cy s) (hP : va_P D cl ws H) (q0 : Nat) {n k v : Nat} {f : Nat → Option Nat} (ha : ws[q0]? = some (a, .inl (cy 4, n, .inr (.inr (.inr (.inr f)))))) (hk : k < n) (hn : n < 2 ^ 31) (hv : f k = some v) (hdg : decode cc pc = .ok (.aaload, 1))
    (kk : W p l e R s m args below meth c H locs cells slots Q (F0 m (pc + 1) ls (.ref v :: rest))) : W p l e R s m args below meth c H locs cells slots Q (F0 m pc ls (.int (nI k) :: .ref a :: rest)) := by
  have hin : vp_in (nI k) n := vp_in_nI hk hn
  have hc : (nI k).toNatClampNeg = k := nI_clamp (Nat.lt_trans hk hn)
  exact W.aald (v := .ref v) (ty := .array .int) hexec hb (hP q0 _ ha) (hover.arr n (fun j => va_rf (f j))) rfl (fun q => by cases q) (by show ¬ (nI k < 0 ∨ (arrV _ _ _).slots.size ≤ _); rw [arrV_size]; exact hin) (by show (arrV _ _ _).slots[_]? = _; rw [hc, arrV_read _ _ hk, hv]; rfl) rfl rfl hdg kk
theorem pc_astA (hexec : p.tables.exec = Jvm.exec) (hb : c.code = cc) (hK : va_K D cl (TY cy) s) (hover : vKP cy s) (hP : va_P D cl ws H) (hD : va_D A ws) (hS : va_S A H0 H locs) (q0 qk : Nat) {n k v : Nat} {x : vp_A} {f : Nat → Option Nat} (ha : ws[q0]? = some (a, .inl (cy 4, n, .inr (.inr (.inr (.inr f)))))) (hv : ws[qk]? = some (v, .inl (cy 0, x))) (hk : k < n) (hn : n < 2 ^ 31) (hdg : decode cc pc = .ok (.aastore, 1))
    (kk : ∀ (H1 : Heap) (locs1 : List Loc), va_P D cl (ws.set q0 (a, .inl (cy 4, n, .inr (.inr (.inr (.inr (va_up f k (some v)))))))) H1 → va_D A (ws.set q0 (a, .inl (cy 4, n, .inr (.inr (.inr (.inr (va_up f k (some v)))))))) → va_S A H0 H1 locs1 → W p l e R s m args below meth c H1 locs1 cells slots Q (F0 m (pc + 1) ls rest)) : W p l e R s m args below meth c H locs cells slots Q (F0 m pc ls (.ref v :: .int (nI k) :: .ref a :: rest)) := by
  have hin : vp_in (nI k) n := vp_in_nI hk hn
  have hck : (nI k).toNatClampNeg = k := nI_clamp (Nat.lt_trans hk hn)
  have h0 : ¬ nI k < 0 := fun q => hin (Or.inl q)
  have hc1 : H[v]? = some (vp_cell (cy 0) x) := hP qk _ hv
  have hvm0 : (vp_cell (cy 0) x).vm = .none := by
    obtain ⟨n, f | f | f | f | f⟩ := x <;> rfl
  have hcl0 : (vp_cell (cy 0) x).cls = cy 0 := by
    obtain ⟨n, f | f | f | f | f⟩ := x <;> rfl
  obtain ⟨comp, kA, k1, k2, k3⟩ := hover.spec
  have hnm : s.vm.findClass "[I" = some (cy 0) := (hK.2 0 (cy 0, .int) rfl).2
  have hcomp : comp = cy 0 := Option.some.inj (k1.symm.trans hnm)
  subst hcomp
  obtain ⟨kC, hkC, -⟩ := Vm.findClass_spec hnm
  refine W.aast hexec hb (hP q0 _ ha) (fun q h => by cases h) (fun h => by cases h) k2 k3 rfl hkC ⟨h0, by show _ < (arrV _ _ _).slots.size; rw [arrV_size, hck]; exact hk⟩ hc1 (fun q h => by rw [hvm0] at h; cases h) (by rw [hcl0]; exact hkC) (by rw [hcl0]; exact va_asg _ _) rfl rfl hdg fun H1 e z oq => ?_
  refine kk H1 _ (hP.set hD ha ?_ oq) (hD.set ha) (hS.put z oq (hD.2 q0 _ ha))
  show H1[a]? = some (vp_cell _ _)
  rw [e]
  rw [vp_cell_q, vp_cell_q, arrV_store, hck]
  congr 2
  funext q
  by_cases hq : q = k
  · subst hq
    simp [updV, va_up, va_rf]
  · simp [updV, va_up, hq]
end PKP
section NEWF
variable {p : Program} {l : Launch} {e : Env} {R : Room} {s : State} {m : MethodId} {args : Array Value} {below : List Frame} {meth : Method} {c : Code} {H : Heap} {locs : List Loc} {cells slots : Nat} {Q : State → Prop}
variable {cc : ByteArray} {pc : Nat} {ls : Array Slot} {rest st0 : List Value} {D : va_G} {cl : List vw_C} {A : Nat → Prop} {a : Nat} {tys : List (ClassId × FieldType)} {ws : va_W} {H0 : Heap} {cy : Nat → ClassId}
abbrev qf (f : Nat → Option Nat) : Sum (Nat → Int32) (Sum (Nat → Int64) (Sum (Nat → UInt32) (Sum (Nat → UInt64) (Nat → Option Nat)))) := .inr (.inr (.inr (.inr f)))
theorem pc_newqAF (hexec : p.tables.exec = Jvm.exec) (hb : c.code = cc) {own : String} {index : Nat} (hown : s.vm.findClass own = some m.cls) (hclink : (Cond.classLink own index "[I").before args s = true) (hover : vKP cy s) (hP : va_P D cl ws H) (hD : va_D A ws) (hS : va_S A H0 H locs) (hA : ∀ q, H0.size ≤ q → A q)
    {n : Int32} {N' : Nat} (hn : ¬ n < 0) (hN : n.toNatClampNeg = N') (hbytes : N' * 4 ≤ 536870912) (hcells : cells + 1 ≤ R.cells) (hslots : slots + N' ≤ R.slots) (hdg : decode cc pc = .ok (.anewarray index, 3))
    (kk : ∀ (q : Nat) (H1 : Heap), va_P D cl ((q, .inl (cy 4, N', qf (fun _ => none))) :: ws) H1 → va_D A ((q, .inl (cy 4, N', qf (fun _ => none))) :: ws) → va_S A H0 H1 locs →
      W p l e R s m args below meth c H1 locs (cells + 1) (slots + N') Q (F0 m (pc + 3) ls (.ref q :: rest))) : W p l e R s m args below meth c H locs cells slots Q (F0 m pc ls (.int n :: rest)) :=
  pc_newqA hexec hb hown hclink hover hP hD hS hA hn hN hbytes hcells hslots hdg (fun q H1 hP1 hD1 hS1 => kk q H1 (pM_frontP hP1) (pM_frontD hD1) hS1)
/-- twelve rows of seven, all new -/
theorem pc_mna (hexec : p.tables.exec = Jvm.exec) (hb : c.code = cc) {own : String} {index : Nat} (hown : s.vm.findClass own = some m.cls) (hclink : (Cond.classLink own index "[[I").before args s = true) (hover : vKP cy s) (harr : (Cond.arrayClass .int).before args s = true) (hK : va_K D cl (TY cy) s)
    (hP : va_P D cl ws H) (hD : va_D A ws) (hS : va_S A H0 H locs) (hA : ∀ q, H0.size ≤ q → A q) (hcells : cells + 13 ≤ R.cells) (hslots : slots + 96 ≤ R.slots) (hdg : decode cc pc = .ok (.multianewarray index 2, 4))
    (kk : ∀ (q : Nat) (r : Nat → Nat) (H1 : Heap), va_P D cl (([(q, .inl (cy 4, 12, qf (fun i => if i < 12 then some (r i) else none)))] ++ rows12 cy r 7 (fun _ _ => 0)) ++ ws) H1 → va_D A (([(q, .inl (cy 4, 12, qf (fun i => if i < 12 then some (r i) else none)))] ++ rows12 cy r 7 (fun _ _ => 0)) ++ ws) → va_S A H0 H1 locs →
      W p l e R s m args below meth c H1 locs (cells + 13) (slots + 96) Q (F0 m (pc + 4) ls (.ref q :: rest))) : W p l e R s m args below meth c H locs cells slots Q (F0 m pc ls (.int 7 :: .int 12 :: rest)) := by
  refine va_mna (X := ws) (L := []) (f := fun _ => .inl (cy 0, 7, .inl (fun _ => 0))) (ty := .int) (cy := cy 0) (N' := 12) (K' := 7) (z := (7, .inl (fun _ => 0))) hexec hb hown hclink hover.1 harr (hK.2 0 (cy 0, .int) rfl).2 hK (show va_P D cl (ws ++ []) H by rw [List.append_nil]; exact hP) (show va_D A (ws ++ []) by rw [List.append_nil]; exact hD) hS hA (by decide) (by decide) rfl rfl (by decide) (by decide) (by decide) rfl rfl hcells hslots (fun _ => rfl) hdg (fun q r cA H1 hr1 hr2 hK1 hP1 hD1 hS1 => ?_)
  have h1 : va_RA s cA (.array .int) := (hK1.2 (TY cy).length (cA, .array .int) (by rw [List.getElem?_append_right (Nat.le_refl _), Nat.sub_self]; rfl)).2
  have he : cA = cy 4 := Option.some.inj ((show s.vm.findClass "[[I" = some cA from h1).symm.trans hover.2)
  subst he
  have el : ([] ++ (List.range 12).map r) = [r 0, r 1, r 2, r 3, r 4, r 5, r 6, r 7, r 8, r 9, r 10, r 11] := rfl
  have e9 : va_pl ([] ++ (List.range 12).map r) (vr_up (fun _ => .inl (cy 0, 7, .inl (fun _ => 0))) ((List.range 12).map r) (.inl (cy 0, (7, .inl (fun _ => 0))))) = rows12 cy r 7 (fun _ _ => 0) := by
    rw [el]
    show [_, _, _, _, _, _, _, _, _, _, _, _] = _
    simp [vr_up, rows12]
  rw [e9] at hP1 hD1
  refine kk q r H1 (pM_iff.mpr (fun x hx => pM_iff.mp hP1 x ?_)) ?_ hS1
  · simp only [List.mem_append] at hx ⊢
    rcases hx with (z | z) | z
    · exact Or.inl (Or.inr z)
    · exact Or.inr z
    · exact Or.inl (Or.inl z)
  · obtain ⟨g1, g2⟩ := pD_iff.mp hD1
    obtain ⟨a1, a2, a3⟩ := List.pairwise_append.mp g1
    obtain ⟨b1, b2, b3⟩ := List.pairwise_append.mp a1
    refine pD_iff.mpr ⟨List.pairwise_append.mpr ⟨List.pairwise_append.mpr ⟨b2, a2, fun x hx y hy => a3 x (List.mem_append_right _ hx) y hy⟩, b1, fun x hx y hy he => ?_⟩, fun x hx => g2 x ?_⟩
    · rcases List.mem_append.mp hx with z | z
      · exact b3 y hy x z he.symm
      · exact a3 y (List.mem_append_left _ hy) x z he.symm
    · simp only [List.mem_append] at hx ⊢
      rcases hx with (z | z) | z
      · exact Or.inl (Or.inr z)
      · exact Or.inr z
      · exact Or.inl (Or.inl z)
end NEWF
