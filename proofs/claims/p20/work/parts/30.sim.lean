/-! worlds in pieces: a piece is cut out of the middle, called upon, and put back -/
theorem pM_iff {D : va_G} {cl : List vw_C} {ws : va_W} {H : Heap} : va_P D cl ws H ↔ ∀ x ∈ ws, va_at D cl x H := by
  constructor
  · intro h x hx
    obtain ⟨k, hk⟩ := List.getElem?_of_mem hx
    exact h k x hk
  · intro h k x hk
    exact h x (List.mem_of_getElem? hk)
theorem pD_iff {A : Nat → Prop} {ws : va_W} : va_D A ws ↔ ws.Pairwise (fun x y => x.1 ≠ y.1) ∧ ∀ x ∈ ws, A x.1 := by
  constructor
  · intro h
    refine ⟨List.pairwise_iff_getElem.mpr (fun i j hi hj hij he => ?_), fun x hx => ?_⟩
    · have := h.1 i j _ _ (List.getElem?_eq_getElem hi) (List.getElem?_eq_getElem hj) he
      omega
    · obtain ⟨k, hk⟩ := List.getElem?_of_mem hx
      exact h.2 k x hk
  · intro ⟨h1, h2⟩
    have h3 := List.pairwise_iff_getElem.mp h1
    refine ⟨fun i j x y hi hj he => ?_, fun k x hk => h2 x (List.mem_of_getElem? hk)⟩
    obtain ⟨hi1, hi2⟩ := List.getElem?_eq_some_iff.mp hi
    obtain ⟨hj1, hj2⟩ := List.getElem?_eq_some_iff.mp hj
    rcases Nat.lt_trichotomy i j with z | z | z
    · exact absurd (by rw [hi2, hj2]; exact he) (h3 i j hi1 hj1 z)
    · exact z
    · exact absurd (by rw [hi2, hj2]; exact he.symm) (h3 j i hj1 hi1 z)
theorem va_A_mem {ws : va_W} {sz q : Nat} : va_A ws sz q ↔ (∃ x ∈ ws, x.1 = q) ∨ sz ≤ q := by
  constructor
  · rintro (⟨k, e, h⟩ | h)
    · exact Or.inl ⟨(q, e), List.mem_of_getElem? h, rfl⟩
    · exact Or.inr h
  · rintro (⟨⟨q', e⟩, h, rfl⟩ | h)
    · obtain ⟨k, hk⟩ := List.getElem?_of_mem h
      exact Or.inl ⟨k, e, hk⟩
    · exact Or.inr h
section PMID
variable {D : va_G} {cl : List vw_C} {L M R w1 : va_W} {H H1 H0 : Heap} {A : Nat → Prop} {locs : List Loc}
theorem pM_P (h : va_P D cl (L ++ (M ++ R)) H) : va_P D cl M H := pM_iff.mpr (fun x hx => pM_iff.mp h x (List.mem_append_right _ (List.mem_append_left _ hx)))
theorem pM_D (h : va_D A (L ++ (M ++ R))) : va_D A M := by
  obtain ⟨h1, h2⟩ := pD_iff.mp h
  exact pD_iff.mpr ⟨(List.pairwise_append.mp (List.pairwise_append.mp h1).2.1).1, fun x hx => h2 x (List.mem_append_right _ (List.mem_append_left _ hx))⟩
theorem pM_F (h : va_D A (L ++ (M ++ R))) (hS : va_S A H0 H locs) (hA : ∀ q, H0.size ≤ q → A q) : ∀ q, va_A M H.size q → A q := by
  intro q hq
  rcases va_A_mem.mp hq with ⟨x, hx, rfl⟩ | z
  · exact (pD_iff.mp h).2 x (List.mem_append_right _ (List.mem_append_left _ hx))
  · exact hA q (Nat.le_trans hS.1 z)
theorem pM_J (hP : va_P D cl (L ++ (M ++ R)) H) (hD : va_D A (L ++ (M ++ R))) (hk : ∀ q : Nat, q < H.size → ¬ va_A M H.size q → H1[q]? = H[q]?) (hF : ∀ q, va_A M H.size q → A q) (hP1 : va_P D cl w1 H1) (hD1 : va_D (va_A M H.size) w1) : va_P D cl (L ++ (w1 ++ R)) H1 ∧ va_D A (L ++ (w1 ++ R)) := by
  obtain ⟨d1, d2⟩ := pD_iff.mp hD
  obtain ⟨e1, e2⟩ := pD_iff.mp hD1
  obtain ⟨a1, a2, a3⟩ := List.pairwise_append.mp d1
  obtain ⟨b1, b2, b3⟩ := List.pairwise_append.mp a2
  have hp := pM_iff.mp hP
  have offL : ∀ x ∈ L, ¬ va_A M H.size x.1 := by
    intro x hx hq
    rcases va_A_mem.mp hq with ⟨y, hy, he⟩ | z
    · exact a3 x hx y (List.mem_append_left _ hy) he.symm
    · have := (hp x (List.mem_append_left _ hx)).lt; omega
  have offR : ∀ x ∈ R, ¬ va_A M H.size x.1 := by
    intro x hx hq
    rcases va_A_mem.mp hq with ⟨y, hy, he⟩ | z
    · exact b3 y hy x hx he
    · have := (hp x (List.mem_append_right _ (List.mem_append_right _ hx))).lt; omega
  refine ⟨pM_iff.mpr (fun x hx => ?_), pD_iff.mpr ⟨?_, fun x hx => ?_⟩⟩
  · rcases List.mem_append.mp hx with z | z
    · have h9 := hp x (List.mem_append_left _ z)
      exact h9.kept (hk _ h9.lt (offL x z))
    · rcases List.mem_append.mp z with y | y
      · exact pM_iff.mp hP1 x y
      · have h9 := hp x (List.mem_append_right _ (List.mem_append_right _ y))
        exact h9.kept (hk _ h9.lt (offR x y))
  · refine List.pairwise_append.mpr ⟨a1, List.pairwise_append.mpr ⟨e1, b2, fun x hx y hy he => offR y hy (he ▸ e2 x hx)⟩, fun x hx y hy he => ?_⟩
    rcases List.mem_append.mp hy with z | z
    · exact offL x hx (he ▸ e2 y z)
    · exact a3 x hx y (List.mem_append_right _ z) he
  · rcases List.mem_append.mp hx with z | z
    · exact d2 x (List.mem_append_left _ z)
    · rcases List.mem_append.mp z with y | y
      · exact hF _ (e2 x y)
      · exact d2 x (List.mem_append_right _ (List.mem_append_right _ y))
theorem pM_dropP (h : va_P D cl (L ++ R) H) : va_P D cl R H := pM_iff.mpr (fun x hx => pM_iff.mp h x (List.mem_append_right _ hx))
theorem pM_dropD (h : va_D A (L ++ R)) : va_D A R := by
  obtain ⟨h1, h2⟩ := pD_iff.mp h
  exact pD_iff.mpr ⟨(List.pairwise_append.mp h1).2.1, fun x hx => h2 x (List.mem_append_right _ hx)⟩
theorem pM_frontP {x : Nat × va_E} {ws : va_W} (h : va_P D cl (ws ++ [x]) H) : va_P D cl (x :: ws) H := pM_iff.mpr (fun y hy => pM_iff.mp h y (by simp only [List.mem_append, List.mem_cons, List.not_mem_nil, or_false] at hy ⊢; exact hy.symm))
theorem pM_frontD {x : Nat × va_E} {ws : va_W} (h : va_D A (ws ++ [x])) : va_D A (x :: ws) := by
  obtain ⟨h1, h2⟩ := pD_iff.mp h
  obtain ⟨a1, a2, a3⟩ := List.pairwise_append.mp h1
  refine pD_iff.mpr ⟨List.pairwise_cons.mpr ⟨fun y hy he => a3 y hy x (List.mem_singleton.mpr rfl) he.symm, a1⟩, fun y hy => h2 y ?_⟩
  simp only [List.mem_append, List.mem_cons, List.not_mem_nil, or_false] at hy ⊢
  exact hy.symm
theorem pM_backP {x : Nat × va_E} {ws : va_W} (h : va_P D cl (x :: ws) H) : va_P D cl (ws ++ [x]) H := pM_iff.mpr (fun y hy => pM_iff.mp h y (by simp only [List.mem_append, List.mem_cons, List.not_mem_nil, or_false] at hy ⊢; exact hy.symm))
theorem pM_backD {x : Nat × va_E} {ws : va_W} (h : va_D A (x :: ws)) : va_D A (ws ++ [x]) := by
  obtain ⟨h1, h2⟩ := pD_iff.mp h
  obtain ⟨a1, a2⟩ := List.pairwise_cons.mp h1
  refine pD_iff.mpr ⟨List.pairwise_append.mpr ⟨a2, List.pairwise_singleton _ _, fun y hy z hz he => ?_⟩, fun y hy => h2 y ?_⟩
  · rw [List.mem_singleton.mp hz] at he
    exact a1 y hy he.symm
  · simp only [List.mem_append, List.mem_cons, List.not_mem_nil, or_false] at hy ⊢
    exact hy.symm
/-- a cell takes another's place; the other is forgotten -/
theorem pM_forP {x y : Nat × va_E} {P Q : va_W} (h : va_P D cl (x :: (P ++ (y :: Q))) H) : va_P D cl (P ++ (x :: Q)) H := pM_iff.mpr (fun z hz => pM_iff.mp h z (by
  simp only [List.mem_append, List.mem_cons] at hz ⊢
  rcases hz with z | z | z
  · exact Or.inr (Or.inl z)
  · exact Or.inl z
  · exact Or.inr (Or.inr (Or.inr z))))
theorem pM_forD {x y : Nat × va_E} {P Q : va_W} (h : va_D A (x :: (P ++ (y :: Q)))) : va_D A (P ++ (x :: Q)) := by
  obtain ⟨h1, h2⟩ := pD_iff.mp h
  obtain ⟨a1, a2⟩ := List.pairwise_cons.mp h1
  obtain ⟨b1, b2, b3⟩ := List.pairwise_append.mp a2
  obtain ⟨c1, c2⟩ := List.pairwise_cons.mp b2
  refine pD_iff.mpr ⟨List.pairwise_append.mpr ⟨b1, List.pairwise_cons.mpr ⟨fun z hz => a1 z (List.mem_append_right _ (List.mem_cons_of_mem _ hz)), c2⟩, fun z hz w hw he => ?_⟩, fun z hz => h2 z ?_⟩
  · rcases List.mem_cons.mp hw with q | q
    · rw [q] at he
      exact a1 z (List.mem_append_left _ hz) he.symm
    · exact b3 z hz w (List.mem_cons_of_mem _ q) he
  · simp only [List.mem_append, List.mem_cons] at hz ⊢
    rcases hz with z | z | z
    · exact Or.inr (Or.inl z)
    · exact Or.inl z
    · exact Or.inr (Or.inr (Or.inr z))
end PMID
/-! twelve rows of numbers -/
abbrev rows12 (cy : Nat → ClassId) (r : Nat → Nat) (n : Nat) (F : Nat → Nat → Int32) : va_W := [(r 0, .inl (cy 0, n, .inl (F 0))), (r 1, .inl (cy 0, n, .inl (F 1))), (r 2, .inl (cy 0, n, .inl (F 2))), (r 3, .inl (cy 0, n, .inl (F 3))), (r 4, .inl (cy 0, n, .inl (F 4))), (r 5, .inl (cy 0, n, .inl (F 5))), (r 6, .inl (cy 0, n, .inl (F 6))), (r 7, .inl (cy 0, n, .inl (F 7))), (r 8, .inl (cy 0, n, .inl (F 8))), (r 9, .inl (cy 0, n, .inl (F 9))), (r 10, .inl (cy 0, n, .inl (F 10))), (r 11, .inl (cy 0, n, .inl (F 11)))]
theorem lt12 {P : Nat → Prop} (h0 : P 0) (h1 : P 1) (h2 : P 2) (h3 : P 3) (h4 : P 4) (h5 : P 5) (h6 : P 6) (h7 : P 7) (h8 : P 8) (h9 : P 9) (ha : P 10) (hb : P 11) : ∀ j, j < 12 → P j := by
  intro j hj
  rcases (show j = 0 ∨ j = 1 ∨ j = 2 ∨ j = 3 ∨ j = 4 ∨ j = 5 ∨ j = 6 ∨ j = 7 ∨ j = 8 ∨ j = 9 ∨ j = 10 ∨ j = 11 by omega) with rfl | rfl | rfl | rfl | rfl | rfl | rfl | rfl | rfl | rfl | rfl | rfl <;> assumption
def rset (F : Nat → Nat → Int32) (k j : Nat) (v : Int32) : Nat → Nat → Int32 := fun i => if i = k then upd (F k) j v else F i
theorem rows12_at (cy : Nat → ClassId) (r : Nat → Nat) (n : Nat) (F : Nat → Nat → Int32) : ∀ k, k < 12 → (rows12 cy r n F)[k]? = some (r k, .inl (cy 0, n, .inl (F k))) := lt12 rfl rfl rfl rfl rfl rfl rfl rfl rfl rfl rfl rfl
theorem rows12_set (cy : Nat → ClassId) (r : Nat → Nat) (n : Nat) (F : Nat → Nat → Int32) (j : Nat) (v : Int32) : ∀ k, k < 12 → (rows12 cy r n F).set k (r k, .inl (cy 0, n, .inl (upd (F k) j v))) = rows12 cy r n (rset F k j v) := lt12 rfl rfl rfl rfl rfl rfl rfl rfl rfl rfl rfl rfl
theorem at_L {L X : va_W} {i : Nat} {x : Nat × va_E} (h : X[i]? = some x) : (L ++ X)[L.length + i]? = some x := by
  rw [List.getElem?_append_right (Nat.le_add_right _ _), Nat.add_sub_cancel_left]
  exact h
theorem at_R {X R : va_W} {i : Nat} {x : Nat × va_E} (h : X[i]? = some x) : (X ++ R)[i]? = some x := by
  rw [List.getElem?_append_left (List.getElem?_eq_some_iff.mp h).1]
  exact h
theorem set_L {L X : va_W} {i : Nat} {x : Nat × va_E} : (L ++ X).set (L.length + i) x = L ++ X.set i x := by
  rw [List.set_append_right _ _ (Nat.le_add_right _ _), Nat.add_sub_cancel_left]
theorem set_R {X R : va_W} {i : Nat} {x : Nat × va_E} (h : i < X.length) : (X ++ R).set i x = X.set i x ++ R := List.set_append_left _ _ h
section ROWS
variable {p : Program} {l : Launch} {e : Env} {R : Room} {s : State} {m : MethodId} {args : Array Value} {below : List Frame} {meth : Method} {c : Code} {H : Heap} {locs : List Loc} {cells slots : Nat} {Q : State → Prop}
variable {cc : ByteArray} {pc : Nat} {ls : Array Slot} {rest st0 : List Value} {D : va_G} {cl : List vw_C} {A : Nat → Prop} {a : Nat} {tys : List (ClassId × FieldType)} {P X : va_W} {H0 : Heap} {cy : Nat → ClassId} {r : Nat → Nat} {n k j : Nat} {F : Nat → Nat → Int32}
theorem row_ald (hexec : p.tables.exec = Jvm.exec) (hb : c.code = cc) (hK : va_K D cl (TY cy) s) (hP : va_P D cl (P ++ (rows12 cy r n F ++ X)) H) (hk : k < 12) (hj : j < n) (hn : n < 2 ^ 31) (hdg : decode cc pc = .ok (.iaload, 1))
    (kk : W p l e R s m args below meth c H locs cells slots Q (F0 m (pc + 1) ls (.int (F k j) :: rest))) : W p l e R s m args below meth c H locs cells slots Q (F0 m pc ls (.int (nI j) :: .ref (r k) :: rest)) :=
  pc_iald hexec hb hK hP (P.length + k) 0 (at_L (at_R (rows12_at cy r n F k hk))) rfl hj hn hdg kk
theorem row_ast (hexec : p.tables.exec = Jvm.exec) (hb : c.code = cc) (hK : va_K D cl (TY cy) s) (hP : va_P D cl (P ++ (rows12 cy r n F ++ X)) H) (hD : va_D A (P ++ (rows12 cy r n F ++ X))) (hS : va_S A H0 H locs) (hk : k < 12) (hj : j < n) (hn : n < 2 ^ 31) {x : Int32} (hdg : decode cc pc = .ok (.iastore, 1))
    (kk : ∀ (H1 : Heap) (locs1 : List Loc), va_P D cl (P ++ (rows12 cy r n (rset F k j x) ++ X)) H1 → va_D A (P ++ (rows12 cy r n (rset F k j x) ++ X)) → va_S A H0 H1 locs1 → W p l e R s m args below meth c H1 locs1 cells slots Q (F0 m (pc + 1) ls rest)) : W p l e R s m args below meth c H locs cells slots Q (F0 m pc ls (.int x :: .int (nI j) :: .ref (r k) :: rest)) := by
  refine pc_iast hexec hb hK hP hD hS (P.length + k) 0 (at_L (at_R (rows12_at cy r n F k hk))) rfl hj hn hdg (fun H1 locs1 hP1 hD1 hS1 => ?_)
  have e9 : (P ++ (rows12 cy r n F ++ X)).set (P.length + k) (r k, .inl (cy 0, n, .inl (upd (F k) j x))) = P ++ (rows12 cy r n (rset F k j x) ++ X) := by
    rw [set_L, set_R (show k < (rows12 cy r n F).length from hk), rows12_set cy r n F j x k hk]
  rw [e9] at hP1 hD1
  exact kk H1 locs1 hP1 hD1 hS1
theorem pc_newaF (hexec : p.tables.exec = Jvm.exec) (hb : c.code = cc) {atype : ArrayType} (harr : (Cond.arrayClass (newarray.typeOf atype)).before args s = true) {ty : FieldType} (hty : newarray.typeOf atype = ty) (hK : va_K D cl tys s) {ws : va_W} (hP : va_P D cl ws H) (hD : va_D A ws) (hS : va_S A H0 H locs) (hA : ∀ q, H0.size ≤ q → A q) (t0 : Nat) {c0 : ClassId} (ht : tys[t0]? = some (c0, ty))
    {n : Int32} {N' : Nat} {a0 : vp_A} (ha : ∀ cA : ClassId, vp_cell cA a0 = arrV cA N' (fun _ => defaultValue ty)) (hn : ¬ n < 0) (hN : n.toNatClampNeg = N') (hbytes : N' * componentBytes ty ≤ 536870912) (hcells : cells + 1 ≤ R.cells) (hslots : slots + N' ≤ R.slots) (hdg : decode cc pc = .ok (.newarray atype, 2))
    (kk : ∀ (q : Nat) (H1 : Heap), va_P D cl ((q, .inl (c0, a0)) :: ws) H1 → va_D A ((q, .inl (c0, a0)) :: ws) → va_S A H0 H1 locs →
      W p l e R s m args below meth c H1 locs (cells + 1) (slots + N') Q (F0 m (pc + 2) ls (.ref q :: rest))) : W p l e R s m args below meth c H locs cells slots Q (F0 m pc ls (.int n :: rest)) :=
  pc_newa hexec hb harr hty hK hP hD hS hA t0 ht ha hn hN hbytes hcells hslots hdg (fun q H1 hP1 hD1 hS1 => kk q H1 (pM_frontP hP1) (pM_frontD hD1) hS1)
end ROWS
