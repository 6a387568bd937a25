/-! the harp that is built: what is still as it was made -/
def FR (u : US) (k : Nat) : Prop := un u = 0 ∧ zh (uh u) = 0 ∧ ∀ j, k ≤ j → j < 12 → zw (uh u) j = 0 ∧ zd (uh u) j = 0 ∧ zs (uh u) j = 0 ∧ zo (uh u) j = 1
def FW (u : US) (k : Nat) : Prop := ∀ j, k ≤ j → j < 12 → uw u j = 0 ∧ ud u j = 0
theorem FR_new : FR uNew 0 := ⟨rfl, rfl, fun j _ _ => ⟨rfl, rfl, rfl, rfl⟩⟩
theorem FW_new : FW uNew 0 := fun j _ _ => ⟨rfl, rfl⟩
theorem FR_s {u : US} {k : Nat} (h : FR u k) : FR u (k + 1) := ⟨h.1, h.2.1, fun j h1 h2 => h.2.2 j (by omega) h2⟩
theorem FW_wea0 {u : US} {k : Nat} (h : FW u k) (hk : k < 12) : wea u k = 0 := by
  unfold wea
  rw [(h k (Nat.le_refl _) hk).1, (h k (Nat.le_refl _) hk).2]
  rfl
theorem FR_wea {u : US} {k i : Nat} {w d : Int32} (h : FR u k) : FR (uWea u i w d) k := h
theorem FW_wea {u : US} {k : Nat} {w d : Int32} (h : FW u k) : FW (uWea u k w d) (k + 1) := by
  intro j h1 h2
  have hn : j ≠ k := by omega
  exact ⟨(pk_un hn).trans (h j (by omega) h2).1, (pk_un hn).trans (h j (by omega) h2).2⟩
theorem FR_draw {u : US} {k : Nat} {x : Int32} (h : FR u k) : FR (uH u (hRenew (uh u) k x)) k := by
  refine ⟨h.1, h.2.1, fun j h1 h2 => ?_⟩
  obtain ⟨a1, a2, a3, a4⟩ := h.2.2 j h1 h2
  by_cases e : j = k
  · subst e
    exact ⟨a1, pk_us, pk_us, pk_us⟩
  · exact ⟨a1, (pk_un e).trans a2, (pk_un e).trans a3, (pk_un e).trans a4⟩
theorem FW_H {u : US} {h : HS} {k : Nat} (f : FW u k) : FW (uH u h) k := f
theorem FR_push {u : US} {k : Nat} {x : Int32} (h : FR u k) : FR (uH u (hPush (uh u) k x)) (k + 1) := by
  refine ⟨h.1, h.2.1, fun j h1 h2 => ?_⟩
  obtain ⟨a1, a2, a3, a4⟩ := h.2.2 j (by omega) h2
  have e : j ≠ k := by omega
  exact ⟨(pk_un e).trans a1, a2, a3, a4⟩
theorem upd_eq {f : Nat → Int32} {k : Nat} {x : Int32} (h : f k = x) : upd f k x = f := by
  funext j
  by_cases e : j = k
  · subst e; rw [pk_us]; exact h.symm
  · exact pk_un e
theorem fresh_draw {h : HS} {k : Nat} {x : Int32} (h2 : zd h k = 0) (h3 : zs h k = 0) (h4 : zo h k = 1) : rset (rowS h) k 0 x = rowS (hRenew h k x) := by
  rw [rset_put h k (by decide) x]
  show rowS (upd (zb h) k x, zw h, zd h, zs h, zr h, zo h, zl h, zh h) = rowS (upd (zb h) k x, zw h, upd (zd h) k 0, upd (zs h) k 0, zr h, upd (zo h) k 1, zl h, zh h)
  rw [upd_eq h2, upd_eq h3, upd_eq h4]
theorem fresh_push {h : HS} {k : Nat} {x : Int32} (h1 : zw h k = 0) : rset (rowS h) k 1 x = rowS (hPush h k x) := by
  rw [rset_put h k (by decide) x]
  show rowS (zb h, upd (zw h) k x, zd h, zs h, zr h, zo h, zl h, zh h) = rowS (zb h, upd (zw h) k (zw h k + x), zd h, zs h, zr h, zo h, zl h, zh h)
  rw [h1]
  rw [show (0 : Int32) + x = x by grind]
theorem INV_pushw {u : US} (I : INV u) {k w : Nat} (hz : zw (uh u) k = 0) (hw : w < 21) : INV (uH u (hPush (uh u) k (nI w))) := by
  refine INV_push I ?_ ?_
  · rw [hz]
    have := nI_pos' (show w < 2147483648 by omega)
    generalize nI w = x at *
    grind
  · rw [hz]
    have := (nI_leI (a := w) (b := 20) (by omega) (by decide)).mpr (by omega)
    have h20 : nI 20 = 20 := rfl
    rw [h20] at this
    generalize nI w = x at *
    grind
theorem chT_nil {cy : Nat → ClassId} {ch : Nat → Nat} {u : US} (h : un u = 0) : ([] : va_W) = chT cy ch u := by
  unfold chT
  rw [h]
  rfl
theorem mk_join (S5 S12 X : va_W) : (S5 ++ (S12 ++ [])) ++ X = S5 ++ (S12 ++ (X ++ [])) := by simp
abbrev wAll (cy : Nat → ClassId) (b : Nat) (sa st ch a q q2 ca ta : Nat → Nat) (u : US) (g : HS) : va_W := wSu cy b sa st ch u ++ (wSr cy st u ++ (wX cy a q q2 ca ta u g ++ chT cy ch u))
theorem all_F {A : Nat → Prop} {M : va_W} {H0 H : Heap} {locs : List Loc} (hD : va_D A M) (hS : va_S A H0 H locs) (hA : ∀ q, H0.size ≤ q → A q) : ∀ q, va_A M H.size q → A q := by
  intro q hq
  rcases va_A_mem.mp hq with ⟨x, hx, rfl⟩ | z
  · exact (pD_iff.mp hD).2 x hx
  · exact hA q (Nat.le_trans hS.1 z)
section ACTC
variable {p : Program} {l : Launch} {e : Env} {R : Room} {s : State} {m : MethodId} {args : Array Value} {below : List Frame} {meth : Method} {c : Code} {H : Heap} {locs : List Loc} {C S : Nat} {Q : State → Prop}
variable {cc : ByteArray} {pc : Nat} {ls : Array Slot} {rest st9 : List Value} {D : va_G} {A : Nat → Prop} {cy : Nat → ClassId} {nL : Nat} {own : String} {Ts : List Cond} {idx : Nat}
variable {b : Nat} {sa st ch a q q2 ca ta : Nat → Nat} {u : US} {g : HS} {xv : Int32}
/-- act is called: something is done to both -/
theorem act_call (hst : l.stackTraces = false) (I : INV u) (hP : va_P D vwCl ([] ++ wAll cy b sa st ch a q q2 ca ta u g) H) (hD : va_D A ([] ++ wAll cy b sa st ch a q q2 ca ta u g)) (hS : va_S A s.heap H locs) (hA : ∀ q, s.heap.size ≤ q → A q) (hK : va_K D vwCl (TY cy) s) (hkp : vKP cy s) (hXA : xCA A s s.heap) (S9 : CallFix p m c cc nL s args Ts own)
    (hc : CallB R s args own idx yL_act cL_act 12 (some .boolean) wsL_act ({ frames := 12, cells := 8, slots := 48, locals := 300 } : Room) 8 48 3 ∧ (Cond.static yL_act).before args s = true) (hst9 : st9 = [.int xv, .ref b, .ref (a 0)] ++ rest) (hz : ls.size = nL) (hw8 : (rest.map fun v => v.category).sum ≤ 8) (hdg : decode cc pc = .ok (.invokestatic idx, 3)) (hr : C + 8 ≤ R.cells ∧ S + 48 ≤ R.slots)
    (kk : ∀ (u9 : US) (sa9 st9 ch9 : Nat → Nat) (H1 : Heap) (locs1 : List Loc), INV u9 → zh (uh u9) = zh (uh u) → va_P D vwCl ([] ++ wAll cy b sa9 st9 ch9 a q q2 ca ta u9 g) H1 → va_D A ([] ++ wAll cy b sa9 st9 ch9 a q q2 ca ta u9 g) → va_S A s.heap H1 locs1 → W p l e R s m args below meth c H1 locs1 (C + 8) (S + 48) Q (F0 m (pc + 3) ls (.int 1 :: rest))) :
    W p l e R s m args below meth c H locs C S Q (F0 m pc ls st9) := by
  have hP : va_P D vwCl (wAll cy b sa st ch a q q2 ca ta u g) H := hP
  have hD : va_D A (wAll cy b sa st ch a q q2 ca ta u g) := hD
  have hFc := all_F hD hS hA
  have hXk : xCA (va_A (wAll cy b sa st ch a q q2 ca ta u g) H.size) s H := (hXA.go hS).narrow hFc
  refine va_calli (va_runS (As := [.ref (a 0), .ref b, .int xv]) (rest := rest) S9 (mL_act l hst D cy H.size b sa st ch a q q2 ca ta u g I xv) hc ⟨fun a U g mk q => ⟨q.1, q.2.1, q.2.2.1, va_K.moved (u := U) (U := U.calling g mk a) (Vm.Alike.refl U.vm) q.2.2.2.1, q.2.2.2.2.1, vKP.warm (U := U.calling g mk a) (State.WarmedH.refl U) q.2.2.2.2.2.1, xCA.warm (U := U.calling g mk a) (State.WarmedH.refl U) q.2.2.2.2.2.2⟩, fun U hU hW => ⟨rfl, by rw [hU], by rw [hU]; exact hP, va_K.moved hW.alike hK, hD.weaken (fun _ _ _ _ => trivial), hkp.warm hW, by rw [hU]; exact hXk.warm hW⟩⟩ rfl rfl hz hst9 (lv_room hw8) hdg hr) hS (fun q _ h => hFc q h) hFc (fun r9 u9 t9 H1 locs1 ht9 hvm9 hw9 hB9 hz9 hk9 hS1 => ?_)
  obtain ⟨v9, sa9, st9, ch9⟩ := u9
  obtain ⟨hP1, hD1⟩ := hB9
  rw [ht9] at hP1
  obtain ⟨hr9, I9, hz9⟩ := hw9
  subst hr9
  exact kk v9 sa9 st9 ch9 H1 locs1 I9 hz9 hP1 (pD_iff.mpr ⟨(pD_iff.mp hD1).1, fun x hx => hFc _ ((pD_iff.mp hD1).2 x hx)⟩) hS1
end ACTC
