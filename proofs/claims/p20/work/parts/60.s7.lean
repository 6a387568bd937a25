set_option maxHeartbeats 4000000 in
set_option maxRecDepth 100000 in
theorem law_p1 {p : Program} {l : Launch} {e : Env} {s : State} {m : MethodId} {below : List Frame} {meth : Method} {c : Code} {b L : Nat} {xs : Nat → Int32} {D : va_G} {cy : Nat → ClassId} {A : Nat → Prop} {Q : State → Prop} {b1 : Nat} {a q q2 ca ta : Nat → Nat} {sa st ch : Nat → Nat} {u : US} {g : HS} {tm : Nat} (X : LX p l s m c b L xs D cy A) (I : INV u) (hz : zh (uh u) = tm) (htm : tm < 26) (kk : ∀ (u1 : US) (sa1 : Nat → Nat) (st1 : Nat → Nat) (ch1 : Nat → Nat) (g2 : HS) (wo : Nat) (rr : Nat → Nat) (r74 : Nat) (H : Heap) (locs : List Loc) (ls : Array Slot), INV u1 → zh (uh u1) = tm → va_P D vwCl ((([(r74, .inl ((cy 0), 12, .inl (lsF (tone (uh (nx u1))) 12))), (wo, .inl ((cy 4), 12, .inr (.inr (.inr (.inr (fun i => some (rr i)))))))] : va_W) ++ rows12 cy rr 7 (wasG (uh u1) 12 0)) ++ (wS5 cy b1 sa1 st1 ch1 (un u1) (uw u1) (ud u1) (nI (zh (uh u1))) (zl (uh u1)) ++ (rows12 cy st1 6 (rowS (uh u1)) ++ (wX cy a q q2 ca ta u1 g2 ++ chT cy ch1 u1)))) H → va_D A ((([(r74, .inl ((cy 0), 12, .inl (lsF (tone (uh (nx u1))) 12))), (wo, .inl ((cy 4), 12, .inr (.inr (.inr (.inr (fun i => some (rr i)))))))] : va_W) ++ rows12 cy rr 7 (wasG (uh u1) 12 0)) ++ (wS5 cy b1 sa1 st1 ch1 (un u1) (uw u1) (ud u1) (nI (zh (uh u1))) (zl (uh u1)) ++ (rows12 cy st1 6 (rowS (uh u1)) ++ (wX cy a q q2 ca ta u1 g2 ++ chT cy ch1 u1)))) → va_S A s.heap H locs → lv_has ls 26 [(0, .ref b), (1, .ref (a 0)), (2, .ref b1), (3, .int (nI tm)), (5, .ref wo), (6, .ref r74)] → W p l e room_1 s m #[Value.ref b] below meth c H locs (170 + 900 * tm + 230) (1078 + 5400 * tm + 1330) Q (F0 m 138 ls [])) : ∀ (H : Heap) (locs : List Loc) (ls : Array Slot), va_P D vwCl (([] : va_W) ++ (wS5 cy b1 sa st ch (un u) (uw u) (ud u) (nI (zh (uh u))) (zl (uh u)) ++ (rows12 cy st 6 (rowS (uh u)) ++ (wX cy a q q2 ca ta u g ++ chT cy ch u)))) H → va_D A (([] : va_W) ++ (wS5 cy b1 sa st ch (un u) (uw u) (ud u) (nI (zh (uh u))) (zl (uh u)) ++ (rows12 cy st 6 (rowS (uh u)) ++ (wX cy a q q2 ca ta u g ++ chT cy ch u)))) → va_S A s.heap H locs → lv_has ls 26 [(0, .ref b), (1, .ref (a 0)), (2, .ref b1), (3, .int (nI tm))] → W p l e room_1 s m #[Value.ref b] below meth c H locs (170 + 900 * tm) (1078 + 5400 * tm) Q (F0 m 28 ls []) := by
  obtain ⟨hx, hb, hml, hown, hts, hX0, hbl, hL9, hst, hK, hkp, hA, hXA, hbA⟩ := X
  intro H locs ls hP hD hS hl
  refine lv_aload_n hx hb dL_law_28 rfl (lv_at hl 0 rfl) ?_
  refine lv_iload_n hx hb dL_law_29 rfl (lv_at hl 3 rfl) ?_
  refine lv_bipush (v := 16) hx hb dL_law_30 (by decide) ?_
  refine lv_irem hx hb dL_law_32 (by decide) ?_
  refine pc_top (show (nI tm) - (nI tm) / 16 * 16 = nI (tm % 16) from (pk_rem (by omega) (by decide) (by decide))) ?_
  refine pc_calli (va_runS (As := [.ref b, .int (nI (tm % 16))]) (rest := []) ⟨hx, hb, hml, hown, hts⟩ (mL_cell l D cy b L xs (by omega) (tm % 16) (by omega)) (va_cwS 2 hts gW_L_cell rfl rfl rfl (by decide +kernel) ⟨Nat.le_of_ble_eq_true rfl, Nat.le_of_ble_eq_true rfl⟩) ⟨fun a U g mk q => ⟨q.1, va_X.moved (u := U) (U := U.calling g mk a) (Vm.Alike.refl U.vm) q.2.1, q.2.2⟩, fun U hU hW => ⟨rfl, by rw [hU]; exact va_X.moved hW.alike (hX0.kept (hS.2.1 b hbl hbA)), by rw [hU]; exact Nat.lt_of_lt_of_le hbl hS.1⟩⟩ rfl rfl hl.1 rfl (lv_room (Nat.le_of_ble_eq_true rfl)) dL_law_33 ⟨(show 170 + 900 * tm ≤ 617289 by omega), (show 1078 + 5400 * tm ≤ 7249830 by omega)⟩) (fun r9 hr9 => ?_)
  clear hr9
  obtain ⟨w33, rfl⟩ : ∃ z, z = r9 := ⟨_, rfl⟩
  refine lv_iload_n hx hb dL_law_36 rfl (lv_at hl 3 rfl) ?_
  refine lv_bipush (v := 16) hx hb dL_law_37 (by decide) ?_
  refine lv_idiv hx hb dL_law_39 (by decide) ?_
  refine lv_iconst (v := 3) hx hb dL_law_40 (by decide) ?_
  refine lv_imul hx hb dL_law_41 ?_
  refine lv_ishr hx hb dL_law_42 ?_
  refine lv_bipush (v := 107) hx hb dL_law_43 (by decide) ?_
  refine lv_iload_n hx hb dL_law_45 rfl (lv_at hl 3 rfl) ?_
  refine lv_imul hx hb dL_law_46 ?_
  refine pc_top (show 107 * (nI tm) = nI (107 * tm) from pk_mul 107 tm) ?_
  refine lv_iadd hx hb dL_law_47 ?_
  refine lv_istore (lv' := [(4, .int ((w33 >>> ((((nI tm) / 16) * 3) &&& 31)) + (nI (107 * tm)))), (0, .ref b), (1, .ref (a 0)), (2, .ref b1), (3, .int (nI tm))]) hx hb dL_law_48 hl (by decide) rfl (fun ls hl => ?_)
  refine lv_aload_n hx hb dL_law_50 rfl (lv_at hl 2 rfl) ?_
  refine lv_aload_n hx hb dL_law_51 rfl (lv_at hl 3 rfl) ?_
  refine lv_iload hx hb dL_law_52 (lv_at hl 0 rfl) ?_
  refine act_call (xv := (w33 >>> ((((nI tm) / 16) * 3) &&& 31)) + (nI (107 * tm))) (rest := []) hst I hP hD hS hA hK hkp hXA ⟨hx, hb, hml, hown, hts⟩ (va_cwS 3 hts gW_L_act rfl rfl rfl (by decide +kernel) ⟨Nat.le_of_ble_eq_true rfl, Nat.le_of_ble_eq_true rfl⟩) rfl hl.1 (Nat.le_of_ble_eq_true rfl) dL_law_54 ⟨(show 170 + 900 * tm + 8 ≤ 617289 by omega), (show 1078 + 5400 * tm + 48 ≤ 7249830 by omega)⟩ (fun u1 sa1 st1 ch1 H locs I1 hz1 hP hD hS => ?_)
  have hP : va_P D vwCl (([] : va_W) ++ (wS5 cy b1 sa1 st1 ch1 (un u1) (uw u1) (ud u1) (nI (zh (uh u1))) (zl (uh u1)) ++ (rows12 cy st1 6 (rowS (uh u1)) ++ (wX cy a q q2 ca ta u1 g ++ chT cy ch1 u1)))) H := hP
  have hD : va_D A (([] : va_W) ++ (wS5 cy b1 sa1 st1 ch1 (un u1) (uw u1) (ud u1) (nI (zh (uh u1))) (zl (uh u1)) ++ (rows12 cy st1 6 (rowS (uh u1)) ++ (wX cy a q q2 ca ta u1 g ++ chT cy ch1 u1)))) := hD
  refine lv_if_ne (tgt := 62) hx hb dL_law_57 (by decide) (fun c57 => ?_) (fun c57 => absurd c57 (by decide))
  have n57 : ¬ (1 = 0) := fun h9 => c57 ((nI_eq (a := 1) (b := 0) (by omega) (by omega)).mpr h9)
  refine lv_bipush (v := 12) hx hb dL_law_62 (by decide) ?_
  refine lv_bipush (v := 7) hx hb dL_law_64 (by decide) ?_
  refine pc_mna hx hb hown (hts (Cond.classLink RL 71 "[[I") lq_1_3.1) hkp (hts (Cond.arrayClass .int) lq_1_4.1) hK hP hD hS hA (show 170 + 900 * tm + 8 + 13 ≤ 617289 by omega) (show 1078 + 5400 * tm + 48 + 96 ≤ 7249830 by omega) dL_law_66 (fun wo rr H hP hD hS => ?_)
  have hP : va_P D vwCl ((([(wo, .inl ((cy 4), 12, .inr (.inr (.inr (.inr (fun i => if i < 12 then some (rr i) else none))))))] : va_W) ++ rows12 cy rr 7 (fun _ _ => 0)) ++ (wS5 cy b1 sa1 st1 ch1 (un u1) (uw u1) (ud u1) (nI (zh (uh u1))) (zl (uh u1)) ++ (rows12 cy st1 6 (rowS (uh u1)) ++ (wX cy a q q2 ca ta u1 g ++ chT cy ch1 u1)))) H := hP
  have hD : va_D A ((([(wo, .inl ((cy 4), 12, .inr (.inr (.inr (.inr (fun i => if i < 12 then some (rr i) else none))))))] : va_W) ++ rows12 cy rr 7 (fun _ _ => 0)) ++ (wS5 cy b1 sa1 st1 ch1 (un u1) (uw u1) (ud u1) (nI (zh (uh u1))) (zl (uh u1)) ++ (rows12 cy st1 6 (rowS (uh u1)) ++ (wX cy a q q2 ca ta u1 g ++ chT cy ch1 u1)))) := hD
  have hP := va_P_rowq (g := fun i => some (rr i)) hP 0 rfl (fun j hj => if_pos hj)
  have hP : va_P D vwCl ((([(wo, .inl ((cy 4), 12, .inr (.inr (.inr (.inr (fun i => some (rr i)))))))] : va_W) ++ rows12 cy rr 7 (fun _ _ => 0)) ++ (wS5 cy b1 sa1 st1 ch1 (un u1) (uw u1) (ud u1) (nI (zh (uh u1))) (zl (uh u1)) ++ (rows12 cy st1 6 (rowS (uh u1)) ++ (wX cy a q q2 ca ta u1 g ++ chT cy ch1 u1)))) H := hP
  have hD : va_D A ((([(wo, .inl ((cy 4), 12, .inr (.inr (.inr (.inr (fun i => some (rr i)))))))] : va_W) ++ rows12 cy rr 7 (fun _ _ => 0)) ++ (wS5 cy b1 sa1 st1 ch1 (un u1) (uw u1) (ud u1) (nI (zh (uh u1))) (zl (uh u1)) ++ (rows12 cy st1 6 (rowS (uh u1)) ++ (wX cy a q q2 ca ta u1 g ++ chT cy ch1 u1)))) := va_D_addr hD rfl
  refine lv_astore (lv' := [(5, .ref wo), (4, .int ((w33 >>> ((((nI tm) / 16) * 3) &&& 31)) + (nI (107 * tm)))), (0, .ref b), (1, .ref (a 0)), (2, .ref b1), (3, .int (nI tm))]) hx hb dL_law_70 hl (by decide) rfl (fun ls hl => ?_)
  refine lv_bipush (v := 12) hx hb dL_law_72 (by decide) ?_
  refine pc_newaF (atype := .int) (ty := .int) (N' := 12) (a0 := (12, .inl (fun _ => 0))) hx hb (hts (Cond.arrayClass .int) lq_1_4.1) rfl hK hP hD hS hA 0 rfl (fun _ => rfl) (by decide) (by decide) (by decide) (show 170 + 900 * tm + 8 + 13 + 1 ≤ 617289 by omega) (show 1078 + 5400 * tm + 48 + 96 + 12 ≤ 7249830 by omega) dL_law_74 (fun r74 H hP hD hS => ?_)
  have hP : va_P D vwCl ((([(r74, .inl ((cy 0), 12, .inl (fun _ => 0))), (wo, .inl ((cy 4), 12, .inr (.inr (.inr (.inr (fun i => some (rr i)))))))] : va_W) ++ rows12 cy rr 7 (fun _ _ => 0)) ++ (wS5 cy b1 sa1 st1 ch1 (un u1) (uw u1) (ud u1) (nI (zh (uh u1))) (zl (uh u1)) ++ (rows12 cy st1 6 (rowS (uh u1)) ++ (wX cy a q q2 ca ta u1 g ++ chT cy ch1 u1)))) H := hP
  have hD : va_D A ((([(r74, .inl ((cy 0), 12, .inl (fun _ => 0))), (wo, .inl ((cy 4), 12, .inr (.inr (.inr (.inr (fun i => some (rr i)))))))] : va_W) ++ rows12 cy rr 7 (fun _ _ => 0)) ++ (wS5 cy b1 sa1 st1 ch1 (un u1) (uw u1) (ud u1) (nI (zh (uh u1))) (zl (uh u1)) ++ (rows12 cy st1 6 (rowS (uh u1)) ++ (wX cy a q q2 ca ta u1 g ++ chT cy ch1 u1)))) := hD
  refine W.widen (k := 170 + 900 * tm + 8 + 13 + 1) (n := 1078 + 5400 * tm + 48 + 96 + 12) (by omega) (by omega) ?_
  refine lv_astore (lv' := [(6, .ref r74), (5, .ref wo), (4, .int ((w33 >>> ((((nI tm) / 16) * 3) &&& 31)) + (nI (107 * tm)))), (0, .ref b), (1, .ref (a 0)), (2, .ref b1), (3, .int (nI tm))]) hx hb dL_law_76 hl (by decide) rfl (fun ls hl => ?_)
  have e9 : ((fun _ => 0)) = lsF (tone (uh (nx u1))) 0 := (lsF_0 _)
  rw [e9] at hP hD
  clear e9
  have hP : va_P D vwCl ((([(r74, .inl ((cy 0), 12, .inl (lsF (tone (uh (nx u1))) 0))), (wo, .inl ((cy 4), 12, .inr (.inr (.inr (.inr (fun i => some (rr i)))))))] : va_W) ++ rows12 cy rr 7 (fun _ _ => 0)) ++ (wS5 cy b1 sa1 st1 ch1 (un u1) (uw u1) (ud u1) (nI (zh (uh u1))) (zl (uh u1)) ++ (rows12 cy st1 6 (rowS (uh u1)) ++ (wX cy a q q2 ca ta u1 g ++ chT cy ch1 u1)))) H := hP
  have hD : va_D A ((([(r74, .inl ((cy 0), 12, .inl (lsF (tone (uh (nx u1))) 0))), (wo, .inl ((cy 4), 12, .inr (.inr (.inr (.inr (fun i => some (rr i)))))))] : va_W) ++ rows12 cy rr 7 (fun _ _ => 0)) ++ (wS5 cy b1 sa1 st1 ch1 (un u1) (uw u1) (ud u1) (nI (zh (uh u1))) (zl (uh u1)) ++ (rows12 cy st1 6 (rowS (uh u1)) ++ (wX cy a q q2 ca ta u1 g ++ chT cy ch1 u1)))) := hD
  have e9 : (fun _ _ => 0) = wasG (uh u1) 0 0 := (wasG_0 _)
  rw [e9] at hP hD
  clear e9
  have hP : va_P D vwCl ((([(r74, .inl ((cy 0), 12, .inl (lsF (tone (uh (nx u1))) 0))), (wo, .inl ((cy 4), 12, .inr (.inr (.inr (.inr (fun i => some (rr i)))))))] : va_W) ++ rows12 cy rr 7 (wasG (uh u1) 0 0)) ++ (wS5 cy b1 sa1 st1 ch1 (un u1) (uw u1) (ud u1) (nI (zh (uh u1))) (zl (uh u1)) ++ (rows12 cy st1 6 (rowS (uh u1)) ++ (wX cy a q q2 ca ta u1 g ++ chT cy ch1 u1)))) H := hP
  have hD : va_D A ((([(r74, .inl ((cy 0), 12, .inl (lsF (tone (uh (nx u1))) 0))), (wo, .inl ((cy 4), 12, .inr (.inr (.inr (.inr (fun i => some (rr i)))))))] : va_W) ++ rows12 cy rr 7 (wasG (uh u1) 0 0)) ++ (wS5 cy b1 sa1 st1 ch1 (un u1) (uw u1) (ud u1) (nI (zh (uh u1))) (zl (uh u1)) ++ (rows12 cy st1 6 (rowS (uh u1)) ++ (wX cy a q q2 ca ta u1 g ++ chT cy ch1 u1)))) := hD
  refine lv_iconst (v := 0) hx hb dL_law_78 (by decide) ?_
  refine lv_istore (lv' := [(7, .int 0), (6, .ref r74), (5, .ref wo), (4, .int ((w33 >>> ((((nI tm) / 16) * 3) &&& 31)) + (nI (107 * tm)))), (0, .ref b), (1, .ref (a 0)), (2, .ref b1), (3, .int (nI tm))]) hx hb dL_law_79 hl (by decide) rfl (fun ls hl => ?_)
  have loop81 : ∀ (n9 : Nat) (k : Nat) (g2 : HS), k ≤ 12 → 12 - k < n9 → ∀ (H : Heap) (locs : List Loc), va_P D vwCl ((([(r74, .inl ((cy 0), 12, .inl (lsF (tone (uh (nx u1))) k))), (wo, .inl ((cy 4), 12, .inr (.inr (.inr (.inr (fun i => some (rr i)))))))] : va_W) ++ rows12 cy rr 7 (wasG (uh u1) k 0)) ++ (wS5 cy b1 sa1 st1 ch1 (un u1) (uw u1) (ud u1) (nI (zh (uh u1))) (zl (uh u1)) ++ (rows12 cy st1 6 (rowS (uh u1)) ++ (wX cy a q q2 ca ta u1 g2 ++ chT cy ch1 u1)))) H → va_D A ((([(r74, .inl ((cy 0), 12, .inl (lsF (tone (uh (nx u1))) k))), (wo, .inl ((cy 4), 12, .inr (.inr (.inr (.inr (fun i => some (rr i)))))))] : va_W) ++ rows12 cy rr 7 (wasG (uh u1) k 0)) ++ (wS5 cy b1 sa1 st1 ch1 (un u1) (uw u1) (ud u1) (nI (zh (uh u1))) (zl (uh u1)) ++ (rows12 cy st1 6 (rowS (uh u1)) ++ (wX cy a q q2 ca ta u1 g2 ++ chT cy ch1 u1)))) → va_S A s.heap H locs → ∀ ls : Array Slot, lv_has ls 26 [(0, .ref b), (1, .ref (a 0)), (2, .ref b1), (3, .int (nI tm)), (5, .ref wo), (6, .ref r74), (7, .int (nI k))] → W p l e room_1 s m #[Value.ref b] below meth c H locs (170 + 900 * tm + 30 + 16 * k) (1078 + 5400 * tm + 170 + 96 * k) Q (F0 m 81 ls []) := by
    intro n9
    induction n9 with
    | zero => intro k g2 hk h9 H locs hP hD hS ls hl; exact absurd h9 (by omega)
    | succ n9 ih81 =>
      intro k g2 hk h9 H locs hP hD hS ls hl
      refine lv_iload hx hb dL_law_81 (lv_at hl 6 rfl) ?_
      refine lv_bipush (v := 12) hx hb dL_law_83 (by decide) ?_
      refine lv_icmp_ge (tgt := 138) hx hb dL_law_85 (by decide) (fun c85 => ?_) (fun c85 => ?_)
      · have n85 : 12 ≤ k := (nI_leI (a := 12) (b := k) (by omega) (by omega)).mp c85
        have e9 : (wasG (uh u1) k 0) = wasG (uh u1) 12 0 := (by rw [show k = 12 by omega])
        rw [e9] at hP hD
        clear e9
        have hP : va_P D vwCl ((([(r74, .inl ((cy 0), 12, .inl (lsF (tone (uh (nx u1))) k))), (wo, .inl ((cy 4), 12, .inr (.inr (.inr (.inr (fun i => some (rr i)))))))] : va_W) ++ rows12 cy rr 7 (wasG (uh u1) 12 0)) ++ (wS5 cy b1 sa1 st1 ch1 (un u1) (uw u1) (ud u1) (nI (zh (uh u1))) (zl (uh u1)) ++ (rows12 cy st1 6 (rowS (uh u1)) ++ (wX cy a q q2 ca ta u1 g2 ++ chT cy ch1 u1)))) H := hP
        have hD : va_D A ((([(r74, .inl ((cy 0), 12, .inl (lsF (tone (uh (nx u1))) k))), (wo, .inl ((cy 4), 12, .inr (.inr (.inr (.inr (fun i => some (rr i)))))))] : va_W) ++ rows12 cy rr 7 (wasG (uh u1) 12 0)) ++ (wS5 cy b1 sa1 st1 ch1 (un u1) (uw u1) (ud u1) (nI (zh (uh u1))) (zl (uh u1)) ++ (rows12 cy st1 6 (rowS (uh u1)) ++ (wX cy a q q2 ca ta u1 g2 ++ chT cy ch1 u1)))) := hD
        have e9 : (lsF (tone (uh (nx u1))) k) = lsF (tone (uh (nx u1))) 12 := (by rw [show k = 12 by omega])
        rw [e9] at hP hD
        clear e9
        have hP : va_P D vwCl ((([(r74, .inl ((cy 0), 12, .inl (lsF (tone (uh (nx u1))) 12))), (wo, .inl ((cy 4), 12, .inr (.inr (.inr (.inr (fun i => some (rr i)))))))] : va_W) ++ rows12 cy rr 7 (wasG (uh u1) 12 0)) ++ (wS5 cy b1 sa1 st1 ch1 (un u1) (uw u1) (ud u1) (nI (zh (uh u1))) (zl (uh u1)) ++ (rows12 cy st1 6 (rowS (uh u1)) ++ (wX cy a q q2 ca ta u1 g2 ++ chT cy ch1 u1)))) H := hP
        have hD : va_D A ((([(r74, .inl ((cy 0), 12, .inl (lsF (tone (uh (nx u1))) 12))), (wo, .inl ((cy 4), 12, .inr (.inr (.inr (.inr (fun i => some (rr i)))))))] : va_W) ++ rows12 cy rr 7 (wasG (uh u1) 12 0)) ++ (wS5 cy b1 sa1 st1 ch1 (un u1) (uw u1) (ud u1) (nI (zh (uh u1))) (zl (uh u1)) ++ (rows12 cy st1 6 (rowS (uh u1)) ++ (wX cy a q q2 ca ta u1 g2 ++ chT cy ch1 u1)))) := hD
        refine W.widen (k := 170 + 900 * tm + 230) (n := 1078 + 5400 * tm + 1330) (by omega) (by omega) ?_
        exact kk u1 sa1 st1 ch1 g2 wo rr r74 _ _ _ I1 (hz1.trans hz) hP hD hS (lv_sub hl [0, 1, 2, 3, 4, 5] rfl)
      · have n85 : ¬ (12 ≤ k) := fun h9 => c85 ((nI_leI (a := 12) (b := k) (by omega) (by omega)).mpr h9)
        refine lv_iconst (v := 0) hx hb dL_law_88 (by decide) ?_
        refine lv_istore (lv' := [(8, .int 0), (0, .ref b), (1, .ref (a 0)), (2, .ref b1), (3, .int (nI tm)), (5, .ref wo), (6, .ref r74), (7, .int (nI k))]) hx hb dL_law_89 hl (by decide) rfl (fun ls hl => ?_)
        have loop91 : ∀ (n9 : Nat) (w : Nat), w ≤ 7 → 7 - w < n9 → ∀ (H : Heap) (locs : List Loc), va_P D vwCl ((([(r74, .inl ((cy 0), 12, .inl (lsF (tone (uh (nx u1))) k))), (wo, .inl ((cy 4), 12, .inr (.inr (.inr (.inr (fun i => some (rr i)))))))] : va_W) ++ rows12 cy rr 7 (wasG (uh u1) k w)) ++ (wS5 cy b1 sa1 st1 ch1 (un u1) (uw u1) (ud u1) (nI (zh (uh u1))) (zl (uh u1)) ++ (rows12 cy st1 6 (rowS (uh u1)) ++ (wX cy a q q2 ca ta u1 g2 ++ chT cy ch1 u1)))) H → va_D A ((([(r74, .inl ((cy 0), 12, .inl (lsF (tone (uh (nx u1))) k))), (wo, .inl ((cy 4), 12, .inr (.inr (.inr (.inr (fun i => some (rr i)))))))] : va_W) ++ rows12 cy rr 7 (wasG (uh u1) k w)) ++ (wS5 cy b1 sa1 st1 ch1 (un u1) (uw u1) (ud u1) (nI (zh (uh u1))) (zl (uh u1)) ++ (rows12 cy st1 6 (rowS (uh u1)) ++ (wX cy a q q2 ca ta u1 g2 ++ chT cy ch1 u1)))) → va_S A s.heap H locs → ∀ ls : Array Slot, lv_has ls 26 [(0, .ref b), (1, .ref (a 0)), (2, .ref b1), (3, .int (nI tm)), (5, .ref wo), (6, .ref r74), (7, .int (nI k)), (8, .int (nI w))] → W p l e room_1 s m #[Value.ref b] below meth c H locs (170 + 900 * tm + 30 + 16 * k + 2 * w) (1078 + 5400 * tm + 170 + 96 * k + 12 * w) Q (F0 m 91 ls []) := by
          intro n9
          induction n9 with
          | zero => intro w hw h9 H locs hP hD hS ls hl; exact absurd h9 (by omega)
          | succ n9 ih91 =>
            intro w hw h9 H locs hP hD hS ls hl
            refine lv_iload hx hb dL_law_91 (lv_at hl 7 rfl) ?_
            refine lv_bipush (v := 7) hx hb dL_law_93 (by decide) ?_
            refine lv_icmp_ge (tgt := 120) hx hb dL_law_95 (by decide) (fun c95 => ?_) (fun c95 => ?_)
            · have n95 : 7 ≤ w := (nI_leI (a := 7) (b := w) (by omega) (by omega)).mp c95
              have e9 : (wasG (uh u1) k w) = wasG (uh u1) (k + 1) 0 := (by rw [show w = 7 by omega]; exact wasG_7 _ _)
              rw [e9] at hP hD
              clear e9
              have hP : va_P D vwCl ((([(r74, .inl ((cy 0), 12, .inl (lsF (tone (uh (nx u1))) k))), (wo, .inl ((cy 4), 12, .inr (.inr (.inr (.inr (fun i => some (rr i)))))))] : va_W) ++ rows12 cy rr 7 (wasG (uh u1) (k + 1) 0)) ++ (wS5 cy b1 sa1 st1 ch1 (un u1) (uw u1) (ud u1) (nI (zh (uh u1))) (zl (uh u1)) ++ (rows12 cy st1 6 (rowS (uh u1)) ++ (wX cy a q q2 ca ta u1 g2 ++ chT cy ch1 u1)))) H := hP
              have hD : va_D A ((([(r74, .inl ((cy 0), 12, .inl (lsF (tone (uh (nx u1))) k))), (wo, .inl ((cy 4), 12, .inr (.inr (.inr (.inr (fun i => some (rr i)))))))] : va_W) ++ rows12 cy rr 7 (wasG (uh u1) (k + 1) 0)) ++ (wS5 cy b1 sa1 st1 ch1 (un u1) (uw u1) (ud u1) (nI (zh (uh u1))) (zl (uh u1)) ++ (rows12 cy st1 6 (rowS (uh u1)) ++ (wX cy a q q2 ca ta u1 g2 ++ chT cy ch1 u1)))) := hD
              refine lv_aload hx hb dL_law_120 (lv_at hl 5 rfl) ?_
              refine lv_iload hx hb dL_law_122 (lv_at hl 6 rfl) ?_
              refine lv_aload_n hx hb dL_law_124 rfl (lv_at hl 1 rfl) ?_
              refine lv_iconst (v := 1) hx hb dL_law_125 (by decide) ?_
              refine lv_iload hx hb dL_law_126 (lv_at hl 6 rfl) ?_
              refine cls_w (Lc := (([(r74, .inl ((cy 0), 12, .inl (lsF (tone (uh (nx u1))) k))), (wo, .inl ((cy 4), 12, .inr (.inr (.inr (.inr (fun i => some (rr i)))))))] : va_W) ++ rows12 cy rr 7 (wasG (uh u1) (k + 1) 0))) (S5 := wS5 cy b1 sa1 st1 ch1 (un u1) (uw u1) (ud u1) (nI (zh (uh u1))) (zl (uh u1))) (S12 := rows12 cy st1 6 (rowS (uh u1))) (T := chT cy ch1 u1) (As := [.int 1, .int (nI k)]) (rest := [.int (nI k), .ref r74]) (uf := fun (_ : HS) => u1) (gf := fun (z : HS) => z) hP hD hS hA hK hXA ⟨hx, hb, hml, hown, hts⟩ (mX2_foresee l hst D cy H.size a q q2 ca ta u1 g2 I1.1 1 (nI k)) (fun E h => h.2 (exFor_1 (by omega))) (cwV 2 hts gW_X2_foresee rfl rfl rfl (by decide +kernel) ⟨Nat.le_of_ble_eq_true rfl, Nat.le_of_ble_eq_true rfl⟩) rfl rfl hl.1 (Nat.le_of_ble_eq_true rfl) dL_law_128 ⟨(show 170 + 900 * tm + 30 + 16 * k + 2 * w + 2 ≤ 617289 by omega), (show 1078 + 5400 * tm + 170 + 96 * k + 12 * w + 12 ≤ 7249830 by omega)⟩ (fun g3 H locs hP hD hS => ?_)
              have hP : va_P D vwCl ((([(r74, .inl ((cy 0), 12, .inl (lsF (tone (uh (nx u1))) k))), (wo, .inl ((cy 4), 12, .inr (.inr (.inr (.inr (fun i => some (rr i)))))))] : va_W) ++ rows12 cy rr 7 (wasG (uh u1) (k + 1) 0)) ++ (wS5 cy b1 sa1 st1 ch1 (un u1) (uw u1) (ud u1) (nI (zh (uh u1))) (zl (uh u1)) ++ (rows12 cy st1 6 (rowS (uh u1)) ++ (wX cy a q q2 ca ta u1 g3 ++ chT cy ch1 u1)))) H := hP
              have hD : va_D A ((([(r74, .inl ((cy 0), 12, .inl (lsF (tone (uh (nx u1))) k))), (wo, .inl ((cy 4), 12, .inr (.inr (.inr (.inr (fun i => some (rr i)))))))] : va_W) ++ rows12 cy rr 7 (wasG (uh u1) (k + 1) 0)) ++ (wS5 cy b1 sa1 st1 ch1 (un u1) (uw u1) (ud u1) (nI (zh (uh u1))) (zl (uh u1)) ++ (rows12 cy st1 6 (rowS (uh u1)) ++ (wX cy a q q2 ca ta u1 g3 ++ chT cy ch1 u1)))) := hD
              refine pc_top (show tone (hN (ix (nI k)) (ix (nI k) + 1) (uw u1) (ud u1) (uh u1) (ix 1)) (ix (nI k)) = tone (uh (nx u1)) k from (fore_eq u1 (by omega))) ?_
              refine pc_iast hx hb hK hP hD hS 0 0 rfl rfl (k := k) (show k < 12 by omega) (by decide) dL_law_131 (fun H locs hP hD hS => ?_)
              have hP : va_P D vwCl ((([(r74, .inl ((cy 0), 12, .inl (upd (lsF (tone (uh (nx u1))) k) k (tone (uh (nx u1)) k)))), (wo, .inl ((cy 4), 12, .inr (.inr (.inr (.inr (fun i => some (rr i)))))))] : va_W) ++ rows12 cy rr 7 (wasG (uh u1) (k + 1) 0)) ++ (wS5 cy b1 sa1 st1 ch1 (un u1) (uw u1) (ud u1) (nI (zh (uh u1))) (zl (uh u1)) ++ (rows12 cy st1 6 (rowS (uh u1)) ++ (wX cy a q q2 ca ta u1 g3 ++ chT cy ch1 u1)))) H := hP
              have hD : va_D A ((([(r74, .inl ((cy 0), 12, .inl (upd (lsF (tone (uh (nx u1))) k) k (tone (uh (nx u1)) k)))), (wo, .inl ((cy 4), 12, .inr (.inr (.inr (.inr (fun i => some (rr i)))))))] : va_W) ++ rows12 cy rr 7 (wasG (uh u1) (k + 1) 0)) ++ (wS5 cy b1 sa1 st1 ch1 (un u1) (uw u1) (ud u1) (nI (zh (uh u1))) (zl (uh u1)) ++ (rows12 cy st1 6 (rowS (uh u1)) ++ (wX cy a q q2 ca ta u1 g3 ++ chT cy ch1 u1)))) := hD
              have e9 : (upd (lsF (tone (uh (nx u1))) k) k (tone (uh (nx u1)) k)) = lsF (tone (uh (nx u1))) (k + 1) := (lsF_s _ _)
              rw [e9] at hP hD
              clear e9
              have hP : va_P D vwCl ((([(r74, .inl ((cy 0), 12, .inl (lsF (tone (uh (nx u1))) (k + 1)))), (wo, .inl ((cy 4), 12, .inr (.inr (.inr (.inr (fun i => some (rr i)))))))] : va_W) ++ rows12 cy rr 7 (wasG (uh u1) (k + 1) 0)) ++ (wS5 cy b1 sa1 st1 ch1 (un u1) (uw u1) (ud u1) (nI (zh (uh u1))) (zl (uh u1)) ++ (rows12 cy st1 6 (rowS (uh u1)) ++ (wX cy a q q2 ca ta u1 g3 ++ chT cy ch1 u1)))) H := hP
              have hD : va_D A ((([(r74, .inl ((cy 0), 12, .inl (lsF (tone (uh (nx u1))) (k + 1)))), (wo, .inl ((cy 4), 12, .inr (.inr (.inr (.inr (fun i => some (rr i)))))))] : va_W) ++ rows12 cy rr 7 (wasG (uh u1) (k + 1) 0)) ++ (wS5 cy b1 sa1 st1 ch1 (un u1) (uw u1) (ud u1) (nI (zh (uh u1))) (zl (uh u1)) ++ (rows12 cy st1 6 (rowS (uh u1)) ++ (wX cy a q q2 ca ta u1 g3 ++ chT cy ch1 u1)))) := hD
              refine lv_iinc (v := nI (k + 1)) (lv' := [(7, .int (nI (k + 1))), (0, .ref b), (1, .ref (a 0)), (2, .ref b1), (3, .int (nI tm)), (5, .ref wo), (6, .ref r74), (8, .int (nI w))]) hx hb dL_law_132 hl (k := 6) rfl ((show (nI k) + Int32.ofInt 1 = (nI k) + 1 from rfl).trans (show (nI k) + 1 = nI (k + 1) from nI_add k 1)) (by decide) rfl (fun ls hl => ?_)
              refine lv_goto (tgt := 81) hx hb dL_law_135 (by decide) ?_
              refine W.widen (k := 170 + 900 * tm + 30 + 16 * (k + 1)) (n := 1078 + 5400 * tm + 170 + 96 * (k + 1)) (by omega) (by omega) ?_
              exact ih81 (k + 1) g3 (by omega) (by omega) _ _ hP hD hS ls (lv_sub hl [1, 2, 3, 4, 5, 6, 0] rfl)
            · have n95 : ¬ (7 ≤ w) := fun h9 => c95 ((nI_leI (a := 7) (b := w) (by omega) (by omega)).mpr h9)
              refine lv_aload hx hb dL_law_98 (lv_at hl 4 rfl) ?_
              refine lv_iload hx hb dL_law_100 (lv_at hl 6 rfl) ?_
              refine pc_aldA hx hb hkp hP 1 rfl (k := k) (show k < 12 by omega) (by decide) (v := rr k) rfl dL_law_102 ?_
              refine lv_iload hx hb dL_law_103 (lv_at hl 7 rfl) ?_
              refine lv_aload_n hx hb dL_law_105 rfl (lv_at hl 1 rfl) ?_
              refine lv_iload hx hb dL_law_106 (lv_at hl 6 rfl) ?_
              refine lv_iload hx hb dL_law_108 (lv_at hl 7 rfl) ?_
              refine cls_p (Lc := (([(r74, .inl ((cy 0), 12, .inl (lsF (tone (uh (nx u1))) k))), (wo, .inl ((cy 4), 12, .inr (.inr (.inr (.inr (fun i => some (rr i)))))))] : va_W) ++ rows12 cy rr 7 (wasG (uh u1) k w))) (S5 := wS5 cy b1 sa1 st1 ch1 (un u1) (uw u1) (ud u1) (nI (zh (uh u1))) (zl (uh u1))) (S12 := rows12 cy st1 6 (rowS (uh u1))) (T := chT cy ch1 u1) (As := [.int (nI k), .int (nI w)]) (rest := [.int (nI w), .ref (rr k)]) hP hS hK hXA ⟨hx, hb, hml, hown, hts⟩ (mX2_string l hst D cy a q q2 ca ta u1 g2 I1.1 (nI k) (nI w)) (fun E h => h.2 (exStr_0 (by omega) (by omega))) (cwV 2 hts gW_X2_string rfl rfl rfl (by decide +kernel) ⟨Nat.le_of_ble_eq_true rfl, Nat.le_of_ble_eq_true rfl⟩) rfl rfl hl.1 (Nat.le_of_ble_eq_true rfl) dL_law_110 ⟨(show 170 + 900 * tm + 30 + 16 * k + 2 * w + 2 ≤ 617289 by omega), (show 1078 + 5400 * tm + 170 + 96 * k + 12 * w + 12 ≤ 7249830 by omega)⟩ ?_
              refine pc_top (show factH (uh u1) (ix (nI k)) (ix (nI w)) = factH (uh u1) k w from (fact_nI (by omega) (by omega))) ?_
              refine row_astW hx hb hK hP hD hS (k := k) (j := w) (show k < 12 by omega) (show w < 7 by omega) (by decide) dL_law_113 (fun H locs hP hD hS => ?_)
              have hP : va_P D vwCl ((([(r74, .inl ((cy 0), 12, .inl (lsF (tone (uh (nx u1))) k))), (wo, .inl ((cy 4), 12, .inr (.inr (.inr (.inr (fun i => some (rr i)))))))] : va_W) ++ rows12 cy rr 7 (rset (wasG (uh u1) k w) k w (factH (uh u1) k w))) ++ (wS5 cy b1 sa1 st1 ch1 (un u1) (uw u1) (ud u1) (nI (zh (uh u1))) (zl (uh u1)) ++ (rows12 cy st1 6 (rowS (uh u1)) ++ (wX cy a q q2 ca ta u1 g2 ++ chT cy ch1 u1)))) H := hP
              have hD : va_D A ((([(r74, .inl ((cy 0), 12, .inl (lsF (tone (uh (nx u1))) k))), (wo, .inl ((cy 4), 12, .inr (.inr (.inr (.inr (fun i => some (rr i)))))))] : va_W) ++ rows12 cy rr 7 (rset (wasG (uh u1) k w) k w (factH (uh u1) k w))) ++ (wS5 cy b1 sa1 st1 ch1 (un u1) (uw u1) (ud u1) (nI (zh (uh u1))) (zl (uh u1)) ++ (rows12 cy st1 6 (rowS (uh u1)) ++ (wX cy a q q2 ca ta u1 g2 ++ chT cy ch1 u1)))) := hD
              have e9 : (rset (wasG (uh u1) k w) k w (factH (uh u1) k w)) = wasG (uh u1) k (w + 1) := (wasG_s _ _ (by omega))
              rw [e9] at hP hD
              clear e9
              have hP : va_P D vwCl ((([(r74, .inl ((cy 0), 12, .inl (lsF (tone (uh (nx u1))) k))), (wo, .inl ((cy 4), 12, .inr (.inr (.inr (.inr (fun i => some (rr i)))))))] : va_W) ++ rows12 cy rr 7 (wasG (uh u1) k (w + 1))) ++ (wS5 cy b1 sa1 st1 ch1 (un u1) (uw u1) (ud u1) (nI (zh (uh u1))) (zl (uh u1)) ++ (rows12 cy st1 6 (rowS (uh u1)) ++ (wX cy a q q2 ca ta u1 g2 ++ chT cy ch1 u1)))) H := hP
              have hD : va_D A ((([(r74, .inl ((cy 0), 12, .inl (lsF (tone (uh (nx u1))) k))), (wo, .inl ((cy 4), 12, .inr (.inr (.inr (.inr (fun i => some (rr i)))))))] : va_W) ++ rows12 cy rr 7 (wasG (uh u1) k (w + 1))) ++ (wS5 cy b1 sa1 st1 ch1 (un u1) (uw u1) (ud u1) (nI (zh (uh u1))) (zl (uh u1)) ++ (rows12 cy st1 6 (rowS (uh u1)) ++ (wX cy a q q2 ca ta u1 g2 ++ chT cy ch1 u1)))) := hD
              refine lv_iinc (v := nI (w + 1)) (lv' := [(8, .int (nI (w + 1))), (0, .ref b), (1, .ref (a 0)), (2, .ref b1), (3, .int (nI tm)), (5, .ref wo), (6, .ref r74), (7, .int (nI k))]) hx hb dL_law_114 hl (k := 7) rfl ((show (nI w) + Int32.ofInt 1 = (nI w) + 1 from rfl).trans (show (nI w) + 1 = nI (w + 1) from nI_add w 1)) (by decide) rfl (fun ls hl => ?_)
              refine lv_goto (tgt := 91) hx hb dL_law_117 (by decide) ?_
              refine W.widen (k := 170 + 900 * tm + 30 + 16 * k + 2 * (w + 1)) (n := 1078 + 5400 * tm + 170 + 96 * k + 12 * (w + 1)) (by omega) (by omega) ?_
              exact ih91 (w + 1) (by omega) (by omega) _ _ hP hD hS ls (lv_sub hl [1, 2, 3, 4, 5, 6, 7, 0] rfl)
        refine W.widen (k := 170 + 900 * tm + 30 + 16 * k + 2 * 0) (n := 1078 + 5400 * tm + 170 + 96 * k + 12 * 0) (by omega) (by omega) ?_
        exact loop91 (7 + 1) 0 (by decide) (by omega) _ _ hP hD hS ls (lv_sub hl [1, 2, 3, 4, 5, 6, 7, 0] rfl)
  refine W.widen (k := 170 + 900 * tm + 30 + 16 * 0) (n := 1078 + 5400 * tm + 170 + 96 * 0) (by omega) (by omega) ?_
  exact loop81 (12 + 1) 0 g (by decide) (by omega) _ _ hP hD hS ls (lv_sub hl [4, 5, 6, 7, 2, 1, 0] rfl)

