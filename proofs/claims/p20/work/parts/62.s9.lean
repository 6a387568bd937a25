theorem tone_law {h : HS} {k : Nat} {x y : Int32} (hz : ¬ zo h k = 0) (hx : x = 3 * (if 0 < k then zw h (k - 1) else 0)) (hy : y = 3 * (if k < 11 then zw h (k + 1) else 0)) : zb h k + 10 * zw h k + zd h k - zl h + x + y = tone h k := by
  rw [tone_36 hz, hx, hy]
  grind
set_option maxHeartbeats 4000000 in
set_option maxRecDepth 100000 in
theorem law_p3 {p : Program} {l : Launch} {e : Env} {s : State} {m : MethodId} {below : List Frame} {meth : Method} {c : Code} {b L : Nat} {xs : Nat → Int32} {D : va_G} {cy : Nat → ClassId} {A : Nat → Prop} {Q : State → Prop} {b1 : Nat} {a q q2 ca ta : Nat → Nat} {sa st ch : Nat → Nat} {u : US} {g : HS} {tm th wo ho : Nat} {rr : Nat → Nat} (X : LX p l s m c b L xs D cy A) (I : INV u) (I2 : INV (nx u)) (hz : zh (uh u) = tm) (htm : tm < 26) (kk : ∀  (H : Heap) (locs : List Loc) (ls : Array Slot), va_P D vwCl ((([(ho, .inl ((cy 0), un u, .inl (lsF (hq u) (un u)))), (th, .inl ((cy 0), 12, .inl (lsF (tone (uh (nx u))) 12))), (wo, .inl ((cy 4), 12, .inr (.inr (.inr (.inr (fun i => some (rr i)))))))] : va_W) ++ rows12 cy rr 7 (wasG (uh u) 12 0)) ++ (wS5 cy b1 sa st ch (un (nx u)) (uw (nx u)) (ud (nx u)) (nI (zh (uh (nx u)))) (zl (uh (nx u))) ++ (rows12 cy st 6 (rowS (uh (nx u))) ++ (wX cy a q q2 ca ta (nx u) g ++ chT cy ch (nx u))))) H → va_D A ((([(ho, .inl ((cy 0), un u, .inl (lsF (hq u) (un u)))), (th, .inl ((cy 0), 12, .inl (lsF (tone (uh (nx u))) 12))), (wo, .inl ((cy 4), 12, .inr (.inr (.inr (.inr (fun i => some (rr i)))))))] : va_W) ++ rows12 cy rr 7 (wasG (uh u) 12 0)) ++ (wS5 cy b1 sa st ch (un (nx u)) (uw (nx u)) (ud (nx u)) (nI (zh (uh (nx u)))) (zl (uh (nx u))) ++ (rows12 cy st 6 (rowS (uh (nx u))) ++ (wX cy a q q2 ca ta (nx u) g ++ chT cy ch (nx u))))) → va_S A s.heap H locs → lv_has ls 26 [(0, .ref b), (1, .ref (a 0)), (2, .ref b1), (3, .int (nI tm)), (11, .int (nI (un u))), (12, .ref ho)] → W p l e room_1 s m #[Value.ref b] below meth c H locs (170 + 900 * tm + 720) (1078 + 5400 * tm + 4200) Q (F0 m 860 ls [])) : ∀ (H : Heap) (locs : List Loc) (ls : Array Slot), va_P D vwCl ((([(ho, .inl ((cy 0), un u, .inl (lsF (hq u) (un u)))), (th, .inl ((cy 0), 12, .inl (lsF (tone (uh (nx u))) 12))), (wo, .inl ((cy 4), 12, .inr (.inr (.inr (.inr (fun i => some (rr i)))))))] : va_W) ++ rows12 cy rr 7 (wasG (uh u) 12 0)) ++ (wS5 cy b1 sa st ch (un (nx u)) (uw (nx u)) (ud (nx u)) (nI (zh (uh (nx u)))) (zl (uh (nx u))) ++ (rows12 cy st 6 (rowS (uh (nx u))) ++ (wX cy a q q2 ca ta (nx u) g ++ chT cy ch (nx u))))) H → va_D A ((([(ho, .inl ((cy 0), un u, .inl (lsF (hq u) (un u)))), (th, .inl ((cy 0), 12, .inl (lsF (tone (uh (nx u))) 12))), (wo, .inl ((cy 4), 12, .inr (.inr (.inr (.inr (fun i => some (rr i)))))))] : va_W) ++ rows12 cy rr 7 (wasG (uh u) 12 0)) ++ (wS5 cy b1 sa st ch (un (nx u)) (uw (nx u)) (ud (nx u)) (nI (zh (uh (nx u)))) (zl (uh (nx u))) ++ (rows12 cy st 6 (rowS (uh (nx u))) ++ (wX cy a q q2 ca ta (nx u) g ++ chT cy ch (nx u))))) → va_S A s.heap H locs → lv_has ls 26 [(0, .ref b), (1, .ref (a 0)), (2, .ref b1), (3, .int (nI tm)), (5, .ref wo), (6, .ref th), (7, .int (uw u (zh (uh u) % 12))), (8, .int (ud u (zh (uh u) % 12))), (11, .int (nI (un u))), (12, .ref ho), (13, .int (nI (brkN 0 12 (uw u) (uh u)))), (14, .int (zl (uh (nx u))))] → W p l e room_1 s m #[Value.ref b] below meth c H locs (170 + 900 * tm + 258) (1078 + 5400 * tm + 1480) Q (F0 m 288 ls []) := by
  obtain ⟨hx, hb, hml, hown, hts, hX0, hbl, hL9, hst, hK, hkp, hA, hXA, hbA⟩ := X
  intro H locs ls hP hD hS hl
  have hbr : brkN 0 12 (uw u) (uh u) ≤ 12 := brkN_le 0 12 _ _
  refine lv_iconst (v := 0) hx hb dL_law_288 (by decide) ?_
  refine lv_istore (lv' := [(15, .int 0), (0, .ref b), (1, .ref (a 0)), (2, .ref b1), (3, .int (nI tm)), (5, .ref wo), (6, .ref th), (7, .int (uw u (zh (uh u) % 12))), (8, .int (ud u (zh (uh u) % 12))), (11, .int (nI (un u))), (12, .ref ho), (13, .int (nI (brkN 0 12 (uw u) (uh u)))), (14, .int (zl (uh (nx u))))]) hx hb dL_law_289 hl (by decide) rfl (fun ls hl => ?_)
  refine lv_iconst (v := 0) hx hb dL_law_291 (by decide) ?_
  refine lv_istore (lv' := [(16, .int 0), (15, .int 0), (0, .ref b), (1, .ref (a 0)), (2, .ref b1), (3, .int (nI tm)), (5, .ref wo), (6, .ref th), (7, .int (uw u (zh (uh u) % 12))), (8, .int (ud u (zh (uh u) % 12))), (11, .int (nI (un u))), (12, .ref ho), (13, .int (nI (brkN 0 12 (uw u) (uh u)))), (14, .int (zl (uh (nx u))))]) hx hb dL_law_292 hl (by decide) rfl (fun ls hl => ?_)
  refine lv_iconst (v := 0) hx hb dL_law_294 (by decide) ?_
  refine lv_istore (lv' := [(17, .int 0), (16, .int 0), (15, .int 0), (0, .ref b), (1, .ref (a 0)), (2, .ref b1), (3, .int (nI tm)), (5, .ref wo), (6, .ref th), (7, .int (uw u (zh (uh u) % 12))), (8, .int (ud u (zh (uh u) % 12))), (11, .int (nI (un u))), (12, .ref ho), (13, .int (nI (brkN 0 12 (uw u) (uh u)))), (14, .int (zl (uh (nx u))))]) hx hb dL_law_295 hl (by decide) rfl (fun ls hl => ?_)
  refine lv_iconst (v := 0) hx hb dL_law_297 (by decide) ?_
  refine lv_istore (lv' := [(18, .int 0), (17, .int 0), (16, .int 0), (15, .int 0), (0, .ref b), (1, .ref (a 0)), (2, .ref b1), (3, .int (nI tm)), (5, .ref wo), (6, .ref th), (7, .int (uw u (zh (uh u) % 12))), (8, .int (ud u (zh (uh u) % 12))), (11, .int (nI (un u))), (12, .ref ho), (13, .int (nI (brkN 0 12 (uw u) (uh u)))), (14, .int (zl (uh (nx u))))]) hx hb dL_law_298 hl (by decide) rfl (fun ls hl => ?_)
  refine lv_iconst (v := 0) hx hb dL_law_300 (by decide) ?_
  refine lv_istore (lv' := [(19, .int 0), (18, .int 0), (17, .int 0), (16, .int 0), (15, .int 0), (0, .ref b), (1, .ref (a 0)), (2, .ref b1), (3, .int (nI tm)), (5, .ref wo), (6, .ref th), (7, .int (uw u (zh (uh u) % 12))), (8, .int (ud u (zh (uh u) % 12))), (11, .int (nI (un u))), (12, .ref ho), (13, .int (nI (brkN 0 12 (uw u) (uh u)))), (14, .int (zl (uh (nx u))))]) hx hb dL_law_301 hl (by decide) rfl (fun ls hl => ?_)
  have loop303 : ∀ (n9 : Nat) (k : Nat), k ≤ 12 → 12 - k < n9 → ∀ (H : Heap) (locs : List Loc), va_P D vwCl ((([(ho, .inl ((cy 0), un u, .inl (lsF (hq u) (un u)))), (th, .inl ((cy 0), 12, .inl (lsF (tone (uh (nx u))) 12))), (wo, .inl ((cy 4), 12, .inr (.inr (.inr (.inr (fun i => some (rr i)))))))] : va_W) ++ rows12 cy rr 7 (wasG (uh u) 12 0)) ++ (wS5 cy b1 sa st ch (un (nx u)) (uw (nx u)) (ud (nx u)) (nI (zh (uh (nx u)))) (zl (uh (nx u))) ++ (rows12 cy st 6 (rowS (uh (nx u))) ++ (wX cy a q q2 ca ta (nx u) g ++ chT cy ch (nx u))))) H → va_D A ((([(ho, .inl ((cy 0), un u, .inl (lsF (hq u) (un u)))), (th, .inl ((cy 0), 12, .inl (lsF (tone (uh (nx u))) 12))), (wo, .inl ((cy 4), 12, .inr (.inr (.inr (.inr (fun i => some (rr i)))))))] : va_W) ++ rows12 cy rr 7 (wasG (uh u) 12 0)) ++ (wS5 cy b1 sa st ch (un (nx u)) (uw (nx u)) (ud (nx u)) (nI (zh (uh (nx u)))) (zl (uh (nx u))) ++ (rows12 cy st 6 (rowS (uh (nx u))) ++ (wX cy a q q2 ca ta (nx u) g ++ chT cy ch (nx u))))) → va_S A s.heap H locs → ∀ ls : Array Slot, lv_has ls 26 [(0, .ref b), (1, .ref (a 0)), (2, .ref b1), (3, .int (nI tm)), (5, .ref wo), (6, .ref th), (7, .int (uw u (zh (uh u) % 12))), (8, .int (ud u (zh (uh u) % 12))), (11, .int (nI (un u))), (12, .ref ho), (13, .int (nI (brkN 0 12 (uw u) (uh u)))), (14, .int (zl (uh (nx u)))), (15, .int (sumN (fun j => zr (uh (nx u)) j - zr (uh u) j) k)), (16, .int (sumN (zw (uh (nx u))) k)), (17, .int (sumN (zs (uh (nx u))) k)), (18, .int (sumN (zo (uh (nx u))) k)), (19, .int (nI k))] → W p l e room_1 s m #[Value.ref b] below meth c H locs (170 + 900 * tm + 260 + 36 * k) (1078 + 5400 * tm + 1490 + 216 * k) Q (F0 m 303 ls []) := by
    intro n9
    induction n9 with
    | zero => intro k hk h9 H locs hP hD hS ls hl; exact absurd h9 (by omega)
    | succ n9 ih303 =>
      intro k hk h9 H locs hP hD hS ls hl
      refine lv_iload hx hb dL_law_303 (lv_at hl 16 rfl) ?_
      refine lv_bipush (v := 12) hx hb dL_law_305 (by decide) ?_
      refine lv_icmp_ge (tgt := 809) hx hb dL_law_307 (by decide) (fun c307 => ?_) (fun c307 => ?_)
      · have n307 : 12 ≤ k := (nI_leI (a := 12) (b := k) (by omega) (by omega)).mp c307
        refine lv_iload hx hb dL_law_809 (lv_at hl 12 rfl) ?_
        refine pc_top (show sumN (fun j => zr (uh (nx u)) j - zr (uh u) j) k = nI (brkN 0 12 (uw u) (uh u)) from (by rw [show k = 12 by omega]; exact many_is u 12 (Nat.le_refl _))) ?_
        refine lv_iload hx hb dL_law_811 (lv_at hl 10 rfl) ?_
        refine lv_icmp_ne (tgt := 858) hx hb dL_law_813 (by decide) (fun c813 => absurd c813 (not_not_intro rfl)) (fun c813 => ?_)
        have n813 : brkN 0 12 (uw u) (uh u) = brkN 0 12 (uw u) (uh u) := (nI_eq (a := brkN 0 12 (uw u) (uh u)) (b := brkN 0 12 (uw u) (uh u)) (by omega) (by omega)).mp c813
        refine lv_aload_n hx hb dL_law_816 rfl (lv_at hl 1 rfl) ?_
        refine lv_iconst (v := 1) hx hb dL_law_817 (by decide) ?_
        refine cls_p (Lc := (([(ho, .inl ((cy 0), un u, .inl (lsF (hq u) (un u)))), (th, .inl ((cy 0), 12, .inl (lsF (tone (uh (nx u))) 12))), (wo, .inl ((cy 4), 12, .inr (.inr (.inr (.inr (fun i => some (rr i)))))))] : va_W) ++ rows12 cy rr 7 (wasG (uh u) 12 0))) (S5 := wS5 cy b1 sa st ch (un (nx u)) (uw (nx u)) (ud (nx u)) (nI (zh (uh (nx u)))) (zl (uh (nx u)))) (S12 := rows12 cy st 6 (rowS (uh (nx u)))) (T := chT cy ch (nx u)) (As := [.int 1]) (rest := []) hP hS hK hXA ⟨hx, hb, hml, hown, hts⟩ (mX2_count l hst D cy a q q2 ca ta (nx u) g I2.1 1) (fun E h => h.2 (exCnt_0 (w := 1) (by decide))) (cwV 1 hts gW_X2_count rfl rfl rfl (by decide +kernel) ⟨Nat.le_of_ble_eq_true rfl, Nat.le_of_ble_eq_true rfl⟩) rfl rfl hl.1 (Nat.le_of_ble_eq_true rfl) dL_law_818 ⟨(show 170 + 900 * tm + 260 + 36 * k + 1 ≤ 617289 by omega), (show 1078 + 5400 * tm + 1490 + 216 * k + 6 ≤ 7249830 by omega)⟩ ?_
        refine pc_top (show cntOf (nx u) (ix 1) = sumN (zo (uh (nx u))) 12 from (ct_1 _)) ?_
        refine lv_iload hx hb dL_law_821 (lv_at hl 15 rfl) ?_
        refine pc_top (show sumN (zo (uh (nx u))) k = sumN (zo (uh (nx u))) 12 from (by rw [show k = 12 by omega])) ?_
        refine lv_icmp_ne (tgt := 858) hx hb dL_law_823 (by decide) (fun c823 => absurd c823 (not_not_intro rfl)) (fun c823 => ?_)
        refine lv_aload_n hx hb dL_law_826 rfl (lv_at hl 1 rfl) ?_
        refine lv_iconst (v := 5) hx hb dL_law_827 (by decide) ?_
        refine cls_p (Lc := (([(ho, .inl ((cy 0), un u, .inl (lsF (hq u) (un u)))), (th, .inl ((cy 0), 12, .inl (lsF (tone (uh (nx u))) 12))), (wo, .inl ((cy 4), 12, .inr (.inr (.inr (.inr (fun i => some (rr i)))))))] : va_W) ++ rows12 cy rr 7 (wasG (uh u) 12 0))) (S5 := wS5 cy b1 sa st ch (un (nx u)) (uw (nx u)) (ud (nx u)) (nI (zh (uh (nx u)))) (zl (uh (nx u)))) (S12 := rows12 cy st 6 (rowS (uh (nx u)))) (T := chT cy ch (nx u)) (As := [.int 5]) (rest := []) hP hS hK hXA ⟨hx, hb, hml, hown, hts⟩ (mX2_count l hst D cy a q q2 ca ta (nx u) g I2.1 5) (fun E h => h.2 (exCnt_0 (w := 5) (by decide))) (cwV 1 hts gW_X2_count rfl rfl rfl (by decide +kernel) ⟨Nat.le_of_ble_eq_true rfl, Nat.le_of_ble_eq_true rfl⟩) rfl rfl hl.1 (Nat.le_of_ble_eq_true rfl) dL_law_828 ⟨(show 170 + 900 * tm + 260 + 36 * k + 1 + 1 ≤ 617289 by omega), (show 1078 + 5400 * tm + 1490 + 216 * k + 6 + 6 ≤ 7249830 by omega)⟩ ?_
        refine pc_top (show cntOf (nx u) (ix 5) = sumN (zw (uh (nx u))) 12 from (ct_5 _)) ?_
        refine lv_iload hx hb dL_law_831 (lv_at hl 13 rfl) ?_
        refine pc_top (show sumN (zw (uh (nx u))) k = sumN (zw (uh (nx u))) 12 from (by rw [show k = 12 by omega])) ?_
        refine lv_icmp_ne (tgt := 858) hx hb dL_law_833 (by decide) (fun c833 => absurd c833 (not_not_intro rfl)) (fun c833 => ?_)
        refine lv_aload_n hx hb dL_law_836 rfl (lv_at hl 1 rfl) ?_
        refine lv_bipush (v := 6) hx hb dL_law_837 (by decide) ?_
        refine cls_p (Lc := (([(ho, .inl ((cy 0), un u, .inl (lsF (hq u) (un u)))), (th, .inl ((cy 0), 12, .inl (lsF (tone (uh (nx u))) 12))), (wo, .inl ((cy 4), 12, .inr (.inr (.inr (.inr (fun i => some (rr i)))))))] : va_W) ++ rows12 cy rr 7 (wasG (uh u) 12 0))) (S5 := wS5 cy b1 sa st ch (un (nx u)) (uw (nx u)) (ud (nx u)) (nI (zh (uh (nx u)))) (zl (uh (nx u)))) (S12 := rows12 cy st 6 (rowS (uh (nx u)))) (T := chT cy ch (nx u)) (As := [.int 6]) (rest := []) hP hS hK hXA ⟨hx, hb, hml, hown, hts⟩ (mX2_count l hst D cy a q q2 ca ta (nx u) g I2.1 6) (fun E h => h.2 (exCnt_0 (w := 6) (by decide))) (cwV 1 hts gW_X2_count rfl rfl rfl (by decide +kernel) ⟨Nat.le_of_ble_eq_true rfl, Nat.le_of_ble_eq_true rfl⟩) rfl rfl hl.1 (Nat.le_of_ble_eq_true rfl) dL_law_839 ⟨(show 170 + 900 * tm + 260 + 36 * k + 1 + 1 + 1 ≤ 617289 by omega), (show 1078 + 5400 * tm + 1490 + 216 * k + 6 + 6 + 6 ≤ 7249830 by omega)⟩ ?_
        refine pc_top (show cntOf (nx u) (ix 6) = sumN (zs (uh (nx u))) 12 from (ct_6 _)) ?_
        refine lv_iload hx hb dL_law_842 (lv_at hl 14 rfl) ?_
        refine pc_top (show sumN (zs (uh (nx u))) k = sumN (zs (uh (nx u))) 12 from (by rw [show k = 12 by omega])) ?_
        refine lv_icmp_ne (tgt := 858) hx hb dL_law_844 (by decide) (fun c844 => absurd c844 (not_not_intro rfl)) (fun c844 => ?_)
        refine lv_aload_n hx hb dL_law_847 rfl (lv_at hl 1 rfl) ?_
        refine lv_iconst (v := 0) hx hb dL_law_848 (by decide) ?_
        refine cls_p (Lc := (([(ho, .inl ((cy 0), un u, .inl (lsF (hq u) (un u)))), (th, .inl ((cy 0), 12, .inl (lsF (tone (uh (nx u))) 12))), (wo, .inl ((cy 4), 12, .inr (.inr (.inr (.inr (fun i => some (rr i)))))))] : va_W) ++ rows12 cy rr 7 (wasG (uh u) 12 0))) (S5 := wS5 cy b1 sa st ch (un (nx u)) (uw (nx u)) (ud (nx u)) (nI (zh (uh (nx u)))) (zl (uh (nx u)))) (S12 := rows12 cy st 6 (rowS (uh (nx u)))) (T := chT cy ch (nx u)) (As := [.int 0]) (rest := []) hP hS hK hXA ⟨hx, hb, hml, hown, hts⟩ (mX2_count l hst D cy a q q2 ca ta (nx u) g I2.1 0) (fun E h => h.2 (exCnt_0 (w := 0) (by decide))) (cwV 1 hts gW_X2_count rfl rfl rfl (by decide +kernel) ⟨Nat.le_of_ble_eq_true rfl, Nat.le_of_ble_eq_true rfl⟩) rfl rfl hl.1 (Nat.le_of_ble_eq_true rfl) dL_law_849 ⟨(show 170 + 900 * tm + 260 + 36 * k + 1 + 1 + 1 + 1 ≤ 617289 by omega), (show 1078 + 5400 * tm + 1490 + 216 * k + 6 + 6 + 6 + 6 ≤ 7249830 by omega)⟩ ?_
        refine pc_top (show cntOf (nx u) (ix 0) = nI (tm + 1) from ((ct_0 _).trans (by rw [zh_nx, hz]))) ?_
        refine lv_iload_n hx hb dL_law_852 rfl (lv_at hl 3 rfl) ?_
        refine lv_iconst (v := 1) hx hb dL_law_853 (by decide) ?_
        refine lv_iadd hx hb dL_law_854 ?_
        refine pc_top (show (nI tm) + 1 = nI (tm + 1) from nI_add tm 1) ?_
        refine lv_icmp_eq (tgt := 860) hx hb dL_law_855 (by decide) (fun c855 => ?_) (fun c855 => absurd c855 (not_not_intro rfl))
        have n855 : tm + 1 = tm + 1 := (nI_eq (a := tm + 1) (b := tm + 1) (by omega) (by omega)).mp c855
        refine W.widen (k := 170 + 900 * tm + 720) (n := 1078 + 5400 * tm + 4200) (by omega) (by omega) ?_
        exact kk _ _ _ hP hD hS (lv_sub hl [0, 1, 2, 3, 8, 9] rfl)
      · have n307 : ¬ (12 ≤ k) := fun h9 => c307 ((nI_leI (a := 12) (b := k) (by omega) (by omega)).mpr h9)
        have join326 : ∀ (H : Heap) (locs : List Loc), va_P D vwCl ((([(ho, .inl ((cy 0), un u, .inl (lsF (hq u) (un u)))), (th, .inl ((cy 0), 12, .inl (lsF (tone (uh (nx u))) 12))), (wo, .inl ((cy 4), 12, .inr (.inr (.inr (.inr (fun i => some (rr i)))))))] : va_W) ++ rows12 cy rr 7 (wasG (uh u) 12 0)) ++ (wS5 cy b1 sa st ch (un (nx u)) (uw (nx u)) (ud (nx u)) (nI (zh (uh (nx u)))) (zl (uh (nx u))) ++ (rows12 cy st 6 (rowS (uh (nx u))) ++ (wX cy a q q2 ca ta (nx u) g ++ chT cy ch (nx u))))) H → va_D A ((([(ho, .inl ((cy 0), un u, .inl (lsF (hq u) (un u)))), (th, .inl ((cy 0), 12, .inl (lsF (tone (uh (nx u))) 12))), (wo, .inl ((cy 4), 12, .inr (.inr (.inr (.inr (fun i => some (rr i)))))))] : va_W) ++ rows12 cy rr 7 (wasG (uh u) 12 0)) ++ (wS5 cy b1 sa st ch (un (nx u)) (uw (nx u)) (ud (nx u)) (nI (zh (uh (nx u)))) (zl (uh (nx u))) ++ (rows12 cy st 6 (rowS (uh (nx u))) ++ (wX cy a q q2 ca ta (nx u) g ++ chT cy ch (nx u))))) → va_S A s.heap H locs → ∀ ls : Array Slot, lv_has ls 26 [(0, .ref b), (1, .ref (a 0)), (2, .ref b1), (3, .int (nI tm)), (5, .ref wo), (6, .ref th), (7, .int (uw u (zh (uh u) % 12))), (8, .int (ud u (zh (uh u) % 12))), (11, .int (nI (un u))), (12, .ref ho), (13, .int (nI (brkN 0 12 (uw u) (uh u)))), (14, .int (zl (uh (nx u)))), (15, .int (sumN (fun j => zr (uh (nx u)) j - zr (uh u) j) k)), (16, .int (sumN (zw (uh (nx u))) k)), (17, .int (sumN (zs (uh (nx u))) k)), (18, .int (sumN (zo (uh (nx u))) k)), (19, .int (nI k))] → W p l e room_1 s m #[Value.ref b] below meth c H locs (170 + 900 * tm + 260 + 36 * k + 2) (1078 + 5400 * tm + 1490 + 216 * k + 12) Q (F0 m 326 ls [.int (zo (uh (nx u)) k)]) := by
          intro H locs hP hD hS ls hl
          refine lv_istore (lv' := [(20, .int (zo (uh (nx u)) k)), (0, .ref b), (1, .ref (a 0)), (2, .ref b1), (3, .int (nI tm)), (5, .ref wo), (6, .ref th), (7, .int (uw u (zh (uh u) % 12))), (8, .int (ud u (zh (uh u) % 12))), (11, .int (nI (un u))), (12, .ref ho), (13, .int (nI (brkN 0 12 (uw u) (uh u)))), (14, .int (zl (uh (nx u)))), (15, .int (sumN (fun j => zr (uh (nx u)) j - zr (uh u) j) k)), (16, .int (sumN (zw (uh (nx u))) k)), (17, .int (sumN (zs (uh (nx u))) k)), (18, .int (sumN (zo (uh (nx u))) k)), (19, .int (nI k))]) hx hb dL_law_326 hl (by decide) rfl (fun ls hl => ?_)
          refine lv_aload_n hx hb dL_law_328 rfl (lv_at hl 2 rfl) ?_
          refine lv_iload hx hb dL_law_329 (lv_at hl 17 rfl) ?_
          refine lv_iconst (v := 1) hx hb dL_law_331 (by decide) ?_
          refine cls_p (Lc := (([(ho, .inl ((cy 0), un u, .inl (lsF (hq u) (un u)))), (th, .inl ((cy 0), 12, .inl (lsF (tone (uh (nx u))) 12))), (wo, .inl ((cy 4), 12, .inr (.inr (.inr (.inr (fun i => some (rr i)))))))] : va_W) ++ rows12 cy rr 7 (wasG (uh u) 12 0))) (S5 := wS5 cy b1 sa st ch (un (nx u)) (uw (nx u)) (ud (nx u)) (nI (zh (uh (nx u)))) (zl (uh (nx u)))) (S12 := rows12 cy st 6 (rowS (uh (nx u)))) (T := chT cy ch (nx u)) (As := [.int (nI k), .int 1]) (rest := []) hP hS hK hXA ⟨hx, hb, hml, hown, hts⟩ (mX2_string l hst D cy a q q2 ca ta (nx u) g I2.1 (nI (k)) 1) (fun E h => h.2 (exStr_0 (w := 1) (by omega) (by decide))) (cwV 2 hts gW_X2_string rfl rfl rfl (by decide +kernel) ⟨Nat.le_of_ble_eq_true rfl, Nat.le_of_ble_eq_true rfl⟩) rfl rfl hl.1 (Nat.le_of_ble_eq_true rfl) dL_law_332 ⟨(show 170 + 900 * tm + 260 + 36 * k + 2 + 2 ≤ 617289 by omega), (show 1078 + 5400 * tm + 1490 + 216 * k + 12 + 12 ≤ 7249830 by omega)⟩ ?_
          refine pc_top (show factH (uh (nx u)) (ix (nI (k))) (ix 1) = zw (uh (nx u)) k from (fact_nI (w := 1) (by omega) (by decide))) ?_
          refine lv_istore (lv' := [(21, .int (zw (uh (nx u)) k)), (20, .int (zo (uh (nx u)) k)), (0, .ref b), (1, .ref (a 0)), (2, .ref b1), (3, .int (nI tm)), (5, .ref wo), (6, .ref th), (7, .int (uw u (zh (uh u) % 12))), (8, .int (ud u (zh (uh u) % 12))), (11, .int (nI (un u))), (12, .ref ho), (13, .int (nI (brkN 0 12 (uw u) (uh u)))), (14, .int (zl (uh (nx u)))), (15, .int (sumN (fun j => zr (uh (nx u)) j - zr (uh u) j) k)), (16, .int (sumN (zw (uh (nx u))) k)), (17, .int (sumN (zs (uh (nx u))) k)), (18, .int (sumN (zo (uh (nx u))) k)), (19, .int (nI k))]) hx hb dL_law_335 hl (by decide) rfl (fun ls hl => ?_)
          have join414 : ∀ (H : Heap) (locs : List Loc), va_P D vwCl ((([(ho, .inl ((cy 0), un u, .inl (lsF (hq u) (un u)))), (th, .inl ((cy 0), 12, .inl (lsF (tone (uh (nx u))) 12))), (wo, .inl ((cy 4), 12, .inr (.inr (.inr (.inr (fun i => some (rr i)))))))] : va_W) ++ rows12 cy rr 7 (wasG (uh u) 12 0)) ++ (wS5 cy b1 sa st ch (un (nx u)) (uw (nx u)) (ud (nx u)) (nI (zh (uh (nx u)))) (zl (uh (nx u))) ++ (rows12 cy st 6 (rowS (uh (nx u))) ++ (wX cy a q q2 ca ta (nx u) g ++ chT cy ch (nx u))))) H → va_D A ((([(ho, .inl ((cy 0), un u, .inl (lsF (hq u) (un u)))), (th, .inl ((cy 0), 12, .inl (lsF (tone (uh (nx u))) 12))), (wo, .inl ((cy 4), 12, .inr (.inr (.inr (.inr (fun i => some (rr i)))))))] : va_W) ++ rows12 cy rr 7 (wasG (uh u) 12 0)) ++ (wS5 cy b1 sa st ch (un (nx u)) (uw (nx u)) (ud (nx u)) (nI (zh (uh (nx u)))) (zl (uh (nx u))) ++ (rows12 cy st 6 (rowS (uh (nx u))) ++ (wX cy a q q2 ca ta (nx u) g ++ chT cy ch (nx u))))) → va_S A s.heap H locs → ∀ ls : Array Slot, lv_has ls 26 [(0, .ref b), (1, .ref (a 0)), (2, .ref b1), (3, .int (nI tm)), (5, .ref wo), (6, .ref th), (7, .int (uw u (zh (uh u) % 12))), (8, .int (ud u (zh (uh u) % 12))), (11, .int (nI (un u))), (12, .ref ho), (13, .int (nI (brkN 0 12 (uw u) (uh u)))), (14, .int (zl (uh (nx u)))), (15, .int (sumN (fun j => zr (uh (nx u)) j - zr (uh u) j) k)), (16, .int (sumN (zw (uh (nx u))) k)), (17, .int (sumN (zs (uh (nx u))) k)), (18, .int (sumN (zo (uh (nx u))) k)), (19, .int (nI k)), (20, .int (zo (uh (nx u)) k)), (21, .int (zw (uh (nx u)) k))] → W p l e room_1 s m #[Value.ref b] below meth c H locs (170 + 900 * tm + 260 + 36 * k + 12) (1078 + 5400 * tm + 1490 + 216 * k + 72) Q (F0 m 414 ls [.int (tone (uh (nx u)) k)]) := by
            intro H locs hP hD hS ls hl
            refine lv_istore (lv' := [(22, .int (tone (uh (nx u)) k)), (0, .ref b), (1, .ref (a 0)), (2, .ref b1), (3, .int (nI tm)), (5, .ref wo), (6, .ref th), (7, .int (uw u (zh (uh u) % 12))), (8, .int (ud u (zh (uh u) % 12))), (11, .int (nI (un u))), (12, .ref ho), (13, .int (nI (brkN 0 12 (uw u) (uh u)))), (14, .int (zl (uh (nx u)))), (15, .int (sumN (fun j => zr (uh (nx u)) j - zr (uh u) j) k)), (16, .int (sumN (zw (uh (nx u))) k)), (17, .int (sumN (zs (uh (nx u))) k)), (18, .int (sumN (zo (uh (nx u))) k)), (19, .int (nI k)), (20, .int (zo (uh (nx u)) k)), (21, .int (zw (uh (nx u)) k))]) hx hb dL_law_414 hl (by decide) rfl (fun ls hl => ?_)
            refine lv_iload hx hb dL_law_416 (lv_at hl 13 rfl) ?_
            refine lv_aload_n hx hb dL_law_418 rfl (lv_at hl 2 rfl) ?_
            refine lv_iload hx hb dL_law_419 (lv_at hl 17 rfl) ?_
            refine lv_bipush (v := 6) hx hb dL_law_421 (by decide) ?_
            refine cls_p (Lc := (([(ho, .inl ((cy 0), un u, .inl (lsF (hq u) (un u)))), (th, .inl ((cy 0), 12, .inl (lsF (tone (uh (nx u))) 12))), (wo, .inl ((cy 4), 12, .inr (.inr (.inr (.inr (fun i => some (rr i)))))))] : va_W) ++ rows12 cy rr 7 (wasG (uh u) 12 0))) (S5 := wS5 cy b1 sa st ch (un (nx u)) (uw (nx u)) (ud (nx u)) (nI (zh (uh (nx u)))) (zl (uh (nx u)))) (S12 := rows12 cy st 6 (rowS (uh (nx u)))) (T := chT cy ch (nx u)) (As := [.int (nI k), .int 6]) (rest := [.int (sumN (fun j => zr (uh (nx u)) j - zr (uh u) j) k)]) hP hS hK hXA ⟨hx, hb, hml, hown, hts⟩ (mX2_string l hst D cy a q q2 ca ta (nx u) g I2.1 (nI (k)) 6) (fun E h => h.2 (exStr_0 (w := 6) (by omega) (by decide))) (cwV 2 hts gW_X2_string rfl rfl rfl (by decide +kernel) ⟨Nat.le_of_ble_eq_true rfl, Nat.le_of_ble_eq_true rfl⟩) rfl rfl hl.1 (Nat.le_of_ble_eq_true rfl) dL_law_423 ⟨(show 170 + 900 * tm + 260 + 36 * k + 12 + 2 ≤ 617289 by omega), (show 1078 + 5400 * tm + 1490 + 216 * k + 72 + 12 ≤ 7249830 by omega)⟩ ?_
            refine pc_top (show factH (uh (nx u)) (ix (nI (k))) (ix 6) = zr (uh (nx u)) k from (fact_nI (w := 6) (by omega) (by decide))) ?_
            refine lv_aload hx hb dL_law_426 (lv_at hl 5 rfl) ?_
            refine lv_iload hx hb dL_law_428 (lv_at hl 17 rfl) ?_
            refine pc_aldA hx hb hkp hP 2 rfl (k := k) (show k < 12 by omega) (by decide) (v := rr k) rfl dL_law_430 ?_
            refine lv_bipush (v := 6) hx hb dL_law_431 (by decide) ?_
            refine row_aldW hx hb hK hP (k := k) (j := 6) (show k < 12 by omega) (show 6 < 7 by omega) (by decide) dL_law_433 ?_
            refine pc_top (show (wasG (uh u) 12 0) k 6 = zr (uh u) k from (wasG_at (j := 6) (show k < 12 by omega) (by decide))) ?_
            refine lv_isub hx hb dL_law_434 ?_
            refine lv_iadd hx hb dL_law_435 ?_
            refine lv_istore (lv' := [(15, .int ((sumN (fun j => zr (uh (nx u)) j - zr (uh u) j) k) + ((zr (uh (nx u)) k) - (zr (uh u) k)))), (22, .int (tone (uh (nx u)) k)), (0, .ref b), (1, .ref (a 0)), (2, .ref b1), (3, .int (nI tm)), (5, .ref wo), (6, .ref th), (7, .int (uw u (zh (uh u) % 12))), (8, .int (ud u (zh (uh u) % 12))), (11, .int (nI (un u))), (12, .ref ho), (13, .int (nI (brkN 0 12 (uw u) (uh u)))), (14, .int (zl (uh (nx u)))), (16, .int (sumN (zw (uh (nx u))) k)), (17, .int (sumN (zs (uh (nx u))) k)), (18, .int (sumN (zo (uh (nx u))) k)), (19, .int (nI k)), (20, .int (zo (uh (nx u)) k)), (21, .int (zw (uh (nx u)) k))]) hx hb dL_law_436 hl (by decide) rfl (fun ls hl => ?_)
            have r9 : (sumN (fun j => zr (uh (nx u)) j - zr (uh u) j) k) + ((zr (uh (nx u)) k) - (zr (uh u) k)) = sumN (fun j => zr (uh (nx u)) j - zr (uh u) j) (k + 1) := rfl
            rw [r9] at hl
            clear r9
            refine lv_iload hx hb dL_law_438 (lv_at hl 14 rfl) ?_
            refine lv_iload hx hb dL_law_440 (lv_at hl 19 rfl) ?_
            refine lv_iadd hx hb dL_law_442 ?_
            refine lv_istore (lv' := [(16, .int ((sumN (zw (uh (nx u))) k) + (zw (uh (nx u)) k))), (15, .int (sumN (fun j => zr (uh (nx u)) j - zr (uh u) j) (k + 1))), (22, .int (tone (uh (nx u)) k)), (0, .ref b), (1, .ref (a 0)), (2, .ref b1), (3, .int (nI tm)), (5, .ref wo), (6, .ref th), (7, .int (uw u (zh (uh u) % 12))), (8, .int (ud u (zh (uh u) % 12))), (11, .int (nI (un u))), (12, .ref ho), (13, .int (nI (brkN 0 12 (uw u) (uh u)))), (14, .int (zl (uh (nx u)))), (17, .int (sumN (zs (uh (nx u))) k)), (18, .int (sumN (zo (uh (nx u))) k)), (19, .int (nI k)), (20, .int (zo (uh (nx u)) k)), (21, .int (zw (uh (nx u)) k))]) hx hb dL_law_443 hl (by decide) rfl (fun ls hl => ?_)
            have r9 : (sumN (zw (uh (nx u))) k) + (zw (uh (nx u)) k) = sumN (zw (uh (nx u))) (k + 1) := rfl
            rw [r9] at hl
            clear r9
            refine lv_iload hx hb dL_law_445 (lv_at hl 15 rfl) ?_
            refine lv_aload_n hx hb dL_law_447 rfl (lv_at hl 4 rfl) ?_
            refine lv_iload hx hb dL_law_448 (lv_at hl 17 rfl) ?_
            refine lv_iconst (v := 3) hx hb dL_law_450 (by decide) ?_
            refine cls_p (Lc := (([(ho, .inl ((cy 0), un u, .inl (lsF (hq u) (un u)))), (th, .inl ((cy 0), 12, .inl (lsF (tone (uh (nx u))) 12))), (wo, .inl ((cy 4), 12, .inr (.inr (.inr (.inr (fun i => some (rr i)))))))] : va_W) ++ rows12 cy rr 7 (wasG (uh u) 12 0))) (S5 := wS5 cy b1 sa st ch (un (nx u)) (uw (nx u)) (ud (nx u)) (nI (zh (uh (nx u)))) (zl (uh (nx u)))) (S12 := rows12 cy st 6 (rowS (uh (nx u)))) (T := chT cy ch (nx u)) (As := [.int (nI k), .int 3]) (rest := [.int (sumN (zs (uh (nx u))) k)]) hP hS hK hXA ⟨hx, hb, hml, hown, hts⟩ (mX2_string l hst D cy a q q2 ca ta (nx u) g I2.1 (nI (k)) 3) (fun E h => h.2 (exStr_0 (w := 3) (by omega) (by decide))) (cwV 2 hts gW_X2_string rfl rfl rfl (by decide +kernel) ⟨Nat.le_of_ble_eq_true rfl, Nat.le_of_ble_eq_true rfl⟩) rfl rfl hl.1 (Nat.le_of_ble_eq_true rfl) dL_law_451 ⟨(show 170 + 900 * tm + 260 + 36 * k + 12 + 2 + 2 ≤ 617289 by omega), (show 1078 + 5400 * tm + 1490 + 216 * k + 72 + 12 + 12 ≤ 7249830 by omega)⟩ ?_
            refine pc_top (show factH (uh (nx u)) (ix (nI (k))) (ix 3) = zs (uh (nx u)) k from (fact_nI (w := 3) (by omega) (by decide))) ?_
            refine lv_iadd hx hb dL_law_454 ?_
            refine lv_istore (lv' := [(17, .int ((sumN (zs (uh (nx u))) k) + (zs (uh (nx u)) k))), (16, .int (sumN (zw (uh (nx u))) (k + 1))), (15, .int (sumN (fun j => zr (uh (nx u)) j - zr (uh u) j) (k + 1))), (22, .int (tone (uh (nx u)) k)), (0, .ref b), (1, .ref (a 0)), (2, .ref b1), (3, .int (nI tm)), (5, .ref wo), (6, .ref th), (7, .int (uw u (zh (uh u) % 12))), (8, .int (ud u (zh (uh u) % 12))), (11, .int (nI (un u))), (12, .ref ho), (13, .int (nI (brkN 0 12 (uw u) (uh u)))), (14, .int (zl (uh (nx u)))), (18, .int (sumN (zo (uh (nx u))) k)), (19, .int (nI k)), (20, .int (zo (uh (nx u)) k)), (21, .int (zw (uh (nx u)) k))]) hx hb dL_law_455 hl (by decide) rfl (fun ls hl => ?_)
            have r9 : (sumN (zs (uh (nx u))) k) + (zs (uh (nx u)) k) = sumN (zs (uh (nx u))) (k + 1) := rfl
            rw [r9] at hl
            clear r9
            have join469 : ∀ (H : Heap) (locs : List Loc), va_P D vwCl ((([(ho, .inl ((cy 0), un u, .inl (lsF (hq u) (un u)))), (th, .inl ((cy 0), 12, .inl (lsF (tone (uh (nx u))) 12))), (wo, .inl ((cy 4), 12, .inr (.inr (.inr (.inr (fun i => some (rr i)))))))] : va_W) ++ rows12 cy rr 7 (wasG (uh u) 12 0)) ++ (wS5 cy b1 sa st ch (un (nx u)) (uw (nx u)) (ud (nx u)) (nI (zh (uh (nx u)))) (zl (uh (nx u))) ++ (rows12 cy st 6 (rowS (uh (nx u))) ++ (wX cy a q q2 ca ta (nx u) g ++ chT cy ch (nx u))))) H → va_D A ((([(ho, .inl ((cy 0), un u, .inl (lsF (hq u) (un u)))), (th, .inl ((cy 0), 12, .inl (lsF (tone (uh (nx u))) 12))), (wo, .inl ((cy 4), 12, .inr (.inr (.inr (.inr (fun i => some (rr i)))))))] : va_W) ++ rows12 cy rr 7 (wasG (uh u) 12 0)) ++ (wS5 cy b1 sa st ch (un (nx u)) (uw (nx u)) (ud (nx u)) (nI (zh (uh (nx u)))) (zl (uh (nx u))) ++ (rows12 cy st 6 (rowS (uh (nx u))) ++ (wX cy a q q2 ca ta (nx u) g ++ chT cy ch (nx u))))) → va_S A s.heap H locs → ∀ ls : Array Slot, lv_has ls 26 [(0, .ref b), (1, .ref (a 0)), (2, .ref b1), (3, .int (nI tm)), (5, .ref wo), (6, .ref th), (7, .int (uw u (zh (uh u) % 12))), (8, .int (ud u (zh (uh u) % 12))), (11, .int (nI (un u))), (12, .ref ho), (13, .int (nI (brkN 0 12 (uw u) (uh u)))), (14, .int (zl (uh (nx u)))), (15, .int (sumN (fun j => zr (uh (nx u)) j - zr (uh u) j) (k + 1))), (16, .int (sumN (zw (uh (nx u))) (k + 1))), (17, .int (sumN (zs (uh (nx u))) (k + 1))), (18, .int (sumN (zo (uh (nx u))) k)), (19, .int (nI k)), (20, .int (zo (uh (nx u)) k)), (21, .int (zw (uh (nx u)) k)), (22, .int (tone (uh (nx u)) k))] → W p l e room_1 s m #[Value.ref b] below meth c H locs (170 + 900 * tm + 260 + 36 * k + 16) (1078 + 5400 * tm + 1490 + 216 * k + 96) Q (F0 m 469 ls [.int (zo (uh (nx u)) k), .int (sumN (zo (uh (nx u))) k)]) := by
              intro H locs hP hD hS ls hl
              refine lv_iadd hx hb dL_law_469 ?_
              refine lv_istore (lv' := [(18, .int ((sumN (zo (uh (nx u))) k) + (zo (uh (nx u)) k))), (0, .ref b), (1, .ref (a 0)), (2, .ref b1), (3, .int (nI tm)), (5, .ref wo), (6, .ref th), (7, .int (uw u (zh (uh u) % 12))), (8, .int (ud u (zh (uh u) % 12))), (11, .int (nI (un u))), (12, .ref ho), (13, .int (nI (brkN 0 12 (uw u) (uh u)))), (14, .int (zl (uh (nx u)))), (15, .int (sumN (fun j => zr (uh (nx u)) j - zr (uh u) j) (k + 1))), (16, .int (sumN (zw (uh (nx u))) (k + 1))), (17, .int (sumN (zs (uh (nx u))) (k + 1))), (19, .int (nI k)), (20, .int (zo (uh (nx u)) k)), (21, .int (zw (uh (nx u)) k)), (22, .int (tone (uh (nx u)) k))]) hx hb dL_law_470 hl (by decide) rfl (fun ls hl => ?_)
              have r9 : (sumN (zo (uh (nx u))) k) + (zo (uh (nx u)) k) = sumN (zo (uh (nx u))) (k + 1) := rfl
              rw [r9] at hl
              clear r9
              refine lv_aload_n hx hb dL_law_472 rfl (lv_at hl 2 rfl) ?_
              refine lv_iload hx hb dL_law_473 (lv_at hl 16 rfl) ?_
              refine lv_iconst (v := 5) hx hb dL_law_475 (by decide) ?_
              refine cls_p (Lc := (([(ho, .inl ((cy 0), un u, .inl (lsF (hq u) (un u)))), (th, .inl ((cy 0), 12, .inl (lsF (tone (uh (nx u))) 12))), (wo, .inl ((cy 4), 12, .inr (.inr (.inr (.inr (fun i => some (rr i)))))))] : va_W) ++ rows12 cy rr 7 (wasG (uh u) 12 0))) (S5 := wS5 cy b1 sa st ch (un (nx u)) (uw (nx u)) (ud (nx u)) (nI (zh (uh (nx u)))) (zl (uh (nx u)))) (S12 := rows12 cy st 6 (rowS (uh (nx u)))) (T := chT cy ch (nx u)) (As := [.int (nI k), .int 5]) (rest := []) hP hS hK hXA ⟨hx, hb, hml, hown, hts⟩ (mX2_string l hst D cy a q q2 ca ta (nx u) g I2.1 (nI (k)) 5) (fun E h => h.2 (exStr_0 (w := 5) (by omega) (by decide))) (cwV 2 hts gW_X2_string rfl rfl rfl (by decide +kernel) ⟨Nat.le_of_ble_eq_true rfl, Nat.le_of_ble_eq_true rfl⟩) rfl rfl hl.1 (Nat.le_of_ble_eq_true rfl) dL_law_476 ⟨(show 170 + 900 * tm + 260 + 36 * k + 16 + 2 ≤ 617289 by omega), (show 1078 + 5400 * tm + 1490 + 216 * k + 96 + 12 ≤ 7249830 by omega)⟩ ?_
              refine pc_top (show factH (uh (nx u)) (ix (nI (k))) (ix 5) = tone (uh (nx u)) k from (fact_nI (w := 5) (by omega) (by decide))) ?_
              refine lv_iload hx hb dL_law_479 (lv_at hl 19 rfl) ?_
              refine lv_icmp_ne (tgt := 538) hx hb dL_law_481 (by decide) (fun c481 => absurd c481 (not_not_intro rfl)) (fun c481 => ?_)
              refine lv_iload hx hb dL_law_484 (lv_at hl 19 rfl) ?_
              refine lv_aload hx hb dL_law_486 (lv_at hl 6 rfl) ?_
              refine lv_iload hx hb dL_law_488 (lv_at hl 16 rfl) ?_
              refine pc_iald hx hb hK hP 1 0 rfl rfl (k := k) (show k < 12 by omega) (by decide) dL_law_490 ?_
              refine pc_top (show (lsF (tone (uh (nx u))) 12) k = tone (uh (nx u)) k from (lsF_at (by omega))) ?_
              refine lv_icmp_ne (tgt := 538) hx hb dL_law_491 (by decide) (fun c491 => absurd c491 (not_not_intro rfl)) (fun c491 => ?_)
              refine lv_aload_n hx hb dL_law_494 rfl (lv_at hl 2 rfl) ?_
              refine lv_iload hx hb dL_law_495 (lv_at hl 16 rfl) ?_
              refine lv_iconst (v := 0) hx hb dL_law_497 (by decide) ?_
              refine cls_p (Lc := (([(ho, .inl ((cy 0), un u, .inl (lsF (hq u) (un u)))), (th, .inl ((cy 0), 12, .inl (lsF (tone (uh (nx u))) 12))), (wo, .inl ((cy 4), 12, .inr (.inr (.inr (.inr (fun i => some (rr i)))))))] : va_W) ++ rows12 cy rr 7 (wasG (uh u) 12 0))) (S5 := wS5 cy b1 sa st ch (un (nx u)) (uw (nx u)) (ud (nx u)) (nI (zh (uh (nx u)))) (zl (uh (nx u)))) (S12 := rows12 cy st 6 (rowS (uh (nx u)))) (T := chT cy ch (nx u)) (As := [.int (nI k), .int 0]) (rest := []) hP hS hK hXA ⟨hx, hb, hml, hown, hts⟩ (mX2_string l hst D cy a q q2 ca ta (nx u) g I2.1 (nI (k)) 0) (fun E h => h.2 (exStr_0 (w := 0) (by omega) (by decide))) (cwV 2 hts gW_X2_string rfl rfl rfl (by decide +kernel) ⟨Nat.le_of_ble_eq_true rfl, Nat.le_of_ble_eq_true rfl⟩) rfl rfl hl.1 (Nat.le_of_ble_eq_true rfl) dL_law_498 ⟨(show 170 + 900 * tm + 260 + 36 * k + 16 + 2 + 2 ≤ 617289 by omega), (show 1078 + 5400 * tm + 1490 + 216 * k + 96 + 12 + 12 ≤ 7249830 by omega)⟩ ?_
              refine pc_top (show factH (uh (nx u)) (ix (nI (k))) (ix 0) = zb (uh (nx u)) k from (fact_nI (w := 0) (by omega) (by decide))) ?_
              refine lv_aload hx hb dL_law_501 (lv_at hl 5 rfl) ?_
              refine lv_iload hx hb dL_law_503 (lv_at hl 16 rfl) ?_
              refine pc_aldA hx hb hkp hP 2 rfl (k := k) (show k < 12 by omega) (by decide) (v := rr k) rfl dL_law_505 ?_
              refine lv_iconst (v := 0) hx hb dL_law_506 (by decide) ?_
              refine row_aldW hx hb hK hP (k := k) (j := 0) (show k < 12 by omega) (show 0 < 7 by omega) (by decide) dL_law_507 ?_
              refine pc_top (show (wasG (uh u) 12 0) k 0 = zb (uh u) k from (wasG_at (j := 0) (show k < 12 by omega) (by decide))) ?_
              refine lv_icmp_ne (tgt := 538) hx hb dL_law_508 (by decide) (fun c508 => absurd c508 (not_not_intro rfl)) (fun c508 => ?_)
              refine lv_iload hx hb dL_law_511 (lv_at hl 18 rfl) ?_
              refine lv_aload hx hb dL_law_513 (lv_at hl 5 rfl) ?_
              refine lv_iload hx hb dL_law_515 (lv_at hl 16 rfl) ?_
              refine pc_aldA hx hb hkp hP 2 rfl (k := k) (show k < 12 by omega) (by decide) (v := rr k) rfl dL_law_517 ?_
              refine lv_iconst (v := 1) hx hb dL_law_518 (by decide) ?_
              refine row_aldW hx hb hK hP (k := k) (j := 1) (show k < 12 by omega) (show 1 < 7 by omega) (by decide) dL_law_519 ?_
              refine pc_top (show (wasG (uh u) 12 0) k 1 = zw (uh u) k from (wasG_at (j := 1) (show k < 12 by omega) (by decide))) ?_
              refine lv_icmp_ne (tgt := 538) hx hb dL_law_520 (by decide) (fun c520 => absurd c520 (not_not_intro rfl)) (fun c520 => ?_)
              have join540 : ∀ (H : Heap) (locs : List Loc), va_P D vwCl ((([(ho, .inl ((cy 0), un u, .inl (lsF (hq u) (un u)))), (th, .inl ((cy 0), 12, .inl (lsF (tone (uh (nx u))) 12))), (wo, .inl ((cy 4), 12, .inr (.inr (.inr (.inr (fun i => some (rr i)))))))] : va_W) ++ rows12 cy rr 7 (wasG (uh u) 12 0)) ++ (wS5 cy b1 sa st ch (un (nx u)) (uw (nx u)) (ud (nx u)) (nI (zh (uh (nx u)))) (zl (uh (nx u))) ++ (rows12 cy st 6 (rowS (uh (nx u))) ++ (wX cy a q q2 ca ta (nx u) g ++ chT cy ch (nx u))))) H → va_D A ((([(ho, .inl ((cy 0), un u, .inl (lsF (hq u) (un u)))), (th, .inl ((cy 0), 12, .inl (lsF (tone (uh (nx u))) 12))), (wo, .inl ((cy 4), 12, .inr (.inr (.inr (.inr (fun i => some (rr i)))))))] : va_W) ++ rows12 cy rr 7 (wasG (uh u) 12 0)) ++ (wS5 cy b1 sa st ch (un (nx u)) (uw (nx u)) (ud (nx u)) (nI (zh (uh (nx u)))) (zl (uh (nx u))) ++ (rows12 cy st 6 (rowS (uh (nx u))) ++ (wX cy a q q2 ca ta (nx u) g ++ chT cy ch (nx u))))) → va_S A s.heap H locs → ∀ ls : Array Slot, lv_has ls 26 [(0, .ref b), (1, .ref (a 0)), (2, .ref b1), (3, .int (nI tm)), (5, .ref wo), (6, .ref th), (7, .int (uw u (zh (uh u) % 12))), (8, .int (ud u (zh (uh u) % 12))), (11, .int (nI (un u))), (12, .ref ho), (13, .int (nI (brkN 0 12 (uw u) (uh u)))), (14, .int (zl (uh (nx u)))), (15, .int (sumN (fun j => zr (uh (nx u)) j - zr (uh u) j) (k + 1))), (16, .int (sumN (zw (uh (nx u))) (k + 1))), (17, .int (sumN (zs (uh (nx u))) (k + 1))), (18, .int (sumN (zo (uh (nx u))) (k + 1))), (19, .int (nI k)), (20, .int (zo (uh (nx u)) k))] → W p l e room_1 s m #[Value.ref b] below meth c H locs (170 + 900 * tm + 260 + 36 * k + 20) (1078 + 5400 * tm + 1490 + 216 * k + 120) Q (F0 m 540 ls []) := by
                intro H locs hP hD hS ls hl
                have join582 : ∀ (H : Heap) (locs : List Loc), va_P D vwCl ((([(ho, .inl ((cy 0), un u, .inl (lsF (hq u) (un u)))), (th, .inl ((cy 0), 12, .inl (lsF (tone (uh (nx u))) 12))), (wo, .inl ((cy 4), 12, .inr (.inr (.inr (.inr (fun i => some (rr i)))))))] : va_W) ++ rows12 cy rr 7 (wasG (uh u) 12 0)) ++ (wS5 cy b1 sa st ch (un (nx u)) (uw (nx u)) (ud (nx u)) (nI (zh (uh (nx u)))) (zl (uh (nx u))) ++ (rows12 cy st 6 (rowS (uh (nx u))) ++ (wX cy a q q2 ca ta (nx u) g ++ chT cy ch (nx u))))) H → va_D A ((([(ho, .inl ((cy 0), un u, .inl (lsF (hq u) (un u)))), (th, .inl ((cy 0), 12, .inl (lsF (tone (uh (nx u))) 12))), (wo, .inl ((cy 4), 12, .inr (.inr (.inr (.inr (fun i => some (rr i)))))))] : va_W) ++ rows12 cy rr 7 (wasG (uh u) 12 0)) ++ (wS5 cy b1 sa st ch (un (nx u)) (uw (nx u)) (ud (nx u)) (nI (zh (uh (nx u)))) (zl (uh (nx u))) ++ (rows12 cy st 6 (rowS (uh (nx u))) ++ (wX cy a q q2 ca ta (nx u) g ++ chT cy ch (nx u))))) → va_S A s.heap H locs → ∀ ls : Array Slot, lv_has ls 26 [(0, .ref b), (1, .ref (a 0)), (2, .ref b1), (3, .int (nI tm)), (5, .ref wo), (6, .ref th), (7, .int (uw u (zh (uh u) % 12))), (8, .int (ud u (zh (uh u) % 12))), (11, .int (nI (un u))), (12, .ref ho), (13, .int (nI (brkN 0 12 (uw u) (uh u)))), (14, .int (zl (uh (nx u)))), (15, .int (sumN (fun j => zr (uh (nx u)) j - zr (uh u) j) (k + 1))), (16, .int (sumN (zw (uh (nx u))) (k + 1))), (17, .int (sumN (zs (uh (nx u))) (k + 1))), (18, .int (sumN (zo (uh (nx u))) (k + 1))), (19, .int (nI k)), (20, .int (zo (uh (nx u)) k))] → W p l e room_1 s m #[Value.ref b] below meth c H locs (170 + 900 * tm + 260 + 36 * k + 20) (1078 + 5400 * tm + 1490 + 216 * k + 120) Q (F0 m 582 ls [.int (stq u k)]) := by
                  intro H locs hP hD hS ls hl
                  have join607 : ∀ (H : Heap) (locs : List Loc), va_P D vwCl ((([(ho, .inl ((cy 0), un u, .inl (lsF (hq u) (un u)))), (th, .inl ((cy 0), 12, .inl (lsF (tone (uh (nx u))) 12))), (wo, .inl ((cy 4), 12, .inr (.inr (.inr (.inr (fun i => some (rr i)))))))] : va_W) ++ rows12 cy rr 7 (wasG (uh u) 12 0)) ++ (wS5 cy b1 sa st ch (un (nx u)) (uw (nx u)) (ud (nx u)) (nI (zh (uh (nx u)))) (zl (uh (nx u))) ++ (rows12 cy st 6 (rowS (uh (nx u))) ++ (wX cy a q q2 ca ta (nx u) g ++ chT cy ch (nx u))))) H → va_D A ((([(ho, .inl ((cy 0), un u, .inl (lsF (hq u) (un u)))), (th, .inl ((cy 0), 12, .inl (lsF (tone (uh (nx u))) 12))), (wo, .inl ((cy 4), 12, .inr (.inr (.inr (.inr (fun i => some (rr i)))))))] : va_W) ++ rows12 cy rr 7 (wasG (uh u) 12 0)) ++ (wS5 cy b1 sa st ch (un (nx u)) (uw (nx u)) (ud (nx u)) (nI (zh (uh (nx u)))) (zl (uh (nx u))) ++ (rows12 cy st 6 (rowS (uh (nx u))) ++ (wX cy a q q2 ca ta (nx u) g ++ chT cy ch (nx u))))) → va_S A s.heap H locs → ∀ ls : Array Slot, lv_has ls 26 [(0, .ref b), (1, .ref (a 0)), (2, .ref b1), (3, .int (nI tm)), (5, .ref wo), (6, .ref th), (7, .int (uw u (zh (uh u) % 12))), (8, .int (ud u (zh (uh u) % 12))), (11, .int (nI (un u))), (12, .ref ho), (13, .int (nI (brkN 0 12 (uw u) (uh u)))), (14, .int (zl (uh (nx u)))), (15, .int (sumN (fun j => zr (uh (nx u)) j - zr (uh u) j) (k + 1))), (16, .int (sumN (zw (uh (nx u))) (k + 1))), (17, .int (sumN (zs (uh (nx u))) (k + 1))), (18, .int (sumN (zo (uh (nx u))) (k + 1))), (19, .int (nI k)), (20, .int (zo (uh (nx u)) k)), (23, .int (stq u k))] → W p l e room_1 s m #[Value.ref b] below meth c H locs (170 + 900 * tm + 260 + 36 * k + 20) (1078 + 5400 * tm + 1490 + 216 * k + 120) Q (F0 m 607 ls [.int (bI (bq u k))]) := by
                    intro H locs hP hD hS ls hl
                    have join681 : ∀ (H : Heap) (locs : List Loc), va_P D vwCl ((([(ho, .inl ((cy 0), un u, .inl (lsF (hq u) (un u)))), (th, .inl ((cy 0), 12, .inl (lsF (tone (uh (nx u))) 12))), (wo, .inl ((cy 4), 12, .inr (.inr (.inr (.inr (fun i => some (rr i)))))))] : va_W) ++ rows12 cy rr 7 (wasG (uh u) 12 0)) ++ (wS5 cy b1 sa st ch (un (nx u)) (uw (nx u)) (ud (nx u)) (nI (zh (uh (nx u)))) (zl (uh (nx u))) ++ (rows12 cy st 6 (rowS (uh (nx u))) ++ (wX cy a q q2 ca ta (nx u) g ++ chT cy ch (nx u))))) H → va_D A ((([(ho, .inl ((cy 0), un u, .inl (lsF (hq u) (un u)))), (th, .inl ((cy 0), 12, .inl (lsF (tone (uh (nx u))) 12))), (wo, .inl ((cy 4), 12, .inr (.inr (.inr (.inr (fun i => some (rr i)))))))] : va_W) ++ rows12 cy rr 7 (wasG (uh u) 12 0)) ++ (wS5 cy b1 sa st ch (un (nx u)) (uw (nx u)) (ud (nx u)) (nI (zh (uh (nx u)))) (zl (uh (nx u))) ++ (rows12 cy st 6 (rowS (uh (nx u))) ++ (wX cy a q q2 ca ta (nx u) g ++ chT cy ch (nx u))))) → va_S A s.heap H locs → ∀ ls : Array Slot, lv_has ls 26 [(0, .ref b), (1, .ref (a 0)), (2, .ref b1), (3, .int (nI tm)), (5, .ref wo), (6, .ref th), (7, .int (uw u (zh (uh u) % 12))), (8, .int (ud u (zh (uh u) % 12))), (11, .int (nI (un u))), (12, .ref ho), (13, .int (nI (brkN 0 12 (uw u) (uh u)))), (14, .int (zl (uh (nx u)))), (15, .int (sumN (fun j => zr (uh (nx u)) j - zr (uh u) j) (k + 1))), (16, .int (sumN (zw (uh (nx u))) (k + 1))), (17, .int (sumN (zs (uh (nx u))) (k + 1))), (18, .int (sumN (zo (uh (nx u))) (k + 1))), (19, .int (nI k)), (20, .int (zo (uh (nx u)) k)), (23, .int (stq u k))] → W p l e room_1 s m #[Value.ref b] below meth c H locs (170 + 900 * tm + 260 + 36 * k + 24) (1078 + 5400 * tm + 1490 + 216 * k + 144) Q (F0 m 681 ls []) := by
                      intro H locs hP hD hS ls hl
                      have join723 : ∀ (H : Heap) (locs : List Loc), va_P D vwCl ((([(ho, .inl ((cy 0), un u, .inl (lsF (hq u) (un u)))), (th, .inl ((cy 0), 12, .inl (lsF (tone (uh (nx u))) 12))), (wo, .inl ((cy 4), 12, .inr (.inr (.inr (.inr (fun i => some (rr i)))))))] : va_W) ++ rows12 cy rr 7 (wasG (uh u) 12 0)) ++ (wS5 cy b1 sa st ch (un (nx u)) (uw (nx u)) (ud (nx u)) (nI (zh (uh (nx u)))) (zl (uh (nx u))) ++ (rows12 cy st 6 (rowS (uh (nx u))) ++ (wX cy a q q2 ca ta (nx u) g ++ chT cy ch (nx u))))) H → va_D A ((([(ho, .inl ((cy 0), un u, .inl (lsF (hq u) (un u)))), (th, .inl ((cy 0), 12, .inl (lsF (tone (uh (nx u))) 12))), (wo, .inl ((cy 4), 12, .inr (.inr (.inr (.inr (fun i => some (rr i)))))))] : va_W) ++ rows12 cy rr 7 (wasG (uh u) 12 0)) ++ (wS5 cy b1 sa st ch (un (nx u)) (uw (nx u)) (ud (nx u)) (nI (zh (uh (nx u)))) (zl (uh (nx u))) ++ (rows12 cy st 6 (rowS (uh (nx u))) ++ (wX cy a q q2 ca ta (nx u) g ++ chT cy ch (nx u))))) → va_S A s.heap H locs → ∀ ls : Array Slot, lv_has ls 26 [(0, .ref b), (1, .ref (a 0)), (2, .ref b1), (3, .int (nI tm)), (5, .ref wo), (6, .ref th), (7, .int (uw u (zh (uh u) % 12))), (8, .int (ud u (zh (uh u) % 12))), (11, .int (nI (un u))), (12, .ref ho), (13, .int (nI (brkN 0 12 (uw u) (uh u)))), (14, .int (zl (uh (nx u)))), (15, .int (sumN (fun j => zr (uh (nx u)) j - zr (uh u) j) (k + 1))), (16, .int (sumN (zw (uh (nx u))) (k + 1))), (17, .int (sumN (zs (uh (nx u))) (k + 1))), (18, .int (sumN (zo (uh (nx u))) (k + 1))), (19, .int (nI k)), (20, .int (zo (uh (nx u)) k)), (23, .int (stq u k))] → W p l e room_1 s m #[Value.ref b] below meth c H locs (170 + 900 * tm + 260 + 36 * k + 28) (1078 + 5400 * tm + 1490 + 216 * k + 168) Q (F0 m 723 ls []) := by
                        intro H locs hP hD hS ls hl
                        refine lv_aload_n hx hb dL_law_723 rfl (lv_at hl 1 rfl) ?_
                        refine lv_iload hx hb dL_law_724 (lv_at hl 16 rfl) ?_
                        refine lv_iconst (v := 2) hx hb dL_law_726 (by decide) ?_
                        refine cls_p (Lc := (([(ho, .inl ((cy 0), un u, .inl (lsF (hq u) (un u)))), (th, .inl ((cy 0), 12, .inl (lsF (tone (uh (nx u))) 12))), (wo, .inl ((cy 4), 12, .inr (.inr (.inr (.inr (fun i => some (rr i)))))))] : va_W) ++ rows12 cy rr 7 (wasG (uh u) 12 0))) (S5 := wS5 cy b1 sa st ch (un (nx u)) (uw (nx u)) (ud (nx u)) (nI (zh (uh (nx u)))) (zl (uh (nx u)))) (S12 := rows12 cy st 6 (rowS (uh (nx u)))) (T := chT cy ch (nx u)) (As := [.int (nI k), .int 2]) (rest := []) hP hS hK hXA ⟨hx, hb, hml, hown, hts⟩ (mX2_string l hst D cy a q q2 ca ta (nx u) g I2.1 (nI (k)) 2) (fun E h => h.2 (exStr_0 (w := 2) (by omega) (by decide))) (cwV 2 hts gW_X2_string rfl rfl rfl (by decide +kernel) ⟨Nat.le_of_ble_eq_true rfl, Nat.le_of_ble_eq_true rfl⟩) rfl rfl hl.1 (Nat.le_of_ble_eq_true rfl) dL_law_727 ⟨(show 170 + 900 * tm + 260 + 36 * k + 28 + 2 ≤ 617289 by omega), (show 1078 + 5400 * tm + 1490 + 216 * k + 168 + 12 ≤ 7249830 by omega)⟩ ?_
                        refine pc_top (show factH (uh (nx u)) (ix (nI (k))) (ix 2) = zd (uh (nx u)) k from (fact_nI (w := 2) (by omega) (by decide))) ?_
                        refine lv_aload hx hb dL_law_730 (lv_at hl 4 rfl) ?_
                        refine lv_iload hx hb dL_law_732 (lv_at hl 16 rfl) ?_
                        refine pc_aldA hx hb hkp hP 2 rfl (k := k) (show k < 12 by omega) (by decide) (v := rr k) rfl dL_law_734 ?_
                        refine lv_iconst (v := 2) hx hb dL_law_735 (by decide) ?_
                        refine row_aldW hx hb hK hP (k := k) (j := 2) (show k < 12 by omega) (show 2 < 7 by omega) (by decide) dL_law_736 ?_
                        refine pc_top (show (wasG (uh u) 12 0) k 2 = zd (uh u) k from (wasG_at (j := 2) (show k < 12 by omega) (by decide))) ?_
                        refine lv_isub hx hb dL_law_737 ?_
                        refine lv_istore (lv' := [(25, .int ((zd (uh (nx u)) k) - (zd (uh u) k))), (0, .ref b), (1, .ref (a 0)), (2, .ref b1), (3, .int (nI tm)), (5, .ref wo), (6, .ref th), (7, .int (uw u (zh (uh u) % 12))), (8, .int (ud u (zh (uh u) % 12))), (11, .int (nI (un u))), (12, .ref ho), (13, .int (nI (brkN 0 12 (uw u) (uh u)))), (14, .int (zl (uh (nx u)))), (15, .int (sumN (fun j => zr (uh (nx u)) j - zr (uh u) j) (k + 1))), (16, .int (sumN (zw (uh (nx u))) (k + 1))), (17, .int (sumN (zs (uh (nx u))) (k + 1))), (18, .int (sumN (zo (uh (nx u))) (k + 1))), (19, .int (nI k)), (20, .int (zo (uh (nx u)) k)), (23, .int (stq u k))]) hx hb dL_law_738 hl (by decide) rfl (fun ls hl => ?_)
                        refine lv_iload hx hb dL_law_740 (lv_at hl 18 rfl) ?_
                        refine lv_if_eq (tgt := 803) hx hb dL_law_742 (by decide) (fun c742 => ?_) (fun c742 => ?_)
                        · refine lv_iinc (v := nI (k + 1)) (lv' := [(19, .int (nI (k + 1))), (25, .int ((zd (uh (nx u)) k) - (zd (uh u) k))), (0, .ref b), (1, .ref (a 0)), (2, .ref b1), (3, .int (nI tm)), (5, .ref wo), (6, .ref th), (7, .int (uw u (zh (uh u) % 12))), (8, .int (ud u (zh (uh u) % 12))), (11, .int (nI (un u))), (12, .ref ho), (13, .int (nI (brkN 0 12 (uw u) (uh u)))), (14, .int (zl (uh (nx u)))), (15, .int (sumN (fun j => zr (uh (nx u)) j - zr (uh u) j) (k + 1))), (16, .int (sumN (zw (uh (nx u))) (k + 1))), (17, .int (sumN (zs (uh (nx u))) (k + 1))), (18, .int (sumN (zo (uh (nx u))) (k + 1))), (20, .int (zo (uh (nx u)) k)), (23, .int (stq u k))]) hx hb dL_law_803 hl (k := 17) rfl ((show (nI k) + Int32.ofInt 1 = (nI k) + 1 from rfl).trans (show (nI k) + 1 = nI (k + 1) from nI_add k 1)) (by decide) rfl (fun ls hl => ?_)
                          refine lv_goto (tgt := 303) hx hb dL_law_806 (by decide) ?_
                          refine W.widen (k := 170 + 900 * tm + 260 + 36 * (k + 1)) (n := 1078 + 5400 * tm + 1490 + 216 * (k + 1)) (by omega) (by omega) ?_
                          exact ih303 (k + 1) (by omega) (by omega) _ _ hP hD hS ls (lv_sub hl [2, 3, 4, 5, 6, 7, 8, 9, 10, 11, 12, 13, 14, 15, 16, 17, 0] rfl)
                        · refine lv_iload hx hb dL_law_745 (lv_at hl 0 rfl) ?_
                          refine lv_iload hx hb dL_law_747 (lv_at hl 19 rfl) ?_
                          refine lv_bipush (v := 50) hx hb dL_law_749 (by decide) ?_
                          refine lv_icmp_lt (tgt := 774) hx hb dL_law_751 (by decide) (fun c751 => ?_) (fun c751 => ?_)
                          · refine lv_iload hx hb dL_law_774 (lv_at hl 8 rfl) ?_
                            refine lv_bipush (v := 6) hx hb dL_law_776 (by decide) ?_
                            refine lv_icmp_lt (tgt := 797) hx hb dL_law_778 (by decide) (fun c778 => ?_) (fun c778 => ?_)
                            · refine lv_iconst (v := 0) hx hb dL_law_797 (by decide) ?_
                              refine lv_icmp_eq (tgt := 803) hx hb dL_law_798 (by decide) (fun c798 => ?_) (fun c798 => absurd c798 (not_not_intro (by_3 (ck_zd (by omega) c742) c751 c778)))
                              refine lv_iinc (v := nI (k + 1)) (lv' := [(19, .int (nI (k + 1))), (25, .int ((zd (uh (nx u)) k) - (zd (uh u) k))), (0, .ref b), (1, .ref (a 0)), (2, .ref b1), (3, .int (nI tm)), (5, .ref wo), (6, .ref th), (7, .int (uw u (zh (uh u) % 12))), (8, .int (ud u (zh (uh u) % 12))), (11, .int (nI (un u))), (12, .ref ho), (13, .int (nI (brkN 0 12 (uw u) (uh u)))), (14, .int (zl (uh (nx u)))), (15, .int (sumN (fun j => zr (uh (nx u)) j - zr (uh u) j) (k + 1))), (16, .int (sumN (zw (uh (nx u))) (k + 1))), (17, .int (sumN (zs (uh (nx u))) (k + 1))), (18, .int (sumN (zo (uh (nx u))) (k + 1))), (20, .int (zo (uh (nx u)) k)), (23, .int (stq u k))]) hx hb dL_law_803 hl (k := 17) rfl ((show (nI k) + Int32.ofInt 1 = (nI k) + 1 from rfl).trans (show (nI k) + 1 = nI (k + 1) from nI_add k 1)) (by decide) rfl (fun ls hl => ?_)
                              refine lv_goto (tgt := 303) hx hb dL_law_806 (by decide) ?_
                              refine W.widen (k := 170 + 900 * tm + 260 + 36 * (k + 1)) (n := 1078 + 5400 * tm + 1490 + 216 * (k + 1)) (by omega) (by omega) ?_
                              exact ih303 (k + 1) (by omega) (by omega) _ _ hP hD hS ls (lv_sub hl [2, 3, 4, 5, 6, 7, 8, 9, 10, 11, 12, 13, 14, 15, 16, 17, 0] rfl)
                            · refine lv_aload hx hb dL_law_781 (lv_at hl 5 rfl) ?_
                              refine lv_iload hx hb dL_law_783 (lv_at hl 17 rfl) ?_
                              refine pc_aldA hx hb hkp hP 2 rfl (k := k) (show k < 12 by omega) (by decide) (v := rr k) rfl dL_law_785 ?_
                              refine lv_iconst (v := 2) hx hb dL_law_786 (by decide) ?_
                              refine row_aldW hx hb hK hP (k := k) (j := 2) (show k < 12 by omega) (show 2 < 7 by omega) (by decide) dL_law_787 ?_
                              refine pc_top (show (wasG (uh u) 12 0) k 2 = zd (uh u) k from (wasG_at (j := 2) (show k < 12 by omega) (by decide))) ?_
                              refine lv_bipush (v := 50) hx hb dL_law_788 (by decide) ?_
                              refine lv_icmp_ge (tgt := 797) hx hb dL_law_790 (by decide) (fun c790 => ?_) (fun c790 => ?_)
                              · refine lv_iconst (v := 0) hx hb dL_law_797 (by decide) ?_
                                refine lv_icmp_eq (tgt := 803) hx hb dL_law_798 (by decide) (fun c798 => ?_) (fun c798 => absurd c798 (not_not_intro (by_4 (SR_d (I.2.1 k (by omega))) (ck_zd (by omega) c742) c751 c778 c790)))
                                refine lv_iinc (v := nI (k + 1)) (lv' := [(19, .int (nI (k + 1))), (25, .int ((zd (uh (nx u)) k) - (zd (uh u) k))), (0, .ref b), (1, .ref (a 0)), (2, .ref b1), (3, .int (nI tm)), (5, .ref wo), (6, .ref th), (7, .int (uw u (zh (uh u) % 12))), (8, .int (ud u (zh (uh u) % 12))), (11, .int (nI (un u))), (12, .ref ho), (13, .int (nI (brkN 0 12 (uw u) (uh u)))), (14, .int (zl (uh (nx u)))), (15, .int (sumN (fun j => zr (uh (nx u)) j - zr (uh u) j) (k + 1))), (16, .int (sumN (zw (uh (nx u))) (k + 1))), (17, .int (sumN (zs (uh (nx u))) (k + 1))), (18, .int (sumN (zo (uh (nx u))) (k + 1))), (20, .int (zo (uh (nx u)) k)), (23, .int (stq u k))]) hx hb dL_law_803 hl (k := 17) rfl ((show (nI k) + Int32.ofInt 1 = (nI k) + 1 from rfl).trans (show (nI k) + 1 = nI (k + 1) from nI_add k 1)) (by decide) rfl (fun ls hl => ?_)
                                refine lv_goto (tgt := 303) hx hb dL_law_806 (by decide) ?_
                                refine W.widen (k := 170 + 900 * tm + 260 + 36 * (k + 1)) (n := 1078 + 5400 * tm + 1490 + 216 * (k + 1)) (by omega) (by omega) ?_
                                exact ih303 (k + 1) (by omega) (by omega) _ _ hP hD hS ls (lv_sub hl [2, 3, 4, 5, 6, 7, 8, 9, 10, 11, 12, 13, 14, 15, 16, 17, 0] rfl)
                              · refine lv_iconst (v := 1) hx hb dL_law_793 (by decide) ?_
                                refine lv_goto (tgt := 798) hx hb dL_law_794 (by decide) ?_
                                refine lv_icmp_eq (tgt := 803) hx hb dL_law_798 (by decide) (fun c798 => ?_) (fun c798 => absurd c798 (not_not_intro (by_5 (SR_d (I.2.1 k (by omega))) (ck_zd (by omega) c742) c751 c778 c790)))
                                refine lv_iinc (v := nI (k + 1)) (lv' := [(19, .int (nI (k + 1))), (25, .int ((zd (uh (nx u)) k) - (zd (uh u) k))), (0, .ref b), (1, .ref (a 0)), (2, .ref b1), (3, .int (nI tm)), (5, .ref wo), (6, .ref th), (7, .int (uw u (zh (uh u) % 12))), (8, .int (ud u (zh (uh u) % 12))), (11, .int (nI (un u))), (12, .ref ho), (13, .int (nI (brkN 0 12 (uw u) (uh u)))), (14, .int (zl (uh (nx u)))), (15, .int (sumN (fun j => zr (uh (nx u)) j - zr (uh u) j) (k + 1))), (16, .int (sumN (zw (uh (nx u))) (k + 1))), (17, .int (sumN (zs (uh (nx u))) (k + 1))), (18, .int (sumN (zo (uh (nx u))) (k + 1))), (20, .int (zo (uh (nx u)) k)), (23, .int (stq u k))]) hx hb dL_law_803 hl (k := 17) rfl ((show (nI k) + Int32.ofInt 1 = (nI k) + 1 from rfl).trans (show (nI k) + 1 = nI (k + 1) from nI_add k 1)) (by decide) rfl (fun ls hl => ?_)
                                refine lv_goto (tgt := 303) hx hb dL_law_806 (by decide) ?_
                                refine W.widen (k := 170 + 900 * tm + 260 + 36 * (k + 1)) (n := 1078 + 5400 * tm + 1490 + 216 * (k + 1)) (by omega) (by omega) ?_
                                exact ih303 (k + 1) (by omega) (by omega) _ _ hP hD hS ls (lv_sub hl [2, 3, 4, 5, 6, 7, 8, 9, 10, 11, 12, 13, 14, 15, 16, 17, 0] rfl)
                          · refine lv_aload hx hb dL_law_754 (lv_at hl 5 rfl) ?_
                            refine lv_iload hx hb dL_law_756 (lv_at hl 17 rfl) ?_
                            refine pc_aldA hx hb hkp hP 2 rfl (k := k) (show k < 12 by omega) (by decide) (v := rr k) rfl dL_law_758 ?_
                            refine lv_iconst (v := 2) hx hb dL_law_759 (by decide) ?_
                            refine row_aldW hx hb hK hP (k := k) (j := 2) (show k < 12 by omega) (show 2 < 7 by omega) (by decide) dL_law_760 ?_
                            refine pc_top (show (wasG (uh u) 12 0) k 2 = zd (uh u) k from (wasG_at (j := 2) (show k < 12 by omega) (by decide))) ?_
                            refine lv_bipush (v := (-50)) hx hb dL_law_761 (by decide) ?_
                            refine lv_icmp_le (tgt := 770) hx hb dL_law_763 (by decide) (fun c763 => ?_) (fun c763 => ?_)
                            · refine lv_iconst (v := 0) hx hb dL_law_770 (by decide) ?_
                              refine lv_goto (tgt := 798) hx hb dL_law_771 (by decide) ?_
                              refine lv_icmp_eq (tgt := 803) hx hb dL_law_798 (by decide) (fun c798 => ?_) (fun c798 => absurd c798 (not_not_intro (by_1 (SR_d (I.2.1 k (by omega))) (ck_zd (by omega) c742) c751 c763)))
                              refine lv_iinc (v := nI (k + 1)) (lv' := [(19, .int (nI (k + 1))), (25, .int ((zd (uh (nx u)) k) - (zd (uh u) k))), (0, .ref b), (1, .ref (a 0)), (2, .ref b1), (3, .int (nI tm)), (5, .ref wo), (6, .ref th), (7, .int (uw u (zh (uh u) % 12))), (8, .int (ud u (zh (uh u) % 12))), (11, .int (nI (un u))), (12, .ref ho), (13, .int (nI (brkN 0 12 (uw u) (uh u)))), (14, .int (zl (uh (nx u)))), (15, .int (sumN (fun j => zr (uh (nx u)) j - zr (uh u) j) (k + 1))), (16, .int (sumN (zw (uh (nx u))) (k + 1))), (17, .int (sumN (zs (uh (nx u))) (k + 1))), (18, .int (sumN (zo (uh (nx u))) (k + 1))), (20, .int (zo (uh (nx u)) k)), (23, .int (stq u k))]) hx hb dL_law_803 hl (k := 17) rfl ((show (nI k) + Int32.ofInt 1 = (nI k) + 1 from rfl).trans (show (nI k) + 1 = nI (k + 1) from nI_add k 1)) (by decide) rfl (fun ls hl => ?_)
                              refine lv_goto (tgt := 303) hx hb dL_law_806 (by decide) ?_
                              refine W.widen (k := 170 + 900 * tm + 260 + 36 * (k + 1)) (n := 1078 + 5400 * tm + 1490 + 216 * (k + 1)) (by omega) (by omega) ?_
                              exact ih303 (k + 1) (by omega) (by omega) _ _ hP hD hS ls (lv_sub hl [2, 3, 4, 5, 6, 7, 8, 9, 10, 11, 12, 13, 14, 15, 16, 17, 0] rfl)
                            · refine lv_iconst (v := (-1)) hx hb dL_law_766 (by decide) ?_
                              refine lv_goto (tgt := 798) hx hb dL_law_767 (by decide) ?_
                              refine lv_icmp_eq (tgt := 803) hx hb dL_law_798 (by decide) (fun c798 => ?_) (fun c798 => absurd c798 (not_not_intro (by_2 (SR_d (I.2.1 k (by omega))) (ck_zd (by omega) c742) c751 c763)))
                              refine lv_iinc (v := nI (k + 1)) (lv' := [(19, .int (nI (k + 1))), (25, .int ((zd (uh (nx u)) k) - (zd (uh u) k))), (0, .ref b), (1, .ref (a 0)), (2, .ref b1), (3, .int (nI tm)), (5, .ref wo), (6, .ref th), (7, .int (uw u (zh (uh u) % 12))), (8, .int (ud u (zh (uh u) % 12))), (11, .int (nI (un u))), (12, .ref ho), (13, .int (nI (brkN 0 12 (uw u) (uh u)))), (14, .int (zl (uh (nx u)))), (15, .int (sumN (fun j => zr (uh (nx u)) j - zr (uh u) j) (k + 1))), (16, .int (sumN (zw (uh (nx u))) (k + 1))), (17, .int (sumN (zs (uh (nx u))) (k + 1))), (18, .int (sumN (zo (uh (nx u))) (k + 1))), (20, .int (zo (uh (nx u)) k)), (23, .int (stq u k))]) hx hb dL_law_803 hl (k := 17) rfl ((show (nI k) + Int32.ofInt 1 = (nI k) + 1 from rfl).trans (show (nI k) + 1 = nI (k + 1) from nI_add k 1)) (by decide) rfl (fun ls hl => ?_)
                              refine lv_goto (tgt := 303) hx hb dL_law_806 (by decide) ?_
                              refine W.widen (k := 170 + 900 * tm + 260 + 36 * (k + 1)) (n := 1078 + 5400 * tm + 1490 + 216 * (k + 1)) (by omega) (by omega) ?_
                              exact ih303 (k + 1) (by omega) (by omega) _ _ hP hD hS ls (lv_sub hl [2, 3, 4, 5, 6, 7, 8, 9, 10, 11, 12, 13, 14, 15, 16, 17, 0] rfl)
                      refine lv_iload hx hb dL_law_681 (lv_at hl 17 rfl) ?_
                      refine lv_if_eq (tgt := 701) hx hb dL_law_683 (by decide) (fun c683 => ?_) (fun c683 => ?_)
                      · refine lv_aload_n hx hb dL_law_701 rfl (lv_at hl 1 rfl) ?_
                        refine lv_iload hx hb dL_law_702 (lv_at hl 16 rfl) ?_
                        refine lv_iconst (v := 3) hx hb dL_law_704 (by decide) ?_
                        refine cls_p (Lc := (([(ho, .inl ((cy 0), un u, .inl (lsF (hq u) (un u)))), (th, .inl ((cy 0), 12, .inl (lsF (tone (uh (nx u))) 12))), (wo, .inl ((cy 4), 12, .inr (.inr (.inr (.inr (fun i => some (rr i)))))))] : va_W) ++ rows12 cy rr 7 (wasG (uh u) 12 0))) (S5 := wS5 cy b1 sa st ch (un (nx u)) (uw (nx u)) (ud (nx u)) (nI (zh (uh (nx u)))) (zl (uh (nx u)))) (S12 := rows12 cy st 6 (rowS (uh (nx u)))) (T := chT cy ch (nx u)) (As := [.int (nI k), .int 3]) (rest := []) hP hS hK hXA ⟨hx, hb, hml, hown, hts⟩ (mX2_string l hst D cy a q q2 ca ta (nx u) g I2.1 (nI (k)) 3) (fun E h => h.2 (exStr_0 (w := 3) (by omega) (by decide))) (cwV 2 hts gW_X2_string rfl rfl rfl (by decide +kernel) ⟨Nat.le_of_ble_eq_true rfl, Nat.le_of_ble_eq_true rfl⟩) rfl rfl hl.1 (Nat.le_of_ble_eq_true rfl) dL_law_705 ⟨(show 170 + 900 * tm + 260 + 36 * k + 24 + 2 ≤ 617289 by omega), (show 1078 + 5400 * tm + 1490 + 216 * k + 144 + 12 ≤ 7249830 by omega)⟩ ?_
                        refine pc_top (show factH (uh (nx u)) (ix (nI (k))) (ix 3) = zs (uh (nx u)) k from (fact_nI (w := 3) (by omega) (by decide))) ?_
                        refine lv_if_ne (tgt := 721) hx hb dL_law_708 (by decide) (fun c708 => absurd c708 (not_not_intro (ck_off I2 (by omega) c683).1)) (fun c708 => ?_)
                        refine lv_aload_n hx hb dL_law_711 rfl (lv_at hl 1 rfl) ?_
                        refine lv_iload hx hb dL_law_712 (lv_at hl 16 rfl) ?_
                        refine lv_iconst (v := 2) hx hb dL_law_714 (by decide) ?_
                        refine cls_p (Lc := (([(ho, .inl ((cy 0), un u, .inl (lsF (hq u) (un u)))), (th, .inl ((cy 0), 12, .inl (lsF (tone (uh (nx u))) 12))), (wo, .inl ((cy 4), 12, .inr (.inr (.inr (.inr (fun i => some (rr i)))))))] : va_W) ++ rows12 cy rr 7 (wasG (uh u) 12 0))) (S5 := wS5 cy b1 sa st ch (un (nx u)) (uw (nx u)) (ud (nx u)) (nI (zh (uh (nx u)))) (zl (uh (nx u)))) (S12 := rows12 cy st 6 (rowS (uh (nx u)))) (T := chT cy ch (nx u)) (As := [.int (nI k), .int 2]) (rest := []) hP hS hK hXA ⟨hx, hb, hml, hown, hts⟩ (mX2_string l hst D cy a q q2 ca ta (nx u) g I2.1 (nI (k)) 2) (fun E h => h.2 (exStr_0 (w := 2) (by omega) (by decide))) (cwV 2 hts gW_X2_string rfl rfl rfl (by decide +kernel) ⟨Nat.le_of_ble_eq_true rfl, Nat.le_of_ble_eq_true rfl⟩) rfl rfl hl.1 (Nat.le_of_ble_eq_true rfl) dL_law_715 ⟨(show 170 + 900 * tm + 260 + 36 * k + 24 + 2 + 2 ≤ 617289 by omega), (show 1078 + 5400 * tm + 1490 + 216 * k + 144 + 12 + 12 ≤ 7249830 by omega)⟩ ?_
                        refine pc_top (show factH (uh (nx u)) (ix (nI (k))) (ix 2) = zd (uh (nx u)) k from (fact_nI (w := 2) (by omega) (by decide))) ?_
                        refine lv_if_eq (tgt := 723) hx hb dL_law_718 (by decide) (fun c718 => ?_) (fun c718 => absurd c718 (not_not_intro (ck_off I2 (by omega) c683).2))
                        refine W.widen (k := 170 + 900 * tm + 260 + 36 * k + 28) (n := 1078 + 5400 * tm + 1490 + 216 * k + 168) (by omega) (by omega) ?_
                        exact join723 _ _ hP hD hS ls (lv_sub hl [0, 1, 2, 3, 4, 5, 6, 7, 8, 9, 10, 11, 12, 13, 14, 15, 16, 17, 18] rfl)
                      · refine lv_aload_n hx hb dL_law_686 rfl (lv_at hl 1 rfl) ?_
                        refine lv_iload hx hb dL_law_687 (lv_at hl 16 rfl) ?_
                        refine lv_iconst (v := 3) hx hb dL_law_689 (by decide) ?_
                        refine cls_p (Lc := (([(ho, .inl ((cy 0), un u, .inl (lsF (hq u) (un u)))), (th, .inl ((cy 0), 12, .inl (lsF (tone (uh (nx u))) 12))), (wo, .inl ((cy 4), 12, .inr (.inr (.inr (.inr (fun i => some (rr i)))))))] : va_W) ++ rows12 cy rr 7 (wasG (uh u) 12 0))) (S5 := wS5 cy b1 sa st ch (un (nx u)) (uw (nx u)) (ud (nx u)) (nI (zh (uh (nx u)))) (zl (uh (nx u)))) (S12 := rows12 cy st 6 (rowS (uh (nx u)))) (T := chT cy ch (nx u)) (As := [.int (nI k), .int 3]) (rest := []) hP hS hK hXA ⟨hx, hb, hml, hown, hts⟩ (mX2_string l hst D cy a q q2 ca ta (nx u) g I2.1 (nI (k)) 3) (fun E h => h.2 (exStr_0 (w := 3) (by omega) (by decide))) (cwV 2 hts gW_X2_string rfl rfl rfl (by decide +kernel) ⟨Nat.le_of_ble_eq_true rfl, Nat.le_of_ble_eq_true rfl⟩) rfl rfl hl.1 (Nat.le_of_ble_eq_true rfl) dL_law_690 ⟨(show 170 + 900 * tm + 260 + 36 * k + 24 + 2 ≤ 617289 by omega), (show 1078 + 5400 * tm + 1490 + 216 * k + 144 + 12 ≤ 7249830 by omega)⟩ ?_
                        refine pc_top (show factH (uh (nx u)) (ix (nI (k))) (ix 3) = zs (uh (nx u)) k from (fact_nI (w := 3) (by omega) (by decide))) ?_
                        refine lv_iload hx hb dL_law_693 (lv_at hl 18 rfl) ?_
                        refine lv_icmp_eq (tgt := 723) hx hb dL_law_695 (by decide) (fun c695 => ?_) (fun c695 => absurd c695 (not_not_intro (ck_zs (by omega) c683)))
                        refine W.widen (k := 170 + 900 * tm + 260 + 36 * k + 28) (n := 1078 + 5400 * tm + 1490 + 216 * k + 168) (by omega) (by omega) ?_
                        exact join723 _ _ hP hD hS ls (lv_sub hl [0, 1, 2, 3, 4, 5, 6, 7, 8, 9, 10, 11, 12, 13, 14, 15, 16, 17, 18] rfl)
                    refine lv_istore (lv' := [(24, .int (bI (bq u k))), (0, .ref b), (1, .ref (a 0)), (2, .ref b1), (3, .int (nI tm)), (5, .ref wo), (6, .ref th), (7, .int (uw u (zh (uh u) % 12))), (8, .int (ud u (zh (uh u) % 12))), (11, .int (nI (un u))), (12, .ref ho), (13, .int (nI (brkN 0 12 (uw u) (uh u)))), (14, .int (zl (uh (nx u)))), (15, .int (sumN (fun j => zr (uh (nx u)) j - zr (uh u) j) (k + 1))), (16, .int (sumN (zw (uh (nx u))) (k + 1))), (17, .int (sumN (zs (uh (nx u))) (k + 1))), (18, .int (sumN (zo (uh (nx u))) (k + 1))), (19, .int (nI k)), (20, .int (zo (uh (nx u)) k)), (23, .int (stq u k))]) hx hb dL_law_607 hl (by decide) rfl (fun ls hl => ?_)
                    refine lv_iload hx hb dL_law_609 (lv_at hl 0 rfl) ?_
                    refine lv_if_eq (tgt := 643) hx hb dL_law_611 (by decide) (fun c611 => ?_) (fun c611 => ?_)
                    · refine lv_aload_n hx hb dL_law_643 rfl (lv_at hl 2 rfl) ?_
                      refine lv_iload hx hb dL_law_644 (lv_at hl 17 rfl) ?_
                      refine lv_iconst (v := 4) hx hb dL_law_646 (by decide) ?_
                      refine cls_p (Lc := (([(ho, .inl ((cy 0), un u, .inl (lsF (hq u) (un u)))), (th, .inl ((cy 0), 12, .inl (lsF (tone (uh (nx u))) 12))), (wo, .inl ((cy 4), 12, .inr (.inr (.inr (.inr (fun i => some (rr i)))))))] : va_W) ++ rows12 cy rr 7 (wasG (uh u) 12 0))) (S5 := wS5 cy b1 sa st ch (un (nx u)) (uw (nx u)) (ud (nx u)) (nI (zh (uh (nx u)))) (zl (uh (nx u)))) (S12 := rows12 cy st 6 (rowS (uh (nx u)))) (T := chT cy ch (nx u)) (As := [.int (nI k), .int 4]) (rest := []) hP hS hK hXA ⟨hx, hb, hml, hown, hts⟩ (mX2_string l hst D cy a q q2 ca ta (nx u) g I2.1 (nI (k)) 4) (fun E h => h.2 (exStr_0 (w := 4) (by omega) (by decide))) (cwV 2 hts gW_X2_string rfl rfl rfl (by decide +kernel) ⟨Nat.le_of_ble_eq_true rfl, Nat.le_of_ble_eq_true rfl⟩) rfl rfl hl.1 (Nat.le_of_ble_eq_true rfl) dL_law_647 ⟨(show 170 + 900 * tm + 260 + 36 * k + 20 + 2 ≤ 617289 by omega), (show 1078 + 5400 * tm + 1490 + 216 * k + 120 + 12 ≤ 7249830 by omega)⟩ ?_
                      refine pc_top (show factH (uh (nx u)) (ix (nI (k))) (ix 4) = zo (uh (nx u)) k from (fact_nI (w := 4) (by omega) (by decide))) ?_
                      refine lv_aload hx hb dL_law_650 (lv_at hl 5 rfl) ?_
                      refine lv_iload hx hb dL_law_652 (lv_at hl 17 rfl) ?_
                      refine pc_aldA hx hb hkp hP 2 rfl (k := k) (show k < 12 by omega) (by decide) (v := rr k) rfl dL_law_654 ?_
                      refine lv_iconst (v := 4) hx hb dL_law_655 (by decide) ?_
                      refine row_aldW hx hb hK hP (k := k) (j := 4) (show k < 12 by omega) (show 4 < 7 by omega) (by decide) dL_law_656 ?_
                      refine pc_top (show (wasG (uh u) 12 0) k 4 = zo (uh u) k from (wasG_at (j := 4) (show k < 12 by omega) (by decide))) ?_
                      refine lv_icmp_ne (tgt := 679) hx hb dL_law_657 (by decide) (fun c657 => absurd c657 (not_not_intro (ck_no (by omega) (bI_0.mp c611)).1)) (fun c657 => ?_)
                      refine lv_aload_n hx hb dL_law_660 rfl (lv_at hl 2 rfl) ?_
                      refine lv_iload hx hb dL_law_661 (lv_at hl 17 rfl) ?_
                      refine lv_bipush (v := 6) hx hb dL_law_663 (by decide) ?_
                      refine cls_p (Lc := (([(ho, .inl ((cy 0), un u, .inl (lsF (hq u) (un u)))), (th, .inl ((cy 0), 12, .inl (lsF (tone (uh (nx u))) 12))), (wo, .inl ((cy 4), 12, .inr (.inr (.inr (.inr (fun i => some (rr i)))))))] : va_W) ++ rows12 cy rr 7 (wasG (uh u) 12 0))) (S5 := wS5 cy b1 sa st ch (un (nx u)) (uw (nx u)) (ud (nx u)) (nI (zh (uh (nx u)))) (zl (uh (nx u)))) (S12 := rows12 cy st 6 (rowS (uh (nx u)))) (T := chT cy ch (nx u)) (As := [.int (nI k), .int 6]) (rest := []) hP hS hK hXA ⟨hx, hb, hml, hown, hts⟩ (mX2_string l hst D cy a q q2 ca ta (nx u) g I2.1 (nI (k)) 6) (fun E h => h.2 (exStr_0 (w := 6) (by omega) (by decide))) (cwV 2 hts gW_X2_string rfl rfl rfl (by decide +kernel) ⟨Nat.le_of_ble_eq_true rfl, Nat.le_of_ble_eq_true rfl⟩) rfl rfl hl.1 (Nat.le_of_ble_eq_true rfl) dL_law_665 ⟨(show 170 + 900 * tm + 260 + 36 * k + 20 + 2 + 2 ≤ 617289 by omega), (show 1078 + 5400 * tm + 1490 + 216 * k + 120 + 12 + 12 ≤ 7249830 by omega)⟩ ?_
                      refine pc_top (show factH (uh (nx u)) (ix (nI (k))) (ix 6) = zr (uh (nx u)) k from (fact_nI (w := 6) (by omega) (by decide))) ?_
                      refine lv_aload hx hb dL_law_668 (lv_at hl 5 rfl) ?_
                      refine lv_iload hx hb dL_law_670 (lv_at hl 17 rfl) ?_
                      refine pc_aldA hx hb hkp hP 2 rfl (k := k) (show k < 12 by omega) (by decide) (v := rr k) rfl dL_law_672 ?_
                      refine lv_bipush (v := 6) hx hb dL_law_673 (by decide) ?_
                      refine row_aldW hx hb hK hP (k := k) (j := 6) (show k < 12 by omega) (show 6 < 7 by omega) (by decide) dL_law_675 ?_
                      refine pc_top (show (wasG (uh u) 12 0) k 6 = zr (uh u) k from (wasG_at (j := 6) (show k < 12 by omega) (by decide))) ?_
                      refine lv_icmp_eq (tgt := 681) hx hb dL_law_676 (by decide) (fun c676 => ?_) (fun c676 => absurd c676 (not_not_intro (ck_no (by omega) (bI_0.mp c611)).2))
                      refine W.widen (k := 170 + 900 * tm + 260 + 36 * k + 24) (n := 1078 + 5400 * tm + 1490 + 216 * k + 144) (by omega) (by omega) ?_
                      exact join681 _ _ hP hD hS ls (lv_sub hl [1, 2, 3, 4, 5, 6, 7, 8, 9, 10, 11, 12, 13, 14, 15, 16, 17, 18, 19] rfl)
                    · refine lv_iload hx hb dL_law_614 (lv_at hl 18 rfl) ?_
                      refine lv_if_ne (tgt := 679) hx hb dL_law_616 (by decide) (fun c616 => absurd c616 (not_not_intro (ck_brk (by omega) (bI_1.mp c611)).1)) (fun c616 => ?_)
                      refine lv_aload_n hx hb dL_law_619 rfl (lv_at hl 2 rfl) ?_
                      refine lv_iload hx hb dL_law_620 (lv_at hl 17 rfl) ?_
                      refine lv_bipush (v := 6) hx hb dL_law_622 (by decide) ?_
                      refine cls_p (Lc := (([(ho, .inl ((cy 0), un u, .inl (lsF (hq u) (un u)))), (th, .inl ((cy 0), 12, .inl (lsF (tone (uh (nx u))) 12))), (wo, .inl ((cy 4), 12, .inr (.inr (.inr (.inr (fun i => some (rr i)))))))] : va_W) ++ rows12 cy rr 7 (wasG (uh u) 12 0))) (S5 := wS5 cy b1 sa st ch (un (nx u)) (uw (nx u)) (ud (nx u)) (nI (zh (uh (nx u)))) (zl (uh (nx u)))) (S12 := rows12 cy st 6 (rowS (uh (nx u)))) (T := chT cy ch (nx u)) (As := [.int (nI k), .int 6]) (rest := []) hP hS hK hXA ⟨hx, hb, hml, hown, hts⟩ (mX2_string l hst D cy a q q2 ca ta (nx u) g I2.1 (nI (k)) 6) (fun E h => h.2 (exStr_0 (w := 6) (by omega) (by decide))) (cwV 2 hts gW_X2_string rfl rfl rfl (by decide +kernel) ⟨Nat.le_of_ble_eq_true rfl, Nat.le_of_ble_eq_true rfl⟩) rfl rfl hl.1 (Nat.le_of_ble_eq_true rfl) dL_law_624 ⟨(show 170 + 900 * tm + 260 + 36 * k + 20 + 2 ≤ 617289 by omega), (show 1078 + 5400 * tm + 1490 + 216 * k + 120 + 12 ≤ 7249830 by omega)⟩ ?_
                      refine pc_top (show factH (uh (nx u)) (ix (nI (k))) (ix 6) = zr (uh (nx u)) k from (fact_nI (w := 6) (by omega) (by decide))) ?_
                      refine lv_aload hx hb dL_law_627 (lv_at hl 5 rfl) ?_
                      refine lv_iload hx hb dL_law_629 (lv_at hl 17 rfl) ?_
                      refine pc_aldA hx hb hkp hP 2 rfl (k := k) (show k < 12 by omega) (by decide) (v := rr k) rfl dL_law_631 ?_
                      refine lv_bipush (v := 6) hx hb dL_law_632 (by decide) ?_
                      refine row_aldW hx hb hK hP (k := k) (j := 6) (show k < 12 by omega) (show 6 < 7 by omega) (by decide) dL_law_634 ?_
                      refine pc_top (show (wasG (uh u) 12 0) k 6 = zr (uh u) k from (wasG_at (j := 6) (show k < 12 by omega) (by decide))) ?_
                      refine lv_iconst (v := 1) hx hb dL_law_635 (by decide) ?_
                      refine lv_iadd hx hb dL_law_636 ?_
                      refine lv_icmp_eq (tgt := 681) hx hb dL_law_637 (by decide) (fun c637 => ?_) (fun c637 => absurd c637 (not_not_intro (ck_brk (by omega) (bI_1.mp c611)).2))
                      refine W.widen (k := 170 + 900 * tm + 260 + 36 * k + 24) (n := 1078 + 5400 * tm + 1490 + 216 * k + 144) (by omega) (by omega) ?_
                      exact join681 _ _ hP hD hS ls (lv_sub hl [1, 2, 3, 4, 5, 6, 7, 8, 9, 10, 11, 12, 13, 14, 15, 16, 17, 18, 19] rfl)
                  refine lv_istore (lv' := [(23, .int (stq u k)), (0, .ref b), (1, .ref (a 0)), (2, .ref b1), (3, .int (nI tm)), (5, .ref wo), (6, .ref th), (7, .int (uw u (zh (uh u) % 12))), (8, .int (ud u (zh (uh u) % 12))), (11, .int (nI (un u))), (12, .ref ho), (13, .int (nI (brkN 0 12 (uw u) (uh u)))), (14, .int (zl (uh (nx u)))), (15, .int (sumN (fun j => zr (uh (nx u)) j - zr (uh u) j) (k + 1))), (16, .int (sumN (zw (uh (nx u))) (k + 1))), (17, .int (sumN (zs (uh (nx u))) (k + 1))), (18, .int (sumN (zo (uh (nx u))) (k + 1))), (19, .int (nI k)), (20, .int (zo (uh (nx u)) k))]) hx hb dL_law_582 hl (by decide) rfl (fun ls hl => ?_)
                  refine lv_aload hx hb dL_law_584 (lv_at hl 5 rfl) ?_
                  refine lv_iload hx hb dL_law_586 (lv_at hl 17 rfl) ?_
                  refine pc_aldA hx hb hkp hP 2 rfl (k := k) (show k < 12 by omega) (by decide) (v := rr k) rfl dL_law_588 ?_
                  refine lv_iconst (v := 4) hx hb dL_law_589 (by decide) ?_
                  refine row_aldW hx hb hK hP (k := k) (j := 4) (show k < 12 by omega) (show 4 < 7 by omega) (by decide) dL_law_590 ?_
                  refine pc_top (show (wasG (uh u) 12 0) k 4 = zo (uh u) k from (wasG_at (j := 4) (show k < 12 by omega) (by decide))) ?_
                  refine lv_iconst (v := 1) hx hb dL_law_591 (by decide) ?_
                  refine lv_icmp_ne (tgt := 606) hx hb dL_law_592 (by decide) (fun c592 => ?_) (fun c592 => ?_)
                  · refine lv_iconst (v := 0) hx hb dL_law_606 (by decide) ?_
                    refine pc_top (show 0 = bI (bq u k) from (bq_n c592 I (by omega))) ?_
                    refine W.widen (k := 170 + 900 * tm + 260 + 36 * k + 20) (n := 1078 + 5400 * tm + 1490 + 216 * k + 120) (by omega) (by omega) ?_
                    exact join607 _ _ hP hD hS ls (lv_sub hl [1, 2, 3, 4, 5, 6, 7, 8, 9, 10, 11, 12, 13, 14, 15, 16, 17, 18, 0] rfl)
                  · refine lv_iload hx hb dL_law_595 (lv_at hl 0 rfl) ?_
                    refine lv_bipush (v := 100) hx hb dL_law_597 (by decide) ?_
                    refine lv_icmp_le (tgt := 606) hx hb dL_law_599 (by decide) (fun c599 => ?_) (fun c599 => ?_)
                    · refine lv_iconst (v := 0) hx hb dL_law_606 (by decide) ?_
                      refine pc_top (show 0 = bI (bq u k) from (bq_s c592 c599)) ?_
                      refine W.widen (k := 170 + 900 * tm + 260 + 36 * k + 20) (n := 1078 + 5400 * tm + 1490 + 216 * k + 120) (by omega) (by omega) ?_
                      exact join607 _ _ hP hD hS ls (lv_sub hl [1, 2, 3, 4, 5, 6, 7, 8, 9, 10, 11, 12, 13, 14, 15, 16, 17, 18, 0] rfl)
                    · refine lv_iconst (v := 1) hx hb dL_law_602 (by decide) ?_
                      refine lv_goto (tgt := 607) hx hb dL_law_603 (by decide) ?_
                      refine pc_top (show 1 = bI (bq u k) from (bq_y c592 c599)) ?_
                      refine W.widen (k := 170 + 900 * tm + 260 + 36 * k + 20) (n := 1078 + 5400 * tm + 1490 + 216 * k + 120) (by omega) (by omega) ?_
                      exact join607 _ _ hP hD hS ls (lv_sub hl [1, 2, 3, 4, 5, 6, 7, 8, 9, 10, 11, 12, 13, 14, 15, 16, 17, 18, 0] rfl)
                refine lv_aload hx hb dL_law_540 (lv_at hl 4 rfl) ?_
                refine lv_iload hx hb dL_law_542 (lv_at hl 16 rfl) ?_
                refine pc_aldA hx hb hkp hP 2 rfl (k := k) (show k < 12 by omega) (by decide) (v := rr k) rfl dL_law_544 ?_
                refine lv_iconst (v := 4) hx hb dL_law_545 (by decide) ?_
                refine row_aldW hx hb hK hP (k := k) (j := 4) (show k < 12 by omega) (show 4 < 7 by omega) (by decide) dL_law_546 ?_
                refine pc_top (show (wasG (uh u) 12 0) k 4 = zo (uh u) k from (wasG_at (j := 4) (show k < 12 by omega) (by decide))) ?_
                refine lv_if_ne (tgt := 554) hx hb dL_law_547 (by decide) (fun c547 => ?_) (fun c547 => ?_)
                · refine lv_iconst (v := 0) hx hb dL_law_554 (by decide) ?_
                  refine lv_aload hx hb dL_law_555 (lv_at hl 4 rfl) ?_
                  refine lv_iload hx hb dL_law_557 (lv_at hl 16 rfl) ?_
                  refine pc_aldA hx hb hkp hP 2 rfl (k := k) (show k < 12 by omega) (by decide) (v := rr k) rfl dL_law_559 ?_
                  refine lv_iconst (v := 3) hx hb dL_law_560 (by decide) ?_
                  refine row_aldW hx hb hK hP (k := k) (j := 3) (show k < 12 by omega) (show 3 < 7 by omega) (by decide) dL_law_561 ?_
                  refine pc_top (show (wasG (uh u) 12 0) k 3 = zs (uh u) k from (wasG_at (j := 3) (show k < 12 by omega) (by decide))) ?_
                  refine lv_iload hx hb dL_law_562 (lv_at hl 6 rfl) ?_
                  refine lv_aload hx hb dL_law_564 (lv_at hl 4 rfl) ?_
                  refine lv_iload hx hb dL_law_566 (lv_at hl 16 rfl) ?_
                  refine pc_aldA hx hb hkp hP 2 rfl (k := k) (show k < 12 by omega) (by decide) (v := rr k) rfl dL_law_568 ?_
                  refine lv_iconst (v := 5) hx hb dL_law_569 (by decide) ?_
                  refine row_aldW hx hb hK hP (k := k) (j := 5) (show k < 12 by omega) (show 5 < 7 by omega) (by decide) dL_law_570 ?_
                  refine pc_top (show (wasG (uh u) 12 0) k 5 = tone (uh u) k from (wasG_at (j := 5) (show k < 12 by omega) (by decide))) ?_
                  refine lv_imul hx hb dL_law_571 ?_
                  refine lv_sipush (v := 1000) hx hb dL_law_572 (by decide) ?_
                  refine lv_idiv hx hb dL_law_575 (by decide) ?_
                  refine lv_iadd hx hb dL_law_576 ?_
                  refine lv_iconst (v := 2) hx hb dL_law_577 (by decide) ?_
                  refine lv_isub hx hb dL_law_578 ?_
                  refine va_mmax hx hb (by rw [hml]; exact hl.1.symm) hown (hts (Cond.methodLink RL 47 Lib.Math.max.name) lq_1_12.1) (hts (Cond.static Lib.Math.max.name) lq_1_13.1) (hts (Cond.initialized "java/lang/Math") lq_1_10.1) (hts (Cond.code Lib.Math.max.name Lib.Math.max.code 2 (some .int)) lq_1_14.1) (Nat.le_of_ble_eq_true rfl) (Nat.le_of_ble_eq_true rfl) (show 170 + 900 * tm + 260 + 36 * k + 20 ≤ 617289 by omega) (show 1078 + 5400 * tm + 1490 + 216 * k + 120 ≤ 7249830 by omega) dL_law_579 ?_
                  refine pc_top (show (if 0 < (((zs (uh u) k) + (((uw u (zh (uh u) % 12)) * (tone (uh u) k)) / 1000)) - 2) then (((zs (uh u) k) + (((uw u (zh (uh u) % 12)) * (tone (uh u) k)) / 1000)) - 2) else 0) = mx 0 (((zs (uh u) k) + (((uw u (zh (uh u) % 12)) * (tone (uh u) k)) / 1000)) - 2) from rfl) ?_
                  refine pc_top (show mx 0 (((zs (uh u) k) + (((uw u (zh (uh u) % 12)) * (tone (uh u) k)) / 1000)) - 2) = stq u k from (stq_1 c547)) ?_
                  refine W.widen (k := 170 + 900 * tm + 260 + 36 * k + 20) (n := 1078 + 5400 * tm + 1490 + 216 * k + 120) (by omega) (by omega) ?_
                  exact join582 _ _ hP hD hS ls (lv_sub hl [0, 1, 2, 3, 4, 5, 6, 7, 8, 9, 10, 11, 12, 13, 14, 15, 16, 17] rfl)
                · refine lv_iconst (v := 0) hx hb dL_law_550 (by decide) ?_
                  refine lv_goto (tgt := 582) hx hb dL_law_551 (by decide) ?_
                  refine pc_top (show 0 = stq u k from (stq_0 c547)) ?_
                  refine W.widen (k := 170 + 900 * tm + 260 + 36 * k + 20) (n := 1078 + 5400 * tm + 1490 + 216 * k + 120) (by omega) (by omega) ?_
                  exact join582 _ _ hP hD hS ls (lv_sub hl [0, 1, 2, 3, 4, 5, 6, 7, 8, 9, 10, 11, 12, 13, 14, 15, 16, 17] rfl)
              refine lv_iload hx hb dL_law_523 (lv_at hl 17 rfl) ?_
              refine lv_if_eq (tgt := 540) hx hb dL_law_525 (by decide) (fun c525 => ?_) (fun c525 => ?_)
              · refine W.widen (k := 170 + 900 * tm + 260 + 36 * k + 20) (n := 1078 + 5400 * tm + 1490 + 216 * k + 120) (by omega) (by omega) ?_
                exact join540 _ _ hP hD hS ls (lv_sub hl [1, 2, 3, 4, 5, 6, 7, 8, 9, 10, 11, 12, 13, 14, 15, 0, 16, 17] rfl)
              · refine lv_aload hx hb dL_law_528 (lv_at hl 5 rfl) ?_
                refine lv_iload hx hb dL_law_530 (lv_at hl 16 rfl) ?_
                refine pc_aldA hx hb hkp hP 2 rfl (k := k) (show k < 12 by omega) (by decide) (v := rr k) rfl dL_law_532 ?_
                refine lv_iconst (v := 4) hx hb dL_law_533 (by decide) ?_
                refine row_aldW hx hb hK hP (k := k) (j := 4) (show k < 12 by omega) (show 4 < 7 by omega) (by decide) dL_law_534 ?_
                refine pc_top (show (wasG (uh u) 12 0) k 4 = zo (uh u) k from (wasG_at (j := 4) (show k < 12 by omega) (by decide))) ?_
                refine lv_if_ne (tgt := 540) hx hb dL_law_535 (by decide) (fun c535 => ?_) (fun c535 => absurd c535 ((ck_zo (by omega) c525).1))
                refine W.widen (k := 170 + 900 * tm + 260 + 36 * k + 20) (n := 1078 + 5400 * tm + 1490 + 216 * k + 120) (by omega) (by omega) ?_
                exact join540 _ _ hP hD hS ls (lv_sub hl [1, 2, 3, 4, 5, 6, 7, 8, 9, 10, 11, 12, 13, 14, 15, 0, 16, 17] rfl)
            refine lv_iload hx hb dL_law_457 (lv_at hl 16 rfl) ?_
            refine lv_iload hx hb dL_law_459 (lv_at hl 18 rfl) ?_
            refine lv_if_eq (tgt := 468) hx hb dL_law_461 (by decide) (fun c461 => ?_) (fun c461 => ?_)
            · refine lv_iconst (v := 0) hx hb dL_law_468 (by decide) ?_
              refine pc_top (show 0 = zo (uh (nx u)) k from c461.symm) ?_
              refine W.widen (k := 170 + 900 * tm + 260 + 36 * k + 16) (n := 1078 + 5400 * tm + 1490 + 216 * k + 96) (by omega) (by omega) ?_
              exact join469 _ _ hP hD hS ls (lv_sub hl [4, 5, 6, 7, 8, 9, 10, 11, 12, 13, 14, 15, 2, 1, 0, 16, 17, 18, 19, 3] rfl)
            · refine lv_iconst (v := 1) hx hb dL_law_464 (by decide) ?_
              refine lv_goto (tgt := 469) hx hb dL_law_465 (by decide) ?_
              refine pc_top (show 1 = zo (uh (nx u)) k from ((I2.1.1 k (by omega)).resolve_left c461).symm) ?_
              refine W.widen (k := 170 + 900 * tm + 260 + 36 * k + 16) (n := 1078 + 5400 * tm + 1490 + 216 * k + 96) (by omega) (by omega) ?_
              exact join469 _ _ hP hD hS ls (lv_sub hl [4, 5, 6, 7, 8, 9, 10, 11, 12, 13, 14, 15, 2, 1, 0, 16, 17, 18, 19, 3] rfl)
          refine lv_iload hx hb dL_law_337 (lv_at hl 1 rfl) ?_
          refine lv_if_eq (tgt := 413) hx hb dL_law_339 (by decide) (fun c339 => ?_) (fun c339 => ?_)
          · refine lv_iconst (v := 0) hx hb dL_law_413 (by decide) ?_
            refine pc_top (show 0 = tone (uh (nx u)) k from (by simp [tone, c339])) ?_
            refine W.widen (k := 170 + 900 * tm + 260 + 36 * k + 12) (n := 1078 + 5400 * tm + 1490 + 216 * k + 72) (by omega) (by omega) ?_
            exact join414 _ _ hP hD hS ls (lv_sub hl [2, 3, 4, 5, 6, 7, 8, 9, 10, 11, 12, 13, 14, 15, 16, 17, 18, 1, 0] rfl)
          · refine lv_aload_n hx hb dL_law_342 rfl (lv_at hl 3 rfl) ?_
            refine lv_iload hx hb dL_law_343 (lv_at hl 18 rfl) ?_
            refine lv_iconst (v := 0) hx hb dL_law_345 (by decide) ?_
            refine cls_p (Lc := (([(ho, .inl ((cy 0), un u, .inl (lsF (hq u) (un u)))), (th, .inl ((cy 0), 12, .inl (lsF (tone (uh (nx u))) 12))), (wo, .inl ((cy 4), 12, .inr (.inr (.inr (.inr (fun i => some (rr i)))))))] : va_W) ++ rows12 cy rr 7 (wasG (uh u) 12 0))) (S5 := wS5 cy b1 sa st ch (un (nx u)) (uw (nx u)) (ud (nx u)) (nI (zh (uh (nx u)))) (zl (uh (nx u)))) (S12 := rows12 cy st 6 (rowS (uh (nx u)))) (T := chT cy ch (nx u)) (As := [.int (nI k), .int 0]) (rest := []) hP hS hK hXA ⟨hx, hb, hml, hown, hts⟩ (mX2_string l hst D cy a q q2 ca ta (nx u) g I2.1 (nI (k)) 0) (fun E h => h.2 (exStr_0 (w := 0) (by omega) (by decide))) (cwV 2 hts gW_X2_string rfl rfl rfl (by decide +kernel) ⟨Nat.le_of_ble_eq_true rfl, Nat.le_of_ble_eq_true rfl⟩) rfl rfl hl.1 (Nat.le_of_ble_eq_true rfl) dL_law_346 ⟨(show 170 + 900 * tm + 260 + 36 * k + 2 + 2 + 2 ≤ 617289 by omega), (show 1078 + 5400 * tm + 1490 + 216 * k + 12 + 12 + 12 ≤ 7249830 by omega)⟩ ?_
            refine pc_top (show factH (uh (nx u)) (ix (nI (k))) (ix 0) = zb (uh (nx u)) k from (fact_nI (w := 0) (by omega) (by decide))) ?_
            refine lv_bipush (v := 10) hx hb dL_law_349 (by decide) ?_
            refine lv_iload hx hb dL_law_351 (lv_at hl 0 rfl) ?_
            refine lv_imul hx hb dL_law_353 ?_
            refine lv_iadd hx hb dL_law_354 ?_
            refine lv_aload_n hx hb dL_law_355 rfl (lv_at hl 3 rfl) ?_
            refine lv_iload hx hb dL_law_356 (lv_at hl 18 rfl) ?_
            refine lv_iconst (v := 2) hx hb dL_law_358 (by decide) ?_
            refine cls_p (Lc := (([(ho, .inl ((cy 0), un u, .inl (lsF (hq u) (un u)))), (th, .inl ((cy 0), 12, .inl (lsF (tone (uh (nx u))) 12))), (wo, .inl ((cy 4), 12, .inr (.inr (.inr (.inr (fun i => some (rr i)))))))] : va_W) ++ rows12 cy rr 7 (wasG (uh u) 12 0))) (S5 := wS5 cy b1 sa st ch (un (nx u)) (uw (nx u)) (ud (nx u)) (nI (zh (uh (nx u)))) (zl (uh (nx u)))) (S12 := rows12 cy st 6 (rowS (uh (nx u)))) (T := chT cy ch (nx u)) (As := [.int (nI k), .int 2]) (rest := [.int ((zb (uh (nx u)) k) + (10 * (zw (uh (nx u)) k)))]) hP hS hK hXA ⟨hx, hb, hml, hown, hts⟩ (mX2_string l hst D cy a q q2 ca ta (nx u) g I2.1 (nI (k)) 2) (fun E h => h.2 (exStr_0 (w := 2) (by omega) (by decide))) (cwV 2 hts gW_X2_string rfl rfl rfl (by decide +kernel) ⟨Nat.le_of_ble_eq_true rfl, Nat.le_of_ble_eq_true rfl⟩) rfl rfl hl.1 (Nat.le_of_ble_eq_true rfl) dL_law_359 ⟨(show 170 + 900 * tm + 260 + 36 * k + 2 + 2 + 2 + 2 ≤ 617289 by omega), (show 1078 + 5400 * tm + 1490 + 216 * k + 12 + 12 + 12 + 12 ≤ 7249830 by omega)⟩ ?_
            refine pc_top (show factH (uh (nx u)) (ix (nI (k))) (ix 2) = zd (uh (nx u)) k from (fact_nI (w := 2) (by omega) (by decide))) ?_
            refine lv_iadd hx hb dL_law_362 ?_
            refine lv_iload hx hb dL_law_363 (lv_at hl 13 rfl) ?_
            refine lv_isub hx hb dL_law_365 ?_
            refine lv_iload hx hb dL_law_366 (lv_at hl 18 rfl) ?_
            refine lv_if_le (tgt := 385) hx hb dL_law_368 (by decide) (fun c368 => ?_) (fun c368 => ?_)
            · have n368 : k ≤ 0 := (nI_leI (a := k) (b := 0) (by omega) (by omega)).mp c368
              refine lv_iconst (v := 0) hx hb dL_law_385 (by decide) ?_
              refine lv_iadd hx hb dL_law_386 ?_
              refine lv_iload hx hb dL_law_387 (lv_at hl 18 rfl) ?_
              refine lv_bipush (v := 11) hx hb dL_law_389 (by decide) ?_
              refine lv_icmp_ge (tgt := 408) hx hb dL_law_391 (by decide) (fun c391 => ?_) (fun c391 => ?_)
              · have n391 : 11 ≤ k := (nI_leI (a := 11) (b := k) (by omega) (by omega)).mp c391
                refine lv_iconst (v := 0) hx hb dL_law_408 (by decide) ?_
                refine lv_iadd hx hb dL_law_409 ?_
                refine lv_goto (tgt := 414) hx hb dL_law_410 (by decide) ?_
                refine pc_top (show (((((zb (uh (nx u)) k) + (10 * (zw (uh (nx u)) k))) + (zd (uh (nx u)) k)) - (zl (uh (nx u)))) + 0) + 0 = tone (uh (nx u)) k from (tone_law c339 (by rw [if_neg (by omega)]; rfl) (by rw [if_neg (by omega)]; rfl))) ?_
                refine W.widen (k := 170 + 900 * tm + 260 + 36 * k + 12) (n := 1078 + 5400 * tm + 1490 + 216 * k + 72) (by omega) (by omega) ?_
                exact join414 _ _ hP hD hS ls (lv_sub hl [2, 3, 4, 5, 6, 7, 8, 9, 10, 11, 12, 13, 14, 15, 16, 17, 18, 1, 0] rfl)
              · have n391 : ¬ (11 ≤ k) := fun h9 => c391 ((nI_leI (a := 11) (b := k) (by omega) (by omega)).mpr h9)
                refine lv_iconst (v := 3) hx hb dL_law_394 (by decide) ?_
                refine lv_aload_n hx hb dL_law_395 rfl (lv_at hl 3 rfl) ?_
                refine lv_iload hx hb dL_law_396 (lv_at hl 18 rfl) ?_
                refine lv_iconst (v := 1) hx hb dL_law_398 (by decide) ?_
                refine lv_iadd hx hb dL_law_399 ?_
                refine pc_top (show (nI k) + 1 = nI (k + 1) from nI_add k 1) ?_
                refine lv_iconst (v := 1) hx hb dL_law_400 (by decide) ?_
                refine cls_p (Lc := (([(ho, .inl ((cy 0), un u, .inl (lsF (hq u) (un u)))), (th, .inl ((cy 0), 12, .inl (lsF (tone (uh (nx u))) 12))), (wo, .inl ((cy 4), 12, .inr (.inr (.inr (.inr (fun i => some (rr i)))))))] : va_W) ++ rows12 cy rr 7 (wasG (uh u) 12 0))) (S5 := wS5 cy b1 sa st ch (un (nx u)) (uw (nx u)) (ud (nx u)) (nI (zh (uh (nx u)))) (zl (uh (nx u)))) (S12 := rows12 cy st 6 (rowS (uh (nx u)))) (T := chT cy ch (nx u)) (As := [.int (nI (k + 1)), .int 1]) (rest := [.int 3, .int (((((zb (uh (nx u)) k) + (10 * (zw (uh (nx u)) k))) + (zd (uh (nx u)) k)) - (zl (uh (nx u)))) + 0)]) hP hS hK hXA ⟨hx, hb, hml, hown, hts⟩ (mX2_string l hst D cy a q q2 ca ta (nx u) g I2.1 (nI (k + 1)) 1) (fun E h => h.2 (exStr_0 (w := 1) (by omega) (by decide))) (cwV 2 hts gW_X2_string rfl rfl rfl (by decide +kernel) ⟨Nat.le_of_ble_eq_true rfl, Nat.le_of_ble_eq_true rfl⟩) rfl rfl hl.1 (Nat.le_of_ble_eq_true rfl) dL_law_401 ⟨(show 170 + 900 * tm + 260 + 36 * k + 2 + 2 + 2 + 2 + 2 ≤ 617289 by omega), (show 1078 + 5400 * tm + 1490 + 216 * k + 12 + 12 + 12 + 12 + 12 ≤ 7249830 by omega)⟩ ?_
                refine pc_top (show factH (uh (nx u)) (ix (nI (k + 1))) (ix 1) = zw (uh (nx u)) (k + 1) from (fact_nI (w := 1) (by omega) (by decide))) ?_
                refine lv_imul hx hb dL_law_404 ?_
                refine lv_goto (tgt := 409) hx hb dL_law_405 (by decide) ?_
                refine lv_iadd hx hb dL_law_409 ?_
                refine lv_goto (tgt := 414) hx hb dL_law_410 (by decide) ?_
                refine pc_top (show (((((zb (uh (nx u)) k) + (10 * (zw (uh (nx u)) k))) + (zd (uh (nx u)) k)) - (zl (uh (nx u)))) + 0) + (3 * (zw (uh (nx u)) (k + 1))) = tone (uh (nx u)) k from (tone_law c339 (by rw [if_neg (by omega)]; rfl) (by rw [if_pos (by omega)]))) ?_
                refine W.widen (k := 170 + 900 * tm + 260 + 36 * k + 12) (n := 1078 + 5400 * tm + 1490 + 216 * k + 72) (by omega) (by omega) ?_
                exact join414 _ _ hP hD hS ls (lv_sub hl [2, 3, 4, 5, 6, 7, 8, 9, 10, 11, 12, 13, 14, 15, 16, 17, 18, 1, 0] rfl)
            · have n368 : ¬ (k ≤ 0) := fun h9 => c368 ((nI_leI (a := k) (b := 0) (by omega) (by omega)).mpr h9)
              refine lv_iconst (v := 3) hx hb dL_law_371 (by decide) ?_
              refine lv_aload_n hx hb dL_law_372 rfl (lv_at hl 3 rfl) ?_
              refine lv_iload hx hb dL_law_373 (lv_at hl 18 rfl) ?_
              refine lv_iconst (v := 1) hx hb dL_law_375 (by decide) ?_
              refine lv_isub hx hb dL_law_376 ?_
              refine pc_top (show (nI k) - 1 = nI (k - 1) from pk_sub (a := k) (b := 1) (by omega)) ?_
              refine lv_iconst (v := 1) hx hb dL_law_377 (by decide) ?_
              refine cls_p (Lc := (([(ho, .inl ((cy 0), un u, .inl (lsF (hq u) (un u)))), (th, .inl ((cy 0), 12, .inl (lsF (tone (uh (nx u))) 12))), (wo, .inl ((cy 4), 12, .inr (.inr (.inr (.inr (fun i => some (rr i)))))))] : va_W) ++ rows12 cy rr 7 (wasG (uh u) 12 0))) (S5 := wS5 cy b1 sa st ch (un (nx u)) (uw (nx u)) (ud (nx u)) (nI (zh (uh (nx u)))) (zl (uh (nx u)))) (S12 := rows12 cy st 6 (rowS (uh (nx u)))) (T := chT cy ch (nx u)) (As := [.int (nI (k - 1)), .int 1]) (rest := [.int 3, .int ((((zb (uh (nx u)) k) + (10 * (zw (uh (nx u)) k))) + (zd (uh (nx u)) k)) - (zl (uh (nx u))))]) hP hS hK hXA ⟨hx, hb, hml, hown, hts⟩ (mX2_string l hst D cy a q q2 ca ta (nx u) g I2.1 (nI (k - 1)) 1) (fun E h => h.2 (exStr_0 (w := 1) (by omega) (by decide))) (cwV 2 hts gW_X2_string rfl rfl rfl (by decide +kernel) ⟨Nat.le_of_ble_eq_true rfl, Nat.le_of_ble_eq_true rfl⟩) rfl rfl hl.1 (Nat.le_of_ble_eq_true rfl) dL_law_378 ⟨(show 170 + 900 * tm + 260 + 36 * k + 2 + 2 + 2 + 2 + 2 ≤ 617289 by omega), (show 1078 + 5400 * tm + 1490 + 216 * k + 12 + 12 + 12 + 12 + 12 ≤ 7249830 by omega)⟩ ?_
              refine pc_top (show factH (uh (nx u)) (ix (nI (k - 1))) (ix 1) = zw (uh (nx u)) (k - 1) from (fact_nI (w := 1) (by omega) (by decide))) ?_
              refine lv_imul hx hb dL_law_381 ?_
              refine lv_goto (tgt := 386) hx hb dL_law_382 (by decide) ?_
              refine lv_iadd hx hb dL_law_386 ?_
              refine lv_iload hx hb dL_law_387 (lv_at hl 18 rfl) ?_
              refine lv_bipush (v := 11) hx hb dL_law_389 (by decide) ?_
              refine lv_icmp_ge (tgt := 408) hx hb dL_law_391 (by decide) (fun c391 => ?_) (fun c391 => ?_)
              · have n391 : 11 ≤ k := (nI_leI (a := 11) (b := k) (by omega) (by omega)).mp c391
                refine lv_iconst (v := 0) hx hb dL_law_408 (by decide) ?_
                refine lv_iadd hx hb dL_law_409 ?_
                refine lv_goto (tgt := 414) hx hb dL_law_410 (by decide) ?_
                refine pc_top (show (((((zb (uh (nx u)) k) + (10 * (zw (uh (nx u)) k))) + (zd (uh (nx u)) k)) - (zl (uh (nx u)))) + (3 * (zw (uh (nx u)) (k - 1)))) + 0 = tone (uh (nx u)) k from (tone_law c339 (by rw [if_pos (by omega)]) (by rw [if_neg (by omega)]; rfl))) ?_
                refine W.widen (k := 170 + 900 * tm + 260 + 36 * k + 12) (n := 1078 + 5400 * tm + 1490 + 216 * k + 72) (by omega) (by omega) ?_
                exact join414 _ _ hP hD hS ls (lv_sub hl [2, 3, 4, 5, 6, 7, 8, 9, 10, 11, 12, 13, 14, 15, 16, 17, 18, 1, 0] rfl)
              · have n391 : ¬ (11 ≤ k) := fun h9 => c391 ((nI_leI (a := 11) (b := k) (by omega) (by omega)).mpr h9)
                refine lv_iconst (v := 3) hx hb dL_law_394 (by decide) ?_
                refine lv_aload_n hx hb dL_law_395 rfl (lv_at hl 3 rfl) ?_
                refine lv_iload hx hb dL_law_396 (lv_at hl 18 rfl) ?_
                refine lv_iconst (v := 1) hx hb dL_law_398 (by decide) ?_
                refine lv_iadd hx hb dL_law_399 ?_
                refine pc_top (show (nI k) + 1 = nI (k + 1) from nI_add k 1) ?_
                refine lv_iconst (v := 1) hx hb dL_law_400 (by decide) ?_
                refine cls_p (Lc := (([(ho, .inl ((cy 0), un u, .inl (lsF (hq u) (un u)))), (th, .inl ((cy 0), 12, .inl (lsF (tone (uh (nx u))) 12))), (wo, .inl ((cy 4), 12, .inr (.inr (.inr (.inr (fun i => some (rr i)))))))] : va_W) ++ rows12 cy rr 7 (wasG (uh u) 12 0))) (S5 := wS5 cy b1 sa st ch (un (nx u)) (uw (nx u)) (ud (nx u)) (nI (zh (uh (nx u)))) (zl (uh (nx u)))) (S12 := rows12 cy st 6 (rowS (uh (nx u)))) (T := chT cy ch (nx u)) (As := [.int (nI (k + 1)), .int 1]) (rest := [.int 3, .int (((((zb (uh (nx u)) k) + (10 * (zw (uh (nx u)) k))) + (zd (uh (nx u)) k)) - (zl (uh (nx u)))) + (3 * (zw (uh (nx u)) (k - 1))))]) hP hS hK hXA ⟨hx, hb, hml, hown, hts⟩ (mX2_string l hst D cy a q q2 ca ta (nx u) g I2.1 (nI (k + 1)) 1) (fun E h => h.2 (exStr_0 (w := 1) (by omega) (by decide))) (cwV 2 hts gW_X2_string rfl rfl rfl (by decide +kernel) ⟨Nat.le_of_ble_eq_true rfl, Nat.le_of_ble_eq_true rfl⟩) rfl rfl hl.1 (Nat.le_of_ble_eq_true rfl) dL_law_401 ⟨(show 170 + 900 * tm + 260 + 36 * k + 2 + 2 + 2 + 2 + 2 + 2 ≤ 617289 by omega), (show 1078 + 5400 * tm + 1490 + 216 * k + 12 + 12 + 12 + 12 + 12 + 12 ≤ 7249830 by omega)⟩ ?_
                refine pc_top (show factH (uh (nx u)) (ix (nI (k + 1))) (ix 1) = zw (uh (nx u)) (k + 1) from (fact_nI (w := 1) (by omega) (by decide))) ?_
                refine lv_imul hx hb dL_law_404 ?_
                refine lv_goto (tgt := 409) hx hb dL_law_405 (by decide) ?_
                refine lv_iadd hx hb dL_law_409 ?_
                refine lv_goto (tgt := 414) hx hb dL_law_410 (by decide) ?_
                refine pc_top (show (((((zb (uh (nx u)) k) + (10 * (zw (uh (nx u)) k))) + (zd (uh (nx u)) k)) - (zl (uh (nx u)))) + (3 * (zw (uh (nx u)) (k - 1)))) + (3 * (zw (uh (nx u)) (k + 1))) = tone (uh (nx u)) k from (tone_law c339 (by rw [if_pos (by omega)]) (by rw [if_pos (by omega)]))) ?_
                refine W.widen (k := 170 + 900 * tm + 260 + 36 * k + 12) (n := 1078 + 5400 * tm + 1490 + 216 * k + 72) (by omega) (by omega) ?_
                exact join414 _ _ hP hD hS ls (lv_sub hl [2, 3, 4, 5, 6, 7, 8, 9, 10, 11, 12, 13, 14, 15, 16, 17, 18, 1, 0] rfl)
        refine lv_aload_n hx hb dL_law_310 rfl (lv_at hl 1 rfl) ?_
        refine lv_iload hx hb dL_law_311 (lv_at hl 16 rfl) ?_
        refine lv_iconst (v := 4) hx hb dL_law_313 (by decide) ?_
        refine cls_p (Lc := (([(ho, .inl ((cy 0), un u, .inl (lsF (hq u) (un u)))), (th, .inl ((cy 0), 12, .inl (lsF (tone (uh (nx u))) 12))), (wo, .inl ((cy 4), 12, .inr (.inr (.inr (.inr (fun i => some (rr i)))))))] : va_W) ++ rows12 cy rr 7 (wasG (uh u) 12 0))) (S5 := wS5 cy b1 sa st ch (un (nx u)) (uw (nx u)) (ud (nx u)) (nI (zh (uh (nx u)))) (zl (uh (nx u)))) (S12 := rows12 cy st 6 (rowS (uh (nx u)))) (T := chT cy ch (nx u)) (As := [.int (nI k), .int 4]) (rest := []) hP hS hK hXA ⟨hx, hb, hml, hown, hts⟩ (mX2_string l hst D cy a q q2 ca ta (nx u) g I2.1 (nI (k)) 4) (fun E h => h.2 (exStr_0 (w := 4) (by omega) (by decide))) (cwV 2 hts gW_X2_string rfl rfl rfl (by decide +kernel) ⟨Nat.le_of_ble_eq_true rfl, Nat.le_of_ble_eq_true rfl⟩) rfl rfl hl.1 (Nat.le_of_ble_eq_true rfl) dL_law_314 ⟨(show 170 + 900 * tm + 260 + 36 * k + 2 ≤ 617289 by omega), (show 1078 + 5400 * tm + 1490 + 216 * k + 12 ≤ 7249830 by omega)⟩ ?_
        refine pc_top (show factH (uh (nx u)) (ix (nI (k))) (ix 4) = zo (uh (nx u)) k from (fact_nI (w := 4) (by omega) (by decide))) ?_
        refine lv_iconst (v := 1) hx hb dL_law_317 (by decide) ?_
        refine lv_icmp_ne (tgt := 325) hx hb dL_law_318 (by decide) (fun c318 => ?_) (fun c318 => ?_)
        · refine lv_iconst (v := 0) hx hb dL_law_325 (by decide) ?_
          refine pc_top (show 0 = zo (uh (nx u)) k from ((I2.1.1 k (by omega)).resolve_right c318).symm) ?_
          refine W.widen (k := 170 + 900 * tm + 260 + 36 * k + 2) (n := 1078 + 5400 * tm + 1490 + 216 * k + 12) (by omega) (by omega) ?_
          exact join326 _ _ hP hD hS ls (lv_sub hl [0, 1, 2, 3, 4, 5, 6, 7, 8, 9, 10, 11, 12, 13, 14, 15, 16] rfl)
        · refine lv_iconst (v := 1) hx hb dL_law_321 (by decide) ?_
          refine lv_goto (tgt := 326) hx hb dL_law_322 (by decide) ?_
          refine pc_top (show 1 = zo (uh (nx u)) k from c318.symm) ?_
          refine W.widen (k := 170 + 900 * tm + 260 + 36 * k + 2) (n := 1078 + 5400 * tm + 1490 + 216 * k + 12) (by omega) (by omega) ?_
          exact join326 _ _ hP hD hS ls (lv_sub hl [0, 1, 2, 3, 4, 5, 6, 7, 8, 9, 10, 11, 12, 13, 14, 15, 16] rfl)
  refine W.widen (k := 170 + 900 * tm + 260 + 36 * 0) (n := 1078 + 5400 * tm + 1490 + 216 * 0) (by omega) (by omega) ?_
  exact loop303 (12 + 1) 0 (by decide) (by omega) _ _ hP hD hS ls (lv_sub hl [5, 6, 7, 8, 9, 10, 11, 12, 13, 14, 15, 16, 4, 3, 2, 1, 0] rfl)

