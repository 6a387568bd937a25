set_option maxHeartbeats 4000000 in
set_option maxRecDepth 100000 in
theorem law_p4 {p : Program} {l : Launch} {e : Env} {s : State} {m : MethodId} {below : List Frame} {meth : Method} {c : Code} {b L : Nat} {xs : Nat → Int32} {D : va_G} {cy : Nat → ClassId} {A : Nat → Prop} {Q : State → Prop} {b1 : Nat} {a q q2 ca ta : Nat → Nat} {sa st ch : Nat → Nat} {u : US} {g : HS} {tm th wo ho : Nat} {rr : Nat → Nat} (X : LX p l s m c b L xs D cy A) (I : INV u) (I2 : INV (nx u)) (htm : tm < 26) (kk : ∀ (g9 : HS) (H : Heap) (locs : List Loc) (ls : Array Slot), va_P D vwCl (([] : va_W) ++ (wS5 cy b1 sa st ch (un (nx u)) (uw (nx u)) (ud (nx u)) (nI (zh (uh (nx u)))) (zl (uh (nx u))) ++ (rows12 cy st 6 (rowS (uh (nx u))) ++ (wX cy a q q2 ca ta (nx u) g9 ++ chT cy ch (nx u))))) H → va_D A (([] : va_W) ++ (wS5 cy b1 sa st ch (un (nx u)) (uw (nx u)) (ud (nx u)) (nI (zh (uh (nx u)))) (zl (uh (nx u))) ++ (rows12 cy st 6 (rowS (uh (nx u))) ++ (wX cy a q q2 ca ta (nx u) g9 ++ chT cy ch (nx u))))) → va_S A s.heap H locs → lv_has ls 26 [(0, .ref b), (1, .ref (a 0)), (2, .ref b1), (3, .int (nI tm))] → W p l e room_1 s m #[Value.ref b] below meth c H locs (170 + 900 * tm + 790) (1078 + 5400 * tm + 4600) Q (F0 m 1031 ls [])) : ∀ (H : Heap) (locs : List Loc) (ls : Array Slot), va_P D vwCl ((([(ho, .inl ((cy 0), un u, .inl (lsF (hq u) (un u)))), (th, .inl ((cy 0), 12, .inl (lsF (tone (uh (nx u))) 12))), (wo, .inl ((cy 4), 12, .inr (.inr (.inr (.inr (fun i => some (rr i)))))))] : va_W) ++ rows12 cy rr 7 (wasG (uh u) 12 0)) ++ (wS5 cy b1 sa st ch (un (nx u)) (uw (nx u)) (ud (nx u)) (nI (zh (uh (nx u)))) (zl (uh (nx u))) ++ (rows12 cy st 6 (rowS (uh (nx u))) ++ (wX cy a q q2 ca ta (nx u) g ++ chT cy ch (nx u))))) H → va_D A ((([(ho, .inl ((cy 0), un u, .inl (lsF (hq u) (un u)))), (th, .inl ((cy 0), 12, .inl (lsF (tone (uh (nx u))) 12))), (wo, .inl ((cy 4), 12, .inr (.inr (.inr (.inr (fun i => some (rr i)))))))] : va_W) ++ rows12 cy rr 7 (wasG (uh u) 12 0)) ++ (wS5 cy b1 sa st ch (un (nx u)) (uw (nx u)) (ud (nx u)) (nI (zh (uh (nx u)))) (zl (uh (nx u))) ++ (rows12 cy st 6 (rowS (uh (nx u))) ++ (wX cy a q q2 ca ta (nx u) g ++ chT cy ch (nx u))))) → va_S A s.heap H locs → lv_has ls 26 [(0, .ref b), (1, .ref (a 0)), (2, .ref b1), (3, .int (nI tm)), (11, .int (nI (un u))), (12, .ref ho)] → W p l e room_1 s m #[Value.ref b] below meth c H locs (170 + 900 * tm + 720) (1078 + 5400 * tm + 4200) Q (F0 m 860 ls []) := by
  obtain ⟨hx, hb, hml, hown, hts, hX0, hbl, hL9, hst, hK, hkp, hA, hXA, hbA⟩ := X
  intro H locs ls hP hD hS hl
  have hu6 : un u ≤ 6 := I.1.2.1
  have hun : un (nx u) = un u := rfl
  refine lv_iconst (v := 0) hx hb dL_law_860 (by decide) ?_
  refine lv_istore (lv' := [(19, .int 0), (0, .ref b), (1, .ref (a 0)), (2, .ref b1), (3, .int (nI tm)), (11, .int (nI (un u))), (12, .ref ho)]) hx hb dL_law_861 hl (by decide) rfl (fun ls hl => ?_)
  have loop863 : ∀ (n9 : Nat) (ci : Nat) (g2 : HS), ci ≤ un u → un u - ci < n9 → ∀ (H : Heap) (locs : List Loc), va_P D vwCl ((([(ho, .inl ((cy 0), un u, .inl (lsF (hq u) (un u)))), (th, .inl ((cy 0), 12, .inl (lsF (tone (uh (nx u))) 12))), (wo, .inl ((cy 4), 12, .inr (.inr (.inr (.inr (fun i => some (rr i)))))))] : va_W) ++ rows12 cy rr 7 (wasG (uh u) 12 0)) ++ (wS5 cy b1 sa st ch (un (nx u)) (uw (nx u)) (ud (nx u)) (nI (zh (uh (nx u)))) (zl (uh (nx u))) ++ (rows12 cy st 6 (rowS (uh (nx u))) ++ (wX cy a q q2 ca ta (nx u) g2 ++ chT cy ch (nx u))))) H → va_D A ((([(ho, .inl ((cy 0), un u, .inl (lsF (hq u) (un u)))), (th, .inl ((cy 0), 12, .inl (lsF (tone (uh (nx u))) 12))), (wo, .inl ((cy 4), 12, .inr (.inr (.inr (.inr (fun i => some (rr i)))))))] : va_W) ++ rows12 cy rr 7 (wasG (uh u) 12 0)) ++ (wS5 cy b1 sa st ch (un (nx u)) (uw (nx u)) (ud (nx u)) (nI (zh (uh (nx u)))) (zl (uh (nx u))) ++ (rows12 cy st 6 (rowS (uh (nx u))) ++ (wX cy a q q2 ca ta (nx u) g2 ++ chT cy ch (nx u))))) → va_S A s.heap H locs → ∀ ls : Array Slot, lv_has ls 26 [(0, .ref b), (1, .ref (a 0)), (2, .ref b1), (3, .int (nI tm)), (11, .int (nI (un u))), (12, .ref ho), (19, .int (nI ci))] → W p l e room_1 s m #[Value.ref b] below meth c H locs (170 + 900 * tm + 720 + 10 * ci) (1078 + 5400 * tm + 4200 + 60 * ci) Q (F0 m 863 ls []) := by
    intro n9
    induction n9 with
    | zero => intro ci g2 hc h9 H locs hP hD hS ls hl; exact absurd h9 (by omega)
    | succ n9 ih863 =>
      intro ci g2 hc h9 H locs hP hD hS ls hl
      refine lv_iload hx hb dL_law_863 (lv_at hl 6 rfl) ?_
      refine lv_iload hx hb dL_law_865 (lv_at hl 4 rfl) ?_
      refine lv_icmp_ge (tgt := 1031) hx hb dL_law_867 (by decide) (fun c867 => ?_) (fun c867 => ?_)
      · have n867 : un u ≤ ci := (nI_leI (a := un u) (b := ci) (by omega) (by omega)).mp c867
        have hP : va_P D vwCl (([] : va_W) ++ (wS5 cy b1 sa st ch (un (nx u)) (uw (nx u)) (ud (nx u)) (nI (zh (uh (nx u)))) (zl (uh (nx u))) ++ (rows12 cy st 6 (rowS (uh (nx u))) ++ (wX cy a q q2 ca ta (nx u) g2 ++ chT cy ch (nx u))))) H := pM_dropP hP
        have hD : va_D A (([] : va_W) ++ (wS5 cy b1 sa st ch (un (nx u)) (uw (nx u)) (ud (nx u)) (nI (zh (uh (nx u)))) (zl (uh (nx u))) ++ (rows12 cy st 6 (rowS (uh (nx u))) ++ (wX cy a q q2 ca ta (nx u) g2 ++ chT cy ch (nx u))))) := pM_dropD hD
        refine W.widen (k := 170 + 900 * tm + 790) (n := 1078 + 5400 * tm + 4600) (by omega) (by omega) ?_
        exact kk g2 _ _ _ hP hD hS (lv_sub hl [0, 1, 2, 3] rfl)
      · have n867 : ¬ (un u ≤ ci) := fun h9 => c867 ((nI_leI (a := un u) (b := ci) (by omega) (by omega)).mpr h9)
        have hc9 := u_c I (c := ci) (by omega)
        have ixc : ix (nI ci) = ci := ix_nI (by omega)
        have join895 : ∀ (g5 : HS) (H : Heap) (locs : List Loc), va_P D vwCl ((([(ho, .inl ((cy 0), un u, .inl (lsF (hq u) (un u)))), (th, .inl ((cy 0), 12, .inl (lsF (tone (uh (nx u))) 12))), (wo, .inl ((cy 4), 12, .inr (.inr (.inr (.inr (fun i => some (rr i)))))))] : va_W) ++ rows12 cy rr 7 (wasG (uh u) 12 0)) ++ (wS5 cy b1 sa st ch (un (nx u)) (uw (nx u)) (ud (nx u)) (nI (zh (uh (nx u)))) (zl (uh (nx u))) ++ (rows12 cy st 6 (rowS (uh (nx u))) ++ (wX cy a q q2 ca ta (nx u) g5 ++ chT cy ch (nx u))))) H → va_D A ((([(ho, .inl ((cy 0), un u, .inl (lsF (hq u) (un u)))), (th, .inl ((cy 0), 12, .inl (lsF (tone (uh (nx u))) 12))), (wo, .inl ((cy 4), 12, .inr (.inr (.inr (.inr (fun i => some (rr i)))))))] : va_W) ++ rows12 cy rr 7 (wasG (uh u) 12 0)) ++ (wS5 cy b1 sa st ch (un (nx u)) (uw (nx u)) (ud (nx u)) (nI (zh (uh (nx u)))) (zl (uh (nx u))) ++ (rows12 cy st 6 (rowS (uh (nx u))) ++ (wX cy a q q2 ca ta (nx u) g5 ++ chT cy ch (nx u))))) → va_S A s.heap H locs → ∀ ls : Array Slot, lv_has ls 26 [(0, .ref b), (1, .ref (a 0)), (2, .ref b1), (3, .int (nI tm)), (11, .int (nI (un u))), (12, .ref ho), (19, .int (nI ci))] → W p l e room_1 s m #[Value.ref b] below meth c H locs (170 + 900 * tm + 720 + 10 * ci + 2) (1078 + 5400 * tm + 4200 + 60 * ci + 12) Q (F0 m 895 ls []) := by
          intro g5 H locs hP hD hS ls hl
          have join913 : ∀ (H : Heap) (locs : List Loc), va_P D vwCl ((([(ho, .inl ((cy 0), un u, .inl (lsF (hq u) (un u)))), (th, .inl ((cy 0), 12, .inl (lsF (tone (uh (nx u))) 12))), (wo, .inl ((cy 4), 12, .inr (.inr (.inr (.inr (fun i => some (rr i)))))))] : va_W) ++ rows12 cy rr 7 (wasG (uh u) 12 0)) ++ (wS5 cy b1 sa st ch (un (nx u)) (uw (nx u)) (ud (nx u)) (nI (zh (uh (nx u)))) (zl (uh (nx u))) ++ (rows12 cy st 6 (rowS (uh (nx u))) ++ (wX cy a q q2 ca ta (nx u) g5 ++ chT cy ch (nx u))))) H → va_D A ((([(ho, .inl ((cy 0), un u, .inl (lsF (hq u) (un u)))), (th, .inl ((cy 0), 12, .inl (lsF (tone (uh (nx u))) 12))), (wo, .inl ((cy 4), 12, .inr (.inr (.inr (.inr (fun i => some (rr i)))))))] : va_W) ++ rows12 cy rr 7 (wasG (uh u) 12 0)) ++ (wS5 cy b1 sa st ch (un (nx u)) (uw (nx u)) (ud (nx u)) (nI (zh (uh (nx u)))) (zl (uh (nx u))) ++ (rows12 cy st 6 (rowS (uh (nx u))) ++ (wX cy a q q2 ca ta (nx u) g5 ++ chT cy ch (nx u))))) → va_S A s.heap H locs → ∀ ls : Array Slot, lv_has ls 26 [(0, .ref b), (1, .ref (a 0)), (2, .ref b1), (3, .int (nI tm)), (11, .int (nI (un u))), (12, .ref ho), (19, .int (nI ci))] → W p l e room_1 s m #[Value.ref b] below meth c H locs (170 + 900 * tm + 720 + 10 * ci + 3) (1078 + 5400 * tm + 4200 + 60 * ci + 18) Q (F0 m 913 ls []) := by
            intro H locs hP hD hS ls hl
            have join939 : ∀ (H : Heap) (locs : List Loc), va_P D vwCl ((([(ho, .inl ((cy 0), un u, .inl (lsF (hq u) (un u)))), (th, .inl ((cy 0), 12, .inl (lsF (tone (uh (nx u))) 12))), (wo, .inl ((cy 4), 12, .inr (.inr (.inr (.inr (fun i => some (rr i)))))))] : va_W) ++ rows12 cy rr 7 (wasG (uh u) 12 0)) ++ (wS5 cy b1 sa st ch (un (nx u)) (uw (nx u)) (ud (nx u)) (nI (zh (uh (nx u)))) (zl (uh (nx u))) ++ (rows12 cy st 6 (rowS (uh (nx u))) ++ (wX cy a q q2 ca ta (nx u) g5 ++ chT cy ch (nx u))))) H → va_D A ((([(ho, .inl ((cy 0), un u, .inl (lsF (hq u) (un u)))), (th, .inl ((cy 0), 12, .inl (lsF (tone (uh (nx u))) 12))), (wo, .inl ((cy 4), 12, .inr (.inr (.inr (.inr (fun i => some (rr i)))))))] : va_W) ++ rows12 cy rr 7 (wasG (uh u) 12 0)) ++ (wS5 cy b1 sa st ch (un (nx u)) (uw (nx u)) (ud (nx u)) (nI (zh (uh (nx u)))) (zl (uh (nx u))) ++ (rows12 cy st 6 (rowS (uh (nx u))) ++ (wX cy a q q2 ca ta (nx u) g5 ++ chT cy ch (nx u))))) → va_S A s.heap H locs → ∀ ls : Array Slot, lv_has ls 26 [(0, .ref b), (1, .ref (a 0)), (2, .ref b1), (3, .int (nI tm)), (11, .int (nI (un u))), (12, .ref ho), (19, .int (nI ci))] → W p l e room_1 s m #[Value.ref b] below meth c H locs (170 + 900 * tm + 720 + 10 * ci + 4) (1078 + 5400 * tm + 4200 + 60 * ci + 24) Q (F0 m 939 ls []) := by
              intro H locs hP hD hS ls hl
              have join971 : ∀ (H : Heap) (locs : List Loc), va_P D vwCl ((([(ho, .inl ((cy 0), un u, .inl (lsF (hq u) (un u)))), (th, .inl ((cy 0), 12, .inl (lsF (tone (uh (nx u))) 12))), (wo, .inl ((cy 4), 12, .inr (.inr (.inr (.inr (fun i => some (rr i)))))))] : va_W) ++ rows12 cy rr 7 (wasG (uh u) 12 0)) ++ (wS5 cy b1 sa st ch (un (nx u)) (uw (nx u)) (ud (nx u)) (nI (zh (uh (nx u)))) (zl (uh (nx u))) ++ (rows12 cy st 6 (rowS (uh (nx u))) ++ (wX cy a q q2 ca ta (nx u) g5 ++ chT cy ch (nx u))))) H → va_D A ((([(ho, .inl ((cy 0), un u, .inl (lsF (hq u) (un u)))), (th, .inl ((cy 0), 12, .inl (lsF (tone (uh (nx u))) 12))), (wo, .inl ((cy 4), 12, .inr (.inr (.inr (.inr (fun i => some (rr i)))))))] : va_W) ++ rows12 cy rr 7 (wasG (uh u) 12 0)) ++ (wS5 cy b1 sa st ch (un (nx u)) (uw (nx u)) (ud (nx u)) (nI (zh (uh (nx u)))) (zl (uh (nx u))) ++ (rows12 cy st 6 (rowS (uh (nx u))) ++ (wX cy a q q2 ca ta (nx u) g5 ++ chT cy ch (nx u))))) → va_S A s.heap H locs → ∀ ls : Array Slot, lv_has ls 26 [(0, .ref b), (1, .ref (a 0)), (2, .ref b1), (3, .int (nI tm)), (11, .int (nI (un u))), (12, .ref ho), (19, .int (nI ci))] → W p l e room_1 s m #[Value.ref b] below meth c H locs (170 + 900 * tm + 720 + 10 * ci + 6) (1078 + 5400 * tm + 4200 + 60 * ci + 36) Q (F0 m 971 ls []) := by
                intro H locs hP hD hS ls hl
                refine lv_iload_n hx hb dL_law_971 rfl (lv_at hl 3 rfl) ?_
                refine lv_iconst (v := 4) hx hb dL_law_972 (by decide) ?_
                refine lv_irem hx hb dL_law_973 (by decide) ?_
                refine pc_top (show (nI tm) - (nI tm) / 4 * 4 = nI (tm % 4) from (pk_rem (by omega) (by decide) (by decide))) ?_
                refine lv_if_ne (tgt := 986) hx hb dL_law_974 (by decide) (fun c974 => ?_) (fun c974 => ?_)
                · have n974 : ¬ (tm % 4 = 0) := fun h9 => c974 ((nI_eq (a := tm % 4) (b := 0) (by omega) (by omega)).mpr h9)
                  refine lv_iconst (v := (-1)) hx hb dL_law_986 (by decide) ?_
                  refine lv_istore (lv' := [(20, .int (-1)), (0, .ref b), (1, .ref (a 0)), (2, .ref b1), (3, .int (nI tm)), (11, .int (nI (un u))), (12, .ref ho), (19, .int (nI ci))]) hx hb dL_law_987 hl (by decide) rfl (fun ls hl => ?_)
                  refine lv_aload_n hx hb dL_law_989 rfl (lv_at hl 2 rfl) ?_
                  refine lv_iload hx hb dL_law_990 (lv_at hl 7 rfl) ?_
                  refine cls_p (Lc := (([(ho, .inl ((cy 0), un u, .inl (lsF (hq u) (un u)))), (th, .inl ((cy 0), 12, .inl (lsF (tone (uh (nx u))) 12))), (wo, .inl ((cy 4), 12, .inr (.inr (.inr (.inr (fun i => some (rr i)))))))] : va_W) ++ rows12 cy rr 7 (wasG (uh u) 12 0))) (S5 := wS5 cy b1 sa st ch (un (nx u)) (uw (nx u)) (ud (nx u)) (nI (zh (uh (nx u)))) (zl (uh (nx u)))) (S12 := rows12 cy st 6 (rowS (uh (nx u)))) (T := chT cy ch (nx u)) (As := [.int (nI ci)]) (rest := []) hP hS hK hXA ⟨hx, hb, hml, hown, hts⟩ (mX2_sounds l hst D cy a q q2 ca ta (nx u) g5 I2.1 (nI ci)) (fun E h => h.2 (exC_0 (u := nx u) hu6 (show ci < un (nx u) by omega))) (cwV 1 hts gW_X2_sounds rfl rfl rfl (by decide +kernel) ⟨Nat.le_of_ble_eq_true rfl, Nat.le_of_ble_eq_true rfl⟩) rfl rfl hl.1 (Nat.le_of_ble_eq_true rfl) dL_law_992 ⟨(show 170 + 900 * tm + 720 + 10 * ci + 6 + 1 ≤ 617289 by omega), (show 1078 + 5400 * tm + 4200 + 60 * ci + 36 + 6 ≤ 7249830 by omega)⟩ ?_
                  refine pc_top (show bI (snd (nx u) (ix (nI ci))) = bI (snd (nx u) ci) from (by rw [ixc])) ?_
                  refine lv_if_eq (tgt := 1009) hx hb dL_law_995 (by decide) (fun c995 => ?_) (fun c995 => ?_)
                  · refine lv_aload_n hx hb dL_law_1009 rfl (lv_at hl 2 rfl) ?_
                    refine lv_iload hx hb dL_law_1010 (lv_at hl 7 rfl) ?_
                    refine cls_p (Lc := (([(ho, .inl ((cy 0), un u, .inl (lsF (hq u) (un u)))), (th, .inl ((cy 0), 12, .inl (lsF (tone (uh (nx u))) 12))), (wo, .inl ((cy 4), 12, .inr (.inr (.inr (.inr (fun i => some (rr i)))))))] : va_W) ++ rows12 cy rr 7 (wasG (uh u) 12 0))) (S5 := wS5 cy b1 sa st ch (un (nx u)) (uw (nx u)) (ud (nx u)) (nI (zh (uh (nx u)))) (zl (uh (nx u)))) (S12 := rows12 cy st 6 (rowS (uh (nx u)))) (T := chT cy ch (nx u)) (As := [.int (nI ci)]) (rest := []) hP hS hK hXA ⟨hx, hb, hml, hown, hts⟩ (mX2_sounds l hst D cy a q q2 ca ta (nx u) g5 I2.1 (nI ci)) (fun E h => h.2 (exC_0 (u := nx u) hu6 (show ci < un (nx u) by omega))) (cwV 1 hts gW_X2_sounds rfl rfl rfl (by decide +kernel) ⟨Nat.le_of_ble_eq_true rfl, Nat.le_of_ble_eq_true rfl⟩) rfl rfl hl.1 (Nat.le_of_ble_eq_true rfl) dL_law_1012 ⟨(show 170 + 900 * tm + 720 + 10 * ci + 6 + 1 + 1 ≤ 617289 by omega), (show 1078 + 5400 * tm + 4200 + 60 * ci + 36 + 6 + 6 ≤ 7249830 by omega)⟩ ?_
                    refine pc_top (show bI (snd (nx u) (ix (nI ci))) = bI (snd (nx u) ci) from (by rw [ixc])) ?_
                    refine lv_if_ne (tgt := 1025) hx hb dL_law_1015 (by decide) (fun c1015 => ?_) (fun c1015 => ?_)
                    · refine lv_iinc (v := nI (ci + 1)) (lv' := [(19, .int (nI (ci + 1))), (20, .int (-1)), (0, .ref b), (1, .ref (a 0)), (2, .ref b1), (3, .int (nI tm)), (11, .int (nI (un u))), (12, .ref ho)]) hx hb dL_law_1025 hl (k := 7) rfl ((show (nI ci) + Int32.ofInt 1 = (nI ci) + 1 from rfl).trans (show (nI ci) + 1 = nI (ci + 1) from nI_add ci 1)) (by decide) rfl (fun ls hl => ?_)
                      refine lv_goto (tgt := 863) hx hb dL_law_1028 (by decide) ?_
                      refine W.widen (k := 170 + 900 * tm + 720 + 10 * (ci + 1)) (n := 1078 + 5400 * tm + 4200 + 60 * (ci + 1)) (by omega) (by omega) ?_
                      exact ih863 (ci + 1) g5 (by omega) (by omega) _ _ hP hD hS ls (lv_sub hl [2, 3, 4, 5, 6, 7, 0] rfl)
                    · refine lv_iload hx hb dL_law_1018 (lv_at hl 0 rfl) ?_
                      refine lv_if_ne (tgt := 1025) hx hb dL_law_1020 (by decide) (fun c1020 => ?_) (fun c1020 => absurd c1020 (by decide))
                      refine lv_iinc (v := nI (ci + 1)) (lv' := [(19, .int (nI (ci + 1))), (20, .int (-1)), (0, .ref b), (1, .ref (a 0)), (2, .ref b1), (3, .int (nI tm)), (11, .int (nI (un u))), (12, .ref ho)]) hx hb dL_law_1025 hl (k := 7) rfl ((show (nI ci) + Int32.ofInt 1 = (nI ci) + 1 from rfl).trans (show (nI ci) + 1 = nI (ci + 1) from nI_add ci 1)) (by decide) rfl (fun ls hl => ?_)
                      refine lv_goto (tgt := 863) hx hb dL_law_1028 (by decide) ?_
                      refine W.widen (k := 170 + 900 * tm + 720 + 10 * (ci + 1)) (n := 1078 + 5400 * tm + 4200 + 60 * (ci + 1)) (by omega) (by omega) ?_
                      exact ih863 (ci + 1) g5 (by omega) (by omega) _ _ hP hD hS ls (lv_sub hl [2, 3, 4, 5, 6, 7, 0] rfl)
                  · refine lv_iload_n hx hb dL_law_998 rfl (lv_at hl 4 rfl) ?_
                    refine lv_iconst (v := 4) hx hb dL_law_999 (by decide) ?_
                    refine lv_irem hx hb dL_law_1000 (by decide) ?_
                    refine pc_top (show (nI tm) - (nI tm) / 4 * 4 = nI (tm % 4) from (pk_rem (by omega) (by decide) (by decide))) ?_
                    refine lv_if_ne (tgt := 1009) hx hb dL_law_1001 (by decide) (fun c1001 => ?_) (fun c1001 => absurd c1001 c974)
                    have n1001 : ¬ (tm % 4 = 0) := fun h9 => c1001 ((nI_eq (a := tm % 4) (b := 0) (by omega) (by omega)).mpr h9)
                    refine lv_aload_n hx hb dL_law_1009 rfl (lv_at hl 2 rfl) ?_
                    refine lv_iload hx hb dL_law_1010 (lv_at hl 7 rfl) ?_
                    refine cls_p (Lc := (([(ho, .inl ((cy 0), un u, .inl (lsF (hq u) (un u)))), (th, .inl ((cy 0), 12, .inl (lsF (tone (uh (nx u))) 12))), (wo, .inl ((cy 4), 12, .inr (.inr (.inr (.inr (fun i => some (rr i)))))))] : va_W) ++ rows12 cy rr 7 (wasG (uh u) 12 0))) (S5 := wS5 cy b1 sa st ch (un (nx u)) (uw (nx u)) (ud (nx u)) (nI (zh (uh (nx u)))) (zl (uh (nx u)))) (S12 := rows12 cy st 6 (rowS (uh (nx u)))) (T := chT cy ch (nx u)) (As := [.int (nI ci)]) (rest := []) hP hS hK hXA ⟨hx, hb, hml, hown, hts⟩ (mX2_sounds l hst D cy a q q2 ca ta (nx u) g5 I2.1 (nI ci)) (fun E h => h.2 (exC_0 (u := nx u) hu6 (show ci < un (nx u) by omega))) (cwV 1 hts gW_X2_sounds rfl rfl rfl (by decide +kernel) ⟨Nat.le_of_ble_eq_true rfl, Nat.le_of_ble_eq_true rfl⟩) rfl rfl hl.1 (Nat.le_of_ble_eq_true rfl) dL_law_1012 ⟨(show 170 + 900 * tm + 720 + 10 * ci + 6 + 1 + 1 ≤ 617289 by omega), (show 1078 + 5400 * tm + 4200 + 60 * ci + 36 + 6 + 6 ≤ 7249830 by omega)⟩ ?_
                    refine pc_top (show bI (snd (nx u) (ix (nI ci))) = bI (snd (nx u) ci) from (by rw [ixc])) ?_
                    refine lv_if_ne (tgt := 1025) hx hb dL_law_1015 (by decide) (fun c1015 => ?_) (fun c1015 => ?_)
                    · refine lv_iinc (v := nI (ci + 1)) (lv' := [(19, .int (nI (ci + 1))), (20, .int (-1)), (0, .ref b), (1, .ref (a 0)), (2, .ref b1), (3, .int (nI tm)), (11, .int (nI (un u))), (12, .ref ho)]) hx hb dL_law_1025 hl (k := 7) rfl ((show (nI ci) + Int32.ofInt 1 = (nI ci) + 1 from rfl).trans (show (nI ci) + 1 = nI (ci + 1) from nI_add ci 1)) (by decide) rfl (fun ls hl => ?_)
                      refine lv_goto (tgt := 863) hx hb dL_law_1028 (by decide) ?_
                      refine W.widen (k := 170 + 900 * tm + 720 + 10 * (ci + 1)) (n := 1078 + 5400 * tm + 4200 + 60 * (ci + 1)) (by omega) (by omega) ?_
                      exact ih863 (ci + 1) g5 (by omega) (by omega) _ _ hP hD hS ls (lv_sub hl [2, 3, 4, 5, 6, 7, 0] rfl)
                    · refine lv_iload hx hb dL_law_1018 (lv_at hl 0 rfl) ?_
                      refine lv_if_ne (tgt := 1025) hx hb dL_law_1020 (by decide) (fun c1020 => ?_) (fun c1020 => absurd c1020 (by decide))
                      refine lv_iinc (v := nI (ci + 1)) (lv' := [(19, .int (nI (ci + 1))), (20, .int (-1)), (0, .ref b), (1, .ref (a 0)), (2, .ref b1), (3, .int (nI tm)), (11, .int (nI (un u))), (12, .ref ho)]) hx hb dL_law_1025 hl (k := 7) rfl ((show (nI ci) + Int32.ofInt 1 = (nI ci) + 1 from rfl).trans (show (nI ci) + 1 = nI (ci + 1) from nI_add ci 1)) (by decide) rfl (fun ls hl => ?_)
                      refine lv_goto (tgt := 863) hx hb dL_law_1028 (by decide) ?_
                      refine W.widen (k := 170 + 900 * tm + 720 + 10 * (ci + 1)) (n := 1078 + 5400 * tm + 4200 + 60 * (ci + 1)) (by omega) (by omega) ?_
                      exact ih863 (ci + 1) g5 (by omega) (by omega) _ _ hP hD hS ls (lv_sub hl [2, 3, 4, 5, 6, 7, 0] rfl)
                · have n974 : tm % 4 = 0 := (nI_eq (a := tm % 4) (b := 0) (by omega) (by omega)).mp c974
                  refine lv_aload_n hx hb dL_law_977 rfl (lv_at hl 1 rfl) ?_
                  refine lv_iload hx hb dL_law_978 (lv_at hl 6 rfl) ?_
                  refine cls_p (Lc := (([(ho, .inl ((cy 0), un u, .inl (lsF (hq u) (un u)))), (th, .inl ((cy 0), 12, .inl (lsF (tone (uh (nx u))) 12))), (wo, .inl ((cy 4), 12, .inr (.inr (.inr (.inr (fun i => some (rr i)))))))] : va_W) ++ rows12 cy rr 7 (wasG (uh u) 12 0))) (S5 := wS5 cy b1 sa st ch (un (nx u)) (uw (nx u)) (ud (nx u)) (nI (zh (uh (nx u)))) (zl (uh (nx u)))) (S12 := rows12 cy st 6 (rowS (uh (nx u)))) (T := chT cy ch (nx u)) (As := [.int (nI ci)]) (rest := []) hP hS hK hXA ⟨hx, hb, hml, hown, hts⟩ (mX2_steps l hst D cy a q q2 ca ta (nx u) g5 I2.1 (nI ci)) (fun E h => h.2 (exC_0 (u := nx u) hu6 (show ci < un (nx u) by omega))) (cwV 1 hts gW_X2_steps rfl rfl rfl (by decide +kernel) ⟨Nat.le_of_ble_eq_true rfl, Nat.le_of_ble_eq_true rfl⟩) rfl rfl hl.1 (Nat.le_of_ble_eq_true rfl) dL_law_980 ⟨(show 170 + 900 * tm + 720 + 10 * ci + 6 + 1 ≤ 617289 by omega), (show 1078 + 5400 * tm + 4200 + 60 * ci + 36 + 6 ≤ 7249830 by omega)⟩ ?_
                  refine pc_top (show fewS (nx u) (ix (nI ci)) = fewS (nx u) ci from (by rw [ixc])) ?_
                  refine lv_goto (tgt := 987) hx hb dL_law_983 (by decide) ?_
                  refine lv_istore (lv' := [(20, .int (fewS (nx u) ci)), (0, .ref b), (1, .ref (a 0)), (2, .ref b1), (3, .int (nI tm)), (11, .int (nI (un u))), (12, .ref ho), (19, .int (nI ci))]) hx hb dL_law_987 hl (by decide) rfl (fun ls hl => ?_)
                  refine lv_aload_n hx hb dL_law_989 rfl (lv_at hl 2 rfl) ?_
                  refine lv_iload hx hb dL_law_990 (lv_at hl 7 rfl) ?_
                  refine cls_p (Lc := (([(ho, .inl ((cy 0), un u, .inl (lsF (hq u) (un u)))), (th, .inl ((cy 0), 12, .inl (lsF (tone (uh (nx u))) 12))), (wo, .inl ((cy 4), 12, .inr (.inr (.inr (.inr (fun i => some (rr i)))))))] : va_W) ++ rows12 cy rr 7 (wasG (uh u) 12 0))) (S5 := wS5 cy b1 sa st ch (un (nx u)) (uw (nx u)) (ud (nx u)) (nI (zh (uh (nx u)))) (zl (uh (nx u)))) (S12 := rows12 cy st 6 (rowS (uh (nx u)))) (T := chT cy ch (nx u)) (As := [.int (nI ci)]) (rest := []) hP hS hK hXA ⟨hx, hb, hml, hown, hts⟩ (mX2_sounds l hst D cy a q q2 ca ta (nx u) g5 I2.1 (nI ci)) (fun E h => h.2 (exC_0 (u := nx u) hu6 (show ci < un (nx u) by omega))) (cwV 1 hts gW_X2_sounds rfl rfl rfl (by decide +kernel) ⟨Nat.le_of_ble_eq_true rfl, Nat.le_of_ble_eq_true rfl⟩) rfl rfl hl.1 (Nat.le_of_ble_eq_true rfl) dL_law_992 ⟨(show 170 + 900 * tm + 720 + 10 * ci + 6 + 1 + 1 ≤ 617289 by omega), (show 1078 + 5400 * tm + 4200 + 60 * ci + 36 + 6 + 6 ≤ 7249830 by omega)⟩ ?_
                  refine pc_top (show bI (snd (nx u) (ix (nI ci))) = bI (snd (nx u) ci) from (by rw [ixc])) ?_
                  refine lv_if_eq (tgt := 1009) hx hb dL_law_995 (by decide) (fun c995 => ?_) (fun c995 => ?_)
                  · refine lv_aload_n hx hb dL_law_1009 rfl (lv_at hl 2 rfl) ?_
                    refine lv_iload hx hb dL_law_1010 (lv_at hl 7 rfl) ?_
                    refine cls_p (Lc := (([(ho, .inl ((cy 0), un u, .inl (lsF (hq u) (un u)))), (th, .inl ((cy 0), 12, .inl (lsF (tone (uh (nx u))) 12))), (wo, .inl ((cy 4), 12, .inr (.inr (.inr (.inr (fun i => some (rr i)))))))] : va_W) ++ rows12 cy rr 7 (wasG (uh u) 12 0))) (S5 := wS5 cy b1 sa st ch (un (nx u)) (uw (nx u)) (ud (nx u)) (nI (zh (uh (nx u)))) (zl (uh (nx u)))) (S12 := rows12 cy st 6 (rowS (uh (nx u)))) (T := chT cy ch (nx u)) (As := [.int (nI ci)]) (rest := []) hP hS hK hXA ⟨hx, hb, hml, hown, hts⟩ (mX2_sounds l hst D cy a q q2 ca ta (nx u) g5 I2.1 (nI ci)) (fun E h => h.2 (exC_0 (u := nx u) hu6 (show ci < un (nx u) by omega))) (cwV 1 hts gW_X2_sounds rfl rfl rfl (by decide +kernel) ⟨Nat.le_of_ble_eq_true rfl, Nat.le_of_ble_eq_true rfl⟩) rfl rfl hl.1 (Nat.le_of_ble_eq_true rfl) dL_law_1012 ⟨(show 170 + 900 * tm + 720 + 10 * ci + 6 + 1 + 1 + 1 ≤ 617289 by omega), (show 1078 + 5400 * tm + 4200 + 60 * ci + 36 + 6 + 6 + 6 ≤ 7249830 by omega)⟩ ?_
                    refine pc_top (show bI (snd (nx u) (ix (nI ci))) = bI (snd (nx u) ci) from (by rw [ixc])) ?_
                    refine lv_if_ne (tgt := 1025) hx hb dL_law_1015 (by decide) (fun c1015 => ?_) (fun c1015 => ?_)
                    · refine lv_iinc (v := nI (ci + 1)) (lv' := [(19, .int (nI (ci + 1))), (20, .int (fewS (nx u) ci)), (0, .ref b), (1, .ref (a 0)), (2, .ref b1), (3, .int (nI tm)), (11, .int (nI (un u))), (12, .ref ho)]) hx hb dL_law_1025 hl (k := 7) rfl ((show (nI ci) + Int32.ofInt 1 = (nI ci) + 1 from rfl).trans (show (nI ci) + 1 = nI (ci + 1) from nI_add ci 1)) (by decide) rfl (fun ls hl => ?_)
                      refine lv_goto (tgt := 863) hx hb dL_law_1028 (by decide) ?_
                      refine W.widen (k := 170 + 900 * tm + 720 + 10 * (ci + 1)) (n := 1078 + 5400 * tm + 4200 + 60 * (ci + 1)) (by omega) (by omega) ?_
                      exact ih863 (ci + 1) g5 (by omega) (by omega) _ _ hP hD hS ls (lv_sub hl [2, 3, 4, 5, 6, 7, 0] rfl)
                    · refine lv_iload hx hb dL_law_1018 (lv_at hl 0 rfl) ?_
                      refine lv_if_ne (tgt := 1025) hx hb dL_law_1020 (by decide) (fun c1020 => ?_) (fun c1020 => absurd c1020 (few_n I2 (show ci < un (nx u) by omega) (bI_0.mp c1015)))
                      refine lv_iinc (v := nI (ci + 1)) (lv' := [(19, .int (nI (ci + 1))), (20, .int (fewS (nx u) ci)), (0, .ref b), (1, .ref (a 0)), (2, .ref b1), (3, .int (nI tm)), (11, .int (nI (un u))), (12, .ref ho)]) hx hb dL_law_1025 hl (k := 7) rfl ((show (nI ci) + Int32.ofInt 1 = (nI ci) + 1 from rfl).trans (show (nI ci) + 1 = nI (ci + 1) from nI_add ci 1)) (by decide) rfl (fun ls hl => ?_)
                      refine lv_goto (tgt := 863) hx hb dL_law_1028 (by decide) ?_
                      refine W.widen (k := 170 + 900 * tm + 720 + 10 * (ci + 1)) (n := 1078 + 5400 * tm + 4200 + 60 * (ci + 1)) (by omega) (by omega) ?_
                      exact ih863 (ci + 1) g5 (by omega) (by omega) _ _ hP hD hS ls (lv_sub hl [2, 3, 4, 5, 6, 7, 0] rfl)
                  · refine lv_iload_n hx hb dL_law_998 rfl (lv_at hl 4 rfl) ?_
                    refine lv_iconst (v := 4) hx hb dL_law_999 (by decide) ?_
                    refine lv_irem hx hb dL_law_1000 (by decide) ?_
                    refine pc_top (show (nI tm) - (nI tm) / 4 * 4 = nI (tm % 4) from (pk_rem (by omega) (by decide) (by decide))) ?_
                    refine lv_if_ne (tgt := 1009) hx hb dL_law_1001 (by decide) (fun c1001 => absurd c1001 (not_not_intro c974)) (fun c1001 => ?_)
                    have n1001 : tm % 4 = 0 := (nI_eq (a := tm % 4) (b := 0) (by omega) (by omega)).mp c1001
                    refine lv_iload hx hb dL_law_1004 (lv_at hl 0 rfl) ?_
                    refine lv_if_ne (tgt := 1023) hx hb dL_law_1006 (by decide) (fun c1006 => absurd c1006 (not_not_intro (few_y I2 (show ci < un (nx u) by omega) (bI_1.mp c995)))) (fun c1006 => ?_)
                    refine lv_aload_n hx hb dL_law_1009 rfl (lv_at hl 2 rfl) ?_
                    refine lv_iload hx hb dL_law_1010 (lv_at hl 7 rfl) ?_
                    refine cls_p (Lc := (([(ho, .inl ((cy 0), un u, .inl (lsF (hq u) (un u)))), (th, .inl ((cy 0), 12, .inl (lsF (tone (uh (nx u))) 12))), (wo, .inl ((cy 4), 12, .inr (.inr (.inr (.inr (fun i => some (rr i)))))))] : va_W) ++ rows12 cy rr 7 (wasG (uh u) 12 0))) (S5 := wS5 cy b1 sa st ch (un (nx u)) (uw (nx u)) (ud (nx u)) (nI (zh (uh (nx u)))) (zl (uh (nx u)))) (S12 := rows12 cy st 6 (rowS (uh (nx u)))) (T := chT cy ch (nx u)) (As := [.int (nI ci)]) (rest := []) hP hS hK hXA ⟨hx, hb, hml, hown, hts⟩ (mX2_sounds l hst D cy a q q2 ca ta (nx u) g5 I2.1 (nI ci)) (fun E h => h.2 (exC_0 (u := nx u) hu6 (show ci < un (nx u) by omega))) (cwV 1 hts gW_X2_sounds rfl rfl rfl (by decide +kernel) ⟨Nat.le_of_ble_eq_true rfl, Nat.le_of_ble_eq_true rfl⟩) rfl rfl hl.1 (Nat.le_of_ble_eq_true rfl) dL_law_1012 ⟨(show 170 + 900 * tm + 720 + 10 * ci + 6 + 1 + 1 + 1 ≤ 617289 by omega), (show 1078 + 5400 * tm + 4200 + 60 * ci + 36 + 6 + 6 + 6 ≤ 7249830 by omega)⟩ ?_
                    refine pc_top (show bI (snd (nx u) (ix (nI ci))) = bI (snd (nx u) ci) from (by rw [ixc])) ?_
                    refine lv_if_ne (tgt := 1025) hx hb dL_law_1015 (by decide) (fun c1015 => ?_) (fun c1015 => ?_)
                    · refine lv_iinc (v := nI (ci + 1)) (lv' := [(19, .int (nI (ci + 1))), (20, .int (fewS (nx u) ci)), (0, .ref b), (1, .ref (a 0)), (2, .ref b1), (3, .int (nI tm)), (11, .int (nI (un u))), (12, .ref ho)]) hx hb dL_law_1025 hl (k := 7) rfl ((show (nI ci) + Int32.ofInt 1 = (nI ci) + 1 from rfl).trans (show (nI ci) + 1 = nI (ci + 1) from nI_add ci 1)) (by decide) rfl (fun ls hl => ?_)
                      refine lv_goto (tgt := 863) hx hb dL_law_1028 (by decide) ?_
                      refine W.widen (k := 170 + 900 * tm + 720 + 10 * (ci + 1)) (n := 1078 + 5400 * tm + 4200 + 60 * (ci + 1)) (by omega) (by omega) ?_
                      exact ih863 (ci + 1) g5 (by omega) (by omega) _ _ hP hD hS ls (lv_sub hl [2, 3, 4, 5, 6, 7, 0] rfl)
                    · refine lv_iload hx hb dL_law_1018 (lv_at hl 0 rfl) ?_
                      refine lv_if_ne (tgt := 1025) hx hb dL_law_1020 (by decide) (fun c1020 => ?_) (fun c1020 => absurd c1020 (few_n I2 (show ci < un (nx u) by omega) (bI_0.mp c1015)))
                      refine lv_iinc (v := nI (ci + 1)) (lv' := [(19, .int (nI (ci + 1))), (20, .int (fewS (nx u) ci)), (0, .ref b), (1, .ref (a 0)), (2, .ref b1), (3, .int (nI tm)), (11, .int (nI (un u))), (12, .ref ho)]) hx hb dL_law_1025 hl (k := 7) rfl ((show (nI ci) + Int32.ofInt 1 = (nI ci) + 1 from rfl).trans (show (nI ci) + 1 = nI (ci + 1) from nI_add ci 1)) (by decide) rfl (fun ls hl => ?_)
                      refine lv_goto (tgt := 863) hx hb dL_law_1028 (by decide) ?_
                      refine W.widen (k := 170 + 900 * tm + 720 + 10 * (ci + 1)) (n := 1078 + 5400 * tm + 4200 + 60 * (ci + 1)) (by omega) (by omega) ?_
                      exact ih863 (ci + 1) g5 (by omega) (by omega) _ _ hP hD hS ls (lv_sub hl [2, 3, 4, 5, 6, 7, 0] rfl)
              refine lv_aload_n hx hb dL_law_939 rfl (lv_at hl 1 rfl) ?_
              refine lv_iload hx hb dL_law_940 (lv_at hl 6 rfl) ?_
              refine cls_p (Lc := (([(ho, .inl ((cy 0), un u, .inl (lsF (hq u) (un u)))), (th, .inl ((cy 0), 12, .inl (lsF (tone (uh (nx u))) 12))), (wo, .inl ((cy 4), 12, .inr (.inr (.inr (.inr (fun i => some (rr i)))))))] : va_W) ++ rows12 cy rr 7 (wasG (uh u) 12 0))) (S5 := wS5 cy b1 sa st ch (un (nx u)) (uw (nx u)) (ud (nx u)) (nI (zh (uh (nx u)))) (zl (uh (nx u)))) (S12 := rows12 cy st 6 (rowS (uh (nx u)))) (T := chT cy ch (nx u)) (As := [.int (nI ci)]) (rest := []) hP hS hK hXA ⟨hx, hb, hml, hown, hts⟩ (mX2_sounds l hst D cy a q q2 ca ta (nx u) g5 I2.1 (nI ci)) (fun E h => h.2 (exC_0 (u := nx u) hu6 (show ci < un (nx u) by omega))) (cwV 1 hts gW_X2_sounds rfl rfl rfl (by decide +kernel) ⟨Nat.le_of_ble_eq_true rfl, Nat.le_of_ble_eq_true rfl⟩) rfl rfl hl.1 (Nat.le_of_ble_eq_true rfl) dL_law_942 ⟨(show 170 + 900 * tm + 720 + 10 * ci + 4 + 1 ≤ 617289 by omega), (show 1078 + 5400 * tm + 4200 + 60 * ci + 24 + 6 ≤ 7249830 by omega)⟩ ?_
              refine pc_top (show bI (snd (nx u) (ix (nI ci))) = bI (snd (nx u) ci) from (by rw [ixc])) ?_
              refine lv_if_eq (tgt := 971) hx hb dL_law_945 (by decide) (fun c945 => ?_) (fun c945 => ?_)
              · refine W.widen (k := 170 + 900 * tm + 720 + 10 * ci + 6) (n := 1078 + 5400 * tm + 4200 + 60 * ci + 36) (by omega) (by omega) ?_
                exact join971 _ _ hP hD hS ls (lv_sub hl [0, 1, 2, 3, 4, 5, 6] rfl)
              · refine lv_aload_n hx hb dL_law_948 rfl (lv_at hl 1 rfl) ?_
                refine lv_iload hx hb dL_law_949 (lv_at hl 6 rfl) ?_
                refine cls_p (Lc := (([(ho, .inl ((cy 0), un u, .inl (lsF (hq u) (un u)))), (th, .inl ((cy 0), 12, .inl (lsF (tone (uh (nx u))) 12))), (wo, .inl ((cy 4), 12, .inr (.inr (.inr (.inr (fun i => some (rr i)))))))] : va_W) ++ rows12 cy rr 7 (wasG (uh u) 12 0))) (S5 := wS5 cy b1 sa st ch (un (nx u)) (uw (nx u)) (ud (nx u)) (nI (zh (uh (nx u)))) (zl (uh (nx u)))) (S12 := rows12 cy st 6 (rowS (uh (nx u)))) (T := chT cy ch (nx u)) (As := [.int (nI ci)]) (rest := []) hP hS hK hXA ⟨hx, hb, hml, hown, hts⟩ (mX2_off l hst D cy a q q2 ca ta (nx u) g5 I2.1 (nI ci)) (fun E h => h.2 (exC_0 (u := nx u) hu6 (show ci < un (nx u) by omega))) (cwV 1 hts gW_X2_off rfl rfl rfl (by decide +kernel) ⟨Nat.le_of_ble_eq_true rfl, Nat.le_of_ble_eq_true rfl⟩) rfl rfl hl.1 (Nat.le_of_ble_eq_true rfl) dL_law_951 ⟨(show 170 + 900 * tm + 720 + 10 * ci + 4 + 1 + 1 ≤ 617289 by omega), (show 1078 + 5400 * tm + 4200 + 60 * ci + 24 + 6 + 6 ≤ 7249830 by omega)⟩ ?_
                refine pc_top (show offBy (uh (nx u)) (ul (nx u) (ix (nI ci))) (ut (nx u) (ix (nI ci))) (uz (nx u) (ix (nI ci))) = offBy (uh (nx u)) (ul u ci) (ut u ci) (uz u ci) from (by rw [ixc]; rfl)) ?_
                refine lv_iconst (v := 5) hx hb dL_law_954 (by decide) ?_
                refine lv_aload_n hx hb dL_law_955 rfl (lv_at hl 2 rfl) ?_
                refine va_get (D := D) (ci := 3) (v := .ref (sa 1)) (C := RX3) (T := TX3) (N := 6) hx hb hts wsX30_in9 hown hK hP 15 rfl rfl 1 (by decide) (hts (Cond.fieldLink RL 44 "WedgeHarpsLaw$Sim" "chords" "[[I") lq_1_15.1) (fun _ h9 => h9) rfl dL_law_956 ?_
                refine lv_iload hx hb dL_law_959 (lv_at hl 6 rfl) ?_
                refine pc_aldA hx hb hkp hP 17 rfl (k := ci) (show ci < un (nx u) by omega) (by omega) (v := ch ci) rfl dL_law_961 ?_
                refine pc_alenC (n := uz (nx u) ci + 1) (f := rowC (nx u) ci) hx hb hK hP (List.mem_append_right _ (List.mem_append_right _ (List.mem_append_right _ (List.mem_append_right _ (chT_mem (u := nx u) (by omega)))))) dL_law_962 ?_
                refine lv_iconst (v := 1) hx hb dL_law_963 (by decide) ?_
                refine lv_isub hx hb dL_law_964 ?_
                refine pc_top (show (nI (uz (nx u) ci + 1)) - 1 = nI ((uz (nx u) ci + 1) - 1) from pk_sub (a := uz (nx u) ci + 1) (b := 1) (by omega)) ?_
                refine pc_top (show nI ((uz (nx u) ci + 1) - 1) = nI (uz u ci) from (congrArg nI (Nat.add_sub_cancel _ 1))) ?_
                refine lv_imul hx hb dL_law_965 ?_
                refine pc_top (show 5 * (nI (uz u ci)) = nI (5 * (uz u ci)) from pk_mul 5 (uz u ci)) ?_
                refine lv_icmp_le (tgt := 971) hx hb dL_law_966 (by decide) (fun c966 => ?_) (fun c966 => absurd c966 (not_not_intro (off_5 I2 (show ci < un (nx u) by omega) (bI_1.mp c945))))
                refine W.widen (k := 170 + 900 * tm + 720 + 10 * ci + 6) (n := 1078 + 5400 * tm + 4200 + 60 * ci + 36) (by omega) (by omega) ?_
                exact join971 _ _ hP hD hS ls (lv_sub hl [0, 1, 2, 3, 4, 5, 6] rfl)
            refine lv_aload hx hb dL_law_913 (lv_at hl 5 rfl) ?_
            refine lv_iload hx hb dL_law_915 (lv_at hl 6 rfl) ?_
            refine pc_iald hx hb hK hP 0 0 rfl rfl (k := ci) (show ci < un u by omega) (by omega) dL_law_917 ?_
            refine pc_top (show (lsF (hq u) (un u)) ci = hq u ci from (lsF_at (by omega))) ?_
            refine lv_if_eq (tgt := 939) hx hb dL_law_918 (by decide) (fun c918 => ?_) (fun c918 => ?_)
            · refine W.widen (k := 170 + 900 * tm + 720 + 10 * ci + 4) (n := 1078 + 5400 * tm + 4200 + 60 * ci + 24) (by omega) (by omega) ?_
              exact join939 _ _ hP hD hS ls (lv_sub hl [0, 1, 2, 3, 4, 5, 6] rfl)
            · refine lv_aload hx hb dL_law_921 (lv_at hl 5 rfl) ?_
              refine lv_iload hx hb dL_law_923 (lv_at hl 6 rfl) ?_
              refine pc_iald hx hb hK hP 0 0 rfl rfl (k := ci) (show ci < un u by omega) (by omega) dL_law_925 ?_
              refine pc_top (show (lsF (hq u) (un u)) ci = hq u ci from (lsF_at (by omega))) ?_
              refine lv_iconst (v := 1) hx hb dL_law_926 (by decide) ?_
              refine lv_icmp_eq (tgt := 939) hx hb dL_law_927 (by decide) (fun c927 => ?_) (fun c927 => ?_)
              · refine W.widen (k := 170 + 900 * tm + 720 + 10 * ci + 4) (n := 1078 + 5400 * tm + 4200 + 60 * ci + 24) (by omega) (by omega) ?_
                exact join939 _ _ hP hD hS ls (lv_sub hl [0, 1, 2, 3, 4, 5, 6] rfl)
              · refine lv_aload_n hx hb dL_law_930 rfl (lv_at hl 1 rfl) ?_
                refine lv_iload hx hb dL_law_931 (lv_at hl 6 rfl) ?_
                refine cls_p (Lc := (([(ho, .inl ((cy 0), un u, .inl (lsF (hq u) (un u)))), (th, .inl ((cy 0), 12, .inl (lsF (tone (uh (nx u))) 12))), (wo, .inl ((cy 4), 12, .inr (.inr (.inr (.inr (fun i => some (rr i)))))))] : va_W) ++ rows12 cy rr 7 (wasG (uh u) 12 0))) (S5 := wS5 cy b1 sa st ch (un (nx u)) (uw (nx u)) (ud (nx u)) (nI (zh (uh (nx u)))) (zl (uh (nx u)))) (S12 := rows12 cy st 6 (rowS (uh (nx u)))) (T := chT cy ch (nx u)) (As := [.int (nI ci)]) (rest := []) hP hS hK hXA ⟨hx, hb, hml, hown, hts⟩ (mX2_sounds l hst D cy a q q2 ca ta (nx u) g5 I2.1 (nI ci)) (fun E h => h.2 (exC_0 (u := nx u) hu6 (show ci < un (nx u) by omega))) (cwV 1 hts gW_X2_sounds rfl rfl rfl (by decide +kernel) ⟨Nat.le_of_ble_eq_true rfl, Nat.le_of_ble_eq_true rfl⟩) rfl rfl hl.1 (Nat.le_of_ble_eq_true rfl) dL_law_933 ⟨(show 170 + 900 * tm + 720 + 10 * ci + 3 + 1 ≤ 617289 by omega), (show 1078 + 5400 * tm + 4200 + 60 * ci + 18 + 6 ≤ 7249830 by omega)⟩ ?_
                refine pc_top (show bI (snd (nx u) (ix (nI ci))) = bI (snd (nx u) ci) from (by rw [ixc])) ?_
                refine lv_if_eq (tgt := 969) hx hb dL_law_936 (by decide) (fun c936 => absurd c936 (bI_1.mpr (hq_o hc9.2.1 c918 c927))) (fun c936 => ?_)
                refine W.widen (k := 170 + 900 * tm + 720 + 10 * ci + 4) (n := 1078 + 5400 * tm + 4200 + 60 * ci + 24) (by omega) (by omega) ?_
                exact join939 _ _ hP hD hS ls (lv_sub hl [0, 1, 2, 3, 4, 5, 6] rfl)
          refine lv_aload hx hb dL_law_895 (lv_at hl 5 rfl) ?_
          refine lv_iload hx hb dL_law_897 (lv_at hl 6 rfl) ?_
          refine pc_iald hx hb hK hP 0 0 rfl rfl (k := ci) (show ci < un u by omega) (by omega) dL_law_899 ?_
          refine pc_top (show (lsF (hq u) (un u)) ci = hq u ci from (lsF_at (by omega))) ?_
          refine lv_iconst (v := 1) hx hb dL_law_900 (by decide) ?_
          refine lv_icmp_ne (tgt := 913) hx hb dL_law_901 (by decide) (fun c901 => ?_) (fun c901 => ?_)
          · refine W.widen (k := 170 + 900 * tm + 720 + 10 * ci + 3) (n := 1078 + 5400 * tm + 4200 + 60 * ci + 18) (by omega) (by omega) ?_
            exact join913 _ _ hP hD hS ls (lv_sub hl [0, 1, 2, 3, 4, 5, 6] rfl)
          · refine lv_aload_n hx hb dL_law_904 rfl (lv_at hl 1 rfl) ?_
            refine lv_iload hx hb dL_law_905 (lv_at hl 6 rfl) ?_
            refine cls_p (Lc := (([(ho, .inl ((cy 0), un u, .inl (lsF (hq u) (un u)))), (th, .inl ((cy 0), 12, .inl (lsF (tone (uh (nx u))) 12))), (wo, .inl ((cy 4), 12, .inr (.inr (.inr (.inr (fun i => some (rr i)))))))] : va_W) ++ rows12 cy rr 7 (wasG (uh u) 12 0))) (S5 := wS5 cy b1 sa st ch (un (nx u)) (uw (nx u)) (ud (nx u)) (nI (zh (uh (nx u)))) (zl (uh (nx u)))) (S12 := rows12 cy st 6 (rowS (uh (nx u)))) (T := chT cy ch (nx u)) (As := [.int (nI ci)]) (rest := []) hP hS hK hXA ⟨hx, hb, hml, hown, hts⟩ (mX2_sounds l hst D cy a q q2 ca ta (nx u) g5 I2.1 (nI ci)) (fun E h => h.2 (exC_0 (u := nx u) hu6 (show ci < un (nx u) by omega))) (cwV 1 hts gW_X2_sounds rfl rfl rfl (by decide +kernel) ⟨Nat.le_of_ble_eq_true rfl, Nat.le_of_ble_eq_true rfl⟩) rfl rfl hl.1 (Nat.le_of_ble_eq_true rfl) dL_law_907 ⟨(show 170 + 900 * tm + 720 + 10 * ci + 2 + 1 ≤ 617289 by omega), (show 1078 + 5400 * tm + 4200 + 60 * ci + 12 + 6 ≤ 7249830 by omega)⟩ ?_
            refine pc_top (show bI (snd (nx u) (ix (nI ci))) = bI (snd (nx u) ci) from (by rw [ixc])) ?_
            refine lv_if_ne (tgt := 969) hx hb dL_law_910 (by decide) (fun c910 => absurd c910 (not_not_intro (bI_0.mpr (hq_1 hc9.2.1 c901)))) (fun c910 => ?_)
            refine W.widen (k := 170 + 900 * tm + 720 + 10 * ci + 3) (n := 1078 + 5400 * tm + 4200 + 60 * ci + 18) (by omega) (by omega) ?_
            exact join913 _ _ hP hD hS ls (lv_sub hl [0, 1, 2, 3, 4, 5, 6] rfl)
        refine lv_aload hx hb dL_law_870 (lv_at hl 5 rfl) ?_
        refine lv_iload hx hb dL_law_872 (lv_at hl 6 rfl) ?_
        refine pc_iald hx hb hK hP 0 0 rfl rfl (k := ci) (show ci < un u by omega) (by omega) dL_law_874 ?_
        refine pc_top (show (lsF (hq u) (un u)) ci = hq u ci from (lsF_at (by omega))) ?_
        refine lv_iconst (v := 1) hx hb dL_law_875 (by decide) ?_
        refine lv_icmp_le (tgt := 895) hx hb dL_law_876 (by decide) (fun c876 => ?_) (fun c876 => ?_)
        · refine W.widen (k := 170 + 900 * tm + 720 + 10 * ci + 2) (n := 1078 + 5400 * tm + 4200 + 60 * ci + 12) (by omega) (by omega) ?_
          exact join895 g2 _ _ hP hD hS ls (lv_sub hl [0, 1, 2, 3, 4, 5, 6] rfl)
        · refine lv_aload_n hx hb dL_law_879 rfl (lv_at hl 1 rfl) ?_
          refine lv_iload hx hb dL_law_880 (lv_at hl 6 rfl) ?_
          refine cls_w (Lc := (([(ho, .inl ((cy 0), un u, .inl (lsF (hq u) (un u)))), (th, .inl ((cy 0), 12, .inl (lsF (tone (uh (nx u))) 12))), (wo, .inl ((cy 4), 12, .inr (.inr (.inr (.inr (fun i => some (rr i)))))))] : va_W) ++ rows12 cy rr 7 (wasG (uh u) 12 0))) (S5 := wS5 cy b1 sa st ch (un (nx u)) (uw (nx u)) (ud (nx u)) (nI (zh (uh (nx u)))) (zl (uh (nx u)))) (S12 := rows12 cy st 6 (rowS (uh (nx u)))) (T := chT cy ch (nx u)) (As := [.int (nI ci)]) (rest := []) (uf := fun (_ : HS) => nx u) (gf := fun (z : HS) => z) hP hD hS hA hK hXA ⟨hx, hb, hml, hown, hts⟩ (mX2_holds l hst D cy H.size a q q2 ca ta (nx u) g2 I2.1 (nI ci)) (fun E h => h.2 (exC_0 (u := nx u) hu6 (show ci < un (nx u) by omega))) (cwV 1 hts gW_X2_holds rfl rfl rfl (by decide +kernel) ⟨Nat.le_of_ble_eq_true rfl, Nat.le_of_ble_eq_true rfl⟩) rfl rfl hl.1 (Nat.le_of_ble_eq_true rfl) dL_law_882 ⟨(show 170 + 900 * tm + 720 + 10 * ci + 1 ≤ 617289 by omega), (show 1078 + 5400 * tm + 4200 + 60 * ci + 6 ≤ 7249830 by omega)⟩ (fun g4 H locs hP hD hS => ?_)
          have hP : va_P D vwCl ((([(ho, .inl ((cy 0), un u, .inl (lsF (hq u) (un u)))), (th, .inl ((cy 0), 12, .inl (lsF (tone (uh (nx u))) 12))), (wo, .inl ((cy 4), 12, .inr (.inr (.inr (.inr (fun i => some (rr i)))))))] : va_W) ++ rows12 cy rr 7 (wasG (uh u) 12 0)) ++ (wS5 cy b1 sa st ch (un (nx u)) (uw (nx u)) (ud (nx u)) (nI (zh (uh (nx u)))) (zl (uh (nx u))) ++ (rows12 cy st 6 (rowS (uh (nx u))) ++ (wX cy a q q2 ca ta (nx u) g4 ++ chT cy ch (nx u))))) H := hP
          have hD : va_D A ((([(ho, .inl ((cy 0), un u, .inl (lsF (hq u) (un u)))), (th, .inl ((cy 0), 12, .inl (lsF (tone (uh (nx u))) 12))), (wo, .inl ((cy 4), 12, .inr (.inr (.inr (.inr (fun i => some (rr i)))))))] : va_W) ++ rows12 cy rr 7 (wasG (uh u) 12 0)) ++ (wS5 cy b1 sa st ch (un (nx u)) (uw (nx u)) (ud (nx u)) (nI (zh (uh (nx u)))) (zl (uh (nx u))) ++ (rows12 cy st 6 (rowS (uh (nx u))) ++ (wX cy a q q2 ca ta (nx u) g4 ++ chT cy ch (nx u))))) := hD
          refine pc_top (show lowF (fun k => !(holdP (nx u) (ix (nI ci)) k)) 0 201 = hq (nx u) ci from (by rw [ixc]; rfl)) ?_
          refine lv_aload hx hb dL_law_885 (lv_at hl 5 rfl) ?_
          refine lv_iload hx hb dL_law_887 (lv_at hl 6 rfl) ?_
          refine pc_iald hx hb hK hP 0 0 rfl rfl (k := ci) (show ci < un u by omega) (by omega) dL_law_889 ?_
          refine pc_top (show (lsF (hq u) (un u)) ci = hq u ci from (lsF_at (by omega))) ?_
          refine lv_iconst (v := 1) hx hb dL_law_890 (by decide) ?_
          refine lv_isub hx hb dL_law_891 ?_
          refine lv_icmp_ne (tgt := 969) hx hb dL_law_892 (by decide) (fun c892 => absurd c892 (not_not_intro (hq_gt hc9.2.1 c876))) (fun c892 => ?_)
          refine W.widen (k := 170 + 900 * tm + 720 + 10 * ci + 2) (n := 1078 + 5400 * tm + 4200 + 60 * ci + 12) (by omega) (by omega) ?_
          exact join895 g4 _ _ hP hD hS ls (lv_sub hl [0, 1, 2, 3, 4, 5, 6] rfl)
  refine W.widen (k := 170 + 900 * tm + 720 + 10 * 0) (n := 1078 + 5400 * tm + 4200 + 60 * 0) (by omega) (by omega) ?_
  exact loop863 (un u + 1) 0 g (Nat.zero_le _) (by omega) _ _ hP hD hS ls (lv_sub hl [1, 2, 3, 4, 5, 6, 0] rfl)

