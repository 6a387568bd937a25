set_option maxHeartbeats 4000000 in
set_option maxRecDepth 100000 in
theorem law_loop {p : Program} {l : Launch} {e : Env} {s : State} {m : MethodId} {below : List Frame} {meth : Method} {c : Code} {b L : Nat} {xs : Nat → Int32} {D : va_G} {cy : Nat → ClassId} {A : Nat → Prop} {Q : State → Prop} {b1 : Nat} {a q q2 ca ta : Nat → Nat} {sa0 st0 ch0 : Nat → Nat} {u0 : US} {g0 : HS} (X : LX p l s m c b L xs D cy A) (I0 : INV u0) (hz0 : zh (uh u0) = 0) (kk : ∀ (u9 : US) (g9 : HS) (sa9 : Nat → Nat) (st9 : Nat → Nat) (ch9 : Nat → Nat) (H : Heap) (locs : List Loc) (ls : Array Slot), INV u9 → va_P D vwCl (([] : va_W) ++ (wS5 cy b1 sa9 st9 ch9 (un u9) (uw u9) (ud u9) (nI (zh (uh u9))) (zl (uh u9)) ++ (rows12 cy st9 6 (rowS (uh u9)) ++ (wX cy a q q2 ca ta u9 g9 ++ chT cy ch9 u9)))) H → va_D A (([] : va_W) ++ (wS5 cy b1 sa9 st9 ch9 (un u9) (uw u9) (ud u9) (nI (zh (uh u9))) (zl (uh u9)) ++ (rows12 cy st9 6 (rowS (uh u9)) ++ (wX cy a q q2 ca ta u9 g9 ++ chT cy ch9 u9)))) → va_S A s.heap H locs → lv_has ls 26 [(0, .ref b), (1, .ref (a 0)), (2, .ref b1)] → W p l e room_1 s m #[Value.ref b] below meth c H locs 23570 141478 Q (F0 m 1037 ls [])) : ∀ (H : Heap) (locs : List Loc) (ls : Array Slot), va_P D vwCl (([] : va_W) ++ (wS5 cy b1 sa0 st0 ch0 (un u0) (uw u0) (ud u0) (nI (zh (uh u0))) (zl (uh u0)) ++ (rows12 cy st0 6 (rowS (uh u0)) ++ (wX cy a q q2 ca ta u0 g0 ++ chT cy ch0 u0)))) H → va_D A (([] : va_W) ++ (wS5 cy b1 sa0 st0 ch0 (un u0) (uw u0) (ud u0) (nI (zh (uh u0))) (zl (uh u0)) ++ (rows12 cy st0 6 (rowS (uh u0)) ++ (wX cy a q q2 ca ta u0 g0 ++ chT cy ch0 u0)))) → va_S A s.heap H locs → lv_has ls 26 [(0, .ref b), (1, .ref (a 0)), (2, .ref b1), (3, .int 0)] → W p l e room_1 s m #[Value.ref b] below meth c H locs 170 1078 Q (F0 m 22 ls []) := by
  obtain ⟨hx, hb, hml, hown, hts, hX0, hbl, hL9, hst, hK, hkp, hA, hXA, hbA⟩ := id X
  intro H locs ls hP hD hS hl
  have loop22 : ∀ (n9 : Nat) (tm : Nat) (u : US) (g : HS) (sa : Nat → Nat) (st : Nat → Nat) (ch : Nat → Nat), tm ≤ 26 → INV u → zh (uh u) = tm → 26 - tm < n9 → ∀ (H : Heap) (locs : List Loc), va_P D vwCl (([] : va_W) ++ (wS5 cy b1 sa st ch (un u) (uw u) (ud u) (nI (zh (uh u))) (zl (uh u)) ++ (rows12 cy st 6 (rowS (uh u)) ++ (wX cy a q q2 ca ta u g ++ chT cy ch u)))) H → va_D A (([] : va_W) ++ (wS5 cy b1 sa st ch (un u) (uw u) (ud u) (nI (zh (uh u))) (zl (uh u)) ++ (rows12 cy st 6 (rowS (uh u)) ++ (wX cy a q q2 ca ta u g ++ chT cy ch u)))) → va_S A s.heap H locs → ∀ ls : Array Slot, lv_has ls 26 [(0, .ref b), (1, .ref (a 0)), (2, .ref b1), (3, .int (nI tm))] → W p l e room_1 s m #[Value.ref b] below meth c H locs (170 + 900 * tm) (1078 + 5400 * tm) Q (F0 m 22 ls []) := by
    intro n9
    induction n9 with
    | zero => intro tm u g sa st ch ht I hz h9 H locs hP hD hS ls hl; exact absurd h9 (by omega)
    | succ n9 ih22 =>
      intro tm u g sa st ch ht I hz h9 H locs hP hD hS ls hl
      refine lv_iload_n hx hb dL_law_22 rfl (lv_at hl 3 rfl) ?_
      refine lv_bipush (v := 26) hx hb dL_law_23 (by decide) ?_
      refine lv_icmp_ge (tgt := 1037) hx hb dL_law_25 (by decide) (fun c25 => ?_) (fun c25 => ?_)
      · have n25 : 26 ≤ tm := (nI_leI (a := 26) (b := tm) (by omega) (by omega)).mp c25
        refine W.widen (k := 23570) (n := 141478) (by omega) (by omega) ?_
        exact kk u g sa st ch _ _ _ I hP hD hS (lv_sub hl [0, 1, 2] rfl)
      · have n25 : ¬ (26 ≤ tm) := fun h9 => c25 ((nI_leI (a := 26) (b := tm) (by omega) (by omega)).mpr h9)
        refine law_p1 X I hz (by omega) (fun u1 sa1 st1 ch1 g2 wo rr th H locs ls I1 hz1 hP hD hS hl => ?_) _ _ _ hP hD hS (lv_sub hl [0, 1, 2, 3] rfl)
        have I2 := INV_nx I1 (by omega)
        refine law_p2 X I1 I2 hz1 (by omega) (fun g3 ho H locs ls hP hD hS hl => ?_) _ _ _ hP hD hS hl
        refine law_p3 X I1 I2 hz1 (by omega) (fun H locs ls hP hD hS hl => ?_) _ _ _ hP hD hS hl
        refine law_p4 X I1 I2 (by omega) (fun g9 H locs ls hP hD hS hl => ?_) _ _ _ hP hD hS hl
        have hP : va_P D vwCl (([] : va_W) ++ (wS5 cy b1 sa1 st1 ch1 (un (nx u1)) (uw (nx u1)) (ud (nx u1)) (nI (zh (uh (nx u1)))) (zl (uh (nx u1))) ++ (rows12 cy st1 6 (rowS (uh (nx u1))) ++ (wX cy a q q2 ca ta (nx u1) g9 ++ chT cy ch1 (nx u1))))) H := hP
        have hD : va_D A (([] : va_W) ++ (wS5 cy b1 sa1 st1 ch1 (un (nx u1)) (uw (nx u1)) (ud (nx u1)) (nI (zh (uh (nx u1)))) (zl (uh (nx u1))) ++ (rows12 cy st1 6 (rowS (uh (nx u1))) ++ (wX cy a q q2 ca ta (nx u1) g9 ++ chT cy ch1 (nx u1))))) := hD
        refine lv_iinc (v := nI (tm + 1)) (lv' := [(3, .int (nI (tm + 1))), (0, .ref b), (1, .ref (a 0)), (2, .ref b1)]) hx hb dL_law_1031 hl (k := 3) rfl ((show (nI tm) + Int32.ofInt 1 = (nI tm) + 1 from rfl).trans (show (nI tm) + 1 = nI (tm + 1) from nI_add tm 1)) (by decide) rfl (fun ls hl => ?_)
        refine lv_goto (tgt := 22) hx hb dL_law_1034 (by decide) ?_
        refine W.widen (k := 170 + 900 * (tm + 1)) (n := 1078 + 5400 * (tm + 1)) (by omega) (by omega) ?_
        exact ih22 (tm + 1) (nx u1) g9 sa1 st1 ch1 (by omega) I2 (by rw [zh_nx, hz1]) (by omega) _ _ hP hD hS ls (lv_sub hl [1, 2, 3, 0] rfl)
  refine W.widen (k := 170 + 900 * 0) (n := 1078 + 5400 * 0) (by omega) (by omega) ?_
  exact loop22 (26 + 1) 0 u0 g0 sa0 st0 ch0 (by decide) I0 hz0 (by omega) _ _ hP hD hS ls (lv_sub hl [0, 1, 2, 3] rfl)

