theorem pc_topl2 {p : Program} {l : Launch} {e : Env} {R : Room} {s : State} {m : MethodId} {args : Array Value} {below : List Frame} {meth : Method} {c : Code} {H : Heap} {locs : List Loc} {cells slots : Nat} {Q : State → Prop} {pc : Nat} {ls : Array Slot} {rest : List Value} {x y z : Int64} (h : x = y) (k : W p l e R s m args below meth c H locs cells slots Q (F0 m pc ls (.long z :: .long y :: rest))) : W p l e R s m args below meth c H locs cells slots Q (F0 m pc ls (.long z :: .long x :: rest)) := by rw [h]; exact k
set_option maxHeartbeats 4000000 in
set_option maxRecDepth 100000 in
theorem law_k0 {p : Program} {l : Launch} {e : Env} {s : State} {m : MethodId} {below : List Frame} {meth : Method} {c : Code} {Q : State → Prop} {b L : Nat} {xs : Nat → Int32} {D : va_G} {cy : Nat → ClassId} {a q q2 ca ta mo : Nat → Nat} {o i k C S : Nat} (X : LX p l s m meth c b L xs D cy) (hi : i + 6 ≤ L) (hk : k < 600) (hC : C + 9 ≤ 601024) (hT : S + 112 ≤ 7293034) (kk : LK p l e s m below meth c Q b D cy a q q2 ca ta mo o i (k + 1) (C + 9) (S + 112) 1127) : LK p l e s m below meth c Q b D cy a q q2 ca ta mo o i k C S 124 := by
  obtain ⟨⟨hx, hb, hr, hml, hown, hts, hX, hbl, hlocks, hgv⟩, hL, hst, hK, hKP, hXc, hNc⟩ := X
  have hb : c.code = cL_law := hb
  intro u g th f H locs ls hI hP hD hS hl
  have S9 : CallFix p m c cL_law 9 s #[Value.ref b] lw_tbl RL := ⟨hx, hb, hml, hown, hts⟩
  refine lv_aload_n hx hb dL_law_124 rfl (lv_at hl 1 rfl) ?_
  refine lv_aload_n hx hb dL_law_125 rfl (lv_at hl 0 rfl) ?_
  refine lv_iload hx hb dL_law_126 (lv_at hl 4 rfl) ?_
  refine lv_iconst (v := 1) hx hb dL_law_128 (by decide) ?_
  refine lv_iadd hx hb dL_law_129 ?_
  refine pc_top (show nI i + 1 = nI (i + 1) from nI_add i 1) ?_
  refine law_rd hx hb hX hbl hS (by omega) hL dL_law_130 ?_
  refine lv_aload_n hx hb dL_law_131 rfl (lv_at hl 0 rfl) ?_
  refine lv_iload hx hb dL_law_132 (lv_at hl 4 rfl) ?_
  refine lv_iconst (v := 2) hx hb dL_law_134 (by decide) ?_
  refine lv_iadd hx hb dL_law_135 ?_
  refine pc_top (show nI i + 2 = nI (i + 2) from nI_add i 2) ?_
  refine law_rd hx hb hX hbl hS (by omega) hL dL_law_136 ?_
  refine lv_aload_n hx hb dL_law_137 rfl (lv_at hl 3 rfl) ?_
  refine law_cL (As := [.ref (a 0), .int (xs (i + 1)), .int (xs (i + 2)), .ref o]) (rest := []) (ex := exPush u (xs (i + 1)) (xs (i + 2))) (mc := 3) (ms := 18) hP hD hS hK hXc hNc S9 (mL_push l hst D cy H.size a q q2 ca ta u g hI.1 o f (xs (i + 1)) (xs (i + 2))) (vx_cwSW 4 hts gW_L_push rfl rfl rfl (by decide +kernel) ⟨Nat.le_of_ble_eq_true rfl, Nat.le_of_ble_eq_true rfl⟩) rfl rfl hl.1 (Nat.le_of_ble_eq_true rfl) dL_law_138 ⟨by omega, by omega⟩ (fun u9 g9 f9 H locs h1 h2 hP hD hS => ?_)
  refine lv_istore (lv' := [(5, .int (nI (exPush u (xs (i + 1)) (xs (i + 2))))), (0, .ref b), (1, .ref (a 0)), (2, .ref (mo 0)), (3, .ref o), (4, .int (nI i))]) hx hb dL_law_141 hl (by decide) rfl (fun ls hl => ?_)
  refine lv_aload_n hx hb dL_law_143 rfl (lv_at hl 3 rfl) ?_
  refine lv_aload_n hx hb dL_law_144 rfl (lv_at hl 1 rfl) ?_
  refine lv_iload hx hb dL_law_145 (lv_at hl 5 rfl) ?_
  refine lv_iconst (v := 1) hx hb dL_law_147 (by decide) ?_
  refine lv_iadd hx hb dL_law_148 ?_
  refine pc_top (show nI i + 1 = nI (i + 1) from nI_add i 1) ?_
  refine law_rd hx hb hX hbl hS (by omega) hL dL_law_149 ?_
  refine lv_aload_n hx hb dL_law_150 rfl (lv_at hl 1 rfl) ?_
  refine lv_iload hx hb dL_law_151 (lv_at hl 5 rfl) ?_
  refine lv_iconst (v := 2) hx hb dL_law_153 (by decide) ?_
  refine lv_iadd hx hb dL_law_154 ?_
  refine pc_top (show nI i + 2 = nI (i + 2) from nI_add i 2) ?_
  refine law_rd hx hb hX hbl hS (by omega) hL dL_law_155 ?_
  refine law_cM (As := [.int (xs (i + 1)), .int (xs (i + 2))]) (rest := []) (ex := exPush u (xs (i + 1)) (xs (i + 2))) (mc := 0) (ms := 0) hP hD hS hK S9 (mX3_push l D cy H.size mo u th hI.1 (xs (i + 1)) (xs (i + 2))) (cwV 2 hts gW_X3_push rfl rfl rfl (by decide +kernel) ⟨Nat.le_of_ble_eq_true rfl, Nat.le_of_ble_eq_true rfl⟩) (law_pV1 hK) rfl rfl hl.1 (Nat.le_of_ble_eq_true rfl) dL_law_156 ⟨by omega, by omega⟩ (fun r9 v9 H locs h3 h4 hP hD hS => ?_)
  refine lv_istore (lv' := [(6, .int r9), (5, .int (nI (exPush u (xs (i + 1)) (xs (i + 2))))), (0, .ref b), (1, .ref (a 0)), (2, .ref (mo 0)), (3, .ref o), (4, .int (nI i))]) hx hb dL_law_159 hl (by decide) rfl (fun ls hl => ?_)
  refine lv_aload_n hx hb dL_law_161 rfl (lv_at hl 4 rfl) ?_
  refine law_th hP hK S9 ⟨by omega, by omega⟩ gW_X3_thrown hl.1 dL_law_162 ?_
  refine lv_iload hx hb dL_law_165 (lv_at hl 1 rfl) ?_
  refine lv_icmp_eq (tgt := 172) hx hb dL_law_167 (by decide) (fun c9 => ?_) (fun c9 => absurd rfl c9)
  have e9 : v9 = u9 := law_same h1 h2 h3 h4
  rw [e9] at hP hD
  have hI9 : IJ u9 (k + 1) := law_step hI (fun z9 => IJ_push hI) h1 h2
  refine lv_iload hx hb dL_law_172 (lv_at hl 1 rfl) ?_
  refine lv_if_ne (tgt := 189) hx hb dL_law_174 (by decide) (fun c9 => ?_) (fun c9 => ?_)
  · refine lv_goto (tgt := 1127) hx hb dL_law_189 (by decide) ?_
    refine W.widen (k := C + 9) (n := S + 112) (by omega) (by omega) ?_
    exact kk u9 g9 _ f9 H locs ls hI9 hP hD hS (lv_sub hl [2, 3, 4, 5, 6] rfl)
  · have z9 := law_ex0 (exPush_le u (xs (i + 1)) (xs (i + 2))) c9
    refine lv_aload_n hx hb dL_law_177 rfl (lv_at hl 5 rfl) ?_
    refine lv_iconst (v := 0) hx hb dL_law_178 (by decide) ?_
    refine va_lald hx hb hK hP 37 3 rfl rfl (i := 0) (show vp_in (0 : Int32) 1 from vp_in_nI (by decide) (by decide)) dL_law_179 ?_
    refine pc_topl (show f9 (0 : Int32).toNatClampNeg = (tone (hPush (uh u) (ix (xs (i + 1))) (xs (i + 2))) (ix (xs (i + 1)))).toInt64 from (h1 z9).1) ?_
    refine lv_iload hx hb dL_law_180 (lv_at hl 0 rfl) ?_
    refine pc_top (h3 z9).1 ?_
    refine lv_i2l (v := (tone (hPush (uh u) (ix (xs (i + 1))) (xs (i + 2))) (ix (xs (i + 1)))).toInt64) hx hb dL_law_182 rfl ?_
    refine W.lcmp hx hb dL_law_183 ?_
    refine pc_top (lg_same _) ?_
    refine lv_if_eq (tgt := 189) hx hb dL_law_184 (by decide) (fun c8 => ?_) (fun c8 => absurd rfl c8)
    refine lv_goto (tgt := 1127) hx hb dL_law_189 (by decide) ?_
    refine W.widen (k := C + 9) (n := S + 112) (by omega) (by omega) ?_
    exact kk u9 g9 _ f9 H locs ls hI9 hP hD hS (lv_sub hl [2, 3, 4, 5, 6] rfl)
set_option maxHeartbeats 4000000 in
set_option maxRecDepth 100000 in
theorem law_k1 {p : Program} {l : Launch} {e : Env} {s : State} {m : MethodId} {below : List Frame} {meth : Method} {c : Code} {Q : State → Prop} {b L : Nat} {xs : Nat → Int32} {D : va_G} {cy : Nat → ClassId} {a q q2 ca ta mo : Nat → Nat} {o i k C S : Nat} (X : LX p l s m meth c b L xs D cy) (hi : i + 6 ≤ L) (hk : k < 600) (hC : C + 9 ≤ 601024) (hT : S + 112 ≤ 7293034) (kk : LK p l e s m below meth c Q b D cy a q q2 ca ta mo o i (k + 1) (C + 9) (S + 112) 1127) : LK p l e s m below meth c Q b D cy a q q2 ca ta mo o i k C S 192 := by
  obtain ⟨⟨hx, hb, hr, hml, hown, hts, hX, hbl, hlocks, hgv⟩, hL, hst, hK, hKP, hXc, hNc⟩ := X
  have hb : c.code = cL_law := hb
  intro u g th f H locs ls hI hP hD hS hl
  have S9 : CallFix p m c cL_law 9 s #[Value.ref b] lw_tbl RL := ⟨hx, hb, hml, hown, hts⟩
  refine lv_aload_n hx hb dL_law_192 rfl (lv_at hl 1 rfl) ?_
  refine lv_aload_n hx hb dL_law_193 rfl (lv_at hl 0 rfl) ?_
  refine lv_iload hx hb dL_law_194 (lv_at hl 4 rfl) ?_
  refine lv_iconst (v := 1) hx hb dL_law_196 (by decide) ?_
  refine lv_iadd hx hb dL_law_197 ?_
  refine pc_top (show nI i + 1 = nI (i + 1) from nI_add i 1) ?_
  refine law_rd hx hb hX hbl hS (by omega) hL dL_law_198 ?_
  refine lv_aload_n hx hb dL_law_199 rfl (lv_at hl 0 rfl) ?_
  refine lv_iload hx hb dL_law_200 (lv_at hl 4 rfl) ?_
  refine lv_iconst (v := 2) hx hb dL_law_202 (by decide) ?_
  refine lv_iadd hx hb dL_law_203 ?_
  refine pc_top (show nI i + 2 = nI (i + 2) from nI_add i 2) ?_
  refine law_rd hx hb hX hbl hS (by omega) hL dL_law_204 ?_
  refine lv_aload_n hx hb dL_law_205 rfl (lv_at hl 3 rfl) ?_
  refine law_cL (As := [.ref (a 0), .int (xs (i + 1)), .int (xs (i + 2)), .ref o]) (rest := []) (ex := exDraw (xs (i + 1)) (xs (i + 2))) (mc := 2) (ms := 12) hP hD hS hK hXc hNc S9 (mL_draw l hst D cy H.size a q q2 ca ta u g hI.1 o f (xs (i + 1)) (xs (i + 2))) (vx_cwSW 4 hts gW_L_draw rfl rfl rfl (by decide +kernel) ⟨Nat.le_of_ble_eq_true rfl, Nat.le_of_ble_eq_true rfl⟩) rfl rfl hl.1 (Nat.le_of_ble_eq_true rfl) dL_law_206 ⟨by omega, by omega⟩ (fun u9 g9 f9 H locs h1 h2 hP hD hS => ?_)
  refine lv_istore (lv' := [(5, .int (nI (exDraw (xs (i + 1)) (xs (i + 2))))), (0, .ref b), (1, .ref (a 0)), (2, .ref (mo 0)), (3, .ref o), (4, .int (nI i))]) hx hb dL_law_209 hl (by decide) rfl (fun ls hl => ?_)
  refine lv_aload_n hx hb dL_law_211 rfl (lv_at hl 3 rfl) ?_
  refine lv_aload_n hx hb dL_law_212 rfl (lv_at hl 1 rfl) ?_
  refine lv_iload hx hb dL_law_213 (lv_at hl 5 rfl) ?_
  refine lv_iconst (v := 1) hx hb dL_law_215 (by decide) ?_
  refine lv_iadd hx hb dL_law_216 ?_
  refine pc_top (show nI i + 1 = nI (i + 1) from nI_add i 1) ?_
  refine law_rd hx hb hX hbl hS (by omega) hL dL_law_217 ?_
  refine lv_aload_n hx hb dL_law_218 rfl (lv_at hl 1 rfl) ?_
  refine lv_iload hx hb dL_law_219 (lv_at hl 5 rfl) ?_
  refine lv_iconst (v := 2) hx hb dL_law_221 (by decide) ?_
  refine lv_iadd hx hb dL_law_222 ?_
  refine pc_top (show nI i + 2 = nI (i + 2) from nI_add i 2) ?_
  refine law_rd hx hb hX hbl hS (by omega) hL dL_law_223 ?_
  refine law_cM (As := [.int (xs (i + 1)), .int (xs (i + 2))]) (rest := []) (ex := exDraw (xs (i + 1)) (xs (i + 2))) (mc := 0) (ms := 0) hP hD hS hK S9 (mX3_draw l D cy H.size mo u th hI.1 (xs (i + 1)) (xs (i + 2))) (cwV 2 hts gW_X3_draw rfl rfl rfl (by decide +kernel) ⟨Nat.le_of_ble_eq_true rfl, Nat.le_of_ble_eq_true rfl⟩) (law_pV1 hK) rfl rfl hl.1 (Nat.le_of_ble_eq_true rfl) dL_law_224 ⟨by omega, by omega⟩ (fun r9 v9 H locs h3 h4 hP hD hS => ?_)
  refine lv_istore (lv' := [(6, .int r9), (5, .int (nI (exDraw (xs (i + 1)) (xs (i + 2))))), (0, .ref b), (1, .ref (a 0)), (2, .ref (mo 0)), (3, .ref o), (4, .int (nI i))]) hx hb dL_law_227 hl (by decide) rfl (fun ls hl => ?_)
  refine lv_aload_n hx hb dL_law_229 rfl (lv_at hl 4 rfl) ?_
  refine law_th hP hK S9 ⟨by omega, by omega⟩ gW_X3_thrown hl.1 dL_law_230 ?_
  refine lv_iload hx hb dL_law_233 (lv_at hl 1 rfl) ?_
  refine lv_icmp_eq (tgt := 240) hx hb dL_law_235 (by decide) (fun c9 => ?_) (fun c9 => absurd rfl c9)
  have e9 : v9 = u9 := law_same h1 h2 h3 h4
  rw [e9] at hP hD
  have hI9 : IJ u9 (k + 1) := law_step hI (fun z9 => IJ_draw hI) h1 h2
  refine lv_iload hx hb dL_law_240 (lv_at hl 1 rfl) ?_
  refine lv_if_ne (tgt := 257) hx hb dL_law_242 (by decide) (fun c9 => ?_) (fun c9 => ?_)
  · refine lv_goto (tgt := 1127) hx hb dL_law_257 (by decide) ?_
    refine W.widen (k := C + 9) (n := S + 112) (by omega) (by omega) ?_
    exact kk u9 g9 _ f9 H locs ls hI9 hP hD hS (lv_sub hl [2, 3, 4, 5, 6] rfl)
  · have z9 := law_ex0 (two_le3 (exDraw_le (xs (i + 1)) (xs (i + 2)))) c9
    refine lv_aload_n hx hb dL_law_245 rfl (lv_at hl 5 rfl) ?_
    refine lv_iconst (v := 0) hx hb dL_law_246 (by decide) ?_
    refine va_lald hx hb hK hP 37 3 rfl rfl (i := 0) (show vp_in (0 : Int32) 1 from vp_in_nI (by decide) (by decide)) dL_law_247 ?_
    refine pc_topl (show f9 (0 : Int32).toNatClampNeg = (tone (hRenew (uh u) (ix (xs (i + 1))) (xs (i + 2))) (ix (xs (i + 1)))).toInt64 from (h1 z9).1) ?_
    refine lv_iload hx hb dL_law_248 (lv_at hl 0 rfl) ?_
    refine pc_top (h3 z9).1 ?_
    refine lv_i2l (v := (tone (hRenew (uh u) (ix (xs (i + 1))) (xs (i + 2))) (ix (xs (i + 1)))).toInt64) hx hb dL_law_250 rfl ?_
    refine W.lcmp hx hb dL_law_251 ?_
    refine pc_top (lg_same _) ?_
    refine lv_if_eq (tgt := 257) hx hb dL_law_252 (by decide) (fun c8 => ?_) (fun c8 => absurd rfl c8)
    refine lv_goto (tgt := 1127) hx hb dL_law_257 (by decide) ?_
    refine W.widen (k := C + 9) (n := S + 112) (by omega) (by omega) ?_
    exact kk u9 g9 _ f9 H locs ls hI9 hP hD hS (lv_sub hl [2, 3, 4, 5, 6] rfl)
set_option maxHeartbeats 4000000 in
set_option maxRecDepth 100000 in
theorem law_k2 {p : Program} {l : Launch} {e : Env} {s : State} {m : MethodId} {below : List Frame} {meth : Method} {c : Code} {Q : State → Prop} {b L : Nat} {xs : Nat → Int32} {D : va_G} {cy : Nat → ClassId} {a q q2 ca ta mo : Nat → Nat} {o i k C S : Nat} (X : LX p l s m meth c b L xs D cy) (hi : i + 6 ≤ L) (hk : k < 600) (hC : C + 9 ≤ 601024) (hT : S + 112 ≤ 7293034) (kk : LK p l e s m below meth c Q b D cy a q q2 ca ta mo o i (k + 1) (C + 9) (S + 112) 1127) : LK p l e s m below meth c Q b D cy a q q2 ca ta mo o i k C S 260 := by
  obtain ⟨⟨hx, hb, hr, hml, hown, hts, hX, hbl, hlocks, hgv⟩, hL, hst, hK, hKP, hXc, hNc⟩ := X
  have hb : c.code = cL_law := hb
  intro u g th f H locs ls hI hP hD hS hl
  have S9 : CallFix p m c cL_law 9 s #[Value.ref b] lw_tbl RL := ⟨hx, hb, hml, hown, hts⟩
  refine lv_aload_n hx hb dL_law_260 rfl (lv_at hl 1 rfl) ?_
  refine lv_aload_n hx hb dL_law_261 rfl (lv_at hl 0 rfl) ?_
  refine lv_iload hx hb dL_law_262 (lv_at hl 4 rfl) ?_
  refine lv_iconst (v := 1) hx hb dL_law_264 (by decide) ?_
  refine lv_iadd hx hb dL_law_265 ?_
  refine pc_top (show nI i + 1 = nI (i + 1) from nI_add i 1) ?_
  refine law_rd hx hb hX hbl hS (by omega) hL dL_law_266 ?_
  refine lv_aload_n hx hb dL_law_267 rfl (lv_at hl 0 rfl) ?_
  refine lv_iload hx hb dL_law_268 (lv_at hl 4 rfl) ?_
  refine lv_iconst (v := 2) hx hb dL_law_270 (by decide) ?_
  refine lv_iadd hx hb dL_law_271 ?_
  refine pc_top (show nI i + 2 = nI (i + 2) from nI_add i 2) ?_
  refine law_rd hx hb hX hbl hS (by omega) hL dL_law_272 ?_
  refine lv_aload_n hx hb dL_law_273 rfl (lv_at hl 0 rfl) ?_
  refine lv_iload hx hb dL_law_274 (lv_at hl 4 rfl) ?_
  refine lv_iconst (v := 3) hx hb dL_law_276 (by decide) ?_
  refine lv_iadd hx hb dL_law_277 ?_
  refine pc_top (show nI i + 3 = nI (i + 3) from nI_add i 3) ?_
  refine law_rd hx hb hX hbl hS (by omega) hL dL_law_278 ?_
  refine lv_aload_n hx hb dL_law_279 rfl (lv_at hl 3 rfl) ?_
  refine law_cL (As := [.ref (a 0), .int (xs (i + 1)), .int (xs (i + 2)), .int (xs (i + 3)), .ref o]) (rest := []) (ex := exWea (xs (i + 1)) (xs (i + 2)) (xs (i + 3))) (mc := 1) (ms := 6) hP hD hS hK hXc hNc S9 (mL_setWeather l hst D cy H.size a q q2 ca ta u g hI.1 o f (xs (i + 1)) (xs (i + 2)) (xs (i + 3))) (vx_cwSW 5 hts gW_L_setWeather rfl rfl rfl (by decide +kernel) ⟨Nat.le_of_ble_eq_true rfl, Nat.le_of_ble_eq_true rfl⟩) rfl rfl hl.1 (Nat.le_of_ble_eq_true rfl) dL_law_280 ⟨by omega, by omega⟩ (fun u9 g9 f9 H locs h1 h2 hP hD hS => ?_)
  refine lv_istore (lv' := [(5, .int (nI (exWea (xs (i + 1)) (xs (i + 2)) (xs (i + 3))))), (0, .ref b), (1, .ref (a 0)), (2, .ref (mo 0)), (3, .ref o), (4, .int (nI i))]) hx hb dL_law_283 hl (by decide) rfl (fun ls hl => ?_)
  refine lv_aload_n hx hb dL_law_285 rfl (lv_at hl 3 rfl) ?_
  refine lv_aload_n hx hb dL_law_286 rfl (lv_at hl 1 rfl) ?_
  refine lv_iload hx hb dL_law_287 (lv_at hl 5 rfl) ?_
  refine lv_iconst (v := 1) hx hb dL_law_289 (by decide) ?_
  refine lv_iadd hx hb dL_law_290 ?_
  refine pc_top (show nI i + 1 = nI (i + 1) from nI_add i 1) ?_
  refine law_rd hx hb hX hbl hS (by omega) hL dL_law_291 ?_
  refine lv_aload_n hx hb dL_law_292 rfl (lv_at hl 1 rfl) ?_
  refine lv_iload hx hb dL_law_293 (lv_at hl 5 rfl) ?_
  refine lv_iconst (v := 2) hx hb dL_law_295 (by decide) ?_
  refine lv_iadd hx hb dL_law_296 ?_
  refine pc_top (show nI i + 2 = nI (i + 2) from nI_add i 2) ?_
  refine law_rd hx hb hX hbl hS (by omega) hL dL_law_297 ?_
  refine lv_aload_n hx hb dL_law_298 rfl (lv_at hl 1 rfl) ?_
  refine lv_iload hx hb dL_law_299 (lv_at hl 5 rfl) ?_
  refine lv_iconst (v := 3) hx hb dL_law_301 (by decide) ?_
  refine lv_iadd hx hb dL_law_302 ?_
  refine pc_top (show nI i + 3 = nI (i + 3) from nI_add i 3) ?_
  refine law_rd hx hb hX hbl hS (by omega) hL dL_law_303 ?_
  refine law_cM (As := [.int (xs (i + 1)), .int (xs (i + 2)), .int (xs (i + 3))]) (rest := []) (ex := exWea (xs (i + 1)) (xs (i + 2)) (xs (i + 3))) (mc := 0) (ms := 0) hP hD hS hK S9 (mX3_setWeather l D cy H.size mo u th hI.1 (xs (i + 1)) (xs (i + 2)) (xs (i + 3))) (cwV 3 hts gW_X3_setWeather rfl rfl rfl (by decide +kernel) ⟨Nat.le_of_ble_eq_true rfl, Nat.le_of_ble_eq_true rfl⟩) (law_pV1 hK) rfl rfl hl.1 (Nat.le_of_ble_eq_true rfl) dL_law_304 ⟨by omega, by omega⟩ (fun r9 v9 H locs h3 h4 hP hD hS => ?_)
  refine lv_istore (lv' := [(6, .int r9), (5, .int (nI (exWea (xs (i + 1)) (xs (i + 2)) (xs (i + 3))))), (0, .ref b), (1, .ref (a 0)), (2, .ref (mo 0)), (3, .ref o), (4, .int (nI i))]) hx hb dL_law_307 hl (by decide) rfl (fun ls hl => ?_)
  refine lv_aload_n hx hb dL_law_309 rfl (lv_at hl 4 rfl) ?_
  refine law_th hP hK S9 ⟨by omega, by omega⟩ gW_X3_thrown hl.1 dL_law_310 ?_
  refine lv_iload hx hb dL_law_313 (lv_at hl 1 rfl) ?_
  refine lv_icmp_eq (tgt := 320) hx hb dL_law_315 (by decide) (fun c9 => ?_) (fun c9 => absurd rfl c9)
  have e9 : v9 = u9 := law_same h1 h2 h3 h4
  rw [e9] at hP hD
  have hI9 : IJ u9 (k + 1) := law_step hI (fun z9 => IJ_wea hI) h1 h2
  refine lv_iload hx hb dL_law_320 (lv_at hl 1 rfl) ?_
  refine lv_if_ne (tgt := 337) hx hb dL_law_322 (by decide) (fun c9 => ?_) (fun c9 => ?_)
  · refine lv_goto (tgt := 1127) hx hb dL_law_337 (by decide) ?_
    refine W.widen (k := C + 9) (n := S + 112) (by omega) (by omega) ?_
    exact kk u9 g9 _ f9 H locs ls hI9 hP hD hS (lv_sub hl [2, 3, 4, 5, 6] rfl)
  · have z9 := law_ex0 (two_le3 (exWea_le (xs (i + 1)) (xs (i + 2)) (xs (i + 3)))) c9
    refine lv_aload_n hx hb dL_law_325 rfl (lv_at hl 5 rfl) ?_
    refine lv_iconst (v := 0) hx hb dL_law_326 (by decide) ?_
    refine va_lald hx hb hK hP 37 3 rfl rfl (i := 0) (show vp_in (0 : Int32) 1 from vp_in_nI (by decide) (by decide)) dL_law_327 ?_
    refine pc_topl (show f9 (0 : Int32).toNatClampNeg = (wea u (ix (xs (i + 1)))).toInt64 from (h1 z9).1) ?_
    refine lv_iload hx hb dL_law_328 (lv_at hl 0 rfl) ?_
    refine pc_top (h3 z9).1 ?_
    refine lv_i2l (v := (wea u (ix (xs (i + 1)))).toInt64) hx hb dL_law_330 rfl ?_
    refine W.lcmp hx hb dL_law_331 ?_
    refine pc_top (lg_same _) ?_
    refine lv_if_eq (tgt := 337) hx hb dL_law_332 (by decide) (fun c8 => ?_) (fun c8 => absurd rfl c8)
    refine lv_goto (tgt := 1127) hx hb dL_law_337 (by decide) ?_
    refine W.widen (k := C + 9) (n := S + 112) (by omega) (by omega) ?_
    exact kk u9 g9 _ f9 H locs ls hI9 hP hD hS (lv_sub hl [2, 3, 4, 5, 6] rfl)
set_option maxHeartbeats 4000000 in
set_option maxRecDepth 100000 in
theorem law_k3 {p : Program} {l : Launch} {e : Env} {s : State} {m : MethodId} {below : List Frame} {meth : Method} {c : Code} {Q : State → Prop} {b L : Nat} {xs : Nat → Int32} {D : va_G} {cy : Nat → ClassId} {a q q2 ca ta mo : Nat → Nat} {o i k C S : Nat} (X : LX p l s m meth c b L xs D cy) (hi : i + 6 ≤ L) (hk : k < 600) (hC : C + 9 ≤ 601024) (hT : S + 112 ≤ 7293034) (kk : LK p l e s m below meth c Q b D cy a q q2 ca ta mo o i (k + 1) (C + 9) (S + 112) 1127) : LK p l e s m below meth c Q b D cy a q q2 ca ta mo o i k C S 340 := by
  obtain ⟨⟨hx, hb, hr, hml, hown, hts, hX, hbl, hlocks, hgv⟩, hL, hst, hK, hKP, hXc, hNc⟩ := X
  have hb : c.code = cL_law := hb
  intro u g th f H locs ls hI hP hD hS hl
  have S9 : CallFix p m c cL_law 9 s #[Value.ref b] lw_tbl RL := ⟨hx, hb, hml, hown, hts⟩
  refine lv_aload_n hx hb dL_law_340 rfl (lv_at hl 1 rfl) ?_
  refine lv_aload_n hx hb dL_law_341 rfl (lv_at hl 0 rfl) ?_
  refine lv_iload hx hb dL_law_342 (lv_at hl 4 rfl) ?_
  refine lv_iconst (v := 1) hx hb dL_law_344 (by decide) ?_
  refine lv_iadd hx hb dL_law_345 ?_
  refine pc_top (show nI i + 1 = nI (i + 1) from nI_add i 1) ?_
  refine law_rd hx hb hX hbl hS (by omega) hL dL_law_346 ?_
  refine lv_aload_n hx hb dL_law_347 rfl (lv_at hl 0 rfl) ?_
  refine lv_iload hx hb dL_law_348 (lv_at hl 4 rfl) ?_
  refine lv_iconst (v := 2) hx hb dL_law_350 (by decide) ?_
  refine lv_iadd hx hb dL_law_351 ?_
  refine pc_top (show nI i + 2 = nI (i + 2) from nI_add i 2) ?_
  refine law_rd hx hb hX hbl hS (by omega) hL dL_law_352 ?_
  refine lv_aload_n hx hb dL_law_353 rfl (lv_at hl 3 rfl) ?_
  refine law_cL (As := [.ref (a 0), .int (xs (i + 1)), .int (xs (i + 2)), .ref o]) (rest := []) (ex := exStr (xs (i + 1)) (xs (i + 2))) (mc := 2) (ms := 12) hP hD hS hK hXc hNc S9 (mL_string l hst D cy H.size a q q2 ca ta u g hI.1 o f (xs (i + 1)) (xs (i + 2))) (vx_cwSW 4 hts gW_L_string rfl rfl rfl (by decide +kernel) ⟨Nat.le_of_ble_eq_true rfl, Nat.le_of_ble_eq_true rfl⟩) rfl rfl hl.1 (Nat.le_of_ble_eq_true rfl) dL_law_354 ⟨by omega, by omega⟩ (fun u9 g9 f9 H locs h1 h2 hP hD hS => ?_)
  refine lv_istore (lv' := [(5, .int (nI (exStr (xs (i + 1)) (xs (i + 2))))), (0, .ref b), (1, .ref (a 0)), (2, .ref (mo 0)), (3, .ref o), (4, .int (nI i))]) hx hb dL_law_357 hl (by decide) rfl (fun ls hl => ?_)
  refine lv_aload_n hx hb dL_law_359 rfl (lv_at hl 3 rfl) ?_
  refine lv_aload_n hx hb dL_law_360 rfl (lv_at hl 1 rfl) ?_
  refine lv_iload hx hb dL_law_361 (lv_at hl 5 rfl) ?_
  refine lv_iconst (v := 1) hx hb dL_law_363 (by decide) ?_
  refine lv_iadd hx hb dL_law_364 ?_
  refine pc_top (show nI i + 1 = nI (i + 1) from nI_add i 1) ?_
  refine law_rd hx hb hX hbl hS (by omega) hL dL_law_365 ?_
  refine lv_aload_n hx hb dL_law_366 rfl (lv_at hl 1 rfl) ?_
  refine lv_iload hx hb dL_law_367 (lv_at hl 5 rfl) ?_
  refine lv_iconst (v := 2) hx hb dL_law_369 (by decide) ?_
  refine lv_iadd hx hb dL_law_370 ?_
  refine pc_top (show nI i + 2 = nI (i + 2) from nI_add i 2) ?_
  refine law_rd hx hb hX hbl hS (by omega) hL dL_law_371 ?_
  refine law_cM (As := [.int (xs (i + 1)), .int (xs (i + 2))]) (rest := []) (ex := exStr (xs (i + 1)) (xs (i + 2))) (mc := 0) (ms := 0) hP hD hS hK S9 (mX3_string l D cy H.size mo u th hI.1 (xs (i + 1)) (xs (i + 2))) (cwV 2 hts gW_X3_string rfl rfl rfl (by decide +kernel) ⟨Nat.le_of_ble_eq_true rfl, Nat.le_of_ble_eq_true rfl⟩) (law_pV1 hK) rfl rfl hl.1 (Nat.le_of_ble_eq_true rfl) dL_law_372 ⟨by omega, by omega⟩ (fun r9 v9 H locs h3 h4 hP hD hS => ?_)
  refine lv_istore (lv' := [(6, .int r9), (5, .int (nI (exStr (xs (i + 1)) (xs (i + 2))))), (0, .ref b), (1, .ref (a 0)), (2, .ref (mo 0)), (3, .ref o), (4, .int (nI i))]) hx hb dL_law_375 hl (by decide) rfl (fun ls hl => ?_)
  refine lv_aload_n hx hb dL_law_377 rfl (lv_at hl 4 rfl) ?_
  refine law_th hP hK S9 ⟨by omega, by omega⟩ gW_X3_thrown hl.1 dL_law_378 ?_
  refine lv_iload hx hb dL_law_381 (lv_at hl 1 rfl) ?_
  refine lv_icmp_eq (tgt := 388) hx hb dL_law_383 (by decide) (fun c9 => ?_) (fun c9 => absurd rfl c9)
  have e9 : v9 = u9 := law_same h1 h2 h3 h4
  rw [e9] at hP hD
  have hI9 : IJ u9 (k + 1) := law_stay hI h1 h2
  refine lv_iload hx hb dL_law_388 (lv_at hl 1 rfl) ?_
  refine lv_if_ne (tgt := 405) hx hb dL_law_390 (by decide) (fun c9 => ?_) (fun c9 => ?_)
  · refine lv_goto (tgt := 1127) hx hb dL_law_405 (by decide) ?_
    refine W.widen (k := C + 9) (n := S + 112) (by omega) (by omega) ?_
    exact kk u9 g9 _ f9 H locs ls hI9 hP hD hS (lv_sub hl [2, 3, 4, 5, 6] rfl)
  · have z9 := law_ex0 (one_le3 (exStr_le (xs (i + 1)) (xs (i + 2)))) c9
    refine lv_aload_n hx hb dL_law_393 rfl (lv_at hl 5 rfl) ?_
    refine lv_iconst (v := 0) hx hb dL_law_394 (by decide) ?_
    refine va_lald hx hb hK hP 37 3 rfl rfl (i := 0) (show vp_in (0 : Int32) 1 from vp_in_nI (by decide) (by decide)) dL_law_395 ?_
    refine pc_topl (show f9 (0 : Int32).toNatClampNeg = (factH (uh u) (ix (xs (i + 1))) (ix (xs (i + 2)))).toInt64 from (h1 z9).1) ?_
    refine lv_iload hx hb dL_law_396 (lv_at hl 0 rfl) ?_
    refine pc_top (h3 z9).1 ?_
    refine lv_i2l (v := (factH (uh u) (ix (xs (i + 1))) (ix (xs (i + 2)))).toInt64) hx hb dL_law_398 rfl ?_
    refine W.lcmp hx hb dL_law_399 ?_
    refine pc_top (lg_same _) ?_
    refine lv_if_eq (tgt := 405) hx hb dL_law_400 (by decide) (fun c8 => ?_) (fun c8 => absurd rfl c8)
    refine lv_goto (tgt := 1127) hx hb dL_law_405 (by decide) ?_
    refine W.widen (k := C + 9) (n := S + 112) (by omega) (by omega) ?_
    exact kk u9 g9 _ f9 H locs ls hI9 hP hD hS (lv_sub hl [2, 3, 4, 5, 6] rfl)
set_option maxHeartbeats 4000000 in
set_option maxRecDepth 100000 in
theorem law_k4 {p : Program} {l : Launch} {e : Env} {s : State} {m : MethodId} {below : List Frame} {meth : Method} {c : Code} {Q : State → Prop} {b L : Nat} {xs : Nat → Int32} {D : va_G} {cy : Nat → ClassId} {a q q2 ca ta mo : Nat → Nat} {o i k C S : Nat} (X : LX p l s m meth c b L xs D cy) (hi : i + 6 ≤ L) (hk : k < 600) (hC : C + 9 ≤ 601024) (hT : S + 112 ≤ 7293034) (kk : LK p l e s m below meth c Q b D cy a q q2 ca ta mo o i (k + 1) (C + 9) (S + 112) 1127) : LK p l e s m below meth c Q b D cy a q q2 ca ta mo o i k C S 408 := by
  obtain ⟨⟨hx, hb, hr, hml, hown, hts, hX, hbl, hlocks, hgv⟩, hL, hst, hK, hKP, hXc, hNc⟩ := X
  have hb : c.code = cL_law := hb
  intro u g th f H locs ls hI hP hD hS hl
  have S9 : CallFix p m c cL_law 9 s #[Value.ref b] lw_tbl RL := ⟨hx, hb, hml, hown, hts⟩
  refine lv_aload_n hx hb dL_law_408 rfl (lv_at hl 1 rfl) ?_
  refine lv_aload_n hx hb dL_law_409 rfl (lv_at hl 0 rfl) ?_
  refine lv_iload hx hb dL_law_410 (lv_at hl 4 rfl) ?_
  refine lv_iconst (v := 1) hx hb dL_law_412 (by decide) ?_
  refine lv_iadd hx hb dL_law_413 ?_
  refine pc_top (show nI i + 1 = nI (i + 1) from nI_add i 1) ?_
  refine law_rd hx hb hX hbl hS (by omega) hL dL_law_414 ?_
  refine lv_aload_n hx hb dL_law_415 rfl (lv_at hl 0 rfl) ?_
  refine lv_iload hx hb dL_law_416 (lv_at hl 4 rfl) ?_
  refine lv_iconst (v := 2) hx hb dL_law_418 (by decide) ?_
  refine lv_iadd hx hb dL_law_419 ?_
  refine pc_top (show nI i + 2 = nI (i + 2) from nI_add i 2) ?_
  refine law_rd hx hb hX hbl hS (by omega) hL dL_law_420 ?_
  refine lv_aload_n hx hb dL_law_421 rfl (lv_at hl 0 rfl) ?_
  refine lv_iload hx hb dL_law_422 (lv_at hl 4 rfl) ?_
  refine lv_iconst (v := 3) hx hb dL_law_424 (by decide) ?_
  refine lv_iadd hx hb dL_law_425 ?_
  refine pc_top (show nI i + 3 = nI (i + 3) from nI_add i 3) ?_
  refine law_rd hx hb hX hbl hS (by omega) hL dL_law_426 ?_
  refine lv_aload_n hx hb dL_law_427 rfl (lv_at hl 3 rfl) ?_
  refine law_cL (As := [.ref (a 0), .int (xs (i + 1)), .int (xs (i + 2)), .int (xs (i + 3)), .ref o]) (rest := []) (ex := exMov (xs (i + 1)) (xs (i + 2)) (xs (i + 3))) (mc := 3) (ms := 18) hP hD hS hK hXc hNc S9 (mL_moves l hst D cy H.size a q q2 ca ta u g hI.1 o f (xs (i + 1)) (xs (i + 2)) (xs (i + 3))) (vx_cwSW 5 hts gW_L_moves rfl rfl rfl (by decide +kernel) ⟨Nat.le_of_ble_eq_true rfl, Nat.le_of_ble_eq_true rfl⟩) rfl rfl hl.1 (Nat.le_of_ble_eq_true rfl) dL_law_428 ⟨by omega, by omega⟩ (fun u9 g9 f9 H locs h1 h2 hP hD hS => ?_)
  refine lv_istore (lv' := [(5, .int (nI (exMov (xs (i + 1)) (xs (i + 2)) (xs (i + 3))))), (0, .ref b), (1, .ref (a 0)), (2, .ref (mo 0)), (3, .ref o), (4, .int (nI i))]) hx hb dL_law_431 hl (by decide) rfl (fun ls hl => ?_)
  refine lv_aload_n hx hb dL_law_433 rfl (lv_at hl 3 rfl) ?_
  refine lv_aload_n hx hb dL_law_434 rfl (lv_at hl 1 rfl) ?_
  refine lv_iload hx hb dL_law_435 (lv_at hl 5 rfl) ?_
  refine lv_iconst (v := 1) hx hb dL_law_437 (by decide) ?_
  refine lv_iadd hx hb dL_law_438 ?_
  refine pc_top (show nI i + 1 = nI (i + 1) from nI_add i 1) ?_
  refine law_rd hx hb hX hbl hS (by omega) hL dL_law_439 ?_
  refine lv_aload_n hx hb dL_law_440 rfl (lv_at hl 1 rfl) ?_
  refine lv_iload hx hb dL_law_441 (lv_at hl 5 rfl) ?_
  refine lv_iconst (v := 2) hx hb dL_law_443 (by decide) ?_
  refine lv_iadd hx hb dL_law_444 ?_
  refine pc_top (show nI i + 2 = nI (i + 2) from nI_add i 2) ?_
  refine law_rd hx hb hX hbl hS (by omega) hL dL_law_445 ?_
  refine lv_aload_n hx hb dL_law_446 rfl (lv_at hl 1 rfl) ?_
  refine lv_iload hx hb dL_law_447 (lv_at hl 5 rfl) ?_
  refine lv_iconst (v := 3) hx hb dL_law_449 (by decide) ?_
  refine lv_iadd hx hb dL_law_450 ?_
  refine pc_top (show nI i + 3 = nI (i + 3) from nI_add i 3) ?_
  refine law_rd hx hb hX hbl hS (by omega) hL dL_law_451 ?_
  refine law_cM (As := [.int (xs (i + 1)), .int (xs (i + 2)), .int (xs (i + 3))]) (rest := []) (ex := exMov (xs (i + 1)) (xs (i + 2)) (xs (i + 3))) (mc := 0) (ms := 0) hP hD hS hK S9 (mX3_moves l D cy H.size mo u th hI.1 (xs (i + 1)) (xs (i + 2)) (xs (i + 3))) (cwV 3 hts gW_X3_moves rfl rfl rfl (by decide +kernel) ⟨Nat.le_of_ble_eq_true rfl, Nat.le_of_ble_eq_true rfl⟩) (law_pV1 hK) rfl rfl hl.1 (Nat.le_of_ble_eq_true rfl) dL_law_452 ⟨by omega, by omega⟩ (fun r9 v9 H locs h3 h4 hP hD hS => ?_)
  refine lv_istore (lv' := [(6, .int r9), (5, .int (nI (exMov (xs (i + 1)) (xs (i + 2)) (xs (i + 3))))), (0, .ref b), (1, .ref (a 0)), (2, .ref (mo 0)), (3, .ref o), (4, .int (nI i))]) hx hb dL_law_455 hl (by decide) rfl (fun ls hl => ?_)
  refine lv_aload_n hx hb dL_law_457 rfl (lv_at hl 4 rfl) ?_
  refine law_th hP hK S9 ⟨by omega, by omega⟩ gW_X3_thrown hl.1 dL_law_458 ?_
  refine lv_iload hx hb dL_law_461 (lv_at hl 1 rfl) ?_
  refine lv_icmp_eq (tgt := 468) hx hb dL_law_463 (by decide) (fun c9 => ?_) (fun c9 => absurd rfl c9)
  have e9 : v9 = u9 := law_same h1 h2 h3 h4
  rw [e9] at hP hD
  have hI9 : IJ u9 (k + 1) := law_stay hI h1 h2
  refine lv_iload hx hb dL_law_468 (lv_at hl 1 rfl) ?_
  refine lv_if_ne (tgt := 485) hx hb dL_law_470 (by decide) (fun c9 => ?_) (fun c9 => ?_)
  · refine lv_goto (tgt := 1127) hx hb dL_law_485 (by decide) ?_
    refine W.widen (k := C + 9) (n := S + 112) (by omega) (by omega) ?_
    exact kk u9 g9 _ f9 H locs ls hI9 hP hD hS (lv_sub hl [2, 3, 4, 5, 6] rfl)
  · have z9 := law_ex0 (two_le3 (exMov_le (xs (i + 1)) (xs (i + 2)) (xs (i + 3)))) c9
    refine lv_aload_n hx hb dL_law_473 rfl (lv_at hl 5 rfl) ?_
    refine lv_iconst (v := 0) hx hb dL_law_474 (by decide) ?_
    refine va_lald hx hb hK hP 37 3 rfl rfl (i := 0) (show vp_in (0 : Int32) 1 from vp_in_nI (by decide) (by decide)) dL_law_475 ?_
    refine pc_topl (show f9 (0 : Int32).toNatClampNeg = (mov (uh u) (ix (xs (i + 1))) (ix (xs (i + 3))) (xs (i + 2))).toInt64 from (h1 z9).1) ?_
    refine lv_iload hx hb dL_law_476 (lv_at hl 0 rfl) ?_
    refine pc_top (h3 z9).1 ?_
    refine lv_i2l (v := (mov (uh u) (ix (xs (i + 1))) (ix (xs (i + 3))) (xs (i + 2))).toInt64) hx hb dL_law_478 rfl ?_
    refine W.lcmp hx hb dL_law_479 ?_
    refine pc_top (lg_same _) ?_
    refine lv_if_eq (tgt := 485) hx hb dL_law_480 (by decide) (fun c8 => ?_) (fun c8 => absurd rfl c8)
    refine lv_goto (tgt := 1127) hx hb dL_law_485 (by decide) ?_
    refine W.widen (k := C + 9) (n := S + 112) (by omega) (by omega) ?_
    exact kk u9 g9 _ f9 H locs ls hI9 hP hD hS (lv_sub hl [2, 3, 4, 5, 6] rfl)
set_option maxHeartbeats 4000000 in
set_option maxRecDepth 100000 in
theorem law_k5 {p : Program} {l : Launch} {e : Env} {s : State} {m : MethodId} {below : List Frame} {meth : Method} {c : Code} {Q : State → Prop} {b L : Nat} {xs : Nat → Int32} {D : va_G} {cy : Nat → ClassId} {a q q2 ca ta mo : Nat → Nat} {o i k C S : Nat} (X : LX p l s m meth c b L xs D cy) (hi : i + 6 ≤ L) (hk : k < 600) (hC : C + 9 ≤ 601024) (hT : S + 112 ≤ 7293034) (kk : LK p l e s m below meth c Q b D cy a q q2 ca ta mo o i (k + 1) (C + 9) (S + 112) 1127) : LK p l e s m below meth c Q b D cy a q q2 ca ta mo o i k C S 488 := by
  obtain ⟨⟨hx, hb, hr, hml, hown, hts, hX, hbl, hlocks, hgv⟩, hL, hst, hK, hKP, hXc, hNc⟩ := X
  have hb : c.code = cL_law := hb
  intro u g th f H locs ls hI hP hD hS hl
  have S9 : CallFix p m c cL_law 9 s #[Value.ref b] lw_tbl RL := ⟨hx, hb, hml, hown, hts⟩
  refine lv_aload_n hx hb dL_law_488 rfl (lv_at hl 1 rfl) ?_
  refine lv_aload_n hx hb dL_law_489 rfl (lv_at hl 0 rfl) ?_
  refine lv_iload hx hb dL_law_490 (lv_at hl 4 rfl) ?_
  refine lv_iconst (v := 1) hx hb dL_law_492 (by decide) ?_
  refine lv_iadd hx hb dL_law_493 ?_
  refine pc_top (show nI i + 1 = nI (i + 1) from nI_add i 1) ?_
  refine law_rd hx hb hX hbl hS (by omega) hL dL_law_494 ?_
  refine lv_aload_n hx hb dL_law_495 rfl (lv_at hl 0 rfl) ?_
  refine lv_iload hx hb dL_law_496 (lv_at hl 4 rfl) ?_
  refine lv_iconst (v := 2) hx hb dL_law_498 (by decide) ?_
  refine lv_iadd hx hb dL_law_499 ?_
  refine pc_top (show nI i + 2 = nI (i + 2) from nI_add i 2) ?_
  refine law_rd hx hb hX hbl hS (by omega) hL dL_law_500 ?_
  refine lv_aload_n hx hb dL_law_501 rfl (lv_at hl 0 rfl) ?_
  refine lv_iload hx hb dL_law_502 (lv_at hl 4 rfl) ?_
  refine lv_iconst (v := 3) hx hb dL_law_504 (by decide) ?_
  refine lv_iadd hx hb dL_law_505 ?_
  refine pc_top (show nI i + 3 = nI (i + 3) from nI_add i 3) ?_
  refine law_rd hx hb hX hbl hS (by omega) hL dL_law_506 ?_
  refine lv_aload_n hx hb dL_law_507 rfl (lv_at hl 0 rfl) ?_
  refine lv_iload hx hb dL_law_508 (lv_at hl 4 rfl) ?_
  refine lv_iconst (v := 4) hx hb dL_law_510 (by decide) ?_
  refine lv_iadd hx hb dL_law_511 ?_
  refine pc_top (show nI i + 4 = nI (i + 4) from nI_add i 4) ?_
  refine law_rd hx hb hX hbl hS (by omega) hL dL_law_512 ?_
  refine lv_aload_n hx hb dL_law_513 rfl (lv_at hl 0 rfl) ?_
  refine lv_iload hx hb dL_law_514 (lv_at hl 4 rfl) ?_
  refine lv_iconst (v := 5) hx hb dL_law_516 (by decide) ?_
  refine lv_iadd hx hb dL_law_517 ?_
  refine pc_top (show nI i + 5 = nI (i + 5) from nI_add i 5) ?_
  refine law_rd hx hb hX hbl hS (by omega) hL dL_law_518 ?_
  refine lv_aload_n hx hb dL_law_519 rfl (lv_at hl 3 rfl) ?_
  refine law_cL (As := [.ref (a 0), .int (xs (i + 1)), .int (xs (i + 2)), .int (xs (i + 3)), .int (xs (i + 4)), .int (xs (i + 5)), .ref o]) (rest := []) (ex := exCh u (xs (i + 1)) (xs (i + 2)) (xs (i + 3)) (xs (i + 4)) (xs (i + 5))) (mc := 6) (ms := 36) hP hD hS hK hXc hNc S9 (mL_chord l hst D cy H.size a q q2 ca ta u g hI.1 o f (xs (i + 1)) (xs (i + 2)) (xs (i + 3)) (xs (i + 4)) (xs (i + 5))) (vx_cwSW 7 hts gW_L_chord rfl rfl rfl (by decide +kernel) ⟨Nat.le_of_ble_eq_true rfl, Nat.le_of_ble_eq_true rfl⟩) rfl rfl hl.1 (Nat.le_of_ble_eq_true rfl) dL_law_520 ⟨by omega, by omega⟩ (fun u9 g9 f9 H locs h1 h2 hP hD hS => ?_)
  refine lv_istore (lv' := [(5, .int (nI (exCh u (xs (i + 1)) (xs (i + 2)) (xs (i + 3)) (xs (i + 4)) (xs (i + 5))))), (0, .ref b), (1, .ref (a 0)), (2, .ref (mo 0)), (3, .ref o), (4, .int (nI i))]) hx hb dL_law_523 hl (by decide) rfl (fun ls hl => ?_)
  refine lv_aload_n hx hb dL_law_525 rfl (lv_at hl 3 rfl) ?_
  refine lv_aload_n hx hb dL_law_526 rfl (lv_at hl 1 rfl) ?_
  refine lv_iload hx hb dL_law_527 (lv_at hl 5 rfl) ?_
  refine lv_iconst (v := 1) hx hb dL_law_529 (by decide) ?_
  refine lv_iadd hx hb dL_law_530 ?_
  refine pc_top (show nI i + 1 = nI (i + 1) from nI_add i 1) ?_
  refine law_rd hx hb hX hbl hS (by omega) hL dL_law_531 ?_
  refine lv_aload_n hx hb dL_law_532 rfl (lv_at hl 1 rfl) ?_
  refine lv_iload hx hb dL_law_533 (lv_at hl 5 rfl) ?_
  refine lv_iconst (v := 2) hx hb dL_law_535 (by decide) ?_
  refine lv_iadd hx hb dL_law_536 ?_
  refine pc_top (show nI i + 2 = nI (i + 2) from nI_add i 2) ?_
  refine law_rd hx hb hX hbl hS (by omega) hL dL_law_537 ?_
  refine lv_aload_n hx hb dL_law_538 rfl (lv_at hl 1 rfl) ?_
  refine lv_iload hx hb dL_law_539 (lv_at hl 5 rfl) ?_
  refine lv_iconst (v := 3) hx hb dL_law_541 (by decide) ?_
  refine lv_iadd hx hb dL_law_542 ?_
  refine pc_top (show nI i + 3 = nI (i + 3) from nI_add i 3) ?_
  refine law_rd hx hb hX hbl hS (by omega) hL dL_law_543 ?_
  refine lv_aload_n hx hb dL_law_544 rfl (lv_at hl 1 rfl) ?_
  refine lv_iload hx hb dL_law_545 (lv_at hl 5 rfl) ?_
  refine lv_iconst (v := 4) hx hb dL_law_547 (by decide) ?_
  refine lv_iadd hx hb dL_law_548 ?_
  refine pc_top (show nI i + 4 = nI (i + 4) from nI_add i 4) ?_
  refine law_rd hx hb hX hbl hS (by omega) hL dL_law_549 ?_
  refine lv_aload_n hx hb dL_law_550 rfl (lv_at hl 1 rfl) ?_
  refine lv_iload hx hb dL_law_551 (lv_at hl 5 rfl) ?_
  refine lv_iconst (v := 5) hx hb dL_law_553 (by decide) ?_
  refine lv_iadd hx hb dL_law_554 ?_
  refine pc_top (show nI i + 5 = nI (i + 5) from nI_add i 5) ?_
  refine law_rd hx hb hX hbl hS (by omega) hL dL_law_555 ?_
  refine law_cM (As := [.int (xs (i + 1)), .int (xs (i + 2)), .int (xs (i + 3)), .int (xs (i + 4)), .int (xs (i + 5))]) (rest := []) (ex := exCh u (xs (i + 1)) (xs (i + 2)) (xs (i + 3)) (xs (i + 4)) (xs (i + 5))) (mc := 1) (ms := 6) hP hD hS hK S9 (mX3_chord l D cy H.size mo u th hI.1 (xs (i + 1)) (xs (i + 2)) (xs (i + 3)) (xs (i + 4)) (xs (i + 5))) (cwV 5 hts gW_X3_chord rfl rfl rfl (by decide +kernel) ⟨Nat.le_of_ble_eq_true rfl, Nat.le_of_ble_eq_true rfl⟩) (law_pV1 hK) rfl rfl hl.1 (Nat.le_of_ble_eq_true rfl) dL_law_556 ⟨by omega, by omega⟩ (fun r9 v9 H locs h3 h4 hP hD hS => ?_)
  refine lv_istore (lv' := [(6, .int r9), (5, .int (nI (exCh u (xs (i + 1)) (xs (i + 2)) (xs (i + 3)) (xs (i + 4)) (xs (i + 5))))), (0, .ref b), (1, .ref (a 0)), (2, .ref (mo 0)), (3, .ref o), (4, .int (nI i))]) hx hb dL_law_559 hl (by decide) rfl (fun ls hl => ?_)
  refine lv_aload_n hx hb dL_law_561 rfl (lv_at hl 4 rfl) ?_
  refine law_th hP hK S9 ⟨by omega, by omega⟩ gW_X3_thrown hl.1 dL_law_562 ?_
  refine lv_iload hx hb dL_law_565 (lv_at hl 1 rfl) ?_
  refine lv_icmp_eq (tgt := 572) hx hb dL_law_567 (by decide) (fun c9 => ?_) (fun c9 => absurd rfl c9)
  have e9 : v9 = u9 := law_same h1 h2 h3 h4
  rw [e9] at hP hD
  have hI9 : IJ u9 (k + 1) := law_step hI (fun z9 => IJ_chord hI z9) h1 h2
  refine lv_iload hx hb dL_law_572 (lv_at hl 1 rfl) ?_
  refine lv_if_ne (tgt := 589) hx hb dL_law_574 (by decide) (fun c9 => ?_) (fun c9 => ?_)
  · refine lv_goto (tgt := 1127) hx hb dL_law_589 (by decide) ?_
    refine W.widen (k := C + 9) (n := S + 112) (by omega) (by omega) ?_
    exact kk u9 g9 _ f9 H locs ls hI9 hP hD hS (lv_sub hl [2, 3, 4, 5, 6] rfl)
  · have z9 := law_ex0 (exCh_le u (xs (i + 1)) (xs (i + 2)) (xs (i + 3)) (xs (i + 4)) (xs (i + 5))) c9
    refine lv_aload_n hx hb dL_law_577 rfl (lv_at hl 5 rfl) ?_
    refine lv_iconst (v := 0) hx hb dL_law_578 (by decide) ?_
    refine va_lald hx hb hK hP 37 3 rfl rfl (i := 0) (show vp_in (0 : Int32) 1 from vp_in_nI (by decide) (by decide)) dL_law_579 ?_
    refine pc_topl (show f9 (0 : Int32).toNatClampNeg = (nI (un u)).toInt64 from (h1 z9).1) ?_
    refine lv_iload hx hb dL_law_580 (lv_at hl 0 rfl) ?_
    refine pc_top (h3 z9).1 ?_
    refine lv_i2l (v := (nI (un u)).toInt64) hx hb dL_law_582 rfl ?_
    refine W.lcmp hx hb dL_law_583 ?_
    refine pc_top (lg_same _) ?_
    refine lv_if_eq (tgt := 589) hx hb dL_law_584 (by decide) (fun c8 => ?_) (fun c8 => absurd rfl c8)
    refine lv_goto (tgt := 1127) hx hb dL_law_589 (by decide) ?_
    refine W.widen (k := C + 9) (n := S + 112) (by omega) (by omega) ?_
    exact kk u9 g9 _ f9 H locs ls hI9 hP hD hS (lv_sub hl [2, 3, 4, 5, 6] rfl)
set_option maxHeartbeats 4000000 in
set_option maxRecDepth 100000 in
theorem law_k6 {p : Program} {l : Launch} {e : Env} {s : State} {m : MethodId} {below : List Frame} {meth : Method} {c : Code} {Q : State → Prop} {b L : Nat} {xs : Nat → Int32} {D : va_G} {cy : Nat → ClassId} {a q q2 ca ta mo : Nat → Nat} {o i k C S : Nat} (X : LX p l s m meth c b L xs D cy) (hi : i + 6 ≤ L) (hk : k < 600) (hC : C + 9 ≤ 601024) (hT : S + 112 ≤ 7293034) (kk : LK p l e s m below meth c Q b D cy a q q2 ca ta mo o i (k + 1) (C + 9) (S + 112) 1127) : LK p l e s m below meth c Q b D cy a q q2 ca ta mo o i k C S 592 := by
  obtain ⟨⟨hx, hb, hr, hml, hown, hts, hX, hbl, hlocks, hgv⟩, hL, hst, hK, hKP, hXc, hNc⟩ := X
  have hb : c.code = cL_law := hb
  intro u g th f H locs ls hI hP hD hS hl
  have S9 : CallFix p m c cL_law 9 s #[Value.ref b] lw_tbl RL := ⟨hx, hb, hml, hown, hts⟩
  refine lv_aload_n hx hb dL_law_592 rfl (lv_at hl 1 rfl) ?_
  refine lv_aload_n hx hb dL_law_593 rfl (lv_at hl 0 rfl) ?_
  refine lv_iload hx hb dL_law_594 (lv_at hl 4 rfl) ?_
  refine lv_iconst (v := 1) hx hb dL_law_596 (by decide) ?_
  refine lv_iadd hx hb dL_law_597 ?_
  refine pc_top (show nI i + 1 = nI (i + 1) from nI_add i 1) ?_
  refine law_rd hx hb hX hbl hS (by omega) hL dL_law_598 ?_
  refine lv_aload_n hx hb dL_law_599 rfl (lv_at hl 3 rfl) ?_
  refine law_cL (As := [.ref (a 0), .int (xs (i + 1)), .ref o]) (rest := []) (ex := exC u (xs (i + 1))) (mc := 1) (ms := 6) hP hD hS hK hXc hNc S9 (mL_off l hst D cy H.size a q q2 ca ta u g hI.1 o f (xs (i + 1))) (vx_cwSW 3 hts gW_L_off rfl rfl rfl (by decide +kernel) ⟨Nat.le_of_ble_eq_true rfl, Nat.le_of_ble_eq_true rfl⟩) rfl rfl hl.1 (Nat.le_of_ble_eq_true rfl) dL_law_600 ⟨by omega, by omega⟩ (fun u9 g9 f9 H locs h1 h2 hP hD hS => ?_)
  refine lv_istore (lv' := [(5, .int (nI (exC u (xs (i + 1))))), (0, .ref b), (1, .ref (a 0)), (2, .ref (mo 0)), (3, .ref o), (4, .int (nI i))]) hx hb dL_law_603 hl (by decide) rfl (fun ls hl => ?_)
  refine lv_aload_n hx hb dL_law_605 rfl (lv_at hl 3 rfl) ?_
  refine lv_aload_n hx hb dL_law_606 rfl (lv_at hl 1 rfl) ?_
  refine lv_iload hx hb dL_law_607 (lv_at hl 5 rfl) ?_
  refine lv_iconst (v := 1) hx hb dL_law_609 (by decide) ?_
  refine lv_iadd hx hb dL_law_610 ?_
  refine pc_top (show nI i + 1 = nI (i + 1) from nI_add i 1) ?_
  refine law_rd hx hb hX hbl hS (by omega) hL dL_law_611 ?_
  refine law_cM (As := [.int (xs (i + 1))]) (rest := []) (ex := exC u (xs (i + 1))) (mc := 0) (ms := 0) hP hD hS hK S9 (mX3_off l D cy H.size mo u th hI.1 (xs (i + 1))) (cwV 1 hts gW_X3_off rfl rfl rfl (by decide +kernel) ⟨Nat.le_of_ble_eq_true rfl, Nat.le_of_ble_eq_true rfl⟩) (law_pV1 hK) rfl rfl hl.1 (Nat.le_of_ble_eq_true rfl) dL_law_612 ⟨by omega, by omega⟩ (fun r9 v9 H locs h3 h4 hP hD hS => ?_)
  refine lv_istore (lv' := [(6, .int r9), (5, .int (nI (exC u (xs (i + 1))))), (0, .ref b), (1, .ref (a 0)), (2, .ref (mo 0)), (3, .ref o), (4, .int (nI i))]) hx hb dL_law_615 hl (by decide) rfl (fun ls hl => ?_)
  refine lv_aload_n hx hb dL_law_617 rfl (lv_at hl 4 rfl) ?_
  refine law_th hP hK S9 ⟨by omega, by omega⟩ gW_X3_thrown hl.1 dL_law_618 ?_
  refine lv_iload hx hb dL_law_621 (lv_at hl 1 rfl) ?_
  refine lv_icmp_eq (tgt := 628) hx hb dL_law_623 (by decide) (fun c9 => ?_) (fun c9 => absurd rfl c9)
  have e9 : v9 = u9 := law_same h1 h2 h3 h4
  rw [e9] at hP hD
  have hI9 : IJ u9 (k + 1) := law_stay hI h1 h2
  refine lv_iload hx hb dL_law_628 (lv_at hl 1 rfl) ?_
  refine lv_if_ne (tgt := 645) hx hb dL_law_630 (by decide) (fun c9 => ?_) (fun c9 => ?_)
  · refine lv_goto (tgt := 1127) hx hb dL_law_645 (by decide) ?_
    refine W.widen (k := C + 9) (n := S + 112) (by omega) (by omega) ?_
    exact kk u9 g9 _ f9 H locs ls hI9 hP hD hS (lv_sub hl [2, 3, 4, 5, 6] rfl)
  · have z9 := law_ex0 (one_le3 (exC_le u (xs (i + 1)))) c9
    refine lv_aload_n hx hb dL_law_633 rfl (lv_at hl 5 rfl) ?_
    refine lv_iconst (v := 0) hx hb dL_law_634 (by decide) ?_
    refine va_lald hx hb hK hP 37 3 rfl rfl (i := 0) (show vp_in (0 : Int32) 1 from vp_in_nI (by decide) (by decide)) dL_law_635 ?_
    refine pc_topl (show f9 (0 : Int32).toNatClampNeg = (offBy (uh u) (ul u (ix (xs (i + 1)))) (ut u (ix (xs (i + 1)))) (uz u (ix (xs (i + 1))))).toInt64 from (h1 z9).1) ?_
    refine lv_iload hx hb dL_law_636 (lv_at hl 0 rfl) ?_
    refine pc_top (h3 z9).1 ?_
    refine lv_i2l (v := (offBy (uh u) (ul u (ix (xs (i + 1)))) (ut u (ix (xs (i + 1)))) (uz u (ix (xs (i + 1))))).toInt64) hx hb dL_law_638 rfl ?_
    refine W.lcmp hx hb dL_law_639 ?_
    refine pc_top (lg_same _) ?_
    refine lv_if_eq (tgt := 645) hx hb dL_law_640 (by decide) (fun c8 => ?_) (fun c8 => absurd rfl c8)
    refine lv_goto (tgt := 1127) hx hb dL_law_645 (by decide) ?_
    refine W.widen (k := C + 9) (n := S + 112) (by omega) (by omega) ?_
    exact kk u9 g9 _ f9 H locs ls hI9 hP hD hS (lv_sub hl [2, 3, 4, 5, 6] rfl)
set_option maxHeartbeats 4000000 in
set_option maxRecDepth 100000 in
theorem law_k7 {p : Program} {l : Launch} {e : Env} {s : State} {m : MethodId} {below : List Frame} {meth : Method} {c : Code} {Q : State → Prop} {b L : Nat} {xs : Nat → Int32} {D : va_G} {cy : Nat → ClassId} {a q q2 ca ta mo : Nat → Nat} {o i k C S : Nat} (X : LX p l s m meth c b L xs D cy) (hi : i + 6 ≤ L) (hk : k < 600) (hC : C + 9 ≤ 601024) (hT : S + 112 ≤ 7293034) (kk : LK p l e s m below meth c Q b D cy a q q2 ca ta mo o i (k + 1) (C + 9) (S + 112) 1127) : LK p l e s m below meth c Q b D cy a q q2 ca ta mo o i k C S 648 := by
  obtain ⟨⟨hx, hb, hr, hml, hown, hts, hX, hbl, hlocks, hgv⟩, hL, hst, hK, hKP, hXc, hNc⟩ := X
  have hb : c.code = cL_law := hb
  intro u g th f H locs ls hI hP hD hS hl
  have S9 : CallFix p m c cL_law 9 s #[Value.ref b] lw_tbl RL := ⟨hx, hb, hml, hown, hts⟩
  refine lv_aload_n hx hb dL_law_648 rfl (lv_at hl 1 rfl) ?_
  refine lv_aload_n hx hb dL_law_649 rfl (lv_at hl 0 rfl) ?_
  refine lv_iload hx hb dL_law_650 (lv_at hl 4 rfl) ?_
  refine lv_iconst (v := 1) hx hb dL_law_652 (by decide) ?_
  refine lv_iadd hx hb dL_law_653 ?_
  refine pc_top (show nI i + 1 = nI (i + 1) from nI_add i 1) ?_
  refine law_rd hx hb hX hbl hS (by omega) hL dL_law_654 ?_
  refine lv_aload_n hx hb dL_law_655 rfl (lv_at hl 3 rfl) ?_
  refine law_cL (As := [.ref (a 0), .int (xs (i + 1)), .ref o]) (rest := []) (ex := exC u (xs (i + 1))) (mc := 1) (ms := 6) hP hD hS hK hXc hNc S9 (mL_sounds l hst D cy H.size a q q2 ca ta u g hI.1 o f (xs (i + 1))) (vx_cwSW 3 hts gW_L_sounds rfl rfl rfl (by decide +kernel) ⟨Nat.le_of_ble_eq_true rfl, Nat.le_of_ble_eq_true rfl⟩) rfl rfl hl.1 (Nat.le_of_ble_eq_true rfl) dL_law_656 ⟨by omega, by omega⟩ (fun u9 g9 f9 H locs h1 h2 hP hD hS => ?_)
  refine lv_istore (lv' := [(5, .int (nI (exC u (xs (i + 1))))), (0, .ref b), (1, .ref (a 0)), (2, .ref (mo 0)), (3, .ref o), (4, .int (nI i))]) hx hb dL_law_659 hl (by decide) rfl (fun ls hl => ?_)
  refine lv_aload_n hx hb dL_law_661 rfl (lv_at hl 3 rfl) ?_
  refine lv_aload_n hx hb dL_law_662 rfl (lv_at hl 1 rfl) ?_
  refine lv_iload hx hb dL_law_663 (lv_at hl 5 rfl) ?_
  refine lv_iconst (v := 1) hx hb dL_law_665 (by decide) ?_
  refine lv_iadd hx hb dL_law_666 ?_
  refine pc_top (show nI i + 1 = nI (i + 1) from nI_add i 1) ?_
  refine law_rd hx hb hX hbl hS (by omega) hL dL_law_667 ?_
  refine law_cM (As := [.int (xs (i + 1))]) (rest := []) (ex := exC u (xs (i + 1))) (mc := 0) (ms := 0) hP hD hS hK S9 (mX3_sounds l D cy H.size mo u th hI.1 (xs (i + 1))) (cwV 1 hts gW_X3_sounds rfl rfl rfl (by decide +kernel) ⟨Nat.le_of_ble_eq_true rfl, Nat.le_of_ble_eq_true rfl⟩) (law_pV1 hK) rfl rfl hl.1 (Nat.le_of_ble_eq_true rfl) dL_law_668 ⟨by omega, by omega⟩ (fun r9 v9 H locs h3 h4 hP hD hS => ?_)
  refine lv_istore (lv' := [(6, .int r9), (5, .int (nI (exC u (xs (i + 1))))), (0, .ref b), (1, .ref (a 0)), (2, .ref (mo 0)), (3, .ref o), (4, .int (nI i))]) hx hb dL_law_671 hl (by decide) rfl (fun ls hl => ?_)
  refine lv_aload_n hx hb dL_law_673 rfl (lv_at hl 4 rfl) ?_
  refine law_th hP hK S9 ⟨by omega, by omega⟩ gW_X3_thrown hl.1 dL_law_674 ?_
  refine lv_iload hx hb dL_law_677 (lv_at hl 1 rfl) ?_
  refine lv_icmp_eq (tgt := 684) hx hb dL_law_679 (by decide) (fun c9 => ?_) (fun c9 => absurd rfl c9)
  have e9 : v9 = u9 := law_same h1 h2 h3 h4
  rw [e9] at hP hD
  have hI9 : IJ u9 (k + 1) := law_stay hI h1 h2
  refine lv_iload hx hb dL_law_684 (lv_at hl 1 rfl) ?_
  refine lv_if_ne (tgt := 708) hx hb dL_law_686 (by decide) (fun c9 => ?_) (fun c9 => ?_)
  · refine lv_goto (tgt := 1127) hx hb dL_law_708 (by decide) ?_
    refine W.widen (k := C + 9) (n := S + 112) (by omega) (by omega) ?_
    exact kk u9 g9 _ f9 H locs ls hI9 hP hD hS (lv_sub hl [2, 3, 4, 5, 6] rfl)
  · have z9 := law_ex0 (one_le3 (exC_le u (xs (i + 1)))) c9
    refine lv_aload_n hx hb dL_law_689 rfl (lv_at hl 5 rfl) ?_
    refine lv_iconst (v := 0) hx hb dL_law_690 (by decide) ?_
    refine va_lald hx hb hK hP 37 3 rfl rfl (i := 0) (show vp_in (0 : Int32) 1 from vp_in_nI (by decide) (by decide)) dL_law_691 ?_
    refine pc_topl (show f9 (0 : Int32).toNatClampNeg = (bI (snd u (ix (xs (i + 1))))).toInt64 from (h1 z9).1) ?_
    refine lv_iload hx hb dL_law_692 (lv_at hl 0 rfl) ?_
    refine pc_top (h3 z9).1 ?_
    refine lv_if_eq (tgt := 701) hx hb dL_law_694 (by decide) (fun c7 => ?_) (fun c7 => ?_)
    · refine lv_lconst (v := 0) hx hb dL_law_701 (by decide) ?_
      refine pc_topl2 (show (bI (snd u (ix (xs (i + 1))))).toInt64 = 0 by rw [c7]; rfl) ?_
      refine W.lcmp hx hb dL_law_702 ?_
      refine pc_top (lg_same _) ?_
      refine lv_if_eq (tgt := 708) hx hb dL_law_703 (by decide) (fun c8 => ?_) (fun c8 => absurd rfl c8)
      refine lv_goto (tgt := 1127) hx hb dL_law_708 (by decide) ?_
      refine W.widen (k := C + 9) (n := S + 112) (by omega) (by omega) ?_
      exact kk u9 g9 _ f9 H locs ls hI9 hP hD hS (lv_sub hl [2, 3, 4, 5, 6] rfl)
    · refine lv_lconst (v := 1) hx hb dL_law_697 (by decide) ?_
      refine lv_goto (tgt := 702) hx hb dL_law_698 (by decide) ?_
      refine pc_topl2 (show (bI (snd u (ix (xs (i + 1))))).toInt64 = 1 by rw [bI_one c7]; rfl) ?_
      refine W.lcmp hx hb dL_law_702 ?_
      refine pc_top (lg_same _) ?_
      refine lv_if_eq (tgt := 708) hx hb dL_law_703 (by decide) (fun c8 => ?_) (fun c8 => absurd rfl c8)
      refine lv_goto (tgt := 1127) hx hb dL_law_708 (by decide) ?_
      refine W.widen (k := C + 9) (n := S + 112) (by omega) (by omega) ?_
      exact kk u9 g9 _ f9 H locs ls hI9 hP hD hS (lv_sub hl [2, 3, 4, 5, 6] rfl)
set_option maxHeartbeats 4000000 in
set_option maxRecDepth 100000 in
theorem law_k8 {p : Program} {l : Launch} {e : Env} {s : State} {m : MethodId} {below : List Frame} {meth : Method} {c : Code} {Q : State → Prop} {b L : Nat} {xs : Nat → Int32} {D : va_G} {cy : Nat → ClassId} {a q q2 ca ta mo : Nat → Nat} {o i k C S : Nat} (X : LX p l s m meth c b L xs D cy) (hi : i + 6 ≤ L) (hk : k < 600) (hC : C + 9 ≤ 601024) (hT : S + 112 ≤ 7293034) (kk : LK p l e s m below meth c Q b D cy a q q2 ca ta mo o i (k + 1) (C + 9) (S + 112) 1127) : LK p l e s m below meth c Q b D cy a q q2 ca ta mo o i k C S 711 := by
  obtain ⟨⟨hx, hb, hr, hml, hown, hts, hX, hbl, hlocks, hgv⟩, hL, hst, hK, hKP, hXc, hNc⟩ := X
  have hb : c.code = cL_law := hb
  intro u g th f H locs ls hI hP hD hS hl
  have S9 : CallFix p m c cL_law 9 s #[Value.ref b] lw_tbl RL := ⟨hx, hb, hml, hown, hts⟩
  refine lv_aload_n hx hb dL_law_711 rfl (lv_at hl 1 rfl) ?_
  refine lv_aload_n hx hb dL_law_712 rfl (lv_at hl 0 rfl) ?_
  refine lv_iload hx hb dL_law_713 (lv_at hl 4 rfl) ?_
  refine lv_iconst (v := 1) hx hb dL_law_715 (by decide) ?_
  refine lv_iadd hx hb dL_law_716 ?_
  refine pc_top (show nI i + 1 = nI (i + 1) from nI_add i 1) ?_
  refine law_rd hx hb hX hbl hS (by omega) hL dL_law_717 ?_
  refine lv_aload_n hx hb dL_law_718 rfl (lv_at hl 3 rfl) ?_
  refine law_cL (As := [.ref (a 0), .int (xs (i + 1)), .ref o]) (rest := []) (ex := exC u (xs (i + 1))) (mc := 1) (ms := 6) hP hD hS hK hXc hNc S9 (mL_steps l hst D cy H.size a q q2 ca ta u g hI.1 o f (xs (i + 1))) (vx_cwSW 3 hts gW_L_steps rfl rfl rfl (by decide +kernel) ⟨Nat.le_of_ble_eq_true rfl, Nat.le_of_ble_eq_true rfl⟩) rfl rfl hl.1 (Nat.le_of_ble_eq_true rfl) dL_law_719 ⟨by omega, by omega⟩ (fun u9 g9 f9 H locs h1 h2 hP hD hS => ?_)
  refine lv_istore (lv' := [(5, .int (nI (exC u (xs (i + 1))))), (0, .ref b), (1, .ref (a 0)), (2, .ref (mo 0)), (3, .ref o), (4, .int (nI i))]) hx hb dL_law_722 hl (by decide) rfl (fun ls hl => ?_)
  refine lv_aload_n hx hb dL_law_724 rfl (lv_at hl 3 rfl) ?_
  refine lv_aload_n hx hb dL_law_725 rfl (lv_at hl 1 rfl) ?_
  refine lv_iload hx hb dL_law_726 (lv_at hl 5 rfl) ?_
  refine lv_iconst (v := 1) hx hb dL_law_728 (by decide) ?_
  refine lv_iadd hx hb dL_law_729 ?_
  refine pc_top (show nI i + 1 = nI (i + 1) from nI_add i 1) ?_
  refine law_rd hx hb hX hbl hS (by omega) hL dL_law_730 ?_
  refine law_cM (As := [.int (xs (i + 1))]) (rest := []) (ex := exC u (xs (i + 1))) (mc := 0) (ms := 0) hP hD hS hK S9 (mX3_steps l D cy H.size mo u th hI.1 (xs (i + 1))) (cwV 1 hts gW_X3_steps rfl rfl rfl (by decide +kernel) ⟨Nat.le_of_ble_eq_true rfl, Nat.le_of_ble_eq_true rfl⟩) (law_pV1 hK) rfl rfl hl.1 (Nat.le_of_ble_eq_true rfl) dL_law_731 ⟨by omega, by omega⟩ (fun r9 v9 H locs h3 h4 hP hD hS => ?_)
  refine lv_istore (lv' := [(6, .int r9), (5, .int (nI (exC u (xs (i + 1))))), (0, .ref b), (1, .ref (a 0)), (2, .ref (mo 0)), (3, .ref o), (4, .int (nI i))]) hx hb dL_law_734 hl (by decide) rfl (fun ls hl => ?_)
  refine lv_aload_n hx hb dL_law_736 rfl (lv_at hl 4 rfl) ?_
  refine law_th hP hK S9 ⟨by omega, by omega⟩ gW_X3_thrown hl.1 dL_law_737 ?_
  refine lv_iload hx hb dL_law_740 (lv_at hl 1 rfl) ?_
  refine lv_icmp_eq (tgt := 747) hx hb dL_law_742 (by decide) (fun c9 => ?_) (fun c9 => absurd rfl c9)
  have e9 : v9 = u9 := law_same h1 h2 h3 h4
  rw [e9] at hP hD
  have hI9 : IJ u9 (k + 1) := law_stay hI h1 h2
  refine lv_iload hx hb dL_law_747 (lv_at hl 1 rfl) ?_
  refine lv_if_ne (tgt := 764) hx hb dL_law_749 (by decide) (fun c9 => ?_) (fun c9 => ?_)
  · refine lv_goto (tgt := 1127) hx hb dL_law_764 (by decide) ?_
    refine W.widen (k := C + 9) (n := S + 112) (by omega) (by omega) ?_
    exact kk u9 g9 _ f9 H locs ls hI9 hP hD hS (lv_sub hl [2, 3, 4, 5, 6] rfl)
  · have z9 := law_ex0 (one_le3 (exC_le u (xs (i + 1)))) c9
    refine lv_aload_n hx hb dL_law_752 rfl (lv_at hl 5 rfl) ?_
    refine lv_iconst (v := 0) hx hb dL_law_753 (by decide) ?_
    refine va_lald hx hb hK hP 37 3 rfl rfl (i := 0) (show vp_in (0 : Int32) 1 from vp_in_nI (by decide) (by decide)) dL_law_754 ?_
    refine pc_topl (show f9 (0 : Int32).toNatClampNeg = (fewS u (ix (xs (i + 1)))).toInt64 from (h1 z9).1) ?_
    refine lv_iload hx hb dL_law_755 (lv_at hl 0 rfl) ?_
    refine pc_top (h3 z9).1 ?_
    refine lv_i2l (v := (fewS u (ix (xs (i + 1)))).toInt64) hx hb dL_law_757 rfl ?_
    refine W.lcmp hx hb dL_law_758 ?_
    refine pc_top (lg_same _) ?_
    refine lv_if_eq (tgt := 764) hx hb dL_law_759 (by decide) (fun c8 => ?_) (fun c8 => absurd rfl c8)
    refine lv_goto (tgt := 1127) hx hb dL_law_764 (by decide) ?_
    refine W.widen (k := C + 9) (n := S + 112) (by omega) (by omega) ?_
    exact kk u9 g9 _ f9 H locs ls hI9 hP hD hS (lv_sub hl [2, 3, 4, 5, 6] rfl)
set_option maxHeartbeats 4000000 in
set_option maxRecDepth 100000 in
theorem law_k9 {p : Program} {l : Launch} {e : Env} {s : State} {m : MethodId} {below : List Frame} {meth : Method} {c : Code} {Q : State → Prop} {b L : Nat} {xs : Nat → Int32} {D : va_G} {cy : Nat → ClassId} {a q q2 ca ta mo : Nat → Nat} {o i k C S : Nat} (X : LX p l s m meth c b L xs D cy) (hi : i + 6 ≤ L) (hk : k < 600) (hC : C + 9 ≤ 601024) (hT : S + 112 ≤ 7293034) (kk : LK p l e s m below meth c Q b D cy a q q2 ca ta mo o i (k + 1) (C + 9) (S + 112) 1127) : LK p l e s m below meth c Q b D cy a q q2 ca ta mo o i k C S 767 := by
  obtain ⟨⟨hx, hb, hr, hml, hown, hts, hX, hbl, hlocks, hgv⟩, hL, hst, hK, hKP, hXc, hNc⟩ := X
  have hb : c.code = cL_law := hb
  intro u g th f H locs ls hI hP hD hS hl
  have S9 : CallFix p m c cL_law 9 s #[Value.ref b] lw_tbl RL := ⟨hx, hb, hml, hown, hts⟩
  refine lv_aload_n hx hb dL_law_767 rfl (lv_at hl 1 rfl) ?_
  refine lv_aload_n hx hb dL_law_768 rfl (lv_at hl 0 rfl) ?_
  refine lv_iload hx hb dL_law_769 (lv_at hl 4 rfl) ?_
  refine lv_iconst (v := 1) hx hb dL_law_771 (by decide) ?_
  refine lv_iadd hx hb dL_law_772 ?_
  refine pc_top (show nI i + 1 = nI (i + 1) from nI_add i 1) ?_
  refine law_rd hx hb hX hbl hS (by omega) hL dL_law_773 ?_
  refine lv_aload_n hx hb dL_law_774 rfl (lv_at hl 3 rfl) ?_
  refine law_cL (As := [.ref (a 0), .int (xs (i + 1)), .ref o]) (rest := []) (ex := exPass (xs (i + 1))) (mc := 1) (ms := 6) hP hD hS hK hXc hNc S9 (mL_pass l hst D cy H.size a q q2 ca ta u g hI.1 o f (xs (i + 1))) (vx_cwSW 3 hts gW_L_pass rfl rfl rfl (by decide +kernel) ⟨Nat.le_of_ble_eq_true rfl, Nat.le_of_ble_eq_true rfl⟩) rfl rfl hl.1 (Nat.le_of_ble_eq_true rfl) dL_law_775 ⟨by omega, by omega⟩ (fun u9 g9 f9 H locs h1 h2 hP hD hS => ?_)
  refine lv_istore (lv' := [(5, .int (nI (exPass (xs (i + 1))))), (0, .ref b), (1, .ref (a 0)), (2, .ref (mo 0)), (3, .ref o), (4, .int (nI i))]) hx hb dL_law_778 hl (by decide) rfl (fun ls hl => ?_)
  refine lv_aload_n hx hb dL_law_780 rfl (lv_at hl 3 rfl) ?_
  refine lv_aload_n hx hb dL_law_781 rfl (lv_at hl 1 rfl) ?_
  refine lv_iload hx hb dL_law_782 (lv_at hl 5 rfl) ?_
  refine lv_iconst (v := 1) hx hb dL_law_784 (by decide) ?_
  refine lv_iadd hx hb dL_law_785 ?_
  refine pc_top (show nI i + 1 = nI (i + 1) from nI_add i 1) ?_
  refine law_rd hx hb hX hbl hS (by omega) hL dL_law_786 ?_
  refine law_cM (As := [.int (xs (i + 1))]) (rest := []) (ex := exPass (xs (i + 1))) (mc := 0) (ms := 0) hP hD hS hK S9 (mX3_pass l D cy H.size mo u th hI.1 hI.2.1 (xs (i + 1))) (cwV 1 hts gW_X3_pass rfl rfl rfl (by decide +kernel) ⟨Nat.le_of_ble_eq_true rfl, Nat.le_of_ble_eq_true rfl⟩) (law_pV1 hK) rfl rfl hl.1 (Nat.le_of_ble_eq_true rfl) dL_law_787 ⟨by omega, by omega⟩ (fun r9 v9 H locs h3 h4 hP hD hS => ?_)
  refine lv_istore (lv' := [(6, .int r9), (5, .int (nI (exPass (xs (i + 1))))), (0, .ref b), (1, .ref (a 0)), (2, .ref (mo 0)), (3, .ref o), (4, .int (nI i))]) hx hb dL_law_790 hl (by decide) rfl (fun ls hl => ?_)
  refine lv_aload_n hx hb dL_law_792 rfl (lv_at hl 4 rfl) ?_
  refine law_th hP hK S9 ⟨by omega, by omega⟩ gW_X3_thrown hl.1 dL_law_793 ?_
  refine lv_iload hx hb dL_law_796 (lv_at hl 1 rfl) ?_
  refine lv_icmp_eq (tgt := 803) hx hb dL_law_798 (by decide) (fun c9 => ?_) (fun c9 => absurd rfl c9)
  have e9 : v9 = u9 := law_same h1 h2 h3 h4
  rw [e9] at hP hD
  have hI9 : IJ u9 (k + 1) := law_step hI (fun z9 => IJ_pass (by omega) hI z9) h1 h2
  refine lv_iload hx hb dL_law_803 (lv_at hl 1 rfl) ?_
  refine lv_if_ne (tgt := 820) hx hb dL_law_805 (by decide) (fun c9 => ?_) (fun c9 => ?_)
  · refine lv_goto (tgt := 1127) hx hb dL_law_820 (by decide) ?_
    refine W.widen (k := C + 9) (n := S + 112) (by omega) (by omega) ?_
    exact kk u9 g9 _ f9 H locs ls hI9 hP hD hS (lv_sub hl [2, 3, 4, 5, 6] rfl)
  · have z9 := law_ex0 (one_le3 (exPass_le (xs (i + 1)))) c9
    refine lv_aload_n hx hb dL_law_808 rfl (lv_at hl 5 rfl) ?_
    refine lv_iconst (v := 0) hx hb dL_law_809 (by decide) ?_
    refine va_lald hx hb hK hP 37 3 rfl rfl (i := 0) (show vp_in (0 : Int32) 1 from vp_in_nI (by decide) (by decide)) dL_law_810 ?_
    refine pc_topl (show f9 (0 : Int32).toNatClampNeg = (nI (passB (uw u) (ud u) (uh u) (ix (xs (i + 1))))).toInt64 from (h1 z9).1) ?_
    refine lv_iload hx hb dL_law_811 (lv_at hl 0 rfl) ?_
    refine pc_top (h3 z9).1 ?_
    refine lv_i2l (v := (nI (passB (uw u) (ud u) (uh u) (ix (xs (i + 1))))).toInt64) hx hb dL_law_813 rfl ?_
    refine W.lcmp hx hb dL_law_814 ?_
    refine pc_top (lg_same _) ?_
    refine lv_if_eq (tgt := 820) hx hb dL_law_815 (by decide) (fun c8 => ?_) (fun c8 => absurd rfl c8)
    refine lv_goto (tgt := 1127) hx hb dL_law_820 (by decide) ?_
    refine W.widen (k := C + 9) (n := S + 112) (by omega) (by omega) ?_
    exact kk u9 g9 _ f9 H locs ls hI9 hP hD hS (lv_sub hl [2, 3, 4, 5, 6] rfl)
set_option maxHeartbeats 4000000 in
set_option maxRecDepth 100000 in
theorem law_k10 {p : Program} {l : Launch} {e : Env} {s : State} {m : MethodId} {below : List Frame} {meth : Method} {c : Code} {Q : State → Prop} {b L : Nat} {xs : Nat → Int32} {D : va_G} {cy : Nat → ClassId} {a q q2 ca ta mo : Nat → Nat} {o i k C S : Nat} (X : LX p l s m meth c b L xs D cy) (hi : i + 6 ≤ L) (hk : k < 600) (hC : C + 9 ≤ 601024) (hT : S + 112 ≤ 7293034) (kk : LK p l e s m below meth c Q b D cy a q q2 ca ta mo o i (k + 1) (C + 9) (S + 112) 1127) : LK p l e s m below meth c Q b D cy a q q2 ca ta mo o i k C S 823 := by
  obtain ⟨⟨hx, hb, hr, hml, hown, hts, hX, hbl, hlocks, hgv⟩, hL, hst, hK, hKP, hXc, hNc⟩ := X
  have hb : c.code = cL_law := hb
  intro u g th f H locs ls hI hP hD hS hl
  have S9 : CallFix p m c cL_law 9 s #[Value.ref b] lw_tbl RL := ⟨hx, hb, hml, hown, hts⟩
  refine lv_aload_n hx hb dL_law_823 rfl (lv_at hl 1 rfl) ?_
  refine lv_aload_n hx hb dL_law_824 rfl (lv_at hl 0 rfl) ?_
  refine lv_iload hx hb dL_law_825 (lv_at hl 4 rfl) ?_
  refine lv_iconst (v := 1) hx hb dL_law_827 (by decide) ?_
  refine lv_iadd hx hb dL_law_828 ?_
  refine pc_top (show nI i + 1 = nI (i + 1) from nI_add i 1) ?_
  refine law_rd hx hb hX hbl hS (by omega) hL dL_law_829 ?_
  refine lv_aload_n hx hb dL_law_830 rfl (lv_at hl 3 rfl) ?_
  refine law_cL (As := [.ref (a 0), .int (xs (i + 1)), .ref o]) (rest := []) (ex := exCnt (xs (i + 1))) (mc := 1) (ms := 6) hP hD hS hK hXc hNc S9 (mL_count l hst D cy H.size a q q2 ca ta u g hI.1 o f (xs (i + 1))) (vx_cwSW 3 hts gW_L_count rfl rfl rfl (by decide +kernel) ⟨Nat.le_of_ble_eq_true rfl, Nat.le_of_ble_eq_true rfl⟩) rfl rfl hl.1 (Nat.le_of_ble_eq_true rfl) dL_law_831 ⟨by omega, by omega⟩ (fun u9 g9 f9 H locs h1 h2 hP hD hS => ?_)
  refine lv_istore (lv' := [(5, .int (nI (exCnt (xs (i + 1))))), (0, .ref b), (1, .ref (a 0)), (2, .ref (mo 0)), (3, .ref o), (4, .int (nI i))]) hx hb dL_law_834 hl (by decide) rfl (fun ls hl => ?_)
  refine lv_aload_n hx hb dL_law_836 rfl (lv_at hl 3 rfl) ?_
  refine lv_aload_n hx hb dL_law_837 rfl (lv_at hl 1 rfl) ?_
  refine lv_iload hx hb dL_law_838 (lv_at hl 5 rfl) ?_
  refine lv_iconst (v := 1) hx hb dL_law_840 (by decide) ?_
  refine lv_iadd hx hb dL_law_841 ?_
  refine pc_top (show nI i + 1 = nI (i + 1) from nI_add i 1) ?_
  refine law_rd hx hb hX hbl hS (by omega) hL dL_law_842 ?_
  refine law_cM (As := [.int (xs (i + 1))]) (rest := []) (ex := exCnt (xs (i + 1))) (mc := 0) (ms := 0) hP hD hS hK S9 (mX3_count l D cy H.size mo u th hI.1 (xs (i + 1))) (cwV 1 hts gW_X3_count rfl rfl rfl (by decide +kernel) ⟨Nat.le_of_ble_eq_true rfl, Nat.le_of_ble_eq_true rfl⟩) (law_pV1 hK) rfl rfl hl.1 (Nat.le_of_ble_eq_true rfl) dL_law_843 ⟨by omega, by omega⟩ (fun r9 v9 H locs h3 h4 hP hD hS => ?_)
  refine lv_istore (lv' := [(6, .int r9), (5, .int (nI (exCnt (xs (i + 1))))), (0, .ref b), (1, .ref (a 0)), (2, .ref (mo 0)), (3, .ref o), (4, .int (nI i))]) hx hb dL_law_846 hl (by decide) rfl (fun ls hl => ?_)
  refine lv_aload_n hx hb dL_law_848 rfl (lv_at hl 4 rfl) ?_
  refine law_th hP hK S9 ⟨by omega, by omega⟩ gW_X3_thrown hl.1 dL_law_849 ?_
  refine lv_iload hx hb dL_law_852 (lv_at hl 1 rfl) ?_
  refine lv_icmp_eq (tgt := 859) hx hb dL_law_854 (by decide) (fun c9 => ?_) (fun c9 => absurd rfl c9)
  have e9 : v9 = u9 := law_same h1 h2 h3 h4
  rw [e9] at hP hD
  have hI9 : IJ u9 (k + 1) := law_stay hI h1 h2
  refine lv_iload hx hb dL_law_859 (lv_at hl 1 rfl) ?_
  refine lv_if_ne (tgt := 876) hx hb dL_law_861 (by decide) (fun c9 => ?_) (fun c9 => ?_)
  · refine lv_goto (tgt := 1127) hx hb dL_law_876 (by decide) ?_
    refine W.widen (k := C + 9) (n := S + 112) (by omega) (by omega) ?_
    exact kk u9 g9 _ f9 H locs ls hI9 hP hD hS (lv_sub hl [2, 3, 4, 5, 6] rfl)
  · have z9 := law_ex0 (one_le3 (exCnt_le (xs (i + 1)))) c9
    refine lv_aload_n hx hb dL_law_864 rfl (lv_at hl 5 rfl) ?_
    refine lv_iconst (v := 0) hx hb dL_law_865 (by decide) ?_
    refine va_lald hx hb hK hP 37 3 rfl rfl (i := 0) (show vp_in (0 : Int32) 1 from vp_in_nI (by decide) (by decide)) dL_law_866 ?_
    refine pc_topl (show f9 (0 : Int32).toNatClampNeg = (cntOf u (ix (xs (i + 1)))).toInt64 from (h1 z9).1) ?_
    refine lv_iload hx hb dL_law_867 (lv_at hl 0 rfl) ?_
    refine pc_top (h3 z9).1 ?_
    refine lv_i2l (v := (cntOf u (ix (xs (i + 1)))).toInt64) hx hb dL_law_869 rfl ?_
    refine W.lcmp hx hb dL_law_870 ?_
    refine pc_top (lg_same _) ?_
    refine lv_if_eq (tgt := 876) hx hb dL_law_871 (by decide) (fun c8 => ?_) (fun c8 => absurd rfl c8)
    refine lv_goto (tgt := 1127) hx hb dL_law_876 (by decide) ?_
    refine W.widen (k := C + 9) (n := S + 112) (by omega) (by omega) ?_
    exact kk u9 g9 _ f9 H locs ls hI9 hP hD hS (lv_sub hl [2, 3, 4, 5, 6] rfl)
set_option maxHeartbeats 4000000 in
set_option maxRecDepth 100000 in
theorem law_k11 {p : Program} {l : Launch} {e : Env} {s : State} {m : MethodId} {below : List Frame} {meth : Method} {c : Code} {Q : State → Prop} {b L : Nat} {xs : Nat → Int32} {D : va_G} {cy : Nat → ClassId} {a q q2 ca ta mo : Nat → Nat} {o i k C S : Nat} (X : LX p l s m meth c b L xs D cy) (hi : i + 6 ≤ L) (hk : k < 600) (hC : C + 9 ≤ 601024) (hT : S + 112 ≤ 7293034) (kk : LK p l e s m below meth c Q b D cy a q q2 ca ta mo o i (k + 1) (C + 9) (S + 112) 1127) : LK p l e s m below meth c Q b D cy a q q2 ca ta mo o i k C S 879 := by
  obtain ⟨⟨hx, hb, hr, hml, hown, hts, hX, hbl, hlocks, hgv⟩, hL, hst, hK, hKP, hXc, hNc⟩ := X
  have hb : c.code = cL_law := hb
  intro u g th f H locs ls hI hP hD hS hl
  have S9 : CallFix p m c cL_law 9 s #[Value.ref b] lw_tbl RL := ⟨hx, hb, hml, hown, hts⟩
  refine lv_aload_n hx hb dL_law_879 rfl (lv_at hl 1 rfl) ?_
  refine lv_aload_n hx hb dL_law_880 rfl (lv_at hl 0 rfl) ?_
  refine lv_iload hx hb dL_law_881 (lv_at hl 4 rfl) ?_
  refine lv_iconst (v := 1) hx hb dL_law_883 (by decide) ?_
  refine lv_iadd hx hb dL_law_884 ?_
  refine pc_top (show nI i + 1 = nI (i + 1) from nI_add i 1) ?_
  refine law_rd hx hb hX hbl hS (by omega) hL dL_law_885 ?_
  refine lv_aload_n hx hb dL_law_886 rfl (lv_at hl 3 rfl) ?_
  refine law_cL (As := [.ref (a 0), .int (xs (i + 1)), .ref o]) (rest := []) (ex := exS (xs (i + 1))) (mc := 1) (ms := 6) hP hD hS hK hXc hNc S9 (mL_bears l hst D cy H.size a q q2 ca ta u g hI.1 o f (xs (i + 1))) (vx_cwSW 3 hts gW_L_bears rfl rfl rfl (by decide +kernel) ⟨Nat.le_of_ble_eq_true rfl, Nat.le_of_ble_eq_true rfl⟩) rfl rfl hl.1 (Nat.le_of_ble_eq_true rfl) dL_law_887 ⟨by omega, by omega⟩ (fun u9 g9 f9 H locs h1 h2 hP hD hS => ?_)
  refine lv_istore (lv' := [(5, .int (nI (exS (xs (i + 1))))), (0, .ref b), (1, .ref (a 0)), (2, .ref (mo 0)), (3, .ref o), (4, .int (nI i))]) hx hb dL_law_890 hl (by decide) rfl (fun ls hl => ?_)
  refine lv_aload_n hx hb dL_law_892 rfl (lv_at hl 3 rfl) ?_
  refine lv_aload_n hx hb dL_law_893 rfl (lv_at hl 1 rfl) ?_
  refine lv_iload hx hb dL_law_894 (lv_at hl 5 rfl) ?_
  refine lv_iconst (v := 1) hx hb dL_law_896 (by decide) ?_
  refine lv_iadd hx hb dL_law_897 ?_
  refine pc_top (show nI i + 1 = nI (i + 1) from nI_add i 1) ?_
  refine law_rd hx hb hX hbl hS (by omega) hL dL_law_898 ?_
  refine law_cM (As := [.int (xs (i + 1))]) (rest := []) (ex := exS (xs (i + 1))) (mc := 3) (ms := 76) hP hD hS hK S9 (mX3_bears l D cy H.size mo u th hI.1 hI.2.1 (xs (i + 1))) (cwV 1 hts gW_X3_bears rfl rfl rfl (by decide +kernel) ⟨Nat.le_of_ble_eq_true rfl, Nat.le_of_ble_eq_true rfl⟩) (law_pV2 hK hKP) rfl rfl hl.1 (Nat.le_of_ble_eq_true rfl) dL_law_899 ⟨by omega, by omega⟩ (fun r9 v9 H locs h3 h4 hP hD hS => ?_)
  refine lv_istore (lv' := [(6, .int r9), (5, .int (nI (exS (xs (i + 1))))), (0, .ref b), (1, .ref (a 0)), (2, .ref (mo 0)), (3, .ref o), (4, .int (nI i))]) hx hb dL_law_902 hl (by decide) rfl (fun ls hl => ?_)
  refine lv_aload_n hx hb dL_law_904 rfl (lv_at hl 4 rfl) ?_
  refine law_th hP hK S9 ⟨by omega, by omega⟩ gW_X3_thrown hl.1 dL_law_905 ?_
  refine lv_iload hx hb dL_law_908 (lv_at hl 1 rfl) ?_
  refine lv_icmp_eq (tgt := 915) hx hb dL_law_910 (by decide) (fun c9 => ?_) (fun c9 => absurd rfl c9)
  have e9 : v9 = u9 := law_same h1 h2 h3 h4
  rw [e9] at hP hD
  have hI9 : IJ u9 (k + 1) := law_stay hI h1 h2
  refine lv_iload hx hb dL_law_915 (lv_at hl 1 rfl) ?_
  refine lv_if_ne (tgt := 932) hx hb dL_law_917 (by decide) (fun c9 => ?_) (fun c9 => ?_)
  · refine lv_goto (tgt := 1127) hx hb dL_law_932 (by decide) ?_
    refine W.widen (k := C + 9) (n := S + 112) (by omega) (by omega) ?_
    exact kk u9 g9 _ f9 H locs ls hI9 hP hD hS (lv_sub hl [2, 3, 4, 5, 6] rfl)
  · have z9 := law_ex0 (one_le3 (exS_le (xs (i + 1)))) c9
    refine lv_aload_n hx hb dL_law_920 rfl (lv_at hl 5 rfl) ?_
    refine lv_iconst (v := 0) hx hb dL_law_921 (by decide) ?_
    refine va_lald hx hb hK hP 37 3 rfl rfl (i := 0) (show vp_in (0 : Int32) 1 from vp_in_nI (by decide) (by decide)) dL_law_922 ?_
    refine pc_topl (show f9 (0 : Int32).toNatClampNeg = (bearF (bearP u (ix (xs (i + 1)))) 21).toInt64 from (h1 z9).1) ?_
    refine lv_iload hx hb dL_law_923 (lv_at hl 0 rfl) ?_
    refine pc_top (h3 z9).1 ?_
    refine lv_i2l (v := (bearF (bearP u (ix (xs (i + 1)))) 21).toInt64) hx hb dL_law_925 rfl ?_
    refine W.lcmp hx hb dL_law_926 ?_
    refine pc_top (lg_same _) ?_
    refine lv_if_eq (tgt := 932) hx hb dL_law_927 (by decide) (fun c8 => ?_) (fun c8 => absurd rfl c8)
    refine lv_goto (tgt := 1127) hx hb dL_law_932 (by decide) ?_
    refine W.widen (k := C + 9) (n := S + 112) (by omega) (by omega) ?_
    exact kk u9 g9 _ f9 H locs ls hI9 hP hD hS (lv_sub hl [2, 3, 4, 5, 6] rfl)
set_option maxHeartbeats 4000000 in
set_option maxRecDepth 100000 in
theorem law_k12 {p : Program} {l : Launch} {e : Env} {s : State} {m : MethodId} {below : List Frame} {meth : Method} {c : Code} {Q : State → Prop} {b L : Nat} {xs : Nat → Int32} {D : va_G} {cy : Nat → ClassId} {a q q2 ca ta mo : Nat → Nat} {o i k C S : Nat} (X : LX p l s m meth c b L xs D cy) (hi : i + 6 ≤ L) (hk : k < 600) (hC : C + 9 ≤ 601024) (hT : S + 112 ≤ 7293034) (kk : LK p l e s m below meth c Q b D cy a q q2 ca ta mo o i (k + 1) (C + 9) (S + 112) 1127) : LK p l e s m below meth c Q b D cy a q q2 ca ta mo o i k C S 935 := by
  obtain ⟨⟨hx, hb, hr, hml, hown, hts, hX, hbl, hlocks, hgv⟩, hL, hst, hK, hKP, hXc, hNc⟩ := X
  have hb : c.code = cL_law := hb
  intro u g th f H locs ls hI hP hD hS hl
  have S9 : CallFix p m c cL_law 9 s #[Value.ref b] lw_tbl RL := ⟨hx, hb, hml, hown, hts⟩
  refine lv_aload_n hx hb dL_law_935 rfl (lv_at hl 1 rfl) ?_
  refine law_first hP hD hS hK S9 hI.1 gW_X2_first hl.1 ⟨by omega, by omega⟩ dL_law_936 (fun g9 H locs hP hD hS => ?_)
  refine lv_aload_n hx hb dL_law_939 rfl (lv_at hl 2 rfl) ?_
  refine law_cM (As := []) (rest := [.int (firF (uw u) (ud u) (uh u) 0 200)]) (ex := 0) (mc := 3) (ms := 76) hP hD hS hK S9 (mX3_first l D cy H.size mo u th hI.1 hI.2.1) (cwV 0 hts gW_X3_first rfl rfl rfl (by decide +kernel) ⟨Nat.le_of_ble_eq_true rfl, Nat.le_of_ble_eq_true rfl⟩) (law_pV2 hK hKP) rfl rfl hl.1 (Nat.le_of_ble_eq_true rfl) dL_law_940 ⟨by omega, by omega⟩ (fun r9 v9 H locs h3 h4 hP hD hS => ?_)
  obtain ⟨e8, e9⟩ := h3 rfl
  rw [e9] at hP hD
  refine lv_icmp_eq (tgt := 1127) hx hb dL_law_943 (by decide) (fun c9 => ?_) (fun c9 => absurd e8.symm c9)
  refine W.widen (k := C + 9) (n := S + 112) (by omega) (by omega) ?_
  exact kk u g9 _ f H locs ls (IJ_stay hI) hP hD hS (lv_sub hl [0, 1, 2, 3, 4] rfl)
set_option maxHeartbeats 4000000 in
set_option maxRecDepth 100000 in
theorem law_k13 {p : Program} {l : Launch} {e : Env} {s : State} {m : MethodId} {below : List Frame} {meth : Method} {c : Code} {Q : State → Prop} {b L : Nat} {xs : Nat → Int32} {D : va_G} {cy : Nat → ClassId} {a q q2 ca ta mo : Nat → Nat} {o i k C S : Nat} (X : LX p l s m meth c b L xs D cy) (hi : i + 6 ≤ L) (hk : k < 600) (hC : C + 9 ≤ 601024) (hT : S + 112 ≤ 7293034) (kk : LK p l e s m below meth c Q b D cy a q q2 ca ta mo o i (k + 1) (C + 9) (S + 112) 1127) : LK p l e s m below meth c Q b D cy a q q2 ca ta mo o i k C S 948 := by
  obtain ⟨⟨hx, hb, hr, hml, hown, hts, hX, hbl, hlocks, hgv⟩, hL, hst, hK, hKP, hXc, hNc⟩ := X
  have hb : c.code = cL_law := hb
  intro u g th f H locs ls hI hP hD hS hl
  have S9 : CallFix p m c cL_law 9 s #[Value.ref b] lw_tbl RL := ⟨hx, hb, hml, hown, hts⟩
  refine lv_aload_n hx hb dL_law_948 rfl (lv_at hl 1 rfl) ?_
  refine lv_aload_n hx hb dL_law_949 rfl (lv_at hl 0 rfl) ?_
  refine lv_iload hx hb dL_law_950 (lv_at hl 4 rfl) ?_
  refine lv_iconst (v := 1) hx hb dL_law_952 (by decide) ?_
  refine lv_iadd hx hb dL_law_953 ?_
  refine pc_top (show nI i + 1 = nI (i + 1) from nI_add i 1) ?_
  refine law_rd hx hb hX hbl hS (by omega) hL dL_law_954 ?_
  refine lv_aload_n hx hb dL_law_955 rfl (lv_at hl 3 rfl) ?_
  refine law_cL (As := [.ref (a 0), .int (xs (i + 1)), .ref o]) (rest := []) (ex := exC u (xs (i + 1))) (mc := 1) (ms := 6) hP hD hS hK hXc hNc S9 (mL_holds l hst D cy H.size a q q2 ca ta u g hI.1 o f (xs (i + 1))) (vx_cwSW 3 hts gW_L_holds rfl rfl rfl (by decide +kernel) ⟨Nat.le_of_ble_eq_true rfl, Nat.le_of_ble_eq_true rfl⟩) rfl rfl hl.1 (Nat.le_of_ble_eq_true rfl) dL_law_956 ⟨by omega, by omega⟩ (fun u9 g9 f9 H locs h1 h2 hP hD hS => ?_)
  refine lv_istore (lv' := [(5, .int (nI (exC u (xs (i + 1))))), (0, .ref b), (1, .ref (a 0)), (2, .ref (mo 0)), (3, .ref o), (4, .int (nI i))]) hx hb dL_law_959 hl (by decide) rfl (fun ls hl => ?_)
  refine lv_aload_n hx hb dL_law_961 rfl (lv_at hl 3 rfl) ?_
  refine lv_aload_n hx hb dL_law_962 rfl (lv_at hl 1 rfl) ?_
  refine lv_iload hx hb dL_law_963 (lv_at hl 5 rfl) ?_
  refine lv_iconst (v := 1) hx hb dL_law_965 (by decide) ?_
  refine lv_iadd hx hb dL_law_966 ?_
  refine pc_top (show nI i + 1 = nI (i + 1) from nI_add i 1) ?_
  refine law_rd hx hb hX hbl hS (by omega) hL dL_law_967 ?_
  refine law_cM (As := [.int (xs (i + 1))]) (rest := []) (ex := exC u (xs (i + 1))) (mc := 3) (ms := 76) hP hD hS hK S9 (mX3_holds l D cy H.size mo u th hI.1 hI.2.1 (xs (i + 1))) (cwV 1 hts gW_X3_holds rfl rfl rfl (by decide +kernel) ⟨Nat.le_of_ble_eq_true rfl, Nat.le_of_ble_eq_true rfl⟩) (law_pV2 hK hKP) rfl rfl hl.1 (Nat.le_of_ble_eq_true rfl) dL_law_968 ⟨by omega, by omega⟩ (fun r9 v9 H locs h3 h4 hP hD hS => ?_)
  refine lv_istore (lv' := [(6, .int r9), (5, .int (nI (exC u (xs (i + 1))))), (0, .ref b), (1, .ref (a 0)), (2, .ref (mo 0)), (3, .ref o), (4, .int (nI i))]) hx hb dL_law_971 hl (by decide) rfl (fun ls hl => ?_)
  refine lv_aload_n hx hb dL_law_973 rfl (lv_at hl 4 rfl) ?_
  refine law_th hP hK S9 ⟨by omega, by omega⟩ gW_X3_thrown hl.1 dL_law_974 ?_
  refine lv_iload hx hb dL_law_977 (lv_at hl 1 rfl) ?_
  refine lv_icmp_eq (tgt := 984) hx hb dL_law_979 (by decide) (fun c9 => ?_) (fun c9 => absurd rfl c9)
  have e9 : v9 = u9 := law_same h1 h2 h3 h4
  rw [e9] at hP hD
  have hI9 : IJ u9 (k + 1) := law_stay hI h1 h2
  refine lv_iload hx hb dL_law_984 (lv_at hl 1 rfl) ?_
  refine lv_if_ne (tgt := 1001) hx hb dL_law_986 (by decide) (fun c9 => ?_) (fun c9 => ?_)
  · refine lv_goto (tgt := 1127) hx hb dL_law_1001 (by decide) ?_
    refine W.widen (k := C + 9) (n := S + 112) (by omega) (by omega) ?_
    exact kk u9 g9 _ f9 H locs ls hI9 hP hD hS (lv_sub hl [2, 3, 4, 5, 6] rfl)
  · have z9 := law_ex0 (one_le3 (exC_le u (xs (i + 1)))) c9
    refine lv_aload_n hx hb dL_law_989 rfl (lv_at hl 5 rfl) ?_
    refine lv_iconst (v := 0) hx hb dL_law_990 (by decide) ?_
    refine va_lald hx hb hK hP 37 3 rfl rfl (i := 0) (show vp_in (0 : Int32) 1 from vp_in_nI (by decide) (by decide)) dL_law_991 ?_
    refine pc_topl (show f9 (0 : Int32).toNatClampNeg = (lowF (fun k => !(holdP u (ix (xs (i + 1))) k)) 0 201).toInt64 from (h1 z9).1) ?_
    refine lv_iload hx hb dL_law_992 (lv_at hl 0 rfl) ?_
    refine pc_top (h3 z9).1 ?_
    refine lv_i2l (v := (lowF (fun k => !(holdP u (ix (xs (i + 1))) k)) 0 201).toInt64) hx hb dL_law_994 rfl ?_
    refine W.lcmp hx hb dL_law_995 ?_
    refine pc_top (lg_same _) ?_
    refine lv_if_eq (tgt := 1001) hx hb dL_law_996 (by decide) (fun c8 => ?_) (fun c8 => absurd rfl c8)
    refine lv_goto (tgt := 1127) hx hb dL_law_1001 (by decide) ?_
    refine W.widen (k := C + 9) (n := S + 112) (by omega) (by omega) ?_
    exact kk u9 g9 _ f9 H locs ls hI9 hP hD hS (lv_sub hl [2, 3, 4, 5, 6] rfl)
set_option maxHeartbeats 4000000 in
set_option maxRecDepth 100000 in
theorem law_k14 {p : Program} {l : Launch} {e : Env} {s : State} {m : MethodId} {below : List Frame} {meth : Method} {c : Code} {Q : State → Prop} {b L : Nat} {xs : Nat → Int32} {D : va_G} {cy : Nat → ClassId} {a q q2 ca ta mo : Nat → Nat} {o i k C S : Nat} (X : LX p l s m meth c b L xs D cy) (hi : i + 6 ≤ L) (hk : k < 600) (hC : C + 9 ≤ 601024) (hT : S + 112 ≤ 7293034) (kk : LK p l e s m below meth c Q b D cy a q q2 ca ta mo o i (k + 1) (C + 9) (S + 112) 1127) : LK p l e s m below meth c Q b D cy a q q2 ca ta mo o i k C S 1004 := by
  obtain ⟨⟨hx, hb, hr, hml, hown, hts, hX, hbl, hlocks, hgv⟩, hL, hst, hK, hKP, hXc, hNc⟩ := X
  have hb : c.code = cL_law := hb
  intro u g th f H locs ls hI hP hD hS hl
  have S9 : CallFix p m c cL_law 9 s #[Value.ref b] lw_tbl RL := ⟨hx, hb, hml, hown, hts⟩
  refine lv_aload_n hx hb dL_law_1004 rfl (lv_at hl 1 rfl) ?_
  refine lv_aload_n hx hb dL_law_1005 rfl (lv_at hl 0 rfl) ?_
  refine lv_iload hx hb dL_law_1006 (lv_at hl 4 rfl) ?_
  refine lv_iconst (v := 1) hx hb dL_law_1008 (by decide) ?_
  refine lv_iadd hx hb dL_law_1009 ?_
  refine pc_top (show nI i + 1 = nI (i + 1) from nI_add i 1) ?_
  refine law_rd hx hb hX hbl hS (by omega) hL dL_law_1010 ?_
  refine lv_aload_n hx hb dL_law_1011 rfl (lv_at hl 0 rfl) ?_
  refine lv_iload hx hb dL_law_1012 (lv_at hl 4 rfl) ?_
  refine lv_iconst (v := 2) hx hb dL_law_1014 (by decide) ?_
  refine lv_iadd hx hb dL_law_1015 ?_
  refine pc_top (show nI i + 2 = nI (i + 2) from nI_add i 2) ?_
  refine law_rd hx hb hX hbl hS (by omega) hL dL_law_1016 ?_
  refine lv_aload_n hx hb dL_law_1017 rfl (lv_at hl 3 rfl) ?_
  refine law_cL (As := [.ref (a 0), .int (xs (i + 1)), .int (xs (i + 2)), .ref o]) (rest := []) (ex := exFor (xs (i + 1)) (xs (i + 2))) (mc := 2) (ms := 12) hP hD hS hK hXc hNc S9 (mL_foresee l hst D cy H.size a q q2 ca ta u g hI.1 o f (xs (i + 1)) (xs (i + 2))) (vx_cwSW 4 hts gW_L_foresee rfl rfl rfl (by decide +kernel) ⟨Nat.le_of_ble_eq_true rfl, Nat.le_of_ble_eq_true rfl⟩) rfl rfl hl.1 (Nat.le_of_ble_eq_true rfl) dL_law_1018 ⟨by omega, by omega⟩ (fun u9 g9 f9 H locs h1 h2 hP hD hS => ?_)
  refine lv_istore (lv' := [(5, .int (nI (exFor (xs (i + 1)) (xs (i + 2))))), (0, .ref b), (1, .ref (a 0)), (2, .ref (mo 0)), (3, .ref o), (4, .int (nI i))]) hx hb dL_law_1021 hl (by decide) rfl (fun ls hl => ?_)
  refine lv_aload_n hx hb dL_law_1023 rfl (lv_at hl 3 rfl) ?_
  refine lv_aload_n hx hb dL_law_1024 rfl (lv_at hl 1 rfl) ?_
  refine lv_iload hx hb dL_law_1025 (lv_at hl 5 rfl) ?_
  refine lv_iconst (v := 1) hx hb dL_law_1027 (by decide) ?_
  refine lv_iadd hx hb dL_law_1028 ?_
  refine pc_top (show nI i + 1 = nI (i + 1) from nI_add i 1) ?_
  refine law_rd hx hb hX hbl hS (by omega) hL dL_law_1029 ?_
  refine lv_aload_n hx hb dL_law_1030 rfl (lv_at hl 1 rfl) ?_
  refine lv_iload hx hb dL_law_1031 (lv_at hl 5 rfl) ?_
  refine lv_iconst (v := 2) hx hb dL_law_1033 (by decide) ?_
  refine lv_iadd hx hb dL_law_1034 ?_
  refine pc_top (show nI i + 2 = nI (i + 2) from nI_add i 2) ?_
  refine law_rd hx hb hX hbl hS (by omega) hL dL_law_1035 ?_
  refine law_cM (As := [.int (xs (i + 1)), .int (xs (i + 2))]) (rest := []) (ex := exFor (xs (i + 1)) (xs (i + 2))) (mc := 3) (ms := 76) hP hD hS hK S9 (mX3_foresee l D cy H.size mo u th hI.1 hI.2.1 (xs (i + 1)) (xs (i + 2))) (cwV 2 hts gW_X3_foresee rfl rfl rfl (by decide +kernel) ⟨Nat.le_of_ble_eq_true rfl, Nat.le_of_ble_eq_true rfl⟩) (law_pV2 hK hKP) rfl rfl hl.1 (Nat.le_of_ble_eq_true rfl) dL_law_1036 ⟨by omega, by omega⟩ (fun r9 v9 H locs h3 h4 hP hD hS => ?_)
  refine lv_istore (lv' := [(6, .int r9), (5, .int (nI (exFor (xs (i + 1)) (xs (i + 2))))), (0, .ref b), (1, .ref (a 0)), (2, .ref (mo 0)), (3, .ref o), (4, .int (nI i))]) hx hb dL_law_1039 hl (by decide) rfl (fun ls hl => ?_)
  refine lv_aload_n hx hb dL_law_1041 rfl (lv_at hl 4 rfl) ?_
  refine law_th hP hK S9 ⟨by omega, by omega⟩ gW_X3_thrown hl.1 dL_law_1042 ?_
  refine lv_iload hx hb dL_law_1045 (lv_at hl 1 rfl) ?_
  refine lv_icmp_eq (tgt := 1052) hx hb dL_law_1047 (by decide) (fun c9 => ?_) (fun c9 => absurd rfl c9)
  have e9 : v9 = u9 := law_same h1 h2 h3 h4
  rw [e9] at hP hD
  have hI9 : IJ u9 (k + 1) := law_stay hI h1 h2
  refine lv_iload hx hb dL_law_1052 (lv_at hl 1 rfl) ?_
  refine lv_if_ne (tgt := 1069) hx hb dL_law_1054 (by decide) (fun c9 => ?_) (fun c9 => ?_)
  · refine lv_goto (tgt := 1127) hx hb dL_law_1069 (by decide) ?_
    refine W.widen (k := C + 9) (n := S + 112) (by omega) (by omega) ?_
    exact kk u9 g9 _ f9 H locs ls hI9 hP hD hS (lv_sub hl [2, 3, 4, 5, 6] rfl)
  · have z9 := law_ex0 (two_le3 (exFor_le (xs (i + 1)) (xs (i + 2)))) c9
    refine lv_aload_n hx hb dL_law_1057 rfl (lv_at hl 5 rfl) ?_
    refine lv_iconst (v := 0) hx hb dL_law_1058 (by decide) ?_
    refine va_lald hx hb hK hP 37 3 rfl rfl (i := 0) (show vp_in (0 : Int32) 1 from vp_in_nI (by decide) (by decide)) dL_law_1059 ?_
    refine pc_topl (show f9 (0 : Int32).toNatClampNeg = (tone (hN (ix (xs (i + 2))) (ix (xs (i + 2)) + 1) (uw u) (ud u) (uh u) (ix (xs (i + 1)))) (ix (xs (i + 2)))).toInt64 from (h1 z9).1) ?_
    refine lv_iload hx hb dL_law_1060 (lv_at hl 0 rfl) ?_
    refine pc_top (h3 z9).1 ?_
    refine lv_i2l (v := (tone (hN (ix (xs (i + 2))) (ix (xs (i + 2)) + 1) (uw u) (ud u) (uh u) (ix (xs (i + 1)))) (ix (xs (i + 2)))).toInt64) hx hb dL_law_1062 rfl ?_
    refine W.lcmp hx hb dL_law_1063 ?_
    refine pc_top (lg_same _) ?_
    refine lv_if_eq (tgt := 1069) hx hb dL_law_1064 (by decide) (fun c8 => ?_) (fun c8 => absurd rfl c8)
    refine lv_goto (tgt := 1127) hx hb dL_law_1069 (by decide) ?_
    refine W.widen (k := C + 9) (n := S + 112) (by omega) (by omega) ?_
    exact kk u9 g9 _ f9 H locs ls hI9 hP hD hS (lv_sub hl [2, 3, 4, 5, 6] rfl)
set_option maxHeartbeats 4000000 in
set_option maxRecDepth 100000 in
theorem law_k15 {p : Program} {l : Launch} {e : Env} {s : State} {m : MethodId} {below : List Frame} {meth : Method} {c : Code} {Q : State → Prop} {b L : Nat} {xs : Nat → Int32} {D : va_G} {cy : Nat → ClassId} {a q q2 ca ta mo : Nat → Nat} {o i k C S : Nat} (X : LX p l s m meth c b L xs D cy) (hi : i + 6 ≤ L) (hk : k < 600) (hC : C + 9 ≤ 601024) (hT : S + 112 ≤ 7293034) (kk : LK p l e s m below meth c Q b D cy a q q2 ca ta mo o i (k + 1) (C + 9) (S + 112) 1127) : LK p l e s m below meth c Q b D cy a q q2 ca ta mo o i k C S 1072 := by
  obtain ⟨⟨hx, hb, hr, hml, hown, hts, hX, hbl, hlocks, hgv⟩, hL, hst, hK, hKP, hXc, hNc⟩ := X
  have hb : c.code = cL_law := hb
  intro u g th f H locs ls hI hP hD hS hl
  have S9 : CallFix p m c cL_law 9 s #[Value.ref b] lw_tbl RL := ⟨hx, hb, hml, hown, hts⟩
  refine lv_aload_n hx hb dL_law_1072 rfl (lv_at hl 1 rfl) ?_
  refine law_mean hP hK S9 hI.1 gW_X2_mean hl.1 ⟨by omega, by omega⟩ dL_law_1073 ?_
  refine lv_dstore (lv' := [(5, .double (meanH (uh u))), (0, .ref b), (1, .ref (a 0)), (2, .ref (mo 0)), (3, .ref o), (4, .int (nI i))]) hx hb dL_law_1076 hl (by decide) rfl (fun ls hl => ?_)
  refine lv_aload_n hx hb dL_law_1078 rfl (lv_at hl 3 rfl) ?_
  refine law_cMd (As := []) (rest := []) (ex := 0) (mc := 0) (ms := 0) hP hD hS hK S9 (mX3_mean l D cy H.size mo u th hI.1) (cwV 0 hts gW_X3_mean rfl rfl rfl (by decide +kernel) ⟨Nat.le_of_ble_eq_true rfl, Nat.le_of_ble_eq_true rfl⟩) (law_pV1 hK) rfl rfl hl.1 (Nat.le_of_ble_eq_true rfl) dL_law_1079 ⟨by omega, by omega⟩ (fun r9 v9 H locs h3 h4 hP hD hS => ?_)
  obtain ⟨e8, e9⟩ := h3 rfl
  rw [e9] at hP hD
  subst e8
  refine lv_dstore (lv' := [(7, .double (meanH (uh u))), (5, .double (meanH (uh u))), (0, .ref b), (1, .ref (a 0)), (2, .ref (mo 0)), (3, .ref o), (4, .int (nI i))]) hx hb dL_law_1082 hl (by decide) rfl (fun ls hl => ?_)
  refine lv_dload hx hb dL_law_1084 (lv_at hl 1 rfl) ?_
  refine lv_dload hx hb dL_law_1086 (lv_at hl 0 rfl) ?_
  refine lv_dcmp hx hb dL_law_1088 ?_
  refine lv_if_eq (tgt := 1110) hx hb dL_law_1089 (by decide) (fun c9 => ?_) (fun c9 => ?_)
  · refine lv_goto (tgt := 1127) hx hb dL_law_1110 (by decide) ?_
    refine W.widen (k := C + 9) (n := S + 112) (by omega) (by omega) ?_
    exact kk u g _ f H locs ls (IJ_stay hI) hP hD hS (lv_sub hl [2, 3, 4, 5, 6] rfl)
  · refine lv_dload hx hb dL_law_1092 (lv_at hl 1 rfl) ?_
    refine lv_dload hx hb dL_law_1094 (lv_at hl 1 rfl) ?_
    refine lv_dcmp hx hb dL_law_1096 ?_
    refine lv_if_eq (tgt := 1108) hx hb dL_law_1097 (by decide) (fun c8 => absurd c8 c9) (fun c8 => ?_)
    refine lv_dload hx hb dL_law_1100 (lv_at hl 0 rfl) ?_
    refine lv_dload hx hb dL_law_1102 (lv_at hl 0 rfl) ?_
    refine lv_dcmp hx hb dL_law_1104 ?_
    refine lv_if_ne (tgt := 1110) hx hb dL_law_1105 (by decide) (fun c7 => ?_) (fun c7 => absurd c7 c9)
    refine lv_goto (tgt := 1127) hx hb dL_law_1110 (by decide) ?_
    refine W.widen (k := C + 9) (n := S + 112) (by omega) (by omega) ?_
    exact kk u g _ f H locs ls (IJ_stay hI) hP hD hS (lv_sub hl [2, 3, 4, 5, 6] rfl)
set_option maxHeartbeats 4000000 in
set_option maxRecDepth 100000 in
theorem law_k16 {p : Program} {l : Launch} {e : Env} {s : State} {m : MethodId} {below : List Frame} {meth : Method} {c : Code} {Q : State → Prop} {b L : Nat} {xs : Nat → Int32} {D : va_G} {cy : Nat → ClassId} {a q q2 ca ta mo : Nat → Nat} {o i k C S : Nat} (X : LX p l s m meth c b L xs D cy) (hi : i + 6 ≤ L) (hk : k < 600) (hC : C + 9 ≤ 601024) (hT : S + 112 ≤ 7293034) (kk : LK p l e s m below meth c Q b D cy a q q2 ca ta mo o i (k + 1) (C + 9) (S + 112) 1127) : LK p l e s m below meth c Q b D cy a q q2 ca ta mo o i k C S 1113 := by
  obtain ⟨⟨hx, hb, hr, hml, hown, hts, hX, hbl, hlocks, hgv⟩, hL, hst, hK, hKP, hXc, hNc⟩ := X
  have hb : c.code = cL_law := hb
  intro u g th f H locs ls hI hP hD hS hl
  have S9 : CallFix p m c cL_law 9 s #[Value.ref b] lw_tbl RL := ⟨hx, hb, hml, hown, hts⟩
  refine lv_aload_n hx hb dL_law_1113 rfl (lv_at hl 1 rfl) ?_
  refine law_dig hP hK S9 hI.1 gW_X2_digest hl.1 ⟨by omega, by omega⟩ dL_law_1114 ?_
  refine lv_aload_n hx hb dL_law_1117 rfl (lv_at hl 2 rfl) ?_
  refine law_cMl (As := []) (rest := [.long (digU u)]) (ex := 0) (mc := 0) (ms := 0) hP hD hS hK S9 (mX3_digest l D cy H.size mo u th hI.1) (cwV 0 hts gW_X3_digest rfl rfl rfl (by decide +kernel) ⟨Nat.le_of_ble_eq_true rfl, Nat.le_of_ble_eq_true rfl⟩) (law_pV1 hK) rfl rfl hl.1 (Nat.le_of_ble_eq_true rfl) dL_law_1118 ⟨by omega, by omega⟩ (fun r9 v9 H locs h3 h4 hP hD hS => ?_)
  obtain ⟨e8, e9⟩ := h3 rfl
  rw [e9] at hP hD
  refine pc_topl e8 ?_
  refine W.lcmp hx hb dL_law_1121 ?_
  refine pc_top (lg_same _) ?_
  refine lv_if_eq (tgt := 1127) hx hb dL_law_1122 (by decide) (fun c8 => ?_) (fun c8 => absurd rfl c8)
  refine W.widen (k := C + 9) (n := S + 112) (by omega) (by omega) ?_
  exact kk u g _ f H locs ls (IJ_stay hI) hP hD hS (lv_sub hl [0, 1, 2, 3, 4] rfl)
