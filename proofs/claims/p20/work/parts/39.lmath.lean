/-! the law's own changes to the simulation, and what they keep -/
def sup (f : Nat → Nat) (k v : Nat) : Nat → Nat := fun i => if i = k then v else f i
def fup (F : Nat → Nat → Int32) (k : Nat) (f : Nat → Int32) : Nat → Nat → Int32 := fun i => if i = k then f else F i
section SETW
variable {D : va_G} {cl : List vw_C} {P M Q : va_W} {H : Heap} {A : Nat → Prop} {x : Nat × va_E} {k : Nat}
theorem set_cut (hk : k < M.length) : M = M.take k ++ (M[k] :: M.drop (k + 1)) ∧ M.set k x = M.take k ++ (x :: M.drop (k + 1)) := by
  refine ⟨?_, ?_⟩
  · rw [List.getElem_cons_drop, List.take_append_drop]
  · rw [List.set_eq_take_append_cons_drop, if_pos hk]
theorem pM_setP (hk : k < M.length) (h : va_P D cl (x :: (P ++ (M ++ Q))) H) : va_P D cl (P ++ (M.set k x ++ Q)) H := by
  obtain ⟨e1, e2⟩ := set_cut (x := x) hk
  rw [e2]
  have e3 : P ++ (M ++ Q) = (P ++ M.take k) ++ (M[k] :: (M.drop (k + 1) ++ Q)) := by
    conv => lhs; rw [e1]
    simp only [List.append_assoc, List.cons_append]
  rw [e3] at h
  have := pM_forP h
  simpa only [List.append_assoc, List.cons_append] using this
theorem pM_setD (hk : k < M.length) (h : va_D A (x :: (P ++ (M ++ Q)))) : va_D A (P ++ (M.set k x ++ Q)) := by
  obtain ⟨e1, e2⟩ := set_cut (x := x) hk
  rw [e2]
  have e3 : P ++ (M ++ Q) = (P ++ M.take k) ++ (M[k] :: (M.drop (k + 1) ++ Q)) := by
    conv => lhs; rw [e1]
    simp only [List.append_assoc, List.cons_append]
  rw [e3] at h
  have := pM_forD h
  simpa only [List.append_assoc, List.cons_append] using this
end SETW
theorem rows12_sup (cy : Nat → ClassId) (r : Nat → Nat) (n : Nat) (F : Nat → Nat → Int32) (q : Nat) (f : Nat → Int32) : ∀ k, k < 12 → (rows12 cy r n F).set k (q, .inl (cy 0, n, .inl f)) = rows12 cy (sup r k q) n (fup F k f) := lt12 rfl rfl rfl rfl rfl rfl rfl rfl rfl rfl rfl rfl
/-- a new row takes the place of an old one -/
theorem row_swapP {D : va_G} {cl : List vw_C} {P Q : va_W} {H : Heap} {cy : Nat → ClassId} {r : Nat → Nat} {n q k : Nat} {F : Nat → Nat → Int32} {f : Nat → Int32} (hk : k < 12) (h : va_P D cl ([(q, .inl (cy 0, n, .inl f))] ++ (P ++ (rows12 cy r n F ++ Q))) H) : va_P D cl ([] ++ (P ++ (rows12 cy (sup r k q) n (fup F k f) ++ Q))) H := by
  rw [← rows12_sup cy r n F q f k hk]
  exact pM_setP (M := rows12 cy r n F) hk h
theorem row_swapD {A : Nat → Prop} {P Q : va_W} {cy : Nat → ClassId} {r : Nat → Nat} {n q k : Nat} {F : Nat → Nat → Int32} {f : Nat → Int32} (hk : k < 12) (h : va_D A ([(q, .inl (cy 0, n, .inl f))] ++ (P ++ (rows12 cy r n F ++ Q)))) : va_D A ([] ++ (P ++ (rows12 cy (sup r k q) n (fup F k f) ++ Q))) := by
  rw [← rows12_sup cy r n F q f k hk]
  exact pM_setD (M := rows12 cy r n F) hk h
theorem va_up_sup (st : Nat → Nat) (k v : Nat) : va_up (fun i => some (st i)) k (some v) = fun i => some (sup st k v i) := by
  funext i
  unfold va_up sup
  split <;> rfl
theorem lt6_cases {j : Nat} : j = 0 ∨ j = 1 ∨ j = 2 ∨ j = 3 ∨ j = 4 ∨ j = 5 ∨ ∃ z, j = z + 6 := by
  rcases Nat.lt_or_ge j 6 with z | z
  · omega
  · exact Or.inr (Or.inr (Or.inr (Or.inr (Or.inr (Or.inr ⟨j - 6, by omega⟩)))))
theorem rowRenew (h : HS) (k : Nat) (x : Int32) : fup (rowS h) k (upd (upd (upd (upd (upd (upd (fun _ => 0) 0 x) 1 (zw h k)) 2 0) 3 0) 4 1) 5 (zr h k)) = rowS (hRenew h k x) := by
  funext i j
  unfold fup
  by_cases hi : i = k
  · subst hi
    rw [if_pos rfl]
    rcases lt6_cases (j := j) with rfl | rfl | rfl | rfl | rfl | rfl | ⟨z, rfl⟩ <;> simp [upd, rowS, hRenew, zb, zw, zd, zs, zr, zo]
  · rw [if_neg hi]
    rcases lt6_cases (j := j) with rfl | rfl | rfl | rfl | rfl | rfl | ⟨z, rfl⟩ <;> simp [upd, rowS, hRenew, hi, zb, zw, zd, zs, zr, zo]
def cpF (ch : Nat → Nat) (k : Nat) : Nat → Option Nat := fun j => if j < k then some (ch j) else none
theorem cpF_0 (ch : Nat → Nat) : (fun _ => none) = cpF ch 0 := by
  funext j
  unfold cpF
  rw [if_neg (by omega)]
theorem cpF_s (ch : Nat → Nat) (k : Nat) : va_up (cpF ch k) k (some (ch k)) = cpF ch (k + 1) := by
  funext j
  unfold va_up
  by_cases z : j = k
  · subst z; rw [if_pos rfl]; unfold cpF; rw [if_pos (by omega)]
  · rw [if_neg z]; unfold cpF
    by_cases y : j < k
    · rw [if_pos y, if_pos (by omega)]
    · rw [if_neg y, if_neg (by omega)]
theorem cpF_end (ch : Nat → Nat) (k v : Nat) : ∀ j, j < k + 1 → va_up (cpF ch k) k (some v) j = some (sup ch k v j) := by
  intro j hj
  unfold va_up sup
  by_cases z : j = k
  · rw [if_pos z, if_pos z]
  · rw [if_neg z, if_neg z]; unfold cpF; rw [if_pos (by omega)]
theorem chT_new (cy : Nat → ClassId) (ch : Nat → Nat) (u : US) (q f s : Nat) (t0 t1 t2 t3 : Int32) : chT cy ch u ++ [(q, .inl (cy 0, s + 1, .inl (rowC (uCh u f s t0 t1 t2 t3) (un u))))] = chT cy (sup ch (un u) q) (uCh u f s t0 t1 t2 t3) := by
  unfold chT
  show _ = (List.range (un u + 1)).map _
  rw [List.range_succ, List.map_append]
  congr 1
  · refine List.map_congr_left (fun i hi => ?_)
    have hn : ¬ i = un u := by have := List.mem_range.mp hi; omega
    have e1 : uz (uCh u f s t0 t1 t2 t3) i = uz u i := if_neg hn
    have e2 : rowC (uCh u f s t0 t1 t2 t3) i = rowC u i := by
      funext j
      unfold rowC
      have e3 : ul (uCh u f s t0 t1 t2 t3) i = ul u i := if_neg hn
      have e4 : ut (uCh u f s t0 t1 t2 t3) i = ut u i := if_neg hn
      rw [e3, e4]
    have e5 : sup ch (un u) q i = ch i := if_neg hn
    rw [e1, e2, e5]
  · have e1 : uz (uCh u f s t0 t1 t2 t3) (un u) = s := if_pos rfl
    have e5 : sup ch (un u) q (un u) = q := if_pos rfl
    rw [List.map_singleton, e1, e5]
theorem isS_k {k : Nat} (hk : k < 12) : isS (nI k) = true := decide_eq_true ⟨Int32.not_lt.mpr (nI_pos' (by omega)), (nI_ltI (a := k) (b := 12) (by omega) (by decide)).mpr hk⟩
theorem isW_all : ∀ j, j < 9 → isW (nI j - 4) = true := by decide +kernel
theorem exPush_0 {u : US} {k j : Nat} (hk : k < 12) (hj : j < 9) (h0 : ¬ nI j - 4 = 0) (h1 : ¬ zw (uh u) k + (nI j - 4) < 0) (h2 : zw (uh u) k + (nI j - 4) ≤ 20) : exPush u (nI k) (nI j - 4) = 0 := by
  have h3 : fitsW (zw (uh u) (ix (nI k)) + (nI j - 4)) = true := by
    rw [ix_nI (by omega)]
    exact decide_eq_true ⟨h1, Int32.not_lt.mpr h2⟩
  unfold exPush
  rw [isS_k hk, isW_all j hj, if_neg (by decide), if_neg (by decide), if_neg h0, h3, if_neg (by decide)]
/-- as it is pushed where the wedge was out -/
theorem exPush_w {u : US} {k w : Nat} (hk : k < 12) (hw : w ≤ 20) (h0 : 0 < w) (hz : zw (uh u) k = 0) : exPush u (nI k) (nI w) = 0 := by
  have ha : ∀ w, w ≤ 20 → 0 < w → isW (nI w) = true ∧ ¬ nI w = 0 ∧ fitsW (0 + nI w) = true := by decide +kernel
  obtain ⟨g1, g2, g3⟩ := ha w hw h0
  unfold exPush
  rw [isS_k hk, g1, if_neg (by decide), if_neg (by decide), if_neg g2, ix_nI (by omega), hz, g3, if_neg (by decide)]
theorem exDraw_0 {k r : Nat} (hk : k < 12) (hr : r < 801) : exDraw (nI k) (nI (100 + r)) = 0 := by
  have h1 : isB (nI (100 + r)) = true := decide_eq_true ⟨Int32.not_lt.mpr ((nI_leI (a := 100) (b := 100 + r) (by decide) (by omega)).mpr (by omega)), (nI_leI (a := 100 + r) (b := 900) (by omega) (by decide)).mpr (by omega)⟩
  unfold exDraw
  rw [isS_k hk, h1]
  rfl
theorem exWea_0 {k w d : Nat} (hk : k < 12) (hw : w < 21) (hd : d < 10) : exWea (nI k) (nI w) (nI d) = 0 := by
  have h1 : isWi (nI w) = true := decide_eq_true ⟨Int32.not_lt.mpr (nI_pos' (by omega)), (nI_leI (a := w) (b := 20) (by omega) (by decide)).mpr (by omega)⟩
  have h2 : isDa (nI d) = true := decide_eq_true ⟨Int32.not_lt.mpr (nI_pos' (by omega)), (nI_leI (a := d) (b := 9) (by omega) (by decide)).mpr (by omega)⟩
  unfold exWea
  rw [isS_k hk, h1, h2]
  rfl
theorem isT_n {t : Nat} {lo : Nat} (h1 : lo ≤ t) (h2 : t ≤ 1500) : isT (nI t) (nI lo) = true := decide_eq_true ⟨Int32.not_lt.mpr ((nI_leI (a := lo) (b := t) (by omega) (by omega)).mpr h1), (nI_leI (a := t) (b := 1500) (by omega) (by decide)).mpr h2⟩
theorem nI_n0 {t : Nat} (h1 : 1 ≤ t) (h2 : t ≤ 1500) : ¬ nI t = 0 := fun e => by
  have := (nI_eq (a := t) (b := 0) (by omega) (by decide)).mp (e.trans nI_0.symm)
  omega
theorem chSz_2 : chSz 0 0 = 2 := rfl
theorem chSz_3 {t : Nat} (h1 : 1 ≤ t) (h2 : t ≤ 1500) : chSz (nI t) 0 = 3 := by unfold chSz; rw [if_neg (nI_n0 h1 h2)]; rfl
theorem chSz_4 {t w : Nat} (h1 : 1 ≤ t) (h2 : t ≤ 1500) (h3 : 1 ≤ w) (h4 : w ≤ 1500) : chSz (nI t) (nI w) = 4 := by unfold chSz; rw [if_neg (nI_n0 h1 h2), if_neg (nI_n0 h3 h4)]
theorem exCh_0 {u : US} {k t0 t1 t2 t3 : Nat} (hk : k < 12) (a1 : 1 ≤ t0) (a2 : t0 ≤ 1500) (b1 : 1 ≤ t1) (b2 : t1 ≤ 1500) (c2 : t2 ≤ 1500) (d2 : t3 ≤ 1500) (h23 : t2 = 0 → t3 = 0) (hs : k + chSz (nI t2) (nI t3) ≤ 12) (hn : un u < 6) : exCh u (nI k) (nI t0) (nI t1) (nI t2) (nI t3) = 0 := by
  have e1 : isT (nI t0) 1 = true := isT_n (lo := 1) a1 a2
  have e2 : isT (nI t1) 1 = true := isT_n (lo := 1) b1 b2
  have e3 : isT (nI t2) 0 = true := isT_n (lo := 0) (Nat.zero_le _) c2
  have e4 : isT (nI t3) 0 = true := isT_n (lo := 0) (Nat.zero_le _) d2
  have e5 : ¬ (nI t2 = 0 ∧ ¬ nI t3 = 0) := fun z => z.2 (by
    have := (nI_eq (a := t2) (b := 0) (by omega) (by decide)).mp (z.1.trans nI_0.symm)
    rw [h23 this]; exact nI_0)
  unfold exCh
  rw [isS_k hk, e1, e2, e3, e4, if_neg (by decide), if_neg (by decide), if_neg (by decide), if_neg (by decide), if_neg (by decide), if_neg e5, ix_nI (by omega), if_neg (by omega), if_neg (by omega)]
theorem INV_push {u : US} (I : INV u) {k : Nat} {x : Int32} (h1 : ¬ zw (uh u) k + x < 0) (h2 : zw (uh u) k + x ≤ 20) : INV (uH u (hPush (uh u) k x)) := by
  obtain ⟨i1, i2, i3, i4, i5⟩ := I
  refine ⟨i1, fun j hj => ?_, i3, i4, i5⟩
  obtain ⟨bb, ww, dd, ss, g1, g2, g3, g4, g5, g6, g7, g8, g9⟩ := i2 j hj
  by_cases e : j = k
  · subst e
    obtain ⟨n, hn, en⟩ := in_nat (N := 21) (k := zw (uh u) j + x) (by decide) h1 (by show _ < (21 : Int32); grind)
    exact ⟨bb, n, dd, ss, g1, by omega, g3, g4, g5, (show upd (zw (uh u)) j (zw (uh u) j + x) j = nI n from by rw [pk_us]; exact en), g7, g8, g9⟩
  · exact ⟨bb, ww, dd, ss, g1, g2, g3, g4, g5, (show upd (zw (uh u)) k (zw (uh u) k + x) j = nI ww from by rw [pk_un e]; exact g6), g7, g8, g9⟩
theorem INV_draw {u : US} (I : INV u) {k r : Nat} (hr : r < 801) : INV (uH u (hRenew (uh u) k (nI (100 + r)))) := by
  obtain ⟨⟨o1, o2⟩, i2, i3, i4, i5⟩ := I
  refine ⟨⟨fun j hj => ?_, o2⟩, fun j hj => ?_, i3, i4, i5⟩
  · show upd (zo (uh u)) k 1 j = 0 ∨ upd (zo (uh u)) k 1 j = 1
    by_cases e : j = k
    · subst e; rw [pk_us]; exact Or.inr rfl
    · rw [pk_un e]; exact o1 j hj
  obtain ⟨bb, ww, dd, ss, g1, g2, g3, g4, g5, g6, g7, g8, g9⟩ := i2 j hj
  by_cases e : j = k
  · subst e
    refine ⟨r, ww, 50, 0, by omega, g2, by omega, by omega, ?_, g6, ?_, ?_, fun z => ?_⟩
    · show upd (zb (uh u)) j _ j = _; rw [pk_us]
    · show upd (zd (uh u)) j 0 j = _; rw [pk_us]; rfl
    · show upd (zs (uh u)) j 0 j = _; rw [pk_us]; rfl
    · have z1 : upd (zo (uh u)) j 1 j = 0 := z
      rw [pk_us] at z1
      exact absurd z1 (by decide)
  · refine ⟨bb, ww, dd, ss, g1, g2, g3, g4, ?_, g6, ?_, ?_, fun z => ?_⟩
    · show upd (zb (uh u)) k _ j = _; rw [pk_un e]; exact g5
    · show upd (zd (uh u)) k 0 j = _; rw [pk_un e]; exact g7
    · show upd (zs (uh u)) k 0 j = _; rw [pk_un e]; exact g8
    · have z1 : upd (zo (uh u)) k 1 j = 0 := z
      rw [pk_un e] at z1
      refine ⟨?_, ?_⟩
      · show upd (zs (uh u)) k 0 j = 0; rw [pk_un e]; exact (g9 z1).1
      · show upd (zd (uh u)) k 0 j = 0; rw [pk_un e]; exact (g9 z1).2
theorem INV_wea {u : US} (I : INV u) {k w d : Nat} (hw : w < 21) (hd : d < 10) : INV (uWea u k (nI w) (nI d)) := by
  obtain ⟨i1, i2, i3, i4, i5⟩ := I
  refine ⟨i1, i2, i3, fun j hj => ?_, i5⟩
  obtain ⟨w2, d2, g1, g2, g3, g4⟩ := i4 j hj
  by_cases e : j = k
  · subst e
    exact ⟨w, d, by omega, by omega, pk_us, pk_us⟩
  · exact ⟨w2, d2, g1, g2, (pk_un e).trans g3, (pk_un e).trans g4⟩
theorem INV_chord {u : US} (I : INV u) {k s : Nat} {t0 t1 t2 t3 : Int32} (hs1 : 2 ≤ s) (hs2 : s ≤ 4) (hk : k + s ≤ 12) (hn : un u < 6) (ht : ∀ j, j < s → ∃ t, 1 ≤ t ∧ t ≤ 1500 ∧ upd (upd (upd (upd (ut u (un u)) 0 t0) 1 t1) 2 t2) 3 t3 j = nI t) : INV (uCh u k s t0 t1 t2 t3) := by
  obtain ⟨⟨o1, o2, o3, o4, o5⟩, i2, i3, i4, i5⟩ := I
  refine ⟨⟨o1, show un u + 1 ≤ 6 by omega, fun j hj => ?_, fun j hj => ?_, o5⟩, i2, i3, i4, fun i hi j hj => ?_⟩
  · show (if j = un u then k else ul u j) + (if j = un u then s else uz u j) ≤ 12 ∧ (if j = un u then s else uz u j) ≤ 4
    by_cases e : j = un u
    · rw [if_pos e, if_pos e]; exact ⟨hk, hs2⟩
    · rw [if_neg e, if_neg e]; exact o3 j hj
  · have hj' : j < un u + 1 := hj
    show 2 ≤ (if j = un u then s else uz u j)
    by_cases e : j = un u
    · rw [if_pos e]; exact hs1
    · rw [if_neg e]; exact o4 j (by omega)
  · have hi' : i < un u + 1 := hi
    have hj' : j < (if i = un u then s else uz u i) := hj
    show ∃ t, 1 ≤ t ∧ t ≤ 1500 ∧ (if i = un u then upd (upd (upd (upd (ut u i) 0 t0) 1 t1) 2 t2) 3 t3 else ut u i) j = nI t
    by_cases e : i = un u
    · rw [if_pos e] at hj' ⊢
      rw [e]
      exact ht j hj'
    · rw [if_neg e] at hj' ⊢
      exact i5 i (by omega) j hj'
theorem part12 {g n : Nat → Int32} {k : Nat} (hk : k < 12) : part 0 12 g n k = n k := by unfold part; rw [if_pos (by omega)]
theorem in_50 {d : Int32} (h1 : -50 ≤ d) (h2 : d ≤ 50) : ∃ dd : Nat, dd ≤ 100 ∧ d = nI dd - 50 := by
  obtain ⟨n, hn, en⟩ := in_nat (N := 101) (k := d + 50) (by decide) (by grind) (by show _ < (101 : Int32); grind)
  exact ⟨n, by omega, by rw [← en]; grind⟩
theorem slipd_b {da s d : Int32} (h1 : -50 ≤ d) (h2 : d ≤ 50) : -50 ≤ slipd da s d ∧ slipd da s d ≤ 50 := by
  unfold slipd mn mx
  split
  · split
    · exact ⟨h1, h2⟩
    · split <;> grind
  · split <;> grind
theorem swell_b {da : Int32} {n : Nat} (h : n ≤ 30) : ∃ m, m ≤ 30 ∧ swell da (nI n) = nI m := by
  have ha : ∀ n, n ≤ 30 → (∃ m, m ≤ 30 ∧ mx 0 (nI n - 1) = nI m) ∧ (∃ m, m ≤ 30 ∧ mn 30 (nI n + 1) = nI m) := by
    intro n hn
    refine ⟨?_, ?_⟩
    · refine ⟨n - 1, by omega, ?_⟩
      have hb : ∀ n, n ≤ 30 → mx 0 (nI n - 1) = nI (n - 1) := by decide +kernel
      exact hb n hn
    · refine ⟨min 30 (n + 1), by omega, ?_⟩
      have hb : ∀ n, n ≤ 30 → mn 30 (nI n + 1) = nI (min 30 (n + 1)) := by decide +kernel
      exact hb n hn
  unfold swell
  split
  · exact (ha n h).1
  · exact (ha n h).2
theorem pull_0 (wi : Int32) (h : HS) (k : Nat) : ¬ pull wi h k < 0 := by
  unfold pull mx
  split <;> grind
theorem SR_hour {h : HS} {k : Nat} (hk : k < 12) (wi da : Int32) (r : SR h k) : SR (hHour 0 12 wi da h) k := by
  have rd := SR_d r
  obtain ⟨bb, ww, dd, ss, g1, g2, g3, g4, g5, g6, g7, g8, g9⟩ := r
  have eD : zd (hHour 0 12 wi da h) k = nD wi da h k := part12 hk
  have eS : zs (hHour 0 12 wi da h) k = nS wi h k := part12 hk
  have eO : zo (hHour 0 12 wi da h) k = nO wi h k := part12 hk
  by_cases hz : zo h k = 0
  · refine ⟨bb, ww, dd, ss, g1, g2, g3, g4, g5, g6, ?_, ?_, fun _ => ?_⟩
    · rw [eD]; unfold nD; rw [if_pos hz]; exact g7
    · rw [eS]; unfold nS; rw [if_pos hz]; exact g8
    · rw [eD, eS]; unfold nD nS; rw [if_pos hz, if_pos hz]; exact g9 hz
  · by_cases hb : 100 < pull wi h k
    · refine ⟨bb, ww, 50, 0, g1, g2, by omega, by omega, g5, g6, ?_, ?_, fun _ => ?_⟩
      · rw [eD]; unfold nD; rw [if_neg hz, if_pos hb]; rfl
      · rw [eS]; unfold nS; rw [if_neg hz, if_pos hb]; rfl
      · rw [eD, eS]; unfold nD nS; rw [if_neg hz, if_pos hb, if_neg hz, if_pos hb]; exact ⟨rfl, rfl⟩
    · obtain ⟨n, hn, en⟩ := in_nat (N := 101) (k := pull wi h k) (by decide) (pull_0 wi h k) (by show _ < (101 : Int32); grind)
      have hsl := slipd_b (da := da) (s := pull wi h k) rd.1 rd.2
      obtain ⟨d2, hd2, ed2⟩ := in_50 hsl.1 hsl.2
      refine ⟨bb, ww, d2, n, g1, g2, hd2, by omega, g5, g6, ?_, ?_, fun z => ?_⟩
      · rw [eD]; unfold nD; rw [if_neg hz, if_neg hb]; exact ed2
      · rw [eS]; unfold nS; rw [if_neg hz, if_neg hb]; exact en
      · rw [eO] at z; unfold nO at z; rw [if_neg hz, if_neg hb] at z; exact absurd z hz
theorem INV_hour {u : US} (I : INV u) (hz : zh (uh u) < 999999999) : INV (uH u (hStep 0 12 (uw u) (ud u) (uh u))) := by
  obtain ⟨⟨o1, o2, o3, o4, o5⟩, i2, ⟨n, hn, en⟩, i4, i5⟩ := I
  refine ⟨⟨ok01_hHour o1, o2, o3, o4, show zh (uh u) + 1 < 1000000000 by omega⟩, fun k hk => SR_hour hk _ _ (i2 k hk), ?_, i4, i5⟩
  obtain ⟨m, hm, em⟩ := swell_b (da := ud u (zh (uh u) % 12)) hn
  exact ⟨m, hm, (show swell (ud u (zh (uh u) % 12)) (zl (uh u)) = nI m from by rw [en]; exact em)⟩
theorem INV_new : INV uNew := by
  refine ⟨⟨fun k _ => Or.inr rfl, Nat.zero_le _, fun i _ => ⟨Nat.zero_le _, Nat.zero_le _⟩, fun i h => absurd h (Nat.not_lt_zero _), by decide⟩, fun k hk => ⟨200 + 20 * k, 0, 50, 0, by omega, by omega, by omega, by omega, ?_, rfl, rfl, rfl, fun z => absurd z (show ¬ (1 : Int32) = 0 by decide)⟩, ⟨0, by omega, rfl⟩, fun k _ => ⟨0, 0, by omega, by omega, rfl, rfl⟩, fun i h => absurd h (Nat.not_lt_zero _)⟩
  show nI (300 + 20 * k) = nI (100 + (200 + 20 * k))
  rw [show 300 + 20 * k = 100 + (200 + 20 * k) by omega]
/-- the tone that a chord is told: near the string's own -/
theorem made_b {t r c : Nat} (ht : t ≤ 1270) (hr : r < 61) (hc : c ≤ 30) : ∃ v : Nat, 1 ≤ v ∧ v ≤ 1500 ∧ mx 1 (nI t + nI r - nI c) = nI v := by
  have h1 : nI t ≤ 1270 := (nI_leI (a := t) (b := 1270) (by omega) (by decide)).mpr ht
  have h2 : (0 : Int32) ≤ nI t := nI_pos' (by omega)
  have h3 : nI r ≤ 60 := (nI_leI (a := r) (b := 60) (by omega) (by decide)).mpr (by omega)
  have h4 : (0 : Int32) ≤ nI r := nI_pos' (by omega)
  have h5 : nI c ≤ 30 := (nI_leI (a := c) (b := 30) (by omega) (by decide)).mpr hc
  have h6 : (0 : Int32) ≤ nI c := nI_pos' (by omega)
  have h7 : 1 ≤ mx 1 (nI t + nI r - nI c) ∧ mx 1 (nI t + nI r - nI c) ≤ 1500 := by
    generalize nI t = x at h1 h2
    generalize nI r = y at h3 h4
    generalize nI c = z at h5 h6
    unfold mx
    split <;> grind
  obtain ⟨n, hn, en⟩ := in_nat (N := 1501) (k := mx 1 (nI t + nI r - nI c)) (by decide) (by grind) (by show _ < (1501 : Int32); grind)
  refine ⟨n, ?_, by omega, en⟩
  rw [en] at h7
  have := (nI_leI (a := 1) (b := n) (by decide) (by omega)).mp h7.1
  omega
