/-! the reference as it is made -/
def hI (k : Nat) : HS := (fun j => if j < k then nI (300 + 20 * j) else 0, fun _ => 0, fun _ => 0, fun _ => 0, fun _ => 0, fun j => if j < k then 1 else 0, 0, 0)
def uI (k : Nat) : US := (hI k, fun _ => 0, fun _ => 0, 0, fun _ => 0, fun _ => 0, fun _ _ => 0)
theorem hI_step (k : Nat) : putH (putH (hI k) k 0 (nI (300 + 20 * k))) k 4 1 = hI (k + 1) := by
  have e1 : upd (fun j => if j < k then nI (300 + 20 * j) else 0) k (nI (300 + 20 * k)) = fun j => if j < k + 1 then nI (300 + 20 * j) else 0 := by
    funext j
    by_cases h : j = k
    · subst h; rw [pk_us, if_pos (by omega)]
    · rw [pk_un h]
      by_cases h2 : j < k
      · rw [if_pos h2, if_pos (by omega)]
      · rw [if_neg h2, if_neg (by omega)]
  have e2 : upd (fun j => if j < k then (1 : Int32) else 0) k 1 = fun j => if j < k + 1 then (1 : Int32) else 0 := by
    funext j
    by_cases h : j = k
    · subst h; rw [pk_us, if_pos (by omega)]
    · rw [pk_un h]
      by_cases h2 : j < k
      · rw [if_pos h2, if_pos (by omega)]
      · rw [if_neg h2, if_neg (by omega)]
  show (upd (fun j => if j < k then nI (300 + 20 * j) else 0) k (nI (300 + 20 * k)), (fun _ => 0), (fun _ => 0), (fun _ => 0), (fun _ => 0), upd (fun j => if j < k then (1 : Int32) else 0) k 1, 0, 0) = hI (k + 1)
  rw [e1, e2]
  rfl
theorem mh_r (h : HS) (j : Nat) : mh h j = haF h (j / 6) (j % 6) := by
  have hr : j = 6 * (j / 6) + j % 6 := by omega
  have h6 : j % 6 < 6 := by omega
  rw [← mh_at h (j / 6) h6, ← hr]
theorem mh_0 (j : Nat) : (0 : Int32) = mh (hI 0) j := by
  rw [mh_r]
  generalize j / 6 = a
  have h6 : j % 6 < 6 := by omega
  generalize j % 6 = r at h6
  rcases (show r = 0 ∨ r = 1 ∨ r = 2 ∨ r = 3 ∨ r = 4 ∨ r = 5 by omega) with rfl | rfl | rfl | rfl | rfl | rfl <;> simp [haF, hI, zb, zw, zd, zs, zr, zo]
theorem mh_12 {j : Nat} (hj : j < 72) : mh (hI 12) j = mh hNew j := by
  rw [mh_r, mh_r]
  have ha : j / 6 < 12 := by omega
  generalize j / 6 = a at ha
  have h6 : j % 6 < 6 := by omega
  generalize j % 6 = r at h6
  rcases (show r = 0 ∨ r = 1 ∨ r = 2 ∨ r = 3 ∨ r = 4 ∨ r = 5 by omega) with rfl | rfl | rfl | rfl | rfl | rfl <;> simp [haF, hI, hNew, ha, zb, zw, zd, zs, zr, zo]
theorem mt_0 (j : Nat) : (0 : Int32) = mt (fun _ => 0) (fun _ => 0) (fun _ _ => 0) j := by
  have hr : j = 6 * (j / 6) + j % 6 := by omega
  have h6 : j % 6 < 6 := by omega
  generalize j / 6 = a at hr
  generalize j % 6 = r at hr h6
  subst hr
  rw [mt_at _ _ _ _ h6]
  rcases (show r = 0 ∨ r = 1 ∨ r = 2 ∨ r = 3 ∨ r = 4 ∨ r = 5 by omega) with rfl | rfl | rfl | rfl | rfl | rfl <;> rfl
theorem mb_0 {j : Nat} (hj : j < 2) : (0 : Int32) = mb (hI 0) j := by
  unfold mb
  split <;> rfl
theorem mb_12 {j : Nat} (hj : j < 2) : mb (hI 12) j = mb hNew j := by
  unfold mb
  split <;> rfl
