/-! the reference's ways over the board: its rows and columns in its own numbers, the square that lies j steps off, tables by decision -/
def td_rw (w : Int32) : Int32 := if w < 3 then -1 else if w < 5 then 0 else 1
def td_cw (w : Int32) : Int32 := if w = 0 ∨ w = 3 ∨ w = 5 then -1 else if w = 1 ∨ w = 6 then 0 else 1
def td_on8 (r c : Int32) : Bool := decide (¬ r < 0) && decide (r < 8) && decide (¬ c < 0) && decide (c < 8)
theorem td_on8_iff (r c : Int32) : td_on8 r c = true ↔ (¬ r < 0 ∧ r < 8 ∧ ¬ c < 0 ∧ c < 8) := by
  simp only [td_on8, Bool.and_eq_true, decide_eq_true_eq, and_assoc]
def td_r (w s : Nat) : Nat → Int32
  | 0 => nI s / 8
  | j + 1 => td_r w s j + td_rw (nI w)
def td_c (w s : Nat) : Nat → Int32
  | 0 => nI s - nI s / 8 * 8
  | j + 1 => td_c w s j + td_cw (nI w)
/-- the square j steps off in way w; 64 where that is off the board -/
def td_ps (w s j : Nat) : Nat := if td_on8 (td_r w s j) (td_c w s j) then (8 * td_r w s j + td_c w s j).toNatClampNeg else 64
def td_geo1 (w s j : Nat) : Bool := !(td_on8 (td_r w s j) (td_c w s j)) || (decide (td_ps w s j < 64) && decide (td_r w s j = nI (td_ps w s j / 8)) && decide (td_c w s j = nI (td_ps w s j % 8)) && decide (nI s + nI j * (8 * td_rw (nI w) + td_cw (nI w)) = nI (td_ps w s j)))
theorem td_geo1_all : ((List.range 8).all fun w => (List.range 64).all fun s => (List.range 9).all fun j => td_geo1 w s j) = true := by decide +kernel
theorem td_geo8_all : ((List.range 8).all fun w => (List.range 64).all fun s => decide (td_ps w s 8 = 64)) = true := by decide +kernel
theorem td_all3 {P : Nat → Nat → Nat → Bool} {a b c : Nat} (h : ((List.range a).all fun w => (List.range b).all fun s => (List.range c).all fun j => P w s j) = true) {w s j : Nat} (hw : w < a) (hs : s < b) (hj : j < c) : P w s j = true := by
  have h1 := List.all_eq_true.mp h w (List.mem_range.mpr hw)
  have h2 := List.all_eq_true.mp h1 s (List.mem_range.mpr hs)
  exact List.all_eq_true.mp h2 j (List.mem_range.mpr hj)
theorem td_all2 {P : Nat → Nat → Bool} {a b : Nat} (h : ((List.range a).all fun w => (List.range b).all fun s => P w s) = true) {w s : Nat} (hw : w < a) (hs : s < b) : P w s = true := by
  have h1 := List.all_eq_true.mp h w (List.mem_range.mpr hw)
  exact List.all_eq_true.mp h1 s (List.mem_range.mpr hs)
theorem td_geo {w s j : Nat} (hw : w < 8) (hs : s < 64) (hj : j < 9) (h : td_on8 (td_r w s j) (td_c w s j) = true) : td_ps w s j < 64 ∧ td_r w s j = nI (td_ps w s j / 8) ∧ td_c w s j = nI (td_ps w s j % 8) ∧ nI s + nI j * (8 * td_rw (nI w) + td_cw (nI w)) = nI (td_ps w s j) := by
  have h1 := td_all3 td_geo1_all hw hs hj
  simp only [td_geo1, h, Bool.not_true, Bool.false_or, Bool.and_eq_true, decide_eq_true_eq, and_assoc] at h1
  exact h1
theorem td_on_ps {w s j : Nat} (h : td_ps w s j < 64) : td_on8 (td_r w s j) (td_c w s j) = true := by
  unfold td_ps at h
  by_cases hc : td_on8 (td_r w s j) (td_c w s j) = true
  · exact hc
  · rw [if_neg hc] at h; omega
theorem td_ps_on {w s j : Nat} (hw : w < 8) (hs : s < 64) (hj : j < 9) : td_on8 (td_r w s j) (td_c w s j) = true ↔ td_ps w s j < 64 := ⟨fun h => (td_geo hw hs hj h).1, td_on_ps⟩
theorem td_ps8 {w s : Nat} (hw : w < 8) (hs : s < 64) : td_ps w s 8 = 64 := of_decide_eq_true (td_all2 td_geo8_all hw hs)
/-- how many in a row from step j on hold v -/
def td_cnt (g : Nat → Int32) (v : Int32) (w s : Nat) : Nat → Nat → Nat
  | 0, j => j
  | f + 1, j => if td_ps w s (j + 1) < 64 ∧ g (td_ps w s (j + 1)) = v then td_cnt g v w s f (j + 1) else j
theorem td_cnt_ge (g : Nat → Int32) (v : Int32) (w s : Nat) : ∀ f j, j ≤ td_cnt g v w s f j
  | 0, j => Nat.le_refl _
  | f + 1, j => by
    unfold td_cnt
    by_cases h : td_ps w s (j + 1) < 64 ∧ g (td_ps w s (j + 1)) = v
    · rw [if_pos h]; exact Nat.le_trans (Nat.le_succ j) (td_cnt_ge g v w s f (j + 1))
    · rw [if_neg h]; exact Nat.le_refl _
theorem td_cnt_in (g : Nat → Int32) (v : Int32) (w s : Nat) : ∀ f j i, j < i → i ≤ td_cnt g v w s f j → td_ps w s i < 64 ∧ g (td_ps w s i) = v
  | 0, j, i, h1, h2 => by unfold td_cnt at h2; omega
  | f + 1, j, i, h1, h2 => by
    unfold td_cnt at h2
    by_cases h : td_ps w s (j + 1) < 64 ∧ g (td_ps w s (j + 1)) = v
    · rw [if_pos h] at h2
      by_cases hi : i = j + 1
      · rw [hi]; exact h
      · exact td_cnt_in g v w s f (j + 1) i (by omega) h2
    · rw [if_neg h] at h2; omega
theorem td_cnt_le {w s : Nat} (hw : w < 8) (hs : s < 64) (g : Nat → Int32) (v : Int32) (f : Nat) : td_cnt g v w s f 0 ≤ 7 := by
  by_cases h : td_cnt g v w s f 0 ≤ 7
  · exact h
  · have h1 := (td_cnt_in g v w s f 0 8 (by omega) (by omega)).1
    rw [td_ps8 hw hs] at h1
    omega
/-- behind the last of them something else lies (or the board's end), if there was fuel enough -/
theorem td_cnt_out {w s : Nat} (hw : w < 8) (hs : s < 64) (g : Nat → Int32) (v : Int32) : ∀ f j, j + f = 8 → ¬ (td_ps w s (td_cnt g v w s f j + 1) < 64 ∧ g (td_ps w s (td_cnt g v w s f j + 1)) = v) ∨ td_cnt g v w s f j = 8
  | 0, j, h => by right; unfold td_cnt; omega
  | f + 1, j, h => by
    unfold td_cnt
    by_cases hc : td_ps w s (j + 1) < 64 ∧ g (td_ps w s (j + 1)) = v
    · rw [if_pos hc]; exact td_cnt_out hw hs g v f (j + 1) (by omega)
    · rw [if_neg hc]; exact Or.inl hc
def td_al (g : Nat → Int32) (who : Int32) (w s : Nat) : Nat :=
  if td_ps w s (td_cnt g (2 - who) w s 8 0 + 1) < 64 ∧ g (td_ps w s (td_cnt g (2 - who) w s 8 0 + 1)) = who + 1 then td_cnt g (2 - who) w s 8 0 else 0
theorem td_al_le {w s : Nat} (hw : w < 8) (hs : s < 64) (g : Nat → Int32) (who : Int32) : td_al g who w s ≤ 7 := by
  unfold td_al
  by_cases h : td_ps w s (td_cnt g (2 - who) w s 8 0 + 1) < 64 ∧ g (td_ps w s (td_cnt g (2 - who) w s 8 0 + 1)) = who + 1
  · rw [if_pos h]; exact td_cnt_le hw hs g _ 8
  · rw [if_neg h]; omega
theorem td_al_in {w s : Nat} (g : Nat → Int32) (who : Int32) {j : Nat} (h0 : 0 < j) (h : j ≤ td_al g who w s) : td_ps w s j < 64 := by
  unfold td_al at h
  by_cases hc : td_ps w s (td_cnt g (2 - who) w s 8 0 + 1) < 64 ∧ g (td_ps w s (td_cnt g (2 - who) w s 8 0 + 1)) = who + 1
  · rw [if_pos hc] at h; exact (td_cnt_in g _ w s 8 0 j h0 h).1
  · rw [if_neg hc] at h; omega
def td_in (w s : Nat) : Nat → Int64 → Int64
  | 0, z => z
  | n + 1, z => td_in w s n z ||| td_lshl 1 (nI (td_ps w s (n + 1)))
def td_fw (g : Nat → Int32) (who : Int32) (s : Nat) : Nat → Int64
  | 0 => 0
  | w + 1 => td_in w s (td_al g who w s) (td_fw g who s w)
/-- what the reference says a disc of who on s turns -/
def td_fl (g : Nat → Int32) (who : Int32) (s : Nat) : Int64 := if g s = 0 then td_fw g who s 8 else 0
def td_cn (P : Nat → Bool) : Nat → Nat
  | 0 => 0
  | n + 1 => td_cn P n + (if P n then 1 else 0)
theorem td_cn_le (P : Nat → Bool) : ∀ n, td_cn P n ≤ n
  | 0 => Nat.le_refl _
  | n + 1 => by
    have := td_cn_le P n
    unfold td_cn
    by_cases h : P n = true
    · rw [if_pos h]; omega
    · rw [if_neg h]; omega
def td_mv (g : Nat → Int32) (who : Int32) : Nat := td_cn (fun s => decide (td_fl g who s ≠ 0)) 64
def td_dc (g : Nat → Int32) (who : Int32) : Nat := td_cn (fun s => decide (g s = who + 1)) 64
def td_ones (z : Int64) : Nat := td_cn (fun s => decide ((td_lshr z (nI s) &&& 1) = 1)) 64
def td_any (g : Nat → Int32) (who : Int32) (s : Nat) : Bool := decide (g s = 0) && (List.range 8).any (fun w => decide (0 < td_al g who w s))
/-- the board at a level -/
def td_lv (f : Nat → Int32) (L : Nat) : Nat → Int32 := fun i => f (64 * L + i)
