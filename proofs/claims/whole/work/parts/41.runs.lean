/-! runs along a way: the class's shifts against the reference's steps -/
def td_innB (i : Nat) : Bool := !(i % 8 == 0) && !(i % 8 == 7)
def td_okw (w i : Nat) : Bool := td_innB i || (w == 1 || w == 6)
def td_g2 (w s j : Nat) : Bool := if td_ps w s 1 < 64 then td_ps w (td_ps w s 1) j == td_ps w s (j + 1) else td_ps w s (j + 1) == 64
def td_g3 (w s j : Nat) : Bool := !(decide (td_ps w s j < 64)) || ((td_ps (7 - w) (td_ps w s j) j == s) && (td_ps w (td_ps w s j) 1 == td_ps w s (j + 1)) && (List.range (j + 1)).all (fun t => td_ps (7 - w) (td_ps w s j) t == td_ps w s (j - t)))
def td_g5 (w s j : Nat) : Bool := !(decide (td_ps w s (j + 2) < 64)) || (td_okw w (td_ps w s (j + 1)) && decide (td_ps w s (j + 1) < 64))
theorem td_g2_all : ((List.range 8).all fun w => (List.range 64).all fun s => (List.range 8).all fun j => td_g2 w s j) = true := by decide +kernel
theorem td_g3_all : ((List.range 8).all fun w => (List.range 64).all fun s => (List.range 8).all fun j => td_g3 w s j) = true := by decide +kernel
theorem td_g5_all : ((List.range 8).all fun w => (List.range 64).all fun s => (List.range 8).all fun j => td_g5 w s j) = true := by decide +kernel
theorem td_ps0_all : ((List.range 8).all fun w => (List.range 64).all fun s => td_ps w s 0 == s) = true := by decide +kernel
theorem td_ps_0 {w s : Nat} (hw : w < 8) (hs : s < 64) : td_ps w s 0 = s := by simpa using td_all2 td_ps0_all hw hs
theorem td_ps_1s {w s j : Nat} (hw : w < 8) (hs : s < 64) (hj : j < 8) (h : td_ps w s 1 < 64) : td_ps w (td_ps w s 1) j = td_ps w s (j + 1) := by
  have h1 := td_all3 td_g2_all hw hs hj
  unfold td_g2 at h1
  rw [if_pos h] at h1
  simpa using h1
theorem td_ps_off {w s j : Nat} (hw : w < 8) (hs : s < 64) (hj : j < 8) (h : ¬ td_ps w s 1 < 64) : td_ps w s (j + 1) = 64 := by
  have h1 := td_all3 td_g2_all hw hs hj
  unfold td_g2 at h1
  rw [if_neg h] at h1
  simpa using h1
theorem td_ps_rev {w s j : Nat} (hw : w < 8) (hs : s < 64) (hj : j < 8) (h : td_ps w s j < 64) : td_ps (7 - w) (td_ps w s j) j = s ∧ td_ps w (td_ps w s j) 1 = td_ps w s (j + 1) ∧ ∀ t, t ≤ j → td_ps (7 - w) (td_ps w s j) t = td_ps w s (j - t) := by
  have h1 := td_all3 td_g3_all hw hs hj
  unfold td_g3 at h1
  simp only [h, decide_true, Bool.not_true, Bool.false_or, Bool.and_eq_true, beq_iff_eq, List.all_eq_true, List.mem_range] at h1
  exact ⟨h1.1.1, h1.1.2, fun t ht => h1.2 t (by omega)⟩
theorem td_ps_inn {w s j : Nat} (hw : w < 8) (hs : s < 64) (hj : j < 8) (h : td_ps w s (j + 2) < 64) : td_okw w (td_ps w s (j + 1)) = true ∧ td_ps w s (j + 1) < 64 := by
  have h1 := td_all3 td_g5_all hw hs hj
  unfold td_g5 at h1
  simp only [h, decide_true, Bool.not_true, Bool.false_or, Bool.and_eq_true, decide_eq_true_eq] at h1
  exact h1
/-- the board's edge is passed once -/
theorem td_ps_down {w s j : Nat} (hw : w < 8) (hs : s < 64) (hj : j < 8) (h : td_ps w s (j + 1) < 64) : td_ps w s j < 64 := by
  by_cases h0 : j = 0
  · rw [h0, td_ps_0 hw hs]; exact hs
  · obtain ⟨k, rfl⟩ : ∃ k, j = k + 1 := ⟨j - 1, by omega⟩
    exact (td_ps_inn hw hs (show k < 8 by omega) h).2
/-- the run: squares reached from f over y, one step more each time; pre: the square before -/
def td_rr (pre : Nat → Nat) (f y : Nat → Bool) : Nat → Nat → Bool
  | 0, i => y i && f (pre i)
  | n + 1, i => td_rr pre f y n i || (y i && td_rr pre f y n (pre i))
theorem td_rr_y (pre : Nat → Nat) (f y : Nat → Bool) : ∀ n i, td_rr pre f y n i = true → y i = true
  | 0, i, h => by unfold td_rr at h; rw [Bool.and_eq_true] at h; exact h.1
  | n + 1, i, h => by
    unfold td_rr at h
    rw [Bool.or_eq_true, Bool.and_eq_true] at h
    exact h.elim (td_rr_y pre f y n i) (fun z => z.1)
theorem td_rr_iff {w : Nat} (hw : w < 8) (f y : Nat → Bool) (hy : y 64 = false) (hf : f 64 = false) : ∀ n i, n ≤ 5 → i < 64 → (td_rr (fun k => td_ps (7 - w) k 1) f y n i = true ↔ ∃ j, 0 < j ∧ j ≤ n + 1 ∧ f (td_ps (7 - w) i j) = true ∧ ∀ t, t < j → y (td_ps (7 - w) i t) = true)
  | 0, i, _, hi => by
    unfold td_rr
    rw [Bool.and_eq_true]
    constructor
    · intro h
      refine ⟨1, by omega, by omega, h.2, fun t ht => ?_⟩
      rw [show t = 0 by omega, td_ps_0 (by omega) hi]; exact h.1
    · rintro ⟨j, h0, h1, h2, h3⟩
      have hj : j = 1 := by omega
      subst hj
      have h4 := h3 0 (by omega)
      rw [td_ps_0 (by omega) hi] at h4
      exact ⟨h4, h2⟩
  | n + 1, i, hn, hi => by
    have ih := td_rr_iff hw f y hy hf n
    unfold td_rr
    rw [Bool.or_eq_true, Bool.and_eq_true]
    constructor
    · rintro (h | ⟨h1, h2⟩)
      · obtain ⟨j, a1, a2, a3, a4⟩ := (ih i (by omega) hi).mp h
        exact ⟨j, a1, by omega, a3, a4⟩
      · have hp : td_ps (7 - w) i 1 < 64 := by
          by_cases hc : td_ps (7 - w) i 1 < 64
          · exact hc
          · have e1 : td_ps (7 - w) i 1 = 64 := td_ps_off (j := 0) (by omega) hi (by omega) hc
            rw [e1] at h2
            have := td_rr_y _ f y n 64 h2
            rw [hy] at this; cases this
        obtain ⟨j, a1, a2, a3, a4⟩ := (ih _ (by omega) hp).mp h2
        rw [td_ps_1s (by omega) hi (by omega) hp] at a3
        refine ⟨j + 1, by omega, by omega, a3, fun t ht => ?_⟩
        cases t with
        | zero => rw [td_ps_0 (by omega) hi]; exact h1
        | succ t => rw [← td_ps_1s (by omega) hi (by omega) hp]; exact a4 t (by omega)
    · rintro ⟨j, a1, a2, a3, a4⟩
      by_cases hj : j ≤ n + 1
      · exact Or.inl ((ih i (by omega) hi).mpr ⟨j, a1, hj, a3, a4⟩)
      · have hj2 : j = n + 2 := by omega
        subst hj2
        have h0 := a4 0 (by omega)
        rw [td_ps_0 (by omega) hi] at h0
        have h1 := a4 1 (by omega)
        have hp : td_ps (7 - w) i 1 < 64 := by
          by_cases hc : td_ps (7 - w) i 1 < 64
          · exact hc
          · rw [td_ps_off (j := 0) (by omega) hi (by omega) hc, hy] at h1; cases h1
        refine Or.inr ⟨h0, (ih _ (by omega) hp).mpr ⟨n + 1, by omega, by omega, ?_, fun t ht => ?_⟩⟩
        · rw [td_ps_1s (by omega) hi (by omega) hp]; exact a3
        · rw [td_ps_1s (by omega) hi (by omega) hp]; exact a4 (t + 1) (by omega)
/-- which way a shift goes: up ways 4, 6, 7, 5 by 1, 8, 9, 7; the others are their reverse -/
def td_sh (w : Nat) : Nat := if w = 4 ∨ w = 3 then 1 else if w = 6 ∨ w = 1 then 8 else if w = 7 ∨ w = 0 then 9 else 7
def td_upw (w : Nat) : Bool := (w == 4 || w == 6) || (w == 7 || w == 5)
def td_g4 (w i : Nat) : Bool := !(td_okw w i) || (if td_upw w then ((if td_sh w ≤ i then td_ps (7 - w) i 1 == i - td_sh w else td_ps (7 - w) i 1 == 64) && (if i + td_sh w < 64 then td_ps w i 1 == i + td_sh w else td_ps w i 1 == 64)) else ((if td_sh w ≤ i then td_ps w i 1 == i - td_sh w else td_ps w i 1 == 64) && (if i + td_sh w < 64 then td_ps (7 - w) i 1 == i + td_sh w else td_ps (7 - w) i 1 == 64)))
theorem td_g4_all : ((List.range 8).all fun w => (List.range 64).all fun i => td_g4 w i) = true := by decide +kernel
theorem td_g4_up {w i : Nat} (hw : w < 8) (hi : i < 64) (hu : td_upw w = true) (ho : td_okw w i = true) : td_ps (7 - w) i 1 = (if td_sh w ≤ i then i - td_sh w else 64) ∧ td_ps w i 1 = (if i + td_sh w < 64 then i + td_sh w else 64) := by
  have h1 := td_all2 td_g4_all hw hi
  unfold td_g4 at h1
  rw [ho, Bool.not_true, Bool.false_or, if_pos hu, Bool.and_eq_true] at h1
  constructor
  · by_cases h : td_sh w ≤ i
    · rw [if_pos h]; rw [if_pos h] at h1; simpa using h1.1
    · rw [if_neg h]; rw [if_neg h] at h1; simpa using h1.1
  · by_cases h : i + td_sh w < 64
    · rw [if_pos h]; rw [if_pos h] at h1; simpa using h1.2
    · rw [if_neg h]; rw [if_neg h] at h1; simpa using h1.2
theorem td_g4_dn {w i : Nat} (hw : w < 8) (hi : i < 64) (hu : td_upw w = false) (ho : td_okw w i = true) : td_ps w i 1 = (if td_sh w ≤ i then i - td_sh w else 64) ∧ td_ps (7 - w) i 1 = (if i + td_sh w < 64 then i + td_sh w else 64) := by
  have h1 := td_all2 td_g4_all hw hi
  unfold td_g4 at h1
  rw [ho, Bool.not_true, Bool.false_or, if_neg (by rw [hu]; decide), Bool.and_eq_true] at h1
  constructor
  · by_cases h : td_sh w ≤ i
    · rw [if_pos h]; rw [if_pos h] at h1; simpa using h1.1
    · rw [if_neg h]; rw [if_neg h] at h1; simpa using h1.1
  · by_cases h : i + td_sh w < 64
    · rw [if_pos h]; rw [if_pos h] at h1; simpa using h1.2
    · rw [if_neg h]; rw [if_neg h] at h1; simpa using h1.2
theorem td_sh_lt (w : Nat) : td_sh w < 64 := by
  unfold td_sh
  by_cases h1 : w = 4 ∨ w = 3
  · rw [if_pos h1]; omega
  · rw [if_neg h1]
    by_cases h2 : w = 6 ∨ w = 1
    · rw [if_pos h2]; omega
    · rw [if_neg h2]
      by_cases h3 : w = 7 ∨ w = 0
      · rw [if_pos h3]; omega
      · rw [if_neg h3]; omega
/-- a step of the class's run in way w, on squares of y that may be passed -/
def td_stp (w : Nat) (x : Int64) : Int64 := if td_upw w then td_lshl x (nI (td_sh w)) else td_lushr x (nI (td_sh w))
theorem td_stp_bl {w : Nat} (hw : w < 8) (x : Int64) {i : Nat} (hi : i < 64) (ho : td_okw w i = true) : bl (td_stp w x) i = bl x (td_ps (7 - w) i 1) := by
  unfold td_stp
  by_cases hu : td_upw w = true
  · rw [if_pos hu, bl_shl x (td_sh_lt w), (td_g4_up hw hi hu ho).1]
    by_cases h : td_sh w ≤ i
    · simp [hi, h]
    · simp [hi, h, bl_ge (x := x) (Nat.le_refl 64)]
  · have hu2 : td_upw w = false := by cases hh : td_upw w; rfl; exact absurd hh hu
    rw [if_neg hu, bl_ushr x (td_sh_lt w), (td_g4_dn hw hi hu2 ho).2]
    by_cases h : i + td_sh w < 64
    · rw [if_pos h, Nat.add_comm]
    · rw [if_neg h, bl_ge (by omega), bl_ge (Nat.le_refl 64)]
/-- .. and one step on from such a square -/
theorem td_stp_on {w : Nat} (hw : w < 8) (x : Int64) {p : Nat} (hp : p < 64) (ho : td_okw w p = true) (hx : bl x p = true) (hn : td_ps w p 1 < 64) : bl (td_stp w x) (td_ps w p 1) = true := by
  unfold td_stp
  by_cases hu : td_upw w = true
  · rw [if_pos hu, bl_shl x (td_sh_lt w)]
    have h1 := (td_g4_up hw hp hu ho).2
    by_cases h : p + td_sh w < 64
    · rw [if_pos h] at h1
      rw [h1]; simp [h, hx]
    · rw [if_neg h] at h1; omega
  · have hu2 : td_upw w = false := by cases hh : td_upw w; rfl; exact absurd hh hu
    rw [if_neg hu, bl_ushr x (td_sh_lt w)]
    have h1 := (td_g4_dn hw hp hu2 ho).1
    by_cases h : td_sh w ≤ p
    · rw [if_pos h] at h1
      rw [h1, show td_sh w + (p - td_sh w) = p by omega]; exact hx
    · rw [if_neg h] at h1; omega
theorem td_stp_off {w : Nat} (hw : w < 8) (x : Int64) (hok : ∀ p, p < 64 → bl x p = true → td_okw w p = true) {i : Nat} (hi : i < 64) (h : bl (td_stp w x) i = true) : ∃ p, p < 64 ∧ bl x p = true ∧ td_ps w p 1 = i := by
  unfold td_stp at h
  by_cases hu : td_upw w = true
  · rw [if_pos hu, bl_shl x (td_sh_lt w)] at h
    simp only [Bool.and_eq_true, decide_eq_true_eq] at h
    obtain ⟨_, h1, h2⟩ := h
    have hp : i - td_sh w < 64 := by omega
    refine ⟨i - td_sh w, hp, h2, ?_⟩
    rw [(td_g4_up hw hp hu (hok _ hp h2)).2, if_pos (by omega)]; omega
  · have hu2 : td_upw w = false := by cases hh : td_upw w; rfl; exact absurd hh hu
    rw [if_neg hu, bl_ushr x (td_sh_lt w)] at h
    have hp : td_sh w + i < 64 := by
      by_cases hc : td_sh w + i < 64
      · exact hc
      · rw [bl_ge (by omega)] at h; cases h
    refine ⟨td_sh w + i, hp, h, ?_⟩
    rw [(td_g4_dn hw hp hu2 (hok _ hp h)).1, if_pos (by omega)]; omega
