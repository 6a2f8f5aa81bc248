/-! what a move turns, and where one can move: the class's sets are the reference's -/
theorem td_inn_all : ((List.range 64).all fun i => bl 9114861777597660798 i == td_innB i) = true := by decide +kernel
theorem bl_inner (b : Int64) {i : Nat} (hi : i < 64) : bl (td_inner b) i = (bl b i && td_innB i) := by
  unfold td_inner
  have h := List.all_eq_true.mp td_inn_all i (List.mem_range.mpr hi)
  rw [bl_and, eq_of_beq h]
/-- the other one's discs that may be passed in way w -/
def td_yw (w : Nat) (b : Int64) : Int64 := if w = 1 ∨ w = 6 then b else td_inner b
theorem bl_yw {w : Nat} (b : Int64) {i : Nat} (hi : i < 64) : bl (td_yw w b) i = (bl b i && td_okw w i) := by
  unfold td_yw td_okw
  by_cases h : w = 1 ∨ w = 6
  · rw [if_pos h]
    have : (w == 1 || w == 6) = true := by simpa using h
    rw [this, Bool.or_true, Bool.and_true]
  · rw [if_neg h, bl_inner b hi]
    have : (w == 1 || w == 6) = false := by simpa using h
    rw [this, Bool.or_false]
def td_rm (w : Nat) (f y : Int64) : Nat → Int64
  | 0 => td_stp w f &&& y
  | n + 1 => td_rm w f y n ||| (td_stp w (td_rm w f y n) &&& y)
theorem td_rm_up {w : Nat} (hu : td_upw w = true) (f y : Int64) : td_runUp f y (nI (td_sh w)) = td_rm w f y 5 := by
  have e : ∀ x, td_stp w x = td_lshl x (nI (td_sh w)) := fun x => by unfold td_stp; rw [if_pos hu]
  simp only [td_rm, e]
  rfl
theorem td_rm_dn {w : Nat} (hu : td_upw w = false) (f y : Int64) : td_runDown f y (nI (td_sh w)) = td_rm w f y 5 := by
  have e : ∀ x, td_stp w x = td_lushr x (nI (td_sh w)) := fun x => by unfold td_stp; rw [if_neg (by rw [hu]; decide)]
  simp only [td_rm, e]
  rfl
theorem td_rm_bl {w : Nat} (hw : w < 8) (f y : Int64) (hy : ∀ i, i < 64 → bl y i = true → td_okw w i = true) : ∀ n i, i < 64 → bl (td_rm w f y n) i = td_rr (fun k => td_ps (7 - w) k 1) (bl f) (bl y) n i
  | 0, i, hi => by
    unfold td_rm td_rr
    rw [bl_and]
    cases hb : bl y i
    · rw [Bool.and_false, Bool.false_and]
    · rw [Bool.and_true, Bool.true_and, td_stp_bl hw f hi (hy i hi hb)]
  | n + 1, i, hi => by
    have ih := td_rm_bl hw f y hy n
    unfold td_rm td_rr
    rw [bl_or, bl_and, ih i hi]
    cases hb : bl y i
    · rw [Bool.and_false, Bool.false_and]
    · rw [Bool.and_true, Bool.true_and, td_stp_bl hw _ hi (hy i hi hb)]
      by_cases hp : td_ps (7 - w) i 1 < 64
      · rw [ih _ hp]
      · have e1 : td_ps (7 - w) i 1 = 64 := td_ps_off (j := 0) (by omega) hi (by omega) hp
        rw [e1, bl_ge (Nat.le_refl 64)]
        cases hr : td_rr (fun k => td_ps (7 - w) k 1) (bl f) (bl y) n 64
        · rfl
        · have := td_rr_y _ _ _ n 64 hr
          rw [bl_ge (Nat.le_refl 64)] at this; cases this
theorem td_rm_iff {w : Nat} (hw : w < 8) (f y : Int64) (hy : ∀ i, i < 64 → bl y i = true → td_okw w i = true) {i : Nat} (hi : i < 64) : bl (td_rm w f y 5) i = true ↔ ∃ j, 0 < j ∧ j ≤ 6 ∧ bl f (td_ps (7 - w) i j) = true ∧ ∀ t, t < j → bl y (td_ps (7 - w) i t) = true := by
  rw [td_rm_bl hw f y hy 5 i hi]
  exact td_rr_iff hw (bl f) (bl y) (bl_ge (Nat.le_refl 64)) (bl_ge (Nat.le_refl 64)) 5 i (Nat.le_refl _) hi
/-- the run from one square -/
theorem td_rm_one {w : Nat} (hw : w < 8) {s : Nat} (hs : s < 64) (y : Int64) (hy : ∀ i, i < 64 → bl y i = true → td_okw w i = true) {i : Nat} (hi : i < 64) : bl (td_rm w (td_lshl 1 (nI s)) y 5) i = true ↔ ∃ j, 0 < j ∧ j ≤ 6 ∧ td_ps w s j = i ∧ ∀ t, 0 < t → t ≤ j → bl y (td_ps w s t) = true := by
  rw [td_rm_iff hw _ y hy hi]
  have h7 : 7 - (7 - w) = w := by omega
  constructor
  · rintro ⟨j, h1, h2, h3, h4⟩
    rw [bl_one hs, decide_eq_true_eq] at h3
    obtain ⟨r1, r2, r3⟩ := td_ps_rev (w := 7 - w) (s := i) (j := j) (by omega) hi (by omega) (by rw [h3]; exact hs)
    rw [h3, h7] at r1 r3
    refine ⟨j, h1, h2, r1, fun t ht1 ht2 => ?_⟩
    rw [r3 t ht2]
    exact h4 (j - t) (by omega)
  · rintro ⟨j, h1, h2, h3, h4⟩
    obtain ⟨r1, r2, r3⟩ := td_ps_rev (w := w) (s := s) (j := j) hw hs (by omega) (by rw [h3]; exact hi)
    rw [h3] at r1 r3
    refine ⟨j, h1, h2, ?_, fun t ht => ?_⟩
    · rw [r1, bl_one hs]; exact decide_eq_true rfl
    · rw [r3 t (by omega)]; exact h4 (j - t) (by omega) (by omega)
/-- the run ends at one of a's -/
theorem td_rm_end {w : Nat} (hw : w < 8) {s : Nat} (hs : s < 64) (a y : Int64) (hy : ∀ i, i < 64 → bl y i = true → td_okw w i = true) : ¬ (td_stp w (td_rm w (td_lshl 1 (nI s)) y 5) &&& a) = 0 ↔ ∃ j, 0 < j ∧ j ≤ 6 ∧ (∀ t, 0 < t → t ≤ j → bl y (td_ps w s t) = true) ∧ bl a (td_ps w s (j + 1)) = true := by
  have hin : ∀ p, p < 64 → bl (td_rm w (td_lshl 1 (nI s)) y 5) p = true → bl y p = true := fun p hp h => by
    rw [td_rm_bl hw _ y hy 5 p hp] at h; exact td_rr_y _ _ _ 5 p h
  rw [bl_ne0]
  constructor
  · rintro ⟨i, hi, hb⟩
    rw [bl_and, Bool.and_eq_true] at hb
    obtain ⟨p, hp, h1, h2⟩ := td_stp_off hw _ (fun p hp h => hy p hp (hin p hp h)) hi hb.1
    obtain ⟨j, a1, a2, a3, a4⟩ := (td_rm_one hw hs y hy hp).mp h1
    refine ⟨j, a1, a2, a4, ?_⟩
    obtain ⟨-, r2, -⟩ := td_ps_rev (w := w) (s := s) (j := j) hw hs (by omega) (by rw [a3]; exact hp)
    rw [← r2, a3, h2]; exact hb.2
  · rintro ⟨j, a1, a2, a3, a4⟩
    have hy1 := a3 j a1 (Nat.le_refl _)
    have hp : td_ps w s j < 64 := by
      by_cases hc : td_ps w s j < 64
      · exact hc
      · rw [bl_ge (by omega)] at hy1; cases hy1
    have hq : td_ps w s (j + 1) < 64 := by
      by_cases hc : td_ps w s (j + 1) < 64
      · exact hc
      · rw [bl_ge (by omega)] at a4; cases a4
    obtain ⟨-, r2, -⟩ := td_ps_rev (w := w) (s := s) (j := j) hw hs (by omega) hp
    have hr := (td_rm_one hw hs y hy hp).mpr ⟨j, a1, a2, rfl, a3⟩
    refine ⟨td_ps w s (j + 1), hq, ?_⟩
    rw [bl_and, a4, Bool.and_true, ← r2]
    exact td_stp_on hw _ hp (hy _ hp hy1) hr (by rw [r2]; exact hq)
/-- a board of the reference and the two sets -/
def td_rel (g : Nat → Int32) (who : Int32) (a b : Int64) : Prop := (∀ i, i < 64 → (g i = who + 1 ↔ bl a i = true) ∧ (g i = 2 - who ↔ bl b i = true) ∧ (g i = 0 ↔ (bl a i = false ∧ bl b i = false))) ∧ ∀ i, i < 64 → ¬ (bl a i = true ∧ bl b i = true)
theorem td_yw_ok {w : Nat} (b : Int64) : ∀ i, i < 64 → bl (td_yw w b) i = true → td_okw w i = true := fun i hi h => by
  rw [bl_yw b hi, Bool.and_eq_true] at h; exact h.2
theorem bl_lt {x : Int64} {i : Nat} (h : bl x i = true) : i < 64 := by
  by_cases hc : i < 64
  · exact hc
  · rw [bl_ge (by omega)] at h; cases h
theorem td_way {g : Nat → Int32} {who : Int32} {a b : Int64} (hR : td_rel g who a b) {w s : Nat} (hw : w < 8) (hs : s < 64) : (¬ (td_stp w (td_rm w (td_lshl 1 (nI s)) (td_yw w b) 5) &&& a) = 0 ↔ 0 < td_al g who w s) ∧ ∀ i, i < 64 → 0 < td_al g who w s → (bl (td_rm w (td_lshl 1 (nI s)) (td_yw w b) 5) i = true ↔ ∃ j, 0 < j ∧ j ≤ td_al g who w s ∧ td_ps w s j = i) := by
  have hcl := td_cnt_le hw hs g (2 - who) 8
  have hin := td_cnt_in g (2 - who) w s 8 0
  have hout := td_cnt_out hw hs g (2 - who) 8 0 rfl
  have hal : td_al g who w s = if td_ps w s (td_cnt g (2 - who) w s 8 0 + 1) < 64 ∧ g (td_ps w s (td_cnt g (2 - who) w s 8 0 + 1)) = who + 1 then td_cnt g (2 - who) w s 8 0 else 0 := rfl
  generalize td_cnt g (2 - who) w s 8 0 = N at hcl hin hout hal
  have hout : ¬ (td_ps w s (N + 1) < 64 ∧ g (td_ps w s (N + 1)) = 2 - who) := hout.elim (fun z => z) (fun z => by omega)
  have hb : ∀ j, 0 < j → j ≤ N → td_ps w s j < 64 ∧ bl b (td_ps w s j) = true := fun j h0 h1 => ⟨(hin j h0 h1).1, ((hR.1 _ (hin j h0 h1).1).2.1).mp (hin j h0 h1).2⟩
  -- a run of masked ones is no longer than N
  have hrun : ∀ j, (∀ t, 0 < t → t ≤ j → bl (td_yw w b) (td_ps w s t) = true) → j ≤ N := by
    intro j h
    by_cases hj : j ≤ N
    · exact hj
    · exfalso
      have h1 := h (N + 1) (by omega) (by omega)
      have h2 := bl_lt h1
      rw [bl_yw b h2, Bool.and_eq_true] at h1
      exact hout ⟨h2, ((hR.1 _ h2).2.1).mpr h1.1⟩
  -- where the run is closed it is masked
  have hmask : td_ps w s (N + 1) < 64 → ∀ t, 0 < t → t ≤ N → bl (td_yw w b) (td_ps w s t) = true := by
    intro hN t h0 h1
    obtain ⟨k, rfl⟩ : ∃ k, t = k + 1 := ⟨t - 1, by omega⟩
    have hk2 : td_ps w s (k + 2) < 64 := by
      by_cases hk : k + 2 ≤ N
      · exact (hb (k + 2) (by omega) hk).1
      · rw [show k + 2 = N + 1 by omega]; exact hN
    obtain ⟨p1, p2⟩ := td_ps_inn hw hs (show k < 8 by omega) hk2
    rw [bl_yw b p2, p1, (hb (k + 1) h0 h1).2]; rfl
  have h6 : td_ps w s (N + 1) < 64 → N ≤ 6 := by
    intro hN
    by_cases hc : N ≤ 6
    · exact hc
    · have : N = 7 := by omega
      rw [this, td_ps8 hw hs] at hN; omega
  have key : (∃ j, 0 < j ∧ j ≤ 6 ∧ (∀ t, 0 < t → t ≤ j → bl (td_yw w b) (td_ps w s t) = true) ∧ bl a (td_ps w s (j + 1)) = true) ↔ 0 < td_al g who w s := by
    constructor
    · rintro ⟨j, a1, a2, a3, a4⟩
      have hjN := hrun j a3
      have hq := bl_lt a4
      have hj : j = N := by
        by_cases hlt : j < N
        · exact absurd ⟨a4, (hb (j + 1) (by omega) (by omega)).2⟩ (hR.2 _ hq)
        · omega
      subst hj
      rw [hal, if_pos ⟨hq, ((hR.1 _ hq).1).mpr a4⟩]; exact a1
    · intro h
      by_cases hc : td_ps w s (N + 1) < 64 ∧ g (td_ps w s (N + 1)) = who + 1
      · rw [hal, if_pos hc] at h
        exact ⟨N, h, h6 hc.1, hmask hc.1, ((hR.1 _ hc.1).1).mp hc.2⟩
      · rw [hal, if_neg hc] at h; omega
  refine ⟨(td_rm_end hw hs a _ (td_yw_ok b)).trans key, fun i hi h => ?_⟩
  rw [td_rm_one hw hs _ (td_yw_ok b) hi]
  have hc : td_ps w s (N + 1) < 64 ∧ g (td_ps w s (N + 1)) = who + 1 := by
    by_cases hc : td_ps w s (N + 1) < 64 ∧ g (td_ps w s (N + 1)) = who + 1
    · exact hc
    · rw [hal, if_neg hc] at h; omega
  have e : td_al g who w s = N := by rw [hal, if_pos hc]
  rw [e]
  constructor
  · rintro ⟨j, a1, a2, a3, a4⟩
    exact ⟨j, a1, hrun j a4, a3⟩
  · rintro ⟨j, a1, a2, a3⟩
    exact ⟨j, a1, Nat.le_trans a2 (h6 hc.1), a3, fun t h0 h1 => hmask hc.1 t h0 (by omega)⟩
theorem td_tal_bl {g : Nat → Int32} {who : Int32} {a b : Int64} (hR : td_rel g who a b) {w s : Nat} (hw : w < 8) (hu : td_upw w = true) (hs : s < 64) {i : Nat} (hi : i < 64) : bl (td_tal a (td_yw w b) (td_lshl 1 (nI s)) (nI (td_sh w))) i = true ↔ ∃ v, (v = w ∨ v = 7 - w) ∧ ∃ j, 0 < j ∧ j ≤ td_al g who v s ∧ td_ps v s j = i := by
  have h7 : 7 - w < 8 := by omega
  have hd : td_upw (7 - w) = false := by
    have : ∀ w, w < 8 → td_upw w = true → td_upw (7 - w) = false := by decide
    exact this w hw hu
  have hsh : td_sh (7 - w) = td_sh w := by
    have : ∀ w, w < 8 → td_sh (7 - w) = td_sh w := by decide
    exact this w hw
  have hyw : td_yw (7 - w) b = td_yw w b := by
    unfold td_yw
    have : (7 - w = 1 ∨ 7 - w = 6) ↔ (w = 1 ∨ w = 6) := by omega
    by_cases h : w = 1 ∨ w = 6
    · rw [if_pos h, if_pos (this.mpr h)]
    · rw [if_neg h, if_neg (fun z => h (this.mp z))]
  obtain ⟨u1, u2⟩ := td_way hR hw hs
  obtain ⟨d1, d2⟩ := td_way hR h7 hs
  rw [hyw] at d1 d2
  have eu : td_runUp (td_lshl 1 (nI s)) (td_yw w b) (nI (td_sh w)) = td_rm w (td_lshl 1 (nI s)) (td_yw w b) 5 := td_rm_up hu _ _
  have ed : td_runDown (td_lshl 1 (nI s)) (td_yw w b) (nI (td_sh w)) = td_rm (7 - w) (td_lshl 1 (nI s)) (td_yw w b) 5 := by rw [← hsh]; exact td_rm_dn hd _ _
  have su : ∀ x, td_stp w x = td_lshl x (nI (td_sh w)) := fun x => by unfold td_stp; rw [if_pos hu]
  have sd : ∀ x, td_stp (7 - w) x = td_lushr x (nI (td_sh w)) := fun x => by unfold td_stp; rw [if_neg (by rw [hd]; decide), hsh]
  unfold td_tal
  rw [eu, ed]
  simp only [← su, ← sd]
  generalize hA : td_rm w (td_lshl 1 (nI s)) (td_yw w b) 5 = U at u1 u2
  generalize hB : td_rm (7 - w) (td_lshl 1 (nI s)) (td_yw w b) 5 = Dn at d1 d2
  have cu : bl (if (td_stp w U &&& a) = 0 then 0 else U) i = true ↔ ∃ j, 0 < j ∧ j ≤ td_al g who w s ∧ td_ps w s j = i := by
    by_cases h : (td_stp w U &&& a) = 0
    · rw [if_pos h, bl_0]
      have h0 : ¬ 0 < td_al g who w s := fun z => (u1.mpr z) h
      constructor
      · intro z; cases z
      · rintro ⟨j, a1, a2, -⟩; omega
    · rw [if_neg h]; exact u2 i hi (u1.mp h)
  have cd : (¬ (td_stp (7 - w) Dn &&& a) = 0 ∧ bl Dn i = true) ↔ ∃ j, 0 < j ∧ j ≤ td_al g who (7 - w) s ∧ td_ps (7 - w) s j = i := by
    constructor
    · rintro ⟨h1, h2⟩; exact (d2 i hi (d1.mp h1)).mp h2
    · rintro ⟨j, a1, a2, a3⟩
      have h0 : 0 < td_al g who (7 - w) s := by omega
      exact ⟨d1.mpr h0, (d2 i hi h0).mpr ⟨j, a1, a2, a3⟩⟩
  generalize (if (td_stp w U &&& a) = 0 then 0 else U) = X at cu
  constructor
  · intro h
    by_cases hc : (td_stp (7 - w) Dn &&& a) = 0
    · rw [if_pos hc] at h
      exact ⟨w, Or.inl rfl, cu.mp h⟩
    · rw [if_neg hc, bl_or, Bool.or_eq_true] at h
      rcases h with h | h
      · exact ⟨w, Or.inl rfl, cu.mp h⟩
      · exact ⟨7 - w, Or.inr rfl, cd.mp ⟨hc, h⟩⟩
  · rintro ⟨v, rfl | rfl, hj⟩
    · by_cases hc : (td_stp (7 - v) Dn &&& a) = 0
      · rw [if_pos hc]; exact cu.mpr hj
      · rw [if_neg hc, bl_or, cu.mpr hj, Bool.true_or]
    · obtain ⟨h1, h2⟩ := cd.mpr hj
      rw [if_neg h1, bl_or, h2, Bool.or_true]
theorem td_in_bl {w s : Nat} (hw : w < 8) (hs : s < 64) (z : Int64) : ∀ n, (∀ j, 0 < j → j ≤ n → td_ps w s j < 64) → ∀ i, bl (td_in w s n z) i = true ↔ (bl z i = true ∨ ∃ j, 0 < j ∧ j ≤ n ∧ td_ps w s j = i)
  | 0, _, i => by
    unfold td_in
    constructor
    · intro h; exact Or.inl h
    · rintro (h | ⟨j, a1, a2, -⟩)
      · exact h
      · omega
  | n + 1, hp, i => by
    have ih := td_in_bl hw hs z n (fun j h0 h1 => hp j h0 (by omega)) i
    unfold td_in
    rw [bl_or, Bool.or_eq_true, ih, bl_one (hp (n + 1) (by omega) (Nat.le_refl _)), decide_eq_true_eq]
    constructor
    · rintro ((h | ⟨j, a1, a2, a3⟩) | h)
      · exact Or.inl h
      · exact Or.inr ⟨j, a1, by omega, a3⟩
      · exact Or.inr ⟨n + 1, by omega, Nat.le_refl _, h.symm⟩
    · rintro (h | ⟨j, a1, a2, a3⟩)
      · exact Or.inl (Or.inl h)
      · by_cases hj : j = n + 1
        · subst hj; exact Or.inr a3.symm
        · exact Or.inl (Or.inr ⟨j, a1, by omega, a3⟩)
theorem td_fw_bl (g : Nat → Int32) (who : Int32) {s : Nat} (hs : s < 64) : ∀ n, n ≤ 8 → ∀ i, bl (td_fw g who s n) i = true ↔ ∃ w, w < n ∧ ∃ j, 0 < j ∧ j ≤ td_al g who w s ∧ td_ps w s j = i
  | 0, _, i => by
    unfold td_fw
    rw [bl_0]
    constructor
    · intro h; cases h
    · rintro ⟨w, h, -⟩; omega
  | n + 1, hn, i => by
    have ih := td_fw_bl g who hs n (by omega) i
    unfold td_fw
    rw [td_in_bl (show n < 8 by omega) hs _ _ (fun j h0 h1 => td_al_in g who h0 h1) i, ih]
    constructor
    · rintro (⟨w, h, hj⟩ | hj)
      · exact ⟨w, by omega, hj⟩
      · exact ⟨n, Nat.lt_succ_self n, hj⟩
    · rintro ⟨w, h, hj⟩
      by_cases hw : w = n
      · subst hw; exact Or.inr hj
      · exact Or.inl ⟨w, by omega, hj⟩
/-- what a disc on s turns -/
theorem td_turned_fw {g : Nat → Int32} {who : Int32} {a b : Int64} (hR : td_rel g who a b) {s : Nat} (hs : s < 64) : td_turned a b (td_lshl 1 (nI s)) = td_fw g who s 8 := by
  apply bl_ext
  intro i hi
  have h8 := td_tal_bl hR (w := 6) (by decide) rfl hs hi
  have h1 := td_tal_bl hR (w := 4) (by decide) rfl hs hi
  have h9 := td_tal_bl hR (w := 7) (by decide) rfl hs hi
  have h7 := td_tal_bl hR (w := 5) (by decide) rfl hs hi
  have e6 : td_yw 6 b = b := rfl
  have e4 : td_yw 4 b = td_inner b := rfl
  have e7 : td_yw 7 b = td_inner b := rfl
  have e5 : td_yw 5 b = td_inner b := rfl
  rw [e6] at h8; rw [e4] at h1; rw [e7] at h9; rw [e5] at h7
  have hf := td_fw_bl g who hs 8 (Nat.le_refl _) i
  have key : bl (td_turned a b (td_lshl 1 (nI s))) i = true ↔ bl (td_fw g who s 8) i = true := by
    rw [hf]
    unfold td_turned
    rw [bl_or, bl_or, bl_or, Bool.or_eq_true, Bool.or_eq_true, Bool.or_eq_true]
    have x8 : bl (td_tal a b (td_lshl 1 (nI s)) 8) i = true ↔ _ := h8
    have x1 : bl (td_tal a (td_inner b) (td_lshl 1 (nI s)) 1) i = true ↔ _ := h1
    have x9 : bl (td_tal a (td_inner b) (td_lshl 1 (nI s)) 9) i = true ↔ _ := h9
    have x7 : bl (td_tal a (td_inner b) (td_lshl 1 (nI s)) 7) i = true ↔ _ := h7
    rw [x8, x1, x9, x7]
    constructor
    · rintro (((⟨v, hv, hj⟩ | ⟨v, hv, hj⟩) | ⟨v, hv, hj⟩) | ⟨v, hv, hj⟩) <;> exact ⟨v, by omega, hj⟩
    · rintro ⟨v, hv, hj⟩
      rcases (show v = 0 ∨ v = 1 ∨ v = 2 ∨ v = 3 ∨ v = 4 ∨ v = 5 ∨ v = 6 ∨ v = 7 by omega) with h | h | h | h | h | h | h | h
      · exact Or.inl (Or.inr ⟨v, by omega, hj⟩)
      · exact Or.inl (Or.inl (Or.inl ⟨v, by omega, hj⟩))
      · exact Or.inr ⟨v, by omega, hj⟩
      · exact Or.inl (Or.inl (Or.inr ⟨v, by omega, hj⟩))
      · exact Or.inl (Or.inl (Or.inr ⟨v, by omega, hj⟩))
      · exact Or.inr ⟨v, by omega, hj⟩
      · exact Or.inl (Or.inl (Or.inl ⟨v, by omega, hj⟩))
      · exact Or.inl (Or.inr ⟨v, by omega, hj⟩)
  cases h1 : bl (td_turned a b (td_lshl 1 (nI s))) i <;> cases h2 : bl (td_fw g who s 8) i
  · rfl
  · rw [key.mpr h2] at h1; cases h1
  · rw [key.mp h1] at h2; cases h2
  · rfl
