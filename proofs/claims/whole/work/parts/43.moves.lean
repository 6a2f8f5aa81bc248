/-! where one can move; the position behind a move -/
theorem td_ends_bl {g : Nat → Int32} {who : Int32} {a b : Int64} (hR : td_rel g who a b) {w s : Nat} (hw : w < 8) (hs : s < 64) : bl (td_stp w (td_rm w a (td_yw w b) 5)) s = true ↔ 0 < td_al g who (7 - w) s := by
  have h7 : 7 - w < 8 := by omega
  have h77 : 7 - (7 - w) = w := by omega
  have hyw : td_yw (7 - w) b = td_yw w b := by
    unfold td_yw
    have : (7 - w = 1 ∨ 7 - w = 6) ↔ (w = 1 ∨ w = 6) := by omega
    by_cases h : w = 1 ∨ w = 6
    · rw [if_pos h, if_pos (this.mpr h)]
    · rw [if_neg h, if_neg (fun z => h (this.mp z))]
  have key := (td_rm_end h7 hs a (td_yw (7 - w) b) (td_yw_ok b)).symm.trans (td_way hR h7 hs).1
  rw [hyw] at key
  rw [← key]
  have hin : ∀ p, p < 64 → bl (td_rm w a (td_yw w b) 5) p = true → bl (td_yw w b) p = true := fun p hp h => by
    rw [td_rm_bl hw _ _ (td_yw_ok b) 5 p hp] at h; exact td_rr_y _ _ _ 5 p h
  constructor
  · intro h
    obtain ⟨p, hp, h1, h2⟩ := td_stp_off hw _ (fun p hp h => td_yw_ok b p hp (hin p hp h)) hs h
    obtain ⟨j, a1, a2, a3, a4⟩ := (td_rm_iff hw a _ (td_yw_ok b) hp).mp h1
    obtain ⟨r1, -, -⟩ := td_ps_rev (w := w) (s := p) (j := 1) hw hp (by omega) (by rw [h2]; exact hs)
    rw [h2] at r1
    have hl : td_ps (7 - w) s 1 < 64 := by rw [r1]; exact hp
    refine ⟨j, a1, a2, fun t h0 h1 => ?_, ?_⟩
    · obtain ⟨k, rfl⟩ : ∃ k, t = k + 1 := ⟨t - 1, by omega⟩
      rw [← td_ps_1s h7 hs (by omega) hl, r1]
      exact a4 k (by omega)
    · rw [← td_ps_1s h7 hs (by omega) hl, r1]; exact a3
  · rintro ⟨j, a1, a2, a3, a4⟩
    have hy1 := a3 1 (by omega) (by omega)
    have hp := bl_lt hy1
    obtain ⟨r1, -, -⟩ := td_ps_rev (w := 7 - w) (s := s) (j := 1) h7 hs (by omega) hp
    rw [h77] at r1
    have hrm : bl (td_rm w a (td_yw w b) 5) (td_ps (7 - w) s 1) = true := by
      rw [td_rm_iff hw a _ (td_yw_ok b) hp]
      refine ⟨j, a1, a2, ?_, fun t ht => ?_⟩
      · rw [td_ps_1s h7 hs (by omega) hp]; exact a4
      · rw [td_ps_1s h7 hs (by omega) hp]; exact a3 (t + 1) (by omega) (by omega)
    have := td_stp_on hw _ hp (td_yw_ok b _ hp hy1) hrm (by rw [r1]; exact hs)
    rw [r1] at this
    exact this
theorem td_ends2_bl {g : Nat → Int32} {who : Int32} {a b : Int64} (hR : td_rel g who a b) {w s : Nat} (hw : w < 8) (hu : td_upw w = true) (hs : s < 64) : bl (td_ends a (td_yw w b) (nI (td_sh w))) s = true ↔ (0 < td_al g who (7 - w) s ∨ 0 < td_al g who w s) := by
  have h7 : 7 - w < 8 := by omega
  have h77 : 7 - (7 - w) = w := by omega
  have hd : td_upw (7 - w) = false := by
    have : ∀ w, w < 8 → td_upw w = true → td_upw (7 - w) = false := by decide
    exact this w hw hu
  have hsh : td_sh (7 - w) = td_sh w := by
    have : ∀ w, w < 8 → td_sh (7 - w) = td_sh w := by decide
    exact this w hw
  have hyw : td_yw (7 - w) b = td_yw w b := by
    unfold td_yw
    have : (7 - w = 1 ∨ 7 - w = 6) ↔ (w = 1 ∨ w = 6) := by omega
    by_cases h : w = 1 ∨ w = 6
    · rw [if_pos h, if_pos (this.mpr h)]
    · rw [if_neg h, if_neg (fun z => h (this.mp z))]
  have su : ∀ x, td_stp w x = td_lshl x (nI (td_sh w)) := fun x => by unfold td_stp; rw [if_pos hu]
  have sd : ∀ x, td_stp (7 - w) x = td_lushr x (nI (td_sh w)) := fun x => by unfold td_stp; rw [if_neg (by rw [hd]; decide), hsh]
  have e1 := td_ends_bl hR hw hs
  have e2 := td_ends_bl hR h7 hs
  rw [h77, hyw] at e2
  unfold td_ends
  rw [td_rm_up hu, show td_runDown a (td_yw w b) (nI (td_sh w)) = td_rm (7 - w) a (td_yw w b) 5 by rw [← hsh]; exact td_rm_dn hd _ _, ← su, ← sd, bl_or, Bool.or_eq_true, e1, e2]
theorem td_any_iff (g : Nat → Int32) (who : Int32) (s : Nat) : td_any g who s = true ↔ (g s = 0 ∧ ∃ w, w < 8 ∧ 0 < td_al g who w s) := by
  simp only [td_any, Bool.and_eq_true, decide_eq_true_eq, List.any_eq_true, List.mem_range]
theorem td_bool {x y : Bool} (h : x = true ↔ y = true) : x = y := by
  cases x <;> cases y <;> simp_all
theorem td_moves_bl {g : Nat → Int32} {who : Int32} {a b : Int64} (hR : td_rel g who a b) {s : Nat} (hs : s < 64) : bl (td_moves a b) s = td_any g who s := by
  have h8 := td_ends2_bl hR (w := 6) (by decide) rfl hs
  have h1 := td_ends2_bl hR (w := 4) (by decide) rfl hs
  have h9 := td_ends2_bl hR (w := 7) (by decide) rfl hs
  have h7 := td_ends2_bl hR (w := 5) (by decide) rfl hs
  have x8 : bl (td_ends a b 8) s = true ↔ _ := h8
  have x1 : bl (td_ends a (td_inner b) 1) s = true ↔ _ := h1
  have x9 : bl (td_ends a (td_inner b) 9) s = true ↔ _ := h9
  have x7 : bl (td_ends a (td_inner b) 7) s = true ↔ _ := h7
  apply td_bool
  rw [td_any_iff, (hR.1 s hs).2.2]
  unfold td_moves
  rw [bl_and, bl_or, bl_or, bl_or, bl_not _ hs, bl_or, Bool.and_eq_true, Bool.or_eq_true, Bool.or_eq_true, Bool.or_eq_true, x8, x1, x9, x7]
  have hne : (!(bl a s || bl b s)) = true ↔ (bl a s = false ∧ bl b s = false) := by
    cases bl a s <;> cases bl b s <;> simp
  rw [hne]
  constructor
  · rintro ⟨h, h2⟩
    refine ⟨h2, ?_⟩
    rcases h with (((h | h) | (h | h)) | (h | h)) | (h | h) <;> exact ⟨_, by decide, h⟩
  · rintro ⟨h2, v, hv, hj⟩
    refine ⟨?_, h2⟩
    rcases (show v = 0 ∨ v = 1 ∨ v = 2 ∨ v = 3 ∨ v = 4 ∨ v = 5 ∨ v = 6 ∨ v = 7 by omega) with h | h | h | h | h | h | h | h <;> subst h
    · exact Or.inl (Or.inr (Or.inl hj))
    · exact Or.inl (Or.inl (Or.inr (Or.inl hj)))
    · exact Or.inr (Or.inl hj)
    · exact Or.inl (Or.inl (Or.inl (Or.inl hj)))
    · exact Or.inl (Or.inl (Or.inl (Or.inr hj)))
    · exact Or.inr (Or.inr hj)
    · exact Or.inl (Or.inl (Or.inr (Or.inr hj)))
    · exact Or.inl (Or.inr (Or.inr hj))
/-- the reference's set of turned discs is empty exactly where one can't move -/
theorem td_fl_ne (g : Nat → Int32) (who : Int32) {s : Nat} (hs : s < 64) : (¬ td_fl g who s = 0) ↔ td_any g who s = true := by
  rw [td_any_iff]
  unfold td_fl
  by_cases h : g s = 0
  · rw [if_pos h, bl_ne0]
    constructor
    · rintro ⟨i, hi, hb⟩
      obtain ⟨w, hw, j, a1, a2, a3⟩ := (td_fw_bl g who hs 8 (Nat.le_refl _) i).mp hb
      exact ⟨h, w, hw, by omega⟩
    · rintro ⟨-, w, hw, hal⟩
      have h1 := td_al_in (w := w) (s := s) g who (j := 1) (by omega) hal
      exact ⟨td_ps w s 1, h1, (td_fw_bl g who hs 8 (Nat.le_refl _) _).mpr ⟨w, hw, 1, by omega, hal, rfl⟩⟩
  · rw [if_neg h]
    constructor
    · intro z; exact absurd rfl z
    · intro z; exact absurd z.1 h
/-- what is turned was the other one's -/
theorem td_fw_sub {g : Nat → Int32} {who : Int32} {a b : Int64} (hR : td_rel g who a b) {s i : Nat} (hs : s < 64) (h : bl (td_fw g who s 8) i = true) : bl b i = true := by
  obtain ⟨w, hw, j, a1, a2, a3⟩ := (td_fw_bl g who hs 8 (Nat.le_refl _) i).mp h
  unfold td_al at a2
  by_cases hc : td_ps w s (td_cnt g (2 - who) w s 8 0 + 1) < 64 ∧ g (td_ps w s (td_cnt g (2 - who) w s 8 0 + 1)) = who + 1
  · rw [if_pos hc] at a2
    obtain ⟨h1, h2⟩ := td_cnt_in g (2 - who) w s 8 0 j a1 a2
    rw [a3] at h1 h2
    exact ((hR.1 i h1).2.1).mp h2
  · rw [if_neg hc] at a2; omega
theorem td_who {who : Int32} (h : who = 0 ∨ who = 1) : (1 - who) + 1 = 2 - who ∧ 2 - (1 - who) = who + 1 ∧ (1 - who = 0 ∨ 1 - who = 1) ∧ ¬ who + 1 = 2 - who ∧ ¬ who + 1 = 0 ∧ ¬ 2 - who = 0 ∧ 1 - (1 - who) = who := by
  rcases h with rfl | rfl <;> decide
theorem td_rel_sw {g : Nat → Int32} {who : Int32} {a b : Int64} (hw : who = 0 ∨ who = 1) (hR : td_rel g who a b) : td_rel g (1 - who) b a := by
  obtain ⟨e1, e2, -⟩ := td_who hw
  refine ⟨fun i hi => ?_, fun i hi z => hR.2 i hi ⟨z.2, z.1⟩⟩
  rw [e1, e2]
  obtain ⟨h1, h2, h3⟩ := hR.1 i hi
  exact ⟨h2, h1, h3.trans ⟨fun z => ⟨z.2, z.1⟩, fun z => ⟨z.2, z.1⟩⟩⟩
theorem td_rel_cg {g g' : Nat → Int32} {who : Int32} {a b : Int64} (hR : td_rel g who a b) (h : ∀ i, i < 64 → g' i = g i) : td_rel g' who a b :=
  ⟨fun i hi => by rw [h i hi]; exact hR.1 i hi, hR.2⟩
/-- behind a move -/
theorem td_rel_mv {g : Nat → Int32} {who : Int32} {a b : Int64} (hw : who = 0 ∨ who = 1) (hR : td_rel g who a b) {s : Nat} (hs : s < 64) (he : g s = 0) : td_rel (td_ch g who s) (1 - who) (b ^^^ td_turned a b (td_lshl 1 (nI s))) ((a ||| td_lshl 1 (nI s)) ||| td_turned a b (td_lshl 1 (nI s))) := by
  obtain ⟨e1, e2, -, n1, n2, n3, -⟩ := td_who hw
  have hf : td_turned a b (td_lshl 1 (nI s)) = td_fw g who s 8 := td_turned_fw hR hs
  rw [hf]
  have hz : td_zs g who s = td_fw g who s 8 := by
    unfold td_zs td_fl; rw [if_neg (by omega), if_pos he]
  have hsub : ∀ i, bl (td_fw g who s 8) i = true → bl b i = true := fun i h => td_fw_sub hR hs h
  obtain ⟨ea, eb⟩ := ((hR.1 s hs).2.2).mp he
  have hfs : bl (td_fw g who s 8) s = false := by
    cases hh : bl (td_fw g who s 8) s
    · rfl
    · rw [hsub s hh] at eb; cases eb
  have hg : ∀ i, i < 64 → td_ch g who s i = if i = s ∨ bl (td_fw g who s 8) i = true then who + 1 else g i := fun i hi => by
    unfold td_ch td_putc
    rw [hz, td_bv_bl _ hi]
  refine ⟨fun i hi => ?_, fun i hi => ?_⟩
  · rw [hg i hi, e1, e2, bl_xor, bl_or, bl_or, bl_one hs]
    obtain ⟨h1, h2, h3⟩ := hR.1 i hi
    by_cases his : i = s
    · subst his
      rw [if_pos (Or.inl rfl), eb, hfs, decide_eq_true rfl]
      simp [n1, n2]
    · rw [decide_eq_false his]
      cases hfi : bl (td_fw g who s 8) i
      · rw [if_neg (by rintro (z | z); exact his z; cases z)]
        simp only [Bool.xor_false, Bool.or_false]
        exact ⟨h2, h1, h3.trans ⟨fun z => ⟨z.2, z.1⟩, fun z => ⟨z.2, z.1⟩⟩⟩
      · rw [if_pos (Or.inr rfl), hsub i hfi]
        simp [n1, n2]
  · rw [bl_xor, bl_or, bl_or, bl_one hs]
    rintro ⟨z1, z2⟩
    by_cases his : i = s
    · subst his; rw [eb, hfs] at z1; cases z1
    · rw [decide_eq_false his] at z2
      cases hfi : bl (td_fw g who s 8) i
      · rw [hfi] at z1 z2
        simp only [Bool.xor_false, Bool.or_false] at z1 z2
        exact hR.2 i hi ⟨z2, z1⟩
      · rw [hfi, hsub i hfi] at z1; cases z1
/-- behind a pass -/
theorem td_rel_ps {g : Nat → Int32} {who : Int32} {a b : Int64} (hw : who = 0 ∨ who = 1) (hR : td_rel g who a b) : td_rel (td_ch g who 64) (1 - who) b a := by
  refine td_rel_cg (td_rel_sw hw hR) (fun i hi => ?_)
  unfold td_ch td_putc
  rw [td_bv_bl _ hi, show td_zs g who 64 = 0 from rfl, bl_0, if_neg (by rintro (z | z); omega; cases z)]
theorem td_turned0 (a b : Int64) : td_turned a b 0 = 0 := by
  have h0 : ∀ w, w < 8 → ∀ y : Int64, (∀ i, i < 64 → bl y i = true → td_okw w i = true) → td_rm w 0 y 5 = 0 := fun w hw y hy => by
    apply bl_ext
    intro i hi
    rw [bl_0]
    cases hh : bl (td_rm w 0 y 5) i
    · rfl
    · obtain ⟨j, _, _, h3, _⟩ := (td_rm_iff hw 0 y hy hi).mp hh
      rw [bl_0] at h3; cases h3
  have ht : ∀ w, w < 8 → td_upw w = true → td_tal a (td_yw w b) 0 (nI (td_sh w)) = 0 := fun w hw hu => by
    have hd : td_upw (7 - w) = false := by
      have : ∀ w, w < 8 → td_upw w = true → td_upw (7 - w) = false := by decide
      exact this w hw hu
    have hsh : td_sh (7 - w) = td_sh w := by
      have : ∀ w, w < 8 → td_sh (7 - w) = td_sh w := by decide
      exact this w hw
    have hyw : td_yw (7 - w) b = td_yw w b := by
      unfold td_yw
      have : (7 - w = 1 ∨ 7 - w = 6) ↔ (w = 1 ∨ w = 6) := by omega
      by_cases h : w = 1 ∨ w = 6
      · rw [if_pos h, if_pos (this.mpr h)]
      · rw [if_neg h, if_neg (fun z => h (this.mp z))]
    have e1 : td_runUp 0 (td_yw w b) (nI (td_sh w)) = 0 := by rw [td_rm_up hu]; exact h0 w hw _ (td_yw_ok b)
    have e2 : td_runDown 0 (td_yw w b) (nI (td_sh w)) = 0 := by rw [← hsh, td_rm_dn hd, ← hyw]; exact h0 _ (by omega) _ (td_yw_ok b)
    unfold td_tal
    rw [e1, e2]
    simp
  have t8 : td_tal a b 0 8 = 0 := ht 6 (by decide) rfl
  have t1 : td_tal a (td_inner b) 0 1 = 0 := ht 4 (by decide) rfl
  have t9 : td_tal a (td_inner b) 0 9 = 0 := ht 7 (by decide) rfl
  have t7 : td_tal a (td_inner b) 0 7 = 0 := ht 5 (by decide) rfl
  unfold td_turned
  rw [t8, t1, t9, t7]
  rfl
theorem td_cn_cg {P Q : Nat → Bool} : ∀ n, (∀ i, i < n → P i = Q i) → td_cn P n = td_cn Q n
  | 0, _ => rfl
  | n + 1, h => by rw [td_cn_s, td_cn_s, td_cn_cg n (fun i hi => h i (by omega)), h n (Nat.lt_succ_self n)]
theorem td_cn_0 {P : Nat → Bool} : ∀ n, (td_cn P n = 0 ↔ ∀ i, i < n → P i = false)
  | 0 => ⟨fun _ i hi => by omega, fun _ => rfl⟩
  | n + 1 => by
    rw [td_cn_s]
    have ih := td_cn_0 (P := P) n
    constructor
    · intro h i hi
      have h1 : td_cn P n = 0 := by omega
      by_cases hin : i = n
      · subst hin
        cases hp : P i
        · rfl
        · rw [hp, if_pos rfl] at h; omega
      · exact ih.mp h1 i (by omega)
    · intro h
      rw [ih.mpr (fun i hi => h i (by omega)), h n (Nat.lt_succ_self n)]
      rfl
theorem td_mv_eq {g : Nat → Int32} {who : Int32} {a b : Int64} (hR : td_rel g who a b) : td_mv g who = td_cn (bl (td_moves a b)) 64 := by
  unfold td_mv
  refine td_cn_cg 64 (fun s hs => td_bool ?_)
  rw [decide_eq_true_eq, td_moves_bl hR hs]
  exact td_fl_ne g who hs
theorem td_mv_0 {g : Nat → Int32} {who : Int32} {a b : Int64} (hR : td_rel g who a b) : td_mv g who = 0 ↔ td_moves a b = 0 := by
  rw [td_mv_eq hR, td_cn_0, bl_eq0]
theorem td_dc_eq {g : Nat → Int32} {who : Int32} {a b : Int64} (hR : td_rel g who a b) : td_dc g who = td_cn (bl a) 64 := by
  unfold td_dc
  refine td_cn_cg 64 (fun s hs => td_bool ?_)
  rw [decide_eq_true_eq]
  exact (hR.1 s hs).1
theorem td_bs_bl (P : Nat → Bool) : ∀ n, n ≤ 64 → ∀ i, bl (td_bs P n) i = (decide (i < n) && P i)
  | 0, _, i => by unfold td_bs; rw [bl_0]; simp
  | n + 1, hn, i => by
    have ih := td_bs_bl P n (by omega) i
    rw [td_bs_s]
    cases hp : P n
    · rw [if_neg (by decide), ih]
      by_cases hin : i = n
      · subst hin; simp [hp]
      · have : (i < n + 1) ↔ (i < n) := by omega
        simp only [this]
    · rw [if_pos rfl, bl_or, ih, bl_one (by omega)]
      by_cases hin : i = n
      · subst hin; simp [hp]
      · have : (i < n + 1) ↔ (i < n) := by omega
        simp [this, hin]
theorem td_bs_eq {P : Nat → Bool} {x : Int64} (h : ∀ i, i < 64 → P i = bl x i) : td_bs P 64 = x := bl_ext fun i hi => by
  rw [td_bs_bl P 64 (Nat.le_refl _), h i hi, decide_eq_true hi, Bool.true_and]
