/-! call by call: class and reference answer alike -/
def td_INV (S : tdS) (V : tdU) (ro : Nat → Int32) (tu : Nat → Int64) : Prop := td_SM S (V.1.2.1, V.1.2.2.1, ro, tu, S.2.2.2.1) ∧ S.2.2.2.1 ≤ 64 ∧ td_Hi S.2.2.2.1 S.1 S.2.1 S.2.2.2.2.1 S.2.2.2.2.2
theorem td_bad_01 (q M : Int32) : td_bad q M = 0 ∨ td_bad q M = 1 := by
  unfold td_bad
  by_cases h : q < 0 ∨ M < q
  · rw [if_pos h]; exact Or.inr rfl
  · rw [if_neg h]; exact Or.inl rfl
theorem td_bad_0 (q M : Int32) : td_bad q M = 0 ↔ (¬ q < 0 ∧ q ≤ M) := by
  unfold td_bad
  by_cases h : q < 0 ∨ M < q
  · rw [if_pos h]
    exact ⟨fun z => absurd z (by decide), fun z => h.elim (fun y => absurd y z.1) (fun y => absurd y (Int32.not_lt.mpr z.2))⟩
  · rw [if_neg h]
    exact ⟨fun _ => ⟨fun z => h (Or.inl z), Int32.not_lt.mp (fun z => h (Or.inr z))⟩, fun _ => rfl⟩
theorem td_pl_bad (q : Int32) : td_pl q ↔ td_bad q 1 = 0 := by
  rw [td_bad_0]
  unfold td_pl
  constructor
  · rintro (rfl | rfl) <;> decide
  · rintro ⟨h1, h2⟩
    obtain ⟨j, hj, e⟩ := nI_of2 (n := 1) (M := 1) rfl h1 h2
    rcases (show j = 0 ∨ j = 1 by omega) with rfl | rfl
    · exact Or.inl e
    · exact Or.inr e
theorem td_lt64 (q : Int32) : q < 64 ↔ q ≤ 63 := by
  rw [Int32.lt_iff_toInt_lt, Int32.le_iff_toInt_le]
  have h9 : (64 : Int32).toInt = 64 := rfl
  have h8 : (63 : Int32).toInt = 63 := rfl
  omega
theorem td_sq_bad (q : Int32) : (¬ q < 0 ∧ q < 64) ↔ td_bad q 63 = 0 := by rw [td_bad_0, td_lt64]
section AG
variable {g : Nat → Int32} {who : Int32} {a b : Int64}
theorem ag_discs (hw : who = 0 ∨ who = 1) (hR : td_rel g who a b) {q : Int32} (hq : td_pl q) : td_bs (fun i => decide (g i = q + 1)) 64 = td_of a b who q :=
  td_bs_eq (fun i hi => td_bool (by rw [decide_eq_true_iff]; exact td_of_bl hw hq hR i hi))
theorem ag_moves (hR : td_rel g who a b) : td_bs (fun i => decide (td_fl g who i ≠ 0)) 64 = td_moves a b :=
  td_bs_eq (fun i hi => td_bool (by rw [decide_eq_true_iff, td_moves_bl hR hi]; exact td_fl_ne g who hi))
theorem ag_turns (hR : td_rel g who a b) {s : Nat} (hs : s < 64) : td_fl g who s = td_turns a b (nI s) := by
  unfold td_turns td_fl
  rw [td_on_lt hs]
  by_cases he : g s = 0
  · rw [if_pos he, if_neg ?_, td_turned_fw hR hs]
    rw [bl_eq0]
    intro z
    have := z s hs
    rw [bl_and, bl_one hs, decide_eq_true rfl, td_emp_bl hR hs, decide_eq_true he] at this
    cases this
  · rw [if_neg he, if_pos ?_]
    rw [bl_eq0]
    intro i hi
    rw [bl_and, bl_one hs, td_emp_bl hR hi]
    by_cases his : i = s
    · rw [his, decide_eq_false he, Bool.and_false]
    · rw [decide_eq_false his, Bool.false_and]
theorem ag_diff (hw : who = 0 ∨ who = 1) (hR : td_rel g who a b) : td_lead (td_of a b who 0) (td_of a b who 1) = nI (td_dc g 0) - nI (td_dc g 1) := by
  have h : ∀ q : Int32, (q = 0 ∨ q = 1) → td_dc g q = td_cn (bl (td_of a b who q)) 64 := fun q hq =>
    td_cn_cg 64 (fun i hi => td_bool (by rw [decide_eq_true_iff]; exact td_of_bl hw hq hR i hi))
  unfold td_lead
  rw [td_pop_cn, td_pop_cn, h 0 (Or.inl rfl), h 1 (Or.inr rfl)]
theorem ag_best (a b : Int64) : (if (-1000 : Int32) < iI (gV 14 a b) then nI (gB 13 a b) else 65) = td_best a b := by
  have := gV_bd 14 a b
  have e : (-1000 : Int32) = iI (-1000) := by decide
  rw [e, td_best_g]
  generalize gV 14 a b = v at this
  exact if_pos ((iI_lt (by omega) (by omega) (by omega) (by omega)).mpr (by omega))
theorem ag_ones (z : Int64) : td_pop z = nI (td_ones z) := by
  rw [td_pop_cn]
  congr 1
  unfold td_ones
  exact (td_cn_cg 64 (fun i hi => td_bv_bl z hi)).symm
end AG
/-- may be played: alike -/
theorem ag_can {S : tdS} {M : tdM} (h : td_SM S M) (q : Int32) : td_can M q = true ↔ td_may S.1 S.2.1 q := by
  obtain ⟨h1, h2, h3, -, -⟩ := h
  unfold td_can td_may
  by_cases hin : ¬ q < 0 ∧ q < 64
  · rw [if_pos hin, decide_eq_true_iff, h2]
    obtain ⟨s, hs, rfl⟩ := nI_of2 (n := 63) (M := 63) rfl hin.1 ((td_lt64 q).mp hin.2)
    have hs : s < 64 := by omega
    have hne : ¬ nI s = 64 := fun z => by have := (nI_eq (a := s) (b := 64) (by omega) (by decide)).mp z; omega
    rw [nI_clamp (by omega)]
    have e : (td_moves S.1 S.2.1 &&& td_on (nI s)) = 0 ↔ ¬ bl (td_moves S.1 S.2.1) s = true := by
      rw [td_on_lt hs, bl_eq0]
      constructor
      · intro z y
        have := z s hs
        rw [bl_and, bl_one hs, decide_eq_true rfl, y] at this
        cases this
      · intro z i hi
        rw [bl_and, bl_one hs]
        by_cases his : i = s
        · rw [his, Bool.eq_false_iff.mpr z]; rfl
        · rw [decide_eq_false his, Bool.and_false]
    have e2 := td_fl_ne (td_lv M.1 0) S.2.2.1 hs
    rw [← td_moves_bl h3 hs] at e2
    constructor
    · intro z; exact Or.inr ⟨hne, hin.1, hin.2, fun y => e.mp y (e2.mp z)⟩
    · rintro (⟨z, -⟩ | ⟨-, -, -, z⟩)
      · exact absurd z hne
      · exact e2.mpr (Decidable.not_not.mp (fun y => z (e.mpr y)))
  · rw [if_neg hin, decide_eq_true_iff, h2, td_mv_0 h3]
    have e := td_mv_0 (td_rel_sw h1 h3)
    have e2 : 0 < td_mv (td_lv M.1 0) (1 - S.2.2.1) ↔ ¬ td_moves S.2.1 S.1 = 0 := by rw [← e]; omega
    rw [e2]
    constructor
    · intro z; exact Or.inl z
    · rintro (z | ⟨-, z1, z2, -⟩)
      · exact z
      · exact absurd ⟨z1, z2⟩ hin
/-- what may be played is a square that is empty, or the pass -/
theorem ag_may {g : Nat → Int32} {who : Int32} {a b : Int64} (hR : td_rel g who a b) {q : Int32} (h : td_may a b q) : ∃ s, s ≤ 64 ∧ q = nI s ∧ td_lg a b s := by
  rcases h with ⟨rfl, -, -⟩ | ⟨-, h1, h2, h3⟩
  · exact ⟨64, Nat.le_refl _, rfl, Or.inr rfl⟩
  · obtain ⟨s, hs, rfl⟩ := nI_of2 (n := 63) (M := 63) rfl h1 ((td_lt64 q).mp h2)
    have hs : s < 64 := by omega
    refine ⟨s, by omega, rfl, Or.inl ⟨hs, ?_⟩⟩
    rw [bl_ne0] at h3
    obtain ⟨i, hi, h3⟩ := h3
    rw [td_on_lt hs, bl_and, bl_one hs, Bool.and_eq_true, decide_eq_true_iff] at h3
    obtain ⟨h3, rfl⟩ := h3
    rw [td_moves_bl hR hi, td_any_iff] at h3
    exact ((hR.1 i hi).2.2).mp h3.1
theorem ag_begin (ce : Nat → Int32) : td_rel (td_lv (td_laid ce) 0) 0 34628173824 68853694464 := by
  have e : ∀ i, i < 64 → td_lv (td_laid ce) 0 i = td_lv (td_laid (fun _ => 0)) 0 i := fun i hi => by
    unfold td_lv td_laid
    rw [Nat.mul_zero, Nat.zero_add]
    have e2 : ∀ (f g : Nat → Int32) (k : Nat) (x : Int32), f i = g i → upd f k x i = upd g k x i := fun f g k x h => by
      by_cases hk : i = k
      · rw [hk, pk_us, pk_us]
      · rw [pk_un hk, pk_un hk, h]
    refine e2 _ _ _ _ (e2 _ _ _ _ (e2 _ _ _ _ (e2 _ _ _ _ ?_)))
    unfold td_sw
    rw [if_pos hi, if_pos hi]
  have tb : ((List.range 64).all fun i => (decide (td_lv (td_laid (fun _ => 0)) 0 i = 0 + 1) == bl 34628173824 i) && (decide (td_lv (td_laid (fun _ => 0)) 0 i = 2 - 0) == bl 68853694464 i) && (decide (td_lv (td_laid (fun _ => 0)) 0 i = 0) == (!bl 34628173824 i && !bl 68853694464 i)) && !(bl 34628173824 i && bl 68853694464 i)) = true := by decide +kernel
  refine td_rel_cg (g := td_lv (td_laid (fun _ => 0)) 0) ⟨fun i hi => ?_, fun i hi => ?_⟩ e
  · have h := List.all_eq_true.mp tb i (List.mem_range.mpr hi)
    simp only [Bool.and_eq_true, beq_iff_eq] at h
    obtain ⟨⟨⟨h1, h2⟩, h3⟩, -⟩ := h
    refine ⟨?_, ?_, ?_⟩
    · rw [← h1, decide_eq_true_iff]
    · rw [← h2, decide_eq_true_iff]
    · rw [← decide_eq_true_iff (p := td_lv (td_laid (fun _ => 0)) 0 i = 0), h3, Bool.and_eq_true, Bool.not_eq_true', Bool.not_eq_true']
  · have h := List.all_eq_true.mp tb i (List.mem_range.mpr hi)
    simp only [Bool.and_eq_true] at h
    have h4 := h.2
    rintro ⟨z1, z2⟩
    rw [z1, z2] at h4
    exact absurd h4 (by decide)
theorem ag_set (ce : Nat → Int32) {u v : Int64} {q : Int32} (h : (u &&& v) = 0) (hq : td_pl q) : td_rel (td_lv (td_sw (td_setc u v) ce 64) 0) q (if q = 0 then u else v) (if q = 0 then v else u) := by
  have hd : ∀ i, i < 64 → ¬ (bl u i = true ∧ bl v i = true) := fun i hi z => by
    have := (bl_eq0 _).mp h i hi
    rw [bl_and, z.1, z.2] at this; cases this
  have e : ∀ i, i < 64 → td_lv (td_sw (td_setc u v) ce 64) 0 i = if bl u i then 1 else if bl v i then 2 else 0 := fun i hi => by
    unfold td_lv td_sw td_setc
    rw [Nat.mul_zero, Nat.zero_add, if_pos hi, td_bv_bl u hi, td_bv_bl v hi]
  have h0 : td_rel (td_lv (td_sw (td_setc u v) ce 64) 0) 0 u v := td_rel_cg (gOf_rel (a := u) (b := v) hd) (fun i hi => e i hi)
  rcases hq with rfl | rfl
  · exact h0
  · exact td_rel_sw (Or.inl rfl) h0
theorem ag_bset (u v : Int64) (q : Int32) : (td_bset u v q = 0 ↔ ((u &&& v) = 0 ∧ td_pl q)) ∧ (td_bset u v q = 0 ∨ td_bset u v q = 1) := by
  have hp := td_pl_bad q
  rw [td_bad_0] at hp
  unfold td_bset
  by_cases h : ¬ (u &&& v) = 0 ∨ q < 0 ∨ 1 < q
  · rw [if_pos h]
    refine ⟨⟨fun z => absurd z (by decide), fun z => ?_⟩, Or.inr rfl⟩
    rcases h with h | h | h
    · exact absurd z.1 h
    · exact absurd h (hp.mp z.2).1
    · exact absurd h (Int32.not_lt.mpr (hp.mp z.2).2)
  · rw [if_neg h]
    refine ⟨⟨fun _ => ⟨Decidable.not_not.mp (fun z => h (Or.inl z)), hp.mpr ⟨fun z => h (Or.inr (Or.inl z)), Int32.not_lt.mp (fun z => h (Or.inr (Or.inr z)))⟩⟩, fun _ => rfl⟩, Or.inl rfl⟩
theorem ag_ft (S : tdS) : (td_ft S = 0 ↔ (td_few S.1 S.2.1 ∧ S.2.2.2.1 + (td_plan 14 S.1 S.2.1).length ≤ 64)) ∧ (td_ft S = 0 ∨ td_ft S = 1) := by
  unfold td_ft
  rw [td_few_g]
  by_cases h : gE S.1 S.2.1 ≤ 7 ∧ S.2.2.2.1 + (td_plan 14 S.1 S.2.1).length ≤ 64
  · rw [if_pos h]; exact ⟨⟨fun _ => h, fun _ => rfl⟩, Or.inl rfl⟩
  · rw [if_neg h]; exact ⟨⟨fun z => absurd z (by decide), fun z => absurd z h⟩, Or.inr rfl⟩
