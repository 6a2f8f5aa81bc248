/-! border and safe: class and reference agree -/
def td_Lf (j : Nat) : Nat := if j < 64 ∧ ¬ j % 8 = 0 then j - 1 else 64
def td_Rf (j : Nat) : Nat := if j < 64 ∧ ¬ j % 8 = 7 then j + 1 else 64
def td_Uf (j : Nat) : Nat := if 8 ≤ j ∧ j < 64 then j - 8 else 64
def td_Df (j : Nat) : Nat := if j < 56 then j + 8 else 64
theorem td_col_all : ((List.range 64).all fun i => (bl (-72340172838076674) i == !(i % 8 == 0)) && (bl 9187201950435737471 i == !(i % 8 == 7))) = true := by decide +kernel
theorem td_col {i : Nat} (hi : i < 64) : bl (-72340172838076674) i = decide (¬ i % 8 = 0) ∧ bl 9187201950435737471 i = decide (¬ i % 8 = 7) := by
  have h := List.all_eq_true.mp td_col_all i (List.mem_range.mpr hi)
  rw [Bool.and_eq_true, beq_iff_eq, beq_iff_eq] at h
  refine ⟨h.1.trans ?_, h.2.trans ?_⟩
  · by_cases h : i % 8 = 0 <;> simp [h]
  · by_cases h : i % 8 = 7 <;> simp [h]
theorem td_wide (x : Int64) (i : Nat) : bl ((x ||| (td_lshl x 1 &&& (-72340172838076674))) ||| (td_lushr x 1 &&& 9187201950435737471)) i = (bl x i || bl x (td_Lf i) || bl x (td_Rf i)) := by
  by_cases hi : i < 64
  · have e1 : bl (td_lshl x 1) i = (decide (i < 64) && (decide (1 ≤ i) && bl x (i - 1))) := bl_shl x (k := 1) (by decide) i
    have e2 : bl (td_lushr x 1) i = bl x (1 + i) := bl_ushr x (k := 1) (by decide) i
    rw [bl_or, bl_or, bl_and, bl_and, e1, e2, (td_col hi).1, (td_col hi).2]
    congr 1
    · congr 1
      unfold td_Lf
      by_cases h : i % 8 = 0
      · rw [if_neg (fun z => z.2 h), decide_eq_false (show ¬ ¬ i % 8 = 0 from fun z => z h), Bool.and_false, bl_ge (Nat.le_refl _)]
      · rw [if_pos ⟨hi, h⟩, decide_eq_true h, decide_eq_true hi, decide_eq_true (show 1 ≤ i by omega), Bool.true_and, Bool.true_and, Bool.and_true]
    · unfold td_Rf
      by_cases h : i % 8 = 7
      · rw [if_neg (fun z => z.2 h), decide_eq_false (fun z => z h), Bool.and_false, bl_ge (Nat.le_refl _)]
      · rw [if_pos ⟨hi, h⟩, decide_eq_true h, Bool.and_true, Nat.add_comm]
  · rw [bl_ge (by omega), bl_ge (x := x) (by omega)]
    unfold td_Lf td_Rf
    rw [if_neg (by omega), if_neg (by omega), bl_ge (Nat.le_refl _)]
    rfl
theorem td_near_bl (x : Int64) {i : Nat} (hi : i < 64) : bl (td_near x) i = ((bl x i || bl x (td_Lf i) || bl x (td_Rf i)) || (bl x (td_Uf i) || bl x (td_Lf (td_Uf i)) || bl x (td_Rf (td_Uf i))) || (bl x (td_Df i) || bl x (td_Lf (td_Df i)) || bl x (td_Rf (td_Df i)))) := by
  have e0 : td_near x = (((x ||| (td_lshl x 1 &&& (-72340172838076674))) ||| (td_lushr x 1 &&& 9187201950435737471)) ||| td_lshl ((x ||| (td_lshl x 1 &&& (-72340172838076674))) ||| (td_lushr x 1 &&& 9187201950435737471)) 8) ||| td_lushr ((x ||| (td_lshl x 1 &&& (-72340172838076674))) ||| (td_lushr x 1 &&& 9187201950435737471)) 8 := rfl
  rw [e0]
  have hw := td_wide x
  generalize (x ||| (td_lshl x 1 &&& (-72340172838076674))) ||| (td_lushr x 1 &&& 9187201950435737471) = w at hw
  have e1 : bl (td_lshl w 8) i = (decide (i < 64) && (decide (8 ≤ i) && bl w (i - 8))) := bl_shl w (k := 8) (by decide) i
  have e2 : bl (td_lushr w 8) i = bl w (8 + i) := bl_ushr w (k := 8) (by decide) i
  rw [bl_or, bl_or, e1, e2, ← hw i, ← hw (td_Uf i), ← hw (td_Df i)]
  congr 1
  · congr 1
    unfold td_Uf
    by_cases h : 8 ≤ i
    · rw [if_pos ⟨h, hi⟩, decide_eq_true h, decide_eq_true hi]; rfl
    · rw [if_neg (fun z => h z.1), decide_eq_false h, bl_ge (Nat.le_refl _), Bool.false_and, Bool.and_false]
  · unfold td_Df
    by_cases h : i < 56
    · rw [if_pos h, Nat.add_comm]
    · rw [if_neg h, bl_ge (by omega), bl_ge (Nat.le_refl _)]
theorem td_nb_all : ((List.range 64).all fun i => (td_ps 0 i 1 == td_Lf (td_Uf i)) && (td_ps 1 i 1 == td_Uf i) && (td_ps 2 i 1 == td_Rf (td_Uf i)) && (td_ps 3 i 1 == td_Lf i) && (td_ps 4 i 1 == td_Rf i) && (td_ps 5 i 1 == td_Lf (td_Df i)) && (td_ps 6 i 1 == td_Df i) && (td_ps 7 i 1 == td_Rf (td_Df i))) = true := by decide +kernel
theorem td_near_w (x : Int64) {i : Nat} (hi : i < 64) (hx : bl x i = false) : bl (td_near x) i = (List.range 8).any (fun w => bl x (td_ps w i 1)) := by
  have h := List.all_eq_true.mp td_nb_all i (List.mem_range.mpr hi)
  simp only [Bool.and_eq_true, beq_iff_eq] at h
  obtain ⟨⟨⟨⟨⟨⟨⟨h0, h1⟩, h2⟩, h3⟩, h4⟩, h5⟩, h6⟩, h7⟩ := h
  rw [td_near_bl x hi, hx]
  have e : (List.range 8).any (fun w => bl x (td_ps w i 1)) = (bl x (td_ps 0 i 1) || (bl x (td_ps 1 i 1) || (bl x (td_ps 2 i 1) || (bl x (td_ps 3 i 1) || (bl x (td_ps 4 i 1) || (bl x (td_ps 5 i 1) || (bl x (td_ps 6 i 1) || (bl x (td_ps 7 i 1) || false)))))))) := rfl
  rw [e, h0, h1, h2, h3, h4, h5, h6, h7]
  generalize bl x (td_Lf i) = a1
  generalize bl x (td_Rf i) = a2
  generalize bl x (td_Uf i) = a3
  generalize bl x (td_Lf (td_Uf i)) = a4
  generalize bl x (td_Rf (td_Uf i)) = a5
  generalize bl x (td_Df i) = a6
  generalize bl x (td_Lf (td_Df i)) = a7
  generalize bl x (td_Rf (td_Df i)) = a8
  revert a1 a2 a3 a4 a5 a6 a7 a8
  decide
theorem td_nbs_bl {g : Nat → Int32} {v : Int32} {x : Int64} (h : ∀ j, j < 64 → (g j = v ↔ bl x j = true)) (i : Nat) : td_nbs g v i = (List.range 8).any (fun w => bl x (td_ps w i 1)) := by
  unfold td_nbs
  congr 1
  funext w
  by_cases hj : td_ps w i 1 < 64
  · rw [decide_eq_true hj, Bool.true_and]
    refine td_bool ?_
    rw [decide_eq_true_iff]; exact h _ hj
  · rw [decide_eq_false hj, Bool.false_and, bl_ge (by omega)]
theorem td_emp_bl {g : Nat → Int32} {who : Int32} {a b : Int64} (hR : td_rel g who a b) {i : Nat} (hi : i < 64) : bl (td_emp a b) i = decide (g i = 0) := by
  unfold td_emp
  rw [bl_not _ hi, bl_or]
  refine td_bool ?_
  rw [decide_eq_true_iff, (hR.1 i hi).2.2]
  cases bl a i <;> cases bl b i <;> simp
theorem td_of_bl {g : Nat → Int32} {who q : Int32} {a b : Int64} (hw : who = 0 ∨ who = 1) (hq : q = 0 ∨ q = 1) (hR : td_rel g who a b) : ∀ j, j < 64 → (g j = q + 1 ↔ bl (td_of a b who q) j = true) := by
  intro j hj
  unfold td_of
  by_cases h : q = who
  · rw [if_pos h, h]; exact (hR.1 j hj).1
  · rw [if_neg h]
    have e : q + 1 = 2 - who := by
      rcases hw with rfl | rfl <;> rcases hq with rfl | rfl
      · exact absurd rfl h
      · decide
      · decide
      · exact absurd rfl h
    rw [e]; exact (hR.1 j hj).2.1
theorem td_border_eq {g : Nat → Int32} {who q : Int32} {a b : Int64} (hw : who = 0 ∨ who = 1) (hq : q = 0 ∨ q = 1) (hR : td_rel g who a b) : td_border a b who q = nI (td_cn (fun u => decide (g u = 0) && td_nbs g (q + 1) u) 64) := by
  unfold td_border
  rw [td_pop_cn]
  congr 1
  refine td_cn_cg 64 (fun i hi => ?_)
  rw [bl_and, td_emp_bl hR hi]
  by_cases h0 : g i = 0
  · rw [decide_eq_true h0, Bool.and_true, Bool.true_and, td_nbs_bl (td_of_bl hw hq hR) i]
    refine td_near_w _ hi ?_
    cases e : bl (td_of a b who q) i
    · rfl
    · have := (td_of_bl hw hq hR i hi).mpr e
      rw [h0] at this
      rcases hq with rfl | rfl <;> exact absurd this (by decide)
  · rw [decide_eq_false h0, Bool.and_false, Bool.false_and]
/-- along a way all are in the set, up to the board's end -/
def td_FU (m : Int64) (w i n : Nat) : Prop := ∃ j, j ≤ n ∧ td_ps w i (j + 1) = 64 ∧ ∀ t, 0 < t → t ≤ j → bl m (td_ps w i t) = true
def td_g6 (w i : Nat) : Bool := !decide (td_ps w i 1 < 64) || (if td_upw w then td_ps w i 1 == i + td_sh w else td_ps w i 1 + td_sh w == i)
theorem td_g6_all : ((List.range 8).all fun w => (List.range 64).all fun i => td_g6 w i) = true := by decide +kernel
theorem td_ps_64_all : ((List.range 8).all fun w => (List.range 64).all fun i => decide (td_ps w i 1 ≤ 64)) = true := by decide +kernel
theorem td_g6_up {w i : Nat} (hw : w < 8) (hi : i < 64) (hu : td_upw w = true) (h : td_ps w i 1 < 64) : td_ps w i 1 = i + td_sh w := by
  have := td_all2 td_g6_all hw hi
  unfold td_g6 at this
  rw [decide_eq_true h, hu] at this
  simpa using this
theorem td_g6_dn {w i : Nat} (hw : w < 8) (hi : i < 64) (hu : td_upw w = false) (h : td_ps w i 1 < 64) : td_ps w i 1 + td_sh w = i := by
  have := td_all2 td_g6_all hw hi
  unfold td_g6 at this
  rw [decide_eq_true h, hu] at this
  simpa using this
/-- one step of the spreading, whichever way -/
theorem td_hold {w : Nat} (hw : w < 8) (m u : Int64) (H : Nat → Int64) (hu : ∀ i, i < 64 → bl u i = decide (td_ps w i 1 = 64)) (h0 : H 0 = u)
    (hs : ∀ n i, i < 64 → ∃ j, (td_ps w i 1 < 64 → j = td_ps w i 1) ∧ bl (H (n + 1)) i = (bl (H n) i || (bl (H n) j && bl m j))) :
    ∀ n, n ≤ 7 → ∀ i, i < 64 → (bl (H n) i = true ↔ td_FU m w i n)
  | 0, _, i, hi => by
    rw [h0, hu i hi, decide_eq_true_iff]
    constructor
    · intro h; exact ⟨0, Nat.le_refl _, h, fun t h1 h2 => by omega⟩
    · rintro ⟨j, h1, h2, -⟩
      have : j = 0 := by omega
      subst this; exact h2
  | n + 1, hn, i, hi => by
    have ih := td_hold hw m u H hu h0 hs n (by omega)
    obtain ⟨j0, hj, e⟩ := hs n i hi
    rw [e, Bool.or_eq_true, Bool.and_eq_true, ih i hi]
    have h64 : td_ps w i 1 ≤ 64 := of_decide_eq_true (td_all2 td_ps_64_all hw hi)
    constructor
    · rintro (⟨j, h1, h2, h3⟩ | ⟨h1, h2⟩)
      · exact ⟨j, by omega, h2, h3⟩
      · by_cases hp : td_ps w i 1 < 64
        · rw [hj hp] at h1 h2
          obtain ⟨j, k1, k2, k3⟩ := (ih _ hp).mp h1
          refine ⟨j + 1, by omega, ?_, fun t t1 t2 => ?_⟩
          · rw [← td_ps_1s hw hi (by omega) hp]; exact k2
          · obtain ⟨r, rfl⟩ : ∃ r, t = r + 1 := ⟨t - 1, by omega⟩
            cases r with
            | zero => exact h2
            | succ r =>
              rw [← td_ps_1s hw hi (by omega) hp]
              exact k3 (r + 1) (by omega) (by omega)
        · exact ⟨0, by omega, by rw [Nat.zero_add]; omega, fun t t1 t2 => by omega⟩
    · rintro ⟨j, h1, h2, h3⟩
      by_cases hjn : j ≤ n
      · exact Or.inl ⟨j, hjn, h2, h3⟩
      · have hje : j = n + 1 := by omega
        subst hje
        have hm1 := h3 1 (by omega) (by omega)
        have hp := bl_lt hm1
        right
        rw [hj hp]
        refine ⟨(ih _ hp).mpr ⟨n, Nat.le_refl _, ?_, fun t t1 t2 => ?_⟩, hm1⟩
        · rw [td_ps_1s hw hi (by omega) hp]; exact h2
        · rw [td_ps_1s hw hi (by omega) hp]; exact h3 (t + 1) (by omega) (by omega)
theorem td_hup_bl {w : Nat} (hw : w < 8) (hup : td_upw w = true) (m u : Int64) (hu : ∀ i, i < 64 → bl u i = decide (td_ps w i 1 = 64)) {i : Nat} (hi : i < 64) : bl (td_hup m (nI (td_sh w)) u 7) i = true ↔ td_FU m w i 7 :=
  td_hold hw m u (td_hup m (nI (td_sh w)) u) hu rfl (fun n i hi => ⟨td_sh w + i, fun h => by rw [td_g6_up hw hi hup h, Nat.add_comm], by
    show bl (td_hup m (nI (td_sh w)) u n ||| td_lushr (td_hup m (nI (td_sh w)) u n &&& m) (nI (td_sh w))) i = _
    rw [bl_or, bl_ushr _ (td_sh_lt w), bl_and]⟩) 7 (Nat.le_refl _) i hi
theorem td_hdn_bl {w : Nat} (hw : w < 8) (hup : td_upw w = false) (m u : Int64) (hu : ∀ i, i < 64 → bl u i = decide (td_ps w i 1 = 64)) {i : Nat} (hi : i < 64) : bl (td_hdn m (nI (td_sh w)) u 7) i = true ↔ td_FU m w i 7 :=
  td_hold hw m u (td_hdn m (nI (td_sh w)) u) hu rfl (fun n i hi => ⟨if td_sh w ≤ i then i - td_sh w else 64, fun h => by have := td_g6_dn hw hi hup h; rw [if_pos (by omega)]; omega, by
    show bl (td_hdn m (nI (td_sh w)) u n ||| td_lshl (td_hdn m (nI (td_sh w)) u n &&& m) (nI (td_sh w))) i = _
    rw [bl_or, bl_shl _ (td_sh_lt w), decide_eq_true hi, Bool.true_and]
    by_cases h : td_sh w ≤ i
    · rw [decide_eq_true h, if_pos h, Bool.true_and, bl_and]
    · rw [decide_eq_false h, if_neg h, bl_ge (Nat.le_refl _), Bool.false_and, Bool.false_and]⟩) 7 (Nat.le_refl _) i hi
def td_edge (w : Nat) : Int64 := if w = 4 then -9187201950435737472 else if w = 3 then 72340172838076673 else if w = 6 then -72057594037927936 else if w = 1 then 255 else if w = 7 then -35887507618889600 else if w = 0 then 72340172838076927 else if w = 5 then -71775015237779199 else -9187201950435737345
theorem td_edge_all : ((List.range 8).all fun w => (List.range 64).all fun i => bl (td_edge w) i == decide (td_ps w i 1 = 64)) = true := by decide +kernel
theorem td_edge_bl {w : Nat} (hw : w < 8) : ∀ i, i < 64 → bl (td_edge w) i = decide (td_ps w i 1 = 64) := fun i hi => by
  have := td_all2 td_edge_all hw hi
  rw [beq_iff_eq] at this; exact this
theorem td_held_bl {w : Nat} (hw : w < 8) (hup : td_upw w = true) (hdn : td_upw (7 - w) = false) (hsh : td_sh (7 - w) = td_sh w) (m : Int64) {i : Nat} (hi : i < 64) : bl (td_held m (nI (td_sh w)) (td_edge w) (td_edge (7 - w))) i = true ↔ (td_FU m w i 7 ∨ td_FU m (7 - w) i 7) := by
  unfold td_held
  rw [bl_or, Bool.or_eq_true, td_hup_bl hw hup m _ (td_edge_bl hw) hi, ← hsh, td_hdn_bl (by omega) hdn m _ (td_edge_bl (by omega)) hi]
theorem td_fu_FU {g : Nat → Int32} {who : Int32} {m : Int64} (h : ∀ j, j < 64 → (g j = who + 1 ↔ bl m j = true)) {w i : Nat} (hw : w < 8) (hi : i < 64) : td_fu g who w i = true ↔ td_FU m w i 7 := by
  unfold td_fu
  have hge : ∀ j, j < 9 → ¬ td_ps w i j < 64 → td_ps w i j = 64 := fun j hj hn => by
    unfold td_ps at hn ⊢
    by_cases hc : td_on8 (td_r w i j) (td_c w i j) = true
    · exact absurd ((td_ps_on hw hi hj).mp hc) (by unfold td_ps; exact hn)
    · rw [if_neg hc]
  have hle := td_cnt_le hw hi g (who + 1) 8
  have hin := td_cnt_in g (who + 1) w i 8 0
  have hout := td_cnt_out hw hi g (who + 1) 8 0 (by omega)
  generalize td_cnt g (who + 1) w i 8 0 = k at hle hin hout ⊢
  rw [Bool.not_eq_true', decide_eq_false_iff_not]
  constructor
  · intro hn
    exact ⟨k, hle, hge _ (by omega) hn, fun t t1 t2 => (h _ (hin t t1 t2).1).mp (hin t t1 t2).2⟩
  · rintro ⟨j, h1, h2, h3⟩ hlt
    have hout := hout.resolve_right (by omega)
    have hkj : ¬ k + 1 ≤ j := fun z => hout ⟨hlt, (h _ hlt).mpr (h3 (k + 1) (by omega) z)⟩
    by_cases he : k = j
    · subst he; omega
    · have := (hin (j + 1) (by omega) (by omega)).1
      omega
theorem td_safe_eq {g : Nat → Int32} {who q : Int32} {a b : Int64} (hw : who = 0 ∨ who = 1) (hq : q = 0 ∨ q = 1) (hR : td_rel g who a b) : td_safe (td_of a b who q) = td_bs (fun u => td_sf g q u) 64 := by
  symm
  refine td_bs_eq (fun i hi => ?_)
  have h := td_of_bl hw hq hR
  generalize td_of a b who q = m at h
  have e : td_safe m = (((m &&& td_held m (nI (td_sh 4)) (td_edge 4) (td_edge (7 - 4))) &&& td_held m (nI (td_sh 6)) (td_edge 6) (td_edge (7 - 6))) &&& td_held m (nI (td_sh 7)) (td_edge 7) (td_edge (7 - 7))) &&& td_held m (nI (td_sh 5)) (td_edge 5) (td_edge (7 - 5)) := rfl
  refine td_bool ?_
  rw [td_sf_iff, e, bl_and, bl_and, bl_and, bl_and, Bool.and_eq_true, Bool.and_eq_true, Bool.and_eq_true, Bool.and_eq_true, td_held_bl (by decide) (by decide) (by decide) (by decide) m hi, td_held_bl (by decide) (by decide) (by decide) (by decide) m hi, td_held_bl (by decide) (by decide) (by decide) (by decide) m hi, td_held_bl (by decide) (by decide) (by decide) (by decide) m hi, h i hi]
  have hf : ∀ w, w < 8 → (td_fu g q w i = true ↔ td_FU m w i 7) := fun w hw => td_fu_FU h hw hi
  constructor
  · rintro ⟨h1, h2⟩
    have k0 := h2 0 (by decide)
    have k1 := h2 1 (by decide)
    have k2 := h2 2 (by decide)
    have k3 := h2 3 (by decide)
    rw [hf _ (by decide), hf _ (by decide)] at k0 k1 k2 k3
    exact ⟨⟨⟨⟨h1, k3.symm⟩, k1.symm⟩, k0.symm⟩, k2.symm⟩
  · rintro ⟨⟨⟨⟨h1, k3⟩, k1⟩, k0⟩, k2⟩
    refine ⟨h1, fun w hw => ?_⟩
    rw [hf _ (by omega), hf _ (by omega)]
    match w, hw with
    | 0, _ => exact k0.symm
    | 1, _ => exact k1.symm
    | 2, _ => exact k2.symm
    | 3, _ => exact k3.symm
