/-! the reference: must the mover pass, is a line full, how many spots can be moved to -/
def td_fu (g : Nat → Int32) (who : Int32) (w s : Nat) : Bool := !decide (td_ps w s (td_cnt g (who + 1) w s 8 0 + 1) < 64)
set_option maxHeartbeats 4000000 in
set_option maxRecDepth 100000 in
theorem m_X1_mustPass (l : Launch) (D : va_G) (o ac : Nat) (cI : ClassId) (fs : List Value) (hfs : fs[1]? = some (.ref ac)) (ce : Nat → Int32) (am : Nat) (hfs2 : fs[2]? = some (.ref am)) (mv : Nat → Int32) (L : Nat) (hL : L ≤ 18) : Met l y_X1_mustPass (k_X1_mustPass :: tw) ({ frames := 4, cells := 0, slots := 0, locals := 103 }) (va_Pc [.ref o, .int (nI L)] (fun U => va_P D tdC [(o, .inr (1, fs)), (ac, .inl (cI, 1216, .inl ce)), (am, .inl (cI, 19, .inl mv))] U.heap ∧ va_K D tdC [(cI, .int)] U)) (vp_Si (fun x => ((td_mv (td_lv ce L) (mv L) = 0 ∧ 0 < td_mv (td_lv ce L) (1 - mv L)) ∧ x = 1) ∨ (¬ (td_mv (td_lv ce L) (mv L) = 0 ∧ 0 < td_mv (td_lv ce L) (1 - mv L)) ∧ x = 0))) 0 0 (fun _ => False) := by
  refine Met.ofW (cc := c_X1_mustPass) (maxL := 2) (ret := (some .boolean)) (by decide) rfl ?_
  intro p e s m args below meth c s₁ B hml hv
  obtain ⟨rfl, hP, hK⟩ := hv
  have hx := B.exec
  have hb := B.bytes
  have hr := B.returns
  have hts : ∀ w ∈ tw, w.before _ s = true := fun w h => atoms_spec (ws := k_X1_mustPass :: tw) B.pre w (List.mem_cons_of_mem _ h)
  have hown : s.vm.findClass RX1 = some m.cls := findClass_of_methodNamed B.named
  have hlocks := B.notSynchronized
  have hl := lv_entry ([.ref o, .int (nI L)]) (n := 2) (Nat.le_of_ble_eq_true rfl)
  rw [lg_entry_eq]
  generalize (lg_sl ([.ref o, .int (nI L)]) ++ List.replicate (2 - (lg_sl ([.ref o, .int (nI L)])).length) Slot.unset).toArray = ls at hl ⊢
  have hl : lv_has ls 2 [(0, .ref o), (1, .int (nI L))] := hl
  have hP2 := hP.sub (ws' := [(o, .inr (1, fs)), (ac, .inl (cI, 1216, .inl ce))]) [0, 1] rfl
  refine td_joini 35 ls [] (fun x => ((td_mv (td_lv ce L) (mv L) = 0 ∧ 0 < td_mv (td_lv ce L) (1 - mv L)) ∧ x = 1) ∨ (¬ (td_mv (td_lv ce L) (mv L) = 0 ∧ 0 < td_mv (td_lv ce L) (1 - mv L)) ∧ x = 0)) (fun x ex => ?_) (fun J => ?_)
  · rcases id ex with ⟨_, e1⟩ | ⟨_, e1⟩
    · subst e1
      exact W.zret (v := _) hx hb hr (by first | rfl | decide | assumption) (fun t ht hW => ⟨_, rfl, ex, ht⟩) (fun _ h => nomatch h) d_X1_mustPass_35
    · subst e1
      exact W.zret (v := _) hx hb hr (by first | rfl | decide | assumption) (fun t ht hW => ⟨_, rfl, ex, ht⟩) (fun _ h => nomatch h) d_X1_mustPass_35
  · refine lv_aload_n hx hb d_X1_mustPass_0 rfl (lv_at hl 0 rfl) ?_
    refine lv_iload_n hx hb d_X1_mustPass_1 rfl (lv_at hl 1 rfl) ?_
    refine lv_aload_n hx hb d_X1_mustPass_2 rfl (lv_at hl 0 rfl) ?_
    refine va_get (D := D) (ci := 1) (v := .ref am) (C := RX1) (T := TX1) (N := 14) hx hb hts usX1 hown hK hP 0 rfl rfl 2 (by decide) (hts _ fl_X1_13) (fun _ h9 => h9) hfs2 d_X1_mustPass_3 ?_
    refine lv_iload_n hx hb d_X1_mustPass_6 rfl (lv_at hl 1 rfl) ?_
    refine va_iald hx hb hK hP 2 0 rfl rfl (vp_in_nI (show L < 19 by omega) (by decide)) d_X1_mustPass_7 ?_
    refine td_i (y := (mv L)) (by rw [nI_clamp (by omega)]) ?_
    refine vp_callSi (W.runV (b := o) (C := RX1) (As := [.int (nI L), .int (mv L)]) (rest := []) ⟨hx, hb, hml, hown, hts⟩ (m_X1_movesAt l D o ac cI fs hfs ce L hL (mv L)) (cwV 2 hts (tw_V ml_X1_75 im_X1_movesAt se_X1_movesAt in_X1 kw_X1_movesAt) rfl rfl rfl (by decide +kernel) ⟨Nat.le_of_ble_eq_true rfl, Nat.le_of_ble_eq_true rfl⟩) ⟨fun a U g mk q => ⟨q.1, q.2.1, va_K.moved (u := U) (U := U.calling g mk a) (Vm.Alike.refl U.vm) q.2.2⟩, va_recv (q0 := 0) (ci := 1) hK hP rfl rfl, fun U hU hW => ⟨rfl, by rw [hU]; exact hP2, va_K.moved hW.alike hK⟩⟩ rfl rfl hl.1 rfl (lv_room (Nat.le_of_ble_eq_true rfl)) d_X1_mustPass_8 ⟨Nat.zero_le _, Nat.zero_le _⟩) (fun r h9 => ?_)
    subst h9
    refine lv_if_ne (tgt := 34) hx hb d_X1_mustPass_11 (by decide) (fun h1 => ?_) (fun h1 => ?_)
    · refine lv_iconst (v := 0) hx hb d_X1_mustPass_34 (by decide) ?_
      exact J _ (Or.inr ⟨fun z => h1 ((nI_eq (a := td_mv (td_lv ce L) (mv L)) (b := 0) (Nat.lt_of_le_of_lt (td_cn_le _ 64) (by decide)) (by decide)).mpr z.1), rfl⟩)
    · refine lv_aload_n hx hb d_X1_mustPass_14 rfl (lv_at hl 0 rfl) ?_
      refine lv_iload_n hx hb d_X1_mustPass_15 rfl (lv_at hl 1 rfl) ?_
      refine lv_iconst (v := 1) hx hb d_X1_mustPass_16 (by decide) ?_
      refine lv_aload_n hx hb d_X1_mustPass_17 rfl (lv_at hl 0 rfl) ?_
      refine va_get (D := D) (ci := 1) (v := .ref am) (C := RX1) (T := TX1) (N := 14) hx hb hts usX1 hown hK hP 0 rfl rfl 2 (by decide) (hts _ fl_X1_13) (fun _ h9 => h9) hfs2 d_X1_mustPass_18 ?_
      refine lv_iload_n hx hb d_X1_mustPass_21 rfl (lv_at hl 1 rfl) ?_
      refine va_iald hx hb hK hP 2 0 rfl rfl (vp_in_nI (show L < 19 by omega) (by decide)) d_X1_mustPass_22 ?_
      refine td_i (y := (mv L)) (by rw [nI_clamp (by omega)]) ?_
      refine lv_isub hx hb d_X1_mustPass_23 ?_
      refine vp_callSi (W.runV (b := o) (C := RX1) (As := [.int (nI L), .int (1 - (mv L))]) (rest := []) ⟨hx, hb, hml, hown, hts⟩ (m_X1_movesAt l D o ac cI fs hfs ce L hL (1 - mv L)) (cwV 2 hts (tw_V ml_X1_75 im_X1_movesAt se_X1_movesAt in_X1 kw_X1_movesAt) rfl rfl rfl (by decide +kernel) ⟨Nat.le_of_ble_eq_true rfl, Nat.le_of_ble_eq_true rfl⟩) ⟨fun a U g mk q => ⟨q.1, q.2.1, va_K.moved (u := U) (U := U.calling g mk a) (Vm.Alike.refl U.vm) q.2.2⟩, va_recv (q0 := 0) (ci := 1) hK hP rfl rfl, fun U hU hW => ⟨rfl, by rw [hU]; exact hP2, va_K.moved hW.alike hK⟩⟩ rfl rfl hl.1 rfl (lv_room (Nat.le_of_ble_eq_true rfl)) d_X1_mustPass_24 ⟨Nat.zero_le _, Nat.zero_le _⟩) (fun r h9 => ?_)
      subst h9
      refine lv_if_le (tgt := 34) hx hb d_X1_mustPass_27 (by decide) (fun h2 => ?_) (fun h2 => ?_)
      · refine lv_iconst (v := 0) hx hb d_X1_mustPass_34 (by decide) ?_
        exact J _ (Or.inr ⟨fun z => absurd ((nI_ltI (a := 0) (b := td_mv (td_lv ce L) (1 - mv L)) (by decide) (Nat.lt_of_le_of_lt (td_cn_le _ 64) (by decide))).mpr z.2) (Int32.not_lt.mpr h2), rfl⟩)
      · refine lv_iconst (v := 1) hx hb d_X1_mustPass_30 (by decide) ?_
        refine lv_goto (tgt := 35) hx hb d_X1_mustPass_31 (by decide) ?_
        exact J _ (Or.inl ⟨⟨(nI_eq (a := td_mv (td_lv ce L) (mv L)) (b := 0) (Nat.lt_of_le_of_lt (td_cn_le _ 64) (by decide)) (by decide)).mp h1, (nI_ltI (a := 0) (b := td_mv (td_lv ce L) (1 - mv L)) (by decide) (Nat.lt_of_le_of_lt (td_cn_le _ 64) (by decide))).mp (Int32.not_le.mp h2)⟩, rfl⟩)
set_option maxHeartbeats 4000000 in
set_option maxRecDepth 100000 in
theorem m_X1_isFull (l : Launch) (D : va_G) (o ac : Nat) (cI : ClassId) (fs : List Value) (hfs : fs[1]? = some (.ref ac)) (ce : Nat → Int32) (s0 : Nat) (hs0 : s0 < 64) (w0 : Nat) (hw0 : w0 < 8) (who : Int32) : Met l y_X1_isFull (k_X1_isFull :: tw) ({ frames := 1, cells := 0, slots := 0, locals := 23 }) (va_Pc [.ref o, .int (nI s0), .int (nI w0), .int who] (fun U => va_P D tdC [(o, .inr (1, fs)), (ac, .inl (cI, 1216, .inl ce))] U.heap ∧ va_K D tdC [(cI, .int)] U)) (vp_Si (fun x => (td_fu (td_lv ce 0) who w0 s0 = true ∧ x = 1) ∨ (¬ td_fu (td_lv ce 0) who w0 s0 = true ∧ x = 0))) 0 0 (fun _ => False) := by
  refine Met.ofW (cc := c_X1_isFull) (maxL := 6) (ret := (some .boolean)) (by decide) rfl ?_
  intro p e s m args below meth c s₁ B hml hv
  obtain ⟨rfl, hP, hK⟩ := hv
  have hx := B.exec
  have hb := B.bytes
  have hr := B.returns
  have hts : ∀ w ∈ tw, w.before _ s = true := fun w h => atoms_spec (ws := k_X1_isFull :: tw) B.pre w (List.mem_cons_of_mem _ h)
  have hown : s.vm.findClass RX1 = some m.cls := findClass_of_methodNamed B.named
  have hlocks := B.notSynchronized
  have hl := lv_entry ([.ref o, .int (nI s0), .int (nI w0), .int who]) (n := 6) (Nat.le_of_ble_eq_true rfl)
  rw [lg_entry_eq]
  generalize (lg_sl ([.ref o, .int (nI s0), .int (nI w0), .int who]) ++ List.replicate (6 - (lg_sl ([.ref o, .int (nI s0), .int (nI w0), .int who])).length) Slot.unset).toArray = ls at hl ⊢
  have hl : lv_has ls 6 [(0, .ref o), (1, .int (nI s0)), (2, .int (nI w0)), (3, .int who)] := hl
  refine lv_iload_n hx hb d_X1_isFull_0 rfl (lv_at hl 1 rfl) ?_
  refine lv_bipush (v := 8) hx hb d_X1_isFull_1 (by decide) ?_
  refine lv_idiv hx hb d_X1_isFull_3 (by decide) ?_
  refine lv_iload_n hx hb d_X1_isFull_4 rfl (lv_at hl 2 rfl) ?_
  refine vp_callSi (W.runS (As := [.int (nI w0)]) (rest := [.int ((nI s0) / 8)]) ⟨hx, hb, hml, hown, hts⟩ (m_X1_rowWay l (nI w0)) (va_cwS 1 hts (tw_S ml_X1_52 st_X1_rowWay in_X1 kw_X1_rowWay) rfl rfl rfl (by decide +kernel) ⟨Nat.le_of_ble_eq_true rfl, Nat.le_of_ble_eq_true rfl⟩) ⟨fun _ _ _ _ q => q, fun U hU hW => ⟨rfl, trivial⟩⟩ rfl rfl hl.1 rfl (lv_room (Nat.le_of_ble_eq_true rfl)) d_X1_isFull_5 ⟨Nat.zero_le _, Nat.zero_le _⟩) (fun r hq => ?_)
  subst hq
  refine lv_iadd hx hb d_X1_isFull_8 ?_
  refine td_i (y := (td_r w0 s0 1)) (rfl) ?_
  refine lv_istore hx hb d_X1_isFull_9 hl (by decide) rfl (fun ls hl => ?_)
  have hl : lv_has ls 6 [(4, .int (td_r w0 s0 1)), (0, .ref o), (1, .int (nI s0)), (2, .int (nI w0)), (3, .int who)] := hl
  refine lv_iload_n hx hb d_X1_isFull_11 rfl (lv_at hl 2 rfl) ?_
  refine lv_bipush (v := 8) hx hb d_X1_isFull_12 (by decide) ?_
  refine lv_irem hx hb d_X1_isFull_14 (by decide) ?_
  refine lv_iload_n hx hb d_X1_isFull_15 rfl (lv_at hl 3 rfl) ?_
  refine vp_callSi (W.runS (As := [.int (nI w0)]) (rest := [.int ((nI s0) - (nI s0) / 8 * 8)]) ⟨hx, hb, hml, hown, hts⟩ (m_X1_columnWay l (nI w0)) (va_cwS 1 hts (tw_S ml_X1_56 st_X1_columnWay in_X1 kw_X1_columnWay) rfl rfl rfl (by decide +kernel) ⟨Nat.le_of_ble_eq_true rfl, Nat.le_of_ble_eq_true rfl⟩) ⟨fun _ _ _ _ q => q, fun U hU hW => ⟨rfl, trivial⟩⟩ rfl rfl hl.1 rfl (lv_room (Nat.le_of_ble_eq_true rfl)) d_X1_isFull_16 ⟨Nat.zero_le _, Nat.zero_le _⟩) (fun r hq => ?_)
  subst hq
  refine lv_iadd hx hb d_X1_isFull_19 ?_
  refine td_i (y := (td_c w0 s0 1)) (rfl) ?_
  refine lv_istore hx hb d_X1_isFull_20 hl (by decide) rfl (fun ls hl => ?_)
  have hl : lv_has ls 6 [(5, .int (td_c w0 s0 1)), (4, .int (td_r w0 s0 1)), (0, .ref o), (1, .int (nI s0)), (2, .int (nI w0)), (3, .int who)] := hl
  generalize hN : td_cnt (td_lv ce 0) (who + 1) w0 s0 8 0 = N
  have hfu : td_fu (td_lv ce 0) who w0 s0 = true ↔ ¬ td_ps w0 s0 (N + 1) < 64 := by unfold td_fu; rw [hN]; simp only [Bool.not_eq_true', decide_eq_false_iff_not]
  have hl0 := lv_sub hl [2, 4, 5, 1, 0] rfl
  refine td_loop 22 [] (fun j : Nat => 8 - j) (fun j ls => (j ≤ 7 ∧ td_cnt (td_lv ce 0) (who + 1) w0 s0 (8 - j) j = N) ∧ lv_has ls 6 [(0, .ref o), (2, .int (nI w0)), (3, .int who), (4, .int (td_r w0 s0 (j + 1))), (5, .int (td_c w0 s0 (j + 1)))]) (fun j ls hC ih => ?_) 0 ⟨⟨Nat.zero_le _, hN⟩, hl0⟩
  clear hl hl0
  obtain ⟨hi, hl⟩ := hC
  have hl : lv_has ls 6 [(0, .ref o), (2, .int (nI w0)), (3, .int who), (4, .int (td_r w0 s0 (j + 1))), (5, .int (td_c w0 s0 (j + 1)))] := hl
  obtain ⟨hj, hcn⟩ := hi
  have hst : 8 - j = (8 - (j + 1)) + 1 := by omega
  rw [hst] at hcn
  unfold td_cnt at hcn
  have hgeo := td_ps_on (w := w0) (s := s0) (j := j + 1) hw0 hs0 (by omega)
  refine td_joinu 68 ls [] (j = N) (fun hend => ?_) (fun J => ?_)
  · subst hend
    refine lv_iload hx hb d_X1_isFull_68 (lv_at hl 3 rfl) ?_
    refine lv_iload hx hb d_X1_isFull_70 (lv_at hl 4 rfl) ?_
    refine vp_callSi (W.runS (As := [.int (td_r w0 s0 (j + 1)), .int (td_c w0 s0 (j + 1))]) (rest := []) ⟨hx, hb, hml, hown, hts⟩ (m_X1_isOn l (td_r w0 s0 (j + 1)) (td_c w0 s0 (j + 1))) (va_cwS 2 hts (tw_S ml_X1_59 st_X1_isOn in_X1 kw_X1_isOn) rfl rfl rfl (by decide +kernel) ⟨Nat.le_of_ble_eq_true rfl, Nat.le_of_ble_eq_true rfl⟩) ⟨fun _ _ _ _ q => q, fun U hU hW => ⟨rfl, trivial⟩⟩ rfl rfl hl.1 rfl (lv_room (Nat.le_of_ble_eq_true rfl)) d_X1_isFull_72 ⟨Nat.zero_le _, Nat.zero_le _⟩) (fun r hq => ?_)
    refine td_joini 83 ls [] (fun x => (td_fu (td_lv ce 0) who w0 s0 = true ∧ x = 1) ∨ (¬ td_fu (td_lv ce 0) who w0 s0 = true ∧ x = 0)) (fun x ex => ?_) (fun J2 => ?_)
    · rcases id ex with ⟨_, e1⟩ | ⟨_, e1⟩
      · subst e1
        exact W.zret (v := _) hx hb hr (by first | rfl | decide | assumption) (fun t ht hW => ⟨_, rfl, ex, ht⟩) (fun _ h => nomatch h) d_X1_isFull_83
      · subst e1
        exact W.zret (v := _) hx hb hr (by first | rfl | decide | assumption) (fun t ht hW => ⟨_, rfl, ex, ht⟩) (fun _ h => nomatch h) d_X1_isFull_83
    · refine lv_if_ne (tgt := 82) hx hb d_X1_isFull_75 (by decide) (fun h1 => ?_) (fun h1 => ?_)
      · refine lv_iconst (v := 0) hx hb d_X1_isFull_82 (by decide) ?_
        exact J2 _ (Or.inr ⟨fun z => hq.elim (fun y => hfu.mp z (hgeo.mp y.1)) (fun y => h1 y.2), rfl⟩)
      · refine lv_iconst (v := 1) hx hb d_X1_isFull_78 (by decide) ?_
        refine lv_goto (tgt := 83) hx hb d_X1_isFull_79 (by decide) ?_
        exact J2 _ (Or.inl ⟨hfu.mpr (fun z => hq.elim (fun y => absurd (y.2.symm.trans h1) (by decide)) (fun y => y.1 (hgeo.mpr z))), rfl⟩)
  · refine lv_iload hx hb d_X1_isFull_22 (lv_at hl 3 rfl) ?_
    refine lv_iload hx hb d_X1_isFull_24 (lv_at hl 4 rfl) ?_
    refine vp_callSi (W.runS (As := [.int (td_r w0 s0 (j + 1)), .int (td_c w0 s0 (j + 1))]) (rest := []) ⟨hx, hb, hml, hown, hts⟩ (m_X1_isOn l (td_r w0 s0 (j + 1)) (td_c w0 s0 (j + 1))) (va_cwS 2 hts (tw_S ml_X1_59 st_X1_isOn in_X1 kw_X1_isOn) rfl rfl rfl (by decide +kernel) ⟨Nat.le_of_ble_eq_true rfl, Nat.le_of_ble_eq_true rfl⟩) ⟨fun _ _ _ _ q => q, fun U hU hW => ⟨rfl, trivial⟩⟩ rfl rfl hl.1 rfl (lv_room (Nat.le_of_ble_eq_true rfl)) d_X1_isFull_26 ⟨Nat.zero_le _, Nat.zero_le _⟩) (fun r hq => ?_)
    refine lv_if_eq (tgt := 68) hx hb d_X1_isFull_29 (by decide) (fun h1 => ?_) (fun h1 => ?_)
    · have hno : ¬ td_ps w0 s0 (j + 1) < 64 := fun z => hq.elim (fun y => absurd (y.2.symm.trans h1) (by decide)) (fun y => y.1 (hgeo.mpr z))
      rw [if_neg (fun z => hno z.1)] at hcn
      exact J hcn
    · have hon := hq.elim (fun y => y.1) (fun y => absurd y.2 h1)
      obtain ⟨g1, g2, g3, g4⟩ := td_geo hw0 hs0 (by omega) hon
      refine lv_aload_n hx hb d_X1_isFull_32 rfl (lv_at hl 0 rfl) ?_
      refine lv_iconst (v := 0) hx hb d_X1_isFull_33 (by decide) ?_
      refine lv_iload hx hb d_X1_isFull_34 (lv_at hl 3 rfl) ?_
      refine lv_iload hx hb d_X1_isFull_36 (lv_at hl 4 rfl) ?_
      refine vp_callSi (W.runV (b := o) (C := RX1) (As := [.int 0, .int (td_r w0 s0 (j + 1)), .int (td_c w0 s0 (j + 1))]) (rest := []) ⟨hx, hb, hml, hown, hts⟩ (m_X1_cellOf l D o ac cI fs hfs ce 0 (by decide) _ _ (td_ps w0 s0 (j + 1) / 8) (td_ps w0 s0 (j + 1) % 8) (by omega) (by omega) g2 g3) (cwV 3 hts (tw_V ml_X1_63 im_X1_cellOf se_X1_cellOf in_X1 kw_X1_cellOf) rfl rfl rfl (by decide +kernel) ⟨Nat.le_of_ble_eq_true rfl, Nat.le_of_ble_eq_true rfl⟩) ⟨fun a U g mk q => ⟨q.1, q.2.1, va_K.moved (u := U) (U := U.calling g mk a) (Vm.Alike.refl U.vm) q.2.2⟩, va_recv (q0 := 0) (ci := 1) hK hP rfl rfl, fun U hU hW => ⟨rfl, by rw [hU]; exact hP, va_K.moved hW.alike hK⟩⟩ rfl rfl hl.1 rfl (lv_room (Nat.le_of_ble_eq_true rfl)) d_X1_isFull_38 ⟨Nat.zero_le _, Nat.zero_le _⟩) (fun r h9 => ?_)
      subst h9
      refine td_i (y := (td_lv ce 0 (td_ps w0 s0 (j + 1)))) (by rw [Nat.div_add_mod]; rfl) ?_
      refine lv_iload_n hx hb d_X1_isFull_41 rfl (lv_at hl 2 rfl) ?_
      refine lv_iconst (v := 1) hx hb d_X1_isFull_42 (by decide) ?_
      refine lv_iadd hx hb d_X1_isFull_43 ?_
      refine lv_icmp_ne (tgt := 68) hx hb d_X1_isFull_44 (by decide) (fun h2 => ?_) (fun h2 => ?_)
      · rw [if_neg (fun z => h2 z.2)] at hcn
        exact J hcn
      · rw [if_pos ⟨g1, h2⟩] at hcn
        have hj7 : j + 1 ≤ 7 := by
          by_cases hj8 : j = 7
          · rw [hj8, td_ps8 hw0 hs0] at g1; omega
          · omega
        refine lv_iload hx hb d_X1_isFull_47 (lv_at hl 3 rfl) ?_
        refine lv_iload_n hx hb d_X1_isFull_49 rfl (lv_at hl 1 rfl) ?_
        refine vp_callSi (W.runS (As := [.int (nI w0)]) (rest := [.int (td_r w0 s0 (j + 1))]) ⟨hx, hb, hml, hown, hts⟩ (m_X1_rowWay l (nI w0)) (va_cwS 1 hts (tw_S ml_X1_52 st_X1_rowWay in_X1 kw_X1_rowWay) rfl rfl rfl (by decide +kernel) ⟨Nat.le_of_ble_eq_true rfl, Nat.le_of_ble_eq_true rfl⟩) ⟨fun _ _ _ _ q => q, fun U hU hW => ⟨rfl, trivial⟩⟩ rfl rfl hl.1 rfl (lv_room (Nat.le_of_ble_eq_true rfl)) d_X1_isFull_50 ⟨Nat.zero_le _, Nat.zero_le _⟩) (fun r h9 => ?_)
        subst h9
        refine lv_iadd hx hb d_X1_isFull_53 ?_
        refine td_i (y := (td_r w0 s0 (j + 1 + 1))) (rfl) ?_
        refine lv_istore hx hb d_X1_isFull_54 hl (by decide) rfl (fun ls hl => ?_)
        have hl : lv_has ls 6 [(4, .int (td_r w0 s0 (j + 1 + 1))), (0, .ref o), (2, .int (nI w0)), (3, .int who), (5, .int (td_c w0 s0 (j + 1)))] := hl
        refine lv_iload hx hb d_X1_isFull_56 (lv_at hl 4 rfl) ?_
        refine lv_iload_n hx hb d_X1_isFull_58 rfl (lv_at hl 2 rfl) ?_
        refine vp_callSi (W.runS (As := [.int (nI w0)]) (rest := [.int (td_c w0 s0 (j + 1))]) ⟨hx, hb, hml, hown, hts⟩ (m_X1_columnWay l (nI w0)) (va_cwS 1 hts (tw_S ml_X1_56 st_X1_columnWay in_X1 kw_X1_columnWay) rfl rfl rfl (by decide +kernel) ⟨Nat.le_of_ble_eq_true rfl, Nat.le_of_ble_eq_true rfl⟩) ⟨fun _ _ _ _ q => q, fun U hU hW => ⟨rfl, trivial⟩⟩ rfl rfl hl.1 rfl (lv_room (Nat.le_of_ble_eq_true rfl)) d_X1_isFull_59 ⟨Nat.zero_le _, Nat.zero_le _⟩) (fun r h9 => ?_)
        subst h9
        refine lv_iadd hx hb d_X1_isFull_62 ?_
        refine td_i (y := (td_c w0 s0 (j + 1 + 1))) (rfl) ?_
        refine lv_istore hx hb d_X1_isFull_63 hl (by decide) rfl (fun ls hl => ?_)
        have hl : lv_has ls 6 [(5, .int (td_c w0 s0 (j + 1 + 1))), (4, .int (td_r w0 s0 (j + 1 + 1))), (0, .ref o), (2, .int (nI w0)), (3, .int who)] := hl
        refine lv_goto (tgt := 22) hx hb d_X1_isFull_65 (by decide) ?_
        have hl1 := lv_sub hl [2, 3, 4, 1, 0] rfl
        exact ih (j + 1) _ (by omega) ⟨⟨hj7, hcn⟩, hl1⟩
set_option maxHeartbeats 4000000 in
set_option maxRecDepth 100000 in
theorem m_X1_movable (l : Launch) (D : va_G) (o ac : Nat) (cI : ClassId) (fs : List Value) (hfs : fs[1]? = some (.ref ac)) (ce : Nat → Int32) (as_ : Nat) (hfs11 : fs[11]? = some (.ref as_)) (n0 : Nat) (hfs12 : fs[12]? = some (.int (nI n0))) (hn0 : n0 ≤ 64) (sp : Nat → Int32) (sn : Nat → Nat) (hsp : ∀ i, i < n0 → sn i < 64 ∧ sp i = nI (sn i)) (L : Nat) (hL : L ≤ 18) (who most : Int32) : Met l y_X1_movable (k_X1_movable :: tw) ({ frames := 3, cells := 0, slots := 0, locals := 75 }) (va_Pc [.ref o, .int (nI L), .int who, .int most] (fun U => va_P D tdC [(o, .inr (1, fs)), (ac, .inl (cI, 1216, .inl ce)), (as_, .inl (cI, 64, .inl sp))] U.heap ∧ va_K D tdC [(cI, .int)] U)) (vp_Si (fun x => x = nI (td_cap (fun i => td_any (td_lv ce L) who (sn i)) most n0 0 0))) 0 0 (fun _ => False) := by
  refine Met.ofW (cc := c_X1_movable) (maxL := 6) (ret := (some .int)) (by decide) rfl ?_
  intro p e s m args below meth c s₁ B hml hv
  obtain ⟨rfl, hP, hK⟩ := hv
  have hx := B.exec
  have hb := B.bytes
  have hr := B.returns
  have hts : ∀ w ∈ tw, w.before _ s = true := fun w h => atoms_spec (ws := k_X1_movable :: tw) B.pre w (List.mem_cons_of_mem _ h)
  have hown : s.vm.findClass RX1 = some m.cls := findClass_of_methodNamed B.named
  have hlocks := B.notSynchronized
  have hl := lv_entry ([.ref o, .int (nI L), .int who, .int most]) (n := 6) (Nat.le_of_ble_eq_true rfl)
  rw [lg_entry_eq]
  generalize (lg_sl ([.ref o, .int (nI L), .int who, .int most]) ++ List.replicate (6 - (lg_sl ([.ref o, .int (nI L), .int who, .int most])).length) Slot.unset).toArray = ls at hl ⊢
  have hl : lv_has ls 6 [(0, .ref o), (1, .int (nI L)), (2, .int who), (3, .int most)] := hl
  have hP2 := hP.sub (ws' := [(o, .inr (1, fs)), (ac, .inl (cI, 1216, .inl ce))]) [0, 1] rfl
  refine lv_iconst (v := 0) hx hb d_X1_movable_0 (by decide) ?_
  refine lv_istore hx hb d_X1_movable_1 hl (by decide) rfl (fun ls hl => ?_)
  have hl : lv_has ls 6 [(4, .int 0), (0, .ref o), (1, .int (nI L)), (2, .int who), (3, .int most)] := hl
  refine lv_iconst (v := 0) hx hb d_X1_movable_3 (by decide) ?_
  refine lv_istore hx hb d_X1_movable_4 hl (by decide) rfl (fun ls hl => ?_)
  have hl : lv_has ls 6 [(5, .int 0), (4, .int 0), (0, .ref o), (1, .int (nI L)), (2, .int who), (3, .int most)] := hl
  generalize hR : td_cap (fun i => td_any (td_lv ce L) who (sn i)) most n0 0 0 = RES
  have hl0 := lv_sub hl [2, 3, 4, 5, 1, 0] rfl
  refine td_loop 6 [] (fun z : Nat × Nat => n0 - z.1) (fun z ls => (z.1 ≤ n0 ∧ z.2 ≤ z.1 ∧ td_cap (fun i => td_any (td_lv ce L) who (sn i)) most (n0 - z.1) z.1 z.2 = RES) ∧ lv_has ls 6 [(0, .ref o), (1, .int (nI L)), (2, .int who), (3, .int most), (4, .int (nI z.2)), (5, .int (nI z.1))]) (fun z ls hC ih => ?_) (0, 0) ⟨⟨Nat.zero_le _, Nat.le_refl _, hR⟩, hl0⟩
  clear hl hl0
  obtain ⟨hi, hl⟩ := hC
  have hl : lv_has ls 6 [(0, .ref o), (1, .int (nI L)), (2, .int who), (3, .int most), (4, .int (nI z.2)), (5, .int (nI z.1))] := hl
  obtain ⟨i, n⟩ := z
  obtain ⟨hin, hni, hcap⟩ := hi
  dsimp only at hin hni hcap
  have hl : lv_has ls 6 [(0, .ref o), (1, .int (nI L)), (2, .int who), (3, .int most), (4, .int (nI n)), (5, .int (nI i))] := hl
  refine td_joinu 54 ls [] (n = RES) (fun hend => ?_) (fun J => ?_)
  · refine lv_iload hx hb d_X1_movable_54 (lv_at hl 4 rfl) ?_
    exact W.iret (v := (nI n)) hx hb hr (fun t ht hW => ⟨_, rfl, by rw [hend], ht⟩) (fun _ h => nomatch h) d_X1_movable_56
  · refine lv_iload hx hb d_X1_movable_6 (lv_at hl 5 rfl) ?_
    refine lv_aload_n hx hb d_X1_movable_8 rfl (lv_at hl 0 rfl) ?_
    refine va_get (D := D) (ci := 1) (v := .int (nI n0)) (C := RX1) (T := TX1) (N := 14) hx hb hts usX1 hown hK hP 0 rfl rfl 12 (by decide) (hts _ fl_X1_96) (fun _ h9 => h9) hfs12 d_X1_movable_9 ?_
    refine lv_icmp_ge (tgt := 54) hx hb d_X1_movable_12 (by decide) (fun h1 => ?_) (fun h1 => ?_)
    · have hiN : i = n0 := Nat.le_antisymm hin ((nI_leI (by omega) (by omega)).mp h1)
      rw [hiN, Nat.sub_self] at hcap
      exact J hcap
    · have hiN : i < n0 := Nat.lt_of_not_le (fun z => h1 ((nI_leI (by omega) (by omega)).mpr z))
      have hst : n0 - i = (n0 - (i + 1)) + 1 := by omega
      rw [hst] at hcap
      unfold td_cap at hcap
      obtain ⟨hs1, hs2⟩ := hsp i hiN
      refine lv_iload hx hb d_X1_movable_15 (lv_at hl 4 rfl) ?_
      refine lv_iload_n hx hb d_X1_movable_17 rfl (lv_at hl 3 rfl) ?_
      refine lv_icmp_ge (tgt := 54) hx hb d_X1_movable_18 (by decide) (fun h2 => ?_) (fun h2 => ?_)
      · rw [if_neg (Int32.not_lt.mpr h2)] at hcap
        exact J hcap
      · rw [if_pos (Int32.not_le.mp h2)] at hcap
        refine lv_aload_n hx hb d_X1_movable_21 rfl (lv_at hl 0 rfl) ?_
        refine lv_iload_n hx hb d_X1_movable_22 rfl (lv_at hl 1 rfl) ?_
        refine lv_aload_n hx hb d_X1_movable_23 rfl (lv_at hl 0 rfl) ?_
        refine va_get (D := D) (ci := 1) (v := .ref as_) (C := RX1) (T := TX1) (N := 14) hx hb hts usX1 hown hK hP 0 rfl rfl 11 (by decide) (hts _ fl_X1_36) (fun _ h9 => h9) hfs11 d_X1_movable_24 ?_
        refine lv_iload hx hb d_X1_movable_27 (lv_at hl 5 rfl) ?_
        refine va_iald hx hb hK hP 2 0 rfl rfl (vp_in_nI (show i < 64 by omega) (by decide)) d_X1_movable_29 ?_
        refine td_i (y := (nI (sn i))) (by rw [nI_clamp (by omega)]; exact hs2) ?_
        refine lv_iload_n hx hb d_X1_movable_30 rfl (lv_at hl 2 rfl) ?_
        refine vp_callSi (W.runV (b := o) (C := RX1) (As := [.int (nI L), .int (nI (sn i)), .int who]) (rest := []) ⟨hx, hb, hml, hown, hts⟩ (m_X1_turnsAny l D o ac cI fs hfs ce L hL (sn i) hs1 who) (cwV 3 hts (tw_V ml_X1_99 im_X1_turnsAny se_X1_turnsAny in_X1 kw_X1_turnsAny) rfl rfl rfl (by decide +kernel) ⟨Nat.le_of_ble_eq_true rfl, Nat.le_of_ble_eq_true rfl⟩) ⟨fun a U g mk q => ⟨q.1, q.2.1, va_K.moved (u := U) (U := U.calling g mk a) (Vm.Alike.refl U.vm) q.2.2⟩, va_recv (q0 := 0) (ci := 1) hK hP rfl rfl, fun U hU hW => ⟨rfl, by rw [hU]; exact hP2, va_K.moved hW.alike hK⟩⟩ rfl rfl hl.1 rfl (lv_room (Nat.le_of_ble_eq_true rfl)) d_X1_movable_31 ⟨Nat.zero_le _, Nat.zero_le _⟩) (fun r hq => ?_)
        refine td_joini 46 ls [] (fun x => x = nI (n + (if td_any (td_lv ce L) who (sn i) then 1 else 0))) (fun x ex => ?_) (fun J2 => ?_)
        · subst ex
          refine lv_istore hx hb d_X1_movable_46 hl (by decide) rfl (fun ls hl => ?_)
          have hl : lv_has ls 6 [(4, .int (nI (n + (if td_any (td_lv ce L) who (sn i) then 1 else 0)))), (0, .ref o), (1, .int (nI L)), (2, .int who), (3, .int most), (5, .int (nI i))] := hl
          refine lv_iinc (k := 5) (v := (nI (i + 1))) hx hb d_X1_movable_48 hl rfl ((nI_succ i).symm) (by decide) rfl (fun ls hl => ?_)
          have hl : lv_has ls 6 [(5, .int (nI (i + 1))), (4, .int (nI (n + (if td_any (td_lv ce L) who (sn i) then 1 else 0)))), (0, .ref o), (1, .int (nI L)), (2, .int who), (3, .int most)] := hl
          refine lv_goto (tgt := 6) hx hb d_X1_movable_51 (by decide) ?_
          have hl1 := lv_sub hl [2, 3, 4, 5, 1, 0] rfl
          exact ih (i + 1, n + (if td_any (td_lv ce L) who (sn i) then 1 else 0)) _ (by show n0 - (i + 1) < n0 - i; omega) ⟨⟨hiN, by show n + (if td_any (td_lv ce L) who (sn i) then 1 else 0) ≤ i + 1; by_cases hp : td_any (td_lv ce L) who (sn i) = true <;> simp [hp] <;> omega, hcap⟩, hl1⟩
        · refine lv_if_eq (tgt := 44) hx hb d_X1_movable_34 (by decide) (fun h3 => ?_) (fun h3 => ?_)
          · refine lv_iload hx hb d_X1_movable_44 (lv_at hl 4 rfl) ?_
            exact J2 _ (by rw [if_neg (hq.elim (fun y => absurd (y.2.symm.trans h3) (by decide)) (fun y => y.1)), Nat.add_zero])
          · refine lv_iload hx hb d_X1_movable_37 (lv_at hl 4 rfl) ?_
            refine lv_iconst (v := 1) hx hb d_X1_movable_39 (by decide) ?_
            refine lv_iadd hx hb d_X1_movable_40 ?_
            refine lv_goto (tgt := 46) hx hb d_X1_movable_41 (by decide) ?_
            exact J2 _ (by rw [if_pos (hq.elim (fun y => y.1) (fun y => absurd y.2 h3))]; exact (nI_succ _).symm)
