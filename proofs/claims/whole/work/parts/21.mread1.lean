set_option maxHeartbeats 4000000 in
set_option maxRecDepth 100000 in
theorem m_X1_isOn (l : Launch) (r q : Int32) : Met l y_X1_isOn (k_X1_isOn :: tw) ({ frames := 0, cells := 0, slots := 0, locals := 0 }) (va_Pc [.int r, .int q] (fun _ => True)) (vp_Si (fun x => (td_on8 r q = true ∧ x = 1) ∨ (¬ td_on8 r q = true ∧ x = 0))) 0 0 (fun _ => False) := by
  refine Met.ofW (cc := c_X1_isOn) (maxL := 2) (ret := (some .boolean)) (by decide) rfl ?_
  intro p e s m args below meth c s₁ B hml hv
  obtain ⟨rfl, hv⟩ := hv
  have hx := B.exec
  have hb := B.bytes
  have hr := B.returns
  have hts : ∀ w ∈ tw, w.before _ s = true := fun w h => atoms_spec (ws := k_X1_isOn :: tw) B.pre w (List.mem_cons_of_mem _ h)
  have hown : s.vm.findClass RX1 = some m.cls := findClass_of_methodNamed B.named
  have hlocks := B.notSynchronized
  have hl := lv_entry ([.int r, .int q]) (n := 2) (Nat.le_of_ble_eq_true rfl)
  rw [lg_entry_eq]
  generalize (lg_sl ([.int r, .int q]) ++ List.replicate (2 - (lg_sl ([.int r, .int q])).length) Slot.unset).toArray = ls at hl ⊢
  have hl : lv_has ls 2 [(0, .int r), (1, .int q)] := hl
  refine td_joini 25 ls [] (fun x => (td_on8 r q = true ∧ x = 1) ∨ (¬ td_on8 r q = true ∧ x = 0)) (fun x ex => ?_) (fun J => ?_)
  · rcases id ex with ⟨_, e1⟩ | ⟨_, e1⟩
    · subst e1
      exact W.zret (v := _) hx hb hr (by first | rfl | decide | assumption) (fun t ht hW => ⟨_, rfl, ex, ht⟩) (fun _ h => nomatch h) d_X1_isOn_25
    · subst e1
      exact W.zret (v := _) hx hb hr (by first | rfl | decide | assumption) (fun t ht hW => ⟨_, rfl, ex, ht⟩) (fun _ h => nomatch h) d_X1_isOn_25
  · have hio := td_on8_iff r q
    refine lv_iload_n hx hb d_X1_isOn_0 rfl (lv_at hl 0 rfl) ?_
    refine lv_if_lt (tgt := 24) hx hb d_X1_isOn_1 (by decide) (fun h0 => ?_) (fun h0 => ?_)
    · refine lv_iconst (v := 0) hx hb d_X1_isOn_24 (by decide) ?_
      exact J _ (Or.inr ⟨fun z => (hio.mp z).1 h0, rfl⟩)
    · refine lv_iload_n hx hb d_X1_isOn_4 rfl (lv_at hl 0 rfl) ?_
      refine lv_bipush (v := 8) hx hb d_X1_isOn_5 (by decide) ?_
      refine lv_icmp_ge (tgt := 24) hx hb d_X1_isOn_7 (by decide) (fun h1 => ?_) (fun h1 => ?_)
      · refine lv_iconst (v := 0) hx hb d_X1_isOn_24 (by decide) ?_
        exact J _ (Or.inr ⟨fun z => absurd (hio.mp z).2.1 (Int32.not_lt.mpr h1), rfl⟩)
      · refine lv_iload_n hx hb d_X1_isOn_10 rfl (lv_at hl 1 rfl) ?_
        refine lv_if_lt (tgt := 24) hx hb d_X1_isOn_11 (by decide) (fun h2 => ?_) (fun h2 => ?_)
        · refine lv_iconst (v := 0) hx hb d_X1_isOn_24 (by decide) ?_
          exact J _ (Or.inr ⟨fun z => (hio.mp z).2.2.1 h2, rfl⟩)
        · refine lv_iload_n hx hb d_X1_isOn_14 rfl (lv_at hl 1 rfl) ?_
          refine lv_bipush (v := 8) hx hb d_X1_isOn_15 (by decide) ?_
          refine lv_icmp_ge (tgt := 24) hx hb d_X1_isOn_17 (by decide) (fun h3 => ?_) (fun h3 => ?_)
          · refine lv_iconst (v := 0) hx hb d_X1_isOn_24 (by decide) ?_
            exact J _ (Or.inr ⟨fun z => absurd (hio.mp z).2.2.2 (Int32.not_lt.mpr h3), rfl⟩)
          · refine lv_iconst (v := 1) hx hb d_X1_isOn_20 (by decide) ?_
            refine lv_goto (tgt := 25) hx hb d_X1_isOn_21 (by decide) ?_
            exact J _ (Or.inl ⟨hio.mpr ⟨h0, Int32.not_le.mp h1, h2, Int32.not_le.mp h3⟩, rfl⟩)
set_option maxHeartbeats 4000000 in
set_option maxRecDepth 100000 in
theorem m_X1_rowWay (l : Launch) (w : Int32) : Met l y_X1_rowWay (k_X1_rowWay :: tw) ({ frames := 0, cells := 0, slots := 0, locals := 0 }) (va_Pc [.int w] (fun _ => True)) (vp_Si (fun x => x = td_rw w)) 0 0 (fun _ => False) := by
  refine Met.ofW (cc := c_X1_rowWay) (maxL := 1) (ret := (some .int)) (by decide) rfl ?_
  intro p e s m args below meth c s₁ B hml hv
  obtain ⟨rfl, hv⟩ := hv
  have hx := B.exec
  have hb := B.bytes
  have hr := B.returns
  have hts : ∀ w ∈ tw, w.before _ s = true := fun w h => atoms_spec (ws := k_X1_rowWay :: tw) B.pre w (List.mem_cons_of_mem _ h)
  have hown : s.vm.findClass RX1 = some m.cls := findClass_of_methodNamed B.named
  have hlocks := B.notSynchronized
  have hl := lv_entry ([.int w]) (n := 1) (Nat.le_of_ble_eq_true rfl)
  rw [lg_entry_eq]
  generalize (lg_sl ([.int w]) ++ List.replicate (1 - (lg_sl ([.int w])).length) Slot.unset).toArray = ls at hl ⊢
  have hl : lv_has ls 1 [(0, .int w)] := hl
  refine td_joini 19 ls [] (fun x => x = td_rw w) (fun x ex => ?_) (fun J => ?_)
  · exact W.iret (v := x) hx hb hr (fun t ht hW => ⟨_, rfl, ex, ht⟩) (fun _ h => nomatch h) d_X1_rowWay_19
  · refine lv_iload_n hx hb d_X1_rowWay_0 rfl (lv_at hl 0 rfl) ?_
    refine lv_iconst (v := 3) hx hb d_X1_rowWay_1 (by decide) ?_
    refine lv_icmp_ge (tgt := 9) hx hb d_X1_rowWay_2 (by decide) (fun h0 => ?_) (fun h0 => ?_)
    · refine lv_iload_n hx hb d_X1_rowWay_9 rfl (lv_at hl 0 rfl) ?_
      refine lv_iconst (v := 5) hx hb d_X1_rowWay_10 (by decide) ?_
      refine lv_icmp_ge (tgt := 18) hx hb d_X1_rowWay_11 (by decide) (fun h1 => ?_) (fun h1 => ?_)
      · refine lv_iconst (v := 1) hx hb d_X1_rowWay_18 (by decide) ?_
        exact J _ (by unfold td_rw; rw [if_neg (Int32.not_lt.mpr h0), if_neg (Int32.not_lt.mpr h1)])
      · refine lv_iconst (v := 0) hx hb d_X1_rowWay_14 (by decide) ?_
        refine lv_goto (tgt := 19) hx hb d_X1_rowWay_15 (by decide) ?_
        exact J _ (by unfold td_rw; rw [if_neg (Int32.not_lt.mpr h0), if_pos (Int32.not_le.mp h1)])
    · refine lv_iconst (v := (-1)) hx hb d_X1_rowWay_5 (by decide) ?_
      refine lv_goto (tgt := 19) hx hb d_X1_rowWay_6 (by decide) ?_
      exact J _ (by unfold td_rw; rw [if_pos (Int32.not_le.mp h0)])
set_option maxHeartbeats 4000000 in
set_option maxRecDepth 100000 in
theorem m_X1_columnWay (l : Launch) (w : Int32) : Met l y_X1_columnWay (k_X1_columnWay :: tw) ({ frames := 0, cells := 0, slots := 0, locals := 0 }) (va_Pc [.int w] (fun _ => True)) (vp_Si (fun x => x = td_cw w)) 0 0 (fun _ => False) := by
  refine Met.ofW (cc := c_X1_columnWay) (maxL := 1) (ret := (some .int)) (by decide) rfl ?_
  intro p e s m args below meth c s₁ B hml hv
  obtain ⟨rfl, hv⟩ := hv
  have hx := B.exec
  have hb := B.bytes
  have hr := B.returns
  have hts : ∀ w ∈ tw, w.before _ s = true := fun w h => atoms_spec (ws := k_X1_columnWay :: tw) B.pre w (List.mem_cons_of_mem _ h)
  have hown : s.vm.findClass RX1 = some m.cls := findClass_of_methodNamed B.named
  have hlocks := B.notSynchronized
  have hl := lv_entry ([.int w]) (n := 1) (Nat.le_of_ble_eq_true rfl)
  rw [lg_entry_eq]
  generalize (lg_sl ([.int w]) ++ List.replicate (1 - (lg_sl ([.int w])).length) Slot.unset).toArray = ls at hl ⊢
  have hl : lv_has ls 1 [(0, .int w)] := hl
  refine td_joini 34 ls [] (fun x => x = td_cw w) (fun x ex => ?_) (fun J => ?_)
  · exact W.iret (v := x) hx hb hr (fun t ht hW => ⟨_, rfl, ex, ht⟩) (fun _ h => nomatch h) d_X1_columnWay_34
  · refine td_joinu 14 ls [] (w = 0 ∨ w = 3 ∨ w = 5) (fun hy => ?_) (fun J1 => ?_)
    · refine lv_iconst (v := (-1)) hx hb d_X1_columnWay_14 (by decide) ?_
      refine lv_goto (tgt := 34) hx hb d_X1_columnWay_15 (by decide) ?_
      exact J _ (by unfold td_cw; rw [if_pos hy])
    · refine lv_iload_n hx hb d_X1_columnWay_0 rfl (lv_at hl 0 rfl) ?_
      refine lv_if_eq (tgt := 14) hx hb d_X1_columnWay_1 (by decide) (fun h0 => ?_) (fun h0 => ?_)
      · exact J1 (Or.inl h0)
      · refine lv_iload_n hx hb d_X1_columnWay_4 rfl (lv_at hl 0 rfl) ?_
        refine lv_iconst (v := 3) hx hb d_X1_columnWay_5 (by decide) ?_
        refine lv_icmp_eq (tgt := 14) hx hb d_X1_columnWay_6 (by decide) (fun h1 => ?_) (fun h1 => ?_)
        · exact J1 (Or.inr (Or.inl h1))
        · refine lv_iload_n hx hb d_X1_columnWay_9 rfl (lv_at hl 0 rfl) ?_
          refine lv_iconst (v := 5) hx hb d_X1_columnWay_10 (by decide) ?_
          refine lv_icmp_ne (tgt := 18) hx hb d_X1_columnWay_11 (by decide) (fun h2 => ?_) (fun h2 => ?_)
          · have hn : ¬ (w = 0 ∨ w = 3 ∨ w = 5) := fun z => z.elim h0 (fun z => z.elim h1 h2)
            refine td_joinu 29 ls [] (w = 1 ∨ w = 6) (fun hy => ?_) (fun J2 => ?_)
            · refine lv_iconst (v := 0) hx hb d_X1_columnWay_29 (by decide) ?_
              refine lv_goto (tgt := 34) hx hb d_X1_columnWay_30 (by decide) ?_
              exact J _ (by unfold td_cw; rw [if_neg hn, if_pos hy])
            · refine lv_iload_n hx hb d_X1_columnWay_18 rfl (lv_at hl 0 rfl) ?_
              refine lv_iconst (v := 1) hx hb d_X1_columnWay_19 (by decide) ?_
              refine lv_icmp_eq (tgt := 29) hx hb d_X1_columnWay_20 (by decide) (fun h3 => ?_) (fun h3 => ?_)
              · exact J2 (Or.inl h3)
              · refine lv_iload_n hx hb d_X1_columnWay_23 rfl (lv_at hl 0 rfl) ?_
                refine lv_bipush (v := 6) hx hb d_X1_columnWay_24 (by decide) ?_
                refine lv_icmp_ne (tgt := 33) hx hb d_X1_columnWay_26 (by decide) (fun h4 => ?_) (fun h4 => ?_)
                · refine lv_iconst (v := 1) hx hb d_X1_columnWay_33 (by decide) ?_
                  exact J _ (by unfold td_cw; rw [if_neg hn, if_neg (fun z => z.elim h3 h4)])
                · exact J2 (Or.inr h4)
          · exact J1 (Or.inr (Or.inr h2))
set_option maxHeartbeats 4000000 in
set_option maxRecDepth 100000 in
theorem m_X1_cellOf (l : Launch) (D : va_G) (o ac : Nat) (cI : ClassId) (fs : List Value) (hfs : fs[1]? = some (.ref ac)) (ce : Nat → Int32) (L : Nat) (hL : L ≤ 18) (r q : Int32) (a b : Nat) (ha : a < 8) (hb8 : b < 8) (hra : r = nI a) (hcb : q = nI b) : Met l y_X1_cellOf (k_X1_cellOf :: tw) ({ frames := 0, cells := 0, slots := 0, locals := 0 }) (va_Pc [.ref o, .int (nI L), .int r, .int q] (fun U => va_P D tdC [(o, .inr (1, fs)), (ac, .inl (cI, 1216, .inl ce))] U.heap ∧ va_K D tdC [(cI, .int)] U)) (vp_Si (fun x => x = ce (64 * L + (8 * a + b)))) 0 0 (fun _ => False) := by
  refine Met.ofW (cc := c_X1_cellOf) (maxL := 4) (ret := (some .int)) (by decide) rfl ?_
  intro p e s m args below meth c s₁ B hml hv
  obtain ⟨rfl, hP, hK⟩ := hv
  have hx := B.exec
  have hb := B.bytes
  have hr := B.returns
  have hts : ∀ w ∈ tw, w.before _ s = true := fun w h => atoms_spec (ws := k_X1_cellOf :: tw) B.pre w (List.mem_cons_of_mem _ h)
  have hown : s.vm.findClass RX1 = some m.cls := findClass_of_methodNamed B.named
  have hlocks := B.notSynchronized
  have hl := lv_entry ([.ref o, .int (nI L), .int r, .int q]) (n := 4) (Nat.le_of_ble_eq_true rfl)
  rw [lg_entry_eq]
  generalize (lg_sl ([.ref o, .int (nI L), .int r, .int q]) ++ List.replicate (4 - (lg_sl ([.ref o, .int (nI L), .int r, .int q])).length) Slot.unset).toArray = ls at hl ⊢
  have hl : lv_has ls 4 [(0, .ref o), (1, .int (nI L)), (2, .int r), (3, .int q)] := hl
  refine lv_aload_n hx hb d_X1_cellOf_0 rfl (lv_at hl 0 rfl) ?_
  refine va_get (D := D) (ci := 1) (v := .ref ac) (C := RX1) (T := TX1) (N := 14) hx hb hts usX1 hown hK hP 0 rfl rfl 1 (by decide) (hts _ fl_X1_7) (fun _ h9 => h9) hfs d_X1_cellOf_1 ?_
  refine lv_bipush (v := 64) hx hb d_X1_cellOf_4 (by decide) ?_
  refine lv_iload_n hx hb d_X1_cellOf_6 rfl (lv_at hl 1 rfl) ?_
  refine lv_imul hx hb d_X1_cellOf_7 ?_
  refine lv_bipush (v := 8) hx hb d_X1_cellOf_8 (by decide) ?_
  refine lv_iload_n hx hb d_X1_cellOf_10 rfl (lv_at hl 2 rfl) ?_
  refine lv_imul hx hb d_X1_cellOf_11 ?_
  refine lv_iadd hx hb d_X1_cellOf_12 ?_
  refine lv_iload_n hx hb d_X1_cellOf_13 rfl (lv_at hl 3 rfl) ?_
  refine lv_iadd hx hb d_X1_cellOf_14 ?_
  refine td_i (y := (nI (64 * L + (8 * a + b)))) (by rw [hra, hcb]; show nI 64 * nI L + nI 8 * nI a + nI b = _; rw [pk_mul, pk_mul, nI_add, nI_add, Nat.add_assoc]) ?_
  refine va_iald hx hb hK hP 1 0 rfl rfl (vp_in_nI (show 64 * L + (8 * a + b) < 1216 by omega) (by decide)) d_X1_cellOf_15 ?_
  refine td_i (y := (ce (64 * L + (8 * a + b)))) (by rw [nI_clamp (by omega)]) ?_
  exact W.iret (v := (ce (64 * L + (8 * a + b)))) hx hb hr (fun t ht hW => ⟨_, rfl, rfl, ht⟩) (fun _ h => nomatch h) d_X1_cellOf_16
set_option maxHeartbeats 4000000 in
set_option maxRecDepth 100000 in
theorem m_X1_along (l : Launch) (D : va_G) (o ac : Nat) (cI : ClassId) (fs : List Value) (hfs : fs[1]? = some (.ref ac)) (ce : Nat → Int32) (L : Nat) (hL : L ≤ 18) (s0 : Nat) (hs0 : s0 < 64) (w0 : Nat) (hw0 : w0 < 8) (who : Int32) : Met l y_X1_along (k_X1_along :: tw) ({ frames := 1, cells := 0, slots := 0, locals := 23 }) (va_Pc [.ref o, .int (nI L), .int (nI s0), .int (nI w0), .int who] (fun U => va_P D tdC [(o, .inr (1, fs)), (ac, .inl (cI, 1216, .inl ce))] U.heap ∧ va_K D tdC [(cI, .int)] U)) (vp_Si (fun x => x = nI (td_al (td_lv ce L) who w0 s0))) 0 0 (fun _ => False) := by
  refine Met.ofW (cc := c_X1_along) (maxL := 8) (ret := (some .int)) (by decide) rfl ?_
  intro p e s m args below meth c s₁ B hml hv
  obtain ⟨rfl, hP, hK⟩ := hv
  have hx := B.exec
  have hb := B.bytes
  have hr := B.returns
  have hts : ∀ w ∈ tw, w.before _ s = true := fun w h => atoms_spec (ws := k_X1_along :: tw) B.pre w (List.mem_cons_of_mem _ h)
  have hown : s.vm.findClass RX1 = some m.cls := findClass_of_methodNamed B.named
  have hlocks := B.notSynchronized
  have hl := lv_entry ([.ref o, .int (nI L), .int (nI s0), .int (nI w0), .int who]) (n := 8) (Nat.le_of_ble_eq_true rfl)
  rw [lg_entry_eq]
  generalize (lg_sl ([.ref o, .int (nI L), .int (nI s0), .int (nI w0), .int who]) ++ List.replicate (8 - (lg_sl ([.ref o, .int (nI L), .int (nI s0), .int (nI w0), .int who])).length) Slot.unset).toArray = ls at hl ⊢
  have hl : lv_has ls 8 [(0, .ref o), (1, .int (nI L)), (2, .int (nI s0)), (3, .int (nI w0)), (4, .int who)] := hl
  refine lv_iload_n hx hb d_X1_along_0 rfl (lv_at hl 2 rfl) ?_
  refine lv_bipush (v := 8) hx hb d_X1_along_1 (by decide) ?_
  refine lv_idiv hx hb d_X1_along_3 (by decide) ?_
  refine lv_iload_n hx hb d_X1_along_4 rfl (lv_at hl 3 rfl) ?_
  refine vp_callSi (W.runS (As := [.int (nI w0)]) (rest := [.int ((nI s0) / 8)]) ⟨hx, hb, hml, hown, hts⟩ (m_X1_rowWay l (nI w0)) (va_cwS 1 hts (tw_S ml_X1_52 st_X1_rowWay in_X1 kw_X1_rowWay) rfl rfl rfl (by decide +kernel) ⟨Nat.le_of_ble_eq_true rfl, Nat.le_of_ble_eq_true rfl⟩) ⟨fun _ _ _ _ q => q, fun U hU hW => ⟨rfl, trivial⟩⟩ rfl rfl hl.1 rfl (lv_room (Nat.le_of_ble_eq_true rfl)) d_X1_along_5 ⟨Nat.zero_le _, Nat.zero_le _⟩) (fun r hq => ?_)
  subst hq
  refine lv_iadd hx hb d_X1_along_8 ?_
  refine td_i (y := (td_r w0 s0 1)) (rfl) ?_
  refine lv_istore hx hb d_X1_along_9 hl (by decide) rfl (fun ls hl => ?_)
  have hl : lv_has ls 8 [(5, .int (td_r w0 s0 1)), (0, .ref o), (1, .int (nI L)), (2, .int (nI s0)), (3, .int (nI w0)), (4, .int who)] := hl
  refine lv_iload_n hx hb d_X1_along_11 rfl (lv_at hl 3 rfl) ?_
  refine lv_bipush (v := 8) hx hb d_X1_along_12 (by decide) ?_
  refine lv_irem hx hb d_X1_along_14 (by decide) ?_
  refine lv_iload_n hx hb d_X1_along_15 rfl (lv_at hl 4 rfl) ?_
  refine vp_callSi (W.runS (As := [.int (nI w0)]) (rest := [.int ((nI s0) - (nI s0) / 8 * 8)]) ⟨hx, hb, hml, hown, hts⟩ (m_X1_columnWay l (nI w0)) (va_cwS 1 hts (tw_S ml_X1_56 st_X1_columnWay in_X1 kw_X1_columnWay) rfl rfl rfl (by decide +kernel) ⟨Nat.le_of_ble_eq_true rfl, Nat.le_of_ble_eq_true rfl⟩) ⟨fun _ _ _ _ q => q, fun U hU hW => ⟨rfl, trivial⟩⟩ rfl rfl hl.1 rfl (lv_room (Nat.le_of_ble_eq_true rfl)) d_X1_along_16 ⟨Nat.zero_le _, Nat.zero_le _⟩) (fun r hq => ?_)
  subst hq
  refine lv_iadd hx hb d_X1_along_19 ?_
  refine td_i (y := (td_c w0 s0 1)) (rfl) ?_
  refine lv_istore hx hb d_X1_along_20 hl (by decide) rfl (fun ls hl => ?_)
  have hl : lv_has ls 8 [(6, .int (td_c w0 s0 1)), (5, .int (td_r w0 s0 1)), (0, .ref o), (1, .int (nI L)), (2, .int (nI s0)), (3, .int (nI w0)), (4, .int who)] := hl
  refine lv_iconst (v := 0) hx hb d_X1_along_22 (by decide) ?_
  refine lv_istore hx hb d_X1_along_23 hl (by decide) rfl (fun ls hl => ?_)
  have hl : lv_has ls 8 [(7, .int 0), (6, .int (td_c w0 s0 1)), (5, .int (td_r w0 s0 1)), (0, .ref o), (1, .int (nI L)), (2, .int (nI s0)), (3, .int (nI w0)), (4, .int who)] := hl
  generalize hN : td_cnt (td_lv ce L) (2 - who) w0 s0 8 0 = N
  have hal : td_al (td_lv ce L) who w0 s0 = if td_ps w0 s0 (N + 1) < 64 ∧ (td_lv ce L) (td_ps w0 s0 (N + 1)) = who + 1 then N else 0 := by unfold td_al; rw [hN]
  have hl0 := lv_sub hl [3, 4, 6, 7, 2, 1, 0] rfl
  refine td_loop 25 [] (fun j : Nat => 8 - j) (fun j ls => (j ≤ 7 ∧ td_cnt (td_lv ce L) (2 - who) w0 s0 (8 - j) j = N) ∧ lv_has ls 8 [(0, .ref o), (1, .int (nI L)), (3, .int (nI w0)), (4, .int who), (5, .int (td_r w0 s0 (j + 1))), (6, .int (td_c w0 s0 (j + 1))), (7, .int (nI j))]) (fun j ls hC ih => ?_) 0 ⟨⟨Nat.zero_le _, hN⟩, hl0⟩
  clear hl hl0
  obtain ⟨hi, hl⟩ := hC
  have hl : lv_has ls 8 [(0, .ref o), (1, .int (nI L)), (3, .int (nI w0)), (4, .int who), (5, .int (td_r w0 s0 (j + 1))), (6, .int (td_c w0 s0 (j + 1))), (7, .int (nI j))] := hl
  obtain ⟨hj, hcn⟩ := hi
  have hst : 8 - j = (8 - (j + 1)) + 1 := by omega
  rw [hst] at hcn
  unfold td_cnt at hcn
  have hgeo := td_ps_on (w := w0) (s := s0) (j := j + 1) hw0 hs0 (by omega)
  refine td_joinu 75 ls [] (j = N) (fun hend => ?_) (fun J => ?_)
  · subst hend
    refine lv_iload hx hb d_X1_along_75 (lv_at hl 4 rfl) ?_
    refine lv_iload hx hb d_X1_along_77 (lv_at hl 5 rfl) ?_
    refine vp_callSi (W.runS (As := [.int (td_r w0 s0 (j + 1)), .int (td_c w0 s0 (j + 1))]) (rest := []) ⟨hx, hb, hml, hown, hts⟩ (m_X1_isOn l (td_r w0 s0 (j + 1)) (td_c w0 s0 (j + 1))) (va_cwS 2 hts (tw_S ml_X1_59 st_X1_isOn in_X1 kw_X1_isOn) rfl rfl rfl (by decide +kernel) ⟨Nat.le_of_ble_eq_true rfl, Nat.le_of_ble_eq_true rfl⟩) ⟨fun _ _ _ _ q => q, fun U hU hW => ⟨rfl, trivial⟩⟩ rfl rfl hl.1 rfl (lv_room (Nat.le_of_ble_eq_true rfl)) d_X1_along_79 ⟨Nat.zero_le _, Nat.zero_le _⟩) (fun r hq => ?_)
    refine td_joini 107 ls [] (fun x => x = nI (td_al (td_lv ce L) who w0 s0)) (fun x ex => ?_) (fun J2 => ?_)
    · exact W.iret (v := x) hx hb hr (fun t ht hW => ⟨_, rfl, ex, ht⟩) (fun _ h => nomatch h) d_X1_along_107
    · refine lv_if_eq (tgt := 106) hx hb d_X1_along_82 (by decide) (fun h1 => ?_) (fun h1 => ?_)
      · have hno : ¬ td_ps w0 s0 (j + 1) < 64 := fun z => hq.elim (fun y => absurd (y.2.symm.trans h1) (by decide)) (fun y => y.1 (hgeo.mpr z))
        refine lv_iconst (v := 0) hx hb d_X1_along_106 (by decide) ?_
        exact J2 _ (by rw [hal, if_neg (fun z => hno z.1)]; rfl)
      · have hon := hq.elim (fun y => y.1) (fun y => absurd y.2 h1)
        obtain ⟨g1, g2, g3, g4⟩ := td_geo hw0 hs0 (by omega) hon
        refine lv_aload_n hx hb d_X1_along_85 rfl (lv_at hl 0 rfl) ?_
        refine lv_iload_n hx hb d_X1_along_86 rfl (lv_at hl 1 rfl) ?_
        refine lv_iload hx hb d_X1_along_87 (lv_at hl 4 rfl) ?_
        refine lv_iload hx hb d_X1_along_89 (lv_at hl 5 rfl) ?_
        refine vp_callSi (W.runV (b := o) (C := RX1) (As := [.int (nI L), .int (td_r w0 s0 (j + 1)), .int (td_c w0 s0 (j + 1))]) (rest := []) ⟨hx, hb, hml, hown, hts⟩ (m_X1_cellOf l D o ac cI fs hfs ce L hL _ _ (td_ps w0 s0 (j + 1) / 8) (td_ps w0 s0 (j + 1) % 8) (by omega) (by omega) g2 g3) (cwV 3 hts (tw_V ml_X1_63 im_X1_cellOf se_X1_cellOf in_X1 kw_X1_cellOf) rfl rfl rfl (by decide +kernel) ⟨Nat.le_of_ble_eq_true rfl, Nat.le_of_ble_eq_true rfl⟩) ⟨fun a U g mk q => ⟨q.1, q.2.1, va_K.moved (u := U) (U := U.calling g mk a) (Vm.Alike.refl U.vm) q.2.2⟩, va_recv (q0 := 0) (ci := 1) hK hP rfl rfl, fun U hU hW => ⟨rfl, by rw [hU]; exact hP, va_K.moved hW.alike hK⟩⟩ rfl rfl hl.1 rfl (lv_room (Nat.le_of_ble_eq_true rfl)) d_X1_along_91 ⟨Nat.zero_le _, Nat.zero_le _⟩) (fun r h9 => ?_)
        subst h9
        refine td_i (y := (td_lv ce L (td_ps w0 s0 (j + 1)))) (by rw [Nat.div_add_mod]; rfl) ?_
        refine lv_iload hx hb d_X1_along_94 (lv_at hl 3 rfl) ?_
        refine lv_iconst (v := 1) hx hb d_X1_along_96 (by decide) ?_
        refine lv_iadd hx hb d_X1_along_97 ?_
        refine lv_icmp_ne (tgt := 106) hx hb d_X1_along_98 (by decide) (fun h2 => ?_) (fun h2 => ?_)
        · refine lv_iconst (v := 0) hx hb d_X1_along_106 (by decide) ?_
          exact J2 _ (by rw [hal, if_neg (fun z => h2 z.2)]; rfl)
        · refine lv_iload hx hb d_X1_along_101 (lv_at hl 6 rfl) ?_
          refine lv_goto (tgt := 107) hx hb d_X1_along_103 (by decide) ?_
          exact J2 _ (by rw [hal, if_pos ⟨g1, h2⟩])
  · refine lv_iload hx hb d_X1_along_25 (lv_at hl 4 rfl) ?_
    refine lv_iload hx hb d_X1_along_27 (lv_at hl 5 rfl) ?_
    refine vp_callSi (W.runS (As := [.int (td_r w0 s0 (j + 1)), .int (td_c w0 s0 (j + 1))]) (rest := []) ⟨hx, hb, hml, hown, hts⟩ (m_X1_isOn l (td_r w0 s0 (j + 1)) (td_c w0 s0 (j + 1))) (va_cwS 2 hts (tw_S ml_X1_59 st_X1_isOn in_X1 kw_X1_isOn) rfl rfl rfl (by decide +kernel) ⟨Nat.le_of_ble_eq_true rfl, Nat.le_of_ble_eq_true rfl⟩) ⟨fun _ _ _ _ q => q, fun U hU hW => ⟨rfl, trivial⟩⟩ rfl rfl hl.1 rfl (lv_room (Nat.le_of_ble_eq_true rfl)) d_X1_along_29 ⟨Nat.zero_le _, Nat.zero_le _⟩) (fun r hq => ?_)
    refine lv_if_eq (tgt := 75) hx hb d_X1_along_32 (by decide) (fun h1 => ?_) (fun h1 => ?_)
    · have hno : ¬ td_ps w0 s0 (j + 1) < 64 := fun z => hq.elim (fun y => absurd (y.2.symm.trans h1) (by decide)) (fun y => y.1 (hgeo.mpr z))
      rw [if_neg (fun z => hno z.1)] at hcn
      exact J hcn
    · have hon := hq.elim (fun y => y.1) (fun y => absurd y.2 h1)
      obtain ⟨g1, g2, g3, g4⟩ := td_geo hw0 hs0 (by omega) hon
      refine lv_aload_n hx hb d_X1_along_35 rfl (lv_at hl 0 rfl) ?_
      refine lv_iload_n hx hb d_X1_along_36 rfl (lv_at hl 1 rfl) ?_
      refine lv_iload hx hb d_X1_along_37 (lv_at hl 4 rfl) ?_
      refine lv_iload hx hb d_X1_along_39 (lv_at hl 5 rfl) ?_
      refine vp_callSi (W.runV (b := o) (C := RX1) (As := [.int (nI L), .int (td_r w0 s0 (j + 1)), .int (td_c w0 s0 (j + 1))]) (rest := []) ⟨hx, hb, hml, hown, hts⟩ (m_X1_cellOf l D o ac cI fs hfs ce L hL _ _ (td_ps w0 s0 (j + 1) / 8) (td_ps w0 s0 (j + 1) % 8) (by omega) (by omega) g2 g3) (cwV 3 hts (tw_V ml_X1_63 im_X1_cellOf se_X1_cellOf in_X1 kw_X1_cellOf) rfl rfl rfl (by decide +kernel) ⟨Nat.le_of_ble_eq_true rfl, Nat.le_of_ble_eq_true rfl⟩) ⟨fun a U g mk q => ⟨q.1, q.2.1, va_K.moved (u := U) (U := U.calling g mk a) (Vm.Alike.refl U.vm) q.2.2⟩, va_recv (q0 := 0) (ci := 1) hK hP rfl rfl, fun U hU hW => ⟨rfl, by rw [hU]; exact hP, va_K.moved hW.alike hK⟩⟩ rfl rfl hl.1 rfl (lv_room (Nat.le_of_ble_eq_true rfl)) d_X1_along_41 ⟨Nat.zero_le _, Nat.zero_le _⟩) (fun r h9 => ?_)
      subst h9
      refine td_i (y := (td_lv ce L (td_ps w0 s0 (j + 1)))) (by rw [Nat.div_add_mod]; rfl) ?_
      refine lv_iconst (v := 2) hx hb d_X1_along_44 (by decide) ?_
      refine lv_iload hx hb d_X1_along_45 (lv_at hl 3 rfl) ?_
      refine lv_isub hx hb d_X1_along_47 ?_
      refine lv_icmp_ne (tgt := 75) hx hb d_X1_along_48 (by decide) (fun h2 => ?_) (fun h2 => ?_)
      · rw [if_neg (fun z => h2 z.2)] at hcn
        exact J hcn
      · rw [if_pos ⟨g1, h2⟩] at hcn
        have hj7 : j + 1 ≤ 7 := by
          by_cases hj8 : j = 7
          · rw [hj8, td_ps8 hw0 hs0] at g1; omega
          · omega
        refine lv_iinc (k := 6) (v := (nI (j + 1))) hx hb d_X1_along_51 hl rfl ((nI_succ j).symm) (by decide) rfl (fun ls hl => ?_)
        have hl : lv_has ls 8 [(7, .int (nI (j + 1))), (0, .ref o), (1, .int (nI L)), (3, .int (nI w0)), (4, .int who), (5, .int (td_r w0 s0 (j + 1))), (6, .int (td_c w0 s0 (j + 1)))] := hl
        refine lv_iload hx hb d_X1_along_54 (lv_at hl 5 rfl) ?_
        refine lv_iload_n hx hb d_X1_along_56 rfl (lv_at hl 3 rfl) ?_
        refine vp_callSi (W.runS (As := [.int (nI w0)]) (rest := [.int (td_r w0 s0 (j + 1))]) ⟨hx, hb, hml, hown, hts⟩ (m_X1_rowWay l (nI w0)) (va_cwS 1 hts (tw_S ml_X1_52 st_X1_rowWay in_X1 kw_X1_rowWay) rfl rfl rfl (by decide +kernel) ⟨Nat.le_of_ble_eq_true rfl, Nat.le_of_ble_eq_true rfl⟩) ⟨fun _ _ _ _ q => q, fun U hU hW => ⟨rfl, trivial⟩⟩ rfl rfl hl.1 rfl (lv_room (Nat.le_of_ble_eq_true rfl)) d_X1_along_57 ⟨Nat.zero_le _, Nat.zero_le _⟩) (fun r h9 => ?_)
        subst h9
        refine lv_iadd hx hb d_X1_along_60 ?_
        refine td_i (y := (td_r w0 s0 (j + 1 + 1))) (rfl) ?_
        refine lv_istore hx hb d_X1_along_61 hl (by decide) rfl (fun ls hl => ?_)
        have hl : lv_has ls 8 [(5, .int (td_r w0 s0 (j + 1 + 1))), (7, .int (nI (j + 1))), (0, .ref o), (1, .int (nI L)), (3, .int (nI w0)), (4, .int who), (6, .int (td_c w0 s0 (j + 1)))] := hl
        refine lv_iload hx hb d_X1_along_63 (lv_at hl 6 rfl) ?_
        refine lv_iload_n hx hb d_X1_along_65 rfl (lv_at hl 4 rfl) ?_
        refine vp_callSi (W.runS (As := [.int (nI w0)]) (rest := [.int (td_c w0 s0 (j + 1))]) ⟨hx, hb, hml, hown, hts⟩ (m_X1_columnWay l (nI w0)) (va_cwS 1 hts (tw_S ml_X1_56 st_X1_columnWay in_X1 kw_X1_columnWay) rfl rfl rfl (by decide +kernel) ⟨Nat.le_of_ble_eq_true rfl, Nat.le_of_ble_eq_true rfl⟩) ⟨fun _ _ _ _ q => q, fun U hU hW => ⟨rfl, trivial⟩⟩ rfl rfl hl.1 rfl (lv_room (Nat.le_of_ble_eq_true rfl)) d_X1_along_66 ⟨Nat.zero_le _, Nat.zero_le _⟩) (fun r h9 => ?_)
        subst h9
        refine lv_iadd hx hb d_X1_along_69 ?_
        refine td_i (y := (td_c w0 s0 (j + 1 + 1))) (rfl) ?_
        refine lv_istore hx hb d_X1_along_70 hl (by decide) rfl (fun ls hl => ?_)
        have hl : lv_has ls 8 [(6, .int (td_c w0 s0 (j + 1 + 1))), (5, .int (td_r w0 s0 (j + 1 + 1))), (7, .int (nI (j + 1))), (0, .ref o), (1, .int (nI L)), (3, .int (nI w0)), (4, .int who)] := hl
        refine lv_goto (tgt := 25) hx hb d_X1_along_72 (by decide) ?_
        have hl1 := lv_sub hl [3, 4, 5, 6, 1, 0, 2] rfl
        exact ih (j + 1) _ (by omega) ⟨⟨hj7, hcn⟩, hl1⟩
