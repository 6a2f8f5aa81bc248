set_option maxHeartbeats 4000000 in
set_option maxRecDepth 100000 in
theorem m_X1_flipsAt (l : Launch) (D : va_G) (o ac : Nat) (cI : ClassId) (fs : List Value) (hfs : fs[1]? = some (.ref ac)) (ce : Nat → Int32) (L : Nat) (hL : L ≤ 18) (s0 : Nat) (hs0 : s0 < 64) (who : Int32) : Met l y_X1_flipsAt (k_X1_flipsAt :: tw) ({ frames := 2, cells := 0, slots := 0, locals := 50 }) (va_Pc [.ref o, .int (nI L), .int (nI s0), .int who] (fun U => va_P D tdC [(o, .inr (1, fs)), (ac, .inl (cI, 1216, .inl ce))] U.heap ∧ va_K D tdC [(cI, .int)] U)) (vp_Sl (fun x => x = td_fl (td_lv ce L) who s0)) 0 0 (fun _ => False) := by
  refine Met.ofW (cc := c_X1_flipsAt) (maxL := 10) (ret := (some .long)) (by decide) rfl ?_
  intro p e s m args below meth c s₁ B hml hv
  obtain ⟨rfl, hP, hK⟩ := hv
  have hx := B.exec
  have hb := B.bytes
  have hr := B.returns
  have hts : ∀ w ∈ tw, w.before _ s = true := fun w h => atoms_spec (ws := k_X1_flipsAt :: tw) B.pre w (List.mem_cons_of_mem _ h)
  have hown : s.vm.findClass RX1 = some m.cls := findClass_of_methodNamed B.named
  have hlocks := B.notSynchronized
  have hl := lv_entry ([.ref o, .int (nI L), .int (nI s0), .int who]) (n := 10) (Nat.le_of_ble_eq_true rfl)
  rw [lg_entry_eq]
  generalize (lg_sl ([.ref o, .int (nI L), .int (nI s0), .int who]) ++ List.replicate (10 - (lg_sl ([.ref o, .int (nI L), .int (nI s0), .int who])).length) Slot.unset).toArray = ls at hl ⊢
  have hl : lv_has ls 10 [(0, .ref o), (1, .int (nI L)), (2, .int (nI s0)), (3, .int who)] := hl
  refine lv_lconst (v := 0) hx hb d_X1_flipsAt_0 (by decide) ?_
  refine lv_lstore hx hb d_X1_flipsAt_1 hl (by decide) rfl (fun ls hl => ?_)
  have hl : lv_has ls 10 [(4, .long 0), (0, .ref o), (1, .int (nI L)), (2, .int (nI s0)), (3, .int who)] := hl
  refine lv_iconst (v := 0) hx hb d_X1_flipsAt_3 (by decide) ?_
  refine lv_istore hx hb d_X1_flipsAt_4 hl (by decide) rfl (fun ls hl => ?_)
  have hl : lv_has ls 10 [(6, .int 0), (4, .long 0), (0, .ref o), (1, .int (nI L)), (2, .int (nI s0)), (3, .int who)] := hl
  have hl0 := lv_sub hl [2, 3, 4, 5, 1, 0] rfl
  refine td_loop 6 [] (fun w0 : Nat => 8 - w0) (fun w0 ls => (w0 ≤ 8 ∧ ((td_lv ce L) s0 = 0 ∨ w0 = 0)) ∧ lv_has ls 10 [(0, .ref o), (1, .int (nI L)), (2, .int (nI s0)), (3, .int who), (4, .long (td_fw (td_lv ce L) who s0 w0)), (6, .int (nI w0))]) (fun w0 ls hC ih => ?_) 0 ⟨⟨Nat.zero_le _, Or.inr rfl⟩, hl0⟩
  clear hl hl0
  obtain ⟨hi, hl⟩ := hC
  have hl : lv_has ls 10 [(0, .ref o), (1, .int (nI L)), (2, .int (nI s0)), (3, .int who), (4, .long (td_fw (td_lv ce L) who s0 w0)), (6, .int (nI w0))] := hl
  obtain ⟨hw8, hor⟩ := hi
  refine td_joinu 90 ls [] (td_fw (td_lv ce L) who s0 w0 = td_fl (td_lv ce L) who s0) (fun hend => ?_) (fun J => ?_)
  · refine lv_lload hx hb d_X1_flipsAt_90 (lv_at hl 4 rfl) ?_
    exact W.lret (v := (td_fw (td_lv ce L) who s0 w0)) hx hb hr (fun t ht hW => ⟨_, rfl, hend, ht⟩) (fun _ h => nomatch h) d_X1_flipsAt_92
  · refine lv_iload hx hb d_X1_flipsAt_6 (lv_at hl 5 rfl) ?_
    refine lv_bipush (v := 8) hx hb d_X1_flipsAt_8 (by decide) ?_
    refine lv_icmp_ge (tgt := 90) hx hb d_X1_flipsAt_10 (by decide) (fun h1 => ?_) (fun h1 => ?_)
    · have hw : w0 = 8 := Nat.le_antisymm hw8 ((nI_leI (a := 8) (b := w0) (by decide) (by omega)).mp h1)
      subst hw
      exact J (by unfold td_fl; rw [if_pos (hor.elim (fun z => z) (fun z => absurd z (by decide)))])
    · have hw : w0 < 8 := Nat.lt_of_not_le (fun z => h1 ((nI_leI (a := 8) (b := w0) (by decide) (by omega)).mpr z))
      refine lv_aload_n hx hb d_X1_flipsAt_13 rfl (lv_at hl 0 rfl) ?_
      refine va_get (D := D) (ci := 1) (v := .ref ac) (C := RX1) (T := TX1) (N := 14) hx hb hts usX1 hown hK hP 0 rfl rfl 1 (by decide) (hts _ fl_X1_7) (fun _ h9 => h9) hfs d_X1_flipsAt_14 ?_
      refine lv_bipush (v := 64) hx hb d_X1_flipsAt_17 (by decide) ?_
      refine lv_iload_n hx hb d_X1_flipsAt_19 rfl (lv_at hl 1 rfl) ?_
      refine lv_imul hx hb d_X1_flipsAt_20 ?_
      refine lv_iload_n hx hb d_X1_flipsAt_21 rfl (lv_at hl 2 rfl) ?_
      refine lv_iadd hx hb d_X1_flipsAt_22 ?_
      refine td_i (y := (nI (64 * L + s0))) (by show nI 64 * nI L + nI s0 = _; rw [pk_mul, nI_add]) ?_
      refine va_iald hx hb hK hP 1 0 rfl rfl (vp_in_nI (show 64 * L + s0 < 1216 by omega) (by decide)) d_X1_flipsAt_23 ?_
      refine td_i (y := (td_lv ce L s0)) (by rw [nI_clamp (by omega)]; rfl) ?_
      refine lv_if_ne (tgt := 90) hx hb d_X1_flipsAt_24 (by decide) (fun h2 => ?_) (fun h2 => ?_)
      · have hw : w0 = 0 := hor.elim (fun z => absurd z h2) (fun z => z)
        subst hw
        exact J (by unfold td_fl; rw [if_neg h2]; rfl)
      · refine lv_aload_n hx hb d_X1_flipsAt_27 rfl (lv_at hl 0 rfl) ?_
        refine lv_iload_n hx hb d_X1_flipsAt_28 rfl (lv_at hl 1 rfl) ?_
        refine lv_iload_n hx hb d_X1_flipsAt_29 rfl (lv_at hl 2 rfl) ?_
        refine lv_iload hx hb d_X1_flipsAt_30 (lv_at hl 5 rfl) ?_
        refine lv_iload_n hx hb d_X1_flipsAt_32 rfl (lv_at hl 3 rfl) ?_
        refine vp_callSi (W.runV (b := o) (C := RX1) (As := [.int (nI L), .int (nI s0), .int (nI w0), .int who]) (rest := []) ⟨hx, hb, hml, hown, hts⟩ (m_X1_along l D o ac cI fs hfs ce L hL s0 hs0 w0 hw who) (cwV 4 hts (tw_V ml_X1_67 im_X1_along se_X1_along in_X1 kw_X1_along) rfl rfl rfl (by decide +kernel) ⟨Nat.le_of_ble_eq_true rfl, Nat.le_of_ble_eq_true rfl⟩) ⟨fun a U g mk q => ⟨q.1, q.2.1, va_K.moved (u := U) (U := U.calling g mk a) (Vm.Alike.refl U.vm) q.2.2⟩, va_recv (q0 := 0) (ci := 1) hK hP rfl rfl, fun U hU hW => ⟨rfl, by rw [hU]; exact hP, va_K.moved hW.alike hK⟩⟩ rfl rfl hl.1 rfl (lv_room (Nat.le_of_ble_eq_true rfl)) d_X1_flipsAt_33 ⟨Nat.zero_le _, Nat.zero_le _⟩) (fun r h9 => ?_)
        subst h9
        have hn7 := td_al_le hw hs0 (td_lv ce L) who
        have hin := fun j h0 h => td_al_in (w := w0) (s := s0) (td_lv ce L) who (j := j) h0 h
        generalize hn : td_al (td_lv ce L) who w0 s0 = n at hn7 hin ⊢
        refine lv_istore hx hb d_X1_flipsAt_36 hl (by decide) rfl (fun ls hl => ?_)
        have hl : lv_has ls 10 [(7, .int (nI n)), (0, .ref o), (1, .int (nI L)), (2, .int (nI s0)), (3, .int who), (4, .long (td_fw (td_lv ce L) who s0 w0)), (6, .int (nI w0))] := hl
        refine lv_bipush (v := 8) hx hb d_X1_flipsAt_38 (by decide) ?_
        refine lv_iload hx hb d_X1_flipsAt_40 (lv_at hl 6 rfl) ?_
        refine vp_callSi (W.runS (As := [.int (nI w0)]) (rest := [.int 8]) ⟨hx, hb, hml, hown, hts⟩ (m_X1_rowWay l (nI w0)) (va_cwS 1 hts (tw_S ml_X1_52 st_X1_rowWay in_X1 kw_X1_rowWay) rfl rfl rfl (by decide +kernel) ⟨Nat.le_of_ble_eq_true rfl, Nat.le_of_ble_eq_true rfl⟩) ⟨fun _ _ _ _ q => q, fun U hU hW => ⟨rfl, trivial⟩⟩ rfl rfl hl.1 rfl (lv_room (Nat.le_of_ble_eq_true rfl)) d_X1_flipsAt_42 ⟨Nat.zero_le _, Nat.zero_le _⟩) (fun r h9 => ?_)
        subst h9
        refine lv_imul hx hb d_X1_flipsAt_45 ?_
        refine lv_iload hx hb d_X1_flipsAt_46 (lv_at hl 6 rfl) ?_
        refine vp_callSi (W.runS (As := [.int (nI w0)]) (rest := [.int (8 * (td_rw (nI w0)))]) ⟨hx, hb, hml, hown, hts⟩ (m_X1_columnWay l (nI w0)) (va_cwS 1 hts (tw_S ml_X1_56 st_X1_columnWay in_X1 kw_X1_columnWay) rfl rfl rfl (by decide +kernel) ⟨Nat.le_of_ble_eq_true rfl, Nat.le_of_ble_eq_true rfl⟩) ⟨fun _ _ _ _ q => q, fun U hU hW => ⟨rfl, trivial⟩⟩ rfl rfl hl.1 rfl (lv_room (Nat.le_of_ble_eq_true rfl)) d_X1_flipsAt_48 ⟨Nat.zero_le _, Nat.zero_le _⟩) (fun r h9 => ?_)
        subst h9
        refine lv_iadd hx hb d_X1_flipsAt_51 ?_
        refine lv_istore hx hb d_X1_flipsAt_52 hl (by decide) rfl (fun ls hl => ?_)
        have hl : lv_has ls 10 [(8, .int ((8 * (td_rw (nI w0))) + (td_cw (nI w0)))), (7, .int (nI n)), (0, .ref o), (1, .int (nI L)), (2, .int (nI s0)), (3, .int who), (4, .long (td_fw (td_lv ce L) who s0 w0)), (6, .int (nI w0))] := hl
        refine lv_iconst (v := 1) hx hb d_X1_flipsAt_54 (by decide) ?_
        refine lv_istore hx hb d_X1_flipsAt_55 hl (by decide) rfl (fun ls hl => ?_)
        have hl : lv_has ls 10 [(9, .int 1), (8, .int ((8 * (td_rw (nI w0))) + (td_cw (nI w0)))), (7, .int (nI n)), (0, .ref o), (1, .int (nI L)), (2, .int (nI s0)), (3, .int who), (4, .long (td_fw (td_lv ce L) who s0 w0)), (6, .int (nI w0))] := hl
        have hl0 := lv_sub hl [3, 4, 5, 6, 7, 8, 2, 1, 0] rfl
        refine td_loop 57 [] (fun k0 : Nat => n - k0) (fun k0 ls => k0 ≤ n ∧ lv_has ls 10 [(0, .ref o), (1, .int (nI L)), (2, .int (nI s0)), (3, .int who), (4, .long (td_in w0 s0 k0 (td_fw (td_lv ce L) who s0 w0))), (6, .int (nI w0)), (7, .int (nI n)), (8, .int ((8 * (td_rw (nI w0))) + (td_cw (nI w0)))), (9, .int (nI (k0 + 1)))]) (fun k0 ls hC ih2 => ?_) 0 ⟨Nat.zero_le _, hl0⟩
        clear hl hl0
        obtain ⟨hi, hl⟩ := hC
        have hl : lv_has ls 10 [(0, .ref o), (1, .int (nI L)), (2, .int (nI s0)), (3, .int who), (4, .long (td_in w0 s0 k0 (td_fw (td_lv ce L) who s0 w0))), (6, .int (nI w0)), (7, .int (nI n)), (8, .int ((8 * (td_rw (nI w0))) + (td_cw (nI w0)))), (9, .int (nI (k0 + 1)))] := hl
        refine lv_iload hx hb d_X1_flipsAt_57 (lv_at hl 8 rfl) ?_
        refine lv_iload hx hb d_X1_flipsAt_59 (lv_at hl 6 rfl) ?_
        refine lv_icmp_gt (tgt := 84) hx hb d_X1_flipsAt_61 (by decide) (fun h3 => ?_) (fun h3 => ?_)
        · have hk : k0 = n := by have := (nI_ltI (a := n) (b := k0 + 1) (by omega) (by omega)).mp h3; omega
          refine lv_iinc (k := 5) (v := (nI (w0 + 1))) hx hb d_X1_flipsAt_84 hl rfl ((nI_succ w0).symm) (by decide) rfl (fun ls hl => ?_)
          have hl : lv_has ls 10 [(6, .int (nI (w0 + 1))), (0, .ref o), (1, .int (nI L)), (2, .int (nI s0)), (3, .int who), (4, .long (td_in w0 s0 k0 (td_fw (td_lv ce L) who s0 w0))), (7, .int (nI n)), (8, .int ((8 * (td_rw (nI w0))) + (td_cw (nI w0)))), (9, .int (nI (k0 + 1)))] := hl
          refine lv_goto (tgt := 6) hx hb d_X1_flipsAt_87 (by decide) ?_
          have hl1 := lv_sub hl [1, 2, 3, 4, 5, 0] rfl
          rw [hk, ← hn] at hl1
          exact ih (w0 + 1) _ (by omega) ⟨⟨by omega, Or.inl h2⟩, hl1⟩
        · have hk : k0 + 1 ≤ n := Nat.le_of_not_lt (fun z => h3 ((nI_ltI (a := n) (b := k0 + 1) (by omega) (by omega)).mpr z))
          refine lv_lload hx hb d_X1_flipsAt_64 (lv_at hl 4 rfl) ?_
          refine lv_lconst (v := 1) hx hb d_X1_flipsAt_66 (by decide) ?_
          refine lv_iload_n hx hb d_X1_flipsAt_67 rfl (lv_at hl 2 rfl) ?_
          refine lv_iload hx hb d_X1_flipsAt_68 (lv_at hl 8 rfl) ?_
          refine lv_iload hx hb d_X1_flipsAt_70 (lv_at hl 7 rfl) ?_
          refine lv_imul hx hb d_X1_flipsAt_72 ?_
          refine lv_iadd hx hb d_X1_flipsAt_73 ?_
          refine td_i (y := (nI (td_ps w0 s0 (k0 + 1)))) ((td_geo hw hs0 (by omega) (td_on_ps (hin (k0 + 1) (by omega) hk))).2.2.2) ?_
          refine lv_lshl (v := (td_lshl 1 (nI (td_ps w0 s0 (k0 + 1))))) hx hb d_X1_flipsAt_74 rfl ?_
          refine lv_lor hx hb d_X1_flipsAt_75 ?_
          refine td_l (y := (td_in w0 s0 (k0 + 1) (td_fw (td_lv ce L) who s0 w0))) (rfl) ?_
          refine lv_lstore hx hb d_X1_flipsAt_76 hl (by decide) rfl (fun ls hl => ?_)
          have hl : lv_has ls 10 [(4, .long (td_in w0 s0 (k0 + 1) (td_fw (td_lv ce L) who s0 w0))), (0, .ref o), (1, .int (nI L)), (2, .int (nI s0)), (3, .int who), (6, .int (nI w0)), (7, .int (nI n)), (8, .int ((8 * (td_rw (nI w0))) + (td_cw (nI w0)))), (9, .int (nI (k0 + 1)))] := hl
          refine lv_iinc (k := 8) (v := (nI (k0 + 1 + 1))) hx hb d_X1_flipsAt_78 hl rfl ((nI_succ (k0 + 1)).symm) (by decide) rfl (fun ls hl => ?_)
          have hl : lv_has ls 10 [(9, .int (nI (k0 + 1 + 1))), (4, .long (td_in w0 s0 (k0 + 1) (td_fw (td_lv ce L) who s0 w0))), (0, .ref o), (1, .int (nI L)), (2, .int (nI s0)), (3, .int who), (6, .int (nI w0)), (7, .int (nI n)), (8, .int ((8 * (td_rw (nI w0))) + (td_cw (nI w0))))] := hl
          refine lv_goto (tgt := 57) hx hb d_X1_flipsAt_81 (by decide) ?_
          have hl1 := lv_sub hl [2, 3, 4, 5, 1, 6, 7, 8, 0] rfl
          exact ih2 (k0 + 1) _ (by omega) ⟨hk, hl1⟩
