set_option maxHeartbeats 4000000 in
set_option maxRecDepth 100000 in
theorem m_X1_enter (l : Launch) (D : va_G) (sz : Nat) (o : Nat) (q : Nat → Nat) (th md ch : Int32) (cI cZ : ClassId) (ce mv sp at_ pa wo : Nat → Int32) (n0 : Nat) (hn0 : n0 ≤ 64) (sn : Nat → Nat) (hsp : ∀ i, i < n0 → sn i < 64 ∧ sp i = nI (sn i)) (L : Nat) (hL : L ≤ 18) : Met l y_X1_enter (k_X1_enter :: tw) ({ frames := 4, cells := 0, slots := 0, locals := 100 }) (va_Pc [.ref o, .int (nI L)] (fun U => U.heap.size = sz ∧ va_P D tdC [(o, .inr (1, [.int th, .ref (q 1), .ref (q 2), .ref (q 3), .ref (q 4), .int md, .ref (q 6), .ref (q 7), .ref (q 8), .ref (q 9), .int ch, .ref (q 11), .int (nI n0), .ref (q 13)])), ((q 1), .inl (cI, 1216, .inl ce)), ((q 2), .inl (cI, 19, .inl mv)), ((q 11), .inl (cI, 64, .inl sp)), ((q 6), .inl (cI, 19, .inl at_)), ((q 7), .inl (cZ, 19, .inl pa)), ((q 8), .inl (cI, 19, .inl wo))] U.heap ∧ va_K D tdC [(cI, .int), (cZ, .boolean)] U ∧ va_D (fun _ => True) [(o, .inr (1, [.int th, .ref (q 1), .ref (q 2), .ref (q 3), .ref (q 4), .int md, .ref (q 6), .ref (q 7), .ref (q 8), .ref (q 9), .int ch, .ref (q 11), .int (nI n0), .ref (q 13)])), ((q 1), .inl (cI, 1216, .inl ce)), ((q 2), .inl (cI, 19, .inl mv)), ((q 11), .inl (cI, 64, .inl sp)), ((q 6), .inl (cI, 19, .inl at_)), ((q 7), .inl (cZ, 19, .inl pa)), ((q 8), .inl (cI, 19, .inl wo))])) (va_Qv (fun (_ : Unit) => True) (fun (_ : Unit) t => va_P D tdC [(o, .inr (1, [.int th, .ref (q 1), .ref (q 2), .ref (q 3), .ref (q 4), .int md, .ref (q 6), .ref (q 7), .ref (q 8), .ref (q 9), .int ch, .ref (q 11), .int (nI n0), .ref (q 13)])), ((q 1), .inl (cI, 1216, .inl ce)), ((q 2), .inl (cI, 19, .inl mv)), ((q 11), .inl (cI, 64, .inl sp)), ((q 6), .inl (cI, 19, .inl (upd at_ L (td_eA (td_mm sn n0 (td_lv ce L) (mv L)) n0)))), ((q 7), .inl (cZ, 19, .inl (upd pa L (td_eP (td_mm sn n0 (td_lv ce L) (mv L)) (td_mm sn n0 (td_lv ce L) (1 - mv L)))))), ((q 8), .inl (cI, 19, .inl (upd wo L (td_eW (td_mm sn n0 (td_lv ce L) (mv L)) (td_mm sn n0 (td_lv ce L) (1 - mv L)) (td_df (td_lv ce L) (mv L))))))] t.heap ∧ va_K D tdC [(cI, .int), (cZ, .boolean)] t ∧ va_D (va_A [(o, .inr (1, [.int th, .ref (q 1), .ref (q 2), .ref (q 3), .ref (q 4), .int md, .ref (q 6), .ref (q 7), .ref (q 8), .ref (q 9), .int ch, .ref (q 11), .int (nI n0), .ref (q 13)])), ((q 1), .inl (cI, 1216, .inl ce)), ((q 2), .inl (cI, 19, .inl mv)), ((q 11), .inl (cI, 64, .inl sp)), ((q 6), .inl (cI, 19, .inl at_)), ((q 7), .inl (cZ, 19, .inl pa)), ((q 8), .inl (cI, 19, .inl wo))] sz) [(o, .inr (1, [.int th, .ref (q 1), .ref (q 2), .ref (q 3), .ref (q 4), .int md, .ref (q 6), .ref (q 7), .ref (q 8), .ref (q 9), .int ch, .ref (q 11), .int (nI n0), .ref (q 13)])), ((q 1), .inl (cI, 1216, .inl ce)), ((q 2), .inl (cI, 19, .inl mv)), ((q 11), .inl (cI, 64, .inl sp)), ((q 6), .inl (cI, 19, .inl (upd at_ L (td_eA (td_mm sn n0 (td_lv ce L) (mv L)) n0)))), ((q 7), .inl (cZ, 19, .inl (upd pa L (td_eP (td_mm sn n0 (td_lv ce L) (mv L)) (td_mm sn n0 (td_lv ce L) (1 - mv L)))))), ((q 8), .inl (cI, 19, .inl (upd wo L (td_eW (td_mm sn n0 (td_lv ce L) (mv L)) (td_mm sn n0 (td_lv ce L) (1 - mv L)) (td_df (td_lv ce L) (mv L))))))]) (va_A [(o, .inr (1, [.int th, .ref (q 1), .ref (q 2), .ref (q 3), .ref (q 4), .int md, .ref (q 6), .ref (q 7), .ref (q 8), .ref (q 9), .int ch, .ref (q 11), .int (nI n0), .ref (q 13)])), ((q 1), .inl (cI, 1216, .inl ce)), ((q 2), .inl (cI, 19, .inl mv)), ((q 11), .inl (cI, 64, .inl sp)), ((q 6), .inl (cI, 19, .inl at_)), ((q 7), .inl (cZ, 19, .inl pa)), ((q 8), .inl (cI, 19, .inl wo))] sz)) 0 0 (va_A [(o, .inr (1, [.int th, .ref (q 1), .ref (q 2), .ref (q 3), .ref (q 4), .int md, .ref (q 6), .ref (q 7), .ref (q 8), .ref (q 9), .int ch, .ref (q 11), .int (nI n0), .ref (q 13)])), ((q 1), .inl (cI, 1216, .inl ce)), ((q 2), .inl (cI, 19, .inl mv)), ((q 11), .inl (cI, 64, .inl sp)), ((q 6), .inl (cI, 19, .inl at_)), ((q 7), .inl (cZ, 19, .inl pa)), ((q 8), .inl (cI, 19, .inl wo))] sz) := by
  refine Met.ofW (cc := c_X1_enter) (maxL := 4) (ret := none) (by decide) rfl ?_
  intro p e s m args below meth c s₁ B hml hv
  obtain ⟨rfl, hsz, hP, hK, hD0⟩ := hv
  have hx := B.exec
  have hb := B.bytes
  have hr := B.returns
  have hts : ∀ w ∈ tw, w.before _ s = true := fun w h => atoms_spec (ws := k_X1_enter :: tw) B.pre w (List.mem_cons_of_mem _ h)
  have hown : s.vm.findClass RX1 = some m.cls := findClass_of_methodNamed B.named
  have hlocks := B.notSynchronized
  subst hsz
  have hD := hD0.self (sz := s.heap.size)
  generalize hAe : va_A [(o, .inr (1, [.int th, .ref (q 1), .ref (q 2), .ref (q 3), .ref (q 4), .int md, .ref (q 6), .ref (q 7), .ref (q 8), .ref (q 9), .int ch, .ref (q 11), .int (nI n0), .ref (q 13)])), ((q 1), .inl (cI, 1216, .inl ce)), ((q 2), .inl (cI, 19, .inl mv)), ((q 11), .inl (cI, 64, .inl sp)), ((q 6), .inl (cI, 19, .inl at_)), ((q 7), .inl (cZ, 19, .inl pa)), ((q 8), .inl (cI, 19, .inl wo))] s.heap.size = A at hD ⊢
  have hA : ∀ q : Nat, s.heap.size ≤ q → A q := fun q h => by rw [← hAe]; exact Or.inr h
  have hS : va_S A s.heap s.heap [] := va_S.rf
  have hP : va_P D tdC [(o, .inr (1, [.int th, .ref (q 1), .ref (q 2), .ref (q 3), .ref (q 4), .int md, .ref (q 6), .ref (q 7), .ref (q 8), .ref (q 9), .int ch, .ref (q 11), .int (nI n0), .ref (q 13)])), ((q 1), .inl (cI, 1216, .inl ce)), ((q 2), .inl (cI, 19, .inl mv)), ((q 11), .inl (cI, 64, .inl sp)), ((q 6), .inl (cI, 19, .inl at_)), ((q 7), .inl (cZ, 19, .inl pa)), ((q 8), .inl (cI, 19, .inl wo))] s.heap := hP
  have hl := lv_entry ([.ref o, .int (nI L)]) (n := 4) (Nat.le_of_ble_eq_true rfl)
  rw [lg_entry_eq]
  generalize (lg_sl ([.ref o, .int (nI L)]) ++ List.replicate (4 - (lg_sl ([.ref o, .int (nI L)])).length) Slot.unset).toArray = ls at hl ⊢
  have hl : lv_has ls 4 [(0, .ref o), (1, .int (nI L))] := hl
  have hcL : (nI L).toNatClampNeg = L := nI_clamp (by omega)
  have hP3 := hP.sub (ws' := [(o, .inr (1, [.int th, .ref (q 1), .ref (q 2), .ref (q 3), .ref (q 4), .int md, .ref (q 6), .ref (q 7), .ref (q 8), .ref (q 9), .int ch, .ref (q 11), .int (nI n0), .ref (q 13)])), ((q 1), .inl (cI, 1216, .inl ce)), ((q 11), .inl (cI, 64, .inl sp))]) [0, 1, 3] rfl
  have hP2 := hP.sub (ws' := [(o, .inr (1, [.int th, .ref (q 1), .ref (q 2), .ref (q 3), .ref (q 4), .int md, .ref (q 6), .ref (q 7), .ref (q 8), .ref (q 9), .int ch, .ref (q 11), .int (nI n0), .ref (q 13)])), ((q 1), .inl (cI, 1216, .inl ce))]) [0, 1] rfl
  have hK2 := hK.sub (tys' := [(cI, .int)]) [0] rfl
  refine lv_aload_n hx hb d_X1_enter_0 rfl (lv_at hl 0 rfl) ?_
  refine va_get (D := D) (ci := 1) (v := .ref (q 2)) (C := RX1) (T := TX1) (N := 14) hx hb hts usX1 hown hK hP 0 rfl rfl 2 (by decide) (hts _ fl_X1_13) (fun _ h9 => h9) rfl d_X1_enter_1 ?_
  refine lv_iload_n hx hb d_X1_enter_4 rfl (lv_at hl 1 rfl) ?_
  refine va_iald hx hb hK hP 2 0 rfl rfl (vp_in_nI (show L < 19 by omega) (by decide)) d_X1_enter_5 ?_
  refine td_i (y := (mv L)) (by rw [hcL]) ?_
  refine lv_istore_n hx hb d_X1_enter_6 rfl hl (by decide) rfl (fun ls hl => ?_)
  have hl : lv_has ls 4 [(2, .int (mv L)), (0, .ref o), (1, .int (nI L))] := hl
  refine lv_aload_n hx hb d_X1_enter_7 rfl (lv_at hl 1 rfl) ?_
  refine lv_iload_n hx hb d_X1_enter_8 rfl (lv_at hl 2 rfl) ?_
  refine lv_iload_n hx hb d_X1_enter_9 rfl (lv_at hl 0 rfl) ?_
  refine lv_iconst (v := 1) hx hb d_X1_enter_10 (by decide) ?_
  refine vp_callSi (W.runV (b := o) (C := RX1) (As := [.int (nI L), .int (mv L), .int 1]) (rest := []) ⟨hx, hb, hml, hown, hts⟩ (m_X1_movable l D o (q 1) cI [.int th, .ref (q 1), .ref (q 2), .ref (q 3), .ref (q 4), .int md, .ref (q 6), .ref (q 7), .ref (q 8), .ref (q 9), .int ch, .ref (q 11), .int (nI n0), .ref (q 13)] rfl ce (q 11) rfl n0 rfl hn0 sp sn hsp L hL (mv L) 1) (cwV 3 hts (tw_V ml_X1_103 im_X1_movable se_X1_movable in_X1 kw_X1_movable) rfl rfl rfl (by decide +kernel) ⟨Nat.le_of_ble_eq_true rfl, Nat.le_of_ble_eq_true rfl⟩) ⟨fun a U g mk q => ⟨q.1, q.2.1, va_K.moved (u := U) (U := U.calling g mk a) (Vm.Alike.refl U.vm) q.2.2⟩, va_recv (q0 := 0) (ci := 1) hK hP rfl rfl, fun U hU hW => ⟨rfl, by rw [hU]; exact hP3, va_K.moved hW.alike hK2⟩⟩ rfl rfl hl.1 rfl (lv_room (Nat.le_of_ble_eq_true rfl)) d_X1_enter_11 ⟨Nat.zero_le _, Nat.zero_le _⟩) (fun r h9 => ?_)
  subst h9
  have hc1 : (td_cap (fun i => td_any (td_lv ce L) (mv L) (sn i)) 1 n0 0 0) ≤ 0 + n0 := td_cap_le _ 1 n0 0 0
  generalize hm : (td_mm sn n0 (td_lv ce L) (mv L)) = mm
  have hmm : mm = decide (0 < (td_cap (fun i => td_any (td_lv ce L) (mv L) (sn i)) 1 n0 0 0)) := hm.symm
  refine td_joini 22 ls [] (fun y => y = if mm then 1 else 0) (fun y ey => ?_) (fun J => ?_)
  · refine lv_istore_n hx hb d_X1_enter_22 rfl hl (by decide) rfl (fun ls hl => ?_)
    have hl : lv_has ls 4 [(3, .int y), (2, .int (mv L)), (0, .ref o), (1, .int (nI L))] := hl
    refine lv_aload_n hx hb d_X1_enter_23 rfl (lv_at hl 2 rfl) ?_
    refine va_get (D := D) (ci := 1) (v := .ref (q 6)) (C := RX1) (T := TX1) (N := 14) hx hb hts usX1 hown hK hP 0 rfl rfl 6 (by decide) (hts _ fl_X1_23) (fun _ h9 => h9) rfl d_X1_enter_24 ?_
    refine lv_iload_n hx hb d_X1_enter_27 rfl (lv_at hl 3 rfl) ?_
    refine td_joini 40 ls [.int (nI L), .ref (q 6)] (fun v => v = td_eA mm n0) (fun v ev => ?_) (fun J => ?_)
    · subst ev
      refine va_iast hx hb hK hP hD hS 4 0 rfl rfl (vp_in_nI (show L < 19 by omega) (by decide)) d_X1_enter_40 (fun H locs hP hD hS => ?_)
      have hu : upd at_ (nI L).toNatClampNeg (td_eA mm n0) = (upd at_ L (td_eA mm n0)) := by rw [hcL]
      have hP : va_P D tdC [(o, .inr (1, [.int th, .ref (q 1), .ref (q 2), .ref (q 3), .ref (q 4), .int md, .ref (q 6), .ref (q 7), .ref (q 8), .ref (q 9), .int ch, .ref (q 11), .int (nI n0), .ref (q 13)])), ((q 1), .inl (cI, 1216, .inl ce)), ((q 2), .inl (cI, 19, .inl mv)), ((q 11), .inl (cI, 64, .inl sp)), ((q 6), .inl (cI, 19, .inl (upd at_ (nI L).toNatClampNeg (td_eA mm n0)))), ((q 7), .inl (cZ, 19, .inl pa)), ((q 8), .inl (cI, 19, .inl wo))] H := hP
      have hD : va_D A [(o, .inr (1, [.int th, .ref (q 1), .ref (q 2), .ref (q 3), .ref (q 4), .int md, .ref (q 6), .ref (q 7), .ref (q 8), .ref (q 9), .int ch, .ref (q 11), .int (nI n0), .ref (q 13)])), ((q 1), .inl (cI, 1216, .inl ce)), ((q 2), .inl (cI, 19, .inl mv)), ((q 11), .inl (cI, 64, .inl sp)), ((q 6), .inl (cI, 19, .inl (upd at_ (nI L).toNatClampNeg (td_eA mm n0)))), ((q 7), .inl (cZ, 19, .inl pa)), ((q 8), .inl (cI, 19, .inl wo))] := hD
      rw [hu] at hP hD
      clear hu
      have hP : va_P D tdC [(o, .inr (1, [.int th, .ref (q 1), .ref (q 2), .ref (q 3), .ref (q 4), .int md, .ref (q 6), .ref (q 7), .ref (q 8), .ref (q 9), .int ch, .ref (q 11), .int (nI n0), .ref (q 13)])), ((q 1), .inl (cI, 1216, .inl ce)), ((q 2), .inl (cI, 19, .inl mv)), ((q 11), .inl (cI, 64, .inl sp)), ((q 6), .inl (cI, 19, .inl (upd at_ L (td_eA mm n0)))), ((q 7), .inl (cZ, 19, .inl pa)), ((q 8), .inl (cI, 19, .inl wo))] H := hP
      have hD : va_D A [(o, .inr (1, [.int th, .ref (q 1), .ref (q 2), .ref (q 3), .ref (q 4), .int md, .ref (q 6), .ref (q 7), .ref (q 8), .ref (q 9), .int ch, .ref (q 11), .int (nI n0), .ref (q 13)])), ((q 1), .inl (cI, 1216, .inl ce)), ((q 2), .inl (cI, 19, .inl mv)), ((q 11), .inl (cI, 64, .inl sp)), ((q 6), .inl (cI, 19, .inl (upd at_ L (td_eA mm n0)))), ((q 7), .inl (cZ, 19, .inl pa)), ((q 8), .inl (cI, 19, .inl wo))] := hD
      refine lv_aload_n hx hb d_X1_enter_41 rfl (lv_at hl 2 rfl) ?_
      refine va_get (D := D) (ci := 1) (v := .ref (q 8)) (C := RX1) (T := TX1) (N := 14) hx hb hts usX1 hown hK hP 0 rfl rfl 8 (by decide) (hts _ fl_X1_30) (fun _ h9 => h9) rfl d_X1_enter_42 ?_
      refine lv_iload_n hx hb d_X1_enter_45 rfl (lv_at hl 3 rfl) ?_
      refine lv_sipush (v := (-1000)) hx hb d_X1_enter_46 (by decide) ?_
      refine va_iast hx hb hK hP hD hS 6 0 rfl rfl (vp_in_nI (show L < 19 by omega) (by decide)) d_X1_enter_49 (fun H locs hP hD hS => ?_)
      have hu : upd wo (nI L).toNatClampNeg (-1000) = (upd wo L (-1000)) := by rw [hcL]
      have hP : va_P D tdC [(o, .inr (1, [.int th, .ref (q 1), .ref (q 2), .ref (q 3), .ref (q 4), .int md, .ref (q 6), .ref (q 7), .ref (q 8), .ref (q 9), .int ch, .ref (q 11), .int (nI n0), .ref (q 13)])), ((q 1), .inl (cI, 1216, .inl ce)), ((q 2), .inl (cI, 19, .inl mv)), ((q 11), .inl (cI, 64, .inl sp)), ((q 6), .inl (cI, 19, .inl (upd at_ L (td_eA mm n0)))), ((q 7), .inl (cZ, 19, .inl pa)), ((q 8), .inl (cI, 19, .inl (upd wo (nI L).toNatClampNeg (-1000))))] H := hP
      have hD : va_D A [(o, .inr (1, [.int th, .ref (q 1), .ref (q 2), .ref (q 3), .ref (q 4), .int md, .ref (q 6), .ref (q 7), .ref (q 8), .ref (q 9), .int ch, .ref (q 11), .int (nI n0), .ref (q 13)])), ((q 1), .inl (cI, 1216, .inl ce)), ((q 2), .inl (cI, 19, .inl mv)), ((q 11), .inl (cI, 64, .inl sp)), ((q 6), .inl (cI, 19, .inl (upd at_ L (td_eA mm n0)))), ((q 7), .inl (cZ, 19, .inl pa)), ((q 8), .inl (cI, 19, .inl (upd wo (nI L).toNatClampNeg (-1000))))] := hD
      rw [hu] at hP hD
      clear hu
      have hP : va_P D tdC [(o, .inr (1, [.int th, .ref (q 1), .ref (q 2), .ref (q 3), .ref (q 4), .int md, .ref (q 6), .ref (q 7), .ref (q 8), .ref (q 9), .int ch, .ref (q 11), .int (nI n0), .ref (q 13)])), ((q 1), .inl (cI, 1216, .inl ce)), ((q 2), .inl (cI, 19, .inl mv)), ((q 11), .inl (cI, 64, .inl sp)), ((q 6), .inl (cI, 19, .inl (upd at_ L (td_eA mm n0)))), ((q 7), .inl (cZ, 19, .inl pa)), ((q 8), .inl (cI, 19, .inl (upd wo L (-1000))))] H := hP
      have hD : va_D A [(o, .inr (1, [.int th, .ref (q 1), .ref (q 2), .ref (q 3), .ref (q 4), .int md, .ref (q 6), .ref (q 7), .ref (q 8), .ref (q 9), .int ch, .ref (q 11), .int (nI n0), .ref (q 13)])), ((q 1), .inl (cI, 1216, .inl ce)), ((q 2), .inl (cI, 19, .inl mv)), ((q 11), .inl (cI, 64, .inl sp)), ((q 6), .inl (cI, 19, .inl (upd at_ L (td_eA mm n0)))), ((q 7), .inl (cZ, 19, .inl pa)), ((q 8), .inl (cI, 19, .inl (upd wo L (-1000))))] := hD
      clear hP3 hP2
      have hP3 := hP.sub (ws' := [(o, .inr (1, [.int th, .ref (q 1), .ref (q 2), .ref (q 3), .ref (q 4), .int md, .ref (q 6), .ref (q 7), .ref (q 8), .ref (q 9), .int ch, .ref (q 11), .int (nI n0), .ref (q 13)])), ((q 1), .inl (cI, 1216, .inl ce)), ((q 11), .inl (cI, 64, .inl sp))]) [0, 1, 3] rfl
      have hP2 := hP.sub (ws' := [(o, .inr (1, [.int th, .ref (q 1), .ref (q 2), .ref (q 3), .ref (q 4), .int md, .ref (q 6), .ref (q 7), .ref (q 8), .ref (q 9), .int ch, .ref (q 11), .int (nI n0), .ref (q 13)])), ((q 1), .inl (cI, 1216, .inl ce))]) [0, 1] rfl
      have hK2 := hK.sub (tys' := [(cI, .int)]) [0] rfl
      refine lv_aload_n hx hb d_X1_enter_50 rfl (lv_at hl 2 rfl) ?_
      refine va_get (D := D) (ci := 1) (v := .ref (q 7)) (C := RX1) (T := TX1) (N := 14) hx hb hts usX1 hown hK hP 0 rfl rfl 7 (by decide) (hts _ fl_X1_26) (fun _ h9 => h9) rfl d_X1_enter_51 ?_
      refine lv_iload_n hx hb d_X1_enter_54 rfl (lv_at hl 3 rfl) ?_
      generalize hm2 : (td_mm sn n0 (td_lv ce L) (1 - mv L)) = m2
      refine td_joini 76 ls [.int (nI L), .ref (q 7)] (fun v => v = td_eP mm m2) (fun v ev => ?_) (fun J => ?_)
      · subst ev
        refine va_zast hx hb hK hP hD hS 5 1 rfl rfl (vp_in_nI (show L < 19 by omega) (by decide)) d_X1_enter_76 (fun H locs hP hD hS => ?_)
        have hu : upd pa (nI L).toNatClampNeg (vp_nar .boolean (td_eP mm m2)) = (upd pa L (td_eP mm m2)) := by rw [hcL]; cases mm <;> cases m2 <;> rfl
        have hP : va_P D tdC [(o, .inr (1, [.int th, .ref (q 1), .ref (q 2), .ref (q 3), .ref (q 4), .int md, .ref (q 6), .ref (q 7), .ref (q 8), .ref (q 9), .int ch, .ref (q 11), .int (nI n0), .ref (q 13)])), ((q 1), .inl (cI, 1216, .inl ce)), ((q 2), .inl (cI, 19, .inl mv)), ((q 11), .inl (cI, 64, .inl sp)), ((q 6), .inl (cI, 19, .inl (upd at_ L (td_eA mm n0)))), ((q 7), .inl (cZ, 19, .inl (upd pa (nI L).toNatClampNeg (vp_nar .boolean (td_eP mm m2))))), ((q 8), .inl (cI, 19, .inl (upd wo L (-1000))))] H := hP
        have hD : va_D A [(o, .inr (1, [.int th, .ref (q 1), .ref (q 2), .ref (q 3), .ref (q 4), .int md, .ref (q 6), .ref (q 7), .ref (q 8), .ref (q 9), .int ch, .ref (q 11), .int (nI n0), .ref (q 13)])), ((q 1), .inl (cI, 1216, .inl ce)), ((q 2), .inl (cI, 19, .inl mv)), ((q 11), .inl (cI, 64, .inl sp)), ((q 6), .inl (cI, 19, .inl (upd at_ L (td_eA mm n0)))), ((q 7), .inl (cZ, 19, .inl (upd pa (nI L).toNatClampNeg (vp_nar .boolean (td_eP mm m2))))), ((q 8), .inl (cI, 19, .inl (upd wo L (-1000))))] := hD
        rw [hu] at hP hD
        clear hu
        have hP : va_P D tdC [(o, .inr (1, [.int th, .ref (q 1), .ref (q 2), .ref (q 3), .ref (q 4), .int md, .ref (q 6), .ref (q 7), .ref (q 8), .ref (q 9), .int ch, .ref (q 11), .int (nI n0), .ref (q 13)])), ((q 1), .inl (cI, 1216, .inl ce)), ((q 2), .inl (cI, 19, .inl mv)), ((q 11), .inl (cI, 64, .inl sp)), ((q 6), .inl (cI, 19, .inl (upd at_ L (td_eA mm n0)))), ((q 7), .inl (cZ, 19, .inl (upd pa L (td_eP mm m2)))), ((q 8), .inl (cI, 19, .inl (upd wo L (-1000))))] H := hP
        have hD : va_D A [(o, .inr (1, [.int th, .ref (q 1), .ref (q 2), .ref (q 3), .ref (q 4), .int md, .ref (q 6), .ref (q 7), .ref (q 8), .ref (q 9), .int ch, .ref (q 11), .int (nI n0), .ref (q 13)])), ((q 1), .inl (cI, 1216, .inl ce)), ((q 2), .inl (cI, 19, .inl mv)), ((q 11), .inl (cI, 64, .inl sp)), ((q 6), .inl (cI, 19, .inl (upd at_ L (td_eA mm n0)))), ((q 7), .inl (cZ, 19, .inl (upd pa L (td_eP mm m2)))), ((q 8), .inl (cI, 19, .inl (upd wo L (-1000))))] := hD
        clear hP3 hP2
        have hP3 := hP.sub (ws' := [(o, .inr (1, [.int th, .ref (q 1), .ref (q 2), .ref (q 3), .ref (q 4), .int md, .ref (q 6), .ref (q 7), .ref (q 8), .ref (q 9), .int ch, .ref (q 11), .int (nI n0), .ref (q 13)])), ((q 1), .inl (cI, 1216, .inl ce)), ((q 11), .inl (cI, 64, .inl sp))]) [0, 1, 3] rfl
        have hP2 := hP.sub (ws' := [(o, .inr (1, [.int th, .ref (q 1), .ref (q 2), .ref (q 3), .ref (q 4), .int md, .ref (q 6), .ref (q 7), .ref (q 8), .ref (q 9), .int ch, .ref (q 11), .int (nI n0), .ref (q 13)])), ((q 1), .inl (cI, 1216, .inl ce))]) [0, 1] rfl
        have hK2 := hK.sub (tys' := [(cI, .int)]) [0] rfl
        refine lv_iload_n hx hb d_X1_enter_77 rfl (lv_at hl 0 rfl) ?_
        refine lv_if_ne (tgt := 111) hx hb d_X1_enter_78 (by decide) (fun h0 => ?_) (fun h0 => ?_)
        · have hmt : mm = true := by cases mm; exact absurd ey h0; rfl
          have e9 : td_eW mm m2 (td_df (td_lv ce L) (mv L)) = -1000 := by rw [hmt]; rfl
          have hP : va_P D tdC [(o, .inr (1, [.int th, .ref (q 1), .ref (q 2), .ref (q 3), .ref (q 4), .int md, .ref (q 6), .ref (q 7), .ref (q 8), .ref (q 9), .int ch, .ref (q 11), .int (nI n0), .ref (q 13)])), ((q 1), .inl (cI, 1216, .inl ce)), ((q 2), .inl (cI, 19, .inl mv)), ((q 11), .inl (cI, 64, .inl sp)), ((q 6), .inl (cI, 19, .inl (upd at_ L (td_eA mm n0)))), ((q 7), .inl (cZ, 19, .inl (upd pa L (td_eP mm m2)))), ((q 8), .inl (cI, 19, .inl (upd wo L (td_eW mm m2 (td_df (td_lv ce L) (mv L))))))] H := by rw [e9]; exact hP
          have hD : va_D A [(o, .inr (1, [.int th, .ref (q 1), .ref (q 2), .ref (q 3), .ref (q 4), .int md, .ref (q 6), .ref (q 7), .ref (q 8), .ref (q 9), .int ch, .ref (q 11), .int (nI n0), .ref (q 13)])), ((q 1), .inl (cI, 1216, .inl ce)), ((q 2), .inl (cI, 19, .inl mv)), ((q 11), .inl (cI, 64, .inl sp)), ((q 6), .inl (cI, 19, .inl (upd at_ L (td_eA mm n0)))), ((q 7), .inl (cZ, 19, .inl (upd pa L (td_eP mm m2)))), ((q 8), .inl (cI, 19, .inl (upd wo L (td_eW mm m2 (td_df (td_lv ce L) (mv L))))))] := by rw [e9]; exact hD
          subst hm; subst hm2
          exact W.vret hx hb hr (fun t ht hW => ⟨⟨(), rfl, trivial, by rw [ht]; exact hP, va_K.moved hW.alike hK, hD⟩, hS.F ht⟩) hS.2.2 d_X1_enter_111
        · have hmf : mm = false := by cases mm; rfl; exact absurd (ey.symm.trans h0) (by decide)
          refine lv_aload_n hx hb d_X1_enter_81 rfl (lv_at hl 2 rfl) ?_
          refine va_get (D := D) (ci := 1) (v := .ref (q 7)) (C := RX1) (T := TX1) (N := 14) hx hb hts usX1 hown hK hP 0 rfl rfl 7 (by decide) (hts _ fl_X1_26) (fun _ h9 => h9) rfl d_X1_enter_82 ?_
          refine lv_iload_n hx hb d_X1_enter_85 rfl (lv_at hl 3 rfl) ?_
          refine va_zald hx hb hK hP 5 1 rfl rfl (vp_in_nI (show L < 19 by omega) (by decide)) d_X1_enter_86 ?_
          refine td_i (y := (td_eP mm m2)) (by rw [hcL, pk_us]) ?_
          refine lv_if_ne (tgt := 111) hx hb d_X1_enter_87 (by decide) (fun h5 => ?_) (fun h5 => ?_)
          · have hm2t : m2 = true := by cases m2; (rw [hmf] at h5; exact absurd rfl h5); rfl
            have e9 : td_eW mm m2 (td_df (td_lv ce L) (mv L)) = -1000 := by rw [hmf, hm2t]; rfl
            have hP : va_P D tdC [(o, .inr (1, [.int th, .ref (q 1), .ref (q 2), .ref (q 3), .ref (q 4), .int md, .ref (q 6), .ref (q 7), .ref (q 8), .ref (q 9), .int ch, .ref (q 11), .int (nI n0), .ref (q 13)])), ((q 1), .inl (cI, 1216, .inl ce)), ((q 2), .inl (cI, 19, .inl mv)), ((q 11), .inl (cI, 64, .inl sp)), ((q 6), .inl (cI, 19, .inl (upd at_ L (td_eA mm n0)))), ((q 7), .inl (cZ, 19, .inl (upd pa L (td_eP mm m2)))), ((q 8), .inl (cI, 19, .inl (upd wo L (td_eW mm m2 (td_df (td_lv ce L) (mv L))))))] H := by rw [e9]; exact hP
            have hD : va_D A [(o, .inr (1, [.int th, .ref (q 1), .ref (q 2), .ref (q 3), .ref (q 4), .int md, .ref (q 6), .ref (q 7), .ref (q 8), .ref (q 9), .int ch, .ref (q 11), .int (nI n0), .ref (q 13)])), ((q 1), .inl (cI, 1216, .inl ce)), ((q 2), .inl (cI, 19, .inl mv)), ((q 11), .inl (cI, 64, .inl sp)), ((q 6), .inl (cI, 19, .inl (upd at_ L (td_eA mm n0)))), ((q 7), .inl (cZ, 19, .inl (upd pa L (td_eP mm m2)))), ((q 8), .inl (cI, 19, .inl (upd wo L (td_eW mm m2 (td_df (td_lv ce L) (mv L))))))] := by rw [e9]; exact hD
            subst hm; subst hm2
            exact W.vret hx hb hr (fun t ht hW => ⟨⟨(), rfl, trivial, by rw [ht]; exact hP, va_K.moved hW.alike hK, hD⟩, hS.F ht⟩) hS.2.2 d_X1_enter_111
          · have hm2f : m2 = false := by cases m2; rfl; (rw [hmf] at h5; exact absurd h5 (by decide))
            refine lv_aload_n hx hb d_X1_enter_90 rfl (lv_at hl 2 rfl) ?_
            refine va_get (D := D) (ci := 1) (v := .ref (q 8)) (C := RX1) (T := TX1) (N := 14) hx hb hts usX1 hown hK hP 0 rfl rfl 8 (by decide) (hts _ fl_X1_30) (fun _ h9 => h9) rfl d_X1_enter_91 ?_
            refine lv_iload_n hx hb d_X1_enter_94 rfl (lv_at hl 3 rfl) ?_
            refine lv_aload_n hx hb d_X1_enter_95 rfl (lv_at hl 2 rfl) ?_
            refine lv_iload_n hx hb d_X1_enter_96 rfl (lv_at hl 3 rfl) ?_
            refine lv_iload_n hx hb d_X1_enter_97 rfl (lv_at hl 1 rfl) ?_
            refine vp_callSi (W.runV (b := o) (C := RX1) (As := [.int (nI L), .int (mv L)]) (rest := [.int (nI L), .ref (q 8)]) ⟨hx, hb, hml, hown, hts⟩ (m_X1_discsOf l D o (q 1) cI [.int th, .ref (q 1), .ref (q 2), .ref (q 3), .ref (q 4), .int md, .ref (q 6), .ref (q 7), .ref (q 8), .ref (q 9), .int ch, .ref (q 11), .int (nI n0), .ref (q 13)] rfl ce L hL (mv L)) (cwV 2 hts (tw_V ml_X1_93 im_X1_discsOf se_X1_discsOf in_X1 kw_X1_discsOf) rfl rfl rfl (by decide +kernel) ⟨Nat.le_of_ble_eq_true rfl, Nat.le_of_ble_eq_true rfl⟩) ⟨fun a U g mk q => ⟨q.1, q.2.1, va_K.moved (u := U) (U := U.calling g mk a) (Vm.Alike.refl U.vm) q.2.2⟩, va_recv (q0 := 0) (ci := 1) hK hP rfl rfl, fun U hU hW => ⟨rfl, by rw [hU]; exact hP2, va_K.moved hW.alike hK2⟩⟩ rfl rfl hl.1 rfl (lv_room (Nat.le_of_ble_eq_true rfl)) d_X1_enter_98 ⟨Nat.zero_le _, Nat.zero_le _⟩) (fun r h9 => ?_)
            subst h9
            refine lv_aload_n hx hb d_X1_enter_101 rfl (lv_at hl 2 rfl) ?_
            refine lv_iload_n hx hb d_X1_enter_102 rfl (lv_at hl 3 rfl) ?_
            refine lv_iconst (v := 1) hx hb d_X1_enter_103 (by decide) ?_
            refine lv_iload_n hx hb d_X1_enter_104 rfl (lv_at hl 1 rfl) ?_
            refine lv_isub hx hb d_X1_enter_105 ?_
            refine vp_callSi (W.runV (b := o) (C := RX1) (As := [.int (nI L), .int (1 - (mv L))]) (rest := [.int (nI (td_dc (td_lv ce L) (mv L))), .int (nI L), .ref (q 8)]) ⟨hx, hb, hml, hown, hts⟩ (m_X1_discsOf l D o (q 1) cI [.int th, .ref (q 1), .ref (q 2), .ref (q 3), .ref (q 4), .int md, .ref (q 6), .ref (q 7), .ref (q 8), .ref (q 9), .int ch, .ref (q 11), .int (nI n0), .ref (q 13)] rfl ce L hL (1 - mv L)) (cwV 2 hts (tw_V ml_X1_93 im_X1_discsOf se_X1_discsOf in_X1 kw_X1_discsOf) rfl rfl rfl (by decide +kernel) ⟨Nat.le_of_ble_eq_true rfl, Nat.le_of_ble_eq_true rfl⟩) ⟨fun a U g mk q => ⟨q.1, q.2.1, va_K.moved (u := U) (U := U.calling g mk a) (Vm.Alike.refl U.vm) q.2.2⟩, va_recv (q0 := 0) (ci := 1) hK hP rfl rfl, fun U hU hW => ⟨rfl, by rw [hU]; exact hP2, va_K.moved hW.alike hK2⟩⟩ rfl rfl hl.1 rfl (lv_room (Nat.le_of_ble_eq_true rfl)) d_X1_enter_106 ⟨Nat.zero_le _, Nat.zero_le _⟩) (fun r h9 => ?_)
            subst h9
            refine lv_isub hx hb d_X1_enter_109 ?_
            refine td_i (y := (td_df (td_lv ce L) (mv L))) (rfl) ?_
            refine va_iast hx hb hK hP hD hS 6 0 rfl rfl (vp_in_nI (show L < 19 by omega) (by decide)) d_X1_enter_110 (fun H locs hP hD hS => ?_)
            have hu : upd (upd wo L (-1000)) (nI L).toNatClampNeg (td_df (td_lv ce L) (mv L)) = (upd wo L (td_df (td_lv ce L) (mv L))) := by rw [hcL]; exact td_upd2 _ _ _ _
            have hP : va_P D tdC [(o, .inr (1, [.int th, .ref (q 1), .ref (q 2), .ref (q 3), .ref (q 4), .int md, .ref (q 6), .ref (q 7), .ref (q 8), .ref (q 9), .int ch, .ref (q 11), .int (nI n0), .ref (q 13)])), ((q 1), .inl (cI, 1216, .inl ce)), ((q 2), .inl (cI, 19, .inl mv)), ((q 11), .inl (cI, 64, .inl sp)), ((q 6), .inl (cI, 19, .inl (upd at_ L (td_eA mm n0)))), ((q 7), .inl (cZ, 19, .inl (upd pa L (td_eP mm m2)))), ((q 8), .inl (cI, 19, .inl (upd (upd wo L (-1000)) (nI L).toNatClampNeg (td_df (td_lv ce L) (mv L)))))] H := hP
            have hD : va_D A [(o, .inr (1, [.int th, .ref (q 1), .ref (q 2), .ref (q 3), .ref (q 4), .int md, .ref (q 6), .ref (q 7), .ref (q 8), .ref (q 9), .int ch, .ref (q 11), .int (nI n0), .ref (q 13)])), ((q 1), .inl (cI, 1216, .inl ce)), ((q 2), .inl (cI, 19, .inl mv)), ((q 11), .inl (cI, 64, .inl sp)), ((q 6), .inl (cI, 19, .inl (upd at_ L (td_eA mm n0)))), ((q 7), .inl (cZ, 19, .inl (upd pa L (td_eP mm m2)))), ((q 8), .inl (cI, 19, .inl (upd (upd wo L (-1000)) (nI L).toNatClampNeg (td_df (td_lv ce L) (mv L)))))] := hD
            rw [hu] at hP hD
            clear hu
            have hP : va_P D tdC [(o, .inr (1, [.int th, .ref (q 1), .ref (q 2), .ref (q 3), .ref (q 4), .int md, .ref (q 6), .ref (q 7), .ref (q 8), .ref (q 9), .int ch, .ref (q 11), .int (nI n0), .ref (q 13)])), ((q 1), .inl (cI, 1216, .inl ce)), ((q 2), .inl (cI, 19, .inl mv)), ((q 11), .inl (cI, 64, .inl sp)), ((q 6), .inl (cI, 19, .inl (upd at_ L (td_eA mm n0)))), ((q 7), .inl (cZ, 19, .inl (upd pa L (td_eP mm m2)))), ((q 8), .inl (cI, 19, .inl (upd wo L (td_df (td_lv ce L) (mv L)))))] H := hP
            have hD : va_D A [(o, .inr (1, [.int th, .ref (q 1), .ref (q 2), .ref (q 3), .ref (q 4), .int md, .ref (q 6), .ref (q 7), .ref (q 8), .ref (q 9), .int ch, .ref (q 11), .int (nI n0), .ref (q 13)])), ((q 1), .inl (cI, 1216, .inl ce)), ((q 2), .inl (cI, 19, .inl mv)), ((q 11), .inl (cI, 64, .inl sp)), ((q 6), .inl (cI, 19, .inl (upd at_ L (td_eA mm n0)))), ((q 7), .inl (cZ, 19, .inl (upd pa L (td_eP mm m2)))), ((q 8), .inl (cI, 19, .inl (upd wo L (td_df (td_lv ce L) (mv L)))))] := hD
            have e9 : td_eW mm m2 (td_df (td_lv ce L) (mv L)) = td_df (td_lv ce L) (mv L) := by rw [hmf, hm2f]; rfl
            have hP : va_P D tdC [(o, .inr (1, [.int th, .ref (q 1), .ref (q 2), .ref (q 3), .ref (q 4), .int md, .ref (q 6), .ref (q 7), .ref (q 8), .ref (q 9), .int ch, .ref (q 11), .int (nI n0), .ref (q 13)])), ((q 1), .inl (cI, 1216, .inl ce)), ((q 2), .inl (cI, 19, .inl mv)), ((q 11), .inl (cI, 64, .inl sp)), ((q 6), .inl (cI, 19, .inl (upd at_ L (td_eA mm n0)))), ((q 7), .inl (cZ, 19, .inl (upd pa L (td_eP mm m2)))), ((q 8), .inl (cI, 19, .inl (upd wo L (td_eW mm m2 (td_df (td_lv ce L) (mv L))))))] H := by rw [e9]; exact hP
            have hD : va_D A [(o, .inr (1, [.int th, .ref (q 1), .ref (q 2), .ref (q 3), .ref (q 4), .int md, .ref (q 6), .ref (q 7), .ref (q 8), .ref (q 9), .int ch, .ref (q 11), .int (nI n0), .ref (q 13)])), ((q 1), .inl (cI, 1216, .inl ce)), ((q 2), .inl (cI, 19, .inl mv)), ((q 11), .inl (cI, 64, .inl sp)), ((q 6), .inl (cI, 19, .inl (upd at_ L (td_eA mm n0)))), ((q 7), .inl (cZ, 19, .inl (upd pa L (td_eP mm m2)))), ((q 8), .inl (cI, 19, .inl (upd wo L (td_eW mm m2 (td_df (td_lv ce L) (mv L))))))] := by rw [e9]; exact hD
            subst hm; subst hm2
            exact W.vret hx hb hr (fun t ht hW => ⟨⟨(), rfl, trivial, by rw [ht]; exact hP, va_K.moved hW.alike hK, hD⟩, hS.F ht⟩) hS.2.2 d_X1_enter_111
      · refine lv_iload_n hx hb d_X1_enter_55 rfl (lv_at hl 0 rfl) ?_
        refine lv_if_ne (tgt := 75) hx hb d_X1_enter_56 (by decide) (fun h0 => ?_) (fun h0 => ?_)
        · refine lv_iconst (v := 0) hx hb d_X1_enter_75 (by decide) ?_
          exact J _ (by unfold td_eP; cases mm; exact absurd ey h0; rfl)
        · have hmf : mm = false := by cases mm; rfl; exact absurd (ey.symm.trans h0) (by decide)
          refine lv_aload_n hx hb d_X1_enter_59 rfl (lv_at hl 2 rfl) ?_
          refine lv_iload_n hx hb d_X1_enter_60 rfl (lv_at hl 3 rfl) ?_
          refine lv_iconst (v := 1) hx hb d_X1_enter_61 (by decide) ?_
          refine lv_iload_n hx hb d_X1_enter_62 rfl (lv_at hl 1 rfl) ?_
          refine lv_isub hx hb d_X1_enter_63 ?_
          refine lv_iconst (v := 1) hx hb d_X1_enter_64 (by decide) ?_
          refine vp_callSi (W.runV (b := o) (C := RX1) (As := [.int (nI L), .int (1 - (mv L)), .int 1]) (rest := [.int (nI L), .ref (q 7)]) ⟨hx, hb, hml, hown, hts⟩ (m_X1_movable l D o (q 1) cI [.int th, .ref (q 1), .ref (q 2), .ref (q 3), .ref (q 4), .int md, .ref (q 6), .ref (q 7), .ref (q 8), .ref (q 9), .int ch, .ref (q 11), .int (nI n0), .ref (q 13)] rfl ce (q 11) rfl n0 rfl hn0 sp sn hsp L hL (1 - mv L) 1) (cwV 3 hts (tw_V ml_X1_103 im_X1_movable se_X1_movable in_X1 kw_X1_movable) rfl rfl rfl (by decide +kernel) ⟨Nat.le_of_ble_eq_true rfl, Nat.le_of_ble_eq_true rfl⟩) ⟨fun a U g mk q => ⟨q.1, q.2.1, va_K.moved (u := U) (U := U.calling g mk a) (Vm.Alike.refl U.vm) q.2.2⟩, va_recv (q0 := 0) (ci := 1) hK hP rfl rfl, fun U hU hW => ⟨rfl, by rw [hU]; exact hP3, va_K.moved hW.alike hK2⟩⟩ rfl rfl hl.1 rfl (lv_room (Nat.le_of_ble_eq_true rfl)) d_X1_enter_65 ⟨Nat.zero_le _, Nat.zero_le _⟩) (fun r h9 => ?_)
          subst h9
          have hc2 : (td_cap (fun i => td_any (td_lv ce L) (1 - mv L) (sn i)) 1 n0 0 0) ≤ 0 + n0 := td_cap_le _ 1 n0 0 0
          have hmm2 : m2 = decide (0 < (td_cap (fun i => td_any (td_lv ce L) (1 - mv L) (sn i)) 1 n0 0 0)) := hm2.symm
          refine lv_if_le (tgt := 75) hx hb d_X1_enter_68 (by decide) (fun h3 => ?_) (fun h3 => ?_)
          · refine lv_iconst (v := 0) hx hb d_X1_enter_75 (by decide) ?_
            exact J _ (by rw [hmf, hmm2, decide_eq_false (fun z => absurd ((nI_ltI (a := 0) (by decide) (by omega)).mpr z) (Int32.not_lt.mpr h3))]; rfl)
          · refine lv_iconst (v := 1) hx hb d_X1_enter_71 (by decide) ?_
            refine lv_goto (tgt := 76) hx hb d_X1_enter_72 (by decide) ?_
            exact J _ (by rw [hmf, hmm2, decide_eq_true ((nI_ltI (a := 0) (by decide) (by omega)).mp (Int32.not_le.mp h3))]; rfl)
    · refine lv_iload_n hx hb d_X1_enter_28 rfl (lv_at hl 0 rfl) ?_
      refine lv_if_eq (tgt := 36) hx hb d_X1_enter_29 (by decide) (fun h0 => ?_) (fun h0 => ?_)
      · refine lv_aload_n hx hb d_X1_enter_36 rfl (lv_at hl 2 rfl) ?_
        refine va_get (D := D) (ci := 1) (v := .int (nI n0)) (C := RX1) (T := TX1) (N := 14) hx hb hts usX1 hown hK hP 0 rfl rfl 12 (by decide) (hts _ fl_X1_96) (fun _ h9 => h9) rfl d_X1_enter_37 ?_
        exact J _ (by unfold td_eA; cases mm; rfl; exact absurd (ey.symm.trans h0) (by decide))
      · refine lv_iconst (v := 0) hx hb d_X1_enter_32 (by decide) ?_
        refine lv_goto (tgt := 40) hx hb d_X1_enter_33 (by decide) ?_
        exact J _ (by unfold td_eA; cases mm; exact absurd ey h0; rfl)
  · refine lv_if_le (tgt := 21) hx hb d_X1_enter_14 (by decide) (fun h0 => ?_) (fun h0 => ?_)
    · refine lv_iconst (v := 0) hx hb d_X1_enter_21 (by decide) ?_
      exact J _ (by rw [hmm, decide_eq_false (fun z => absurd ((nI_ltI (a := 0) (by decide) (by omega)).mpr z) (Int32.not_lt.mpr h0))]; rfl)
    · refine lv_iconst (v := 1) hx hb d_X1_enter_17 (by decide) ?_
      refine lv_goto (tgt := 22) hx hb d_X1_enter_18 (by decide) ?_
      exact J _ (by rw [hmm, decide_eq_true ((nI_ltI (a := 0) (by decide) (by omega)).mp (Int32.not_le.mp h0))]; rfl)
set_option maxHeartbeats 4000000 in
set_option maxRecDepth 100000 in
theorem m_X1_nextAt (l : Launch) (D : va_G) (sz : Nat) (o : Nat) (q : Nat → Nat) (th md ch : Int32) (cI cZ : ClassId) (ce mv sp at_ pa : Nat → Int32) (n0 : Nat) (hn0 : n0 ≤ 64) (sn : Nat → Nat) (hsp : ∀ i, i < n0 → sn i < 64 ∧ sp i = nI (sn i)) (L : Nat) (hL : L ≤ 18) (a0 : Nat) (ha0 : a0 ≤ n0) (hat : at_ L = nI a0) : Met l y_X1_nextAt (k_X1_nextAt :: tw) ({ frames := 3, cells := 0, slots := 0, locals := 75 }) (va_Pc [.ref o, .int (nI L)] (fun U => U.heap.size = sz ∧ va_P D tdC [(o, .inr (1, [.int th, .ref (q 1), .ref (q 2), .ref (q 3), .ref (q 4), .int md, .ref (q 6), .ref (q 7), .ref (q 8), .ref (q 9), .int ch, .ref (q 11), .int (nI n0), .ref (q 13)])), ((q 1), .inl (cI, 1216, .inl ce)), ((q 2), .inl (cI, 19, .inl mv)), ((q 11), .inl (cI, 64, .inl sp)), ((q 6), .inl (cI, 19, .inl at_)), ((q 7), .inl (cZ, 19, .inl pa))] U.heap ∧ va_K D tdC [(cI, .int), (cZ, .boolean)] U ∧ va_D (fun _ => True) [(o, .inr (1, [.int th, .ref (q 1), .ref (q 2), .ref (q 3), .ref (q 4), .int md, .ref (q 6), .ref (q 7), .ref (q 8), .ref (q 9), .int ch, .ref (q 11), .int (nI n0), .ref (q 13)])), ((q 1), .inl (cI, 1216, .inl ce)), ((q 2), .inl (cI, 19, .inl mv)), ((q 11), .inl (cI, 64, .inl sp)), ((q 6), .inl (cI, 19, .inl at_)), ((q 7), .inl (cZ, 19, .inl pa))])) (va_Qi (fun (r : Int32) (_ : Unit) => r = if pa L = 0 then (match (td_nextI sn (td_lv ce L) (mv L) (n0 - a0) a0).2 with | none => -1000 | some j => nI j) else 64) (fun (_ : Unit) t => va_P D tdC [(o, .inr (1, [.int th, .ref (q 1), .ref (q 2), .ref (q 3), .ref (q 4), .int md, .ref (q 6), .ref (q 7), .ref (q 8), .ref (q 9), .int ch, .ref (q 11), .int (nI n0), .ref (q 13)])), ((q 1), .inl (cI, 1216, .inl ce)), ((q 2), .inl (cI, 19, .inl mv)), ((q 11), .inl (cI, 64, .inl sp)), ((q 6), .inl (cI, 19, .inl (if pa L = 0 then upd at_ L (nI (td_nextI sn (td_lv ce L) (mv L) (n0 - a0) a0).1) else at_))), ((q 7), .inl (cZ, 19, .inl (if pa L = 0 then pa else upd pa L 0)))] t.heap ∧ va_K D tdC [(cI, .int), (cZ, .boolean)] t ∧ va_D (va_A [(o, .inr (1, [.int th, .ref (q 1), .ref (q 2), .ref (q 3), .ref (q 4), .int md, .ref (q 6), .ref (q 7), .ref (q 8), .ref (q 9), .int ch, .ref (q 11), .int (nI n0), .ref (q 13)])), ((q 1), .inl (cI, 1216, .inl ce)), ((q 2), .inl (cI, 19, .inl mv)), ((q 11), .inl (cI, 64, .inl sp)), ((q 6), .inl (cI, 19, .inl at_)), ((q 7), .inl (cZ, 19, .inl pa))] sz) [(o, .inr (1, [.int th, .ref (q 1), .ref (q 2), .ref (q 3), .ref (q 4), .int md, .ref (q 6), .ref (q 7), .ref (q 8), .ref (q 9), .int ch, .ref (q 11), .int (nI n0), .ref (q 13)])), ((q 1), .inl (cI, 1216, .inl ce)), ((q 2), .inl (cI, 19, .inl mv)), ((q 11), .inl (cI, 64, .inl sp)), ((q 6), .inl (cI, 19, .inl (if pa L = 0 then upd at_ L (nI (td_nextI sn (td_lv ce L) (mv L) (n0 - a0) a0).1) else at_))), ((q 7), .inl (cZ, 19, .inl (if pa L = 0 then pa else upd pa L 0)))]) (va_A [(o, .inr (1, [.int th, .ref (q 1), .ref (q 2), .ref (q 3), .ref (q 4), .int md, .ref (q 6), .ref (q 7), .ref (q 8), .ref (q 9), .int ch, .ref (q 11), .int (nI n0), .ref (q 13)])), ((q 1), .inl (cI, 1216, .inl ce)), ((q 2), .inl (cI, 19, .inl mv)), ((q 11), .inl (cI, 64, .inl sp)), ((q 6), .inl (cI, 19, .inl at_)), ((q 7), .inl (cZ, 19, .inl pa))] sz)) 0 0 (va_A [(o, .inr (1, [.int th, .ref (q 1), .ref (q 2), .ref (q 3), .ref (q 4), .int md, .ref (q 6), .ref (q 7), .ref (q 8), .ref (q 9), .int ch, .ref (q 11), .int (nI n0), .ref (q 13)])), ((q 1), .inl (cI, 1216, .inl ce)), ((q 2), .inl (cI, 19, .inl mv)), ((q 11), .inl (cI, 64, .inl sp)), ((q 6), .inl (cI, 19, .inl at_)), ((q 7), .inl (cZ, 19, .inl pa))] sz) := by
  refine Met.ofW (cc := c_X1_nextAt) (maxL := 3) (ret := (some .int)) (by decide) rfl ?_
  intro p e s m args below meth c s₁ B hml hv
  obtain ⟨rfl, hsz, hP, hK, hD0⟩ := hv
  have hx := B.exec
  have hb := B.bytes
  have hr := B.returns
  have hts : ∀ w ∈ tw, w.before _ s = true := fun w h => atoms_spec (ws := k_X1_nextAt :: tw) B.pre w (List.mem_cons_of_mem _ h)
  have hown : s.vm.findClass RX1 = some m.cls := findClass_of_methodNamed B.named
  have hlocks := B.notSynchronized
  subst hsz
  have hD := hD0.self (sz := s.heap.size)
  generalize hAe : va_A [(o, .inr (1, [.int th, .ref (q 1), .ref (q 2), .ref (q 3), .ref (q 4), .int md, .ref (q 6), .ref (q 7), .ref (q 8), .ref (q 9), .int ch, .ref (q 11), .int (nI n0), .ref (q 13)])), ((q 1), .inl (cI, 1216, .inl ce)), ((q 2), .inl (cI, 19, .inl mv)), ((q 11), .inl (cI, 64, .inl sp)), ((q 6), .inl (cI, 19, .inl at_)), ((q 7), .inl (cZ, 19, .inl pa))] s.heap.size = A at hD ⊢
  have hA : ∀ q : Nat, s.heap.size ≤ q → A q := fun q h => by rw [← hAe]; exact Or.inr h
  have hS : va_S A s.heap s.heap [] := va_S.rf
  have hP : va_P D tdC [(o, .inr (1, [.int th, .ref (q 1), .ref (q 2), .ref (q 3), .ref (q 4), .int md, .ref (q 6), .ref (q 7), .ref (q 8), .ref (q 9), .int ch, .ref (q 11), .int (nI n0), .ref (q 13)])), ((q 1), .inl (cI, 1216, .inl ce)), ((q 2), .inl (cI, 19, .inl mv)), ((q 11), .inl (cI, 64, .inl sp)), ((q 6), .inl (cI, 19, .inl at_)), ((q 7), .inl (cZ, 19, .inl pa))] s.heap := hP
  have hl := lv_entry ([.ref o, .int (nI L)]) (n := 3) (Nat.le_of_ble_eq_true rfl)
  rw [lg_entry_eq]
  generalize (lg_sl ([.ref o, .int (nI L)]) ++ List.replicate (3 - (lg_sl ([.ref o, .int (nI L)])).length) Slot.unset).toArray = ls at hl ⊢
  have hl : lv_has ls 3 [(0, .ref o), (1, .int (nI L))] := hl
  have hcL : (nI L).toNatClampNeg = L := nI_clamp (by omega)
  refine lv_aload_n hx hb d_X1_nextAt_0 rfl (lv_at hl 0 rfl) ?_
  refine va_get (D := D) (ci := 1) (v := .ref (q 7)) (C := RX1) (T := TX1) (N := 14) hx hb hts usX1 hown hK hP 0 rfl rfl 7 (by decide) (hts _ fl_X1_26) (fun _ h9 => h9) rfl d_X1_nextAt_1 ?_
  refine lv_iload_n hx hb d_X1_nextAt_4 rfl (lv_at hl 1 rfl) ?_
  refine va_zald hx hb hK hP 5 1 rfl rfl (vp_in_nI (show L < 19 by omega) (by decide)) d_X1_nextAt_5 ?_
  refine td_i (y := (pa L)) (by rw [hcL]) ?_
  refine lv_if_eq (tgt := 19) hx hb d_X1_nextAt_6 (by decide) (fun h0 => ?_) (fun h0 => ?_)
  · generalize hR : (td_nextI sn (td_lv ce L) (mv L) (n0 - a0) a0) = RES
    have hupd : upd at_ L (nI a0) = at_ := by funext j; by_cases hj : j = L; (subst hj; rw [pk_us]; exact hat.symm); exact pk_un hj
    rw [← hupd] at hP hD
    have hl0 := lv_sub hl [0, 1] rfl
    refine td_loopH 19 [] (fun b : Nat => n0 - b) (fun b H locs ls => (b ≤ n0 ∧ td_nextI sn (td_lv ce L) (mv L) (n0 - b) b = RES) ∧ va_P D tdC [(o, .inr (1, [.int th, .ref (q 1), .ref (q 2), .ref (q 3), .ref (q 4), .int md, .ref (q 6), .ref (q 7), .ref (q 8), .ref (q 9), .int ch, .ref (q 11), .int (nI n0), .ref (q 13)])), ((q 1), .inl (cI, 1216, .inl ce)), ((q 2), .inl (cI, 19, .inl mv)), ((q 11), .inl (cI, 64, .inl sp)), ((q 6), .inl (cI, 19, .inl (upd at_ L (nI b)))), ((q 7), .inl (cZ, 19, .inl pa))] H ∧ va_D A [(o, .inr (1, [.int th, .ref (q 1), .ref (q 2), .ref (q 3), .ref (q 4), .int md, .ref (q 6), .ref (q 7), .ref (q 8), .ref (q 9), .int ch, .ref (q 11), .int (nI n0), .ref (q 13)])), ((q 1), .inl (cI, 1216, .inl ce)), ((q 2), .inl (cI, 19, .inl mv)), ((q 11), .inl (cI, 64, .inl sp)), ((q 6), .inl (cI, 19, .inl (upd at_ L (nI b)))), ((q 7), .inl (cZ, 19, .inl pa))] ∧ va_S A s.heap H locs ∧ lv_has ls 3 [(0, .ref o), (1, .int (nI L))]) (fun b H locs ls hC ih => ?_) a0 ⟨⟨ha0, hR⟩, hP, hD, hS, hl0⟩
    clear hl hl0 hP hD hS
    obtain ⟨hi, hP, hD, hS, hl⟩ := hC
    obtain ⟨hbn, hnx⟩ := hi
    have hl : lv_has ls 3 [(0, .ref o), (1, .int (nI L))] := hl
    have hP : va_P D tdC [(o, .inr (1, [.int th, .ref (q 1), .ref (q 2), .ref (q 3), .ref (q 4), .int md, .ref (q 6), .ref (q 7), .ref (q 8), .ref (q 9), .int ch, .ref (q 11), .int (nI n0), .ref (q 13)])), ((q 1), .inl (cI, 1216, .inl ce)), ((q 2), .inl (cI, 19, .inl mv)), ((q 11), .inl (cI, 64, .inl sp)), ((q 6), .inl (cI, 19, .inl (upd at_ L (nI b)))), ((q 7), .inl (cZ, 19, .inl pa))] H := hP
    have hD : va_D A [(o, .inr (1, [.int th, .ref (q 1), .ref (q 2), .ref (q 3), .ref (q 4), .int md, .ref (q 6), .ref (q 7), .ref (q 8), .ref (q 9), .int ch, .ref (q 11), .int (nI n0), .ref (q 13)])), ((q 1), .inl (cI, 1216, .inl ce)), ((q 2), .inl (cI, 19, .inl mv)), ((q 11), .inl (cI, 64, .inl sp)), ((q 6), .inl (cI, 19, .inl (upd at_ L (nI b)))), ((q 7), .inl (cZ, 19, .inl pa))] := hD
    have hP2 := hP.sub (ws' := [(o, .inr (1, [.int th, .ref (q 1), .ref (q 2), .ref (q 3), .ref (q 4), .int md, .ref (q 6), .ref (q 7), .ref (q 8), .ref (q 9), .int ch, .ref (q 11), .int (nI n0), .ref (q 13)])), ((q 1), .inl (cI, 1216, .inl ce))]) [0, 1] rfl
    have hK2 := hK.sub (tys' := [(cI, .int)]) [0] rfl
    refine lv_aload_n hx hb d_X1_nextAt_19 rfl (lv_at hl 0 rfl) ?_
    refine va_get (D := D) (ci := 1) (v := .ref (q 6)) (C := RX1) (T := TX1) (N := 14) hx hb hts usX1 hown hK hP 0 rfl rfl 6 (by decide) (hts _ fl_X1_23) (fun _ h9 => h9) rfl d_X1_nextAt_20 ?_
    refine lv_iload_n hx hb d_X1_nextAt_23 rfl (lv_at hl 1 rfl) ?_
    refine va_iald hx hb hK hP 4 0 rfl rfl (vp_in_nI (show L < 19 by omega) (by decide)) d_X1_nextAt_24 ?_
    refine td_i (y := (nI b)) (by rw [hcL, pk_us]) ?_
    refine lv_aload_n hx hb d_X1_nextAt_25 rfl (lv_at hl 0 rfl) ?_
    refine va_get (D := D) (ci := 1) (v := .int (nI n0)) (C := RX1) (T := TX1) (N := 14) hx hb hts usX1 hown hK hP 0 rfl rfl 12 (by decide) (hts _ fl_X1_96) (fun _ h9 => h9) rfl d_X1_nextAt_26 ?_
    refine lv_icmp_ge (tgt := 74) hx hb d_X1_nextAt_29 (by decide) (fun h1 => ?_) (fun h1 => ?_)
    · have hbe : b = n0 := Nat.le_antisymm hbn ((nI_leI (by omega) (by omega)).mp h1)
      have hres : RES = (b, none) := by rw [← hnx, hbe, Nat.sub_self]; rfl
      refine lv_sipush (v := (-1000)) hx hb d_X1_nextAt_74 (by decide) ?_
      have hP : va_P D tdC [(o, .inr (1, [.int th, .ref (q 1), .ref (q 2), .ref (q 3), .ref (q 4), .int md, .ref (q 6), .ref (q 7), .ref (q 8), .ref (q 9), .int ch, .ref (q 11), .int (nI n0), .ref (q 13)])), ((q 1), .inl (cI, 1216, .inl ce)), ((q 2), .inl (cI, 19, .inl mv)), ((q 11), .inl (cI, 64, .inl sp)), ((q 6), .inl (cI, 19, .inl (if pa L = 0 then upd at_ L (nI RES.1) else at_))), ((q 7), .inl (cZ, 19, .inl (if pa L = 0 then pa else upd pa L 0)))] H := by simp only [if_pos h0, hres]; exact hP
      have hD : va_D A [(o, .inr (1, [.int th, .ref (q 1), .ref (q 2), .ref (q 3), .ref (q 4), .int md, .ref (q 6), .ref (q 7), .ref (q 8), .ref (q 9), .int ch, .ref (q 11), .int (nI n0), .ref (q 13)])), ((q 1), .inl (cI, 1216, .inl ce)), ((q 2), .inl (cI, 19, .inl mv)), ((q 11), .inl (cI, 64, .inl sp)), ((q 6), .inl (cI, 19, .inl (if pa L = 0 then upd at_ L (nI RES.1) else at_))), ((q 7), .inl (cZ, 19, .inl (if pa L = 0 then pa else upd pa L 0)))] := by simp only [if_pos h0, hres]; exact hD
      exact W.iret (v := (-1000)) hx hb hr (fun t ht hW => ⟨⟨_, (), rfl, by rw [if_pos h0, hres], by rw [ht]; exact hP, va_K.moved hW.alike hK, hD⟩, hS.F ht⟩) hS.2.2 d_X1_nextAt_77
    · have hbl : b < n0 := Nat.lt_of_not_le (fun z => h1 ((nI_leI (by omega) (by omega)).mpr z))
      obtain ⟨hs1, hs2⟩ := hsp b hbl
      have hst : n0 - b = (n0 - (b + 1)) + 1 := by omega
      rw [hst] at hnx
      unfold td_nextI at hnx
      refine lv_aload_n hx hb d_X1_nextAt_32 rfl (lv_at hl 0 rfl) ?_
      refine va_get (D := D) (ci := 1) (v := .ref (q 11)) (C := RX1) (T := TX1) (N := 14) hx hb hts usX1 hown hK hP 0 rfl rfl 11 (by decide) (hts _ fl_X1_36) (fun _ h9 => h9) rfl d_X1_nextAt_33 ?_
      refine lv_aload_n hx hb d_X1_nextAt_36 rfl (lv_at hl 0 rfl) ?_
      refine va_get (D := D) (ci := 1) (v := .ref (q 6)) (C := RX1) (T := TX1) (N := 14) hx hb hts usX1 hown hK hP 0 rfl rfl 6 (by decide) (hts _ fl_X1_23) (fun _ h9 => h9) rfl d_X1_nextAt_37 ?_
      refine lv_iload_n hx hb d_X1_nextAt_40 rfl (lv_at hl 1 rfl) ?_
      refine va_iald hx hb hK hP 4 0 rfl rfl (vp_in_nI (show L < 19 by omega) (by decide)) d_X1_nextAt_41 ?_
      refine td_i (y := (nI b)) (by rw [hcL, pk_us]) ?_
      refine va_iald hx hb hK hP 3 0 rfl rfl (vp_in_nI (show b < 64 by omega) (by decide)) d_X1_nextAt_42 ?_
      refine td_i (y := (nI (sn b))) (by rw [nI_clamp (by omega)]; exact hs2) ?_
      refine lv_istore_n hx hb d_X1_nextAt_43 rfl hl (by decide) rfl (fun ls hl => ?_)
      have hl : lv_has ls 3 [(2, .int (nI (sn b))), (0, .ref o), (1, .int (nI L))] := hl
      refine lv_aload_n hx hb d_X1_nextAt_44 rfl (lv_at hl 1 rfl) ?_
      refine va_get (D := D) (ci := 1) (v := .ref (q 6)) (C := RX1) (T := TX1) (N := 14) hx hb hts usX1 hown hK hP 0 rfl rfl 6 (by decide) (hts _ fl_X1_23) (fun _ h9 => h9) rfl d_X1_nextAt_45 ?_
      refine lv_iload_n hx hb d_X1_nextAt_48 rfl (lv_at hl 2 rfl) ?_
      refine lv_dup2_11 hx hb d_X1_nextAt_49 rfl rfl ?_
      refine va_iald hx hb hK hP 4 0 rfl rfl (vp_in_nI (show L < 19 by omega) (by decide)) d_X1_nextAt_50 ?_
      refine td_i (y := (nI b)) (by rw [hcL, pk_us]) ?_
      refine lv_iconst (v := 1) hx hb d_X1_nextAt_51 (by decide) ?_
      refine lv_iadd hx hb d_X1_nextAt_52 ?_
      refine td_i (y := (nI (b + 1))) ((nI_succ b).symm) ?_
      refine va_iast hx hb hK hP hD hS 4 0 rfl rfl (vp_in_nI (show L < 19 by omega) (by decide)) d_X1_nextAt_53 (fun H locs hP hD hS => ?_)
      have hu : upd (upd at_ L (nI b)) (nI L).toNatClampNeg (nI (b + 1)) = (upd at_ L (nI (b + 1))) := by rw [hcL]; exact td_upd2 _ _ _ _
      have hP : va_P D tdC [(o, .inr (1, [.int th, .ref (q 1), .ref (q 2), .ref (q 3), .ref (q 4), .int md, .ref (q 6), .ref (q 7), .ref (q 8), .ref (q 9), .int ch, .ref (q 11), .int (nI n0), .ref (q 13)])), ((q 1), .inl (cI, 1216, .inl ce)), ((q 2), .inl (cI, 19, .inl mv)), ((q 11), .inl (cI, 64, .inl sp)), ((q 6), .inl (cI, 19, .inl (upd (upd at_ L (nI b)) (nI L).toNatClampNeg (nI (b + 1))))), ((q 7), .inl (cZ, 19, .inl pa))] H := hP
      have hD : va_D A [(o, .inr (1, [.int th, .ref (q 1), .ref (q 2), .ref (q 3), .ref (q 4), .int md, .ref (q 6), .ref (q 7), .ref (q 8), .ref (q 9), .int ch, .ref (q 11), .int (nI n0), .ref (q 13)])), ((q 1), .inl (cI, 1216, .inl ce)), ((q 2), .inl (cI, 19, .inl mv)), ((q 11), .inl (cI, 64, .inl sp)), ((q 6), .inl (cI, 19, .inl (upd (upd at_ L (nI b)) (nI L).toNatClampNeg (nI (b + 1))))), ((q 7), .inl (cZ, 19, .inl pa))] := hD
      rw [hu] at hP hD
      clear hu
      have hP : va_P D tdC [(o, .inr (1, [.int th, .ref (q 1), .ref (q 2), .ref (q 3), .ref (q 4), .int md, .ref (q 6), .ref (q 7), .ref (q 8), .ref (q 9), .int ch, .ref (q 11), .int (nI n0), .ref (q 13)])), ((q 1), .inl (cI, 1216, .inl ce)), ((q 2), .inl (cI, 19, .inl mv)), ((q 11), .inl (cI, 64, .inl sp)), ((q 6), .inl (cI, 19, .inl (upd at_ L (nI (b + 1))))), ((q 7), .inl (cZ, 19, .inl pa))] H := hP
      have hD : va_D A [(o, .inr (1, [.int th, .ref (q 1), .ref (q 2), .ref (q 3), .ref (q 4), .int md, .ref (q 6), .ref (q 7), .ref (q 8), .ref (q 9), .int ch, .ref (q 11), .int (nI n0), .ref (q 13)])), ((q 1), .inl (cI, 1216, .inl ce)), ((q 2), .inl (cI, 19, .inl mv)), ((q 11), .inl (cI, 64, .inl sp)), ((q 6), .inl (cI, 19, .inl (upd at_ L (nI (b + 1))))), ((q 7), .inl (cZ, 19, .inl pa))] := hD
      clear hP2
      have hP2 := hP.sub (ws' := [(o, .inr (1, [.int th, .ref (q 1), .ref (q 2), .ref (q 3), .ref (q 4), .int md, .ref (q 6), .ref (q 7), .ref (q 8), .ref (q 9), .int ch, .ref (q 11), .int (nI n0), .ref (q 13)])), ((q 1), .inl (cI, 1216, .inl ce))]) [0, 1] rfl
      refine lv_aload_n hx hb d_X1_nextAt_54 rfl (lv_at hl 1 rfl) ?_
      refine lv_iload_n hx hb d_X1_nextAt_55 rfl (lv_at hl 2 rfl) ?_
      refine lv_iload_n hx hb d_X1_nextAt_56 rfl (lv_at hl 0 rfl) ?_
      refine lv_aload_n hx hb d_X1_nextAt_57 rfl (lv_at hl 1 rfl) ?_
      refine va_get (D := D) (ci := 1) (v := .ref (q 2)) (C := RX1) (T := TX1) (N := 14) hx hb hts usX1 hown hK hP 0 rfl rfl 2 (by decide) (hts _ fl_X1_13) (fun _ h9 => h9) rfl d_X1_nextAt_58 ?_
      refine lv_iload_n hx hb d_X1_nextAt_61 rfl (lv_at hl 2 rfl) ?_
      refine va_iald hx hb hK hP 2 0 rfl rfl (vp_in_nI (show L < 19 by omega) (by decide)) d_X1_nextAt_62 ?_
      refine td_i (y := (mv L)) (by rw [hcL]) ?_
      refine vp_callSi (W.runV (b := o) (C := RX1) (As := [.int (nI L), .int (nI (sn b)), .int (mv L)]) (rest := []) ⟨hx, hb, hml, hown, hts⟩ (m_X1_turnsAny l D o (q 1) cI [.int th, .ref (q 1), .ref (q 2), .ref (q 3), .ref (q 4), .int md, .ref (q 6), .ref (q 7), .ref (q 8), .ref (q 9), .int ch, .ref (q 11), .int (nI n0), .ref (q 13)] rfl ce L hL (sn b) hs1 (mv L)) (cwV 3 hts (tw_V ml_X1_99 im_X1_turnsAny se_X1_turnsAny in_X1 kw_X1_turnsAny) rfl rfl rfl (by decide +kernel) ⟨Nat.le_of_ble_eq_true rfl, Nat.le_of_ble_eq_true rfl⟩) ⟨fun a U g mk q => ⟨q.1, q.2.1, va_K.moved (u := U) (U := U.calling g mk a) (Vm.Alike.refl U.vm) q.2.2⟩, va_recv (q0 := 0) (ci := 1) hK hP rfl rfl, fun U hU hW => ⟨rfl, by rw [hU]; exact hP2, va_K.moved hW.alike hK2⟩⟩ rfl rfl hl.1 rfl (lv_room (Nat.le_of_ble_eq_true rfl)) d_X1_nextAt_63 ⟨Nat.zero_le _, Nat.zero_le _⟩) (fun r hq => ?_)
      refine lv_if_eq (tgt := 71) hx hb d_X1_nextAt_66 (by decide) (fun h2 => ?_) (fun h2 => ?_)
      · rw [if_neg (hq.elim (fun y => absurd (y.2.symm.trans h2) (by decide)) (fun y => y.1))] at hnx
        refine lv_goto (tgt := 19) hx hb d_X1_nextAt_71 (by decide) ?_
        have hl1 := lv_sub hl [1, 2] rfl
        exact ih (b + 1) _ _ _ (by omega) ⟨⟨hbl, hnx⟩, hP, hD, hS, hl1⟩
      · rw [if_pos (hq.elim (fun y => y.1) (fun y => absurd y.2 h2))] at hnx
        have hres : RES = (b + 1, some (sn b)) := hnx.symm
        refine lv_iload_n hx hb d_X1_nextAt_69 rfl (lv_at hl 0 rfl) ?_
        have hP : va_P D tdC [(o, .inr (1, [.int th, .ref (q 1), .ref (q 2), .ref (q 3), .ref (q 4), .int md, .ref (q 6), .ref (q 7), .ref (q 8), .ref (q 9), .int ch, .ref (q 11), .int (nI n0), .ref (q 13)])), ((q 1), .inl (cI, 1216, .inl ce)), ((q 2), .inl (cI, 19, .inl mv)), ((q 11), .inl (cI, 64, .inl sp)), ((q 6), .inl (cI, 19, .inl (if pa L = 0 then upd at_ L (nI RES.1) else at_))), ((q 7), .inl (cZ, 19, .inl (if pa L = 0 then pa else upd pa L 0)))] H := by simp only [if_pos h0, hres]; exact hP
        have hD : va_D A [(o, .inr (1, [.int th, .ref (q 1), .ref (q 2), .ref (q 3), .ref (q 4), .int md, .ref (q 6), .ref (q 7), .ref (q 8), .ref (q 9), .int ch, .ref (q 11), .int (nI n0), .ref (q 13)])), ((q 1), .inl (cI, 1216, .inl ce)), ((q 2), .inl (cI, 19, .inl mv)), ((q 11), .inl (cI, 64, .inl sp)), ((q 6), .inl (cI, 19, .inl (if pa L = 0 then upd at_ L (nI RES.1) else at_))), ((q 7), .inl (cZ, 19, .inl (if pa L = 0 then pa else upd pa L 0)))] := by simp only [if_pos h0, hres]; exact hD
        exact W.iret (v := (nI (sn b))) hx hb hr (fun t ht hW => ⟨⟨_, (), rfl, by rw [if_pos h0, hres], by rw [ht]; exact hP, va_K.moved hW.alike hK, hD⟩, hS.F ht⟩) hS.2.2 d_X1_nextAt_70
  · refine lv_aload_n hx hb d_X1_nextAt_9 rfl (lv_at hl 0 rfl) ?_
    refine va_get (D := D) (ci := 1) (v := .ref (q 7)) (C := RX1) (T := TX1) (N := 14) hx hb hts usX1 hown hK hP 0 rfl rfl 7 (by decide) (hts _ fl_X1_26) (fun _ h9 => h9) rfl d_X1_nextAt_10 ?_
    refine lv_iload_n hx hb d_X1_nextAt_13 rfl (lv_at hl 1 rfl) ?_
    refine lv_iconst (v := 0) hx hb d_X1_nextAt_14 (by decide) ?_
    refine va_zast hx hb hK hP hD hS 5 1 rfl rfl (vp_in_nI (show L < 19 by omega) (by decide)) d_X1_nextAt_15 (fun H locs hP hD hS => ?_)
    have hu : upd pa (nI L).toNatClampNeg (vp_nar .boolean 0) = (upd pa L 0) := by rw [hcL]; rfl
    have hP : va_P D tdC [(o, .inr (1, [.int th, .ref (q 1), .ref (q 2), .ref (q 3), .ref (q 4), .int md, .ref (q 6), .ref (q 7), .ref (q 8), .ref (q 9), .int ch, .ref (q 11), .int (nI n0), .ref (q 13)])), ((q 1), .inl (cI, 1216, .inl ce)), ((q 2), .inl (cI, 19, .inl mv)), ((q 11), .inl (cI, 64, .inl sp)), ((q 6), .inl (cI, 19, .inl at_)), ((q 7), .inl (cZ, 19, .inl (upd pa (nI L).toNatClampNeg (vp_nar .boolean 0))))] H := hP
    have hD : va_D A [(o, .inr (1, [.int th, .ref (q 1), .ref (q 2), .ref (q 3), .ref (q 4), .int md, .ref (q 6), .ref (q 7), .ref (q 8), .ref (q 9), .int ch, .ref (q 11), .int (nI n0), .ref (q 13)])), ((q 1), .inl (cI, 1216, .inl ce)), ((q 2), .inl (cI, 19, .inl mv)), ((q 11), .inl (cI, 64, .inl sp)), ((q 6), .inl (cI, 19, .inl at_)), ((q 7), .inl (cZ, 19, .inl (upd pa (nI L).toNatClampNeg (vp_nar .boolean 0))))] := hD
    rw [hu] at hP hD
    clear hu
    have hP : va_P D tdC [(o, .inr (1, [.int th, .ref (q 1), .ref (q 2), .ref (q 3), .ref (q 4), .int md, .ref (q 6), .ref (q 7), .ref (q 8), .ref (q 9), .int ch, .ref (q 11), .int (nI n0), .ref (q 13)])), ((q 1), .inl (cI, 1216, .inl ce)), ((q 2), .inl (cI, 19, .inl mv)), ((q 11), .inl (cI, 64, .inl sp)), ((q 6), .inl (cI, 19, .inl at_)), ((q 7), .inl (cZ, 19, .inl (upd pa L 0)))] H := hP
    have hD : va_D A [(o, .inr (1, [.int th, .ref (q 1), .ref (q 2), .ref (q 3), .ref (q 4), .int md, .ref (q 6), .ref (q 7), .ref (q 8), .ref (q 9), .int ch, .ref (q 11), .int (nI n0), .ref (q 13)])), ((q 1), .inl (cI, 1216, .inl ce)), ((q 2), .inl (cI, 19, .inl mv)), ((q 11), .inl (cI, 64, .inl sp)), ((q 6), .inl (cI, 19, .inl at_)), ((q 7), .inl (cZ, 19, .inl (upd pa L 0)))] := hD
    refine lv_bipush (v := 64) hx hb d_X1_nextAt_16 (by decide) ?_
    have hP : va_P D tdC [(o, .inr (1, [.int th, .ref (q 1), .ref (q 2), .ref (q 3), .ref (q 4), .int md, .ref (q 6), .ref (q 7), .ref (q 8), .ref (q 9), .int ch, .ref (q 11), .int (nI n0), .ref (q 13)])), ((q 1), .inl (cI, 1216, .inl ce)), ((q 2), .inl (cI, 19, .inl mv)), ((q 11), .inl (cI, 64, .inl sp)), ((q 6), .inl (cI, 19, .inl (if pa L = 0 then upd at_ L (nI (td_nextI sn (td_lv ce L) (mv L) (n0 - a0) a0).1) else at_))), ((q 7), .inl (cZ, 19, .inl (if pa L = 0 then pa else upd pa L 0)))] H := by simp only [if_neg h0]; exact hP
    have hD : va_D A [(o, .inr (1, [.int th, .ref (q 1), .ref (q 2), .ref (q 3), .ref (q 4), .int md, .ref (q 6), .ref (q 7), .ref (q 8), .ref (q 9), .int ch, .ref (q 11), .int (nI n0), .ref (q 13)])), ((q 1), .inl (cI, 1216, .inl ce)), ((q 2), .inl (cI, 19, .inl mv)), ((q 11), .inl (cI, 64, .inl sp)), ((q 6), .inl (cI, 19, .inl (if pa L = 0 then upd at_ L (nI (td_nextI sn (td_lv ce L) (mv L) (n0 - a0) a0).1) else at_))), ((q 7), .inl (cZ, 19, .inl (if pa L = 0 then pa else upd pa L 0)))] := by simp only [if_neg h0]; exact hD
    exact W.iret (v := 64) hx hb hr (fun t ht hW => ⟨⟨_, (), rfl, by rw [if_neg h0], by rw [ht]; exact hP, va_K.moved hW.alike hK, hD⟩, hS.F ht⟩) hS.2.2 d_X1_nextAt_18
