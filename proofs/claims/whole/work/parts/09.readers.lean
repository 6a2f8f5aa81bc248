/-! the class's readers: they need its object's cell alone -/
def td_of (x y : Int64) (pl q : Int32) : Int64 := if q = pl then x else y
def td_may (x y : Int64) (q : Int32) : Prop := (q = 64 ∧ td_moves x y = 0 ∧ ¬ td_moves y x = 0) ∨ (¬ q = 64 ∧ ¬ q < 0 ∧ q < 64 ∧ ¬ (td_moves x y &&& td_on q) = 0)
set_option maxHeartbeats 4000000 in
set_option maxRecDepth 100000 in
theorem m_X0_player (l : Launch) (D : va_G) (o : Nat) (x y : Int64) (pl md : Int32) (v4 v5 v6 : Value) : Met l y_X0_player (k_X0_player :: tw) ({ frames := 0, cells := 0, slots := 0, locals := 0 }) (va_Pc [.ref o] (fun U => va_P D tdC [(o, .inr (0, [.long x, .long y, .int pl, .int md, v4, v5, v6]))] U.heap ∧ va_K D tdC [] U)) (vp_Si (fun r => r = pl)) 0 0 (fun _ => False) := by
  refine Met.ofW (cc := c_X0_player) (maxL := 1) (ret := (some .int)) (by decide) rfl ?_
  intro p e s m args below meth c s₁ B hml hv
  obtain ⟨rfl, hP, hK⟩ := hv
  have hx := B.exec
  have hb := B.bytes
  have hr := B.returns
  have hts : ∀ w ∈ tw, w.before _ s = true := fun w h => atoms_spec (ws := k_X0_player :: tw) B.pre w (List.mem_cons_of_mem _ h)
  have hown : s.vm.findClass RX0 = some m.cls := findClass_of_methodNamed B.named
  have hlocks := B.notSynchronized
  have hl := lv_entry ([.ref o]) (n := 1) (Nat.le_of_ble_eq_true rfl)
  rw [lg_entry_eq]
  generalize (lg_sl ([.ref o]) ++ List.replicate (1 - (lg_sl ([.ref o])).length) Slot.unset).toArray = ls at hl ⊢
  have hl : lv_has ls 1 [(0, .ref o)] := hl
  refine lv_aload_n hx hb d_X0_player_0 rfl (lv_at hl 0 rfl) ?_
  refine va_get (D := D) (ci := 0) (v := .int pl) (C := RX0) (T := TX0) (N := 7) hx hb hts usX0 hown hK hP 0 rfl rfl 2 (by decide) (hts _ fl_X0_43) (fun _ h9 => h9) rfl d_X0_player_1 ?_
  exact W.iret (v := pl) hx hb hr (fun t ht hW => ⟨_, rfl, rfl, ht⟩) (fun _ h => nomatch h) d_X0_player_4
set_option maxHeartbeats 4000000 in
set_option maxRecDepth 100000 in
theorem m_X0_made (l : Launch) (D : va_G) (o : Nat) (x y : Int64) (pl md : Int32) (v4 v5 v6 : Value) : Met l y_X0_made (k_X0_made :: tw) ({ frames := 0, cells := 0, slots := 0, locals := 0 }) (va_Pc [.ref o] (fun U => va_P D tdC [(o, .inr (0, [.long x, .long y, .int pl, .int md, v4, v5, v6]))] U.heap ∧ va_K D tdC [] U)) (vp_Si (fun r => r = md)) 0 0 (fun _ => False) := by
  refine Met.ofW (cc := c_X0_made) (maxL := 1) (ret := (some .int)) (by decide) rfl ?_
  intro p e s m args below meth c s₁ B hml hv
  obtain ⟨rfl, hP, hK⟩ := hv
  have hx := B.exec
  have hb := B.bytes
  have hr := B.returns
  have hts : ∀ w ∈ tw, w.before _ s = true := fun w h => atoms_spec (ws := k_X0_made :: tw) B.pre w (List.mem_cons_of_mem _ h)
  have hown : s.vm.findClass RX0 = some m.cls := findClass_of_methodNamed B.named
  have hlocks := B.notSynchronized
  have hl := lv_entry ([.ref o]) (n := 1) (Nat.le_of_ble_eq_true rfl)
  rw [lg_entry_eq]
  generalize (lg_sl ([.ref o]) ++ List.replicate (1 - (lg_sl ([.ref o])).length) Slot.unset).toArray = ls at hl ⊢
  have hl : lv_has ls 1 [(0, .ref o)] := hl
  refine lv_aload_n hx hb d_X0_made_0 rfl (lv_at hl 0 rfl) ?_
  refine va_get (D := D) (ci := 0) (v := .int md) (C := RX0) (T := TX0) (N := 7) hx hb hts usX0 hown hK hP 0 rfl rfl 3 (by decide) (hts _ fl_X0_81) (fun _ h9 => h9) rfl d_X0_made_1 ?_
  exact W.iret (v := md) hx hb hr (fun t ht hW => ⟨_, rfl, rfl, ht⟩) (fun _ h => nomatch h) d_X0_made_4
set_option maxHeartbeats 4000000 in
set_option maxRecDepth 100000 in
theorem m_X0_discsOf (l : Launch) (D : va_G) (o : Nat) (x y : Int64) (pl md : Int32) (v4 v5 v6 : Value) (q : Int32) : Met l y_X0_discsOf (k_X0_discsOf :: tw) ({ frames := 0, cells := 0, slots := 0, locals := 0 }) (va_Pc [.ref o, .int q] (fun U => va_P D tdC [(o, .inr (0, [.long x, .long y, .int pl, .int md, v4, v5, v6]))] U.heap ∧ va_K D tdC [] U)) (vp_Sl (fun r => r = td_of x y pl q)) 0 0 (fun _ => False) := by
  refine Met.ofW (cc := c_X0_discsOf) (maxL := 2) (ret := (some .long)) (by decide) rfl ?_
  intro p e s m args below meth c s₁ B hml hv
  obtain ⟨rfl, hP, hK⟩ := hv
  have hx := B.exec
  have hb := B.bytes
  have hr := B.returns
  have hts : ∀ w ∈ tw, w.before _ s = true := fun w h => atoms_spec (ws := k_X0_discsOf :: tw) B.pre w (List.mem_cons_of_mem _ h)
  have hown : s.vm.findClass RX0 = some m.cls := findClass_of_methodNamed B.named
  have hlocks := B.notSynchronized
  have hl := lv_entry ([.ref o, .int q]) (n := 2) (Nat.le_of_ble_eq_true rfl)
  rw [lg_entry_eq]
  generalize (lg_sl ([.ref o, .int q]) ++ List.replicate (2 - (lg_sl ([.ref o, .int q])).length) Slot.unset).toArray = ls at hl ⊢
  have hl : lv_has ls 2 [(0, .ref o), (1, .int q)] := hl
  refine td_joinl 19 ls [] (fun x_ => x_ = td_of x y pl q) (fun x_ ex => ?_) (fun J => ?_)
  · exact W.lret (v := x_) hx hb hr (fun t ht hW => ⟨_, rfl, ex, ht⟩) (fun _ h => nomatch h) d_X0_discsOf_19
  · refine lv_iload_n hx hb d_X0_discsOf_0 rfl (lv_at hl 1 rfl) ?_
    refine lv_aload_n hx hb d_X0_discsOf_1 rfl (lv_at hl 0 rfl) ?_
    refine va_get (D := D) (ci := 0) (v := .int pl) (C := RX0) (T := TX0) (N := 7) hx hb hts usX0 hown hK hP 0 rfl rfl 2 (by decide) (hts _ fl_X0_43) (fun _ h9 => h9) rfl d_X0_discsOf_2 ?_
    refine lv_icmp_ne (tgt := 15) hx hb d_X0_discsOf_5 (by decide) (fun hc => ?_) (fun hc => ?_)
    · refine lv_aload_n hx hb d_X0_discsOf_15 rfl (lv_at hl 0 rfl) ?_
      refine va_get (D := D) (ci := 0) (v := .long y) (C := RX0) (T := TX0) (N := 7) hx hb hts usX0 hown hK hP 0 rfl rfl 1 (by decide) (hts _ fl_X0_51) (fun _ h9 => h9) rfl d_X0_discsOf_16 ?_
      exact J _ (by unfold td_of; rw [if_neg hc])
    · refine lv_aload_n hx hb d_X0_discsOf_8 rfl (lv_at hl 0 rfl) ?_
      refine va_get (D := D) (ci := 0) (v := .long x) (C := RX0) (T := TX0) (N := 7) hx hb hts usX0 hown hK hP 0 rfl rfl 0 (by decide) (hts _ fl_X0_47) (fun _ h9 => h9) rfl d_X0_discsOf_9 ?_
      refine lv_goto (tgt := 19) hx hb d_X0_discsOf_12 (by decide) ?_
      exact J _ (by unfold td_of; rw [if_pos hc])
set_option maxHeartbeats 4000000 in
set_option maxRecDepth 100000 in
theorem m_X0_empty (l : Launch) (D : va_G) (o : Nat) (x y : Int64) (pl md : Int32) (v4 v5 v6 : Value) : Met l y_X0_empty (k_X0_empty :: tw) ({ frames := 0, cells := 0, slots := 0, locals := 0 }) (va_Pc [.ref o] (fun U => va_P D tdC [(o, .inr (0, [.long x, .long y, .int pl, .int md, v4, v5, v6]))] U.heap ∧ va_K D tdC [] U)) (vp_Sl (fun r => r = (x ||| y) ^^^ (-1))) 0 0 (fun _ => False) := by
  refine Met.ofW (cc := c_X0_empty) (maxL := 1) (ret := (some .long)) (by decide) rfl ?_
  intro p e s m args below meth c s₁ B hml hv
  obtain ⟨rfl, hP, hK⟩ := hv
  have hx := B.exec
  have hb := B.bytes
  have hr := B.returns
  have hts : ∀ w ∈ tw, w.before _ s = true := fun w h => atoms_spec (ws := k_X0_empty :: tw) B.pre w (List.mem_cons_of_mem _ h)
  have hown : s.vm.findClass RX0 = some m.cls := findClass_of_methodNamed B.named
  have hlocks := B.notSynchronized
  have hl := lv_entry ([.ref o]) (n := 1) (Nat.le_of_ble_eq_true rfl)
  rw [lg_entry_eq]
  generalize (lg_sl ([.ref o]) ++ List.replicate (1 - (lg_sl ([.ref o])).length) Slot.unset).toArray = ls at hl ⊢
  have hl : lv_has ls 1 [(0, .ref o)] := hl
  refine lv_aload_n hx hb d_X0_empty_0 rfl (lv_at hl 0 rfl) ?_
  refine va_get (D := D) (ci := 0) (v := .long x) (C := RX0) (T := TX0) (N := 7) hx hb hts usX0 hown hK hP 0 rfl rfl 0 (by decide) (hts _ fl_X0_47) (fun _ h9 => h9) rfl d_X0_empty_1 ?_
  refine lv_aload_n hx hb d_X0_empty_4 rfl (lv_at hl 0 rfl) ?_
  refine va_get (D := D) (ci := 0) (v := .long y) (C := RX0) (T := TX0) (N := 7) hx hb hts usX0 hown hK hP 0 rfl rfl 1 (by decide) (hts _ fl_X0_51) (fun _ h9 => h9) rfl d_X0_empty_5 ?_
  refine lv_lor hx hb d_X0_empty_8 ?_
  refine lv_ldc2 (v := (-1)) hx hb hown (hts _ cn_X0_158) d_X0_empty_9 ?_
  refine lv_lxor hx hb d_X0_empty_12 ?_
  exact W.lret (v := ((x ||| y) ^^^ (-1))) hx hb hr (fun t ht hW => ⟨_, rfl, rfl, ht⟩) (fun _ h => nomatch h) d_X0_empty_13
set_option maxHeartbeats 4000000 in
set_option maxRecDepth 100000 in
theorem m_X0_moves (l : Launch) (D : va_G) (o : Nat) (x y : Int64) (pl md : Int32) (v4 v5 v6 : Value) : Met l y_X0_moves (k_X0_moves :: tw) ({ frames := 3, cells := 0, slots := 0, locals := 77 }) (va_Pc [.ref o] (fun U => va_P D tdC [(o, .inr (0, [.long x, .long y, .int pl, .int md, v4, v5, v6]))] U.heap ∧ va_K D tdC [] U)) (vp_Sl (fun r => r = td_moves x y)) 0 0 (fun _ => False) := by
  refine Met.ofW (cc := c_X0_moves) (maxL := 1) (ret := (some .long)) (by decide) rfl ?_
  intro p e s m args below meth c s₁ B hml hv
  obtain ⟨rfl, hP, hK⟩ := hv
  have hx := B.exec
  have hb := B.bytes
  have hr := B.returns
  have hts : ∀ w ∈ tw, w.before _ s = true := fun w h => atoms_spec (ws := k_X0_moves :: tw) B.pre w (List.mem_cons_of_mem _ h)
  have hown : s.vm.findClass RX0 = some m.cls := findClass_of_methodNamed B.named
  have hlocks := B.notSynchronized
  have hl := lv_entry ([.ref o]) (n := 1) (Nat.le_of_ble_eq_true rfl)
  rw [lg_entry_eq]
  generalize (lg_sl ([.ref o]) ++ List.replicate (1 - (lg_sl ([.ref o])).length) Slot.unset).toArray = ls at hl ⊢
  have hl : lv_has ls 1 [(0, .ref o)] := hl
  refine lv_aload_n hx hb d_X0_moves_0 rfl (lv_at hl 0 rfl) ?_
  refine va_get (D := D) (ci := 0) (v := .long x) (C := RX0) (T := TX0) (N := 7) hx hb hts usX0 hown hK hP 0 rfl rfl 0 (by decide) (hts _ fl_X0_47) (fun _ h9 => h9) rfl d_X0_moves_1 ?_
  refine lv_aload_n hx hb d_X0_moves_4 rfl (lv_at hl 0 rfl) ?_
  refine va_get (D := D) (ci := 0) (v := .long y) (C := RX0) (T := TX0) (N := 7) hx hb hts usX0 hown hK hP 0 rfl rfl 1 (by decide) (hts _ fl_X0_51) (fun _ h9 => h9) rfl d_X0_moves_5 ?_
  refine vp_callSl (W.runS (As := [.long x, .long y]) (rest := []) ⟨hx, hb, hml, hown, hts⟩ (m_X0_movesOf l x y) (va_cwS 2 hts (tw_S ml_X0_54 st_X0_movesOf in_X0 kw_X0_movesOf) rfl rfl rfl (by decide +kernel) ⟨Nat.le_of_ble_eq_true rfl, Nat.le_of_ble_eq_true rfl⟩) ⟨fun _ _ _ _ q => q, fun U hU hW => ⟨rfl, trivial⟩⟩ rfl rfl hl.1 rfl (lv_room (Nat.le_of_ble_eq_true rfl)) d_X0_moves_8 ⟨Nat.le_refl _, Nat.le_refl _⟩) (fun r hq => ?_)
  subst hq
  exact W.lret (v := (td_moves x y)) hx hb hr (fun t ht hW => ⟨_, rfl, rfl, ht⟩) (fun _ h => nomatch h) d_X0_moves_11
set_option maxHeartbeats 4000000 in
set_option maxRecDepth 100000 in
theorem m_X0_over (l : Launch) (D : va_G) (o : Nat) (x y : Int64) (pl md : Int32) (v4 v5 v6 : Value) : Met l y_X0_over (k_X0_over :: tw) ({ frames := 4, cells := 0, slots := 0, locals := 100 }) (va_Pc [.ref o] (fun U => va_P D tdC [(o, .inr (0, [.long x, .long y, .int pl, .int md, v4, v5, v6]))] U.heap ∧ va_K D tdC [] U)) (vp_Si (fun r => (td_over x y ∧ r = 1) ∨ (¬ td_over x y ∧ r = 0))) 0 0 (fun _ => False) := by
  refine Met.ofW (cc := c_X0_over) (maxL := 1) (ret := (some .boolean)) (by decide) rfl ?_
  intro p e s m args below meth c s₁ B hml hv
  obtain ⟨rfl, hP, hK⟩ := hv
  have hx := B.exec
  have hb := B.bytes
  have hr := B.returns
  have hts : ∀ w ∈ tw, w.before _ s = true := fun w h => atoms_spec (ws := k_X0_over :: tw) B.pre w (List.mem_cons_of_mem _ h)
  have hown : s.vm.findClass RX0 = some m.cls := findClass_of_methodNamed B.named
  have hlocks := B.notSynchronized
  have hl := lv_entry ([.ref o]) (n := 1) (Nat.le_of_ble_eq_true rfl)
  rw [lg_entry_eq]
  generalize (lg_sl ([.ref o]) ++ List.replicate (1 - (lg_sl ([.ref o])).length) Slot.unset).toArray = ls at hl ⊢
  have hl : lv_has ls 1 [(0, .ref o)] := hl
  refine lv_aload_n hx hb d_X0_over_0 rfl (lv_at hl 0 rfl) ?_
  refine va_get (D := D) (ci := 0) (v := .long x) (C := RX0) (T := TX0) (N := 7) hx hb hts usX0 hown hK hP 0 rfl rfl 0 (by decide) (hts _ fl_X0_47) (fun _ h9 => h9) rfl d_X0_over_1 ?_
  refine lv_aload_n hx hb d_X0_over_4 rfl (lv_at hl 0 rfl) ?_
  refine va_get (D := D) (ci := 0) (v := .long y) (C := RX0) (T := TX0) (N := 7) hx hb hts usX0 hown hK hP 0 rfl rfl 1 (by decide) (hts _ fl_X0_51) (fun _ h9 => h9) rfl d_X0_over_5 ?_
  refine vp_callSi (W.runS (As := [.long x, .long y]) (rest := []) ⟨hx, hb, hml, hown, hts⟩ (m_X0_isOver l x y) (va_cwS 2 hts (tw_S ml_X0_71 st_X0_isOver in_X0 kw_X0_isOver) rfl rfl rfl (by decide +kernel) ⟨Nat.le_of_ble_eq_true rfl, Nat.le_of_ble_eq_true rfl⟩) ⟨fun _ _ _ _ q => q, fun U hU hW => ⟨rfl, trivial⟩⟩ rfl rfl hl.1 rfl (lv_room (Nat.le_of_ble_eq_true rfl)) d_X0_over_8 ⟨Nat.le_refl _, Nat.le_refl _⟩) (fun r hq => ?_)
  rcases id hq with ⟨_, e1⟩ | ⟨_, e1⟩
  · subst e1
    exact W.zret (v := _) hx hb hr (by first | rfl | decide | assumption) (fun t ht hW => ⟨_, rfl, hq, ht⟩) (fun _ h => nomatch h) d_X0_over_11
  · subst e1
    exact W.zret (v := _) hx hb hr (by first | rfl | decide | assumption) (fun t ht hW => ⟨_, rfl, hq, ht⟩) (fun _ h => nomatch h) d_X0_over_11
set_option maxHeartbeats 4000000 in
set_option maxRecDepth 100000 in
theorem m_X0_difference (l : Launch) (D : va_G) (o : Nat) (x y : Int64) (pl md : Int32) (v4 v5 v6 : Value) : Met l y_X0_difference (k_X0_difference :: tw) ({ frames := 2, cells := 0, slots := 0, locals := 44 }) (va_Pc [.ref o] (fun U => va_P D tdC [(o, .inr (0, [.long x, .long y, .int pl, .int md, v4, v5, v6]))] U.heap ∧ va_K D tdC [] U)) (vp_Si (fun r => r = td_lead (td_of x y pl 0) (td_of x y pl 1))) 0 0 (fun _ => False) := by
  refine Met.ofW (cc := c_X0_difference) (maxL := 1) (ret := (some .int)) (by decide) rfl ?_
  intro p e s m args below meth c s₁ B hml hv
  obtain ⟨rfl, hP, hK⟩ := hv
  have hx := B.exec
  have hb := B.bytes
  have hr := B.returns
  have hts : ∀ w ∈ tw, w.before _ s = true := fun w h => atoms_spec (ws := k_X0_difference :: tw) B.pre w (List.mem_cons_of_mem _ h)
  have hown : s.vm.findClass RX0 = some m.cls := findClass_of_methodNamed B.named
  have hlocks := B.notSynchronized
  have hl := lv_entry ([.ref o]) (n := 1) (Nat.le_of_ble_eq_true rfl)
  rw [lg_entry_eq]
  generalize (lg_sl ([.ref o]) ++ List.replicate (1 - (lg_sl ([.ref o])).length) Slot.unset).toArray = ls at hl ⊢
  have hl : lv_has ls 1 [(0, .ref o)] := hl
  refine lv_aload_n hx hb d_X0_difference_0 rfl (lv_at hl 0 rfl) ?_
  refine lv_iconst (v := 0) hx hb d_X0_difference_1 (by decide) ?_
  refine vp_callSl (W.runV (b := o) (C := RX0) (As := [.int 0]) (rest := []) ⟨hx, hb, hml, hown, hts⟩ (m_X0_discsOf l D o x y pl md v4 v5 v6 0) (cwV 1 hts (tw_V ml_X0_39 im_X0_discsOf se_X0_discsOf in_X0 kw_X0_discsOf) rfl rfl rfl (by decide +kernel) ⟨Nat.le_of_ble_eq_true rfl, Nat.le_of_ble_eq_true rfl⟩) ⟨fun a U g mk q => ⟨q.1, q.2.1, va_K.moved (u := U) (U := U.calling g mk a) (Vm.Alike.refl U.vm) q.2.2⟩, va_recv (q0 := 0) (ci := 0) hK hP rfl rfl, fun U hU hW => ⟨rfl, by rw [hU]; exact hP, va_K.moved hW.alike hK⟩⟩ rfl rfl hl.1 rfl (lv_room (Nat.le_of_ble_eq_true rfl)) d_X0_difference_2 ⟨Nat.le_refl _, Nat.le_refl _⟩) (fun r hq => ?_)
  subst hq
  refine lv_aload_n hx hb d_X0_difference_5 rfl (lv_at hl 0 rfl) ?_
  refine lv_iconst (v := 1) hx hb d_X0_difference_6 (by decide) ?_
  refine vp_callSl (W.runV (b := o) (C := RX0) (As := [.int 1]) (rest := [.long (td_of x y pl 0)]) ⟨hx, hb, hml, hown, hts⟩ (m_X0_discsOf l D o x y pl md v4 v5 v6 1) (cwV 1 hts (tw_V ml_X0_39 im_X0_discsOf se_X0_discsOf in_X0 kw_X0_discsOf) rfl rfl rfl (by decide +kernel) ⟨Nat.le_of_ble_eq_true rfl, Nat.le_of_ble_eq_true rfl⟩) ⟨fun a U g mk q => ⟨q.1, q.2.1, va_K.moved (u := U) (U := U.calling g mk a) (Vm.Alike.refl U.vm) q.2.2⟩, va_recv (q0 := 0) (ci := 0) hK hP rfl rfl, fun U hU hW => ⟨rfl, by rw [hU]; exact hP, va_K.moved hW.alike hK⟩⟩ rfl rfl hl.1 rfl (lv_room (Nat.le_of_ble_eq_true rfl)) d_X0_difference_7 ⟨Nat.le_refl _, Nat.le_refl _⟩) (fun r hq => ?_)
  subst hq
  refine vp_callSi (W.runS (As := [.long (td_of x y pl 0), .long (td_of x y pl 1)]) (rest := []) ⟨hx, hb, hml, hown, hts⟩ (m_X0_lead l (td_of x y pl 0) (td_of x y pl 1)) (va_cwS 2 hts (tw_S ml_X0_98 st_X0_lead in_X0 kw_X0_lead) rfl rfl rfl (by decide +kernel) ⟨Nat.le_of_ble_eq_true rfl, Nat.le_of_ble_eq_true rfl⟩) ⟨fun _ _ _ _ q => q, fun U hU hW => ⟨rfl, trivial⟩⟩ rfl rfl hl.1 rfl (lv_room (Nat.le_of_ble_eq_true rfl)) d_X0_difference_10 ⟨Nat.le_refl _, Nat.le_refl _⟩) (fun r hq => ?_)
  subst hq
  exact W.iret (v := (td_lead (td_of x y pl 0) (td_of x y pl 1))) hx hb hr (fun t ht hW => ⟨_, rfl, rfl, ht⟩) (fun _ h => nomatch h) d_X0_difference_13
set_option maxHeartbeats 4000000 in
set_option maxRecDepth 100000 in
theorem m_X0_mayPlay (l : Launch) (D : va_G) (o : Nat) (x y : Int64) (pl md : Int32) (v4 v5 v6 : Value) (q : Int32) : Met l y_X0_mayPlay (k_X0_mayPlay :: tw) ({ frames := 3, cells := 0, slots := 0, locals := 77 }) (va_Pc [.ref o, .int q] (fun U => va_P D tdC [(o, .inr (0, [.long x, .long y, .int pl, .int md, v4, v5, v6]))] U.heap ∧ va_K D tdC [] U)) (vp_Si (fun r => (td_may x y q ∧ r = 1) ∨ (¬ td_may x y q ∧ r = 0))) 0 0 (fun _ => False) := by
  refine Met.ofW (cc := c_X0_mayPlay) (maxL := 2) (ret := (some .boolean)) (by decide) rfl ?_
  intro p e s m args below meth c s₁ B hml hv
  obtain ⟨rfl, hP, hK⟩ := hv
  have hx := B.exec
  have hb := B.bytes
  have hr := B.returns
  have hts : ∀ w ∈ tw, w.before _ s = true := fun w h => atoms_spec (ws := k_X0_mayPlay :: tw) B.pre w (List.mem_cons_of_mem _ h)
  have hown : s.vm.findClass RX0 = some m.cls := findClass_of_methodNamed B.named
  have hlocks := B.notSynchronized
  have hl := lv_entry ([.ref o, .int q]) (n := 2) (Nat.le_of_ble_eq_true rfl)
  rw [lg_entry_eq]
  generalize (lg_sl ([.ref o, .int q]) ++ List.replicate (2 - (lg_sl ([.ref o, .int q])).length) Slot.unset).toArray = ls at hl ⊢
  have hl : lv_has ls 2 [(0, .ref o), (1, .int q)] := hl
  refine lv_iload_n hx hb d_X0_mayPlay_0 rfl (lv_at hl 1 rfl) ?_
  refine lv_bipush (v := 64) hx hb d_X0_mayPlay_1 (by decide) ?_
  refine lv_icmp_ne (tgt := 44) hx hb d_X0_mayPlay_3 (by decide) (fun h64 => ?_) (fun h64 => ?_)
  · refine td_joini 80 ls [] (fun x_ => (td_may x y q ∧ x_ = 1) ∨ (¬ td_may x y q ∧ x_ = 0)) (fun x_ ex => ?_) (fun J => ?_)
    · rcases id ex with ⟨_, e1⟩ | ⟨_, e1⟩
      · subst e1
        exact W.zret (v := _) hx hb hr (by first | rfl | decide | assumption) (fun t ht hW => ⟨_, rfl, ex, ht⟩) (fun _ h => nomatch h) d_X0_mayPlay_80
      · subst e1
        exact W.zret (v := _) hx hb hr (by first | rfl | decide | assumption) (fun t ht hW => ⟨_, rfl, ex, ht⟩) (fun _ h => nomatch h) d_X0_mayPlay_80
    · refine lv_iload_n hx hb d_X0_mayPlay_44 rfl (lv_at hl 1 rfl) ?_
      refine lv_if_lt (tgt := 79) hx hb d_X0_mayPlay_45 (by decide) (fun h0 => ?_) (fun h0 => ?_)
      · refine lv_iconst (v := 0) hx hb d_X0_mayPlay_79 (by decide) ?_
        exact J _ (Or.inr ⟨fun z => z.elim (fun z => h64 z.1) (fun z => z.2.1 h0), rfl⟩)
      · refine lv_iload_n hx hb d_X0_mayPlay_48 rfl (lv_at hl 1 rfl) ?_
        refine lv_bipush (v := 64) hx hb d_X0_mayPlay_49 (by decide) ?_
        refine lv_icmp_ge (tgt := 79) hx hb d_X0_mayPlay_51 (by decide) (fun h1 => ?_) (fun h1 => ?_)
        · refine lv_iconst (v := 0) hx hb d_X0_mayPlay_79 (by decide) ?_
          exact J _ (Or.inr ⟨fun z => z.elim (fun z => h64 z.1) (fun z => absurd z.2.2.1 (Int32.not_lt.mpr h1)), rfl⟩)
        · refine lv_aload_n hx hb d_X0_mayPlay_54 rfl (lv_at hl 0 rfl) ?_
          refine va_get (D := D) (ci := 0) (v := .long x) (C := RX0) (T := TX0) (N := 7) hx hb hts usX0 hown hK hP 0 rfl rfl 0 (by decide) (hts _ fl_X0_47) (fun _ h9 => h9) rfl d_X0_mayPlay_55 ?_
          refine lv_aload_n hx hb d_X0_mayPlay_58 rfl (lv_at hl 0 rfl) ?_
          refine va_get (D := D) (ci := 0) (v := .long y) (C := RX0) (T := TX0) (N := 7) hx hb hts usX0 hown hK hP 0 rfl rfl 1 (by decide) (hts _ fl_X0_51) (fun _ h9 => h9) rfl d_X0_mayPlay_59 ?_
          refine vp_callSl (W.runS (As := [.long x, .long y]) (rest := []) ⟨hx, hb, hml, hown, hts⟩ (m_X0_movesOf l x y) (va_cwS 2 hts (tw_S ml_X0_54 st_X0_movesOf in_X0 kw_X0_movesOf) rfl rfl rfl (by decide +kernel) ⟨Nat.le_of_ble_eq_true rfl, Nat.le_of_ble_eq_true rfl⟩) ⟨fun _ _ _ _ q => q, fun U hU hW => ⟨rfl, trivial⟩⟩ rfl rfl hl.1 rfl (lv_room (Nat.le_of_ble_eq_true rfl)) d_X0_mayPlay_62 ⟨Nat.le_refl _, Nat.le_refl _⟩) (fun r hq => ?_)
          subst hq
          refine lv_iload_n hx hb d_X0_mayPlay_65 rfl (lv_at hl 1 rfl) ?_
          refine vp_callSl (W.runS (As := [.int q]) (rest := [.long (td_moves x y)]) ⟨hx, hb, hml, hown, hts⟩ (m_X0_discOn l q) (va_cwS 1 hts (tw_S ml_X0_60 st_X0_discOn in_X0 kw_X0_discOn) rfl rfl rfl (by decide +kernel) ⟨Nat.le_of_ble_eq_true rfl, Nat.le_of_ble_eq_true rfl⟩) ⟨fun _ _ _ _ q => q, fun U hU hW => ⟨rfl, trivial⟩⟩ rfl rfl hl.1 rfl (lv_room (Nat.le_of_ble_eq_true rfl)) d_X0_mayPlay_66 ⟨Nat.le_refl _, Nat.le_refl _⟩) (fun r hq => ?_)
          subst hq
          refine lv_land hx hb d_X0_mayPlay_69 ?_
          refine lv_lconst (v := 0) hx hb d_X0_mayPlay_70 (by decide) ?_
          refine td_leq (tgt := 79) hx hb d_X0_mayPlay_71 d_X0_mayPlay_72 (by decide) (fun h2 => ?_) (fun h2 => ?_)
          · refine lv_iconst (v := 0) hx hb d_X0_mayPlay_79 (by decide) ?_
            exact J _ (Or.inr ⟨fun z => z.elim (fun z => h64 z.1) (fun z => z.2.2.2 h2), rfl⟩)
          · refine lv_iconst (v := 1) hx hb d_X0_mayPlay_75 (by decide) ?_
            refine lv_goto (tgt := 80) hx hb d_X0_mayPlay_76 (by decide) ?_
            exact J _ (Or.inl ⟨Or.inr ⟨h64, h0, Int32.not_le.mp h1, h2⟩, rfl⟩)
  · refine td_joini 43 ls [] (fun x_ => (td_may x y q ∧ x_ = 1) ∨ (¬ td_may x y q ∧ x_ = 0)) (fun x_ ex => ?_) (fun J => ?_)
    · rcases id ex with ⟨_, e1⟩ | ⟨_, e1⟩
      · subst e1
        exact W.zret (v := _) hx hb hr (by first | rfl | decide | assumption) (fun t ht hW => ⟨_, rfl, ex, ht⟩) (fun _ h => nomatch h) d_X0_mayPlay_43
      · subst e1
        exact W.zret (v := _) hx hb hr (by first | rfl | decide | assumption) (fun t ht hW => ⟨_, rfl, ex, ht⟩) (fun _ h => nomatch h) d_X0_mayPlay_43
    · refine lv_aload_n hx hb d_X0_mayPlay_6 rfl (lv_at hl 0 rfl) ?_
      refine va_get (D := D) (ci := 0) (v := .long x) (C := RX0) (T := TX0) (N := 7) hx hb hts usX0 hown hK hP 0 rfl rfl 0 (by decide) (hts _ fl_X0_47) (fun _ h9 => h9) rfl d_X0_mayPlay_7 ?_
      refine lv_aload_n hx hb d_X0_mayPlay_10 rfl (lv_at hl 0 rfl) ?_
      refine va_get (D := D) (ci := 0) (v := .long y) (C := RX0) (T := TX0) (N := 7) hx hb hts usX0 hown hK hP 0 rfl rfl 1 (by decide) (hts _ fl_X0_51) (fun _ h9 => h9) rfl d_X0_mayPlay_11 ?_
      refine vp_callSl (W.runS (As := [.long x, .long y]) (rest := []) ⟨hx, hb, hml, hown, hts⟩ (m_X0_movesOf l x y) (va_cwS 2 hts (tw_S ml_X0_54 st_X0_movesOf in_X0 kw_X0_movesOf) rfl rfl rfl (by decide +kernel) ⟨Nat.le_of_ble_eq_true rfl, Nat.le_of_ble_eq_true rfl⟩) ⟨fun _ _ _ _ q => q, fun U hU hW => ⟨rfl, trivial⟩⟩ rfl rfl hl.1 rfl (lv_room (Nat.le_of_ble_eq_true rfl)) d_X0_mayPlay_14 ⟨Nat.le_refl _, Nat.le_refl _⟩) (fun r hq => ?_)
      subst hq
      refine lv_lconst (v := 0) hx hb d_X0_mayPlay_17 (by decide) ?_
      refine td_lne (tgt := 42) hx hb d_X0_mayPlay_18 d_X0_mayPlay_19 (by decide) (fun h1 => ?_) (fun h1 => ?_)
      · refine lv_iconst (v := 0) hx hb d_X0_mayPlay_42 (by decide) ?_
        exact J _ (Or.inr ⟨fun z => z.elim (fun z => h1 z.2.1) (fun z => z.1 h64), rfl⟩)
      · refine lv_aload_n hx hb d_X0_mayPlay_22 rfl (lv_at hl 0 rfl) ?_
        refine va_get (D := D) (ci := 0) (v := .long y) (C := RX0) (T := TX0) (N := 7) hx hb hts usX0 hown hK hP 0 rfl rfl 1 (by decide) (hts _ fl_X0_51) (fun _ h9 => h9) rfl d_X0_mayPlay_23 ?_
        refine lv_aload_n hx hb d_X0_mayPlay_26 rfl (lv_at hl 0 rfl) ?_
        refine va_get (D := D) (ci := 0) (v := .long x) (C := RX0) (T := TX0) (N := 7) hx hb hts usX0 hown hK hP 0 rfl rfl 0 (by decide) (hts _ fl_X0_47) (fun _ h9 => h9) rfl d_X0_mayPlay_27 ?_
        refine vp_callSl (W.runS (As := [.long y, .long x]) (rest := []) ⟨hx, hb, hml, hown, hts⟩ (m_X0_movesOf l y x) (va_cwS 2 hts (tw_S ml_X0_54 st_X0_movesOf in_X0 kw_X0_movesOf) rfl rfl rfl (by decide +kernel) ⟨Nat.le_of_ble_eq_true rfl, Nat.le_of_ble_eq_true rfl⟩) ⟨fun _ _ _ _ q => q, fun U hU hW => ⟨rfl, trivial⟩⟩ rfl rfl hl.1 rfl (lv_room (Nat.le_of_ble_eq_true rfl)) d_X0_mayPlay_30 ⟨Nat.le_refl _, Nat.le_refl _⟩) (fun r hq => ?_)
        subst hq
        refine lv_lconst (v := 0) hx hb d_X0_mayPlay_33 (by decide) ?_
        refine td_leq (tgt := 42) hx hb d_X0_mayPlay_34 d_X0_mayPlay_35 (by decide) (fun h2 => ?_) (fun h2 => ?_)
        · refine lv_iconst (v := 0) hx hb d_X0_mayPlay_42 (by decide) ?_
          exact J _ (Or.inr ⟨fun z => z.elim (fun z => z.2.2 h2) (fun z => z.1 h64), rfl⟩)
        · refine lv_iconst (v := 1) hx hb d_X0_mayPlay_38 (by decide) ?_
          refine lv_goto (tgt := 43) hx hb d_X0_mayPlay_39 (by decide) ?_
          exact J _ (Or.inl ⟨Or.inl ⟨h64, h1, h2⟩, rfl⟩)
