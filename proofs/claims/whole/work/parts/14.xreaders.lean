/-! readers that may throw -/
def td_pl (q : Int32) : Prop := q = 0 ∨ q = 1
def td_emp (x y : Int64) : Int64 := (x ||| y) ^^^ (-1)
def td_few (x y : Int64) : Prop := td_pop (td_emp x y) ≤ 7
def td_turns (x y : Int64) (q : Int32) : Int64 := if (td_on q &&& td_emp x y) = 0 then 0 else td_turned x y (td_on q)
def td_border (x y : Int64) (pl q : Int32) : Int32 := td_pop (td_near (td_of x y pl q) &&& td_emp x y)
def td_safe (d : Int64) : Int64 := (((d &&& td_held d 1 (-9187201950435737472) 72340172838076673) &&& td_held d 8 (-72057594037927936) 255) &&& td_held d 9 (-35887507618889600) 72340172838076927) &&& td_held d 7 (-71775015237779199) (-9187201950435737345)
set_option maxHeartbeats 4000000 in
set_option maxRecDepth 100000 in
theorem m_X0_requirePlayer (l : Launch) (hfl : l.stackTraces = false) (sz b0 : Nat) (hb0 : b0 ≤ sz) (q : Int32) : vx_Met l y_X0_requirePlayer (k_X0_requirePlayer :: tw) ({ frames := 6, cells := 1, slots := 6, locals := 82 }) (va_Pc [.int q] (fun U => U.heap.size = sz ∧ td_X b0 U)) (va_Qv (fun (_ : Unit) => td_pl q) (fun _ _ => True) (fun q => sz ≤ q)) (vx_X (fun _ : Unit => True) (fun E _ _ => E = td_iae ∧ ¬ td_pl q) (fun q => sz ≤ q)) 1 6 (fun q => sz ≤ q) := by
  refine vx_ofW (cc := c_X0_requirePlayer) (maxL := 1) (ret := none) (by decide) rfl ?_
  intro p e s m args below meth c s₁ B hml hno hv
  obtain ⟨rfl, hsz, hX⟩ := hv
  have hx := B.exec
  have hb := B.bytes
  have hr := B.returns
  have hts : ∀ w ∈ tw, w.before _ s = true := fun w h => atoms_spec (ws := k_X0_requirePlayer :: tw) B.pre w (List.mem_cons_of_mem _ h)
  have hown : s.vm.findClass RX0 = some m.cls := findClass_of_methodNamed B.named
  have hlocks := B.notSynchronized
  subst hsz
  have hS : va_S (fun q => s.heap.size ≤ q) s.heap s.heap [] := va_S.rf
  have hl := lv_entry ([.int q]) (n := 1) (Nat.le_of_ble_eq_true rfl)
  rw [lg_entry_eq]
  generalize (lg_sl ([.int q]) ++ List.replicate (1 - (lg_sl ([.int q])).length) Slot.unset).toArray = ls at hl ⊢
  have hl : lv_has ls 1 [(0, .int q)] := hl
  refine lv_iload_n hx hb d_X0_requirePlayer_0 rfl (lv_at hl 0 rfl) ?_
  refine lv_if_eq (tgt := 19) hx hb d_X0_requirePlayer_1 (by decide) (fun h0 => ?_) (fun h0 => ?_)
  · refine vx_ret (W.widen (k := 1) (n := 6) (Nat.le_of_ble_eq_true rfl) (Nat.le_of_ble_eq_true rfl) ?_)
    exact W.vret hx hb hr (fun t ht hW => ⟨⟨(), rfl, Or.inl h0, trivial⟩, hS.F ht⟩) hS.2.2 d_X0_requirePlayer_19
  · refine lv_iload_n hx hb d_X0_requirePlayer_4 rfl (lv_at hl 0 rfl) ?_
    refine lv_iconst (v := 1) hx hb d_X0_requirePlayer_5 (by decide) ?_
    refine lv_icmp_eq (tgt := 19) hx hb d_X0_requirePlayer_6 (by decide) (fun h1 => ?_) (fun h1 => ?_)
    · refine vx_ret (W.widen (k := 1) (n := 6) (Nat.le_of_ble_eq_true rfl) (Nat.le_of_ble_eq_true rfl) ?_)
      exact W.vret hx hb hr (fun t ht hW => ⟨⟨(), rfl, Or.inr h1, trivial⟩, hS.F ht⟩) hS.2.2 d_X0_requirePlayer_19
    · exact td_thr_iae 1 rfl hx hb hfl hown hts hX (fun q h => Nat.le_trans hb0 h) hS hS.2.2 (by rw [hml]; exact hl.1) d_X0_requirePlayer_9 d_X0_requirePlayer_12 d_X0_requirePlayer_13 d_X0_requirePlayer_15 d_X0_requirePlayer_18 hno (Nat.le_of_ble_eq_true rfl) (Nat.le_of_ble_eq_true rfl) (Nat.le_of_ble_eq_true rfl) (Nat.le_of_ble_eq_true rfl) hlocks (⟨rfl, fun z => z.elim h0 h1⟩) (Nat.le_of_ble_eq_true rfl) (Nat.le_of_ble_eq_true rfl)
set_option maxHeartbeats 4000000 in
set_option maxRecDepth 100000 in
theorem m_X0_requireFewEmpty (l : Launch) (hfl : l.stackTraces = false) (D : va_G) (sz b0 : Nat) (hb0 : b0 ≤ sz) (o : Nat) (x y : Int64) (pl md : Int32) (v4 v5 v6 : Value) : vx_Met l y_X0_requireFewEmpty (k_X0_requireFewEmpty :: tw) ({ frames := 6, cells := 1, slots := 6, locals := 82 }) (va_Pc [.ref o] (fun U => U.heap.size = sz ∧ va_P D tdC [(o, .inr (0, [.long x, .long y, .int pl, .int md, v4, v5, v6]))] U.heap ∧ va_K D tdC [] U ∧ td_X b0 U)) (va_Qv (fun (_ : Unit) => td_few x y) (fun _ _ => True) (fun q => sz ≤ q)) (vx_X (fun _ : Unit => True) (fun E _ _ => E = td_ise ∧ ¬ td_few x y) (fun q => sz ≤ q)) 1 6 (fun q => sz ≤ q) := by
  refine vx_ofW (cc := c_X0_requireFewEmpty) (maxL := 1) (ret := none) (by decide) rfl ?_
  intro p e s m args below meth c s₁ B hml hno hv
  obtain ⟨rfl, hsz, hP, hK, hX⟩ := hv
  have hx := B.exec
  have hb := B.bytes
  have hr := B.returns
  have hts : ∀ w ∈ tw, w.before _ s = true := fun w h => atoms_spec (ws := k_X0_requireFewEmpty :: tw) B.pre w (List.mem_cons_of_mem _ h)
  have hown : s.vm.findClass RX0 = some m.cls := findClass_of_methodNamed B.named
  have hlocks := B.notSynchronized
  subst hsz
  have hS : va_S (fun q => s.heap.size ≤ q) s.heap s.heap [] := va_S.rf
  have hP : va_P D tdC [(o, .inr (0, [.long x, .long y, .int pl, .int md, v4, v5, v6]))] s.heap := hP
  have hl := lv_entry ([.ref o]) (n := 1) (Nat.le_of_ble_eq_true rfl)
  rw [lg_entry_eq]
  generalize (lg_sl ([.ref o]) ++ List.replicate (1 - (lg_sl ([.ref o])).length) Slot.unset).toArray = ls at hl ⊢
  have hl : lv_has ls 1 [(0, .ref o)] := hl
  refine lv_aload_n hx hb d_X0_requireFewEmpty_0 rfl (lv_at hl 0 rfl) ?_
  refine vp_callSl (W.runV (b := o) (C := RX0) (As := []) (rest := []) ⟨hx, hb, hml, hown, hts⟩ (m_X0_empty l D o x y pl md v4 v5 v6) (cwV 0 hts (tw_V ml_X0_63 im_X0_empty se_X0_empty in_X0 kw_X0_empty) rfl rfl rfl (by decide +kernel) ⟨Nat.le_of_ble_eq_true rfl, Nat.le_of_ble_eq_true rfl⟩) ⟨fun a U g mk q => ⟨q.1, q.2.1, va_K.moved (u := U) (U := U.calling g mk a) (Vm.Alike.refl U.vm) q.2.2⟩, va_recv (q0 := 0) (ci := 0) hK hP rfl rfl, fun U hU hW => ⟨rfl, by rw [hU]; exact hP, va_K.moved hW.alike hK⟩⟩ rfl rfl hl.1 rfl (lv_room (Nat.le_of_ble_eq_true rfl)) d_X0_requireFewEmpty_1 ⟨Nat.zero_le _, Nat.zero_le _⟩) (fun r hq => ?_)
  subst hq
  refine vp_callSi (W.runS (As := [.long (td_emp x y)]) (rest := []) ⟨hx, hb, hml, hown, hts⟩ (m_JL_bitCount l (td_emp x y)) (va_cwS 1 hts (tw_S ml_X0_128 st_JL_bitCount in_JL kw_JL_bitCount) rfl rfl rfl (by decide +kernel) ⟨Nat.le_of_ble_eq_true rfl, Nat.le_of_ble_eq_true rfl⟩) ⟨fun _ _ _ _ q => q, fun U hU hW => ⟨rfl, trivial⟩⟩ rfl rfl hl.1 rfl (lv_room (Nat.le_of_ble_eq_true rfl)) d_X0_requireFewEmpty_4 ⟨Nat.zero_le _, Nat.zero_le _⟩) (fun r hq => ?_)
  subst hq
  refine lv_bipush (v := 7) hx hb d_X0_requireFewEmpty_7 (by decide) ?_
  refine lv_icmp_le (tgt := 22) hx hb d_X0_requireFewEmpty_9 (by decide) (fun h0 => ?_) (fun h0 => ?_)
  · refine vx_ret (W.widen (k := 1) (n := 6) (Nat.le_of_ble_eq_true rfl) (Nat.le_of_ble_eq_true rfl) ?_)
    exact W.vret hx hb hr (fun t ht hW => ⟨⟨(), rfl, h0, trivial⟩, hS.F ht⟩) hS.2.2 d_X0_requireFewEmpty_22
  · exact td_thr_ise 7 rfl hx hb hfl hown hts hX (fun q h => Nat.le_trans hb0 h) hS hS.2.2 (by rw [hml]; exact hl.1) d_X0_requireFewEmpty_12 d_X0_requireFewEmpty_15 d_X0_requireFewEmpty_16 d_X0_requireFewEmpty_18 d_X0_requireFewEmpty_21 hno (Nat.le_of_ble_eq_true rfl) (Nat.le_of_ble_eq_true rfl) (Nat.le_of_ble_eq_true rfl) (Nat.le_of_ble_eq_true rfl) hlocks (⟨rfl, h0⟩) (Nat.le_of_ble_eq_true rfl) (Nat.le_of_ble_eq_true rfl)
set_option maxHeartbeats 4000000 in
set_option maxRecDepth 100000 in
theorem m_X0_discs (l : Launch) (hfl : l.stackTraces = false) (D : va_G) (sz b0 : Nat) (hb0 : b0 ≤ sz) (o : Nat) (x y : Int64) (pl md : Int32) (v4 v5 v6 : Value) (q : Int32) : vx_Met l y_X0_discs (k_X0_discs :: tw) ({ frames := 7, cells := 1, slots := 6, locals := 102 }) (va_Pc [.ref o, .int q] (fun U => U.heap.size = sz ∧ va_P D tdC [(o, .inr (0, [.long x, .long y, .int pl, .int md, v4, v5, v6]))] U.heap ∧ va_K D tdC [] U ∧ td_X b0 U)) (va_Ql (fun (r : Int64) (_ : Unit) => td_pl q ∧ r = td_of x y pl q) (fun _ _ => True) (fun q => sz ≤ q)) (vx_X (fun _ : Unit => True) (fun E _ _ => E = td_iae ∧ ¬ td_pl q) (fun q => sz ≤ q)) 1 6 (fun q => sz ≤ q) := by
  refine vx_ofW (cc := c_X0_discs) (maxL := 2) (ret := (some .long)) (by decide) rfl ?_
  intro p e s m args below meth c s₁ B hml hno hv
  obtain ⟨rfl, hsz, hP, hK, hX⟩ := hv
  have hx := B.exec
  have hb := B.bytes
  have hr := B.returns
  have hts : ∀ w ∈ tw, w.before _ s = true := fun w h => atoms_spec (ws := k_X0_discs :: tw) B.pre w (List.mem_cons_of_mem _ h)
  have hown : s.vm.findClass RX0 = some m.cls := findClass_of_methodNamed B.named
  have hlocks := B.notSynchronized
  subst hsz
  have hS : va_S (fun q => s.heap.size ≤ q) s.heap s.heap [] := va_S.rf
  have hP : va_P D tdC [(o, .inr (0, [.long x, .long y, .int pl, .int md, v4, v5, v6]))] s.heap := hP
  have hl := lv_entry ([.ref o, .int q]) (n := 2) (Nat.le_of_ble_eq_true rfl)
  rw [lg_entry_eq]
  generalize (lg_sl ([.ref o, .int q]) ++ List.replicate (2 - (lg_sl ([.ref o, .int q])).length) Slot.unset).toArray = ls at hl ⊢
  have hl : lv_has ls 2 [(0, .ref o), (1, .int q)] := hl
  refine lv_iload_n hx hb d_X0_discs_0 rfl (lv_at hl 1 rfl) ?_
  refine vx_callv (vx_runS (As := [.int q]) (rest := []) ⟨hx, hb, hml, hown, hts⟩ (m_X0_requirePlayer l hfl _ b0 (Nat.le_trans hb0 hS.1) q) (va_cwS 1 hts (tw_S ml_X0_35 st_X0_requirePlayer in_X0 kw_X0_requirePlayer) rfl rfl rfl (by decide +kernel) ⟨Nat.le_of_ble_eq_true rfl, Nat.le_of_ble_eq_true rfl⟩) ⟨fun a U g mk q => ⟨q.1, q.2.1, td_X.blind q.2.2⟩, fun U hU hW => ⟨rfl, by rw [hU], td_X.at hX hW hU (fun q h1 h2 => hS.2.1 q h1 (fun z => Nat.not_le.mpr h2 (Nat.le_trans hb0 z)))⟩⟩ rfl rfl hl.1 rfl (lv_room (Nat.le_of_ble_eq_true rfl)) d_X0_discs_1 ⟨Nat.le_of_ble_eq_true rfl, Nat.le_of_ble_eq_true rfl⟩) hS (fun q h1 h2 => absurd h2 (Nat.not_le.mpr h1)) (fun q h => Nat.le_trans hS.1 h) (fun q h1 h2 => absurd h2 (Nat.not_le.mpr h1)) (fun E ce q9 u0 t0 H1 locs ht hal hpx hB hz1 hk1 hS hce hcv hcl => ?_) (fun u0 t0 H1 locs ht hal hq hB hz1 hk1 hS => ?_)
  · exact vx_out (E := E) (fun x hx => (hno x hx).elim) hlocks hce hcv hcl (fun t ht hal => ⟨(), trivial, hB, hS.F ht⟩) hS.2.2 (Nat.le_of_ble_eq_true rfl) (Nat.le_of_ble_eq_true rfl)
  · have hP := td_keep hP hk1
    clear ht hal hB hz1 hk1
    refine lv_aload_n hx hb d_X0_discs_4 rfl (lv_at hl 0 rfl) ?_
    refine lv_iload_n hx hb d_X0_discs_5 rfl (lv_at hl 1 rfl) ?_
    refine vp_callSl (W.runV (b := o) (C := RX0) (As := [.int q]) (rest := []) ⟨hx, hb, hml, hown, hts⟩ (m_X0_discsOf l D o x y pl md v4 v5 v6 q) (cwV 1 hts (tw_V ml_X0_39 im_X0_discsOf se_X0_discsOf in_X0 kw_X0_discsOf) rfl rfl rfl (by decide +kernel) ⟨Nat.le_of_ble_eq_true rfl, Nat.le_of_ble_eq_true rfl⟩) ⟨fun a U g mk q => ⟨q.1, q.2.1, va_K.moved (u := U) (U := U.calling g mk a) (Vm.Alike.refl U.vm) q.2.2⟩, va_recv (q0 := 0) (ci := 0) hK hP rfl rfl, fun U hU hW => ⟨rfl, by rw [hU]; exact hP, va_K.moved hW.alike hK⟩⟩ rfl rfl hl.1 rfl (lv_room (Nat.le_of_ble_eq_true rfl)) d_X0_discs_6 ⟨Nat.le_of_ble_eq_true rfl, Nat.le_of_ble_eq_true rfl⟩) (fun r h2 => ?_)
    subst h2
    refine vx_ret (W.widen (k := 1) (n := 6) (Nat.le_of_ble_eq_true rfl) (Nat.le_of_ble_eq_true rfl) ?_)
    exact W.lret (v := (td_of x y pl q)) hx hb hr (fun t ht hW => ⟨⟨_, (), rfl, ⟨hq, rfl⟩, trivial⟩, hS.F ht⟩) hS.2.2 d_X0_discs_9
set_option maxHeartbeats 4000000 in
set_option maxRecDepth 100000 in
theorem m_X0_turns (l : Launch) (hfl : l.stackTraces = false) (D : va_G) (sz b0 : Nat) (hb0 : b0 ≤ sz) (o : Nat) (x y : Int64) (pl md : Int32) (v4 v5 v6 : Value) (q : Int32) : vx_Met l y_X0_turns (k_X0_turns :: tw) ({ frames := 6, cells := 1, slots := 6, locals := 85 }) (va_Pc [.ref o, .int q] (fun U => U.heap.size = sz ∧ va_P D tdC [(o, .inr (0, [.long x, .long y, .int pl, .int md, v4, v5, v6]))] U.heap ∧ va_K D tdC [] U ∧ td_X b0 U)) (va_Ql (fun (r : Int64) (_ : Unit) => (¬ q < 0 ∧ q < 64) ∧ r = td_turns x y q) (fun _ _ => True) (fun q => sz ≤ q)) (vx_X (fun _ : Unit => True) (fun E _ _ => E = td_iae ∧ ¬ (¬ q < 0 ∧ q < 64)) (fun q => sz ≤ q)) 1 6 (fun q => sz ≤ q) := by
  refine vx_ofW (cc := c_X0_turns) (maxL := 4) (ret := (some .long)) (by decide) rfl ?_
  intro p e s m args below meth c s₁ B hml hno hv
  obtain ⟨rfl, hsz, hP, hK, hX⟩ := hv
  have hx := B.exec
  have hb := B.bytes
  have hr := B.returns
  have hts : ∀ w ∈ tw, w.before _ s = true := fun w h => atoms_spec (ws := k_X0_turns :: tw) B.pre w (List.mem_cons_of_mem _ h)
  have hown : s.vm.findClass RX0 = some m.cls := findClass_of_methodNamed B.named
  have hlocks := B.notSynchronized
  subst hsz
  have hS : va_S (fun q => s.heap.size ≤ q) s.heap s.heap [] := va_S.rf
  have hP : va_P D tdC [(o, .inr (0, [.long x, .long y, .int pl, .int md, v4, v5, v6]))] s.heap := hP
  have hl := lv_entry ([.ref o, .int q]) (n := 4) (Nat.le_of_ble_eq_true rfl)
  rw [lg_entry_eq]
  generalize (lg_sl ([.ref o, .int q]) ++ List.replicate (4 - (lg_sl ([.ref o, .int q])).length) Slot.unset).toArray = ls at hl ⊢
  have hl : lv_has ls 4 [(0, .ref o), (1, .int q)] := hl
  refine lv_iload_n hx hb d_X0_turns_0 rfl (lv_at hl 1 rfl) ?_
  refine lv_if_lt (tgt := 10) hx hb d_X0_turns_1 (by decide) (fun h0 => ?_) (fun h0 => ?_)
  · exact td_thr_iae 2 rfl hx hb hfl hown hts hX (fun q h => Nat.le_trans hb0 h) hS hS.2.2 (by rw [hml]; exact hl.1) d_X0_turns_10 d_X0_turns_13 d_X0_turns_14 d_X0_turns_16 d_X0_turns_19 hno (Nat.le_of_ble_eq_true rfl) (Nat.le_of_ble_eq_true rfl) (Nat.le_of_ble_eq_true rfl) (Nat.le_of_ble_eq_true rfl) hlocks (⟨rfl, fun z => z.1 h0⟩) (Nat.le_of_ble_eq_true rfl) (Nat.le_of_ble_eq_true rfl)
  · refine lv_iload_n hx hb d_X0_turns_4 rfl (lv_at hl 1 rfl) ?_
    refine lv_bipush (v := 64) hx hb d_X0_turns_5 (by decide) ?_
    refine lv_icmp_lt (tgt := 20) hx hb d_X0_turns_7 (by decide) (fun h1 => ?_) (fun h1 => ?_)
    · refine lv_iload_n hx hb d_X0_turns_20 rfl (lv_at hl 1 rfl) ?_
      refine vp_callSl (W.runS (As := [.int q]) (rest := []) ⟨hx, hb, hml, hown, hts⟩ (m_X0_discOn l q) (va_cwS 1 hts (tw_S ml_X0_60 st_X0_discOn in_X0 kw_X0_discOn) rfl rfl rfl (by decide +kernel) ⟨Nat.le_of_ble_eq_true rfl, Nat.le_of_ble_eq_true rfl⟩) ⟨fun _ _ _ _ q => q, fun U hU hW => ⟨rfl, trivial⟩⟩ rfl rfl hl.1 rfl (lv_room (Nat.le_of_ble_eq_true rfl)) d_X0_turns_21 ⟨Nat.le_of_ble_eq_true rfl, Nat.le_of_ble_eq_true rfl⟩) (fun r hq => ?_)
      subst hq
      refine lv_lstore_n hx hb d_X0_turns_24 rfl hl (by decide) rfl (fun ls hl => ?_)
      have hl : lv_has ls 4 [(2, .long (td_on q)), (0, .ref o), (1, .int q)] := hl
      refine lv_lload_n hx hb d_X0_turns_25 rfl (lv_at hl 0 rfl) ?_
      refine lv_aload_n hx hb d_X0_turns_26 rfl (lv_at hl 1 rfl) ?_
      refine vp_callSl (W.runV (b := o) (C := RX0) (As := []) (rest := [.long (td_on q)]) ⟨hx, hb, hml, hown, hts⟩ (m_X0_empty l D o x y pl md v4 v5 v6) (cwV 0 hts (tw_V ml_X0_63 im_X0_empty se_X0_empty in_X0 kw_X0_empty) rfl rfl rfl (by decide +kernel) ⟨Nat.le_of_ble_eq_true rfl, Nat.le_of_ble_eq_true rfl⟩) ⟨fun a U g mk q => ⟨q.1, q.2.1, va_K.moved (u := U) (U := U.calling g mk a) (Vm.Alike.refl U.vm) q.2.2⟩, va_recv (q0 := 0) (ci := 0) hK hP rfl rfl, fun U hU hW => ⟨rfl, by rw [hU]; exact hP, va_K.moved hW.alike hK⟩⟩ rfl rfl hl.1 rfl (lv_room (Nat.le_of_ble_eq_true rfl)) d_X0_turns_27 ⟨Nat.le_of_ble_eq_true rfl, Nat.le_of_ble_eq_true rfl⟩) (fun r hq => ?_)
      subst hq
      refine lv_land hx hb d_X0_turns_30 ?_
      refine lv_lconst (v := 0) hx hb d_X0_turns_31 (by decide) ?_
      refine td_joinl 52 ls [] (fun x_ => x_ = td_turns x y q) (fun x_ ex => ?_) (fun J => ?_)
      · refine vx_ret (W.widen (k := 1) (n := 6) (Nat.le_of_ble_eq_true rfl) (Nat.le_of_ble_eq_true rfl) ?_)
        exact W.lret (v := x_) hx hb hr (fun t ht hW => ⟨⟨_, (), rfl, ⟨⟨h0, h1⟩, ex⟩, trivial⟩, hS.F ht⟩) hS.2.2 d_X0_turns_52
      · refine td_lne (tgt := 40) hx hb d_X0_turns_32 d_X0_turns_33 (by decide) (fun h2 => ?_) (fun h2 => ?_)
        · refine lv_aload_n hx hb d_X0_turns_40 rfl (lv_at hl 1 rfl) ?_
          refine va_get (D := D) (ci := 0) (v := .long x) (C := RX0) (T := TX0) (N := 7) hx hb hts usX0 hown hK hP 0 rfl rfl 0 (by decide) (hts _ fl_X0_47) (fun _ h9 => h9) rfl d_X0_turns_41 ?_
          refine lv_aload_n hx hb d_X0_turns_44 rfl (lv_at hl 1 rfl) ?_
          refine va_get (D := D) (ci := 0) (v := .long y) (C := RX0) (T := TX0) (N := 7) hx hb hts usX0 hown hK hP 0 rfl rfl 1 (by decide) (hts _ fl_X0_51) (fun _ h9 => h9) rfl d_X0_turns_45 ?_
          refine lv_lload_n hx hb d_X0_turns_48 rfl (lv_at hl 0 rfl) ?_
          refine vp_callSl (W.runS (As := [.long x, .long y, .long (td_on q)]) (rest := []) ⟨hx, hb, hml, hown, hts⟩ (m_X0_turnedBy l x y (td_on q)) (va_cwS 3 hts (tw_S ml_X0_67 st_X0_turnedBy in_X0 kw_X0_turnedBy) rfl rfl rfl (by decide +kernel) ⟨Nat.le_of_ble_eq_true rfl, Nat.le_of_ble_eq_true rfl⟩) ⟨fun _ _ _ _ q => q, fun U hU hW => ⟨rfl, trivial⟩⟩ rfl rfl hl.1 rfl (lv_room (Nat.le_of_ble_eq_true rfl)) d_X0_turns_49 ⟨Nat.le_of_ble_eq_true rfl, Nat.le_of_ble_eq_true rfl⟩) (fun r hq => ?_)
          subst hq
          exact J _ (by unfold td_turns td_emp; rw [if_neg h2])
        · refine lv_lconst (v := 0) hx hb d_X0_turns_36 (by decide) ?_
          refine lv_goto (tgt := 52) hx hb d_X0_turns_37 (by decide) ?_
          exact J _ (by unfold td_turns td_emp; rw [if_pos h2])
    · exact td_thr_iae 2 rfl hx hb hfl hown hts hX (fun q h => Nat.le_trans hb0 h) hS hS.2.2 (by rw [hml]; exact hl.1) d_X0_turns_10 d_X0_turns_13 d_X0_turns_14 d_X0_turns_16 d_X0_turns_19 hno (Nat.le_of_ble_eq_true rfl) (Nat.le_of_ble_eq_true rfl) (Nat.le_of_ble_eq_true rfl) (Nat.le_of_ble_eq_true rfl) hlocks (⟨rfl, fun z => h1 z.2⟩) (Nat.le_of_ble_eq_true rfl) (Nat.le_of_ble_eq_true rfl)
set_option maxHeartbeats 4000000 in
set_option maxRecDepth 100000 in
theorem m_X0_count (l : Launch) (hfl : l.stackTraces = false) (D : va_G) (sz b0 : Nat) (hb0 : b0 ≤ sz) (o : Nat) (x y : Int64) (pl md : Int32) (v4 v5 v6 : Value) (q : Int32) : vx_Met l y_X0_count (k_X0_count :: tw) ({ frames := 8, cells := 1, slots := 6, locals := 255 }) (va_Pc [.ref o, .int q] (fun U => U.heap.size = sz ∧ va_P D tdC [(o, .inr (0, [.long x, .long y, .int pl, .int md, v4, v5, v6]))] U.heap ∧ va_K D tdC [] U ∧ td_X b0 U)) (va_Ql (fun (r : Int64) (_ : Unit) => ∃ j : Nat, j ≤ 4 ∧ q = nI j ∧ r = td_rows j x y) (fun _ _ => True) (fun q => sz ≤ q)) (vx_X (fun _ : Unit => True) (fun E _ _ => E = td_iae ∧ ¬ (¬ q < 0 ∧ q ≤ 4)) (fun q => sz ≤ q)) 1 6 (fun q => sz ≤ q) := by
  refine vx_ofW (cc := c_X0_count) (maxL := 2) (ret := (some .long)) (by decide) rfl ?_
  intro p e s m args below meth c s₁ B hml hno hv
  obtain ⟨rfl, hsz, hP, hK, hX⟩ := hv
  have hx := B.exec
  have hb := B.bytes
  have hr := B.returns
  have hts : ∀ w ∈ tw, w.before _ s = true := fun w h => atoms_spec (ws := k_X0_count :: tw) B.pre w (List.mem_cons_of_mem _ h)
  have hown : s.vm.findClass RX0 = some m.cls := findClass_of_methodNamed B.named
  have hlocks := B.notSynchronized
  subst hsz
  have hS : va_S (fun q => s.heap.size ≤ q) s.heap s.heap [] := va_S.rf
  have hP : va_P D tdC [(o, .inr (0, [.long x, .long y, .int pl, .int md, v4, v5, v6]))] s.heap := hP
  have hl := lv_entry ([.ref o, .int q]) (n := 2) (Nat.le_of_ble_eq_true rfl)
  rw [lg_entry_eq]
  generalize (lg_sl ([.ref o, .int q]) ++ List.replicate (2 - (lg_sl ([.ref o, .int q])).length) Slot.unset).toArray = ls at hl ⊢
  have hl : lv_has ls 2 [(0, .ref o), (1, .int q)] := hl
  refine lv_iload_n hx hb d_X0_count_0 rfl (lv_at hl 1 rfl) ?_
  refine lv_if_lt (tgt := 9) hx hb d_X0_count_1 (by decide) (fun h0 => ?_) (fun h0 => ?_)
  · exact td_thr_iae 6 rfl hx hb hfl hown hts hX (fun q h => Nat.le_trans hb0 h) hS hS.2.2 (by rw [hml]; exact hl.1) d_X0_count_9 d_X0_count_12 d_X0_count_13 d_X0_count_15 d_X0_count_18 hno (Nat.le_of_ble_eq_true rfl) (Nat.le_of_ble_eq_true rfl) (Nat.le_of_ble_eq_true rfl) (Nat.le_of_ble_eq_true rfl) hlocks (⟨rfl, fun z => z.1 h0⟩) (Nat.le_of_ble_eq_true rfl) (Nat.le_of_ble_eq_true rfl)
  · refine lv_iload_n hx hb d_X0_count_4 rfl (lv_at hl 1 rfl) ?_
    refine lv_iconst (v := 4) hx hb d_X0_count_5 (by decide) ?_
    refine lv_icmp_le (tgt := 19) hx hb d_X0_count_6 (by decide) (fun h1 => ?_) (fun h1 => ?_)
    · obtain ⟨j, hj, ej⟩ := nI_of2 (n := 4) (M := 4) rfl h0 h1
      subst ej
      have hl : lv_has ls 2 [(0, .ref o), (1, .int (nI j))] := hl
      refine lv_aload_n hx hb d_X0_count_19 rfl (lv_at hl 0 rfl) ?_
      refine va_get (D := D) (ci := 0) (v := .long x) (C := RX0) (T := TX0) (N := 7) hx hb hts usX0 hown hK hP 0 rfl rfl 0 (by decide) (hts _ fl_X0_47) (fun _ h9 => h9) rfl d_X0_count_20 ?_
      refine lv_aload_n hx hb d_X0_count_23 rfl (lv_at hl 0 rfl) ?_
      refine va_get (D := D) (ci := 0) (v := .long y) (C := RX0) (T := TX0) (N := 7) hx hb hts usX0 hown hK hP 0 rfl rfl 1 (by decide) (hts _ fl_X0_51) (fun _ h9 => h9) rfl d_X0_count_24 ?_
      refine lv_iload_n hx hb d_X0_count_27 rfl (lv_at hl 1 rfl) ?_
      refine vp_callSl (W.runS (As := [.long x, .long y, .int (nI j)]) (rest := []) ⟨hx, hb, hml, hown, hts⟩ (m_X0_rowsFrom l j hj x y) (va_cwS 3 hts (tw_S ml_X0_104 st_X0_rowsFrom in_X0 kw_X0_rowsFrom) rfl rfl rfl (by decide +kernel) ⟨by show 3 + j + 1 ≤ 8; omega, by show 8 + (15 + 11) + (85 + 34 * j) ≤ 255; omega⟩) ⟨fun _ _ _ _ q => q, fun U hU hW => ⟨rfl, trivial⟩⟩ rfl rfl hl.1 rfl (lv_room (Nat.le_of_ble_eq_true rfl)) d_X0_count_28 ⟨Nat.le_of_ble_eq_true rfl, Nat.le_of_ble_eq_true rfl⟩) (fun r hq => ?_)
      subst hq
      refine vx_ret (W.widen (k := 1) (n := 6) (Nat.le_of_ble_eq_true rfl) (Nat.le_of_ble_eq_true rfl) ?_)
      exact W.lret (v := (td_rows j x y)) hx hb hr (fun t ht hW => ⟨⟨_, (), rfl, ⟨j, hj, rfl, rfl⟩, trivial⟩, hS.F ht⟩) hS.2.2 d_X0_count_31
    · exact td_thr_iae 6 rfl hx hb hfl hown hts hX (fun q h => Nat.le_trans hb0 h) hS hS.2.2 (by rw [hml]; exact hl.1) d_X0_count_9 d_X0_count_12 d_X0_count_13 d_X0_count_15 d_X0_count_18 hno (Nat.le_of_ble_eq_true rfl) (Nat.le_of_ble_eq_true rfl) (Nat.le_of_ble_eq_true rfl) (Nat.le_of_ble_eq_true rfl) hlocks (⟨rfl, fun z => h1 z.2⟩) (Nat.le_of_ble_eq_true rfl) (Nat.le_of_ble_eq_true rfl)
set_option maxHeartbeats 4000000 in
set_option maxRecDepth 100000 in
theorem m_X0_outcome (l : Launch) (hfl : l.stackTraces = false) (D : va_G) (sz b0 : Nat) (hb0 : b0 ≤ sz) (o : Nat) (x y : Int64) (pl md : Int32) (v4 v5 v6 : Value) : vx_Met l y_X0_outcome (k_X0_outcome :: tw) ({ frames := 32, cells := 1, slots := 6, locals := 1010 }) (va_Pc [.ref o] (fun U => U.heap.size = sz ∧ va_P D tdC [(o, .inr (0, [.long x, .long y, .int pl, .int md, v4, v5, v6]))] U.heap ∧ va_K D tdC [] U ∧ td_X b0 U)) (va_Qi (fun (r : Int32) (_ : Unit) => td_few x y ∧ r = td_worth 14 x y (-65) 65) (fun _ _ => True) (fun q => sz ≤ q)) (vx_X (fun _ : Unit => True) (fun E _ _ => E = td_ise ∧ ¬ td_few x y) (fun q => sz ≤ q)) 1 6 (fun q => sz ≤ q) := by
  refine vx_ofW (cc := c_X0_outcome) (maxL := 1) (ret := (some .int)) (by decide) rfl ?_
  intro p e s m args below meth c s₁ B hml hno hv
  obtain ⟨rfl, hsz, hP, hK, hX⟩ := hv
  have hx := B.exec
  have hb := B.bytes
  have hr := B.returns
  have hts : ∀ w ∈ tw, w.before _ s = true := fun w h => atoms_spec (ws := k_X0_outcome :: tw) B.pre w (List.mem_cons_of_mem _ h)
  have hown : s.vm.findClass RX0 = some m.cls := findClass_of_methodNamed B.named
  have hlocks := B.notSynchronized
  subst hsz
  have hS : va_S (fun q => s.heap.size ≤ q) s.heap s.heap [] := va_S.rf
  have hP : va_P D tdC [(o, .inr (0, [.long x, .long y, .int pl, .int md, v4, v5, v6]))] s.heap := hP
  have hl := lv_entry ([.ref o]) (n := 1) (Nat.le_of_ble_eq_true rfl)
  rw [lg_entry_eq]
  generalize (lg_sl ([.ref o]) ++ List.replicate (1 - (lg_sl ([.ref o])).length) Slot.unset).toArray = ls at hl ⊢
  have hl : lv_has ls 1 [(0, .ref o)] := hl
  refine lv_aload_n hx hb d_X0_outcome_0 rfl (lv_at hl 0 rfl) ?_
  refine vx_callv (vx_runV (b := o) (C := RX0) (As := []) (rest := []) ⟨hx, hb, hml, hown, hts⟩ (m_X0_requireFewEmpty l hfl D _ b0 (Nat.le_trans hb0 hS.1) o x y pl md v4 v5 v6) (cwV 0 hts (tw_V ml_X0_108 im_X0_requireFewEmpty se_X0_requireFewEmpty in_X0 kw_X0_requireFewEmpty) rfl rfl rfl (by decide +kernel) ⟨Nat.le_of_ble_eq_true rfl, Nat.le_of_ble_eq_true rfl⟩) ⟨fun a U g mk q => ⟨q.1, q.2.1, q.2.2.1, va_K.moved (u := U) (U := U.calling g mk a) (Vm.Alike.refl U.vm) q.2.2.2.1, td_X.blind q.2.2.2.2⟩, va_recv (q0 := 0) (ci := 0) hK hP rfl rfl, fun U hU hW => ⟨rfl, by rw [hU], by rw [hU]; exact hP, va_K.moved hW.alike hK, td_X.at hX hW hU (fun q h1 h2 => hS.2.1 q h1 (fun z => Nat.not_le.mpr h2 (Nat.le_trans hb0 z)))⟩⟩ rfl rfl hl.1 rfl (lv_room (Nat.le_of_ble_eq_true rfl)) d_X0_outcome_1 ⟨Nat.le_of_ble_eq_true rfl, Nat.le_of_ble_eq_true rfl⟩) hS (fun q h1 h2 => absurd h2 (Nat.not_le.mpr h1)) (fun q h => Nat.le_trans hS.1 h) (fun q h1 h2 => absurd h2 (Nat.not_le.mpr h1)) (fun E ce q9 u0 t0 H1 locs ht hal hpx hB hz1 hk1 hS hce hcv hcl => ?_) (fun u0 t0 H1 locs ht hal hq hB hz1 hk1 hS => ?_)
  · exact vx_out (E := E) (fun x hx => (hno x hx).elim) hlocks hce hcv hcl (fun t ht hal => ⟨(), trivial, hB, hS.F ht⟩) hS.2.2 (Nat.le_of_ble_eq_true rfl) (Nat.le_of_ble_eq_true rfl)
  · have hP := td_keep hP hk1
    clear ht hal hB hz1 hk1
    refine lv_aload_n hx hb d_X0_outcome_4 rfl (lv_at hl 0 rfl) ?_
    refine va_get (D := D) (ci := 0) (v := .long x) (C := RX0) (T := TX0) (N := 7) hx hb hts usX0 hown hK hP 0 rfl rfl 0 (by decide) (hts _ fl_X0_47) (fun _ h9 => h9) rfl d_X0_outcome_5 ?_
    refine lv_aload_n hx hb d_X0_outcome_8 rfl (lv_at hl 0 rfl) ?_
    refine va_get (D := D) (ci := 0) (v := .long y) (C := RX0) (T := TX0) (N := 7) hx hb hts usX0 hown hK hP 0 rfl rfl 1 (by decide) (hts _ fl_X0_51) (fun _ h9 => h9) rfl d_X0_outcome_9 ?_
    refine lv_bipush (v := (-65)) hx hb d_X0_outcome_12 (by decide) ?_
    refine lv_bipush (v := 65) hx hb d_X0_outcome_14 (by decide) ?_
    refine lv_bipush (v := 14) hx hb d_X0_outcome_16 (by decide) ?_
    refine vp_callSi (W.runS (As := [.long x, .long y, .int (-65), .int 65, .int 14]) (rest := []) ⟨hx, hb, hml, hown, hts⟩ (m_X0_worth l 14 (by decide) x y (-65) 65) (va_cwS 5 hts (tw_S ml_X0_111 st_X0_worth in_X0 kw_X0_worth) rfl rfl rfl (by decide +kernel) ⟨Nat.le_of_ble_eq_true rfl, Nat.le_of_ble_eq_true rfl⟩) ⟨fun _ _ _ _ q => q, fun U hU hW => ⟨rfl, trivial⟩⟩ rfl rfl hl.1 rfl (lv_room (Nat.le_of_ble_eq_true rfl)) d_X0_outcome_18 ⟨Nat.le_of_ble_eq_true rfl, Nat.le_of_ble_eq_true rfl⟩) (fun r h2 => ?_)
    subst h2
    refine vx_ret (W.widen (k := 1) (n := 6) (Nat.le_of_ble_eq_true rfl) (Nat.le_of_ble_eq_true rfl) ?_)
    exact W.iret (v := (td_worth 14 x y (-65) 65)) hx hb hr (fun t ht hW => ⟨⟨_, (), rfl, ⟨hq, rfl⟩, trivial⟩, hS.F ht⟩) hS.2.2 d_X0_outcome_21
set_option maxHeartbeats 4000000 in
set_option maxRecDepth 100000 in
theorem m_X0_best (l : Launch) (hfl : l.stackTraces = false) (D : va_G) (sz b0 : Nat) (hb0 : b0 ≤ sz) (o : Nat) (x y : Int64) (pl md : Int32) (v4 v5 v6 : Value) : vx_Met l y_X0_best (k_X0_best :: tw) ({ frames := 32, cells := 1, slots := 6, locals := 1010 }) (va_Pc [.ref o] (fun U => U.heap.size = sz ∧ va_P D tdC [(o, .inr (0, [.long x, .long y, .int pl, .int md, v4, v5, v6]))] U.heap ∧ va_K D tdC [] U ∧ td_X b0 U)) (va_Qi (fun (r : Int32) (_ : Unit) => td_few x y ∧ r = td_best x y) (fun _ _ => True) (fun q => sz ≤ q)) (vx_X (fun _ : Unit => True) (fun E _ _ => E = td_ise ∧ ¬ td_few x y) (fun q => sz ≤ q)) 1 6 (fun q => sz ≤ q) := by
  refine vx_ofW (cc := c_X0_best) (maxL := 1) (ret := (some .int)) (by decide) rfl ?_
  intro p e s m args below meth c s₁ B hml hno hv
  obtain ⟨rfl, hsz, hP, hK, hX⟩ := hv
  have hx := B.exec
  have hb := B.bytes
  have hr := B.returns
  have hts : ∀ w ∈ tw, w.before _ s = true := fun w h => atoms_spec (ws := k_X0_best :: tw) B.pre w (List.mem_cons_of_mem _ h)
  have hown : s.vm.findClass RX0 = some m.cls := findClass_of_methodNamed B.named
  have hlocks := B.notSynchronized
  subst hsz
  have hS : va_S (fun q => s.heap.size ≤ q) s.heap s.heap [] := va_S.rf
  have hP : va_P D tdC [(o, .inr (0, [.long x, .long y, .int pl, .int md, v4, v5, v6]))] s.heap := hP
  have hl := lv_entry ([.ref o]) (n := 1) (Nat.le_of_ble_eq_true rfl)
  rw [lg_entry_eq]
  generalize (lg_sl ([.ref o]) ++ List.replicate (1 - (lg_sl ([.ref o])).length) Slot.unset).toArray = ls at hl ⊢
  have hl : lv_has ls 1 [(0, .ref o)] := hl
  refine lv_aload_n hx hb d_X0_best_0 rfl (lv_at hl 0 rfl) ?_
  refine vx_callv (vx_runV (b := o) (C := RX0) (As := []) (rest := []) ⟨hx, hb, hml, hown, hts⟩ (m_X0_requireFewEmpty l hfl D _ b0 (Nat.le_trans hb0 hS.1) o x y pl md v4 v5 v6) (cwV 0 hts (tw_V ml_X0_108 im_X0_requireFewEmpty se_X0_requireFewEmpty in_X0 kw_X0_requireFewEmpty) rfl rfl rfl (by decide +kernel) ⟨Nat.le_of_ble_eq_true rfl, Nat.le_of_ble_eq_true rfl⟩) ⟨fun a U g mk q => ⟨q.1, q.2.1, q.2.2.1, va_K.moved (u := U) (U := U.calling g mk a) (Vm.Alike.refl U.vm) q.2.2.2.1, td_X.blind q.2.2.2.2⟩, va_recv (q0 := 0) (ci := 0) hK hP rfl rfl, fun U hU hW => ⟨rfl, by rw [hU], by rw [hU]; exact hP, va_K.moved hW.alike hK, td_X.at hX hW hU (fun q h1 h2 => hS.2.1 q h1 (fun z => Nat.not_le.mpr h2 (Nat.le_trans hb0 z)))⟩⟩ rfl rfl hl.1 rfl (lv_room (Nat.le_of_ble_eq_true rfl)) d_X0_best_1 ⟨Nat.le_of_ble_eq_true rfl, Nat.le_of_ble_eq_true rfl⟩) hS (fun q h1 h2 => absurd h2 (Nat.not_le.mpr h1)) (fun q h => Nat.le_trans hS.1 h) (fun q h1 h2 => absurd h2 (Nat.not_le.mpr h1)) (fun E ce q9 u0 t0 H1 locs ht hal hpx hB hz1 hk1 hS hce hcv hcl => ?_) (fun u0 t0 H1 locs ht hal hq hB hz1 hk1 hS => ?_)
  · exact vx_out (E := E) (fun x hx => (hno x hx).elim) hlocks hce hcv hcl (fun t ht hal => ⟨(), trivial, hB, hS.F ht⟩) hS.2.2 (Nat.le_of_ble_eq_true rfl) (Nat.le_of_ble_eq_true rfl)
  · have hP := td_keep hP hk1
    clear ht hal hB hz1 hk1
    refine lv_aload_n hx hb d_X0_best_4 rfl (lv_at hl 0 rfl) ?_
    refine va_get (D := D) (ci := 0) (v := .long x) (C := RX0) (T := TX0) (N := 7) hx hb hts usX0 hown hK hP 0 rfl rfl 0 (by decide) (hts _ fl_X0_47) (fun _ h9 => h9) rfl d_X0_best_5 ?_
    refine lv_aload_n hx hb d_X0_best_8 rfl (lv_at hl 0 rfl) ?_
    refine va_get (D := D) (ci := 0) (v := .long y) (C := RX0) (T := TX0) (N := 7) hx hb hts usX0 hown hK hP 0 rfl rfl 1 (by decide) (hts _ fl_X0_51) (fun _ h9 => h9) rfl d_X0_best_9 ?_
    refine vp_callSi (W.runS (As := [.long x, .long y]) (rest := []) ⟨hx, hb, hml, hown, hts⟩ (m_X0_bestSquare l x y) (va_cwS 2 hts (tw_S ml_X0_115 st_X0_bestSquare in_X0 kw_X0_bestSquare) rfl rfl rfl (by decide +kernel) ⟨Nat.le_of_ble_eq_true rfl, Nat.le_of_ble_eq_true rfl⟩) ⟨fun _ _ _ _ q => q, fun U hU hW => ⟨rfl, trivial⟩⟩ rfl rfl hl.1 rfl (lv_room (Nat.le_of_ble_eq_true rfl)) d_X0_best_12 ⟨Nat.le_of_ble_eq_true rfl, Nat.le_of_ble_eq_true rfl⟩) (fun r h2 => ?_)
    subst h2
    refine vx_ret (W.widen (k := 1) (n := 6) (Nat.le_of_ble_eq_true rfl) (Nat.le_of_ble_eq_true rfl) ?_)
    exact W.iret (v := (td_best x y)) hx hb hr (fun t ht hW => ⟨⟨_, (), rfl, ⟨hq, rfl⟩, trivial⟩, hS.F ht⟩) hS.2.2 d_X0_best_15
set_option maxHeartbeats 4000000 in
set_option maxRecDepth 100000 in
theorem m_X0_border (l : Launch) (hfl : l.stackTraces = false) (D : va_G) (sz b0 : Nat) (hb0 : b0 ≤ sz) (o : Nat) (x y : Int64) (pl md : Int32) (v4 v5 v6 : Value) (q : Int32) : vx_Met l y_X0_border (k_X0_border :: tw) ({ frames := 7, cells := 1, slots := 6, locals := 102 }) (va_Pc [.ref o, .int q] (fun U => U.heap.size = sz ∧ va_P D tdC [(o, .inr (0, [.long x, .long y, .int pl, .int md, v4, v5, v6]))] U.heap ∧ va_K D tdC [] U ∧ td_X b0 U)) (va_Qi (fun (r : Int32) (_ : Unit) => td_pl q ∧ r = td_border x y pl q) (fun _ _ => True) (fun q => sz ≤ q)) (vx_X (fun _ : Unit => True) (fun E _ _ => E = td_iae ∧ ¬ td_pl q) (fun q => sz ≤ q)) 1 6 (fun q => sz ≤ q) := by
  refine vx_ofW (cc := c_X0_border) (maxL := 2) (ret := (some .int)) (by decide) rfl ?_
  intro p e s m args below meth c s₁ B hml hno hv
  obtain ⟨rfl, hsz, hP, hK, hX⟩ := hv
  have hx := B.exec
  have hb := B.bytes
  have hr := B.returns
  have hts : ∀ w ∈ tw, w.before _ s = true := fun w h => atoms_spec (ws := k_X0_border :: tw) B.pre w (List.mem_cons_of_mem _ h)
  have hown : s.vm.findClass RX0 = some m.cls := findClass_of_methodNamed B.named
  have hlocks := B.notSynchronized
  subst hsz
  have hS : va_S (fun q => s.heap.size ≤ q) s.heap s.heap [] := va_S.rf
  have hP : va_P D tdC [(o, .inr (0, [.long x, .long y, .int pl, .int md, v4, v5, v6]))] s.heap := hP
  have hl := lv_entry ([.ref o, .int q]) (n := 2) (Nat.le_of_ble_eq_true rfl)
  rw [lg_entry_eq]
  generalize (lg_sl ([.ref o, .int q]) ++ List.replicate (2 - (lg_sl ([.ref o, .int q])).length) Slot.unset).toArray = ls at hl ⊢
  have hl : lv_has ls 2 [(0, .ref o), (1, .int q)] := hl
  refine lv_iload_n hx hb d_X0_border_0 rfl (lv_at hl 1 rfl) ?_
  refine vx_callv (vx_runS (As := [.int q]) (rest := []) ⟨hx, hb, hml, hown, hts⟩ (m_X0_requirePlayer l hfl _ b0 (Nat.le_trans hb0 hS.1) q) (va_cwS 1 hts (tw_S ml_X0_35 st_X0_requirePlayer in_X0 kw_X0_requirePlayer) rfl rfl rfl (by decide +kernel) ⟨Nat.le_of_ble_eq_true rfl, Nat.le_of_ble_eq_true rfl⟩) ⟨fun a U g mk q => ⟨q.1, q.2.1, td_X.blind q.2.2⟩, fun U hU hW => ⟨rfl, by rw [hU], td_X.at hX hW hU (fun q h1 h2 => hS.2.1 q h1 (fun z => Nat.not_le.mpr h2 (Nat.le_trans hb0 z)))⟩⟩ rfl rfl hl.1 rfl (lv_room (Nat.le_of_ble_eq_true rfl)) d_X0_border_1 ⟨Nat.le_of_ble_eq_true rfl, Nat.le_of_ble_eq_true rfl⟩) hS (fun q h1 h2 => absurd h2 (Nat.not_le.mpr h1)) (fun q h => Nat.le_trans hS.1 h) (fun q h1 h2 => absurd h2 (Nat.not_le.mpr h1)) (fun E ce q9 u0 t0 H1 locs ht hal hpx hB hz1 hk1 hS hce hcv hcl => ?_) (fun u0 t0 H1 locs ht hal hq hB hz1 hk1 hS => ?_)
  · exact vx_out (E := E) (fun x hx => (hno x hx).elim) hlocks hce hcv hcl (fun t ht hal => ⟨(), trivial, hB, hS.F ht⟩) hS.2.2 (Nat.le_of_ble_eq_true rfl) (Nat.le_of_ble_eq_true rfl)
  · have hP := td_keep hP hk1
    clear ht hal hB hz1 hk1
    refine lv_aload_n hx hb d_X0_border_4 rfl (lv_at hl 0 rfl) ?_
    refine lv_iload_n hx hb d_X0_border_5 rfl (lv_at hl 1 rfl) ?_
    refine vp_callSl (W.runV (b := o) (C := RX0) (As := [.int q]) (rest := []) ⟨hx, hb, hml, hown, hts⟩ (m_X0_discsOf l D o x y pl md v4 v5 v6 q) (cwV 1 hts (tw_V ml_X0_39 im_X0_discsOf se_X0_discsOf in_X0 kw_X0_discsOf) rfl rfl rfl (by decide +kernel) ⟨Nat.le_of_ble_eq_true rfl, Nat.le_of_ble_eq_true rfl⟩) ⟨fun a U g mk q => ⟨q.1, q.2.1, va_K.moved (u := U) (U := U.calling g mk a) (Vm.Alike.refl U.vm) q.2.2⟩, va_recv (q0 := 0) (ci := 0) hK hP rfl rfl, fun U hU hW => ⟨rfl, by rw [hU]; exact hP, va_K.moved hW.alike hK⟩⟩ rfl rfl hl.1 rfl (lv_room (Nat.le_of_ble_eq_true rfl)) d_X0_border_6 ⟨Nat.le_of_ble_eq_true rfl, Nat.le_of_ble_eq_true rfl⟩) (fun r h2 => ?_)
    subst h2
    refine vp_callSl (W.runS (As := [.long (td_of x y pl q)]) (rest := []) ⟨hx, hb, hml, hown, hts⟩ (m_X0_withNeighbours l (td_of x y pl q)) (va_cwS 1 hts (tw_S ml_X0_124 st_X0_withNeighbours in_X0 kw_X0_withNeighbours) rfl rfl rfl (by decide +kernel) ⟨Nat.le_of_ble_eq_true rfl, Nat.le_of_ble_eq_true rfl⟩) ⟨fun _ _ _ _ q => q, fun U hU hW => ⟨rfl, trivial⟩⟩ rfl rfl hl.1 rfl (lv_room (Nat.le_of_ble_eq_true rfl)) d_X0_border_9 ⟨Nat.le_of_ble_eq_true rfl, Nat.le_of_ble_eq_true rfl⟩) (fun r h2 => ?_)
    subst h2
    refine lv_aload_n hx hb d_X0_border_12 rfl (lv_at hl 0 rfl) ?_
    refine vp_callSl (W.runV (b := o) (C := RX0) (As := []) (rest := [.long (td_near (td_of x y pl q))]) ⟨hx, hb, hml, hown, hts⟩ (m_X0_empty l D o x y pl md v4 v5 v6) (cwV 0 hts (tw_V ml_X0_63 im_X0_empty se_X0_empty in_X0 kw_X0_empty) rfl rfl rfl (by decide +kernel) ⟨Nat.le_of_ble_eq_true rfl, Nat.le_of_ble_eq_true rfl⟩) ⟨fun a U g mk q => ⟨q.1, q.2.1, va_K.moved (u := U) (U := U.calling g mk a) (Vm.Alike.refl U.vm) q.2.2⟩, va_recv (q0 := 0) (ci := 0) hK hP rfl rfl, fun U hU hW => ⟨rfl, by rw [hU]; exact hP, va_K.moved hW.alike hK⟩⟩ rfl rfl hl.1 rfl (lv_room (Nat.le_of_ble_eq_true rfl)) d_X0_border_13 ⟨Nat.le_of_ble_eq_true rfl, Nat.le_of_ble_eq_true rfl⟩) (fun r h2 => ?_)
    subst h2
    refine lv_land hx hb d_X0_border_16 ?_
    refine vp_callSi (W.runS (As := [.long ((td_near (td_of x y pl q)) &&& (td_emp x y))]) (rest := []) ⟨hx, hb, hml, hown, hts⟩ (m_JL_bitCount l (td_near (td_of x y pl q) &&& td_emp x y)) (va_cwS 1 hts (tw_S ml_X0_128 st_JL_bitCount in_JL kw_JL_bitCount) rfl rfl rfl (by decide +kernel) ⟨Nat.le_of_ble_eq_true rfl, Nat.le_of_ble_eq_true rfl⟩) ⟨fun _ _ _ _ q => q, fun U hU hW => ⟨rfl, trivial⟩⟩ rfl rfl hl.1 rfl (lv_room (Nat.le_of_ble_eq_true rfl)) d_X0_border_17 ⟨Nat.le_of_ble_eq_true rfl, Nat.le_of_ble_eq_true rfl⟩) (fun r h2 => ?_)
    subst h2
    refine vx_ret (W.widen (k := 1) (n := 6) (Nat.le_of_ble_eq_true rfl) (Nat.le_of_ble_eq_true rfl) ?_)
    exact W.iret (v := (td_border x y pl q)) hx hb hr (fun t ht hW => ⟨⟨_, (), rfl, ⟨hq, rfl⟩, trivial⟩, hS.F ht⟩) hS.2.2 d_X0_border_20
set_option maxHeartbeats 4000000 in
set_option maxRecDepth 100000 in
theorem m_X0_safe (l : Launch) (hfl : l.stackTraces = false) (D : va_G) (sz b0 : Nat) (hb0 : b0 ≤ sz) (o : Nat) (x y : Int64) (pl md : Int32) (v4 v5 v6 : Value) (q : Int32) : vx_Met l y_X0_safe (k_X0_safe :: tw) ({ frames := 7, cells := 1, slots := 6, locals := 102 }) (va_Pc [.ref o, .int q] (fun U => U.heap.size = sz ∧ va_P D tdC [(o, .inr (0, [.long x, .long y, .int pl, .int md, v4, v5, v6]))] U.heap ∧ va_K D tdC [] U ∧ td_X b0 U)) (va_Ql (fun (r : Int64) (_ : Unit) => td_pl q ∧ r = td_safe (td_of x y pl q)) (fun _ _ => True) (fun q => sz ≤ q)) (vx_X (fun _ : Unit => True) (fun E _ _ => E = td_iae ∧ ¬ td_pl q) (fun q => sz ≤ q)) 1 6 (fun q => sz ≤ q) := by
  refine vx_ofW (cc := c_X0_safe) (maxL := 4) (ret := (some .long)) (by decide) rfl ?_
  intro p e s m args below meth c s₁ B hml hno hv
  obtain ⟨rfl, hsz, hP, hK, hX⟩ := hv
  have hx := B.exec
  have hb := B.bytes
  have hr := B.returns
  have hts : ∀ w ∈ tw, w.before _ s = true := fun w h => atoms_spec (ws := k_X0_safe :: tw) B.pre w (List.mem_cons_of_mem _ h)
  have hown : s.vm.findClass RX0 = some m.cls := findClass_of_methodNamed B.named
  have hlocks := B.notSynchronized
  subst hsz
  have hS : va_S (fun q => s.heap.size ≤ q) s.heap s.heap [] := va_S.rf
  have hP : va_P D tdC [(o, .inr (0, [.long x, .long y, .int pl, .int md, v4, v5, v6]))] s.heap := hP
  have hl := lv_entry ([.ref o, .int q]) (n := 4) (Nat.le_of_ble_eq_true rfl)
  rw [lg_entry_eq]
  generalize (lg_sl ([.ref o, .int q]) ++ List.replicate (4 - (lg_sl ([.ref o, .int q])).length) Slot.unset).toArray = ls at hl ⊢
  have hl : lv_has ls 4 [(0, .ref o), (1, .int q)] := hl
  refine lv_iload_n hx hb d_X0_safe_0 rfl (lv_at hl 1 rfl) ?_
  refine vx_callv (vx_runS (As := [.int q]) (rest := []) ⟨hx, hb, hml, hown, hts⟩ (m_X0_requirePlayer l hfl _ b0 (Nat.le_trans hb0 hS.1) q) (va_cwS 1 hts (tw_S ml_X0_35 st_X0_requirePlayer in_X0 kw_X0_requirePlayer) rfl rfl rfl (by decide +kernel) ⟨Nat.le_of_ble_eq_true rfl, Nat.le_of_ble_eq_true rfl⟩) ⟨fun a U g mk q => ⟨q.1, q.2.1, td_X.blind q.2.2⟩, fun U hU hW => ⟨rfl, by rw [hU], td_X.at hX hW hU (fun q h1 h2 => hS.2.1 q h1 (fun z => Nat.not_le.mpr h2 (Nat.le_trans hb0 z)))⟩⟩ rfl rfl hl.1 rfl (lv_room (Nat.le_of_ble_eq_true rfl)) d_X0_safe_1 ⟨Nat.le_of_ble_eq_true rfl, Nat.le_of_ble_eq_true rfl⟩) hS (fun q h1 h2 => absurd h2 (Nat.not_le.mpr h1)) (fun q h => Nat.le_trans hS.1 h) (fun q h1 h2 => absurd h2 (Nat.not_le.mpr h1)) (fun E ce q9 u0 t0 H1 locs ht hal hpx hB hz1 hk1 hS hce hcv hcl => ?_) (fun u0 t0 H1 locs ht hal hq hB hz1 hk1 hS => ?_)
  · exact vx_out (E := E) (fun x hx => (hno x hx).elim) hlocks hce hcv hcl (fun t ht hal => ⟨(), trivial, hB, hS.F ht⟩) hS.2.2 (Nat.le_of_ble_eq_true rfl) (Nat.le_of_ble_eq_true rfl)
  · have hP := td_keep hP hk1
    clear ht hal hB hz1 hk1
    refine lv_aload_n hx hb d_X0_safe_4 rfl (lv_at hl 0 rfl) ?_
    refine lv_iload_n hx hb d_X0_safe_5 rfl (lv_at hl 1 rfl) ?_
    refine vp_callSl (W.runV (b := o) (C := RX0) (As := [.int q]) (rest := []) ⟨hx, hb, hml, hown, hts⟩ (m_X0_discsOf l D o x y pl md v4 v5 v6 q) (cwV 1 hts (tw_V ml_X0_39 im_X0_discsOf se_X0_discsOf in_X0 kw_X0_discsOf) rfl rfl rfl (by decide +kernel) ⟨Nat.le_of_ble_eq_true rfl, Nat.le_of_ble_eq_true rfl⟩) ⟨fun a U g mk q => ⟨q.1, q.2.1, va_K.moved (u := U) (U := U.calling g mk a) (Vm.Alike.refl U.vm) q.2.2⟩, va_recv (q0 := 0) (ci := 0) hK hP rfl rfl, fun U hU hW => ⟨rfl, by rw [hU]; exact hP, va_K.moved hW.alike hK⟩⟩ rfl rfl hl.1 rfl (lv_room (Nat.le_of_ble_eq_true rfl)) d_X0_safe_6 ⟨Nat.le_of_ble_eq_true rfl, Nat.le_of_ble_eq_true rfl⟩) (fun r h2 => ?_)
    subst h2
    refine lv_topl (fun dd ed => ?_)
    refine lv_lstore_n hx hb d_X0_safe_9 rfl hl (by decide) rfl (fun ls hl => ?_)
    have hl : lv_has ls 4 [(2, .long dd), (0, .ref o), (1, .int q)] := hl
    refine lv_lload_n hx hb d_X0_safe_10 rfl (lv_at hl 0 rfl) ?_
    refine lv_lload_n hx hb d_X0_safe_11 rfl (lv_at hl 0 rfl) ?_
    refine lv_iconst (v := 1) hx hb d_X0_safe_12 (by decide) ?_
    refine lv_ldc2 (v := (-9187201950435737472)) hx hb hown (hts _ cn_X0_134) d_X0_safe_13 ?_
    refine lv_ldc2 (v := 72340172838076673) hx hb hown (hts _ cn_X0_136) d_X0_safe_16 ?_
    refine vp_callSl (W.runS (As := [.long dd, .int 1, .long (-9187201950435737472), .long 72340172838076673]) (rest := [.long dd]) ⟨hx, hb, hml, hown, hts⟩ (m_X0_heldAlong l dd 1 (-9187201950435737472) 72340172838076673) (va_cwS 4 hts (tw_S ml_X0_138 st_X0_heldAlong in_X0 kw_X0_heldAlong) rfl rfl rfl (by decide +kernel) ⟨Nat.le_of_ble_eq_true rfl, Nat.le_of_ble_eq_true rfl⟩) ⟨fun _ _ _ _ q => q, fun U hU hW => ⟨rfl, trivial⟩⟩ rfl rfl hl.1 rfl (lv_room (Nat.le_of_ble_eq_true rfl)) d_X0_safe_19 ⟨Nat.le_of_ble_eq_true rfl, Nat.le_of_ble_eq_true rfl⟩) (fun r h2 => ?_)
    subst h2
    refine lv_land hx hb d_X0_safe_22 ?_
    refine lv_lload_n hx hb d_X0_safe_23 rfl (lv_at hl 0 rfl) ?_
    refine lv_bipush (v := 8) hx hb d_X0_safe_24 (by decide) ?_
    refine lv_ldc2 (v := (-72057594037927936)) hx hb hown (hts _ cn_X0_142) d_X0_safe_26 ?_
    refine lv_ldc2 (v := 255) hx hb hown (hts _ cn_X0_144) d_X0_safe_29 ?_
    refine vp_callSl (W.runS (As := [.long dd, .int 8, .long (-72057594037927936), .long 255]) (rest := [.long (dd &&& (td_held dd 1 (-9187201950435737472) 72340172838076673))]) ⟨hx, hb, hml, hown, hts⟩ (m_X0_heldAlong l dd 8 (-72057594037927936) 255) (va_cwS 4 hts (tw_S ml_X0_138 st_X0_heldAlong in_X0 kw_X0_heldAlong) rfl rfl rfl (by decide +kernel) ⟨Nat.le_of_ble_eq_true rfl, Nat.le_of_ble_eq_true rfl⟩) ⟨fun _ _ _ _ q => q, fun U hU hW => ⟨rfl, trivial⟩⟩ rfl rfl hl.1 rfl (lv_room (Nat.le_of_ble_eq_true rfl)) d_X0_safe_32 ⟨Nat.le_of_ble_eq_true rfl, Nat.le_of_ble_eq_true rfl⟩) (fun r h2 => ?_)
    subst h2
    refine lv_land hx hb d_X0_safe_35 ?_
    refine lv_lload_n hx hb d_X0_safe_36 rfl (lv_at hl 0 rfl) ?_
    refine lv_bipush (v := 9) hx hb d_X0_safe_37 (by decide) ?_
    refine lv_ldc2 (v := (-35887507618889600)) hx hb hown (hts _ cn_X0_146) d_X0_safe_39 ?_
    refine lv_ldc2 (v := 72340172838076927) hx hb hown (hts _ cn_X0_148) d_X0_safe_42 ?_
    refine vp_callSl (W.runS (As := [.long dd, .int 9, .long (-35887507618889600), .long 72340172838076927]) (rest := [.long ((dd &&& (td_held dd 1 (-9187201950435737472) 72340172838076673)) &&& (td_held dd 8 (-72057594037927936) 255))]) ⟨hx, hb, hml, hown, hts⟩ (m_X0_heldAlong l dd 9 (-35887507618889600) 72340172838076927) (va_cwS 4 hts (tw_S ml_X0_138 st_X0_heldAlong in_X0 kw_X0_heldAlong) rfl rfl rfl (by decide +kernel) ⟨Nat.le_of_ble_eq_true rfl, Nat.le_of_ble_eq_true rfl⟩) ⟨fun _ _ _ _ q => q, fun U hU hW => ⟨rfl, trivial⟩⟩ rfl rfl hl.1 rfl (lv_room (Nat.le_of_ble_eq_true rfl)) d_X0_safe_45 ⟨Nat.le_of_ble_eq_true rfl, Nat.le_of_ble_eq_true rfl⟩) (fun r h2 => ?_)
    subst h2
    refine lv_land hx hb d_X0_safe_48 ?_
    refine lv_lload_n hx hb d_X0_safe_49 rfl (lv_at hl 0 rfl) ?_
    refine lv_bipush (v := 7) hx hb d_X0_safe_50 (by decide) ?_
    refine lv_ldc2 (v := (-71775015237779199)) hx hb hown (hts _ cn_X0_150) d_X0_safe_52 ?_
    refine lv_ldc2 (v := (-9187201950435737345)) hx hb hown (hts _ cn_X0_152) d_X0_safe_55 ?_
    refine vp_callSl (W.runS (As := [.long dd, .int 7, .long (-71775015237779199), .long (-9187201950435737345)]) (rest := [.long (((dd &&& (td_held dd 1 (-9187201950435737472) 72340172838076673)) &&& (td_held dd 8 (-72057594037927936) 255)) &&& (td_held dd 9 (-35887507618889600) 72340172838076927))]) ⟨hx, hb, hml, hown, hts⟩ (m_X0_heldAlong l dd 7 (-71775015237779199) (-9187201950435737345)) (va_cwS 4 hts (tw_S ml_X0_138 st_X0_heldAlong in_X0 kw_X0_heldAlong) rfl rfl rfl (by decide +kernel) ⟨Nat.le_of_ble_eq_true rfl, Nat.le_of_ble_eq_true rfl⟩) ⟨fun _ _ _ _ q => q, fun U hU hW => ⟨rfl, trivial⟩⟩ rfl rfl hl.1 rfl (lv_room (Nat.le_of_ble_eq_true rfl)) d_X0_safe_58 ⟨Nat.le_of_ble_eq_true rfl, Nat.le_of_ble_eq_true rfl⟩) (fun r h2 => ?_)
    subst h2
    refine lv_land hx hb d_X0_safe_61 ?_
    refine vx_ret (W.widen (k := 1) (n := 6) (Nat.le_of_ble_eq_true rfl) (Nat.le_of_ble_eq_true rfl) ?_)
    exact W.lret (v := ((((dd &&& (td_held dd 1 (-9187201950435737472) 72340172838076673)) &&& (td_held dd 8 (-72057594037927936) 255)) &&& (td_held dd 9 (-35887507618889600) 72340172838076927)) &&& (td_held dd 7 (-71775015237779199) (-9187201950435737345)))) hx hb hr (fun t ht hW => ⟨⟨_, (), rfl, ⟨hq, by rw [← ed]; rfl⟩, trivial⟩, hS.F ht⟩) hS.2.2 d_X0_safe_62
