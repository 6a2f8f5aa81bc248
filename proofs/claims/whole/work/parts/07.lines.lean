/-! the class's static methods on longs, word for word -/
def td_runUp (f y : Int64) (k : Int32) : Int64 :=
  let r := td_lshl f k &&& y
  let r := r ||| (td_lshl r k &&& y)
  let r := r ||| (td_lshl r k &&& y)
  let r := r ||| (td_lshl r k &&& y)
  let r := r ||| (td_lshl r k &&& y)
  r ||| (td_lshl r k &&& y)
def td_runDown (f y : Int64) (k : Int32) : Int64 :=
  let r := td_lushr f k &&& y
  let r := r ||| (td_lushr r k &&& y)
  let r := r ||| (td_lushr r k &&& y)
  let r := r ||| (td_lushr r k &&& y)
  let r := r ||| (td_lushr r k &&& y)
  r ||| (td_lushr r k &&& y)
def td_ends (a b : Int64) (k : Int32) : Int64 := td_lshl (td_runUp a b k) k ||| td_lushr (td_runDown a b k) k
def td_inner (b : Int64) : Int64 := b &&& 9114861777597660798
def td_moves (a b : Int64) : Int64 := (((td_ends a (td_inner b) 1 ||| td_ends a b 8) ||| td_ends a (td_inner b) 9) ||| td_ends a (td_inner b) 7) &&& ((a ||| b) ^^^ (-1))
def td_tal (a b d : Int64) (k : Int32) : Int64 :=
  let up := td_runUp d b k
  let dn := td_runDown d b k
  let f := if (td_lshl up k &&& a) = 0 then 0 else up
  if (td_lushr dn k &&& a) = 0 then f else f ||| dn
def td_turned (a b d : Int64) : Int64 := ((td_tal a b d 8 ||| td_tal a (td_inner b) d 1) ||| td_tal a (td_inner b) d 9) ||| td_tal a (td_inner b) d 7
def td_on (q : Int32) : Int64 := if q < 64 then td_lshl 1 q else 0
def td_over (a b : Int64) : Prop := td_moves a b = 0 ∧ td_moves b a = 0
def td_pop (x : Int64) : Int32 :=
  let a := x - (td_lushr x 1 &&& 6148914691236517205)
  let b := (a &&& 3689348814741910323) + (td_lushr a 2 &&& 3689348814741910323)
  let c := (b + td_lushr b 4) &&& 1085102592571150095
  let d := c + td_lushr c 8
  let e := d + td_lushr d 16
  let f := e + td_lushr e 32
  f.toInt32 &&& 127
def td_near (x : Int64) : Int64 :=
  let w := (x ||| (td_lshl x 1 &&& (-72340172838076674))) ||| (td_lushr x 1 &&& 9187201950435737471)
  (w ||| td_lshl w 8) ||| td_lushr w 8
set_option maxHeartbeats 4000000 in
set_option maxRecDepth 100000 in
theorem m_X0_runUp (l : Launch) (f y : Int64) (k : Int32) : Met l y_X0_runUp (k_X0_runUp :: tw) ({ frames := 0, cells := 0, slots := 0, locals := 0 }) (va_Pc [.long f, .long y, .int k] (fun _ => True)) (vp_Sl (fun r => r = td_runUp f y k)) 0 0 (fun _ => False) := by
  refine Met.ofW (cc := c_X0_runUp) (maxL := 7) (ret := (some .long)) (by decide) rfl ?_
  intro p e s m args below meth c s₁ B hml hv
  obtain ⟨rfl, hv⟩ := hv
  have hx := B.exec
  have hb := B.bytes
  have hr := B.returns
  have hts : ∀ w ∈ tw, w.before _ s = true := fun w h => atoms_spec (ws := k_X0_runUp :: tw) B.pre w (List.mem_cons_of_mem _ h)
  have hown : s.vm.findClass RX0 = some m.cls := findClass_of_methodNamed B.named
  have hlocks := B.notSynchronized
  have hl := lv_entry ([.long f, .long y, .int k]) (n := 7) (Nat.le_of_ble_eq_true rfl)
  rw [lg_entry_eq]
  generalize (lg_sl ([.long f, .long y, .int k]) ++ List.replicate (7 - (lg_sl ([.long f, .long y, .int k])).length) Slot.unset).toArray = ls at hl ⊢
  have hl : lv_has ls 7 [(0, .long f), (2, .long y), (4, .int k)] := hl
  refine lv_lload_n hx hb d_X0_runUp_0 rfl (lv_at hl 0 rfl) ?_
  refine lv_iload hx hb d_X0_runUp_1 (lv_at hl 2 rfl) ?_
  refine lv_lshl (v := (td_lshl f k)) hx hb d_X0_runUp_3 rfl ?_
  refine lv_lload_n hx hb d_X0_runUp_4 rfl (lv_at hl 1 rfl) ?_
  refine lv_land hx hb d_X0_runUp_5 ?_
  refine lv_topl (fun r0 e0 => ?_)
  refine lv_lstore hx hb d_X0_runUp_6 hl (by decide) rfl (fun ls hl => ?_)
  have hl : lv_has ls 7 [(5, .long r0), (0, .long f), (2, .long y), (4, .int k)] := hl
  refine lv_lload hx hb d_X0_runUp_8 (lv_at hl 0 rfl) ?_
  refine lv_lload hx hb d_X0_runUp_10 (lv_at hl 0 rfl) ?_
  refine lv_iload hx hb d_X0_runUp_12 (lv_at hl 3 rfl) ?_
  refine lv_lshl (v := (td_lshl r0 k)) hx hb d_X0_runUp_14 rfl ?_
  refine lv_lload_n hx hb d_X0_runUp_15 rfl (lv_at hl 2 rfl) ?_
  refine lv_land hx hb d_X0_runUp_16 ?_
  refine lv_lor hx hb d_X0_runUp_17 ?_
  refine lv_topl (fun r1 e1 => ?_)
  refine lv_lstore hx hb d_X0_runUp_18 hl (by decide) rfl (fun ls hl => ?_)
  have hl : lv_has ls 7 [(5, .long r1), (0, .long f), (2, .long y), (4, .int k)] := hl
  refine lv_lload hx hb d_X0_runUp_20 (lv_at hl 0 rfl) ?_
  refine lv_lload hx hb d_X0_runUp_22 (lv_at hl 0 rfl) ?_
  refine lv_iload hx hb d_X0_runUp_24 (lv_at hl 3 rfl) ?_
  refine lv_lshl (v := (td_lshl r1 k)) hx hb d_X0_runUp_26 rfl ?_
  refine lv_lload_n hx hb d_X0_runUp_27 rfl (lv_at hl 2 rfl) ?_
  refine lv_land hx hb d_X0_runUp_28 ?_
  refine lv_lor hx hb d_X0_runUp_29 ?_
  refine lv_topl (fun r2 e2 => ?_)
  refine lv_lstore hx hb d_X0_runUp_30 hl (by decide) rfl (fun ls hl => ?_)
  have hl : lv_has ls 7 [(5, .long r2), (0, .long f), (2, .long y), (4, .int k)] := hl
  refine lv_lload hx hb d_X0_runUp_32 (lv_at hl 0 rfl) ?_
  refine lv_lload hx hb d_X0_runUp_34 (lv_at hl 0 rfl) ?_
  refine lv_iload hx hb d_X0_runUp_36 (lv_at hl 3 rfl) ?_
  refine lv_lshl (v := (td_lshl r2 k)) hx hb d_X0_runUp_38 rfl ?_
  refine lv_lload_n hx hb d_X0_runUp_39 rfl (lv_at hl 2 rfl) ?_
  refine lv_land hx hb d_X0_runUp_40 ?_
  refine lv_lor hx hb d_X0_runUp_41 ?_
  refine lv_topl (fun r3 e3 => ?_)
  refine lv_lstore hx hb d_X0_runUp_42 hl (by decide) rfl (fun ls hl => ?_)
  have hl : lv_has ls 7 [(5, .long r3), (0, .long f), (2, .long y), (4, .int k)] := hl
  refine lv_lload hx hb d_X0_runUp_44 (lv_at hl 0 rfl) ?_
  refine lv_lload hx hb d_X0_runUp_46 (lv_at hl 0 rfl) ?_
  refine lv_iload hx hb d_X0_runUp_48 (lv_at hl 3 rfl) ?_
  refine lv_lshl (v := (td_lshl r3 k)) hx hb d_X0_runUp_50 rfl ?_
  refine lv_lload_n hx hb d_X0_runUp_51 rfl (lv_at hl 2 rfl) ?_
  refine lv_land hx hb d_X0_runUp_52 ?_
  refine lv_lor hx hb d_X0_runUp_53 ?_
  refine lv_topl (fun r4 e4 => ?_)
  refine lv_lstore hx hb d_X0_runUp_54 hl (by decide) rfl (fun ls hl => ?_)
  have hl : lv_has ls 7 [(5, .long r4), (0, .long f), (2, .long y), (4, .int k)] := hl
  refine lv_lload hx hb d_X0_runUp_56 (lv_at hl 0 rfl) ?_
  refine lv_lload hx hb d_X0_runUp_58 (lv_at hl 0 rfl) ?_
  refine lv_iload hx hb d_X0_runUp_60 (lv_at hl 3 rfl) ?_
  refine lv_lshl (v := (td_lshl r4 k)) hx hb d_X0_runUp_62 rfl ?_
  refine lv_lload_n hx hb d_X0_runUp_63 rfl (lv_at hl 2 rfl) ?_
  refine lv_land hx hb d_X0_runUp_64 ?_
  refine lv_lor hx hb d_X0_runUp_65 ?_
  exact W.lret (v := (r4 ||| ((td_lshl r4 k) &&& y))) hx hb hr (fun t ht hW => ⟨_, rfl, by subst_vars; rfl, ht⟩) (fun _ h => nomatch h) d_X0_runUp_66
set_option maxHeartbeats 4000000 in
set_option maxRecDepth 100000 in
theorem m_X0_runDown (l : Launch) (f y : Int64) (k : Int32) : Met l y_X0_runDown (k_X0_runDown :: tw) ({ frames := 0, cells := 0, slots := 0, locals := 0 }) (va_Pc [.long f, .long y, .int k] (fun _ => True)) (vp_Sl (fun r => r = td_runDown f y k)) 0 0 (fun _ => False) := by
  refine Met.ofW (cc := c_X0_runDown) (maxL := 7) (ret := (some .long)) (by decide) rfl ?_
  intro p e s m args below meth c s₁ B hml hv
  obtain ⟨rfl, hv⟩ := hv
  have hx := B.exec
  have hb := B.bytes
  have hr := B.returns
  have hts : ∀ w ∈ tw, w.before _ s = true := fun w h => atoms_spec (ws := k_X0_runDown :: tw) B.pre w (List.mem_cons_of_mem _ h)
  have hown : s.vm.findClass RX0 = some m.cls := findClass_of_methodNamed B.named
  have hlocks := B.notSynchronized
  have hl := lv_entry ([.long f, .long y, .int k]) (n := 7) (Nat.le_of_ble_eq_true rfl)
  rw [lg_entry_eq]
  generalize (lg_sl ([.long f, .long y, .int k]) ++ List.replicate (7 - (lg_sl ([.long f, .long y, .int k])).length) Slot.unset).toArray = ls at hl ⊢
  have hl : lv_has ls 7 [(0, .long f), (2, .long y), (4, .int k)] := hl
  refine lv_lload_n hx hb d_X0_runDown_0 rfl (lv_at hl 0 rfl) ?_
  refine lv_iload hx hb d_X0_runDown_1 (lv_at hl 2 rfl) ?_
  refine lv_lushr (v := (td_lushr f k)) hx hb d_X0_runDown_3 rfl ?_
  refine lv_lload_n hx hb d_X0_runDown_4 rfl (lv_at hl 1 rfl) ?_
  refine lv_land hx hb d_X0_runDown_5 ?_
  refine lv_topl (fun r0 e0 => ?_)
  refine lv_lstore hx hb d_X0_runDown_6 hl (by decide) rfl (fun ls hl => ?_)
  have hl : lv_has ls 7 [(5, .long r0), (0, .long f), (2, .long y), (4, .int k)] := hl
  refine lv_lload hx hb d_X0_runDown_8 (lv_at hl 0 rfl) ?_
  refine lv_lload hx hb d_X0_runDown_10 (lv_at hl 0 rfl) ?_
  refine lv_iload hx hb d_X0_runDown_12 (lv_at hl 3 rfl) ?_
  refine lv_lushr (v := (td_lushr r0 k)) hx hb d_X0_runDown_14 rfl ?_
  refine lv_lload_n hx hb d_X0_runDown_15 rfl (lv_at hl 2 rfl) ?_
  refine lv_land hx hb d_X0_runDown_16 ?_
  refine lv_lor hx hb d_X0_runDown_17 ?_
  refine lv_topl (fun r1 e1 => ?_)
  refine lv_lstore hx hb d_X0_runDown_18 hl (by decide) rfl (fun ls hl => ?_)
  have hl : lv_has ls 7 [(5, .long r1), (0, .long f), (2, .long y), (4, .int k)] := hl
  refine lv_lload hx hb d_X0_runDown_20 (lv_at hl 0 rfl) ?_
  refine lv_lload hx hb d_X0_runDown_22 (lv_at hl 0 rfl) ?_
  refine lv_iload hx hb d_X0_runDown_24 (lv_at hl 3 rfl) ?_
  refine lv_lushr (v := (td_lushr r1 k)) hx hb d_X0_runDown_26 rfl ?_
  refine lv_lload_n hx hb d_X0_runDown_27 rfl (lv_at hl 2 rfl) ?_
  refine lv_land hx hb d_X0_runDown_28 ?_
  refine lv_lor hx hb d_X0_runDown_29 ?_
  refine lv_topl (fun r2 e2 => ?_)
  refine lv_lstore hx hb d_X0_runDown_30 hl (by decide) rfl (fun ls hl => ?_)
  have hl : lv_has ls 7 [(5, .long r2), (0, .long f), (2, .long y), (4, .int k)] := hl
  refine lv_lload hx hb d_X0_runDown_32 (lv_at hl 0 rfl) ?_
  refine lv_lload hx hb d_X0_runDown_34 (lv_at hl 0 rfl) ?_
  refine lv_iload hx hb d_X0_runDown_36 (lv_at hl 3 rfl) ?_
  refine lv_lushr (v := (td_lushr r2 k)) hx hb d_X0_runDown_38 rfl ?_
  refine lv_lload_n hx hb d_X0_runDown_39 rfl (lv_at hl 2 rfl) ?_
  refine lv_land hx hb d_X0_runDown_40 ?_
  refine lv_lor hx hb d_X0_runDown_41 ?_
  refine lv_topl (fun r3 e3 => ?_)
  refine lv_lstore hx hb d_X0_runDown_42 hl (by decide) rfl (fun ls hl => ?_)
  have hl : lv_has ls 7 [(5, .long r3), (0, .long f), (2, .long y), (4, .int k)] := hl
  refine lv_lload hx hb d_X0_runDown_44 (lv_at hl 0 rfl) ?_
  refine lv_lload hx hb d_X0_runDown_46 (lv_at hl 0 rfl) ?_
  refine lv_iload hx hb d_X0_runDown_48 (lv_at hl 3 rfl) ?_
  refine lv_lushr (v := (td_lushr r3 k)) hx hb d_X0_runDown_50 rfl ?_
  refine lv_lload_n hx hb d_X0_runDown_51 rfl (lv_at hl 2 rfl) ?_
  refine lv_land hx hb d_X0_runDown_52 ?_
  refine lv_lor hx hb d_X0_runDown_53 ?_
  refine lv_topl (fun r4 e4 => ?_)
  refine lv_lstore hx hb d_X0_runDown_54 hl (by decide) rfl (fun ls hl => ?_)
  have hl : lv_has ls 7 [(5, .long r4), (0, .long f), (2, .long y), (4, .int k)] := hl
  refine lv_lload hx hb d_X0_runDown_56 (lv_at hl 0 rfl) ?_
  refine lv_lload hx hb d_X0_runDown_58 (lv_at hl 0 rfl) ?_
  refine lv_iload hx hb d_X0_runDown_60 (lv_at hl 3 rfl) ?_
  refine lv_lushr (v := (td_lushr r4 k)) hx hb d_X0_runDown_62 rfl ?_
  refine lv_lload_n hx hb d_X0_runDown_63 rfl (lv_at hl 2 rfl) ?_
  refine lv_land hx hb d_X0_runDown_64 ?_
  refine lv_lor hx hb d_X0_runDown_65 ?_
  exact W.lret (v := (r4 ||| ((td_lushr r4 k) &&& y))) hx hb hr (fun t ht hW => ⟨_, rfl, by subst_vars; rfl, ht⟩) (fun _ h => nomatch h) d_X0_runDown_66
set_option maxHeartbeats 4000000 in
set_option maxRecDepth 100000 in
theorem m_X0_endsAlong (l : Launch) (a b : Int64) (k : Int32) : Met l y_X0_endsAlong (k_X0_endsAlong :: tw) ({ frames := 1, cells := 0, slots := 0, locals := 26 }) (va_Pc [.long a, .long b, .int k] (fun _ => True)) (vp_Sl (fun r => r = td_ends a b k)) 0 0 (fun _ => False) := by
  refine Met.ofW (cc := c_X0_endsAlong) (maxL := 5) (ret := (some .long)) (by decide) rfl ?_
  intro p e s m args below meth c s₁ B hml hv
  obtain ⟨rfl, hv⟩ := hv
  have hx := B.exec
  have hb := B.bytes
  have hr := B.returns
  have hts : ∀ w ∈ tw, w.before _ s = true := fun w h => atoms_spec (ws := k_X0_endsAlong :: tw) B.pre w (List.mem_cons_of_mem _ h)
  have hown : s.vm.findClass RX0 = some m.cls := findClass_of_methodNamed B.named
  have hlocks := B.notSynchronized
  have hl := lv_entry ([.long a, .long b, .int k]) (n := 5) (Nat.le_of_ble_eq_true rfl)
  rw [lg_entry_eq]
  generalize (lg_sl ([.long a, .long b, .int k]) ++ List.replicate (5 - (lg_sl ([.long a, .long b, .int k])).length) Slot.unset).toArray = ls at hl ⊢
  have hl : lv_has ls 5 [(0, .long a), (2, .long b), (4, .int k)] := hl
  refine lv_lload_n hx hb d_X0_endsAlong_0 rfl (lv_at hl 0 rfl) ?_
  refine lv_lload_n hx hb d_X0_endsAlong_1 rfl (lv_at hl 1 rfl) ?_
  refine lv_iload hx hb d_X0_endsAlong_2 (lv_at hl 2 rfl) ?_
  refine vp_callSl (W.runS (As := [.long a, .long b, .int k]) (rest := []) ⟨hx, hb, hml, hown, hts⟩ (m_X0_runUp l a b k) (va_cwS 3 hts (tw_S ml_X0_165 st_X0_runUp in_X0 kw_X0_runUp) rfl rfl rfl (by decide +kernel) ⟨Nat.le_of_ble_eq_true rfl, Nat.le_of_ble_eq_true rfl⟩) ⟨fun _ _ _ _ q => q, fun U hU hW => ⟨rfl, trivial⟩⟩ rfl rfl hl.1 rfl (lv_room (Nat.le_of_ble_eq_true rfl)) d_X0_endsAlong_4 ⟨Nat.le_refl _, Nat.le_refl _⟩) (fun r hq => ?_)
  subst hq
  refine lv_iload hx hb d_X0_endsAlong_7 (lv_at hl 2 rfl) ?_
  refine lv_lshl (v := (td_lshl (td_runUp a b k) k)) hx hb d_X0_endsAlong_9 rfl ?_
  refine lv_lload_n hx hb d_X0_endsAlong_10 rfl (lv_at hl 0 rfl) ?_
  refine lv_lload_n hx hb d_X0_endsAlong_11 rfl (lv_at hl 1 rfl) ?_
  refine lv_iload hx hb d_X0_endsAlong_12 (lv_at hl 2 rfl) ?_
  refine vp_callSl (W.runS (As := [.long a, .long b, .int k]) (rest := [.long (td_lshl (td_runUp a b k) k)]) ⟨hx, hb, hml, hown, hts⟩ (m_X0_runDown l a b k) (va_cwS 3 hts (tw_S ml_X0_168 st_X0_runDown in_X0 kw_X0_runDown) rfl rfl rfl (by decide +kernel) ⟨Nat.le_of_ble_eq_true rfl, Nat.le_of_ble_eq_true rfl⟩) ⟨fun _ _ _ _ q => q, fun U hU hW => ⟨rfl, trivial⟩⟩ rfl rfl hl.1 rfl (lv_room (Nat.le_of_ble_eq_true rfl)) d_X0_endsAlong_14 ⟨Nat.le_refl _, Nat.le_refl _⟩) (fun r hq => ?_)
  subst hq
  refine lv_iload hx hb d_X0_endsAlong_17 (lv_at hl 2 rfl) ?_
  refine lv_lushr (v := (td_lushr (td_runDown a b k) k)) hx hb d_X0_endsAlong_19 rfl ?_
  refine lv_lor hx hb d_X0_endsAlong_20 ?_
  exact W.lret (v := ((td_lshl (td_runUp a b k) k) ||| (td_lushr (td_runDown a b k) k))) hx hb hr (fun t ht hW => ⟨_, rfl, rfl, ht⟩) (fun _ h => nomatch h) d_X0_endsAlong_21
set_option maxHeartbeats 4000000 in
set_option maxRecDepth 100000 in
theorem m_X0_movesOf (l : Launch) (a b : Int64) : Met l y_X0_movesOf (k_X0_movesOf :: tw) ({ frames := 2, cells := 0, slots := 0, locals := 50 }) (va_Pc [.long a, .long b] (fun _ => True)) (vp_Sl (fun r => r = td_moves a b)) 0 0 (fun _ => False) := by
  refine Met.ofW (cc := c_X0_movesOf) (maxL := 8) (ret := (some .long)) (by decide) rfl ?_
  intro p e s m args below meth c s₁ B hml hv
  obtain ⟨rfl, hv⟩ := hv
  have hx := B.exec
  have hb := B.bytes
  have hr := B.returns
  have hts : ∀ w ∈ tw, w.before _ s = true := fun w h => atoms_spec (ws := k_X0_movesOf :: tw) B.pre w (List.mem_cons_of_mem _ h)
  have hown : s.vm.findClass RX0 = some m.cls := findClass_of_methodNamed B.named
  have hlocks := B.notSynchronized
  have hl := lv_entry ([.long a, .long b]) (n := 8) (Nat.le_of_ble_eq_true rfl)
  rw [lg_entry_eq]
  generalize (lg_sl ([.long a, .long b]) ++ List.replicate (8 - (lg_sl ([.long a, .long b])).length) Slot.unset).toArray = ls at hl ⊢
  have hl : lv_has ls 8 [(0, .long a), (2, .long b)] := hl
  refine lv_lload_n hx hb d_X0_movesOf_0 rfl (lv_at hl 1 rfl) ?_
  refine lv_ldc2 (v := 9114861777597660798) hx hb hown (hts _ cn_X0_160) d_X0_movesOf_1 ?_
  refine lv_land hx hb d_X0_movesOf_4 ?_
  refine td_l (y := (td_inner b)) (rfl) ?_
  refine lv_lstore hx hb d_X0_movesOf_5 hl (by decide) rfl (fun ls hl => ?_)
  have hl : lv_has ls 8 [(4, .long (td_inner b)), (0, .long a), (2, .long b)] := hl
  refine lv_lload_n hx hb d_X0_movesOf_7 rfl (lv_at hl 1 rfl) ?_
  refine lv_lload hx hb d_X0_movesOf_8 (lv_at hl 0 rfl) ?_
  refine lv_iconst (v := 1) hx hb d_X0_movesOf_10 (by decide) ?_
  refine vp_callSl (W.runS (As := [.long a, .long (td_inner b), .int 1]) (rest := []) ⟨hx, hb, hml, hown, hts⟩ (m_X0_endsAlong l a (td_inner b) 1) (va_cwS 3 hts (tw_S ml_X0_162 st_X0_endsAlong in_X0 kw_X0_endsAlong) rfl rfl rfl (by decide +kernel) ⟨Nat.le_of_ble_eq_true rfl, Nat.le_of_ble_eq_true rfl⟩) ⟨fun _ _ _ _ q => q, fun U hU hW => ⟨rfl, trivial⟩⟩ rfl rfl hl.1 rfl (lv_room (Nat.le_of_ble_eq_true rfl)) d_X0_movesOf_11 ⟨Nat.le_refl _, Nat.le_refl _⟩) (fun r hq => ?_)
  subst hq
  refine lv_lload_n hx hb d_X0_movesOf_14 rfl (lv_at hl 1 rfl) ?_
  refine lv_lload_n hx hb d_X0_movesOf_15 rfl (lv_at hl 2 rfl) ?_
  refine lv_bipush (v := 8) hx hb d_X0_movesOf_16 (by decide) ?_
  refine vp_callSl (W.runS (As := [.long a, .long b, .int 8]) (rest := [.long (td_ends a (td_inner b) 1)]) ⟨hx, hb, hml, hown, hts⟩ (m_X0_endsAlong l a b 8) (va_cwS 3 hts (tw_S ml_X0_162 st_X0_endsAlong in_X0 kw_X0_endsAlong) rfl rfl rfl (by decide +kernel) ⟨Nat.le_of_ble_eq_true rfl, Nat.le_of_ble_eq_true rfl⟩) ⟨fun _ _ _ _ q => q, fun U hU hW => ⟨rfl, trivial⟩⟩ rfl rfl hl.1 rfl (lv_room (Nat.le_of_ble_eq_true rfl)) d_X0_movesOf_18 ⟨Nat.le_refl _, Nat.le_refl _⟩) (fun r hq => ?_)
  subst hq
  refine lv_lor hx hb d_X0_movesOf_21 ?_
  refine lv_lload_n hx hb d_X0_movesOf_22 rfl (lv_at hl 1 rfl) ?_
  refine lv_lload hx hb d_X0_movesOf_23 (lv_at hl 0 rfl) ?_
  refine lv_bipush (v := 9) hx hb d_X0_movesOf_25 (by decide) ?_
  refine vp_callSl (W.runS (As := [.long a, .long (td_inner b), .int 9]) (rest := [.long ((td_ends a (td_inner b) 1) ||| (td_ends a b 8))]) ⟨hx, hb, hml, hown, hts⟩ (m_X0_endsAlong l a (td_inner b) 9) (va_cwS 3 hts (tw_S ml_X0_162 st_X0_endsAlong in_X0 kw_X0_endsAlong) rfl rfl rfl (by decide +kernel) ⟨Nat.le_of_ble_eq_true rfl, Nat.le_of_ble_eq_true rfl⟩) ⟨fun _ _ _ _ q => q, fun U hU hW => ⟨rfl, trivial⟩⟩ rfl rfl hl.1 rfl (lv_room (Nat.le_of_ble_eq_true rfl)) d_X0_movesOf_27 ⟨Nat.le_refl _, Nat.le_refl _⟩) (fun r hq => ?_)
  subst hq
  refine lv_lor hx hb d_X0_movesOf_30 ?_
  refine lv_lload_n hx hb d_X0_movesOf_31 rfl (lv_at hl 1 rfl) ?_
  refine lv_lload hx hb d_X0_movesOf_32 (lv_at hl 0 rfl) ?_
  refine lv_bipush (v := 7) hx hb d_X0_movesOf_34 (by decide) ?_
  refine vp_callSl (W.runS (As := [.long a, .long (td_inner b), .int 7]) (rest := [.long (((td_ends a (td_inner b) 1) ||| (td_ends a b 8)) ||| (td_ends a (td_inner b) 9))]) ⟨hx, hb, hml, hown, hts⟩ (m_X0_endsAlong l a (td_inner b) 7) (va_cwS 3 hts (tw_S ml_X0_162 st_X0_endsAlong in_X0 kw_X0_endsAlong) rfl rfl rfl (by decide +kernel) ⟨Nat.le_of_ble_eq_true rfl, Nat.le_of_ble_eq_true rfl⟩) ⟨fun _ _ _ _ q => q, fun U hU hW => ⟨rfl, trivial⟩⟩ rfl rfl hl.1 rfl (lv_room (Nat.le_of_ble_eq_true rfl)) d_X0_movesOf_36 ⟨Nat.le_refl _, Nat.le_refl _⟩) (fun r hq => ?_)
  subst hq
  refine lv_lor hx hb d_X0_movesOf_39 ?_
  refine lv_lstore hx hb d_X0_movesOf_40 hl (by decide) rfl (fun ls hl => ?_)
  have hl : lv_has ls 8 [(6, .long ((((td_ends a (td_inner b) 1) ||| (td_ends a b 8)) ||| (td_ends a (td_inner b) 9)) ||| (td_ends a (td_inner b) 7))), (4, .long (td_inner b)), (0, .long a), (2, .long b)] := hl
  refine lv_lload hx hb d_X0_movesOf_42 (lv_at hl 0 rfl) ?_
  refine lv_lload_n hx hb d_X0_movesOf_44 rfl (lv_at hl 2 rfl) ?_
  refine lv_lload_n hx hb d_X0_movesOf_45 rfl (lv_at hl 3 rfl) ?_
  refine lv_lor hx hb d_X0_movesOf_46 ?_
  refine lv_ldc2 (v := (-1)) hx hb hown (hts _ cn_X0_158) d_X0_movesOf_47 ?_
  refine lv_lxor hx hb d_X0_movesOf_50 ?_
  refine lv_land hx hb d_X0_movesOf_51 ?_
  exact W.lret (v := (((((td_ends a (td_inner b) 1) ||| (td_ends a b 8)) ||| (td_ends a (td_inner b) 9)) ||| (td_ends a (td_inner b) 7)) &&& ((a ||| b) ^^^ (-1)))) hx hb hr (fun t ht hW => ⟨_, rfl, rfl, ht⟩) (fun _ h => nomatch h) d_X0_movesOf_52
