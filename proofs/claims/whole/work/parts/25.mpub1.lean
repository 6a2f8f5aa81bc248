/-! the reference's public readers: they write the field 'thrown' alone -/
def td_bad (q M : Int32) : Int32 := if q < 0 ∨ M < q then 1 else 0
def td_bs (P : Nat → Bool) : Nat → Int64
  | 0 => 0
  | n + 1 => if P n then td_bs P n ||| td_lshl 1 (nI n) else td_bs P n
theorem td_bs_s (P : Nat → Bool) (n : Nat) : td_bs P (n + 1) = if P n then td_bs P n ||| td_lshl 1 (nI n) else td_bs P n := rfl
set_option maxHeartbeats 4000000 in
set_option maxRecDepth 100000 in
theorem m_X1_thrown (l : Launch) (D : va_G) (o : Nat) (q : Nat → Nat) (th md ch sc : Int32) (cI : ClassId) (ce mv : Nat → Int32) : Met l y_X1_thrown (k_X1_thrown :: tw) ({ frames := 0, cells := 0, slots := 0, locals := 0 }) (va_Pc [.ref o] (fun U => va_P D tdC [(o, .inr (1, [.int th, .ref (q 1), .ref (q 2), .ref (q 3), .ref (q 4), .int md, .ref (q 6), .ref (q 7), .ref (q 8), .ref (q 9), .int ch, .ref (q 11), .int sc, .ref (q 13)]))] U.heap ∧ va_K D tdC [] U)) (vp_Si (fun r => r = th)) 0 0 (fun _ => False) := by
  refine Met.ofW (cc := c_X1_thrown) (maxL := 1) (ret := (some .int)) (by decide) rfl ?_
  intro p e s m args below meth c s₁ B hml hv
  obtain ⟨rfl, hP, hK⟩ := hv
  have hx := B.exec
  have hb := B.bytes
  have hr := B.returns
  have hts : ∀ w ∈ tw, w.before _ s = true := fun w h => atoms_spec (ws := k_X1_thrown :: tw) B.pre w (List.mem_cons_of_mem _ h)
  have hown : s.vm.findClass RX1 = some m.cls := findClass_of_methodNamed B.named
  have hlocks := B.notSynchronized
  have hl := lv_entry ([.ref o]) (n := 1) (Nat.le_of_ble_eq_true rfl)
  rw [lg_entry_eq]
  generalize (lg_sl ([.ref o]) ++ List.replicate (1 - (lg_sl ([.ref o])).length) Slot.unset).toArray = ls at hl ⊢
  have hl : lv_has ls 1 [(0, .ref o)] := hl
  refine lv_aload_n hx hb d_X1_thrown_0 rfl (lv_at hl 0 rfl) ?_
  refine va_get (D := D) (ci := 1) (v := .int th) (C := RX1) (T := TX1) (N := 14) hx hb hts usX1 hown hK hP 0 rfl rfl 0 (by decide) (hts _ fl_X1_45) (fun _ h9 => h9) rfl d_X1_thrown_1 ?_
  exact W.iret (v := th) hx hb hr (fun t ht hW => ⟨_, rfl, rfl, ht⟩) (fun _ h => nomatch h) d_X1_thrown_4
set_option maxHeartbeats 4000000 in
set_option maxRecDepth 100000 in
theorem m_X1_player (l : Launch) (D : va_G) (sz : Nat) (o : Nat) (q : Nat → Nat) (th md ch sc : Int32) (cI : ClassId) (ce mv : Nat → Int32) : Met l y_X1_player (k_X1_player :: tw) ({ frames := 0, cells := 0, slots := 0, locals := 0 }) (va_Pc [.ref o] (fun U => U.heap.size = sz ∧ va_P D tdC [(o, .inr (1, [.int th, .ref (q 1), .ref (q 2), .ref (q 3), .ref (q 4), .int md, .ref (q 6), .ref (q 7), .ref (q 8), .ref (q 9), .int ch, .ref (q 11), .int sc, .ref (q 13)])), ((q 1), .inl (cI, 1216, .inl ce)), ((q 2), .inl (cI, 19, .inl mv))] U.heap ∧ va_K D tdC [(cI, .int)] U ∧ va_D (fun _ => True) [(o, .inr (1, [.int th, .ref (q 1), .ref (q 2), .ref (q 3), .ref (q 4), .int md, .ref (q 6), .ref (q 7), .ref (q 8), .ref (q 9), .int ch, .ref (q 11), .int sc, .ref (q 13)])), ((q 1), .inl (cI, 1216, .inl ce)), ((q 2), .inl (cI, 19, .inl mv))])) (va_Qi (fun (r : Int32) (_ : Unit) => r = mv 0) (fun (_ : Unit) t => va_P D tdC [(o, .inr (1, [.int 0, .ref (q 1), .ref (q 2), .ref (q 3), .ref (q 4), .int md, .ref (q 6), .ref (q 7), .ref (q 8), .ref (q 9), .int ch, .ref (q 11), .int sc, .ref (q 13)])), ((q 1), .inl (cI, 1216, .inl ce)), ((q 2), .inl (cI, 19, .inl mv))] t.heap ∧ va_K D tdC [(cI, .int)] t ∧ va_D (va_A [(o, .inr (1, [.int th, .ref (q 1), .ref (q 2), .ref (q 3), .ref (q 4), .int md, .ref (q 6), .ref (q 7), .ref (q 8), .ref (q 9), .int ch, .ref (q 11), .int sc, .ref (q 13)])), ((q 1), .inl (cI, 1216, .inl ce)), ((q 2), .inl (cI, 19, .inl mv))] sz) [(o, .inr (1, [.int 0, .ref (q 1), .ref (q 2), .ref (q 3), .ref (q 4), .int md, .ref (q 6), .ref (q 7), .ref (q 8), .ref (q 9), .int ch, .ref (q 11), .int sc, .ref (q 13)])), ((q 1), .inl (cI, 1216, .inl ce)), ((q 2), .inl (cI, 19, .inl mv))]) (va_A [(o, .inr (1, [.int th, .ref (q 1), .ref (q 2), .ref (q 3), .ref (q 4), .int md, .ref (q 6), .ref (q 7), .ref (q 8), .ref (q 9), .int ch, .ref (q 11), .int sc, .ref (q 13)])), ((q 1), .inl (cI, 1216, .inl ce)), ((q 2), .inl (cI, 19, .inl mv))] sz)) 0 0 (va_A [(o, .inr (1, [.int th, .ref (q 1), .ref (q 2), .ref (q 3), .ref (q 4), .int md, .ref (q 6), .ref (q 7), .ref (q 8), .ref (q 9), .int ch, .ref (q 11), .int sc, .ref (q 13)])), ((q 1), .inl (cI, 1216, .inl ce)), ((q 2), .inl (cI, 19, .inl mv))] sz) := by
  refine Met.ofW (cc := c_X1_player) (maxL := 1) (ret := (some .int)) (by decide) rfl ?_
  intro p e s m args below meth c s₁ B hml hv
  obtain ⟨rfl, hsz, hP, hK, hD0⟩ := hv
  have hx := B.exec
  have hb := B.bytes
  have hr := B.returns
  have hts : ∀ w ∈ tw, w.before _ s = true := fun w h => atoms_spec (ws := k_X1_player :: tw) B.pre w (List.mem_cons_of_mem _ h)
  have hown : s.vm.findClass RX1 = some m.cls := findClass_of_methodNamed B.named
  have hlocks := B.notSynchronized
  subst hsz
  have hD := hD0.self (sz := s.heap.size)
  generalize hAe : va_A [(o, .inr (1, [.int th, .ref (q 1), .ref (q 2), .ref (q 3), .ref (q 4), .int md, .ref (q 6), .ref (q 7), .ref (q 8), .ref (q 9), .int ch, .ref (q 11), .int sc, .ref (q 13)])), ((q 1), .inl (cI, 1216, .inl ce)), ((q 2), .inl (cI, 19, .inl mv))] s.heap.size = A at hD ⊢
  have hA : ∀ q : Nat, s.heap.size ≤ q → A q := fun q h => by rw [← hAe]; exact Or.inr h
  have hS : va_S A s.heap s.heap [] := va_S.rf
  have hP : va_P D tdC [(o, .inr (1, [.int th, .ref (q 1), .ref (q 2), .ref (q 3), .ref (q 4), .int md, .ref (q 6), .ref (q 7), .ref (q 8), .ref (q 9), .int ch, .ref (q 11), .int sc, .ref (q 13)])), ((q 1), .inl (cI, 1216, .inl ce)), ((q 2), .inl (cI, 19, .inl mv))] s.heap := hP
  have hl := lv_entry ([.ref o]) (n := 1) (Nat.le_of_ble_eq_true rfl)
  rw [lg_entry_eq]
  generalize (lg_sl ([.ref o]) ++ List.replicate (1 - (lg_sl ([.ref o])).length) Slot.unset).toArray = ls at hl ⊢
  have hl : lv_has ls 1 [(0, .ref o)] := hl
  refine lv_aload_n hx hb d_X1_player_0 rfl (lv_at hl 0 rfl) ?_
  refine lv_iconst (v := 0) hx hb d_X1_player_1 (by decide) ?_
  refine va_put (D := D) (ci := 1) (v := .int 0) (ty := .int) (C := RX1) (T := TX1) (N := 14) hx hb hts usX1 tyX1 tyX1_ok nmX1 hown hK hP hD hS 0 rfl rfl 0 (by decide) (hts _ fl_X1_45) (fun _ h9 => h9) rfl (by decide +kernel) rfl rfl (Nat.le_of_ble_eq_true rfl) d_X1_player_2 (fun H locs hP hD hS => ?_)
  have hP : va_P D tdC [(o, .inr (1, [.int 0, .ref (q 1), .ref (q 2), .ref (q 3), .ref (q 4), .int md, .ref (q 6), .ref (q 7), .ref (q 8), .ref (q 9), .int ch, .ref (q 11), .int sc, .ref (q 13)])), ((q 1), .inl (cI, 1216, .inl ce)), ((q 2), .inl (cI, 19, .inl mv))] H := hP
  have hD : va_D A [(o, .inr (1, [.int 0, .ref (q 1), .ref (q 2), .ref (q 3), .ref (q 4), .int md, .ref (q 6), .ref (q 7), .ref (q 8), .ref (q 9), .int ch, .ref (q 11), .int sc, .ref (q 13)])), ((q 1), .inl (cI, 1216, .inl ce)), ((q 2), .inl (cI, 19, .inl mv))] := hD
  refine lv_aload_n hx hb d_X1_player_5 rfl (lv_at hl 0 rfl) ?_
  refine va_get (D := D) (ci := 1) (v := .ref (q 2)) (C := RX1) (T := TX1) (N := 14) hx hb hts usX1 hown hK hP 0 rfl rfl 2 (by decide) (hts _ fl_X1_13) (fun _ h9 => h9) rfl d_X1_player_6 ?_
  refine lv_iconst (v := 0) hx hb d_X1_player_9 (by decide) ?_
  refine va_iald hx hb hK hP 2 0 rfl rfl (vp_in_nI (n := 0) (by decide) (by decide)) d_X1_player_10 ?_
  refine td_i (y := (mv 0)) (rfl) ?_
  exact W.iret (v := (mv 0)) hx hb hr (fun t ht hW => ⟨⟨_, (), rfl, rfl, by rw [ht]; exact hP, va_K.moved hW.alike hK, hD⟩, hS.F ht⟩) hS.2.2 d_X1_player_11
set_option maxHeartbeats 4000000 in
set_option maxRecDepth 100000 in
theorem m_X1_made (l : Launch) (D : va_G) (sz : Nat) (o : Nat) (q : Nat → Nat) (th md ch sc : Int32) (cI : ClassId) (ce mv : Nat → Int32) : Met l y_X1_made (k_X1_made :: tw) ({ frames := 0, cells := 0, slots := 0, locals := 0 }) (va_Pc [.ref o] (fun U => U.heap.size = sz ∧ va_P D tdC [(o, .inr (1, [.int th, .ref (q 1), .ref (q 2), .ref (q 3), .ref (q 4), .int md, .ref (q 6), .ref (q 7), .ref (q 8), .ref (q 9), .int ch, .ref (q 11), .int sc, .ref (q 13)])), ((q 1), .inl (cI, 1216, .inl ce)), ((q 2), .inl (cI, 19, .inl mv))] U.heap ∧ va_K D tdC [(cI, .int)] U ∧ va_D (fun _ => True) [(o, .inr (1, [.int th, .ref (q 1), .ref (q 2), .ref (q 3), .ref (q 4), .int md, .ref (q 6), .ref (q 7), .ref (q 8), .ref (q 9), .int ch, .ref (q 11), .int sc, .ref (q 13)])), ((q 1), .inl (cI, 1216, .inl ce)), ((q 2), .inl (cI, 19, .inl mv))])) (va_Qi (fun (r : Int32) (_ : Unit) => r = md) (fun (_ : Unit) t => va_P D tdC [(o, .inr (1, [.int 0, .ref (q 1), .ref (q 2), .ref (q 3), .ref (q 4), .int md, .ref (q 6), .ref (q 7), .ref (q 8), .ref (q 9), .int ch, .ref (q 11), .int sc, .ref (q 13)])), ((q 1), .inl (cI, 1216, .inl ce)), ((q 2), .inl (cI, 19, .inl mv))] t.heap ∧ va_K D tdC [(cI, .int)] t ∧ va_D (va_A [(o, .inr (1, [.int th, .ref (q 1), .ref (q 2), .ref (q 3), .ref (q 4), .int md, .ref (q 6), .ref (q 7), .ref (q 8), .ref (q 9), .int ch, .ref (q 11), .int sc, .ref (q 13)])), ((q 1), .inl (cI, 1216, .inl ce)), ((q 2), .inl (cI, 19, .inl mv))] sz) [(o, .inr (1, [.int 0, .ref (q 1), .ref (q 2), .ref (q 3), .ref (q 4), .int md, .ref (q 6), .ref (q 7), .ref (q 8), .ref (q 9), .int ch, .ref (q 11), .int sc, .ref (q 13)])), ((q 1), .inl (cI, 1216, .inl ce)), ((q 2), .inl (cI, 19, .inl mv))]) (va_A [(o, .inr (1, [.int th, .ref (q 1), .ref (q 2), .ref (q 3), .ref (q 4), .int md, .ref (q 6), .ref (q 7), .ref (q 8), .ref (q 9), .int ch, .ref (q 11), .int sc, .ref (q 13)])), ((q 1), .inl (cI, 1216, .inl ce)), ((q 2), .inl (cI, 19, .inl mv))] sz)) 0 0 (va_A [(o, .inr (1, [.int th, .ref (q 1), .ref (q 2), .ref (q 3), .ref (q 4), .int md, .ref (q 6), .ref (q 7), .ref (q 8), .ref (q 9), .int ch, .ref (q 11), .int sc, .ref (q 13)])), ((q 1), .inl (cI, 1216, .inl ce)), ((q 2), .inl (cI, 19, .inl mv))] sz) := by
  refine Met.ofW (cc := c_X1_made) (maxL := 1) (ret := (some .int)) (by decide) rfl ?_
  intro p e s m args below meth c s₁ B hml hv
  obtain ⟨rfl, hsz, hP, hK, hD0⟩ := hv
  have hx := B.exec
  have hb := B.bytes
  have hr := B.returns
  have hts : ∀ w ∈ tw, w.before _ s = true := fun w h => atoms_spec (ws := k_X1_made :: tw) B.pre w (List.mem_cons_of_mem _ h)
  have hown : s.vm.findClass RX1 = some m.cls := findClass_of_methodNamed B.named
  have hlocks := B.notSynchronized
  subst hsz
  have hD := hD0.self (sz := s.heap.size)
  generalize hAe : va_A [(o, .inr (1, [.int th, .ref (q 1), .ref (q 2), .ref (q 3), .ref (q 4), .int md, .ref (q 6), .ref (q 7), .ref (q 8), .ref (q 9), .int ch, .ref (q 11), .int sc, .ref (q 13)])), ((q 1), .inl (cI, 1216, .inl ce)), ((q 2), .inl (cI, 19, .inl mv))] s.heap.size = A at hD ⊢
  have hA : ∀ q : Nat, s.heap.size ≤ q → A q := fun q h => by rw [← hAe]; exact Or.inr h
  have hS : va_S A s.heap s.heap [] := va_S.rf
  have hP : va_P D tdC [(o, .inr (1, [.int th, .ref (q 1), .ref (q 2), .ref (q 3), .ref (q 4), .int md, .ref (q 6), .ref (q 7), .ref (q 8), .ref (q 9), .int ch, .ref (q 11), .int sc, .ref (q 13)])), ((q 1), .inl (cI, 1216, .inl ce)), ((q 2), .inl (cI, 19, .inl mv))] s.heap := hP
  have hl := lv_entry ([.ref o]) (n := 1) (Nat.le_of_ble_eq_true rfl)
  rw [lg_entry_eq]
  generalize (lg_sl ([.ref o]) ++ List.replicate (1 - (lg_sl ([.ref o])).length) Slot.unset).toArray = ls at hl ⊢
  have hl : lv_has ls 1 [(0, .ref o)] := hl
  refine lv_aload_n hx hb d_X1_made_0 rfl (lv_at hl 0 rfl) ?_
  refine lv_iconst (v := 0) hx hb d_X1_made_1 (by decide) ?_
  refine va_put (D := D) (ci := 1) (v := .int 0) (ty := .int) (C := RX1) (T := TX1) (N := 14) hx hb hts usX1 tyX1 tyX1_ok nmX1 hown hK hP hD hS 0 rfl rfl 0 (by decide) (hts _ fl_X1_45) (fun _ h9 => h9) rfl (by decide +kernel) rfl rfl (Nat.le_of_ble_eq_true rfl) d_X1_made_2 (fun H locs hP hD hS => ?_)
  have hP : va_P D tdC [(o, .inr (1, [.int 0, .ref (q 1), .ref (q 2), .ref (q 3), .ref (q 4), .int md, .ref (q 6), .ref (q 7), .ref (q 8), .ref (q 9), .int ch, .ref (q 11), .int sc, .ref (q 13)])), ((q 1), .inl (cI, 1216, .inl ce)), ((q 2), .inl (cI, 19, .inl mv))] H := hP
  have hD : va_D A [(o, .inr (1, [.int 0, .ref (q 1), .ref (q 2), .ref (q 3), .ref (q 4), .int md, .ref (q 6), .ref (q 7), .ref (q 8), .ref (q 9), .int ch, .ref (q 11), .int sc, .ref (q 13)])), ((q 1), .inl (cI, 1216, .inl ce)), ((q 2), .inl (cI, 19, .inl mv))] := hD
  refine lv_aload_n hx hb d_X1_made_5 rfl (lv_at hl 0 rfl) ?_
  refine va_get (D := D) (ci := 1) (v := .int md) (C := RX1) (T := TX1) (N := 14) hx hb hts usX1 hown hK hP 0 rfl rfl 5 (by decide) (hts _ fl_X1_49) (fun _ h9 => h9) rfl d_X1_made_6 ?_
  exact W.iret (v := md) hx hb hr (fun t ht hW => ⟨⟨_, (), rfl, rfl, by rw [ht]; exact hP, va_K.moved hW.alike hK, hD⟩, hS.F ht⟩) hS.2.2 d_X1_made_9
set_option maxHeartbeats 4000000 in
set_option maxRecDepth 100000 in
theorem m_X1_difference (l : Launch) (D : va_G) (sz : Nat) (o : Nat) (q : Nat → Nat) (th md ch sc : Int32) (cI : ClassId) (ce mv : Nat → Int32) : Met l y_X1_difference (k_X1_difference :: tw) ({ frames := 1, cells := 0, slots := 0, locals := 24 }) (va_Pc [.ref o] (fun U => U.heap.size = sz ∧ va_P D tdC [(o, .inr (1, [.int th, .ref (q 1), .ref (q 2), .ref (q 3), .ref (q 4), .int md, .ref (q 6), .ref (q 7), .ref (q 8), .ref (q 9), .int ch, .ref (q 11), .int sc, .ref (q 13)])), ((q 1), .inl (cI, 1216, .inl ce)), ((q 2), .inl (cI, 19, .inl mv))] U.heap ∧ va_K D tdC [(cI, .int)] U ∧ va_D (fun _ => True) [(o, .inr (1, [.int th, .ref (q 1), .ref (q 2), .ref (q 3), .ref (q 4), .int md, .ref (q 6), .ref (q 7), .ref (q 8), .ref (q 9), .int ch, .ref (q 11), .int sc, .ref (q 13)])), ((q 1), .inl (cI, 1216, .inl ce)), ((q 2), .inl (cI, 19, .inl mv))])) (va_Qi (fun (r : Int32) (_ : Unit) => r = nI (td_dc (td_lv ce 0) 0) - nI (td_dc (td_lv ce 0) 1)) (fun (_ : Unit) t => va_P D tdC [(o, .inr (1, [.int 0, .ref (q 1), .ref (q 2), .ref (q 3), .ref (q 4), .int md, .ref (q 6), .ref (q 7), .ref (q 8), .ref (q 9), .int ch, .ref (q 11), .int sc, .ref (q 13)])), ((q 1), .inl (cI, 1216, .inl ce)), ((q 2), .inl (cI, 19, .inl mv))] t.heap ∧ va_K D tdC [(cI, .int)] t ∧ va_D (va_A [(o, .inr (1, [.int th, .ref (q 1), .ref (q 2), .ref (q 3), .ref (q 4), .int md, .ref (q 6), .ref (q 7), .ref (q 8), .ref (q 9), .int ch, .ref (q 11), .int sc, .ref (q 13)])), ((q 1), .inl (cI, 1216, .inl ce)), ((q 2), .inl (cI, 19, .inl mv))] sz) [(o, .inr (1, [.int 0, .ref (q 1), .ref (q 2), .ref (q 3), .ref (q 4), .int md, .ref (q 6), .ref (q 7), .ref (q 8), .ref (q 9), .int ch, .ref (q 11), .int sc, .ref (q 13)])), ((q 1), .inl (cI, 1216, .inl ce)), ((q 2), .inl (cI, 19, .inl mv))]) (va_A [(o, .inr (1, [.int th, .ref (q 1), .ref (q 2), .ref (q 3), .ref (q 4), .int md, .ref (q 6), .ref (q 7), .ref (q 8), .ref (q 9), .int ch, .ref (q 11), .int sc, .ref (q 13)])), ((q 1), .inl (cI, 1216, .inl ce)), ((q 2), .inl (cI, 19, .inl mv))] sz)) 0 0 (va_A [(o, .inr (1, [.int th, .ref (q 1), .ref (q 2), .ref (q 3), .ref (q 4), .int md, .ref (q 6), .ref (q 7), .ref (q 8), .ref (q 9), .int ch, .ref (q 11), .int sc, .ref (q 13)])), ((q 1), .inl (cI, 1216, .inl ce)), ((q 2), .inl (cI, 19, .inl mv))] sz) := by
  refine Met.ofW (cc := c_X1_difference) (maxL := 1) (ret := (some .int)) (by decide) rfl ?_
  intro p e s m args below meth c s₁ B hml hv
  obtain ⟨rfl, hsz, hP, hK, hD0⟩ := hv
  have hx := B.exec
  have hb := B.bytes
  have hr := B.returns
  have hts : ∀ w ∈ tw, w.before _ s = true := fun w h => atoms_spec (ws := k_X1_difference :: tw) B.pre w (List.mem_cons_of_mem _ h)
  have hown : s.vm.findClass RX1 = some m.cls := findClass_of_methodNamed B.named
  have hlocks := B.notSynchronized
  subst hsz
  have hD := hD0.self (sz := s.heap.size)
  generalize hAe : va_A [(o, .inr (1, [.int th, .ref (q 1), .ref (q 2), .ref (q 3), .ref (q 4), .int md, .ref (q 6), .ref (q 7), .ref (q 8), .ref (q 9), .int ch, .ref (q 11), .int sc, .ref (q 13)])), ((q 1), .inl (cI, 1216, .inl ce)), ((q 2), .inl (cI, 19, .inl mv))] s.heap.size = A at hD ⊢
  have hA : ∀ q : Nat, s.heap.size ≤ q → A q := fun q h => by rw [← hAe]; exact Or.inr h
  have hS : va_S A s.heap s.heap [] := va_S.rf
  have hP : va_P D tdC [(o, .inr (1, [.int th, .ref (q 1), .ref (q 2), .ref (q 3), .ref (q 4), .int md, .ref (q 6), .ref (q 7), .ref (q 8), .ref (q 9), .int ch, .ref (q 11), .int sc, .ref (q 13)])), ((q 1), .inl (cI, 1216, .inl ce)), ((q 2), .inl (cI, 19, .inl mv))] s.heap := hP
  have hl := lv_entry ([.ref o]) (n := 1) (Nat.le_of_ble_eq_true rfl)
  rw [lg_entry_eq]
  generalize (lg_sl ([.ref o]) ++ List.replicate (1 - (lg_sl ([.ref o])).length) Slot.unset).toArray = ls at hl ⊢
  have hl : lv_has ls 1 [(0, .ref o)] := hl
  refine lv_aload_n hx hb d_X1_difference_0 rfl (lv_at hl 0 rfl) ?_
  refine lv_iconst (v := 0) hx hb d_X1_difference_1 (by decide) ?_
  refine va_put (D := D) (ci := 1) (v := .int 0) (ty := .int) (C := RX1) (T := TX1) (N := 14) hx hb hts usX1 tyX1 tyX1_ok nmX1 hown hK hP hD hS 0 rfl rfl 0 (by decide) (hts _ fl_X1_45) (fun _ h9 => h9) rfl (by decide +kernel) rfl rfl (Nat.le_of_ble_eq_true rfl) d_X1_difference_2 (fun H locs hP hD hS => ?_)
  have hP : va_P D tdC [(o, .inr (1, [.int 0, .ref (q 1), .ref (q 2), .ref (q 3), .ref (q 4), .int md, .ref (q 6), .ref (q 7), .ref (q 8), .ref (q 9), .int ch, .ref (q 11), .int sc, .ref (q 13)])), ((q 1), .inl (cI, 1216, .inl ce)), ((q 2), .inl (cI, 19, .inl mv))] H := hP
  have hD : va_D A [(o, .inr (1, [.int 0, .ref (q 1), .ref (q 2), .ref (q 3), .ref (q 4), .int md, .ref (q 6), .ref (q 7), .ref (q 8), .ref (q 9), .int ch, .ref (q 11), .int sc, .ref (q 13)])), ((q 1), .inl (cI, 1216, .inl ce)), ((q 2), .inl (cI, 19, .inl mv))] := hD
  have hP2 := hP.sub (ws' := [(o, .inr (1, [.int 0, .ref (q 1), .ref (q 2), .ref (q 3), .ref (q 4), .int md, .ref (q 6), .ref (q 7), .ref (q 8), .ref (q 9), .int ch, .ref (q 11), .int sc, .ref (q 13)])), ((q 1), .inl (cI, 1216, .inl ce))]) [0, 1] rfl
  refine lv_aload_n hx hb d_X1_difference_5 rfl (lv_at hl 0 rfl) ?_
  refine lv_iconst (v := 0) hx hb d_X1_difference_6 (by decide) ?_
  refine lv_iconst (v := 0) hx hb d_X1_difference_7 (by decide) ?_
  refine vp_callSi (W.runV (b := o) (C := RX1) (As := [.int 0, .int 0]) (rest := []) ⟨hx, hb, hml, hown, hts⟩ (m_X1_discsOf l D o (q 1) cI [.int 0, .ref (q 1), .ref (q 2), .ref (q 3), .ref (q 4), .int md, .ref (q 6), .ref (q 7), .ref (q 8), .ref (q 9), .int ch, .ref (q 11), .int sc, .ref (q 13)] rfl ce 0 (by decide) 0) (cwV 2 hts (tw_V ml_X1_93 im_X1_discsOf se_X1_discsOf in_X1 kw_X1_discsOf) rfl rfl rfl (by decide +kernel) ⟨Nat.le_of_ble_eq_true rfl, Nat.le_of_ble_eq_true rfl⟩) ⟨fun a U g mk q => ⟨q.1, q.2.1, va_K.moved (u := U) (U := U.calling g mk a) (Vm.Alike.refl U.vm) q.2.2⟩, va_recv (q0 := 0) (ci := 1) hK hP rfl rfl, fun U hU hW => ⟨rfl, by rw [hU]; exact hP2, va_K.moved hW.alike hK⟩⟩ rfl rfl hl.1 rfl (lv_room (Nat.le_of_ble_eq_true rfl)) d_X1_difference_8 ⟨Nat.zero_le _, Nat.zero_le _⟩) (fun r h9 => ?_)
  subst h9
  refine lv_aload_n hx hb d_X1_difference_11 rfl (lv_at hl 0 rfl) ?_
  refine lv_iconst (v := 0) hx hb d_X1_difference_12 (by decide) ?_
  refine lv_iconst (v := 1) hx hb d_X1_difference_13 (by decide) ?_
  refine vp_callSi (W.runV (b := o) (C := RX1) (As := [.int 0, .int 1]) (rest := [.int (nI (td_dc (td_lv ce 0) 0))]) ⟨hx, hb, hml, hown, hts⟩ (m_X1_discsOf l D o (q 1) cI [.int 0, .ref (q 1), .ref (q 2), .ref (q 3), .ref (q 4), .int md, .ref (q 6), .ref (q 7), .ref (q 8), .ref (q 9), .int ch, .ref (q 11), .int sc, .ref (q 13)] rfl ce 0 (by decide) 1) (cwV 2 hts (tw_V ml_X1_93 im_X1_discsOf se_X1_discsOf in_X1 kw_X1_discsOf) rfl rfl rfl (by decide +kernel) ⟨Nat.le_of_ble_eq_true rfl, Nat.le_of_ble_eq_true rfl⟩) ⟨fun a U g mk q => ⟨q.1, q.2.1, va_K.moved (u := U) (U := U.calling g mk a) (Vm.Alike.refl U.vm) q.2.2⟩, va_recv (q0 := 0) (ci := 1) hK hP rfl rfl, fun U hU hW => ⟨rfl, by rw [hU]; exact hP2, va_K.moved hW.alike hK⟩⟩ rfl rfl hl.1 rfl (lv_room (Nat.le_of_ble_eq_true rfl)) d_X1_difference_14 ⟨Nat.zero_le _, Nat.zero_le _⟩) (fun r h9 => ?_)
  subst h9
  refine lv_isub hx hb d_X1_difference_17 ?_
  exact W.iret (v := ((nI (td_dc (td_lv ce 0) 0)) - (nI (td_dc (td_lv ce 0) 1)))) hx hb hr (fun t ht hW => ⟨⟨_, (), rfl, rfl, by rw [ht]; exact hP, va_K.moved hW.alike hK, hD⟩, hS.F ht⟩) hS.2.2 d_X1_difference_18
set_option maxHeartbeats 4000000 in
set_option maxRecDepth 100000 in
theorem m_X1_over (l : Launch) (D : va_G) (sz : Nat) (o : Nat) (q : Nat → Nat) (th md ch sc : Int32) (cI : ClassId) (ce mv : Nat → Int32) : Met l y_X1_over (k_X1_over :: tw) ({ frames := 5, cells := 0, slots := 0, locals := 124 }) (va_Pc [.ref o] (fun U => U.heap.size = sz ∧ va_P D tdC [(o, .inr (1, [.int th, .ref (q 1), .ref (q 2), .ref (q 3), .ref (q 4), .int md, .ref (q 6), .ref (q 7), .ref (q 8), .ref (q 9), .int ch, .ref (q 11), .int sc, .ref (q 13)])), ((q 1), .inl (cI, 1216, .inl ce)), ((q 2), .inl (cI, 19, .inl mv))] U.heap ∧ va_K D tdC [(cI, .int)] U ∧ va_D (fun _ => True) [(o, .inr (1, [.int th, .ref (q 1), .ref (q 2), .ref (q 3), .ref (q 4), .int md, .ref (q 6), .ref (q 7), .ref (q 8), .ref (q 9), .int ch, .ref (q 11), .int sc, .ref (q 13)])), ((q 1), .inl (cI, 1216, .inl ce)), ((q 2), .inl (cI, 19, .inl mv))])) (va_Qi (fun (r : Int32) (_ : Unit) => ((td_mv (td_lv ce 0) 0 = 0 ∧ td_mv (td_lv ce 0) 1 = 0) ∧ r = 1) ∨ (¬ (td_mv (td_lv ce 0) 0 = 0 ∧ td_mv (td_lv ce 0) 1 = 0) ∧ r = 0)) (fun (_ : Unit) t => va_P D tdC [(o, .inr (1, [.int 0, .ref (q 1), .ref (q 2), .ref (q 3), .ref (q 4), .int md, .ref (q 6), .ref (q 7), .ref (q 8), .ref (q 9), .int ch, .ref (q 11), .int sc, .ref (q 13)])), ((q 1), .inl (cI, 1216, .inl ce)), ((q 2), .inl (cI, 19, .inl mv))] t.heap ∧ va_K D tdC [(cI, .int)] t ∧ va_D (va_A [(o, .inr (1, [.int th, .ref (q 1), .ref (q 2), .ref (q 3), .ref (q 4), .int md, .ref (q 6), .ref (q 7), .ref (q 8), .ref (q 9), .int ch, .ref (q 11), .int sc, .ref (q 13)])), ((q 1), .inl (cI, 1216, .inl ce)), ((q 2), .inl (cI, 19, .inl mv))] sz) [(o, .inr (1, [.int 0, .ref (q 1), .ref (q 2), .ref (q 3), .ref (q 4), .int md, .ref (q 6), .ref (q 7), .ref (q 8), .ref (q 9), .int ch, .ref (q 11), .int sc, .ref (q 13)])), ((q 1), .inl (cI, 1216, .inl ce)), ((q 2), .inl (cI, 19, .inl mv))]) (va_A [(o, .inr (1, [.int th, .ref (q 1), .ref (q 2), .ref (q 3), .ref (q 4), .int md, .ref (q 6), .ref (q 7), .ref (q 8), .ref (q 9), .int ch, .ref (q 11), .int sc, .ref (q 13)])), ((q 1), .inl (cI, 1216, .inl ce)), ((q 2), .inl (cI, 19, .inl mv))] sz)) 0 0 (va_A [(o, .inr (1, [.int th, .ref (q 1), .ref (q 2), .ref (q 3), .ref (q 4), .int md, .ref (q 6), .ref (q 7), .ref (q 8), .ref (q 9), .int ch, .ref (q 11), .int sc, .ref (q 13)])), ((q 1), .inl (cI, 1216, .inl ce)), ((q 2), .inl (cI, 19, .inl mv))] sz) := by
  refine Met.ofW (cc := c_X1_over) (maxL := 1) (ret := (some .boolean)) (by decide) rfl ?_
  intro p e s m args below meth c s₁ B hml hv
  obtain ⟨rfl, hsz, hP, hK, hD0⟩ := hv
  have hx := B.exec
  have hb := B.bytes
  have hr := B.returns
  have hts : ∀ w ∈ tw, w.before _ s = true := fun w h => atoms_spec (ws := k_X1_over :: tw) B.pre w (List.mem_cons_of_mem _ h)
  have hown : s.vm.findClass RX1 = some m.cls := findClass_of_methodNamed B.named
  have hlocks := B.notSynchronized
  subst hsz
  have hD := hD0.self (sz := s.heap.size)
  generalize hAe : va_A [(o, .inr (1, [.int th, .ref (q 1), .ref (q 2), .ref (q 3), .ref (q 4), .int md, .ref (q 6), .ref (q 7), .ref (q 8), .ref (q 9), .int ch, .ref (q 11), .int sc, .ref (q 13)])), ((q 1), .inl (cI, 1216, .inl ce)), ((q 2), .inl (cI, 19, .inl mv))] s.heap.size = A at hD ⊢
  have hA : ∀ q : Nat, s.heap.size ≤ q → A q := fun q h => by rw [← hAe]; exact Or.inr h
  have hS : va_S A s.heap s.heap [] := va_S.rf
  have hP : va_P D tdC [(o, .inr (1, [.int th, .ref (q 1), .ref (q 2), .ref (q 3), .ref (q 4), .int md, .ref (q 6), .ref (q 7), .ref (q 8), .ref (q 9), .int ch, .ref (q 11), .int sc, .ref (q 13)])), ((q 1), .inl (cI, 1216, .inl ce)), ((q 2), .inl (cI, 19, .inl mv))] s.heap := hP
  have hl := lv_entry ([.ref o]) (n := 1) (Nat.le_of_ble_eq_true rfl)
  rw [lg_entry_eq]
  generalize (lg_sl ([.ref o]) ++ List.replicate (1 - (lg_sl ([.ref o])).length) Slot.unset).toArray = ls at hl ⊢
  have hl : lv_has ls 1 [(0, .ref o)] := hl
  refine lv_aload_n hx hb d_X1_over_0 rfl (lv_at hl 0 rfl) ?_
  refine lv_iconst (v := 0) hx hb d_X1_over_1 (by decide) ?_
  refine va_put (D := D) (ci := 1) (v := .int 0) (ty := .int) (C := RX1) (T := TX1) (N := 14) hx hb hts usX1 tyX1 tyX1_ok nmX1 hown hK hP hD hS 0 rfl rfl 0 (by decide) (hts _ fl_X1_45) (fun _ h9 => h9) rfl (by decide +kernel) rfl rfl (Nat.le_of_ble_eq_true rfl) d_X1_over_2 (fun H locs hP hD hS => ?_)
  have hP : va_P D tdC [(o, .inr (1, [.int 0, .ref (q 1), .ref (q 2), .ref (q 3), .ref (q 4), .int md, .ref (q 6), .ref (q 7), .ref (q 8), .ref (q 9), .int ch, .ref (q 11), .int sc, .ref (q 13)])), ((q 1), .inl (cI, 1216, .inl ce)), ((q 2), .inl (cI, 19, .inl mv))] H := hP
  have hD : va_D A [(o, .inr (1, [.int 0, .ref (q 1), .ref (q 2), .ref (q 3), .ref (q 4), .int md, .ref (q 6), .ref (q 7), .ref (q 8), .ref (q 9), .int ch, .ref (q 11), .int sc, .ref (q 13)])), ((q 1), .inl (cI, 1216, .inl ce)), ((q 2), .inl (cI, 19, .inl mv))] := hD
  have hP2 := hP.sub (ws' := [(o, .inr (1, [.int 0, .ref (q 1), .ref (q 2), .ref (q 3), .ref (q 4), .int md, .ref (q 6), .ref (q 7), .ref (q 8), .ref (q 9), .int ch, .ref (q 11), .int sc, .ref (q 13)])), ((q 1), .inl (cI, 1216, .inl ce))]) [0, 1] rfl
  refine lv_aload_n hx hb d_X1_over_5 rfl (lv_at hl 0 rfl) ?_
  refine lv_iconst (v := 0) hx hb d_X1_over_6 (by decide) ?_
  refine vp_callSi (W.runV (b := o) (C := RX1) (As := [.int 0]) (rest := []) ⟨hx, hb, hml, hown, hts⟩ (m_X1_isOver l D o (q 1) cI [.int 0, .ref (q 1), .ref (q 2), .ref (q 3), .ref (q 4), .int md, .ref (q 6), .ref (q 7), .ref (q 8), .ref (q 9), .int ch, .ref (q 11), .int sc, .ref (q 13)] rfl ce 0 (by decide)) (cwV 1 hts (tw_V ml_X1_79 im_X1_isOver se_X1_isOver in_X1 kw_X1_isOver) rfl rfl rfl (by decide +kernel) ⟨Nat.le_of_ble_eq_true rfl, Nat.le_of_ble_eq_true rfl⟩) ⟨fun a U g mk q => ⟨q.1, q.2.1, va_K.moved (u := U) (U := U.calling g mk a) (Vm.Alike.refl U.vm) q.2.2⟩, va_recv (q0 := 0) (ci := 1) hK hP rfl rfl, fun U hU hW => ⟨rfl, by rw [hU]; exact hP2, va_K.moved hW.alike hK⟩⟩ rfl rfl hl.1 rfl (lv_room (Nat.le_of_ble_eq_true rfl)) d_X1_over_7 ⟨Nat.zero_le _, Nat.zero_le _⟩) (fun r hq => ?_)
  rcases id hq with ⟨_, e1⟩ | ⟨_, e1⟩
  · subst e1
    exact W.zret (v := _) hx hb hr (by decide) (fun t ht hW => ⟨⟨_, (), rfl, hq, by rw [ht]; exact hP, va_K.moved hW.alike hK, hD⟩, hS.F ht⟩) hS.2.2 d_X1_over_10
  · subst e1
    exact W.zret (v := _) hx hb hr (by decide) (fun t ht hW => ⟨⟨_, (), rfl, hq, by rw [ht]; exact hP, va_K.moved hW.alike hK, hD⟩, hS.F ht⟩) hS.2.2 d_X1_over_10
set_option maxHeartbeats 4000000 in
set_option maxRecDepth 100000 in
theorem m_X1_turns (l : Launch) (D : va_G) (sz : Nat) (o : Nat) (q : Nat → Nat) (th md ch sc : Int32) (cI : ClassId) (ce mv : Nat → Int32) (q0 : Int32) : Met l y_X1_turns (k_X1_turns :: tw) ({ frames := 3, cells := 0, slots := 0, locals := 79 }) (va_Pc [.ref o, .int q0] (fun U => U.heap.size = sz ∧ va_P D tdC [(o, .inr (1, [.int th, .ref (q 1), .ref (q 2), .ref (q 3), .ref (q 4), .int md, .ref (q 6), .ref (q 7), .ref (q 8), .ref (q 9), .int ch, .ref (q 11), .int sc, .ref (q 13)])), ((q 1), .inl (cI, 1216, .inl ce)), ((q 2), .inl (cI, 19, .inl mv))] U.heap ∧ va_K D tdC [(cI, .int)] U ∧ va_D (fun _ => True) [(o, .inr (1, [.int th, .ref (q 1), .ref (q 2), .ref (q 3), .ref (q 4), .int md, .ref (q 6), .ref (q 7), .ref (q 8), .ref (q 9), .int ch, .ref (q 11), .int sc, .ref (q 13)])), ((q 1), .inl (cI, 1216, .inl ce)), ((q 2), .inl (cI, 19, .inl mv))])) (va_Ql (fun (r : Int64) (_ : Unit) => (td_bad q0 63 = 0 → ∃ s0 : Nat, s0 < 64 ∧ q0 = nI s0 ∧ r = td_fl (td_lv ce 0) (mv 0) s0)) (fun (_ : Unit) t => va_P D tdC [(o, .inr (1, [.int (td_bad q0 63), .ref (q 1), .ref (q 2), .ref (q 3), .ref (q 4), .int md, .ref (q 6), .ref (q 7), .ref (q 8), .ref (q 9), .int ch, .ref (q 11), .int sc, .ref (q 13)])), ((q 1), .inl (cI, 1216, .inl ce)), ((q 2), .inl (cI, 19, .inl mv))] t.heap ∧ va_K D tdC [(cI, .int)] t ∧ va_D (va_A [(o, .inr (1, [.int th, .ref (q 1), .ref (q 2), .ref (q 3), .ref (q 4), .int md, .ref (q 6), .ref (q 7), .ref (q 8), .ref (q 9), .int ch, .ref (q 11), .int sc, .ref (q 13)])), ((q 1), .inl (cI, 1216, .inl ce)), ((q 2), .inl (cI, 19, .inl mv))] sz) [(o, .inr (1, [.int (td_bad q0 63), .ref (q 1), .ref (q 2), .ref (q 3), .ref (q 4), .int md, .ref (q 6), .ref (q 7), .ref (q 8), .ref (q 9), .int ch, .ref (q 11), .int sc, .ref (q 13)])), ((q 1), .inl (cI, 1216, .inl ce)), ((q 2), .inl (cI, 19, .inl mv))]) (va_A [(o, .inr (1, [.int th, .ref (q 1), .ref (q 2), .ref (q 3), .ref (q 4), .int md, .ref (q 6), .ref (q 7), .ref (q 8), .ref (q 9), .int ch, .ref (q 11), .int sc, .ref (q 13)])), ((q 1), .inl (cI, 1216, .inl ce)), ((q 2), .inl (cI, 19, .inl mv))] sz)) 0 0 (va_A [(o, .inr (1, [.int th, .ref (q 1), .ref (q 2), .ref (q 3), .ref (q 4), .int md, .ref (q 6), .ref (q 7), .ref (q 8), .ref (q 9), .int ch, .ref (q 11), .int sc, .ref (q 13)])), ((q 1), .inl (cI, 1216, .inl ce)), ((q 2), .inl (cI, 19, .inl mv))] sz) := by
  refine Met.ofW (cc := c_X1_turns) (maxL := 2) (ret := (some .long)) (by decide) rfl ?_
  intro p e s m args below meth c s₁ B hml hv
  obtain ⟨rfl, hsz, hP, hK, hD0⟩ := hv
  have hx := B.exec
  have hb := B.bytes
  have hr := B.returns
  have hts : ∀ w ∈ tw, w.before _ s = true := fun w h => atoms_spec (ws := k_X1_turns :: tw) B.pre w (List.mem_cons_of_mem _ h)
  have hown : s.vm.findClass RX1 = some m.cls := findClass_of_methodNamed B.named
  have hlocks := B.notSynchronized
  subst hsz
  have hD := hD0.self (sz := s.heap.size)
  generalize hAe : va_A [(o, .inr (1, [.int th, .ref (q 1), .ref (q 2), .ref (q 3), .ref (q 4), .int md, .ref (q 6), .ref (q 7), .ref (q 8), .ref (q 9), .int ch, .ref (q 11), .int sc, .ref (q 13)])), ((q 1), .inl (cI, 1216, .inl ce)), ((q 2), .inl (cI, 19, .inl mv))] s.heap.size = A at hD ⊢
  have hA : ∀ q : Nat, s.heap.size ≤ q → A q := fun q h => by rw [← hAe]; exact Or.inr h
  have hS : va_S A s.heap s.heap [] := va_S.rf
  have hP : va_P D tdC [(o, .inr (1, [.int th, .ref (q 1), .ref (q 2), .ref (q 3), .ref (q 4), .int md, .ref (q 6), .ref (q 7), .ref (q 8), .ref (q 9), .int ch, .ref (q 11), .int sc, .ref (q 13)])), ((q 1), .inl (cI, 1216, .inl ce)), ((q 2), .inl (cI, 19, .inl mv))] s.heap := hP
  have hl := lv_entry ([.ref o, .int q0]) (n := 2) (Nat.le_of_ble_eq_true rfl)
  rw [lg_entry_eq]
  generalize (lg_sl ([.ref o, .int q0]) ++ List.replicate (2 - (lg_sl ([.ref o, .int q0])).length) Slot.unset).toArray = ls at hl ⊢
  have hl : lv_has ls 2 [(0, .ref o), (1, .int q0)] := hl
  refine lv_aload_n hx hb d_X1_turns_0 rfl (lv_at hl 0 rfl) ?_
  refine td_joini 16 ls [.ref o] (fun x => x = td_bad q0 63) (fun x ex => ?_) (fun J => ?_)
  · subst ex
    refine va_put (D := D) (ci := 1) (v := .int (td_bad q0 63)) (ty := .int) (C := RX1) (T := TX1) (N := 14) hx hb hts usX1 tyX1 tyX1_ok nmX1 hown hK hP hD hS 0 rfl rfl 0 (by decide) (hts _ fl_X1_45) (fun _ h9 => h9) rfl (by decide +kernel) rfl rfl (Nat.le_of_ble_eq_true rfl) d_X1_turns_16 (fun H locs hP hD hS => ?_)
    have hP : va_P D tdC [(o, .inr (1, [.int (td_bad q0 63), .ref (q 1), .ref (q 2), .ref (q 3), .ref (q 4), .int md, .ref (q 6), .ref (q 7), .ref (q 8), .ref (q 9), .int ch, .ref (q 11), .int sc, .ref (q 13)])), ((q 1), .inl (cI, 1216, .inl ce)), ((q 2), .inl (cI, 19, .inl mv))] H := hP
    have hD : va_D A [(o, .inr (1, [.int (td_bad q0 63), .ref (q 1), .ref (q 2), .ref (q 3), .ref (q 4), .int md, .ref (q 6), .ref (q 7), .ref (q 8), .ref (q 9), .int ch, .ref (q 11), .int sc, .ref (q 13)])), ((q 1), .inl (cI, 1216, .inl ce)), ((q 2), .inl (cI, 19, .inl mv))] := hD
    refine td_joinl 42 ls [] (fun x => td_bad q0 63 = 0 → ∃ s0 : Nat, s0 < 64 ∧ q0 = nI s0 ∧ x = td_fl (td_lv ce 0) (mv 0) s0) (fun x ex => ?_) (fun J => ?_)
    · exact W.lret (v := x) hx hb hr (fun t ht hW => ⟨⟨_, (), rfl, ex, by rw [ht]; exact hP, va_K.moved hW.alike hK, hD⟩, hS.F ht⟩) hS.2.2 d_X1_turns_42
    · have hP2 := hP.sub (ws' := [(o, .inr (1, [.int (td_bad q0 63), .ref (q 1), .ref (q 2), .ref (q 3), .ref (q 4), .int md, .ref (q 6), .ref (q 7), .ref (q 8), .ref (q 9), .int ch, .ref (q 11), .int sc, .ref (q 13)])), ((q 1), .inl (cI, 1216, .inl ce))]) [0, 1] rfl
      refine lv_aload_n hx hb d_X1_turns_19 rfl (lv_at hl 0 rfl) ?_
      refine va_get (D := D) (ci := 1) (v := .int (td_bad q0 63)) (C := RX1) (T := TX1) (N := 14) hx hb hts usX1 hown hK hP 0 rfl rfl 0 (by decide) (hts _ fl_X1_45) (fun _ h9 => h9) rfl d_X1_turns_20 ?_
      refine lv_if_le (tgt := 30) hx hb d_X1_turns_23 (by decide) (fun h0 => ?_) (fun h0 => ?_)
      · have hb0 : ¬ (q0 < 0 ∨ 63 < q0) := fun z => by unfold td_bad at h0; rw [if_pos z] at h0; exact absurd h0 (by decide)
        obtain ⟨s0, hs0, es0⟩ := nI_of2 (n := 63) (M := 63) rfl (fun z => hb0 (Or.inl z)) (Int32.not_lt.mp (fun z => hb0 (Or.inr z)))
        subst es0
        have hl : lv_has ls 2 [(0, .ref o), (1, .int (nI s0))] := hl
        refine lv_aload_n hx hb d_X1_turns_30 rfl (lv_at hl 0 rfl) ?_
        refine lv_iconst (v := 0) hx hb d_X1_turns_31 (by decide) ?_
        refine lv_iload_n hx hb d_X1_turns_32 rfl (lv_at hl 1 rfl) ?_
        refine lv_aload_n hx hb d_X1_turns_33 rfl (lv_at hl 0 rfl) ?_
        refine va_get (D := D) (ci := 1) (v := .ref (q 2)) (C := RX1) (T := TX1) (N := 14) hx hb hts usX1 hown hK hP 0 rfl rfl 2 (by decide) (hts _ fl_X1_13) (fun _ h9 => h9) rfl d_X1_turns_34 ?_
        refine lv_iconst (v := 0) hx hb d_X1_turns_37 (by decide) ?_
        refine va_iald hx hb hK hP 2 0 rfl rfl (vp_in_nI (n := 0) (by decide) (by decide)) d_X1_turns_38 ?_
        refine td_i (y := (mv 0)) (rfl) ?_
        refine vp_callSl (W.runV (b := o) (C := RX1) (As := [.int 0, .int (nI s0), .int (mv 0)]) (rest := []) ⟨hx, hb, hml, hown, hts⟩ (m_X1_flipsAt l D o (q 1) cI [.int (td_bad (nI s0) 63), .ref (q 1), .ref (q 2), .ref (q 3), .ref (q 4), .int md, .ref (q 6), .ref (q 7), .ref (q 8), .ref (q 9), .int ch, .ref (q 11), .int sc, .ref (q 13)] rfl ce 0 (by decide) s0 (by omega) (mv 0)) (cwV 3 hts (tw_V ml_X1_71 im_X1_flipsAt se_X1_flipsAt in_X1 kw_X1_flipsAt) rfl rfl rfl (by decide +kernel) ⟨Nat.le_of_ble_eq_true rfl, Nat.le_of_ble_eq_true rfl⟩) ⟨fun a U g mk q => ⟨q.1, q.2.1, va_K.moved (u := U) (U := U.calling g mk a) (Vm.Alike.refl U.vm) q.2.2⟩, va_recv (q0 := 0) (ci := 1) hK hP rfl rfl, fun U hU hW => ⟨rfl, by rw [hU]; exact hP2, va_K.moved hW.alike hK⟩⟩ rfl rfl hl.1 rfl (lv_room (Nat.le_of_ble_eq_true rfl)) d_X1_turns_39 ⟨Nat.zero_le _, Nat.zero_le _⟩) (fun r h9 => ?_)
        subst h9
        exact J _ (fun _ => ⟨s0, by omega, rfl, rfl⟩)
      · refine lv_lconst (v := 0) hx hb d_X1_turns_26 (by decide) ?_
        refine lv_goto (tgt := 42) hx hb d_X1_turns_27 (by decide) ?_
        exact J _ (fun z => absurd (show td_bad q0 63 ≤ 0 by rw [z]; decide) h0)
  · refine lv_iload_n hx hb d_X1_turns_1 rfl (lv_at hl 1 rfl) ?_
    refine lv_if_lt (tgt := 11) hx hb d_X1_turns_2 (by decide) (fun h0 => ?_) (fun h0 => ?_)
    · refine lv_iconst (v := 1) hx hb d_X1_turns_11 (by decide) ?_
      refine lv_goto (tgt := 16) hx hb d_X1_turns_12 (by decide) ?_
      exact J _ (by unfold td_bad; rw [if_pos (Or.inl h0)])
    · refine lv_iload_n hx hb d_X1_turns_5 rfl (lv_at hl 1 rfl) ?_
      refine lv_bipush (v := 63) hx hb d_X1_turns_6 (by decide) ?_
      refine lv_icmp_le (tgt := 15) hx hb d_X1_turns_8 (by decide) (fun h1 => ?_) (fun h1 => ?_)
      · refine lv_iconst (v := 0) hx hb d_X1_turns_15 (by decide) ?_
        exact J _ (by unfold td_bad; rw [if_neg (fun z => z.elim h0 (fun z => absurd z (Int32.not_lt.mpr h1)))])
      · refine lv_iconst (v := 1) hx hb d_X1_turns_11 (by decide) ?_
        refine lv_goto (tgt := 16) hx hb d_X1_turns_12 (by decide) ?_
        exact J _ (by unfold td_bad; rw [if_pos (Or.inr (Int32.not_le.mp h1))])
set_option maxHeartbeats 4000000 in
set_option maxRecDepth 100000 in
theorem m_X1_moves (l : Launch) (D : va_G) (sz : Nat) (o : Nat) (q : Nat → Nat) (th md ch sc : Int32) (cI : ClassId) (ce mv : Nat → Int32) : Met l y_X1_moves (k_X1_moves :: tw) ({ frames := 3, cells := 0, slots := 0, locals := 79 }) (va_Pc [.ref o] (fun U => U.heap.size = sz ∧ va_P D tdC [(o, .inr (1, [.int th, .ref (q 1), .ref (q 2), .ref (q 3), .ref (q 4), .int md, .ref (q 6), .ref (q 7), .ref (q 8), .ref (q 9), .int ch, .ref (q 11), .int sc, .ref (q 13)])), ((q 1), .inl (cI, 1216, .inl ce)), ((q 2), .inl (cI, 19, .inl mv))] U.heap ∧ va_K D tdC [(cI, .int)] U ∧ va_D (fun _ => True) [(o, .inr (1, [.int th, .ref (q 1), .ref (q 2), .ref (q 3), .ref (q 4), .int md, .ref (q 6), .ref (q 7), .ref (q 8), .ref (q 9), .int ch, .ref (q 11), .int sc, .ref (q 13)])), ((q 1), .inl (cI, 1216, .inl ce)), ((q 2), .inl (cI, 19, .inl mv))])) (va_Ql (fun (r : Int64) (_ : Unit) => r = td_bs (fun i => decide (td_fl (td_lv ce 0) (mv 0) i ≠ 0)) 64) (fun (_ : Unit) t => va_P D tdC [(o, .inr (1, [.int 0, .ref (q 1), .ref (q 2), .ref (q 3), .ref (q 4), .int md, .ref (q 6), .ref (q 7), .ref (q 8), .ref (q 9), .int ch, .ref (q 11), .int sc, .ref (q 13)])), ((q 1), .inl (cI, 1216, .inl ce)), ((q 2), .inl (cI, 19, .inl mv))] t.heap ∧ va_K D tdC [(cI, .int)] t ∧ va_D (va_A [(o, .inr (1, [.int th, .ref (q 1), .ref (q 2), .ref (q 3), .ref (q 4), .int md, .ref (q 6), .ref (q 7), .ref (q 8), .ref (q 9), .int ch, .ref (q 11), .int sc, .ref (q 13)])), ((q 1), .inl (cI, 1216, .inl ce)), ((q 2), .inl (cI, 19, .inl mv))] sz) [(o, .inr (1, [.int 0, .ref (q 1), .ref (q 2), .ref (q 3), .ref (q 4), .int md, .ref (q 6), .ref (q 7), .ref (q 8), .ref (q 9), .int ch, .ref (q 11), .int sc, .ref (q 13)])), ((q 1), .inl (cI, 1216, .inl ce)), ((q 2), .inl (cI, 19, .inl mv))]) (va_A [(o, .inr (1, [.int th, .ref (q 1), .ref (q 2), .ref (q 3), .ref (q 4), .int md, .ref (q 6), .ref (q 7), .ref (q 8), .ref (q 9), .int ch, .ref (q 11), .int sc, .ref (q 13)])), ((q 1), .inl (cI, 1216, .inl ce)), ((q 2), .inl (cI, 19, .inl mv))] sz)) 0 0 (va_A [(o, .inr (1, [.int th, .ref (q 1), .ref (q 2), .ref (q 3), .ref (q 4), .int md, .ref (q 6), .ref (q 7), .ref (q 8), .ref (q 9), .int ch, .ref (q 11), .int sc, .ref (q 13)])), ((q 1), .inl (cI, 1216, .inl ce)), ((q 2), .inl (cI, 19, .inl mv))] sz) := by
  refine Met.ofW (cc := c_X1_moves) (maxL := 4) (ret := (some .long)) (by decide) rfl ?_
  intro p e s m args below meth c s₁ B hml hv
  obtain ⟨rfl, hsz, hP, hK, hD0⟩ := hv
  have hx := B.exec
  have hb := B.bytes
  have hr := B.returns
  have hts : ∀ w ∈ tw, w.before _ s = true := fun w h => atoms_spec (ws := k_X1_moves :: tw) B.pre w (List.mem_cons_of_mem _ h)
  have hown : s.vm.findClass RX1 = some m.cls := findClass_of_methodNamed B.named
  have hlocks := B.notSynchronized
  subst hsz
  have hD := hD0.self (sz := s.heap.size)
  generalize hAe : va_A [(o, .inr (1, [.int th, .ref (q 1), .ref (q 2), .ref (q 3), .ref (q 4), .int md, .ref (q 6), .ref (q 7), .ref (q 8), .ref (q 9), .int ch, .ref (q 11), .int sc, .ref (q 13)])), ((q 1), .inl (cI, 1216, .inl ce)), ((q 2), .inl (cI, 19, .inl mv))] s.heap.size = A at hD ⊢
  have hA : ∀ q : Nat, s.heap.size ≤ q → A q := fun q h => by rw [← hAe]; exact Or.inr h
  have hS : va_S A s.heap s.heap [] := va_S.rf
  have hP : va_P D tdC [(o, .inr (1, [.int th, .ref (q 1), .ref (q 2), .ref (q 3), .ref (q 4), .int md, .ref (q 6), .ref (q 7), .ref (q 8), .ref (q 9), .int ch, .ref (q 11), .int sc, .ref (q 13)])), ((q 1), .inl (cI, 1216, .inl ce)), ((q 2), .inl (cI, 19, .inl mv))] s.heap := hP
  have hl := lv_entry ([.ref o]) (n := 4) (Nat.le_of_ble_eq_true rfl)
  rw [lg_entry_eq]
  generalize (lg_sl ([.ref o]) ++ List.replicate (4 - (lg_sl ([.ref o])).length) Slot.unset).toArray = ls at hl ⊢
  have hl : lv_has ls 4 [(0, .ref o)] := hl
  refine lv_aload_n hx hb d_X1_moves_0 rfl (lv_at hl 0 rfl) ?_
  refine lv_iconst (v := 0) hx hb d_X1_moves_1 (by decide) ?_
  refine va_put (D := D) (ci := 1) (v := .int 0) (ty := .int) (C := RX1) (T := TX1) (N := 14) hx hb hts usX1 tyX1 tyX1_ok nmX1 hown hK hP hD hS 0 rfl rfl 0 (by decide) (hts _ fl_X1_45) (fun _ h9 => h9) rfl (by decide +kernel) rfl rfl (Nat.le_of_ble_eq_true rfl) d_X1_moves_2 (fun H locs hP hD hS => ?_)
  have hP : va_P D tdC [(o, .inr (1, [.int 0, .ref (q 1), .ref (q 2), .ref (q 3), .ref (q 4), .int md, .ref (q 6), .ref (q 7), .ref (q 8), .ref (q 9), .int ch, .ref (q 11), .int sc, .ref (q 13)])), ((q 1), .inl (cI, 1216, .inl ce)), ((q 2), .inl (cI, 19, .inl mv))] H := hP
  have hD : va_D A [(o, .inr (1, [.int 0, .ref (q 1), .ref (q 2), .ref (q 3), .ref (q 4), .int md, .ref (q 6), .ref (q 7), .ref (q 8), .ref (q 9), .int ch, .ref (q 11), .int sc, .ref (q 13)])), ((q 1), .inl (cI, 1216, .inl ce)), ((q 2), .inl (cI, 19, .inl mv))] := hD
  have hP2 := hP.sub (ws' := [(o, .inr (1, [.int 0, .ref (q 1), .ref (q 2), .ref (q 3), .ref (q 4), .int md, .ref (q 6), .ref (q 7), .ref (q 8), .ref (q 9), .int ch, .ref (q 11), .int sc, .ref (q 13)])), ((q 1), .inl (cI, 1216, .inl ce))]) [0, 1] rfl
  refine lv_lconst (v := 0) hx hb d_X1_moves_5 (by decide) ?_
  refine lv_lstore_n hx hb d_X1_moves_6 rfl hl (by decide) rfl (fun ls hl => ?_)
  have hl : lv_has ls 4 [(1, .long 0), (0, .ref o)] := hl
  refine lv_iconst (v := 0) hx hb d_X1_moves_7 (by decide) ?_
  refine lv_istore_n hx hb d_X1_moves_8 rfl hl (by decide) rfl (fun ls hl => ?_)
  have hl : lv_has ls 4 [(3, .int 0), (1, .long 0), (0, .ref o)] := hl
  have hl0 := lv_sub hl [2, 1, 0] rfl
  refine td_loop 9 [] (fun i : Nat => 64 - i) (fun i ls => i ≤ 64 ∧ lv_has ls 4 [(0, .ref o), (1, .long (td_bs (fun i => decide (td_fl (td_lv ce 0) (mv 0) i ≠ 0)) i)), (3, .int (nI i))]) (fun i ls hC ih => ?_) 0 ⟨Nat.zero_le _, hl0⟩
  clear hl hl0
  obtain ⟨hi, hl⟩ := hC
  have hl : lv_has ls 4 [(0, .ref o), (1, .long (td_bs (fun i => decide (td_fl (td_lv ce 0) (mv 0) i ≠ 0)) i)), (3, .int (nI i))] := hl
  refine lv_iload_n hx hb d_X1_moves_9 rfl (lv_at hl 2 rfl) ?_
  refine lv_bipush (v := 64) hx hb d_X1_moves_10 (by decide) ?_
  refine lv_icmp_ge (tgt := 48) hx hb d_X1_moves_12 (by decide) (fun h1 => ?_) (fun h1 => ?_)
  · have h64 : i = 64 := Nat.le_antisymm hi ((nI_leI (a := 64) (b := i) (by decide) (by omega)).mp h1)
    subst h64
    refine lv_lload_n hx hb d_X1_moves_48 rfl (lv_at hl 1 rfl) ?_
    exact W.lret (v := (td_bs (fun i => decide (td_fl (td_lv ce 0) (mv 0) i ≠ 0)) 64)) hx hb hr (fun t ht hW => ⟨⟨_, (), rfl, rfl, by rw [ht]; exact hP, va_K.moved hW.alike hK, hD⟩, hS.F ht⟩) hS.2.2 d_X1_moves_49
  · have h64 : i < 64 := Nat.lt_of_not_le (fun z => h1 ((nI_leI (a := 64) (b := i) (by decide) (by omega)).mpr z))
    have hcs := td_bs_s (fun i => decide (td_fl (td_lv ce 0) (mv 0) i ≠ 0)) i
    refine lv_aload_n hx hb d_X1_moves_15 rfl (lv_at hl 0 rfl) ?_
    refine lv_iconst (v := 0) hx hb d_X1_moves_16 (by decide) ?_
    refine lv_iload_n hx hb d_X1_moves_17 rfl (lv_at hl 2 rfl) ?_
    refine lv_aload_n hx hb d_X1_moves_18 rfl (lv_at hl 0 rfl) ?_
    refine va_get (D := D) (ci := 1) (v := .ref (q 2)) (C := RX1) (T := TX1) (N := 14) hx hb hts usX1 hown hK hP 0 rfl rfl 2 (by decide) (hts _ fl_X1_13) (fun _ h9 => h9) rfl d_X1_moves_19 ?_
    refine lv_iconst (v := 0) hx hb d_X1_moves_22 (by decide) ?_
    refine va_iald hx hb hK hP 2 0 rfl rfl (vp_in_nI (n := 0) (by decide) (by decide)) d_X1_moves_23 ?_
    refine td_i (y := (mv 0)) (rfl) ?_
    refine vp_callSl (W.runV (b := o) (C := RX1) (As := [.int 0, .int (nI i), .int (mv 0)]) (rest := []) ⟨hx, hb, hml, hown, hts⟩ (m_X1_flipsAt l D o (q 1) cI [.int 0, .ref (q 1), .ref (q 2), .ref (q 3), .ref (q 4), .int md, .ref (q 6), .ref (q 7), .ref (q 8), .ref (q 9), .int ch, .ref (q 11), .int sc, .ref (q 13)] rfl ce 0 (by decide) i h64 (mv 0)) (cwV 3 hts (tw_V ml_X1_71 im_X1_flipsAt se_X1_flipsAt in_X1 kw_X1_flipsAt) rfl rfl rfl (by decide +kernel) ⟨Nat.le_of_ble_eq_true rfl, Nat.le_of_ble_eq_true rfl⟩) ⟨fun a U g mk q => ⟨q.1, q.2.1, va_K.moved (u := U) (U := U.calling g mk a) (Vm.Alike.refl U.vm) q.2.2⟩, va_recv (q0 := 0) (ci := 1) hK hP rfl rfl, fun U hU hW => ⟨rfl, by rw [hU]; exact hP2, va_K.moved hW.alike hK⟩⟩ rfl rfl hl.1 rfl (lv_room (Nat.le_of_ble_eq_true rfl)) d_X1_moves_24 ⟨Nat.zero_le _, Nat.zero_le _⟩) (fun r h9 => ?_)
    subst h9
    refine lv_lconst (v := 0) hx hb d_X1_moves_27 (by decide) ?_
    refine td_joinl 41 ls [] (fun x => x = td_bs (fun i => decide (td_fl (td_lv ce 0) (mv 0) i ≠ 0)) (i + 1)) (fun x ex => ?_) (fun J => ?_)
    · subst ex
      refine lv_lstore_n hx hb d_X1_moves_41 rfl hl (by decide) rfl (fun ls hl => ?_)
      have hl : lv_has ls 4 [(1, .long (td_bs (fun i => decide (td_fl (td_lv ce 0) (mv 0) i ≠ 0)) (i + 1))), (0, .ref o), (3, .int (nI i))] := hl
      refine lv_iinc (k := 2) (v := (nI (i + 1))) hx hb d_X1_moves_42 hl rfl ((nI_succ i).symm) (by decide) rfl (fun ls hl => ?_)
      have hl : lv_has ls 4 [(3, .int (nI (i + 1))), (1, .long (td_bs (fun i => decide (td_fl (td_lv ce 0) (mv 0) i ≠ 0)) (i + 1))), (0, .ref o)] := hl
      refine lv_goto (tgt := 9) hx hb d_X1_moves_45 (by decide) ?_
      have hl1 := lv_sub hl [2, 1, 0] rfl
      exact ih (i + 1) _ (by omega) ⟨h64, hl1⟩
    · refine td_leq (tgt := 40) hx hb d_X1_moves_28 d_X1_moves_29 (by decide) (fun h2 => ?_) (fun h2 => ?_)
      · refine lv_lload_n hx hb d_X1_moves_40 rfl (lv_at hl 1 rfl) ?_
        exact J _ (by rw [hcs, if_neg (fun z => (of_decide_eq_true z) h2)])
      · refine lv_lload_n hx hb d_X1_moves_32 rfl (lv_at hl 1 rfl) ?_
        refine lv_lconst (v := 1) hx hb d_X1_moves_33 (by decide) ?_
        refine lv_iload_n hx hb d_X1_moves_34 rfl (lv_at hl 2 rfl) ?_
        refine lv_lshl (v := (td_lshl 1 (nI i))) hx hb d_X1_moves_35 rfl ?_
        refine lv_lor hx hb d_X1_moves_36 ?_
        refine lv_goto (tgt := 41) hx hb d_X1_moves_37 (by decide) ?_
        exact J _ (by rw [hcs, if_pos (decide_eq_true h2)])
set_option maxHeartbeats 4000000 in
set_option maxRecDepth 100000 in
theorem m_X1_discs (l : Launch) (D : va_G) (sz : Nat) (o : Nat) (q : Nat → Nat) (th md ch sc : Int32) (cI : ClassId) (ce mv : Nat → Int32) (q0 : Int32) : Met l y_X1_discs (k_X1_discs :: tw) ({ frames := 0, cells := 0, slots := 0, locals := 0 }) (va_Pc [.ref o, .int q0] (fun U => U.heap.size = sz ∧ va_P D tdC [(o, .inr (1, [.int th, .ref (q 1), .ref (q 2), .ref (q 3), .ref (q 4), .int md, .ref (q 6), .ref (q 7), .ref (q 8), .ref (q 9), .int ch, .ref (q 11), .int sc, .ref (q 13)])), ((q 1), .inl (cI, 1216, .inl ce)), ((q 2), .inl (cI, 19, .inl mv))] U.heap ∧ va_K D tdC [(cI, .int)] U ∧ va_D (fun _ => True) [(o, .inr (1, [.int th, .ref (q 1), .ref (q 2), .ref (q 3), .ref (q 4), .int md, .ref (q 6), .ref (q 7), .ref (q 8), .ref (q 9), .int ch, .ref (q 11), .int sc, .ref (q 13)])), ((q 1), .inl (cI, 1216, .inl ce)), ((q 2), .inl (cI, 19, .inl mv))])) (va_Ql (fun (r : Int64) (_ : Unit) => td_bad q0 1 = 0 → r = td_bs (fun i => decide (td_lv ce 0 i = q0 + 1)) 64) (fun (_ : Unit) t => va_P D tdC [(o, .inr (1, [.int (td_bad q0 1), .ref (q 1), .ref (q 2), .ref (q 3), .ref (q 4), .int md, .ref (q 6), .ref (q 7), .ref (q 8), .ref (q 9), .int ch, .ref (q 11), .int sc, .ref (q 13)])), ((q 1), .inl (cI, 1216, .inl ce)), ((q 2), .inl (cI, 19, .inl mv))] t.heap ∧ va_K D tdC [(cI, .int)] t ∧ va_D (va_A [(o, .inr (1, [.int th, .ref (q 1), .ref (q 2), .ref (q 3), .ref (q 4), .int md, .ref (q 6), .ref (q 7), .ref (q 8), .ref (q 9), .int ch, .ref (q 11), .int sc, .ref (q 13)])), ((q 1), .inl (cI, 1216, .inl ce)), ((q 2), .inl (cI, 19, .inl mv))] sz) [(o, .inr (1, [.int (td_bad q0 1), .ref (q 1), .ref (q 2), .ref (q 3), .ref (q 4), .int md, .ref (q 6), .ref (q 7), .ref (q 8), .ref (q 9), .int ch, .ref (q 11), .int sc, .ref (q 13)])), ((q 1), .inl (cI, 1216, .inl ce)), ((q 2), .inl (cI, 19, .inl mv))]) (va_A [(o, .inr (1, [.int th, .ref (q 1), .ref (q 2), .ref (q 3), .ref (q 4), .int md, .ref (q 6), .ref (q 7), .ref (q 8), .ref (q 9), .int ch, .ref (q 11), .int sc, .ref (q 13)])), ((q 1), .inl (cI, 1216, .inl ce)), ((q 2), .inl (cI, 19, .inl mv))] sz)) 0 0 (va_A [(o, .inr (1, [.int th, .ref (q 1), .ref (q 2), .ref (q 3), .ref (q 4), .int md, .ref (q 6), .ref (q 7), .ref (q 8), .ref (q 9), .int ch, .ref (q 11), .int sc, .ref (q 13)])), ((q 1), .inl (cI, 1216, .inl ce)), ((q 2), .inl (cI, 19, .inl mv))] sz) := by
  refine Met.ofW (cc := c_X1_discs) (maxL := 5) (ret := (some .long)) (by decide) rfl ?_
  intro p e s m args below meth c s₁ B hml hv
  obtain ⟨rfl, hsz, hP, hK, hD0⟩ := hv
  have hx := B.exec
  have hb := B.bytes
  have hr := B.returns
  have hts : ∀ w ∈ tw, w.before _ s = true := fun w h => atoms_spec (ws := k_X1_discs :: tw) B.pre w (List.mem_cons_of_mem _ h)
  have hown : s.vm.findClass RX1 = some m.cls := findClass_of_methodNamed B.named
  have hlocks := B.notSynchronized
  subst hsz
  have hD := hD0.self (sz := s.heap.size)
  generalize hAe : va_A [(o, .inr (1, [.int th, .ref (q 1), .ref (q 2), .ref (q 3), .ref (q 4), .int md, .ref (q 6), .ref (q 7), .ref (q 8), .ref (q 9), .int ch, .ref (q 11), .int sc, .ref (q 13)])), ((q 1), .inl (cI, 1216, .inl ce)), ((q 2), .inl (cI, 19, .inl mv))] s.heap.size = A at hD ⊢
  have hA : ∀ q : Nat, s.heap.size ≤ q → A q := fun q h => by rw [← hAe]; exact Or.inr h
  have hS : va_S A s.heap s.heap [] := va_S.rf
  have hP : va_P D tdC [(o, .inr (1, [.int th, .ref (q 1), .ref (q 2), .ref (q 3), .ref (q 4), .int md, .ref (q 6), .ref (q 7), .ref (q 8), .ref (q 9), .int ch, .ref (q 11), .int sc, .ref (q 13)])), ((q 1), .inl (cI, 1216, .inl ce)), ((q 2), .inl (cI, 19, .inl mv))] s.heap := hP
  have hl := lv_entry ([.ref o, .int q0]) (n := 5) (Nat.le_of_ble_eq_true rfl)
  rw [lg_entry_eq]
  generalize (lg_sl ([.ref o, .int q0]) ++ List.replicate (5 - (lg_sl ([.ref o, .int q0])).length) Slot.unset).toArray = ls at hl ⊢
  have hl : lv_has ls 5 [(0, .ref o), (1, .int q0)] := hl
  refine lv_aload_n hx hb d_X1_discs_0 rfl (lv_at hl 0 rfl) ?_
  refine td_joini 15 ls [.ref o] (fun x => x = td_bad q0 1) (fun x ex => ?_) (fun J => ?_)
  · subst ex
    refine va_put (D := D) (ci := 1) (v := .int (td_bad q0 1)) (ty := .int) (C := RX1) (T := TX1) (N := 14) hx hb hts usX1 tyX1 tyX1_ok nmX1 hown hK hP hD hS 0 rfl rfl 0 (by decide) (hts _ fl_X1_45) (fun _ h9 => h9) rfl (by decide +kernel) rfl rfl (Nat.le_of_ble_eq_true rfl) d_X1_discs_15 (fun H locs hP hD hS => ?_)
    have hP : va_P D tdC [(o, .inr (1, [.int (td_bad q0 1), .ref (q 1), .ref (q 2), .ref (q 3), .ref (q 4), .int md, .ref (q 6), .ref (q 7), .ref (q 8), .ref (q 9), .int ch, .ref (q 11), .int sc, .ref (q 13)])), ((q 1), .inl (cI, 1216, .inl ce)), ((q 2), .inl (cI, 19, .inl mv))] H := hP
    have hD : va_D A [(o, .inr (1, [.int (td_bad q0 1), .ref (q 1), .ref (q 2), .ref (q 3), .ref (q 4), .int md, .ref (q 6), .ref (q 7), .ref (q 8), .ref (q 9), .int ch, .ref (q 11), .int sc, .ref (q 13)])), ((q 1), .inl (cI, 1216, .inl ce)), ((q 2), .inl (cI, 19, .inl mv))] := hD
    refine lv_lconst (v := 0) hx hb d_X1_discs_18 (by decide) ?_
    refine lv_lstore_n hx hb d_X1_discs_19 rfl hl (by decide) rfl (fun ls hl => ?_)
    have hl : lv_has ls 5 [(2, .long 0), (0, .ref o), (1, .int q0)] := hl
    refine lv_iconst (v := 0) hx hb d_X1_discs_20 (by decide) ?_
    refine lv_istore hx hb d_X1_discs_21 hl (by decide) rfl (fun ls hl => ?_)
    have hl : lv_has ls 5 [(4, .int 0), (2, .long 0), (0, .ref o), (1, .int q0)] := hl
    have hl0 := lv_sub hl [2, 3, 1, 0] rfl
    refine td_loop 23 [] (fun i : Nat => 64 - i) (fun i ls => i ≤ 64 ∧ lv_has ls 5 [(0, .ref o), (1, .int q0), (2, .long (td_bs (fun i => decide (td_lv ce 0 i = q0 + 1)) i)), (4, .int (nI i))]) (fun i ls hC ih => ?_) 0 ⟨Nat.zero_le _, hl0⟩
    clear hl hl0
    obtain ⟨hi, hl⟩ := hC
    have hl : lv_has ls 5 [(0, .ref o), (1, .int q0), (2, .long (td_bs (fun i => decide (td_lv ce 0 i = q0 + 1)) i)), (4, .int (nI i))] := hl
    refine lv_iload hx hb d_X1_discs_23 (lv_at hl 3 rfl) ?_
    refine lv_bipush (v := 64) hx hb d_X1_discs_25 (by decide) ?_
    refine lv_icmp_ge (tgt := 67) hx hb d_X1_discs_27 (by decide) (fun h1 => ?_) (fun h1 => ?_)
    · have h64 : i = 64 := Nat.le_antisymm hi ((nI_leI (a := 64) (b := i) (by decide) (by omega)).mp h1)
      subst h64
      refine lv_lload_n hx hb d_X1_discs_67 rfl (lv_at hl 2 rfl) ?_
      exact W.lret (v := (td_bs (fun i => decide (td_lv ce 0 i = q0 + 1)) 64)) hx hb hr (fun t ht hW => ⟨⟨_, (), rfl, fun _ => rfl, by rw [ht]; exact hP, va_K.moved hW.alike hK, hD⟩, hS.F ht⟩) hS.2.2 d_X1_discs_68
    · have h64 : i < 64 := Nat.lt_of_not_le (fun z => h1 ((nI_leI (a := 64) (b := i) (by decide) (by omega)).mpr z))
      have hcs := td_bs_s (fun i => decide (td_lv ce 0 i = q0 + 1)) i
      refine lv_aload_n hx hb d_X1_discs_30 rfl (lv_at hl 0 rfl) ?_
      refine va_get (D := D) (ci := 1) (v := .int (td_bad q0 1)) (C := RX1) (T := TX1) (N := 14) hx hb hts usX1 hown hK hP 0 rfl rfl 0 (by decide) (hts _ fl_X1_45) (fun _ h9 => h9) rfl d_X1_discs_31 ?_
      refine lv_if_ne (tgt := 67) hx hb d_X1_discs_34 (by decide) (fun h3 => ?_) (fun h3 => ?_)
      · refine lv_lload_n hx hb d_X1_discs_67 rfl (lv_at hl 2 rfl) ?_
        exact W.lret (v := (td_bs (fun i => decide (td_lv ce 0 i = q0 + 1)) i)) hx hb hr (fun t ht hW => ⟨⟨_, (), rfl, fun z => absurd z h3, by rw [ht]; exact hP, va_K.moved hW.alike hK, hD⟩, hS.F ht⟩) hS.2.2 d_X1_discs_68
      · refine lv_aload_n hx hb d_X1_discs_37 rfl (lv_at hl 0 rfl) ?_
        refine va_get (D := D) (ci := 1) (v := .ref (q 1)) (C := RX1) (T := TX1) (N := 14) hx hb hts usX1 hown hK hP 0 rfl rfl 1 (by decide) (hts _ fl_X1_7) (fun _ h9 => h9) rfl d_X1_discs_38 ?_
        refine lv_iload hx hb d_X1_discs_41 (lv_at hl 3 rfl) ?_
        refine va_iald hx hb hK hP 1 0 rfl rfl (vp_in_nI (show i < 1216 by omega) (by decide)) d_X1_discs_43 ?_
        refine td_i (y := (td_lv ce 0 i)) (by rw [nI_clamp (by omega)]; unfold td_lv; rw [Nat.mul_zero, Nat.zero_add]) ?_
        refine lv_iload_n hx hb d_X1_discs_44 rfl (lv_at hl 1 rfl) ?_
        refine lv_iconst (v := 1) hx hb d_X1_discs_45 (by decide) ?_
        refine lv_iadd hx hb d_X1_discs_46 ?_
        refine td_joinl 60 ls [] (fun x => x = td_bs (fun i => decide (td_lv ce 0 i = q0 + 1)) (i + 1)) (fun x ex => ?_) (fun J => ?_)
        · subst ex
          refine lv_lstore_n hx hb d_X1_discs_60 rfl hl (by decide) rfl (fun ls hl => ?_)
          have hl : lv_has ls 5 [(2, .long (td_bs (fun i => decide (td_lv ce 0 i = q0 + 1)) (i + 1))), (0, .ref o), (1, .int q0), (4, .int (nI i))] := hl
          refine lv_iinc (k := 3) (v := (nI (i + 1))) hx hb d_X1_discs_61 hl rfl ((nI_succ i).symm) (by decide) rfl (fun ls hl => ?_)
          have hl : lv_has ls 5 [(4, .int (nI (i + 1))), (2, .long (td_bs (fun i => decide (td_lv ce 0 i = q0 + 1)) (i + 1))), (0, .ref o), (1, .int q0)] := hl
          refine lv_goto (tgt := 23) hx hb d_X1_discs_64 (by decide) ?_
          have hl1 := lv_sub hl [2, 3, 1, 0] rfl
          exact ih (i + 1) _ (by omega) ⟨h64, hl1⟩
        · refine lv_icmp_ne (tgt := 59) hx hb d_X1_discs_47 (by decide) (fun h2 => ?_) (fun h2 => ?_)
          · refine lv_lload_n hx hb d_X1_discs_59 rfl (lv_at hl 2 rfl) ?_
            exact J _ (by rw [hcs, if_neg (fun z => h2 (of_decide_eq_true z))])
          · refine lv_lload_n hx hb d_X1_discs_50 rfl (lv_at hl 2 rfl) ?_
            refine lv_lconst (v := 1) hx hb d_X1_discs_51 (by decide) ?_
            refine lv_iload hx hb d_X1_discs_52 (lv_at hl 3 rfl) ?_
            refine lv_lshl (v := (td_lshl 1 (nI i))) hx hb d_X1_discs_54 rfl ?_
            refine lv_lor hx hb d_X1_discs_55 ?_
            refine lv_goto (tgt := 60) hx hb d_X1_discs_56 (by decide) ?_
            exact J _ (by rw [hcs, if_pos (decide_eq_true h2)])
  · refine lv_iload_n hx hb d_X1_discs_1 rfl (lv_at hl 1 rfl) ?_
    refine lv_if_lt (tgt := 10) hx hb d_X1_discs_2 (by decide) (fun h0 => ?_) (fun h0 => ?_)
    · refine lv_iconst (v := 1) hx hb d_X1_discs_10 (by decide) ?_
      refine lv_goto (tgt := 15) hx hb d_X1_discs_11 (by decide) ?_
      exact J _ (by unfold td_bad; rw [if_pos (Or.inl h0)])
    · refine lv_iload_n hx hb d_X1_discs_5 rfl (lv_at hl 1 rfl) ?_
      refine lv_iconst (v := 1) hx hb d_X1_discs_6 (by decide) ?_
      refine lv_icmp_le (tgt := 14) hx hb d_X1_discs_7 (by decide) (fun h1 => ?_) (fun h1 => ?_)
      · refine lv_iconst (v := 0) hx hb d_X1_discs_14 (by decide) ?_
        exact J _ (by unfold td_bad; rw [if_neg (fun z => z.elim h0 (fun z => absurd z (Int32.not_lt.mpr h1)))])
      · refine lv_iconst (v := 1) hx hb d_X1_discs_10 (by decide) ?_
        refine lv_goto (tgt := 15) hx hb d_X1_discs_11 (by decide) ?_
        exact J _ (by unfold td_bad; rw [if_pos (Or.inr (Int32.not_le.mp h1))])
