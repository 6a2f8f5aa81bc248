set_option maxHeartbeats 4000000 in
set_option maxRecDepth 100000 in
theorem m_X0_setUp (l : Launch) (D : va_G) (sz : Nat) (o : Nat) (x y : Int64) (pl md : Int32) (v4 v5 v6 : Value) (u v : Int64) (w : Int32) : Met l y_X0_setUp (k_X0_setUp :: tw) ({ frames := 0, cells := 0, slots := 0, locals := 0 }) (va_Pc [.ref o, .long u, .long v, .int w] (fun U => U.heap.size = sz ∧ va_P D tdC [(o, .inr (0, [.long x, .long y, .int pl, .int md, v4, v5, v6]))] U.heap ∧ va_K D tdC [] U ∧ va_D (fun _ => True) [(o, .inr (0, [.long x, .long y, .int pl, .int md, v4, v5, v6]))])) (va_Qv (fun (_ : Unit) => True) (fun (_ : Unit) t => va_P D tdC [(o, .inr (0, [.long u, .long v, .int w, .int 0, v4, v5, v6]))] t.heap ∧ va_K D tdC [] t ∧ va_D (va_A [(o, .inr (0, [.long x, .long y, .int pl, .int md, v4, v5, v6]))] sz) [(o, .inr (0, [.long u, .long v, .int w, .int 0, v4, v5, v6]))]) (va_A [(o, .inr (0, [.long x, .long y, .int pl, .int md, v4, v5, v6]))] sz)) 0 0 (va_A [(o, .inr (0, [.long x, .long y, .int pl, .int md, v4, v5, v6]))] sz) := by
  refine Met.ofW (cc := c_X0_setUp) (maxL := 6) (ret := none) (by decide) rfl ?_
  intro p e s m args below meth c s₁ B hml hv
  obtain ⟨rfl, hsz, hP, hK, hD0⟩ := hv
  have hx := B.exec
  have hb := B.bytes
  have hr := B.returns
  have hts : ∀ w ∈ tw, w.before _ s = true := fun w h => atoms_spec (ws := k_X0_setUp :: tw) B.pre w (List.mem_cons_of_mem _ h)
  have hown : s.vm.findClass RX0 = some m.cls := findClass_of_methodNamed B.named
  have hlocks := B.notSynchronized
  subst hsz
  have hD := hD0.self (sz := s.heap.size)
  generalize hAe : va_A [(o, .inr (0, [.long x, .long y, .int pl, .int md, v4, v5, v6]))] s.heap.size = A at hD ⊢
  have hA : ∀ q : Nat, s.heap.size ≤ q → A q := fun q h => by rw [← hAe]; exact Or.inr h
  have hS : va_S A s.heap s.heap [] := va_S.rf
  have hP : va_P D tdC [(o, .inr (0, [.long x, .long y, .int pl, .int md, v4, v5, v6]))] s.heap := hP
  have hl := lv_entry ([.ref o, .long u, .long v, .int w]) (n := 6) (Nat.le_of_ble_eq_true rfl)
  rw [lg_entry_eq]
  generalize (lg_sl ([.ref o, .long u, .long v, .int w]) ++ List.replicate (6 - (lg_sl ([.ref o, .long u, .long v, .int w])).length) Slot.unset).toArray = ls at hl ⊢
  have hl : lv_has ls 6 [(0, .ref o), (1, .long u), (3, .long v), (5, .int w)] := hl
  refine lv_aload_n hx hb d_X0_setUp_0 rfl (lv_at hl 0 rfl) ?_
  refine lv_lload_n hx hb d_X0_setUp_1 rfl (lv_at hl 1 rfl) ?_
  refine va_put (D := D) (ci := 0) (v := .long u) (ty := .long) (C := RX0) (T := TX0) (N := 7) hx hb hts usX0 tyX0 tyX0_ok nmX0 hown hK hP hD hS 0 rfl rfl 0 (by decide) (hts _ fl_X0_47) (fun _ h9 => h9) rfl (by decide +kernel) rfl rfl (Nat.le_of_ble_eq_true rfl) d_X0_setUp_2 (fun H locs hP hD hS => ?_)
  have hP : va_P D tdC [(o, .inr (0, [.long u, .long y, .int pl, .int md, v4, v5, v6]))] H := hP
  have hD : va_D A [(o, .inr (0, [.long u, .long y, .int pl, .int md, v4, v5, v6]))] := hD
  refine lv_aload_n hx hb d_X0_setUp_5 rfl (lv_at hl 0 rfl) ?_
  refine lv_lload_n hx hb d_X0_setUp_6 rfl (lv_at hl 2 rfl) ?_
  refine va_put (D := D) (ci := 0) (v := .long v) (ty := .long) (C := RX0) (T := TX0) (N := 7) hx hb hts usX0 tyX0 tyX0_ok nmX0 hown hK hP hD hS 0 rfl rfl 1 (by decide) (hts _ fl_X0_51) (fun _ h9 => h9) rfl (by decide +kernel) rfl rfl (Nat.le_of_ble_eq_true rfl) d_X0_setUp_7 (fun H locs hP hD hS => ?_)
  have hP : va_P D tdC [(o, .inr (0, [.long u, .long v, .int pl, .int md, v4, v5, v6]))] H := hP
  have hD : va_D A [(o, .inr (0, [.long u, .long v, .int pl, .int md, v4, v5, v6]))] := hD
  refine lv_aload_n hx hb d_X0_setUp_10 rfl (lv_at hl 0 rfl) ?_
  refine lv_iload hx hb d_X0_setUp_11 (lv_at hl 3 rfl) ?_
  refine va_put (D := D) (ci := 0) (v := .int w) (ty := .int) (C := RX0) (T := TX0) (N := 7) hx hb hts usX0 tyX0 tyX0_ok nmX0 hown hK hP hD hS 0 rfl rfl 2 (by decide) (hts _ fl_X0_43) (fun _ h9 => h9) rfl (by decide +kernel) rfl rfl (Nat.le_of_ble_eq_true rfl) d_X0_setUp_13 (fun H locs hP hD hS => ?_)
  have hP : va_P D tdC [(o, .inr (0, [.long u, .long v, .int w, .int md, v4, v5, v6]))] H := hP
  have hD : va_D A [(o, .inr (0, [.long u, .long v, .int w, .int md, v4, v5, v6]))] := hD
  refine lv_aload_n hx hb d_X0_setUp_16 rfl (lv_at hl 0 rfl) ?_
  refine lv_iconst (v := 0) hx hb d_X0_setUp_17 (by decide) ?_
  refine va_put (D := D) (ci := 0) (v := .int 0) (ty := .int) (C := RX0) (T := TX0) (N := 7) hx hb hts usX0 tyX0 tyX0_ok nmX0 hown hK hP hD hS 0 rfl rfl 3 (by decide) (hts _ fl_X0_81) (fun _ h9 => h9) rfl (by decide +kernel) rfl rfl (Nat.le_of_ble_eq_true rfl) d_X0_setUp_18 (fun H locs hP hD hS => ?_)
  have hP : va_P D tdC [(o, .inr (0, [.long u, .long v, .int w, .int 0, v4, v5, v6]))] H := hP
  have hD : va_D A [(o, .inr (0, [.long u, .long v, .int w, .int 0, v4, v5, v6]))] := hD
  exact W.vret hx hb hr (fun t ht hW => ⟨⟨(), rfl, trivial, by rw [ht]; exact hP, va_K.moved hW.alike hK, hD⟩, hS.F ht⟩) hS.2.2 d_X0_setUp_21
set_option maxHeartbeats 4000000 in
set_option maxRecDepth 100000 in
theorem m_X0_begin (l : Launch) (D : va_G) (sz : Nat) (o : Nat) (x y : Int64) (pl md : Int32) (v4 v5 v6 : Value) : Met l y_X0_begin (k_X0_begin :: tw) ({ frames := 1, cells := 0, slots := 0, locals := 25 }) (va_Pc [.ref o] (fun U => U.heap.size = sz ∧ va_P D tdC [(o, .inr (0, [.long x, .long y, .int pl, .int md, v4, v5, v6]))] U.heap ∧ va_K D tdC [] U ∧ va_D (fun _ => True) [(o, .inr (0, [.long x, .long y, .int pl, .int md, v4, v5, v6]))])) (va_Qv (fun (_ : Unit) => True) (fun (_ : Unit) t => va_P D tdC [(o, .inr (0, [.long 34628173824, .long 68853694464, .int 0, .int 0, v4, v5, v6]))] t.heap ∧ va_K D tdC [] t ∧ va_D (va_A [(o, .inr (0, [.long x, .long y, .int pl, .int md, v4, v5, v6]))] sz) [(o, .inr (0, [.long 34628173824, .long 68853694464, .int 0, .int 0, v4, v5, v6]))]) (va_A [(o, .inr (0, [.long x, .long y, .int pl, .int md, v4, v5, v6]))] sz)) 0 0 (va_A [(o, .inr (0, [.long x, .long y, .int pl, .int md, v4, v5, v6]))] sz) := by
  refine Met.ofW (cc := c_X0_begin) (maxL := 1) (ret := none) (by decide) rfl ?_
  intro p e s m args below meth c s₁ B hml hv
  obtain ⟨rfl, hsz, hP, hK, hD0⟩ := hv
  have hx := B.exec
  have hb := B.bytes
  have hr := B.returns
  have hts : ∀ w ∈ tw, w.before _ s = true := fun w h => atoms_spec (ws := k_X0_begin :: tw) B.pre w (List.mem_cons_of_mem _ h)
  have hown : s.vm.findClass RX0 = some m.cls := findClass_of_methodNamed B.named
  have hlocks := B.notSynchronized
  subst hsz
  have hD := hD0.self (sz := s.heap.size)
  generalize hAe : va_A [(o, .inr (0, [.long x, .long y, .int pl, .int md, v4, v5, v6]))] s.heap.size = A at hD ⊢
  have hA : ∀ q : Nat, s.heap.size ≤ q → A q := fun q h => by rw [← hAe]; exact Or.inr h
  have hS : va_S A s.heap s.heap [] := va_S.rf
  have hP : va_P D tdC [(o, .inr (0, [.long x, .long y, .int pl, .int md, v4, v5, v6]))] s.heap := hP
  have hl := lv_entry ([.ref o]) (n := 1) (Nat.le_of_ble_eq_true rfl)
  rw [lg_entry_eq]
  generalize (lg_sl ([.ref o]) ++ List.replicate (1 - (lg_sl ([.ref o])).length) Slot.unset).toArray = ls at hl ⊢
  have hl : lv_has ls 1 [(0, .ref o)] := hl
  refine lv_aload_n hx hb d_X0_begin_0 rfl (lv_at hl 0 rfl) ?_
  refine lv_ldc2 (v := 34628173824) hx hb hown (hts _ cn_X0_20) d_X0_begin_1 ?_
  refine lv_ldc2 (v := 68853694464) hx hb hown (hts _ cn_X0_22) d_X0_begin_4 ?_
  refine lv_iconst (v := 0) hx hb d_X0_begin_7 (by decide) ?_
  have hPc := hP.sub (ws' := [(o, .inr (0, [.long x, .long y, .int pl, .int md, v4, v5, v6]))]) [0] rfl
  have hDc := hD.sub (ws' := [(o, .inr (0, [.long x, .long y, .int pl, .int md, v4, v5, v6]))]) [0] (by decide) rfl
  have hKc := hK.sub (tys' := []) [] rfl
  have hFc := va_free (wc := [(o, .inr (0, [.long x, .long y, .int pl, .int md, v4, v5, v6]))]) hD hS hA [0] rfl
  refine va_callv (va_runV (b := o) (C := RX0) (As := [.long 34628173824, .long 68853694464, .int 0]) (rest := []) ⟨hx, hb, hml, hown, hts⟩ (m_X0_setUp l D s.heap.size o x y pl md v4 v5 v6 34628173824 68853694464 0) (cwV 3 hts (tw_V ml_X0_24 im_X0_setUp se_X0_setUp in_X0 kw_X0_setUp) rfl rfl rfl (by decide +kernel) ⟨Nat.le_of_ble_eq_true rfl, Nat.le_of_ble_eq_true rfl⟩) ⟨fun a U g mk q => ⟨q.1, q.2.1, q.2.2.1, va_K.moved (u := U) (U := U.calling g mk a) (Vm.Alike.refl U.vm) q.2.2.2.1, q.2.2.2.2⟩, va_recv (q0 := 0) (ci := 0) hK hP rfl rfl, fun U hU hW => ⟨rfl, by rw [hU], by rw [hU]; exact hPc, va_K.moved hW.alike hKc, hDc.weaken (fun _ _ _ _ => trivial)⟩⟩ rfl rfl hl.1 rfl (lv_room (Nat.le_of_ble_eq_true rfl)) d_X0_begin_8 ⟨Nat.le_refl _, Nat.le_refl _⟩) hS (fun q _ h => hFc q h) hFc (fun u0 t0 H1 locs ht hvm hq hB hz1 hk1 hS => ?_)
  obtain ⟨hP1, hK1, hD1⟩ := hB
  rw [ht] at hP1
  obtain ⟨hP, hD⟩ := va_join (wr := []) (w1 := [(o, .inr (0, [.long 34628173824, .long 68853694464, .int 0, .int 0, v4, v5, v6]))]) hP hD [0] [] rfl rfl (by decide) (by decide) hk1 hFc hP1 hD1
  clear hPc hDc hKc hFc hP1 hK1 hD1 hk1 hz1
  have hP := hP.sub (ws' := [(o, .inr (0, [.long 34628173824, .long 68853694464, .int 0, .int 0, v4, v5, v6]))]) [0] rfl
  have hD := hD.sub (ws' := [(o, .inr (0, [.long 34628173824, .long 68853694464, .int 0, .int 0, v4, v5, v6]))]) [0] (by decide) rfl
  clear ht hvm
  generalize H1 = H at hP hS ⊢
  exact W.vret hx hb hr (fun t ht hW => ⟨⟨(), rfl, trivial, by rw [ht]; exact hP, va_K.moved hW.alike hK, hD⟩, hS.F ht⟩) hS.2.2 d_X0_begin_11
set_option maxHeartbeats 4000000 in
set_option maxRecDepth 100000 in
theorem m_X0_make (l : Launch) (D : va_G) (sz : Nat) (o a1 a2 : Nat) (cI cJ : ClassId) (x y : Int64) (pl : Int32) (k : Nat) (hk : k < 64) (v6 : Value) (sq : Nat → Int32) (tu : Nat → Int64) (q : Int32) : Met l y_X0_make (k_X0_make :: tw) ({ frames := 3, cells := 0, slots := 0, locals := 85 }) (va_Pc [.ref o, .int q] (fun U => U.heap.size = sz ∧ va_P D tdC [(o, .inr (0, [.long x, .long y, .int pl, .int (nI k), .ref a1, .ref a2, v6])), (a1, .inl (cI, 64, .inl sq)), (a2, .inl (cJ, 64, .inr (.inl tu)))] U.heap ∧ va_K D tdC [(cI, .int), (cJ, .long)] U ∧ va_D (fun _ => True) [(o, .inr (0, [.long x, .long y, .int pl, .int (nI k), .ref a1, .ref a2, v6])), (a1, .inl (cI, 64, .inl sq)), (a2, .inl (cJ, 64, .inr (.inl tu)))])) (va_Qi (fun (r : Int32) (_ : Unit) => r = td_pop (td_turned x y (td_on q))) (fun (_ : Unit) t => va_P D tdC [(o, .inr (0, [.long (y ^^^ (td_turned x y (td_on q))), .long ((x ||| td_on q) ||| (td_turned x y (td_on q))), .int (1 - pl), .int (nI (k + 1)), .ref a1, .ref a2, v6])), (a1, .inl (cI, 64, .inl (upd sq k q))), (a2, .inl (cJ, 64, .inr (.inl (vp_updL tu k (td_turned x y (td_on q))))))] t.heap ∧ va_K D tdC [(cI, .int), (cJ, .long)] t ∧ va_D (va_A [(o, .inr (0, [.long x, .long y, .int pl, .int (nI k), .ref a1, .ref a2, v6])), (a1, .inl (cI, 64, .inl sq)), (a2, .inl (cJ, 64, .inr (.inl tu)))] sz) [(o, .inr (0, [.long (y ^^^ (td_turned x y (td_on q))), .long ((x ||| td_on q) ||| (td_turned x y (td_on q))), .int (1 - pl), .int (nI (k + 1)), .ref a1, .ref a2, v6])), (a1, .inl (cI, 64, .inl (upd sq k q))), (a2, .inl (cJ, 64, .inr (.inl (vp_updL tu k (td_turned x y (td_on q))))))]) (va_A [(o, .inr (0, [.long x, .long y, .int pl, .int (nI k), .ref a1, .ref a2, v6])), (a1, .inl (cI, 64, .inl sq)), (a2, .inl (cJ, 64, .inr (.inl tu)))] sz)) 0 0 (va_A [(o, .inr (0, [.long x, .long y, .int pl, .int (nI k), .ref a1, .ref a2, v6])), (a1, .inl (cI, 64, .inl sq)), (a2, .inl (cJ, 64, .inr (.inl tu)))] sz) := by
  refine Met.ofW (cc := c_X0_make) (maxL := 8) (ret := (some .int)) (by decide) rfl ?_
  intro p e s m args below meth c s₁ B hml hv
  obtain ⟨rfl, hsz, hP, hK, hD0⟩ := hv
  have hx := B.exec
  have hb := B.bytes
  have hr := B.returns
  have hts : ∀ w ∈ tw, w.before _ s = true := fun w h => atoms_spec (ws := k_X0_make :: tw) B.pre w (List.mem_cons_of_mem _ h)
  have hown : s.vm.findClass RX0 = some m.cls := findClass_of_methodNamed B.named
  have hlocks := B.notSynchronized
  subst hsz
  have hD := hD0.self (sz := s.heap.size)
  generalize hAe : va_A [(o, .inr (0, [.long x, .long y, .int pl, .int (nI k), .ref a1, .ref a2, v6])), (a1, .inl (cI, 64, .inl sq)), (a2, .inl (cJ, 64, .inr (.inl tu)))] s.heap.size = A at hD ⊢
  have hA : ∀ q : Nat, s.heap.size ≤ q → A q := fun q h => by rw [← hAe]; exact Or.inr h
  have hS : va_S A s.heap s.heap [] := va_S.rf
  have hP : va_P D tdC [(o, .inr (0, [.long x, .long y, .int pl, .int (nI k), .ref a1, .ref a2, v6])), (a1, .inl (cI, 64, .inl sq)), (a2, .inl (cJ, 64, .inr (.inl tu)))] s.heap := hP
  have hl := lv_entry ([.ref o, .int q]) (n := 8) (Nat.le_of_ble_eq_true rfl)
  rw [lg_entry_eq]
  generalize (lg_sl ([.ref o, .int q]) ++ List.replicate (8 - (lg_sl ([.ref o, .int q])).length) Slot.unset).toArray = ls at hl ⊢
  have hl : lv_has ls 8 [(0, .ref o), (1, .int q)] := hl
  have hcl : (nI k).toNatClampNeg = k := nI_clamp (by omega)
  refine lv_iload_n hx hb d_X0_make_0 rfl (lv_at hl 1 rfl) ?_
  refine vp_callSl (W.runS (As := [.int q]) (rest := []) ⟨hx, hb, hml, hown, hts⟩ (m_X0_discOn l q) (va_cwS 1 hts (tw_S ml_X0_60 st_X0_discOn in_X0 kw_X0_discOn) rfl rfl rfl (by decide +kernel) ⟨Nat.le_of_ble_eq_true rfl, Nat.le_of_ble_eq_true rfl⟩) ⟨fun _ _ _ _ q => q, fun U hU hW => ⟨rfl, trivial⟩⟩ rfl rfl hl.1 rfl (lv_room (Nat.le_of_ble_eq_true rfl)) d_X0_make_1 ⟨Nat.le_refl _, Nat.le_refl _⟩) (fun r hq => ?_)
  subst hq
  refine lv_lstore_n hx hb d_X0_make_4 rfl hl (by decide) rfl (fun ls hl => ?_)
  have hl : lv_has ls 8 [(2, .long (td_on q)), (0, .ref o), (1, .int q)] := hl
  refine lv_aload_n hx hb d_X0_make_5 rfl (lv_at hl 1 rfl) ?_
  refine va_get (D := D) (ci := 0) (v := .long x) (C := RX0) (T := TX0) (N := 7) hx hb hts usX0 hown hK hP 0 rfl rfl 0 (by decide) (hts _ fl_X0_47) (fun _ h9 => h9) rfl d_X0_make_6 ?_
  refine lv_aload_n hx hb d_X0_make_9 rfl (lv_at hl 1 rfl) ?_
  refine va_get (D := D) (ci := 0) (v := .long y) (C := RX0) (T := TX0) (N := 7) hx hb hts usX0 hown hK hP 0 rfl rfl 1 (by decide) (hts _ fl_X0_51) (fun _ h9 => h9) rfl d_X0_make_10 ?_
  refine lv_lload_n hx hb d_X0_make_13 rfl (lv_at hl 0 rfl) ?_
  refine vp_callSl (W.runS (As := [.long x, .long y, .long (td_on q)]) (rest := []) ⟨hx, hb, hml, hown, hts⟩ (m_X0_turnedBy l x y (td_on q)) (va_cwS 3 hts (tw_S ml_X0_67 st_X0_turnedBy in_X0 kw_X0_turnedBy) rfl rfl rfl (by decide +kernel) ⟨Nat.le_of_ble_eq_true rfl, Nat.le_of_ble_eq_true rfl⟩) ⟨fun _ _ _ _ q => q, fun U hU hW => ⟨rfl, trivial⟩⟩ rfl rfl hl.1 rfl (lv_room (Nat.le_of_ble_eq_true rfl)) d_X0_make_14 ⟨Nat.le_refl _, Nat.le_refl _⟩) (fun r hq => ?_)
  subst hq
  refine lv_lstore hx hb d_X0_make_17 hl (by decide) rfl (fun ls hl => ?_)
  have hl : lv_has ls 8 [(4, .long (td_turned x y (td_on q))), (2, .long (td_on q)), (0, .ref o), (1, .int q)] := hl
  refine lv_aload_n hx hb d_X0_make_19 rfl (lv_at hl 2 rfl) ?_
  refine va_get (D := D) (ci := 0) (v := .ref a1) (C := RX0) (T := TX0) (N := 7) hx hb hts usX0 hown hK hP 0 rfl rfl 4 (by decide) (hts _ fl_X0_9) (fun _ h9 => h9) rfl d_X0_make_20 ?_
  refine lv_aload_n hx hb d_X0_make_23 rfl (lv_at hl 2 rfl) ?_
  refine va_get (D := D) (ci := 0) (v := .int (nI k)) (C := RX0) (T := TX0) (N := 7) hx hb hts usX0 hown hK hP 0 rfl rfl 3 (by decide) (hts _ fl_X0_81) (fun _ h9 => h9) rfl d_X0_make_24 ?_
  refine lv_iload_n hx hb d_X0_make_27 rfl (lv_at hl 3 rfl) ?_
  refine va_iast hx hb hK hP hD hS 1 0 rfl rfl (vp_in_nI hk (by decide)) d_X0_make_28 (fun H locs hP hD hS => ?_)
  have hu : upd sq (nI k).toNatClampNeg q = (upd sq k q) := by rw [hcl]
  have hP : va_P D tdC [(o, .inr (0, [.long x, .long y, .int pl, .int (nI k), .ref a1, .ref a2, v6])), (a1, .inl (cI, 64, .inl (upd sq (nI k).toNatClampNeg q))), (a2, .inl (cJ, 64, .inr (.inl tu)))] H := hP
  have hD : va_D A [(o, .inr (0, [.long x, .long y, .int pl, .int (nI k), .ref a1, .ref a2, v6])), (a1, .inl (cI, 64, .inl (upd sq (nI k).toNatClampNeg q))), (a2, .inl (cJ, 64, .inr (.inl tu)))] := hD
  rw [hu] at hP hD
  clear hu
  have hP : va_P D tdC [(o, .inr (0, [.long x, .long y, .int pl, .int (nI k), .ref a1, .ref a2, v6])), (a1, .inl (cI, 64, .inl (upd sq k q))), (a2, .inl (cJ, 64, .inr (.inl tu)))] H := hP
  have hD : va_D A [(o, .inr (0, [.long x, .long y, .int pl, .int (nI k), .ref a1, .ref a2, v6])), (a1, .inl (cI, 64, .inl (upd sq k q))), (a2, .inl (cJ, 64, .inr (.inl tu)))] := hD
  refine lv_aload_n hx hb d_X0_make_29 rfl (lv_at hl 2 rfl) ?_
  refine va_get (D := D) (ci := 0) (v := .ref a2) (C := RX0) (T := TX0) (N := 7) hx hb hts usX0 hown hK hP 0 rfl rfl 5 (by decide) (hts _ fl_X0_13) (fun _ h9 => h9) rfl d_X0_make_30 ?_
  refine lv_aload_n hx hb d_X0_make_33 rfl (lv_at hl 2 rfl) ?_
  refine va_get (D := D) (ci := 0) (v := .int (nI k)) (C := RX0) (T := TX0) (N := 7) hx hb hts usX0 hown hK hP 0 rfl rfl 3 (by decide) (hts _ fl_X0_81) (fun _ h9 => h9) rfl d_X0_make_34 ?_
  refine lv_lload hx hb d_X0_make_37 (lv_at hl 0 rfl) ?_
  refine va_last hx hb hK hP hD hS 2 1 rfl rfl (vp_in_nI hk (by decide)) d_X0_make_39 (fun H locs hP hD hS => ?_)
  have hu : vp_updL tu (nI k).toNatClampNeg (td_turned x y (td_on q)) = (vp_updL tu k (td_turned x y (td_on q))) := by rw [hcl]
  have hP : va_P D tdC [(o, .inr (0, [.long x, .long y, .int pl, .int (nI k), .ref a1, .ref a2, v6])), (a1, .inl (cI, 64, .inl (upd sq k q))), (a2, .inl (cJ, 64, .inr (.inl (vp_updL tu (nI k).toNatClampNeg (td_turned x y (td_on q))))))] H := hP
  have hD : va_D A [(o, .inr (0, [.long x, .long y, .int pl, .int (nI k), .ref a1, .ref a2, v6])), (a1, .inl (cI, 64, .inl (upd sq k q))), (a2, .inl (cJ, 64, .inr (.inl (vp_updL tu (nI k).toNatClampNeg (td_turned x y (td_on q))))))] := hD
  rw [hu] at hP hD
  clear hu
  have hP : va_P D tdC [(o, .inr (0, [.long x, .long y, .int pl, .int (nI k), .ref a1, .ref a2, v6])), (a1, .inl (cI, 64, .inl (upd sq k q))), (a2, .inl (cJ, 64, .inr (.inl (vp_updL tu k (td_turned x y (td_on q))))))] H := hP
  have hD : va_D A [(o, .inr (0, [.long x, .long y, .int pl, .int (nI k), .ref a1, .ref a2, v6])), (a1, .inl (cI, 64, .inl (upd sq k q))), (a2, .inl (cJ, 64, .inr (.inl (vp_updL tu k (td_turned x y (td_on q))))))] := hD
  refine lv_aload_n hx hb d_X0_make_40 rfl (lv_at hl 2 rfl) ?_
  refine lv_dup hx hb d_X0_make_41 rfl ?_
  refine va_get (D := D) (ci := 0) (v := .int (nI k)) (C := RX0) (T := TX0) (N := 7) hx hb hts usX0 hown hK hP 0 rfl rfl 3 (by decide) (hts _ fl_X0_81) (fun _ h9 => h9) rfl d_X0_make_42 ?_
  refine lv_iconst (v := 1) hx hb d_X0_make_45 (by decide) ?_
  refine lv_iadd hx hb d_X0_make_46 ?_
  refine td_i (y := (nI (k + 1))) ((nI_succ k).symm) ?_
  refine va_put (D := D) (ci := 0) (v := .int (nI (k + 1))) (ty := .int) (C := RX0) (T := TX0) (N := 7) hx hb hts usX0 tyX0 tyX0_ok nmX0 hown hK hP hD hS 0 rfl rfl 3 (by decide) (hts _ fl_X0_81) (fun _ h9 => h9) rfl (by decide +kernel) rfl rfl (Nat.le_of_ble_eq_true rfl) d_X0_make_47 (fun H locs hP hD hS => ?_)
  have hP : va_P D tdC [(o, .inr (0, [.long x, .long y, .int pl, .int (nI (k + 1)), .ref a1, .ref a2, v6])), (a1, .inl (cI, 64, .inl (upd sq k q))), (a2, .inl (cJ, 64, .inr (.inl (vp_updL tu k (td_turned x y (td_on q))))))] H := hP
  have hD : va_D A [(o, .inr (0, [.long x, .long y, .int pl, .int (nI (k + 1)), .ref a1, .ref a2, v6])), (a1, .inl (cI, 64, .inl (upd sq k q))), (a2, .inl (cJ, 64, .inr (.inl (vp_updL tu k (td_turned x y (td_on q))))))] := hD
  refine lv_aload_n hx hb d_X0_make_50 rfl (lv_at hl 2 rfl) ?_
  refine va_get (D := D) (ci := 0) (v := .long y) (C := RX0) (T := TX0) (N := 7) hx hb hts usX0 hown hK hP 0 rfl rfl 1 (by decide) (hts _ fl_X0_51) (fun _ h9 => h9) rfl d_X0_make_51 ?_
  refine lv_lload hx hb d_X0_make_54 (lv_at hl 0 rfl) ?_
  refine lv_lxor hx hb d_X0_make_56 ?_
  refine lv_lstore hx hb d_X0_make_57 hl (by decide) rfl (fun ls hl => ?_)
  have hl : lv_has ls 8 [(6, .long (y ^^^ (td_turned x y (td_on q)))), (4, .long (td_turned x y (td_on q))), (2, .long (td_on q)), (0, .ref o), (1, .int q)] := hl
  refine lv_aload_n hx hb d_X0_make_59 rfl (lv_at hl 3 rfl) ?_
  refine lv_aload_n hx hb d_X0_make_60 rfl (lv_at hl 3 rfl) ?_
  refine va_get (D := D) (ci := 0) (v := .long x) (C := RX0) (T := TX0) (N := 7) hx hb hts usX0 hown hK hP 0 rfl rfl 0 (by decide) (hts _ fl_X0_47) (fun _ h9 => h9) rfl d_X0_make_61 ?_
  refine lv_lload_n hx hb d_X0_make_64 rfl (lv_at hl 2 rfl) ?_
  refine lv_lor hx hb d_X0_make_65 ?_
  refine lv_lload hx hb d_X0_make_66 (lv_at hl 1 rfl) ?_
  refine lv_lor hx hb d_X0_make_68 ?_
  refine va_put (D := D) (ci := 0) (v := .long ((x ||| (td_on q)) ||| (td_turned x y (td_on q)))) (ty := .long) (C := RX0) (T := TX0) (N := 7) hx hb hts usX0 tyX0 tyX0_ok nmX0 hown hK hP hD hS 0 rfl rfl 1 (by decide) (hts _ fl_X0_51) (fun _ h9 => h9) rfl (by decide +kernel) rfl rfl (Nat.le_of_ble_eq_true rfl) d_X0_make_69 (fun H locs hP hD hS => ?_)
  have hP : va_P D tdC [(o, .inr (0, [.long x, .long ((x ||| (td_on q)) ||| (td_turned x y (td_on q))), .int pl, .int (nI (k + 1)), .ref a1, .ref a2, v6])), (a1, .inl (cI, 64, .inl (upd sq k q))), (a2, .inl (cJ, 64, .inr (.inl (vp_updL tu k (td_turned x y (td_on q))))))] H := hP
  have hD : va_D A [(o, .inr (0, [.long x, .long ((x ||| (td_on q)) ||| (td_turned x y (td_on q))), .int pl, .int (nI (k + 1)), .ref a1, .ref a2, v6])), (a1, .inl (cI, 64, .inl (upd sq k q))), (a2, .inl (cJ, 64, .inr (.inl (vp_updL tu k (td_turned x y (td_on q))))))] := hD
  refine lv_aload_n hx hb d_X0_make_72 rfl (lv_at hl 3 rfl) ?_
  refine lv_lload hx hb d_X0_make_73 (lv_at hl 0 rfl) ?_
  refine va_put (D := D) (ci := 0) (v := .long (y ^^^ (td_turned x y (td_on q)))) (ty := .long) (C := RX0) (T := TX0) (N := 7) hx hb hts usX0 tyX0 tyX0_ok nmX0 hown hK hP hD hS 0 rfl rfl 0 (by decide) (hts _ fl_X0_47) (fun _ h9 => h9) rfl (by decide +kernel) rfl rfl (Nat.le_of_ble_eq_true rfl) d_X0_make_75 (fun H locs hP hD hS => ?_)
  have hP : va_P D tdC [(o, .inr (0, [.long (y ^^^ (td_turned x y (td_on q))), .long ((x ||| (td_on q)) ||| (td_turned x y (td_on q))), .int pl, .int (nI (k + 1)), .ref a1, .ref a2, v6])), (a1, .inl (cI, 64, .inl (upd sq k q))), (a2, .inl (cJ, 64, .inr (.inl (vp_updL tu k (td_turned x y (td_on q))))))] H := hP
  have hD : va_D A [(o, .inr (0, [.long (y ^^^ (td_turned x y (td_on q))), .long ((x ||| (td_on q)) ||| (td_turned x y (td_on q))), .int pl, .int (nI (k + 1)), .ref a1, .ref a2, v6])), (a1, .inl (cI, 64, .inl (upd sq k q))), (a2, .inl (cJ, 64, .inr (.inl (vp_updL tu k (td_turned x y (td_on q))))))] := hD
  refine lv_aload_n hx hb d_X0_make_78 rfl (lv_at hl 3 rfl) ?_
  refine lv_iconst (v := 1) hx hb d_X0_make_79 (by decide) ?_
  refine lv_aload_n hx hb d_X0_make_80 rfl (lv_at hl 3 rfl) ?_
  refine va_get (D := D) (ci := 0) (v := .int pl) (C := RX0) (T := TX0) (N := 7) hx hb hts usX0 hown hK hP 0 rfl rfl 2 (by decide) (hts _ fl_X0_43) (fun _ h9 => h9) rfl d_X0_make_81 ?_
  refine lv_isub hx hb d_X0_make_84 ?_
  refine va_put (D := D) (ci := 0) (v := .int (1 - pl)) (ty := .int) (C := RX0) (T := TX0) (N := 7) hx hb hts usX0 tyX0 tyX0_ok nmX0 hown hK hP hD hS 0 rfl rfl 2 (by decide) (hts _ fl_X0_43) (fun _ h9 => h9) rfl (by decide +kernel) rfl rfl (Nat.le_of_ble_eq_true rfl) d_X0_make_85 (fun H locs hP hD hS => ?_)
  have hP : va_P D tdC [(o, .inr (0, [.long (y ^^^ (td_turned x y (td_on q))), .long ((x ||| (td_on q)) ||| (td_turned x y (td_on q))), .int (1 - pl), .int (nI (k + 1)), .ref a1, .ref a2, v6])), (a1, .inl (cI, 64, .inl (upd sq k q))), (a2, .inl (cJ, 64, .inr (.inl (vp_updL tu k (td_turned x y (td_on q))))))] H := hP
  have hD : va_D A [(o, .inr (0, [.long (y ^^^ (td_turned x y (td_on q))), .long ((x ||| (td_on q)) ||| (td_turned x y (td_on q))), .int (1 - pl), .int (nI (k + 1)), .ref a1, .ref a2, v6])), (a1, .inl (cI, 64, .inl (upd sq k q))), (a2, .inl (cJ, 64, .inr (.inl (vp_updL tu k (td_turned x y (td_on q))))))] := hD
  refine lv_lload hx hb d_X0_make_88 (lv_at hl 1 rfl) ?_
  refine vp_callSi (W.runS (As := [.long (td_turned x y (td_on q))]) (rest := []) ⟨hx, hb, hml, hown, hts⟩ (m_JL_bitCount l (td_turned x y (td_on q))) (va_cwS 1 hts (tw_S ml_X0_128 st_JL_bitCount in_JL kw_JL_bitCount) rfl rfl rfl (by decide +kernel) ⟨Nat.le_of_ble_eq_true rfl, Nat.le_of_ble_eq_true rfl⟩) ⟨fun _ _ _ _ q => q, fun U hU hW => ⟨rfl, trivial⟩⟩ rfl rfl hl.1 rfl (lv_room (Nat.le_of_ble_eq_true rfl)) d_X0_make_90 ⟨Nat.le_refl _, Nat.le_refl _⟩) (fun r hq => ?_)
  subst hq
  exact W.iret (v := (td_pop (td_turned x y (td_on q)))) hx hb hr (fun t ht hW => ⟨⟨_, (), rfl, rfl, by rw [ht]; exact hP, va_K.moved hW.alike hK, hD⟩, hS.F ht⟩) hS.2.2 d_X0_make_93
