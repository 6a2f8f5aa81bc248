set_option maxHeartbeats 4000000 in
set_option maxRecDepth 100000 in
theorem m_X0_back (l : Launch) (hfl : l.stackTraces = false) (D : va_G) (sz b0 : Nat) (hb0 : b0 ≤ sz) (o a1 a2 : Nat) (cI cJ : ClassId) (x y : Int64) (pl : Int32) (k : Nat) (hk : k ≤ 64) (v6 : Value) (sq : Nat → Int32) (tu : Nat → Int64) (hba : ∀ q, va_A [(o, .inr (0, [.long x, .long y, .int pl, .int (nI k), .ref a1, .ref a2, v6])), (a1, .inl (cI, 64, .inl sq)), (a2, .inl (cJ, 64, .inr (.inl tu)))] sz q → b0 ≤ q) : vx_Met l y_X0_back (k_X0_back :: tw) ({ frames := 6, cells := 1, slots := 6, locals := 82 }) (va_Pc [.ref o] (fun U => U.heap.size = sz ∧ va_P D tdC [(o, .inr (0, [.long x, .long y, .int pl, .int (nI k), .ref a1, .ref a2, v6])), (a1, .inl (cI, 64, .inl sq)), (a2, .inl (cJ, 64, .inr (.inl tu)))] U.heap ∧ va_K D tdC [(cI, .int), (cJ, .long)] U ∧ va_D (fun _ => True) [(o, .inr (0, [.long x, .long y, .int pl, .int (nI k), .ref a1, .ref a2, v6])), (a1, .inl (cI, 64, .inl sq)), (a2, .inl (cJ, 64, .inr (.inl tu)))] ∧ td_X b0 U)) (va_Qi (fun (r : Int32) (_ : Unit) => 0 < k ∧ r = sq (k - 1)) (fun (_ : Unit) t => va_P D tdC [(o, .inr (0, [.long (y ^^^ (td_on (sq (k - 1)) ||| tu (k - 1))), .long (x ||| tu (k - 1)), .int (1 - pl), .int (nI (k - 1)), .ref a1, .ref a2, v6])), (a1, .inl (cI, 64, .inl sq)), (a2, .inl (cJ, 64, .inr (.inl tu)))] t.heap ∧ va_K D tdC [(cI, .int), (cJ, .long)] t ∧ va_D (va_A [(o, .inr (0, [.long x, .long y, .int pl, .int (nI k), .ref a1, .ref a2, v6])), (a1, .inl (cI, 64, .inl sq)), (a2, .inl (cJ, 64, .inr (.inl tu)))] sz) [(o, .inr (0, [.long (y ^^^ (td_on (sq (k - 1)) ||| tu (k - 1))), .long (x ||| tu (k - 1)), .int (1 - pl), .int (nI (k - 1)), .ref a1, .ref a2, v6])), (a1, .inl (cI, 64, .inl sq)), (a2, .inl (cJ, 64, .inr (.inl tu)))]) (va_A [(o, .inr (0, [.long x, .long y, .int pl, .int (nI k), .ref a1, .ref a2, v6])), (a1, .inl (cI, 64, .inl sq)), (a2, .inl (cJ, 64, .inr (.inl tu)))] sz)) (vx_X (fun _ : Unit => True) (fun E _ _ => E = td_nse ∧ k = 0) (fun q => sz ≤ q)) 1 6 (va_A [(o, .inr (0, [.long x, .long y, .int pl, .int (nI k), .ref a1, .ref a2, v6])), (a1, .inl (cI, 64, .inl sq)), (a2, .inl (cJ, 64, .inr (.inl tu)))] sz) := by
  refine vx_ofW (cc := c_X0_back) (maxL := 6) (ret := (some .int)) (by decide) rfl ?_
  intro p e s m args below meth c s₁ B hml hno hv
  obtain ⟨rfl, hsz, hP, hK, hD0, hX⟩ := hv
  have hx := B.exec
  have hb := B.bytes
  have hr := B.returns
  have hts : ∀ w ∈ tw, w.before _ s = true := fun w h => atoms_spec (ws := k_X0_back :: tw) B.pre w (List.mem_cons_of_mem _ h)
  have hown : s.vm.findClass RX0 = some m.cls := findClass_of_methodNamed B.named
  have hlocks := B.notSynchronized
  subst hsz
  have hD := hD0.self (sz := s.heap.size)
  generalize hAe : va_A [(o, .inr (0, [.long x, .long y, .int pl, .int (nI k), .ref a1, .ref a2, v6])), (a1, .inl (cI, 64, .inl sq)), (a2, .inl (cJ, 64, .inr (.inl tu)))] s.heap.size = A at hD ⊢
  have hA : ∀ q : Nat, s.heap.size ≤ q → A q := fun q h => by rw [← hAe]; exact Or.inr h
  have hS : va_S A s.heap s.heap [] := va_S.rf
  have hP : va_P D tdC [(o, .inr (0, [.long x, .long y, .int pl, .int (nI k), .ref a1, .ref a2, v6])), (a1, .inl (cI, 64, .inl sq)), (a2, .inl (cJ, 64, .inr (.inl tu)))] s.heap := hP
  have hl := lv_entry ([.ref o]) (n := 6) (Nat.le_of_ble_eq_true rfl)
  rw [lg_entry_eq]
  generalize (lg_sl ([.ref o]) ++ List.replicate (6 - (lg_sl ([.ref o])).length) Slot.unset).toArray = ls at hl ⊢
  have hl : lv_has ls 6 [(0, .ref o)] := hl
  rw [hAe] at hba
  have hS0 : va_S (fun q => s.heap.size ≤ q) s.heap s.heap [] := va_S.rf
  refine lv_aload_n hx hb d_X0_back_0 rfl (lv_at hl 0 rfl) ?_
  refine va_get (D := D) (ci := 0) (v := .int (nI k)) (C := RX0) (T := TX0) (N := 7) hx hb hts usX0 hown hK hP 0 rfl rfl 3 (by decide) (hts _ fl_X0_81) (fun _ h9 => h9) rfl d_X0_back_1 ?_
  refine lv_if_gt (tgt := 17) hx hb d_X0_back_4 (by decide) (fun h0 => ?_) (fun h0 => ?_)
  · have hk0 : 0 < k := (nI_ltI (a := 0) (b := k) (by omega) (by omega)).mp h0
    have hk1 : k - 1 < 64 := by omega
    have hcl : (nI (k - 1)).toNatClampNeg = k - 1 := nI_clamp (by omega)
    have hpr : nI k - 1 = nI (k - 1) := by have := nI_pred (k - 1); rwa [Nat.sub_add_cancel hk0] at this
    refine lv_aload_n hx hb d_X0_back_17 rfl (lv_at hl 0 rfl) ?_
    refine lv_dup hx hb d_X0_back_18 rfl ?_
    refine va_get (D := D) (ci := 0) (v := .int (nI k)) (C := RX0) (T := TX0) (N := 7) hx hb hts usX0 hown hK hP 0 rfl rfl 3 (by decide) (hts _ fl_X0_81) (fun _ h9 => h9) rfl d_X0_back_19 ?_
    refine lv_iconst (v := 1) hx hb d_X0_back_22 (by decide) ?_
    refine lv_isub hx hb d_X0_back_23 ?_
    refine td_i (y := (nI (k - 1))) (hpr) ?_
    refine va_put (D := D) (ci := 0) (v := .int (nI (k - 1))) (ty := .int) (C := RX0) (T := TX0) (N := 7) hx hb hts usX0 tyX0 tyX0_ok nmX0 hown hK hP hD hS 0 rfl rfl 3 (by decide) (hts _ fl_X0_81) (fun _ h9 => h9) rfl (by decide +kernel) rfl rfl (Nat.le_of_ble_eq_true rfl) d_X0_back_24 (fun H locs hP hD hS => ?_)
    have hP : va_P D tdC [(o, .inr (0, [.long x, .long y, .int pl, .int (nI (k - 1)), .ref a1, .ref a2, v6])), (a1, .inl (cI, 64, .inl sq)), (a2, .inl (cJ, 64, .inr (.inl tu)))] H := hP
    have hD : va_D A [(o, .inr (0, [.long x, .long y, .int pl, .int (nI (k - 1)), .ref a1, .ref a2, v6])), (a1, .inl (cI, 64, .inl sq)), (a2, .inl (cJ, 64, .inr (.inl tu)))] := hD
    refine lv_aload_n hx hb d_X0_back_27 rfl (lv_at hl 0 rfl) ?_
    refine va_get (D := D) (ci := 0) (v := .ref a1) (C := RX0) (T := TX0) (N := 7) hx hb hts usX0 hown hK hP 0 rfl rfl 4 (by decide) (hts _ fl_X0_9) (fun _ h9 => h9) rfl d_X0_back_28 ?_
    refine lv_aload_n hx hb d_X0_back_31 rfl (lv_at hl 0 rfl) ?_
    refine va_get (D := D) (ci := 0) (v := .int (nI (k - 1))) (C := RX0) (T := TX0) (N := 7) hx hb hts usX0 hown hK hP 0 rfl rfl 3 (by decide) (hts _ fl_X0_81) (fun _ h9 => h9) rfl d_X0_back_32 ?_
    refine va_iald hx hb hK hP 1 0 rfl rfl (vp_in_nI hk1 (by decide)) d_X0_back_35 ?_
    refine td_i (y := (sq (k - 1))) (by rw [hcl]) ?_
    refine lv_istore_n hx hb d_X0_back_36 rfl hl (by decide) rfl (fun ls hl => ?_)
    have hl : lv_has ls 6 [(1, .int (sq (k - 1))), (0, .ref o)] := hl
    refine lv_aload_n hx hb d_X0_back_37 rfl (lv_at hl 1 rfl) ?_
    refine va_get (D := D) (ci := 0) (v := .ref a2) (C := RX0) (T := TX0) (N := 7) hx hb hts usX0 hown hK hP 0 rfl rfl 5 (by decide) (hts _ fl_X0_13) (fun _ h9 => h9) rfl d_X0_back_38 ?_
    refine lv_aload_n hx hb d_X0_back_41 rfl (lv_at hl 1 rfl) ?_
    refine va_get (D := D) (ci := 0) (v := .int (nI (k - 1))) (C := RX0) (T := TX0) (N := 7) hx hb hts usX0 hown hK hP 0 rfl rfl 3 (by decide) (hts _ fl_X0_81) (fun _ h9 => h9) rfl d_X0_back_42 ?_
    refine va_lald hx hb hK hP 2 1 rfl rfl (vp_in_nI hk1 (by decide)) d_X0_back_45 ?_
    refine td_l (y := (tu (k - 1))) (by rw [hcl]) ?_
    refine lv_lstore_n hx hb d_X0_back_46 rfl hl (by decide) rfl (fun ls hl => ?_)
    have hl : lv_has ls 6 [(2, .long (tu (k - 1))), (1, .int (sq (k - 1))), (0, .ref o)] := hl
    refine lv_aload_n hx hb d_X0_back_47 rfl (lv_at hl 2 rfl) ?_
    refine va_get (D := D) (ci := 0) (v := .long y) (C := RX0) (T := TX0) (N := 7) hx hb hts usX0 hown hK hP 0 rfl rfl 1 (by decide) (hts _ fl_X0_51) (fun _ h9 => h9) rfl d_X0_back_48 ?_
    refine lv_iload_n hx hb d_X0_back_51 rfl (lv_at hl 1 rfl) ?_
    refine vp_callSl (W.runS (As := [.int (sq (k - 1))]) (rest := [.long y]) ⟨hx, hb, hml, hown, hts⟩ (m_X0_discOn l (sq (k - 1))) (va_cwS 1 hts (tw_S ml_X0_60 st_X0_discOn in_X0 kw_X0_discOn) rfl rfl rfl (by decide +kernel) ⟨Nat.le_of_ble_eq_true rfl, Nat.le_of_ble_eq_true rfl⟩) ⟨fun _ _ _ _ q => q, fun U hU hW => ⟨rfl, trivial⟩⟩ rfl rfl hl.1 rfl (lv_room (Nat.le_of_ble_eq_true rfl)) d_X0_back_52 ⟨Nat.zero_le _, Nat.zero_le _⟩) (fun r h9 => ?_)
    subst h9
    refine lv_lload_n hx hb d_X0_back_55 rfl (lv_at hl 0 rfl) ?_
    refine lv_lor hx hb d_X0_back_56 ?_
    refine lv_lxor hx hb d_X0_back_57 ?_
    refine lv_lstore hx hb d_X0_back_58 hl (by decide) rfl (fun ls hl => ?_)
    have hl : lv_has ls 6 [(4, .long (y ^^^ ((td_on (sq (k - 1))) ||| (tu (k - 1))))), (2, .long (tu (k - 1))), (1, .int (sq (k - 1))), (0, .ref o)] := hl
    refine lv_aload_n hx hb d_X0_back_60 rfl (lv_at hl 3 rfl) ?_
    refine lv_aload_n hx hb d_X0_back_61 rfl (lv_at hl 3 rfl) ?_
    refine va_get (D := D) (ci := 0) (v := .long x) (C := RX0) (T := TX0) (N := 7) hx hb hts usX0 hown hK hP 0 rfl rfl 0 (by decide) (hts _ fl_X0_47) (fun _ h9 => h9) rfl d_X0_back_62 ?_
    refine lv_lload_n hx hb d_X0_back_65 rfl (lv_at hl 1 rfl) ?_
    refine lv_lor hx hb d_X0_back_66 ?_
    refine va_put (D := D) (ci := 0) (v := .long (x ||| (tu (k - 1)))) (ty := .long) (C := RX0) (T := TX0) (N := 7) hx hb hts usX0 tyX0 tyX0_ok nmX0 hown hK hP hD hS 0 rfl rfl 1 (by decide) (hts _ fl_X0_51) (fun _ h9 => h9) rfl (by decide +kernel) rfl rfl (Nat.le_of_ble_eq_true rfl) d_X0_back_67 (fun H locs hP hD hS => ?_)
    have hP : va_P D tdC [(o, .inr (0, [.long x, .long (x ||| (tu (k - 1))), .int pl, .int (nI (k - 1)), .ref a1, .ref a2, v6])), (a1, .inl (cI, 64, .inl sq)), (a2, .inl (cJ, 64, .inr (.inl tu)))] H := hP
    have hD : va_D A [(o, .inr (0, [.long x, .long (x ||| (tu (k - 1))), .int pl, .int (nI (k - 1)), .ref a1, .ref a2, v6])), (a1, .inl (cI, 64, .inl sq)), (a2, .inl (cJ, 64, .inr (.inl tu)))] := hD
    refine lv_aload_n hx hb d_X0_back_70 rfl (lv_at hl 3 rfl) ?_
    refine lv_lload hx hb d_X0_back_71 (lv_at hl 0 rfl) ?_
    refine va_put (D := D) (ci := 0) (v := .long (y ^^^ ((td_on (sq (k - 1))) ||| (tu (k - 1))))) (ty := .long) (C := RX0) (T := TX0) (N := 7) hx hb hts usX0 tyX0 tyX0_ok nmX0 hown hK hP hD hS 0 rfl rfl 0 (by decide) (hts _ fl_X0_47) (fun _ h9 => h9) rfl (by decide +kernel) rfl rfl (Nat.le_of_ble_eq_true rfl) d_X0_back_73 (fun H locs hP hD hS => ?_)
    have hP : va_P D tdC [(o, .inr (0, [.long (y ^^^ ((td_on (sq (k - 1))) ||| (tu (k - 1)))), .long (x ||| (tu (k - 1))), .int pl, .int (nI (k - 1)), .ref a1, .ref a2, v6])), (a1, .inl (cI, 64, .inl sq)), (a2, .inl (cJ, 64, .inr (.inl tu)))] H := hP
    have hD : va_D A [(o, .inr (0, [.long (y ^^^ ((td_on (sq (k - 1))) ||| (tu (k - 1)))), .long (x ||| (tu (k - 1))), .int pl, .int (nI (k - 1)), .ref a1, .ref a2, v6])), (a1, .inl (cI, 64, .inl sq)), (a2, .inl (cJ, 64, .inr (.inl tu)))] := hD
    refine lv_aload_n hx hb d_X0_back_76 rfl (lv_at hl 3 rfl) ?_
    refine lv_iconst (v := 1) hx hb d_X0_back_77 (by decide) ?_
    refine lv_aload_n hx hb d_X0_back_78 rfl (lv_at hl 3 rfl) ?_
    refine va_get (D := D) (ci := 0) (v := .int pl) (C := RX0) (T := TX0) (N := 7) hx hb hts usX0 hown hK hP 0 rfl rfl 2 (by decide) (hts _ fl_X0_43) (fun _ h9 => h9) rfl d_X0_back_79 ?_
    refine lv_isub hx hb d_X0_back_82 ?_
    refine va_put (D := D) (ci := 0) (v := .int (1 - pl)) (ty := .int) (C := RX0) (T := TX0) (N := 7) hx hb hts usX0 tyX0 tyX0_ok nmX0 hown hK hP hD hS 0 rfl rfl 2 (by decide) (hts _ fl_X0_43) (fun _ h9 => h9) rfl (by decide +kernel) rfl rfl (Nat.le_of_ble_eq_true rfl) d_X0_back_83 (fun H locs hP hD hS => ?_)
    have hP : va_P D tdC [(o, .inr (0, [.long (y ^^^ ((td_on (sq (k - 1))) ||| (tu (k - 1)))), .long (x ||| (tu (k - 1))), .int (1 - pl), .int (nI (k - 1)), .ref a1, .ref a2, v6])), (a1, .inl (cI, 64, .inl sq)), (a2, .inl (cJ, 64, .inr (.inl tu)))] H := hP
    have hD : va_D A [(o, .inr (0, [.long (y ^^^ ((td_on (sq (k - 1))) ||| (tu (k - 1)))), .long (x ||| (tu (k - 1))), .int (1 - pl), .int (nI (k - 1)), .ref a1, .ref a2, v6])), (a1, .inl (cI, 64, .inl sq)), (a2, .inl (cJ, 64, .inr (.inl tu)))] := hD
    refine lv_iload_n hx hb d_X0_back_86 rfl (lv_at hl 2 rfl) ?_
    refine vx_ret (W.widen (k := 1) (n := 6) (Nat.le_of_ble_eq_true rfl) (Nat.le_of_ble_eq_true rfl) ?_)
    exact W.iret (v := (sq (k - 1))) hx hb hr (fun t ht hW => ⟨⟨_, (), rfl, ⟨hk0, rfl⟩, by rw [ht]; exact hP, va_K.moved hW.alike hK, hD⟩, hS.F ht⟩) hS.2.2 d_X0_back_87
  · have hk0 : k = 0 := by have h1 := nI_ltI (a := 0) (b := k) (by omega) (by omega); have h2 : ¬ 0 < k := fun z => h0 (h1.mpr z); omega
    exact td_thr_nse 5 rfl hx hb hfl hown hts hX (fun q h => Nat.le_trans hb0 h) hS0 hS.2.2 (by rw [hml]; exact hl.1) d_X0_back_7 d_X0_back_10 d_X0_back_11 d_X0_back_13 d_X0_back_16 hno (Nat.le_of_ble_eq_true rfl) (Nat.le_of_ble_eq_true rfl) (Nat.le_of_ble_eq_true rfl) (Nat.le_of_ble_eq_true rfl) hlocks ⟨rfl, hk0⟩ (Nat.le_of_ble_eq_true rfl) (Nat.le_of_ble_eq_true rfl)
set_option maxHeartbeats 4000000 in
set_option maxRecDepth 100000 in
theorem m_X0_init (l : Launch) (D : va_G) (sz : Nat) (o : Nat) : Met l y_X0_init (k_X0_init :: tw) ({ frames := 1, cells := 3, slots := 142, locals := 25 }) (va_Pc [.ref o] (fun U => U.heap.size = sz ∧ va_P D tdC [(o, .inr (0, [.long 0, .long 0, .int 0, .int 0, .null, .null, .null]))] U.heap ∧ va_K D tdC [] U ∧ va_D (fun _ => True) [(o, .inr (0, [.long 0, .long 0, .int 0, .int 0, .null, .null, .null]))])) (va_Qv (fun (_ : Nat × Nat × Nat × ClassId × ClassId) => True) (fun (u : Nat × Nat × Nat × ClassId × ClassId) t => va_P D tdC [(o, .inr (0, [.long 34628173824, .long 68853694464, .int 0, .int 0, .ref (u.1), .ref (u.2.1), .ref (u.2.2.1)])), (u.1, .inl (u.2.2.2.1, 64, .inl (fun _ => 0))), (u.2.1, .inl (u.2.2.2.2, 64, .inr (.inl (fun _ => 0)))), (u.2.2.1, .inl (u.2.2.2.1, 14, .inl (fun _ => 0)))] t.heap ∧ va_K D tdC [(u.2.2.2.1, .int), (u.2.2.2.2, .long)] t ∧ va_D (va_A [(o, .inr (0, [.long 0, .long 0, .int 0, .int 0, .null, .null, .null]))] sz) [(o, .inr (0, [.long 34628173824, .long 68853694464, .int 0, .int 0, .ref (u.1), .ref (u.2.1), .ref (u.2.2.1)])), (u.1, .inl (u.2.2.2.1, 64, .inl (fun _ => 0))), (u.2.1, .inl (u.2.2.2.2, 64, .inr (.inl (fun _ => 0)))), (u.2.2.1, .inl (u.2.2.2.1, 14, .inl (fun _ => 0)))]) (va_A [(o, .inr (0, [.long 0, .long 0, .int 0, .int 0, .null, .null, .null]))] sz)) 3 142 (va_A [(o, .inr (0, [.long 0, .long 0, .int 0, .int 0, .null, .null, .null]))] sz) := by
  refine Met.ofW (cc := c_X0_init) (maxL := 1) (ret := none) (by decide) rfl ?_
  intro p e s m args below meth c s₁ B hml hv
  obtain ⟨rfl, hsz, hP, hK, hD0⟩ := hv
  have hx := B.exec
  have hb := B.bytes
  have hr := B.returns
  have hts : ∀ w ∈ tw, w.before _ s = true := fun w h => atoms_spec (ws := k_X0_init :: tw) B.pre w (List.mem_cons_of_mem _ h)
  have hown : s.vm.findClass RX0 = some m.cls := findClass_of_methodNamed B.named
  have hlocks := B.notSynchronized
  have hin : meth.name = "<init>" := (name_of_methodNamed B.named B.method).1
  subst hsz
  have hD := hD0.self (sz := s.heap.size)
  generalize hAe : va_A [(o, .inr (0, [.long 0, .long 0, .int 0, .int 0, .null, .null, .null]))] s.heap.size = A at hD ⊢
  have hA : ∀ q : Nat, s.heap.size ≤ q → A q := fun q h => by rw [← hAe]; exact Or.inr h
  have hS : va_S A s.heap s.heap [] := va_S.rf
  have hP : va_P D tdC [(o, .inr (0, [.long 0, .long 0, .int 0, .int 0, .null, .null, .null]))] s.heap := hP
  have hl := lv_entry ([.ref o]) (n := 1) (Nat.le_of_ble_eq_true rfl)
  rw [lg_entry_eq]
  generalize (lg_sl ([.ref o]) ++ List.replicate (1 - (lg_sl ([.ref o])).length) Slot.unset).toArray = ls at hl ⊢
  have hl : lv_has ls 1 [(0, .ref o)] := hl
  refine lv_aload_n hx hb d_X0_init_0 rfl (lv_at hl 0 rfl) ?_
  refine W.objInit hx hb hown (hts _ ml_X0_3) (hts _ im_obj) (hts _ kw_obj) rfl (by rw [hml]; exact hl.1) rfl d_X0_init_1 (Nat.le_of_ble_eq_true rfl) (Nat.le_of_ble_eq_true rfl) ?_
  refine W.eq (g2 := F0 m 4 ls []) rfl ?_
  refine lv_aload_n hx hb d_X0_init_4 rfl (lv_at hl 0 rfl) ?_
  refine lv_bipush (v := 64) hx hb d_X0_init_5 (by decide) ?_
  refine va_newa (atype := .int) (a0 := (64, .inl (fun _ => 0))) (N' := 64) hx hb (hts _ ac_int) rfl hK hP hD hS hA (fun _ => rfl) (by decide) (by decide) (by decide) (Nat.le_of_ble_eq_true rfl) (Nat.le_of_ble_eq_true rfl) d_X0_init_7 (fun q1 c1 H hK hP hD hS => ?_)
  have hP : va_P D tdC [(o, .inr (0, [.long 0, .long 0, .int 0, .int 0, .null, .null, .null])), (q1, .inl (c1, 64, .inl (fun _ => 0)))] H := hP
  have hD : va_D A [(o, .inr (0, [.long 0, .long 0, .int 0, .int 0, .null, .null, .null])), (q1, .inl (c1, 64, .inl (fun _ => 0)))] := hD
  have hK : va_K D tdC [(c1, .int)] s := hK
  refine va_putF (D := D) (ci := 0) (v := .ref q1) (ty := .array .int) (C := RX0) (T := TX0) (N := 7) hx hb hts usX0 tyX0 tyX0_ok nmX0 hown hK hP hD hS 0 rfl rfl 4 (by decide) (hts _ fl_X0_9) (fun _ h9 => h9) rfl hin rfl (by decide +kernel) rfl rfl (Nat.le_of_ble_eq_true rfl) d_X0_init_9 (fun H locs hP hD hS => ?_)
  have hP : va_P D tdC [(o, .inr (0, [.long 0, .long 0, .int 0, .int 0, .ref q1, .null, .null])), (q1, .inl (c1, 64, .inl (fun _ => 0)))] H := hP
  have hD : va_D A [(o, .inr (0, [.long 0, .long 0, .int 0, .int 0, .ref q1, .null, .null])), (q1, .inl (c1, 64, .inl (fun _ => 0)))] := hD
  refine lv_aload_n hx hb d_X0_init_12 rfl (lv_at hl 0 rfl) ?_
  refine lv_bipush (v := 64) hx hb d_X0_init_13 (by decide) ?_
  refine va_newa (atype := .long) (a0 := (64, .inr (.inl (fun _ => 0)))) (N' := 64) hx hb (hts _ ac_long) rfl hK hP hD hS hA (fun _ => rfl) (by decide) (by decide) (by decide) (Nat.le_of_ble_eq_true rfl) (Nat.le_of_ble_eq_true rfl) d_X0_init_15 (fun q2 c2 H hK hP hD hS => ?_)
  have hP : va_P D tdC [(o, .inr (0, [.long 0, .long 0, .int 0, .int 0, .ref q1, .null, .null])), (q1, .inl (c1, 64, .inl (fun _ => 0))), (q2, .inl (c2, 64, .inr (.inl (fun _ => 0))))] H := hP
  have hD : va_D A [(o, .inr (0, [.long 0, .long 0, .int 0, .int 0, .ref q1, .null, .null])), (q1, .inl (c1, 64, .inl (fun _ => 0))), (q2, .inl (c2, 64, .inr (.inl (fun _ => 0))))] := hD
  have hK : va_K D tdC [(c1, .int), (c2, .long)] s := hK
  refine va_putF (D := D) (ci := 0) (v := .ref q2) (ty := .array .long) (C := RX0) (T := TX0) (N := 7) hx hb hts usX0 tyX0 tyX0_ok nmX0 hown hK hP hD hS 0 rfl rfl 5 (by decide) (hts _ fl_X0_13) (fun _ h9 => h9) rfl hin rfl (by decide +kernel) rfl rfl (Nat.le_of_ble_eq_true rfl) d_X0_init_17 (fun H locs hP hD hS => ?_)
  have hP : va_P D tdC [(o, .inr (0, [.long 0, .long 0, .int 0, .int 0, .ref q1, .ref q2, .null])), (q1, .inl (c1, 64, .inl (fun _ => 0))), (q2, .inl (c2, 64, .inr (.inl (fun _ => 0))))] H := hP
  have hD : va_D A [(o, .inr (0, [.long 0, .long 0, .int 0, .int 0, .ref q1, .ref q2, .null])), (q1, .inl (c1, 64, .inl (fun _ => 0))), (q2, .inl (c2, 64, .inr (.inl (fun _ => 0))))] := hD
  refine lv_aload_n hx hb d_X0_init_20 rfl (lv_at hl 0 rfl) ?_
  refine lv_bipush (v := 14) hx hb d_X0_init_21 (by decide) ?_
  refine va_newa (atype := .int) (a0 := (14, .inl (fun _ => 0))) (N' := 14) hx hb (hts _ ac_int) rfl hK hP hD hS hA (fun _ => rfl) (by decide) (by decide) (by decide) (Nat.le_of_ble_eq_true rfl) (Nat.le_of_ble_eq_true rfl) d_X0_init_23 (fun q3 c3 H hK hP hD hS => ?_)
  have hP : va_P D tdC [(o, .inr (0, [.long 0, .long 0, .int 0, .int 0, .ref q1, .ref q2, .null])), (q1, .inl (c1, 64, .inl (fun _ => 0))), (q2, .inl (c2, 64, .inr (.inl (fun _ => 0)))), (q3, .inl (c3, 14, .inl (fun _ => 0)))] H := hP
  have hD : va_D A [(o, .inr (0, [.long 0, .long 0, .int 0, .int 0, .ref q1, .ref q2, .null])), (q1, .inl (c1, 64, .inl (fun _ => 0))), (q2, .inl (c2, 64, .inr (.inl (fun _ => 0)))), (q3, .inl (c3, 14, .inl (fun _ => 0)))] := hD
  have hK : va_K D tdC [(c1, .int), (c2, .long), (c3, .int)] s := hK
  refine va_putF (D := D) (ci := 0) (v := .ref q3) (ty := .array .int) (C := RX0) (T := TX0) (N := 7) hx hb hts usX0 tyX0 tyX0_ok nmX0 hown hK hP hD hS 0 rfl rfl 6 (by decide) (hts _ fl_X0_17) (fun _ h9 => h9) rfl hin rfl (by decide +kernel) rfl rfl (Nat.le_of_ble_eq_true rfl) d_X0_init_25 (fun H locs hP hD hS => ?_)
  have hP : va_P D tdC [(o, .inr (0, [.long 0, .long 0, .int 0, .int 0, .ref q1, .ref q2, .ref q3])), (q1, .inl (c1, 64, .inl (fun _ => 0))), (q2, .inl (c2, 64, .inr (.inl (fun _ => 0)))), (q3, .inl (c3, 14, .inl (fun _ => 0)))] H := hP
  have hD : va_D A [(o, .inr (0, [.long 0, .long 0, .int 0, .int 0, .ref q1, .ref q2, .ref q3])), (q1, .inl (c1, 64, .inl (fun _ => 0))), (q2, .inl (c2, 64, .inr (.inl (fun _ => 0)))), (q3, .inl (c3, 14, .inl (fun _ => 0)))] := hD
  refine lv_aload_n hx hb d_X0_init_28 rfl (lv_at hl 0 rfl) ?_
  refine lv_ldc2 (v := 34628173824) hx hb hown (hts _ cn_X0_20) d_X0_init_29 ?_
  refine lv_ldc2 (v := 68853694464) hx hb hown (hts _ cn_X0_22) d_X0_init_32 ?_
  refine lv_iconst (v := 0) hx hb d_X0_init_35 (by decide) ?_
  have hPc := hP.sub (ws' := [(o, .inr (0, [.long 0, .long 0, .int 0, .int 0, .ref q1, .ref q2, .ref q3]))]) [0] rfl
  have hDc := hD.sub (ws' := [(o, .inr (0, [.long 0, .long 0, .int 0, .int 0, .ref q1, .ref q2, .ref q3]))]) [0] (by decide) rfl
  have hKc := hK.sub (tys' := []) [] rfl
  have hFc := va_free (wc := [(o, .inr (0, [.long 0, .long 0, .int 0, .int 0, .ref q1, .ref q2, .ref q3]))]) hD hS hA [0] rfl
  refine va_callv (va_runV (b := o) (C := RX0) (As := [.long 34628173824, .long 68853694464, .int 0]) (rest := []) ⟨hx, hb, hml, hown, hts⟩ (m_X0_setUp l D _ o 0 0 0 0 (.ref q1) (.ref q2) (.ref q3) 34628173824 68853694464 0) (cwV 3 hts (tw_V ml_X0_24 im_X0_setUp se_X0_setUp in_X0 kw_X0_setUp) rfl rfl rfl (by decide +kernel) ⟨Nat.le_of_ble_eq_true rfl, Nat.le_of_ble_eq_true rfl⟩) ⟨fun a U g mk q => ⟨q.1, q.2.1, q.2.2.1, va_K.moved (u := U) (U := U.calling g mk a) (Vm.Alike.refl U.vm) q.2.2.2.1, q.2.2.2.2⟩, va_recv (q0 := 0) (ci := 0) hK hP rfl rfl, fun U hU hW => ⟨rfl, by rw [hU], by rw [hU]; exact hPc, va_K.moved hW.alike hKc, hDc.weaken (fun _ _ _ _ => trivial)⟩⟩ rfl rfl hl.1 rfl (lv_room (Nat.le_of_ble_eq_true rfl)) d_X0_init_36 ⟨Nat.le_of_ble_eq_true rfl, Nat.le_of_ble_eq_true rfl⟩) hS (fun q _ h => hFc q h) hFc (fun u0 t0 H1 locs ht hvm hq hB hz1 hk1 hS => ?_)
  obtain ⟨hP1, hK1, hD1⟩ := hB
  rw [ht] at hP1
  obtain ⟨hP, hD⟩ := va_join (wr := [(q1, .inl (c1, 64, .inl (fun _ => 0))), (q2, .inl (c2, 64, .inr (.inl (fun _ => 0)))), (q3, .inl (c3, 14, .inl (fun _ => 0)))]) (w1 := [(o, .inr (0, [.long 34628173824, .long 68853694464, .int 0, .int 0, .ref q1, .ref q2, .ref q3]))]) hP hD [0] [1, 2, 3] rfl rfl (by decide) (by decide) hk1 hFc hP1 hD1
  clear hPc hDc hKc hFc hP1 hK1 hD1 hk1 hz1
  have hP := hP.sub (ws' := [(o, .inr (0, [.long 34628173824, .long 68853694464, .int 0, .int 0, .ref q1, .ref q2, .ref q3])), (q1, .inl (c1, 64, .inl (fun _ => 0))), (q2, .inl (c2, 64, .inr (.inl (fun _ => 0)))), (q3, .inl (c3, 14, .inl (fun _ => 0)))]) [3, 0, 1, 2] rfl
  have hD := hD.sub (ws' := [(o, .inr (0, [.long 34628173824, .long 68853694464, .int 0, .int 0, .ref q1, .ref q2, .ref q3])), (q1, .inl (c1, 64, .inl (fun _ => 0))), (q2, .inl (c2, 64, .inr (.inl (fun _ => 0)))), (q3, .inl (c3, 14, .inl (fun _ => 0)))]) [3, 0, 1, 2] (by decide) rfl
  clear ht hvm
  generalize H1 = H at hP hS ⊢
  have hc3 : c3 = c1 := by
    have h1 := (hK.2 0 (c1, .int) rfl).2
    have h3 := (hK.2 2 (c3, .int) rfl).2
    exact Option.some.inj (h3.symm.trans h1)
  subst hc3
  have hK := hK.sub (tys' := [(c3, .int), (c2, .long)]) [0, 1] rfl
  exact W.vret hx hb hr (fun t ht hW => ⟨⟨(q1, q2, q3, c3, c2), rfl, trivial, by rw [ht]; exact hP, va_K.moved hW.alike hK, hD⟩, hS.F ht⟩) hS.2.2 d_X0_init_39
