set_option maxHeartbeats 4000000 in
set_option maxRecDepth 100000 in
theorem m_X0_set (l : Launch) (hfl : l.stackTraces = false) (D : va_G) (sz b0 : Nat) (hb0 : b0 ≤ sz) (o : Nat) (x y : Int64) (pl md : Int32) (v4 v5 v6 : Value) (u v : Int64) (q : Int32) (hba : ∀ q, va_A [(o, .inr (0, [.long x, .long y, .int pl, .int md, v4, v5, v6]))] sz q → b0 ≤ q) : vx_Met l y_X0_set (k_X0_set :: tw) ({ frames := 7, cells := 1, slots := 6, locals := 102 }) (va_Pc [.ref o, .long u, .long v, .int q] (fun U => U.heap.size = sz ∧ va_P D tdC [(o, .inr (0, [.long x, .long y, .int pl, .int md, v4, v5, v6]))] U.heap ∧ va_K D tdC [] U ∧ va_D (fun _ => True) [(o, .inr (0, [.long x, .long y, .int pl, .int md, v4, v5, v6]))] ∧ td_X b0 U)) (va_Qv (fun (_ : Unit) => (u &&& v) = 0 ∧ td_pl q) (fun (_ : Unit) t => va_P D tdC [(o, .inr (0, [.long (if q = 0 then u else v), .long (if q = 0 then v else u), .int q, .int 0, v4, v5, v6]))] t.heap ∧ va_K D tdC [] t ∧ va_D (va_A [(o, .inr (0, [.long x, .long y, .int pl, .int md, v4, v5, v6]))] sz) [(o, .inr (0, [.long (if q = 0 then u else v), .long (if q = 0 then v else u), .int q, .int 0, v4, v5, v6]))]) (va_A [(o, .inr (0, [.long x, .long y, .int pl, .int md, v4, v5, v6]))] sz)) (vx_X (fun _ : Unit => True) (fun E _ _ => E = td_iae ∧ ¬ ((u &&& v) = 0 ∧ td_pl q)) (fun q => sz ≤ q)) 1 6 (va_A [(o, .inr (0, [.long x, .long y, .int pl, .int md, v4, v5, v6]))] sz) := by
  refine vx_ofW (cc := c_X0_set) (maxL := 6) (ret := none) (by decide) rfl ?_
  intro p e s m args below meth c s₁ B hml hno hv
  obtain ⟨rfl, hsz, hP, hK, hD0, hX⟩ := hv
  have hx := B.exec
  have hb := B.bytes
  have hr := B.returns
  have hts : ∀ w ∈ tw, w.before _ s = true := fun w h => atoms_spec (ws := k_X0_set :: tw) B.pre w (List.mem_cons_of_mem _ h)
  have hown : s.vm.findClass RX0 = some m.cls := findClass_of_methodNamed B.named
  have hlocks := B.notSynchronized
  subst hsz
  have hD := hD0.self (sz := s.heap.size)
  generalize hAe : va_A [(o, .inr (0, [.long x, .long y, .int pl, .int md, v4, v5, v6]))] s.heap.size = A at hD ⊢
  have hA : ∀ q : Nat, s.heap.size ≤ q → A q := fun q h => by rw [← hAe]; exact Or.inr h
  have hS : va_S A s.heap s.heap [] := va_S.rf
  have hP : va_P D tdC [(o, .inr (0, [.long x, .long y, .int pl, .int md, v4, v5, v6]))] s.heap := hP
  have hl := lv_entry ([.ref o, .long u, .long v, .int q]) (n := 6) (Nat.le_of_ble_eq_true rfl)
  rw [lg_entry_eq]
  generalize (lg_sl ([.ref o, .long u, .long v, .int q]) ++ List.replicate (6 - (lg_sl ([.ref o, .long u, .long v, .int q])).length) Slot.unset).toArray = ls at hl ⊢
  have hl : lv_has ls 6 [(0, .ref o), (1, .long u), (3, .long v), (5, .int q)] := hl
  rw [hAe] at hba
  have hS0 : va_S (fun q => s.heap.size ≤ q) s.heap s.heap [] := va_S.rf
  refine lv_lload_n hx hb d_X0_set_0 rfl (lv_at hl 1 rfl) ?_
  refine lv_lload_n hx hb d_X0_set_1 rfl (lv_at hl 2 rfl) ?_
  refine lv_land hx hb d_X0_set_2 ?_
  refine lv_lconst (v := 0) hx hb d_X0_set_3 (by decide) ?_
  refine td_leq (tgt := 18) hx hb d_X0_set_4 d_X0_set_5 (by decide) (fun h0 => ?_) (fun h0 => ?_)
  · refine lv_iload hx hb d_X0_set_18 (lv_at hl 3 rfl) ?_
    refine vx_callv (vx_runS (As := [.int q]) (rest := []) ⟨hx, hb, hml, hown, hts⟩ (m_X0_requirePlayer l hfl _ b0 (Nat.le_trans hb0 hS.1) q) (va_cwS 1 hts (tw_S ml_X0_35 st_X0_requirePlayer in_X0 kw_X0_requirePlayer) rfl rfl rfl (by decide +kernel) ⟨Nat.le_of_ble_eq_true rfl, Nat.le_of_ble_eq_true rfl⟩) ⟨fun a U g mk q => ⟨q.1, q.2.1, td_X.blind q.2.2⟩, fun U hU hW => ⟨rfl, by rw [hU], td_X.at hX hW hU (fun q h1 h2 => hS.2.1 q h1 (fun z => Nat.not_le.mpr h2 (hba _ z)))⟩⟩ rfl rfl hl.1 rfl (lv_room (Nat.le_of_ble_eq_true rfl)) d_X0_set_20 ⟨Nat.le_of_ble_eq_true rfl, Nat.le_of_ble_eq_true rfl⟩) hS (fun q h1 h2 => absurd h2 (Nat.not_le.mpr h1)) (fun q h => hA q (Nat.le_trans hS.1 h)) (fun q h1 h2 => absurd h2 (Nat.not_le.mpr h1)) (fun E ce q9 u0 t0 H1 locs ht hal hpx hB hz1 hk1 hS hce hcv hcl => ?_) (fun u0 t0 H1 locs ht hal hq hB hz1 hk1 hS => ?_)
    · exact vx_out (E := E) (fun x hx => (hno x hx).elim) hlocks hce hcv hcl (fun t ht hal => ⟨(), trivial, ⟨hB.1, fun z => hB.2 z.2⟩, ⟨Nat.le_trans (Nat.le_refl _) (by rw [ht]; exact hz1), fun q h1 h2 => by rw [ht]; exact hk1 q h1 h2⟩⟩) hS.2.2 (Nat.le_of_ble_eq_true rfl) (Nat.le_of_ble_eq_true rfl)
    · have hP := td_keep hP hk1
      clear ht hal hB hz1 hk1
      skip
      refine lv_iload hx hb d_X0_set_23 (lv_at hl 3 rfl) ?_
      refine lv_if_ne (tgt := 38) hx hb d_X0_set_25 (by decide) (fun h1 => ?_) (fun h1 => ?_)
      · refine lv_aload_n hx hb d_X0_set_38 rfl (lv_at hl 0 rfl) ?_
        refine lv_lload_n hx hb d_X0_set_39 rfl (lv_at hl 2 rfl) ?_
        refine lv_lload_n hx hb d_X0_set_40 rfl (lv_at hl 1 rfl) ?_
        refine lv_iconst (v := 1) hx hb d_X0_set_41 (by decide) ?_
        have hPc := hP.sub (ws' := [(o, .inr (0, [.long x, .long y, .int pl, .int md, v4, v5, v6]))]) [0] rfl
        have hDc := hD.sub (ws' := [(o, .inr (0, [.long x, .long y, .int pl, .int md, v4, v5, v6]))]) [0] (by decide) rfl
        have hKc := hK.sub (tys' := []) [] rfl
        have hFc := va_free (wc := [(o, .inr (0, [.long x, .long y, .int pl, .int md, v4, v5, v6]))]) hD hS hA [0] rfl
        refine va_callv (va_runV (b := o) (C := RX0) (As := [.long v, .long u, .int 1]) (rest := []) ⟨hx, hb, hml, hown, hts⟩ (m_X0_setUp l D _ o x y pl md v4 v5 v6 v u 1) (cwV 3 hts (tw_V ml_X0_24 im_X0_setUp se_X0_setUp in_X0 kw_X0_setUp) rfl rfl rfl (by decide +kernel) ⟨Nat.le_of_ble_eq_true rfl, Nat.le_of_ble_eq_true rfl⟩) ⟨fun a U g mk q => ⟨q.1, q.2.1, q.2.2.1, va_K.moved (u := U) (U := U.calling g mk a) (Vm.Alike.refl U.vm) q.2.2.2.1, q.2.2.2.2⟩, va_recv (q0 := 0) (ci := 0) hK hP rfl rfl, fun U hU hW => ⟨rfl, by rw [hU], by rw [hU]; exact hPc, va_K.moved hW.alike hKc, hDc.weaken (fun _ _ _ _ => trivial)⟩⟩ rfl rfl hl.1 rfl (lv_room (Nat.le_of_ble_eq_true rfl)) d_X0_set_42 ⟨Nat.le_of_ble_eq_true rfl, Nat.le_of_ble_eq_true rfl⟩) hS (fun q _ h => hFc q h) hFc (fun u0 t0 H1 locs ht hvm _hq hB hz1 hk1 hS => ?_)
        obtain ⟨hP1, hK1, hD1⟩ := hB
        rw [ht] at hP1
        obtain ⟨hP, hD⟩ := va_join (wr := []) (w1 := [(o, .inr (0, [.long v, .long u, .int 1, .int 0, v4, v5, v6]))]) hP hD [0] [] rfl rfl (by decide) (by decide) hk1 hFc hP1 hD1
        clear hPc hDc hKc hFc hP1 hK1 hD1 hk1 hz1
        have hP := hP.sub (ws' := [(o, .inr (0, [.long v, .long u, .int 1, .int 0, v4, v5, v6]))]) [0] rfl
        have hD := hD.sub (ws' := [(o, .inr (0, [.long v, .long u, .int 1, .int 0, v4, v5, v6]))]) [0] (by decide) rfl
        clear ht hvm
        generalize H1 = H at hP hS ⊢
        have e1 : q = 1 := hq.elim (fun z => absurd z h1) (fun z => z)
        have hP : va_P D tdC [(o, .inr (0, [.long (if q = 0 then u else v), .long (if q = 0 then v else u), .int q, .int 0, v4, v5, v6]))] H := by rw [if_neg h1, if_neg h1, e1]; exact hP
        have hD : va_D A [(o, .inr (0, [.long (if q = 0 then u else v), .long (if q = 0 then v else u), .int q, .int 0, v4, v5, v6]))] := by rw [if_neg h1, if_neg h1, e1]; exact hD
        refine vx_ret (W.widen (k := 1) (n := 6) (Nat.le_of_ble_eq_true rfl) (Nat.le_of_ble_eq_true rfl) ?_)
        exact W.vret hx hb hr (fun t ht hW => ⟨⟨(), rfl, ⟨h0, hq⟩, by rw [ht]; exact hP, va_K.moved hW.alike hK, hD⟩, hS.F ht⟩) hS.2.2 d_X0_set_45
      · refine lv_aload_n hx hb d_X0_set_28 rfl (lv_at hl 0 rfl) ?_
        refine lv_lload_n hx hb d_X0_set_29 rfl (lv_at hl 1 rfl) ?_
        refine lv_lload_n hx hb d_X0_set_30 rfl (lv_at hl 2 rfl) ?_
        refine lv_iconst (v := 0) hx hb d_X0_set_31 (by decide) ?_
        have hPc := hP.sub (ws' := [(o, .inr (0, [.long x, .long y, .int pl, .int md, v4, v5, v6]))]) [0] rfl
        have hDc := hD.sub (ws' := [(o, .inr (0, [.long x, .long y, .int pl, .int md, v4, v5, v6]))]) [0] (by decide) rfl
        have hKc := hK.sub (tys' := []) [] rfl
        have hFc := va_free (wc := [(o, .inr (0, [.long x, .long y, .int pl, .int md, v4, v5, v6]))]) hD hS hA [0] rfl
        refine va_callv (va_runV (b := o) (C := RX0) (As := [.long u, .long v, .int 0]) (rest := []) ⟨hx, hb, hml, hown, hts⟩ (m_X0_setUp l D _ o x y pl md v4 v5 v6 u v 0) (cwV 3 hts (tw_V ml_X0_24 im_X0_setUp se_X0_setUp in_X0 kw_X0_setUp) rfl rfl rfl (by decide +kernel) ⟨Nat.le_of_ble_eq_true rfl, Nat.le_of_ble_eq_true rfl⟩) ⟨fun a U g mk q => ⟨q.1, q.2.1, q.2.2.1, va_K.moved (u := U) (U := U.calling g mk a) (Vm.Alike.refl U.vm) q.2.2.2.1, q.2.2.2.2⟩, va_recv (q0 := 0) (ci := 0) hK hP rfl rfl, fun U hU hW => ⟨rfl, by rw [hU], by rw [hU]; exact hPc, va_K.moved hW.alike hKc, hDc.weaken (fun _ _ _ _ => trivial)⟩⟩ rfl rfl hl.1 rfl (lv_room (Nat.le_of_ble_eq_true rfl)) d_X0_set_32 ⟨Nat.le_of_ble_eq_true rfl, Nat.le_of_ble_eq_true rfl⟩) hS (fun q _ h => hFc q h) hFc (fun u0 t0 H1 locs ht hvm _hq hB hz1 hk1 hS => ?_)
        obtain ⟨hP1, hK1, hD1⟩ := hB
        rw [ht] at hP1
        obtain ⟨hP, hD⟩ := va_join (wr := []) (w1 := [(o, .inr (0, [.long u, .long v, .int 0, .int 0, v4, v5, v6]))]) hP hD [0] [] rfl rfl (by decide) (by decide) hk1 hFc hP1 hD1
        clear hPc hDc hKc hFc hP1 hK1 hD1 hk1 hz1
        have hP := hP.sub (ws' := [(o, .inr (0, [.long u, .long v, .int 0, .int 0, v4, v5, v6]))]) [0] rfl
        have hD := hD.sub (ws' := [(o, .inr (0, [.long u, .long v, .int 0, .int 0, v4, v5, v6]))]) [0] (by decide) rfl
        clear ht hvm
        generalize H1 = H at hP hS ⊢
        skip
        refine lv_goto (tgt := 45) hx hb d_X0_set_35 (by decide) ?_
        have hP : va_P D tdC [(o, .inr (0, [.long (if q = 0 then u else v), .long (if q = 0 then v else u), .int q, .int 0, v4, v5, v6]))] H := by rw [if_pos h1, if_pos h1, h1]; exact hP
        have hD : va_D A [(o, .inr (0, [.long (if q = 0 then u else v), .long (if q = 0 then v else u), .int q, .int 0, v4, v5, v6]))] := by rw [if_pos h1, if_pos h1, h1]; exact hD
        refine vx_ret (W.widen (k := 1) (n := 6) (Nat.le_of_ble_eq_true rfl) (Nat.le_of_ble_eq_true rfl) ?_)
        exact W.vret hx hb hr (fun t ht hW => ⟨⟨(), rfl, ⟨h0, hq⟩, by rw [ht]; exact hP, va_K.moved hW.alike hK, hD⟩, hS.F ht⟩) hS.2.2 d_X0_set_45
  · exact td_thr_iae 0 rfl hx hb hfl hown hts hX (fun q h => Nat.le_trans hb0 h) hS0 hS.2.2 (by rw [hml]; exact hl.1) d_X0_set_8 d_X0_set_11 d_X0_set_12 d_X0_set_14 d_X0_set_17 hno (Nat.le_of_ble_eq_true rfl) (Nat.le_of_ble_eq_true rfl) (Nat.le_of_ble_eq_true rfl) (Nat.le_of_ble_eq_true rfl) hlocks (⟨rfl, fun z => h0 z.1⟩) (Nat.le_of_ble_eq_true rfl) (Nat.le_of_ble_eq_true rfl)
set_option maxHeartbeats 4000000 in
set_option maxRecDepth 100000 in
theorem m_X0_play (l : Launch) (hfl : l.stackTraces = false) (D : va_G) (sz b0 : Nat) (hb0 : b0 ≤ sz) (o a1 a2 : Nat) (cI cJ : ClassId) (x y : Int64) (pl : Int32) (k : Nat) (hk : k ≤ 64) (v6 : Value) (sq : Nat → Int32) (tu : Nat → Int64) (q : Int32) (hba : ∀ q, va_A [(o, .inr (0, [.long x, .long y, .int pl, .int (nI k), .ref a1, .ref a2, v6])), (a1, .inl (cI, 64, .inl sq)), (a2, .inl (cJ, 64, .inr (.inl tu)))] sz q → b0 ≤ q) : vx_Met l y_X0_play (k_X0_play :: tw) ({ frames := 6, cells := 1, slots := 6, locals := 112 }) (va_Pc [.ref o, .int q] (fun U => U.heap.size = sz ∧ va_P D tdC [(o, .inr (0, [.long x, .long y, .int pl, .int (nI k), .ref a1, .ref a2, v6])), (a1, .inl (cI, 64, .inl sq)), (a2, .inl (cJ, 64, .inr (.inl tu)))] U.heap ∧ va_K D tdC [(cI, .int), (cJ, .long)] U ∧ va_D (fun _ => True) [(o, .inr (0, [.long x, .long y, .int pl, .int (nI k), .ref a1, .ref a2, v6])), (a1, .inl (cI, 64, .inl sq)), (a2, .inl (cJ, 64, .inr (.inl tu)))] ∧ td_X b0 U)) (va_Qi (fun (r : Int32) (_ : Unit) => td_may x y q ∧ k < 64 ∧ r = td_pop (td_turned x y (td_on q))) (fun (_ : Unit) t => va_P D tdC [(o, .inr (0, [.long (y ^^^ (td_turned x y (td_on q))), .long ((x ||| td_on q) ||| (td_turned x y (td_on q))), .int (1 - pl), .int (nI (k + 1)), .ref a1, .ref a2, v6])), (a1, .inl (cI, 64, .inl (upd sq k q))), (a2, .inl (cJ, 64, .inr (.inl (vp_updL tu k (td_turned x y (td_on q))))))] t.heap ∧ va_K D tdC [(cI, .int), (cJ, .long)] t ∧ va_D (va_A [(o, .inr (0, [.long x, .long y, .int pl, .int (nI k), .ref a1, .ref a2, v6])), (a1, .inl (cI, 64, .inl sq)), (a2, .inl (cJ, 64, .inr (.inl tu)))] sz) [(o, .inr (0, [.long (y ^^^ (td_turned x y (td_on q))), .long ((x ||| td_on q) ||| (td_turned x y (td_on q))), .int (1 - pl), .int (nI (k + 1)), .ref a1, .ref a2, v6])), (a1, .inl (cI, 64, .inl (upd sq k q))), (a2, .inl (cJ, 64, .inr (.inl (vp_updL tu k (td_turned x y (td_on q))))))]) (va_A [(o, .inr (0, [.long x, .long y, .int pl, .int (nI k), .ref a1, .ref a2, v6])), (a1, .inl (cI, 64, .inl sq)), (a2, .inl (cJ, 64, .inr (.inl tu)))] sz)) (vx_X (fun _ : Unit => True) (fun E _ _ => (E = td_iae ∧ ¬ td_may x y q) ∨ (E = td_ise ∧ td_may x y q ∧ k = 64)) (fun q => sz ≤ q)) 1 6 (va_A [(o, .inr (0, [.long x, .long y, .int pl, .int (nI k), .ref a1, .ref a2, v6])), (a1, .inl (cI, 64, .inl sq)), (a2, .inl (cJ, 64, .inr (.inl tu)))] sz) := by
  refine vx_ofW (cc := c_X0_play) (maxL := 2) (ret := (some .int)) (by decide) rfl ?_
  intro p e s m args below meth c s₁ B hml hno hv
  obtain ⟨rfl, hsz, hP, hK, hD0, hX⟩ := hv
  have hx := B.exec
  have hb := B.bytes
  have hr := B.returns
  have hts : ∀ w ∈ tw, w.before _ s = true := fun w h => atoms_spec (ws := k_X0_play :: tw) B.pre w (List.mem_cons_of_mem _ h)
  have hown : s.vm.findClass RX0 = some m.cls := findClass_of_methodNamed B.named
  have hlocks := B.notSynchronized
  subst hsz
  have hD := hD0.self (sz := s.heap.size)
  generalize hAe : va_A [(o, .inr (0, [.long x, .long y, .int pl, .int (nI k), .ref a1, .ref a2, v6])), (a1, .inl (cI, 64, .inl sq)), (a2, .inl (cJ, 64, .inr (.inl tu)))] s.heap.size = A at hD ⊢
  have hA : ∀ q : Nat, s.heap.size ≤ q → A q := fun q h => by rw [← hAe]; exact Or.inr h
  have hS : va_S A s.heap s.heap [] := va_S.rf
  have hP : va_P D tdC [(o, .inr (0, [.long x, .long y, .int pl, .int (nI k), .ref a1, .ref a2, v6])), (a1, .inl (cI, 64, .inl sq)), (a2, .inl (cJ, 64, .inr (.inl tu)))] s.heap := hP
  have hl := lv_entry ([.ref o, .int q]) (n := 2) (Nat.le_of_ble_eq_true rfl)
  rw [lg_entry_eq]
  generalize (lg_sl ([.ref o, .int q]) ++ List.replicate (2 - (lg_sl ([.ref o, .int q])).length) Slot.unset).toArray = ls at hl ⊢
  have hl : lv_has ls 2 [(0, .ref o), (1, .int q)] := hl
  rw [hAe] at hba
  have hS0 : va_S (fun q => s.heap.size ≤ q) s.heap s.heap [] := va_S.rf
  refine lv_aload_n hx hb d_X0_play_0 rfl (lv_at hl 0 rfl) ?_
  refine lv_iload_n hx hb d_X0_play_1 rfl (lv_at hl 1 rfl) ?_
  have hP1 := hP.sub (ws' := [(o, .inr (0, [.long x, .long y, .int pl, .int (nI k), .ref a1, .ref a2, v6]))]) [0] rfl
  have hK1 := hK.sub (tys' := []) [] rfl
  refine vp_callSi (W.runV (b := o) (C := RX0) (As := [.int q]) (rest := []) ⟨hx, hb, hml, hown, hts⟩ (m_X0_mayPlay l D o x y pl (nI k) (.ref a1) (.ref a2) v6 q) (cwV 1 hts (tw_V ml_X0_75 im_X0_mayPlay se_X0_mayPlay in_X0 kw_X0_mayPlay) rfl rfl rfl (by decide +kernel) ⟨Nat.le_of_ble_eq_true rfl, Nat.le_of_ble_eq_true rfl⟩) ⟨fun a U g mk q => ⟨q.1, q.2.1, va_K.moved (u := U) (U := U.calling g mk a) (Vm.Alike.refl U.vm) q.2.2⟩, va_recv (q0 := 0) (ci := 0) hK hP rfl rfl, fun U hU hW => ⟨rfl, by rw [hU]; exact hP1, va_K.moved hW.alike hK1⟩⟩ rfl rfl hl.1 rfl (lv_room (Nat.le_of_ble_eq_true rfl)) d_X0_play_2 ⟨Nat.zero_le _, Nat.zero_le _⟩) (fun r hq => ?_)
  refine lv_if_ne (tgt := 18) hx hb d_X0_play_5 (by decide) (fun h0 => ?_) (fun h0 => ?_)
  · have hm : td_may x y q := hq.elim (fun z => z.1) (fun z => absurd z.2 h0)
    refine lv_aload_n hx hb d_X0_play_18 rfl (lv_at hl 0 rfl) ?_
    refine va_get (D := D) (ci := 0) (v := .int (nI k)) (C := RX0) (T := TX0) (N := 7) hx hb hts usX0 hown hK hP 0 rfl rfl 3 (by decide) (hts _ fl_X0_81) (fun _ h9 => h9) rfl d_X0_play_19 ?_
    refine lv_bipush (v := 64) hx hb d_X0_play_22 (by decide) ?_
    refine lv_icmp_lt (tgt := 37) hx hb d_X0_play_24 (by decide) (fun h1 => ?_) (fun h1 => ?_)
    · have hk4 : k < 64 := (nI_ltI (a := k) (b := 64) (by omega) (by omega)).mp h1
      refine lv_aload_n hx hb d_X0_play_37 rfl (lv_at hl 0 rfl) ?_
      refine lv_iload_n hx hb d_X0_play_38 rfl (lv_at hl 1 rfl) ?_
      have hPc := hP.sub (ws' := [(o, .inr (0, [.long x, .long y, .int pl, .int (nI k), .ref a1, .ref a2, v6])), (a1, .inl (cI, 64, .inl sq)), (a2, .inl (cJ, 64, .inr (.inl tu)))]) [0, 1, 2] rfl
      have hDc := hD.sub (ws' := [(o, .inr (0, [.long x, .long y, .int pl, .int (nI k), .ref a1, .ref a2, v6])), (a1, .inl (cI, 64, .inl sq)), (a2, .inl (cJ, 64, .inr (.inl tu)))]) [0, 1, 2] (by decide) rfl
      have hKc := hK.sub (tys' := [(cI, .int), (cJ, .long)]) [0, 1] rfl
      have hFc := va_free (wc := [(o, .inr (0, [.long x, .long y, .int pl, .int (nI k), .ref a1, .ref a2, v6])), (a1, .inl (cI, 64, .inl sq)), (a2, .inl (cJ, 64, .inr (.inl tu)))]) hD hS hA [0, 1, 2] rfl
      refine va_calli (va_runV (b := o) (C := RX0) (As := [.int q]) (rest := []) ⟨hx, hb, hml, hown, hts⟩ (m_X0_make l D _ o a1 a2 cI cJ x y pl k hk4 v6 sq tu q) (cwV 1 hts (tw_V ml_X0_89 im_X0_make se_X0_make in_X0 kw_X0_make) rfl rfl rfl (by decide +kernel) ⟨Nat.le_of_ble_eq_true rfl, Nat.le_of_ble_eq_true rfl⟩) ⟨fun a U g mk q => ⟨q.1, q.2.1, q.2.2.1, va_K.moved (u := U) (U := U.calling g mk a) (Vm.Alike.refl U.vm) q.2.2.2.1, q.2.2.2.2⟩, va_recv (q0 := 0) (ci := 0) hK hP rfl rfl, fun U hU hW => ⟨rfl, by rw [hU], by rw [hU]; exact hPc, va_K.moved hW.alike hKc, hDc.weaken (fun _ _ _ _ => trivial)⟩⟩ rfl rfl hl.1 rfl (lv_room (Nat.le_of_ble_eq_true rfl)) d_X0_play_39 ⟨Nat.zero_le _, Nat.zero_le _⟩) hS (fun q _ h => hFc q h) hFc (fun r u0 t0 H1 locs ht hvm hr2 hB hz1 hk1 hS => ?_)
      obtain ⟨hP1, hK1, hD1⟩ := hB
      rw [ht] at hP1
      obtain ⟨hP, hD⟩ := va_join (wr := []) (w1 := [(o, .inr (0, [.long (y ^^^ (td_turned x y (td_on q))), .long ((x ||| td_on q) ||| (td_turned x y (td_on q))), .int (1 - pl), .int (nI (k + 1)), .ref a1, .ref a2, v6])), (a1, .inl (cI, 64, .inl (upd sq k q))), (a2, .inl (cJ, 64, .inr (.inl (vp_updL tu k (td_turned x y (td_on q))))))]) hP hD [0, 1, 2] [] rfl rfl (by decide) (by decide) hk1 hFc hP1 hD1
      clear hPc hDc hKc hFc hP1 hK1 hD1 hk1 hz1
      have hP := hP.sub (ws' := [(o, .inr (0, [.long (y ^^^ (td_turned x y (td_on q))), .long ((x ||| td_on q) ||| (td_turned x y (td_on q))), .int (1 - pl), .int (nI (k + 1)), .ref a1, .ref a2, v6])), (a1, .inl (cI, 64, .inl (upd sq k q))), (a2, .inl (cJ, 64, .inr (.inl (vp_updL tu k (td_turned x y (td_on q))))))]) [0, 1, 2] rfl
      have hD := hD.sub (ws' := [(o, .inr (0, [.long (y ^^^ (td_turned x y (td_on q))), .long ((x ||| td_on q) ||| (td_turned x y (td_on q))), .int (1 - pl), .int (nI (k + 1)), .ref a1, .ref a2, v6])), (a1, .inl (cI, 64, .inl (upd sq k q))), (a2, .inl (cJ, 64, .inr (.inl (vp_updL tu k (td_turned x y (td_on q))))))]) [0, 1, 2] (by decide) rfl
      clear ht hvm
      generalize H1 = H at hP hS ⊢
      refine vx_ret (W.widen (k := 1) (n := 6) (Nat.le_of_ble_eq_true rfl) (Nat.le_of_ble_eq_true rfl) ?_)
      exact W.iret (v := r) hx hb hr (fun t ht hW => ⟨⟨_, (), rfl, ⟨hm, hk4, hr2⟩, by rw [ht]; exact hP, va_K.moved hW.alike hK, hD⟩, hS.F ht⟩) hS.2.2 d_X0_play_42
    · have hk4 : k = 64 := by have := (nI_ltI (a := k) (b := 64) (by omega) (by omega)); have h2 : ¬ k < 64 := fun z => h1 (this.mpr z); omega
      exact td_thr_ise 4 rfl hx hb hfl hown hts hX (fun q h => Nat.le_trans hb0 h) hS0 hS.2.2 (by rw [hml]; exact hl.1) d_X0_play_27 d_X0_play_30 d_X0_play_31 d_X0_play_33 d_X0_play_36 hno (Nat.le_of_ble_eq_true rfl) (Nat.le_of_ble_eq_true rfl) (Nat.le_of_ble_eq_true rfl) (Nat.le_of_ble_eq_true rfl) hlocks (Or.inr ⟨rfl, hm, hk4⟩) (Nat.le_of_ble_eq_true rfl) (Nat.le_of_ble_eq_true rfl)
  · have hm : ¬ td_may x y q := hq.elim (fun z => absurd (z.2.symm.trans h0) (by decide)) (fun z => z.1)
    exact td_thr_iae 3 rfl hx hb hfl hown hts hX (fun q h => Nat.le_trans hb0 h) hS0 hS.2.2 (by rw [hml]; exact hl.1) d_X0_play_8 d_X0_play_11 d_X0_play_12 d_X0_play_14 d_X0_play_17 hno (Nat.le_of_ble_eq_true rfl) (Nat.le_of_ble_eq_true rfl) (Nat.le_of_ble_eq_true rfl) (Nat.le_of_ble_eq_true rfl) hlocks (Or.inl ⟨rfl, hm⟩) (Nat.le_of_ble_eq_true rfl) (Nat.le_of_ble_eq_true rfl)
