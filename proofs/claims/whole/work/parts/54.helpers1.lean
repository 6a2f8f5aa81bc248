/-! the law's helpers: what is thrown is caught -/
set_option maxHeartbeats 4000000 in
set_option maxRecDepth 100000 in
theorem m_L_discs (l : Launch) (hfl : l.stackTraces = false) (D : va_G) (sz b0 : Nat) (hb0 : b0 ≤ sz) (o a1 a2 a3 w : Nat) (cI cJ cK : ClassId) (S : tdS) (pn : Nat → Int32) (fo : Nat → Int64) (q : Int32) (hba : ∀ q, va_A [(o, .inr (0, [.long (S.1), .long (S.2.1), .int (S.2.2.1), .int (nI S.2.2.2.1), .ref a1, .ref a2, .ref a3])), (a1, .inl (cI, 64, .inl S.2.2.2.2.1)), (a2, .inl (cJ, 64, .inr (.inl S.2.2.2.2.2))), (a3, .inl (cI, 14, .inl pn)), (w, .inl (cK, 1, .inr (.inl fo)))] sz q → b0 ≤ q) : Met l y_L_discs (k_L_discs :: tw) ({ frames := 8, cells := 1, slots := 6, locals := 123 }) (va_Pc [.ref o, .int q, .ref w] (fun U => U.heap.size = sz ∧ va_P D tdC [(o, .inr (0, [.long (S.1), .long (S.2.1), .int (S.2.2.1), .int (nI S.2.2.2.1), .ref a1, .ref a2, .ref a3])), (a1, .inl (cI, 64, .inl S.2.2.2.2.1)), (a2, .inl (cJ, 64, .inr (.inl S.2.2.2.2.2))), (a3, .inl (cI, 14, .inl pn)), (w, .inl (cK, 1, .inr (.inl fo)))] U.heap ∧ va_K D tdC [(cI, .int), (cJ, .long), (cK, .long)] U ∧ va_D (fun _ => True) [(o, .inr (0, [.long (S.1), .long (S.2.1), .int (S.2.2.1), .int (nI S.2.2.2.1), .ref a1, .ref a2, .ref a3])), (a1, .inl (cI, 64, .inl S.2.2.2.2.1)), (a2, .inl (cJ, 64, .inr (.inl S.2.2.2.2.2))), (a3, .inl (cI, 14, .inl pn)), (w, .inl (cK, 1, .inr (.inl fo)))] ∧ td_X b0 U ∧ va_Nc td_ise td_iae U)) (va_Qi (fun (r : Int32) (u : tdS × (Nat → Int32) × (Nat → Int64)) => u.1 = S ∧ ((r = 0 ∧ td_pl q ∧ u.2.2 0 = td_of S.1 S.2.1 S.2.2.1 q) ∨ (r = 1 ∧ ¬ td_pl q))) (fun (u : tdS × (Nat → Int32) × (Nat → Int64)) t => va_P D tdC [(o, .inr (0, [.long (u.1.1), .long (u.1.2.1), .int (u.1.2.2.1), .int (nI u.1.2.2.2.1), .ref a1, .ref a2, .ref a3])), (a1, .inl (cI, 64, .inl u.1.2.2.2.2.1)), (a2, .inl (cJ, 64, .inr (.inl u.1.2.2.2.2.2))), (a3, .inl (cI, 14, .inl u.2.1)), (w, .inl (cK, 1, .inr (.inl u.2.2)))] t.heap ∧ va_K D tdC [(cI, .int), (cJ, .long), (cK, .long)] t ∧ va_D (va_A [(o, .inr (0, [.long (S.1), .long (S.2.1), .int (S.2.2.1), .int (nI S.2.2.2.1), .ref a1, .ref a2, .ref a3])), (a1, .inl (cI, 64, .inl S.2.2.2.2.1)), (a2, .inl (cJ, 64, .inr (.inl S.2.2.2.2.2))), (a3, .inl (cI, 14, .inl pn)), (w, .inl (cK, 1, .inr (.inl fo)))] sz) [(o, .inr (0, [.long (u.1.1), .long (u.1.2.1), .int (u.1.2.2.1), .int (nI u.1.2.2.2.1), .ref a1, .ref a2, .ref a3])), (a1, .inl (cI, 64, .inl u.1.2.2.2.2.1)), (a2, .inl (cJ, 64, .inr (.inl u.1.2.2.2.2.2))), (a3, .inl (cI, 14, .inl u.2.1)), (w, .inl (cK, 1, .inr (.inl u.2.2)))]) (va_A [(o, .inr (0, [.long (S.1), .long (S.2.1), .int (S.2.2.1), .int (nI S.2.2.2.1), .ref a1, .ref a2, .ref a3])), (a1, .inl (cI, 64, .inl S.2.2.2.2.1)), (a2, .inl (cJ, 64, .inr (.inl S.2.2.2.2.2))), (a3, .inl (cI, 14, .inl pn)), (w, .inl (cK, 1, .inr (.inl fo)))] sz)) 1 6 (va_A [(o, .inr (0, [.long (S.1), .long (S.2.1), .int (S.2.2.1), .int (nI S.2.2.2.1), .ref a1, .ref a2, .ref a3])), (a1, .inl (cI, 64, .inl S.2.2.2.2.1)), (a2, .inl (cJ, 64, .inr (.inl S.2.2.2.2.2))), (a3, .inl (cI, 14, .inl pn)), (w, .inl (cK, 1, .inr (.inl fo)))] sz) := by
  refine td_ofWH (cc := c_L_discs) (maxL := 4) (ret := (some .int)) (by decide) rfl ?_
  intro p e s m args below meth c s₁ B hml htab hv
  obtain ⟨rfl, hsz, hP, hK, hD0, hX, hNc⟩ := hv
  have hx := B.exec
  have hb := B.bytes
  have hr := B.returns
  have hts : ∀ w ∈ tw, w.before _ s = true := fun w h => atoms_spec (ws := k_L_discs :: tw) B.pre w (List.mem_cons_of_mem _ h)
  have hown : s.vm.findClass RL = some m.cls := findClass_of_methodNamed B.named
  have hlocks := B.notSynchronized
  subst hsz
  have hD := hD0.self (sz := s.heap.size)
  generalize hAe : va_A [(o, .inr (0, [.long (S.1), .long (S.2.1), .int (S.2.2.1), .int (nI S.2.2.2.1), .ref a1, .ref a2, .ref a3])), (a1, .inl (cI, 64, .inl S.2.2.2.2.1)), (a2, .inl (cJ, 64, .inr (.inl S.2.2.2.2.2))), (a3, .inl (cI, 14, .inl pn)), (w, .inl (cK, 1, .inr (.inl fo)))] s.heap.size = A at hD ⊢
  have hA : ∀ q : Nat, s.heap.size ≤ q → A q := fun q h => by rw [← hAe]; exact Or.inr h
  have hS : va_S A s.heap s.heap [] := va_S.rf
  have hP : va_P D tdC [(o, .inr (0, [.long (S.1), .long (S.2.1), .int (S.2.2.1), .int (nI S.2.2.2.1), .ref a1, .ref a2, .ref a3])), (a1, .inl (cI, 64, .inl S.2.2.2.2.1)), (a2, .inl (cJ, 64, .inr (.inl S.2.2.2.2.2))), (a3, .inl (cI, 14, .inl pn)), (w, .inl (cK, 1, .inr (.inl fo)))] s.heap := hP
  have hl := lv_entry ([.ref o, .int q, .ref w]) (n := 4) (Nat.le_of_ble_eq_true rfl)
  rw [lg_entry_eq]
  generalize (lg_sl ([.ref o, .int q, .ref w]) ++ List.replicate (4 - (lg_sl ([.ref o, .int q, .ref w])).length) Slot.unset).toArray = ls at hl ⊢
  have hl : lv_has ls 4 [(0, .ref o), (1, .int q), (2, .ref w)] := hl
  rw [hAe] at hba
  refine lv_aload_n hx hb d_L_discs_0 rfl (lv_at hl 2 rfl) ?_
  refine lv_iconst (v := 0) hx hb d_L_discs_1 (by decide) ?_
  refine lv_aload_n hx hb d_L_discs_2 rfl (lv_at hl 0 rfl) ?_
  refine lv_iload_n hx hb d_L_discs_3 rfl (lv_at hl 1 rfl) ?_
  have hP1 := hP.sub (ws' := [(o, .inr (0, [.long (S.1), .long (S.2.1), .int (S.2.2.1), .int (nI S.2.2.2.1), .ref a1, .ref a2, .ref a3]))]) [0] rfl
  have hK1 := hK.sub (tys' := []) [] rfl
  refine vx_calll (vx_runV (b := o) (C := RX0) (As := [.int q]) (rest := [.int 0, .ref w]) ⟨hx, hb, hml, hown, hts⟩ (m_X0_discs l hfl D _ b0 (Nat.le_trans hb0 hS.1) o S.1 S.2.1 S.2.2.1 (nI S.2.2.2.1) (.ref a1) (.ref a2) (.ref a3) q) (cwV 1 hts (tw_V ml_L_15 im_X0_discs se_X0_discs in_X0 kw_X0_discs) rfl rfl rfl (by decide +kernel) ⟨Nat.le_of_ble_eq_true rfl, Nat.le_of_ble_eq_true rfl⟩) ⟨fun a U g mk q => ⟨q.1, q.2.1, q.2.2.1, va_K.moved (u := U) (U := U.calling g mk a) (Vm.Alike.refl U.vm) q.2.2.2.1, td_X.blind q.2.2.2.2⟩, va_recv (q0 := 0) (ci := 0) hK hP rfl rfl, fun U hU hW => ⟨rfl, by rw [hU], by rw [hU]; exact hP1, va_K.moved hW.alike hK1, td_X.at hX hW hU (fun q h1 h2 => hS.2.1 q h1 (fun z => Nat.not_le.mpr h2 (hba _ z)))⟩⟩ rfl rfl hl.1 rfl (lv_room (Nat.le_of_ble_eq_true rfl)) d_L_discs_4 ⟨Nat.le_of_ble_eq_true rfl, Nat.le_of_ble_eq_true rfl⟩) hS (fun q h1 h2 => absurd h2 (Nat.not_le.mpr h1)) (fun q h => hA q (Nat.le_trans hS.1 h)) (fun q h1 h2 => absurd h2 (Nat.not_le.mpr h1)) (fun E ce q9 u0 t0 H1 locs ht hal hpx hB hz1 hk1 hS hce hcv hcl => ?_) (fun r u0 t0 H1 locs ht hal hq hB hz1 hk1 hS => ?_)
  · obtain ⟨eE, hneg⟩ := hB
    subst eE
    have hP := td_keep hP hk1
    refine vx_catch (own := RL) (name := td_iae) hown [] ⟨0, 8, 11, 13⟩ [] (by rw [htab]; rfl) (fun z hz => absurd hz List.not_mem_nil) (by decide) (by decide) (hts _ cl_L_13) (va_Nw.use rfl hX.2.2.1) hce hcv hcl ?_
    refine lv_astore_n hx hb d_L_discs_11 rfl hl (by decide) rfl (fun ls hl => ?_)
    have hl : lv_has ls 4 [(3, .ref q9), (0, .ref o), (1, .int q), (2, .ref w)] := hl
    refine lv_iconst (v := 1) hx hb d_L_discs_12 (by decide) ?_
    exact W.iret (v := 1) hx hb hr (fun t ht hW => ⟨⟨_, (S, pn, fo), rfl, ⟨rfl, Or.inr ⟨rfl, hneg⟩⟩, by rw [ht]; exact hP, va_K.moved hW.alike hK, hD⟩, hS.F ht⟩) hS.2.2 d_L_discs_13
  · have hP := td_keep hP hk1
    clear ht hal hB hz1 hk1 hP1
    generalize H1 = H at hP hS ⊢
    refine va_last hx hb hK hP hD hS 4 2 rfl rfl (vp_in_nI (n := 0) (by decide) (by decide)) d_L_discs_7 (fun H locs hP hD hS => ?_)
    have hu : vp_updL fo (0 : Int32).toNatClampNeg r = (vp_updL fo 0 r) := rfl
    have hP : va_P D tdC [(o, .inr (0, [.long (S.1), .long (S.2.1), .int (S.2.2.1), .int (nI S.2.2.2.1), .ref a1, .ref a2, .ref a3])), (a1, .inl (cI, 64, .inl S.2.2.2.2.1)), (a2, .inl (cJ, 64, .inr (.inl S.2.2.2.2.2))), (a3, .inl (cI, 14, .inl pn)), (w, .inl (cK, 1, .inr (.inl (vp_updL fo (0 : Int32).toNatClampNeg r))))] H := hP
    have hD : va_D A [(o, .inr (0, [.long (S.1), .long (S.2.1), .int (S.2.2.1), .int (nI S.2.2.2.1), .ref a1, .ref a2, .ref a3])), (a1, .inl (cI, 64, .inl S.2.2.2.2.1)), (a2, .inl (cJ, 64, .inr (.inl S.2.2.2.2.2))), (a3, .inl (cI, 14, .inl pn)), (w, .inl (cK, 1, .inr (.inl (vp_updL fo (0 : Int32).toNatClampNeg r))))] := hD
    rw [hu] at hP hD
    clear hu
    have hP : va_P D tdC [(o, .inr (0, [.long (S.1), .long (S.2.1), .int (S.2.2.1), .int (nI S.2.2.2.1), .ref a1, .ref a2, .ref a3])), (a1, .inl (cI, 64, .inl S.2.2.2.2.1)), (a2, .inl (cJ, 64, .inr (.inl S.2.2.2.2.2))), (a3, .inl (cI, 14, .inl pn)), (w, .inl (cK, 1, .inr (.inl (vp_updL fo 0 r))))] H := hP
    have hD : va_D A [(o, .inr (0, [.long (S.1), .long (S.2.1), .int (S.2.2.1), .int (nI S.2.2.2.1), .ref a1, .ref a2, .ref a3])), (a1, .inl (cI, 64, .inl S.2.2.2.2.1)), (a2, .inl (cJ, 64, .inr (.inl S.2.2.2.2.2))), (a3, .inl (cI, 14, .inl pn)), (w, .inl (cK, 1, .inr (.inl (vp_updL fo 0 r))))] := hD
    refine lv_goto (tgt := 14) hx hb d_L_discs_8 (by decide) ?_
    refine lv_iconst (v := 0) hx hb d_L_discs_14 (by decide) ?_
    exact W.iret (v := 0) hx hb hr (fun t ht hW => ⟨⟨_, (S, pn, vp_updL fo 0 r), rfl, ⟨rfl, Or.inl ⟨rfl, hq.1, (show vp_updL fo 0 r 0 = _ from pk_uLs.trans hq.2)⟩⟩, by rw [ht]; exact hP, va_K.moved hW.alike hK, hD⟩, hS.F ht⟩) hS.2.2 d_L_discs_15
set_option maxHeartbeats 4000000 in
set_option maxRecDepth 100000 in
theorem m_L_turns (l : Launch) (hfl : l.stackTraces = false) (D : va_G) (sz b0 : Nat) (hb0 : b0 ≤ sz) (o a1 a2 a3 w : Nat) (cI cJ cK : ClassId) (S : tdS) (pn : Nat → Int32) (fo : Nat → Int64) (q : Int32) (hba : ∀ q, va_A [(o, .inr (0, [.long (S.1), .long (S.2.1), .int (S.2.2.1), .int (nI S.2.2.2.1), .ref a1, .ref a2, .ref a3])), (a1, .inl (cI, 64, .inl S.2.2.2.2.1)), (a2, .inl (cJ, 64, .inr (.inl S.2.2.2.2.2))), (a3, .inl (cI, 14, .inl pn)), (w, .inl (cK, 1, .inr (.inl fo)))] sz q → b0 ≤ q) : Met l y_L_turns (k_L_turns :: tw) ({ frames := 7, cells := 1, slots := 6, locals := 108 }) (va_Pc [.ref o, .int q, .ref w] (fun U => U.heap.size = sz ∧ va_P D tdC [(o, .inr (0, [.long (S.1), .long (S.2.1), .int (S.2.2.1), .int (nI S.2.2.2.1), .ref a1, .ref a2, .ref a3])), (a1, .inl (cI, 64, .inl S.2.2.2.2.1)), (a2, .inl (cJ, 64, .inr (.inl S.2.2.2.2.2))), (a3, .inl (cI, 14, .inl pn)), (w, .inl (cK, 1, .inr (.inl fo)))] U.heap ∧ va_K D tdC [(cI, .int), (cJ, .long), (cK, .long)] U ∧ va_D (fun _ => True) [(o, .inr (0, [.long (S.1), .long (S.2.1), .int (S.2.2.1), .int (nI S.2.2.2.1), .ref a1, .ref a2, .ref a3])), (a1, .inl (cI, 64, .inl S.2.2.2.2.1)), (a2, .inl (cJ, 64, .inr (.inl S.2.2.2.2.2))), (a3, .inl (cI, 14, .inl pn)), (w, .inl (cK, 1, .inr (.inl fo)))] ∧ td_X b0 U ∧ va_Nc td_ise td_iae U)) (va_Qi (fun (r : Int32) (u : tdS × (Nat → Int32) × (Nat → Int64)) => u.1 = S ∧ ((r = 0 ∧ (¬ q < 0 ∧ q < 64) ∧ u.2.2 0 = td_turns S.1 S.2.1 q) ∨ (r = 1 ∧ ¬ (¬ q < 0 ∧ q < 64)))) (fun (u : tdS × (Nat → Int32) × (Nat → Int64)) t => va_P D tdC [(o, .inr (0, [.long (u.1.1), .long (u.1.2.1), .int (u.1.2.2.1), .int (nI u.1.2.2.2.1), .ref a1, .ref a2, .ref a3])), (a1, .inl (cI, 64, .inl u.1.2.2.2.2.1)), (a2, .inl (cJ, 64, .inr (.inl u.1.2.2.2.2.2))), (a3, .inl (cI, 14, .inl u.2.1)), (w, .inl (cK, 1, .inr (.inl u.2.2)))] t.heap ∧ va_K D tdC [(cI, .int), (cJ, .long), (cK, .long)] t ∧ va_D (va_A [(o, .inr (0, [.long (S.1), .long (S.2.1), .int (S.2.2.1), .int (nI S.2.2.2.1), .ref a1, .ref a2, .ref a3])), (a1, .inl (cI, 64, .inl S.2.2.2.2.1)), (a2, .inl (cJ, 64, .inr (.inl S.2.2.2.2.2))), (a3, .inl (cI, 14, .inl pn)), (w, .inl (cK, 1, .inr (.inl fo)))] sz) [(o, .inr (0, [.long (u.1.1), .long (u.1.2.1), .int (u.1.2.2.1), .int (nI u.1.2.2.2.1), .ref a1, .ref a2, .ref a3])), (a1, .inl (cI, 64, .inl u.1.2.2.2.2.1)), (a2, .inl (cJ, 64, .inr (.inl u.1.2.2.2.2.2))), (a3, .inl (cI, 14, .inl u.2.1)), (w, .inl (cK, 1, .inr (.inl u.2.2)))]) (va_A [(o, .inr (0, [.long (S.1), .long (S.2.1), .int (S.2.2.1), .int (nI S.2.2.2.1), .ref a1, .ref a2, .ref a3])), (a1, .inl (cI, 64, .inl S.2.2.2.2.1)), (a2, .inl (cJ, 64, .inr (.inl S.2.2.2.2.2))), (a3, .inl (cI, 14, .inl pn)), (w, .inl (cK, 1, .inr (.inl fo)))] sz)) 1 6 (va_A [(o, .inr (0, [.long (S.1), .long (S.2.1), .int (S.2.2.1), .int (nI S.2.2.2.1), .ref a1, .ref a2, .ref a3])), (a1, .inl (cI, 64, .inl S.2.2.2.2.1)), (a2, .inl (cJ, 64, .inr (.inl S.2.2.2.2.2))), (a3, .inl (cI, 14, .inl pn)), (w, .inl (cK, 1, .inr (.inl fo)))] sz) := by
  refine td_ofWH (cc := c_L_turns) (maxL := 4) (ret := (some .int)) (by decide) rfl ?_
  intro p e s m args below meth c s₁ B hml htab hv
  obtain ⟨rfl, hsz, hP, hK, hD0, hX, hNc⟩ := hv
  have hx := B.exec
  have hb := B.bytes
  have hr := B.returns
  have hts : ∀ w ∈ tw, w.before _ s = true := fun w h => atoms_spec (ws := k_L_turns :: tw) B.pre w (List.mem_cons_of_mem _ h)
  have hown : s.vm.findClass RL = some m.cls := findClass_of_methodNamed B.named
  have hlocks := B.notSynchronized
  subst hsz
  have hD := hD0.self (sz := s.heap.size)
  generalize hAe : va_A [(o, .inr (0, [.long (S.1), .long (S.2.1), .int (S.2.2.1), .int (nI S.2.2.2.1), .ref a1, .ref a2, .ref a3])), (a1, .inl (cI, 64, .inl S.2.2.2.2.1)), (a2, .inl (cJ, 64, .inr (.inl S.2.2.2.2.2))), (a3, .inl (cI, 14, .inl pn)), (w, .inl (cK, 1, .inr (.inl fo)))] s.heap.size = A at hD ⊢
  have hA : ∀ q : Nat, s.heap.size ≤ q → A q := fun q h => by rw [← hAe]; exact Or.inr h
  have hS : va_S A s.heap s.heap [] := va_S.rf
  have hP : va_P D tdC [(o, .inr (0, [.long (S.1), .long (S.2.1), .int (S.2.2.1), .int (nI S.2.2.2.1), .ref a1, .ref a2, .ref a3])), (a1, .inl (cI, 64, .inl S.2.2.2.2.1)), (a2, .inl (cJ, 64, .inr (.inl S.2.2.2.2.2))), (a3, .inl (cI, 14, .inl pn)), (w, .inl (cK, 1, .inr (.inl fo)))] s.heap := hP
  have hl := lv_entry ([.ref o, .int q, .ref w]) (n := 4) (Nat.le_of_ble_eq_true rfl)
  rw [lg_entry_eq]
  generalize (lg_sl ([.ref o, .int q, .ref w]) ++ List.replicate (4 - (lg_sl ([.ref o, .int q, .ref w])).length) Slot.unset).toArray = ls at hl ⊢
  have hl : lv_has ls 4 [(0, .ref o), (1, .int q), (2, .ref w)] := hl
  rw [hAe] at hba
  refine lv_aload_n hx hb d_L_turns_0 rfl (lv_at hl 2 rfl) ?_
  refine lv_iconst (v := 0) hx hb d_L_turns_1 (by decide) ?_
  refine lv_aload_n hx hb d_L_turns_2 rfl (lv_at hl 0 rfl) ?_
  refine lv_iload_n hx hb d_L_turns_3 rfl (lv_at hl 1 rfl) ?_
  have hP1 := hP.sub (ws' := [(o, .inr (0, [.long (S.1), .long (S.2.1), .int (S.2.2.1), .int (nI S.2.2.2.1), .ref a1, .ref a2, .ref a3]))]) [0] rfl
  have hK1 := hK.sub (tys' := []) [] rfl
  refine vx_calll (vx_runV (b := o) (C := RX0) (As := [.int q]) (rest := [.int 0, .ref w]) ⟨hx, hb, hml, hown, hts⟩ (m_X0_turns l hfl D _ b0 (Nat.le_trans hb0 hS.1) o S.1 S.2.1 S.2.2.1 (nI S.2.2.2.1) (.ref a1) (.ref a2) (.ref a3) q) (cwV 1 hts (tw_V ml_L_19 im_X0_turns se_X0_turns in_X0 kw_X0_turns) rfl rfl rfl (by decide +kernel) ⟨Nat.le_of_ble_eq_true rfl, Nat.le_of_ble_eq_true rfl⟩) ⟨fun a U g mk q => ⟨q.1, q.2.1, q.2.2.1, va_K.moved (u := U) (U := U.calling g mk a) (Vm.Alike.refl U.vm) q.2.2.2.1, td_X.blind q.2.2.2.2⟩, va_recv (q0 := 0) (ci := 0) hK hP rfl rfl, fun U hU hW => ⟨rfl, by rw [hU], by rw [hU]; exact hP1, va_K.moved hW.alike hK1, td_X.at hX hW hU (fun q h1 h2 => hS.2.1 q h1 (fun z => Nat.not_le.mpr h2 (hba _ z)))⟩⟩ rfl rfl hl.1 rfl (lv_room (Nat.le_of_ble_eq_true rfl)) d_L_turns_4 ⟨Nat.le_of_ble_eq_true rfl, Nat.le_of_ble_eq_true rfl⟩) hS (fun q h1 h2 => absurd h2 (Nat.not_le.mpr h1)) (fun q h => hA q (Nat.le_trans hS.1 h)) (fun q h1 h2 => absurd h2 (Nat.not_le.mpr h1)) (fun E ce q9 u0 t0 H1 locs ht hal hpx hB hz1 hk1 hS hce hcv hcl => ?_) (fun r u0 t0 H1 locs ht hal hq hB hz1 hk1 hS => ?_)
  · obtain ⟨eE, hneg⟩ := hB
    subst eE
    have hP := td_keep hP hk1
    refine vx_catch (own := RL) (name := td_iae) hown [] ⟨0, 8, 11, 13⟩ [] (by rw [htab]; rfl) (fun z hz => absurd hz List.not_mem_nil) (by decide) (by decide) (hts _ cl_L_13) (va_Nw.use rfl hX.2.2.1) hce hcv hcl ?_
    refine lv_astore_n hx hb d_L_turns_11 rfl hl (by decide) rfl (fun ls hl => ?_)
    have hl : lv_has ls 4 [(3, .ref q9), (0, .ref o), (1, .int q), (2, .ref w)] := hl
    refine lv_iconst (v := 1) hx hb d_L_turns_12 (by decide) ?_
    exact W.iret (v := 1) hx hb hr (fun t ht hW => ⟨⟨_, (S, pn, fo), rfl, ⟨rfl, Or.inr ⟨rfl, hneg⟩⟩, by rw [ht]; exact hP, va_K.moved hW.alike hK, hD⟩, hS.F ht⟩) hS.2.2 d_L_turns_13
  · have hP := td_keep hP hk1
    clear ht hal hB hz1 hk1 hP1
    generalize H1 = H at hP hS ⊢
    refine va_last hx hb hK hP hD hS 4 2 rfl rfl (vp_in_nI (n := 0) (by decide) (by decide)) d_L_turns_7 (fun H locs hP hD hS => ?_)
    have hu : vp_updL fo (0 : Int32).toNatClampNeg r = (vp_updL fo 0 r) := rfl
    have hP : va_P D tdC [(o, .inr (0, [.long (S.1), .long (S.2.1), .int (S.2.2.1), .int (nI S.2.2.2.1), .ref a1, .ref a2, .ref a3])), (a1, .inl (cI, 64, .inl S.2.2.2.2.1)), (a2, .inl (cJ, 64, .inr (.inl S.2.2.2.2.2))), (a3, .inl (cI, 14, .inl pn)), (w, .inl (cK, 1, .inr (.inl (vp_updL fo (0 : Int32).toNatClampNeg r))))] H := hP
    have hD : va_D A [(o, .inr (0, [.long (S.1), .long (S.2.1), .int (S.2.2.1), .int (nI S.2.2.2.1), .ref a1, .ref a2, .ref a3])), (a1, .inl (cI, 64, .inl S.2.2.2.2.1)), (a2, .inl (cJ, 64, .inr (.inl S.2.2.2.2.2))), (a3, .inl (cI, 14, .inl pn)), (w, .inl (cK, 1, .inr (.inl (vp_updL fo (0 : Int32).toNatClampNeg r))))] := hD
    rw [hu] at hP hD
    clear hu
    have hP : va_P D tdC [(o, .inr (0, [.long (S.1), .long (S.2.1), .int (S.2.2.1), .int (nI S.2.2.2.1), .ref a1, .ref a2, .ref a3])), (a1, .inl (cI, 64, .inl S.2.2.2.2.1)), (a2, .inl (cJ, 64, .inr (.inl S.2.2.2.2.2))), (a3, .inl (cI, 14, .inl pn)), (w, .inl (cK, 1, .inr (.inl (vp_updL fo 0 r))))] H := hP
    have hD : va_D A [(o, .inr (0, [.long (S.1), .long (S.2.1), .int (S.2.2.1), .int (nI S.2.2.2.1), .ref a1, .ref a2, .ref a3])), (a1, .inl (cI, 64, .inl S.2.2.2.2.1)), (a2, .inl (cJ, 64, .inr (.inl S.2.2.2.2.2))), (a3, .inl (cI, 14, .inl pn)), (w, .inl (cK, 1, .inr (.inl (vp_updL fo 0 r))))] := hD
    refine lv_goto (tgt := 14) hx hb d_L_turns_8 (by decide) ?_
    refine lv_iconst (v := 0) hx hb d_L_turns_14 (by decide) ?_
    exact W.iret (v := 0) hx hb hr (fun t ht hW => ⟨⟨_, (S, pn, vp_updL fo 0 r), rfl, ⟨rfl, Or.inl ⟨rfl, hq.1, (show vp_updL fo 0 r 0 = _ from pk_uLs.trans hq.2)⟩⟩, by rw [ht]; exact hP, va_K.moved hW.alike hK, hD⟩, hS.F ht⟩) hS.2.2 d_L_turns_15
set_option maxHeartbeats 4000000 in
set_option maxRecDepth 100000 in
theorem m_L_count (l : Launch) (hfl : l.stackTraces = false) (D : va_G) (sz b0 : Nat) (hb0 : b0 ≤ sz) (o a1 a2 a3 w : Nat) (cI cJ cK : ClassId) (S : tdS) (pn : Nat → Int32) (fo : Nat → Int64) (q : Int32) (hba : ∀ q, va_A [(o, .inr (0, [.long (S.1), .long (S.2.1), .int (S.2.2.1), .int (nI S.2.2.2.1), .ref a1, .ref a2, .ref a3])), (a1, .inl (cI, 64, .inl S.2.2.2.2.1)), (a2, .inl (cJ, 64, .inr (.inl S.2.2.2.2.2))), (a3, .inl (cI, 14, .inl pn)), (w, .inl (cK, 1, .inr (.inl fo)))] sz q → b0 ≤ q) : Met l y_L_count (k_L_count :: tw) ({ frames := 9, cells := 1, slots := 6, locals := 276 }) (va_Pc [.ref o, .int q, .ref w] (fun U => U.heap.size = sz ∧ va_P D tdC [(o, .inr (0, [.long (S.1), .long (S.2.1), .int (S.2.2.1), .int (nI S.2.2.2.1), .ref a1, .ref a2, .ref a3])), (a1, .inl (cI, 64, .inl S.2.2.2.2.1)), (a2, .inl (cJ, 64, .inr (.inl S.2.2.2.2.2))), (a3, .inl (cI, 14, .inl pn)), (w, .inl (cK, 1, .inr (.inl fo)))] U.heap ∧ va_K D tdC [(cI, .int), (cJ, .long), (cK, .long)] U ∧ va_D (fun _ => True) [(o, .inr (0, [.long (S.1), .long (S.2.1), .int (S.2.2.1), .int (nI S.2.2.2.1), .ref a1, .ref a2, .ref a3])), (a1, .inl (cI, 64, .inl S.2.2.2.2.1)), (a2, .inl (cJ, 64, .inr (.inl S.2.2.2.2.2))), (a3, .inl (cI, 14, .inl pn)), (w, .inl (cK, 1, .inr (.inl fo)))] ∧ td_X b0 U ∧ va_Nc td_ise td_iae U)) (va_Qi (fun (r : Int32) (u : tdS × (Nat → Int32) × (Nat → Int64)) => u.1 = S ∧ ((r = 0 ∧ ∃ j : Nat, j ≤ 4 ∧ q = nI j ∧ u.2.2 0 = td_rows j S.1 S.2.1) ∨ (r = 1 ∧ ¬ (¬ q < 0 ∧ q ≤ 4)))) (fun (u : tdS × (Nat → Int32) × (Nat → Int64)) t => va_P D tdC [(o, .inr (0, [.long (u.1.1), .long (u.1.2.1), .int (u.1.2.2.1), .int (nI u.1.2.2.2.1), .ref a1, .ref a2, .ref a3])), (a1, .inl (cI, 64, .inl u.1.2.2.2.2.1)), (a2, .inl (cJ, 64, .inr (.inl u.1.2.2.2.2.2))), (a3, .inl (cI, 14, .inl u.2.1)), (w, .inl (cK, 1, .inr (.inl u.2.2)))] t.heap ∧ va_K D tdC [(cI, .int), (cJ, .long), (cK, .long)] t ∧ va_D (va_A [(o, .inr (0, [.long (S.1), .long (S.2.1), .int (S.2.2.1), .int (nI S.2.2.2.1), .ref a1, .ref a2, .ref a3])), (a1, .inl (cI, 64, .inl S.2.2.2.2.1)), (a2, .inl (cJ, 64, .inr (.inl S.2.2.2.2.2))), (a3, .inl (cI, 14, .inl pn)), (w, .inl (cK, 1, .inr (.inl fo)))] sz) [(o, .inr (0, [.long (u.1.1), .long (u.1.2.1), .int (u.1.2.2.1), .int (nI u.1.2.2.2.1), .ref a1, .ref a2, .ref a3])), (a1, .inl (cI, 64, .inl u.1.2.2.2.2.1)), (a2, .inl (cJ, 64, .inr (.inl u.1.2.2.2.2.2))), (a3, .inl (cI, 14, .inl u.2.1)), (w, .inl (cK, 1, .inr (.inl u.2.2)))]) (va_A [(o, .inr (0, [.long (S.1), .long (S.2.1), .int (S.2.2.1), .int (nI S.2.2.2.1), .ref a1, .ref a2, .ref a3])), (a1, .inl (cI, 64, .inl S.2.2.2.2.1)), (a2, .inl (cJ, 64, .inr (.inl S.2.2.2.2.2))), (a3, .inl (cI, 14, .inl pn)), (w, .inl (cK, 1, .inr (.inl fo)))] sz)) 1 6 (va_A [(o, .inr (0, [.long (S.1), .long (S.2.1), .int (S.2.2.1), .int (nI S.2.2.2.1), .ref a1, .ref a2, .ref a3])), (a1, .inl (cI, 64, .inl S.2.2.2.2.1)), (a2, .inl (cJ, 64, .inr (.inl S.2.2.2.2.2))), (a3, .inl (cI, 14, .inl pn)), (w, .inl (cK, 1, .inr (.inl fo)))] sz) := by
  refine td_ofWH (cc := c_L_count) (maxL := 4) (ret := (some .int)) (by decide) rfl ?_
  intro p e s m args below meth c s₁ B hml htab hv
  obtain ⟨rfl, hsz, hP, hK, hD0, hX, hNc⟩ := hv
  have hx := B.exec
  have hb := B.bytes
  have hr := B.returns
  have hts : ∀ w ∈ tw, w.before _ s = true := fun w h => atoms_spec (ws := k_L_count :: tw) B.pre w (List.mem_cons_of_mem _ h)
  have hown : s.vm.findClass RL = some m.cls := findClass_of_methodNamed B.named
  have hlocks := B.notSynchronized
  subst hsz
  have hD := hD0.self (sz := s.heap.size)
  generalize hAe : va_A [(o, .inr (0, [.long (S.1), .long (S.2.1), .int (S.2.2.1), .int (nI S.2.2.2.1), .ref a1, .ref a2, .ref a3])), (a1, .inl (cI, 64, .inl S.2.2.2.2.1)), (a2, .inl (cJ, 64, .inr (.inl S.2.2.2.2.2))), (a3, .inl (cI, 14, .inl pn)), (w, .inl (cK, 1, .inr (.inl fo)))] s.heap.size = A at hD ⊢
  have hA : ∀ q : Nat, s.heap.size ≤ q → A q := fun q h => by rw [← hAe]; exact Or.inr h
  have hS : va_S A s.heap s.heap [] := va_S.rf
  have hP : va_P D tdC [(o, .inr (0, [.long (S.1), .long (S.2.1), .int (S.2.2.1), .int (nI S.2.2.2.1), .ref a1, .ref a2, .ref a3])), (a1, .inl (cI, 64, .inl S.2.2.2.2.1)), (a2, .inl (cJ, 64, .inr (.inl S.2.2.2.2.2))), (a3, .inl (cI, 14, .inl pn)), (w, .inl (cK, 1, .inr (.inl fo)))] s.heap := hP
  have hl := lv_entry ([.ref o, .int q, .ref w]) (n := 4) (Nat.le_of_ble_eq_true rfl)
  rw [lg_entry_eq]
  generalize (lg_sl ([.ref o, .int q, .ref w]) ++ List.replicate (4 - (lg_sl ([.ref o, .int q, .ref w])).length) Slot.unset).toArray = ls at hl ⊢
  have hl : lv_has ls 4 [(0, .ref o), (1, .int q), (2, .ref w)] := hl
  rw [hAe] at hba
  refine lv_aload_n hx hb d_L_count_0 rfl (lv_at hl 2 rfl) ?_
  refine lv_iconst (v := 0) hx hb d_L_count_1 (by decide) ?_
  refine lv_aload_n hx hb d_L_count_2 rfl (lv_at hl 0 rfl) ?_
  refine lv_iload_n hx hb d_L_count_3 rfl (lv_at hl 1 rfl) ?_
  have hP1 := hP.sub (ws' := [(o, .inr (0, [.long (S.1), .long (S.2.1), .int (S.2.2.1), .int (nI S.2.2.2.1), .ref a1, .ref a2, .ref a3]))]) [0] rfl
  have hK1 := hK.sub (tys' := []) [] rfl
  refine vx_calll (vx_runV (b := o) (C := RX0) (As := [.int q]) (rest := [.int 0, .ref w]) ⟨hx, hb, hml, hown, hts⟩ (m_X0_count l hfl D _ b0 (Nat.le_trans hb0 hS.1) o S.1 S.2.1 S.2.2.1 (nI S.2.2.2.1) (.ref a1) (.ref a2) (.ref a3) q) (cwV 1 hts (tw_V ml_L_34 im_X0_count se_X0_count in_X0 kw_X0_count) rfl rfl rfl (by decide +kernel) ⟨Nat.le_of_ble_eq_true rfl, Nat.le_of_ble_eq_true rfl⟩) ⟨fun a U g mk q => ⟨q.1, q.2.1, q.2.2.1, va_K.moved (u := U) (U := U.calling g mk a) (Vm.Alike.refl U.vm) q.2.2.2.1, td_X.blind q.2.2.2.2⟩, va_recv (q0 := 0) (ci := 0) hK hP rfl rfl, fun U hU hW => ⟨rfl, by rw [hU], by rw [hU]; exact hP1, va_K.moved hW.alike hK1, td_X.at hX hW hU (fun q h1 h2 => hS.2.1 q h1 (fun z => Nat.not_le.mpr h2 (hba _ z)))⟩⟩ rfl rfl hl.1 rfl (lv_room (Nat.le_of_ble_eq_true rfl)) d_L_count_4 ⟨Nat.le_of_ble_eq_true rfl, Nat.le_of_ble_eq_true rfl⟩) hS (fun q h1 h2 => absurd h2 (Nat.not_le.mpr h1)) (fun q h => hA q (Nat.le_trans hS.1 h)) (fun q h1 h2 => absurd h2 (Nat.not_le.mpr h1)) (fun E ce q9 u0 t0 H1 locs ht hal hpx hB hz1 hk1 hS hce hcv hcl => ?_) (fun r u0 t0 H1 locs ht hal hq hB hz1 hk1 hS => ?_)
  · obtain ⟨eE, hneg⟩ := hB
    subst eE
    have hP := td_keep hP hk1
    refine vx_catch (own := RL) (name := td_iae) hown [] ⟨0, 8, 11, 13⟩ [] (by rw [htab]; rfl) (fun z hz => absurd hz List.not_mem_nil) (by decide) (by decide) (hts _ cl_L_13) (va_Nw.use rfl hX.2.2.1) hce hcv hcl ?_
    refine lv_astore_n hx hb d_L_count_11 rfl hl (by decide) rfl (fun ls hl => ?_)
    have hl : lv_has ls 4 [(3, .ref q9), (0, .ref o), (1, .int q), (2, .ref w)] := hl
    refine lv_iconst (v := 1) hx hb d_L_count_12 (by decide) ?_
    exact W.iret (v := 1) hx hb hr (fun t ht hW => ⟨⟨_, (S, pn, fo), rfl, ⟨rfl, Or.inr ⟨rfl, hneg⟩⟩, by rw [ht]; exact hP, va_K.moved hW.alike hK, hD⟩, hS.F ht⟩) hS.2.2 d_L_count_13
  · have hP := td_keep hP hk1
    clear ht hal hB hz1 hk1 hP1
    generalize H1 = H at hP hS ⊢
    refine va_last hx hb hK hP hD hS 4 2 rfl rfl (vp_in_nI (n := 0) (by decide) (by decide)) d_L_count_7 (fun H locs hP hD hS => ?_)
    have hu : vp_updL fo (0 : Int32).toNatClampNeg r = (vp_updL fo 0 r) := rfl
    have hP : va_P D tdC [(o, .inr (0, [.long (S.1), .long (S.2.1), .int (S.2.2.1), .int (nI S.2.2.2.1), .ref a1, .ref a2, .ref a3])), (a1, .inl (cI, 64, .inl S.2.2.2.2.1)), (a2, .inl (cJ, 64, .inr (.inl S.2.2.2.2.2))), (a3, .inl (cI, 14, .inl pn)), (w, .inl (cK, 1, .inr (.inl (vp_updL fo (0 : Int32).toNatClampNeg r))))] H := hP
    have hD : va_D A [(o, .inr (0, [.long (S.1), .long (S.2.1), .int (S.2.2.1), .int (nI S.2.2.2.1), .ref a1, .ref a2, .ref a3])), (a1, .inl (cI, 64, .inl S.2.2.2.2.1)), (a2, .inl (cJ, 64, .inr (.inl S.2.2.2.2.2))), (a3, .inl (cI, 14, .inl pn)), (w, .inl (cK, 1, .inr (.inl (vp_updL fo (0 : Int32).toNatClampNeg r))))] := hD
    rw [hu] at hP hD
    clear hu
    have hP : va_P D tdC [(o, .inr (0, [.long (S.1), .long (S.2.1), .int (S.2.2.1), .int (nI S.2.2.2.1), .ref a1, .ref a2, .ref a3])), (a1, .inl (cI, 64, .inl S.2.2.2.2.1)), (a2, .inl (cJ, 64, .inr (.inl S.2.2.2.2.2))), (a3, .inl (cI, 14, .inl pn)), (w, .inl (cK, 1, .inr (.inl (vp_updL fo 0 r))))] H := hP
    have hD : va_D A [(o, .inr (0, [.long (S.1), .long (S.2.1), .int (S.2.2.1), .int (nI S.2.2.2.1), .ref a1, .ref a2, .ref a3])), (a1, .inl (cI, 64, .inl S.2.2.2.2.1)), (a2, .inl (cJ, 64, .inr (.inl S.2.2.2.2.2))), (a3, .inl (cI, 14, .inl pn)), (w, .inl (cK, 1, .inr (.inl (vp_updL fo 0 r))))] := hD
    refine lv_goto (tgt := 14) hx hb d_L_count_8 (by decide) ?_
    refine lv_iconst (v := 0) hx hb d_L_count_14 (by decide) ?_
    exact W.iret (v := 0) hx hb hr (fun t ht hW => ⟨⟨_, (S, pn, vp_updL fo 0 r), rfl, ⟨rfl, Or.inl ⟨rfl, (by obtain ⟨j, j1, j2, j3⟩ := hq; exact ⟨j, j1, j2, (show vp_updL fo 0 r 0 = _ from pk_uLs.trans j3)⟩)⟩⟩, by rw [ht]; exact hP, va_K.moved hW.alike hK, hD⟩, hS.F ht⟩) hS.2.2 d_L_count_15
set_option maxHeartbeats 4000000 in
set_option maxRecDepth 100000 in
theorem m_L_outcome (l : Launch) (hfl : l.stackTraces = false) (D : va_G) (sz b0 : Nat) (hb0 : b0 ≤ sz) (o a1 a2 a3 w : Nat) (cI cJ cK : ClassId) (S : tdS) (pn : Nat → Int32) (fo : Nat → Int64) (hba : ∀ q, va_A [(o, .inr (0, [.long (S.1), .long (S.2.1), .int (S.2.2.1), .int (nI S.2.2.2.1), .ref a1, .ref a2, .ref a3])), (a1, .inl (cI, 64, .inl S.2.2.2.2.1)), (a2, .inl (cJ, 64, .inr (.inl S.2.2.2.2.2))), (a3, .inl (cI, 14, .inl pn)), (w, .inl (cK, 1, .inr (.inl fo)))] sz q → b0 ≤ q) : Met l y_L_outcome (k_L_outcome :: tw) ({ frames := 33, cells := 1, slots := 6, locals := 1030 }) (va_Pc [.ref o, .ref w] (fun U => U.heap.size = sz ∧ va_P D tdC [(o, .inr (0, [.long (S.1), .long (S.2.1), .int (S.2.2.1), .int (nI S.2.2.2.1), .ref a1, .ref a2, .ref a3])), (a1, .inl (cI, 64, .inl S.2.2.2.2.1)), (a2, .inl (cJ, 64, .inr (.inl S.2.2.2.2.2))), (a3, .inl (cI, 14, .inl pn)), (w, .inl (cK, 1, .inr (.inl fo)))] U.heap ∧ va_K D tdC [(cI, .int), (cJ, .long), (cK, .long)] U ∧ va_D (fun _ => True) [(o, .inr (0, [.long (S.1), .long (S.2.1), .int (S.2.2.1), .int (nI S.2.2.2.1), .ref a1, .ref a2, .ref a3])), (a1, .inl (cI, 64, .inl S.2.2.2.2.1)), (a2, .inl (cJ, 64, .inr (.inl S.2.2.2.2.2))), (a3, .inl (cI, 14, .inl pn)), (w, .inl (cK, 1, .inr (.inl fo)))] ∧ td_X b0 U ∧ va_Nc td_ise td_iae U)) (va_Qi (fun (r : Int32) (u : tdS × (Nat → Int32) × (Nat → Int64)) => u.1 = S ∧ ((r = 0 ∧ td_few S.1 S.2.1 ∧ u.2.2 0 = (td_worth 14 S.1 S.2.1 (-65) 65).toInt64) ∨ (r = 1 ∧ ¬ td_few S.1 S.2.1))) (fun (u : tdS × (Nat → Int32) × (Nat → Int64)) t => va_P D tdC [(o, .inr (0, [.long (u.1.1), .long (u.1.2.1), .int (u.1.2.2.1), .int (nI u.1.2.2.2.1), .ref a1, .ref a2, .ref a3])), (a1, .inl (cI, 64, .inl u.1.2.2.2.2.1)), (a2, .inl (cJ, 64, .inr (.inl u.1.2.2.2.2.2))), (a3, .inl (cI, 14, .inl u.2.1)), (w, .inl (cK, 1, .inr (.inl u.2.2)))] t.heap ∧ va_K D tdC [(cI, .int), (cJ, .long), (cK, .long)] t ∧ va_D (va_A [(o, .inr (0, [.long (S.1), .long (S.2.1), .int (S.2.2.1), .int (nI S.2.2.2.1), .ref a1, .ref a2, .ref a3])), (a1, .inl (cI, 64, .inl S.2.2.2.2.1)), (a2, .inl (cJ, 64, .inr (.inl S.2.2.2.2.2))), (a3, .inl (cI, 14, .inl pn)), (w, .inl (cK, 1, .inr (.inl fo)))] sz) [(o, .inr (0, [.long (u.1.1), .long (u.1.2.1), .int (u.1.2.2.1), .int (nI u.1.2.2.2.1), .ref a1, .ref a2, .ref a3])), (a1, .inl (cI, 64, .inl u.1.2.2.2.2.1)), (a2, .inl (cJ, 64, .inr (.inl u.1.2.2.2.2.2))), (a3, .inl (cI, 14, .inl u.2.1)), (w, .inl (cK, 1, .inr (.inl u.2.2)))]) (va_A [(o, .inr (0, [.long (S.1), .long (S.2.1), .int (S.2.2.1), .int (nI S.2.2.2.1), .ref a1, .ref a2, .ref a3])), (a1, .inl (cI, 64, .inl S.2.2.2.2.1)), (a2, .inl (cJ, 64, .inr (.inl S.2.2.2.2.2))), (a3, .inl (cI, 14, .inl pn)), (w, .inl (cK, 1, .inr (.inl fo)))] sz)) 1 6 (va_A [(o, .inr (0, [.long (S.1), .long (S.2.1), .int (S.2.2.1), .int (nI S.2.2.2.1), .ref a1, .ref a2, .ref a3])), (a1, .inl (cI, 64, .inl S.2.2.2.2.1)), (a2, .inl (cJ, 64, .inr (.inl S.2.2.2.2.2))), (a3, .inl (cI, 14, .inl pn)), (w, .inl (cK, 1, .inr (.inl fo)))] sz) := by
  refine td_ofWH (cc := c_L_outcome) (maxL := 3) (ret := (some .int)) (by decide) rfl ?_
  intro p e s m args below meth c s₁ B hml htab hv
  obtain ⟨rfl, hsz, hP, hK, hD0, hX, hNc⟩ := hv
  have hx := B.exec
  have hb := B.bytes
  have hr := B.returns
  have hts : ∀ w ∈ tw, w.before _ s = true := fun w h => atoms_spec (ws := k_L_outcome :: tw) B.pre w (List.mem_cons_of_mem _ h)
  have hown : s.vm.findClass RL = some m.cls := findClass_of_methodNamed B.named
  have hlocks := B.notSynchronized
  subst hsz
  have hD := hD0.self (sz := s.heap.size)
  generalize hAe : va_A [(o, .inr (0, [.long (S.1), .long (S.2.1), .int (S.2.2.1), .int (nI S.2.2.2.1), .ref a1, .ref a2, .ref a3])), (a1, .inl (cI, 64, .inl S.2.2.2.2.1)), (a2, .inl (cJ, 64, .inr (.inl S.2.2.2.2.2))), (a3, .inl (cI, 14, .inl pn)), (w, .inl (cK, 1, .inr (.inl fo)))] s.heap.size = A at hD ⊢
  have hA : ∀ q : Nat, s.heap.size ≤ q → A q := fun q h => by rw [← hAe]; exact Or.inr h
  have hS : va_S A s.heap s.heap [] := va_S.rf
  have hP : va_P D tdC [(o, .inr (0, [.long (S.1), .long (S.2.1), .int (S.2.2.1), .int (nI S.2.2.2.1), .ref a1, .ref a2, .ref a3])), (a1, .inl (cI, 64, .inl S.2.2.2.2.1)), (a2, .inl (cJ, 64, .inr (.inl S.2.2.2.2.2))), (a3, .inl (cI, 14, .inl pn)), (w, .inl (cK, 1, .inr (.inl fo)))] s.heap := hP
  have hl := lv_entry ([.ref o, .ref w]) (n := 3) (Nat.le_of_ble_eq_true rfl)
  rw [lg_entry_eq]
  generalize (lg_sl ([.ref o, .ref w]) ++ List.replicate (3 - (lg_sl ([.ref o, .ref w])).length) Slot.unset).toArray = ls at hl ⊢
  have hl : lv_has ls 3 [(0, .ref o), (1, .ref w)] := hl
  rw [hAe] at hba
  refine lv_aload_n hx hb d_L_outcome_0 rfl (lv_at hl 1 rfl) ?_
  refine lv_iconst (v := 0) hx hb d_L_outcome_1 (by decide) ?_
  refine lv_aload_n hx hb d_L_outcome_2 rfl (lv_at hl 0 rfl) ?_
  have hP1 := hP.sub (ws' := [(o, .inr (0, [.long (S.1), .long (S.2.1), .int (S.2.2.1), .int (nI S.2.2.2.1), .ref a1, .ref a2, .ref a3]))]) [0] rfl
  have hK1 := hK.sub (tys' := []) [] rfl
  refine vx_calli (vx_runV (b := o) (C := RX0) (As := []) (rest := [.int 0, .ref w]) ⟨hx, hb, hml, hown, hts⟩ (m_X0_outcome l hfl D _ b0 (Nat.le_trans hb0 hS.1) o S.1 S.2.1 S.2.2.1 (nI S.2.2.2.1) (.ref a1) (.ref a2) (.ref a3)) (cwV 0 hts (tw_V ml_L_37 im_X0_outcome se_X0_outcome in_X0 kw_X0_outcome) rfl rfl rfl (by decide +kernel) ⟨Nat.le_of_ble_eq_true rfl, Nat.le_of_ble_eq_true rfl⟩) ⟨fun a U g mk q => ⟨q.1, q.2.1, q.2.2.1, va_K.moved (u := U) (U := U.calling g mk a) (Vm.Alike.refl U.vm) q.2.2.2.1, td_X.blind q.2.2.2.2⟩, va_recv (q0 := 0) (ci := 0) hK hP rfl rfl, fun U hU hW => ⟨rfl, by rw [hU], by rw [hU]; exact hP1, va_K.moved hW.alike hK1, td_X.at hX hW hU (fun q h1 h2 => hS.2.1 q h1 (fun z => Nat.not_le.mpr h2 (hba _ z)))⟩⟩ rfl rfl hl.1 rfl (lv_room (Nat.le_of_ble_eq_true rfl)) d_L_outcome_3 ⟨Nat.le_of_ble_eq_true rfl, Nat.le_of_ble_eq_true rfl⟩) hS (fun q h1 h2 => absurd h2 (Nat.not_le.mpr h1)) (fun q h => hA q (Nat.le_trans hS.1 h)) (fun q h1 h2 => absurd h2 (Nat.not_le.mpr h1)) (fun E ce q9 u0 t0 H1 locs ht hal hpx hB hz1 hk1 hS hce hcv hcl => ?_) (fun r u0 t0 H1 locs ht hal hq hB hz1 hk1 hS => ?_)
  · obtain ⟨eE, hneg⟩ := hB
    subst eE
    have hP := td_keep hP hk1
    refine vx_catch (own := RL) (name := td_ise) hown [] ⟨0, 8, 11, 26⟩ [] (by rw [htab]; rfl) (fun z hz => absurd hz List.not_mem_nil) (by decide) (by decide) (hts _ cl_L_26) (va_Nw.use rfl hX.2.2.2.1) hce hcv hcl ?_
    refine lv_astore_n hx hb d_L_outcome_11 rfl hl (by decide) rfl (fun ls hl => ?_)
    have hl : lv_has ls 3 [(2, .ref q9), (0, .ref o), (1, .ref w)] := hl
    refine lv_iconst (v := 1) hx hb d_L_outcome_12 (by decide) ?_
    exact W.iret (v := 1) hx hb hr (fun t ht hW => ⟨⟨_, (S, pn, fo), rfl, ⟨rfl, Or.inr ⟨rfl, hneg⟩⟩, by rw [ht]; exact hP, va_K.moved hW.alike hK, hD⟩, hS.F ht⟩) hS.2.2 d_L_outcome_13
  · have hP := td_keep hP hk1
    clear ht hal hB hz1 hk1 hP1
    generalize H1 = H at hP hS ⊢
    refine lv_i2l (v := (r.toInt64)) hx hb d_L_outcome_6 rfl ?_
    refine va_last hx hb hK hP hD hS 4 2 rfl rfl (vp_in_nI (n := 0) (by decide) (by decide)) d_L_outcome_7 (fun H locs hP hD hS => ?_)
    have hu : vp_updL fo (0 : Int32).toNatClampNeg (r.toInt64) = (vp_updL fo 0 (r.toInt64)) := rfl
    have hP : va_P D tdC [(o, .inr (0, [.long (S.1), .long (S.2.1), .int (S.2.2.1), .int (nI S.2.2.2.1), .ref a1, .ref a2, .ref a3])), (a1, .inl (cI, 64, .inl S.2.2.2.2.1)), (a2, .inl (cJ, 64, .inr (.inl S.2.2.2.2.2))), (a3, .inl (cI, 14, .inl pn)), (w, .inl (cK, 1, .inr (.inl (vp_updL fo (0 : Int32).toNatClampNeg (r.toInt64)))))] H := hP
    have hD : va_D A [(o, .inr (0, [.long (S.1), .long (S.2.1), .int (S.2.2.1), .int (nI S.2.2.2.1), .ref a1, .ref a2, .ref a3])), (a1, .inl (cI, 64, .inl S.2.2.2.2.1)), (a2, .inl (cJ, 64, .inr (.inl S.2.2.2.2.2))), (a3, .inl (cI, 14, .inl pn)), (w, .inl (cK, 1, .inr (.inl (vp_updL fo (0 : Int32).toNatClampNeg (r.toInt64)))))] := hD
    rw [hu] at hP hD
    clear hu
    have hP : va_P D tdC [(o, .inr (0, [.long (S.1), .long (S.2.1), .int (S.2.2.1), .int (nI S.2.2.2.1), .ref a1, .ref a2, .ref a3])), (a1, .inl (cI, 64, .inl S.2.2.2.2.1)), (a2, .inl (cJ, 64, .inr (.inl S.2.2.2.2.2))), (a3, .inl (cI, 14, .inl pn)), (w, .inl (cK, 1, .inr (.inl (vp_updL fo 0 (r.toInt64)))))] H := hP
    have hD : va_D A [(o, .inr (0, [.long (S.1), .long (S.2.1), .int (S.2.2.1), .int (nI S.2.2.2.1), .ref a1, .ref a2, .ref a3])), (a1, .inl (cI, 64, .inl S.2.2.2.2.1)), (a2, .inl (cJ, 64, .inr (.inl S.2.2.2.2.2))), (a3, .inl (cI, 14, .inl pn)), (w, .inl (cK, 1, .inr (.inl (vp_updL fo 0 (r.toInt64)))))] := hD
    refine lv_goto (tgt := 14) hx hb d_L_outcome_8 (by decide) ?_
    refine lv_iconst (v := 0) hx hb d_L_outcome_14 (by decide) ?_
    exact W.iret (v := 0) hx hb hr (fun t ht hW => ⟨⟨_, (S, pn, vp_updL fo 0 (r.toInt64)), rfl, ⟨rfl, Or.inl ⟨rfl, hq.1, (show vp_updL fo 0 (r.toInt64) 0 = _ by rw [pk_uLs, hq.2])⟩⟩, by rw [ht]; exact hP, va_K.moved hW.alike hK, hD⟩, hS.F ht⟩) hS.2.2 d_L_outcome_15
set_option maxHeartbeats 4000000 in
set_option maxRecDepth 100000 in
theorem m_L_best (l : Launch) (hfl : l.stackTraces = false) (D : va_G) (sz b0 : Nat) (hb0 : b0 ≤ sz) (o a1 a2 a3 w : Nat) (cI cJ cK : ClassId) (S : tdS) (pn : Nat → Int32) (fo : Nat → Int64) (hba : ∀ q, va_A [(o, .inr (0, [.long (S.1), .long (S.2.1), .int (S.2.2.1), .int (nI S.2.2.2.1), .ref a1, .ref a2, .ref a3])), (a1, .inl (cI, 64, .inl S.2.2.2.2.1)), (a2, .inl (cJ, 64, .inr (.inl S.2.2.2.2.2))), (a3, .inl (cI, 14, .inl pn)), (w, .inl (cK, 1, .inr (.inl fo)))] sz q → b0 ≤ q) : Met l y_L_best (k_L_best :: tw) ({ frames := 33, cells := 1, slots := 6, locals := 1030 }) (va_Pc [.ref o, .ref w] (fun U => U.heap.size = sz ∧ va_P D tdC [(o, .inr (0, [.long (S.1), .long (S.2.1), .int (S.2.2.1), .int (nI S.2.2.2.1), .ref a1, .ref a2, .ref a3])), (a1, .inl (cI, 64, .inl S.2.2.2.2.1)), (a2, .inl (cJ, 64, .inr (.inl S.2.2.2.2.2))), (a3, .inl (cI, 14, .inl pn)), (w, .inl (cK, 1, .inr (.inl fo)))] U.heap ∧ va_K D tdC [(cI, .int), (cJ, .long), (cK, .long)] U ∧ va_D (fun _ => True) [(o, .inr (0, [.long (S.1), .long (S.2.1), .int (S.2.2.1), .int (nI S.2.2.2.1), .ref a1, .ref a2, .ref a3])), (a1, .inl (cI, 64, .inl S.2.2.2.2.1)), (a2, .inl (cJ, 64, .inr (.inl S.2.2.2.2.2))), (a3, .inl (cI, 14, .inl pn)), (w, .inl (cK, 1, .inr (.inl fo)))] ∧ td_X b0 U ∧ va_Nc td_ise td_iae U)) (va_Qi (fun (r : Int32) (u : tdS × (Nat → Int32) × (Nat → Int64)) => u.1 = S ∧ ((r = 0 ∧ td_few S.1 S.2.1 ∧ u.2.2 0 = (td_best S.1 S.2.1).toInt64) ∨ (r = 1 ∧ ¬ td_few S.1 S.2.1))) (fun (u : tdS × (Nat → Int32) × (Nat → Int64)) t => va_P D tdC [(o, .inr (0, [.long (u.1.1), .long (u.1.2.1), .int (u.1.2.2.1), .int (nI u.1.2.2.2.1), .ref a1, .ref a2, .ref a3])), (a1, .inl (cI, 64, .inl u.1.2.2.2.2.1)), (a2, .inl (cJ, 64, .inr (.inl u.1.2.2.2.2.2))), (a3, .inl (cI, 14, .inl u.2.1)), (w, .inl (cK, 1, .inr (.inl u.2.2)))] t.heap ∧ va_K D tdC [(cI, .int), (cJ, .long), (cK, .long)] t ∧ va_D (va_A [(o, .inr (0, [.long (S.1), .long (S.2.1), .int (S.2.2.1), .int (nI S.2.2.2.1), .ref a1, .ref a2, .ref a3])), (a1, .inl (cI, 64, .inl S.2.2.2.2.1)), (a2, .inl (cJ, 64, .inr (.inl S.2.2.2.2.2))), (a3, .inl (cI, 14, .inl pn)), (w, .inl (cK, 1, .inr (.inl fo)))] sz) [(o, .inr (0, [.long (u.1.1), .long (u.1.2.1), .int (u.1.2.2.1), .int (nI u.1.2.2.2.1), .ref a1, .ref a2, .ref a3])), (a1, .inl (cI, 64, .inl u.1.2.2.2.2.1)), (a2, .inl (cJ, 64, .inr (.inl u.1.2.2.2.2.2))), (a3, .inl (cI, 14, .inl u.2.1)), (w, .inl (cK, 1, .inr (.inl u.2.2)))]) (va_A [(o, .inr (0, [.long (S.1), .long (S.2.1), .int (S.2.2.1), .int (nI S.2.2.2.1), .ref a1, .ref a2, .ref a3])), (a1, .inl (cI, 64, .inl S.2.2.2.2.1)), (a2, .inl (cJ, 64, .inr (.inl S.2.2.2.2.2))), (a3, .inl (cI, 14, .inl pn)), (w, .inl (cK, 1, .inr (.inl fo)))] sz)) 1 6 (va_A [(o, .inr (0, [.long (S.1), .long (S.2.1), .int (S.2.2.1), .int (nI S.2.2.2.1), .ref a1, .ref a2, .ref a3])), (a1, .inl (cI, 64, .inl S.2.2.2.2.1)), (a2, .inl (cJ, 64, .inr (.inl S.2.2.2.2.2))), (a3, .inl (cI, 14, .inl pn)), (w, .inl (cK, 1, .inr (.inl fo)))] sz) := by
  refine td_ofWH (cc := c_L_best) (maxL := 3) (ret := (some .int)) (by decide) rfl ?_
  intro p e s m args below meth c s₁ B hml htab hv
  obtain ⟨rfl, hsz, hP, hK, hD0, hX, hNc⟩ := hv
  have hx := B.exec
  have hb := B.bytes
  have hr := B.returns
  have hts : ∀ w ∈ tw, w.before _ s = true := fun w h => atoms_spec (ws := k_L_best :: tw) B.pre w (List.mem_cons_of_mem _ h)
  have hown : s.vm.findClass RL = some m.cls := findClass_of_methodNamed B.named
  have hlocks := B.notSynchronized
  subst hsz
  have hD := hD0.self (sz := s.heap.size)
  generalize hAe : va_A [(o, .inr (0, [.long (S.1), .long (S.2.1), .int (S.2.2.1), .int (nI S.2.2.2.1), .ref a1, .ref a2, .ref a3])), (a1, .inl (cI, 64, .inl S.2.2.2.2.1)), (a2, .inl (cJ, 64, .inr (.inl S.2.2.2.2.2))), (a3, .inl (cI, 14, .inl pn)), (w, .inl (cK, 1, .inr (.inl fo)))] s.heap.size = A at hD ⊢
  have hA : ∀ q : Nat, s.heap.size ≤ q → A q := fun q h => by rw [← hAe]; exact Or.inr h
  have hS : va_S A s.heap s.heap [] := va_S.rf
  have hP : va_P D tdC [(o, .inr (0, [.long (S.1), .long (S.2.1), .int (S.2.2.1), .int (nI S.2.2.2.1), .ref a1, .ref a2, .ref a3])), (a1, .inl (cI, 64, .inl S.2.2.2.2.1)), (a2, .inl (cJ, 64, .inr (.inl S.2.2.2.2.2))), (a3, .inl (cI, 14, .inl pn)), (w, .inl (cK, 1, .inr (.inl fo)))] s.heap := hP
  have hl := lv_entry ([.ref o, .ref w]) (n := 3) (Nat.le_of_ble_eq_true rfl)
  rw [lg_entry_eq]
  generalize (lg_sl ([.ref o, .ref w]) ++ List.replicate (3 - (lg_sl ([.ref o, .ref w])).length) Slot.unset).toArray = ls at hl ⊢
  have hl : lv_has ls 3 [(0, .ref o), (1, .ref w)] := hl
  rw [hAe] at hba
  refine lv_aload_n hx hb d_L_best_0 rfl (lv_at hl 1 rfl) ?_
  refine lv_iconst (v := 0) hx hb d_L_best_1 (by decide) ?_
  refine lv_aload_n hx hb d_L_best_2 rfl (lv_at hl 0 rfl) ?_
  have hP1 := hP.sub (ws' := [(o, .inr (0, [.long (S.1), .long (S.2.1), .int (S.2.2.1), .int (nI S.2.2.2.1), .ref a1, .ref a2, .ref a3]))]) [0] rfl
  have hK1 := hK.sub (tys' := []) [] rfl
  refine vx_calli (vx_runV (b := o) (C := RX0) (As := []) (rest := [.int 0, .ref w]) ⟨hx, hb, hml, hown, hts⟩ (m_X0_best l hfl D _ b0 (Nat.le_trans hb0 hS.1) o S.1 S.2.1 S.2.2.1 (nI S.2.2.2.1) (.ref a1) (.ref a2) (.ref a3)) (cwV 0 hts (tw_V ml_L_40 im_X0_best se_X0_best in_X0 kw_X0_best) rfl rfl rfl (by decide +kernel) ⟨Nat.le_of_ble_eq_true rfl, Nat.le_of_ble_eq_true rfl⟩) ⟨fun a U g mk q => ⟨q.1, q.2.1, q.2.2.1, va_K.moved (u := U) (U := U.calling g mk a) (Vm.Alike.refl U.vm) q.2.2.2.1, td_X.blind q.2.2.2.2⟩, va_recv (q0 := 0) (ci := 0) hK hP rfl rfl, fun U hU hW => ⟨rfl, by rw [hU], by rw [hU]; exact hP1, va_K.moved hW.alike hK1, td_X.at hX hW hU (fun q h1 h2 => hS.2.1 q h1 (fun z => Nat.not_le.mpr h2 (hba _ z)))⟩⟩ rfl rfl hl.1 rfl (lv_room (Nat.le_of_ble_eq_true rfl)) d_L_best_3 ⟨Nat.le_of_ble_eq_true rfl, Nat.le_of_ble_eq_true rfl⟩) hS (fun q h1 h2 => absurd h2 (Nat.not_le.mpr h1)) (fun q h => hA q (Nat.le_trans hS.1 h)) (fun q h1 h2 => absurd h2 (Nat.not_le.mpr h1)) (fun E ce q9 u0 t0 H1 locs ht hal hpx hB hz1 hk1 hS hce hcv hcl => ?_) (fun r u0 t0 H1 locs ht hal hq hB hz1 hk1 hS => ?_)
  · obtain ⟨eE, hneg⟩ := hB
    subst eE
    have hP := td_keep hP hk1
    refine vx_catch (own := RL) (name := td_ise) hown [] ⟨0, 8, 11, 26⟩ [] (by rw [htab]; rfl) (fun z hz => absurd hz List.not_mem_nil) (by decide) (by decide) (hts _ cl_L_26) (va_Nw.use rfl hX.2.2.2.1) hce hcv hcl ?_
    refine lv_astore_n hx hb d_L_best_11 rfl hl (by decide) rfl (fun ls hl => ?_)
    have hl : lv_has ls 3 [(2, .ref q9), (0, .ref o), (1, .ref w)] := hl
    refine lv_iconst (v := 1) hx hb d_L_best_12 (by decide) ?_
    exact W.iret (v := 1) hx hb hr (fun t ht hW => ⟨⟨_, (S, pn, fo), rfl, ⟨rfl, Or.inr ⟨rfl, hneg⟩⟩, by rw [ht]; exact hP, va_K.moved hW.alike hK, hD⟩, hS.F ht⟩) hS.2.2 d_L_best_13
  · have hP := td_keep hP hk1
    clear ht hal hB hz1 hk1 hP1
    generalize H1 = H at hP hS ⊢
    refine lv_i2l (v := (r.toInt64)) hx hb d_L_best_6 rfl ?_
    refine va_last hx hb hK hP hD hS 4 2 rfl rfl (vp_in_nI (n := 0) (by decide) (by decide)) d_L_best_7 (fun H locs hP hD hS => ?_)
    have hu : vp_updL fo (0 : Int32).toNatClampNeg (r.toInt64) = (vp_updL fo 0 (r.toInt64)) := rfl
    have hP : va_P D tdC [(o, .inr (0, [.long (S.1), .long (S.2.1), .int (S.2.2.1), .int (nI S.2.2.2.1), .ref a1, .ref a2, .ref a3])), (a1, .inl (cI, 64, .inl S.2.2.2.2.1)), (a2, .inl (cJ, 64, .inr (.inl S.2.2.2.2.2))), (a3, .inl (cI, 14, .inl pn)), (w, .inl (cK, 1, .inr (.inl (vp_updL fo (0 : Int32).toNatClampNeg (r.toInt64)))))] H := hP
    have hD : va_D A [(o, .inr (0, [.long (S.1), .long (S.2.1), .int (S.2.2.1), .int (nI S.2.2.2.1), .ref a1, .ref a2, .ref a3])), (a1, .inl (cI, 64, .inl S.2.2.2.2.1)), (a2, .inl (cJ, 64, .inr (.inl S.2.2.2.2.2))), (a3, .inl (cI, 14, .inl pn)), (w, .inl (cK, 1, .inr (.inl (vp_updL fo (0 : Int32).toNatClampNeg (r.toInt64)))))] := hD
    rw [hu] at hP hD
    clear hu
    have hP : va_P D tdC [(o, .inr (0, [.long (S.1), .long (S.2.1), .int (S.2.2.1), .int (nI S.2.2.2.1), .ref a1, .ref a2, .ref a3])), (a1, .inl (cI, 64, .inl S.2.2.2.2.1)), (a2, .inl (cJ, 64, .inr (.inl S.2.2.2.2.2))), (a3, .inl (cI, 14, .inl pn)), (w, .inl (cK, 1, .inr (.inl (vp_updL fo 0 (r.toInt64)))))] H := hP
    have hD : va_D A [(o, .inr (0, [.long (S.1), .long (S.2.1), .int (S.2.2.1), .int (nI S.2.2.2.1), .ref a1, .ref a2, .ref a3])), (a1, .inl (cI, 64, .inl S.2.2.2.2.1)), (a2, .inl (cJ, 64, .inr (.inl S.2.2.2.2.2))), (a3, .inl (cI, 14, .inl pn)), (w, .inl (cK, 1, .inr (.inl (vp_updL fo 0 (r.toInt64)))))] := hD
    refine lv_goto (tgt := 14) hx hb d_L_best_8 (by decide) ?_
    refine lv_iconst (v := 0) hx hb d_L_best_14 (by decide) ?_
    exact W.iret (v := 0) hx hb hr (fun t ht hW => ⟨⟨_, (S, pn, vp_updL fo 0 (r.toInt64)), rfl, ⟨rfl, Or.inl ⟨rfl, hq.1, (show vp_updL fo 0 (r.toInt64) 0 = _ by rw [pk_uLs, hq.2])⟩⟩, by rw [ht]; exact hP, va_K.moved hW.alike hK, hD⟩, hS.F ht⟩) hS.2.2 d_L_best_15
set_option maxHeartbeats 4000000 in
set_option maxRecDepth 100000 in
theorem m_L_border (l : Launch) (hfl : l.stackTraces = false) (D : va_G) (sz b0 : Nat) (hb0 : b0 ≤ sz) (o a1 a2 a3 w : Nat) (cI cJ cK : ClassId) (S : tdS) (pn : Nat → Int32) (fo : Nat → Int64) (q : Int32) (hba : ∀ q, va_A [(o, .inr (0, [.long (S.1), .long (S.2.1), .int (S.2.2.1), .int (nI S.2.2.2.1), .ref a1, .ref a2, .ref a3])), (a1, .inl (cI, 64, .inl S.2.2.2.2.1)), (a2, .inl (cJ, 64, .inr (.inl S.2.2.2.2.2))), (a3, .inl (cI, 14, .inl pn)), (w, .inl (cK, 1, .inr (.inl fo)))] sz q → b0 ≤ q) : Met l y_L_border (k_L_border :: tw) ({ frames := 8, cells := 1, slots := 6, locals := 123 }) (va_Pc [.ref o, .int q, .ref w] (fun U => U.heap.size = sz ∧ va_P D tdC [(o, .inr (0, [.long (S.1), .long (S.2.1), .int (S.2.2.1), .int (nI S.2.2.2.1), .ref a1, .ref a2, .ref a3])), (a1, .inl (cI, 64, .inl S.2.2.2.2.1)), (a2, .inl (cJ, 64, .inr (.inl S.2.2.2.2.2))), (a3, .inl (cI, 14, .inl pn)), (w, .inl (cK, 1, .inr (.inl fo)))] U.heap ∧ va_K D tdC [(cI, .int), (cJ, .long), (cK, .long)] U ∧ va_D (fun _ => True) [(o, .inr (0, [.long (S.1), .long (S.2.1), .int (S.2.2.1), .int (nI S.2.2.2.1), .ref a1, .ref a2, .ref a3])), (a1, .inl (cI, 64, .inl S.2.2.2.2.1)), (a2, .inl (cJ, 64, .inr (.inl S.2.2.2.2.2))), (a3, .inl (cI, 14, .inl pn)), (w, .inl (cK, 1, .inr (.inl fo)))] ∧ td_X b0 U ∧ va_Nc td_ise td_iae U)) (va_Qi (fun (r : Int32) (u : tdS × (Nat → Int32) × (Nat → Int64)) => u.1 = S ∧ ((r = 0 ∧ td_pl q ∧ u.2.2 0 = (td_border S.1 S.2.1 S.2.2.1 q).toInt64) ∨ (r = 1 ∧ ¬ td_pl q))) (fun (u : tdS × (Nat → Int32) × (Nat → Int64)) t => va_P D tdC [(o, .inr (0, [.long (u.1.1), .long (u.1.2.1), .int (u.1.2.2.1), .int (nI u.1.2.2.2.1), .ref a1, .ref a2, .ref a3])), (a1, .inl (cI, 64, .inl u.1.2.2.2.2.1)), (a2, .inl (cJ, 64, .inr (.inl u.1.2.2.2.2.2))), (a3, .inl (cI, 14, .inl u.2.1)), (w, .inl (cK, 1, .inr (.inl u.2.2)))] t.heap ∧ va_K D tdC [(cI, .int), (cJ, .long), (cK, .long)] t ∧ va_D (va_A [(o, .inr (0, [.long (S.1), .long (S.2.1), .int (S.2.2.1), .int (nI S.2.2.2.1), .ref a1, .ref a2, .ref a3])), (a1, .inl (cI, 64, .inl S.2.2.2.2.1)), (a2, .inl (cJ, 64, .inr (.inl S.2.2.2.2.2))), (a3, .inl (cI, 14, .inl pn)), (w, .inl (cK, 1, .inr (.inl fo)))] sz) [(o, .inr (0, [.long (u.1.1), .long (u.1.2.1), .int (u.1.2.2.1), .int (nI u.1.2.2.2.1), .ref a1, .ref a2, .ref a3])), (a1, .inl (cI, 64, .inl u.1.2.2.2.2.1)), (a2, .inl (cJ, 64, .inr (.inl u.1.2.2.2.2.2))), (a3, .inl (cI, 14, .inl u.2.1)), (w, .inl (cK, 1, .inr (.inl u.2.2)))]) (va_A [(o, .inr (0, [.long (S.1), .long (S.2.1), .int (S.2.2.1), .int (nI S.2.2.2.1), .ref a1, .ref a2, .ref a3])), (a1, .inl (cI, 64, .inl S.2.2.2.2.1)), (a2, .inl (cJ, 64, .inr (.inl S.2.2.2.2.2))), (a3, .inl (cI, 14, .inl pn)), (w, .inl (cK, 1, .inr (.inl fo)))] sz)) 1 6 (va_A [(o, .inr (0, [.long (S.1), .long (S.2.1), .int (S.2.2.1), .int (nI S.2.2.2.1), .ref a1, .ref a2, .ref a3])), (a1, .inl (cI, 64, .inl S.2.2.2.2.1)), (a2, .inl (cJ, 64, .inr (.inl S.2.2.2.2.2))), (a3, .inl (cI, 14, .inl pn)), (w, .inl (cK, 1, .inr (.inl fo)))] sz) := by
  refine td_ofWH (cc := c_L_border) (maxL := 4) (ret := (some .int)) (by decide) rfl ?_
  intro p e s m args below meth c s₁ B hml htab hv
  obtain ⟨rfl, hsz, hP, hK, hD0, hX, hNc⟩ := hv
  have hx := B.exec
  have hb := B.bytes
  have hr := B.returns
  have hts : ∀ w ∈ tw, w.before _ s = true := fun w h => atoms_spec (ws := k_L_border :: tw) B.pre w (List.mem_cons_of_mem _ h)
  have hown : s.vm.findClass RL = some m.cls := findClass_of_methodNamed B.named
  have hlocks := B.notSynchronized
  subst hsz
  have hD := hD0.self (sz := s.heap.size)
  generalize hAe : va_A [(o, .inr (0, [.long (S.1), .long (S.2.1), .int (S.2.2.1), .int (nI S.2.2.2.1), .ref a1, .ref a2, .ref a3])), (a1, .inl (cI, 64, .inl S.2.2.2.2.1)), (a2, .inl (cJ, 64, .inr (.inl S.2.2.2.2.2))), (a3, .inl (cI, 14, .inl pn)), (w, .inl (cK, 1, .inr (.inl fo)))] s.heap.size = A at hD ⊢
  have hA : ∀ q : Nat, s.heap.size ≤ q → A q := fun q h => by rw [← hAe]; exact Or.inr h
  have hS : va_S A s.heap s.heap [] := va_S.rf
  have hP : va_P D tdC [(o, .inr (0, [.long (S.1), .long (S.2.1), .int (S.2.2.1), .int (nI S.2.2.2.1), .ref a1, .ref a2, .ref a3])), (a1, .inl (cI, 64, .inl S.2.2.2.2.1)), (a2, .inl (cJ, 64, .inr (.inl S.2.2.2.2.2))), (a3, .inl (cI, 14, .inl pn)), (w, .inl (cK, 1, .inr (.inl fo)))] s.heap := hP
  have hl := lv_entry ([.ref o, .int q, .ref w]) (n := 4) (Nat.le_of_ble_eq_true rfl)
  rw [lg_entry_eq]
  generalize (lg_sl ([.ref o, .int q, .ref w]) ++ List.replicate (4 - (lg_sl ([.ref o, .int q, .ref w])).length) Slot.unset).toArray = ls at hl ⊢
  have hl : lv_has ls 4 [(0, .ref o), (1, .int q), (2, .ref w)] := hl
  rw [hAe] at hba
  refine lv_aload_n hx hb d_L_border_0 rfl (lv_at hl 2 rfl) ?_
  refine lv_iconst (v := 0) hx hb d_L_border_1 (by decide) ?_
  refine lv_aload_n hx hb d_L_border_2 rfl (lv_at hl 0 rfl) ?_
  refine lv_iload_n hx hb d_L_border_3 rfl (lv_at hl 1 rfl) ?_
  have hP1 := hP.sub (ws' := [(o, .inr (0, [.long (S.1), .long (S.2.1), .int (S.2.2.1), .int (nI S.2.2.2.1), .ref a1, .ref a2, .ref a3]))]) [0] rfl
  have hK1 := hK.sub (tys' := []) [] rfl
  refine vx_calli (vx_runV (b := o) (C := RX0) (As := [.int q]) (rest := [.int 0, .ref w]) ⟨hx, hb, hml, hown, hts⟩ (m_X0_border l hfl D _ b0 (Nat.le_trans hb0 hS.1) o S.1 S.2.1 S.2.2.1 (nI S.2.2.2.1) (.ref a1) (.ref a2) (.ref a3) q) (cwV 1 hts (tw_V ml_L_46 im_X0_border se_X0_border in_X0 kw_X0_border) rfl rfl rfl (by decide +kernel) ⟨Nat.le_of_ble_eq_true rfl, Nat.le_of_ble_eq_true rfl⟩) ⟨fun a U g mk q => ⟨q.1, q.2.1, q.2.2.1, va_K.moved (u := U) (U := U.calling g mk a) (Vm.Alike.refl U.vm) q.2.2.2.1, td_X.blind q.2.2.2.2⟩, va_recv (q0 := 0) (ci := 0) hK hP rfl rfl, fun U hU hW => ⟨rfl, by rw [hU], by rw [hU]; exact hP1, va_K.moved hW.alike hK1, td_X.at hX hW hU (fun q h1 h2 => hS.2.1 q h1 (fun z => Nat.not_le.mpr h2 (hba _ z)))⟩⟩ rfl rfl hl.1 rfl (lv_room (Nat.le_of_ble_eq_true rfl)) d_L_border_4 ⟨Nat.le_of_ble_eq_true rfl, Nat.le_of_ble_eq_true rfl⟩) hS (fun q h1 h2 => absurd h2 (Nat.not_le.mpr h1)) (fun q h => hA q (Nat.le_trans hS.1 h)) (fun q h1 h2 => absurd h2 (Nat.not_le.mpr h1)) (fun E ce q9 u0 t0 H1 locs ht hal hpx hB hz1 hk1 hS hce hcv hcl => ?_) (fun r u0 t0 H1 locs ht hal hq hB hz1 hk1 hS => ?_)
  · obtain ⟨eE, hneg⟩ := hB
    subst eE
    have hP := td_keep hP hk1
    refine vx_catch (own := RL) (name := td_iae) hown [] ⟨0, 9, 12, 13⟩ [] (by rw [htab]; rfl) (fun z hz => absurd hz List.not_mem_nil) (by decide) (by decide) (hts _ cl_L_13) (va_Nw.use rfl hX.2.2.1) hce hcv hcl ?_
    refine lv_astore_n hx hb d_L_border_12 rfl hl (by decide) rfl (fun ls hl => ?_)
    have hl : lv_has ls 4 [(3, .ref q9), (0, .ref o), (1, .int q), (2, .ref w)] := hl
    refine lv_iconst (v := 1) hx hb d_L_border_13 (by decide) ?_
    exact W.iret (v := 1) hx hb hr (fun t ht hW => ⟨⟨_, (S, pn, fo), rfl, ⟨rfl, Or.inr ⟨rfl, hneg⟩⟩, by rw [ht]; exact hP, va_K.moved hW.alike hK, hD⟩, hS.F ht⟩) hS.2.2 d_L_border_14
  · have hP := td_keep hP hk1
    clear ht hal hB hz1 hk1 hP1
    generalize H1 = H at hP hS ⊢
    refine lv_i2l (v := (r.toInt64)) hx hb d_L_border_7 rfl ?_
    refine va_last hx hb hK hP hD hS 4 2 rfl rfl (vp_in_nI (n := 0) (by decide) (by decide)) d_L_border_8 (fun H locs hP hD hS => ?_)
    have hu : vp_updL fo (0 : Int32).toNatClampNeg (r.toInt64) = (vp_updL fo 0 (r.toInt64)) := rfl
    have hP : va_P D tdC [(o, .inr (0, [.long (S.1), .long (S.2.1), .int (S.2.2.1), .int (nI S.2.2.2.1), .ref a1, .ref a2, .ref a3])), (a1, .inl (cI, 64, .inl S.2.2.2.2.1)), (a2, .inl (cJ, 64, .inr (.inl S.2.2.2.2.2))), (a3, .inl (cI, 14, .inl pn)), (w, .inl (cK, 1, .inr (.inl (vp_updL fo (0 : Int32).toNatClampNeg (r.toInt64)))))] H := hP
    have hD : va_D A [(o, .inr (0, [.long (S.1), .long (S.2.1), .int (S.2.2.1), .int (nI S.2.2.2.1), .ref a1, .ref a2, .ref a3])), (a1, .inl (cI, 64, .inl S.2.2.2.2.1)), (a2, .inl (cJ, 64, .inr (.inl S.2.2.2.2.2))), (a3, .inl (cI, 14, .inl pn)), (w, .inl (cK, 1, .inr (.inl (vp_updL fo (0 : Int32).toNatClampNeg (r.toInt64)))))] := hD
    rw [hu] at hP hD
    clear hu
    have hP : va_P D tdC [(o, .inr (0, [.long (S.1), .long (S.2.1), .int (S.2.2.1), .int (nI S.2.2.2.1), .ref a1, .ref a2, .ref a3])), (a1, .inl (cI, 64, .inl S.2.2.2.2.1)), (a2, .inl (cJ, 64, .inr (.inl S.2.2.2.2.2))), (a3, .inl (cI, 14, .inl pn)), (w, .inl (cK, 1, .inr (.inl (vp_updL fo 0 (r.toInt64)))))] H := hP
    have hD : va_D A [(o, .inr (0, [.long (S.1), .long (S.2.1), .int (S.2.2.1), .int (nI S.2.2.2.1), .ref a1, .ref a2, .ref a3])), (a1, .inl (cI, 64, .inl S.2.2.2.2.1)), (a2, .inl (cJ, 64, .inr (.inl S.2.2.2.2.2))), (a3, .inl (cI, 14, .inl pn)), (w, .inl (cK, 1, .inr (.inl (vp_updL fo 0 (r.toInt64)))))] := hD
    refine lv_goto (tgt := 15) hx hb d_L_border_9 (by decide) ?_
    refine lv_iconst (v := 0) hx hb d_L_border_15 (by decide) ?_
    exact W.iret (v := 0) hx hb hr (fun t ht hW => ⟨⟨_, (S, pn, vp_updL fo 0 (r.toInt64)), rfl, ⟨rfl, Or.inl ⟨rfl, hq.1, (show vp_updL fo 0 (r.toInt64) 0 = _ by rw [pk_uLs, hq.2])⟩⟩, by rw [ht]; exact hP, va_K.moved hW.alike hK, hD⟩, hS.F ht⟩) hS.2.2 d_L_border_16
set_option maxHeartbeats 4000000 in
set_option maxRecDepth 100000 in
theorem m_L_safe (l : Launch) (hfl : l.stackTraces = false) (D : va_G) (sz b0 : Nat) (hb0 : b0 ≤ sz) (o a1 a2 a3 w : Nat) (cI cJ cK : ClassId) (S : tdS) (pn : Nat → Int32) (fo : Nat → Int64) (q : Int32) (hba : ∀ q, va_A [(o, .inr (0, [.long (S.1), .long (S.2.1), .int (S.2.2.1), .int (nI S.2.2.2.1), .ref a1, .ref a2, .ref a3])), (a1, .inl (cI, 64, .inl S.2.2.2.2.1)), (a2, .inl (cJ, 64, .inr (.inl S.2.2.2.2.2))), (a3, .inl (cI, 14, .inl pn)), (w, .inl (cK, 1, .inr (.inl fo)))] sz q → b0 ≤ q) : Met l y_L_safe (k_L_safe :: tw) ({ frames := 8, cells := 1, slots := 6, locals := 125 }) (va_Pc [.ref o, .int q, .ref w] (fun U => U.heap.size = sz ∧ va_P D tdC [(o, .inr (0, [.long (S.1), .long (S.2.1), .int (S.2.2.1), .int (nI S.2.2.2.1), .ref a1, .ref a2, .ref a3])), (a1, .inl (cI, 64, .inl S.2.2.2.2.1)), (a2, .inl (cJ, 64, .inr (.inl S.2.2.2.2.2))), (a3, .inl (cI, 14, .inl pn)), (w, .inl (cK, 1, .inr (.inl fo)))] U.heap ∧ va_K D tdC [(cI, .int), (cJ, .long), (cK, .long)] U ∧ va_D (fun _ => True) [(o, .inr (0, [.long (S.1), .long (S.2.1), .int (S.2.2.1), .int (nI S.2.2.2.1), .ref a1, .ref a2, .ref a3])), (a1, .inl (cI, 64, .inl S.2.2.2.2.1)), (a2, .inl (cJ, 64, .inr (.inl S.2.2.2.2.2))), (a3, .inl (cI, 14, .inl pn)), (w, .inl (cK, 1, .inr (.inl fo)))] ∧ td_X b0 U ∧ va_Nc td_ise td_iae U)) (va_Qi (fun (r : Int32) (u : tdS × (Nat → Int32) × (Nat → Int64)) => u.1 = S ∧ ((r = 0 ∧ td_pl q ∧ u.2.2 0 = td_safe (td_of S.1 S.2.1 S.2.2.1 q)) ∨ (r = 1 ∧ ¬ td_pl q))) (fun (u : tdS × (Nat → Int32) × (Nat → Int64)) t => va_P D tdC [(o, .inr (0, [.long (u.1.1), .long (u.1.2.1), .int (u.1.2.2.1), .int (nI u.1.2.2.2.1), .ref a1, .ref a2, .ref a3])), (a1, .inl (cI, 64, .inl u.1.2.2.2.2.1)), (a2, .inl (cJ, 64, .inr (.inl u.1.2.2.2.2.2))), (a3, .inl (cI, 14, .inl u.2.1)), (w, .inl (cK, 1, .inr (.inl u.2.2)))] t.heap ∧ va_K D tdC [(cI, .int), (cJ, .long), (cK, .long)] t ∧ va_D (va_A [(o, .inr (0, [.long (S.1), .long (S.2.1), .int (S.2.2.1), .int (nI S.2.2.2.1), .ref a1, .ref a2, .ref a3])), (a1, .inl (cI, 64, .inl S.2.2.2.2.1)), (a2, .inl (cJ, 64, .inr (.inl S.2.2.2.2.2))), (a3, .inl (cI, 14, .inl pn)), (w, .inl (cK, 1, .inr (.inl fo)))] sz) [(o, .inr (0, [.long (u.1.1), .long (u.1.2.1), .int (u.1.2.2.1), .int (nI u.1.2.2.2.1), .ref a1, .ref a2, .ref a3])), (a1, .inl (cI, 64, .inl u.1.2.2.2.2.1)), (a2, .inl (cJ, 64, .inr (.inl u.1.2.2.2.2.2))), (a3, .inl (cI, 14, .inl u.2.1)), (w, .inl (cK, 1, .inr (.inl u.2.2)))]) (va_A [(o, .inr (0, [.long (S.1), .long (S.2.1), .int (S.2.2.1), .int (nI S.2.2.2.1), .ref a1, .ref a2, .ref a3])), (a1, .inl (cI, 64, .inl S.2.2.2.2.1)), (a2, .inl (cJ, 64, .inr (.inl S.2.2.2.2.2))), (a3, .inl (cI, 14, .inl pn)), (w, .inl (cK, 1, .inr (.inl fo)))] sz)) 1 6 (va_A [(o, .inr (0, [.long (S.1), .long (S.2.1), .int (S.2.2.1), .int (nI S.2.2.2.1), .ref a1, .ref a2, .ref a3])), (a1, .inl (cI, 64, .inl S.2.2.2.2.1)), (a2, .inl (cJ, 64, .inr (.inl S.2.2.2.2.2))), (a3, .inl (cI, 14, .inl pn)), (w, .inl (cK, 1, .inr (.inl fo)))] sz) := by
  refine td_ofWH (cc := c_L_safe) (maxL := 4) (ret := (some .int)) (by decide) rfl ?_
  intro p e s m args below meth c s₁ B hml htab hv
  obtain ⟨rfl, hsz, hP, hK, hD0, hX, hNc⟩ := hv
  have hx := B.exec
  have hb := B.bytes
  have hr := B.returns
  have hts : ∀ w ∈ tw, w.before _ s = true := fun w h => atoms_spec (ws := k_L_safe :: tw) B.pre w (List.mem_cons_of_mem _ h)
  have hown : s.vm.findClass RL = some m.cls := findClass_of_methodNamed B.named
  have hlocks := B.notSynchronized
  subst hsz
  have hD := hD0.self (sz := s.heap.size)
  generalize hAe : va_A [(o, .inr (0, [.long (S.1), .long (S.2.1), .int (S.2.2.1), .int (nI S.2.2.2.1), .ref a1, .ref a2, .ref a3])), (a1, .inl (cI, 64, .inl S.2.2.2.2.1)), (a2, .inl (cJ, 64, .inr (.inl S.2.2.2.2.2))), (a3, .inl (cI, 14, .inl pn)), (w, .inl (cK, 1, .inr (.inl fo)))] s.heap.size = A at hD ⊢
  have hA : ∀ q : Nat, s.heap.size ≤ q → A q := fun q h => by rw [← hAe]; exact Or.inr h
  have hS : va_S A s.heap s.heap [] := va_S.rf
  have hP : va_P D tdC [(o, .inr (0, [.long (S.1), .long (S.2.1), .int (S.2.2.1), .int (nI S.2.2.2.1), .ref a1, .ref a2, .ref a3])), (a1, .inl (cI, 64, .inl S.2.2.2.2.1)), (a2, .inl (cJ, 64, .inr (.inl S.2.2.2.2.2))), (a3, .inl (cI, 14, .inl pn)), (w, .inl (cK, 1, .inr (.inl fo)))] s.heap := hP
  have hl := lv_entry ([.ref o, .int q, .ref w]) (n := 4) (Nat.le_of_ble_eq_true rfl)
  rw [lg_entry_eq]
  generalize (lg_sl ([.ref o, .int q, .ref w]) ++ List.replicate (4 - (lg_sl ([.ref o, .int q, .ref w])).length) Slot.unset).toArray = ls at hl ⊢
  have hl : lv_has ls 4 [(0, .ref o), (1, .int q), (2, .ref w)] := hl
  rw [hAe] at hba
  refine lv_aload_n hx hb d_L_safe_0 rfl (lv_at hl 2 rfl) ?_
  refine lv_iconst (v := 0) hx hb d_L_safe_1 (by decide) ?_
  refine lv_aload_n hx hb d_L_safe_2 rfl (lv_at hl 0 rfl) ?_
  refine lv_iload_n hx hb d_L_safe_3 rfl (lv_at hl 1 rfl) ?_
  have hP1 := hP.sub (ws' := [(o, .inr (0, [.long (S.1), .long (S.2.1), .int (S.2.2.1), .int (nI S.2.2.2.1), .ref a1, .ref a2, .ref a3]))]) [0] rfl
  have hK1 := hK.sub (tys' := []) [] rfl
  refine vx_calll (vx_runV (b := o) (C := RX0) (As := [.int q]) (rest := [.int 0, .ref w]) ⟨hx, hb, hml, hown, hts⟩ (m_X0_safe l hfl D _ b0 (Nat.le_trans hb0 hS.1) o S.1 S.2.1 S.2.2.1 (nI S.2.2.2.1) (.ref a1) (.ref a2) (.ref a3) q) (cwV 1 hts (tw_V ml_L_49 im_X0_safe se_X0_safe in_X0 kw_X0_safe) rfl rfl rfl (by decide +kernel) ⟨Nat.le_of_ble_eq_true rfl, Nat.le_of_ble_eq_true rfl⟩) ⟨fun a U g mk q => ⟨q.1, q.2.1, q.2.2.1, va_K.moved (u := U) (U := U.calling g mk a) (Vm.Alike.refl U.vm) q.2.2.2.1, td_X.blind q.2.2.2.2⟩, va_recv (q0 := 0) (ci := 0) hK hP rfl rfl, fun U hU hW => ⟨rfl, by rw [hU], by rw [hU]; exact hP1, va_K.moved hW.alike hK1, td_X.at hX hW hU (fun q h1 h2 => hS.2.1 q h1 (fun z => Nat.not_le.mpr h2 (hba _ z)))⟩⟩ rfl rfl hl.1 rfl (lv_room (Nat.le_of_ble_eq_true rfl)) d_L_safe_4 ⟨Nat.le_of_ble_eq_true rfl, Nat.le_of_ble_eq_true rfl⟩) hS (fun q h1 h2 => absurd h2 (Nat.not_le.mpr h1)) (fun q h => hA q (Nat.le_trans hS.1 h)) (fun q h1 h2 => absurd h2 (Nat.not_le.mpr h1)) (fun E ce q9 u0 t0 H1 locs ht hal hpx hB hz1 hk1 hS hce hcv hcl => ?_) (fun r u0 t0 H1 locs ht hal hq hB hz1 hk1 hS => ?_)
  · obtain ⟨eE, hneg⟩ := hB
    subst eE
    have hP := td_keep hP hk1
    refine vx_catch (own := RL) (name := td_iae) hown [] ⟨0, 8, 11, 13⟩ [] (by rw [htab]; rfl) (fun z hz => absurd hz List.not_mem_nil) (by decide) (by decide) (hts _ cl_L_13) (va_Nw.use rfl hX.2.2.1) hce hcv hcl ?_
    refine lv_astore_n hx hb d_L_safe_11 rfl hl (by decide) rfl (fun ls hl => ?_)
    have hl : lv_has ls 4 [(3, .ref q9), (0, .ref o), (1, .int q), (2, .ref w)] := hl
    refine lv_iconst (v := 1) hx hb d_L_safe_12 (by decide) ?_
    exact W.iret (v := 1) hx hb hr (fun t ht hW => ⟨⟨_, (S, pn, fo), rfl, ⟨rfl, Or.inr ⟨rfl, hneg⟩⟩, by rw [ht]; exact hP, va_K.moved hW.alike hK, hD⟩, hS.F ht⟩) hS.2.2 d_L_safe_13
  · have hP := td_keep hP hk1
    clear ht hal hB hz1 hk1 hP1
    generalize H1 = H at hP hS ⊢
    refine va_last hx hb hK hP hD hS 4 2 rfl rfl (vp_in_nI (n := 0) (by decide) (by decide)) d_L_safe_7 (fun H locs hP hD hS => ?_)
    have hu : vp_updL fo (0 : Int32).toNatClampNeg r = (vp_updL fo 0 r) := rfl
    have hP : va_P D tdC [(o, .inr (0, [.long (S.1), .long (S.2.1), .int (S.2.2.1), .int (nI S.2.2.2.1), .ref a1, .ref a2, .ref a3])), (a1, .inl (cI, 64, .inl S.2.2.2.2.1)), (a2, .inl (cJ, 64, .inr (.inl S.2.2.2.2.2))), (a3, .inl (cI, 14, .inl pn)), (w, .inl (cK, 1, .inr (.inl (vp_updL fo (0 : Int32).toNatClampNeg r))))] H := hP
    have hD : va_D A [(o, .inr (0, [.long (S.1), .long (S.2.1), .int (S.2.2.1), .int (nI S.2.2.2.1), .ref a1, .ref a2, .ref a3])), (a1, .inl (cI, 64, .inl S.2.2.2.2.1)), (a2, .inl (cJ, 64, .inr (.inl S.2.2.2.2.2))), (a3, .inl (cI, 14, .inl pn)), (w, .inl (cK, 1, .inr (.inl (vp_updL fo (0 : Int32).toNatClampNeg r))))] := hD
    rw [hu] at hP hD
    clear hu
    have hP : va_P D tdC [(o, .inr (0, [.long (S.1), .long (S.2.1), .int (S.2.2.1), .int (nI S.2.2.2.1), .ref a1, .ref a2, .ref a3])), (a1, .inl (cI, 64, .inl S.2.2.2.2.1)), (a2, .inl (cJ, 64, .inr (.inl S.2.2.2.2.2))), (a3, .inl (cI, 14, .inl pn)), (w, .inl (cK, 1, .inr (.inl (vp_updL fo 0 r))))] H := hP
    have hD : va_D A [(o, .inr (0, [.long (S.1), .long (S.2.1), .int (S.2.2.1), .int (nI S.2.2.2.1), .ref a1, .ref a2, .ref a3])), (a1, .inl (cI, 64, .inl S.2.2.2.2.1)), (a2, .inl (cJ, 64, .inr (.inl S.2.2.2.2.2))), (a3, .inl (cI, 14, .inl pn)), (w, .inl (cK, 1, .inr (.inl (vp_updL fo 0 r))))] := hD
    refine lv_goto (tgt := 14) hx hb d_L_safe_8 (by decide) ?_
    refine lv_iconst (v := 0) hx hb d_L_safe_14 (by decide) ?_
    exact W.iret (v := 0) hx hb hr (fun t ht hW => ⟨⟨_, (S, pn, vp_updL fo 0 r), rfl, ⟨rfl, Or.inl ⟨rfl, hq.1, (show vp_updL fo 0 r 0 = _ from pk_uLs.trans hq.2)⟩⟩, by rw [ht]; exact hP, va_K.moved hW.alike hK, hD⟩, hS.F ht⟩) hS.2.2 d_L_safe_15
