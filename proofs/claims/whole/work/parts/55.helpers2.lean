set_option maxHeartbeats 4000000 in
set_option maxRecDepth 100000 in
theorem m_L_set (l : Launch) (hfl : l.stackTraces = false) (D : va_G) (sz b0 : Nat) (hb0 : b0 ≤ sz) (o a1 a2 a3 w : Nat) (cI cJ cK : ClassId) (S : tdS) (pn : Nat → Int32) (fo : Nat → Int64) (u1 v1 : Int64) (q : Int32) (hba : ∀ q, va_A [(o, .inr (0, [.long (S.1), .long (S.2.1), .int (S.2.2.1), .int (nI S.2.2.2.1), .ref a1, .ref a2, .ref a3])), (a1, .inl (cI, 64, .inl S.2.2.2.2.1)), (a2, .inl (cJ, 64, .inr (.inl S.2.2.2.2.2))), (a3, .inl (cI, 14, .inl pn)), (w, .inl (cK, 1, .inr (.inl fo)))] sz q → b0 ≤ q) : Met l y_L_set (k_L_set :: tw) ({ frames := 8, cells := 1, slots := 6, locals := 127 }) (va_Pc [.ref o, .long u1, .long v1, .int q] (fun U => U.heap.size = sz ∧ va_P D tdC [(o, .inr (0, [.long (S.1), .long (S.2.1), .int (S.2.2.1), .int (nI S.2.2.2.1), .ref a1, .ref a2, .ref a3])), (a1, .inl (cI, 64, .inl S.2.2.2.2.1)), (a2, .inl (cJ, 64, .inr (.inl S.2.2.2.2.2))), (a3, .inl (cI, 14, .inl pn)), (w, .inl (cK, 1, .inr (.inl fo)))] U.heap ∧ va_K D tdC [(cI, .int), (cJ, .long), (cK, .long)] U ∧ va_D (fun _ => True) [(o, .inr (0, [.long (S.1), .long (S.2.1), .int (S.2.2.1), .int (nI S.2.2.2.1), .ref a1, .ref a2, .ref a3])), (a1, .inl (cI, 64, .inl S.2.2.2.2.1)), (a2, .inl (cJ, 64, .inr (.inl S.2.2.2.2.2))), (a3, .inl (cI, 14, .inl pn)), (w, .inl (cK, 1, .inr (.inl fo)))] ∧ td_X b0 U ∧ va_Nc td_ise td_iae U)) (va_Qi (fun (r : Int32) (u : tdS × (Nat → Int32) × (Nat → Int64)) => u.2 = (pn, fo) ∧ ((r = 0 ∧ ((u1 &&& v1) = 0 ∧ td_pl q) ∧ u.1 = ((if q = 0 then u1 else v1), (if q = 0 then v1 else u1), q, 0, S.2.2.2.2.1, S.2.2.2.2.2)) ∨ (r = 1 ∧ ¬ ((u1 &&& v1) = 0 ∧ td_pl q) ∧ u.1 = S))) (fun (u : tdS × (Nat → Int32) × (Nat → Int64)) t => va_P D tdC [(o, .inr (0, [.long (u.1.1), .long (u.1.2.1), .int (u.1.2.2.1), .int (nI u.1.2.2.2.1), .ref a1, .ref a2, .ref a3])), (a1, .inl (cI, 64, .inl u.1.2.2.2.2.1)), (a2, .inl (cJ, 64, .inr (.inl u.1.2.2.2.2.2))), (a3, .inl (cI, 14, .inl u.2.1)), (w, .inl (cK, 1, .inr (.inl u.2.2)))] t.heap ∧ va_K D tdC [(cI, .int), (cJ, .long), (cK, .long)] t ∧ va_D (va_A [(o, .inr (0, [.long (S.1), .long (S.2.1), .int (S.2.2.1), .int (nI S.2.2.2.1), .ref a1, .ref a2, .ref a3])), (a1, .inl (cI, 64, .inl S.2.2.2.2.1)), (a2, .inl (cJ, 64, .inr (.inl S.2.2.2.2.2))), (a3, .inl (cI, 14, .inl pn)), (w, .inl (cK, 1, .inr (.inl fo)))] sz) [(o, .inr (0, [.long (u.1.1), .long (u.1.2.1), .int (u.1.2.2.1), .int (nI u.1.2.2.2.1), .ref a1, .ref a2, .ref a3])), (a1, .inl (cI, 64, .inl u.1.2.2.2.2.1)), (a2, .inl (cJ, 64, .inr (.inl u.1.2.2.2.2.2))), (a3, .inl (cI, 14, .inl u.2.1)), (w, .inl (cK, 1, .inr (.inl u.2.2)))]) (va_A [(o, .inr (0, [.long (S.1), .long (S.2.1), .int (S.2.2.1), .int (nI S.2.2.2.1), .ref a1, .ref a2, .ref a3])), (a1, .inl (cI, 64, .inl S.2.2.2.2.1)), (a2, .inl (cJ, 64, .inr (.inl S.2.2.2.2.2))), (a3, .inl (cI, 14, .inl pn)), (w, .inl (cK, 1, .inr (.inl fo)))] sz)) 1 6 (va_A [(o, .inr (0, [.long (S.1), .long (S.2.1), .int (S.2.2.1), .int (nI S.2.2.2.1), .ref a1, .ref a2, .ref a3])), (a1, .inl (cI, 64, .inl S.2.2.2.2.1)), (a2, .inl (cJ, 64, .inr (.inl S.2.2.2.2.2))), (a3, .inl (cI, 14, .inl pn)), (w, .inl (cK, 1, .inr (.inl fo)))] sz) := by
  refine td_ofWH (cc := c_L_set) (maxL := 7) (ret := (some .int)) (by decide) rfl ?_
  intro p e s m args below meth c s₁ B hml htab hv
  obtain ⟨rfl, hsz, hP, hK, hD0, hX, hNc⟩ := hv
  have hx := B.exec
  have hb := B.bytes
  have hr := B.returns
  have hts : ∀ w ∈ tw, w.before _ s = true := fun w h => atoms_spec (ws := k_L_set :: tw) B.pre w (List.mem_cons_of_mem _ h)
  have hown : s.vm.findClass RL = some m.cls := findClass_of_methodNamed B.named
  have hlocks := B.notSynchronized
  subst hsz
  have hD := hD0.self (sz := s.heap.size)
  generalize hAe : va_A [(o, .inr (0, [.long (S.1), .long (S.2.1), .int (S.2.2.1), .int (nI S.2.2.2.1), .ref a1, .ref a2, .ref a3])), (a1, .inl (cI, 64, .inl S.2.2.2.2.1)), (a2, .inl (cJ, 64, .inr (.inl S.2.2.2.2.2))), (a3, .inl (cI, 14, .inl pn)), (w, .inl (cK, 1, .inr (.inl fo)))] s.heap.size = A at hD ⊢
  have hA : ∀ q : Nat, s.heap.size ≤ q → A q := fun q h => by rw [← hAe]; exact Or.inr h
  have hS : va_S A s.heap s.heap [] := va_S.rf
  have hP : va_P D tdC [(o, .inr (0, [.long (S.1), .long (S.2.1), .int (S.2.2.1), .int (nI S.2.2.2.1), .ref a1, .ref a2, .ref a3])), (a1, .inl (cI, 64, .inl S.2.2.2.2.1)), (a2, .inl (cJ, 64, .inr (.inl S.2.2.2.2.2))), (a3, .inl (cI, 14, .inl pn)), (w, .inl (cK, 1, .inr (.inl fo)))] s.heap := hP
  have hl := lv_entry ([.ref o, .long u1, .long v1, .int q]) (n := 7) (Nat.le_of_ble_eq_true rfl)
  rw [lg_entry_eq]
  generalize (lg_sl ([.ref o, .long u1, .long v1, .int q]) ++ List.replicate (7 - (lg_sl ([.ref o, .long u1, .long v1, .int q])).length) Slot.unset).toArray = ls at hl ⊢
  have hl : lv_has ls 7 [(0, .ref o), (1, .long u1), (3, .long v1), (5, .int q)] := hl
  rw [hAe] at hba
  refine lv_aload_n hx hb d_L_set_0 rfl (lv_at hl 0 rfl) ?_
  refine lv_lload_n hx hb d_L_set_1 rfl (lv_at hl 1 rfl) ?_
  refine lv_lload_n hx hb d_L_set_2 rfl (lv_at hl 2 rfl) ?_
  refine lv_iload hx hb d_L_set_3 (lv_at hl 3 rfl) ?_
  have hPc := hP.sub (ws' := [(o, .inr (0, [.long (S.1), .long (S.2.1), .int (S.2.2.1), .int (nI S.2.2.2.1), .ref a1, .ref a2, .ref a3]))]) [0] rfl
  have hDc := hD.sub (ws' := [(o, .inr (0, [.long (S.1), .long (S.2.1), .int (S.2.2.1), .int (nI S.2.2.2.1), .ref a1, .ref a2, .ref a3]))]) [0] (by decide) rfl
  have hKc := hK.sub (tys' := []) [] rfl
  have hFc := va_free (wc := [(o, .inr (0, [.long (S.1), .long (S.2.1), .int (S.2.2.1), .int (nI S.2.2.2.1), .ref a1, .ref a2, .ref a3]))]) hD hS hA [0] rfl
  refine vx_callv (vx_runV (b := o) (C := RX0) (As := [.long u1, .long v1, .int q]) (rest := []) ⟨hx, hb, hml, hown, hts⟩ (m_X0_set l hfl D _ b0 (Nat.le_trans hb0 hS.1) o S.1 S.2.1 S.2.2.1 (nI S.2.2.2.1) (.ref a1) (.ref a2) (.ref a3) u1 v1 q (fun q h => hba q (hFc q h))) (cwV 3 hts (tw_V ml_L_7 im_X0_set se_X0_set in_X0 kw_X0_set) rfl rfl rfl (by decide +kernel) ⟨Nat.le_of_ble_eq_true rfl, Nat.le_of_ble_eq_true rfl⟩) ⟨fun a U g mk q => ⟨q.1, q.2.1, q.2.2.1, va_K.moved (u := U) (U := U.calling g mk a) (Vm.Alike.refl U.vm) q.2.2.2.1, q.2.2.2.2.1, td_X.blind q.2.2.2.2.2⟩, va_recv (q0 := 0) (ci := 0) hK hP rfl rfl, fun U hU hW => ⟨rfl, by rw [hU], by rw [hU]; exact hPc, va_K.moved hW.alike hKc, hDc.weaken (fun _ _ _ _ => trivial), td_X.at hX hW hU (fun q h1 h2 => hS.2.1 q h1 (fun z => Nat.not_le.mpr h2 (hba _ z)))⟩⟩ rfl rfl hl.1 rfl (lv_room (Nat.le_of_ble_eq_true rfl)) d_L_set_5 ⟨Nat.le_of_ble_eq_true rfl, Nat.le_of_ble_eq_true rfl⟩) hS (fun q _ h => hFc q h) hFc (fun q h1 h2 => absurd h2 (Nat.not_le.mpr h1)) (fun E ce q9 u0 t0 H1 locs ht hal hpx hB hz1 hk1 hS hce hcv hcl => ?_) (fun u0 t0 H1 locs ht hal hq hB hz1 hk1 hS => ?_)
  · obtain ⟨eE, hneg⟩ := hB
    subst eE
    have hP := td_keep hP hk1
    refine vx_catch (own := RL) (name := td_iae) hown [] ⟨0, 8, 11, 13⟩ [] (by rw [htab]; rfl) (fun z hz => absurd hz List.not_mem_nil) (by decide) (by decide) (hts _ cl_L_13) (va_Nw.use rfl hX.2.2.1) hce hcv hcl ?_
    refine lv_astore hx hb d_L_set_11 hl (by decide) rfl (fun ls hl => ?_)
    have hl : lv_has ls 7 [(6, .ref q9), (0, .ref o), (1, .long u1), (3, .long v1), (5, .int q)] := hl
    refine lv_iconst (v := 1) hx hb d_L_set_13 (by decide) ?_
    exact W.iret (v := 1) hx hb hr (fun t ht hW => ⟨⟨_, (S, pn, fo), rfl, ⟨rfl, Or.inr ⟨rfl, hneg, rfl⟩⟩, by rw [ht]; exact hP, va_K.moved hW.alike hK, hD⟩, hS.F ht⟩) hS.2.2 d_L_set_14
  · obtain ⟨hP1, hK1, hD1⟩ := hB
    rw [ht] at hP1
    obtain ⟨hP, hD⟩ := va_join (wr := [(a1, .inl (cI, 64, .inl S.2.2.2.2.1)), (a2, .inl (cJ, 64, .inr (.inl S.2.2.2.2.2))), (a3, .inl (cI, 14, .inl pn)), (w, .inl (cK, 1, .inr (.inl fo)))]) (w1 := [(o, .inr (0, [.long (if q = 0 then u1 else v1), .long (if q = 0 then v1 else u1), .int q, .int 0, .ref a1, .ref a2, .ref a3]))]) hP hD [0] [1, 2, 3, 4] rfl rfl (by decide) (by decide) hk1 hFc hP1 hD1
    clear hPc hDc hKc hFc hP1 hK1 hD1 hk1 hz1
    have hP := hP.sub (ws' := [(o, .inr (0, [.long (if q = 0 then u1 else v1), .long (if q = 0 then v1 else u1), .int q, .int 0, .ref a1, .ref a2, .ref a3])), (a1, .inl (cI, 64, .inl S.2.2.2.2.1)), (a2, .inl (cJ, 64, .inr (.inl S.2.2.2.2.2))), (a3, .inl (cI, 14, .inl pn)), (w, .inl (cK, 1, .inr (.inl fo)))]) [4, 0, 1, 2, 3] rfl
    have hD := hD.sub (ws' := [(o, .inr (0, [.long (if q = 0 then u1 else v1), .long (if q = 0 then v1 else u1), .int q, .int 0, .ref a1, .ref a2, .ref a3])), (a1, .inl (cI, 64, .inl S.2.2.2.2.1)), (a2, .inl (cJ, 64, .inr (.inl S.2.2.2.2.2))), (a3, .inl (cI, 14, .inl pn)), (w, .inl (cK, 1, .inr (.inl fo)))]) [4, 0, 1, 2, 3] (by decide) rfl
    clear ht hal
    generalize H1 = H at hP hS ⊢
    refine lv_goto (tgt := 15) hx hb d_L_set_8 (by decide) ?_
    refine lv_iconst (v := 0) hx hb d_L_set_15 (by decide) ?_
    exact W.iret (v := 0) hx hb hr (fun t ht hW => ⟨⟨_, (((if q = 0 then u1 else v1), (if q = 0 then v1 else u1), q, 0, S.2.2.2.2.1, S.2.2.2.2.2), pn, fo), rfl, ⟨rfl, Or.inl ⟨rfl, hq, rfl⟩⟩, by rw [ht]; exact hP, va_K.moved hW.alike hK, hD⟩, hS.F ht⟩) hS.2.2 d_L_set_16
set_option maxHeartbeats 4000000 in
set_option maxRecDepth 100000 in
theorem m_L_play (l : Launch) (hfl : l.stackTraces = false) (D : va_G) (sz b0 : Nat) (hb0 : b0 ≤ sz) (o a1 a2 a3 w : Nat) (cI cJ cK : ClassId) (S : tdS) (pn : Nat → Int32) (fo : Nat → Int64) (hk : S.2.2.2.1 ≤ 64) (q : Int32) (hba : ∀ q, va_A [(o, .inr (0, [.long (S.1), .long (S.2.1), .int (S.2.2.1), .int (nI S.2.2.2.1), .ref a1, .ref a2, .ref a3])), (a1, .inl (cI, 64, .inl S.2.2.2.2.1)), (a2, .inl (cJ, 64, .inr (.inl S.2.2.2.2.2))), (a3, .inl (cI, 14, .inl pn)), (w, .inl (cK, 1, .inr (.inl fo)))] sz q → b0 ≤ q) : Met l y_L_play (k_L_play :: tw) ({ frames := 7, cells := 1, slots := 6, locals := 133 }) (va_Pc [.ref o, .int q, .ref w] (fun U => U.heap.size = sz ∧ va_P D tdC [(o, .inr (0, [.long (S.1), .long (S.2.1), .int (S.2.2.1), .int (nI S.2.2.2.1), .ref a1, .ref a2, .ref a3])), (a1, .inl (cI, 64, .inl S.2.2.2.2.1)), (a2, .inl (cJ, 64, .inr (.inl S.2.2.2.2.2))), (a3, .inl (cI, 14, .inl pn)), (w, .inl (cK, 1, .inr (.inl fo)))] U.heap ∧ va_K D tdC [(cI, .int), (cJ, .long), (cK, .long)] U ∧ va_D (fun _ => True) [(o, .inr (0, [.long (S.1), .long (S.2.1), .int (S.2.2.1), .int (nI S.2.2.2.1), .ref a1, .ref a2, .ref a3])), (a1, .inl (cI, 64, .inl S.2.2.2.2.1)), (a2, .inl (cJ, 64, .inr (.inl S.2.2.2.2.2))), (a3, .inl (cI, 14, .inl pn)), (w, .inl (cK, 1, .inr (.inl fo)))] ∧ td_X b0 U ∧ va_Nc td_ise td_iae U)) (va_Qi (fun (r : Int32) (u : tdS × (Nat → Int32) × (Nat → Int64)) => u.2.1 = pn ∧ ((r = 0 ∧ td_may S.1 S.2.1 q ∧ S.2.2.2.1 < 64 ∧ u.1 = td_mk S q ∧ u.2.2 0 = (td_pop (td_turned S.1 S.2.1 (td_on q))).toInt64) ∨ (r = 1 ∧ ¬ td_may S.1 S.2.1 q ∧ u.1 = S) ∨ (r = 2 ∧ td_may S.1 S.2.1 q ∧ S.2.2.2.1 = 64 ∧ u.1 = S))) (fun (u : tdS × (Nat → Int32) × (Nat → Int64)) t => va_P D tdC [(o, .inr (0, [.long (u.1.1), .long (u.1.2.1), .int (u.1.2.2.1), .int (nI u.1.2.2.2.1), .ref a1, .ref a2, .ref a3])), (a1, .inl (cI, 64, .inl u.1.2.2.2.2.1)), (a2, .inl (cJ, 64, .inr (.inl u.1.2.2.2.2.2))), (a3, .inl (cI, 14, .inl u.2.1)), (w, .inl (cK, 1, .inr (.inl u.2.2)))] t.heap ∧ va_K D tdC [(cI, .int), (cJ, .long), (cK, .long)] t ∧ va_D (va_A [(o, .inr (0, [.long (S.1), .long (S.2.1), .int (S.2.2.1), .int (nI S.2.2.2.1), .ref a1, .ref a2, .ref a3])), (a1, .inl (cI, 64, .inl S.2.2.2.2.1)), (a2, .inl (cJ, 64, .inr (.inl S.2.2.2.2.2))), (a3, .inl (cI, 14, .inl pn)), (w, .inl (cK, 1, .inr (.inl fo)))] sz) [(o, .inr (0, [.long (u.1.1), .long (u.1.2.1), .int (u.1.2.2.1), .int (nI u.1.2.2.2.1), .ref a1, .ref a2, .ref a3])), (a1, .inl (cI, 64, .inl u.1.2.2.2.2.1)), (a2, .inl (cJ, 64, .inr (.inl u.1.2.2.2.2.2))), (a3, .inl (cI, 14, .inl u.2.1)), (w, .inl (cK, 1, .inr (.inl u.2.2)))]) (va_A [(o, .inr (0, [.long (S.1), .long (S.2.1), .int (S.2.2.1), .int (nI S.2.2.2.1), .ref a1, .ref a2, .ref a3])), (a1, .inl (cI, 64, .inl S.2.2.2.2.1)), (a2, .inl (cJ, 64, .inr (.inl S.2.2.2.2.2))), (a3, .inl (cI, 14, .inl pn)), (w, .inl (cK, 1, .inr (.inl fo)))] sz)) 1 6 (va_A [(o, .inr (0, [.long (S.1), .long (S.2.1), .int (S.2.2.1), .int (nI S.2.2.2.1), .ref a1, .ref a2, .ref a3])), (a1, .inl (cI, 64, .inl S.2.2.2.2.1)), (a2, .inl (cJ, 64, .inr (.inl S.2.2.2.2.2))), (a3, .inl (cI, 14, .inl pn)), (w, .inl (cK, 1, .inr (.inl fo)))] sz) := by
  refine td_ofWH (cc := c_L_play) (maxL := 4) (ret := (some .int)) (by decide) rfl ?_
  intro p e s m args below meth c s₁ B hml htab hv
  obtain ⟨rfl, hsz, hP, hK, hD0, hX, hNc⟩ := hv
  have hx := B.exec
  have hb := B.bytes
  have hr := B.returns
  have hts : ∀ w ∈ tw, w.before _ s = true := fun w h => atoms_spec (ws := k_L_play :: tw) B.pre w (List.mem_cons_of_mem _ h)
  have hown : s.vm.findClass RL = some m.cls := findClass_of_methodNamed B.named
  have hlocks := B.notSynchronized
  subst hsz
  have hD := hD0.self (sz := s.heap.size)
  generalize hAe : va_A [(o, .inr (0, [.long (S.1), .long (S.2.1), .int (S.2.2.1), .int (nI S.2.2.2.1), .ref a1, .ref a2, .ref a3])), (a1, .inl (cI, 64, .inl S.2.2.2.2.1)), (a2, .inl (cJ, 64, .inr (.inl S.2.2.2.2.2))), (a3, .inl (cI, 14, .inl pn)), (w, .inl (cK, 1, .inr (.inl fo)))] s.heap.size = A at hD ⊢
  have hA : ∀ q : Nat, s.heap.size ≤ q → A q := fun q h => by rw [← hAe]; exact Or.inr h
  have hS : va_S A s.heap s.heap [] := va_S.rf
  have hP : va_P D tdC [(o, .inr (0, [.long (S.1), .long (S.2.1), .int (S.2.2.1), .int (nI S.2.2.2.1), .ref a1, .ref a2, .ref a3])), (a1, .inl (cI, 64, .inl S.2.2.2.2.1)), (a2, .inl (cJ, 64, .inr (.inl S.2.2.2.2.2))), (a3, .inl (cI, 14, .inl pn)), (w, .inl (cK, 1, .inr (.inl fo)))] s.heap := hP
  have hl := lv_entry ([.ref o, .int q, .ref w]) (n := 4) (Nat.le_of_ble_eq_true rfl)
  rw [lg_entry_eq]
  generalize (lg_sl ([.ref o, .int q, .ref w]) ++ List.replicate (4 - (lg_sl ([.ref o, .int q, .ref w])).length) Slot.unset).toArray = ls at hl ⊢
  have hl : lv_has ls 4 [(0, .ref o), (1, .int q), (2, .ref w)] := hl
  rw [hAe] at hba
  refine lv_aload_n hx hb d_L_play_0 rfl (lv_at hl 2 rfl) ?_
  refine lv_iconst (v := 0) hx hb d_L_play_1 (by decide) ?_
  refine lv_aload_n hx hb d_L_play_2 rfl (lv_at hl 0 rfl) ?_
  refine lv_iload_n hx hb d_L_play_3 rfl (lv_at hl 1 rfl) ?_
  have hPc := hP.sub (ws' := [(o, .inr (0, [.long (S.1), .long (S.2.1), .int (S.2.2.1), .int (nI S.2.2.2.1), .ref a1, .ref a2, .ref a3])), (a1, .inl (cI, 64, .inl S.2.2.2.2.1)), (a2, .inl (cJ, 64, .inr (.inl S.2.2.2.2.2)))]) [0, 1, 2] rfl
  have hDc := hD.sub (ws' := [(o, .inr (0, [.long (S.1), .long (S.2.1), .int (S.2.2.1), .int (nI S.2.2.2.1), .ref a1, .ref a2, .ref a3])), (a1, .inl (cI, 64, .inl S.2.2.2.2.1)), (a2, .inl (cJ, 64, .inr (.inl S.2.2.2.2.2)))]) [0, 1, 2] (by decide) rfl
  have hKc := hK.sub (tys' := [(cI, .int), (cJ, .long)]) [0, 1] rfl
  have hFc := va_free (wc := [(o, .inr (0, [.long (S.1), .long (S.2.1), .int (S.2.2.1), .int (nI S.2.2.2.1), .ref a1, .ref a2, .ref a3])), (a1, .inl (cI, 64, .inl S.2.2.2.2.1)), (a2, .inl (cJ, 64, .inr (.inl S.2.2.2.2.2)))]) hD hS hA [0, 1, 2] rfl
  refine vx_calli (vx_runV (b := o) (C := RX0) (As := [.int q]) (rest := [.int 0, .ref w]) ⟨hx, hb, hml, hown, hts⟩ (m_X0_play l hfl D _ b0 (Nat.le_trans hb0 hS.1) o a1 a2 cI cJ S.1 S.2.1 S.2.2.1 S.2.2.2.1 hk (.ref a3) S.2.2.2.2.1 S.2.2.2.2.2 q (fun q h => hba q (hFc q h))) (cwV 1 hts (tw_V ml_L_22 im_X0_play se_X0_play in_X0 kw_X0_play) rfl rfl rfl (by decide +kernel) ⟨Nat.le_of_ble_eq_true rfl, Nat.le_of_ble_eq_true rfl⟩) ⟨fun a U g mk q => ⟨q.1, q.2.1, q.2.2.1, va_K.moved (u := U) (U := U.calling g mk a) (Vm.Alike.refl U.vm) q.2.2.2.1, q.2.2.2.2.1, td_X.blind q.2.2.2.2.2⟩, va_recv (q0 := 0) (ci := 0) hK hP rfl rfl, fun U hU hW => ⟨rfl, by rw [hU], by rw [hU]; exact hPc, va_K.moved hW.alike hKc, hDc.weaken (fun _ _ _ _ => trivial), td_X.at hX hW hU (fun q h1 h2 => hS.2.1 q h1 (fun z => Nat.not_le.mpr h2 (hba _ z)))⟩⟩ rfl rfl hl.1 rfl (lv_room (Nat.le_of_ble_eq_true rfl)) d_L_play_4 ⟨Nat.le_of_ble_eq_true rfl, Nat.le_of_ble_eq_true rfl⟩) hS (fun q _ h => hFc q h) hFc (fun q h1 h2 => absurd h2 (Nat.not_le.mpr h1)) (fun E ce q9 u0 t0 H1 locs ht hal hpx hB hz1 hk1 hS hce hcv hcl => ?_) (fun r u0 t0 H1 locs ht hal hq hB hz1 hk1 hS => ?_)
  · rcases hB with ⟨eE, hneg⟩ | ⟨eE, hm1, hm2⟩
    · subst eE
      have hP := td_keep hP hk1
      refine vx_catch (own := RL) (name := td_iae) hown [] ⟨0, 9, 12, 13⟩ [⟨0, 9, 15, 26⟩] (by rw [htab]; rfl) (fun z hz => absurd hz List.not_mem_nil) (by decide) (by decide) (hts _ cl_L_13) (va_Nw.use rfl hX.2.2.1) hce hcv hcl ?_
      refine lv_astore_n hx hb d_L_play_12 rfl hl (by decide) rfl (fun ls hl => ?_)
      have hl : lv_has ls 4 [(3, .ref q9), (0, .ref o), (1, .int q), (2, .ref w)] := hl
      refine lv_iconst (v := 1) hx hb d_L_play_13 (by decide) ?_
      exact W.iret (v := 1) hx hb hr (fun t ht hW => ⟨⟨_, (S, pn, fo), rfl, ⟨rfl, Or.inr (Or.inl ⟨rfl, hneg, rfl⟩)⟩, by rw [ht]; exact hP, va_K.moved hW.alike hK, hD⟩, hS.F ht⟩) hS.2.2 d_L_play_14
    · subst eE
      have hP := td_keep hP hk1
      refine vx_catch (own := RL) (name := td_ise) hown [⟨0, 9, 12, 13⟩] ⟨0, 9, 15, 26⟩ [] (by rw [htab]; rfl) (fun z hz => by rcases List.mem_cons.mp hz with rfl | hz; exact Or.inr ⟨by decide, td_iae, hts _ cl_L_13, hNc⟩; exact absurd hz List.not_mem_nil) (by decide) (by decide) (hts _ cl_L_26) (va_Nw.use rfl hX.2.2.2.1) hce hcv hcl ?_
      refine lv_astore_n hx hb d_L_play_15 rfl hl (by decide) rfl (fun ls hl => ?_)
      have hl : lv_has ls 4 [(3, .ref q9), (0, .ref o), (1, .int q), (2, .ref w)] := hl
      refine lv_iconst (v := 2) hx hb d_L_play_16 (by decide) ?_
      exact W.iret (v := 2) hx hb hr (fun t ht hW => ⟨⟨_, (S, pn, fo), rfl, ⟨rfl, Or.inr (Or.inr ⟨rfl, hm1, hm2, rfl⟩)⟩, by rw [ht]; exact hP, va_K.moved hW.alike hK, hD⟩, hS.F ht⟩) hS.2.2 d_L_play_17
  · obtain ⟨hP1, hK1, hD1⟩ := hB
    rw [ht] at hP1
    obtain ⟨hP, hD⟩ := va_join (wr := [(a3, .inl (cI, 14, .inl pn)), (w, .inl (cK, 1, .inr (.inl fo)))]) (w1 := [(o, .inr (0, [.long (S.2.1 ^^^ (td_turned S.1 S.2.1 (td_on q))), .long ((S.1 ||| td_on q) ||| (td_turned S.1 S.2.1 (td_on q))), .int (1 - S.2.2.1), .int (nI (S.2.2.2.1 + 1)), .ref a1, .ref a2, .ref a3])), (a1, .inl (cI, 64, .inl (upd S.2.2.2.2.1 S.2.2.2.1 q))), (a2, .inl (cJ, 64, .inr (.inl (vp_updL S.2.2.2.2.2 S.2.2.2.1 (td_turned S.1 S.2.1 (td_on q))))))]) hP hD [0, 1, 2] [3, 4] rfl rfl (by decide) (by decide) hk1 hFc hP1 hD1
    clear hPc hDc hKc hFc hP1 hK1 hD1 hk1 hz1
    have hP := hP.sub (ws' := [(o, .inr (0, [.long (S.2.1 ^^^ (td_turned S.1 S.2.1 (td_on q))), .long ((S.1 ||| td_on q) ||| (td_turned S.1 S.2.1 (td_on q))), .int (1 - S.2.2.1), .int (nI (S.2.2.2.1 + 1)), .ref a1, .ref a2, .ref a3])), (a1, .inl (cI, 64, .inl (upd S.2.2.2.2.1 S.2.2.2.1 q))), (a2, .inl (cJ, 64, .inr (.inl (vp_updL S.2.2.2.2.2 S.2.2.2.1 (td_turned S.1 S.2.1 (td_on q)))))), (a3, .inl (cI, 14, .inl pn)), (w, .inl (cK, 1, .inr (.inl fo)))]) [2, 3, 4, 0, 1] rfl
    have hD := hD.sub (ws' := [(o, .inr (0, [.long (S.2.1 ^^^ (td_turned S.1 S.2.1 (td_on q))), .long ((S.1 ||| td_on q) ||| (td_turned S.1 S.2.1 (td_on q))), .int (1 - S.2.2.1), .int (nI (S.2.2.2.1 + 1)), .ref a1, .ref a2, .ref a3])), (a1, .inl (cI, 64, .inl (upd S.2.2.2.2.1 S.2.2.2.1 q))), (a2, .inl (cJ, 64, .inr (.inl (vp_updL S.2.2.2.2.2 S.2.2.2.1 (td_turned S.1 S.2.1 (td_on q)))))), (a3, .inl (cI, 14, .inl pn)), (w, .inl (cK, 1, .inr (.inl fo)))]) [2, 3, 4, 0, 1] (by decide) rfl
    clear ht hal
    generalize H1 = H at hP hS ⊢
    have hP : va_P D tdC [(o, .inr (0, [.long ((td_mk S q).1), .long ((td_mk S q).2.1), .int ((td_mk S q).2.2.1), .int (nI (td_mk S q).2.2.2.1), .ref a1, .ref a2, .ref a3])), (a1, .inl (cI, 64, .inl ((td_mk S q).2.2.2.2.1))), (a2, .inl (cJ, 64, .inr (.inl ((td_mk S q).2.2.2.2.2)))), (a3, .inl (cI, 14, .inl pn)), (w, .inl (cK, 1, .inr (.inl fo)))] H := hP
    have hD : va_D A [(o, .inr (0, [.long ((td_mk S q).1), .long ((td_mk S q).2.1), .int ((td_mk S q).2.2.1), .int (nI (td_mk S q).2.2.2.1), .ref a1, .ref a2, .ref a3])), (a1, .inl (cI, 64, .inl ((td_mk S q).2.2.2.2.1))), (a2, .inl (cJ, 64, .inr (.inl ((td_mk S q).2.2.2.2.2)))), (a3, .inl (cI, 14, .inl pn)), (w, .inl (cK, 1, .inr (.inl fo)))] := hD
    refine lv_i2l (v := (r.toInt64)) hx hb d_L_play_7 rfl ?_
    refine va_last hx hb hK hP hD hS 4 2 rfl rfl (vp_in_nI (n := 0) (by decide) (by decide)) d_L_play_8 (fun H locs hP hD hS => ?_)
    have hu : vp_updL fo (0 : Int32).toNatClampNeg (r.toInt64) = (vp_updL fo 0 (r.toInt64)) := rfl
    have hP : va_P D tdC [(o, .inr (0, [.long ((td_mk S q).1), .long ((td_mk S q).2.1), .int ((td_mk S q).2.2.1), .int (nI (td_mk S q).2.2.2.1), .ref a1, .ref a2, .ref a3])), (a1, .inl (cI, 64, .inl ((td_mk S q).2.2.2.2.1))), (a2, .inl (cJ, 64, .inr (.inl ((td_mk S q).2.2.2.2.2)))), (a3, .inl (cI, 14, .inl pn)), (w, .inl (cK, 1, .inr (.inl (vp_updL fo (0 : Int32).toNatClampNeg (r.toInt64)))))] H := hP
    have hD : va_D A [(o, .inr (0, [.long ((td_mk S q).1), .long ((td_mk S q).2.1), .int ((td_mk S q).2.2.1), .int (nI (td_mk S q).2.2.2.1), .ref a1, .ref a2, .ref a3])), (a1, .inl (cI, 64, .inl ((td_mk S q).2.2.2.2.1))), (a2, .inl (cJ, 64, .inr (.inl ((td_mk S q).2.2.2.2.2)))), (a3, .inl (cI, 14, .inl pn)), (w, .inl (cK, 1, .inr (.inl (vp_updL fo (0 : Int32).toNatClampNeg (r.toInt64)))))] := hD
    rw [hu] at hP hD
    clear hu
    have hP : va_P D tdC [(o, .inr (0, [.long ((td_mk S q).1), .long ((td_mk S q).2.1), .int ((td_mk S q).2.2.1), .int (nI (td_mk S q).2.2.2.1), .ref a1, .ref a2, .ref a3])), (a1, .inl (cI, 64, .inl ((td_mk S q).2.2.2.2.1))), (a2, .inl (cJ, 64, .inr (.inl ((td_mk S q).2.2.2.2.2)))), (a3, .inl (cI, 14, .inl pn)), (w, .inl (cK, 1, .inr (.inl (vp_updL fo 0 (r.toInt64)))))] H := hP
    have hD : va_D A [(o, .inr (0, [.long ((td_mk S q).1), .long ((td_mk S q).2.1), .int ((td_mk S q).2.2.1), .int (nI (td_mk S q).2.2.2.1), .ref a1, .ref a2, .ref a3])), (a1, .inl (cI, 64, .inl ((td_mk S q).2.2.2.2.1))), (a2, .inl (cJ, 64, .inr (.inl ((td_mk S q).2.2.2.2.2)))), (a3, .inl (cI, 14, .inl pn)), (w, .inl (cK, 1, .inr (.inl (vp_updL fo 0 (r.toInt64)))))] := hD
    refine lv_goto (tgt := 18) hx hb d_L_play_9 (by decide) ?_
    refine lv_iconst (v := 0) hx hb d_L_play_18 (by decide) ?_
    exact W.iret (v := 0) hx hb hr (fun t ht hW => ⟨⟨_, (td_mk S q, pn, vp_updL fo 0 (r.toInt64)), rfl, ⟨rfl, Or.inl ⟨rfl, hq.1, hq.2.1, rfl, (show vp_updL fo 0 (r.toInt64) 0 = _ by rw [pk_uLs, hq.2.2])⟩⟩, by rw [ht]; exact hP, va_K.moved hW.alike hK, hD⟩, hS.F ht⟩) hS.2.2 d_L_play_19
set_option maxHeartbeats 4000000 in
set_option maxRecDepth 100000 in
theorem m_L_back (l : Launch) (hfl : l.stackTraces = false) (D : va_G) (sz b0 : Nat) (hb0 : b0 ≤ sz) (o a1 a2 a3 w : Nat) (cI cJ cK : ClassId) (S : tdS) (pn : Nat → Int32) (fo : Nat → Int64) (hk : S.2.2.2.1 ≤ 64) (hba : ∀ q, va_A [(o, .inr (0, [.long (S.1), .long (S.2.1), .int (S.2.2.1), .int (nI S.2.2.2.1), .ref a1, .ref a2, .ref a3])), (a1, .inl (cI, 64, .inl S.2.2.2.2.1)), (a2, .inl (cJ, 64, .inr (.inl S.2.2.2.2.2))), (a3, .inl (cI, 14, .inl pn)), (w, .inl (cK, 1, .inr (.inl fo)))] sz q → b0 ≤ q) : Met l y_L_back (k_L_back :: tw) ({ frames := 7, cells := 1, slots := 6, locals := 107 }) (va_Pc [.ref o, .ref w] (fun U => U.heap.size = sz ∧ va_P D tdC [(o, .inr (0, [.long (S.1), .long (S.2.1), .int (S.2.2.1), .int (nI S.2.2.2.1), .ref a1, .ref a2, .ref a3])), (a1, .inl (cI, 64, .inl S.2.2.2.2.1)), (a2, .inl (cJ, 64, .inr (.inl S.2.2.2.2.2))), (a3, .inl (cI, 14, .inl pn)), (w, .inl (cK, 1, .inr (.inl fo)))] U.heap ∧ va_K D tdC [(cI, .int), (cJ, .long), (cK, .long)] U ∧ va_D (fun _ => True) [(o, .inr (0, [.long (S.1), .long (S.2.1), .int (S.2.2.1), .int (nI S.2.2.2.1), .ref a1, .ref a2, .ref a3])), (a1, .inl (cI, 64, .inl S.2.2.2.2.1)), (a2, .inl (cJ, 64, .inr (.inl S.2.2.2.2.2))), (a3, .inl (cI, 14, .inl pn)), (w, .inl (cK, 1, .inr (.inl fo)))] ∧ td_X b0 U ∧ va_Nc td_ise td_iae U)) (va_Qi (fun (r : Int32) (u : tdS × (Nat → Int32) × (Nat → Int64)) => u.2.1 = pn ∧ ((r = 0 ∧ 0 < S.2.2.2.1 ∧ u.1 = ((S.2.1 ^^^ (td_on (S.2.2.2.2.1 (S.2.2.2.1 - 1)) ||| S.2.2.2.2.2 (S.2.2.2.1 - 1))), (S.1 ||| S.2.2.2.2.2 (S.2.2.2.1 - 1)), 1 - S.2.2.1, S.2.2.2.1 - 1, S.2.2.2.2.1, S.2.2.2.2.2) ∧ u.2.2 0 = (S.2.2.2.2.1 (S.2.2.2.1 - 1)).toInt64) ∨ (r = 1 ∧ S.2.2.2.1 = 0 ∧ u.1 = S))) (fun (u : tdS × (Nat → Int32) × (Nat → Int64)) t => va_P D tdC [(o, .inr (0, [.long (u.1.1), .long (u.1.2.1), .int (u.1.2.2.1), .int (nI u.1.2.2.2.1), .ref a1, .ref a2, .ref a3])), (a1, .inl (cI, 64, .inl u.1.2.2.2.2.1)), (a2, .inl (cJ, 64, .inr (.inl u.1.2.2.2.2.2))), (a3, .inl (cI, 14, .inl u.2.1)), (w, .inl (cK, 1, .inr (.inl u.2.2)))] t.heap ∧ va_K D tdC [(cI, .int), (cJ, .long), (cK, .long)] t ∧ va_D (va_A [(o, .inr (0, [.long (S.1), .long (S.2.1), .int (S.2.2.1), .int (nI S.2.2.2.1), .ref a1, .ref a2, .ref a3])), (a1, .inl (cI, 64, .inl S.2.2.2.2.1)), (a2, .inl (cJ, 64, .inr (.inl S.2.2.2.2.2))), (a3, .inl (cI, 14, .inl pn)), (w, .inl (cK, 1, .inr (.inl fo)))] sz) [(o, .inr (0, [.long (u.1.1), .long (u.1.2.1), .int (u.1.2.2.1), .int (nI u.1.2.2.2.1), .ref a1, .ref a2, .ref a3])), (a1, .inl (cI, 64, .inl u.1.2.2.2.2.1)), (a2, .inl (cJ, 64, .inr (.inl u.1.2.2.2.2.2))), (a3, .inl (cI, 14, .inl u.2.1)), (w, .inl (cK, 1, .inr (.inl u.2.2)))]) (va_A [(o, .inr (0, [.long (S.1), .long (S.2.1), .int (S.2.2.1), .int (nI S.2.2.2.1), .ref a1, .ref a2, .ref a3])), (a1, .inl (cI, 64, .inl S.2.2.2.2.1)), (a2, .inl (cJ, 64, .inr (.inl S.2.2.2.2.2))), (a3, .inl (cI, 14, .inl pn)), (w, .inl (cK, 1, .inr (.inl fo)))] sz)) 1 6 (va_A [(o, .inr (0, [.long (S.1), .long (S.2.1), .int (S.2.2.1), .int (nI S.2.2.2.1), .ref a1, .ref a2, .ref a3])), (a1, .inl (cI, 64, .inl S.2.2.2.2.1)), (a2, .inl (cJ, 64, .inr (.inl S.2.2.2.2.2))), (a3, .inl (cI, 14, .inl pn)), (w, .inl (cK, 1, .inr (.inl fo)))] sz) := by
  refine td_ofWH (cc := c_L_back) (maxL := 3) (ret := (some .int)) (by decide) rfl ?_
  intro p e s m args below meth c s₁ B hml htab hv
  obtain ⟨rfl, hsz, hP, hK, hD0, hX, hNc⟩ := hv
  have hx := B.exec
  have hb := B.bytes
  have hr := B.returns
  have hts : ∀ w ∈ tw, w.before _ s = true := fun w h => atoms_spec (ws := k_L_back :: tw) B.pre w (List.mem_cons_of_mem _ h)
  have hown : s.vm.findClass RL = some m.cls := findClass_of_methodNamed B.named
  have hlocks := B.notSynchronized
  subst hsz
  have hD := hD0.self (sz := s.heap.size)
  generalize hAe : va_A [(o, .inr (0, [.long (S.1), .long (S.2.1), .int (S.2.2.1), .int (nI S.2.2.2.1), .ref a1, .ref a2, .ref a3])), (a1, .inl (cI, 64, .inl S.2.2.2.2.1)), (a2, .inl (cJ, 64, .inr (.inl S.2.2.2.2.2))), (a3, .inl (cI, 14, .inl pn)), (w, .inl (cK, 1, .inr (.inl fo)))] s.heap.size = A at hD ⊢
  have hA : ∀ q : Nat, s.heap.size ≤ q → A q := fun q h => by rw [← hAe]; exact Or.inr h
  have hS : va_S A s.heap s.heap [] := va_S.rf
  have hP : va_P D tdC [(o, .inr (0, [.long (S.1), .long (S.2.1), .int (S.2.2.1), .int (nI S.2.2.2.1), .ref a1, .ref a2, .ref a3])), (a1, .inl (cI, 64, .inl S.2.2.2.2.1)), (a2, .inl (cJ, 64, .inr (.inl S.2.2.2.2.2))), (a3, .inl (cI, 14, .inl pn)), (w, .inl (cK, 1, .inr (.inl fo)))] s.heap := hP
  have hl := lv_entry ([.ref o, .ref w]) (n := 3) (Nat.le_of_ble_eq_true rfl)
  rw [lg_entry_eq]
  generalize (lg_sl ([.ref o, .ref w]) ++ List.replicate (3 - (lg_sl ([.ref o, .ref w])).length) Slot.unset).toArray = ls at hl ⊢
  have hl : lv_has ls 3 [(0, .ref o), (1, .ref w)] := hl
  rw [hAe] at hba
  refine lv_aload_n hx hb d_L_back_0 rfl (lv_at hl 1 rfl) ?_
  refine lv_iconst (v := 0) hx hb d_L_back_1 (by decide) ?_
  refine lv_aload_n hx hb d_L_back_2 rfl (lv_at hl 0 rfl) ?_
  have hPc := hP.sub (ws' := [(o, .inr (0, [.long (S.1), .long (S.2.1), .int (S.2.2.1), .int (nI S.2.2.2.1), .ref a1, .ref a2, .ref a3])), (a1, .inl (cI, 64, .inl S.2.2.2.2.1)), (a2, .inl (cJ, 64, .inr (.inl S.2.2.2.2.2)))]) [0, 1, 2] rfl
  have hDc := hD.sub (ws' := [(o, .inr (0, [.long (S.1), .long (S.2.1), .int (S.2.2.1), .int (nI S.2.2.2.1), .ref a1, .ref a2, .ref a3])), (a1, .inl (cI, 64, .inl S.2.2.2.2.1)), (a2, .inl (cJ, 64, .inr (.inl S.2.2.2.2.2)))]) [0, 1, 2] (by decide) rfl
  have hKc := hK.sub (tys' := [(cI, .int), (cJ, .long)]) [0, 1] rfl
  have hFc := va_free (wc := [(o, .inr (0, [.long (S.1), .long (S.2.1), .int (S.2.2.1), .int (nI S.2.2.2.1), .ref a1, .ref a2, .ref a3])), (a1, .inl (cI, 64, .inl S.2.2.2.2.1)), (a2, .inl (cJ, 64, .inr (.inl S.2.2.2.2.2)))]) hD hS hA [0, 1, 2] rfl
  refine vx_calli (vx_runV (b := o) (C := RX0) (As := []) (rest := [.int 0, .ref w]) ⟨hx, hb, hml, hown, hts⟩ (m_X0_back l hfl D _ b0 (Nat.le_trans hb0 hS.1) o a1 a2 cI cJ S.1 S.2.1 S.2.2.1 S.2.2.2.1 hk (.ref a3) S.2.2.2.2.1 S.2.2.2.2.2 (fun q h => hba q (hFc q h))) (cwV 0 hts (tw_V ml_L_28 im_X0_back se_X0_back in_X0 kw_X0_back) rfl rfl rfl (by decide +kernel) ⟨Nat.le_of_ble_eq_true rfl, Nat.le_of_ble_eq_true rfl⟩) ⟨fun a U g mk q => ⟨q.1, q.2.1, q.2.2.1, va_K.moved (u := U) (U := U.calling g mk a) (Vm.Alike.refl U.vm) q.2.2.2.1, q.2.2.2.2.1, td_X.blind q.2.2.2.2.2⟩, va_recv (q0 := 0) (ci := 0) hK hP rfl rfl, fun U hU hW => ⟨rfl, by rw [hU], by rw [hU]; exact hPc, va_K.moved hW.alike hKc, hDc.weaken (fun _ _ _ _ => trivial), td_X.at hX hW hU (fun q h1 h2 => hS.2.1 q h1 (fun z => Nat.not_le.mpr h2 (hba _ z)))⟩⟩ rfl rfl hl.1 rfl (lv_room (Nat.le_of_ble_eq_true rfl)) d_L_back_3 ⟨Nat.le_of_ble_eq_true rfl, Nat.le_of_ble_eq_true rfl⟩) hS (fun q _ h => hFc q h) hFc (fun q h1 h2 => absurd h2 (Nat.not_le.mpr h1)) (fun E ce q9 u0 t0 H1 locs ht hal hpx hB hz1 hk1 hS hce hcv hcl => ?_) (fun r u0 t0 H1 locs ht hal hq hB hz1 hk1 hS => ?_)
  · obtain ⟨eE, hneg⟩ := hB
    subst eE
    have hP := td_keep hP hk1
    refine vx_catch (own := RL) (name := td_nse) hown [] ⟨0, 8, 11, 32⟩ [] (by rw [htab]; rfl) (fun z hz => absurd hz List.not_mem_nil) (by decide) (by decide) (hts _ cl_L_32) (va_Nw.use rfl hX.2.2.2.2.1) hce hcv hcl ?_
    refine lv_astore_n hx hb d_L_back_11 rfl hl (by decide) rfl (fun ls hl => ?_)
    have hl : lv_has ls 3 [(2, .ref q9), (0, .ref o), (1, .ref w)] := hl
    refine lv_iconst (v := 1) hx hb d_L_back_12 (by decide) ?_
    exact W.iret (v := 1) hx hb hr (fun t ht hW => ⟨⟨_, (S, pn, fo), rfl, ⟨rfl, Or.inr ⟨rfl, hneg, rfl⟩⟩, by rw [ht]; exact hP, va_K.moved hW.alike hK, hD⟩, hS.F ht⟩) hS.2.2 d_L_back_13
  · obtain ⟨hP1, hK1, hD1⟩ := hB
    rw [ht] at hP1
    obtain ⟨hP, hD⟩ := va_join (wr := [(a3, .inl (cI, 14, .inl pn)), (w, .inl (cK, 1, .inr (.inl fo)))]) (w1 := [(o, .inr (0, [.long (S.2.1 ^^^ (td_on (S.2.2.2.2.1 (S.2.2.2.1 - 1)) ||| S.2.2.2.2.2 (S.2.2.2.1 - 1))), .long (S.1 ||| S.2.2.2.2.2 (S.2.2.2.1 - 1)), .int (1 - S.2.2.1), .int (nI (S.2.2.2.1 - 1)), .ref a1, .ref a2, .ref a3])), (a1, .inl (cI, 64, .inl S.2.2.2.2.1)), (a2, .inl (cJ, 64, .inr (.inl S.2.2.2.2.2)))]) hP hD [0, 1, 2] [3, 4] rfl rfl (by decide) (by decide) hk1 hFc hP1 hD1
    clear hPc hDc hKc hFc hP1 hK1 hD1 hk1 hz1
    have hP := hP.sub (ws' := [(o, .inr (0, [.long (S.2.1 ^^^ (td_on (S.2.2.2.2.1 (S.2.2.2.1 - 1)) ||| S.2.2.2.2.2 (S.2.2.2.1 - 1))), .long (S.1 ||| S.2.2.2.2.2 (S.2.2.2.1 - 1)), .int (1 - S.2.2.1), .int (nI (S.2.2.2.1 - 1)), .ref a1, .ref a2, .ref a3])), (a1, .inl (cI, 64, .inl S.2.2.2.2.1)), (a2, .inl (cJ, 64, .inr (.inl S.2.2.2.2.2))), (a3, .inl (cI, 14, .inl pn)), (w, .inl (cK, 1, .inr (.inl fo)))]) [2, 3, 4, 0, 1] rfl
    have hD := hD.sub (ws' := [(o, .inr (0, [.long (S.2.1 ^^^ (td_on (S.2.2.2.2.1 (S.2.2.2.1 - 1)) ||| S.2.2.2.2.2 (S.2.2.2.1 - 1))), .long (S.1 ||| S.2.2.2.2.2 (S.2.2.2.1 - 1)), .int (1 - S.2.2.1), .int (nI (S.2.2.2.1 - 1)), .ref a1, .ref a2, .ref a3])), (a1, .inl (cI, 64, .inl S.2.2.2.2.1)), (a2, .inl (cJ, 64, .inr (.inl S.2.2.2.2.2))), (a3, .inl (cI, 14, .inl pn)), (w, .inl (cK, 1, .inr (.inl fo)))]) [2, 3, 4, 0, 1] (by decide) rfl
    clear ht hal
    generalize H1 = H at hP hS ⊢
    refine lv_i2l (v := (r.toInt64)) hx hb d_L_back_6 rfl ?_
    refine va_last hx hb hK hP hD hS 4 2 rfl rfl (vp_in_nI (n := 0) (by decide) (by decide)) d_L_back_7 (fun H locs hP hD hS => ?_)
    have hu : vp_updL fo (0 : Int32).toNatClampNeg (r.toInt64) = (vp_updL fo 0 (r.toInt64)) := rfl
    have hP : va_P D tdC [(o, .inr (0, [.long (S.2.1 ^^^ (td_on (S.2.2.2.2.1 (S.2.2.2.1 - 1)) ||| S.2.2.2.2.2 (S.2.2.2.1 - 1))), .long (S.1 ||| S.2.2.2.2.2 (S.2.2.2.1 - 1)), .int (1 - S.2.2.1), .int (nI (S.2.2.2.1 - 1)), .ref a1, .ref a2, .ref a3])), (a1, .inl (cI, 64, .inl S.2.2.2.2.1)), (a2, .inl (cJ, 64, .inr (.inl S.2.2.2.2.2))), (a3, .inl (cI, 14, .inl pn)), (w, .inl (cK, 1, .inr (.inl (vp_updL fo (0 : Int32).toNatClampNeg (r.toInt64)))))] H := hP
    have hD : va_D A [(o, .inr (0, [.long (S.2.1 ^^^ (td_on (S.2.2.2.2.1 (S.2.2.2.1 - 1)) ||| S.2.2.2.2.2 (S.2.2.2.1 - 1))), .long (S.1 ||| S.2.2.2.2.2 (S.2.2.2.1 - 1)), .int (1 - S.2.2.1), .int (nI (S.2.2.2.1 - 1)), .ref a1, .ref a2, .ref a3])), (a1, .inl (cI, 64, .inl S.2.2.2.2.1)), (a2, .inl (cJ, 64, .inr (.inl S.2.2.2.2.2))), (a3, .inl (cI, 14, .inl pn)), (w, .inl (cK, 1, .inr (.inl (vp_updL fo (0 : Int32).toNatClampNeg (r.toInt64)))))] := hD
    rw [hu] at hP hD
    clear hu
    have hP : va_P D tdC [(o, .inr (0, [.long (S.2.1 ^^^ (td_on (S.2.2.2.2.1 (S.2.2.2.1 - 1)) ||| S.2.2.2.2.2 (S.2.2.2.1 - 1))), .long (S.1 ||| S.2.2.2.2.2 (S.2.2.2.1 - 1)), .int (1 - S.2.2.1), .int (nI (S.2.2.2.1 - 1)), .ref a1, .ref a2, .ref a3])), (a1, .inl (cI, 64, .inl S.2.2.2.2.1)), (a2, .inl (cJ, 64, .inr (.inl S.2.2.2.2.2))), (a3, .inl (cI, 14, .inl pn)), (w, .inl (cK, 1, .inr (.inl (vp_updL fo 0 (r.toInt64)))))] H := hP
    have hD : va_D A [(o, .inr (0, [.long (S.2.1 ^^^ (td_on (S.2.2.2.2.1 (S.2.2.2.1 - 1)) ||| S.2.2.2.2.2 (S.2.2.2.1 - 1))), .long (S.1 ||| S.2.2.2.2.2 (S.2.2.2.1 - 1)), .int (1 - S.2.2.1), .int (nI (S.2.2.2.1 - 1)), .ref a1, .ref a2, .ref a3])), (a1, .inl (cI, 64, .inl S.2.2.2.2.1)), (a2, .inl (cJ, 64, .inr (.inl S.2.2.2.2.2))), (a3, .inl (cI, 14, .inl pn)), (w, .inl (cK, 1, .inr (.inl (vp_updL fo 0 (r.toInt64)))))] := hD
    refine lv_goto (tgt := 14) hx hb d_L_back_8 (by decide) ?_
    refine lv_iconst (v := 0) hx hb d_L_back_14 (by decide) ?_
    exact W.iret (v := 0) hx hb hr (fun t ht hW => ⟨⟨_, (((S.2.1 ^^^ (td_on (S.2.2.2.2.1 (S.2.2.2.1 - 1)) ||| S.2.2.2.2.2 (S.2.2.2.1 - 1))), (S.1 ||| S.2.2.2.2.2 (S.2.2.2.1 - 1)), 1 - S.2.2.1, S.2.2.2.1 - 1, S.2.2.2.2.1, S.2.2.2.2.2), pn, vp_updL fo 0 (r.toInt64)), rfl, ⟨rfl, Or.inl ⟨rfl, hq.1, rfl, (show vp_updL fo 0 (r.toInt64) 0 = _ by rw [pk_uLs, hq.2])⟩⟩, by rw [ht]; exact hP, va_K.moved hW.alike hK, hD⟩, hS.F ht⟩) hS.2.2 d_L_back_15
set_option maxHeartbeats 4000000 in
set_option maxRecDepth 100000 in
theorem m_L_finish (l : Launch) (hfl : l.stackTraces = false) (D : va_G) (sz b0 : Nat) (hb0 : b0 ≤ sz) (o a1 a2 a3 w : Nat) (cI cJ cK : ClassId) (S : tdS) (pn : Nat → Int32) (fo : Nat → Int64) (hk : S.2.2.2.1 ≤ 64) (hba : ∀ q, va_A [(o, .inr (0, [.long (S.1), .long (S.2.1), .int (S.2.2.1), .int (nI S.2.2.2.1), .ref a1, .ref a2, .ref a3])), (a1, .inl (cI, 64, .inl S.2.2.2.2.1)), (a2, .inl (cJ, 64, .inr (.inl S.2.2.2.2.2))), (a3, .inl (cI, 14, .inl pn)), (w, .inl (cK, 1, .inr (.inl fo)))] sz q → b0 ≤ q) : Met l y_L_finish (k_L_finish :: tw) ({ frames := 34, cells := 2, slots := 12, locals := 1064 }) (va_Pc [.ref o, .ref w] (fun U => U.heap.size = sz ∧ va_P D tdC [(o, .inr (0, [.long (S.1), .long (S.2.1), .int (S.2.2.1), .int (nI S.2.2.2.1), .ref a1, .ref a2, .ref a3])), (a1, .inl (cI, 64, .inl S.2.2.2.2.1)), (a2, .inl (cJ, 64, .inr (.inl S.2.2.2.2.2))), (a3, .inl (cI, 14, .inl pn)), (w, .inl (cK, 1, .inr (.inl fo)))] U.heap ∧ va_K D tdC [(cI, .int), (cJ, .long), (cK, .long)] U ∧ va_D (fun _ => True) [(o, .inr (0, [.long (S.1), .long (S.2.1), .int (S.2.2.1), .int (nI S.2.2.2.1), .ref a1, .ref a2, .ref a3])), (a1, .inl (cI, 64, .inl S.2.2.2.2.1)), (a2, .inl (cJ, 64, .inr (.inl S.2.2.2.2.2))), (a3, .inl (cI, 14, .inl pn)), (w, .inl (cK, 1, .inr (.inl fo)))] ∧ td_X b0 U ∧ va_Nc td_ise td_iae U)) (va_Qi (fun (r : Int32) (u : tdS × (Nat → Int32) × (Nat → Int64)) => (r = 0 ∧ (td_few S.1 S.2.1 ∧ S.2.2.2.1 + (td_plan 14 S.1 S.2.1).length ≤ 64) ∧ u.1 = (td_mks (td_plan 14 S.1 S.2.1) S) ∧ u.2.2 0 = (nI (td_plan 14 S.1 S.2.1).length).toInt64) ∨ (r = 1 ∧ ¬ (td_few S.1 S.2.1 ∧ S.2.2.2.1 + (td_plan 14 S.1 S.2.1).length ≤ 64) ∧ u.1 = S)) (fun (u : tdS × (Nat → Int32) × (Nat → Int64)) t => va_P D tdC [(o, .inr (0, [.long (u.1.1), .long (u.1.2.1), .int (u.1.2.2.1), .int (nI u.1.2.2.2.1), .ref a1, .ref a2, .ref a3])), (a1, .inl (cI, 64, .inl u.1.2.2.2.2.1)), (a2, .inl (cJ, 64, .inr (.inl u.1.2.2.2.2.2))), (a3, .inl (cI, 14, .inl u.2.1)), (w, .inl (cK, 1, .inr (.inl u.2.2)))] t.heap ∧ va_K D tdC [(cI, .int), (cJ, .long), (cK, .long)] t ∧ va_D (va_A [(o, .inr (0, [.long (S.1), .long (S.2.1), .int (S.2.2.1), .int (nI S.2.2.2.1), .ref a1, .ref a2, .ref a3])), (a1, .inl (cI, 64, .inl S.2.2.2.2.1)), (a2, .inl (cJ, 64, .inr (.inl S.2.2.2.2.2))), (a3, .inl (cI, 14, .inl pn)), (w, .inl (cK, 1, .inr (.inl fo)))] sz) [(o, .inr (0, [.long (u.1.1), .long (u.1.2.1), .int (u.1.2.2.1), .int (nI u.1.2.2.2.1), .ref a1, .ref a2, .ref a3])), (a1, .inl (cI, 64, .inl u.1.2.2.2.2.1)), (a2, .inl (cJ, 64, .inr (.inl u.1.2.2.2.2.2))), (a3, .inl (cI, 14, .inl u.2.1)), (w, .inl (cK, 1, .inr (.inl u.2.2)))]) (va_A [(o, .inr (0, [.long (S.1), .long (S.2.1), .int (S.2.2.1), .int (nI S.2.2.2.1), .ref a1, .ref a2, .ref a3])), (a1, .inl (cI, 64, .inl S.2.2.2.2.1)), (a2, .inl (cJ, 64, .inr (.inl S.2.2.2.2.2))), (a3, .inl (cI, 14, .inl pn)), (w, .inl (cK, 1, .inr (.inl fo)))] sz)) 2 12 (va_A [(o, .inr (0, [.long (S.1), .long (S.2.1), .int (S.2.2.1), .int (nI S.2.2.2.1), .ref a1, .ref a2, .ref a3])), (a1, .inl (cI, 64, .inl S.2.2.2.2.1)), (a2, .inl (cJ, 64, .inr (.inl S.2.2.2.2.2))), (a3, .inl (cI, 14, .inl pn)), (w, .inl (cK, 1, .inr (.inl fo)))] sz) := by
  refine td_ofWH (cc := c_L_finish) (maxL := 3) (ret := (some .int)) (by decide) rfl ?_
  intro p e s m args below meth c s₁ B hml htab hv
  obtain ⟨rfl, hsz, hP, hK, hD0, hX, hNc⟩ := hv
  have hx := B.exec
  have hb := B.bytes
  have hr := B.returns
  have hts : ∀ w ∈ tw, w.before _ s = true := fun w h => atoms_spec (ws := k_L_finish :: tw) B.pre w (List.mem_cons_of_mem _ h)
  have hown : s.vm.findClass RL = some m.cls := findClass_of_methodNamed B.named
  have hlocks := B.notSynchronized
  subst hsz
  have hD := hD0.self (sz := s.heap.size)
  generalize hAe : va_A [(o, .inr (0, [.long (S.1), .long (S.2.1), .int (S.2.2.1), .int (nI S.2.2.2.1), .ref a1, .ref a2, .ref a3])), (a1, .inl (cI, 64, .inl S.2.2.2.2.1)), (a2, .inl (cJ, 64, .inr (.inl S.2.2.2.2.2))), (a3, .inl (cI, 14, .inl pn)), (w, .inl (cK, 1, .inr (.inl fo)))] s.heap.size = A at hD ⊢
  have hA : ∀ q : Nat, s.heap.size ≤ q → A q := fun q h => by rw [← hAe]; exact Or.inr h
  have hS : va_S A s.heap s.heap [] := va_S.rf
  have hP : va_P D tdC [(o, .inr (0, [.long (S.1), .long (S.2.1), .int (S.2.2.1), .int (nI S.2.2.2.1), .ref a1, .ref a2, .ref a3])), (a1, .inl (cI, 64, .inl S.2.2.2.2.1)), (a2, .inl (cJ, 64, .inr (.inl S.2.2.2.2.2))), (a3, .inl (cI, 14, .inl pn)), (w, .inl (cK, 1, .inr (.inl fo)))] s.heap := hP
  have hl := lv_entry ([.ref o, .ref w]) (n := 3) (Nat.le_of_ble_eq_true rfl)
  rw [lg_entry_eq]
  generalize (lg_sl ([.ref o, .ref w]) ++ List.replicate (3 - (lg_sl ([.ref o, .ref w])).length) Slot.unset).toArray = ls at hl ⊢
  have hl : lv_has ls 3 [(0, .ref o), (1, .ref w)] := hl
  rw [hAe] at hba
  refine lv_aload_n hx hb d_L_finish_0 rfl (lv_at hl 1 rfl) ?_
  refine lv_iconst (v := 0) hx hb d_L_finish_1 (by decide) ?_
  refine lv_aload_n hx hb d_L_finish_2 rfl (lv_at hl 0 rfl) ?_
  have hPc := hP.sub (ws' := [(o, .inr (0, [.long (S.1), .long (S.2.1), .int (S.2.2.1), .int (nI S.2.2.2.1), .ref a1, .ref a2, .ref a3])), (a1, .inl (cI, 64, .inl S.2.2.2.2.1)), (a2, .inl (cJ, 64, .inr (.inl S.2.2.2.2.2))), (a3, .inl (cI, 14, .inl pn))]) [0, 1, 2, 3] rfl
  have hDc := hD.sub (ws' := [(o, .inr (0, [.long (S.1), .long (S.2.1), .int (S.2.2.1), .int (nI S.2.2.2.1), .ref a1, .ref a2, .ref a3])), (a1, .inl (cI, 64, .inl S.2.2.2.2.1)), (a2, .inl (cJ, 64, .inr (.inl S.2.2.2.2.2))), (a3, .inl (cI, 14, .inl pn))]) [0, 1, 2, 3] (by decide) rfl
  have hKc := hK.sub (tys' := [(cI, .int), (cJ, .long)]) [0, 1] rfl
  have hFc := va_free (wc := [(o, .inr (0, [.long (S.1), .long (S.2.1), .int (S.2.2.1), .int (nI S.2.2.2.1), .ref a1, .ref a2, .ref a3])), (a1, .inl (cI, 64, .inl S.2.2.2.2.1)), (a2, .inl (cJ, 64, .inr (.inl S.2.2.2.2.2))), (a3, .inl (cI, 14, .inl pn))]) hD hS hA [0, 1, 2, 3] rfl
  refine vx_calli (vx_runV (b := o) (C := RX0) (As := []) (rest := [.int 0, .ref w]) ⟨hx, hb, hml, hown, hts⟩ (m_X0_finish l hfl D _ b0 (Nat.le_trans hb0 hS.1) o a1 a2 a3 cI cJ S pn (fun q h => hba q (hFc q h)) hk) (cwV 0 hts (tw_V ml_L_43 im_X0_finish se_X0_finish in_X0 kw_X0_finish) rfl rfl rfl (by decide +kernel) ⟨Nat.le_of_ble_eq_true rfl, Nat.le_of_ble_eq_true rfl⟩) ⟨fun a U g mk q => ⟨q.1, q.2.1, q.2.2.1, va_K.moved (u := U) (U := U.calling g mk a) (Vm.Alike.refl U.vm) q.2.2.2.1, q.2.2.2.2.1, td_X.blind q.2.2.2.2.2⟩, va_recv (q0 := 0) (ci := 0) hK hP rfl rfl, fun U hU hW => ⟨rfl, by rw [hU], by rw [hU]; exact hPc, va_K.moved hW.alike hKc, hDc.weaken (fun _ _ _ _ => trivial), td_X.at hX hW hU (fun q h1 h2 => hS.2.1 q h1 (fun z => Nat.not_le.mpr h2 (hba _ z)))⟩⟩ rfl rfl hl.1 rfl (lv_room (Nat.le_of_ble_eq_true rfl)) d_L_finish_3 ⟨Nat.le_of_ble_eq_true rfl, Nat.le_of_ble_eq_true rfl⟩) hS (fun q _ h => hFc q h) hFc (fun q _ h => hFc q h) (fun E ce q9 u0 t0 H1 locs ht hal hpx hB hz1 hk1 hS hce hcv hcl => ?_) (fun r u0 t0 H1 locs ht hal hq hB hz1 hk1 hS => ?_)
  · obtain ⟨⟨eE, hneg⟩, hB⟩ := hB
    subst eE
    obtain ⟨hP1, hK1, hD1⟩ := hB
    rw [ht] at hP1
    obtain ⟨hP, hD⟩ := va_join (wr := [(w, .inl (cK, 1, .inr (.inl fo)))]) (w1 := [(o, .inr (0, [.long (S.1), .long (S.2.1), .int (S.2.2.1), .int (nI S.2.2.2.1), .ref a1, .ref a2, .ref a3])), (a1, .inl (cI, 64, .inl S.2.2.2.2.1)), (a2, .inl (cJ, 64, .inr (.inl S.2.2.2.2.2))), (a3, .inl (cI, 14, .inl u0))]) hP hD [0, 1, 2, 3] [4] rfl rfl (by decide) (by decide) hk1 hFc hP1 hD1
    have hP := hP.sub (ws' := [(o, .inr (0, [.long (S.1), .long (S.2.1), .int (S.2.2.1), .int (nI S.2.2.2.1), .ref a1, .ref a2, .ref a3])), (a1, .inl (cI, 64, .inl S.2.2.2.2.1)), (a2, .inl (cJ, 64, .inr (.inl S.2.2.2.2.2))), (a3, .inl (cI, 14, .inl u0)), (w, .inl (cK, 1, .inr (.inl fo)))]) [1, 2, 3, 4, 0] rfl
    have hD := hD.sub (ws' := [(o, .inr (0, [.long (S.1), .long (S.2.1), .int (S.2.2.1), .int (nI S.2.2.2.1), .ref a1, .ref a2, .ref a3])), (a1, .inl (cI, 64, .inl S.2.2.2.2.1)), (a2, .inl (cJ, 64, .inr (.inl S.2.2.2.2.2))), (a3, .inl (cI, 14, .inl u0)), (w, .inl (cK, 1, .inr (.inl fo)))]) [1, 2, 3, 4, 0] (by decide) rfl
    refine vx_catch (own := RL) (name := td_ise) hown [] ⟨0, 8, 11, 26⟩ [] (by rw [htab]; rfl) (fun z hz => absurd hz List.not_mem_nil) (by decide) (by decide) (hts _ cl_L_26) (va_Nw.use rfl hX.2.2.2.1) hce hcv hcl ?_
    refine lv_astore_n hx hb d_L_finish_11 rfl hl (by decide) rfl (fun ls hl => ?_)
    have hl : lv_has ls 3 [(2, .ref q9), (0, .ref o), (1, .ref w)] := hl
    refine lv_iconst (v := 1) hx hb d_L_finish_12 (by decide) ?_
    exact W.iret (v := 1) hx hb hr (fun t ht hW => ⟨⟨_, (S, u0, fo), rfl, Or.inr ⟨rfl, hneg, rfl⟩, by rw [ht]; exact hP, va_K.moved hW.alike hK, hD⟩, hS.F ht⟩) hS.2.2 d_L_finish_13
  · obtain ⟨hP1, hK1, hD1⟩ := hB
    rw [ht] at hP1
    obtain ⟨hP, hD⟩ := va_join (wr := [(w, .inl (cK, 1, .inr (.inl fo)))]) (w1 := [(o, .inr (0, [.long ((td_mks (td_plan 14 S.1 S.2.1) S).1), .long ((td_mks (td_plan 14 S.1 S.2.1) S).2.1), .int ((td_mks (td_plan 14 S.1 S.2.1) S).2.2.1), .int (nI (td_mks (td_plan 14 S.1 S.2.1) S).2.2.2.1), .ref a1, .ref a2, .ref a3])), (a1, .inl (cI, 64, .inl ((td_mks (td_plan 14 S.1 S.2.1) S).2.2.2.2.1))), (a2, .inl (cJ, 64, .inr (.inl ((td_mks (td_plan 14 S.1 S.2.1) S).2.2.2.2.2)))), (a3, .inl (cI, 14, .inl u0))]) hP hD [0, 1, 2, 3] [4] rfl rfl (by decide) (by decide) hk1 hFc hP1 hD1
    clear hPc hDc hKc hFc hP1 hK1 hD1 hk1 hz1
    have hP := hP.sub (ws' := [(o, .inr (0, [.long ((td_mks (td_plan 14 S.1 S.2.1) S).1), .long ((td_mks (td_plan 14 S.1 S.2.1) S).2.1), .int ((td_mks (td_plan 14 S.1 S.2.1) S).2.2.1), .int (nI (td_mks (td_plan 14 S.1 S.2.1) S).2.2.2.1), .ref a1, .ref a2, .ref a3])), (a1, .inl (cI, 64, .inl ((td_mks (td_plan 14 S.1 S.2.1) S).2.2.2.2.1))), (a2, .inl (cJ, 64, .inr (.inl ((td_mks (td_plan 14 S.1 S.2.1) S).2.2.2.2.2)))), (a3, .inl (cI, 14, .inl u0)), (w, .inl (cK, 1, .inr (.inl fo)))]) [1, 2, 3, 4, 0] rfl
    have hD := hD.sub (ws' := [(o, .inr (0, [.long ((td_mks (td_plan 14 S.1 S.2.1) S).1), .long ((td_mks (td_plan 14 S.1 S.2.1) S).2.1), .int ((td_mks (td_plan 14 S.1 S.2.1) S).2.2.1), .int (nI (td_mks (td_plan 14 S.1 S.2.1) S).2.2.2.1), .ref a1, .ref a2, .ref a3])), (a1, .inl (cI, 64, .inl ((td_mks (td_plan 14 S.1 S.2.1) S).2.2.2.2.1))), (a2, .inl (cJ, 64, .inr (.inl ((td_mks (td_plan 14 S.1 S.2.1) S).2.2.2.2.2)))), (a3, .inl (cI, 14, .inl u0)), (w, .inl (cK, 1, .inr (.inl fo)))]) [1, 2, 3, 4, 0] (by decide) rfl
    clear ht hal
    generalize H1 = H at hP hS ⊢
    refine lv_i2l (v := (r.toInt64)) hx hb d_L_finish_6 rfl ?_
    refine va_last hx hb hK hP hD hS 4 2 rfl rfl (vp_in_nI (n := 0) (by decide) (by decide)) d_L_finish_7 (fun H locs hP hD hS => ?_)
    have hu : vp_updL fo (0 : Int32).toNatClampNeg (r.toInt64) = (vp_updL fo 0 (r.toInt64)) := rfl
    have hP : va_P D tdC [(o, .inr (0, [.long ((td_mks (td_plan 14 S.1 S.2.1) S).1), .long ((td_mks (td_plan 14 S.1 S.2.1) S).2.1), .int ((td_mks (td_plan 14 S.1 S.2.1) S).2.2.1), .int (nI (td_mks (td_plan 14 S.1 S.2.1) S).2.2.2.1), .ref a1, .ref a2, .ref a3])), (a1, .inl (cI, 64, .inl ((td_mks (td_plan 14 S.1 S.2.1) S).2.2.2.2.1))), (a2, .inl (cJ, 64, .inr (.inl ((td_mks (td_plan 14 S.1 S.2.1) S).2.2.2.2.2)))), (a3, .inl (cI, 14, .inl u0)), (w, .inl (cK, 1, .inr (.inl (vp_updL fo (0 : Int32).toNatClampNeg (r.toInt64)))))] H := hP
    have hD : va_D A [(o, .inr (0, [.long ((td_mks (td_plan 14 S.1 S.2.1) S).1), .long ((td_mks (td_plan 14 S.1 S.2.1) S).2.1), .int ((td_mks (td_plan 14 S.1 S.2.1) S).2.2.1), .int (nI (td_mks (td_plan 14 S.1 S.2.1) S).2.2.2.1), .ref a1, .ref a2, .ref a3])), (a1, .inl (cI, 64, .inl ((td_mks (td_plan 14 S.1 S.2.1) S).2.2.2.2.1))), (a2, .inl (cJ, 64, .inr (.inl ((td_mks (td_plan 14 S.1 S.2.1) S).2.2.2.2.2)))), (a3, .inl (cI, 14, .inl u0)), (w, .inl (cK, 1, .inr (.inl (vp_updL fo (0 : Int32).toNatClampNeg (r.toInt64)))))] := hD
    rw [hu] at hP hD
    clear hu
    have hP : va_P D tdC [(o, .inr (0, [.long ((td_mks (td_plan 14 S.1 S.2.1) S).1), .long ((td_mks (td_plan 14 S.1 S.2.1) S).2.1), .int ((td_mks (td_plan 14 S.1 S.2.1) S).2.2.1), .int (nI (td_mks (td_plan 14 S.1 S.2.1) S).2.2.2.1), .ref a1, .ref a2, .ref a3])), (a1, .inl (cI, 64, .inl ((td_mks (td_plan 14 S.1 S.2.1) S).2.2.2.2.1))), (a2, .inl (cJ, 64, .inr (.inl ((td_mks (td_plan 14 S.1 S.2.1) S).2.2.2.2.2)))), (a3, .inl (cI, 14, .inl u0)), (w, .inl (cK, 1, .inr (.inl (vp_updL fo 0 (r.toInt64)))))] H := hP
    have hD : va_D A [(o, .inr (0, [.long ((td_mks (td_plan 14 S.1 S.2.1) S).1), .long ((td_mks (td_plan 14 S.1 S.2.1) S).2.1), .int ((td_mks (td_plan 14 S.1 S.2.1) S).2.2.1), .int (nI (td_mks (td_plan 14 S.1 S.2.1) S).2.2.2.1), .ref a1, .ref a2, .ref a3])), (a1, .inl (cI, 64, .inl ((td_mks (td_plan 14 S.1 S.2.1) S).2.2.2.2.1))), (a2, .inl (cJ, 64, .inr (.inl ((td_mks (td_plan 14 S.1 S.2.1) S).2.2.2.2.2)))), (a3, .inl (cI, 14, .inl u0)), (w, .inl (cK, 1, .inr (.inl (vp_updL fo 0 (r.toInt64)))))] := hD
    refine lv_goto (tgt := 14) hx hb d_L_finish_8 (by decide) ?_
    refine lv_iconst (v := 0) hx hb d_L_finish_14 (by decide) ?_
    exact W.iret (v := 0) hx hb hr (fun t ht hW => ⟨⟨_, ((td_mks (td_plan 14 S.1 S.2.1) S), u0, vp_updL fo 0 (r.toInt64)), rfl, Or.inl ⟨rfl, ⟨hq.1, hq.2.1⟩, rfl, (show vp_updL fo 0 (r.toInt64) 0 = _ by rw [pk_uLs, hq.2.2])⟩, by rw [ht]; exact hP, va_K.moved hW.alike hK, hD⟩, hS.F ht⟩) hS.2.2 d_L_finish_15
