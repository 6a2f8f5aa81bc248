/-! outcome and best of the reference; its constructor -/
def td_em (ce : Nat → Int32) : Int32 := 64 - nI (td_dc (td_lv ce 0) 0) - nI (td_dc (td_lv ce 0) 1)
def td_be (ce : Nat → Int32) : Int32 := if 7 < td_em ce then 1 else 0
/-- a search from here ends, leaves level 0, finds vv and chooses bb -/
def td_sok (ce mv sp at_ pa wo tr : Nat → Int32) (vv bb : Int32) : Prop := ∃ (n : Nat) (F : tdQ), td_srun (td_sn (td_lv ce 0) sp) (td_n0 (td_lv ce 0)) n (td_S0 ce mv at_ pa wo tr sp) = some F ∧ (∀ i, i < 64 → F.2.1 i = ce i) ∧ F.2.2.1 0 = mv 0 ∧ F.2.2.2.2.2.1 0 = vv ∧ F.2.2.2.2.2.2.2 = bb
set_option maxHeartbeats 4000000 in
set_option maxRecDepth 100000 in
theorem m_X1_outcome (l : Launch) (D : va_G) (sz : Nat) (o : Nat) (q : Nat → Nat) (th md ch sc : Int32) (cI cZ : ClassId) (ce mv sp at_ pa wo tr : Nat → Int32) (vv bb : Int32) (hF : td_be ce = 0 → td_sok ce mv sp at_ pa wo tr vv bb) : Met l y_X1_outcome (k_X1_outcome :: tw) ({ frames := 6, cells := 0, slots := 0, locals := 147 }) (va_Pc [.ref o] (fun U => U.heap.size = sz ∧ va_P D tdC [(o, .inr (1, [.int th, .ref (q 1), .ref (q 2), .ref (q 3), .ref (q 4), .int md, .ref (q 6), .ref (q 7), .ref (q 8), .ref (q 9), .int ch, .ref (q 11), .int sc, .ref (q 13)])), ((q 1), .inl (cI, 1216, .inl ce)), ((q 2), .inl (cI, 19, .inl mv)), ((q 11), .inl (cI, 64, .inl sp)), ((q 6), .inl (cI, 19, .inl at_)), ((q 7), .inl (cZ, 19, .inl pa)), ((q 8), .inl (cI, 19, .inl wo)), ((q 9), .inl (cI, 19, .inl tr))] U.heap ∧ va_K D tdC [(cI, .int), (cZ, .boolean)] U ∧ va_D (fun _ => True) [(o, .inr (1, [.int th, .ref (q 1), .ref (q 2), .ref (q 3), .ref (q 4), .int md, .ref (q 6), .ref (q 7), .ref (q 8), .ref (q 9), .int ch, .ref (q 11), .int sc, .ref (q 13)])), ((q 1), .inl (cI, 1216, .inl ce)), ((q 2), .inl (cI, 19, .inl mv)), ((q 11), .inl (cI, 64, .inl sp)), ((q 6), .inl (cI, 19, .inl at_)), ((q 7), .inl (cZ, 19, .inl pa)), ((q 8), .inl (cI, 19, .inl wo)), ((q 9), .inl (cI, 19, .inl tr))])) (va_Qi (fun (r : Int32) (u : tdU) => td_same u ce mv ∧ ((td_be ce) = 0 → r = vv)) (fun (u : tdU) t => va_P D tdC [(o, .inr (1, [.int (td_be ce), .ref (q 1), .ref (q 2), .ref (q 3), .ref (q 4), .int md, .ref (q 6), .ref (q 7), .ref (q 8), .ref (q 9), .int (u.1.2.2.2.2.2.2.2), .ref (q 11), .int (u.2.2), .ref (q 13)])), ((q 1), .inl (cI, 1216, .inl u.1.2.1)), ((q 2), .inl (cI, 19, .inl u.1.2.2.1)), ((q 11), .inl (cI, 64, .inl u.2.1)), ((q 6), .inl (cI, 19, .inl u.1.2.2.2.1)), ((q 7), .inl (cZ, 19, .inl u.1.2.2.2.2.1)), ((q 8), .inl (cI, 19, .inl u.1.2.2.2.2.2.1)), ((q 9), .inl (cI, 19, .inl u.1.2.2.2.2.2.2.1))] t.heap ∧ va_K D tdC [(cI, .int), (cZ, .boolean)] t ∧ va_D (va_A [(o, .inr (1, [.int th, .ref (q 1), .ref (q 2), .ref (q 3), .ref (q 4), .int md, .ref (q 6), .ref (q 7), .ref (q 8), .ref (q 9), .int ch, .ref (q 11), .int sc, .ref (q 13)])), ((q 1), .inl (cI, 1216, .inl ce)), ((q 2), .inl (cI, 19, .inl mv)), ((q 11), .inl (cI, 64, .inl sp)), ((q 6), .inl (cI, 19, .inl at_)), ((q 7), .inl (cZ, 19, .inl pa)), ((q 8), .inl (cI, 19, .inl wo)), ((q 9), .inl (cI, 19, .inl tr))] sz) [(o, .inr (1, [.int (td_be ce), .ref (q 1), .ref (q 2), .ref (q 3), .ref (q 4), .int md, .ref (q 6), .ref (q 7), .ref (q 8), .ref (q 9), .int (u.1.2.2.2.2.2.2.2), .ref (q 11), .int (u.2.2), .ref (q 13)])), ((q 1), .inl (cI, 1216, .inl u.1.2.1)), ((q 2), .inl (cI, 19, .inl u.1.2.2.1)), ((q 11), .inl (cI, 64, .inl u.2.1)), ((q 6), .inl (cI, 19, .inl u.1.2.2.2.1)), ((q 7), .inl (cZ, 19, .inl u.1.2.2.2.2.1)), ((q 8), .inl (cI, 19, .inl u.1.2.2.2.2.2.1)), ((q 9), .inl (cI, 19, .inl u.1.2.2.2.2.2.2.1))]) (va_A [(o, .inr (1, [.int th, .ref (q 1), .ref (q 2), .ref (q 3), .ref (q 4), .int md, .ref (q 6), .ref (q 7), .ref (q 8), .ref (q 9), .int ch, .ref (q 11), .int sc, .ref (q 13)])), ((q 1), .inl (cI, 1216, .inl ce)), ((q 2), .inl (cI, 19, .inl mv)), ((q 11), .inl (cI, 64, .inl sp)), ((q 6), .inl (cI, 19, .inl at_)), ((q 7), .inl (cZ, 19, .inl pa)), ((q 8), .inl (cI, 19, .inl wo)), ((q 9), .inl (cI, 19, .inl tr))] sz)) 0 0 (va_A [(o, .inr (1, [.int th, .ref (q 1), .ref (q 2), .ref (q 3), .ref (q 4), .int md, .ref (q 6), .ref (q 7), .ref (q 8), .ref (q 9), .int ch, .ref (q 11), .int sc, .ref (q 13)])), ((q 1), .inl (cI, 1216, .inl ce)), ((q 2), .inl (cI, 19, .inl mv)), ((q 11), .inl (cI, 64, .inl sp)), ((q 6), .inl (cI, 19, .inl at_)), ((q 7), .inl (cZ, 19, .inl pa)), ((q 8), .inl (cI, 19, .inl wo)), ((q 9), .inl (cI, 19, .inl tr))] sz) := by
  refine Met.ofW (cc := c_X1_outcome) (maxL := 1) (ret := (some .int)) (by decide) rfl ?_
  intro p e s m args below meth c s₁ B hml hv
  obtain ⟨rfl, hsz, hP, hK, hD0⟩ := hv
  have hx := B.exec
  have hb := B.bytes
  have hr := B.returns
  have hts : ∀ w ∈ tw, w.before _ s = true := fun w h => atoms_spec (ws := k_X1_outcome :: tw) B.pre w (List.mem_cons_of_mem _ h)
  have hown : s.vm.findClass RX1 = some m.cls := findClass_of_methodNamed B.named
  have hlocks := B.notSynchronized
  subst hsz
  have hD := hD0.self (sz := s.heap.size)
  generalize hAe : va_A [(o, .inr (1, [.int th, .ref (q 1), .ref (q 2), .ref (q 3), .ref (q 4), .int md, .ref (q 6), .ref (q 7), .ref (q 8), .ref (q 9), .int ch, .ref (q 11), .int sc, .ref (q 13)])), ((q 1), .inl (cI, 1216, .inl ce)), ((q 2), .inl (cI, 19, .inl mv)), ((q 11), .inl (cI, 64, .inl sp)), ((q 6), .inl (cI, 19, .inl at_)), ((q 7), .inl (cZ, 19, .inl pa)), ((q 8), .inl (cI, 19, .inl wo)), ((q 9), .inl (cI, 19, .inl tr))] s.heap.size = A at hD ⊢
  have hA : ∀ q : Nat, s.heap.size ≤ q → A q := fun q h => by rw [← hAe]; exact Or.inr h
  have hS : va_S A s.heap s.heap [] := va_S.rf
  have hP : va_P D tdC [(o, .inr (1, [.int th, .ref (q 1), .ref (q 2), .ref (q 3), .ref (q 4), .int md, .ref (q 6), .ref (q 7), .ref (q 8), .ref (q 9), .int ch, .ref (q 11), .int sc, .ref (q 13)])), ((q 1), .inl (cI, 1216, .inl ce)), ((q 2), .inl (cI, 19, .inl mv)), ((q 11), .inl (cI, 64, .inl sp)), ((q 6), .inl (cI, 19, .inl at_)), ((q 7), .inl (cZ, 19, .inl pa)), ((q 8), .inl (cI, 19, .inl wo)), ((q 9), .inl (cI, 19, .inl tr))] s.heap := hP
  have hl := lv_entry ([.ref o]) (n := 1) (Nat.le_of_ble_eq_true rfl)
  rw [lg_entry_eq]
  generalize (lg_sl ([.ref o]) ++ List.replicate (1 - (lg_sl ([.ref o])).length) Slot.unset).toArray = ls at hl ⊢
  have hl : lv_has ls 1 [(0, .ref o)] := hl
  refine lv_aload_n hx hb d_X1_outcome_0 rfl (lv_at hl 0 rfl) ?_
  refine lv_aload_n hx hb d_X1_outcome_1 rfl (lv_at hl 0 rfl) ?_
  have hP2 := hP.sub (ws' := [(o, .inr (1, [.int th, .ref (q 1), .ref (q 2), .ref (q 3), .ref (q 4), .int md, .ref (q 6), .ref (q 7), .ref (q 8), .ref (q 9), .int ch, .ref (q 11), .int sc, .ref (q 13)])), ((q 1), .inl (cI, 1216, .inl ce))]) [0, 1] rfl
  have hK2 := hK.sub (tys' := [(cI, .int)]) [0] rfl
  refine vp_callSi (W.runV (b := o) (C := RX1) (As := []) (rest := [.ref o]) ⟨hx, hb, hml, hown, hts⟩ (m_X1_empties l D o (q 1) cI [.int th, .ref (q 1), .ref (q 2), .ref (q 3), .ref (q 4), .int md, .ref (q 6), .ref (q 7), .ref (q 8), .ref (q 9), .int ch, .ref (q 11), .int sc, .ref (q 13)] rfl ce) (cwV 0 hts (tw_V ml_X1_123 im_X1_empties se_X1_empties in_X1 kw_X1_empties) rfl rfl rfl (by decide +kernel) ⟨Nat.le_of_ble_eq_true rfl, Nat.le_of_ble_eq_true rfl⟩) ⟨fun a U g mk q => ⟨q.1, q.2.1, va_K.moved (u := U) (U := U.calling g mk a) (Vm.Alike.refl U.vm) q.2.2⟩, va_recv (q0 := 0) (ci := 1) hK hP rfl rfl, fun U hU hW => ⟨rfl, by rw [hU]; exact hP2, va_K.moved hW.alike hK2⟩⟩ rfl rfl hl.1 rfl (lv_room (Nat.le_of_ble_eq_true rfl)) d_X1_outcome_2 ⟨Nat.zero_le _, Nat.zero_le _⟩) (fun r h9 => ?_)
  subst h9
  clear hP2
  refine td_joini 15 ls [.ref o] (fun x => x = td_be ce) (fun x ex => ?_) (fun J => ?_)
  · subst ex
    refine va_put (D := D) (ci := 1) (v := .int (td_be ce)) (ty := .int) (C := RX1) (T := TX1) (N := 14) hx hb hts usX1 tyX1 tyX1_ok nmX1 hown hK hP hD hS 0 rfl rfl 0 (by decide) (hts _ fl_X1_45) (fun _ h9 => h9) rfl (by decide +kernel) rfl rfl (Nat.le_of_ble_eq_true rfl) d_X1_outcome_15 (fun H locs hP hD hS => ?_)
    have hP : va_P D tdC [(o, .inr (1, [.int (td_be ce), .ref (q 1), .ref (q 2), .ref (q 3), .ref (q 4), .int md, .ref (q 6), .ref (q 7), .ref (q 8), .ref (q 9), .int ch, .ref (q 11), .int sc, .ref (q 13)])), ((q 1), .inl (cI, 1216, .inl ce)), ((q 2), .inl (cI, 19, .inl mv)), ((q 11), .inl (cI, 64, .inl sp)), ((q 6), .inl (cI, 19, .inl at_)), ((q 7), .inl (cZ, 19, .inl pa)), ((q 8), .inl (cI, 19, .inl wo)), ((q 9), .inl (cI, 19, .inl tr))] H := hP
    have hD : va_D A [(o, .inr (1, [.int (td_be ce), .ref (q 1), .ref (q 2), .ref (q 3), .ref (q 4), .int md, .ref (q 6), .ref (q 7), .ref (q 8), .ref (q 9), .int ch, .ref (q 11), .int sc, .ref (q 13)])), ((q 1), .inl (cI, 1216, .inl ce)), ((q 2), .inl (cI, 19, .inl mv)), ((q 11), .inl (cI, 64, .inl sp)), ((q 6), .inl (cI, 19, .inl at_)), ((q 7), .inl (cZ, 19, .inl pa)), ((q 8), .inl (cI, 19, .inl wo)), ((q 9), .inl (cI, 19, .inl tr))] := hD
    refine lv_aload_n hx hb d_X1_outcome_18 rfl (lv_at hl 0 rfl) ?_
    refine va_get (D := D) (ci := 1) (v := .int (td_be ce)) (C := RX1) (T := TX1) (N := 14) hx hb hts usX1 hown hK hP 0 rfl rfl 0 (by decide) (hts _ fl_X1_45) (fun _ h9 => h9) rfl d_X1_outcome_19 ?_
    refine lv_if_le (tgt := 29) hx hb d_X1_outcome_22 (by decide) (fun h0 => ?_) (fun h0 => ?_)
    · have hbe : td_be ce = 0 := by
        by_cases hc : 7 < td_em ce
        · unfold td_be at h0; rw [if_pos hc] at h0; exact absurd h0 (by decide)
        · unfold td_be; rw [if_neg hc]
      obtain ⟨n, F, hrun, hs1, hs2, hs3, hs4⟩ := hF hbe
      refine lv_aload_n hx hb d_X1_outcome_29 rfl (lv_at hl 0 rfl) ?_
      have hPc := hP.sub (ws' := [(o, .inr (1, [.int (td_be ce), .ref (q 1), .ref (q 2), .ref (q 3), .ref (q 4), .int md, .ref (q 6), .ref (q 7), .ref (q 8), .ref (q 9), .int ch, .ref (q 11), .int sc, .ref (q 13)])), ((q 1), .inl (cI, 1216, .inl ce)), ((q 2), .inl (cI, 19, .inl mv)), ((q 11), .inl (cI, 64, .inl sp)), ((q 6), .inl (cI, 19, .inl at_)), ((q 7), .inl (cZ, 19, .inl pa)), ((q 8), .inl (cI, 19, .inl wo)), ((q 9), .inl (cI, 19, .inl tr))]) [0, 1, 2, 3, 4, 5, 6, 7] rfl
      have hDc := hD.sub (ws' := [(o, .inr (1, [.int (td_be ce), .ref (q 1), .ref (q 2), .ref (q 3), .ref (q 4), .int md, .ref (q 6), .ref (q 7), .ref (q 8), .ref (q 9), .int ch, .ref (q 11), .int sc, .ref (q 13)])), ((q 1), .inl (cI, 1216, .inl ce)), ((q 2), .inl (cI, 19, .inl mv)), ((q 11), .inl (cI, 64, .inl sp)), ((q 6), .inl (cI, 19, .inl at_)), ((q 7), .inl (cZ, 19, .inl pa)), ((q 8), .inl (cI, 19, .inl wo)), ((q 9), .inl (cI, 19, .inl tr))]) [0, 1, 2, 3, 4, 5, 6, 7] (by decide) rfl
      have hKc := hK.sub (tys' := [(cI, .int), (cZ, .boolean)]) [0, 1] rfl
      have hFc := va_free (wc := [(o, .inr (1, [.int (td_be ce), .ref (q 1), .ref (q 2), .ref (q 3), .ref (q 4), .int md, .ref (q 6), .ref (q 7), .ref (q 8), .ref (q 9), .int ch, .ref (q 11), .int sc, .ref (q 13)])), ((q 1), .inl (cI, 1216, .inl ce)), ((q 2), .inl (cI, 19, .inl mv)), ((q 11), .inl (cI, 64, .inl sp)), ((q 6), .inl (cI, 19, .inl at_)), ((q 7), .inl (cZ, 19, .inl pa)), ((q 8), .inl (cI, 19, .inl wo)), ((q 9), .inl (cI, 19, .inl tr))]) hD hS hA [0, 1, 2, 3, 4, 5, 6, 7] rfl
      refine va_calli (va_runV (b := o) (C := RX1) (As := []) (rest := []) ⟨hx, hb, hml, hown, hts⟩ (m_X1_search l D _ o q (td_be ce) md ch sc cI cZ ce mv sp at_ pa wo tr n F hrun) (cwV 0 hts (tw_V ml_X1_127 im_X1_search se_X1_search in_X1 kw_X1_search) rfl rfl rfl (by decide +kernel) ⟨Nat.le_of_ble_eq_true rfl, Nat.le_of_ble_eq_true rfl⟩) ⟨fun a U g mk q => ⟨q.1, q.2.1, q.2.2.1, va_K.moved (u := U) (U := U.calling g mk a) (Vm.Alike.refl U.vm) q.2.2.2.1, q.2.2.2.2⟩, va_recv (q0 := 0) (ci := 1) hK hP rfl rfl, fun U hU hW => ⟨rfl, by rw [hU], by rw [hU]; exact hPc, va_K.moved hW.alike hKc, hDc.weaken (fun _ _ _ _ => trivial)⟩⟩ rfl rfl hl.1 rfl (lv_room (Nat.le_of_ble_eq_true rfl)) d_X1_outcome_30 ⟨Nat.zero_le _, Nat.zero_le _⟩) hS (fun q _ h => hFc q h) hFc (fun r u0 t0 H1 locs ht hvm hr2 hB hz1 hk1 hS => ?_)
      obtain ⟨hP1, hK1, hD1⟩ := hB
      rw [ht] at hP1
      obtain ⟨hP, hD⟩ := va_join (wr := []) (w1 := [(o, .inr (1, [.int (td_be ce), .ref (q 1), .ref (q 2), .ref (q 3), .ref (q 4), .int md, .ref (q 6), .ref (q 7), .ref (q 8), .ref (q 9), .int (F.2.2.2.2.2.2.2), .ref (q 11), .int (nI (td_n0 (td_lv ce 0))), .ref (q 13)])), ((q 1), .inl (cI, 1216, .inl F.2.1)), ((q 2), .inl (cI, 19, .inl F.2.2.1)), ((q 11), .inl (cI, 64, .inl (td_spf (td_lv ce 0) sp 64))), ((q 6), .inl (cI, 19, .inl F.2.2.2.1)), ((q 7), .inl (cZ, 19, .inl F.2.2.2.2.1)), ((q 8), .inl (cI, 19, .inl F.2.2.2.2.2.1)), ((q 9), .inl (cI, 19, .inl F.2.2.2.2.2.2.1))]) hP hD [0, 1, 2, 3, 4, 5, 6, 7] [] rfl rfl (by decide) (by decide) hk1 hFc hP1 hD1
      clear hPc hDc hKc hFc hP1 hK1 hD1 hk1 hz1
      have hP := hP.sub (ws' := [(o, .inr (1, [.int (td_be ce), .ref (q 1), .ref (q 2), .ref (q 3), .ref (q 4), .int md, .ref (q 6), .ref (q 7), .ref (q 8), .ref (q 9), .int (F.2.2.2.2.2.2.2), .ref (q 11), .int (nI (td_n0 (td_lv ce 0))), .ref (q 13)])), ((q 1), .inl (cI, 1216, .inl F.2.1)), ((q 2), .inl (cI, 19, .inl F.2.2.1)), ((q 11), .inl (cI, 64, .inl (td_spf (td_lv ce 0) sp 64))), ((q 6), .inl (cI, 19, .inl F.2.2.2.1)), ((q 7), .inl (cZ, 19, .inl F.2.2.2.2.1)), ((q 8), .inl (cI, 19, .inl F.2.2.2.2.2.1)), ((q 9), .inl (cI, 19, .inl F.2.2.2.2.2.2.1))]) [0, 1, 2, 3, 4, 5, 6, 7] rfl
      have hD := hD.sub (ws' := [(o, .inr (1, [.int (td_be ce), .ref (q 1), .ref (q 2), .ref (q 3), .ref (q 4), .int md, .ref (q 6), .ref (q 7), .ref (q 8), .ref (q 9), .int (F.2.2.2.2.2.2.2), .ref (q 11), .int (nI (td_n0 (td_lv ce 0))), .ref (q 13)])), ((q 1), .inl (cI, 1216, .inl F.2.1)), ((q 2), .inl (cI, 19, .inl F.2.2.1)), ((q 11), .inl (cI, 64, .inl (td_spf (td_lv ce 0) sp 64))), ((q 6), .inl (cI, 19, .inl F.2.2.2.1)), ((q 7), .inl (cZ, 19, .inl F.2.2.2.2.1)), ((q 8), .inl (cI, 19, .inl F.2.2.2.2.2.1)), ((q 9), .inl (cI, 19, .inl F.2.2.2.2.2.2.1))]) [0, 1, 2, 3, 4, 5, 6, 7] (by decide) rfl
      clear ht hvm
      generalize H1 = H at hP hS ⊢
      exact W.iret (v := r) hx hb hr (fun t ht hW => ⟨⟨_, (F, td_spf (td_lv ce 0) sp 64, nI (td_n0 (td_lv ce 0))), rfl, ⟨⟨hs1, hs2⟩, fun _ => hr2.trans hs3⟩, by rw [ht]; exact hP, va_K.moved hW.alike hK, hD⟩, hS.F ht⟩) hS.2.2 d_X1_outcome_33
    · refine lv_iconst (v := 0) hx hb d_X1_outcome_25 (by decide) ?_
      refine lv_goto (tgt := 33) hx hb d_X1_outcome_26 (by decide) ?_
      exact W.iret (v := 0) hx hb hr (fun t ht hW => ⟨⟨_, ((0, ce, mv, at_, pa, wo, tr, ch), sp, sc), rfl, ⟨⟨fun _ _ => rfl, rfl⟩, fun z => absurd (show td_be ce ≤ 0 by rw [z]; decide) h0⟩, by rw [ht]; exact hP, va_K.moved hW.alike hK, hD⟩, hS.F ht⟩) hS.2.2 d_X1_outcome_33
  · refine lv_bipush (v := 7) hx hb d_X1_outcome_5 (by decide) ?_
    refine lv_icmp_le (tgt := 14) hx hb d_X1_outcome_7 (by decide) (fun h0 => ?_) (fun h0 => ?_)
    · refine lv_iconst (v := 0) hx hb d_X1_outcome_14 (by decide) ?_
      exact J _ (by unfold td_be td_em; rw [if_neg (Int32.not_lt.mpr h0)])
    · refine lv_iconst (v := 1) hx hb d_X1_outcome_10 (by decide) ?_
      refine lv_goto (tgt := 15) hx hb d_X1_outcome_11 (by decide) ?_
      exact J _ (by unfold td_be td_em; rw [if_pos (Int32.not_le.mp h0)])
set_option maxHeartbeats 4000000 in
set_option maxRecDepth 100000 in
theorem m_X1_best (l : Launch) (D : va_G) (sz : Nat) (o : Nat) (q : Nat → Nat) (th md ch sc : Int32) (cI cZ : ClassId) (ce mv sp at_ pa wo tr : Nat → Int32) (vv bb : Int32) (hF : td_be ce = 0 → td_sok ce mv sp at_ pa wo tr vv bb) : Met l y_X1_best (k_X1_best :: tw) ({ frames := 6, cells := 0, slots := 0, locals := 147 }) (va_Pc [.ref o] (fun U => U.heap.size = sz ∧ va_P D tdC [(o, .inr (1, [.int th, .ref (q 1), .ref (q 2), .ref (q 3), .ref (q 4), .int md, .ref (q 6), .ref (q 7), .ref (q 8), .ref (q 9), .int ch, .ref (q 11), .int sc, .ref (q 13)])), ((q 1), .inl (cI, 1216, .inl ce)), ((q 2), .inl (cI, 19, .inl mv)), ((q 11), .inl (cI, 64, .inl sp)), ((q 6), .inl (cI, 19, .inl at_)), ((q 7), .inl (cZ, 19, .inl pa)), ((q 8), .inl (cI, 19, .inl wo)), ((q 9), .inl (cI, 19, .inl tr))] U.heap ∧ va_K D tdC [(cI, .int), (cZ, .boolean)] U ∧ va_D (fun _ => True) [(o, .inr (1, [.int th, .ref (q 1), .ref (q 2), .ref (q 3), .ref (q 4), .int md, .ref (q 6), .ref (q 7), .ref (q 8), .ref (q 9), .int ch, .ref (q 11), .int sc, .ref (q 13)])), ((q 1), .inl (cI, 1216, .inl ce)), ((q 2), .inl (cI, 19, .inl mv)), ((q 11), .inl (cI, 64, .inl sp)), ((q 6), .inl (cI, 19, .inl at_)), ((q 7), .inl (cZ, 19, .inl pa)), ((q 8), .inl (cI, 19, .inl wo)), ((q 9), .inl (cI, 19, .inl tr))])) (va_Qi (fun (r : Int32) (u : tdU) => td_same u ce mv ∧ ((td_be ce) = 0 → r = if -1000 < vv then bb else 65)) (fun (u : tdU) t => va_P D tdC [(o, .inr (1, [.int (td_be ce), .ref (q 1), .ref (q 2), .ref (q 3), .ref (q 4), .int md, .ref (q 6), .ref (q 7), .ref (q 8), .ref (q 9), .int (u.1.2.2.2.2.2.2.2), .ref (q 11), .int (u.2.2), .ref (q 13)])), ((q 1), .inl (cI, 1216, .inl u.1.2.1)), ((q 2), .inl (cI, 19, .inl u.1.2.2.1)), ((q 11), .inl (cI, 64, .inl u.2.1)), ((q 6), .inl (cI, 19, .inl u.1.2.2.2.1)), ((q 7), .inl (cZ, 19, .inl u.1.2.2.2.2.1)), ((q 8), .inl (cI, 19, .inl u.1.2.2.2.2.2.1)), ((q 9), .inl (cI, 19, .inl u.1.2.2.2.2.2.2.1))] t.heap ∧ va_K D tdC [(cI, .int), (cZ, .boolean)] t ∧ va_D (va_A [(o, .inr (1, [.int th, .ref (q 1), .ref (q 2), .ref (q 3), .ref (q 4), .int md, .ref (q 6), .ref (q 7), .ref (q 8), .ref (q 9), .int ch, .ref (q 11), .int sc, .ref (q 13)])), ((q 1), .inl (cI, 1216, .inl ce)), ((q 2), .inl (cI, 19, .inl mv)), ((q 11), .inl (cI, 64, .inl sp)), ((q 6), .inl (cI, 19, .inl at_)), ((q 7), .inl (cZ, 19, .inl pa)), ((q 8), .inl (cI, 19, .inl wo)), ((q 9), .inl (cI, 19, .inl tr))] sz) [(o, .inr (1, [.int (td_be ce), .ref (q 1), .ref (q 2), .ref (q 3), .ref (q 4), .int md, .ref (q 6), .ref (q 7), .ref (q 8), .ref (q 9), .int (u.1.2.2.2.2.2.2.2), .ref (q 11), .int (u.2.2), .ref (q 13)])), ((q 1), .inl (cI, 1216, .inl u.1.2.1)), ((q 2), .inl (cI, 19, .inl u.1.2.2.1)), ((q 11), .inl (cI, 64, .inl u.2.1)), ((q 6), .inl (cI, 19, .inl u.1.2.2.2.1)), ((q 7), .inl (cZ, 19, .inl u.1.2.2.2.2.1)), ((q 8), .inl (cI, 19, .inl u.1.2.2.2.2.2.1)), ((q 9), .inl (cI, 19, .inl u.1.2.2.2.2.2.2.1))]) (va_A [(o, .inr (1, [.int th, .ref (q 1), .ref (q 2), .ref (q 3), .ref (q 4), .int md, .ref (q 6), .ref (q 7), .ref (q 8), .ref (q 9), .int ch, .ref (q 11), .int sc, .ref (q 13)])), ((q 1), .inl (cI, 1216, .inl ce)), ((q 2), .inl (cI, 19, .inl mv)), ((q 11), .inl (cI, 64, .inl sp)), ((q 6), .inl (cI, 19, .inl at_)), ((q 7), .inl (cZ, 19, .inl pa)), ((q 8), .inl (cI, 19, .inl wo)), ((q 9), .inl (cI, 19, .inl tr))] sz)) 0 0 (va_A [(o, .inr (1, [.int th, .ref (q 1), .ref (q 2), .ref (q 3), .ref (q 4), .int md, .ref (q 6), .ref (q 7), .ref (q 8), .ref (q 9), .int ch, .ref (q 11), .int sc, .ref (q 13)])), ((q 1), .inl (cI, 1216, .inl ce)), ((q 2), .inl (cI, 19, .inl mv)), ((q 11), .inl (cI, 64, .inl sp)), ((q 6), .inl (cI, 19, .inl at_)), ((q 7), .inl (cZ, 19, .inl pa)), ((q 8), .inl (cI, 19, .inl wo)), ((q 9), .inl (cI, 19, .inl tr))] sz) := by
  refine Met.ofW (cc := c_X1_best) (maxL := 2) (ret := (some .int)) (by decide) rfl ?_
  intro p e s m args below meth c s₁ B hml hv
  obtain ⟨rfl, hsz, hP, hK, hD0⟩ := hv
  have hx := B.exec
  have hb := B.bytes
  have hr := B.returns
  have hts : ∀ w ∈ tw, w.before _ s = true := fun w h => atoms_spec (ws := k_X1_best :: tw) B.pre w (List.mem_cons_of_mem _ h)
  have hown : s.vm.findClass RX1 = some m.cls := findClass_of_methodNamed B.named
  have hlocks := B.notSynchronized
  subst hsz
  have hD := hD0.self (sz := s.heap.size)
  generalize hAe : va_A [(o, .inr (1, [.int th, .ref (q 1), .ref (q 2), .ref (q 3), .ref (q 4), .int md, .ref (q 6), .ref (q 7), .ref (q 8), .ref (q 9), .int ch, .ref (q 11), .int sc, .ref (q 13)])), ((q 1), .inl (cI, 1216, .inl ce)), ((q 2), .inl (cI, 19, .inl mv)), ((q 11), .inl (cI, 64, .inl sp)), ((q 6), .inl (cI, 19, .inl at_)), ((q 7), .inl (cZ, 19, .inl pa)), ((q 8), .inl (cI, 19, .inl wo)), ((q 9), .inl (cI, 19, .inl tr))] s.heap.size = A at hD ⊢
  have hA : ∀ q : Nat, s.heap.size ≤ q → A q := fun q h => by rw [← hAe]; exact Or.inr h
  have hS : va_S A s.heap s.heap [] := va_S.rf
  have hP : va_P D tdC [(o, .inr (1, [.int th, .ref (q 1), .ref (q 2), .ref (q 3), .ref (q 4), .int md, .ref (q 6), .ref (q 7), .ref (q 8), .ref (q 9), .int ch, .ref (q 11), .int sc, .ref (q 13)])), ((q 1), .inl (cI, 1216, .inl ce)), ((q 2), .inl (cI, 19, .inl mv)), ((q 11), .inl (cI, 64, .inl sp)), ((q 6), .inl (cI, 19, .inl at_)), ((q 7), .inl (cZ, 19, .inl pa)), ((q 8), .inl (cI, 19, .inl wo)), ((q 9), .inl (cI, 19, .inl tr))] s.heap := hP
  have hl := lv_entry ([.ref o]) (n := 2) (Nat.le_of_ble_eq_true rfl)
  rw [lg_entry_eq]
  generalize (lg_sl ([.ref o]) ++ List.replicate (2 - (lg_sl ([.ref o])).length) Slot.unset).toArray = ls at hl ⊢
  have hl : lv_has ls 2 [(0, .ref o)] := hl
  refine lv_aload_n hx hb d_X1_best_0 rfl (lv_at hl 0 rfl) ?_
  refine lv_aload_n hx hb d_X1_best_1 rfl (lv_at hl 0 rfl) ?_
  have hP2 := hP.sub (ws' := [(o, .inr (1, [.int th, .ref (q 1), .ref (q 2), .ref (q 3), .ref (q 4), .int md, .ref (q 6), .ref (q 7), .ref (q 8), .ref (q 9), .int ch, .ref (q 11), .int sc, .ref (q 13)])), ((q 1), .inl (cI, 1216, .inl ce))]) [0, 1] rfl
  have hK2 := hK.sub (tys' := [(cI, .int)]) [0] rfl
  refine vp_callSi (W.runV (b := o) (C := RX1) (As := []) (rest := [.ref o]) ⟨hx, hb, hml, hown, hts⟩ (m_X1_empties l D o (q 1) cI [.int th, .ref (q 1), .ref (q 2), .ref (q 3), .ref (q 4), .int md, .ref (q 6), .ref (q 7), .ref (q 8), .ref (q 9), .int ch, .ref (q 11), .int sc, .ref (q 13)] rfl ce) (cwV 0 hts (tw_V ml_X1_123 im_X1_empties se_X1_empties in_X1 kw_X1_empties) rfl rfl rfl (by decide +kernel) ⟨Nat.le_of_ble_eq_true rfl, Nat.le_of_ble_eq_true rfl⟩) ⟨fun a U g mk q => ⟨q.1, q.2.1, va_K.moved (u := U) (U := U.calling g mk a) (Vm.Alike.refl U.vm) q.2.2⟩, va_recv (q0 := 0) (ci := 1) hK hP rfl rfl, fun U hU hW => ⟨rfl, by rw [hU]; exact hP2, va_K.moved hW.alike hK2⟩⟩ rfl rfl hl.1 rfl (lv_room (Nat.le_of_ble_eq_true rfl)) d_X1_best_2 ⟨Nat.zero_le _, Nat.zero_le _⟩) (fun r h9 => ?_)
  subst h9
  clear hP2
  refine td_joini 15 ls [.ref o] (fun x => x = td_be ce) (fun x ex => ?_) (fun J => ?_)
  · subst ex
    refine va_put (D := D) (ci := 1) (v := .int (td_be ce)) (ty := .int) (C := RX1) (T := TX1) (N := 14) hx hb hts usX1 tyX1 tyX1_ok nmX1 hown hK hP hD hS 0 rfl rfl 0 (by decide) (hts _ fl_X1_45) (fun _ h9 => h9) rfl (by decide +kernel) rfl rfl (Nat.le_of_ble_eq_true rfl) d_X1_best_15 (fun H locs hP hD hS => ?_)
    have hP : va_P D tdC [(o, .inr (1, [.int (td_be ce), .ref (q 1), .ref (q 2), .ref (q 3), .ref (q 4), .int md, .ref (q 6), .ref (q 7), .ref (q 8), .ref (q 9), .int ch, .ref (q 11), .int sc, .ref (q 13)])), ((q 1), .inl (cI, 1216, .inl ce)), ((q 2), .inl (cI, 19, .inl mv)), ((q 11), .inl (cI, 64, .inl sp)), ((q 6), .inl (cI, 19, .inl at_)), ((q 7), .inl (cZ, 19, .inl pa)), ((q 8), .inl (cI, 19, .inl wo)), ((q 9), .inl (cI, 19, .inl tr))] H := hP
    have hD : va_D A [(o, .inr (1, [.int (td_be ce), .ref (q 1), .ref (q 2), .ref (q 3), .ref (q 4), .int md, .ref (q 6), .ref (q 7), .ref (q 8), .ref (q 9), .int ch, .ref (q 11), .int sc, .ref (q 13)])), ((q 1), .inl (cI, 1216, .inl ce)), ((q 2), .inl (cI, 19, .inl mv)), ((q 11), .inl (cI, 64, .inl sp)), ((q 6), .inl (cI, 19, .inl at_)), ((q 7), .inl (cZ, 19, .inl pa)), ((q 8), .inl (cI, 19, .inl wo)), ((q 9), .inl (cI, 19, .inl tr))] := hD
    refine lv_aload_n hx hb d_X1_best_18 rfl (lv_at hl 0 rfl) ?_
    refine va_get (D := D) (ci := 1) (v := .int (td_be ce)) (C := RX1) (T := TX1) (N := 14) hx hb hts usX1 hown hK hP 0 rfl rfl 0 (by decide) (hts _ fl_X1_45) (fun _ h9 => h9) rfl d_X1_best_19 ?_
    refine lv_if_le (tgt := 29) hx hb d_X1_best_22 (by decide) (fun h0 => ?_) (fun h0 => ?_)
    · have hbe : td_be ce = 0 := by
        by_cases hc : 7 < td_em ce
        · unfold td_be at h0; rw [if_pos hc] at h0; exact absurd h0 (by decide)
        · unfold td_be; rw [if_neg hc]
      obtain ⟨n, F, hrun, hs1, hs2, hs3, hs4⟩ := hF hbe
      refine lv_aload_n hx hb d_X1_best_29 rfl (lv_at hl 0 rfl) ?_
      have hPc := hP.sub (ws' := [(o, .inr (1, [.int (td_be ce), .ref (q 1), .ref (q 2), .ref (q 3), .ref (q 4), .int md, .ref (q 6), .ref (q 7), .ref (q 8), .ref (q 9), .int ch, .ref (q 11), .int sc, .ref (q 13)])), ((q 1), .inl (cI, 1216, .inl ce)), ((q 2), .inl (cI, 19, .inl mv)), ((q 11), .inl (cI, 64, .inl sp)), ((q 6), .inl (cI, 19, .inl at_)), ((q 7), .inl (cZ, 19, .inl pa)), ((q 8), .inl (cI, 19, .inl wo)), ((q 9), .inl (cI, 19, .inl tr))]) [0, 1, 2, 3, 4, 5, 6, 7] rfl
      have hDc := hD.sub (ws' := [(o, .inr (1, [.int (td_be ce), .ref (q 1), .ref (q 2), .ref (q 3), .ref (q 4), .int md, .ref (q 6), .ref (q 7), .ref (q 8), .ref (q 9), .int ch, .ref (q 11), .int sc, .ref (q 13)])), ((q 1), .inl (cI, 1216, .inl ce)), ((q 2), .inl (cI, 19, .inl mv)), ((q 11), .inl (cI, 64, .inl sp)), ((q 6), .inl (cI, 19, .inl at_)), ((q 7), .inl (cZ, 19, .inl pa)), ((q 8), .inl (cI, 19, .inl wo)), ((q 9), .inl (cI, 19, .inl tr))]) [0, 1, 2, 3, 4, 5, 6, 7] (by decide) rfl
      have hKc := hK.sub (tys' := [(cI, .int), (cZ, .boolean)]) [0, 1] rfl
      have hFc := va_free (wc := [(o, .inr (1, [.int (td_be ce), .ref (q 1), .ref (q 2), .ref (q 3), .ref (q 4), .int md, .ref (q 6), .ref (q 7), .ref (q 8), .ref (q 9), .int ch, .ref (q 11), .int sc, .ref (q 13)])), ((q 1), .inl (cI, 1216, .inl ce)), ((q 2), .inl (cI, 19, .inl mv)), ((q 11), .inl (cI, 64, .inl sp)), ((q 6), .inl (cI, 19, .inl at_)), ((q 7), .inl (cZ, 19, .inl pa)), ((q 8), .inl (cI, 19, .inl wo)), ((q 9), .inl (cI, 19, .inl tr))]) hD hS hA [0, 1, 2, 3, 4, 5, 6, 7] rfl
      refine va_calli (va_runV (b := o) (C := RX1) (As := []) (rest := []) ⟨hx, hb, hml, hown, hts⟩ (m_X1_search l D _ o q (td_be ce) md ch sc cI cZ ce mv sp at_ pa wo tr n F hrun) (cwV 0 hts (tw_V ml_X1_127 im_X1_search se_X1_search in_X1 kw_X1_search) rfl rfl rfl (by decide +kernel) ⟨Nat.le_of_ble_eq_true rfl, Nat.le_of_ble_eq_true rfl⟩) ⟨fun a U g mk q => ⟨q.1, q.2.1, q.2.2.1, va_K.moved (u := U) (U := U.calling g mk a) (Vm.Alike.refl U.vm) q.2.2.2.1, q.2.2.2.2⟩, va_recv (q0 := 0) (ci := 1) hK hP rfl rfl, fun U hU hW => ⟨rfl, by rw [hU], by rw [hU]; exact hPc, va_K.moved hW.alike hKc, hDc.weaken (fun _ _ _ _ => trivial)⟩⟩ rfl rfl hl.1 rfl (lv_room (Nat.le_of_ble_eq_true rfl)) d_X1_best_30 ⟨Nat.zero_le _, Nat.zero_le _⟩) hS (fun q _ h => hFc q h) hFc (fun r u0 t0 H1 locs ht hvm hr2 hB hz1 hk1 hS => ?_)
      obtain ⟨hP1, hK1, hD1⟩ := hB
      rw [ht] at hP1
      obtain ⟨hP, hD⟩ := va_join (wr := []) (w1 := [(o, .inr (1, [.int (td_be ce), .ref (q 1), .ref (q 2), .ref (q 3), .ref (q 4), .int md, .ref (q 6), .ref (q 7), .ref (q 8), .ref (q 9), .int (F.2.2.2.2.2.2.2), .ref (q 11), .int (nI (td_n0 (td_lv ce 0))), .ref (q 13)])), ((q 1), .inl (cI, 1216, .inl F.2.1)), ((q 2), .inl (cI, 19, .inl F.2.2.1)), ((q 11), .inl (cI, 64, .inl (td_spf (td_lv ce 0) sp 64))), ((q 6), .inl (cI, 19, .inl F.2.2.2.1)), ((q 7), .inl (cZ, 19, .inl F.2.2.2.2.1)), ((q 8), .inl (cI, 19, .inl F.2.2.2.2.2.1)), ((q 9), .inl (cI, 19, .inl F.2.2.2.2.2.2.1))]) hP hD [0, 1, 2, 3, 4, 5, 6, 7] [] rfl rfl (by decide) (by decide) hk1 hFc hP1 hD1
      clear hPc hDc hKc hFc hP1 hK1 hD1 hk1 hz1
      have hP := hP.sub (ws' := [(o, .inr (1, [.int (td_be ce), .ref (q 1), .ref (q 2), .ref (q 3), .ref (q 4), .int md, .ref (q 6), .ref (q 7), .ref (q 8), .ref (q 9), .int (F.2.2.2.2.2.2.2), .ref (q 11), .int (nI (td_n0 (td_lv ce 0))), .ref (q 13)])), ((q 1), .inl (cI, 1216, .inl F.2.1)), ((q 2), .inl (cI, 19, .inl F.2.2.1)), ((q 11), .inl (cI, 64, .inl (td_spf (td_lv ce 0) sp 64))), ((q 6), .inl (cI, 19, .inl F.2.2.2.1)), ((q 7), .inl (cZ, 19, .inl F.2.2.2.2.1)), ((q 8), .inl (cI, 19, .inl F.2.2.2.2.2.1)), ((q 9), .inl (cI, 19, .inl F.2.2.2.2.2.2.1))]) [0, 1, 2, 3, 4, 5, 6, 7] rfl
      have hD := hD.sub (ws' := [(o, .inr (1, [.int (td_be ce), .ref (q 1), .ref (q 2), .ref (q 3), .ref (q 4), .int md, .ref (q 6), .ref (q 7), .ref (q 8), .ref (q 9), .int (F.2.2.2.2.2.2.2), .ref (q 11), .int (nI (td_n0 (td_lv ce 0))), .ref (q 13)])), ((q 1), .inl (cI, 1216, .inl F.2.1)), ((q 2), .inl (cI, 19, .inl F.2.2.1)), ((q 11), .inl (cI, 64, .inl (td_spf (td_lv ce 0) sp 64))), ((q 6), .inl (cI, 19, .inl F.2.2.2.1)), ((q 7), .inl (cZ, 19, .inl F.2.2.2.2.1)), ((q 8), .inl (cI, 19, .inl F.2.2.2.2.2.1)), ((q 9), .inl (cI, 19, .inl F.2.2.2.2.2.2.1))]) [0, 1, 2, 3, 4, 5, 6, 7] (by decide) rfl
      clear ht hvm
      generalize H1 = H at hP hS ⊢
      refine lv_istore_n hx hb d_X1_best_33 rfl hl (by decide) rfl (fun ls hl => ?_)
      have hl : lv_has ls 2 [(1, .int r), (0, .ref o)] := hl
      refine lv_aload_n hx hb d_X1_best_34 rfl (lv_at hl 1 rfl) ?_
      refine va_get (D := D) (ci := 1) (v := .int (td_be ce)) (C := RX1) (T := TX1) (N := 14) hx hb hts usX1 hown hK hP 0 rfl rfl 0 (by decide) (hts _ fl_X1_45) (fun _ h9 => h9) rfl d_X1_best_35 ?_
      refine lv_if_le (tgt := 45) hx hb d_X1_best_38 (by decide) (fun h1 => ?_) (fun h1 => ?_)
      · refine td_joini 61 ls [] (fun x => x = if -1000 < vv then bb else 65) (fun x ex => ?_) (fun J => ?_)
        · exact W.iret (v := x) hx hb hr (fun t ht hW => ⟨⟨_, (F, td_spf (td_lv ce 0) sp 64, nI (td_n0 (td_lv ce 0))), rfl, ⟨⟨hs1, hs2⟩, fun _ => ex⟩, by rw [ht]; exact hP, va_K.moved hW.alike hK, hD⟩, hS.F ht⟩) hS.2.2 d_X1_best_61
        · refine lv_iload_n hx hb d_X1_best_45 rfl (lv_at hl 0 rfl) ?_
          refine lv_sipush (v := (-1000)) hx hb d_X1_best_46 (by decide) ?_
          refine lv_icmp_le (tgt := 59) hx hb d_X1_best_49 (by decide) (fun h2 => ?_) (fun h2 => ?_)
          · refine lv_bipush (v := 65) hx hb d_X1_best_59 (by decide) ?_
            exact J _ (by rw [if_neg (by rw [← hs3, ← hr2]; exact Int32.not_lt.mpr h2)])
          · refine lv_aload_n hx hb d_X1_best_52 rfl (lv_at hl 1 rfl) ?_
            refine va_get (D := D) (ci := 1) (v := .int (F.2.2.2.2.2.2.2)) (C := RX1) (T := TX1) (N := 14) hx hb hts usX1 hown hK hP 0 rfl rfl 10 (by decide) (hts _ fl_X1_120) (fun _ h9 => h9) rfl d_X1_best_53 ?_
            refine lv_goto (tgt := 61) hx hb d_X1_best_56 (by decide) ?_
            exact J _ (by rw [if_pos (by rw [← hs3, ← hr2]; exact Int32.not_le.mp h2)]; exact hs4)
      · exact absurd (show td_be ce ≤ 0 by rw [hbe]; decide) h1
    · refine lv_iconst (v := 0) hx hb d_X1_best_25 (by decide) ?_
      refine lv_goto (tgt := 33) hx hb d_X1_best_26 (by decide) ?_
      refine lv_istore_n hx hb d_X1_best_33 rfl hl (by decide) rfl (fun ls hl => ?_)
      have hl : lv_has ls 2 [(1, .int 0), (0, .ref o)] := hl
      refine lv_aload_n hx hb d_X1_best_34 rfl (lv_at hl 1 rfl) ?_
      refine va_get (D := D) (ci := 1) (v := .int (td_be ce)) (C := RX1) (T := TX1) (N := 14) hx hb hts usX1 hown hK hP 0 rfl rfl 0 (by decide) (hts _ fl_X1_45) (fun _ h9 => h9) rfl d_X1_best_35 ?_
      refine lv_if_le (tgt := 45) hx hb d_X1_best_38 (by decide) (fun h1 => ?_) (fun h1 => ?_)
      · exact absurd h1 h0
      · refine lv_iconst (v := 0) hx hb d_X1_best_41 (by decide) ?_
        refine lv_goto (tgt := 61) hx hb d_X1_best_42 (by decide) ?_
        exact W.iret (v := 0) hx hb hr (fun t ht hW => ⟨⟨_, ((0, ce, mv, at_, pa, wo, tr, ch), sp, sc), rfl, ⟨⟨fun _ _ => rfl, rfl⟩, fun z => absurd (show td_be ce ≤ 0 by rw [z]; decide) h0⟩, by rw [ht]; exact hP, va_K.moved hW.alike hK, hD⟩, hS.F ht⟩) hS.2.2 d_X1_best_61
  · refine lv_bipush (v := 7) hx hb d_X1_best_5 (by decide) ?_
    refine lv_icmp_le (tgt := 14) hx hb d_X1_best_7 (by decide) (fun h0 => ?_) (fun h0 => ?_)
    · refine lv_iconst (v := 0) hx hb d_X1_best_14 (by decide) ?_
      exact J _ (by unfold td_be td_em; rw [if_neg (Int32.not_lt.mpr h0)])
    · refine lv_iconst (v := 1) hx hb d_X1_best_10 (by decide) ?_
      refine lv_goto (tgt := 15) hx hb d_X1_best_11 (by decide) ?_
      exact J _ (by unfold td_be td_em; rw [if_pos (Int32.not_le.mp h0)])
set_option maxHeartbeats 4000000 in
set_option maxRecDepth 100000 in
theorem m_X1_init (l : Launch) (D : va_G) (sz : Nat) (o : Nat) : Met l y_X1_init (k_X1_init :: tw) ({ frames := 1, cells := 10, slots := 1567, locals := 21 }) (va_Pc [.ref o] (fun U => U.heap.size = sz ∧ va_P D tdC [(o, .inr (1, [.int 0, .null, .null, .null, .null, .int 0, .null, .null, .null, .null, .int 0, .null, .int 0, .null]))] U.heap ∧ va_K D tdC [] U ∧ va_D (fun _ => True) [(o, .inr (1, [.int 0, .null, .null, .null, .null, .int 0, .null, .null, .null, .null, .int 0, .null, .int 0, .null]))])) (va_Qv (fun (_ : (Nat → Nat) × ClassId × ClassId × ClassId) => True) (fun (u : (Nat → Nat) × ClassId × ClassId × ClassId) t => va_P D tdC [(o, .inr (1, [.int 0, .ref (u.1 1), .ref (u.1 2), .ref (u.1 3), .ref (u.1 4), .int 0, .ref (u.1 6), .ref (u.1 7), .ref (u.1 8), .ref (u.1 9), .int 0, .ref (u.1 11), .int 0, .ref (u.1 13)])), ((u.1 1), .inl (u.2.1, 1216, .inl (td_laid (fun _ => 0)))), ((u.1 2), .inl (u.2.1, 19, .inl (upd (fun _ => 0) 0 0))), ((u.1 3), .inl (u.2.1, 64, .inl (fun _ => 0))), ((u.1 4), .inl (u.2.2.1, 64, .inr (.inl (fun _ => 0)))), ((u.1 6), .inl (u.2.1, 19, .inl (fun _ => 0))), ((u.1 7), .inl (u.2.2.2, 19, .inl (fun _ => 0))), ((u.1 8), .inl (u.2.1, 19, .inl (fun _ => 0))), ((u.1 9), .inl (u.2.1, 19, .inl (fun _ => 0))), ((u.1 11), .inl (u.2.1, 64, .inl (fun _ => 0))), ((u.1 13), .inl (u.2.1, 64, .inl (fun _ => 0)))] t.heap ∧ va_K D tdC [(u.2.1, .int), (u.2.2.1, .long), (u.2.2.2, .boolean)] t ∧ va_D (va_A [(o, .inr (1, [.int 0, .null, .null, .null, .null, .int 0, .null, .null, .null, .null, .int 0, .null, .int 0, .null]))] sz) [(o, .inr (1, [.int 0, .ref (u.1 1), .ref (u.1 2), .ref (u.1 3), .ref (u.1 4), .int 0, .ref (u.1 6), .ref (u.1 7), .ref (u.1 8), .ref (u.1 9), .int 0, .ref (u.1 11), .int 0, .ref (u.1 13)])), ((u.1 1), .inl (u.2.1, 1216, .inl (td_laid (fun _ => 0)))), ((u.1 2), .inl (u.2.1, 19, .inl (upd (fun _ => 0) 0 0))), ((u.1 3), .inl (u.2.1, 64, .inl (fun _ => 0))), ((u.1 4), .inl (u.2.2.1, 64, .inr (.inl (fun _ => 0)))), ((u.1 6), .inl (u.2.1, 19, .inl (fun _ => 0))), ((u.1 7), .inl (u.2.2.2, 19, .inl (fun _ => 0))), ((u.1 8), .inl (u.2.1, 19, .inl (fun _ => 0))), ((u.1 9), .inl (u.2.1, 19, .inl (fun _ => 0))), ((u.1 11), .inl (u.2.1, 64, .inl (fun _ => 0))), ((u.1 13), .inl (u.2.1, 64, .inl (fun _ => 0)))]) (va_A [(o, .inr (1, [.int 0, .null, .null, .null, .null, .int 0, .null, .null, .null, .null, .int 0, .null, .int 0, .null]))] sz)) 10 1567 (va_A [(o, .inr (1, [.int 0, .null, .null, .null, .null, .int 0, .null, .null, .null, .null, .int 0, .null, .int 0, .null]))] sz) := by
  refine Met.ofW (cc := c_X1_init) (maxL := 1) (ret := none) (by decide) rfl ?_
  intro p e s m args below meth c s₁ B hml hv
  obtain ⟨rfl, hsz, hP, hK, hD0⟩ := hv
  have hx := B.exec
  have hb := B.bytes
  have hr := B.returns
  have hts : ∀ w ∈ tw, w.before _ s = true := fun w h => atoms_spec (ws := k_X1_init :: tw) B.pre w (List.mem_cons_of_mem _ h)
  have hown : s.vm.findClass RX1 = some m.cls := findClass_of_methodNamed B.named
  have hlocks := B.notSynchronized
  have hin : meth.name = "<init>" := (name_of_methodNamed B.named B.method).1
  subst hsz
  have hD := hD0.self (sz := s.heap.size)
  generalize hAe : va_A [(o, .inr (1, [.int 0, .null, .null, .null, .null, .int 0, .null, .null, .null, .null, .int 0, .null, .int 0, .null]))] s.heap.size = A at hD ⊢
  have hA : ∀ q : Nat, s.heap.size ≤ q → A q := fun q h => by rw [← hAe]; exact Or.inr h
  have hS : va_S A s.heap s.heap [] := va_S.rf
  have hP : va_P D tdC [(o, .inr (1, [.int 0, .null, .null, .null, .null, .int 0, .null, .null, .null, .null, .int 0, .null, .int 0, .null]))] s.heap := hP
  have hl := lv_entry ([.ref o]) (n := 1) (Nat.le_of_ble_eq_true rfl)
  rw [lg_entry_eq]
  generalize (lg_sl ([.ref o]) ++ List.replicate (1 - (lg_sl ([.ref o])).length) Slot.unset).toArray = ls at hl ⊢
  have hl : lv_has ls 1 [(0, .ref o)] := hl
  refine lv_aload_n hx hb d_X1_init_0 rfl (lv_at hl 0 rfl) ?_
  refine W.objInit hx hb hown (hts _ ml_X1_1) (hts _ im_obj) (hts _ kw_obj) rfl (by rw [hml]; exact hl.1) rfl d_X1_init_1 (Nat.le_of_ble_eq_true rfl) (Nat.le_of_ble_eq_true rfl) ?_
  refine W.eq (g2 := F0 m 4 ls []) rfl ?_
  refine lv_aload_n hx hb d_X1_init_4 rfl (lv_at hl 0 rfl) ?_
  refine lv_sipush (v := 1216) hx hb d_X1_init_5 (by decide) ?_
  refine va_newa (atype := .int) (a0 := (1216, .inl (fun _ => 0))) (N' := 1216) hx hb (hts _ ac_int) rfl hK hP hD hS hA (fun _ => rfl) (by decide) (by decide) (by decide) (Nat.le_of_ble_eq_true rfl) (Nat.le_of_ble_eq_true rfl) d_X1_init_8 (fun q1 c1 H hK hP hD hS => ?_)
  have hP : va_P D tdC [(o, .inr (1, [.int 0, .null, .null, .null, .null, .int 0, .null, .null, .null, .null, .int 0, .null, .int 0, .null])), (q1, .inl (c1, 1216, .inl (fun _ => 0)))] H := hP
  have hD : va_D A [(o, .inr (1, [.int 0, .null, .null, .null, .null, .int 0, .null, .null, .null, .null, .int 0, .null, .int 0, .null])), (q1, .inl (c1, 1216, .inl (fun _ => 0)))] := hD
  have hK : va_K D tdC [(c1, .int)] s := hK
  refine va_putF (D := D) (ci := 1) (v := .ref q1) (ty := .array .int) (C := RX1) (T := TX1) (N := 14) hx hb hts usX1 tyX1 tyX1_ok nmX1 hown hK hP hD hS 0 rfl rfl 1 (by decide) (hts _ fl_X1_7) (fun _ h9 => h9) rfl hin rfl (by decide +kernel) rfl rfl (Nat.le_of_ble_eq_true rfl) d_X1_init_10 (fun H locs hP hD hS => ?_)
  have hP : va_P D tdC [(o, .inr (1, [.int 0, .ref q1, .null, .null, .null, .int 0, .null, .null, .null, .null, .int 0, .null, .int 0, .null])), (q1, .inl (c1, 1216, .inl (fun _ => 0)))] H := hP
  have hD : va_D A [(o, .inr (1, [.int 0, .ref q1, .null, .null, .null, .int 0, .null, .null, .null, .null, .int 0, .null, .int 0, .null])), (q1, .inl (c1, 1216, .inl (fun _ => 0)))] := hD
  refine lv_aload_n hx hb d_X1_init_13 rfl (lv_at hl 0 rfl) ?_
  refine lv_bipush (v := 19) hx hb d_X1_init_14 (by decide) ?_
  refine va_newa (atype := .int) (a0 := (19, .inl (fun _ => 0))) (N' := 19) hx hb (hts _ ac_int) rfl hK hP hD hS hA (fun _ => rfl) (by decide) (by decide) (by decide) (Nat.le_of_ble_eq_true rfl) (Nat.le_of_ble_eq_true rfl) d_X1_init_16 (fun q2 c2 H hK hP hD hS => ?_)
  have hP : va_P D tdC [(o, .inr (1, [.int 0, .ref q1, .null, .null, .null, .int 0, .null, .null, .null, .null, .int 0, .null, .int 0, .null])), (q1, .inl (c1, 1216, .inl (fun _ => 0))), (q2, .inl (c2, 19, .inl (fun _ => 0)))] H := hP
  have hD : va_D A [(o, .inr (1, [.int 0, .ref q1, .null, .null, .null, .int 0, .null, .null, .null, .null, .int 0, .null, .int 0, .null])), (q1, .inl (c1, 1216, .inl (fun _ => 0))), (q2, .inl (c2, 19, .inl (fun _ => 0)))] := hD
  have hK : va_K D tdC [(c1, .int), (c2, .int)] s := hK
  refine va_putF (D := D) (ci := 1) (v := .ref q2) (ty := .array .int) (C := RX1) (T := TX1) (N := 14) hx hb hts usX1 tyX1 tyX1_ok nmX1 hown hK hP hD hS 0 rfl rfl 2 (by decide) (hts _ fl_X1_13) (fun _ h9 => h9) rfl hin rfl (by decide +kernel) rfl rfl (Nat.le_of_ble_eq_true rfl) d_X1_init_18 (fun H locs hP hD hS => ?_)
  have hP : va_P D tdC [(o, .inr (1, [.int 0, .ref q1, .ref q2, .null, .null, .int 0, .null, .null, .null, .null, .int 0, .null, .int 0, .null])), (q1, .inl (c1, 1216, .inl (fun _ => 0))), (q2, .inl (c2, 19, .inl (fun _ => 0)))] H := hP
  have hD : va_D A [(o, .inr (1, [.int 0, .ref q1, .ref q2, .null, .null, .int 0, .null, .null, .null, .null, .int 0, .null, .int 0, .null])), (q1, .inl (c1, 1216, .inl (fun _ => 0))), (q2, .inl (c2, 19, .inl (fun _ => 0)))] := hD
  refine lv_aload_n hx hb d_X1_init_21 rfl (lv_at hl 0 rfl) ?_
  refine lv_bipush (v := 64) hx hb d_X1_init_22 (by decide) ?_
  refine va_newa (atype := .int) (a0 := (64, .inl (fun _ => 0))) (N' := 64) hx hb (hts _ ac_int) rfl hK hP hD hS hA (fun _ => rfl) (by decide) (by decide) (by decide) (Nat.le_of_ble_eq_true rfl) (Nat.le_of_ble_eq_true rfl) d_X1_init_24 (fun q3 c3 H hK hP hD hS => ?_)
  have hP : va_P D tdC [(o, .inr (1, [.int 0, .ref q1, .ref q2, .null, .null, .int 0, .null, .null, .null, .null, .int 0, .null, .int 0, .null])), (q1, .inl (c1, 1216, .inl (fun _ => 0))), (q2, .inl (c2, 19, .inl (fun _ => 0))), (q3, .inl (c3, 64, .inl (fun _ => 0)))] H := hP
  have hD : va_D A [(o, .inr (1, [.int 0, .ref q1, .ref q2, .null, .null, .int 0, .null, .null, .null, .null, .int 0, .null, .int 0, .null])), (q1, .inl (c1, 1216, .inl (fun _ => 0))), (q2, .inl (c2, 19, .inl (fun _ => 0))), (q3, .inl (c3, 64, .inl (fun _ => 0)))] := hD
  have hK : va_K D tdC [(c1, .int), (c2, .int), (c3, .int)] s := hK
  refine va_putF (D := D) (ci := 1) (v := .ref q3) (ty := .array .int) (C := RX1) (T := TX1) (N := 14) hx hb hts usX1 tyX1 tyX1_ok nmX1 hown hK hP hD hS 0 rfl rfl 3 (by decide) (hts _ fl_X1_16) (fun _ h9 => h9) rfl hin rfl (by decide +kernel) rfl rfl (Nat.le_of_ble_eq_true rfl) d_X1_init_26 (fun H locs hP hD hS => ?_)
  have hP : va_P D tdC [(o, .inr (1, [.int 0, .ref q1, .ref q2, .ref q3, .null, .int 0, .null, .null, .null, .null, .int 0, .null, .int 0, .null])), (q1, .inl (c1, 1216, .inl (fun _ => 0))), (q2, .inl (c2, 19, .inl (fun _ => 0))), (q3, .inl (c3, 64, .inl (fun _ => 0)))] H := hP
  have hD : va_D A [(o, .inr (1, [.int 0, .ref q1, .ref q2, .ref q3, .null, .int 0, .null, .null, .null, .null, .int 0, .null, .int 0, .null])), (q1, .inl (c1, 1216, .inl (fun _ => 0))), (q2, .inl (c2, 19, .inl (fun _ => 0))), (q3, .inl (c3, 64, .inl (fun _ => 0)))] := hD
  refine lv_aload_n hx hb d_X1_init_29 rfl (lv_at hl 0 rfl) ?_
  refine lv_bipush (v := 64) hx hb d_X1_init_30 (by decide) ?_
  refine va_newa (atype := .long) (a0 := (64, .inr (.inl (fun _ => 0)))) (N' := 64) hx hb (hts _ ac_long) rfl hK hP hD hS hA (fun _ => rfl) (by decide) (by decide) (by decide) (Nat.le_of_ble_eq_true rfl) (Nat.le_of_ble_eq_true rfl) d_X1_init_32 (fun q4 c4 H hK hP hD hS => ?_)
  have hP : va_P D tdC [(o, .inr (1, [.int 0, .ref q1, .ref q2, .ref q3, .null, .int 0, .null, .null, .null, .null, .int 0, .null, .int 0, .null])), (q1, .inl (c1, 1216, .inl (fun _ => 0))), (q2, .inl (c2, 19, .inl (fun _ => 0))), (q3, .inl (c3, 64, .inl (fun _ => 0))), (q4, .inl (c4, 64, .inr (.inl (fun _ => 0))))] H := hP
  have hD : va_D A [(o, .inr (1, [.int 0, .ref q1, .ref q2, .ref q3, .null, .int 0, .null, .null, .null, .null, .int 0, .null, .int 0, .null])), (q1, .inl (c1, 1216, .inl (fun _ => 0))), (q2, .inl (c2, 19, .inl (fun _ => 0))), (q3, .inl (c3, 64, .inl (fun _ => 0))), (q4, .inl (c4, 64, .inr (.inl (fun _ => 0))))] := hD
  have hK : va_K D tdC [(c1, .int), (c2, .int), (c3, .int), (c4, .long)] s := hK
  refine va_putF (D := D) (ci := 1) (v := .ref q4) (ty := .array .long) (C := RX1) (T := TX1) (N := 14) hx hb hts usX1 tyX1 tyX1_ok nmX1 hown hK hP hD hS 0 rfl rfl 4 (by decide) (hts _ fl_X1_19) (fun _ h9 => h9) rfl hin rfl (by decide +kernel) rfl rfl (Nat.le_of_ble_eq_true rfl) d_X1_init_34 (fun H locs hP hD hS => ?_)
  have hP : va_P D tdC [(o, .inr (1, [.int 0, .ref q1, .ref q2, .ref q3, .ref q4, .int 0, .null, .null, .null, .null, .int 0, .null, .int 0, .null])), (q1, .inl (c1, 1216, .inl (fun _ => 0))), (q2, .inl (c2, 19, .inl (fun _ => 0))), (q3, .inl (c3, 64, .inl (fun _ => 0))), (q4, .inl (c4, 64, .inr (.inl (fun _ => 0))))] H := hP
  have hD : va_D A [(o, .inr (1, [.int 0, .ref q1, .ref q2, .ref q3, .ref q4, .int 0, .null, .null, .null, .null, .int 0, .null, .int 0, .null])), (q1, .inl (c1, 1216, .inl (fun _ => 0))), (q2, .inl (c2, 19, .inl (fun _ => 0))), (q3, .inl (c3, 64, .inl (fun _ => 0))), (q4, .inl (c4, 64, .inr (.inl (fun _ => 0))))] := hD
  refine lv_aload_n hx hb d_X1_init_37 rfl (lv_at hl 0 rfl) ?_
  refine lv_bipush (v := 19) hx hb d_X1_init_38 (by decide) ?_
  refine va_newa (atype := .int) (a0 := (19, .inl (fun _ => 0))) (N' := 19) hx hb (hts _ ac_int) rfl hK hP hD hS hA (fun _ => rfl) (by decide) (by decide) (by decide) (Nat.le_of_ble_eq_true rfl) (Nat.le_of_ble_eq_true rfl) d_X1_init_40 (fun q6 c6 H hK hP hD hS => ?_)
  have hP : va_P D tdC [(o, .inr (1, [.int 0, .ref q1, .ref q2, .ref q3, .ref q4, .int 0, .null, .null, .null, .null, .int 0, .null, .int 0, .null])), (q1, .inl (c1, 1216, .inl (fun _ => 0))), (q2, .inl (c2, 19, .inl (fun _ => 0))), (q3, .inl (c3, 64, .inl (fun _ => 0))), (q4, .inl (c4, 64, .inr (.inl (fun _ => 0)))), (q6, .inl (c6, 19, .inl (fun _ => 0)))] H := hP
  have hD : va_D A [(o, .inr (1, [.int 0, .ref q1, .ref q2, .ref q3, .ref q4, .int 0, .null, .null, .null, .null, .int 0, .null, .int 0, .null])), (q1, .inl (c1, 1216, .inl (fun _ => 0))), (q2, .inl (c2, 19, .inl (fun _ => 0))), (q3, .inl (c3, 64, .inl (fun _ => 0))), (q4, .inl (c4, 64, .inr (.inl (fun _ => 0)))), (q6, .inl (c6, 19, .inl (fun _ => 0)))] := hD
  have hK : va_K D tdC [(c1, .int), (c2, .int), (c3, .int), (c4, .long), (c6, .int)] s := hK
  refine va_putF (D := D) (ci := 1) (v := .ref q6) (ty := .array .int) (C := RX1) (T := TX1) (N := 14) hx hb hts usX1 tyX1 tyX1_ok nmX1 hown hK hP hD hS 0 rfl rfl 6 (by decide) (hts _ fl_X1_23) (fun _ h9 => h9) rfl hin rfl (by decide +kernel) rfl rfl (Nat.le_of_ble_eq_true rfl) d_X1_init_42 (fun H locs hP hD hS => ?_)
  have hP : va_P D tdC [(o, .inr (1, [.int 0, .ref q1, .ref q2, .ref q3, .ref q4, .int 0, .ref q6, .null, .null, .null, .int 0, .null, .int 0, .null])), (q1, .inl (c1, 1216, .inl (fun _ => 0))), (q2, .inl (c2, 19, .inl (fun _ => 0))), (q3, .inl (c3, 64, .inl (fun _ => 0))), (q4, .inl (c4, 64, .inr (.inl (fun _ => 0)))), (q6, .inl (c6, 19, .inl (fun _ => 0)))] H := hP
  have hD : va_D A [(o, .inr (1, [.int 0, .ref q1, .ref q2, .ref q3, .ref q4, .int 0, .ref q6, .null, .null, .null, .int 0, .null, .int 0, .null])), (q1, .inl (c1, 1216, .inl (fun _ => 0))), (q2, .inl (c2, 19, .inl (fun _ => 0))), (q3, .inl (c3, 64, .inl (fun _ => 0))), (q4, .inl (c4, 64, .inr (.inl (fun _ => 0)))), (q6, .inl (c6, 19, .inl (fun _ => 0)))] := hD
  refine lv_aload_n hx hb d_X1_init_45 rfl (lv_at hl 0 rfl) ?_
  refine lv_bipush (v := 19) hx hb d_X1_init_46 (by decide) ?_
  refine va_newa (atype := .boolean) (a0 := (19, .inl (fun _ => 0))) (N' := 19) hx hb (hts _ ac_boolean) rfl hK hP hD hS hA (fun _ => rfl) (by decide) (by decide) (by decide) (Nat.le_of_ble_eq_true rfl) (Nat.le_of_ble_eq_true rfl) d_X1_init_48 (fun q7 c7 H hK hP hD hS => ?_)
  have hP : va_P D tdC [(o, .inr (1, [.int 0, .ref q1, .ref q2, .ref q3, .ref q4, .int 0, .ref q6, .null, .null, .null, .int 0, .null, .int 0, .null])), (q1, .inl (c1, 1216, .inl (fun _ => 0))), (q2, .inl (c2, 19, .inl (fun _ => 0))), (q3, .inl (c3, 64, .inl (fun _ => 0))), (q4, .inl (c4, 64, .inr (.inl (fun _ => 0)))), (q6, .inl (c6, 19, .inl (fun _ => 0))), (q7, .inl (c7, 19, .inl (fun _ => 0)))] H := hP
  have hD : va_D A [(o, .inr (1, [.int 0, .ref q1, .ref q2, .ref q3, .ref q4, .int 0, .ref q6, .null, .null, .null, .int 0, .null, .int 0, .null])), (q1, .inl (c1, 1216, .inl (fun _ => 0))), (q2, .inl (c2, 19, .inl (fun _ => 0))), (q3, .inl (c3, 64, .inl (fun _ => 0))), (q4, .inl (c4, 64, .inr (.inl (fun _ => 0)))), (q6, .inl (c6, 19, .inl (fun _ => 0))), (q7, .inl (c7, 19, .inl (fun _ => 0)))] := hD
  have hK : va_K D tdC [(c1, .int), (c2, .int), (c3, .int), (c4, .long), (c6, .int), (c7, .boolean)] s := hK
  refine va_putF (D := D) (ci := 1) (v := .ref q7) (ty := .array .boolean) (C := RX1) (T := TX1) (N := 14) hx hb hts usX1 tyX1 tyX1_ok nmX1 hown hK hP hD hS 0 rfl rfl 7 (by decide) (hts _ fl_X1_26) (fun _ h9 => h9) rfl hin rfl (by decide +kernel) rfl rfl (Nat.le_of_ble_eq_true rfl) d_X1_init_50 (fun H locs hP hD hS => ?_)
  have hP : va_P D tdC [(o, .inr (1, [.int 0, .ref q1, .ref q2, .ref q3, .ref q4, .int 0, .ref q6, .ref q7, .null, .null, .int 0, .null, .int 0, .null])), (q1, .inl (c1, 1216, .inl (fun _ => 0))), (q2, .inl (c2, 19, .inl (fun _ => 0))), (q3, .inl (c3, 64, .inl (fun _ => 0))), (q4, .inl (c4, 64, .inr (.inl (fun _ => 0)))), (q6, .inl (c6, 19, .inl (fun _ => 0))), (q7, .inl (c7, 19, .inl (fun _ => 0)))] H := hP
  have hD : va_D A [(o, .inr (1, [.int 0, .ref q1, .ref q2, .ref q3, .ref q4, .int 0, .ref q6, .ref q7, .null, .null, .int 0, .null, .int 0, .null])), (q1, .inl (c1, 1216, .inl (fun _ => 0))), (q2, .inl (c2, 19, .inl (fun _ => 0))), (q3, .inl (c3, 64, .inl (fun _ => 0))), (q4, .inl (c4, 64, .inr (.inl (fun _ => 0)))), (q6, .inl (c6, 19, .inl (fun _ => 0))), (q7, .inl (c7, 19, .inl (fun _ => 0)))] := hD
  refine lv_aload_n hx hb d_X1_init_53 rfl (lv_at hl 0 rfl) ?_
  refine lv_bipush (v := 19) hx hb d_X1_init_54 (by decide) ?_
  refine va_newa (atype := .int) (a0 := (19, .inl (fun _ => 0))) (N' := 19) hx hb (hts _ ac_int) rfl hK hP hD hS hA (fun _ => rfl) (by decide) (by decide) (by decide) (Nat.le_of_ble_eq_true rfl) (Nat.le_of_ble_eq_true rfl) d_X1_init_56 (fun q8 c8 H hK hP hD hS => ?_)
  have hP : va_P D tdC [(o, .inr (1, [.int 0, .ref q1, .ref q2, .ref q3, .ref q4, .int 0, .ref q6, .ref q7, .null, .null, .int 0, .null, .int 0, .null])), (q1, .inl (c1, 1216, .inl (fun _ => 0))), (q2, .inl (c2, 19, .inl (fun _ => 0))), (q3, .inl (c3, 64, .inl (fun _ => 0))), (q4, .inl (c4, 64, .inr (.inl (fun _ => 0)))), (q6, .inl (c6, 19, .inl (fun _ => 0))), (q7, .inl (c7, 19, .inl (fun _ => 0))), (q8, .inl (c8, 19, .inl (fun _ => 0)))] H := hP
  have hD : va_D A [(o, .inr (1, [.int 0, .ref q1, .ref q2, .ref q3, .ref q4, .int 0, .ref q6, .ref q7, .null, .null, .int 0, .null, .int 0, .null])), (q1, .inl (c1, 1216, .inl (fun _ => 0))), (q2, .inl (c2, 19, .inl (fun _ => 0))), (q3, .inl (c3, 64, .inl (fun _ => 0))), (q4, .inl (c4, 64, .inr (.inl (fun _ => 0)))), (q6, .inl (c6, 19, .inl (fun _ => 0))), (q7, .inl (c7, 19, .inl (fun _ => 0))), (q8, .inl (c8, 19, .inl (fun _ => 0)))] := hD
  have hK : va_K D tdC [(c1, .int), (c2, .int), (c3, .int), (c4, .long), (c6, .int), (c7, .boolean), (c8, .int)] s := hK
  refine va_putF (D := D) (ci := 1) (v := .ref q8) (ty := .array .int) (C := RX1) (T := TX1) (N := 14) hx hb hts usX1 tyX1 tyX1_ok nmX1 hown hK hP hD hS 0 rfl rfl 8 (by decide) (hts _ fl_X1_30) (fun _ h9 => h9) rfl hin rfl (by decide +kernel) rfl rfl (Nat.le_of_ble_eq_true rfl) d_X1_init_58 (fun H locs hP hD hS => ?_)
  have hP : va_P D tdC [(o, .inr (1, [.int 0, .ref q1, .ref q2, .ref q3, .ref q4, .int 0, .ref q6, .ref q7, .ref q8, .null, .int 0, .null, .int 0, .null])), (q1, .inl (c1, 1216, .inl (fun _ => 0))), (q2, .inl (c2, 19, .inl (fun _ => 0))), (q3, .inl (c3, 64, .inl (fun _ => 0))), (q4, .inl (c4, 64, .inr (.inl (fun _ => 0)))), (q6, .inl (c6, 19, .inl (fun _ => 0))), (q7, .inl (c7, 19, .inl (fun _ => 0))), (q8, .inl (c8, 19, .inl (fun _ => 0)))] H := hP
  have hD : va_D A [(o, .inr (1, [.int 0, .ref q1, .ref q2, .ref q3, .ref q4, .int 0, .ref q6, .ref q7, .ref q8, .null, .int 0, .null, .int 0, .null])), (q1, .inl (c1, 1216, .inl (fun _ => 0))), (q2, .inl (c2, 19, .inl (fun _ => 0))), (q3, .inl (c3, 64, .inl (fun _ => 0))), (q4, .inl (c4, 64, .inr (.inl (fun _ => 0)))), (q6, .inl (c6, 19, .inl (fun _ => 0))), (q7, .inl (c7, 19, .inl (fun _ => 0))), (q8, .inl (c8, 19, .inl (fun _ => 0)))] := hD
  refine lv_aload_n hx hb d_X1_init_61 rfl (lv_at hl 0 rfl) ?_
  refine lv_bipush (v := 19) hx hb d_X1_init_62 (by decide) ?_
  refine va_newa (atype := .int) (a0 := (19, .inl (fun _ => 0))) (N' := 19) hx hb (hts _ ac_int) rfl hK hP hD hS hA (fun _ => rfl) (by decide) (by decide) (by decide) (Nat.le_of_ble_eq_true rfl) (Nat.le_of_ble_eq_true rfl) d_X1_init_64 (fun q9 c9 H hK hP hD hS => ?_)
  have hP : va_P D tdC [(o, .inr (1, [.int 0, .ref q1, .ref q2, .ref q3, .ref q4, .int 0, .ref q6, .ref q7, .ref q8, .null, .int 0, .null, .int 0, .null])), (q1, .inl (c1, 1216, .inl (fun _ => 0))), (q2, .inl (c2, 19, .inl (fun _ => 0))), (q3, .inl (c3, 64, .inl (fun _ => 0))), (q4, .inl (c4, 64, .inr (.inl (fun _ => 0)))), (q6, .inl (c6, 19, .inl (fun _ => 0))), (q7, .inl (c7, 19, .inl (fun _ => 0))), (q8, .inl (c8, 19, .inl (fun _ => 0))), (q9, .inl (c9, 19, .inl (fun _ => 0)))] H := hP
  have hD : va_D A [(o, .inr (1, [.int 0, .ref q1, .ref q2, .ref q3, .ref q4, .int 0, .ref q6, .ref q7, .ref q8, .null, .int 0, .null, .int 0, .null])), (q1, .inl (c1, 1216, .inl (fun _ => 0))), (q2, .inl (c2, 19, .inl (fun _ => 0))), (q3, .inl (c3, 64, .inl (fun _ => 0))), (q4, .inl (c4, 64, .inr (.inl (fun _ => 0)))), (q6, .inl (c6, 19, .inl (fun _ => 0))), (q7, .inl (c7, 19, .inl (fun _ => 0))), (q8, .inl (c8, 19, .inl (fun _ => 0))), (q9, .inl (c9, 19, .inl (fun _ => 0)))] := hD
  have hK : va_K D tdC [(c1, .int), (c2, .int), (c3, .int), (c4, .long), (c6, .int), (c7, .boolean), (c8, .int), (c9, .int)] s := hK
  refine va_putF (D := D) (ci := 1) (v := .ref q9) (ty := .array .int) (C := RX1) (T := TX1) (N := 14) hx hb hts usX1 tyX1 tyX1_ok nmX1 hown hK hP hD hS 0 rfl rfl 9 (by decide) (hts _ fl_X1_33) (fun _ h9 => h9) rfl hin rfl (by decide +kernel) rfl rfl (Nat.le_of_ble_eq_true rfl) d_X1_init_66 (fun H locs hP hD hS => ?_)
  have hP : va_P D tdC [(o, .inr (1, [.int 0, .ref q1, .ref q2, .ref q3, .ref q4, .int 0, .ref q6, .ref q7, .ref q8, .ref q9, .int 0, .null, .int 0, .null])), (q1, .inl (c1, 1216, .inl (fun _ => 0))), (q2, .inl (c2, 19, .inl (fun _ => 0))), (q3, .inl (c3, 64, .inl (fun _ => 0))), (q4, .inl (c4, 64, .inr (.inl (fun _ => 0)))), (q6, .inl (c6, 19, .inl (fun _ => 0))), (q7, .inl (c7, 19, .inl (fun _ => 0))), (q8, .inl (c8, 19, .inl (fun _ => 0))), (q9, .inl (c9, 19, .inl (fun _ => 0)))] H := hP
  have hD : va_D A [(o, .inr (1, [.int 0, .ref q1, .ref q2, .ref q3, .ref q4, .int 0, .ref q6, .ref q7, .ref q8, .ref q9, .int 0, .null, .int 0, .null])), (q1, .inl (c1, 1216, .inl (fun _ => 0))), (q2, .inl (c2, 19, .inl (fun _ => 0))), (q3, .inl (c3, 64, .inl (fun _ => 0))), (q4, .inl (c4, 64, .inr (.inl (fun _ => 0)))), (q6, .inl (c6, 19, .inl (fun _ => 0))), (q7, .inl (c7, 19, .inl (fun _ => 0))), (q8, .inl (c8, 19, .inl (fun _ => 0))), (q9, .inl (c9, 19, .inl (fun _ => 0)))] := hD
  refine lv_aload_n hx hb d_X1_init_69 rfl (lv_at hl 0 rfl) ?_
  refine lv_bipush (v := 64) hx hb d_X1_init_70 (by decide) ?_
  refine va_newa (atype := .int) (a0 := (64, .inl (fun _ => 0))) (N' := 64) hx hb (hts _ ac_int) rfl hK hP hD hS hA (fun _ => rfl) (by decide) (by decide) (by decide) (Nat.le_of_ble_eq_true rfl) (Nat.le_of_ble_eq_true rfl) d_X1_init_72 (fun q11 c11 H hK hP hD hS => ?_)
  have hP : va_P D tdC [(o, .inr (1, [.int 0, .ref q1, .ref q2, .ref q3, .ref q4, .int 0, .ref q6, .ref q7, .ref q8, .ref q9, .int 0, .null, .int 0, .null])), (q1, .inl (c1, 1216, .inl (fun _ => 0))), (q2, .inl (c2, 19, .inl (fun _ => 0))), (q3, .inl (c3, 64, .inl (fun _ => 0))), (q4, .inl (c4, 64, .inr (.inl (fun _ => 0)))), (q6, .inl (c6, 19, .inl (fun _ => 0))), (q7, .inl (c7, 19, .inl (fun _ => 0))), (q8, .inl (c8, 19, .inl (fun _ => 0))), (q9, .inl (c9, 19, .inl (fun _ => 0))), (q11, .inl (c11, 64, .inl (fun _ => 0)))] H := hP
  have hD : va_D A [(o, .inr (1, [.int 0, .ref q1, .ref q2, .ref q3, .ref q4, .int 0, .ref q6, .ref q7, .ref q8, .ref q9, .int 0, .null, .int 0, .null])), (q1, .inl (c1, 1216, .inl (fun _ => 0))), (q2, .inl (c2, 19, .inl (fun _ => 0))), (q3, .inl (c3, 64, .inl (fun _ => 0))), (q4, .inl (c4, 64, .inr (.inl (fun _ => 0)))), (q6, .inl (c6, 19, .inl (fun _ => 0))), (q7, .inl (c7, 19, .inl (fun _ => 0))), (q8, .inl (c8, 19, .inl (fun _ => 0))), (q9, .inl (c9, 19, .inl (fun _ => 0))), (q11, .inl (c11, 64, .inl (fun _ => 0)))] := hD
  have hK : va_K D tdC [(c1, .int), (c2, .int), (c3, .int), (c4, .long), (c6, .int), (c7, .boolean), (c8, .int), (c9, .int), (c11, .int)] s := hK
  refine va_putF (D := D) (ci := 1) (v := .ref q11) (ty := .array .int) (C := RX1) (T := TX1) (N := 14) hx hb hts usX1 tyX1 tyX1_ok nmX1 hown hK hP hD hS 0 rfl rfl 11 (by decide) (hts _ fl_X1_36) (fun _ h9 => h9) rfl hin rfl (by decide +kernel) rfl rfl (Nat.le_of_ble_eq_true rfl) d_X1_init_74 (fun H locs hP hD hS => ?_)
  have hP : va_P D tdC [(o, .inr (1, [.int 0, .ref q1, .ref q2, .ref q3, .ref q4, .int 0, .ref q6, .ref q7, .ref q8, .ref q9, .int 0, .ref q11, .int 0, .null])), (q1, .inl (c1, 1216, .inl (fun _ => 0))), (q2, .inl (c2, 19, .inl (fun _ => 0))), (q3, .inl (c3, 64, .inl (fun _ => 0))), (q4, .inl (c4, 64, .inr (.inl (fun _ => 0)))), (q6, .inl (c6, 19, .inl (fun _ => 0))), (q7, .inl (c7, 19, .inl (fun _ => 0))), (q8, .inl (c8, 19, .inl (fun _ => 0))), (q9, .inl (c9, 19, .inl (fun _ => 0))), (q11, .inl (c11, 64, .inl (fun _ => 0)))] H := hP
  have hD : va_D A [(o, .inr (1, [.int 0, .ref q1, .ref q2, .ref q3, .ref q4, .int 0, .ref q6, .ref q7, .ref q8, .ref q9, .int 0, .ref q11, .int 0, .null])), (q1, .inl (c1, 1216, .inl (fun _ => 0))), (q2, .inl (c2, 19, .inl (fun _ => 0))), (q3, .inl (c3, 64, .inl (fun _ => 0))), (q4, .inl (c4, 64, .inr (.inl (fun _ => 0)))), (q6, .inl (c6, 19, .inl (fun _ => 0))), (q7, .inl (c7, 19, .inl (fun _ => 0))), (q8, .inl (c8, 19, .inl (fun _ => 0))), (q9, .inl (c9, 19, .inl (fun _ => 0))), (q11, .inl (c11, 64, .inl (fun _ => 0)))] := hD
  refine lv_aload_n hx hb d_X1_init_77 rfl (lv_at hl 0 rfl) ?_
  refine lv_bipush (v := 64) hx hb d_X1_init_78 (by decide) ?_
  refine va_newa (atype := .int) (a0 := (64, .inl (fun _ => 0))) (N' := 64) hx hb (hts _ ac_int) rfl hK hP hD hS hA (fun _ => rfl) (by decide) (by decide) (by decide) (Nat.le_of_ble_eq_true rfl) (Nat.le_of_ble_eq_true rfl) d_X1_init_80 (fun q13 c13 H hK hP hD hS => ?_)
  have hP : va_P D tdC [(o, .inr (1, [.int 0, .ref q1, .ref q2, .ref q3, .ref q4, .int 0, .ref q6, .ref q7, .ref q8, .ref q9, .int 0, .ref q11, .int 0, .null])), (q1, .inl (c1, 1216, .inl (fun _ => 0))), (q2, .inl (c2, 19, .inl (fun _ => 0))), (q3, .inl (c3, 64, .inl (fun _ => 0))), (q4, .inl (c4, 64, .inr (.inl (fun _ => 0)))), (q6, .inl (c6, 19, .inl (fun _ => 0))), (q7, .inl (c7, 19, .inl (fun _ => 0))), (q8, .inl (c8, 19, .inl (fun _ => 0))), (q9, .inl (c9, 19, .inl (fun _ => 0))), (q11, .inl (c11, 64, .inl (fun _ => 0))), (q13, .inl (c13, 64, .inl (fun _ => 0)))] H := hP
  have hD : va_D A [(o, .inr (1, [.int 0, .ref q1, .ref q2, .ref q3, .ref q4, .int 0, .ref q6, .ref q7, .ref q8, .ref q9, .int 0, .ref q11, .int 0, .null])), (q1, .inl (c1, 1216, .inl (fun _ => 0))), (q2, .inl (c2, 19, .inl (fun _ => 0))), (q3, .inl (c3, 64, .inl (fun _ => 0))), (q4, .inl (c4, 64, .inr (.inl (fun _ => 0)))), (q6, .inl (c6, 19, .inl (fun _ => 0))), (q7, .inl (c7, 19, .inl (fun _ => 0))), (q8, .inl (c8, 19, .inl (fun _ => 0))), (q9, .inl (c9, 19, .inl (fun _ => 0))), (q11, .inl (c11, 64, .inl (fun _ => 0))), (q13, .inl (c13, 64, .inl (fun _ => 0)))] := hD
  have hK : va_K D tdC [(c1, .int), (c2, .int), (c3, .int), (c4, .long), (c6, .int), (c7, .boolean), (c8, .int), (c9, .int), (c11, .int), (c13, .int)] s := hK
  refine va_putF (D := D) (ci := 1) (v := .ref q13) (ty := .array .int) (C := RX1) (T := TX1) (N := 14) hx hb hts usX1 tyX1 tyX1_ok nmX1 hown hK hP hD hS 0 rfl rfl 13 (by decide) (hts _ fl_X1_39) (fun _ h9 => h9) rfl hin rfl (by decide +kernel) rfl rfl (Nat.le_of_ble_eq_true rfl) d_X1_init_82 (fun H locs hP hD hS => ?_)
  have hP : va_P D tdC [(o, .inr (1, [.int 0, .ref q1, .ref q2, .ref q3, .ref q4, .int 0, .ref q6, .ref q7, .ref q8, .ref q9, .int 0, .ref q11, .int 0, .ref q13])), (q1, .inl (c1, 1216, .inl (fun _ => 0))), (q2, .inl (c2, 19, .inl (fun _ => 0))), (q3, .inl (c3, 64, .inl (fun _ => 0))), (q4, .inl (c4, 64, .inr (.inl (fun _ => 0)))), (q6, .inl (c6, 19, .inl (fun _ => 0))), (q7, .inl (c7, 19, .inl (fun _ => 0))), (q8, .inl (c8, 19, .inl (fun _ => 0))), (q9, .inl (c9, 19, .inl (fun _ => 0))), (q11, .inl (c11, 64, .inl (fun _ => 0))), (q13, .inl (c13, 64, .inl (fun _ => 0)))] H := hP
  have hD : va_D A [(o, .inr (1, [.int 0, .ref q1, .ref q2, .ref q3, .ref q4, .int 0, .ref q6, .ref q7, .ref q8, .ref q9, .int 0, .ref q11, .int 0, .ref q13])), (q1, .inl (c1, 1216, .inl (fun _ => 0))), (q2, .inl (c2, 19, .inl (fun _ => 0))), (q3, .inl (c3, 64, .inl (fun _ => 0))), (q4, .inl (c4, 64, .inr (.inl (fun _ => 0)))), (q6, .inl (c6, 19, .inl (fun _ => 0))), (q7, .inl (c7, 19, .inl (fun _ => 0))), (q8, .inl (c8, 19, .inl (fun _ => 0))), (q9, .inl (c9, 19, .inl (fun _ => 0))), (q11, .inl (c11, 64, .inl (fun _ => 0))), (q13, .inl (c13, 64, .inl (fun _ => 0)))] := hD
  have hc2 : c2 = c1 := by
    have h1 := (hK.2 0 (c1, .int) rfl).2
    have h3 := (hK.2 1 (c2, .int) rfl).2
    exact Option.some.inj (h3.symm.trans h1)
  have hc3 : c3 = c1 := by
    have h1 := (hK.2 0 (c1, .int) rfl).2
    have h3 := (hK.2 2 (c3, .int) rfl).2
    exact Option.some.inj (h3.symm.trans h1)
  have hc6 : c6 = c1 := by
    have h1 := (hK.2 0 (c1, .int) rfl).2
    have h3 := (hK.2 4 (c6, .int) rfl).2
    exact Option.some.inj (h3.symm.trans h1)
  have hc8 : c8 = c1 := by
    have h1 := (hK.2 0 (c1, .int) rfl).2
    have h3 := (hK.2 6 (c8, .int) rfl).2
    exact Option.some.inj (h3.symm.trans h1)
  have hc9 : c9 = c1 := by
    have h1 := (hK.2 0 (c1, .int) rfl).2
    have h3 := (hK.2 7 (c9, .int) rfl).2
    exact Option.some.inj (h3.symm.trans h1)
  have hc11 : c11 = c1 := by
    have h1 := (hK.2 0 (c1, .int) rfl).2
    have h3 := (hK.2 8 (c11, .int) rfl).2
    exact Option.some.inj (h3.symm.trans h1)
  have hc13 : c13 = c1 := by
    have h1 := (hK.2 0 (c1, .int) rfl).2
    have h3 := (hK.2 9 (c13, .int) rfl).2
    exact Option.some.inj (h3.symm.trans h1)
  rw [hc2, hc3, hc6, hc8, hc9, hc11, hc13] at hP hD
  have hK := hK.sub (tys' := [(c1, .int), (c4, .long), (c7, .boolean)]) [0, 3, 5] rfl
  obtain ⟨qq, hqq⟩ : ∃ f : Nat → Nat, f = (fun k => match k with | 1 => q1 | 2 => q2 | 3 => q3 | 4 => q4 | 6 => q6 | 7 => q7 | 8 => q8 | 9 => q9 | 11 => q11 | 13 => q13 | _ => 0) := ⟨_, rfl⟩
  have e1 : q1 = qq 1 := by subst hqq; rfl
  have e2 : q2 = qq 2 := by subst hqq; rfl
  have e3 : q3 = qq 3 := by subst hqq; rfl
  have e4 : q4 = qq 4 := by subst hqq; rfl
  have e6 : q6 = qq 6 := by subst hqq; rfl
  have e7 : q7 = qq 7 := by subst hqq; rfl
  have e8 : q8 = qq 8 := by subst hqq; rfl
  have e9 : q9 = qq 9 := by subst hqq; rfl
  have e11 : q11 = qq 11 := by subst hqq; rfl
  have e13 : q13 = qq 13 := by subst hqq; rfl
  clear hqq
  subst e1 e2 e3 e4 e6 e7 e8 e9 e11 e13
  have hP : va_P D tdC [(o, .inr (1, [.int 0, .ref (qq 1), .ref (qq 2), .ref (qq 3), .ref (qq 4), .int 0, .ref (qq 6), .ref (qq 7), .ref (qq 8), .ref (qq 9), .int 0, .ref (qq 11), .int 0, .ref (qq 13)])), ((qq 1), .inl (c1, 1216, .inl (fun _ => 0))), ((qq 2), .inl (c1, 19, .inl (fun _ => 0))), ((qq 3), .inl (c1, 64, .inl (fun _ => 0))), ((qq 4), .inl (c4, 64, .inr (.inl (fun _ => 0)))), ((qq 6), .inl (c1, 19, .inl (fun _ => 0))), ((qq 7), .inl (c7, 19, .inl (fun _ => 0))), ((qq 8), .inl (c1, 19, .inl (fun _ => 0))), ((qq 9), .inl (c1, 19, .inl (fun _ => 0))), ((qq 11), .inl (c1, 64, .inl (fun _ => 0))), ((qq 13), .inl (c1, 64, .inl (fun _ => 0)))] H := hP
  have hD : va_D A [(o, .inr (1, [.int 0, .ref (qq 1), .ref (qq 2), .ref (qq 3), .ref (qq 4), .int 0, .ref (qq 6), .ref (qq 7), .ref (qq 8), .ref (qq 9), .int 0, .ref (qq 11), .int 0, .ref (qq 13)])), ((qq 1), .inl (c1, 1216, .inl (fun _ => 0))), ((qq 2), .inl (c1, 19, .inl (fun _ => 0))), ((qq 3), .inl (c1, 64, .inl (fun _ => 0))), ((qq 4), .inl (c4, 64, .inr (.inl (fun _ => 0)))), ((qq 6), .inl (c1, 19, .inl (fun _ => 0))), ((qq 7), .inl (c7, 19, .inl (fun _ => 0))), ((qq 8), .inl (c1, 19, .inl (fun _ => 0))), ((qq 9), .inl (c1, 19, .inl (fun _ => 0))), ((qq 11), .inl (c1, 64, .inl (fun _ => 0))), ((qq 13), .inl (c1, 64, .inl (fun _ => 0)))] := hD
  refine lv_aload_n hx hb d_X1_init_85 rfl (lv_at hl 0 rfl) ?_
  have hPc := hP.sub (ws' := [(o, .inr (1, [.int 0, .ref (qq 1), .ref (qq 2), .ref (qq 3), .ref (qq 4), .int 0, .ref (qq 6), .ref (qq 7), .ref (qq 8), .ref (qq 9), .int 0, .ref (qq 11), .int 0, .ref (qq 13)])), ((qq 1), .inl (c1, 1216, .inl (fun _ => 0))), ((qq 2), .inl (c1, 19, .inl (fun _ => 0)))]) [0, 1, 2] rfl
  have hDc := hD.sub (ws' := [(o, .inr (1, [.int 0, .ref (qq 1), .ref (qq 2), .ref (qq 3), .ref (qq 4), .int 0, .ref (qq 6), .ref (qq 7), .ref (qq 8), .ref (qq 9), .int 0, .ref (qq 11), .int 0, .ref (qq 13)])), ((qq 1), .inl (c1, 1216, .inl (fun _ => 0))), ((qq 2), .inl (c1, 19, .inl (fun _ => 0)))]) [0, 1, 2] (by decide) rfl
  have hKc := hK.sub (tys' := [(c1, .int)]) [0] rfl
  have hFc := va_free (wc := [(o, .inr (1, [.int 0, .ref (qq 1), .ref (qq 2), .ref (qq 3), .ref (qq 4), .int 0, .ref (qq 6), .ref (qq 7), .ref (qq 8), .ref (qq 9), .int 0, .ref (qq 11), .int 0, .ref (qq 13)])), ((qq 1), .inl (c1, 1216, .inl (fun _ => 0))), ((qq 2), .inl (c1, 19, .inl (fun _ => 0)))]) hD hS hA [0, 1, 2] rfl
  refine va_callv (va_runV (b := o) (C := RX1) (As := []) (rest := []) ⟨hx, hb, hml, hown, hts⟩ (m_X1_lay l D _ o qq 0 0 0 0 c1 (fun _ => 0) (fun _ => 0)) (cwV 0 hts (tw_V ml_X1_42 im_X1_lay se_X1_lay in_X1 kw_X1_lay) rfl rfl rfl (by decide +kernel) ⟨Nat.le_of_ble_eq_true rfl, Nat.le_of_ble_eq_true rfl⟩) ⟨fun a U g mk q => ⟨q.1, q.2.1, q.2.2.1, va_K.moved (u := U) (U := U.calling g mk a) (Vm.Alike.refl U.vm) q.2.2.2.1, q.2.2.2.2⟩, va_recv (q0 := 0) (ci := 1) hK hP rfl rfl, fun U hU hW => ⟨rfl, by rw [hU], by rw [hU]; exact hPc, va_K.moved hW.alike hKc, hDc.weaken (fun _ _ _ _ => trivial)⟩⟩ rfl rfl hl.1 rfl (lv_room (Nat.le_of_ble_eq_true rfl)) d_X1_init_86 ⟨Nat.le_of_ble_eq_true rfl, Nat.le_of_ble_eq_true rfl⟩) hS (fun q _ h => hFc q h) hFc (fun u0 t0 H1 locs ht hvm hq hB hz1 hk1 hS => ?_)
  obtain ⟨hP1, hK1, hD1⟩ := hB
  rw [ht] at hP1
  obtain ⟨hP, hD⟩ := va_join (wr := [((qq 3), .inl (c1, 64, .inl (fun _ => 0))), ((qq 4), .inl (c4, 64, .inr (.inl (fun _ => 0)))), ((qq 6), .inl (c1, 19, .inl (fun _ => 0))), ((qq 7), .inl (c7, 19, .inl (fun _ => 0))), ((qq 8), .inl (c1, 19, .inl (fun _ => 0))), ((qq 9), .inl (c1, 19, .inl (fun _ => 0))), ((qq 11), .inl (c1, 64, .inl (fun _ => 0))), ((qq 13), .inl (c1, 64, .inl (fun _ => 0)))]) (w1 := [(o, .inr (1, [.int 0, .ref (qq 1), .ref (qq 2), .ref (qq 3), .ref (qq 4), .int 0, .ref (qq 6), .ref (qq 7), .ref (qq 8), .ref (qq 9), .int 0, .ref (qq 11), .int 0, .ref (qq 13)])), ((qq 1), .inl (c1, 1216, .inl (td_laid (fun _ => 0)))), ((qq 2), .inl (c1, 19, .inl (upd (fun _ => 0) 0 0)))]) hP hD [0, 1, 2] [3, 4, 5, 6, 7, 8, 9, 10] rfl rfl (by decide) (by decide) hk1 hFc hP1 hD1
  clear hPc hDc hKc hFc hP1 hK1 hD1 hk1 hz1
  have hP := hP.sub (ws' := [(o, .inr (1, [.int 0, .ref (qq 1), .ref (qq 2), .ref (qq 3), .ref (qq 4), .int 0, .ref (qq 6), .ref (qq 7), .ref (qq 8), .ref (qq 9), .int 0, .ref (qq 11), .int 0, .ref (qq 13)])), ((qq 1), .inl (c1, 1216, .inl (td_laid (fun _ => 0)))), ((qq 2), .inl (c1, 19, .inl (upd (fun _ => 0) 0 0))), ((qq 3), .inl (c1, 64, .inl (fun _ => 0))), ((qq 4), .inl (c4, 64, .inr (.inl (fun _ => 0)))), ((qq 6), .inl (c1, 19, .inl (fun _ => 0))), ((qq 7), .inl (c7, 19, .inl (fun _ => 0))), ((qq 8), .inl (c1, 19, .inl (fun _ => 0))), ((qq 9), .inl (c1, 19, .inl (fun _ => 0))), ((qq 11), .inl (c1, 64, .inl (fun _ => 0))), ((qq 13), .inl (c1, 64, .inl (fun _ => 0)))]) [8, 9, 10, 0, 1, 2, 3, 4, 5, 6, 7] rfl
  have hD := hD.sub (ws' := [(o, .inr (1, [.int 0, .ref (qq 1), .ref (qq 2), .ref (qq 3), .ref (qq 4), .int 0, .ref (qq 6), .ref (qq 7), .ref (qq 8), .ref (qq 9), .int 0, .ref (qq 11), .int 0, .ref (qq 13)])), ((qq 1), .inl (c1, 1216, .inl (td_laid (fun _ => 0)))), ((qq 2), .inl (c1, 19, .inl (upd (fun _ => 0) 0 0))), ((qq 3), .inl (c1, 64, .inl (fun _ => 0))), ((qq 4), .inl (c4, 64, .inr (.inl (fun _ => 0)))), ((qq 6), .inl (c1, 19, .inl (fun _ => 0))), ((qq 7), .inl (c7, 19, .inl (fun _ => 0))), ((qq 8), .inl (c1, 19, .inl (fun _ => 0))), ((qq 9), .inl (c1, 19, .inl (fun _ => 0))), ((qq 11), .inl (c1, 64, .inl (fun _ => 0))), ((qq 13), .inl (c1, 64, .inl (fun _ => 0)))]) [8, 9, 10, 0, 1, 2, 3, 4, 5, 6, 7] (by decide) rfl
  clear ht hvm
  generalize H1 = H at hP hS ⊢
  exact W.vret hx hb hr (fun t ht hW => ⟨⟨(qq, c1, c4, c7), rfl, trivial, by rw [ht]; exact hP, va_K.moved hW.alike hK, hD⟩, hS.F ht⟩) hS.2.2 d_X1_init_89
