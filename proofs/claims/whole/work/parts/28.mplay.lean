/-! play and back of the reference -/
def td_can (M : tdM) (q0 : Int32) : Bool := if ¬ q0 < 0 ∧ q0 < 64 then decide (td_fl (td_lv M.1 0) (M.2.1 0) q0.toNatClampNeg ≠ 0) else decide (q0 = 64 ∧ td_mv (td_lv M.1 0) (M.2.1 0) = 0 ∧ 0 < td_mv (td_lv M.1 0) (1 - M.2.1 0))
def td_pt (M : tdM) (q0 : Int32) : Int32 := if td_can M q0 = false then 1 else if M.2.2.2.2 = 64 then 2 else 0
def td_bt (M : tdM) : Int32 := if M.2.2.2.2 = 0 then 1 else 0
set_option maxHeartbeats 4000000 in
set_option maxRecDepth 100000 in
theorem m_X1_play (l : Launch) (D : va_G) (sz : Nat) (o : Nat) (q : Nat → Nat) (th ch sc : Int32) (cI cJ : ClassId) (M : tdM) (hk : M.2.2.2.2 ≤ 64) (q0 : Int32) : Met l y_X1_play (k_X1_play :: tw) ({ frames := 5, cells := 0, slots := 0, locals := 124 }) (va_Pc [.ref o, .int q0] (fun U => U.heap.size = sz ∧ va_P D tdC [(o, .inr (1, [.int th, .ref (q 1), .ref (q 2), .ref (q 3), .ref (q 4), .int (nI M.2.2.2.2), .ref (q 6), .ref (q 7), .ref (q 8), .ref (q 9), .int ch, .ref (q 11), .int sc, .ref (q 13)])), ((q 1), .inl (cI, 1216, .inl M.1)), ((q 2), .inl (cI, 19, .inl M.2.1)), ((q 3), .inl (cI, 64, .inl M.2.2.1)), ((q 4), .inl (cJ, 64, .inr (.inl M.2.2.2.1)))] U.heap ∧ va_K D tdC [(cI, .int), (cJ, .long)] U ∧ va_D (fun _ => True) [(o, .inr (1, [.int th, .ref (q 1), .ref (q 2), .ref (q 3), .ref (q 4), .int (nI M.2.2.2.2), .ref (q 6), .ref (q 7), .ref (q 8), .ref (q 9), .int ch, .ref (q 11), .int sc, .ref (q 13)])), ((q 1), .inl (cI, 1216, .inl M.1)), ((q 2), .inl (cI, 19, .inl M.2.1)), ((q 3), .inl (cI, 64, .inl M.2.2.1)), ((q 4), .inl (cJ, 64, .inr (.inl M.2.2.2.1)))])) (va_Qi (fun (r : Int32) (_ : Unit) => td_pt M q0 = 0 → r = nI (td_ones (td_pset M q0.toNatClampNeg))) (fun (_ : Unit) t => va_P D tdC [(o, .inr (1, [.int (td_pt M q0), .ref (q 1), .ref (q 2), .ref (q 3), .ref (q 4), .int (nI (if td_pt M q0 = 0 then td_put M q0.toNatClampNeg else M).2.2.2.2), .ref (q 6), .ref (q 7), .ref (q 8), .ref (q 9), .int ch, .ref (q 11), .int sc, .ref (q 13)])), ((q 1), .inl (cI, 1216, .inl ((if td_pt M q0 = 0 then td_put M q0.toNatClampNeg else M).1))), ((q 2), .inl (cI, 19, .inl ((if td_pt M q0 = 0 then td_put M q0.toNatClampNeg else M).2.1))), ((q 3), .inl (cI, 64, .inl ((if td_pt M q0 = 0 then td_put M q0.toNatClampNeg else M).2.2.1))), ((q 4), .inl (cJ, 64, .inr (.inl ((if td_pt M q0 = 0 then td_put M q0.toNatClampNeg else M).2.2.2.1))))] t.heap ∧ va_K D tdC [(cI, .int), (cJ, .long)] t ∧ va_D (va_A [(o, .inr (1, [.int th, .ref (q 1), .ref (q 2), .ref (q 3), .ref (q 4), .int (nI M.2.2.2.2), .ref (q 6), .ref (q 7), .ref (q 8), .ref (q 9), .int ch, .ref (q 11), .int sc, .ref (q 13)])), ((q 1), .inl (cI, 1216, .inl M.1)), ((q 2), .inl (cI, 19, .inl M.2.1)), ((q 3), .inl (cI, 64, .inl M.2.2.1)), ((q 4), .inl (cJ, 64, .inr (.inl M.2.2.2.1)))] sz) [(o, .inr (1, [.int (td_pt M q0), .ref (q 1), .ref (q 2), .ref (q 3), .ref (q 4), .int (nI (if td_pt M q0 = 0 then td_put M q0.toNatClampNeg else M).2.2.2.2), .ref (q 6), .ref (q 7), .ref (q 8), .ref (q 9), .int ch, .ref (q 11), .int sc, .ref (q 13)])), ((q 1), .inl (cI, 1216, .inl ((if td_pt M q0 = 0 then td_put M q0.toNatClampNeg else M).1))), ((q 2), .inl (cI, 19, .inl ((if td_pt M q0 = 0 then td_put M q0.toNatClampNeg else M).2.1))), ((q 3), .inl (cI, 64, .inl ((if td_pt M q0 = 0 then td_put M q0.toNatClampNeg else M).2.2.1))), ((q 4), .inl (cJ, 64, .inr (.inl ((if td_pt M q0 = 0 then td_put M q0.toNatClampNeg else M).2.2.2.1))))]) (va_A [(o, .inr (1, [.int th, .ref (q 1), .ref (q 2), .ref (q 3), .ref (q 4), .int (nI M.2.2.2.2), .ref (q 6), .ref (q 7), .ref (q 8), .ref (q 9), .int ch, .ref (q 11), .int sc, .ref (q 13)])), ((q 1), .inl (cI, 1216, .inl M.1)), ((q 2), .inl (cI, 19, .inl M.2.1)), ((q 3), .inl (cI, 64, .inl M.2.2.1)), ((q 4), .inl (cJ, 64, .inr (.inl M.2.2.2.1)))] sz)) 0 0 (va_A [(o, .inr (1, [.int th, .ref (q 1), .ref (q 2), .ref (q 3), .ref (q 4), .int (nI M.2.2.2.2), .ref (q 6), .ref (q 7), .ref (q 8), .ref (q 9), .int ch, .ref (q 11), .int sc, .ref (q 13)])), ((q 1), .inl (cI, 1216, .inl M.1)), ((q 2), .inl (cI, 19, .inl M.2.1)), ((q 3), .inl (cI, 64, .inl M.2.2.1)), ((q 4), .inl (cJ, 64, .inr (.inl M.2.2.2.1)))] sz) := by
  refine Met.ofW (cc := c_X1_play) (maxL := 3) (ret := (some .int)) (by decide) rfl ?_
  intro p e s m args below meth c s₁ B hml hv
  obtain ⟨rfl, hsz, hP, hK, hD0⟩ := hv
  have hx := B.exec
  have hb := B.bytes
  have hr := B.returns
  have hts : ∀ w ∈ tw, w.before _ s = true := fun w h => atoms_spec (ws := k_X1_play :: tw) B.pre w (List.mem_cons_of_mem _ h)
  have hown : s.vm.findClass RX1 = some m.cls := findClass_of_methodNamed B.named
  have hlocks := B.notSynchronized
  subst hsz
  have hD := hD0.self (sz := s.heap.size)
  generalize hAe : va_A [(o, .inr (1, [.int th, .ref (q 1), .ref (q 2), .ref (q 3), .ref (q 4), .int (nI M.2.2.2.2), .ref (q 6), .ref (q 7), .ref (q 8), .ref (q 9), .int ch, .ref (q 11), .int sc, .ref (q 13)])), ((q 1), .inl (cI, 1216, .inl M.1)), ((q 2), .inl (cI, 19, .inl M.2.1)), ((q 3), .inl (cI, 64, .inl M.2.2.1)), ((q 4), .inl (cJ, 64, .inr (.inl M.2.2.2.1)))] s.heap.size = A at hD ⊢
  have hA : ∀ q : Nat, s.heap.size ≤ q → A q := fun q h => by rw [← hAe]; exact Or.inr h
  have hS : va_S A s.heap s.heap [] := va_S.rf
  have hP : va_P D tdC [(o, .inr (1, [.int th, .ref (q 1), .ref (q 2), .ref (q 3), .ref (q 4), .int (nI M.2.2.2.2), .ref (q 6), .ref (q 7), .ref (q 8), .ref (q 9), .int ch, .ref (q 11), .int sc, .ref (q 13)])), ((q 1), .inl (cI, 1216, .inl M.1)), ((q 2), .inl (cI, 19, .inl M.2.1)), ((q 3), .inl (cI, 64, .inl M.2.2.1)), ((q 4), .inl (cJ, 64, .inr (.inl M.2.2.2.1)))] s.heap := hP
  have hl := lv_entry ([.ref o, .int q0]) (n := 3) (Nat.le_of_ble_eq_true rfl)
  rw [lg_entry_eq]
  generalize (lg_sl ([.ref o, .int q0]) ++ List.replicate (3 - (lg_sl ([.ref o, .int q0])).length) Slot.unset).toArray = ls at hl ⊢
  have hl : lv_has ls 3 [(0, .ref o), (1, .int q0)] := hl
  have hP2 := hP.sub (ws' := [(o, .inr (1, [.int th, .ref (q 1), .ref (q 2), .ref (q 3), .ref (q 4), .int (nI M.2.2.2.2), .ref (q 6), .ref (q 7), .ref (q 8), .ref (q 9), .int ch, .ref (q 11), .int sc, .ref (q 13)])), ((q 1), .inl (cI, 1216, .inl M.1))]) [0, 1] rfl
  have hP3 := hP.sub (ws' := [(o, .inr (1, [.int th, .ref (q 1), .ref (q 2), .ref (q 3), .ref (q 4), .int (nI M.2.2.2.2), .ref (q 6), .ref (q 7), .ref (q 8), .ref (q 9), .int ch, .ref (q 11), .int sc, .ref (q 13)])), ((q 1), .inl (cI, 1216, .inl M.1)), ((q 2), .inl (cI, 19, .inl M.2.1))]) [0, 1, 2] rfl
  have hK2 := hK.sub (tys' := [(cI, .int)]) [0] rfl
  refine td_joini 54 ls [] (fun x => (td_can M q0 = true ∧ x = 1) ∨ (td_can M q0 = false ∧ x = 0)) (fun x ex => ?_) (fun J => ?_)
  · refine lv_istore_n hx hb d_X1_play_54 rfl hl (by decide) rfl (fun ls hl => ?_)
    have hl : lv_has ls 3 [(2, .int x), (0, .ref o), (1, .int q0)] := hl
    refine lv_aload_n hx hb d_X1_play_55 rfl (lv_at hl 1 rfl) ?_
    refine td_joini 78 ls [.ref o] (fun y => y = td_pt M q0) (fun y ey => ?_) (fun J => ?_)
    · subst ey
      refine va_put (D := D) (ci := 1) (v := .int (td_pt M q0)) (ty := .int) (C := RX1) (T := TX1) (N := 14) hx hb hts usX1 tyX1 tyX1_ok nmX1 hown hK hP hD hS 0 rfl rfl 0 (by decide) (hts _ fl_X1_45) (fun _ h9 => h9) rfl (by decide +kernel) rfl rfl (Nat.le_of_ble_eq_true rfl) d_X1_play_78 (fun H locs hP hD hS => ?_)
      have hP : va_P D tdC [(o, .inr (1, [.int (td_pt M q0), .ref (q 1), .ref (q 2), .ref (q 3), .ref (q 4), .int (nI M.2.2.2.2), .ref (q 6), .ref (q 7), .ref (q 8), .ref (q 9), .int ch, .ref (q 11), .int sc, .ref (q 13)])), ((q 1), .inl (cI, 1216, .inl M.1)), ((q 2), .inl (cI, 19, .inl M.2.1)), ((q 3), .inl (cI, 64, .inl M.2.2.1)), ((q 4), .inl (cJ, 64, .inr (.inl M.2.2.2.1)))] H := hP
      have hD : va_D A [(o, .inr (1, [.int (td_pt M q0), .ref (q 1), .ref (q 2), .ref (q 3), .ref (q 4), .int (nI M.2.2.2.2), .ref (q 6), .ref (q 7), .ref (q 8), .ref (q 9), .int ch, .ref (q 11), .int sc, .ref (q 13)])), ((q 1), .inl (cI, 1216, .inl M.1)), ((q 2), .inl (cI, 19, .inl M.2.1)), ((q 3), .inl (cI, 64, .inl M.2.2.1)), ((q 4), .inl (cJ, 64, .inr (.inl M.2.2.2.1)))] := hD
      refine lv_aload_n hx hb d_X1_play_81 rfl (lv_at hl 1 rfl) ?_
      refine va_get (D := D) (ci := 1) (v := .int (td_pt M q0)) (C := RX1) (T := TX1) (N := 14) hx hb hts usX1 hown hK hP 0 rfl rfl 0 (by decide) (hts _ fl_X1_45) (fun _ h9 => h9) rfl d_X1_play_82 ?_
      refine lv_if_le (tgt := 92) hx hb d_X1_play_85 (by decide) (fun h0 => ?_) (fun h0 => ?_)
      · have hbz : td_pt M q0 = 0 := by
          unfold td_pt at h0 ⊢
          by_cases h1 : td_can M q0 = false
          · rw [if_pos h1] at h0; exact absurd h0 (by decide)
          · rw [if_neg h1] at h0 ⊢
            by_cases h2 : M.2.2.2.2 = 64
            · rw [if_pos h2] at h0; exact absurd h0 (by decide)
            · rw [if_neg h2]
        have hk4 : M.2.2.2.2 < 64 := by
          by_cases h2 : M.2.2.2.2 = 64
          · unfold td_pt at hbz
            by_cases h1 : td_can M q0 = false
            · rw [if_pos h1] at hbz; exact absurd hbz (by decide)
            · rw [if_neg h1, if_pos h2] at hbz; exact absurd hbz (by decide)
          · omega
        obtain ⟨s0, hs0, es0⟩ : ∃ s0 : Nat, s0 ≤ 64 ∧ q0 = nI s0 := by
          have hcan : td_can M q0 = true := by
            by_cases h1 : td_can M q0 = false
            · unfold td_pt at hbz; rw [if_pos h1] at hbz; exact absurd hbz (by decide)
            · exact Bool.not_eq_false _ ▸ h1
          by_cases hin : ¬ q0 < 0 ∧ q0 < 64
          · obtain ⟨j, hj, ej⟩ := nI_of2 (n := 64) (M := 64) rfl hin.1 (Int32.le_of_lt hin.2)
            exact ⟨j, hj, ej⟩
          · unfold td_can at hcan; rw [if_neg hin] at hcan
            exact ⟨64, Nat.le_refl _, (of_decide_eq_true hcan).1⟩
        have hcl : q0.toNatClampNeg = s0 := by rw [es0]; exact nI_clamp (by omega)
        refine lv_aload_n hx hb d_X1_play_92 rfl (lv_at hl 1 rfl) ?_
        refine lv_iload_n hx hb d_X1_play_93 rfl (lv_at hl 2 rfl) ?_
        refine td_i (y := (nI s0)) (es0) ?_
        have hPc := hP.sub (ws' := [(o, .inr (1, [.int (td_pt M q0), .ref (q 1), .ref (q 2), .ref (q 3), .ref (q 4), .int (nI M.2.2.2.2), .ref (q 6), .ref (q 7), .ref (q 8), .ref (q 9), .int ch, .ref (q 11), .int sc, .ref (q 13)])), ((q 1), .inl (cI, 1216, .inl M.1)), ((q 2), .inl (cI, 19, .inl M.2.1)), ((q 3), .inl (cI, 64, .inl M.2.2.1)), ((q 4), .inl (cJ, 64, .inr (.inl M.2.2.2.1)))]) [0, 1, 2, 3, 4] rfl
        have hDc := hD.sub (ws' := [(o, .inr (1, [.int (td_pt M q0), .ref (q 1), .ref (q 2), .ref (q 3), .ref (q 4), .int (nI M.2.2.2.2), .ref (q 6), .ref (q 7), .ref (q 8), .ref (q 9), .int ch, .ref (q 11), .int sc, .ref (q 13)])), ((q 1), .inl (cI, 1216, .inl M.1)), ((q 2), .inl (cI, 19, .inl M.2.1)), ((q 3), .inl (cI, 64, .inl M.2.2.1)), ((q 4), .inl (cJ, 64, .inr (.inl M.2.2.2.1)))]) [0, 1, 2, 3, 4] (by decide) rfl
        have hKc := hK.sub (tys' := [(cI, .int), (cJ, .long)]) [0, 1] rfl
        have hFc := va_free (wc := [(o, .inr (1, [.int (td_pt M q0), .ref (q 1), .ref (q 2), .ref (q 3), .ref (q 4), .int (nI M.2.2.2.2), .ref (q 6), .ref (q 7), .ref (q 8), .ref (q 9), .int ch, .ref (q 11), .int sc, .ref (q 13)])), ((q 1), .inl (cI, 1216, .inl M.1)), ((q 2), .inl (cI, 19, .inl M.2.1)), ((q 3), .inl (cI, 64, .inl M.2.2.1)), ((q 4), .inl (cJ, 64, .inr (.inl M.2.2.2.1)))]) hD hS hA [0, 1, 2, 3, 4] rfl
        refine va_calli (va_runV (b := o) (C := RX1) (As := [.int (nI s0)]) (rest := []) ⟨hx, hb, hml, hown, hts⟩ (m_X1_put l D _ o q (td_pt M q0) ch sc cI cJ M hk4 s0 hs0) (cwV 1 hts (tw_V ml_X1_90 im_X1_put se_X1_put in_X1 kw_X1_put) rfl rfl rfl (by decide +kernel) ⟨Nat.le_of_ble_eq_true rfl, Nat.le_of_ble_eq_true rfl⟩) ⟨fun a U g mk q => ⟨q.1, q.2.1, q.2.2.1, va_K.moved (u := U) (U := U.calling g mk a) (Vm.Alike.refl U.vm) q.2.2.2.1, q.2.2.2.2⟩, va_recv (q0 := 0) (ci := 1) hK hP rfl rfl, fun U hU hW => ⟨rfl, by rw [hU], by rw [hU]; exact hPc, va_K.moved hW.alike hKc, hDc.weaken (fun _ _ _ _ => trivial)⟩⟩ rfl rfl hl.1 rfl (lv_room (Nat.le_of_ble_eq_true rfl)) d_X1_play_94 ⟨Nat.zero_le _, Nat.zero_le _⟩) hS (fun q _ h => hFc q h) hFc (fun r u0 t0 H1 locs ht hvm hr2 hB hz1 hk1 hS => ?_)
        obtain ⟨hP1, hK1, hD1⟩ := hB
        rw [ht] at hP1
        obtain ⟨hP, hD⟩ := va_join (wr := []) (w1 := [(o, .inr (1, [.int (td_pt M q0), .ref (q 1), .ref (q 2), .ref (q 3), .ref (q 4), .int (nI (td_put M s0).2.2.2.2), .ref (q 6), .ref (q 7), .ref (q 8), .ref (q 9), .int ch, .ref (q 11), .int sc, .ref (q 13)])), ((q 1), .inl (cI, 1216, .inl ((td_put M s0).1))), ((q 2), .inl (cI, 19, .inl ((td_put M s0).2.1))), ((q 3), .inl (cI, 64, .inl ((td_put M s0).2.2.1))), ((q 4), .inl (cJ, 64, .inr (.inl ((td_put M s0).2.2.2.1))))]) hP hD [0, 1, 2, 3, 4] [] rfl rfl (by decide) (by decide) hk1 hFc hP1 hD1
        clear hPc hDc hKc hFc hP1 hK1 hD1 hk1 hz1
        have hP := hP.sub (ws' := [(o, .inr (1, [.int (td_pt M q0), .ref (q 1), .ref (q 2), .ref (q 3), .ref (q 4), .int (nI (td_put M s0).2.2.2.2), .ref (q 6), .ref (q 7), .ref (q 8), .ref (q 9), .int ch, .ref (q 11), .int sc, .ref (q 13)])), ((q 1), .inl (cI, 1216, .inl ((td_put M s0).1))), ((q 2), .inl (cI, 19, .inl ((td_put M s0).2.1))), ((q 3), .inl (cI, 64, .inl ((td_put M s0).2.2.1))), ((q 4), .inl (cJ, 64, .inr (.inl ((td_put M s0).2.2.2.1))))]) [0, 1, 2, 3, 4] rfl
        have hD := hD.sub (ws' := [(o, .inr (1, [.int (td_pt M q0), .ref (q 1), .ref (q 2), .ref (q 3), .ref (q 4), .int (nI (td_put M s0).2.2.2.2), .ref (q 6), .ref (q 7), .ref (q 8), .ref (q 9), .int ch, .ref (q 11), .int sc, .ref (q 13)])), ((q 1), .inl (cI, 1216, .inl ((td_put M s0).1))), ((q 2), .inl (cI, 19, .inl ((td_put M s0).2.1))), ((q 3), .inl (cI, 64, .inl ((td_put M s0).2.2.1))), ((q 4), .inl (cJ, 64, .inr (.inl ((td_put M s0).2.2.2.1))))]) [0, 1, 2, 3, 4] (by decide) rfl
        clear ht hvm
        generalize H1 = H at hP hS ⊢
        have hP : va_P D tdC [(o, .inr (1, [.int (td_pt M q0), .ref (q 1), .ref (q 2), .ref (q 3), .ref (q 4), .int (nI (if td_pt M q0 = 0 then td_put M q0.toNatClampNeg else M).2.2.2.2), .ref (q 6), .ref (q 7), .ref (q 8), .ref (q 9), .int ch, .ref (q 11), .int sc, .ref (q 13)])), ((q 1), .inl (cI, 1216, .inl ((if td_pt M q0 = 0 then td_put M q0.toNatClampNeg else M).1))), ((q 2), .inl (cI, 19, .inl ((if td_pt M q0 = 0 then td_put M q0.toNatClampNeg else M).2.1))), ((q 3), .inl (cI, 64, .inl ((if td_pt M q0 = 0 then td_put M q0.toNatClampNeg else M).2.2.1))), ((q 4), .inl (cJ, 64, .inr (.inl ((if td_pt M q0 = 0 then td_put M q0.toNatClampNeg else M).2.2.2.1))))] H := by simp only [if_pos hbz, hcl]; exact hP
        have hD : va_D A [(o, .inr (1, [.int (td_pt M q0), .ref (q 1), .ref (q 2), .ref (q 3), .ref (q 4), .int (nI (if td_pt M q0 = 0 then td_put M q0.toNatClampNeg else M).2.2.2.2), .ref (q 6), .ref (q 7), .ref (q 8), .ref (q 9), .int ch, .ref (q 11), .int sc, .ref (q 13)])), ((q 1), .inl (cI, 1216, .inl ((if td_pt M q0 = 0 then td_put M q0.toNatClampNeg else M).1))), ((q 2), .inl (cI, 19, .inl ((if td_pt M q0 = 0 then td_put M q0.toNatClampNeg else M).2.1))), ((q 3), .inl (cI, 64, .inl ((if td_pt M q0 = 0 then td_put M q0.toNatClampNeg else M).2.2.1))), ((q 4), .inl (cJ, 64, .inr (.inl ((if td_pt M q0 = 0 then td_put M q0.toNatClampNeg else M).2.2.2.1))))] := by simp only [if_pos hbz, hcl]; exact hD
        exact W.iret (v := r) hx hb hr (fun t ht hW => ⟨⟨_, (), rfl, fun _ => by rw [hcl]; exact hr2, by rw [ht]; exact hP, va_K.moved hW.alike hK, hD⟩, hS.F ht⟩) hS.2.2 d_X1_play_97
      · have hbz : ¬ td_pt M q0 = 0 := fun z => h0 (by rw [z]; decide)
        refine lv_iconst (v := 0) hx hb d_X1_play_88 (by decide) ?_
        refine lv_goto (tgt := 97) hx hb d_X1_play_89 (by decide) ?_
        have hP : va_P D tdC [(o, .inr (1, [.int (td_pt M q0), .ref (q 1), .ref (q 2), .ref (q 3), .ref (q 4), .int (nI (if td_pt M q0 = 0 then td_put M q0.toNatClampNeg else M).2.2.2.2), .ref (q 6), .ref (q 7), .ref (q 8), .ref (q 9), .int ch, .ref (q 11), .int sc, .ref (q 13)])), ((q 1), .inl (cI, 1216, .inl ((if td_pt M q0 = 0 then td_put M q0.toNatClampNeg else M).1))), ((q 2), .inl (cI, 19, .inl ((if td_pt M q0 = 0 then td_put M q0.toNatClampNeg else M).2.1))), ((q 3), .inl (cI, 64, .inl ((if td_pt M q0 = 0 then td_put M q0.toNatClampNeg else M).2.2.1))), ((q 4), .inl (cJ, 64, .inr (.inl ((if td_pt M q0 = 0 then td_put M q0.toNatClampNeg else M).2.2.2.1))))] H := by simp only [if_neg hbz]; exact hP
        have hD : va_D A [(o, .inr (1, [.int (td_pt M q0), .ref (q 1), .ref (q 2), .ref (q 3), .ref (q 4), .int (nI (if td_pt M q0 = 0 then td_put M q0.toNatClampNeg else M).2.2.2.2), .ref (q 6), .ref (q 7), .ref (q 8), .ref (q 9), .int ch, .ref (q 11), .int sc, .ref (q 13)])), ((q 1), .inl (cI, 1216, .inl ((if td_pt M q0 = 0 then td_put M q0.toNatClampNeg else M).1))), ((q 2), .inl (cI, 19, .inl ((if td_pt M q0 = 0 then td_put M q0.toNatClampNeg else M).2.1))), ((q 3), .inl (cI, 64, .inl ((if td_pt M q0 = 0 then td_put M q0.toNatClampNeg else M).2.2.1))), ((q 4), .inl (cJ, 64, .inr (.inl ((if td_pt M q0 = 0 then td_put M q0.toNatClampNeg else M).2.2.2.1))))] := by simp only [if_neg hbz]; exact hD
        exact W.iret (v := 0) hx hb hr (fun t ht hW => ⟨⟨_, (), rfl, fun z => absurd z hbz, by rw [ht]; exact hP, va_K.moved hW.alike hK, hD⟩, hS.F ht⟩) hS.2.2 d_X1_play_97
    · refine lv_iload_n hx hb d_X1_play_56 rfl (lv_at hl 0 rfl) ?_
      refine lv_if_ne (tgt := 64) hx hb d_X1_play_57 (by decide) (fun h0 => ?_) (fun h0 => ?_)
      · have hcan : td_can M q0 = true := ex.elim (fun y => y.1) (fun y => absurd y.2 h0)
        have hnc : ¬ td_can M q0 = false := by rw [hcan]; decide
        refine lv_aload_n hx hb d_X1_play_64 rfl (lv_at hl 1 rfl) ?_
        refine va_get (D := D) (ci := 1) (v := .int (nI M.2.2.2.2)) (C := RX1) (T := TX1) (N := 14) hx hb hts usX1 hown hK hP 0 rfl rfl 5 (by decide) (hts _ fl_X1_49) (fun _ h9 => h9) rfl d_X1_play_65 ?_
        refine lv_bipush (v := 64) hx hb d_X1_play_68 (by decide) ?_
        refine lv_icmp_ne (tgt := 77) hx hb d_X1_play_70 (by decide) (fun h1 => ?_) (fun h1 => ?_)
        · refine lv_iconst (v := 0) hx hb d_X1_play_77 (by decide) ?_
          exact J _ (by unfold td_pt; rw [if_neg hnc, if_neg (fun z => h1 (by rw [z]; rfl))])
        · refine lv_iconst (v := 2) hx hb d_X1_play_73 (by decide) ?_
          refine lv_goto (tgt := 78) hx hb d_X1_play_74 (by decide) ?_
          exact J _ (by unfold td_pt; rw [if_neg hnc, if_pos ((nI_eq (by omega) (by decide)).mp h1)])
      · refine lv_iconst (v := 1) hx hb d_X1_play_60 (by decide) ?_
        refine lv_goto (tgt := 78) hx hb d_X1_play_61 (by decide) ?_
        exact J _ (by unfold td_pt; rw [if_pos (ex.elim (fun y => absurd (y.2.symm.trans h0) (by decide)) (fun y => y.1))])
  · refine td_joinu 35 ls [] (¬ (¬ q0 < 0 ∧ q0 < 64)) (fun hy => ?_) (fun J2 => ?_)
    · refine lv_iload_n hx hb d_X1_play_35 rfl (lv_at hl 1 rfl) ?_
      refine lv_bipush (v := 64) hx hb d_X1_play_36 (by decide) ?_
      refine lv_icmp_ne (tgt := 53) hx hb d_X1_play_38 (by decide) (fun h0 => ?_) (fun h0 => ?_)
      · refine lv_iconst (v := 0) hx hb d_X1_play_53 (by decide) ?_
        exact J _ (Or.inr ⟨by unfold td_can; rw [if_neg hy]; exact decide_eq_false (fun z => h0 z.1), rfl⟩)
      · refine lv_aload_n hx hb d_X1_play_41 rfl (lv_at hl 0 rfl) ?_
        refine lv_iconst (v := 0) hx hb d_X1_play_42 (by decide) ?_
        refine vp_callSi (W.runV (b := o) (C := RX1) (As := [.int 0]) (rest := []) ⟨hx, hb, hml, hown, hts⟩ (m_X1_mustPass l D o (q 1) cI [.int th, .ref (q 1), .ref (q 2), .ref (q 3), .ref (q 4), .int (nI M.2.2.2.2), .ref (q 6), .ref (q 7), .ref (q 8), .ref (q 9), .int ch, .ref (q 11), .int sc, .ref (q 13)] rfl M.1 (q 2) rfl M.2.1 0 (by decide)) (cwV 1 hts (tw_V ml_X1_87 im_X1_mustPass se_X1_mustPass in_X1 kw_X1_mustPass) rfl rfl rfl (by decide +kernel) ⟨Nat.le_of_ble_eq_true rfl, Nat.le_of_ble_eq_true rfl⟩) ⟨fun a U g mk q => ⟨q.1, q.2.1, va_K.moved (u := U) (U := U.calling g mk a) (Vm.Alike.refl U.vm) q.2.2⟩, va_recv (q0 := 0) (ci := 1) hK hP rfl rfl, fun U hU hW => ⟨rfl, by rw [hU]; exact hP3, va_K.moved hW.alike hK2⟩⟩ rfl rfl hl.1 rfl (lv_room (Nat.le_of_ble_eq_true rfl)) d_X1_play_43 ⟨Nat.zero_le _, Nat.zero_le _⟩) (fun r hq => ?_)
        refine lv_if_eq (tgt := 53) hx hb d_X1_play_46 (by decide) (fun h2 => ?_) (fun h2 => ?_)
        · refine lv_iconst (v := 0) hx hb d_X1_play_53 (by decide) ?_
          exact J _ (Or.inr ⟨by unfold td_can; rw [if_neg hy]; exact decide_eq_false (fun z => hq.elim (fun y => absurd (y.2.symm.trans h2) (by decide)) (fun y => y.1 z.2)), rfl⟩)
        · refine lv_iconst (v := 1) hx hb d_X1_play_49 (by decide) ?_
          refine lv_goto (tgt := 54) hx hb d_X1_play_50 (by decide) ?_
          exact J _ (Or.inl ⟨by unfold td_can; rw [if_neg hy]; exact decide_eq_true ⟨h0, hq.elim (fun y => y.1) (fun y => absurd y.2 h2)⟩, rfl⟩)
    · refine lv_iload_n hx hb d_X1_play_0 rfl (lv_at hl 1 rfl) ?_
      refine lv_if_lt (tgt := 35) hx hb d_X1_play_1 (by decide) (fun h0 => ?_) (fun h0 => ?_)
      · exact J2 (fun z => z.1 h0)
      · refine lv_iload_n hx hb d_X1_play_4 rfl (lv_at hl 1 rfl) ?_
        refine lv_bipush (v := 64) hx hb d_X1_play_5 (by decide) ?_
        refine lv_icmp_ge (tgt := 35) hx hb d_X1_play_7 (by decide) (fun h1 => ?_) (fun h1 => ?_)
        · exact J2 (fun z => absurd z.2 (Int32.not_lt.mpr h1))
        · have hin : ¬ q0 < 0 ∧ q0 < 64 := ⟨h0, Int32.not_le.mp h1⟩
          obtain ⟨s0, hs63, es0⟩ := nI_of2 (n := 63) (M := 63) rfl h0 (by have := Int32.not_le.mp h1; rw [Int32.le_iff_toInt_le]; rw [Int32.lt_iff_toInt_lt] at this; have h9 : (64 : Int32).toInt = 64 := rfl; have h8 : (63 : Int32).toInt = 63 := rfl; omega)
          have hs0 : s0 < 64 := by omega
          have hcl : q0.toNatClampNeg = s0 := by rw [es0]; exact nI_clamp (by omega)
          refine lv_aload_n hx hb d_X1_play_10 rfl (lv_at hl 0 rfl) ?_
          refine lv_iconst (v := 0) hx hb d_X1_play_11 (by decide) ?_
          refine lv_iload_n hx hb d_X1_play_12 rfl (lv_at hl 1 rfl) ?_
          refine td_i (y := (nI s0)) (es0) ?_
          refine lv_aload_n hx hb d_X1_play_13 rfl (lv_at hl 0 rfl) ?_
          refine va_get (D := D) (ci := 1) (v := .ref (q 2)) (C := RX1) (T := TX1) (N := 14) hx hb hts usX1 hown hK hP 0 rfl rfl 2 (by decide) (hts _ fl_X1_13) (fun _ h9 => h9) rfl d_X1_play_14 ?_
          refine lv_iconst (v := 0) hx hb d_X1_play_17 (by decide) ?_
          refine va_iald hx hb hK hP 2 0 rfl rfl (vp_in_nI (n := 0) (by decide) (by decide)) d_X1_play_18 ?_
          refine td_i (y := (M.2.1 0)) (rfl) ?_
          refine vp_callSl (W.runV (b := o) (C := RX1) (As := [.int 0, .int (nI s0), .int (M.2.1 0)]) (rest := []) ⟨hx, hb, hml, hown, hts⟩ (m_X1_flipsAt l D o (q 1) cI [.int th, .ref (q 1), .ref (q 2), .ref (q 3), .ref (q 4), .int (nI M.2.2.2.2), .ref (q 6), .ref (q 7), .ref (q 8), .ref (q 9), .int ch, .ref (q 11), .int sc, .ref (q 13)] rfl M.1 0 (by decide) s0 hs0 (M.2.1 0)) (cwV 3 hts (tw_V ml_X1_71 im_X1_flipsAt se_X1_flipsAt in_X1 kw_X1_flipsAt) rfl rfl rfl (by decide +kernel) ⟨Nat.le_of_ble_eq_true rfl, Nat.le_of_ble_eq_true rfl⟩) ⟨fun a U g mk q => ⟨q.1, q.2.1, va_K.moved (u := U) (U := U.calling g mk a) (Vm.Alike.refl U.vm) q.2.2⟩, va_recv (q0 := 0) (ci := 1) hK hP rfl rfl, fun U hU hW => ⟨rfl, by rw [hU]; exact hP2, va_K.moved hW.alike hK2⟩⟩ rfl rfl hl.1 rfl (lv_room (Nat.le_of_ble_eq_true rfl)) d_X1_play_19 ⟨Nat.zero_le _, Nat.zero_le _⟩) (fun r h9 => ?_)
          subst h9
          refine lv_lconst (v := 0) hx hb d_X1_play_22 (by decide) ?_
          refine td_leq (tgt := 31) hx hb d_X1_play_23 d_X1_play_24 (by decide) (fun h2 => ?_) (fun h2 => ?_)
          · refine lv_iconst (v := 0) hx hb d_X1_play_31 (by decide) ?_
            refine lv_goto (tgt := 54) hx hb d_X1_play_32 (by decide) ?_
            exact J _ (Or.inr ⟨by unfold td_can; rw [if_pos hin, hcl]; exact decide_eq_false (fun z => z h2), rfl⟩)
          · refine lv_iconst (v := 1) hx hb d_X1_play_27 (by decide) ?_
            refine lv_goto (tgt := 54) hx hb d_X1_play_28 (by decide) ?_
            exact J _ (Or.inl ⟨by unfold td_can; rw [if_pos hin, hcl]; exact decide_eq_true h2, rfl⟩)
set_option maxHeartbeats 4000000 in
set_option maxRecDepth 100000 in
theorem m_X1_back (l : Launch) (D : va_G) (sz : Nat) (o : Nat) (q : Nat → Nat) (th ch sc : Int32) (cI cJ : ClassId) (M : tdM) (hk : M.2.2.2.2 ≤ 64) : Met l y_X1_back (k_X1_back :: tw) ({ frames := 0, cells := 0, slots := 0, locals := 0 }) (va_Pc [.ref o] (fun U => U.heap.size = sz ∧ va_P D tdC [(o, .inr (1, [.int th, .ref (q 1), .ref (q 2), .ref (q 3), .ref (q 4), .int (nI M.2.2.2.2), .ref (q 6), .ref (q 7), .ref (q 8), .ref (q 9), .int ch, .ref (q 11), .int sc, .ref (q 13)])), ((q 1), .inl (cI, 1216, .inl M.1)), ((q 2), .inl (cI, 19, .inl M.2.1)), ((q 3), .inl (cI, 64, .inl M.2.2.1)), ((q 4), .inl (cJ, 64, .inr (.inl M.2.2.2.1)))] U.heap ∧ va_K D tdC [(cI, .int), (cJ, .long)] U ∧ va_D (fun _ => True) [(o, .inr (1, [.int th, .ref (q 1), .ref (q 2), .ref (q 3), .ref (q 4), .int (nI M.2.2.2.2), .ref (q 6), .ref (q 7), .ref (q 8), .ref (q 9), .int ch, .ref (q 11), .int sc, .ref (q 13)])), ((q 1), .inl (cI, 1216, .inl M.1)), ((q 2), .inl (cI, 19, .inl M.2.1)), ((q 3), .inl (cI, 64, .inl M.2.2.1)), ((q 4), .inl (cJ, 64, .inr (.inl M.2.2.2.1)))])) (va_Qi (fun (r : Int32) (_ : Unit) => ¬ M.2.2.2.2 = 0 → r = M.2.2.1 (M.2.2.2.2 - 1)) (fun (_ : Unit) t => va_P D tdC [(o, .inr (1, [.int (td_bt M), .ref (q 1), .ref (q 2), .ref (q 3), .ref (q 4), .int (nI (if M.2.2.2.2 = 0 then M else td_bk M).2.2.2.2), .ref (q 6), .ref (q 7), .ref (q 8), .ref (q 9), .int ch, .ref (q 11), .int sc, .ref (q 13)])), ((q 1), .inl (cI, 1216, .inl ((if M.2.2.2.2 = 0 then M else td_bk M).1))), ((q 2), .inl (cI, 19, .inl ((if M.2.2.2.2 = 0 then M else td_bk M).2.1))), ((q 3), .inl (cI, 64, .inl ((if M.2.2.2.2 = 0 then M else td_bk M).2.2.1))), ((q 4), .inl (cJ, 64, .inr (.inl ((if M.2.2.2.2 = 0 then M else td_bk M).2.2.2.1))))] t.heap ∧ va_K D tdC [(cI, .int), (cJ, .long)] t ∧ va_D (va_A [(o, .inr (1, [.int th, .ref (q 1), .ref (q 2), .ref (q 3), .ref (q 4), .int (nI M.2.2.2.2), .ref (q 6), .ref (q 7), .ref (q 8), .ref (q 9), .int ch, .ref (q 11), .int sc, .ref (q 13)])), ((q 1), .inl (cI, 1216, .inl M.1)), ((q 2), .inl (cI, 19, .inl M.2.1)), ((q 3), .inl (cI, 64, .inl M.2.2.1)), ((q 4), .inl (cJ, 64, .inr (.inl M.2.2.2.1)))] sz) [(o, .inr (1, [.int (td_bt M), .ref (q 1), .ref (q 2), .ref (q 3), .ref (q 4), .int (nI (if M.2.2.2.2 = 0 then M else td_bk M).2.2.2.2), .ref (q 6), .ref (q 7), .ref (q 8), .ref (q 9), .int ch, .ref (q 11), .int sc, .ref (q 13)])), ((q 1), .inl (cI, 1216, .inl ((if M.2.2.2.2 = 0 then M else td_bk M).1))), ((q 2), .inl (cI, 19, .inl ((if M.2.2.2.2 = 0 then M else td_bk M).2.1))), ((q 3), .inl (cI, 64, .inl ((if M.2.2.2.2 = 0 then M else td_bk M).2.2.1))), ((q 4), .inl (cJ, 64, .inr (.inl ((if M.2.2.2.2 = 0 then M else td_bk M).2.2.2.1))))]) (va_A [(o, .inr (1, [.int th, .ref (q 1), .ref (q 2), .ref (q 3), .ref (q 4), .int (nI M.2.2.2.2), .ref (q 6), .ref (q 7), .ref (q 8), .ref (q 9), .int ch, .ref (q 11), .int sc, .ref (q 13)])), ((q 1), .inl (cI, 1216, .inl M.1)), ((q 2), .inl (cI, 19, .inl M.2.1)), ((q 3), .inl (cI, 64, .inl M.2.2.1)), ((q 4), .inl (cJ, 64, .inr (.inl M.2.2.2.1)))] sz)) 0 0 (va_A [(o, .inr (1, [.int th, .ref (q 1), .ref (q 2), .ref (q 3), .ref (q 4), .int (nI M.2.2.2.2), .ref (q 6), .ref (q 7), .ref (q 8), .ref (q 9), .int ch, .ref (q 11), .int sc, .ref (q 13)])), ((q 1), .inl (cI, 1216, .inl M.1)), ((q 2), .inl (cI, 19, .inl M.2.1)), ((q 3), .inl (cI, 64, .inl M.2.2.1)), ((q 4), .inl (cJ, 64, .inr (.inl M.2.2.2.1)))] sz) := by
  refine Met.ofW (cc := c_X1_back) (maxL := 3) (ret := (some .int)) (by decide) rfl ?_
  intro p e s m args below meth c s₁ B hml hv
  obtain ⟨rfl, hsz, hP, hK, hD0⟩ := hv
  have hx := B.exec
  have hb := B.bytes
  have hr := B.returns
  have hts : ∀ w ∈ tw, w.before _ s = true := fun w h => atoms_spec (ws := k_X1_back :: tw) B.pre w (List.mem_cons_of_mem _ h)
  have hown : s.vm.findClass RX1 = some m.cls := findClass_of_methodNamed B.named
  have hlocks := B.notSynchronized
  subst hsz
  have hD := hD0.self (sz := s.heap.size)
  generalize hAe : va_A [(o, .inr (1, [.int th, .ref (q 1), .ref (q 2), .ref (q 3), .ref (q 4), .int (nI M.2.2.2.2), .ref (q 6), .ref (q 7), .ref (q 8), .ref (q 9), .int ch, .ref (q 11), .int sc, .ref (q 13)])), ((q 1), .inl (cI, 1216, .inl M.1)), ((q 2), .inl (cI, 19, .inl M.2.1)), ((q 3), .inl (cI, 64, .inl M.2.2.1)), ((q 4), .inl (cJ, 64, .inr (.inl M.2.2.2.1)))] s.heap.size = A at hD ⊢
  have hA : ∀ q : Nat, s.heap.size ≤ q → A q := fun q h => by rw [← hAe]; exact Or.inr h
  have hS : va_S A s.heap s.heap [] := va_S.rf
  have hP : va_P D tdC [(o, .inr (1, [.int th, .ref (q 1), .ref (q 2), .ref (q 3), .ref (q 4), .int (nI M.2.2.2.2), .ref (q 6), .ref (q 7), .ref (q 8), .ref (q 9), .int ch, .ref (q 11), .int sc, .ref (q 13)])), ((q 1), .inl (cI, 1216, .inl M.1)), ((q 2), .inl (cI, 19, .inl M.2.1)), ((q 3), .inl (cI, 64, .inl M.2.2.1)), ((q 4), .inl (cJ, 64, .inr (.inl M.2.2.2.1)))] s.heap := hP
  have hl := lv_entry ([.ref o]) (n := 3) (Nat.le_of_ble_eq_true rfl)
  rw [lg_entry_eq]
  generalize (lg_sl ([.ref o]) ++ List.replicate (3 - (lg_sl ([.ref o])).length) Slot.unset).toArray = ls at hl ⊢
  have hl : lv_has ls 3 [(0, .ref o)] := hl
  refine lv_aload_n hx hb d_X1_back_0 rfl (lv_at hl 0 rfl) ?_
  refine td_joini 13 ls [.ref o] (fun y => y = td_bt M) (fun y ey => ?_) (fun J => ?_)
  · subst ey
    refine va_put (D := D) (ci := 1) (v := .int (td_bt M)) (ty := .int) (C := RX1) (T := TX1) (N := 14) hx hb hts usX1 tyX1 tyX1_ok nmX1 hown hK hP hD hS 0 rfl rfl 0 (by decide) (hts _ fl_X1_45) (fun _ h9 => h9) rfl (by decide +kernel) rfl rfl (Nat.le_of_ble_eq_true rfl) d_X1_back_13 (fun H locs hP hD hS => ?_)
    have hP : va_P D tdC [(o, .inr (1, [.int (td_bt M), .ref (q 1), .ref (q 2), .ref (q 3), .ref (q 4), .int (nI M.2.2.2.2), .ref (q 6), .ref (q 7), .ref (q 8), .ref (q 9), .int ch, .ref (q 11), .int sc, .ref (q 13)])), ((q 1), .inl (cI, 1216, .inl M.1)), ((q 2), .inl (cI, 19, .inl M.2.1)), ((q 3), .inl (cI, 64, .inl M.2.2.1)), ((q 4), .inl (cJ, 64, .inr (.inl M.2.2.2.1)))] H := hP
    have hD : va_D A [(o, .inr (1, [.int (td_bt M), .ref (q 1), .ref (q 2), .ref (q 3), .ref (q 4), .int (nI M.2.2.2.2), .ref (q 6), .ref (q 7), .ref (q 8), .ref (q 9), .int ch, .ref (q 11), .int sc, .ref (q 13)])), ((q 1), .inl (cI, 1216, .inl M.1)), ((q 2), .inl (cI, 19, .inl M.2.1)), ((q 3), .inl (cI, 64, .inl M.2.2.1)), ((q 4), .inl (cJ, 64, .inr (.inl M.2.2.2.1)))] := hD
    refine lv_aload_n hx hb d_X1_back_16 rfl (lv_at hl 0 rfl) ?_
    refine va_get (D := D) (ci := 1) (v := .int (td_bt M)) (C := RX1) (T := TX1) (N := 14) hx hb hts usX1 hown hK hP 0 rfl rfl 0 (by decide) (hts _ fl_X1_45) (fun _ h9 => h9) rfl d_X1_back_17 ?_
    refine lv_if_le (tgt := 25) hx hb d_X1_back_20 (by decide) (fun h0 => ?_) (fun h0 => ?_)
    · have hk0 : ¬ M.2.2.2.2 = 0 := fun z => by unfold td_bt at h0; rw [if_pos z] at h0; exact absurd h0 (by decide)
      have hbt : td_bt M = 0 := by unfold td_bt; rw [if_neg hk0]
      have hpr : nI M.2.2.2.2 - 1 = nI (M.2.2.2.2 - 1) := by have := nI_pred (M.2.2.2.2 - 1); rwa [Nat.sub_add_cancel (by omega)] at this
      refine lv_aload_n hx hb d_X1_back_25 rfl (lv_at hl 0 rfl) ?_
      refine lv_dup hx hb d_X1_back_26 rfl ?_
      refine va_get (D := D) (ci := 1) (v := .int (nI M.2.2.2.2)) (C := RX1) (T := TX1) (N := 14) hx hb hts usX1 hown hK hP 0 rfl rfl 5 (by decide) (hts _ fl_X1_49) (fun _ h9 => h9) rfl d_X1_back_27 ?_
      refine lv_iconst (v := 1) hx hb d_X1_back_30 (by decide) ?_
      refine lv_isub hx hb d_X1_back_31 ?_
      refine td_i (y := (nI (M.2.2.2.2 - 1))) (hpr) ?_
      refine va_put (D := D) (ci := 1) (v := .int (nI (M.2.2.2.2 - 1))) (ty := .int) (C := RX1) (T := TX1) (N := 14) hx hb hts usX1 tyX1 tyX1_ok nmX1 hown hK hP hD hS 0 rfl rfl 5 (by decide) (hts _ fl_X1_49) (fun _ h9 => h9) rfl (by decide +kernel) rfl rfl (Nat.le_of_ble_eq_true rfl) d_X1_back_32 (fun H locs hP hD hS => ?_)
      have hP : va_P D tdC [(o, .inr (1, [.int (td_bt M), .ref (q 1), .ref (q 2), .ref (q 3), .ref (q 4), .int (nI (M.2.2.2.2 - 1)), .ref (q 6), .ref (q 7), .ref (q 8), .ref (q 9), .int ch, .ref (q 11), .int sc, .ref (q 13)])), ((q 1), .inl (cI, 1216, .inl M.1)), ((q 2), .inl (cI, 19, .inl M.2.1)), ((q 3), .inl (cI, 64, .inl M.2.2.1)), ((q 4), .inl (cJ, 64, .inr (.inl M.2.2.2.1)))] H := hP
      have hD : va_D A [(o, .inr (1, [.int (td_bt M), .ref (q 1), .ref (q 2), .ref (q 3), .ref (q 4), .int (nI (M.2.2.2.2 - 1)), .ref (q 6), .ref (q 7), .ref (q 8), .ref (q 9), .int ch, .ref (q 11), .int sc, .ref (q 13)])), ((q 1), .inl (cI, 1216, .inl M.1)), ((q 2), .inl (cI, 19, .inl M.2.1)), ((q 3), .inl (cI, 64, .inl M.2.2.1)), ((q 4), .inl (cJ, 64, .inr (.inl M.2.2.2.1)))] := hD
      refine lv_iconst (v := 1) hx hb d_X1_back_35 (by decide) ?_
      refine lv_aload_n hx hb d_X1_back_36 rfl (lv_at hl 0 rfl) ?_
      refine va_get (D := D) (ci := 1) (v := .ref (q 2)) (C := RX1) (T := TX1) (N := 14) hx hb hts usX1 hown hK hP 0 rfl rfl 2 (by decide) (hts _ fl_X1_13) (fun _ h9 => h9) rfl d_X1_back_37 ?_
      refine lv_iconst (v := 0) hx hb d_X1_back_40 (by decide) ?_
      refine va_iald hx hb hK hP 2 0 rfl rfl (vp_in_nI (n := 0) (by decide) (by decide)) d_X1_back_41 ?_
      refine td_i (y := (M.2.1 0)) (rfl) ?_
      refine lv_isub hx hb d_X1_back_42 ?_
      refine lv_istore_n hx hb d_X1_back_43 rfl hl (by decide) rfl (fun ls hl => ?_)
      have hl : lv_has ls 3 [(1, .int (1 - (M.2.1 0))), (0, .ref o)] := hl
      refine lv_iconst (v := 0) hx hb d_X1_back_44 (by decide) ?_
      refine lv_istore_n hx hb d_X1_back_45 rfl hl (by decide) rfl (fun ls hl => ?_)
      have hl : lv_has ls 3 [(2, .int 0), (1, .int (1 - (M.2.1 0))), (0, .ref o)] := hl
      generalize hj : M.2.2.2.2 - 1 = j at hP hD
      have hP : va_P D tdC [(o, .inr (1, [.int (td_bt M), .ref (q 1), .ref (q 2), .ref (q 3), .ref (q 4), .int (nI j), .ref (q 6), .ref (q 7), .ref (q 8), .ref (q 9), .int ch, .ref (q 11), .int sc, .ref (q 13)])), ((q 1), .inl (cI, 1216, .inl M.1)), ((q 2), .inl (cI, 19, .inl M.2.1)), ((q 3), .inl (cI, 64, .inl M.2.2.1)), ((q 4), .inl (cJ, 64, .inr (.inl M.2.2.2.1)))] H := hP
      have hD : va_D A [(o, .inr (1, [.int (td_bt M), .ref (q 1), .ref (q 2), .ref (q 3), .ref (q 4), .int (nI j), .ref (q 6), .ref (q 7), .ref (q 8), .ref (q 9), .int ch, .ref (q 11), .int sc, .ref (q 13)])), ((q 1), .inl (cI, 1216, .inl M.1)), ((q 2), .inl (cI, 19, .inl M.2.1)), ((q 3), .inl (cI, 64, .inl M.2.2.1)), ((q 4), .inl (cJ, 64, .inr (.inl M.2.2.2.1)))] := hD
      have hj64 : j < 64 := by omega
      have hcl : (nI j).toNatClampNeg = j := nI_clamp (by omega)
      rw [← td_sw_0 (td_bkc M.1 (1 - M.2.1 0) (M.2.2.1 j) (M.2.2.2.1 j)) M.1] at hP hD
      have hl0 := lv_sub hl [2, 1, 0] rfl
      refine td_loopH 46 [] (fun i : Nat => 64 - i) (fun i H locs ls => i ≤ 64 ∧ va_P D tdC [(o, .inr (1, [.int (td_bt M), .ref (q 1), .ref (q 2), .ref (q 3), .ref (q 4), .int (nI j), .ref (q 6), .ref (q 7), .ref (q 8), .ref (q 9), .int ch, .ref (q 11), .int sc, .ref (q 13)])), ((q 1), .inl (cI, 1216, .inl (td_sw (td_bkc M.1 (1 - M.2.1 0) (M.2.2.1 j) (M.2.2.2.1 j)) M.1 i))), ((q 2), .inl (cI, 19, .inl M.2.1)), ((q 3), .inl (cI, 64, .inl M.2.2.1)), ((q 4), .inl (cJ, 64, .inr (.inl M.2.2.2.1)))] H ∧ va_D A [(o, .inr (1, [.int (td_bt M), .ref (q 1), .ref (q 2), .ref (q 3), .ref (q 4), .int (nI j), .ref (q 6), .ref (q 7), .ref (q 8), .ref (q 9), .int ch, .ref (q 11), .int sc, .ref (q 13)])), ((q 1), .inl (cI, 1216, .inl (td_sw (td_bkc M.1 (1 - M.2.1 0) (M.2.2.1 j) (M.2.2.2.1 j)) M.1 i))), ((q 2), .inl (cI, 19, .inl M.2.1)), ((q 3), .inl (cI, 64, .inl M.2.2.1)), ((q 4), .inl (cJ, 64, .inr (.inl M.2.2.2.1)))] ∧ va_S A s.heap H locs ∧ lv_has ls 3 [(0, .ref o), (1, .int (1 - M.2.1 0)), (2, .int (nI i))]) (fun i H locs ls hC ih => ?_) 0 ⟨Nat.zero_le _, hP, hD, hS, hl0⟩
      clear hl hl0 hP hD hS
      obtain ⟨hi, hP, hD, hS, hl⟩ := hC
      have hl : lv_has ls 3 [(0, .ref o), (1, .int (1 - M.2.1 0)), (2, .int (nI i))] := hl
      have hP : va_P D tdC [(o, .inr (1, [.int (td_bt M), .ref (q 1), .ref (q 2), .ref (q 3), .ref (q 4), .int (nI j), .ref (q 6), .ref (q 7), .ref (q 8), .ref (q 9), .int ch, .ref (q 11), .int sc, .ref (q 13)])), ((q 1), .inl (cI, 1216, .inl (td_sw (td_bkc M.1 (1 - M.2.1 0) (M.2.2.1 j) (M.2.2.2.1 j)) M.1 i))), ((q 2), .inl (cI, 19, .inl M.2.1)), ((q 3), .inl (cI, 64, .inl M.2.2.1)), ((q 4), .inl (cJ, 64, .inr (.inl M.2.2.2.1)))] H := hP
      have hD : va_D A [(o, .inr (1, [.int (td_bt M), .ref (q 1), .ref (q 2), .ref (q 3), .ref (q 4), .int (nI j), .ref (q 6), .ref (q 7), .ref (q 8), .ref (q 9), .int ch, .ref (q 11), .int sc, .ref (q 13)])), ((q 1), .inl (cI, 1216, .inl (td_sw (td_bkc M.1 (1 - M.2.1 0) (M.2.2.1 j) (M.2.2.2.1 j)) M.1 i))), ((q 2), .inl (cI, 19, .inl M.2.1)), ((q 3), .inl (cI, 64, .inl M.2.2.1)), ((q 4), .inl (cJ, 64, .inr (.inl M.2.2.2.1)))] := hD
      refine lv_iload_n hx hb d_X1_back_46 rfl (lv_at hl 2 rfl) ?_
      refine lv_bipush (v := 64) hx hb d_X1_back_47 (by decide) ?_
      refine lv_icmp_ge (tgt := 111) hx hb d_X1_back_49 (by decide) (fun h1 => ?_) (fun h1 => ?_)
      · have h64 : i = 64 := Nat.le_antisymm hi ((nI_leI (a := 64) (b := i) (by decide) (by omega)).mp h1)
        subst h64
        refine lv_aload_n hx hb d_X1_back_111 rfl (lv_at hl 0 rfl) ?_
        refine va_get (D := D) (ci := 1) (v := .ref (q 2)) (C := RX1) (T := TX1) (N := 14) hx hb hts usX1 hown hK hP 0 rfl rfl 2 (by decide) (hts _ fl_X1_13) (fun _ h9 => h9) rfl d_X1_back_112 ?_
        refine lv_iconst (v := 0) hx hb d_X1_back_115 (by decide) ?_
        refine lv_iload_n hx hb d_X1_back_116 rfl (lv_at hl 1 rfl) ?_
        refine va_iast hx hb hK hP hD hS 2 0 rfl rfl (vp_in_nI (n := 0) (by decide) (by decide)) d_X1_back_117 (fun H locs hP hD hS => ?_)
        have hu : upd M.2.1 (0 : Int32).toNatClampNeg (1 - M.2.1 0) = (upd M.2.1 0 (1 - M.2.1 0)) := rfl
        have hP : va_P D tdC [(o, .inr (1, [.int (td_bt M), .ref (q 1), .ref (q 2), .ref (q 3), .ref (q 4), .int (nI j), .ref (q 6), .ref (q 7), .ref (q 8), .ref (q 9), .int ch, .ref (q 11), .int sc, .ref (q 13)])), ((q 1), .inl (cI, 1216, .inl (td_sw (td_bkc M.1 (1 - M.2.1 0) (M.2.2.1 j) (M.2.2.2.1 j)) M.1 64))), ((q 2), .inl (cI, 19, .inl (upd M.2.1 (0 : Int32).toNatClampNeg (1 - M.2.1 0)))), ((q 3), .inl (cI, 64, .inl M.2.2.1)), ((q 4), .inl (cJ, 64, .inr (.inl M.2.2.2.1)))] H := hP
        have hD : va_D A [(o, .inr (1, [.int (td_bt M), .ref (q 1), .ref (q 2), .ref (q 3), .ref (q 4), .int (nI j), .ref (q 6), .ref (q 7), .ref (q 8), .ref (q 9), .int ch, .ref (q 11), .int sc, .ref (q 13)])), ((q 1), .inl (cI, 1216, .inl (td_sw (td_bkc M.1 (1 - M.2.1 0) (M.2.2.1 j) (M.2.2.2.1 j)) M.1 64))), ((q 2), .inl (cI, 19, .inl (upd M.2.1 (0 : Int32).toNatClampNeg (1 - M.2.1 0)))), ((q 3), .inl (cI, 64, .inl M.2.2.1)), ((q 4), .inl (cJ, 64, .inr (.inl M.2.2.2.1)))] := hD
        rw [hu] at hP hD
        clear hu
        have hP : va_P D tdC [(o, .inr (1, [.int (td_bt M), .ref (q 1), .ref (q 2), .ref (q 3), .ref (q 4), .int (nI j), .ref (q 6), .ref (q 7), .ref (q 8), .ref (q 9), .int ch, .ref (q 11), .int sc, .ref (q 13)])), ((q 1), .inl (cI, 1216, .inl (td_sw (td_bkc M.1 (1 - M.2.1 0) (M.2.2.1 j) (M.2.2.2.1 j)) M.1 64))), ((q 2), .inl (cI, 19, .inl (upd M.2.1 0 (1 - M.2.1 0)))), ((q 3), .inl (cI, 64, .inl M.2.2.1)), ((q 4), .inl (cJ, 64, .inr (.inl M.2.2.2.1)))] H := hP
        have hD : va_D A [(o, .inr (1, [.int (td_bt M), .ref (q 1), .ref (q 2), .ref (q 3), .ref (q 4), .int (nI j), .ref (q 6), .ref (q 7), .ref (q 8), .ref (q 9), .int ch, .ref (q 11), .int sc, .ref (q 13)])), ((q 1), .inl (cI, 1216, .inl (td_sw (td_bkc M.1 (1 - M.2.1 0) (M.2.2.1 j) (M.2.2.2.1 j)) M.1 64))), ((q 2), .inl (cI, 19, .inl (upd M.2.1 0 (1 - M.2.1 0)))), ((q 3), .inl (cI, 64, .inl M.2.2.1)), ((q 4), .inl (cJ, 64, .inr (.inl M.2.2.2.1)))] := hD
        refine lv_aload_n hx hb d_X1_back_118 rfl (lv_at hl 0 rfl) ?_
        refine va_get (D := D) (ci := 1) (v := .ref (q 3)) (C := RX1) (T := TX1) (N := 14) hx hb hts usX1 hown hK hP 0 rfl rfl 3 (by decide) (hts _ fl_X1_16) (fun _ h9 => h9) rfl d_X1_back_119 ?_
        refine lv_aload_n hx hb d_X1_back_122 rfl (lv_at hl 0 rfl) ?_
        refine va_get (D := D) (ci := 1) (v := .int (nI j)) (C := RX1) (T := TX1) (N := 14) hx hb hts usX1 hown hK hP 0 rfl rfl 5 (by decide) (hts _ fl_X1_49) (fun _ h9 => h9) rfl d_X1_back_123 ?_
        refine va_iald hx hb hK hP 3 0 rfl rfl (vp_in_nI hj64 (by decide)) d_X1_back_126 ?_
        refine td_i (y := (M.2.2.1 j)) (by rw [hcl]) ?_
        subst hj
        have hP : va_P D tdC [(o, .inr (1, [.int (td_bt M), .ref (q 1), .ref (q 2), .ref (q 3), .ref (q 4), .int (nI (if M.2.2.2.2 = 0 then M else td_bk M).2.2.2.2), .ref (q 6), .ref (q 7), .ref (q 8), .ref (q 9), .int ch, .ref (q 11), .int sc, .ref (q 13)])), ((q 1), .inl (cI, 1216, .inl ((if M.2.2.2.2 = 0 then M else td_bk M).1))), ((q 2), .inl (cI, 19, .inl ((if M.2.2.2.2 = 0 then M else td_bk M).2.1))), ((q 3), .inl (cI, 64, .inl ((if M.2.2.2.2 = 0 then M else td_bk M).2.2.1))), ((q 4), .inl (cJ, 64, .inr (.inl ((if M.2.2.2.2 = 0 then M else td_bk M).2.2.2.1))))] H := by simp only [if_neg hk0]; exact hP
        have hD : va_D A [(o, .inr (1, [.int (td_bt M), .ref (q 1), .ref (q 2), .ref (q 3), .ref (q 4), .int (nI (if M.2.2.2.2 = 0 then M else td_bk M).2.2.2.2), .ref (q 6), .ref (q 7), .ref (q 8), .ref (q 9), .int ch, .ref (q 11), .int sc, .ref (q 13)])), ((q 1), .inl (cI, 1216, .inl ((if M.2.2.2.2 = 0 then M else td_bk M).1))), ((q 2), .inl (cI, 19, .inl ((if M.2.2.2.2 = 0 then M else td_bk M).2.1))), ((q 3), .inl (cI, 64, .inl ((if M.2.2.2.2 = 0 then M else td_bk M).2.2.1))), ((q 4), .inl (cJ, 64, .inr (.inl ((if M.2.2.2.2 = 0 then M else td_bk M).2.2.2.1))))] := by simp only [if_neg hk0]; exact hD
        exact W.iret (v := _) hx hb hr (fun t ht hW => ⟨⟨_, (), rfl, fun _ => rfl, by rw [ht]; exact hP, va_K.moved hW.alike hK, hD⟩, hS.F ht⟩) hS.2.2 d_X1_back_127
      · have h64 : i < 64 := Nat.lt_of_not_le (fun z => h1 ((nI_leI (a := 64) (b := i) (by decide) (by omega)).mpr z))
        have hcli : (nI i).toNatClampNeg = i := nI_clamp (by omega)
        refine lv_aload_n hx hb d_X1_back_52 rfl (lv_at hl 0 rfl) ?_
        refine va_get (D := D) (ci := 1) (v := .ref (q 1)) (C := RX1) (T := TX1) (N := 14) hx hb hts usX1 hown hK hP 0 rfl rfl 1 (by decide) (hts _ fl_X1_7) (fun _ h9 => h9) rfl d_X1_back_53 ?_
        refine lv_iload_n hx hb d_X1_back_56 rfl (lv_at hl 2 rfl) ?_
        refine td_joini 104 ls [.int (nI i), .ref (q 1)] (fun y => y = (td_bkc M.1 (1 - M.2.1 0) (M.2.2.1 j) (M.2.2.2.1 j)) i) (fun y ey => ?_) (fun J => ?_)
        · refine va_iast hx hb hK hP hD hS 1 0 rfl rfl (vp_in_nI (show i < 1216 by omega) (by decide)) d_X1_back_104 (fun H locs hP hD hS => ?_)
          have hu : upd (td_sw (td_bkc M.1 (1 - M.2.1 0) (M.2.2.1 j) (M.2.2.2.1 j)) M.1 i) (nI i).toNatClampNeg y = (td_sw (td_bkc M.1 (1 - M.2.1 0) (M.2.2.1 j) (M.2.2.2.1 j)) M.1 (i + 1)) := by rw [hcli]; exact td_sw_s ey
          have hP : va_P D tdC [(o, .inr (1, [.int (td_bt M), .ref (q 1), .ref (q 2), .ref (q 3), .ref (q 4), .int (nI j), .ref (q 6), .ref (q 7), .ref (q 8), .ref (q 9), .int ch, .ref (q 11), .int sc, .ref (q 13)])), ((q 1), .inl (cI, 1216, .inl (upd (td_sw (td_bkc M.1 (1 - M.2.1 0) (M.2.2.1 j) (M.2.2.2.1 j)) M.1 i) (nI i).toNatClampNeg y))), ((q 2), .inl (cI, 19, .inl M.2.1)), ((q 3), .inl (cI, 64, .inl M.2.2.1)), ((q 4), .inl (cJ, 64, .inr (.inl M.2.2.2.1)))] H := hP
          have hD : va_D A [(o, .inr (1, [.int (td_bt M), .ref (q 1), .ref (q 2), .ref (q 3), .ref (q 4), .int (nI j), .ref (q 6), .ref (q 7), .ref (q 8), .ref (q 9), .int ch, .ref (q 11), .int sc, .ref (q 13)])), ((q 1), .inl (cI, 1216, .inl (upd (td_sw (td_bkc M.1 (1 - M.2.1 0) (M.2.2.1 j) (M.2.2.2.1 j)) M.1 i) (nI i).toNatClampNeg y))), ((q 2), .inl (cI, 19, .inl M.2.1)), ((q 3), .inl (cI, 64, .inl M.2.2.1)), ((q 4), .inl (cJ, 64, .inr (.inl M.2.2.2.1)))] := hD
          rw [hu] at hP hD
          clear hu
          have hP : va_P D tdC [(o, .inr (1, [.int (td_bt M), .ref (q 1), .ref (q 2), .ref (q 3), .ref (q 4), .int (nI j), .ref (q 6), .ref (q 7), .ref (q 8), .ref (q 9), .int ch, .ref (q 11), .int sc, .ref (q 13)])), ((q 1), .inl (cI, 1216, .inl (td_sw (td_bkc M.1 (1 - M.2.1 0) (M.2.2.1 j) (M.2.2.2.1 j)) M.1 (i + 1)))), ((q 2), .inl (cI, 19, .inl M.2.1)), ((q 3), .inl (cI, 64, .inl M.2.2.1)), ((q 4), .inl (cJ, 64, .inr (.inl M.2.2.2.1)))] H := hP
          have hD : va_D A [(o, .inr (1, [.int (td_bt M), .ref (q 1), .ref (q 2), .ref (q 3), .ref (q 4), .int (nI j), .ref (q 6), .ref (q 7), .ref (q 8), .ref (q 9), .int ch, .ref (q 11), .int sc, .ref (q 13)])), ((q 1), .inl (cI, 1216, .inl (td_sw (td_bkc M.1 (1 - M.2.1 0) (M.2.2.1 j) (M.2.2.2.1 j)) M.1 (i + 1)))), ((q 2), .inl (cI, 19, .inl M.2.1)), ((q 3), .inl (cI, 64, .inl M.2.2.1)), ((q 4), .inl (cJ, 64, .inr (.inl M.2.2.2.1)))] := hD
          refine lv_iinc (k := 2) (v := (nI (i + 1))) hx hb d_X1_back_105 hl rfl ((nI_succ i).symm) (by decide) rfl (fun ls hl => ?_)
          have hl : lv_has ls 3 [(2, .int (nI (i + 1))), (0, .ref o), (1, .int (1 - M.2.1 0))] := hl
          refine lv_goto (tgt := 46) hx hb d_X1_back_108 (by decide) ?_
          have hl1 := lv_sub hl [1, 2, 0] rfl
          exact ih (i + 1) _ _ _ (by omega) ⟨h64, hP, hD, hS, hl1⟩
        · refine lv_aload_n hx hb d_X1_back_57 rfl (lv_at hl 0 rfl) ?_
          refine va_get (D := D) (ci := 1) (v := .ref (q 4)) (C := RX1) (T := TX1) (N := 14) hx hb hts usX1 hown hK hP 0 rfl rfl 4 (by decide) (hts _ fl_X1_19) (fun _ h9 => h9) rfl d_X1_back_58 ?_
          refine lv_aload_n hx hb d_X1_back_61 rfl (lv_at hl 0 rfl) ?_
          refine va_get (D := D) (ci := 1) (v := .int (nI j)) (C := RX1) (T := TX1) (N := 14) hx hb hts usX1 hown hK hP 0 rfl rfl 5 (by decide) (hts _ fl_X1_49) (fun _ h9 => h9) rfl d_X1_back_62 ?_
          refine va_lald hx hb hK hP 4 1 rfl rfl (vp_in_nI hj64 (by decide)) d_X1_back_65 ?_
          refine td_l (y := (M.2.2.2.1 j)) (by rw [hcl]) ?_
          refine lv_iload_n hx hb d_X1_back_66 rfl (lv_at hl 2 rfl) ?_
          refine lv_lshr (v := (td_lshr (M.2.2.2.1 j) (nI i))) hx hb d_X1_back_67 rfl ?_
          refine lv_lconst (v := 1) hx hb d_X1_back_68 (by decide) ?_
          refine lv_land hx hb d_X1_back_69 ?_
          refine lv_lconst (v := 1) hx hb d_X1_back_70 (by decide) ?_
          refine td_lne (tgt := 81) hx hb d_X1_back_71 d_X1_back_72 (by decide) (fun h2 => ?_) (fun h2 => ?_)
          · have hnb : ¬ td_bv (M.2.2.2.1 j) i = true := fun z => h2 (of_decide_eq_true z)
            refine lv_iload_n hx hb d_X1_back_81 rfl (lv_at hl 2 rfl) ?_
            refine lv_aload_n hx hb d_X1_back_82 rfl (lv_at hl 0 rfl) ?_
            refine va_get (D := D) (ci := 1) (v := .ref (q 3)) (C := RX1) (T := TX1) (N := 14) hx hb hts usX1 hown hK hP 0 rfl rfl 3 (by decide) (hts _ fl_X1_16) (fun _ h9 => h9) rfl d_X1_back_83 ?_
            refine lv_aload_n hx hb d_X1_back_86 rfl (lv_at hl 0 rfl) ?_
            refine va_get (D := D) (ci := 1) (v := .int (nI j)) (C := RX1) (T := TX1) (N := 14) hx hb hts usX1 hown hK hP 0 rfl rfl 5 (by decide) (hts _ fl_X1_49) (fun _ h9 => h9) rfl d_X1_back_87 ?_
            refine va_iald hx hb hK hP 3 0 rfl rfl (vp_in_nI hj64 (by decide)) d_X1_back_90 ?_
            refine td_i (y := (M.2.2.1 j)) (by rw [hcl]) ?_
            refine lv_icmp_ne (tgt := 98) hx hb d_X1_back_91 (by decide) (fun h3 => ?_) (fun h3 => ?_)
            · refine lv_aload_n hx hb d_X1_back_98 rfl (lv_at hl 0 rfl) ?_
              refine va_get (D := D) (ci := 1) (v := .ref (q 1)) (C := RX1) (T := TX1) (N := 14) hx hb hts usX1 hown hK hP 0 rfl rfl 1 (by decide) (hts _ fl_X1_7) (fun _ h9 => h9) rfl d_X1_back_99 ?_
              refine lv_iload_n hx hb d_X1_back_102 rfl (lv_at hl 2 rfl) ?_
              refine va_iald hx hb hK hP 1 0 rfl rfl (vp_in_nI (show i < 1216 by omega) (by decide)) d_X1_back_103 ?_
              refine td_i (y := (M.1 i)) (by rw [hcli]; exact td_sw_at _ _ _) ?_
              exact J _ (by unfold td_bkc; rw [if_neg hnb, if_neg h3])
            · refine lv_iconst (v := 0) hx hb d_X1_back_94 (by decide) ?_
              refine lv_goto (tgt := 104) hx hb d_X1_back_95 (by decide) ?_
              exact J _ (by unfold td_bkc; rw [if_neg hnb, if_pos h3])
          · refine lv_iconst (v := 2) hx hb d_X1_back_75 (by decide) ?_
            refine lv_iload_n hx hb d_X1_back_76 rfl (lv_at hl 1 rfl) ?_
            refine lv_isub hx hb d_X1_back_77 ?_
            refine lv_goto (tgt := 104) hx hb d_X1_back_78 (by decide) ?_
            exact J _ (by unfold td_bkc; rw [if_pos (show td_bv (M.2.2.2.1 j) i = true from decide_eq_true h2)])
    · have hk0 : M.2.2.2.2 = 0 := by
        by_cases h2 : M.2.2.2.2 = 0
        · exact h2
        · unfold td_bt at h0; rw [if_neg h2] at h0; exact absurd (by decide) h0
      refine lv_iconst (v := 0) hx hb d_X1_back_23 (by decide) ?_
      have hP : va_P D tdC [(o, .inr (1, [.int (td_bt M), .ref (q 1), .ref (q 2), .ref (q 3), .ref (q 4), .int (nI (if M.2.2.2.2 = 0 then M else td_bk M).2.2.2.2), .ref (q 6), .ref (q 7), .ref (q 8), .ref (q 9), .int ch, .ref (q 11), .int sc, .ref (q 13)])), ((q 1), .inl (cI, 1216, .inl ((if M.2.2.2.2 = 0 then M else td_bk M).1))), ((q 2), .inl (cI, 19, .inl ((if M.2.2.2.2 = 0 then M else td_bk M).2.1))), ((q 3), .inl (cI, 64, .inl ((if M.2.2.2.2 = 0 then M else td_bk M).2.2.1))), ((q 4), .inl (cJ, 64, .inr (.inl ((if M.2.2.2.2 = 0 then M else td_bk M).2.2.2.1))))] H := by simp only [if_pos hk0]; exact hP
      have hD : va_D A [(o, .inr (1, [.int (td_bt M), .ref (q 1), .ref (q 2), .ref (q 3), .ref (q 4), .int (nI (if M.2.2.2.2 = 0 then M else td_bk M).2.2.2.2), .ref (q 6), .ref (q 7), .ref (q 8), .ref (q 9), .int ch, .ref (q 11), .int sc, .ref (q 13)])), ((q 1), .inl (cI, 1216, .inl ((if M.2.2.2.2 = 0 then M else td_bk M).1))), ((q 2), .inl (cI, 19, .inl ((if M.2.2.2.2 = 0 then M else td_bk M).2.1))), ((q 3), .inl (cI, 64, .inl ((if M.2.2.2.2 = 0 then M else td_bk M).2.2.1))), ((q 4), .inl (cJ, 64, .inr (.inl ((if M.2.2.2.2 = 0 then M else td_bk M).2.2.2.1))))] := by simp only [if_pos hk0]; exact hD
      exact W.iret (v := 0) hx hb hr (fun t ht hW => ⟨⟨_, (), rfl, fun z => absurd hk0 z, by rw [ht]; exact hP, va_K.moved hW.alike hK, hD⟩, hS.F ht⟩) hS.2.2 d_X1_back_24
  · refine lv_aload_n hx hb d_X1_back_1 rfl (lv_at hl 0 rfl) ?_
    refine va_get (D := D) (ci := 1) (v := .int (nI M.2.2.2.2)) (C := RX1) (T := TX1) (N := 14) hx hb hts usX1 hown hK hP 0 rfl rfl 5 (by decide) (hts _ fl_X1_49) (fun _ h9 => h9) rfl d_X1_back_2 ?_
    refine lv_if_ne (tgt := 12) hx hb d_X1_back_5 (by decide) (fun h0 => ?_) (fun h0 => ?_)
    · refine lv_iconst (v := 0) hx hb d_X1_back_12 (by decide) ?_
      exact J _ (by unfold td_bt; rw [if_neg (fun z => h0 (by rw [z]; rfl))])
    · refine lv_iconst (v := 1) hx hb d_X1_back_8 (by decide) ?_
      refine lv_goto (tgt := 13) hx hb d_X1_back_9 (by decide) ?_
      exact J _ (by unfold td_bt; rw [if_pos ((nI_eq (by omega) (by decide)).mp h0)])
