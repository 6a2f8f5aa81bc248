/-! border and safe of the reference -/
def td_nb (g : Nat → Int32) (v : Int32) (i w : Nat) : Prop := td_ps w i 1 < 64 ∧ g (td_ps w i 1) = v
def td_nbs (g : Nat → Int32) (v : Int32) (i : Nat) : Bool := (List.range 8).any (fun w => decide (td_ps w i 1 < 64) && decide (g (td_ps w i 1) = v))
theorem td_nbs_iff (g : Nat → Int32) (v : Int32) (i : Nat) : td_nbs g v i = true ↔ ∃ w, w < 8 ∧ td_nb g v i w := by
  simp only [td_nbs, td_nb, List.any_eq_true, List.mem_range, Bool.and_eq_true, decide_eq_true_eq]
def td_sf (g : Nat → Int32) (who : Int32) (i : Nat) : Bool := decide (g i = who + 1) && (List.range 4).all (fun w => td_fu g who w i || td_fu g who (7 - w) i)
theorem td_sf_iff (g : Nat → Int32) (who : Int32) (i : Nat) : td_sf g who i = true ↔ (g i = who + 1 ∧ ∀ w, w < 4 → (td_fu g who w i = true ∨ td_fu g who (7 - w) i = true)) := by
  simp only [td_sf, List.all_eq_true, List.mem_range, Bool.and_eq_true, decide_eq_true_eq, Bool.or_eq_true]
set_option maxHeartbeats 4000000 in
set_option maxRecDepth 100000 in
theorem m_X1_border (l : Launch) (D : va_G) (sz : Nat) (o : Nat) (q : Nat → Nat) (th md ch sc : Int32) (cI : ClassId) (ce mv : Nat → Int32) (q0 : Int32) : Met l y_X1_border (k_X1_border :: tw) ({ frames := 1, cells := 0, slots := 0, locals := 23 }) (va_Pc [.ref o, .int q0] (fun U => U.heap.size = sz ∧ va_P D tdC [(o, .inr (1, [.int th, .ref (q 1), .ref (q 2), .ref (q 3), .ref (q 4), .int md, .ref (q 6), .ref (q 7), .ref (q 8), .ref (q 9), .int ch, .ref (q 11), .int sc, .ref (q 13)])), ((q 1), .inl (cI, 1216, .inl ce)), ((q 2), .inl (cI, 19, .inl mv))] U.heap ∧ va_K D tdC [(cI, .int)] U ∧ va_D (fun _ => True) [(o, .inr (1, [.int th, .ref (q 1), .ref (q 2), .ref (q 3), .ref (q 4), .int md, .ref (q 6), .ref (q 7), .ref (q 8), .ref (q 9), .int ch, .ref (q 11), .int sc, .ref (q 13)])), ((q 1), .inl (cI, 1216, .inl ce)), ((q 2), .inl (cI, 19, .inl mv))])) (va_Qi (fun (r : Int32) (_ : Unit) => td_bad q0 1 = 0 → r = nI (td_cn (fun u => decide ((td_lv ce 0) u = 0) && td_nbs (td_lv ce 0) (q0 + 1) u) 64)) (fun (_ : Unit) t => va_P D tdC [(o, .inr (1, [.int (td_bad q0 1), .ref (q 1), .ref (q 2), .ref (q 3), .ref (q 4), .int md, .ref (q 6), .ref (q 7), .ref (q 8), .ref (q 9), .int ch, .ref (q 11), .int sc, .ref (q 13)])), ((q 1), .inl (cI, 1216, .inl ce)), ((q 2), .inl (cI, 19, .inl mv))] t.heap ∧ va_K D tdC [(cI, .int)] t ∧ va_D (va_A [(o, .inr (1, [.int th, .ref (q 1), .ref (q 2), .ref (q 3), .ref (q 4), .int md, .ref (q 6), .ref (q 7), .ref (q 8), .ref (q 9), .int ch, .ref (q 11), .int sc, .ref (q 13)])), ((q 1), .inl (cI, 1216, .inl ce)), ((q 2), .inl (cI, 19, .inl mv))] sz) [(o, .inr (1, [.int (td_bad q0 1), .ref (q 1), .ref (q 2), .ref (q 3), .ref (q 4), .int md, .ref (q 6), .ref (q 7), .ref (q 8), .ref (q 9), .int ch, .ref (q 11), .int sc, .ref (q 13)])), ((q 1), .inl (cI, 1216, .inl ce)), ((q 2), .inl (cI, 19, .inl mv))]) (va_A [(o, .inr (1, [.int th, .ref (q 1), .ref (q 2), .ref (q 3), .ref (q 4), .int md, .ref (q 6), .ref (q 7), .ref (q 8), .ref (q 9), .int ch, .ref (q 11), .int sc, .ref (q 13)])), ((q 1), .inl (cI, 1216, .inl ce)), ((q 2), .inl (cI, 19, .inl mv))] sz)) 0 0 (va_A [(o, .inr (1, [.int th, .ref (q 1), .ref (q 2), .ref (q 3), .ref (q 4), .int md, .ref (q 6), .ref (q 7), .ref (q 8), .ref (q 9), .int ch, .ref (q 11), .int sc, .ref (q 13)])), ((q 1), .inl (cI, 1216, .inl ce)), ((q 2), .inl (cI, 19, .inl mv))] sz) := by
  refine Met.ofW (cc := c_X1_border) (maxL := 8) (ret := (some .int)) (by decide) rfl ?_
  intro p e s m args below meth c s₁ B hml hv
  obtain ⟨rfl, hsz, hP, hK, hD0⟩ := hv
  have hx := B.exec
  have hb := B.bytes
  have hr := B.returns
  have hts : ∀ w ∈ tw, w.before _ s = true := fun w h => atoms_spec (ws := k_X1_border :: tw) B.pre w (List.mem_cons_of_mem _ h)
  have hown : s.vm.findClass RX1 = some m.cls := findClass_of_methodNamed B.named
  have hlocks := B.notSynchronized
  subst hsz
  have hD := hD0.self (sz := s.heap.size)
  generalize hAe : va_A [(o, .inr (1, [.int th, .ref (q 1), .ref (q 2), .ref (q 3), .ref (q 4), .int md, .ref (q 6), .ref (q 7), .ref (q 8), .ref (q 9), .int ch, .ref (q 11), .int sc, .ref (q 13)])), ((q 1), .inl (cI, 1216, .inl ce)), ((q 2), .inl (cI, 19, .inl mv))] s.heap.size = A at hD ⊢
  have hA : ∀ q : Nat, s.heap.size ≤ q → A q := fun q h => by rw [← hAe]; exact Or.inr h
  have hS : va_S A s.heap s.heap [] := va_S.rf
  have hP : va_P D tdC [(o, .inr (1, [.int th, .ref (q 1), .ref (q 2), .ref (q 3), .ref (q 4), .int md, .ref (q 6), .ref (q 7), .ref (q 8), .ref (q 9), .int ch, .ref (q 11), .int sc, .ref (q 13)])), ((q 1), .inl (cI, 1216, .inl ce)), ((q 2), .inl (cI, 19, .inl mv))] s.heap := hP
  have hl := lv_entry ([.ref o, .int q0]) (n := 8) (Nat.le_of_ble_eq_true rfl)
  rw [lg_entry_eq]
  generalize (lg_sl ([.ref o, .int q0]) ++ List.replicate (8 - (lg_sl ([.ref o, .int q0])).length) Slot.unset).toArray = ls at hl ⊢
  have hl : lv_has ls 8 [(0, .ref o), (1, .int q0)] := hl
  refine lv_aload_n hx hb d_X1_border_0 rfl (lv_at hl 0 rfl) ?_
  refine td_joini 15 ls [.ref o] (fun x => x = td_bad q0 1) (fun x ex => ?_) (fun J => ?_)
  · subst ex
    refine va_put (D := D) (ci := 1) (v := .int (td_bad q0 1)) (ty := .int) (C := RX1) (T := TX1) (N := 14) hx hb hts usX1 tyX1 tyX1_ok nmX1 hown hK hP hD hS 0 rfl rfl 0 (by decide) (hts _ fl_X1_45) (fun _ h9 => h9) rfl (by decide +kernel) rfl rfl (Nat.le_of_ble_eq_true rfl) d_X1_border_15 (fun H locs hP hD hS => ?_)
    have hP : va_P D tdC [(o, .inr (1, [.int (td_bad q0 1), .ref (q 1), .ref (q 2), .ref (q 3), .ref (q 4), .int md, .ref (q 6), .ref (q 7), .ref (q 8), .ref (q 9), .int ch, .ref (q 11), .int sc, .ref (q 13)])), ((q 1), .inl (cI, 1216, .inl ce)), ((q 2), .inl (cI, 19, .inl mv))] H := hP
    have hD : va_D A [(o, .inr (1, [.int (td_bad q0 1), .ref (q 1), .ref (q 2), .ref (q 3), .ref (q 4), .int md, .ref (q 6), .ref (q 7), .ref (q 8), .ref (q 9), .int ch, .ref (q 11), .int sc, .ref (q 13)])), ((q 1), .inl (cI, 1216, .inl ce)), ((q 2), .inl (cI, 19, .inl mv))] := hD
    have hP2 := hP.sub (ws' := [(o, .inr (1, [.int (td_bad q0 1), .ref (q 1), .ref (q 2), .ref (q 3), .ref (q 4), .int md, .ref (q 6), .ref (q 7), .ref (q 8), .ref (q 9), .int ch, .ref (q 11), .int sc, .ref (q 13)])), ((q 1), .inl (cI, 1216, .inl ce))]) [0, 1] rfl
    refine lv_iconst (v := 0) hx hb d_X1_border_18 (by decide) ?_
    refine lv_istore_n hx hb d_X1_border_19 rfl hl (by decide) rfl (fun ls hl => ?_)
    have hl : lv_has ls 8 [(2, .int 0), (0, .ref o), (1, .int q0)] := hl
    refine lv_iconst (v := 0) hx hb d_X1_border_20 (by decide) ?_
    refine lv_istore_n hx hb d_X1_border_21 rfl hl (by decide) rfl (fun ls hl => ?_)
    have hl : lv_has ls 8 [(3, .int 0), (2, .int 0), (0, .ref o), (1, .int q0)] := hl
    have hl0 := lv_sub hl [2, 3, 1, 0] rfl
    refine td_loop 22 [] (fun i : Nat => 64 - i) (fun i ls => i ≤ 64 ∧ lv_has ls 8 [(0, .ref o), (1, .int q0), (2, .int (nI (td_cn (fun u => decide ((td_lv ce 0) u = 0) && td_nbs (td_lv ce 0) (q0 + 1) u) i))), (3, .int (nI i))]) (fun i ls hC ih => ?_) 0 ⟨Nat.zero_le _, hl0⟩
    clear hl hl0
    obtain ⟨hi, hl⟩ := hC
    have hl : lv_has ls 8 [(0, .ref o), (1, .int q0), (2, .int (nI (td_cn (fun u => decide ((td_lv ce 0) u = 0) && td_nbs (td_lv ce 0) (q0 + 1) u) i))), (3, .int (nI i))] := hl
    refine lv_iload_n hx hb d_X1_border_22 rfl (lv_at hl 3 rfl) ?_
    refine lv_bipush (v := 64) hx hb d_X1_border_23 (by decide) ?_
    refine lv_icmp_ge (tgt := 143) hx hb d_X1_border_25 (by decide) (fun h1 => ?_) (fun h1 => ?_)
    · have h64 : i = 64 := Nat.le_antisymm hi ((nI_leI (a := 64) (b := i) (by decide) (by omega)).mp h1)
      subst h64
      refine lv_iload_n hx hb d_X1_border_143 rfl (lv_at hl 2 rfl) ?_
      exact W.iret (v := (nI (td_cn (fun u => decide ((td_lv ce 0) u = 0) && td_nbs (td_lv ce 0) (q0 + 1) u) 64))) hx hb hr (fun t ht hW => ⟨⟨_, (), rfl, fun _ => rfl, by rw [ht]; exact hP, va_K.moved hW.alike hK, hD⟩, hS.F ht⟩) hS.2.2 d_X1_border_144
    · have h64 : i < 64 := Nat.lt_of_not_le (fun z => h1 ((nI_leI (a := 64) (b := i) (by decide) (by omega)).mpr z))
      have hcs := td_cn_s (fun u => decide ((td_lv ce 0) u = 0) && td_nbs (td_lv ce 0) (q0 + 1) u) i
      refine lv_aload_n hx hb d_X1_border_28 rfl (lv_at hl 0 rfl) ?_
      refine va_get (D := D) (ci := 1) (v := .int (td_bad q0 1)) (C := RX1) (T := TX1) (N := 14) hx hb hts usX1 hown hK hP 0 rfl rfl 0 (by decide) (hts _ fl_X1_45) (fun _ h9 => h9) rfl d_X1_border_29 ?_
      refine lv_if_ne (tgt := 143) hx hb d_X1_border_32 (by decide) (fun h3 => ?_) (fun h3 => ?_)
      · refine lv_iload_n hx hb d_X1_border_143 rfl (lv_at hl 2 rfl) ?_
        exact W.iret (v := (nI (td_cn (fun u => decide ((td_lv ce 0) u = 0) && td_nbs (td_lv ce 0) (q0 + 1) u) i))) hx hb hr (fun t ht hW => ⟨⟨_, (), rfl, fun z => absurd z h3, by rw [ht]; exact hP, va_K.moved hW.alike hK, hD⟩, hS.F ht⟩) hS.2.2 d_X1_border_144
      · refine lv_iconst (v := 0) hx hb d_X1_border_35 (by decide) ?_
        refine lv_istore hx hb d_X1_border_36 hl (by decide) rfl (fun ls hl => ?_)
        have hl : lv_has ls 8 [(4, .int 0), (0, .ref o), (1, .int q0), (2, .int (nI (td_cn (fun u => decide ((td_lv ce 0) u = 0) && td_nbs (td_lv ce 0) (q0 + 1) u) i))), (3, .int (nI i))] := hl
        refine lv_iconst (v := 0) hx hb d_X1_border_38 (by decide) ?_
        refine lv_istore hx hb d_X1_border_39 hl (by decide) rfl (fun ls hl => ?_)
        have hl : lv_has ls 8 [(5, .int 0), (4, .int 0), (0, .ref o), (1, .int q0), (2, .int (nI (td_cn (fun u => decide ((td_lv ce 0) u = 0) && td_nbs (td_lv ce 0) (q0 + 1) u) i))), (3, .int (nI i))] := hl
        have hl0 := lv_sub hl [2, 3, 4, 5, 1, 0] rfl
        refine td_loop 41 [] (fun z : Nat × Int32 => 8 - z.1) (fun z ls => (z.1 ≤ 8 ∧ ((z.2 = 1 ∧ ∃ v, v < z.1 ∧ td_nb (td_lv ce 0) (q0 + 1) i v) ∨ (z.2 = 0 ∧ ∀ v, v < z.1 → ¬ td_nb (td_lv ce 0) (q0 + 1) i v))) ∧ lv_has ls 8 [(0, .ref o), (1, .int q0), (2, .int (nI (td_cn (fun u => decide ((td_lv ce 0) u = 0) && td_nbs (td_lv ce 0) (q0 + 1) u) i))), (3, .int (nI i)), (4, .int (z.2)), (5, .int (nI z.1))]) (fun z ls hC ih2 => ?_) (0, 0) ⟨⟨Nat.zero_le _, Or.inr ⟨rfl, fun v h => absurd h (Nat.not_lt_zero v)⟩⟩, hl0⟩
        clear hl hl0
        obtain ⟨hi, hl⟩ := hC
        have hl : lv_has ls 8 [(0, .ref o), (1, .int q0), (2, .int (nI (td_cn (fun u => decide ((td_lv ce 0) u = 0) && td_nbs (td_lv ce 0) (q0 + 1) u) i))), (3, .int (nI i)), (4, .int (z.2)), (5, .int (nI z.1))] := hl
        obtain ⟨w0, y0⟩ := z
        obtain ⟨hw8, hor⟩ := hi
        dsimp only at hw8 hor
        have hl : lv_has ls 8 [(0, .ref o), (1, .int q0), (2, .int (nI (td_cn (fun u => decide ((td_lv ce 0) u = 0) && td_nbs (td_lv ce 0) (q0 + 1) u) i))), (3, .int (nI i)), (4, .int y0), (5, .int (nI w0))] := hl
        refine lv_iload hx hb d_X1_border_41 (lv_at hl 5 rfl) ?_
        refine lv_bipush (v := 8) hx hb d_X1_border_43 (by decide) ?_
        refine lv_icmp_ge (tgt := 115) hx hb d_X1_border_45 (by decide) (fun h4 => ?_) (fun h4 => ?_)
        · have hw : w0 = 8 := Nat.le_antisymm hw8 ((nI_leI (a := 8) (b := w0) (by decide) (by omega)).mp h4)
          subst hw
          have hl : lv_has ls 8 [(0, .ref o), (1, .int q0), (2, .int (nI (td_cn (fun u => decide ((td_lv ce 0) u = 0) && td_nbs (td_lv ce 0) (q0 + 1) u) i))), (3, .int (nI i)), (4, .int y0)] := lv_sub hl [0, 1, 2, 3, 4] rfl
          refine lv_aload_n hx hb d_X1_border_115 rfl (lv_at hl 0 rfl) ?_
          refine va_get (D := D) (ci := 1) (v := .ref (q 1)) (C := RX1) (T := TX1) (N := 14) hx hb hts usX1 hown hK hP 0 rfl rfl 1 (by decide) (hts _ fl_X1_7) (fun _ h9 => h9) rfl d_X1_border_116 ?_
          refine lv_iload_n hx hb d_X1_border_119 rfl (lv_at hl 3 rfl) ?_
          refine va_iald hx hb hK hP 1 0 rfl rfl (vp_in_nI (show i < 1216 by omega) (by decide)) d_X1_border_120 ?_
          refine td_i (y := (td_lv ce 0 i)) (by rw [nI_clamp (by omega)]; unfold td_lv; rw [Nat.mul_zero, Nat.zero_add]) ?_
          refine td_joini 136 ls [] (fun x => x = nI (td_cn (fun u => decide ((td_lv ce 0) u = 0) && td_nbs (td_lv ce 0) (q0 + 1) u) (i + 1))) (fun x ex => ?_) (fun J => ?_)
          · subst ex
            refine lv_istore_n hx hb d_X1_border_136 rfl hl (by decide) rfl (fun ls hl => ?_)
            have hl : lv_has ls 8 [(2, .int (nI (td_cn (fun u => decide ((td_lv ce 0) u = 0) && td_nbs (td_lv ce 0) (q0 + 1) u) (i + 1)))), (0, .ref o), (1, .int q0), (3, .int (nI i)), (4, .int y0)] := hl
            refine lv_iinc (k := 3) (v := (nI (i + 1))) hx hb d_X1_border_137 hl rfl ((nI_succ i).symm) (by decide) rfl (fun ls hl => ?_)
            have hl : lv_has ls 8 [(3, .int (nI (i + 1))), (2, .int (nI (td_cn (fun u => decide ((td_lv ce 0) u = 0) && td_nbs (td_lv ce 0) (q0 + 1) u) (i + 1)))), (0, .ref o), (1, .int q0), (4, .int y0)] := hl
            refine lv_goto (tgt := 22) hx hb d_X1_border_140 (by decide) ?_
            have hl1 := lv_sub hl [2, 3, 1, 0] rfl
            exact ih (i + 1) _ (by omega) ⟨h64, hl1⟩
          · refine lv_if_ne (tgt := 135) hx hb d_X1_border_121 (by decide) (fun h5 => ?_) (fun h5 => ?_)
            · refine lv_iload_n hx hb d_X1_border_135 rfl (lv_at hl 2 rfl) ?_
              exact J _ (by rw [hcs, if_neg (fun z => h5 (of_decide_eq_true (Bool.and_eq_true _ _ ▸ z).1)), Nat.add_zero])
            · refine lv_iload hx hb d_X1_border_124 (lv_at hl 4 rfl) ?_
              refine lv_if_eq (tgt := 135) hx hb d_X1_border_126 (by decide) (fun h6 => ?_) (fun h6 => ?_)
              · refine lv_iload_n hx hb d_X1_border_135 rfl (lv_at hl 2 rfl) ?_
                exact J _ (by rw [hcs, if_neg (fun z => by obtain ⟨v, hv, hn⟩ := (td_nbs_iff _ _ _).mp (Bool.and_eq_true _ _ ▸ z).2; exact hor.elim (fun y => absurd (y.1.symm.trans h6) (by decide)) (fun y => y.2 v hv hn)), Nat.add_zero])
              · refine lv_iload_n hx hb d_X1_border_129 rfl (lv_at hl 2 rfl) ?_
                refine lv_iconst (v := 1) hx hb d_X1_border_130 (by decide) ?_
                refine lv_iadd hx hb d_X1_border_131 ?_
                refine lv_goto (tgt := 136) hx hb d_X1_border_132 (by decide) ?_
                have hnb : td_nbs (td_lv ce 0) (q0 + 1) i = true := (td_nbs_iff _ _ _).mpr (hor.elim (fun y => y.2) (fun y => absurd y.1 h6))
                exact J _ (by rw [hcs, if_pos (by rw [hnb, decide_eq_true h5]; rfl)]; exact (nI_succ _).symm)
        · have hw : w0 < 8 := Nat.lt_of_not_le (fun z => h4 ((nI_leI (a := 8) (b := w0) (by decide) (by omega)).mpr z))
          have hgeo := td_ps_on (w := w0) (s := i) (j := 1) hw h64 (by omega)
          refine lv_iload_n hx hb d_X1_border_48 rfl (lv_at hl 3 rfl) ?_
          refine lv_bipush (v := 8) hx hb d_X1_border_49 (by decide) ?_
          refine lv_idiv hx hb d_X1_border_51 (by decide) ?_
          refine lv_iload hx hb d_X1_border_52 (lv_at hl 5 rfl) ?_
          refine vp_callSi (W.runS (As := [.int (nI w0)]) (rest := [.int ((nI i) / 8)]) ⟨hx, hb, hml, hown, hts⟩ (m_X1_rowWay l (nI w0)) (va_cwS 1 hts (tw_S ml_X1_52 st_X1_rowWay in_X1 kw_X1_rowWay) rfl rfl rfl (by decide +kernel) ⟨Nat.le_of_ble_eq_true rfl, Nat.le_of_ble_eq_true rfl⟩) ⟨fun _ _ _ _ q => q, fun U hU hW => ⟨rfl, trivial⟩⟩ rfl rfl hl.1 rfl (lv_room (Nat.le_of_ble_eq_true rfl)) d_X1_border_54 ⟨Nat.zero_le _, Nat.zero_le _⟩) (fun r h9 => ?_)
          subst h9
          refine lv_iadd hx hb d_X1_border_57 ?_
          refine td_i (y := (td_r w0 i 1)) (rfl) ?_
          refine lv_istore hx hb d_X1_border_58 hl (by decide) rfl (fun ls hl => ?_)
          have hl : lv_has ls 8 [(6, .int (td_r w0 i 1)), (0, .ref o), (1, .int q0), (2, .int (nI (td_cn (fun u => decide ((td_lv ce 0) u = 0) && td_nbs (td_lv ce 0) (q0 + 1) u) i))), (3, .int (nI i)), (4, .int y0), (5, .int (nI w0))] := hl
          refine lv_iload_n hx hb d_X1_border_60 rfl (lv_at hl 4 rfl) ?_
          refine lv_bipush (v := 8) hx hb d_X1_border_61 (by decide) ?_
          refine lv_irem hx hb d_X1_border_63 (by decide) ?_
          refine lv_iload hx hb d_X1_border_64 (lv_at hl 6 rfl) ?_
          refine vp_callSi (W.runS (As := [.int (nI w0)]) (rest := [.int ((nI i) - (nI i) / 8 * 8)]) ⟨hx, hb, hml, hown, hts⟩ (m_X1_columnWay l (nI w0)) (va_cwS 1 hts (tw_S ml_X1_56 st_X1_columnWay in_X1 kw_X1_columnWay) rfl rfl rfl (by decide +kernel) ⟨Nat.le_of_ble_eq_true rfl, Nat.le_of_ble_eq_true rfl⟩) ⟨fun _ _ _ _ q => q, fun U hU hW => ⟨rfl, trivial⟩⟩ rfl rfl hl.1 rfl (lv_room (Nat.le_of_ble_eq_true rfl)) d_X1_border_66 ⟨Nat.zero_le _, Nat.zero_le _⟩) (fun r h9 => ?_)
          subst h9
          refine lv_iadd hx hb d_X1_border_69 ?_
          refine td_i (y := (td_c w0 i 1)) (rfl) ?_
          refine lv_istore hx hb d_X1_border_70 hl (by decide) rfl (fun ls hl => ?_)
          have hl : lv_has ls 8 [(7, .int (td_c w0 i 1)), (6, .int (td_r w0 i 1)), (0, .ref o), (1, .int q0), (2, .int (nI (td_cn (fun u => decide ((td_lv ce 0) u = 0) && td_nbs (td_lv ce 0) (q0 + 1) u) i))), (3, .int (nI i)), (4, .int y0), (5, .int (nI w0))] := hl
          refine td_joini 107 ls [] (fun x => (x = 1 ∧ (y0 = 1 ∨ td_nb (td_lv ce 0) (q0 + 1) i w0)) ∨ (x = 0 ∧ y0 = 0 ∧ ¬ td_nb (td_lv ce 0) (q0 + 1) i w0)) (fun x ex => ?_) (fun J => ?_)
          · refine lv_istore hx hb d_X1_border_107 hl (by decide) rfl (fun ls hl => ?_)
            have hl : lv_has ls 8 [(4, .int x), (7, .int (td_c w0 i 1)), (6, .int (td_r w0 i 1)), (0, .ref o), (1, .int q0), (2, .int (nI (td_cn (fun u => decide ((td_lv ce 0) u = 0) && td_nbs (td_lv ce 0) (q0 + 1) u) i))), (3, .int (nI i)), (5, .int (nI w0))] := hl
            refine lv_iinc (k := 7) (v := (nI (w0 + 1))) hx hb d_X1_border_109 hl rfl ((nI_succ w0).symm) (by decide) rfl (fun ls hl => ?_)
            have hl : lv_has ls 8 [(5, .int (nI (w0 + 1))), (4, .int x), (7, .int (td_c w0 i 1)), (6, .int (td_r w0 i 1)), (0, .ref o), (1, .int q0), (2, .int (nI (td_cn (fun u => decide ((td_lv ce 0) u = 0) && td_nbs (td_lv ce 0) (q0 + 1) u) i))), (3, .int (nI i))] := hl
            refine lv_goto (tgt := 41) hx hb d_X1_border_112 (by decide) ?_
            have hl1 := lv_sub hl [4, 5, 6, 7, 1, 0] rfl
            exact ih2 (w0 + 1, x) _ (by show 8 - (w0 + 1) < 8 - w0; omega) ⟨⟨hw, by
              rcases ex with ⟨e1, e2⟩ | ⟨e1, e2, e3⟩
              · refine Or.inl ⟨e1, ?_⟩
                rcases e2 with e2 | e2
                · obtain ⟨v, hv, hn⟩ := hor.elim (fun y => y.2) (fun y => absurd (y.1.symm.trans e2) (by decide))
                  exact ⟨v, Nat.lt_succ_of_lt hv, hn⟩
                · exact ⟨w0, Nat.lt_succ_self _, e2⟩
              · refine Or.inr ⟨e1, fun v hv => ?_⟩
                by_cases hvw : v = w0
                · rw [hvw]; exact e3
                · exact hor.elim (fun y => absurd (y.1.symm.trans e2) (by decide)) (fun y => y.2 v (by have : v < w0 + 1 := hv; omega))⟩, hl1⟩
          · refine td_joinu 102 ls [] (y0 = 1 ∨ td_nb (td_lv ce 0) (q0 + 1) i w0) (fun hy => ?_) (fun J3 => ?_)
            · refine lv_iconst (v := 1) hx hb d_X1_border_102 (by decide) ?_
              refine lv_goto (tgt := 107) hx hb d_X1_border_103 (by decide) ?_
              exact J _ (Or.inl ⟨rfl, hy⟩)
            · refine lv_iload hx hb d_X1_border_72 (lv_at hl 6 rfl) ?_
              refine lv_if_ne (tgt := 102) hx hb d_X1_border_74 (by decide) (fun h5 => ?_) (fun h5 => ?_)
              · exact J3 (Or.inl (hor.elim (fun y => y.1) (fun y => absurd y.1 h5)))
              · refine lv_iload hx hb d_X1_border_77 (lv_at hl 1 rfl) ?_
                refine lv_iload hx hb d_X1_border_79 (lv_at hl 0 rfl) ?_
                refine vp_callSi (W.runS (As := [.int (td_r w0 i 1), .int (td_c w0 i 1)]) (rest := []) ⟨hx, hb, hml, hown, hts⟩ (m_X1_isOn l (td_r w0 i 1) (td_c w0 i 1)) (va_cwS 2 hts (tw_S ml_X1_59 st_X1_isOn in_X1 kw_X1_isOn) rfl rfl rfl (by decide +kernel) ⟨Nat.le_of_ble_eq_true rfl, Nat.le_of_ble_eq_true rfl⟩) ⟨fun _ _ _ _ q => q, fun U hU hW => ⟨rfl, trivial⟩⟩ rfl rfl hl.1 rfl (lv_room (Nat.le_of_ble_eq_true rfl)) d_X1_border_81 ⟨Nat.zero_le _, Nat.zero_le _⟩) (fun r hq => ?_)
                refine lv_if_eq (tgt := 106) hx hb d_X1_border_84 (by decide) (fun h6 => ?_) (fun h6 => ?_)
                · refine lv_iconst (v := 0) hx hb d_X1_border_106 (by decide) ?_
                  exact J _ (Or.inr ⟨rfl, h5, fun z => hq.elim (fun y => absurd (y.2.symm.trans h6) (by decide)) (fun y => y.1 (hgeo.mpr z.1))⟩)
                · have hon := hq.elim (fun y => y.1) (fun y => absurd y.2 h6)
                  obtain ⟨g1, g2, g3, g4⟩ := td_geo hw h64 (by omega) hon
                  refine lv_aload_n hx hb d_X1_border_87 rfl (lv_at hl 2 rfl) ?_
                  refine lv_iconst (v := 0) hx hb d_X1_border_88 (by decide) ?_
                  refine lv_iload hx hb d_X1_border_89 (lv_at hl 1 rfl) ?_
                  refine lv_iload hx hb d_X1_border_91 (lv_at hl 0 rfl) ?_
                  refine vp_callSi (W.runV (b := o) (C := RX1) (As := [.int 0, .int (td_r w0 i 1), .int (td_c w0 i 1)]) (rest := []) ⟨hx, hb, hml, hown, hts⟩ (m_X1_cellOf l D o (q 1) cI [.int (td_bad q0 1), .ref (q 1), .ref (q 2), .ref (q 3), .ref (q 4), .int md, .ref (q 6), .ref (q 7), .ref (q 8), .ref (q 9), .int ch, .ref (q 11), .int sc, .ref (q 13)] rfl ce 0 (by decide) _ _ (td_ps w0 i 1 / 8) (td_ps w0 i 1 % 8) (by omega) (by omega) g2 g3) (cwV 3 hts (tw_V ml_X1_63 im_X1_cellOf se_X1_cellOf in_X1 kw_X1_cellOf) rfl rfl rfl (by decide +kernel) ⟨Nat.le_of_ble_eq_true rfl, Nat.le_of_ble_eq_true rfl⟩) ⟨fun a U g mk q => ⟨q.1, q.2.1, va_K.moved (u := U) (U := U.calling g mk a) (Vm.Alike.refl U.vm) q.2.2⟩, va_recv (q0 := 0) (ci := 1) hK hP rfl rfl, fun U hU hW => ⟨rfl, by rw [hU]; exact hP2, va_K.moved hW.alike hK⟩⟩ rfl rfl hl.1 rfl (lv_room (Nat.le_of_ble_eq_true rfl)) d_X1_border_93 ⟨Nat.zero_le _, Nat.zero_le _⟩) (fun r h9 => ?_)
                  subst h9
                  refine td_i (y := (td_lv ce 0 (td_ps w0 i 1))) (by rw [Nat.div_add_mod]; rfl) ?_
                  refine lv_iload_n hx hb d_X1_border_96 rfl (lv_at hl 3 rfl) ?_
                  refine lv_iconst (v := 1) hx hb d_X1_border_97 (by decide) ?_
                  refine lv_iadd hx hb d_X1_border_98 ?_
                  refine lv_icmp_ne (tgt := 106) hx hb d_X1_border_99 (by decide) (fun h7 => ?_) (fun h7 => ?_)
                  · refine lv_iconst (v := 0) hx hb d_X1_border_106 (by decide) ?_
                    exact J _ (Or.inr ⟨rfl, h5, fun z => h7 z.2⟩)
                  · exact J3 (Or.inr ⟨g1, h7⟩)
  · refine lv_iload_n hx hb d_X1_border_1 rfl (lv_at hl 1 rfl) ?_
    refine lv_if_lt (tgt := 10) hx hb d_X1_border_2 (by decide) (fun h0 => ?_) (fun h0 => ?_)
    · refine lv_iconst (v := 1) hx hb d_X1_border_10 (by decide) ?_
      refine lv_goto (tgt := 15) hx hb d_X1_border_11 (by decide) ?_
      exact J _ (by unfold td_bad; rw [if_pos (Or.inl h0)])
    · refine lv_iload_n hx hb d_X1_border_5 rfl (lv_at hl 1 rfl) ?_
      refine lv_iconst (v := 1) hx hb d_X1_border_6 (by decide) ?_
      refine lv_icmp_le (tgt := 14) hx hb d_X1_border_7 (by decide) (fun h1 => ?_) (fun h1 => ?_)
      · refine lv_iconst (v := 0) hx hb d_X1_border_14 (by decide) ?_
        exact J _ (by unfold td_bad; rw [if_neg (fun z => z.elim h0 (fun z => absurd z (Int32.not_lt.mpr h1)))])
      · refine lv_iconst (v := 1) hx hb d_X1_border_10 (by decide) ?_
        refine lv_goto (tgt := 15) hx hb d_X1_border_11 (by decide) ?_
        exact J _ (by unfold td_bad; rw [if_pos (Or.inr (Int32.not_le.mp h1))])
set_option maxHeartbeats 4000000 in
set_option maxRecDepth 100000 in
theorem m_X1_safe (l : Launch) (D : va_G) (sz : Nat) (o : Nat) (q : Nat → Nat) (th md ch sc : Int32) (cI : ClassId) (ce mv : Nat → Int32) (q0 : Int32) : Met l y_X1_safe (k_X1_safe :: tw) ({ frames := 2, cells := 0, slots := 0, locals := 48 }) (va_Pc [.ref o, .int q0] (fun U => U.heap.size = sz ∧ va_P D tdC [(o, .inr (1, [.int th, .ref (q 1), .ref (q 2), .ref (q 3), .ref (q 4), .int md, .ref (q 6), .ref (q 7), .ref (q 8), .ref (q 9), .int ch, .ref (q 11), .int sc, .ref (q 13)])), ((q 1), .inl (cI, 1216, .inl ce)), ((q 2), .inl (cI, 19, .inl mv))] U.heap ∧ va_K D tdC [(cI, .int)] U ∧ va_D (fun _ => True) [(o, .inr (1, [.int th, .ref (q 1), .ref (q 2), .ref (q 3), .ref (q 4), .int md, .ref (q 6), .ref (q 7), .ref (q 8), .ref (q 9), .int ch, .ref (q 11), .int sc, .ref (q 13)])), ((q 1), .inl (cI, 1216, .inl ce)), ((q 2), .inl (cI, 19, .inl mv))])) (va_Ql (fun (r : Int64) (_ : Unit) => td_bad q0 1 = 0 → r = td_bs (fun u => td_sf (td_lv ce 0) q0 u) 64) (fun (_ : Unit) t => va_P D tdC [(o, .inr (1, [.int (td_bad q0 1), .ref (q 1), .ref (q 2), .ref (q 3), .ref (q 4), .int md, .ref (q 6), .ref (q 7), .ref (q 8), .ref (q 9), .int ch, .ref (q 11), .int sc, .ref (q 13)])), ((q 1), .inl (cI, 1216, .inl ce)), ((q 2), .inl (cI, 19, .inl mv))] t.heap ∧ va_K D tdC [(cI, .int)] t ∧ va_D (va_A [(o, .inr (1, [.int th, .ref (q 1), .ref (q 2), .ref (q 3), .ref (q 4), .int md, .ref (q 6), .ref (q 7), .ref (q 8), .ref (q 9), .int ch, .ref (q 11), .int sc, .ref (q 13)])), ((q 1), .inl (cI, 1216, .inl ce)), ((q 2), .inl (cI, 19, .inl mv))] sz) [(o, .inr (1, [.int (td_bad q0 1), .ref (q 1), .ref (q 2), .ref (q 3), .ref (q 4), .int md, .ref (q 6), .ref (q 7), .ref (q 8), .ref (q 9), .int ch, .ref (q 11), .int sc, .ref (q 13)])), ((q 1), .inl (cI, 1216, .inl ce)), ((q 2), .inl (cI, 19, .inl mv))]) (va_A [(o, .inr (1, [.int th, .ref (q 1), .ref (q 2), .ref (q 3), .ref (q 4), .int md, .ref (q 6), .ref (q 7), .ref (q 8), .ref (q 9), .int ch, .ref (q 11), .int sc, .ref (q 13)])), ((q 1), .inl (cI, 1216, .inl ce)), ((q 2), .inl (cI, 19, .inl mv))] sz)) 0 0 (va_A [(o, .inr (1, [.int th, .ref (q 1), .ref (q 2), .ref (q 3), .ref (q 4), .int md, .ref (q 6), .ref (q 7), .ref (q 8), .ref (q 9), .int ch, .ref (q 11), .int sc, .ref (q 13)])), ((q 1), .inl (cI, 1216, .inl ce)), ((q 2), .inl (cI, 19, .inl mv))] sz) := by
  refine Met.ofW (cc := c_X1_safe) (maxL := 7) (ret := (some .long)) (by decide) rfl ?_
  intro p e s m args below meth c s₁ B hml hv
  obtain ⟨rfl, hsz, hP, hK, hD0⟩ := hv
  have hx := B.exec
  have hb := B.bytes
  have hr := B.returns
  have hts : ∀ w ∈ tw, w.before _ s = true := fun w h => atoms_spec (ws := k_X1_safe :: tw) B.pre w (List.mem_cons_of_mem _ h)
  have hown : s.vm.findClass RX1 = some m.cls := findClass_of_methodNamed B.named
  have hlocks := B.notSynchronized
  subst hsz
  have hD := hD0.self (sz := s.heap.size)
  generalize hAe : va_A [(o, .inr (1, [.int th, .ref (q 1), .ref (q 2), .ref (q 3), .ref (q 4), .int md, .ref (q 6), .ref (q 7), .ref (q 8), .ref (q 9), .int ch, .ref (q 11), .int sc, .ref (q 13)])), ((q 1), .inl (cI, 1216, .inl ce)), ((q 2), .inl (cI, 19, .inl mv))] s.heap.size = A at hD ⊢
  have hA : ∀ q : Nat, s.heap.size ≤ q → A q := fun q h => by rw [← hAe]; exact Or.inr h
  have hS : va_S A s.heap s.heap [] := va_S.rf
  have hP : va_P D tdC [(o, .inr (1, [.int th, .ref (q 1), .ref (q 2), .ref (q 3), .ref (q 4), .int md, .ref (q 6), .ref (q 7), .ref (q 8), .ref (q 9), .int ch, .ref (q 11), .int sc, .ref (q 13)])), ((q 1), .inl (cI, 1216, .inl ce)), ((q 2), .inl (cI, 19, .inl mv))] s.heap := hP
  have hl := lv_entry ([.ref o, .int q0]) (n := 7) (Nat.le_of_ble_eq_true rfl)
  rw [lg_entry_eq]
  generalize (lg_sl ([.ref o, .int q0]) ++ List.replicate (7 - (lg_sl ([.ref o, .int q0])).length) Slot.unset).toArray = ls at hl ⊢
  have hl : lv_has ls 7 [(0, .ref o), (1, .int q0)] := hl
  refine lv_aload_n hx hb d_X1_safe_0 rfl (lv_at hl 0 rfl) ?_
  refine td_joini 15 ls [.ref o] (fun x => x = td_bad q0 1) (fun x ex => ?_) (fun J => ?_)
  · subst ex
    refine va_put (D := D) (ci := 1) (v := .int (td_bad q0 1)) (ty := .int) (C := RX1) (T := TX1) (N := 14) hx hb hts usX1 tyX1 tyX1_ok nmX1 hown hK hP hD hS 0 rfl rfl 0 (by decide) (hts _ fl_X1_45) (fun _ h9 => h9) rfl (by decide +kernel) rfl rfl (Nat.le_of_ble_eq_true rfl) d_X1_safe_15 (fun H locs hP hD hS => ?_)
    have hP : va_P D tdC [(o, .inr (1, [.int (td_bad q0 1), .ref (q 1), .ref (q 2), .ref (q 3), .ref (q 4), .int md, .ref (q 6), .ref (q 7), .ref (q 8), .ref (q 9), .int ch, .ref (q 11), .int sc, .ref (q 13)])), ((q 1), .inl (cI, 1216, .inl ce)), ((q 2), .inl (cI, 19, .inl mv))] H := hP
    have hD : va_D A [(o, .inr (1, [.int (td_bad q0 1), .ref (q 1), .ref (q 2), .ref (q 3), .ref (q 4), .int md, .ref (q 6), .ref (q 7), .ref (q 8), .ref (q 9), .int ch, .ref (q 11), .int sc, .ref (q 13)])), ((q 1), .inl (cI, 1216, .inl ce)), ((q 2), .inl (cI, 19, .inl mv))] := hD
    have hP2 := hP.sub (ws' := [(o, .inr (1, [.int (td_bad q0 1), .ref (q 1), .ref (q 2), .ref (q 3), .ref (q 4), .int md, .ref (q 6), .ref (q 7), .ref (q 8), .ref (q 9), .int ch, .ref (q 11), .int sc, .ref (q 13)])), ((q 1), .inl (cI, 1216, .inl ce))]) [0, 1] rfl
    refine lv_lconst (v := 0) hx hb d_X1_safe_18 (by decide) ?_
    refine lv_lstore_n hx hb d_X1_safe_19 rfl hl (by decide) rfl (fun ls hl => ?_)
    have hl : lv_has ls 7 [(2, .long 0), (0, .ref o), (1, .int q0)] := hl
    refine lv_iconst (v := 0) hx hb d_X1_safe_20 (by decide) ?_
    refine lv_istore hx hb d_X1_safe_21 hl (by decide) rfl (fun ls hl => ?_)
    have hl : lv_has ls 7 [(4, .int 0), (2, .long 0), (0, .ref o), (1, .int q0)] := hl
    have hl0 := lv_sub hl [2, 3, 1, 0] rfl
    refine td_loop 23 [] (fun i : Nat => 64 - i) (fun i ls => i ≤ 64 ∧ lv_has ls 7 [(0, .ref o), (1, .int q0), (2, .long (td_bs (fun u => td_sf (td_lv ce 0) q0 u) i)), (4, .int (nI i))]) (fun i ls hC ih => ?_) 0 ⟨Nat.zero_le _, hl0⟩
    clear hl hl0
    obtain ⟨hi, hl⟩ := hC
    have hl : lv_has ls 7 [(0, .ref o), (1, .int q0), (2, .long (td_bs (fun u => td_sf (td_lv ce 0) q0 u) i)), (4, .int (nI i))] := hl
    refine lv_iload hx hb d_X1_safe_23 (lv_at hl 3 rfl) ?_
    refine lv_bipush (v := 64) hx hb d_X1_safe_25 (by decide) ?_
    refine lv_icmp_ge (tgt := 133) hx hb d_X1_safe_27 (by decide) (fun h1 => ?_) (fun h1 => ?_)
    · have h64 : i = 64 := Nat.le_antisymm hi ((nI_leI (a := 64) (b := i) (by decide) (by omega)).mp h1)
      subst h64
      refine lv_lload_n hx hb d_X1_safe_133 rfl (lv_at hl 2 rfl) ?_
      exact W.lret (v := (td_bs (fun u => td_sf (td_lv ce 0) q0 u) 64)) hx hb hr (fun t ht hW => ⟨⟨_, (), rfl, fun _ => rfl, by rw [ht]; exact hP, va_K.moved hW.alike hK, hD⟩, hS.F ht⟩) hS.2.2 d_X1_safe_134
    · have h64 : i < 64 := Nat.lt_of_not_le (fun z => h1 ((nI_leI (a := 64) (b := i) (by decide) (by omega)).mpr z))
      have hcs := td_bs_s (fun u => td_sf (td_lv ce 0) q0 u) i
      refine lv_aload_n hx hb d_X1_safe_30 rfl (lv_at hl 0 rfl) ?_
      refine va_get (D := D) (ci := 1) (v := .int (td_bad q0 1)) (C := RX1) (T := TX1) (N := 14) hx hb hts usX1 hown hK hP 0 rfl rfl 0 (by decide) (hts _ fl_X1_45) (fun _ h9 => h9) rfl d_X1_safe_31 ?_
      refine lv_if_ne (tgt := 133) hx hb d_X1_safe_34 (by decide) (fun h3 => ?_) (fun h3 => ?_)
      · refine lv_lload_n hx hb d_X1_safe_133 rfl (lv_at hl 2 rfl) ?_
        exact W.lret (v := (td_bs (fun u => td_sf (td_lv ce 0) q0 u) i)) hx hb hr (fun t ht hW => ⟨⟨_, (), rfl, fun z => absurd z h3, by rw [ht]; exact hP, va_K.moved hW.alike hK, hD⟩, hS.F ht⟩) hS.2.2 d_X1_safe_134
      · refine lv_aload_n hx hb d_X1_safe_37 rfl (lv_at hl 0 rfl) ?_
        refine va_get (D := D) (ci := 1) (v := .ref (q 1)) (C := RX1) (T := TX1) (N := 14) hx hb hts usX1 hown hK hP 0 rfl rfl 1 (by decide) (hts _ fl_X1_7) (fun _ h9 => h9) rfl d_X1_safe_38 ?_
        refine lv_iload hx hb d_X1_safe_41 (lv_at hl 3 rfl) ?_
        refine va_iald hx hb hK hP 1 0 rfl rfl (vp_in_nI (show i < 1216 by omega) (by decide)) d_X1_safe_43 ?_
        refine td_i (y := (td_lv ce 0 i)) (by rw [nI_clamp (by omega)]; unfold td_lv; rw [Nat.mul_zero, Nat.zero_add]) ?_
        refine lv_iload_n hx hb d_X1_safe_44 rfl (lv_at hl 1 rfl) ?_
        refine lv_iconst (v := 1) hx hb d_X1_safe_45 (by decide) ?_
        refine lv_iadd hx hb d_X1_safe_46 ?_
        refine td_joini 55 ls [] (fun x => (x = 1 ∧ (td_lv ce 0) i = q0 + 1) ∨ (x = 0 ∧ ¬ (td_lv ce 0) i = q0 + 1)) (fun x ex => ?_) (fun J => ?_)
        · refine lv_istore hx hb d_X1_safe_55 hl (by decide) rfl (fun ls hl => ?_)
          have hl : lv_has ls 7 [(5, .int x), (0, .ref o), (1, .int q0), (2, .long (td_bs (fun u => td_sf (td_lv ce 0) q0 u) i)), (4, .int (nI i))] := hl
          refine lv_iconst (v := 0) hx hb d_X1_safe_57 (by decide) ?_
          refine lv_istore hx hb d_X1_safe_58 hl (by decide) rfl (fun ls hl => ?_)
          have hl : lv_has ls 7 [(6, .int 0), (5, .int x), (0, .ref o), (1, .int q0), (2, .long (td_bs (fun u => td_sf (td_lv ce 0) q0 u) i)), (4, .int (nI i))] := hl
          have hl0 := lv_sub hl [2, 3, 4, 5, 1, 0] rfl
          refine td_loop 60 [] (fun z : Nat × Int32 => 4 - z.1) (fun z ls => (z.1 ≤ 4 ∧ ((z.2 = 1 ∧ (td_lv ce 0) i = q0 + 1 ∧ ∀ v, v < z.1 → (td_fu (td_lv ce 0) q0 v i = true ∨ td_fu (td_lv ce 0) q0 (7 - v) i = true)) ∨ (z.2 = 0 ∧ ¬ td_sf (td_lv ce 0) q0 i = true))) ∧ lv_has ls 7 [(0, .ref o), (1, .int q0), (2, .long (td_bs (fun u => td_sf (td_lv ce 0) q0 u) i)), (4, .int (nI i)), (5, .int (z.2)), (6, .int (nI z.1))]) (fun z ls hC ih2 => ?_) (0, x) ⟨⟨Nat.zero_le _, ex.elim (fun y => Or.inl ⟨y.1, y.2, fun v h => absurd h (Nat.not_lt_zero v)⟩) (fun y => Or.inr ⟨y.1, fun z => y.2 ((td_sf_iff _ _ _).mp z).1⟩)⟩, hl0⟩
          clear hl hl0
          obtain ⟨hi, hl⟩ := hC
          have hl : lv_has ls 7 [(0, .ref o), (1, .int q0), (2, .long (td_bs (fun u => td_sf (td_lv ce 0) q0 u) i)), (4, .int (nI i)), (5, .int (z.2)), (6, .int (nI z.1))] := hl
          obtain ⟨w0, y0⟩ := z
          obtain ⟨hw8, hor⟩ := hi
          dsimp only at hw8 hor
          have hl : lv_has ls 7 [(0, .ref o), (1, .int q0), (2, .long (td_bs (fun u => td_sf (td_lv ce 0) q0 u) i)), (4, .int (nI i)), (5, .int y0), (6, .int (nI w0))] := hl
          refine td_joinu 111 ls [] ((y0 = 1 ∧ td_sf (td_lv ce 0) q0 i = true) ∨ (y0 = 0 ∧ ¬ td_sf (td_lv ce 0) q0 i = true)) (fun hy => ?_) (fun J3 => ?_)
          · refine td_joinl 126 ls [] (fun x => x = td_bs (fun u => td_sf (td_lv ce 0) q0 u) (i + 1)) (fun x ex => ?_) (fun J => ?_)
            · subst ex
              refine lv_lstore_n hx hb d_X1_safe_126 rfl hl (by decide) rfl (fun ls hl => ?_)
              have hl : lv_has ls 7 [(2, .long (td_bs (fun u => td_sf (td_lv ce 0) q0 u) (i + 1))), (0, .ref o), (1, .int q0), (4, .int (nI i)), (5, .int y0), (6, .int (nI w0))] := hl
              refine lv_iinc (k := 3) (v := (nI (i + 1))) hx hb d_X1_safe_127 hl rfl ((nI_succ i).symm) (by decide) rfl (fun ls hl => ?_)
              have hl : lv_has ls 7 [(4, .int (nI (i + 1))), (2, .long (td_bs (fun u => td_sf (td_lv ce 0) q0 u) (i + 1))), (0, .ref o), (1, .int q0), (5, .int y0), (6, .int (nI w0))] := hl
              refine lv_goto (tgt := 23) hx hb d_X1_safe_130 (by decide) ?_
              have hl1 := lv_sub hl [2, 3, 1, 0] rfl
              exact ih (i + 1) _ (by omega) ⟨h64, hl1⟩
            · refine lv_iload hx hb d_X1_safe_111 (lv_at hl 4 rfl) ?_
              refine lv_if_eq (tgt := 125) hx hb d_X1_safe_113 (by decide) (fun h5 => ?_) (fun h5 => ?_)
              · refine lv_lload_n hx hb d_X1_safe_125 rfl (lv_at hl 2 rfl) ?_
                exact J _ (by rw [hcs, if_neg (hy.elim (fun y => absurd (y.1.symm.trans h5) (by decide)) (fun y => y.2))])
              · refine lv_lload_n hx hb d_X1_safe_116 rfl (lv_at hl 2 rfl) ?_
                refine lv_lconst (v := 1) hx hb d_X1_safe_117 (by decide) ?_
                refine lv_iload hx hb d_X1_safe_118 (lv_at hl 3 rfl) ?_
                refine lv_lshl (v := (td_lshl 1 (nI i))) hx hb d_X1_safe_120 rfl ?_
                refine lv_lor hx hb d_X1_safe_121 ?_
                refine lv_goto (tgt := 126) hx hb d_X1_safe_122 (by decide) ?_
                exact J _ (by rw [hcs, if_pos (hy.elim (fun y => y.2) (fun y => absurd y.1 h5))])
          · refine lv_iload hx hb d_X1_safe_60 (lv_at hl 5 rfl) ?_
            refine lv_iconst (v := 4) hx hb d_X1_safe_62 (by decide) ?_
            refine lv_icmp_ge (tgt := 111) hx hb d_X1_safe_63 (by decide) (fun h4 => ?_) (fun h4 => ?_)
            · have hw : w0 = 4 := Nat.le_antisymm hw8 ((nI_leI (a := 4) (b := w0) (by decide) (by omega)).mp h4)
              subst hw
              exact J3 (hor.elim (fun y => Or.inl ⟨y.1, (td_sf_iff _ _ _).mpr y.2⟩) (fun y => Or.inr y))
            · have hw : w0 < 4 := Nat.lt_of_not_le (fun z => h4 ((nI_leI (a := 4) (b := w0) (by decide) (by omega)).mpr z))
              refine lv_iload hx hb d_X1_safe_66 (lv_at hl 4 rfl) ?_
              refine lv_if_eq (tgt := 111) hx hb d_X1_safe_68 (by decide) (fun h5 => ?_) (fun h5 => ?_)
              · exact J3 (hor.elim (fun y => absurd (y.1.symm.trans h5) (by decide)) (fun y => Or.inr y))
              · obtain ⟨y1, y2, y3⟩ := hor.elim (fun y => y) (fun y => absurd y.1 h5)
                refine td_joini 103 ls [] (fun x => (x = 1 ∧ (td_fu (td_lv ce 0) q0 w0 i = true ∨ td_fu (td_lv ce 0) q0 (7 - w0) i = true)) ∨ (x = 0 ∧ ¬ (td_fu (td_lv ce 0) q0 w0 i = true ∨ td_fu (td_lv ce 0) q0 (7 - w0) i = true))) (fun x ex => ?_) (fun J => ?_)
                · refine lv_istore hx hb d_X1_safe_103 hl (by decide) rfl (fun ls hl => ?_)
                  have hl : lv_has ls 7 [(5, .int x), (0, .ref o), (1, .int q0), (2, .long (td_bs (fun u => td_sf (td_lv ce 0) q0 u) i)), (4, .int (nI i)), (6, .int (nI w0))] := hl
                  refine lv_iinc (k := 5) (v := (nI (w0 + 1))) hx hb d_X1_safe_105 hl rfl ((nI_succ w0).symm) (by decide) rfl (fun ls hl => ?_)
                  have hl : lv_has ls 7 [(6, .int (nI (w0 + 1))), (5, .int x), (0, .ref o), (1, .int q0), (2, .long (td_bs (fun u => td_sf (td_lv ce 0) q0 u) i)), (4, .int (nI i))] := hl
                  refine lv_goto (tgt := 60) hx hb d_X1_safe_108 (by decide) ?_
                  have hl1 := lv_sub hl [2, 3, 4, 5, 1, 0] rfl
                  exact ih2 (w0 + 1, x) _ (by show 4 - (w0 + 1) < 4 - w0; omega) ⟨⟨hw, ex.elim (fun y => Or.inl ⟨y.1, y2, fun v hv => by
                    by_cases hvw : v = w0
                    · rw [hvw]; exact y.2
                    · exact y3 v (by have : v < w0 + 1 := hv; omega)⟩) (fun y => Or.inr ⟨y.1, fun z => y.2 (((td_sf_iff _ _ _).mp z).2 w0 hw)⟩)⟩, hl1⟩
                · refine td_joinu 98 ls [] (td_fu (td_lv ce 0) q0 w0 i = true ∨ td_fu (td_lv ce 0) q0 (7 - w0) i = true) (fun hy => ?_) (fun J4 => ?_)
                  · refine lv_iconst (v := 1) hx hb d_X1_safe_98 (by decide) ?_
                    refine lv_goto (tgt := 103) hx hb d_X1_safe_99 (by decide) ?_
                    exact J _ (Or.inl ⟨rfl, hy⟩)
                  · refine lv_aload_n hx hb d_X1_safe_71 rfl (lv_at hl 0 rfl) ?_
                    refine lv_iload hx hb d_X1_safe_72 (lv_at hl 3 rfl) ?_
                    refine lv_iload hx hb d_X1_safe_74 (lv_at hl 5 rfl) ?_
                    refine lv_iload_n hx hb d_X1_safe_76 rfl (lv_at hl 1 rfl) ?_
                    refine vp_callSi (W.runV (b := o) (C := RX1) (As := [.int (nI i), .int (nI w0), .int q0]) (rest := []) ⟨hx, hb, hml, hown, hts⟩ (m_X1_isFull l D o (q 1) cI [.int (td_bad q0 1), .ref (q 1), .ref (q 2), .ref (q 3), .ref (q 4), .int md, .ref (q 6), .ref (q 7), .ref (q 8), .ref (q 9), .int ch, .ref (q 11), .int sc, .ref (q 13)] rfl ce i h64 w0 (by omega) q0) (cwV 3 hts (tw_V ml_X1_130 im_X1_isFull se_X1_isFull in_X1 kw_X1_isFull) rfl rfl rfl (by decide +kernel) ⟨Nat.le_of_ble_eq_true rfl, Nat.le_of_ble_eq_true rfl⟩) ⟨fun a U g mk q => ⟨q.1, q.2.1, va_K.moved (u := U) (U := U.calling g mk a) (Vm.Alike.refl U.vm) q.2.2⟩, va_recv (q0 := 0) (ci := 1) hK hP rfl rfl, fun U hU hW => ⟨rfl, by rw [hU]; exact hP2, va_K.moved hW.alike hK⟩⟩ rfl rfl hl.1 rfl (lv_room (Nat.le_of_ble_eq_true rfl)) d_X1_safe_77 ⟨Nat.zero_le _, Nat.zero_le _⟩) (fun r hq => ?_)
                    refine lv_if_ne (tgt := 98) hx hb d_X1_safe_80 (by decide) (fun h6 => ?_) (fun h6 => ?_)
                    · exact J4 (Or.inl (hq.elim (fun y => y.1) (fun y => absurd y.2 h6)))
                    · refine lv_aload_n hx hb d_X1_safe_83 rfl (lv_at hl 0 rfl) ?_
                      refine lv_iload hx hb d_X1_safe_84 (lv_at hl 3 rfl) ?_
                      refine lv_bipush (v := 7) hx hb d_X1_safe_86 (by decide) ?_
                      refine lv_iload hx hb d_X1_safe_88 (lv_at hl 5 rfl) ?_
                      refine lv_isub hx hb d_X1_safe_90 ?_
                      refine td_i (y := (nI (7 - w0))) (by show nI 7 - nI w0 = _; exact pk_sub (by omega)) ?_
                      refine lv_iload_n hx hb d_X1_safe_91 rfl (lv_at hl 1 rfl) ?_
                      refine vp_callSi (W.runV (b := o) (C := RX1) (As := [.int (nI i), .int (nI (7 - w0)), .int q0]) (rest := []) ⟨hx, hb, hml, hown, hts⟩ (m_X1_isFull l D o (q 1) cI [.int (td_bad q0 1), .ref (q 1), .ref (q 2), .ref (q 3), .ref (q 4), .int md, .ref (q 6), .ref (q 7), .ref (q 8), .ref (q 9), .int ch, .ref (q 11), .int sc, .ref (q 13)] rfl ce i h64 (7 - w0) (by omega) q0) (cwV 3 hts (tw_V ml_X1_130 im_X1_isFull se_X1_isFull in_X1 kw_X1_isFull) rfl rfl rfl (by decide +kernel) ⟨Nat.le_of_ble_eq_true rfl, Nat.le_of_ble_eq_true rfl⟩) ⟨fun a U g mk q => ⟨q.1, q.2.1, va_K.moved (u := U) (U := U.calling g mk a) (Vm.Alike.refl U.vm) q.2.2⟩, va_recv (q0 := 0) (ci := 1) hK hP rfl rfl, fun U hU hW => ⟨rfl, by rw [hU]; exact hP2, va_K.moved hW.alike hK⟩⟩ rfl rfl hl.1 rfl (lv_room (Nat.le_of_ble_eq_true rfl)) d_X1_safe_92 ⟨Nat.zero_le _, Nat.zero_le _⟩) (fun r hq2 => ?_)
                      refine lv_if_eq (tgt := 102) hx hb d_X1_safe_95 (by decide) (fun h7 => ?_) (fun h7 => ?_)
                      · refine lv_iconst (v := 0) hx hb d_X1_safe_102 (by decide) ?_
                        exact J _ (Or.inr ⟨rfl, fun z => z.elim (fun z => hq.elim (fun y => absurd (y.2.symm.trans h6) (by decide)) (fun y => y.1 z)) (fun z => hq2.elim (fun y => absurd (y.2.symm.trans h7) (by decide)) (fun y => y.1 z))⟩)
                      · exact J4 (Or.inr (hq2.elim (fun y => y.1) (fun y => absurd y.2 h7)))
        · refine lv_icmp_ne (tgt := 54) hx hb d_X1_safe_47 (by decide) (fun h4 => ?_) (fun h4 => ?_)
          · refine lv_iconst (v := 0) hx hb d_X1_safe_54 (by decide) ?_
            exact J _ (Or.inr ⟨rfl, h4⟩)
          · refine lv_iconst (v := 1) hx hb d_X1_safe_50 (by decide) ?_
            refine lv_goto (tgt := 55) hx hb d_X1_safe_51 (by decide) ?_
            exact J _ (Or.inl ⟨rfl, h4⟩)
  · refine lv_iload_n hx hb d_X1_safe_1 rfl (lv_at hl 1 rfl) ?_
    refine lv_if_lt (tgt := 10) hx hb d_X1_safe_2 (by decide) (fun h0 => ?_) (fun h0 => ?_)
    · refine lv_iconst (v := 1) hx hb d_X1_safe_10 (by decide) ?_
      refine lv_goto (tgt := 15) hx hb d_X1_safe_11 (by decide) ?_
      exact J _ (by unfold td_bad; rw [if_pos (Or.inl h0)])
    · refine lv_iload_n hx hb d_X1_safe_5 rfl (lv_at hl 1 rfl) ?_
      refine lv_iconst (v := 1) hx hb d_X1_safe_6 (by decide) ?_
      refine lv_icmp_le (tgt := 14) hx hb d_X1_safe_7 (by decide) (fun h1 => ?_) (fun h1 => ?_)
      · refine lv_iconst (v := 0) hx hb d_X1_safe_14 (by decide) ?_
        exact J _ (by unfold td_bad; rw [if_neg (fun z => z.elim h0 (fun z => absurd z (Int32.not_lt.mpr h1)))])
      · refine lv_iconst (v := 1) hx hb d_X1_safe_10 (by decide) ?_
        refine lv_goto (tgt := 15) hx hb d_X1_safe_11 (by decide) ?_
        exact J _ (by unfold td_bad; rw [if_pos (Or.inr (Int32.not_le.mp h1))])
