/-! more of the reference's readers -/
theorem td_cn_s (P : Nat → Bool) (n : Nat) : td_cn P (n + 1) = td_cn P n + (if P n then 1 else 0) := rfl
/-- the first steps of a way all hold v, up to the board's end -/
def td_full (g : Nat → Int32) (v : Int32) (w s : Nat) : Prop := ∀ j, 0 < j → j < 9 → td_ps w s j < 64 → g (td_ps w s j) = v
/-- at most 'most' of the first ones that have P, from place i on, n counted before -/
def td_cap (P : Nat → Bool) (most : Int32) : Nat → Nat → Nat → Nat
  | 0, _, n => n
  | r + 1, i, n => if nI n < most then td_cap P most r (i + 1) (n + (if P i then 1 else 0)) else n
theorem td_cap_le (P : Nat → Bool) (most : Int32) : ∀ r i n, td_cap P most r i n ≤ n + r
  | 0, i, n => Nat.le_refl _
  | r + 1, i, n => by
    unfold td_cap
    by_cases h : nI n < most
    · rw [if_pos h]
      have := td_cap_le P most r (i + 1) (n + (if P i then 1 else 0))
      by_cases hp : P i = true
      · rw [if_pos hp] at this ⊢; omega
      · rw [if_neg hp] at this ⊢; omega
    · rw [if_neg h]; omega
set_option maxHeartbeats 4000000 in
set_option maxRecDepth 100000 in
theorem m_X1_movesAt (l : Launch) (D : va_G) (o ac : Nat) (cI : ClassId) (fs : List Value) (hfs : fs[1]? = some (.ref ac)) (ce : Nat → Int32) (L : Nat) (hL : L ≤ 18) (who : Int32) : Met l y_X1_movesAt (k_X1_movesAt :: tw) ({ frames := 3, cells := 0, slots := 0, locals := 79 }) (va_Pc [.ref o, .int (nI L), .int who] (fun U => va_P D tdC [(o, .inr (1, fs)), (ac, .inl (cI, 1216, .inl ce))] U.heap ∧ va_K D tdC [(cI, .int)] U)) (vp_Si (fun x => x = (nI (td_cn (fun q => decide (td_fl (td_lv ce L) who q ≠ 0)) 64)))) 0 0 (fun _ => False) := by
  refine Met.ofW (cc := c_X1_movesAt) (maxL := 5) (ret := (some .int)) (by decide) rfl ?_
  intro p e s m args below meth c s₁ B hml hv
  obtain ⟨rfl, hP, hK⟩ := hv
  have hx := B.exec
  have hb := B.bytes
  have hr := B.returns
  have hts : ∀ w ∈ tw, w.before _ s = true := fun w h => atoms_spec (ws := k_X1_movesAt :: tw) B.pre w (List.mem_cons_of_mem _ h)
  have hown : s.vm.findClass RX1 = some m.cls := findClass_of_methodNamed B.named
  have hlocks := B.notSynchronized
  have hl := lv_entry ([.ref o, .int (nI L), .int who]) (n := 5) (Nat.le_of_ble_eq_true rfl)
  rw [lg_entry_eq]
  generalize (lg_sl ([.ref o, .int (nI L), .int who]) ++ List.replicate (5 - (lg_sl ([.ref o, .int (nI L), .int who])).length) Slot.unset).toArray = ls at hl ⊢
  have hl : lv_has ls 5 [(0, .ref o), (1, .int (nI L)), (2, .int who)] := hl
  refine lv_iconst (v := 0) hx hb d_X1_movesAt_0 (by decide) ?_
  refine lv_istore_n hx hb d_X1_movesAt_1 rfl hl (by decide) rfl (fun ls hl => ?_)
  have hl : lv_has ls 5 [(3, .int 0), (0, .ref o), (1, .int (nI L)), (2, .int who)] := hl
  refine lv_iconst (v := 0) hx hb d_X1_movesAt_2 (by decide) ?_
  refine lv_istore hx hb d_X1_movesAt_3 hl (by decide) rfl (fun ls hl => ?_)
  have hl : lv_has ls 5 [(4, .int 0), (3, .int 0), (0, .ref o), (1, .int (nI L)), (2, .int who)] := hl
  have hl0 := lv_sub hl [2, 3, 4, 1, 0] rfl
  refine td_loop 5 [] (fun i : Nat => 64 - i) (fun i ls => i ≤ 64 ∧ lv_has ls 5 [(0, .ref o), (1, .int (nI L)), (2, .int who), (3, .int (nI (td_cn (fun q => decide (td_fl (td_lv ce L) who q ≠ 0)) i))), (4, .int (nI i))]) (fun i ls hC ih => ?_) 0 ⟨Nat.zero_le _, hl0⟩
  clear hl hl0
  obtain ⟨hi, hl⟩ := hC
  have hl : lv_has ls 5 [(0, .ref o), (1, .int (nI L)), (2, .int who), (3, .int (nI (td_cn (fun q => decide (td_fl (td_lv ce L) who q ≠ 0)) i))), (4, .int (nI i))] := hl
  refine lv_iload hx hb d_X1_movesAt_5 (lv_at hl 4 rfl) ?_
  refine lv_bipush (v := 64) hx hb d_X1_movesAt_7 (by decide) ?_
  refine lv_icmp_ge (tgt := 39) hx hb d_X1_movesAt_9 (by decide) (fun h1 => ?_) (fun h1 => ?_)
  · have h64 : i = 64 := Nat.le_antisymm hi ((nI_leI (a := 64) (b := i) (by decide) (by omega)).mp h1)
    subst h64
    refine lv_iload_n hx hb d_X1_movesAt_39 rfl (lv_at hl 3 rfl) ?_
    exact W.iret (v := (nI (td_cn (fun q => decide (td_fl (td_lv ce L) who q ≠ 0)) 64))) hx hb hr (fun t ht hW => ⟨_, rfl, rfl, ht⟩) (fun _ h => nomatch h) d_X1_movesAt_40
  · have h64 : i < 64 := Nat.lt_of_not_le (fun z => h1 ((nI_leI (a := 64) (b := i) (by decide) (by omega)).mpr z))
    have hcs := td_cn_s (fun q => decide (td_fl (td_lv ce L) who q ≠ 0)) i
    refine lv_aload_n hx hb d_X1_movesAt_12 rfl (lv_at hl 0 rfl) ?_
    refine lv_iload_n hx hb d_X1_movesAt_13 rfl (lv_at hl 1 rfl) ?_
    refine lv_iload hx hb d_X1_movesAt_14 (lv_at hl 4 rfl) ?_
    refine lv_iload_n hx hb d_X1_movesAt_16 rfl (lv_at hl 2 rfl) ?_
    refine vp_callSl (W.runV (b := o) (C := RX1) (As := [.int (nI L), .int (nI i), .int who]) (rest := []) ⟨hx, hb, hml, hown, hts⟩ (m_X1_flipsAt l D o ac cI fs hfs ce L hL i h64 who) (cwV 3 hts (tw_V ml_X1_71 im_X1_flipsAt se_X1_flipsAt in_X1 kw_X1_flipsAt) rfl rfl rfl (by decide +kernel) ⟨Nat.le_of_ble_eq_true rfl, Nat.le_of_ble_eq_true rfl⟩) ⟨fun a U g mk q => ⟨q.1, q.2.1, va_K.moved (u := U) (U := U.calling g mk a) (Vm.Alike.refl U.vm) q.2.2⟩, va_recv (q0 := 0) (ci := 1) hK hP rfl rfl, fun U hU hW => ⟨rfl, by rw [hU]; exact hP, va_K.moved hW.alike hK⟩⟩ rfl rfl hl.1 rfl (lv_room (Nat.le_of_ble_eq_true rfl)) d_X1_movesAt_17 ⟨Nat.zero_le _, Nat.zero_le _⟩) (fun r h9 => ?_)
    subst h9
    refine lv_lconst (v := 0) hx hb d_X1_movesAt_20 (by decide) ?_
    refine td_joini 32 ls [] (fun x => x = nI (td_cn (fun q => decide (td_fl (td_lv ce L) who q ≠ 0)) (i + 1))) (fun x ex => ?_) (fun J => ?_)
    · subst ex
      refine lv_istore_n hx hb d_X1_movesAt_32 rfl hl (by decide) rfl (fun ls hl => ?_)
      have hl : lv_has ls 5 [(3, .int (nI (td_cn (fun q => decide (td_fl (td_lv ce L) who q ≠ 0)) (i + 1)))), (0, .ref o), (1, .int (nI L)), (2, .int who), (4, .int (nI i))] := hl
      refine lv_iinc (k := 4) (v := (nI (i + 1))) hx hb d_X1_movesAt_33 hl rfl ((nI_succ i).symm) (by decide) rfl (fun ls hl => ?_)
      have hl : lv_has ls 5 [(4, .int (nI (i + 1))), (3, .int (nI (td_cn (fun q => decide (td_fl (td_lv ce L) who q ≠ 0)) (i + 1)))), (0, .ref o), (1, .int (nI L)), (2, .int who)] := hl
      refine lv_goto (tgt := 5) hx hb d_X1_movesAt_36 (by decide) ?_
      have hl1 := lv_sub hl [2, 3, 4, 1, 0] rfl
      exact ih (i + 1) _ (by omega) ⟨h64, hl1⟩
    · refine td_leq (tgt := 31) hx hb d_X1_movesAt_21 d_X1_movesAt_22 (by decide) (fun h2 => ?_) (fun h2 => ?_)
      · refine lv_iload_n hx hb d_X1_movesAt_31 rfl (lv_at hl 3 rfl) ?_
        exact J _ (by rw [hcs, if_neg (fun z => (of_decide_eq_true z) h2), Nat.add_zero])
      · refine lv_iload_n hx hb d_X1_movesAt_25 rfl (lv_at hl 3 rfl) ?_
        refine lv_iconst (v := 1) hx hb d_X1_movesAt_26 (by decide) ?_
        refine lv_iadd hx hb d_X1_movesAt_27 ?_
        refine lv_goto (tgt := 32) hx hb d_X1_movesAt_28 (by decide) ?_
        exact J _ (by rw [hcs, if_pos (decide_eq_true h2)]; exact (nI_succ _).symm)
set_option maxHeartbeats 4000000 in
set_option maxRecDepth 100000 in
theorem m_X1_discsOf (l : Launch) (D : va_G) (o ac : Nat) (cI : ClassId) (fs : List Value) (hfs : fs[1]? = some (.ref ac)) (ce : Nat → Int32) (L : Nat) (hL : L ≤ 18) (who : Int32) : Met l y_X1_discsOf (k_X1_discsOf :: tw) ({ frames := 0, cells := 0, slots := 0, locals := 0 }) (va_Pc [.ref o, .int (nI L), .int who] (fun U => va_P D tdC [(o, .inr (1, fs)), (ac, .inl (cI, 1216, .inl ce))] U.heap ∧ va_K D tdC [(cI, .int)] U)) (vp_Si (fun x => x = (nI (td_cn (fun q => decide ((td_lv ce L) q = who + 1)) 64)))) 0 0 (fun _ => False) := by
  refine Met.ofW (cc := c_X1_discsOf) (maxL := 5) (ret := (some .int)) (by decide) rfl ?_
  intro p e s m args below meth c s₁ B hml hv
  obtain ⟨rfl, hP, hK⟩ := hv
  have hx := B.exec
  have hb := B.bytes
  have hr := B.returns
  have hts : ∀ w ∈ tw, w.before _ s = true := fun w h => atoms_spec (ws := k_X1_discsOf :: tw) B.pre w (List.mem_cons_of_mem _ h)
  have hown : s.vm.findClass RX1 = some m.cls := findClass_of_methodNamed B.named
  have hlocks := B.notSynchronized
  have hl := lv_entry ([.ref o, .int (nI L), .int who]) (n := 5) (Nat.le_of_ble_eq_true rfl)
  rw [lg_entry_eq]
  generalize (lg_sl ([.ref o, .int (nI L), .int who]) ++ List.replicate (5 - (lg_sl ([.ref o, .int (nI L), .int who])).length) Slot.unset).toArray = ls at hl ⊢
  have hl : lv_has ls 5 [(0, .ref o), (1, .int (nI L)), (2, .int who)] := hl
  refine lv_iconst (v := 0) hx hb d_X1_discsOf_0 (by decide) ?_
  refine lv_istore_n hx hb d_X1_discsOf_1 rfl hl (by decide) rfl (fun ls hl => ?_)
  have hl : lv_has ls 5 [(3, .int 0), (0, .ref o), (1, .int (nI L)), (2, .int who)] := hl
  refine lv_iconst (v := 0) hx hb d_X1_discsOf_2 (by decide) ?_
  refine lv_istore hx hb d_X1_discsOf_3 hl (by decide) rfl (fun ls hl => ?_)
  have hl : lv_has ls 5 [(4, .int 0), (3, .int 0), (0, .ref o), (1, .int (nI L)), (2, .int who)] := hl
  have hl0 := lv_sub hl [2, 3, 4, 1, 0] rfl
  refine td_loop 5 [] (fun i : Nat => 64 - i) (fun i ls => i ≤ 64 ∧ lv_has ls 5 [(0, .ref o), (1, .int (nI L)), (2, .int who), (3, .int (nI (td_cn (fun q => decide ((td_lv ce L) q = who + 1)) i))), (4, .int (nI i))]) (fun i ls hC ih => ?_) 0 ⟨Nat.zero_le _, hl0⟩
  clear hl hl0
  obtain ⟨hi, hl⟩ := hC
  have hl : lv_has ls 5 [(0, .ref o), (1, .int (nI L)), (2, .int who), (3, .int (nI (td_cn (fun q => decide ((td_lv ce L) q = who + 1)) i))), (4, .int (nI i))] := hl
  refine lv_iload hx hb d_X1_discsOf_5 (lv_at hl 4 rfl) ?_
  refine lv_bipush (v := 64) hx hb d_X1_discsOf_7 (by decide) ?_
  refine lv_icmp_ge (tgt := 44) hx hb d_X1_discsOf_9 (by decide) (fun h1 => ?_) (fun h1 => ?_)
  · have h64 : i = 64 := Nat.le_antisymm hi ((nI_leI (a := 64) (b := i) (by decide) (by omega)).mp h1)
    subst h64
    refine lv_iload_n hx hb d_X1_discsOf_44 rfl (lv_at hl 3 rfl) ?_
    exact W.iret (v := (nI (td_cn (fun q => decide ((td_lv ce L) q = who + 1)) 64))) hx hb hr (fun t ht hW => ⟨_, rfl, rfl, ht⟩) (fun _ h => nomatch h) d_X1_discsOf_45
  · have h64 : i < 64 := Nat.lt_of_not_le (fun z => h1 ((nI_leI (a := 64) (b := i) (by decide) (by omega)).mpr z))
    have hcs := td_cn_s (fun q => decide ((td_lv ce L) q = who + 1)) i
    refine lv_aload_n hx hb d_X1_discsOf_12 rfl (lv_at hl 0 rfl) ?_
    refine va_get (D := D) (ci := 1) (v := .ref ac) (C := RX1) (T := TX1) (N := 14) hx hb hts usX1 hown hK hP 0 rfl rfl 1 (by decide) (hts _ fl_X1_7) (fun _ h9 => h9) hfs d_X1_discsOf_13 ?_
    refine lv_bipush (v := 64) hx hb d_X1_discsOf_16 (by decide) ?_
    refine lv_iload_n hx hb d_X1_discsOf_18 rfl (lv_at hl 1 rfl) ?_
    refine lv_imul hx hb d_X1_discsOf_19 ?_
    refine lv_iload hx hb d_X1_discsOf_20 (lv_at hl 4 rfl) ?_
    refine lv_iadd hx hb d_X1_discsOf_22 ?_
    refine td_i (y := (nI (64 * L + i))) (by show nI 64 * nI L + nI i = _; rw [pk_mul, nI_add]) ?_
    refine va_iald hx hb hK hP 1 0 rfl rfl (vp_in_nI (show 64 * L + i < 1216 by omega) (by decide)) d_X1_discsOf_23 ?_
    refine td_i (y := (td_lv ce L i)) (by rw [nI_clamp (by omega)]; rfl) ?_
    refine lv_iload_n hx hb d_X1_discsOf_24 rfl (lv_at hl 2 rfl) ?_
    refine lv_iconst (v := 1) hx hb d_X1_discsOf_25 (by decide) ?_
    refine lv_iadd hx hb d_X1_discsOf_26 ?_
    refine td_joini 37 ls [] (fun x => x = nI (td_cn (fun q => decide ((td_lv ce L) q = who + 1)) (i + 1))) (fun x ex => ?_) (fun J => ?_)
    · subst ex
      refine lv_istore_n hx hb d_X1_discsOf_37 rfl hl (by decide) rfl (fun ls hl => ?_)
      have hl : lv_has ls 5 [(3, .int (nI (td_cn (fun q => decide ((td_lv ce L) q = who + 1)) (i + 1)))), (0, .ref o), (1, .int (nI L)), (2, .int who), (4, .int (nI i))] := hl
      refine lv_iinc (k := 4) (v := (nI (i + 1))) hx hb d_X1_discsOf_38 hl rfl ((nI_succ i).symm) (by decide) rfl (fun ls hl => ?_)
      have hl : lv_has ls 5 [(4, .int (nI (i + 1))), (3, .int (nI (td_cn (fun q => decide ((td_lv ce L) q = who + 1)) (i + 1)))), (0, .ref o), (1, .int (nI L)), (2, .int who)] := hl
      refine lv_goto (tgt := 5) hx hb d_X1_discsOf_41 (by decide) ?_
      have hl1 := lv_sub hl [2, 3, 4, 1, 0] rfl
      exact ih (i + 1) _ (by omega) ⟨h64, hl1⟩
    · refine lv_icmp_ne (tgt := 36) hx hb d_X1_discsOf_27 (by decide) (fun h2 => ?_) (fun h2 => ?_)
      · refine lv_iload_n hx hb d_X1_discsOf_36 rfl (lv_at hl 3 rfl) ?_
        exact J _ (by rw [hcs, if_neg (fun z => h2 (of_decide_eq_true z)), Nat.add_zero])
      · refine lv_iload_n hx hb d_X1_discsOf_30 rfl (lv_at hl 3 rfl) ?_
        refine lv_iconst (v := 1) hx hb d_X1_discsOf_31 (by decide) ?_
        refine lv_iadd hx hb d_X1_discsOf_32 ?_
        refine lv_goto (tgt := 37) hx hb d_X1_discsOf_33 (by decide) ?_
        exact J _ (by rw [hcs, if_pos (decide_eq_true h2)]; exact (nI_succ _).symm)
set_option maxHeartbeats 4000000 in
set_option maxRecDepth 100000 in
theorem m_X1_ones (l : Launch) (z0 : Int64) : Met l y_X1_ones (k_X1_ones :: tw) ({ frames := 0, cells := 0, slots := 0, locals := 0 }) (va_Pc [.long z0] (fun _ => True)) (vp_Si (fun x => x = (nI (td_cn (fun q => decide ((td_lshr z0 (nI q) &&& 1) = 1)) 64)))) 0 0 (fun _ => False) := by
  refine Met.ofW (cc := c_X1_ones) (maxL := 4) (ret := (some .int)) (by decide) rfl ?_
  intro p e s m args below meth c s₁ B hml hv
  obtain ⟨rfl, hv⟩ := hv
  have hx := B.exec
  have hb := B.bytes
  have hr := B.returns
  have hts : ∀ w ∈ tw, w.before _ s = true := fun w h => atoms_spec (ws := k_X1_ones :: tw) B.pre w (List.mem_cons_of_mem _ h)
  have hown : s.vm.findClass RX1 = some m.cls := findClass_of_methodNamed B.named
  have hlocks := B.notSynchronized
  have hl := lv_entry ([.long z0]) (n := 4) (Nat.le_of_ble_eq_true rfl)
  rw [lg_entry_eq]
  generalize (lg_sl ([.long z0]) ++ List.replicate (4 - (lg_sl ([.long z0])).length) Slot.unset).toArray = ls at hl ⊢
  have hl : lv_has ls 4 [(0, .long z0)] := hl
  refine lv_iconst (v := 0) hx hb d_X1_ones_0 (by decide) ?_
  refine lv_istore_n hx hb d_X1_ones_1 rfl hl (by decide) rfl (fun ls hl => ?_)
  have hl : lv_has ls 4 [(2, .int 0), (0, .long z0)] := hl
  refine lv_iconst (v := 0) hx hb d_X1_ones_2 (by decide) ?_
  refine lv_istore_n hx hb d_X1_ones_3 rfl hl (by decide) rfl (fun ls hl => ?_)
  have hl : lv_has ls 4 [(3, .int 0), (2, .int 0), (0, .long z0)] := hl
  have hl0 := lv_sub hl [2, 1, 0] rfl
  refine td_loop 4 [] (fun i : Nat => 64 - i) (fun i ls => i ≤ 64 ∧ lv_has ls 4 [(0, .long z0), (2, .int (nI (td_cn (fun q => decide ((td_lshr z0 (nI q) &&& 1) = 1)) i))), (3, .int (nI i))]) (fun i ls hC ih => ?_) 0 ⟨Nat.zero_le _, hl0⟩
  clear hl hl0
  obtain ⟨hi, hl⟩ := hC
  have hl : lv_has ls 4 [(0, .long z0), (2, .int (nI (td_cn (fun q => decide ((td_lshr z0 (nI q) &&& 1) = 1)) i))), (3, .int (nI i))] := hl
  refine lv_iload_n hx hb d_X1_ones_4 rfl (lv_at hl 2 rfl) ?_
  refine lv_bipush (v := 64) hx hb d_X1_ones_5 (by decide) ?_
  refine lv_icmp_ge (tgt := 34) hx hb d_X1_ones_7 (by decide) (fun h1 => ?_) (fun h1 => ?_)
  · have h64 : i = 64 := Nat.le_antisymm hi ((nI_leI (a := 64) (b := i) (by decide) (by omega)).mp h1)
    subst h64
    refine lv_iload_n hx hb d_X1_ones_34 rfl (lv_at hl 1 rfl) ?_
    exact W.iret (v := (nI (td_cn (fun q => decide ((td_lshr z0 (nI q) &&& 1) = 1)) 64))) hx hb hr (fun t ht hW => ⟨_, rfl, rfl, ht⟩) (fun _ h => nomatch h) d_X1_ones_35
  · have h64 : i < 64 := Nat.lt_of_not_le (fun z => h1 ((nI_leI (a := 64) (b := i) (by decide) (by omega)).mpr z))
    have hcs := td_cn_s (fun q => decide ((td_lshr z0 (nI q) &&& 1) = 1)) i
    refine lv_lload_n hx hb d_X1_ones_10 rfl (lv_at hl 0 rfl) ?_
    refine lv_iload_n hx hb d_X1_ones_11 rfl (lv_at hl 2 rfl) ?_
    refine lv_lshr (v := (td_lshr z0 (nI i))) hx hb d_X1_ones_12 rfl ?_
    refine lv_lconst (v := 1) hx hb d_X1_ones_13 (by decide) ?_
    refine lv_land hx hb d_X1_ones_14 ?_
    refine lv_lconst (v := 1) hx hb d_X1_ones_15 (by decide) ?_
    refine td_joini 27 ls [] (fun x => x = nI (td_cn (fun q => decide ((td_lshr z0 (nI q) &&& 1) = 1)) (i + 1))) (fun x ex => ?_) (fun J => ?_)
    · subst ex
      refine lv_istore_n hx hb d_X1_ones_27 rfl hl (by decide) rfl (fun ls hl => ?_)
      have hl : lv_has ls 4 [(2, .int (nI (td_cn (fun q => decide ((td_lshr z0 (nI q) &&& 1) = 1)) (i + 1)))), (0, .long z0), (3, .int (nI i))] := hl
      refine lv_iinc (k := 2) (v := (nI (i + 1))) hx hb d_X1_ones_28 hl rfl ((nI_succ i).symm) (by decide) rfl (fun ls hl => ?_)
      have hl : lv_has ls 4 [(3, .int (nI (i + 1))), (2, .int (nI (td_cn (fun q => decide ((td_lshr z0 (nI q) &&& 1) = 1)) (i + 1)))), (0, .long z0)] := hl
      refine lv_goto (tgt := 4) hx hb d_X1_ones_31 (by decide) ?_
      have hl1 := lv_sub hl [2, 1, 0] rfl
      exact ih (i + 1) _ (by omega) ⟨h64, hl1⟩
    · refine td_lne (tgt := 26) hx hb d_X1_ones_16 d_X1_ones_17 (by decide) (fun h2 => ?_) (fun h2 => ?_)
      · refine lv_iload_n hx hb d_X1_ones_26 rfl (lv_at hl 1 rfl) ?_
        exact J _ (by rw [hcs, if_neg (fun z => h2 (of_decide_eq_true z)), Nat.add_zero])
      · refine lv_iload_n hx hb d_X1_ones_20 rfl (lv_at hl 1 rfl) ?_
        refine lv_iconst (v := 1) hx hb d_X1_ones_21 (by decide) ?_
        refine lv_iadd hx hb d_X1_ones_22 ?_
        refine lv_goto (tgt := 27) hx hb d_X1_ones_23 (by decide) ?_
        exact J _ (by rw [hcs, if_pos (decide_eq_true h2)]; exact (nI_succ _).symm)
set_option maxHeartbeats 4000000 in
set_option maxRecDepth 100000 in
theorem m_X1_turnsAny (l : Launch) (D : va_G) (o ac : Nat) (cI : ClassId) (fs : List Value) (hfs : fs[1]? = some (.ref ac)) (ce : Nat → Int32) (L : Nat) (hL : L ≤ 18) (s0 : Nat) (hs0 : s0 < 64) (who : Int32) : Met l y_X1_turnsAny (k_X1_turnsAny :: tw) ({ frames := 2, cells := 0, slots := 0, locals := 50 }) (va_Pc [.ref o, .int (nI L), .int (nI s0), .int who] (fun U => va_P D tdC [(o, .inr (1, fs)), (ac, .inl (cI, 1216, .inl ce))] U.heap ∧ va_K D tdC [(cI, .int)] U)) (vp_Si (fun x => (td_any (td_lv ce L) who s0 = true ∧ x = 1) ∨ (¬ td_any (td_lv ce L) who s0 = true ∧ x = 0))) 0 0 (fun _ => False) := by
  refine Met.ofW (cc := c_X1_turnsAny) (maxL := 6) (ret := (some .boolean)) (by decide) rfl ?_
  intro p e s m args below meth c s₁ B hml hv
  obtain ⟨rfl, hP, hK⟩ := hv
  have hx := B.exec
  have hb := B.bytes
  have hr := B.returns
  have hts : ∀ w ∈ tw, w.before _ s = true := fun w h => atoms_spec (ws := k_X1_turnsAny :: tw) B.pre w (List.mem_cons_of_mem _ h)
  have hown : s.vm.findClass RX1 = some m.cls := findClass_of_methodNamed B.named
  have hlocks := B.notSynchronized
  have hl := lv_entry ([.ref o, .int (nI L), .int (nI s0), .int who]) (n := 6) (Nat.le_of_ble_eq_true rfl)
  rw [lg_entry_eq]
  generalize (lg_sl ([.ref o, .int (nI L), .int (nI s0), .int who]) ++ List.replicate (6 - (lg_sl ([.ref o, .int (nI L), .int (nI s0), .int who])).length) Slot.unset).toArray = ls at hl ⊢
  have hl : lv_has ls 6 [(0, .ref o), (1, .int (nI L)), (2, .int (nI s0)), (3, .int who)] := hl
  refine lv_iconst (v := 0) hx hb d_X1_turnsAny_0 (by decide) ?_
  refine lv_istore hx hb d_X1_turnsAny_1 hl (by decide) rfl (fun ls hl => ?_)
  have hl : lv_has ls 6 [(4, .int 0), (0, .ref o), (1, .int (nI L)), (2, .int (nI s0)), (3, .int who)] := hl
  refine lv_iconst (v := 0) hx hb d_X1_turnsAny_3 (by decide) ?_
  refine lv_istore hx hb d_X1_turnsAny_4 hl (by decide) rfl (fun ls hl => ?_)
  have hl : lv_has ls 6 [(5, .int 0), (4, .int 0), (0, .ref o), (1, .int (nI L)), (2, .int (nI s0)), (3, .int who)] := hl
  have hany : td_any (td_lv ce L) who s0 = true ↔ ((td_lv ce L) s0 = 0 ∧ ∃ w0, w0 < 8 ∧ 0 < td_al (td_lv ce L) who w0 s0) := by
    simp only [td_any, Bool.and_eq_true, decide_eq_true_eq, List.any_eq_true, List.mem_range]
  have hl0 := lv_sub hl [2, 3, 4, 5, 1, 0] rfl
  refine td_loop 6 [] (fun z : Nat × Int32 => 8 - z.1) (fun z ls => (z.1 ≤ 8 ∧ ((z.2 = 0 ∧ ∀ v, v < z.1 → ¬ 0 < td_al (td_lv ce L) who v s0) ∨ (z.2 = 1 ∧ (td_lv ce L) s0 = 0 ∧ ∃ v, v < 8 ∧ 0 < td_al (td_lv ce L) who v s0))) ∧ lv_has ls 6 [(0, .ref o), (1, .int (nI L)), (2, .int (nI s0)), (3, .int who), (4, .int (z.2)), (5, .int (nI z.1))]) (fun z ls hC ih => ?_) (0, 0) ⟨⟨Nat.zero_le _, Or.inl ⟨rfl, fun v h => absurd h (Nat.not_lt_zero v)⟩⟩, hl0⟩
  clear hl hl0
  obtain ⟨hi, hl⟩ := hC
  have hl : lv_has ls 6 [(0, .ref o), (1, .int (nI L)), (2, .int (nI s0)), (3, .int who), (4, .int (z.2)), (5, .int (nI z.1))] := hl
  obtain ⟨w0, y0⟩ := z
  obtain ⟨hw8, hor⟩ := hi
  dsimp only at hw8 hor
  have hl : lv_has ls 6 [(0, .ref o), (1, .int (nI L)), (2, .int (nI s0)), (3, .int who), (4, .int y0), (5, .int (nI w0))] := hl
  refine td_joinu 57 ls [] ((td_any (td_lv ce L) who s0 = true ∧ y0 = 1) ∨ (¬ td_any (td_lv ce L) who s0 = true ∧ y0 = 0)) (fun hend => ?_) (fun J => ?_)
  · refine lv_iload hx hb d_X1_turnsAny_57 (lv_at hl 4 rfl) ?_
    rcases id hend with ⟨_, e1⟩ | ⟨_, e1⟩
    · subst e1
      exact W.zret (v := _) hx hb hr (by first | rfl | decide | assumption) (fun t ht hW => ⟨_, rfl, hend, ht⟩) (fun _ h => nomatch h) d_X1_turnsAny_59
    · subst e1
      exact W.zret (v := _) hx hb hr (by first | rfl | decide | assumption) (fun t ht hW => ⟨_, rfl, hend, ht⟩) (fun _ h => nomatch h) d_X1_turnsAny_59
  · refine lv_iload hx hb d_X1_turnsAny_6 (lv_at hl 5 rfl) ?_
    refine lv_bipush (v := 8) hx hb d_X1_turnsAny_8 (by decide) ?_
    refine lv_icmp_ge (tgt := 57) hx hb d_X1_turnsAny_10 (by decide) (fun h1 => ?_) (fun h1 => ?_)
    · have hw : w0 = 8 := Nat.le_antisymm hw8 ((nI_leI (a := 8) (b := w0) (by decide) (by omega)).mp h1)
      subst hw
      exact J (hor.elim (fun z => Or.inr ⟨fun y => by obtain ⟨_, v, hv, hp⟩ := hany.mp y; exact z.2 v hv hp, z.1⟩) (fun z => Or.inl ⟨hany.mpr z.2, z.1⟩))
    · have hw : w0 < 8 := Nat.lt_of_not_le (fun z => h1 ((nI_leI (a := 8) (b := w0) (by decide) (by omega)).mpr z))
      refine lv_aload_n hx hb d_X1_turnsAny_13 rfl (lv_at hl 0 rfl) ?_
      refine va_get (D := D) (ci := 1) (v := .ref ac) (C := RX1) (T := TX1) (N := 14) hx hb hts usX1 hown hK hP 0 rfl rfl 1 (by decide) (hts _ fl_X1_7) (fun _ h9 => h9) hfs d_X1_turnsAny_14 ?_
      refine lv_bipush (v := 64) hx hb d_X1_turnsAny_17 (by decide) ?_
      refine lv_iload_n hx hb d_X1_turnsAny_19 rfl (lv_at hl 1 rfl) ?_
      refine lv_imul hx hb d_X1_turnsAny_20 ?_
      refine lv_iload_n hx hb d_X1_turnsAny_21 rfl (lv_at hl 2 rfl) ?_
      refine lv_iadd hx hb d_X1_turnsAny_22 ?_
      refine td_i (y := (nI (64 * L + s0))) (by show nI 64 * nI L + nI s0 = _; rw [pk_mul, nI_add]) ?_
      refine va_iald hx hb hK hP 1 0 rfl rfl (vp_in_nI (show 64 * L + s0 < 1216 by omega) (by decide)) d_X1_turnsAny_23 ?_
      refine td_i (y := (td_lv ce L s0)) (by rw [nI_clamp (by omega)]; rfl) ?_
      refine lv_if_ne (tgt := 57) hx hb d_X1_turnsAny_24 (by decide) (fun h2 => ?_) (fun h2 => ?_)
      · exact J (hor.elim (fun z => Or.inr ⟨fun y => h2 (hany.mp y).1, z.1⟩) (fun z => absurd z.2.1 h2))
      · refine lv_iload hx hb d_X1_turnsAny_27 (lv_at hl 4 rfl) ?_
        refine lv_if_ne (tgt := 57) hx hb d_X1_turnsAny_29 (by decide) (fun h3 => ?_) (fun h3 => ?_)
        · exact J (hor.elim (fun z => absurd z.1 h3) (fun z => Or.inl ⟨hany.mpr z.2, z.1⟩))
        · have hall := hor.elim (fun z => z.2) (fun z => absurd (z.1.symm.trans h3) (by decide))
          refine lv_aload_n hx hb d_X1_turnsAny_32 rfl (lv_at hl 0 rfl) ?_
          refine lv_iload_n hx hb d_X1_turnsAny_33 rfl (lv_at hl 1 rfl) ?_
          refine lv_iload_n hx hb d_X1_turnsAny_34 rfl (lv_at hl 2 rfl) ?_
          refine lv_iload hx hb d_X1_turnsAny_35 (lv_at hl 5 rfl) ?_
          refine lv_iload_n hx hb d_X1_turnsAny_37 rfl (lv_at hl 3 rfl) ?_
          refine vp_callSi (W.runV (b := o) (C := RX1) (As := [.int (nI L), .int (nI s0), .int (nI w0), .int who]) (rest := []) ⟨hx, hb, hml, hown, hts⟩ (m_X1_along l D o ac cI fs hfs ce L hL s0 hs0 w0 hw who) (cwV 4 hts (tw_V ml_X1_67 im_X1_along se_X1_along in_X1 kw_X1_along) rfl rfl rfl (by decide +kernel) ⟨Nat.le_of_ble_eq_true rfl, Nat.le_of_ble_eq_true rfl⟩) ⟨fun a U g mk q => ⟨q.1, q.2.1, va_K.moved (u := U) (U := U.calling g mk a) (Vm.Alike.refl U.vm) q.2.2⟩, va_recv (q0 := 0) (ci := 1) hK hP rfl rfl, fun U hU hW => ⟨rfl, by rw [hU]; exact hP, va_K.moved hW.alike hK⟩⟩ rfl rfl hl.1 rfl (lv_room (Nat.le_of_ble_eq_true rfl)) d_X1_turnsAny_38 ⟨Nat.zero_le _, Nat.zero_le _⟩) (fun r h9 => ?_)
          subst h9
          have hn7 := td_al_le hw hs0 (td_lv ce L) who
          refine td_joini 49 ls [] (fun x => (x = 1 ∧ 0 < td_al (td_lv ce L) who w0 s0) ∨ (x = 0 ∧ ¬ 0 < td_al (td_lv ce L) who w0 s0)) (fun x ex => ?_) (fun J2 => ?_)
          · refine lv_istore hx hb d_X1_turnsAny_49 hl (by decide) rfl (fun ls hl => ?_)
            have hl : lv_has ls 6 [(4, .int x), (0, .ref o), (1, .int (nI L)), (2, .int (nI s0)), (3, .int who), (5, .int (nI w0))] := hl
            refine lv_iinc (k := 5) (v := (nI (w0 + 1))) hx hb d_X1_turnsAny_51 hl rfl ((nI_succ w0).symm) (by decide) rfl (fun ls hl => ?_)
            have hl : lv_has ls 6 [(5, .int (nI (w0 + 1))), (4, .int x), (0, .ref o), (1, .int (nI L)), (2, .int (nI s0)), (3, .int who)] := hl
            refine lv_goto (tgt := 6) hx hb d_X1_turnsAny_54 (by decide) ?_
            have hl1 := lv_sub hl [2, 3, 4, 5, 1, 0] rfl
            exact ih (w0 + 1, x) _ (by show 8 - (w0 + 1) < 8 - w0; omega) ⟨⟨hw, ex.elim (fun z => Or.inr ⟨z.1, h2, w0, hw, z.2⟩) (fun z => Or.inl ⟨z.1, fun v hv => by
              by_cases hvw : v = w0
              · rw [hvw]; exact z.2
              · exact hall v (by have : v < w0 + 1 := hv; omega)⟩)⟩, hl1⟩
          · refine lv_if_le (tgt := 48) hx hb d_X1_turnsAny_41 (by decide) (fun h4 => ?_) (fun h4 => ?_)
            · refine lv_iconst (v := 0) hx hb d_X1_turnsAny_48 (by decide) ?_
              exact J2 _ (Or.inr ⟨rfl, fun z => absurd ((nI_ltI (a := 0) (b := td_al (td_lv ce L) who w0 s0) (by omega) (by omega)).mpr z) (Int32.not_lt.mpr h4)⟩)
            · refine lv_iconst (v := 1) hx hb d_X1_turnsAny_44 (by decide) ?_
              refine lv_goto (tgt := 49) hx hb d_X1_turnsAny_45 (by decide) ?_
              exact J2 _ (Or.inl ⟨rfl, (nI_ltI (a := 0) (b := td_al (td_lv ce L) who w0 s0) (by omega) (by omega)).mp (Int32.not_le.mp h4)⟩)
set_option maxHeartbeats 4000000 in
set_option maxRecDepth 100000 in
theorem m_X1_isOver (l : Launch) (D : va_G) (o ac : Nat) (cI : ClassId) (fs : List Value) (hfs : fs[1]? = some (.ref ac)) (ce : Nat → Int32) (L : Nat) (hL : L ≤ 18) : Met l y_X1_isOver (k_X1_isOver :: tw) ({ frames := 4, cells := 0, slots := 0, locals := 103 }) (va_Pc [.ref o, .int (nI L)] (fun U => va_P D tdC [(o, .inr (1, fs)), (ac, .inl (cI, 1216, .inl ce))] U.heap ∧ va_K D tdC [(cI, .int)] U)) (vp_Si (fun x => ((td_mv (td_lv ce L) 0 = 0 ∧ td_mv (td_lv ce L) 1 = 0) ∧ x = 1) ∨ (¬ (td_mv (td_lv ce L) 0 = 0 ∧ td_mv (td_lv ce L) 1 = 0) ∧ x = 0))) 0 0 (fun _ => False) := by
  refine Met.ofW (cc := c_X1_isOver) (maxL := 2) (ret := (some .boolean)) (by decide) rfl ?_
  intro p e s m args below meth c s₁ B hml hv
  obtain ⟨rfl, hP, hK⟩ := hv
  have hx := B.exec
  have hb := B.bytes
  have hr := B.returns
  have hts : ∀ w ∈ tw, w.before _ s = true := fun w h => atoms_spec (ws := k_X1_isOver :: tw) B.pre w (List.mem_cons_of_mem _ h)
  have hown : s.vm.findClass RX1 = some m.cls := findClass_of_methodNamed B.named
  have hlocks := B.notSynchronized
  have hl := lv_entry ([.ref o, .int (nI L)]) (n := 2) (Nat.le_of_ble_eq_true rfl)
  rw [lg_entry_eq]
  generalize (lg_sl ([.ref o, .int (nI L)]) ++ List.replicate (2 - (lg_sl ([.ref o, .int (nI L)])).length) Slot.unset).toArray = ls at hl ⊢
  have hl : lv_has ls 2 [(0, .ref o), (1, .int (nI L))] := hl
  refine td_joini 23 ls [] (fun x => ((td_mv (td_lv ce L) 0 = 0 ∧ td_mv (td_lv ce L) 1 = 0) ∧ x = 1) ∨ (¬ (td_mv (td_lv ce L) 0 = 0 ∧ td_mv (td_lv ce L) 1 = 0) ∧ x = 0)) (fun x ex => ?_) (fun J => ?_)
  · rcases id ex with ⟨_, e1⟩ | ⟨_, e1⟩
    · subst e1
      exact W.zret (v := _) hx hb hr (by first | rfl | decide | assumption) (fun t ht hW => ⟨_, rfl, ex, ht⟩) (fun _ h => nomatch h) d_X1_isOver_23
    · subst e1
      exact W.zret (v := _) hx hb hr (by first | rfl | decide | assumption) (fun t ht hW => ⟨_, rfl, ex, ht⟩) (fun _ h => nomatch h) d_X1_isOver_23
  · refine lv_aload_n hx hb d_X1_isOver_0 rfl (lv_at hl 0 rfl) ?_
    refine lv_iload_n hx hb d_X1_isOver_1 rfl (lv_at hl 1 rfl) ?_
    refine lv_iconst (v := 0) hx hb d_X1_isOver_2 (by decide) ?_
    refine vp_callSi (W.runV (b := o) (C := RX1) (As := [.int (nI L), .int 0]) (rest := []) ⟨hx, hb, hml, hown, hts⟩ (m_X1_movesAt l D o ac cI fs hfs ce L hL 0) (cwV 2 hts (tw_V ml_X1_75 im_X1_movesAt se_X1_movesAt in_X1 kw_X1_movesAt) rfl rfl rfl (by decide +kernel) ⟨Nat.le_of_ble_eq_true rfl, Nat.le_of_ble_eq_true rfl⟩) ⟨fun a U g mk q => ⟨q.1, q.2.1, va_K.moved (u := U) (U := U.calling g mk a) (Vm.Alike.refl U.vm) q.2.2⟩, va_recv (q0 := 0) (ci := 1) hK hP rfl rfl, fun U hU hW => ⟨rfl, by rw [hU]; exact hP, va_K.moved hW.alike hK⟩⟩ rfl rfl hl.1 rfl (lv_room (Nat.le_of_ble_eq_true rfl)) d_X1_isOver_3 ⟨Nat.zero_le _, Nat.zero_le _⟩) (fun r h9 => ?_)
    subst h9
    refine lv_if_ne (tgt := 22) hx hb d_X1_isOver_6 (by decide) (fun h1 => ?_) (fun h1 => ?_)
    · refine lv_iconst (v := 0) hx hb d_X1_isOver_22 (by decide) ?_
      exact J _ (Or.inr ⟨fun z => h1 ((nI_eq (a := td_mv (td_lv ce L) 0) (b := 0) (Nat.lt_of_le_of_lt (td_cn_le _ 64) (by decide)) (by decide)).mpr z.1), rfl⟩)
    · refine lv_aload_n hx hb d_X1_isOver_9 rfl (lv_at hl 0 rfl) ?_
      refine lv_iload_n hx hb d_X1_isOver_10 rfl (lv_at hl 1 rfl) ?_
      refine lv_iconst (v := 1) hx hb d_X1_isOver_11 (by decide) ?_
      refine vp_callSi (W.runV (b := o) (C := RX1) (As := [.int (nI L), .int 1]) (rest := []) ⟨hx, hb, hml, hown, hts⟩ (m_X1_movesAt l D o ac cI fs hfs ce L hL 1) (cwV 2 hts (tw_V ml_X1_75 im_X1_movesAt se_X1_movesAt in_X1 kw_X1_movesAt) rfl rfl rfl (by decide +kernel) ⟨Nat.le_of_ble_eq_true rfl, Nat.le_of_ble_eq_true rfl⟩) ⟨fun a U g mk q => ⟨q.1, q.2.1, va_K.moved (u := U) (U := U.calling g mk a) (Vm.Alike.refl U.vm) q.2.2⟩, va_recv (q0 := 0) (ci := 1) hK hP rfl rfl, fun U hU hW => ⟨rfl, by rw [hU]; exact hP, va_K.moved hW.alike hK⟩⟩ rfl rfl hl.1 rfl (lv_room (Nat.le_of_ble_eq_true rfl)) d_X1_isOver_12 ⟨Nat.zero_le _, Nat.zero_le _⟩) (fun r h9 => ?_)
      subst h9
      refine lv_if_ne (tgt := 22) hx hb d_X1_isOver_15 (by decide) (fun h2 => ?_) (fun h2 => ?_)
      · refine lv_iconst (v := 0) hx hb d_X1_isOver_22 (by decide) ?_
        exact J _ (Or.inr ⟨fun z => h2 ((nI_eq (a := td_mv (td_lv ce L) 1) (b := 0) (Nat.lt_of_le_of_lt (td_cn_le _ 64) (by decide)) (by decide)).mpr z.2), rfl⟩)
      · refine lv_iconst (v := 1) hx hb d_X1_isOver_18 (by decide) ?_
        refine lv_goto (tgt := 23) hx hb d_X1_isOver_19 (by decide) ?_
        exact J _ (Or.inl ⟨⟨(nI_eq (a := td_mv (td_lv ce L) 0) (b := 0) (Nat.lt_of_le_of_lt (td_cn_le _ 64) (by decide)) (by decide)).mp h1, (nI_eq (a := td_mv (td_lv ce L) 1) (b := 0) (Nat.lt_of_le_of_lt (td_cn_le _ 64) (by decide)) (by decide)).mp h2⟩, rfl⟩)
set_option maxHeartbeats 4000000 in
set_option maxRecDepth 100000 in
theorem m_X1_empties (l : Launch) (D : va_G) (o ac : Nat) (cI : ClassId) (fs : List Value) (hfs : fs[1]? = some (.ref ac)) (ce : Nat → Int32) : Met l y_X1_empties (k_X1_empties :: tw) ({ frames := 1, cells := 0, slots := 0, locals := 24 }) (va_Pc [.ref o] (fun U => va_P D tdC [(o, .inr (1, fs)), (ac, .inl (cI, 1216, .inl ce))] U.heap ∧ va_K D tdC [(cI, .int)] U)) (vp_Si (fun x => x = 64 - nI (td_dc (td_lv ce 0) 0) - nI (td_dc (td_lv ce 0) 1))) 0 0 (fun _ => False) := by
  refine Met.ofW (cc := c_X1_empties) (maxL := 1) (ret := (some .int)) (by decide) rfl ?_
  intro p e s m args below meth c s₁ B hml hv
  obtain ⟨rfl, hP, hK⟩ := hv
  have hx := B.exec
  have hb := B.bytes
  have hr := B.returns
  have hts : ∀ w ∈ tw, w.before _ s = true := fun w h => atoms_spec (ws := k_X1_empties :: tw) B.pre w (List.mem_cons_of_mem _ h)
  have hown : s.vm.findClass RX1 = some m.cls := findClass_of_methodNamed B.named
  have hlocks := B.notSynchronized
  have hl := lv_entry ([.ref o]) (n := 1) (Nat.le_of_ble_eq_true rfl)
  rw [lg_entry_eq]
  generalize (lg_sl ([.ref o]) ++ List.replicate (1 - (lg_sl ([.ref o])).length) Slot.unset).toArray = ls at hl ⊢
  have hl : lv_has ls 1 [(0, .ref o)] := hl
  refine lv_bipush (v := 64) hx hb d_X1_empties_0 (by decide) ?_
  refine lv_aload_n hx hb d_X1_empties_2 rfl (lv_at hl 0 rfl) ?_
  refine lv_iconst (v := 0) hx hb d_X1_empties_3 (by decide) ?_
  refine lv_iconst (v := 0) hx hb d_X1_empties_4 (by decide) ?_
  refine vp_callSi (W.runV (b := o) (C := RX1) (As := [.int 0, .int 0]) (rest := [.int 64]) ⟨hx, hb, hml, hown, hts⟩ (m_X1_discsOf l D o ac cI fs hfs ce 0 (by decide) 0) (cwV 2 hts (tw_V ml_X1_93 im_X1_discsOf se_X1_discsOf in_X1 kw_X1_discsOf) rfl rfl rfl (by decide +kernel) ⟨Nat.le_of_ble_eq_true rfl, Nat.le_of_ble_eq_true rfl⟩) ⟨fun a U g mk q => ⟨q.1, q.2.1, va_K.moved (u := U) (U := U.calling g mk a) (Vm.Alike.refl U.vm) q.2.2⟩, va_recv (q0 := 0) (ci := 1) hK hP rfl rfl, fun U hU hW => ⟨rfl, by rw [hU]; exact hP, va_K.moved hW.alike hK⟩⟩ rfl rfl hl.1 rfl (lv_room (Nat.le_of_ble_eq_true rfl)) d_X1_empties_5 ⟨Nat.zero_le _, Nat.zero_le _⟩) (fun r h9 => ?_)
  subst h9
  refine lv_isub hx hb d_X1_empties_8 ?_
  refine lv_aload_n hx hb d_X1_empties_9 rfl (lv_at hl 0 rfl) ?_
  refine lv_iconst (v := 0) hx hb d_X1_empties_10 (by decide) ?_
  refine lv_iconst (v := 1) hx hb d_X1_empties_11 (by decide) ?_
  refine vp_callSi (W.runV (b := o) (C := RX1) (As := [.int 0, .int 1]) (rest := [.int (64 - (nI (td_dc (td_lv ce 0) 0)))]) ⟨hx, hb, hml, hown, hts⟩ (m_X1_discsOf l D o ac cI fs hfs ce 0 (by decide) 1) (cwV 2 hts (tw_V ml_X1_93 im_X1_discsOf se_X1_discsOf in_X1 kw_X1_discsOf) rfl rfl rfl (by decide +kernel) ⟨Nat.le_of_ble_eq_true rfl, Nat.le_of_ble_eq_true rfl⟩) ⟨fun a U g mk q => ⟨q.1, q.2.1, va_K.moved (u := U) (U := U.calling g mk a) (Vm.Alike.refl U.vm) q.2.2⟩, va_recv (q0 := 0) (ci := 1) hK hP rfl rfl, fun U hU hW => ⟨rfl, by rw [hU]; exact hP, va_K.moved hW.alike hK⟩⟩ rfl rfl hl.1 rfl (lv_room (Nat.le_of_ble_eq_true rfl)) d_X1_empties_12 ⟨Nat.zero_le _, Nat.zero_le _⟩) (fun r h9 => ?_)
  subst h9
  refine lv_isub hx hb d_X1_empties_15 ?_
  exact W.iret (v := ((64 - (nI (td_dc (td_lv ce 0) 0))) - (nI (td_dc (td_lv ce 0) 1)))) hx hb hr (fun t ht hW => ⟨_, rfl, rfl, ht⟩) (fun _ h => nomatch h) d_X1_empties_16
