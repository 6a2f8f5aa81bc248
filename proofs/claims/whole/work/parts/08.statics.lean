/-! more of the class's static methods -/
def td_hup (m : Int64) (k : Int32) (u : Int64) : Nat → Int64
  | 0 => u
  | n + 1 => td_hup m k u n ||| td_lushr (td_hup m k u n &&& m) k
def td_hdn (m : Int64) (k : Int32) (u : Int64) : Nat → Int64
  | 0 => u
  | n + 1 => td_hdn m k u n ||| td_lshl (td_hdn m k u n &&& m) k
def td_held (m : Int64) (k : Int32) (u d : Int64) : Int64 := td_hup m k u 7 ||| td_hdn m k d 7
def td_max (a b : Int32) : Int32 := if a < b then b else a
def td_lead (a b : Int64) : Int32 := td_pop a - td_pop b
set_option maxHeartbeats 4000000 in
set_option maxRecDepth 100000 in
theorem m_X0_turnedAlong (l : Launch) (a b d : Int64) (k : Int32) : Met l y_X0_turnedAlong (k_X0_turnedAlong :: tw) ({ frames := 1, cells := 0, slots := 0, locals := 26 }) (va_Pc [.long a, .long b, .long d, .int k] (fun _ => True)) (vp_Sl (fun r => r = td_tal a b d k)) 0 0 (fun _ => False) := by
  refine Met.ofW (cc := c_X0_turnedAlong) (maxL := 13) (ret := (some .long)) (by decide) rfl ?_
  intro p e s m args below meth c s₁ B hml hv
  obtain ⟨rfl, hv⟩ := hv
  have hx := B.exec
  have hb := B.bytes
  have hr := B.returns
  have hts : ∀ w ∈ tw, w.before _ s = true := fun w h => atoms_spec (ws := k_X0_turnedAlong :: tw) B.pre w (List.mem_cons_of_mem _ h)
  have hown : s.vm.findClass RX0 = some m.cls := findClass_of_methodNamed B.named
  have hlocks := B.notSynchronized
  have hl := lv_entry ([.long a, .long b, .long d, .int k]) (n := 13) (Nat.le_of_ble_eq_true rfl)
  rw [lg_entry_eq]
  generalize (lg_sl ([.long a, .long b, .long d, .int k]) ++ List.replicate (13 - (lg_sl ([.long a, .long b, .long d, .int k])).length) Slot.unset).toArray = ls at hl ⊢
  have hl : lv_has ls 13 [(0, .long a), (2, .long b), (4, .long d), (6, .int k)] := hl
  refine lv_lload hx hb d_X0_turnedAlong_0 (lv_at hl 2 rfl) ?_
  refine lv_lload_n hx hb d_X0_turnedAlong_2 rfl (lv_at hl 1 rfl) ?_
  refine lv_iload hx hb d_X0_turnedAlong_3 (lv_at hl 3 rfl) ?_
  refine vp_callSl (W.runS (As := [.long d, .long b, .int k]) (rest := []) ⟨hx, hb, hml, hown, hts⟩ (m_X0_runUp l d b k) (va_cwS 3 hts (tw_S ml_X0_165 st_X0_runUp in_X0 kw_X0_runUp) rfl rfl rfl (by decide +kernel) ⟨Nat.le_of_ble_eq_true rfl, Nat.le_of_ble_eq_true rfl⟩) ⟨fun _ _ _ _ q => q, fun U hU hW => ⟨rfl, trivial⟩⟩ rfl rfl hl.1 rfl (lv_room (Nat.le_of_ble_eq_true rfl)) d_X0_turnedAlong_5 ⟨Nat.le_refl _, Nat.le_refl _⟩) (fun r hq => ?_)
  subst hq
  refine lv_topl (fun up eu => ?_)
  refine lv_lstore hx hb d_X0_turnedAlong_8 hl (by decide) rfl (fun ls hl => ?_)
  have hl : lv_has ls 13 [(7, .long up), (0, .long a), (2, .long b), (4, .long d), (6, .int k)] := hl
  refine lv_lload hx hb d_X0_turnedAlong_10 (lv_at hl 3 rfl) ?_
  refine lv_lload_n hx hb d_X0_turnedAlong_12 rfl (lv_at hl 2 rfl) ?_
  refine lv_iload hx hb d_X0_turnedAlong_13 (lv_at hl 4 rfl) ?_
  refine vp_callSl (W.runS (As := [.long d, .long b, .int k]) (rest := []) ⟨hx, hb, hml, hown, hts⟩ (m_X0_runDown l d b k) (va_cwS 3 hts (tw_S ml_X0_168 st_X0_runDown in_X0 kw_X0_runDown) rfl rfl rfl (by decide +kernel) ⟨Nat.le_of_ble_eq_true rfl, Nat.le_of_ble_eq_true rfl⟩) ⟨fun _ _ _ _ q => q, fun U hU hW => ⟨rfl, trivial⟩⟩ rfl rfl hl.1 rfl (lv_room (Nat.le_of_ble_eq_true rfl)) d_X0_turnedAlong_15 ⟨Nat.le_refl _, Nat.le_refl _⟩) (fun r hq => ?_)
  subst hq
  refine lv_topl (fun dn ed => ?_)
  refine lv_lstore hx hb d_X0_turnedAlong_18 hl (by decide) rfl (fun ls hl => ?_)
  have hl : lv_has ls 13 [(9, .long dn), (7, .long up), (0, .long a), (2, .long b), (4, .long d), (6, .int k)] := hl
  refine td_joinl 38 ls [] (fun x => x = (if (td_lshl up k &&& a) = 0 then 0 else up)) (fun x ex => ?_) (fun J => ?_)
  · refine lv_topl (fun f ef => ?_)
    rw [ex] at ef
    refine lv_lstore hx hb d_X0_turnedAlong_38 hl (by decide) rfl (fun ls hl => ?_)
    have hl : lv_has ls 13 [(11, .long f), (9, .long dn), (7, .long up), (0, .long a), (2, .long b), (4, .long d), (6, .int k)] := hl
    refine td_joinl 62 ls [] (fun x => x = (if (td_lushr dn k &&& a) = 0 then f else f ||| dn)) (fun x ex => ?_) (fun J => ?_)
    · exact W.lret (v := x) hx hb hr (fun t ht hW => ⟨_, rfl, by subst_vars; rfl, ht⟩) (fun _ h => nomatch h) d_X0_turnedAlong_62
    · refine lv_lload hx hb d_X0_turnedAlong_40 (lv_at hl 1 rfl) ?_
      refine lv_iload hx hb d_X0_turnedAlong_42 (lv_at hl 6 rfl) ?_
      refine lv_lushr (v := (td_lushr dn k)) hx hb d_X0_turnedAlong_44 rfl ?_
      refine lv_lload_n hx hb d_X0_turnedAlong_45 rfl (lv_at hl 3 rfl) ?_
      refine lv_land hx hb d_X0_turnedAlong_46 ?_
      refine lv_lconst (v := 0) hx hb d_X0_turnedAlong_47 (by decide) ?_
      refine td_leq (tgt := 60) hx hb d_X0_turnedAlong_48 d_X0_turnedAlong_49 (by decide) (fun hc => ?_) (fun hc => ?_)
      · refine lv_lload hx hb d_X0_turnedAlong_60 (lv_at hl 0 rfl) ?_
        exact J _ (by rw [if_pos hc])
      · refine lv_lload hx hb d_X0_turnedAlong_52 (lv_at hl 0 rfl) ?_
        refine lv_lload hx hb d_X0_turnedAlong_54 (lv_at hl 1 rfl) ?_
        refine lv_lor hx hb d_X0_turnedAlong_56 ?_
        refine lv_goto (tgt := 62) hx hb d_X0_turnedAlong_57 (by decide) ?_
        exact J _ (by rw [if_neg hc])
  · refine lv_lload hx hb d_X0_turnedAlong_20 (lv_at hl 1 rfl) ?_
    refine lv_iload hx hb d_X0_turnedAlong_22 (lv_at hl 5 rfl) ?_
    refine lv_lshl (v := (td_lshl up k)) hx hb d_X0_turnedAlong_24 rfl ?_
    refine lv_lload_n hx hb d_X0_turnedAlong_25 rfl (lv_at hl 2 rfl) ?_
    refine lv_land hx hb d_X0_turnedAlong_26 ?_
    refine lv_lconst (v := 0) hx hb d_X0_turnedAlong_27 (by decide) ?_
    refine td_leq (tgt := 37) hx hb d_X0_turnedAlong_28 d_X0_turnedAlong_29 (by decide) (fun hc => ?_) (fun hc => ?_)
    · refine lv_lconst (v := 0) hx hb d_X0_turnedAlong_37 (by decide) ?_
      exact J _ (by rw [if_pos hc])
    · refine lv_lload hx hb d_X0_turnedAlong_32 (lv_at hl 1 rfl) ?_
      refine lv_goto (tgt := 38) hx hb d_X0_turnedAlong_34 (by decide) ?_
      exact J _ (by rw [if_neg hc])
set_option maxHeartbeats 4000000 in
set_option maxRecDepth 100000 in
theorem m_X0_turnedBy (l : Launch) (a b d : Int64) : Met l y_X0_turnedBy (k_X0_turnedBy :: tw) ({ frames := 2, cells := 0, slots := 0, locals := 58 }) (va_Pc [.long a, .long b, .long d] (fun _ => True)) (vp_Sl (fun r => r = td_turned a b d)) 0 0 (fun _ => False) := by
  refine Met.ofW (cc := c_X0_turnedBy) (maxL := 8) (ret := (some .long)) (by decide) rfl ?_
  intro p e s m args below meth c s₁ B hml hv
  obtain ⟨rfl, hv⟩ := hv
  have hx := B.exec
  have hb := B.bytes
  have hr := B.returns
  have hts : ∀ w ∈ tw, w.before _ s = true := fun w h => atoms_spec (ws := k_X0_turnedBy :: tw) B.pre w (List.mem_cons_of_mem _ h)
  have hown : s.vm.findClass RX0 = some m.cls := findClass_of_methodNamed B.named
  have hlocks := B.notSynchronized
  have hl := lv_entry ([.long a, .long b, .long d]) (n := 8) (Nat.le_of_ble_eq_true rfl)
  rw [lg_entry_eq]
  generalize (lg_sl ([.long a, .long b, .long d]) ++ List.replicate (8 - (lg_sl ([.long a, .long b, .long d])).length) Slot.unset).toArray = ls at hl ⊢
  have hl : lv_has ls 8 [(0, .long a), (2, .long b), (4, .long d)] := hl
  refine lv_lload_n hx hb d_X0_turnedBy_0 rfl (lv_at hl 1 rfl) ?_
  refine lv_ldc2 (v := 9114861777597660798) hx hb hown (hts _ cn_X0_160) d_X0_turnedBy_1 ?_
  refine lv_land hx hb d_X0_turnedBy_4 ?_
  refine td_l (y := (td_inner b)) (rfl) ?_
  refine lv_lstore hx hb d_X0_turnedBy_5 hl (by decide) rfl (fun ls hl => ?_)
  have hl : lv_has ls 8 [(6, .long (td_inner b)), (0, .long a), (2, .long b), (4, .long d)] := hl
  refine lv_lload_n hx hb d_X0_turnedBy_7 rfl (lv_at hl 1 rfl) ?_
  refine lv_lload_n hx hb d_X0_turnedBy_8 rfl (lv_at hl 2 rfl) ?_
  refine lv_lload hx hb d_X0_turnedBy_9 (lv_at hl 3 rfl) ?_
  refine lv_bipush (v := 8) hx hb d_X0_turnedBy_11 (by decide) ?_
  refine vp_callSl (W.runS (As := [.long a, .long b, .long d, .int 8]) (rest := []) ⟨hx, hb, hml, hown, hts⟩ (m_X0_turnedAlong l a b d 8) (va_cwS 4 hts (tw_S ml_X0_171 st_X0_turnedAlong in_X0 kw_X0_turnedAlong) rfl rfl rfl (by decide +kernel) ⟨Nat.le_of_ble_eq_true rfl, Nat.le_of_ble_eq_true rfl⟩) ⟨fun _ _ _ _ q => q, fun U hU hW => ⟨rfl, trivial⟩⟩ rfl rfl hl.1 rfl (lv_room (Nat.le_of_ble_eq_true rfl)) d_X0_turnedBy_13 ⟨Nat.le_refl _, Nat.le_refl _⟩) (fun r hq => ?_)
  subst hq
  refine lv_lload_n hx hb d_X0_turnedBy_16 rfl (lv_at hl 1 rfl) ?_
  refine lv_lload hx hb d_X0_turnedBy_17 (lv_at hl 0 rfl) ?_
  refine lv_lload hx hb d_X0_turnedBy_19 (lv_at hl 3 rfl) ?_
  refine lv_iconst (v := 1) hx hb d_X0_turnedBy_21 (by decide) ?_
  refine vp_callSl (W.runS (As := [.long a, .long (td_inner b), .long d, .int 1]) (rest := [.long (td_tal a b d 8)]) ⟨hx, hb, hml, hown, hts⟩ (m_X0_turnedAlong l a (td_inner b) d 1) (va_cwS 4 hts (tw_S ml_X0_171 st_X0_turnedAlong in_X0 kw_X0_turnedAlong) rfl rfl rfl (by decide +kernel) ⟨Nat.le_of_ble_eq_true rfl, Nat.le_of_ble_eq_true rfl⟩) ⟨fun _ _ _ _ q => q, fun U hU hW => ⟨rfl, trivial⟩⟩ rfl rfl hl.1 rfl (lv_room (Nat.le_of_ble_eq_true rfl)) d_X0_turnedBy_22 ⟨Nat.le_refl _, Nat.le_refl _⟩) (fun r hq => ?_)
  subst hq
  refine lv_lor hx hb d_X0_turnedBy_25 ?_
  refine lv_lload_n hx hb d_X0_turnedBy_26 rfl (lv_at hl 1 rfl) ?_
  refine lv_lload hx hb d_X0_turnedBy_27 (lv_at hl 0 rfl) ?_
  refine lv_lload hx hb d_X0_turnedBy_29 (lv_at hl 3 rfl) ?_
  refine lv_bipush (v := 9) hx hb d_X0_turnedBy_31 (by decide) ?_
  refine vp_callSl (W.runS (As := [.long a, .long (td_inner b), .long d, .int 9]) (rest := [.long ((td_tal a b d 8) ||| (td_tal a (td_inner b) d 1))]) ⟨hx, hb, hml, hown, hts⟩ (m_X0_turnedAlong l a (td_inner b) d 9) (va_cwS 4 hts (tw_S ml_X0_171 st_X0_turnedAlong in_X0 kw_X0_turnedAlong) rfl rfl rfl (by decide +kernel) ⟨Nat.le_of_ble_eq_true rfl, Nat.le_of_ble_eq_true rfl⟩) ⟨fun _ _ _ _ q => q, fun U hU hW => ⟨rfl, trivial⟩⟩ rfl rfl hl.1 rfl (lv_room (Nat.le_of_ble_eq_true rfl)) d_X0_turnedBy_33 ⟨Nat.le_refl _, Nat.le_refl _⟩) (fun r hq => ?_)
  subst hq
  refine lv_lor hx hb d_X0_turnedBy_36 ?_
  refine lv_lload_n hx hb d_X0_turnedBy_37 rfl (lv_at hl 1 rfl) ?_
  refine lv_lload hx hb d_X0_turnedBy_38 (lv_at hl 0 rfl) ?_
  refine lv_lload hx hb d_X0_turnedBy_40 (lv_at hl 3 rfl) ?_
  refine lv_bipush (v := 7) hx hb d_X0_turnedBy_42 (by decide) ?_
  refine vp_callSl (W.runS (As := [.long a, .long (td_inner b), .long d, .int 7]) (rest := [.long (((td_tal a b d 8) ||| (td_tal a (td_inner b) d 1)) ||| (td_tal a (td_inner b) d 9))]) ⟨hx, hb, hml, hown, hts⟩ (m_X0_turnedAlong l a (td_inner b) d 7) (va_cwS 4 hts (tw_S ml_X0_171 st_X0_turnedAlong in_X0 kw_X0_turnedAlong) rfl rfl rfl (by decide +kernel) ⟨Nat.le_of_ble_eq_true rfl, Nat.le_of_ble_eq_true rfl⟩) ⟨fun _ _ _ _ q => q, fun U hU hW => ⟨rfl, trivial⟩⟩ rfl rfl hl.1 rfl (lv_room (Nat.le_of_ble_eq_true rfl)) d_X0_turnedBy_44 ⟨Nat.le_refl _, Nat.le_refl _⟩) (fun r hq => ?_)
  subst hq
  refine lv_lor hx hb d_X0_turnedBy_47 ?_
  exact W.lret (v := ((((td_tal a b d 8) ||| (td_tal a (td_inner b) d 1)) ||| (td_tal a (td_inner b) d 9)) ||| (td_tal a (td_inner b) d 7))) hx hb hr (fun t ht hW => ⟨_, rfl, rfl, ht⟩) (fun _ h => nomatch h) d_X0_turnedBy_48
set_option maxHeartbeats 4000000 in
set_option maxRecDepth 100000 in
theorem m_X0_discOn (l : Launch) (q : Int32) : Met l y_X0_discOn (k_X0_discOn :: tw) ({ frames := 0, cells := 0, slots := 0, locals := 0 }) (va_Pc [.int q] (fun _ => True)) (vp_Sl (fun r => r = td_on q)) 0 0 (fun _ => False) := by
  refine Met.ofW (cc := c_X0_discOn) (maxL := 1) (ret := (some .long)) (by decide) rfl ?_
  intro p e s m args below meth c s₁ B hml hv
  obtain ⟨rfl, hv⟩ := hv
  have hx := B.exec
  have hb := B.bytes
  have hr := B.returns
  have hts : ∀ w ∈ tw, w.before _ s = true := fun w h => atoms_spec (ws := k_X0_discOn :: tw) B.pre w (List.mem_cons_of_mem _ h)
  have hown : s.vm.findClass RX0 = some m.cls := findClass_of_methodNamed B.named
  have hlocks := B.notSynchronized
  have hl := lv_entry ([.int q]) (n := 1) (Nat.le_of_ble_eq_true rfl)
  rw [lg_entry_eq]
  generalize (lg_sl ([.int q]) ++ List.replicate (1 - (lg_sl ([.int q])).length) Slot.unset).toArray = ls at hl ⊢
  have hl : lv_has ls 1 [(0, .int q)] := hl
  refine td_joinl 13 ls [] (fun x => x = td_on q) (fun x ex => ?_) (fun J => ?_)
  · exact W.lret (v := x) hx hb hr (fun t ht hW => ⟨_, rfl, ex, ht⟩) (fun _ h => nomatch h) d_X0_discOn_13
  · refine lv_iload_n hx hb d_X0_discOn_0 rfl (lv_at hl 0 rfl) ?_
    refine lv_bipush (v := 64) hx hb d_X0_discOn_1 (by decide) ?_
    refine lv_icmp_ge (tgt := 12) hx hb d_X0_discOn_3 (by decide) (fun hc => ?_) (fun hc => ?_)
    · refine lv_lconst (v := 0) hx hb d_X0_discOn_12 (by decide) ?_
      exact J _ (by unfold td_on; rw [if_neg (Int32.not_lt.mpr hc)])
    · refine lv_lconst (v := 1) hx hb d_X0_discOn_6 (by decide) ?_
      refine lv_iload_n hx hb d_X0_discOn_7 rfl (lv_at hl 0 rfl) ?_
      refine lv_lshl (v := (td_lshl 1 q)) hx hb d_X0_discOn_8 rfl ?_
      refine lv_goto (tgt := 13) hx hb d_X0_discOn_9 (by decide) ?_
      exact J _ (by unfold td_on; rw [if_pos (Int32.not_le.mp hc)])
set_option maxHeartbeats 4000000 in
set_option maxRecDepth 100000 in
theorem m_JL_bitCount (l : Launch) (x : Int64) : Met l y_JL_bitCount (k_JL_bitCount :: tw) ({ frames := 0, cells := 0, slots := 0, locals := 0 }) (va_Pc [.long x] (fun _ => True)) (vp_Si (fun r => r = td_pop x)) 0 0 (fun _ => False) := by
  refine Met.ofW (cc := c_JL_bitCount) (maxL := 2) (ret := (some .int)) (by decide) rfl ?_
  intro p e s m args below meth c s₁ B hml hv
  obtain ⟨rfl, hv⟩ := hv
  have hx := B.exec
  have hb := B.bytes
  have hr := B.returns
  have hts : ∀ w ∈ tw, w.before _ s = true := fun w h => atoms_spec (ws := k_JL_bitCount :: tw) B.pre w (List.mem_cons_of_mem _ h)
  have hown : s.vm.findClass RJL = some m.cls := findClass_of_methodNamed B.named
  have hlocks := B.notSynchronized
  have hl := lv_entry ([.long x]) (n := 2) (Nat.le_of_ble_eq_true rfl)
  rw [lg_entry_eq]
  generalize (lg_sl ([.long x]) ++ List.replicate (2 - (lg_sl ([.long x])).length) Slot.unset).toArray = ls at hl ⊢
  have hl : lv_has ls 2 [(0, .long x)] := hl
  refine lv_lload_n hx hb d_JL_bitCount_0 rfl (lv_at hl 0 rfl) ?_
  refine lv_lload_n hx hb d_JL_bitCount_1 rfl (lv_at hl 0 rfl) ?_
  refine lv_iconst (v := 1) hx hb d_JL_bitCount_2 (by decide) ?_
  refine lv_lushr (v := (td_lushr x 1)) hx hb d_JL_bitCount_3 rfl ?_
  refine lv_ldc2 (v := 6148914691236517205) hx hb hown (hts _ cn_JL_314) d_JL_bitCount_4 ?_
  refine lv_land hx hb d_JL_bitCount_7 ?_
  refine lv_lsub hx hb d_JL_bitCount_8 ?_
  refine lv_topl (fun v0 e0 => ?_)
  refine lv_lstore_n hx hb d_JL_bitCount_9 rfl hl (by decide) rfl (fun ls hl => ?_)
  have hl : lv_has ls 2 [(0, .long v0)] := hl
  refine lv_lload_n hx hb d_JL_bitCount_10 rfl (lv_at hl 0 rfl) ?_
  refine lv_ldc2 (v := 3689348814741910323) hx hb hown (hts _ cn_JL_316) d_JL_bitCount_11 ?_
  refine lv_land hx hb d_JL_bitCount_14 ?_
  refine lv_lload_n hx hb d_JL_bitCount_15 rfl (lv_at hl 0 rfl) ?_
  refine lv_iconst (v := 2) hx hb d_JL_bitCount_16 (by decide) ?_
  refine lv_lushr (v := (td_lushr v0 2)) hx hb d_JL_bitCount_17 rfl ?_
  refine lv_ldc2 (v := 3689348814741910323) hx hb hown (hts _ cn_JL_316) d_JL_bitCount_18 ?_
  refine lv_land hx hb d_JL_bitCount_21 ?_
  refine lv_ladd hx hb d_JL_bitCount_22 ?_
  refine lv_topl (fun v1 e1 => ?_)
  refine lv_lstore_n hx hb d_JL_bitCount_23 rfl hl (by decide) rfl (fun ls hl => ?_)
  have hl : lv_has ls 2 [(0, .long v1)] := hl
  refine lv_lload_n hx hb d_JL_bitCount_24 rfl (lv_at hl 0 rfl) ?_
  refine lv_lload_n hx hb d_JL_bitCount_25 rfl (lv_at hl 0 rfl) ?_
  refine lv_iconst (v := 4) hx hb d_JL_bitCount_26 (by decide) ?_
  refine lv_lushr (v := (td_lushr v1 4)) hx hb d_JL_bitCount_27 rfl ?_
  refine lv_ladd hx hb d_JL_bitCount_28 ?_
  refine lv_ldc2 (v := 1085102592571150095) hx hb hown (hts _ cn_JL_318) d_JL_bitCount_29 ?_
  refine lv_land hx hb d_JL_bitCount_32 ?_
  refine lv_topl (fun v2 e2 => ?_)
  refine lv_lstore_n hx hb d_JL_bitCount_33 rfl hl (by decide) rfl (fun ls hl => ?_)
  have hl : lv_has ls 2 [(0, .long v2)] := hl
  refine lv_lload_n hx hb d_JL_bitCount_34 rfl (lv_at hl 0 rfl) ?_
  refine lv_lload_n hx hb d_JL_bitCount_35 rfl (lv_at hl 0 rfl) ?_
  refine lv_bipush (v := 8) hx hb d_JL_bitCount_36 (by decide) ?_
  refine lv_lushr (v := (td_lushr v2 8)) hx hb d_JL_bitCount_38 rfl ?_
  refine lv_ladd hx hb d_JL_bitCount_39 ?_
  refine lv_topl (fun v3 e3 => ?_)
  refine lv_lstore_n hx hb d_JL_bitCount_40 rfl hl (by decide) rfl (fun ls hl => ?_)
  have hl : lv_has ls 2 [(0, .long v3)] := hl
  refine lv_lload_n hx hb d_JL_bitCount_41 rfl (lv_at hl 0 rfl) ?_
  refine lv_lload_n hx hb d_JL_bitCount_42 rfl (lv_at hl 0 rfl) ?_
  refine lv_bipush (v := 16) hx hb d_JL_bitCount_43 (by decide) ?_
  refine lv_lushr (v := (td_lushr v3 16)) hx hb d_JL_bitCount_45 rfl ?_
  refine lv_ladd hx hb d_JL_bitCount_46 ?_
  refine lv_topl (fun v4 e4 => ?_)
  refine lv_lstore_n hx hb d_JL_bitCount_47 rfl hl (by decide) rfl (fun ls hl => ?_)
  have hl : lv_has ls 2 [(0, .long v4)] := hl
  refine lv_lload_n hx hb d_JL_bitCount_48 rfl (lv_at hl 0 rfl) ?_
  refine lv_lload_n hx hb d_JL_bitCount_49 rfl (lv_at hl 0 rfl) ?_
  refine lv_bipush (v := 32) hx hb d_JL_bitCount_50 (by decide) ?_
  refine lv_lushr (v := (td_lushr v4 32)) hx hb d_JL_bitCount_52 rfl ?_
  refine lv_ladd hx hb d_JL_bitCount_53 ?_
  refine lv_topl (fun v5 e5 => ?_)
  refine lv_lstore_n hx hb d_JL_bitCount_54 rfl hl (by decide) rfl (fun ls hl => ?_)
  have hl : lv_has ls 2 [(0, .long v5)] := hl
  refine lv_lload_n hx hb d_JL_bitCount_55 rfl (lv_at hl 0 rfl) ?_
  refine lv_l2i (v := (v5.toInt32)) hx hb d_JL_bitCount_56 rfl ?_
  refine lv_bipush (v := 127) hx hb d_JL_bitCount_57 (by decide) ?_
  refine lv_iand hx hb d_JL_bitCount_59 ?_
  exact W.iret (v := ((v5.toInt32) &&& 127)) hx hb hr (fun t ht hW => ⟨_, rfl, by subst_vars; rfl, ht⟩) (fun _ h => nomatch h) d_JL_bitCount_60
set_option maxHeartbeats 4000000 in
set_option maxRecDepth 100000 in
theorem m_X0_lead (l : Launch) (a b : Int64) : Met l y_X0_lead (k_X0_lead :: tw) ({ frames := 1, cells := 0, slots := 0, locals := 21 }) (va_Pc [.long a, .long b] (fun _ => True)) (vp_Si (fun r => r = td_lead a b)) 0 0 (fun _ => False) := by
  refine Met.ofW (cc := c_X0_lead) (maxL := 4) (ret := (some .int)) (by decide) rfl ?_
  intro p e s m args below meth c s₁ B hml hv
  obtain ⟨rfl, hv⟩ := hv
  have hx := B.exec
  have hb := B.bytes
  have hr := B.returns
  have hts : ∀ w ∈ tw, w.before _ s = true := fun w h => atoms_spec (ws := k_X0_lead :: tw) B.pre w (List.mem_cons_of_mem _ h)
  have hown : s.vm.findClass RX0 = some m.cls := findClass_of_methodNamed B.named
  have hlocks := B.notSynchronized
  have hl := lv_entry ([.long a, .long b]) (n := 4) (Nat.le_of_ble_eq_true rfl)
  rw [lg_entry_eq]
  generalize (lg_sl ([.long a, .long b]) ++ List.replicate (4 - (lg_sl ([.long a, .long b])).length) Slot.unset).toArray = ls at hl ⊢
  have hl : lv_has ls 4 [(0, .long a), (2, .long b)] := hl
  refine lv_lload_n hx hb d_X0_lead_0 rfl (lv_at hl 0 rfl) ?_
  refine vp_callSi (W.runS (As := [.long a]) (rest := []) ⟨hx, hb, hml, hown, hts⟩ (m_JL_bitCount l a) (va_cwS 1 hts (tw_S ml_X0_128 st_JL_bitCount in_JL kw_JL_bitCount) rfl rfl rfl (by decide +kernel) ⟨Nat.le_of_ble_eq_true rfl, Nat.le_of_ble_eq_true rfl⟩) ⟨fun _ _ _ _ q => q, fun U hU hW => ⟨rfl, trivial⟩⟩ rfl rfl hl.1 rfl (lv_room (Nat.le_of_ble_eq_true rfl)) d_X0_lead_1 ⟨Nat.le_refl _, Nat.le_refl _⟩) (fun r hq => ?_)
  subst hq
  refine lv_lload_n hx hb d_X0_lead_4 rfl (lv_at hl 1 rfl) ?_
  refine vp_callSi (W.runS (As := [.long b]) (rest := [.int (td_pop a)]) ⟨hx, hb, hml, hown, hts⟩ (m_JL_bitCount l b) (va_cwS 1 hts (tw_S ml_X0_128 st_JL_bitCount in_JL kw_JL_bitCount) rfl rfl rfl (by decide +kernel) ⟨Nat.le_of_ble_eq_true rfl, Nat.le_of_ble_eq_true rfl⟩) ⟨fun _ _ _ _ q => q, fun U hU hW => ⟨rfl, trivial⟩⟩ rfl rfl hl.1 rfl (lv_room (Nat.le_of_ble_eq_true rfl)) d_X0_lead_5 ⟨Nat.le_refl _, Nat.le_refl _⟩) (fun r hq => ?_)
  subst hq
  refine lv_isub hx hb d_X0_lead_8 ?_
  exact W.iret (v := ((td_pop a) - (td_pop b))) hx hb hr (fun t ht hW => ⟨_, rfl, rfl, ht⟩) (fun _ h => nomatch h) d_X0_lead_9
set_option maxHeartbeats 4000000 in
set_option maxRecDepth 100000 in
theorem m_X0_isOver (l : Launch) (a b : Int64) : Met l y_X0_isOver (k_X0_isOver :: tw) ({ frames := 3, cells := 0, slots := 0, locals := 77 }) (va_Pc [.long a, .long b] (fun _ => True)) (vp_Si (fun r => (td_over a b ∧ r = 1) ∨ (¬ td_over a b ∧ r = 0))) 0 0 (fun _ => False) := by
  refine Met.ofW (cc := c_X0_isOver) (maxL := 4) (ret := (some .boolean)) (by decide) rfl ?_
  intro p e s m args below meth c s₁ B hml hv
  obtain ⟨rfl, hv⟩ := hv
  have hx := B.exec
  have hb := B.bytes
  have hr := B.returns
  have hts : ∀ w ∈ tw, w.before _ s = true := fun w h => atoms_spec (ws := k_X0_isOver :: tw) B.pre w (List.mem_cons_of_mem _ h)
  have hown : s.vm.findClass RX0 = some m.cls := findClass_of_methodNamed B.named
  have hlocks := B.notSynchronized
  have hl := lv_entry ([.long a, .long b]) (n := 4) (Nat.le_of_ble_eq_true rfl)
  rw [lg_entry_eq]
  generalize (lg_sl ([.long a, .long b]) ++ List.replicate (4 - (lg_sl ([.long a, .long b])).length) Slot.unset).toArray = ls at hl ⊢
  have hl : lv_has ls 4 [(0, .long a), (2, .long b)] := hl
  refine td_joini 25 ls [] (fun x => (td_over a b ∧ x = 1) ∨ (¬ td_over a b ∧ x = 0)) (fun x ex => ?_) (fun J => ?_)
  · rcases id ex with ⟨_, e1⟩ | ⟨_, e1⟩
    · subst e1
      exact W.zret (v := _) hx hb hr (by first | rfl | decide | assumption) (fun t ht hW => ⟨_, rfl, ex, ht⟩) (fun _ h => nomatch h) d_X0_isOver_25
    · subst e1
      exact W.zret (v := _) hx hb hr (by first | rfl | decide | assumption) (fun t ht hW => ⟨_, rfl, ex, ht⟩) (fun _ h => nomatch h) d_X0_isOver_25
  · refine lv_lload_n hx hb d_X0_isOver_0 rfl (lv_at hl 0 rfl) ?_
    refine lv_lload_n hx hb d_X0_isOver_1 rfl (lv_at hl 1 rfl) ?_
    refine vp_callSl (W.runS (As := [.long a, .long b]) (rest := []) ⟨hx, hb, hml, hown, hts⟩ (m_X0_movesOf l a b) (va_cwS 2 hts (tw_S ml_X0_54 st_X0_movesOf in_X0 kw_X0_movesOf) rfl rfl rfl (by decide +kernel) ⟨Nat.le_of_ble_eq_true rfl, Nat.le_of_ble_eq_true rfl⟩) ⟨fun _ _ _ _ q => q, fun U hU hW => ⟨rfl, trivial⟩⟩ rfl rfl hl.1 rfl (lv_room (Nat.le_of_ble_eq_true rfl)) d_X0_isOver_2 ⟨Nat.le_refl _, Nat.le_refl _⟩) (fun r hq => ?_)
    subst hq
    refine lv_lconst (v := 0) hx hb d_X0_isOver_5 (by decide) ?_
    refine td_lne (tgt := 24) hx hb d_X0_isOver_6 d_X0_isOver_7 (by decide) (fun h1 => ?_) (fun h1 => ?_)
    · refine lv_iconst (v := 0) hx hb d_X0_isOver_24 (by decide) ?_
      exact J _ (Or.inr ⟨fun z => h1 z.1, rfl⟩)
    · refine lv_lload_n hx hb d_X0_isOver_10 rfl (lv_at hl 1 rfl) ?_
      refine lv_lload_n hx hb d_X0_isOver_11 rfl (lv_at hl 0 rfl) ?_
      refine vp_callSl (W.runS (As := [.long b, .long a]) (rest := []) ⟨hx, hb, hml, hown, hts⟩ (m_X0_movesOf l b a) (va_cwS 2 hts (tw_S ml_X0_54 st_X0_movesOf in_X0 kw_X0_movesOf) rfl rfl rfl (by decide +kernel) ⟨Nat.le_of_ble_eq_true rfl, Nat.le_of_ble_eq_true rfl⟩) ⟨fun _ _ _ _ q => q, fun U hU hW => ⟨rfl, trivial⟩⟩ rfl rfl hl.1 rfl (lv_room (Nat.le_of_ble_eq_true rfl)) d_X0_isOver_12 ⟨Nat.le_refl _, Nat.le_refl _⟩) (fun r hq => ?_)
      subst hq
      refine lv_lconst (v := 0) hx hb d_X0_isOver_15 (by decide) ?_
      refine td_lne (tgt := 24) hx hb d_X0_isOver_16 d_X0_isOver_17 (by decide) (fun h2 => ?_) (fun h2 => ?_)
      · refine lv_iconst (v := 0) hx hb d_X0_isOver_24 (by decide) ?_
        exact J _ (Or.inr ⟨fun z => h2 z.2, rfl⟩)
      · refine lv_iconst (v := 1) hx hb d_X0_isOver_20 (by decide) ?_
        refine lv_goto (tgt := 25) hx hb d_X0_isOver_21 (by decide) ?_
        exact J _ (Or.inl ⟨⟨h1, h2⟩, rfl⟩)
set_option maxHeartbeats 4000000 in
set_option maxRecDepth 100000 in
theorem m_X0_squareOf (l : Launch) (d : Int64) : Met l y_X0_squareOf (k_X0_squareOf :: tw) ({ frames := 1, cells := 0, slots := 0, locals := 21 }) (va_Pc [.long d] (fun _ => True)) (vp_Si (fun r => r = td_pop (d - 1))) 0 0 (fun _ => False) := by
  refine Met.ofW (cc := c_X0_squareOf) (maxL := 2) (ret := (some .int)) (by decide) rfl ?_
  intro p e s m args below meth c s₁ B hml hv
  obtain ⟨rfl, hv⟩ := hv
  have hx := B.exec
  have hb := B.bytes
  have hr := B.returns
  have hts : ∀ w ∈ tw, w.before _ s = true := fun w h => atoms_spec (ws := k_X0_squareOf :: tw) B.pre w (List.mem_cons_of_mem _ h)
  have hown : s.vm.findClass RX0 = some m.cls := findClass_of_methodNamed B.named
  have hlocks := B.notSynchronized
  have hl := lv_entry ([.long d]) (n := 2) (Nat.le_of_ble_eq_true rfl)
  rw [lg_entry_eq]
  generalize (lg_sl ([.long d]) ++ List.replicate (2 - (lg_sl ([.long d])).length) Slot.unset).toArray = ls at hl ⊢
  have hl : lv_has ls 2 [(0, .long d)] := hl
  refine lv_lload_n hx hb d_X0_squareOf_0 rfl (lv_at hl 0 rfl) ?_
  refine lv_lconst (v := 1) hx hb d_X0_squareOf_1 (by decide) ?_
  refine lv_lsub hx hb d_X0_squareOf_2 ?_
  refine vp_callSi (W.runS (As := [.long (d - 1)]) (rest := []) ⟨hx, hb, hml, hown, hts⟩ (m_JL_bitCount l (d - 1)) (va_cwS 1 hts (tw_S ml_X0_128 st_JL_bitCount in_JL kw_JL_bitCount) rfl rfl rfl (by decide +kernel) ⟨Nat.le_of_ble_eq_true rfl, Nat.le_of_ble_eq_true rfl⟩) ⟨fun _ _ _ _ q => q, fun U hU hW => ⟨rfl, trivial⟩⟩ rfl rfl hl.1 rfl (lv_room (Nat.le_of_ble_eq_true rfl)) d_X0_squareOf_3 ⟨Nat.le_refl _, Nat.le_refl _⟩) (fun r hq => ?_)
  subst hq
  exact W.iret (v := (td_pop (d - 1))) hx hb hr (fun t ht hW => ⟨_, rfl, rfl, ht⟩) (fun _ h => nomatch h) d_X0_squareOf_6
set_option maxHeartbeats 4000000 in
set_option maxRecDepth 100000 in
theorem m_X0_withNeighbours (l : Launch) (x : Int64) : Met l y_X0_withNeighbours (k_X0_withNeighbours :: tw) ({ frames := 0, cells := 0, slots := 0, locals := 0 }) (va_Pc [.long x] (fun _ => True)) (vp_Sl (fun r => r = td_near x)) 0 0 (fun _ => False) := by
  refine Met.ofW (cc := c_X0_withNeighbours) (maxL := 4) (ret := (some .long)) (by decide) rfl ?_
  intro p e s m args below meth c s₁ B hml hv
  obtain ⟨rfl, hv⟩ := hv
  have hx := B.exec
  have hb := B.bytes
  have hr := B.returns
  have hts : ∀ w ∈ tw, w.before _ s = true := fun w h => atoms_spec (ws := k_X0_withNeighbours :: tw) B.pre w (List.mem_cons_of_mem _ h)
  have hown : s.vm.findClass RX0 = some m.cls := findClass_of_methodNamed B.named
  have hlocks := B.notSynchronized
  have hl := lv_entry ([.long x]) (n := 4) (Nat.le_of_ble_eq_true rfl)
  rw [lg_entry_eq]
  generalize (lg_sl ([.long x]) ++ List.replicate (4 - (lg_sl ([.long x])).length) Slot.unset).toArray = ls at hl ⊢
  have hl : lv_has ls 4 [(0, .long x)] := hl
  refine lv_lload_n hx hb d_X0_withNeighbours_0 rfl (lv_at hl 0 rfl) ?_
  refine lv_lload_n hx hb d_X0_withNeighbours_1 rfl (lv_at hl 0 rfl) ?_
  refine lv_iconst (v := 1) hx hb d_X0_withNeighbours_2 (by decide) ?_
  refine lv_lshl (v := (td_lshl x 1)) hx hb d_X0_withNeighbours_3 rfl ?_
  refine lv_ldc2 (v := (-72340172838076674)) hx hb hown (hts _ cn_X0_188) d_X0_withNeighbours_4 ?_
  refine lv_land hx hb d_X0_withNeighbours_7 ?_
  refine lv_lor hx hb d_X0_withNeighbours_8 ?_
  refine lv_lload_n hx hb d_X0_withNeighbours_9 rfl (lv_at hl 0 rfl) ?_
  refine lv_iconst (v := 1) hx hb d_X0_withNeighbours_10 (by decide) ?_
  refine lv_lushr (v := (td_lushr x 1)) hx hb d_X0_withNeighbours_11 rfl ?_
  refine lv_ldc2 (v := 9187201950435737471) hx hb hown (hts _ cn_X0_190) d_X0_withNeighbours_12 ?_
  refine lv_land hx hb d_X0_withNeighbours_15 ?_
  refine lv_lor hx hb d_X0_withNeighbours_16 ?_
  refine lv_topl (fun v ev => ?_)
  refine lv_lstore_n hx hb d_X0_withNeighbours_17 rfl hl (by decide) rfl (fun ls hl => ?_)
  have hl : lv_has ls 4 [(2, .long v), (0, .long x)] := hl
  refine lv_lload_n hx hb d_X0_withNeighbours_18 rfl (lv_at hl 0 rfl) ?_
  refine lv_lload_n hx hb d_X0_withNeighbours_19 rfl (lv_at hl 0 rfl) ?_
  refine lv_bipush (v := 8) hx hb d_X0_withNeighbours_20 (by decide) ?_
  refine lv_lshl (v := (td_lshl v 8)) hx hb d_X0_withNeighbours_22 rfl ?_
  refine lv_lor hx hb d_X0_withNeighbours_23 ?_
  refine lv_lload_n hx hb d_X0_withNeighbours_24 rfl (lv_at hl 0 rfl) ?_
  refine lv_bipush (v := 8) hx hb d_X0_withNeighbours_25 (by decide) ?_
  refine lv_lushr (v := (td_lushr v 8)) hx hb d_X0_withNeighbours_27 rfl ?_
  refine lv_lor hx hb d_X0_withNeighbours_28 ?_
  exact W.lret (v := ((v ||| (td_lshl v 8)) ||| (td_lushr v 8))) hx hb hr (fun t ht hW => ⟨_, rfl, by subst_vars; rfl, ht⟩) (fun _ h => nomatch h) d_X0_withNeighbours_29
set_option maxHeartbeats 4000000 in
set_option maxRecDepth 100000 in
theorem m_X0_heldAlong (l : Launch) (a : Int64) (k : Int32) (u d : Int64) : Met l y_X0_heldAlong (k_X0_heldAlong :: tw) ({ frames := 0, cells := 0, slots := 0, locals := 0 }) (va_Pc [.long a, .int k, .long u, .long d] (fun _ => True)) (vp_Sl (fun r => r = td_held a k u d)) 0 0 (fun _ => False) := by
  refine Met.ofW (cc := c_X0_heldAlong) (maxL := 12) (ret := (some .long)) (by decide) rfl ?_
  intro p e s m args below meth c s₁ B hml hv
  obtain ⟨rfl, hv⟩ := hv
  have hx := B.exec
  have hb := B.bytes
  have hr := B.returns
  have hts : ∀ w ∈ tw, w.before _ s = true := fun w h => atoms_spec (ws := k_X0_heldAlong :: tw) B.pre w (List.mem_cons_of_mem _ h)
  have hown : s.vm.findClass RX0 = some m.cls := findClass_of_methodNamed B.named
  have hlocks := B.notSynchronized
  have hl := lv_entry ([.long a, .int k, .long u, .long d]) (n := 12) (Nat.le_of_ble_eq_true rfl)
  rw [lg_entry_eq]
  generalize (lg_sl ([.long a, .int k, .long u, .long d]) ++ List.replicate (12 - (lg_sl ([.long a, .int k, .long u, .long d])).length) Slot.unset).toArray = ls at hl ⊢
  have hl : lv_has ls 12 [(0, .long a), (2, .int k), (3, .long u), (5, .long d)] := hl
  refine lv_lload_n hx hb d_X0_heldAlong_0 rfl (lv_at hl 2 rfl) ?_
  refine lv_lstore hx hb d_X0_heldAlong_1 hl (by decide) rfl (fun ls hl => ?_)
  have hl : lv_has ls 12 [(7, .long u), (0, .long a), (2, .int k), (3, .long u), (5, .long d)] := hl
  refine lv_lload hx hb d_X0_heldAlong_3 (lv_at hl 4 rfl) ?_
  refine lv_lstore hx hb d_X0_heldAlong_5 hl (by decide) rfl (fun ls hl => ?_)
  have hl : lv_has ls 12 [(9, .long d), (7, .long u), (0, .long a), (2, .int k), (3, .long u), (5, .long d)] := hl
  refine lv_iconst (v := 0) hx hb d_X0_heldAlong_7 (by decide) ?_
  refine lv_istore hx hb d_X0_heldAlong_8 hl (by decide) rfl (fun ls hl => ?_)
  have hl : lv_has ls 12 [(11, .int 0), (9, .long d), (7, .long u), (0, .long a), (2, .int k), (3, .long u), (5, .long d)] := hl
  have hl0 := lv_sub hl [3, 4, 2, 1, 0] rfl
  refine td_loop 10 [] (fun i : Nat => 7 - i) (fun i ls => i ≤ 7 ∧ lv_has ls 12 [(0, .long a), (2, .int k), (7, .long (td_hup a k u i)), (9, .long (td_hdn a k d i)), (11, .int (nI i))]) (fun i ls hC ih => ?_) 0 ⟨Nat.zero_le _, hl0⟩
  clear hl hl0
  obtain ⟨hi, hl⟩ := hC
  have hl : lv_has ls 12 [(0, .long a), (2, .int k), (7, .long (td_hup a k u i)), (9, .long (td_hdn a k d i)), (11, .int (nI i))] := hl
  refine lv_iload hx hb d_X0_heldAlong_10 (lv_at hl 4 rfl) ?_
  refine lv_bipush (v := 7) hx hb d_X0_heldAlong_12 (by decide) ?_
  refine lv_icmp_ge (tgt := 45) hx hb d_X0_heldAlong_14 (by decide) (fun hc => ?_) (fun hc => ?_)
  · have h7 : i = 7 := Nat.le_antisymm hi ((nI_leI (a := 7) (b := i) (by decide) (by omega)).mp hc)
    subst h7
    refine lv_lload hx hb d_X0_heldAlong_45 (lv_at hl 2 rfl) ?_
    refine lv_lload hx hb d_X0_heldAlong_47 (lv_at hl 3 rfl) ?_
    refine lv_lor hx hb d_X0_heldAlong_49 ?_
    exact W.lret (v := ((td_hup a k u 7) ||| (td_hdn a k d 7))) hx hb hr (fun t ht hW => ⟨_, rfl, rfl, ht⟩) (fun _ h => nomatch h) d_X0_heldAlong_50
  · have h7 : i < 7 := Nat.lt_of_not_le (fun z => hc ((nI_leI (a := 7) (b := i) (by decide) (by omega)).mpr z))
    refine lv_lload hx hb d_X0_heldAlong_17 (lv_at hl 2 rfl) ?_
    refine lv_lload hx hb d_X0_heldAlong_19 (lv_at hl 2 rfl) ?_
    refine lv_lload_n hx hb d_X0_heldAlong_21 rfl (lv_at hl 0 rfl) ?_
    refine lv_land hx hb d_X0_heldAlong_22 ?_
    refine lv_iload_n hx hb d_X0_heldAlong_23 rfl (lv_at hl 1 rfl) ?_
    refine lv_lushr (v := (td_lushr ((td_hup a k u i) &&& a) k)) hx hb d_X0_heldAlong_24 rfl ?_
    refine lv_lor hx hb d_X0_heldAlong_25 ?_
    refine td_l (y := (td_hup a k u (i + 1))) (rfl) ?_
    refine lv_lstore hx hb d_X0_heldAlong_26 hl (by decide) rfl (fun ls hl => ?_)
    have hl : lv_has ls 12 [(7, .long (td_hup a k u (i + 1))), (0, .long a), (2, .int k), (9, .long (td_hdn a k d i)), (11, .int (nI i))] := hl
    refine lv_lload hx hb d_X0_heldAlong_28 (lv_at hl 3 rfl) ?_
    refine lv_lload hx hb d_X0_heldAlong_30 (lv_at hl 3 rfl) ?_
    refine lv_lload_n hx hb d_X0_heldAlong_32 rfl (lv_at hl 1 rfl) ?_
    refine lv_land hx hb d_X0_heldAlong_33 ?_
    refine lv_iload_n hx hb d_X0_heldAlong_34 rfl (lv_at hl 2 rfl) ?_
    refine lv_lshl (v := (td_lshl ((td_hdn a k d i) &&& a) k)) hx hb d_X0_heldAlong_35 rfl ?_
    refine lv_lor hx hb d_X0_heldAlong_36 ?_
    refine td_l (y := (td_hdn a k d (i + 1))) (rfl) ?_
    refine lv_lstore hx hb d_X0_heldAlong_37 hl (by decide) rfl (fun ls hl => ?_)
    have hl : lv_has ls 12 [(9, .long (td_hdn a k d (i + 1))), (7, .long (td_hup a k u (i + 1))), (0, .long a), (2, .int k), (11, .int (nI i))] := hl
    refine lv_iinc (k := 4) (v := (nI (i + 1))) hx hb d_X0_heldAlong_39 hl rfl ((nI_succ i).symm) (by decide) rfl (fun ls hl => ?_)
    have hl : lv_has ls 12 [(11, .int (nI (i + 1))), (9, .long (td_hdn a k d (i + 1))), (7, .long (td_hup a k u (i + 1))), (0, .long a), (2, .int k)] := hl
    refine lv_goto (tgt := 10) hx hb d_X0_heldAlong_42 (by decide) ?_
    have hl1 := lv_sub hl [3, 4, 2, 1, 0] rfl
    exact ih (i + 1) _ (by omega) ⟨h7, hl1⟩
