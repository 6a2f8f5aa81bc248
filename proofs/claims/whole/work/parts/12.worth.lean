set_option maxHeartbeats 4000000 in
set_option maxRecDepth 100000 in
theorem m_X0_worthOf_open (l : Launch) (d : Nat) (ih : ∀ (a b : Int64) (lo up : Int32), Met l y_X0_worth (k_X0_worth :: tw) ({ frames := 3 + 2 * d, cells := 0, slots := 0, locals := 95 + 63 * d }) (va_Pc [.long a, .long b, .int lo, .int up, .int (nI d)] (fun _ => True)) (vp_Si (fun r => r = td_worth d a b lo up)) 0 0 (fun _ => False)) : ∀ (a b q : Int64) (lo up : Int32), Met l y_X0_worthOf (k_X0_worthOf :: tw) ({ frames := 3 + 2 * d + 1, cells := 0, slots := 0, locals := 95 + 63 * d + 33 }) (va_Pc [.long a, .long b, .long q, .int lo, .int up, .int (nI (d + 1))] (fun _ => True)) (vp_Si (fun r => r = (-(td_worth d (b ^^^ td_turned a b q) ((a ||| q) ||| td_turned a b q) (-up) (-lo))))) 0 0 (fun _ => False) := by
  intro a b q lo up
  refine Met.ofW (cc := c_X0_worthOf) (maxL := 11) (ret := (some .int)) (by decide) rfl ?_
  intro p e s m args below meth c s₁ B hml hv
  obtain ⟨rfl, hv⟩ := hv
  have hx := B.exec
  have hb := B.bytes
  have hr := B.returns
  have hts : ∀ w ∈ tw, w.before _ s = true := fun w h => atoms_spec (ws := k_X0_worthOf :: tw) B.pre w (List.mem_cons_of_mem _ h)
  have hown : s.vm.findClass RX0 = some m.cls := findClass_of_methodNamed B.named
  have hlocks := B.notSynchronized
  have hl := lv_entry ([.long a, .long b, .long q, .int lo, .int up, .int (nI (d + 1))]) (n := 11) (Nat.le_of_ble_eq_true rfl)
  rw [lg_entry_eq]
  generalize (lg_sl ([.long a, .long b, .long q, .int lo, .int up, .int (nI (d + 1))]) ++ List.replicate (11 - (lg_sl ([.long a, .long b, .long q, .int lo, .int up, .int (nI (d + 1))])).length) Slot.unset).toArray = ls at hl ⊢
  have hl : lv_has ls 11 [(0, .long a), (2, .long b), (4, .long q), (6, .int lo), (7, .int up), (8, .int (nI (d + 1)))] := hl
  refine lv_lload_n hx hb d_X0_worthOf_0 rfl (lv_at hl 0 rfl) ?_
  refine lv_lload_n hx hb d_X0_worthOf_1 rfl (lv_at hl 1 rfl) ?_
  refine lv_lload hx hb d_X0_worthOf_2 (lv_at hl 2 rfl) ?_
  refine vp_callSl (W.runS (As := [.long a, .long b, .long q]) (rest := []) ⟨hx, hb, hml, hown, hts⟩ (m_X0_turnedBy l a b q) (va_cwS 3 hts (tw_S ml_X0_67 st_X0_turnedBy in_X0 kw_X0_turnedBy) rfl rfl rfl (by decide +kernel) ⟨by show 2 + 1 ≤ 3 + 2 * d + 1; omega, by show 8 + (8 + 11) + 58 ≤ 95 + 63 * d + 33; omega⟩) ⟨fun _ _ _ _ q => q, fun U hU hW => ⟨rfl, trivial⟩⟩ rfl rfl hl.1 rfl (lv_room (Nat.le_of_ble_eq_true rfl)) d_X0_worthOf_4 ⟨Nat.le_refl _, Nat.le_refl _⟩) (fun r hq => ?_)
  subst hq
  refine lv_lstore hx hb d_X0_worthOf_7 hl (by decide) rfl (fun ls hl => ?_)
  have hl : lv_has ls 11 [(9, .long (td_turned a b q)), (0, .long a), (2, .long b), (4, .long q), (6, .int lo), (7, .int up), (8, .int (nI (d + 1)))] := hl
  refine lv_lload_n hx hb d_X0_worthOf_9 rfl (lv_at hl 2 rfl) ?_
  refine lv_lload hx hb d_X0_worthOf_10 (lv_at hl 0 rfl) ?_
  refine lv_lxor hx hb d_X0_worthOf_12 ?_
  refine lv_lload_n hx hb d_X0_worthOf_13 rfl (lv_at hl 1 rfl) ?_
  refine lv_lload hx hb d_X0_worthOf_14 (lv_at hl 3 rfl) ?_
  refine lv_lor hx hb d_X0_worthOf_16 ?_
  refine lv_lload hx hb d_X0_worthOf_17 (lv_at hl 0 rfl) ?_
  refine lv_lor hx hb d_X0_worthOf_19 ?_
  refine lv_iload hx hb d_X0_worthOf_20 (lv_at hl 5 rfl) ?_
  refine lv_ineg hx hb d_X0_worthOf_22 ?_
  refine lv_iload hx hb d_X0_worthOf_23 (lv_at hl 4 rfl) ?_
  refine lv_ineg hx hb d_X0_worthOf_25 ?_
  refine lv_iload hx hb d_X0_worthOf_26 (lv_at hl 6 rfl) ?_
  refine lv_iconst (v := 1) hx hb d_X0_worthOf_28 (by decide) ?_
  refine lv_isub hx hb d_X0_worthOf_29 ?_
  refine td_i (y := (nI d)) (nI_pred d) ?_
  refine vp_callSi (W.runS (As := [.long (b ^^^ (td_turned a b q)), .long ((a ||| q) ||| (td_turned a b q)), .int (-up), .int (-lo), .int (nI d)]) (rest := []) ⟨hx, hb, hml, hown, hts⟩ (ih _ _ _ _) (va_cwS 5 hts (tw_S ml_X0_111 st_X0_worth in_X0 kw_X0_worth) rfl rfl rfl (by decide +kernel) ⟨by show 3 + 2 * d + 1 ≤ 3 + 2 * d + 1; omega, by show 8 + (14 + 11) + (95 + 63 * d) ≤ 95 + 63 * d + 33; omega⟩) ⟨fun _ _ _ _ q => q, fun U hU hW => ⟨rfl, trivial⟩⟩ rfl rfl hl.1 rfl (lv_room (Nat.le_of_ble_eq_true rfl)) d_X0_worthOf_30 ⟨Nat.le_refl _, Nat.le_refl _⟩) (fun r hq => ?_)
  subst hq
  refine lv_ineg hx hb d_X0_worthOf_33 ?_
  exact W.iret (v := (-(td_worth d (b ^^^ td_turned a b q) ((a ||| q) ||| td_turned a b q) (-up) (-lo)))) hx hb hr (fun t ht hW => ⟨_, rfl, rfl, ht⟩) (fun _ h => nomatch h) d_X0_worthOf_34
set_option maxHeartbeats 4000000 in
set_option maxRecDepth 100000 in
theorem m_X0_worth (l : Launch) : ∀ d : Nat, d ≤ 14 → ∀ (a b : Int64) (lo up : Int32), Met l y_X0_worth (k_X0_worth :: tw) ({ frames := 3 + 2 * d, cells := 0, slots := 0, locals := 95 + 63 * d }) (va_Pc [.long a, .long b, .int lo, .int up, .int (nI d)] (fun _ => True)) (vp_Si (fun r => r = td_worth d a b lo up)) 0 0 (fun _ => False) := by
  intro d
  induction d with
  | zero =>
    intro hd a b lo up
    refine Met.ofW (cc := c_X0_worth) (maxL := 14) (ret := (some .int)) (by decide) rfl ?_
    intro p e s m args below meth c s₁ B hml hv
    obtain ⟨rfl, hv⟩ := hv
    have hx := B.exec
    have hb := B.bytes
    have hr := B.returns
    have hts : ∀ w ∈ tw, w.before _ s = true := fun w h => atoms_spec (ws := k_X0_worth :: tw) B.pre w (List.mem_cons_of_mem _ h)
    have hown : s.vm.findClass RX0 = some m.cls := findClass_of_methodNamed B.named
    have hlocks := B.notSynchronized
    have hl := lv_entry ([.long a, .long b, .int lo, .int up, .int (nI 0)]) (n := 14) (Nat.le_of_ble_eq_true rfl)
    rw [lg_entry_eq]
    generalize (lg_sl ([.long a, .long b, .int lo, .int up, .int (nI 0)]) ++ List.replicate (14 - (lg_sl ([.long a, .long b, .int lo, .int up, .int (nI 0)])).length) Slot.unset).toArray = ls at hl ⊢
    have hl : lv_has ls 14 [(0, .long a), (2, .long b), (4, .int lo), (5, .int up), (6, .int (nI 0))] := hl
    refine lv_lload_n hx hb d_X0_worth_0 rfl (lv_at hl 0 rfl) ?_
    refine lv_lload_n hx hb d_X0_worth_1 rfl (lv_at hl 1 rfl) ?_
    refine vp_callSl (W.runS (As := [.long a, .long b]) (rest := []) ⟨hx, hb, hml, hown, hts⟩ (m_X0_movesOf l a b) (va_cwS 2 hts (tw_S ml_X0_54 st_X0_movesOf in_X0 kw_X0_movesOf) rfl rfl rfl (by decide +kernel) ⟨by show 2 + 1 ≤ 3 + 2 * 0; omega, by show 8 + (8 + 11) + 50 ≤ 95 + 63 * 0; omega⟩) ⟨fun _ _ _ _ q => q, fun U hU hW => ⟨rfl, trivial⟩⟩ rfl rfl hl.1 rfl (lv_room (Nat.le_of_ble_eq_true rfl)) d_X0_worth_2 ⟨Nat.le_refl _, Nat.le_refl _⟩) (fun r hq => ?_)
    subst hq
    refine lv_lstore hx hb d_X0_worth_5 hl (by decide) rfl (fun ls hl => ?_)
    have hl : lv_has ls 14 [(7, .long (td_moves a b)), (0, .long a), (2, .long b), (4, .int lo), (5, .int up), (6, .int (nI 0))] := hl
    refine lv_iload hx hb d_X0_worth_7 (lv_at hl 5 rfl) ?_
    refine lv_if_le (tgt := 29) hx hb d_X0_worth_9 (by decide) (fun hc => ?_) (fun hc => ?_)
    · refine lv_lload_n hx hb d_X0_worth_29 rfl (lv_at hl 1 rfl) ?_
      refine lv_lload_n hx hb d_X0_worth_30 rfl (lv_at hl 2 rfl) ?_
      refine vp_callSi (W.runS (As := [.long a, .long b]) (rest := []) ⟨hx, hb, hml, hown, hts⟩ (m_X0_lead l a b) (va_cwS 2 hts (tw_S ml_X0_98 st_X0_lead in_X0 kw_X0_lead) rfl rfl rfl (by decide +kernel) ⟨by show 1 + 1 ≤ 3 + 2 * 0; omega, by show 8 + (4 + 11) + 21 ≤ 95 + 63 * 0; omega⟩) ⟨fun _ _ _ _ q => q, fun U hU hW => ⟨rfl, trivial⟩⟩ rfl rfl hl.1 rfl (lv_room (Nat.le_of_ble_eq_true rfl)) d_X0_worth_31 ⟨Nat.le_refl _, Nat.le_refl _⟩) (fun r hq => ?_)
      subst hq
      exact W.iret (v := (td_lead a b)) hx hb hr (fun t ht hW => ⟨_, rfl, rfl, ht⟩) (fun _ h => nomatch h) d_X0_worth_34
    · exact absurd (show nI 0 ≤ 0 by decide) hc
  | succ d ih =>
    intro hd a b lo up
    have ihO := m_X0_worthOf_open l d (ih (by omega))
    refine Met.ofW (cc := c_X0_worth) (maxL := 14) (ret := (some .int)) (by decide) rfl ?_
    intro p e s m args below meth c s₁ B hml hv
    obtain ⟨rfl, hv⟩ := hv
    have hx := B.exec
    have hb := B.bytes
    have hr := B.returns
    have hts : ∀ w ∈ tw, w.before _ s = true := fun w h => atoms_spec (ws := k_X0_worth :: tw) B.pre w (List.mem_cons_of_mem _ h)
    have hown : s.vm.findClass RX0 = some m.cls := findClass_of_methodNamed B.named
    have hlocks := B.notSynchronized
    have hl := lv_entry ([.long a, .long b, .int lo, .int up, .int (nI (d + 1))]) (n := 14) (Nat.le_of_ble_eq_true rfl)
    rw [lg_entry_eq]
    generalize (lg_sl ([.long a, .long b, .int lo, .int up, .int (nI (d + 1))]) ++ List.replicate (14 - (lg_sl ([.long a, .long b, .int lo, .int up, .int (nI (d + 1))])).length) Slot.unset).toArray = ls at hl ⊢
    have hl : lv_has ls 14 [(0, .long a), (2, .long b), (4, .int lo), (5, .int up), (6, .int (nI (d + 1)))] := hl
    refine lv_lload_n hx hb d_X0_worth_0 rfl (lv_at hl 0 rfl) ?_
    refine lv_lload_n hx hb d_X0_worth_1 rfl (lv_at hl 1 rfl) ?_
    refine vp_callSl (W.runS (As := [.long a, .long b]) (rest := []) ⟨hx, hb, hml, hown, hts⟩ (m_X0_movesOf l a b) (va_cwS 2 hts (tw_S ml_X0_54 st_X0_movesOf in_X0 kw_X0_movesOf) rfl rfl rfl (by decide +kernel) ⟨by show 2 + 1 ≤ 3 + 2 * (d + 1); omega, by show 8 + (8 + 11) + 50 ≤ 95 + 63 * (d + 1); omega⟩) ⟨fun _ _ _ _ q => q, fun U hU hW => ⟨rfl, trivial⟩⟩ rfl rfl hl.1 rfl (lv_room (Nat.le_of_ble_eq_true rfl)) d_X0_worth_2 ⟨Nat.le_refl _, Nat.le_refl _⟩) (fun r hq => ?_)
    subst hq
    refine lv_lstore hx hb d_X0_worth_5 hl (by decide) rfl (fun ls hl => ?_)
    have hl : lv_has ls 14 [(7, .long (td_moves a b)), (0, .long a), (2, .long b), (4, .int lo), (5, .int up), (6, .int (nI (d + 1)))] := hl
    refine lv_iload hx hb d_X0_worth_7 (lv_at hl 5 rfl) ?_
    refine lv_if_le (tgt := 29) hx hb d_X0_worth_9 (by decide) (fun hc => ?_) (fun hc => ?_)
    · exact absurd hc (nI_nle (by omega) (by omega))
    · refine lv_lload hx hb d_X0_worth_12 (lv_at hl 0 rfl) ?_
      refine lv_lconst (v := 0) hx hb d_X0_worth_14 (by decide) ?_
      refine td_joinu 35 ls [] (¬ (td_moves a b = 0 ∧ td_moves b a = 0)) (fun hno => ?_) (fun J => ?_)
      · refine lv_lload hx hb d_X0_worth_35 (lv_at hl 0 rfl) ?_
        refine lv_lconst (v := 0) hx hb d_X0_worth_37 (by decide) ?_
        refine td_lne (tgt := 59) hx hb d_X0_worth_38 d_X0_worth_39 (by decide) (fun h1 => ?_) (fun h1 => ?_)
        · refine lv_bipush (v := (-65)) hx hb d_X0_worth_59 (by decide) ?_
          refine lv_istore hx hb d_X0_worth_61 hl (by decide) rfl (fun ls hl => ?_)
          have hl : lv_has ls 14 [(9, .int (-65)), (7, .long (td_moves a b)), (0, .long a), (2, .long b), (4, .int lo), (5, .int up), (6, .int (nI (d + 1)))] := hl
          refine lv_lload hx hb d_X0_worth_63 (lv_at hl 1 rfl) ?_
          refine vp_callSi (W.runS (As := [.long (td_moves a b)]) (rest := []) ⟨hx, hb, hml, hown, hts⟩ (m_JL_bitCount l (td_moves a b)) (va_cwS 1 hts (tw_S ml_X0_128 st_JL_bitCount in_JL kw_JL_bitCount) rfl rfl rfl (by decide +kernel) ⟨by show 0 + 1 ≤ 3 + 2 * (d + 1); omega, by show 8 + (2 + 11) + 0 ≤ 95 + 63 * (d + 1); omega⟩) ⟨fun _ _ _ _ q => q, fun U hU hW => ⟨rfl, trivial⟩⟩ rfl rfl hl.1 rfl (lv_room (Nat.le_of_ble_eq_true rfl)) d_X0_worth_65 ⟨Nat.le_refl _, Nat.le_refl _⟩) (fun r hq => ?_)
          subst hq
          obtain ⟨hpe, hpl⟩ := td_pop_n (td_moves a b)
          refine td_i (y := (nI (td_popN (td_moves a b)))) (hpe) ?_
          refine lv_istore hx hb d_X0_worth_68 hl (by decide) rfl (fun ls hl => ?_)
          have hl : lv_has ls 14 [(10, .int (nI (td_popN (td_moves a b)))), (9, .int (-65)), (7, .long (td_moves a b)), (0, .long a), (2, .long b), (4, .int lo), (5, .int up), (6, .int (nI (d + 1)))] := hl
          refine lv_iconst (v := 0) hx hb d_X0_worth_70 (by decide) ?_
          refine lv_istore hx hb d_X0_worth_71 hl (by decide) rfl (fun ls hl => ?_)
          have hl : lv_has ls 14 [(11, .int 0), (10, .int (nI (td_popN (td_moves a b)))), (9, .int (-65)), (7, .long (td_moves a b)), (0, .long a), (2, .long b), (4, .int lo), (5, .int up), (6, .int (nI (d + 1)))] := hl
          generalize hN : td_popN (td_moves a b) = N at hl hpl hpe
          have hl : lv_has ls 14 [(11, .int 0), (10, .int (nI N)), (9, .int (-65)), (7, .long (td_moves a b)), (0, .long a), (2, .long b), (4, .int lo), (5, .int up), (6, .int (nI (d + 1)))] := hl
          have hres : td_wloop (fun q lw => -(td_worth d (b ^^^ td_turned a b q) ((a ||| q) ||| td_turned a b q) (-up) (-lw))) lo up (N - 0) (td_moves a b) (-65) = td_worth (d + 1) a b lo up := by
            rw [Nat.sub_zero, ← hN, td_worth_s, if_neg h1]
          have hl0 := lv_sub hl [4, 5, 6, 7, 8, 3, 2, 1, 0] rfl
          refine td_loop 73 [] (fun z : Nat × Int64 × Int32 => N - z.1) (fun z ls => (z.1 ≤ N ∧ td_wloop (fun q lw => -(td_worth d (b ^^^ td_turned a b q) ((a ||| q) ||| td_turned a b q) (-up) (-lw))) lo up (N - z.1) z.2.1 z.2.2 = td_worth (d + 1) a b lo up) ∧ lv_has ls 14 [(0, .long a), (2, .long b), (4, .int lo), (5, .int up), (6, .int (nI (d + 1))), (7, .long (z.2.1)), (9, .int (z.2.2)), (10, .int (nI N)), (11, .int (nI z.1))]) (fun z ls hC ihl => ?_) (0, td_moves a b, -65) ⟨⟨Nat.zero_le _, hres⟩, hl0⟩
          clear hl hl0
          obtain ⟨hi, hl⟩ := hC
          have hl : lv_has ls 14 [(0, .long a), (2, .long b), (4, .int lo), (5, .int up), (6, .int (nI (d + 1))), (7, .long (z.2.1)), (9, .int (z.2.2)), (10, .int (nI N)), (11, .int (nI z.1))] := hl
          obtain ⟨i, left, most⟩ := z
          obtain ⟨hi, hacc⟩ := hi
          have hl : lv_has ls 14 [(0, .long a), (2, .long b), (4, .int lo), (5, .int up), (6, .int (nI (d + 1))), (7, .long left), (9, .int most), (10, .int (nI N)), (11, .int (nI i))] := hl
          dsimp only at hi hacc
          refine td_joinu 133 ls [] (most = td_worth (d + 1) a b lo up) (fun hend => ?_) (fun J => ?_)
          · refine lv_iload hx hb d_X0_worth_133 (lv_at hl 6 rfl) ?_
            exact W.iret (v := most) hx hb hr (fun t ht hW => ⟨_, rfl, hend, ht⟩) (fun _ h => nomatch h) d_X0_worth_135
          · refine lv_iload hx hb d_X0_worth_73 (lv_at hl 8 rfl) ?_
            refine lv_iload hx hb d_X0_worth_75 (lv_at hl 7 rfl) ?_
            refine lv_icmp_ge (tgt := 133) hx hb d_X0_worth_77 (by decide) (fun h4 => ?_) (fun h4 => ?_)
            · have hiN : i = N := Nat.le_antisymm hi ((nI_leI (by omega) (by omega)).mp h4)
              rw [hiN, Nat.sub_self] at hacc
              exact J hacc
            · have hiN : i < N := Nat.lt_of_not_le (fun y => h4 ((nI_leI (by omega) (by omega)).mpr y))
              have hst : N - i = (N - (i + 1)) + 1 := by omega
              rw [hst] at hacc
              unfold td_wloop at hacc
              refine lv_iload hx hb d_X0_worth_80 (lv_at hl 6 rfl) ?_
              refine lv_iload hx hb d_X0_worth_82 (lv_at hl 3 rfl) ?_
              refine lv_icmp_ge (tgt := 133) hx hb d_X0_worth_84 (by decide) (fun h5 => ?_) (fun h5 => ?_)
              · rw [if_neg (Int32.not_lt.mpr h5)] at hacc
                exact J hacc
              · rw [if_pos (Int32.not_le.mp h5)] at hacc
                refine lv_lload hx hb d_X0_worth_87 (lv_at hl 5 rfl) ?_
                refine lv_lload hx hb d_X0_worth_89 (lv_at hl 5 rfl) ?_
                refine lv_lneg hx hb d_X0_worth_91 ?_
                refine lv_land hx hb d_X0_worth_92 ?_
                refine td_l (y := (td_low left)) (rfl) ?_
                refine lv_lstore hx hb d_X0_worth_93 hl (by decide) rfl (fun ls hl => ?_)
                have hl : lv_has ls 14 [(12, .long (td_low left)), (0, .long a), (2, .long b), (4, .int lo), (5, .int up), (6, .int (nI (d + 1))), (7, .long left), (9, .int most), (10, .int (nI N)), (11, .int (nI i))] := hl
                refine lv_lload hx hb d_X0_worth_95 (lv_at hl 6 rfl) ?_
                refine lv_lload hx hb d_X0_worth_97 (lv_at hl 0 rfl) ?_
                refine lv_lxor hx hb d_X0_worth_99 ?_
                refine lv_lstore hx hb d_X0_worth_100 hl (by decide) rfl (fun ls hl => ?_)
                have hl : lv_has ls 14 [(7, .long (left ^^^ (td_low left))), (12, .long (td_low left)), (0, .long a), (2, .long b), (4, .int lo), (5, .int up), (6, .int (nI (d + 1))), (9, .int most), (10, .int (nI N)), (11, .int (nI i))] := hl
                refine lv_iload hx hb d_X0_worth_102 (lv_at hl 7 rfl) ?_
                refine lv_lload_n hx hb d_X0_worth_104 rfl (lv_at hl 2 rfl) ?_
                refine lv_lload_n hx hb d_X0_worth_105 rfl (lv_at hl 3 rfl) ?_
                refine lv_lload hx hb d_X0_worth_106 (lv_at hl 1 rfl) ?_
                refine lv_iload hx hb d_X0_worth_108 (lv_at hl 4 rfl) ?_
                refine lv_iload hx hb d_X0_worth_110 (lv_at hl 7 rfl) ?_
                refine va_mmax (x := lo) (y := most) hx hb (by rw [hml]; exact hl.1.symm) hown (hts _ ml_X0_175) (hts _ st_JM_max) (hts _ in_JM) (hts _ kw_JM_max) (by show 1 ≤ 3 + 2 * (d + 1); omega) (by show 7 + 13 ≤ 95 + 63 * (d + 1); omega) (Nat.zero_le _) (Nat.zero_le _) d_X0_worth_112 ?_
                refine td_i (y := (td_max lo most)) (rfl) ?_
                refine lv_iload hx hb d_X0_worth_115 (lv_at hl 5 rfl) ?_
                refine lv_iload hx hb d_X0_worth_117 (lv_at hl 6 rfl) ?_
                refine vp_callSi (W.runS (As := [.long a, .long b, .long (td_low left), .int (td_max lo most), .int up, .int (nI (d + 1))]) (rest := [.int most]) ⟨hx, hb, hml, hown, hts⟩ (ihO a b (td_low left) (td_max lo most) up) (va_cwS 6 hts (tw_S ml_X0_181 st_X0_worthOf in_X0 kw_X0_worthOf) rfl rfl rfl (by decide +kernel) ⟨by show 3 + 2 * d + 1 + 1 ≤ 3 + 2 * (d + 1); omega, by show 8 + (11 + 11) + (95 + 63 * d + 33) ≤ 95 + 63 * (d + 1); omega⟩) ⟨fun _ _ _ _ q => q, fun U hU hW => ⟨rfl, trivial⟩⟩ rfl rfl hl.1 rfl (lv_room (Nat.le_of_ble_eq_true rfl)) d_X0_worth_119 ⟨Nat.le_refl _, Nat.le_refl _⟩) (fun r hq => ?_)
                subst hq
                refine va_mmax (x := most) (y := (-(td_worth d (b ^^^ td_turned a b (td_low left)) ((a ||| td_low left) ||| td_turned a b (td_low left)) (-up) (-(td_max lo most))))) hx hb (by rw [hml]; exact hl.1.symm) hown (hts _ ml_X0_175) (hts _ st_JM_max) (hts _ in_JM) (hts _ kw_JM_max) (by show 1 ≤ 3 + 2 * (d + 1); omega) (by show 0 + 13 ≤ 95 + 63 * (d + 1); omega) (Nat.zero_le _) (Nat.zero_le _) d_X0_worth_122 ?_
                refine td_i (y := (td_max most (-(td_worth d (b ^^^ td_turned a b (td_low left)) ((a ||| td_low left) ||| td_turned a b (td_low left)) (-up) (-(td_max lo most)))))) (rfl) ?_
                refine lv_istore hx hb d_X0_worth_125 hl (by decide) rfl (fun ls hl => ?_)
                have hl : lv_has ls 14 [(9, .int (td_max most (-(td_worth d (b ^^^ td_turned a b (td_low left)) ((a ||| td_low left) ||| td_turned a b (td_low left)) (-up) (-(td_max lo most)))))), (7, .long (left ^^^ (td_low left))), (12, .long (td_low left)), (0, .long a), (2, .long b), (4, .int lo), (5, .int up), (6, .int (nI (d + 1))), (10, .int (nI N)), (11, .int (nI i))] := hl
                refine lv_iinc (k := 9) (v := (nI (i + 1))) hx hb d_X0_worth_127 hl rfl ((nI_succ i).symm) (by decide) rfl (fun ls hl => ?_)
                have hl : lv_has ls 14 [(11, .int (nI (i + 1))), (9, .int (td_max most (-(td_worth d (b ^^^ td_turned a b (td_low left)) ((a ||| td_low left) ||| td_turned a b (td_low left)) (-up) (-(td_max lo most)))))), (7, .long (left ^^^ (td_low left))), (12, .long (td_low left)), (0, .long a), (2, .long b), (4, .int lo), (5, .int up), (6, .int (nI (d + 1))), (10, .int (nI N))] := hl
                refine lv_goto (tgt := 73) hx hb d_X0_worth_130 (by decide) ?_
                have hl1 := lv_sub hl [4, 5, 6, 7, 8, 2, 1, 9, 0] rfl
                exact ihl (i + 1, left ^^^ td_low left, td_max most (-(td_worth d (b ^^^ td_turned a b (td_low left)) ((a ||| td_low left) ||| td_turned a b (td_low left)) (-up) (-(td_max lo most))))) _ (by show N - (i + 1) < N - i; omega) ⟨⟨hiN, hacc⟩, hl1⟩
        · refine lv_lload_n hx hb d_X0_worth_42 rfl (lv_at hl 2 rfl) ?_
          refine lv_lload_n hx hb d_X0_worth_43 rfl (lv_at hl 1 rfl) ?_
          refine lv_iload hx hb d_X0_worth_44 (lv_at hl 4 rfl) ?_
          refine lv_ineg hx hb d_X0_worth_46 ?_
          refine lv_iload hx hb d_X0_worth_47 (lv_at hl 3 rfl) ?_
          refine lv_ineg hx hb d_X0_worth_49 ?_
          refine lv_iload hx hb d_X0_worth_50 (lv_at hl 5 rfl) ?_
          refine lv_iconst (v := 1) hx hb d_X0_worth_52 (by decide) ?_
          refine lv_isub hx hb d_X0_worth_53 ?_
          refine td_i (y := (nI d)) (nI_pred d) ?_
          refine vp_callSi (W.runS (As := [.long b, .long a, .int (-up), .int (-lo), .int (nI d)]) (rest := []) ⟨hx, hb, hml, hown, hts⟩ (ih (by omega) b a (-up) (-lo)) (va_cwS 5 hts (tw_S ml_X0_111 st_X0_worth in_X0 kw_X0_worth) rfl rfl rfl (by decide +kernel) ⟨by show 3 + 2 * d + 1 ≤ 3 + 2 * (d + 1); omega, by show 8 + (14 + 11) + (95 + 63 * d) ≤ 95 + 63 * (d + 1); omega⟩) ⟨fun _ _ _ _ q => q, fun U hU hW => ⟨rfl, trivial⟩⟩ rfl rfl hl.1 rfl (lv_room (Nat.le_of_ble_eq_true rfl)) d_X0_worth_54 ⟨Nat.le_refl _, Nat.le_refl _⟩) (fun r hq => ?_)
          subst hq
          refine lv_ineg hx hb d_X0_worth_57 ?_
          exact W.iret (v := (-(td_worth d b a (-up) (-lo)))) hx hb hr (fun t ht hW => ⟨_, rfl, by rw [td_worth_s, if_pos h1, if_neg (fun z => hno ⟨h1, z⟩)], ht⟩) (fun _ h => nomatch h) d_X0_worth_58
      · refine td_lne (tgt := 35) hx hb d_X0_worth_15 d_X0_worth_16 (by decide) (fun h1 => ?_) (fun h1 => ?_)
        · exact J (fun z => h1 z.1)
        · refine lv_lload_n hx hb d_X0_worth_19 rfl (lv_at hl 2 rfl) ?_
          refine lv_lload_n hx hb d_X0_worth_20 rfl (lv_at hl 1 rfl) ?_
          refine vp_callSl (W.runS (As := [.long b, .long a]) (rest := []) ⟨hx, hb, hml, hown, hts⟩ (m_X0_movesOf l b a) (va_cwS 2 hts (tw_S ml_X0_54 st_X0_movesOf in_X0 kw_X0_movesOf) rfl rfl rfl (by decide +kernel) ⟨by show 2 + 1 ≤ 3 + 2 * (d + 1); omega, by show 8 + (8 + 11) + 50 ≤ 95 + 63 * (d + 1); omega⟩) ⟨fun _ _ _ _ q => q, fun U hU hW => ⟨rfl, trivial⟩⟩ rfl rfl hl.1 rfl (lv_room (Nat.le_of_ble_eq_true rfl)) d_X0_worth_21 ⟨Nat.le_refl _, Nat.le_refl _⟩) (fun r hq => ?_)
          subst hq
          refine lv_lconst (v := 0) hx hb d_X0_worth_24 (by decide) ?_
          refine td_lne (tgt := 35) hx hb d_X0_worth_25 d_X0_worth_26 (by decide) (fun h2 => ?_) (fun h2 => ?_)
          · exact J (fun z => h2 z.2)
          · refine lv_lload_n hx hb d_X0_worth_29 rfl (lv_at hl 1 rfl) ?_
            refine lv_lload_n hx hb d_X0_worth_30 rfl (lv_at hl 2 rfl) ?_
            refine vp_callSi (W.runS (As := [.long a, .long b]) (rest := []) ⟨hx, hb, hml, hown, hts⟩ (m_X0_lead l a b) (va_cwS 2 hts (tw_S ml_X0_98 st_X0_lead in_X0 kw_X0_lead) rfl rfl rfl (by decide +kernel) ⟨by show 1 + 1 ≤ 3 + 2 * (d + 1); omega, by show 8 + (4 + 11) + 21 ≤ 95 + 63 * (d + 1); omega⟩) ⟨fun _ _ _ _ q => q, fun U hU hW => ⟨rfl, trivial⟩⟩ rfl rfl hl.1 rfl (lv_room (Nat.le_of_ble_eq_true rfl)) d_X0_worth_31 ⟨Nat.le_refl _, Nat.le_refl _⟩) (fun r hq => ?_)
            subst hq
            exact W.iret (v := (td_lead a b)) hx hb hr (fun t ht hW => ⟨_, rfl, by rw [td_worth_s, if_pos h1, if_pos h2], ht⟩) (fun _ h => nomatch h) d_X0_worth_34
set_option maxHeartbeats 4000000 in
set_option maxRecDepth 100000 in
theorem m_X0_bestSquare (l : Launch) (a b : Int64) : Met l y_X0_bestSquare (k_X0_bestSquare :: tw) ({ frames := 31, cells := 0, slots := 0, locals := 977 }) (va_Pc [.long a, .long b] (fun _ => True)) (vp_Si (fun r => r = td_best a b)) 0 0 (fun _ => False) := by
  refine Met.ofW (cc := c_X0_bestSquare) (maxL := 14) (ret := (some .int)) (by decide) rfl ?_
  intro p e s m args below meth c s₁ B hml hv
  obtain ⟨rfl, hv⟩ := hv
  have hx := B.exec
  have hb := B.bytes
  have hr := B.returns
  have hts : ∀ w ∈ tw, w.before _ s = true := fun w h => atoms_spec (ws := k_X0_bestSquare :: tw) B.pre w (List.mem_cons_of_mem _ h)
  have hown : s.vm.findClass RX0 = some m.cls := findClass_of_methodNamed B.named
  have hlocks := B.notSynchronized
  have hl := lv_entry ([.long a, .long b]) (n := 14) (Nat.le_of_ble_eq_true rfl)
  rw [lg_entry_eq]
  generalize (lg_sl ([.long a, .long b]) ++ List.replicate (14 - (lg_sl ([.long a, .long b])).length) Slot.unset).toArray = ls at hl ⊢
  have hl : lv_has ls 14 [(0, .long a), (2, .long b)] := hl
  refine lv_lload_n hx hb d_X0_bestSquare_0 rfl (lv_at hl 0 rfl) ?_
  refine lv_lload_n hx hb d_X0_bestSquare_1 rfl (lv_at hl 1 rfl) ?_
  refine vp_callSl (W.runS (As := [.long a, .long b]) (rest := []) ⟨hx, hb, hml, hown, hts⟩ (m_X0_movesOf l a b) (va_cwS 2 hts (tw_S ml_X0_54 st_X0_movesOf in_X0 kw_X0_movesOf) rfl rfl rfl (by decide +kernel) ⟨Nat.le_of_ble_eq_true rfl, Nat.le_of_ble_eq_true rfl⟩) ⟨fun _ _ _ _ q => q, fun U hU hW => ⟨rfl, trivial⟩⟩ rfl rfl hl.1 rfl (lv_room (Nat.le_of_ble_eq_true rfl)) d_X0_bestSquare_2 ⟨Nat.le_refl _, Nat.le_refl _⟩) (fun r hq => ?_)
  subst hq
  refine lv_lstore hx hb d_X0_bestSquare_5 hl (by decide) rfl (fun ls hl => ?_)
  have hl : lv_has ls 14 [(4, .long (td_moves a b)), (0, .long a), (2, .long b)] := hl
  refine lv_lload hx hb d_X0_bestSquare_7 (lv_at hl 0 rfl) ?_
  refine lv_lconst (v := 0) hx hb d_X0_bestSquare_9 (by decide) ?_
  refine td_lne (tgt := 32) hx hb d_X0_bestSquare_10 d_X0_bestSquare_11 (by decide) (fun h1 => ?_) (fun h1 => ?_)
  · refine lv_lconst (v := 0) hx hb d_X0_bestSquare_32 (by decide) ?_
    refine lv_lstore hx hb d_X0_bestSquare_33 hl (by decide) rfl (fun ls hl => ?_)
    have hl : lv_has ls 14 [(6, .long 0), (4, .long (td_moves a b)), (0, .long a), (2, .long b)] := hl
    refine lv_bipush (v := (-65)) hx hb d_X0_bestSquare_35 (by decide) ?_
    refine lv_istore hx hb d_X0_bestSquare_37 hl (by decide) rfl (fun ls hl => ?_)
    have hl : lv_has ls 14 [(8, .int (-65)), (6, .long 0), (4, .long (td_moves a b)), (0, .long a), (2, .long b)] := hl
    refine lv_lload hx hb d_X0_bestSquare_39 (lv_at hl 2 rfl) ?_
    refine vp_callSi (W.runS (As := [.long (td_moves a b)]) (rest := []) ⟨hx, hb, hml, hown, hts⟩ (m_JL_bitCount l (td_moves a b)) (va_cwS 1 hts (tw_S ml_X0_128 st_JL_bitCount in_JL kw_JL_bitCount) rfl rfl rfl (by decide +kernel) ⟨Nat.le_of_ble_eq_true rfl, Nat.le_of_ble_eq_true rfl⟩) ⟨fun _ _ _ _ q => q, fun U hU hW => ⟨rfl, trivial⟩⟩ rfl rfl hl.1 rfl (lv_room (Nat.le_of_ble_eq_true rfl)) d_X0_bestSquare_41 ⟨Nat.le_refl _, Nat.le_refl _⟩) (fun r hq => ?_)
    subst hq
    obtain ⟨hpe, hpl⟩ := td_pop_n (td_moves a b)
    refine td_i (y := (nI (td_popN (td_moves a b)))) (hpe) ?_
    refine lv_istore hx hb d_X0_bestSquare_44 hl (by decide) rfl (fun ls hl => ?_)
    have hl : lv_has ls 14 [(9, .int (nI (td_popN (td_moves a b)))), (8, .int (-65)), (6, .long 0), (4, .long (td_moves a b)), (0, .long a), (2, .long b)] := hl
    refine lv_iconst (v := 0) hx hb d_X0_bestSquare_46 (by decide) ?_
    refine lv_istore hx hb d_X0_bestSquare_47 hl (by decide) rfl (fun ls hl => ?_)
    have hl : lv_has ls 14 [(10, .int 0), (9, .int (nI (td_popN (td_moves a b)))), (8, .int (-65)), (6, .long 0), (4, .long (td_moves a b)), (0, .long a), (2, .long b)] := hl
    generalize hN : td_popN (td_moves a b) = N at hl hpl hpe
    have hl : lv_has ls 14 [(10, .int 0), (9, .int (nI N)), (8, .int (-65)), (6, .long 0), (4, .long (td_moves a b)), (0, .long a), (2, .long b)] := hl
    have hres : td_pop (td_bloop (fun q lw => -(td_worth 13 (b ^^^ td_turned a b q) ((a ||| q) ||| td_turned a b q) (-65) (-lw))) (N - 0) (td_moves a b) 0 (-65) - 1) = td_best a b := by
      unfold td_best; rw [Nat.sub_zero, ← hN, if_neg h1]
    have hl0 := lv_sub hl [5, 6, 4, 3, 2, 1, 0] rfl
    refine td_loop 49 [] (fun z : Nat × Int64 × Int64 × Int32 => N - z.1) (fun z ls => (z.1 ≤ N ∧ td_pop (td_bloop (fun q lw => -(td_worth 13 (b ^^^ td_turned a b q) ((a ||| q) ||| td_turned a b q) (-65) (-lw))) (N - z.1) z.2.1 z.2.2.1 z.2.2.2 - 1) = td_best a b) ∧ lv_has ls 14 [(0, .long a), (2, .long b), (4, .long (z.2.1)), (6, .long (z.2.2.1)), (8, .int (z.2.2.2)), (9, .int (nI N)), (10, .int (nI z.1))]) (fun z ls hC ih => ?_) (0, td_moves a b, 0, -65) ⟨⟨Nat.zero_le _, hres⟩, hl0⟩
    clear hl hl0
    obtain ⟨hi, hl⟩ := hC
    have hl : lv_has ls 14 [(0, .long a), (2, .long b), (4, .long (z.2.1)), (6, .long (z.2.2.1)), (8, .int (z.2.2.2)), (9, .int (nI N)), (10, .int (nI z.1))] := hl
    obtain ⟨i, left, ch, most⟩ := z
    obtain ⟨hi, hacc⟩ := hi
    have hl : lv_has ls 14 [(0, .long a), (2, .long b), (4, .long left), (6, .long ch), (8, .int most), (9, .int (nI N)), (10, .int (nI i))] := hl
    dsimp only at hi hacc
    refine lv_iload hx hb d_X0_bestSquare_49 (lv_at hl 6 rfl) ?_
    refine lv_iload hx hb d_X0_bestSquare_51 (lv_at hl 5 rfl) ?_
    refine lv_icmp_ge (tgt := 107) hx hb d_X0_bestSquare_53 (by decide) (fun h4 => ?_) (fun h4 => ?_)
    · have hiN : i = N := Nat.le_antisymm hi ((nI_leI (by omega) (by omega)).mp h4)
      rw [hiN, Nat.sub_self] at hacc
      refine lv_lload hx hb d_X0_bestSquare_107 (lv_at hl 3 rfl) ?_
      refine vp_callSi (W.runS (As := [.long ch]) (rest := []) ⟨hx, hb, hml, hown, hts⟩ (m_X0_squareOf l ch) (va_cwS 1 hts (tw_S ml_X0_185 st_X0_squareOf in_X0 kw_X0_squareOf) rfl rfl rfl (by decide +kernel) ⟨Nat.le_of_ble_eq_true rfl, Nat.le_of_ble_eq_true rfl⟩) ⟨fun _ _ _ _ q => q, fun U hU hW => ⟨rfl, trivial⟩⟩ rfl rfl hl.1 rfl (lv_room (Nat.le_of_ble_eq_true rfl)) d_X0_bestSquare_109 ⟨Nat.le_refl _, Nat.le_refl _⟩) (fun r hq => ?_)
      subst hq
      exact W.iret (v := (td_pop (ch - 1))) hx hb hr (fun t ht hW => ⟨_, rfl, hacc, ht⟩) (fun _ h => nomatch h) d_X0_bestSquare_112
    · have hiN : i < N := Nat.lt_of_not_le (fun y => h4 ((nI_leI (by omega) (by omega)).mpr y))
      have hst : N - i = (N - (i + 1)) + 1 := by omega
      rw [hst] at hacc
      unfold td_bloop at hacc
      refine lv_lload hx hb d_X0_bestSquare_56 (lv_at hl 2 rfl) ?_
      refine lv_lload hx hb d_X0_bestSquare_58 (lv_at hl 2 rfl) ?_
      refine lv_lneg hx hb d_X0_bestSquare_60 ?_
      refine lv_land hx hb d_X0_bestSquare_61 ?_
      refine td_l (y := (td_low left)) (rfl) ?_
      refine lv_lstore hx hb d_X0_bestSquare_62 hl (by decide) rfl (fun ls hl => ?_)
      have hl : lv_has ls 14 [(11, .long (td_low left)), (0, .long a), (2, .long b), (4, .long left), (6, .long ch), (8, .int most), (9, .int (nI N)), (10, .int (nI i))] := hl
      refine lv_lload hx hb d_X0_bestSquare_64 (lv_at hl 3 rfl) ?_
      refine lv_lload hx hb d_X0_bestSquare_66 (lv_at hl 0 rfl) ?_
      refine lv_lxor hx hb d_X0_bestSquare_68 ?_
      refine lv_lstore hx hb d_X0_bestSquare_69 hl (by decide) rfl (fun ls hl => ?_)
      have hl : lv_has ls 14 [(4, .long (left ^^^ (td_low left))), (11, .long (td_low left)), (0, .long a), (2, .long b), (6, .long ch), (8, .int most), (9, .int (nI N)), (10, .int (nI i))] := hl
      refine lv_lload_n hx hb d_X0_bestSquare_71 rfl (lv_at hl 2 rfl) ?_
      refine lv_lload_n hx hb d_X0_bestSquare_72 rfl (lv_at hl 3 rfl) ?_
      refine lv_lload hx hb d_X0_bestSquare_73 (lv_at hl 1 rfl) ?_
      refine lv_iload hx hb d_X0_bestSquare_75 (lv_at hl 5 rfl) ?_
      refine lv_bipush (v := 65) hx hb d_X0_bestSquare_77 (by decide) ?_
      refine lv_bipush (v := 14) hx hb d_X0_bestSquare_79 (by decide) ?_
      refine vp_callSi (W.runS (As := [.long a, .long b, .long (td_low left), .int most, .int 65, .int 14]) (rest := []) ⟨hx, hb, hml, hown, hts⟩ (m_X0_worthOf_open l 13 (m_X0_worth l 13 (by decide)) a b (td_low left) most 65) (va_cwS 6 hts (tw_S ml_X0_181 st_X0_worthOf in_X0 kw_X0_worthOf) rfl rfl rfl (by decide +kernel) ⟨Nat.le_of_ble_eq_true rfl, Nat.le_of_ble_eq_true rfl⟩) ⟨fun _ _ _ _ q => q, fun U hU hW => ⟨rfl, trivial⟩⟩ rfl rfl hl.1 rfl (lv_room (Nat.le_of_ble_eq_true rfl)) d_X0_bestSquare_81 ⟨Nat.le_refl _, Nat.le_refl _⟩) (fun r hq => ?_)
      subst hq
      refine lv_topi (fun v ev => ?_)
      rw [← ev] at hacc
      refine lv_istore hx hb d_X0_bestSquare_84 hl (by decide) rfl (fun ls hl => ?_)
      have hl : lv_has ls 14 [(13, .int v), (4, .long (left ^^^ (td_low left))), (11, .long (td_low left)), (0, .long a), (2, .long b), (6, .long ch), (8, .int most), (9, .int (nI N)), (10, .int (nI i))] := hl
      refine lv_iload hx hb d_X0_bestSquare_86 (lv_at hl 0 rfl) ?_
      refine lv_iload hx hb d_X0_bestSquare_88 (lv_at hl 6 rfl) ?_
      refine lv_icmp_le (tgt := 101) hx hb d_X0_bestSquare_90 (by decide) (fun h5 => ?_) (fun h5 => ?_)
      · rw [if_neg (Int32.not_lt.mpr h5)] at hacc
        refine lv_iinc (k := 8) (v := (nI (i + 1))) hx hb d_X0_bestSquare_101 hl rfl ((nI_succ i).symm) (by decide) rfl (fun ls hl => ?_)
        have hl : lv_has ls 14 [(10, .int (nI (i + 1))), (13, .int v), (4, .long (left ^^^ (td_low left))), (11, .long (td_low left)), (0, .long a), (2, .long b), (6, .long ch), (8, .int most), (9, .int (nI N))] := hl
        refine lv_goto (tgt := 49) hx hb d_X0_bestSquare_104 (by decide) ?_
        have hl1 := lv_sub hl [4, 5, 2, 6, 7, 8, 0] rfl
        exact ih (i + 1, left ^^^ td_low left, ch, most) _ (by show N - (i + 1) < N - i; omega) ⟨⟨hiN, hacc⟩, hl1⟩
      · rw [if_pos (Int32.not_le.mp h5)] at hacc
        refine lv_iload hx hb d_X0_bestSquare_93 (lv_at hl 0 rfl) ?_
        refine lv_istore hx hb d_X0_bestSquare_95 hl (by decide) rfl (fun ls hl => ?_)
        have hl : lv_has ls 14 [(8, .int v), (13, .int v), (4, .long (left ^^^ (td_low left))), (11, .long (td_low left)), (0, .long a), (2, .long b), (6, .long ch), (9, .int (nI N)), (10, .int (nI i))] := hl
        refine lv_lload hx hb d_X0_bestSquare_97 (lv_at hl 3 rfl) ?_
        refine lv_lstore hx hb d_X0_bestSquare_99 hl (by decide) rfl (fun ls hl => ?_)
        have hl : lv_has ls 14 [(6, .long (td_low left)), (8, .int v), (13, .int v), (4, .long (left ^^^ (td_low left))), (11, .long (td_low left)), (0, .long a), (2, .long b), (9, .int (nI N)), (10, .int (nI i))] := hl
        refine lv_iinc (k := 8) (v := (nI (i + 1))) hx hb d_X0_bestSquare_101 hl rfl ((nI_succ i).symm) (by decide) rfl (fun ls hl => ?_)
        have hl : lv_has ls 14 [(10, .int (nI (i + 1))), (6, .long (td_low left)), (8, .int v), (13, .int v), (4, .long (left ^^^ (td_low left))), (11, .long (td_low left)), (0, .long a), (2, .long b), (9, .int (nI N))] := hl
        refine lv_goto (tgt := 49) hx hb d_X0_bestSquare_104 (by decide) ?_
        have hl1 := lv_sub hl [6, 7, 4, 1, 2, 8, 0] rfl
        exact ih (i + 1, left ^^^ td_low left, td_low left, v) _ (by show N - (i + 1) < N - i; omega) ⟨⟨hiN, hacc⟩, hl1⟩
  · refine td_joini 31 ls [] (fun x_ => x_ = td_best a b) (fun x_ ex => ?_) (fun J => ?_)
    · exact W.iret (v := x_) hx hb hr (fun t ht hW => ⟨_, rfl, ex, ht⟩) (fun _ h => nomatch h) d_X0_bestSquare_31
    · refine lv_lload_n hx hb d_X0_bestSquare_14 rfl (lv_at hl 2 rfl) ?_
      refine lv_lload_n hx hb d_X0_bestSquare_15 rfl (lv_at hl 1 rfl) ?_
      refine vp_callSl (W.runS (As := [.long b, .long a]) (rest := []) ⟨hx, hb, hml, hown, hts⟩ (m_X0_movesOf l b a) (va_cwS 2 hts (tw_S ml_X0_54 st_X0_movesOf in_X0 kw_X0_movesOf) rfl rfl rfl (by decide +kernel) ⟨Nat.le_of_ble_eq_true rfl, Nat.le_of_ble_eq_true rfl⟩) ⟨fun _ _ _ _ q => q, fun U hU hW => ⟨rfl, trivial⟩⟩ rfl rfl hl.1 rfl (lv_room (Nat.le_of_ble_eq_true rfl)) d_X0_bestSquare_16 ⟨Nat.le_refl _, Nat.le_refl _⟩) (fun r hq => ?_)
      subst hq
      refine lv_lconst (v := 0) hx hb d_X0_bestSquare_19 (by decide) ?_
      refine td_lne (tgt := 29) hx hb d_X0_bestSquare_20 d_X0_bestSquare_21 (by decide) (fun h2 => ?_) (fun h2 => ?_)
      · refine lv_bipush (v := 64) hx hb d_X0_bestSquare_29 (by decide) ?_
        exact J _ (by unfold td_best; rw [if_pos h1, if_neg h2])
      · refine lv_bipush (v := 65) hx hb d_X0_bestSquare_24 (by decide) ?_
        refine lv_goto (tgt := 31) hx hb d_X0_bestSquare_26 (by decide) ?_
        exact J _ (by unfold td_best; rw [if_pos h1, if_pos h2])
