/-! the class's recursions, word for word -/
def td_popN (x : Int64) : Nat := (td_pop x).toNatClampNeg
theorem td_pop_n (x : Int64) : td_pop x = nI (td_popN x) ∧ td_popN x < 128 := by
  have h : ∃ j : Nat, j < 2 ^ 7 ∧ td_pop x = nI j := by
    unfold td_pop
    exact pk_andE _ 7 (by decide)
  obtain ⟨j, hj, e⟩ := h
  have h1 : td_popN x = j := by unfold td_popN; rw [e]; exact nI_clamp (by omega)
  rw [h1]
  exact ⟨e, by omega⟩
def td_low (x : Int64) : Int64 := x &&& (-x)
def td_fold {σ : Type} (g : Int64 → σ → σ) : Nat → Int64 → σ → σ
  | 0, _, a => a
  | n + 1, left, a => td_fold g n (left ^^^ td_low left) (g (td_low left) a)
def td_rows : Nat → Int64 → Int64 → Int64
  | 0, _, _ => 1
  | n + 1, a, b => if td_moves a b = 0 then (if td_moves b a = 0 then 1 else td_rows n b a) else if n = 0 then (td_pop (td_moves a b)).toInt64 else
    td_fold (fun d acc => acc + td_rows n (b ^^^ td_turned a b d) ((a ||| d) ||| td_turned a b d)) (td_popN (td_moves a b)) (td_moves a b) 0
theorem td_rows_s (n : Nat) (a b : Int64) : td_rows (n + 1) a b = if td_moves a b = 0 then (if td_moves b a = 0 then 1 else td_rows n b a) else if n = 0 then (td_pop (td_moves a b)).toInt64 else
    td_fold (fun d acc => acc + td_rows n (b ^^^ td_turned a b d) ((a ||| d) ||| td_turned a b d)) (td_popN (td_moves a b)) (td_moves a b) 0 := rfl
def td_wloop (g : Int64 → Int32 → Int32) (lo hi : Int32) : Nat → Int64 → Int32 → Int32
  | 0, _, most => most
  | n + 1, left, most => if most < hi then td_wloop g lo hi n (left ^^^ td_low left) (td_max most (g (td_low left) (td_max lo most))) else most
def td_worth : Nat → Int64 → Int64 → Int32 → Int32 → Int32
  | 0, a, b, _, _ => td_lead a b
  | d + 1, a, b, lo, hi => if td_moves a b = 0 then (if td_moves b a = 0 then td_lead a b else -(td_worth d b a (-hi) (-lo))) else
    td_wloop (fun q lw => -(td_worth d (b ^^^ td_turned a b q) ((a ||| q) ||| td_turned a b q) (-hi) (-lw))) lo hi (td_popN (td_moves a b)) (td_moves a b) (-65)
theorem td_worth_s (d : Nat) (a b : Int64) (lo hi : Int32) : td_worth (d + 1) a b lo hi = if td_moves a b = 0 then (if td_moves b a = 0 then td_lead a b else -(td_worth d b a (-hi) (-lo))) else
    td_wloop (fun q lw => -(td_worth d (b ^^^ td_turned a b q) ((a ||| q) ||| td_turned a b q) (-hi) (-lw))) lo hi (td_popN (td_moves a b)) (td_moves a b) (-65) := rfl
def td_bloop (g : Int64 → Int32 → Int32) : Nat → Int64 → Int64 → Int32 → Int64
  | 0, _, ch, _ => ch
  | n + 1, left, ch, most => if most < g (td_low left) most then td_bloop g n (left ^^^ td_low left) (td_low left) (g (td_low left) most) else td_bloop g n (left ^^^ td_low left) ch most
def td_best (a b : Int64) : Int32 := if td_moves a b = 0 then (if td_moves b a = 0 then 65 else 64) else
    td_pop (td_bloop (fun q lw => -(td_worth 13 (b ^^^ td_turned a b q) ((a ||| q) ||| td_turned a b q) (-65) (-lw))) (td_popN (td_moves a b)) (td_moves a b) 0 (-65) - 1)
set_option maxHeartbeats 4000000 in
set_option maxRecDepth 100000 in
theorem m_X0_rowsFrom (l : Launch) : ∀ n : Nat, n ≤ 4 → ∀ a b : Int64, Met l y_X0_rowsFrom (k_X0_rowsFrom :: tw) ({ frames := 3 + n, cells := 0, slots := 0, locals := 85 + 34 * n }) (va_Pc [.long a, .long b, .int (nI n)] (fun _ => True)) (vp_Sl (fun r => r = td_rows n a b)) 0 0 (fun _ => False) := by
  intro n
  induction n with
  | zero =>
    intro hn a b
    refine Met.ofW (cc := c_X0_rowsFrom) (maxL := 15) (ret := (some .long)) (by decide) rfl ?_
    intro p e s m args below meth c s₁ B hml hv
    obtain ⟨rfl, hv⟩ := hv
    have hx := B.exec
    have hb := B.bytes
    have hr := B.returns
    have hts : ∀ w ∈ tw, w.before _ s = true := fun w h => atoms_spec (ws := k_X0_rowsFrom :: tw) B.pre w (List.mem_cons_of_mem _ h)
    have hown : s.vm.findClass RX0 = some m.cls := findClass_of_methodNamed B.named
    have hlocks := B.notSynchronized
    have hl := lv_entry ([.long a, .long b, .int (nI 0)]) (n := 15) (Nat.le_of_ble_eq_true rfl)
    rw [lg_entry_eq]
    generalize (lg_sl ([.long a, .long b, .int (nI 0)]) ++ List.replicate (15 - (lg_sl ([.long a, .long b, .int (nI 0)])).length) Slot.unset).toArray = ls at hl ⊢
    have hl : lv_has ls 15 [(0, .long a), (2, .long b), (4, .int (nI 0))] := hl
    refine lv_iload hx hb d_X0_rowsFrom_0 (lv_at hl 2 rfl) ?_
    refine lv_if_gt (tgt := 7) hx hb d_X0_rowsFrom_2 (by decide) (fun hc => ?_) (fun hc => ?_)
    · exact absurd hc (by decide)
    · refine lv_lconst (v := 1) hx hb d_X0_rowsFrom_5 (by decide) ?_
      exact W.lret (v := 1) hx hb hr (fun t ht hW => ⟨_, rfl, rfl, ht⟩) (fun _ h => nomatch h) d_X0_rowsFrom_6
  | succ n ih =>
    intro hn a b
    refine Met.ofW (cc := c_X0_rowsFrom) (maxL := 15) (ret := (some .long)) (by decide) rfl ?_
    intro p e s m args below meth c s₁ B hml hv
    obtain ⟨rfl, hv⟩ := hv
    have hx := B.exec
    have hb := B.bytes
    have hr := B.returns
    have hts : ∀ w ∈ tw, w.before _ s = true := fun w h => atoms_spec (ws := k_X0_rowsFrom :: tw) B.pre w (List.mem_cons_of_mem _ h)
    have hown : s.vm.findClass RX0 = some m.cls := findClass_of_methodNamed B.named
    have hlocks := B.notSynchronized
    have hl := lv_entry ([.long a, .long b, .int (nI (n + 1))]) (n := 15) (Nat.le_of_ble_eq_true rfl)
    rw [lg_entry_eq]
    generalize (lg_sl ([.long a, .long b, .int (nI (n + 1))]) ++ List.replicate (15 - (lg_sl ([.long a, .long b, .int (nI (n + 1))])).length) Slot.unset).toArray = ls at hl ⊢
    have hl : lv_has ls 15 [(0, .long a), (2, .long b), (4, .int (nI (n + 1)))] := hl
    refine lv_iload hx hb d_X0_rowsFrom_0 (lv_at hl 2 rfl) ?_
    refine lv_if_gt (tgt := 7) hx hb d_X0_rowsFrom_2 (by decide) (fun hc => ?_) (fun hc => ?_)
    · refine lv_lload_n hx hb d_X0_rowsFrom_7 rfl (lv_at hl 0 rfl) ?_
      refine lv_lload_n hx hb d_X0_rowsFrom_8 rfl (lv_at hl 1 rfl) ?_
      refine vp_callSl (W.runS (As := [.long a, .long b]) (rest := []) ⟨hx, hb, hml, hown, hts⟩ (m_X0_movesOf l a b) (va_cwS 2 hts (tw_S ml_X0_54 st_X0_movesOf in_X0 kw_X0_movesOf) rfl rfl rfl (by decide +kernel) ⟨by show 2 + 1 ≤ 3 + (n + 1); omega, by show 8 + (8 + 11) + 50 ≤ 85 + 34 * (n + 1); omega⟩) ⟨fun _ _ _ _ q => q, fun U hU hW => ⟨rfl, trivial⟩⟩ rfl rfl hl.1 rfl (lv_room (Nat.le_of_ble_eq_true rfl)) d_X0_rowsFrom_9 ⟨Nat.le_refl _, Nat.le_refl _⟩) (fun r hq => ?_)
      subst hq
      refine lv_lstore hx hb d_X0_rowsFrom_12 hl (by decide) rfl (fun ls hl => ?_)
      have hl : lv_has ls 15 [(5, .long (td_moves a b)), (0, .long a), (2, .long b), (4, .int (nI (n + 1)))] := hl
      refine lv_lload hx hb d_X0_rowsFrom_14 (lv_at hl 0 rfl) ?_
      refine lv_lconst (v := 0) hx hb d_X0_rowsFrom_16 (by decide) ?_
      refine td_lne (tgt := 45) hx hb d_X0_rowsFrom_17 d_X0_rowsFrom_18 (by decide) (fun h1 => ?_) (fun h1 => ?_)
      · refine lv_lload hx hb d_X0_rowsFrom_45 (lv_at hl 0 rfl) ?_
        refine vp_callSi (W.runS (As := [.long (td_moves a b)]) (rest := []) ⟨hx, hb, hml, hown, hts⟩ (m_JL_bitCount l (td_moves a b)) (va_cwS 1 hts (tw_S ml_X0_128 st_JL_bitCount in_JL kw_JL_bitCount) rfl rfl rfl (by decide +kernel) ⟨by show 0 + 1 ≤ 3 + (n + 1); omega, by show 8 + (2 + 11) + 0 ≤ 85 + 34 * (n + 1); omega⟩) ⟨fun _ _ _ _ q => q, fun U hU hW => ⟨rfl, trivial⟩⟩ rfl rfl hl.1 rfl (lv_room (Nat.le_of_ble_eq_true rfl)) d_X0_rowsFrom_47 ⟨Nat.le_refl _, Nat.le_refl _⟩) (fun r hq => ?_)
        subst hq
        refine lv_istore hx hb d_X0_rowsFrom_50 hl (by decide) rfl (fun ls hl => ?_)
        have hl : lv_has ls 15 [(7, .int (td_pop (td_moves a b))), (5, .long (td_moves a b)), (0, .long a), (2, .long b), (4, .int (nI (n + 1)))] := hl
        refine lv_iload hx hb d_X0_rowsFrom_52 (lv_at hl 4 rfl) ?_
        refine lv_iconst (v := 1) hx hb d_X0_rowsFrom_54 (by decide) ?_
        refine lv_icmp_ne (tgt := 62) hx hb d_X0_rowsFrom_55 (by decide) (fun h3 => ?_) (fun h3 => ?_)
        · have hn0 : ¬ n = 0 := fun z => h3 (by rw [z]; rfl)
          obtain ⟨hpe, hpl⟩ := td_pop_n (td_moves a b)
          rw [hpe] at hl
          have hl : lv_has ls 15 [(7, .int (nI (td_popN (td_moves a b)))), (5, .long (td_moves a b)), (0, .long a), (2, .long b), (4, .int (nI (n + 1)))] := hl
          refine lv_lconst (v := 0) hx hb d_X0_rowsFrom_62 (by decide) ?_
          refine lv_lstore hx hb d_X0_rowsFrom_63 hl (by decide) rfl (fun ls hl => ?_)
          have hl : lv_has ls 15 [(8, .long 0), (7, .int (nI (td_popN (td_moves a b)))), (5, .long (td_moves a b)), (0, .long a), (2, .long b), (4, .int (nI (n + 1)))] := hl
          refine lv_iconst (v := 0) hx hb d_X0_rowsFrom_65 (by decide) ?_
          refine lv_istore hx hb d_X0_rowsFrom_66 hl (by decide) rfl (fun ls hl => ?_)
          have hl : lv_has ls 15 [(10, .int 0), (8, .long 0), (7, .int (nI (td_popN (td_moves a b)))), (5, .long (td_moves a b)), (0, .long a), (2, .long b), (4, .int (nI (n + 1)))] := hl
          generalize hN : td_popN (td_moves a b) = N at hl hpl hpe
          have hl : lv_has ls 15 [(10, .int 0), (8, .long 0), (7, .int (nI N)), (5, .long (td_moves a b)), (0, .long a), (2, .long b), (4, .int (nI (n + 1)))] := hl
          have hres : td_fold (fun d acc => acc + td_rows n (b ^^^ td_turned a b d) ((a ||| d) ||| td_turned a b d)) (N - 0) (td_moves a b) 0 = td_rows (n + 1) a b := by
            rw [Nat.sub_zero, ← hN]; rw [td_rows_s]
            rw [if_neg h1, if_neg hn0]
          have hl0 := lv_sub hl [4, 5, 6, 3, 2, 1, 0] rfl
          refine td_loop 68 [] (fun z : Nat × Int64 × Int64 => N - z.1) (fun z ls => (z.1 ≤ N ∧ td_fold (fun d acc => acc + td_rows n (b ^^^ td_turned a b d) ((a ||| d) ||| td_turned a b d)) (N - z.1) z.2.1 z.2.2 = td_rows (n + 1) a b) ∧ lv_has ls 15 [(0, .long a), (2, .long b), (4, .int (nI (n + 1))), (5, .long (z.2.1)), (7, .int (nI N)), (8, .long (z.2.2)), (10, .int (nI z.1))]) (fun z ls hC ih' => ?_) (0, td_moves a b, 0) ⟨⟨Nat.zero_le _, hres⟩, hl0⟩
          clear hl hl0
          obtain ⟨hi, hl⟩ := hC
          have hl : lv_has ls 15 [(0, .long a), (2, .long b), (4, .int (nI (n + 1))), (5, .long (z.2.1)), (7, .int (nI N)), (8, .long (z.2.2)), (10, .int (nI z.1))] := hl
          obtain ⟨i, left, acc⟩ := z
          obtain ⟨hi, hacc⟩ := hi
          have hl : lv_has ls 15 [(0, .long a), (2, .long b), (4, .int (nI (n + 1))), (5, .long left), (7, .int (nI N)), (8, .long acc), (10, .int (nI i))] := hl
          dsimp only at hi hacc
          refine lv_iload hx hb d_X0_rowsFrom_68 (lv_at hl 6 rfl) ?_
          refine lv_iload hx hb d_X0_rowsFrom_70 (lv_at hl 4 rfl) ?_
          refine lv_icmp_ge (tgt := 128) hx hb d_X0_rowsFrom_72 (by decide) (fun h4 => ?_) (fun h4 => ?_)
          · have hiN : i = N := Nat.le_antisymm hi ((nI_leI (by omega) (by omega)).mp h4)
            rw [hiN, Nat.sub_self] at hacc
            refine lv_lload hx hb d_X0_rowsFrom_128 (lv_at hl 5 rfl) ?_
            exact W.lret (v := acc) hx hb hr (fun t ht hW => ⟨_, rfl, hacc, ht⟩) (fun _ h => nomatch h) d_X0_rowsFrom_130
          · have hiN : i < N := Nat.lt_of_not_le (fun y => h4 ((nI_leI (by omega) (by omega)).mpr y))
            refine lv_lload hx hb d_X0_rowsFrom_75 (lv_at hl 3 rfl) ?_
            refine lv_lload hx hb d_X0_rowsFrom_77 (lv_at hl 3 rfl) ?_
            refine lv_lneg hx hb d_X0_rowsFrom_79 ?_
            refine lv_land hx hb d_X0_rowsFrom_80 ?_
            refine td_l (y := (td_low left)) (rfl) ?_
            refine lv_lstore hx hb d_X0_rowsFrom_81 hl (by decide) rfl (fun ls hl => ?_)
            have hl : lv_has ls 15 [(11, .long (td_low left)), (0, .long a), (2, .long b), (4, .int (nI (n + 1))), (5, .long left), (7, .int (nI N)), (8, .long acc), (10, .int (nI i))] := hl
            refine lv_lload hx hb d_X0_rowsFrom_83 (lv_at hl 4 rfl) ?_
            refine lv_lload hx hb d_X0_rowsFrom_85 (lv_at hl 0 rfl) ?_
            refine lv_lxor hx hb d_X0_rowsFrom_87 ?_
            refine lv_lstore hx hb d_X0_rowsFrom_88 hl (by decide) rfl (fun ls hl => ?_)
            have hl : lv_has ls 15 [(5, .long (left ^^^ (td_low left))), (11, .long (td_low left)), (0, .long a), (2, .long b), (4, .int (nI (n + 1))), (7, .int (nI N)), (8, .long acc), (10, .int (nI i))] := hl
            refine lv_lload_n hx hb d_X0_rowsFrom_90 rfl (lv_at hl 2 rfl) ?_
            refine lv_lload_n hx hb d_X0_rowsFrom_91 rfl (lv_at hl 3 rfl) ?_
            refine lv_lload hx hb d_X0_rowsFrom_92 (lv_at hl 1 rfl) ?_
            refine vp_callSl (W.runS (As := [.long a, .long b, .long (td_low left)]) (rest := []) ⟨hx, hb, hml, hown, hts⟩ (m_X0_turnedBy l a b (td_low left)) (va_cwS 3 hts (tw_S ml_X0_67 st_X0_turnedBy in_X0 kw_X0_turnedBy) rfl rfl rfl (by decide +kernel) ⟨by show 2 + 1 ≤ 3 + (n + 1); omega, by show 8 + (8 + 11) + 58 ≤ 85 + 34 * (n + 1); omega⟩) ⟨fun _ _ _ _ q => q, fun U hU hW => ⟨rfl, trivial⟩⟩ rfl rfl hl.1 rfl (lv_room (Nat.le_of_ble_eq_true rfl)) d_X0_rowsFrom_94 ⟨Nat.le_refl _, Nat.le_refl _⟩) (fun r hq => ?_)
            subst hq
            refine lv_lstore hx hb d_X0_rowsFrom_97 hl (by decide) rfl (fun ls hl => ?_)
            have hl : lv_has ls 15 [(13, .long (td_turned a b (td_low left))), (5, .long (left ^^^ (td_low left))), (11, .long (td_low left)), (0, .long a), (2, .long b), (4, .int (nI (n + 1))), (7, .int (nI N)), (8, .long acc), (10, .int (nI i))] := hl
            refine lv_lload hx hb d_X0_rowsFrom_99 (lv_at hl 7 rfl) ?_
            refine lv_lload_n hx hb d_X0_rowsFrom_101 rfl (lv_at hl 4 rfl) ?_
            refine lv_lload hx hb d_X0_rowsFrom_102 (lv_at hl 0 rfl) ?_
            refine lv_lxor hx hb d_X0_rowsFrom_104 ?_
            refine lv_lload_n hx hb d_X0_rowsFrom_105 rfl (lv_at hl 3 rfl) ?_
            refine lv_lload hx hb d_X0_rowsFrom_106 (lv_at hl 2 rfl) ?_
            refine lv_lor hx hb d_X0_rowsFrom_108 ?_
            refine lv_lload hx hb d_X0_rowsFrom_109 (lv_at hl 0 rfl) ?_
            refine lv_lor hx hb d_X0_rowsFrom_111 ?_
            refine lv_iload hx hb d_X0_rowsFrom_112 (lv_at hl 5 rfl) ?_
            refine lv_iconst (v := 1) hx hb d_X0_rowsFrom_114 (by decide) ?_
            refine lv_isub hx hb d_X0_rowsFrom_115 ?_
            refine td_i (y := (nI n)) (nI_pred n) ?_
            refine vp_callSl (W.runS (As := [.long (b ^^^ (td_turned a b (td_low left))), .long ((a ||| (td_low left)) ||| (td_turned a b (td_low left))), .int (nI n)]) (rest := [.long acc]) ⟨hx, hb, hml, hown, hts⟩ (ih (by omega) _ _) (va_cwS 3 hts (tw_S ml_X0_104 st_X0_rowsFrom in_X0 kw_X0_rowsFrom) rfl rfl rfl (by decide +kernel) ⟨by show 3 + n + 1 ≤ 3 + (n + 1); omega, by show 8 + (15 + 11) + (85 + 34 * n) ≤ 85 + 34 * (n + 1); omega⟩) ⟨fun _ _ _ _ q => q, fun U hU hW => ⟨rfl, trivial⟩⟩ rfl rfl hl.1 rfl (lv_room (Nat.le_of_ble_eq_true rfl)) d_X0_rowsFrom_116 ⟨Nat.le_refl _, Nat.le_refl _⟩) (fun r hq => ?_)
            subst hq
            refine lv_ladd hx hb d_X0_rowsFrom_119 ?_
            refine lv_lstore hx hb d_X0_rowsFrom_120 hl (by decide) rfl (fun ls hl => ?_)
            have hl : lv_has ls 15 [(8, .long (acc + (td_rows n (b ^^^ td_turned a b (td_low left)) ((a ||| td_low left) ||| td_turned a b (td_low left))))), (13, .long (td_turned a b (td_low left))), (5, .long (left ^^^ (td_low left))), (11, .long (td_low left)), (0, .long a), (2, .long b), (4, .int (nI (n + 1))), (7, .int (nI N)), (10, .int (nI i))] := hl
            refine lv_iinc (k := 8) (v := (nI (i + 1))) hx hb d_X0_rowsFrom_122 hl rfl ((nI_succ i).symm) (by decide) rfl (fun ls hl => ?_)
            have hl : lv_has ls 15 [(10, .int (nI (i + 1))), (8, .long (acc + (td_rows n (b ^^^ td_turned a b (td_low left)) ((a ||| td_low left) ||| td_turned a b (td_low left))))), (13, .long (td_turned a b (td_low left))), (5, .long (left ^^^ (td_low left))), (11, .long (td_low left)), (0, .long a), (2, .long b), (4, .int (nI (n + 1))), (7, .int (nI N))] := hl
            refine lv_goto (tgt := 68) hx hb d_X0_rowsFrom_125 (by decide) ?_
            have hl1 := lv_sub hl [5, 6, 7, 3, 8, 1, 0] rfl
            have hst : N - i = (N - (i + 1)) + 1 := by omega
            rw [hst] at hacc
            exact ih' (i + 1, left ^^^ td_low left, (acc + (td_rows n (b ^^^ td_turned a b (td_low left)) ((a ||| td_low left) ||| td_turned a b (td_low left))))) _ (by show N - (i + 1) < N - i; omega) ⟨⟨hiN, hacc⟩, hl1⟩
        · have hn0 : n = 0 := by have := (nI_eq (a := n + 1) (b := 1) (by omega) (by omega)).mp h3; omega
          refine lv_iload hx hb d_X0_rowsFrom_58 (lv_at hl 0 rfl) ?_
          refine lv_i2l (v := ((td_pop (td_moves a b)).toInt64)) hx hb d_X0_rowsFrom_60 rfl ?_
          exact W.lret (v := ((td_pop (td_moves a b)).toInt64)) hx hb hr (fun t ht hW => ⟨_, rfl, by rw [td_rows_s, if_neg h1, if_pos hn0], ht⟩) (fun _ h => nomatch h) d_X0_rowsFrom_61
      · refine td_joinl 44 ls [] (fun x_ => x_ = td_rows (n + 1) a b) (fun x_ ex => ?_) (fun J => ?_)
        · exact W.lret (v := x_) hx hb hr (fun t ht hW => ⟨_, rfl, ex, ht⟩) (fun _ h => nomatch h) d_X0_rowsFrom_44
        · refine lv_lload_n hx hb d_X0_rowsFrom_21 rfl (lv_at hl 2 rfl) ?_
          refine lv_lload_n hx hb d_X0_rowsFrom_22 rfl (lv_at hl 1 rfl) ?_
          refine vp_callSl (W.runS (As := [.long b, .long a]) (rest := []) ⟨hx, hb, hml, hown, hts⟩ (m_X0_movesOf l b a) (va_cwS 2 hts (tw_S ml_X0_54 st_X0_movesOf in_X0 kw_X0_movesOf) rfl rfl rfl (by decide +kernel) ⟨by show 2 + 1 ≤ 3 + (n + 1); omega, by show 8 + (8 + 11) + 50 ≤ 85 + 34 * (n + 1); omega⟩) ⟨fun _ _ _ _ q => q, fun U hU hW => ⟨rfl, trivial⟩⟩ rfl rfl hl.1 rfl (lv_room (Nat.le_of_ble_eq_true rfl)) d_X0_rowsFrom_23 ⟨Nat.le_refl _, Nat.le_refl _⟩) (fun r hq => ?_)
          subst hq
          refine lv_lconst (v := 0) hx hb d_X0_rowsFrom_26 (by decide) ?_
          refine td_lne (tgt := 35) hx hb d_X0_rowsFrom_27 d_X0_rowsFrom_28 (by decide) (fun h2 => ?_) (fun h2 => ?_)
          · refine lv_lload_n hx hb d_X0_rowsFrom_35 rfl (lv_at hl 2 rfl) ?_
            refine lv_lload_n hx hb d_X0_rowsFrom_36 rfl (lv_at hl 1 rfl) ?_
            refine lv_iload hx hb d_X0_rowsFrom_37 (lv_at hl 3 rfl) ?_
            refine lv_iconst (v := 1) hx hb d_X0_rowsFrom_39 (by decide) ?_
            refine lv_isub hx hb d_X0_rowsFrom_40 ?_
            refine td_i (y := (nI n)) (nI_pred n) ?_
            refine vp_callSl (W.runS (As := [.long b, .long a, .int (nI n)]) (rest := []) ⟨hx, hb, hml, hown, hts⟩ (ih (by omega) b a) (va_cwS 3 hts (tw_S ml_X0_104 st_X0_rowsFrom in_X0 kw_X0_rowsFrom) rfl rfl rfl (by decide +kernel) ⟨by show 3 + n + 1 ≤ 3 + (n + 1); omega, by show 8 + (15 + 11) + (85 + 34 * n) ≤ 85 + 34 * (n + 1); omega⟩) ⟨fun _ _ _ _ q => q, fun U hU hW => ⟨rfl, trivial⟩⟩ rfl rfl hl.1 rfl (lv_room (Nat.le_of_ble_eq_true rfl)) d_X0_rowsFrom_41 ⟨Nat.le_refl _, Nat.le_refl _⟩) (fun r hq => ?_)
            subst hq
            exact J _ (by rw [td_rows_s, if_pos h1, if_neg h2])
          · refine lv_lconst (v := 1) hx hb d_X0_rowsFrom_31 (by decide) ?_
            refine lv_goto (tgt := 44) hx hb d_X0_rowsFrom_32 (by decide) ?_
            exact J _ (by rw [td_rows_s, if_pos h1, if_pos h2])
    · exact absurd (nI_lt (a := 0) (b := n + 1) (by omega) (by omega)) hc
