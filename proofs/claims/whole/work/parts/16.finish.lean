/-! finish: the plan, then the moves -/
def td_nx (a b : Int64) (q : Int32) : Int64 := b ^^^ td_turned a b (td_on q)
def td_ny (a b : Int64) (q : Int32) : Int64 := (a ||| td_on q) ||| td_turned a b (td_on q)
def td_plan : Nat → Int64 → Int64 → List Int32
  | 0, _, _ => []
  | n + 1, a, b => if td_best a b = 65 then [] else td_best a b :: td_plan n (td_nx a b (td_best a b)) (td_ny a b (td_best a b))
theorem td_plan_s (n : Nat) (a b : Int64) : td_plan (n + 1) a b = if td_best a b = 65 then [] else td_best a b :: td_plan n (td_nx a b (td_best a b)) (td_ny a b (td_best a b)) := rfl
/-- own, other, player, made, squares, turned -/
abbrev tdS : Type := Int64 × Int64 × Int32 × Nat × (Nat → Int32) × (Nat → Int64)
def td_mk (S : tdS) (q : Int32) : tdS := (td_nx S.1 S.2.1 q, td_ny S.1 S.2.1 q, 1 - S.2.2.1, S.2.2.2.1 + 1, upd S.2.2.2.2.1 S.2.2.2.1 q, vp_updL S.2.2.2.2.2 S.2.2.2.1 (td_turned S.1 S.2.1 (td_on q)))
def td_mks (L : List Int32) (S : tdS) : tdS := L.foldl td_mk S
set_option maxHeartbeats 4000000 in
set_option maxRecDepth 100000 in
theorem m_X0_planFinish (l : Launch) (D : va_G) (sz : Nat) (o a3 : Nat) (cI : ClassId) (x y : Int64) (pl md : Int32) (v4 v5 : Value) (pn : Nat → Int32) : Met l y_X0_planFinish (k_X0_planFinish :: tw) ({ frames := 32, cells := 0, slots := 0, locals := 1010 }) (va_Pc [.ref o] (fun U => U.heap.size = sz ∧ va_P D tdC [(o, .inr (0, [.long x, .long y, .int pl, .int md, v4, v5, .ref a3])), (a3, .inl (cI, 14, .inl pn))] U.heap ∧ va_K D tdC [(cI, .int)] U ∧ va_D (fun _ => True) [(o, .inr (0, [.long x, .long y, .int pl, .int md, v4, v5, .ref a3])), (a3, .inl (cI, 14, .inl pn))])) (va_Qi (fun (r : Int32) (u : Nat → Int32) => r = nI (td_plan 14 x y).length ∧ (td_plan 14 x y).length ≤ 14 ∧ ∀ j, j < (td_plan 14 x y).length → u j = (td_plan 14 x y).getD j 0) (fun (u : Nat → Int32) t => va_P D tdC [(o, .inr (0, [.long x, .long y, .int pl, .int md, v4, v5, .ref a3])), (a3, .inl (cI, 14, .inl u))] t.heap ∧ va_K D tdC [(cI, .int)] t ∧ va_D (va_A [(o, .inr (0, [.long x, .long y, .int pl, .int md, v4, v5, .ref a3])), (a3, .inl (cI, 14, .inl pn))] sz) [(o, .inr (0, [.long x, .long y, .int pl, .int md, v4, v5, .ref a3])), (a3, .inl (cI, 14, .inl u))]) (va_A [(o, .inr (0, [.long x, .long y, .int pl, .int md, v4, v5, .ref a3])), (a3, .inl (cI, 14, .inl pn))] sz)) 0 0 (va_A [(o, .inr (0, [.long x, .long y, .int pl, .int md, v4, v5, .ref a3])), (a3, .inl (cI, 14, .inl pn))] sz) := by
  refine Met.ofW (cc := c_X0_planFinish) (maxL := 13) (ret := (some .int)) (by decide) rfl ?_
  intro p e s m args below meth c s₁ B hml hv
  obtain ⟨rfl, hsz, hP, hK, hD0⟩ := hv
  have hx := B.exec
  have hb := B.bytes
  have hr := B.returns
  have hts : ∀ w ∈ tw, w.before _ s = true := fun w h => atoms_spec (ws := k_X0_planFinish :: tw) B.pre w (List.mem_cons_of_mem _ h)
  have hown : s.vm.findClass RX0 = some m.cls := findClass_of_methodNamed B.named
  have hlocks := B.notSynchronized
  subst hsz
  have hD := hD0.self (sz := s.heap.size)
  generalize hAe : va_A [(o, .inr (0, [.long x, .long y, .int pl, .int md, v4, v5, .ref a3])), (a3, .inl (cI, 14, .inl pn))] s.heap.size = A at hD ⊢
  have hA : ∀ q : Nat, s.heap.size ≤ q → A q := fun q h => by rw [← hAe]; exact Or.inr h
  have hS : va_S A s.heap s.heap [] := va_S.rf
  have hP : va_P D tdC [(o, .inr (0, [.long x, .long y, .int pl, .int md, v4, v5, .ref a3])), (a3, .inl (cI, 14, .inl pn))] s.heap := hP
  have hl := lv_entry ([.ref o]) (n := 13) (Nat.le_of_ble_eq_true rfl)
  rw [lg_entry_eq]
  generalize (lg_sl ([.ref o]) ++ List.replicate (13 - (lg_sl ([.ref o])).length) Slot.unset).toArray = ls at hl ⊢
  have hl : lv_has ls 13 [(0, .ref o)] := hl
  refine lv_aload_n hx hb d_X0_planFinish_0 rfl (lv_at hl 0 rfl) ?_
  refine va_get (D := D) (ci := 0) (v := .long x) (C := RX0) (T := TX0) (N := 7) hx hb hts usX0 hown hK hP 0 rfl rfl 0 (by decide) (hts _ fl_X0_47) (fun _ h9 => h9) rfl d_X0_planFinish_1 ?_
  refine lv_lstore_n hx hb d_X0_planFinish_4 rfl hl (by decide) rfl (fun ls hl => ?_)
  have hl : lv_has ls 13 [(1, .long x), (0, .ref o)] := hl
  refine lv_aload_n hx hb d_X0_planFinish_5 rfl (lv_at hl 1 rfl) ?_
  refine va_get (D := D) (ci := 0) (v := .long y) (C := RX0) (T := TX0) (N := 7) hx hb hts usX0 hown hK hP 0 rfl rfl 1 (by decide) (hts _ fl_X0_51) (fun _ h9 => h9) rfl d_X0_planFinish_6 ?_
  refine lv_lstore_n hx hb d_X0_planFinish_9 rfl hl (by decide) rfl (fun ls hl => ?_)
  have hl : lv_has ls 13 [(3, .long y), (1, .long x), (0, .ref o)] := hl
  refine lv_iconst (v := 0) hx hb d_X0_planFinish_10 (by decide) ?_
  refine lv_istore hx hb d_X0_planFinish_11 hl (by decide) rfl (fun ls hl => ?_)
  have hl : lv_has ls 13 [(5, .int 0), (3, .long y), (1, .long x), (0, .ref o)] := hl
  generalize hL : td_plan 14 x y = L
  have hl0 := lv_sub hl [3, 2, 1, 0] rfl
  refine td_loopH 13 [] (fun z : Nat × Int64 × Int64 × (Nat → Int32) => 14 - z.1) (fun z H locs ls => (z.1 ≤ 14 ∧ z.1 ≤ L.length ∧ L.drop z.1 = td_plan (14 - z.1) z.2.1 z.2.2.1 ∧ ∀ j, j < z.1 → z.2.2.2 j = L.getD j 0) ∧ va_P D tdC [(o, .inr (0, [.long x, .long y, .int pl, .int md, v4, v5, .ref a3])), (a3, .inl (cI, 14, .inl z.2.2.2))] H ∧ va_D A [(o, .inr (0, [.long x, .long y, .int pl, .int md, v4, v5, .ref a3])), (a3, .inl (cI, 14, .inl z.2.2.2))] ∧ va_S A s.heap H locs ∧ lv_has ls 13 [(0, .ref o), (1, .long (z.2.1)), (3, .long (z.2.2.1)), (5, .int (nI z.1))]) (fun z H locs ls hC ih => ?_) (0, x, y, pn) ⟨⟨Nat.zero_le _, Nat.zero_le _, by rw [List.drop_zero]; exact hL.symm, fun j h => absurd h (Nat.not_lt_zero j)⟩, hP, hD, hS, hl0⟩
  clear hl hl0 hP hD hS
  obtain ⟨hi, hP, hD, hS, hl⟩ := hC
  obtain ⟨i, a, b, f⟩ := z
  obtain ⟨hi, hiL, hdr, hf⟩ := hi
  dsimp only at hi hiL hdr hf
  have hl : lv_has ls 13 [(0, .ref o), (1, .long a), (3, .long b), (5, .int (nI i))] := hl
  have hP : va_P D tdC [(o, .inr (0, [.long x, .long y, .int pl, .int md, v4, v5, .ref a3])), (a3, .inl (cI, 14, .inl f))] H := hP
  have hD : va_D A [(o, .inr (0, [.long x, .long y, .int pl, .int md, v4, v5, .ref a3])), (a3, .inl (cI, 14, .inl f))] := hD
  refine lv_iload hx hb d_X0_planFinish_13 (lv_at hl 3 rfl) ?_
  refine lv_bipush (v := 14) hx hb d_X0_planFinish_15 (by decide) ?_
  refine lv_icmp_ge (tgt := 85) hx hb d_X0_planFinish_17 (by decide) (fun h4 => ?_) (fun h4 => ?_)
  · have hiN : i = 14 := Nat.le_antisymm hi ((nI_leI (a := 14) (b := i) (by decide) (by omega)).mp h4)
    subst hiN
    have hlen : L.length = 14 := Nat.le_antisymm (List.drop_eq_nil_iff.mp hdr) hiL
    refine lv_bipush (v := 14) hx hb d_X0_planFinish_85 (by decide) ?_
    exact W.iret (v := 14) hx hb hr (fun t ht hW => ⟨⟨_, f, rfl, ⟨by rw [hlen]; rfl, by rw [hlen]; exact Nat.le_refl _, fun j h => hf j (by rw [hlen] at h; exact h)⟩, by rw [ht]; exact hP, va_K.moved hW.alike hK, hD⟩, hS.F ht⟩) hS.2.2 d_X0_planFinish_87
  · have hi4 : i < 14 := Nat.lt_of_not_le (fun z => h4 ((nI_leI (a := 14) (b := i) (by decide) (by omega)).mpr z))
    have hst : 14 - i = (14 - (i + 1)) + 1 := by omega
    rw [hst, td_plan_s] at hdr
    have hcl : (nI i).toNatClampNeg = i := nI_clamp (by omega)
    refine lv_lload_n hx hb d_X0_planFinish_20 rfl (lv_at hl 1 rfl) ?_
    refine lv_lload_n hx hb d_X0_planFinish_21 rfl (lv_at hl 2 rfl) ?_
    refine vp_callSi (W.runS (As := [.long a, .long b]) (rest := []) ⟨hx, hb, hml, hown, hts⟩ (m_X0_bestSquare l a b) (va_cwS 2 hts (tw_S ml_X0_115 st_X0_bestSquare in_X0 kw_X0_bestSquare) rfl rfl rfl (by decide +kernel) ⟨Nat.le_of_ble_eq_true rfl, Nat.le_of_ble_eq_true rfl⟩) ⟨fun _ _ _ _ q => q, fun U hU hW => ⟨rfl, trivial⟩⟩ rfl rfl hl.1 rfl (lv_room (Nat.le_of_ble_eq_true rfl)) d_X0_planFinish_22 ⟨Nat.zero_le _, Nat.zero_le _⟩) (fun r hq => ?_)
    subst hq
    refine lv_istore hx hb d_X0_planFinish_25 hl (by decide) rfl (fun ls hl => ?_)
    have hl : lv_has ls 13 [(6, .int (td_best a b)), (0, .ref o), (1, .long a), (3, .long b), (5, .int (nI i))] := hl
    refine lv_iload hx hb d_X0_planFinish_27 (lv_at hl 0 rfl) ?_
    refine lv_bipush (v := 65) hx hb d_X0_planFinish_29 (by decide) ?_
    refine lv_icmp_ne (tgt := 37) hx hb d_X0_planFinish_31 (by decide) (fun h5 => ?_) (fun h5 => ?_)
    · rw [if_neg h5] at hdr
      obtain ⟨c1, c2, c3, _⟩ := sc_dropC hdr
      generalize hq : td_best a b = q at hl c2 c3 h5
      have hl : lv_has ls 13 [(6, .int q), (0, .ref o), (1, .long a), (3, .long b), (5, .int (nI i))] := hl
      refine lv_aload_n hx hb d_X0_planFinish_37 rfl (lv_at hl 1 rfl) ?_
      refine va_get (D := D) (ci := 0) (v := .ref a3) (C := RX0) (T := TX0) (N := 7) hx hb hts usX0 hown hK hP 0 rfl rfl 6 (by decide) (hts _ fl_X0_17) (fun _ h9 => h9) rfl d_X0_planFinish_38 ?_
      refine lv_iload hx hb d_X0_planFinish_41 (lv_at hl 4 rfl) ?_
      refine lv_iload hx hb d_X0_planFinish_43 (lv_at hl 0 rfl) ?_
      refine va_iast hx hb hK hP hD hS 1 0 rfl rfl (vp_in_nI hi4 (by decide)) d_X0_planFinish_45 (fun H locs hP hD hS => ?_)
      have hu : upd f (nI i).toNatClampNeg q = (upd f i q) := by rw [hcl]
      have hP : va_P D tdC [(o, .inr (0, [.long x, .long y, .int pl, .int md, v4, v5, .ref a3])), (a3, .inl (cI, 14, .inl (upd f (nI i).toNatClampNeg q)))] H := hP
      have hD : va_D A [(o, .inr (0, [.long x, .long y, .int pl, .int md, v4, v5, .ref a3])), (a3, .inl (cI, 14, .inl (upd f (nI i).toNatClampNeg q)))] := hD
      rw [hu] at hP hD
      clear hu
      have hP : va_P D tdC [(o, .inr (0, [.long x, .long y, .int pl, .int md, v4, v5, .ref a3])), (a3, .inl (cI, 14, .inl (upd f i q)))] H := hP
      have hD : va_D A [(o, .inr (0, [.long x, .long y, .int pl, .int md, v4, v5, .ref a3])), (a3, .inl (cI, 14, .inl (upd f i q)))] := hD
      refine lv_iload hx hb d_X0_planFinish_46 (lv_at hl 0 rfl) ?_
      refine vp_callSl (W.runS (As := [.int q]) (rest := []) ⟨hx, hb, hml, hown, hts⟩ (m_X0_discOn l q) (va_cwS 1 hts (tw_S ml_X0_60 st_X0_discOn in_X0 kw_X0_discOn) rfl rfl rfl (by decide +kernel) ⟨Nat.le_of_ble_eq_true rfl, Nat.le_of_ble_eq_true rfl⟩) ⟨fun _ _ _ _ q => q, fun U hU hW => ⟨rfl, trivial⟩⟩ rfl rfl hl.1 rfl (lv_room (Nat.le_of_ble_eq_true rfl)) d_X0_planFinish_48 ⟨Nat.zero_le _, Nat.zero_le _⟩) (fun r h9 => ?_)
      subst h9
      refine lv_lstore hx hb d_X0_planFinish_51 hl (by decide) rfl (fun ls hl => ?_)
      have hl : lv_has ls 13 [(7, .long (td_on q)), (6, .int q), (0, .ref o), (1, .long a), (3, .long b), (5, .int (nI i))] := hl
      refine lv_lload_n hx hb d_X0_planFinish_53 rfl (lv_at hl 3 rfl) ?_
      refine lv_lload_n hx hb d_X0_planFinish_54 rfl (lv_at hl 4 rfl) ?_
      refine lv_lload hx hb d_X0_planFinish_55 (lv_at hl 0 rfl) ?_
      refine vp_callSl (W.runS (As := [.long a, .long b, .long (td_on q)]) (rest := []) ⟨hx, hb, hml, hown, hts⟩ (m_X0_turnedBy l a b (td_on q)) (va_cwS 3 hts (tw_S ml_X0_67 st_X0_turnedBy in_X0 kw_X0_turnedBy) rfl rfl rfl (by decide +kernel) ⟨Nat.le_of_ble_eq_true rfl, Nat.le_of_ble_eq_true rfl⟩) ⟨fun _ _ _ _ q => q, fun U hU hW => ⟨rfl, trivial⟩⟩ rfl rfl hl.1 rfl (lv_room (Nat.le_of_ble_eq_true rfl)) d_X0_planFinish_57 ⟨Nat.zero_le _, Nat.zero_le _⟩) (fun r h9 => ?_)
      subst h9
      refine lv_lstore hx hb d_X0_planFinish_60 hl (by decide) rfl (fun ls hl => ?_)
      have hl : lv_has ls 13 [(9, .long (td_turned a b (td_on q))), (7, .long (td_on q)), (6, .int q), (0, .ref o), (1, .long a), (3, .long b), (5, .int (nI i))] := hl
      refine lv_lload_n hx hb d_X0_planFinish_62 rfl (lv_at hl 5 rfl) ?_
      refine lv_lload hx hb d_X0_planFinish_63 (lv_at hl 0 rfl) ?_
      refine lv_lxor hx hb d_X0_planFinish_65 ?_
      refine lv_lstore hx hb d_X0_planFinish_66 hl (by decide) rfl (fun ls hl => ?_)
      have hl : lv_has ls 13 [(11, .long (b ^^^ (td_turned a b (td_on q)))), (9, .long (td_turned a b (td_on q))), (7, .long (td_on q)), (6, .int q), (0, .ref o), (1, .long a), (3, .long b), (5, .int (nI i))] := hl
      refine lv_lload_n hx hb d_X0_planFinish_68 rfl (lv_at hl 5 rfl) ?_
      refine lv_lload hx hb d_X0_planFinish_69 (lv_at hl 2 rfl) ?_
      refine lv_lor hx hb d_X0_planFinish_71 ?_
      refine lv_lload hx hb d_X0_planFinish_72 (lv_at hl 1 rfl) ?_
      refine lv_lor hx hb d_X0_planFinish_74 ?_
      refine lv_lstore_n hx hb d_X0_planFinish_75 rfl hl (by decide) rfl (fun ls hl => ?_)
      have hl : lv_has ls 13 [(3, .long ((a ||| (td_on q)) ||| (td_turned a b (td_on q)))), (11, .long (b ^^^ (td_turned a b (td_on q)))), (9, .long (td_turned a b (td_on q))), (7, .long (td_on q)), (6, .int q), (0, .ref o), (1, .long a), (5, .int (nI i))] := hl
      refine lv_lload hx hb d_X0_planFinish_76 (lv_at hl 1 rfl) ?_
      refine lv_lstore_n hx hb d_X0_planFinish_78 rfl hl (by decide) rfl (fun ls hl => ?_)
      have hl : lv_has ls 13 [(1, .long (b ^^^ (td_turned a b (td_on q)))), (3, .long ((a ||| (td_on q)) ||| (td_turned a b (td_on q)))), (11, .long (b ^^^ (td_turned a b (td_on q)))), (9, .long (td_turned a b (td_on q))), (7, .long (td_on q)), (6, .int q), (0, .ref o), (5, .int (nI i))] := hl
      refine lv_iinc (k := 7) (v := (nI (i + 1))) hx hb d_X0_planFinish_79 hl rfl ((nI_succ i).symm) (by decide) rfl (fun ls hl => ?_)
      have hl : lv_has ls 13 [(5, .int (nI (i + 1))), (1, .long (b ^^^ (td_turned a b (td_on q)))), (3, .long ((a ||| (td_on q)) ||| (td_turned a b (td_on q)))), (11, .long (b ^^^ (td_turned a b (td_on q)))), (9, .long (td_turned a b (td_on q))), (7, .long (td_on q)), (6, .int q), (0, .ref o)] := hl
      refine lv_goto (tgt := 13) hx hb d_X0_planFinish_82 (by decide) ?_
      have hl1 := lv_sub hl [7, 1, 2, 0] rfl
      exact ih (i + 1, td_nx a b q, td_ny a b q, upd f i q) _ _ _ (by show 14 - (i + 1) < 14 - i; omega) ⟨⟨hi4, c1, c3, fun j h => by
        by_cases hj : j = i
        · subst hj; show upd f j q j = _; rw [pk_us, c2]
        · show upd f i q j = _; rw [pk_un hj]; exact hf j (by omega)⟩, hP, hD, hS, hl1⟩
    · rw [if_pos h5] at hdr
      have hlen : L.length = i := Nat.le_antisymm (List.drop_eq_nil_iff.mp hdr) hiL
      refine lv_iload hx hb d_X0_planFinish_34 (lv_at hl 4 rfl) ?_
      exact W.iret (v := nI i) hx hb hr (fun t ht hW => ⟨⟨_, f, rfl, ⟨by rw [hlen], by omega, fun j h => hf j (by rw [hlen] at h; exact h)⟩, by rw [ht]; exact hP, va_K.moved hW.alike hK, hD⟩, hS.F ht⟩) hS.2.2 d_X0_planFinish_36
set_option maxHeartbeats 4000000 in
set_option maxRecDepth 100000 in
theorem m_X0_finish (l : Launch) (hfl : l.stackTraces = false) (D : va_G) (sz b0 : Nat) (hb0 : b0 ≤ sz) (o a1 a2 a3 : Nat) (cI cJ : ClassId) (S : tdS) (pn : Nat → Int32) (hba : ∀ q, va_A [(o, .inr (0, [.long (S.1), .long (S.2.1), .int (S.2.2.1), .int (nI S.2.2.2.1), .ref a1, .ref a2, .ref a3])), (a1, .inl (cI, 64, .inl S.2.2.2.2.1)), (a2, .inl (cJ, 64, .inr (.inl S.2.2.2.2.2))), (a3, .inl (cI, 14, .inl pn))] sz q → b0 ≤ q) (hk : S.2.2.2.1 ≤ 64) : vx_Met l y_X0_finish (k_X0_finish :: tw) ({ frames := 33, cells := 2, slots := 12, locals := 1042 }) (va_Pc [.ref o] (fun U => U.heap.size = sz ∧ va_P D tdC [(o, .inr (0, [.long (S.1), .long (S.2.1), .int (S.2.2.1), .int (nI S.2.2.2.1), .ref a1, .ref a2, .ref a3])), (a1, .inl (cI, 64, .inl S.2.2.2.2.1)), (a2, .inl (cJ, 64, .inr (.inl S.2.2.2.2.2))), (a3, .inl (cI, 14, .inl pn))] U.heap ∧ va_K D tdC [(cI, .int), (cJ, .long)] U ∧ va_D (fun _ => True) [(o, .inr (0, [.long (S.1), .long (S.2.1), .int (S.2.2.1), .int (nI S.2.2.2.1), .ref a1, .ref a2, .ref a3])), (a1, .inl (cI, 64, .inl S.2.2.2.2.1)), (a2, .inl (cJ, 64, .inr (.inl S.2.2.2.2.2))), (a3, .inl (cI, 14, .inl pn))] ∧ td_X b0 U)) (va_Qi (fun (r : Int32) (u : Nat → Int32) => td_few S.1 S.2.1 ∧ S.2.2.2.1 + (td_plan 14 S.1 S.2.1).length ≤ 64 ∧ r = nI (td_plan 14 S.1 S.2.1).length) (fun (u : Nat → Int32) t => va_P D tdC [(o, .inr (0, [.long ((td_mks (td_plan 14 S.1 S.2.1) S).1), .long ((td_mks (td_plan 14 S.1 S.2.1) S).2.1), .int ((td_mks (td_plan 14 S.1 S.2.1) S).2.2.1), .int (nI (td_mks (td_plan 14 S.1 S.2.1) S).2.2.2.1), .ref a1, .ref a2, .ref a3])), (a1, .inl (cI, 64, .inl ((td_mks (td_plan 14 S.1 S.2.1) S).2.2.2.2.1))), (a2, .inl (cJ, 64, .inr (.inl ((td_mks (td_plan 14 S.1 S.2.1) S).2.2.2.2.2)))), (a3, .inl (cI, 14, .inl u))] t.heap ∧ va_K D tdC [(cI, .int), (cJ, .long)] t ∧ va_D (va_A [(o, .inr (0, [.long (S.1), .long (S.2.1), .int (S.2.2.1), .int (nI S.2.2.2.1), .ref a1, .ref a2, .ref a3])), (a1, .inl (cI, 64, .inl S.2.2.2.2.1)), (a2, .inl (cJ, 64, .inr (.inl S.2.2.2.2.2))), (a3, .inl (cI, 14, .inl pn))] sz) [(o, .inr (0, [.long ((td_mks (td_plan 14 S.1 S.2.1) S).1), .long ((td_mks (td_plan 14 S.1 S.2.1) S).2.1), .int ((td_mks (td_plan 14 S.1 S.2.1) S).2.2.1), .int (nI (td_mks (td_plan 14 S.1 S.2.1) S).2.2.2.1), .ref a1, .ref a2, .ref a3])), (a1, .inl (cI, 64, .inl ((td_mks (td_plan 14 S.1 S.2.1) S).2.2.2.2.1))), (a2, .inl (cJ, 64, .inr (.inl ((td_mks (td_plan 14 S.1 S.2.1) S).2.2.2.2.2)))), (a3, .inl (cI, 14, .inl u))]) (va_A [(o, .inr (0, [.long (S.1), .long (S.2.1), .int (S.2.2.1), .int (nI S.2.2.2.1), .ref a1, .ref a2, .ref a3])), (a1, .inl (cI, 64, .inl S.2.2.2.2.1)), (a2, .inl (cJ, 64, .inr (.inl S.2.2.2.2.2))), (a3, .inl (cI, 14, .inl pn))] sz)) (vx_X (fun (u : Nat → Int32) => True) (fun E u t => (E = td_ise ∧ ¬ (td_few S.1 S.2.1 ∧ S.2.2.2.1 + (td_plan 14 S.1 S.2.1).length ≤ 64)) ∧ va_P D tdC [(o, .inr (0, [.long (S.1), .long (S.2.1), .int (S.2.2.1), .int (nI S.2.2.2.1), .ref a1, .ref a2, .ref a3])), (a1, .inl (cI, 64, .inl S.2.2.2.2.1)), (a2, .inl (cJ, 64, .inr (.inl S.2.2.2.2.2))), (a3, .inl (cI, 14, .inl u))] t.heap ∧ va_K D tdC [(cI, .int), (cJ, .long)] t ∧ va_D (va_A [(o, .inr (0, [.long (S.1), .long (S.2.1), .int (S.2.2.1), .int (nI S.2.2.2.1), .ref a1, .ref a2, .ref a3])), (a1, .inl (cI, 64, .inl S.2.2.2.2.1)), (a2, .inl (cJ, 64, .inr (.inl S.2.2.2.2.2))), (a3, .inl (cI, 14, .inl pn))] sz) [(o, .inr (0, [.long (S.1), .long (S.2.1), .int (S.2.2.1), .int (nI S.2.2.2.1), .ref a1, .ref a2, .ref a3])), (a1, .inl (cI, 64, .inl S.2.2.2.2.1)), (a2, .inl (cJ, 64, .inr (.inl S.2.2.2.2.2))), (a3, .inl (cI, 14, .inl u))]) (va_A [(o, .inr (0, [.long (S.1), .long (S.2.1), .int (S.2.2.1), .int (nI S.2.2.2.1), .ref a1, .ref a2, .ref a3])), (a1, .inl (cI, 64, .inl S.2.2.2.2.1)), (a2, .inl (cJ, 64, .inr (.inl S.2.2.2.2.2))), (a3, .inl (cI, 14, .inl pn))] sz)) 2 12 (va_A [(o, .inr (0, [.long (S.1), .long (S.2.1), .int (S.2.2.1), .int (nI S.2.2.2.1), .ref a1, .ref a2, .ref a3])), (a1, .inl (cI, 64, .inl S.2.2.2.2.1)), (a2, .inl (cJ, 64, .inr (.inl S.2.2.2.2.2))), (a3, .inl (cI, 14, .inl pn))] sz) := by
  refine vx_ofW (cc := c_X0_finish) (maxL := 3) (ret := (some .int)) (by decide) rfl ?_
  intro p e s m args below meth c s₁ B hml hno hv
  obtain ⟨rfl, hsz, hP, hK, hD0, hX⟩ := hv
  have hx := B.exec
  have hb := B.bytes
  have hr := B.returns
  have hts : ∀ w ∈ tw, w.before _ s = true := fun w h => atoms_spec (ws := k_X0_finish :: tw) B.pre w (List.mem_cons_of_mem _ h)
  have hown : s.vm.findClass RX0 = some m.cls := findClass_of_methodNamed B.named
  have hlocks := B.notSynchronized
  subst hsz
  have hD := hD0.self (sz := s.heap.size)
  generalize hAe : va_A [(o, .inr (0, [.long (S.1), .long (S.2.1), .int (S.2.2.1), .int (nI S.2.2.2.1), .ref a1, .ref a2, .ref a3])), (a1, .inl (cI, 64, .inl S.2.2.2.2.1)), (a2, .inl (cJ, 64, .inr (.inl S.2.2.2.2.2))), (a3, .inl (cI, 14, .inl pn))] s.heap.size = A at hD ⊢
  have hA : ∀ q : Nat, s.heap.size ≤ q → A q := fun q h => by rw [← hAe]; exact Or.inr h
  have hS : va_S A s.heap s.heap [] := va_S.rf
  have hP : va_P D tdC [(o, .inr (0, [.long (S.1), .long (S.2.1), .int (S.2.2.1), .int (nI S.2.2.2.1), .ref a1, .ref a2, .ref a3])), (a1, .inl (cI, 64, .inl S.2.2.2.2.1)), (a2, .inl (cJ, 64, .inr (.inl S.2.2.2.2.2))), (a3, .inl (cI, 14, .inl pn))] s.heap := hP
  have hl := lv_entry ([.ref o]) (n := 3) (Nat.le_of_ble_eq_true rfl)
  rw [lg_entry_eq]
  generalize (lg_sl ([.ref o]) ++ List.replicate (3 - (lg_sl ([.ref o])).length) Slot.unset).toArray = ls at hl ⊢
  have hl : lv_has ls 3 [(0, .ref o)] := hl
  rw [hAe] at hba
  have hS0 : va_S (fun q => s.heap.size ≤ q) s.heap s.heap [] := va_S.rf
  obtain ⟨x, y, pl, k, sq, tu⟩ := S
  dsimp only at hk hP hD hba hAe ⊢
  have hl : lv_has ls 3 [(0, .ref o)] := hl
  have hP : va_P D tdC [(o, .inr (0, [.long x, .long y, .int pl, .int (nI k), .ref a1, .ref a2, .ref a3])), (a1, .inl (cI, 64, .inl sq)), (a2, .inl (cJ, 64, .inr (.inl tu))), (a3, .inl (cI, 14, .inl pn))] s.heap := hP
  have hD : va_D A [(o, .inr (0, [.long x, .long y, .int pl, .int (nI k), .ref a1, .ref a2, .ref a3])), (a1, .inl (cI, 64, .inl sq)), (a2, .inl (cJ, 64, .inr (.inl tu))), (a3, .inl (cI, 14, .inl pn))] := hD
  have hX0 := hX
  refine lv_aload_n hx hb d_X0_finish_0 rfl (lv_at hl 0 rfl) ?_
  have hP1 := hP.sub (ws' := [(o, .inr (0, [.long x, .long y, .int pl, .int (nI k), .ref a1, .ref a2, .ref a3]))]) [0] rfl
  have hK1 := hK.sub (tys' := []) [] rfl
  refine vx_callv (vx_runV (b := o) (C := RX0) (As := []) (rest := []) ⟨hx, hb, hml, hown, hts⟩ (m_X0_requireFewEmpty l hfl D _ b0 (Nat.le_trans hb0 hS.1) o x y pl (nI k) (.ref a1) (.ref a2) (.ref a3)) (cwV 0 hts (tw_V ml_X0_108 im_X0_requireFewEmpty se_X0_requireFewEmpty in_X0 kw_X0_requireFewEmpty) rfl rfl rfl (by decide +kernel) ⟨Nat.le_of_ble_eq_true rfl, Nat.le_of_ble_eq_true rfl⟩) ⟨fun a U g mk q => ⟨q.1, q.2.1, q.2.2.1, va_K.moved (u := U) (U := U.calling g mk a) (Vm.Alike.refl U.vm) q.2.2.2.1, td_X.blind q.2.2.2.2⟩, va_recv (q0 := 0) (ci := 0) hK hP rfl rfl, fun U hU hW => ⟨rfl, by rw [hU], by rw [hU]; exact hP1, va_K.moved hW.alike hK1, td_X.at hX hW hU (fun q h1 h2 => hS.2.1 q h1 (fun z => Nat.not_le.mpr h2 (hba _ z)))⟩⟩ rfl rfl hl.1 rfl (lv_room (Nat.le_of_ble_eq_true rfl)) d_X0_finish_1 ⟨Nat.le_of_ble_eq_true rfl, Nat.le_of_ble_eq_true rfl⟩) hS (fun q h1 h2 => absurd h2 (Nat.not_le.mpr h1)) (fun q h => hA q (Nat.le_trans hS.1 h)) (fun q h1 h2 => absurd h2 (Nat.not_le.mpr h1)) (fun E ce q9 u0 t0 H1 locs ht hal hpx hB hz1 hk1 hS hce hcv hcl => ?_) (fun u0 t0 H1 locs ht hal hq hB hz1 hk1 hS => ?_)
  · exact vx_out (E := E) (fun x hx => (hno x hx).elim) hlocks hce hcv hcl (fun t ht hal => ⟨pn, trivial, ⟨⟨hB.1, fun z => hB.2 z.1⟩, by rw [ht]; exact td_keep hP hk1, va_K.moved hal hK, hD⟩, hS.F ht⟩) hS.2.2 (Nat.le_of_ble_eq_true rfl) (Nat.le_of_ble_eq_true rfl)
  · have hP := td_keep hP hk1
    clear ht hal hB hz1 hk1
    clear hP1
    refine lv_aload_n hx hb d_X0_finish_4 rfl (lv_at hl 0 rfl) ?_
    have hPc := hP.sub (ws' := [(o, .inr (0, [.long x, .long y, .int pl, .int (nI k), .ref a1, .ref a2, .ref a3])), (a3, .inl (cI, 14, .inl pn))]) [0, 3] rfl
    have hDc := hD.sub (ws' := [(o, .inr (0, [.long x, .long y, .int pl, .int (nI k), .ref a1, .ref a2, .ref a3])), (a3, .inl (cI, 14, .inl pn))]) [0, 3] (by decide) rfl
    have hKc := hK.sub (tys' := [(cI, .int)]) [0] rfl
    have hFc := va_free (wc := [(o, .inr (0, [.long x, .long y, .int pl, .int (nI k), .ref a1, .ref a2, .ref a3])), (a3, .inl (cI, 14, .inl pn))]) hD hS hA [0, 3] rfl
    refine va_calli (va_runV (b := o) (C := RX0) (As := []) (rest := []) ⟨hx, hb, hml, hown, hts⟩ (m_X0_planFinish l D _ o a3 cI x y pl (nI k) (.ref a1) (.ref a2) pn) (cwV 0 hts (tw_V ml_X0_118 im_X0_planFinish se_X0_planFinish in_X0 kw_X0_planFinish) rfl rfl rfl (by decide +kernel) ⟨Nat.le_of_ble_eq_true rfl, Nat.le_of_ble_eq_true rfl⟩) ⟨fun a U g mk q => ⟨q.1, q.2.1, q.2.2.1, va_K.moved (u := U) (U := U.calling g mk a) (Vm.Alike.refl U.vm) q.2.2.2.1, q.2.2.2.2⟩, va_recv (q0 := 0) (ci := 0) hK hP rfl rfl, fun U hU hW => ⟨rfl, by rw [hU], by rw [hU]; exact hPc, va_K.moved hW.alike hKc, hDc.weaken (fun _ _ _ _ => trivial)⟩⟩ rfl rfl hl.1 rfl (lv_room (Nat.le_of_ble_eq_true rfl)) d_X0_finish_5 ⟨Nat.le_of_ble_eq_true rfl, Nat.le_of_ble_eq_true rfl⟩) hS (fun q _ h => hFc q h) hFc (fun rr pn1 t0 H1 locs ht hvm hpf hB hz1 hk1 hS => ?_)
    obtain ⟨hP1, hK1, hD1⟩ := hB
    rw [ht] at hP1
    obtain ⟨hP, hD⟩ := va_join (wr := [(a1, .inl (cI, 64, .inl sq)), (a2, .inl (cJ, 64, .inr (.inl tu)))]) (w1 := [(o, .inr (0, [.long x, .long y, .int pl, .int (nI k), .ref a1, .ref a2, .ref a3])), (a3, .inl (cI, 14, .inl pn1))]) hP hD [0, 3] [1, 2] rfl rfl (by decide) (by decide) hk1 hFc hP1 hD1
    clear hPc hDc hKc hFc hP1 hK1 hD1 hk1 hz1
    have hP := hP.sub (ws' := [(o, .inr (0, [.long x, .long y, .int pl, .int (nI k), .ref a1, .ref a2, .ref a3])), (a1, .inl (cI, 64, .inl sq)), (a2, .inl (cJ, 64, .inr (.inl tu))), (a3, .inl (cI, 14, .inl pn1))]) [2, 0, 1, 3] rfl
    have hD := hD.sub (ws' := [(o, .inr (0, [.long x, .long y, .int pl, .int (nI k), .ref a1, .ref a2, .ref a3])), (a1, .inl (cI, 64, .inl sq)), (a2, .inl (cJ, 64, .inr (.inl tu))), (a3, .inl (cI, 14, .inl pn1))]) [2, 0, 1, 3] (by decide) rfl
    clear ht hvm
    generalize H1 = H at hP hS ⊢
    obtain ⟨hr1, hlen, hpn⟩ := hpf
    subst hr1
    generalize hL : td_plan 14 x y = L at hlen hpn ⊢
    refine lv_istore_n hx hb d_X0_finish_8 rfl hl (by decide) rfl (fun ls hl => ?_)
    have hl : lv_has ls 3 [(1, .int (nI L.length)), (0, .ref o)] := hl
    refine lv_aload_n hx hb d_X0_finish_9 rfl (lv_at hl 1 rfl) ?_
    refine va_get (D := D) (ci := 0) (v := .int (nI k)) (C := RX0) (T := TX0) (N := 7) hx hb hts usX0 hown hK hP 0 rfl rfl 3 (by decide) (hts _ fl_X0_81) (fun _ h9 => h9) rfl d_X0_finish_10 ?_
    refine lv_iload_n hx hb d_X0_finish_13 rfl (lv_at hl 0 rfl) ?_
    refine lv_iadd hx hb d_X0_finish_14 ?_
    refine td_i (y := (nI (k + L.length))) (nI_add k L.length) ?_
    refine lv_bipush (v := 64) hx hb d_X0_finish_15 (by decide) ?_
    refine lv_icmp_le (tgt := 30) hx hb d_X0_finish_17 (by decide) (fun h5 => ?_) (fun h5 => ?_)
    · have h6 : k + L.length ≤ 64 := (nI_leI (a := k + L.length) (b := 64) (by omega) (by omega)).mp h5
      refine lv_iconst (v := 0) hx hb d_X0_finish_30 (by decide) ?_
      refine lv_istore_n hx hb d_X0_finish_31 rfl hl (by decide) rfl (fun ls hl => ?_)
      have hl : lv_has ls 3 [(2, .int 0), (1, .int (nI L.length)), (0, .ref o)] := hl
      have hfin : td_mks (L.drop 0) (x, y, pl, k, sq, tu) = td_mks L (x, y, pl, k, sq, tu) := rfl
      generalize hF : td_mks L (x, y, pl, k, sq, tu) = F at hfin ⊢
      have hl0 := lv_sub hl [2, 1, 0] rfl
      refine td_loopH 32 [] (fun z : Nat × tdS => L.length - z.1) (fun z H locs ls => (z.1 ≤ L.length ∧ td_mks (L.drop z.1) z.2 = F ∧ z.2.2.2.2.1 + (L.length - z.1) ≤ 64) ∧ va_P D tdC [(o, .inr (0, [.long (z.2.1), .long (z.2.2.1), .int (z.2.2.2.1), .int (nI z.2.2.2.2.1), .ref a1, .ref a2, .ref a3])), (a1, .inl (cI, 64, .inl z.2.2.2.2.2.1)), (a2, .inl (cJ, 64, .inr (.inl z.2.2.2.2.2.2))), (a3, .inl (cI, 14, .inl pn1))] H ∧ va_D A [(o, .inr (0, [.long (z.2.1), .long (z.2.2.1), .int (z.2.2.2.1), .int (nI z.2.2.2.2.1), .ref a1, .ref a2, .ref a3])), (a1, .inl (cI, 64, .inl z.2.2.2.2.2.1)), (a2, .inl (cJ, 64, .inr (.inl z.2.2.2.2.2.2))), (a3, .inl (cI, 14, .inl pn1))] ∧ va_S A s.heap H locs ∧ lv_has ls 3 [(0, .ref o), (1, .int (nI L.length)), (2, .int (nI z.1))]) (fun z H locs ls hC ih => ?_) (0, (x, y, pl, k, sq, tu)) ⟨⟨Nat.zero_le _, hfin, h6⟩, hP, hD, hS, hl0⟩
      clear hl hl0 hP hD hS
      obtain ⟨hi, hP, hD, hS, hl⟩ := hC
      obtain ⟨i, x1, y1, pl1, k1, sq1, tu1⟩ := z
      obtain ⟨hi, hmk, hk1⟩ := hi
      dsimp only at hi hmk hk1
      have hl : lv_has ls 3 [(0, .ref o), (1, .int (nI L.length)), (2, .int (nI i))] := hl
      have hP : va_P D tdC [(o, .inr (0, [.long x1, .long y1, .int pl1, .int (nI k1), .ref a1, .ref a2, .ref a3])), (a1, .inl (cI, 64, .inl sq1)), (a2, .inl (cJ, 64, .inr (.inl tu1))), (a3, .inl (cI, 14, .inl pn1))] H := hP
      have hD : va_D A [(o, .inr (0, [.long x1, .long y1, .int pl1, .int (nI k1), .ref a1, .ref a2, .ref a3])), (a1, .inl (cI, 64, .inl sq1)), (a2, .inl (cJ, 64, .inr (.inl tu1))), (a3, .inl (cI, 14, .inl pn1))] := hD
      refine lv_iload_n hx hb d_X0_finish_32 rfl (lv_at hl 2 rfl) ?_
      refine lv_iload_n hx hb d_X0_finish_33 rfl (lv_at hl 1 rfl) ?_
      refine lv_icmp_ge (tgt := 54) hx hb d_X0_finish_34 (by decide) (fun h7 => ?_) (fun h7 => ?_)
      · have hiN : i = L.length := Nat.le_antisymm hi ((nI_leI (by omega) (by omega)).mp h7)
        rw [hiN, List.drop_length] at hmk
        have hmk : (x1, y1, pl1, k1, sq1, tu1) = F := hmk
        subst hmk
        refine lv_iload_n hx hb d_X0_finish_54 rfl (lv_at hl 1 rfl) ?_
        refine vx_ret (W.widen (k := 2) (n := 12) (Nat.le_of_ble_eq_true rfl) (Nat.le_of_ble_eq_true rfl) ?_)
        exact W.iret (v := (nI L.length)) hx hb hr (fun t ht hW => ⟨⟨_, pn1, rfl, ⟨hq, h6, rfl⟩, by rw [ht]; exact hP, va_K.moved hW.alike hK, hD⟩, hS.F ht⟩) hS.2.2 d_X0_finish_55
      · have hiN : i < L.length := Nat.lt_of_not_le (fun z => h7 ((nI_leI (by omega) (by omega)).mpr z))
        have hk4 : k1 < 64 := by omega
        have hcl : (nI i).toNatClampNeg = i := nI_clamp (by omega)
        have hdr : L.drop i = L.getD i 0 :: L.drop (i + 1) := by
          rw [List.drop_eq_getElem_cons hiN, List.getD_eq_getElem?_getD, List.getElem?_eq_getElem hiN]; rfl
        rw [hdr] at hmk
        have hmk : td_mks (L.drop (i + 1)) (td_mk (x1, y1, pl1, k1, sq1, tu1) (L.getD i 0)) = F := hmk
        refine lv_aload_n hx hb d_X0_finish_37 rfl (lv_at hl 0 rfl) ?_
        refine lv_aload_n hx hb d_X0_finish_38 rfl (lv_at hl 0 rfl) ?_
        refine va_get (D := D) (ci := 0) (v := .ref a3) (C := RX0) (T := TX0) (N := 7) hx hb hts usX0 hown hK hP 0 rfl rfl 6 (by decide) (hts _ fl_X0_17) (fun _ h9 => h9) rfl d_X0_finish_39 ?_
        refine lv_iload_n hx hb d_X0_finish_42 rfl (lv_at hl 2 rfl) ?_
        refine va_iald hx hb hK hP 3 0 rfl rfl (vp_in_nI (show i < 14 by omega) (by decide)) d_X0_finish_43 ?_
        refine td_i (y := (L.getD i 0)) (by rw [hcl]; exact hpn i hiN) ?_
        generalize hQ : L.getD i 0 = q1 at hmk ⊢
        have hPc := hP.sub (ws' := [(o, .inr (0, [.long x1, .long y1, .int pl1, .int (nI k1), .ref a1, .ref a2, .ref a3])), (a1, .inl (cI, 64, .inl sq1)), (a2, .inl (cJ, 64, .inr (.inl tu1)))]) [0, 1, 2] rfl
        have hDc := hD.sub (ws' := [(o, .inr (0, [.long x1, .long y1, .int pl1, .int (nI k1), .ref a1, .ref a2, .ref a3])), (a1, .inl (cI, 64, .inl sq1)), (a2, .inl (cJ, 64, .inr (.inl tu1)))]) [0, 1, 2] (by decide) rfl
        have hKc := hK.sub (tys' := [(cI, .int), (cJ, .long)]) [0, 1] rfl
        have hFc := va_free (wc := [(o, .inr (0, [.long x1, .long y1, .int pl1, .int (nI k1), .ref a1, .ref a2, .ref a3])), (a1, .inl (cI, 64, .inl sq1)), (a2, .inl (cJ, 64, .inr (.inl tu1)))]) hD hS hA [0, 1, 2] rfl
        refine va_calli (va_runV (b := o) (C := RX0) (As := [.int q1]) (rest := []) ⟨hx, hb, hml, hown, hts⟩ (m_X0_make l D _ o a1 a2 cI cJ x1 y1 pl1 k1 hk4 (.ref a3) sq1 tu1 q1) (cwV 1 hts (tw_V ml_X0_89 im_X0_make se_X0_make in_X0 kw_X0_make) rfl rfl rfl (by decide +kernel) ⟨Nat.le_of_ble_eq_true rfl, Nat.le_of_ble_eq_true rfl⟩) ⟨fun a U g mk q => ⟨q.1, q.2.1, q.2.2.1, va_K.moved (u := U) (U := U.calling g mk a) (Vm.Alike.refl U.vm) q.2.2.2.1, q.2.2.2.2⟩, va_recv (q0 := 0) (ci := 0) hK hP rfl rfl, fun U hU hW => ⟨rfl, by rw [hU], by rw [hU]; exact hPc, va_K.moved hW.alike hKc, hDc.weaken (fun _ _ _ _ => trivial)⟩⟩ rfl rfl hl.1 rfl (lv_room (Nat.le_of_ble_eq_true rfl)) d_X0_finish_44 ⟨Nat.le_of_ble_eq_true rfl, Nat.le_of_ble_eq_true rfl⟩) hS (fun q _ h => hFc q h) hFc (fun r9 u0 t0 H1 locs ht hvm _h9 hB hz1 hk1 hS => ?_)
        obtain ⟨hP1, hK1, hD1⟩ := hB
        rw [ht] at hP1
        obtain ⟨hP, hD⟩ := va_join (wr := [(a3, .inl (cI, 14, .inl pn1))]) (w1 := [(o, .inr (0, [.long (y1 ^^^ (td_turned x1 y1 (td_on q1))), .long ((x1 ||| td_on q1) ||| (td_turned x1 y1 (td_on q1))), .int (1 - pl1), .int (nI (k1 + 1)), .ref a1, .ref a2, .ref a3])), (a1, .inl (cI, 64, .inl (upd sq1 k1 q1))), (a2, .inl (cJ, 64, .inr (.inl (vp_updL tu1 k1 (td_turned x1 y1 (td_on q1))))))]) hP hD [0, 1, 2] [3] rfl rfl (by decide) (by decide) hk1 hFc hP1 hD1
        clear hPc hDc hKc hFc hP1 hK1 hD1 hk1 hz1
        have hP := hP.sub (ws' := [(o, .inr (0, [.long (y1 ^^^ (td_turned x1 y1 (td_on q1))), .long ((x1 ||| td_on q1) ||| (td_turned x1 y1 (td_on q1))), .int (1 - pl1), .int (nI (k1 + 1)), .ref a1, .ref a2, .ref a3])), (a1, .inl (cI, 64, .inl (upd sq1 k1 q1))), (a2, .inl (cJ, 64, .inr (.inl (vp_updL tu1 k1 (td_turned x1 y1 (td_on q1)))))), (a3, .inl (cI, 14, .inl pn1))]) [1, 2, 3, 0] rfl
        have hD := hD.sub (ws' := [(o, .inr (0, [.long (y1 ^^^ (td_turned x1 y1 (td_on q1))), .long ((x1 ||| td_on q1) ||| (td_turned x1 y1 (td_on q1))), .int (1 - pl1), .int (nI (k1 + 1)), .ref a1, .ref a2, .ref a3])), (a1, .inl (cI, 64, .inl (upd sq1 k1 q1))), (a2, .inl (cJ, 64, .inr (.inl (vp_updL tu1 k1 (td_turned x1 y1 (td_on q1)))))), (a3, .inl (cI, 14, .inl pn1))]) [1, 2, 3, 0] (by decide) rfl
        clear ht hvm
        generalize H1 = H at hP hS ⊢
        refine lv_pop hx hb d_X0_finish_47 rfl ?_
        refine lv_iinc (k := 2) (v := (nI (i + 1))) hx hb d_X0_finish_48 hl rfl ((nI_succ i).symm) (by decide) rfl (fun ls hl => ?_)
        have hl : lv_has ls 3 [(2, .int (nI (i + 1))), (0, .ref o), (1, .int (nI L.length))] := hl
        refine lv_goto (tgt := 32) hx hb d_X0_finish_51 (by decide) ?_
        have hl1 := lv_sub hl [1, 2, 0] rfl
        exact ih (i + 1, td_mk (x1, y1, pl1, k1, sq1, tu1) q1) _ _ _ (by show L.length - (i + 1) < L.length - i; omega) ⟨⟨hiN, hmk, by show k1 + 1 + (L.length - (i + 1)) ≤ 64; omega⟩, hP, hD, hS, hl1⟩
    · have h6 : ¬ k + L.length ≤ 64 := fun z => h5 ((nI_leI (a := k + L.length) (b := 64) (by omega) (by omega)).mpr z)
      obtain ⟨sa, hsa⟩ := hX0.2.2.2.2.2.2.2.2 (122, "the row would be too long") (List.mem_of_getElem? (i := 8) rfl)
      exact vx_throwS (own := RX0) (cls := td_ise) (text := "the row would be too long") (names := td_names) (ik := 84) (is := 122) (ic := 88) (A := A) hx hb hfl hown (by decide +kernel) (by decide +kernel) (hts _ cl_X0_84) (hts _ in_ise) hsa (td_hat_ise hts hX0) hg_ise (hX0.1.narrow hba) (hX0.2.1.narrow hba) hS (by rw [hml]; exact hl.1) d_X0_finish_20 d_X0_finish_23 d_X0_finish_24 d_X0_finish_26 d_X0_finish_29 (fun x hx => (hno x hx).elim) (Nat.le_of_ble_eq_true rfl) (Nat.le_of_ble_eq_true rfl) (Nat.le_of_ble_eq_true rfl) (Nat.le_of_ble_eq_true rfl) hlocks (fun t hal hz hq9 => ⟨pn1, trivial, ⟨⟨rfl, fun z => h6 z.2⟩, va_P.kept hP (fun i q h => hq9 q.1 (hP i q h).lt), va_K.moved hal hK, hD⟩, Nat.le_trans hS.1 hz, fun q h1 h2 => (hq9 q (Nat.lt_of_lt_of_le h1 hS.1)).trans (hS.2.1 q h1 h2)⟩) hS.2.2 (Nat.le_of_ble_eq_true rfl) (Nat.le_of_ble_eq_true rfl)
