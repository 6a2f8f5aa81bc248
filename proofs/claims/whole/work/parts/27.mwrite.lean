/-! the reference's writers -/
def td_sw (f g : Nat → Int32) (i : Nat) : Nat → Int32 := fun k => if k < i then f k else g k
theorem td_sw_0 (f g : Nat → Int32) : td_sw f g 0 = g := by
  funext k; unfold td_sw; rw [if_neg (Nat.not_lt_zero k)]
theorem td_sw_s {f g : Nat → Int32} {i : Nat} {x : Int32} (h : x = f i) : upd (td_sw f g i) i x = td_sw f g (i + 1) := by
  subst h
  funext k
  by_cases hk : k = i
  · subst hk; rw [pk_us]; unfold td_sw; rw [if_pos (Nat.lt_succ_self _)]
  · rw [pk_un hk]; unfold td_sw
    by_cases h1 : k < i
    · rw [if_pos h1, if_pos (by omega)]
    · rw [if_neg h1, if_neg (by omega)]
theorem td_sw_at (f g : Nat → Int32) (i : Nat) : td_sw f g i i = g i := by unfold td_sw; rw [if_neg (Nat.lt_irrefl i)]
def td_laid (ce : Nat → Int32) : Nat → Int32 := upd (upd (upd (upd (td_sw (fun _ => 0) ce 64) 28 1) 35 1) 27 2) 36 2
def td_bset (u v : Int64) (q : Int32) : Int32 := if ¬ (u &&& v) = 0 ∨ q < 0 ∨ 1 < q then 1 else 0
def td_b1 (z : Int64) (i : Nat) : Prop := (td_lshr z (nI i) &&& 1) = 1
def td_bv (z : Int64) (i : Nat) : Bool := decide ((td_lshr z (nI i) &&& 1) = 1)
def td_setc (u v : Int64) : Nat → Int32 := fun i => if td_bv u i then 1 else if td_bv v i then 2 else 0
/-- cells, movers, row, turned, made -/
abbrev tdM : Type := (Nat → Int32) × (Nat → Int32) × (Nat → Int32) × (Nat → Int64) × Nat
def td_pset (M : tdM) (s0 : Nat) : Int64 := if s0 = 64 then 0 else td_fl (td_lv M.1 0) (M.2.1 0) s0
def td_putc (ce : Nat → Int32) (who : Int32) (s0 : Nat) (z : Int64) : Nat → Int32 := fun i => if i = s0 ∨ td_bv z i = true then who + 1 else ce i
def td_put (M : tdM) (s0 : Nat) : tdM := (td_sw (td_putc M.1 (M.2.1 0) s0 (td_pset M s0)) M.1 64, upd M.2.1 0 (1 - M.2.1 0), upd M.2.2.1 M.2.2.2.2 (nI s0), vp_updL M.2.2.2.1 M.2.2.2.2 (td_pset M s0), M.2.2.2.2 + 1)
def td_bkc (ce : Nat → Int32) (who sq : Int32) (z : Int64) : Nat → Int32 := fun i => if td_bv z i then 2 - who else if nI i = sq then 0 else ce i
def td_bk (M : tdM) : tdM := (td_sw (td_bkc M.1 (1 - M.2.1 0) (M.2.2.1 (M.2.2.2.2 - 1)) (M.2.2.2.1 (M.2.2.2.2 - 1))) M.1 64, upd M.2.1 0 (1 - M.2.1 0), M.2.2.1, M.2.2.2.1, M.2.2.2.2 - 1)
set_option maxHeartbeats 4000000 in
set_option maxRecDepth 100000 in
theorem m_X1_lay (l : Launch) (D : va_G) (sz : Nat) (o : Nat) (q : Nat → Nat) (th md ch sc : Int32) (cI : ClassId) (ce mv : Nat → Int32) : Met l y_X1_lay (k_X1_lay :: tw) ({ frames := 0, cells := 0, slots := 0, locals := 0 }) (va_Pc [.ref o] (fun U => U.heap.size = sz ∧ va_P D tdC [(o, .inr (1, [.int th, .ref (q 1), .ref (q 2), .ref (q 3), .ref (q 4), .int md, .ref (q 6), .ref (q 7), .ref (q 8), .ref (q 9), .int ch, .ref (q 11), .int sc, .ref (q 13)])), ((q 1), .inl (cI, 1216, .inl ce)), ((q 2), .inl (cI, 19, .inl mv))] U.heap ∧ va_K D tdC [(cI, .int)] U ∧ va_D (fun _ => True) [(o, .inr (1, [.int th, .ref (q 1), .ref (q 2), .ref (q 3), .ref (q 4), .int md, .ref (q 6), .ref (q 7), .ref (q 8), .ref (q 9), .int ch, .ref (q 11), .int sc, .ref (q 13)])), ((q 1), .inl (cI, 1216, .inl ce)), ((q 2), .inl (cI, 19, .inl mv))])) (va_Qv (fun (_ : Unit) => True) (fun (_ : Unit) t => va_P D tdC [(o, .inr (1, [.int th, .ref (q 1), .ref (q 2), .ref (q 3), .ref (q 4), .int 0, .ref (q 6), .ref (q 7), .ref (q 8), .ref (q 9), .int ch, .ref (q 11), .int sc, .ref (q 13)])), ((q 1), .inl (cI, 1216, .inl (td_laid ce))), ((q 2), .inl (cI, 19, .inl (upd mv 0 0)))] t.heap ∧ va_K D tdC [(cI, .int)] t ∧ va_D (va_A [(o, .inr (1, [.int th, .ref (q 1), .ref (q 2), .ref (q 3), .ref (q 4), .int md, .ref (q 6), .ref (q 7), .ref (q 8), .ref (q 9), .int ch, .ref (q 11), .int sc, .ref (q 13)])), ((q 1), .inl (cI, 1216, .inl ce)), ((q 2), .inl (cI, 19, .inl mv))] sz) [(o, .inr (1, [.int th, .ref (q 1), .ref (q 2), .ref (q 3), .ref (q 4), .int 0, .ref (q 6), .ref (q 7), .ref (q 8), .ref (q 9), .int ch, .ref (q 11), .int sc, .ref (q 13)])), ((q 1), .inl (cI, 1216, .inl (td_laid ce))), ((q 2), .inl (cI, 19, .inl (upd mv 0 0)))]) (va_A [(o, .inr (1, [.int th, .ref (q 1), .ref (q 2), .ref (q 3), .ref (q 4), .int md, .ref (q 6), .ref (q 7), .ref (q 8), .ref (q 9), .int ch, .ref (q 11), .int sc, .ref (q 13)])), ((q 1), .inl (cI, 1216, .inl ce)), ((q 2), .inl (cI, 19, .inl mv))] sz)) 0 0 (va_A [(o, .inr (1, [.int th, .ref (q 1), .ref (q 2), .ref (q 3), .ref (q 4), .int md, .ref (q 6), .ref (q 7), .ref (q 8), .ref (q 9), .int ch, .ref (q 11), .int sc, .ref (q 13)])), ((q 1), .inl (cI, 1216, .inl ce)), ((q 2), .inl (cI, 19, .inl mv))] sz) := by
  refine Met.ofW (cc := c_X1_lay) (maxL := 2) (ret := none) (by decide) rfl ?_
  intro p e s m args below meth c s₁ B hml hv
  obtain ⟨rfl, hsz, hP, hK, hD0⟩ := hv
  have hx := B.exec
  have hb := B.bytes
  have hr := B.returns
  have hts : ∀ w ∈ tw, w.before _ s = true := fun w h => atoms_spec (ws := k_X1_lay :: tw) B.pre w (List.mem_cons_of_mem _ h)
  have hown : s.vm.findClass RX1 = some m.cls := findClass_of_methodNamed B.named
  have hlocks := B.notSynchronized
  subst hsz
  have hD := hD0.self (sz := s.heap.size)
  generalize hAe : va_A [(o, .inr (1, [.int th, .ref (q 1), .ref (q 2), .ref (q 3), .ref (q 4), .int md, .ref (q 6), .ref (q 7), .ref (q 8), .ref (q 9), .int ch, .ref (q 11), .int sc, .ref (q 13)])), ((q 1), .inl (cI, 1216, .inl ce)), ((q 2), .inl (cI, 19, .inl mv))] s.heap.size = A at hD ⊢
  have hA : ∀ q : Nat, s.heap.size ≤ q → A q := fun q h => by rw [← hAe]; exact Or.inr h
  have hS : va_S A s.heap s.heap [] := va_S.rf
  have hP : va_P D tdC [(o, .inr (1, [.int th, .ref (q 1), .ref (q 2), .ref (q 3), .ref (q 4), .int md, .ref (q 6), .ref (q 7), .ref (q 8), .ref (q 9), .int ch, .ref (q 11), .int sc, .ref (q 13)])), ((q 1), .inl (cI, 1216, .inl ce)), ((q 2), .inl (cI, 19, .inl mv))] s.heap := hP
  have hl := lv_entry ([.ref o]) (n := 2) (Nat.le_of_ble_eq_true rfl)
  rw [lg_entry_eq]
  generalize (lg_sl ([.ref o]) ++ List.replicate (2 - (lg_sl ([.ref o])).length) Slot.unset).toArray = ls at hl ⊢
  have hl : lv_has ls 2 [(0, .ref o)] := hl
  refine lv_iconst (v := 0) hx hb d_X1_lay_0 (by decide) ?_
  refine lv_istore_n hx hb d_X1_lay_1 rfl hl (by decide) rfl (fun ls hl => ?_)
  have hl : lv_has ls 2 [(1, .int 0), (0, .ref o)] := hl
  rw [← td_sw_0 (fun _ => 0) ce] at hP hD
  have hl0 := lv_sub hl [1, 0] rfl
  refine td_loopH 2 [] (fun i : Nat => 64 - i) (fun i H locs ls => i ≤ 64 ∧ va_P D tdC [(o, .inr (1, [.int th, .ref (q 1), .ref (q 2), .ref (q 3), .ref (q 4), .int md, .ref (q 6), .ref (q 7), .ref (q 8), .ref (q 9), .int ch, .ref (q 11), .int sc, .ref (q 13)])), ((q 1), .inl (cI, 1216, .inl (td_sw (fun _ => 0) ce i))), ((q 2), .inl (cI, 19, .inl mv))] H ∧ va_D A [(o, .inr (1, [.int th, .ref (q 1), .ref (q 2), .ref (q 3), .ref (q 4), .int md, .ref (q 6), .ref (q 7), .ref (q 8), .ref (q 9), .int ch, .ref (q 11), .int sc, .ref (q 13)])), ((q 1), .inl (cI, 1216, .inl (td_sw (fun _ => 0) ce i))), ((q 2), .inl (cI, 19, .inl mv))] ∧ va_S A s.heap H locs ∧ lv_has ls 2 [(0, .ref o), (1, .int (nI i))]) (fun i H locs ls hC ih => ?_) 0 ⟨Nat.zero_le _, hP, hD, hS, hl0⟩
  clear hl hl0 hP hD hS
  obtain ⟨hi, hP, hD, hS, hl⟩ := hC
  have hl : lv_has ls 2 [(0, .ref o), (1, .int (nI i))] := hl
  have hP : va_P D tdC [(o, .inr (1, [.int th, .ref (q 1), .ref (q 2), .ref (q 3), .ref (q 4), .int md, .ref (q 6), .ref (q 7), .ref (q 8), .ref (q 9), .int ch, .ref (q 11), .int sc, .ref (q 13)])), ((q 1), .inl (cI, 1216, .inl (td_sw (fun _ => 0) ce i))), ((q 2), .inl (cI, 19, .inl mv))] H := hP
  have hD : va_D A [(o, .inr (1, [.int th, .ref (q 1), .ref (q 2), .ref (q 3), .ref (q 4), .int md, .ref (q 6), .ref (q 7), .ref (q 8), .ref (q 9), .int ch, .ref (q 11), .int sc, .ref (q 13)])), ((q 1), .inl (cI, 1216, .inl (td_sw (fun _ => 0) ce i))), ((q 2), .inl (cI, 19, .inl mv))] := hD
  refine lv_iload_n hx hb d_X1_lay_2 rfl (lv_at hl 1 rfl) ?_
  refine lv_bipush (v := 64) hx hb d_X1_lay_3 (by decide) ?_
  refine lv_icmp_ge (tgt := 21) hx hb d_X1_lay_5 (by decide) (fun h1 => ?_) (fun h1 => ?_)
  · have h64 : i = 64 := Nat.le_antisymm hi ((nI_leI (a := 64) (b := i) (by decide) (by omega)).mp h1)
    subst h64
    refine lv_aload_n hx hb d_X1_lay_21 rfl (lv_at hl 0 rfl) ?_
    refine va_get (D := D) (ci := 1) (v := .ref (q 1)) (C := RX1) (T := TX1) (N := 14) hx hb hts usX1 hown hK hP 0 rfl rfl 1 (by decide) (hts _ fl_X1_7) (fun _ h9 => h9) rfl d_X1_lay_22 ?_
    refine lv_bipush (v := 28) hx hb d_X1_lay_25 (by decide) ?_
    refine lv_iconst (v := 1) hx hb d_X1_lay_27 (by decide) ?_
    refine va_iast hx hb hK hP hD hS 1 0 rfl rfl (vp_in_nI (n := 28) (by decide) (by decide)) d_X1_lay_28 (fun H locs hP hD hS => ?_)
    have hu : upd (td_sw (fun _ => 0) ce 64) (28 : Int32).toNatClampNeg 1 = (upd (td_sw (fun _ => 0) ce 64) 28 1) := rfl
    have hP : va_P D tdC [(o, .inr (1, [.int th, .ref (q 1), .ref (q 2), .ref (q 3), .ref (q 4), .int md, .ref (q 6), .ref (q 7), .ref (q 8), .ref (q 9), .int ch, .ref (q 11), .int sc, .ref (q 13)])), ((q 1), .inl (cI, 1216, .inl (upd (td_sw (fun _ => 0) ce 64) (28 : Int32).toNatClampNeg 1))), ((q 2), .inl (cI, 19, .inl mv))] H := hP
    have hD : va_D A [(o, .inr (1, [.int th, .ref (q 1), .ref (q 2), .ref (q 3), .ref (q 4), .int md, .ref (q 6), .ref (q 7), .ref (q 8), .ref (q 9), .int ch, .ref (q 11), .int sc, .ref (q 13)])), ((q 1), .inl (cI, 1216, .inl (upd (td_sw (fun _ => 0) ce 64) (28 : Int32).toNatClampNeg 1))), ((q 2), .inl (cI, 19, .inl mv))] := hD
    rw [hu] at hP hD
    clear hu
    have hP : va_P D tdC [(o, .inr (1, [.int th, .ref (q 1), .ref (q 2), .ref (q 3), .ref (q 4), .int md, .ref (q 6), .ref (q 7), .ref (q 8), .ref (q 9), .int ch, .ref (q 11), .int sc, .ref (q 13)])), ((q 1), .inl (cI, 1216, .inl (upd (td_sw (fun _ => 0) ce 64) 28 1))), ((q 2), .inl (cI, 19, .inl mv))] H := hP
    have hD : va_D A [(o, .inr (1, [.int th, .ref (q 1), .ref (q 2), .ref (q 3), .ref (q 4), .int md, .ref (q 6), .ref (q 7), .ref (q 8), .ref (q 9), .int ch, .ref (q 11), .int sc, .ref (q 13)])), ((q 1), .inl (cI, 1216, .inl (upd (td_sw (fun _ => 0) ce 64) 28 1))), ((q 2), .inl (cI, 19, .inl mv))] := hD
    refine lv_aload_n hx hb d_X1_lay_29 rfl (lv_at hl 0 rfl) ?_
    refine va_get (D := D) (ci := 1) (v := .ref (q 1)) (C := RX1) (T := TX1) (N := 14) hx hb hts usX1 hown hK hP 0 rfl rfl 1 (by decide) (hts _ fl_X1_7) (fun _ h9 => h9) rfl d_X1_lay_30 ?_
    refine lv_bipush (v := 35) hx hb d_X1_lay_33 (by decide) ?_
    refine lv_iconst (v := 1) hx hb d_X1_lay_35 (by decide) ?_
    refine va_iast hx hb hK hP hD hS 1 0 rfl rfl (vp_in_nI (n := 35) (by decide) (by decide)) d_X1_lay_36 (fun H locs hP hD hS => ?_)
    have hu : upd (upd (td_sw (fun _ => 0) ce 64) 28 1) (35 : Int32).toNatClampNeg 1 = (upd (upd (td_sw (fun _ => 0) ce 64) 28 1) 35 1) := rfl
    have hP : va_P D tdC [(o, .inr (1, [.int th, .ref (q 1), .ref (q 2), .ref (q 3), .ref (q 4), .int md, .ref (q 6), .ref (q 7), .ref (q 8), .ref (q 9), .int ch, .ref (q 11), .int sc, .ref (q 13)])), ((q 1), .inl (cI, 1216, .inl (upd (upd (td_sw (fun _ => 0) ce 64) 28 1) (35 : Int32).toNatClampNeg 1))), ((q 2), .inl (cI, 19, .inl mv))] H := hP
    have hD : va_D A [(o, .inr (1, [.int th, .ref (q 1), .ref (q 2), .ref (q 3), .ref (q 4), .int md, .ref (q 6), .ref (q 7), .ref (q 8), .ref (q 9), .int ch, .ref (q 11), .int sc, .ref (q 13)])), ((q 1), .inl (cI, 1216, .inl (upd (upd (td_sw (fun _ => 0) ce 64) 28 1) (35 : Int32).toNatClampNeg 1))), ((q 2), .inl (cI, 19, .inl mv))] := hD
    rw [hu] at hP hD
    clear hu
    have hP : va_P D tdC [(o, .inr (1, [.int th, .ref (q 1), .ref (q 2), .ref (q 3), .ref (q 4), .int md, .ref (q 6), .ref (q 7), .ref (q 8), .ref (q 9), .int ch, .ref (q 11), .int sc, .ref (q 13)])), ((q 1), .inl (cI, 1216, .inl (upd (upd (td_sw (fun _ => 0) ce 64) 28 1) 35 1))), ((q 2), .inl (cI, 19, .inl mv))] H := hP
    have hD : va_D A [(o, .inr (1, [.int th, .ref (q 1), .ref (q 2), .ref (q 3), .ref (q 4), .int md, .ref (q 6), .ref (q 7), .ref (q 8), .ref (q 9), .int ch, .ref (q 11), .int sc, .ref (q 13)])), ((q 1), .inl (cI, 1216, .inl (upd (upd (td_sw (fun _ => 0) ce 64) 28 1) 35 1))), ((q 2), .inl (cI, 19, .inl mv))] := hD
    refine lv_aload_n hx hb d_X1_lay_37 rfl (lv_at hl 0 rfl) ?_
    refine va_get (D := D) (ci := 1) (v := .ref (q 1)) (C := RX1) (T := TX1) (N := 14) hx hb hts usX1 hown hK hP 0 rfl rfl 1 (by decide) (hts _ fl_X1_7) (fun _ h9 => h9) rfl d_X1_lay_38 ?_
    refine lv_bipush (v := 27) hx hb d_X1_lay_41 (by decide) ?_
    refine lv_iconst (v := 2) hx hb d_X1_lay_43 (by decide) ?_
    refine va_iast hx hb hK hP hD hS 1 0 rfl rfl (vp_in_nI (n := 27) (by decide) (by decide)) d_X1_lay_44 (fun H locs hP hD hS => ?_)
    have hu : upd (upd (upd (td_sw (fun _ => 0) ce 64) 28 1) 35 1) (27 : Int32).toNatClampNeg 2 = (upd (upd (upd (td_sw (fun _ => 0) ce 64) 28 1) 35 1) 27 2) := rfl
    have hP : va_P D tdC [(o, .inr (1, [.int th, .ref (q 1), .ref (q 2), .ref (q 3), .ref (q 4), .int md, .ref (q 6), .ref (q 7), .ref (q 8), .ref (q 9), .int ch, .ref (q 11), .int sc, .ref (q 13)])), ((q 1), .inl (cI, 1216, .inl (upd (upd (upd (td_sw (fun _ => 0) ce 64) 28 1) 35 1) (27 : Int32).toNatClampNeg 2))), ((q 2), .inl (cI, 19, .inl mv))] H := hP
    have hD : va_D A [(o, .inr (1, [.int th, .ref (q 1), .ref (q 2), .ref (q 3), .ref (q 4), .int md, .ref (q 6), .ref (q 7), .ref (q 8), .ref (q 9), .int ch, .ref (q 11), .int sc, .ref (q 13)])), ((q 1), .inl (cI, 1216, .inl (upd (upd (upd (td_sw (fun _ => 0) ce 64) 28 1) 35 1) (27 : Int32).toNatClampNeg 2))), ((q 2), .inl (cI, 19, .inl mv))] := hD
    rw [hu] at hP hD
    clear hu
    have hP : va_P D tdC [(o, .inr (1, [.int th, .ref (q 1), .ref (q 2), .ref (q 3), .ref (q 4), .int md, .ref (q 6), .ref (q 7), .ref (q 8), .ref (q 9), .int ch, .ref (q 11), .int sc, .ref (q 13)])), ((q 1), .inl (cI, 1216, .inl (upd (upd (upd (td_sw (fun _ => 0) ce 64) 28 1) 35 1) 27 2))), ((q 2), .inl (cI, 19, .inl mv))] H := hP
    have hD : va_D A [(o, .inr (1, [.int th, .ref (q 1), .ref (q 2), .ref (q 3), .ref (q 4), .int md, .ref (q 6), .ref (q 7), .ref (q 8), .ref (q 9), .int ch, .ref (q 11), .int sc, .ref (q 13)])), ((q 1), .inl (cI, 1216, .inl (upd (upd (upd (td_sw (fun _ => 0) ce 64) 28 1) 35 1) 27 2))), ((q 2), .inl (cI, 19, .inl mv))] := hD
    refine lv_aload_n hx hb d_X1_lay_45 rfl (lv_at hl 0 rfl) ?_
    refine va_get (D := D) (ci := 1) (v := .ref (q 1)) (C := RX1) (T := TX1) (N := 14) hx hb hts usX1 hown hK hP 0 rfl rfl 1 (by decide) (hts _ fl_X1_7) (fun _ h9 => h9) rfl d_X1_lay_46 ?_
    refine lv_bipush (v := 36) hx hb d_X1_lay_49 (by decide) ?_
    refine lv_iconst (v := 2) hx hb d_X1_lay_51 (by decide) ?_
    refine va_iast hx hb hK hP hD hS 1 0 rfl rfl (vp_in_nI (n := 36) (by decide) (by decide)) d_X1_lay_52 (fun H locs hP hD hS => ?_)
    have hu : upd (upd (upd (upd (td_sw (fun _ => 0) ce 64) 28 1) 35 1) 27 2) (36 : Int32).toNatClampNeg 2 = (upd (upd (upd (upd (td_sw (fun _ => 0) ce 64) 28 1) 35 1) 27 2) 36 2) := rfl
    have hP : va_P D tdC [(o, .inr (1, [.int th, .ref (q 1), .ref (q 2), .ref (q 3), .ref (q 4), .int md, .ref (q 6), .ref (q 7), .ref (q 8), .ref (q 9), .int ch, .ref (q 11), .int sc, .ref (q 13)])), ((q 1), .inl (cI, 1216, .inl (upd (upd (upd (upd (td_sw (fun _ => 0) ce 64) 28 1) 35 1) 27 2) (36 : Int32).toNatClampNeg 2))), ((q 2), .inl (cI, 19, .inl mv))] H := hP
    have hD : va_D A [(o, .inr (1, [.int th, .ref (q 1), .ref (q 2), .ref (q 3), .ref (q 4), .int md, .ref (q 6), .ref (q 7), .ref (q 8), .ref (q 9), .int ch, .ref (q 11), .int sc, .ref (q 13)])), ((q 1), .inl (cI, 1216, .inl (upd (upd (upd (upd (td_sw (fun _ => 0) ce 64) 28 1) 35 1) 27 2) (36 : Int32).toNatClampNeg 2))), ((q 2), .inl (cI, 19, .inl mv))] := hD
    rw [hu] at hP hD
    clear hu
    have hP : va_P D tdC [(o, .inr (1, [.int th, .ref (q 1), .ref (q 2), .ref (q 3), .ref (q 4), .int md, .ref (q 6), .ref (q 7), .ref (q 8), .ref (q 9), .int ch, .ref (q 11), .int sc, .ref (q 13)])), ((q 1), .inl (cI, 1216, .inl (upd (upd (upd (upd (td_sw (fun _ => 0) ce 64) 28 1) 35 1) 27 2) 36 2))), ((q 2), .inl (cI, 19, .inl mv))] H := hP
    have hD : va_D A [(o, .inr (1, [.int th, .ref (q 1), .ref (q 2), .ref (q 3), .ref (q 4), .int md, .ref (q 6), .ref (q 7), .ref (q 8), .ref (q 9), .int ch, .ref (q 11), .int sc, .ref (q 13)])), ((q 1), .inl (cI, 1216, .inl (upd (upd (upd (upd (td_sw (fun _ => 0) ce 64) 28 1) 35 1) 27 2) 36 2))), ((q 2), .inl (cI, 19, .inl mv))] := hD
    refine lv_aload_n hx hb d_X1_lay_53 rfl (lv_at hl 0 rfl) ?_
    refine va_get (D := D) (ci := 1) (v := .ref (q 2)) (C := RX1) (T := TX1) (N := 14) hx hb hts usX1 hown hK hP 0 rfl rfl 2 (by decide) (hts _ fl_X1_13) (fun _ h9 => h9) rfl d_X1_lay_54 ?_
    refine lv_iconst (v := 0) hx hb d_X1_lay_57 (by decide) ?_
    refine lv_iconst (v := 0) hx hb d_X1_lay_58 (by decide) ?_
    refine va_iast hx hb hK hP hD hS 2 0 rfl rfl (vp_in_nI (n := 0) (by decide) (by decide)) d_X1_lay_59 (fun H locs hP hD hS => ?_)
    have hu : upd mv (0 : Int32).toNatClampNeg 0 = (upd mv 0 0) := rfl
    have hP : va_P D tdC [(o, .inr (1, [.int th, .ref (q 1), .ref (q 2), .ref (q 3), .ref (q 4), .int md, .ref (q 6), .ref (q 7), .ref (q 8), .ref (q 9), .int ch, .ref (q 11), .int sc, .ref (q 13)])), ((q 1), .inl (cI, 1216, .inl (upd (upd (upd (upd (td_sw (fun _ => 0) ce 64) 28 1) 35 1) 27 2) 36 2))), ((q 2), .inl (cI, 19, .inl (upd mv (0 : Int32).toNatClampNeg 0)))] H := hP
    have hD : va_D A [(o, .inr (1, [.int th, .ref (q 1), .ref (q 2), .ref (q 3), .ref (q 4), .int md, .ref (q 6), .ref (q 7), .ref (q 8), .ref (q 9), .int ch, .ref (q 11), .int sc, .ref (q 13)])), ((q 1), .inl (cI, 1216, .inl (upd (upd (upd (upd (td_sw (fun _ => 0) ce 64) 28 1) 35 1) 27 2) 36 2))), ((q 2), .inl (cI, 19, .inl (upd mv (0 : Int32).toNatClampNeg 0)))] := hD
    rw [hu] at hP hD
    clear hu
    have hP : va_P D tdC [(o, .inr (1, [.int th, .ref (q 1), .ref (q 2), .ref (q 3), .ref (q 4), .int md, .ref (q 6), .ref (q 7), .ref (q 8), .ref (q 9), .int ch, .ref (q 11), .int sc, .ref (q 13)])), ((q 1), .inl (cI, 1216, .inl (upd (upd (upd (upd (td_sw (fun _ => 0) ce 64) 28 1) 35 1) 27 2) 36 2))), ((q 2), .inl (cI, 19, .inl (upd mv 0 0)))] H := hP
    have hD : va_D A [(o, .inr (1, [.int th, .ref (q 1), .ref (q 2), .ref (q 3), .ref (q 4), .int md, .ref (q 6), .ref (q 7), .ref (q 8), .ref (q 9), .int ch, .ref (q 11), .int sc, .ref (q 13)])), ((q 1), .inl (cI, 1216, .inl (upd (upd (upd (upd (td_sw (fun _ => 0) ce 64) 28 1) 35 1) 27 2) 36 2))), ((q 2), .inl (cI, 19, .inl (upd mv 0 0)))] := hD
    refine lv_aload_n hx hb d_X1_lay_60 rfl (lv_at hl 0 rfl) ?_
    refine lv_iconst (v := 0) hx hb d_X1_lay_61 (by decide) ?_
    refine va_put (D := D) (ci := 1) (v := .int 0) (ty := .int) (C := RX1) (T := TX1) (N := 14) hx hb hts usX1 tyX1 tyX1_ok nmX1 hown hK hP hD hS 0 rfl rfl 5 (by decide) (hts _ fl_X1_49) (fun _ h9 => h9) rfl (by decide +kernel) rfl rfl (Nat.le_of_ble_eq_true rfl) d_X1_lay_62 (fun H locs hP hD hS => ?_)
    have hP : va_P D tdC [(o, .inr (1, [.int th, .ref (q 1), .ref (q 2), .ref (q 3), .ref (q 4), .int 0, .ref (q 6), .ref (q 7), .ref (q 8), .ref (q 9), .int ch, .ref (q 11), .int sc, .ref (q 13)])), ((q 1), .inl (cI, 1216, .inl (upd (upd (upd (upd (td_sw (fun _ => 0) ce 64) 28 1) 35 1) 27 2) 36 2))), ((q 2), .inl (cI, 19, .inl (upd mv 0 0)))] H := hP
    have hD : va_D A [(o, .inr (1, [.int th, .ref (q 1), .ref (q 2), .ref (q 3), .ref (q 4), .int 0, .ref (q 6), .ref (q 7), .ref (q 8), .ref (q 9), .int ch, .ref (q 11), .int sc, .ref (q 13)])), ((q 1), .inl (cI, 1216, .inl (upd (upd (upd (upd (td_sw (fun _ => 0) ce 64) 28 1) 35 1) 27 2) 36 2))), ((q 2), .inl (cI, 19, .inl (upd mv 0 0)))] := hD
    exact W.vret hx hb hr (fun t ht hW => ⟨⟨(), rfl, trivial, by rw [ht]; exact hP, va_K.moved hW.alike hK, hD⟩, hS.F ht⟩) hS.2.2 d_X1_lay_65
  · have h64 : i < 64 := Nat.lt_of_not_le (fun z => h1 ((nI_leI (a := 64) (b := i) (by decide) (by omega)).mpr z))
    refine lv_aload_n hx hb d_X1_lay_8 rfl (lv_at hl 0 rfl) ?_
    refine va_get (D := D) (ci := 1) (v := .ref (q 1)) (C := RX1) (T := TX1) (N := 14) hx hb hts usX1 hown hK hP 0 rfl rfl 1 (by decide) (hts _ fl_X1_7) (fun _ h9 => h9) rfl d_X1_lay_9 ?_
    refine lv_iload_n hx hb d_X1_lay_12 rfl (lv_at hl 1 rfl) ?_
    refine lv_iconst (v := 0) hx hb d_X1_lay_13 (by decide) ?_
    refine va_iast hx hb hK hP hD hS 1 0 rfl rfl (vp_in_nI (show i < 1216 by omega) (by decide)) d_X1_lay_14 (fun H locs hP hD hS => ?_)
    have hu : upd (td_sw (fun _ => 0) ce i) (nI i).toNatClampNeg 0 = (td_sw (fun _ => 0) ce (i + 1)) := by rw [nI_clamp (by omega)]; exact td_sw_s rfl
    have hP : va_P D tdC [(o, .inr (1, [.int th, .ref (q 1), .ref (q 2), .ref (q 3), .ref (q 4), .int md, .ref (q 6), .ref (q 7), .ref (q 8), .ref (q 9), .int ch, .ref (q 11), .int sc, .ref (q 13)])), ((q 1), .inl (cI, 1216, .inl (upd (td_sw (fun _ => 0) ce i) (nI i).toNatClampNeg 0))), ((q 2), .inl (cI, 19, .inl mv))] H := hP
    have hD : va_D A [(o, .inr (1, [.int th, .ref (q 1), .ref (q 2), .ref (q 3), .ref (q 4), .int md, .ref (q 6), .ref (q 7), .ref (q 8), .ref (q 9), .int ch, .ref (q 11), .int sc, .ref (q 13)])), ((q 1), .inl (cI, 1216, .inl (upd (td_sw (fun _ => 0) ce i) (nI i).toNatClampNeg 0))), ((q 2), .inl (cI, 19, .inl mv))] := hD
    rw [hu] at hP hD
    clear hu
    have hP : va_P D tdC [(o, .inr (1, [.int th, .ref (q 1), .ref (q 2), .ref (q 3), .ref (q 4), .int md, .ref (q 6), .ref (q 7), .ref (q 8), .ref (q 9), .int ch, .ref (q 11), .int sc, .ref (q 13)])), ((q 1), .inl (cI, 1216, .inl (td_sw (fun _ => 0) ce (i + 1)))), ((q 2), .inl (cI, 19, .inl mv))] H := hP
    have hD : va_D A [(o, .inr (1, [.int th, .ref (q 1), .ref (q 2), .ref (q 3), .ref (q 4), .int md, .ref (q 6), .ref (q 7), .ref (q 8), .ref (q 9), .int ch, .ref (q 11), .int sc, .ref (q 13)])), ((q 1), .inl (cI, 1216, .inl (td_sw (fun _ => 0) ce (i + 1)))), ((q 2), .inl (cI, 19, .inl mv))] := hD
    refine lv_iinc (k := 1) (v := (nI (i + 1))) hx hb d_X1_lay_15 hl rfl ((nI_succ i).symm) (by decide) rfl (fun ls hl => ?_)
    have hl : lv_has ls 2 [(1, .int (nI (i + 1))), (0, .ref o)] := hl
    refine lv_goto (tgt := 2) hx hb d_X1_lay_18 (by decide) ?_
    have hl1 := lv_sub hl [1, 0] rfl
    exact ih (i + 1) _ _ _ (by omega) ⟨h64, hP, hD, hS, hl1⟩
set_option maxHeartbeats 4000000 in
set_option maxRecDepth 100000 in
theorem m_X1_begin (l : Launch) (D : va_G) (sz : Nat) (o : Nat) (q : Nat → Nat) (th md ch sc : Int32) (cI : ClassId) (ce mv : Nat → Int32) : Met l y_X1_begin (k_X1_begin :: tw) ({ frames := 1, cells := 0, slots := 0, locals := 21 }) (va_Pc [.ref o] (fun U => U.heap.size = sz ∧ va_P D tdC [(o, .inr (1, [.int th, .ref (q 1), .ref (q 2), .ref (q 3), .ref (q 4), .int md, .ref (q 6), .ref (q 7), .ref (q 8), .ref (q 9), .int ch, .ref (q 11), .int sc, .ref (q 13)])), ((q 1), .inl (cI, 1216, .inl ce)), ((q 2), .inl (cI, 19, .inl mv))] U.heap ∧ va_K D tdC [(cI, .int)] U ∧ va_D (fun _ => True) [(o, .inr (1, [.int th, .ref (q 1), .ref (q 2), .ref (q 3), .ref (q 4), .int md, .ref (q 6), .ref (q 7), .ref (q 8), .ref (q 9), .int ch, .ref (q 11), .int sc, .ref (q 13)])), ((q 1), .inl (cI, 1216, .inl ce)), ((q 2), .inl (cI, 19, .inl mv))])) (va_Qv (fun (_ : Unit) => True) (fun (_ : Unit) t => va_P D tdC [(o, .inr (1, [.int 0, .ref (q 1), .ref (q 2), .ref (q 3), .ref (q 4), .int 0, .ref (q 6), .ref (q 7), .ref (q 8), .ref (q 9), .int ch, .ref (q 11), .int sc, .ref (q 13)])), ((q 1), .inl (cI, 1216, .inl (td_laid ce))), ((q 2), .inl (cI, 19, .inl (upd mv 0 0)))] t.heap ∧ va_K D tdC [(cI, .int)] t ∧ va_D (va_A [(o, .inr (1, [.int th, .ref (q 1), .ref (q 2), .ref (q 3), .ref (q 4), .int md, .ref (q 6), .ref (q 7), .ref (q 8), .ref (q 9), .int ch, .ref (q 11), .int sc, .ref (q 13)])), ((q 1), .inl (cI, 1216, .inl ce)), ((q 2), .inl (cI, 19, .inl mv))] sz) [(o, .inr (1, [.int 0, .ref (q 1), .ref (q 2), .ref (q 3), .ref (q 4), .int 0, .ref (q 6), .ref (q 7), .ref (q 8), .ref (q 9), .int ch, .ref (q 11), .int sc, .ref (q 13)])), ((q 1), .inl (cI, 1216, .inl (td_laid ce))), ((q 2), .inl (cI, 19, .inl (upd mv 0 0)))]) (va_A [(o, .inr (1, [.int th, .ref (q 1), .ref (q 2), .ref (q 3), .ref (q 4), .int md, .ref (q 6), .ref (q 7), .ref (q 8), .ref (q 9), .int ch, .ref (q 11), .int sc, .ref (q 13)])), ((q 1), .inl (cI, 1216, .inl ce)), ((q 2), .inl (cI, 19, .inl mv))] sz)) 0 0 (va_A [(o, .inr (1, [.int th, .ref (q 1), .ref (q 2), .ref (q 3), .ref (q 4), .int md, .ref (q 6), .ref (q 7), .ref (q 8), .ref (q 9), .int ch, .ref (q 11), .int sc, .ref (q 13)])), ((q 1), .inl (cI, 1216, .inl ce)), ((q 2), .inl (cI, 19, .inl mv))] sz) := by
  refine Met.ofW (cc := c_X1_begin) (maxL := 1) (ret := none) (by decide) rfl ?_
  intro p e s m args below meth c s₁ B hml hv
  obtain ⟨rfl, hsz, hP, hK, hD0⟩ := hv
  have hx := B.exec
  have hb := B.bytes
  have hr := B.returns
  have hts : ∀ w ∈ tw, w.before _ s = true := fun w h => atoms_spec (ws := k_X1_begin :: tw) B.pre w (List.mem_cons_of_mem _ h)
  have hown : s.vm.findClass RX1 = some m.cls := findClass_of_methodNamed B.named
  have hlocks := B.notSynchronized
  subst hsz
  have hD := hD0.self (sz := s.heap.size)
  generalize hAe : va_A [(o, .inr (1, [.int th, .ref (q 1), .ref (q 2), .ref (q 3), .ref (q 4), .int md, .ref (q 6), .ref (q 7), .ref (q 8), .ref (q 9), .int ch, .ref (q 11), .int sc, .ref (q 13)])), ((q 1), .inl (cI, 1216, .inl ce)), ((q 2), .inl (cI, 19, .inl mv))] s.heap.size = A at hD ⊢
  have hA : ∀ q : Nat, s.heap.size ≤ q → A q := fun q h => by rw [← hAe]; exact Or.inr h
  have hS : va_S A s.heap s.heap [] := va_S.rf
  have hP : va_P D tdC [(o, .inr (1, [.int th, .ref (q 1), .ref (q 2), .ref (q 3), .ref (q 4), .int md, .ref (q 6), .ref (q 7), .ref (q 8), .ref (q 9), .int ch, .ref (q 11), .int sc, .ref (q 13)])), ((q 1), .inl (cI, 1216, .inl ce)), ((q 2), .inl (cI, 19, .inl mv))] s.heap := hP
  have hl := lv_entry ([.ref o]) (n := 1) (Nat.le_of_ble_eq_true rfl)
  rw [lg_entry_eq]
  generalize (lg_sl ([.ref o]) ++ List.replicate (1 - (lg_sl ([.ref o])).length) Slot.unset).toArray = ls at hl ⊢
  have hl : lv_has ls 1 [(0, .ref o)] := hl
  refine lv_aload_n hx hb d_X1_begin_0 rfl (lv_at hl 0 rfl) ?_
  refine lv_iconst (v := 0) hx hb d_X1_begin_1 (by decide) ?_
  refine va_put (D := D) (ci := 1) (v := .int 0) (ty := .int) (C := RX1) (T := TX1) (N := 14) hx hb hts usX1 tyX1 tyX1_ok nmX1 hown hK hP hD hS 0 rfl rfl 0 (by decide) (hts _ fl_X1_45) (fun _ h9 => h9) rfl (by decide +kernel) rfl rfl (Nat.le_of_ble_eq_true rfl) d_X1_begin_2 (fun H locs hP hD hS => ?_)
  have hP : va_P D tdC [(o, .inr (1, [.int 0, .ref (q 1), .ref (q 2), .ref (q 3), .ref (q 4), .int md, .ref (q 6), .ref (q 7), .ref (q 8), .ref (q 9), .int ch, .ref (q 11), .int sc, .ref (q 13)])), ((q 1), .inl (cI, 1216, .inl ce)), ((q 2), .inl (cI, 19, .inl mv))] H := hP
  have hD : va_D A [(o, .inr (1, [.int 0, .ref (q 1), .ref (q 2), .ref (q 3), .ref (q 4), .int md, .ref (q 6), .ref (q 7), .ref (q 8), .ref (q 9), .int ch, .ref (q 11), .int sc, .ref (q 13)])), ((q 1), .inl (cI, 1216, .inl ce)), ((q 2), .inl (cI, 19, .inl mv))] := hD
  refine lv_aload_n hx hb d_X1_begin_5 rfl (lv_at hl 0 rfl) ?_
  have hPc := hP.sub (ws' := [(o, .inr (1, [.int 0, .ref (q 1), .ref (q 2), .ref (q 3), .ref (q 4), .int md, .ref (q 6), .ref (q 7), .ref (q 8), .ref (q 9), .int ch, .ref (q 11), .int sc, .ref (q 13)])), ((q 1), .inl (cI, 1216, .inl ce)), ((q 2), .inl (cI, 19, .inl mv))]) [0, 1, 2] rfl
  have hDc := hD.sub (ws' := [(o, .inr (1, [.int 0, .ref (q 1), .ref (q 2), .ref (q 3), .ref (q 4), .int md, .ref (q 6), .ref (q 7), .ref (q 8), .ref (q 9), .int ch, .ref (q 11), .int sc, .ref (q 13)])), ((q 1), .inl (cI, 1216, .inl ce)), ((q 2), .inl (cI, 19, .inl mv))]) [0, 1, 2] (by decide) rfl
  have hKc := hK.sub (tys' := [(cI, .int)]) [0] rfl
  have hFc := va_free (wc := [(o, .inr (1, [.int 0, .ref (q 1), .ref (q 2), .ref (q 3), .ref (q 4), .int md, .ref (q 6), .ref (q 7), .ref (q 8), .ref (q 9), .int ch, .ref (q 11), .int sc, .ref (q 13)])), ((q 1), .inl (cI, 1216, .inl ce)), ((q 2), .inl (cI, 19, .inl mv))]) hD hS hA [0, 1, 2] rfl
  refine va_callv (va_runV (b := o) (C := RX1) (As := []) (rest := []) ⟨hx, hb, hml, hown, hts⟩ (m_X1_lay l D _ o q 0 md ch sc cI ce mv) (cwV 0 hts (tw_V ml_X1_42 im_X1_lay se_X1_lay in_X1 kw_X1_lay) rfl rfl rfl (by decide +kernel) ⟨Nat.le_of_ble_eq_true rfl, Nat.le_of_ble_eq_true rfl⟩) ⟨fun a U g mk q => ⟨q.1, q.2.1, q.2.2.1, va_K.moved (u := U) (U := U.calling g mk a) (Vm.Alike.refl U.vm) q.2.2.2.1, q.2.2.2.2⟩, va_recv (q0 := 0) (ci := 1) hK hP rfl rfl, fun U hU hW => ⟨rfl, by rw [hU], by rw [hU]; exact hPc, va_K.moved hW.alike hKc, hDc.weaken (fun _ _ _ _ => trivial)⟩⟩ rfl rfl hl.1 rfl (lv_room (Nat.le_of_ble_eq_true rfl)) d_X1_begin_6 ⟨Nat.zero_le _, Nat.zero_le _⟩) hS (fun q _ h => hFc q h) hFc (fun u0 t0 H1 locs ht hvm hq hB hz1 hk1 hS => ?_)
  obtain ⟨hP1, hK1, hD1⟩ := hB
  rw [ht] at hP1
  obtain ⟨hP, hD⟩ := va_join (wr := []) (w1 := [(o, .inr (1, [.int 0, .ref (q 1), .ref (q 2), .ref (q 3), .ref (q 4), .int 0, .ref (q 6), .ref (q 7), .ref (q 8), .ref (q 9), .int ch, .ref (q 11), .int sc, .ref (q 13)])), ((q 1), .inl (cI, 1216, .inl (td_laid ce))), ((q 2), .inl (cI, 19, .inl (upd mv 0 0)))]) hP hD [0, 1, 2] [] rfl rfl (by decide) (by decide) hk1 hFc hP1 hD1
  clear hPc hDc hKc hFc hP1 hK1 hD1 hk1 hz1
  have hP := hP.sub (ws' := [(o, .inr (1, [.int 0, .ref (q 1), .ref (q 2), .ref (q 3), .ref (q 4), .int 0, .ref (q 6), .ref (q 7), .ref (q 8), .ref (q 9), .int ch, .ref (q 11), .int sc, .ref (q 13)])), ((q 1), .inl (cI, 1216, .inl (td_laid ce))), ((q 2), .inl (cI, 19, .inl (upd mv 0 0)))]) [0, 1, 2] rfl
  have hD := hD.sub (ws' := [(o, .inr (1, [.int 0, .ref (q 1), .ref (q 2), .ref (q 3), .ref (q 4), .int 0, .ref (q 6), .ref (q 7), .ref (q 8), .ref (q 9), .int ch, .ref (q 11), .int sc, .ref (q 13)])), ((q 1), .inl (cI, 1216, .inl (td_laid ce))), ((q 2), .inl (cI, 19, .inl (upd mv 0 0)))]) [0, 1, 2] (by decide) rfl
  clear ht hvm
  generalize H1 = H at hP hS ⊢
  exact W.vret hx hb hr (fun t ht hW => ⟨⟨(), rfl, trivial, by rw [ht]; exact hP, va_K.moved hW.alike hK, hD⟩, hS.F ht⟩) hS.2.2 d_X1_begin_9
set_option maxHeartbeats 4000000 in
set_option maxRecDepth 100000 in
theorem m_X1_set (l : Launch) (D : va_G) (sz : Nat) (o : Nat) (q : Nat → Nat) (th md ch sc : Int32) (cI : ClassId) (ce mv : Nat → Int32) (u v : Int64) (q0 : Int32) : Met l y_X1_set (k_X1_set :: tw) ({ frames := 0, cells := 0, slots := 0, locals := 0 }) (va_Pc [.ref o, .long u, .long v, .int q0] (fun U => U.heap.size = sz ∧ va_P D tdC [(o, .inr (1, [.int th, .ref (q 1), .ref (q 2), .ref (q 3), .ref (q 4), .int md, .ref (q 6), .ref (q 7), .ref (q 8), .ref (q 9), .int ch, .ref (q 11), .int sc, .ref (q 13)])), ((q 1), .inl (cI, 1216, .inl ce)), ((q 2), .inl (cI, 19, .inl mv))] U.heap ∧ va_K D tdC [(cI, .int)] U ∧ va_D (fun _ => True) [(o, .inr (1, [.int th, .ref (q 1), .ref (q 2), .ref (q 3), .ref (q 4), .int md, .ref (q 6), .ref (q 7), .ref (q 8), .ref (q 9), .int ch, .ref (q 11), .int sc, .ref (q 13)])), ((q 1), .inl (cI, 1216, .inl ce)), ((q 2), .inl (cI, 19, .inl mv))])) (va_Qv (fun (_ : Unit) => True) (fun (_ : Unit) t => va_P D tdC [(o, .inr (1, [.int (td_bset u v q0), .ref (q 1), .ref (q 2), .ref (q 3), .ref (q 4), .int (if (td_bset u v q0) = 0 then 0 else md), .ref (q 6), .ref (q 7), .ref (q 8), .ref (q 9), .int ch, .ref (q 11), .int sc, .ref (q 13)])), ((q 1), .inl (cI, 1216, .inl (if (td_bset u v q0) = 0 then td_sw (td_setc u v) ce 64 else ce))), ((q 2), .inl (cI, 19, .inl (if (td_bset u v q0) = 0 then upd mv 0 q0 else mv)))] t.heap ∧ va_K D tdC [(cI, .int)] t ∧ va_D (va_A [(o, .inr (1, [.int th, .ref (q 1), .ref (q 2), .ref (q 3), .ref (q 4), .int md, .ref (q 6), .ref (q 7), .ref (q 8), .ref (q 9), .int ch, .ref (q 11), .int sc, .ref (q 13)])), ((q 1), .inl (cI, 1216, .inl ce)), ((q 2), .inl (cI, 19, .inl mv))] sz) [(o, .inr (1, [.int (td_bset u v q0), .ref (q 1), .ref (q 2), .ref (q 3), .ref (q 4), .int (if (td_bset u v q0) = 0 then 0 else md), .ref (q 6), .ref (q 7), .ref (q 8), .ref (q 9), .int ch, .ref (q 11), .int sc, .ref (q 13)])), ((q 1), .inl (cI, 1216, .inl (if (td_bset u v q0) = 0 then td_sw (td_setc u v) ce 64 else ce))), ((q 2), .inl (cI, 19, .inl (if (td_bset u v q0) = 0 then upd mv 0 q0 else mv)))]) (va_A [(o, .inr (1, [.int th, .ref (q 1), .ref (q 2), .ref (q 3), .ref (q 4), .int md, .ref (q 6), .ref (q 7), .ref (q 8), .ref (q 9), .int ch, .ref (q 11), .int sc, .ref (q 13)])), ((q 1), .inl (cI, 1216, .inl ce)), ((q 2), .inl (cI, 19, .inl mv))] sz)) 0 0 (va_A [(o, .inr (1, [.int th, .ref (q 1), .ref (q 2), .ref (q 3), .ref (q 4), .int md, .ref (q 6), .ref (q 7), .ref (q 8), .ref (q 9), .int ch, .ref (q 11), .int sc, .ref (q 13)])), ((q 1), .inl (cI, 1216, .inl ce)), ((q 2), .inl (cI, 19, .inl mv))] sz) := by
  refine Met.ofW (cc := c_X1_set) (maxL := 7) (ret := none) (by decide) rfl ?_
  intro p e s m args below meth c s₁ B hml hv
  obtain ⟨rfl, hsz, hP, hK, hD0⟩ := hv
  have hx := B.exec
  have hb := B.bytes
  have hr := B.returns
  have hts : ∀ w ∈ tw, w.before _ s = true := fun w h => atoms_spec (ws := k_X1_set :: tw) B.pre w (List.mem_cons_of_mem _ h)
  have hown : s.vm.findClass RX1 = some m.cls := findClass_of_methodNamed B.named
  have hlocks := B.notSynchronized
  subst hsz
  have hD := hD0.self (sz := s.heap.size)
  generalize hAe : va_A [(o, .inr (1, [.int th, .ref (q 1), .ref (q 2), .ref (q 3), .ref (q 4), .int md, .ref (q 6), .ref (q 7), .ref (q 8), .ref (q 9), .int ch, .ref (q 11), .int sc, .ref (q 13)])), ((q 1), .inl (cI, 1216, .inl ce)), ((q 2), .inl (cI, 19, .inl mv))] s.heap.size = A at hD ⊢
  have hA : ∀ q : Nat, s.heap.size ≤ q → A q := fun q h => by rw [← hAe]; exact Or.inr h
  have hS : va_S A s.heap s.heap [] := va_S.rf
  have hP : va_P D tdC [(o, .inr (1, [.int th, .ref (q 1), .ref (q 2), .ref (q 3), .ref (q 4), .int md, .ref (q 6), .ref (q 7), .ref (q 8), .ref (q 9), .int ch, .ref (q 11), .int sc, .ref (q 13)])), ((q 1), .inl (cI, 1216, .inl ce)), ((q 2), .inl (cI, 19, .inl mv))] s.heap := hP
  have hl := lv_entry ([.ref o, .long u, .long v, .int q0]) (n := 7) (Nat.le_of_ble_eq_true rfl)
  rw [lg_entry_eq]
  generalize (lg_sl ([.ref o, .long u, .long v, .int q0]) ++ List.replicate (7 - (lg_sl ([.ref o, .long u, .long v, .int q0])).length) Slot.unset).toArray = ls at hl ⊢
  have hl : lv_has ls 7 [(0, .ref o), (1, .long u), (3, .long v), (5, .int q0)] := hl
  refine lv_aload_n hx hb d_X1_set_0 rfl (lv_at hl 0 rfl) ?_
  refine td_joini 25 ls [.ref o] (fun x => x = (td_bset u v q0)) (fun x ex => ?_) (fun J => ?_)
  · subst ex
    refine va_put (D := D) (ci := 1) (v := .int (td_bset u v q0)) (ty := .int) (C := RX1) (T := TX1) (N := 14) hx hb hts usX1 tyX1 tyX1_ok nmX1 hown hK hP hD hS 0 rfl rfl 0 (by decide) (hts _ fl_X1_45) (fun _ h9 => h9) rfl (by decide +kernel) rfl rfl (Nat.le_of_ble_eq_true rfl) d_X1_set_25 (fun H locs hP hD hS => ?_)
    have hP : va_P D tdC [(o, .inr (1, [.int (td_bset u v q0), .ref (q 1), .ref (q 2), .ref (q 3), .ref (q 4), .int md, .ref (q 6), .ref (q 7), .ref (q 8), .ref (q 9), .int ch, .ref (q 11), .int sc, .ref (q 13)])), ((q 1), .inl (cI, 1216, .inl ce)), ((q 2), .inl (cI, 19, .inl mv))] H := hP
    have hD : va_D A [(o, .inr (1, [.int (td_bset u v q0), .ref (q 1), .ref (q 2), .ref (q 3), .ref (q 4), .int md, .ref (q 6), .ref (q 7), .ref (q 8), .ref (q 9), .int ch, .ref (q 11), .int sc, .ref (q 13)])), ((q 1), .inl (cI, 1216, .inl ce)), ((q 2), .inl (cI, 19, .inl mv))] := hD
    refine lv_aload_n hx hb d_X1_set_28 rfl (lv_at hl 0 rfl) ?_
    refine va_get (D := D) (ci := 1) (v := .int (td_bset u v q0)) (C := RX1) (T := TX1) (N := 14) hx hb hts usX1 hown hK hP 0 rfl rfl 0 (by decide) (hts _ fl_X1_45) (fun _ h9 => h9) rfl d_X1_set_29 ?_
    refine lv_if_le (tgt := 36) hx hb d_X1_set_32 (by decide) (fun h3 => ?_) (fun h3 => ?_)
    · have hbz : (td_bset u v q0) = 0 := by unfold td_bset at h3 ⊢; by_cases hc : ¬ (u &&& v) = 0 ∨ q0 < 0 ∨ 1 < q0; (rw [if_pos hc] at h3; exact absurd h3 (by decide)); rw [if_neg hc]
      refine lv_iconst (v := 0) hx hb d_X1_set_36 (by decide) ?_
      refine lv_istore hx hb d_X1_set_37 hl (by decide) rfl (fun ls hl => ?_)
      have hl : lv_has ls 7 [(6, .int 0), (0, .ref o), (1, .long u), (3, .long v), (5, .int q0)] := hl
      rw [← td_sw_0 (td_setc u v) ce] at hP hD
      have hl0 := lv_sub hl [1, 2, 3, 4, 0] rfl
      refine td_loopH 39 [] (fun i : Nat => 64 - i) (fun i H locs ls => i ≤ 64 ∧ va_P D tdC [(o, .inr (1, [.int (td_bset u v q0), .ref (q 1), .ref (q 2), .ref (q 3), .ref (q 4), .int md, .ref (q 6), .ref (q 7), .ref (q 8), .ref (q 9), .int ch, .ref (q 11), .int sc, .ref (q 13)])), ((q 1), .inl (cI, 1216, .inl (td_sw (td_setc u v) ce i))), ((q 2), .inl (cI, 19, .inl mv))] H ∧ va_D A [(o, .inr (1, [.int (td_bset u v q0), .ref (q 1), .ref (q 2), .ref (q 3), .ref (q 4), .int md, .ref (q 6), .ref (q 7), .ref (q 8), .ref (q 9), .int ch, .ref (q 11), .int sc, .ref (q 13)])), ((q 1), .inl (cI, 1216, .inl (td_sw (td_setc u v) ce i))), ((q 2), .inl (cI, 19, .inl mv))] ∧ va_S A s.heap H locs ∧ lv_has ls 7 [(0, .ref o), (1, .long u), (3, .long v), (5, .int q0), (6, .int (nI i))]) (fun i H locs ls hC ih => ?_) 0 ⟨Nat.zero_le _, hP, hD, hS, hl0⟩
      clear hl hl0 hP hD hS
      obtain ⟨hi, hP, hD, hS, hl⟩ := hC
      have hl : lv_has ls 7 [(0, .ref o), (1, .long u), (3, .long v), (5, .int q0), (6, .int (nI i))] := hl
      have hP : va_P D tdC [(o, .inr (1, [.int (td_bset u v q0), .ref (q 1), .ref (q 2), .ref (q 3), .ref (q 4), .int md, .ref (q 6), .ref (q 7), .ref (q 8), .ref (q 9), .int ch, .ref (q 11), .int sc, .ref (q 13)])), ((q 1), .inl (cI, 1216, .inl (td_sw (td_setc u v) ce i))), ((q 2), .inl (cI, 19, .inl mv))] H := hP
      have hD : va_D A [(o, .inr (1, [.int (td_bset u v q0), .ref (q 1), .ref (q 2), .ref (q 3), .ref (q 4), .int md, .ref (q 6), .ref (q 7), .ref (q 8), .ref (q 9), .int ch, .ref (q 11), .int sc, .ref (q 13)])), ((q 1), .inl (cI, 1216, .inl (td_sw (td_setc u v) ce i))), ((q 2), .inl (cI, 19, .inl mv))] := hD
      refine lv_iload hx hb d_X1_set_39 (lv_at hl 4 rfl) ?_
      refine lv_bipush (v := 64) hx hb d_X1_set_41 (by decide) ?_
      refine lv_icmp_ge (tgt := 90) hx hb d_X1_set_43 (by decide) (fun h1 => ?_) (fun h1 => ?_)
      · have h64 : i = 64 := Nat.le_antisymm hi ((nI_leI (a := 64) (b := i) (by decide) (by omega)).mp h1)
        subst h64
        refine lv_aload_n hx hb d_X1_set_90 rfl (lv_at hl 0 rfl) ?_
        refine va_get (D := D) (ci := 1) (v := .ref (q 2)) (C := RX1) (T := TX1) (N := 14) hx hb hts usX1 hown hK hP 0 rfl rfl 2 (by decide) (hts _ fl_X1_13) (fun _ h9 => h9) rfl d_X1_set_91 ?_
        refine lv_iconst (v := 0) hx hb d_X1_set_94 (by decide) ?_
        refine lv_iload hx hb d_X1_set_95 (lv_at hl 3 rfl) ?_
        refine va_iast hx hb hK hP hD hS 2 0 rfl rfl (vp_in_nI (n := 0) (by decide) (by decide)) d_X1_set_97 (fun H locs hP hD hS => ?_)
        have hu : upd mv (0 : Int32).toNatClampNeg q0 = (upd mv 0 q0) := rfl
        have hP : va_P D tdC [(o, .inr (1, [.int (td_bset u v q0), .ref (q 1), .ref (q 2), .ref (q 3), .ref (q 4), .int md, .ref (q 6), .ref (q 7), .ref (q 8), .ref (q 9), .int ch, .ref (q 11), .int sc, .ref (q 13)])), ((q 1), .inl (cI, 1216, .inl (td_sw (td_setc u v) ce 64))), ((q 2), .inl (cI, 19, .inl (upd mv (0 : Int32).toNatClampNeg q0)))] H := hP
        have hD : va_D A [(o, .inr (1, [.int (td_bset u v q0), .ref (q 1), .ref (q 2), .ref (q 3), .ref (q 4), .int md, .ref (q 6), .ref (q 7), .ref (q 8), .ref (q 9), .int ch, .ref (q 11), .int sc, .ref (q 13)])), ((q 1), .inl (cI, 1216, .inl (td_sw (td_setc u v) ce 64))), ((q 2), .inl (cI, 19, .inl (upd mv (0 : Int32).toNatClampNeg q0)))] := hD
        rw [hu] at hP hD
        clear hu
        have hP : va_P D tdC [(o, .inr (1, [.int (td_bset u v q0), .ref (q 1), .ref (q 2), .ref (q 3), .ref (q 4), .int md, .ref (q 6), .ref (q 7), .ref (q 8), .ref (q 9), .int ch, .ref (q 11), .int sc, .ref (q 13)])), ((q 1), .inl (cI, 1216, .inl (td_sw (td_setc u v) ce 64))), ((q 2), .inl (cI, 19, .inl (upd mv 0 q0)))] H := hP
        have hD : va_D A [(o, .inr (1, [.int (td_bset u v q0), .ref (q 1), .ref (q 2), .ref (q 3), .ref (q 4), .int md, .ref (q 6), .ref (q 7), .ref (q 8), .ref (q 9), .int ch, .ref (q 11), .int sc, .ref (q 13)])), ((q 1), .inl (cI, 1216, .inl (td_sw (td_setc u v) ce 64))), ((q 2), .inl (cI, 19, .inl (upd mv 0 q0)))] := hD
        refine lv_aload_n hx hb d_X1_set_98 rfl (lv_at hl 0 rfl) ?_
        refine lv_iconst (v := 0) hx hb d_X1_set_99 (by decide) ?_
        refine va_put (D := D) (ci := 1) (v := .int 0) (ty := .int) (C := RX1) (T := TX1) (N := 14) hx hb hts usX1 tyX1 tyX1_ok nmX1 hown hK hP hD hS 0 rfl rfl 5 (by decide) (hts _ fl_X1_49) (fun _ h9 => h9) rfl (by decide +kernel) rfl rfl (Nat.le_of_ble_eq_true rfl) d_X1_set_100 (fun H locs hP hD hS => ?_)
        have hP : va_P D tdC [(o, .inr (1, [.int (td_bset u v q0), .ref (q 1), .ref (q 2), .ref (q 3), .ref (q 4), .int 0, .ref (q 6), .ref (q 7), .ref (q 8), .ref (q 9), .int ch, .ref (q 11), .int sc, .ref (q 13)])), ((q 1), .inl (cI, 1216, .inl (td_sw (td_setc u v) ce 64))), ((q 2), .inl (cI, 19, .inl (upd mv 0 q0)))] H := hP
        have hD : va_D A [(o, .inr (1, [.int (td_bset u v q0), .ref (q 1), .ref (q 2), .ref (q 3), .ref (q 4), .int 0, .ref (q 6), .ref (q 7), .ref (q 8), .ref (q 9), .int ch, .ref (q 11), .int sc, .ref (q 13)])), ((q 1), .inl (cI, 1216, .inl (td_sw (td_setc u v) ce 64))), ((q 2), .inl (cI, 19, .inl (upd mv 0 q0)))] := hD
        have hP : va_P D tdC [(o, .inr (1, [.int (td_bset u v q0), .ref (q 1), .ref (q 2), .ref (q 3), .ref (q 4), .int (if (td_bset u v q0) = 0 then 0 else md), .ref (q 6), .ref (q 7), .ref (q 8), .ref (q 9), .int ch, .ref (q 11), .int sc, .ref (q 13)])), ((q 1), .inl (cI, 1216, .inl (if (td_bset u v q0) = 0 then td_sw (td_setc u v) ce 64 else ce))), ((q 2), .inl (cI, 19, .inl (if (td_bset u v q0) = 0 then upd mv 0 q0 else mv)))] H := by rw [if_pos hbz, if_pos hbz, if_pos hbz]; exact hP
        have hD : va_D A [(o, .inr (1, [.int (td_bset u v q0), .ref (q 1), .ref (q 2), .ref (q 3), .ref (q 4), .int (if (td_bset u v q0) = 0 then 0 else md), .ref (q 6), .ref (q 7), .ref (q 8), .ref (q 9), .int ch, .ref (q 11), .int sc, .ref (q 13)])), ((q 1), .inl (cI, 1216, .inl (if (td_bset u v q0) = 0 then td_sw (td_setc u v) ce 64 else ce))), ((q 2), .inl (cI, 19, .inl (if (td_bset u v q0) = 0 then upd mv 0 q0 else mv)))] := by rw [if_pos hbz, if_pos hbz, if_pos hbz]; exact hD
        exact W.vret hx hb hr (fun t ht hW => ⟨⟨(), rfl, trivial, by rw [ht]; exact hP, va_K.moved hW.alike hK, hD⟩, hS.F ht⟩) hS.2.2 d_X1_set_103
      · have h64 : i < 64 := Nat.lt_of_not_le (fun z => h1 ((nI_leI (a := 64) (b := i) (by decide) (by omega)).mpr z))
        refine lv_aload_n hx hb d_X1_set_46 rfl (lv_at hl 0 rfl) ?_
        refine va_get (D := D) (ci := 1) (v := .ref (q 1)) (C := RX1) (T := TX1) (N := 14) hx hb hts usX1 hown hK hP 0 rfl rfl 1 (by decide) (hts _ fl_X1_7) (fun _ h9 => h9) rfl d_X1_set_47 ?_
        refine lv_iload hx hb d_X1_set_50 (lv_at hl 4 rfl) ?_
        refine td_joini 83 ls [.int (nI i), .ref (q 1)] (fun x => x = td_setc u v i) (fun x ex => ?_) (fun J => ?_)
        · refine va_iast hx hb hK hP hD hS 1 0 rfl rfl (vp_in_nI (show i < 1216 by omega) (by decide)) d_X1_set_83 (fun H locs hP hD hS => ?_)
          have hu : upd (td_sw (td_setc u v) ce i) (nI i).toNatClampNeg x = (td_sw (td_setc u v) ce (i + 1)) := by rw [nI_clamp (by omega)]; exact td_sw_s ex
          have hP : va_P D tdC [(o, .inr (1, [.int (td_bset u v q0), .ref (q 1), .ref (q 2), .ref (q 3), .ref (q 4), .int md, .ref (q 6), .ref (q 7), .ref (q 8), .ref (q 9), .int ch, .ref (q 11), .int sc, .ref (q 13)])), ((q 1), .inl (cI, 1216, .inl (upd (td_sw (td_setc u v) ce i) (nI i).toNatClampNeg x))), ((q 2), .inl (cI, 19, .inl mv))] H := hP
          have hD : va_D A [(o, .inr (1, [.int (td_bset u v q0), .ref (q 1), .ref (q 2), .ref (q 3), .ref (q 4), .int md, .ref (q 6), .ref (q 7), .ref (q 8), .ref (q 9), .int ch, .ref (q 11), .int sc, .ref (q 13)])), ((q 1), .inl (cI, 1216, .inl (upd (td_sw (td_setc u v) ce i) (nI i).toNatClampNeg x))), ((q 2), .inl (cI, 19, .inl mv))] := hD
          rw [hu] at hP hD
          clear hu
          have hP : va_P D tdC [(o, .inr (1, [.int (td_bset u v q0), .ref (q 1), .ref (q 2), .ref (q 3), .ref (q 4), .int md, .ref (q 6), .ref (q 7), .ref (q 8), .ref (q 9), .int ch, .ref (q 11), .int sc, .ref (q 13)])), ((q 1), .inl (cI, 1216, .inl (td_sw (td_setc u v) ce (i + 1)))), ((q 2), .inl (cI, 19, .inl mv))] H := hP
          have hD : va_D A [(o, .inr (1, [.int (td_bset u v q0), .ref (q 1), .ref (q 2), .ref (q 3), .ref (q 4), .int md, .ref (q 6), .ref (q 7), .ref (q 8), .ref (q 9), .int ch, .ref (q 11), .int sc, .ref (q 13)])), ((q 1), .inl (cI, 1216, .inl (td_sw (td_setc u v) ce (i + 1)))), ((q 2), .inl (cI, 19, .inl mv))] := hD
          refine lv_iinc (k := 4) (v := (nI (i + 1))) hx hb d_X1_set_84 hl rfl ((nI_succ i).symm) (by decide) rfl (fun ls hl => ?_)
          have hl : lv_has ls 7 [(6, .int (nI (i + 1))), (0, .ref o), (1, .long u), (3, .long v), (5, .int q0)] := hl
          refine lv_goto (tgt := 39) hx hb d_X1_set_87 (by decide) ?_
          have hl1 := lv_sub hl [1, 2, 3, 4, 0] rfl
          exact ih (i + 1) _ _ _ (by omega) ⟨h64, hP, hD, hS, hl1⟩
        · refine lv_lload_n hx hb d_X1_set_52 rfl (lv_at hl 1 rfl) ?_
          refine lv_iload hx hb d_X1_set_53 (lv_at hl 4 rfl) ?_
          refine lv_lshr (v := (td_lshr u (nI i))) hx hb d_X1_set_55 rfl ?_
          refine lv_lconst (v := 1) hx hb d_X1_set_56 (by decide) ?_
          refine lv_land hx hb d_X1_set_57 ?_
          refine lv_lconst (v := 1) hx hb d_X1_set_58 (by decide) ?_
          refine td_lne (tgt := 67) hx hb d_X1_set_59 d_X1_set_60 (by decide) (fun h4 => ?_) (fun h4 => ?_)
          · refine lv_lload_n hx hb d_X1_set_67 rfl (lv_at hl 2 rfl) ?_
            refine lv_iload hx hb d_X1_set_68 (lv_at hl 4 rfl) ?_
            refine lv_lshr (v := (td_lshr v (nI i))) hx hb d_X1_set_70 rfl ?_
            refine lv_lconst (v := 1) hx hb d_X1_set_71 (by decide) ?_
            refine lv_land hx hb d_X1_set_72 ?_
            refine lv_lconst (v := 1) hx hb d_X1_set_73 (by decide) ?_
            refine td_lne (tgt := 82) hx hb d_X1_set_74 d_X1_set_75 (by decide) (fun h5 => ?_) (fun h5 => ?_)
            · refine lv_iconst (v := 0) hx hb d_X1_set_82 (by decide) ?_
              exact J _ (by unfold td_setc; rw [if_neg (show ¬ td_bv u i = true from fun z => h4 (of_decide_eq_true z)), if_neg (show ¬ td_bv v i = true from fun z => h5 (of_decide_eq_true z))])
            · refine lv_iconst (v := 2) hx hb d_X1_set_78 (by decide) ?_
              refine lv_goto (tgt := 83) hx hb d_X1_set_79 (by decide) ?_
              exact J _ (by unfold td_setc; rw [if_neg (show ¬ td_bv u i = true from fun z => h4 (of_decide_eq_true z)), if_pos (show td_bv v i = true from decide_eq_true h5)])
          · refine lv_iconst (v := 1) hx hb d_X1_set_63 (by decide) ?_
            refine lv_goto (tgt := 83) hx hb d_X1_set_64 (by decide) ?_
            exact J _ (by unfold td_setc; rw [if_pos (show td_bv u i = true from decide_eq_true h4)])
    · have hbz : ¬ (td_bset u v q0) = 0 := fun z => h3 (by rw [z]; decide)
      have hP : va_P D tdC [(o, .inr (1, [.int (td_bset u v q0), .ref (q 1), .ref (q 2), .ref (q 3), .ref (q 4), .int (if (td_bset u v q0) = 0 then 0 else md), .ref (q 6), .ref (q 7), .ref (q 8), .ref (q 9), .int ch, .ref (q 11), .int sc, .ref (q 13)])), ((q 1), .inl (cI, 1216, .inl (if (td_bset u v q0) = 0 then td_sw (td_setc u v) ce 64 else ce))), ((q 2), .inl (cI, 19, .inl (if (td_bset u v q0) = 0 then upd mv 0 q0 else mv)))] H := by rw [if_neg hbz, if_neg hbz, if_neg hbz]; exact hP
      have hD : va_D A [(o, .inr (1, [.int (td_bset u v q0), .ref (q 1), .ref (q 2), .ref (q 3), .ref (q 4), .int (if (td_bset u v q0) = 0 then 0 else md), .ref (q 6), .ref (q 7), .ref (q 8), .ref (q 9), .int ch, .ref (q 11), .int sc, .ref (q 13)])), ((q 1), .inl (cI, 1216, .inl (if (td_bset u v q0) = 0 then td_sw (td_setc u v) ce 64 else ce))), ((q 2), .inl (cI, 19, .inl (if (td_bset u v q0) = 0 then upd mv 0 q0 else mv)))] := by rw [if_neg hbz, if_neg hbz, if_neg hbz]; exact hD
      exact W.vret hx hb hr (fun t ht hW => ⟨⟨(), rfl, trivial, by rw [ht]; exact hP, va_K.moved hW.alike hK, hD⟩, hS.F ht⟩) hS.2.2 d_X1_set_35
  · refine td_joinu 20 ls [.ref o] (¬ (u &&& v) = 0 ∨ q0 < 0 ∨ 1 < q0) (fun hy => ?_) (fun J2 => ?_)
    · refine lv_iconst (v := 1) hx hb d_X1_set_20 (by decide) ?_
      refine lv_goto (tgt := 25) hx hb d_X1_set_21 (by decide) ?_
      exact J _ (by unfold td_bset; rw [if_pos hy])
    · refine lv_lload_n hx hb d_X1_set_1 rfl (lv_at hl 1 rfl) ?_
      refine lv_lload_n hx hb d_X1_set_2 rfl (lv_at hl 2 rfl) ?_
      refine lv_land hx hb d_X1_set_3 ?_
      refine lv_lconst (v := 0) hx hb d_X1_set_4 (by decide) ?_
      refine td_lne (tgt := 20) hx hb d_X1_set_5 d_X1_set_6 (by decide) (fun h0 => ?_) (fun h0 => ?_)
      · exact J2 (Or.inl h0)
      · refine lv_iload hx hb d_X1_set_9 (lv_at hl 3 rfl) ?_
        refine lv_if_lt (tgt := 20) hx hb d_X1_set_11 (by decide) (fun h1 => ?_) (fun h1 => ?_)
        · exact J2 (Or.inr (Or.inl h1))
        · refine lv_iload hx hb d_X1_set_14 (lv_at hl 3 rfl) ?_
          refine lv_iconst (v := 1) hx hb d_X1_set_16 (by decide) ?_
          refine lv_icmp_le (tgt := 24) hx hb d_X1_set_17 (by decide) (fun h2 => ?_) (fun h2 => ?_)
          · refine lv_iconst (v := 0) hx hb d_X1_set_24 (by decide) ?_
            exact J _ (by unfold td_bset; rw [if_neg (fun z => z.elim (fun z => z h0) (fun z => z.elim h1 (fun z => absurd z (Int32.not_lt.mpr h2))))])
          · exact J2 (Or.inr (Or.inr (Int32.not_le.mp h2)))
set_option maxHeartbeats 4000000 in
set_option maxRecDepth 100000 in
theorem m_X1_put (l : Launch) (D : va_G) (sz : Nat) (o : Nat) (q : Nat → Nat) (th ch sc : Int32) (cI cJ : ClassId) (M : tdM) (hk : M.2.2.2.2 < 64) (s0 : Nat) (hs0 : s0 ≤ 64) : Met l y_X1_put (k_X1_put :: tw) ({ frames := 3, cells := 0, slots := 0, locals := 79 }) (va_Pc [.ref o, .int (nI s0)] (fun U => U.heap.size = sz ∧ va_P D tdC [(o, .inr (1, [.int th, .ref (q 1), .ref (q 2), .ref (q 3), .ref (q 4), .int (nI M.2.2.2.2), .ref (q 6), .ref (q 7), .ref (q 8), .ref (q 9), .int ch, .ref (q 11), .int sc, .ref (q 13)])), ((q 1), .inl (cI, 1216, .inl M.1)), ((q 2), .inl (cI, 19, .inl M.2.1)), ((q 3), .inl (cI, 64, .inl M.2.2.1)), ((q 4), .inl (cJ, 64, .inr (.inl M.2.2.2.1)))] U.heap ∧ va_K D tdC [(cI, .int), (cJ, .long)] U ∧ va_D (fun _ => True) [(o, .inr (1, [.int th, .ref (q 1), .ref (q 2), .ref (q 3), .ref (q 4), .int (nI M.2.2.2.2), .ref (q 6), .ref (q 7), .ref (q 8), .ref (q 9), .int ch, .ref (q 11), .int sc, .ref (q 13)])), ((q 1), .inl (cI, 1216, .inl M.1)), ((q 2), .inl (cI, 19, .inl M.2.1)), ((q 3), .inl (cI, 64, .inl M.2.2.1)), ((q 4), .inl (cJ, 64, .inr (.inl M.2.2.2.1)))])) (va_Qi (fun (r : Int32) (_ : Unit) => r = nI (td_ones (td_pset M s0))) (fun (_ : Unit) t => va_P D tdC [(o, .inr (1, [.int th, .ref (q 1), .ref (q 2), .ref (q 3), .ref (q 4), .int (nI (td_put M s0).2.2.2.2), .ref (q 6), .ref (q 7), .ref (q 8), .ref (q 9), .int ch, .ref (q 11), .int sc, .ref (q 13)])), ((q 1), .inl (cI, 1216, .inl ((td_put M s0).1))), ((q 2), .inl (cI, 19, .inl ((td_put M s0).2.1))), ((q 3), .inl (cI, 64, .inl ((td_put M s0).2.2.1))), ((q 4), .inl (cJ, 64, .inr (.inl ((td_put M s0).2.2.2.1))))] t.heap ∧ va_K D tdC [(cI, .int), (cJ, .long)] t ∧ va_D (va_A [(o, .inr (1, [.int th, .ref (q 1), .ref (q 2), .ref (q 3), .ref (q 4), .int (nI M.2.2.2.2), .ref (q 6), .ref (q 7), .ref (q 8), .ref (q 9), .int ch, .ref (q 11), .int sc, .ref (q 13)])), ((q 1), .inl (cI, 1216, .inl M.1)), ((q 2), .inl (cI, 19, .inl M.2.1)), ((q 3), .inl (cI, 64, .inl M.2.2.1)), ((q 4), .inl (cJ, 64, .inr (.inl M.2.2.2.1)))] sz) [(o, .inr (1, [.int th, .ref (q 1), .ref (q 2), .ref (q 3), .ref (q 4), .int (nI (td_put M s0).2.2.2.2), .ref (q 6), .ref (q 7), .ref (q 8), .ref (q 9), .int ch, .ref (q 11), .int sc, .ref (q 13)])), ((q 1), .inl (cI, 1216, .inl ((td_put M s0).1))), ((q 2), .inl (cI, 19, .inl ((td_put M s0).2.1))), ((q 3), .inl (cI, 64, .inl ((td_put M s0).2.2.1))), ((q 4), .inl (cJ, 64, .inr (.inl ((td_put M s0).2.2.2.1))))]) (va_A [(o, .inr (1, [.int th, .ref (q 1), .ref (q 2), .ref (q 3), .ref (q 4), .int (nI M.2.2.2.2), .ref (q 6), .ref (q 7), .ref (q 8), .ref (q 9), .int ch, .ref (q 11), .int sc, .ref (q 13)])), ((q 1), .inl (cI, 1216, .inl M.1)), ((q 2), .inl (cI, 19, .inl M.2.1)), ((q 3), .inl (cI, 64, .inl M.2.2.1)), ((q 4), .inl (cJ, 64, .inr (.inl M.2.2.2.1)))] sz)) 0 0 (va_A [(o, .inr (1, [.int th, .ref (q 1), .ref (q 2), .ref (q 3), .ref (q 4), .int (nI M.2.2.2.2), .ref (q 6), .ref (q 7), .ref (q 8), .ref (q 9), .int ch, .ref (q 11), .int sc, .ref (q 13)])), ((q 1), .inl (cI, 1216, .inl M.1)), ((q 2), .inl (cI, 19, .inl M.2.1)), ((q 3), .inl (cI, 64, .inl M.2.2.1)), ((q 4), .inl (cJ, 64, .inr (.inl M.2.2.2.1)))] sz) := by
  refine Met.ofW (cc := c_X1_put) (maxL := 6) (ret := (some .int)) (by decide) rfl ?_
  intro p e s m args below meth c s₁ B hml hv
  obtain ⟨rfl, hsz, hP, hK, hD0⟩ := hv
  have hx := B.exec
  have hb := B.bytes
  have hr := B.returns
  have hts : ∀ w ∈ tw, w.before _ s = true := fun w h => atoms_spec (ws := k_X1_put :: tw) B.pre w (List.mem_cons_of_mem _ h)
  have hown : s.vm.findClass RX1 = some m.cls := findClass_of_methodNamed B.named
  have hlocks := B.notSynchronized
  subst hsz
  have hD := hD0.self (sz := s.heap.size)
  generalize hAe : va_A [(o, .inr (1, [.int th, .ref (q 1), .ref (q 2), .ref (q 3), .ref (q 4), .int (nI M.2.2.2.2), .ref (q 6), .ref (q 7), .ref (q 8), .ref (q 9), .int ch, .ref (q 11), .int sc, .ref (q 13)])), ((q 1), .inl (cI, 1216, .inl M.1)), ((q 2), .inl (cI, 19, .inl M.2.1)), ((q 3), .inl (cI, 64, .inl M.2.2.1)), ((q 4), .inl (cJ, 64, .inr (.inl M.2.2.2.1)))] s.heap.size = A at hD ⊢
  have hA : ∀ q : Nat, s.heap.size ≤ q → A q := fun q h => by rw [← hAe]; exact Or.inr h
  have hS : va_S A s.heap s.heap [] := va_S.rf
  have hP : va_P D tdC [(o, .inr (1, [.int th, .ref (q 1), .ref (q 2), .ref (q 3), .ref (q 4), .int (nI M.2.2.2.2), .ref (q 6), .ref (q 7), .ref (q 8), .ref (q 9), .int ch, .ref (q 11), .int sc, .ref (q 13)])), ((q 1), .inl (cI, 1216, .inl M.1)), ((q 2), .inl (cI, 19, .inl M.2.1)), ((q 3), .inl (cI, 64, .inl M.2.2.1)), ((q 4), .inl (cJ, 64, .inr (.inl M.2.2.2.1)))] s.heap := hP
  have hl := lv_entry ([.ref o, .int (nI s0)]) (n := 6) (Nat.le_of_ble_eq_true rfl)
  rw [lg_entry_eq]
  generalize (lg_sl ([.ref o, .int (nI s0)]) ++ List.replicate (6 - (lg_sl ([.ref o, .int (nI s0)])).length) Slot.unset).toArray = ls at hl ⊢
  have hl : lv_has ls 6 [(0, .ref o), (1, .int (nI s0))] := hl
  obtain ⟨ce, mv, ro, tu, k⟩ := M
  dsimp only at hk hP hD hAe ⊢
  have hl : lv_has ls 6 [(0, .ref o), (1, .int (nI s0))] := hl
  have hP : va_P D tdC [(o, .inr (1, [.int th, .ref (q 1), .ref (q 2), .ref (q 3), .ref (q 4), .int (nI k), .ref (q 6), .ref (q 7), .ref (q 8), .ref (q 9), .int ch, .ref (q 11), .int sc, .ref (q 13)])), ((q 1), .inl (cI, 1216, .inl ce)), ((q 2), .inl (cI, 19, .inl mv)), ((q 3), .inl (cI, 64, .inl ro)), ((q 4), .inl (cJ, 64, .inr (.inl tu)))] s.heap := hP
  have hD : va_D A [(o, .inr (1, [.int th, .ref (q 1), .ref (q 2), .ref (q 3), .ref (q 4), .int (nI k), .ref (q 6), .ref (q 7), .ref (q 8), .ref (q 9), .int ch, .ref (q 11), .int sc, .ref (q 13)])), ((q 1), .inl (cI, 1216, .inl ce)), ((q 2), .inl (cI, 19, .inl mv)), ((q 3), .inl (cI, 64, .inl ro)), ((q 4), .inl (cJ, 64, .inr (.inl tu)))] := hD
  have hcl : (nI k).toNatClampNeg = k := nI_clamp (by omega)
  have hP2 := hP.sub (ws' := [(o, .inr (1, [.int th, .ref (q 1), .ref (q 2), .ref (q 3), .ref (q 4), .int (nI k), .ref (q 6), .ref (q 7), .ref (q 8), .ref (q 9), .int ch, .ref (q 11), .int sc, .ref (q 13)])), ((q 1), .inl (cI, 1216, .inl ce))]) [0, 1] rfl
  have hK2 := hK.sub (tys' := [(cI, .int)]) [0] rfl
  refine lv_aload_n hx hb d_X1_put_0 rfl (lv_at hl 0 rfl) ?_
  refine va_get (D := D) (ci := 1) (v := .ref (q 2)) (C := RX1) (T := TX1) (N := 14) hx hb hts usX1 hown hK hP 0 rfl rfl 2 (by decide) (hts _ fl_X1_13) (fun _ h9 => h9) rfl d_X1_put_1 ?_
  refine lv_iconst (v := 0) hx hb d_X1_put_4 (by decide) ?_
  refine va_iald hx hb hK hP 2 0 rfl rfl (vp_in_nI (n := 0) (by decide) (by decide)) d_X1_put_5 ?_
  refine td_i (y := (mv 0)) (rfl) ?_
  refine lv_istore_n hx hb d_X1_put_6 rfl hl (by decide) rfl (fun ls hl => ?_)
  have hl : lv_has ls 6 [(2, .int (mv 0)), (0, .ref o), (1, .int (nI s0))] := hl
  generalize hz : td_pset (ce, mv, ro, tu, k) s0 = z0
  refine td_joinl 24 ls [] (fun x => x = z0) (fun x ex => ?_) (fun J => ?_)
  · subst ex
    clear hP2
    refine lv_lstore_n hx hb d_X1_put_24 rfl hl (by decide) rfl (fun ls hl => ?_)
    have hl : lv_has ls 6 [(3, .long x), (2, .int (mv 0)), (0, .ref o), (1, .int (nI s0))] := hl
    refine lv_iconst (v := 0) hx hb d_X1_put_25 (by decide) ?_
    refine lv_istore hx hb d_X1_put_26 hl (by decide) rfl (fun ls hl => ?_)
    have hl : lv_has ls 6 [(5, .int 0), (3, .long x), (2, .int (mv 0)), (0, .ref o), (1, .int (nI s0))] := hl
    rw [← td_sw_0 (td_putc ce (mv 0) s0 x) ce] at hP hD
    have hl0 := lv_sub hl [3, 4, 2, 1, 0] rfl
    refine td_loopH 28 [] (fun i : Nat => 64 - i) (fun i H locs ls => i ≤ 64 ∧ va_P D tdC [(o, .inr (1, [.int th, .ref (q 1), .ref (q 2), .ref (q 3), .ref (q 4), .int (nI k), .ref (q 6), .ref (q 7), .ref (q 8), .ref (q 9), .int ch, .ref (q 11), .int sc, .ref (q 13)])), ((q 1), .inl (cI, 1216, .inl (td_sw (td_putc ce (mv 0) s0 x) ce i))), ((q 2), .inl (cI, 19, .inl mv)), ((q 3), .inl (cI, 64, .inl ro)), ((q 4), .inl (cJ, 64, .inr (.inl tu)))] H ∧ va_D A [(o, .inr (1, [.int th, .ref (q 1), .ref (q 2), .ref (q 3), .ref (q 4), .int (nI k), .ref (q 6), .ref (q 7), .ref (q 8), .ref (q 9), .int ch, .ref (q 11), .int sc, .ref (q 13)])), ((q 1), .inl (cI, 1216, .inl (td_sw (td_putc ce (mv 0) s0 x) ce i))), ((q 2), .inl (cI, 19, .inl mv)), ((q 3), .inl (cI, 64, .inl ro)), ((q 4), .inl (cJ, 64, .inr (.inl tu)))] ∧ va_S A s.heap H locs ∧ lv_has ls 6 [(0, .ref o), (1, .int (nI s0)), (2, .int (mv 0)), (3, .long x), (5, .int (nI i))]) (fun i H locs ls hC ih => ?_) 0 ⟨Nat.zero_le _, hP, hD, hS, hl0⟩
    clear hl hl0 hP hD hS
    obtain ⟨hi, hP, hD, hS, hl⟩ := hC
    have hl : lv_has ls 6 [(0, .ref o), (1, .int (nI s0)), (2, .int (mv 0)), (3, .long x), (5, .int (nI i))] := hl
    have hP : va_P D tdC [(o, .inr (1, [.int th, .ref (q 1), .ref (q 2), .ref (q 3), .ref (q 4), .int (nI k), .ref (q 6), .ref (q 7), .ref (q 8), .ref (q 9), .int ch, .ref (q 11), .int sc, .ref (q 13)])), ((q 1), .inl (cI, 1216, .inl (td_sw (td_putc ce (mv 0) s0 x) ce i))), ((q 2), .inl (cI, 19, .inl mv)), ((q 3), .inl (cI, 64, .inl ro)), ((q 4), .inl (cJ, 64, .inr (.inl tu)))] H := hP
    have hD : va_D A [(o, .inr (1, [.int th, .ref (q 1), .ref (q 2), .ref (q 3), .ref (q 4), .int (nI k), .ref (q 6), .ref (q 7), .ref (q 8), .ref (q 9), .int ch, .ref (q 11), .int sc, .ref (q 13)])), ((q 1), .inl (cI, 1216, .inl (td_sw (td_putc ce (mv 0) s0 x) ce i))), ((q 2), .inl (cI, 19, .inl mv)), ((q 3), .inl (cI, 64, .inl ro)), ((q 4), .inl (cJ, 64, .inr (.inl tu)))] := hD
    refine lv_iload hx hb d_X1_put_28 (lv_at hl 4 rfl) ?_
    refine lv_bipush (v := 64) hx hb d_X1_put_30 (by decide) ?_
    refine lv_icmp_ge (tgt := 78) hx hb d_X1_put_32 (by decide) (fun h1 => ?_) (fun h1 => ?_)
    · have h64 : i = 64 := Nat.le_antisymm hi ((nI_leI (a := 64) (b := i) (by decide) (by omega)).mp h1)
      subst h64
      refine lv_aload_n hx hb d_X1_put_78 rfl (lv_at hl 0 rfl) ?_
      refine va_get (D := D) (ci := 1) (v := .ref (q 2)) (C := RX1) (T := TX1) (N := 14) hx hb hts usX1 hown hK hP 0 rfl rfl 2 (by decide) (hts _ fl_X1_13) (fun _ h9 => h9) rfl d_X1_put_79 ?_
      refine lv_iconst (v := 0) hx hb d_X1_put_82 (by decide) ?_
      refine lv_iconst (v := 1) hx hb d_X1_put_83 (by decide) ?_
      refine lv_iload_n hx hb d_X1_put_84 rfl (lv_at hl 2 rfl) ?_
      refine lv_isub hx hb d_X1_put_85 ?_
      refine va_iast hx hb hK hP hD hS 2 0 rfl rfl (vp_in_nI (n := 0) (by decide) (by decide)) d_X1_put_86 (fun H locs hP hD hS => ?_)
      have hu : upd mv (0 : Int32).toNatClampNeg (1 - (mv 0)) = (upd mv 0 (1 - mv 0)) := rfl
      have hP : va_P D tdC [(o, .inr (1, [.int th, .ref (q 1), .ref (q 2), .ref (q 3), .ref (q 4), .int (nI k), .ref (q 6), .ref (q 7), .ref (q 8), .ref (q 9), .int ch, .ref (q 11), .int sc, .ref (q 13)])), ((q 1), .inl (cI, 1216, .inl (td_sw (td_putc ce (mv 0) s0 x) ce 64))), ((q 2), .inl (cI, 19, .inl (upd mv (0 : Int32).toNatClampNeg (1 - (mv 0))))), ((q 3), .inl (cI, 64, .inl ro)), ((q 4), .inl (cJ, 64, .inr (.inl tu)))] H := hP
      have hD : va_D A [(o, .inr (1, [.int th, .ref (q 1), .ref (q 2), .ref (q 3), .ref (q 4), .int (nI k), .ref (q 6), .ref (q 7), .ref (q 8), .ref (q 9), .int ch, .ref (q 11), .int sc, .ref (q 13)])), ((q 1), .inl (cI, 1216, .inl (td_sw (td_putc ce (mv 0) s0 x) ce 64))), ((q 2), .inl (cI, 19, .inl (upd mv (0 : Int32).toNatClampNeg (1 - (mv 0))))), ((q 3), .inl (cI, 64, .inl ro)), ((q 4), .inl (cJ, 64, .inr (.inl tu)))] := hD
      rw [hu] at hP hD
      clear hu
      have hP : va_P D tdC [(o, .inr (1, [.int th, .ref (q 1), .ref (q 2), .ref (q 3), .ref (q 4), .int (nI k), .ref (q 6), .ref (q 7), .ref (q 8), .ref (q 9), .int ch, .ref (q 11), .int sc, .ref (q 13)])), ((q 1), .inl (cI, 1216, .inl (td_sw (td_putc ce (mv 0) s0 x) ce 64))), ((q 2), .inl (cI, 19, .inl (upd mv 0 (1 - mv 0)))), ((q 3), .inl (cI, 64, .inl ro)), ((q 4), .inl (cJ, 64, .inr (.inl tu)))] H := hP
      have hD : va_D A [(o, .inr (1, [.int th, .ref (q 1), .ref (q 2), .ref (q 3), .ref (q 4), .int (nI k), .ref (q 6), .ref (q 7), .ref (q 8), .ref (q 9), .int ch, .ref (q 11), .int sc, .ref (q 13)])), ((q 1), .inl (cI, 1216, .inl (td_sw (td_putc ce (mv 0) s0 x) ce 64))), ((q 2), .inl (cI, 19, .inl (upd mv 0 (1 - mv 0)))), ((q 3), .inl (cI, 64, .inl ro)), ((q 4), .inl (cJ, 64, .inr (.inl tu)))] := hD
      refine lv_aload_n hx hb d_X1_put_87 rfl (lv_at hl 0 rfl) ?_
      refine va_get (D := D) (ci := 1) (v := .ref (q 3)) (C := RX1) (T := TX1) (N := 14) hx hb hts usX1 hown hK hP 0 rfl rfl 3 (by decide) (hts _ fl_X1_16) (fun _ h9 => h9) rfl d_X1_put_88 ?_
      refine lv_aload_n hx hb d_X1_put_91 rfl (lv_at hl 0 rfl) ?_
      refine va_get (D := D) (ci := 1) (v := .int (nI k)) (C := RX1) (T := TX1) (N := 14) hx hb hts usX1 hown hK hP 0 rfl rfl 5 (by decide) (hts _ fl_X1_49) (fun _ h9 => h9) rfl d_X1_put_92 ?_
      refine lv_iload_n hx hb d_X1_put_95 rfl (lv_at hl 1 rfl) ?_
      refine va_iast hx hb hK hP hD hS 3 0 rfl rfl (vp_in_nI hk (by decide)) d_X1_put_96 (fun H locs hP hD hS => ?_)
      have hu : upd ro (nI k).toNatClampNeg (nI s0) = (upd ro k (nI s0)) := by rw [hcl]
      have hP : va_P D tdC [(o, .inr (1, [.int th, .ref (q 1), .ref (q 2), .ref (q 3), .ref (q 4), .int (nI k), .ref (q 6), .ref (q 7), .ref (q 8), .ref (q 9), .int ch, .ref (q 11), .int sc, .ref (q 13)])), ((q 1), .inl (cI, 1216, .inl (td_sw (td_putc ce (mv 0) s0 x) ce 64))), ((q 2), .inl (cI, 19, .inl (upd mv 0 (1 - mv 0)))), ((q 3), .inl (cI, 64, .inl (upd ro (nI k).toNatClampNeg (nI s0)))), ((q 4), .inl (cJ, 64, .inr (.inl tu)))] H := hP
      have hD : va_D A [(o, .inr (1, [.int th, .ref (q 1), .ref (q 2), .ref (q 3), .ref (q 4), .int (nI k), .ref (q 6), .ref (q 7), .ref (q 8), .ref (q 9), .int ch, .ref (q 11), .int sc, .ref (q 13)])), ((q 1), .inl (cI, 1216, .inl (td_sw (td_putc ce (mv 0) s0 x) ce 64))), ((q 2), .inl (cI, 19, .inl (upd mv 0 (1 - mv 0)))), ((q 3), .inl (cI, 64, .inl (upd ro (nI k).toNatClampNeg (nI s0)))), ((q 4), .inl (cJ, 64, .inr (.inl tu)))] := hD
      rw [hu] at hP hD
      clear hu
      have hP : va_P D tdC [(o, .inr (1, [.int th, .ref (q 1), .ref (q 2), .ref (q 3), .ref (q 4), .int (nI k), .ref (q 6), .ref (q 7), .ref (q 8), .ref (q 9), .int ch, .ref (q 11), .int sc, .ref (q 13)])), ((q 1), .inl (cI, 1216, .inl (td_sw (td_putc ce (mv 0) s0 x) ce 64))), ((q 2), .inl (cI, 19, .inl (upd mv 0 (1 - mv 0)))), ((q 3), .inl (cI, 64, .inl (upd ro k (nI s0)))), ((q 4), .inl (cJ, 64, .inr (.inl tu)))] H := hP
      have hD : va_D A [(o, .inr (1, [.int th, .ref (q 1), .ref (q 2), .ref (q 3), .ref (q 4), .int (nI k), .ref (q 6), .ref (q 7), .ref (q 8), .ref (q 9), .int ch, .ref (q 11), .int sc, .ref (q 13)])), ((q 1), .inl (cI, 1216, .inl (td_sw (td_putc ce (mv 0) s0 x) ce 64))), ((q 2), .inl (cI, 19, .inl (upd mv 0 (1 - mv 0)))), ((q 3), .inl (cI, 64, .inl (upd ro k (nI s0)))), ((q 4), .inl (cJ, 64, .inr (.inl tu)))] := hD
      refine lv_aload_n hx hb d_X1_put_97 rfl (lv_at hl 0 rfl) ?_
      refine va_get (D := D) (ci := 1) (v := .ref (q 4)) (C := RX1) (T := TX1) (N := 14) hx hb hts usX1 hown hK hP 0 rfl rfl 4 (by decide) (hts _ fl_X1_19) (fun _ h9 => h9) rfl d_X1_put_98 ?_
      refine lv_aload_n hx hb d_X1_put_101 rfl (lv_at hl 0 rfl) ?_
      refine va_get (D := D) (ci := 1) (v := .int (nI k)) (C := RX1) (T := TX1) (N := 14) hx hb hts usX1 hown hK hP 0 rfl rfl 5 (by decide) (hts _ fl_X1_49) (fun _ h9 => h9) rfl d_X1_put_102 ?_
      refine lv_lload_n hx hb d_X1_put_105 rfl (lv_at hl 3 rfl) ?_
      refine va_last hx hb hK hP hD hS 4 1 rfl rfl (vp_in_nI hk (by decide)) d_X1_put_106 (fun H locs hP hD hS => ?_)
      have hu : vp_updL tu (nI k).toNatClampNeg x = (vp_updL tu k x) := by rw [hcl]
      have hP : va_P D tdC [(o, .inr (1, [.int th, .ref (q 1), .ref (q 2), .ref (q 3), .ref (q 4), .int (nI k), .ref (q 6), .ref (q 7), .ref (q 8), .ref (q 9), .int ch, .ref (q 11), .int sc, .ref (q 13)])), ((q 1), .inl (cI, 1216, .inl (td_sw (td_putc ce (mv 0) s0 x) ce 64))), ((q 2), .inl (cI, 19, .inl (upd mv 0 (1 - mv 0)))), ((q 3), .inl (cI, 64, .inl (upd ro k (nI s0)))), ((q 4), .inl (cJ, 64, .inr (.inl (vp_updL tu (nI k).toNatClampNeg x))))] H := hP
      have hD : va_D A [(o, .inr (1, [.int th, .ref (q 1), .ref (q 2), .ref (q 3), .ref (q 4), .int (nI k), .ref (q 6), .ref (q 7), .ref (q 8), .ref (q 9), .int ch, .ref (q 11), .int sc, .ref (q 13)])), ((q 1), .inl (cI, 1216, .inl (td_sw (td_putc ce (mv 0) s0 x) ce 64))), ((q 2), .inl (cI, 19, .inl (upd mv 0 (1 - mv 0)))), ((q 3), .inl (cI, 64, .inl (upd ro k (nI s0)))), ((q 4), .inl (cJ, 64, .inr (.inl (vp_updL tu (nI k).toNatClampNeg x))))] := hD
      rw [hu] at hP hD
      clear hu
      have hP : va_P D tdC [(o, .inr (1, [.int th, .ref (q 1), .ref (q 2), .ref (q 3), .ref (q 4), .int (nI k), .ref (q 6), .ref (q 7), .ref (q 8), .ref (q 9), .int ch, .ref (q 11), .int sc, .ref (q 13)])), ((q 1), .inl (cI, 1216, .inl (td_sw (td_putc ce (mv 0) s0 x) ce 64))), ((q 2), .inl (cI, 19, .inl (upd mv 0 (1 - mv 0)))), ((q 3), .inl (cI, 64, .inl (upd ro k (nI s0)))), ((q 4), .inl (cJ, 64, .inr (.inl (vp_updL tu k x))))] H := hP
      have hD : va_D A [(o, .inr (1, [.int th, .ref (q 1), .ref (q 2), .ref (q 3), .ref (q 4), .int (nI k), .ref (q 6), .ref (q 7), .ref (q 8), .ref (q 9), .int ch, .ref (q 11), .int sc, .ref (q 13)])), ((q 1), .inl (cI, 1216, .inl (td_sw (td_putc ce (mv 0) s0 x) ce 64))), ((q 2), .inl (cI, 19, .inl (upd mv 0 (1 - mv 0)))), ((q 3), .inl (cI, 64, .inl (upd ro k (nI s0)))), ((q 4), .inl (cJ, 64, .inr (.inl (vp_updL tu k x))))] := hD
      refine lv_aload_n hx hb d_X1_put_107 rfl (lv_at hl 0 rfl) ?_
      refine lv_dup hx hb d_X1_put_108 rfl ?_
      refine va_get (D := D) (ci := 1) (v := .int (nI k)) (C := RX1) (T := TX1) (N := 14) hx hb hts usX1 hown hK hP 0 rfl rfl 5 (by decide) (hts _ fl_X1_49) (fun _ h9 => h9) rfl d_X1_put_109 ?_
      refine lv_iconst (v := 1) hx hb d_X1_put_112 (by decide) ?_
      refine lv_iadd hx hb d_X1_put_113 ?_
      refine td_i (y := (nI (k + 1))) ((nI_succ k).symm) ?_
      refine va_put (D := D) (ci := 1) (v := .int (nI (k + 1))) (ty := .int) (C := RX1) (T := TX1) (N := 14) hx hb hts usX1 tyX1 tyX1_ok nmX1 hown hK hP hD hS 0 rfl rfl 5 (by decide) (hts _ fl_X1_49) (fun _ h9 => h9) rfl (by decide +kernel) rfl rfl (Nat.le_of_ble_eq_true rfl) d_X1_put_114 (fun H locs hP hD hS => ?_)
      have hP : va_P D tdC [(o, .inr (1, [.int th, .ref (q 1), .ref (q 2), .ref (q 3), .ref (q 4), .int (nI (k + 1)), .ref (q 6), .ref (q 7), .ref (q 8), .ref (q 9), .int ch, .ref (q 11), .int sc, .ref (q 13)])), ((q 1), .inl (cI, 1216, .inl (td_sw (td_putc ce (mv 0) s0 x) ce 64))), ((q 2), .inl (cI, 19, .inl (upd mv 0 (1 - mv 0)))), ((q 3), .inl (cI, 64, .inl (upd ro k (nI s0)))), ((q 4), .inl (cJ, 64, .inr (.inl (vp_updL tu k x))))] H := hP
      have hD : va_D A [(o, .inr (1, [.int th, .ref (q 1), .ref (q 2), .ref (q 3), .ref (q 4), .int (nI (k + 1)), .ref (q 6), .ref (q 7), .ref (q 8), .ref (q 9), .int ch, .ref (q 11), .int sc, .ref (q 13)])), ((q 1), .inl (cI, 1216, .inl (td_sw (td_putc ce (mv 0) s0 x) ce 64))), ((q 2), .inl (cI, 19, .inl (upd mv 0 (1 - mv 0)))), ((q 3), .inl (cI, 64, .inl (upd ro k (nI s0)))), ((q 4), .inl (cJ, 64, .inr (.inl (vp_updL tu k x))))] := hD
      refine lv_lload_n hx hb d_X1_put_117 rfl (lv_at hl 3 rfl) ?_
      refine vp_callSi (W.runS (As := [.long x]) (rest := []) ⟨hx, hb, hml, hown, hts⟩ (m_X1_ones l x) (va_cwS 1 hts (tw_S ml_X1_83 st_X1_ones in_X1 kw_X1_ones) rfl rfl rfl (by decide +kernel) ⟨Nat.le_of_ble_eq_true rfl, Nat.le_of_ble_eq_true rfl⟩) ⟨fun _ _ _ _ q => q, fun U hU hW => ⟨rfl, trivial⟩⟩ rfl rfl hl.1 rfl (lv_room (Nat.le_of_ble_eq_true rfl)) d_X1_put_118 ⟨Nat.zero_le _, Nat.zero_le _⟩) (fun r h9 => ?_)
      subst h9
      subst hz
      exact W.iret (v := _) hx hb hr (fun t ht hW => ⟨⟨_, (), rfl, rfl, by rw [ht]; exact hP, va_K.moved hW.alike hK, hD⟩, hS.F ht⟩) hS.2.2 d_X1_put_121
    · have h64 : i < 64 := Nat.lt_of_not_le (fun z => h1 ((nI_leI (a := 64) (b := i) (by decide) (by omega)).mpr z))
      have hcli : (nI i).toNatClampNeg = i := nI_clamp (by omega)
      refine lv_aload_n hx hb d_X1_put_35 rfl (lv_at hl 0 rfl) ?_
      refine va_get (D := D) (ci := 1) (v := .ref (q 1)) (C := RX1) (T := TX1) (N := 14) hx hb hts usX1 hown hK hP 0 rfl rfl 1 (by decide) (hts _ fl_X1_7) (fun _ h9 => h9) rfl d_X1_put_36 ?_
      refine lv_iload hx hb d_X1_put_39 (lv_at hl 4 rfl) ?_
      refine td_joini 71 ls [.int (nI i), .ref (q 1)] (fun y => y = (td_putc ce (mv 0) s0 x) i) (fun y ey => ?_) (fun J => ?_)
      · refine va_iast hx hb hK hP hD hS 1 0 rfl rfl (vp_in_nI (show i < 1216 by omega) (by decide)) d_X1_put_71 (fun H locs hP hD hS => ?_)
        have hu : upd (td_sw (td_putc ce (mv 0) s0 x) ce i) (nI i).toNatClampNeg y = (td_sw (td_putc ce (mv 0) s0 x) ce (i + 1)) := by rw [hcli]; exact td_sw_s ey
        have hP : va_P D tdC [(o, .inr (1, [.int th, .ref (q 1), .ref (q 2), .ref (q 3), .ref (q 4), .int (nI k), .ref (q 6), .ref (q 7), .ref (q 8), .ref (q 9), .int ch, .ref (q 11), .int sc, .ref (q 13)])), ((q 1), .inl (cI, 1216, .inl (upd (td_sw (td_putc ce (mv 0) s0 x) ce i) (nI i).toNatClampNeg y))), ((q 2), .inl (cI, 19, .inl mv)), ((q 3), .inl (cI, 64, .inl ro)), ((q 4), .inl (cJ, 64, .inr (.inl tu)))] H := hP
        have hD : va_D A [(o, .inr (1, [.int th, .ref (q 1), .ref (q 2), .ref (q 3), .ref (q 4), .int (nI k), .ref (q 6), .ref (q 7), .ref (q 8), .ref (q 9), .int ch, .ref (q 11), .int sc, .ref (q 13)])), ((q 1), .inl (cI, 1216, .inl (upd (td_sw (td_putc ce (mv 0) s0 x) ce i) (nI i).toNatClampNeg y))), ((q 2), .inl (cI, 19, .inl mv)), ((q 3), .inl (cI, 64, .inl ro)), ((q 4), .inl (cJ, 64, .inr (.inl tu)))] := hD
        rw [hu] at hP hD
        clear hu
        have hP : va_P D tdC [(o, .inr (1, [.int th, .ref (q 1), .ref (q 2), .ref (q 3), .ref (q 4), .int (nI k), .ref (q 6), .ref (q 7), .ref (q 8), .ref (q 9), .int ch, .ref (q 11), .int sc, .ref (q 13)])), ((q 1), .inl (cI, 1216, .inl (td_sw (td_putc ce (mv 0) s0 x) ce (i + 1)))), ((q 2), .inl (cI, 19, .inl mv)), ((q 3), .inl (cI, 64, .inl ro)), ((q 4), .inl (cJ, 64, .inr (.inl tu)))] H := hP
        have hD : va_D A [(o, .inr (1, [.int th, .ref (q 1), .ref (q 2), .ref (q 3), .ref (q 4), .int (nI k), .ref (q 6), .ref (q 7), .ref (q 8), .ref (q 9), .int ch, .ref (q 11), .int sc, .ref (q 13)])), ((q 1), .inl (cI, 1216, .inl (td_sw (td_putc ce (mv 0) s0 x) ce (i + 1)))), ((q 2), .inl (cI, 19, .inl mv)), ((q 3), .inl (cI, 64, .inl ro)), ((q 4), .inl (cJ, 64, .inr (.inl tu)))] := hD
        refine lv_iinc (k := 4) (v := (nI (i + 1))) hx hb d_X1_put_72 hl rfl ((nI_succ i).symm) (by decide) rfl (fun ls hl => ?_)
        have hl : lv_has ls 6 [(5, .int (nI (i + 1))), (0, .ref o), (1, .int (nI s0)), (2, .int (mv 0)), (3, .long x)] := hl
        refine lv_goto (tgt := 28) hx hb d_X1_put_75 (by decide) ?_
        have hl1 := lv_sub hl [1, 2, 3, 4, 0] rfl
        exact ih (i + 1) _ _ _ (by omega) ⟨h64, hP, hD, hS, hl1⟩
      · refine td_joinu 58 ls [.int (nI i), .ref (q 1)] (i = s0 ∨ td_bv x i = true) (fun hy => ?_) (fun J2 => ?_)
        · refine lv_iload_n hx hb d_X1_put_58 rfl (lv_at hl 2 rfl) ?_
          refine lv_iconst (v := 1) hx hb d_X1_put_59 (by decide) ?_
          refine lv_iadd hx hb d_X1_put_60 ?_
          refine lv_goto (tgt := 71) hx hb d_X1_put_61 (by decide) ?_
          exact J _ (by unfold td_putc; rw [if_pos hy])
        · refine lv_iload hx hb d_X1_put_41 (lv_at hl 4 rfl) ?_
          refine lv_iload_n hx hb d_X1_put_43 rfl (lv_at hl 1 rfl) ?_
          refine lv_icmp_eq (tgt := 58) hx hb d_X1_put_44 (by decide) (fun h2 => ?_) (fun h2 => ?_)
          · exact J2 (Or.inl ((nI_eq (by omega) (by omega)).mp h2))
          · refine lv_lload_n hx hb d_X1_put_47 rfl (lv_at hl 3 rfl) ?_
            refine lv_iload hx hb d_X1_put_48 (lv_at hl 4 rfl) ?_
            refine lv_lshr (v := (td_lshr x (nI i))) hx hb d_X1_put_50 rfl ?_
            refine lv_lconst (v := 1) hx hb d_X1_put_51 (by decide) ?_
            refine lv_land hx hb d_X1_put_52 ?_
            refine lv_lconst (v := 1) hx hb d_X1_put_53 (by decide) ?_
            refine td_lne (tgt := 64) hx hb d_X1_put_54 d_X1_put_55 (by decide) (fun h3 => ?_) (fun h3 => ?_)
            · refine lv_aload_n hx hb d_X1_put_64 rfl (lv_at hl 0 rfl) ?_
              refine va_get (D := D) (ci := 1) (v := .ref (q 1)) (C := RX1) (T := TX1) (N := 14) hx hb hts usX1 hown hK hP 0 rfl rfl 1 (by decide) (hts _ fl_X1_7) (fun _ h9 => h9) rfl d_X1_put_65 ?_
              refine lv_iload hx hb d_X1_put_68 (lv_at hl 4 rfl) ?_
              refine va_iald hx hb hK hP 1 0 rfl rfl (vp_in_nI (show i < 1216 by omega) (by decide)) d_X1_put_70 ?_
              refine td_i (y := (ce i)) (by rw [hcli]; exact td_sw_at _ _ _) ?_
              exact J _ (by unfold td_putc; rw [if_neg (fun z => z.elim (fun z => h2 (by rw [z])) (fun z => h3 (of_decide_eq_true z)))])
            · exact J2 (Or.inr (decide_eq_true h3))
  · refine lv_iload_n hx hb d_X1_put_7 rfl (lv_at hl 2 rfl) ?_
    refine lv_bipush (v := 64) hx hb d_X1_put_8 (by decide) ?_
    refine lv_icmp_ne (tgt := 17) hx hb d_X1_put_10 (by decide) (fun h0 => ?_) (fun h0 => ?_)
    · have hs : s0 < 64 := by have : s0 ≠ 64 := fun z => h0 (by rw [z]; rfl); omega
      refine lv_aload_n hx hb d_X1_put_17 rfl (lv_at hl 1 rfl) ?_
      refine lv_iconst (v := 0) hx hb d_X1_put_18 (by decide) ?_
      refine lv_iload_n hx hb d_X1_put_19 rfl (lv_at hl 2 rfl) ?_
      refine lv_iload_n hx hb d_X1_put_20 rfl (lv_at hl 0 rfl) ?_
      refine vp_callSl (W.runV (b := o) (C := RX1) (As := [.int 0, .int (nI s0), .int (mv 0)]) (rest := []) ⟨hx, hb, hml, hown, hts⟩ (m_X1_flipsAt l D o (q 1) cI [.int th, .ref (q 1), .ref (q 2), .ref (q 3), .ref (q 4), .int (nI k), .ref (q 6), .ref (q 7), .ref (q 8), .ref (q 9), .int ch, .ref (q 11), .int sc, .ref (q 13)] rfl ce 0 (by decide) s0 hs (mv 0)) (cwV 3 hts (tw_V ml_X1_71 im_X1_flipsAt se_X1_flipsAt in_X1 kw_X1_flipsAt) rfl rfl rfl (by decide +kernel) ⟨Nat.le_of_ble_eq_true rfl, Nat.le_of_ble_eq_true rfl⟩) ⟨fun a U g mk q => ⟨q.1, q.2.1, va_K.moved (u := U) (U := U.calling g mk a) (Vm.Alike.refl U.vm) q.2.2⟩, va_recv (q0 := 0) (ci := 1) hK hP rfl rfl, fun U hU hW => ⟨rfl, by rw [hU]; exact hP2, va_K.moved hW.alike hK2⟩⟩ rfl rfl hl.1 rfl (lv_room (Nat.le_of_ble_eq_true rfl)) d_X1_put_21 ⟨Nat.zero_le _, Nat.zero_le _⟩) (fun r h9 => ?_)
      subst h9
      exact J _ (by rw [← hz]; unfold td_pset; rw [if_neg (by omega)])
    · have hs : s0 = 64 := (nI_eq (a := s0) (b := 64) (by omega) (by decide)).mp h0
      refine lv_lconst (v := 0) hx hb d_X1_put_13 (by decide) ?_
      refine lv_goto (tgt := 24) hx hb d_X1_put_14 (by decide) ?_
      exact J _ (by rw [← hz]; unfold td_pset; rw [if_pos hs])
