/-! the reference's levels -/
def td_isE (g : Nat → Int32) : Nat → Bool := fun i => decide (g i = 0)
def td_spf (g : Nat → Int32) (sp : Nat → Int32) : Nat → Nat → Int32
  | 0 => sp
  | i + 1 => if g i = 0 then upd (td_spf g sp i) (td_cn (td_isE g) i) (nI i) else td_spf g sp i
def td_n0 (g : Nat → Int32) : Nat := td_cn (td_isE g) 64
def td_sw2 (f g : Nat → Int32) (b i : Nat) : Nat → Int32 := fun k => if b ≤ k ∧ k < b + i then f (k - b) else g k
theorem td_sw2_0 (f g : Nat → Int32) (b : Nat) : td_sw2 f g b 0 = g := by
  funext k; unfold td_sw2; rw [if_neg (by omega)]
theorem td_sw2_s {f g : Nat → Int32} {b i : Nat} {x : Int32} (h : x = f i) : upd (td_sw2 f g b i) (b + i) x = td_sw2 f g b (i + 1) := by
  subst h
  funext k
  by_cases hk : k = b + i
  · subst hk; rw [pk_us]; unfold td_sw2; rw [if_pos (by omega), Nat.add_sub_cancel_left]
  · rw [pk_un hk]; unfold td_sw2
    by_cases h1 : b ≤ k ∧ k < b + i
    · rw [if_pos h1, if_pos (by omega)]
    · rw [if_neg h1, if_neg (by omega)]
theorem td_sw2_lt {f g : Nat → Int32} {b i k : Nat} (h : k < b) : td_sw2 f g b i k = g k := by unfold td_sw2; rw [if_neg (by omega)]
/-- the disc set of a move or a pass, and the board behind it -/
def td_zs (g : Nat → Int32) (who : Int32) (s0 : Nat) : Int64 := if s0 = 64 then 0 else td_fl g who s0
def td_ch (g : Nat → Int32) (who : Int32) (s0 : Nat) : Nat → Int32 := td_putc g who s0 (td_zs g who s0)
def td_lay (ce : Nat → Int32) (L : Nat) (who : Int32) (s0 : Nat) : Nat → Int32 := td_sw2 (td_ch (td_lv ce L) who s0) ce (64 * L + 64) 64
/-- can who move to one of the spots -/
def td_mm (sn : Nat → Nat) (n0 : Nat) (g : Nat → Int32) (who : Int32) : Bool := decide (0 < td_cap (fun i => td_any g who (sn i)) 1 n0 0 0)
def td_eA (m : Bool) (n0 : Nat) : Int32 := if m then 0 else nI n0
def td_eP (m m2 : Bool) : Int32 := if m then 0 else if m2 then 1 else 0
def td_eW (m m2 : Bool) (d : Int32) : Int32 := if m then -1000 else if m2 then -1000 else d
def td_df (g : Nat → Int32) (who : Int32) : Int32 := nI (td_dc g who) - nI (td_dc g (1 - who))
/-- the next spot from place a on where who can move -/
def td_nextI (sn : Nat → Nat) (g : Nat → Int32) (who : Int32) : Nat → Nat → Nat × Option Nat
  | 0, a => (a, none)
  | r + 1, a => if td_any g who (sn a) then (a + 1, some (sn a)) else td_nextI sn g who r (a + 1)
theorem td_upd2 (f : Nat → Int32) (k : Nat) (x y : Int32) : upd (upd f k x) k y = upd f k y := by
  funext j
  by_cases h : j = k
  · subst h; rw [pk_us, pk_us]
  · rw [pk_un h, pk_un h, pk_un h]
set_option maxHeartbeats 4000000 in
set_option maxRecDepth 100000 in
theorem m_X1_findSpots (l : Launch) (D : va_G) (sz : Nat) (o : Nat) (q : Nat → Nat) (th md ch sc : Int32) (cI : ClassId) (ce sp : Nat → Int32) : Met l y_X1_findSpots (k_X1_findSpots :: tw) ({ frames := 0, cells := 0, slots := 0, locals := 0 }) (va_Pc [.ref o] (fun U => U.heap.size = sz ∧ va_P D tdC [(o, .inr (1, [.int th, .ref (q 1), .ref (q 2), .ref (q 3), .ref (q 4), .int md, .ref (q 6), .ref (q 7), .ref (q 8), .ref (q 9), .int ch, .ref (q 11), .int sc, .ref (q 13)])), ((q 1), .inl (cI, 1216, .inl ce)), ((q 11), .inl (cI, 64, .inl sp))] U.heap ∧ va_K D tdC [(cI, .int)] U ∧ va_D (fun _ => True) [(o, .inr (1, [.int th, .ref (q 1), .ref (q 2), .ref (q 3), .ref (q 4), .int md, .ref (q 6), .ref (q 7), .ref (q 8), .ref (q 9), .int ch, .ref (q 11), .int sc, .ref (q 13)])), ((q 1), .inl (cI, 1216, .inl ce)), ((q 11), .inl (cI, 64, .inl sp))])) (va_Qv (fun (_ : Unit) => True) (fun (_ : Unit) t => va_P D tdC [(o, .inr (1, [.int th, .ref (q 1), .ref (q 2), .ref (q 3), .ref (q 4), .int md, .ref (q 6), .ref (q 7), .ref (q 8), .ref (q 9), .int ch, .ref (q 11), .int (nI (td_n0 (td_lv ce 0))), .ref (q 13)])), ((q 1), .inl (cI, 1216, .inl ce)), ((q 11), .inl (cI, 64, .inl (td_spf (td_lv ce 0) sp 64)))] t.heap ∧ va_K D tdC [(cI, .int)] t ∧ va_D (va_A [(o, .inr (1, [.int th, .ref (q 1), .ref (q 2), .ref (q 3), .ref (q 4), .int md, .ref (q 6), .ref (q 7), .ref (q 8), .ref (q 9), .int ch, .ref (q 11), .int sc, .ref (q 13)])), ((q 1), .inl (cI, 1216, .inl ce)), ((q 11), .inl (cI, 64, .inl sp))] sz) [(o, .inr (1, [.int th, .ref (q 1), .ref (q 2), .ref (q 3), .ref (q 4), .int md, .ref (q 6), .ref (q 7), .ref (q 8), .ref (q 9), .int ch, .ref (q 11), .int (nI (td_n0 (td_lv ce 0))), .ref (q 13)])), ((q 1), .inl (cI, 1216, .inl ce)), ((q 11), .inl (cI, 64, .inl (td_spf (td_lv ce 0) sp 64)))]) (va_A [(o, .inr (1, [.int th, .ref (q 1), .ref (q 2), .ref (q 3), .ref (q 4), .int md, .ref (q 6), .ref (q 7), .ref (q 8), .ref (q 9), .int ch, .ref (q 11), .int sc, .ref (q 13)])), ((q 1), .inl (cI, 1216, .inl ce)), ((q 11), .inl (cI, 64, .inl sp))] sz)) 0 0 (va_A [(o, .inr (1, [.int th, .ref (q 1), .ref (q 2), .ref (q 3), .ref (q 4), .int md, .ref (q 6), .ref (q 7), .ref (q 8), .ref (q 9), .int ch, .ref (q 11), .int sc, .ref (q 13)])), ((q 1), .inl (cI, 1216, .inl ce)), ((q 11), .inl (cI, 64, .inl sp))] sz) := by
  refine Met.ofW (cc := c_X1_findSpots) (maxL := 2) (ret := none) (by decide) rfl ?_
  intro p e s m args below meth c s₁ B hml hv
  obtain ⟨rfl, hsz, hP, hK, hD0⟩ := hv
  have hx := B.exec
  have hb := B.bytes
  have hr := B.returns
  have hts : ∀ w ∈ tw, w.before _ s = true := fun w h => atoms_spec (ws := k_X1_findSpots :: tw) B.pre w (List.mem_cons_of_mem _ h)
  have hown : s.vm.findClass RX1 = some m.cls := findClass_of_methodNamed B.named
  have hlocks := B.notSynchronized
  subst hsz
  have hD := hD0.self (sz := s.heap.size)
  generalize hAe : va_A [(o, .inr (1, [.int th, .ref (q 1), .ref (q 2), .ref (q 3), .ref (q 4), .int md, .ref (q 6), .ref (q 7), .ref (q 8), .ref (q 9), .int ch, .ref (q 11), .int sc, .ref (q 13)])), ((q 1), .inl (cI, 1216, .inl ce)), ((q 11), .inl (cI, 64, .inl sp))] s.heap.size = A at hD ⊢
  have hA : ∀ q : Nat, s.heap.size ≤ q → A q := fun q h => by rw [← hAe]; exact Or.inr h
  have hS : va_S A s.heap s.heap [] := va_S.rf
  have hP : va_P D tdC [(o, .inr (1, [.int th, .ref (q 1), .ref (q 2), .ref (q 3), .ref (q 4), .int md, .ref (q 6), .ref (q 7), .ref (q 8), .ref (q 9), .int ch, .ref (q 11), .int sc, .ref (q 13)])), ((q 1), .inl (cI, 1216, .inl ce)), ((q 11), .inl (cI, 64, .inl sp))] s.heap := hP
  have hl := lv_entry ([.ref o]) (n := 2) (Nat.le_of_ble_eq_true rfl)
  rw [lg_entry_eq]
  generalize (lg_sl ([.ref o]) ++ List.replicate (2 - (lg_sl ([.ref o])).length) Slot.unset).toArray = ls at hl ⊢
  have hl : lv_has ls 2 [(0, .ref o)] := hl
  refine lv_aload_n hx hb d_X1_findSpots_0 rfl (lv_at hl 0 rfl) ?_
  refine lv_iconst (v := 0) hx hb d_X1_findSpots_1 (by decide) ?_
  refine va_put (D := D) (ci := 1) (v := .int 0) (ty := .int) (C := RX1) (T := TX1) (N := 14) hx hb hts usX1 tyX1 tyX1_ok nmX1 hown hK hP hD hS 0 rfl rfl 12 (by decide) (hts _ fl_X1_96) (fun _ h9 => h9) rfl (by decide +kernel) rfl rfl (Nat.le_of_ble_eq_true rfl) d_X1_findSpots_2 (fun H locs hP hD hS => ?_)
  have hP : va_P D tdC [(o, .inr (1, [.int th, .ref (q 1), .ref (q 2), .ref (q 3), .ref (q 4), .int md, .ref (q 6), .ref (q 7), .ref (q 8), .ref (q 9), .int ch, .ref (q 11), .int 0, .ref (q 13)])), ((q 1), .inl (cI, 1216, .inl ce)), ((q 11), .inl (cI, 64, .inl sp))] H := hP
  have hD : va_D A [(o, .inr (1, [.int th, .ref (q 1), .ref (q 2), .ref (q 3), .ref (q 4), .int md, .ref (q 6), .ref (q 7), .ref (q 8), .ref (q 9), .int ch, .ref (q 11), .int 0, .ref (q 13)])), ((q 1), .inl (cI, 1216, .inl ce)), ((q 11), .inl (cI, 64, .inl sp))] := hD
  refine lv_iconst (v := 0) hx hb d_X1_findSpots_5 (by decide) ?_
  refine lv_istore_n hx hb d_X1_findSpots_6 rfl hl (by decide) rfl (fun ls hl => ?_)
  have hl : lv_has ls 2 [(1, .int 0), (0, .ref o)] := hl
  have hl0 := lv_sub hl [1, 0] rfl
  refine td_loopH 7 [] (fun i : Nat => 64 - i) (fun i H locs ls => i ≤ 64 ∧ va_P D tdC [(o, .inr (1, [.int th, .ref (q 1), .ref (q 2), .ref (q 3), .ref (q 4), .int md, .ref (q 6), .ref (q 7), .ref (q 8), .ref (q 9), .int ch, .ref (q 11), .int (nI (td_cn (td_isE (td_lv ce 0)) i)), .ref (q 13)])), ((q 1), .inl (cI, 1216, .inl ce)), ((q 11), .inl (cI, 64, .inl (td_spf (td_lv ce 0) sp i)))] H ∧ va_D A [(o, .inr (1, [.int th, .ref (q 1), .ref (q 2), .ref (q 3), .ref (q 4), .int md, .ref (q 6), .ref (q 7), .ref (q 8), .ref (q 9), .int ch, .ref (q 11), .int (nI (td_cn (td_isE (td_lv ce 0)) i)), .ref (q 13)])), ((q 1), .inl (cI, 1216, .inl ce)), ((q 11), .inl (cI, 64, .inl (td_spf (td_lv ce 0) sp i)))] ∧ va_S A s.heap H locs ∧ lv_has ls 2 [(0, .ref o), (1, .int (nI i))]) (fun i H locs ls hC ih => ?_) 0 ⟨Nat.zero_le _, hP, hD, hS, hl0⟩
  clear hl hl0 hP hD hS
  obtain ⟨hi, hP, hD, hS, hl⟩ := hC
  have hl : lv_has ls 2 [(0, .ref o), (1, .int (nI i))] := hl
  have hP : va_P D tdC [(o, .inr (1, [.int th, .ref (q 1), .ref (q 2), .ref (q 3), .ref (q 4), .int md, .ref (q 6), .ref (q 7), .ref (q 8), .ref (q 9), .int ch, .ref (q 11), .int (nI (td_cn (td_isE (td_lv ce 0)) i)), .ref (q 13)])), ((q 1), .inl (cI, 1216, .inl ce)), ((q 11), .inl (cI, 64, .inl (td_spf (td_lv ce 0) sp i)))] H := hP
  have hD : va_D A [(o, .inr (1, [.int th, .ref (q 1), .ref (q 2), .ref (q 3), .ref (q 4), .int md, .ref (q 6), .ref (q 7), .ref (q 8), .ref (q 9), .int ch, .ref (q 11), .int (nI (td_cn (td_isE (td_lv ce 0)) i)), .ref (q 13)])), ((q 1), .inl (cI, 1216, .inl ce)), ((q 11), .inl (cI, 64, .inl (td_spf (td_lv ce 0) sp i)))] := hD
  refine lv_iload_n hx hb d_X1_findSpots_7 rfl (lv_at hl 1 rfl) ?_
  refine lv_bipush (v := 64) hx hb d_X1_findSpots_8 (by decide) ?_
  refine lv_icmp_ge (tgt := 48) hx hb d_X1_findSpots_10 (by decide) (fun h1 => ?_) (fun h1 => ?_)
  · have h64 : i = 64 := Nat.le_antisymm hi ((nI_leI (a := 64) (b := i) (by decide) (by omega)).mp h1)
    subst h64
    exact W.vret hx hb hr (fun t ht hW => ⟨⟨(), rfl, trivial, by rw [ht]; exact hP, va_K.moved hW.alike hK, hD⟩, hS.F ht⟩) hS.2.2 d_X1_findSpots_48
  · have h64 : i < 64 := Nat.lt_of_not_le (fun z => h1 ((nI_leI (a := 64) (b := i) (by decide) (by omega)).mpr z))
    have hci := td_cn_le (td_isE (td_lv ce 0)) i
    have hcs := td_cn_s (td_isE (td_lv ce 0)) i
    refine lv_aload_n hx hb d_X1_findSpots_13 rfl (lv_at hl 0 rfl) ?_
    refine va_get (D := D) (ci := 1) (v := .ref (q 1)) (C := RX1) (T := TX1) (N := 14) hx hb hts usX1 hown hK hP 0 rfl rfl 1 (by decide) (hts _ fl_X1_7) (fun _ h9 => h9) rfl d_X1_findSpots_14 ?_
    refine lv_iload_n hx hb d_X1_findSpots_17 rfl (lv_at hl 1 rfl) ?_
    refine va_iald hx hb hK hP 1 0 rfl rfl (vp_in_nI (show i < 1216 by omega) (by decide)) d_X1_findSpots_18 ?_
    refine td_i (y := (td_lv ce 0 i)) (by rw [nI_clamp (by omega)]; unfold td_lv; rw [Nat.mul_zero, Nat.zero_add]) ?_
    refine lv_if_ne (tgt := 42) hx hb d_X1_findSpots_19 (by decide) (fun h2 => ?_) (fun h2 => ?_)
    · have e1 : td_cn (td_isE (td_lv ce 0)) (i + 1) = (td_cn (td_isE (td_lv ce 0)) i) := by rw [hcs, if_neg (show ¬ td_isE (td_lv ce 0) i = true from fun z => h2 (of_decide_eq_true z)), Nat.add_zero]
      have e2 : td_spf (td_lv ce 0) sp (i + 1) = td_spf (td_lv ce 0) sp i := if_neg h2
      have hP : va_P D tdC [(o, .inr (1, [.int th, .ref (q 1), .ref (q 2), .ref (q 3), .ref (q 4), .int md, .ref (q 6), .ref (q 7), .ref (q 8), .ref (q 9), .int ch, .ref (q 11), .int (nI (td_cn (td_isE (td_lv ce 0)) (i + 1))), .ref (q 13)])), ((q 1), .inl (cI, 1216, .inl ce)), ((q 11), .inl (cI, 64, .inl (td_spf (td_lv ce 0) sp (i + 1))))] H := by rw [e1, e2]; exact hP
      have hD : va_D A [(o, .inr (1, [.int th, .ref (q 1), .ref (q 2), .ref (q 3), .ref (q 4), .int md, .ref (q 6), .ref (q 7), .ref (q 8), .ref (q 9), .int ch, .ref (q 11), .int (nI (td_cn (td_isE (td_lv ce 0)) (i + 1))), .ref (q 13)])), ((q 1), .inl (cI, 1216, .inl ce)), ((q 11), .inl (cI, 64, .inl (td_spf (td_lv ce 0) sp (i + 1))))] := by rw [e1, e2]; exact hD
      refine lv_iinc (k := 1) (v := (nI (i + 1))) hx hb d_X1_findSpots_42 hl rfl ((nI_succ i).symm) (by decide) rfl (fun ls hl => ?_)
      have hl : lv_has ls 2 [(1, .int (nI (i + 1))), (0, .ref o)] := hl
      refine lv_goto (tgt := 7) hx hb d_X1_findSpots_45 (by decide) ?_
      have hl1 := lv_sub hl [1, 0] rfl
      exact ih (i + 1) _ _ _ (by omega) ⟨h64, hP, hD, hS, hl1⟩
    · have e1 : td_cn (td_isE (td_lv ce 0)) (i + 1) = (td_cn (td_isE (td_lv ce 0)) i) + 1 := by rw [hcs, if_pos (show td_isE (td_lv ce 0) i = true from decide_eq_true h2)]
      have e2 : td_spf (td_lv ce 0) sp (i + 1) = upd (td_spf (td_lv ce 0) sp i) (td_cn (td_isE (td_lv ce 0)) i) (nI i) := if_pos h2
      refine lv_aload_n hx hb d_X1_findSpots_22 rfl (lv_at hl 0 rfl) ?_
      refine va_get (D := D) (ci := 1) (v := .ref (q 11)) (C := RX1) (T := TX1) (N := 14) hx hb hts usX1 hown hK hP 0 rfl rfl 11 (by decide) (hts _ fl_X1_36) (fun _ h9 => h9) rfl d_X1_findSpots_23 ?_
      refine lv_aload_n hx hb d_X1_findSpots_26 rfl (lv_at hl 0 rfl) ?_
      refine va_get (D := D) (ci := 1) (v := .int (nI (td_cn (td_isE (td_lv ce 0)) i))) (C := RX1) (T := TX1) (N := 14) hx hb hts usX1 hown hK hP 0 rfl rfl 12 (by decide) (hts _ fl_X1_96) (fun _ h9 => h9) rfl d_X1_findSpots_27 ?_
      refine lv_iload_n hx hb d_X1_findSpots_30 rfl (lv_at hl 1 rfl) ?_
      refine va_iast hx hb hK hP hD hS 2 0 rfl rfl (vp_in_nI (show (td_cn (td_isE (td_lv ce 0)) i) < 64 by omega) (by decide)) d_X1_findSpots_31 (fun H locs hP hD hS => ?_)
      have hu : upd (td_spf (td_lv ce 0) sp i) (nI (td_cn (td_isE (td_lv ce 0)) i)).toNatClampNeg (nI i) = (upd (td_spf (td_lv ce 0) sp i) (td_cn (td_isE (td_lv ce 0)) i) (nI i)) := by rw [nI_clamp (by omega)]
      have hP : va_P D tdC [(o, .inr (1, [.int th, .ref (q 1), .ref (q 2), .ref (q 3), .ref (q 4), .int md, .ref (q 6), .ref (q 7), .ref (q 8), .ref (q 9), .int ch, .ref (q 11), .int (nI (td_cn (td_isE (td_lv ce 0)) i)), .ref (q 13)])), ((q 1), .inl (cI, 1216, .inl ce)), ((q 11), .inl (cI, 64, .inl (upd (td_spf (td_lv ce 0) sp i) (nI (td_cn (td_isE (td_lv ce 0)) i)).toNatClampNeg (nI i))))] H := hP
      have hD : va_D A [(o, .inr (1, [.int th, .ref (q 1), .ref (q 2), .ref (q 3), .ref (q 4), .int md, .ref (q 6), .ref (q 7), .ref (q 8), .ref (q 9), .int ch, .ref (q 11), .int (nI (td_cn (td_isE (td_lv ce 0)) i)), .ref (q 13)])), ((q 1), .inl (cI, 1216, .inl ce)), ((q 11), .inl (cI, 64, .inl (upd (td_spf (td_lv ce 0) sp i) (nI (td_cn (td_isE (td_lv ce 0)) i)).toNatClampNeg (nI i))))] := hD
      rw [hu] at hP hD
      clear hu
      have hP : va_P D tdC [(o, .inr (1, [.int th, .ref (q 1), .ref (q 2), .ref (q 3), .ref (q 4), .int md, .ref (q 6), .ref (q 7), .ref (q 8), .ref (q 9), .int ch, .ref (q 11), .int (nI (td_cn (td_isE (td_lv ce 0)) i)), .ref (q 13)])), ((q 1), .inl (cI, 1216, .inl ce)), ((q 11), .inl (cI, 64, .inl (upd (td_spf (td_lv ce 0) sp i) (td_cn (td_isE (td_lv ce 0)) i) (nI i))))] H := hP
      have hD : va_D A [(o, .inr (1, [.int th, .ref (q 1), .ref (q 2), .ref (q 3), .ref (q 4), .int md, .ref (q 6), .ref (q 7), .ref (q 8), .ref (q 9), .int ch, .ref (q 11), .int (nI (td_cn (td_isE (td_lv ce 0)) i)), .ref (q 13)])), ((q 1), .inl (cI, 1216, .inl ce)), ((q 11), .inl (cI, 64, .inl (upd (td_spf (td_lv ce 0) sp i) (td_cn (td_isE (td_lv ce 0)) i) (nI i))))] := hD
      refine lv_aload_n hx hb d_X1_findSpots_32 rfl (lv_at hl 0 rfl) ?_
      refine lv_dup hx hb d_X1_findSpots_33 rfl ?_
      refine va_get (D := D) (ci := 1) (v := .int (nI (td_cn (td_isE (td_lv ce 0)) i))) (C := RX1) (T := TX1) (N := 14) hx hb hts usX1 hown hK hP 0 rfl rfl 12 (by decide) (hts _ fl_X1_96) (fun _ h9 => h9) rfl d_X1_findSpots_34 ?_
      refine lv_iconst (v := 1) hx hb d_X1_findSpots_37 (by decide) ?_
      refine lv_iadd hx hb d_X1_findSpots_38 ?_
      refine td_i (y := (nI ((td_cn (td_isE (td_lv ce 0)) i) + 1))) ((nI_succ _).symm) ?_
      refine va_put (D := D) (ci := 1) (v := .int (nI ((td_cn (td_isE (td_lv ce 0)) i) + 1))) (ty := .int) (C := RX1) (T := TX1) (N := 14) hx hb hts usX1 tyX1 tyX1_ok nmX1 hown hK hP hD hS 0 rfl rfl 12 (by decide) (hts _ fl_X1_96) (fun _ h9 => h9) rfl (by decide +kernel) rfl rfl (Nat.le_of_ble_eq_true rfl) d_X1_findSpots_39 (fun H locs hP hD hS => ?_)
      have hP : va_P D tdC [(o, .inr (1, [.int th, .ref (q 1), .ref (q 2), .ref (q 3), .ref (q 4), .int md, .ref (q 6), .ref (q 7), .ref (q 8), .ref (q 9), .int ch, .ref (q 11), .int (nI ((td_cn (td_isE (td_lv ce 0)) i) + 1)), .ref (q 13)])), ((q 1), .inl (cI, 1216, .inl ce)), ((q 11), .inl (cI, 64, .inl (upd (td_spf (td_lv ce 0) sp i) (td_cn (td_isE (td_lv ce 0)) i) (nI i))))] H := hP
      have hD : va_D A [(o, .inr (1, [.int th, .ref (q 1), .ref (q 2), .ref (q 3), .ref (q 4), .int md, .ref (q 6), .ref (q 7), .ref (q 8), .ref (q 9), .int ch, .ref (q 11), .int (nI ((td_cn (td_isE (td_lv ce 0)) i) + 1)), .ref (q 13)])), ((q 1), .inl (cI, 1216, .inl ce)), ((q 11), .inl (cI, 64, .inl (upd (td_spf (td_lv ce 0) sp i) (td_cn (td_isE (td_lv ce 0)) i) (nI i))))] := hD
      have hP : va_P D tdC [(o, .inr (1, [.int th, .ref (q 1), .ref (q 2), .ref (q 3), .ref (q 4), .int md, .ref (q 6), .ref (q 7), .ref (q 8), .ref (q 9), .int ch, .ref (q 11), .int (nI (td_cn (td_isE (td_lv ce 0)) (i + 1))), .ref (q 13)])), ((q 1), .inl (cI, 1216, .inl ce)), ((q 11), .inl (cI, 64, .inl (td_spf (td_lv ce 0) sp (i + 1))))] H := by rw [e1, e2]; exact hP
      have hD : va_D A [(o, .inr (1, [.int th, .ref (q 1), .ref (q 2), .ref (q 3), .ref (q 4), .int md, .ref (q 6), .ref (q 7), .ref (q 8), .ref (q 9), .int ch, .ref (q 11), .int (nI (td_cn (td_isE (td_lv ce 0)) (i + 1))), .ref (q 13)])), ((q 1), .inl (cI, 1216, .inl ce)), ((q 11), .inl (cI, 64, .inl (td_spf (td_lv ce 0) sp (i + 1))))] := by rw [e1, e2]; exact hD
      refine lv_iinc (k := 1) (v := (nI (i + 1))) hx hb d_X1_findSpots_42 hl rfl ((nI_succ i).symm) (by decide) rfl (fun ls hl => ?_)
      have hl : lv_has ls 2 [(1, .int (nI (i + 1))), (0, .ref o)] := hl
      refine lv_goto (tgt := 7) hx hb d_X1_findSpots_45 (by decide) ?_
      have hl1 := lv_sub hl [1, 0] rfl
      exact ih (i + 1) _ _ _ (by omega) ⟨h64, hP, hD, hS, hl1⟩
set_option maxHeartbeats 4000000 in
set_option maxRecDepth 100000 in
theorem m_X1_layNext (l : Launch) (D : va_G) (sz : Nat) (o : Nat) (q : Nat → Nat) (th md ch sc : Int32) (cI : ClassId) (ce mv : Nat → Int32) (L : Nat) (hL : L < 18) (s0 : Nat) (hs0 : s0 ≤ 64) : Met l y_X1_layNext (k_X1_layNext :: tw) ({ frames := 3, cells := 0, slots := 0, locals := 79 }) (va_Pc [.ref o, .int (nI L), .int (nI s0)] (fun U => U.heap.size = sz ∧ va_P D tdC [(o, .inr (1, [.int th, .ref (q 1), .ref (q 2), .ref (q 3), .ref (q 4), .int md, .ref (q 6), .ref (q 7), .ref (q 8), .ref (q 9), .int ch, .ref (q 11), .int sc, .ref (q 13)])), ((q 1), .inl (cI, 1216, .inl ce)), ((q 2), .inl (cI, 19, .inl mv))] U.heap ∧ va_K D tdC [(cI, .int)] U ∧ va_D (fun _ => True) [(o, .inr (1, [.int th, .ref (q 1), .ref (q 2), .ref (q 3), .ref (q 4), .int md, .ref (q 6), .ref (q 7), .ref (q 8), .ref (q 9), .int ch, .ref (q 11), .int sc, .ref (q 13)])), ((q 1), .inl (cI, 1216, .inl ce)), ((q 2), .inl (cI, 19, .inl mv))])) (va_Qv (fun (_ : Unit) => True) (fun (_ : Unit) t => va_P D tdC [(o, .inr (1, [.int th, .ref (q 1), .ref (q 2), .ref (q 3), .ref (q 4), .int md, .ref (q 6), .ref (q 7), .ref (q 8), .ref (q 9), .int ch, .ref (q 11), .int sc, .ref (q 13)])), ((q 1), .inl (cI, 1216, .inl (td_lay ce L (mv L) s0))), ((q 2), .inl (cI, 19, .inl (upd mv (L + 1) (1 - mv L))))] t.heap ∧ va_K D tdC [(cI, .int)] t ∧ va_D (va_A [(o, .inr (1, [.int th, .ref (q 1), .ref (q 2), .ref (q 3), .ref (q 4), .int md, .ref (q 6), .ref (q 7), .ref (q 8), .ref (q 9), .int ch, .ref (q 11), .int sc, .ref (q 13)])), ((q 1), .inl (cI, 1216, .inl ce)), ((q 2), .inl (cI, 19, .inl mv))] sz) [(o, .inr (1, [.int th, .ref (q 1), .ref (q 2), .ref (q 3), .ref (q 4), .int md, .ref (q 6), .ref (q 7), .ref (q 8), .ref (q 9), .int ch, .ref (q 11), .int sc, .ref (q 13)])), ((q 1), .inl (cI, 1216, .inl (td_lay ce L (mv L) s0))), ((q 2), .inl (cI, 19, .inl (upd mv (L + 1) (1 - mv L))))]) (va_A [(o, .inr (1, [.int th, .ref (q 1), .ref (q 2), .ref (q 3), .ref (q 4), .int md, .ref (q 6), .ref (q 7), .ref (q 8), .ref (q 9), .int ch, .ref (q 11), .int sc, .ref (q 13)])), ((q 1), .inl (cI, 1216, .inl ce)), ((q 2), .inl (cI, 19, .inl mv))] sz)) 0 0 (va_A [(o, .inr (1, [.int th, .ref (q 1), .ref (q 2), .ref (q 3), .ref (q 4), .int md, .ref (q 6), .ref (q 7), .ref (q 8), .ref (q 9), .int ch, .ref (q 11), .int sc, .ref (q 13)])), ((q 1), .inl (cI, 1216, .inl ce)), ((q 2), .inl (cI, 19, .inl mv))] sz) := by
  refine Met.ofW (cc := c_X1_layNext) (maxL := 8) (ret := none) (by decide) rfl ?_
  intro p e s m args below meth c s₁ B hml hv
  obtain ⟨rfl, hsz, hP, hK, hD0⟩ := hv
  have hx := B.exec
  have hb := B.bytes
  have hr := B.returns
  have hts : ∀ w ∈ tw, w.before _ s = true := fun w h => atoms_spec (ws := k_X1_layNext :: tw) B.pre w (List.mem_cons_of_mem _ h)
  have hown : s.vm.findClass RX1 = some m.cls := findClass_of_methodNamed B.named
  have hlocks := B.notSynchronized
  subst hsz
  have hD := hD0.self (sz := s.heap.size)
  generalize hAe : va_A [(o, .inr (1, [.int th, .ref (q 1), .ref (q 2), .ref (q 3), .ref (q 4), .int md, .ref (q 6), .ref (q 7), .ref (q 8), .ref (q 9), .int ch, .ref (q 11), .int sc, .ref (q 13)])), ((q 1), .inl (cI, 1216, .inl ce)), ((q 2), .inl (cI, 19, .inl mv))] s.heap.size = A at hD ⊢
  have hA : ∀ q : Nat, s.heap.size ≤ q → A q := fun q h => by rw [← hAe]; exact Or.inr h
  have hS : va_S A s.heap s.heap [] := va_S.rf
  have hP : va_P D tdC [(o, .inr (1, [.int th, .ref (q 1), .ref (q 2), .ref (q 3), .ref (q 4), .int md, .ref (q 6), .ref (q 7), .ref (q 8), .ref (q 9), .int ch, .ref (q 11), .int sc, .ref (q 13)])), ((q 1), .inl (cI, 1216, .inl ce)), ((q 2), .inl (cI, 19, .inl mv))] s.heap := hP
  have hl := lv_entry ([.ref o, .int (nI L), .int (nI s0)]) (n := 8) (Nat.le_of_ble_eq_true rfl)
  rw [lg_entry_eq]
  generalize (lg_sl ([.ref o, .int (nI L), .int (nI s0)]) ++ List.replicate (8 - (lg_sl ([.ref o, .int (nI L), .int (nI s0)])).length) Slot.unset).toArray = ls at hl ⊢
  have hl : lv_has ls 8 [(0, .ref o), (1, .int (nI L)), (2, .int (nI s0))] := hl
  have hP2 := hP.sub (ws' := [(o, .inr (1, [.int th, .ref (q 1), .ref (q 2), .ref (q 3), .ref (q 4), .int md, .ref (q 6), .ref (q 7), .ref (q 8), .ref (q 9), .int ch, .ref (q 11), .int sc, .ref (q 13)])), ((q 1), .inl (cI, 1216, .inl ce))]) [0, 1] rfl
  have hcL : (nI L).toNatClampNeg = L := nI_clamp (by omega)
  refine lv_aload_n hx hb d_X1_layNext_0 rfl (lv_at hl 0 rfl) ?_
  refine va_get (D := D) (ci := 1) (v := .ref (q 2)) (C := RX1) (T := TX1) (N := 14) hx hb hts usX1 hown hK hP 0 rfl rfl 2 (by decide) (hts _ fl_X1_13) (fun _ h9 => h9) rfl d_X1_layNext_1 ?_
  refine lv_iload_n hx hb d_X1_layNext_4 rfl (lv_at hl 1 rfl) ?_
  refine va_iald hx hb hK hP 2 0 rfl rfl (vp_in_nI (show L < 19 by omega) (by decide)) d_X1_layNext_5 ?_
  refine td_i (y := (mv L)) (by rw [hcL]) ?_
  refine lv_istore_n hx hb d_X1_layNext_6 rfl hl (by decide) rfl (fun ls hl => ?_)
  have hl : lv_has ls 8 [(3, .int (mv L)), (0, .ref o), (1, .int (nI L)), (2, .int (nI s0))] := hl
  generalize hz : td_zs (td_lv ce L) (mv L) s0 = z0
  refine td_joinl 24 ls [] (fun x => x = z0) (fun x ex => ?_) (fun J => ?_)
  · subst ex
    clear hP2
    refine lv_lstore hx hb d_X1_layNext_24 hl (by decide) rfl (fun ls hl => ?_)
    have hl : lv_has ls 8 [(4, .long x), (3, .int (mv L)), (0, .ref o), (1, .int (nI L)), (2, .int (nI s0))] := hl
    refine lv_iconst (v := 0) hx hb d_X1_layNext_26 (by decide) ?_
    refine lv_istore hx hb d_X1_layNext_27 hl (by decide) rfl (fun ls hl => ?_)
    have hl : lv_has ls 8 [(6, .int 0), (4, .long x), (3, .int (mv L)), (0, .ref o), (1, .int (nI L)), (2, .int (nI s0))] := hl
    rw [← td_sw2_0 (td_putc (td_lv ce L) (mv L) s0 x) ce (64 * L + 64)] at hP hD
    have hl0 := lv_sub hl [3, 4, 5, 2, 1, 0] rfl
    refine td_loopH 29 [] (fun i : Nat => 64 - i) (fun i H locs ls => i ≤ 64 ∧ va_P D tdC [(o, .inr (1, [.int th, .ref (q 1), .ref (q 2), .ref (q 3), .ref (q 4), .int md, .ref (q 6), .ref (q 7), .ref (q 8), .ref (q 9), .int ch, .ref (q 11), .int sc, .ref (q 13)])), ((q 1), .inl (cI, 1216, .inl (td_sw2 (td_putc (td_lv ce L) (mv L) s0 x) ce (64 * L + 64) i))), ((q 2), .inl (cI, 19, .inl mv))] H ∧ va_D A [(o, .inr (1, [.int th, .ref (q 1), .ref (q 2), .ref (q 3), .ref (q 4), .int md, .ref (q 6), .ref (q 7), .ref (q 8), .ref (q 9), .int ch, .ref (q 11), .int sc, .ref (q 13)])), ((q 1), .inl (cI, 1216, .inl (td_sw2 (td_putc (td_lv ce L) (mv L) s0 x) ce (64 * L + 64) i))), ((q 2), .inl (cI, 19, .inl mv))] ∧ va_S A s.heap H locs ∧ lv_has ls 8 [(0, .ref o), (1, .int (nI L)), (2, .int (nI s0)), (3, .int (mv L)), (4, .long x), (6, .int (nI i))]) (fun i H locs ls hC ih => ?_) 0 ⟨Nat.zero_le _, hP, hD, hS, hl0⟩
    clear hl hl0 hP hD hS
    obtain ⟨hi, hP, hD, hS, hl⟩ := hC
    have hl : lv_has ls 8 [(0, .ref o), (1, .int (nI L)), (2, .int (nI s0)), (3, .int (mv L)), (4, .long x), (6, .int (nI i))] := hl
    have hP : va_P D tdC [(o, .inr (1, [.int th, .ref (q 1), .ref (q 2), .ref (q 3), .ref (q 4), .int md, .ref (q 6), .ref (q 7), .ref (q 8), .ref (q 9), .int ch, .ref (q 11), .int sc, .ref (q 13)])), ((q 1), .inl (cI, 1216, .inl (td_sw2 (td_putc (td_lv ce L) (mv L) s0 x) ce (64 * L + 64) i))), ((q 2), .inl (cI, 19, .inl mv))] H := hP
    have hD : va_D A [(o, .inr (1, [.int th, .ref (q 1), .ref (q 2), .ref (q 3), .ref (q 4), .int md, .ref (q 6), .ref (q 7), .ref (q 8), .ref (q 9), .int ch, .ref (q 11), .int sc, .ref (q 13)])), ((q 1), .inl (cI, 1216, .inl (td_sw2 (td_putc (td_lv ce L) (mv L) s0 x) ce (64 * L + 64) i))), ((q 2), .inl (cI, 19, .inl mv))] := hD
    refine lv_iload hx hb d_X1_layNext_29 (lv_at hl 5 rfl) ?_
    refine lv_bipush (v := 64) hx hb d_X1_layNext_31 (by decide) ?_
    refine lv_icmp_ge (tgt := 105) hx hb d_X1_layNext_33 (by decide) (fun h1 => ?_) (fun h1 => ?_)
    · have h64 : i = 64 := Nat.le_antisymm hi ((nI_leI (a := 64) (b := i) (by decide) (by omega)).mp h1)
      subst h64
      refine lv_aload_n hx hb d_X1_layNext_105 rfl (lv_at hl 0 rfl) ?_
      refine va_get (D := D) (ci := 1) (v := .ref (q 2)) (C := RX1) (T := TX1) (N := 14) hx hb hts usX1 hown hK hP 0 rfl rfl 2 (by decide) (hts _ fl_X1_13) (fun _ h9 => h9) rfl d_X1_layNext_106 ?_
      refine lv_iload_n hx hb d_X1_layNext_109 rfl (lv_at hl 1 rfl) ?_
      refine lv_iconst (v := 1) hx hb d_X1_layNext_110 (by decide) ?_
      refine lv_iadd hx hb d_X1_layNext_111 ?_
      refine td_i (y := (nI (L + 1))) ((nI_succ L).symm) ?_
      refine lv_iconst (v := 1) hx hb d_X1_layNext_112 (by decide) ?_
      refine lv_iload_n hx hb d_X1_layNext_113 rfl (lv_at hl 3 rfl) ?_
      refine lv_isub hx hb d_X1_layNext_114 ?_
      refine va_iast hx hb hK hP hD hS 2 0 rfl rfl (vp_in_nI (show L + 1 < 19 by omega) (by decide)) d_X1_layNext_115 (fun H locs hP hD hS => ?_)
      have hu : upd mv (nI (L + 1)).toNatClampNeg (1 - (mv L)) = (upd mv (L + 1) (1 - mv L)) := by rw [nI_clamp (by omega)]
      have hP : va_P D tdC [(o, .inr (1, [.int th, .ref (q 1), .ref (q 2), .ref (q 3), .ref (q 4), .int md, .ref (q 6), .ref (q 7), .ref (q 8), .ref (q 9), .int ch, .ref (q 11), .int sc, .ref (q 13)])), ((q 1), .inl (cI, 1216, .inl (td_sw2 (td_putc (td_lv ce L) (mv L) s0 x) ce (64 * L + 64) 64))), ((q 2), .inl (cI, 19, .inl (upd mv (nI (L + 1)).toNatClampNeg (1 - (mv L)))))] H := hP
      have hD : va_D A [(o, .inr (1, [.int th, .ref (q 1), .ref (q 2), .ref (q 3), .ref (q 4), .int md, .ref (q 6), .ref (q 7), .ref (q 8), .ref (q 9), .int ch, .ref (q 11), .int sc, .ref (q 13)])), ((q 1), .inl (cI, 1216, .inl (td_sw2 (td_putc (td_lv ce L) (mv L) s0 x) ce (64 * L + 64) 64))), ((q 2), .inl (cI, 19, .inl (upd mv (nI (L + 1)).toNatClampNeg (1 - (mv L)))))] := hD
      rw [hu] at hP hD
      clear hu
      have hP : va_P D tdC [(o, .inr (1, [.int th, .ref (q 1), .ref (q 2), .ref (q 3), .ref (q 4), .int md, .ref (q 6), .ref (q 7), .ref (q 8), .ref (q 9), .int ch, .ref (q 11), .int sc, .ref (q 13)])), ((q 1), .inl (cI, 1216, .inl (td_sw2 (td_putc (td_lv ce L) (mv L) s0 x) ce (64 * L + 64) 64))), ((q 2), .inl (cI, 19, .inl (upd mv (L + 1) (1 - mv L))))] H := hP
      have hD : va_D A [(o, .inr (1, [.int th, .ref (q 1), .ref (q 2), .ref (q 3), .ref (q 4), .int md, .ref (q 6), .ref (q 7), .ref (q 8), .ref (q 9), .int ch, .ref (q 11), .int sc, .ref (q 13)])), ((q 1), .inl (cI, 1216, .inl (td_sw2 (td_putc (td_lv ce L) (mv L) s0 x) ce (64 * L + 64) 64))), ((q 2), .inl (cI, 19, .inl (upd mv (L + 1) (1 - mv L))))] := hD
      subst hz
      exact W.vret hx hb hr (fun t ht hW => ⟨⟨(), rfl, trivial, by rw [ht]; exact hP, va_K.moved hW.alike hK, hD⟩, hS.F ht⟩) hS.2.2 d_X1_layNext_116
    · have h64 : i < 64 := Nat.lt_of_not_le (fun z => h1 ((nI_leI (a := 64) (b := i) (by decide) (by omega)).mpr z))
      refine td_joini 59 ls [] (fun y => (y = 1 ∧ (i = s0 ∨ td_bv x i = true)) ∨ (y = 0 ∧ ¬ (i = s0 ∨ td_bv x i = true))) (fun y ey => ?_) (fun J => ?_)
      · refine lv_istore hx hb d_X1_layNext_59 hl (by decide) rfl (fun ls hl => ?_)
        have hl : lv_has ls 8 [(7, .int y), (0, .ref o), (1, .int (nI L)), (2, .int (nI s0)), (3, .int (mv L)), (4, .long x), (6, .int (nI i))] := hl
        refine lv_aload_n hx hb d_X1_layNext_61 rfl (lv_at hl 1 rfl) ?_
        refine va_get (D := D) (ci := 1) (v := .ref (q 1)) (C := RX1) (T := TX1) (N := 14) hx hb hts usX1 hown hK hP 0 rfl rfl 1 (by decide) (hts _ fl_X1_7) (fun _ h9 => h9) rfl d_X1_layNext_62 ?_
        refine lv_bipush (v := 64) hx hb d_X1_layNext_65 (by decide) ?_
        refine lv_iload_n hx hb d_X1_layNext_67 rfl (lv_at hl 2 rfl) ?_
        refine lv_imul hx hb d_X1_layNext_68 ?_
        refine lv_bipush (v := 64) hx hb d_X1_layNext_69 (by decide) ?_
        refine lv_iadd hx hb d_X1_layNext_71 ?_
        refine lv_iload hx hb d_X1_layNext_72 (lv_at hl 6 rfl) ?_
        refine lv_iadd hx hb d_X1_layNext_74 ?_
        refine td_i (y := (nI (64 * L + 64 + i))) (by show nI 64 * nI L + nI 64 + nI i = _; rw [pk_mul, nI_add, nI_add]) ?_
        refine td_joini 98 ls [.int (nI (64 * L + 64 + i)), .ref (q 1)] (fun v => v = (td_putc (td_lv ce L) (mv L) s0 x) i) (fun v ev => ?_) (fun J => ?_)
        · refine va_iast hx hb hK hP hD hS 1 0 rfl rfl (vp_in_nI (show 64 * L + 64 + i < 1216 by omega) (by decide)) d_X1_layNext_98 (fun H locs hP hD hS => ?_)
          have hu : upd (td_sw2 (td_putc (td_lv ce L) (mv L) s0 x) ce (64 * L + 64) i) (nI (64 * L + 64 + i)).toNatClampNeg v = (td_sw2 (td_putc (td_lv ce L) (mv L) s0 x) ce (64 * L + 64) (i + 1)) := by rw [nI_clamp (by omega)]; exact td_sw2_s ev
          have hP : va_P D tdC [(o, .inr (1, [.int th, .ref (q 1), .ref (q 2), .ref (q 3), .ref (q 4), .int md, .ref (q 6), .ref (q 7), .ref (q 8), .ref (q 9), .int ch, .ref (q 11), .int sc, .ref (q 13)])), ((q 1), .inl (cI, 1216, .inl (upd (td_sw2 (td_putc (td_lv ce L) (mv L) s0 x) ce (64 * L + 64) i) (nI (64 * L + 64 + i)).toNatClampNeg v))), ((q 2), .inl (cI, 19, .inl mv))] H := hP
          have hD : va_D A [(o, .inr (1, [.int th, .ref (q 1), .ref (q 2), .ref (q 3), .ref (q 4), .int md, .ref (q 6), .ref (q 7), .ref (q 8), .ref (q 9), .int ch, .ref (q 11), .int sc, .ref (q 13)])), ((q 1), .inl (cI, 1216, .inl (upd (td_sw2 (td_putc (td_lv ce L) (mv L) s0 x) ce (64 * L + 64) i) (nI (64 * L + 64 + i)).toNatClampNeg v))), ((q 2), .inl (cI, 19, .inl mv))] := hD
          rw [hu] at hP hD
          clear hu
          have hP : va_P D tdC [(o, .inr (1, [.int th, .ref (q 1), .ref (q 2), .ref (q 3), .ref (q 4), .int md, .ref (q 6), .ref (q 7), .ref (q 8), .ref (q 9), .int ch, .ref (q 11), .int sc, .ref (q 13)])), ((q 1), .inl (cI, 1216, .inl (td_sw2 (td_putc (td_lv ce L) (mv L) s0 x) ce (64 * L + 64) (i + 1)))), ((q 2), .inl (cI, 19, .inl mv))] H := hP
          have hD : va_D A [(o, .inr (1, [.int th, .ref (q 1), .ref (q 2), .ref (q 3), .ref (q 4), .int md, .ref (q 6), .ref (q 7), .ref (q 8), .ref (q 9), .int ch, .ref (q 11), .int sc, .ref (q 13)])), ((q 1), .inl (cI, 1216, .inl (td_sw2 (td_putc (td_lv ce L) (mv L) s0 x) ce (64 * L + 64) (i + 1)))), ((q 2), .inl (cI, 19, .inl mv))] := hD
          refine lv_iinc (k := 6) (v := (nI (i + 1))) hx hb d_X1_layNext_99 hl rfl ((nI_succ i).symm) (by decide) rfl (fun ls hl => ?_)
          have hl : lv_has ls 8 [(6, .int (nI (i + 1))), (7, .int y), (0, .ref o), (1, .int (nI L)), (2, .int (nI s0)), (3, .int (mv L)), (4, .long x)] := hl
          refine lv_goto (tgt := 29) hx hb d_X1_layNext_102 (by decide) ?_
          have hl1 := lv_sub hl [2, 3, 4, 5, 6, 0] rfl
          exact ih (i + 1) _ _ _ (by omega) ⟨h64, hP, hD, hS, hl1⟩
        · refine lv_iload hx hb d_X1_layNext_75 (lv_at hl 0 rfl) ?_
          refine lv_if_eq (tgt := 86) hx hb d_X1_layNext_77 (by decide) (fun h4 => ?_) (fun h4 => ?_)
          · refine lv_aload_n hx hb d_X1_layNext_86 rfl (lv_at hl 1 rfl) ?_
            refine va_get (D := D) (ci := 1) (v := .ref (q 1)) (C := RX1) (T := TX1) (N := 14) hx hb hts usX1 hown hK hP 0 rfl rfl 1 (by decide) (hts _ fl_X1_7) (fun _ h9 => h9) rfl d_X1_layNext_87 ?_
            refine lv_bipush (v := 64) hx hb d_X1_layNext_90 (by decide) ?_
            refine lv_iload_n hx hb d_X1_layNext_92 rfl (lv_at hl 2 rfl) ?_
            refine lv_imul hx hb d_X1_layNext_93 ?_
            refine lv_iload hx hb d_X1_layNext_94 (lv_at hl 6 rfl) ?_
            refine lv_iadd hx hb d_X1_layNext_96 ?_
            refine td_i (y := (nI (64 * L + i))) (by show nI 64 * nI L + nI i = _; rw [pk_mul, nI_add]) ?_
            refine va_iald hx hb hK hP 1 0 rfl rfl (vp_in_nI (show 64 * L + i < 1216 by omega) (by decide)) d_X1_layNext_97 ?_
            refine td_i (y := ((td_lv ce L) i)) (by rw [nI_clamp (by omega), td_sw2_lt (by omega)]; rfl) ?_
            exact J _ (by unfold td_putc; rw [if_neg (ey.elim (fun y => absurd (y.1.symm.trans h4) (by decide)) (fun y => y.2))])
          · refine lv_iload_n hx hb d_X1_layNext_80 rfl (lv_at hl 4 rfl) ?_
            refine lv_iconst (v := 1) hx hb d_X1_layNext_81 (by decide) ?_
            refine lv_iadd hx hb d_X1_layNext_82 ?_
            refine lv_goto (tgt := 98) hx hb d_X1_layNext_83 (by decide) ?_
            exact J _ (by unfold td_putc; rw [if_pos (ey.elim (fun y => y.2) (fun y => absurd y.1 h4))])
      · refine td_joinu 54 ls [] (i = s0 ∨ td_bv x i = true) (fun hy => ?_) (fun J2 => ?_)
        · refine lv_iconst (v := 1) hx hb d_X1_layNext_54 (by decide) ?_
          refine lv_goto (tgt := 59) hx hb d_X1_layNext_55 (by decide) ?_
          exact J _ (Or.inl ⟨rfl, hy⟩)
        · refine lv_iload hx hb d_X1_layNext_36 (lv_at hl 5 rfl) ?_
          refine lv_iload_n hx hb d_X1_layNext_38 rfl (lv_at hl 2 rfl) ?_
          refine lv_icmp_eq (tgt := 54) hx hb d_X1_layNext_39 (by decide) (fun h2 => ?_) (fun h2 => ?_)
          · exact J2 (Or.inl ((nI_eq (by omega) (by omega)).mp h2))
          · refine lv_lload hx hb d_X1_layNext_42 (lv_at hl 4 rfl) ?_
            refine lv_iload hx hb d_X1_layNext_44 (lv_at hl 5 rfl) ?_
            refine lv_lshr (v := (td_lshr x (nI i))) hx hb d_X1_layNext_46 rfl ?_
            refine lv_lconst (v := 1) hx hb d_X1_layNext_47 (by decide) ?_
            refine lv_land hx hb d_X1_layNext_48 ?_
            refine lv_lconst (v := 1) hx hb d_X1_layNext_49 (by decide) ?_
            refine td_lne (tgt := 58) hx hb d_X1_layNext_50 d_X1_layNext_51 (by decide) (fun h3 => ?_) (fun h3 => ?_)
            · refine lv_iconst (v := 0) hx hb d_X1_layNext_58 (by decide) ?_
              exact J _ (Or.inr ⟨rfl, fun z => z.elim (fun z => h2 (by rw [z])) (fun z => h3 (of_decide_eq_true z))⟩)
            · exact J2 (Or.inr (decide_eq_true h3))
  · refine lv_iload_n hx hb d_X1_layNext_7 rfl (lv_at hl 3 rfl) ?_
    refine lv_bipush (v := 64) hx hb d_X1_layNext_8 (by decide) ?_
    refine lv_icmp_ne (tgt := 17) hx hb d_X1_layNext_10 (by decide) (fun h0 => ?_) (fun h0 => ?_)
    · have hs : s0 < 64 := by have : s0 ≠ 64 := fun z => h0 (by rw [z]; rfl); omega
      refine lv_aload_n hx hb d_X1_layNext_17 rfl (lv_at hl 1 rfl) ?_
      refine lv_iload_n hx hb d_X1_layNext_18 rfl (lv_at hl 2 rfl) ?_
      refine lv_iload_n hx hb d_X1_layNext_19 rfl (lv_at hl 3 rfl) ?_
      refine lv_iload_n hx hb d_X1_layNext_20 rfl (lv_at hl 0 rfl) ?_
      refine vp_callSl (W.runV (b := o) (C := RX1) (As := [.int (nI L), .int (nI s0), .int (mv L)]) (rest := []) ⟨hx, hb, hml, hown, hts⟩ (m_X1_flipsAt l D o (q 1) cI [.int th, .ref (q 1), .ref (q 2), .ref (q 3), .ref (q 4), .int md, .ref (q 6), .ref (q 7), .ref (q 8), .ref (q 9), .int ch, .ref (q 11), .int sc, .ref (q 13)] rfl ce L (by omega) s0 hs (mv L)) (cwV 3 hts (tw_V ml_X1_71 im_X1_flipsAt se_X1_flipsAt in_X1 kw_X1_flipsAt) rfl rfl rfl (by decide +kernel) ⟨Nat.le_of_ble_eq_true rfl, Nat.le_of_ble_eq_true rfl⟩) ⟨fun a U g mk q => ⟨q.1, q.2.1, va_K.moved (u := U) (U := U.calling g mk a) (Vm.Alike.refl U.vm) q.2.2⟩, va_recv (q0 := 0) (ci := 1) hK hP rfl rfl, fun U hU hW => ⟨rfl, by rw [hU]; exact hP2, va_K.moved hW.alike hK⟩⟩ rfl rfl hl.1 rfl (lv_room (Nat.le_of_ble_eq_true rfl)) d_X1_layNext_21 ⟨Nat.zero_le _, Nat.zero_le _⟩) (fun r h9 => ?_)
      subst h9
      exact J _ (by rw [← hz]; unfold td_zs; rw [if_neg (by omega)])
    · have hs : s0 = 64 := (nI_eq (a := s0) (b := 64) (by omega) (by decide)).mp h0
      refine lv_lconst (v := 0) hx hb d_X1_layNext_13 (by decide) ?_
      refine lv_goto (tgt := 24) hx hb d_X1_layNext_14 (by decide) ?_
      exact J _ (by rw [← hz]; unfold td_zs; rw [if_pos hs])
