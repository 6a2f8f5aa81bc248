/-! THE CLAIM OUT OF ONE WALK OF THE LAW'S BODY. Your part is whole_start (and what it stands on); all else here is the same for every law, but numbers. -/
def R_law : String := "TurnedDiscsLaw"
def lw_P (b : Addr) (xs : List Int32) (args : Array Value) (s : State) : Prop := args = #[.ref b] ∧ s.IntsAt b xs ∧ xs.length ≤ 3072 ∧ (Jvm.Cond.and given_1 narrow_1).before args s = true
def lw_Q (_ : Array Value) (s : State) (o : Outcome) (t : State) : Prop := o = .returned (some (.int 1)) ∧ Framed s o t [] 601024 7293034
def lw_Z (below : List Frame) (a : Array Value) (s : State) : State → Prop := fun t => ∃ o, t.status = .running ∧ Ended t below o ∧ lw_Q a s o t
/-- the law's own end, with 1 on the stack, nothing written that was there before, its room as the claim has it -/
theorem lw_ret {p : Program} {l : Launch} {e : Env} {s : State} {m : MethodId} {below : List Frame} {meth : Method} {c : Code} {b : Nat} (hx : p.tables.exec = Jvm.exec) (hb : c.code = code) (hr : meth.sig.returnType = ret) (hlocks : meth.locks = false) {pc : Nat} {H : Heap} {ls : Array Slot} (hdg : decode code pc = .ok (.ireturn, 1)) : W p l e room_1 s m #[Value.ref b] below meth c H [] 601024 7293034 (lw_Z below #[Value.ref b] s) (F0 m pc ls [.int 1]) := by
  intro T hT X
  obtain ⟨fs, hret, hrun, hended, hW, hframe⟩ := X.leave (v := some (.int 1)) (hlocks := hlocks) (fun h => by rw [hr] at h; cases h)
  have hmeth' : T.vm.method? m = some meth := X.method'
  refine ⟨T.setFrames fs, ?_, .returned (some (.int 1)), hrun, hended, rfl, ⟨_, rfl⟩, hW, hframe⟩
  jvm_step X.here [X.here.top, hx, hb, hdg, hmeth', hr, ret, narrow_b1]
  (try refine ⟨rfl, ?_⟩); (try refine ⟨rfl, ?_⟩)
  first | (intro acts; rw [hret _ acts rfl rfl rfl]) | rw [hret _ _ rfl rfl rfl]
  exact Steps.refl _
/-- what holds at the law's entry: the machine, the code, the tables' words (any of lw_tbl by 'hts w (by decide +kernel)'), the script of L ints xs at the cell b, what the Statement gives of the start (any of its parts by flat_of_before) -/
def lw_At (p : Program) (s : State) (m : MethodId) (meth : Method) (c : Code) (b L : Nat) (xs : Nat → Int32) : Prop :=
  p.tables.exec = Jvm.exec ∧ c.code = code ∧ meth.sig.returnType = ret ∧ c.maxLocals = 8 ∧ s.vm.findClass R_law = some m.cls ∧ (∀ w ∈ lw_tbl, w.before #[Value.ref b] s = true) ∧ va_X b L xs s s.heap ∧ b < s.heap.size ∧ meth.locks = false ∧ (Jvm.Cond.and given_1 narrow_1).before #[Value.ref b] s = true

set_option maxHeartbeats 4000000 in
set_option maxRecDepth 100000 in
theorem whole_start {p : Program} {e : Env} {s : State} {m : MethodId} {below : List Frame} {meth : Method} {c : Code} (l : Launch) (hfl : l.stackTraces = false) {b L : Nat} {xs : Nat → Int32} (hL : L ≤ 3072) (C0 : lw_At p s m meth c b L xs) : W p l e room_1 s m #[Value.ref b] below meth c s.heap [] 0 0 (lw_Z below #[Value.ref b] s) (entryFrame m ([Value.ref b] : List Value).toArray 8) := by
  obtain ⟨hx, hb, hr, hml, hown, hts0, hXs, hbl, hlocks, hgv⟩ := C0
  have hts := tw_tbl hts0
  obtain ⟨hX, hNc⟩ := en_X hts0 hgv
  obtain ⟨c0, i0, hk0⟩ := u_known (n := 7) hts usX0 (hts _ ia_X0)
  obtain ⟨c1, i1, hk1⟩ := u_known (n := 14) hts usX1 (hts _ ia_X1)
  obtain ⟨D, hDe⟩ : ∃ D : va_G, D = (fun k => if k = 0 then c0 else c1, fun k => if k = 0 then i0 else i1) := ⟨_, rfl⟩
  have hK : va_K D tdC [] s := by
    rw [hDe]
    refine ⟨fun k q hq => ?_, fun k q hq => by cases hq⟩
    match k with
    | 0 => cases hq; exact hk0
    | 1 => cases hq; exact hk1
    | k + 2 => cases hq
  clear hDe hk0 hk1
  obtain ⟨A, hAe⟩ : ∃ A : Nat → Prop, A = fun q => s.heap.size ≤ q := ⟨_, rfl⟩
  have hA : ∀ q : Nat, s.heap.size ≤ q → A q := fun q h => by rw [hAe]; exact h
  have hba : ∀ q : Nat, A q → s.heap.size ≤ q := fun q h => by rw [hAe] at h; exact h
  have hbA : ¬ A b := fun z => absurd (hba _ z) (Nat.not_le.mpr hbl)
  have hS : va_S A s.heap s.heap [] := va_S.rf
  have hP : va_P D tdC [] s.heap := fun k q h => by cases h
  have hD : va_D A [] := by unfold va_D; simp
  have hl := lv_entry ([.ref b]) (n := 8) (Nat.le_of_ble_eq_true rfl)
  rw [lg_entry_eq]
  generalize (lg_sl ([.ref b]) ++ List.replicate (8 - (lg_sl ([.ref b])).length) Slot.unset).toArray = ls at hl ⊢
  have hl : lv_has ls 8 [(0, .ref b)] := hl
  refine va_new (D := D) (own := RL) (C := RX0) (T := TX0) (N := 7) (ci := 0) (fs := [.long 0, .long 0, .int 0, .int 0, .null, .null, .null]) hx hb hts usX0 tyX0 tyX0_ok hown (hts _ cl_L_8) (hts _ ia_X0) (hts _ in_X0) hK hP hD hS hA rfl (by decide +kernel) (by show _ ≤ 601024; decide) (by show _ ≤ 7293034; decide) d_L_law_0 (fun o H hP hD hS => ?_)
  have hP : va_P D tdC [(o, .inr (0, [.long 0, .long 0, .int 0, .int 0, .null, .null, .null]))] H := hP
  have hD : va_D A [(o, .inr (0, [.long 0, .long 0, .int 0, .int 0, .null, .null, .null]))] := hD
  refine lv_dup hx hb d_L_law_3 rfl ?_
  have hPc := hP.sub (ws' := [(o, .inr (0, [.long 0, .long 0, .int 0, .int 0, .null, .null, .null]))]) [0] rfl
  have hDc := hD.sub (ws' := [(o, .inr (0, [.long 0, .long 0, .int 0, .int 0, .null, .null, .null]))]) [0] (by decide) rfl
  have hKc := hK.sub (tys' := []) [] rfl
  have hFc := va_free (wc := [(o, .inr (0, [.long 0, .long 0, .int 0, .int 0, .null, .null, .null]))]) hD hS hA [0] rfl
  refine va_callv (va_runI (b := o) (As := []) (rest := [.ref o]) ⟨hx, hb, hml, hown, hts⟩ (m_X0_init l D _ o) (cwI 0 hts (tw_good kw_X0_init) rfl rfl rfl (hts _ in_X0) (hts _ ml_L_52) (hts _ im_X0_init) rfl (by decide +kernel) ⟨Nat.le_of_ble_eq_true rfl, Nat.le_of_ble_eq_true rfl⟩) ⟨fun a U g mk q => ⟨q.1, q.2.1, q.2.2.1, va_K.moved (u := U) (U := U.calling g mk a) (Vm.Alike.refl U.vm) q.2.2.2.1, q.2.2.2.2⟩, fun U hU hW => ⟨rfl, by rw [hU], by rw [hU]; exact hPc, va_K.moved hW.alike hKc, hDc.weaken (fun _ _ _ _ => trivial)⟩⟩ rfl rfl hl.1 rfl (lv_room (Nat.le_of_ble_eq_true rfl)) d_L_law_4 ⟨by show _ ≤ 601024; decide, by show _ ≤ 7293034; decide⟩) hS (fun q _ h => hFc q h) hFc (fun u0 t0 H1 locs ht hvm _hq hB hz1 hk1 hS => ?_)
  obtain ⟨a1, a2, a3, cI, cJ⟩ := u0
  obtain ⟨hP1, hK1, hD1⟩ := hB
  rw [ht] at hP1
  obtain ⟨hP, hD⟩ := va_join (wr := []) (w1 := [(o, .inr (0, [.long 34628173824, .long 68853694464, .int 0, .int 0, .ref a1, .ref a2, .ref a3])), (a1, .inl (cI, 64, .inl (fun _ => 0))), (a2, .inl (cJ, 64, .inr (.inl (fun _ => 0)))), (a3, .inl (cI, 14, .inl (fun _ => 0)))]) hP hD [0] [] rfl rfl (by decide) (by decide) hk1 hFc hP1 hD1
  have hK1 := va_K.moved hvm.symm hK1
  have hK : va_K D tdC [(cI, .int), (cJ, .long)] s := ⟨hK.1, fun k q hq => hK1.2 k q hq⟩
  clear hPc hDc hKc hFc hP1 hK1 hD1 hk1 hz1 ht hvm
  generalize H1 = H at hP hS ⊢
  refine lv_astore_n hx hb d_L_law_7 rfl hl (by decide) rfl (fun ls hl => ?_)
  have hl : lv_has ls 8 [(1, .ref o), (0, .ref b)] := hl
  refine va_new (D := D) (own := RL) (C := RX1) (T := TX1) (N := 14) (ci := 1) (fs := [.int 0, .null, .null, .null, .null, .int 0, .null, .null, .null, .null, .int 0, .null, .int 0, .null]) hx hb hts usX1 tyX1 tyX1_ok hown (hts _ cl_L_53) (hts _ ia_X1) (hts _ in_X1) hK hP hD hS hA rfl (by decide +kernel) (by show _ ≤ 601024; decide) (by show _ ≤ 7293034; decide) d_L_law_8 (fun om H hP hD hS => ?_)
  have hP : va_P D tdC [(o, .inr (0, [.long 34628173824, .long 68853694464, .int 0, .int 0, .ref a1, .ref a2, .ref a3])), (a1, .inl (cI, 64, .inl (fun _ => 0))), (a2, .inl (cJ, 64, .inr (.inl (fun _ => 0)))), (a3, .inl (cI, 14, .inl (fun _ => 0))), (om, .inr (1, [.int 0, .null, .null, .null, .null, .int 0, .null, .null, .null, .null, .int 0, .null, .int 0, .null]))] H := hP
  have hD : va_D A [(o, .inr (0, [.long 34628173824, .long 68853694464, .int 0, .int 0, .ref a1, .ref a2, .ref a3])), (a1, .inl (cI, 64, .inl (fun _ => 0))), (a2, .inl (cJ, 64, .inr (.inl (fun _ => 0)))), (a3, .inl (cI, 14, .inl (fun _ => 0))), (om, .inr (1, [.int 0, .null, .null, .null, .null, .int 0, .null, .null, .null, .null, .int 0, .null, .int 0, .null]))] := hD
  refine lv_dup hx hb d_L_law_11 rfl ?_
  have hPc := hP.sub (ws' := [(om, .inr (1, [.int 0, .null, .null, .null, .null, .int 0, .null, .null, .null, .null, .int 0, .null, .int 0, .null]))]) [4] rfl
  have hDc := hD.sub (ws' := [(om, .inr (1, [.int 0, .null, .null, .null, .null, .int 0, .null, .null, .null, .null, .int 0, .null, .int 0, .null]))]) [4] (by decide) rfl
  have hKc := hK.sub (tys' := []) [] rfl
  have hFc := va_free (wc := [(om, .inr (1, [.int 0, .null, .null, .null, .null, .int 0, .null, .null, .null, .null, .int 0, .null, .int 0, .null]))]) hD hS hA [4] rfl
  refine va_callv (va_runI (b := om) (As := []) (rest := [.ref om]) ⟨hx, hb, hml, hown, hts⟩ (m_X1_init l D _ om) (cwI 0 hts (tw_good kw_X1_init) rfl rfl rfl (hts _ in_X1) (hts _ ml_L_55) (hts _ im_X1_init) rfl (by decide +kernel) ⟨Nat.le_of_ble_eq_true rfl, Nat.le_of_ble_eq_true rfl⟩) ⟨fun a U g mk q => ⟨q.1, q.2.1, q.2.2.1, va_K.moved (u := U) (U := U.calling g mk a) (Vm.Alike.refl U.vm) q.2.2.2.1, q.2.2.2.2⟩, fun U hU hW => ⟨rfl, by rw [hU], by rw [hU]; exact hPc, va_K.moved hW.alike hKc, hDc.weaken (fun _ _ _ _ => trivial)⟩⟩ rfl rfl hl.1 rfl (lv_room (Nat.le_of_ble_eq_true rfl)) d_L_law_12 ⟨by show _ ≤ 601024; decide, by show _ ≤ 7293034; decide⟩) hS (fun q _ h => hFc q h) hFc (fun u0 t0 H1 locs ht hvm _hq hB hz1 hk1 hS => ?_)
  obtain ⟨q, dI, dJ, dZ⟩ := u0
  obtain ⟨hP1, hK1, hD1⟩ := hB
  rw [ht] at hP1
  obtain ⟨hP, hD⟩ := va_join (wr := [(o, .inr (0, [.long 34628173824, .long 68853694464, .int 0, .int 0, .ref a1, .ref a2, .ref a3])), (a1, .inl (cI, 64, .inl (fun _ => 0))), (a2, .inl (cJ, 64, .inr (.inl (fun _ => 0)))), (a3, .inl (cI, 14, .inl (fun _ => 0)))]) (w1 := [(om, .inr (1, [.int 0, .ref (q 1), .ref (q 2), .ref (q 3), .ref (q 4), .int 0, .ref (q 6), .ref (q 7), .ref (q 8), .ref (q 9), .int 0, .ref (q 11), .int 0, .ref (q 13)])), ((q 1), .inl (dI, 1216, .inl (td_laid (fun _ => 0)))), ((q 2), .inl (dI, 19, .inl (upd (fun _ => 0) 0 0))), ((q 3), .inl (dI, 64, .inl (fun _ => 0))), ((q 4), .inl (dJ, 64, .inr (.inl (fun _ => 0)))), ((q 6), .inl (dI, 19, .inl (fun _ => 0))), ((q 7), .inl (dZ, 19, .inl (fun _ => 0))), ((q 8), .inl (dI, 19, .inl (fun _ => 0))), ((q 9), .inl (dI, 19, .inl (fun _ => 0))), ((q 11), .inl (dI, 64, .inl (fun _ => 0))), ((q 13), .inl (dI, 64, .inl (fun _ => 0)))]) hP hD [4] [0, 1, 2, 3] rfl rfl (by decide) (by decide) hk1 hFc hP1 hD1
  have hK1 := va_K.moved hvm.symm hK1
  have hK : va_K D tdC [(cI, .int), (cJ, .long), (dI, .int), (dJ, .long), (dZ, .boolean)] s := ⟨hK.1, fun k q hq => match k with | 0 => hK.2 0 q hq | 1 => hK.2 1 q hq | k + 2 => hK1.2 k q hq⟩
  clear hPc hDc hKc hFc hP1 hK1 hD1 hk1 hz1 ht hvm
  generalize H1 = H at hP hS ⊢
  refine lv_astore_n hx hb d_L_law_15 rfl hl (by decide) rfl (fun ls hl => ?_)
  have hl : lv_has ls 8 [(2, .ref om), (1, .ref o), (0, .ref b)] := hl
  refine lv_iconst (v := 1) hx hb d_L_law_16 (by decide) ?_
  refine va_newa (atype := .long) hx hb (hts _ ac_long) rfl hK hP hD hS hA (N' := 1) (a0 := (1, .inr (.inl (fun _ => 0)))) (fun cA => rfl) (by decide) (by decide) (by decide) (by show _ ≤ 601024; decide) (by show _ ≤ 7293034; decide) d_L_law_17 (fun w cK H hK hP hD hS => ?_)
  have hP : va_P D tdC [(o, .inr (0, [.long 34628173824, .long 68853694464, .int 0, .int 0, .ref a1, .ref a2, .ref a3])), (a1, .inl (cI, 64, .inl (fun _ => 0))), (a2, .inl (cJ, 64, .inr (.inl (fun _ => 0)))), (a3, .inl (cI, 14, .inl (fun _ => 0))), (om, .inr (1, [.int 0, .ref (q 1), .ref (q 2), .ref (q 3), .ref (q 4), .int 0, .ref (q 6), .ref (q 7), .ref (q 8), .ref (q 9), .int 0, .ref (q 11), .int 0, .ref (q 13)])), ((q 1), .inl (dI, 1216, .inl (td_laid (fun _ => 0)))), ((q 2), .inl (dI, 19, .inl (upd (fun _ => 0) 0 0))), ((q 3), .inl (dI, 64, .inl (fun _ => 0))), ((q 4), .inl (dJ, 64, .inr (.inl (fun _ => 0)))), ((q 6), .inl (dI, 19, .inl (fun _ => 0))), ((q 7), .inl (dZ, 19, .inl (fun _ => 0))), ((q 8), .inl (dI, 19, .inl (fun _ => 0))), ((q 9), .inl (dI, 19, .inl (fun _ => 0))), ((q 11), .inl (dI, 64, .inl (fun _ => 0))), ((q 13), .inl (dI, 64, .inl (fun _ => 0))), (w, .inl (cK, 1, .inr (.inl (fun _ => 0))))] H := hP
  have hD : va_D A [(o, .inr (0, [.long 34628173824, .long 68853694464, .int 0, .int 0, .ref a1, .ref a2, .ref a3])), (a1, .inl (cI, 64, .inl (fun _ => 0))), (a2, .inl (cJ, 64, .inr (.inl (fun _ => 0)))), (a3, .inl (cI, 14, .inl (fun _ => 0))), (om, .inr (1, [.int 0, .ref (q 1), .ref (q 2), .ref (q 3), .ref (q 4), .int 0, .ref (q 6), .ref (q 7), .ref (q 8), .ref (q 9), .int 0, .ref (q 11), .int 0, .ref (q 13)])), ((q 1), .inl (dI, 1216, .inl (td_laid (fun _ => 0)))), ((q 2), .inl (dI, 19, .inl (upd (fun _ => 0) 0 0))), ((q 3), .inl (dI, 64, .inl (fun _ => 0))), ((q 4), .inl (dJ, 64, .inr (.inl (fun _ => 0)))), ((q 6), .inl (dI, 19, .inl (fun _ => 0))), ((q 7), .inl (dZ, 19, .inl (fun _ => 0))), ((q 8), .inl (dI, 19, .inl (fun _ => 0))), ((q 9), .inl (dI, 19, .inl (fun _ => 0))), ((q 11), .inl (dI, 64, .inl (fun _ => 0))), ((q 13), .inl (dI, 64, .inl (fun _ => 0))), (w, .inl (cK, 1, .inr (.inl (fun _ => 0))))] := hD
  refine lv_astore_n hx hb d_L_law_19 rfl hl (by decide) rfl (fun ls hl => ?_)
  have hl : lv_has ls 8 [(3, .ref w), (2, .ref om), (1, .ref o), (0, .ref b)] := hl
  refine lv_iconst (v := 0) hx hb d_L_law_20 (by decide) ?_
  refine lv_istore hx hb d_L_law_21 hl (by decide) rfl (fun ls hl => ?_)
  have hl : lv_has ls 8 [(4, .int 0), (3, .ref w), (2, .ref om), (1, .ref o), (0, .ref b)] := hl
  have hl1 := lv_sub hl [4, 3, 2, 1, 0] rfl
  have hP := hP.sub (ws' := [(o, .inr (0, [.long 34628173824, .long 68853694464, .int 0, .int 0, .ref a1, .ref a2, .ref a3])), (a1, .inl (cI, 64, .inl (fun _ => 0))), (a2, .inl (cJ, 64, .inr (.inl (fun _ => 0)))), (a3, .inl (cI, 14, .inl (fun _ => 0))), (w, .inl (cK, 1, .inr (.inl (fun _ => 0)))), (om, .inr (1, [.int 0, .ref (q 1), .ref (q 2), .ref (q 3), .ref (q 4), .int 0, .ref (q 6), .ref (q 7), .ref (q 8), .ref (q 9), .int 0, .ref (q 11), .int 0, .ref (q 13)])), ((q 1), .inl (dI, 1216, .inl (td_laid (fun _ => 0)))), ((q 2), .inl (dI, 19, .inl (upd (fun _ => 0) 0 0))), ((q 3), .inl (dI, 64, .inl (fun _ => 0))), ((q 4), .inl (dJ, 64, .inr (.inl (fun _ => 0)))), ((q 11), .inl (dI, 64, .inl (fun _ => 0))), ((q 6), .inl (dI, 19, .inl (fun _ => 0))), ((q 7), .inl (dZ, 19, .inl (fun _ => 0))), ((q 8), .inl (dI, 19, .inl (fun _ => 0))), ((q 9), .inl (dI, 19, .inl (fun _ => 0))), ((q 13), .inl (dI, 64, .inl (fun _ => 0)))]) [0, 1, 2, 3, 15, 4, 5, 6, 7, 8, 13, 9, 10, 11, 12, 14] rfl
  have hD := hD.sub (ws' := [(o, .inr (0, [.long 34628173824, .long 68853694464, .int 0, .int 0, .ref a1, .ref a2, .ref a3])), (a1, .inl (cI, 64, .inl (fun _ => 0))), (a2, .inl (cJ, 64, .inr (.inl (fun _ => 0)))), (a3, .inl (cI, 14, .inl (fun _ => 0))), (w, .inl (cK, 1, .inr (.inl (fun _ => 0)))), (om, .inr (1, [.int 0, .ref (q 1), .ref (q 2), .ref (q 3), .ref (q 4), .int 0, .ref (q 6), .ref (q 7), .ref (q 8), .ref (q 9), .int 0, .ref (q 11), .int 0, .ref (q 13)])), ((q 1), .inl (dI, 1216, .inl (td_laid (fun _ => 0)))), ((q 2), .inl (dI, 19, .inl (upd (fun _ => 0) 0 0))), ((q 3), .inl (dI, 64, .inl (fun _ => 0))), ((q 4), .inl (dJ, 64, .inr (.inl (fun _ => 0)))), ((q 11), .inl (dI, 64, .inl (fun _ => 0))), ((q 6), .inl (dI, 19, .inl (fun _ => 0))), ((q 7), .inl (dZ, 19, .inl (fun _ => 0))), ((q 8), .inl (dI, 19, .inl (fun _ => 0))), ((q 9), .inl (dI, 19, .inl (fun _ => 0))), ((q 13), .inl (dI, 64, .inl (fun _ => 0)))]) [0, 1, 2, 3, 15, 4, 5, 6, 7, 8, 13, 9, 10, 11, 12, 14] (by decide) rfl
  have hK := hK.sub (tys' := [(cI, .int), (cJ, .long), (cK, .long), (dI, .int), (dZ, .boolean), (dJ, .long)]) [0, 1, 5, 2, 4, 3] rfl
  refine lw_loop hx hb hml hown hts hXs hbl hbA hA hba hX hNc hfl o a1 a2 a3 w om q cI cJ cK dI dZ dJ hK hL (fun H locs ls cells slots hc hs hS => ?_) 600 0 (34628173824, 68853694464, 0, 0, (fun _ => 0), (fun _ => 0)) (fun _ => 0) (fun _ => 0) 0 ((0, td_laid (fun _ => 0), upd (fun _ => 0) 0 0, (fun _ => 0), (fun _ => 0), (fun _ => 0), (fun _ => 0), 0), (fun _ => 0), 0) (fun _ => 0) (fun _ => 0) (fun _ => 0) _ _ _ _ _ (by omega) (by omega) (by show _ ≤ 100; decide) (by show _ ≤ 4000; decide) ⟨⟨Or.inl rfl, (show upd (fun _ => 0) 0 0 0 = 0 from pk_us), ag_begin _, rfl, fun k hk => absurd hk (Nat.not_lt_zero k)⟩, Nat.zero_le _, trivial⟩ hP hD hS hl1
  refine va_forget (fun q hq => hba _ (hS.2.2 q hq)) (W.widen hc hs ?_)
  refine lv_iconst (v := 1) hx hb d_L_law_839 (by decide) ?_
  exact lw_ret hx hb hr hlocks d_L_law_840
set_option maxHeartbeats 4000000 in
theorem lw_walk (l : Launch) (hfl : l.stackTraces = false) (b : Addr) (xs : List Int32) : MetFree l x (headSpec (Jvm.Cond.code x code maxLocals ret :: tables_1) room_1) (lw_P b xs) (fun _ _ _ _ _ => True) lw_Q := by
  refine MetFree.of_bodyS (code := code) (maxLocals := maxLocals) (ret := ret) (by decide) ?_ ?_
  · intro args s m h hn
    obtain ⟨meth, c, h1, h2, h3, h4, h5, h6, -, -⟩ := Cond.code_spec hn (atoms_spec (ws := Jvm.Cond.code x code maxLocals ret :: tables_1) h _ List.mem_cons_self)
    exact ⟨meth, c, h1, h2, h3, h4, h5, h6⟩
  · intro p e s m args below meth c s₁ B hml0 hP _
    obtain ⟨rfl, hx, hbd, hgv⟩ := hP
    obtain ⟨scr, harrAt, hlist, hof, hsmall⟩ := hx
    obtain ⟨hcb, hkn, -, -⟩ := State.arrayAt?_spec harrAt
    have hown : s.vm.findClass R_law = some m.cls := findClass_of_methodNamed B.named
    have hts0 : ∀ c ∈ (Jvm.Cond.code x code maxLocals ret :: tables_1), c.before #[Value.ref b] s = true := atoms_spec (ws := Jvm.Cond.code x code maxLocals ret :: tables_1) B.pre
    have hts : ∀ w ∈ lw_tbl, w.before #[Value.ref b] s = true := k2_hts_sels lw_privs (fun w hw => hts0 w (List.mem_cons_of_mem _ hw)) lw_privs_ok
    have hml : c.maxLocals = 8 := B.maxLocals_eq (hts0 _ List.mem_cons_self)
    have X₀ : Stand p l e room_1 s m #[Value.ref b] below meth c s₁ [] 0 0 := Stand.of_body B
    have hh0 : s₁.heap = s.heap := by rw [B.state]; rfl
    have hsz : scr.slots.size = xs.length := by rw [← Array.length_toList, hlist, List.length_map]
    have hval : ∀ j : Nat, j < xs.length → scr.slots[j]? = some (.int (xs.getD j 0)) := fun j hj => by
      rw [← Array.getElem?_toList, hlist]
      simp [hj]
    have hbl : b < s.heap.size := (Array.getElem?_eq_some_iff.mp hcb).1
    have hX : va_X b xs.length (fun j => xs.getD j 0) s s.heap := ⟨scr, hcb, hof, hkn, hsz, hval⟩
    have K : W p l e room_1 s m #[Value.ref b] below meth c s₁.heap [] 0 0 (lw_Z below #[Value.ref b] s) (entryFrame m ([Value.ref b] : List Value).toArray 8) := by
      rw [hh0]
      exact whole_start l hfl hbd ⟨B.exec, B.bytes, B.returns, hml, hown, hts, hX, hbl, B.notSynchronized, hgv⟩
    obtain ⟨t, a1, o, b1, b2, b3⟩ := K s₁ rfl X₀
    exact ⟨t, o, a1, b1, b2, b3⟩
theorem lw_pre_spec {args : Array Value} {s : State} (h : (Jvm.Cond.and given_1 narrow_1).before args s = true) (hr : rest_1_c.before args s = true) : ∃ (b : Addr) (xs : List Int32), lw_P b xs args s := by
  have hs := flat_of_before _ h
  have hq := flat_of_before _ hr
  have hc : (Cond.count 1).before args s = true := hs _ (by decide +kernel)
  have harr : (Cond.arrayOf (.arg 0) .int).before args s = true := hs _ (by decide +kernel)
  have hle : (Cond.le (.length (.arg 0)) (.int 3072)).before args s = true := hs _ (by decide +kernel)
  have hlen : (Cond.isInt (.length (.arg 0))).before args s = true := hq _ (by decide +kernel)
  have hall : (Cond.all (.arg 0) (.isInt (.elem (.arg 0) (.index 0)))).before args s = true := hq _ (by decide +kernel)
  obtain ⟨b, xs, hb, hx⟩ := State.ints_of_pre rfl harr hlen hall
  have hsm : xs.length < 2 ^ 31 := hx.choose_spec.2.2.2
  have hev : (Term.length (.arg 0)).eval args s none [] s = some (.int xs.length.toInt32) := hx.length_eval hb
  have hv := Cond.le_ints hev (show (Term.int 3072).eval args s none [] s = some (.int 3072) from rfl)
  have hd : xs.length.toInt32 ≤ 3072 := by
    simpa [Cond.before, Cond.holds, hv] using hle
  have hN : xs.length ≤ 3072 := (Int32.ofNat_le_ofNat hsm (by decide)).mp (show Int32.ofNat xs.length ≤ Int32.ofNat 3072 from hd)
  exact ⟨b, xs, Cond.one_arg hc (show args[0]? = some (.ref b) from hb), hx, hN, h⟩
theorem lw_comes (l : Launch) (hfl : l.stackTraces = false) : Comes l x (Jvm.Cond.code x code maxLocals ret :: tables_1) room_1 (fun tb e args s => Calls_1 tb e args s ∧ rest_1 tb e args s ∧ Pre_1 tb e args s)
    (fun _ _ args s o t => lw_Q args s o t) := by
  intro p e ha hc hk s m args below hf hfit hheap happ hpre
  obtain ⟨b, xs, hP⟩ := lw_pre_spec hpre.2.2 hpre.2.1
  obtain ⟨k, o, h1, h2, h3, hQ⟩   := lw_walk l hfl b xs p e ha hc hk s m args below hf ((Spec.applies_iff_loose hf).mp happ).1 hP trivial
  exact ⟨k, o, h1, h2, h3, hQ⟩
theorem lw_frame {s t : State} {o : Outcome} {args : Array Value} (h : Framed s o t [] 601024 7293034) :
    Framed s o t (fieldLocs frame_1_writes args s ++ arrayLocs frame_1_arrays args s ++ staticLocs frame_1_statics s) 601024 7293034 := h
theorem lw_limb (L : Cond) (hL : ∀ (args : Array Value) (s t : State), L.after args s (.returned (some (.int 1))) t = true) :
    ArmFor flags0 classFile x code maxLocals ret World_1 tables_1 room_1 Calls_1 rest_1 Pre_1
      (fun tb e a s o t => postC L tb e a s o t ∧ Framed s o t (fieldLocs frame_1_writes a s ++ arrayLocs frame_1_arrays a s ++ staticLocs frame_1_statics s) 601024 7293034) := by
  intro l hflags _ _ p e ha hc hk s m args below hf hfit hheap happ hpre
  obtain ⟨k, o, h1, h2, h3, rfl, hF⟩ := lw_comes l (en_tr hflags) p e ha hc hk s m args below hf hfit hheap happ hpre
  exact ⟨k, _, h1, h2, h3, hL args s _, lw_frame hF⟩
theorem i_vc : Claimed_1_1 ∧ Claimed_1_2 := ⟨lw_limb limb_1_1 (fun args s t => by simp [limb_1_1, Cond.after, Cond.holds, Cond.value]), lw_limb limb_1_2 (fun args s t => Cond.after_iff.mpr (by
  first | (rw [show limb_1_2 = Cond.eq .result (.int 1) from rfl, Cond.eq_ints (x := 1) (y := 1) rfl rfl]; simp; done) | (simp [limb_1_2, Cond.value, Term.eval]; done)))⟩

