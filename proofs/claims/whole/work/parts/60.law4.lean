theorem ag_pt {S : tdS} {M : tdM} (h : td_SM S M) (q : Int32) : (td_may S.1 S.2.1 q → ¬ M.2.2.2.2 = 64 → td_pt M q = 0) ∧ (¬ td_may S.1 S.2.1 q → td_pt M q = 1) ∧ (td_may S.1 S.2.1 q → M.2.2.2.2 = 64 → td_pt M q = 2) := by
  have hc := ag_can h q
  unfold td_pt
  refine ⟨fun h1 h2 => ?_, fun h1 => ?_, fun h1 h2 => ?_⟩
  · rw [if_neg (by rw [hc.mpr h1]; decide), if_neg h2]
  · rw [if_pos (Bool.eq_false_iff.mpr (fun z => h1 (hc.mp z)))]
  · rw [if_neg (by rw [hc.mpr h1]; decide), if_pos h2]
theorem ag_fS (S : tdS) : ((td_few S.1 S.2.1 ∧ S.2.2.2.1 + (td_plan 14 S.1 S.2.1).length ≤ 64) → td_fS S = td_mks (td_plan 14 S.1 S.2.1) S) ∧ (¬ (td_few S.1 S.2.1 ∧ S.2.2.2.1 + (td_plan 14 S.1 S.2.1).length ≤ 64) → td_fS S = S) := by
  unfold td_fS
  rw [td_few_g]
  exact ⟨fun h => if_pos h, fun h => if_neg h⟩
theorem ag_fin (S : tdS) (hD : gD S.1 S.2.1) (hk : S.2.2.2.1 ≤ 64) (hH : td_Hi S.2.2.2.1 S.1 S.2.1 S.2.2.2.2.1 S.2.2.2.2.2) : (td_fS S).2.2.2.1 ≤ 64 ∧ td_Hi (td_fS S).2.2.2.1 (td_fS S).1 (td_fS S).2.1 (td_fS S).2.2.2.2.1 (td_fS S).2.2.2.2.2 := by
  by_cases h : td_few S.1 S.2.1 ∧ S.2.2.2.1 + (td_plan 14 S.1 S.2.1).length ≤ 64
  · rw [(ag_fS S).1 h]
    have h7 := (td_few_g _ _).mp h.1
    have hN := gN_le S.1 S.2.1
    exact ⟨by rw [td_mks_md]; exact h.2, (td_Hi_pl 14 S hD (by omega) hH).2⟩
  · rw [(ag_fS S).2 h]; exact ⟨hk, hH⟩
set_option maxHeartbeats 4000000 in
set_option maxRecDepth 100000 in
theorem lw_c1 {p : Program} {l : Launch} {e : Env} {s : State} {m : MethodId} {below : List Frame} {meth : Method} {c : Code} {b L : Nat} {xs : Nat → Int32} {Q : State → Prop} {A : Nat → Prop} {D : va_G} (hx : p.tables.exec = Jvm.exec) (hb : c.code = c_L_law) (hml : c.maxLocals = 8) (hown : s.vm.findClass RL = some m.cls) (hts : ∀ w ∈ tw, w.before #[Value.ref b] s = true) (hXs : va_X b L xs s s.heap) (hbl : b < s.heap.size) (hbA : ¬ A b) (hA : ∀ q : Nat, s.heap.size ≤ q → A q) (hba : ∀ q : Nat, A q → s.heap.size ≤ q) (hX : td_X s.heap.size s) (hNc : va_Nc td_ise td_iae s) (hfl : l.stackTraces = false) (o a1 a2 a3 w om : Nat) (q : Nat → Nat) (cI cJ cK dI dZ dJ : ClassId) (hK : va_K D tdC [(cI, .int), (cJ, .long), (cK, .long), (dI, .int), (dZ, .boolean), (dJ, .long)] s) (S : tdS) (pn : Nat → Int32) (fo : Nat → Int64) (th : Int32) (V : tdU) (ro : Nat → Int32) (tu : Nat → Int64) (ke : Nat → Int32) (hI : td_INV S V ro tu) {H : Heap} {locs : List Loc} {ls : Array Slot} {cells slots : Nat} (hcs : cells + 2 ≤ 601024) (hss : slots + 12 ≤ 7293034) (hP : va_P D tdC [(o, .inr (0, [.long (S.1), .long (S.2.1), .int (S.2.2.1), .int (nI S.2.2.2.1), .ref a1, .ref a2, .ref a3])), (a1, .inl (cI, 64, .inl S.2.2.2.2.1)), (a2, .inl (cJ, 64, .inr (.inl S.2.2.2.2.2))), (a3, .inl (cI, 14, .inl pn)), (w, .inl (cK, 1, .inr (.inl fo))), (om, .inr (1, [.int th, .ref (q 1), .ref (q 2), .ref (q 3), .ref (q 4), .int (nI S.2.2.2.1), .ref (q 6), .ref (q 7), .ref (q 8), .ref (q 9), .int (V.1.2.2.2.2.2.2.2), .ref (q 11), .int (V.2.2), .ref (q 13)])), ((q 1), .inl (dI, 1216, .inl V.1.2.1)), ((q 2), .inl (dI, 19, .inl V.1.2.2.1)), ((q 3), .inl (dI, 64, .inl ro)), ((q 4), .inl (dJ, 64, .inr (.inl tu))), ((q 11), .inl (dI, 64, .inl V.2.1)), ((q 6), .inl (dI, 19, .inl V.1.2.2.2.1)), ((q 7), .inl (dZ, 19, .inl V.1.2.2.2.2.1)), ((q 8), .inl (dI, 19, .inl V.1.2.2.2.2.2.1)), ((q 9), .inl (dI, 19, .inl V.1.2.2.2.2.2.2.1)), ((q 13), .inl (dI, 64, .inl ke))] H) (hD : va_D A [(o, .inr (0, [.long (S.1), .long (S.2.1), .int (S.2.2.1), .int (nI S.2.2.2.1), .ref a1, .ref a2, .ref a3])), (a1, .inl (cI, 64, .inl S.2.2.2.2.1)), (a2, .inl (cJ, 64, .inr (.inl S.2.2.2.2.2))), (a3, .inl (cI, 14, .inl pn)), (w, .inl (cK, 1, .inr (.inl fo))), (om, .inr (1, [.int th, .ref (q 1), .ref (q 2), .ref (q 3), .ref (q 4), .int (nI S.2.2.2.1), .ref (q 6), .ref (q 7), .ref (q 8), .ref (q 9), .int (V.1.2.2.2.2.2.2.2), .ref (q 11), .int (V.2.2), .ref (q 13)])), ((q 1), .inl (dI, 1216, .inl V.1.2.1)), ((q 2), .inl (dI, 19, .inl V.1.2.2.1)), ((q 3), .inl (dI, 64, .inl ro)), ((q 4), .inl (dJ, 64, .inr (.inl tu))), ((q 11), .inl (dI, 64, .inl V.2.1)), ((q 6), .inl (dI, 19, .inl V.1.2.2.2.1)), ((q 7), .inl (dZ, 19, .inl V.1.2.2.2.2.1)), ((q 8), .inl (dI, 19, .inl V.1.2.2.2.2.2.1)), ((q 9), .inl (dI, 19, .inl V.1.2.2.2.2.2.2.1)), ((q 13), .inl (dI, 64, .inl ke))]) (hS : va_S A s.heap H locs) (j : Nat) (hj : 6 * j + 6 ≤ L) (hL : L ≤ 3072) (hl : lv_has ls 8 [(0, .ref b), (1, .ref o), (2, .ref om), (3, .ref w), (4, .int (nI (6 * j)))]) (kk : ∀ (S : tdS) (pn : Nat → Int32) (fo : Nat → Int64) (th : Int32) (V : tdU) (ro : Nat → Int32) (tu : Nat → Int64) (ke : Nat → Int32) (H : Heap) (locs : List Loc) (ls : Array Slot) (c1 s1 : Nat), c1 ≤ cells + 2 → s1 ≤ slots + 12 → td_INV S V ro tu → va_P D tdC [(o, .inr (0, [.long (S.1), .long (S.2.1), .int (S.2.2.1), .int (nI S.2.2.2.1), .ref a1, .ref a2, .ref a3])), (a1, .inl (cI, 64, .inl S.2.2.2.2.1)), (a2, .inl (cJ, 64, .inr (.inl S.2.2.2.2.2))), (a3, .inl (cI, 14, .inl pn)), (w, .inl (cK, 1, .inr (.inl fo))), (om, .inr (1, [.int th, .ref (q 1), .ref (q 2), .ref (q 3), .ref (q 4), .int (nI S.2.2.2.1), .ref (q 6), .ref (q 7), .ref (q 8), .ref (q 9), .int (V.1.2.2.2.2.2.2.2), .ref (q 11), .int (V.2.2), .ref (q 13)])), ((q 1), .inl (dI, 1216, .inl V.1.2.1)), ((q 2), .inl (dI, 19, .inl V.1.2.2.1)), ((q 3), .inl (dI, 64, .inl ro)), ((q 4), .inl (dJ, 64, .inr (.inl tu))), ((q 11), .inl (dI, 64, .inl V.2.1)), ((q 6), .inl (dI, 19, .inl V.1.2.2.2.1)), ((q 7), .inl (dZ, 19, .inl V.1.2.2.2.2.1)), ((q 8), .inl (dI, 19, .inl V.1.2.2.2.2.2.1)), ((q 9), .inl (dI, 19, .inl V.1.2.2.2.2.2.2.1)), ((q 13), .inl (dI, 64, .inl ke))] H → va_D A [(o, .inr (0, [.long (S.1), .long (S.2.1), .int (S.2.2.1), .int (nI S.2.2.2.1), .ref a1, .ref a2, .ref a3])), (a1, .inl (cI, 64, .inl S.2.2.2.2.1)), (a2, .inl (cJ, 64, .inr (.inl S.2.2.2.2.2))), (a3, .inl (cI, 14, .inl pn)), (w, .inl (cK, 1, .inr (.inl fo))), (om, .inr (1, [.int th, .ref (q 1), .ref (q 2), .ref (q 3), .ref (q 4), .int (nI S.2.2.2.1), .ref (q 6), .ref (q 7), .ref (q 8), .ref (q 9), .int (V.1.2.2.2.2.2.2.2), .ref (q 11), .int (V.2.2), .ref (q 13)])), ((q 1), .inl (dI, 1216, .inl V.1.2.1)), ((q 2), .inl (dI, 19, .inl V.1.2.2.1)), ((q 3), .inl (dI, 64, .inl ro)), ((q 4), .inl (dJ, 64, .inr (.inl tu))), ((q 11), .inl (dI, 64, .inl V.2.1)), ((q 6), .inl (dI, 19, .inl V.1.2.2.2.1)), ((q 7), .inl (dZ, 19, .inl V.1.2.2.2.2.1)), ((q 8), .inl (dI, 19, .inl V.1.2.2.2.2.2.1)), ((q 9), .inl (dI, 19, .inl V.1.2.2.2.2.2.2.1)), ((q 13), .inl (dI, 64, .inl ke))] → va_S A s.heap H locs → lv_has ls 8 [(0, .ref b), (1, .ref o), (2, .ref om), (3, .ref w), (4, .int (nI (6 * j)))] → W p l e room_1 s m #[Value.ref b] below meth c H locs c1 s1 Q (F0 m 833 ls [])) : W p l e room_1 s m #[Value.ref b] below meth c H locs cells slots Q (F0 m 135 ls []) := by
  obtain ⟨hSM, hk64, hHi⟩ := id hI
  have hpl := hSM.1
  have hR : td_rel (td_lv V.1.2.1 0) S.2.2.1 S.1 S.2.1 := hSM.2.2.1
  have hmv : V.1.2.2.1 0 = S.2.2.1 := hSM.2.1
  have hK1 := hK.sub (tys' := []) [] rfl
  refine lv_aload_n hx hb d_L_law_135 rfl (lv_at hl 1 rfl) ?_
  refine lv_aload_n hx hb d_L_law_136 rfl (lv_at hl 0 rfl) ?_
  refine lv_iload hx hb d_L_law_137 (lv_at hl 4 rfl) ?_
  refine lv_iconst (v := 1) hx hb d_L_law_139 (by decide) ?_
  refine lv_iadd hx hb d_L_law_140 ?_
  refine td_i (y := (nI (6 * j + 1))) (by show nI (6 * j) + nI 1 = _; rw [nI_add]) ?_
  refine va_sld hx hb hXs hbl hbA hS (vp_in_nI (show 6 * j + 1 < L by omega) (by omega)) d_L_law_141 ?_
  refine td_i (y := (xs (6 * j + 1))) (by rw [nI_clamp (by omega)]) ?_
  refine lv_i2l (v := ((xs (6 * j + 1)).toInt64)) hx hb d_L_law_142 rfl ?_
  refine lv_bipush (v := 32) hx hb d_L_law_143 (by decide) ?_
  refine lv_lshl (v := (td_lshl ((xs (6 * j + 1)).toInt64) 32)) hx hb d_L_law_145 rfl ?_
  refine lv_aload_n hx hb d_L_law_146 rfl (lv_at hl 0 rfl) ?_
  refine lv_iload hx hb d_L_law_147 (lv_at hl 4 rfl) ?_
  refine lv_iconst (v := 2) hx hb d_L_law_149 (by decide) ?_
  refine lv_iadd hx hb d_L_law_150 ?_
  refine td_i (y := (nI (6 * j + 2))) (by show nI (6 * j) + nI 2 = _; rw [nI_add]) ?_
  refine va_sld hx hb hXs hbl hbA hS (vp_in_nI (show 6 * j + 2 < L by omega) (by omega)) d_L_law_151 ?_
  refine td_i (y := (xs (6 * j + 2))) (by rw [nI_clamp (by omega)]) ?_
  refine lv_i2l (v := ((xs (6 * j + 2)).toInt64)) hx hb d_L_law_152 rfl ?_
  refine lv_ldc2 (v := 4294967295) hx hb hown (hts _ cn_L_60) d_L_law_153 ?_
  refine lv_land hx hb d_L_law_156 ?_
  refine lv_lor hx hb d_L_law_157 ?_
  refine lv_aload_n hx hb d_L_law_158 rfl (lv_at hl 0 rfl) ?_
  refine lv_iload hx hb d_L_law_159 (lv_at hl 4 rfl) ?_
  refine lv_iconst (v := 3) hx hb d_L_law_161 (by decide) ?_
  refine lv_iadd hx hb d_L_law_162 ?_
  refine td_i (y := (nI (6 * j + 3))) (by show nI (6 * j) + nI 3 = _; rw [nI_add]) ?_
  refine va_sld hx hb hXs hbl hbA hS (vp_in_nI (show 6 * j + 3 < L by omega) (by omega)) d_L_law_163 ?_
  refine td_i (y := (xs (6 * j + 3))) (by rw [nI_clamp (by omega)]) ?_
  refine lv_i2l (v := ((xs (6 * j + 3)).toInt64)) hx hb d_L_law_164 rfl ?_
  refine lv_bipush (v := 32) hx hb d_L_law_165 (by decide) ?_
  refine lv_lshl (v := (td_lshl ((xs (6 * j + 3)).toInt64) 32)) hx hb d_L_law_167 rfl ?_
  refine lv_aload_n hx hb d_L_law_168 rfl (lv_at hl 0 rfl) ?_
  refine lv_iload hx hb d_L_law_169 (lv_at hl 4 rfl) ?_
  refine lv_iconst (v := 4) hx hb d_L_law_171 (by decide) ?_
  refine lv_iadd hx hb d_L_law_172 ?_
  refine td_i (y := (nI (6 * j + 4))) (by show nI (6 * j) + nI 4 = _; rw [nI_add]) ?_
  refine va_sld hx hb hXs hbl hbA hS (vp_in_nI (show 6 * j + 4 < L by omega) (by omega)) d_L_law_173 ?_
  refine td_i (y := (xs (6 * j + 4))) (by rw [nI_clamp (by omega)]) ?_
  refine lv_i2l (v := ((xs (6 * j + 4)).toInt64)) hx hb d_L_law_174 rfl ?_
  refine lv_ldc2 (v := 4294967295) hx hb hown (hts _ cn_L_60) d_L_law_175 ?_
  refine lv_land hx hb d_L_law_178 ?_
  refine lv_lor hx hb d_L_law_179 ?_
  refine lv_aload_n hx hb d_L_law_180 rfl (lv_at hl 0 rfl) ?_
  refine lv_iload hx hb d_L_law_181 (lv_at hl 4 rfl) ?_
  refine lv_iconst (v := 5) hx hb d_L_law_183 (by decide) ?_
  refine lv_iadd hx hb d_L_law_184 ?_
  refine td_i (y := (nI (6 * j + 5))) (by show nI (6 * j) + nI 5 = _; rw [nI_add]) ?_
  refine va_sld hx hb hXs hbl hbA hS (vp_in_nI (show 6 * j + 5 < L by omega) (by omega)) d_L_law_185 ?_
  refine td_i (y := (xs (6 * j + 5))) (by rw [nI_clamp (by omega)]) ?_
  have hPc := hP.sub (ws' := [(o, .inr (0, [.long (S.1), .long (S.2.1), .int (S.2.2.1), .int (nI S.2.2.2.1), .ref a1, .ref a2, .ref a3])), (a1, .inl (cI, 64, .inl S.2.2.2.2.1)), (a2, .inl (cJ, 64, .inr (.inl S.2.2.2.2.2))), (a3, .inl (cI, 14, .inl pn)), (w, .inl (cK, 1, .inr (.inl fo)))]) [0, 1, 2, 3, 4] rfl
  have hDc := hD.sub (ws' := [(o, .inr (0, [.long (S.1), .long (S.2.1), .int (S.2.2.1), .int (nI S.2.2.2.1), .ref a1, .ref a2, .ref a3])), (a1, .inl (cI, 64, .inl S.2.2.2.2.1)), (a2, .inl (cJ, 64, .inr (.inl S.2.2.2.2.2))), (a3, .inl (cI, 14, .inl pn)), (w, .inl (cK, 1, .inr (.inl fo)))]) [0, 1, 2, 3, 4] (by decide) rfl
  have hKc := hK.sub (tys' := [(cI, .int), (cJ, .long), (cK, .long)]) [0, 1, 2] rfl
  have hFc := va_free (wc := [(o, .inr (0, [.long (S.1), .long (S.2.1), .int (S.2.2.1), .int (nI S.2.2.2.1), .ref a1, .ref a2, .ref a3])), (a1, .inl (cI, 64, .inl S.2.2.2.2.1)), (a2, .inl (cJ, 64, .inr (.inl S.2.2.2.2.2))), (a3, .inl (cI, 14, .inl pn)), (w, .inl (cK, 1, .inr (.inl fo)))]) hD hS hA [0, 1, 2, 3, 4] rfl
  refine va_calli (vx_runSW (As := [.ref o, .long ((td_lshl ((xs (6 * j + 1)).toInt64) 32) ||| (((xs (6 * j + 2)).toInt64) &&& 4294967295)), .long ((td_lshl ((xs (6 * j + 3)).toInt64) 32) ||| (((xs (6 * j + 4)).toInt64) &&& 4294967295)), .int (xs (6 * j + 5))]) (rest := []) ⟨hx, hb, hml, hown, hts⟩ (m_L_set l hfl D _ s.heap.size hS.1 o a1 a2 a3 w cI cJ cK S pn fo ((td_lshl ((xs (6 * j + 1)).toInt64) 32) ||| (((xs (6 * j + 2)).toInt64) &&& 4294967295)) ((td_lshl ((xs (6 * j + 3)).toInt64) 32) ||| (((xs (6 * j + 4)).toInt64) &&& 4294967295)) (xs (6 * j + 5)) (fun q h => hba q (hFc q h))) (vx_cwSW 4 hts (tw_S ml_L_62 st_L_set in_L kw_L_set) rfl rfl rfl (by decide +kernel) ⟨Nat.le_of_ble_eq_true rfl, Nat.le_of_ble_eq_true rfl⟩) ⟨fun a U g mk q => ⟨q.1, q.2.1, q.2.2.1, va_K.moved (u := U) (U := U.calling g mk a) (Vm.Alike.refl U.vm) q.2.2.2.1, q.2.2.2.2.1, td_X.blind q.2.2.2.2.2.1, va_Nc.moved (u := U) (U := U.calling g mk a) (Vm.Alike.refl U.vm) q.2.2.2.2.2.2⟩, fun U hU hW => ⟨rfl, by rw [hU], by rw [hU]; exact hPc, va_K.moved hW.alike hKc, hDc.weaken (fun _ _ _ _ => trivial), td_X.at hX hW hU (fun q h1 h2 => hS.2.1 q h1 (fun z => Nat.not_le.mpr h2 (hba _ z))), va_Nc.moved hW.alike hNc⟩⟩ rfl rfl hl.1 rfl (lv_room (Nat.le_of_ble_eq_true rfl)) d_L_law_186 ⟨by show _ ≤ 601024; omega, by show _ ≤ 7293034; omega⟩) hS (fun q _ h => hFc q h) hFc (fun k0 u0 t0 H1 locs ht hvm hq hB hz1 hk1 hS => ?_)
  obtain ⟨S1, pn1, fo1⟩ := u0
  obtain ⟨hP1, hK9, hD1⟩ := hB
  rw [ht] at hP1
  obtain ⟨hP, hD⟩ := va_join (wr := [(om, .inr (1, [.int th, .ref (q 1), .ref (q 2), .ref (q 3), .ref (q 4), .int (nI S.2.2.2.1), .ref (q 6), .ref (q 7), .ref (q 8), .ref (q 9), .int (V.1.2.2.2.2.2.2.2), .ref (q 11), .int (V.2.2), .ref (q 13)])), ((q 1), .inl (dI, 1216, .inl V.1.2.1)), ((q 2), .inl (dI, 19, .inl V.1.2.2.1)), ((q 3), .inl (dI, 64, .inl ro)), ((q 4), .inl (dJ, 64, .inr (.inl tu))), ((q 11), .inl (dI, 64, .inl V.2.1)), ((q 6), .inl (dI, 19, .inl V.1.2.2.2.1)), ((q 7), .inl (dZ, 19, .inl V.1.2.2.2.2.1)), ((q 8), .inl (dI, 19, .inl V.1.2.2.2.2.2.1)), ((q 9), .inl (dI, 19, .inl V.1.2.2.2.2.2.2.1)), ((q 13), .inl (dI, 64, .inl ke))]) (w1 := [(o, .inr (0, [.long (S1.1), .long (S1.2.1), .int (S1.2.2.1), .int (nI S1.2.2.2.1), .ref a1, .ref a2, .ref a3])), (a1, .inl (cI, 64, .inl S1.2.2.2.2.1)), (a2, .inl (cJ, 64, .inr (.inl S1.2.2.2.2.2))), (a3, .inl (cI, 14, .inl pn1)), (w, .inl (cK, 1, .inr (.inl fo1)))]) hP hD [0, 1, 2, 3, 4] [5, 6, 7, 8, 9, 10, 11, 12, 13, 14, 15] rfl rfl (by decide) (by decide) hk1 hFc hP1 hD1
  clear hPc hDc hKc hFc hP1 hK9 hD1 hk1 hz1
  have hP := hP.sub (ws' := [(o, .inr (0, [.long (S1.1), .long (S1.2.1), .int (S1.2.2.1), .int (nI S1.2.2.2.1), .ref a1, .ref a2, .ref a3])), (a1, .inl (cI, 64, .inl S1.2.2.2.2.1)), (a2, .inl (cJ, 64, .inr (.inl S1.2.2.2.2.2))), (a3, .inl (cI, 14, .inl pn1)), (w, .inl (cK, 1, .inr (.inl fo1))), (om, .inr (1, [.int th, .ref (q 1), .ref (q 2), .ref (q 3), .ref (q 4), .int (nI S.2.2.2.1), .ref (q 6), .ref (q 7), .ref (q 8), .ref (q 9), .int (V.1.2.2.2.2.2.2.2), .ref (q 11), .int (V.2.2), .ref (q 13)])), ((q 1), .inl (dI, 1216, .inl V.1.2.1)), ((q 2), .inl (dI, 19, .inl V.1.2.2.1)), ((q 3), .inl (dI, 64, .inl ro)), ((q 4), .inl (dJ, 64, .inr (.inl tu))), ((q 11), .inl (dI, 64, .inl V.2.1)), ((q 6), .inl (dI, 19, .inl V.1.2.2.2.1)), ((q 7), .inl (dZ, 19, .inl V.1.2.2.2.2.1)), ((q 8), .inl (dI, 19, .inl V.1.2.2.2.2.2.1)), ((q 9), .inl (dI, 19, .inl V.1.2.2.2.2.2.2.1)), ((q 13), .inl (dI, 64, .inl ke))]) [11, 12, 13, 14, 15, 0, 1, 2, 3, 4, 5, 6, 7, 8, 9, 10] rfl
  have hD := hD.sub (ws' := [(o, .inr (0, [.long (S1.1), .long (S1.2.1), .int (S1.2.2.1), .int (nI S1.2.2.2.1), .ref a1, .ref a2, .ref a3])), (a1, .inl (cI, 64, .inl S1.2.2.2.2.1)), (a2, .inl (cJ, 64, .inr (.inl S1.2.2.2.2.2))), (a3, .inl (cI, 14, .inl pn1)), (w, .inl (cK, 1, .inr (.inl fo1))), (om, .inr (1, [.int th, .ref (q 1), .ref (q 2), .ref (q 3), .ref (q 4), .int (nI S.2.2.2.1), .ref (q 6), .ref (q 7), .ref (q 8), .ref (q 9), .int (V.1.2.2.2.2.2.2.2), .ref (q 11), .int (V.2.2), .ref (q 13)])), ((q 1), .inl (dI, 1216, .inl V.1.2.1)), ((q 2), .inl (dI, 19, .inl V.1.2.2.1)), ((q 3), .inl (dI, 64, .inl ro)), ((q 4), .inl (dJ, 64, .inr (.inl tu))), ((q 11), .inl (dI, 64, .inl V.2.1)), ((q 6), .inl (dI, 19, .inl V.1.2.2.2.1)), ((q 7), .inl (dZ, 19, .inl V.1.2.2.2.2.1)), ((q 8), .inl (dI, 19, .inl V.1.2.2.2.2.2.1)), ((q 9), .inl (dI, 19, .inl V.1.2.2.2.2.2.2.1)), ((q 13), .inl (dI, 64, .inl ke))]) [11, 12, 13, 14, 15, 0, 1, 2, 3, 4, 5, 6, 7, 8, 9, 10] (by decide) rfl
  clear ht hvm
  generalize H1 = H at hP hS ⊢
  have hq : (pn1, fo1) = (pn, fo) ∧ ((k0 = 0 ∧ ((((td_lshl ((xs (6 * j + 1)).toInt64) 32) ||| (((xs (6 * j + 2)).toInt64) &&& 4294967295)) &&& ((td_lshl ((xs (6 * j + 3)).toInt64) 32) ||| (((xs (6 * j + 4)).toInt64) &&& 4294967295))) = 0 ∧ td_pl (xs (6 * j + 5))) ∧ S1 = ((if (xs (6 * j + 5)) = 0 then ((td_lshl ((xs (6 * j + 1)).toInt64) 32) ||| (((xs (6 * j + 2)).toInt64) &&& 4294967295)) else ((td_lshl ((xs (6 * j + 3)).toInt64) 32) ||| (((xs (6 * j + 4)).toInt64) &&& 4294967295))), (if (xs (6 * j + 5)) = 0 then ((td_lshl ((xs (6 * j + 3)).toInt64) 32) ||| (((xs (6 * j + 4)).toInt64) &&& 4294967295)) else ((td_lshl ((xs (6 * j + 1)).toInt64) 32) ||| (((xs (6 * j + 2)).toInt64) &&& 4294967295))), (xs (6 * j + 5)), 0, S.2.2.2.2.1, S.2.2.2.2.2)) ∨ (k0 = 1 ∧ ¬ ((((td_lshl ((xs (6 * j + 1)).toInt64) 32) ||| (((xs (6 * j + 2)).toInt64) &&& 4294967295)) &&& ((td_lshl ((xs (6 * j + 3)).toInt64) 32) ||| (((xs (6 * j + 4)).toInt64) &&& 4294967295))) = 0 ∧ td_pl (xs (6 * j + 5))) ∧ S1 = S)) := hq
  obtain ⟨-, hq⟩ := hq
  refine lv_istore hx hb d_L_law_189 hl (by decide) rfl (fun ls hl => ?_)
  have hl : lv_has ls 8 [(5, .int k0), (0, .ref b), (1, .ref o), (2, .ref om), (3, .ref w), (4, .int (nI (6 * j)))] := hl
  refine lv_aload_n hx hb d_L_law_191 rfl (lv_at hl 3 rfl) ?_
  refine lv_aload_n hx hb d_L_law_192 rfl (lv_at hl 1 rfl) ?_
  refine lv_iload hx hb d_L_law_193 (lv_at hl 5 rfl) ?_
  refine lv_iconst (v := 1) hx hb d_L_law_195 (by decide) ?_
  refine lv_iadd hx hb d_L_law_196 ?_
  refine td_i (y := (nI (6 * j + 1))) (by show nI (6 * j) + nI 1 = _; rw [nI_add]) ?_
  refine va_sld hx hb hXs hbl hbA hS (vp_in_nI (show 6 * j + 1 < L by omega) (by omega)) d_L_law_197 ?_
  refine td_i (y := (xs (6 * j + 1))) (by rw [nI_clamp (by omega)]) ?_
  refine lv_i2l (v := ((xs (6 * j + 1)).toInt64)) hx hb d_L_law_198 rfl ?_
  refine lv_bipush (v := 32) hx hb d_L_law_199 (by decide) ?_
  refine lv_lshl (v := (td_lshl ((xs (6 * j + 1)).toInt64) 32)) hx hb d_L_law_201 rfl ?_
  refine lv_aload_n hx hb d_L_law_202 rfl (lv_at hl 1 rfl) ?_
  refine lv_iload hx hb d_L_law_203 (lv_at hl 5 rfl) ?_
  refine lv_iconst (v := 2) hx hb d_L_law_205 (by decide) ?_
  refine lv_iadd hx hb d_L_law_206 ?_
  refine td_i (y := (nI (6 * j + 2))) (by show nI (6 * j) + nI 2 = _; rw [nI_add]) ?_
  refine va_sld hx hb hXs hbl hbA hS (vp_in_nI (show 6 * j + 2 < L by omega) (by omega)) d_L_law_207 ?_
  refine td_i (y := (xs (6 * j + 2))) (by rw [nI_clamp (by omega)]) ?_
  refine lv_i2l (v := ((xs (6 * j + 2)).toInt64)) hx hb d_L_law_208 rfl ?_
  refine lv_ldc2 (v := 4294967295) hx hb hown (hts _ cn_L_60) d_L_law_209 ?_
  refine lv_land hx hb d_L_law_212 ?_
  refine lv_lor hx hb d_L_law_213 ?_
  refine lv_aload_n hx hb d_L_law_214 rfl (lv_at hl 1 rfl) ?_
  refine lv_iload hx hb d_L_law_215 (lv_at hl 5 rfl) ?_
  refine lv_iconst (v := 3) hx hb d_L_law_217 (by decide) ?_
  refine lv_iadd hx hb d_L_law_218 ?_
  refine td_i (y := (nI (6 * j + 3))) (by show nI (6 * j) + nI 3 = _; rw [nI_add]) ?_
  refine va_sld hx hb hXs hbl hbA hS (vp_in_nI (show 6 * j + 3 < L by omega) (by omega)) d_L_law_219 ?_
  refine td_i (y := (xs (6 * j + 3))) (by rw [nI_clamp (by omega)]) ?_
  refine lv_i2l (v := ((xs (6 * j + 3)).toInt64)) hx hb d_L_law_220 rfl ?_
  refine lv_bipush (v := 32) hx hb d_L_law_221 (by decide) ?_
  refine lv_lshl (v := (td_lshl ((xs (6 * j + 3)).toInt64) 32)) hx hb d_L_law_223 rfl ?_
  refine lv_aload_n hx hb d_L_law_224 rfl (lv_at hl 1 rfl) ?_
  refine lv_iload hx hb d_L_law_225 (lv_at hl 5 rfl) ?_
  refine lv_iconst (v := 4) hx hb d_L_law_227 (by decide) ?_
  refine lv_iadd hx hb d_L_law_228 ?_
  refine td_i (y := (nI (6 * j + 4))) (by show nI (6 * j) + nI 4 = _; rw [nI_add]) ?_
  refine va_sld hx hb hXs hbl hbA hS (vp_in_nI (show 6 * j + 4 < L by omega) (by omega)) d_L_law_229 ?_
  refine td_i (y := (xs (6 * j + 4))) (by rw [nI_clamp (by omega)]) ?_
  refine lv_i2l (v := ((xs (6 * j + 4)).toInt64)) hx hb d_L_law_230 rfl ?_
  refine lv_ldc2 (v := 4294967295) hx hb hown (hts _ cn_L_60) d_L_law_231 ?_
  refine lv_land hx hb d_L_law_234 ?_
  refine lv_lor hx hb d_L_law_235 ?_
  refine lv_aload_n hx hb d_L_law_236 rfl (lv_at hl 1 rfl) ?_
  refine lv_iload hx hb d_L_law_237 (lv_at hl 5 rfl) ?_
  refine lv_iconst (v := 5) hx hb d_L_law_239 (by decide) ?_
  refine lv_iadd hx hb d_L_law_240 ?_
  refine td_i (y := (nI (6 * j + 5))) (by show nI (6 * j) + nI 5 = _; rw [nI_add]) ?_
  refine va_sld hx hb hXs hbl hbA hS (vp_in_nI (show 6 * j + 5 < L by omega) (by omega)) d_L_law_241 ?_
  refine td_i (y := (xs (6 * j + 5))) (by rw [nI_clamp (by omega)]) ?_
  have hPc := hP.sub (ws' := [(om, .inr (1, [.int th, .ref (q 1), .ref (q 2), .ref (q 3), .ref (q 4), .int (nI S.2.2.2.1), .ref (q 6), .ref (q 7), .ref (q 8), .ref (q 9), .int (V.1.2.2.2.2.2.2.2), .ref (q 11), .int (V.2.2), .ref (q 13)])), ((q 1), .inl (dI, 1216, .inl V.1.2.1)), ((q 2), .inl (dI, 19, .inl V.1.2.2.1))]) [5, 6, 7] rfl
  have hDc := hD.sub (ws' := [(om, .inr (1, [.int th, .ref (q 1), .ref (q 2), .ref (q 3), .ref (q 4), .int (nI S.2.2.2.1), .ref (q 6), .ref (q 7), .ref (q 8), .ref (q 9), .int (V.1.2.2.2.2.2.2.2), .ref (q 11), .int (V.2.2), .ref (q 13)])), ((q 1), .inl (dI, 1216, .inl V.1.2.1)), ((q 2), .inl (dI, 19, .inl V.1.2.2.1))]) [5, 6, 7] (by decide) rfl
  have hKc := hK.sub (tys' := [(dI, .int)]) [3] rfl
  have hFc := va_free (wc := [(om, .inr (1, [.int th, .ref (q 1), .ref (q 2), .ref (q 3), .ref (q 4), .int (nI S.2.2.2.1), .ref (q 6), .ref (q 7), .ref (q 8), .ref (q 9), .int (V.1.2.2.2.2.2.2.2), .ref (q 11), .int (V.2.2), .ref (q 13)])), ((q 1), .inl (dI, 1216, .inl V.1.2.1)), ((q 2), .inl (dI, 19, .inl V.1.2.2.1))]) hD hS hA [5, 6, 7] rfl
  refine va_callv (va_runV (b := om) (C := RX1) (As := [.long ((td_lshl ((xs (6 * j + 1)).toInt64) 32) ||| (((xs (6 * j + 2)).toInt64) &&& 4294967295)), .long ((td_lshl ((xs (6 * j + 3)).toInt64) 32) ||| (((xs (6 * j + 4)).toInt64) &&& 4294967295)), .int (xs (6 * j + 5))]) (rest := []) ⟨hx, hb, hml, hown, hts⟩ (m_X1_set l D _ om q th (nI S.2.2.2.1) V.1.2.2.2.2.2.2.2 V.2.2 dI V.1.2.1 V.1.2.2.1 ((td_lshl ((xs (6 * j + 1)).toInt64) 32) ||| (((xs (6 * j + 2)).toInt64) &&& 4294967295)) ((td_lshl ((xs (6 * j + 3)).toInt64) 32) ||| (((xs (6 * j + 4)).toInt64) &&& 4294967295)) (xs (6 * j + 5))) (cwV 3 hts (tw_V ml_L_67 im_X1_set se_X1_set in_X1 kw_X1_set) rfl rfl rfl (by decide +kernel) ⟨Nat.le_of_ble_eq_true rfl, Nat.le_of_ble_eq_true rfl⟩) ⟨fun a U g mk q => ⟨q.1, q.2.1, q.2.2.1, va_K.moved (u := U) (U := U.calling g mk a) (Vm.Alike.refl U.vm) q.2.2.2.1, q.2.2.2.2⟩, va_recv (q0 := 5) (ci := 1) hK hP rfl rfl, fun U hU hW => ⟨rfl, by rw [hU], by rw [hU]; exact hPc, va_K.moved hW.alike hKc, hDc.weaken (fun _ _ _ _ => trivial)⟩⟩ rfl rfl hl.1 rfl (lv_room (Nat.le_of_ble_eq_true rfl)) d_L_law_242 ⟨by show _ ≤ 601024; omega, by show _ ≤ 7293034; omega⟩) hS (fun q _ h => hFc q h) hFc (fun u0 t0 H1 locs ht hvm _hq2 hB hz1 hk1 hS => ?_)
  obtain ⟨hP1, hK1, hD1⟩ := hB
  rw [ht] at hP1
  obtain ⟨hP, hD⟩ := va_join (wr := [(o, .inr (0, [.long (S1.1), .long (S1.2.1), .int (S1.2.2.1), .int (nI S1.2.2.2.1), .ref a1, .ref a2, .ref a3])), (a1, .inl (cI, 64, .inl S1.2.2.2.2.1)), (a2, .inl (cJ, 64, .inr (.inl S1.2.2.2.2.2))), (a3, .inl (cI, 14, .inl pn1)), (w, .inl (cK, 1, .inr (.inl fo1))), ((q 3), .inl (dI, 64, .inl ro)), ((q 4), .inl (dJ, 64, .inr (.inl tu))), ((q 11), .inl (dI, 64, .inl V.2.1)), ((q 6), .inl (dI, 19, .inl V.1.2.2.2.1)), ((q 7), .inl (dZ, 19, .inl V.1.2.2.2.2.1)), ((q 8), .inl (dI, 19, .inl V.1.2.2.2.2.2.1)), ((q 9), .inl (dI, 19, .inl V.1.2.2.2.2.2.2.1)), ((q 13), .inl (dI, 64, .inl ke))]) (w1 := [(om, .inr (1, [.int (td_bset ((td_lshl ((xs (6 * j + 1)).toInt64) 32) ||| (((xs (6 * j + 2)).toInt64) &&& 4294967295)) ((td_lshl ((xs (6 * j + 3)).toInt64) 32) ||| (((xs (6 * j + 4)).toInt64) &&& 4294967295)) (xs (6 * j + 5))), .ref (q 1), .ref (q 2), .ref (q 3), .ref (q 4), .int (if (td_bset ((td_lshl ((xs (6 * j + 1)).toInt64) 32) ||| (((xs (6 * j + 2)).toInt64) &&& 4294967295)) ((td_lshl ((xs (6 * j + 3)).toInt64) 32) ||| (((xs (6 * j + 4)).toInt64) &&& 4294967295)) (xs (6 * j + 5))) = 0 then 0 else (nI S.2.2.2.1)), .ref (q 6), .ref (q 7), .ref (q 8), .ref (q 9), .int (V.1.2.2.2.2.2.2.2), .ref (q 11), .int (V.2.2), .ref (q 13)])), ((q 1), .inl (dI, 1216, .inl (if (td_bset ((td_lshl ((xs (6 * j + 1)).toInt64) 32) ||| (((xs (6 * j + 2)).toInt64) &&& 4294967295)) ((td_lshl ((xs (6 * j + 3)).toInt64) 32) ||| (((xs (6 * j + 4)).toInt64) &&& 4294967295)) (xs (6 * j + 5))) = 0 then (td_sw (td_setc ((td_lshl ((xs (6 * j + 1)).toInt64) 32) ||| (((xs (6 * j + 2)).toInt64) &&& 4294967295)) ((td_lshl ((xs (6 * j + 3)).toInt64) 32) ||| (((xs (6 * j + 4)).toInt64) &&& 4294967295))) V.1.2.1 64) else V.1.2.1))), ((q 2), .inl (dI, 19, .inl (if (td_bset ((td_lshl ((xs (6 * j + 1)).toInt64) 32) ||| (((xs (6 * j + 2)).toInt64) &&& 4294967295)) ((td_lshl ((xs (6 * j + 3)).toInt64) 32) ||| (((xs (6 * j + 4)).toInt64) &&& 4294967295)) (xs (6 * j + 5))) = 0 then (upd V.1.2.2.1 0 (xs (6 * j + 5))) else V.1.2.2.1)))]) hP hD [5, 6, 7] [0, 1, 2, 3, 4, 8, 9, 10, 11, 12, 13, 14, 15] rfl rfl (by decide) (by decide) hk1 hFc hP1 hD1
  clear hPc hDc hKc hFc hP1 hK1 hD1 hk1 hz1
  have hP := hP.sub (ws' := [(o, .inr (0, [.long (S1.1), .long (S1.2.1), .int (S1.2.2.1), .int (nI S1.2.2.2.1), .ref a1, .ref a2, .ref a3])), (a1, .inl (cI, 64, .inl S1.2.2.2.2.1)), (a2, .inl (cJ, 64, .inr (.inl S1.2.2.2.2.2))), (a3, .inl (cI, 14, .inl pn1)), (w, .inl (cK, 1, .inr (.inl fo1))), (om, .inr (1, [.int (td_bset ((td_lshl ((xs (6 * j + 1)).toInt64) 32) ||| (((xs (6 * j + 2)).toInt64) &&& 4294967295)) ((td_lshl ((xs (6 * j + 3)).toInt64) 32) ||| (((xs (6 * j + 4)).toInt64) &&& 4294967295)) (xs (6 * j + 5))), .ref (q 1), .ref (q 2), .ref (q 3), .ref (q 4), .int (if (td_bset ((td_lshl ((xs (6 * j + 1)).toInt64) 32) ||| (((xs (6 * j + 2)).toInt64) &&& 4294967295)) ((td_lshl ((xs (6 * j + 3)).toInt64) 32) ||| (((xs (6 * j + 4)).toInt64) &&& 4294967295)) (xs (6 * j + 5))) = 0 then 0 else (nI S.2.2.2.1)), .ref (q 6), .ref (q 7), .ref (q 8), .ref (q 9), .int (V.1.2.2.2.2.2.2.2), .ref (q 11), .int (V.2.2), .ref (q 13)])), ((q 1), .inl (dI, 1216, .inl (if (td_bset ((td_lshl ((xs (6 * j + 1)).toInt64) 32) ||| (((xs (6 * j + 2)).toInt64) &&& 4294967295)) ((td_lshl ((xs (6 * j + 3)).toInt64) 32) ||| (((xs (6 * j + 4)).toInt64) &&& 4294967295)) (xs (6 * j + 5))) = 0 then (td_sw (td_setc ((td_lshl ((xs (6 * j + 1)).toInt64) 32) ||| (((xs (6 * j + 2)).toInt64) &&& 4294967295)) ((td_lshl ((xs (6 * j + 3)).toInt64) 32) ||| (((xs (6 * j + 4)).toInt64) &&& 4294967295))) V.1.2.1 64) else V.1.2.1))), ((q 2), .inl (dI, 19, .inl (if (td_bset ((td_lshl ((xs (6 * j + 1)).toInt64) 32) ||| (((xs (6 * j + 2)).toInt64) &&& 4294967295)) ((td_lshl ((xs (6 * j + 3)).toInt64) 32) ||| (((xs (6 * j + 4)).toInt64) &&& 4294967295)) (xs (6 * j + 5))) = 0 then (upd V.1.2.2.1 0 (xs (6 * j + 5))) else V.1.2.2.1))), ((q 3), .inl (dI, 64, .inl ro)), ((q 4), .inl (dJ, 64, .inr (.inl tu))), ((q 11), .inl (dI, 64, .inl V.2.1)), ((q 6), .inl (dI, 19, .inl V.1.2.2.2.1)), ((q 7), .inl (dZ, 19, .inl V.1.2.2.2.2.1)), ((q 8), .inl (dI, 19, .inl V.1.2.2.2.2.2.1)), ((q 9), .inl (dI, 19, .inl V.1.2.2.2.2.2.2.1)), ((q 13), .inl (dI, 64, .inl ke))]) [0, 1, 2, 3, 4, 13, 14, 15, 5, 6, 7, 8, 9, 10, 11, 12] rfl
  have hD := hD.sub (ws' := [(o, .inr (0, [.long (S1.1), .long (S1.2.1), .int (S1.2.2.1), .int (nI S1.2.2.2.1), .ref a1, .ref a2, .ref a3])), (a1, .inl (cI, 64, .inl S1.2.2.2.2.1)), (a2, .inl (cJ, 64, .inr (.inl S1.2.2.2.2.2))), (a3, .inl (cI, 14, .inl pn1)), (w, .inl (cK, 1, .inr (.inl fo1))), (om, .inr (1, [.int (td_bset ((td_lshl ((xs (6 * j + 1)).toInt64) 32) ||| (((xs (6 * j + 2)).toInt64) &&& 4294967295)) ((td_lshl ((xs (6 * j + 3)).toInt64) 32) ||| (((xs (6 * j + 4)).toInt64) &&& 4294967295)) (xs (6 * j + 5))), .ref (q 1), .ref (q 2), .ref (q 3), .ref (q 4), .int (if (td_bset ((td_lshl ((xs (6 * j + 1)).toInt64) 32) ||| (((xs (6 * j + 2)).toInt64) &&& 4294967295)) ((td_lshl ((xs (6 * j + 3)).toInt64) 32) ||| (((xs (6 * j + 4)).toInt64) &&& 4294967295)) (xs (6 * j + 5))) = 0 then 0 else (nI S.2.2.2.1)), .ref (q 6), .ref (q 7), .ref (q 8), .ref (q 9), .int (V.1.2.2.2.2.2.2.2), .ref (q 11), .int (V.2.2), .ref (q 13)])), ((q 1), .inl (dI, 1216, .inl (if (td_bset ((td_lshl ((xs (6 * j + 1)).toInt64) 32) ||| (((xs (6 * j + 2)).toInt64) &&& 4294967295)) ((td_lshl ((xs (6 * j + 3)).toInt64) 32) ||| (((xs (6 * j + 4)).toInt64) &&& 4294967295)) (xs (6 * j + 5))) = 0 then (td_sw (td_setc ((td_lshl ((xs (6 * j + 1)).toInt64) 32) ||| (((xs (6 * j + 2)).toInt64) &&& 4294967295)) ((td_lshl ((xs (6 * j + 3)).toInt64) 32) ||| (((xs (6 * j + 4)).toInt64) &&& 4294967295))) V.1.2.1 64) else V.1.2.1))), ((q 2), .inl (dI, 19, .inl (if (td_bset ((td_lshl ((xs (6 * j + 1)).toInt64) 32) ||| (((xs (6 * j + 2)).toInt64) &&& 4294967295)) ((td_lshl ((xs (6 * j + 3)).toInt64) 32) ||| (((xs (6 * j + 4)).toInt64) &&& 4294967295)) (xs (6 * j + 5))) = 0 then (upd V.1.2.2.1 0 (xs (6 * j + 5))) else V.1.2.2.1))), ((q 3), .inl (dI, 64, .inl ro)), ((q 4), .inl (dJ, 64, .inr (.inl tu))), ((q 11), .inl (dI, 64, .inl V.2.1)), ((q 6), .inl (dI, 19, .inl V.1.2.2.2.1)), ((q 7), .inl (dZ, 19, .inl V.1.2.2.2.2.1)), ((q 8), .inl (dI, 19, .inl V.1.2.2.2.2.2.1)), ((q 9), .inl (dI, 19, .inl V.1.2.2.2.2.2.2.1)), ((q 13), .inl (dI, 64, .inl ke))]) [0, 1, 2, 3, 4, 13, 14, 15, 5, 6, 7, 8, 9, 10, 11, 12] (by decide) rfl
  clear ht hvm
  generalize H1 = H at hP hS ⊢
  have hth : (td_bset ((td_lshl ((xs (6 * j + 1)).toInt64) 32) ||| (((xs (6 * j + 2)).toInt64) &&& 4294967295)) ((td_lshl ((xs (6 * j + 3)).toInt64) 32) ||| (((xs (6 * j + 4)).toInt64) &&& 4294967295)) (xs (6 * j + 5))) = k0 := hq.elim (fun x => ((ag_bset _ _ _).1.mpr x.2.1).trans x.1.symm) (fun x => ((ag_bset _ _ _).2.resolve_left (fun z => x.2.1 ((ag_bset _ _ _).1.mp z))).trans x.1.symm)
  refine lv_aload_n hx hb d_L_law_245 rfl (lv_at hl 3 rfl) ?_
  have hP1 := hP.sub (ws' := [(om, .inr (1, [.int (td_bset ((td_lshl ((xs (6 * j + 1)).toInt64) 32) ||| (((xs (6 * j + 2)).toInt64) &&& 4294967295)) ((td_lshl ((xs (6 * j + 3)).toInt64) 32) ||| (((xs (6 * j + 4)).toInt64) &&& 4294967295)) (xs (6 * j + 5))), .ref (q 1), .ref (q 2), .ref (q 3), .ref (q 4), .int (if (td_bset ((td_lshl ((xs (6 * j + 1)).toInt64) 32) ||| (((xs (6 * j + 2)).toInt64) &&& 4294967295)) ((td_lshl ((xs (6 * j + 3)).toInt64) 32) ||| (((xs (6 * j + 4)).toInt64) &&& 4294967295)) (xs (6 * j + 5))) = 0 then 0 else (nI S.2.2.2.1)), .ref (q 6), .ref (q 7), .ref (q 8), .ref (q 9), .int (V.1.2.2.2.2.2.2.2), .ref (q 11), .int (V.2.2), .ref (q 13)]))]) [5] rfl
  refine vp_callSi (W.runV (b := om) (C := RX1) (As := []) (rest := []) ⟨hx, hb, hml, hown, hts⟩ (m_X1_thrown l D om q (td_bset ((td_lshl ((xs (6 * j + 1)).toInt64) 32) ||| (((xs (6 * j + 2)).toInt64) &&& 4294967295)) ((td_lshl ((xs (6 * j + 3)).toInt64) 32) ||| (((xs (6 * j + 4)).toInt64) &&& 4294967295)) (xs (6 * j + 5))) (if (td_bset ((td_lshl ((xs (6 * j + 1)).toInt64) 32) ||| (((xs (6 * j + 2)).toInt64) &&& 4294967295)) ((td_lshl ((xs (6 * j + 3)).toInt64) 32) ||| (((xs (6 * j + 4)).toInt64) &&& 4294967295)) (xs (6 * j + 5))) = 0 then 0 else (nI S.2.2.2.1)) V.1.2.2.2.2.2.2.2 V.2.2 dI V.1.2.1 V.1.2.2.1) (cwV 0 hts (tw_V ml_L_68 im_X1_thrown se_X1_thrown in_X1 kw_X1_thrown) rfl rfl rfl (by decide +kernel) ⟨Nat.le_of_ble_eq_true rfl, Nat.le_of_ble_eq_true rfl⟩) ⟨fun a U g mk q => ⟨q.1, q.2.1, va_K.moved (u := U) (U := U.calling g mk a) (Vm.Alike.refl U.vm) q.2.2⟩, va_recv (q0 := 5) (ci := 1) hK hP rfl rfl, fun U hU hW => ⟨rfl, by rw [hU]; exact hP1, va_K.moved hW.alike hK1⟩⟩ rfl rfl hl.1 rfl (lv_room (Nat.le_of_ble_eq_true rfl)) d_L_law_246 ⟨by show _ ≤ 601024; omega, by show _ ≤ 7293034; omega⟩) (fun r1 h9 => ?_)
  subst h9
  clear hP1
  refine lv_iload hx hb d_L_law_249 (lv_at hl 0 rfl) ?_
  refine lv_icmp_eq (tgt := 256) hx hb d_L_law_251 (by decide) (fun ht1 => ?_) (fun ht1 => ?_)
  · refine lv_goto (tgt := 833) hx hb d_L_law_256 (by decide) ?_
    rcases hq with ⟨x0, x1, x2⟩ | ⟨x0, x1, x2⟩
    · have hb0 : (td_bset ((td_lshl ((xs (6 * j + 1)).toInt64) 32) ||| (((xs (6 * j + 2)).toInt64) &&& 4294967295)) ((td_lshl ((xs (6 * j + 3)).toInt64) 32) ||| (((xs (6 * j + 4)).toInt64) &&& 4294967295)) (xs (6 * j + 5))) = 0 := hth.trans x0
      simp only [if_pos hb0] at hP hD
      rw [x2] at hP hD
      have hl1 := lv_sub hl [1, 2, 3, 4, 5] rfl
      exact kk ((if (xs (6 * j + 5)) = 0 then ((td_lshl ((xs (6 * j + 1)).toInt64) 32) ||| (((xs (6 * j + 2)).toInt64) &&& 4294967295)) else ((td_lshl ((xs (6 * j + 3)).toInt64) 32) ||| (((xs (6 * j + 4)).toInt64) &&& 4294967295))), (if (xs (6 * j + 5)) = 0 then ((td_lshl ((xs (6 * j + 3)).toInt64) 32) ||| (((xs (6 * j + 4)).toInt64) &&& 4294967295)) else ((td_lshl ((xs (6 * j + 1)).toInt64) 32) ||| (((xs (6 * j + 2)).toInt64) &&& 4294967295))), (xs (6 * j + 5)), 0, S.2.2.2.2.1, S.2.2.2.2.2) pn1 fo1 (td_bset ((td_lshl ((xs (6 * j + 1)).toInt64) 32) ||| (((xs (6 * j + 2)).toInt64) &&& 4294967295)) ((td_lshl ((xs (6 * j + 3)).toInt64) 32) ||| (((xs (6 * j + 4)).toInt64) &&& 4294967295)) (xs (6 * j + 5))) ((V.1.1, (td_sw (td_setc ((td_lshl ((xs (6 * j + 1)).toInt64) 32) ||| (((xs (6 * j + 2)).toInt64) &&& 4294967295)) ((td_lshl ((xs (6 * j + 3)).toInt64) 32) ||| (((xs (6 * j + 4)).toInt64) &&& 4294967295))) V.1.2.1 64), (upd V.1.2.2.1 0 (xs (6 * j + 5))), V.1.2.2.2), V.2) ro tu ke _ _ _ _ _ (by omega) (by omega) (⟨⟨x1.2, (show upd V.1.2.2.1 0 _ 0 = _ from pk_us), ag_set _ x1.1 x1.2, rfl, fun k hk => absurd hk (Nat.not_lt_zero k)⟩, Nat.zero_le _, trivial⟩) hP hD hS hl1
    · have hb0 : ¬ (td_bset ((td_lshl ((xs (6 * j + 1)).toInt64) 32) ||| (((xs (6 * j + 2)).toInt64) &&& 4294967295)) ((td_lshl ((xs (6 * j + 3)).toInt64) 32) ||| (((xs (6 * j + 4)).toInt64) &&& 4294967295)) (xs (6 * j + 5))) = 0 := fun z => absurd (z.symm.trans (hth.trans x0)) (by decide)
      simp only [if_neg hb0] at hP hD
      rw [x2] at hP hD
      have hl1 := lv_sub hl [1, 2, 3, 4, 5] rfl
      exact kk S pn1 fo1 (td_bset ((td_lshl ((xs (6 * j + 1)).toInt64) 32) ||| (((xs (6 * j + 2)).toInt64) &&& 4294967295)) ((td_lshl ((xs (6 * j + 3)).toInt64) 32) ||| (((xs (6 * j + 4)).toInt64) &&& 4294967295)) (xs (6 * j + 5))) V ro tu ke _ _ _ _ _ (by omega) (by omega) (hI) hP hD hS hl1
  · exact absurd hth ht1
