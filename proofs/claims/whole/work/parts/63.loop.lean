/-! the law's loop -/
theorem iI_toInt2 {z : Int} (h1 : -100000 ≤ z) (h2 : z ≤ 100000) : (iI z).toInt = z := by
  unfold iI
  rw [Int32.toInt_ofInt_of_le (by omega) (by omega)]
theorem td_31 (x : Int32) : ∃ k : Nat, k < 32 ∧ (x &&& 31) = nI k := by
  have hb : ((x &&& 31).toBitVec).toNat < 32 := by
    rw [Int32.toBitVec_and, BitVec.toNat_and]
    exact Nat.lt_of_le_of_lt Nat.and_le_right (by decide)
  refine ⟨(x &&& 31).toBitVec.toNat, hb, ?_⟩
  apply Int32.toBitVec_inj.mp
  apply BitVec.eq_of_toNat_eq
  generalize (x &&& 31).toBitVec.toNat = k at hb
  revert k
  decide +kernel
set_option maxHeartbeats 4000000 in
set_option maxRecDepth 100000 in
theorem lw_loop {p : Program} {l : Launch} {e : Env} {s : State} {m : MethodId} {below : List Frame} {meth : Method} {c : Code} {b L : Nat} {xs : Nat → Int32} {Q : State → Prop} {A : Nat → Prop} {D : va_G} (hx : p.tables.exec = Jvm.exec) (hb : c.code = c_L_law) (hml : c.maxLocals = 8) (hown : s.vm.findClass RL = some m.cls) (hts : ∀ w ∈ tw, w.before #[Value.ref b] s = true) (hXs : va_X b L xs s s.heap) (hbl : b < s.heap.size) (hbA : ¬ A b) (hA : ∀ q : Nat, s.heap.size ≤ q → A q) (hba : ∀ q : Nat, A q → s.heap.size ≤ q) (hX : td_X s.heap.size s) (hNc : va_Nc td_ise td_iae s) (hfl : l.stackTraces = false) (o a1 a2 a3 w om : Nat) (q : Nat → Nat) (cI cJ cK dI dZ dJ : ClassId) (hK : va_K D tdC [(cI, .int), (cJ, .long), (cK, .long), (dI, .int), (dZ, .boolean), (dJ, .long)] s) (hL : L ≤ 3072) (hend : ∀ (H : Heap) (locs : List Loc) (ls : Array Slot) (cells slots : Nat), cells ≤ 601024 → slots ≤ 7293034 → va_S A s.heap H locs → W p l e room_1 s m #[Value.ref b] below meth c H locs cells slots Q (F0 m 839 ls [])) : ∀ (n j : Nat) (S : tdS) (pn : Nat → Int32) (fo : Nat → Int64) (th : Int32) (V : tdU) (ro : Nat → Int32) (tu : Nat → Int64) (ke : Nat → Int32) (H : Heap) (locs : List Loc) (ls : Array Slot) (cells slots : Nat), L < 6 * j + 6 * n → 6 * j ≤ 3078 → cells ≤ 100 + 2 * j → slots ≤ 4000 + 12 * j → td_INV S V ro tu → va_P D tdC [(o, .inr (0, [.long (S.1), .long (S.2.1), .int (S.2.2.1), .int (nI S.2.2.2.1), .ref a1, .ref a2, .ref a3])), (a1, .inl (cI, 64, .inl S.2.2.2.2.1)), (a2, .inl (cJ, 64, .inr (.inl S.2.2.2.2.2))), (a3, .inl (cI, 14, .inl pn)), (w, .inl (cK, 1, .inr (.inl fo))), (om, .inr (1, [.int th, .ref (q 1), .ref (q 2), .ref (q 3), .ref (q 4), .int (nI S.2.2.2.1), .ref (q 6), .ref (q 7), .ref (q 8), .ref (q 9), .int (V.1.2.2.2.2.2.2.2), .ref (q 11), .int (V.2.2), .ref (q 13)])), ((q 1), .inl (dI, 1216, .inl V.1.2.1)), ((q 2), .inl (dI, 19, .inl V.1.2.2.1)), ((q 3), .inl (dI, 64, .inl ro)), ((q 4), .inl (dJ, 64, .inr (.inl tu))), ((q 11), .inl (dI, 64, .inl V.2.1)), ((q 6), .inl (dI, 19, .inl V.1.2.2.2.1)), ((q 7), .inl (dZ, 19, .inl V.1.2.2.2.2.1)), ((q 8), .inl (dI, 19, .inl V.1.2.2.2.2.2.1)), ((q 9), .inl (dI, 19, .inl V.1.2.2.2.2.2.2.1)), ((q 13), .inl (dI, 64, .inl ke))] H → va_D A [(o, .inr (0, [.long (S.1), .long (S.2.1), .int (S.2.2.1), .int (nI S.2.2.2.1), .ref a1, .ref a2, .ref a3])), (a1, .inl (cI, 64, .inl S.2.2.2.2.1)), (a2, .inl (cJ, 64, .inr (.inl S.2.2.2.2.2))), (a3, .inl (cI, 14, .inl pn)), (w, .inl (cK, 1, .inr (.inl fo))), (om, .inr (1, [.int th, .ref (q 1), .ref (q 2), .ref (q 3), .ref (q 4), .int (nI S.2.2.2.1), .ref (q 6), .ref (q 7), .ref (q 8), .ref (q 9), .int (V.1.2.2.2.2.2.2.2), .ref (q 11), .int (V.2.2), .ref (q 13)])), ((q 1), .inl (dI, 1216, .inl V.1.2.1)), ((q 2), .inl (dI, 19, .inl V.1.2.2.1)), ((q 3), .inl (dI, 64, .inl ro)), ((q 4), .inl (dJ, 64, .inr (.inl tu))), ((q 11), .inl (dI, 64, .inl V.2.1)), ((q 6), .inl (dI, 19, .inl V.1.2.2.2.1)), ((q 7), .inl (dZ, 19, .inl V.1.2.2.2.2.1)), ((q 8), .inl (dI, 19, .inl V.1.2.2.2.2.2.1)), ((q 9), .inl (dI, 19, .inl V.1.2.2.2.2.2.2.1)), ((q 13), .inl (dI, 64, .inl ke))] → va_S A s.heap H locs → lv_has ls 8 [(0, .ref b), (1, .ref o), (2, .ref om), (3, .ref w), (4, .int (nI (6 * j)))] → W p l e room_1 s m #[Value.ref b] below meth c H locs cells slots Q (F0 m 23 ls []) := by
  intro n
  induction n with
  | zero =>
    intro j S pn fo th V ro tu ke H locs ls cells slots hn hj6 hc hs hI hP hD hS hl
    refine lv_iload hx hb d_L_law_23 (lv_at hl 4 rfl) ?_
    refine lv_aload_n hx hb d_L_law_25 rfl (lv_at hl 0 rfl) ?_
    refine va_slen hx hb hXs hbl hbA hS d_L_law_26 ?_
    refine td_i (y := (nI L)) (rfl) ?_
    refine lv_bipush (v := 6) hx hb d_L_law_27 (by decide) ?_
    refine lv_isub hx hb d_L_law_29 ?_
    refine td_i (y := (iI ((L : Int) - 6))) (by rw [← iI_sub]; rfl) ?_
    refine lv_icmp_gt (tgt := 839) hx hb d_L_law_30 (by decide) (fun h0 => ?_) (fun h0 => ?_)
    · exact hend _ _ _ _ _ (by omega) (by omega) hS
    · exfalso
      apply h0
      rw [Int32.lt_iff_toInt_lt, iI_toInt2 (by omega) (by omega), nI_toInt (by omega)]
      omega
  | succ n ih =>
    intro j S pn fo th V ro tu ke H locs ls cells slots hn hj6 hc hs hI hP hD hS hl
    refine lv_iload hx hb d_L_law_23 (lv_at hl 4 rfl) ?_
    refine lv_aload_n hx hb d_L_law_25 rfl (lv_at hl 0 rfl) ?_
    refine va_slen hx hb hXs hbl hbA hS d_L_law_26 ?_
    refine td_i (y := (nI L)) (rfl) ?_
    refine lv_bipush (v := 6) hx hb d_L_law_27 (by decide) ?_
    refine lv_isub hx hb d_L_law_29 ?_
    refine td_i (y := (iI ((L : Int) - 6))) (by rw [← iI_sub]; rfl) ?_
    refine lv_icmp_gt (tgt := 839) hx hb d_L_law_30 (by decide) (fun h0 => ?_) (fun h0 => ?_)
    · exact hend _ _ _ _ _ (by omega) (by omega) hS
    · have hj : 6 * j + 6 ≤ L := by
        rw [Int32.lt_iff_toInt_lt, iI_toInt2 (by omega) (by omega), nI_toInt (by omega)] at h0
        omega
      suffices kk : ∀ (S : tdS) (pn : Nat → Int32) (fo : Nat → Int64) (th : Int32) (V : tdU) (ro : Nat → Int32) (tu : Nat → Int64) (ke : Nat → Int32) (H : Heap) (locs : List Loc) (ls : Array Slot) (c1 s1 : Nat), c1 ≤ cells + 2 → s1 ≤ slots + 12 → td_INV S V ro tu → va_P D tdC [(o, .inr (0, [.long (S.1), .long (S.2.1), .int (S.2.2.1), .int (nI S.2.2.2.1), .ref a1, .ref a2, .ref a3])), (a1, .inl (cI, 64, .inl S.2.2.2.2.1)), (a2, .inl (cJ, 64, .inr (.inl S.2.2.2.2.2))), (a3, .inl (cI, 14, .inl pn)), (w, .inl (cK, 1, .inr (.inl fo))), (om, .inr (1, [.int th, .ref (q 1), .ref (q 2), .ref (q 3), .ref (q 4), .int (nI S.2.2.2.1), .ref (q 6), .ref (q 7), .ref (q 8), .ref (q 9), .int (V.1.2.2.2.2.2.2.2), .ref (q 11), .int (V.2.2), .ref (q 13)])), ((q 1), .inl (dI, 1216, .inl V.1.2.1)), ((q 2), .inl (dI, 19, .inl V.1.2.2.1)), ((q 3), .inl (dI, 64, .inl ro)), ((q 4), .inl (dJ, 64, .inr (.inl tu))), ((q 11), .inl (dI, 64, .inl V.2.1)), ((q 6), .inl (dI, 19, .inl V.1.2.2.2.1)), ((q 7), .inl (dZ, 19, .inl V.1.2.2.2.2.1)), ((q 8), .inl (dI, 19, .inl V.1.2.2.2.2.2.1)), ((q 9), .inl (dI, 19, .inl V.1.2.2.2.2.2.2.1)), ((q 13), .inl (dI, 64, .inl ke))] H → va_D A [(o, .inr (0, [.long (S.1), .long (S.2.1), .int (S.2.2.1), .int (nI S.2.2.2.1), .ref a1, .ref a2, .ref a3])), (a1, .inl (cI, 64, .inl S.2.2.2.2.1)), (a2, .inl (cJ, 64, .inr (.inl S.2.2.2.2.2))), (a3, .inl (cI, 14, .inl pn)), (w, .inl (cK, 1, .inr (.inl fo))), (om, .inr (1, [.int th, .ref (q 1), .ref (q 2), .ref (q 3), .ref (q 4), .int (nI S.2.2.2.1), .ref (q 6), .ref (q 7), .ref (q 8), .ref (q 9), .int (V.1.2.2.2.2.2.2.2), .ref (q 11), .int (V.2.2), .ref (q 13)])), ((q 1), .inl (dI, 1216, .inl V.1.2.1)), ((q 2), .inl (dI, 19, .inl V.1.2.2.1)), ((q 3), .inl (dI, 64, .inl ro)), ((q 4), .inl (dJ, 64, .inr (.inl tu))), ((q 11), .inl (dI, 64, .inl V.2.1)), ((q 6), .inl (dI, 19, .inl V.1.2.2.2.1)), ((q 7), .inl (dZ, 19, .inl V.1.2.2.2.2.1)), ((q 8), .inl (dI, 19, .inl V.1.2.2.2.2.2.1)), ((q 9), .inl (dI, 19, .inl V.1.2.2.2.2.2.2.1)), ((q 13), .inl (dI, 64, .inl ke))] → va_S A s.heap H locs → lv_has ls 8 [(0, .ref b), (1, .ref o), (2, .ref om), (3, .ref w), (4, .int (nI (6 * j)))] → W p l e room_1 s m #[Value.ref b] below meth c H locs c1 s1 Q (F0 m 833 ls []) from ?_
      · refine lv_aload_n hx hb d_L_law_33 rfl (lv_at hl 0 rfl) ?_
        refine lv_iload hx hb d_L_law_34 (lv_at hl 4 rfl) ?_
        refine va_sld hx hb hXs hbl hbA hS (vp_in_nI (show 6 * j < L by omega) (by omega)) d_L_law_36 ?_
        refine lv_bipush (v := 31) hx hb d_L_law_37 (by decide) ?_
        refine lv_iand hx hb d_L_law_39 ?_
        obtain ⟨k, hk, ek⟩ := td_31 (xs (nI (6 * j)).toNatClampNeg)
        refine td_i (y := (nI k)) (ek) ?_
        by_cases h16 : k ≤ 16
        · rcases (show k = 0 ∨ k = 1 ∨ k = 2 ∨ k = 3 ∨ k = 4 ∨ k = 5 ∨ k = 6 ∨ k = 7 ∨ k = 8 ∨ k = 9 ∨ k = 10 ∨ k = 11 ∨ k = 12 ∨ k = 13 ∨ k = 14 ∨ k = 15 ∨ k = 16 by omega) with rfl | rfl | rfl | rfl | rfl | rfl | rfl | rfl | rfl | rfl | rfl | rfl | rfl | rfl | rfl | rfl | rfl
          · refine lv_tableIn (off := 84) (tgt := 124) hx hb d_L_law_40 (by decide) (by decide) (by decide) (by decide) ?_
            exact lw_c0 hx hb hml hown hts hXs hbl hbA hA hba hX hNc hfl o a1 a2 a3 w om q cI cJ cK dI dZ dJ hK S pn fo th V ro tu ke hI (by omega) (by omega) hP hD hS j hj hL hl kk
          · refine lv_tableIn (off := 95) (tgt := 135) hx hb d_L_law_40 (by decide) (by decide) (by decide) (by decide) ?_
            exact lw_c1 hx hb hml hown hts hXs hbl hbA hA hba hX hNc hfl o a1 a2 a3 w om q cI cJ cK dI dZ dJ hK S pn fo th V ro tu ke hI (by omega) (by omega) hP hD hS j hj hL hl kk
          · refine lv_tableIn (off := 219) (tgt := 259) hx hb d_L_law_40 (by decide) (by decide) (by decide) (by decide) ?_
            exact lw_c2 hx hb hml hown hts hXs hbl hbA hA hba hX hNc hfl o a1 a2 a3 w om q cI cJ cK dI dZ dJ hK S pn fo th V ro tu ke hI (by omega) (by omega) hP hD hS j hj hL hl kk
          · refine lv_tableIn (off := 274) (tgt := 314) hx hb d_L_law_40 (by decide) (by decide) (by decide) (by decide) ?_
            exact lw_c3 hx hb hml hown hts hXs hbl hbA hA hba hX hNc hfl o a1 a2 a3 w om q cI cJ cK dI dZ dJ hK S pn fo th V ro tu ke hI (by omega) (by omega) hP hD hS j hj hL hl kk
          · refine lv_tableIn (off := 287) (tgt := 327) hx hb d_L_law_40 (by decide) (by decide) (by decide) (by decide) ?_
            exact lw_c4 hx hb hml hown hts hXs hbl hbA hA hba hX hNc hfl o a1 a2 a3 w om q cI cJ cK dI dZ dJ hK S pn fo th V ro tu ke hI (by omega) (by omega) hP hD hS j hj hL hl kk
          · refine lv_tableIn (off := 301) (tgt := 341) hx hb d_L_law_40 (by decide) (by decide) (by decide) (by decide) ?_
            exact lw_c5 hx hb hml hown hts hXs hbl hbA hA hba hX hNc hfl o a1 a2 a3 w om q cI cJ cK dI dZ dJ hK S pn fo th V ro tu ke hI (by omega) (by omega) hP hD hS j hj hL hl kk
          · refine lv_tableIn (off := 356) (tgt := 396) hx hb d_L_law_40 (by decide) (by decide) (by decide) (by decide) ?_
            exact lw_c6 hx hb hml hown hts hXs hbl hbA hA hba hX hNc hfl o a1 a2 a3 w om q cI cJ cK dI dZ dJ hK S pn fo th V ro tu ke hI (by omega) (by omega) hP hD hS j hj hL hl kk
          · refine lv_tableIn (off := 369) (tgt := 409) hx hb d_L_law_40 (by decide) (by decide) (by decide) (by decide) ?_
            exact lw_c7 hx hb hml hown hts hXs hbl hbA hA hba hX hNc hfl o a1 a2 a3 w om q cI cJ cK dI dZ dJ hK S pn fo th V ro tu ke hI (by omega) (by omega) hP hD hS j hj hL hl kk
          · refine lv_tableIn (off := 425) (tgt := 465) hx hb d_L_law_40 (by decide) (by decide) (by decide) (by decide) ?_
            exact lw_c8 hx hb hml hown hts hXs hbl hbA hA hba hX hNc hfl o a1 a2 a3 w om q cI cJ cK dI dZ dJ hK S pn fo th V ro tu ke hI (by omega) (by omega) hP hD hS j hj hL hl kk
          · refine lv_tableIn (off := 469) (tgt := 509) hx hb d_L_law_40 (by decide) (by decide) (by decide) (by decide) ?_
            exact lw_c9 hx hb hml hown hts hXs hbl hbA hA hba hX hNc hfl o a1 a2 a3 w om q cI cJ cK dI dZ dJ hK S pn fo th V ro tu ke hI (by omega) (by omega) hP hD hS j hj hL hl kk
          · refine lv_tableIn (off := 482) (tgt := 522) hx hb d_L_law_40 (by decide) (by decide) (by decide) (by decide) ?_
            exact lw_c10 hx hb hml hown hts hXs hbl hbA hA hba hX hNc hfl o a1 a2 a3 w om q cI cJ cK dI dZ dJ hK S pn fo th V ro tu ke hI (by omega) (by omega) hP hD hS j hj hL hl kk
          · refine lv_tableIn (off := 495) (tgt := 535) hx hb d_L_law_40 (by decide) (by decide) (by decide) (by decide) ?_
            exact lw_c11 hx hb hml hown hts hXs hbl hbA hA hba hX hNc hfl o a1 a2 a3 w om q cI cJ cK dI dZ dJ hK S pn fo th V ro tu ke hI (by omega) (by omega) hP hD hS j hj hL hl kk
          · refine lv_tableIn (off := 550) (tgt := 590) hx hb d_L_law_40 (by decide) (by decide) (by decide) (by decide) ?_
            exact lw_c12 hx hb hml hown hts hXs hbl hbA hA hba hX hNc hfl o a1 a2 a3 w om q cI cJ cK dI dZ dJ hK S pn fo th V ro tu ke hI (by omega) (by omega) hP hD hS j hj hL hl kk
          · refine lv_tableIn (off := 594) (tgt := 634) hx hb d_L_law_40 (by decide) (by decide) (by decide) (by decide) ?_
            exact lw_c13 hx hb hml hown hts hXs hbl hbA hA hba hX hNc hfl o a1 a2 a3 w om q cI cJ cK dI dZ dJ hK S pn fo th V ro tu ke hI (by omega) (by omega) hP hD hS j hj hL hl kk
          · refine lv_tableIn (off := 638) (tgt := 678) hx hb d_L_law_40 (by decide) (by decide) (by decide) (by decide) ?_
            exact lw_c14 hx hb hml hown hts hXs hbl hbA hA hba hX hNc hfl o a1 a2 a3 w om q cI cJ cK dI dZ dJ hK S pn fo th V ro tu ke hI (by omega) (by omega) hP hD hS j hj hL hl kk
          · refine lv_tableIn (off := 682) (tgt := 722) hx hb d_L_law_40 (by decide) (by decide) (by decide) (by decide) ?_
            exact lw_c15 hx hb hml hown hts hXs hbl hbA hA hba hX hNc hfl o a1 a2 a3 w om q cI cJ cK dI dZ dJ hK S pn fo th V ro tu ke hI (by omega) (by omega) hP hD hS j hj hL hl kk
          · refine lv_tableIn (off := 738) (tgt := 778) hx hb d_L_law_40 (by decide) (by decide) (by decide) (by decide) ?_
            exact lw_c16 hx hb hml hown hts hXs hbl hbA hA hba hX hNc hfl o a1 a2 a3 w om q cI cJ cK dI dZ dJ hK S pn fo th V ro tu ke hI (by omega) (by omega) hP hD hS j hj hL hl kk
        · refine lv_tableOut (tgt := 833) hx hb d_L_law_40 (Or.inr (by rw [nI_toInt (by omega)]; omega)) (by decide) ?_
          exact kk S pn fo th V ro tu ke _ _ _ _ _ (by omega) (by omega) hI hP hD hS hl
      · clear hI hP hD hS hl
        intro S pn fo th V ro tu ke H locs ls c1 s1 hc1 hs1 hI hP hD hS hl
        refine lv_iinc (k := 4) (v := (nI (6 * (j + 1)))) hx hb d_L_law_833 hl rfl (by show nI (6 * j) + nI 6 = _; rw [nI_add]; rfl) (by decide) rfl (fun ls hl => ?_)
        have hl : lv_has ls 8 [(4, .int (nI (6 * (j + 1)))), (0, .ref b), (1, .ref o), (2, .ref om), (3, .ref w)] := hl
        refine lv_goto (tgt := 23) hx hb d_L_law_836 (by decide) ?_
        have hl1 := lv_sub hl [1, 2, 3, 4, 0] rfl
        exact ih (j + 1) S pn fo th V ro tu ke _ _ _ _ _ (by omega) (by omega) (by omega) (by omega) hI hP hD hS hl1
