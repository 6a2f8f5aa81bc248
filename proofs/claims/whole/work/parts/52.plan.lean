/-! the plan of finish, step by step -/
theorem td_plan_ov {a b : Int64} (h1 : td_moves a b = 0) (h2 : td_moves b a = 0) : ∀ n, td_plan n a b = []
  | 0 => rfl
  | n + 1 => by
    rw [td_plan_s, td_best_g]
    unfold gB
    rw [if_pos h1, if_pos h2]; rfl
theorem td_plan_st {a b : Int64} (hD : gD a b) (hov : ¬ (td_moves a b = 0 ∧ td_moves b a = 0)) {n : Nat} (hN : gN a b ≤ n + 1) : ∃ s, s ≤ 64 ∧ gB 13 a b = s ∧ td_lg a b s ∧ td_plan (n + 1) a b = nI s :: td_plan n (td_nx a b (nI s)) (td_ny a b (nI s)) ∧ gN (td_nx a b (nI s)) (td_ny a b (nI s)) ≤ n ∧ gE (td_nx a b (nI s)) (td_ny a b (nI s)) ≤ gE a b ∧ gD (td_nx a b (nI s)) (td_ny a b (nI s)) := by
  have hpl : ∀ s, s ≤ 64 → gB 13 a b = s → td_plan (n + 1) a b = nI s :: td_plan n (td_nx a b (nI s)) (td_ny a b (nI s)) := fun s hs he => by
    rw [td_plan_s, td_best_g, he, if_neg (fun z => by have := (nI_eq (a := s) (b := 65) (by omega) (by decide)).mp z; omega)]
  by_cases h1 : td_moves a b = 0
  · have h2 : ¬ td_moves b a = 0 := fun z => hov ⟨h1, z⟩
    have hg : gB 13 a b = 64 := by unfold gB; rw [if_pos h1, if_neg h2]
    refine ⟨64, Nat.le_refl _, hg, Or.inr rfl, hpl 64 (Nat.le_refl _) hg, ?_⟩
    rw [(td_nx_64 a b).1, (td_nx_64 a b).2]
    exact ⟨gN_pass h1 h2 hN, Nat.le_of_eq (gE_sw a b), gD_sw hD⟩
  · have hin := td_sq_mem (gB_in 13 a b h1)
    obtain ⟨hs, ea, eb, hd, he⟩ := g_move hD hin.2
    refine ⟨gB 13 a b, by omega, rfl, Or.inl ⟨hs, ea, eb⟩, hpl _ (by omega) rfl, ?_⟩
    rw [(td_nx_lt a b hs).1, (td_nx_lt a b hs).2]
    exact ⟨gN_step hD hin.2 hN, by omega, hd⟩
theorem td_mks_md : ∀ (L : List Int32) (S : tdS), (td_mks L S).2.2.2.1 = S.2.2.2.1 + L.length
  | [], S => rfl
  | q :: L, S => by
    show (td_mks L (td_mk S q)).2.2.2.1 = _
    rw [td_mks_md L (td_mk S q), List.length_cons]
    show S.2.2.2.1 + 1 + L.length = _
    omega
/-- the row of moves stays one -/
theorem td_Hi_pl : ∀ n (S : tdS), gD S.1 S.2.1 → gN S.1 S.2.1 ≤ n → td_Hi S.2.2.2.1 S.1 S.2.1 S.2.2.2.2.1 S.2.2.2.2.2 → (gD (td_mks (td_plan n S.1 S.2.1) S).1 (td_mks (td_plan n S.1 S.2.1) S).2.1 ∧ td_Hi (td_mks (td_plan n S.1 S.2.1) S).2.2.2.1 (td_mks (td_plan n S.1 S.2.1) S).1 (td_mks (td_plan n S.1 S.2.1) S).2.1 (td_mks (td_plan n S.1 S.2.1) S).2.2.2.2.1 (td_mks (td_plan n S.1 S.2.1) S).2.2.2.2.2)
  | 0, S, hD, _, hH => ⟨hD, hH⟩
  | n + 1, S, hD, hN, hH => by
    by_cases hov : td_moves S.1 S.2.1 = 0 ∧ td_moves S.2.1 S.1 = 0
    · rw [td_plan_ov hov.1 hov.2]; exact ⟨hD, hH⟩
    · obtain ⟨s, -, -, h3, h4, h5, -, h7⟩ := td_plan_st hD hov hN
      rw [h4]
      exact td_Hi_pl n (td_mk S (nI s)) h7 h5 (td_Hi_mk hD hH h3)
theorem td_ov_g {g : Nat → Int32} {who : Int32} {a b : Int64} (hw : who = 0 ∨ who = 1) (hR : td_rel g who a b) : (td_mv g 0 = 0 ∧ td_mv g 1 = 0) ↔ (td_moves a b = 0 ∧ td_moves b a = 0) := by
  have h1 := td_mv_0 hR
  have h2 := td_mv_0 (td_rel_sw hw hR)
  rcases hw with rfl | rfl
  · rw [h1, show (1 : Int32) = 1 - 0 from rfl, h2]
  · rw [show (0 : Int32) = 1 - 1 from rfl, h2, h1, and_comm]
/-- what finish leaves: whether it throws, the class's state behind it -/
def td_ft (S : tdS) : Int32 := if gE S.1 S.2.1 ≤ 7 ∧ S.2.2.2.1 + (td_plan 14 S.1 S.2.1).length ≤ 64 then 0 else 1
def td_fS (S : tdS) : tdS := if gE S.1 S.2.1 ≤ 7 ∧ S.2.2.2.1 + (td_plan 14 S.1 S.2.1).length ≤ 64 then td_mks (td_plan 14 S.1 S.2.1) S else S
/-- plies left, thrown, the class's state, the reference's -/
abbrev tdZ : Type := Nat × Nat × tdS × tdU × (Nat → Int32) × (Nat → Int64) × Nat
def td_FI (S : tdS) (ro : Nat → Int32) (tu : Nat → Int64) (z : tdZ) : Prop := z.2.1 ≤ 1 ∧ td_SM z.2.2.1 (z.2.2.2.1.1.2.1, z.2.2.2.1.1.2.2.1, z.2.2.2.2.1, z.2.2.2.2.2.1, z.2.2.2.2.2.2) ∧ gN z.2.2.1.1 z.2.2.1.2.1 ≤ z.1 ∧ gE z.2.2.1.1 z.2.2.1.2.1 ≤ 7 ∧ z.2.2.2.2.2.2 ≤ 64 ∧ S.2.2.2.1 ≤ z.2.2.2.2.2.2 ∧ (∀ k, k < S.2.2.2.1 → z.2.2.2.2.1 k = ro k ∧ z.2.2.2.2.2.1 k = tu k) ∧ td_mks (td_plan z.1 z.2.2.1.1 z.2.2.1.2.1) z.2.2.1 = td_mks (td_plan 14 S.1 S.2.1) S ∧ (z.2.1 = 1 → 64 < z.2.2.1.2.2.2.1 + (td_plan z.1 z.2.2.1.1 z.2.2.1.2.1).length)
theorem td_FI_0 {S : tdS} {ce mv at_ pa wo tr sp ro : Nat → Int32} {tu : Nat → Int64} {ch sc : Int32} (h : td_SM S (ce, mv, ro, tu, S.2.2.2.1)) (hk : S.2.2.2.1 ≤ 64) (hE : gE S.1 S.2.1 ≤ 7) : td_FI S ro tu (14, 0, S, ((0, ce, mv, at_, pa, wo, tr, ch), sp, sc), ro, tu, S.2.2.2.1) :=
  ⟨Nat.zero_le _, h, by have := gN_le S.1 S.2.1; show gN S.1 S.2.1 ≤ 14; omega, hE, hk, Nat.le_refl _, fun _ _ => ⟨rfl, rfl⟩, rfl, fun z => by cases z⟩
/-- the end, all done -/
theorem td_FI_end {S S1 : tdS} {ro ro1 : Nat → Int32} {tu tu1 : Nat → Int64} {n md : Nat} {V : tdU} (h : td_FI S ro tu (n, 0, S1, V, ro1, tu1, md)) (hE : gE S.1 S.2.1 ≤ 7) (hov : td_moves S1.1 S1.2.1 = 0 ∧ td_moves S1.2.1 S1.1 = 0) : td_ft S = 0 ∧ td_fS S = S1 ∧ md = (td_fS S).2.2.2.1 ∧ md = S.2.2.2.1 + (td_plan 14 S.1 S.2.1).length ∧ td_SM S1 (V.1.2.1, V.1.2.2.1, ro1, tu1, S1.2.2.2.1) := by
  obtain ⟨-, h2, -, -, h5, -, -, h8, -⟩ := h
  have h2 : td_SM S1 (V.1.2.1, V.1.2.2.1, ro1, tu1, md) := h2
  have h5 : md ≤ 64 := h5
  have h8 : td_mks (td_plan n S1.1 S1.2.1) S1 = td_mks (td_plan 14 S.1 S.2.1) S := h8
  rw [td_plan_ov hov.1 hov.2] at h8
  have h8 : S1 = td_mks (td_plan 14 S.1 S.2.1) S := h8
  have hm := td_mks_md (td_plan 14 S.1 S.2.1) S
  rw [← h8] at hm
  have hmd : md = S1.2.2.2.1 := h2.2.2.2.1
  have hc : gE S.1 S.2.1 ≤ 7 ∧ S.2.2.2.1 + (td_plan 14 S.1 S.2.1).length ≤ 64 := ⟨hE, by omega⟩
  have hfS : td_fS S = S1 := by unfold td_fS; rw [if_pos hc, h8]
  refine ⟨if_pos hc, hfS, by rw [hfS]; exact hmd, by omega, ?_⟩
  rw [← hmd]; exact h2
/-- the row is full before the end -/
theorem td_FI_thr {S S1 : tdS} {ro ro1 : Nat → Int32} {tu tu1 : Nat → Int64} {n md : Nat} {V : tdU} (h : td_FI S ro tu (n, 1, S1, V, ro1, tu1, md)) : td_ft S = 1 ∧ td_fS S = S := by
  obtain ⟨-, -, -, -, -, -, -, h8, h9⟩ := h
  have h8 : td_mks (td_plan n S1.1 S1.2.1) S1 = td_mks (td_plan 14 S.1 S.2.1) S := h8
  have h9 : 64 < S1.2.2.2.1 + (td_plan n S1.1 S1.2.1).length := h9 rfl
  have hm := td_mks_md (td_plan 14 S.1 S.2.1) S
  rw [← h8, td_mks_md] at hm
  have hc : ¬ (gE S.1 S.2.1 ≤ 7 ∧ S.2.2.2.1 + (td_plan 14 S.1 S.2.1).length ≤ 64) := fun z => by omega
  exact ⟨if_neg hc, if_neg hc⟩
/-- restored -/
theorem td_SM_re {S : tdS} {ce mv ro ro1 ce1 mv1 ke : Nat → Int32} {tu tu1 : Nat → Int64} (h : td_SM S (ce, mv, ro, tu, S.2.2.2.1)) (hr : ∀ k, k < S.2.2.2.1 → ro1 k = ro k ∧ tu1 k = tu k) : td_SM S (td_sw (td_sw ce ke 64) ce1 64, upd mv1 0 (mv 0), ro1, tu1, S.2.2.2.1) := by
  obtain ⟨h1, h2, h3, h4, h5⟩ := h
  refine ⟨h1, ?_, td_rel_cg h3 (fun i hi => ?_), rfl, fun k hk => ⟨(hr k hk).1.trans (h5 k hk).1, (hr k hk).2.trans (h5 k hk).2⟩⟩
  · show upd mv1 0 (mv 0) 0 = _
    rw [pk_us]; exact h2
  · show td_sw (td_sw ce ke 64) ce1 64 (64 * 0 + i) = ce (64 * 0 + i)
    unfold td_sw
    rw [Nat.mul_zero, Nat.zero_add, if_pos hi, if_pos hi]
/-- a search leaves the position -/
theorem td_SM_cg {S : tdS} {ce mv ce1 mv1 ro : Nat → Int32} {tu : Nat → Int64} {md : Nat} (h : td_SM S (ce, mv, ro, tu, md)) (h1 : ∀ i, i < 64 → ce1 i = ce i) (h2 : mv1 0 = mv 0) : td_SM S (ce1, mv1, ro, tu, md) := by
  obtain ⟨g1, g2, g3, g4, g5⟩ := h
  refine ⟨g1, h2.trans g2, td_rel_cg g3 (fun i hi => ?_), g4, g5⟩
  show ce1 (64 * 0 + i) = ce (64 * 0 + i)
  rw [Nat.mul_zero, Nat.zero_add, h1 i hi]
theorem td_FI_full {S S1 : tdS} {ro ro1 : Nat → Int32} {tu tu1 : Nat → Int64} {n md : Nat} {V U : tdU} (h : td_FI S ro tu (n, 0, S1, V, ro1, tu1, md)) (hov : ¬ (td_moves S1.1 S1.2.1 = 0 ∧ td_moves S1.2.1 S1.1 = 0)) (h64 : md = 64) (e1 : ∀ i, i < 64 → U.1.2.1 i = V.1.2.1 i) (e2 : U.1.2.2.1 0 = V.1.2.2.1 0) : td_FI S ro tu (n, 1, S1, U, ro1, tu1, md) := by
  obtain ⟨h1, h2, h3, h4, h5, h6, h7, h8, -⟩ := h
  have h2 : td_SM S1 (V.1.2.1, V.1.2.2.1, ro1, tu1, md) := h2
  have h3 : gN S1.1 S1.2.1 ≤ n := h3
  refine ⟨Nat.le_refl _, td_SM_cg h2 e1 e2, h3, h4, h5, h6, h7, h8, fun _ => ?_⟩
  have hmd : md = S1.2.2.2.1 := h2.2.2.2.1
  show 64 < S1.2.2.2.1 + (td_plan n S1.1 S1.2.1).length
  cases n with
  | zero => exact absurd (gN_0 h2.2.2.1.2 (by omega)) hov
  | succ n =>
    obtain ⟨s, -, -, -, g4, -⟩ := td_plan_st (a := S1.1) (b := S1.2.1) h2.2.2.1.2 hov h3
    rw [g4, List.length_cons]; omega
theorem td_FI_put {S S1 : tdS} {ro ro1 : Nat → Int32} {tu tu1 : Nat → Int64} {n md : Nat} {V : tdU} {ce1 mv1 : Nat → Int32} (h : td_FI S ro tu (n, 0, S1, V, ro1, tu1, md)) (hov : ¬ (td_moves S1.1 S1.2.1 = 0 ∧ td_moves S1.2.1 S1.1 = 0)) (h64 : md < 64) (e1 : ∀ i, i < 64 → ce1 i = V.1.2.1 i) (e2 : mv1 0 = V.1.2.2.1 0) : ∃ k s, n = k + 1 ∧ s ≤ 64 ∧ gB 13 S1.1 S1.2.1 = s ∧ ∀ U : tdU, U.1.2.1 = (td_put (ce1, mv1, ro1, tu1, md) s).1 → U.1.2.2.1 = (td_put (ce1, mv1, ro1, tu1, md) s).2.1 → td_FI S ro tu (k, 0, td_mk S1 (nI s), U, (td_put (ce1, mv1, ro1, tu1, md) s).2.2.1, (td_put (ce1, mv1, ro1, tu1, md) s).2.2.2.1, (td_put (ce1, mv1, ro1, tu1, md) s).2.2.2.2) := by
  obtain ⟨h1, h2, h3, h4, h5, h6, h7, h8, -⟩ := h
  have h2 : td_SM S1 (V.1.2.1, V.1.2.2.1, ro1, tu1, md) := h2
  have h3 : gN S1.1 S1.2.1 ≤ n := h3
  have h4 : gE S1.1 S1.2.1 ≤ 7 := h4
  have h6 : S.2.2.2.1 ≤ md := h6
  have h7 : ∀ k, k < S.2.2.2.1 → ro1 k = ro k ∧ tu1 k = tu k := h7
  have h8 : td_mks (td_plan n S1.1 S1.2.1) S1 = td_mks (td_plan 14 S.1 S.2.1) S := h8
  have hsm := td_SM_cg h2 e1 e2
  cases n with
  | zero => exact absurd (gN_0 h2.2.2.1.2 (by omega)) hov
  | succ n =>
    obtain ⟨s, g1, g2, g3, g4, g5, g6, -⟩ := td_plan_st (a := S1.1) (b := S1.2.1) h2.2.2.1.2 hov h3
    refine ⟨n, s, rfl, g1, g2, fun U u1 u2 => ⟨Nat.zero_le _, ?_, g5, ?_, ?_, ?_, fun k hk => ?_, ?_, fun z => by cases z⟩⟩
    · have := td_SM_put hsm g3
      show td_SM (td_mk S1 (nI s)) (U.1.2.1, U.1.2.2.1, _, _, _)
      rw [u1, u2]; exact this
    · show gE (td_nx S1.1 S1.2.1 (nI s)) (td_ny S1.1 S1.2.1 (nI s)) ≤ 7
      omega
    · show md + 1 ≤ 64
      omega
    · show S.2.2.2.1 ≤ md + 1
      omega
    · show upd ro1 md (nI s) k = ro k ∧ vp_updL tu1 md _ k = tu k
      rw [pk_un (by omega), pk_uLn (by omega)]; exact h7 k hk
    · show td_mks (td_plan n (td_nx S1.1 S1.2.1 (nI s)) (td_ny S1.1 S1.2.1 (nI s))) (td_mk S1 (nI s)) = _
      rw [← h8, g4]; rfl
