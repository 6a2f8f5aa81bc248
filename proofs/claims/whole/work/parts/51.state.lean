/-! the class's state against the reference's; the row of moves behind a position -/
theorem td_cn3 {a b : Int64} (hD : gD a b) : ∀ n, n ≤ 64 → td_cn (bl a) n + td_cn (bl b) n + td_cn (fun i => !bl a i && !bl b i) n = n
  | 0, _ => rfl
  | n + 1, h => by
    have ih := td_cn3 hD n (by omega)
    have hd := hD n (by omega)
    rw [td_cn_s, td_cn_s, td_cn_s]
    cases ha : bl a n <;> cases hb : bl b n
    · simp; omega
    · simp; omega
    · simp; omega
    · exact absurd ⟨ha, hb⟩ hd
theorem td_em_g {ce : Nat → Int32} {who : Int32} {a b : Int64} (hw : who = 0 ∨ who = 1) (hR : td_rel (td_lv ce 0) who a b) : td_em ce = nI (gE a b) := by
  have h3 := td_cn3 hR.2 64 (Nat.le_refl _)
  have e1 := td_dc_eq hR
  have e2 := td_dc_eq (td_rel_sw hw hR)
  unfold td_em
  have key : ∀ x y : Nat, x + y + gE a b = 64 → (64 : Int32) - nI x - nI y = nI (gE a b) := fun x y h => by
    have e : (64 : Int32) = iI 64 := rfl
    rw [e, iI_nat, iI_nat, iI_sub, iI_sub, iI_nat]
    congr 1
    omega
  rcases hw with rfl | rfl
  · rw [e1, show (1 : Int32) = 1 - 0 from rfl, e2]
    exact key _ _ h3
  · rw [show (0 : Int32) = 1 - 1 from rfl, e2]
    rw [e1]
    exact key _ _ (by have := h3; unfold gE; omega)
theorem td_few_g (a b : Int64) : td_few a b ↔ gE a b ≤ 7 := by
  unfold td_few
  have e : td_cn (bl (td_emp a b)) 64 = gE a b := by
    unfold gE
    refine td_cn_cg 64 (fun i hi => ?_)
    unfold td_emp
    rw [bl_not _ hi, bl_or]
    cases bl a i <;> cases bl b i <;> rfl
  rw [td_pop_cn, e]
  have hle : gE a b ≤ 64 := td_cn_le _ 64
  have e7 : (7 : Int32) = nI 7 := rfl
  rw [e7]
  exact nI_leI (by omega) (by decide)
theorem td_be_g {ce : Nat → Int32} {who : Int32} {a b : Int64} (hw : who = 0 ∨ who = 1) (hR : td_rel (td_lv ce 0) who a b) : (td_be ce = 0 ↔ gE a b ≤ 7) := by
  unfold td_be
  rw [td_em_g hw hR]
  have hle : gE a b ≤ 64 := td_cn_le _ 64
  have e7 : (7 : Int32) = nI 7 := rfl
  by_cases h : gE a b ≤ 7
  · rw [if_neg (fun z => by rw [e7] at z; have := (nI_ltI (by decide) (by omega)).mp z; omega)]
    exact ⟨fun _ => h, fun _ => rfl⟩
  · rw [if_pos (by rw [e7]; exact (nI_ltI (by decide) (by omega)).mpr (by omega))]
    exact ⟨fun z => absurd z (by decide), fun z => absurd z h⟩
/-- a move or a pass that may stand in the row -/
def td_lg (a b : Int64) (s : Nat) : Prop := (s < 64 ∧ bl a s = false ∧ bl b s = false) ∨ s = 64
theorem td_on_lt {s : Nat} (hs : s < 64) : td_on (nI s) = td_lshl 1 (nI s) := if_pos ((nI_ltI (a := s) (b := 64) (by omega) (by decide)).mpr hs)
theorem td_on_64 : td_on (nI 64) = 0 := if_neg (by decide)
theorem td_nx_lt (a b : Int64) {s : Nat} (hs : s < 64) : td_nx a b (nI s) = gX a b s ∧ td_ny a b (nI s) = gY a b s := by
  unfold td_nx td_ny gX gY
  rw [td_on_lt hs]; exact ⟨rfl, rfl⟩
theorem td_nx_64 (a b : Int64) : td_nx a b (nI 64) = b ∧ td_ny a b (nI 64) = a := by
  unfold td_nx td_ny
  rw [td_on_64, td_turned0]
  refine ⟨bl_ext fun i _ => ?_, bl_ext fun i _ => ?_⟩
  · rw [bl_xor, bl_0, Bool.xor_false]
  · rw [bl_or, bl_or, bl_0, Bool.or_false, Bool.or_false]
/-- both agree: who moves, the board, how many moves, the row of them -/
def td_SM (S : tdS) (M : tdM) : Prop := (S.2.2.1 = 0 ∨ S.2.2.1 = 1) ∧ M.2.1 0 = S.2.2.1 ∧ td_rel (td_lv M.1 0) S.2.2.1 S.1 S.2.1 ∧ M.2.2.2.2 = S.2.2.2.1 ∧ ∀ k, k < S.2.2.2.1 → M.2.2.1 k = S.2.2.2.2.1 k ∧ M.2.2.2.1 k = S.2.2.2.2.2 k
theorem td_pset_g {S : tdS} {M : tdM} (h : td_SM S M) {s : Nat} (hl : td_lg S.1 S.2.1 s) : td_pset M s = td_turned S.1 S.2.1 (td_on (nI s)) := by
  obtain ⟨h1, h2, h3, -, -⟩ := h
  unfold td_pset
  rcases hl with ⟨hs, ha, hb⟩ | rfl
  · rw [if_neg (by omega), td_on_lt hs, td_turned_fw h3 hs]
    unfold td_fl
    rw [if_pos (((h3.1 s hs).2.2).mpr ⟨ha, hb⟩), h2]
  · rw [if_pos rfl, td_on_64, td_turned0]
theorem td_put_lv (M : tdM) (s : Nat) {i : Nat} (hi : i < 64) : td_lv (td_put M s).1 0 i = td_ch (td_lv M.1 0) (M.2.1 0) s i := by
  show td_sw (td_putc M.1 (M.2.1 0) s (td_pset M s)) M.1 64 (64 * 0 + i) = td_putc (td_lv M.1 0) (M.2.1 0) s (td_zs (td_lv M.1 0) (M.2.1 0) s) i
  unfold td_sw
  rw [Nat.mul_zero, Nat.zero_add, if_pos hi]
  show td_putc M.1 (M.2.1 0) s (td_zs (td_lv M.1 0) (M.2.1 0) s) i = _
  unfold td_putc td_lv
  rw [Nat.mul_zero, Nat.zero_add]
theorem td_SM_put {S : tdS} {M : tdM} (h : td_SM S M) {s : Nat} (hl : td_lg S.1 S.2.1 s) : td_SM (td_mk S (nI s)) (td_put M s) := by
  have hz := td_pset_g h hl
  obtain ⟨h1, h2, h3, h4, h5⟩ := h
  refine ⟨(td_who h1).2.2.1, ?_, ?_, ?_, fun k hk => ?_⟩
  · show upd M.2.1 0 (1 - M.2.1 0) 0 = 1 - S.2.2.1
    rw [pk_us, h2]
  · show td_rel (td_lv (td_put M s).1 0) (1 - S.2.2.1) (td_nx S.1 S.2.1 (nI s)) (td_ny S.1 S.2.1 (nI s))
    refine td_rel_cg (g := td_ch (td_lv M.1 0) S.2.2.1 s) ?_ (fun i hi => by rw [td_put_lv M s hi, h2])
    rcases hl with ⟨hs, ha, hb⟩ | rfl
    · rw [(td_nx_lt _ _ hs).1, (td_nx_lt _ _ hs).2]
      exact td_rel_mv h1 h3 hs (((h3.1 s hs).2.2).mpr ⟨ha, hb⟩)
    · rw [(td_nx_64 _ _).1, (td_nx_64 _ _).2]
      exact td_rel_ps h1 h3
  · show M.2.2.2.2 + 1 = S.2.2.2.1 + 1
    rw [h4]
  · have hk : k < S.2.2.2.1 + 1 := hk
    show upd M.2.2.1 M.2.2.2.2 (nI s) k = upd S.2.2.2.2.1 S.2.2.2.1 (nI s) k ∧ vp_updL M.2.2.2.1 M.2.2.2.2 (td_pset M s) k = vp_updL S.2.2.2.2.2 S.2.2.2.1 (td_turned S.1 S.2.1 (td_on (nI s))) k
    rw [h4, hz]
    by_cases hke : k = S.2.2.2.1
    · rw [hke, pk_us, pk_us, pk_uLs, pk_uLs]; exact ⟨rfl, rfl⟩
    · rw [pk_un hke, pk_un hke, pk_uLn hke, pk_uLn hke]; exact h5 k (by omega)
/-- the row of moves behind a position -/
def td_Hi : Nat → Int64 → Int64 → (Nat → Int32) → (Nat → Int64) → Prop
  | 0, _, _, _, _ => True
  | k + 1, x, y, sq, tu => ∃ a b s, gD a b ∧ td_lg a b s ∧ sq k = nI s ∧ tu k = td_turned a b (td_on (nI s)) ∧ x = td_nx a b (nI s) ∧ y = td_ny a b (nI s) ∧ td_Hi k a b sq tu
theorem td_Hi_cg {sq sq' : Nat → Int32} {tu tu' : Nat → Int64} : ∀ k x y, (∀ j, j < k → sq' j = sq j ∧ tu' j = tu j) → td_Hi k x y sq tu → td_Hi k x y sq' tu'
  | 0, _, _, _, _ => trivial
  | k + 1, x, y, h, ⟨a, b, s, h1, h2, h3, h4, h5, h6, h7⟩ => ⟨a, b, s, h1, h2, (h k (by omega)).1.trans h3, (h k (by omega)).2.trans h4, h5, h6, td_Hi_cg k a b (fun j hj => h j (by omega)) h7⟩
theorem td_Hi_mk {k : Nat} {a b : Int64} {sq : Nat → Int32} {tu : Nat → Int64} (hD : gD a b) (h : td_Hi k a b sq tu) {s : Nat} (hl : td_lg a b s) : td_Hi (k + 1) (td_nx a b (nI s)) (td_ny a b (nI s)) (upd sq k (nI s)) (vp_updL tu k (td_turned a b (td_on (nI s)))) :=
  ⟨a, b, s, hD, hl, pk_us, pk_uLs, rfl, rfl, td_Hi_cg k a b (fun j hj => ⟨pk_un (by omega), pk_uLn (by omega)⟩) h⟩
/-- what is turned are the other's discs; the set laid is empty before -/
theorem td_lg_bits {a b : Int64} (hD : gD a b) {s : Nat} (hl : td_lg a b s) : (∀ i, bl (td_turned a b (td_on (nI s))) i = true → bl b i = true) ∧ ∀ i, i < 64 → bl (td_on (nI s)) i = true → (i = s ∧ bl a i = false ∧ bl b i = false) := by
  rcases hl with ⟨hs, ha, hb⟩ | rfl
  · rw [td_on_lt hs]
    have hR := gOf_rel hD
    refine ⟨fun i hi => ?_, fun i hi h => ?_⟩
    · rw [td_turned_fw hR hs] at hi; exact td_fw_sub hR hs hi
    · rw [bl_one hs, decide_eq_true_iff] at h
      subst h; exact ⟨rfl, ha, hb⟩
  · rw [td_on_64, td_turned0]
    exact ⟨fun i h => absurd ((bl_0 i).symm.trans h) (by decide), fun i _ h => absurd ((bl_0 i).symm.trans h) (by decide)⟩
theorem td_back_g {a b : Int64} (hD : gD a b) {s : Nat} (hl : td_lg a b s) : td_ny a b (nI s) ^^^ (td_on (nI s) ||| td_turned a b (td_on (nI s))) = a ∧ td_nx a b (nI s) ||| td_turned a b (td_on (nI s)) = b := by
  obtain ⟨h1, h2⟩ := td_lg_bits hD hl
  unfold td_nx td_ny
  generalize td_turned a b (td_on (nI s)) = t at h1
  generalize td_on (nI s) = d at h2
  refine ⟨bl_ext fun i hi => ?_, bl_ext fun i hi => ?_⟩
  · rw [bl_xor, bl_or, bl_or, bl_or]
    have hd := hD i hi
    have k1 := h1 i
    have k2 := h2 i hi
    cases ea : bl a i
    · cases bl d i <;> cases bl t i <;> rfl
    · cases ed : bl d i
      · cases et : bl t i
        · rfl
        · exact absurd ⟨ea, k1 et⟩ hd
      · have := (k2 ed).2.1
        rw [ea] at this; cases this
  · rw [bl_or, bl_xor]
    have k1 := h1 i
    cases et : bl t i
    · rw [Bool.xor_false, Bool.or_false]
    · rw [k1 et]; rfl
/-- both go back alike -/
theorem td_SM_bk {x y : Int64} {pl : Int32} {k : Nat} {sq : Nat → Int32} {tu : Nat → Int64} {M : tdM} (h : td_SM (x, y, pl, k + 1, sq, tu) M) (hH : td_Hi (k + 1) x y sq tu) : ∃ a b, a = y ^^^ (td_on (sq k) ||| tu k) ∧ b = x ||| tu k ∧ gD a b ∧ td_Hi k a b sq tu ∧ td_SM (a, b, 1 - pl, k, sq, tu) (td_bk M) := by
  obtain ⟨a, b, s, hD, hl, e1, e2, e3, e4, hH⟩ := hH
  obtain ⟨b1, b2⟩ := td_back_g hD hl
  obtain ⟨g1, g2⟩ := td_lg_bits hD hl
  obtain ⟨h1, h2, h3, h4, h5⟩ := h
  have h1 : pl = 0 ∨ pl = 1 := h1
  have h2 : M.2.1 0 = pl := h2
  have h3 : td_rel (td_lv M.1 0) pl x y := h3
  have h4 : M.2.2.2.2 = k + 1 := h4
  have h5 : ∀ j, j < k + 1 → M.2.2.1 j = sq j ∧ M.2.2.2.1 j = tu j := h5
  refine ⟨a, b, by rw [e1, e2, e4]; exact b1.symm, by rw [e2, e3]; exact b2.symm, hD, hH, (td_who h1).2.2.1, ?_, ⟨fun i hi => ?_, hD⟩, ?_, fun j hj => ?_⟩
  · show upd M.2.1 0 (1 - M.2.1 0) 0 = 1 - pl
    rw [pk_us, h2]
  · have ebk : td_lv (td_bk M).1 0 i = td_bkc M.1 (1 - M.2.1 0) (M.2.2.1 (M.2.2.2.2 - 1)) (M.2.2.2.1 (M.2.2.2.2 - 1)) i := by
      show td_sw _ M.1 64 (64 * 0 + i) = _
      unfold td_sw
      rw [Nat.mul_zero, Nat.zero_add, if_pos hi]
    show (td_lv (td_bk M).1 0 i = (1 - pl) + 1 ↔ bl a i = true) ∧ (td_lv (td_bk M).1 0 i = 2 - (1 - pl) ↔ bl b i = true) ∧ (td_lv (td_bk M).1 0 i = 0 ↔ (bl a i = false ∧ bl b i = false))
    rw [ebk, h4, Nat.add_sub_cancel, (h5 k (by omega)).1, (h5 k (by omega)).2, h2]
    unfold td_bkc
    rw [td_bv_bl _ hi]
    obtain ⟨w1, w2, w3, w4, w5, w6, w7⟩ := td_who h1
    obtain ⟨r1, r2, r3⟩ := h3.1 i hi
    have hM : td_lv M.1 0 i = M.1 i := by unfold td_lv; rw [Nat.mul_zero, Nat.zero_add]
    rw [hM] at r1 r2 r3
    rw [e3] at r1 r3
    rw [e4] at r2 r3
    have hd := hD i hi
    have k1 := g1 i
    have k2 := g2 i hi
    rw [w1, w2, e1]
    rw [← e2] at k1
    unfold td_nx at r1 r3
    unfold td_ny at r2 r3
    rw [bl_xor, ← e2] at r1 r3
    rw [bl_or, bl_or, ← e2] at r2
    rw [bl_or, bl_or] at r3
    generalize tu k = t at k1 r1 r2 r3 ⊢
    cases et : bl t i
    · rw [et] at r1 r2 r3
      rw [Bool.xor_false] at r1 r3
      rw [Bool.or_false] at r2 r3
      rw [if_neg (by decide)]
      by_cases his : nI i = nI s
      · have hs64 : s ≤ 64 := by rcases hl with ⟨hs, -, -⟩ | rfl <;> omega
        have his' : i = s := (nI_eq (by omega) (by omega)).mp his
        rw [if_pos his]
        rcases hl with ⟨hs, ha, hb⟩ | rfl
        · rw [his', ha, hb]
          refine ⟨⟨fun z => absurd z.symm w6, fun z => (by cases z)⟩, ⟨fun z => absurd z.symm w5, fun z => (by cases z)⟩, ⟨fun _ => ⟨rfl, rfl⟩, fun _ => rfl⟩⟩
        · omega
      · rw [if_neg his]
        have hon : bl (td_on (nI s)) i = false := by
          cases ho : bl (td_on (nI s)) i
          · rfl
          · exact absurd (by rw [(k2 ho).1]) his
        rw [hon, Bool.or_false] at r2 r3
        exact ⟨r2, r1, r3.trans ⟨fun z => ⟨z.2, z.1⟩, fun z => ⟨z.2, z.1⟩⟩⟩
    · have eb := k1 et
      have ea : bl a i = false := by
        cases ea : bl a i
        · rfl
        · exact absurd ⟨ea, eb⟩ hd
      rw [if_pos rfl, ea, eb]
      refine ⟨⟨fun z => absurd z w4, fun z => (by cases z)⟩, ⟨fun _ => rfl, fun _ => rfl⟩, ⟨fun z => absurd z w5, fun z => (by cases z.2)⟩⟩
  · show M.2.2.2.2 - 1 = k
    rw [h4]; rfl
  · exact h5 j (by have : j < k := hj; omega)
