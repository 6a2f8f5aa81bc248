/-! the reference's search finds the value and the square -/
def td_RT (sn : Nat → Nat) (n0 : Nat) (S S' : tdQ) : Prop := ∃ n, ∀ k, td_srun sn n0 (n + k) S = td_srun sn n0 k S'
theorem td_RT_rf {sn : Nat → Nat} {n0 : Nat} (S : tdQ) : td_RT sn n0 S S := ⟨0, fun k => by rw [Nat.zero_add]⟩
theorem td_RT_tr {sn : Nat → Nat} {n0 : Nat} {S S' S'' : tdQ} (h : td_RT sn n0 S S') (h' : td_RT sn n0 S' S'') : td_RT sn n0 S S'' := by
  obtain ⟨n, hn⟩ := h
  obtain ⟨k, hk⟩ := h'
  exact ⟨n + k, fun j => by rw [Nat.add_assoc, hn, hk]⟩
theorem td_RT_st {sn : Nat → Nat} {n0 : Nat} {S S' : tdQ} (h : td_sst sn n0 S = some (S', true)) : td_RT sn n0 S S' := by
  refine ⟨1, fun k => ?_⟩
  rw [Nat.add_comm]
  show (match td_sst sn n0 S with | none => none | some (S', true) => td_srun sn n0 k S' | some (S', false) => some S') = _
  rw [h]
/-- what is kept below and at level L -/
def td_kp (L : Nat) (S S' : tdQ) : Prop := (∀ i, i < 64 * (L + 1) → S'.2.1 i = S.2.1 i) ∧ (∀ k, k ≤ L → S'.2.2.1 k = S.2.2.1 k) ∧ (∀ k, k < L → S'.2.2.2.1 k = S.2.2.2.1 k ∧ S'.2.2.2.2.1 k = S.2.2.2.2.1 k ∧ S'.2.2.2.2.2.1 k = S.2.2.2.2.2.1 k ∧ S'.2.2.2.2.2.2.1 k = S.2.2.2.2.2.2.1 k) ∧ (0 < L → S'.2.2.2.2.2.2.2 = S.2.2.2.2.2.2.2)
theorem td_kp_rf (L : Nat) (S : tdQ) : td_kp L S S := ⟨fun _ _ => rfl, fun _ _ => rfl, fun _ _ => ⟨rfl, rfl, rfl, rfl⟩, fun _ => rfl⟩
theorem td_kp_tr {L : Nat} {S S' S'' : tdQ} (h : td_kp L S S') (h' : td_kp L S' S'') : td_kp L S S'' :=
  ⟨fun i hi => (h'.1 i hi).trans (h.1 i hi), fun k hk => (h'.2.1 k hk).trans (h.2.1 k hk), fun k hk =>
    have a := h.2.2.1 k hk
    have b := h'.2.2.1 k hk
    ⟨b.1.trans a.1, b.2.1.trans a.2.1, b.2.2.1.trans a.2.2.1, b.2.2.2.trans a.2.2.2⟩, fun hL => (h'.2.2.2 hL).trans (h.2.2.2 hL)⟩
theorem td_kp_en (sn : Nat → Nat) (n0 : Nat) (S : tdQ) : td_kp S.1 S (td_en sn n0 S) :=
  ⟨fun _ _ => rfl, fun _ _ => rfl, fun k hk => ⟨pk_un (by omega), pk_un (by omega), pk_un (by omega), rfl⟩, fun _ => rfl⟩
theorem td_lay_lt {ce : Nat → Int32} {L : Nat} {who : Int32} {s0 i : Nat} (h : i < 64 * (L + 1)) : td_lay ce L who s0 i = ce i := td_sw2_lt (by omega)
theorem td_lay_at {ce : Nat → Int32} {L : Nat} {who : Int32} {s0 i : Nat} (h : i < 64) : td_lv (td_lay ce L who s0) (L + 1) i = td_ch (td_lv ce L) who s0 i := by
  show td_sw2 (td_ch (td_lv ce L) who s0) ce (64 * L + 64) 64 (64 * (L + 1) + i) = _
  unfold td_sw2
  rw [if_pos (by omega), show 64 * (L + 1) + i - (64 * L + 64) = i by omega]
/-- the level is used up -/
def td_ex (sn : Nat → Nat) (n0 L : Nat) (S : tdQ) : Prop := S.1 = L ∧ S.2.2.2.2.1 L = 0 ∧ ∃ a0, a0 ≤ n0 ∧ a0 ≤ 64 ∧ S.2.2.2.1 L = nI a0 ∧ td_fs sn (td_lv S.2.1 L) (S.2.2.1 L) (n0 - a0) a0 = []
theorem td_a0_eq {S : tdQ} {L a0 : Nat} (h1 : S.1 = L) (h2 : S.2.2.2.1 L = nI a0) (h3 : a0 ≤ 64) : td_a0 S = a0 := by
  unfold td_a0
  rw [h1, h2, nI_clamp (by omega)]
theorem td_ex_up {sn : Nat → Nat} {n0 L : Nat} {S : tdQ} (h : td_ex sn n0 L S) (h0 : 0 < L) (h18 : L < 18) : ∃ x, td_sst sn n0 S = some (td_up (td_sA S x), true) := by
  obtain ⟨h1, h2, a0, h3, h3', h4, h5⟩ := h
  have ha := td_a0_eq h1 h4 h3'
  have hn : td_nxq S sn n0 = (n0, none) := by
    unfold td_nxq
    rw [ha, h1, td_nextI_nil sn _ _ _ _ h5, show a0 + (n0 - a0) = n0 by omega]
  refine ⟨n0, ?_⟩
  unfold td_sst
  rw [hn, ha, h1, if_pos ⟨h18, h4, h3⟩, if_pos h2]
  show (if L = 0 then _ else _) = _
  rw [if_neg (by omega)]
theorem td_ex_end {sn : Nat → Nat} {n0 : Nat} {S : tdQ} (h : td_ex sn n0 0 S) : ∃ x, td_sst sn n0 S = some (td_sA S x, false) := by
  obtain ⟨h1, h2, a0, h3, h3', h4, h5⟩ := h
  have ha := td_a0_eq h1 h4 h3'
  have hn : td_nxq S sn n0 = (n0, none) := by
    unfold td_nxq
    rw [ha, h1, td_nextI_nil sn _ _ _ _ h5, show a0 + (n0 - a0) = n0 by omega]
  refine ⟨n0, ?_⟩
  unfold td_sst
  rw [hn, ha, h1, if_pos ⟨by omega, h4, h3⟩, if_pos h2]
  rfl
/-- what the search brings back from level L -/
def td_ok (sn : Nat → Nat) (n0 L : Nat) (S : tdQ) (v : Int) (c : Nat) : Prop := ∃ S', td_RT sn n0 S S' ∧ td_ex sn n0 L S' ∧ S'.2.2.2.2.2.1 L = iI v ∧ td_kp L S S' ∧ (L = 0 → S'.2.2.2.2.2.2.2 = nI c)
/-- one child: down by s0, the child's search, up again -/
theorem td_child {sn : Nat → Nat} {n0 L : Nat} (h17 : L < 17) {S T : tdQ} {s0 : Nat} (hS : td_sst sn n0 S = some (td_en sn n0 (td_dn T s0), true)) (hT : T.1 = L) {v : Int} {c : Nat} (hv : -64 ≤ v ∧ v ≤ 64)
    (h : td_ok sn n0 (L + 1) (td_en sn n0 (td_dn T s0)) v c) {m : Int} (hm : T.2.2.2.2.2.1 L = iI m) (hmb : -1000 ≤ m ∧ m ≤ 64) :
    ∃ S', td_RT sn n0 S S' ∧ S'.1 = L ∧ td_kp L T S' ∧ S'.2.2.2.1 L = T.2.2.2.1 L ∧ S'.2.2.2.2.1 L = T.2.2.2.2.1 L ∧ S'.2.2.2.2.2.1 L = iI (gMax m (-v)) ∧ (L = 0 → S'.2.2.2.2.2.2.2 = if m < -v then nI s0 else T.2.2.2.2.2.2.2) := by
  obtain ⟨U, h1, h2, h3, h4, -⟩ := h
  obtain ⟨x, hx⟩ := td_ex_up h2 (by omega) (by omega)
  have hk : td_kp (L + 1) (td_dn T s0) U := td_kp_tr (by have := td_kp_en sn n0 (td_dn T s0); rw [show (td_dn T s0).1 = L + 1 by rw [← hT]; rfl] at this; exact this) h4
  obtain ⟨k1, k2, k3, k4⟩ := hk
  have hU : U.1 = L + 1 := h2.1
  have kL := k3 L (by omega)
  have hwo : U.2.2.2.2.2.1 L = iI m := kL.2.2.1.trans hm
  have hup : ∀ (c1 c2 : Int32), (if iI m < -(iI v) then c1 else c2) = if m < -v then c1 else c2 := fun c1 c2 => by
    rw [iI_neg]
    by_cases h : m < -v
    · rw [if_pos h, if_pos ((iI_lt (by omega) (by omega) (by omega) (by omega)).mpr h)]
    · rw [if_neg h, if_neg (fun z => h ((iI_lt (by omega) (by omega) (by omega) (by omega)).mp z))]
  refine ⟨td_up (td_sA U x), td_RT_tr (td_RT_st hS) (td_RT_tr h1 (td_RT_st hx)), by show U.1 - 1 = L; omega, ⟨fun i hi => ?_, fun k hk => ?_, fun k hk => ⟨?_, ?_, ?_, ?_⟩, fun h0 => ?_⟩, ?_, ?_, ?_, fun h0 => ?_⟩
  · show U.2.1 i = T.2.1 i
    rw [k1 i (by omega)]
    show td_lay T.2.1 T.1 (T.2.2.1 T.1) s0 i = _
    rw [hT]; exact td_lay_lt hi
  · show U.2.2.1 k = T.2.2.1 k
    rw [k2 k (by omega)]
    show upd T.2.2.1 (T.1 + 1) _ k = _
    rw [pk_un (by omega)]
  · show upd U.2.2.2.1 U.1 (nI x) k = T.2.2.2.1 k
    rw [pk_un (by omega)]; exact (k3 k (by omega)).1
  · exact (k3 k (by omega)).2.1
  · show upd U.2.2.2.2.2.1 (U.1 - 1) _ k = T.2.2.2.2.2.1 k
    rw [pk_un (by omega)]; exact (k3 k (by omega)).2.2.1
  · show U.2.2.2.2.2.2.1 k = T.2.2.2.2.2.2.1 k
    rw [(k3 k (by omega)).2.2.2]
    show upd T.2.2.2.2.2.2.1 T.1 _ k = _
    rw [pk_un (by omega)]
  · show (if U.1 - 1 = 0 ∧ U.2.2.2.2.2.1 0 < -(U.2.2.2.2.2.1 U.1) then U.2.2.2.2.2.2.1 0 else U.2.2.2.2.2.2.2) = T.2.2.2.2.2.2.2
    rw [if_neg (fun z => by have := z.1; omega)]
    exact k4 (by omega)
  · show upd U.2.2.2.1 U.1 (nI x) L = T.2.2.2.1 L
    rw [pk_un (by omega)]; exact kL.1
  · exact kL.2.1
  · show upd U.2.2.2.2.2.1 (U.1 - 1) (if U.2.2.2.2.2.1 (U.1 - 1) < -(U.2.2.2.2.2.1 U.1) then -(U.2.2.2.2.2.1 U.1) else U.2.2.2.2.2.1 (U.1 - 1)) L = _
    rw [hU, Nat.add_sub_cancel, pk_us, hwo, h3, hup, iI_neg]
    unfold gMax
    by_cases h : m < -v
    · rw [if_pos h, if_pos h]
    · rw [if_neg h, if_neg h]
  · subst h0
    show (if U.1 - 1 = 0 ∧ U.2.2.2.2.2.1 0 < -(U.2.2.2.2.2.1 U.1) then U.2.2.2.2.2.2.1 0 else U.2.2.2.2.2.2.2) = _
    rw [hU, hwo, h3]
    have e1 : U.2.2.2.2.2.2.1 0 = nI s0 := by
      rw [kL.2.2.2]
      show upd T.2.2.2.2.2.2.1 T.1 (nI s0) 0 = _
      rw [hT, pk_us]
    have e2 : U.2.2.2.2.2.2.2 = T.2.2.2.2.2.2.2 := k4 (by omega)
    rw [e1, e2, ← hup]
    by_cases h : iI m < -(iI v)
    · rw [if_pos h, if_pos ⟨rfl, h⟩]
    · rw [if_neg h, if_neg (fun z => h z.2)]
theorem td_fs_cg {sn : Nat → Nat} {n0 : Nat} (hsn : ∀ i, i < n0 → sn i < 64) {g g' : Nat → Int32} {who : Int32} {a b : Int64} (hR : td_rel g who a b) (hR' : td_rel g' who a b) : ∀ r x, x + r ≤ n0 → td_fs sn g' who r x = td_fs sn g who r x
  | 0, x, _ => by
    have e : td_sl sn 0 x = [] := rfl
    unfold td_fs
    rw [e, List.filter_nil, List.filter_nil]
  | r + 1, x, h => by
    have hs := hsn x (by omega)
    have e : td_any g' who (sn x) = td_any g who (sn x) := (td_moves_bl hR' hs).symm.trans (td_moves_bl hR hs)
    have ih := td_fs_cg hsn hR hR' r (x + 1) (by omega)
    rw [td_fs_s, td_fs_s, e, ih]
/-- the board and mover of a level, as two sets -/
def td_at (E : Nat → Bool) (L : Nat) (S : tdQ) (a b : Int64) : Prop := (S.2.2.1 L = 0 ∨ S.2.2.1 L = 1) ∧ td_rel (td_lv S.2.1 L) (S.2.2.1 L) a b ∧ ∀ i, i < 64 → bl a i = false → bl b i = false → E i = true
theorem td_at_kp {E : Nat → Bool} {L : Nat} {S S' : tdQ} {a b : Int64} (h : td_at E L S a b) (hk : td_kp L S S') : td_at E L S' a b := by
  obtain ⟨h1, h2, h3⟩ := h
  refine ⟨?_, ?_, h3⟩
  · rw [hk.2.1 L (Nat.le_refl _)]; exact h1
  · rw [hk.2.1 L (Nat.le_refl _)]
    exact td_rel_cg h2 (fun i hi => hk.1 (64 * L + i) (by omega))
theorem td_at_dn {E : Nat → Bool} {L : Nat} {S : tdQ} {a b : Int64} (hS : S.1 = L) (h : td_at E L S a b) {s : Nat} (hm : bl (td_moves a b) s = true) : td_at E (L + 1) (td_dn S s) (gX a b s) (gY a b s) := by
  obtain ⟨h1, h2, h3⟩ := h
  have hs := bl_lt hm
  rw [td_moves_bl h2 hs, td_any_iff] at hm
  have hr := td_rel_mv h1 h2 hs hm.1
  have emv : (td_dn S s).2.2.1 (L + 1) = 1 - S.2.2.1 L := by
    show upd S.2.2.1 (S.1 + 1) (1 - S.2.2.1 S.1) (L + 1) = _
    rw [hS, pk_us]
  refine ⟨by rw [emv]; exact (td_who h1).2.2.1, ?_, fun i hi ha hb => ?_⟩
  · rw [emv]
    refine td_rel_cg hr (fun i hi => ?_)
    show td_lv (td_lay S.2.1 S.1 (S.2.2.1 S.1) s) (L + 1) i = _
    rw [hS]; exact td_lay_at hi
  · unfold gX at ha
    unfold gY at hb
    rw [bl_or, bl_or] at hb
    rw [bl_xor] at ha
    cases e1 : bl a i
    · refine h3 i hi e1 ?_
      cases e2 : bl (td_turned a b (td_lshl 1 (nI s))) i
      · rw [e2] at ha; cases e3 : bl b i
        · rfl
        · rw [e3] at ha; cases ha
      · rw [e2, Bool.or_true] at hb; cases hb
    · rw [e1] at hb; cases hb' : bl (td_turned a b (td_lshl 1 (nI s))) i <;> simp [hb'] at hb
theorem td_at_ps {E : Nat → Bool} {L : Nat} {S : tdQ} {a b : Int64} (hS : S.1 = L) (h : td_at E L S a b) : td_at E (L + 1) (td_dn S 64) b a := by
  obtain ⟨h1, h2, h3⟩ := h
  have hr := td_rel_ps h1 h2
  have emv : (td_dn S 64).2.2.1 (L + 1) = 1 - S.2.2.1 L := by
    show upd S.2.2.1 (S.1 + 1) (1 - S.2.2.1 S.1) (L + 1) = _
    rw [hS, pk_us]
  refine ⟨by rw [emv]; exact (td_who h1).2.2.1, ?_, fun i hi ha hb => h3 i hi hb ha⟩
  rw [emv]
  refine td_rel_cg hr (fun i hi => ?_)
  show td_lv (td_lay S.2.1 S.1 (S.2.2.1 S.1) 64) (L + 1) i = _
  rw [hS]; exact td_lay_at hi
theorem td_kp_sA {L : Nat} {S : tdQ} (hS : S.1 = L) (x : Nat) : td_kp L S (td_sA S x) := ⟨fun _ _ => rfl, fun _ _ => rfl, fun k hk => ⟨pk_un (by omega), rfl, rfl, rfl⟩, fun _ => rfl⟩
theorem td_kp_sP {L : Nat} {S : tdQ} (hS : S.1 = L) : td_kp L S (td_sP S) := ⟨fun _ _ => rfl, fun _ _ => rfl, fun k hk => ⟨rfl, pk_un (by omega), rfl, rfl⟩, fun _ => rfl⟩
/-- the moves of a level one after another -/
theorem td_sloop {E : Nat → Bool} {sn : Nat → Nat} {n0 L : Nat} (h17 : L < 17) (hn0 : n0 ≤ 64) (hsn : ∀ i, i < n0 → sn i < 64) {a b : Int64} (F : Nat → Int) (hF : ∀ s, -64 ≤ F s ∧ F s ≤ 64)
    (hc : ∀ (T : tdQ) s, T.1 = L → td_at E L T a b → bl (td_moves a b) s = true → ∃ c, td_ok sn n0 (L + 1) (td_en sn n0 (td_dn T s)) (F s) c) :
    ∀ (l : List Nat) (S : tdQ) (m : Int) (a0 c : Nat), S.1 = L → S.2.2.2.2.1 L = 0 → S.2.2.2.1 L = nI a0 → a0 ≤ n0 → td_at E L S a b → td_fs sn (td_lv S.2.1 L) (S.2.2.1 L) (n0 - a0) a0 = l → (∀ s, s ∈ l → bl (td_moves a b) s = true) → S.2.2.2.2.2.1 L = iI m → -1000 ≤ m ∧ m ≤ 64 → (L = 0 → S.2.2.2.2.2.2.2 = nI c) → td_ok sn n0 L S (l.foldl (fun m s => gMax m (-(F s))) m) (gCh (fun s => -(F s)) l m c)
  | [], S, m, a0, c, h1, h2, h3, h4, h5, h6, _, h8, h9, h10 => ⟨S, td_RT_rf S, ⟨h1, h2, a0, h4, by omega, h3, h6⟩, h8, td_kp_rf L S, h10⟩
  | s :: l, S, m, a0, c, h1, h2, h3, h4, h5, h6, h7, h8, h9, h10 => by
    obtain ⟨a', g1, g2, g3, g4⟩ := td_nextI_cons sn _ _ _ _ h6
    have ha := td_a0_eq h1 h3 (by omega)
    have hn : td_nxq S sn n0 = (a', some s) := by unfold td_nxq; rw [ha, h1]; exact g3
    have hst : td_sst sn n0 S = some (td_en sn n0 (td_dn (td_sA S a') s), true) := by
      unfold td_sst
      rw [hn, ha, h1, if_pos ⟨by omega, h3, h4⟩, if_pos h2]
    have hkA := td_kp_sA h1 a'
    obtain ⟨c', hok⟩ := hc (td_sA S a') s h1 (td_at_kp h5 hkA) (h7 s List.mem_cons_self)
    have hFs := hF s
    obtain ⟨S1, r1, r2, r3, r4, r5, r6, r7⟩ := td_child h17 hst h1 hFs hok h8 h9
    have hk1 := td_kp_tr hkA r3
    have hat1 := td_at_kp h5 hk1
    have emv : S1.2.2.1 L = S.2.2.1 L := hk1.2.1 L (Nat.le_refl _)
    have ih := td_sloop h17 hn0 hsn F hF hc l S1 (gMax m (-(F s))) a' (if m < -(F s) then s else c) r2 (r5.trans h2) (r4.trans (by show upd S.2.2.2.1 S.1 (nI a') L = _; rw [h1, pk_us])) (by omega) hat1
      (by rw [emv]
          have hR' := hat1.2.1
          rw [emv] at hR'
          rw [td_fs_cg hsn h5.2.1 hR' _ _ (by omega), show n0 - a' = a0 + (n0 - a0) - a' by omega]; exact g4)
      (fun t ht => h7 t (List.mem_cons_of_mem _ ht)) r6 (by unfold gMax; by_cases h : m < -(F s) <;> simp only [h, if_true, if_false] <;> omega)
      (fun h0 => by
        rw [r7 h0]
        by_cases h : m < -(F s)
        · rw [if_pos h, if_pos h]
        · rw [if_neg h, if_neg h]; exact h10 h0)
    obtain ⟨S', q1, q2, q3, q4, q5⟩ := ih
    refine ⟨S', td_RT_tr r1 q1, q2, q3, td_kp_tr hk1 q4, fun h0 => ?_⟩
    rw [q5 h0]
    show _ = nI (if m < -(F s) then gCh (fun s => -(F s)) l (-(F s)) s else gCh (fun s => -(F s)) l m c)
    unfold gMax
    by_cases h : m < -(F s)
    · rw [if_pos h, if_pos h, if_pos h]
    · rw [if_neg h, if_neg h, if_neg h]
theorem gV_pass {a b : Int64} (f : Nat) (h1 : td_moves a b = 0) (h2 : ¬ td_moves b a = 0) : gV (f + 1) a b = -(gV f b a) := by rw [gV_s, if_pos h1, if_neg h2]
theorem td_df_g {g : Nat → Int32} {who : Int32} {a b : Int64} (hw : who = 0 ∨ who = 1) (hR : td_rel g who a b) : td_df g who = iI (gL a b) := by
  unfold td_df gL
  rw [td_dc_eq hR, td_dc_eq (td_rel_sw hw hR), iI_nat, iI_nat, iI_sub]
/-- the search from a level on -/
theorem td_smain {E : Nat → Bool} {sn : Nat → Nat} {n0 : Nat} (hn0 : n0 ≤ 64) (hsn : ∀ i, i < n0 → sn i < 64) (hsp : td_sl sn n0 0 = td_lst E 64 0) :
    ∀ f L (S : tdQ) (a b : Int64), S.1 = L → L + f ≤ 17 → td_at E L S a b → gN a b ≤ f → (L = 0 → S.2.2.2.2.2.2.2 = 65) → td_ok sn n0 L (td_en sn n0 S) (gV f a b) (gB (f - 1) a b) := by
  intro f
  induction f with
  | zero =>
    intro L S a b hS hL hat hN hch
    obtain ⟨o1, o2⟩ := gN_0 hat.2.1.2 (by omega)
    have hsub : ∀ i, i < 64 → td_lv S.2.1 L i = 0 → E i = true := fun i hi hz => by
      have := ((hat.2.1.1 i hi).2.2).mp hz; exact hat.2.2 i hi this.1 this.2
    have m1 : td_enm sn n0 S = false := by
      unfold td_enm; rw [hS, td_mm_iff hsp hat.2.1 hsub, o1]; rfl
    have m2 : td_enm2 sn n0 S = false := by
      unfold td_enm2; rw [hS, td_mm_iff hsp (td_rel_sw hat.1 hat.2.1) hsub, o2]; rfl
    refine ⟨_, td_RT_rf _, ⟨hS, ?_, n0, Nat.le_refl _, hn0, ?_, ?_⟩, ?_, td_kp_rf L _, fun h0 => ?_⟩
    · show upd S.2.2.2.2.1 S.1 _ L = 0
      rw [m1, m2, hS, pk_us]; rfl
    · show upd S.2.2.2.1 S.1 _ L = _
      rw [m1, hS, pk_us]; rfl
    · rw [Nat.sub_self]; rfl
    · show upd S.2.2.2.2.2.1 S.1 _ L = _
      rw [m1, m2, hS, pk_us, gV_over o1 o2]
      exact td_df_g hat.1 hat.2.1
    · show S.2.2.2.2.2.2.2 = _
      unfold gB
      rw [hch h0, if_pos o1, if_pos o2]; rfl
  | succ f ih =>
    intro L S a b hS hL hat hN hch
    have hsub : ∀ i, i < 64 → td_lv S.2.1 L i = 0 → E i = true := fun i hi hz => by
      have := ((hat.2.1.1 i hi).2.2).mp hz; exact hat.2.2 i hi this.1 this.2
    have m1 : td_enm sn n0 S = decide (¬ td_moves a b = 0) := by
      unfold td_enm; rw [hS, td_mm_iff hsp hat.2.1 hsub]
    have m2 : td_enm2 sn n0 S = decide (¬ td_moves b a = 0) := by
      unfold td_enm2; rw [hS, td_mm_iff hsp (td_rel_sw hat.1 hat.2.1) hsub]
    have hkE : td_kp L S (td_en sn n0 S) := by have := td_kp_en sn n0 S; rw [hS] at this; exact this
    have hatE := td_at_kp hat hkE
    have eAt : (td_en sn n0 S).2.2.2.1 L = td_eA (td_enm sn n0 S) n0 := by
      show upd S.2.2.2.1 S.1 _ L = _
      rw [hS, pk_us]
    have ePa : (td_en sn n0 S).2.2.2.2.1 L = td_eP (td_enm sn n0 S) (td_enm2 sn n0 S) := by
      show upd S.2.2.2.2.1 S.1 _ L = _
      rw [hS, pk_us]
    have eWo : (td_en sn n0 S).2.2.2.2.2.1 L = td_eW (td_enm sn n0 S) (td_enm2 sn n0 S) (td_df (td_lv S.2.1 L) (S.2.2.1 L)) := by
      show upd S.2.2.2.2.2.1 S.1 _ L = _
      rw [hS, pk_us]
    have eCh : (td_en sn n0 S).2.2.2.2.2.2.2 = S.2.2.2.2.2.2.2 := rfl
    have eL : (td_en sn n0 S).1 = L := hS
    rw [m1] at eAt
    rw [m1, m2] at ePa eWo
    have hfs : td_fs sn (td_lv (td_en sn n0 S).2.1 L) ((td_en sn n0 S).2.2.1 L) n0 0 = td_sq (td_moves a b) :=
      td_fs_mv hsp hatE.2.1 (fun i hi hz => hsub i hi hz)
    generalize td_en sn n0 S = T at hkE hatE eAt ePa eWo eCh eL hfs ⊢
    by_cases o1 : td_moves a b = 0
    · by_cases o2 : td_moves b a = 0
      · rw [decide_eq_false (fun z => z o1)] at eAt ePa eWo
        rw [decide_eq_false (fun z => z o2)] at ePa eWo
        refine ⟨T, td_RT_rf T, ⟨eL, ePa, n0, Nat.le_refl _, hn0, eAt, by rw [Nat.sub_self]; rfl⟩, ?_, td_kp_rf L T, fun h0 => ?_⟩
        · rw [gV_over o1 o2, eWo]; exact td_df_g hat.1 hat.2.1
        · unfold gB
          rw [eCh, hch h0, if_pos o1, if_pos o2]; rfl
      · rw [decide_eq_false (fun z => z o1)] at eAt ePa eWo
        rw [decide_eq_true o2] at ePa eWo
        have eP1 : T.2.2.2.2.1 L = 1 := ePa
        have eW1 : T.2.2.2.2.2.1 L = iI (-1000) := eWo
        have eA1 : T.2.2.2.1 L = nI n0 := eAt
        have ha := td_a0_eq eL eA1 hn0
        have hst : td_sst sn n0 T = some (td_en sn n0 (td_dn (td_sP T) 64), true) := by
          unfold td_sst
          rw [ha, eL, if_pos ⟨by omega, eA1, Nat.le_refl _⟩, if_neg (by rw [eP1]; decide)]
        have hkP := td_kp_sP eL
        have hatP := td_at_kp hatE hkP
        have hb := gV_bd f b a
        have hok := ih (L + 1) (td_dn (td_sP T) 64) b a (by show T.1 + 1 = L + 1; rw [eL]) (by omega) (td_at_ps (S := td_sP T) eL hatP) (gN_pass o1 o2 hN) (fun z => by omega)
        obtain ⟨S1, r1, r2, r3, r4, r5, r6, r7⟩ := td_child (by omega) hst (T := td_sP T) eL hb hok eW1 ⟨by omega, by omega⟩
        have hk1 := td_kp_tr hkP r3
        refine ⟨S1, r1, ⟨r2, ?_, n0, Nat.le_refl _, hn0, r4.trans eA1, by rw [Nat.sub_self]; rfl⟩, ?_, hk1, fun h0 => ?_⟩
        · rw [r5]
          show upd T.2.2.2.2.1 T.1 0 L = 0
          rw [eL, pk_us]
        · rw [r6, gV_pass f o1 o2]
          unfold gMax
          rw [if_pos (by omega)]
        · rw [r7 h0, if_pos (by omega)]
          unfold gB
          rw [if_pos o1, if_neg o2]
    · rw [decide_eq_true o1] at eAt ePa eWo
      have eP1 : T.2.2.2.2.1 L = 0 := ePa
      have eW1 : T.2.2.2.2.2.1 L = iI (-1000) := eWo
      have eA1 : T.2.2.2.1 L = nI 0 := eAt
      have hlp := td_sloop (E := E) (sn := sn) (n0 := n0) (L := L) (by omega) hn0 hsn (a := a) (b := b) (fun s => gV f (gX a b s) (gY a b s)) (fun s => gV_bd f _ _)
        (fun T2 s e1 e2 e3 => ⟨_, ih (L + 1) (td_dn T2 s) (gX a b s) (gY a b s) (by show T2.1 + 1 = L + 1; rw [e1]) (by omega) (td_at_dn e1 e2 e3) (gN_step hat.2.1.2 e3 hN) (fun z => by omega)⟩)
        (td_sq (td_moves a b)) T (-1000) 0 65 eL eP1 eA1 (Nat.zero_le _) hatE (by rw [Nat.sub_zero]; exact hfs) (fun s hs => (td_sq_mem hs).2) eW1 ⟨by omega, by omega⟩ (fun h0 => by rw [eCh, hch h0]; rfl)
      have e1 : gV (f + 1) a b = (td_sq (td_moves a b)).foldl (fun m s => gMax m (-(gV f (gX a b s) (gY a b s)))) (-1000) := by
        rw [gV_s, if_neg o1]
        obtain ⟨s, -, -, -, e⟩ := td_sq_low _ o1
        rw [e]
        show List.foldl _ (gMax (-65) _) _ = List.foldl _ (gMax (-1000) _) _
        have := gV_bd f (gX a b s) (gY a b s)
        unfold gMax
        rw [if_pos (by omega), if_pos (by omega)]
      have e2 : gB f a b = gCh (fun s => -(gV f (gX a b s) (gY a b s))) (td_sq (td_moves a b)) (-1000) 65 := by
        unfold gB
        rw [if_neg o1]
        obtain ⟨s, -, -, -, e⟩ := td_sq_low _ o1
        rw [e]
        have := gV_bd f (gX a b s) (gY a b s)
        show (if -65 < -(gV f (gX a b s) (gY a b s)) then _ else _) = (if -1000 < -(gV f (gX a b s) (gY a b s)) then _ else _)
        rw [if_pos (by omega), if_pos (by omega)]
      rw [Nat.add_sub_cancel, e1, e2]
      exact hlp
/-- what outcome and best of the reference find -/
theorem td_sok_g (ce mv sp at_ pa wo tr : Nat → Int32) {a b : Int64} (hw : mv 0 = 0 ∨ mv 0 = 1) (hR : td_rel (td_lv ce 0) (mv 0) a b) (hE : gE a b ≤ 7) : td_sok ce mv sp at_ pa wo tr (iI (gV 14 a b)) (nI (gB 13 a b)) := by
  have hn0 : td_n0 (td_lv ce 0) ≤ 64 := td_cn_le _ 64
  have h := td_smain (E := td_isE (td_lv ce 0)) hn0 (fun i hi => (td_sn_ok (td_lv ce 0) sp i hi).1) (td_spots (td_lv ce 0) sp 64 (Nat.le_refl _)) 14 0 (0, ce, mv, at_, pa, wo, tr, 65) a b rfl (by omega)
    ⟨hw, hR, fun i hi ea eb => decide_eq_true (((hR.1 i hi).2.2).mpr ⟨ea, eb⟩)⟩ (by have := gN_le a b; omega) (fun _ => rfl)
  obtain ⟨S', ⟨n, hn⟩, h2, h3, h4, h5⟩ := h
  obtain ⟨x, hx⟩ := td_ex_end h2
  refine ⟨n + 1, td_sA S' x, ?_, fun i hi => ?_, ?_, h3, h5 rfl⟩
  · show td_srun _ _ (n + 1) (td_en _ _ (0, ce, mv, at_, pa, wo, tr, 65)) = _
    rw [hn 1]
    show (match td_sst _ _ S' with | none => none | some (S', true) => td_srun _ _ 0 S' | some (S', false) => some S') = _
    rw [hx]
  · show S'.2.1 i = ce i
    exact h4.1 i (by omega)
  · show S'.2.2.1 0 = mv 0
    exact h4.2.1 0 (Nat.le_refl _)
