/-! the reference's count finds the class's number of rows -/
def td_RC (sn : Nat → Nat) (n0 nn : Nat) (S : tdQ) (al : Int64) (S' : tdQ) (al' : Int64) : Prop := ∃ n, ∀ k, td_crun sn n0 nn (n + k) S al = td_crun sn n0 nn k S' al'
theorem td_RC_rf {sn : Nat → Nat} {n0 nn : Nat} (S : tdQ) (al : Int64) : td_RC sn n0 nn S al S al := ⟨0, fun k => by rw [Nat.zero_add]⟩
theorem td_RC_tr {sn : Nat → Nat} {n0 nn : Nat} {S S' S'' : tdQ} {x x' x'' : Int64} (h : td_RC sn n0 nn S x S' x') (h' : td_RC sn n0 nn S' x' S'' x'') : td_RC sn n0 nn S x S'' x'' := by
  obtain ⟨n, hn⟩ := h
  obtain ⟨k, hk⟩ := h'
  exact ⟨n + k, fun j => by rw [Nat.add_assoc, hn, hk]⟩
theorem td_RC_st {sn : Nat → Nat} {n0 nn : Nat} {S S' : tdQ} {x x' : Int64} (h : td_cst sn n0 nn S x = some (S', x', true)) : td_RC sn n0 nn S x S' x' := by
  refine ⟨1, fun k => ?_⟩
  rw [Nat.add_comm]
  show (match td_cst sn n0 nn S x with | none => none | some (S', al', true) => td_crun sn n0 nn k S' al' | some (S', al', false) => some (S', al')) = _
  rw [h]
def td_cok (sn : Nat → Nat) (n0 nn L : Nat) (S : tdQ) (al R : Int64) : Prop := ∃ S2 al2 S', td_RC sn n0 nn S al S2 al2 ∧ td_cst sn n0 nn S2 al2 = some (S', al + R, decide (¬ L = 0)) ∧ S'.1 = L - 1 ∧ td_kp L S S'
theorem td_kp_lf {L : Nat} (S : tdQ) : td_kp L S (td_lf S) := ⟨fun _ _ => rfl, fun _ _ => rfl, fun _ _ => ⟨rfl, rfl, rfl, rfl⟩, fun _ => rfl⟩
theorem td_cchild {sn : Nat → Nat} {n0 nn L : Nat} {S T : tdQ} {al : Int64} {s0 : Nat} (hS : td_cst sn n0 nn S al = some (td_en sn n0 (td_dnc T s0), al, true)) (hT : T.1 = L) {R : Int64}
    (h : td_cok sn n0 nn (L + 1) (td_en sn n0 (td_dnc T s0)) al R) :
    ∃ S', td_RC sn n0 nn S al S' (al + R) ∧ S'.1 = L ∧ td_kp L T S' ∧ S'.2.2.2.1 L = T.2.2.2.1 L ∧ S'.2.2.2.2.1 L = T.2.2.2.2.1 L ∧ S'.2.2.2.2.2.1 L = T.2.2.2.2.2.1 L := by
  obtain ⟨S2, al2, U, h1, h2, h3, h4⟩ := h
  rw [decide_eq_true (show ¬ L + 1 = 0 by omega)] at h2
  have hk : td_kp (L + 1) (td_dnc T s0) U := td_kp_tr (by have := td_kp_en sn n0 (td_dnc T s0); rw [show (td_dnc T s0).1 = L + 1 by rw [← hT]; rfl] at this; exact this) h4
  obtain ⟨k1, k2, k3, k4⟩ := hk
  have kL := k3 L (by omega)
  refine ⟨U, td_RC_tr (td_RC_st hS) (td_RC_tr h1 (td_RC_st h2)), h3, ⟨fun i hi => ?_, fun k hk => ?_, fun k hk => k3 k (by omega), fun h0 => k4 (by omega)⟩, kL.1, kL.2.1, kL.2.2.1⟩
  · rw [k1 i (by omega)]
    show td_lay T.2.1 T.1 (T.2.2.1 T.1) s0 i = _
    rw [hT]; exact td_lay_lt hi
  · rw [k2 k (by omega)]
    show upd T.2.2.1 (T.1 + 1) _ k = _
    rw [pk_un (by omega)]
/-- a used-up level ends -/
theorem td_cend {sn : Nat → Nat} {n0 nn L : Nat} (hL : L + 1 < nn) {S : tdQ} {al : Int64} (hx : td_ex sn n0 L S) (hw : S.2.2.2.2.2.1 L = -1000) : ∃ S', td_cst sn n0 nn S al = some (S', al, decide (¬ L = 0)) ∧ S'.1 = L - 1 ∧ td_kp L S S' := by
  obtain ⟨h1, h2, a0, h3, h3', h4, h5⟩ := hx
  have ha := td_a0_eq h1 h4 h3'
  have hn : td_nxq S sn n0 = (n0, none) := by
    unfold td_nxq
    rw [ha, h1, td_nextI_nil sn _ _ _ _ h5, show a0 + (n0 - a0) = n0 by omega]
  refine ⟨td_lf (td_sA S n0), ?_, by show S.1 - 1 = L - 1; rw [h1], td_kp_tr (td_kp_sA h1 n0) (td_kp_lf _)⟩
  unfold td_cst
  rw [hn, ha, h1, if_pos (by omega), if_neg (by omega), if_pos hw, if_pos ⟨h4, h3⟩, if_pos h2]
def td_sum (F : Nat → Int64) (l : List Nat) (x : Int64) : Int64 := l.foldl (fun x s => x + F s) x
theorem td_sum_x (F : Nat → Int64) : ∀ (l : List Nat) (x : Int64), td_sum F l x = x + td_sum F l 0
  | [], x => (Int64.add_zero x).symm
  | s :: l, x => by
    show td_sum F l (x + F s) = x + td_sum F l (0 + F s)
    rw [td_sum_x F l (x + F s), td_sum_x F l (0 + F s), Int64.zero_add, Int64.add_assoc]
theorem td_cloop {E : Nat → Bool} {sn : Nat → Nat} {n0 nn L : Nat} (hL : L + 1 < nn) (hn0 : n0 ≤ 64) (hsn : ∀ i, i < n0 → sn i < 64) {a b : Int64} (F : Nat → Int64)
    (hc : ∀ (T : tdQ) s al, T.1 = L → td_at E L T a b → bl (td_moves a b) s = true → td_cok sn n0 nn (L + 1) (td_en sn n0 (td_dnc T s)) al (F s)) :
    ∀ (l : List Nat) (S : tdQ) (al : Int64) (a0 : Nat), S.1 = L → S.2.2.2.2.1 L = 0 → S.2.2.2.2.2.1 L = -1000 → S.2.2.2.1 L = nI a0 → a0 ≤ n0 → td_at E L S a b → td_fs sn (td_lv S.2.1 L) (S.2.2.1 L) (n0 - a0) a0 = l → (∀ s, s ∈ l → bl (td_moves a b) s = true) → td_cok sn n0 nn L S al (td_sum F l 0)
  | [], S, al, a0, h1, h2, hw, h3, h4, h5, h6, _ => by
    obtain ⟨S', e1, e2, e3⟩ := td_cend (al := al) hL ⟨h1, h2, a0, h4, by omega, h3, h6⟩ hw
    exact ⟨S, al, S', td_RC_rf S al, by rw [e1]; show _ = some (S', al + 0, _); rw [Int64.add_zero], e2, e3⟩
  | s :: l, S, al, a0, h1, h2, hw, h3, h4, h5, h6, h7 => by
    obtain ⟨a', g1, g2, g3, g4⟩ := td_nextI_cons sn _ _ _ _ h6
    have ha := td_a0_eq h1 h3 (by omega)
    have hn : td_nxq S sn n0 = (a', some s) := by unfold td_nxq; rw [ha, h1]; exact g3
    have hst : td_cst sn n0 nn S al = some (td_en sn n0 (td_dnc (td_sA S a') s), al, true) := by
      unfold td_cst
      rw [hn, ha, h1, if_pos (by omega), if_neg (by omega), if_pos hw, if_pos ⟨h3, h4⟩, if_pos h2]
    have hkA := td_kp_sA h1 a'
    have hok := hc (td_sA S a') s al h1 (td_at_kp h5 hkA) (h7 s List.mem_cons_self)
    obtain ⟨S1, r1, r2, r3, r4, r5, r6⟩ := td_cchild hst h1 hok
    have hk1 := td_kp_tr hkA r3
    have hat1 := td_at_kp h5 hk1
    have emv : S1.2.2.1 L = S.2.2.1 L := hk1.2.1 L (Nat.le_refl _)
    obtain ⟨S2, al2, S', q1, q2, q3, q4⟩ := td_cloop hL hn0 hsn F hc l S1 (al + F s) a' r2 (r5.trans h2) (r6.trans hw) (r4.trans (by show upd S.2.2.2.1 S.1 (nI a') L = _; rw [h1, pk_us])) (by omega) hat1
      (by rw [emv]
          have hR' := hat1.2.1
          rw [emv] at hR'
          rw [td_fs_cg hsn h5.2.1 hR' _ _ (by omega), show n0 - a' = a0 + (n0 - a0) - a' by omega]; exact g4)
      (fun t ht => h7 t (List.mem_cons_of_mem _ ht))
    refine ⟨S2, al2, S', td_RC_tr r1 q1, ?_, q3, td_kp_tr hk1 q4⟩
    rw [q2]
    have e : td_sum F (s :: l) 0 = F s + td_sum F l 0 := by
      show td_sum F l (0 + F s) = _
      rw [Int64.zero_add, td_sum_x]
    rw [e, Int64.add_assoc]
theorem td_rows_m (n : Nat) (a b : Int64) (h : ¬ td_moves a b = 0) (hn : ¬ n = 0) : td_rows (n + 1) a b = td_sum (fun s => td_rows n (gX a b s) (gY a b s)) (td_sq (td_moves a b)) 0 := by
  rw [td_rows_s, if_neg h, if_neg hn, td_popN_len, td_fold_l _ _ _ _ rfl]
  rfl
theorem td_rows_1 (a b : Int64) : td_rows 1 a b = td_leaf (td_sq (td_moves a b)).length := by
  rw [td_rows_s]
  unfold td_leaf
  by_cases h : td_moves a b = 0
  · rw [if_pos h, h]
    rw [if_neg (show ¬ 0 < (td_sq 0).length by decide +kernel)]
    by_cases h2 : td_moves b a = 0
    · rw [if_pos h2]
    · rw [if_neg h2]; rfl
  · obtain ⟨s, -, -, -, e⟩ := td_sq_low _ h
    rw [if_neg h, if_pos rfl, if_pos (by rw [e]; exact Nat.succ_pos _), td_pop_cn, td_sq_len]
theorem td_cmain {E : Nat → Bool} {sn : Nat → Nat} {n0 : Nat} (hn0 : n0 ≤ 64) (hsn : ∀ i, i < n0 → sn i < 64) (hsp : td_sl sn n0 0 = td_lst E 64 0) (nn : Nat) :
    ∀ f L (S : tdQ) (a b : Int64) (al : Int64), S.1 = L → L + (f + 1) = nn → td_at E L S a b → td_cok sn n0 nn L (td_en sn n0 S) al (td_rows (f + 1) a b) := by
  intro f
  induction f with
  | zero =>
    intro L S a b al hS hL hat
    have hsub : ∀ i, i < 64 → td_lv S.2.1 L i = 0 → E i = true := fun i hi hz => by
      have := ((hat.2.1.1 i hi).2.2).mp hz; exact hat.2.2 i hi this.1 this.2
    refine ⟨_, al, td_lf (td_en sn n0 S), td_RC_rf _ al, ?_, by show S.1 - 1 = L - 1; rw [hS], td_kp_lf _⟩
    have hL' : (td_en sn n0 S).1 = L := hS
    have hm : td_many sn n0 (td_en sn n0 S) = (td_sq (td_moves a b)).length := by
      unfold td_many
      rw [hL']
      rw [td_cap_len sn _ _ _ _ _ (by omega), Nat.zero_add]
      have := td_fs_mv hsp hat.2.1 hsub
      exact congrArg List.length this
    unfold td_cst
    rw [hL', if_pos (by omega), if_pos (by omega), hm, td_rows_1]
  | succ f ih =>
    intro L S a b al hS hL hat
    have hsub : ∀ i, i < 64 → td_lv S.2.1 L i = 0 → E i = true := fun i hi hz => by
      have := ((hat.2.1.1 i hi).2.2).mp hz; exact hat.2.2 i hi this.1 this.2
    have m1 : td_enm sn n0 S = decide (¬ td_moves a b = 0) := by
      unfold td_enm; rw [hS, td_mm_iff hsp hat.2.1 hsub]
    have m2 : td_enm2 sn n0 S = decide (¬ td_moves b a = 0) := by
      unfold td_enm2; rw [hS, td_mm_iff hsp (td_rel_sw hat.1 hat.2.1) hsub]
    have hkE : td_kp L S (td_en sn n0 S) := by have := td_kp_en sn n0 S; rw [hS] at this; exact this
    have hatE := td_at_kp hat hkE
    have eAt : (td_en sn n0 S).2.2.2.1 L = td_eA (td_enm sn n0 S) n0 := by
      show upd S.2.2.2.1 S.1 _ L = _
      rw [hS, pk_us]
    have ePa : (td_en sn n0 S).2.2.2.2.1 L = td_eP (td_enm sn n0 S) (td_enm2 sn n0 S) := by
      show upd S.2.2.2.2.1 S.1 _ L = _
      rw [hS, pk_us]
    have eWo : (td_en sn n0 S).2.2.2.2.2.1 L = td_eW (td_enm sn n0 S) (td_enm2 sn n0 S) (td_df (td_lv S.2.1 L) (S.2.2.1 L)) := by
      show upd S.2.2.2.2.2.1 S.1 _ L = _
      rw [hS, pk_us]
    have eL : (td_en sn n0 S).1 = L := hS
    rw [m1] at eAt
    rw [m1, m2] at ePa eWo
    have hfs : td_fs sn (td_lv (td_en sn n0 S).2.1 L) ((td_en sn n0 S).2.2.1 L) n0 0 = td_sq (td_moves a b) :=
      td_fs_mv hsp hatE.2.1 (fun i hi hz => hsub i hi hz)
    generalize td_en sn n0 S = T at hkE hatE eAt ePa eWo eL hfs ⊢
    by_cases o1 : td_moves a b = 0
    · by_cases o2 : td_moves b a = 0
      · rw [decide_eq_false (fun z => z o1)] at eAt ePa eWo
        rw [decide_eq_false (fun z => z o2)] at ePa eWo
        have eW1 : T.2.2.2.2.2.1 L = iI (gL a b) := eWo.trans (td_df_g hat.1 hat.2.1)
        have hb := gL_bd a b
        refine ⟨T, al, td_lf T, td_RC_rf T al, ?_, by show T.1 - 1 = L - 1; rw [eL], td_kp_lf _⟩
        unfold td_cst
        rw [eL, if_pos (by omega), if_neg (by omega), if_neg (fun z => ?_), td_rows_s, if_pos o1, if_pos o2]
        rw [eW1] at z
        have := congrArg Int32.toInt z
        rw [iI_toInt (by omega) (by omega), show ((-1000 : Int32)).toInt = -1000 from rfl] at this
        omega
      · rw [decide_eq_false (fun z => z o1)] at eAt ePa eWo
        rw [decide_eq_true o2] at ePa eWo
        have eP1 : T.2.2.2.2.1 L = 1 := ePa
        have eW1 : T.2.2.2.2.2.1 L = -1000 := eWo
        have eA1 : T.2.2.2.1 L = nI n0 := eAt
        have ha := td_a0_eq eL eA1 hn0
        have hst : td_cst sn n0 nn T al = some (td_en sn n0 (td_dnc (td_sP T) 64), al, true) := by
          unfold td_cst
          rw [ha, eL, if_pos (by omega), if_neg (by omega), if_pos eW1, if_pos ⟨eA1, Nat.le_refl _⟩, if_neg (by rw [eP1]; decide)]
        have hkP := td_kp_sP eL
        have hatP := td_at_kp hatE hkP
        have hat2 : td_at E (L + 1) (td_dnc (td_sP T) 64) b a := td_at_ps (S := td_sP T) eL hatP
        have hok := ih (L + 1) (td_dnc (td_sP T) 64) b a al (by show T.1 + 1 = L + 1; rw [eL]) (by omega) hat2
        obtain ⟨S1, r1, r2, r3, r4, r5, r6⟩ := td_cchild hst (T := td_sP T) eL hok
        have hk1 := td_kp_tr hkP r3
        obtain ⟨S', e1, e2, e3⟩ := td_cend (sn := sn) (n0 := n0) (nn := nn) (al := al + td_rows (f + 1) b a) (by omega) (S := S1) ⟨r2, by
          rw [r5]
          show upd T.2.2.2.2.1 T.1 0 L = 0
          rw [eL, pk_us], n0, Nat.le_refl _, hn0, r4.trans eA1, by rw [Nat.sub_self]; rfl⟩ (r6.trans eW1)
        exact ⟨S1, _, S', r1, by rw [e1, td_rows_s (f + 1), if_pos o1, if_neg o2], e2, td_kp_tr hk1 e3⟩
    · rw [decide_eq_true o1] at eAt ePa eWo
      have eP1 : T.2.2.2.2.1 L = 0 := ePa
      have eW1 : T.2.2.2.2.2.1 L = -1000 := eWo
      have eA1 : T.2.2.2.1 L = nI 0 := eAt
      rw [td_rows_m (f + 1) a b o1 (by omega)]
      exact td_cloop (E := E) (by omega) hn0 hsn (a := a) (b := b) (fun s => td_rows (f + 1) (gX a b s) (gY a b s))
        (fun T2 s al2 e1 e2 e3 => ih (L + 1) (td_dnc T2 s) (gX a b s) (gY a b s) al2 (by show T2.1 + 1 = L + 1; rw [e1]) (by omega) (td_at_dn e1 e2 e3))
        (td_sq (td_moves a b)) T al 0 eL eP1 eW1 eA1 (Nat.zero_le _) hatE (by rw [Nat.sub_zero]; exact hfs) (fun s hs => (td_sq_mem hs).2)
/-- what count of the reference finds -/
theorem td_cok_g (ce mv sp at_ pa wo tr : Nat → Int32) (ch : Int32) {a b : Int64} (hw : mv 0 = 0 ∨ mv 0 = 1) (hR : td_rel (td_lv ce 0) (mv 0) a b) : ∀ j, 0 < j → j ≤ 4 → ∃ (k : Nat) (F : tdQ), td_crun (td_sn (td_lv ce 0) sp) (td_n0 (td_lv ce 0)) j k (td_S1 ce mv at_ pa wo tr sp ch) 0 = some (F, td_rows j a b) ∧ (∀ i, i < 64 → F.2.1 i = ce i) ∧ F.2.2.1 0 = mv 0 := by
  intro j hj _
  obtain ⟨f, rfl⟩ : ∃ f, j = f + 1 := ⟨j - 1, by omega⟩
  have hn0 : td_n0 (td_lv ce 0) ≤ 64 := td_cn_le _ 64
  obtain ⟨S2, al2, S', ⟨n, hn⟩, h2, h3, h4⟩ := td_cmain (E := td_isE (td_lv ce 0)) hn0 (fun i hi => (td_sn_ok (td_lv ce 0) sp i hi).1) (td_spots (td_lv ce 0) sp 64 (Nat.le_refl _)) (f + 1) f 0 (0, ce, mv, at_, pa, wo, tr, ch) a b 0 rfl (by omega)
    ⟨hw, hR, fun i hi ea eb => decide_eq_true (((hR.1 i hi).2.2).mpr ⟨ea, eb⟩)⟩
  rw [decide_eq_false (show ¬ ¬ 0 = 0 by omega), Int64.zero_add] at h2
  refine ⟨n + 1, S', ?_, fun i hi => h4.1 i (by omega), h4.2.1 0 (Nat.le_refl _)⟩
  show td_crun _ _ _ (n + 1) (td_en _ _ (0, ce, mv, at_, pa, wo, tr, ch)) 0 = _
  rw [hn 1]
  show (match td_cst _ _ _ S2 al2 with | none => none | some (S', al', true) => td_crun _ _ _ 0 S' al' | some (S', al', false) => some (S', al')) = _
  rw [h2]
