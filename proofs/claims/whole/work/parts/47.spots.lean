/-! the spots in order, as a list -/
def td_sl (sn : Nat → Nat) : Nat → Nat → List Nat
  | 0, _ => []
  | r + 1, a => sn a :: td_sl sn r (a + 1)
theorem td_sl_snoc (sn : Nat → Nat) : ∀ r a, td_sl sn (r + 1) a = td_sl sn r a ++ [sn (a + r)]
  | 0, a => rfl
  | r + 1, a => by
    show sn a :: td_sl sn (r + 1) (a + 1) = (sn a :: td_sl sn r (a + 1)) ++ [sn (a + (r + 1))]
    rw [td_sl_snoc sn r (a + 1), List.cons_append, show a + 1 + r = a + (r + 1) by omega]
theorem td_sl_cg {sn tn : Nat → Nat} : ∀ r a, (∀ j, a ≤ j → j < a + r → sn j = tn j) → td_sl sn r a = td_sl tn r a
  | 0, _, _ => rfl
  | r + 1, a, h => by
    show sn a :: td_sl sn r (a + 1) = tn a :: td_sl tn r (a + 1)
    rw [h a (Nat.le_refl _) (by omega), td_sl_cg r (a + 1) (fun j h1 h2 => h j (by omega) (by omega))]
theorem td_lst_snoc (P : Nat → Bool) : ∀ r a, td_lst P (r + 1) a = td_lst P r a ++ (if P (a + r) then [a + r] else [])
  | 0, a => rfl
  | r + 1, a => by
    have e : td_lst P (r + 1 + 1) a = if P a then a :: td_lst P (r + 1) (a + 1) else td_lst P (r + 1) (a + 1) := rfl
    have e2 : td_lst P (r + 1) a = if P a then a :: td_lst P r (a + 1) else td_lst P r (a + 1) := rfl
    rw [e, e2, td_lst_snoc P r (a + 1), show a + 1 + r = a + (r + 1) by omega]
    cases P a
    · rfl
    · rfl
theorem td_spots (g sp : Nat → Int32) : ∀ i, i ≤ 64 → td_sl (fun j => (td_spf g sp i j).toNatClampNeg) (td_cn (td_isE g) i) 0 = td_lst (td_isE g) i 0
  | 0, _ => rfl
  | i + 1, hi => by
    have ih := td_spots g sp i (by omega)
    rw [td_lst_snoc, Nat.zero_add, td_cn_s, ← ih]
    by_cases he : g i = 0
    · have e0 : td_isE g i = true := decide_eq_true he
      have e1 : td_spf g sp (i + 1) = upd (td_spf g sp i) (td_cn (td_isE g) i) (nI i) := if_pos he
      rw [if_pos e0, if_pos e0, td_sl_snoc, e1, Nat.zero_add]
      congr 1
      · exact td_sl_cg _ _ (fun j _ h => by rw [pk_un (by omega)])
      · show [(upd (td_spf g sp i) (td_cn (td_isE g) i) (nI i) (td_cn (td_isE g) i)).toNatClampNeg] = _
        rw [pk_us, nI_clamp (by omega)]
    · have e0 : ¬ td_isE g i = true := fun z => he (of_decide_eq_true z)
      have e1 : td_spf g sp (i + 1) = td_spf g sp i := if_neg he
      rw [if_neg e0, if_neg e0, e1, Nat.add_zero, List.append_nil]
theorem td_lst_filter (P Q : Nat → Bool) : ∀ r a, (td_lst P r a).filter Q = td_lst (fun i => P i && Q i) r a
  | 0, _ => rfl
  | r + 1, a => by
    have e : td_lst P (r + 1) a = if P a then a :: td_lst P r (a + 1) else td_lst P r (a + 1) := rfl
    have e2 : td_lst (fun i => P i && Q i) (r + 1) a = if P a && Q a then a :: td_lst (fun i => P i && Q i) r (a + 1) else td_lst (fun i => P i && Q i) r (a + 1) := rfl
    rw [e, e2, ← td_lst_filter P Q r (a + 1)]
    cases P a
    · rfl
    · cases hq : Q a
      · rw [if_pos rfl, List.filter_cons_of_neg (by rw [hq]; decide)]; rfl
      · rw [if_pos rfl, List.filter_cons_of_pos hq]; rfl
/-- the squares one can move to, among the spots in order -/
def td_fs (sn : Nat → Nat) (g : Nat → Int32) (who : Int32) (r a : Nat) : List Nat := (td_sl sn r a).filter (td_any g who)
theorem td_fs_mv {E : Nat → Bool} {sn : Nat → Nat} {n0 : Nat} (hsp : td_sl sn n0 0 = td_lst E 64 0) {g : Nat → Int32} {who : Int32} {a b : Int64} (hR : td_rel g who a b) (hsub : ∀ i, i < 64 → g i = 0 → E i = true) : td_fs sn g who n0 0 = td_sq (td_moves a b) := by
  unfold td_fs
  rw [hsp, td_lst_filter]
  refine td_lst_cg 64 0 (fun j _ h => ?_)
  rw [td_moves_bl hR (by omega)]
  show (E j && td_any g who j) = td_any g who j
  cases ha : td_any g who j
  · rw [Bool.and_false]
  · rw [hsub j (by omega) ((td_any_iff g who j).mp ha).1]; rfl
theorem td_fs_s (sn : Nat → Nat) (g : Nat → Int32) (who : Int32) (r a : Nat) : td_fs sn g who (r + 1) a = if td_any g who (sn a) then sn a :: td_fs sn g who r (a + 1) else td_fs sn g who r (a + 1) := by
  unfold td_fs
  have e : td_sl sn (r + 1) a = sn a :: td_sl sn r (a + 1) := rfl
  rw [e]
  cases hp : td_any g who (sn a)
  · rw [List.filter_cons_of_neg (by rw [hp]; decide)]; rfl
  · rw [List.filter_cons_of_pos hp]; rfl
theorem td_nextI_nil (sn : Nat → Nat) (g : Nat → Int32) (who : Int32) : ∀ r a, td_fs sn g who r a = [] → td_nextI sn g who r a = (a + r, none)
  | 0, a, _ => rfl
  | r + 1, a, h => by
    rw [td_fs_s] at h
    unfold td_nextI
    by_cases hp : td_any g who (sn a) = true
    · rw [if_pos hp] at h; cases h
    · rw [if_neg hp] at h
      rw [if_neg hp, td_nextI_nil sn g who r (a + 1) h, show a + 1 + r = a + (r + 1) by omega]
theorem td_nextI_cons (sn : Nat → Nat) (g : Nat → Int32) (who : Int32) {j : Nat} {l : List Nat} : ∀ r a, td_fs sn g who r a = j :: l → ∃ a', a < a' ∧ a' ≤ a + r ∧ td_nextI sn g who r a = (a', some j) ∧ td_fs sn g who (a + r - a') a' = l
  | 0, a, h => by cases h
  | r + 1, a, h => by
    rw [td_fs_s] at h
    unfold td_nextI
    by_cases hp : td_any g who (sn a) = true
    · rw [if_pos hp] at h
      obtain ⟨h1, h2⟩ := List.cons.inj h
      subst h1
      rw [if_pos hp]
      exact ⟨a + 1, Nat.lt_succ_self a, by omega, rfl, by rw [show a + (r + 1) - (a + 1) = r by omega]; exact h2⟩
    · rw [if_neg hp] at h
      rw [if_neg hp]
      obtain ⟨a', h1, h2, h3, h4⟩ := td_nextI_cons sn g who r (a + 1) h
      exact ⟨a', by omega, by omega, h3, by rw [show a + (r + 1) - a' = a + 1 + r - a' by omega]; exact h4⟩
theorem td_cap_len (sn : Nat → Nat) (g : Nat → Int32) (who : Int32) : ∀ r i n, n + r ≤ 64 → td_cap (fun i => td_any g who (sn i)) 64 r i n = n + (td_fs sn g who r i).length
  | 0, i, n, _ => rfl
  | r + 1, i, n, h => by
    unfold td_cap
    rw [if_pos (show nI n < 64 from (iI_lt (x := n) (y := 64) (by omega) (by omega) (by omega) (by omega)).mpr (by omega)), td_fs_s]
    have ih := td_cap_len sn g who r (i + 1)
    by_cases hp : td_any g who (sn i) = true
    · rw [if_pos hp, if_pos hp, ih _ (by omega), List.length_cons]; omega
    · rw [if_neg hp, if_neg hp, ih _ (by omega)]; omega
theorem td_cap_1 (sn : Nat → Nat) (g : Nat → Int32) (who : Int32) : ∀ r i, (0 < td_cap (fun i => td_any g who (sn i)) 1 r i 0 ↔ ¬ td_fs sn g who r i = [])
  | 0, i => ⟨fun h => absurd h (Nat.lt_irrefl 0), fun h => absurd rfl h⟩
  | r + 1, i => by
    unfold td_cap
    rw [if_pos (show nI 0 < 1 by decide), td_fs_s]
    by_cases hp : td_any g who (sn i) = true
    · rw [if_pos hp, if_pos hp]
      refine ⟨fun _ => fun z => (by cases z), fun _ => ?_⟩
      cases r with
      | zero => exact Nat.lt_succ_self 0
      | succ r =>
        unfold td_cap
        rw [if_neg (show ¬ nI (0 + 1) < 1 by decide)]
        exact Nat.lt_succ_self 0
    · rw [if_neg hp, if_neg hp]
      exact td_cap_1 sn g who r (i + 1)
theorem td_mm_iff {E : Nat → Bool} {sn : Nat → Nat} {n0 : Nat} (hsp : td_sl sn n0 0 = td_lst E 64 0) {g : Nat → Int32} {who : Int32} {a b : Int64} (hR : td_rel g who a b) (hsub : ∀ i, i < 64 → g i = 0 → E i = true) : td_mm sn n0 g who = decide (¬ td_moves a b = 0) := by
  unfold td_mm
  refine td_bool ?_
  rw [decide_eq_true_iff, decide_eq_true_iff, td_cap_1, td_fs_mv hsp hR hsub]
  refine not_congr ⟨fun z => td_sq_nil (by rw [z]; rfl), fun z => ?_⟩
  cases hl : td_sq (td_moves a b) with
  | nil => rfl
  | cons s l => exact absurd z (td_sq_ne hl).1
