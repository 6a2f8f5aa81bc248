/-! the squares of a set in order; the value of a position; the class's search finds it -/
def td_lst (P : Nat → Bool) : Nat → Nat → List Nat
  | 0, _ => []
  | r + 1, a => if P a then a :: td_lst P r (a + 1) else td_lst P r (a + 1)
theorem td_lst_cg {P Q : Nat → Bool} : ∀ r a, (∀ j, a ≤ j → j < a + r → P j = Q j) → td_lst P r a = td_lst Q r a
  | 0, _, _ => rfl
  | r + 1, a, h => by
    unfold td_lst
    rw [h a (Nat.le_refl _) (by omega), td_lst_cg r (a + 1) (fun j h1 h2 => h j (by omega) (by omega))]
theorem td_lst_sk {P : Nat → Bool} (s : Nat) : ∀ r a, a ≤ s + 1 → s + 1 ≤ a + r → (∀ j, a ≤ j → j ≤ s → P j = false) → td_lst P r a = td_lst P (a + r - (s + 1)) (s + 1)
  | 0, a, h1, h2, _ => by
    have : a = s + 1 := by omega
    subst this; rw [Nat.add_zero, Nat.sub_self]
  | r + 1, a, h1, h2, h => by
    by_cases ha : a = s + 1
    · subst ha; rw [Nat.add_sub_cancel_left]
    · have e : td_lst P (r + 1) a = td_lst P r (a + 1) := by
        show (if P a then a :: td_lst P r (a + 1) else td_lst P r (a + 1)) = _
        rw [h a (Nat.le_refl _) (by omega)]; rfl
      rw [e, td_lst_sk s r (a + 1) (by omega) (by omega) (fun j h3 h4 => h j (by omega) h4), show a + 1 + r = a + (r + 1) by omega]
theorem td_lst_hd {P : Nat → Bool} {s : Nat} : ∀ r a, a ≤ s → s < a + r → (∀ j, a ≤ j → j < s → P j = false) → P s = true → td_lst P r a = s :: td_lst P (a + r - (s + 1)) (s + 1)
  | 0, a, h1, h2, _, _ => by omega
  | r + 1, a, h1, h2, h, hs => by
    by_cases ha : a = s
    · subst ha
      show (if P a then a :: td_lst P r (a + 1) else td_lst P r (a + 1)) = _
      rw [if_pos hs, show a + (r + 1) - (a + 1) = r by omega]
    · have e : td_lst P (r + 1) a = td_lst P r (a + 1) := by
        show (if P a then a :: td_lst P r (a + 1) else td_lst P r (a + 1)) = _
        rw [h a (Nat.le_refl _) (by omega)]; rfl
      rw [e, td_lst_hd r (a + 1) (by omega) (by omega) (fun j h3 h4 => h j (by omega) h4) hs, show a + 1 + r = a + (r + 1) by omega]
theorem td_lst_len (P : Nat → Bool) : ∀ r a, td_cn P (a + r) = td_cn P a + (td_lst P r a).length
  | 0, a => rfl
  | r + 1, a => by
    have e : td_lst P (r + 1) a = if P a then a :: td_lst P r (a + 1) else td_lst P r (a + 1) := rfl
    rw [show a + (r + 1) = (a + 1) + r by omega, td_lst_len P r (a + 1), td_cn_s, e]
    cases hp : P a
    · rfl
    · rw [if_pos rfl, if_pos rfl, List.length_cons]; omega
theorem td_lst_mem {P : Nat → Bool} : ∀ r a s, s ∈ td_lst P r a → (a ≤ s ∧ s < a + r ∧ P s = true)
  | 0, a, s, h => by cases h
  | r + 1, a, s, h => by
    unfold td_lst at h
    by_cases hp : P a = true
    · rw [if_pos hp] at h
      rcases List.mem_cons.mp h with rfl | h
      · exact ⟨Nat.le_refl _, by omega, hp⟩
      · obtain ⟨h1, h2, h3⟩ := td_lst_mem r (a + 1) s h
        exact ⟨by omega, by omega, h3⟩
    · rw [if_neg hp] at h
      obtain ⟨h1, h2, h3⟩ := td_lst_mem r (a + 1) s h
      exact ⟨by omega, by omega, h3⟩
def td_sq (x : Int64) : List Nat := td_lst (bl x) 64 0
theorem td_sq_len (x : Int64) : td_cn (bl x) 64 = (td_sq x).length := by
  have := td_lst_len (bl x) 64 0
  rw [Nat.zero_add, show td_cn (bl x) 0 = 0 from rfl, Nat.zero_add] at this
  exact this
theorem td_sq_low (x : Int64) (h : ¬ x = 0) : ∃ s, s < 64 ∧ bl x s = true ∧ td_low x = td_lshl 1 (nI s) ∧ td_sq x = s :: td_sq (x ^^^ td_low x) := by
  obtain ⟨s, hs, hb, hlow, e1, hx⟩ := td_lowest x h
  refine ⟨s, hs, hb, e1, ?_⟩
  unfold td_sq
  rw [td_lst_hd 64 0 (Nat.zero_le _) (by omega) (fun j _ h2 => hlow j h2) hb, td_lst_sk (P := bl (x ^^^ td_low x)) s 64 0 (by omega) (by omega) (fun j _ h2 => by
    rw [hx j]
    by_cases hj : j = s
    · subst hj; simp
    · rw [hlow j (by omega), Bool.false_and])]
  congr 1
  refine td_lst_cg _ _ (fun j h1 _ => ?_)
  rw [hx j, decide_eq_false (show ¬ j = s by omega), Bool.not_false, Bool.and_true]
theorem td_popN_len (x : Int64) : td_popN x = (td_sq x).length := by
  unfold td_popN
  have := td_cn_le (bl x) 64
  rw [td_pop_cn, nI_clamp (by omega), td_sq_len]
theorem td_sq_nil {x : Int64} (h : (td_sq x).length = 0) : x = 0 := by
  rw [← td_sq_len, td_cn_0] at h
  exact (bl_eq0 x).mpr h
theorem td_sq_ne {x : Int64} {s : Nat} {l : List Nat} (h : td_sq x = s :: l) : ¬ x = 0 ∧ td_low x = td_lshl 1 (nI s) ∧ td_sq (x ^^^ td_low x) = l := by
  have hx : ¬ x = 0 := fun z => by
    have : (td_sq x).length = 0 := by rw [← td_sq_len, td_cn_0]; exact (bl_eq0 x).mp z
    rw [h] at this; cases this
  obtain ⟨s', hs, hb, e1, e2⟩ := td_sq_low x hx
  rw [h] at e2
  obtain ⟨h1, h2⟩ := List.cons.inj e2
  subst h1
  exact ⟨hx, e1, h2.symm⟩
theorem td_fold_l {σ : Type} (g : Int64 → σ → σ) : ∀ (l : List Nat) (x : Int64) (acc : σ), td_sq x = l → td_fold g l.length x acc = l.foldl (fun a s => g (td_lshl 1 (nI s)) a) acc
  | [], x, acc, _ => rfl
  | s :: l, x, acc, h => by
    obtain ⟨-, e1, e2⟩ := td_sq_ne h
    show td_fold g l.length (x ^^^ td_low x) (g (td_low x) acc) = _
    rw [td_fold_l g l _ _ e2, e1]
    rfl
def td_wl (g : Nat → Int32 → Int32) (lo hi : Int32) : List Nat → Int32 → Int32
  | [], m => m
  | s :: l, m => if m < hi then td_wl g lo hi l (td_max m (g s (td_max lo m))) else m
theorem td_wloop_l (g : Int64 → Int32 → Int32) (lo hi : Int32) : ∀ (l : List Nat) (x : Int64) (m : Int32), td_sq x = l → td_wloop g lo hi l.length x m = td_wl (fun s => g (td_lshl 1 (nI s))) lo hi l m
  | [], x, m, _ => rfl
  | s :: l, x, m, h => by
    obtain ⟨-, e1, e2⟩ := td_sq_ne h
    show (if m < hi then td_wloop g lo hi l.length (x ^^^ td_low x) (td_max m (g (td_low x) (td_max lo m))) else m) = (if m < hi then _ else m)
    rw [td_wloop_l g lo hi l _ _ e2, e1]
def td_bpl (g : Nat → Int32 → Int32) : List Nat → Int64 → Int32 → Int64
  | [], ch, _ => ch
  | s :: l, ch, m => if m < g s m then td_bpl g l (td_lshl 1 (nI s)) (g s m) else td_bpl g l ch m
theorem td_bloop_l (g : Int64 → Int32 → Int32) : ∀ (l : List Nat) (x ch : Int64) (m : Int32), td_sq x = l → td_bloop g l.length x ch m = td_bpl (fun s => g (td_lshl 1 (nI s))) l ch m
  | [], x, ch, m, _ => rfl
  | s :: l, x, ch, m, h => by
    obtain ⟨-, e1, e2⟩ := td_sq_ne h
    show (if m < g (td_low x) m then td_bloop g l.length (x ^^^ td_low x) (td_low x) (g (td_low x) m) else td_bloop g l.length (x ^^^ td_low x) ch m) = _
    rw [td_bloop_l g l _ _ _ e2, td_bloop_l g l _ _ _ e2, e1]
    rfl
/-- small whole numbers -/
def iI (z : Int) : Int32 := Int32.ofInt z
theorem iI_toInt {z : Int} (h1 : -2000 ≤ z) (h2 : z ≤ 2000) : (iI z).toInt = z := by
  unfold iI
  rw [Int32.toInt_ofInt_of_le (by omega) (by omega)]
theorem iI_lt {x y : Int} (h1 : -2000 ≤ x) (h2 : x ≤ 2000) (h3 : -2000 ≤ y) (h4 : y ≤ 2000) : iI x < iI y ↔ x < y := by
  rw [Int32.lt_iff_toInt_lt, iI_toInt h1 h2, iI_toInt h3 h4]
theorem iI_neg (x : Int) : -(iI x) = iI (-x) := (Int32.ofInt_neg x).symm
theorem iI_nat (n : Nat) : nI n = iI n := rfl
theorem iI_sub (x y : Int) : iI x - iI y = iI (x - y) := (Int32.ofInt_sub x y).symm
theorem iI_max {x y : Int} (h1 : -2000 ≤ x) (h2 : x ≤ 2000) (h3 : -2000 ≤ y) (h4 : y ≤ 2000) : td_max (iI x) (iI y) = iI (if x < y then y else x) := by
  unfold td_max
  by_cases h : x < y
  · rw [if_pos h, if_pos ((iI_lt h1 h2 h3 h4).mpr h)]
  · rw [if_neg h, if_neg (fun z => h ((iI_lt h1 h2 h3 h4).mp z))]
/-- the discs' difference -/
def gL (a b : Int64) : Int := (td_cn (bl a) 64 : Int) - (td_cn (bl b) 64 : Int)
theorem td_lead_g (a b : Int64) : td_lead a b = iI (gL a b) := by
  unfold td_lead gL
  rw [td_pop_cn, td_pop_cn, iI_nat, iI_nat, iI_sub]
theorem gL_bd (a b : Int64) : -64 ≤ gL a b ∧ gL a b ≤ 64 := by
  have h1 := td_cn_le (bl a) 64
  have h2 := td_cn_le (bl b) 64
  unfold gL; omega
def gX (a b : Int64) (s : Nat) : Int64 := b ^^^ td_turned a b (td_lshl 1 (nI s))
def gY (a b : Int64) (s : Nat) : Int64 := (a ||| td_lshl 1 (nI s)) ||| td_turned a b (td_lshl 1 (nI s))
def gMax (m v : Int) : Int := if m < v then v else m
/-- the outcome for the one to move, looking d plies ahead -/
def gV : Nat → Int64 → Int64 → Int
  | 0, a, b => gL a b
  | d + 1, a, b => if td_moves a b = 0 then (if td_moves b a = 0 then gL a b else -(gV d b a)) else (td_sq (td_moves a b)).foldl (fun m s => gMax m (-(gV d (gX a b s) (gY a b s)))) (-65)
theorem gV_s (d : Nat) (a b : Int64) : gV (d + 1) a b = if td_moves a b = 0 then (if td_moves b a = 0 then gL a b else -(gV d b a)) else (td_sq (td_moves a b)).foldl (fun m s => gMax m (-(gV d (gX a b s) (gY a b s)))) (-65) := rfl
theorem gMax_f (f : Nat → Int) : ∀ (l : List Nat) (m : Int), m ≤ l.foldl (fun m s => gMax m (f s)) m ∧ (∀ s, s ∈ l → f s ≤ l.foldl (fun m s => gMax m (f s)) m) ∧ (l.foldl (fun m s => gMax m (f s)) m = m ∨ ∃ s, s ∈ l ∧ l.foldl (fun m s => gMax m (f s)) m = f s)
  | [], m => ⟨Int.le_refl _, fun s h => (by cases h), Or.inl rfl⟩
  | s :: l, m => by
    obtain ⟨h1, h2, h3⟩ := gMax_f f l (gMax m (f s))
    have g1 : m ≤ gMax m (f s) ∧ f s ≤ gMax m (f s) ∧ (gMax m (f s) = m ∨ gMax m (f s) = f s) := by
      unfold gMax
      by_cases h : m < f s
      · rw [if_pos h]; exact ⟨by omega, by omega, Or.inr rfl⟩
      · rw [if_neg h]; exact ⟨by omega, by omega, Or.inl rfl⟩
    refine ⟨Int.le_trans g1.1 h1, fun t ht => ?_, ?_⟩
    · rcases List.mem_cons.mp ht with rfl | ht
      · exact Int.le_trans g1.2.1 h1
      · exact h2 t ht
    · rcases h3 with h3 | ⟨t, ht, h3⟩
      · rcases g1.2.2 with g | g
        · exact Or.inl (h3.trans g)
        · exact Or.inr ⟨s, List.mem_cons_self, h3.trans g⟩
      · exact Or.inr ⟨t, List.mem_cons_of_mem _ ht, h3⟩
theorem gV_bd : ∀ d a b, -64 ≤ gV d a b ∧ gV d a b ≤ 64
  | 0, a, b => gL_bd a b
  | d + 1, a, b => by
    rw [gV_s]
    by_cases h : td_moves a b = 0
    · rw [if_pos h]
      by_cases h2 : td_moves b a = 0
      · rw [if_pos h2]; exact gL_bd a b
      · rw [if_neg h2]; have := gV_bd d b a; omega
    · rw [if_neg h]
      obtain ⟨s, hs, -, -, e⟩ := td_sq_low _ h
      have hm : s ∈ td_sq (td_moves a b) := by rw [e]; exact List.mem_cons_self
      obtain ⟨f1, f2, f3⟩ := gMax_f (fun s => -(gV d (gX a b s) (gY a b s))) (td_sq (td_moves a b)) (-65)
      have h1 := f2 s hm
      have h2 := gV_bd d (gX a b s) (gY a b s)
      rcases f3 with f3 | ⟨t, ht, f3⟩
      · omega
      · have h3 := gV_bd d (gX a b t) (gY a b t)
        omega
theorem gIf (x y : Int) : (x < y ∧ (if x < y then y else x) = y) ∨ (¬ x < y ∧ (if x < y then y else x) = x) := by
  by_cases h : x < y
  · exact Or.inl ⟨h, if_pos h⟩
  · exact Or.inr ⟨h, if_neg h⟩
/-- what a bounded search may say of v -/
def gAB (v r lo hi : Int) : Prop := (r ≤ lo → v ≤ r) ∧ (lo < r → r < hi → v = r) ∧ (hi ≤ r → r ≤ v)
theorem gAB_l {f : Nat → Int} {G : Nat → Int32 → Int32} {lo hi : Int} (hlo : -65 ≤ lo) (hhi : hi ≤ 65) (hlh : lo < hi) (hG : ∀ s (x : Int), -65 ≤ x → x < hi → ∃ r : Int, G s (iI x) = iI r ∧ -65 ≤ r ∧ r ≤ 65 ∧ gAB (f s) r x hi) :
    ∀ (l : List Nat) (m M : Int), -65 ≤ m → m ≤ 65 → gAB M m lo hi → ∃ r : Int, td_wl G (iI lo) (iI hi) l (iI m) = iI r ∧ -65 ≤ r ∧ r ≤ 65 ∧ gAB (l.foldl (fun m s => gMax m (f s)) M) r lo hi
  | [], m, M, h1, h2, h => ⟨m, rfl, h1, h2, h⟩
  | s :: l, m, M, h1, h2, h => by
    unfold td_wl
    by_cases hm : m < hi
    · rw [if_pos ((iI_lt (by omega) (by omega) (by omega) (by omega)).mpr hm), iI_max (by omega) (by omega) (by omega) (by omega)]
      have hx0 := gIf lo m
      generalize (if lo < m then m else lo) = x at hx0 ⊢
      obtain ⟨r, e, r1, r2, r3⟩ := hG s x (by omega) (by omega)
      rw [e, iI_max (by omega) (by omega) (by omega) (by omega)]
      have hm0 := gIf m r
      generalize (if m < r then r else m) = m2 at hm0 ⊢
      refine gAB_l hlo hhi hlh hG l m2 (gMax M (f s)) (by omega) (by omega) ?_
      obtain ⟨a1, a2, a3⟩ := h
      obtain ⟨b1, b2, b3⟩ := r3
      have hM0 : (M < f s ∧ gMax M (f s) = f s) ∨ (¬ M < f s ∧ gMax M (f s) = M) := gIf M (f s)
      generalize gMax M (f s) = M2 at hM0 ⊢
      generalize f s = v at b1 b2 b3 hM0
      refine ⟨fun z => ?_, fun z1 z2 => ?_, fun z => ?_⟩
      · omega
      · omega
      · omega
    · rw [if_neg (fun z => hm ((iI_lt (by omega) (by omega) (by omega) (by omega)).mp z))]
      refine ⟨m, rfl, h1, h2, ?_⟩
      have hM := h.2.2 (by omega)
      have := (gMax_f f (s :: l) M).1
      exact ⟨fun z => by omega, fun z1 z2 => by omega, fun z => by omega⟩
/-- the class's worth is a bounded search for the value -/
theorem td_worth_g : ∀ d a b (lo hi : Int), -65 ≤ lo → hi ≤ 65 → lo < hi → ∃ r : Int, td_worth d a b (iI lo) (iI hi) = iI r ∧ -65 ≤ r ∧ r ≤ 65 ∧ gAB (gV d a b) r lo hi
  | 0, a, b, lo, hi, h1, h2, h3 => by
    have := gL_bd a b
    refine ⟨gL a b, td_lead_g a b, by omega, by omega, ?_⟩
    show gAB (gL a b) _ _ _
    exact ⟨fun _ => Int.le_refl _, fun _ _ => rfl, fun _ => Int.le_refl _⟩
  | d + 1, a, b, lo, hi, h1, h2, h3 => by
    rw [td_worth_s, gV_s]
    by_cases hm : td_moves a b = 0
    · rw [if_pos hm, if_pos hm]
      by_cases hm2 : td_moves b a = 0
      · rw [if_pos hm2, if_pos hm2]
        have := gL_bd a b
        exact ⟨gL a b, td_lead_g a b, by omega, by omega, fun _ => Int.le_refl _, fun _ _ => rfl, fun _ => Int.le_refl _⟩
      · rw [if_neg hm2, if_neg hm2]
        obtain ⟨r, e, r1, r2, b1, b2, b3⟩ := td_worth_g d b a (-hi) (-lo) (by omega) (by omega) (by omega)
        refine ⟨-r, ?_, by omega, by omega, fun z => ?_, fun z1 z2 => ?_, fun z => ?_⟩
        · rw [iI_neg, iI_neg, e, iI_neg]
        · have := b3 (by omega); omega
        · have := b2 (by omega) (by omega); omega
        · have := b1 (by omega); omega
    · rw [if_neg hm, if_neg hm, td_popN_len, td_wloop_l _ _ _ _ _ _ rfl]
      exact gAB_l (f := fun s => -(gV d (gX a b s) (gY a b s))) h1 h2 h3 (fun s x hx1 hx2 => by
        obtain ⟨r, e, r1, r2, b1, b2, b3⟩ := td_worth_g d (gX a b s) (gY a b s) (-hi) (-x) (by omega) (by omega) (by omega)
        refine ⟨-r, ?_, by omega, by omega, fun z => ?_, fun z1 z2 => ?_, fun z => ?_⟩
        · rw [iI_neg, iI_neg]
          show -(td_worth d (gX a b s) (gY a b s) (iI (-hi)) (iI (-x))) = _
          rw [e, iI_neg]
        · have := b3 (by omega); omega
        · have := b2 (by omega) (by omega); omega
        · have := b1 (by omega); omega) _ (-65) (-65) (by omega) (by omega) ⟨fun _ => Int.le_refl _, fun _ _ => rfl, fun _ => Int.le_refl _⟩
theorem td_worth_v (d : Nat) (a b : Int64) : td_worth d a b (-65) 65 = iI (gV d a b) := by
  obtain ⟨r, e, r1, r2, b1, b2, b3⟩ := td_worth_g d a b (-65) 65 (by omega) (by omega) (by omega)
  have hb := gV_bd d a b
  have e' : td_worth d a b (-65) 65 = iI r := e
  rw [e']
  by_cases h1 : r ≤ -65
  · have := b1 h1; omega
  · by_cases h2 : 65 ≤ r
    · have := b3 h2; omega
    · rw [b2 (by omega) (by omega)]
