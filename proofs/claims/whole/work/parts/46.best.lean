/-! the square chosen; plies enough -/
def gCh (f : Nat → Int) : List Nat → Int → Nat → Nat
  | [], _, c => c
  | s :: l, m, c => if m < f s then gCh f l (f s) s else gCh f l m c
def gB (d : Nat) (a b : Int64) : Nat := if td_moves a b = 0 then (if td_moves b a = 0 then 65 else 64) else gCh (fun s => -(gV d (gX a b s) (gY a b s))) (td_sq (td_moves a b)) (-65) 0
theorem td_sqof_all : ((List.range 64).all fun s => decide (td_pop (td_lshl 1 (nI s) - 1) = nI s)) = true := by decide +kernel
theorem gCh_l {f : Nat → Int} {G : Nat → Int32 → Int32} (hf : ∀ s, -64 ≤ f s ∧ f s ≤ 64) (hG : ∀ s (x : Int), -65 ≤ x → x < 65 → ∃ r : Int, G s (iI x) = iI r ∧ -65 ≤ r ∧ r ≤ 65 ∧ gAB (f s) r x 65) :
    ∀ (l : List Nat) (m : Int) (ch : Int64) (c : Nat), -65 ≤ m → m ≤ 64 → (m = -65 ∨ ch = td_lshl 1 (nI c)) → (l = [] → ch = td_lshl 1 (nI c)) → td_bpl G l ch (iI m) = td_lshl 1 (nI (gCh f l m c))
  | [], m, ch, c, _, _, _, h => h rfl
  | s :: l, m, ch, c, h1, h2, h3, _ => by
    obtain ⟨r, e, r1, r2, b1, b2, b3⟩ := hG s m h1 (by omega)
    have hb := hf s
    show (if iI m < G s (iI m) then td_bpl G l (td_lshl 1 (nI s)) (G s (iI m)) else td_bpl G l ch (iI m)) = td_lshl 1 (nI (if m < f s then gCh f l (f s) s else gCh f l m c))
    rw [e]
    by_cases hc : m < r
    · have hr : f s = r := by
        by_cases h65 : r < 65
        · exact b2 hc h65
        · have := b3 (by omega); omega
      rw [if_pos ((iI_lt (by omega) (by omega) (by omega) (by omega)).mpr hc), if_pos (by omega), hr]
      exact gCh_l hf hG l r _ s (by omega) (by omega) (Or.inr rfl) (fun _ => rfl)
    · have hr : f s ≤ r := b1 (by omega)
      rw [if_neg (fun z => hc ((iI_lt (by omega) (by omega) (by omega) (by omega)).mp z)), if_neg (by omega)]
      have hm : ch = td_lshl 1 (nI c) := h3.elim (fun z => by omega) (fun z => z)
      exact gCh_l hf hG l m ch c h1 h2 h3 (fun _ => hm)
theorem gCh_in (f : Nat → Int) : ∀ (l : List Nat) (m : Int) (c : Nat), gCh f l m c = c ∨ gCh f l m c ∈ l
  | [], _, _ => Or.inl rfl
  | s :: l, m, c => by
    show (if m < f s then gCh f l (f s) s else gCh f l m c) = c ∨ (if m < f s then gCh f l (f s) s else gCh f l m c) ∈ s :: l
    by_cases h : m < f s
    · rw [if_pos h]
      rcases gCh_in f l (f s) s with h1 | h1
      · rw [h1]; exact Or.inr List.mem_cons_self
      · exact Or.inr (List.mem_cons_of_mem _ h1)
    · rw [if_neg h]
      rcases gCh_in f l m c with h1 | h1
      · exact Or.inl h1
      · exact Or.inr (List.mem_cons_of_mem _ h1)
/-- where there is a move, one is chosen -/
theorem gCh_mem {f : Nat → Int} (hf : ∀ s, -64 ≤ f s) {s : Nat} {l : List Nat} (c : Nat) : gCh f (s :: l) (-65) c ∈ s :: l := by
  show (if -65 < f s then gCh f l (f s) s else gCh f l (-65) c) ∈ s :: l
  rw [if_pos (by have := hf s; omega)]
  rcases gCh_in f l (f s) s with h1 | h1
  · rw [h1]; exact List.mem_cons_self
  · exact List.mem_cons_of_mem _ h1
theorem gB_in (d : Nat) (a b : Int64) (h : ¬ td_moves a b = 0) : gB d a b ∈ td_sq (td_moves a b) := by
  unfold gB
  rw [if_neg h]
  obtain ⟨s, hs, -, -, e⟩ := td_sq_low _ h
  generalize td_sq (td_moves a b) = l at e ⊢
  subst e
  exact gCh_mem (fun s => by have := gV_bd d (gX a b s) (gY a b s); omega) 0
theorem td_sq_mem {x : Int64} {s : Nat} (h : s ∈ td_sq x) : s < 64 ∧ bl x s = true := by
  obtain ⟨h1, h2, h3⟩ := td_lst_mem 64 0 s h
  exact ⟨by omega, h3⟩
theorem td_best_g (a b : Int64) : td_best a b = nI (gB 13 a b) := by
  have hin := gB_in 13 a b
  unfold td_best gB at *
  by_cases h : td_moves a b = 0
  · rw [if_pos h, if_pos h]
    by_cases h2 : td_moves b a = 0
    · rw [if_pos h2, if_pos h2]; rfl
    · rw [if_neg h2, if_neg h2]; rfl
  · have hin := hin h
    rw [if_neg h] at hin
    rw [if_neg h, if_neg h, td_popN_len, td_bloop_l _ _ _ _ _ rfl]
    have key := gCh_l (f := fun s => -(gV 13 (gX a b s) (gY a b s))) (G := fun s => fun lw => -(td_worth 13 (b ^^^ td_turned a b (td_lshl 1 (nI s))) ((a ||| td_lshl 1 (nI s)) ||| td_turned a b (td_lshl 1 (nI s))) (-65) (-lw)))
      (fun s => by have := gV_bd 13 (gX a b s) (gY a b s); constructor <;> omega)
      (fun s x hx1 hx2 => by
        obtain ⟨r, e, r1, r2, b1, b2, b3⟩ := td_worth_g 13 (gX a b s) (gY a b s) (-65) (-x) (by omega) (by omega) (by omega)
        refine ⟨-r, ?_, by omega, by omega, fun z => ?_, fun z1 z2 => ?_, fun z => ?_⟩
        · show -(td_worth 13 (gX a b s) (gY a b s) (iI (-65)) (-(iI x))) = _
          rw [iI_neg, e, iI_neg]
        · have := b3 (by omega); omega
        · have := b2 (by omega) (by omega); omega
        · have := b1 (by omega); omega)
      (td_sq (td_moves a b)) (-65) 0 0 (by omega) (by omega) (Or.inl rfl) (fun z => by rw [z] at hin; cases hin)
    have key2 : td_bpl (fun s => (fun q lw => -(td_worth 13 (b ^^^ td_turned a b q) ((a ||| q) ||| td_turned a b q) (-65) (-lw))) (td_lshl 1 (nI s))) (td_sq (td_moves a b)) 0 (-65) = _ := key
    rw [key2]
    have hs := (td_sq_mem hin).1
    exact of_decide_eq_true (List.all_eq_true.mp td_sqof_all _ (List.mem_range.mpr hs))
/-- two sets apart, as a board -/
def gD (a b : Int64) : Prop := ∀ i, i < 64 → ¬ (bl a i = true ∧ bl b i = true)
def gOf (a b : Int64) : Nat → Int32 := fun i => if bl a i then 1 else if bl b i then 2 else 0
theorem gOf_rel {a b : Int64} (h : gD a b) : td_rel (gOf a b) 0 a b := by
  refine ⟨fun i hi => ?_, h⟩
  unfold gOf
  have := h i hi
  cases ha : bl a i <;> cases hb : bl b i
  · simp
  · simp
  · simp
  · exact absurd ⟨ha, hb⟩ this
def gE (a b : Int64) : Nat := td_cn (fun i => !bl a i && !bl b i) 64
theorem gD_sw {a b : Int64} (h : gD a b) : gD b a := fun i hi z => h i hi ⟨z.2, z.1⟩
theorem gE_sw (a b : Int64) : gE b a = gE a b := td_cn_cg 64 (fun i _ => Bool.and_comm _ _)
theorem td_cn_rm {P : Nat → Bool} {s : Nat} : ∀ n, s < n → P s = true → td_cn P n = td_cn (fun i => P i && !decide (i = s)) n + 1
  | 0, h, _ => by omega
  | n + 1, h, hp => by
    rw [td_cn_s, td_cn_s]
    by_cases hs : s = n
    · subst hs
      rw [hp, td_cn_cg (P := P) (Q := fun i => P i && !decide (i = s)) s (fun i hi => by rw [decide_eq_false (show ¬ i = s by omega), Bool.not_false, Bool.and_true])]
      simp
    · rw [td_cn_rm n (by omega) hp, decide_eq_false (show ¬ n = s by omega), Bool.not_false, Bool.and_true]
      omega
/-- a move of the class's: an empty square; what it leaves -/
theorem g_move {a b : Int64} (hD : gD a b) {s : Nat} (h : bl (td_moves a b) s = true) : s < 64 ∧ bl a s = false ∧ bl b s = false ∧ gD (gX a b s) (gY a b s) ∧ gE a b = gE (gX a b s) (gY a b s) + 1 := by
  have hs := bl_lt h
  have hR := gOf_rel hD
  rw [td_moves_bl hR hs, td_any_iff] at h
  obtain ⟨he, -⟩ := h
  obtain ⟨ea, eb⟩ := ((hR.1 s hs).2.2).mp he
  have hR2 := td_rel_mv (Or.inl rfl) hR hs he
  have hsub : ∀ i, bl (td_turned a b (td_lshl 1 (nI s))) i = true → bl b i = true := fun i hi => by
    rw [td_turned_fw hR hs] at hi; exact td_fw_sub hR hs hi
  refine ⟨hs, ea, eb, hR2.2, ?_⟩
  unfold gE
  rw [td_cn_rm (s := s) 64 hs (by rw [ea, eb]; rfl)]
  congr 1
  refine td_cn_cg 64 (fun i hi => ?_)
  unfold gX gY
  rw [bl_xor, bl_or, bl_or, bl_one hs]
  have hsb := hsub i
  cases hf : bl (td_turned a b (td_lshl 1 (nI s))) i
  · simp only [Bool.xor_false, Bool.or_false]
    cases bl a i <;> cases bl b i <;> cases decide (i = s) <;> rfl
  · rw [hsb hf]
    simp
theorem gE_pos {a b : Int64} (hD : gD a b) (h : ¬ td_moves a b = 0) : 0 < gE a b := by
  obtain ⟨i, hi, hb⟩ := (bl_ne0 _).mp h
  have := (g_move hD hb).2.2.2.2
  omega
/-- plies that are enough -/
def gN (a b : Int64) : Nat := if td_moves a b = 0 then (if td_moves b a = 0 then 0 else 2 * gE a b) else 2 * gE a b - 1
theorem gN_le (a b : Int64) : gN a b ≤ 2 * gE a b := by
  unfold gN
  by_cases h : td_moves a b = 0
  · rw [if_pos h]
    by_cases h2 : td_moves b a = 0
    · rw [if_pos h2]; omega
    · rw [if_neg h2]; omega
  · rw [if_neg h]; omega
theorem foldl_cg {α : Type} {f g : α → Nat → α} : ∀ (l : List Nat) (m : α), (∀ s, s ∈ l → ∀ x, f x s = g x s) → l.foldl f m = l.foldl g m
  | [], _, _ => rfl
  | s :: l, m, h => by
    show l.foldl f (f m s) = l.foldl g (g m s)
    rw [h s List.mem_cons_self, foldl_cg l _ (fun t ht => h t (List.mem_cons_of_mem _ ht))]
theorem gN_step {a b : Int64} (hD : gD a b) {s f : Nat} (h : bl (td_moves a b) s = true) (hf : gN a b ≤ f + 1) : gN (gX a b s) (gY a b s) ≤ f := by
  have hm : ¬ td_moves a b = 0 := fun z => by rw [z, bl_0] at h; cases h
  have e := (g_move hD h).2.2.2.2
  have := gN_le (gX a b s) (gY a b s)
  unfold gN at hf
  rw [if_neg hm] at hf
  omega
theorem gN_pass {a b : Int64} {f : Nat} (h1 : td_moves a b = 0) (h2 : ¬ td_moves b a = 0) (hf : gN a b ≤ f + 1) : gN b a ≤ f := by
  unfold gN at *
  rw [if_pos h1, if_neg h2] at hf
  rw [if_neg h2, gE_sw]
  omega
theorem gN_0 {a b : Int64} (hD : gD a b) (h : gN a b = 0) : td_moves a b = 0 ∧ td_moves b a = 0 := by
  unfold gN at h
  by_cases h1 : td_moves a b = 0
  · rw [if_pos h1] at h
    by_cases h2 : td_moves b a = 0
    · exact ⟨h1, h2⟩
    · rw [if_neg h2] at h
      have := gE_pos (gD_sw hD) h2
      rw [gE_sw] at this; omega
  · rw [if_neg h1] at h
    have := gE_pos hD h1
    omega
theorem gV_over {a b : Int64} (h1 : td_moves a b = 0) (h2 : td_moves b a = 0) : ∀ f, gV f a b = gL a b
  | 0 => rfl
  | f + 1 => by rw [gV_s, if_pos h1, if_pos h2]
theorem gV_st : ∀ f f' a b, gD a b → gN a b ≤ f → gN a b ≤ f' → gV f a b = gV f' a b
  | 0, f', a, b, hD, h, h' => by
    obtain ⟨h1, h2⟩ := gN_0 hD (by omega)
    rw [gV_over h1 h2, gV_over h1 h2]
  | f + 1, 0, a, b, hD, h, h' => by
    obtain ⟨h1, h2⟩ := gN_0 hD (by omega)
    rw [gV_over h1 h2, gV_over h1 h2]
  | f + 1, f' + 1, a, b, hD, h, h' => by
    rw [gV_s, gV_s]
    by_cases h1 : td_moves a b = 0
    · rw [if_pos h1, if_pos h1]
      by_cases h2 : td_moves b a = 0
      · rw [if_pos h2, if_pos h2]
      · rw [if_neg h2, if_neg h2, gV_st f f' b a (gD_sw hD) (gN_pass h1 h2 h) (gN_pass h1 h2 h')]
    · rw [if_neg h1, if_neg h1]
      refine foldl_cg _ _ (fun s hs x => ?_)
      have hb := (td_sq_mem hs).2
      rw [gV_st f f' _ _ (g_move hD hb).2.2.2.1 (gN_step hD hb h) (gN_step hD hb h')]
