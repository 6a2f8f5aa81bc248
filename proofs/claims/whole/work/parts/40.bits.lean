/-! bits of a long -/
def bl (x : Int64) (i : Nat) : Bool := x.toBitVec.getLsbD i
theorem bl_ext {x y : Int64} (h : ∀ i, i < 64 → bl x i = bl y i) : x = y := Int64.toBitVec_inj.mp (BitVec.eq_of_getLsbD_eq fun i hi => h i hi)
theorem bl_ge {x : Int64} {i : Nat} (h : 64 ≤ i) : bl x i = false := BitVec.getLsbD_of_ge _ _ h
theorem bl_or (x y : Int64) (i : Nat) : bl (x ||| y) i = (bl x i || bl y i) := by
  unfold bl; rw [Int64.toBitVec_or, BitVec.getLsbD_or]
theorem bl_and (x y : Int64) (i : Nat) : bl (x &&& y) i = (bl x i && bl y i) := by
  unfold bl; rw [Int64.toBitVec_and, BitVec.getLsbD_and]
theorem bl_xor (x y : Int64) (i : Nat) : bl (x ^^^ y) i = (bl x i ^^ bl y i) := by
  unfold bl; rw [Int64.toBitVec_xor, BitVec.getLsbD_xor]
theorem bl_0 (i : Nat) : bl 0 i = false := by
  show (0#64).getLsbD i = false
  simp
theorem bl_m1 {i : Nat} (h : i < 64) : bl (-1) i = true := by
  have ha : (-1 : Int64).toBitVec = BitVec.allOnes 64 := by decide
  unfold bl; rw [ha, BitVec.getLsbD_allOnes]; exact decide_eq_true h
theorem bl_not (x : Int64) {i : Nat} (h : i < 64) : bl (x ^^^ (-1)) i = !bl x i := by
  rw [bl_xor, bl_m1 h, Bool.xor_true]
theorem td_kc : ∀ k, k < 64 → ((nI k).toInt64 &&& 63) = lN k := by decide +kernel
theorem td_ku : ∀ k, k < 64 → ((nI k).toInt64.toUInt64 &&& Int64.toUInt64 63) = UInt64.ofNat k := by decide +kernel
theorem td_ksm : ∀ k, k < 64 → (BitVec.ofNat 64 k).smod 64 = BitVec.ofNat 64 k := by decide +kernel
theorem td_shl_bv (x : Int64) {k : Nat} (hk : k < 64) : (td_lshl x (nI k)).toBitVec = x.toBitVec <<< k := by
  unfold td_lshl
  rw [td_kc k hk, Int64.toBitVec_shiftLeft, show (lN k).toBitVec = BitVec.ofNat 64 k from rfl, td_ksm k hk, BitVec.shiftLeft_eq', BitVec.toNat_ofNat, Nat.mod_eq_of_lt (by omega)]
theorem td_ushr_bv (x : Int64) {k : Nat} (hk : k < 64) : (td_lushr x (nI k)).toBitVec = x.toBitVec >>> k := by
  unfold td_lushr
  rw [td_ku k hk]
  apply BitVec.eq_of_toNat_eq
  show (x.toUInt64 >>> UInt64.ofNat k).toNat = _
  have h1 : (UInt64.ofNat k).toNat = k := by
    show (BitVec.ofNat 64 k).toNat = k
    rw [BitVec.toNat_ofNat, Nat.mod_eq_of_lt (by omega)]
  rw [UInt64.toNat_shiftRight, h1, Nat.mod_eq_of_lt hk, BitVec.toNat_ushiftRight]
  rfl
theorem td_sshr_bv (x : Int64) {k : Nat} (hk : k < 64) : (td_lshr x (nI k)).toBitVec = x.toBitVec.sshiftRight k := by
  unfold td_lshr
  rw [td_kc k hk, Int64.toBitVec_shiftRight, show (lN k).toBitVec = BitVec.ofNat 64 k from rfl, td_ksm k hk]
  show x.toBitVec.sshiftRight (BitVec.ofNat 64 k).toNat = _
  rw [BitVec.toNat_ofNat, Nat.mod_eq_of_lt (by omega)]
theorem bl_shl (x : Int64) {k : Nat} (hk : k < 64) (i : Nat) : bl (td_lshl x (nI k)) i = (decide (i < 64) && (decide (k ≤ i) && bl x (i - k))) := by
  unfold bl
  rw [td_shl_bv x hk, BitVec.getLsbD_shiftLeft]
  by_cases h1 : i < 64 <;> by_cases h2 : i < k
  · simp [h1, h2, show ¬ k ≤ i by omega]
  · simp [h1, h2, show k ≤ i by omega]
  · simp [h1]
  · simp [h1]
theorem bl_ushr (x : Int64) {k : Nat} (hk : k < 64) (i : Nat) : bl (td_lushr x (nI k)) i = bl x (k + i) := by
  unfold bl
  rw [td_ushr_bv x hk, BitVec.getLsbD_ushiftRight]
theorem bl_one {s : Nat} (hs : s < 64) (i : Nat) : bl (td_lshl 1 (nI s)) i = decide (i = s) := by
  rw [bl_shl 1 hs]
  have h1 : ∀ j, bl 1 j = decide (j = 0) := fun j => by
    show (1#64).getLsbD j = _
    simp
  rw [h1]
  by_cases h : i = s
  · subst h; simp [hs]
  · by_cases h2 : s ≤ i
    · simp [h, show ¬ i - s = 0 by omega]
    · simp [h, h2]
theorem td_bv_bl (z : Int64) {i : Nat} (hi : i < 64) : td_bv z i = bl z i := by
  unfold td_bv bl
  have e : ((td_lshr z (nI i) &&& 1) = 1) ↔ z.toBitVec.getLsbD i = true := by
    rw [← Int64.toBitVec_inj, Int64.toBitVec_and, td_sshr_bv z hi]
    show z.toBitVec.sshiftRight i &&& 1#64 = 1#64 ↔ _
    constructor
    · intro h
      have t := congrArg (fun x => x.getLsbD 0) h
      simp only [BitVec.getLsbD_and, BitVec.getLsbD_sshiftRight] at t
      simpa [hi] using t
    · intro h
      apply BitVec.eq_of_getLsbD_eq
      intro j hj
      simp only [BitVec.getLsbD_and, BitVec.getLsbD_sshiftRight]
      by_cases h0 : j = 0
      · subst h0; simp [hi, h]
      · simp [h0]
  by_cases h : z.toBitVec.getLsbD i = true
  · rw [h]; exact decide_eq_true (e.mpr h)
  · have h2 : z.toBitVec.getLsbD i = false := by cases hh : z.toBitVec.getLsbD i; rfl; exact absurd hh h
    rw [h2]; exact decide_eq_false (fun z9 => h (e.mp z9))
theorem bl_eq0 (x : Int64) : x = 0 ↔ ∀ i, i < 64 → bl x i = false := by
  constructor
  · intro h i _; rw [h]; exact bl_0 i
  · intro h; exact bl_ext fun i hi => by rw [h i hi, bl_0]
theorem bl_ne0 (x : Int64) : ¬ x = 0 ↔ ∃ i, i < 64 ∧ bl x i = true := by
  constructor
  · intro h
    by_cases hc : ∃ i, i < 64 ∧ bl x i = true
    · exact hc
    · exact absurd ((bl_eq0 x).mpr fun i hi => by cases hb : bl x i; rfl; exact absurd ⟨i, hi, hb⟩ hc) h
  · rintro ⟨i, hi, hb⟩ h
    rw [(bl_eq0 x).mp h i hi] at hb
    cases hb
/-- the lowest bit alone -/
theorem bl_neg (x : Int64) {i : Nat} (hi : i < 64) : bl (-x) i = (bl x i ^^ decide (∃ j, j < i ∧ bl x j = true)) := by
  unfold bl
  rw [Int64.toBitVec_neg, BitVec.getLsbD_neg]
  simp [hi]
theorem bl_low (x : Int64) {i : Nat} (hi : i < 64) : bl (td_low x) i = true ↔ (bl x i = true ∧ ∀ j, j < i → bl x j = false) := by
  unfold td_low
  rw [bl_and, bl_neg x hi]
  cases hb : bl x i
  · simp
  · by_cases hc : ∃ j, j < i ∧ bl x j = true
    · simp only [hc, decide_true, Bool.xor_self, Bool.and_false, true_and]
      constructor
      · intro h; cases h
      · intro h; obtain ⟨j, h1, h2⟩ := hc; rw [h j h1] at h2; cases h2
    · simp only [hc, decide_false, Bool.xor_false, Bool.and_self, true_and, true_iff]
      intro j hj
      cases hbj : bl x j
      · rfl
      · exact absurd ⟨j, hj, hbj⟩ hc
/-- a long that isn't 0 has a lowest bit s: td_low is that bit, and taking it away clears it -/
theorem td_lowest (x : Int64) (h : ¬ x = 0) : ∃ s, s < 64 ∧ bl x s = true ∧ (∀ j, j < s → bl x j = false) ∧ td_low x = td_lshl 1 (nI s) ∧ ∀ i, bl (x ^^^ td_low x) i = (bl x i && !decide (i = s)) := by
  obtain ⟨i, hi, hb⟩ := (bl_ne0 x).mp h
  obtain ⟨s, ⟨hs, hbs⟩, hmin⟩ := pk_least (fun j => j < 64 ∧ bl x j = true) ⟨i, hi, hb⟩
  have hlow : ∀ j, j < s → bl x j = false := fun j hj => by
    cases hbj : bl x j
    · rfl
    · exact absurd ⟨by omega, hbj⟩ (hmin j hj)
  have e1 : td_low x = td_lshl 1 (nI s) := bl_ext fun j hj => by
    rw [bl_one hs]
    by_cases hjs : j = s
    · subst hjs
      rw [decide_eq_true rfl]
      exact (bl_low x hj).mpr ⟨hbs, hlow⟩
    · rw [decide_eq_false hjs]
      cases hbl : bl (td_low x) j
      · rfl
      · obtain ⟨h1, h2⟩ := (bl_low x hj).mp hbl
        by_cases hlt : j < s
        · rw [hlow j hlt] at h1; cases h1
        · rw [h2 s (by omega)] at hbs; cases hbs
  refine ⟨s, hs, hbs, hlow, e1, fun j => ?_⟩
  rw [bl_xor, e1, bl_one hs]
  by_cases hjs : j = s
  · subst hjs; simp [hbs]
  · simp [hjs]
