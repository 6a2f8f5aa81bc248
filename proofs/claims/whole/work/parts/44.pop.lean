/-! Long.bitCount counts the bits -/
def td_uN (x : Int64) : Nat := x.toBitVec.toNat
theorem td_uN_lt (x : Int64) : td_uN x < 2 ^ 64 := x.toBitVec.isLt
theorem td_uN_bl (x : Int64) (i : Nat) : bl x i = (td_uN x).testBit i := rfl
theorem td_uN_add {x y : Int64} (h : td_uN x + td_uN y < 2 ^ 64) : td_uN (x + y) = td_uN x + td_uN y := by
  unfold td_uN at *
  rw [Int64.toBitVec_add, BitVec.toNat_add, Nat.mod_eq_of_lt h]
theorem td_uN_sub {x y : Int64} (h : td_uN y ≤ td_uN x) : td_uN (x - y) = td_uN x - td_uN y := by
  unfold td_uN at *
  rw [Int64.toBitVec_sub, BitVec.toNat_sub_of_le (BitVec.le_def.mpr h)]
theorem td_uN_and (x y : Int64) : td_uN (x &&& y) = td_uN x &&& td_uN y := by
  unfold td_uN; rw [Int64.toBitVec_and, BitVec.toNat_and]
theorem td_uN_shr (x : Int64) {k : Nat} (hk : k < 64) : td_uN (td_lushr x (nI k)) = td_uN x / 2 ^ k := by
  unfold td_uN; rw [td_ushr_bv x hk, BitVec.toNat_ushiftRight, Nat.shiftRight_eq_div_pow]
theorem td_and_sp {u v m k : Nat} (hu : u < 256) (hm : m < 256) : (u + 256 * v) &&& (m + 256 * k) = (u &&& m) + 256 * (v &&& k) := by
  have hum : u &&& m < 256 := Nat.and_lt_two_pow u (n := 8) hm
  apply Nat.eq_of_testBit_eq
  intro i
  have h1 := Nat.testBit_two_pow_mul_add v (b := u) (i := 8) hu i
  have h2 := Nat.testBit_two_pow_mul_add k (b := m) (i := 8) hm i
  have h3 := Nat.testBit_two_pow_mul_add (v &&& k) (b := u &&& m) (i := 8) hum i
  rw [show u + 256 * v = 2 ^ 8 * v + u by omega, show m + 256 * k = 2 ^ 8 * k + m by omega, show (u &&& m) + 256 * (v &&& k) = 2 ^ 8 * (v &&& k) + (u &&& m) by omega, Nat.testBit_and, h1, h2, h3]
  by_cases hi : i < 8
  · rw [if_pos hi, if_pos hi, if_pos hi, Nat.testBit_and]
  · rw [if_neg hi, if_neg hi, if_neg hi, Nat.testBit_and]
def pc_R : Nat → Nat
  | 0 => 0
  | n + 1 => 1 + 256 * pc_R n
def pc_a (n X : Nat) : Nat := X - (X / 2 &&& 85 * pc_R n)
def pc_b (n X : Nat) : Nat := (pc_a n X &&& 51 * pc_R n) + (pc_a n X / 4 &&& 51 * pc_R n)
def pc_c (n X : Nat) : Nat := (pc_b n X + pc_b n X / 16) &&& 15 * pc_R n
def pc_a8 (l : Nat) : Nat := l - (l / 2 &&& 85)
def pc_b8 (l : Nat) : Nat := (pc_a8 l &&& 51) + (pc_a8 l / 4 &&& 51)
def pc_c8 (l : Nat) : Nat := (pc_b8 l + pc_b8 l / 16) &&& 15
def pc_n8 (l : Nat) : Nat := td_cn (fun i => l.testBit i) 8
theorem pc_tab : ((List.range 256).all fun l => decide ((l / 2 &&& 85) ≤ l) && decide (pc_a8 l < 256) && decide (pc_b8 l % 16 ≤ 4) && decide (pc_b8 l ≤ 68) && decide (pc_c8 l = pc_n8 l)) = true := by decide +kernel
theorem pc_tab2 : ((List.range 128).all fun l => decide ((l + 128 &&& 85) = (l &&& 85))) = true := by decide +kernel
theorem pc_tab3 : ((List.range 64).all fun l => (List.range 4).all fun t => decide ((l + 64 * t &&& 51) = (l &&& 51))) = true := by decide +kernel
theorem pc_tab4 : ((List.range 80).all fun l => (List.range 5).all fun t => decide ((l + 16 * t &&& 15) = (l &&& 15))) = true := by decide +kernel
theorem pc_t {l : Nat} (h : l < 256) : (l / 2 &&& 85) ≤ l ∧ pc_a8 l < 256 ∧ pc_b8 l % 16 ≤ 4 ∧ pc_b8 l ≤ 68 ∧ pc_c8 l = pc_n8 l := by
  have := List.all_eq_true.mp pc_tab l (List.mem_range.mpr h)
  simp only [Bool.and_eq_true, decide_eq_true_eq, and_assoc] at this
  exact this
theorem pc_a_s (n X : Nat) : pc_a (n + 1) X = pc_a8 (X % 256) + 256 * pc_a n (X / 256) ∧ (X / 2 &&& 85 * pc_R (n + 1)) ≤ X ∧ (X / 2 &&& 85 * pc_R (n + 1)) = (X % 256 / 2 &&& 85) + 256 * (X / 256 / 2 &&& 85 * pc_R n) ∧ (X / 256 / 2 &&& 85 * pc_R n) ≤ X / 256 := by
  have hl : X % 256 < 256 := Nat.mod_lt _ (by decide)
  have e0 : X / 2 = (X % 256 / 2 + 128 * (X / 256 % 2)) + 256 * (X / 256 / 2) := by omega
  have e1 : 85 * pc_R (n + 1) = 85 + 256 * (85 * pc_R n) := by show 85 * (1 + 256 * pc_R n) = _; rw [Nat.mul_add]; omega
  have e2 : (X % 256 / 2 + 128 * (X / 256 % 2)) &&& 85 = (X % 256 / 2 &&& 85) := by
    rcases (show X / 256 % 2 = 0 ∨ X / 256 % 2 = 1 by omega) with h | h
    · rw [h, Nat.mul_zero, Nat.add_zero]
    · rw [h, Nat.mul_one]
      exact of_decide_eq_true (List.all_eq_true.mp pc_tab2 (X % 256 / 2) (List.mem_range.mpr (by omega)))
  have e3 : X / 2 &&& 85 * pc_R (n + 1) = (X % 256 / 2 &&& 85) + 256 * (X / 256 / 2 &&& 85 * pc_R n) := by
    rw [e0, e1, td_and_sp (by omega) (by decide), e2]
  have h1 := (pc_t hl).1
  have h2 : (X / 256 / 2 &&& 85 * pc_R n) ≤ X / 256 := Nat.le_trans Nat.and_le_left (Nat.div_le_self _ _)
  refine ⟨?_, ?_, e3, h2⟩
  · unfold pc_a pc_a8
    rw [e3]
    generalize X % 256 / 2 &&& 85 = p at h1 ⊢
    generalize (X / 256 / 2 &&& 85 * pc_R n) = q at h2 ⊢
    omega
  · rw [e3]; omega
theorem pc_b_s (n X : Nat) : pc_b (n + 1) X = pc_b8 (X % 256) + 256 * pc_b n (X / 256) := by
  have hl : X % 256 < 256 := Nat.mod_lt _ (by decide)
  obtain ⟨ha, -⟩ := pc_a_s n X
  have h8 := (pc_t hl).2.1
  unfold pc_b pc_b8
  rw [ha]
  generalize pc_a8 (X % 256) = u at h8 ⊢
  generalize pc_a n (X / 256) = v
  have e1 : 51 * pc_R (n + 1) = 51 + 256 * (51 * pc_R n) := by show 51 * (1 + 256 * pc_R n) = _; rw [Nat.mul_add]; omega
  have e2 : (u + 256 * v) / 4 = (u / 4 + 64 * (v % 4)) + 256 * (v / 4) := by omega
  have e3 : (u / 4 + 64 * (v % 4)) &&& 51 = (u / 4 &&& 51) := by
    have h := List.all_eq_true.mp pc_tab3 (u / 4) (List.mem_range.mpr (by omega))
    exact of_decide_eq_true (List.all_eq_true.mp h (v % 4) (List.mem_range.mpr (Nat.mod_lt _ (by decide))))
  rw [e1, td_and_sp h8 (by decide), e2, td_and_sp (by omega) (by decide), e3, Nat.mul_add]
  omega
theorem pc_b_bd : ∀ n X, pc_b n X % 16 ≤ 4 ∧ pc_b n X ≤ 68 * pc_R n
  | 0, X => by unfold pc_b pc_R; simp
  | n + 1, X => by
    have hl : X % 256 < 256 := Nat.mod_lt _ (by decide)
    obtain ⟨-, -, t1, t2, -⟩ := pc_t hl
    obtain ⟨-, i2⟩ := pc_b_bd n (X / 256)
    rw [pc_b_s]
    refine ⟨by omega, ?_⟩
    show _ ≤ 68 * (1 + 256 * pc_R n)
    rw [Nat.mul_add]; omega
theorem pc_c_s (n X : Nat) : pc_c (n + 1) X = pc_n8 (X % 256) + 256 * pc_c n (X / 256) := by
  have hl : X % 256 < 256 := Nat.mod_lt _ (by decide)
  obtain ⟨-, -, t1, t2, t3⟩ := pc_t hl
  obtain ⟨i1, -⟩ := pc_b_bd n (X / 256)
  rw [← t3]
  unfold pc_c pc_c8
  rw [pc_b_s]
  generalize pc_b8 (X % 256) = u at t1 t2 ⊢
  generalize pc_b n (X / 256) = v at i1 ⊢
  have e1 : 15 * pc_R (n + 1) = 15 + 256 * (15 * pc_R n) := by show 15 * (1 + 256 * pc_R n) = _; rw [Nat.mul_add]; omega
  have e2 : u + 256 * v + (u + 256 * v) / 16 = (u + u / 16 + 16 * (v % 16)) + 256 * (v + v / 16) := by omega
  have e3 : (u + u / 16 + 16 * (v % 16)) &&& 15 = (u + u / 16) &&& 15 := by
    have h := List.all_eq_true.mp pc_tab4 (u + u / 16) (List.mem_range.mpr (by omega))
    exact of_decide_eq_true (List.all_eq_true.mp h (v % 16) (List.mem_range.mpr (by omega)))
  rw [e1, e2, td_and_sp (by omega) (by decide), e3]
theorem td_cn_app (P : Nat → Bool) (m : Nat) : ∀ n, td_cn P (m + n) = td_cn P m + td_cn (fun i => P (m + i)) n
  | 0 => rfl
  | n + 1 => by rw [← Nat.add_assoc, td_cn_s, td_cn_app P m n, td_cn_s, Nat.add_assoc]
theorem pc_cnt : ∀ n X, td_cn (fun i => X.testBit i) (8 * (n + 1)) = pc_n8 (X % 256) + td_cn (fun i => (X / 256).testBit i) (8 * n) := by
  intro n X
  rw [show 8 * (n + 1) = 8 + 8 * n by omega, td_cn_app]
  congr 1
  · refine td_cn_cg 8 (fun i hi => ?_)
    rw [show (256 : Nat) = 2 ^ 8 from rfl, Nat.testBit_mod_two_pow, decide_eq_true hi, Bool.true_and]
  · refine td_cn_cg _ (fun i _ => ?_)
    rw [show (256 : Nat) = 2 ^ 8 from rfl, Nat.testBit_div_two_pow, Nat.add_comm]
theorem pc_n8_le (l : Nat) : pc_n8 l ≤ 8 := td_cn_le _ 8
theorem td_R8 : pc_R 8 = 72340172838076673 := by decide +kernel
theorem td_pop_cn (x : Int64) : td_pop x = nI (td_cn (bl x) 64) := by
  have hX := td_uN_lt x
  have k1 : td_uN 6148914691236517205 = 85 * pc_R 8 := by rw [td_R8]; rfl
  have k2 : td_uN 3689348814741910323 = 51 * pc_R 8 := by rw [td_R8]; rfl
  have k3 : td_uN 1085102592571150095 = 15 * pc_R 8 := by rw [td_R8]; rfl
  have hcn : td_cn (bl x) 64 = td_cn (fun i => (td_uN x).testBit i) (8 * 8) := rfl
  rw [hcn]
  unfold td_pop
  dsimp only
  -- a
  have ea : td_uN (x - (td_lushr x 1 &&& 6148914691236517205)) = pc_a 8 (td_uN x) := by
    have e : td_uN (td_lushr x 1 &&& 6148914691236517205) = td_uN x / 2 &&& 85 * pc_R 8 := by
      rw [td_uN_and, k1, show td_uN (td_lushr x 1) = td_uN x / 2 from td_uN_shr x (k := 1) (by decide)]
    rw [td_uN_sub (by rw [e]; exact (pc_a_s 7 (td_uN x)).2.1), e]
    rfl
  generalize x - (td_lushr x 1 &&& 6148914691236517205) = a at ea ⊢
  have hb8 := pc_b_bd 8 (td_uN x)
  have eb : td_uN ((a &&& 3689348814741910323) + (td_lushr a 2 &&& 3689348814741910323)) = pc_b 8 (td_uN x) := by
    have e : td_uN (td_lushr a 2 &&& 3689348814741910323) = pc_a 8 (td_uN x) / 4 &&& 51 * pc_R 8 := by
      rw [td_uN_and, k2, show td_uN (td_lushr a 2) = td_uN a / 4 from td_uN_shr a (k := 2) (by decide), ea]
    have e2 : td_uN (a &&& 3689348814741910323) = pc_a 8 (td_uN x) &&& 51 * pc_R 8 := by rw [td_uN_and, k2, ea]
    have hs : td_uN (a &&& 3689348814741910323) + td_uN (td_lushr a 2 &&& 3689348814741910323) = pc_b 8 (td_uN x) := by rw [e, e2]; rfl
    rw [td_uN_add (by rw [hs]; have := hb8.2; rw [td_R8] at this; omega), hs]
  generalize (a &&& 3689348814741910323) + (td_lushr a 2 &&& 3689348814741910323) = b at eb ⊢
  have ec : td_uN ((b + td_lushr b 4) &&& 1085102592571150095) = pc_c 8 (td_uN x) := by
    have e : td_uN (td_lushr b 4) = pc_b 8 (td_uN x) / 16 := by rw [← eb]; exact td_uN_shr b (k := 4) (by decide)
    have hs : td_uN b + td_uN (td_lushr b 4) = pc_b 8 (td_uN x) + pc_b 8 (td_uN x) / 16 := by rw [e, eb]
    rw [td_uN_and, k3, td_uN_add (by rw [hs]; have := hb8.2; rw [td_R8] at this; omega), hs]
    rfl
  generalize (b + td_lushr b 4) &&& 1085102592571150095 = c at ec ⊢
  clear ea eb hb8 k1 k2 k3 hcn hX
  -- the eight bytes
  rw [pc_c_s 7, pc_c_s 6, pc_c_s 5, pc_c_s 4, pc_c_s 3, pc_c_s 2, pc_c_s 1, pc_c_s 0] at ec
  rw [pc_cnt 7, pc_cnt 6, pc_cnt 5, pc_cnt 4, pc_cnt 3, pc_cnt 2, pc_cnt 1, pc_cnt 0]
  have h0 := pc_n8_le (td_uN x % 256)
  have h1 := pc_n8_le (td_uN x / 256 % 256)
  have h2 := pc_n8_le (td_uN x / 256 / 256 % 256)
  have h3 := pc_n8_le (td_uN x / 256 / 256 / 256 % 256)
  have h4 := pc_n8_le (td_uN x / 256 / 256 / 256 / 256 % 256)
  have h5 := pc_n8_le (td_uN x / 256 / 256 / 256 / 256 / 256 % 256)
  have h6 := pc_n8_le (td_uN x / 256 / 256 / 256 / 256 / 256 / 256 % 256)
  have h7 := pc_n8_le (td_uN x / 256 / 256 / 256 / 256 / 256 / 256 / 256 % 256)
  have hz : pc_c 0 (td_uN x / 256 / 256 / 256 / 256 / 256 / 256 / 256 / 256) = 0 := by unfold pc_c pc_R; simp
  rw [hz] at ec
  have hz2 : td_cn (fun i => (td_uN x / 256 / 256 / 256 / 256 / 256 / 256 / 256 / 256).testBit i) (8 * 0) = 0 := rfl
  rw [hz2]
  generalize pc_n8 (td_uN x % 256) = p0 at ec h0 ⊢
  generalize pc_n8 (td_uN x / 256 % 256) = p1 at ec h1 ⊢
  generalize pc_n8 (td_uN x / 256 / 256 % 256) = p2 at ec h2 ⊢
  generalize pc_n8 (td_uN x / 256 / 256 / 256 % 256) = p3 at ec h3 ⊢
  generalize pc_n8 (td_uN x / 256 / 256 / 256 / 256 % 256) = p4 at ec h4 ⊢
  generalize pc_n8 (td_uN x / 256 / 256 / 256 / 256 / 256 % 256) = p5 at ec h5 ⊢
  generalize pc_n8 (td_uN x / 256 / 256 / 256 / 256 / 256 / 256 % 256) = p6 at ec h6 ⊢
  generalize pc_n8 (td_uN x / 256 / 256 / 256 / 256 / 256 / 256 / 256 % 256) = p7 at ec h7 ⊢
  clear hz hz2
  have q1 : td_uN (td_lushr c 8) = p1 + 256 * (p2 + 256 * (p3 + 256 * (p4 + 256 * (p5 + 256 * (p6 + 256 * p7))))) := by
    rw [show td_uN (td_lushr c 8) = td_uN c / 2 ^ 8 from td_uN_shr c (k := 8) (by decide), ec]; omega
  have ed : td_uN (c + td_lushr c 8) = (p0 + p1) + 256 * ((p1 + p2) + 256 * ((p2 + p3) + 256 * ((p3 + p4) + 256 * ((p4 + p5) + 256 * ((p5 + p6) + 256 * ((p6 + p7) + 256 * p7)))))) := by
    rw [td_uN_add (by rw [q1, ec]; omega), q1, ec]; omega
  generalize c + td_lushr c 8 = d at ed ⊢
  have q2 : td_uN (td_lushr d 16) = (p2 + p3) + 256 * ((p3 + p4) + 256 * ((p4 + p5) + 256 * ((p5 + p6) + 256 * ((p6 + p7) + 256 * p7)))) := by
    rw [show td_uN (td_lushr d 16) = td_uN d / 2 ^ 16 from td_uN_shr d (k := 16) (by decide), ed]; omega
  have ee : td_uN (d + td_lushr d 16) = (p0 + p1 + p2 + p3) + 256 * ((p1 + p2 + p3 + p4) + 256 * ((p2 + p3 + p4 + p5) + 256 * ((p3 + p4 + p5 + p6) + 256 * ((p4 + p5 + p6 + p7) + 256 * ((p5 + p6 + p7) + 256 * ((p6 + p7) + 256 * p7)))))) := by
    rw [td_uN_add (by rw [q2, ed]; omega), q2, ed]; omega
  generalize d + td_lushr d 16 = e at ee ⊢
  have q3 : td_uN (td_lushr e 32) = (p4 + p5 + p6 + p7) + 256 * ((p5 + p6 + p7) + 256 * ((p6 + p7) + 256 * p7)) := by
    rw [show td_uN (td_lushr e 32) = td_uN e / 2 ^ 32 from td_uN_shr e (k := 32) (by decide), ee]; omega
  have ef : td_uN (e + td_lushr e 32) % 128 = (p0 + p1 + p2 + p3 + p4 + p5 + p6 + p7) := by
    rw [td_uN_add (by rw [q3, ee]; omega), q3, ee]; omega
  generalize e + td_lushr e 32 = f at ef ⊢
  have h32 : f.toInt32.toBitVec.toNat = td_uN f % 2 ^ 32 := by
    rw [Int64.toBitVec_toInt32, BitVec.signExtend_eq_setWidth_of_le _ (by decide), BitVec.toNat_setWidth]
    rfl
  rw [pk_and f.toInt32 (m := 127) 7 rfl, h32]
  congr 1
  omega
