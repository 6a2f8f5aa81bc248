/-! rows of ours beside the kit's: joins, loops, a long compare with its jump -/
def td_lshl (x : Int64) (k : Int32) : Int64 := x <<< (k.toInt64 &&& 63)
def td_lushr (x : Int64) (k : Int32) : Int64 := (x.toUInt64 >>> (k.toInt64.toUInt64 &&& Int64.toUInt64 63)).toInt64
def td_lshr (x : Int64) (k : Int32) : Int64 := x >>> (k.toInt64 &&& 63)
theorem td_cmp0 (x y : Int64) : lg_cmp x y = 0 ↔ x = y := by
  unfold lg_cmp
  by_cases h : x > y
  · simp only [h, if_true]
    constructor
    · intro z; exact absurd z (by decide)
    · intro z; subst z; exact absurd h (by simp [Int64.lt_irrefl])
  · simp only [h, if_false]
    by_cases h2 : x = y
    · simp [h2]
    · simp only [h2, if_false, iff_false]
      decide
section TD
variable {p : Program} {l : Launch} {e : Env} {R : Room} {s : State} {m : MethodId} {args : Array Value} {below : List Frame} {meth : Method} {c : Code} {H : Heap} {locs : List Loc} {cells slots : Nat} {Q : State → Prop}
variable {cc : ByteArray} {pc : Nat} {ls : Array Slot} {rest : List Value}
/-- the value on top, said otherwise -/
theorem td_i {x y : Int32} (h : x = y) (k : W p l e R s m args below meth c H locs cells slots Q (F0 m pc ls (.int y :: rest))) : W p l e R s m args below meth c H locs cells slots Q (F0 m pc ls (.int x :: rest)) := by
  subst h; exact k
theorem td_l {x y : Int64} (h : x = y) (k : W p l e R s m args below meth c H locs cells slots Q (F0 m pc ls (.long y :: rest))) : W p l e R s m args below meth c H locs cells slots Q (F0 m pc ls (.long x :: rest)) := by
  subst h; exact k
/-- lcmp; ifeq -/
theorem td_leq (hexec : p.tables.exec = Jvm.exec) (hb : c.code = cc) {x y : Int64} {off : Int} {tgt : Nat} (d1 : decode cc pc = .ok (.lcmp, 1)) (d2 : decode cc (pc + 1) = .ok (.ifCond .eq off, 3)) (ht : ((pc + 1 : Nat) : Int) + off = (tgt : Int))
    (kt : x = y → W p l e R s m args below meth c H locs cells slots Q (F0 m tgt ls rest)) (kf : ¬ x = y → W p l e R s m args below meth c H locs cells slots Q (F0 m (pc + 4) ls rest)) : W p l e R s m args below meth c H locs cells slots Q (F0 m pc ls (.long y :: .long x :: rest)) := by
  refine W.lcmp hexec hb d1 ?_
  exact lv_if_eq hexec hb d2 ht (fun h => kt ((td_cmp0 x y).mp h)) (fun h => kf (fun z => h ((td_cmp0 x y).mpr z)))
/-- lcmp; ifne -/
theorem td_lne (hexec : p.tables.exec = Jvm.exec) (hb : c.code = cc) {x y : Int64} {off : Int} {tgt : Nat} (d1 : decode cc pc = .ok (.lcmp, 1)) (d2 : decode cc (pc + 1) = .ok (.ifCond .ne off, 3)) (ht : ((pc + 1 : Nat) : Int) + off = (tgt : Int))
    (kt : ¬ x = y → W p l e R s m args below meth c H locs cells slots Q (F0 m tgt ls rest)) (kf : x = y → W p l e R s m args below meth c H locs cells slots Q (F0 m (pc + 4) ls rest)) : W p l e R s m args below meth c H locs cells slots Q (F0 m pc ls (.long y :: .long x :: rest)) := by
  refine W.lcmp hexec hb d1 ?_
  exact lv_if_ne hexec hb d2 ht (fun h => kt (fun z => h ((td_cmp0 x y).mpr z))) (fun h => kf ((td_cmp0 x y).mp h))
/-- two roads that meet at pcJ with an int, a long, nothing on top, the locals as they are -/
theorem td_joini {g : JFrame} (pcJ : Nat) (lsJ : Array Slot) (restJ : List Value) (C : Int32 → Prop) (k : ∀ x, C x → W p l e R s m args below meth c H locs cells slots Q (F0 m pcJ lsJ (.int x :: restJ)))
    (h : (∀ x, C x → W p l e R s m args below meth c H locs cells slots Q (F0 m pcJ lsJ (.int x :: restJ))) → W p l e R s m args below meth c H locs cells slots Q g) : W p l e R s m args below meth c H locs cells slots Q g := h k
theorem td_joinl {g : JFrame} (pcJ : Nat) (lsJ : Array Slot) (restJ : List Value) (C : Int64 → Prop) (k : ∀ x, C x → W p l e R s m args below meth c H locs cells slots Q (F0 m pcJ lsJ (.long x :: restJ)))
    (h : (∀ x, C x → W p l e R s m args below meth c H locs cells slots Q (F0 m pcJ lsJ (.long x :: restJ))) → W p l e R s m args below meth c H locs cells slots Q g) : W p l e R s m args below meth c H locs cells slots Q g := h k
theorem td_joinu {g : JFrame} (pcJ : Nat) (lsJ : Array Slot) (restJ : List Value) (C : Prop) (k : C → W p l e R s m args below meth c H locs cells slots Q (F0 m pcJ lsJ restJ))
    (h : (C → W p l e R s m args below meth c H locs cells slots Q (F0 m pcJ lsJ restJ)) → W p l e R s m args below meth c H locs cells slots Q g) : W p l e R s m args below meth c H locs cells slots Q g := h k
/-- .. with other locals -/
theorem td_joins {g : JFrame} (pcJ : Nat) (restJ : List Value) (C : Array Slot → Prop) (k : ∀ ls', C ls' → W p l e R s m args below meth c H locs cells slots Q (F0 m pcJ ls' restJ))
    (h : (∀ ls', C ls' → W p l e R s m args below meth c H locs cells slots Q (F0 m pcJ ls' restJ)) → W p l e R s m args below meth c H locs cells slots Q g) : W p l e R s m args below meth c H locs cells slots Q g := h k
/-- .. with another heap, other locals and stack; x : σ says what of it is known -/
theorem td_joinH {g : JFrame} {σ : Type} (pcJ : Nat) (C : σ → Heap → List Loc → Array Slot → List Value → Prop) (k : ∀ x H' locs' ls' st', C x H' locs' ls' st' → W p l e R s m args below meth c H' locs' cells slots Q (F0 m pcJ ls' st'))
    (h : (∀ x H' locs' ls' st', C x H' locs' ls' st' → W p l e R s m args below meth c H' locs' cells slots Q (F0 m pcJ ls' st')) → W p l e R s m args below meth c H locs cells slots Q g) : W p l e R s m args below meth c H locs cells slots Q g := h k
/-- a loop whose body leaves the heap: by a measure that falls -/
theorem td_loop {σ : Type} (pcJ : Nat) (stJ : List Value) (μ : σ → Nat) (C : σ → Array Slot → Prop)
    (hs : ∀ x ls', C x ls' → (∀ y ls'', μ y < μ x → C y ls'' → W p l e R s m args below meth c H locs cells slots Q (F0 m pcJ ls'' stJ)) → W p l e R s m args below meth c H locs cells slots Q (F0 m pcJ ls' stJ))
    (x : σ) (h : C x ls) : W p l e R s m args below meth c H locs cells slots Q (F0 m pcJ ls stJ) := by
  have key : ∀ n x ls', μ x < n → C x ls' → W p l e R s m args below meth c H locs cells slots Q (F0 m pcJ ls' stJ) := by
    intro n
    induction n with
    | zero => intro x ls' h; omega
    | succ n ih => intro x ls' hn hC; exact hs x ls' hC (fun y ls'' hy hC' => ih y ls'' (by omega) hC')
  exact key (μ x + 1) x ls (by omega) h
/-- a loop whose body writes -/
theorem td_loopH {σ : Type} (pcJ : Nat) (stJ : List Value) (μ : σ → Nat) (C : σ → Heap → List Loc → Array Slot → Prop)
    (hs : ∀ x H' locs' ls', C x H' locs' ls' → (∀ y H'' locs'' ls'', μ y < μ x → C y H'' locs'' ls'' → W p l e R s m args below meth c H'' locs'' cells slots Q (F0 m pcJ ls'' stJ)) → W p l e R s m args below meth c H' locs' cells slots Q (F0 m pcJ ls' stJ))
    (x : σ) (h : C x H locs ls) : W p l e R s m args below meth c H locs cells slots Q (F0 m pcJ ls stJ) := by
  have key : ∀ n x H' locs' ls', μ x < n → C x H' locs' ls' → W p l e R s m args below meth c H' locs' cells slots Q (F0 m pcJ ls' stJ) := by
    intro n
    induction n with
    | zero => intro x H' locs' ls' h; omega
    | succ n ih => intro x H' locs' ls' hn hC; exact hs x H' locs' ls' hC (fun y H'' locs'' ls'' hy hC' => ih y H'' locs'' ls'' (by omega) hC')
  exact key (μ x + 1) x H locs ls (by omega) h
end TD
