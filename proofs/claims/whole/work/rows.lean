section
-- ===== PART A: goes FIRST, ahead of the names: the tables' words, and 'selects' of the private methods out of them =====
/-- a private method of a class that the tables say can be made, by its rows of tables_1 -/
def lw_okq (q : MethodName × Nat) : Prop := (q.1.cls ≠ "java/lang/invoke/MethodHandle" ∧ q.1.cls ≠ "java/lang/invoke/VarHandle") ∧ Cond.instantiable q.1.cls q.2 ∈ tables_1 ∧ Cond.privateMethod q.1 ∈ tables_1 ∧ Cond.instanceMethod q.1 ∈ tables_1
theorem lw_p0 : lw_okq (⟨"TurnedDiscs", "setUp", "(JJI)V"⟩, 7) := ⟨⟨by decide +kernel, by decide +kernel⟩, List.mem_of_getElem? (i := 12) (by decide +kernel), List.mem_of_getElem? (i := 22) (by decide +kernel), List.mem_of_getElem? (i := 23) (by decide +kernel)⟩
theorem lw_p1 : lw_okq (⟨"TurnedDiscs", "discsOf", "(I)J"⟩, 7) := ⟨⟨by decide +kernel, by decide +kernel⟩, List.mem_of_getElem? (i := 12) (by decide +kernel), List.mem_of_getElem? (i := 91) (by decide +kernel), List.mem_of_getElem? (i := 92) (by decide +kernel)⟩
theorem lw_p2 : lw_okq (⟨"java/lang/Throwable", "fillInStackTrace", "(I)Ljava/lang/Throwable;"⟩, 6) := ⟨⟨by decide +kernel, by decide +kernel⟩, List.mem_of_getElem? (i := 150) (by decide +kernel), List.mem_of_getElem? (i := 148) (by decide +kernel), List.mem_of_getElem? (i := 149) (by decide +kernel)⟩
theorem lw_p3 : lw_okq (⟨"TurnedDiscs", "empty", "()J"⟩, 7) := ⟨⟨by decide +kernel, by decide +kernel⟩, List.mem_of_getElem? (i := 12) (by decide +kernel), List.mem_of_getElem? (i := 202) (by decide +kernel), List.mem_of_getElem? (i := 203) (by decide +kernel)⟩
theorem lw_p4 : lw_okq (⟨"TurnedDiscs", "mayPlay", "(I)Z"⟩, 7) := ⟨⟨by decide +kernel, by decide +kernel⟩, List.mem_of_getElem? (i := 12) (by decide +kernel), List.mem_of_getElem? (i := 220) (by decide +kernel), List.mem_of_getElem? (i := 221) (by decide +kernel)⟩
theorem lw_p5 : lw_okq (⟨"TurnedDiscs", "make", "(I)I"⟩, 7) := ⟨⟨by decide +kernel, by decide +kernel⟩, List.mem_of_getElem? (i := 12) (by decide +kernel), List.mem_of_getElem? (i := 241) (by decide +kernel), List.mem_of_getElem? (i := 242) (by decide +kernel)⟩
theorem lw_p6 : lw_okq (⟨"TurnedDiscs", "requireFewEmpty", "()V"⟩, 7) := ⟨⟨by decide +kernel, by decide +kernel⟩, List.mem_of_getElem? (i := 12) (by decide +kernel), List.mem_of_getElem? (i := 287) (by decide +kernel), List.mem_of_getElem? (i := 288) (by decide +kernel)⟩
theorem lw_p7 : lw_okq (⟨"TurnedDiscs", "planFinish", "()I"⟩, 7) := ⟨⟨by decide +kernel, by decide +kernel⟩, List.mem_of_getElem? (i := 12) (by decide +kernel), List.mem_of_getElem? (i := 321) (by decide +kernel), List.mem_of_getElem? (i := 322) (by decide +kernel)⟩
theorem lw_p8 : lw_okq (⟨"TurnedDiscsModel", "lay", "()V"⟩, 14) := ⟨⟨by decide +kernel, by decide +kernel⟩, List.mem_of_getElem? (i := 356) (by decide +kernel), List.mem_of_getElem? (i := 362) (by decide +kernel), List.mem_of_getElem? (i := 363) (by decide +kernel)⟩
theorem lw_p9 : lw_okq (⟨"TurnedDiscsModel", "flipsAt", "(III)J"⟩, 14) := ⟨⟨by decide +kernel, by decide +kernel⟩, List.mem_of_getElem? (i := 356) (by decide +kernel), List.mem_of_getElem? (i := 434) (by decide +kernel), List.mem_of_getElem? (i := 435) (by decide +kernel)⟩
theorem lw_p10 : lw_okq (⟨"TurnedDiscsModel", "along", "(IIII)I"⟩, 14) := ⟨⟨by decide +kernel, by decide +kernel⟩, List.mem_of_getElem? (i := 356) (by decide +kernel), List.mem_of_getElem? (i := 438) (by decide +kernel), List.mem_of_getElem? (i := 439) (by decide +kernel)⟩
theorem lw_p11 : lw_okq (⟨"TurnedDiscsModel", "cellOf", "(III)I"⟩, 14) := ⟨⟨by decide +kernel, by decide +kernel⟩, List.mem_of_getElem? (i := 356) (by decide +kernel), List.mem_of_getElem? (i := 451) (by decide +kernel), List.mem_of_getElem? (i := 452) (by decide +kernel)⟩
theorem lw_p12 : lw_okq (⟨"TurnedDiscsModel", "isOver", "(I)Z"⟩, 14) := ⟨⟨by decide +kernel, by decide +kernel⟩, List.mem_of_getElem? (i := 356) (by decide +kernel), List.mem_of_getElem? (i := 463) (by decide +kernel), List.mem_of_getElem? (i := 464) (by decide +kernel)⟩
theorem lw_p13 : lw_okq (⟨"TurnedDiscsModel", "movesAt", "(II)I"⟩, 14) := ⟨⟨by decide +kernel, by decide +kernel⟩, List.mem_of_getElem? (i := 356) (by decide +kernel), List.mem_of_getElem? (i := 467) (by decide +kernel), List.mem_of_getElem? (i := 468) (by decide +kernel)⟩
theorem lw_p14 : lw_okq (⟨"TurnedDiscsModel", "mustPass", "(I)Z"⟩, 14) := ⟨⟨by decide +kernel, by decide +kernel⟩, List.mem_of_getElem? (i := 356) (by decide +kernel), List.mem_of_getElem? (i := 475) (by decide +kernel), List.mem_of_getElem? (i := 476) (by decide +kernel)⟩
theorem lw_p15 : lw_okq (⟨"TurnedDiscsModel", "put", "(I)I"⟩, 14) := ⟨⟨by decide +kernel, by decide +kernel⟩, List.mem_of_getElem? (i := 356) (by decide +kernel), List.mem_of_getElem? (i := 479) (by decide +kernel), List.mem_of_getElem? (i := 480) (by decide +kernel)⟩
def lw_privs_1 : List (MethodName × Nat) := [(⟨"TurnedDiscs", "setUp", "(JJI)V"⟩, 7), (⟨"TurnedDiscs", "discsOf", "(I)J"⟩, 7), (⟨"java/lang/Throwable", "fillInStackTrace", "(I)Ljava/lang/Throwable;"⟩, 6), (⟨"TurnedDiscs", "empty", "()J"⟩, 7), (⟨"TurnedDiscs", "mayPlay", "(I)Z"⟩, 7), (⟨"TurnedDiscs", "make", "(I)I"⟩, 7), (⟨"TurnedDiscs", "requireFewEmpty", "()V"⟩, 7), (⟨"TurnedDiscs", "planFinish", "()I"⟩, 7), (⟨"TurnedDiscsModel", "lay", "()V"⟩, 14), (⟨"TurnedDiscsModel", "flipsAt", "(III)J"⟩, 14), (⟨"TurnedDiscsModel", "along", "(IIII)I"⟩, 14), (⟨"TurnedDiscsModel", "cellOf", "(III)I"⟩, 14), (⟨"TurnedDiscsModel", "isOver", "(I)Z"⟩, 14), (⟨"TurnedDiscsModel", "movesAt", "(II)I"⟩, 14), (⟨"TurnedDiscsModel", "mustPass", "(I)Z"⟩, 14), (⟨"TurnedDiscsModel", "put", "(I)I"⟩, 14)]
theorem lw_r1 : ∀ q ∈ lw_privs_1, lw_okq q := List.forall_mem_cons.mpr ⟨lw_p0, List.forall_mem_cons.mpr ⟨lw_p1, List.forall_mem_cons.mpr ⟨lw_p2, List.forall_mem_cons.mpr ⟨lw_p3, List.forall_mem_cons.mpr ⟨lw_p4, List.forall_mem_cons.mpr ⟨lw_p5, List.forall_mem_cons.mpr ⟨lw_p6, List.forall_mem_cons.mpr ⟨lw_p7, List.forall_mem_cons.mpr ⟨lw_p8, List.forall_mem_cons.mpr ⟨lw_p9, List.forall_mem_cons.mpr ⟨lw_p10, List.forall_mem_cons.mpr ⟨lw_p11, List.forall_mem_cons.mpr ⟨lw_p12, List.forall_mem_cons.mpr ⟨lw_p13, List.forall_mem_cons.mpr ⟨lw_p14, List.forall_mem_cons.mpr ⟨lw_p15, fun _ h => absurd h List.not_mem_nil⟩⟩⟩⟩⟩⟩⟩⟩⟩⟩⟩⟩⟩⟩⟩⟩
theorem lw_p16 : lw_okq (⟨"TurnedDiscsModel", "discsOf", "(II)I"⟩, 14) := ⟨⟨by decide +kernel, by decide +kernel⟩, List.mem_of_getElem? (i := 356) (by decide +kernel), List.mem_of_getElem? (i := 498) (by decide +kernel), List.mem_of_getElem? (i := 499) (by decide +kernel)⟩
theorem lw_p17 : lw_okq (⟨"TurnedDiscsModel", "findSpots", "()V"⟩, 14) := ⟨⟨by decide +kernel, by decide +kernel⟩, List.mem_of_getElem? (i := 356) (by decide +kernel), List.mem_of_getElem? (i := 506) (by decide +kernel), List.mem_of_getElem? (i := 507) (by decide +kernel)⟩
theorem lw_p18 : lw_okq (⟨"TurnedDiscsModel", "enter", "(I)V"⟩, 14) := ⟨⟨by decide +kernel, by decide +kernel⟩, List.mem_of_getElem? (i := 356) (by decide +kernel), List.mem_of_getElem? (i := 510) (by decide +kernel), List.mem_of_getElem? (i := 511) (by decide +kernel)⟩
theorem lw_p19 : lw_okq (⟨"TurnedDiscsModel", "movable", "(III)I"⟩, 14) := ⟨⟨by decide +kernel, by decide +kernel⟩, List.mem_of_getElem? (i := 356) (by decide +kernel), List.mem_of_getElem? (i := 514) (by decide +kernel), List.mem_of_getElem? (i := 515) (by decide +kernel)⟩
theorem lw_p20 : lw_okq (⟨"TurnedDiscsModel", "turnsAny", "(III)Z"⟩, 14) := ⟨⟨by decide +kernel, by decide +kernel⟩, List.mem_of_getElem? (i := 356) (by decide +kernel), List.mem_of_getElem? (i := 518) (by decide +kernel), List.mem_of_getElem? (i := 519) (by decide +kernel)⟩
theorem lw_p21 : lw_okq (⟨"TurnedDiscsModel", "nextAt", "(I)I"⟩, 14) := ⟨⟨by decide +kernel, by decide +kernel⟩, List.mem_of_getElem? (i := 356) (by decide +kernel), List.mem_of_getElem? (i := 522) (by decide +kernel), List.mem_of_getElem? (i := 523) (by decide +kernel)⟩
theorem lw_p22 : lw_okq (⟨"TurnedDiscsModel", "layNext", "(II)V"⟩, 14) := ⟨⟨by decide +kernel, by decide +kernel⟩, List.mem_of_getElem? (i := 356) (by decide +kernel), List.mem_of_getElem? (i := 526) (by decide +kernel), List.mem_of_getElem? (i := 527) (by decide +kernel)⟩
theorem lw_p23 : lw_okq (⟨"TurnedDiscsModel", "empties", "()I"⟩, 14) := ⟨⟨by decide +kernel, by decide +kernel⟩, List.mem_of_getElem? (i := 356) (by decide +kernel), List.mem_of_getElem? (i := 534) (by decide +kernel), List.mem_of_getElem? (i := 535) (by decide +kernel)⟩
theorem lw_p24 : lw_okq (⟨"TurnedDiscsModel", "search", "()I"⟩, 14) := ⟨⟨by decide +kernel, by decide +kernel⟩, List.mem_of_getElem? (i := 356) (by decide +kernel), List.mem_of_getElem? (i := 538) (by decide +kernel), List.mem_of_getElem? (i := 539) (by decide +kernel)⟩
theorem lw_p25 : lw_okq (⟨"TurnedDiscsModel", "isFull", "(III)Z"⟩, 14) := ⟨⟨by decide +kernel, by decide +kernel⟩, List.mem_of_getElem? (i := 356) (by decide +kernel), List.mem_of_getElem? (i := 558) (by decide +kernel), List.mem_of_getElem? (i := 559) (by decide +kernel)⟩
def lw_privs_2 : List (MethodName × Nat) := [(⟨"TurnedDiscsModel", "discsOf", "(II)I"⟩, 14), (⟨"TurnedDiscsModel", "findSpots", "()V"⟩, 14), (⟨"TurnedDiscsModel", "enter", "(I)V"⟩, 14), (⟨"TurnedDiscsModel", "movable", "(III)I"⟩, 14), (⟨"TurnedDiscsModel", "turnsAny", "(III)Z"⟩, 14), (⟨"TurnedDiscsModel", "nextAt", "(I)I"⟩, 14), (⟨"TurnedDiscsModel", "layNext", "(II)V"⟩, 14), (⟨"TurnedDiscsModel", "empties", "()I"⟩, 14), (⟨"TurnedDiscsModel", "search", "()I"⟩, 14), (⟨"TurnedDiscsModel", "isFull", "(III)Z"⟩, 14)]
theorem lw_r2 : ∀ q ∈ lw_privs_2, lw_okq q := List.forall_mem_cons.mpr ⟨lw_p16, List.forall_mem_cons.mpr ⟨lw_p17, List.forall_mem_cons.mpr ⟨lw_p18, List.forall_mem_cons.mpr ⟨lw_p19, List.forall_mem_cons.mpr ⟨lw_p20, List.forall_mem_cons.mpr ⟨lw_p21, List.forall_mem_cons.mpr ⟨lw_p22, List.forall_mem_cons.mpr ⟨lw_p23, List.forall_mem_cons.mpr ⟨lw_p24, List.forall_mem_cons.mpr ⟨lw_p25, fun _ h => absurd h List.not_mem_nil⟩⟩⟩⟩⟩⟩⟩⟩⟩⟩
def lw_privs : List (MethodName × Nat) := lw_privs_1 ++ (lw_privs_2)
def lw_tbl : List Cond := k2_sels lw_privs ++ tables_1
theorem lw_privs_ok : ∀ q ∈ lw_privs, lw_okq q := by
  show ∀ q ∈ lw_privs_1 ++ (lw_privs_2), lw_okq q
  exact List.forall_mem_append.mpr ⟨lw_r1, lw_r2⟩
-- ===== end of PART A; then your names; then what follows =====
/-! ===== BEGIN words of one list among another's, by their places ===== -/
theorem goodIn_r {big : List Cond} (ws : List Cond) (ps : List Nat) (hp : ws = ps.filterMap (fun i => big[i]?)) (h : ws.all goodWord = true) : GoodIn big ws := by
  intro w hw
  have h1 := List.all_eq_true.mp h w hw
  rw [hp] at hw
  obtain ⟨i, -, hi⟩ := List.mem_filterMap.mp hw
  have hm : w ∈ big := by first | exact List.mem_of_getElem? hi | exact List.getElem?_mem hi
  exact ⟨hm, good_of_word h1⟩
theorem goodIn_app {big a b : List Cond} (ha : GoodIn big a) (hb : GoodIn big b) : GoodIn big (a ++ b) := fun w h => (List.mem_append.mp h).elim (ha w) (hb w)
theorem goodIn_ca {big a b : List Cond} {c : Cond} (ha : GoodIn big (c :: a)) (hb : GoodIn big b) : GoodIn big (c :: (a ++ b)) := fun w h => (List.mem_cons.mp h).elim (fun e => ha w (List.mem_cons.mpr (Or.inl e))) (fun h => (List.mem_append.mp h).elim (fun h => ha w (List.mem_cons.mpr (Or.inr h))) (hb w))
theorem goodIn_sub {big ws : List Cond} (hm : ∀ w ∈ ws, w ∈ big) (h : ws.all goodWord = true) : GoodIn big ws := fun w hw => ⟨hm w hw, good_of_word (List.all_eq_true.mp h w hw)⟩
/-! ===== END ===== -/

/-! ===== BEGIN exceptions that leave a method, and their catching by the caller (launches without stack traces) ===== -/
section VXA
/-! The laws vx_back, vx_callV, vx_callS, vx_callSW, vx_throw0, vx_throwS follow proofs of the library, with one case more: JvmDerived/Free/Laws.lean (Back.of_free), Shelf42/LK1.lean (callV, callS), Shelf/KitTraced.lean (throwNew0V, throwNewS). -/
/-- where a method has thrown q: the class by its name, the cell, what was written, the world -/
def vx_T (XC : String → State → State → Prop) (st : State) (q : Addr) (t : State) (mc ms : Nat) (free : Addr → Prop) : Prop :=
  ∃ (E : String) (ce : Cell) (L : List Loc), XC E st t ∧ t.heap[q]? = some ce ∧ ce.vm = .none ∧ st.vm.findClass E = some ce.cls ∧ st.WarmedH t.vm ∧ st.sameButNew ({ t with vm := st.vm } : State) L mc ms ∧ ∀ z ∈ L, free z.base
def vx_Q (Qc : Array Value → State → Outcome → State → Prop) (XC : String → State → State → Prop) (mc ms : Nat) (free : Addr → Prop) : Array Value → State → Outcome → State → Prop := fun a st o t =>
  (Qc a st o t ∧ ∃ L, FrameEnd st o t L mc ms ∧ ∀ q ∈ L, free q.base) ∨ ∃ q, o = .threw q ∧ vx_T XC st q t mc ms free
/-- a callee that returns or throws -/
def vx_Met (l : Launch) (y : MethodName) (ws : List Cond) (rm : Room) (Pc : Array Value → State → Prop) (Qc : Array Value → State → Outcome → State → Prop) (XC : String → State → State → Prop) (mc ms : Nat) (free : Addr → Prop) : Prop :=
  MetFree l y (headSpec ws rm) Pc (fun _ _ _ _ _ => True) (vx_Q Qc XC mc ms free)
def vx_Post (XC : String → State → State → Prop) (mc ms : Nat) (free : Addr → Prop) : Pt → Array Value → Addr → Pt → Prop := fun A a q B =>
  ∃ (g : JFrame) (mk : MethodId) (t : State) (L : List Loc) (E : String) (ce : Cell), B.U.heap = t.heap ∧ B.U.vm = t.vm ∧ XC E (A.U.calling g mk a) t ∧ t.heap[q]? = some ce ∧ ce.vm = .none ∧ A.U.vm.findClass E = some ce.cls ∧ B.locs = A.locs ++ L ∧ (∀ z ∈ L, free z.base) ∧ B.cells = A.cells + mc ∧ B.slots = A.slots + ms
def vx_Back (l : Launch) (R : Room) (p : Program) (e : Env) (below : List Frame) (s : State) (sargs : Array Value) (y : MethodName) (len W9 : Nat)
    (Pre : Pt → Array Value → Prop) (Post : Pt → Array Value → Option Value → Pt → Prop) (PostX : Pt → Array Value → Addr → Pt → Prop) : Prop :=
  ∀ (m : MethodId) (meth : Method) (c : Code) (A : Pt) (g : JFrame) (ig : Instr) (mk : MethodId) (a : Array Value),
    Stand p l e R s m sargs below meth c A.U A.locs A.cells A.slots → g.method = m → g.locals.size = c.maxLocals → decode c.code g.pc = .ok (ig, len) →
    2 * g.monitorRoom + (g.stack.map fun v => v.category).sum ≤ W9 → A.U.methodNamed? y = some mk → Pre A a →
    (∃ (v : Option Value) (B : Pt), Stand p l e R s m sargs below meth c B.U B.locs B.cells B.slots ∧ Post A a v B ∧
      Steps p.tables e below (doInvoke e (A.U.setTop g) [] mk a).1 (B.U.setTop { g with pc := g.pc + len, stack := v.toList ++ g.stack })) ∨
    (∃ (q : Addr) (B : Pt), Stand p l e R s m sargs below meth c B.U B.locs B.cells B.slots ∧ PostX A a q B ∧
      Steps p.tables e below (doInvoke e (A.U.setTop g) [] mk a).1 ((B.U.setTop g).pushFrame (.throwing q)))
section Payer
variable {l : Launch} {R : Room} {p : Program} {e : Env} {below : List Frame} {s : State} {sargs : Array Value} {y : MethodName} {len W9 : Nat}
theorem vx_back {ws : List Cond} {rm : Room} {Pc : Array Value → State → Prop} {Qc : Array Value → State → Outcome → State → Prop} {XC : String → State → State → Prop} {mc ms : Nat} {free : Addr → Prop} {bytes : ByteArray} {maxL : Nat} {ret : Option FieldType}
    (hM : vx_Met l y ws rm Pc Qc XC mc ms free) (hblind : FrameBlind Pc) (hrc : rm.cells = mc) (hrs : rm.slots = ms)
    (hframes : rm.frames + 1 ≤ R.frames) (hlocals : W9 + (maxL + 11) + rm.locals ≤ R.locals)
    (hws : ∀ w ∈ ws, ∀ a' U, s.WarmedH U.vm → w.before a' U = true) (hcode : Cond.code y bytes maxL ret ∈ ws) (hinit : ∀ a' U, s.WarmedH U.vm → (Cond.initialized y.cls).before a' U = true) :
    vx_Back l R p e below s sargs y len W9 (PreOf R mc ms Pc) (PostOf Qc mc ms free) (vx_Post XC mc ms free) := by
  intro m meth c A g ig mk a X hg hsize hdg hW hn hp
  have h1 : (headSpec ws rm).pre.before a A.U = true := atoms_intro fun w hw => hws w hw _ _ X.warmed
  have h2 : (Cond.code y bytes maxL ret).before a A.U = true := hws _ hcode _ _ X.warmed
  have h3 : (Cond.initialized y.cls).before a A.U = true := hinit _ _ X.warmed
  have h4 : A.cells + (headSpec ws rm).room.cells ≤ R.cells := by rw [show (headSpec ws rm).room.cells = mc from hrc]; exact hp.1
  have h5 : A.slots + (headSpec ws rm).room.slots ≤ R.slots := by rw [show (headSpec ws rm).room.slots = ms from hrs]; exact hp.2.1
  have hPc : Pc a (A.U.calling g mk a) := hblind _ _ _ _ hp.2.2
  obtain ⟨U, Ls, c0, s0⟩ := A
  dsimp only [Pt.U, Pt.locs, Pt.cells, Pt.slots] at h1 h2 h3 h4 h5 X hn hPc ⊢
  obtain ⟨methY, cY, hmY, hcY, -, hlY, -, -, -, -⟩ := Cond.code_spec hn h2
  obtain ⟨kY, hkY, -⟩ := className_of_methodNamed hn
  have hinitY : kY.init = .initialized := Cond.initialized_spec (findClass_of_methodNamed hn) hkY h3
  have h : At U g.method c below := by rw [hg]; exact X.here
  have hlocals9 : W9 + (maxL + 11) + (headSpec ws rm).room.locals ≤ R.locals := hlocals
  have happ : (headSpec ws rm).appliesLoose y e.platform (U.calling g mk a) = true :=
    Spec.appliesLoose_calling (g := g) h hdg hn hkY hinitY
      (X.room_calling (g := g) (R' := (headSpec ws rm).room) hsize hmY hcY hframes (by rw [hlY]; omega) h4 h5) h1
  obtain ⟨mid, hmid⟩ := h.above
  have hfr : (U.setTop g).frames = (.java g :: mid) ++ below := by rw [State.frames_setTop' g h.top, hmid]; rfl
  obtain ⟨o, s₂, hsteps, -, hend, hq⟩ := Steps.callFree hM p X.admits X.cas X.clock (acts := []) hfr happ hPc trivial
  have hq' : vx_Q Qc XC mc ms free a (U.calling g mk a) o s₂ := hq
  rw [State.frames_setTop' g h.top] at hend
  obtain ⟨g₀, hg0⟩ := Option.isSome_iff_exists.mp h.top
  obtain ⟨r, hr⟩ := State.topJava?_eq_some.mp hg0
  have hr' : (({ U with heap := s₂.heap, slotsUsed := s₂.slotsUsed } : State).setVm s₂.vm).frames = .java g₀ :: r := hr
  rcases hq' with ⟨hqc, L, hfe, hL⟩ | ⟨q, rfl, E, ce, L, hx, hce, hcv, hcl, hW₂, hsm, hL⟩
  · obtain ⟨⟨v, rfl⟩, hW₂, e2, q2, q3, q4, q5, q6⟩ := id hfe
    have e3 : s₂ = ({ (U.calling g mk a).setFrames s₂.frames with heap := s₂.heap, slotsUsed := s₂.slotsUsed } : State).setVm s₂.vm := by
      have : s₂ = ({ s₂ with vm := (U.calling g mk a).vm } : State).setVm s₂.vm := rfl
      rw [e2] at this
      exact this
    obtain ⟨c₂, i₂, len₂, hc₂, hd₂, hf₂⟩ := hend
    have hW' : U.WarmedH s₂.vm := hW₂
    have hcc : c₂ = c := by
      have h1 : s₂.code? g.method = U.code? g.method := by
        rw [State.code?_eq, State.code?_eq, hW'.alike.method?]
      exact Option.some.inj (hc₂.symm.trans (h1.trans h.code))
    subst hcc
    have hlen : len₂ = len := by rw [hdg] at hd₂; cases hd₂; rfl
    subst hlen
    have hs₂ : s₂ = (({ U with heap := s₂.heap, slotsUsed := s₂.slotsUsed } : State).setVm s₂.vm).setTop { g with pc := g.pc + len₂, stack := v.toList ++ g.stack } := by
      refine e3.trans ?_
      rw [hf₂, State.calling_eq h.top, State.setFrames_setFrames, State.setTop_of_frames _ hr', hr]
      rfl
    have hsame : U.sameButNew ({ U with heap := s₂.heap, slotsUsed := s₂.slotsUsed } : State) L mc ms := by
      refine ⟨?_, q2, q3, q4, q5, q6⟩
      obtain ⟨t, ht, -⟩ := State.frames_cons hr
      show ({ U with heap := s₂.heap, slotsUsed := s₂.slotsUsed } : State) = { U.setFrames U.frames with heap := s₂.heap, slotsUsed := s₂.slotsUsed }
      rw [State.setFrames_self ht]
    subst hg
    refine Or.inl ⟨v, ⟨(({ U with heap := s₂.heap, slotsUsed := s₂.slotsUsed } : State).setVm s₂.vm), Ls ++ L, c0 + mc, s0 + ms⟩,
      ⟨X.admits, X.cas, X.clock, X.frames, X.room, X.hears, X.method, X.code, (X.here.setHeapUsed s₂.heap s₂.slotsUsed).setVm hW'.alike, X.tail, State.WarmedH.trans X.warmed hW', X.limits, X.bytes, X.same.trans (hsame.setVm s.vm)⟩,
      ⟨g, mk, s₂, L, rfl, rfl, hqc, rfl, hL, rfl, rfl⟩, ?_⟩
    show Steps p.tables e below _ ((({ U with heap := s₂.heap, slotsUsed := s₂.slotsUsed } : State).setVm s₂.vm).setTop { g with pc := g.pc + len₂, stack := v.toList ++ g.stack })
    rw [← hs₂]
    exact hsteps
  · obtain ⟨e2, q2, q3, q4, q5, q6⟩ := id hsm
    have e3 : s₂ = ({ (U.calling g mk a).setFrames s₂.frames with heap := s₂.heap, slotsUsed := s₂.slotsUsed } : State).setVm s₂.vm := by
      have : s₂ = ({ s₂ with vm := (U.calling g mk a).vm } : State).setVm s₂.vm := rfl
      rw [e2] at this
      exact this
    have hf₂ : s₂.frames = .throwing q :: .java g :: U.frames.tail := hend
    have hW' : U.WarmedH s₂.vm := hW₂
    have hs₂ : s₂ = ((({ U with heap := s₂.heap, slotsUsed := s₂.slotsUsed } : State).setVm s₂.vm).setTop g).pushFrame (.throwing q) := by
      refine e3.trans ?_
      rw [hf₂, State.calling_eq h.top, State.setFrames_setFrames, State.pushFrame, State.frames_setTop _ hr', State.setTop_of_frames _ hr', State.setFrames_setFrames, hr]
      rfl
    have hsame : U.sameButNew ({ U with heap := s₂.heap, slotsUsed := s₂.slotsUsed } : State) L mc ms := by
      refine ⟨?_, q2, q3, q4, q5, q6⟩
      obtain ⟨t, ht, -⟩ := State.frames_cons hr
      show ({ U with heap := s₂.heap, slotsUsed := s₂.slotsUsed } : State) = { U.setFrames U.frames with heap := s₂.heap, slotsUsed := s₂.slotsUsed }
      rw [State.setFrames_self ht]
    subst hg
    refine Or.inr ⟨q, ⟨(({ U with heap := s₂.heap, slotsUsed := s₂.slotsUsed } : State).setVm s₂.vm), Ls ++ L, c0 + mc, s0 + ms⟩,
      ⟨X.admits, X.cas, X.clock, X.frames, X.room, X.hears, X.method, X.code, (X.here.setHeapUsed s₂.heap s₂.slotsUsed).setVm hW'.alike, X.tail, State.WarmedH.trans X.warmed hW', X.limits, X.bytes, X.same.trans (hsame.setVm s.vm)⟩,
      ⟨g, mk, s₂, L, E, ce, rfl, rfl, hx, hce, hcv, hcl, rfl, hL, rfl, rfl⟩, ?_⟩
    show Steps p.tables e below _ (((({ U with heap := s₂.heap, slotsUsed := s₂.slotsUsed } : State).setVm s₂.vm).setTop g).pushFrame (.throwing q))
    rw [← hs₂]
    exact hsteps
end Payer
section Calls
variable {p : Program} {l : Launch} {e : Env} {R : Room} {s : State} {m : MethodId} {args : Array Value} {below : List Frame} {meth : Method} {c : Code} {T : State} {locs : List Loc} {cells slots : Nat}
theorem vx_callV (X : Stand p l e R s m args below meth c T locs cells slots) (hexec : p.tables.exec = Jvm.exec) {own C : String} {index : Nat} {y : MethodName} {bytes : ByteArray} {maxL : Nat} {ret : Option FieldType}
    (hown : s.vm.findClass own = some m.cls) (hlink : (Cond.methodLink own index y).before args s = true) (hinst : (Cond.instanceMethod y).before args s = true) (hsel : (Cond.selects C y y).before args s = true)
    (hcode : (Cond.code y bytes maxL ret).before args s = true) (hy : y.cls ≠ "java/lang/invoke/MethodHandle" ∧ y.cls ≠ "java/lang/invoke/VarHandle")
    {W9 : Nat} {Pre : Pt → Array Value → Prop} {Post : Pt → Array Value → Option Value → Pt → Prop} {PostX : Pt → Array Value → Addr → Pt → Prop} (hK : vx_Back l R p e below s args y 3 W9 Pre Post PostX)
    {b : Addr} {cellB : Cell} (hcell : T.heap[b]? = some cellB) (hobj : cellB.vm.isStatics = false) (hcls : s.vm.findClass C = some cellB.cls)
    {g : JFrame} (hg : g.method = m) (hsize : g.locals.size = c.maxLocals) {argsL rest : List Value} (hlen : ∀ sig, parseMethodDescriptor y.desc = some sig → argsL.length = sig.parameters.length)
    (hstack : g.stack = argsL.reverse ++ .ref b :: rest) (hW : 2 * g.monitorRoom + (rest.map fun v => v.category).sum ≤ W9) (hdg : decode c.code g.pc = .ok (.invokevirtual index, 3))
    (hpre : ∀ vm₁, s.WarmedH vm₁ → Pre ⟨T.setVm vm₁, locs, cells, slots⟩ (Value.ref b :: argsL).toArray) :
    (∃ (v : Option Value) (vm₁ : Vm) (B : Pt), s.WarmedH vm₁ ∧ Stand p l e R s m args below meth c B.U B.locs B.cells B.slots ∧ Post ⟨T.setVm vm₁, locs, cells, slots⟩ (Value.ref b :: argsL).toArray v B ∧
      ∀ target, Steps p.tables e below (B.U.setTop { g with pc := g.pc + 3, stack := v.toList ++ rest }) target → Steps p.tables e below (T.setTop g) target) ∨
    (∃ (q : Addr) (vm₁ : Vm) (B : Pt), s.WarmedH vm₁ ∧ Stand p l e R s m args below meth c B.U B.locs B.cells B.slots ∧ PostX ⟨T.setVm vm₁, locs, cells, slots⟩ (Value.ref b :: argsL).toArray q B ∧
      Steps p.tables e below (T.setTop g) ((B.U.setTop { g with stack := rest }).pushFrame (.throwing q))) := by
  obtain ⟨mk, methM, hnamed, hmethM, hstM, habM⟩ := Cond.instanceMethod_spec hinst
  obtain ⟨methM', cM, hmethM', -, -, -, -, -, -, hsigM⟩ := Cond.code_spec hnamed hcode
  cases hmethM.symm.trans hmethM'
  obtain ⟨c2, r2, m2, q1, q2, q3, q4, kP, hkP, hkPi⟩ := Cond.selects_spec hsel
  cases hcls.symm.trans q1
  cases (State.methodFound?_of_named hnamed hy).symm.trans q2
  cases hnamed.symm.trans q3
  have hselP : selectMethod e.platform s.vm cellB.cls mk = .method mk := by rw [Launch.admits_selectMethod X.admits]; exact q4
  obtain ⟨vm₁, X₁, hstep₁⟩ := X.invokevirtual hexec hown hlink hnamed hmethM hstM hkP hkPi hy (a := b) (cell := cellB) hcell
    (fun z h => by rw [h] at hobj; cases hobj) hselP hmethM habM hkP hkPi (g := g) hg (argsL := argsL) (rest := rest) (hlen _ hsigM) hstack hdg
  rcases hK m meth c ⟨T.setVm vm₁, locs, cells, slots⟩ { g with stack := rest } (.invokevirtual index) mk (Value.ref b :: argsL).toArray X₁ hg hsize hdg hW (X₁.named hnamed) (hpre vm₁ X₁.warmed) with ⟨v, B, X', hpost, hsteps⟩ | ⟨q, B, X', hpost, hsteps⟩
  · exact Or.inl ⟨v, vm₁, B, X₁.warmed, X', hpost, fun target h => hstep₁ _ fun acts => by rw [doInvoke_state]; exact hsteps.trans h⟩
  · exact Or.inr ⟨q, vm₁, B, X₁.warmed, X', hpost, hstep₁ _ fun acts => by rw [doInvoke_state]; exact hsteps⟩
theorem vx_callS (X : Stand p l e R s m args below meth c T locs cells slots) (hexec : p.tables.exec = Jvm.exec) {own : String} {index : Nat} {y : MethodName} {bytes : ByteArray} {maxL : Nat} {ret : Option FieldType}
    (hown : s.vm.findClass own = some m.cls) (hlink : (Cond.methodLink own index y).before args s = true) (hstat : (Cond.static y).before args s = true) (hinit : (Cond.initialized y.cls).before args s = true)
    (hcode : (Cond.code y bytes maxL ret).before args s = true) (hy : y.cls ≠ "java/lang/invoke/MethodHandle" ∧ y.cls ≠ "java/lang/invoke/VarHandle")
    {W9 : Nat} {Pre : Pt → Array Value → Prop} {Post : Pt → Array Value → Option Value → Pt → Prop} {PostX : Pt → Array Value → Addr → Pt → Prop} (hK : vx_Back l R p e below s args y 3 W9 Pre Post PostX)
    {g : JFrame} (hg : g.method = m) (hsize : g.locals.size = c.maxLocals) {argsL rest : List Value} (hlen : ∀ sig, parseMethodDescriptor y.desc = some sig → argsL.length = sig.parameters.length)
    (hstack : g.stack = argsL.reverse ++ rest) (hW : 2 * g.monitorRoom + (rest.map fun v => v.category).sum ≤ W9) (hdg : decode c.code g.pc = .ok (.invokestatic index, 3))
    (hpre : ∀ vm₁, s.WarmedH vm₁ → Pre ⟨T.setVm vm₁, locs, cells, slots⟩ argsL.toArray) :
    (∃ (v : Option Value) (vm₁ : Vm) (B : Pt), s.WarmedH vm₁ ∧ Stand p l e R s m args below meth c B.U B.locs B.cells B.slots ∧ Post ⟨T.setVm vm₁, locs, cells, slots⟩ argsL.toArray v B ∧
      ∀ target, Steps p.tables e below (B.U.setTop { g with pc := g.pc + 3, stack := v.toList ++ rest }) target → Steps p.tables e below (T.setTop g) target) ∨
    (∃ (q : Addr) (vm₁ : Vm) (B : Pt), s.WarmedH vm₁ ∧ Stand p l e R s m args below meth c B.U B.locs B.cells B.slots ∧ PostX ⟨T.setVm vm₁, locs, cells, slots⟩ argsL.toArray q B ∧
      Steps p.tables e below (T.setTop g) ((B.U.setTop { g with stack := rest }).pushFrame (.throwing q))) := by
  obtain ⟨mk, hnamed⟩ := Cond.code_named hcode
  obtain ⟨methM, cM, hmethM, -, -, -, -, -, -, hsigM⟩ := Cond.code_spec hnamed hcode
  have hstatic : methM.isStatic = true := Cond.static_spec hnamed hmethM hstat
  obtain ⟨kP, hkP, -⟩ := className_of_methodNamed hnamed
  have hinitP : kP.init = .initialized := Cond.initialized_spec (findClass_of_methodNamed hnamed) hkP hinit
  obtain ⟨vm₁, X₁, hstep₁⟩ := X.invokestatic hexec hown hlink hnamed hmethM hstatic hkP hinitP hy (g := g) hg (argsL := argsL) (rest := rest) (hlen _ hsigM) hstack hdg
  rcases hK m meth c ⟨T.setVm vm₁, locs, cells, slots⟩ { g with stack := rest } (.invokestatic index) mk argsL.toArray X₁ hg hsize hdg hW (X₁.named hnamed) (hpre vm₁ X₁.warmed) with ⟨v, B, X', hpost, hsteps⟩ | ⟨q, B, X', hpost, hsteps⟩
  · exact Or.inl ⟨v, vm₁, B, X₁.warmed, X', hpost, fun target h => hstep₁ _ fun acts => by rw [doInvoke_state]; exact hsteps.trans h⟩
  · exact Or.inr ⟨q, vm₁, B, X₁.warmed, X', hpost, hstep₁ _ fun acts => by rw [doInvoke_state]; exact hsteps⟩
end Calls
theorem vx_cls {s : State} {T : State} {vm₁ : Vm} {E : String} {k : ClassId} (hW : s.WarmedH vm₁) (h : (T.setVm vm₁).vm.findClass E = some k) : s.vm.findClass E = some k := by
  have h1 : vm₁.findClass E = some k := h
  rw [hW.alike.findClass] at h1
  exact h1
/-- the method's frame g, with q thrown over it -/
def vx_W (p : Program) (l : Launch) (e : Env) (R : Room) (s : State) (m : MethodId) (args : Array Value) (below : List Frame) (meth : Method) (c : Code) (H : Heap) (locs : List Loc) (cells slots : Nat) (Q : State → Prop) (g : JFrame) (q : Addr) : Prop :=
  ∀ T : State, T.heap = H → Stand p l e R s m args below meth c T locs cells slots → ∃ t, Steps p.tables e below ((T.setTop g).pushFrame (.throwing q)) t ∧ Q t
def vx_Run (p : Program) (l : Launch) (e : Env) (R : Room) (s : State) (m : MethodId) (args : Array Value) (below : List Frame) (meth : Method) (c : Code) (H : Heap) (locs : List Loc) (cells slots mc ms : Nat) (g : JFrame) (rest : List Value) (Qa : State → Outcome → State → Prop) (XC : String → State → State → Prop) (free : Addr → Prop) : Prop :=
  ∀ T : State, T.heap = H → Stand p l e R s m args below meth c T locs cells slots →
    (∃ (v : Option Value) (st₀ t T' : State) (L : List Loc), st₀.heap = H ∧ Stand p l e R s m args below meth c T' (locs ++ L) (cells + mc) (slots + ms) ∧ (∀ q ∈ L, free q.base) ∧ T'.heap = t.heap ∧ T'.vm = t.vm ∧ Qa st₀ (.returned v) t ∧
      Goes p e below T g T' { g with pc := g.pc + 3, stack := v.toList ++ rest }) ∨
    (∃ (q : Addr) (st₀ t T' : State) (L : List Loc) (E : String) (ce : Cell), st₀.heap = H ∧ Stand p l e R s m args below meth c T' (locs ++ L) (cells + mc) (slots + ms) ∧ (∀ z ∈ L, free z.base) ∧ T'.heap = t.heap ∧ T'.vm = t.vm ∧ XC E st₀ t ∧ t.heap[q]? = some ce ∧ ce.vm = .none ∧ s.vm.findClass E = some ce.cls ∧
      Steps p.tables e below (T.setTop g) ((T'.setTop { g with stack := rest }).pushFrame (.throwing q)))
def vx_X {S : Type} (px : S → Prop) (B : String → S → State → Prop) (A : Nat → Prop) : String → State → State → Prop := fun E st t => ∃ u : S, px u ∧ B E u t ∧ va_F A st t
section Runs
variable {p : Program} {l : Launch} {e : Env} {R : Room} {s : State} {m : MethodId} {args : Array Value} {below : List Frame} {meth : Method} {c : Code} {H : Heap} {locs : List Loc} {cells slots : Nat}
variable {y : MethodName} {bytes cc : ByteArray} {maxL nL mc ms n index : Nat} {ret : Option FieldType} {ws : List Cond} {rm : Room} {Pc : Array Value → State → Prop} {Qc : Array Value → State → Outcome → State → Prop} {XC : String → State → State → Prop} {free : Addr → Prop} {Ts : List Cond} {own C : String} {b : Addr} {As rest : List Value} {g : JFrame}
theorem vx_callBack (cb : CallB R s args own index y bytes maxL ret ws rm mc ms n) (hM : vx_Met l y ws rm Pc Qc XC mc ms free) (hbl : FrameBlind Pc) : vx_Back l R p e below s args y 3 8 (PreOf R mc ms Pc) (PostOf Qc mc ms free) (vx_Post XC mc ms free) := by
  obtain ⟨hrc, hrs, hfr, hlo, hws, hcw, -, hini, -⟩ := cb
  exact vx_back (bytes := bytes) (maxL := maxL) (ret := ret) hM hbl hrc hrs hfr hlo hws hcw (fun a' U hW => word_at hW (Or.inl (by first | rfl | simp [Cond.onTables, Cond.keeps, Cond.steady])) hini)
theorem vx_runV (S : CallFix p m c cc nL s args Ts own) (hM : vx_Met l y ws rm Pc Qc XC mc ms free) (cw : CallW R s args own C index y bytes maxL ret ws rm mc ms n) (hp : PreV s H C b Pc As)
    (hg : g.method = m) (hn : As.length = n) (hsize : g.locals.size = nL) (hstack : g.stack = As.reverse ++ .ref b :: rest) (hW : 2 * g.monitorRoom + (rest.map fun v => v.category).sum ≤ 8) (hdg : decode cc g.pc = .ok (.invokevirtual index, 3)) (hf : cells + mc ≤ R.cells ∧ slots + ms ≤ R.slots) :
    vx_Run p l e R s m args below meth c H locs cells slots mc ms g rest (Qc (Value.ref b :: As).toArray) XC free := by
  have hK : vx_Back l R p e below s args y 3 8 (PreOf R mc ms Pc) (PostOf Qc mc ms free) (vx_Post XC mc ms free) := vx_callBack cw.1 hM hp.1
  obtain ⟨⟨-, -, -, -, -, -, hcode, -, hy, hlen, hl⟩, hin, hse⟩ := cw
  obtain ⟨hx, hb, hml, ho, -⟩ := S
  obtain ⟨-, ⟨cellB, hcB, hoB, hclB⟩, hPc⟩ := hp
  intro T hT X
  rcases vx_callV X hx (C := C) (bytes := bytes) (maxL := maxL) (ret := ret) ho hl hin hse hcode hy hK (by rw [hT]; exact hcB) hoB hclB hg (hsize.trans hml.symm) (argsL := As) (rest := rest) (fun sig h => hn.trans (hlen sig h)) hstack hW (by rw [hb]; exact hdg)
    (fun vm₁ hW₁ => ⟨hf.1, hf.2, hPc (T.setVm vm₁) hT hW₁⟩) with ⟨v, vm₁, ⟨U', l2, c2, s2⟩, hW₁, X', ⟨g', mk, t, L, e1, e2, hq, h1, hL, h2, h3⟩, st⟩ | ⟨q, vm₁, ⟨U', l2, c2, s2⟩, hW₁, X', ⟨g', mk, t, L, E, ce, e1, e2, hq, hce, hcv, hcl, h1, hL, h2, h3⟩, st⟩
  · dsimp only [Pt.U, Pt.locs, Pt.cells, Pt.slots] at X' e1 e2 h1 h2 h3 st
    subst h1; subst h2; subst h3
    exact Or.inl ⟨v, (T.setVm vm₁).calling g' mk (Value.ref b :: As).toArray, t, U', L, hT, X', hL, e1, e2, hq, st⟩
  · dsimp only [Pt.U, Pt.locs, Pt.cells, Pt.slots] at X' e1 e2 h1 h2 h3 st hcl
    subst h1; subst h2; subst h3
    exact Or.inr ⟨q, (T.setVm vm₁).calling g' mk (Value.ref b :: As).toArray, t, U', L, E, ce, hT, X', hL, e1, e2, hq, hce, hcv, vx_cls hW₁ hcl, st⟩
theorem vx_runS (S : CallFix p m c cc nL s args Ts own) (hM : vx_Met l y ws rm Pc Qc XC mc ms free) (cw : CallB R s args own index y bytes maxL ret ws rm mc ms n ∧ (Cond.static y).before args s = true) (hp : PreS s H Pc As)
    (hg : g.method = m) (hn : As.length = n) (hsize : g.locals.size = nL) (hstack : g.stack = As.reverse ++ rest) (hW : 2 * g.monitorRoom + (rest.map fun v => v.category).sum ≤ 8) (hdg : decode cc g.pc = .ok (.invokestatic index, 3)) (hf : cells + mc ≤ R.cells ∧ slots + ms ≤ R.slots) :
    vx_Run p l e R s m args below meth c H locs cells slots mc ms g rest (Qc As.toArray) XC free := by
  have hK : vx_Back l R p e below s args y 3 8 (PreOf R mc ms Pc) (PostOf Qc mc ms free) (vx_Post XC mc ms free) := vx_callBack cw.1 hM hp.1
  obtain ⟨⟨-, -, -, -, -, -, hcode, hini, hy, hlen, hl⟩, hstt⟩ := cw
  obtain ⟨hx, hb, hml, ho, -⟩ := S
  intro T hT X
  rcases vx_callS X hx (bytes := bytes) (maxL := maxL) (ret := ret) ho hl hstt hini hcode hy hK hg (hsize.trans hml.symm) (argsL := As) (rest := rest) (fun sig h => hn.trans (hlen sig h)) hstack hW (by rw [hb]; exact hdg)
    (fun vm₁ hW₁ => ⟨hf.1, hf.2, hp.2 (T.setVm vm₁) hT hW₁⟩) with ⟨v, vm₁, ⟨U', l2, c2, s2⟩, hW₁, X', ⟨g', mk, t, L, e1, e2, hq, h1, hL, h2, h3⟩, st⟩ | ⟨q, vm₁, ⟨U', l2, c2, s2⟩, hW₁, X', ⟨g', mk, t, L, E, ce, e1, e2, hq, hce, hcv, hcl, h1, hL, h2, h3⟩, st⟩
  · dsimp only [Pt.U, Pt.locs, Pt.cells, Pt.slots] at X' e1 e2 h1 h2 h3 st
    subst h1; subst h2; subst h3
    exact Or.inl ⟨v, (T.setVm vm₁).calling g' mk As.toArray, t, U', L, hT, X', hL, e1, e2, hq, st⟩
  · dsimp only [Pt.U, Pt.locs, Pt.cells, Pt.slots] at X' e1 e2 h1 h2 h3 st hcl
    subst h1; subst h2; subst h3
    exact Or.inr ⟨q, (T.setVm vm₁).calling g' mk As.toArray, t, U', L, E, ce, hT, X', hL, e1, e2, hq, hce, hcv, vx_cls hW₁ hcl, st⟩
end Runs
section Rows
variable {p : Program} {l : Launch} {e : Env} {R : Room} {s : State} {m : MethodId} {args : Array Value} {below : List Frame} {meth : Method} {c : Code} {H : Heap} {locs : List Loc} {cells slots : Nat} {Q : State → Prop}
variable {mc ms : Nat} {free : Addr → Prop} {A0 A1 : Nat → Prop} {H0 : Heap} {a : Array Value} {pc : Nat} {ls : Array Slot} {st0 rest : List Value}
theorem vx_keep {st₀ t T' : State} {L : List Loc} (h0 : st₀.heap = H) (e1 : T'.heap = t.heap) (hS : va_S A0 H0 H locs) (hA : ∀ q, q < H.size → A1 q → A0 q) (hf : ∀ q, free q → A0 q) (hL : ∀ q ∈ L, free q.base) (hF : va_F A1 st₀ t) :
    H.size ≤ T'.heap.size ∧ (∀ q : Nat, q < H.size → ¬ A1 q → T'.heap[q]? = H[q]?) ∧ va_S A0 H0 T'.heap (locs ++ L) := by
  obtain ⟨hz, hk⟩ := hF
  rw [h0] at hz hk
  exact ⟨by rw [e1]; exact hz, fun q h1 h2 => by rw [e1]; exact hk q h1 h2,
    ⟨Nat.le_trans hS.1 (by rw [e1]; exact hz), fun q h1 h2 => by rw [e1, hk q (Nat.lt_of_lt_of_le h1 hS.1) (fun z => h2 (hA q (Nat.lt_of_lt_of_le h1 hS.1) z))]; exact hS.2.1 q h1 h2, fun q hq => by
      rcases List.mem_append.mp hq with h | h
      · exact hS.2.2 q h
      · exact hf _ (hL q h)⟩⟩
theorem vx_calli {S SX : Type} {post : Int32 → S → Prop} {px : SX → Prop} {B : S → State → Prop} {BX : String → SX → State → Prop} {AX : Nat → Prop} (hr : vx_Run p l e R s m args below meth c H locs cells slots mc ms (F0 m pc ls st0) rest (va_Qi post B A1 a) (vx_X px BX AX) free) (hS : va_S A0 H0 H locs) (hA : ∀ q, q < H.size → A1 q → A0 q) (hf : ∀ q, free q → A0 q) (hAX : ∀ q, q < H.size → AX q → A0 q)
    (kx : ∀ (E : String) (ce : Cell) (q9 : Addr) (u : SX) (t : State) (H1 : Heap) (locs1 : List Loc), t.heap = H1 → s.vm.Alike t.vm → px u → BX E u t → H.size ≤ H1.size → (∀ q : Nat, q < H.size → ¬ AX q → H1[q]? = H[q]?) → va_S A0 H0 H1 locs1 → H1[q9]? = some ce → ce.vm = .none → s.vm.findClass E = some ce.cls → vx_W p l e R s m args below meth c H1 locs1 (cells + mc) (slots + ms) Q (F0 m pc ls rest) q9)
    (kk : ∀ (r : Int32) (u : S) (t : State) (H1 : Heap) (locs1 : List Loc), t.heap = H1 → s.vm.Alike t.vm → post r u → B u t → H.size ≤ H1.size → (∀ q : Nat, q < H.size → ¬ A1 q → H1[q]? = H[q]?) → va_S A0 H0 H1 locs1 → W p l e R s m args below meth c H1 locs1 (cells + mc) (slots + ms) Q (F0 m (pc + 3) ls (.int r :: rest))) : W p l e R s m args below meth c H locs cells slots Q (F0 m pc ls st0) := by
  intro T hT X
  rcases hr T hT X with ⟨v, st₀, t, T', L, h0, X', hL, e1, e2, ⟨⟨r, u, hv, hp, hb⟩, hF⟩, st⟩ | ⟨q, st₀, t, T', L, E, ce, h0, X', hL, e1, e2, ⟨u, hp, hb, hF⟩, hce, hcv, hcl, st⟩
  · cases hv
    obtain ⟨k1, k2, k3⟩ := vx_keep h0 e1 hS hA hf hL hF
    obtain ⟨t2, a1, b1⟩ := kk r u t T'.heap (locs ++ L) e1.symm (by rw [← e2]; exact X'.warmed.alike) hp hb k1 k2 k3 T' rfl X'
    exact ⟨t2, st t2 a1, b1⟩
  · obtain ⟨k1, k2, k3⟩ := vx_keep h0 e1 hS hAX hf hL hF
    obtain ⟨t2, a1, b1⟩ := kx E ce q u t T'.heap (locs ++ L) e1.symm (by rw [← e2]; exact X'.warmed.alike) hp hb k1 k2 k3 (by rw [e1]; exact hce) hcv hcl T' rfl X'
    exact ⟨t2, st.trans a1, b1⟩
theorem vx_calll {S SX : Type} {post : Int64 → S → Prop} {px : SX → Prop} {B : S → State → Prop} {BX : String → SX → State → Prop} {AX : Nat → Prop} (hr : vx_Run p l e R s m args below meth c H locs cells slots mc ms (F0 m pc ls st0) rest (va_Ql post B A1 a) (vx_X px BX AX) free) (hS : va_S A0 H0 H locs) (hA : ∀ q, q < H.size → A1 q → A0 q) (hf : ∀ q, free q → A0 q) (hAX : ∀ q, q < H.size → AX q → A0 q)
    (kx : ∀ (E : String) (ce : Cell) (q9 : Addr) (u : SX) (t : State) (H1 : Heap) (locs1 : List Loc), t.heap = H1 → s.vm.Alike t.vm → px u → BX E u t → H.size ≤ H1.size → (∀ q : Nat, q < H.size → ¬ AX q → H1[q]? = H[q]?) → va_S A0 H0 H1 locs1 → H1[q9]? = some ce → ce.vm = .none → s.vm.findClass E = some ce.cls → vx_W p l e R s m args below meth c H1 locs1 (cells + mc) (slots + ms) Q (F0 m pc ls rest) q9)
    (kk : ∀ (r : Int64) (u : S) (t : State) (H1 : Heap) (locs1 : List Loc), t.heap = H1 → s.vm.Alike t.vm → post r u → B u t → H.size ≤ H1.size → (∀ q : Nat, q < H.size → ¬ A1 q → H1[q]? = H[q]?) → va_S A0 H0 H1 locs1 → W p l e R s m args below meth c H1 locs1 (cells + mc) (slots + ms) Q (F0 m (pc + 3) ls (.long r :: rest))) : W p l e R s m args below meth c H locs cells slots Q (F0 m pc ls st0) := by
  intro T hT X
  rcases hr T hT X with ⟨v, st₀, t, T', L, h0, X', hL, e1, e2, ⟨⟨r, u, hv, hp, hb⟩, hF⟩, st⟩ | ⟨q, st₀, t, T', L, E, ce, h0, X', hL, e1, e2, ⟨u, hp, hb, hF⟩, hce, hcv, hcl, st⟩
  · cases hv
    obtain ⟨k1, k2, k3⟩ := vx_keep h0 e1 hS hA hf hL hF
    obtain ⟨t2, a1, b1⟩ := kk r u t T'.heap (locs ++ L) e1.symm (by rw [← e2]; exact X'.warmed.alike) hp hb k1 k2 k3 T' rfl X'
    exact ⟨t2, st t2 a1, b1⟩
  · obtain ⟨k1, k2, k3⟩ := vx_keep h0 e1 hS hAX hf hL hF
    obtain ⟨t2, a1, b1⟩ := kx E ce q u t T'.heap (locs ++ L) e1.symm (by rw [← e2]; exact X'.warmed.alike) hp hb k1 k2 k3 (by rw [e1]; exact hce) hcv hcl T' rfl X'
    exact ⟨t2, st.trans a1, b1⟩
theorem vx_callf {S SX : Type} {post : UInt32 → S → Prop} {px : SX → Prop} {B : S → State → Prop} {BX : String → SX → State → Prop} {AX : Nat → Prop} (hr : vx_Run p l e R s m args below meth c H locs cells slots mc ms (F0 m pc ls st0) rest (va_Qf post B A1 a) (vx_X px BX AX) free) (hS : va_S A0 H0 H locs) (hA : ∀ q, q < H.size → A1 q → A0 q) (hf : ∀ q, free q → A0 q) (hAX : ∀ q, q < H.size → AX q → A0 q)
    (kx : ∀ (E : String) (ce : Cell) (q9 : Addr) (u : SX) (t : State) (H1 : Heap) (locs1 : List Loc), t.heap = H1 → s.vm.Alike t.vm → px u → BX E u t → H.size ≤ H1.size → (∀ q : Nat, q < H.size → ¬ AX q → H1[q]? = H[q]?) → va_S A0 H0 H1 locs1 → H1[q9]? = some ce → ce.vm = .none → s.vm.findClass E = some ce.cls → vx_W p l e R s m args below meth c H1 locs1 (cells + mc) (slots + ms) Q (F0 m pc ls rest) q9)
    (kk : ∀ (r : UInt32) (u : S) (t : State) (H1 : Heap) (locs1 : List Loc), t.heap = H1 → s.vm.Alike t.vm → post r u → B u t → H.size ≤ H1.size → (∀ q : Nat, q < H.size → ¬ A1 q → H1[q]? = H[q]?) → va_S A0 H0 H1 locs1 → W p l e R s m args below meth c H1 locs1 (cells + mc) (slots + ms) Q (F0 m (pc + 3) ls (.float r :: rest))) : W p l e R s m args below meth c H locs cells slots Q (F0 m pc ls st0) := by
  intro T hT X
  rcases hr T hT X with ⟨v, st₀, t, T', L, h0, X', hL, e1, e2, ⟨⟨r, u, hv, hp, hb⟩, hF⟩, st⟩ | ⟨q, st₀, t, T', L, E, ce, h0, X', hL, e1, e2, ⟨u, hp, hb, hF⟩, hce, hcv, hcl, st⟩
  · cases hv
    obtain ⟨k1, k2, k3⟩ := vx_keep h0 e1 hS hA hf hL hF
    obtain ⟨t2, a1, b1⟩ := kk r u t T'.heap (locs ++ L) e1.symm (by rw [← e2]; exact X'.warmed.alike) hp hb k1 k2 k3 T' rfl X'
    exact ⟨t2, st t2 a1, b1⟩
  · obtain ⟨k1, k2, k3⟩ := vx_keep h0 e1 hS hAX hf hL hF
    obtain ⟨t2, a1, b1⟩ := kx E ce q u t T'.heap (locs ++ L) e1.symm (by rw [← e2]; exact X'.warmed.alike) hp hb k1 k2 k3 (by rw [e1]; exact hce) hcv hcl T' rfl X'
    exact ⟨t2, st.trans a1, b1⟩
theorem vx_calld {S SX : Type} {post : UInt64 → S → Prop} {px : SX → Prop} {B : S → State → Prop} {BX : String → SX → State → Prop} {AX : Nat → Prop} (hr : vx_Run p l e R s m args below meth c H locs cells slots mc ms (F0 m pc ls st0) rest (va_Qd post B A1 a) (vx_X px BX AX) free) (hS : va_S A0 H0 H locs) (hA : ∀ q, q < H.size → A1 q → A0 q) (hf : ∀ q, free q → A0 q) (hAX : ∀ q, q < H.size → AX q → A0 q)
    (kx : ∀ (E : String) (ce : Cell) (q9 : Addr) (u : SX) (t : State) (H1 : Heap) (locs1 : List Loc), t.heap = H1 → s.vm.Alike t.vm → px u → BX E u t → H.size ≤ H1.size → (∀ q : Nat, q < H.size → ¬ AX q → H1[q]? = H[q]?) → va_S A0 H0 H1 locs1 → H1[q9]? = some ce → ce.vm = .none → s.vm.findClass E = some ce.cls → vx_W p l e R s m args below meth c H1 locs1 (cells + mc) (slots + ms) Q (F0 m pc ls rest) q9)
    (kk : ∀ (r : UInt64) (u : S) (t : State) (H1 : Heap) (locs1 : List Loc), t.heap = H1 → s.vm.Alike t.vm → post r u → B u t → H.size ≤ H1.size → (∀ q : Nat, q < H.size → ¬ A1 q → H1[q]? = H[q]?) → va_S A0 H0 H1 locs1 → W p l e R s m args below meth c H1 locs1 (cells + mc) (slots + ms) Q (F0 m (pc + 3) ls (.double r :: rest))) : W p l e R s m args below meth c H locs cells slots Q (F0 m pc ls st0) := by
  intro T hT X
  rcases hr T hT X with ⟨v, st₀, t, T', L, h0, X', hL, e1, e2, ⟨⟨r, u, hv, hp, hb⟩, hF⟩, st⟩ | ⟨q, st₀, t, T', L, E, ce, h0, X', hL, e1, e2, ⟨u, hp, hb, hF⟩, hce, hcv, hcl, st⟩
  · cases hv
    obtain ⟨k1, k2, k3⟩ := vx_keep h0 e1 hS hA hf hL hF
    obtain ⟨t2, a1, b1⟩ := kk r u t T'.heap (locs ++ L) e1.symm (by rw [← e2]; exact X'.warmed.alike) hp hb k1 k2 k3 T' rfl X'
    exact ⟨t2, st t2 a1, b1⟩
  · obtain ⟨k1, k2, k3⟩ := vx_keep h0 e1 hS hAX hf hL hF
    obtain ⟨t2, a1, b1⟩ := kx E ce q u t T'.heap (locs ++ L) e1.symm (by rw [← e2]; exact X'.warmed.alike) hp hb k1 k2 k3 (by rw [e1]; exact hce) hcv hcl T' rfl X'
    exact ⟨t2, st.trans a1, b1⟩
theorem vx_callv {S SX : Type} {post : S → Prop} {px : SX → Prop} {B : S → State → Prop} {BX : String → SX → State → Prop} {AX : Nat → Prop} (hr : vx_Run p l e R s m args below meth c H locs cells slots mc ms (F0 m pc ls st0) rest (va_Qv post B A1 a) (vx_X px BX AX) free) (hS : va_S A0 H0 H locs) (hA : ∀ q, q < H.size → A1 q → A0 q) (hf : ∀ q, free q → A0 q) (hAX : ∀ q, q < H.size → AX q → A0 q)
    (kx : ∀ (E : String) (ce : Cell) (q9 : Addr) (u : SX) (t : State) (H1 : Heap) (locs1 : List Loc), t.heap = H1 → s.vm.Alike t.vm → px u → BX E u t → H.size ≤ H1.size → (∀ q : Nat, q < H.size → ¬ AX q → H1[q]? = H[q]?) → va_S A0 H0 H1 locs1 → H1[q9]? = some ce → ce.vm = .none → s.vm.findClass E = some ce.cls → vx_W p l e R s m args below meth c H1 locs1 (cells + mc) (slots + ms) Q (F0 m pc ls rest) q9)
    (kk : ∀ (u : S) (t : State) (H1 : Heap) (locs1 : List Loc), t.heap = H1 → s.vm.Alike t.vm → post u → B u t → H.size ≤ H1.size → (∀ q : Nat, q < H.size → ¬ A1 q → H1[q]? = H[q]?) → va_S A0 H0 H1 locs1 → W p l e R s m args below meth c H1 locs1 (cells + mc) (slots + ms) Q (F0 m (pc + 3) ls (rest))) : W p l e R s m args below meth c H locs cells slots Q (F0 m pc ls st0) := by
  intro T hT X
  rcases hr T hT X with ⟨v, st₀, t, T', L, h0, X', hL, e1, e2, ⟨⟨u, hv, hp, hb⟩, hF⟩, st⟩ | ⟨q, st₀, t, T', L, E, ce, h0, X', hL, e1, e2, ⟨u, hp, hb, hF⟩, hce, hcv, hcl, st⟩
  · cases hv
    obtain ⟨k1, k2, k3⟩ := vx_keep h0 e1 hS hA hf hL hF
    obtain ⟨t2, a1, b1⟩ := kk u t T'.heap (locs ++ L) e1.symm (by rw [← e2]; exact X'.warmed.alike) hp hb k1 k2 k3 T' rfl X'
    exact ⟨t2, st t2 a1, b1⟩
  · obtain ⟨k1, k2, k3⟩ := vx_keep h0 e1 hS hAX hf hL hF
    obtain ⟨t2, a1, b1⟩ := kx E ce q u t T'.heap (locs ++ L) e1.symm (by rw [← e2]; exact X'.warmed.alike) hp hb k1 k2 k3 (by rw [e1]; exact hce) hcv hcl T' rfl X'
    exact ⟨t2, st.trans a1, b1⟩
/-- caught by the row x of this method's table; the rows ahead don't take it -/
theorem vx_catch {own name : String} {E : String} {ce : Cell} {q : Addr} (hown : s.vm.findClass own = some m.cls) (pre : List ExceptionTableEntry) (x : ExceptionTableEntry) (suf : List ExceptionTableEntry) (hsplit : c.exceptionTable.toList = pre ++ x :: suf)
    (hpass : ∀ z ∈ pre, covers z pc = false ∨ (z.catchType ≠ 0 ∧ ∃ nm : String, (Cond.classLink own z.catchType nm).before args s = true ∧ va_Nc E nm s)) (hx : covers x pc = true) (h0 : x.catchType ≠ 0)
    (hlink : (Cond.classLink own x.catchType name).before args s = true) (hcast : (Cond.castable E name).before args s = true) (hcell : H[q]? = some ce) (hv : ce.vm = .none) (hcl : s.vm.findClass E = some ce.cls)
    (kk : W p l e R s m args below meth c H locs cells slots Q (F0 m x.handlerPc ls [.ref q])) : vx_W p l e R s m args below meth c H locs cells slots Q (F0 m pc ls rest) q := by
  intro T hT X
  have hpl : e.platform.magicAccessors = ({} : Platform).magicAccessors := by rw [X.admits.platform]
  obtain ⟨c3, c4, hc3, hc4, hasg⟩ := Cond.castable_spec hcast
  cases Option.some.inj (hc3.symm.trans hcl)
  obtain ⟨c5, hc5, hcl5⟩ := Cond.classLink_spec hown hlink e.platform hpl
  cases Option.some.inj (hc4.symm.trans hc5)
  obtain ⟨vm', X', st⟩ := X.thenCaughtThrough q (g := F0 m pc ls rest) rfl (Steps.refl _) (by rw [hT]; exact hcell) (by rw [hv]; rfl) (by obtain ⟨k9, h9, -⟩ := Vm.findClass_spec hcl; exact ⟨k9, h9⟩) pre x suf hsplit
    (fun z hz => by
      rcases hpass z hz with h | ⟨hz0, nm, hl1, hn1⟩
      · exact Or.inl h
      · obtain ⟨c6, hc6, hcl6⟩ := Cond.classLink_spec hown hl1 e.platform hpl
        obtain ⟨a8, b8, h1, h2, h3⟩ := hn1
        cases Option.some.inj (h1.symm.trans hcl)
        cases Option.some.inj (h2.symm.trans hc6)
        exact Or.inr ⟨hz0, _, hcl6, h3⟩) hx (Or.inr ⟨h0, c4, hcl5, hasg⟩)
  obtain ⟨t, a1, b1⟩ := kk (T.setVm vm') hT X'
  exact ⟨t, st.trans a1, b1⟩
end Rows
section Ends
variable {p : Program} {l : Launch} {e : Env} {R : Room} {s : State} {m : MethodId} {args : Array Value} {below : List Frame} {meth : Method} {c : Code} {H : Heap} {locs : List Loc} {cells slots : Nat} {Q : State → Prop}
variable {mc ms : Nat} {free : Addr → Prop} {A0 A1 : Nat → Prop} {H0 : Heap} {a : Array Value} {ls : Array Slot} {st0 rest : List Value}
variable {Qc : Array Value → State → Outcome → State → Prop} {XC : String → State → State → Prop}
/-- what a body that may throw owes at its end -/
def vx_MQ (below : List Frame) (Qc : Array Value → State → Outcome → State → Prop) (XC : String → State → State → Prop) (a : Array Value) (s : State) (mc ms : Nat) (free : Addr → Prop) : State → Prop := fun t =>
  ∃ o, t.status = .running ∧ Ended t below o ∧ vx_Q Qc XC mc ms free a s o t
theorem vx_ret {g : JFrame} {mc ms : Nat} (k : W p l e R s m args below meth c H locs cells slots (MQ below Qc args s mc ms free) g) : W p l e R s m args below meth c H locs cells slots (vx_MQ below Qc XC args s mc ms free) g := by
  intro T hT X
  obtain ⟨t, a1, o, b1, b2, b3, b4⟩ := k T hT X
  exact ⟨t, a1, o, b1, b2, Or.inl ⟨b3, b4⟩⟩
/-- not caught here: it goes on to the caller -/
theorem vx_widen {g : JFrame} {q : Addr} {k n : Nat} (h1 : cells ≤ k) (h2 : slots ≤ n) (kk : vx_W p l e R s m args below meth c H locs k n Q g q) : vx_W p l e R s m args below meth c H locs cells slots Q g q := fun T hT X => kk T hT (stand_widen X h1 h2)
theorem vx_out {pc : Nat} {E : String} {ce : Cell} {q : Addr} {mc ms : Nat} (hout : ∀ x ∈ c.exceptionTable.toList, covers x pc = false) (hlocks : meth.locks = false) (hcell : H[q]? = some ce) (hv : ce.vm = .none) (hcl : s.vm.findClass E = some ce.cls)
    (hx : ∀ t : State, t.heap = H → s.vm.Alike t.vm → XC E s t) (hf : ∀ z ∈ locs, free z.base) (hc : cells ≤ mc) (hs : slots ≤ ms) :
    vx_W p l e R s m args below meth c H locs cells slots (vx_MQ below Qc XC args s mc ms free) (F0 m pc ls rest) q := by
  intro T hT X
  obtain ⟨st1, hrun, hend, hW, hsm⟩ := X.leaveThrown q (g := F0 m pc ls rest) rfl rfl rfl hout hlocks
  have hcell9 : (T.setFrames (.throwing q :: below)).heap[q]? = some ce := by
    show T.heap[q]? = some ce
    rw [hT]; exact hcell
  exact ⟨_, st1, .threw q, hrun, hend, Or.inr ⟨q, rfl, E, ce, locs, hx _ hT hW.alike, hcell9, hv, hcl, hW, hsm.mono hc hs, hf⟩⟩
theorem vx_frame {U : State} {k n : Nat} (h : s.sameButNew ({ U with vm := s.vm } : State) locs k n) : s.heap.size ≤ U.heap.size ∧ ∀ q : Nat, q < s.heap.size → (∀ z ∈ locs, z.base ≠ q) → U.heap[q]? = s.heap[q]? := by
  obtain ⟨-, h2, -, -, -, h6⟩ := h
  refine ⟨h2, fun q hq hz => ?_⟩
  obtain ⟨c9, e1, e2, e3, e4⟩ := h6 q _ (Array.getElem?_eq_getElem hq)
  have hs : c9.slots = (s.heap[q]).slots := Array.ext_getElem? fun i => e4 i fun hm => hz _ hm rfl
  have h9 : c9 = s.heap[q] := by
    rw [hs] at e2
    exact e2
  have e5 : U.heap[q]? = some c9 := e1
  rw [e5, h9, Array.getElem?_eq_getElem hq]
/-- the words of a throw but the four that speak of the heap -/
def vx_no (w : Cond) : Bool := decide (w ≠ .isRef (.static Bundle.tN "UNASSIGNED_STACK" Bundle.steD)) && decide (w ≠ .isRef (.static Bundle.tN "SUPPRESSED_SENTINEL" Bundle.listD)) && decide (w ≠ .laysStatic Bundle.tN "UNASSIGNED_STACK" Bundle.steD) && decide (w ≠ .laysStatic Bundle.tN "SUPPRESSED_SENTINEL" Bundle.listD)
def vx_at0 (own : String) (ic : Nat) (X : String) (names : List String) : List Cond := (Bundle.ownAtoms0 own ic X names).filter vx_no
def vx_atS (own : String) (ic : Nat) (X : String) (names : List String) : List Cond := (Bundle.ownAtoms own ic X names).filter vx_no
/-- a word that the tables alone decide, or a good one -/
def vx_ot (w : Cond) : Bool := w.onTables || goodWord w
theorem vx_ot_at {args a' : Array Value} {s U : State} {w : Cond} (hW : s.WarmedH U.vm) (hvm : s.vm = U.vm) (hg : vx_ot w = true) (h : w.before args s = true) : w.before a' U = true := by
  simp only [vx_ot, Bool.or_eq_true] at hg
  rcases hg with hg | hg
  · exact va_tabs hg hvm h
  · exact word_at hW (good_of_word hg) h
/-- a list's words: the good ones out of the method's own list, the others by premises of their own -/
theorem vx_hat {args : Array Value} {s : State} {L B : List Cond} (h1 : ∀ w ∈ L.filter goodWord, w.before args s = true) (h2 : ∀ w ∈ L.filter (fun w => !goodWord w), w ∈ B) (h3 : ∀ w ∈ B, w.before args s = true) : ∀ w ∈ L, w.before args s = true := by
  intro w hw
  by_cases g : goodWord w = true
  · exact h1 w (List.mem_filter.mpr ⟨hw, g⟩)
  · refine h3 w (h2 w (List.mem_filter.mpr ⟨hw, ?_⟩))
    show (!goodWord w) = true
    cases hgw : goodWord w
    · rfl
    · exact absurd hgw g
theorem vx_c {args : Array Value} {s : State} {w : Cond} {B : List Cond} (h : w.before args s = true) (t : ∀ w ∈ B, w.before args s = true) : ∀ w' ∈ w :: B, w'.before args s = true := fun w' h' => (List.mem_cons.mp h').elim (fun e => by rw [e]; exact h) (t w')
theorem vx_n {args : Array Value} {s : State} : ∀ w ∈ ([] : List Cond), w.before args s = true := fun _ h => nomatch h
theorem vx_own {args : Array Value} {s : State} {L : List Cond} (h1 : ∀ w ∈ L.filter vx_no, w.before args s = true)
    (hU : (Cond.isRef (.static Bundle.tN "UNASSIGNED_STACK" Bundle.steD)).before args s = true) (hN : (Cond.isRef (.static Bundle.tN "SUPPRESSED_SENTINEL" Bundle.listD)).before args s = true)
    (lU : (Cond.laysStatic Bundle.tN "UNASSIGNED_STACK" Bundle.steD).before args s = true) (lN : (Cond.laysStatic Bundle.tN "SUPPRESSED_SENTINEL" Bundle.listD).before args s = true) : ∀ w ∈ L, w.before args s = true := by
  intro w hw
  by_cases e1 : w = .isRef (.static Bundle.tN "UNASSIGNED_STACK" Bundle.steD)
  · rw [e1]; exact hU
  · by_cases e2 : w = .isRef (.static Bundle.tN "SUPPRESSED_SENTINEL" Bundle.listD)
    · rw [e2]; exact hN
    · by_cases e3 : w = .laysStatic Bundle.tN "UNASSIGNED_STACK" Bundle.steD
      · rw [e3]; exact lU
      · by_cases e4 : w = .laysStatic Bundle.tN "SUPPRESSED_SENTINEL" Bundle.listD
        · rw [e4]; exact lN
        · exact h1 w (List.mem_filter.mpr ⟨hw, by unfold vx_no; rw [decide_eq_true e1, decide_eq_true e2, decide_eq_true e3, decide_eq_true e4]; rfl⟩)
/-- where a static field lies, its class's statics cell in H -/
def vx_L (C n d : String) (A : Nat → Prop) (U : State) (H : Heap) : Prop := ∃ (c : ClassId) (k : Class) (i : Nat) (f : Field) (a : Nat) (cell : Cell), U.vm.findClass C = some c ∧ U.fieldFound? C n d = some (c, k, i, f) ∧ f.isStatic = true ∧ k.statics = some a ∧ H[a]? = some cell ∧ cell.vm.isStatics = true ∧ cell.cls = c ∧ f.slot < cell.slots.size ∧ k.staticTypes[f.slot]? = some f.type ∧ ¬ A a
theorem vx_L.moved {C n d : String} {A : Nat → Prop} {u U : State} {H : Heap} (hvm : u.vm.Alike U.vm) (h : vx_L C n d A u H) : vx_L C n d A U H := by
  obtain ⟨c, k, i, f, a, cell, h1, h2, h3, h4, h5, h6, h7, h8, h9, h10⟩ := h
  obtain ⟨k', hi', he⟩ := State.fieldFound?_setVm hvm h2
  exact ⟨c, k', i, f, a, cell, by rw [hvm.findClass]; exact h1, hi', h3, by rw [he]; exact h4, h5, h6, h7, h8, by rw [he]; exact h9, h10⟩
theorem vx_L.kept {C n d : String} {A : Nat → Prop} {U : State} {H H1 : Heap} (h : vx_L C n d A U H) (hq : ∀ a : Nat, a < H.size → ¬ A a → H1[a]? = H[a]?) : vx_L C n d A U H1 := by
  obtain ⟨c, k, i, f, a, cell, h1, h2, h3, h4, h5, h6, h7, h8, h9, h10⟩ := h
  exact ⟨c, k, i, f, a, cell, h1, h2, h3, h4, by rw [hq a (Array.getElem?_eq_some_iff.mp h5).1 h10]; exact h5, h6, h7, h8, h9, h10⟩
theorem vx_L.narrow {C n d : String} {A B : Nat → Prop} {U : State} {H : Heap} (h : vx_L C n d A U H) (hAB : ∀ q, B q → A q) : vx_L C n d B U H := by
  obtain ⟨c, k, i, f, a, cell, h1, h2, h3, h4, h5, h6, h7, h8, h9, h10⟩ := h
  exact ⟨c, k, i, f, a, cell, h1, h2, h3, h4, h5, h6, h7, h8, h9, fun z => h10 (hAB _ z)⟩
theorem vx_L.word {C n d : String} {A : Nat → Prop} {s : State} {args : Array Value} (h : vx_L C n d A s s.heap) : (Cond.laysStatic C n d).before args s = true := by
  obtain ⟨c, k, i, f, a, cell, h1, h2, h3, h4, h5, h6, h7, h8, h9, -⟩ := h
  show (Cond.laysStatic C n d).holds args s none s [] = true
  exact Cond.laysStatic_of h1 h2 h3 h4 h5 h6 h7 h8 h9
/-- .. and what it holds: null or some reference -/
def vx_Zq (C n d : String) (A : Nat → Prop) (U : State) (H : Heap) : Prop := va_Zq C n d A U H ∧ vx_L C n d A U H
theorem vx_Zq.moved {C n d : String} {A : Nat → Prop} {u U : State} {H : Heap} (hvm : u.vm.Alike U.vm) (h : vx_Zq C n d A u H) : vx_Zq C n d A U H := ⟨va_Zq.moved hvm h.1, vx_L.moved hvm h.2⟩
theorem vx_Zq.kept {C n d : String} {A : Nat → Prop} {U : State} {H H1 : Heap} (h : vx_Zq C n d A U H) (hq : ∀ a : Nat, a < H.size → ¬ A a → H1[a]? = H[a]?) : vx_Zq C n d A U H1 := ⟨va_Zq.kept h.1 hq, vx_L.kept h.2 hq⟩
theorem vx_Zq.narrow {C n d : String} {A B : Nat → Prop} {U : State} {H : Heap} (h : vx_Zq C n d A U H) (hAB : ∀ q, B q → A q) : vx_Zq C n d B U H := ⟨va_Zq.narrow h.1 hAB, vx_L.narrow h.2 hAB⟩
theorem vx_Zqof {args : Array Value} {s : State} {C n d : String} {A : Nat → Prop} (hl : (Cond.laysStatic C n d).before args s = true) (hini : (Cond.initialized C).before args s = true) (h : (Cond.isRef (.static C n d)).before args s = true) (hA : ∀ a : Nat, a < s.heap.size → ¬ A a) : vx_Zq C n d A s s.heap := by
  refine ⟨va_Zqof hl hini h hA, ?_⟩
  obtain ⟨c, k, i, f, a, cell, h1, h2, h3, h4, h5, h6, h7, h8, h9⟩ := Cond.laysStatic_spec hl
  exact ⟨c, k, i, f, a, cell, h1, h2, h3, h4, h5, h6, h7, h8, h9, hA a (Array.getElem?_eq_some_iff.mp h5).1⟩
theorem vx_isRef {C n d : String} {v : Value} {A : Nat → Prop} {s : State} {args : Array Value} (h : va_Z C n d v A s s.heap) (hv : v.isRef = true) : (Cond.isRef (.static C n d)).before args s = true := by
  obtain ⟨cf, kf, fi, f, a, cell, h1, h2, h3, h4, h5, h6, h7, -⟩ := h
  have he : (Term.static C n d).eval args s none [] s = some v := by
    simp [Term.eval, State.fieldNamed?, h1, h2, h4, h5, h6, h7]
  simp only [Cond.before, Cond.holds, Cond.value, he]
  cases v <;> simp_all [Value.isRef]
theorem vx_isRefq {C n d : String} {A : Nat → Prop} {s : State} {args : Array Value} (h : va_Zq C n d A s s.heap) : (Cond.isRef (.static C n d)).before args s = true := by
  rcases h with h | ⟨t, h⟩
  · exact vx_isRef h rfl
  · exact vx_isRef h rfl
/-- the same frame, seen from here: as if the method were called anew in this heap -/
theorem vx_rebase {T : State} (X : Stand p l e R s m args below meth c T locs cells slots) {R' : Room} (hf : R'.frames ≤ R.frames) (hl : R'.locals ≤ R.locals) (hc : cells + R'.cells ≤ R.cells) (hs : slots + R'.slots ≤ R.slots) :
    Stand p l e R' ((T.setVm s.vm).setFrames (.invoking m args :: below)) m args below meth c T [] 0 0 := by
  have htop : (T.setVm s.vm).topJava?.isSome := X.here.top
  have hF : ((T.setVm s.vm).setFrames (.invoking m args :: below)).frames = .invoking m args :: below := State.frames_setFrames _ (State.cur_lt_of_top htop)
  obtain ⟨g₀, hg0⟩ := Option.isSome_iff_exists.mp htop
  obtain ⟨r, hr⟩ := State.topJava?_eq_some.mp hg0
  have hl9 : e.platform.stackLimits (T.setVm s.vm).me = e.platform.stackLimits s.me := X.limits
  have hb9 : (T.setVm s.vm).me.stackBytes = s.me.stackBytes := X.bytes
  refine ⟨X.admits, X.cas, X.clock, hF, ?_, X.hears, X.method, X.code, X.here, X.tail, X.warmed, ?_, ?_, ?_⟩
  · have h := X.room
    have hU : ((T.setVm s.vm).setFrames (.invoking m args :: below)).localsInUse = s.localsInUse := by
      rw [State.localsInUse_invoking hF (meth := meth) (c := c) X.method X.code, State.localsInUse_invoking X.frames X.method X.code]
    simp only [State.hasRoom, Bool.and_eq_true, decide_eq_true_eq] at h ⊢
    obtain ⟨⟨⟨⟨h1, h2, h3, h4, h5, h6⟩, h7⟩, h8⟩, h9⟩ := h
    rw [X.frames, List.length_cons] at h2 h3
    have q1 := X.heapSize
    have q2 := X.used
    simp only [hF, hU, List.length_cons, State.stackLimits_setFrames, State.stackBytes_setFrames, hl9, hb9]
    refine ⟨⟨⟨⟨by omega, by omega, by omega, by omega, by omega, h6⟩, ?_⟩, ?_⟩, X.book⟩
    · show T.heap.size + R'.cells ≤ e.platform.maxCells
      omega
    · show T.slotsUsed + R'.slots ≤ e.platform.maxSlots
      omega
  · rw [State.stackLimits_setFrames]; rfl
  · rw [State.stackBytes_setFrames]; rfl
  · refine ⟨?_, Nat.le_refl _, Nat.le_refl _, ?_, ?_, fun a c9 h9 => ⟨c9, h9, rfl, rfl, fun _ _ => rfl⟩⟩
    · obtain ⟨t, ht, -⟩ := State.frames_cons hr
      show T.setVm s.vm = { ((T.setVm s.vm).setFrames (.invoking m args :: below)).setFrames (T.setVm s.vm).frames with heap := T.heap, slotsUsed := T.slotsUsed }
      rw [State.setFrames_setFrames, State.setFrames_self ht]
      rfl
    · show T.slotsUsed = T.slotsUsed + ((T.heap.toList.drop T.heap.size).map (·.slots.size)).sum
      rw [List.drop_eq_nil_of_le (Nat.le_of_eq Array.length_toList)]
      rfl
    · show ((T.heap.toList.drop T.heap.size).map (·.slots.size)).sum ≤ 0
      rw [List.drop_eq_nil_of_le (Nat.le_of_eq Array.length_toList)]
      exact Nat.le_refl _
/-- 'throw new E()': new; dup; invokespecial; athrow -/
theorem vx_throw0 {cc : ByteArray} {pc : Nat} (hexec : p.tables.exec = Jvm.exec) (hb : c.code = cc) (hl : l.stackTraces = false) {own cls : String} {names : List String} {ik ic mc ms : Nat} {A : Nat → Prop}
    (hown : s.vm.findClass own = some m.cls) (hcls : Bundle.fit cls = true) (hnames : ∀ n ∈ names, Bundle.fit n = true)
    (hk : (Cond.classLink own ik cls).before args s = true) (hini : (Cond.initialized cls).before args s = true) (hat : ∀ w ∈ vx_at0 own ic cls names, w.before args s = true)
    (hgood : ∀ w ∈ Cond.classLink own ik cls :: Cond.initialized cls :: vx_at0 own ic cls names, vx_ot w = true)
    (hU : vx_Zq Bundle.tN "UNASSIGNED_STACK" Bundle.steD A s s.heap) (hN : vx_Zq Bundle.tN "SUPPRESSED_SENTINEL" Bundle.listD A s s.heap) (hS : va_S A s.heap H locs) (hsize : ls.size = c.maxLocals)
    (d0 : decode cc pc = .ok (.new ik, 3)) (d3 : decode cc (pc + 3) = .ok (.dup, 1)) (d4 : decode cc (pc + 4) = .ok (.invokespecial ic, 3)) (d7 : decode cc (pc + 7) = .ok (.athrow, 1))
    (hout : ∀ x ∈ c.exceptionTable.toList, covers x (pc + 7) = false)
    (hRframes : names.length + 3 < R.frames) (hRlocals : (rest.map fun v => v.category).sum + (13 * (names.length + 1) + 42) ≤ R.locals) (hRcells : cells + 1 ≤ R.cells) (hRslots : slots + 6 ≤ R.slots) (hlocks : meth.locks = false)
    (hx : ∀ t : State, s.vm.Alike t.vm → H.size ≤ t.heap.size → (∀ q : Nat, q < H.size → t.heap[q]? = H[q]?) → XC cls s t)
    (hf : ∀ z ∈ locs, free z.base) (hc : cells + 1 ≤ mc) (hs : slots + 6 ≤ ms) :
    W p l e R s m args below meth c H locs cells slots (vx_MQ below Qc XC args s mc ms free) (F0 m pc ls rest) := by
  intro T hT X
  have htr : e.platform.stackTraces = false := (show e.platform.stackTraces = l.stackTraces by rw [X.admits.platform]).trans hl
  have Y := vx_rebase X (R' := { frames := R.frames, locals := R.locals, cells := 1, slots := 6 }) (Nat.le_refl _) (Nat.le_refl _) hRcells hRslots
  obtain ⟨s', hA⟩ : ∃ z, z = (T.setVm s.vm).setFrames (.invoking m args :: below) := ⟨_, rfl⟩
  rw [← hA] at Y
  have hvm : s'.vm = s.vm := by rw [hA]; rfl
  have hhp : s'.heap = H := by rw [hA]; exact hT
  have hW0 : s.WarmedH s'.vm := by rw [hvm]; exact State.WarmedH.refl s
  have hat' : ∀ w ∈ vx_at0 own ic cls names, w.before args s' = true := fun w hw => vx_ot_at hW0 hvm.symm (hgood w (List.mem_cons_of_mem _ (List.mem_cons_of_mem _ hw))) (hat w hw)
  have hk' : (Cond.classLink own ik cls).before args s' = true := vx_ot_at hW0 hvm.symm (hgood _ List.mem_cons_self) hk
  have hini' : (Cond.initialized cls).before args s' = true := vx_ot_at hW0 hvm.symm (hgood _ (List.mem_cons_of_mem _ List.mem_cons_self)) hini
  have hU' : vx_Zq Bundle.tN "UNASSIGNED_STACK" Bundle.steD A s' s'.heap := by rw [hhp]; exact vx_Zq.moved hW0.alike (hU.kept hS.2.1)
  have hN' : vx_Zq Bundle.tN "SUPPRESSED_SENTINEL" Bundle.listD A s' s'.heap := by rw [hhp]; exact vx_Zq.moved hW0.alike (hN.kept hS.2.1)
  have h : ∀ w ∈ Bundle.ownAtoms0 own ic cls names, w.before args s' = true := vx_own hat' (vx_isRefq hU'.1) (vx_isRefq hN'.1) hU'.2.word hN'.2.word
  have hown' : s'.vm.findClass own = some m.cls := by rw [hvm]; exact hown
  have hins : (Cond.instantiable cls 6).before args s' = true := h _ (by simp [Bundle.ownAtoms0])
  obtain ⟨vm₁, cX, kX, hfX, hkX, -, -, X₁, st1⟩ := Y.newCold hexec (own := own) (C := cls) (index := ik) (n := 6) hown' hk' hins hini'
    (g := F0 m pc ls rest) rfl (by rw [hb]; exact d0) (Nat.le_refl _) (Nat.le_refl _)
  generalize hT1 : (T.setVm vm₁).pushCell { cls := cX, slots := kX.instanceTypes.map defaultValue, vm := .none } = T1 at X₁ st1
  have hcat : (Value.ref T.heap.size).category = 1 := rfl
  have hcellA : T1.heap[T.heap.size]? = some (freshCell cX kX) := by rw [← hT1]; exact State.heap_pushCell_size _ _
  have d3' : decode c.code (pc + 3) = .ok (.dup, 1) := by rw [hb]; exact d3
  obtain ⟨U, hsteps, hrun, hend, hW, hsame, ce, hce, hO⟩ := X₁.ctorThrow0 hexec htr (own := own) (cls := cls) (names := names) (ic := ic) hown' hcls hnames h (fun x hx => nomatch hx) hfX hkX hcellA (by rw [hhp, hT]; exact Nat.le_refl _)
    (g := { method := m, pc := pc + 4, locals := ls, stack := .ref T.heap.size :: .ref T.heap.size :: rest, locked := none }) rfl hsize rfl rfl (rest := rest) rfl
    (by rw [hb]; exact d4) (by rw [hb]; exact d7) hout hRframes (by simp only [List.map_cons, List.sum_cons, hcat]; omega) hlocks
  obtain ⟨f1, f2⟩ := vx_frame hsame
  rw [hhp] at f1 f2
  have hWs : s.WarmedH U.vm := State.WarmedH.trans hW0 hW
  have hcl : s.vm.findClass cls = some ce.cls := by
    have h9 := hO.cls
    rw [hvm] at h9
    exact h9
  have hall : s.sameButNew ({ U with vm := s.vm } : State) locs mc ms := by
    subst hA
    obtain ⟨e1, e2⟩ := hsame
    rw [State.setFrames_setFrames] at e1
    have h2 : (T.setVm s.vm).sameButNew ({ U with vm := s.vm } : State) [] (0 + 1) (0 + 6) := ⟨e1, e2⟩
    have h3 := X.same.trans h2
    rw [List.append_nil] at h3
    exact h3.mono hc hs
  refine ⟨U, ?_, .threw T.heap.size, hrun, hend, Or.inr ⟨T.heap.size, rfl, cls, ce, locs, hx U hWs.alike f1 (fun q hq => f2 q hq (fun z hz => nomatch hz)), hce, hO.vm, hcl, hWs, hall, hf⟩⟩
  refine st1 _ ?_
  show Steps p.tables e below (T1.setTop { method := m, pc := pc + 3, locals := ls, stack := .ref T.heap.size :: rest, locked := none }) _
  jvm_step X₁.here [X₁.here.top, hexec, d3', Value.category]
  exact hsteps
/-- 'throw new E("text")': new; dup; ldc; invokespecial; athrow -/
theorem vx_throwS {cc : ByteArray} {pc : Nat} (hexec : p.tables.exec = Jvm.exec) (hb : c.code = cc) (hl : l.stackTraces = false) {own cls text : String} {names : List String} {ik is ic mc ms sa : Nat} {A : Nat → Prop}
    (hown : s.vm.findClass own = some m.cls) (hcls : Bundle.fit cls = true) (hnames : ∀ n ∈ names, Bundle.fit n = true)
    (hk : (Cond.classLink own ik cls).before args s = true) (hini : (Cond.initialized cls).before args s = true) (hstr : vk_R own is text sa s) (hat : ∀ w ∈ vx_atS own ic cls names, w.before args s = true)
    (hgood : ∀ w ∈ Cond.classLink own ik cls :: Cond.initialized cls :: vx_atS own ic cls names, vx_ot w = true)
    (hU : vx_Zq Bundle.tN "UNASSIGNED_STACK" Bundle.steD A s s.heap) (hN : vx_Zq Bundle.tN "SUPPRESSED_SENTINEL" Bundle.listD A s s.heap) (hS : va_S A s.heap H locs) (hsize : ls.size = c.maxLocals)
    (d0 : decode cc pc = .ok (.new ik, 3)) (d3 : decode cc (pc + 3) = .ok (.dup, 1)) (d4 : decode cc (pc + 4) = .ok (.ldc is, 2)) (d6 : decode cc (pc + 6) = .ok (.invokespecial ic, 3)) (d9 : decode cc (pc + 9) = .ok (.athrow, 1))
    (hout : ∀ x ∈ c.exceptionTable.toList, covers x (pc + 9) = false)
    (hRframes : names.length + 3 < R.frames) (hRlocals : (rest.map fun v => v.category).sum + (13 * (names.length + 1) + 43) ≤ R.locals) (hRcells : cells + 1 ≤ R.cells) (hRslots : slots + 6 ≤ R.slots) (hlocks : meth.locks = false)
    (hx : ∀ t : State, s.vm.Alike t.vm → H.size ≤ t.heap.size → (∀ q : Nat, q < H.size → t.heap[q]? = H[q]?) → XC cls s t)
    (hf : ∀ z ∈ locs, free z.base) (hc : cells + 1 ≤ mc) (hs : slots + 6 ≤ ms) :
    W p l e R s m args below meth c H locs cells slots (vx_MQ below Qc XC args s mc ms free) (F0 m pc ls rest) := by
  intro T hT X
  have htr : e.platform.stackTraces = false := (show e.platform.stackTraces = l.stackTraces by rw [X.admits.platform]).trans hl
  have Y := vx_rebase X (R' := { frames := R.frames, locals := R.locals, cells := 1, slots := 6 }) (Nat.le_refl _) (Nat.le_refl _) hRcells hRslots
  obtain ⟨s', hA⟩ : ∃ z, z = (T.setVm s.vm).setFrames (.invoking m args :: below) := ⟨_, rfl⟩
  rw [← hA] at Y
  have hvm : s'.vm = s.vm := by rw [hA]; rfl
  have hhp : s'.heap = H := by rw [hA]; exact hT
  have hW0 : s.WarmedH s'.vm := by rw [hvm]; exact State.WarmedH.refl s
  have hat' : ∀ w ∈ vx_atS own ic cls names, w.before args s' = true := fun w hw => vx_ot_at hW0 hvm.symm (hgood w (List.mem_cons_of_mem _ (List.mem_cons_of_mem _ hw))) (hat w hw)
  have hk' : (Cond.classLink own ik cls).before args s' = true := vx_ot_at hW0 hvm.symm (hgood _ List.mem_cons_self) hk
  have hini' : (Cond.initialized cls).before args s' = true := vx_ot_at hW0 hvm.symm (hgood _ (List.mem_cons_of_mem _ List.mem_cons_self)) hini
  have hU' : vx_Zq Bundle.tN "UNASSIGNED_STACK" Bundle.steD A s' s'.heap := by rw [hhp]; exact vx_Zq.moved hW0.alike (hU.kept hS.2.1)
  have hN' : vx_Zq Bundle.tN "SUPPRESSED_SENTINEL" Bundle.listD A s' s'.heap := by rw [hhp]; exact vx_Zq.moved hW0.alike (hN.kept hS.2.1)
  have h : ∀ w ∈ Bundle.ownAtoms own ic cls names, w.before args s' = true := vx_own hat' (vx_isRefq hU'.1) (vx_isRefq hN'.1) hU'.2.word hN'.2.word
  have hown' : s'.vm.findClass own = some m.cls := by rw [hvm]; exact hown
  have hins : (Cond.instantiable cls 6).before args s' = true := h _ (by simp [Bundle.ownAtoms])
  obtain ⟨vm₁, cX, kX, hfX, hkX, -, -, X₁, st1⟩ := Y.newCold hexec (own := own) (C := cls) (index := ik) (n := 6) hown' hk' hins hini'
    (g := F0 m pc ls rest) rfl (by rw [hb]; exact d0) (Nat.le_refl _) (Nat.le_refl _)
  generalize hT1 : (T.setVm vm₁).pushCell { cls := cX, slots := kX.instanceTypes.map defaultValue, vm := .none } = T1 at X₁ st1
  have hcat : (Value.ref T.heap.size).category = 1 := rfl
  have hcellA : T1.heap[T.heap.size]? = some (freshCell cX kX) := by rw [← hT1]; exact State.heap_pushCell_size _ _
  have d3' : decode c.code (pc + 3) = .ok (.dup, 1) := by rw [hb]; exact d3
  have d4' : decode c.code (pc + 4) = .ok (.ldc is, 2) := by rw [hb]; exact d4
  have hstr' : vk_R own is text sa s' := vk_R.warm hW0 hstr
  obtain ⟨U, hsteps, hrun, hend, hW, hsame, ce, hce, hO⟩ := X₁.ctorThrowS hexec htr (own := own) (cls := cls) (names := names) (ic := ic) hown' hcls hnames h (fun x hx => nomatch hx) hfX hkX hcellA (by rw [hhp, hT]; exact Nat.le_refl _) (msg := .ref sa) rfl
    (g := { method := m, pc := pc + 6, locals := ls, stack := .ref sa :: .ref T.heap.size :: .ref T.heap.size :: rest, locked := none }) rfl hsize rfl rfl (rest := rest) rfl
    (by rw [hb]; exact d6) (by rw [hb]; exact d9) hout hRframes (by simp only [List.map_cons, List.sum_cons, hcat]; omega) hlocks
  obtain ⟨f1, f2⟩ := vx_frame hsame
  rw [hhp] at f1 f2
  have hWs : s.WarmedH U.vm := State.WarmedH.trans hW0 hW
  have hcl : s.vm.findClass cls = some ce.cls := by
    have h9 := hO.cls
    rw [hvm] at h9
    exact h9
  have hall : s.sameButNew ({ U with vm := s.vm } : State) locs mc ms := by
    subst hA
    obtain ⟨e1, e2⟩ := hsame
    rw [State.setFrames_setFrames] at e1
    have h2 : (T.setVm s.vm).sameButNew ({ U with vm := s.vm } : State) [] (0 + 1) (0 + 6) := ⟨e1, e2⟩
    have h3 := X.same.trans h2
    rw [List.append_nil] at h3
    exact h3.mono hc hs
  refine ⟨U, ?_, .threw T.heap.size, hrun, hend, Or.inr ⟨T.heap.size, rfl, cls, ce, locs, hx U hWs.alike f1 (fun q hq => f2 q hq (fun z hz => nomatch hz)), hce, hO.vm, hcl, hWs, hall, hf⟩⟩
  refine st1 _ ?_
  show Steps p.tables e below (T1.setTop { method := m, pc := pc + 3, locals := ls, stack := .ref T.heap.size :: rest, locked := none }) _
  jvm_step X₁.here [X₁.here.top, hexec, d3', Value.category]
  exact X₁.ldcString hexec (own := own) (text := text) (index := is) (a := sa) hown' hstr'.1 hstr'.2
    (g := { method := m, pc := pc + 4, locals := ls, stack := .ref T.heap.size :: .ref T.heap.size :: rest, locked := none }) rfl d4' _ hsteps
/-- 'throw new E("text")', the text by a wide index -/
theorem vx_throwSW {cc : ByteArray} {pc : Nat} (hexec : p.tables.exec = Jvm.exec) (hb : c.code = cc) (hl : l.stackTraces = false) {own cls text : String} {names : List String} {ik is ic mc ms sa : Nat} {A : Nat → Prop}
    (hown : s.vm.findClass own = some m.cls) (hcls : Bundle.fit cls = true) (hnames : ∀ n ∈ names, Bundle.fit n = true)
    (hk : (Cond.classLink own ik cls).before args s = true) (hini : (Cond.initialized cls).before args s = true) (hstr : vk_R own is text sa s) (hat : ∀ w ∈ vx_atS own ic cls names, w.before args s = true)
    (hgood : ∀ w ∈ Cond.classLink own ik cls :: Cond.initialized cls :: vx_atS own ic cls names, vx_ot w = true)
    (hU : vx_Zq Bundle.tN "UNASSIGNED_STACK" Bundle.steD A s s.heap) (hN : vx_Zq Bundle.tN "SUPPRESSED_SENTINEL" Bundle.listD A s s.heap) (hS : va_S A s.heap H locs) (hsize : ls.size = c.maxLocals)
    (d0 : decode cc pc = .ok (.new ik, 3)) (d3 : decode cc (pc + 3) = .ok (.dup, 1)) (d4 : decode cc (pc + 4) = .ok (.ldc_w is, 3)) (d7 : decode cc (pc + 7) = .ok (.invokespecial ic, 3)) (d10 : decode cc (pc + 10) = .ok (.athrow, 1))
    (hout : ∀ x ∈ c.exceptionTable.toList, covers x (pc + 10) = false)
    (hRframes : names.length + 3 < R.frames) (hRlocals : (rest.map fun v => v.category).sum + (13 * (names.length + 1) + 43) ≤ R.locals) (hRcells : cells + 1 ≤ R.cells) (hRslots : slots + 6 ≤ R.slots) (hlocks : meth.locks = false)
    (hx : ∀ t : State, s.vm.Alike t.vm → H.size ≤ t.heap.size → (∀ q : Nat, q < H.size → t.heap[q]? = H[q]?) → XC cls s t)
    (hf : ∀ z ∈ locs, free z.base) (hc : cells + 1 ≤ mc) (hs : slots + 6 ≤ ms) :
    W p l e R s m args below meth c H locs cells slots (vx_MQ below Qc XC args s mc ms free) (F0 m pc ls rest) := by
  intro T hT X
  have htr : e.platform.stackTraces = false := (show e.platform.stackTraces = l.stackTraces by rw [X.admits.platform]).trans hl
  have Y := vx_rebase X (R' := { frames := R.frames, locals := R.locals, cells := 1, slots := 6 }) (Nat.le_refl _) (Nat.le_refl _) hRcells hRslots
  obtain ⟨s', hA⟩ : ∃ z, z = (T.setVm s.vm).setFrames (.invoking m args :: below) := ⟨_, rfl⟩
  rw [← hA] at Y
  have hvm : s'.vm = s.vm := by rw [hA]; rfl
  have hhp : s'.heap = H := by rw [hA]; exact hT
  have hW0 : s.WarmedH s'.vm := by rw [hvm]; exact State.WarmedH.refl s
  have hat' : ∀ w ∈ vx_atS own ic cls names, w.before args s' = true := fun w hw => vx_ot_at hW0 hvm.symm (hgood w (List.mem_cons_of_mem _ (List.mem_cons_of_mem _ hw))) (hat w hw)
  have hk' : (Cond.classLink own ik cls).before args s' = true := vx_ot_at hW0 hvm.symm (hgood _ List.mem_cons_self) hk
  have hini' : (Cond.initialized cls).before args s' = true := vx_ot_at hW0 hvm.symm (hgood _ (List.mem_cons_of_mem _ List.mem_cons_self)) hini
  have hU' : vx_Zq Bundle.tN "UNASSIGNED_STACK" Bundle.steD A s' s'.heap := by rw [hhp]; exact vx_Zq.moved hW0.alike (hU.kept hS.2.1)
  have hN' : vx_Zq Bundle.tN "SUPPRESSED_SENTINEL" Bundle.listD A s' s'.heap := by rw [hhp]; exact vx_Zq.moved hW0.alike (hN.kept hS.2.1)
  have h : ∀ w ∈ Bundle.ownAtoms own ic cls names, w.before args s' = true := vx_own hat' (vx_isRefq hU'.1) (vx_isRefq hN'.1) hU'.2.word hN'.2.word
  have hown' : s'.vm.findClass own = some m.cls := by rw [hvm]; exact hown
  have hins : (Cond.instantiable cls 6).before args s' = true := h _ (by simp [Bundle.ownAtoms])
  obtain ⟨vm₁, cX, kX, hfX, hkX, -, -, X₁, st1⟩ := Y.newCold hexec (own := own) (C := cls) (index := ik) (n := 6) hown' hk' hins hini'
    (g := F0 m pc ls rest) rfl (by rw [hb]; exact d0) (Nat.le_refl _) (Nat.le_refl _)
  generalize hT1 : (T.setVm vm₁).pushCell { cls := cX, slots := kX.instanceTypes.map defaultValue, vm := .none } = T1 at X₁ st1
  have hcat : (Value.ref T.heap.size).category = 1 := rfl
  have hcellA : T1.heap[T.heap.size]? = some (freshCell cX kX) := by rw [← hT1]; exact State.heap_pushCell_size _ _
  have d3' : decode c.code (pc + 3) = .ok (.dup, 1) := by rw [hb]; exact d3
  have d4' : decode c.code (pc + 4) = .ok (.ldc_w is, 3) := by rw [hb]; exact d4
  have hstr' : vk_R own is text sa s' := vk_R.warm hW0 hstr
  obtain ⟨U, hsteps, hrun, hend, hW, hsame, ce, hce, hO⟩ := X₁.ctorThrowS hexec htr (own := own) (cls := cls) (names := names) (ic := ic) hown' hcls hnames h (fun x hx => nomatch hx) hfX hkX hcellA (by rw [hhp, hT]; exact Nat.le_refl _) (msg := .ref sa) rfl
    (g := { method := m, pc := pc + 7, locals := ls, stack := .ref sa :: .ref T.heap.size :: .ref T.heap.size :: rest, locked := none }) rfl hsize rfl rfl (rest := rest) rfl
    (by rw [hb]; exact d7) (by rw [hb]; exact d10) hout hRframes (by simp only [List.map_cons, List.sum_cons, hcat]; omega) hlocks
  obtain ⟨f1, f2⟩ := vx_frame hsame
  rw [hhp] at f1 f2
  have hWs : s.WarmedH U.vm := State.WarmedH.trans hW0 hW
  have hcl : s.vm.findClass cls = some ce.cls := by
    have h9 := hO.cls
    rw [hvm] at h9
    exact h9
  have hall : s.sameButNew ({ U with vm := s.vm } : State) locs mc ms := by
    subst hA
    obtain ⟨e1, e2⟩ := hsame
    rw [State.setFrames_setFrames] at e1
    have h2 : (T.setVm s.vm).sameButNew ({ U with vm := s.vm } : State) [] (0 + 1) (0 + 6) := ⟨e1, e2⟩
    have h3 := X.same.trans h2
    rw [List.append_nil] at h3
    exact h3.mono hc hs
  refine ⟨U, ?_, .threw T.heap.size, hrun, hend, Or.inr ⟨T.heap.size, rfl, cls, ce, locs, hx U hWs.alike f1 (fun q hq => f2 q hq (fun z hz => nomatch hz)), hce, hO.vm, hcl, hWs, hall, hf⟩⟩
  refine st1 _ ?_
  show Steps p.tables e below (T1.setTop { method := m, pc := pc + 3, locals := ls, stack := .ref T.heap.size :: rest, locked := none }) _
  jvm_step X₁.here [X₁.here.top, hexec, d3', Value.category]
  exact X₁.ldcStringW hexec (own := own) (text := text) (index := is) (a := sa) hown' hstr'.1 hstr'.2
    (g := { method := m, pc := pc + 4, locals := ls, stack := .ref T.heap.size :: .ref T.heap.size :: rest, locked := none }) rfl d4' _ hsteps
end Ends
section Bodies
variable {l : Launch}
theorem vx_ofW {y : MethodName} {ws ws' : List Cond} {rm : Room} {Pc : Array Value → State → Prop} {Qc : Array Value → State → Outcome → State → Prop} {XC : String → State → State → Prop} {mc ms : Nat} {free : Addr → Prop} {cc : ByteArray} {maxL : Nat} {ret : Option FieldType}
    (hy : plainName y.cls = true) (hw : ws = Cond.code y cc maxL ret :: ws')
    (body : ∀ p e s m args below meth c s₁, BodyLoose p l y (headSpec ws rm) cc maxL ret e s m args below meth c s₁ → c.maxLocals = maxL → (∀ x ∈ c.exceptionTable.toList, False) → Pc args s →
      W p l e (headSpec ws rm).room s m args below meth c s.heap [] 0 0 (vx_MQ below Qc XC args s mc ms free) (entryFrame m args maxL)) : vx_Met l y ws rm Pc Qc XC mc ms free := by
  refine MetFree.of_bodyS (code := cc) (maxLocals := maxL) (ret := ret) hy ?_ ?_
  · intro args s m h hn
    obtain ⟨meth, c, h1, h2, h3, h4, h5, h6, -, -⟩ := Cond.code_spec hn (atoms_spec (ws := ws) h _ (by rw [hw]; exact List.mem_cons_self))
    exact ⟨meth, c, h1, h2, h3, h4, h5, h6⟩
  · intro p e s m args below meth c s₁ B hml hP _
    have hh0 : s₁.heap = s.heap := by rw [B.state]; rfl
    have ht : ∀ x ∈ c.exceptionTable.toList, False := by
      obtain ⟨meth9, c9, h1, h2, -, -, -, -, h7, -⟩ := Cond.code_spec B.named (atoms_spec (ws := ws) B.pre _ (by rw [hw]; exact List.mem_cons_self))
      cases Option.some.inj (h1.symm.trans B.method)
      cases Option.some.inj (h2.symm.trans (Stand.of_body B).code)
      intro x hx
      rw [Array.isEmpty_iff.mp h7] at hx
      cases hx
    obtain ⟨t, a1, o, b1, b2, b3⟩ := body p e s m args below meth c s₁ B hml ht hP s₁ hh0 (Stand.of_body B)
    exact ⟨t, o, a1, b1, b2, b3⟩
/-- the table of a body with handlers -/
theorem vx_table {p : Program} {x y : MethodName} {S : Spec} {cc bytes : ByteArray} {maxL maxL' : Nat} {ret ret' : Option FieldType} {e : Env} {s s₁ : State} {m : MethodId} {args : Array Value} {below : List Frame} {meth : Method} {c : Code} {hh : List (Nat × Nat × Nat × Nat)}
    (B : BodyLoose p l y S cc maxL ret e s m args below meth c s₁) (h : (Cond.codeWith y bytes maxL' ret' hh).before args s = true) : c.exceptionTable.toList = tableOf hh := by
  obtain ⟨m9, meth9, c9, hn9, h1, h2, -, -, h6, -⟩ := Cond.codeWith_spec h
  cases Option.some.inj (hn9.symm.trans B.named)
  cases Option.some.inj (h1.symm.trans B.method)
  cases Option.some.inj (h2.symm.trans (Stand.of_body B).code)
  rw [← h6, table_eq]
end Bodies
end VXA
/-! ===== END ===== -/
/-! ===== BEGIN a static call of a method with an exception table ===== -/
section VXS
variable {p : Program} {l : Launch} {e : Env} {R : Room} {s : State} {m : MethodId} {args : Array Value} {below : List Frame} {meth : Method} {c : Code} {T : State} {H : Heap} {locs : List Loc} {cells slots : Nat}
abbrev vx_CSW (R : Room) (s : State) (args : Array Value) (own : String) (index : Nat) (y : MethodName) (bytes : ByteArray) (maxL : Nat) (ret : Option FieldType) (hh : List (Nat × Nat × Nat × Nat)) (ws : List Cond) (rm : Room) (mc ms n : Nat) : Prop :=
  (rm.cells = mc ∧ rm.slots = ms ∧ rm.frames + 1 ≤ R.frames ∧ 8 + (maxL + 11) + rm.locals ≤ R.locals ∧ (∀ w ∈ ws, ∀ (a' : Array Value) (U : State), s.WarmedH U.vm → w.before a' U = true) ∧ Cond.codeWith y bytes maxL ret hh ∈ ws) ∧
  (Cond.codeWith y bytes maxL ret hh).before args s = true ∧ (Cond.initialized y.cls).before args s = true ∧ (y.cls ≠ "java/lang/invoke/MethodHandle" ∧ y.cls ≠ "java/lang/invoke/VarHandle") ∧
  (∀ sig, parseMethodDescriptor y.desc = some sig → n = sig.parameters.length) ∧ (Cond.methodLink own index y).before args s = true ∧ (Cond.static y).before args s = true
theorem vx_cwSW {own : String} {index maxL mc ms : Nat} {y : MethodName} {bytes : ByteArray} {ret : Option FieldType} {hh : List (Nat × Nat × Nat × Nat)} {Ts ws ws' : List Cond} {rm : Room} (n : Nat) (ht : ∀ w ∈ Ts, w.before args s = true) (hT : GoodIn Ts (va_wsS own index y ws)) (hw : ws = Cond.codeWith y bytes maxL ret hh :: ws') (hrc : rm.cells = mc) (hrs : rm.slots = ms)
    (hd : y.cls ≠ "java/lang/invoke/MethodHandle" ∧ y.cls ≠ "java/lang/invoke/VarHandle" ∧ (parseMethodDescriptor y.desc).map (fun d => d.parameters.length) = some n) (hR : rm.frames + 1 ≤ R.frames ∧ 8 + (maxL + 11) + rm.locals ≤ R.locals) :
    vx_CSW R s args own index y bytes maxL ret hh ws rm mc ms n := by
  have ok : ∀ w ∈ va_wsS own index y ws, w.before args s = true := fun w h => ht w (hT w h).1
  have hG : GoodIn Ts ws := fun w h => hT w (by unfold va_wsS; exact List.mem_append_right _ h)
  have hc : Cond.codeWith y bytes maxL ret hh ∈ ws := by rw [hw]; exact List.mem_cons_self
  refine ⟨⟨hrc, hrs, hR.1, hR.2, pay_in ht hG, hc⟩, ht _ (hG _ hc).1, ok _ (by simp [va_wsS]), ⟨hd.1, hd.2.1⟩, fun sig h => ?_, ok _ (by simp [va_wsS]), ok _ (by simp [va_wsS])⟩
  have h2 := hd.2.2
  rw [h] at h2
  exact (Option.some.inj h2).symm
theorem vx_callSW (X : Stand p l e R s m args below meth c T locs cells slots) (hexec : p.tables.exec = Jvm.exec) {own : String} {index : Nat} {y : MethodName} {bytes : ByteArray} {maxL : Nat} {ret : Option FieldType} {hh : List (Nat × Nat × Nat × Nat)}
    (hown : s.vm.findClass own = some m.cls) (hlink : (Cond.methodLink own index y).before args s = true) (hstat : (Cond.static y).before args s = true) (hinit : (Cond.initialized y.cls).before args s = true)
    (hcode : (Cond.codeWith y bytes maxL ret hh).before args s = true) (hy : y.cls ≠ "java/lang/invoke/MethodHandle" ∧ y.cls ≠ "java/lang/invoke/VarHandle")
    {W9 : Nat} {Pre : Pt → Array Value → Prop} {Post : Pt → Array Value → Option Value → Pt → Prop} (hK : Back l R p e below s args y 3 W9 Pre Post)
    {g : JFrame} (hg : g.method = m) (hsize : g.locals.size = c.maxLocals) {argsL rest : List Value} (hlen : ∀ sig, parseMethodDescriptor y.desc = some sig → argsL.length = sig.parameters.length)
    (hstack : g.stack = argsL.reverse ++ rest) (hW : 2 * g.monitorRoom + (rest.map fun v => v.category).sum ≤ W9) (hdg : decode c.code g.pc = .ok (.invokestatic index, 3))
    (hpre : ∀ vm₁, s.WarmedH vm₁ → Pre ⟨T.setVm vm₁, locs, cells, slots⟩ argsL.toArray) :
    ∃ (v : Option Value) (vm₁ : Vm) (B : Pt), s.WarmedH vm₁ ∧ Stand p l e R s m args below meth c B.U B.locs B.cells B.slots ∧ Post ⟨T.setVm vm₁, locs, cells, slots⟩ argsL.toArray v B ∧
      ∀ target, Steps p.tables e below (B.U.setTop { g with pc := g.pc + 3, stack := v.toList ++ rest }) target → Steps p.tables e below (T.setTop g) target := by
  obtain ⟨mk, methM, cM, hnamed, hmethM, -, -, -, -, -, -, hsigM⟩ := Cond.codeWith_spec hcode
  have hstatic : methM.isStatic = true := Cond.static_spec hnamed hmethM hstat
  obtain ⟨kP, hkP, -⟩ := className_of_methodNamed hnamed
  have hinitP : kP.init = .initialized := Cond.initialized_spec (findClass_of_methodNamed hnamed) hkP hinit
  obtain ⟨vm₁, X₁, hstep₁⟩ := X.invokestatic hexec hown hlink hnamed hmethM hstatic hkP hinitP hy (g := g) hg (argsL := argsL) (rest := rest) (hlen _ hsigM) hstack hdg
  obtain ⟨v, B, X', hpost, hsteps⟩ := hK m meth c ⟨T.setVm vm₁, locs, cells, slots⟩ { g with stack := rest } (.invokestatic index) mk argsL.toArray X₁ hg hsize hdg hW (X₁.named hnamed) (hpre vm₁ X₁.warmed)
  exact ⟨v, vm₁, B, X₁.warmed, X', hpost, fun target h => hstep₁ _ fun acts => by rw [doInvoke_state]; exact hsteps.trans h⟩
theorem vx_runSW {y : MethodName} {bytes cc : ByteArray} {maxL nL mc ms n index : Nat} {ret : Option FieldType} {hh : List (Nat × Nat × Nat × Nat)} {ws : List Cond} {rm : Room} {Pc : Array Value → State → Prop} {Qc : Array Value → State → Outcome → State → Prop} {free : Addr → Prop} {Ts : List Cond} {own : String} {As rest : List Value} {g : JFrame}
    (S : CallFix p m c cc nL s args Ts own) (hM : Met l y ws rm Pc Qc mc ms free) (cw : vx_CSW R s args own index y bytes maxL ret hh ws rm mc ms n) (hp : PreS s H Pc As)
    (hg : g.method = m) (hn : As.length = n) (hsize : g.locals.size = nL) (hstack : g.stack = As.reverse ++ rest) (hW : 2 * g.monitorRoom + (rest.map fun v => v.category).sum ≤ 8) (hdg : decode cc g.pc = .ok (.invokestatic index, 3)) (hf : cells + mc ≤ R.cells ∧ slots + ms ≤ R.slots) :
    va_Run p l e R s m args below meth c H locs cells slots mc ms g rest (Qc As.toArray) (free) := by
  obtain ⟨⟨hrc, hrs, hfr, hlo, hws, hcw⟩, hcode, hini, hy, hlen, hl, hstt⟩ := cw
  have hK : Back l R p e below s args y 3 8 (PreOf R mc ms Pc) (PostOf Qc mc ms free) := va_backW (hh := hh) (bytes := bytes) (maxL := maxL) (ret := ret) hM hp.1 hrc hrs hfr hlo hws hcw (fun a' U hW => word_at hW (Or.inl (by first | rfl | simp [Cond.onTables, Cond.keeps, Cond.steady])) hini)
  obtain ⟨hx, hb, hml, ho, -⟩ := S
  intro T hT X
  obtain ⟨v, vm₁, ⟨U', l2, c2, s2⟩, hW₁, X', ⟨g', mk, t, L, e1, e2, hq, h1, hL, h2, h3⟩, st⟩ := vx_callSW X hx (hh := hh) (bytes := bytes) (maxL := maxL) (ret := ret) ho hl hstt hini hcode hy hK hg (hsize.trans hml.symm) (argsL := As) (rest := rest) (fun sig h => hn.trans (hlen sig h)) hstack hW (by rw [hb]; exact hdg)
    (fun vm₁ hW₁ => ⟨hf.1, hf.2, hp.2 (T.setVm vm₁) hT hW₁⟩)
  dsimp only [Pt.U, Pt.locs, Pt.cells, Pt.slots] at X' e1 e2 h1 h2 h3 st
  subst h1; subst h2; subst h3
  exact ⟨v, (T.setVm vm₁).calling g' mk As.toArray, t, U', L, hT, X', hL, e1, e2, hq, st⟩
/-- not caught here, past rows that name other classes: it goes on to the caller -/
theorem vx_outP {p : Program} {l : Launch} {e : Env} {R : Room} {s : State} {m : MethodId} {args : Array Value} {below : List Frame} {meth : Method} {c : Code} {H : Heap} {locs : List Loc} {cells slots : Nat} {free : Addr → Prop} {ls : Array Slot} {rest : List Value} {Qc : Array Value → State → Outcome → State → Prop} {XC : String → State → State → Prop}
    {pc : Nat} {own E : String} {ce : Cell} {q : Addr} {mc ms : Nat} (hown : s.vm.findClass own = some m.cls) (hlocks : meth.locks = false)
    (hpass : ∀ z ∈ c.exceptionTable.toList, covers z pc = false ∨ (z.catchType ≠ 0 ∧ ∃ nm : String, (Cond.classLink own z.catchType nm).before args s = true ∧ va_Nc E nm s)) (hcell : H[q]? = some ce) (hv : ce.vm = .none) (hcl : s.vm.findClass E = some ce.cls)
    (hx : ∀ t : State, t.heap = H → s.vm.Alike t.vm → XC E s t) (hf : ∀ z ∈ locs, free z.base) (hc : cells ≤ mc) (hs : slots ≤ ms) :
    vx_W p l e R s m args below meth c H locs cells slots (vx_MQ below Qc XC args s mc ms free) (F0 m pc ls rest) q := by
  intro T hT X
  have hpl : e.platform.magicAccessors = ({} : Platform).magicAccessors := by rw [X.admits.platform]
  obtain ⟨vm', hW', X', st⟩ := X.outThrough hlocks q (g := F0 m pc ls rest) rfl rfl rfl (cell := ce) (by rw [hT]; exact hcell) (by rw [hv]; rfl)
    (by obtain ⟨k9, h9, -⟩ := Vm.findClass_spec hcl; exact ⟨k9, h9⟩) (fun z hz => by
      rcases hpass z hz with h | ⟨hz0, nm, hl1, hn1⟩
      · exact Or.inl h
      · obtain ⟨c6, hc6, hcl6⟩ := Cond.classLink_spec hown hl1 e.platform hpl
        obtain ⟨a8, b8, h1, h2, h3⟩ := hn1
        cases Option.some.inj (h1.symm.trans hcl)
        cases Option.some.inj (h2.symm.trans hc6)
        exact Or.inr ⟨hz0, _, hcl6, h3⟩)
  obtain ⟨g₀, hfr⟩ := X'.frames_eq
  have hcell9 : ((T.setVm vm').setFrames (.throwing q :: below)).heap[q]? = some ce := by
    show T.heap[q]? = some ce
    rw [hT]; exact hcell
  have hend : Ended ((T.setVm vm').setFrames (.throwing q :: below)) below (.threw q) := State.frames_setFrames _ (State.cur_lt_of_frames hfr)
  refine ⟨(T.setVm vm').setFrames (.throwing q :: below), ?_, .threw q, X'.here.running, hend, Or.inr ⟨q, rfl, E, ce, locs, hx _ hT (X'.ends _).1.alike, hcell9, hv, hcl, (X'.ends _).1, (X'.ends _).2.mono hc hs, hf⟩⟩
  rw [X.pushThrowing_eq]
  exact st
/-- a thing of a world lies in the heap -/
theorem vx_lt {D : va_G} {cl : List vw_C} {ws : va_W} {H1 : Heap} (h : va_P D cl ws H1) {k : Nat} {q : Nat × va_E} (hk : ws[k]? = some q) : q.1 < H1.size := (h k q hk).lt
end VXS
/-! ===== END ===== -/
/-! ===== BEGIN methods with a table of their own: called by a name, returning or throwing ===== -/
section VXH
/-! vx_backW, vx_callVX, vx_callSX, vx_callVW, vx_runVW, vx_runVX, vx_runSX, vx_ofWH follow the same proofs as their sisters above (Free/Laws.lean, Shelf42/LK1.lean); vx_outP calls Shelf42/NT130.lean (outThrough). -/
section
variable {l : Launch} {R : Room} {p : Program} {e : Env} {below : List Frame} {s : State} {sargs : Array Value} {y : MethodName} {len W9 : Nat}
theorem vx_backW {ws : List Cond} {rm : Room} {Pc : Array Value → State → Prop} {Qc : Array Value → State → Outcome → State → Prop} {XC : String → State → State → Prop} {mc ms : Nat} {free : Addr → Prop} {bytes : ByteArray} {maxL : Nat} {ret : Option FieldType} {hh : List (Nat × Nat × Nat × Nat)}
    (hM : vx_Met l y ws rm Pc Qc XC mc ms free) (hblind : FrameBlind Pc) (hrc : rm.cells = mc) (hrs : rm.slots = ms)
    (hframes : rm.frames + 1 ≤ R.frames) (hlocals : W9 + (maxL + 11) + rm.locals ≤ R.locals)
    (hws : ∀ w ∈ ws, ∀ a' U, s.WarmedH U.vm → w.before a' U = true) (hcode : Cond.codeWith y bytes maxL ret hh ∈ ws) (hinit : ∀ a' U, s.WarmedH U.vm → (Cond.initialized y.cls).before a' U = true) :
    vx_Back l R p e below s sargs y len W9 (PreOf R mc ms Pc) (PostOf Qc mc ms free) (vx_Post XC mc ms free) := by
  intro m meth c A g ig mk a X hg hsize hdg hW hn hp
  have h1 : (headSpec ws rm).pre.before a A.U = true := atoms_intro fun w hw => hws w hw _ _ X.warmed
  have h2 : (Cond.codeWith y bytes maxL ret hh).before a A.U = true := hws _ hcode _ _ X.warmed
  have h3 : (Cond.initialized y.cls).before a A.U = true := hinit _ _ X.warmed
  have h4 : A.cells + (headSpec ws rm).room.cells ≤ R.cells := by rw [show (headSpec ws rm).room.cells = mc from hrc]; exact hp.1
  have h5 : A.slots + (headSpec ws rm).room.slots ≤ R.slots := by rw [show (headSpec ws rm).room.slots = ms from hrs]; exact hp.2.1
  have hPc : Pc a (A.U.calling g mk a) := hblind _ _ _ _ hp.2.2
  obtain ⟨U, Ls, c0, s0⟩ := A
  dsimp only [Pt.U, Pt.locs, Pt.cells, Pt.slots] at h1 h2 h3 h4 h5 X hn hPc ⊢
  obtain ⟨m9, methY, cY, hn9, hmY, hcY, -, hlY, -⟩ := Cond.codeWith_spec h2
  cases Option.some.inj (hn9.symm.trans hn)
  obtain ⟨kY, hkY, -⟩ := className_of_methodNamed hn
  have hinitY : kY.init = .initialized := Cond.initialized_spec (findClass_of_methodNamed hn) hkY h3
  have h : At U g.method c below := by rw [hg]; exact X.here
  have hlocals9 : W9 + (maxL + 11) + (headSpec ws rm).room.locals ≤ R.locals := hlocals
  have happ : (headSpec ws rm).appliesLoose y e.platform (U.calling g mk a) = true :=
    Spec.appliesLoose_calling (g := g) h hdg hn hkY hinitY
      (X.room_calling (g := g) (R' := (headSpec ws rm).room) hsize hmY hcY hframes (by rw [hlY]; omega) h4 h5) h1
  obtain ⟨mid, hmid⟩ := h.above
  have hfr : (U.setTop g).frames = (.java g :: mid) ++ below := by rw [State.frames_setTop' g h.top, hmid]; rfl
  obtain ⟨o, s₂, hsteps, -, hend, hq⟩ := Steps.callFree hM p X.admits X.cas X.clock (acts := []) hfr happ hPc trivial
  have hq' : vx_Q Qc XC mc ms free a (U.calling g mk a) o s₂ := hq
  rw [State.frames_setTop' g h.top] at hend
  obtain ⟨g₀, hg0⟩ := Option.isSome_iff_exists.mp h.top
  obtain ⟨r, hr⟩ := State.topJava?_eq_some.mp hg0
  have hr' : (({ U with heap := s₂.heap, slotsUsed := s₂.slotsUsed } : State).setVm s₂.vm).frames = .java g₀ :: r := hr
  rcases hq' with ⟨hqc, L, hfe, hL⟩ | ⟨q, rfl, E, ce, L, hx, hce, hcv, hcl, hW₂, hsm, hL⟩
  · obtain ⟨⟨v, rfl⟩, hW₂, e2, q2, q3, q4, q5, q6⟩ := id hfe
    have e3 : s₂ = ({ (U.calling g mk a).setFrames s₂.frames with heap := s₂.heap, slotsUsed := s₂.slotsUsed } : State).setVm s₂.vm := by
      have : s₂ = ({ s₂ with vm := (U.calling g mk a).vm } : State).setVm s₂.vm := rfl
      rw [e2] at this
      exact this
    obtain ⟨c₂, i₂, len₂, hc₂, hd₂, hf₂⟩ := hend
    have hW' : U.WarmedH s₂.vm := hW₂
    have hcc : c₂ = c := by
      have h1 : s₂.code? g.method = U.code? g.method := by
        rw [State.code?_eq, State.code?_eq, hW'.alike.method?]
      exact Option.some.inj (hc₂.symm.trans (h1.trans h.code))
    subst hcc
    have hlen : len₂ = len := by rw [hdg] at hd₂; cases hd₂; rfl
    subst hlen
    have hs₂ : s₂ = (({ U with heap := s₂.heap, slotsUsed := s₂.slotsUsed } : State).setVm s₂.vm).setTop { g with pc := g.pc + len₂, stack := v.toList ++ g.stack } := by
      refine e3.trans ?_
      rw [hf₂, State.calling_eq h.top, State.setFrames_setFrames, State.setTop_of_frames _ hr', hr]
      rfl
    have hsame : U.sameButNew ({ U with heap := s₂.heap, slotsUsed := s₂.slotsUsed } : State) L mc ms := by
      refine ⟨?_, q2, q3, q4, q5, q6⟩
      obtain ⟨t, ht, -⟩ := State.frames_cons hr
      show ({ U with heap := s₂.heap, slotsUsed := s₂.slotsUsed } : State) = { U.setFrames U.frames with heap := s₂.heap, slotsUsed := s₂.slotsUsed }
      rw [State.setFrames_self ht]
    subst hg
    refine Or.inl ⟨v, ⟨(({ U with heap := s₂.heap, slotsUsed := s₂.slotsUsed } : State).setVm s₂.vm), Ls ++ L, c0 + mc, s0 + ms⟩,
      ⟨X.admits, X.cas, X.clock, X.frames, X.room, X.hears, X.method, X.code, (X.here.setHeapUsed s₂.heap s₂.slotsUsed).setVm hW'.alike, X.tail, State.WarmedH.trans X.warmed hW', X.limits, X.bytes, X.same.trans (hsame.setVm s.vm)⟩,
      ⟨g, mk, s₂, L, rfl, rfl, hqc, rfl, hL, rfl, rfl⟩, ?_⟩
    show Steps p.tables e below _ ((({ U with heap := s₂.heap, slotsUsed := s₂.slotsUsed } : State).setVm s₂.vm).setTop { g with pc := g.pc + len₂, stack := v.toList ++ g.stack })
    rw [← hs₂]
    exact hsteps
  · obtain ⟨e2, q2, q3, q4, q5, q6⟩ := id hsm
    have e3 : s₂ = ({ (U.calling g mk a).setFrames s₂.frames with heap := s₂.heap, slotsUsed := s₂.slotsUsed } : State).setVm s₂.vm := by
      have : s₂ = ({ s₂ with vm := (U.calling g mk a).vm } : State).setVm s₂.vm := rfl
      rw [e2] at this
      exact this
    have hf₂ : s₂.frames = .throwing q :: .java g :: U.frames.tail := hend
    have hW' : U.WarmedH s₂.vm := hW₂
    have hs₂ : s₂ = ((({ U with heap := s₂.heap, slotsUsed := s₂.slotsUsed } : State).setVm s₂.vm).setTop g).pushFrame (.throwing q) := by
      refine e3.trans ?_
      rw [hf₂, State.calling_eq h.top, State.setFrames_setFrames, State.pushFrame, State.frames_setTop _ hr', State.setTop_of_frames _ hr', State.setFrames_setFrames, hr]
      rfl
    have hsame : U.sameButNew ({ U with heap := s₂.heap, slotsUsed := s₂.slotsUsed } : State) L mc ms := by
      refine ⟨?_, q2, q3, q4, q5, q6⟩
      obtain ⟨t, ht, -⟩ := State.frames_cons hr
      show ({ U with heap := s₂.heap, slotsUsed := s₂.slotsUsed } : State) = { U.setFrames U.frames with heap := s₂.heap, slotsUsed := s₂.slotsUsed }
      rw [State.setFrames_self ht]
    subst hg
    refine Or.inr ⟨q, ⟨(({ U with heap := s₂.heap, slotsUsed := s₂.slotsUsed } : State).setVm s₂.vm), Ls ++ L, c0 + mc, s0 + ms⟩,
      ⟨X.admits, X.cas, X.clock, X.frames, X.room, X.hears, X.method, X.code, (X.here.setHeapUsed s₂.heap s₂.slotsUsed).setVm hW'.alike, X.tail, State.WarmedH.trans X.warmed hW', X.limits, X.bytes, X.same.trans (hsame.setVm s.vm)⟩,
      ⟨g, mk, s₂, L, E, ce, rfl, rfl, hx, hce, hcv, hcl, rfl, hL, rfl, rfl⟩, ?_⟩
    show Steps p.tables e below _ (((({ U with heap := s₂.heap, slotsUsed := s₂.slotsUsed } : State).setVm s₂.vm).setTop g).pushFrame (.throwing q))
    rw [← hs₂]
    exact hsteps
end
variable {p : Program} {l : Launch} {e : Env} {R : Room} {s : State} {m : MethodId} {args : Array Value} {below : List Frame} {meth : Method} {c : Code} {T : State} {H : Heap} {locs : List Loc} {cells slots : Nat}
theorem vx_callVX (X : Stand p l e R s m args below meth c T locs cells slots) (hexec : p.tables.exec = Jvm.exec) {own C : String} {index : Nat} {y : MethodName} {bytes : ByteArray} {maxL : Nat} {ret : Option FieldType} {hh : List (Nat × Nat × Nat × Nat)}
    (hown : s.vm.findClass own = some m.cls) (hlink : (Cond.methodLink own index y).before args s = true) (hinst : (Cond.instanceMethod y).before args s = true) (hsel : (Cond.selects C y y).before args s = true)
    (hcode : (Cond.codeWith y bytes maxL ret hh).before args s = true) (hy : y.cls ≠ "java/lang/invoke/MethodHandle" ∧ y.cls ≠ "java/lang/invoke/VarHandle")
    {W9 : Nat} {Pre : Pt → Array Value → Prop} {Post : Pt → Array Value → Option Value → Pt → Prop} {PostX : Pt → Array Value → Addr → Pt → Prop} (hK : vx_Back l R p e below s args y 3 W9 Pre Post PostX)
    {b : Addr} {cellB : Cell} (hcell : T.heap[b]? = some cellB) (hobj : cellB.vm.isStatics = false) (hcls : s.vm.findClass C = some cellB.cls)
    {g : JFrame} (hg : g.method = m) (hsize : g.locals.size = c.maxLocals) {argsL rest : List Value} (hlen : ∀ sig, parseMethodDescriptor y.desc = some sig → argsL.length = sig.parameters.length)
    (hstack : g.stack = argsL.reverse ++ .ref b :: rest) (hW : 2 * g.monitorRoom + (rest.map fun v => v.category).sum ≤ W9) (hdg : decode c.code g.pc = .ok (.invokevirtual index, 3))
    (hpre : ∀ vm₁, s.WarmedH vm₁ → Pre ⟨T.setVm vm₁, locs, cells, slots⟩ (Value.ref b :: argsL).toArray) :
    (∃ (v : Option Value) (vm₁ : Vm) (B : Pt), s.WarmedH vm₁ ∧ Stand p l e R s m args below meth c B.U B.locs B.cells B.slots ∧ Post ⟨T.setVm vm₁, locs, cells, slots⟩ (Value.ref b :: argsL).toArray v B ∧
      ∀ target, Steps p.tables e below (B.U.setTop { g with pc := g.pc + 3, stack := v.toList ++ rest }) target → Steps p.tables e below (T.setTop g) target) ∨
    (∃ (q : Addr) (vm₁ : Vm) (B : Pt), s.WarmedH vm₁ ∧ Stand p l e R s m args below meth c B.U B.locs B.cells B.slots ∧ PostX ⟨T.setVm vm₁, locs, cells, slots⟩ (Value.ref b :: argsL).toArray q B ∧
      Steps p.tables e below (T.setTop g) ((B.U.setTop { g with stack := rest }).pushFrame (.throwing q))) := by
  obtain ⟨mk, methM, hnamed, hmethM, hstM, habM⟩ := Cond.instanceMethod_spec hinst
  obtain ⟨m8, methM', cM, hn8, hmethM', -, -, -, -, -, -, hsigM⟩ := Cond.codeWith_spec hcode
  cases Option.some.inj (hn8.symm.trans hnamed)
  cases hmethM.symm.trans hmethM'
  obtain ⟨c2, r2, m2, q1, q2, q3, q4, kP, hkP, hkPi⟩ := Cond.selects_spec hsel
  cases hcls.symm.trans q1
  cases (State.methodFound?_of_named hnamed hy).symm.trans q2
  cases hnamed.symm.trans q3
  have hselP : selectMethod e.platform s.vm cellB.cls mk = .method mk := by rw [Launch.admits_selectMethod X.admits]; exact q4
  obtain ⟨vm₁, X₁, hstep₁⟩ := X.invokevirtual hexec hown hlink hnamed hmethM hstM hkP hkPi hy (a := b) (cell := cellB) hcell
    (fun z h => by rw [h] at hobj; cases hobj) hselP hmethM habM hkP hkPi (g := g) hg (argsL := argsL) (rest := rest) (hlen _ hsigM) hstack hdg
  rcases hK m meth c ⟨T.setVm vm₁, locs, cells, slots⟩ { g with stack := rest } (.invokevirtual index) mk (Value.ref b :: argsL).toArray X₁ hg hsize hdg hW (X₁.named hnamed) (hpre vm₁ X₁.warmed) with ⟨v, B, X', hpost, hsteps⟩ | ⟨q, B, X', hpost, hsteps⟩
  · exact Or.inl ⟨v, vm₁, B, X₁.warmed, X', hpost, fun target h => hstep₁ _ fun acts => by rw [doInvoke_state]; exact hsteps.trans h⟩
  · exact Or.inr ⟨q, vm₁, B, X₁.warmed, X', hpost, hstep₁ _ fun acts => by rw [doInvoke_state]; exact hsteps⟩
theorem vx_callSX (X : Stand p l e R s m args below meth c T locs cells slots) (hexec : p.tables.exec = Jvm.exec) {own : String} {index : Nat} {y : MethodName} {bytes : ByteArray} {maxL : Nat} {ret : Option FieldType} {hh : List (Nat × Nat × Nat × Nat)}
    (hown : s.vm.findClass own = some m.cls) (hlink : (Cond.methodLink own index y).before args s = true) (hstat : (Cond.static y).before args s = true) (hinit : (Cond.initialized y.cls).before args s = true)
    (hcode : (Cond.codeWith y bytes maxL ret hh).before args s = true) (hy : y.cls ≠ "java/lang/invoke/MethodHandle" ∧ y.cls ≠ "java/lang/invoke/VarHandle")
    {W9 : Nat} {Pre : Pt → Array Value → Prop} {Post : Pt → Array Value → Option Value → Pt → Prop} {PostX : Pt → Array Value → Addr → Pt → Prop} (hK : vx_Back l R p e below s args y 3 W9 Pre Post PostX)
    {g : JFrame} (hg : g.method = m) (hsize : g.locals.size = c.maxLocals) {argsL rest : List Value} (hlen : ∀ sig, parseMethodDescriptor y.desc = some sig → argsL.length = sig.parameters.length)
    (hstack : g.stack = argsL.reverse ++ rest) (hW : 2 * g.monitorRoom + (rest.map fun v => v.category).sum ≤ W9) (hdg : decode c.code g.pc = .ok (.invokestatic index, 3))
    (hpre : ∀ vm₁, s.WarmedH vm₁ → Pre ⟨T.setVm vm₁, locs, cells, slots⟩ argsL.toArray) :
    (∃ (v : Option Value) (vm₁ : Vm) (B : Pt), s.WarmedH vm₁ ∧ Stand p l e R s m args below meth c B.U B.locs B.cells B.slots ∧ Post ⟨T.setVm vm₁, locs, cells, slots⟩ argsL.toArray v B ∧
      ∀ target, Steps p.tables e below (B.U.setTop { g with pc := g.pc + 3, stack := v.toList ++ rest }) target → Steps p.tables e below (T.setTop g) target) ∨
    (∃ (q : Addr) (vm₁ : Vm) (B : Pt), s.WarmedH vm₁ ∧ Stand p l e R s m args below meth c B.U B.locs B.cells B.slots ∧ PostX ⟨T.setVm vm₁, locs, cells, slots⟩ argsL.toArray q B ∧
      Steps p.tables e below (T.setTop g) ((B.U.setTop { g with stack := rest }).pushFrame (.throwing q))) := by
  obtain ⟨mk, methM, cM, hnamed, hmethM, -, -, -, -, -, -, hsigM⟩ := Cond.codeWith_spec hcode
  have hstatic : methM.isStatic = true := Cond.static_spec hnamed hmethM hstat
  obtain ⟨kP, hkP, -⟩ := className_of_methodNamed hnamed
  have hinitP : kP.init = .initialized := Cond.initialized_spec (findClass_of_methodNamed hnamed) hkP hinit
  obtain ⟨vm₁, X₁, hstep₁⟩ := X.invokestatic hexec hown hlink hnamed hmethM hstatic hkP hinitP hy (g := g) hg (argsL := argsL) (rest := rest) (hlen _ hsigM) hstack hdg
  rcases hK m meth c ⟨T.setVm vm₁, locs, cells, slots⟩ { g with stack := rest } (.invokestatic index) mk argsL.toArray X₁ hg hsize hdg hW (X₁.named hnamed) (hpre vm₁ X₁.warmed) with ⟨v, B, X', hpost, hsteps⟩ | ⟨q, B, X', hpost, hsteps⟩
  · exact Or.inl ⟨v, vm₁, B, X₁.warmed, X', hpost, fun target h => hstep₁ _ fun acts => by rw [doInvoke_state]; exact hsteps.trans h⟩
  · exact Or.inr ⟨q, vm₁, B, X₁.warmed, X', hpost, hstep₁ _ fun acts => by rw [doInvoke_state]; exact hsteps⟩
theorem vx_callVW (X : Stand p l e R s m args below meth c T locs cells slots) (hexec : p.tables.exec = Jvm.exec) {own C : String} {index : Nat} {y : MethodName} {bytes : ByteArray} {maxL : Nat} {ret : Option FieldType} {hh : List (Nat × Nat × Nat × Nat)}
    (hown : s.vm.findClass own = some m.cls) (hlink : (Cond.methodLink own index y).before args s = true) (hinst : (Cond.instanceMethod y).before args s = true) (hsel : (Cond.selects C y y).before args s = true)
    (hcode : (Cond.codeWith y bytes maxL ret hh).before args s = true) (hy : y.cls ≠ "java/lang/invoke/MethodHandle" ∧ y.cls ≠ "java/lang/invoke/VarHandle")
    {W9 : Nat} {Pre : Pt → Array Value → Prop} {Post : Pt → Array Value → Option Value → Pt → Prop} (hK : Back l R p e below s args y 3 W9 Pre Post)
    {b : Addr} {cellB : Cell} (hcell : T.heap[b]? = some cellB) (hobj : cellB.vm.isStatics = false) (hcls : s.vm.findClass C = some cellB.cls)
    {g : JFrame} (hg : g.method = m) (hsize : g.locals.size = c.maxLocals) {argsL rest : List Value} (hlen : ∀ sig, parseMethodDescriptor y.desc = some sig → argsL.length = sig.parameters.length)
    (hstack : g.stack = argsL.reverse ++ .ref b :: rest) (hW : 2 * g.monitorRoom + (rest.map fun v => v.category).sum ≤ W9) (hdg : decode c.code g.pc = .ok (.invokevirtual index, 3))
    (hpre : ∀ vm₁, s.WarmedH vm₁ → Pre ⟨T.setVm vm₁, locs, cells, slots⟩ (Value.ref b :: argsL).toArray) :
    ∃ (v : Option Value) (vm₁ : Vm) (B : Pt), s.WarmedH vm₁ ∧ Stand p l e R s m args below meth c B.U B.locs B.cells B.slots ∧ Post ⟨T.setVm vm₁, locs, cells, slots⟩ (Value.ref b :: argsL).toArray v B ∧
      ∀ target, Steps p.tables e below (B.U.setTop { g with pc := g.pc + 3, stack := v.toList ++ rest }) target → Steps p.tables e below (T.setTop g) target := by
  obtain ⟨mk, methM, hnamed, hmethM, hstM, habM⟩ := Cond.instanceMethod_spec hinst
  obtain ⟨m8, methM', cM, hn8, hmethM', -, -, -, -, -, -, hsigM⟩ := Cond.codeWith_spec hcode
  cases Option.some.inj (hn8.symm.trans hnamed)
  cases hmethM.symm.trans hmethM'
  obtain ⟨c2, r2, m2, q1, q2, q3, q4, kP, hkP, hkPi⟩ := Cond.selects_spec hsel
  cases hcls.symm.trans q1
  cases (State.methodFound?_of_named hnamed hy).symm.trans q2
  cases hnamed.symm.trans q3
  have hselP : selectMethod e.platform s.vm cellB.cls mk = .method mk := by rw [Launch.admits_selectMethod X.admits]; exact q4
  obtain ⟨vm₁, X₁, hstep₁⟩ := X.invokevirtual hexec hown hlink hnamed hmethM hstM hkP hkPi hy (a := b) (cell := cellB) hcell
    (fun z h => by rw [h] at hobj; cases hobj) hselP hmethM habM hkP hkPi (g := g) hg (argsL := argsL) (rest := rest) (hlen _ hsigM) hstack hdg
  obtain ⟨v, B, X', hpost, hsteps⟩ := hK m meth c ⟨T.setVm vm₁, locs, cells, slots⟩ { g with stack := rest } (.invokevirtual index) mk (Value.ref b :: argsL).toArray X₁ hg hsize hdg hW (X₁.named hnamed) (hpre vm₁ X₁.warmed)
  exact ⟨v, vm₁, B, X₁.warmed, X', hpost, fun target h => hstep₁ _ fun acts => by rw [doInvoke_state]; exact hsteps.trans h⟩
abbrev vx_CVW (R : Room) (s : State) (args : Array Value) (own C : String) (index : Nat) (y : MethodName) (bytes : ByteArray) (maxL : Nat) (ret : Option FieldType) (hh : List (Nat × Nat × Nat × Nat)) (ws : List Cond) (rm : Room) (mc ms n : Nat) : Prop :=
  (rm.cells = mc ∧ rm.slots = ms ∧ rm.frames + 1 ≤ R.frames ∧ 8 + (maxL + 11) + rm.locals ≤ R.locals ∧ (∀ w ∈ ws, ∀ (a' : Array Value) (U : State), s.WarmedH U.vm → w.before a' U = true) ∧ Cond.codeWith y bytes maxL ret hh ∈ ws) ∧
  (Cond.codeWith y bytes maxL ret hh).before args s = true ∧ (Cond.initialized y.cls).before args s = true ∧ (y.cls ≠ "java/lang/invoke/MethodHandle" ∧ y.cls ≠ "java/lang/invoke/VarHandle") ∧
  (∀ sig, parseMethodDescriptor y.desc = some sig → n = sig.parameters.length) ∧ (Cond.methodLink own index y).before args s = true ∧ (Cond.instanceMethod y).before args s = true ∧ (Cond.selects C y y).before args s = true
theorem vx_cwVW {own C : String} {index maxL mc ms : Nat} {y : MethodName} {bytes : ByteArray} {ret : Option FieldType} {hh : List (Nat × Nat × Nat × Nat)} {Ts ws ws' : List Cond} {rm : Room} (n : Nat) (ht : ∀ w ∈ Ts, w.before args s = true) (hT : GoodIn Ts (wsV own index C y ws)) (hw : ws = Cond.codeWith y bytes maxL ret hh :: ws') (hrc : rm.cells = mc) (hrs : rm.slots = ms)
    (hd : y.cls = C ∧ y.cls ≠ "java/lang/invoke/MethodHandle" ∧ y.cls ≠ "java/lang/invoke/VarHandle" ∧ (parseMethodDescriptor y.desc).map (fun d => d.parameters.length) = some n) (hR : rm.frames + 1 ≤ R.frames ∧ 8 + (maxL + 11) + rm.locals ≤ R.locals) :
    vx_CVW R s args own C index y bytes maxL ret hh ws rm mc ms n := by
  obtain ⟨hC, hd⟩ := hd
  subst hC
  have ok : ∀ w ∈ wsV own index y.cls y ws, w.before args s = true := fun w h => ht w (hT w h).1
  have hG : GoodIn Ts ws := fun w h => hT w (by unfold wsV; exact List.mem_append_right _ h)
  have hc : Cond.codeWith y bytes maxL ret hh ∈ ws := by rw [hw]; exact List.mem_cons_self
  refine ⟨⟨hrc, hrs, hR.1, hR.2, pay_in ht hG, hc⟩, ht _ (hG _ hc).1, ok _ (by simp [wsV]), ⟨hd.1, hd.2.1⟩, fun sig h => ?_, ok _ (by simp [wsV]), ok _ (by simp [wsV]), ok _ (by simp [wsV])⟩
  have h2 := hd.2.2
  rw [h] at h2
  exact (Option.some.inj h2).symm
theorem vx_runVW {y : MethodName} {bytes cc : ByteArray} {maxL nL mc ms n index : Nat} {ret : Option FieldType} {hh : List (Nat × Nat × Nat × Nat)} {ws : List Cond} {rm : Room} {Pc : Array Value → State → Prop} {Qc : Array Value → State → Outcome → State → Prop} {free : Addr → Prop} {Ts : List Cond} {own C : String} {b : Addr} {As rest : List Value} {g : JFrame}
    (S : CallFix p m c cc nL s args Ts own) (hM : Met l y ws rm Pc Qc mc ms free) (cw : vx_CVW R s args own C index y bytes maxL ret hh ws rm mc ms n) (hp : PreV s H C b Pc As)
    (hg : g.method = m) (hn : As.length = n) (hsize : g.locals.size = nL) (hstack : g.stack = As.reverse ++ .ref b :: rest) (hW : 2 * g.monitorRoom + (rest.map fun v => v.category).sum ≤ 8) (hdg : decode cc g.pc = .ok (.invokevirtual index, 3)) (hf : cells + mc ≤ R.cells ∧ slots + ms ≤ R.slots) :
    va_Run p l e R s m args below meth c H locs cells slots mc ms g rest (Qc (Value.ref b :: As).toArray) free := by
  obtain ⟨⟨hrc, hrs, hfr, hlo, hws, hcw⟩, hcode, hini, hy, hlen, hl, hin, hse⟩ := cw
  have hK : Back l R p e below s args y 3 8 (PreOf R mc ms Pc) (PostOf Qc mc ms free) := va_backW (hh := hh) (bytes := bytes) (maxL := maxL) (ret := ret) hM hp.1 hrc hrs hfr hlo hws hcw (fun a' U hW => word_at hW (Or.inl (by first | rfl | simp [Cond.onTables, Cond.keeps, Cond.steady])) hini)
  obtain ⟨hx, hb, hml, ho, -⟩ := S
  obtain ⟨-, ⟨cellB, hcB, hoB, hclB⟩, hPc⟩ := hp
  intro T hT X
  obtain ⟨v, vm₁, ⟨U', l2, c2, s2⟩, hW₁, X', ⟨g', mk, t, L, e1, e2, hq, h1, hL, h2, h3⟩, st⟩ := vx_callVW X hx (C := C) (hh := hh) (bytes := bytes) (maxL := maxL) (ret := ret) ho hl hin hse hcode hy hK (by rw [hT]; exact hcB) hoB hclB hg (hsize.trans hml.symm) (argsL := As) (rest := rest) (fun sig h => hn.trans (hlen sig h)) hstack hW (by rw [hb]; exact hdg)
    (fun vm₁ hW₁ => ⟨hf.1, hf.2, hPc (T.setVm vm₁) hT hW₁⟩)
  dsimp only [Pt.U, Pt.locs, Pt.cells, Pt.slots] at X' e1 e2 h1 h2 h3 st
  subst h1; subst h2; subst h3
  exact ⟨v, (T.setVm vm₁).calling g' mk (Value.ref b :: As).toArray, t, U', L, hT, X', hL, e1, e2, hq, st⟩
section
variable {y : MethodName} {bytes cc : ByteArray} {maxL nL mc ms n index : Nat} {ret : Option FieldType} {ws : List Cond} {rm : Room} {Pc : Array Value → State → Prop} {Qc : Array Value → State → Outcome → State → Prop} {XC : String → State → State → Prop} {free : Addr → Prop} {Ts : List Cond} {own C : String} {b : Addr} {As rest : List Value} {g : JFrame}
theorem vx_runVX {hh : List (Nat × Nat × Nat × Nat)} (S : CallFix p m c cc nL s args Ts own) (hM : vx_Met l y ws rm Pc Qc XC mc ms free) (cw : vx_CVW R s args own C index y bytes maxL ret hh ws rm mc ms n) (hp : PreV s H C b Pc As)
    (hg : g.method = m) (hn : As.length = n) (hsize : g.locals.size = nL) (hstack : g.stack = As.reverse ++ .ref b :: rest) (hW : 2 * g.monitorRoom + (rest.map fun v => v.category).sum ≤ 8) (hdg : decode cc g.pc = .ok (.invokevirtual index, 3)) (hf : cells + mc ≤ R.cells ∧ slots + ms ≤ R.slots) :
    vx_Run p l e R s m args below meth c H locs cells slots mc ms g rest (Qc (Value.ref b :: As).toArray) XC free := by
  obtain ⟨⟨hrc, hrs, hfr, hlo, hws, hcw⟩, hcode, hini, hy, hlen, hl, hin, hse⟩ := cw
  have hK : vx_Back l R p e below s args y 3 8 (PreOf R mc ms Pc) (PostOf Qc mc ms free) (vx_Post XC mc ms free) := vx_backW (hh := hh) (bytes := bytes) (maxL := maxL) (ret := ret) hM hp.1 hrc hrs hfr hlo hws hcw (fun a' U hW => word_at hW (Or.inl (by first | rfl | simp [Cond.onTables, Cond.keeps, Cond.steady])) hini)
  obtain ⟨hx, hb, hml, ho, -⟩ := S
  obtain ⟨-, ⟨cellB, hcB, hoB, hclB⟩, hPc⟩ := hp
  intro T hT X
  rcases vx_callVX X hx (C := C) (hh := hh) (bytes := bytes) (maxL := maxL) (ret := ret) ho hl hin hse hcode hy hK (by rw [hT]; exact hcB) hoB hclB hg (hsize.trans hml.symm) (argsL := As) (rest := rest) (fun sig h => hn.trans (hlen sig h)) hstack hW (by rw [hb]; exact hdg)
    (fun vm₁ hW₁ => ⟨hf.1, hf.2, hPc (T.setVm vm₁) hT hW₁⟩) with ⟨v, vm₁, ⟨U', l2, c2, s2⟩, hW₁, X', ⟨g', mk, t, L, e1, e2, hq, h1, hL, h2, h3⟩, st⟩ | ⟨q, vm₁, ⟨U', l2, c2, s2⟩, hW₁, X', ⟨g', mk, t, L, E, ce, e1, e2, hq, hce, hcv, hcl, h1, hL, h2, h3⟩, st⟩
  · dsimp only [Pt.U, Pt.locs, Pt.cells, Pt.slots] at X' e1 e2 h1 h2 h3 st
    subst h1; subst h2; subst h3
    exact Or.inl ⟨v, (T.setVm vm₁).calling g' mk (Value.ref b :: As).toArray, t, U', L, hT, X', hL, e1, e2, hq, st⟩
  · dsimp only [Pt.U, Pt.locs, Pt.cells, Pt.slots] at X' e1 e2 h1 h2 h3 st hcl
    subst h1; subst h2; subst h3
    exact Or.inr ⟨q, (T.setVm vm₁).calling g' mk (Value.ref b :: As).toArray, t, U', L, E, ce, hT, X', hL, e1, e2, hq, hce, hcv, vx_cls hW₁ hcl, st⟩
theorem vx_runSX {hh : List (Nat × Nat × Nat × Nat)} (S : CallFix p m c cc nL s args Ts own) (hM : vx_Met l y ws rm Pc Qc XC mc ms free) (cw : vx_CSW R s args own index y bytes maxL ret hh ws rm mc ms n) (hp : PreS s H Pc As)
    (hg : g.method = m) (hn : As.length = n) (hsize : g.locals.size = nL) (hstack : g.stack = As.reverse ++ rest) (hW : 2 * g.monitorRoom + (rest.map fun v => v.category).sum ≤ 8) (hdg : decode cc g.pc = .ok (.invokestatic index, 3)) (hf : cells + mc ≤ R.cells ∧ slots + ms ≤ R.slots) :
    vx_Run p l e R s m args below meth c H locs cells slots mc ms g rest (Qc As.toArray) XC free := by
  obtain ⟨⟨hrc, hrs, hfr, hlo, hws, hcw⟩, hcode, hini, hy, hlen, hl, hstt⟩ := cw
  have hK : vx_Back l R p e below s args y 3 8 (PreOf R mc ms Pc) (PostOf Qc mc ms free) (vx_Post XC mc ms free) := vx_backW (hh := hh) (bytes := bytes) (maxL := maxL) (ret := ret) hM hp.1 hrc hrs hfr hlo hws hcw (fun a' U hW => word_at hW (Or.inl (by first | rfl | simp [Cond.onTables, Cond.keeps, Cond.steady])) hini)
  obtain ⟨hx, hb, hml, ho, -⟩ := S
  intro T hT X
  rcases vx_callSX X hx (hh := hh) (bytes := bytes) (maxL := maxL) (ret := ret) ho hl hstt hini hcode hy hK hg (hsize.trans hml.symm) (argsL := As) (rest := rest) (fun sig h => hn.trans (hlen sig h)) hstack hW (by rw [hb]; exact hdg)
    (fun vm₁ hW₁ => ⟨hf.1, hf.2, hp.2 (T.setVm vm₁) hT hW₁⟩) with ⟨v, vm₁, ⟨U', l2, c2, s2⟩, hW₁, X', ⟨g', mk, t, L, e1, e2, hq, h1, hL, h2, h3⟩, st⟩ | ⟨q, vm₁, ⟨U', l2, c2, s2⟩, hW₁, X', ⟨g', mk, t, L, E, ce, e1, e2, hq, hce, hcv, hcl, h1, hL, h2, h3⟩, st⟩
  · dsimp only [Pt.U, Pt.locs, Pt.cells, Pt.slots] at X' e1 e2 h1 h2 h3 st
    subst h1; subst h2; subst h3
    exact Or.inl ⟨v, (T.setVm vm₁).calling g' mk As.toArray, t, U', L, hT, X', hL, e1, e2, hq, st⟩
  · dsimp only [Pt.U, Pt.locs, Pt.cells, Pt.slots] at X' e1 e2 h1 h2 h3 st hcl
    subst h1; subst h2; subst h3
    exact Or.inr ⟨q, (T.setVm vm₁).calling g' mk As.toArray, t, U', L, E, ce, hT, X', hL, e1, e2, hq, hce, hcv, vx_cls hW₁ hcl, st⟩
end
end VXH
theorem vx_ofWH {l : Launch} {y : MethodName} {ws ws' : List Cond} {rm : Room} {Pc : Array Value → State → Prop} {Qc : Array Value → State → Outcome → State → Prop} {XC : String → State → State → Prop} {mc ms : Nat} {free : Addr → Prop} {cc : ByteArray} {maxL : Nat} {ret : Option FieldType} {hh : List (Nat × Nat × Nat × Nat)}
    (hy : plainName y.cls = true) (hw : ws = Cond.codeWith y cc maxL ret hh :: ws')
    (body : ∀ p e s m args below meth c s₁, BodyLoose p l y (headSpec ws rm) cc maxL ret e s m args below meth c s₁ → c.maxLocals = maxL → Pc args s →
      W p l e (headSpec ws rm).room s m args below meth c s.heap [] 0 0 (vx_MQ below Qc XC args s mc ms free) (entryFrame m args maxL)) : vx_Met l y ws rm Pc Qc XC mc ms free := by
  refine MetFree.of_bodyS (code := cc) (maxLocals := maxL) (ret := ret) hy ?_ ?_
  · intro args s m h hn
    obtain ⟨m9, meth, c, hn9, h1, h2, h3, h4, -, h5, h6, -⟩ := Cond.codeWith_spec (atoms_spec (ws := ws) h _ (by rw [hw]; exact List.mem_cons_self))
    cases hn.symm.trans hn9
    exact ⟨meth, c, h1, h2, h3, h4, h5, h6⟩
  · intro p e s m args below meth c s₁ B hml hP _
    have hh0 : s₁.heap = s.heap := by rw [B.state]; rfl
    obtain ⟨t, a1, o, b1, b2, b3⟩ := body p e s m args below meth c s₁ B hml hP s₁ hh0 (Stand.of_body B)
    exact ⟨t, o, a1, b1, b2, b3⟩
/-! ===== END ===== -/
end
section
/-! the words: one list for every method of the class, the reference and the law -/
def tw : List Cond := lw_tbl.filter goodWord
theorem tw_in {w : Cond} (h : w ∈ lw_tbl) (g : goodWord w = true) : w ∈ tw := List.mem_filter.mpr ⟨h, g⟩
theorem tw_t {i : Nat} {w : Cond} (h : tables_1[i]? = some w) (g : goodWord w = true) : w ∈ tw := tw_in (List.mem_append_right _ (List.mem_of_getElem? h)) g
theorem tw_s {i : Nat} {w : Cond} (h : (k2_sels lw_privs)[i]? = some w) (g : goodWord w = true) : w ∈ tw := tw_in (List.mem_append_left _ (List.mem_of_getElem? h)) g
theorem tw_tbl {args : Array Value} {s : State} (h : ∀ w ∈ lw_tbl, w.before args s = true) : ∀ w ∈ tw, w.before args s = true := fun w hw => h w (List.mem_filter.mp hw).1
theorem tw_good {k : Cond} (hk : k ∈ tw) : GoodIn tw (k :: tw) := by
  intro w hw
  have h : w ∈ tw := (List.mem_cons.mp hw).elim (fun e => by rw [e]; exact hk) (fun h => h)
  exact ⟨h, good_of_word (List.mem_filter.mp h).2⟩
theorem tw_one {w : Cond} (h : w ∈ tw) : w ∈ tw ∧ ((w.onTables && w.keeps) = true ∨ ∃ ty, w = .arrayClass ty) := ⟨h, good_of_word (List.mem_filter.mp h).2⟩
theorem tw_S {own : String} {idx : Nat} {y : MethodName} {k : Cond} (h1 : .methodLink own idx y ∈ tw) (h2 : .static y ∈ tw) (h3 : .initialized y.cls ∈ tw) (hk : k ∈ tw) : GoodIn tw (va_wsS own idx y (k :: tw)) := by
  intro w hw
  rcases List.mem_append.mp hw with h | h
  · rcases List.mem_cons.mp h with rfl | h
    · exact tw_one h1
    · rcases List.mem_cons.mp h with rfl | h
      · exact tw_one h2
      · rcases List.mem_cons.mp h with rfl | h
        · exact tw_one h3
        · cases h
  · exact tw_good hk w h
theorem tw_V {own C : String} {idx : Nat} {y : MethodName} {k : Cond} (h1 : .methodLink own idx y ∈ tw) (h2 : .instanceMethod y ∈ tw) (h3 : .selects C y y ∈ tw) (h4 : .initialized C ∈ tw) (hk : k ∈ tw) : GoodIn tw (wsV own idx C y (k :: tw)) := by
  intro w hw
  rcases List.mem_append.mp hw with h | h
  · rcases List.mem_cons.mp h with rfl | h
    · exact tw_one h1
    · rcases List.mem_cons.mp h with rfl | h
      · exact tw_one h2
      · rcases List.mem_cons.mp h with rfl | h
        · exact tw_one h3
        · rcases List.mem_cons.mp h with rfl | h
          · exact tw_one h4
          · cases h
  · exact tw_good hk w h
def RX0 : String := "TurnedDiscs"
theorem in_X0 : Cond.initialized RX0 ∈ tw := tw_t (i := 1) (by decide +kernel) (by decide +kernel)
def TX0 : u_T := fun k => match k with
  | 0 => ("TurnedDiscs", "own", "J", false)
  | 1 => ("TurnedDiscs", "other", "J", false)
  | 2 => ("TurnedDiscs", "player", "I", false)
  | 3 => ("TurnedDiscs", "made", "I", false)
  | 4 => ("TurnedDiscs", "squares", "[I", true)
  | 5 => ("TurnedDiscs", "turned", "[J", true)
  | _ => ("TurnedDiscs", "plan", "[I", true)
def tyX0 : Nat → FieldType := fun k => match k with
  | 0 => .long
  | 1 => .long
  | 2 => .int
  | 3 => .int
  | 4 => .array .int
  | 5 => .array .long
  | _ => .array .int
theorem nmX0 : ∀ a, a < 7 → ∀ b, b < 7 → a ≠ b → (TX0 a).2.1 ≠ (TX0 b).2.1 := by decide +kernel
theorem tyX0_ok : ∀ k, k < 7 → parseFieldDescriptor (TX0 k).2.2.1 = some (tyX0 k) := by decide +kernel
theorem usX0 : ∀ w ∈ u_ws RX0 TX0 7, w ∈ tw := by
  intro w hw
  obtain ⟨k, hk, rfl⟩ := List.mem_map.mp hw
  have hk := List.mem_range.mp hk
  rcases (show k = 0 ∨ k = 1 ∨ k = 2 ∨ k = 3 ∨ k = 4 ∨ k = 5 ∨ k = 6 by omega) with rfl | rfl | rfl | rfl | rfl | rfl | rfl
  · exact tw_t (i := 32) (by decide +kernel) (by decide +kernel)
  · exact tw_t (i := 34) (by decide +kernel) (by decide +kernel)
  · exact tw_t (i := 36) (by decide +kernel) (by decide +kernel)
  · exact tw_t (i := 38) (by decide +kernel) (by decide +kernel)
  · exact tw_t (i := 40) (by decide +kernel) (by decide +kernel)
  · exact tw_t (i := 42) (by decide +kernel) (by decide +kernel)
  · exact tw_t (i := 44) (by decide +kernel) (by decide +kernel)
def RX1 : String := "TurnedDiscsModel"
theorem in_X1 : Cond.initialized RX1 ∈ tw := tw_t (i := 2) (by decide +kernel) (by decide +kernel)
def TX1 : u_T := fun k => match k with
  | 0 => ("TurnedDiscsModel", "thrown", "I", false)
  | 1 => ("TurnedDiscsModel", "cells", "[I", true)
  | 2 => ("TurnedDiscsModel", "movers", "[I", true)
  | 3 => ("TurnedDiscsModel", "row", "[I", true)
  | 4 => ("TurnedDiscsModel", "turned", "[J", true)
  | 5 => ("TurnedDiscsModel", "made", "I", false)
  | 6 => ("TurnedDiscsModel", "at", "[I", true)
  | 7 => ("TurnedDiscsModel", "passes", "[Z", true)
  | 8 => ("TurnedDiscsModel", "worth", "[I", true)
  | 9 => ("TurnedDiscsModel", "tried", "[I", true)
  | 10 => ("TurnedDiscsModel", "chosen", "I", false)
  | 11 => ("TurnedDiscsModel", "spots", "[I", true)
  | 12 => ("TurnedDiscsModel", "spotCount", "I", false)
  | _ => ("TurnedDiscsModel", "kept", "[I", true)
def tyX1 : Nat → FieldType := fun k => match k with
  | 0 => .int
  | 1 => .array .int
  | 2 => .array .int
  | 3 => .array .int
  | 4 => .array .long
  | 5 => .int
  | 6 => .array .int
  | 7 => .array .boolean
  | 8 => .array .int
  | 9 => .array .int
  | 10 => .int
  | 11 => .array .int
  | 12 => .int
  | _ => .array .int
theorem nmX1 : ∀ a, a < 14 → ∀ b, b < 14 → a ≠ b → (TX1 a).2.1 ≠ (TX1 b).2.1 := by decide +kernel
theorem tyX1_ok : ∀ k, k < 14 → parseFieldDescriptor (TX1 k).2.2.1 = some (tyX1 k) := by decide +kernel
theorem usX1 : ∀ w ∈ u_ws RX1 TX1 14, w ∈ tw := by
  intro w hw
  obtain ⟨k, hk, rfl⟩ := List.mem_map.mp hw
  have hk := List.mem_range.mp hk
  rcases (show k = 0 ∨ k = 1 ∨ k = 2 ∨ k = 3 ∨ k = 4 ∨ k = 5 ∨ k = 6 ∨ k = 7 ∨ k = 8 ∨ k = 9 ∨ k = 10 ∨ k = 11 ∨ k = 12 ∨ k = 13 by omega) with rfl | rfl | rfl | rfl | rfl | rfl | rfl | rfl | rfl | rfl | rfl | rfl | rfl | rfl
  · exact tw_t (i := 379) (by decide +kernel) (by decide +kernel)
  · exact tw_t (i := 381) (by decide +kernel) (by decide +kernel)
  · exact tw_t (i := 383) (by decide +kernel) (by decide +kernel)
  · exact tw_t (i := 385) (by decide +kernel) (by decide +kernel)
  · exact tw_t (i := 387) (by decide +kernel) (by decide +kernel)
  · exact tw_t (i := 389) (by decide +kernel) (by decide +kernel)
  · exact tw_t (i := 391) (by decide +kernel) (by decide +kernel)
  · exact tw_t (i := 393) (by decide +kernel) (by decide +kernel)
  · exact tw_t (i := 395) (by decide +kernel) (by decide +kernel)
  · exact tw_t (i := 397) (by decide +kernel) (by decide +kernel)
  · exact tw_t (i := 399) (by decide +kernel) (by decide +kernel)
  · exact tw_t (i := 401) (by decide +kernel) (by decide +kernel)
  · exact tw_t (i := 403) (by decide +kernel) (by decide +kernel)
  · exact tw_t (i := 405) (by decide +kernel) (by decide +kernel)
def RL : String := "TurnedDiscsLaw"
theorem in_L : Cond.initialized RL ∈ tw := tw_t (i := 0) (by decide +kernel) (by decide +kernel)
def RJL : String := "java/lang/Long"
theorem in_JL : Cond.initialized RJL ∈ tw := tw_t (i := 8) (by decide +kernel) (by decide +kernel)
def RJM : String := "java/lang/Math"
theorem in_JM : Cond.initialized RJM ∈ tw := tw_t (i := 10) (by decide +kernel) (by decide +kernel)
abbrev tdC : List vw_C := [(RX0, TX0, 7), (RX1, TX1, 14)]
def y_X0_init : MethodName := ⟨RX0, "<init>", "()V"⟩
abbrev c_X0_init : ByteArray := prog_1_method_1_code
abbrev k_X0_init : Cond := .code y_X0_init c_X0_init 1 none
theorem kw_X0_init : k_X0_init ∈ tw := tw_t (i := 15) (by decide +kernel) (by decide +kernel)
theorem im_X0_init : Cond.instanceMethod y_X0_init ∈ tw := tw_t (i := 14) (by decide +kernel) (by decide +kernel)
def y_X0_begin : MethodName := ⟨RX0, "begin", "()V"⟩
abbrev c_X0_begin : ByteArray := prog_1_method_2_code
abbrev k_X0_begin : Cond := .code y_X0_begin c_X0_begin 1 none
theorem kw_X0_begin : k_X0_begin ∈ tw := tw_t (i := 52) (by decide +kernel) (by decide +kernel)
theorem im_X0_begin : Cond.instanceMethod y_X0_begin ∈ tw := tw_t (i := 50) (by decide +kernel) (by decide +kernel)
theorem se_X0_begin : Cond.selects RX0 y_X0_begin y_X0_begin ∈ tw := tw_t (i := 51) (by decide +kernel) (by decide +kernel)
def y_X0_set : MethodName := ⟨RX0, "set", "(JJI)V"⟩
abbrev c_X0_set : ByteArray := prog_1_method_3_code
abbrev k_X0_set : Cond := .code y_X0_set c_X0_set 6 none
theorem kw_X0_set : k_X0_set ∈ tw := tw_t (i := 110) (by decide +kernel) (by decide +kernel)
theorem im_X0_set : Cond.instanceMethod y_X0_set ∈ tw := tw_t (i := 108) (by decide +kernel) (by decide +kernel)
theorem se_X0_set : Cond.selects RX0 y_X0_set y_X0_set ∈ tw := tw_t (i := 109) (by decide +kernel) (by decide +kernel)
def y_X0_discs : MethodName := ⟨RX0, "discs", "(I)J"⟩
abbrev c_X0_discs : ByteArray := prog_1_method_4_code
abbrev k_X0_discs : Cond := .code y_X0_discs c_X0_discs 2 (some .long)
theorem kw_X0_discs : k_X0_discs ∈ tw := tw_t (i := 189) (by decide +kernel) (by decide +kernel)
theorem im_X0_discs : Cond.instanceMethod y_X0_discs ∈ tw := tw_t (i := 187) (by decide +kernel) (by decide +kernel)
theorem se_X0_discs : Cond.selects RX0 y_X0_discs y_X0_discs ∈ tw := tw_t (i := 188) (by decide +kernel) (by decide +kernel)
def y_X0_player : MethodName := ⟨RX0, "player", "()I"⟩
abbrev c_X0_player : ByteArray := prog_1_method_5_code
abbrev k_X0_player : Cond := .code y_X0_player c_X0_player 1 (some .int)
theorem kw_X0_player : k_X0_player ∈ tw := tw_t (i := 56) (by decide +kernel) (by decide +kernel)
theorem im_X0_player : Cond.instanceMethod y_X0_player ∈ tw := tw_t (i := 54) (by decide +kernel) (by decide +kernel)
theorem se_X0_player : Cond.selects RX0 y_X0_player y_X0_player ∈ tw := tw_t (i := 55) (by decide +kernel) (by decide +kernel)
def y_X0_moves : MethodName := ⟨RX0, "moves", "()J"⟩
abbrev c_X0_moves : ByteArray := prog_1_method_6_code
abbrev k_X0_moves : Cond := .code y_X0_moves c_X0_moves 1 (some .long)
theorem kw_X0_moves : k_X0_moves ∈ tw := tw_t (i := 60) (by decide +kernel) (by decide +kernel)
theorem im_X0_moves : Cond.instanceMethod y_X0_moves ∈ tw := tw_t (i := 58) (by decide +kernel) (by decide +kernel)
theorem se_X0_moves : Cond.selects RX0 y_X0_moves y_X0_moves ∈ tw := tw_t (i := 59) (by decide +kernel) (by decide +kernel)
def y_X0_turns : MethodName := ⟨RX0, "turns", "(I)J"⟩
abbrev c_X0_turns : ByteArray := prog_1_method_7_code
abbrev k_X0_turns : Cond := .code y_X0_turns c_X0_turns 4 (some .long)
theorem kw_X0_turns : k_X0_turns ∈ tw := tw_t (i := 196) (by decide +kernel) (by decide +kernel)
theorem im_X0_turns : Cond.instanceMethod y_X0_turns ∈ tw := tw_t (i := 194) (by decide +kernel) (by decide +kernel)
theorem se_X0_turns : Cond.selects RX0 y_X0_turns y_X0_turns ∈ tw := tw_t (i := 195) (by decide +kernel) (by decide +kernel)
def y_X0_over : MethodName := ⟨RX0, "over", "()Z"⟩
abbrev c_X0_over : ByteArray := prog_1_method_8_code
abbrev k_X0_over : Cond := .code y_X0_over c_X0_over 1 (some .boolean)
theorem kw_X0_over : k_X0_over ∈ tw := tw_t (i := 78) (by decide +kernel) (by decide +kernel)
theorem im_X0_over : Cond.instanceMethod y_X0_over ∈ tw := tw_t (i := 76) (by decide +kernel) (by decide +kernel)
theorem se_X0_over : Cond.selects RX0 y_X0_over y_X0_over ∈ tw := tw_t (i := 77) (by decide +kernel) (by decide +kernel)
def y_X0_play : MethodName := ⟨RX0, "play", "(I)I"⟩
abbrev c_X0_play : ByteArray := prog_1_method_9_code
abbrev k_X0_play : Cond := .code y_X0_play c_X0_play 2 (some .int)
theorem kw_X0_play : k_X0_play ∈ tw := tw_t (i := 218) (by decide +kernel) (by decide +kernel)
theorem im_X0_play : Cond.instanceMethod y_X0_play ∈ tw := tw_t (i := 216) (by decide +kernel) (by decide +kernel)
theorem se_X0_play : Cond.selects RX0 y_X0_play y_X0_play ∈ tw := tw_t (i := 217) (by decide +kernel) (by decide +kernel)
def y_X0_back : MethodName := ⟨RX0, "back", "()I"⟩
abbrev c_X0_back : ByteArray := prog_1_method_10_code
abbrev k_X0_back : Cond := .code y_X0_back c_X0_back 6 (some .int)
theorem kw_X0_back : k_X0_back ∈ tw := tw_t (i := 251) (by decide +kernel) (by decide +kernel)
theorem im_X0_back : Cond.instanceMethod y_X0_back ∈ tw := tw_t (i := 249) (by decide +kernel) (by decide +kernel)
theorem se_X0_back : Cond.selects RX0 y_X0_back y_X0_back ∈ tw := tw_t (i := 250) (by decide +kernel) (by decide +kernel)
def y_X0_made : MethodName := ⟨RX0, "made", "()I"⟩
abbrev c_X0_made : ByteArray := prog_1_method_11_code
abbrev k_X0_made : Cond := .code y_X0_made c_X0_made 1 (some .int)
theorem kw_X0_made : k_X0_made ∈ tw := tw_t (i := 85) (by decide +kernel) (by decide +kernel)
theorem im_X0_made : Cond.instanceMethod y_X0_made ∈ tw := tw_t (i := 83) (by decide +kernel) (by decide +kernel)
theorem se_X0_made : Cond.selects RX0 y_X0_made y_X0_made ∈ tw := tw_t (i := 84) (by decide +kernel) (by decide +kernel)
def y_X0_difference : MethodName := ⟨RX0, "difference", "()I"⟩
abbrev c_X0_difference : ByteArray := prog_1_method_12_code
abbrev k_X0_difference : Cond := .code y_X0_difference c_X0_difference 1 (some .int)
theorem kw_X0_difference : k_X0_difference ∈ tw := tw_t (i := 89) (by decide +kernel) (by decide +kernel)
theorem im_X0_difference : Cond.instanceMethod y_X0_difference ∈ tw := tw_t (i := 87) (by decide +kernel) (by decide +kernel)
theorem se_X0_difference : Cond.selects RX0 y_X0_difference y_X0_difference ∈ tw := tw_t (i := 88) (by decide +kernel) (by decide +kernel)
def y_X0_count : MethodName := ⟨RX0, "count", "(I)J"⟩
abbrev c_X0_count : ByteArray := prog_1_method_13_code
abbrev k_X0_count : Cond := .code y_X0_count c_X0_count 2 (some .long)
theorem kw_X0_count : k_X0_count ∈ tw := tw_t (i := 274) (by decide +kernel) (by decide +kernel)
theorem im_X0_count : Cond.instanceMethod y_X0_count ∈ tw := tw_t (i := 272) (by decide +kernel) (by decide +kernel)
theorem se_X0_count : Cond.selects RX0 y_X0_count y_X0_count ∈ tw := tw_t (i := 273) (by decide +kernel) (by decide +kernel)
def y_X0_outcome : MethodName := ⟨RX0, "outcome", "()I"⟩
abbrev c_X0_outcome : ByteArray := prog_1_method_14_code
abbrev k_X0_outcome : Cond := .code y_X0_outcome c_X0_outcome 1 (some .int)
theorem kw_X0_outcome : k_X0_outcome ∈ tw := tw_t (i := 285) (by decide +kernel) (by decide +kernel)
theorem im_X0_outcome : Cond.instanceMethod y_X0_outcome ∈ tw := tw_t (i := 283) (by decide +kernel) (by decide +kernel)
theorem se_X0_outcome : Cond.selects RX0 y_X0_outcome y_X0_outcome ∈ tw := tw_t (i := 284) (by decide +kernel) (by decide +kernel)
def y_X0_best : MethodName := ⟨RX0, "best", "()I"⟩
abbrev c_X0_best : ByteArray := prog_1_method_15_code
abbrev k_X0_best : Cond := .code y_X0_best c_X0_best 1 (some .int)
theorem kw_X0_best : k_X0_best ∈ tw := tw_t (i := 306) (by decide +kernel) (by decide +kernel)
theorem im_X0_best : Cond.instanceMethod y_X0_best ∈ tw := tw_t (i := 304) (by decide +kernel) (by decide +kernel)
theorem se_X0_best : Cond.selects RX0 y_X0_best y_X0_best ∈ tw := tw_t (i := 305) (by decide +kernel) (by decide +kernel)
def y_X0_finish : MethodName := ⟨RX0, "finish", "()I"⟩
abbrev c_X0_finish : ByteArray := prog_1_method_16_code
abbrev k_X0_finish : Cond := .code y_X0_finish c_X0_finish 3 (some .int)
theorem kw_X0_finish : k_X0_finish ∈ tw := tw_t (i := 319) (by decide +kernel) (by decide +kernel)
theorem im_X0_finish : Cond.instanceMethod y_X0_finish ∈ tw := tw_t (i := 317) (by decide +kernel) (by decide +kernel)
theorem se_X0_finish : Cond.selects RX0 y_X0_finish y_X0_finish ∈ tw := tw_t (i := 318) (by decide +kernel) (by decide +kernel)
def y_X0_border : MethodName := ⟨RX0, "border", "(I)I"⟩
abbrev c_X0_border : ByteArray := prog_1_method_17_code
abbrev k_X0_border : Cond := .code y_X0_border c_X0_border 2 (some .int)
theorem kw_X0_border : k_X0_border ∈ tw := tw_t (i := 331) (by decide +kernel) (by decide +kernel)
theorem im_X0_border : Cond.instanceMethod y_X0_border ∈ tw := tw_t (i := 329) (by decide +kernel) (by decide +kernel)
theorem se_X0_border : Cond.selects RX0 y_X0_border y_X0_border ∈ tw := tw_t (i := 330) (by decide +kernel) (by decide +kernel)
def y_X0_safe : MethodName := ⟨RX0, "safe", "(I)J"⟩
abbrev c_X0_safe : ByteArray := prog_1_method_18_code
abbrev k_X0_safe : Cond := .code y_X0_safe c_X0_safe 4 (some .long)
theorem kw_X0_safe : k_X0_safe ∈ tw := tw_t (i := 343) (by decide +kernel) (by decide +kernel)
theorem im_X0_safe : Cond.instanceMethod y_X0_safe ∈ tw := tw_t (i := 341) (by decide +kernel) (by decide +kernel)
theorem se_X0_safe : Cond.selects RX0 y_X0_safe y_X0_safe ∈ tw := tw_t (i := 342) (by decide +kernel) (by decide +kernel)
def y_X0_requirePlayer : MethodName := ⟨RX0, "requirePlayer", "(I)V"⟩
abbrev c_X0_requirePlayer : ByteArray := prog_1_method_19_code
abbrev k_X0_requirePlayer : Cond := .code y_X0_requirePlayer c_X0_requirePlayer 1 none
theorem kw_X0_requirePlayer : k_X0_requirePlayer ∈ tw := tw_t (i := 181) (by decide +kernel) (by decide +kernel)
theorem st_X0_requirePlayer : Cond.static y_X0_requirePlayer ∈ tw := tw_t (i := 180) (by decide +kernel) (by decide +kernel)
def y_X0_requireFewEmpty : MethodName := ⟨RX0, "requireFewEmpty", "()V"⟩
abbrev c_X0_requireFewEmpty : ByteArray := prog_1_method_20_code
abbrev k_X0_requireFewEmpty : Cond := .code y_X0_requireFewEmpty c_X0_requireFewEmpty 1 none
theorem kw_X0_requireFewEmpty : k_X0_requireFewEmpty ∈ tw := tw_t (i := 289) (by decide +kernel) (by decide +kernel)
theorem im_X0_requireFewEmpty : Cond.instanceMethod y_X0_requireFewEmpty ∈ tw := tw_t (i := 288) (by decide +kernel) (by decide +kernel)
theorem se_X0_requireFewEmpty : Cond.selects RX0 y_X0_requireFewEmpty y_X0_requireFewEmpty ∈ tw := tw_s (i := 6) (by decide +kernel) (by decide +kernel)
def y_X0_setUp : MethodName := ⟨RX0, "setUp", "(JJI)V"⟩
abbrev c_X0_setUp : ByteArray := prog_1_method_21_code
abbrev k_X0_setUp : Cond := .code y_X0_setUp c_X0_setUp 6 none
theorem kw_X0_setUp : k_X0_setUp ∈ tw := tw_t (i := 24) (by decide +kernel) (by decide +kernel)
theorem im_X0_setUp : Cond.instanceMethod y_X0_setUp ∈ tw := tw_t (i := 23) (by decide +kernel) (by decide +kernel)
theorem se_X0_setUp : Cond.selects RX0 y_X0_setUp y_X0_setUp ∈ tw := tw_s (i := 0) (by decide +kernel) (by decide +kernel)
def y_X0_discsOf : MethodName := ⟨RX0, "discsOf", "(I)J"⟩
abbrev c_X0_discsOf : ByteArray := prog_1_method_22_code
abbrev k_X0_discsOf : Cond := .code y_X0_discsOf c_X0_discsOf 2 (some .long)
theorem kw_X0_discsOf : k_X0_discsOf ∈ tw := tw_t (i := 93) (by decide +kernel) (by decide +kernel)
theorem im_X0_discsOf : Cond.instanceMethod y_X0_discsOf ∈ tw := tw_t (i := 92) (by decide +kernel) (by decide +kernel)
theorem se_X0_discsOf : Cond.selects RX0 y_X0_discsOf y_X0_discsOf ∈ tw := tw_s (i := 1) (by decide +kernel) (by decide +kernel)
def y_X0_empty : MethodName := ⟨RX0, "empty", "()J"⟩
abbrev c_X0_empty : ByteArray := prog_1_method_23_code
abbrev k_X0_empty : Cond := .code y_X0_empty c_X0_empty 1 (some .long)
theorem kw_X0_empty : k_X0_empty ∈ tw := tw_t (i := 204) (by decide +kernel) (by decide +kernel)
theorem im_X0_empty : Cond.instanceMethod y_X0_empty ∈ tw := tw_t (i := 203) (by decide +kernel) (by decide +kernel)
theorem se_X0_empty : Cond.selects RX0 y_X0_empty y_X0_empty ∈ tw := tw_s (i := 3) (by decide +kernel) (by decide +kernel)
def y_X0_mayPlay : MethodName := ⟨RX0, "mayPlay", "(I)Z"⟩
abbrev c_X0_mayPlay : ByteArray := prog_1_method_24_code
abbrev k_X0_mayPlay : Cond := .code y_X0_mayPlay c_X0_mayPlay 2 (some .boolean)
theorem kw_X0_mayPlay : k_X0_mayPlay ∈ tw := tw_t (i := 222) (by decide +kernel) (by decide +kernel)
theorem im_X0_mayPlay : Cond.instanceMethod y_X0_mayPlay ∈ tw := tw_t (i := 221) (by decide +kernel) (by decide +kernel)
theorem se_X0_mayPlay : Cond.selects RX0 y_X0_mayPlay y_X0_mayPlay ∈ tw := tw_s (i := 4) (by decide +kernel) (by decide +kernel)
def y_X0_make : MethodName := ⟨RX0, "make", "(I)I"⟩
abbrev c_X0_make : ByteArray := prog_1_method_25_code
abbrev k_X0_make : Cond := .code y_X0_make c_X0_make 8 (some .int)
theorem kw_X0_make : k_X0_make ∈ tw := tw_t (i := 243) (by decide +kernel) (by decide +kernel)
theorem im_X0_make : Cond.instanceMethod y_X0_make ∈ tw := tw_t (i := 242) (by decide +kernel) (by decide +kernel)
theorem se_X0_make : Cond.selects RX0 y_X0_make y_X0_make ∈ tw := tw_s (i := 5) (by decide +kernel) (by decide +kernel)
def y_X0_planFinish : MethodName := ⟨RX0, "planFinish", "()I"⟩
abbrev c_X0_planFinish : ByteArray := prog_1_method_26_code
abbrev k_X0_planFinish : Cond := .code y_X0_planFinish c_X0_planFinish 13 (some .int)
theorem kw_X0_planFinish : k_X0_planFinish ∈ tw := tw_t (i := 323) (by decide +kernel) (by decide +kernel)
theorem im_X0_planFinish : Cond.instanceMethod y_X0_planFinish ∈ tw := tw_t (i := 322) (by decide +kernel) (by decide +kernel)
theorem se_X0_planFinish : Cond.selects RX0 y_X0_planFinish y_X0_planFinish ∈ tw := tw_s (i := 7) (by decide +kernel) (by decide +kernel)
def y_X0_discOn : MethodName := ⟨RX0, "discOn", "(I)J"⟩
abbrev c_X0_discOn : ByteArray := prog_1_method_27_code
abbrev k_X0_discOn : Cond := .code y_X0_discOn c_X0_discOn 1 (some .long)
theorem kw_X0_discOn : k_X0_discOn ∈ tw := tw_t (i := 200) (by decide +kernel) (by decide +kernel)
theorem st_X0_discOn : Cond.static y_X0_discOn ∈ tw := tw_t (i := 199) (by decide +kernel) (by decide +kernel)
def y_X0_lead : MethodName := ⟨RX0, "lead", "(JJ)I"⟩
abbrev c_X0_lead : ByteArray := prog_1_method_28_code
abbrev k_X0_lead : Cond := .code y_X0_lead c_X0_lead 4 (some .int)
theorem kw_X0_lead : k_X0_lead ∈ tw := tw_t (i := 96) (by decide +kernel) (by decide +kernel)
theorem st_X0_lead : Cond.static y_X0_lead ∈ tw := tw_t (i := 95) (by decide +kernel) (by decide +kernel)
def y_X0_isOver : MethodName := ⟨RX0, "isOver", "(JJ)Z"⟩
abbrev c_X0_isOver : ByteArray := prog_1_method_29_code
abbrev k_X0_isOver : Cond := .code y_X0_isOver c_X0_isOver 4 (some .boolean)
theorem kw_X0_isOver : k_X0_isOver ∈ tw := tw_t (i := 81) (by decide +kernel) (by decide +kernel)
theorem st_X0_isOver : Cond.static y_X0_isOver ∈ tw := tw_t (i := 80) (by decide +kernel) (by decide +kernel)
def y_X0_movesOf : MethodName := ⟨RX0, "movesOf", "(JJ)J"⟩
abbrev c_X0_movesOf : ByteArray := prog_1_method_30_code
abbrev k_X0_movesOf : Cond := .code y_X0_movesOf c_X0_movesOf 8 (some .long)
theorem kw_X0_movesOf : k_X0_movesOf ∈ tw := tw_t (i := 63) (by decide +kernel) (by decide +kernel)
theorem st_X0_movesOf : Cond.static y_X0_movesOf ∈ tw := tw_t (i := 62) (by decide +kernel) (by decide +kernel)
def y_X0_endsAlong : MethodName := ⟨RX0, "endsAlong", "(JJI)J"⟩
abbrev c_X0_endsAlong : ByteArray := prog_1_method_31_code
abbrev k_X0_endsAlong : Cond := .code y_X0_endsAlong c_X0_endsAlong 5 (some .long)
theorem kw_X0_endsAlong : k_X0_endsAlong ∈ tw := tw_t (i := 67) (by decide +kernel) (by decide +kernel)
theorem st_X0_endsAlong : Cond.static y_X0_endsAlong ∈ tw := tw_t (i := 66) (by decide +kernel) (by decide +kernel)
def y_X0_turnedBy : MethodName := ⟨RX0, "turnedBy", "(JJJ)J"⟩
abbrev c_X0_turnedBy : ByteArray := prog_1_method_32_code
abbrev k_X0_turnedBy : Cond := .code y_X0_turnedBy c_X0_turnedBy 8 (some .long)
theorem kw_X0_turnedBy : k_X0_turnedBy ∈ tw := tw_t (i := 207) (by decide +kernel) (by decide +kernel)
theorem st_X0_turnedBy : Cond.static y_X0_turnedBy ∈ tw := tw_t (i := 206) (by decide +kernel) (by decide +kernel)
def y_X0_turnedAlong : MethodName := ⟨RX0, "turnedAlong", "(JJJI)J"⟩
abbrev c_X0_turnedAlong : ByteArray := prog_1_method_33_code
abbrev k_X0_turnedAlong : Cond := .code y_X0_turnedAlong c_X0_turnedAlong 13 (some .long)
theorem kw_X0_turnedAlong : k_X0_turnedAlong ∈ tw := tw_t (i := 210) (by decide +kernel) (by decide +kernel)
theorem st_X0_turnedAlong : Cond.static y_X0_turnedAlong ∈ tw := tw_t (i := 209) (by decide +kernel) (by decide +kernel)
def y_X0_runUp : MethodName := ⟨RX0, "runUp", "(JJI)J"⟩
abbrev c_X0_runUp : ByteArray := prog_1_method_34_code
abbrev k_X0_runUp : Cond := .code y_X0_runUp c_X0_runUp 7 (some .long)
theorem kw_X0_runUp : k_X0_runUp ∈ tw := tw_t (i := 70) (by decide +kernel) (by decide +kernel)
theorem st_X0_runUp : Cond.static y_X0_runUp ∈ tw := tw_t (i := 69) (by decide +kernel) (by decide +kernel)
def y_X0_runDown : MethodName := ⟨RX0, "runDown", "(JJI)J"⟩
abbrev c_X0_runDown : ByteArray := prog_1_method_35_code
abbrev k_X0_runDown : Cond := .code y_X0_runDown c_X0_runDown 7 (some .long)
theorem kw_X0_runDown : k_X0_runDown ∈ tw := tw_t (i := 73) (by decide +kernel) (by decide +kernel)
theorem st_X0_runDown : Cond.static y_X0_runDown ∈ tw := tw_t (i := 72) (by decide +kernel) (by decide +kernel)
def y_X0_rowsFrom : MethodName := ⟨RX0, "rowsFrom", "(JJI)J"⟩
abbrev c_X0_rowsFrom : ByteArray := prog_1_method_36_code
abbrev k_X0_rowsFrom : Cond := .code y_X0_rowsFrom c_X0_rowsFrom 15 (some .long)
theorem kw_X0_rowsFrom : k_X0_rowsFrom ∈ tw := tw_t (i := 278) (by decide +kernel) (by decide +kernel)
theorem st_X0_rowsFrom : Cond.static y_X0_rowsFrom ∈ tw := tw_t (i := 277) (by decide +kernel) (by decide +kernel)
def y_X0_worth : MethodName := ⟨RX0, "worth", "(JJIII)I"⟩
abbrev c_X0_worth : ByteArray := prog_1_method_37_code
abbrev k_X0_worth : Cond := .code y_X0_worth c_X0_worth 14 (some .int)
theorem kw_X0_worth : k_X0_worth ∈ tw := tw_t (i := 293) (by decide +kernel) (by decide +kernel)
theorem st_X0_worth : Cond.static y_X0_worth ∈ tw := tw_t (i := 292) (by decide +kernel) (by decide +kernel)
def y_X0_worthOf : MethodName := ⟨RX0, "worthOf", "(JJJIII)I"⟩
abbrev c_X0_worthOf : ByteArray := prog_1_method_38_code
abbrev k_X0_worthOf : Cond := .code y_X0_worthOf c_X0_worthOf 11 (some .int)
theorem kw_X0_worthOf : k_X0_worthOf ∈ tw := tw_t (i := 299) (by decide +kernel) (by decide +kernel)
theorem st_X0_worthOf : Cond.static y_X0_worthOf ∈ tw := tw_t (i := 298) (by decide +kernel) (by decide +kernel)
def y_X0_bestSquare : MethodName := ⟨RX0, "bestSquare", "(JJ)I"⟩
abbrev c_X0_bestSquare : ByteArray := prog_1_method_39_code
abbrev k_X0_bestSquare : Cond := .code y_X0_bestSquare c_X0_bestSquare 14 (some .int)
theorem kw_X0_bestSquare : k_X0_bestSquare ∈ tw := tw_t (i := 309) (by decide +kernel) (by decide +kernel)
theorem st_X0_bestSquare : Cond.static y_X0_bestSquare ∈ tw := tw_t (i := 308) (by decide +kernel) (by decide +kernel)
def y_X0_squareOf : MethodName := ⟨RX0, "squareOf", "(J)I"⟩
abbrev c_X0_squareOf : ByteArray := prog_1_method_40_code
abbrev k_X0_squareOf : Cond := .code y_X0_squareOf c_X0_squareOf 2 (some .int)
theorem kw_X0_squareOf : k_X0_squareOf ∈ tw := tw_t (i := 312) (by decide +kernel) (by decide +kernel)
theorem st_X0_squareOf : Cond.static y_X0_squareOf ∈ tw := tw_t (i := 311) (by decide +kernel) (by decide +kernel)
def y_X0_withNeighbours : MethodName := ⟨RX0, "withNeighbours", "(J)J"⟩
abbrev c_X0_withNeighbours : ByteArray := prog_1_method_41_code
abbrev k_X0_withNeighbours : Cond := .code y_X0_withNeighbours c_X0_withNeighbours 4 (some .long)
theorem kw_X0_withNeighbours : k_X0_withNeighbours ∈ tw := tw_t (i := 334) (by decide +kernel) (by decide +kernel)
theorem st_X0_withNeighbours : Cond.static y_X0_withNeighbours ∈ tw := tw_t (i := 333) (by decide +kernel) (by decide +kernel)
def y_X0_heldAlong : MethodName := ⟨RX0, "heldAlong", "(JIJJ)J"⟩
abbrev c_X0_heldAlong : ByteArray := prog_1_method_42_code
abbrev k_X0_heldAlong : Cond := .code y_X0_heldAlong c_X0_heldAlong 12 (some .long)
theorem kw_X0_heldAlong : k_X0_heldAlong ∈ tw := tw_t (i := 348) (by decide +kernel) (by decide +kernel)
theorem st_X0_heldAlong : Cond.static y_X0_heldAlong ∈ tw := tw_t (i := 347) (by decide +kernel) (by decide +kernel)
def y_X1_init : MethodName := ⟨RX1, "<init>", "()V"⟩
abbrev c_X1_init : ByteArray := prog_3_method_1_code
abbrev k_X1_init : Cond := .code y_X1_init c_X1_init 1 none
theorem kw_X1_init : k_X1_init ∈ tw := tw_t (i := 359) (by decide +kernel) (by decide +kernel)
theorem im_X1_init : Cond.instanceMethod y_X1_init ∈ tw := tw_t (i := 358) (by decide +kernel) (by decide +kernel)
def y_X1_thrown : MethodName := ⟨RX1, "thrown", "()I"⟩
abbrev c_X1_thrown : ByteArray := prog_3_method_2_code
abbrev k_X1_thrown : Cond := .code y_X1_thrown c_X1_thrown 1 (some .int)
theorem kw_X1_thrown : k_X1_thrown ∈ tw := tw_t (i := 412) (by decide +kernel) (by decide +kernel)
theorem im_X1_thrown : Cond.instanceMethod y_X1_thrown ∈ tw := tw_t (i := 410) (by decide +kernel) (by decide +kernel)
theorem se_X1_thrown : Cond.selects RX1 y_X1_thrown y_X1_thrown ∈ tw := tw_t (i := 411) (by decide +kernel) (by decide +kernel)
def y_X1_lay : MethodName := ⟨RX1, "lay", "()V"⟩
abbrev c_X1_lay : ByteArray := prog_3_method_3_code
abbrev k_X1_lay : Cond := .code y_X1_lay c_X1_lay 2 none
theorem kw_X1_lay : k_X1_lay ∈ tw := tw_t (i := 364) (by decide +kernel) (by decide +kernel)
theorem im_X1_lay : Cond.instanceMethod y_X1_lay ∈ tw := tw_t (i := 363) (by decide +kernel) (by decide +kernel)
theorem se_X1_lay : Cond.selects RX1 y_X1_lay y_X1_lay ∈ tw := tw_s (i := 8) (by decide +kernel) (by decide +kernel)
def y_X1_begin : MethodName := ⟨RX1, "begin", "()V"⟩
abbrev c_X1_begin : ByteArray := prog_3_method_4_code
abbrev k_X1_begin : Cond := .code y_X1_begin c_X1_begin 1 none
theorem kw_X1_begin : k_X1_begin ∈ tw := tw_t (i := 416) (by decide +kernel) (by decide +kernel)
theorem im_X1_begin : Cond.instanceMethod y_X1_begin ∈ tw := tw_t (i := 414) (by decide +kernel) (by decide +kernel)
theorem se_X1_begin : Cond.selects RX1 y_X1_begin y_X1_begin ∈ tw := tw_t (i := 415) (by decide +kernel) (by decide +kernel)
def y_X1_set : MethodName := ⟨RX1, "set", "(JJI)V"⟩
abbrev c_X1_set : ByteArray := prog_3_method_5_code
abbrev k_X1_set : Cond := .code y_X1_set c_X1_set 7 none
theorem kw_X1_set : k_X1_set ∈ tw := tw_t (i := 420) (by decide +kernel) (by decide +kernel)
theorem im_X1_set : Cond.instanceMethod y_X1_set ∈ tw := tw_t (i := 418) (by decide +kernel) (by decide +kernel)
theorem se_X1_set : Cond.selects RX1 y_X1_set y_X1_set ∈ tw := tw_t (i := 419) (by decide +kernel) (by decide +kernel)
def y_X1_isOn : MethodName := ⟨RX1, "isOn", "(II)Z"⟩
abbrev c_X1_isOn : ByteArray := prog_3_method_6_code
abbrev k_X1_isOn : Cond := .code y_X1_isOn c_X1_isOn 2 (some .boolean)
theorem kw_X1_isOn : k_X1_isOn ∈ tw := tw_t (i := 449) (by decide +kernel) (by decide +kernel)
theorem st_X1_isOn : Cond.static y_X1_isOn ∈ tw := tw_t (i := 448) (by decide +kernel) (by decide +kernel)
def y_X1_cellOf : MethodName := ⟨RX1, "cellOf", "(III)I"⟩
abbrev c_X1_cellOf : ByteArray := prog_3_method_7_code
abbrev k_X1_cellOf : Cond := .code y_X1_cellOf c_X1_cellOf 4 (some .int)
theorem kw_X1_cellOf : k_X1_cellOf ∈ tw := tw_t (i := 453) (by decide +kernel) (by decide +kernel)
theorem im_X1_cellOf : Cond.instanceMethod y_X1_cellOf ∈ tw := tw_t (i := 452) (by decide +kernel) (by decide +kernel)
theorem se_X1_cellOf : Cond.selects RX1 y_X1_cellOf y_X1_cellOf ∈ tw := tw_s (i := 11) (by decide +kernel) (by decide +kernel)
def y_X1_rowWay : MethodName := ⟨RX1, "rowWay", "(I)I"⟩
abbrev c_X1_rowWay : ByteArray := prog_3_method_8_code
abbrev k_X1_rowWay : Cond := .code y_X1_rowWay c_X1_rowWay 1 (some .int)
theorem kw_X1_rowWay : k_X1_rowWay ∈ tw := tw_t (i := 443) (by decide +kernel) (by decide +kernel)
theorem st_X1_rowWay : Cond.static y_X1_rowWay ∈ tw := tw_t (i := 442) (by decide +kernel) (by decide +kernel)
def y_X1_columnWay : MethodName := ⟨RX1, "columnWay", "(I)I"⟩
abbrev c_X1_columnWay : ByteArray := prog_3_method_9_code
abbrev k_X1_columnWay : Cond := .code y_X1_columnWay c_X1_columnWay 1 (some .int)
theorem kw_X1_columnWay : k_X1_columnWay ∈ tw := tw_t (i := 446) (by decide +kernel) (by decide +kernel)
theorem st_X1_columnWay : Cond.static y_X1_columnWay ∈ tw := tw_t (i := 445) (by decide +kernel) (by decide +kernel)
def y_X1_along : MethodName := ⟨RX1, "along", "(IIII)I"⟩
abbrev c_X1_along : ByteArray := prog_3_method_10_code
abbrev k_X1_along : Cond := .code y_X1_along c_X1_along 8 (some .int)
theorem kw_X1_along : k_X1_along ∈ tw := tw_t (i := 440) (by decide +kernel) (by decide +kernel)
theorem im_X1_along : Cond.instanceMethod y_X1_along ∈ tw := tw_t (i := 439) (by decide +kernel) (by decide +kernel)
theorem se_X1_along : Cond.selects RX1 y_X1_along y_X1_along ∈ tw := tw_s (i := 10) (by decide +kernel) (by decide +kernel)
def y_X1_flipsAt : MethodName := ⟨RX1, "flipsAt", "(III)J"⟩
abbrev c_X1_flipsAt : ByteArray := prog_3_method_11_code
abbrev k_X1_flipsAt : Cond := .code y_X1_flipsAt c_X1_flipsAt 10 (some .long)
theorem kw_X1_flipsAt : k_X1_flipsAt ∈ tw := tw_t (i := 436) (by decide +kernel) (by decide +kernel)
theorem im_X1_flipsAt : Cond.instanceMethod y_X1_flipsAt ∈ tw := tw_t (i := 435) (by decide +kernel) (by decide +kernel)
theorem se_X1_flipsAt : Cond.selects RX1 y_X1_flipsAt y_X1_flipsAt ∈ tw := tw_s (i := 9) (by decide +kernel) (by decide +kernel)
def y_X1_movesAt : MethodName := ⟨RX1, "movesAt", "(II)I"⟩
abbrev c_X1_movesAt : ByteArray := prog_3_method_12_code
abbrev k_X1_movesAt : Cond := .code y_X1_movesAt c_X1_movesAt 5 (some .int)
theorem kw_X1_movesAt : k_X1_movesAt ∈ tw := tw_t (i := 469) (by decide +kernel) (by decide +kernel)
theorem im_X1_movesAt : Cond.instanceMethod y_X1_movesAt ∈ tw := tw_t (i := 468) (by decide +kernel) (by decide +kernel)
theorem se_X1_movesAt : Cond.selects RX1 y_X1_movesAt y_X1_movesAt ∈ tw := tw_s (i := 13) (by decide +kernel) (by decide +kernel)
def y_X1_discsOf : MethodName := ⟨RX1, "discsOf", "(II)I"⟩
abbrev c_X1_discsOf : ByteArray := prog_3_method_13_code
abbrev k_X1_discsOf : Cond := .code y_X1_discsOf c_X1_discsOf 5 (some .int)
theorem kw_X1_discsOf : k_X1_discsOf ∈ tw := tw_t (i := 500) (by decide +kernel) (by decide +kernel)
theorem im_X1_discsOf : Cond.instanceMethod y_X1_discsOf ∈ tw := tw_t (i := 499) (by decide +kernel) (by decide +kernel)
theorem se_X1_discsOf : Cond.selects RX1 y_X1_discsOf y_X1_discsOf ∈ tw := tw_s (i := 16) (by decide +kernel) (by decide +kernel)
def y_X1_ones : MethodName := ⟨RX1, "ones", "(J)I"⟩
abbrev c_X1_ones : ByteArray := prog_3_method_14_code
abbrev k_X1_ones : Cond := .code y_X1_ones c_X1_ones 4 (some .int)
theorem kw_X1_ones : k_X1_ones ∈ tw := tw_t (i := 484) (by decide +kernel) (by decide +kernel)
theorem st_X1_ones : Cond.static y_X1_ones ∈ tw := tw_t (i := 483) (by decide +kernel) (by decide +kernel)
def y_X1_discs : MethodName := ⟨RX1, "discs", "(I)J"⟩
abbrev c_X1_discs : ByteArray := prog_3_method_15_code
abbrev k_X1_discs : Cond := .code y_X1_discs c_X1_discs 5 (some .long)
theorem kw_X1_discs : k_X1_discs ∈ tw := tw_t (i := 424) (by decide +kernel) (by decide +kernel)
theorem im_X1_discs : Cond.instanceMethod y_X1_discs ∈ tw := tw_t (i := 422) (by decide +kernel) (by decide +kernel)
theorem se_X1_discs : Cond.selects RX1 y_X1_discs y_X1_discs ∈ tw := tw_t (i := 423) (by decide +kernel) (by decide +kernel)
def y_X1_player : MethodName := ⟨RX1, "player", "()I"⟩
abbrev c_X1_player : ByteArray := prog_3_method_16_code
abbrev k_X1_player : Cond := .code y_X1_player c_X1_player 1 (some .int)
theorem kw_X1_player : k_X1_player ∈ tw := tw_t (i := 428) (by decide +kernel) (by decide +kernel)
theorem im_X1_player : Cond.instanceMethod y_X1_player ∈ tw := tw_t (i := 426) (by decide +kernel) (by decide +kernel)
theorem se_X1_player : Cond.selects RX1 y_X1_player y_X1_player ∈ tw := tw_t (i := 427) (by decide +kernel) (by decide +kernel)
def y_X1_moves : MethodName := ⟨RX1, "moves", "()J"⟩
abbrev c_X1_moves : ByteArray := prog_3_method_17_code
abbrev k_X1_moves : Cond := .code y_X1_moves c_X1_moves 4 (some .long)
theorem kw_X1_moves : k_X1_moves ∈ tw := tw_t (i := 432) (by decide +kernel) (by decide +kernel)
theorem im_X1_moves : Cond.instanceMethod y_X1_moves ∈ tw := tw_t (i := 430) (by decide +kernel) (by decide +kernel)
theorem se_X1_moves : Cond.selects RX1 y_X1_moves y_X1_moves ∈ tw := tw_t (i := 431) (by decide +kernel) (by decide +kernel)
def y_X1_turns : MethodName := ⟨RX1, "turns", "(I)J"⟩
abbrev c_X1_turns : ByteArray := prog_3_method_18_code
abbrev k_X1_turns : Cond := .code y_X1_turns c_X1_turns 2 (some .long)
theorem kw_X1_turns : k_X1_turns ∈ tw := tw_t (i := 457) (by decide +kernel) (by decide +kernel)
theorem im_X1_turns : Cond.instanceMethod y_X1_turns ∈ tw := tw_t (i := 455) (by decide +kernel) (by decide +kernel)
theorem se_X1_turns : Cond.selects RX1 y_X1_turns y_X1_turns ∈ tw := tw_t (i := 456) (by decide +kernel) (by decide +kernel)
def y_X1_isOver : MethodName := ⟨RX1, "isOver", "(I)Z"⟩
abbrev c_X1_isOver : ByteArray := prog_3_method_19_code
abbrev k_X1_isOver : Cond := .code y_X1_isOver c_X1_isOver 2 (some .boolean)
theorem kw_X1_isOver : k_X1_isOver ∈ tw := tw_t (i := 465) (by decide +kernel) (by decide +kernel)
theorem im_X1_isOver : Cond.instanceMethod y_X1_isOver ∈ tw := tw_t (i := 464) (by decide +kernel) (by decide +kernel)
theorem se_X1_isOver : Cond.selects RX1 y_X1_isOver y_X1_isOver ∈ tw := tw_s (i := 12) (by decide +kernel) (by decide +kernel)
def y_X1_over : MethodName := ⟨RX1, "over", "()Z"⟩
abbrev c_X1_over : ByteArray := prog_3_method_20_code
abbrev k_X1_over : Cond := .code y_X1_over c_X1_over 1 (some .boolean)
theorem kw_X1_over : k_X1_over ∈ tw := tw_t (i := 461) (by decide +kernel) (by decide +kernel)
theorem im_X1_over : Cond.instanceMethod y_X1_over ∈ tw := tw_t (i := 459) (by decide +kernel) (by decide +kernel)
theorem se_X1_over : Cond.selects RX1 y_X1_over y_X1_over ∈ tw := tw_t (i := 460) (by decide +kernel) (by decide +kernel)
def y_X1_mustPass : MethodName := ⟨RX1, "mustPass", "(I)Z"⟩
abbrev c_X1_mustPass : ByteArray := prog_3_method_21_code
abbrev k_X1_mustPass : Cond := .code y_X1_mustPass c_X1_mustPass 2 (some .boolean)
theorem kw_X1_mustPass : k_X1_mustPass ∈ tw := tw_t (i := 477) (by decide +kernel) (by decide +kernel)
theorem im_X1_mustPass : Cond.instanceMethod y_X1_mustPass ∈ tw := tw_t (i := 476) (by decide +kernel) (by decide +kernel)
theorem se_X1_mustPass : Cond.selects RX1 y_X1_mustPass y_X1_mustPass ∈ tw := tw_s (i := 14) (by decide +kernel) (by decide +kernel)
def y_X1_put : MethodName := ⟨RX1, "put", "(I)I"⟩
abbrev c_X1_put : ByteArray := prog_3_method_22_code
abbrev k_X1_put : Cond := .code y_X1_put c_X1_put 6 (some .int)
theorem kw_X1_put : k_X1_put ∈ tw := tw_t (i := 481) (by decide +kernel) (by decide +kernel)
theorem im_X1_put : Cond.instanceMethod y_X1_put ∈ tw := tw_t (i := 480) (by decide +kernel) (by decide +kernel)
theorem se_X1_put : Cond.selects RX1 y_X1_put y_X1_put ∈ tw := tw_s (i := 15) (by decide +kernel) (by decide +kernel)
def y_X1_play : MethodName := ⟨RX1, "play", "(I)I"⟩
abbrev c_X1_play : ByteArray := prog_3_method_23_code
abbrev k_X1_play : Cond := .code y_X1_play c_X1_play 3 (some .int)
theorem kw_X1_play : k_X1_play ∈ tw := tw_t (i := 473) (by decide +kernel) (by decide +kernel)
theorem im_X1_play : Cond.instanceMethod y_X1_play ∈ tw := tw_t (i := 471) (by decide +kernel) (by decide +kernel)
theorem se_X1_play : Cond.selects RX1 y_X1_play y_X1_play ∈ tw := tw_t (i := 472) (by decide +kernel) (by decide +kernel)
def y_X1_back : MethodName := ⟨RX1, "back", "()I"⟩
abbrev c_X1_back : ByteArray := prog_3_method_24_code
abbrev k_X1_back : Cond := .code y_X1_back c_X1_back 3 (some .int)
theorem kw_X1_back : k_X1_back ∈ tw := tw_t (i := 488) (by decide +kernel) (by decide +kernel)
theorem im_X1_back : Cond.instanceMethod y_X1_back ∈ tw := tw_t (i := 486) (by decide +kernel) (by decide +kernel)
theorem se_X1_back : Cond.selects RX1 y_X1_back y_X1_back ∈ tw := tw_t (i := 487) (by decide +kernel) (by decide +kernel)
def y_X1_made : MethodName := ⟨RX1, "made", "()I"⟩
abbrev c_X1_made : ByteArray := prog_3_method_25_code
abbrev k_X1_made : Cond := .code y_X1_made c_X1_made 1 (some .int)
theorem kw_X1_made : k_X1_made ∈ tw := tw_t (i := 492) (by decide +kernel) (by decide +kernel)
theorem im_X1_made : Cond.instanceMethod y_X1_made ∈ tw := tw_t (i := 490) (by decide +kernel) (by decide +kernel)
theorem se_X1_made : Cond.selects RX1 y_X1_made y_X1_made ∈ tw := tw_t (i := 491) (by decide +kernel) (by decide +kernel)
def y_X1_difference : MethodName := ⟨RX1, "difference", "()I"⟩
abbrev c_X1_difference : ByteArray := prog_3_method_26_code
abbrev k_X1_difference : Cond := .code y_X1_difference c_X1_difference 1 (some .int)
theorem kw_X1_difference : k_X1_difference ∈ tw := tw_t (i := 496) (by decide +kernel) (by decide +kernel)
theorem im_X1_difference : Cond.instanceMethod y_X1_difference ∈ tw := tw_t (i := 494) (by decide +kernel) (by decide +kernel)
theorem se_X1_difference : Cond.selects RX1 y_X1_difference y_X1_difference ∈ tw := tw_t (i := 495) (by decide +kernel) (by decide +kernel)
def y_X1_layNext : MethodName := ⟨RX1, "layNext", "(II)V"⟩
abbrev c_X1_layNext : ByteArray := prog_3_method_27_code
abbrev k_X1_layNext : Cond := .code y_X1_layNext c_X1_layNext 8 none
theorem kw_X1_layNext : k_X1_layNext ∈ tw := tw_t (i := 528) (by decide +kernel) (by decide +kernel)
theorem im_X1_layNext : Cond.instanceMethod y_X1_layNext ∈ tw := tw_t (i := 527) (by decide +kernel) (by decide +kernel)
theorem se_X1_layNext : Cond.selects RX1 y_X1_layNext y_X1_layNext ∈ tw := tw_s (i := 22) (by decide +kernel) (by decide +kernel)
def y_X1_findSpots : MethodName := ⟨RX1, "findSpots", "()V"⟩
abbrev c_X1_findSpots : ByteArray := prog_3_method_28_code
abbrev k_X1_findSpots : Cond := .code y_X1_findSpots c_X1_findSpots 2 none
theorem kw_X1_findSpots : k_X1_findSpots ∈ tw := tw_t (i := 508) (by decide +kernel) (by decide +kernel)
theorem im_X1_findSpots : Cond.instanceMethod y_X1_findSpots ∈ tw := tw_t (i := 507) (by decide +kernel) (by decide +kernel)
theorem se_X1_findSpots : Cond.selects RX1 y_X1_findSpots y_X1_findSpots ∈ tw := tw_s (i := 17) (by decide +kernel) (by decide +kernel)
def y_X1_turnsAny : MethodName := ⟨RX1, "turnsAny", "(III)Z"⟩
abbrev c_X1_turnsAny : ByteArray := prog_3_method_29_code
abbrev k_X1_turnsAny : Cond := .code y_X1_turnsAny c_X1_turnsAny 6 (some .boolean)
theorem kw_X1_turnsAny : k_X1_turnsAny ∈ tw := tw_t (i := 520) (by decide +kernel) (by decide +kernel)
theorem im_X1_turnsAny : Cond.instanceMethod y_X1_turnsAny ∈ tw := tw_t (i := 519) (by decide +kernel) (by decide +kernel)
theorem se_X1_turnsAny : Cond.selects RX1 y_X1_turnsAny y_X1_turnsAny ∈ tw := tw_s (i := 20) (by decide +kernel) (by decide +kernel)
def y_X1_movable : MethodName := ⟨RX1, "movable", "(III)I"⟩
abbrev c_X1_movable : ByteArray := prog_3_method_30_code
abbrev k_X1_movable : Cond := .code y_X1_movable c_X1_movable 6 (some .int)
theorem kw_X1_movable : k_X1_movable ∈ tw := tw_t (i := 516) (by decide +kernel) (by decide +kernel)
theorem im_X1_movable : Cond.instanceMethod y_X1_movable ∈ tw := tw_t (i := 515) (by decide +kernel) (by decide +kernel)
theorem se_X1_movable : Cond.selects RX1 y_X1_movable y_X1_movable ∈ tw := tw_s (i := 19) (by decide +kernel) (by decide +kernel)
def y_X1_enter : MethodName := ⟨RX1, "enter", "(I)V"⟩
abbrev c_X1_enter : ByteArray := prog_3_method_31_code
abbrev k_X1_enter : Cond := .code y_X1_enter c_X1_enter 4 none
theorem kw_X1_enter : k_X1_enter ∈ tw := tw_t (i := 512) (by decide +kernel) (by decide +kernel)
theorem im_X1_enter : Cond.instanceMethod y_X1_enter ∈ tw := tw_t (i := 511) (by decide +kernel) (by decide +kernel)
theorem se_X1_enter : Cond.selects RX1 y_X1_enter y_X1_enter ∈ tw := tw_s (i := 18) (by decide +kernel) (by decide +kernel)
def y_X1_nextAt : MethodName := ⟨RX1, "nextAt", "(I)I"⟩
abbrev c_X1_nextAt : ByteArray := prog_3_method_32_code
abbrev k_X1_nextAt : Cond := .code y_X1_nextAt c_X1_nextAt 3 (some .int)
theorem kw_X1_nextAt : k_X1_nextAt ∈ tw := tw_t (i := 524) (by decide +kernel) (by decide +kernel)
theorem im_X1_nextAt : Cond.instanceMethod y_X1_nextAt ∈ tw := tw_t (i := 523) (by decide +kernel) (by decide +kernel)
theorem se_X1_nextAt : Cond.selects RX1 y_X1_nextAt y_X1_nextAt ∈ tw := tw_s (i := 21) (by decide +kernel) (by decide +kernel)
def y_X1_count : MethodName := ⟨RX1, "count", "(I)J"⟩
abbrev c_X1_count : ByteArray := prog_3_method_33_code
abbrev k_X1_count : Cond := .code y_X1_count c_X1_count 7 (some .long)
theorem kw_X1_count : k_X1_count ∈ tw := tw_t (i := 504) (by decide +kernel) (by decide +kernel)
theorem im_X1_count : Cond.instanceMethod y_X1_count ∈ tw := tw_t (i := 502) (by decide +kernel) (by decide +kernel)
theorem se_X1_count : Cond.selects RX1 y_X1_count y_X1_count ∈ tw := tw_t (i := 503) (by decide +kernel) (by decide +kernel)
def y_X1_empties : MethodName := ⟨RX1, "empties", "()I"⟩
abbrev c_X1_empties : ByteArray := prog_3_method_34_code
abbrev k_X1_empties : Cond := .code y_X1_empties c_X1_empties 1 (some .int)
theorem kw_X1_empties : k_X1_empties ∈ tw := tw_t (i := 536) (by decide +kernel) (by decide +kernel)
theorem im_X1_empties : Cond.instanceMethod y_X1_empties ∈ tw := tw_t (i := 535) (by decide +kernel) (by decide +kernel)
theorem se_X1_empties : Cond.selects RX1 y_X1_empties y_X1_empties ∈ tw := tw_s (i := 23) (by decide +kernel) (by decide +kernel)
def y_X1_search : MethodName := ⟨RX1, "search", "()I"⟩
abbrev c_X1_search : ByteArray := prog_3_method_35_code
abbrev k_X1_search : Cond := .code y_X1_search c_X1_search 5 (some .int)
theorem kw_X1_search : k_X1_search ∈ tw := tw_t (i := 540) (by decide +kernel) (by decide +kernel)
theorem im_X1_search : Cond.instanceMethod y_X1_search ∈ tw := tw_t (i := 539) (by decide +kernel) (by decide +kernel)
theorem se_X1_search : Cond.selects RX1 y_X1_search y_X1_search ∈ tw := tw_s (i := 24) (by decide +kernel) (by decide +kernel)
def y_X1_outcome : MethodName := ⟨RX1, "outcome", "()I"⟩
abbrev c_X1_outcome : ByteArray := prog_3_method_36_code
abbrev k_X1_outcome : Cond := .code y_X1_outcome c_X1_outcome 1 (some .int)
theorem kw_X1_outcome : k_X1_outcome ∈ tw := tw_t (i := 532) (by decide +kernel) (by decide +kernel)
theorem im_X1_outcome : Cond.instanceMethod y_X1_outcome ∈ tw := tw_t (i := 530) (by decide +kernel) (by decide +kernel)
theorem se_X1_outcome : Cond.selects RX1 y_X1_outcome y_X1_outcome ∈ tw := tw_t (i := 531) (by decide +kernel) (by decide +kernel)
def y_X1_best : MethodName := ⟨RX1, "best", "()I"⟩
abbrev c_X1_best : ByteArray := prog_3_method_37_code
abbrev k_X1_best : Cond := .code y_X1_best c_X1_best 2 (some .int)
theorem kw_X1_best : k_X1_best ∈ tw := tw_t (i := 544) (by decide +kernel) (by decide +kernel)
theorem im_X1_best : Cond.instanceMethod y_X1_best ∈ tw := tw_t (i := 542) (by decide +kernel) (by decide +kernel)
theorem se_X1_best : Cond.selects RX1 y_X1_best y_X1_best ∈ tw := tw_t (i := 543) (by decide +kernel) (by decide +kernel)
def y_X1_finish : MethodName := ⟨RX1, "finish", "()I"⟩
abbrev c_X1_finish : ByteArray := prog_3_method_38_code
abbrev k_X1_finish : Cond := .code y_X1_finish c_X1_finish 5 (some .int)
theorem kw_X1_finish : k_X1_finish ∈ tw := tw_t (i := 548) (by decide +kernel) (by decide +kernel)
theorem im_X1_finish : Cond.instanceMethod y_X1_finish ∈ tw := tw_t (i := 546) (by decide +kernel) (by decide +kernel)
theorem se_X1_finish : Cond.selects RX1 y_X1_finish y_X1_finish ∈ tw := tw_t (i := 547) (by decide +kernel) (by decide +kernel)
def y_X1_border : MethodName := ⟨RX1, "border", "(I)I"⟩
abbrev c_X1_border : ByteArray := prog_3_method_39_code
abbrev k_X1_border : Cond := .code y_X1_border c_X1_border 8 (some .int)
theorem kw_X1_border : k_X1_border ∈ tw := tw_t (i := 552) (by decide +kernel) (by decide +kernel)
theorem im_X1_border : Cond.instanceMethod y_X1_border ∈ tw := tw_t (i := 550) (by decide +kernel) (by decide +kernel)
theorem se_X1_border : Cond.selects RX1 y_X1_border y_X1_border ∈ tw := tw_t (i := 551) (by decide +kernel) (by decide +kernel)
def y_X1_isFull : MethodName := ⟨RX1, "isFull", "(III)Z"⟩
abbrev c_X1_isFull : ByteArray := prog_3_method_40_code
abbrev k_X1_isFull : Cond := .code y_X1_isFull c_X1_isFull 6 (some .boolean)
theorem kw_X1_isFull : k_X1_isFull ∈ tw := tw_t (i := 560) (by decide +kernel) (by decide +kernel)
theorem im_X1_isFull : Cond.instanceMethod y_X1_isFull ∈ tw := tw_t (i := 559) (by decide +kernel) (by decide +kernel)
theorem se_X1_isFull : Cond.selects RX1 y_X1_isFull y_X1_isFull ∈ tw := tw_s (i := 25) (by decide +kernel) (by decide +kernel)
def y_X1_safe : MethodName := ⟨RX1, "safe", "(I)J"⟩
abbrev c_X1_safe : ByteArray := prog_3_method_41_code
abbrev k_X1_safe : Cond := .code y_X1_safe c_X1_safe 7 (some .long)
theorem kw_X1_safe : k_X1_safe ∈ tw := tw_t (i := 556) (by decide +kernel) (by decide +kernel)
theorem im_X1_safe : Cond.instanceMethod y_X1_safe ∈ tw := tw_t (i := 554) (by decide +kernel) (by decide +kernel)
theorem se_X1_safe : Cond.selects RX1 y_X1_safe y_X1_safe ∈ tw := tw_t (i := 555) (by decide +kernel) (by decide +kernel)
def y_L_set : MethodName := ⟨RL, "set", "(LTurnedDiscs;JJI)I"⟩
abbrev c_L_set : ByteArray := method_3_code
abbrev k_L_set : Cond := .codeWith y_L_set c_L_set 7 (some .int) [((0 : Nat), (8 : Nat), (11 : Nat), (13 : Nat))]
theorem kw_L_set : k_L_set ∈ tw := tw_t (i := 105) (by decide +kernel) (by decide +kernel)
theorem st_L_set : Cond.static y_L_set ∈ tw := tw_t (i := 104) (by decide +kernel) (by decide +kernel)
def y_L_discs : MethodName := ⟨RL, "discs", "(LTurnedDiscs;I[J)I"⟩
abbrev c_L_discs : ByteArray := method_4_code
abbrev k_L_discs : Cond := .codeWith y_L_discs c_L_discs 4 (some .int) [((0 : Nat), (8 : Nat), (11 : Nat), (13 : Nat))]
theorem kw_L_discs : k_L_discs ∈ tw := tw_t (i := 185) (by decide +kernel) (by decide +kernel)
theorem st_L_discs : Cond.static y_L_discs ∈ tw := tw_t (i := 184) (by decide +kernel) (by decide +kernel)
def y_L_turns : MethodName := ⟨RL, "turns", "(LTurnedDiscs;I[J)I"⟩
abbrev c_L_turns : ByteArray := method_5_code
abbrev k_L_turns : Cond := .codeWith y_L_turns c_L_turns 4 (some .int) [((0 : Nat), (8 : Nat), (11 : Nat), (13 : Nat))]
theorem kw_L_turns : k_L_turns ∈ tw := tw_t (i := 192) (by decide +kernel) (by decide +kernel)
theorem st_L_turns : Cond.static y_L_turns ∈ tw := tw_t (i := 191) (by decide +kernel) (by decide +kernel)
def y_L_play : MethodName := ⟨RL, "play", "(LTurnedDiscs;I[J)I"⟩
abbrev c_L_play : ByteArray := method_6_code
abbrev k_L_play : Cond := .codeWith y_L_play c_L_play 4 (some .int) [((0 : Nat), (9 : Nat), (12 : Nat), (13 : Nat)), ((0 : Nat), (9 : Nat), (15 : Nat), (26 : Nat))]
theorem kw_L_play : k_L_play ∈ tw := tw_t (i := 213) (by decide +kernel) (by decide +kernel)
theorem st_L_play : Cond.static y_L_play ∈ tw := tw_t (i := 212) (by decide +kernel) (by decide +kernel)
def y_L_back : MethodName := ⟨RL, "back", "(LTurnedDiscs;[J)I"⟩
abbrev c_L_back : ByteArray := method_7_code
abbrev k_L_back : Cond := .codeWith y_L_back c_L_back 3 (some .int) [((0 : Nat), (8 : Nat), (11 : Nat), (32 : Nat))]
theorem kw_L_back : k_L_back ∈ tw := tw_t (i := 246) (by decide +kernel) (by decide +kernel)
theorem st_L_back : Cond.static y_L_back ∈ tw := tw_t (i := 245) (by decide +kernel) (by decide +kernel)
def y_L_count : MethodName := ⟨RL, "count", "(LTurnedDiscs;I[J)I"⟩
abbrev c_L_count : ByteArray := method_8_code
abbrev k_L_count : Cond := .codeWith y_L_count c_L_count 4 (some .int) [((0 : Nat), (8 : Nat), (11 : Nat), (13 : Nat))]
theorem kw_L_count : k_L_count ∈ tw := tw_t (i := 270) (by decide +kernel) (by decide +kernel)
theorem st_L_count : Cond.static y_L_count ∈ tw := tw_t (i := 269) (by decide +kernel) (by decide +kernel)
def y_L_outcome : MethodName := ⟨RL, "outcome", "(LTurnedDiscs;[J)I"⟩
abbrev c_L_outcome : ByteArray := method_9_code
abbrev k_L_outcome : Cond := .codeWith y_L_outcome c_L_outcome 3 (some .int) [((0 : Nat), (8 : Nat), (11 : Nat), (26 : Nat))]
theorem kw_L_outcome : k_L_outcome ∈ tw := tw_t (i := 281) (by decide +kernel) (by decide +kernel)
theorem st_L_outcome : Cond.static y_L_outcome ∈ tw := tw_t (i := 280) (by decide +kernel) (by decide +kernel)
def y_L_best : MethodName := ⟨RL, "best", "(LTurnedDiscs;[J)I"⟩
abbrev c_L_best : ByteArray := method_10_code
abbrev k_L_best : Cond := .codeWith y_L_best c_L_best 3 (some .int) [((0 : Nat), (8 : Nat), (11 : Nat), (26 : Nat))]
theorem kw_L_best : k_L_best ∈ tw := tw_t (i := 302) (by decide +kernel) (by decide +kernel)
theorem st_L_best : Cond.static y_L_best ∈ tw := tw_t (i := 301) (by decide +kernel) (by decide +kernel)
def y_L_finish : MethodName := ⟨RL, "finish", "(LTurnedDiscs;[J)I"⟩
abbrev c_L_finish : ByteArray := method_11_code
abbrev k_L_finish : Cond := .codeWith y_L_finish c_L_finish 3 (some .int) [((0 : Nat), (8 : Nat), (11 : Nat), (26 : Nat))]
theorem kw_L_finish : k_L_finish ∈ tw := tw_t (i := 315) (by decide +kernel) (by decide +kernel)
theorem st_L_finish : Cond.static y_L_finish ∈ tw := tw_t (i := 314) (by decide +kernel) (by decide +kernel)
def y_L_border : MethodName := ⟨RL, "border", "(LTurnedDiscs;I[J)I"⟩
abbrev c_L_border : ByteArray := method_12_code
abbrev k_L_border : Cond := .codeWith y_L_border c_L_border 4 (some .int) [((0 : Nat), (9 : Nat), (12 : Nat), (13 : Nat))]
theorem kw_L_border : k_L_border ∈ tw := tw_t (i := 327) (by decide +kernel) (by decide +kernel)
theorem st_L_border : Cond.static y_L_border ∈ tw := tw_t (i := 326) (by decide +kernel) (by decide +kernel)
def y_L_safe : MethodName := ⟨RL, "safe", "(LTurnedDiscs;I[J)I"⟩
abbrev c_L_safe : ByteArray := method_13_code
abbrev k_L_safe : Cond := .codeWith y_L_safe c_L_safe 4 (some .int) [((0 : Nat), (8 : Nat), (11 : Nat), (13 : Nat))]
theorem kw_L_safe : k_L_safe ∈ tw := tw_t (i := 339) (by decide +kernel) (by decide +kernel)
theorem st_L_safe : Cond.static y_L_safe ∈ tw := tw_t (i := 338) (by decide +kernel) (by decide +kernel)
def y_L_law : MethodName := ⟨RL, "law", "([I)Z"⟩
abbrev c_L_law : ByteArray := code
def y_JL_bitCount : MethodName := ⟨RJL, "bitCount", "(J)I"⟩
abbrev c_JL_bitCount : ByteArray := prog_7_method_50_code
abbrev k_JL_bitCount : Cond := .code y_JL_bitCount c_JL_bitCount 2 (some .int)
theorem kw_JL_bitCount : k_JL_bitCount ∈ tw := tw_t (i := 99) (by decide +kernel) (by decide +kernel)
theorem st_JL_bitCount : Cond.static y_JL_bitCount ∈ tw := tw_t (i := 98) (by decide +kernel) (by decide +kernel)
def y_JM_max : MethodName := ⟨RJM, "max", "(II)I"⟩
abbrev c_JM_max : ByteArray := prog_8_method_65_code
abbrev k_JM_max : Cond := .code y_JM_max c_JM_max 2 (some .int)
theorem kw_JM_max : k_JM_max ∈ tw := tw_t (i := 296) (by decide +kernel) (by decide +kernel)
theorem st_JM_max : Cond.static y_JM_max ∈ tw := tw_t (i := 295) (by decide +kernel) (by decide +kernel)
theorem cl_L_8 : Cond.classLink RL 8 "TurnedDiscs" ∈ tw := tw_t (i := 11) (by decide +kernel) (by decide +kernel)
theorem ia_X0 : Cond.instantiable RX0 7 ∈ tw := tw_t (i := 12) (by decide +kernel) (by decide +kernel)
theorem ml_L_52 : Cond.methodLink RL 52 y_X0_init ∈ tw := tw_t (i := 13) (by decide +kernel) (by decide +kernel)
theorem ml_X0_3 : Cond.methodLink RX0 3 objectInit ∈ tw := tw_t (i := 16) (by decide +kernel) (by decide +kernel)
theorem cn_X0_20 : Cond.constantLong RX0 20 (34628173824) ∈ tw := tw_t (i := 19) (by decide +kernel) (by decide +kernel)
theorem cn_X0_22 : Cond.constantLong RX0 22 (68853694464) ∈ tw := tw_t (i := 20) (by decide +kernel) (by decide +kernel)
theorem ml_X0_24 : Cond.methodLink RX0 24 y_X0_setUp ∈ tw := tw_t (i := 21) (by decide +kernel) (by decide +kernel)
theorem fl_X0_47 : Cond.fieldLink RX0 47 "TurnedDiscs" "own" "J" ∈ tw := tw_t (i := 25) (by decide +kernel) (by decide +kernel)
theorem fl_X0_51 : Cond.fieldLink RX0 51 "TurnedDiscs" "other" "J" ∈ tw := tw_t (i := 26) (by decide +kernel) (by decide +kernel)
theorem fl_X0_43 : Cond.fieldLink RX0 43 "TurnedDiscs" "player" "I" ∈ tw := tw_t (i := 27) (by decide +kernel) (by decide +kernel)
theorem fl_X0_81 : Cond.fieldLink RX0 81 "TurnedDiscs" "made" "I" ∈ tw := tw_t (i := 28) (by decide +kernel) (by decide +kernel)
theorem fl_X0_9 : Cond.fieldLink RX0 9 "TurnedDiscs" "squares" "[I" ∈ tw := tw_t (i := 29) (by decide +kernel) (by decide +kernel)
theorem fl_X0_13 : Cond.fieldLink RX0 13 "TurnedDiscs" "turned" "[J" ∈ tw := tw_t (i := 30) (by decide +kernel) (by decide +kernel)
theorem fl_X0_17 : Cond.fieldLink RX0 17 "TurnedDiscs" "plan" "[I" ∈ tw := tw_t (i := 31) (by decide +kernel) (by decide +kernel)
theorem ac_int : Cond.arrayClass .int ∈ tw := tw_t (i := 47) (by decide +kernel) (by decide +kernel)
theorem ac_long : Cond.arrayClass .long ∈ tw := tw_t (i := 48) (by decide +kernel) (by decide +kernel)
theorem ml_L_56 : Cond.methodLink RL 56 y_X0_begin ∈ tw := tw_t (i := 49) (by decide +kernel) (by decide +kernel)
theorem ml_L_75 : Cond.methodLink RL 75 y_X0_player ∈ tw := tw_t (i := 53) (by decide +kernel) (by decide +kernel)
theorem ml_L_79 : Cond.methodLink RL 79 y_X0_moves ∈ tw := tw_t (i := 57) (by decide +kernel) (by decide +kernel)
theorem ml_X0_54 : Cond.methodLink RX0 54 y_X0_movesOf ∈ tw := tw_t (i := 61) (by decide +kernel) (by decide +kernel)
theorem cn_X0_160 : Cond.constantLong RX0 160 (9114861777597660798) ∈ tw := tw_t (i := 64) (by decide +kernel) (by decide +kernel)
theorem ml_X0_162 : Cond.methodLink RX0 162 y_X0_endsAlong ∈ tw := tw_t (i := 65) (by decide +kernel) (by decide +kernel)
theorem ml_X0_165 : Cond.methodLink RX0 165 y_X0_runUp ∈ tw := tw_t (i := 68) (by decide +kernel) (by decide +kernel)
theorem ml_X0_168 : Cond.methodLink RX0 168 y_X0_runDown ∈ tw := tw_t (i := 71) (by decide +kernel) (by decide +kernel)
theorem cn_X0_158 : Cond.constantLong RX0 158 (-1) ∈ tw := tw_t (i := 74) (by decide +kernel) (by decide +kernel)
theorem ml_L_87 : Cond.methodLink RL 87 y_X0_over ∈ tw := tw_t (i := 75) (by decide +kernel) (by decide +kernel)
theorem ml_X0_71 : Cond.methodLink RX0 71 y_X0_isOver ∈ tw := tw_t (i := 79) (by decide +kernel) (by decide +kernel)
theorem ml_L_99 : Cond.methodLink RL 99 y_X0_made ∈ tw := tw_t (i := 82) (by decide +kernel) (by decide +kernel)
theorem ml_L_103 : Cond.methodLink RL 103 y_X0_difference ∈ tw := tw_t (i := 86) (by decide +kernel) (by decide +kernel)
theorem ml_X0_39 : Cond.methodLink RX0 39 y_X0_discsOf ∈ tw := tw_t (i := 90) (by decide +kernel) (by decide +kernel)
theorem ml_X0_98 : Cond.methodLink RX0 98 y_X0_lead ∈ tw := tw_t (i := 94) (by decide +kernel) (by decide +kernel)
theorem ml_X0_128 : Cond.methodLink RX0 128 y_JL_bitCount ∈ tw := tw_t (i := 97) (by decide +kernel) (by decide +kernel)
theorem cn_JL_314 : Cond.constantLong RJL 314 (6148914691236517205) ∈ tw := tw_t (i := 100) (by decide +kernel) (by decide +kernel)
theorem cn_JL_316 : Cond.constantLong RJL 316 (3689348814741910323) ∈ tw := tw_t (i := 101) (by decide +kernel) (by decide +kernel)
theorem cn_JL_318 : Cond.constantLong RJL 318 (1085102592571150095) ∈ tw := tw_t (i := 102) (by decide +kernel) (by decide +kernel)
theorem ml_L_62 : Cond.methodLink RL 62 y_L_set ∈ tw := tw_t (i := 103) (by decide +kernel) (by decide +kernel)
theorem cl_L_13 : Cond.classLink RL 13 "java/lang/IllegalArgumentException" ∈ tw := tw_t (i := 106) (by decide +kernel) (by decide +kernel)
theorem ml_L_7 : Cond.methodLink RL 7 y_X0_set ∈ tw := tw_t (i := 107) (by decide +kernel) (by decide +kernel)
theorem cl_X0_28 : Cond.classLink RX0 28 "java/lang/IllegalArgumentException" ∈ tw := tw_t (i := 111) (by decide +kernel) (by decide +kernel)
theorem ac_byte : Cond.arrayClass .byte ∈ tw := tw_t (i := 178) (by decide +kernel) (by decide +kernel)
theorem ml_X0_35 : Cond.methodLink RX0 35 y_X0_requirePlayer ∈ tw := tw_t (i := 179) (by decide +kernel) (by decide +kernel)
theorem ml_L_71 : Cond.methodLink RL 71 y_L_discs ∈ tw := tw_t (i := 183) (by decide +kernel) (by decide +kernel)
theorem ml_L_15 : Cond.methodLink RL 15 y_X0_discs ∈ tw := tw_t (i := 186) (by decide +kernel) (by decide +kernel)
theorem ml_L_84 : Cond.methodLink RL 84 y_L_turns ∈ tw := tw_t (i := 190) (by decide +kernel) (by decide +kernel)
theorem ml_L_19 : Cond.methodLink RL 19 y_X0_turns ∈ tw := tw_t (i := 193) (by decide +kernel) (by decide +kernel)
theorem ml_X0_60 : Cond.methodLink RX0 60 y_X0_discOn ∈ tw := tw_t (i := 198) (by decide +kernel) (by decide +kernel)
theorem ml_X0_63 : Cond.methodLink RX0 63 y_X0_empty ∈ tw := tw_t (i := 201) (by decide +kernel) (by decide +kernel)
theorem ml_X0_67 : Cond.methodLink RX0 67 y_X0_turnedBy ∈ tw := tw_t (i := 205) (by decide +kernel) (by decide +kernel)
theorem ml_X0_171 : Cond.methodLink RX0 171 y_X0_turnedAlong ∈ tw := tw_t (i := 208) (by decide +kernel) (by decide +kernel)
theorem ml_L_92 : Cond.methodLink RL 92 y_L_play ∈ tw := tw_t (i := 211) (by decide +kernel) (by decide +kernel)
theorem cl_L_26 : Cond.classLink RL 26 "java/lang/IllegalStateException" ∈ tw := tw_t (i := 214) (by decide +kernel) (by decide +kernel)
theorem ml_L_22 : Cond.methodLink RL 22 y_X0_play ∈ tw := tw_t (i := 215) (by decide +kernel) (by decide +kernel)
theorem ml_X0_75 : Cond.methodLink RX0 75 y_X0_mayPlay ∈ tw := tw_t (i := 219) (by decide +kernel) (by decide +kernel)
theorem cl_X0_84 : Cond.classLink RX0 84 "java/lang/IllegalStateException" ∈ tw := tw_t (i := 224) (by decide +kernel) (by decide +kernel)
theorem ml_X0_89 : Cond.methodLink RX0 89 y_X0_make ∈ tw := tw_t (i := 240) (by decide +kernel) (by decide +kernel)
theorem ml_L_95 : Cond.methodLink RL 95 y_L_back ∈ tw := tw_t (i := 244) (by decide +kernel) (by decide +kernel)
theorem cl_L_32 : Cond.classLink RL 32 "java/util/NoSuchElementException" ∈ tw := tw_t (i := 247) (by decide +kernel) (by decide +kernel)
theorem ml_L_28 : Cond.methodLink RL 28 y_X0_back ∈ tw := tw_t (i := 248) (by decide +kernel) (by decide +kernel)
theorem cl_X0_93 : Cond.classLink RX0 93 "java/util/NoSuchElementException" ∈ tw := tw_t (i := 252) (by decide +kernel) (by decide +kernel)
theorem ml_L_107 : Cond.methodLink RL 107 y_L_count ∈ tw := tw_t (i := 268) (by decide +kernel) (by decide +kernel)
theorem ml_L_34 : Cond.methodLink RL 34 y_X0_count ∈ tw := tw_t (i := 271) (by decide +kernel) (by decide +kernel)
theorem ml_X0_104 : Cond.methodLink RX0 104 y_X0_rowsFrom ∈ tw := tw_t (i := 276) (by decide +kernel) (by decide +kernel)
theorem ml_L_110 : Cond.methodLink RL 110 y_L_outcome ∈ tw := tw_t (i := 279) (by decide +kernel) (by decide +kernel)
theorem ml_L_37 : Cond.methodLink RL 37 y_X0_outcome ∈ tw := tw_t (i := 282) (by decide +kernel) (by decide +kernel)
theorem ml_X0_108 : Cond.methodLink RX0 108 y_X0_requireFewEmpty ∈ tw := tw_t (i := 286) (by decide +kernel) (by decide +kernel)
theorem ml_X0_111 : Cond.methodLink RX0 111 y_X0_worth ∈ tw := tw_t (i := 291) (by decide +kernel) (by decide +kernel)
theorem ml_X0_175 : Cond.methodLink RX0 175 y_JM_max ∈ tw := tw_t (i := 294) (by decide +kernel) (by decide +kernel)
theorem ml_X0_181 : Cond.methodLink RX0 181 y_X0_worthOf ∈ tw := tw_t (i := 297) (by decide +kernel) (by decide +kernel)
theorem ml_L_113 : Cond.methodLink RL 113 y_L_best ∈ tw := tw_t (i := 300) (by decide +kernel) (by decide +kernel)
theorem ml_L_40 : Cond.methodLink RL 40 y_X0_best ∈ tw := tw_t (i := 303) (by decide +kernel) (by decide +kernel)
theorem ml_X0_115 : Cond.methodLink RX0 115 y_X0_bestSquare ∈ tw := tw_t (i := 307) (by decide +kernel) (by decide +kernel)
theorem ml_X0_185 : Cond.methodLink RX0 185 y_X0_squareOf ∈ tw := tw_t (i := 310) (by decide +kernel) (by decide +kernel)
theorem ml_L_116 : Cond.methodLink RL 116 y_L_finish ∈ tw := tw_t (i := 313) (by decide +kernel) (by decide +kernel)
theorem ml_L_43 : Cond.methodLink RL 43 y_X0_finish ∈ tw := tw_t (i := 316) (by decide +kernel) (by decide +kernel)
theorem ml_X0_118 : Cond.methodLink RX0 118 y_X0_planFinish ∈ tw := tw_t (i := 320) (by decide +kernel) (by decide +kernel)
theorem ml_L_119 : Cond.methodLink RL 119 y_L_border ∈ tw := tw_t (i := 325) (by decide +kernel) (by decide +kernel)
theorem ml_L_46 : Cond.methodLink RL 46 y_X0_border ∈ tw := tw_t (i := 328) (by decide +kernel) (by decide +kernel)
theorem ml_X0_124 : Cond.methodLink RX0 124 y_X0_withNeighbours ∈ tw := tw_t (i := 332) (by decide +kernel) (by decide +kernel)
theorem cn_X0_188 : Cond.constantLong RX0 188 (-72340172838076674) ∈ tw := tw_t (i := 335) (by decide +kernel) (by decide +kernel)
theorem cn_X0_190 : Cond.constantLong RX0 190 (9187201950435737471) ∈ tw := tw_t (i := 336) (by decide +kernel) (by decide +kernel)
theorem ml_L_122 : Cond.methodLink RL 122 y_L_safe ∈ tw := tw_t (i := 337) (by decide +kernel) (by decide +kernel)
theorem ml_L_49 : Cond.methodLink RL 49 y_X0_safe ∈ tw := tw_t (i := 340) (by decide +kernel) (by decide +kernel)
theorem cn_X0_134 : Cond.constantLong RX0 134 (-9187201950435737472) ∈ tw := tw_t (i := 344) (by decide +kernel) (by decide +kernel)
theorem cn_X0_136 : Cond.constantLong RX0 136 (72340172838076673) ∈ tw := tw_t (i := 345) (by decide +kernel) (by decide +kernel)
theorem ml_X0_138 : Cond.methodLink RX0 138 y_X0_heldAlong ∈ tw := tw_t (i := 346) (by decide +kernel) (by decide +kernel)
theorem cn_X0_142 : Cond.constantLong RX0 142 (-72057594037927936) ∈ tw := tw_t (i := 349) (by decide +kernel) (by decide +kernel)
theorem cn_X0_144 : Cond.constantLong RX0 144 (255) ∈ tw := tw_t (i := 350) (by decide +kernel) (by decide +kernel)
theorem cn_X0_146 : Cond.constantLong RX0 146 (-35887507618889600) ∈ tw := tw_t (i := 351) (by decide +kernel) (by decide +kernel)
theorem cn_X0_148 : Cond.constantLong RX0 148 (72340172838076927) ∈ tw := tw_t (i := 352) (by decide +kernel) (by decide +kernel)
theorem cn_X0_150 : Cond.constantLong RX0 150 (-71775015237779199) ∈ tw := tw_t (i := 353) (by decide +kernel) (by decide +kernel)
theorem cn_X0_152 : Cond.constantLong RX0 152 (-9187201950435737345) ∈ tw := tw_t (i := 354) (by decide +kernel) (by decide +kernel)
theorem cl_L_53 : Cond.classLink RL 53 "TurnedDiscsModel" ∈ tw := tw_t (i := 355) (by decide +kernel) (by decide +kernel)
theorem ia_X1 : Cond.instantiable RX1 14 ∈ tw := tw_t (i := 356) (by decide +kernel) (by decide +kernel)
theorem ml_L_55 : Cond.methodLink RL 55 y_X1_init ∈ tw := tw_t (i := 357) (by decide +kernel) (by decide +kernel)
theorem ml_X1_1 : Cond.methodLink RX1 1 objectInit ∈ tw := tw_t (i := 360) (by decide +kernel) (by decide +kernel)
theorem ml_X1_42 : Cond.methodLink RX1 42 y_X1_lay ∈ tw := tw_t (i := 361) (by decide +kernel) (by decide +kernel)
theorem fl_X1_45 : Cond.fieldLink RX1 45 "TurnedDiscsModel" "thrown" "I" ∈ tw := tw_t (i := 365) (by decide +kernel) (by decide +kernel)
theorem fl_X1_7 : Cond.fieldLink RX1 7 "TurnedDiscsModel" "cells" "[I" ∈ tw := tw_t (i := 366) (by decide +kernel) (by decide +kernel)
theorem fl_X1_13 : Cond.fieldLink RX1 13 "TurnedDiscsModel" "movers" "[I" ∈ tw := tw_t (i := 367) (by decide +kernel) (by decide +kernel)
theorem fl_X1_16 : Cond.fieldLink RX1 16 "TurnedDiscsModel" "row" "[I" ∈ tw := tw_t (i := 368) (by decide +kernel) (by decide +kernel)
theorem fl_X1_19 : Cond.fieldLink RX1 19 "TurnedDiscsModel" "turned" "[J" ∈ tw := tw_t (i := 369) (by decide +kernel) (by decide +kernel)
theorem fl_X1_49 : Cond.fieldLink RX1 49 "TurnedDiscsModel" "made" "I" ∈ tw := tw_t (i := 370) (by decide +kernel) (by decide +kernel)
theorem fl_X1_23 : Cond.fieldLink RX1 23 "TurnedDiscsModel" "at" "[I" ∈ tw := tw_t (i := 371) (by decide +kernel) (by decide +kernel)
theorem fl_X1_26 : Cond.fieldLink RX1 26 "TurnedDiscsModel" "passes" "[Z" ∈ tw := tw_t (i := 372) (by decide +kernel) (by decide +kernel)
theorem fl_X1_30 : Cond.fieldLink RX1 30 "TurnedDiscsModel" "worth" "[I" ∈ tw := tw_t (i := 373) (by decide +kernel) (by decide +kernel)
theorem fl_X1_33 : Cond.fieldLink RX1 33 "TurnedDiscsModel" "tried" "[I" ∈ tw := tw_t (i := 374) (by decide +kernel) (by decide +kernel)
theorem fl_X1_120 : Cond.fieldLink RX1 120 "TurnedDiscsModel" "chosen" "I" ∈ tw := tw_t (i := 375) (by decide +kernel) (by decide +kernel)
theorem fl_X1_36 : Cond.fieldLink RX1 36 "TurnedDiscsModel" "spots" "[I" ∈ tw := tw_t (i := 376) (by decide +kernel) (by decide +kernel)
theorem fl_X1_96 : Cond.fieldLink RX1 96 "TurnedDiscsModel" "spotCount" "I" ∈ tw := tw_t (i := 377) (by decide +kernel) (by decide +kernel)
theorem fl_X1_39 : Cond.fieldLink RX1 39 "TurnedDiscsModel" "kept" "[I" ∈ tw := tw_t (i := 378) (by decide +kernel) (by decide +kernel)
theorem ac_boolean : Cond.arrayClass .boolean ∈ tw := tw_t (i := 408) (by decide +kernel) (by decide +kernel)
theorem ml_L_68 : Cond.methodLink RL 68 y_X1_thrown ∈ tw := tw_t (i := 409) (by decide +kernel) (by decide +kernel)
theorem ml_L_59 : Cond.methodLink RL 59 y_X1_begin ∈ tw := tw_t (i := 413) (by decide +kernel) (by decide +kernel)
theorem ml_L_67 : Cond.methodLink RL 67 y_X1_set ∈ tw := tw_t (i := 417) (by decide +kernel) (by decide +kernel)
theorem ml_L_74 : Cond.methodLink RL 74 y_X1_discs ∈ tw := tw_t (i := 421) (by decide +kernel) (by decide +kernel)
theorem ml_L_78 : Cond.methodLink RL 78 y_X1_player ∈ tw := tw_t (i := 425) (by decide +kernel) (by decide +kernel)
theorem ml_L_83 : Cond.methodLink RL 83 y_X1_moves ∈ tw := tw_t (i := 429) (by decide +kernel) (by decide +kernel)
theorem ml_X1_71 : Cond.methodLink RX1 71 y_X1_flipsAt ∈ tw := tw_t (i := 433) (by decide +kernel) (by decide +kernel)
theorem ml_X1_67 : Cond.methodLink RX1 67 y_X1_along ∈ tw := tw_t (i := 437) (by decide +kernel) (by decide +kernel)
theorem ml_X1_52 : Cond.methodLink RX1 52 y_X1_rowWay ∈ tw := tw_t (i := 441) (by decide +kernel) (by decide +kernel)
theorem ml_X1_56 : Cond.methodLink RX1 56 y_X1_columnWay ∈ tw := tw_t (i := 444) (by decide +kernel) (by decide +kernel)
theorem ml_X1_59 : Cond.methodLink RX1 59 y_X1_isOn ∈ tw := tw_t (i := 447) (by decide +kernel) (by decide +kernel)
theorem ml_X1_63 : Cond.methodLink RX1 63 y_X1_cellOf ∈ tw := tw_t (i := 450) (by decide +kernel) (by decide +kernel)
theorem ml_L_86 : Cond.methodLink RL 86 y_X1_turns ∈ tw := tw_t (i := 454) (by decide +kernel) (by decide +kernel)
theorem ml_L_91 : Cond.methodLink RL 91 y_X1_over ∈ tw := tw_t (i := 458) (by decide +kernel) (by decide +kernel)
theorem ml_X1_79 : Cond.methodLink RX1 79 y_X1_isOver ∈ tw := tw_t (i := 462) (by decide +kernel) (by decide +kernel)
theorem ml_X1_75 : Cond.methodLink RX1 75 y_X1_movesAt ∈ tw := tw_t (i := 466) (by decide +kernel) (by decide +kernel)
theorem ml_L_94 : Cond.methodLink RL 94 y_X1_play ∈ tw := tw_t (i := 470) (by decide +kernel) (by decide +kernel)
theorem ml_X1_87 : Cond.methodLink RX1 87 y_X1_mustPass ∈ tw := tw_t (i := 474) (by decide +kernel) (by decide +kernel)
theorem ml_X1_90 : Cond.methodLink RX1 90 y_X1_put ∈ tw := tw_t (i := 478) (by decide +kernel) (by decide +kernel)
theorem ml_X1_83 : Cond.methodLink RX1 83 y_X1_ones ∈ tw := tw_t (i := 482) (by decide +kernel) (by decide +kernel)
theorem ml_L_98 : Cond.methodLink RL 98 y_X1_back ∈ tw := tw_t (i := 485) (by decide +kernel) (by decide +kernel)
theorem ml_L_102 : Cond.methodLink RL 102 y_X1_made ∈ tw := tw_t (i := 489) (by decide +kernel) (by decide +kernel)
theorem ml_L_106 : Cond.methodLink RL 106 y_X1_difference ∈ tw := tw_t (i := 493) (by decide +kernel) (by decide +kernel)
theorem ml_X1_93 : Cond.methodLink RX1 93 y_X1_discsOf ∈ tw := tw_t (i := 497) (by decide +kernel) (by decide +kernel)
theorem ml_L_109 : Cond.methodLink RL 109 y_X1_count ∈ tw := tw_t (i := 501) (by decide +kernel) (by decide +kernel)
theorem ml_X1_106 : Cond.methodLink RX1 106 y_X1_findSpots ∈ tw := tw_t (i := 505) (by decide +kernel) (by decide +kernel)
theorem ml_X1_109 : Cond.methodLink RX1 109 y_X1_enter ∈ tw := tw_t (i := 509) (by decide +kernel) (by decide +kernel)
theorem ml_X1_103 : Cond.methodLink RX1 103 y_X1_movable ∈ tw := tw_t (i := 513) (by decide +kernel) (by decide +kernel)
theorem ml_X1_99 : Cond.methodLink RX1 99 y_X1_turnsAny ∈ tw := tw_t (i := 517) (by decide +kernel) (by decide +kernel)
theorem ml_X1_113 : Cond.methodLink RX1 113 y_X1_nextAt ∈ tw := tw_t (i := 521) (by decide +kernel) (by decide +kernel)
theorem ml_X1_116 : Cond.methodLink RX1 116 y_X1_layNext ∈ tw := tw_t (i := 525) (by decide +kernel) (by decide +kernel)
theorem ml_L_112 : Cond.methodLink RL 112 y_X1_outcome ∈ tw := tw_t (i := 529) (by decide +kernel) (by decide +kernel)
theorem ml_X1_123 : Cond.methodLink RX1 123 y_X1_empties ∈ tw := tw_t (i := 533) (by decide +kernel) (by decide +kernel)
theorem ml_X1_127 : Cond.methodLink RX1 127 y_X1_search ∈ tw := tw_t (i := 537) (by decide +kernel) (by decide +kernel)
theorem ml_L_115 : Cond.methodLink RL 115 y_X1_best ∈ tw := tw_t (i := 541) (by decide +kernel) (by decide +kernel)
theorem ml_L_118 : Cond.methodLink RL 118 y_X1_finish ∈ tw := tw_t (i := 545) (by decide +kernel) (by decide +kernel)
theorem ml_L_121 : Cond.methodLink RL 121 y_X1_border ∈ tw := tw_t (i := 549) (by decide +kernel) (by decide +kernel)
theorem ml_L_124 : Cond.methodLink RL 124 y_X1_safe ∈ tw := tw_t (i := 553) (by decide +kernel) (by decide +kernel)
theorem ml_X1_130 : Cond.methodLink RX1 130 y_X1_isFull ∈ tw := tw_t (i := 557) (by decide +kernel) (by decide +kernel)
theorem cn_L_60 : Cond.constantLong RL 60 (4294967295) ∈ tw := tw_t (i := 561) (by decide +kernel) (by decide +kernel)
theorem im_obj : Cond.instanceMethod objectInit ∈ tw := tw_t (i := 17) (by decide +kernel) (by decide +kernel)
theorem kw_obj : Cond.code objectInit ⟨#[0xb1]⟩ 1 none ∈ tw := tw_t (i := 18) (by decide +kernel) (by decide +kernel)
end
section
theorem d_X0_init_0 : decode c_X0_init 0 = .ok (.aload_n 0, 1) := by decide +kernel
theorem d_X0_init_1 : decode c_X0_init 1 = .ok (.invokespecial 3, 3) := by decide +kernel
theorem d_X0_init_4 : decode c_X0_init 4 = .ok (.aload_n 0, 1) := by decide +kernel
theorem d_X0_init_5 : decode c_X0_init 5 = .ok (.bipush 64, 2) := by decide +kernel
theorem d_X0_init_7 : decode c_X0_init 7 = .ok (.newarray .int, 2) := by decide +kernel
theorem d_X0_init_9 : decode c_X0_init 9 = .ok (.putfield 9, 3) := by decide +kernel
theorem d_X0_init_12 : decode c_X0_init 12 = .ok (.aload_n 0, 1) := by decide +kernel
theorem d_X0_init_13 : decode c_X0_init 13 = .ok (.bipush 64, 2) := by decide +kernel
theorem d_X0_init_15 : decode c_X0_init 15 = .ok (.newarray .long, 2) := by decide +kernel
theorem d_X0_init_17 : decode c_X0_init 17 = .ok (.putfield 13, 3) := by decide +kernel
theorem d_X0_init_20 : decode c_X0_init 20 = .ok (.aload_n 0, 1) := by decide +kernel
theorem d_X0_init_21 : decode c_X0_init 21 = .ok (.bipush 14, 2) := by decide +kernel
theorem d_X0_init_23 : decode c_X0_init 23 = .ok (.newarray .int, 2) := by decide +kernel
theorem d_X0_init_25 : decode c_X0_init 25 = .ok (.putfield 17, 3) := by decide +kernel
theorem d_X0_init_28 : decode c_X0_init 28 = .ok (.aload_n 0, 1) := by decide +kernel
theorem d_X0_init_29 : decode c_X0_init 29 = .ok (.ldc2_w 20, 3) := by decide +kernel
theorem d_X0_init_32 : decode c_X0_init 32 = .ok (.ldc2_w 22, 3) := by decide +kernel
theorem d_X0_init_35 : decode c_X0_init 35 = .ok (.iconst 0, 1) := by decide +kernel
theorem d_X0_init_36 : decode c_X0_init 36 = .ok (.invokevirtual 24, 3) := by decide +kernel
theorem d_X0_init_39 : decode c_X0_init 39 = .ok (.return_, 1) := by decide +kernel
theorem d_X0_begin_0 : decode c_X0_begin 0 = .ok (.aload_n 0, 1) := by decide +kernel
theorem d_X0_begin_1 : decode c_X0_begin 1 = .ok (.ldc2_w 20, 3) := by decide +kernel
theorem d_X0_begin_4 : decode c_X0_begin 4 = .ok (.ldc2_w 22, 3) := by decide +kernel
theorem d_X0_begin_7 : decode c_X0_begin 7 = .ok (.iconst 0, 1) := by decide +kernel
theorem d_X0_begin_8 : decode c_X0_begin 8 = .ok (.invokevirtual 24, 3) := by decide +kernel
theorem d_X0_begin_11 : decode c_X0_begin 11 = .ok (.return_, 1) := by decide +kernel
theorem d_X0_set_0 : decode c_X0_set 0 = .ok (.lload_n 1, 1) := by decide +kernel
theorem d_X0_set_1 : decode c_X0_set 1 = .ok (.lload_n 3, 1) := by decide +kernel
theorem d_X0_set_2 : decode c_X0_set 2 = .ok (.land, 1) := by decide +kernel
theorem d_X0_set_3 : decode c_X0_set 3 = .ok (.lconst 0, 1) := by decide +kernel
theorem d_X0_set_4 : decode c_X0_set 4 = .ok (.lcmp, 1) := by decide +kernel
theorem d_X0_set_5 : decode c_X0_set 5 = .ok (.ifCond .eq 13, 3) := by decide +kernel
theorem d_X0_set_8 : decode c_X0_set 8 = .ok (.new 28, 3) := by decide +kernel
theorem d_X0_set_11 : decode c_X0_set 11 = .ok (.dup, 1) := by decide +kernel
theorem d_X0_set_12 : decode c_X0_set 12 = .ok (.ldc 30, 2) := by decide +kernel
theorem d_X0_set_14 : decode c_X0_set 14 = .ok (.invokespecial 32, 3) := by decide +kernel
theorem d_X0_set_17 : decode c_X0_set 17 = .ok (.athrow, 1) := by decide +kernel
theorem d_X0_set_18 : decode c_X0_set 18 = .ok (.iload 5, 2) := by decide +kernel
theorem d_X0_set_20 : decode c_X0_set 20 = .ok (.invokestatic 35, 3) := by decide +kernel
theorem d_X0_set_23 : decode c_X0_set 23 = .ok (.iload 5, 2) := by decide +kernel
theorem d_X0_set_25 : decode c_X0_set 25 = .ok (.ifCond .ne 13, 3) := by decide +kernel
theorem d_X0_set_28 : decode c_X0_set 28 = .ok (.aload_n 0, 1) := by decide +kernel
theorem d_X0_set_29 : decode c_X0_set 29 = .ok (.lload_n 1, 1) := by decide +kernel
theorem d_X0_set_30 : decode c_X0_set 30 = .ok (.lload_n 3, 1) := by decide +kernel
theorem d_X0_set_31 : decode c_X0_set 31 = .ok (.iconst 0, 1) := by decide +kernel
theorem d_X0_set_32 : decode c_X0_set 32 = .ok (.invokevirtual 24, 3) := by decide +kernel
theorem d_X0_set_35 : decode c_X0_set 35 = .ok (.goto 10, 3) := by decide +kernel
theorem d_X0_set_38 : decode c_X0_set 38 = .ok (.aload_n 0, 1) := by decide +kernel
theorem d_X0_set_39 : decode c_X0_set 39 = .ok (.lload_n 3, 1) := by decide +kernel
theorem d_X0_set_40 : decode c_X0_set 40 = .ok (.lload_n 1, 1) := by decide +kernel
theorem d_X0_set_41 : decode c_X0_set 41 = .ok (.iconst 1, 1) := by decide +kernel
theorem d_X0_set_42 : decode c_X0_set 42 = .ok (.invokevirtual 24, 3) := by decide +kernel
theorem d_X0_set_45 : decode c_X0_set 45 = .ok (.return_, 1) := by decide +kernel
theorem d_X0_discs_0 : decode c_X0_discs 0 = .ok (.iload_n 1, 1) := by decide +kernel
theorem d_X0_discs_1 : decode c_X0_discs 1 = .ok (.invokestatic 35, 3) := by decide +kernel
theorem d_X0_discs_4 : decode c_X0_discs 4 = .ok (.aload_n 0, 1) := by decide +kernel
theorem d_X0_discs_5 : decode c_X0_discs 5 = .ok (.iload_n 1, 1) := by decide +kernel
theorem d_X0_discs_6 : decode c_X0_discs 6 = .ok (.invokevirtual 39, 3) := by decide +kernel
theorem d_X0_discs_9 : decode c_X0_discs 9 = .ok (.lreturn, 1) := by decide +kernel
theorem d_X0_player_0 : decode c_X0_player 0 = .ok (.aload_n 0, 1) := by decide +kernel
theorem d_X0_player_1 : decode c_X0_player 1 = .ok (.getfield 43, 3) := by decide +kernel
theorem d_X0_player_4 : decode c_X0_player 4 = .ok (.ireturn, 1) := by decide +kernel
theorem d_X0_moves_0 : decode c_X0_moves 0 = .ok (.aload_n 0, 1) := by decide +kernel
theorem d_X0_moves_1 : decode c_X0_moves 1 = .ok (.getfield 47, 3) := by decide +kernel
theorem d_X0_moves_4 : decode c_X0_moves 4 = .ok (.aload_n 0, 1) := by decide +kernel
theorem d_X0_moves_5 : decode c_X0_moves 5 = .ok (.getfield 51, 3) := by decide +kernel
theorem d_X0_moves_8 : decode c_X0_moves 8 = .ok (.invokestatic 54, 3) := by decide +kernel
theorem d_X0_moves_11 : decode c_X0_moves 11 = .ok (.lreturn, 1) := by decide +kernel
theorem d_X0_turns_0 : decode c_X0_turns 0 = .ok (.iload_n 1, 1) := by decide +kernel
theorem d_X0_turns_1 : decode c_X0_turns 1 = .ok (.ifCond .lt 9, 3) := by decide +kernel
theorem d_X0_turns_4 : decode c_X0_turns 4 = .ok (.iload_n 1, 1) := by decide +kernel
theorem d_X0_turns_5 : decode c_X0_turns 5 = .ok (.bipush 64, 2) := by decide +kernel
theorem d_X0_turns_7 : decode c_X0_turns 7 = .ok (.if_icmp .lt 13, 3) := by decide +kernel
theorem d_X0_turns_10 : decode c_X0_turns 10 = .ok (.new 28, 3) := by decide +kernel
theorem d_X0_turns_13 : decode c_X0_turns 13 = .ok (.dup, 1) := by decide +kernel
theorem d_X0_turns_14 : decode c_X0_turns 14 = .ok (.ldc 58, 2) := by decide +kernel
theorem d_X0_turns_16 : decode c_X0_turns 16 = .ok (.invokespecial 32, 3) := by decide +kernel
theorem d_X0_turns_19 : decode c_X0_turns 19 = .ok (.athrow, 1) := by decide +kernel
theorem d_X0_turns_20 : decode c_X0_turns 20 = .ok (.iload_n 1, 1) := by decide +kernel
theorem d_X0_turns_21 : decode c_X0_turns 21 = .ok (.invokestatic 60, 3) := by decide +kernel
theorem d_X0_turns_24 : decode c_X0_turns 24 = .ok (.lstore_n 2, 1) := by decide +kernel
theorem d_X0_turns_25 : decode c_X0_turns 25 = .ok (.lload_n 2, 1) := by decide +kernel
theorem d_X0_turns_26 : decode c_X0_turns 26 = .ok (.aload_n 0, 1) := by decide +kernel
theorem d_X0_turns_27 : decode c_X0_turns 27 = .ok (.invokevirtual 63, 3) := by decide +kernel
theorem d_X0_turns_30 : decode c_X0_turns 30 = .ok (.land, 1) := by decide +kernel
theorem d_X0_turns_31 : decode c_X0_turns 31 = .ok (.lconst 0, 1) := by decide +kernel
theorem d_X0_turns_32 : decode c_X0_turns 32 = .ok (.lcmp, 1) := by decide +kernel
theorem d_X0_turns_33 : decode c_X0_turns 33 = .ok (.ifCond .ne 7, 3) := by decide +kernel
theorem d_X0_turns_36 : decode c_X0_turns 36 = .ok (.lconst 0, 1) := by decide +kernel
theorem d_X0_turns_37 : decode c_X0_turns 37 = .ok (.goto 15, 3) := by decide +kernel
theorem d_X0_turns_40 : decode c_X0_turns 40 = .ok (.aload_n 0, 1) := by decide +kernel
theorem d_X0_turns_41 : decode c_X0_turns 41 = .ok (.getfield 47, 3) := by decide +kernel
theorem d_X0_turns_44 : decode c_X0_turns 44 = .ok (.aload_n 0, 1) := by decide +kernel
theorem d_X0_turns_45 : decode c_X0_turns 45 = .ok (.getfield 51, 3) := by decide +kernel
theorem d_X0_turns_48 : decode c_X0_turns 48 = .ok (.lload_n 2, 1) := by decide +kernel
theorem d_X0_turns_49 : decode c_X0_turns 49 = .ok (.invokestatic 67, 3) := by decide +kernel
theorem d_X0_turns_52 : decode c_X0_turns 52 = .ok (.lreturn, 1) := by decide +kernel
theorem d_X0_over_0 : decode c_X0_over 0 = .ok (.aload_n 0, 1) := by decide +kernel
theorem d_X0_over_1 : decode c_X0_over 1 = .ok (.getfield 47, 3) := by decide +kernel
theorem d_X0_over_4 : decode c_X0_over 4 = .ok (.aload_n 0, 1) := by decide +kernel
theorem d_X0_over_5 : decode c_X0_over 5 = .ok (.getfield 51, 3) := by decide +kernel
theorem d_X0_over_8 : decode c_X0_over 8 = .ok (.invokestatic 71, 3) := by decide +kernel
theorem d_X0_over_11 : decode c_X0_over 11 = .ok (.ireturn, 1) := by decide +kernel
theorem d_X0_play_0 : decode c_X0_play 0 = .ok (.aload_n 0, 1) := by decide +kernel
theorem d_X0_play_1 : decode c_X0_play 1 = .ok (.iload_n 1, 1) := by decide +kernel
theorem d_X0_play_2 : decode c_X0_play 2 = .ok (.invokevirtual 75, 3) := by decide +kernel
theorem d_X0_play_5 : decode c_X0_play 5 = .ok (.ifCond .ne 13, 3) := by decide +kernel
theorem d_X0_play_8 : decode c_X0_play 8 = .ok (.new 28, 3) := by decide +kernel
theorem d_X0_play_11 : decode c_X0_play 11 = .ok (.dup, 1) := by decide +kernel
theorem d_X0_play_12 : decode c_X0_play 12 = .ok (.ldc 79, 2) := by decide +kernel
theorem d_X0_play_14 : decode c_X0_play 14 = .ok (.invokespecial 32, 3) := by decide +kernel
theorem d_X0_play_17 : decode c_X0_play 17 = .ok (.athrow, 1) := by decide +kernel
theorem d_X0_play_18 : decode c_X0_play 18 = .ok (.aload_n 0, 1) := by decide +kernel
theorem d_X0_play_19 : decode c_X0_play 19 = .ok (.getfield 81, 3) := by decide +kernel
theorem d_X0_play_22 : decode c_X0_play 22 = .ok (.bipush 64, 2) := by decide +kernel
theorem d_X0_play_24 : decode c_X0_play 24 = .ok (.if_icmp .lt 13, 3) := by decide +kernel
theorem d_X0_play_27 : decode c_X0_play 27 = .ok (.new 84, 3) := by decide +kernel
theorem d_X0_play_30 : decode c_X0_play 30 = .ok (.dup, 1) := by decide +kernel
theorem d_X0_play_31 : decode c_X0_play 31 = .ok (.ldc 86, 2) := by decide +kernel
theorem d_X0_play_33 : decode c_X0_play 33 = .ok (.invokespecial 88, 3) := by decide +kernel
theorem d_X0_play_36 : decode c_X0_play 36 = .ok (.athrow, 1) := by decide +kernel
theorem d_X0_play_37 : decode c_X0_play 37 = .ok (.aload_n 0, 1) := by decide +kernel
theorem d_X0_play_38 : decode c_X0_play 38 = .ok (.iload_n 1, 1) := by decide +kernel
theorem d_X0_play_39 : decode c_X0_play 39 = .ok (.invokevirtual 89, 3) := by decide +kernel
theorem d_X0_play_42 : decode c_X0_play 42 = .ok (.ireturn, 1) := by decide +kernel
theorem d_X0_back_0 : decode c_X0_back 0 = .ok (.aload_n 0, 1) := by decide +kernel
theorem d_X0_back_1 : decode c_X0_back 1 = .ok (.getfield 81, 3) := by decide +kernel
theorem d_X0_back_4 : decode c_X0_back 4 = .ok (.ifCond .gt 13, 3) := by decide +kernel
theorem d_X0_back_7 : decode c_X0_back 7 = .ok (.new 93, 3) := by decide +kernel
theorem d_X0_back_10 : decode c_X0_back 10 = .ok (.dup, 1) := by decide +kernel
theorem d_X0_back_11 : decode c_X0_back 11 = .ok (.ldc 95, 2) := by decide +kernel
theorem d_X0_back_13 : decode c_X0_back 13 = .ok (.invokespecial 97, 3) := by decide +kernel
theorem d_X0_back_16 : decode c_X0_back 16 = .ok (.athrow, 1) := by decide +kernel
theorem d_X0_back_17 : decode c_X0_back 17 = .ok (.aload_n 0, 1) := by decide +kernel
theorem d_X0_back_18 : decode c_X0_back 18 = .ok (.dup, 1) := by decide +kernel
theorem d_X0_back_19 : decode c_X0_back 19 = .ok (.getfield 81, 3) := by decide +kernel
theorem d_X0_back_22 : decode c_X0_back 22 = .ok (.iconst 1, 1) := by decide +kernel
theorem d_X0_back_23 : decode c_X0_back 23 = .ok (.isub, 1) := by decide +kernel
theorem d_X0_back_24 : decode c_X0_back 24 = .ok (.putfield 81, 3) := by decide +kernel
theorem d_X0_back_27 : decode c_X0_back 27 = .ok (.aload_n 0, 1) := by decide +kernel
theorem d_X0_back_28 : decode c_X0_back 28 = .ok (.getfield 9, 3) := by decide +kernel
theorem d_X0_back_31 : decode c_X0_back 31 = .ok (.aload_n 0, 1) := by decide +kernel
theorem d_X0_back_32 : decode c_X0_back 32 = .ok (.getfield 81, 3) := by decide +kernel
theorem d_X0_back_35 : decode c_X0_back 35 = .ok (.iaload, 1) := by decide +kernel
theorem d_X0_back_36 : decode c_X0_back 36 = .ok (.istore_n 1, 1) := by decide +kernel
theorem d_X0_back_37 : decode c_X0_back 37 = .ok (.aload_n 0, 1) := by decide +kernel
theorem d_X0_back_38 : decode c_X0_back 38 = .ok (.getfield 13, 3) := by decide +kernel
theorem d_X0_back_41 : decode c_X0_back 41 = .ok (.aload_n 0, 1) := by decide +kernel
theorem d_X0_back_42 : decode c_X0_back 42 = .ok (.getfield 81, 3) := by decide +kernel
theorem d_X0_back_45 : decode c_X0_back 45 = .ok (.laload, 1) := by decide +kernel
theorem d_X0_back_46 : decode c_X0_back 46 = .ok (.lstore_n 2, 1) := by decide +kernel
theorem d_X0_back_47 : decode c_X0_back 47 = .ok (.aload_n 0, 1) := by decide +kernel
theorem d_X0_back_48 : decode c_X0_back 48 = .ok (.getfield 51, 3) := by decide +kernel
theorem d_X0_back_51 : decode c_X0_back 51 = .ok (.iload_n 1, 1) := by decide +kernel
theorem d_X0_back_52 : decode c_X0_back 52 = .ok (.invokestatic 60, 3) := by decide +kernel
theorem d_X0_back_55 : decode c_X0_back 55 = .ok (.lload_n 2, 1) := by decide +kernel
theorem d_X0_back_56 : decode c_X0_back 56 = .ok (.lor, 1) := by decide +kernel
theorem d_X0_back_57 : decode c_X0_back 57 = .ok (.lxor, 1) := by decide +kernel
theorem d_X0_back_58 : decode c_X0_back 58 = .ok (.lstore 4, 2) := by decide +kernel
theorem d_X0_back_60 : decode c_X0_back 60 = .ok (.aload_n 0, 1) := by decide +kernel
theorem d_X0_back_61 : decode c_X0_back 61 = .ok (.aload_n 0, 1) := by decide +kernel
theorem d_X0_back_62 : decode c_X0_back 62 = .ok (.getfield 47, 3) := by decide +kernel
theorem d_X0_back_65 : decode c_X0_back 65 = .ok (.lload_n 2, 1) := by decide +kernel
theorem d_X0_back_66 : decode c_X0_back 66 = .ok (.lor, 1) := by decide +kernel
theorem d_X0_back_67 : decode c_X0_back 67 = .ok (.putfield 51, 3) := by decide +kernel
theorem d_X0_back_70 : decode c_X0_back 70 = .ok (.aload_n 0, 1) := by decide +kernel
theorem d_X0_back_71 : decode c_X0_back 71 = .ok (.lload 4, 2) := by decide +kernel
theorem d_X0_back_73 : decode c_X0_back 73 = .ok (.putfield 47, 3) := by decide +kernel
theorem d_X0_back_76 : decode c_X0_back 76 = .ok (.aload_n 0, 1) := by decide +kernel
theorem d_X0_back_77 : decode c_X0_back 77 = .ok (.iconst 1, 1) := by decide +kernel
theorem d_X0_back_78 : decode c_X0_back 78 = .ok (.aload_n 0, 1) := by decide +kernel
theorem d_X0_back_79 : decode c_X0_back 79 = .ok (.getfield 43, 3) := by decide +kernel
theorem d_X0_back_82 : decode c_X0_back 82 = .ok (.isub, 1) := by decide +kernel
theorem d_X0_back_83 : decode c_X0_back 83 = .ok (.putfield 43, 3) := by decide +kernel
theorem d_X0_back_86 : decode c_X0_back 86 = .ok (.iload_n 1, 1) := by decide +kernel
theorem d_X0_back_87 : decode c_X0_back 87 = .ok (.ireturn, 1) := by decide +kernel
theorem d_X0_made_0 : decode c_X0_made 0 = .ok (.aload_n 0, 1) := by decide +kernel
theorem d_X0_made_1 : decode c_X0_made 1 = .ok (.getfield 81, 3) := by decide +kernel
theorem d_X0_made_4 : decode c_X0_made 4 = .ok (.ireturn, 1) := by decide +kernel
theorem d_X0_difference_0 : decode c_X0_difference 0 = .ok (.aload_n 0, 1) := by decide +kernel
theorem d_X0_difference_1 : decode c_X0_difference 1 = .ok (.iconst 0, 1) := by decide +kernel
theorem d_X0_difference_2 : decode c_X0_difference 2 = .ok (.invokevirtual 39, 3) := by decide +kernel
theorem d_X0_difference_5 : decode c_X0_difference 5 = .ok (.aload_n 0, 1) := by decide +kernel
theorem d_X0_difference_6 : decode c_X0_difference 6 = .ok (.iconst 1, 1) := by decide +kernel
theorem d_X0_difference_7 : decode c_X0_difference 7 = .ok (.invokevirtual 39, 3) := by decide +kernel
theorem d_X0_difference_10 : decode c_X0_difference 10 = .ok (.invokestatic 98, 3) := by decide +kernel
theorem d_X0_difference_13 : decode c_X0_difference 13 = .ok (.ireturn, 1) := by decide +kernel
theorem d_X0_count_0 : decode c_X0_count 0 = .ok (.iload_n 1, 1) := by decide +kernel
theorem d_X0_count_1 : decode c_X0_count 1 = .ok (.ifCond .lt 8, 3) := by decide +kernel
theorem d_X0_count_4 : decode c_X0_count 4 = .ok (.iload_n 1, 1) := by decide +kernel
theorem d_X0_count_5 : decode c_X0_count 5 = .ok (.iconst 4, 1) := by decide +kernel
theorem d_X0_count_6 : decode c_X0_count 6 = .ok (.if_icmp .le 13, 3) := by decide +kernel
theorem d_X0_count_9 : decode c_X0_count 9 = .ok (.new 28, 3) := by decide +kernel
theorem d_X0_count_12 : decode c_X0_count 12 = .ok (.dup, 1) := by decide +kernel
theorem d_X0_count_13 : decode c_X0_count 13 = .ok (.ldc 102, 2) := by decide +kernel
theorem d_X0_count_15 : decode c_X0_count 15 = .ok (.invokespecial 32, 3) := by decide +kernel
theorem d_X0_count_18 : decode c_X0_count 18 = .ok (.athrow, 1) := by decide +kernel
theorem d_X0_count_19 : decode c_X0_count 19 = .ok (.aload_n 0, 1) := by decide +kernel
theorem d_X0_count_20 : decode c_X0_count 20 = .ok (.getfield 47, 3) := by decide +kernel
theorem d_X0_count_23 : decode c_X0_count 23 = .ok (.aload_n 0, 1) := by decide +kernel
theorem d_X0_count_24 : decode c_X0_count 24 = .ok (.getfield 51, 3) := by decide +kernel
theorem d_X0_count_27 : decode c_X0_count 27 = .ok (.iload_n 1, 1) := by decide +kernel
theorem d_X0_count_28 : decode c_X0_count 28 = .ok (.invokestatic 104, 3) := by decide +kernel
theorem d_X0_count_31 : decode c_X0_count 31 = .ok (.lreturn, 1) := by decide +kernel
theorem d_X0_outcome_0 : decode c_X0_outcome 0 = .ok (.aload_n 0, 1) := by decide +kernel
theorem d_X0_outcome_1 : decode c_X0_outcome 1 = .ok (.invokevirtual 108, 3) := by decide +kernel
theorem d_X0_outcome_4 : decode c_X0_outcome 4 = .ok (.aload_n 0, 1) := by decide +kernel
theorem d_X0_outcome_5 : decode c_X0_outcome 5 = .ok (.getfield 47, 3) := by decide +kernel
theorem d_X0_outcome_8 : decode c_X0_outcome 8 = .ok (.aload_n 0, 1) := by decide +kernel
theorem d_X0_outcome_9 : decode c_X0_outcome 9 = .ok (.getfield 51, 3) := by decide +kernel
theorem d_X0_outcome_12 : decode c_X0_outcome 12 = .ok (.bipush (-65), 2) := by decide +kernel
theorem d_X0_outcome_14 : decode c_X0_outcome 14 = .ok (.bipush 65, 2) := by decide +kernel
theorem d_X0_outcome_16 : decode c_X0_outcome 16 = .ok (.bipush 14, 2) := by decide +kernel
theorem d_X0_outcome_18 : decode c_X0_outcome 18 = .ok (.invokestatic 111, 3) := by decide +kernel
theorem d_X0_outcome_21 : decode c_X0_outcome 21 = .ok (.ireturn, 1) := by decide +kernel
theorem d_X0_best_0 : decode c_X0_best 0 = .ok (.aload_n 0, 1) := by decide +kernel
theorem d_X0_best_1 : decode c_X0_best 1 = .ok (.invokevirtual 108, 3) := by decide +kernel
theorem d_X0_best_4 : decode c_X0_best 4 = .ok (.aload_n 0, 1) := by decide +kernel
theorem d_X0_best_5 : decode c_X0_best 5 = .ok (.getfield 47, 3) := by decide +kernel
theorem d_X0_best_8 : decode c_X0_best 8 = .ok (.aload_n 0, 1) := by decide +kernel
theorem d_X0_best_9 : decode c_X0_best 9 = .ok (.getfield 51, 3) := by decide +kernel
theorem d_X0_best_12 : decode c_X0_best 12 = .ok (.invokestatic 115, 3) := by decide +kernel
theorem d_X0_best_15 : decode c_X0_best 15 = .ok (.ireturn, 1) := by decide +kernel
theorem d_X0_finish_0 : decode c_X0_finish 0 = .ok (.aload_n 0, 1) := by decide +kernel
theorem d_X0_finish_1 : decode c_X0_finish 1 = .ok (.invokevirtual 108, 3) := by decide +kernel
theorem d_X0_finish_4 : decode c_X0_finish 4 = .ok (.aload_n 0, 1) := by decide +kernel
theorem d_X0_finish_5 : decode c_X0_finish 5 = .ok (.invokevirtual 118, 3) := by decide +kernel
theorem d_X0_finish_8 : decode c_X0_finish 8 = .ok (.istore_n 1, 1) := by decide +kernel
theorem d_X0_finish_9 : decode c_X0_finish 9 = .ok (.aload_n 0, 1) := by decide +kernel
theorem d_X0_finish_10 : decode c_X0_finish 10 = .ok (.getfield 81, 3) := by decide +kernel
theorem d_X0_finish_13 : decode c_X0_finish 13 = .ok (.iload_n 1, 1) := by decide +kernel
theorem d_X0_finish_14 : decode c_X0_finish 14 = .ok (.iadd, 1) := by decide +kernel
theorem d_X0_finish_15 : decode c_X0_finish 15 = .ok (.bipush 64, 2) := by decide +kernel
theorem d_X0_finish_17 : decode c_X0_finish 17 = .ok (.if_icmp .le 13, 3) := by decide +kernel
theorem d_X0_finish_20 : decode c_X0_finish 20 = .ok (.new 84, 3) := by decide +kernel
theorem d_X0_finish_23 : decode c_X0_finish 23 = .ok (.dup, 1) := by decide +kernel
theorem d_X0_finish_24 : decode c_X0_finish 24 = .ok (.ldc 122, 2) := by decide +kernel
theorem d_X0_finish_26 : decode c_X0_finish 26 = .ok (.invokespecial 88, 3) := by decide +kernel
theorem d_X0_finish_29 : decode c_X0_finish 29 = .ok (.athrow, 1) := by decide +kernel
theorem d_X0_finish_30 : decode c_X0_finish 30 = .ok (.iconst 0, 1) := by decide +kernel
theorem d_X0_finish_31 : decode c_X0_finish 31 = .ok (.istore_n 2, 1) := by decide +kernel
theorem d_X0_finish_32 : decode c_X0_finish 32 = .ok (.iload_n 2, 1) := by decide +kernel
theorem d_X0_finish_33 : decode c_X0_finish 33 = .ok (.iload_n 1, 1) := by decide +kernel
theorem d_X0_finish_34 : decode c_X0_finish 34 = .ok (.if_icmp .ge 20, 3) := by decide +kernel
theorem d_X0_finish_37 : decode c_X0_finish 37 = .ok (.aload_n 0, 1) := by decide +kernel
theorem d_X0_finish_38 : decode c_X0_finish 38 = .ok (.aload_n 0, 1) := by decide +kernel
theorem d_X0_finish_39 : decode c_X0_finish 39 = .ok (.getfield 17, 3) := by decide +kernel
theorem d_X0_finish_42 : decode c_X0_finish 42 = .ok (.iload_n 2, 1) := by decide +kernel
theorem d_X0_finish_43 : decode c_X0_finish 43 = .ok (.iaload, 1) := by decide +kernel
theorem d_X0_finish_44 : decode c_X0_finish 44 = .ok (.invokevirtual 89, 3) := by decide +kernel
theorem d_X0_finish_47 : decode c_X0_finish 47 = .ok (.pop, 1) := by decide +kernel
theorem d_X0_finish_48 : decode c_X0_finish 48 = .ok (.iinc 2 1, 3) := by decide +kernel
theorem d_X0_finish_51 : decode c_X0_finish 51 = .ok (.goto (-19), 3) := by decide +kernel
theorem d_X0_finish_54 : decode c_X0_finish 54 = .ok (.iload_n 1, 1) := by decide +kernel
theorem d_X0_finish_55 : decode c_X0_finish 55 = .ok (.ireturn, 1) := by decide +kernel
theorem d_X0_border_0 : decode c_X0_border 0 = .ok (.iload_n 1, 1) := by decide +kernel
theorem d_X0_border_1 : decode c_X0_border 1 = .ok (.invokestatic 35, 3) := by decide +kernel
theorem d_X0_border_4 : decode c_X0_border 4 = .ok (.aload_n 0, 1) := by decide +kernel
theorem d_X0_border_5 : decode c_X0_border 5 = .ok (.iload_n 1, 1) := by decide +kernel
theorem d_X0_border_6 : decode c_X0_border 6 = .ok (.invokevirtual 39, 3) := by decide +kernel
theorem d_X0_border_9 : decode c_X0_border 9 = .ok (.invokestatic 124, 3) := by decide +kernel
theorem d_X0_border_12 : decode c_X0_border 12 = .ok (.aload_n 0, 1) := by decide +kernel
theorem d_X0_border_13 : decode c_X0_border 13 = .ok (.invokevirtual 63, 3) := by decide +kernel
theorem d_X0_border_16 : decode c_X0_border 16 = .ok (.land, 1) := by decide +kernel
theorem d_X0_border_17 : decode c_X0_border 17 = .ok (.invokestatic 128, 3) := by decide +kernel
theorem d_X0_border_20 : decode c_X0_border 20 = .ok (.ireturn, 1) := by decide +kernel
theorem d_X0_safe_0 : decode c_X0_safe 0 = .ok (.iload_n 1, 1) := by decide +kernel
theorem d_X0_safe_1 : decode c_X0_safe 1 = .ok (.invokestatic 35, 3) := by decide +kernel
theorem d_X0_safe_4 : decode c_X0_safe 4 = .ok (.aload_n 0, 1) := by decide +kernel
theorem d_X0_safe_5 : decode c_X0_safe 5 = .ok (.iload_n 1, 1) := by decide +kernel
theorem d_X0_safe_6 : decode c_X0_safe 6 = .ok (.invokevirtual 39, 3) := by decide +kernel
theorem d_X0_safe_9 : decode c_X0_safe 9 = .ok (.lstore_n 2, 1) := by decide +kernel
theorem d_X0_safe_10 : decode c_X0_safe 10 = .ok (.lload_n 2, 1) := by decide +kernel
theorem d_X0_safe_11 : decode c_X0_safe 11 = .ok (.lload_n 2, 1) := by decide +kernel
theorem d_X0_safe_12 : decode c_X0_safe 12 = .ok (.iconst 1, 1) := by decide +kernel
theorem d_X0_safe_13 : decode c_X0_safe 13 = .ok (.ldc2_w 134, 3) := by decide +kernel
theorem d_X0_safe_16 : decode c_X0_safe 16 = .ok (.ldc2_w 136, 3) := by decide +kernel
theorem d_X0_safe_19 : decode c_X0_safe 19 = .ok (.invokestatic 138, 3) := by decide +kernel
theorem d_X0_safe_22 : decode c_X0_safe 22 = .ok (.land, 1) := by decide +kernel
theorem d_X0_safe_23 : decode c_X0_safe 23 = .ok (.lload_n 2, 1) := by decide +kernel
theorem d_X0_safe_24 : decode c_X0_safe 24 = .ok (.bipush 8, 2) := by decide +kernel
theorem d_X0_safe_26 : decode c_X0_safe 26 = .ok (.ldc2_w 142, 3) := by decide +kernel
theorem d_X0_safe_29 : decode c_X0_safe 29 = .ok (.ldc2_w 144, 3) := by decide +kernel
theorem d_X0_safe_32 : decode c_X0_safe 32 = .ok (.invokestatic 138, 3) := by decide +kernel
theorem d_X0_safe_35 : decode c_X0_safe 35 = .ok (.land, 1) := by decide +kernel
theorem d_X0_safe_36 : decode c_X0_safe 36 = .ok (.lload_n 2, 1) := by decide +kernel
theorem d_X0_safe_37 : decode c_X0_safe 37 = .ok (.bipush 9, 2) := by decide +kernel
theorem d_X0_safe_39 : decode c_X0_safe 39 = .ok (.ldc2_w 146, 3) := by decide +kernel
theorem d_X0_safe_42 : decode c_X0_safe 42 = .ok (.ldc2_w 148, 3) := by decide +kernel
theorem d_X0_safe_45 : decode c_X0_safe 45 = .ok (.invokestatic 138, 3) := by decide +kernel
theorem d_X0_safe_48 : decode c_X0_safe 48 = .ok (.land, 1) := by decide +kernel
theorem d_X0_safe_49 : decode c_X0_safe 49 = .ok (.lload_n 2, 1) := by decide +kernel
theorem d_X0_safe_50 : decode c_X0_safe 50 = .ok (.bipush 7, 2) := by decide +kernel
theorem d_X0_safe_52 : decode c_X0_safe 52 = .ok (.ldc2_w 150, 3) := by decide +kernel
theorem d_X0_safe_55 : decode c_X0_safe 55 = .ok (.ldc2_w 152, 3) := by decide +kernel
theorem d_X0_safe_58 : decode c_X0_safe 58 = .ok (.invokestatic 138, 3) := by decide +kernel
theorem d_X0_safe_61 : decode c_X0_safe 61 = .ok (.land, 1) := by decide +kernel
theorem d_X0_safe_62 : decode c_X0_safe 62 = .ok (.lreturn, 1) := by decide +kernel
theorem d_X0_requirePlayer_0 : decode c_X0_requirePlayer 0 = .ok (.iload_n 0, 1) := by decide +kernel
theorem d_X0_requirePlayer_1 : decode c_X0_requirePlayer 1 = .ok (.ifCond .eq 18, 3) := by decide +kernel
theorem d_X0_requirePlayer_4 : decode c_X0_requirePlayer 4 = .ok (.iload_n 0, 1) := by decide +kernel
theorem d_X0_requirePlayer_5 : decode c_X0_requirePlayer 5 = .ok (.iconst 1, 1) := by decide +kernel
theorem d_X0_requirePlayer_6 : decode c_X0_requirePlayer 6 = .ok (.if_icmp .eq 13, 3) := by decide +kernel
theorem d_X0_requirePlayer_9 : decode c_X0_requirePlayer 9 = .ok (.new 28, 3) := by decide +kernel
theorem d_X0_requirePlayer_12 : decode c_X0_requirePlayer 12 = .ok (.dup, 1) := by decide +kernel
theorem d_X0_requirePlayer_13 : decode c_X0_requirePlayer 13 = .ok (.ldc 154, 2) := by decide +kernel
theorem d_X0_requirePlayer_15 : decode c_X0_requirePlayer 15 = .ok (.invokespecial 32, 3) := by decide +kernel
theorem d_X0_requirePlayer_18 : decode c_X0_requirePlayer 18 = .ok (.athrow, 1) := by decide +kernel
theorem d_X0_requirePlayer_19 : decode c_X0_requirePlayer 19 = .ok (.return_, 1) := by decide +kernel
theorem d_X0_requireFewEmpty_0 : decode c_X0_requireFewEmpty 0 = .ok (.aload_n 0, 1) := by decide +kernel
theorem d_X0_requireFewEmpty_1 : decode c_X0_requireFewEmpty 1 = .ok (.invokevirtual 63, 3) := by decide +kernel
theorem d_X0_requireFewEmpty_4 : decode c_X0_requireFewEmpty 4 = .ok (.invokestatic 128, 3) := by decide +kernel
theorem d_X0_requireFewEmpty_7 : decode c_X0_requireFewEmpty 7 = .ok (.bipush 7, 2) := by decide +kernel
theorem d_X0_requireFewEmpty_9 : decode c_X0_requireFewEmpty 9 = .ok (.if_icmp .le 13, 3) := by decide +kernel
theorem d_X0_requireFewEmpty_12 : decode c_X0_requireFewEmpty 12 = .ok (.new 84, 3) := by decide +kernel
theorem d_X0_requireFewEmpty_15 : decode c_X0_requireFewEmpty 15 = .ok (.dup, 1) := by decide +kernel
theorem d_X0_requireFewEmpty_16 : decode c_X0_requireFewEmpty 16 = .ok (.ldc 156, 2) := by decide +kernel
theorem d_X0_requireFewEmpty_18 : decode c_X0_requireFewEmpty 18 = .ok (.invokespecial 88, 3) := by decide +kernel
theorem d_X0_requireFewEmpty_21 : decode c_X0_requireFewEmpty 21 = .ok (.athrow, 1) := by decide +kernel
theorem d_X0_requireFewEmpty_22 : decode c_X0_requireFewEmpty 22 = .ok (.return_, 1) := by decide +kernel
theorem d_X0_setUp_0 : decode c_X0_setUp 0 = .ok (.aload_n 0, 1) := by decide +kernel
theorem d_X0_setUp_1 : decode c_X0_setUp 1 = .ok (.lload_n 1, 1) := by decide +kernel
theorem d_X0_setUp_2 : decode c_X0_setUp 2 = .ok (.putfield 47, 3) := by decide +kernel
theorem d_X0_setUp_5 : decode c_X0_setUp 5 = .ok (.aload_n 0, 1) := by decide +kernel
theorem d_X0_setUp_6 : decode c_X0_setUp 6 = .ok (.lload_n 3, 1) := by decide +kernel
theorem d_X0_setUp_7 : decode c_X0_setUp 7 = .ok (.putfield 51, 3) := by decide +kernel
theorem d_X0_setUp_10 : decode c_X0_setUp 10 = .ok (.aload_n 0, 1) := by decide +kernel
theorem d_X0_setUp_11 : decode c_X0_setUp 11 = .ok (.iload 5, 2) := by decide +kernel
theorem d_X0_setUp_13 : decode c_X0_setUp 13 = .ok (.putfield 43, 3) := by decide +kernel
theorem d_X0_setUp_16 : decode c_X0_setUp 16 = .ok (.aload_n 0, 1) := by decide +kernel
theorem d_X0_setUp_17 : decode c_X0_setUp 17 = .ok (.iconst 0, 1) := by decide +kernel
theorem d_X0_setUp_18 : decode c_X0_setUp 18 = .ok (.putfield 81, 3) := by decide +kernel
theorem d_X0_setUp_21 : decode c_X0_setUp 21 = .ok (.return_, 1) := by decide +kernel
theorem d_X0_discsOf_0 : decode c_X0_discsOf 0 = .ok (.iload_n 1, 1) := by decide +kernel
theorem d_X0_discsOf_1 : decode c_X0_discsOf 1 = .ok (.aload_n 0, 1) := by decide +kernel
theorem d_X0_discsOf_2 : decode c_X0_discsOf 2 = .ok (.getfield 43, 3) := by decide +kernel
theorem d_X0_discsOf_5 : decode c_X0_discsOf 5 = .ok (.if_icmp .ne 10, 3) := by decide +kernel
theorem d_X0_discsOf_8 : decode c_X0_discsOf 8 = .ok (.aload_n 0, 1) := by decide +kernel
theorem d_X0_discsOf_9 : decode c_X0_discsOf 9 = .ok (.getfield 47, 3) := by decide +kernel
theorem d_X0_discsOf_12 : decode c_X0_discsOf 12 = .ok (.goto 7, 3) := by decide +kernel
theorem d_X0_discsOf_15 : decode c_X0_discsOf 15 = .ok (.aload_n 0, 1) := by decide +kernel
theorem d_X0_discsOf_16 : decode c_X0_discsOf 16 = .ok (.getfield 51, 3) := by decide +kernel
theorem d_X0_discsOf_19 : decode c_X0_discsOf 19 = .ok (.lreturn, 1) := by decide +kernel
theorem d_X0_empty_0 : decode c_X0_empty 0 = .ok (.aload_n 0, 1) := by decide +kernel
theorem d_X0_empty_1 : decode c_X0_empty 1 = .ok (.getfield 47, 3) := by decide +kernel
theorem d_X0_empty_4 : decode c_X0_empty 4 = .ok (.aload_n 0, 1) := by decide +kernel
theorem d_X0_empty_5 : decode c_X0_empty 5 = .ok (.getfield 51, 3) := by decide +kernel
theorem d_X0_empty_8 : decode c_X0_empty 8 = .ok (.lor, 1) := by decide +kernel
theorem d_X0_empty_9 : decode c_X0_empty 9 = .ok (.ldc2_w 158, 3) := by decide +kernel
theorem d_X0_empty_12 : decode c_X0_empty 12 = .ok (.lxor, 1) := by decide +kernel
theorem d_X0_empty_13 : decode c_X0_empty 13 = .ok (.lreturn, 1) := by decide +kernel
theorem d_X0_mayPlay_0 : decode c_X0_mayPlay 0 = .ok (.iload_n 1, 1) := by decide +kernel
theorem d_X0_mayPlay_1 : decode c_X0_mayPlay 1 = .ok (.bipush 64, 2) := by decide +kernel
theorem d_X0_mayPlay_3 : decode c_X0_mayPlay 3 = .ok (.if_icmp .ne 41, 3) := by decide +kernel
theorem d_X0_mayPlay_6 : decode c_X0_mayPlay 6 = .ok (.aload_n 0, 1) := by decide +kernel
theorem d_X0_mayPlay_7 : decode c_X0_mayPlay 7 = .ok (.getfield 47, 3) := by decide +kernel
theorem d_X0_mayPlay_10 : decode c_X0_mayPlay 10 = .ok (.aload_n 0, 1) := by decide +kernel
theorem d_X0_mayPlay_11 : decode c_X0_mayPlay 11 = .ok (.getfield 51, 3) := by decide +kernel
theorem d_X0_mayPlay_14 : decode c_X0_mayPlay 14 = .ok (.invokestatic 54, 3) := by decide +kernel
theorem d_X0_mayPlay_17 : decode c_X0_mayPlay 17 = .ok (.lconst 0, 1) := by decide +kernel
theorem d_X0_mayPlay_18 : decode c_X0_mayPlay 18 = .ok (.lcmp, 1) := by decide +kernel
theorem d_X0_mayPlay_19 : decode c_X0_mayPlay 19 = .ok (.ifCond .ne 23, 3) := by decide +kernel
theorem d_X0_mayPlay_22 : decode c_X0_mayPlay 22 = .ok (.aload_n 0, 1) := by decide +kernel
theorem d_X0_mayPlay_23 : decode c_X0_mayPlay 23 = .ok (.getfield 51, 3) := by decide +kernel
theorem d_X0_mayPlay_26 : decode c_X0_mayPlay 26 = .ok (.aload_n 0, 1) := by decide +kernel
theorem d_X0_mayPlay_27 : decode c_X0_mayPlay 27 = .ok (.getfield 47, 3) := by decide +kernel
theorem d_X0_mayPlay_30 : decode c_X0_mayPlay 30 = .ok (.invokestatic 54, 3) := by decide +kernel
theorem d_X0_mayPlay_33 : decode c_X0_mayPlay 33 = .ok (.lconst 0, 1) := by decide +kernel
theorem d_X0_mayPlay_34 : decode c_X0_mayPlay 34 = .ok (.lcmp, 1) := by decide +kernel
theorem d_X0_mayPlay_35 : decode c_X0_mayPlay 35 = .ok (.ifCond .eq 7, 3) := by decide +kernel
theorem d_X0_mayPlay_38 : decode c_X0_mayPlay 38 = .ok (.iconst 1, 1) := by decide +kernel
theorem d_X0_mayPlay_39 : decode c_X0_mayPlay 39 = .ok (.goto 4, 3) := by decide +kernel
theorem d_X0_mayPlay_42 : decode c_X0_mayPlay 42 = .ok (.iconst 0, 1) := by decide +kernel
theorem d_X0_mayPlay_43 : decode c_X0_mayPlay 43 = .ok (.ireturn, 1) := by decide +kernel
theorem d_X0_mayPlay_44 : decode c_X0_mayPlay 44 = .ok (.iload_n 1, 1) := by decide +kernel
theorem d_X0_mayPlay_45 : decode c_X0_mayPlay 45 = .ok (.ifCond .lt 34, 3) := by decide +kernel
theorem d_X0_mayPlay_48 : decode c_X0_mayPlay 48 = .ok (.iload_n 1, 1) := by decide +kernel
theorem d_X0_mayPlay_49 : decode c_X0_mayPlay 49 = .ok (.bipush 64, 2) := by decide +kernel
theorem d_X0_mayPlay_51 : decode c_X0_mayPlay 51 = .ok (.if_icmp .ge 28, 3) := by decide +kernel
theorem d_X0_mayPlay_54 : decode c_X0_mayPlay 54 = .ok (.aload_n 0, 1) := by decide +kernel
theorem d_X0_mayPlay_55 : decode c_X0_mayPlay 55 = .ok (.getfield 47, 3) := by decide +kernel
theorem d_X0_mayPlay_58 : decode c_X0_mayPlay 58 = .ok (.aload_n 0, 1) := by decide +kernel
theorem d_X0_mayPlay_59 : decode c_X0_mayPlay 59 = .ok (.getfield 51, 3) := by decide +kernel
theorem d_X0_mayPlay_62 : decode c_X0_mayPlay 62 = .ok (.invokestatic 54, 3) := by decide +kernel
theorem d_X0_mayPlay_65 : decode c_X0_mayPlay 65 = .ok (.iload_n 1, 1) := by decide +kernel
theorem d_X0_mayPlay_66 : decode c_X0_mayPlay 66 = .ok (.invokestatic 60, 3) := by decide +kernel
theorem d_X0_mayPlay_69 : decode c_X0_mayPlay 69 = .ok (.land, 1) := by decide +kernel
theorem d_X0_mayPlay_70 : decode c_X0_mayPlay 70 = .ok (.lconst 0, 1) := by decide +kernel
theorem d_X0_mayPlay_71 : decode c_X0_mayPlay 71 = .ok (.lcmp, 1) := by decide +kernel
theorem d_X0_mayPlay_72 : decode c_X0_mayPlay 72 = .ok (.ifCond .eq 7, 3) := by decide +kernel
theorem d_X0_mayPlay_75 : decode c_X0_mayPlay 75 = .ok (.iconst 1, 1) := by decide +kernel
theorem d_X0_mayPlay_76 : decode c_X0_mayPlay 76 = .ok (.goto 4, 3) := by decide +kernel
theorem d_X0_mayPlay_79 : decode c_X0_mayPlay 79 = .ok (.iconst 0, 1) := by decide +kernel
theorem d_X0_mayPlay_80 : decode c_X0_mayPlay 80 = .ok (.ireturn, 1) := by decide +kernel
theorem d_X0_make_0 : decode c_X0_make 0 = .ok (.iload_n 1, 1) := by decide +kernel
theorem d_X0_make_1 : decode c_X0_make 1 = .ok (.invokestatic 60, 3) := by decide +kernel
theorem d_X0_make_4 : decode c_X0_make 4 = .ok (.lstore_n 2, 1) := by decide +kernel
theorem d_X0_make_5 : decode c_X0_make 5 = .ok (.aload_n 0, 1) := by decide +kernel
theorem d_X0_make_6 : decode c_X0_make 6 = .ok (.getfield 47, 3) := by decide +kernel
theorem d_X0_make_9 : decode c_X0_make 9 = .ok (.aload_n 0, 1) := by decide +kernel
theorem d_X0_make_10 : decode c_X0_make 10 = .ok (.getfield 51, 3) := by decide +kernel
theorem d_X0_make_13 : decode c_X0_make 13 = .ok (.lload_n 2, 1) := by decide +kernel
theorem d_X0_make_14 : decode c_X0_make 14 = .ok (.invokestatic 67, 3) := by decide +kernel
theorem d_X0_make_17 : decode c_X0_make 17 = .ok (.lstore 4, 2) := by decide +kernel
theorem d_X0_make_19 : decode c_X0_make 19 = .ok (.aload_n 0, 1) := by decide +kernel
theorem d_X0_make_20 : decode c_X0_make 20 = .ok (.getfield 9, 3) := by decide +kernel
theorem d_X0_make_23 : decode c_X0_make 23 = .ok (.aload_n 0, 1) := by decide +kernel
theorem d_X0_make_24 : decode c_X0_make 24 = .ok (.getfield 81, 3) := by decide +kernel
theorem d_X0_make_27 : decode c_X0_make 27 = .ok (.iload_n 1, 1) := by decide +kernel
theorem d_X0_make_28 : decode c_X0_make 28 = .ok (.iastore, 1) := by decide +kernel
theorem d_X0_make_29 : decode c_X0_make 29 = .ok (.aload_n 0, 1) := by decide +kernel
theorem d_X0_make_30 : decode c_X0_make 30 = .ok (.getfield 13, 3) := by decide +kernel
theorem d_X0_make_33 : decode c_X0_make 33 = .ok (.aload_n 0, 1) := by decide +kernel
theorem d_X0_make_34 : decode c_X0_make 34 = .ok (.getfield 81, 3) := by decide +kernel
theorem d_X0_make_37 : decode c_X0_make 37 = .ok (.lload 4, 2) := by decide +kernel
theorem d_X0_make_39 : decode c_X0_make 39 = .ok (.lastore, 1) := by decide +kernel
theorem d_X0_make_40 : decode c_X0_make 40 = .ok (.aload_n 0, 1) := by decide +kernel
theorem d_X0_make_41 : decode c_X0_make 41 = .ok (.dup, 1) := by decide +kernel
theorem d_X0_make_42 : decode c_X0_make 42 = .ok (.getfield 81, 3) := by decide +kernel
theorem d_X0_make_45 : decode c_X0_make 45 = .ok (.iconst 1, 1) := by decide +kernel
theorem d_X0_make_46 : decode c_X0_make 46 = .ok (.iadd, 1) := by decide +kernel
theorem d_X0_make_47 : decode c_X0_make 47 = .ok (.putfield 81, 3) := by decide +kernel
theorem d_X0_make_50 : decode c_X0_make 50 = .ok (.aload_n 0, 1) := by decide +kernel
theorem d_X0_make_51 : decode c_X0_make 51 = .ok (.getfield 51, 3) := by decide +kernel
theorem d_X0_make_54 : decode c_X0_make 54 = .ok (.lload 4, 2) := by decide +kernel
theorem d_X0_make_56 : decode c_X0_make 56 = .ok (.lxor, 1) := by decide +kernel
theorem d_X0_make_57 : decode c_X0_make 57 = .ok (.lstore 6, 2) := by decide +kernel
theorem d_X0_make_59 : decode c_X0_make 59 = .ok (.aload_n 0, 1) := by decide +kernel
theorem d_X0_make_60 : decode c_X0_make 60 = .ok (.aload_n 0, 1) := by decide +kernel
theorem d_X0_make_61 : decode c_X0_make 61 = .ok (.getfield 47, 3) := by decide +kernel
theorem d_X0_make_64 : decode c_X0_make 64 = .ok (.lload_n 2, 1) := by decide +kernel
theorem d_X0_make_65 : decode c_X0_make 65 = .ok (.lor, 1) := by decide +kernel
theorem d_X0_make_66 : decode c_X0_make 66 = .ok (.lload 4, 2) := by decide +kernel
theorem d_X0_make_68 : decode c_X0_make 68 = .ok (.lor, 1) := by decide +kernel
theorem d_X0_make_69 : decode c_X0_make 69 = .ok (.putfield 51, 3) := by decide +kernel
theorem d_X0_make_72 : decode c_X0_make 72 = .ok (.aload_n 0, 1) := by decide +kernel
theorem d_X0_make_73 : decode c_X0_make 73 = .ok (.lload 6, 2) := by decide +kernel
theorem d_X0_make_75 : decode c_X0_make 75 = .ok (.putfield 47, 3) := by decide +kernel
theorem d_X0_make_78 : decode c_X0_make 78 = .ok (.aload_n 0, 1) := by decide +kernel
theorem d_X0_make_79 : decode c_X0_make 79 = .ok (.iconst 1, 1) := by decide +kernel
theorem d_X0_make_80 : decode c_X0_make 80 = .ok (.aload_n 0, 1) := by decide +kernel
theorem d_X0_make_81 : decode c_X0_make 81 = .ok (.getfield 43, 3) := by decide +kernel
theorem d_X0_make_84 : decode c_X0_make 84 = .ok (.isub, 1) := by decide +kernel
theorem d_X0_make_85 : decode c_X0_make 85 = .ok (.putfield 43, 3) := by decide +kernel
theorem d_X0_make_88 : decode c_X0_make 88 = .ok (.lload 4, 2) := by decide +kernel
theorem d_X0_make_90 : decode c_X0_make 90 = .ok (.invokestatic 128, 3) := by decide +kernel
theorem d_X0_make_93 : decode c_X0_make 93 = .ok (.ireturn, 1) := by decide +kernel
theorem d_X0_planFinish_0 : decode c_X0_planFinish 0 = .ok (.aload_n 0, 1) := by decide +kernel
theorem d_X0_planFinish_1 : decode c_X0_planFinish 1 = .ok (.getfield 47, 3) := by decide +kernel
theorem d_X0_planFinish_4 : decode c_X0_planFinish 4 = .ok (.lstore_n 1, 1) := by decide +kernel
theorem d_X0_planFinish_5 : decode c_X0_planFinish 5 = .ok (.aload_n 0, 1) := by decide +kernel
theorem d_X0_planFinish_6 : decode c_X0_planFinish 6 = .ok (.getfield 51, 3) := by decide +kernel
theorem d_X0_planFinish_9 : decode c_X0_planFinish 9 = .ok (.lstore_n 3, 1) := by decide +kernel
theorem d_X0_planFinish_10 : decode c_X0_planFinish 10 = .ok (.iconst 0, 1) := by decide +kernel
theorem d_X0_planFinish_11 : decode c_X0_planFinish 11 = .ok (.istore 5, 2) := by decide +kernel
theorem d_X0_planFinish_13 : decode c_X0_planFinish 13 = .ok (.iload 5, 2) := by decide +kernel
theorem d_X0_planFinish_15 : decode c_X0_planFinish 15 = .ok (.bipush 14, 2) := by decide +kernel
theorem d_X0_planFinish_17 : decode c_X0_planFinish 17 = .ok (.if_icmp .ge 68, 3) := by decide +kernel
theorem d_X0_planFinish_20 : decode c_X0_planFinish 20 = .ok (.lload_n 1, 1) := by decide +kernel
theorem d_X0_planFinish_21 : decode c_X0_planFinish 21 = .ok (.lload_n 3, 1) := by decide +kernel
theorem d_X0_planFinish_22 : decode c_X0_planFinish 22 = .ok (.invokestatic 115, 3) := by decide +kernel
theorem d_X0_planFinish_25 : decode c_X0_planFinish 25 = .ok (.istore 6, 2) := by decide +kernel
theorem d_X0_planFinish_27 : decode c_X0_planFinish 27 = .ok (.iload 6, 2) := by decide +kernel
theorem d_X0_planFinish_29 : decode c_X0_planFinish 29 = .ok (.bipush 65, 2) := by decide +kernel
theorem d_X0_planFinish_31 : decode c_X0_planFinish 31 = .ok (.if_icmp .ne 6, 3) := by decide +kernel
theorem d_X0_planFinish_34 : decode c_X0_planFinish 34 = .ok (.iload 5, 2) := by decide +kernel
theorem d_X0_planFinish_36 : decode c_X0_planFinish 36 = .ok (.ireturn, 1) := by decide +kernel
theorem d_X0_planFinish_37 : decode c_X0_planFinish 37 = .ok (.aload_n 0, 1) := by decide +kernel
theorem d_X0_planFinish_38 : decode c_X0_planFinish 38 = .ok (.getfield 17, 3) := by decide +kernel
theorem d_X0_planFinish_41 : decode c_X0_planFinish 41 = .ok (.iload 5, 2) := by decide +kernel
theorem d_X0_planFinish_43 : decode c_X0_planFinish 43 = .ok (.iload 6, 2) := by decide +kernel
theorem d_X0_planFinish_45 : decode c_X0_planFinish 45 = .ok (.iastore, 1) := by decide +kernel
theorem d_X0_planFinish_46 : decode c_X0_planFinish 46 = .ok (.iload 6, 2) := by decide +kernel
theorem d_X0_planFinish_48 : decode c_X0_planFinish 48 = .ok (.invokestatic 60, 3) := by decide +kernel
theorem d_X0_planFinish_51 : decode c_X0_planFinish 51 = .ok (.lstore 7, 2) := by decide +kernel
theorem d_X0_planFinish_53 : decode c_X0_planFinish 53 = .ok (.lload_n 1, 1) := by decide +kernel
theorem d_X0_planFinish_54 : decode c_X0_planFinish 54 = .ok (.lload_n 3, 1) := by decide +kernel
theorem d_X0_planFinish_55 : decode c_X0_planFinish 55 = .ok (.lload 7, 2) := by decide +kernel
theorem d_X0_planFinish_57 : decode c_X0_planFinish 57 = .ok (.invokestatic 67, 3) := by decide +kernel
theorem d_X0_planFinish_60 : decode c_X0_planFinish 60 = .ok (.lstore 9, 2) := by decide +kernel
theorem d_X0_planFinish_62 : decode c_X0_planFinish 62 = .ok (.lload_n 3, 1) := by decide +kernel
theorem d_X0_planFinish_63 : decode c_X0_planFinish 63 = .ok (.lload 9, 2) := by decide +kernel
theorem d_X0_planFinish_65 : decode c_X0_planFinish 65 = .ok (.lxor, 1) := by decide +kernel
theorem d_X0_planFinish_66 : decode c_X0_planFinish 66 = .ok (.lstore 11, 2) := by decide +kernel
theorem d_X0_planFinish_68 : decode c_X0_planFinish 68 = .ok (.lload_n 1, 1) := by decide +kernel
theorem d_X0_planFinish_69 : decode c_X0_planFinish 69 = .ok (.lload 7, 2) := by decide +kernel
theorem d_X0_planFinish_71 : decode c_X0_planFinish 71 = .ok (.lor, 1) := by decide +kernel
theorem d_X0_planFinish_72 : decode c_X0_planFinish 72 = .ok (.lload 9, 2) := by decide +kernel
theorem d_X0_planFinish_74 : decode c_X0_planFinish 74 = .ok (.lor, 1) := by decide +kernel
theorem d_X0_planFinish_75 : decode c_X0_planFinish 75 = .ok (.lstore_n 3, 1) := by decide +kernel
theorem d_X0_planFinish_76 : decode c_X0_planFinish 76 = .ok (.lload 11, 2) := by decide +kernel
theorem d_X0_planFinish_78 : decode c_X0_planFinish 78 = .ok (.lstore_n 1, 1) := by decide +kernel
theorem d_X0_planFinish_79 : decode c_X0_planFinish 79 = .ok (.iinc 5 1, 3) := by decide +kernel
theorem d_X0_planFinish_82 : decode c_X0_planFinish 82 = .ok (.goto (-69), 3) := by decide +kernel
theorem d_X0_planFinish_85 : decode c_X0_planFinish 85 = .ok (.bipush 14, 2) := by decide +kernel
theorem d_X0_planFinish_87 : decode c_X0_planFinish 87 = .ok (.ireturn, 1) := by decide +kernel
theorem d_X0_discOn_0 : decode c_X0_discOn 0 = .ok (.iload_n 0, 1) := by decide +kernel
theorem d_X0_discOn_1 : decode c_X0_discOn 1 = .ok (.bipush 64, 2) := by decide +kernel
theorem d_X0_discOn_3 : decode c_X0_discOn 3 = .ok (.if_icmp .ge 9, 3) := by decide +kernel
theorem d_X0_discOn_6 : decode c_X0_discOn 6 = .ok (.lconst 1, 1) := by decide +kernel
theorem d_X0_discOn_7 : decode c_X0_discOn 7 = .ok (.iload_n 0, 1) := by decide +kernel
theorem d_X0_discOn_8 : decode c_X0_discOn 8 = .ok (.lshl, 1) := by decide +kernel
theorem d_X0_discOn_9 : decode c_X0_discOn 9 = .ok (.goto 4, 3) := by decide +kernel
theorem d_X0_discOn_12 : decode c_X0_discOn 12 = .ok (.lconst 0, 1) := by decide +kernel
theorem d_X0_discOn_13 : decode c_X0_discOn 13 = .ok (.lreturn, 1) := by decide +kernel
theorem d_X0_lead_0 : decode c_X0_lead 0 = .ok (.lload_n 0, 1) := by decide +kernel
theorem d_X0_lead_1 : decode c_X0_lead 1 = .ok (.invokestatic 128, 3) := by decide +kernel
theorem d_X0_lead_4 : decode c_X0_lead 4 = .ok (.lload_n 2, 1) := by decide +kernel
theorem d_X0_lead_5 : decode c_X0_lead 5 = .ok (.invokestatic 128, 3) := by decide +kernel
theorem d_X0_lead_8 : decode c_X0_lead 8 = .ok (.isub, 1) := by decide +kernel
theorem d_X0_lead_9 : decode c_X0_lead 9 = .ok (.ireturn, 1) := by decide +kernel
theorem d_X0_isOver_0 : decode c_X0_isOver 0 = .ok (.lload_n 0, 1) := by decide +kernel
theorem d_X0_isOver_1 : decode c_X0_isOver 1 = .ok (.lload_n 2, 1) := by decide +kernel
theorem d_X0_isOver_2 : decode c_X0_isOver 2 = .ok (.invokestatic 54, 3) := by decide +kernel
theorem d_X0_isOver_5 : decode c_X0_isOver 5 = .ok (.lconst 0, 1) := by decide +kernel
theorem d_X0_isOver_6 : decode c_X0_isOver 6 = .ok (.lcmp, 1) := by decide +kernel
theorem d_X0_isOver_7 : decode c_X0_isOver 7 = .ok (.ifCond .ne 17, 3) := by decide +kernel
theorem d_X0_isOver_10 : decode c_X0_isOver 10 = .ok (.lload_n 2, 1) := by decide +kernel
theorem d_X0_isOver_11 : decode c_X0_isOver 11 = .ok (.lload_n 0, 1) := by decide +kernel
theorem d_X0_isOver_12 : decode c_X0_isOver 12 = .ok (.invokestatic 54, 3) := by decide +kernel
theorem d_X0_isOver_15 : decode c_X0_isOver 15 = .ok (.lconst 0, 1) := by decide +kernel
theorem d_X0_isOver_16 : decode c_X0_isOver 16 = .ok (.lcmp, 1) := by decide +kernel
theorem d_X0_isOver_17 : decode c_X0_isOver 17 = .ok (.ifCond .ne 7, 3) := by decide +kernel
theorem d_X0_isOver_20 : decode c_X0_isOver 20 = .ok (.iconst 1, 1) := by decide +kernel
theorem d_X0_isOver_21 : decode c_X0_isOver 21 = .ok (.goto 4, 3) := by decide +kernel
theorem d_X0_isOver_24 : decode c_X0_isOver 24 = .ok (.iconst 0, 1) := by decide +kernel
theorem d_X0_isOver_25 : decode c_X0_isOver 25 = .ok (.ireturn, 1) := by decide +kernel
theorem d_X0_movesOf_0 : decode c_X0_movesOf 0 = .ok (.lload_n 2, 1) := by decide +kernel
theorem d_X0_movesOf_1 : decode c_X0_movesOf 1 = .ok (.ldc2_w 160, 3) := by decide +kernel
theorem d_X0_movesOf_4 : decode c_X0_movesOf 4 = .ok (.land, 1) := by decide +kernel
theorem d_X0_movesOf_5 : decode c_X0_movesOf 5 = .ok (.lstore 4, 2) := by decide +kernel
theorem d_X0_movesOf_7 : decode c_X0_movesOf 7 = .ok (.lload_n 0, 1) := by decide +kernel
theorem d_X0_movesOf_8 : decode c_X0_movesOf 8 = .ok (.lload 4, 2) := by decide +kernel
theorem d_X0_movesOf_10 : decode c_X0_movesOf 10 = .ok (.iconst 1, 1) := by decide +kernel
theorem d_X0_movesOf_11 : decode c_X0_movesOf 11 = .ok (.invokestatic 162, 3) := by decide +kernel
theorem d_X0_movesOf_14 : decode c_X0_movesOf 14 = .ok (.lload_n 0, 1) := by decide +kernel
theorem d_X0_movesOf_15 : decode c_X0_movesOf 15 = .ok (.lload_n 2, 1) := by decide +kernel
theorem d_X0_movesOf_16 : decode c_X0_movesOf 16 = .ok (.bipush 8, 2) := by decide +kernel
theorem d_X0_movesOf_18 : decode c_X0_movesOf 18 = .ok (.invokestatic 162, 3) := by decide +kernel
theorem d_X0_movesOf_21 : decode c_X0_movesOf 21 = .ok (.lor, 1) := by decide +kernel
theorem d_X0_movesOf_22 : decode c_X0_movesOf 22 = .ok (.lload_n 0, 1) := by decide +kernel
theorem d_X0_movesOf_23 : decode c_X0_movesOf 23 = .ok (.lload 4, 2) := by decide +kernel
theorem d_X0_movesOf_25 : decode c_X0_movesOf 25 = .ok (.bipush 9, 2) := by decide +kernel
theorem d_X0_movesOf_27 : decode c_X0_movesOf 27 = .ok (.invokestatic 162, 3) := by decide +kernel
theorem d_X0_movesOf_30 : decode c_X0_movesOf 30 = .ok (.lor, 1) := by decide +kernel
theorem d_X0_movesOf_31 : decode c_X0_movesOf 31 = .ok (.lload_n 0, 1) := by decide +kernel
theorem d_X0_movesOf_32 : decode c_X0_movesOf 32 = .ok (.lload 4, 2) := by decide +kernel
theorem d_X0_movesOf_34 : decode c_X0_movesOf 34 = .ok (.bipush 7, 2) := by decide +kernel
theorem d_X0_movesOf_36 : decode c_X0_movesOf 36 = .ok (.invokestatic 162, 3) := by decide +kernel
theorem d_X0_movesOf_39 : decode c_X0_movesOf 39 = .ok (.lor, 1) := by decide +kernel
theorem d_X0_movesOf_40 : decode c_X0_movesOf 40 = .ok (.lstore 6, 2) := by decide +kernel
theorem d_X0_movesOf_42 : decode c_X0_movesOf 42 = .ok (.lload 6, 2) := by decide +kernel
theorem d_X0_movesOf_44 : decode c_X0_movesOf 44 = .ok (.lload_n 0, 1) := by decide +kernel
theorem d_X0_movesOf_45 : decode c_X0_movesOf 45 = .ok (.lload_n 2, 1) := by decide +kernel
theorem d_X0_movesOf_46 : decode c_X0_movesOf 46 = .ok (.lor, 1) := by decide +kernel
theorem d_X0_movesOf_47 : decode c_X0_movesOf 47 = .ok (.ldc2_w 158, 3) := by decide +kernel
theorem d_X0_movesOf_50 : decode c_X0_movesOf 50 = .ok (.lxor, 1) := by decide +kernel
theorem d_X0_movesOf_51 : decode c_X0_movesOf 51 = .ok (.land, 1) := by decide +kernel
theorem d_X0_movesOf_52 : decode c_X0_movesOf 52 = .ok (.lreturn, 1) := by decide +kernel
theorem d_X0_endsAlong_0 : decode c_X0_endsAlong 0 = .ok (.lload_n 0, 1) := by decide +kernel
theorem d_X0_endsAlong_1 : decode c_X0_endsAlong 1 = .ok (.lload_n 2, 1) := by decide +kernel
theorem d_X0_endsAlong_2 : decode c_X0_endsAlong 2 = .ok (.iload 4, 2) := by decide +kernel
theorem d_X0_endsAlong_4 : decode c_X0_endsAlong 4 = .ok (.invokestatic 165, 3) := by decide +kernel
theorem d_X0_endsAlong_7 : decode c_X0_endsAlong 7 = .ok (.iload 4, 2) := by decide +kernel
theorem d_X0_endsAlong_9 : decode c_X0_endsAlong 9 = .ok (.lshl, 1) := by decide +kernel
theorem d_X0_endsAlong_10 : decode c_X0_endsAlong 10 = .ok (.lload_n 0, 1) := by decide +kernel
theorem d_X0_endsAlong_11 : decode c_X0_endsAlong 11 = .ok (.lload_n 2, 1) := by decide +kernel
theorem d_X0_endsAlong_12 : decode c_X0_endsAlong 12 = .ok (.iload 4, 2) := by decide +kernel
theorem d_X0_endsAlong_14 : decode c_X0_endsAlong 14 = .ok (.invokestatic 168, 3) := by decide +kernel
theorem d_X0_endsAlong_17 : decode c_X0_endsAlong 17 = .ok (.iload 4, 2) := by decide +kernel
theorem d_X0_endsAlong_19 : decode c_X0_endsAlong 19 = .ok (.lushr, 1) := by decide +kernel
theorem d_X0_endsAlong_20 : decode c_X0_endsAlong 20 = .ok (.lor, 1) := by decide +kernel
theorem d_X0_endsAlong_21 : decode c_X0_endsAlong 21 = .ok (.lreturn, 1) := by decide +kernel
theorem d_X0_turnedBy_0 : decode c_X0_turnedBy 0 = .ok (.lload_n 2, 1) := by decide +kernel
theorem d_X0_turnedBy_1 : decode c_X0_turnedBy 1 = .ok (.ldc2_w 160, 3) := by decide +kernel
theorem d_X0_turnedBy_4 : decode c_X0_turnedBy 4 = .ok (.land, 1) := by decide +kernel
theorem d_X0_turnedBy_5 : decode c_X0_turnedBy 5 = .ok (.lstore 6, 2) := by decide +kernel
theorem d_X0_turnedBy_7 : decode c_X0_turnedBy 7 = .ok (.lload_n 0, 1) := by decide +kernel
theorem d_X0_turnedBy_8 : decode c_X0_turnedBy 8 = .ok (.lload_n 2, 1) := by decide +kernel
theorem d_X0_turnedBy_9 : decode c_X0_turnedBy 9 = .ok (.lload 4, 2) := by decide +kernel
theorem d_X0_turnedBy_11 : decode c_X0_turnedBy 11 = .ok (.bipush 8, 2) := by decide +kernel
theorem d_X0_turnedBy_13 : decode c_X0_turnedBy 13 = .ok (.invokestatic 171, 3) := by decide +kernel
theorem d_X0_turnedBy_16 : decode c_X0_turnedBy 16 = .ok (.lload_n 0, 1) := by decide +kernel
theorem d_X0_turnedBy_17 : decode c_X0_turnedBy 17 = .ok (.lload 6, 2) := by decide +kernel
theorem d_X0_turnedBy_19 : decode c_X0_turnedBy 19 = .ok (.lload 4, 2) := by decide +kernel
theorem d_X0_turnedBy_21 : decode c_X0_turnedBy 21 = .ok (.iconst 1, 1) := by decide +kernel
theorem d_X0_turnedBy_22 : decode c_X0_turnedBy 22 = .ok (.invokestatic 171, 3) := by decide +kernel
theorem d_X0_turnedBy_25 : decode c_X0_turnedBy 25 = .ok (.lor, 1) := by decide +kernel
theorem d_X0_turnedBy_26 : decode c_X0_turnedBy 26 = .ok (.lload_n 0, 1) := by decide +kernel
theorem d_X0_turnedBy_27 : decode c_X0_turnedBy 27 = .ok (.lload 6, 2) := by decide +kernel
theorem d_X0_turnedBy_29 : decode c_X0_turnedBy 29 = .ok (.lload 4, 2) := by decide +kernel
theorem d_X0_turnedBy_31 : decode c_X0_turnedBy 31 = .ok (.bipush 9, 2) := by decide +kernel
theorem d_X0_turnedBy_33 : decode c_X0_turnedBy 33 = .ok (.invokestatic 171, 3) := by decide +kernel
theorem d_X0_turnedBy_36 : decode c_X0_turnedBy 36 = .ok (.lor, 1) := by decide +kernel
theorem d_X0_turnedBy_37 : decode c_X0_turnedBy 37 = .ok (.lload_n 0, 1) := by decide +kernel
theorem d_X0_turnedBy_38 : decode c_X0_turnedBy 38 = .ok (.lload 6, 2) := by decide +kernel
theorem d_X0_turnedBy_40 : decode c_X0_turnedBy 40 = .ok (.lload 4, 2) := by decide +kernel
theorem d_X0_turnedBy_42 : decode c_X0_turnedBy 42 = .ok (.bipush 7, 2) := by decide +kernel
theorem d_X0_turnedBy_44 : decode c_X0_turnedBy 44 = .ok (.invokestatic 171, 3) := by decide +kernel
theorem d_X0_turnedBy_47 : decode c_X0_turnedBy 47 = .ok (.lor, 1) := by decide +kernel
theorem d_X0_turnedBy_48 : decode c_X0_turnedBy 48 = .ok (.lreturn, 1) := by decide +kernel
theorem d_X0_turnedAlong_0 : decode c_X0_turnedAlong 0 = .ok (.lload 4, 2) := by decide +kernel
theorem d_X0_turnedAlong_2 : decode c_X0_turnedAlong 2 = .ok (.lload_n 2, 1) := by decide +kernel
theorem d_X0_turnedAlong_3 : decode c_X0_turnedAlong 3 = .ok (.iload 6, 2) := by decide +kernel
theorem d_X0_turnedAlong_5 : decode c_X0_turnedAlong 5 = .ok (.invokestatic 165, 3) := by decide +kernel
theorem d_X0_turnedAlong_8 : decode c_X0_turnedAlong 8 = .ok (.lstore 7, 2) := by decide +kernel
theorem d_X0_turnedAlong_10 : decode c_X0_turnedAlong 10 = .ok (.lload 4, 2) := by decide +kernel
theorem d_X0_turnedAlong_12 : decode c_X0_turnedAlong 12 = .ok (.lload_n 2, 1) := by decide +kernel
theorem d_X0_turnedAlong_13 : decode c_X0_turnedAlong 13 = .ok (.iload 6, 2) := by decide +kernel
theorem d_X0_turnedAlong_15 : decode c_X0_turnedAlong 15 = .ok (.invokestatic 168, 3) := by decide +kernel
theorem d_X0_turnedAlong_18 : decode c_X0_turnedAlong 18 = .ok (.lstore 9, 2) := by decide +kernel
theorem d_X0_turnedAlong_20 : decode c_X0_turnedAlong 20 = .ok (.lload 7, 2) := by decide +kernel
theorem d_X0_turnedAlong_22 : decode c_X0_turnedAlong 22 = .ok (.iload 6, 2) := by decide +kernel
theorem d_X0_turnedAlong_24 : decode c_X0_turnedAlong 24 = .ok (.lshl, 1) := by decide +kernel
theorem d_X0_turnedAlong_25 : decode c_X0_turnedAlong 25 = .ok (.lload_n 0, 1) := by decide +kernel
theorem d_X0_turnedAlong_26 : decode c_X0_turnedAlong 26 = .ok (.land, 1) := by decide +kernel
theorem d_X0_turnedAlong_27 : decode c_X0_turnedAlong 27 = .ok (.lconst 0, 1) := by decide +kernel
theorem d_X0_turnedAlong_28 : decode c_X0_turnedAlong 28 = .ok (.lcmp, 1) := by decide +kernel
theorem d_X0_turnedAlong_29 : decode c_X0_turnedAlong 29 = .ok (.ifCond .eq 8, 3) := by decide +kernel
theorem d_X0_turnedAlong_32 : decode c_X0_turnedAlong 32 = .ok (.lload 7, 2) := by decide +kernel
theorem d_X0_turnedAlong_34 : decode c_X0_turnedAlong 34 = .ok (.goto 4, 3) := by decide +kernel
theorem d_X0_turnedAlong_37 : decode c_X0_turnedAlong 37 = .ok (.lconst 0, 1) := by decide +kernel
theorem d_X0_turnedAlong_38 : decode c_X0_turnedAlong 38 = .ok (.lstore 11, 2) := by decide +kernel
theorem d_X0_turnedAlong_40 : decode c_X0_turnedAlong 40 = .ok (.lload 9, 2) := by decide +kernel
theorem d_X0_turnedAlong_42 : decode c_X0_turnedAlong 42 = .ok (.iload 6, 2) := by decide +kernel
theorem d_X0_turnedAlong_44 : decode c_X0_turnedAlong 44 = .ok (.lushr, 1) := by decide +kernel
theorem d_X0_turnedAlong_45 : decode c_X0_turnedAlong 45 = .ok (.lload_n 0, 1) := by decide +kernel
theorem d_X0_turnedAlong_46 : decode c_X0_turnedAlong 46 = .ok (.land, 1) := by decide +kernel
theorem d_X0_turnedAlong_47 : decode c_X0_turnedAlong 47 = .ok (.lconst 0, 1) := by decide +kernel
theorem d_X0_turnedAlong_48 : decode c_X0_turnedAlong 48 = .ok (.lcmp, 1) := by decide +kernel
theorem d_X0_turnedAlong_49 : decode c_X0_turnedAlong 49 = .ok (.ifCond .eq 11, 3) := by decide +kernel
theorem d_X0_turnedAlong_52 : decode c_X0_turnedAlong 52 = .ok (.lload 11, 2) := by decide +kernel
theorem d_X0_turnedAlong_54 : decode c_X0_turnedAlong 54 = .ok (.lload 9, 2) := by decide +kernel
theorem d_X0_turnedAlong_56 : decode c_X0_turnedAlong 56 = .ok (.lor, 1) := by decide +kernel
theorem d_X0_turnedAlong_57 : decode c_X0_turnedAlong 57 = .ok (.goto 5, 3) := by decide +kernel
theorem d_X0_turnedAlong_60 : decode c_X0_turnedAlong 60 = .ok (.lload 11, 2) := by decide +kernel
theorem d_X0_turnedAlong_62 : decode c_X0_turnedAlong 62 = .ok (.lreturn, 1) := by decide +kernel
theorem d_X0_runUp_0 : decode c_X0_runUp 0 = .ok (.lload_n 0, 1) := by decide +kernel
theorem d_X0_runUp_1 : decode c_X0_runUp 1 = .ok (.iload 4, 2) := by decide +kernel
theorem d_X0_runUp_3 : decode c_X0_runUp 3 = .ok (.lshl, 1) := by decide +kernel
theorem d_X0_runUp_4 : decode c_X0_runUp 4 = .ok (.lload_n 2, 1) := by decide +kernel
theorem d_X0_runUp_5 : decode c_X0_runUp 5 = .ok (.land, 1) := by decide +kernel
theorem d_X0_runUp_6 : decode c_X0_runUp 6 = .ok (.lstore 5, 2) := by decide +kernel
theorem d_X0_runUp_8 : decode c_X0_runUp 8 = .ok (.lload 5, 2) := by decide +kernel
theorem d_X0_runUp_10 : decode c_X0_runUp 10 = .ok (.lload 5, 2) := by decide +kernel
theorem d_X0_runUp_12 : decode c_X0_runUp 12 = .ok (.iload 4, 2) := by decide +kernel
theorem d_X0_runUp_14 : decode c_X0_runUp 14 = .ok (.lshl, 1) := by decide +kernel
theorem d_X0_runUp_15 : decode c_X0_runUp 15 = .ok (.lload_n 2, 1) := by decide +kernel
theorem d_X0_runUp_16 : decode c_X0_runUp 16 = .ok (.land, 1) := by decide +kernel
theorem d_X0_runUp_17 : decode c_X0_runUp 17 = .ok (.lor, 1) := by decide +kernel
theorem d_X0_runUp_18 : decode c_X0_runUp 18 = .ok (.lstore 5, 2) := by decide +kernel
theorem d_X0_runUp_20 : decode c_X0_runUp 20 = .ok (.lload 5, 2) := by decide +kernel
theorem d_X0_runUp_22 : decode c_X0_runUp 22 = .ok (.lload 5, 2) := by decide +kernel
theorem d_X0_runUp_24 : decode c_X0_runUp 24 = .ok (.iload 4, 2) := by decide +kernel
theorem d_X0_runUp_26 : decode c_X0_runUp 26 = .ok (.lshl, 1) := by decide +kernel
theorem d_X0_runUp_27 : decode c_X0_runUp 27 = .ok (.lload_n 2, 1) := by decide +kernel
theorem d_X0_runUp_28 : decode c_X0_runUp 28 = .ok (.land, 1) := by decide +kernel
theorem d_X0_runUp_29 : decode c_X0_runUp 29 = .ok (.lor, 1) := by decide +kernel
theorem d_X0_runUp_30 : decode c_X0_runUp 30 = .ok (.lstore 5, 2) := by decide +kernel
theorem d_X0_runUp_32 : decode c_X0_runUp 32 = .ok (.lload 5, 2) := by decide +kernel
theorem d_X0_runUp_34 : decode c_X0_runUp 34 = .ok (.lload 5, 2) := by decide +kernel
theorem d_X0_runUp_36 : decode c_X0_runUp 36 = .ok (.iload 4, 2) := by decide +kernel
theorem d_X0_runUp_38 : decode c_X0_runUp 38 = .ok (.lshl, 1) := by decide +kernel
theorem d_X0_runUp_39 : decode c_X0_runUp 39 = .ok (.lload_n 2, 1) := by decide +kernel
theorem d_X0_runUp_40 : decode c_X0_runUp 40 = .ok (.land, 1) := by decide +kernel
theorem d_X0_runUp_41 : decode c_X0_runUp 41 = .ok (.lor, 1) := by decide +kernel
theorem d_X0_runUp_42 : decode c_X0_runUp 42 = .ok (.lstore 5, 2) := by decide +kernel
theorem d_X0_runUp_44 : decode c_X0_runUp 44 = .ok (.lload 5, 2) := by decide +kernel
theorem d_X0_runUp_46 : decode c_X0_runUp 46 = .ok (.lload 5, 2) := by decide +kernel
theorem d_X0_runUp_48 : decode c_X0_runUp 48 = .ok (.iload 4, 2) := by decide +kernel
theorem d_X0_runUp_50 : decode c_X0_runUp 50 = .ok (.lshl, 1) := by decide +kernel
theorem d_X0_runUp_51 : decode c_X0_runUp 51 = .ok (.lload_n 2, 1) := by decide +kernel
theorem d_X0_runUp_52 : decode c_X0_runUp 52 = .ok (.land, 1) := by decide +kernel
theorem d_X0_runUp_53 : decode c_X0_runUp 53 = .ok (.lor, 1) := by decide +kernel
theorem d_X0_runUp_54 : decode c_X0_runUp 54 = .ok (.lstore 5, 2) := by decide +kernel
theorem d_X0_runUp_56 : decode c_X0_runUp 56 = .ok (.lload 5, 2) := by decide +kernel
theorem d_X0_runUp_58 : decode c_X0_runUp 58 = .ok (.lload 5, 2) := by decide +kernel
theorem d_X0_runUp_60 : decode c_X0_runUp 60 = .ok (.iload 4, 2) := by decide +kernel
theorem d_X0_runUp_62 : decode c_X0_runUp 62 = .ok (.lshl, 1) := by decide +kernel
theorem d_X0_runUp_63 : decode c_X0_runUp 63 = .ok (.lload_n 2, 1) := by decide +kernel
theorem d_X0_runUp_64 : decode c_X0_runUp 64 = .ok (.land, 1) := by decide +kernel
theorem d_X0_runUp_65 : decode c_X0_runUp 65 = .ok (.lor, 1) := by decide +kernel
theorem d_X0_runUp_66 : decode c_X0_runUp 66 = .ok (.lreturn, 1) := by decide +kernel
theorem d_X0_runDown_0 : decode c_X0_runDown 0 = .ok (.lload_n 0, 1) := by decide +kernel
theorem d_X0_runDown_1 : decode c_X0_runDown 1 = .ok (.iload 4, 2) := by decide +kernel
theorem d_X0_runDown_3 : decode c_X0_runDown 3 = .ok (.lushr, 1) := by decide +kernel
theorem d_X0_runDown_4 : decode c_X0_runDown 4 = .ok (.lload_n 2, 1) := by decide +kernel
theorem d_X0_runDown_5 : decode c_X0_runDown 5 = .ok (.land, 1) := by decide +kernel
theorem d_X0_runDown_6 : decode c_X0_runDown 6 = .ok (.lstore 5, 2) := by decide +kernel
theorem d_X0_runDown_8 : decode c_X0_runDown 8 = .ok (.lload 5, 2) := by decide +kernel
theorem d_X0_runDown_10 : decode c_X0_runDown 10 = .ok (.lload 5, 2) := by decide +kernel
theorem d_X0_runDown_12 : decode c_X0_runDown 12 = .ok (.iload 4, 2) := by decide +kernel
theorem d_X0_runDown_14 : decode c_X0_runDown 14 = .ok (.lushr, 1) := by decide +kernel
theorem d_X0_runDown_15 : decode c_X0_runDown 15 = .ok (.lload_n 2, 1) := by decide +kernel
theorem d_X0_runDown_16 : decode c_X0_runDown 16 = .ok (.land, 1) := by decide +kernel
theorem d_X0_runDown_17 : decode c_X0_runDown 17 = .ok (.lor, 1) := by decide +kernel
theorem d_X0_runDown_18 : decode c_X0_runDown 18 = .ok (.lstore 5, 2) := by decide +kernel
theorem d_X0_runDown_20 : decode c_X0_runDown 20 = .ok (.lload 5, 2) := by decide +kernel
theorem d_X0_runDown_22 : decode c_X0_runDown 22 = .ok (.lload 5, 2) := by decide +kernel
theorem d_X0_runDown_24 : decode c_X0_runDown 24 = .ok (.iload 4, 2) := by decide +kernel
theorem d_X0_runDown_26 : decode c_X0_runDown 26 = .ok (.lushr, 1) := by decide +kernel
theorem d_X0_runDown_27 : decode c_X0_runDown 27 = .ok (.lload_n 2, 1) := by decide +kernel
theorem d_X0_runDown_28 : decode c_X0_runDown 28 = .ok (.land, 1) := by decide +kernel
theorem d_X0_runDown_29 : decode c_X0_runDown 29 = .ok (.lor, 1) := by decide +kernel
theorem d_X0_runDown_30 : decode c_X0_runDown 30 = .ok (.lstore 5, 2) := by decide +kernel
theorem d_X0_runDown_32 : decode c_X0_runDown 32 = .ok (.lload 5, 2) := by decide +kernel
theorem d_X0_runDown_34 : decode c_X0_runDown 34 = .ok (.lload 5, 2) := by decide +kernel
theorem d_X0_runDown_36 : decode c_X0_runDown 36 = .ok (.iload 4, 2) := by decide +kernel
theorem d_X0_runDown_38 : decode c_X0_runDown 38 = .ok (.lushr, 1) := by decide +kernel
theorem d_X0_runDown_39 : decode c_X0_runDown 39 = .ok (.lload_n 2, 1) := by decide +kernel
theorem d_X0_runDown_40 : decode c_X0_runDown 40 = .ok (.land, 1) := by decide +kernel
theorem d_X0_runDown_41 : decode c_X0_runDown 41 = .ok (.lor, 1) := by decide +kernel
theorem d_X0_runDown_42 : decode c_X0_runDown 42 = .ok (.lstore 5, 2) := by decide +kernel
theorem d_X0_runDown_44 : decode c_X0_runDown 44 = .ok (.lload 5, 2) := by decide +kernel
theorem d_X0_runDown_46 : decode c_X0_runDown 46 = .ok (.lload 5, 2) := by decide +kernel
theorem d_X0_runDown_48 : decode c_X0_runDown 48 = .ok (.iload 4, 2) := by decide +kernel
theorem d_X0_runDown_50 : decode c_X0_runDown 50 = .ok (.lushr, 1) := by decide +kernel
theorem d_X0_runDown_51 : decode c_X0_runDown 51 = .ok (.lload_n 2, 1) := by decide +kernel
theorem d_X0_runDown_52 : decode c_X0_runDown 52 = .ok (.land, 1) := by decide +kernel
theorem d_X0_runDown_53 : decode c_X0_runDown 53 = .ok (.lor, 1) := by decide +kernel
theorem d_X0_runDown_54 : decode c_X0_runDown 54 = .ok (.lstore 5, 2) := by decide +kernel
theorem d_X0_runDown_56 : decode c_X0_runDown 56 = .ok (.lload 5, 2) := by decide +kernel
theorem d_X0_runDown_58 : decode c_X0_runDown 58 = .ok (.lload 5, 2) := by decide +kernel
theorem d_X0_runDown_60 : decode c_X0_runDown 60 = .ok (.iload 4, 2) := by decide +kernel
theorem d_X0_runDown_62 : decode c_X0_runDown 62 = .ok (.lushr, 1) := by decide +kernel
theorem d_X0_runDown_63 : decode c_X0_runDown 63 = .ok (.lload_n 2, 1) := by decide +kernel
theorem d_X0_runDown_64 : decode c_X0_runDown 64 = .ok (.land, 1) := by decide +kernel
theorem d_X0_runDown_65 : decode c_X0_runDown 65 = .ok (.lor, 1) := by decide +kernel
theorem d_X0_runDown_66 : decode c_X0_runDown 66 = .ok (.lreturn, 1) := by decide +kernel
theorem d_X0_rowsFrom_0 : decode c_X0_rowsFrom 0 = .ok (.iload 4, 2) := by decide +kernel
theorem d_X0_rowsFrom_2 : decode c_X0_rowsFrom 2 = .ok (.ifCond .gt 5, 3) := by decide +kernel
theorem d_X0_rowsFrom_5 : decode c_X0_rowsFrom 5 = .ok (.lconst 1, 1) := by decide +kernel
theorem d_X0_rowsFrom_6 : decode c_X0_rowsFrom 6 = .ok (.lreturn, 1) := by decide +kernel
theorem d_X0_rowsFrom_7 : decode c_X0_rowsFrom 7 = .ok (.lload_n 0, 1) := by decide +kernel
theorem d_X0_rowsFrom_8 : decode c_X0_rowsFrom 8 = .ok (.lload_n 2, 1) := by decide +kernel
theorem d_X0_rowsFrom_9 : decode c_X0_rowsFrom 9 = .ok (.invokestatic 54, 3) := by decide +kernel
theorem d_X0_rowsFrom_12 : decode c_X0_rowsFrom 12 = .ok (.lstore 5, 2) := by decide +kernel
theorem d_X0_rowsFrom_14 : decode c_X0_rowsFrom 14 = .ok (.lload 5, 2) := by decide +kernel
theorem d_X0_rowsFrom_16 : decode c_X0_rowsFrom 16 = .ok (.lconst 0, 1) := by decide +kernel
theorem d_X0_rowsFrom_17 : decode c_X0_rowsFrom 17 = .ok (.lcmp, 1) := by decide +kernel
theorem d_X0_rowsFrom_18 : decode c_X0_rowsFrom 18 = .ok (.ifCond .ne 27, 3) := by decide +kernel
theorem d_X0_rowsFrom_21 : decode c_X0_rowsFrom 21 = .ok (.lload_n 2, 1) := by decide +kernel
theorem d_X0_rowsFrom_22 : decode c_X0_rowsFrom 22 = .ok (.lload_n 0, 1) := by decide +kernel
theorem d_X0_rowsFrom_23 : decode c_X0_rowsFrom 23 = .ok (.invokestatic 54, 3) := by decide +kernel
theorem d_X0_rowsFrom_26 : decode c_X0_rowsFrom 26 = .ok (.lconst 0, 1) := by decide +kernel
theorem d_X0_rowsFrom_27 : decode c_X0_rowsFrom 27 = .ok (.lcmp, 1) := by decide +kernel
theorem d_X0_rowsFrom_28 : decode c_X0_rowsFrom 28 = .ok (.ifCond .ne 7, 3) := by decide +kernel
theorem d_X0_rowsFrom_31 : decode c_X0_rowsFrom 31 = .ok (.lconst 1, 1) := by decide +kernel
theorem d_X0_rowsFrom_32 : decode c_X0_rowsFrom 32 = .ok (.goto 12, 3) := by decide +kernel
theorem d_X0_rowsFrom_35 : decode c_X0_rowsFrom 35 = .ok (.lload_n 2, 1) := by decide +kernel
theorem d_X0_rowsFrom_36 : decode c_X0_rowsFrom 36 = .ok (.lload_n 0, 1) := by decide +kernel
theorem d_X0_rowsFrom_37 : decode c_X0_rowsFrom 37 = .ok (.iload 4, 2) := by decide +kernel
theorem d_X0_rowsFrom_39 : decode c_X0_rowsFrom 39 = .ok (.iconst 1, 1) := by decide +kernel
theorem d_X0_rowsFrom_40 : decode c_X0_rowsFrom 40 = .ok (.isub, 1) := by decide +kernel
theorem d_X0_rowsFrom_41 : decode c_X0_rowsFrom 41 = .ok (.invokestatic 104, 3) := by decide +kernel
theorem d_X0_rowsFrom_44 : decode c_X0_rowsFrom 44 = .ok (.lreturn, 1) := by decide +kernel
theorem d_X0_rowsFrom_45 : decode c_X0_rowsFrom 45 = .ok (.lload 5, 2) := by decide +kernel
theorem d_X0_rowsFrom_47 : decode c_X0_rowsFrom 47 = .ok (.invokestatic 128, 3) := by decide +kernel
theorem d_X0_rowsFrom_50 : decode c_X0_rowsFrom 50 = .ok (.istore 7, 2) := by decide +kernel
theorem d_X0_rowsFrom_52 : decode c_X0_rowsFrom 52 = .ok (.iload 4, 2) := by decide +kernel
theorem d_X0_rowsFrom_54 : decode c_X0_rowsFrom 54 = .ok (.iconst 1, 1) := by decide +kernel
theorem d_X0_rowsFrom_55 : decode c_X0_rowsFrom 55 = .ok (.if_icmp .ne 7, 3) := by decide +kernel
theorem d_X0_rowsFrom_58 : decode c_X0_rowsFrom 58 = .ok (.iload 7, 2) := by decide +kernel
theorem d_X0_rowsFrom_60 : decode c_X0_rowsFrom 60 = .ok (.i2l, 1) := by decide +kernel
theorem d_X0_rowsFrom_61 : decode c_X0_rowsFrom 61 = .ok (.lreturn, 1) := by decide +kernel
theorem d_X0_rowsFrom_62 : decode c_X0_rowsFrom 62 = .ok (.lconst 0, 1) := by decide +kernel
theorem d_X0_rowsFrom_63 : decode c_X0_rowsFrom 63 = .ok (.lstore 8, 2) := by decide +kernel
theorem d_X0_rowsFrom_65 : decode c_X0_rowsFrom 65 = .ok (.iconst 0, 1) := by decide +kernel
theorem d_X0_rowsFrom_66 : decode c_X0_rowsFrom 66 = .ok (.istore 10, 2) := by decide +kernel
theorem d_X0_rowsFrom_68 : decode c_X0_rowsFrom 68 = .ok (.iload 10, 2) := by decide +kernel
theorem d_X0_rowsFrom_70 : decode c_X0_rowsFrom 70 = .ok (.iload 7, 2) := by decide +kernel
theorem d_X0_rowsFrom_72 : decode c_X0_rowsFrom 72 = .ok (.if_icmp .ge 56, 3) := by decide +kernel
theorem d_X0_rowsFrom_75 : decode c_X0_rowsFrom 75 = .ok (.lload 5, 2) := by decide +kernel
theorem d_X0_rowsFrom_77 : decode c_X0_rowsFrom 77 = .ok (.lload 5, 2) := by decide +kernel
theorem d_X0_rowsFrom_79 : decode c_X0_rowsFrom 79 = .ok (.lneg, 1) := by decide +kernel
theorem d_X0_rowsFrom_80 : decode c_X0_rowsFrom 80 = .ok (.land, 1) := by decide +kernel
theorem d_X0_rowsFrom_81 : decode c_X0_rowsFrom 81 = .ok (.lstore 11, 2) := by decide +kernel
theorem d_X0_rowsFrom_83 : decode c_X0_rowsFrom 83 = .ok (.lload 5, 2) := by decide +kernel
theorem d_X0_rowsFrom_85 : decode c_X0_rowsFrom 85 = .ok (.lload 11, 2) := by decide +kernel
theorem d_X0_rowsFrom_87 : decode c_X0_rowsFrom 87 = .ok (.lxor, 1) := by decide +kernel
theorem d_X0_rowsFrom_88 : decode c_X0_rowsFrom 88 = .ok (.lstore 5, 2) := by decide +kernel
theorem d_X0_rowsFrom_90 : decode c_X0_rowsFrom 90 = .ok (.lload_n 0, 1) := by decide +kernel
theorem d_X0_rowsFrom_91 : decode c_X0_rowsFrom 91 = .ok (.lload_n 2, 1) := by decide +kernel
theorem d_X0_rowsFrom_92 : decode c_X0_rowsFrom 92 = .ok (.lload 11, 2) := by decide +kernel
theorem d_X0_rowsFrom_94 : decode c_X0_rowsFrom 94 = .ok (.invokestatic 67, 3) := by decide +kernel
theorem d_X0_rowsFrom_97 : decode c_X0_rowsFrom 97 = .ok (.lstore 13, 2) := by decide +kernel
theorem d_X0_rowsFrom_99 : decode c_X0_rowsFrom 99 = .ok (.lload 8, 2) := by decide +kernel
theorem d_X0_rowsFrom_101 : decode c_X0_rowsFrom 101 = .ok (.lload_n 2, 1) := by decide +kernel
theorem d_X0_rowsFrom_102 : decode c_X0_rowsFrom 102 = .ok (.lload 13, 2) := by decide +kernel
theorem d_X0_rowsFrom_104 : decode c_X0_rowsFrom 104 = .ok (.lxor, 1) := by decide +kernel
theorem d_X0_rowsFrom_105 : decode c_X0_rowsFrom 105 = .ok (.lload_n 0, 1) := by decide +kernel
theorem d_X0_rowsFrom_106 : decode c_X0_rowsFrom 106 = .ok (.lload 11, 2) := by decide +kernel
theorem d_X0_rowsFrom_108 : decode c_X0_rowsFrom 108 = .ok (.lor, 1) := by decide +kernel
theorem d_X0_rowsFrom_109 : decode c_X0_rowsFrom 109 = .ok (.lload 13, 2) := by decide +kernel
theorem d_X0_rowsFrom_111 : decode c_X0_rowsFrom 111 = .ok (.lor, 1) := by decide +kernel
theorem d_X0_rowsFrom_112 : decode c_X0_rowsFrom 112 = .ok (.iload 4, 2) := by decide +kernel
theorem d_X0_rowsFrom_114 : decode c_X0_rowsFrom 114 = .ok (.iconst 1, 1) := by decide +kernel
theorem d_X0_rowsFrom_115 : decode c_X0_rowsFrom 115 = .ok (.isub, 1) := by decide +kernel
theorem d_X0_rowsFrom_116 : decode c_X0_rowsFrom 116 = .ok (.invokestatic 104, 3) := by decide +kernel
theorem d_X0_rowsFrom_119 : decode c_X0_rowsFrom 119 = .ok (.ladd, 1) := by decide +kernel
theorem d_X0_rowsFrom_120 : decode c_X0_rowsFrom 120 = .ok (.lstore 8, 2) := by decide +kernel
theorem d_X0_rowsFrom_122 : decode c_X0_rowsFrom 122 = .ok (.iinc 10 1, 3) := by decide +kernel
theorem d_X0_rowsFrom_125 : decode c_X0_rowsFrom 125 = .ok (.goto (-57), 3) := by decide +kernel
theorem d_X0_rowsFrom_128 : decode c_X0_rowsFrom 128 = .ok (.lload 8, 2) := by decide +kernel
theorem d_X0_rowsFrom_130 : decode c_X0_rowsFrom 130 = .ok (.lreturn, 1) := by decide +kernel
theorem d_X0_worth_0 : decode c_X0_worth 0 = .ok (.lload_n 0, 1) := by decide +kernel
theorem d_X0_worth_1 : decode c_X0_worth 1 = .ok (.lload_n 2, 1) := by decide +kernel
theorem d_X0_worth_2 : decode c_X0_worth 2 = .ok (.invokestatic 54, 3) := by decide +kernel
theorem d_X0_worth_5 : decode c_X0_worth 5 = .ok (.lstore 7, 2) := by decide +kernel
theorem d_X0_worth_7 : decode c_X0_worth 7 = .ok (.iload 6, 2) := by decide +kernel
theorem d_X0_worth_9 : decode c_X0_worth 9 = .ok (.ifCond .le 20, 3) := by decide +kernel
theorem d_X0_worth_12 : decode c_X0_worth 12 = .ok (.lload 7, 2) := by decide +kernel
theorem d_X0_worth_14 : decode c_X0_worth 14 = .ok (.lconst 0, 1) := by decide +kernel
theorem d_X0_worth_15 : decode c_X0_worth 15 = .ok (.lcmp, 1) := by decide +kernel
theorem d_X0_worth_16 : decode c_X0_worth 16 = .ok (.ifCond .ne 19, 3) := by decide +kernel
theorem d_X0_worth_19 : decode c_X0_worth 19 = .ok (.lload_n 2, 1) := by decide +kernel
theorem d_X0_worth_20 : decode c_X0_worth 20 = .ok (.lload_n 0, 1) := by decide +kernel
theorem d_X0_worth_21 : decode c_X0_worth 21 = .ok (.invokestatic 54, 3) := by decide +kernel
theorem d_X0_worth_24 : decode c_X0_worth 24 = .ok (.lconst 0, 1) := by decide +kernel
theorem d_X0_worth_25 : decode c_X0_worth 25 = .ok (.lcmp, 1) := by decide +kernel
theorem d_X0_worth_26 : decode c_X0_worth 26 = .ok (.ifCond .ne 9, 3) := by decide +kernel
theorem d_X0_worth_29 : decode c_X0_worth 29 = .ok (.lload_n 0, 1) := by decide +kernel
theorem d_X0_worth_30 : decode c_X0_worth 30 = .ok (.lload_n 2, 1) := by decide +kernel
theorem d_X0_worth_31 : decode c_X0_worth 31 = .ok (.invokestatic 98, 3) := by decide +kernel
theorem d_X0_worth_34 : decode c_X0_worth 34 = .ok (.ireturn, 1) := by decide +kernel
theorem d_X0_worth_35 : decode c_X0_worth 35 = .ok (.lload 7, 2) := by decide +kernel
theorem d_X0_worth_37 : decode c_X0_worth 37 = .ok (.lconst 0, 1) := by decide +kernel
theorem d_X0_worth_38 : decode c_X0_worth 38 = .ok (.lcmp, 1) := by decide +kernel
theorem d_X0_worth_39 : decode c_X0_worth 39 = .ok (.ifCond .ne 20, 3) := by decide +kernel
theorem d_X0_worth_42 : decode c_X0_worth 42 = .ok (.lload_n 2, 1) := by decide +kernel
theorem d_X0_worth_43 : decode c_X0_worth 43 = .ok (.lload_n 0, 1) := by decide +kernel
theorem d_X0_worth_44 : decode c_X0_worth 44 = .ok (.iload 5, 2) := by decide +kernel
theorem d_X0_worth_46 : decode c_X0_worth 46 = .ok (.ineg, 1) := by decide +kernel
theorem d_X0_worth_47 : decode c_X0_worth 47 = .ok (.iload 4, 2) := by decide +kernel
theorem d_X0_worth_49 : decode c_X0_worth 49 = .ok (.ineg, 1) := by decide +kernel
theorem d_X0_worth_50 : decode c_X0_worth 50 = .ok (.iload 6, 2) := by decide +kernel
theorem d_X0_worth_52 : decode c_X0_worth 52 = .ok (.iconst 1, 1) := by decide +kernel
theorem d_X0_worth_53 : decode c_X0_worth 53 = .ok (.isub, 1) := by decide +kernel
theorem d_X0_worth_54 : decode c_X0_worth 54 = .ok (.invokestatic 111, 3) := by decide +kernel
theorem d_X0_worth_57 : decode c_X0_worth 57 = .ok (.ineg, 1) := by decide +kernel
theorem d_X0_worth_58 : decode c_X0_worth 58 = .ok (.ireturn, 1) := by decide +kernel
theorem d_X0_worth_59 : decode c_X0_worth 59 = .ok (.bipush (-65), 2) := by decide +kernel
theorem d_X0_worth_61 : decode c_X0_worth 61 = .ok (.istore 9, 2) := by decide +kernel
theorem d_X0_worth_63 : decode c_X0_worth 63 = .ok (.lload 7, 2) := by decide +kernel
theorem d_X0_worth_65 : decode c_X0_worth 65 = .ok (.invokestatic 128, 3) := by decide +kernel
theorem d_X0_worth_68 : decode c_X0_worth 68 = .ok (.istore 10, 2) := by decide +kernel
theorem d_X0_worth_70 : decode c_X0_worth 70 = .ok (.iconst 0, 1) := by decide +kernel
theorem d_X0_worth_71 : decode c_X0_worth 71 = .ok (.istore 11, 2) := by decide +kernel
theorem d_X0_worth_73 : decode c_X0_worth 73 = .ok (.iload 11, 2) := by decide +kernel
theorem d_X0_worth_75 : decode c_X0_worth 75 = .ok (.iload 10, 2) := by decide +kernel
theorem d_X0_worth_77 : decode c_X0_worth 77 = .ok (.if_icmp .ge 56, 3) := by decide +kernel
theorem d_X0_worth_80 : decode c_X0_worth 80 = .ok (.iload 9, 2) := by decide +kernel
theorem d_X0_worth_82 : decode c_X0_worth 82 = .ok (.iload 5, 2) := by decide +kernel
theorem d_X0_worth_84 : decode c_X0_worth 84 = .ok (.if_icmp .ge 49, 3) := by decide +kernel
theorem d_X0_worth_87 : decode c_X0_worth 87 = .ok (.lload 7, 2) := by decide +kernel
theorem d_X0_worth_89 : decode c_X0_worth 89 = .ok (.lload 7, 2) := by decide +kernel
theorem d_X0_worth_91 : decode c_X0_worth 91 = .ok (.lneg, 1) := by decide +kernel
theorem d_X0_worth_92 : decode c_X0_worth 92 = .ok (.land, 1) := by decide +kernel
theorem d_X0_worth_93 : decode c_X0_worth 93 = .ok (.lstore 12, 2) := by decide +kernel
theorem d_X0_worth_95 : decode c_X0_worth 95 = .ok (.lload 7, 2) := by decide +kernel
theorem d_X0_worth_97 : decode c_X0_worth 97 = .ok (.lload 12, 2) := by decide +kernel
theorem d_X0_worth_99 : decode c_X0_worth 99 = .ok (.lxor, 1) := by decide +kernel
theorem d_X0_worth_100 : decode c_X0_worth 100 = .ok (.lstore 7, 2) := by decide +kernel
theorem d_X0_worth_102 : decode c_X0_worth 102 = .ok (.iload 9, 2) := by decide +kernel
theorem d_X0_worth_104 : decode c_X0_worth 104 = .ok (.lload_n 0, 1) := by decide +kernel
theorem d_X0_worth_105 : decode c_X0_worth 105 = .ok (.lload_n 2, 1) := by decide +kernel
theorem d_X0_worth_106 : decode c_X0_worth 106 = .ok (.lload 12, 2) := by decide +kernel
theorem d_X0_worth_108 : decode c_X0_worth 108 = .ok (.iload 4, 2) := by decide +kernel
theorem d_X0_worth_110 : decode c_X0_worth 110 = .ok (.iload 9, 2) := by decide +kernel
theorem d_X0_worth_112 : decode c_X0_worth 112 = .ok (.invokestatic 175, 3) := by decide +kernel
theorem d_X0_worth_115 : decode c_X0_worth 115 = .ok (.iload 5, 2) := by decide +kernel
theorem d_X0_worth_117 : decode c_X0_worth 117 = .ok (.iload 6, 2) := by decide +kernel
theorem d_X0_worth_119 : decode c_X0_worth 119 = .ok (.invokestatic 181, 3) := by decide +kernel
theorem d_X0_worth_122 : decode c_X0_worth 122 = .ok (.invokestatic 175, 3) := by decide +kernel
theorem d_X0_worth_125 : decode c_X0_worth 125 = .ok (.istore 9, 2) := by decide +kernel
theorem d_X0_worth_127 : decode c_X0_worth 127 = .ok (.iinc 11 1, 3) := by decide +kernel
theorem d_X0_worth_130 : decode c_X0_worth 130 = .ok (.goto (-57), 3) := by decide +kernel
theorem d_X0_worth_133 : decode c_X0_worth 133 = .ok (.iload 9, 2) := by decide +kernel
theorem d_X0_worth_135 : decode c_X0_worth 135 = .ok (.ireturn, 1) := by decide +kernel
theorem d_X0_worthOf_0 : decode c_X0_worthOf 0 = .ok (.lload_n 0, 1) := by decide +kernel
theorem d_X0_worthOf_1 : decode c_X0_worthOf 1 = .ok (.lload_n 2, 1) := by decide +kernel
theorem d_X0_worthOf_2 : decode c_X0_worthOf 2 = .ok (.lload 4, 2) := by decide +kernel
theorem d_X0_worthOf_4 : decode c_X0_worthOf 4 = .ok (.invokestatic 67, 3) := by decide +kernel
theorem d_X0_worthOf_7 : decode c_X0_worthOf 7 = .ok (.lstore 9, 2) := by decide +kernel
theorem d_X0_worthOf_9 : decode c_X0_worthOf 9 = .ok (.lload_n 2, 1) := by decide +kernel
theorem d_X0_worthOf_10 : decode c_X0_worthOf 10 = .ok (.lload 9, 2) := by decide +kernel
theorem d_X0_worthOf_12 : decode c_X0_worthOf 12 = .ok (.lxor, 1) := by decide +kernel
theorem d_X0_worthOf_13 : decode c_X0_worthOf 13 = .ok (.lload_n 0, 1) := by decide +kernel
theorem d_X0_worthOf_14 : decode c_X0_worthOf 14 = .ok (.lload 4, 2) := by decide +kernel
theorem d_X0_worthOf_16 : decode c_X0_worthOf 16 = .ok (.lor, 1) := by decide +kernel
theorem d_X0_worthOf_17 : decode c_X0_worthOf 17 = .ok (.lload 9, 2) := by decide +kernel
theorem d_X0_worthOf_19 : decode c_X0_worthOf 19 = .ok (.lor, 1) := by decide +kernel
theorem d_X0_worthOf_20 : decode c_X0_worthOf 20 = .ok (.iload 7, 2) := by decide +kernel
theorem d_X0_worthOf_22 : decode c_X0_worthOf 22 = .ok (.ineg, 1) := by decide +kernel
theorem d_X0_worthOf_23 : decode c_X0_worthOf 23 = .ok (.iload 6, 2) := by decide +kernel
theorem d_X0_worthOf_25 : decode c_X0_worthOf 25 = .ok (.ineg, 1) := by decide +kernel
theorem d_X0_worthOf_26 : decode c_X0_worthOf 26 = .ok (.iload 8, 2) := by decide +kernel
theorem d_X0_worthOf_28 : decode c_X0_worthOf 28 = .ok (.iconst 1, 1) := by decide +kernel
theorem d_X0_worthOf_29 : decode c_X0_worthOf 29 = .ok (.isub, 1) := by decide +kernel
theorem d_X0_worthOf_30 : decode c_X0_worthOf 30 = .ok (.invokestatic 111, 3) := by decide +kernel
theorem d_X0_worthOf_33 : decode c_X0_worthOf 33 = .ok (.ineg, 1) := by decide +kernel
theorem d_X0_worthOf_34 : decode c_X0_worthOf 34 = .ok (.ireturn, 1) := by decide +kernel
theorem d_X0_bestSquare_0 : decode c_X0_bestSquare 0 = .ok (.lload_n 0, 1) := by decide +kernel
theorem d_X0_bestSquare_1 : decode c_X0_bestSquare 1 = .ok (.lload_n 2, 1) := by decide +kernel
theorem d_X0_bestSquare_2 : decode c_X0_bestSquare 2 = .ok (.invokestatic 54, 3) := by decide +kernel
theorem d_X0_bestSquare_5 : decode c_X0_bestSquare 5 = .ok (.lstore 4, 2) := by decide +kernel
theorem d_X0_bestSquare_7 : decode c_X0_bestSquare 7 = .ok (.lload 4, 2) := by decide +kernel
theorem d_X0_bestSquare_9 : decode c_X0_bestSquare 9 = .ok (.lconst 0, 1) := by decide +kernel
theorem d_X0_bestSquare_10 : decode c_X0_bestSquare 10 = .ok (.lcmp, 1) := by decide +kernel
theorem d_X0_bestSquare_11 : decode c_X0_bestSquare 11 = .ok (.ifCond .ne 21, 3) := by decide +kernel
theorem d_X0_bestSquare_14 : decode c_X0_bestSquare 14 = .ok (.lload_n 2, 1) := by decide +kernel
theorem d_X0_bestSquare_15 : decode c_X0_bestSquare 15 = .ok (.lload_n 0, 1) := by decide +kernel
theorem d_X0_bestSquare_16 : decode c_X0_bestSquare 16 = .ok (.invokestatic 54, 3) := by decide +kernel
theorem d_X0_bestSquare_19 : decode c_X0_bestSquare 19 = .ok (.lconst 0, 1) := by decide +kernel
theorem d_X0_bestSquare_20 : decode c_X0_bestSquare 20 = .ok (.lcmp, 1) := by decide +kernel
theorem d_X0_bestSquare_21 : decode c_X0_bestSquare 21 = .ok (.ifCond .ne 8, 3) := by decide +kernel
theorem d_X0_bestSquare_24 : decode c_X0_bestSquare 24 = .ok (.bipush 65, 2) := by decide +kernel
theorem d_X0_bestSquare_26 : decode c_X0_bestSquare 26 = .ok (.goto 5, 3) := by decide +kernel
theorem d_X0_bestSquare_29 : decode c_X0_bestSquare 29 = .ok (.bipush 64, 2) := by decide +kernel
theorem d_X0_bestSquare_31 : decode c_X0_bestSquare 31 = .ok (.ireturn, 1) := by decide +kernel
theorem d_X0_bestSquare_32 : decode c_X0_bestSquare 32 = .ok (.lconst 0, 1) := by decide +kernel
theorem d_X0_bestSquare_33 : decode c_X0_bestSquare 33 = .ok (.lstore 6, 2) := by decide +kernel
theorem d_X0_bestSquare_35 : decode c_X0_bestSquare 35 = .ok (.bipush (-65), 2) := by decide +kernel
theorem d_X0_bestSquare_37 : decode c_X0_bestSquare 37 = .ok (.istore 8, 2) := by decide +kernel
theorem d_X0_bestSquare_39 : decode c_X0_bestSquare 39 = .ok (.lload 4, 2) := by decide +kernel
theorem d_X0_bestSquare_41 : decode c_X0_bestSquare 41 = .ok (.invokestatic 128, 3) := by decide +kernel
theorem d_X0_bestSquare_44 : decode c_X0_bestSquare 44 = .ok (.istore 9, 2) := by decide +kernel
theorem d_X0_bestSquare_46 : decode c_X0_bestSquare 46 = .ok (.iconst 0, 1) := by decide +kernel
theorem d_X0_bestSquare_47 : decode c_X0_bestSquare 47 = .ok (.istore 10, 2) := by decide +kernel
theorem d_X0_bestSquare_49 : decode c_X0_bestSquare 49 = .ok (.iload 10, 2) := by decide +kernel
theorem d_X0_bestSquare_51 : decode c_X0_bestSquare 51 = .ok (.iload 9, 2) := by decide +kernel
theorem d_X0_bestSquare_53 : decode c_X0_bestSquare 53 = .ok (.if_icmp .ge 54, 3) := by decide +kernel
theorem d_X0_bestSquare_56 : decode c_X0_bestSquare 56 = .ok (.lload 4, 2) := by decide +kernel
theorem d_X0_bestSquare_58 : decode c_X0_bestSquare 58 = .ok (.lload 4, 2) := by decide +kernel
theorem d_X0_bestSquare_60 : decode c_X0_bestSquare 60 = .ok (.lneg, 1) := by decide +kernel
theorem d_X0_bestSquare_61 : decode c_X0_bestSquare 61 = .ok (.land, 1) := by decide +kernel
theorem d_X0_bestSquare_62 : decode c_X0_bestSquare 62 = .ok (.lstore 11, 2) := by decide +kernel
theorem d_X0_bestSquare_64 : decode c_X0_bestSquare 64 = .ok (.lload 4, 2) := by decide +kernel
theorem d_X0_bestSquare_66 : decode c_X0_bestSquare 66 = .ok (.lload 11, 2) := by decide +kernel
theorem d_X0_bestSquare_68 : decode c_X0_bestSquare 68 = .ok (.lxor, 1) := by decide +kernel
theorem d_X0_bestSquare_69 : decode c_X0_bestSquare 69 = .ok (.lstore 4, 2) := by decide +kernel
theorem d_X0_bestSquare_71 : decode c_X0_bestSquare 71 = .ok (.lload_n 0, 1) := by decide +kernel
theorem d_X0_bestSquare_72 : decode c_X0_bestSquare 72 = .ok (.lload_n 2, 1) := by decide +kernel
theorem d_X0_bestSquare_73 : decode c_X0_bestSquare 73 = .ok (.lload 11, 2) := by decide +kernel
theorem d_X0_bestSquare_75 : decode c_X0_bestSquare 75 = .ok (.iload 8, 2) := by decide +kernel
theorem d_X0_bestSquare_77 : decode c_X0_bestSquare 77 = .ok (.bipush 65, 2) := by decide +kernel
theorem d_X0_bestSquare_79 : decode c_X0_bestSquare 79 = .ok (.bipush 14, 2) := by decide +kernel
theorem d_X0_bestSquare_81 : decode c_X0_bestSquare 81 = .ok (.invokestatic 181, 3) := by decide +kernel
theorem d_X0_bestSquare_84 : decode c_X0_bestSquare 84 = .ok (.istore 13, 2) := by decide +kernel
theorem d_X0_bestSquare_86 : decode c_X0_bestSquare 86 = .ok (.iload 13, 2) := by decide +kernel
theorem d_X0_bestSquare_88 : decode c_X0_bestSquare 88 = .ok (.iload 8, 2) := by decide +kernel
theorem d_X0_bestSquare_90 : decode c_X0_bestSquare 90 = .ok (.if_icmp .le 11, 3) := by decide +kernel
theorem d_X0_bestSquare_93 : decode c_X0_bestSquare 93 = .ok (.iload 13, 2) := by decide +kernel
theorem d_X0_bestSquare_95 : decode c_X0_bestSquare 95 = .ok (.istore 8, 2) := by decide +kernel
theorem d_X0_bestSquare_97 : decode c_X0_bestSquare 97 = .ok (.lload 11, 2) := by decide +kernel
theorem d_X0_bestSquare_99 : decode c_X0_bestSquare 99 = .ok (.lstore 6, 2) := by decide +kernel
theorem d_X0_bestSquare_101 : decode c_X0_bestSquare 101 = .ok (.iinc 10 1, 3) := by decide +kernel
theorem d_X0_bestSquare_104 : decode c_X0_bestSquare 104 = .ok (.goto (-55), 3) := by decide +kernel
theorem d_X0_bestSquare_107 : decode c_X0_bestSquare 107 = .ok (.lload 6, 2) := by decide +kernel
theorem d_X0_bestSquare_109 : decode c_X0_bestSquare 109 = .ok (.invokestatic 185, 3) := by decide +kernel
theorem d_X0_bestSquare_112 : decode c_X0_bestSquare 112 = .ok (.ireturn, 1) := by decide +kernel
theorem d_X0_squareOf_0 : decode c_X0_squareOf 0 = .ok (.lload_n 0, 1) := by decide +kernel
theorem d_X0_squareOf_1 : decode c_X0_squareOf 1 = .ok (.lconst 1, 1) := by decide +kernel
theorem d_X0_squareOf_2 : decode c_X0_squareOf 2 = .ok (.lsub, 1) := by decide +kernel
theorem d_X0_squareOf_3 : decode c_X0_squareOf 3 = .ok (.invokestatic 128, 3) := by decide +kernel
theorem d_X0_squareOf_6 : decode c_X0_squareOf 6 = .ok (.ireturn, 1) := by decide +kernel
theorem d_X0_withNeighbours_0 : decode c_X0_withNeighbours 0 = .ok (.lload_n 0, 1) := by decide +kernel
theorem d_X0_withNeighbours_1 : decode c_X0_withNeighbours 1 = .ok (.lload_n 0, 1) := by decide +kernel
theorem d_X0_withNeighbours_2 : decode c_X0_withNeighbours 2 = .ok (.iconst 1, 1) := by decide +kernel
theorem d_X0_withNeighbours_3 : decode c_X0_withNeighbours 3 = .ok (.lshl, 1) := by decide +kernel
theorem d_X0_withNeighbours_4 : decode c_X0_withNeighbours 4 = .ok (.ldc2_w 188, 3) := by decide +kernel
theorem d_X0_withNeighbours_7 : decode c_X0_withNeighbours 7 = .ok (.land, 1) := by decide +kernel
theorem d_X0_withNeighbours_8 : decode c_X0_withNeighbours 8 = .ok (.lor, 1) := by decide +kernel
theorem d_X0_withNeighbours_9 : decode c_X0_withNeighbours 9 = .ok (.lload_n 0, 1) := by decide +kernel
theorem d_X0_withNeighbours_10 : decode c_X0_withNeighbours 10 = .ok (.iconst 1, 1) := by decide +kernel
theorem d_X0_withNeighbours_11 : decode c_X0_withNeighbours 11 = .ok (.lushr, 1) := by decide +kernel
theorem d_X0_withNeighbours_12 : decode c_X0_withNeighbours 12 = .ok (.ldc2_w 190, 3) := by decide +kernel
theorem d_X0_withNeighbours_15 : decode c_X0_withNeighbours 15 = .ok (.land, 1) := by decide +kernel
theorem d_X0_withNeighbours_16 : decode c_X0_withNeighbours 16 = .ok (.lor, 1) := by decide +kernel
theorem d_X0_withNeighbours_17 : decode c_X0_withNeighbours 17 = .ok (.lstore_n 2, 1) := by decide +kernel
theorem d_X0_withNeighbours_18 : decode c_X0_withNeighbours 18 = .ok (.lload_n 2, 1) := by decide +kernel
theorem d_X0_withNeighbours_19 : decode c_X0_withNeighbours 19 = .ok (.lload_n 2, 1) := by decide +kernel
theorem d_X0_withNeighbours_20 : decode c_X0_withNeighbours 20 = .ok (.bipush 8, 2) := by decide +kernel
theorem d_X0_withNeighbours_22 : decode c_X0_withNeighbours 22 = .ok (.lshl, 1) := by decide +kernel
theorem d_X0_withNeighbours_23 : decode c_X0_withNeighbours 23 = .ok (.lor, 1) := by decide +kernel
theorem d_X0_withNeighbours_24 : decode c_X0_withNeighbours 24 = .ok (.lload_n 2, 1) := by decide +kernel
theorem d_X0_withNeighbours_25 : decode c_X0_withNeighbours 25 = .ok (.bipush 8, 2) := by decide +kernel
theorem d_X0_withNeighbours_27 : decode c_X0_withNeighbours 27 = .ok (.lushr, 1) := by decide +kernel
theorem d_X0_withNeighbours_28 : decode c_X0_withNeighbours 28 = .ok (.lor, 1) := by decide +kernel
theorem d_X0_withNeighbours_29 : decode c_X0_withNeighbours 29 = .ok (.lreturn, 1) := by decide +kernel
theorem d_X0_heldAlong_0 : decode c_X0_heldAlong 0 = .ok (.lload_n 3, 1) := by decide +kernel
theorem d_X0_heldAlong_1 : decode c_X0_heldAlong 1 = .ok (.lstore 7, 2) := by decide +kernel
theorem d_X0_heldAlong_3 : decode c_X0_heldAlong 3 = .ok (.lload 5, 2) := by decide +kernel
theorem d_X0_heldAlong_5 : decode c_X0_heldAlong 5 = .ok (.lstore 9, 2) := by decide +kernel
theorem d_X0_heldAlong_7 : decode c_X0_heldAlong 7 = .ok (.iconst 0, 1) := by decide +kernel
theorem d_X0_heldAlong_8 : decode c_X0_heldAlong 8 = .ok (.istore 11, 2) := by decide +kernel
theorem d_X0_heldAlong_10 : decode c_X0_heldAlong 10 = .ok (.iload 11, 2) := by decide +kernel
theorem d_X0_heldAlong_12 : decode c_X0_heldAlong 12 = .ok (.bipush 7, 2) := by decide +kernel
theorem d_X0_heldAlong_14 : decode c_X0_heldAlong 14 = .ok (.if_icmp .ge 31, 3) := by decide +kernel
theorem d_X0_heldAlong_17 : decode c_X0_heldAlong 17 = .ok (.lload 7, 2) := by decide +kernel
theorem d_X0_heldAlong_19 : decode c_X0_heldAlong 19 = .ok (.lload 7, 2) := by decide +kernel
theorem d_X0_heldAlong_21 : decode c_X0_heldAlong 21 = .ok (.lload_n 0, 1) := by decide +kernel
theorem d_X0_heldAlong_22 : decode c_X0_heldAlong 22 = .ok (.land, 1) := by decide +kernel
theorem d_X0_heldAlong_23 : decode c_X0_heldAlong 23 = .ok (.iload_n 2, 1) := by decide +kernel
theorem d_X0_heldAlong_24 : decode c_X0_heldAlong 24 = .ok (.lushr, 1) := by decide +kernel
theorem d_X0_heldAlong_25 : decode c_X0_heldAlong 25 = .ok (.lor, 1) := by decide +kernel
theorem d_X0_heldAlong_26 : decode c_X0_heldAlong 26 = .ok (.lstore 7, 2) := by decide +kernel
theorem d_X0_heldAlong_28 : decode c_X0_heldAlong 28 = .ok (.lload 9, 2) := by decide +kernel
theorem d_X0_heldAlong_30 : decode c_X0_heldAlong 30 = .ok (.lload 9, 2) := by decide +kernel
theorem d_X0_heldAlong_32 : decode c_X0_heldAlong 32 = .ok (.lload_n 0, 1) := by decide +kernel
theorem d_X0_heldAlong_33 : decode c_X0_heldAlong 33 = .ok (.land, 1) := by decide +kernel
theorem d_X0_heldAlong_34 : decode c_X0_heldAlong 34 = .ok (.iload_n 2, 1) := by decide +kernel
theorem d_X0_heldAlong_35 : decode c_X0_heldAlong 35 = .ok (.lshl, 1) := by decide +kernel
theorem d_X0_heldAlong_36 : decode c_X0_heldAlong 36 = .ok (.lor, 1) := by decide +kernel
theorem d_X0_heldAlong_37 : decode c_X0_heldAlong 37 = .ok (.lstore 9, 2) := by decide +kernel
theorem d_X0_heldAlong_39 : decode c_X0_heldAlong 39 = .ok (.iinc 11 1, 3) := by decide +kernel
theorem d_X0_heldAlong_42 : decode c_X0_heldAlong 42 = .ok (.goto (-32), 3) := by decide +kernel
theorem d_X0_heldAlong_45 : decode c_X0_heldAlong 45 = .ok (.lload 7, 2) := by decide +kernel
theorem d_X0_heldAlong_47 : decode c_X0_heldAlong 47 = .ok (.lload 9, 2) := by decide +kernel
theorem d_X0_heldAlong_49 : decode c_X0_heldAlong 49 = .ok (.lor, 1) := by decide +kernel
theorem d_X0_heldAlong_50 : decode c_X0_heldAlong 50 = .ok (.lreturn, 1) := by decide +kernel
theorem d_JL_bitCount_0 : decode c_JL_bitCount 0 = .ok (.lload_n 0, 1) := by decide +kernel
theorem d_JL_bitCount_1 : decode c_JL_bitCount 1 = .ok (.lload_n 0, 1) := by decide +kernel
theorem d_JL_bitCount_2 : decode c_JL_bitCount 2 = .ok (.iconst 1, 1) := by decide +kernel
theorem d_JL_bitCount_3 : decode c_JL_bitCount 3 = .ok (.lushr, 1) := by decide +kernel
theorem d_JL_bitCount_4 : decode c_JL_bitCount 4 = .ok (.ldc2_w 314, 3) := by decide +kernel
theorem d_JL_bitCount_7 : decode c_JL_bitCount 7 = .ok (.land, 1) := by decide +kernel
theorem d_JL_bitCount_8 : decode c_JL_bitCount 8 = .ok (.lsub, 1) := by decide +kernel
theorem d_JL_bitCount_9 : decode c_JL_bitCount 9 = .ok (.lstore_n 0, 1) := by decide +kernel
theorem d_JL_bitCount_10 : decode c_JL_bitCount 10 = .ok (.lload_n 0, 1) := by decide +kernel
theorem d_JL_bitCount_11 : decode c_JL_bitCount 11 = .ok (.ldc2_w 316, 3) := by decide +kernel
theorem d_JL_bitCount_14 : decode c_JL_bitCount 14 = .ok (.land, 1) := by decide +kernel
theorem d_JL_bitCount_15 : decode c_JL_bitCount 15 = .ok (.lload_n 0, 1) := by decide +kernel
theorem d_JL_bitCount_16 : decode c_JL_bitCount 16 = .ok (.iconst 2, 1) := by decide +kernel
theorem d_JL_bitCount_17 : decode c_JL_bitCount 17 = .ok (.lushr, 1) := by decide +kernel
theorem d_JL_bitCount_18 : decode c_JL_bitCount 18 = .ok (.ldc2_w 316, 3) := by decide +kernel
theorem d_JL_bitCount_21 : decode c_JL_bitCount 21 = .ok (.land, 1) := by decide +kernel
theorem d_JL_bitCount_22 : decode c_JL_bitCount 22 = .ok (.ladd, 1) := by decide +kernel
theorem d_JL_bitCount_23 : decode c_JL_bitCount 23 = .ok (.lstore_n 0, 1) := by decide +kernel
theorem d_JL_bitCount_24 : decode c_JL_bitCount 24 = .ok (.lload_n 0, 1) := by decide +kernel
theorem d_JL_bitCount_25 : decode c_JL_bitCount 25 = .ok (.lload_n 0, 1) := by decide +kernel
theorem d_JL_bitCount_26 : decode c_JL_bitCount 26 = .ok (.iconst 4, 1) := by decide +kernel
theorem d_JL_bitCount_27 : decode c_JL_bitCount 27 = .ok (.lushr, 1) := by decide +kernel
theorem d_JL_bitCount_28 : decode c_JL_bitCount 28 = .ok (.ladd, 1) := by decide +kernel
theorem d_JL_bitCount_29 : decode c_JL_bitCount 29 = .ok (.ldc2_w 318, 3) := by decide +kernel
theorem d_JL_bitCount_32 : decode c_JL_bitCount 32 = .ok (.land, 1) := by decide +kernel
theorem d_JL_bitCount_33 : decode c_JL_bitCount 33 = .ok (.lstore_n 0, 1) := by decide +kernel
theorem d_JL_bitCount_34 : decode c_JL_bitCount 34 = .ok (.lload_n 0, 1) := by decide +kernel
theorem d_JL_bitCount_35 : decode c_JL_bitCount 35 = .ok (.lload_n 0, 1) := by decide +kernel
theorem d_JL_bitCount_36 : decode c_JL_bitCount 36 = .ok (.bipush 8, 2) := by decide +kernel
theorem d_JL_bitCount_38 : decode c_JL_bitCount 38 = .ok (.lushr, 1) := by decide +kernel
theorem d_JL_bitCount_39 : decode c_JL_bitCount 39 = .ok (.ladd, 1) := by decide +kernel
theorem d_JL_bitCount_40 : decode c_JL_bitCount 40 = .ok (.lstore_n 0, 1) := by decide +kernel
theorem d_JL_bitCount_41 : decode c_JL_bitCount 41 = .ok (.lload_n 0, 1) := by decide +kernel
theorem d_JL_bitCount_42 : decode c_JL_bitCount 42 = .ok (.lload_n 0, 1) := by decide +kernel
theorem d_JL_bitCount_43 : decode c_JL_bitCount 43 = .ok (.bipush 16, 2) := by decide +kernel
theorem d_JL_bitCount_45 : decode c_JL_bitCount 45 = .ok (.lushr, 1) := by decide +kernel
theorem d_JL_bitCount_46 : decode c_JL_bitCount 46 = .ok (.ladd, 1) := by decide +kernel
theorem d_JL_bitCount_47 : decode c_JL_bitCount 47 = .ok (.lstore_n 0, 1) := by decide +kernel
theorem d_JL_bitCount_48 : decode c_JL_bitCount 48 = .ok (.lload_n 0, 1) := by decide +kernel
theorem d_JL_bitCount_49 : decode c_JL_bitCount 49 = .ok (.lload_n 0, 1) := by decide +kernel
theorem d_JL_bitCount_50 : decode c_JL_bitCount 50 = .ok (.bipush 32, 2) := by decide +kernel
theorem d_JL_bitCount_52 : decode c_JL_bitCount 52 = .ok (.lushr, 1) := by decide +kernel
theorem d_JL_bitCount_53 : decode c_JL_bitCount 53 = .ok (.ladd, 1) := by decide +kernel
theorem d_JL_bitCount_54 : decode c_JL_bitCount 54 = .ok (.lstore_n 0, 1) := by decide +kernel
theorem d_JL_bitCount_55 : decode c_JL_bitCount 55 = .ok (.lload_n 0, 1) := by decide +kernel
theorem d_JL_bitCount_56 : decode c_JL_bitCount 56 = .ok (.l2i, 1) := by decide +kernel
theorem d_JL_bitCount_57 : decode c_JL_bitCount 57 = .ok (.bipush 127, 2) := by decide +kernel
theorem d_JL_bitCount_59 : decode c_JL_bitCount 59 = .ok (.iand, 1) := by decide +kernel
theorem d_JL_bitCount_60 : decode c_JL_bitCount 60 = .ok (.ireturn, 1) := by decide +kernel
theorem d_JM_max_0 : decode c_JM_max 0 = .ok (.iload_n 0, 1) := by decide +kernel
theorem d_JM_max_1 : decode c_JM_max 1 = .ok (.iload_n 1, 1) := by decide +kernel
theorem d_JM_max_2 : decode c_JM_max 2 = .ok (.if_icmp .lt 7, 3) := by decide +kernel
theorem d_JM_max_5 : decode c_JM_max 5 = .ok (.iload_n 0, 1) := by decide +kernel
theorem d_JM_max_6 : decode c_JM_max 6 = .ok (.goto 4, 3) := by decide +kernel
theorem d_JM_max_9 : decode c_JM_max 9 = .ok (.iload_n 1, 1) := by decide +kernel
theorem d_JM_max_10 : decode c_JM_max 10 = .ok (.ireturn, 1) := by decide +kernel
end
section
theorem d_X1_init_0 : decode c_X1_init 0 = .ok (.aload_n 0, 1) := by decide +kernel
theorem d_X1_init_1 : decode c_X1_init 1 = .ok (.invokespecial 1, 3) := by decide +kernel
theorem d_X1_init_4 : decode c_X1_init 4 = .ok (.aload_n 0, 1) := by decide +kernel
theorem d_X1_init_5 : decode c_X1_init 5 = .ok (.sipush 1216, 3) := by decide +kernel
theorem d_X1_init_8 : decode c_X1_init 8 = .ok (.newarray .int, 2) := by decide +kernel
theorem d_X1_init_10 : decode c_X1_init 10 = .ok (.putfield 7, 3) := by decide +kernel
theorem d_X1_init_13 : decode c_X1_init 13 = .ok (.aload_n 0, 1) := by decide +kernel
theorem d_X1_init_14 : decode c_X1_init 14 = .ok (.bipush 19, 2) := by decide +kernel
theorem d_X1_init_16 : decode c_X1_init 16 = .ok (.newarray .int, 2) := by decide +kernel
theorem d_X1_init_18 : decode c_X1_init 18 = .ok (.putfield 13, 3) := by decide +kernel
theorem d_X1_init_21 : decode c_X1_init 21 = .ok (.aload_n 0, 1) := by decide +kernel
theorem d_X1_init_22 : decode c_X1_init 22 = .ok (.bipush 64, 2) := by decide +kernel
theorem d_X1_init_24 : decode c_X1_init 24 = .ok (.newarray .int, 2) := by decide +kernel
theorem d_X1_init_26 : decode c_X1_init 26 = .ok (.putfield 16, 3) := by decide +kernel
theorem d_X1_init_29 : decode c_X1_init 29 = .ok (.aload_n 0, 1) := by decide +kernel
theorem d_X1_init_30 : decode c_X1_init 30 = .ok (.bipush 64, 2) := by decide +kernel
theorem d_X1_init_32 : decode c_X1_init 32 = .ok (.newarray .long, 2) := by decide +kernel
theorem d_X1_init_34 : decode c_X1_init 34 = .ok (.putfield 19, 3) := by decide +kernel
theorem d_X1_init_37 : decode c_X1_init 37 = .ok (.aload_n 0, 1) := by decide +kernel
theorem d_X1_init_38 : decode c_X1_init 38 = .ok (.bipush 19, 2) := by decide +kernel
theorem d_X1_init_40 : decode c_X1_init 40 = .ok (.newarray .int, 2) := by decide +kernel
theorem d_X1_init_42 : decode c_X1_init 42 = .ok (.putfield 23, 3) := by decide +kernel
theorem d_X1_init_45 : decode c_X1_init 45 = .ok (.aload_n 0, 1) := by decide +kernel
theorem d_X1_init_46 : decode c_X1_init 46 = .ok (.bipush 19, 2) := by decide +kernel
theorem d_X1_init_48 : decode c_X1_init 48 = .ok (.newarray .boolean, 2) := by decide +kernel
theorem d_X1_init_50 : decode c_X1_init 50 = .ok (.putfield 26, 3) := by decide +kernel
theorem d_X1_init_53 : decode c_X1_init 53 = .ok (.aload_n 0, 1) := by decide +kernel
theorem d_X1_init_54 : decode c_X1_init 54 = .ok (.bipush 19, 2) := by decide +kernel
theorem d_X1_init_56 : decode c_X1_init 56 = .ok (.newarray .int, 2) := by decide +kernel
theorem d_X1_init_58 : decode c_X1_init 58 = .ok (.putfield 30, 3) := by decide +kernel
theorem d_X1_init_61 : decode c_X1_init 61 = .ok (.aload_n 0, 1) := by decide +kernel
theorem d_X1_init_62 : decode c_X1_init 62 = .ok (.bipush 19, 2) := by decide +kernel
theorem d_X1_init_64 : decode c_X1_init 64 = .ok (.newarray .int, 2) := by decide +kernel
theorem d_X1_init_66 : decode c_X1_init 66 = .ok (.putfield 33, 3) := by decide +kernel
theorem d_X1_init_69 : decode c_X1_init 69 = .ok (.aload_n 0, 1) := by decide +kernel
theorem d_X1_init_70 : decode c_X1_init 70 = .ok (.bipush 64, 2) := by decide +kernel
theorem d_X1_init_72 : decode c_X1_init 72 = .ok (.newarray .int, 2) := by decide +kernel
theorem d_X1_init_74 : decode c_X1_init 74 = .ok (.putfield 36, 3) := by decide +kernel
theorem d_X1_init_77 : decode c_X1_init 77 = .ok (.aload_n 0, 1) := by decide +kernel
theorem d_X1_init_78 : decode c_X1_init 78 = .ok (.bipush 64, 2) := by decide +kernel
theorem d_X1_init_80 : decode c_X1_init 80 = .ok (.newarray .int, 2) := by decide +kernel
theorem d_X1_init_82 : decode c_X1_init 82 = .ok (.putfield 39, 3) := by decide +kernel
theorem d_X1_init_85 : decode c_X1_init 85 = .ok (.aload_n 0, 1) := by decide +kernel
theorem d_X1_init_86 : decode c_X1_init 86 = .ok (.invokevirtual 42, 3) := by decide +kernel
theorem d_X1_init_89 : decode c_X1_init 89 = .ok (.return_, 1) := by decide +kernel
theorem d_X1_thrown_0 : decode c_X1_thrown 0 = .ok (.aload_n 0, 1) := by decide +kernel
theorem d_X1_thrown_1 : decode c_X1_thrown 1 = .ok (.getfield 45, 3) := by decide +kernel
theorem d_X1_thrown_4 : decode c_X1_thrown 4 = .ok (.ireturn, 1) := by decide +kernel
theorem d_X1_lay_0 : decode c_X1_lay 0 = .ok (.iconst 0, 1) := by decide +kernel
theorem d_X1_lay_1 : decode c_X1_lay 1 = .ok (.istore_n 1, 1) := by decide +kernel
theorem d_X1_lay_2 : decode c_X1_lay 2 = .ok (.iload_n 1, 1) := by decide +kernel
theorem d_X1_lay_3 : decode c_X1_lay 3 = .ok (.bipush 64, 2) := by decide +kernel
theorem d_X1_lay_5 : decode c_X1_lay 5 = .ok (.if_icmp .ge 16, 3) := by decide +kernel
theorem d_X1_lay_8 : decode c_X1_lay 8 = .ok (.aload_n 0, 1) := by decide +kernel
theorem d_X1_lay_9 : decode c_X1_lay 9 = .ok (.getfield 7, 3) := by decide +kernel
theorem d_X1_lay_12 : decode c_X1_lay 12 = .ok (.iload_n 1, 1) := by decide +kernel
theorem d_X1_lay_13 : decode c_X1_lay 13 = .ok (.iconst 0, 1) := by decide +kernel
theorem d_X1_lay_14 : decode c_X1_lay 14 = .ok (.iastore, 1) := by decide +kernel
theorem d_X1_lay_15 : decode c_X1_lay 15 = .ok (.iinc 1 1, 3) := by decide +kernel
theorem d_X1_lay_18 : decode c_X1_lay 18 = .ok (.goto (-16), 3) := by decide +kernel
theorem d_X1_lay_21 : decode c_X1_lay 21 = .ok (.aload_n 0, 1) := by decide +kernel
theorem d_X1_lay_22 : decode c_X1_lay 22 = .ok (.getfield 7, 3) := by decide +kernel
theorem d_X1_lay_25 : decode c_X1_lay 25 = .ok (.bipush 28, 2) := by decide +kernel
theorem d_X1_lay_27 : decode c_X1_lay 27 = .ok (.iconst 1, 1) := by decide +kernel
theorem d_X1_lay_28 : decode c_X1_lay 28 = .ok (.iastore, 1) := by decide +kernel
theorem d_X1_lay_29 : decode c_X1_lay 29 = .ok (.aload_n 0, 1) := by decide +kernel
theorem d_X1_lay_30 : decode c_X1_lay 30 = .ok (.getfield 7, 3) := by decide +kernel
theorem d_X1_lay_33 : decode c_X1_lay 33 = .ok (.bipush 35, 2) := by decide +kernel
theorem d_X1_lay_35 : decode c_X1_lay 35 = .ok (.iconst 1, 1) := by decide +kernel
theorem d_X1_lay_36 : decode c_X1_lay 36 = .ok (.iastore, 1) := by decide +kernel
theorem d_X1_lay_37 : decode c_X1_lay 37 = .ok (.aload_n 0, 1) := by decide +kernel
theorem d_X1_lay_38 : decode c_X1_lay 38 = .ok (.getfield 7, 3) := by decide +kernel
theorem d_X1_lay_41 : decode c_X1_lay 41 = .ok (.bipush 27, 2) := by decide +kernel
theorem d_X1_lay_43 : decode c_X1_lay 43 = .ok (.iconst 2, 1) := by decide +kernel
theorem d_X1_lay_44 : decode c_X1_lay 44 = .ok (.iastore, 1) := by decide +kernel
theorem d_X1_lay_45 : decode c_X1_lay 45 = .ok (.aload_n 0, 1) := by decide +kernel
theorem d_X1_lay_46 : decode c_X1_lay 46 = .ok (.getfield 7, 3) := by decide +kernel
theorem d_X1_lay_49 : decode c_X1_lay 49 = .ok (.bipush 36, 2) := by decide +kernel
theorem d_X1_lay_51 : decode c_X1_lay 51 = .ok (.iconst 2, 1) := by decide +kernel
theorem d_X1_lay_52 : decode c_X1_lay 52 = .ok (.iastore, 1) := by decide +kernel
theorem d_X1_lay_53 : decode c_X1_lay 53 = .ok (.aload_n 0, 1) := by decide +kernel
theorem d_X1_lay_54 : decode c_X1_lay 54 = .ok (.getfield 13, 3) := by decide +kernel
theorem d_X1_lay_57 : decode c_X1_lay 57 = .ok (.iconst 0, 1) := by decide +kernel
theorem d_X1_lay_58 : decode c_X1_lay 58 = .ok (.iconst 0, 1) := by decide +kernel
theorem d_X1_lay_59 : decode c_X1_lay 59 = .ok (.iastore, 1) := by decide +kernel
theorem d_X1_lay_60 : decode c_X1_lay 60 = .ok (.aload_n 0, 1) := by decide +kernel
theorem d_X1_lay_61 : decode c_X1_lay 61 = .ok (.iconst 0, 1) := by decide +kernel
theorem d_X1_lay_62 : decode c_X1_lay 62 = .ok (.putfield 49, 3) := by decide +kernel
theorem d_X1_lay_65 : decode c_X1_lay 65 = .ok (.return_, 1) := by decide +kernel
theorem d_X1_begin_0 : decode c_X1_begin 0 = .ok (.aload_n 0, 1) := by decide +kernel
theorem d_X1_begin_1 : decode c_X1_begin 1 = .ok (.iconst 0, 1) := by decide +kernel
theorem d_X1_begin_2 : decode c_X1_begin 2 = .ok (.putfield 45, 3) := by decide +kernel
theorem d_X1_begin_5 : decode c_X1_begin 5 = .ok (.aload_n 0, 1) := by decide +kernel
theorem d_X1_begin_6 : decode c_X1_begin 6 = .ok (.invokevirtual 42, 3) := by decide +kernel
theorem d_X1_begin_9 : decode c_X1_begin 9 = .ok (.return_, 1) := by decide +kernel
theorem d_X1_set_0 : decode c_X1_set 0 = .ok (.aload_n 0, 1) := by decide +kernel
theorem d_X1_set_1 : decode c_X1_set 1 = .ok (.lload_n 1, 1) := by decide +kernel
theorem d_X1_set_2 : decode c_X1_set 2 = .ok (.lload_n 3, 1) := by decide +kernel
theorem d_X1_set_3 : decode c_X1_set 3 = .ok (.land, 1) := by decide +kernel
theorem d_X1_set_4 : decode c_X1_set 4 = .ok (.lconst 0, 1) := by decide +kernel
theorem d_X1_set_5 : decode c_X1_set 5 = .ok (.lcmp, 1) := by decide +kernel
theorem d_X1_set_6 : decode c_X1_set 6 = .ok (.ifCond .ne 14, 3) := by decide +kernel
theorem d_X1_set_9 : decode c_X1_set 9 = .ok (.iload 5, 2) := by decide +kernel
theorem d_X1_set_11 : decode c_X1_set 11 = .ok (.ifCond .lt 9, 3) := by decide +kernel
theorem d_X1_set_14 : decode c_X1_set 14 = .ok (.iload 5, 2) := by decide +kernel
theorem d_X1_set_16 : decode c_X1_set 16 = .ok (.iconst 1, 1) := by decide +kernel
theorem d_X1_set_17 : decode c_X1_set 17 = .ok (.if_icmp .le 7, 3) := by decide +kernel
theorem d_X1_set_20 : decode c_X1_set 20 = .ok (.iconst 1, 1) := by decide +kernel
theorem d_X1_set_21 : decode c_X1_set 21 = .ok (.goto 4, 3) := by decide +kernel
theorem d_X1_set_24 : decode c_X1_set 24 = .ok (.iconst 0, 1) := by decide +kernel
theorem d_X1_set_25 : decode c_X1_set 25 = .ok (.putfield 45, 3) := by decide +kernel
theorem d_X1_set_28 : decode c_X1_set 28 = .ok (.aload_n 0, 1) := by decide +kernel
theorem d_X1_set_29 : decode c_X1_set 29 = .ok (.getfield 45, 3) := by decide +kernel
theorem d_X1_set_32 : decode c_X1_set 32 = .ok (.ifCond .le 4, 3) := by decide +kernel
theorem d_X1_set_35 : decode c_X1_set 35 = .ok (.return_, 1) := by decide +kernel
theorem d_X1_set_36 : decode c_X1_set 36 = .ok (.iconst 0, 1) := by decide +kernel
theorem d_X1_set_37 : decode c_X1_set 37 = .ok (.istore 6, 2) := by decide +kernel
theorem d_X1_set_39 : decode c_X1_set 39 = .ok (.iload 6, 2) := by decide +kernel
theorem d_X1_set_41 : decode c_X1_set 41 = .ok (.bipush 64, 2) := by decide +kernel
theorem d_X1_set_43 : decode c_X1_set 43 = .ok (.if_icmp .ge 47, 3) := by decide +kernel
theorem d_X1_set_46 : decode c_X1_set 46 = .ok (.aload_n 0, 1) := by decide +kernel
theorem d_X1_set_47 : decode c_X1_set 47 = .ok (.getfield 7, 3) := by decide +kernel
theorem d_X1_set_50 : decode c_X1_set 50 = .ok (.iload 6, 2) := by decide +kernel
theorem d_X1_set_52 : decode c_X1_set 52 = .ok (.lload_n 1, 1) := by decide +kernel
theorem d_X1_set_53 : decode c_X1_set 53 = .ok (.iload 6, 2) := by decide +kernel
theorem d_X1_set_55 : decode c_X1_set 55 = .ok (.lshr, 1) := by decide +kernel
theorem d_X1_set_56 : decode c_X1_set 56 = .ok (.lconst 1, 1) := by decide +kernel
theorem d_X1_set_57 : decode c_X1_set 57 = .ok (.land, 1) := by decide +kernel
theorem d_X1_set_58 : decode c_X1_set 58 = .ok (.lconst 1, 1) := by decide +kernel
theorem d_X1_set_59 : decode c_X1_set 59 = .ok (.lcmp, 1) := by decide +kernel
theorem d_X1_set_60 : decode c_X1_set 60 = .ok (.ifCond .ne 7, 3) := by decide +kernel
theorem d_X1_set_63 : decode c_X1_set 63 = .ok (.iconst 1, 1) := by decide +kernel
theorem d_X1_set_64 : decode c_X1_set 64 = .ok (.goto 19, 3) := by decide +kernel
theorem d_X1_set_67 : decode c_X1_set 67 = .ok (.lload_n 3, 1) := by decide +kernel
theorem d_X1_set_68 : decode c_X1_set 68 = .ok (.iload 6, 2) := by decide +kernel
theorem d_X1_set_70 : decode c_X1_set 70 = .ok (.lshr, 1) := by decide +kernel
theorem d_X1_set_71 : decode c_X1_set 71 = .ok (.lconst 1, 1) := by decide +kernel
theorem d_X1_set_72 : decode c_X1_set 72 = .ok (.land, 1) := by decide +kernel
theorem d_X1_set_73 : decode c_X1_set 73 = .ok (.lconst 1, 1) := by decide +kernel
theorem d_X1_set_74 : decode c_X1_set 74 = .ok (.lcmp, 1) := by decide +kernel
theorem d_X1_set_75 : decode c_X1_set 75 = .ok (.ifCond .ne 7, 3) := by decide +kernel
theorem d_X1_set_78 : decode c_X1_set 78 = .ok (.iconst 2, 1) := by decide +kernel
theorem d_X1_set_79 : decode c_X1_set 79 = .ok (.goto 4, 3) := by decide +kernel
theorem d_X1_set_82 : decode c_X1_set 82 = .ok (.iconst 0, 1) := by decide +kernel
theorem d_X1_set_83 : decode c_X1_set 83 = .ok (.iastore, 1) := by decide +kernel
theorem d_X1_set_84 : decode c_X1_set 84 = .ok (.iinc 6 1, 3) := by decide +kernel
theorem d_X1_set_87 : decode c_X1_set 87 = .ok (.goto (-48), 3) := by decide +kernel
theorem d_X1_set_90 : decode c_X1_set 90 = .ok (.aload_n 0, 1) := by decide +kernel
theorem d_X1_set_91 : decode c_X1_set 91 = .ok (.getfield 13, 3) := by decide +kernel
theorem d_X1_set_94 : decode c_X1_set 94 = .ok (.iconst 0, 1) := by decide +kernel
theorem d_X1_set_95 : decode c_X1_set 95 = .ok (.iload 5, 2) := by decide +kernel
theorem d_X1_set_97 : decode c_X1_set 97 = .ok (.iastore, 1) := by decide +kernel
theorem d_X1_set_98 : decode c_X1_set 98 = .ok (.aload_n 0, 1) := by decide +kernel
theorem d_X1_set_99 : decode c_X1_set 99 = .ok (.iconst 0, 1) := by decide +kernel
theorem d_X1_set_100 : decode c_X1_set 100 = .ok (.putfield 49, 3) := by decide +kernel
theorem d_X1_set_103 : decode c_X1_set 103 = .ok (.return_, 1) := by decide +kernel
theorem d_X1_isOn_0 : decode c_X1_isOn 0 = .ok (.iload_n 0, 1) := by decide +kernel
theorem d_X1_isOn_1 : decode c_X1_isOn 1 = .ok (.ifCond .lt 23, 3) := by decide +kernel
theorem d_X1_isOn_4 : decode c_X1_isOn 4 = .ok (.iload_n 0, 1) := by decide +kernel
theorem d_X1_isOn_5 : decode c_X1_isOn 5 = .ok (.bipush 8, 2) := by decide +kernel
theorem d_X1_isOn_7 : decode c_X1_isOn 7 = .ok (.if_icmp .ge 17, 3) := by decide +kernel
theorem d_X1_isOn_10 : decode c_X1_isOn 10 = .ok (.iload_n 1, 1) := by decide +kernel
theorem d_X1_isOn_11 : decode c_X1_isOn 11 = .ok (.ifCond .lt 13, 3) := by decide +kernel
theorem d_X1_isOn_14 : decode c_X1_isOn 14 = .ok (.iload_n 1, 1) := by decide +kernel
theorem d_X1_isOn_15 : decode c_X1_isOn 15 = .ok (.bipush 8, 2) := by decide +kernel
theorem d_X1_isOn_17 : decode c_X1_isOn 17 = .ok (.if_icmp .ge 7, 3) := by decide +kernel
theorem d_X1_isOn_20 : decode c_X1_isOn 20 = .ok (.iconst 1, 1) := by decide +kernel
theorem d_X1_isOn_21 : decode c_X1_isOn 21 = .ok (.goto 4, 3) := by decide +kernel
theorem d_X1_isOn_24 : decode c_X1_isOn 24 = .ok (.iconst 0, 1) := by decide +kernel
theorem d_X1_isOn_25 : decode c_X1_isOn 25 = .ok (.ireturn, 1) := by decide +kernel
theorem d_X1_cellOf_0 : decode c_X1_cellOf 0 = .ok (.aload_n 0, 1) := by decide +kernel
theorem d_X1_cellOf_1 : decode c_X1_cellOf 1 = .ok (.getfield 7, 3) := by decide +kernel
theorem d_X1_cellOf_4 : decode c_X1_cellOf 4 = .ok (.bipush 64, 2) := by decide +kernel
theorem d_X1_cellOf_6 : decode c_X1_cellOf 6 = .ok (.iload_n 1, 1) := by decide +kernel
theorem d_X1_cellOf_7 : decode c_X1_cellOf 7 = .ok (.imul, 1) := by decide +kernel
theorem d_X1_cellOf_8 : decode c_X1_cellOf 8 = .ok (.bipush 8, 2) := by decide +kernel
theorem d_X1_cellOf_10 : decode c_X1_cellOf 10 = .ok (.iload_n 2, 1) := by decide +kernel
theorem d_X1_cellOf_11 : decode c_X1_cellOf 11 = .ok (.imul, 1) := by decide +kernel
theorem d_X1_cellOf_12 : decode c_X1_cellOf 12 = .ok (.iadd, 1) := by decide +kernel
theorem d_X1_cellOf_13 : decode c_X1_cellOf 13 = .ok (.iload_n 3, 1) := by decide +kernel
theorem d_X1_cellOf_14 : decode c_X1_cellOf 14 = .ok (.iadd, 1) := by decide +kernel
theorem d_X1_cellOf_15 : decode c_X1_cellOf 15 = .ok (.iaload, 1) := by decide +kernel
theorem d_X1_cellOf_16 : decode c_X1_cellOf 16 = .ok (.ireturn, 1) := by decide +kernel
theorem d_X1_rowWay_0 : decode c_X1_rowWay 0 = .ok (.iload_n 0, 1) := by decide +kernel
theorem d_X1_rowWay_1 : decode c_X1_rowWay 1 = .ok (.iconst 3, 1) := by decide +kernel
theorem d_X1_rowWay_2 : decode c_X1_rowWay 2 = .ok (.if_icmp .ge 7, 3) := by decide +kernel
theorem d_X1_rowWay_5 : decode c_X1_rowWay 5 = .ok (.iconst (-1), 1) := by decide +kernel
theorem d_X1_rowWay_6 : decode c_X1_rowWay 6 = .ok (.goto 13, 3) := by decide +kernel
theorem d_X1_rowWay_9 : decode c_X1_rowWay 9 = .ok (.iload_n 0, 1) := by decide +kernel
theorem d_X1_rowWay_10 : decode c_X1_rowWay 10 = .ok (.iconst 5, 1) := by decide +kernel
theorem d_X1_rowWay_11 : decode c_X1_rowWay 11 = .ok (.if_icmp .ge 7, 3) := by decide +kernel
theorem d_X1_rowWay_14 : decode c_X1_rowWay 14 = .ok (.iconst 0, 1) := by decide +kernel
theorem d_X1_rowWay_15 : decode c_X1_rowWay 15 = .ok (.goto 4, 3) := by decide +kernel
theorem d_X1_rowWay_18 : decode c_X1_rowWay 18 = .ok (.iconst 1, 1) := by decide +kernel
theorem d_X1_rowWay_19 : decode c_X1_rowWay 19 = .ok (.ireturn, 1) := by decide +kernel
theorem d_X1_columnWay_0 : decode c_X1_columnWay 0 = .ok (.iload_n 0, 1) := by decide +kernel
theorem d_X1_columnWay_1 : decode c_X1_columnWay 1 = .ok (.ifCond .eq 13, 3) := by decide +kernel
theorem d_X1_columnWay_4 : decode c_X1_columnWay 4 = .ok (.iload_n 0, 1) := by decide +kernel
theorem d_X1_columnWay_5 : decode c_X1_columnWay 5 = .ok (.iconst 3, 1) := by decide +kernel
theorem d_X1_columnWay_6 : decode c_X1_columnWay 6 = .ok (.if_icmp .eq 8, 3) := by decide +kernel
theorem d_X1_columnWay_9 : decode c_X1_columnWay 9 = .ok (.iload_n 0, 1) := by decide +kernel
theorem d_X1_columnWay_10 : decode c_X1_columnWay 10 = .ok (.iconst 5, 1) := by decide +kernel
theorem d_X1_columnWay_11 : decode c_X1_columnWay 11 = .ok (.if_icmp .ne 7, 3) := by decide +kernel
theorem d_X1_columnWay_14 : decode c_X1_columnWay 14 = .ok (.iconst (-1), 1) := by decide +kernel
theorem d_X1_columnWay_15 : decode c_X1_columnWay 15 = .ok (.goto 19, 3) := by decide +kernel
theorem d_X1_columnWay_18 : decode c_X1_columnWay 18 = .ok (.iload_n 0, 1) := by decide +kernel
theorem d_X1_columnWay_19 : decode c_X1_columnWay 19 = .ok (.iconst 1, 1) := by decide +kernel
theorem d_X1_columnWay_20 : decode c_X1_columnWay 20 = .ok (.if_icmp .eq 9, 3) := by decide +kernel
theorem d_X1_columnWay_23 : decode c_X1_columnWay 23 = .ok (.iload_n 0, 1) := by decide +kernel
theorem d_X1_columnWay_24 : decode c_X1_columnWay 24 = .ok (.bipush 6, 2) := by decide +kernel
theorem d_X1_columnWay_26 : decode c_X1_columnWay 26 = .ok (.if_icmp .ne 7, 3) := by decide +kernel
theorem d_X1_columnWay_29 : decode c_X1_columnWay 29 = .ok (.iconst 0, 1) := by decide +kernel
theorem d_X1_columnWay_30 : decode c_X1_columnWay 30 = .ok (.goto 4, 3) := by decide +kernel
theorem d_X1_columnWay_33 : decode c_X1_columnWay 33 = .ok (.iconst 1, 1) := by decide +kernel
theorem d_X1_columnWay_34 : decode c_X1_columnWay 34 = .ok (.ireturn, 1) := by decide +kernel
theorem d_X1_along_0 : decode c_X1_along 0 = .ok (.iload_n 2, 1) := by decide +kernel
theorem d_X1_along_1 : decode c_X1_along 1 = .ok (.bipush 8, 2) := by decide +kernel
theorem d_X1_along_3 : decode c_X1_along 3 = .ok (.idiv, 1) := by decide +kernel
theorem d_X1_along_4 : decode c_X1_along 4 = .ok (.iload_n 3, 1) := by decide +kernel
theorem d_X1_along_5 : decode c_X1_along 5 = .ok (.invokestatic 52, 3) := by decide +kernel
theorem d_X1_along_8 : decode c_X1_along 8 = .ok (.iadd, 1) := by decide +kernel
theorem d_X1_along_9 : decode c_X1_along 9 = .ok (.istore 5, 2) := by decide +kernel
theorem d_X1_along_11 : decode c_X1_along 11 = .ok (.iload_n 2, 1) := by decide +kernel
theorem d_X1_along_12 : decode c_X1_along 12 = .ok (.bipush 8, 2) := by decide +kernel
theorem d_X1_along_14 : decode c_X1_along 14 = .ok (.irem, 1) := by decide +kernel
theorem d_X1_along_15 : decode c_X1_along 15 = .ok (.iload_n 3, 1) := by decide +kernel
theorem d_X1_along_16 : decode c_X1_along 16 = .ok (.invokestatic 56, 3) := by decide +kernel
theorem d_X1_along_19 : decode c_X1_along 19 = .ok (.iadd, 1) := by decide +kernel
theorem d_X1_along_20 : decode c_X1_along 20 = .ok (.istore 6, 2) := by decide +kernel
theorem d_X1_along_22 : decode c_X1_along 22 = .ok (.iconst 0, 1) := by decide +kernel
theorem d_X1_along_23 : decode c_X1_along 23 = .ok (.istore 7, 2) := by decide +kernel
theorem d_X1_along_25 : decode c_X1_along 25 = .ok (.iload 5, 2) := by decide +kernel
theorem d_X1_along_27 : decode c_X1_along 27 = .ok (.iload 6, 2) := by decide +kernel
theorem d_X1_along_29 : decode c_X1_along 29 = .ok (.invokestatic 59, 3) := by decide +kernel
theorem d_X1_along_32 : decode c_X1_along 32 = .ok (.ifCond .eq 43, 3) := by decide +kernel
theorem d_X1_along_35 : decode c_X1_along 35 = .ok (.aload_n 0, 1) := by decide +kernel
theorem d_X1_along_36 : decode c_X1_along 36 = .ok (.iload_n 1, 1) := by decide +kernel
theorem d_X1_along_37 : decode c_X1_along 37 = .ok (.iload 5, 2) := by decide +kernel
theorem d_X1_along_39 : decode c_X1_along 39 = .ok (.iload 6, 2) := by decide +kernel
theorem d_X1_along_41 : decode c_X1_along 41 = .ok (.invokevirtual 63, 3) := by decide +kernel
theorem d_X1_along_44 : decode c_X1_along 44 = .ok (.iconst 2, 1) := by decide +kernel
theorem d_X1_along_45 : decode c_X1_along 45 = .ok (.iload 4, 2) := by decide +kernel
theorem d_X1_along_47 : decode c_X1_along 47 = .ok (.isub, 1) := by decide +kernel
theorem d_X1_along_48 : decode c_X1_along 48 = .ok (.if_icmp .ne 27, 3) := by decide +kernel
theorem d_X1_along_51 : decode c_X1_along 51 = .ok (.iinc 7 1, 3) := by decide +kernel
theorem d_X1_along_54 : decode c_X1_along 54 = .ok (.iload 5, 2) := by decide +kernel
theorem d_X1_along_56 : decode c_X1_along 56 = .ok (.iload_n 3, 1) := by decide +kernel
theorem d_X1_along_57 : decode c_X1_along 57 = .ok (.invokestatic 52, 3) := by decide +kernel
theorem d_X1_along_60 : decode c_X1_along 60 = .ok (.iadd, 1) := by decide +kernel
theorem d_X1_along_61 : decode c_X1_along 61 = .ok (.istore 5, 2) := by decide +kernel
theorem d_X1_along_63 : decode c_X1_along 63 = .ok (.iload 6, 2) := by decide +kernel
theorem d_X1_along_65 : decode c_X1_along 65 = .ok (.iload_n 3, 1) := by decide +kernel
theorem d_X1_along_66 : decode c_X1_along 66 = .ok (.invokestatic 56, 3) := by decide +kernel
theorem d_X1_along_69 : decode c_X1_along 69 = .ok (.iadd, 1) := by decide +kernel
theorem d_X1_along_70 : decode c_X1_along 70 = .ok (.istore 6, 2) := by decide +kernel
theorem d_X1_along_72 : decode c_X1_along 72 = .ok (.goto (-47), 3) := by decide +kernel
theorem d_X1_along_75 : decode c_X1_along 75 = .ok (.iload 5, 2) := by decide +kernel
theorem d_X1_along_77 : decode c_X1_along 77 = .ok (.iload 6, 2) := by decide +kernel
theorem d_X1_along_79 : decode c_X1_along 79 = .ok (.invokestatic 59, 3) := by decide +kernel
theorem d_X1_along_82 : decode c_X1_along 82 = .ok (.ifCond .eq 24, 3) := by decide +kernel
theorem d_X1_along_85 : decode c_X1_along 85 = .ok (.aload_n 0, 1) := by decide +kernel
theorem d_X1_along_86 : decode c_X1_along 86 = .ok (.iload_n 1, 1) := by decide +kernel
theorem d_X1_along_87 : decode c_X1_along 87 = .ok (.iload 5, 2) := by decide +kernel
theorem d_X1_along_89 : decode c_X1_along 89 = .ok (.iload 6, 2) := by decide +kernel
theorem d_X1_along_91 : decode c_X1_along 91 = .ok (.invokevirtual 63, 3) := by decide +kernel
theorem d_X1_along_94 : decode c_X1_along 94 = .ok (.iload 4, 2) := by decide +kernel
theorem d_X1_along_96 : decode c_X1_along 96 = .ok (.iconst 1, 1) := by decide +kernel
theorem d_X1_along_97 : decode c_X1_along 97 = .ok (.iadd, 1) := by decide +kernel
theorem d_X1_along_98 : decode c_X1_along 98 = .ok (.if_icmp .ne 8, 3) := by decide +kernel
theorem d_X1_along_101 : decode c_X1_along 101 = .ok (.iload 7, 2) := by decide +kernel
theorem d_X1_along_103 : decode c_X1_along 103 = .ok (.goto 4, 3) := by decide +kernel
theorem d_X1_along_106 : decode c_X1_along 106 = .ok (.iconst 0, 1) := by decide +kernel
theorem d_X1_along_107 : decode c_X1_along 107 = .ok (.ireturn, 1) := by decide +kernel
theorem d_X1_flipsAt_0 : decode c_X1_flipsAt 0 = .ok (.lconst 0, 1) := by decide +kernel
theorem d_X1_flipsAt_1 : decode c_X1_flipsAt 1 = .ok (.lstore 4, 2) := by decide +kernel
theorem d_X1_flipsAt_3 : decode c_X1_flipsAt 3 = .ok (.iconst 0, 1) := by decide +kernel
theorem d_X1_flipsAt_4 : decode c_X1_flipsAt 4 = .ok (.istore 6, 2) := by decide +kernel
theorem d_X1_flipsAt_6 : decode c_X1_flipsAt 6 = .ok (.iload 6, 2) := by decide +kernel
theorem d_X1_flipsAt_8 : decode c_X1_flipsAt 8 = .ok (.bipush 8, 2) := by decide +kernel
theorem d_X1_flipsAt_10 : decode c_X1_flipsAt 10 = .ok (.if_icmp .ge 80, 3) := by decide +kernel
theorem d_X1_flipsAt_13 : decode c_X1_flipsAt 13 = .ok (.aload_n 0, 1) := by decide +kernel
theorem d_X1_flipsAt_14 : decode c_X1_flipsAt 14 = .ok (.getfield 7, 3) := by decide +kernel
theorem d_X1_flipsAt_17 : decode c_X1_flipsAt 17 = .ok (.bipush 64, 2) := by decide +kernel
theorem d_X1_flipsAt_19 : decode c_X1_flipsAt 19 = .ok (.iload_n 1, 1) := by decide +kernel
theorem d_X1_flipsAt_20 : decode c_X1_flipsAt 20 = .ok (.imul, 1) := by decide +kernel
theorem d_X1_flipsAt_21 : decode c_X1_flipsAt 21 = .ok (.iload_n 2, 1) := by decide +kernel
theorem d_X1_flipsAt_22 : decode c_X1_flipsAt 22 = .ok (.iadd, 1) := by decide +kernel
theorem d_X1_flipsAt_23 : decode c_X1_flipsAt 23 = .ok (.iaload, 1) := by decide +kernel
theorem d_X1_flipsAt_24 : decode c_X1_flipsAt 24 = .ok (.ifCond .ne 66, 3) := by decide +kernel
theorem d_X1_flipsAt_27 : decode c_X1_flipsAt 27 = .ok (.aload_n 0, 1) := by decide +kernel
theorem d_X1_flipsAt_28 : decode c_X1_flipsAt 28 = .ok (.iload_n 1, 1) := by decide +kernel
theorem d_X1_flipsAt_29 : decode c_X1_flipsAt 29 = .ok (.iload_n 2, 1) := by decide +kernel
theorem d_X1_flipsAt_30 : decode c_X1_flipsAt 30 = .ok (.iload 6, 2) := by decide +kernel
theorem d_X1_flipsAt_32 : decode c_X1_flipsAt 32 = .ok (.iload_n 3, 1) := by decide +kernel
theorem d_X1_flipsAt_33 : decode c_X1_flipsAt 33 = .ok (.invokevirtual 67, 3) := by decide +kernel
theorem d_X1_flipsAt_36 : decode c_X1_flipsAt 36 = .ok (.istore 7, 2) := by decide +kernel
theorem d_X1_flipsAt_38 : decode c_X1_flipsAt 38 = .ok (.bipush 8, 2) := by decide +kernel
theorem d_X1_flipsAt_40 : decode c_X1_flipsAt 40 = .ok (.iload 6, 2) := by decide +kernel
theorem d_X1_flipsAt_42 : decode c_X1_flipsAt 42 = .ok (.invokestatic 52, 3) := by decide +kernel
theorem d_X1_flipsAt_45 : decode c_X1_flipsAt 45 = .ok (.imul, 1) := by decide +kernel
theorem d_X1_flipsAt_46 : decode c_X1_flipsAt 46 = .ok (.iload 6, 2) := by decide +kernel
theorem d_X1_flipsAt_48 : decode c_X1_flipsAt 48 = .ok (.invokestatic 56, 3) := by decide +kernel
theorem d_X1_flipsAt_51 : decode c_X1_flipsAt 51 = .ok (.iadd, 1) := by decide +kernel
theorem d_X1_flipsAt_52 : decode c_X1_flipsAt 52 = .ok (.istore 8, 2) := by decide +kernel
theorem d_X1_flipsAt_54 : decode c_X1_flipsAt 54 = .ok (.iconst 1, 1) := by decide +kernel
theorem d_X1_flipsAt_55 : decode c_X1_flipsAt 55 = .ok (.istore 9, 2) := by decide +kernel
theorem d_X1_flipsAt_57 : decode c_X1_flipsAt 57 = .ok (.iload 9, 2) := by decide +kernel
theorem d_X1_flipsAt_59 : decode c_X1_flipsAt 59 = .ok (.iload 7, 2) := by decide +kernel
theorem d_X1_flipsAt_61 : decode c_X1_flipsAt 61 = .ok (.if_icmp .gt 23, 3) := by decide +kernel
theorem d_X1_flipsAt_64 : decode c_X1_flipsAt 64 = .ok (.lload 4, 2) := by decide +kernel
theorem d_X1_flipsAt_66 : decode c_X1_flipsAt 66 = .ok (.lconst 1, 1) := by decide +kernel
theorem d_X1_flipsAt_67 : decode c_X1_flipsAt 67 = .ok (.iload_n 2, 1) := by decide +kernel
theorem d_X1_flipsAt_68 : decode c_X1_flipsAt 68 = .ok (.iload 9, 2) := by decide +kernel
theorem d_X1_flipsAt_70 : decode c_X1_flipsAt 70 = .ok (.iload 8, 2) := by decide +kernel
theorem d_X1_flipsAt_72 : decode c_X1_flipsAt 72 = .ok (.imul, 1) := by decide +kernel
theorem d_X1_flipsAt_73 : decode c_X1_flipsAt 73 = .ok (.iadd, 1) := by decide +kernel
theorem d_X1_flipsAt_74 : decode c_X1_flipsAt 74 = .ok (.lshl, 1) := by decide +kernel
theorem d_X1_flipsAt_75 : decode c_X1_flipsAt 75 = .ok (.lor, 1) := by decide +kernel
theorem d_X1_flipsAt_76 : decode c_X1_flipsAt 76 = .ok (.lstore 4, 2) := by decide +kernel
theorem d_X1_flipsAt_78 : decode c_X1_flipsAt 78 = .ok (.iinc 9 1, 3) := by decide +kernel
theorem d_X1_flipsAt_81 : decode c_X1_flipsAt 81 = .ok (.goto (-24), 3) := by decide +kernel
theorem d_X1_flipsAt_84 : decode c_X1_flipsAt 84 = .ok (.iinc 6 1, 3) := by decide +kernel
theorem d_X1_flipsAt_87 : decode c_X1_flipsAt 87 = .ok (.goto (-81), 3) := by decide +kernel
theorem d_X1_flipsAt_90 : decode c_X1_flipsAt 90 = .ok (.lload 4, 2) := by decide +kernel
theorem d_X1_flipsAt_92 : decode c_X1_flipsAt 92 = .ok (.lreturn, 1) := by decide +kernel
theorem d_X1_movesAt_0 : decode c_X1_movesAt 0 = .ok (.iconst 0, 1) := by decide +kernel
theorem d_X1_movesAt_1 : decode c_X1_movesAt 1 = .ok (.istore_n 3, 1) := by decide +kernel
theorem d_X1_movesAt_2 : decode c_X1_movesAt 2 = .ok (.iconst 0, 1) := by decide +kernel
theorem d_X1_movesAt_3 : decode c_X1_movesAt 3 = .ok (.istore 4, 2) := by decide +kernel
theorem d_X1_movesAt_5 : decode c_X1_movesAt 5 = .ok (.iload 4, 2) := by decide +kernel
theorem d_X1_movesAt_7 : decode c_X1_movesAt 7 = .ok (.bipush 64, 2) := by decide +kernel
theorem d_X1_movesAt_9 : decode c_X1_movesAt 9 = .ok (.if_icmp .ge 30, 3) := by decide +kernel
theorem d_X1_movesAt_12 : decode c_X1_movesAt 12 = .ok (.aload_n 0, 1) := by decide +kernel
theorem d_X1_movesAt_13 : decode c_X1_movesAt 13 = .ok (.iload_n 1, 1) := by decide +kernel
theorem d_X1_movesAt_14 : decode c_X1_movesAt 14 = .ok (.iload 4, 2) := by decide +kernel
theorem d_X1_movesAt_16 : decode c_X1_movesAt 16 = .ok (.iload_n 2, 1) := by decide +kernel
theorem d_X1_movesAt_17 : decode c_X1_movesAt 17 = .ok (.invokevirtual 71, 3) := by decide +kernel
theorem d_X1_movesAt_20 : decode c_X1_movesAt 20 = .ok (.lconst 0, 1) := by decide +kernel
theorem d_X1_movesAt_21 : decode c_X1_movesAt 21 = .ok (.lcmp, 1) := by decide +kernel
theorem d_X1_movesAt_22 : decode c_X1_movesAt 22 = .ok (.ifCond .eq 9, 3) := by decide +kernel
theorem d_X1_movesAt_25 : decode c_X1_movesAt 25 = .ok (.iload_n 3, 1) := by decide +kernel
theorem d_X1_movesAt_26 : decode c_X1_movesAt 26 = .ok (.iconst 1, 1) := by decide +kernel
theorem d_X1_movesAt_27 : decode c_X1_movesAt 27 = .ok (.iadd, 1) := by decide +kernel
theorem d_X1_movesAt_28 : decode c_X1_movesAt 28 = .ok (.goto 4, 3) := by decide +kernel
theorem d_X1_movesAt_31 : decode c_X1_movesAt 31 = .ok (.iload_n 3, 1) := by decide +kernel
theorem d_X1_movesAt_32 : decode c_X1_movesAt 32 = .ok (.istore_n 3, 1) := by decide +kernel
theorem d_X1_movesAt_33 : decode c_X1_movesAt 33 = .ok (.iinc 4 1, 3) := by decide +kernel
theorem d_X1_movesAt_36 : decode c_X1_movesAt 36 = .ok (.goto (-31), 3) := by decide +kernel
theorem d_X1_movesAt_39 : decode c_X1_movesAt 39 = .ok (.iload_n 3, 1) := by decide +kernel
theorem d_X1_movesAt_40 : decode c_X1_movesAt 40 = .ok (.ireturn, 1) := by decide +kernel
theorem d_X1_discsOf_0 : decode c_X1_discsOf 0 = .ok (.iconst 0, 1) := by decide +kernel
theorem d_X1_discsOf_1 : decode c_X1_discsOf 1 = .ok (.istore_n 3, 1) := by decide +kernel
theorem d_X1_discsOf_2 : decode c_X1_discsOf 2 = .ok (.iconst 0, 1) := by decide +kernel
theorem d_X1_discsOf_3 : decode c_X1_discsOf 3 = .ok (.istore 4, 2) := by decide +kernel
theorem d_X1_discsOf_5 : decode c_X1_discsOf 5 = .ok (.iload 4, 2) := by decide +kernel
theorem d_X1_discsOf_7 : decode c_X1_discsOf 7 = .ok (.bipush 64, 2) := by decide +kernel
theorem d_X1_discsOf_9 : decode c_X1_discsOf 9 = .ok (.if_icmp .ge 35, 3) := by decide +kernel
theorem d_X1_discsOf_12 : decode c_X1_discsOf 12 = .ok (.aload_n 0, 1) := by decide +kernel
theorem d_X1_discsOf_13 : decode c_X1_discsOf 13 = .ok (.getfield 7, 3) := by decide +kernel
theorem d_X1_discsOf_16 : decode c_X1_discsOf 16 = .ok (.bipush 64, 2) := by decide +kernel
theorem d_X1_discsOf_18 : decode c_X1_discsOf 18 = .ok (.iload_n 1, 1) := by decide +kernel
theorem d_X1_discsOf_19 : decode c_X1_discsOf 19 = .ok (.imul, 1) := by decide +kernel
theorem d_X1_discsOf_20 : decode c_X1_discsOf 20 = .ok (.iload 4, 2) := by decide +kernel
theorem d_X1_discsOf_22 : decode c_X1_discsOf 22 = .ok (.iadd, 1) := by decide +kernel
theorem d_X1_discsOf_23 : decode c_X1_discsOf 23 = .ok (.iaload, 1) := by decide +kernel
theorem d_X1_discsOf_24 : decode c_X1_discsOf 24 = .ok (.iload_n 2, 1) := by decide +kernel
theorem d_X1_discsOf_25 : decode c_X1_discsOf 25 = .ok (.iconst 1, 1) := by decide +kernel
theorem d_X1_discsOf_26 : decode c_X1_discsOf 26 = .ok (.iadd, 1) := by decide +kernel
theorem d_X1_discsOf_27 : decode c_X1_discsOf 27 = .ok (.if_icmp .ne 9, 3) := by decide +kernel
theorem d_X1_discsOf_30 : decode c_X1_discsOf 30 = .ok (.iload_n 3, 1) := by decide +kernel
theorem d_X1_discsOf_31 : decode c_X1_discsOf 31 = .ok (.iconst 1, 1) := by decide +kernel
theorem d_X1_discsOf_32 : decode c_X1_discsOf 32 = .ok (.iadd, 1) := by decide +kernel
theorem d_X1_discsOf_33 : decode c_X1_discsOf 33 = .ok (.goto 4, 3) := by decide +kernel
theorem d_X1_discsOf_36 : decode c_X1_discsOf 36 = .ok (.iload_n 3, 1) := by decide +kernel
theorem d_X1_discsOf_37 : decode c_X1_discsOf 37 = .ok (.istore_n 3, 1) := by decide +kernel
theorem d_X1_discsOf_38 : decode c_X1_discsOf 38 = .ok (.iinc 4 1, 3) := by decide +kernel
theorem d_X1_discsOf_41 : decode c_X1_discsOf 41 = .ok (.goto (-36), 3) := by decide +kernel
theorem d_X1_discsOf_44 : decode c_X1_discsOf 44 = .ok (.iload_n 3, 1) := by decide +kernel
theorem d_X1_discsOf_45 : decode c_X1_discsOf 45 = .ok (.ireturn, 1) := by decide +kernel
theorem d_X1_ones_0 : decode c_X1_ones 0 = .ok (.iconst 0, 1) := by decide +kernel
theorem d_X1_ones_1 : decode c_X1_ones 1 = .ok (.istore_n 2, 1) := by decide +kernel
theorem d_X1_ones_2 : decode c_X1_ones 2 = .ok (.iconst 0, 1) := by decide +kernel
theorem d_X1_ones_3 : decode c_X1_ones 3 = .ok (.istore_n 3, 1) := by decide +kernel
theorem d_X1_ones_4 : decode c_X1_ones 4 = .ok (.iload_n 3, 1) := by decide +kernel
theorem d_X1_ones_5 : decode c_X1_ones 5 = .ok (.bipush 64, 2) := by decide +kernel
theorem d_X1_ones_7 : decode c_X1_ones 7 = .ok (.if_icmp .ge 27, 3) := by decide +kernel
theorem d_X1_ones_10 : decode c_X1_ones 10 = .ok (.lload_n 0, 1) := by decide +kernel
theorem d_X1_ones_11 : decode c_X1_ones 11 = .ok (.iload_n 3, 1) := by decide +kernel
theorem d_X1_ones_12 : decode c_X1_ones 12 = .ok (.lshr, 1) := by decide +kernel
theorem d_X1_ones_13 : decode c_X1_ones 13 = .ok (.lconst 1, 1) := by decide +kernel
theorem d_X1_ones_14 : decode c_X1_ones 14 = .ok (.land, 1) := by decide +kernel
theorem d_X1_ones_15 : decode c_X1_ones 15 = .ok (.lconst 1, 1) := by decide +kernel
theorem d_X1_ones_16 : decode c_X1_ones 16 = .ok (.lcmp, 1) := by decide +kernel
theorem d_X1_ones_17 : decode c_X1_ones 17 = .ok (.ifCond .ne 9, 3) := by decide +kernel
theorem d_X1_ones_20 : decode c_X1_ones 20 = .ok (.iload_n 2, 1) := by decide +kernel
theorem d_X1_ones_21 : decode c_X1_ones 21 = .ok (.iconst 1, 1) := by decide +kernel
theorem d_X1_ones_22 : decode c_X1_ones 22 = .ok (.iadd, 1) := by decide +kernel
theorem d_X1_ones_23 : decode c_X1_ones 23 = .ok (.goto 4, 3) := by decide +kernel
theorem d_X1_ones_26 : decode c_X1_ones 26 = .ok (.iload_n 2, 1) := by decide +kernel
theorem d_X1_ones_27 : decode c_X1_ones 27 = .ok (.istore_n 2, 1) := by decide +kernel
theorem d_X1_ones_28 : decode c_X1_ones 28 = .ok (.iinc 3 1, 3) := by decide +kernel
theorem d_X1_ones_31 : decode c_X1_ones 31 = .ok (.goto (-27), 3) := by decide +kernel
theorem d_X1_ones_34 : decode c_X1_ones 34 = .ok (.iload_n 2, 1) := by decide +kernel
theorem d_X1_ones_35 : decode c_X1_ones 35 = .ok (.ireturn, 1) := by decide +kernel
theorem d_X1_discs_0 : decode c_X1_discs 0 = .ok (.aload_n 0, 1) := by decide +kernel
theorem d_X1_discs_1 : decode c_X1_discs 1 = .ok (.iload_n 1, 1) := by decide +kernel
theorem d_X1_discs_2 : decode c_X1_discs 2 = .ok (.ifCond .lt 8, 3) := by decide +kernel
theorem d_X1_discs_5 : decode c_X1_discs 5 = .ok (.iload_n 1, 1) := by decide +kernel
theorem d_X1_discs_6 : decode c_X1_discs 6 = .ok (.iconst 1, 1) := by decide +kernel
theorem d_X1_discs_7 : decode c_X1_discs 7 = .ok (.if_icmp .le 7, 3) := by decide +kernel
theorem d_X1_discs_10 : decode c_X1_discs 10 = .ok (.iconst 1, 1) := by decide +kernel
theorem d_X1_discs_11 : decode c_X1_discs 11 = .ok (.goto 4, 3) := by decide +kernel
theorem d_X1_discs_14 : decode c_X1_discs 14 = .ok (.iconst 0, 1) := by decide +kernel
theorem d_X1_discs_15 : decode c_X1_discs 15 = .ok (.putfield 45, 3) := by decide +kernel
theorem d_X1_discs_18 : decode c_X1_discs 18 = .ok (.lconst 0, 1) := by decide +kernel
theorem d_X1_discs_19 : decode c_X1_discs 19 = .ok (.lstore_n 2, 1) := by decide +kernel
theorem d_X1_discs_20 : decode c_X1_discs 20 = .ok (.iconst 0, 1) := by decide +kernel
theorem d_X1_discs_21 : decode c_X1_discs 21 = .ok (.istore 4, 2) := by decide +kernel
theorem d_X1_discs_23 : decode c_X1_discs 23 = .ok (.iload 4, 2) := by decide +kernel
theorem d_X1_discs_25 : decode c_X1_discs 25 = .ok (.bipush 64, 2) := by decide +kernel
theorem d_X1_discs_27 : decode c_X1_discs 27 = .ok (.if_icmp .ge 40, 3) := by decide +kernel
theorem d_X1_discs_30 : decode c_X1_discs 30 = .ok (.aload_n 0, 1) := by decide +kernel
theorem d_X1_discs_31 : decode c_X1_discs 31 = .ok (.getfield 45, 3) := by decide +kernel
theorem d_X1_discs_34 : decode c_X1_discs 34 = .ok (.ifCond .ne 33, 3) := by decide +kernel
theorem d_X1_discs_37 : decode c_X1_discs 37 = .ok (.aload_n 0, 1) := by decide +kernel
theorem d_X1_discs_38 : decode c_X1_discs 38 = .ok (.getfield 7, 3) := by decide +kernel
theorem d_X1_discs_41 : decode c_X1_discs 41 = .ok (.iload 4, 2) := by decide +kernel
theorem d_X1_discs_43 : decode c_X1_discs 43 = .ok (.iaload, 1) := by decide +kernel
theorem d_X1_discs_44 : decode c_X1_discs 44 = .ok (.iload_n 1, 1) := by decide +kernel
theorem d_X1_discs_45 : decode c_X1_discs 45 = .ok (.iconst 1, 1) := by decide +kernel
theorem d_X1_discs_46 : decode c_X1_discs 46 = .ok (.iadd, 1) := by decide +kernel
theorem d_X1_discs_47 : decode c_X1_discs 47 = .ok (.if_icmp .ne 12, 3) := by decide +kernel
theorem d_X1_discs_50 : decode c_X1_discs 50 = .ok (.lload_n 2, 1) := by decide +kernel
theorem d_X1_discs_51 : decode c_X1_discs 51 = .ok (.lconst 1, 1) := by decide +kernel
theorem d_X1_discs_52 : decode c_X1_discs 52 = .ok (.iload 4, 2) := by decide +kernel
theorem d_X1_discs_54 : decode c_X1_discs 54 = .ok (.lshl, 1) := by decide +kernel
theorem d_X1_discs_55 : decode c_X1_discs 55 = .ok (.lor, 1) := by decide +kernel
theorem d_X1_discs_56 : decode c_X1_discs 56 = .ok (.goto 4, 3) := by decide +kernel
theorem d_X1_discs_59 : decode c_X1_discs 59 = .ok (.lload_n 2, 1) := by decide +kernel
theorem d_X1_discs_60 : decode c_X1_discs 60 = .ok (.lstore_n 2, 1) := by decide +kernel
theorem d_X1_discs_61 : decode c_X1_discs 61 = .ok (.iinc 4 1, 3) := by decide +kernel
theorem d_X1_discs_64 : decode c_X1_discs 64 = .ok (.goto (-41), 3) := by decide +kernel
theorem d_X1_discs_67 : decode c_X1_discs 67 = .ok (.lload_n 2, 1) := by decide +kernel
theorem d_X1_discs_68 : decode c_X1_discs 68 = .ok (.lreturn, 1) := by decide +kernel
theorem d_X1_player_0 : decode c_X1_player 0 = .ok (.aload_n 0, 1) := by decide +kernel
theorem d_X1_player_1 : decode c_X1_player 1 = .ok (.iconst 0, 1) := by decide +kernel
theorem d_X1_player_2 : decode c_X1_player 2 = .ok (.putfield 45, 3) := by decide +kernel
theorem d_X1_player_5 : decode c_X1_player 5 = .ok (.aload_n 0, 1) := by decide +kernel
theorem d_X1_player_6 : decode c_X1_player 6 = .ok (.getfield 13, 3) := by decide +kernel
theorem d_X1_player_9 : decode c_X1_player 9 = .ok (.iconst 0, 1) := by decide +kernel
theorem d_X1_player_10 : decode c_X1_player 10 = .ok (.iaload, 1) := by decide +kernel
theorem d_X1_player_11 : decode c_X1_player 11 = .ok (.ireturn, 1) := by decide +kernel
theorem d_X1_moves_0 : decode c_X1_moves 0 = .ok (.aload_n 0, 1) := by decide +kernel
theorem d_X1_moves_1 : decode c_X1_moves 1 = .ok (.iconst 0, 1) := by decide +kernel
theorem d_X1_moves_2 : decode c_X1_moves 2 = .ok (.putfield 45, 3) := by decide +kernel
theorem d_X1_moves_5 : decode c_X1_moves 5 = .ok (.lconst 0, 1) := by decide +kernel
theorem d_X1_moves_6 : decode c_X1_moves 6 = .ok (.lstore_n 1, 1) := by decide +kernel
theorem d_X1_moves_7 : decode c_X1_moves 7 = .ok (.iconst 0, 1) := by decide +kernel
theorem d_X1_moves_8 : decode c_X1_moves 8 = .ok (.istore_n 3, 1) := by decide +kernel
theorem d_X1_moves_9 : decode c_X1_moves 9 = .ok (.iload_n 3, 1) := by decide +kernel
theorem d_X1_moves_10 : decode c_X1_moves 10 = .ok (.bipush 64, 2) := by decide +kernel
theorem d_X1_moves_12 : decode c_X1_moves 12 = .ok (.if_icmp .ge 36, 3) := by decide +kernel
theorem d_X1_moves_15 : decode c_X1_moves 15 = .ok (.aload_n 0, 1) := by decide +kernel
theorem d_X1_moves_16 : decode c_X1_moves 16 = .ok (.iconst 0, 1) := by decide +kernel
theorem d_X1_moves_17 : decode c_X1_moves 17 = .ok (.iload_n 3, 1) := by decide +kernel
theorem d_X1_moves_18 : decode c_X1_moves 18 = .ok (.aload_n 0, 1) := by decide +kernel
theorem d_X1_moves_19 : decode c_X1_moves 19 = .ok (.getfield 13, 3) := by decide +kernel
theorem d_X1_moves_22 : decode c_X1_moves 22 = .ok (.iconst 0, 1) := by decide +kernel
theorem d_X1_moves_23 : decode c_X1_moves 23 = .ok (.iaload, 1) := by decide +kernel
theorem d_X1_moves_24 : decode c_X1_moves 24 = .ok (.invokevirtual 71, 3) := by decide +kernel
theorem d_X1_moves_27 : decode c_X1_moves 27 = .ok (.lconst 0, 1) := by decide +kernel
theorem d_X1_moves_28 : decode c_X1_moves 28 = .ok (.lcmp, 1) := by decide +kernel
theorem d_X1_moves_29 : decode c_X1_moves 29 = .ok (.ifCond .eq 11, 3) := by decide +kernel
theorem d_X1_moves_32 : decode c_X1_moves 32 = .ok (.lload_n 1, 1) := by decide +kernel
theorem d_X1_moves_33 : decode c_X1_moves 33 = .ok (.lconst 1, 1) := by decide +kernel
theorem d_X1_moves_34 : decode c_X1_moves 34 = .ok (.iload_n 3, 1) := by decide +kernel
theorem d_X1_moves_35 : decode c_X1_moves 35 = .ok (.lshl, 1) := by decide +kernel
theorem d_X1_moves_36 : decode c_X1_moves 36 = .ok (.lor, 1) := by decide +kernel
theorem d_X1_moves_37 : decode c_X1_moves 37 = .ok (.goto 4, 3) := by decide +kernel
theorem d_X1_moves_40 : decode c_X1_moves 40 = .ok (.lload_n 1, 1) := by decide +kernel
theorem d_X1_moves_41 : decode c_X1_moves 41 = .ok (.lstore_n 1, 1) := by decide +kernel
theorem d_X1_moves_42 : decode c_X1_moves 42 = .ok (.iinc 3 1, 3) := by decide +kernel
theorem d_X1_moves_45 : decode c_X1_moves 45 = .ok (.goto (-36), 3) := by decide +kernel
theorem d_X1_moves_48 : decode c_X1_moves 48 = .ok (.lload_n 1, 1) := by decide +kernel
theorem d_X1_moves_49 : decode c_X1_moves 49 = .ok (.lreturn, 1) := by decide +kernel
theorem d_X1_turns_0 : decode c_X1_turns 0 = .ok (.aload_n 0, 1) := by decide +kernel
theorem d_X1_turns_1 : decode c_X1_turns 1 = .ok (.iload_n 1, 1) := by decide +kernel
theorem d_X1_turns_2 : decode c_X1_turns 2 = .ok (.ifCond .lt 9, 3) := by decide +kernel
theorem d_X1_turns_5 : decode c_X1_turns 5 = .ok (.iload_n 1, 1) := by decide +kernel
theorem d_X1_turns_6 : decode c_X1_turns 6 = .ok (.bipush 63, 2) := by decide +kernel
theorem d_X1_turns_8 : decode c_X1_turns 8 = .ok (.if_icmp .le 7, 3) := by decide +kernel
theorem d_X1_turns_11 : decode c_X1_turns 11 = .ok (.iconst 1, 1) := by decide +kernel
theorem d_X1_turns_12 : decode c_X1_turns 12 = .ok (.goto 4, 3) := by decide +kernel
theorem d_X1_turns_15 : decode c_X1_turns 15 = .ok (.iconst 0, 1) := by decide +kernel
theorem d_X1_turns_16 : decode c_X1_turns 16 = .ok (.putfield 45, 3) := by decide +kernel
theorem d_X1_turns_19 : decode c_X1_turns 19 = .ok (.aload_n 0, 1) := by decide +kernel
theorem d_X1_turns_20 : decode c_X1_turns 20 = .ok (.getfield 45, 3) := by decide +kernel
theorem d_X1_turns_23 : decode c_X1_turns 23 = .ok (.ifCond .le 7, 3) := by decide +kernel
theorem d_X1_turns_26 : decode c_X1_turns 26 = .ok (.lconst 0, 1) := by decide +kernel
theorem d_X1_turns_27 : decode c_X1_turns 27 = .ok (.goto 15, 3) := by decide +kernel
theorem d_X1_turns_30 : decode c_X1_turns 30 = .ok (.aload_n 0, 1) := by decide +kernel
theorem d_X1_turns_31 : decode c_X1_turns 31 = .ok (.iconst 0, 1) := by decide +kernel
theorem d_X1_turns_32 : decode c_X1_turns 32 = .ok (.iload_n 1, 1) := by decide +kernel
theorem d_X1_turns_33 : decode c_X1_turns 33 = .ok (.aload_n 0, 1) := by decide +kernel
theorem d_X1_turns_34 : decode c_X1_turns 34 = .ok (.getfield 13, 3) := by decide +kernel
theorem d_X1_turns_37 : decode c_X1_turns 37 = .ok (.iconst 0, 1) := by decide +kernel
theorem d_X1_turns_38 : decode c_X1_turns 38 = .ok (.iaload, 1) := by decide +kernel
theorem d_X1_turns_39 : decode c_X1_turns 39 = .ok (.invokevirtual 71, 3) := by decide +kernel
theorem d_X1_turns_42 : decode c_X1_turns 42 = .ok (.lreturn, 1) := by decide +kernel
theorem d_X1_isOver_0 : decode c_X1_isOver 0 = .ok (.aload_n 0, 1) := by decide +kernel
theorem d_X1_isOver_1 : decode c_X1_isOver 1 = .ok (.iload_n 1, 1) := by decide +kernel
theorem d_X1_isOver_2 : decode c_X1_isOver 2 = .ok (.iconst 0, 1) := by decide +kernel
theorem d_X1_isOver_3 : decode c_X1_isOver 3 = .ok (.invokevirtual 75, 3) := by decide +kernel
theorem d_X1_isOver_6 : decode c_X1_isOver 6 = .ok (.ifCond .ne 16, 3) := by decide +kernel
theorem d_X1_isOver_9 : decode c_X1_isOver 9 = .ok (.aload_n 0, 1) := by decide +kernel
theorem d_X1_isOver_10 : decode c_X1_isOver 10 = .ok (.iload_n 1, 1) := by decide +kernel
theorem d_X1_isOver_11 : decode c_X1_isOver 11 = .ok (.iconst 1, 1) := by decide +kernel
theorem d_X1_isOver_12 : decode c_X1_isOver 12 = .ok (.invokevirtual 75, 3) := by decide +kernel
theorem d_X1_isOver_15 : decode c_X1_isOver 15 = .ok (.ifCond .ne 7, 3) := by decide +kernel
theorem d_X1_isOver_18 : decode c_X1_isOver 18 = .ok (.iconst 1, 1) := by decide +kernel
theorem d_X1_isOver_19 : decode c_X1_isOver 19 = .ok (.goto 4, 3) := by decide +kernel
theorem d_X1_isOver_22 : decode c_X1_isOver 22 = .ok (.iconst 0, 1) := by decide +kernel
theorem d_X1_isOver_23 : decode c_X1_isOver 23 = .ok (.ireturn, 1) := by decide +kernel
theorem d_X1_over_0 : decode c_X1_over 0 = .ok (.aload_n 0, 1) := by decide +kernel
theorem d_X1_over_1 : decode c_X1_over 1 = .ok (.iconst 0, 1) := by decide +kernel
theorem d_X1_over_2 : decode c_X1_over 2 = .ok (.putfield 45, 3) := by decide +kernel
theorem d_X1_over_5 : decode c_X1_over 5 = .ok (.aload_n 0, 1) := by decide +kernel
theorem d_X1_over_6 : decode c_X1_over 6 = .ok (.iconst 0, 1) := by decide +kernel
theorem d_X1_over_7 : decode c_X1_over 7 = .ok (.invokevirtual 79, 3) := by decide +kernel
theorem d_X1_over_10 : decode c_X1_over 10 = .ok (.ireturn, 1) := by decide +kernel
theorem d_X1_mustPass_0 : decode c_X1_mustPass 0 = .ok (.aload_n 0, 1) := by decide +kernel
theorem d_X1_mustPass_1 : decode c_X1_mustPass 1 = .ok (.iload_n 1, 1) := by decide +kernel
theorem d_X1_mustPass_2 : decode c_X1_mustPass 2 = .ok (.aload_n 0, 1) := by decide +kernel
theorem d_X1_mustPass_3 : decode c_X1_mustPass 3 = .ok (.getfield 13, 3) := by decide +kernel
theorem d_X1_mustPass_6 : decode c_X1_mustPass 6 = .ok (.iload_n 1, 1) := by decide +kernel
theorem d_X1_mustPass_7 : decode c_X1_mustPass 7 = .ok (.iaload, 1) := by decide +kernel
theorem d_X1_mustPass_8 : decode c_X1_mustPass 8 = .ok (.invokevirtual 75, 3) := by decide +kernel
theorem d_X1_mustPass_11 : decode c_X1_mustPass 11 = .ok (.ifCond .ne 23, 3) := by decide +kernel
theorem d_X1_mustPass_14 : decode c_X1_mustPass 14 = .ok (.aload_n 0, 1) := by decide +kernel
theorem d_X1_mustPass_15 : decode c_X1_mustPass 15 = .ok (.iload_n 1, 1) := by decide +kernel
theorem d_X1_mustPass_16 : decode c_X1_mustPass 16 = .ok (.iconst 1, 1) := by decide +kernel
theorem d_X1_mustPass_17 : decode c_X1_mustPass 17 = .ok (.aload_n 0, 1) := by decide +kernel
theorem d_X1_mustPass_18 : decode c_X1_mustPass 18 = .ok (.getfield 13, 3) := by decide +kernel
theorem d_X1_mustPass_21 : decode c_X1_mustPass 21 = .ok (.iload_n 1, 1) := by decide +kernel
theorem d_X1_mustPass_22 : decode c_X1_mustPass 22 = .ok (.iaload, 1) := by decide +kernel
theorem d_X1_mustPass_23 : decode c_X1_mustPass 23 = .ok (.isub, 1) := by decide +kernel
theorem d_X1_mustPass_24 : decode c_X1_mustPass 24 = .ok (.invokevirtual 75, 3) := by decide +kernel
theorem d_X1_mustPass_27 : decode c_X1_mustPass 27 = .ok (.ifCond .le 7, 3) := by decide +kernel
theorem d_X1_mustPass_30 : decode c_X1_mustPass 30 = .ok (.iconst 1, 1) := by decide +kernel
theorem d_X1_mustPass_31 : decode c_X1_mustPass 31 = .ok (.goto 4, 3) := by decide +kernel
theorem d_X1_mustPass_34 : decode c_X1_mustPass 34 = .ok (.iconst 0, 1) := by decide +kernel
theorem d_X1_mustPass_35 : decode c_X1_mustPass 35 = .ok (.ireturn, 1) := by decide +kernel
theorem d_X1_put_0 : decode c_X1_put 0 = .ok (.aload_n 0, 1) := by decide +kernel
theorem d_X1_put_1 : decode c_X1_put 1 = .ok (.getfield 13, 3) := by decide +kernel
theorem d_X1_put_4 : decode c_X1_put 4 = .ok (.iconst 0, 1) := by decide +kernel
theorem d_X1_put_5 : decode c_X1_put 5 = .ok (.iaload, 1) := by decide +kernel
theorem d_X1_put_6 : decode c_X1_put 6 = .ok (.istore_n 2, 1) := by decide +kernel
theorem d_X1_put_7 : decode c_X1_put 7 = .ok (.iload_n 1, 1) := by decide +kernel
theorem d_X1_put_8 : decode c_X1_put 8 = .ok (.bipush 64, 2) := by decide +kernel
theorem d_X1_put_10 : decode c_X1_put 10 = .ok (.if_icmp .ne 7, 3) := by decide +kernel
theorem d_X1_put_13 : decode c_X1_put 13 = .ok (.lconst 0, 1) := by decide +kernel
theorem d_X1_put_14 : decode c_X1_put 14 = .ok (.goto 10, 3) := by decide +kernel
theorem d_X1_put_17 : decode c_X1_put 17 = .ok (.aload_n 0, 1) := by decide +kernel
theorem d_X1_put_18 : decode c_X1_put 18 = .ok (.iconst 0, 1) := by decide +kernel
theorem d_X1_put_19 : decode c_X1_put 19 = .ok (.iload_n 1, 1) := by decide +kernel
theorem d_X1_put_20 : decode c_X1_put 20 = .ok (.iload_n 2, 1) := by decide +kernel
theorem d_X1_put_21 : decode c_X1_put 21 = .ok (.invokevirtual 71, 3) := by decide +kernel
theorem d_X1_put_24 : decode c_X1_put 24 = .ok (.lstore_n 3, 1) := by decide +kernel
theorem d_X1_put_25 : decode c_X1_put 25 = .ok (.iconst 0, 1) := by decide +kernel
theorem d_X1_put_26 : decode c_X1_put 26 = .ok (.istore 5, 2) := by decide +kernel
theorem d_X1_put_28 : decode c_X1_put 28 = .ok (.iload 5, 2) := by decide +kernel
theorem d_X1_put_30 : decode c_X1_put 30 = .ok (.bipush 64, 2) := by decide +kernel
theorem d_X1_put_32 : decode c_X1_put 32 = .ok (.if_icmp .ge 46, 3) := by decide +kernel
theorem d_X1_put_35 : decode c_X1_put 35 = .ok (.aload_n 0, 1) := by decide +kernel
theorem d_X1_put_36 : decode c_X1_put 36 = .ok (.getfield 7, 3) := by decide +kernel
theorem d_X1_put_39 : decode c_X1_put 39 = .ok (.iload 5, 2) := by decide +kernel
theorem d_X1_put_41 : decode c_X1_put 41 = .ok (.iload 5, 2) := by decide +kernel
theorem d_X1_put_43 : decode c_X1_put 43 = .ok (.iload_n 1, 1) := by decide +kernel
theorem d_X1_put_44 : decode c_X1_put 44 = .ok (.if_icmp .eq 14, 3) := by decide +kernel
theorem d_X1_put_47 : decode c_X1_put 47 = .ok (.lload_n 3, 1) := by decide +kernel
theorem d_X1_put_48 : decode c_X1_put 48 = .ok (.iload 5, 2) := by decide +kernel
theorem d_X1_put_50 : decode c_X1_put 50 = .ok (.lshr, 1) := by decide +kernel
theorem d_X1_put_51 : decode c_X1_put 51 = .ok (.lconst 1, 1) := by decide +kernel
theorem d_X1_put_52 : decode c_X1_put 52 = .ok (.land, 1) := by decide +kernel
theorem d_X1_put_53 : decode c_X1_put 53 = .ok (.lconst 1, 1) := by decide +kernel
theorem d_X1_put_54 : decode c_X1_put 54 = .ok (.lcmp, 1) := by decide +kernel
theorem d_X1_put_55 : decode c_X1_put 55 = .ok (.ifCond .ne 9, 3) := by decide +kernel
theorem d_X1_put_58 : decode c_X1_put 58 = .ok (.iload_n 2, 1) := by decide +kernel
theorem d_X1_put_59 : decode c_X1_put 59 = .ok (.iconst 1, 1) := by decide +kernel
theorem d_X1_put_60 : decode c_X1_put 60 = .ok (.iadd, 1) := by decide +kernel
theorem d_X1_put_61 : decode c_X1_put 61 = .ok (.goto 10, 3) := by decide +kernel
theorem d_X1_put_64 : decode c_X1_put 64 = .ok (.aload_n 0, 1) := by decide +kernel
theorem d_X1_put_65 : decode c_X1_put 65 = .ok (.getfield 7, 3) := by decide +kernel
theorem d_X1_put_68 : decode c_X1_put 68 = .ok (.iload 5, 2) := by decide +kernel
theorem d_X1_put_70 : decode c_X1_put 70 = .ok (.iaload, 1) := by decide +kernel
theorem d_X1_put_71 : decode c_X1_put 71 = .ok (.iastore, 1) := by decide +kernel
theorem d_X1_put_72 : decode c_X1_put 72 = .ok (.iinc 5 1, 3) := by decide +kernel
theorem d_X1_put_75 : decode c_X1_put 75 = .ok (.goto (-47), 3) := by decide +kernel
theorem d_X1_put_78 : decode c_X1_put 78 = .ok (.aload_n 0, 1) := by decide +kernel
theorem d_X1_put_79 : decode c_X1_put 79 = .ok (.getfield 13, 3) := by decide +kernel
theorem d_X1_put_82 : decode c_X1_put 82 = .ok (.iconst 0, 1) := by decide +kernel
theorem d_X1_put_83 : decode c_X1_put 83 = .ok (.iconst 1, 1) := by decide +kernel
theorem d_X1_put_84 : decode c_X1_put 84 = .ok (.iload_n 2, 1) := by decide +kernel
theorem d_X1_put_85 : decode c_X1_put 85 = .ok (.isub, 1) := by decide +kernel
theorem d_X1_put_86 : decode c_X1_put 86 = .ok (.iastore, 1) := by decide +kernel
theorem d_X1_put_87 : decode c_X1_put 87 = .ok (.aload_n 0, 1) := by decide +kernel
theorem d_X1_put_88 : decode c_X1_put 88 = .ok (.getfield 16, 3) := by decide +kernel
theorem d_X1_put_91 : decode c_X1_put 91 = .ok (.aload_n 0, 1) := by decide +kernel
theorem d_X1_put_92 : decode c_X1_put 92 = .ok (.getfield 49, 3) := by decide +kernel
theorem d_X1_put_95 : decode c_X1_put 95 = .ok (.iload_n 1, 1) := by decide +kernel
theorem d_X1_put_96 : decode c_X1_put 96 = .ok (.iastore, 1) := by decide +kernel
theorem d_X1_put_97 : decode c_X1_put 97 = .ok (.aload_n 0, 1) := by decide +kernel
theorem d_X1_put_98 : decode c_X1_put 98 = .ok (.getfield 19, 3) := by decide +kernel
theorem d_X1_put_101 : decode c_X1_put 101 = .ok (.aload_n 0, 1) := by decide +kernel
theorem d_X1_put_102 : decode c_X1_put 102 = .ok (.getfield 49, 3) := by decide +kernel
theorem d_X1_put_105 : decode c_X1_put 105 = .ok (.lload_n 3, 1) := by decide +kernel
theorem d_X1_put_106 : decode c_X1_put 106 = .ok (.lastore, 1) := by decide +kernel
theorem d_X1_put_107 : decode c_X1_put 107 = .ok (.aload_n 0, 1) := by decide +kernel
theorem d_X1_put_108 : decode c_X1_put 108 = .ok (.dup, 1) := by decide +kernel
theorem d_X1_put_109 : decode c_X1_put 109 = .ok (.getfield 49, 3) := by decide +kernel
theorem d_X1_put_112 : decode c_X1_put 112 = .ok (.iconst 1, 1) := by decide +kernel
theorem d_X1_put_113 : decode c_X1_put 113 = .ok (.iadd, 1) := by decide +kernel
theorem d_X1_put_114 : decode c_X1_put 114 = .ok (.putfield 49, 3) := by decide +kernel
theorem d_X1_put_117 : decode c_X1_put 117 = .ok (.lload_n 3, 1) := by decide +kernel
theorem d_X1_put_118 : decode c_X1_put 118 = .ok (.invokestatic 83, 3) := by decide +kernel
theorem d_X1_put_121 : decode c_X1_put 121 = .ok (.ireturn, 1) := by decide +kernel
theorem d_X1_play_0 : decode c_X1_play 0 = .ok (.iload_n 1, 1) := by decide +kernel
theorem d_X1_play_1 : decode c_X1_play 1 = .ok (.ifCond .lt 34, 3) := by decide +kernel
theorem d_X1_play_4 : decode c_X1_play 4 = .ok (.iload_n 1, 1) := by decide +kernel
theorem d_X1_play_5 : decode c_X1_play 5 = .ok (.bipush 64, 2) := by decide +kernel
theorem d_X1_play_7 : decode c_X1_play 7 = .ok (.if_icmp .ge 28, 3) := by decide +kernel
theorem d_X1_play_10 : decode c_X1_play 10 = .ok (.aload_n 0, 1) := by decide +kernel
theorem d_X1_play_11 : decode c_X1_play 11 = .ok (.iconst 0, 1) := by decide +kernel
theorem d_X1_play_12 : decode c_X1_play 12 = .ok (.iload_n 1, 1) := by decide +kernel
theorem d_X1_play_13 : decode c_X1_play 13 = .ok (.aload_n 0, 1) := by decide +kernel
theorem d_X1_play_14 : decode c_X1_play 14 = .ok (.getfield 13, 3) := by decide +kernel
theorem d_X1_play_17 : decode c_X1_play 17 = .ok (.iconst 0, 1) := by decide +kernel
theorem d_X1_play_18 : decode c_X1_play 18 = .ok (.iaload, 1) := by decide +kernel
theorem d_X1_play_19 : decode c_X1_play 19 = .ok (.invokevirtual 71, 3) := by decide +kernel
theorem d_X1_play_22 : decode c_X1_play 22 = .ok (.lconst 0, 1) := by decide +kernel
theorem d_X1_play_23 : decode c_X1_play 23 = .ok (.lcmp, 1) := by decide +kernel
theorem d_X1_play_24 : decode c_X1_play 24 = .ok (.ifCond .eq 7, 3) := by decide +kernel
theorem d_X1_play_27 : decode c_X1_play 27 = .ok (.iconst 1, 1) := by decide +kernel
theorem d_X1_play_28 : decode c_X1_play 28 = .ok (.goto 26, 3) := by decide +kernel
theorem d_X1_play_31 : decode c_X1_play 31 = .ok (.iconst 0, 1) := by decide +kernel
theorem d_X1_play_32 : decode c_X1_play 32 = .ok (.goto 22, 3) := by decide +kernel
theorem d_X1_play_35 : decode c_X1_play 35 = .ok (.iload_n 1, 1) := by decide +kernel
theorem d_X1_play_36 : decode c_X1_play 36 = .ok (.bipush 64, 2) := by decide +kernel
theorem d_X1_play_38 : decode c_X1_play 38 = .ok (.if_icmp .ne 15, 3) := by decide +kernel
theorem d_X1_play_41 : decode c_X1_play 41 = .ok (.aload_n 0, 1) := by decide +kernel
theorem d_X1_play_42 : decode c_X1_play 42 = .ok (.iconst 0, 1) := by decide +kernel
theorem d_X1_play_43 : decode c_X1_play 43 = .ok (.invokevirtual 87, 3) := by decide +kernel
theorem d_X1_play_46 : decode c_X1_play 46 = .ok (.ifCond .eq 7, 3) := by decide +kernel
theorem d_X1_play_49 : decode c_X1_play 49 = .ok (.iconst 1, 1) := by decide +kernel
theorem d_X1_play_50 : decode c_X1_play 50 = .ok (.goto 4, 3) := by decide +kernel
theorem d_X1_play_53 : decode c_X1_play 53 = .ok (.iconst 0, 1) := by decide +kernel
theorem d_X1_play_54 : decode c_X1_play 54 = .ok (.istore_n 2, 1) := by decide +kernel
theorem d_X1_play_55 : decode c_X1_play 55 = .ok (.aload_n 0, 1) := by decide +kernel
theorem d_X1_play_56 : decode c_X1_play 56 = .ok (.iload_n 2, 1) := by decide +kernel
theorem d_X1_play_57 : decode c_X1_play 57 = .ok (.ifCond .ne 7, 3) := by decide +kernel
theorem d_X1_play_60 : decode c_X1_play 60 = .ok (.iconst 1, 1) := by decide +kernel
theorem d_X1_play_61 : decode c_X1_play 61 = .ok (.goto 17, 3) := by decide +kernel
theorem d_X1_play_64 : decode c_X1_play 64 = .ok (.aload_n 0, 1) := by decide +kernel
theorem d_X1_play_65 : decode c_X1_play 65 = .ok (.getfield 49, 3) := by decide +kernel
theorem d_X1_play_68 : decode c_X1_play 68 = .ok (.bipush 64, 2) := by decide +kernel
theorem d_X1_play_70 : decode c_X1_play 70 = .ok (.if_icmp .ne 7, 3) := by decide +kernel
theorem d_X1_play_73 : decode c_X1_play 73 = .ok (.iconst 2, 1) := by decide +kernel
theorem d_X1_play_74 : decode c_X1_play 74 = .ok (.goto 4, 3) := by decide +kernel
theorem d_X1_play_77 : decode c_X1_play 77 = .ok (.iconst 0, 1) := by decide +kernel
theorem d_X1_play_78 : decode c_X1_play 78 = .ok (.putfield 45, 3) := by decide +kernel
theorem d_X1_play_81 : decode c_X1_play 81 = .ok (.aload_n 0, 1) := by decide +kernel
theorem d_X1_play_82 : decode c_X1_play 82 = .ok (.getfield 45, 3) := by decide +kernel
theorem d_X1_play_85 : decode c_X1_play 85 = .ok (.ifCond .le 7, 3) := by decide +kernel
theorem d_X1_play_88 : decode c_X1_play 88 = .ok (.iconst 0, 1) := by decide +kernel
theorem d_X1_play_89 : decode c_X1_play 89 = .ok (.goto 8, 3) := by decide +kernel
theorem d_X1_play_92 : decode c_X1_play 92 = .ok (.aload_n 0, 1) := by decide +kernel
theorem d_X1_play_93 : decode c_X1_play 93 = .ok (.iload_n 1, 1) := by decide +kernel
theorem d_X1_play_94 : decode c_X1_play 94 = .ok (.invokevirtual 90, 3) := by decide +kernel
theorem d_X1_play_97 : decode c_X1_play 97 = .ok (.ireturn, 1) := by decide +kernel
theorem d_X1_back_0 : decode c_X1_back 0 = .ok (.aload_n 0, 1) := by decide +kernel
theorem d_X1_back_1 : decode c_X1_back 1 = .ok (.aload_n 0, 1) := by decide +kernel
theorem d_X1_back_2 : decode c_X1_back 2 = .ok (.getfield 49, 3) := by decide +kernel
theorem d_X1_back_5 : decode c_X1_back 5 = .ok (.ifCond .ne 7, 3) := by decide +kernel
theorem d_X1_back_8 : decode c_X1_back 8 = .ok (.iconst 1, 1) := by decide +kernel
theorem d_X1_back_9 : decode c_X1_back 9 = .ok (.goto 4, 3) := by decide +kernel
theorem d_X1_back_12 : decode c_X1_back 12 = .ok (.iconst 0, 1) := by decide +kernel
theorem d_X1_back_13 : decode c_X1_back 13 = .ok (.putfield 45, 3) := by decide +kernel
theorem d_X1_back_16 : decode c_X1_back 16 = .ok (.aload_n 0, 1) := by decide +kernel
theorem d_X1_back_17 : decode c_X1_back 17 = .ok (.getfield 45, 3) := by decide +kernel
theorem d_X1_back_20 : decode c_X1_back 20 = .ok (.ifCond .le 5, 3) := by decide +kernel
theorem d_X1_back_23 : decode c_X1_back 23 = .ok (.iconst 0, 1) := by decide +kernel
theorem d_X1_back_24 : decode c_X1_back 24 = .ok (.ireturn, 1) := by decide +kernel
theorem d_X1_back_25 : decode c_X1_back 25 = .ok (.aload_n 0, 1) := by decide +kernel
theorem d_X1_back_26 : decode c_X1_back 26 = .ok (.dup, 1) := by decide +kernel
theorem d_X1_back_27 : decode c_X1_back 27 = .ok (.getfield 49, 3) := by decide +kernel
theorem d_X1_back_30 : decode c_X1_back 30 = .ok (.iconst 1, 1) := by decide +kernel
theorem d_X1_back_31 : decode c_X1_back 31 = .ok (.isub, 1) := by decide +kernel
theorem d_X1_back_32 : decode c_X1_back 32 = .ok (.putfield 49, 3) := by decide +kernel
theorem d_X1_back_35 : decode c_X1_back 35 = .ok (.iconst 1, 1) := by decide +kernel
theorem d_X1_back_36 : decode c_X1_back 36 = .ok (.aload_n 0, 1) := by decide +kernel
theorem d_X1_back_37 : decode c_X1_back 37 = .ok (.getfield 13, 3) := by decide +kernel
theorem d_X1_back_40 : decode c_X1_back 40 = .ok (.iconst 0, 1) := by decide +kernel
theorem d_X1_back_41 : decode c_X1_back 41 = .ok (.iaload, 1) := by decide +kernel
theorem d_X1_back_42 : decode c_X1_back 42 = .ok (.isub, 1) := by decide +kernel
theorem d_X1_back_43 : decode c_X1_back 43 = .ok (.istore_n 1, 1) := by decide +kernel
theorem d_X1_back_44 : decode c_X1_back 44 = .ok (.iconst 0, 1) := by decide +kernel
theorem d_X1_back_45 : decode c_X1_back 45 = .ok (.istore_n 2, 1) := by decide +kernel
theorem d_X1_back_46 : decode c_X1_back 46 = .ok (.iload_n 2, 1) := by decide +kernel
theorem d_X1_back_47 : decode c_X1_back 47 = .ok (.bipush 64, 2) := by decide +kernel
theorem d_X1_back_49 : decode c_X1_back 49 = .ok (.if_icmp .ge 62, 3) := by decide +kernel
theorem d_X1_back_52 : decode c_X1_back 52 = .ok (.aload_n 0, 1) := by decide +kernel
theorem d_X1_back_53 : decode c_X1_back 53 = .ok (.getfield 7, 3) := by decide +kernel
theorem d_X1_back_56 : decode c_X1_back 56 = .ok (.iload_n 2, 1) := by decide +kernel
theorem d_X1_back_57 : decode c_X1_back 57 = .ok (.aload_n 0, 1) := by decide +kernel
theorem d_X1_back_58 : decode c_X1_back 58 = .ok (.getfield 19, 3) := by decide +kernel
theorem d_X1_back_61 : decode c_X1_back 61 = .ok (.aload_n 0, 1) := by decide +kernel
theorem d_X1_back_62 : decode c_X1_back 62 = .ok (.getfield 49, 3) := by decide +kernel
theorem d_X1_back_65 : decode c_X1_back 65 = .ok (.laload, 1) := by decide +kernel
theorem d_X1_back_66 : decode c_X1_back 66 = .ok (.iload_n 2, 1) := by decide +kernel
theorem d_X1_back_67 : decode c_X1_back 67 = .ok (.lshr, 1) := by decide +kernel
theorem d_X1_back_68 : decode c_X1_back 68 = .ok (.lconst 1, 1) := by decide +kernel
theorem d_X1_back_69 : decode c_X1_back 69 = .ok (.land, 1) := by decide +kernel
theorem d_X1_back_70 : decode c_X1_back 70 = .ok (.lconst 1, 1) := by decide +kernel
theorem d_X1_back_71 : decode c_X1_back 71 = .ok (.lcmp, 1) := by decide +kernel
theorem d_X1_back_72 : decode c_X1_back 72 = .ok (.ifCond .ne 9, 3) := by decide +kernel
theorem d_X1_back_75 : decode c_X1_back 75 = .ok (.iconst 2, 1) := by decide +kernel
theorem d_X1_back_76 : decode c_X1_back 76 = .ok (.iload_n 1, 1) := by decide +kernel
theorem d_X1_back_77 : decode c_X1_back 77 = .ok (.isub, 1) := by decide +kernel
theorem d_X1_back_78 : decode c_X1_back 78 = .ok (.goto 26, 3) := by decide +kernel
theorem d_X1_back_81 : decode c_X1_back 81 = .ok (.iload_n 2, 1) := by decide +kernel
theorem d_X1_back_82 : decode c_X1_back 82 = .ok (.aload_n 0, 1) := by decide +kernel
theorem d_X1_back_83 : decode c_X1_back 83 = .ok (.getfield 16, 3) := by decide +kernel
theorem d_X1_back_86 : decode c_X1_back 86 = .ok (.aload_n 0, 1) := by decide +kernel
theorem d_X1_back_87 : decode c_X1_back 87 = .ok (.getfield 49, 3) := by decide +kernel
theorem d_X1_back_90 : decode c_X1_back 90 = .ok (.iaload, 1) := by decide +kernel
theorem d_X1_back_91 : decode c_X1_back 91 = .ok (.if_icmp .ne 7, 3) := by decide +kernel
theorem d_X1_back_94 : decode c_X1_back 94 = .ok (.iconst 0, 1) := by decide +kernel
theorem d_X1_back_95 : decode c_X1_back 95 = .ok (.goto 9, 3) := by decide +kernel
theorem d_X1_back_98 : decode c_X1_back 98 = .ok (.aload_n 0, 1) := by decide +kernel
theorem d_X1_back_99 : decode c_X1_back 99 = .ok (.getfield 7, 3) := by decide +kernel
theorem d_X1_back_102 : decode c_X1_back 102 = .ok (.iload_n 2, 1) := by decide +kernel
theorem d_X1_back_103 : decode c_X1_back 103 = .ok (.iaload, 1) := by decide +kernel
theorem d_X1_back_104 : decode c_X1_back 104 = .ok (.iastore, 1) := by decide +kernel
theorem d_X1_back_105 : decode c_X1_back 105 = .ok (.iinc 2 1, 3) := by decide +kernel
theorem d_X1_back_108 : decode c_X1_back 108 = .ok (.goto (-62), 3) := by decide +kernel
theorem d_X1_back_111 : decode c_X1_back 111 = .ok (.aload_n 0, 1) := by decide +kernel
theorem d_X1_back_112 : decode c_X1_back 112 = .ok (.getfield 13, 3) := by decide +kernel
theorem d_X1_back_115 : decode c_X1_back 115 = .ok (.iconst 0, 1) := by decide +kernel
theorem d_X1_back_116 : decode c_X1_back 116 = .ok (.iload_n 1, 1) := by decide +kernel
theorem d_X1_back_117 : decode c_X1_back 117 = .ok (.iastore, 1) := by decide +kernel
theorem d_X1_back_118 : decode c_X1_back 118 = .ok (.aload_n 0, 1) := by decide +kernel
theorem d_X1_back_119 : decode c_X1_back 119 = .ok (.getfield 16, 3) := by decide +kernel
theorem d_X1_back_122 : decode c_X1_back 122 = .ok (.aload_n 0, 1) := by decide +kernel
theorem d_X1_back_123 : decode c_X1_back 123 = .ok (.getfield 49, 3) := by decide +kernel
theorem d_X1_back_126 : decode c_X1_back 126 = .ok (.iaload, 1) := by decide +kernel
theorem d_X1_back_127 : decode c_X1_back 127 = .ok (.ireturn, 1) := by decide +kernel
theorem d_X1_made_0 : decode c_X1_made 0 = .ok (.aload_n 0, 1) := by decide +kernel
theorem d_X1_made_1 : decode c_X1_made 1 = .ok (.iconst 0, 1) := by decide +kernel
theorem d_X1_made_2 : decode c_X1_made 2 = .ok (.putfield 45, 3) := by decide +kernel
theorem d_X1_made_5 : decode c_X1_made 5 = .ok (.aload_n 0, 1) := by decide +kernel
theorem d_X1_made_6 : decode c_X1_made 6 = .ok (.getfield 49, 3) := by decide +kernel
theorem d_X1_made_9 : decode c_X1_made 9 = .ok (.ireturn, 1) := by decide +kernel
theorem d_X1_difference_0 : decode c_X1_difference 0 = .ok (.aload_n 0, 1) := by decide +kernel
theorem d_X1_difference_1 : decode c_X1_difference 1 = .ok (.iconst 0, 1) := by decide +kernel
theorem d_X1_difference_2 : decode c_X1_difference 2 = .ok (.putfield 45, 3) := by decide +kernel
theorem d_X1_difference_5 : decode c_X1_difference 5 = .ok (.aload_n 0, 1) := by decide +kernel
theorem d_X1_difference_6 : decode c_X1_difference 6 = .ok (.iconst 0, 1) := by decide +kernel
theorem d_X1_difference_7 : decode c_X1_difference 7 = .ok (.iconst 0, 1) := by decide +kernel
theorem d_X1_difference_8 : decode c_X1_difference 8 = .ok (.invokevirtual 93, 3) := by decide +kernel
theorem d_X1_difference_11 : decode c_X1_difference 11 = .ok (.aload_n 0, 1) := by decide +kernel
theorem d_X1_difference_12 : decode c_X1_difference 12 = .ok (.iconst 0, 1) := by decide +kernel
theorem d_X1_difference_13 : decode c_X1_difference 13 = .ok (.iconst 1, 1) := by decide +kernel
theorem d_X1_difference_14 : decode c_X1_difference 14 = .ok (.invokevirtual 93, 3) := by decide +kernel
theorem d_X1_difference_17 : decode c_X1_difference 17 = .ok (.isub, 1) := by decide +kernel
theorem d_X1_difference_18 : decode c_X1_difference 18 = .ok (.ireturn, 1) := by decide +kernel
theorem d_X1_layNext_0 : decode c_X1_layNext 0 = .ok (.aload_n 0, 1) := by decide +kernel
theorem d_X1_layNext_1 : decode c_X1_layNext 1 = .ok (.getfield 13, 3) := by decide +kernel
theorem d_X1_layNext_4 : decode c_X1_layNext 4 = .ok (.iload_n 1, 1) := by decide +kernel
theorem d_X1_layNext_5 : decode c_X1_layNext 5 = .ok (.iaload, 1) := by decide +kernel
theorem d_X1_layNext_6 : decode c_X1_layNext 6 = .ok (.istore_n 3, 1) := by decide +kernel
theorem d_X1_layNext_7 : decode c_X1_layNext 7 = .ok (.iload_n 2, 1) := by decide +kernel
theorem d_X1_layNext_8 : decode c_X1_layNext 8 = .ok (.bipush 64, 2) := by decide +kernel
theorem d_X1_layNext_10 : decode c_X1_layNext 10 = .ok (.if_icmp .ne 7, 3) := by decide +kernel
theorem d_X1_layNext_13 : decode c_X1_layNext 13 = .ok (.lconst 0, 1) := by decide +kernel
theorem d_X1_layNext_14 : decode c_X1_layNext 14 = .ok (.goto 10, 3) := by decide +kernel
theorem d_X1_layNext_17 : decode c_X1_layNext 17 = .ok (.aload_n 0, 1) := by decide +kernel
theorem d_X1_layNext_18 : decode c_X1_layNext 18 = .ok (.iload_n 1, 1) := by decide +kernel
theorem d_X1_layNext_19 : decode c_X1_layNext 19 = .ok (.iload_n 2, 1) := by decide +kernel
theorem d_X1_layNext_20 : decode c_X1_layNext 20 = .ok (.iload_n 3, 1) := by decide +kernel
theorem d_X1_layNext_21 : decode c_X1_layNext 21 = .ok (.invokevirtual 71, 3) := by decide +kernel
theorem d_X1_layNext_24 : decode c_X1_layNext 24 = .ok (.lstore 4, 2) := by decide +kernel
theorem d_X1_layNext_26 : decode c_X1_layNext 26 = .ok (.iconst 0, 1) := by decide +kernel
theorem d_X1_layNext_27 : decode c_X1_layNext 27 = .ok (.istore 6, 2) := by decide +kernel
theorem d_X1_layNext_29 : decode c_X1_layNext 29 = .ok (.iload 6, 2) := by decide +kernel
theorem d_X1_layNext_31 : decode c_X1_layNext 31 = .ok (.bipush 64, 2) := by decide +kernel
theorem d_X1_layNext_33 : decode c_X1_layNext 33 = .ok (.if_icmp .ge 72, 3) := by decide +kernel
theorem d_X1_layNext_36 : decode c_X1_layNext 36 = .ok (.iload 6, 2) := by decide +kernel
theorem d_X1_layNext_38 : decode c_X1_layNext 38 = .ok (.iload_n 2, 1) := by decide +kernel
theorem d_X1_layNext_39 : decode c_X1_layNext 39 = .ok (.if_icmp .eq 15, 3) := by decide +kernel
theorem d_X1_layNext_42 : decode c_X1_layNext 42 = .ok (.lload 4, 2) := by decide +kernel
theorem d_X1_layNext_44 : decode c_X1_layNext 44 = .ok (.iload 6, 2) := by decide +kernel
theorem d_X1_layNext_46 : decode c_X1_layNext 46 = .ok (.lshr, 1) := by decide +kernel
theorem d_X1_layNext_47 : decode c_X1_layNext 47 = .ok (.lconst 1, 1) := by decide +kernel
theorem d_X1_layNext_48 : decode c_X1_layNext 48 = .ok (.land, 1) := by decide +kernel
theorem d_X1_layNext_49 : decode c_X1_layNext 49 = .ok (.lconst 1, 1) := by decide +kernel
theorem d_X1_layNext_50 : decode c_X1_layNext 50 = .ok (.lcmp, 1) := by decide +kernel
theorem d_X1_layNext_51 : decode c_X1_layNext 51 = .ok (.ifCond .ne 7, 3) := by decide +kernel
theorem d_X1_layNext_54 : decode c_X1_layNext 54 = .ok (.iconst 1, 1) := by decide +kernel
theorem d_X1_layNext_55 : decode c_X1_layNext 55 = .ok (.goto 4, 3) := by decide +kernel
theorem d_X1_layNext_58 : decode c_X1_layNext 58 = .ok (.iconst 0, 1) := by decide +kernel
theorem d_X1_layNext_59 : decode c_X1_layNext 59 = .ok (.istore 7, 2) := by decide +kernel
theorem d_X1_layNext_61 : decode c_X1_layNext 61 = .ok (.aload_n 0, 1) := by decide +kernel
theorem d_X1_layNext_62 : decode c_X1_layNext 62 = .ok (.getfield 7, 3) := by decide +kernel
theorem d_X1_layNext_65 : decode c_X1_layNext 65 = .ok (.bipush 64, 2) := by decide +kernel
theorem d_X1_layNext_67 : decode c_X1_layNext 67 = .ok (.iload_n 1, 1) := by decide +kernel
theorem d_X1_layNext_68 : decode c_X1_layNext 68 = .ok (.imul, 1) := by decide +kernel
theorem d_X1_layNext_69 : decode c_X1_layNext 69 = .ok (.bipush 64, 2) := by decide +kernel
theorem d_X1_layNext_71 : decode c_X1_layNext 71 = .ok (.iadd, 1) := by decide +kernel
theorem d_X1_layNext_72 : decode c_X1_layNext 72 = .ok (.iload 6, 2) := by decide +kernel
theorem d_X1_layNext_74 : decode c_X1_layNext 74 = .ok (.iadd, 1) := by decide +kernel
theorem d_X1_layNext_75 : decode c_X1_layNext 75 = .ok (.iload 7, 2) := by decide +kernel
theorem d_X1_layNext_77 : decode c_X1_layNext 77 = .ok (.ifCond .eq 9, 3) := by decide +kernel
theorem d_X1_layNext_80 : decode c_X1_layNext 80 = .ok (.iload_n 3, 1) := by decide +kernel
theorem d_X1_layNext_81 : decode c_X1_layNext 81 = .ok (.iconst 1, 1) := by decide +kernel
theorem d_X1_layNext_82 : decode c_X1_layNext 82 = .ok (.iadd, 1) := by decide +kernel
theorem d_X1_layNext_83 : decode c_X1_layNext 83 = .ok (.goto 15, 3) := by decide +kernel
theorem d_X1_layNext_86 : decode c_X1_layNext 86 = .ok (.aload_n 0, 1) := by decide +kernel
theorem d_X1_layNext_87 : decode c_X1_layNext 87 = .ok (.getfield 7, 3) := by decide +kernel
theorem d_X1_layNext_90 : decode c_X1_layNext 90 = .ok (.bipush 64, 2) := by decide +kernel
theorem d_X1_layNext_92 : decode c_X1_layNext 92 = .ok (.iload_n 1, 1) := by decide +kernel
theorem d_X1_layNext_93 : decode c_X1_layNext 93 = .ok (.imul, 1) := by decide +kernel
theorem d_X1_layNext_94 : decode c_X1_layNext 94 = .ok (.iload 6, 2) := by decide +kernel
theorem d_X1_layNext_96 : decode c_X1_layNext 96 = .ok (.iadd, 1) := by decide +kernel
theorem d_X1_layNext_97 : decode c_X1_layNext 97 = .ok (.iaload, 1) := by decide +kernel
theorem d_X1_layNext_98 : decode c_X1_layNext 98 = .ok (.iastore, 1) := by decide +kernel
theorem d_X1_layNext_99 : decode c_X1_layNext 99 = .ok (.iinc 6 1, 3) := by decide +kernel
theorem d_X1_layNext_102 : decode c_X1_layNext 102 = .ok (.goto (-73), 3) := by decide +kernel
theorem d_X1_layNext_105 : decode c_X1_layNext 105 = .ok (.aload_n 0, 1) := by decide +kernel
theorem d_X1_layNext_106 : decode c_X1_layNext 106 = .ok (.getfield 13, 3) := by decide +kernel
theorem d_X1_layNext_109 : decode c_X1_layNext 109 = .ok (.iload_n 1, 1) := by decide +kernel
theorem d_X1_layNext_110 : decode c_X1_layNext 110 = .ok (.iconst 1, 1) := by decide +kernel
theorem d_X1_layNext_111 : decode c_X1_layNext 111 = .ok (.iadd, 1) := by decide +kernel
theorem d_X1_layNext_112 : decode c_X1_layNext 112 = .ok (.iconst 1, 1) := by decide +kernel
theorem d_X1_layNext_113 : decode c_X1_layNext 113 = .ok (.iload_n 3, 1) := by decide +kernel
theorem d_X1_layNext_114 : decode c_X1_layNext 114 = .ok (.isub, 1) := by decide +kernel
theorem d_X1_layNext_115 : decode c_X1_layNext 115 = .ok (.iastore, 1) := by decide +kernel
theorem d_X1_layNext_116 : decode c_X1_layNext 116 = .ok (.return_, 1) := by decide +kernel
theorem d_X1_findSpots_0 : decode c_X1_findSpots 0 = .ok (.aload_n 0, 1) := by decide +kernel
theorem d_X1_findSpots_1 : decode c_X1_findSpots 1 = .ok (.iconst 0, 1) := by decide +kernel
theorem d_X1_findSpots_2 : decode c_X1_findSpots 2 = .ok (.putfield 96, 3) := by decide +kernel
theorem d_X1_findSpots_5 : decode c_X1_findSpots 5 = .ok (.iconst 0, 1) := by decide +kernel
theorem d_X1_findSpots_6 : decode c_X1_findSpots 6 = .ok (.istore_n 1, 1) := by decide +kernel
theorem d_X1_findSpots_7 : decode c_X1_findSpots 7 = .ok (.iload_n 1, 1) := by decide +kernel
theorem d_X1_findSpots_8 : decode c_X1_findSpots 8 = .ok (.bipush 64, 2) := by decide +kernel
theorem d_X1_findSpots_10 : decode c_X1_findSpots 10 = .ok (.if_icmp .ge 38, 3) := by decide +kernel
theorem d_X1_findSpots_13 : decode c_X1_findSpots 13 = .ok (.aload_n 0, 1) := by decide +kernel
theorem d_X1_findSpots_14 : decode c_X1_findSpots 14 = .ok (.getfield 7, 3) := by decide +kernel
theorem d_X1_findSpots_17 : decode c_X1_findSpots 17 = .ok (.iload_n 1, 1) := by decide +kernel
theorem d_X1_findSpots_18 : decode c_X1_findSpots 18 = .ok (.iaload, 1) := by decide +kernel
theorem d_X1_findSpots_19 : decode c_X1_findSpots 19 = .ok (.ifCond .ne 23, 3) := by decide +kernel
theorem d_X1_findSpots_22 : decode c_X1_findSpots 22 = .ok (.aload_n 0, 1) := by decide +kernel
theorem d_X1_findSpots_23 : decode c_X1_findSpots 23 = .ok (.getfield 36, 3) := by decide +kernel
theorem d_X1_findSpots_26 : decode c_X1_findSpots 26 = .ok (.aload_n 0, 1) := by decide +kernel
theorem d_X1_findSpots_27 : decode c_X1_findSpots 27 = .ok (.getfield 96, 3) := by decide +kernel
theorem d_X1_findSpots_30 : decode c_X1_findSpots 30 = .ok (.iload_n 1, 1) := by decide +kernel
theorem d_X1_findSpots_31 : decode c_X1_findSpots 31 = .ok (.iastore, 1) := by decide +kernel
theorem d_X1_findSpots_32 : decode c_X1_findSpots 32 = .ok (.aload_n 0, 1) := by decide +kernel
theorem d_X1_findSpots_33 : decode c_X1_findSpots 33 = .ok (.dup, 1) := by decide +kernel
theorem d_X1_findSpots_34 : decode c_X1_findSpots 34 = .ok (.getfield 96, 3) := by decide +kernel
theorem d_X1_findSpots_37 : decode c_X1_findSpots 37 = .ok (.iconst 1, 1) := by decide +kernel
theorem d_X1_findSpots_38 : decode c_X1_findSpots 38 = .ok (.iadd, 1) := by decide +kernel
theorem d_X1_findSpots_39 : decode c_X1_findSpots 39 = .ok (.putfield 96, 3) := by decide +kernel
theorem d_X1_findSpots_42 : decode c_X1_findSpots 42 = .ok (.iinc 1 1, 3) := by decide +kernel
theorem d_X1_findSpots_45 : decode c_X1_findSpots 45 = .ok (.goto (-38), 3) := by decide +kernel
theorem d_X1_findSpots_48 : decode c_X1_findSpots 48 = .ok (.return_, 1) := by decide +kernel
theorem d_X1_turnsAny_0 : decode c_X1_turnsAny 0 = .ok (.iconst 0, 1) := by decide +kernel
theorem d_X1_turnsAny_1 : decode c_X1_turnsAny 1 = .ok (.istore 4, 2) := by decide +kernel
theorem d_X1_turnsAny_3 : decode c_X1_turnsAny 3 = .ok (.iconst 0, 1) := by decide +kernel
theorem d_X1_turnsAny_4 : decode c_X1_turnsAny 4 = .ok (.istore 5, 2) := by decide +kernel
theorem d_X1_turnsAny_6 : decode c_X1_turnsAny 6 = .ok (.iload 5, 2) := by decide +kernel
theorem d_X1_turnsAny_8 : decode c_X1_turnsAny 8 = .ok (.bipush 8, 2) := by decide +kernel
theorem d_X1_turnsAny_10 : decode c_X1_turnsAny 10 = .ok (.if_icmp .ge 47, 3) := by decide +kernel
theorem d_X1_turnsAny_13 : decode c_X1_turnsAny 13 = .ok (.aload_n 0, 1) := by decide +kernel
theorem d_X1_turnsAny_14 : decode c_X1_turnsAny 14 = .ok (.getfield 7, 3) := by decide +kernel
theorem d_X1_turnsAny_17 : decode c_X1_turnsAny 17 = .ok (.bipush 64, 2) := by decide +kernel
theorem d_X1_turnsAny_19 : decode c_X1_turnsAny 19 = .ok (.iload_n 1, 1) := by decide +kernel
theorem d_X1_turnsAny_20 : decode c_X1_turnsAny 20 = .ok (.imul, 1) := by decide +kernel
theorem d_X1_turnsAny_21 : decode c_X1_turnsAny 21 = .ok (.iload_n 2, 1) := by decide +kernel
theorem d_X1_turnsAny_22 : decode c_X1_turnsAny 22 = .ok (.iadd, 1) := by decide +kernel
theorem d_X1_turnsAny_23 : decode c_X1_turnsAny 23 = .ok (.iaload, 1) := by decide +kernel
theorem d_X1_turnsAny_24 : decode c_X1_turnsAny 24 = .ok (.ifCond .ne 33, 3) := by decide +kernel
theorem d_X1_turnsAny_27 : decode c_X1_turnsAny 27 = .ok (.iload 4, 2) := by decide +kernel
theorem d_X1_turnsAny_29 : decode c_X1_turnsAny 29 = .ok (.ifCond .ne 28, 3) := by decide +kernel
theorem d_X1_turnsAny_32 : decode c_X1_turnsAny 32 = .ok (.aload_n 0, 1) := by decide +kernel
theorem d_X1_turnsAny_33 : decode c_X1_turnsAny 33 = .ok (.iload_n 1, 1) := by decide +kernel
theorem d_X1_turnsAny_34 : decode c_X1_turnsAny 34 = .ok (.iload_n 2, 1) := by decide +kernel
theorem d_X1_turnsAny_35 : decode c_X1_turnsAny 35 = .ok (.iload 5, 2) := by decide +kernel
theorem d_X1_turnsAny_37 : decode c_X1_turnsAny 37 = .ok (.iload_n 3, 1) := by decide +kernel
theorem d_X1_turnsAny_38 : decode c_X1_turnsAny 38 = .ok (.invokevirtual 67, 3) := by decide +kernel
theorem d_X1_turnsAny_41 : decode c_X1_turnsAny 41 = .ok (.ifCond .le 7, 3) := by decide +kernel
theorem d_X1_turnsAny_44 : decode c_X1_turnsAny 44 = .ok (.iconst 1, 1) := by decide +kernel
theorem d_X1_turnsAny_45 : decode c_X1_turnsAny 45 = .ok (.goto 4, 3) := by decide +kernel
theorem d_X1_turnsAny_48 : decode c_X1_turnsAny 48 = .ok (.iconst 0, 1) := by decide +kernel
theorem d_X1_turnsAny_49 : decode c_X1_turnsAny 49 = .ok (.istore 4, 2) := by decide +kernel
theorem d_X1_turnsAny_51 : decode c_X1_turnsAny 51 = .ok (.iinc 5 1, 3) := by decide +kernel
theorem d_X1_turnsAny_54 : decode c_X1_turnsAny 54 = .ok (.goto (-48), 3) := by decide +kernel
theorem d_X1_turnsAny_57 : decode c_X1_turnsAny 57 = .ok (.iload 4, 2) := by decide +kernel
theorem d_X1_turnsAny_59 : decode c_X1_turnsAny 59 = .ok (.ireturn, 1) := by decide +kernel
theorem d_X1_movable_0 : decode c_X1_movable 0 = .ok (.iconst 0, 1) := by decide +kernel
theorem d_X1_movable_1 : decode c_X1_movable 1 = .ok (.istore 4, 2) := by decide +kernel
theorem d_X1_movable_3 : decode c_X1_movable 3 = .ok (.iconst 0, 1) := by decide +kernel
theorem d_X1_movable_4 : decode c_X1_movable 4 = .ok (.istore 5, 2) := by decide +kernel
theorem d_X1_movable_6 : decode c_X1_movable 6 = .ok (.iload 5, 2) := by decide +kernel
theorem d_X1_movable_8 : decode c_X1_movable 8 = .ok (.aload_n 0, 1) := by decide +kernel
theorem d_X1_movable_9 : decode c_X1_movable 9 = .ok (.getfield 96, 3) := by decide +kernel
theorem d_X1_movable_12 : decode c_X1_movable 12 = .ok (.if_icmp .ge 42, 3) := by decide +kernel
theorem d_X1_movable_15 : decode c_X1_movable 15 = .ok (.iload 4, 2) := by decide +kernel
theorem d_X1_movable_17 : decode c_X1_movable 17 = .ok (.iload_n 3, 1) := by decide +kernel
theorem d_X1_movable_18 : decode c_X1_movable 18 = .ok (.if_icmp .ge 36, 3) := by decide +kernel
theorem d_X1_movable_21 : decode c_X1_movable 21 = .ok (.aload_n 0, 1) := by decide +kernel
theorem d_X1_movable_22 : decode c_X1_movable 22 = .ok (.iload_n 1, 1) := by decide +kernel
theorem d_X1_movable_23 : decode c_X1_movable 23 = .ok (.aload_n 0, 1) := by decide +kernel
theorem d_X1_movable_24 : decode c_X1_movable 24 = .ok (.getfield 36, 3) := by decide +kernel
theorem d_X1_movable_27 : decode c_X1_movable 27 = .ok (.iload 5, 2) := by decide +kernel
theorem d_X1_movable_29 : decode c_X1_movable 29 = .ok (.iaload, 1) := by decide +kernel
theorem d_X1_movable_30 : decode c_X1_movable 30 = .ok (.iload_n 2, 1) := by decide +kernel
theorem d_X1_movable_31 : decode c_X1_movable 31 = .ok (.invokevirtual 99, 3) := by decide +kernel
theorem d_X1_movable_34 : decode c_X1_movable 34 = .ok (.ifCond .eq 10, 3) := by decide +kernel
theorem d_X1_movable_37 : decode c_X1_movable 37 = .ok (.iload 4, 2) := by decide +kernel
theorem d_X1_movable_39 : decode c_X1_movable 39 = .ok (.iconst 1, 1) := by decide +kernel
theorem d_X1_movable_40 : decode c_X1_movable 40 = .ok (.iadd, 1) := by decide +kernel
theorem d_X1_movable_41 : decode c_X1_movable 41 = .ok (.goto 5, 3) := by decide +kernel
theorem d_X1_movable_44 : decode c_X1_movable 44 = .ok (.iload 4, 2) := by decide +kernel
theorem d_X1_movable_46 : decode c_X1_movable 46 = .ok (.istore 4, 2) := by decide +kernel
theorem d_X1_movable_48 : decode c_X1_movable 48 = .ok (.iinc 5 1, 3) := by decide +kernel
theorem d_X1_movable_51 : decode c_X1_movable 51 = .ok (.goto (-45), 3) := by decide +kernel
theorem d_X1_movable_54 : decode c_X1_movable 54 = .ok (.iload 4, 2) := by decide +kernel
theorem d_X1_movable_56 : decode c_X1_movable 56 = .ok (.ireturn, 1) := by decide +kernel
theorem d_X1_enter_0 : decode c_X1_enter 0 = .ok (.aload_n 0, 1) := by decide +kernel
theorem d_X1_enter_1 : decode c_X1_enter 1 = .ok (.getfield 13, 3) := by decide +kernel
theorem d_X1_enter_4 : decode c_X1_enter 4 = .ok (.iload_n 1, 1) := by decide +kernel
theorem d_X1_enter_5 : decode c_X1_enter 5 = .ok (.iaload, 1) := by decide +kernel
theorem d_X1_enter_6 : decode c_X1_enter 6 = .ok (.istore_n 2, 1) := by decide +kernel
theorem d_X1_enter_7 : decode c_X1_enter 7 = .ok (.aload_n 0, 1) := by decide +kernel
theorem d_X1_enter_8 : decode c_X1_enter 8 = .ok (.iload_n 1, 1) := by decide +kernel
theorem d_X1_enter_9 : decode c_X1_enter 9 = .ok (.iload_n 2, 1) := by decide +kernel
theorem d_X1_enter_10 : decode c_X1_enter 10 = .ok (.iconst 1, 1) := by decide +kernel
theorem d_X1_enter_11 : decode c_X1_enter 11 = .ok (.invokevirtual 103, 3) := by decide +kernel
theorem d_X1_enter_14 : decode c_X1_enter 14 = .ok (.ifCond .le 7, 3) := by decide +kernel
theorem d_X1_enter_17 : decode c_X1_enter 17 = .ok (.iconst 1, 1) := by decide +kernel
theorem d_X1_enter_18 : decode c_X1_enter 18 = .ok (.goto 4, 3) := by decide +kernel
theorem d_X1_enter_21 : decode c_X1_enter 21 = .ok (.iconst 0, 1) := by decide +kernel
theorem d_X1_enter_22 : decode c_X1_enter 22 = .ok (.istore_n 3, 1) := by decide +kernel
theorem d_X1_enter_23 : decode c_X1_enter 23 = .ok (.aload_n 0, 1) := by decide +kernel
theorem d_X1_enter_24 : decode c_X1_enter 24 = .ok (.getfield 23, 3) := by decide +kernel
theorem d_X1_enter_27 : decode c_X1_enter 27 = .ok (.iload_n 1, 1) := by decide +kernel
theorem d_X1_enter_28 : decode c_X1_enter 28 = .ok (.iload_n 3, 1) := by decide +kernel
theorem d_X1_enter_29 : decode c_X1_enter 29 = .ok (.ifCond .eq 7, 3) := by decide +kernel
theorem d_X1_enter_32 : decode c_X1_enter 32 = .ok (.iconst 0, 1) := by decide +kernel
theorem d_X1_enter_33 : decode c_X1_enter 33 = .ok (.goto 7, 3) := by decide +kernel
theorem d_X1_enter_36 : decode c_X1_enter 36 = .ok (.aload_n 0, 1) := by decide +kernel
theorem d_X1_enter_37 : decode c_X1_enter 37 = .ok (.getfield 96, 3) := by decide +kernel
theorem d_X1_enter_40 : decode c_X1_enter 40 = .ok (.iastore, 1) := by decide +kernel
theorem d_X1_enter_41 : decode c_X1_enter 41 = .ok (.aload_n 0, 1) := by decide +kernel
theorem d_X1_enter_42 : decode c_X1_enter 42 = .ok (.getfield 30, 3) := by decide +kernel
theorem d_X1_enter_45 : decode c_X1_enter 45 = .ok (.iload_n 1, 1) := by decide +kernel
theorem d_X1_enter_46 : decode c_X1_enter 46 = .ok (.sipush (-1000), 3) := by decide +kernel
theorem d_X1_enter_49 : decode c_X1_enter 49 = .ok (.iastore, 1) := by decide +kernel
theorem d_X1_enter_50 : decode c_X1_enter 50 = .ok (.aload_n 0, 1) := by decide +kernel
theorem d_X1_enter_51 : decode c_X1_enter 51 = .ok (.getfield 26, 3) := by decide +kernel
theorem d_X1_enter_54 : decode c_X1_enter 54 = .ok (.iload_n 1, 1) := by decide +kernel
theorem d_X1_enter_55 : decode c_X1_enter 55 = .ok (.iload_n 3, 1) := by decide +kernel
theorem d_X1_enter_56 : decode c_X1_enter 56 = .ok (.ifCond .ne 19, 3) := by decide +kernel
theorem d_X1_enter_59 : decode c_X1_enter 59 = .ok (.aload_n 0, 1) := by decide +kernel
theorem d_X1_enter_60 : decode c_X1_enter 60 = .ok (.iload_n 1, 1) := by decide +kernel
theorem d_X1_enter_61 : decode c_X1_enter 61 = .ok (.iconst 1, 1) := by decide +kernel
theorem d_X1_enter_62 : decode c_X1_enter 62 = .ok (.iload_n 2, 1) := by decide +kernel
theorem d_X1_enter_63 : decode c_X1_enter 63 = .ok (.isub, 1) := by decide +kernel
theorem d_X1_enter_64 : decode c_X1_enter 64 = .ok (.iconst 1, 1) := by decide +kernel
theorem d_X1_enter_65 : decode c_X1_enter 65 = .ok (.invokevirtual 103, 3) := by decide +kernel
theorem d_X1_enter_68 : decode c_X1_enter 68 = .ok (.ifCond .le 7, 3) := by decide +kernel
theorem d_X1_enter_71 : decode c_X1_enter 71 = .ok (.iconst 1, 1) := by decide +kernel
theorem d_X1_enter_72 : decode c_X1_enter 72 = .ok (.goto 4, 3) := by decide +kernel
theorem d_X1_enter_75 : decode c_X1_enter 75 = .ok (.iconst 0, 1) := by decide +kernel
theorem d_X1_enter_76 : decode c_X1_enter 76 = .ok (.bastore, 1) := by decide +kernel
theorem d_X1_enter_77 : decode c_X1_enter 77 = .ok (.iload_n 3, 1) := by decide +kernel
theorem d_X1_enter_78 : decode c_X1_enter 78 = .ok (.ifCond .ne 33, 3) := by decide +kernel
theorem d_X1_enter_81 : decode c_X1_enter 81 = .ok (.aload_n 0, 1) := by decide +kernel
theorem d_X1_enter_82 : decode c_X1_enter 82 = .ok (.getfield 26, 3) := by decide +kernel
theorem d_X1_enter_85 : decode c_X1_enter 85 = .ok (.iload_n 1, 1) := by decide +kernel
theorem d_X1_enter_86 : decode c_X1_enter 86 = .ok (.baload, 1) := by decide +kernel
theorem d_X1_enter_87 : decode c_X1_enter 87 = .ok (.ifCond .ne 24, 3) := by decide +kernel
theorem d_X1_enter_90 : decode c_X1_enter 90 = .ok (.aload_n 0, 1) := by decide +kernel
theorem d_X1_enter_91 : decode c_X1_enter 91 = .ok (.getfield 30, 3) := by decide +kernel
theorem d_X1_enter_94 : decode c_X1_enter 94 = .ok (.iload_n 1, 1) := by decide +kernel
theorem d_X1_enter_95 : decode c_X1_enter 95 = .ok (.aload_n 0, 1) := by decide +kernel
theorem d_X1_enter_96 : decode c_X1_enter 96 = .ok (.iload_n 1, 1) := by decide +kernel
theorem d_X1_enter_97 : decode c_X1_enter 97 = .ok (.iload_n 2, 1) := by decide +kernel
theorem d_X1_enter_98 : decode c_X1_enter 98 = .ok (.invokevirtual 93, 3) := by decide +kernel
theorem d_X1_enter_101 : decode c_X1_enter 101 = .ok (.aload_n 0, 1) := by decide +kernel
theorem d_X1_enter_102 : decode c_X1_enter 102 = .ok (.iload_n 1, 1) := by decide +kernel
theorem d_X1_enter_103 : decode c_X1_enter 103 = .ok (.iconst 1, 1) := by decide +kernel
theorem d_X1_enter_104 : decode c_X1_enter 104 = .ok (.iload_n 2, 1) := by decide +kernel
theorem d_X1_enter_105 : decode c_X1_enter 105 = .ok (.isub, 1) := by decide +kernel
theorem d_X1_enter_106 : decode c_X1_enter 106 = .ok (.invokevirtual 93, 3) := by decide +kernel
theorem d_X1_enter_109 : decode c_X1_enter 109 = .ok (.isub, 1) := by decide +kernel
theorem d_X1_enter_110 : decode c_X1_enter 110 = .ok (.iastore, 1) := by decide +kernel
theorem d_X1_enter_111 : decode c_X1_enter 111 = .ok (.return_, 1) := by decide +kernel
theorem d_X1_nextAt_0 : decode c_X1_nextAt 0 = .ok (.aload_n 0, 1) := by decide +kernel
theorem d_X1_nextAt_1 : decode c_X1_nextAt 1 = .ok (.getfield 26, 3) := by decide +kernel
theorem d_X1_nextAt_4 : decode c_X1_nextAt 4 = .ok (.iload_n 1, 1) := by decide +kernel
theorem d_X1_nextAt_5 : decode c_X1_nextAt 5 = .ok (.baload, 1) := by decide +kernel
theorem d_X1_nextAt_6 : decode c_X1_nextAt 6 = .ok (.ifCond .eq 13, 3) := by decide +kernel
theorem d_X1_nextAt_9 : decode c_X1_nextAt 9 = .ok (.aload_n 0, 1) := by decide +kernel
theorem d_X1_nextAt_10 : decode c_X1_nextAt 10 = .ok (.getfield 26, 3) := by decide +kernel
theorem d_X1_nextAt_13 : decode c_X1_nextAt 13 = .ok (.iload_n 1, 1) := by decide +kernel
theorem d_X1_nextAt_14 : decode c_X1_nextAt 14 = .ok (.iconst 0, 1) := by decide +kernel
theorem d_X1_nextAt_15 : decode c_X1_nextAt 15 = .ok (.bastore, 1) := by decide +kernel
theorem d_X1_nextAt_16 : decode c_X1_nextAt 16 = .ok (.bipush 64, 2) := by decide +kernel
theorem d_X1_nextAt_18 : decode c_X1_nextAt 18 = .ok (.ireturn, 1) := by decide +kernel
theorem d_X1_nextAt_19 : decode c_X1_nextAt 19 = .ok (.aload_n 0, 1) := by decide +kernel
theorem d_X1_nextAt_20 : decode c_X1_nextAt 20 = .ok (.getfield 23, 3) := by decide +kernel
theorem d_X1_nextAt_23 : decode c_X1_nextAt 23 = .ok (.iload_n 1, 1) := by decide +kernel
theorem d_X1_nextAt_24 : decode c_X1_nextAt 24 = .ok (.iaload, 1) := by decide +kernel
theorem d_X1_nextAt_25 : decode c_X1_nextAt 25 = .ok (.aload_n 0, 1) := by decide +kernel
theorem d_X1_nextAt_26 : decode c_X1_nextAt 26 = .ok (.getfield 96, 3) := by decide +kernel
theorem d_X1_nextAt_29 : decode c_X1_nextAt 29 = .ok (.if_icmp .ge 45, 3) := by decide +kernel
theorem d_X1_nextAt_32 : decode c_X1_nextAt 32 = .ok (.aload_n 0, 1) := by decide +kernel
theorem d_X1_nextAt_33 : decode c_X1_nextAt 33 = .ok (.getfield 36, 3) := by decide +kernel
theorem d_X1_nextAt_36 : decode c_X1_nextAt 36 = .ok (.aload_n 0, 1) := by decide +kernel
theorem d_X1_nextAt_37 : decode c_X1_nextAt 37 = .ok (.getfield 23, 3) := by decide +kernel
theorem d_X1_nextAt_40 : decode c_X1_nextAt 40 = .ok (.iload_n 1, 1) := by decide +kernel
theorem d_X1_nextAt_41 : decode c_X1_nextAt 41 = .ok (.iaload, 1) := by decide +kernel
theorem d_X1_nextAt_42 : decode c_X1_nextAt 42 = .ok (.iaload, 1) := by decide +kernel
theorem d_X1_nextAt_43 : decode c_X1_nextAt 43 = .ok (.istore_n 2, 1) := by decide +kernel
theorem d_X1_nextAt_44 : decode c_X1_nextAt 44 = .ok (.aload_n 0, 1) := by decide +kernel
theorem d_X1_nextAt_45 : decode c_X1_nextAt 45 = .ok (.getfield 23, 3) := by decide +kernel
theorem d_X1_nextAt_48 : decode c_X1_nextAt 48 = .ok (.iload_n 1, 1) := by decide +kernel
theorem d_X1_nextAt_49 : decode c_X1_nextAt 49 = .ok (.dup2, 1) := by decide +kernel
theorem d_X1_nextAt_50 : decode c_X1_nextAt 50 = .ok (.iaload, 1) := by decide +kernel
theorem d_X1_nextAt_51 : decode c_X1_nextAt 51 = .ok (.iconst 1, 1) := by decide +kernel
theorem d_X1_nextAt_52 : decode c_X1_nextAt 52 = .ok (.iadd, 1) := by decide +kernel
theorem d_X1_nextAt_53 : decode c_X1_nextAt 53 = .ok (.iastore, 1) := by decide +kernel
theorem d_X1_nextAt_54 : decode c_X1_nextAt 54 = .ok (.aload_n 0, 1) := by decide +kernel
theorem d_X1_nextAt_55 : decode c_X1_nextAt 55 = .ok (.iload_n 1, 1) := by decide +kernel
theorem d_X1_nextAt_56 : decode c_X1_nextAt 56 = .ok (.iload_n 2, 1) := by decide +kernel
theorem d_X1_nextAt_57 : decode c_X1_nextAt 57 = .ok (.aload_n 0, 1) := by decide +kernel
theorem d_X1_nextAt_58 : decode c_X1_nextAt 58 = .ok (.getfield 13, 3) := by decide +kernel
theorem d_X1_nextAt_61 : decode c_X1_nextAt 61 = .ok (.iload_n 1, 1) := by decide +kernel
theorem d_X1_nextAt_62 : decode c_X1_nextAt 62 = .ok (.iaload, 1) := by decide +kernel
theorem d_X1_nextAt_63 : decode c_X1_nextAt 63 = .ok (.invokevirtual 99, 3) := by decide +kernel
theorem d_X1_nextAt_66 : decode c_X1_nextAt 66 = .ok (.ifCond .eq 5, 3) := by decide +kernel
theorem d_X1_nextAt_69 : decode c_X1_nextAt 69 = .ok (.iload_n 2, 1) := by decide +kernel
theorem d_X1_nextAt_70 : decode c_X1_nextAt 70 = .ok (.ireturn, 1) := by decide +kernel
theorem d_X1_nextAt_71 : decode c_X1_nextAt 71 = .ok (.goto (-52), 3) := by decide +kernel
theorem d_X1_nextAt_74 : decode c_X1_nextAt 74 = .ok (.sipush (-1000), 3) := by decide +kernel
theorem d_X1_nextAt_77 : decode c_X1_nextAt 77 = .ok (.ireturn, 1) := by decide +kernel
theorem d_X1_count_0 : decode c_X1_count 0 = .ok (.aload_n 0, 1) := by decide +kernel
theorem d_X1_count_1 : decode c_X1_count 1 = .ok (.iload_n 1, 1) := by decide +kernel
theorem d_X1_count_2 : decode c_X1_count 2 = .ok (.ifCond .lt 8, 3) := by decide +kernel
theorem d_X1_count_5 : decode c_X1_count 5 = .ok (.iload_n 1, 1) := by decide +kernel
theorem d_X1_count_6 : decode c_X1_count 6 = .ok (.iconst 4, 1) := by decide +kernel
theorem d_X1_count_7 : decode c_X1_count 7 = .ok (.if_icmp .le 7, 3) := by decide +kernel
theorem d_X1_count_10 : decode c_X1_count 10 = .ok (.iconst 1, 1) := by decide +kernel
theorem d_X1_count_11 : decode c_X1_count 11 = .ok (.goto 4, 3) := by decide +kernel
theorem d_X1_count_14 : decode c_X1_count 14 = .ok (.iconst 0, 1) := by decide +kernel
theorem d_X1_count_15 : decode c_X1_count 15 = .ok (.putfield 45, 3) := by decide +kernel
theorem d_X1_count_18 : decode c_X1_count 18 = .ok (.aload_n 0, 1) := by decide +kernel
theorem d_X1_count_19 : decode c_X1_count 19 = .ok (.getfield 45, 3) := by decide +kernel
theorem d_X1_count_22 : decode c_X1_count 22 = .ok (.ifCond .gt 7, 3) := by decide +kernel
theorem d_X1_count_25 : decode c_X1_count 25 = .ok (.iload_n 1, 1) := by decide +kernel
theorem d_X1_count_26 : decode c_X1_count 26 = .ok (.ifCond .ne 16, 3) := by decide +kernel
theorem d_X1_count_29 : decode c_X1_count 29 = .ok (.aload_n 0, 1) := by decide +kernel
theorem d_X1_count_30 : decode c_X1_count 30 = .ok (.getfield 45, 3) := by decide +kernel
theorem d_X1_count_33 : decode c_X1_count 33 = .ok (.ifCond .le 7, 3) := by decide +kernel
theorem d_X1_count_36 : decode c_X1_count 36 = .ok (.lconst 0, 1) := by decide +kernel
theorem d_X1_count_37 : decode c_X1_count 37 = .ok (.goto 4, 3) := by decide +kernel
theorem d_X1_count_40 : decode c_X1_count 40 = .ok (.lconst 1, 1) := by decide +kernel
theorem d_X1_count_41 : decode c_X1_count 41 = .ok (.lreturn, 1) := by decide +kernel
theorem d_X1_count_42 : decode c_X1_count 42 = .ok (.lconst 0, 1) := by decide +kernel
theorem d_X1_count_43 : decode c_X1_count 43 = .ok (.lstore_n 2, 1) := by decide +kernel
theorem d_X1_count_44 : decode c_X1_count 44 = .ok (.iconst 0, 1) := by decide +kernel
theorem d_X1_count_45 : decode c_X1_count 45 = .ok (.istore 4, 2) := by decide +kernel
theorem d_X1_count_47 : decode c_X1_count 47 = .ok (.aload_n 0, 1) := by decide +kernel
theorem d_X1_count_48 : decode c_X1_count 48 = .ok (.invokevirtual 106, 3) := by decide +kernel
theorem d_X1_count_51 : decode c_X1_count 51 = .ok (.aload_n 0, 1) := by decide +kernel
theorem d_X1_count_52 : decode c_X1_count 52 = .ok (.iconst 0, 1) := by decide +kernel
theorem d_X1_count_53 : decode c_X1_count 53 = .ok (.invokevirtual 109, 3) := by decide +kernel
theorem d_X1_count_56 : decode c_X1_count 56 = .ok (.iload 4, 2) := by decide +kernel
theorem d_X1_count_58 : decode c_X1_count 58 = .ok (.ifCond .lt 113, 3) := by decide +kernel
theorem d_X1_count_61 : decode c_X1_count 61 = .ok (.sipush (-1000), 3) := by decide +kernel
theorem d_X1_count_64 : decode c_X1_count 64 = .ok (.istore 5, 2) := by decide +kernel
theorem d_X1_count_66 : decode c_X1_count 66 = .ok (.iload 4, 2) := by decide +kernel
theorem d_X1_count_68 : decode c_X1_count 68 = .ok (.iload_n 1, 1) := by decide +kernel
theorem d_X1_count_69 : decode c_X1_count 69 = .ok (.iconst 1, 1) := by decide +kernel
theorem d_X1_count_70 : decode c_X1_count 70 = .ok (.isub, 1) := by decide +kernel
theorem d_X1_count_71 : decode c_X1_count 71 = .ok (.if_icmp .ne 38, 3) := by decide +kernel
theorem d_X1_count_74 : decode c_X1_count 74 = .ok (.aload_n 0, 1) := by decide +kernel
theorem d_X1_count_75 : decode c_X1_count 75 = .ok (.iload 4, 2) := by decide +kernel
theorem d_X1_count_77 : decode c_X1_count 77 = .ok (.aload_n 0, 1) := by decide +kernel
theorem d_X1_count_78 : decode c_X1_count 78 = .ok (.getfield 13, 3) := by decide +kernel
theorem d_X1_count_81 : decode c_X1_count 81 = .ok (.iload 4, 2) := by decide +kernel
theorem d_X1_count_83 : decode c_X1_count 83 = .ok (.iaload, 1) := by decide +kernel
theorem d_X1_count_84 : decode c_X1_count 84 = .ok (.bipush 64, 2) := by decide +kernel
theorem d_X1_count_86 : decode c_X1_count 86 = .ok (.invokevirtual 103, 3) := by decide +kernel
theorem d_X1_count_89 : decode c_X1_count 89 = .ok (.istore 6, 2) := by decide +kernel
theorem d_X1_count_91 : decode c_X1_count 91 = .ok (.lload_n 2, 1) := by decide +kernel
theorem d_X1_count_92 : decode c_X1_count 92 = .ok (.iload 6, 2) := by decide +kernel
theorem d_X1_count_94 : decode c_X1_count 94 = .ok (.ifCond .le 8, 3) := by decide +kernel
theorem d_X1_count_97 : decode c_X1_count 97 = .ok (.iload 6, 2) := by decide +kernel
theorem d_X1_count_99 : decode c_X1_count 99 = .ok (.goto 4, 3) := by decide +kernel
theorem d_X1_count_102 : decode c_X1_count 102 = .ok (.iconst 1, 1) := by decide +kernel
theorem d_X1_count_103 : decode c_X1_count 103 = .ok (.i2l, 1) := by decide +kernel
theorem d_X1_count_104 : decode c_X1_count 104 = .ok (.ladd, 1) := by decide +kernel
theorem d_X1_count_105 : decode c_X1_count 105 = .ok (.lstore_n 2, 1) := by decide +kernel
theorem d_X1_count_106 : decode c_X1_count 106 = .ok (.goto 31, 3) := by decide +kernel
theorem d_X1_count_109 : decode c_X1_count 109 = .ok (.aload_n 0, 1) := by decide +kernel
theorem d_X1_count_110 : decode c_X1_count 110 = .ok (.getfield 30, 3) := by decide +kernel
theorem d_X1_count_113 : decode c_X1_count 113 = .ok (.iload 4, 2) := by decide +kernel
theorem d_X1_count_115 : decode c_X1_count 115 = .ok (.iaload, 1) := by decide +kernel
theorem d_X1_count_116 : decode c_X1_count 116 = .ok (.sipush (-1000), 3) := by decide +kernel
theorem d_X1_count_119 : decode c_X1_count 119 = .ok (.if_icmp .eq 10, 3) := by decide +kernel
theorem d_X1_count_122 : decode c_X1_count 122 = .ok (.lload_n 2, 1) := by decide +kernel
theorem d_X1_count_123 : decode c_X1_count 123 = .ok (.lconst 1, 1) := by decide +kernel
theorem d_X1_count_124 : decode c_X1_count 124 = .ok (.ladd, 1) := by decide +kernel
theorem d_X1_count_125 : decode c_X1_count 125 = .ok (.lstore_n 2, 1) := by decide +kernel
theorem d_X1_count_126 : decode c_X1_count 126 = .ok (.goto 11, 3) := by decide +kernel
theorem d_X1_count_129 : decode c_X1_count 129 = .ok (.aload_n 0, 1) := by decide +kernel
theorem d_X1_count_130 : decode c_X1_count 130 = .ok (.iload 4, 2) := by decide +kernel
theorem d_X1_count_132 : decode c_X1_count 132 = .ok (.invokevirtual 113, 3) := by decide +kernel
theorem d_X1_count_135 : decode c_X1_count 135 = .ok (.istore 5, 2) := by decide +kernel
theorem d_X1_count_137 : decode c_X1_count 137 = .ok (.iload 5, 2) := by decide +kernel
theorem d_X1_count_139 : decode c_X1_count 139 = .ok (.sipush (-1000), 3) := by decide +kernel
theorem d_X1_count_142 : decode c_X1_count 142 = .ok (.if_icmp .ne 9, 3) := by decide +kernel
theorem d_X1_count_145 : decode c_X1_count 145 = .ok (.iinc 4 (-1), 3) := by decide +kernel
theorem d_X1_count_148 : decode c_X1_count 148 = .ok (.goto 20, 3) := by decide +kernel
theorem d_X1_count_151 : decode c_X1_count 151 = .ok (.aload_n 0, 1) := by decide +kernel
theorem d_X1_count_152 : decode c_X1_count 152 = .ok (.iload 4, 2) := by decide +kernel
theorem d_X1_count_154 : decode c_X1_count 154 = .ok (.iload 5, 2) := by decide +kernel
theorem d_X1_count_156 : decode c_X1_count 156 = .ok (.invokevirtual 116, 3) := by decide +kernel
theorem d_X1_count_159 : decode c_X1_count 159 = .ok (.iinc 4 1, 3) := by decide +kernel
theorem d_X1_count_162 : decode c_X1_count 162 = .ok (.aload_n 0, 1) := by decide +kernel
theorem d_X1_count_163 : decode c_X1_count 163 = .ok (.iload 4, 2) := by decide +kernel
theorem d_X1_count_165 : decode c_X1_count 165 = .ok (.invokevirtual 109, 3) := by decide +kernel
theorem d_X1_count_168 : decode c_X1_count 168 = .ok (.goto (-112), 3) := by decide +kernel
theorem d_X1_count_171 : decode c_X1_count 171 = .ok (.lload_n 2, 1) := by decide +kernel
theorem d_X1_count_172 : decode c_X1_count 172 = .ok (.lreturn, 1) := by decide +kernel
theorem d_X1_empties_0 : decode c_X1_empties 0 = .ok (.bipush 64, 2) := by decide +kernel
theorem d_X1_empties_2 : decode c_X1_empties 2 = .ok (.aload_n 0, 1) := by decide +kernel
theorem d_X1_empties_3 : decode c_X1_empties 3 = .ok (.iconst 0, 1) := by decide +kernel
theorem d_X1_empties_4 : decode c_X1_empties 4 = .ok (.iconst 0, 1) := by decide +kernel
theorem d_X1_empties_5 : decode c_X1_empties 5 = .ok (.invokevirtual 93, 3) := by decide +kernel
theorem d_X1_empties_8 : decode c_X1_empties 8 = .ok (.isub, 1) := by decide +kernel
theorem d_X1_empties_9 : decode c_X1_empties 9 = .ok (.aload_n 0, 1) := by decide +kernel
theorem d_X1_empties_10 : decode c_X1_empties 10 = .ok (.iconst 0, 1) := by decide +kernel
theorem d_X1_empties_11 : decode c_X1_empties 11 = .ok (.iconst 1, 1) := by decide +kernel
theorem d_X1_empties_12 : decode c_X1_empties 12 = .ok (.invokevirtual 93, 3) := by decide +kernel
theorem d_X1_empties_15 : decode c_X1_empties 15 = .ok (.isub, 1) := by decide +kernel
theorem d_X1_empties_16 : decode c_X1_empties 16 = .ok (.ireturn, 1) := by decide +kernel
theorem d_X1_search_0 : decode c_X1_search 0 = .ok (.iconst 0, 1) := by decide +kernel
theorem d_X1_search_1 : decode c_X1_search 1 = .ok (.istore_n 1, 1) := by decide +kernel
theorem d_X1_search_2 : decode c_X1_search 2 = .ok (.aload_n 0, 1) := by decide +kernel
theorem d_X1_search_3 : decode c_X1_search 3 = .ok (.bipush 65, 2) := by decide +kernel
theorem d_X1_search_5 : decode c_X1_search 5 = .ok (.putfield 120, 3) := by decide +kernel
theorem d_X1_search_8 : decode c_X1_search 8 = .ok (.aload_n 0, 1) := by decide +kernel
theorem d_X1_search_9 : decode c_X1_search 9 = .ok (.invokevirtual 106, 3) := by decide +kernel
theorem d_X1_search_12 : decode c_X1_search 12 = .ok (.aload_n 0, 1) := by decide +kernel
theorem d_X1_search_13 : decode c_X1_search 13 = .ok (.iconst 0, 1) := by decide +kernel
theorem d_X1_search_14 : decode c_X1_search 14 = .ok (.invokevirtual 109, 3) := by decide +kernel
theorem d_X1_search_17 : decode c_X1_search 17 = .ok (.iconst 1, 1) := by decide +kernel
theorem d_X1_search_18 : decode c_X1_search 18 = .ok (.istore_n 2, 1) := by decide +kernel
theorem d_X1_search_19 : decode c_X1_search 19 = .ok (.iload_n 2, 1) := by decide +kernel
theorem d_X1_search_20 : decode c_X1_search 20 = .ok (.ifCond .eq 124, 3) := by decide +kernel
theorem d_X1_search_23 : decode c_X1_search 23 = .ok (.aload_n 0, 1) := by decide +kernel
theorem d_X1_search_24 : decode c_X1_search 24 = .ok (.iload_n 1, 1) := by decide +kernel
theorem d_X1_search_25 : decode c_X1_search 25 = .ok (.invokevirtual 113, 3) := by decide +kernel
theorem d_X1_search_28 : decode c_X1_search 28 = .ok (.istore_n 3, 1) := by decide +kernel
theorem d_X1_search_29 : decode c_X1_search 29 = .ok (.iload_n 3, 1) := by decide +kernel
theorem d_X1_search_30 : decode c_X1_search 30 = .ok (.sipush (-1000), 3) := by decide +kernel
theorem d_X1_search_33 : decode c_X1_search 33 = .ok (.if_icmp .eq 27, 3) := by decide +kernel
theorem d_X1_search_36 : decode c_X1_search 36 = .ok (.aload_n 0, 1) := by decide +kernel
theorem d_X1_search_37 : decode c_X1_search 37 = .ok (.getfield 33, 3) := by decide +kernel
theorem d_X1_search_40 : decode c_X1_search 40 = .ok (.iload_n 1, 1) := by decide +kernel
theorem d_X1_search_41 : decode c_X1_search 41 = .ok (.iload_n 3, 1) := by decide +kernel
theorem d_X1_search_42 : decode c_X1_search 42 = .ok (.iastore, 1) := by decide +kernel
theorem d_X1_search_43 : decode c_X1_search 43 = .ok (.aload_n 0, 1) := by decide +kernel
theorem d_X1_search_44 : decode c_X1_search 44 = .ok (.iload_n 1, 1) := by decide +kernel
theorem d_X1_search_45 : decode c_X1_search 45 = .ok (.iload_n 3, 1) := by decide +kernel
theorem d_X1_search_46 : decode c_X1_search 46 = .ok (.invokevirtual 116, 3) := by decide +kernel
theorem d_X1_search_49 : decode c_X1_search 49 = .ok (.iinc 1 1, 3) := by decide +kernel
theorem d_X1_search_52 : decode c_X1_search 52 = .ok (.aload_n 0, 1) := by decide +kernel
theorem d_X1_search_53 : decode c_X1_search 53 = .ok (.iload_n 1, 1) := by decide +kernel
theorem d_X1_search_54 : decode c_X1_search 54 = .ok (.invokevirtual 109, 3) := by decide +kernel
theorem d_X1_search_57 : decode c_X1_search 57 = .ok (.goto 84, 3) := by decide +kernel
theorem d_X1_search_60 : decode c_X1_search 60 = .ok (.iload_n 1, 1) := by decide +kernel
theorem d_X1_search_61 : decode c_X1_search 61 = .ok (.ifCond .le 78, 3) := by decide +kernel
theorem d_X1_search_64 : decode c_X1_search 64 = .ok (.aload_n 0, 1) := by decide +kernel
theorem d_X1_search_65 : decode c_X1_search 65 = .ok (.getfield 30, 3) := by decide +kernel
theorem d_X1_search_68 : decode c_X1_search 68 = .ok (.iload_n 1, 1) := by decide +kernel
theorem d_X1_search_69 : decode c_X1_search 69 = .ok (.iaload, 1) := by decide +kernel
theorem d_X1_search_70 : decode c_X1_search 70 = .ok (.ineg, 1) := by decide +kernel
theorem d_X1_search_71 : decode c_X1_search 71 = .ok (.istore 4, 2) := by decide +kernel
theorem d_X1_search_73 : decode c_X1_search 73 = .ok (.iinc 1 (-1), 3) := by decide +kernel
theorem d_X1_search_76 : decode c_X1_search 76 = .ok (.aload_n 0, 1) := by decide +kernel
theorem d_X1_search_77 : decode c_X1_search 77 = .ok (.iload_n 1, 1) := by decide +kernel
theorem d_X1_search_78 : decode c_X1_search 78 = .ok (.ifCond .ne 23, 3) := by decide +kernel
theorem d_X1_search_81 : decode c_X1_search 81 = .ok (.iload 4, 2) := by decide +kernel
theorem d_X1_search_83 : decode c_X1_search 83 = .ok (.aload_n 0, 1) := by decide +kernel
theorem d_X1_search_84 : decode c_X1_search 84 = .ok (.getfield 30, 3) := by decide +kernel
theorem d_X1_search_87 : decode c_X1_search 87 = .ok (.iconst 0, 1) := by decide +kernel
theorem d_X1_search_88 : decode c_X1_search 88 = .ok (.iaload, 1) := by decide +kernel
theorem d_X1_search_89 : decode c_X1_search 89 = .ok (.if_icmp .le 12, 3) := by decide +kernel
theorem d_X1_search_92 : decode c_X1_search 92 = .ok (.aload_n 0, 1) := by decide +kernel
theorem d_X1_search_93 : decode c_X1_search 93 = .ok (.getfield 33, 3) := by decide +kernel
theorem d_X1_search_96 : decode c_X1_search 96 = .ok (.iconst 0, 1) := by decide +kernel
theorem d_X1_search_97 : decode c_X1_search 97 = .ok (.iaload, 1) := by decide +kernel
theorem d_X1_search_98 : decode c_X1_search 98 = .ok (.goto 7, 3) := by decide +kernel
theorem d_X1_search_101 : decode c_X1_search 101 = .ok (.aload_n 0, 1) := by decide +kernel
theorem d_X1_search_102 : decode c_X1_search 102 = .ok (.getfield 120, 3) := by decide +kernel
theorem d_X1_search_105 : decode c_X1_search 105 = .ok (.putfield 120, 3) := by decide +kernel
theorem d_X1_search_108 : decode c_X1_search 108 = .ok (.aload_n 0, 1) := by decide +kernel
theorem d_X1_search_109 : decode c_X1_search 109 = .ok (.getfield 30, 3) := by decide +kernel
theorem d_X1_search_112 : decode c_X1_search 112 = .ok (.iload_n 1, 1) := by decide +kernel
theorem d_X1_search_113 : decode c_X1_search 113 = .ok (.iload 4, 2) := by decide +kernel
theorem d_X1_search_115 : decode c_X1_search 115 = .ok (.aload_n 0, 1) := by decide +kernel
theorem d_X1_search_116 : decode c_X1_search 116 = .ok (.getfield 30, 3) := by decide +kernel
theorem d_X1_search_119 : decode c_X1_search 119 = .ok (.iload_n 1, 1) := by decide +kernel
theorem d_X1_search_120 : decode c_X1_search 120 = .ok (.iaload, 1) := by decide +kernel
theorem d_X1_search_121 : decode c_X1_search 121 = .ok (.if_icmp .le 8, 3) := by decide +kernel
theorem d_X1_search_124 : decode c_X1_search 124 = .ok (.iload 4, 2) := by decide +kernel
theorem d_X1_search_126 : decode c_X1_search 126 = .ok (.goto 9, 3) := by decide +kernel
theorem d_X1_search_129 : decode c_X1_search 129 = .ok (.aload_n 0, 1) := by decide +kernel
theorem d_X1_search_130 : decode c_X1_search 130 = .ok (.getfield 30, 3) := by decide +kernel
theorem d_X1_search_133 : decode c_X1_search 133 = .ok (.iload_n 1, 1) := by decide +kernel
theorem d_X1_search_134 : decode c_X1_search 134 = .ok (.iaload, 1) := by decide +kernel
theorem d_X1_search_135 : decode c_X1_search 135 = .ok (.iastore, 1) := by decide +kernel
theorem d_X1_search_136 : decode c_X1_search 136 = .ok (.goto 5, 3) := by decide +kernel
theorem d_X1_search_139 : decode c_X1_search 139 = .ok (.iconst 0, 1) := by decide +kernel
theorem d_X1_search_140 : decode c_X1_search 140 = .ok (.istore_n 2, 1) := by decide +kernel
theorem d_X1_search_141 : decode c_X1_search 141 = .ok (.goto (-122), 3) := by decide +kernel
theorem d_X1_search_144 : decode c_X1_search 144 = .ok (.aload_n 0, 1) := by decide +kernel
theorem d_X1_search_145 : decode c_X1_search 145 = .ok (.getfield 30, 3) := by decide +kernel
theorem d_X1_search_148 : decode c_X1_search 148 = .ok (.iconst 0, 1) := by decide +kernel
theorem d_X1_search_149 : decode c_X1_search 149 = .ok (.iaload, 1) := by decide +kernel
theorem d_X1_search_150 : decode c_X1_search 150 = .ok (.ireturn, 1) := by decide +kernel
theorem d_X1_outcome_0 : decode c_X1_outcome 0 = .ok (.aload_n 0, 1) := by decide +kernel
theorem d_X1_outcome_1 : decode c_X1_outcome 1 = .ok (.aload_n 0, 1) := by decide +kernel
theorem d_X1_outcome_2 : decode c_X1_outcome 2 = .ok (.invokevirtual 123, 3) := by decide +kernel
theorem d_X1_outcome_5 : decode c_X1_outcome 5 = .ok (.bipush 7, 2) := by decide +kernel
theorem d_X1_outcome_7 : decode c_X1_outcome 7 = .ok (.if_icmp .le 7, 3) := by decide +kernel
theorem d_X1_outcome_10 : decode c_X1_outcome 10 = .ok (.iconst 1, 1) := by decide +kernel
theorem d_X1_outcome_11 : decode c_X1_outcome 11 = .ok (.goto 4, 3) := by decide +kernel
theorem d_X1_outcome_14 : decode c_X1_outcome 14 = .ok (.iconst 0, 1) := by decide +kernel
theorem d_X1_outcome_15 : decode c_X1_outcome 15 = .ok (.putfield 45, 3) := by decide +kernel
theorem d_X1_outcome_18 : decode c_X1_outcome 18 = .ok (.aload_n 0, 1) := by decide +kernel
theorem d_X1_outcome_19 : decode c_X1_outcome 19 = .ok (.getfield 45, 3) := by decide +kernel
theorem d_X1_outcome_22 : decode c_X1_outcome 22 = .ok (.ifCond .le 7, 3) := by decide +kernel
theorem d_X1_outcome_25 : decode c_X1_outcome 25 = .ok (.iconst 0, 1) := by decide +kernel
theorem d_X1_outcome_26 : decode c_X1_outcome 26 = .ok (.goto 7, 3) := by decide +kernel
theorem d_X1_outcome_29 : decode c_X1_outcome 29 = .ok (.aload_n 0, 1) := by decide +kernel
theorem d_X1_outcome_30 : decode c_X1_outcome 30 = .ok (.invokevirtual 127, 3) := by decide +kernel
theorem d_X1_outcome_33 : decode c_X1_outcome 33 = .ok (.ireturn, 1) := by decide +kernel
theorem d_X1_best_0 : decode c_X1_best 0 = .ok (.aload_n 0, 1) := by decide +kernel
theorem d_X1_best_1 : decode c_X1_best 1 = .ok (.aload_n 0, 1) := by decide +kernel
theorem d_X1_best_2 : decode c_X1_best 2 = .ok (.invokevirtual 123, 3) := by decide +kernel
theorem d_X1_best_5 : decode c_X1_best 5 = .ok (.bipush 7, 2) := by decide +kernel
theorem d_X1_best_7 : decode c_X1_best 7 = .ok (.if_icmp .le 7, 3) := by decide +kernel
theorem d_X1_best_10 : decode c_X1_best 10 = .ok (.iconst 1, 1) := by decide +kernel
theorem d_X1_best_11 : decode c_X1_best 11 = .ok (.goto 4, 3) := by decide +kernel
theorem d_X1_best_14 : decode c_X1_best 14 = .ok (.iconst 0, 1) := by decide +kernel
theorem d_X1_best_15 : decode c_X1_best 15 = .ok (.putfield 45, 3) := by decide +kernel
theorem d_X1_best_18 : decode c_X1_best 18 = .ok (.aload_n 0, 1) := by decide +kernel
theorem d_X1_best_19 : decode c_X1_best 19 = .ok (.getfield 45, 3) := by decide +kernel
theorem d_X1_best_22 : decode c_X1_best 22 = .ok (.ifCond .le 7, 3) := by decide +kernel
theorem d_X1_best_25 : decode c_X1_best 25 = .ok (.iconst 0, 1) := by decide +kernel
theorem d_X1_best_26 : decode c_X1_best 26 = .ok (.goto 7, 3) := by decide +kernel
theorem d_X1_best_29 : decode c_X1_best 29 = .ok (.aload_n 0, 1) := by decide +kernel
theorem d_X1_best_30 : decode c_X1_best 30 = .ok (.invokevirtual 127, 3) := by decide +kernel
theorem d_X1_best_33 : decode c_X1_best 33 = .ok (.istore_n 1, 1) := by decide +kernel
theorem d_X1_best_34 : decode c_X1_best 34 = .ok (.aload_n 0, 1) := by decide +kernel
theorem d_X1_best_35 : decode c_X1_best 35 = .ok (.getfield 45, 3) := by decide +kernel
theorem d_X1_best_38 : decode c_X1_best 38 = .ok (.ifCond .le 7, 3) := by decide +kernel
theorem d_X1_best_41 : decode c_X1_best 41 = .ok (.iconst 0, 1) := by decide +kernel
theorem d_X1_best_42 : decode c_X1_best 42 = .ok (.goto 19, 3) := by decide +kernel
theorem d_X1_best_45 : decode c_X1_best 45 = .ok (.iload_n 1, 1) := by decide +kernel
theorem d_X1_best_46 : decode c_X1_best 46 = .ok (.sipush (-1000), 3) := by decide +kernel
theorem d_X1_best_49 : decode c_X1_best 49 = .ok (.if_icmp .le 10, 3) := by decide +kernel
theorem d_X1_best_52 : decode c_X1_best 52 = .ok (.aload_n 0, 1) := by decide +kernel
theorem d_X1_best_53 : decode c_X1_best 53 = .ok (.getfield 120, 3) := by decide +kernel
theorem d_X1_best_56 : decode c_X1_best 56 = .ok (.goto 5, 3) := by decide +kernel
theorem d_X1_best_59 : decode c_X1_best 59 = .ok (.bipush 65, 2) := by decide +kernel
theorem d_X1_best_61 : decode c_X1_best 61 = .ok (.ireturn, 1) := by decide +kernel
theorem d_X1_finish_0 : decode c_X1_finish 0 = .ok (.aload_n 0, 1) := by decide +kernel
theorem d_X1_finish_1 : decode c_X1_finish 1 = .ok (.aload_n 0, 1) := by decide +kernel
theorem d_X1_finish_2 : decode c_X1_finish 2 = .ok (.invokevirtual 123, 3) := by decide +kernel
theorem d_X1_finish_5 : decode c_X1_finish 5 = .ok (.bipush 7, 2) := by decide +kernel
theorem d_X1_finish_7 : decode c_X1_finish 7 = .ok (.if_icmp .le 7, 3) := by decide +kernel
theorem d_X1_finish_10 : decode c_X1_finish 10 = .ok (.iconst 1, 1) := by decide +kernel
theorem d_X1_finish_11 : decode c_X1_finish 11 = .ok (.goto 4, 3) := by decide +kernel
theorem d_X1_finish_14 : decode c_X1_finish 14 = .ok (.iconst 0, 1) := by decide +kernel
theorem d_X1_finish_15 : decode c_X1_finish 15 = .ok (.putfield 45, 3) := by decide +kernel
theorem d_X1_finish_18 : decode c_X1_finish 18 = .ok (.aload_n 0, 1) := by decide +kernel
theorem d_X1_finish_19 : decode c_X1_finish 19 = .ok (.getfield 45, 3) := by decide +kernel
theorem d_X1_finish_22 : decode c_X1_finish 22 = .ok (.ifCond .le 5, 3) := by decide +kernel
theorem d_X1_finish_25 : decode c_X1_finish 25 = .ok (.iconst 0, 1) := by decide +kernel
theorem d_X1_finish_26 : decode c_X1_finish 26 = .ok (.ireturn, 1) := by decide +kernel
theorem d_X1_finish_27 : decode c_X1_finish 27 = .ok (.aload_n 0, 1) := by decide +kernel
theorem d_X1_finish_28 : decode c_X1_finish 28 = .ok (.getfield 49, 3) := by decide +kernel
theorem d_X1_finish_31 : decode c_X1_finish 31 = .ok (.istore_n 1, 1) := by decide +kernel
theorem d_X1_finish_32 : decode c_X1_finish 32 = .ok (.aload_n 0, 1) := by decide +kernel
theorem d_X1_finish_33 : decode c_X1_finish 33 = .ok (.getfield 13, 3) := by decide +kernel
theorem d_X1_finish_36 : decode c_X1_finish 36 = .ok (.iconst 0, 1) := by decide +kernel
theorem d_X1_finish_37 : decode c_X1_finish 37 = .ok (.iaload, 1) := by decide +kernel
theorem d_X1_finish_38 : decode c_X1_finish 38 = .ok (.istore_n 2, 1) := by decide +kernel
theorem d_X1_finish_39 : decode c_X1_finish 39 = .ok (.iconst 0, 1) := by decide +kernel
theorem d_X1_finish_40 : decode c_X1_finish 40 = .ok (.istore_n 3, 1) := by decide +kernel
theorem d_X1_finish_41 : decode c_X1_finish 41 = .ok (.iload_n 3, 1) := by decide +kernel
theorem d_X1_finish_42 : decode c_X1_finish 42 = .ok (.bipush 64, 2) := by decide +kernel
theorem d_X1_finish_44 : decode c_X1_finish 44 = .ok (.if_icmp .ge 21, 3) := by decide +kernel
theorem d_X1_finish_47 : decode c_X1_finish 47 = .ok (.aload_n 0, 1) := by decide +kernel
theorem d_X1_finish_48 : decode c_X1_finish 48 = .ok (.getfield 39, 3) := by decide +kernel
theorem d_X1_finish_51 : decode c_X1_finish 51 = .ok (.iload_n 3, 1) := by decide +kernel
theorem d_X1_finish_52 : decode c_X1_finish 52 = .ok (.aload_n 0, 1) := by decide +kernel
theorem d_X1_finish_53 : decode c_X1_finish 53 = .ok (.getfield 7, 3) := by decide +kernel
theorem d_X1_finish_56 : decode c_X1_finish 56 = .ok (.iload_n 3, 1) := by decide +kernel
theorem d_X1_finish_57 : decode c_X1_finish 57 = .ok (.iaload, 1) := by decide +kernel
theorem d_X1_finish_58 : decode c_X1_finish 58 = .ok (.iastore, 1) := by decide +kernel
theorem d_X1_finish_59 : decode c_X1_finish 59 = .ok (.iinc 3 1, 3) := by decide +kernel
theorem d_X1_finish_62 : decode c_X1_finish 62 = .ok (.goto (-21), 3) := by decide +kernel
theorem d_X1_finish_65 : decode c_X1_finish 65 = .ok (.aload_n 0, 1) := by decide +kernel
theorem d_X1_finish_66 : decode c_X1_finish 66 = .ok (.getfield 45, 3) := by decide +kernel
theorem d_X1_finish_69 : decode c_X1_finish 69 = .ok (.ifCond .ne 46, 3) := by decide +kernel
theorem d_X1_finish_72 : decode c_X1_finish 72 = .ok (.aload_n 0, 1) := by decide +kernel
theorem d_X1_finish_73 : decode c_X1_finish 73 = .ok (.iconst 0, 1) := by decide +kernel
theorem d_X1_finish_74 : decode c_X1_finish 74 = .ok (.invokevirtual 79, 3) := by decide +kernel
theorem d_X1_finish_77 : decode c_X1_finish 77 = .ok (.ifCond .ne 38, 3) := by decide +kernel
theorem d_X1_finish_80 : decode c_X1_finish 80 = .ok (.aload_n 0, 1) := by decide +kernel
theorem d_X1_finish_81 : decode c_X1_finish 81 = .ok (.invokevirtual 127, 3) := by decide +kernel
theorem d_X1_finish_84 : decode c_X1_finish 84 = .ok (.istore_n 3, 1) := by decide +kernel
theorem d_X1_finish_85 : decode c_X1_finish 85 = .ok (.aload_n 0, 1) := by decide +kernel
theorem d_X1_finish_86 : decode c_X1_finish 86 = .ok (.getfield 49, 3) := by decide +kernel
theorem d_X1_finish_89 : decode c_X1_finish 89 = .ok (.bipush 64, 2) := by decide +kernel
theorem d_X1_finish_91 : decode c_X1_finish 91 = .ok (.if_icmp .ne 11, 3) := by decide +kernel
theorem d_X1_finish_94 : decode c_X1_finish 94 = .ok (.aload_n 0, 1) := by decide +kernel
theorem d_X1_finish_95 : decode c_X1_finish 95 = .ok (.iconst 1, 1) := by decide +kernel
theorem d_X1_finish_96 : decode c_X1_finish 96 = .ok (.putfield 45, 3) := by decide +kernel
theorem d_X1_finish_99 : decode c_X1_finish 99 = .ok (.goto 13, 3) := by decide +kernel
theorem d_X1_finish_102 : decode c_X1_finish 102 = .ok (.aload_n 0, 1) := by decide +kernel
theorem d_X1_finish_103 : decode c_X1_finish 103 = .ok (.aload_n 0, 1) := by decide +kernel
theorem d_X1_finish_104 : decode c_X1_finish 104 = .ok (.getfield 120, 3) := by decide +kernel
theorem d_X1_finish_107 : decode c_X1_finish 107 = .ok (.invokevirtual 90, 3) := by decide +kernel
theorem d_X1_finish_110 : decode c_X1_finish 110 = .ok (.istore 4, 2) := by decide +kernel
theorem d_X1_finish_112 : decode c_X1_finish 112 = .ok (.goto (-47), 3) := by decide +kernel
theorem d_X1_finish_115 : decode c_X1_finish 115 = .ok (.aload_n 0, 1) := by decide +kernel
theorem d_X1_finish_116 : decode c_X1_finish 116 = .ok (.getfield 45, 3) := by decide +kernel
theorem d_X1_finish_119 : decode c_X1_finish 119 = .ok (.ifCond .le 43, 3) := by decide +kernel
theorem d_X1_finish_122 : decode c_X1_finish 122 = .ok (.aload_n 0, 1) := by decide +kernel
theorem d_X1_finish_123 : decode c_X1_finish 123 = .ok (.iload_n 1, 1) := by decide +kernel
theorem d_X1_finish_124 : decode c_X1_finish 124 = .ok (.putfield 49, 3) := by decide +kernel
theorem d_X1_finish_127 : decode c_X1_finish 127 = .ok (.aload_n 0, 1) := by decide +kernel
theorem d_X1_finish_128 : decode c_X1_finish 128 = .ok (.getfield 13, 3) := by decide +kernel
theorem d_X1_finish_131 : decode c_X1_finish 131 = .ok (.iconst 0, 1) := by decide +kernel
theorem d_X1_finish_132 : decode c_X1_finish 132 = .ok (.iload_n 2, 1) := by decide +kernel
theorem d_X1_finish_133 : decode c_X1_finish 133 = .ok (.iastore, 1) := by decide +kernel
theorem d_X1_finish_134 : decode c_X1_finish 134 = .ok (.iconst 0, 1) := by decide +kernel
theorem d_X1_finish_135 : decode c_X1_finish 135 = .ok (.istore_n 3, 1) := by decide +kernel
theorem d_X1_finish_136 : decode c_X1_finish 136 = .ok (.iload_n 3, 1) := by decide +kernel
theorem d_X1_finish_137 : decode c_X1_finish 137 = .ok (.bipush 64, 2) := by decide +kernel
theorem d_X1_finish_139 : decode c_X1_finish 139 = .ok (.if_icmp .ge 21, 3) := by decide +kernel
theorem d_X1_finish_142 : decode c_X1_finish 142 = .ok (.aload_n 0, 1) := by decide +kernel
theorem d_X1_finish_143 : decode c_X1_finish 143 = .ok (.getfield 7, 3) := by decide +kernel
theorem d_X1_finish_146 : decode c_X1_finish 146 = .ok (.iload_n 3, 1) := by decide +kernel
theorem d_X1_finish_147 : decode c_X1_finish 147 = .ok (.aload_n 0, 1) := by decide +kernel
theorem d_X1_finish_148 : decode c_X1_finish 148 = .ok (.getfield 39, 3) := by decide +kernel
theorem d_X1_finish_151 : decode c_X1_finish 151 = .ok (.iload_n 3, 1) := by decide +kernel
theorem d_X1_finish_152 : decode c_X1_finish 152 = .ok (.iaload, 1) := by decide +kernel
theorem d_X1_finish_153 : decode c_X1_finish 153 = .ok (.iastore, 1) := by decide +kernel
theorem d_X1_finish_154 : decode c_X1_finish 154 = .ok (.iinc 3 1, 3) := by decide +kernel
theorem d_X1_finish_157 : decode c_X1_finish 157 = .ok (.goto (-21), 3) := by decide +kernel
theorem d_X1_finish_160 : decode c_X1_finish 160 = .ok (.iconst 0, 1) := by decide +kernel
theorem d_X1_finish_161 : decode c_X1_finish 161 = .ok (.ireturn, 1) := by decide +kernel
theorem d_X1_finish_162 : decode c_X1_finish 162 = .ok (.aload_n 0, 1) := by decide +kernel
theorem d_X1_finish_163 : decode c_X1_finish 163 = .ok (.getfield 49, 3) := by decide +kernel
theorem d_X1_finish_166 : decode c_X1_finish 166 = .ok (.iload_n 1, 1) := by decide +kernel
theorem d_X1_finish_167 : decode c_X1_finish 167 = .ok (.isub, 1) := by decide +kernel
theorem d_X1_finish_168 : decode c_X1_finish 168 = .ok (.ireturn, 1) := by decide +kernel
theorem d_X1_border_0 : decode c_X1_border 0 = .ok (.aload_n 0, 1) := by decide +kernel
theorem d_X1_border_1 : decode c_X1_border 1 = .ok (.iload_n 1, 1) := by decide +kernel
theorem d_X1_border_2 : decode c_X1_border 2 = .ok (.ifCond .lt 8, 3) := by decide +kernel
theorem d_X1_border_5 : decode c_X1_border 5 = .ok (.iload_n 1, 1) := by decide +kernel
theorem d_X1_border_6 : decode c_X1_border 6 = .ok (.iconst 1, 1) := by decide +kernel
theorem d_X1_border_7 : decode c_X1_border 7 = .ok (.if_icmp .le 7, 3) := by decide +kernel
theorem d_X1_border_10 : decode c_X1_border 10 = .ok (.iconst 1, 1) := by decide +kernel
theorem d_X1_border_11 : decode c_X1_border 11 = .ok (.goto 4, 3) := by decide +kernel
theorem d_X1_border_14 : decode c_X1_border 14 = .ok (.iconst 0, 1) := by decide +kernel
theorem d_X1_border_15 : decode c_X1_border 15 = .ok (.putfield 45, 3) := by decide +kernel
theorem d_X1_border_18 : decode c_X1_border 18 = .ok (.iconst 0, 1) := by decide +kernel
theorem d_X1_border_19 : decode c_X1_border 19 = .ok (.istore_n 2, 1) := by decide +kernel
theorem d_X1_border_20 : decode c_X1_border 20 = .ok (.iconst 0, 1) := by decide +kernel
theorem d_X1_border_21 : decode c_X1_border 21 = .ok (.istore_n 3, 1) := by decide +kernel
theorem d_X1_border_22 : decode c_X1_border 22 = .ok (.iload_n 3, 1) := by decide +kernel
theorem d_X1_border_23 : decode c_X1_border 23 = .ok (.bipush 64, 2) := by decide +kernel
theorem d_X1_border_25 : decode c_X1_border 25 = .ok (.if_icmp .ge 118, 3) := by decide +kernel
theorem d_X1_border_28 : decode c_X1_border 28 = .ok (.aload_n 0, 1) := by decide +kernel
theorem d_X1_border_29 : decode c_X1_border 29 = .ok (.getfield 45, 3) := by decide +kernel
theorem d_X1_border_32 : decode c_X1_border 32 = .ok (.ifCond .ne 111, 3) := by decide +kernel
theorem d_X1_border_35 : decode c_X1_border 35 = .ok (.iconst 0, 1) := by decide +kernel
theorem d_X1_border_36 : decode c_X1_border 36 = .ok (.istore 4, 2) := by decide +kernel
theorem d_X1_border_38 : decode c_X1_border 38 = .ok (.iconst 0, 1) := by decide +kernel
theorem d_X1_border_39 : decode c_X1_border 39 = .ok (.istore 5, 2) := by decide +kernel
theorem d_X1_border_41 : decode c_X1_border 41 = .ok (.iload 5, 2) := by decide +kernel
theorem d_X1_border_43 : decode c_X1_border 43 = .ok (.bipush 8, 2) := by decide +kernel
theorem d_X1_border_45 : decode c_X1_border 45 = .ok (.if_icmp .ge 70, 3) := by decide +kernel
theorem d_X1_border_48 : decode c_X1_border 48 = .ok (.iload_n 3, 1) := by decide +kernel
theorem d_X1_border_49 : decode c_X1_border 49 = .ok (.bipush 8, 2) := by decide +kernel
theorem d_X1_border_51 : decode c_X1_border 51 = .ok (.idiv, 1) := by decide +kernel
theorem d_X1_border_52 : decode c_X1_border 52 = .ok (.iload 5, 2) := by decide +kernel
theorem d_X1_border_54 : decode c_X1_border 54 = .ok (.invokestatic 52, 3) := by decide +kernel
theorem d_X1_border_57 : decode c_X1_border 57 = .ok (.iadd, 1) := by decide +kernel
theorem d_X1_border_58 : decode c_X1_border 58 = .ok (.istore 6, 2) := by decide +kernel
theorem d_X1_border_60 : decode c_X1_border 60 = .ok (.iload_n 3, 1) := by decide +kernel
theorem d_X1_border_61 : decode c_X1_border 61 = .ok (.bipush 8, 2) := by decide +kernel
theorem d_X1_border_63 : decode c_X1_border 63 = .ok (.irem, 1) := by decide +kernel
theorem d_X1_border_64 : decode c_X1_border 64 = .ok (.iload 5, 2) := by decide +kernel
theorem d_X1_border_66 : decode c_X1_border 66 = .ok (.invokestatic 56, 3) := by decide +kernel
theorem d_X1_border_69 : decode c_X1_border 69 = .ok (.iadd, 1) := by decide +kernel
theorem d_X1_border_70 : decode c_X1_border 70 = .ok (.istore 7, 2) := by decide +kernel
theorem d_X1_border_72 : decode c_X1_border 72 = .ok (.iload 4, 2) := by decide +kernel
theorem d_X1_border_74 : decode c_X1_border 74 = .ok (.ifCond .ne 28, 3) := by decide +kernel
theorem d_X1_border_77 : decode c_X1_border 77 = .ok (.iload 6, 2) := by decide +kernel
theorem d_X1_border_79 : decode c_X1_border 79 = .ok (.iload 7, 2) := by decide +kernel
theorem d_X1_border_81 : decode c_X1_border 81 = .ok (.invokestatic 59, 3) := by decide +kernel
theorem d_X1_border_84 : decode c_X1_border 84 = .ok (.ifCond .eq 22, 3) := by decide +kernel
theorem d_X1_border_87 : decode c_X1_border 87 = .ok (.aload_n 0, 1) := by decide +kernel
theorem d_X1_border_88 : decode c_X1_border 88 = .ok (.iconst 0, 1) := by decide +kernel
theorem d_X1_border_89 : decode c_X1_border 89 = .ok (.iload 6, 2) := by decide +kernel
theorem d_X1_border_91 : decode c_X1_border 91 = .ok (.iload 7, 2) := by decide +kernel
theorem d_X1_border_93 : decode c_X1_border 93 = .ok (.invokevirtual 63, 3) := by decide +kernel
theorem d_X1_border_96 : decode c_X1_border 96 = .ok (.iload_n 1, 1) := by decide +kernel
theorem d_X1_border_97 : decode c_X1_border 97 = .ok (.iconst 1, 1) := by decide +kernel
theorem d_X1_border_98 : decode c_X1_border 98 = .ok (.iadd, 1) := by decide +kernel
theorem d_X1_border_99 : decode c_X1_border 99 = .ok (.if_icmp .ne 7, 3) := by decide +kernel
theorem d_X1_border_102 : decode c_X1_border 102 = .ok (.iconst 1, 1) := by decide +kernel
theorem d_X1_border_103 : decode c_X1_border 103 = .ok (.goto 4, 3) := by decide +kernel
theorem d_X1_border_106 : decode c_X1_border 106 = .ok (.iconst 0, 1) := by decide +kernel
theorem d_X1_border_107 : decode c_X1_border 107 = .ok (.istore 4, 2) := by decide +kernel
theorem d_X1_border_109 : decode c_X1_border 109 = .ok (.iinc 5 1, 3) := by decide +kernel
theorem d_X1_border_112 : decode c_X1_border 112 = .ok (.goto (-71), 3) := by decide +kernel
theorem d_X1_border_115 : decode c_X1_border 115 = .ok (.aload_n 0, 1) := by decide +kernel
theorem d_X1_border_116 : decode c_X1_border 116 = .ok (.getfield 7, 3) := by decide +kernel
theorem d_X1_border_119 : decode c_X1_border 119 = .ok (.iload_n 3, 1) := by decide +kernel
theorem d_X1_border_120 : decode c_X1_border 120 = .ok (.iaload, 1) := by decide +kernel
theorem d_X1_border_121 : decode c_X1_border 121 = .ok (.ifCond .ne 14, 3) := by decide +kernel
theorem d_X1_border_124 : decode c_X1_border 124 = .ok (.iload 4, 2) := by decide +kernel
theorem d_X1_border_126 : decode c_X1_border 126 = .ok (.ifCond .eq 9, 3) := by decide +kernel
theorem d_X1_border_129 : decode c_X1_border 129 = .ok (.iload_n 2, 1) := by decide +kernel
theorem d_X1_border_130 : decode c_X1_border 130 = .ok (.iconst 1, 1) := by decide +kernel
theorem d_X1_border_131 : decode c_X1_border 131 = .ok (.iadd, 1) := by decide +kernel
theorem d_X1_border_132 : decode c_X1_border 132 = .ok (.goto 4, 3) := by decide +kernel
theorem d_X1_border_135 : decode c_X1_border 135 = .ok (.iload_n 2, 1) := by decide +kernel
theorem d_X1_border_136 : decode c_X1_border 136 = .ok (.istore_n 2, 1) := by decide +kernel
theorem d_X1_border_137 : decode c_X1_border 137 = .ok (.iinc 3 1, 3) := by decide +kernel
theorem d_X1_border_140 : decode c_X1_border 140 = .ok (.goto (-118), 3) := by decide +kernel
theorem d_X1_border_143 : decode c_X1_border 143 = .ok (.iload_n 2, 1) := by decide +kernel
theorem d_X1_border_144 : decode c_X1_border 144 = .ok (.ireturn, 1) := by decide +kernel
theorem d_X1_isFull_0 : decode c_X1_isFull 0 = .ok (.iload_n 1, 1) := by decide +kernel
theorem d_X1_isFull_1 : decode c_X1_isFull 1 = .ok (.bipush 8, 2) := by decide +kernel
theorem d_X1_isFull_3 : decode c_X1_isFull 3 = .ok (.idiv, 1) := by decide +kernel
theorem d_X1_isFull_4 : decode c_X1_isFull 4 = .ok (.iload_n 2, 1) := by decide +kernel
theorem d_X1_isFull_5 : decode c_X1_isFull 5 = .ok (.invokestatic 52, 3) := by decide +kernel
theorem d_X1_isFull_8 : decode c_X1_isFull 8 = .ok (.iadd, 1) := by decide +kernel
theorem d_X1_isFull_9 : decode c_X1_isFull 9 = .ok (.istore 4, 2) := by decide +kernel
theorem d_X1_isFull_11 : decode c_X1_isFull 11 = .ok (.iload_n 1, 1) := by decide +kernel
theorem d_X1_isFull_12 : decode c_X1_isFull 12 = .ok (.bipush 8, 2) := by decide +kernel
theorem d_X1_isFull_14 : decode c_X1_isFull 14 = .ok (.irem, 1) := by decide +kernel
theorem d_X1_isFull_15 : decode c_X1_isFull 15 = .ok (.iload_n 2, 1) := by decide +kernel
theorem d_X1_isFull_16 : decode c_X1_isFull 16 = .ok (.invokestatic 56, 3) := by decide +kernel
theorem d_X1_isFull_19 : decode c_X1_isFull 19 = .ok (.iadd, 1) := by decide +kernel
theorem d_X1_isFull_20 : decode c_X1_isFull 20 = .ok (.istore 5, 2) := by decide +kernel
theorem d_X1_isFull_22 : decode c_X1_isFull 22 = .ok (.iload 4, 2) := by decide +kernel
theorem d_X1_isFull_24 : decode c_X1_isFull 24 = .ok (.iload 5, 2) := by decide +kernel
theorem d_X1_isFull_26 : decode c_X1_isFull 26 = .ok (.invokestatic 59, 3) := by decide +kernel
theorem d_X1_isFull_29 : decode c_X1_isFull 29 = .ok (.ifCond .eq 39, 3) := by decide +kernel
theorem d_X1_isFull_32 : decode c_X1_isFull 32 = .ok (.aload_n 0, 1) := by decide +kernel
theorem d_X1_isFull_33 : decode c_X1_isFull 33 = .ok (.iconst 0, 1) := by decide +kernel
theorem d_X1_isFull_34 : decode c_X1_isFull 34 = .ok (.iload 4, 2) := by decide +kernel
theorem d_X1_isFull_36 : decode c_X1_isFull 36 = .ok (.iload 5, 2) := by decide +kernel
theorem d_X1_isFull_38 : decode c_X1_isFull 38 = .ok (.invokevirtual 63, 3) := by decide +kernel
theorem d_X1_isFull_41 : decode c_X1_isFull 41 = .ok (.iload_n 3, 1) := by decide +kernel
theorem d_X1_isFull_42 : decode c_X1_isFull 42 = .ok (.iconst 1, 1) := by decide +kernel
theorem d_X1_isFull_43 : decode c_X1_isFull 43 = .ok (.iadd, 1) := by decide +kernel
theorem d_X1_isFull_44 : decode c_X1_isFull 44 = .ok (.if_icmp .ne 24, 3) := by decide +kernel
theorem d_X1_isFull_47 : decode c_X1_isFull 47 = .ok (.iload 4, 2) := by decide +kernel
theorem d_X1_isFull_49 : decode c_X1_isFull 49 = .ok (.iload_n 2, 1) := by decide +kernel
theorem d_X1_isFull_50 : decode c_X1_isFull 50 = .ok (.invokestatic 52, 3) := by decide +kernel
theorem d_X1_isFull_53 : decode c_X1_isFull 53 = .ok (.iadd, 1) := by decide +kernel
theorem d_X1_isFull_54 : decode c_X1_isFull 54 = .ok (.istore 4, 2) := by decide +kernel
theorem d_X1_isFull_56 : decode c_X1_isFull 56 = .ok (.iload 5, 2) := by decide +kernel
theorem d_X1_isFull_58 : decode c_X1_isFull 58 = .ok (.iload_n 2, 1) := by decide +kernel
theorem d_X1_isFull_59 : decode c_X1_isFull 59 = .ok (.invokestatic 56, 3) := by decide +kernel
theorem d_X1_isFull_62 : decode c_X1_isFull 62 = .ok (.iadd, 1) := by decide +kernel
theorem d_X1_isFull_63 : decode c_X1_isFull 63 = .ok (.istore 5, 2) := by decide +kernel
theorem d_X1_isFull_65 : decode c_X1_isFull 65 = .ok (.goto (-43), 3) := by decide +kernel
theorem d_X1_isFull_68 : decode c_X1_isFull 68 = .ok (.iload 4, 2) := by decide +kernel
theorem d_X1_isFull_70 : decode c_X1_isFull 70 = .ok (.iload 5, 2) := by decide +kernel
theorem d_X1_isFull_72 : decode c_X1_isFull 72 = .ok (.invokestatic 59, 3) := by decide +kernel
theorem d_X1_isFull_75 : decode c_X1_isFull 75 = .ok (.ifCond .ne 7, 3) := by decide +kernel
theorem d_X1_isFull_78 : decode c_X1_isFull 78 = .ok (.iconst 1, 1) := by decide +kernel
theorem d_X1_isFull_79 : decode c_X1_isFull 79 = .ok (.goto 4, 3) := by decide +kernel
theorem d_X1_isFull_82 : decode c_X1_isFull 82 = .ok (.iconst 0, 1) := by decide +kernel
theorem d_X1_isFull_83 : decode c_X1_isFull 83 = .ok (.ireturn, 1) := by decide +kernel
theorem d_X1_safe_0 : decode c_X1_safe 0 = .ok (.aload_n 0, 1) := by decide +kernel
theorem d_X1_safe_1 : decode c_X1_safe 1 = .ok (.iload_n 1, 1) := by decide +kernel
theorem d_X1_safe_2 : decode c_X1_safe 2 = .ok (.ifCond .lt 8, 3) := by decide +kernel
theorem d_X1_safe_5 : decode c_X1_safe 5 = .ok (.iload_n 1, 1) := by decide +kernel
theorem d_X1_safe_6 : decode c_X1_safe 6 = .ok (.iconst 1, 1) := by decide +kernel
theorem d_X1_safe_7 : decode c_X1_safe 7 = .ok (.if_icmp .le 7, 3) := by decide +kernel
theorem d_X1_safe_10 : decode c_X1_safe 10 = .ok (.iconst 1, 1) := by decide +kernel
theorem d_X1_safe_11 : decode c_X1_safe 11 = .ok (.goto 4, 3) := by decide +kernel
theorem d_X1_safe_14 : decode c_X1_safe 14 = .ok (.iconst 0, 1) := by decide +kernel
theorem d_X1_safe_15 : decode c_X1_safe 15 = .ok (.putfield 45, 3) := by decide +kernel
theorem d_X1_safe_18 : decode c_X1_safe 18 = .ok (.lconst 0, 1) := by decide +kernel
theorem d_X1_safe_19 : decode c_X1_safe 19 = .ok (.lstore_n 2, 1) := by decide +kernel
theorem d_X1_safe_20 : decode c_X1_safe 20 = .ok (.iconst 0, 1) := by decide +kernel
theorem d_X1_safe_21 : decode c_X1_safe 21 = .ok (.istore 4, 2) := by decide +kernel
theorem d_X1_safe_23 : decode c_X1_safe 23 = .ok (.iload 4, 2) := by decide +kernel
theorem d_X1_safe_25 : decode c_X1_safe 25 = .ok (.bipush 64, 2) := by decide +kernel
theorem d_X1_safe_27 : decode c_X1_safe 27 = .ok (.if_icmp .ge 106, 3) := by decide +kernel
theorem d_X1_safe_30 : decode c_X1_safe 30 = .ok (.aload_n 0, 1) := by decide +kernel
theorem d_X1_safe_31 : decode c_X1_safe 31 = .ok (.getfield 45, 3) := by decide +kernel
theorem d_X1_safe_34 : decode c_X1_safe 34 = .ok (.ifCond .ne 99, 3) := by decide +kernel
theorem d_X1_safe_37 : decode c_X1_safe 37 = .ok (.aload_n 0, 1) := by decide +kernel
theorem d_X1_safe_38 : decode c_X1_safe 38 = .ok (.getfield 7, 3) := by decide +kernel
theorem d_X1_safe_41 : decode c_X1_safe 41 = .ok (.iload 4, 2) := by decide +kernel
theorem d_X1_safe_43 : decode c_X1_safe 43 = .ok (.iaload, 1) := by decide +kernel
theorem d_X1_safe_44 : decode c_X1_safe 44 = .ok (.iload_n 1, 1) := by decide +kernel
theorem d_X1_safe_45 : decode c_X1_safe 45 = .ok (.iconst 1, 1) := by decide +kernel
theorem d_X1_safe_46 : decode c_X1_safe 46 = .ok (.iadd, 1) := by decide +kernel
theorem d_X1_safe_47 : decode c_X1_safe 47 = .ok (.if_icmp .ne 7, 3) := by decide +kernel
theorem d_X1_safe_50 : decode c_X1_safe 50 = .ok (.iconst 1, 1) := by decide +kernel
theorem d_X1_safe_51 : decode c_X1_safe 51 = .ok (.goto 4, 3) := by decide +kernel
theorem d_X1_safe_54 : decode c_X1_safe 54 = .ok (.iconst 0, 1) := by decide +kernel
theorem d_X1_safe_55 : decode c_X1_safe 55 = .ok (.istore 5, 2) := by decide +kernel
theorem d_X1_safe_57 : decode c_X1_safe 57 = .ok (.iconst 0, 1) := by decide +kernel
theorem d_X1_safe_58 : decode c_X1_safe 58 = .ok (.istore 6, 2) := by decide +kernel
theorem d_X1_safe_60 : decode c_X1_safe 60 = .ok (.iload 6, 2) := by decide +kernel
theorem d_X1_safe_62 : decode c_X1_safe 62 = .ok (.iconst 4, 1) := by decide +kernel
theorem d_X1_safe_63 : decode c_X1_safe 63 = .ok (.if_icmp .ge 48, 3) := by decide +kernel
theorem d_X1_safe_66 : decode c_X1_safe 66 = .ok (.iload 5, 2) := by decide +kernel
theorem d_X1_safe_68 : decode c_X1_safe 68 = .ok (.ifCond .eq 43, 3) := by decide +kernel
theorem d_X1_safe_71 : decode c_X1_safe 71 = .ok (.aload_n 0, 1) := by decide +kernel
theorem d_X1_safe_72 : decode c_X1_safe 72 = .ok (.iload 4, 2) := by decide +kernel
theorem d_X1_safe_74 : decode c_X1_safe 74 = .ok (.iload 6, 2) := by decide +kernel
theorem d_X1_safe_76 : decode c_X1_safe 76 = .ok (.iload_n 1, 1) := by decide +kernel
theorem d_X1_safe_77 : decode c_X1_safe 77 = .ok (.invokevirtual 130, 3) := by decide +kernel
theorem d_X1_safe_80 : decode c_X1_safe 80 = .ok (.ifCond .ne 18, 3) := by decide +kernel
theorem d_X1_safe_83 : decode c_X1_safe 83 = .ok (.aload_n 0, 1) := by decide +kernel
theorem d_X1_safe_84 : decode c_X1_safe 84 = .ok (.iload 4, 2) := by decide +kernel
theorem d_X1_safe_86 : decode c_X1_safe 86 = .ok (.bipush 7, 2) := by decide +kernel
theorem d_X1_safe_88 : decode c_X1_safe 88 = .ok (.iload 6, 2) := by decide +kernel
theorem d_X1_safe_90 : decode c_X1_safe 90 = .ok (.isub, 1) := by decide +kernel
theorem d_X1_safe_91 : decode c_X1_safe 91 = .ok (.iload_n 1, 1) := by decide +kernel
theorem d_X1_safe_92 : decode c_X1_safe 92 = .ok (.invokevirtual 130, 3) := by decide +kernel
theorem d_X1_safe_95 : decode c_X1_safe 95 = .ok (.ifCond .eq 7, 3) := by decide +kernel
theorem d_X1_safe_98 : decode c_X1_safe 98 = .ok (.iconst 1, 1) := by decide +kernel
theorem d_X1_safe_99 : decode c_X1_safe 99 = .ok (.goto 4, 3) := by decide +kernel
theorem d_X1_safe_102 : decode c_X1_safe 102 = .ok (.iconst 0, 1) := by decide +kernel
theorem d_X1_safe_103 : decode c_X1_safe 103 = .ok (.istore 5, 2) := by decide +kernel
theorem d_X1_safe_105 : decode c_X1_safe 105 = .ok (.iinc 6 1, 3) := by decide +kernel
theorem d_X1_safe_108 : decode c_X1_safe 108 = .ok (.goto (-48), 3) := by decide +kernel
theorem d_X1_safe_111 : decode c_X1_safe 111 = .ok (.iload 5, 2) := by decide +kernel
theorem d_X1_safe_113 : decode c_X1_safe 113 = .ok (.ifCond .eq 12, 3) := by decide +kernel
theorem d_X1_safe_116 : decode c_X1_safe 116 = .ok (.lload_n 2, 1) := by decide +kernel
theorem d_X1_safe_117 : decode c_X1_safe 117 = .ok (.lconst 1, 1) := by decide +kernel
theorem d_X1_safe_118 : decode c_X1_safe 118 = .ok (.iload 4, 2) := by decide +kernel
theorem d_X1_safe_120 : decode c_X1_safe 120 = .ok (.lshl, 1) := by decide +kernel
theorem d_X1_safe_121 : decode c_X1_safe 121 = .ok (.lor, 1) := by decide +kernel
theorem d_X1_safe_122 : decode c_X1_safe 122 = .ok (.goto 4, 3) := by decide +kernel
theorem d_X1_safe_125 : decode c_X1_safe 125 = .ok (.lload_n 2, 1) := by decide +kernel
theorem d_X1_safe_126 : decode c_X1_safe 126 = .ok (.lstore_n 2, 1) := by decide +kernel
theorem d_X1_safe_127 : decode c_X1_safe 127 = .ok (.iinc 4 1, 3) := by decide +kernel
theorem d_X1_safe_130 : decode c_X1_safe 130 = .ok (.goto (-107), 3) := by decide +kernel
theorem d_X1_safe_133 : decode c_X1_safe 133 = .ok (.lload_n 2, 1) := by decide +kernel
theorem d_X1_safe_134 : decode c_X1_safe 134 = .ok (.lreturn, 1) := by decide +kernel
end
section
theorem d_L_set_0 : decode c_L_set 0 = .ok (.aload_n 0, 1) := by decide +kernel
theorem d_L_set_1 : decode c_L_set 1 = .ok (.lload_n 1, 1) := by decide +kernel
theorem d_L_set_2 : decode c_L_set 2 = .ok (.lload_n 3, 1) := by decide +kernel
theorem d_L_set_3 : decode c_L_set 3 = .ok (.iload 5, 2) := by decide +kernel
theorem d_L_set_5 : decode c_L_set 5 = .ok (.invokevirtual 7, 3) := by decide +kernel
theorem d_L_set_8 : decode c_L_set 8 = .ok (.goto 7, 3) := by decide +kernel
theorem d_L_set_11 : decode c_L_set 11 = .ok (.astore 6, 2) := by decide +kernel
theorem d_L_set_13 : decode c_L_set 13 = .ok (.iconst 1, 1) := by decide +kernel
theorem d_L_set_14 : decode c_L_set 14 = .ok (.ireturn, 1) := by decide +kernel
theorem d_L_set_15 : decode c_L_set 15 = .ok (.iconst 0, 1) := by decide +kernel
theorem d_L_set_16 : decode c_L_set 16 = .ok (.ireturn, 1) := by decide +kernel
theorem d_L_discs_0 : decode c_L_discs 0 = .ok (.aload_n 2, 1) := by decide +kernel
theorem d_L_discs_1 : decode c_L_discs 1 = .ok (.iconst 0, 1) := by decide +kernel
theorem d_L_discs_2 : decode c_L_discs 2 = .ok (.aload_n 0, 1) := by decide +kernel
theorem d_L_discs_3 : decode c_L_discs 3 = .ok (.iload_n 1, 1) := by decide +kernel
theorem d_L_discs_4 : decode c_L_discs 4 = .ok (.invokevirtual 15, 3) := by decide +kernel
theorem d_L_discs_7 : decode c_L_discs 7 = .ok (.lastore, 1) := by decide +kernel
theorem d_L_discs_8 : decode c_L_discs 8 = .ok (.goto 6, 3) := by decide +kernel
theorem d_L_discs_11 : decode c_L_discs 11 = .ok (.astore_n 3, 1) := by decide +kernel
theorem d_L_discs_12 : decode c_L_discs 12 = .ok (.iconst 1, 1) := by decide +kernel
theorem d_L_discs_13 : decode c_L_discs 13 = .ok (.ireturn, 1) := by decide +kernel
theorem d_L_discs_14 : decode c_L_discs 14 = .ok (.iconst 0, 1) := by decide +kernel
theorem d_L_discs_15 : decode c_L_discs 15 = .ok (.ireturn, 1) := by decide +kernel
theorem d_L_turns_0 : decode c_L_turns 0 = .ok (.aload_n 2, 1) := by decide +kernel
theorem d_L_turns_1 : decode c_L_turns 1 = .ok (.iconst 0, 1) := by decide +kernel
theorem d_L_turns_2 : decode c_L_turns 2 = .ok (.aload_n 0, 1) := by decide +kernel
theorem d_L_turns_3 : decode c_L_turns 3 = .ok (.iload_n 1, 1) := by decide +kernel
theorem d_L_turns_4 : decode c_L_turns 4 = .ok (.invokevirtual 19, 3) := by decide +kernel
theorem d_L_turns_7 : decode c_L_turns 7 = .ok (.lastore, 1) := by decide +kernel
theorem d_L_turns_8 : decode c_L_turns 8 = .ok (.goto 6, 3) := by decide +kernel
theorem d_L_turns_11 : decode c_L_turns 11 = .ok (.astore_n 3, 1) := by decide +kernel
theorem d_L_turns_12 : decode c_L_turns 12 = .ok (.iconst 1, 1) := by decide +kernel
theorem d_L_turns_13 : decode c_L_turns 13 = .ok (.ireturn, 1) := by decide +kernel
theorem d_L_turns_14 : decode c_L_turns 14 = .ok (.iconst 0, 1) := by decide +kernel
theorem d_L_turns_15 : decode c_L_turns 15 = .ok (.ireturn, 1) := by decide +kernel
theorem d_L_play_0 : decode c_L_play 0 = .ok (.aload_n 2, 1) := by decide +kernel
theorem d_L_play_1 : decode c_L_play 1 = .ok (.iconst 0, 1) := by decide +kernel
theorem d_L_play_2 : decode c_L_play 2 = .ok (.aload_n 0, 1) := by decide +kernel
theorem d_L_play_3 : decode c_L_play 3 = .ok (.iload_n 1, 1) := by decide +kernel
theorem d_L_play_4 : decode c_L_play 4 = .ok (.invokevirtual 22, 3) := by decide +kernel
theorem d_L_play_7 : decode c_L_play 7 = .ok (.i2l, 1) := by decide +kernel
theorem d_L_play_8 : decode c_L_play 8 = .ok (.lastore, 1) := by decide +kernel
theorem d_L_play_9 : decode c_L_play 9 = .ok (.goto 9, 3) := by decide +kernel
theorem d_L_play_12 : decode c_L_play 12 = .ok (.astore_n 3, 1) := by decide +kernel
theorem d_L_play_13 : decode c_L_play 13 = .ok (.iconst 1, 1) := by decide +kernel
theorem d_L_play_14 : decode c_L_play 14 = .ok (.ireturn, 1) := by decide +kernel
theorem d_L_play_15 : decode c_L_play 15 = .ok (.astore_n 3, 1) := by decide +kernel
theorem d_L_play_16 : decode c_L_play 16 = .ok (.iconst 2, 1) := by decide +kernel
theorem d_L_play_17 : decode c_L_play 17 = .ok (.ireturn, 1) := by decide +kernel
theorem d_L_play_18 : decode c_L_play 18 = .ok (.iconst 0, 1) := by decide +kernel
theorem d_L_play_19 : decode c_L_play 19 = .ok (.ireturn, 1) := by decide +kernel
theorem d_L_back_0 : decode c_L_back 0 = .ok (.aload_n 1, 1) := by decide +kernel
theorem d_L_back_1 : decode c_L_back 1 = .ok (.iconst 0, 1) := by decide +kernel
theorem d_L_back_2 : decode c_L_back 2 = .ok (.aload_n 0, 1) := by decide +kernel
theorem d_L_back_3 : decode c_L_back 3 = .ok (.invokevirtual 28, 3) := by decide +kernel
theorem d_L_back_6 : decode c_L_back 6 = .ok (.i2l, 1) := by decide +kernel
theorem d_L_back_7 : decode c_L_back 7 = .ok (.lastore, 1) := by decide +kernel
theorem d_L_back_8 : decode c_L_back 8 = .ok (.goto 6, 3) := by decide +kernel
theorem d_L_back_11 : decode c_L_back 11 = .ok (.astore_n 2, 1) := by decide +kernel
theorem d_L_back_12 : decode c_L_back 12 = .ok (.iconst 1, 1) := by decide +kernel
theorem d_L_back_13 : decode c_L_back 13 = .ok (.ireturn, 1) := by decide +kernel
theorem d_L_back_14 : decode c_L_back 14 = .ok (.iconst 0, 1) := by decide +kernel
theorem d_L_back_15 : decode c_L_back 15 = .ok (.ireturn, 1) := by decide +kernel
theorem d_L_count_0 : decode c_L_count 0 = .ok (.aload_n 2, 1) := by decide +kernel
theorem d_L_count_1 : decode c_L_count 1 = .ok (.iconst 0, 1) := by decide +kernel
theorem d_L_count_2 : decode c_L_count 2 = .ok (.aload_n 0, 1) := by decide +kernel
theorem d_L_count_3 : decode c_L_count 3 = .ok (.iload_n 1, 1) := by decide +kernel
theorem d_L_count_4 : decode c_L_count 4 = .ok (.invokevirtual 34, 3) := by decide +kernel
theorem d_L_count_7 : decode c_L_count 7 = .ok (.lastore, 1) := by decide +kernel
theorem d_L_count_8 : decode c_L_count 8 = .ok (.goto 6, 3) := by decide +kernel
theorem d_L_count_11 : decode c_L_count 11 = .ok (.astore_n 3, 1) := by decide +kernel
theorem d_L_count_12 : decode c_L_count 12 = .ok (.iconst 1, 1) := by decide +kernel
theorem d_L_count_13 : decode c_L_count 13 = .ok (.ireturn, 1) := by decide +kernel
theorem d_L_count_14 : decode c_L_count 14 = .ok (.iconst 0, 1) := by decide +kernel
theorem d_L_count_15 : decode c_L_count 15 = .ok (.ireturn, 1) := by decide +kernel
theorem d_L_outcome_0 : decode c_L_outcome 0 = .ok (.aload_n 1, 1) := by decide +kernel
theorem d_L_outcome_1 : decode c_L_outcome 1 = .ok (.iconst 0, 1) := by decide +kernel
theorem d_L_outcome_2 : decode c_L_outcome 2 = .ok (.aload_n 0, 1) := by decide +kernel
theorem d_L_outcome_3 : decode c_L_outcome 3 = .ok (.invokevirtual 37, 3) := by decide +kernel
theorem d_L_outcome_6 : decode c_L_outcome 6 = .ok (.i2l, 1) := by decide +kernel
theorem d_L_outcome_7 : decode c_L_outcome 7 = .ok (.lastore, 1) := by decide +kernel
theorem d_L_outcome_8 : decode c_L_outcome 8 = .ok (.goto 6, 3) := by decide +kernel
theorem d_L_outcome_11 : decode c_L_outcome 11 = .ok (.astore_n 2, 1) := by decide +kernel
theorem d_L_outcome_12 : decode c_L_outcome 12 = .ok (.iconst 1, 1) := by decide +kernel
theorem d_L_outcome_13 : decode c_L_outcome 13 = .ok (.ireturn, 1) := by decide +kernel
theorem d_L_outcome_14 : decode c_L_outcome 14 = .ok (.iconst 0, 1) := by decide +kernel
theorem d_L_outcome_15 : decode c_L_outcome 15 = .ok (.ireturn, 1) := by decide +kernel
theorem d_L_best_0 : decode c_L_best 0 = .ok (.aload_n 1, 1) := by decide +kernel
theorem d_L_best_1 : decode c_L_best 1 = .ok (.iconst 0, 1) := by decide +kernel
theorem d_L_best_2 : decode c_L_best 2 = .ok (.aload_n 0, 1) := by decide +kernel
theorem d_L_best_3 : decode c_L_best 3 = .ok (.invokevirtual 40, 3) := by decide +kernel
theorem d_L_best_6 : decode c_L_best 6 = .ok (.i2l, 1) := by decide +kernel
theorem d_L_best_7 : decode c_L_best 7 = .ok (.lastore, 1) := by decide +kernel
theorem d_L_best_8 : decode c_L_best 8 = .ok (.goto 6, 3) := by decide +kernel
theorem d_L_best_11 : decode c_L_best 11 = .ok (.astore_n 2, 1) := by decide +kernel
theorem d_L_best_12 : decode c_L_best 12 = .ok (.iconst 1, 1) := by decide +kernel
theorem d_L_best_13 : decode c_L_best 13 = .ok (.ireturn, 1) := by decide +kernel
theorem d_L_best_14 : decode c_L_best 14 = .ok (.iconst 0, 1) := by decide +kernel
theorem d_L_best_15 : decode c_L_best 15 = .ok (.ireturn, 1) := by decide +kernel
theorem d_L_finish_0 : decode c_L_finish 0 = .ok (.aload_n 1, 1) := by decide +kernel
theorem d_L_finish_1 : decode c_L_finish 1 = .ok (.iconst 0, 1) := by decide +kernel
theorem d_L_finish_2 : decode c_L_finish 2 = .ok (.aload_n 0, 1) := by decide +kernel
theorem d_L_finish_3 : decode c_L_finish 3 = .ok (.invokevirtual 43, 3) := by decide +kernel
theorem d_L_finish_6 : decode c_L_finish 6 = .ok (.i2l, 1) := by decide +kernel
theorem d_L_finish_7 : decode c_L_finish 7 = .ok (.lastore, 1) := by decide +kernel
theorem d_L_finish_8 : decode c_L_finish 8 = .ok (.goto 6, 3) := by decide +kernel
theorem d_L_finish_11 : decode c_L_finish 11 = .ok (.astore_n 2, 1) := by decide +kernel
theorem d_L_finish_12 : decode c_L_finish 12 = .ok (.iconst 1, 1) := by decide +kernel
theorem d_L_finish_13 : decode c_L_finish 13 = .ok (.ireturn, 1) := by decide +kernel
theorem d_L_finish_14 : decode c_L_finish 14 = .ok (.iconst 0, 1) := by decide +kernel
theorem d_L_finish_15 : decode c_L_finish 15 = .ok (.ireturn, 1) := by decide +kernel
theorem d_L_border_0 : decode c_L_border 0 = .ok (.aload_n 2, 1) := by decide +kernel
theorem d_L_border_1 : decode c_L_border 1 = .ok (.iconst 0, 1) := by decide +kernel
theorem d_L_border_2 : decode c_L_border 2 = .ok (.aload_n 0, 1) := by decide +kernel
theorem d_L_border_3 : decode c_L_border 3 = .ok (.iload_n 1, 1) := by decide +kernel
theorem d_L_border_4 : decode c_L_border 4 = .ok (.invokevirtual 46, 3) := by decide +kernel
theorem d_L_border_7 : decode c_L_border 7 = .ok (.i2l, 1) := by decide +kernel
theorem d_L_border_8 : decode c_L_border 8 = .ok (.lastore, 1) := by decide +kernel
theorem d_L_border_9 : decode c_L_border 9 = .ok (.goto 6, 3) := by decide +kernel
theorem d_L_border_12 : decode c_L_border 12 = .ok (.astore_n 3, 1) := by decide +kernel
theorem d_L_border_13 : decode c_L_border 13 = .ok (.iconst 1, 1) := by decide +kernel
theorem d_L_border_14 : decode c_L_border 14 = .ok (.ireturn, 1) := by decide +kernel
theorem d_L_border_15 : decode c_L_border 15 = .ok (.iconst 0, 1) := by decide +kernel
theorem d_L_border_16 : decode c_L_border 16 = .ok (.ireturn, 1) := by decide +kernel
theorem d_L_safe_0 : decode c_L_safe 0 = .ok (.aload_n 2, 1) := by decide +kernel
theorem d_L_safe_1 : decode c_L_safe 1 = .ok (.iconst 0, 1) := by decide +kernel
theorem d_L_safe_2 : decode c_L_safe 2 = .ok (.aload_n 0, 1) := by decide +kernel
theorem d_L_safe_3 : decode c_L_safe 3 = .ok (.iload_n 1, 1) := by decide +kernel
theorem d_L_safe_4 : decode c_L_safe 4 = .ok (.invokevirtual 49, 3) := by decide +kernel
theorem d_L_safe_7 : decode c_L_safe 7 = .ok (.lastore, 1) := by decide +kernel
theorem d_L_safe_8 : decode c_L_safe 8 = .ok (.goto 6, 3) := by decide +kernel
theorem d_L_safe_11 : decode c_L_safe 11 = .ok (.astore_n 3, 1) := by decide +kernel
theorem d_L_safe_12 : decode c_L_safe 12 = .ok (.iconst 1, 1) := by decide +kernel
theorem d_L_safe_13 : decode c_L_safe 13 = .ok (.ireturn, 1) := by decide +kernel
theorem d_L_safe_14 : decode c_L_safe 14 = .ok (.iconst 0, 1) := by decide +kernel
theorem d_L_safe_15 : decode c_L_safe 15 = .ok (.ireturn, 1) := by decide +kernel
theorem d_L_law_0 : decode c_L_law 0 = .ok (.new 8, 3) := by decide +kernel
theorem d_L_law_3 : decode c_L_law 3 = .ok (.dup, 1) := by decide +kernel
theorem d_L_law_4 : decode c_L_law 4 = .ok (.invokespecial 52, 3) := by decide +kernel
theorem d_L_law_7 : decode c_L_law 7 = .ok (.astore_n 1, 1) := by decide +kernel
theorem d_L_law_8 : decode c_L_law 8 = .ok (.new 53, 3) := by decide +kernel
theorem d_L_law_11 : decode c_L_law 11 = .ok (.dup, 1) := by decide +kernel
theorem d_L_law_12 : decode c_L_law 12 = .ok (.invokespecial 55, 3) := by decide +kernel
theorem d_L_law_15 : decode c_L_law 15 = .ok (.astore_n 2, 1) := by decide +kernel
theorem d_L_law_16 : decode c_L_law 16 = .ok (.iconst 1, 1) := by decide +kernel
theorem d_L_law_17 : decode c_L_law 17 = .ok (.newarray .long, 2) := by decide +kernel
theorem d_L_law_19 : decode c_L_law 19 = .ok (.astore_n 3, 1) := by decide +kernel
theorem d_L_law_20 : decode c_L_law 20 = .ok (.iconst 0, 1) := by decide +kernel
theorem d_L_law_21 : decode c_L_law 21 = .ok (.istore 4, 2) := by decide +kernel
theorem d_L_law_23 : decode c_L_law 23 = .ok (.iload 4, 2) := by decide +kernel
theorem d_L_law_25 : decode c_L_law 25 = .ok (.aload_n 0, 1) := by decide +kernel
theorem d_L_law_26 : decode c_L_law 26 = .ok (.arraylength, 1) := by decide +kernel
theorem d_L_law_27 : decode c_L_law 27 = .ok (.bipush 6, 2) := by decide +kernel
theorem d_L_law_29 : decode c_L_law 29 = .ok (.isub, 1) := by decide +kernel
theorem d_L_law_30 : decode c_L_law 30 = .ok (.if_icmp .gt 809, 3) := by decide +kernel
theorem d_L_law_33 : decode c_L_law 33 = .ok (.aload_n 0, 1) := by decide +kernel
theorem d_L_law_34 : decode c_L_law 34 = .ok (.iload 4, 2) := by decide +kernel
theorem d_L_law_36 : decode c_L_law 36 = .ok (.iaload, 1) := by decide +kernel
theorem d_L_law_37 : decode c_L_law 37 = .ok (.bipush 31, 2) := by decide +kernel
theorem d_L_law_39 : decode c_L_law 39 = .ok (.iand, 1) := by decide +kernel
theorem d_L_law_40 : decode c_L_law 40 = .ok (.tableswitch 793 0 16 #[84, 95, 219, 274, 287, 301, 356, 369, 425, 469, 482, 495, 550, 594, 638, 682, 738], 84) := by decide +kernel
theorem d_L_law_124 : decode c_L_law 124 = .ok (.aload_n 1, 1) := by decide +kernel
theorem d_L_law_125 : decode c_L_law 125 = .ok (.invokevirtual 56, 3) := by decide +kernel
theorem d_L_law_128 : decode c_L_law 128 = .ok (.aload_n 2, 1) := by decide +kernel
theorem d_L_law_129 : decode c_L_law 129 = .ok (.invokevirtual 59, 3) := by decide +kernel
theorem d_L_law_132 : decode c_L_law 132 = .ok (.goto 701, 3) := by decide +kernel
theorem d_L_law_135 : decode c_L_law 135 = .ok (.aload_n 1, 1) := by decide +kernel
theorem d_L_law_136 : decode c_L_law 136 = .ok (.aload_n 0, 1) := by decide +kernel
theorem d_L_law_137 : decode c_L_law 137 = .ok (.iload 4, 2) := by decide +kernel
theorem d_L_law_139 : decode c_L_law 139 = .ok (.iconst 1, 1) := by decide +kernel
theorem d_L_law_140 : decode c_L_law 140 = .ok (.iadd, 1) := by decide +kernel
theorem d_L_law_141 : decode c_L_law 141 = .ok (.iaload, 1) := by decide +kernel
theorem d_L_law_142 : decode c_L_law 142 = .ok (.i2l, 1) := by decide +kernel
theorem d_L_law_143 : decode c_L_law 143 = .ok (.bipush 32, 2) := by decide +kernel
theorem d_L_law_145 : decode c_L_law 145 = .ok (.lshl, 1) := by decide +kernel
theorem d_L_law_146 : decode c_L_law 146 = .ok (.aload_n 0, 1) := by decide +kernel
theorem d_L_law_147 : decode c_L_law 147 = .ok (.iload 4, 2) := by decide +kernel
theorem d_L_law_149 : decode c_L_law 149 = .ok (.iconst 2, 1) := by decide +kernel
theorem d_L_law_150 : decode c_L_law 150 = .ok (.iadd, 1) := by decide +kernel
theorem d_L_law_151 : decode c_L_law 151 = .ok (.iaload, 1) := by decide +kernel
theorem d_L_law_152 : decode c_L_law 152 = .ok (.i2l, 1) := by decide +kernel
theorem d_L_law_153 : decode c_L_law 153 = .ok (.ldc2_w 60, 3) := by decide +kernel
theorem d_L_law_156 : decode c_L_law 156 = .ok (.land, 1) := by decide +kernel
theorem d_L_law_157 : decode c_L_law 157 = .ok (.lor, 1) := by decide +kernel
theorem d_L_law_158 : decode c_L_law 158 = .ok (.aload_n 0, 1) := by decide +kernel
theorem d_L_law_159 : decode c_L_law 159 = .ok (.iload 4, 2) := by decide +kernel
theorem d_L_law_161 : decode c_L_law 161 = .ok (.iconst 3, 1) := by decide +kernel
theorem d_L_law_162 : decode c_L_law 162 = .ok (.iadd, 1) := by decide +kernel
theorem d_L_law_163 : decode c_L_law 163 = .ok (.iaload, 1) := by decide +kernel
theorem d_L_law_164 : decode c_L_law 164 = .ok (.i2l, 1) := by decide +kernel
theorem d_L_law_165 : decode c_L_law 165 = .ok (.bipush 32, 2) := by decide +kernel
theorem d_L_law_167 : decode c_L_law 167 = .ok (.lshl, 1) := by decide +kernel
theorem d_L_law_168 : decode c_L_law 168 = .ok (.aload_n 0, 1) := by decide +kernel
theorem d_L_law_169 : decode c_L_law 169 = .ok (.iload 4, 2) := by decide +kernel
theorem d_L_law_171 : decode c_L_law 171 = .ok (.iconst 4, 1) := by decide +kernel
theorem d_L_law_172 : decode c_L_law 172 = .ok (.iadd, 1) := by decide +kernel
theorem d_L_law_173 : decode c_L_law 173 = .ok (.iaload, 1) := by decide +kernel
theorem d_L_law_174 : decode c_L_law 174 = .ok (.i2l, 1) := by decide +kernel
theorem d_L_law_175 : decode c_L_law 175 = .ok (.ldc2_w 60, 3) := by decide +kernel
theorem d_L_law_178 : decode c_L_law 178 = .ok (.land, 1) := by decide +kernel
theorem d_L_law_179 : decode c_L_law 179 = .ok (.lor, 1) := by decide +kernel
theorem d_L_law_180 : decode c_L_law 180 = .ok (.aload_n 0, 1) := by decide +kernel
theorem d_L_law_181 : decode c_L_law 181 = .ok (.iload 4, 2) := by decide +kernel
theorem d_L_law_183 : decode c_L_law 183 = .ok (.iconst 5, 1) := by decide +kernel
theorem d_L_law_184 : decode c_L_law 184 = .ok (.iadd, 1) := by decide +kernel
theorem d_L_law_185 : decode c_L_law 185 = .ok (.iaload, 1) := by decide +kernel
theorem d_L_law_186 : decode c_L_law 186 = .ok (.invokestatic 62, 3) := by decide +kernel
theorem d_L_law_189 : decode c_L_law 189 = .ok (.istore 5, 2) := by decide +kernel
theorem d_L_law_191 : decode c_L_law 191 = .ok (.aload_n 2, 1) := by decide +kernel
theorem d_L_law_192 : decode c_L_law 192 = .ok (.aload_n 0, 1) := by decide +kernel
theorem d_L_law_193 : decode c_L_law 193 = .ok (.iload 4, 2) := by decide +kernel
theorem d_L_law_195 : decode c_L_law 195 = .ok (.iconst 1, 1) := by decide +kernel
theorem d_L_law_196 : decode c_L_law 196 = .ok (.iadd, 1) := by decide +kernel
theorem d_L_law_197 : decode c_L_law 197 = .ok (.iaload, 1) := by decide +kernel
theorem d_L_law_198 : decode c_L_law 198 = .ok (.i2l, 1) := by decide +kernel
theorem d_L_law_199 : decode c_L_law 199 = .ok (.bipush 32, 2) := by decide +kernel
theorem d_L_law_201 : decode c_L_law 201 = .ok (.lshl, 1) := by decide +kernel
theorem d_L_law_202 : decode c_L_law 202 = .ok (.aload_n 0, 1) := by decide +kernel
theorem d_L_law_203 : decode c_L_law 203 = .ok (.iload 4, 2) := by decide +kernel
theorem d_L_law_205 : decode c_L_law 205 = .ok (.iconst 2, 1) := by decide +kernel
theorem d_L_law_206 : decode c_L_law 206 = .ok (.iadd, 1) := by decide +kernel
theorem d_L_law_207 : decode c_L_law 207 = .ok (.iaload, 1) := by decide +kernel
theorem d_L_law_208 : decode c_L_law 208 = .ok (.i2l, 1) := by decide +kernel
theorem d_L_law_209 : decode c_L_law 209 = .ok (.ldc2_w 60, 3) := by decide +kernel
theorem d_L_law_212 : decode c_L_law 212 = .ok (.land, 1) := by decide +kernel
theorem d_L_law_213 : decode c_L_law 213 = .ok (.lor, 1) := by decide +kernel
theorem d_L_law_214 : decode c_L_law 214 = .ok (.aload_n 0, 1) := by decide +kernel
theorem d_L_law_215 : decode c_L_law 215 = .ok (.iload 4, 2) := by decide +kernel
theorem d_L_law_217 : decode c_L_law 217 = .ok (.iconst 3, 1) := by decide +kernel
theorem d_L_law_218 : decode c_L_law 218 = .ok (.iadd, 1) := by decide +kernel
theorem d_L_law_219 : decode c_L_law 219 = .ok (.iaload, 1) := by decide +kernel
theorem d_L_law_220 : decode c_L_law 220 = .ok (.i2l, 1) := by decide +kernel
theorem d_L_law_221 : decode c_L_law 221 = .ok (.bipush 32, 2) := by decide +kernel
theorem d_L_law_223 : decode c_L_law 223 = .ok (.lshl, 1) := by decide +kernel
theorem d_L_law_224 : decode c_L_law 224 = .ok (.aload_n 0, 1) := by decide +kernel
theorem d_L_law_225 : decode c_L_law 225 = .ok (.iload 4, 2) := by decide +kernel
theorem d_L_law_227 : decode c_L_law 227 = .ok (.iconst 4, 1) := by decide +kernel
theorem d_L_law_228 : decode c_L_law 228 = .ok (.iadd, 1) := by decide +kernel
theorem d_L_law_229 : decode c_L_law 229 = .ok (.iaload, 1) := by decide +kernel
theorem d_L_law_230 : decode c_L_law 230 = .ok (.i2l, 1) := by decide +kernel
theorem d_L_law_231 : decode c_L_law 231 = .ok (.ldc2_w 60, 3) := by decide +kernel
theorem d_L_law_234 : decode c_L_law 234 = .ok (.land, 1) := by decide +kernel
theorem d_L_law_235 : decode c_L_law 235 = .ok (.lor, 1) := by decide +kernel
theorem d_L_law_236 : decode c_L_law 236 = .ok (.aload_n 0, 1) := by decide +kernel
theorem d_L_law_237 : decode c_L_law 237 = .ok (.iload 4, 2) := by decide +kernel
theorem d_L_law_239 : decode c_L_law 239 = .ok (.iconst 5, 1) := by decide +kernel
theorem d_L_law_240 : decode c_L_law 240 = .ok (.iadd, 1) := by decide +kernel
theorem d_L_law_241 : decode c_L_law 241 = .ok (.iaload, 1) := by decide +kernel
theorem d_L_law_242 : decode c_L_law 242 = .ok (.invokevirtual 67, 3) := by decide +kernel
theorem d_L_law_245 : decode c_L_law 245 = .ok (.aload_n 2, 1) := by decide +kernel
theorem d_L_law_246 : decode c_L_law 246 = .ok (.invokevirtual 68, 3) := by decide +kernel
theorem d_L_law_249 : decode c_L_law 249 = .ok (.iload 5, 2) := by decide +kernel
theorem d_L_law_251 : decode c_L_law 251 = .ok (.if_icmp .eq 5, 3) := by decide +kernel
theorem d_L_law_254 : decode c_L_law 254 = .ok (.iconst 0, 1) := by decide +kernel
theorem d_L_law_255 : decode c_L_law 255 = .ok (.ireturn, 1) := by decide +kernel
theorem d_L_law_256 : decode c_L_law 256 = .ok (.goto 577, 3) := by decide +kernel
theorem d_L_law_259 : decode c_L_law 259 = .ok (.aload_n 1, 1) := by decide +kernel
theorem d_L_law_260 : decode c_L_law 260 = .ok (.aload_n 0, 1) := by decide +kernel
theorem d_L_law_261 : decode c_L_law 261 = .ok (.iload 4, 2) := by decide +kernel
theorem d_L_law_263 : decode c_L_law 263 = .ok (.iconst 1, 1) := by decide +kernel
theorem d_L_law_264 : decode c_L_law 264 = .ok (.iadd, 1) := by decide +kernel
theorem d_L_law_265 : decode c_L_law 265 = .ok (.iaload, 1) := by decide +kernel
theorem d_L_law_266 : decode c_L_law 266 = .ok (.aload_n 3, 1) := by decide +kernel
theorem d_L_law_267 : decode c_L_law 267 = .ok (.invokestatic 71, 3) := by decide +kernel
theorem d_L_law_270 : decode c_L_law 270 = .ok (.istore 5, 2) := by decide +kernel
theorem d_L_law_272 : decode c_L_law 272 = .ok (.aload_n 2, 1) := by decide +kernel
theorem d_L_law_273 : decode c_L_law 273 = .ok (.aload_n 0, 1) := by decide +kernel
theorem d_L_law_274 : decode c_L_law 274 = .ok (.iload 4, 2) := by decide +kernel
theorem d_L_law_276 : decode c_L_law 276 = .ok (.iconst 1, 1) := by decide +kernel
theorem d_L_law_277 : decode c_L_law 277 = .ok (.iadd, 1) := by decide +kernel
theorem d_L_law_278 : decode c_L_law 278 = .ok (.iaload, 1) := by decide +kernel
theorem d_L_law_279 : decode c_L_law 279 = .ok (.invokevirtual 74, 3) := by decide +kernel
theorem d_L_law_282 : decode c_L_law 282 = .ok (.lstore 6, 2) := by decide +kernel
theorem d_L_law_284 : decode c_L_law 284 = .ok (.aload_n 2, 1) := by decide +kernel
theorem d_L_law_285 : decode c_L_law 285 = .ok (.invokevirtual 68, 3) := by decide +kernel
theorem d_L_law_288 : decode c_L_law 288 = .ok (.iload 5, 2) := by decide +kernel
theorem d_L_law_290 : decode c_L_law 290 = .ok (.if_icmp .eq 5, 3) := by decide +kernel
theorem d_L_law_293 : decode c_L_law 293 = .ok (.iconst 0, 1) := by decide +kernel
theorem d_L_law_294 : decode c_L_law 294 = .ok (.ireturn, 1) := by decide +kernel
theorem d_L_law_295 : decode c_L_law 295 = .ok (.iload 5, 2) := by decide +kernel
theorem d_L_law_297 : decode c_L_law 297 = .ok (.ifCond .ne 14, 3) := by decide +kernel
theorem d_L_law_300 : decode c_L_law 300 = .ok (.aload_n 3, 1) := by decide +kernel
theorem d_L_law_301 : decode c_L_law 301 = .ok (.iconst 0, 1) := by decide +kernel
theorem d_L_law_302 : decode c_L_law 302 = .ok (.laload, 1) := by decide +kernel
theorem d_L_law_303 : decode c_L_law 303 = .ok (.lload 6, 2) := by decide +kernel
theorem d_L_law_305 : decode c_L_law 305 = .ok (.lcmp, 1) := by decide +kernel
theorem d_L_law_306 : decode c_L_law 306 = .ok (.ifCond .eq 5, 3) := by decide +kernel
theorem d_L_law_309 : decode c_L_law 309 = .ok (.iconst 0, 1) := by decide +kernel
theorem d_L_law_310 : decode c_L_law 310 = .ok (.ireturn, 1) := by decide +kernel
theorem d_L_law_311 : decode c_L_law 311 = .ok (.goto 522, 3) := by decide +kernel
theorem d_L_law_314 : decode c_L_law 314 = .ok (.aload_n 1, 1) := by decide +kernel
theorem d_L_law_315 : decode c_L_law 315 = .ok (.invokevirtual 75, 3) := by decide +kernel
theorem d_L_law_318 : decode c_L_law 318 = .ok (.aload_n 2, 1) := by decide +kernel
theorem d_L_law_319 : decode c_L_law 319 = .ok (.invokevirtual 78, 3) := by decide +kernel
theorem d_L_law_322 : decode c_L_law 322 = .ok (.if_icmp .eq 511, 3) := by decide +kernel
theorem d_L_law_325 : decode c_L_law 325 = .ok (.iconst 0, 1) := by decide +kernel
theorem d_L_law_326 : decode c_L_law 326 = .ok (.ireturn, 1) := by decide +kernel
theorem d_L_law_327 : decode c_L_law 327 = .ok (.aload_n 1, 1) := by decide +kernel
theorem d_L_law_328 : decode c_L_law 328 = .ok (.invokevirtual 79, 3) := by decide +kernel
theorem d_L_law_331 : decode c_L_law 331 = .ok (.aload_n 2, 1) := by decide +kernel
theorem d_L_law_332 : decode c_L_law 332 = .ok (.invokevirtual 83, 3) := by decide +kernel
theorem d_L_law_335 : decode c_L_law 335 = .ok (.lcmp, 1) := by decide +kernel
theorem d_L_law_336 : decode c_L_law 336 = .ok (.ifCond .eq 497, 3) := by decide +kernel
theorem d_L_law_339 : decode c_L_law 339 = .ok (.iconst 0, 1) := by decide +kernel
theorem d_L_law_340 : decode c_L_law 340 = .ok (.ireturn, 1) := by decide +kernel
theorem d_L_law_341 : decode c_L_law 341 = .ok (.aload_n 1, 1) := by decide +kernel
theorem d_L_law_342 : decode c_L_law 342 = .ok (.aload_n 0, 1) := by decide +kernel
theorem d_L_law_343 : decode c_L_law 343 = .ok (.iload 4, 2) := by decide +kernel
theorem d_L_law_345 : decode c_L_law 345 = .ok (.iconst 1, 1) := by decide +kernel
theorem d_L_law_346 : decode c_L_law 346 = .ok (.iadd, 1) := by decide +kernel
theorem d_L_law_347 : decode c_L_law 347 = .ok (.iaload, 1) := by decide +kernel
theorem d_L_law_348 : decode c_L_law 348 = .ok (.aload_n 3, 1) := by decide +kernel
theorem d_L_law_349 : decode c_L_law 349 = .ok (.invokestatic 84, 3) := by decide +kernel
theorem d_L_law_352 : decode c_L_law 352 = .ok (.istore 5, 2) := by decide +kernel
theorem d_L_law_354 : decode c_L_law 354 = .ok (.aload_n 2, 1) := by decide +kernel
theorem d_L_law_355 : decode c_L_law 355 = .ok (.aload_n 0, 1) := by decide +kernel
theorem d_L_law_356 : decode c_L_law 356 = .ok (.iload 4, 2) := by decide +kernel
theorem d_L_law_358 : decode c_L_law 358 = .ok (.iconst 1, 1) := by decide +kernel
theorem d_L_law_359 : decode c_L_law 359 = .ok (.iadd, 1) := by decide +kernel
theorem d_L_law_360 : decode c_L_law 360 = .ok (.iaload, 1) := by decide +kernel
theorem d_L_law_361 : decode c_L_law 361 = .ok (.invokevirtual 86, 3) := by decide +kernel
theorem d_L_law_364 : decode c_L_law 364 = .ok (.lstore 6, 2) := by decide +kernel
theorem d_L_law_366 : decode c_L_law 366 = .ok (.aload_n 2, 1) := by decide +kernel
theorem d_L_law_367 : decode c_L_law 367 = .ok (.invokevirtual 68, 3) := by decide +kernel
theorem d_L_law_370 : decode c_L_law 370 = .ok (.iload 5, 2) := by decide +kernel
theorem d_L_law_372 : decode c_L_law 372 = .ok (.if_icmp .eq 5, 3) := by decide +kernel
theorem d_L_law_375 : decode c_L_law 375 = .ok (.iconst 0, 1) := by decide +kernel
theorem d_L_law_376 : decode c_L_law 376 = .ok (.ireturn, 1) := by decide +kernel
theorem d_L_law_377 : decode c_L_law 377 = .ok (.iload 5, 2) := by decide +kernel
theorem d_L_law_379 : decode c_L_law 379 = .ok (.ifCond .ne 14, 3) := by decide +kernel
theorem d_L_law_382 : decode c_L_law 382 = .ok (.aload_n 3, 1) := by decide +kernel
theorem d_L_law_383 : decode c_L_law 383 = .ok (.iconst 0, 1) := by decide +kernel
theorem d_L_law_384 : decode c_L_law 384 = .ok (.laload, 1) := by decide +kernel
theorem d_L_law_385 : decode c_L_law 385 = .ok (.lload 6, 2) := by decide +kernel
theorem d_L_law_387 : decode c_L_law 387 = .ok (.lcmp, 1) := by decide +kernel
theorem d_L_law_388 : decode c_L_law 388 = .ok (.ifCond .eq 5, 3) := by decide +kernel
theorem d_L_law_391 : decode c_L_law 391 = .ok (.iconst 0, 1) := by decide +kernel
theorem d_L_law_392 : decode c_L_law 392 = .ok (.ireturn, 1) := by decide +kernel
theorem d_L_law_393 : decode c_L_law 393 = .ok (.goto 440, 3) := by decide +kernel
theorem d_L_law_396 : decode c_L_law 396 = .ok (.aload_n 1, 1) := by decide +kernel
theorem d_L_law_397 : decode c_L_law 397 = .ok (.invokevirtual 87, 3) := by decide +kernel
theorem d_L_law_400 : decode c_L_law 400 = .ok (.aload_n 2, 1) := by decide +kernel
theorem d_L_law_401 : decode c_L_law 401 = .ok (.invokevirtual 91, 3) := by decide +kernel
theorem d_L_law_404 : decode c_L_law 404 = .ok (.if_icmp .eq 429, 3) := by decide +kernel
theorem d_L_law_407 : decode c_L_law 407 = .ok (.iconst 0, 1) := by decide +kernel
theorem d_L_law_408 : decode c_L_law 408 = .ok (.ireturn, 1) := by decide +kernel
theorem d_L_law_409 : decode c_L_law 409 = .ok (.aload_n 1, 1) := by decide +kernel
theorem d_L_law_410 : decode c_L_law 410 = .ok (.aload_n 0, 1) := by decide +kernel
theorem d_L_law_411 : decode c_L_law 411 = .ok (.iload 4, 2) := by decide +kernel
theorem d_L_law_413 : decode c_L_law 413 = .ok (.iconst 1, 1) := by decide +kernel
theorem d_L_law_414 : decode c_L_law 414 = .ok (.iadd, 1) := by decide +kernel
theorem d_L_law_415 : decode c_L_law 415 = .ok (.iaload, 1) := by decide +kernel
theorem d_L_law_416 : decode c_L_law 416 = .ok (.aload_n 3, 1) := by decide +kernel
theorem d_L_law_417 : decode c_L_law 417 = .ok (.invokestatic 92, 3) := by decide +kernel
theorem d_L_law_420 : decode c_L_law 420 = .ok (.istore 5, 2) := by decide +kernel
theorem d_L_law_422 : decode c_L_law 422 = .ok (.aload_n 2, 1) := by decide +kernel
theorem d_L_law_423 : decode c_L_law 423 = .ok (.aload_n 0, 1) := by decide +kernel
theorem d_L_law_424 : decode c_L_law 424 = .ok (.iload 4, 2) := by decide +kernel
theorem d_L_law_426 : decode c_L_law 426 = .ok (.iconst 1, 1) := by decide +kernel
theorem d_L_law_427 : decode c_L_law 427 = .ok (.iadd, 1) := by decide +kernel
theorem d_L_law_428 : decode c_L_law 428 = .ok (.iaload, 1) := by decide +kernel
theorem d_L_law_429 : decode c_L_law 429 = .ok (.invokevirtual 94, 3) := by decide +kernel
theorem d_L_law_432 : decode c_L_law 432 = .ok (.istore 6, 2) := by decide +kernel
theorem d_L_law_434 : decode c_L_law 434 = .ok (.aload_n 2, 1) := by decide +kernel
theorem d_L_law_435 : decode c_L_law 435 = .ok (.invokevirtual 68, 3) := by decide +kernel
theorem d_L_law_438 : decode c_L_law 438 = .ok (.iload 5, 2) := by decide +kernel
theorem d_L_law_440 : decode c_L_law 440 = .ok (.if_icmp .eq 5, 3) := by decide +kernel
theorem d_L_law_443 : decode c_L_law 443 = .ok (.iconst 0, 1) := by decide +kernel
theorem d_L_law_444 : decode c_L_law 444 = .ok (.ireturn, 1) := by decide +kernel
theorem d_L_law_445 : decode c_L_law 445 = .ok (.iload 5, 2) := by decide +kernel
theorem d_L_law_447 : decode c_L_law 447 = .ok (.ifCond .ne 15, 3) := by decide +kernel
theorem d_L_law_450 : decode c_L_law 450 = .ok (.aload_n 3, 1) := by decide +kernel
theorem d_L_law_451 : decode c_L_law 451 = .ok (.iconst 0, 1) := by decide +kernel
theorem d_L_law_452 : decode c_L_law 452 = .ok (.laload, 1) := by decide +kernel
theorem d_L_law_453 : decode c_L_law 453 = .ok (.iload 6, 2) := by decide +kernel
theorem d_L_law_455 : decode c_L_law 455 = .ok (.i2l, 1) := by decide +kernel
theorem d_L_law_456 : decode c_L_law 456 = .ok (.lcmp, 1) := by decide +kernel
theorem d_L_law_457 : decode c_L_law 457 = .ok (.ifCond .eq 5, 3) := by decide +kernel
theorem d_L_law_460 : decode c_L_law 460 = .ok (.iconst 0, 1) := by decide +kernel
theorem d_L_law_461 : decode c_L_law 461 = .ok (.ireturn, 1) := by decide +kernel
theorem d_L_law_462 : decode c_L_law 462 = .ok (.goto 371, 3) := by decide +kernel
theorem d_L_law_465 : decode c_L_law 465 = .ok (.aload_n 1, 1) := by decide +kernel
theorem d_L_law_466 : decode c_L_law 466 = .ok (.aload_n 3, 1) := by decide +kernel
theorem d_L_law_467 : decode c_L_law 467 = .ok (.invokestatic 95, 3) := by decide +kernel
theorem d_L_law_470 : decode c_L_law 470 = .ok (.istore 5, 2) := by decide +kernel
theorem d_L_law_472 : decode c_L_law 472 = .ok (.aload_n 2, 1) := by decide +kernel
theorem d_L_law_473 : decode c_L_law 473 = .ok (.invokevirtual 98, 3) := by decide +kernel
theorem d_L_law_476 : decode c_L_law 476 = .ok (.istore 6, 2) := by decide +kernel
theorem d_L_law_478 : decode c_L_law 478 = .ok (.aload_n 2, 1) := by decide +kernel
theorem d_L_law_479 : decode c_L_law 479 = .ok (.invokevirtual 68, 3) := by decide +kernel
theorem d_L_law_482 : decode c_L_law 482 = .ok (.iload 5, 2) := by decide +kernel
theorem d_L_law_484 : decode c_L_law 484 = .ok (.if_icmp .eq 5, 3) := by decide +kernel
theorem d_L_law_487 : decode c_L_law 487 = .ok (.iconst 0, 1) := by decide +kernel
theorem d_L_law_488 : decode c_L_law 488 = .ok (.ireturn, 1) := by decide +kernel
theorem d_L_law_489 : decode c_L_law 489 = .ok (.iload 5, 2) := by decide +kernel
theorem d_L_law_491 : decode c_L_law 491 = .ok (.ifCond .ne 15, 3) := by decide +kernel
theorem d_L_law_494 : decode c_L_law 494 = .ok (.aload_n 3, 1) := by decide +kernel
theorem d_L_law_495 : decode c_L_law 495 = .ok (.iconst 0, 1) := by decide +kernel
theorem d_L_law_496 : decode c_L_law 496 = .ok (.laload, 1) := by decide +kernel
theorem d_L_law_497 : decode c_L_law 497 = .ok (.iload 6, 2) := by decide +kernel
theorem d_L_law_499 : decode c_L_law 499 = .ok (.i2l, 1) := by decide +kernel
theorem d_L_law_500 : decode c_L_law 500 = .ok (.lcmp, 1) := by decide +kernel
theorem d_L_law_501 : decode c_L_law 501 = .ok (.ifCond .eq 5, 3) := by decide +kernel
theorem d_L_law_504 : decode c_L_law 504 = .ok (.iconst 0, 1) := by decide +kernel
theorem d_L_law_505 : decode c_L_law 505 = .ok (.ireturn, 1) := by decide +kernel
theorem d_L_law_506 : decode c_L_law 506 = .ok (.goto 327, 3) := by decide +kernel
theorem d_L_law_509 : decode c_L_law 509 = .ok (.aload_n 1, 1) := by decide +kernel
theorem d_L_law_510 : decode c_L_law 510 = .ok (.invokevirtual 99, 3) := by decide +kernel
theorem d_L_law_513 : decode c_L_law 513 = .ok (.aload_n 2, 1) := by decide +kernel
theorem d_L_law_514 : decode c_L_law 514 = .ok (.invokevirtual 102, 3) := by decide +kernel
theorem d_L_law_517 : decode c_L_law 517 = .ok (.if_icmp .eq 316, 3) := by decide +kernel
theorem d_L_law_520 : decode c_L_law 520 = .ok (.iconst 0, 1) := by decide +kernel
theorem d_L_law_521 : decode c_L_law 521 = .ok (.ireturn, 1) := by decide +kernel
theorem d_L_law_522 : decode c_L_law 522 = .ok (.aload_n 1, 1) := by decide +kernel
theorem d_L_law_523 : decode c_L_law 523 = .ok (.invokevirtual 103, 3) := by decide +kernel
theorem d_L_law_526 : decode c_L_law 526 = .ok (.aload_n 2, 1) := by decide +kernel
theorem d_L_law_527 : decode c_L_law 527 = .ok (.invokevirtual 106, 3) := by decide +kernel
theorem d_L_law_530 : decode c_L_law 530 = .ok (.if_icmp .eq 303, 3) := by decide +kernel
theorem d_L_law_533 : decode c_L_law 533 = .ok (.iconst 0, 1) := by decide +kernel
theorem d_L_law_534 : decode c_L_law 534 = .ok (.ireturn, 1) := by decide +kernel
theorem d_L_law_535 : decode c_L_law 535 = .ok (.aload_n 1, 1) := by decide +kernel
theorem d_L_law_536 : decode c_L_law 536 = .ok (.aload_n 0, 1) := by decide +kernel
theorem d_L_law_537 : decode c_L_law 537 = .ok (.iload 4, 2) := by decide +kernel
theorem d_L_law_539 : decode c_L_law 539 = .ok (.iconst 1, 1) := by decide +kernel
theorem d_L_law_540 : decode c_L_law 540 = .ok (.iadd, 1) := by decide +kernel
theorem d_L_law_541 : decode c_L_law 541 = .ok (.iaload, 1) := by decide +kernel
theorem d_L_law_542 : decode c_L_law 542 = .ok (.aload_n 3, 1) := by decide +kernel
theorem d_L_law_543 : decode c_L_law 543 = .ok (.invokestatic 107, 3) := by decide +kernel
theorem d_L_law_546 : decode c_L_law 546 = .ok (.istore 5, 2) := by decide +kernel
theorem d_L_law_548 : decode c_L_law 548 = .ok (.aload_n 2, 1) := by decide +kernel
theorem d_L_law_549 : decode c_L_law 549 = .ok (.aload_n 0, 1) := by decide +kernel
theorem d_L_law_550 : decode c_L_law 550 = .ok (.iload 4, 2) := by decide +kernel
theorem d_L_law_552 : decode c_L_law 552 = .ok (.iconst 1, 1) := by decide +kernel
theorem d_L_law_553 : decode c_L_law 553 = .ok (.iadd, 1) := by decide +kernel
theorem d_L_law_554 : decode c_L_law 554 = .ok (.iaload, 1) := by decide +kernel
theorem d_L_law_555 : decode c_L_law 555 = .ok (.invokevirtual 109, 3) := by decide +kernel
theorem d_L_law_558 : decode c_L_law 558 = .ok (.lstore 6, 2) := by decide +kernel
theorem d_L_law_560 : decode c_L_law 560 = .ok (.aload_n 2, 1) := by decide +kernel
theorem d_L_law_561 : decode c_L_law 561 = .ok (.invokevirtual 68, 3) := by decide +kernel
theorem d_L_law_564 : decode c_L_law 564 = .ok (.iload 5, 2) := by decide +kernel
theorem d_L_law_566 : decode c_L_law 566 = .ok (.if_icmp .eq 5, 3) := by decide +kernel
theorem d_L_law_569 : decode c_L_law 569 = .ok (.iconst 0, 1) := by decide +kernel
theorem d_L_law_570 : decode c_L_law 570 = .ok (.ireturn, 1) := by decide +kernel
theorem d_L_law_571 : decode c_L_law 571 = .ok (.iload 5, 2) := by decide +kernel
theorem d_L_law_573 : decode c_L_law 573 = .ok (.ifCond .ne 14, 3) := by decide +kernel
theorem d_L_law_576 : decode c_L_law 576 = .ok (.aload_n 3, 1) := by decide +kernel
theorem d_L_law_577 : decode c_L_law 577 = .ok (.iconst 0, 1) := by decide +kernel
theorem d_L_law_578 : decode c_L_law 578 = .ok (.laload, 1) := by decide +kernel
theorem d_L_law_579 : decode c_L_law 579 = .ok (.lload 6, 2) := by decide +kernel
theorem d_L_law_581 : decode c_L_law 581 = .ok (.lcmp, 1) := by decide +kernel
theorem d_L_law_582 : decode c_L_law 582 = .ok (.ifCond .eq 5, 3) := by decide +kernel
theorem d_L_law_585 : decode c_L_law 585 = .ok (.iconst 0, 1) := by decide +kernel
theorem d_L_law_586 : decode c_L_law 586 = .ok (.ireturn, 1) := by decide +kernel
theorem d_L_law_587 : decode c_L_law 587 = .ok (.goto 246, 3) := by decide +kernel
theorem d_L_law_590 : decode c_L_law 590 = .ok (.aload_n 1, 1) := by decide +kernel
theorem d_L_law_591 : decode c_L_law 591 = .ok (.aload_n 3, 1) := by decide +kernel
theorem d_L_law_592 : decode c_L_law 592 = .ok (.invokestatic 110, 3) := by decide +kernel
theorem d_L_law_595 : decode c_L_law 595 = .ok (.istore 5, 2) := by decide +kernel
theorem d_L_law_597 : decode c_L_law 597 = .ok (.aload_n 2, 1) := by decide +kernel
theorem d_L_law_598 : decode c_L_law 598 = .ok (.invokevirtual 112, 3) := by decide +kernel
theorem d_L_law_601 : decode c_L_law 601 = .ok (.istore 6, 2) := by decide +kernel
theorem d_L_law_603 : decode c_L_law 603 = .ok (.aload_n 2, 1) := by decide +kernel
theorem d_L_law_604 : decode c_L_law 604 = .ok (.invokevirtual 68, 3) := by decide +kernel
theorem d_L_law_607 : decode c_L_law 607 = .ok (.iload 5, 2) := by decide +kernel
theorem d_L_law_609 : decode c_L_law 609 = .ok (.if_icmp .eq 5, 3) := by decide +kernel
theorem d_L_law_612 : decode c_L_law 612 = .ok (.iconst 0, 1) := by decide +kernel
theorem d_L_law_613 : decode c_L_law 613 = .ok (.ireturn, 1) := by decide +kernel
theorem d_L_law_614 : decode c_L_law 614 = .ok (.iload 5, 2) := by decide +kernel
theorem d_L_law_616 : decode c_L_law 616 = .ok (.ifCond .ne 15, 3) := by decide +kernel
theorem d_L_law_619 : decode c_L_law 619 = .ok (.aload_n 3, 1) := by decide +kernel
theorem d_L_law_620 : decode c_L_law 620 = .ok (.iconst 0, 1) := by decide +kernel
theorem d_L_law_621 : decode c_L_law 621 = .ok (.laload, 1) := by decide +kernel
theorem d_L_law_622 : decode c_L_law 622 = .ok (.iload 6, 2) := by decide +kernel
theorem d_L_law_624 : decode c_L_law 624 = .ok (.i2l, 1) := by decide +kernel
theorem d_L_law_625 : decode c_L_law 625 = .ok (.lcmp, 1) := by decide +kernel
theorem d_L_law_626 : decode c_L_law 626 = .ok (.ifCond .eq 5, 3) := by decide +kernel
theorem d_L_law_629 : decode c_L_law 629 = .ok (.iconst 0, 1) := by decide +kernel
theorem d_L_law_630 : decode c_L_law 630 = .ok (.ireturn, 1) := by decide +kernel
theorem d_L_law_631 : decode c_L_law 631 = .ok (.goto 202, 3) := by decide +kernel
theorem d_L_law_634 : decode c_L_law 634 = .ok (.aload_n 1, 1) := by decide +kernel
theorem d_L_law_635 : decode c_L_law 635 = .ok (.aload_n 3, 1) := by decide +kernel
theorem d_L_law_636 : decode c_L_law 636 = .ok (.invokestatic 113, 3) := by decide +kernel
theorem d_L_law_639 : decode c_L_law 639 = .ok (.istore 5, 2) := by decide +kernel
theorem d_L_law_641 : decode c_L_law 641 = .ok (.aload_n 2, 1) := by decide +kernel
theorem d_L_law_642 : decode c_L_law 642 = .ok (.invokevirtual 115, 3) := by decide +kernel
theorem d_L_law_645 : decode c_L_law 645 = .ok (.istore 6, 2) := by decide +kernel
theorem d_L_law_647 : decode c_L_law 647 = .ok (.aload_n 2, 1) := by decide +kernel
theorem d_L_law_648 : decode c_L_law 648 = .ok (.invokevirtual 68, 3) := by decide +kernel
theorem d_L_law_651 : decode c_L_law 651 = .ok (.iload 5, 2) := by decide +kernel
theorem d_L_law_653 : decode c_L_law 653 = .ok (.if_icmp .eq 5, 3) := by decide +kernel
theorem d_L_law_656 : decode c_L_law 656 = .ok (.iconst 0, 1) := by decide +kernel
theorem d_L_law_657 : decode c_L_law 657 = .ok (.ireturn, 1) := by decide +kernel
theorem d_L_law_658 : decode c_L_law 658 = .ok (.iload 5, 2) := by decide +kernel
theorem d_L_law_660 : decode c_L_law 660 = .ok (.ifCond .ne 15, 3) := by decide +kernel
theorem d_L_law_663 : decode c_L_law 663 = .ok (.aload_n 3, 1) := by decide +kernel
theorem d_L_law_664 : decode c_L_law 664 = .ok (.iconst 0, 1) := by decide +kernel
theorem d_L_law_665 : decode c_L_law 665 = .ok (.laload, 1) := by decide +kernel
theorem d_L_law_666 : decode c_L_law 666 = .ok (.iload 6, 2) := by decide +kernel
theorem d_L_law_668 : decode c_L_law 668 = .ok (.i2l, 1) := by decide +kernel
theorem d_L_law_669 : decode c_L_law 669 = .ok (.lcmp, 1) := by decide +kernel
theorem d_L_law_670 : decode c_L_law 670 = .ok (.ifCond .eq 5, 3) := by decide +kernel
theorem d_L_law_673 : decode c_L_law 673 = .ok (.iconst 0, 1) := by decide +kernel
theorem d_L_law_674 : decode c_L_law 674 = .ok (.ireturn, 1) := by decide +kernel
theorem d_L_law_675 : decode c_L_law 675 = .ok (.goto 158, 3) := by decide +kernel
theorem d_L_law_678 : decode c_L_law 678 = .ok (.aload_n 1, 1) := by decide +kernel
theorem d_L_law_679 : decode c_L_law 679 = .ok (.aload_n 3, 1) := by decide +kernel
theorem d_L_law_680 : decode c_L_law 680 = .ok (.invokestatic 116, 3) := by decide +kernel
theorem d_L_law_683 : decode c_L_law 683 = .ok (.istore 5, 2) := by decide +kernel
theorem d_L_law_685 : decode c_L_law 685 = .ok (.aload_n 2, 1) := by decide +kernel
theorem d_L_law_686 : decode c_L_law 686 = .ok (.invokevirtual 118, 3) := by decide +kernel
theorem d_L_law_689 : decode c_L_law 689 = .ok (.istore 6, 2) := by decide +kernel
theorem d_L_law_691 : decode c_L_law 691 = .ok (.aload_n 2, 1) := by decide +kernel
theorem d_L_law_692 : decode c_L_law 692 = .ok (.invokevirtual 68, 3) := by decide +kernel
theorem d_L_law_695 : decode c_L_law 695 = .ok (.iload 5, 2) := by decide +kernel
theorem d_L_law_697 : decode c_L_law 697 = .ok (.if_icmp .eq 5, 3) := by decide +kernel
theorem d_L_law_700 : decode c_L_law 700 = .ok (.iconst 0, 1) := by decide +kernel
theorem d_L_law_701 : decode c_L_law 701 = .ok (.ireturn, 1) := by decide +kernel
theorem d_L_law_702 : decode c_L_law 702 = .ok (.iload 5, 2) := by decide +kernel
theorem d_L_law_704 : decode c_L_law 704 = .ok (.ifCond .ne 15, 3) := by decide +kernel
theorem d_L_law_707 : decode c_L_law 707 = .ok (.aload_n 3, 1) := by decide +kernel
theorem d_L_law_708 : decode c_L_law 708 = .ok (.iconst 0, 1) := by decide +kernel
theorem d_L_law_709 : decode c_L_law 709 = .ok (.laload, 1) := by decide +kernel
theorem d_L_law_710 : decode c_L_law 710 = .ok (.iload 6, 2) := by decide +kernel
theorem d_L_law_712 : decode c_L_law 712 = .ok (.i2l, 1) := by decide +kernel
theorem d_L_law_713 : decode c_L_law 713 = .ok (.lcmp, 1) := by decide +kernel
theorem d_L_law_714 : decode c_L_law 714 = .ok (.ifCond .eq 5, 3) := by decide +kernel
theorem d_L_law_717 : decode c_L_law 717 = .ok (.iconst 0, 1) := by decide +kernel
theorem d_L_law_718 : decode c_L_law 718 = .ok (.ireturn, 1) := by decide +kernel
theorem d_L_law_719 : decode c_L_law 719 = .ok (.goto 114, 3) := by decide +kernel
theorem d_L_law_722 : decode c_L_law 722 = .ok (.aload_n 1, 1) := by decide +kernel
theorem d_L_law_723 : decode c_L_law 723 = .ok (.aload_n 0, 1) := by decide +kernel
theorem d_L_law_724 : decode c_L_law 724 = .ok (.iload 4, 2) := by decide +kernel
theorem d_L_law_726 : decode c_L_law 726 = .ok (.iconst 1, 1) := by decide +kernel
theorem d_L_law_727 : decode c_L_law 727 = .ok (.iadd, 1) := by decide +kernel
theorem d_L_law_728 : decode c_L_law 728 = .ok (.iaload, 1) := by decide +kernel
theorem d_L_law_729 : decode c_L_law 729 = .ok (.aload_n 3, 1) := by decide +kernel
theorem d_L_law_730 : decode c_L_law 730 = .ok (.invokestatic 119, 3) := by decide +kernel
theorem d_L_law_733 : decode c_L_law 733 = .ok (.istore 5, 2) := by decide +kernel
theorem d_L_law_735 : decode c_L_law 735 = .ok (.aload_n 2, 1) := by decide +kernel
theorem d_L_law_736 : decode c_L_law 736 = .ok (.aload_n 0, 1) := by decide +kernel
theorem d_L_law_737 : decode c_L_law 737 = .ok (.iload 4, 2) := by decide +kernel
theorem d_L_law_739 : decode c_L_law 739 = .ok (.iconst 1, 1) := by decide +kernel
theorem d_L_law_740 : decode c_L_law 740 = .ok (.iadd, 1) := by decide +kernel
theorem d_L_law_741 : decode c_L_law 741 = .ok (.iaload, 1) := by decide +kernel
theorem d_L_law_742 : decode c_L_law 742 = .ok (.invokevirtual 121, 3) := by decide +kernel
theorem d_L_law_745 : decode c_L_law 745 = .ok (.istore 6, 2) := by decide +kernel
theorem d_L_law_747 : decode c_L_law 747 = .ok (.aload_n 2, 1) := by decide +kernel
theorem d_L_law_748 : decode c_L_law 748 = .ok (.invokevirtual 68, 3) := by decide +kernel
theorem d_L_law_751 : decode c_L_law 751 = .ok (.iload 5, 2) := by decide +kernel
theorem d_L_law_753 : decode c_L_law 753 = .ok (.if_icmp .eq 5, 3) := by decide +kernel
theorem d_L_law_756 : decode c_L_law 756 = .ok (.iconst 0, 1) := by decide +kernel
theorem d_L_law_757 : decode c_L_law 757 = .ok (.ireturn, 1) := by decide +kernel
theorem d_L_law_758 : decode c_L_law 758 = .ok (.iload 5, 2) := by decide +kernel
theorem d_L_law_760 : decode c_L_law 760 = .ok (.ifCond .ne 15, 3) := by decide +kernel
theorem d_L_law_763 : decode c_L_law 763 = .ok (.aload_n 3, 1) := by decide +kernel
theorem d_L_law_764 : decode c_L_law 764 = .ok (.iconst 0, 1) := by decide +kernel
theorem d_L_law_765 : decode c_L_law 765 = .ok (.laload, 1) := by decide +kernel
theorem d_L_law_766 : decode c_L_law 766 = .ok (.iload 6, 2) := by decide +kernel
theorem d_L_law_768 : decode c_L_law 768 = .ok (.i2l, 1) := by decide +kernel
theorem d_L_law_769 : decode c_L_law 769 = .ok (.lcmp, 1) := by decide +kernel
theorem d_L_law_770 : decode c_L_law 770 = .ok (.ifCond .eq 5, 3) := by decide +kernel
theorem d_L_law_773 : decode c_L_law 773 = .ok (.iconst 0, 1) := by decide +kernel
theorem d_L_law_774 : decode c_L_law 774 = .ok (.ireturn, 1) := by decide +kernel
theorem d_L_law_775 : decode c_L_law 775 = .ok (.goto 58, 3) := by decide +kernel
theorem d_L_law_778 : decode c_L_law 778 = .ok (.aload_n 1, 1) := by decide +kernel
theorem d_L_law_779 : decode c_L_law 779 = .ok (.aload_n 0, 1) := by decide +kernel
theorem d_L_law_780 : decode c_L_law 780 = .ok (.iload 4, 2) := by decide +kernel
theorem d_L_law_782 : decode c_L_law 782 = .ok (.iconst 1, 1) := by decide +kernel
theorem d_L_law_783 : decode c_L_law 783 = .ok (.iadd, 1) := by decide +kernel
theorem d_L_law_784 : decode c_L_law 784 = .ok (.iaload, 1) := by decide +kernel
theorem d_L_law_785 : decode c_L_law 785 = .ok (.aload_n 3, 1) := by decide +kernel
theorem d_L_law_786 : decode c_L_law 786 = .ok (.invokestatic 122, 3) := by decide +kernel
theorem d_L_law_789 : decode c_L_law 789 = .ok (.istore 5, 2) := by decide +kernel
theorem d_L_law_791 : decode c_L_law 791 = .ok (.aload_n 2, 1) := by decide +kernel
theorem d_L_law_792 : decode c_L_law 792 = .ok (.aload_n 0, 1) := by decide +kernel
theorem d_L_law_793 : decode c_L_law 793 = .ok (.iload 4, 2) := by decide +kernel
theorem d_L_law_795 : decode c_L_law 795 = .ok (.iconst 1, 1) := by decide +kernel
theorem d_L_law_796 : decode c_L_law 796 = .ok (.iadd, 1) := by decide +kernel
theorem d_L_law_797 : decode c_L_law 797 = .ok (.iaload, 1) := by decide +kernel
theorem d_L_law_798 : decode c_L_law 798 = .ok (.invokevirtual 124, 3) := by decide +kernel
theorem d_L_law_801 : decode c_L_law 801 = .ok (.lstore 6, 2) := by decide +kernel
theorem d_L_law_803 : decode c_L_law 803 = .ok (.aload_n 2, 1) := by decide +kernel
theorem d_L_law_804 : decode c_L_law 804 = .ok (.invokevirtual 68, 3) := by decide +kernel
theorem d_L_law_807 : decode c_L_law 807 = .ok (.iload 5, 2) := by decide +kernel
theorem d_L_law_809 : decode c_L_law 809 = .ok (.if_icmp .eq 5, 3) := by decide +kernel
theorem d_L_law_812 : decode c_L_law 812 = .ok (.iconst 0, 1) := by decide +kernel
theorem d_L_law_813 : decode c_L_law 813 = .ok (.ireturn, 1) := by decide +kernel
theorem d_L_law_814 : decode c_L_law 814 = .ok (.iload 5, 2) := by decide +kernel
theorem d_L_law_816 : decode c_L_law 816 = .ok (.ifCond .ne 14, 3) := by decide +kernel
theorem d_L_law_819 : decode c_L_law 819 = .ok (.aload_n 3, 1) := by decide +kernel
theorem d_L_law_820 : decode c_L_law 820 = .ok (.iconst 0, 1) := by decide +kernel
theorem d_L_law_821 : decode c_L_law 821 = .ok (.laload, 1) := by decide +kernel
theorem d_L_law_822 : decode c_L_law 822 = .ok (.lload 6, 2) := by decide +kernel
theorem d_L_law_824 : decode c_L_law 824 = .ok (.lcmp, 1) := by decide +kernel
theorem d_L_law_825 : decode c_L_law 825 = .ok (.ifCond .eq 5, 3) := by decide +kernel
theorem d_L_law_828 : decode c_L_law 828 = .ok (.iconst 0, 1) := by decide +kernel
theorem d_L_law_829 : decode c_L_law 829 = .ok (.ireturn, 1) := by decide +kernel
theorem d_L_law_830 : decode c_L_law 830 = .ok (.goto 3, 3) := by decide +kernel
theorem d_L_law_833 : decode c_L_law 833 = .ok (.iinc 4 6, 3) := by decide +kernel
theorem d_L_law_836 : decode c_L_law 836 = .ok (.goto (-813), 3) := by decide +kernel
theorem d_L_law_839 : decode c_L_law 839 = .ok (.iconst 1, 1) := by decide +kernel
theorem d_L_law_840 : decode c_L_law 840 = .ok (.ireturn, 1) := by decide +kernel
end
section
/-! rows of ours beside the kit's: joins, loops, a long compare with its jump -/
def td_lshl (x : Int64) (k : Int32) : Int64 := x <<< (k.toInt64 &&& 63)
def td_lushr (x : Int64) (k : Int32) : Int64 := (x.toUInt64 >>> (k.toInt64.toUInt64 &&& Int64.toUInt64 63)).toInt64
def td_lshr (x : Int64) (k : Int32) : Int64 := x >>> (k.toInt64 &&& 63)
theorem td_cmp0 (x y : Int64) : lg_cmp x y = 0 ↔ x = y := by
  unfold lg_cmp
  by_cases h : x > y
  · simp only [h, if_true]
    constructor
    · intro z; exact absurd z (by decide)
    · intro z; subst z; exact absurd h (by simp [Int64.lt_irrefl])
  · simp only [h, if_false]
    by_cases h2 : x = y
    · simp [h2]
    · simp only [h2, if_false, iff_false]
      decide
section TD
variable {p : Program} {l : Launch} {e : Env} {R : Room} {s : State} {m : MethodId} {args : Array Value} {below : List Frame} {meth : Method} {c : Code} {H : Heap} {locs : List Loc} {cells slots : Nat} {Q : State → Prop}
variable {cc : ByteArray} {pc : Nat} {ls : Array Slot} {rest : List Value}
/-- the value on top, said otherwise -/
theorem td_i {x y : Int32} (h : x = y) (k : W p l e R s m args below meth c H locs cells slots Q (F0 m pc ls (.int y :: rest))) : W p l e R s m args below meth c H locs cells slots Q (F0 m pc ls (.int x :: rest)) := by
  subst h; exact k
theorem td_l {x y : Int64} (h : x = y) (k : W p l e R s m args below meth c H locs cells slots Q (F0 m pc ls (.long y :: rest))) : W p l e R s m args below meth c H locs cells slots Q (F0 m pc ls (.long x :: rest)) := by
  subst h; exact k
/-- lcmp; ifeq -/
theorem td_leq (hexec : p.tables.exec = Jvm.exec) (hb : c.code = cc) {x y : Int64} {off : Int} {tgt : Nat} (d1 : decode cc pc = .ok (.lcmp, 1)) (d2 : decode cc (pc + 1) = .ok (.ifCond .eq off, 3)) (ht : ((pc + 1 : Nat) : Int) + off = (tgt : Int))
    (kt : x = y → W p l e R s m args below meth c H locs cells slots Q (F0 m tgt ls rest)) (kf : ¬ x = y → W p l e R s m args below meth c H locs cells slots Q (F0 m (pc + 4) ls rest)) : W p l e R s m args below meth c H locs cells slots Q (F0 m pc ls (.long y :: .long x :: rest)) := by
  refine W.lcmp hexec hb d1 ?_
  exact lv_if_eq hexec hb d2 ht (fun h => kt ((td_cmp0 x y).mp h)) (fun h => kf (fun z => h ((td_cmp0 x y).mpr z)))
/-- lcmp; ifne -/
theorem td_lne (hexec : p.tables.exec = Jvm.exec) (hb : c.code = cc) {x y : Int64} {off : Int} {tgt : Nat} (d1 : decode cc pc = .ok (.lcmp, 1)) (d2 : decode cc (pc + 1) = .ok (.ifCond .ne off, 3)) (ht : ((pc + 1 : Nat) : Int) + off = (tgt : Int))
    (kt : ¬ x = y → W p l e R s m args below meth c H locs cells slots Q (F0 m tgt ls rest)) (kf : x = y → W p l e R s m args below meth c H locs cells slots Q (F0 m (pc + 4) ls rest)) : W p l e R s m args below meth c H locs cells slots Q (F0 m pc ls (.long y :: .long x :: rest)) := by
  refine W.lcmp hexec hb d1 ?_
  exact lv_if_ne hexec hb d2 ht (fun h => kt (fun z => h ((td_cmp0 x y).mpr z))) (fun h => kf ((td_cmp0 x y).mp h))
/-- two roads that meet at pcJ with an int, a long, nothing on top, the locals as they are -/
theorem td_joini {g : JFrame} (pcJ : Nat) (lsJ : Array Slot) (restJ : List Value) (C : Int32 → Prop) (k : ∀ x, C x → W p l e R s m args below meth c H locs cells slots Q (F0 m pcJ lsJ (.int x :: restJ)))
    (h : (∀ x, C x → W p l e R s m args below meth c H locs cells slots Q (F0 m pcJ lsJ (.int x :: restJ))) → W p l e R s m args below meth c H locs cells slots Q g) : W p l e R s m args below meth c H locs cells slots Q g := h k
theorem td_joinl {g : JFrame} (pcJ : Nat) (lsJ : Array Slot) (restJ : List Value) (C : Int64 → Prop) (k : ∀ x, C x → W p l e R s m args below meth c H locs cells slots Q (F0 m pcJ lsJ (.long x :: restJ)))
    (h : (∀ x, C x → W p l e R s m args below meth c H locs cells slots Q (F0 m pcJ lsJ (.long x :: restJ))) → W p l e R s m args below meth c H locs cells slots Q g) : W p l e R s m args below meth c H locs cells slots Q g := h k
theorem td_joinu {g : JFrame} (pcJ : Nat) (lsJ : Array Slot) (restJ : List Value) (C : Prop) (k : C → W p l e R s m args below meth c H locs cells slots Q (F0 m pcJ lsJ restJ))
    (h : (C → W p l e R s m args below meth c H locs cells slots Q (F0 m pcJ lsJ restJ)) → W p l e R s m args below meth c H locs cells slots Q g) : W p l e R s m args below meth c H locs cells slots Q g := h k
/-- .. with other locals -/
theorem td_joins {g : JFrame} (pcJ : Nat) (restJ : List Value) (C : Array Slot → Prop) (k : ∀ ls', C ls' → W p l e R s m args below meth c H locs cells slots Q (F0 m pcJ ls' restJ))
    (h : (∀ ls', C ls' → W p l e R s m args below meth c H locs cells slots Q (F0 m pcJ ls' restJ)) → W p l e R s m args below meth c H locs cells slots Q g) : W p l e R s m args below meth c H locs cells slots Q g := h k
/-- .. with another heap, other locals and stack; x : σ says what of it is known -/
theorem td_joinH {g : JFrame} {σ : Type} (pcJ : Nat) (C : σ → Heap → List Loc → Array Slot → List Value → Prop) (k : ∀ x H' locs' ls' st', C x H' locs' ls' st' → W p l e R s m args below meth c H' locs' cells slots Q (F0 m pcJ ls' st'))
    (h : (∀ x H' locs' ls' st', C x H' locs' ls' st' → W p l e R s m args below meth c H' locs' cells slots Q (F0 m pcJ ls' st')) → W p l e R s m args below meth c H locs cells slots Q g) : W p l e R s m args below meth c H locs cells slots Q g := h k
/-- a loop whose body leaves the heap: by a measure that falls -/
theorem td_loop {σ : Type} (pcJ : Nat) (stJ : List Value) (μ : σ → Nat) (C : σ → Array Slot → Prop)
    (hs : ∀ x ls', C x ls' → (∀ y ls'', μ y < μ x → C y ls'' → W p l e R s m args below meth c H locs cells slots Q (F0 m pcJ ls'' stJ)) → W p l e R s m args below meth c H locs cells slots Q (F0 m pcJ ls' stJ))
    (x : σ) (h : C x ls) : W p l e R s m args below meth c H locs cells slots Q (F0 m pcJ ls stJ) := by
  have key : ∀ n x ls', μ x < n → C x ls' → W p l e R s m args below meth c H locs cells slots Q (F0 m pcJ ls' stJ) := by
    intro n
    induction n with
    | zero => intro x ls' h; omega
    | succ n ih => intro x ls' hn hC; exact hs x ls' hC (fun y ls'' hy hC' => ih y ls'' (by omega) hC')
  exact key (μ x + 1) x ls (by omega) h
/-- a loop whose body writes -/
theorem td_loopH {σ : Type} (pcJ : Nat) (stJ : List Value) (μ : σ → Nat) (C : σ → Heap → List Loc → Array Slot → Prop)
    (hs : ∀ x H' locs' ls', C x H' locs' ls' → (∀ y H'' locs'' ls'', μ y < μ x → C y H'' locs'' ls'' → W p l e R s m args below meth c H'' locs'' cells slots Q (F0 m pcJ ls'' stJ)) → W p l e R s m args below meth c H' locs' cells slots Q (F0 m pcJ ls' stJ))
    (x : σ) (h : C x H locs ls) : W p l e R s m args below meth c H locs cells slots Q (F0 m pcJ ls stJ) := by
  have key : ∀ n x H' locs' ls', μ x < n → C x H' locs' ls' → W p l e R s m args below meth c H' locs' cells slots Q (F0 m pcJ ls' stJ) := by
    intro n
    induction n with
    | zero => intro x H' locs' ls' h; omega
    | succ n ih => intro x H' locs' ls' hn hC; exact hs x H' locs' ls' hC (fun y H'' locs'' ls'' hy hC' => ih y H'' locs'' ls'' (by omega) hC')
  exact key (μ x + 1) x H locs ls (by omega) h
end TD
end
section
/-! the class's static methods on longs, word for word -/
def td_runUp (f y : Int64) (k : Int32) : Int64 :=
  let r := td_lshl f k &&& y
  let r := r ||| (td_lshl r k &&& y)
  let r := r ||| (td_lshl r k &&& y)
  let r := r ||| (td_lshl r k &&& y)
  let r := r ||| (td_lshl r k &&& y)
  r ||| (td_lshl r k &&& y)
def td_runDown (f y : Int64) (k : Int32) : Int64 :=
  let r := td_lushr f k &&& y
  let r := r ||| (td_lushr r k &&& y)
  let r := r ||| (td_lushr r k &&& y)
  let r := r ||| (td_lushr r k &&& y)
  let r := r ||| (td_lushr r k &&& y)
  r ||| (td_lushr r k &&& y)
def td_ends (a b : Int64) (k : Int32) : Int64 := td_lshl (td_runUp a b k) k ||| td_lushr (td_runDown a b k) k
def td_inner (b : Int64) : Int64 := b &&& 9114861777597660798
def td_moves (a b : Int64) : Int64 := (((td_ends a (td_inner b) 1 ||| td_ends a b 8) ||| td_ends a (td_inner b) 9) ||| td_ends a (td_inner b) 7) &&& ((a ||| b) ^^^ (-1))
def td_tal (a b d : Int64) (k : Int32) : Int64 :=
  let up := td_runUp d b k
  let dn := td_runDown d b k
  let f := if (td_lshl up k &&& a) = 0 then 0 else up
  if (td_lushr dn k &&& a) = 0 then f else f ||| dn
def td_turned (a b d : Int64) : Int64 := ((td_tal a b d 8 ||| td_tal a (td_inner b) d 1) ||| td_tal a (td_inner b) d 9) ||| td_tal a (td_inner b) d 7
def td_on (q : Int32) : Int64 := if q < 64 then td_lshl 1 q else 0
def td_over (a b : Int64) : Prop := td_moves a b = 0 ∧ td_moves b a = 0
def td_pop (x : Int64) : Int32 :=
  let a := x - (td_lushr x 1 &&& 6148914691236517205)
  let b := (a &&& 3689348814741910323) + (td_lushr a 2 &&& 3689348814741910323)
  let c := (b + td_lushr b 4) &&& 1085102592571150095
  let d := c + td_lushr c 8
  let e := d + td_lushr d 16
  let f := e + td_lushr e 32
  f.toInt32 &&& 127
def td_near (x : Int64) : Int64 :=
  let w := (x ||| (td_lshl x 1 &&& (-72340172838076674))) ||| (td_lushr x 1 &&& 9187201950435737471)
  (w ||| td_lshl w 8) ||| td_lushr w 8
set_option maxHeartbeats 4000000 in
set_option maxRecDepth 100000 in
theorem m_X0_runUp (l : Launch) (f y : Int64) (k : Int32) : Met l y_X0_runUp (k_X0_runUp :: tw) ({ frames := 0, cells := 0, slots := 0, locals := 0 }) (va_Pc [.long f, .long y, .int k] (fun _ => True)) (vp_Sl (fun r => r = td_runUp f y k)) 0 0 (fun _ => False) := by
  refine Met.ofW (cc := c_X0_runUp) (maxL := 7) (ret := (some .long)) (by decide) rfl ?_
  intro p e s m args below meth c s₁ B hml hv
  obtain ⟨rfl, hv⟩ := hv
  have hx := B.exec
  have hb := B.bytes
  have hr := B.returns
  have hts : ∀ w ∈ tw, w.before _ s = true := fun w h => atoms_spec (ws := k_X0_runUp :: tw) B.pre w (List.mem_cons_of_mem _ h)
  have hown : s.vm.findClass RX0 = some m.cls := findClass_of_methodNamed B.named
  have hlocks := B.notSynchronized
  have hl := lv_entry ([.long f, .long y, .int k]) (n := 7) (Nat.le_of_ble_eq_true rfl)
  rw [lg_entry_eq]
  generalize (lg_sl ([.long f, .long y, .int k]) ++ List.replicate (7 - (lg_sl ([.long f, .long y, .int k])).length) Slot.unset).toArray = ls at hl ⊢
  have hl : lv_has ls 7 [(0, .long f), (2, .long y), (4, .int k)] := hl
  refine lv_lload_n hx hb d_X0_runUp_0 rfl (lv_at hl 0 rfl) ?_
  refine lv_iload hx hb d_X0_runUp_1 (lv_at hl 2 rfl) ?_
  refine lv_lshl (v := (td_lshl f k)) hx hb d_X0_runUp_3 rfl ?_
  refine lv_lload_n hx hb d_X0_runUp_4 rfl (lv_at hl 1 rfl) ?_
  refine lv_land hx hb d_X0_runUp_5 ?_
  refine lv_topl (fun r0 e0 => ?_)
  refine lv_lstore hx hb d_X0_runUp_6 hl (by decide) rfl (fun ls hl => ?_)
  have hl : lv_has ls 7 [(5, .long r0), (0, .long f), (2, .long y), (4, .int k)] := hl
  refine lv_lload hx hb d_X0_runUp_8 (lv_at hl 0 rfl) ?_
  refine lv_lload hx hb d_X0_runUp_10 (lv_at hl 0 rfl) ?_
  refine lv_iload hx hb d_X0_runUp_12 (lv_at hl 3 rfl) ?_
  refine lv_lshl (v := (td_lshl r0 k)) hx hb d_X0_runUp_14 rfl ?_
  refine lv_lload_n hx hb d_X0_runUp_15 rfl (lv_at hl 2 rfl) ?_
  refine lv_land hx hb d_X0_runUp_16 ?_
  refine lv_lor hx hb d_X0_runUp_17 ?_
  refine lv_topl (fun r1 e1 => ?_)
  refine lv_lstore hx hb d_X0_runUp_18 hl (by decide) rfl (fun ls hl => ?_)
  have hl : lv_has ls 7 [(5, .long r1), (0, .long f), (2, .long y), (4, .int k)] := hl
  refine lv_lload hx hb d_X0_runUp_20 (lv_at hl 0 rfl) ?_
  refine lv_lload hx hb d_X0_runUp_22 (lv_at hl 0 rfl) ?_
  refine lv_iload hx hb d_X0_runUp_24 (lv_at hl 3 rfl) ?_
  refine lv_lshl (v := (td_lshl r1 k)) hx hb d_X0_runUp_26 rfl ?_
  refine lv_lload_n hx hb d_X0_runUp_27 rfl (lv_at hl 2 rfl) ?_
  refine lv_land hx hb d_X0_runUp_28 ?_
  refine lv_lor hx hb d_X0_runUp_29 ?_
  refine lv_topl (fun r2 e2 => ?_)
  refine lv_lstore hx hb d_X0_runUp_30 hl (by decide) rfl (fun ls hl => ?_)
  have hl : lv_has ls 7 [(5, .long r2), (0, .long f), (2, .long y), (4, .int k)] := hl
  refine lv_lload hx hb d_X0_runUp_32 (lv_at hl 0 rfl) ?_
  refine lv_lload hx hb d_X0_runUp_34 (lv_at hl 0 rfl) ?_
  refine lv_iload hx hb d_X0_runUp_36 (lv_at hl 3 rfl) ?_
  refine lv_lshl (v := (td_lshl r2 k)) hx hb d_X0_runUp_38 rfl ?_
  refine lv_lload_n hx hb d_X0_runUp_39 rfl (lv_at hl 2 rfl) ?_
  refine lv_land hx hb d_X0_runUp_40 ?_
  refine lv_lor hx hb d_X0_runUp_41 ?_
  refine lv_topl (fun r3 e3 => ?_)
  refine lv_lstore hx hb d_X0_runUp_42 hl (by decide) rfl (fun ls hl => ?_)
  have hl : lv_has ls 7 [(5, .long r3), (0, .long f), (2, .long y), (4, .int k)] := hl
  refine lv_lload hx hb d_X0_runUp_44 (lv_at hl 0 rfl) ?_
  refine lv_lload hx hb d_X0_runUp_46 (lv_at hl 0 rfl) ?_
  refine lv_iload hx hb d_X0_runUp_48 (lv_at hl 3 rfl) ?_
  refine lv_lshl (v := (td_lshl r3 k)) hx hb d_X0_runUp_50 rfl ?_
  refine lv_lload_n hx hb d_X0_runUp_51 rfl (lv_at hl 2 rfl) ?_
  refine lv_land hx hb d_X0_runUp_52 ?_
  refine lv_lor hx hb d_X0_runUp_53 ?_
  refine lv_topl (fun r4 e4 => ?_)
  refine lv_lstore hx hb d_X0_runUp_54 hl (by decide) rfl (fun ls hl => ?_)
  have hl : lv_has ls 7 [(5, .long r4), (0, .long f), (2, .long y), (4, .int k)] := hl
  refine lv_lload hx hb d_X0_runUp_56 (lv_at hl 0 rfl) ?_
  refine lv_lload hx hb d_X0_runUp_58 (lv_at hl 0 rfl) ?_
  refine lv_iload hx hb d_X0_runUp_60 (lv_at hl 3 rfl) ?_
  refine lv_lshl (v := (td_lshl r4 k)) hx hb d_X0_runUp_62 rfl ?_
  refine lv_lload_n hx hb d_X0_runUp_63 rfl (lv_at hl 2 rfl) ?_
  refine lv_land hx hb d_X0_runUp_64 ?_
  refine lv_lor hx hb d_X0_runUp_65 ?_
  exact W.lret (v := (r4 ||| ((td_lshl r4 k) &&& y))) hx hb hr (fun t ht hW => ⟨_, rfl, by subst_vars; rfl, ht⟩) (fun _ h => nomatch h) d_X0_runUp_66
set_option maxHeartbeats 4000000 in
set_option maxRecDepth 100000 in
theorem m_X0_runDown (l : Launch) (f y : Int64) (k : Int32) : Met l y_X0_runDown (k_X0_runDown :: tw) ({ frames := 0, cells := 0, slots := 0, locals := 0 }) (va_Pc [.long f, .long y, .int k] (fun _ => True)) (vp_Sl (fun r => r = td_runDown f y k)) 0 0 (fun _ => False) := by
  refine Met.ofW (cc := c_X0_runDown) (maxL := 7) (ret := (some .long)) (by decide) rfl ?_
  intro p e s m args below meth c s₁ B hml hv
  obtain ⟨rfl, hv⟩ := hv
  have hx := B.exec
  have hb := B.bytes
  have hr := B.returns
  have hts : ∀ w ∈ tw, w.before _ s = true := fun w h => atoms_spec (ws := k_X0_runDown :: tw) B.pre w (List.mem_cons_of_mem _ h)
  have hown : s.vm.findClass RX0 = some m.cls := findClass_of_methodNamed B.named
  have hlocks := B.notSynchronized
  have hl := lv_entry ([.long f, .long y, .int k]) (n := 7) (Nat.le_of_ble_eq_true rfl)
  rw [lg_entry_eq]
  generalize (lg_sl ([.long f, .long y, .int k]) ++ List.replicate (7 - (lg_sl ([.long f, .long y, .int k])).length) Slot.unset).toArray = ls at hl ⊢
  have hl : lv_has ls 7 [(0, .long f), (2, .long y), (4, .int k)] := hl
  refine lv_lload_n hx hb d_X0_runDown_0 rfl (lv_at hl 0 rfl) ?_
  refine lv_iload hx hb d_X0_runDown_1 (lv_at hl 2 rfl) ?_
  refine lv_lushr (v := (td_lushr f k)) hx hb d_X0_runDown_3 rfl ?_
  refine lv_lload_n hx hb d_X0_runDown_4 rfl (lv_at hl 1 rfl) ?_
  refine lv_land hx hb d_X0_runDown_5 ?_
  refine lv_topl (fun r0 e0 => ?_)
  refine lv_lstore hx hb d_X0_runDown_6 hl (by decide) rfl (fun ls hl => ?_)
  have hl : lv_has ls 7 [(5, .long r0), (0, .long f), (2, .long y), (4, .int k)] := hl
  refine lv_lload hx hb d_X0_runDown_8 (lv_at hl 0 rfl) ?_
  refine lv_lload hx hb d_X0_runDown_10 (lv_at hl 0 rfl) ?_
  refine lv_iload hx hb d_X0_runDown_12 (lv_at hl 3 rfl) ?_
  refine lv_lushr (v := (td_lushr r0 k)) hx hb d_X0_runDown_14 rfl ?_
  refine lv_lload_n hx hb d_X0_runDown_15 rfl (lv_at hl 2 rfl) ?_
  refine lv_land hx hb d_X0_runDown_16 ?_
  refine lv_lor hx hb d_X0_runDown_17 ?_
  refine lv_topl (fun r1 e1 => ?_)
  refine lv_lstore hx hb d_X0_runDown_18 hl (by decide) rfl (fun ls hl => ?_)
  have hl : lv_has ls 7 [(5, .long r1), (0, .long f), (2, .long y), (4, .int k)] := hl
  refine lv_lload hx hb d_X0_runDown_20 (lv_at hl 0 rfl) ?_
  refine lv_lload hx hb d_X0_runDown_22 (lv_at hl 0 rfl) ?_
  refine lv_iload hx hb d_X0_runDown_24 (lv_at hl 3 rfl) ?_
  refine lv_lushr (v := (td_lushr r1 k)) hx hb d_X0_runDown_26 rfl ?_
  refine lv_lload_n hx hb d_X0_runDown_27 rfl (lv_at hl 2 rfl) ?_
  refine lv_land hx hb d_X0_runDown_28 ?_
  refine lv_lor hx hb d_X0_runDown_29 ?_
  refine lv_topl (fun r2 e2 => ?_)
  refine lv_lstore hx hb d_X0_runDown_30 hl (by decide) rfl (fun ls hl => ?_)
  have hl : lv_has ls 7 [(5, .long r2), (0, .long f), (2, .long y), (4, .int k)] := hl
  refine lv_lload hx hb d_X0_runDown_32 (lv_at hl 0 rfl) ?_
  refine lv_lload hx hb d_X0_runDown_34 (lv_at hl 0 rfl) ?_
  refine lv_iload hx hb d_X0_runDown_36 (lv_at hl 3 rfl) ?_
  refine lv_lushr (v := (td_lushr r2 k)) hx hb d_X0_runDown_38 rfl ?_
  refine lv_lload_n hx hb d_X0_runDown_39 rfl (lv_at hl 2 rfl) ?_
  refine lv_land hx hb d_X0_runDown_40 ?_
  refine lv_lor hx hb d_X0_runDown_41 ?_
  refine lv_topl (fun r3 e3 => ?_)
  refine lv_lstore hx hb d_X0_runDown_42 hl (by decide) rfl (fun ls hl => ?_)
  have hl : lv_has ls 7 [(5, .long r3), (0, .long f), (2, .long y), (4, .int k)] := hl
  refine lv_lload hx hb d_X0_runDown_44 (lv_at hl 0 rfl) ?_
  refine lv_lload hx hb d_X0_runDown_46 (lv_at hl 0 rfl) ?_
  refine lv_iload hx hb d_X0_runDown_48 (lv_at hl 3 rfl) ?_
  refine lv_lushr (v := (td_lushr r3 k)) hx hb d_X0_runDown_50 rfl ?_
  refine lv_lload_n hx hb d_X0_runDown_51 rfl (lv_at hl 2 rfl) ?_
  refine lv_land hx hb d_X0_runDown_52 ?_
  refine lv_lor hx hb d_X0_runDown_53 ?_
  refine lv_topl (fun r4 e4 => ?_)
  refine lv_lstore hx hb d_X0_runDown_54 hl (by decide) rfl (fun ls hl => ?_)
  have hl : lv_has ls 7 [(5, .long r4), (0, .long f), (2, .long y), (4, .int k)] := hl
  refine lv_lload hx hb d_X0_runDown_56 (lv_at hl 0 rfl) ?_
  refine lv_lload hx hb d_X0_runDown_58 (lv_at hl 0 rfl) ?_
  refine lv_iload hx hb d_X0_runDown_60 (lv_at hl 3 rfl) ?_
  refine lv_lushr (v := (td_lushr r4 k)) hx hb d_X0_runDown_62 rfl ?_
  refine lv_lload_n hx hb d_X0_runDown_63 rfl (lv_at hl 2 rfl) ?_
  refine lv_land hx hb d_X0_runDown_64 ?_
  refine lv_lor hx hb d_X0_runDown_65 ?_
  exact W.lret (v := (r4 ||| ((td_lushr r4 k) &&& y))) hx hb hr (fun t ht hW => ⟨_, rfl, by subst_vars; rfl, ht⟩) (fun _ h => nomatch h) d_X0_runDown_66
set_option maxHeartbeats 4000000 in
set_option maxRecDepth 100000 in
theorem m_X0_endsAlong (l : Launch) (a b : Int64) (k : Int32) : Met l y_X0_endsAlong (k_X0_endsAlong :: tw) ({ frames := 1, cells := 0, slots := 0, locals := 26 }) (va_Pc [.long a, .long b, .int k] (fun _ => True)) (vp_Sl (fun r => r = td_ends a b k)) 0 0 (fun _ => False) := by
  refine Met.ofW (cc := c_X0_endsAlong) (maxL := 5) (ret := (some .long)) (by decide) rfl ?_
  intro p e s m args below meth c s₁ B hml hv
  obtain ⟨rfl, hv⟩ := hv
  have hx := B.exec
  have hb := B.bytes
  have hr := B.returns
  have hts : ∀ w ∈ tw, w.before _ s = true := fun w h => atoms_spec (ws := k_X0_endsAlong :: tw) B.pre w (List.mem_cons_of_mem _ h)
  have hown : s.vm.findClass RX0 = some m.cls := findClass_of_methodNamed B.named
  have hlocks := B.notSynchronized
  have hl := lv_entry ([.long a, .long b, .int k]) (n := 5) (Nat.le_of_ble_eq_true rfl)
  rw [lg_entry_eq]
  generalize (lg_sl ([.long a, .long b, .int k]) ++ List.replicate (5 - (lg_sl ([.long a, .long b, .int k])).length) Slot.unset).toArray = ls at hl ⊢
  have hl : lv_has ls 5 [(0, .long a), (2, .long b), (4, .int k)] := hl
  refine lv_lload_n hx hb d_X0_endsAlong_0 rfl (lv_at hl 0 rfl) ?_
  refine lv_lload_n hx hb d_X0_endsAlong_1 rfl (lv_at hl 1 rfl) ?_
  refine lv_iload hx hb d_X0_endsAlong_2 (lv_at hl 2 rfl) ?_
  refine vp_callSl (W.runS (As := [.long a, .long b, .int k]) (rest := []) ⟨hx, hb, hml, hown, hts⟩ (m_X0_runUp l a b k) (va_cwS 3 hts (tw_S ml_X0_165 st_X0_runUp in_X0 kw_X0_runUp) rfl rfl rfl (by decide +kernel) ⟨Nat.le_of_ble_eq_true rfl, Nat.le_of_ble_eq_true rfl⟩) ⟨fun _ _ _ _ q => q, fun U hU hW => ⟨rfl, trivial⟩⟩ rfl rfl hl.1 rfl (lv_room (Nat.le_of_ble_eq_true rfl)) d_X0_endsAlong_4 ⟨Nat.le_refl _, Nat.le_refl _⟩) (fun r hq => ?_)
  subst hq
  refine lv_iload hx hb d_X0_endsAlong_7 (lv_at hl 2 rfl) ?_
  refine lv_lshl (v := (td_lshl (td_runUp a b k) k)) hx hb d_X0_endsAlong_9 rfl ?_
  refine lv_lload_n hx hb d_X0_endsAlong_10 rfl (lv_at hl 0 rfl) ?_
  refine lv_lload_n hx hb d_X0_endsAlong_11 rfl (lv_at hl 1 rfl) ?_
  refine lv_iload hx hb d_X0_endsAlong_12 (lv_at hl 2 rfl) ?_
  refine vp_callSl (W.runS (As := [.long a, .long b, .int k]) (rest := [.long (td_lshl (td_runUp a b k) k)]) ⟨hx, hb, hml, hown, hts⟩ (m_X0_runDown l a b k) (va_cwS 3 hts (tw_S ml_X0_168 st_X0_runDown in_X0 kw_X0_runDown) rfl rfl rfl (by decide +kernel) ⟨Nat.le_of_ble_eq_true rfl, Nat.le_of_ble_eq_true rfl⟩) ⟨fun _ _ _ _ q => q, fun U hU hW => ⟨rfl, trivial⟩⟩ rfl rfl hl.1 rfl (lv_room (Nat.le_of_ble_eq_true rfl)) d_X0_endsAlong_14 ⟨Nat.le_refl _, Nat.le_refl _⟩) (fun r hq => ?_)
  subst hq
  refine lv_iload hx hb d_X0_endsAlong_17 (lv_at hl 2 rfl) ?_
  refine lv_lushr (v := (td_lushr (td_runDown a b k) k)) hx hb d_X0_endsAlong_19 rfl ?_
  refine lv_lor hx hb d_X0_endsAlong_20 ?_
  exact W.lret (v := ((td_lshl (td_runUp a b k) k) ||| (td_lushr (td_runDown a b k) k))) hx hb hr (fun t ht hW => ⟨_, rfl, rfl, ht⟩) (fun _ h => nomatch h) d_X0_endsAlong_21
set_option maxHeartbeats 4000000 in
set_option maxRecDepth 100000 in
theorem m_X0_movesOf (l : Launch) (a b : Int64) : Met l y_X0_movesOf (k_X0_movesOf :: tw) ({ frames := 2, cells := 0, slots := 0, locals := 50 }) (va_Pc [.long a, .long b] (fun _ => True)) (vp_Sl (fun r => r = td_moves a b)) 0 0 (fun _ => False) := by
  refine Met.ofW (cc := c_X0_movesOf) (maxL := 8) (ret := (some .long)) (by decide) rfl ?_
  intro p e s m args below meth c s₁ B hml hv
  obtain ⟨rfl, hv⟩ := hv
  have hx := B.exec
  have hb := B.bytes
  have hr := B.returns
  have hts : ∀ w ∈ tw, w.before _ s = true := fun w h => atoms_spec (ws := k_X0_movesOf :: tw) B.pre w (List.mem_cons_of_mem _ h)
  have hown : s.vm.findClass RX0 = some m.cls := findClass_of_methodNamed B.named
  have hlocks := B.notSynchronized
  have hl := lv_entry ([.long a, .long b]) (n := 8) (Nat.le_of_ble_eq_true rfl)
  rw [lg_entry_eq]
  generalize (lg_sl ([.long a, .long b]) ++ List.replicate (8 - (lg_sl ([.long a, .long b])).length) Slot.unset).toArray = ls at hl ⊢
  have hl : lv_has ls 8 [(0, .long a), (2, .long b)] := hl
  refine lv_lload_n hx hb d_X0_movesOf_0 rfl (lv_at hl 1 rfl) ?_
  refine lv_ldc2 (v := 9114861777597660798) hx hb hown (hts _ cn_X0_160) d_X0_movesOf_1 ?_
  refine lv_land hx hb d_X0_movesOf_4 ?_
  refine td_l (y := (td_inner b)) (rfl) ?_
  refine lv_lstore hx hb d_X0_movesOf_5 hl (by decide) rfl (fun ls hl => ?_)
  have hl : lv_has ls 8 [(4, .long (td_inner b)), (0, .long a), (2, .long b)] := hl
  refine lv_lload_n hx hb d_X0_movesOf_7 rfl (lv_at hl 1 rfl) ?_
  refine lv_lload hx hb d_X0_movesOf_8 (lv_at hl 0 rfl) ?_
  refine lv_iconst (v := 1) hx hb d_X0_movesOf_10 (by decide) ?_
  refine vp_callSl (W.runS (As := [.long a, .long (td_inner b), .int 1]) (rest := []) ⟨hx, hb, hml, hown, hts⟩ (m_X0_endsAlong l a (td_inner b) 1) (va_cwS 3 hts (tw_S ml_X0_162 st_X0_endsAlong in_X0 kw_X0_endsAlong) rfl rfl rfl (by decide +kernel) ⟨Nat.le_of_ble_eq_true rfl, Nat.le_of_ble_eq_true rfl⟩) ⟨fun _ _ _ _ q => q, fun U hU hW => ⟨rfl, trivial⟩⟩ rfl rfl hl.1 rfl (lv_room (Nat.le_of_ble_eq_true rfl)) d_X0_movesOf_11 ⟨Nat.le_refl _, Nat.le_refl _⟩) (fun r hq => ?_)
  subst hq
  refine lv_lload_n hx hb d_X0_movesOf_14 rfl (lv_at hl 1 rfl) ?_
  refine lv_lload_n hx hb d_X0_movesOf_15 rfl (lv_at hl 2 rfl) ?_
  refine lv_bipush (v := 8) hx hb d_X0_movesOf_16 (by decide) ?_
  refine vp_callSl (W.runS (As := [.long a, .long b, .int 8]) (rest := [.long (td_ends a (td_inner b) 1)]) ⟨hx, hb, hml, hown, hts⟩ (m_X0_endsAlong l a b 8) (va_cwS 3 hts (tw_S ml_X0_162 st_X0_endsAlong in_X0 kw_X0_endsAlong) rfl rfl rfl (by decide +kernel) ⟨Nat.le_of_ble_eq_true rfl, Nat.le_of_ble_eq_true rfl⟩) ⟨fun _ _ _ _ q => q, fun U hU hW => ⟨rfl, trivial⟩⟩ rfl rfl hl.1 rfl (lv_room (Nat.le_of_ble_eq_true rfl)) d_X0_movesOf_18 ⟨Nat.le_refl _, Nat.le_refl _⟩) (fun r hq => ?_)
  subst hq
  refine lv_lor hx hb d_X0_movesOf_21 ?_
  refine lv_lload_n hx hb d_X0_movesOf_22 rfl (lv_at hl 1 rfl) ?_
  refine lv_lload hx hb d_X0_movesOf_23 (lv_at hl 0 rfl) ?_
  refine lv_bipush (v := 9) hx hb d_X0_movesOf_25 (by decide) ?_
  refine vp_callSl (W.runS (As := [.long a, .long (td_inner b), .int 9]) (rest := [.long ((td_ends a (td_inner b) 1) ||| (td_ends a b 8))]) ⟨hx, hb, hml, hown, hts⟩ (m_X0_endsAlong l a (td_inner b) 9) (va_cwS 3 hts (tw_S ml_X0_162 st_X0_endsAlong in_X0 kw_X0_endsAlong) rfl rfl rfl (by decide +kernel) ⟨Nat.le_of_ble_eq_true rfl, Nat.le_of_ble_eq_true rfl⟩) ⟨fun _ _ _ _ q => q, fun U hU hW => ⟨rfl, trivial⟩⟩ rfl rfl hl.1 rfl (lv_room (Nat.le_of_ble_eq_true rfl)) d_X0_movesOf_27 ⟨Nat.le_refl _, Nat.le_refl _⟩) (fun r hq => ?_)
  subst hq
  refine lv_lor hx hb d_X0_movesOf_30 ?_
  refine lv_lload_n hx hb d_X0_movesOf_31 rfl (lv_at hl 1 rfl) ?_
  refine lv_lload hx hb d_X0_movesOf_32 (lv_at hl 0 rfl) ?_
  refine lv_bipush (v := 7) hx hb d_X0_movesOf_34 (by decide) ?_
  refine vp_callSl (W.runS (As := [.long a, .long (td_inner b), .int 7]) (rest := [.long (((td_ends a (td_inner b) 1) ||| (td_ends a b 8)) ||| (td_ends a (td_inner b) 9))]) ⟨hx, hb, hml, hown, hts⟩ (m_X0_endsAlong l a (td_inner b) 7) (va_cwS 3 hts (tw_S ml_X0_162 st_X0_endsAlong in_X0 kw_X0_endsAlong) rfl rfl rfl (by decide +kernel) ⟨Nat.le_of_ble_eq_true rfl, Nat.le_of_ble_eq_true rfl⟩) ⟨fun _ _ _ _ q => q, fun U hU hW => ⟨rfl, trivial⟩⟩ rfl rfl hl.1 rfl (lv_room (Nat.le_of_ble_eq_true rfl)) d_X0_movesOf_36 ⟨Nat.le_refl _, Nat.le_refl _⟩) (fun r hq => ?_)
  subst hq
  refine lv_lor hx hb d_X0_movesOf_39 ?_
  refine lv_lstore hx hb d_X0_movesOf_40 hl (by decide) rfl (fun ls hl => ?_)
  have hl : lv_has ls 8 [(6, .long ((((td_ends a (td_inner b) 1) ||| (td_ends a b 8)) ||| (td_ends a (td_inner b) 9)) ||| (td_ends a (td_inner b) 7))), (4, .long (td_inner b)), (0, .long a), (2, .long b)] := hl
  refine lv_lload hx hb d_X0_movesOf_42 (lv_at hl 0 rfl) ?_
  refine lv_lload_n hx hb d_X0_movesOf_44 rfl (lv_at hl 2 rfl) ?_
  refine lv_lload_n hx hb d_X0_movesOf_45 rfl (lv_at hl 3 rfl) ?_
  refine lv_lor hx hb d_X0_movesOf_46 ?_
  refine lv_ldc2 (v := (-1)) hx hb hown (hts _ cn_X0_158) d_X0_movesOf_47 ?_
  refine lv_lxor hx hb d_X0_movesOf_50 ?_
  refine lv_land hx hb d_X0_movesOf_51 ?_
  exact W.lret (v := (((((td_ends a (td_inner b) 1) ||| (td_ends a b 8)) ||| (td_ends a (td_inner b) 9)) ||| (td_ends a (td_inner b) 7)) &&& ((a ||| b) ^^^ (-1)))) hx hb hr (fun t ht hW => ⟨_, rfl, rfl, ht⟩) (fun _ h => nomatch h) d_X0_movesOf_52
end
section
/-! more of the class's static methods -/
def td_hup (m : Int64) (k : Int32) (u : Int64) : Nat → Int64
  | 0 => u
  | n + 1 => td_hup m k u n ||| td_lushr (td_hup m k u n &&& m) k
def td_hdn (m : Int64) (k : Int32) (u : Int64) : Nat → Int64
  | 0 => u
  | n + 1 => td_hdn m k u n ||| td_lshl (td_hdn m k u n &&& m) k
def td_held (m : Int64) (k : Int32) (u d : Int64) : Int64 := td_hup m k u 7 ||| td_hdn m k d 7
def td_max (a b : Int32) : Int32 := if a < b then b else a
def td_lead (a b : Int64) : Int32 := td_pop a - td_pop b
set_option maxHeartbeats 4000000 in
set_option maxRecDepth 100000 in
theorem m_X0_turnedAlong (l : Launch) (a b d : Int64) (k : Int32) : Met l y_X0_turnedAlong (k_X0_turnedAlong :: tw) ({ frames := 1, cells := 0, slots := 0, locals := 26 }) (va_Pc [.long a, .long b, .long d, .int k] (fun _ => True)) (vp_Sl (fun r => r = td_tal a b d k)) 0 0 (fun _ => False) := by
  refine Met.ofW (cc := c_X0_turnedAlong) (maxL := 13) (ret := (some .long)) (by decide) rfl ?_
  intro p e s m args below meth c s₁ B hml hv
  obtain ⟨rfl, hv⟩ := hv
  have hx := B.exec
  have hb := B.bytes
  have hr := B.returns
  have hts : ∀ w ∈ tw, w.before _ s = true := fun w h => atoms_spec (ws := k_X0_turnedAlong :: tw) B.pre w (List.mem_cons_of_mem _ h)
  have hown : s.vm.findClass RX0 = some m.cls := findClass_of_methodNamed B.named
  have hlocks := B.notSynchronized
  have hl := lv_entry ([.long a, .long b, .long d, .int k]) (n := 13) (Nat.le_of_ble_eq_true rfl)
  rw [lg_entry_eq]
  generalize (lg_sl ([.long a, .long b, .long d, .int k]) ++ List.replicate (13 - (lg_sl ([.long a, .long b, .long d, .int k])).length) Slot.unset).toArray = ls at hl ⊢
  have hl : lv_has ls 13 [(0, .long a), (2, .long b), (4, .long d), (6, .int k)] := hl
  refine lv_lload hx hb d_X0_turnedAlong_0 (lv_at hl 2 rfl) ?_
  refine lv_lload_n hx hb d_X0_turnedAlong_2 rfl (lv_at hl 1 rfl) ?_
  refine lv_iload hx hb d_X0_turnedAlong_3 (lv_at hl 3 rfl) ?_
  refine vp_callSl (W.runS (As := [.long d, .long b, .int k]) (rest := []) ⟨hx, hb, hml, hown, hts⟩ (m_X0_runUp l d b k) (va_cwS 3 hts (tw_S ml_X0_165 st_X0_runUp in_X0 kw_X0_runUp) rfl rfl rfl (by decide +kernel) ⟨Nat.le_of_ble_eq_true rfl, Nat.le_of_ble_eq_true rfl⟩) ⟨fun _ _ _ _ q => q, fun U hU hW => ⟨rfl, trivial⟩⟩ rfl rfl hl.1 rfl (lv_room (Nat.le_of_ble_eq_true rfl)) d_X0_turnedAlong_5 ⟨Nat.le_refl _, Nat.le_refl _⟩) (fun r hq => ?_)
  subst hq
  refine lv_topl (fun up eu => ?_)
  refine lv_lstore hx hb d_X0_turnedAlong_8 hl (by decide) rfl (fun ls hl => ?_)
  have hl : lv_has ls 13 [(7, .long up), (0, .long a), (2, .long b), (4, .long d), (6, .int k)] := hl
  refine lv_lload hx hb d_X0_turnedAlong_10 (lv_at hl 3 rfl) ?_
  refine lv_lload_n hx hb d_X0_turnedAlong_12 rfl (lv_at hl 2 rfl) ?_
  refine lv_iload hx hb d_X0_turnedAlong_13 (lv_at hl 4 rfl) ?_
  refine vp_callSl (W.runS (As := [.long d, .long b, .int k]) (rest := []) ⟨hx, hb, hml, hown, hts⟩ (m_X0_runDown l d b k) (va_cwS 3 hts (tw_S ml_X0_168 st_X0_runDown in_X0 kw_X0_runDown) rfl rfl rfl (by decide +kernel) ⟨Nat.le_of_ble_eq_true rfl, Nat.le_of_ble_eq_true rfl⟩) ⟨fun _ _ _ _ q => q, fun U hU hW => ⟨rfl, trivial⟩⟩ rfl rfl hl.1 rfl (lv_room (Nat.le_of_ble_eq_true rfl)) d_X0_turnedAlong_15 ⟨Nat.le_refl _, Nat.le_refl _⟩) (fun r hq => ?_)
  subst hq
  refine lv_topl (fun dn ed => ?_)
  refine lv_lstore hx hb d_X0_turnedAlong_18 hl (by decide) rfl (fun ls hl => ?_)
  have hl : lv_has ls 13 [(9, .long dn), (7, .long up), (0, .long a), (2, .long b), (4, .long d), (6, .int k)] := hl
  refine td_joinl 38 ls [] (fun x => x = (if (td_lshl up k &&& a) = 0 then 0 else up)) (fun x ex => ?_) (fun J => ?_)
  · refine lv_topl (fun f ef => ?_)
    rw [ex] at ef
    refine lv_lstore hx hb d_X0_turnedAlong_38 hl (by decide) rfl (fun ls hl => ?_)
    have hl : lv_has ls 13 [(11, .long f), (9, .long dn), (7, .long up), (0, .long a), (2, .long b), (4, .long d), (6, .int k)] := hl
    refine td_joinl 62 ls [] (fun x => x = (if (td_lushr dn k &&& a) = 0 then f else f ||| dn)) (fun x ex => ?_) (fun J => ?_)
    · exact W.lret (v := x) hx hb hr (fun t ht hW => ⟨_, rfl, by subst_vars; rfl, ht⟩) (fun _ h => nomatch h) d_X0_turnedAlong_62
    · refine lv_lload hx hb d_X0_turnedAlong_40 (lv_at hl 1 rfl) ?_
      refine lv_iload hx hb d_X0_turnedAlong_42 (lv_at hl 6 rfl) ?_
      refine lv_lushr (v := (td_lushr dn k)) hx hb d_X0_turnedAlong_44 rfl ?_
      refine lv_lload_n hx hb d_X0_turnedAlong_45 rfl (lv_at hl 3 rfl) ?_
      refine lv_land hx hb d_X0_turnedAlong_46 ?_
      refine lv_lconst (v := 0) hx hb d_X0_turnedAlong_47 (by decide) ?_
      refine td_leq (tgt := 60) hx hb d_X0_turnedAlong_48 d_X0_turnedAlong_49 (by decide) (fun hc => ?_) (fun hc => ?_)
      · refine lv_lload hx hb d_X0_turnedAlong_60 (lv_at hl 0 rfl) ?_
        exact J _ (by rw [if_pos hc])
      · refine lv_lload hx hb d_X0_turnedAlong_52 (lv_at hl 0 rfl) ?_
        refine lv_lload hx hb d_X0_turnedAlong_54 (lv_at hl 1 rfl) ?_
        refine lv_lor hx hb d_X0_turnedAlong_56 ?_
        refine lv_goto (tgt := 62) hx hb d_X0_turnedAlong_57 (by decide) ?_
        exact J _ (by rw [if_neg hc])
  · refine lv_lload hx hb d_X0_turnedAlong_20 (lv_at hl 1 rfl) ?_
    refine lv_iload hx hb d_X0_turnedAlong_22 (lv_at hl 5 rfl) ?_
    refine lv_lshl (v := (td_lshl up k)) hx hb d_X0_turnedAlong_24 rfl ?_
    refine lv_lload_n hx hb d_X0_turnedAlong_25 rfl (lv_at hl 2 rfl) ?_
    refine lv_land hx hb d_X0_turnedAlong_26 ?_
    refine lv_lconst (v := 0) hx hb d_X0_turnedAlong_27 (by decide) ?_
    refine td_leq (tgt := 37) hx hb d_X0_turnedAlong_28 d_X0_turnedAlong_29 (by decide) (fun hc => ?_) (fun hc => ?_)
    · refine lv_lconst (v := 0) hx hb d_X0_turnedAlong_37 (by decide) ?_
      exact J _ (by rw [if_pos hc])
    · refine lv_lload hx hb d_X0_turnedAlong_32 (lv_at hl 1 rfl) ?_
      refine lv_goto (tgt := 38) hx hb d_X0_turnedAlong_34 (by decide) ?_
      exact J _ (by rw [if_neg hc])
set_option maxHeartbeats 4000000 in
set_option maxRecDepth 100000 in
theorem m_X0_turnedBy (l : Launch) (a b d : Int64) : Met l y_X0_turnedBy (k_X0_turnedBy :: tw) ({ frames := 2, cells := 0, slots := 0, locals := 58 }) (va_Pc [.long a, .long b, .long d] (fun _ => True)) (vp_Sl (fun r => r = td_turned a b d)) 0 0 (fun _ => False) := by
  refine Met.ofW (cc := c_X0_turnedBy) (maxL := 8) (ret := (some .long)) (by decide) rfl ?_
  intro p e s m args below meth c s₁ B hml hv
  obtain ⟨rfl, hv⟩ := hv
  have hx := B.exec
  have hb := B.bytes
  have hr := B.returns
  have hts : ∀ w ∈ tw, w.before _ s = true := fun w h => atoms_spec (ws := k_X0_turnedBy :: tw) B.pre w (List.mem_cons_of_mem _ h)
  have hown : s.vm.findClass RX0 = some m.cls := findClass_of_methodNamed B.named
  have hlocks := B.notSynchronized
  have hl := lv_entry ([.long a, .long b, .long d]) (n := 8) (Nat.le_of_ble_eq_true rfl)
  rw [lg_entry_eq]
  generalize (lg_sl ([.long a, .long b, .long d]) ++ List.replicate (8 - (lg_sl ([.long a, .long b, .long d])).length) Slot.unset).toArray = ls at hl ⊢
  have hl : lv_has ls 8 [(0, .long a), (2, .long b), (4, .long d)] := hl
  refine lv_lload_n hx hb d_X0_turnedBy_0 rfl (lv_at hl 1 rfl) ?_
  refine lv_ldc2 (v := 9114861777597660798) hx hb hown (hts _ cn_X0_160) d_X0_turnedBy_1 ?_
  refine lv_land hx hb d_X0_turnedBy_4 ?_
  refine td_l (y := (td_inner b)) (rfl) ?_
  refine lv_lstore hx hb d_X0_turnedBy_5 hl (by decide) rfl (fun ls hl => ?_)
  have hl : lv_has ls 8 [(6, .long (td_inner b)), (0, .long a), (2, .long b), (4, .long d)] := hl
  refine lv_lload_n hx hb d_X0_turnedBy_7 rfl (lv_at hl 1 rfl) ?_
  refine lv_lload_n hx hb d_X0_turnedBy_8 rfl (lv_at hl 2 rfl) ?_
  refine lv_lload hx hb d_X0_turnedBy_9 (lv_at hl 3 rfl) ?_
  refine lv_bipush (v := 8) hx hb d_X0_turnedBy_11 (by decide) ?_
  refine vp_callSl (W.runS (As := [.long a, .long b, .long d, .int 8]) (rest := []) ⟨hx, hb, hml, hown, hts⟩ (m_X0_turnedAlong l a b d 8) (va_cwS 4 hts (tw_S ml_X0_171 st_X0_turnedAlong in_X0 kw_X0_turnedAlong) rfl rfl rfl (by decide +kernel) ⟨Nat.le_of_ble_eq_true rfl, Nat.le_of_ble_eq_true rfl⟩) ⟨fun _ _ _ _ q => q, fun U hU hW => ⟨rfl, trivial⟩⟩ rfl rfl hl.1 rfl (lv_room (Nat.le_of_ble_eq_true rfl)) d_X0_turnedBy_13 ⟨Nat.le_refl _, Nat.le_refl _⟩) (fun r hq => ?_)
  subst hq
  refine lv_lload_n hx hb d_X0_turnedBy_16 rfl (lv_at hl 1 rfl) ?_
  refine lv_lload hx hb d_X0_turnedBy_17 (lv_at hl 0 rfl) ?_
  refine lv_lload hx hb d_X0_turnedBy_19 (lv_at hl 3 rfl) ?_
  refine lv_iconst (v := 1) hx hb d_X0_turnedBy_21 (by decide) ?_
  refine vp_callSl (W.runS (As := [.long a, .long (td_inner b), .long d, .int 1]) (rest := [.long (td_tal a b d 8)]) ⟨hx, hb, hml, hown, hts⟩ (m_X0_turnedAlong l a (td_inner b) d 1) (va_cwS 4 hts (tw_S ml_X0_171 st_X0_turnedAlong in_X0 kw_X0_turnedAlong) rfl rfl rfl (by decide +kernel) ⟨Nat.le_of_ble_eq_true rfl, Nat.le_of_ble_eq_true rfl⟩) ⟨fun _ _ _ _ q => q, fun U hU hW => ⟨rfl, trivial⟩⟩ rfl rfl hl.1 rfl (lv_room (Nat.le_of_ble_eq_true rfl)) d_X0_turnedBy_22 ⟨Nat.le_refl _, Nat.le_refl _⟩) (fun r hq => ?_)
  subst hq
  refine lv_lor hx hb d_X0_turnedBy_25 ?_
  refine lv_lload_n hx hb d_X0_turnedBy_26 rfl (lv_at hl 1 rfl) ?_
  refine lv_lload hx hb d_X0_turnedBy_27 (lv_at hl 0 rfl) ?_
  refine lv_lload hx hb d_X0_turnedBy_29 (lv_at hl 3 rfl) ?_
  refine lv_bipush (v := 9) hx hb d_X0_turnedBy_31 (by decide) ?_
  refine vp_callSl (W.runS (As := [.long a, .long (td_inner b), .long d, .int 9]) (rest := [.long ((td_tal a b d 8) ||| (td_tal a (td_inner b) d 1))]) ⟨hx, hb, hml, hown, hts⟩ (m_X0_turnedAlong l a (td_inner b) d 9) (va_cwS 4 hts (tw_S ml_X0_171 st_X0_turnedAlong in_X0 kw_X0_turnedAlong) rfl rfl rfl (by decide +kernel) ⟨Nat.le_of_ble_eq_true rfl, Nat.le_of_ble_eq_true rfl⟩) ⟨fun _ _ _ _ q => q, fun U hU hW => ⟨rfl, trivial⟩⟩ rfl rfl hl.1 rfl (lv_room (Nat.le_of_ble_eq_true rfl)) d_X0_turnedBy_33 ⟨Nat.le_refl _, Nat.le_refl _⟩) (fun r hq => ?_)
  subst hq
  refine lv_lor hx hb d_X0_turnedBy_36 ?_
  refine lv_lload_n hx hb d_X0_turnedBy_37 rfl (lv_at hl 1 rfl) ?_
  refine lv_lload hx hb d_X0_turnedBy_38 (lv_at hl 0 rfl) ?_
  refine lv_lload hx hb d_X0_turnedBy_40 (lv_at hl 3 rfl) ?_
  refine lv_bipush (v := 7) hx hb d_X0_turnedBy_42 (by decide) ?_
  refine vp_callSl (W.runS (As := [.long a, .long (td_inner b), .long d, .int 7]) (rest := [.long (((td_tal a b d 8) ||| (td_tal a (td_inner b) d 1)) ||| (td_tal a (td_inner b) d 9))]) ⟨hx, hb, hml, hown, hts⟩ (m_X0_turnedAlong l a (td_inner b) d 7) (va_cwS 4 hts (tw_S ml_X0_171 st_X0_turnedAlong in_X0 kw_X0_turnedAlong) rfl rfl rfl (by decide +kernel) ⟨Nat.le_of_ble_eq_true rfl, Nat.le_of_ble_eq_true rfl⟩) ⟨fun _ _ _ _ q => q, fun U hU hW => ⟨rfl, trivial⟩⟩ rfl rfl hl.1 rfl (lv_room (Nat.le_of_ble_eq_true rfl)) d_X0_turnedBy_44 ⟨Nat.le_refl _, Nat.le_refl _⟩) (fun r hq => ?_)
  subst hq
  refine lv_lor hx hb d_X0_turnedBy_47 ?_
  exact W.lret (v := ((((td_tal a b d 8) ||| (td_tal a (td_inner b) d 1)) ||| (td_tal a (td_inner b) d 9)) ||| (td_tal a (td_inner b) d 7))) hx hb hr (fun t ht hW => ⟨_, rfl, rfl, ht⟩) (fun _ h => nomatch h) d_X0_turnedBy_48
set_option maxHeartbeats 4000000 in
set_option maxRecDepth 100000 in
theorem m_X0_discOn (l : Launch) (q : Int32) : Met l y_X0_discOn (k_X0_discOn :: tw) ({ frames := 0, cells := 0, slots := 0, locals := 0 }) (va_Pc [.int q] (fun _ => True)) (vp_Sl (fun r => r = td_on q)) 0 0 (fun _ => False) := by
  refine Met.ofW (cc := c_X0_discOn) (maxL := 1) (ret := (some .long)) (by decide) rfl ?_
  intro p e s m args below meth c s₁ B hml hv
  obtain ⟨rfl, hv⟩ := hv
  have hx := B.exec
  have hb := B.bytes
  have hr := B.returns
  have hts : ∀ w ∈ tw, w.before _ s = true := fun w h => atoms_spec (ws := k_X0_discOn :: tw) B.pre w (List.mem_cons_of_mem _ h)
  have hown : s.vm.findClass RX0 = some m.cls := findClass_of_methodNamed B.named
  have hlocks := B.notSynchronized
  have hl := lv_entry ([.int q]) (n := 1) (Nat.le_of_ble_eq_true rfl)
  rw [lg_entry_eq]
  generalize (lg_sl ([.int q]) ++ List.replicate (1 - (lg_sl ([.int q])).length) Slot.unset).toArray = ls at hl ⊢
  have hl : lv_has ls 1 [(0, .int q)] := hl
  refine td_joinl 13 ls [] (fun x => x = td_on q) (fun x ex => ?_) (fun J => ?_)
  · exact W.lret (v := x) hx hb hr (fun t ht hW => ⟨_, rfl, ex, ht⟩) (fun _ h => nomatch h) d_X0_discOn_13
  · refine lv_iload_n hx hb d_X0_discOn_0 rfl (lv_at hl 0 rfl) ?_
    refine lv_bipush (v := 64) hx hb d_X0_discOn_1 (by decide) ?_
    refine lv_icmp_ge (tgt := 12) hx hb d_X0_discOn_3 (by decide) (fun hc => ?_) (fun hc => ?_)
    · refine lv_lconst (v := 0) hx hb d_X0_discOn_12 (by decide) ?_
      exact J _ (by unfold td_on; rw [if_neg (Int32.not_lt.mpr hc)])
    · refine lv_lconst (v := 1) hx hb d_X0_discOn_6 (by decide) ?_
      refine lv_iload_n hx hb d_X0_discOn_7 rfl (lv_at hl 0 rfl) ?_
      refine lv_lshl (v := (td_lshl 1 q)) hx hb d_X0_discOn_8 rfl ?_
      refine lv_goto (tgt := 13) hx hb d_X0_discOn_9 (by decide) ?_
      exact J _ (by unfold td_on; rw [if_pos (Int32.not_le.mp hc)])
set_option maxHeartbeats 4000000 in
set_option maxRecDepth 100000 in
theorem m_JL_bitCount (l : Launch) (x : Int64) : Met l y_JL_bitCount (k_JL_bitCount :: tw) ({ frames := 0, cells := 0, slots := 0, locals := 0 }) (va_Pc [.long x] (fun _ => True)) (vp_Si (fun r => r = td_pop x)) 0 0 (fun _ => False) := by
  refine Met.ofW (cc := c_JL_bitCount) (maxL := 2) (ret := (some .int)) (by decide) rfl ?_
  intro p e s m args below meth c s₁ B hml hv
  obtain ⟨rfl, hv⟩ := hv
  have hx := B.exec
  have hb := B.bytes
  have hr := B.returns
  have hts : ∀ w ∈ tw, w.before _ s = true := fun w h => atoms_spec (ws := k_JL_bitCount :: tw) B.pre w (List.mem_cons_of_mem _ h)
  have hown : s.vm.findClass RJL = some m.cls := findClass_of_methodNamed B.named
  have hlocks := B.notSynchronized
  have hl := lv_entry ([.long x]) (n := 2) (Nat.le_of_ble_eq_true rfl)
  rw [lg_entry_eq]
  generalize (lg_sl ([.long x]) ++ List.replicate (2 - (lg_sl ([.long x])).length) Slot.unset).toArray = ls at hl ⊢
  have hl : lv_has ls 2 [(0, .long x)] := hl
  refine lv_lload_n hx hb d_JL_bitCount_0 rfl (lv_at hl 0 rfl) ?_
  refine lv_lload_n hx hb d_JL_bitCount_1 rfl (lv_at hl 0 rfl) ?_
  refine lv_iconst (v := 1) hx hb d_JL_bitCount_2 (by decide) ?_
  refine lv_lushr (v := (td_lushr x 1)) hx hb d_JL_bitCount_3 rfl ?_
  refine lv_ldc2 (v := 6148914691236517205) hx hb hown (hts _ cn_JL_314) d_JL_bitCount_4 ?_
  refine lv_land hx hb d_JL_bitCount_7 ?_
  refine lv_lsub hx hb d_JL_bitCount_8 ?_
  refine lv_topl (fun v0 e0 => ?_)
  refine lv_lstore_n hx hb d_JL_bitCount_9 rfl hl (by decide) rfl (fun ls hl => ?_)
  have hl : lv_has ls 2 [(0, .long v0)] := hl
  refine lv_lload_n hx hb d_JL_bitCount_10 rfl (lv_at hl 0 rfl) ?_
  refine lv_ldc2 (v := 3689348814741910323) hx hb hown (hts _ cn_JL_316) d_JL_bitCount_11 ?_
  refine lv_land hx hb d_JL_bitCount_14 ?_
  refine lv_lload_n hx hb d_JL_bitCount_15 rfl (lv_at hl 0 rfl) ?_
  refine lv_iconst (v := 2) hx hb d_JL_bitCount_16 (by decide) ?_
  refine lv_lushr (v := (td_lushr v0 2)) hx hb d_JL_bitCount_17 rfl ?_
  refine lv_ldc2 (v := 3689348814741910323) hx hb hown (hts _ cn_JL_316) d_JL_bitCount_18 ?_
  refine lv_land hx hb d_JL_bitCount_21 ?_
  refine lv_ladd hx hb d_JL_bitCount_22 ?_
  refine lv_topl (fun v1 e1 => ?_)
  refine lv_lstore_n hx hb d_JL_bitCount_23 rfl hl (by decide) rfl (fun ls hl => ?_)
  have hl : lv_has ls 2 [(0, .long v1)] := hl
  refine lv_lload_n hx hb d_JL_bitCount_24 rfl (lv_at hl 0 rfl) ?_
  refine lv_lload_n hx hb d_JL_bitCount_25 rfl (lv_at hl 0 rfl) ?_
  refine lv_iconst (v := 4) hx hb d_JL_bitCount_26 (by decide) ?_
  refine lv_lushr (v := (td_lushr v1 4)) hx hb d_JL_bitCount_27 rfl ?_
  refine lv_ladd hx hb d_JL_bitCount_28 ?_
  refine lv_ldc2 (v := 1085102592571150095) hx hb hown (hts _ cn_JL_318) d_JL_bitCount_29 ?_
  refine lv_land hx hb d_JL_bitCount_32 ?_
  refine lv_topl (fun v2 e2 => ?_)
  refine lv_lstore_n hx hb d_JL_bitCount_33 rfl hl (by decide) rfl (fun ls hl => ?_)
  have hl : lv_has ls 2 [(0, .long v2)] := hl
  refine lv_lload_n hx hb d_JL_bitCount_34 rfl (lv_at hl 0 rfl) ?_
  refine lv_lload_n hx hb d_JL_bitCount_35 rfl (lv_at hl 0 rfl) ?_
  refine lv_bipush (v := 8) hx hb d_JL_bitCount_36 (by decide) ?_
  refine lv_lushr (v := (td_lushr v2 8)) hx hb d_JL_bitCount_38 rfl ?_
  refine lv_ladd hx hb d_JL_bitCount_39 ?_
  refine lv_topl (fun v3 e3 => ?_)
  refine lv_lstore_n hx hb d_JL_bitCount_40 rfl hl (by decide) rfl (fun ls hl => ?_)
  have hl : lv_has ls 2 [(0, .long v3)] := hl
  refine lv_lload_n hx hb d_JL_bitCount_41 rfl (lv_at hl 0 rfl) ?_
  refine lv_lload_n hx hb d_JL_bitCount_42 rfl (lv_at hl 0 rfl) ?_
  refine lv_bipush (v := 16) hx hb d_JL_bitCount_43 (by decide) ?_
  refine lv_lushr (v := (td_lushr v3 16)) hx hb d_JL_bitCount_45 rfl ?_
  refine lv_ladd hx hb d_JL_bitCount_46 ?_
  refine lv_topl (fun v4 e4 => ?_)
  refine lv_lstore_n hx hb d_JL_bitCount_47 rfl hl (by decide) rfl (fun ls hl => ?_)
  have hl : lv_has ls 2 [(0, .long v4)] := hl
  refine lv_lload_n hx hb d_JL_bitCount_48 rfl (lv_at hl 0 rfl) ?_
  refine lv_lload_n hx hb d_JL_bitCount_49 rfl (lv_at hl 0 rfl) ?_
  refine lv_bipush (v := 32) hx hb d_JL_bitCount_50 (by decide) ?_
  refine lv_lushr (v := (td_lushr v4 32)) hx hb d_JL_bitCount_52 rfl ?_
  refine lv_ladd hx hb d_JL_bitCount_53 ?_
  refine lv_topl (fun v5 e5 => ?_)
  refine lv_lstore_n hx hb d_JL_bitCount_54 rfl hl (by decide) rfl (fun ls hl => ?_)
  have hl : lv_has ls 2 [(0, .long v5)] := hl
  refine lv_lload_n hx hb d_JL_bitCount_55 rfl (lv_at hl 0 rfl) ?_
  refine lv_l2i (v := (v5.toInt32)) hx hb d_JL_bitCount_56 rfl ?_
  refine lv_bipush (v := 127) hx hb d_JL_bitCount_57 (by decide) ?_
  refine lv_iand hx hb d_JL_bitCount_59 ?_
  exact W.iret (v := ((v5.toInt32) &&& 127)) hx hb hr (fun t ht hW => ⟨_, rfl, by subst_vars; rfl, ht⟩) (fun _ h => nomatch h) d_JL_bitCount_60
set_option maxHeartbeats 4000000 in
set_option maxRecDepth 100000 in
theorem m_X0_lead (l : Launch) (a b : Int64) : Met l y_X0_lead (k_X0_lead :: tw) ({ frames := 1, cells := 0, slots := 0, locals := 21 }) (va_Pc [.long a, .long b] (fun _ => True)) (vp_Si (fun r => r = td_lead a b)) 0 0 (fun _ => False) := by
  refine Met.ofW (cc := c_X0_lead) (maxL := 4) (ret := (some .int)) (by decide) rfl ?_
  intro p e s m args below meth c s₁ B hml hv
  obtain ⟨rfl, hv⟩ := hv
  have hx := B.exec
  have hb := B.bytes
  have hr := B.returns
  have hts : ∀ w ∈ tw, w.before _ s = true := fun w h => atoms_spec (ws := k_X0_lead :: tw) B.pre w (List.mem_cons_of_mem _ h)
  have hown : s.vm.findClass RX0 = some m.cls := findClass_of_methodNamed B.named
  have hlocks := B.notSynchronized
  have hl := lv_entry ([.long a, .long b]) (n := 4) (Nat.le_of_ble_eq_true rfl)
  rw [lg_entry_eq]
  generalize (lg_sl ([.long a, .long b]) ++ List.replicate (4 - (lg_sl ([.long a, .long b])).length) Slot.unset).toArray = ls at hl ⊢
  have hl : lv_has ls 4 [(0, .long a), (2, .long b)] := hl
  refine lv_lload_n hx hb d_X0_lead_0 rfl (lv_at hl 0 rfl) ?_
  refine vp_callSi (W.runS (As := [.long a]) (rest := []) ⟨hx, hb, hml, hown, hts⟩ (m_JL_bitCount l a) (va_cwS 1 hts (tw_S ml_X0_128 st_JL_bitCount in_JL kw_JL_bitCount) rfl rfl rfl (by decide +kernel) ⟨Nat.le_of_ble_eq_true rfl, Nat.le_of_ble_eq_true rfl⟩) ⟨fun _ _ _ _ q => q, fun U hU hW => ⟨rfl, trivial⟩⟩ rfl rfl hl.1 rfl (lv_room (Nat.le_of_ble_eq_true rfl)) d_X0_lead_1 ⟨Nat.le_refl _, Nat.le_refl _⟩) (fun r hq => ?_)
  subst hq
  refine lv_lload_n hx hb d_X0_lead_4 rfl (lv_at hl 1 rfl) ?_
  refine vp_callSi (W.runS (As := [.long b]) (rest := [.int (td_pop a)]) ⟨hx, hb, hml, hown, hts⟩ (m_JL_bitCount l b) (va_cwS 1 hts (tw_S ml_X0_128 st_JL_bitCount in_JL kw_JL_bitCount) rfl rfl rfl (by decide +kernel) ⟨Nat.le_of_ble_eq_true rfl, Nat.le_of_ble_eq_true rfl⟩) ⟨fun _ _ _ _ q => q, fun U hU hW => ⟨rfl, trivial⟩⟩ rfl rfl hl.1 rfl (lv_room (Nat.le_of_ble_eq_true rfl)) d_X0_lead_5 ⟨Nat.le_refl _, Nat.le_refl _⟩) (fun r hq => ?_)
  subst hq
  refine lv_isub hx hb d_X0_lead_8 ?_
  exact W.iret (v := ((td_pop a) - (td_pop b))) hx hb hr (fun t ht hW => ⟨_, rfl, rfl, ht⟩) (fun _ h => nomatch h) d_X0_lead_9
set_option maxHeartbeats 4000000 in
set_option maxRecDepth 100000 in
theorem m_X0_isOver (l : Launch) (a b : Int64) : Met l y_X0_isOver (k_X0_isOver :: tw) ({ frames := 3, cells := 0, slots := 0, locals := 77 }) (va_Pc [.long a, .long b] (fun _ => True)) (vp_Si (fun r => (td_over a b ∧ r = 1) ∨ (¬ td_over a b ∧ r = 0))) 0 0 (fun _ => False) := by
  refine Met.ofW (cc := c_X0_isOver) (maxL := 4) (ret := (some .boolean)) (by decide) rfl ?_
  intro p e s m args below meth c s₁ B hml hv
  obtain ⟨rfl, hv⟩ := hv
  have hx := B.exec
  have hb := B.bytes
  have hr := B.returns
  have hts : ∀ w ∈ tw, w.before _ s = true := fun w h => atoms_spec (ws := k_X0_isOver :: tw) B.pre w (List.mem_cons_of_mem _ h)
  have hown : s.vm.findClass RX0 = some m.cls := findClass_of_methodNamed B.named
  have hlocks := B.notSynchronized
  have hl := lv_entry ([.long a, .long b]) (n := 4) (Nat.le_of_ble_eq_true rfl)
  rw [lg_entry_eq]
  generalize (lg_sl ([.long a, .long b]) ++ List.replicate (4 - (lg_sl ([.long a, .long b])).length) Slot.unset).toArray = ls at hl ⊢
  have hl : lv_has ls 4 [(0, .long a), (2, .long b)] := hl
  refine td_joini 25 ls [] (fun x => (td_over a b ∧ x = 1) ∨ (¬ td_over a b ∧ x = 0)) (fun x ex => ?_) (fun J => ?_)
  · rcases id ex with ⟨_, e1⟩ | ⟨_, e1⟩
    · subst e1
      exact W.zret (v := _) hx hb hr (by first | rfl | decide | assumption) (fun t ht hW => ⟨_, rfl, ex, ht⟩) (fun _ h => nomatch h) d_X0_isOver_25
    · subst e1
      exact W.zret (v := _) hx hb hr (by first | rfl | decide | assumption) (fun t ht hW => ⟨_, rfl, ex, ht⟩) (fun _ h => nomatch h) d_X0_isOver_25
  · refine lv_lload_n hx hb d_X0_isOver_0 rfl (lv_at hl 0 rfl) ?_
    refine lv_lload_n hx hb d_X0_isOver_1 rfl (lv_at hl 1 rfl) ?_
    refine vp_callSl (W.runS (As := [.long a, .long b]) (rest := []) ⟨hx, hb, hml, hown, hts⟩ (m_X0_movesOf l a b) (va_cwS 2 hts (tw_S ml_X0_54 st_X0_movesOf in_X0 kw_X0_movesOf) rfl rfl rfl (by decide +kernel) ⟨Nat.le_of_ble_eq_true rfl, Nat.le_of_ble_eq_true rfl⟩) ⟨fun _ _ _ _ q => q, fun U hU hW => ⟨rfl, trivial⟩⟩ rfl rfl hl.1 rfl (lv_room (Nat.le_of_ble_eq_true rfl)) d_X0_isOver_2 ⟨Nat.le_refl _, Nat.le_refl _⟩) (fun r hq => ?_)
    subst hq
    refine lv_lconst (v := 0) hx hb d_X0_isOver_5 (by decide) ?_
    refine td_lne (tgt := 24) hx hb d_X0_isOver_6 d_X0_isOver_7 (by decide) (fun h1 => ?_) (fun h1 => ?_)
    · refine lv_iconst (v := 0) hx hb d_X0_isOver_24 (by decide) ?_
      exact J _ (Or.inr ⟨fun z => h1 z.1, rfl⟩)
    · refine lv_lload_n hx hb d_X0_isOver_10 rfl (lv_at hl 1 rfl) ?_
      refine lv_lload_n hx hb d_X0_isOver_11 rfl (lv_at hl 0 rfl) ?_
      refine vp_callSl (W.runS (As := [.long b, .long a]) (rest := []) ⟨hx, hb, hml, hown, hts⟩ (m_X0_movesOf l b a) (va_cwS 2 hts (tw_S ml_X0_54 st_X0_movesOf in_X0 kw_X0_movesOf) rfl rfl rfl (by decide +kernel) ⟨Nat.le_of_ble_eq_true rfl, Nat.le_of_ble_eq_true rfl⟩) ⟨fun _ _ _ _ q => q, fun U hU hW => ⟨rfl, trivial⟩⟩ rfl rfl hl.1 rfl (lv_room (Nat.le_of_ble_eq_true rfl)) d_X0_isOver_12 ⟨Nat.le_refl _, Nat.le_refl _⟩) (fun r hq => ?_)
      subst hq
      refine lv_lconst (v := 0) hx hb d_X0_isOver_15 (by decide) ?_
      refine td_lne (tgt := 24) hx hb d_X0_isOver_16 d_X0_isOver_17 (by decide) (fun h2 => ?_) (fun h2 => ?_)
      · refine lv_iconst (v := 0) hx hb d_X0_isOver_24 (by decide) ?_
        exact J _ (Or.inr ⟨fun z => h2 z.2, rfl⟩)
      · refine lv_iconst (v := 1) hx hb d_X0_isOver_20 (by decide) ?_
        refine lv_goto (tgt := 25) hx hb d_X0_isOver_21 (by decide) ?_
        exact J _ (Or.inl ⟨⟨h1, h2⟩, rfl⟩)
set_option maxHeartbeats 4000000 in
set_option maxRecDepth 100000 in
theorem m_X0_squareOf (l : Launch) (d : Int64) : Met l y_X0_squareOf (k_X0_squareOf :: tw) ({ frames := 1, cells := 0, slots := 0, locals := 21 }) (va_Pc [.long d] (fun _ => True)) (vp_Si (fun r => r = td_pop (d - 1))) 0 0 (fun _ => False) := by
  refine Met.ofW (cc := c_X0_squareOf) (maxL := 2) (ret := (some .int)) (by decide) rfl ?_
  intro p e s m args below meth c s₁ B hml hv
  obtain ⟨rfl, hv⟩ := hv
  have hx := B.exec
  have hb := B.bytes
  have hr := B.returns
  have hts : ∀ w ∈ tw, w.before _ s = true := fun w h => atoms_spec (ws := k_X0_squareOf :: tw) B.pre w (List.mem_cons_of_mem _ h)
  have hown : s.vm.findClass RX0 = some m.cls := findClass_of_methodNamed B.named
  have hlocks := B.notSynchronized
  have hl := lv_entry ([.long d]) (n := 2) (Nat.le_of_ble_eq_true rfl)
  rw [lg_entry_eq]
  generalize (lg_sl ([.long d]) ++ List.replicate (2 - (lg_sl ([.long d])).length) Slot.unset).toArray = ls at hl ⊢
  have hl : lv_has ls 2 [(0, .long d)] := hl
  refine lv_lload_n hx hb d_X0_squareOf_0 rfl (lv_at hl 0 rfl) ?_
  refine lv_lconst (v := 1) hx hb d_X0_squareOf_1 (by decide) ?_
  refine lv_lsub hx hb d_X0_squareOf_2 ?_
  refine vp_callSi (W.runS (As := [.long (d - 1)]) (rest := []) ⟨hx, hb, hml, hown, hts⟩ (m_JL_bitCount l (d - 1)) (va_cwS 1 hts (tw_S ml_X0_128 st_JL_bitCount in_JL kw_JL_bitCount) rfl rfl rfl (by decide +kernel) ⟨Nat.le_of_ble_eq_true rfl, Nat.le_of_ble_eq_true rfl⟩) ⟨fun _ _ _ _ q => q, fun U hU hW => ⟨rfl, trivial⟩⟩ rfl rfl hl.1 rfl (lv_room (Nat.le_of_ble_eq_true rfl)) d_X0_squareOf_3 ⟨Nat.le_refl _, Nat.le_refl _⟩) (fun r hq => ?_)
  subst hq
  exact W.iret (v := (td_pop (d - 1))) hx hb hr (fun t ht hW => ⟨_, rfl, rfl, ht⟩) (fun _ h => nomatch h) d_X0_squareOf_6
set_option maxHeartbeats 4000000 in
set_option maxRecDepth 100000 in
theorem m_X0_withNeighbours (l : Launch) (x : Int64) : Met l y_X0_withNeighbours (k_X0_withNeighbours :: tw) ({ frames := 0, cells := 0, slots := 0, locals := 0 }) (va_Pc [.long x] (fun _ => True)) (vp_Sl (fun r => r = td_near x)) 0 0 (fun _ => False) := by
  refine Met.ofW (cc := c_X0_withNeighbours) (maxL := 4) (ret := (some .long)) (by decide) rfl ?_
  intro p e s m args below meth c s₁ B hml hv
  obtain ⟨rfl, hv⟩ := hv
  have hx := B.exec
  have hb := B.bytes
  have hr := B.returns
  have hts : ∀ w ∈ tw, w.before _ s = true := fun w h => atoms_spec (ws := k_X0_withNeighbours :: tw) B.pre w (List.mem_cons_of_mem _ h)
  have hown : s.vm.findClass RX0 = some m.cls := findClass_of_methodNamed B.named
  have hlocks := B.notSynchronized
  have hl := lv_entry ([.long x]) (n := 4) (Nat.le_of_ble_eq_true rfl)
  rw [lg_entry_eq]
  generalize (lg_sl ([.long x]) ++ List.replicate (4 - (lg_sl ([.long x])).length) Slot.unset).toArray = ls at hl ⊢
  have hl : lv_has ls 4 [(0, .long x)] := hl
  refine lv_lload_n hx hb d_X0_withNeighbours_0 rfl (lv_at hl 0 rfl) ?_
  refine lv_lload_n hx hb d_X0_withNeighbours_1 rfl (lv_at hl 0 rfl) ?_
  refine lv_iconst (v := 1) hx hb d_X0_withNeighbours_2 (by decide) ?_
  refine lv_lshl (v := (td_lshl x 1)) hx hb d_X0_withNeighbours_3 rfl ?_
  refine lv_ldc2 (v := (-72340172838076674)) hx hb hown (hts _ cn_X0_188) d_X0_withNeighbours_4 ?_
  refine lv_land hx hb d_X0_withNeighbours_7 ?_
  refine lv_lor hx hb d_X0_withNeighbours_8 ?_
  refine lv_lload_n hx hb d_X0_withNeighbours_9 rfl (lv_at hl 0 rfl) ?_
  refine lv_iconst (v := 1) hx hb d_X0_withNeighbours_10 (by decide) ?_
  refine lv_lushr (v := (td_lushr x 1)) hx hb d_X0_withNeighbours_11 rfl ?_
  refine lv_ldc2 (v := 9187201950435737471) hx hb hown (hts _ cn_X0_190) d_X0_withNeighbours_12 ?_
  refine lv_land hx hb d_X0_withNeighbours_15 ?_
  refine lv_lor hx hb d_X0_withNeighbours_16 ?_
  refine lv_topl (fun v ev => ?_)
  refine lv_lstore_n hx hb d_X0_withNeighbours_17 rfl hl (by decide) rfl (fun ls hl => ?_)
  have hl : lv_has ls 4 [(2, .long v), (0, .long x)] := hl
  refine lv_lload_n hx hb d_X0_withNeighbours_18 rfl (lv_at hl 0 rfl) ?_
  refine lv_lload_n hx hb d_X0_withNeighbours_19 rfl (lv_at hl 0 rfl) ?_
  refine lv_bipush (v := 8) hx hb d_X0_withNeighbours_20 (by decide) ?_
  refine lv_lshl (v := (td_lshl v 8)) hx hb d_X0_withNeighbours_22 rfl ?_
  refine lv_lor hx hb d_X0_withNeighbours_23 ?_
  refine lv_lload_n hx hb d_X0_withNeighbours_24 rfl (lv_at hl 0 rfl) ?_
  refine lv_bipush (v := 8) hx hb d_X0_withNeighbours_25 (by decide) ?_
  refine lv_lushr (v := (td_lushr v 8)) hx hb d_X0_withNeighbours_27 rfl ?_
  refine lv_lor hx hb d_X0_withNeighbours_28 ?_
  exact W.lret (v := ((v ||| (td_lshl v 8)) ||| (td_lushr v 8))) hx hb hr (fun t ht hW => ⟨_, rfl, by subst_vars; rfl, ht⟩) (fun _ h => nomatch h) d_X0_withNeighbours_29
set_option maxHeartbeats 4000000 in
set_option maxRecDepth 100000 in
theorem m_X0_heldAlong (l : Launch) (a : Int64) (k : Int32) (u d : Int64) : Met l y_X0_heldAlong (k_X0_heldAlong :: tw) ({ frames := 0, cells := 0, slots := 0, locals := 0 }) (va_Pc [.long a, .int k, .long u, .long d] (fun _ => True)) (vp_Sl (fun r => r = td_held a k u d)) 0 0 (fun _ => False) := by
  refine Met.ofW (cc := c_X0_heldAlong) (maxL := 12) (ret := (some .long)) (by decide) rfl ?_
  intro p e s m args below meth c s₁ B hml hv
  obtain ⟨rfl, hv⟩ := hv
  have hx := B.exec
  have hb := B.bytes
  have hr := B.returns
  have hts : ∀ w ∈ tw, w.before _ s = true := fun w h => atoms_spec (ws := k_X0_heldAlong :: tw) B.pre w (List.mem_cons_of_mem _ h)
  have hown : s.vm.findClass RX0 = some m.cls := findClass_of_methodNamed B.named
  have hlocks := B.notSynchronized
  have hl := lv_entry ([.long a, .int k, .long u, .long d]) (n := 12) (Nat.le_of_ble_eq_true rfl)
  rw [lg_entry_eq]
  generalize (lg_sl ([.long a, .int k, .long u, .long d]) ++ List.replicate (12 - (lg_sl ([.long a, .int k, .long u, .long d])).length) Slot.unset).toArray = ls at hl ⊢
  have hl : lv_has ls 12 [(0, .long a), (2, .int k), (3, .long u), (5, .long d)] := hl
  refine lv_lload_n hx hb d_X0_heldAlong_0 rfl (lv_at hl 2 rfl) ?_
  refine lv_lstore hx hb d_X0_heldAlong_1 hl (by decide) rfl (fun ls hl => ?_)
  have hl : lv_has ls 12 [(7, .long u), (0, .long a), (2, .int k), (3, .long u), (5, .long d)] := hl
  refine lv_lload hx hb d_X0_heldAlong_3 (lv_at hl 4 rfl) ?_
  refine lv_lstore hx hb d_X0_heldAlong_5 hl (by decide) rfl (fun ls hl => ?_)
  have hl : lv_has ls 12 [(9, .long d), (7, .long u), (0, .long a), (2, .int k), (3, .long u), (5, .long d)] := hl
  refine lv_iconst (v := 0) hx hb d_X0_heldAlong_7 (by decide) ?_
  refine lv_istore hx hb d_X0_heldAlong_8 hl (by decide) rfl (fun ls hl => ?_)
  have hl : lv_has ls 12 [(11, .int 0), (9, .long d), (7, .long u), (0, .long a), (2, .int k), (3, .long u), (5, .long d)] := hl
  have hl0 := lv_sub hl [3, 4, 2, 1, 0] rfl
  refine td_loop 10 [] (fun i : Nat => 7 - i) (fun i ls => i ≤ 7 ∧ lv_has ls 12 [(0, .long a), (2, .int k), (7, .long (td_hup a k u i)), (9, .long (td_hdn a k d i)), (11, .int (nI i))]) (fun i ls hC ih => ?_) 0 ⟨Nat.zero_le _, hl0⟩
  clear hl hl0
  obtain ⟨hi, hl⟩ := hC
  have hl : lv_has ls 12 [(0, .long a), (2, .int k), (7, .long (td_hup a k u i)), (9, .long (td_hdn a k d i)), (11, .int (nI i))] := hl
  refine lv_iload hx hb d_X0_heldAlong_10 (lv_at hl 4 rfl) ?_
  refine lv_bipush (v := 7) hx hb d_X0_heldAlong_12 (by decide) ?_
  refine lv_icmp_ge (tgt := 45) hx hb d_X0_heldAlong_14 (by decide) (fun hc => ?_) (fun hc => ?_)
  · have h7 : i = 7 := Nat.le_antisymm hi ((nI_leI (a := 7) (b := i) (by decide) (by omega)).mp hc)
    subst h7
    refine lv_lload hx hb d_X0_heldAlong_45 (lv_at hl 2 rfl) ?_
    refine lv_lload hx hb d_X0_heldAlong_47 (lv_at hl 3 rfl) ?_
    refine lv_lor hx hb d_X0_heldAlong_49 ?_
    exact W.lret (v := ((td_hup a k u 7) ||| (td_hdn a k d 7))) hx hb hr (fun t ht hW => ⟨_, rfl, rfl, ht⟩) (fun _ h => nomatch h) d_X0_heldAlong_50
  · have h7 : i < 7 := Nat.lt_of_not_le (fun z => hc ((nI_leI (a := 7) (b := i) (by decide) (by omega)).mpr z))
    refine lv_lload hx hb d_X0_heldAlong_17 (lv_at hl 2 rfl) ?_
    refine lv_lload hx hb d_X0_heldAlong_19 (lv_at hl 2 rfl) ?_
    refine lv_lload_n hx hb d_X0_heldAlong_21 rfl (lv_at hl 0 rfl) ?_
    refine lv_land hx hb d_X0_heldAlong_22 ?_
    refine lv_iload_n hx hb d_X0_heldAlong_23 rfl (lv_at hl 1 rfl) ?_
    refine lv_lushr (v := (td_lushr ((td_hup a k u i) &&& a) k)) hx hb d_X0_heldAlong_24 rfl ?_
    refine lv_lor hx hb d_X0_heldAlong_25 ?_
    refine td_l (y := (td_hup a k u (i + 1))) (rfl) ?_
    refine lv_lstore hx hb d_X0_heldAlong_26 hl (by decide) rfl (fun ls hl => ?_)
    have hl : lv_has ls 12 [(7, .long (td_hup a k u (i + 1))), (0, .long a), (2, .int k), (9, .long (td_hdn a k d i)), (11, .int (nI i))] := hl
    refine lv_lload hx hb d_X0_heldAlong_28 (lv_at hl 3 rfl) ?_
    refine lv_lload hx hb d_X0_heldAlong_30 (lv_at hl 3 rfl) ?_
    refine lv_lload_n hx hb d_X0_heldAlong_32 rfl (lv_at hl 1 rfl) ?_
    refine lv_land hx hb d_X0_heldAlong_33 ?_
    refine lv_iload_n hx hb d_X0_heldAlong_34 rfl (lv_at hl 2 rfl) ?_
    refine lv_lshl (v := (td_lshl ((td_hdn a k d i) &&& a) k)) hx hb d_X0_heldAlong_35 rfl ?_
    refine lv_lor hx hb d_X0_heldAlong_36 ?_
    refine td_l (y := (td_hdn a k d (i + 1))) (rfl) ?_
    refine lv_lstore hx hb d_X0_heldAlong_37 hl (by decide) rfl (fun ls hl => ?_)
    have hl : lv_has ls 12 [(9, .long (td_hdn a k d (i + 1))), (7, .long (td_hup a k u (i + 1))), (0, .long a), (2, .int k), (11, .int (nI i))] := hl
    refine lv_iinc (k := 4) (v := (nI (i + 1))) hx hb d_X0_heldAlong_39 hl rfl ((nI_succ i).symm) (by decide) rfl (fun ls hl => ?_)
    have hl : lv_has ls 12 [(11, .int (nI (i + 1))), (9, .long (td_hdn a k d (i + 1))), (7, .long (td_hup a k u (i + 1))), (0, .long a), (2, .int k)] := hl
    refine lv_goto (tgt := 10) hx hb d_X0_heldAlong_42 (by decide) ?_
    have hl1 := lv_sub hl [3, 4, 2, 1, 0] rfl
    exact ih (i + 1) _ (by omega) ⟨h7, hl1⟩
end
section
/-! the class's readers: they need its object's cell alone -/
def td_of (x y : Int64) (pl q : Int32) : Int64 := if q = pl then x else y
def td_may (x y : Int64) (q : Int32) : Prop := (q = 64 ∧ td_moves x y = 0 ∧ ¬ td_moves y x = 0) ∨ (¬ q = 64 ∧ ¬ q < 0 ∧ q < 64 ∧ ¬ (td_moves x y &&& td_on q) = 0)
set_option maxHeartbeats 4000000 in
set_option maxRecDepth 100000 in
theorem m_X0_player (l : Launch) (D : va_G) (o : Nat) (x y : Int64) (pl md : Int32) (v4 v5 v6 : Value) : Met l y_X0_player (k_X0_player :: tw) ({ frames := 0, cells := 0, slots := 0, locals := 0 }) (va_Pc [.ref o] (fun U => va_P D tdC [(o, .inr (0, [.long x, .long y, .int pl, .int md, v4, v5, v6]))] U.heap ∧ va_K D tdC [] U)) (vp_Si (fun r => r = pl)) 0 0 (fun _ => False) := by
  refine Met.ofW (cc := c_X0_player) (maxL := 1) (ret := (some .int)) (by decide) rfl ?_
  intro p e s m args below meth c s₁ B hml hv
  obtain ⟨rfl, hP, hK⟩ := hv
  have hx := B.exec
  have hb := B.bytes
  have hr := B.returns
  have hts : ∀ w ∈ tw, w.before _ s = true := fun w h => atoms_spec (ws := k_X0_player :: tw) B.pre w (List.mem_cons_of_mem _ h)
  have hown : s.vm.findClass RX0 = some m.cls := findClass_of_methodNamed B.named
  have hlocks := B.notSynchronized
  have hl := lv_entry ([.ref o]) (n := 1) (Nat.le_of_ble_eq_true rfl)
  rw [lg_entry_eq]
  generalize (lg_sl ([.ref o]) ++ List.replicate (1 - (lg_sl ([.ref o])).length) Slot.unset).toArray = ls at hl ⊢
  have hl : lv_has ls 1 [(0, .ref o)] := hl
  refine lv_aload_n hx hb d_X0_player_0 rfl (lv_at hl 0 rfl) ?_
  refine va_get (D := D) (ci := 0) (v := .int pl) (C := RX0) (T := TX0) (N := 7) hx hb hts usX0 hown hK hP 0 rfl rfl 2 (by decide) (hts _ fl_X0_43) (fun _ h9 => h9) rfl d_X0_player_1 ?_
  exact W.iret (v := pl) hx hb hr (fun t ht hW => ⟨_, rfl, rfl, ht⟩) (fun _ h => nomatch h) d_X0_player_4
set_option maxHeartbeats 4000000 in
set_option maxRecDepth 100000 in
theorem m_X0_made (l : Launch) (D : va_G) (o : Nat) (x y : Int64) (pl md : Int32) (v4 v5 v6 : Value) : Met l y_X0_made (k_X0_made :: tw) ({ frames := 0, cells := 0, slots := 0, locals := 0 }) (va_Pc [.ref o] (fun U => va_P D tdC [(o, .inr (0, [.long x, .long y, .int pl, .int md, v4, v5, v6]))] U.heap ∧ va_K D tdC [] U)) (vp_Si (fun r => r = md)) 0 0 (fun _ => False) := by
  refine Met.ofW (cc := c_X0_made) (maxL := 1) (ret := (some .int)) (by decide) rfl ?_
  intro p e s m args below meth c s₁ B hml hv
  obtain ⟨rfl, hP, hK⟩ := hv
  have hx := B.exec
  have hb := B.bytes
  have hr := B.returns
  have hts : ∀ w ∈ tw, w.before _ s = true := fun w h => atoms_spec (ws := k_X0_made :: tw) B.pre w (List.mem_cons_of_mem _ h)
  have hown : s.vm.findClass RX0 = some m.cls := findClass_of_methodNamed B.named
  have hlocks := B.notSynchronized
  have hl := lv_entry ([.ref o]) (n := 1) (Nat.le_of_ble_eq_true rfl)
  rw [lg_entry_eq]
  generalize (lg_sl ([.ref o]) ++ List.replicate (1 - (lg_sl ([.ref o])).length) Slot.unset).toArray = ls at hl ⊢
  have hl : lv_has ls 1 [(0, .ref o)] := hl
  refine lv_aload_n hx hb d_X0_made_0 rfl (lv_at hl 0 rfl) ?_
  refine va_get (D := D) (ci := 0) (v := .int md) (C := RX0) (T := TX0) (N := 7) hx hb hts usX0 hown hK hP 0 rfl rfl 3 (by decide) (hts _ fl_X0_81) (fun _ h9 => h9) rfl d_X0_made_1 ?_
  exact W.iret (v := md) hx hb hr (fun t ht hW => ⟨_, rfl, rfl, ht⟩) (fun _ h => nomatch h) d_X0_made_4
set_option maxHeartbeats 4000000 in
set_option maxRecDepth 100000 in
theorem m_X0_discsOf (l : Launch) (D : va_G) (o : Nat) (x y : Int64) (pl md : Int32) (v4 v5 v6 : Value) (q : Int32) : Met l y_X0_discsOf (k_X0_discsOf :: tw) ({ frames := 0, cells := 0, slots := 0, locals := 0 }) (va_Pc [.ref o, .int q] (fun U => va_P D tdC [(o, .inr (0, [.long x, .long y, .int pl, .int md, v4, v5, v6]))] U.heap ∧ va_K D tdC [] U)) (vp_Sl (fun r => r = td_of x y pl q)) 0 0 (fun _ => False) := by
  refine Met.ofW (cc := c_X0_discsOf) (maxL := 2) (ret := (some .long)) (by decide) rfl ?_
  intro p e s m args below meth c s₁ B hml hv
  obtain ⟨rfl, hP, hK⟩ := hv
  have hx := B.exec
  have hb := B.bytes
  have hr := B.returns
  have hts : ∀ w ∈ tw, w.before _ s = true := fun w h => atoms_spec (ws := k_X0_discsOf :: tw) B.pre w (List.mem_cons_of_mem _ h)
  have hown : s.vm.findClass RX0 = some m.cls := findClass_of_methodNamed B.named
  have hlocks := B.notSynchronized
  have hl := lv_entry ([.ref o, .int q]) (n := 2) (Nat.le_of_ble_eq_true rfl)
  rw [lg_entry_eq]
  generalize (lg_sl ([.ref o, .int q]) ++ List.replicate (2 - (lg_sl ([.ref o, .int q])).length) Slot.unset).toArray = ls at hl ⊢
  have hl : lv_has ls 2 [(0, .ref o), (1, .int q)] := hl
  refine td_joinl 19 ls [] (fun x_ => x_ = td_of x y pl q) (fun x_ ex => ?_) (fun J => ?_)
  · exact W.lret (v := x_) hx hb hr (fun t ht hW => ⟨_, rfl, ex, ht⟩) (fun _ h => nomatch h) d_X0_discsOf_19
  · refine lv_iload_n hx hb d_X0_discsOf_0 rfl (lv_at hl 1 rfl) ?_
    refine lv_aload_n hx hb d_X0_discsOf_1 rfl (lv_at hl 0 rfl) ?_
    refine va_get (D := D) (ci := 0) (v := .int pl) (C := RX0) (T := TX0) (N := 7) hx hb hts usX0 hown hK hP 0 rfl rfl 2 (by decide) (hts _ fl_X0_43) (fun _ h9 => h9) rfl d_X0_discsOf_2 ?_
    refine lv_icmp_ne (tgt := 15) hx hb d_X0_discsOf_5 (by decide) (fun hc => ?_) (fun hc => ?_)
    · refine lv_aload_n hx hb d_X0_discsOf_15 rfl (lv_at hl 0 rfl) ?_
      refine va_get (D := D) (ci := 0) (v := .long y) (C := RX0) (T := TX0) (N := 7) hx hb hts usX0 hown hK hP 0 rfl rfl 1 (by decide) (hts _ fl_X0_51) (fun _ h9 => h9) rfl d_X0_discsOf_16 ?_
      exact J _ (by unfold td_of; rw [if_neg hc])
    · refine lv_aload_n hx hb d_X0_discsOf_8 rfl (lv_at hl 0 rfl) ?_
      refine va_get (D := D) (ci := 0) (v := .long x) (C := RX0) (T := TX0) (N := 7) hx hb hts usX0 hown hK hP 0 rfl rfl 0 (by decide) (hts _ fl_X0_47) (fun _ h9 => h9) rfl d_X0_discsOf_9 ?_
      refine lv_goto (tgt := 19) hx hb d_X0_discsOf_12 (by decide) ?_
      exact J _ (by unfold td_of; rw [if_pos hc])
set_option maxHeartbeats 4000000 in
set_option maxRecDepth 100000 in
theorem m_X0_empty (l : Launch) (D : va_G) (o : Nat) (x y : Int64) (pl md : Int32) (v4 v5 v6 : Value) : Met l y_X0_empty (k_X0_empty :: tw) ({ frames := 0, cells := 0, slots := 0, locals := 0 }) (va_Pc [.ref o] (fun U => va_P D tdC [(o, .inr (0, [.long x, .long y, .int pl, .int md, v4, v5, v6]))] U.heap ∧ va_K D tdC [] U)) (vp_Sl (fun r => r = (x ||| y) ^^^ (-1))) 0 0 (fun _ => False) := by
  refine Met.ofW (cc := c_X0_empty) (maxL := 1) (ret := (some .long)) (by decide) rfl ?_
  intro p e s m args below meth c s₁ B hml hv
  obtain ⟨rfl, hP, hK⟩ := hv
  have hx := B.exec
  have hb := B.bytes
  have hr := B.returns
  have hts : ∀ w ∈ tw, w.before _ s = true := fun w h => atoms_spec (ws := k_X0_empty :: tw) B.pre w (List.mem_cons_of_mem _ h)
  have hown : s.vm.findClass RX0 = some m.cls := findClass_of_methodNamed B.named
  have hlocks := B.notSynchronized
  have hl := lv_entry ([.ref o]) (n := 1) (Nat.le_of_ble_eq_true rfl)
  rw [lg_entry_eq]
  generalize (lg_sl ([.ref o]) ++ List.replicate (1 - (lg_sl ([.ref o])).length) Slot.unset).toArray = ls at hl ⊢
  have hl : lv_has ls 1 [(0, .ref o)] := hl
  refine lv_aload_n hx hb d_X0_empty_0 rfl (lv_at hl 0 rfl) ?_
  refine va_get (D := D) (ci := 0) (v := .long x) (C := RX0) (T := TX0) (N := 7) hx hb hts usX0 hown hK hP 0 rfl rfl 0 (by decide) (hts _ fl_X0_47) (fun _ h9 => h9) rfl d_X0_empty_1 ?_
  refine lv_aload_n hx hb d_X0_empty_4 rfl (lv_at hl 0 rfl) ?_
  refine va_get (D := D) (ci := 0) (v := .long y) (C := RX0) (T := TX0) (N := 7) hx hb hts usX0 hown hK hP 0 rfl rfl 1 (by decide) (hts _ fl_X0_51) (fun _ h9 => h9) rfl d_X0_empty_5 ?_
  refine lv_lor hx hb d_X0_empty_8 ?_
  refine lv_ldc2 (v := (-1)) hx hb hown (hts _ cn_X0_158) d_X0_empty_9 ?_
  refine lv_lxor hx hb d_X0_empty_12 ?_
  exact W.lret (v := ((x ||| y) ^^^ (-1))) hx hb hr (fun t ht hW => ⟨_, rfl, rfl, ht⟩) (fun _ h => nomatch h) d_X0_empty_13
set_option maxHeartbeats 4000000 in
set_option maxRecDepth 100000 in
theorem m_X0_moves (l : Launch) (D : va_G) (o : Nat) (x y : Int64) (pl md : Int32) (v4 v5 v6 : Value) : Met l y_X0_moves (k_X0_moves :: tw) ({ frames := 3, cells := 0, slots := 0, locals := 77 }) (va_Pc [.ref o] (fun U => va_P D tdC [(o, .inr (0, [.long x, .long y, .int pl, .int md, v4, v5, v6]))] U.heap ∧ va_K D tdC [] U)) (vp_Sl (fun r => r = td_moves x y)) 0 0 (fun _ => False) := by
  refine Met.ofW (cc := c_X0_moves) (maxL := 1) (ret := (some .long)) (by decide) rfl ?_
  intro p e s m args below meth c s₁ B hml hv
  obtain ⟨rfl, hP, hK⟩ := hv
  have hx := B.exec
  have hb := B.bytes
  have hr := B.returns
  have hts : ∀ w ∈ tw, w.before _ s = true := fun w h => atoms_spec (ws := k_X0_moves :: tw) B.pre w (List.mem_cons_of_mem _ h)
  have hown : s.vm.findClass RX0 = some m.cls := findClass_of_methodNamed B.named
  have hlocks := B.notSynchronized
  have hl := lv_entry ([.ref o]) (n := 1) (Nat.le_of_ble_eq_true rfl)
  rw [lg_entry_eq]
  generalize (lg_sl ([.ref o]) ++ List.replicate (1 - (lg_sl ([.ref o])).length) Slot.unset).toArray = ls at hl ⊢
  have hl : lv_has ls 1 [(0, .ref o)] := hl
  refine lv_aload_n hx hb d_X0_moves_0 rfl (lv_at hl 0 rfl) ?_
  refine va_get (D := D) (ci := 0) (v := .long x) (C := RX0) (T := TX0) (N := 7) hx hb hts usX0 hown hK hP 0 rfl rfl 0 (by decide) (hts _ fl_X0_47) (fun _ h9 => h9) rfl d_X0_moves_1 ?_
  refine lv_aload_n hx hb d_X0_moves_4 rfl (lv_at hl 0 rfl) ?_
  refine va_get (D := D) (ci := 0) (v := .long y) (C := RX0) (T := TX0) (N := 7) hx hb hts usX0 hown hK hP 0 rfl rfl 1 (by decide) (hts _ fl_X0_51) (fun _ h9 => h9) rfl d_X0_moves_5 ?_
  refine vp_callSl (W.runS (As := [.long x, .long y]) (rest := []) ⟨hx, hb, hml, hown, hts⟩ (m_X0_movesOf l x y) (va_cwS 2 hts (tw_S ml_X0_54 st_X0_movesOf in_X0 kw_X0_movesOf) rfl rfl rfl (by decide +kernel) ⟨Nat.le_of_ble_eq_true rfl, Nat.le_of_ble_eq_true rfl⟩) ⟨fun _ _ _ _ q => q, fun U hU hW => ⟨rfl, trivial⟩⟩ rfl rfl hl.1 rfl (lv_room (Nat.le_of_ble_eq_true rfl)) d_X0_moves_8 ⟨Nat.le_refl _, Nat.le_refl _⟩) (fun r hq => ?_)
  subst hq
  exact W.lret (v := (td_moves x y)) hx hb hr (fun t ht hW => ⟨_, rfl, rfl, ht⟩) (fun _ h => nomatch h) d_X0_moves_11
set_option maxHeartbeats 4000000 in
set_option maxRecDepth 100000 in
theorem m_X0_over (l : Launch) (D : va_G) (o : Nat) (x y : Int64) (pl md : Int32) (v4 v5 v6 : Value) : Met l y_X0_over (k_X0_over :: tw) ({ frames := 4, cells := 0, slots := 0, locals := 100 }) (va_Pc [.ref o] (fun U => va_P D tdC [(o, .inr (0, [.long x, .long y, .int pl, .int md, v4, v5, v6]))] U.heap ∧ va_K D tdC [] U)) (vp_Si (fun r => (td_over x y ∧ r = 1) ∨ (¬ td_over x y ∧ r = 0))) 0 0 (fun _ => False) := by
  refine Met.ofW (cc := c_X0_over) (maxL := 1) (ret := (some .boolean)) (by decide) rfl ?_
  intro p e s m args below meth c s₁ B hml hv
  obtain ⟨rfl, hP, hK⟩ := hv
  have hx := B.exec
  have hb := B.bytes
  have hr := B.returns
  have hts : ∀ w ∈ tw, w.before _ s = true := fun w h => atoms_spec (ws := k_X0_over :: tw) B.pre w (List.mem_cons_of_mem _ h)
  have hown : s.vm.findClass RX0 = some m.cls := findClass_of_methodNamed B.named
  have hlocks := B.notSynchronized
  have hl := lv_entry ([.ref o]) (n := 1) (Nat.le_of_ble_eq_true rfl)
  rw [lg_entry_eq]
  generalize (lg_sl ([.ref o]) ++ List.replicate (1 - (lg_sl ([.ref o])).length) Slot.unset).toArray = ls at hl ⊢
  have hl : lv_has ls 1 [(0, .ref o)] := hl
  refine lv_aload_n hx hb d_X0_over_0 rfl (lv_at hl 0 rfl) ?_
  refine va_get (D := D) (ci := 0) (v := .long x) (C := RX0) (T := TX0) (N := 7) hx hb hts usX0 hown hK hP 0 rfl rfl 0 (by decide) (hts _ fl_X0_47) (fun _ h9 => h9) rfl d_X0_over_1 ?_
  refine lv_aload_n hx hb d_X0_over_4 rfl (lv_at hl 0 rfl) ?_
  refine va_get (D := D) (ci := 0) (v := .long y) (C := RX0) (T := TX0) (N := 7) hx hb hts usX0 hown hK hP 0 rfl rfl 1 (by decide) (hts _ fl_X0_51) (fun _ h9 => h9) rfl d_X0_over_5 ?_
  refine vp_callSi (W.runS (As := [.long x, .long y]) (rest := []) ⟨hx, hb, hml, hown, hts⟩ (m_X0_isOver l x y) (va_cwS 2 hts (tw_S ml_X0_71 st_X0_isOver in_X0 kw_X0_isOver) rfl rfl rfl (by decide +kernel) ⟨Nat.le_of_ble_eq_true rfl, Nat.le_of_ble_eq_true rfl⟩) ⟨fun _ _ _ _ q => q, fun U hU hW => ⟨rfl, trivial⟩⟩ rfl rfl hl.1 rfl (lv_room (Nat.le_of_ble_eq_true rfl)) d_X0_over_8 ⟨Nat.le_refl _, Nat.le_refl _⟩) (fun r hq => ?_)
  rcases id hq with ⟨_, e1⟩ | ⟨_, e1⟩
  · subst e1
    exact W.zret (v := _) hx hb hr (by first | rfl | decide | assumption) (fun t ht hW => ⟨_, rfl, hq, ht⟩) (fun _ h => nomatch h) d_X0_over_11
  · subst e1
    exact W.zret (v := _) hx hb hr (by first | rfl | decide | assumption) (fun t ht hW => ⟨_, rfl, hq, ht⟩) (fun _ h => nomatch h) d_X0_over_11
set_option maxHeartbeats 4000000 in
set_option maxRecDepth 100000 in
theorem m_X0_difference (l : Launch) (D : va_G) (o : Nat) (x y : Int64) (pl md : Int32) (v4 v5 v6 : Value) : Met l y_X0_difference (k_X0_difference :: tw) ({ frames := 2, cells := 0, slots := 0, locals := 44 }) (va_Pc [.ref o] (fun U => va_P D tdC [(o, .inr (0, [.long x, .long y, .int pl, .int md, v4, v5, v6]))] U.heap ∧ va_K D tdC [] U)) (vp_Si (fun r => r = td_lead (td_of x y pl 0) (td_of x y pl 1))) 0 0 (fun _ => False) := by
  refine Met.ofW (cc := c_X0_difference) (maxL := 1) (ret := (some .int)) (by decide) rfl ?_
  intro p e s m args below meth c s₁ B hml hv
  obtain ⟨rfl, hP, hK⟩ := hv
  have hx := B.exec
  have hb := B.bytes
  have hr := B.returns
  have hts : ∀ w ∈ tw, w.before _ s = true := fun w h => atoms_spec (ws := k_X0_difference :: tw) B.pre w (List.mem_cons_of_mem _ h)
  have hown : s.vm.findClass RX0 = some m.cls := findClass_of_methodNamed B.named
  have hlocks := B.notSynchronized
  have hl := lv_entry ([.ref o]) (n := 1) (Nat.le_of_ble_eq_true rfl)
  rw [lg_entry_eq]
  generalize (lg_sl ([.ref o]) ++ List.replicate (1 - (lg_sl ([.ref o])).length) Slot.unset).toArray = ls at hl ⊢
  have hl : lv_has ls 1 [(0, .ref o)] := hl
  refine lv_aload_n hx hb d_X0_difference_0 rfl (lv_at hl 0 rfl) ?_
  refine lv_iconst (v := 0) hx hb d_X0_difference_1 (by decide) ?_
  refine vp_callSl (W.runV (b := o) (C := RX0) (As := [.int 0]) (rest := []) ⟨hx, hb, hml, hown, hts⟩ (m_X0_discsOf l D o x y pl md v4 v5 v6 0) (cwV 1 hts (tw_V ml_X0_39 im_X0_discsOf se_X0_discsOf in_X0 kw_X0_discsOf) rfl rfl rfl (by decide +kernel) ⟨Nat.le_of_ble_eq_true rfl, Nat.le_of_ble_eq_true rfl⟩) ⟨fun a U g mk q => ⟨q.1, q.2.1, va_K.moved (u := U) (U := U.calling g mk a) (Vm.Alike.refl U.vm) q.2.2⟩, va_recv (q0 := 0) (ci := 0) hK hP rfl rfl, fun U hU hW => ⟨rfl, by rw [hU]; exact hP, va_K.moved hW.alike hK⟩⟩ rfl rfl hl.1 rfl (lv_room (Nat.le_of_ble_eq_true rfl)) d_X0_difference_2 ⟨Nat.le_refl _, Nat.le_refl _⟩) (fun r hq => ?_)
  subst hq
  refine lv_aload_n hx hb d_X0_difference_5 rfl (lv_at hl 0 rfl) ?_
  refine lv_iconst (v := 1) hx hb d_X0_difference_6 (by decide) ?_
  refine vp_callSl (W.runV (b := o) (C := RX0) (As := [.int 1]) (rest := [.long (td_of x y pl 0)]) ⟨hx, hb, hml, hown, hts⟩ (m_X0_discsOf l D o x y pl md v4 v5 v6 1) (cwV 1 hts (tw_V ml_X0_39 im_X0_discsOf se_X0_discsOf in_X0 kw_X0_discsOf) rfl rfl rfl (by decide +kernel) ⟨Nat.le_of_ble_eq_true rfl, Nat.le_of_ble_eq_true rfl⟩) ⟨fun a U g mk q => ⟨q.1, q.2.1, va_K.moved (u := U) (U := U.calling g mk a) (Vm.Alike.refl U.vm) q.2.2⟩, va_recv (q0 := 0) (ci := 0) hK hP rfl rfl, fun U hU hW => ⟨rfl, by rw [hU]; exact hP, va_K.moved hW.alike hK⟩⟩ rfl rfl hl.1 rfl (lv_room (Nat.le_of_ble_eq_true rfl)) d_X0_difference_7 ⟨Nat.le_refl _, Nat.le_refl _⟩) (fun r hq => ?_)
  subst hq
  refine vp_callSi (W.runS (As := [.long (td_of x y pl 0), .long (td_of x y pl 1)]) (rest := []) ⟨hx, hb, hml, hown, hts⟩ (m_X0_lead l (td_of x y pl 0) (td_of x y pl 1)) (va_cwS 2 hts (tw_S ml_X0_98 st_X0_lead in_X0 kw_X0_lead) rfl rfl rfl (by decide +kernel) ⟨Nat.le_of_ble_eq_true rfl, Nat.le_of_ble_eq_true rfl⟩) ⟨fun _ _ _ _ q => q, fun U hU hW => ⟨rfl, trivial⟩⟩ rfl rfl hl.1 rfl (lv_room (Nat.le_of_ble_eq_true rfl)) d_X0_difference_10 ⟨Nat.le_refl _, Nat.le_refl _⟩) (fun r hq => ?_)
  subst hq
  exact W.iret (v := (td_lead (td_of x y pl 0) (td_of x y pl 1))) hx hb hr (fun t ht hW => ⟨_, rfl, rfl, ht⟩) (fun _ h => nomatch h) d_X0_difference_13
set_option maxHeartbeats 4000000 in
set_option maxRecDepth 100000 in
theorem m_X0_mayPlay (l : Launch) (D : va_G) (o : Nat) (x y : Int64) (pl md : Int32) (v4 v5 v6 : Value) (q : Int32) : Met l y_X0_mayPlay (k_X0_mayPlay :: tw) ({ frames := 3, cells := 0, slots := 0, locals := 77 }) (va_Pc [.ref o, .int q] (fun U => va_P D tdC [(o, .inr (0, [.long x, .long y, .int pl, .int md, v4, v5, v6]))] U.heap ∧ va_K D tdC [] U)) (vp_Si (fun r => (td_may x y q ∧ r = 1) ∨ (¬ td_may x y q ∧ r = 0))) 0 0 (fun _ => False) := by
  refine Met.ofW (cc := c_X0_mayPlay) (maxL := 2) (ret := (some .boolean)) (by decide) rfl ?_
  intro p e s m args below meth c s₁ B hml hv
  obtain ⟨rfl, hP, hK⟩ := hv
  have hx := B.exec
  have hb := B.bytes
  have hr := B.returns
  have hts : ∀ w ∈ tw, w.before _ s = true := fun w h => atoms_spec (ws := k_X0_mayPlay :: tw) B.pre w (List.mem_cons_of_mem _ h)
  have hown : s.vm.findClass RX0 = some m.cls := findClass_of_methodNamed B.named
  have hlocks := B.notSynchronized
  have hl := lv_entry ([.ref o, .int q]) (n := 2) (Nat.le_of_ble_eq_true rfl)
  rw [lg_entry_eq]
  generalize (lg_sl ([.ref o, .int q]) ++ List.replicate (2 - (lg_sl ([.ref o, .int q])).length) Slot.unset).toArray = ls at hl ⊢
  have hl : lv_has ls 2 [(0, .ref o), (1, .int q)] := hl
  refine lv_iload_n hx hb d_X0_mayPlay_0 rfl (lv_at hl 1 rfl) ?_
  refine lv_bipush (v := 64) hx hb d_X0_mayPlay_1 (by decide) ?_
  refine lv_icmp_ne (tgt := 44) hx hb d_X0_mayPlay_3 (by decide) (fun h64 => ?_) (fun h64 => ?_)
  · refine td_joini 80 ls [] (fun x_ => (td_may x y q ∧ x_ = 1) ∨ (¬ td_may x y q ∧ x_ = 0)) (fun x_ ex => ?_) (fun J => ?_)
    · rcases id ex with ⟨_, e1⟩ | ⟨_, e1⟩
      · subst e1
        exact W.zret (v := _) hx hb hr (by first | rfl | decide | assumption) (fun t ht hW => ⟨_, rfl, ex, ht⟩) (fun _ h => nomatch h) d_X0_mayPlay_80
      · subst e1
        exact W.zret (v := _) hx hb hr (by first | rfl | decide | assumption) (fun t ht hW => ⟨_, rfl, ex, ht⟩) (fun _ h => nomatch h) d_X0_mayPlay_80
    · refine lv_iload_n hx hb d_X0_mayPlay_44 rfl (lv_at hl 1 rfl) ?_
      refine lv_if_lt (tgt := 79) hx hb d_X0_mayPlay_45 (by decide) (fun h0 => ?_) (fun h0 => ?_)
      · refine lv_iconst (v := 0) hx hb d_X0_mayPlay_79 (by decide) ?_
        exact J _ (Or.inr ⟨fun z => z.elim (fun z => h64 z.1) (fun z => z.2.1 h0), rfl⟩)
      · refine lv_iload_n hx hb d_X0_mayPlay_48 rfl (lv_at hl 1 rfl) ?_
        refine lv_bipush (v := 64) hx hb d_X0_mayPlay_49 (by decide) ?_
        refine lv_icmp_ge (tgt := 79) hx hb d_X0_mayPlay_51 (by decide) (fun h1 => ?_) (fun h1 => ?_)
        · refine lv_iconst (v := 0) hx hb d_X0_mayPlay_79 (by decide) ?_
          exact J _ (Or.inr ⟨fun z => z.elim (fun z => h64 z.1) (fun z => absurd z.2.2.1 (Int32.not_lt.mpr h1)), rfl⟩)
        · refine lv_aload_n hx hb d_X0_mayPlay_54 rfl (lv_at hl 0 rfl) ?_
          refine va_get (D := D) (ci := 0) (v := .long x) (C := RX0) (T := TX0) (N := 7) hx hb hts usX0 hown hK hP 0 rfl rfl 0 (by decide) (hts _ fl_X0_47) (fun _ h9 => h9) rfl d_X0_mayPlay_55 ?_
          refine lv_aload_n hx hb d_X0_mayPlay_58 rfl (lv_at hl 0 rfl) ?_
          refine va_get (D := D) (ci := 0) (v := .long y) (C := RX0) (T := TX0) (N := 7) hx hb hts usX0 hown hK hP 0 rfl rfl 1 (by decide) (hts _ fl_X0_51) (fun _ h9 => h9) rfl d_X0_mayPlay_59 ?_
          refine vp_callSl (W.runS (As := [.long x, .long y]) (rest := []) ⟨hx, hb, hml, hown, hts⟩ (m_X0_movesOf l x y) (va_cwS 2 hts (tw_S ml_X0_54 st_X0_movesOf in_X0 kw_X0_movesOf) rfl rfl rfl (by decide +kernel) ⟨Nat.le_of_ble_eq_true rfl, Nat.le_of_ble_eq_true rfl⟩) ⟨fun _ _ _ _ q => q, fun U hU hW => ⟨rfl, trivial⟩⟩ rfl rfl hl.1 rfl (lv_room (Nat.le_of_ble_eq_true rfl)) d_X0_mayPlay_62 ⟨Nat.le_refl _, Nat.le_refl _⟩) (fun r hq => ?_)
          subst hq
          refine lv_iload_n hx hb d_X0_mayPlay_65 rfl (lv_at hl 1 rfl) ?_
          refine vp_callSl (W.runS (As := [.int q]) (rest := [.long (td_moves x y)]) ⟨hx, hb, hml, hown, hts⟩ (m_X0_discOn l q) (va_cwS 1 hts (tw_S ml_X0_60 st_X0_discOn in_X0 kw_X0_discOn) rfl rfl rfl (by decide +kernel) ⟨Nat.le_of_ble_eq_true rfl, Nat.le_of_ble_eq_true rfl⟩) ⟨fun _ _ _ _ q => q, fun U hU hW => ⟨rfl, trivial⟩⟩ rfl rfl hl.1 rfl (lv_room (Nat.le_of_ble_eq_true rfl)) d_X0_mayPlay_66 ⟨Nat.le_refl _, Nat.le_refl _⟩) (fun r hq => ?_)
          subst hq
          refine lv_land hx hb d_X0_mayPlay_69 ?_
          refine lv_lconst (v := 0) hx hb d_X0_mayPlay_70 (by decide) ?_
          refine td_leq (tgt := 79) hx hb d_X0_mayPlay_71 d_X0_mayPlay_72 (by decide) (fun h2 => ?_) (fun h2 => ?_)
          · refine lv_iconst (v := 0) hx hb d_X0_mayPlay_79 (by decide) ?_
            exact J _ (Or.inr ⟨fun z => z.elim (fun z => h64 z.1) (fun z => z.2.2.2 h2), rfl⟩)
          · refine lv_iconst (v := 1) hx hb d_X0_mayPlay_75 (by decide) ?_
            refine lv_goto (tgt := 80) hx hb d_X0_mayPlay_76 (by decide) ?_
            exact J _ (Or.inl ⟨Or.inr ⟨h64, h0, Int32.not_le.mp h1, h2⟩, rfl⟩)
  · refine td_joini 43 ls [] (fun x_ => (td_may x y q ∧ x_ = 1) ∨ (¬ td_may x y q ∧ x_ = 0)) (fun x_ ex => ?_) (fun J => ?_)
    · rcases id ex with ⟨_, e1⟩ | ⟨_, e1⟩
      · subst e1
        exact W.zret (v := _) hx hb hr (by first | rfl | decide | assumption) (fun t ht hW => ⟨_, rfl, ex, ht⟩) (fun _ h => nomatch h) d_X0_mayPlay_43
      · subst e1
        exact W.zret (v := _) hx hb hr (by first | rfl | decide | assumption) (fun t ht hW => ⟨_, rfl, ex, ht⟩) (fun _ h => nomatch h) d_X0_mayPlay_43
    · refine lv_aload_n hx hb d_X0_mayPlay_6 rfl (lv_at hl 0 rfl) ?_
      refine va_get (D := D) (ci := 0) (v := .long x) (C := RX0) (T := TX0) (N := 7) hx hb hts usX0 hown hK hP 0 rfl rfl 0 (by decide) (hts _ fl_X0_47) (fun _ h9 => h9) rfl d_X0_mayPlay_7 ?_
      refine lv_aload_n hx hb d_X0_mayPlay_10 rfl (lv_at hl 0 rfl) ?_
      refine va_get (D := D) (ci := 0) (v := .long y) (C := RX0) (T := TX0) (N := 7) hx hb hts usX0 hown hK hP 0 rfl rfl 1 (by decide) (hts _ fl_X0_51) (fun _ h9 => h9) rfl d_X0_mayPlay_11 ?_
      refine vp_callSl (W.runS (As := [.long x, .long y]) (rest := []) ⟨hx, hb, hml, hown, hts⟩ (m_X0_movesOf l x y) (va_cwS 2 hts (tw_S ml_X0_54 st_X0_movesOf in_X0 kw_X0_movesOf) rfl rfl rfl (by decide +kernel) ⟨Nat.le_of_ble_eq_true rfl, Nat.le_of_ble_eq_true rfl⟩) ⟨fun _ _ _ _ q => q, fun U hU hW => ⟨rfl, trivial⟩⟩ rfl rfl hl.1 rfl (lv_room (Nat.le_of_ble_eq_true rfl)) d_X0_mayPlay_14 ⟨Nat.le_refl _, Nat.le_refl _⟩) (fun r hq => ?_)
      subst hq
      refine lv_lconst (v := 0) hx hb d_X0_mayPlay_17 (by decide) ?_
      refine td_lne (tgt := 42) hx hb d_X0_mayPlay_18 d_X0_mayPlay_19 (by decide) (fun h1 => ?_) (fun h1 => ?_)
      · refine lv_iconst (v := 0) hx hb d_X0_mayPlay_42 (by decide) ?_
        exact J _ (Or.inr ⟨fun z => z.elim (fun z => h1 z.2.1) (fun z => z.1 h64), rfl⟩)
      · refine lv_aload_n hx hb d_X0_mayPlay_22 rfl (lv_at hl 0 rfl) ?_
        refine va_get (D := D) (ci := 0) (v := .long y) (C := RX0) (T := TX0) (N := 7) hx hb hts usX0 hown hK hP 0 rfl rfl 1 (by decide) (hts _ fl_X0_51) (fun _ h9 => h9) rfl d_X0_mayPlay_23 ?_
        refine lv_aload_n hx hb d_X0_mayPlay_26 rfl (lv_at hl 0 rfl) ?_
        refine va_get (D := D) (ci := 0) (v := .long x) (C := RX0) (T := TX0) (N := 7) hx hb hts usX0 hown hK hP 0 rfl rfl 0 (by decide) (hts _ fl_X0_47) (fun _ h9 => h9) rfl d_X0_mayPlay_27 ?_
        refine vp_callSl (W.runS (As := [.long y, .long x]) (rest := []) ⟨hx, hb, hml, hown, hts⟩ (m_X0_movesOf l y x) (va_cwS 2 hts (tw_S ml_X0_54 st_X0_movesOf in_X0 kw_X0_movesOf) rfl rfl rfl (by decide +kernel) ⟨Nat.le_of_ble_eq_true rfl, Nat.le_of_ble_eq_true rfl⟩) ⟨fun _ _ _ _ q => q, fun U hU hW => ⟨rfl, trivial⟩⟩ rfl rfl hl.1 rfl (lv_room (Nat.le_of_ble_eq_true rfl)) d_X0_mayPlay_30 ⟨Nat.le_refl _, Nat.le_refl _⟩) (fun r hq => ?_)
        subst hq
        refine lv_lconst (v := 0) hx hb d_X0_mayPlay_33 (by decide) ?_
        refine td_leq (tgt := 42) hx hb d_X0_mayPlay_34 d_X0_mayPlay_35 (by decide) (fun h2 => ?_) (fun h2 => ?_)
        · refine lv_iconst (v := 0) hx hb d_X0_mayPlay_42 (by decide) ?_
          exact J _ (Or.inr ⟨fun z => z.elim (fun z => z.2.2 h2) (fun z => z.1 h64), rfl⟩)
        · refine lv_iconst (v := 1) hx hb d_X0_mayPlay_38 (by decide) ?_
          refine lv_goto (tgt := 43) hx hb d_X0_mayPlay_39 (by decide) ?_
          exact J _ (Or.inl ⟨Or.inl ⟨h64, h1, h2⟩, rfl⟩)
end
section
set_option maxHeartbeats 4000000 in
set_option maxRecDepth 100000 in
theorem m_X0_setUp (l : Launch) (D : va_G) (sz : Nat) (o : Nat) (x y : Int64) (pl md : Int32) (v4 v5 v6 : Value) (u v : Int64) (w : Int32) : Met l y_X0_setUp (k_X0_setUp :: tw) ({ frames := 0, cells := 0, slots := 0, locals := 0 }) (va_Pc [.ref o, .long u, .long v, .int w] (fun U => U.heap.size = sz ∧ va_P D tdC [(o, .inr (0, [.long x, .long y, .int pl, .int md, v4, v5, v6]))] U.heap ∧ va_K D tdC [] U ∧ va_D (fun _ => True) [(o, .inr (0, [.long x, .long y, .int pl, .int md, v4, v5, v6]))])) (va_Qv (fun (_ : Unit) => True) (fun (_ : Unit) t => va_P D tdC [(o, .inr (0, [.long u, .long v, .int w, .int 0, v4, v5, v6]))] t.heap ∧ va_K D tdC [] t ∧ va_D (va_A [(o, .inr (0, [.long x, .long y, .int pl, .int md, v4, v5, v6]))] sz) [(o, .inr (0, [.long u, .long v, .int w, .int 0, v4, v5, v6]))]) (va_A [(o, .inr (0, [.long x, .long y, .int pl, .int md, v4, v5, v6]))] sz)) 0 0 (va_A [(o, .inr (0, [.long x, .long y, .int pl, .int md, v4, v5, v6]))] sz) := by
  refine Met.ofW (cc := c_X0_setUp) (maxL := 6) (ret := none) (by decide) rfl ?_
  intro p e s m args below meth c s₁ B hml hv
  obtain ⟨rfl, hsz, hP, hK, hD0⟩ := hv
  have hx := B.exec
  have hb := B.bytes
  have hr := B.returns
  have hts : ∀ w ∈ tw, w.before _ s = true := fun w h => atoms_spec (ws := k_X0_setUp :: tw) B.pre w (List.mem_cons_of_mem _ h)
  have hown : s.vm.findClass RX0 = some m.cls := findClass_of_methodNamed B.named
  have hlocks := B.notSynchronized
  subst hsz
  have hD := hD0.self (sz := s.heap.size)
  generalize hAe : va_A [(o, .inr (0, [.long x, .long y, .int pl, .int md, v4, v5, v6]))] s.heap.size = A at hD ⊢
  have hA : ∀ q : Nat, s.heap.size ≤ q → A q := fun q h => by rw [← hAe]; exact Or.inr h
  have hS : va_S A s.heap s.heap [] := va_S.rf
  have hP : va_P D tdC [(o, .inr (0, [.long x, .long y, .int pl, .int md, v4, v5, v6]))] s.heap := hP
  have hl := lv_entry ([.ref o, .long u, .long v, .int w]) (n := 6) (Nat.le_of_ble_eq_true rfl)
  rw [lg_entry_eq]
  generalize (lg_sl ([.ref o, .long u, .long v, .int w]) ++ List.replicate (6 - (lg_sl ([.ref o, .long u, .long v, .int w])).length) Slot.unset).toArray = ls at hl ⊢
  have hl : lv_has ls 6 [(0, .ref o), (1, .long u), (3, .long v), (5, .int w)] := hl
  refine lv_aload_n hx hb d_X0_setUp_0 rfl (lv_at hl 0 rfl) ?_
  refine lv_lload_n hx hb d_X0_setUp_1 rfl (lv_at hl 1 rfl) ?_
  refine va_put (D := D) (ci := 0) (v := .long u) (ty := .long) (C := RX0) (T := TX0) (N := 7) hx hb hts usX0 tyX0 tyX0_ok nmX0 hown hK hP hD hS 0 rfl rfl 0 (by decide) (hts _ fl_X0_47) (fun _ h9 => h9) rfl (by decide +kernel) rfl rfl (Nat.le_of_ble_eq_true rfl) d_X0_setUp_2 (fun H locs hP hD hS => ?_)
  have hP : va_P D tdC [(o, .inr (0, [.long u, .long y, .int pl, .int md, v4, v5, v6]))] H := hP
  have hD : va_D A [(o, .inr (0, [.long u, .long y, .int pl, .int md, v4, v5, v6]))] := hD
  refine lv_aload_n hx hb d_X0_setUp_5 rfl (lv_at hl 0 rfl) ?_
  refine lv_lload_n hx hb d_X0_setUp_6 rfl (lv_at hl 2 rfl) ?_
  refine va_put (D := D) (ci := 0) (v := .long v) (ty := .long) (C := RX0) (T := TX0) (N := 7) hx hb hts usX0 tyX0 tyX0_ok nmX0 hown hK hP hD hS 0 rfl rfl 1 (by decide) (hts _ fl_X0_51) (fun _ h9 => h9) rfl (by decide +kernel) rfl rfl (Nat.le_of_ble_eq_true rfl) d_X0_setUp_7 (fun H locs hP hD hS => ?_)
  have hP : va_P D tdC [(o, .inr (0, [.long u, .long v, .int pl, .int md, v4, v5, v6]))] H := hP
  have hD : va_D A [(o, .inr (0, [.long u, .long v, .int pl, .int md, v4, v5, v6]))] := hD
  refine lv_aload_n hx hb d_X0_setUp_10 rfl (lv_at hl 0 rfl) ?_
  refine lv_iload hx hb d_X0_setUp_11 (lv_at hl 3 rfl) ?_
  refine va_put (D := D) (ci := 0) (v := .int w) (ty := .int) (C := RX0) (T := TX0) (N := 7) hx hb hts usX0 tyX0 tyX0_ok nmX0 hown hK hP hD hS 0 rfl rfl 2 (by decide) (hts _ fl_X0_43) (fun _ h9 => h9) rfl (by decide +kernel) rfl rfl (Nat.le_of_ble_eq_true rfl) d_X0_setUp_13 (fun H locs hP hD hS => ?_)
  have hP : va_P D tdC [(o, .inr (0, [.long u, .long v, .int w, .int md, v4, v5, v6]))] H := hP
  have hD : va_D A [(o, .inr (0, [.long u, .long v, .int w, .int md, v4, v5, v6]))] := hD
  refine lv_aload_n hx hb d_X0_setUp_16 rfl (lv_at hl 0 rfl) ?_
  refine lv_iconst (v := 0) hx hb d_X0_setUp_17 (by decide) ?_
  refine va_put (D := D) (ci := 0) (v := .int 0) (ty := .int) (C := RX0) (T := TX0) (N := 7) hx hb hts usX0 tyX0 tyX0_ok nmX0 hown hK hP hD hS 0 rfl rfl 3 (by decide) (hts _ fl_X0_81) (fun _ h9 => h9) rfl (by decide +kernel) rfl rfl (Nat.le_of_ble_eq_true rfl) d_X0_setUp_18 (fun H locs hP hD hS => ?_)
  have hP : va_P D tdC [(o, .inr (0, [.long u, .long v, .int w, .int 0, v4, v5, v6]))] H := hP
  have hD : va_D A [(o, .inr (0, [.long u, .long v, .int w, .int 0, v4, v5, v6]))] := hD
  exact W.vret hx hb hr (fun t ht hW => ⟨⟨(), rfl, trivial, by rw [ht]; exact hP, va_K.moved hW.alike hK, hD⟩, hS.F ht⟩) hS.2.2 d_X0_setUp_21
set_option maxHeartbeats 4000000 in
set_option maxRecDepth 100000 in
theorem m_X0_begin (l : Launch) (D : va_G) (sz : Nat) (o : Nat) (x y : Int64) (pl md : Int32) (v4 v5 v6 : Value) : Met l y_X0_begin (k_X0_begin :: tw) ({ frames := 1, cells := 0, slots := 0, locals := 25 }) (va_Pc [.ref o] (fun U => U.heap.size = sz ∧ va_P D tdC [(o, .inr (0, [.long x, .long y, .int pl, .int md, v4, v5, v6]))] U.heap ∧ va_K D tdC [] U ∧ va_D (fun _ => True) [(o, .inr (0, [.long x, .long y, .int pl, .int md, v4, v5, v6]))])) (va_Qv (fun (_ : Unit) => True) (fun (_ : Unit) t => va_P D tdC [(o, .inr (0, [.long 34628173824, .long 68853694464, .int 0, .int 0, v4, v5, v6]))] t.heap ∧ va_K D tdC [] t ∧ va_D (va_A [(o, .inr (0, [.long x, .long y, .int pl, .int md, v4, v5, v6]))] sz) [(o, .inr (0, [.long 34628173824, .long 68853694464, .int 0, .int 0, v4, v5, v6]))]) (va_A [(o, .inr (0, [.long x, .long y, .int pl, .int md, v4, v5, v6]))] sz)) 0 0 (va_A [(o, .inr (0, [.long x, .long y, .int pl, .int md, v4, v5, v6]))] sz) := by
  refine Met.ofW (cc := c_X0_begin) (maxL := 1) (ret := none) (by decide) rfl ?_
  intro p e s m args below meth c s₁ B hml hv
  obtain ⟨rfl, hsz, hP, hK, hD0⟩ := hv
  have hx := B.exec
  have hb := B.bytes
  have hr := B.returns
  have hts : ∀ w ∈ tw, w.before _ s = true := fun w h => atoms_spec (ws := k_X0_begin :: tw) B.pre w (List.mem_cons_of_mem _ h)
  have hown : s.vm.findClass RX0 = some m.cls := findClass_of_methodNamed B.named
  have hlocks := B.notSynchronized
  subst hsz
  have hD := hD0.self (sz := s.heap.size)
  generalize hAe : va_A [(o, .inr (0, [.long x, .long y, .int pl, .int md, v4, v5, v6]))] s.heap.size = A at hD ⊢
  have hA : ∀ q : Nat, s.heap.size ≤ q → A q := fun q h => by rw [← hAe]; exact Or.inr h
  have hS : va_S A s.heap s.heap [] := va_S.rf
  have hP : va_P D tdC [(o, .inr (0, [.long x, .long y, .int pl, .int md, v4, v5, v6]))] s.heap := hP
  have hl := lv_entry ([.ref o]) (n := 1) (Nat.le_of_ble_eq_true rfl)
  rw [lg_entry_eq]
  generalize (lg_sl ([.ref o]) ++ List.replicate (1 - (lg_sl ([.ref o])).length) Slot.unset).toArray = ls at hl ⊢
  have hl : lv_has ls 1 [(0, .ref o)] := hl
  refine lv_aload_n hx hb d_X0_begin_0 rfl (lv_at hl 0 rfl) ?_
  refine lv_ldc2 (v := 34628173824) hx hb hown (hts _ cn_X0_20) d_X0_begin_1 ?_
  refine lv_ldc2 (v := 68853694464) hx hb hown (hts _ cn_X0_22) d_X0_begin_4 ?_
  refine lv_iconst (v := 0) hx hb d_X0_begin_7 (by decide) ?_
  have hPc := hP.sub (ws' := [(o, .inr (0, [.long x, .long y, .int pl, .int md, v4, v5, v6]))]) [0] rfl
  have hDc := hD.sub (ws' := [(o, .inr (0, [.long x, .long y, .int pl, .int md, v4, v5, v6]))]) [0] (by decide) rfl
  have hKc := hK.sub (tys' := []) [] rfl
  have hFc := va_free (wc := [(o, .inr (0, [.long x, .long y, .int pl, .int md, v4, v5, v6]))]) hD hS hA [0] rfl
  refine va_callv (va_runV (b := o) (C := RX0) (As := [.long 34628173824, .long 68853694464, .int 0]) (rest := []) ⟨hx, hb, hml, hown, hts⟩ (m_X0_setUp l D s.heap.size o x y pl md v4 v5 v6 34628173824 68853694464 0) (cwV 3 hts (tw_V ml_X0_24 im_X0_setUp se_X0_setUp in_X0 kw_X0_setUp) rfl rfl rfl (by decide +kernel) ⟨Nat.le_of_ble_eq_true rfl, Nat.le_of_ble_eq_true rfl⟩) ⟨fun a U g mk q => ⟨q.1, q.2.1, q.2.2.1, va_K.moved (u := U) (U := U.calling g mk a) (Vm.Alike.refl U.vm) q.2.2.2.1, q.2.2.2.2⟩, va_recv (q0 := 0) (ci := 0) hK hP rfl rfl, fun U hU hW => ⟨rfl, by rw [hU], by rw [hU]; exact hPc, va_K.moved hW.alike hKc, hDc.weaken (fun _ _ _ _ => trivial)⟩⟩ rfl rfl hl.1 rfl (lv_room (Nat.le_of_ble_eq_true rfl)) d_X0_begin_8 ⟨Nat.le_refl _, Nat.le_refl _⟩) hS (fun q _ h => hFc q h) hFc (fun u0 t0 H1 locs ht hvm hq hB hz1 hk1 hS => ?_)
  obtain ⟨hP1, hK1, hD1⟩ := hB
  rw [ht] at hP1
  obtain ⟨hP, hD⟩ := va_join (wr := []) (w1 := [(o, .inr (0, [.long 34628173824, .long 68853694464, .int 0, .int 0, v4, v5, v6]))]) hP hD [0] [] rfl rfl (by decide) (by decide) hk1 hFc hP1 hD1
  clear hPc hDc hKc hFc hP1 hK1 hD1 hk1 hz1
  have hP := hP.sub (ws' := [(o, .inr (0, [.long 34628173824, .long 68853694464, .int 0, .int 0, v4, v5, v6]))]) [0] rfl
  have hD := hD.sub (ws' := [(o, .inr (0, [.long 34628173824, .long 68853694464, .int 0, .int 0, v4, v5, v6]))]) [0] (by decide) rfl
  clear ht hvm
  generalize H1 = H at hP hS ⊢
  exact W.vret hx hb hr (fun t ht hW => ⟨⟨(), rfl, trivial, by rw [ht]; exact hP, va_K.moved hW.alike hK, hD⟩, hS.F ht⟩) hS.2.2 d_X0_begin_11
set_option maxHeartbeats 4000000 in
set_option maxRecDepth 100000 in
theorem m_X0_make (l : Launch) (D : va_G) (sz : Nat) (o a1 a2 : Nat) (cI cJ : ClassId) (x y : Int64) (pl : Int32) (k : Nat) (hk : k < 64) (v6 : Value) (sq : Nat → Int32) (tu : Nat → Int64) (q : Int32) : Met l y_X0_make (k_X0_make :: tw) ({ frames := 3, cells := 0, slots := 0, locals := 85 }) (va_Pc [.ref o, .int q] (fun U => U.heap.size = sz ∧ va_P D tdC [(o, .inr (0, [.long x, .long y, .int pl, .int (nI k), .ref a1, .ref a2, v6])), (a1, .inl (cI, 64, .inl sq)), (a2, .inl (cJ, 64, .inr (.inl tu)))] U.heap ∧ va_K D tdC [(cI, .int), (cJ, .long)] U ∧ va_D (fun _ => True) [(o, .inr (0, [.long x, .long y, .int pl, .int (nI k), .ref a1, .ref a2, v6])), (a1, .inl (cI, 64, .inl sq)), (a2, .inl (cJ, 64, .inr (.inl tu)))])) (va_Qi (fun (r : Int32) (_ : Unit) => r = td_pop (td_turned x y (td_on q))) (fun (_ : Unit) t => va_P D tdC [(o, .inr (0, [.long (y ^^^ (td_turned x y (td_on q))), .long ((x ||| td_on q) ||| (td_turned x y (td_on q))), .int (1 - pl), .int (nI (k + 1)), .ref a1, .ref a2, v6])), (a1, .inl (cI, 64, .inl (upd sq k q))), (a2, .inl (cJ, 64, .inr (.inl (vp_updL tu k (td_turned x y (td_on q))))))] t.heap ∧ va_K D tdC [(cI, .int), (cJ, .long)] t ∧ va_D (va_A [(o, .inr (0, [.long x, .long y, .int pl, .int (nI k), .ref a1, .ref a2, v6])), (a1, .inl (cI, 64, .inl sq)), (a2, .inl (cJ, 64, .inr (.inl tu)))] sz) [(o, .inr (0, [.long (y ^^^ (td_turned x y (td_on q))), .long ((x ||| td_on q) ||| (td_turned x y (td_on q))), .int (1 - pl), .int (nI (k + 1)), .ref a1, .ref a2, v6])), (a1, .inl (cI, 64, .inl (upd sq k q))), (a2, .inl (cJ, 64, .inr (.inl (vp_updL tu k (td_turned x y (td_on q))))))]) (va_A [(o, .inr (0, [.long x, .long y, .int pl, .int (nI k), .ref a1, .ref a2, v6])), (a1, .inl (cI, 64, .inl sq)), (a2, .inl (cJ, 64, .inr (.inl tu)))] sz)) 0 0 (va_A [(o, .inr (0, [.long x, .long y, .int pl, .int (nI k), .ref a1, .ref a2, v6])), (a1, .inl (cI, 64, .inl sq)), (a2, .inl (cJ, 64, .inr (.inl tu)))] sz) := by
  refine Met.ofW (cc := c_X0_make) (maxL := 8) (ret := (some .int)) (by decide) rfl ?_
  intro p e s m args below meth c s₁ B hml hv
  obtain ⟨rfl, hsz, hP, hK, hD0⟩ := hv
  have hx := B.exec
  have hb := B.bytes
  have hr := B.returns
  have hts : ∀ w ∈ tw, w.before _ s = true := fun w h => atoms_spec (ws := k_X0_make :: tw) B.pre w (List.mem_cons_of_mem _ h)
  have hown : s.vm.findClass RX0 = some m.cls := findClass_of_methodNamed B.named
  have hlocks := B.notSynchronized
  subst hsz
  have hD := hD0.self (sz := s.heap.size)
  generalize hAe : va_A [(o, .inr (0, [.long x, .long y, .int pl, .int (nI k), .ref a1, .ref a2, v6])), (a1, .inl (cI, 64, .inl sq)), (a2, .inl (cJ, 64, .inr (.inl tu)))] s.heap.size = A at hD ⊢
  have hA : ∀ q : Nat, s.heap.size ≤ q → A q := fun q h => by rw [← hAe]; exact Or.inr h
  have hS : va_S A s.heap s.heap [] := va_S.rf
  have hP : va_P D tdC [(o, .inr (0, [.long x, .long y, .int pl, .int (nI k), .ref a1, .ref a2, v6])), (a1, .inl (cI, 64, .inl sq)), (a2, .inl (cJ, 64, .inr (.inl tu)))] s.heap := hP
  have hl := lv_entry ([.ref o, .int q]) (n := 8) (Nat.le_of_ble_eq_true rfl)
  rw [lg_entry_eq]
  generalize (lg_sl ([.ref o, .int q]) ++ List.replicate (8 - (lg_sl ([.ref o, .int q])).length) Slot.unset).toArray = ls at hl ⊢
  have hl : lv_has ls 8 [(0, .ref o), (1, .int q)] := hl
  have hcl : (nI k).toNatClampNeg = k := nI_clamp (by omega)
  refine lv_iload_n hx hb d_X0_make_0 rfl (lv_at hl 1 rfl) ?_
  refine vp_callSl (W.runS (As := [.int q]) (rest := []) ⟨hx, hb, hml, hown, hts⟩ (m_X0_discOn l q) (va_cwS 1 hts (tw_S ml_X0_60 st_X0_discOn in_X0 kw_X0_discOn) rfl rfl rfl (by decide +kernel) ⟨Nat.le_of_ble_eq_true rfl, Nat.le_of_ble_eq_true rfl⟩) ⟨fun _ _ _ _ q => q, fun U hU hW => ⟨rfl, trivial⟩⟩ rfl rfl hl.1 rfl (lv_room (Nat.le_of_ble_eq_true rfl)) d_X0_make_1 ⟨Nat.le_refl _, Nat.le_refl _⟩) (fun r hq => ?_)
  subst hq
  refine lv_lstore_n hx hb d_X0_make_4 rfl hl (by decide) rfl (fun ls hl => ?_)
  have hl : lv_has ls 8 [(2, .long (td_on q)), (0, .ref o), (1, .int q)] := hl
  refine lv_aload_n hx hb d_X0_make_5 rfl (lv_at hl 1 rfl) ?_
  refine va_get (D := D) (ci := 0) (v := .long x) (C := RX0) (T := TX0) (N := 7) hx hb hts usX0 hown hK hP 0 rfl rfl 0 (by decide) (hts _ fl_X0_47) (fun _ h9 => h9) rfl d_X0_make_6 ?_
  refine lv_aload_n hx hb d_X0_make_9 rfl (lv_at hl 1 rfl) ?_
  refine va_get (D := D) (ci := 0) (v := .long y) (C := RX0) (T := TX0) (N := 7) hx hb hts usX0 hown hK hP 0 rfl rfl 1 (by decide) (hts _ fl_X0_51) (fun _ h9 => h9) rfl d_X0_make_10 ?_
  refine lv_lload_n hx hb d_X0_make_13 rfl (lv_at hl 0 rfl) ?_
  refine vp_callSl (W.runS (As := [.long x, .long y, .long (td_on q)]) (rest := []) ⟨hx, hb, hml, hown, hts⟩ (m_X0_turnedBy l x y (td_on q)) (va_cwS 3 hts (tw_S ml_X0_67 st_X0_turnedBy in_X0 kw_X0_turnedBy) rfl rfl rfl (by decide +kernel) ⟨Nat.le_of_ble_eq_true rfl, Nat.le_of_ble_eq_true rfl⟩) ⟨fun _ _ _ _ q => q, fun U hU hW => ⟨rfl, trivial⟩⟩ rfl rfl hl.1 rfl (lv_room (Nat.le_of_ble_eq_true rfl)) d_X0_make_14 ⟨Nat.le_refl _, Nat.le_refl _⟩) (fun r hq => ?_)
  subst hq
  refine lv_lstore hx hb d_X0_make_17 hl (by decide) rfl (fun ls hl => ?_)
  have hl : lv_has ls 8 [(4, .long (td_turned x y (td_on q))), (2, .long (td_on q)), (0, .ref o), (1, .int q)] := hl
  refine lv_aload_n hx hb d_X0_make_19 rfl (lv_at hl 2 rfl) ?_
  refine va_get (D := D) (ci := 0) (v := .ref a1) (C := RX0) (T := TX0) (N := 7) hx hb hts usX0 hown hK hP 0 rfl rfl 4 (by decide) (hts _ fl_X0_9) (fun _ h9 => h9) rfl d_X0_make_20 ?_
  refine lv_aload_n hx hb d_X0_make_23 rfl (lv_at hl 2 rfl) ?_
  refine va_get (D := D) (ci := 0) (v := .int (nI k)) (C := RX0) (T := TX0) (N := 7) hx hb hts usX0 hown hK hP 0 rfl rfl 3 (by decide) (hts _ fl_X0_81) (fun _ h9 => h9) rfl d_X0_make_24 ?_
  refine lv_iload_n hx hb d_X0_make_27 rfl (lv_at hl 3 rfl) ?_
  refine va_iast hx hb hK hP hD hS 1 0 rfl rfl (vp_in_nI hk (by decide)) d_X0_make_28 (fun H locs hP hD hS => ?_)
  have hu : upd sq (nI k).toNatClampNeg q = (upd sq k q) := by rw [hcl]
  have hP : va_P D tdC [(o, .inr (0, [.long x, .long y, .int pl, .int (nI k), .ref a1, .ref a2, v6])), (a1, .inl (cI, 64, .inl (upd sq (nI k).toNatClampNeg q))), (a2, .inl (cJ, 64, .inr (.inl tu)))] H := hP
  have hD : va_D A [(o, .inr (0, [.long x, .long y, .int pl, .int (nI k), .ref a1, .ref a2, v6])), (a1, .inl (cI, 64, .inl (upd sq (nI k).toNatClampNeg q))), (a2, .inl (cJ, 64, .inr (.inl tu)))] := hD
  rw [hu] at hP hD
  clear hu
  have hP : va_P D tdC [(o, .inr (0, [.long x, .long y, .int pl, .int (nI k), .ref a1, .ref a2, v6])), (a1, .inl (cI, 64, .inl (upd sq k q))), (a2, .inl (cJ, 64, .inr (.inl tu)))] H := hP
  have hD : va_D A [(o, .inr (0, [.long x, .long y, .int pl, .int (nI k), .ref a1, .ref a2, v6])), (a1, .inl (cI, 64, .inl (upd sq k q))), (a2, .inl (cJ, 64, .inr (.inl tu)))] := hD
  refine lv_aload_n hx hb d_X0_make_29 rfl (lv_at hl 2 rfl) ?_
  refine va_get (D := D) (ci := 0) (v := .ref a2) (C := RX0) (T := TX0) (N := 7) hx hb hts usX0 hown hK hP 0 rfl rfl 5 (by decide) (hts _ fl_X0_13) (fun _ h9 => h9) rfl d_X0_make_30 ?_
  refine lv_aload_n hx hb d_X0_make_33 rfl (lv_at hl 2 rfl) ?_
  refine va_get (D := D) (ci := 0) (v := .int (nI k)) (C := RX0) (T := TX0) (N := 7) hx hb hts usX0 hown hK hP 0 rfl rfl 3 (by decide) (hts _ fl_X0_81) (fun _ h9 => h9) rfl d_X0_make_34 ?_
  refine lv_lload hx hb d_X0_make_37 (lv_at hl 0 rfl) ?_
  refine va_last hx hb hK hP hD hS 2 1 rfl rfl (vp_in_nI hk (by decide)) d_X0_make_39 (fun H locs hP hD hS => ?_)
  have hu : vp_updL tu (nI k).toNatClampNeg (td_turned x y (td_on q)) = (vp_updL tu k (td_turned x y (td_on q))) := by rw [hcl]
  have hP : va_P D tdC [(o, .inr (0, [.long x, .long y, .int pl, .int (nI k), .ref a1, .ref a2, v6])), (a1, .inl (cI, 64, .inl (upd sq k q))), (a2, .inl (cJ, 64, .inr (.inl (vp_updL tu (nI k).toNatClampNeg (td_turned x y (td_on q))))))] H := hP
  have hD : va_D A [(o, .inr (0, [.long x, .long y, .int pl, .int (nI k), .ref a1, .ref a2, v6])), (a1, .inl (cI, 64, .inl (upd sq k q))), (a2, .inl (cJ, 64, .inr (.inl (vp_updL tu (nI k).toNatClampNeg (td_turned x y (td_on q))))))] := hD
  rw [hu] at hP hD
  clear hu
  have hP : va_P D tdC [(o, .inr (0, [.long x, .long y, .int pl, .int (nI k), .ref a1, .ref a2, v6])), (a1, .inl (cI, 64, .inl (upd sq k q))), (a2, .inl (cJ, 64, .inr (.inl (vp_updL tu k (td_turned x y (td_on q))))))] H := hP
  have hD : va_D A [(o, .inr (0, [.long x, .long y, .int pl, .int (nI k), .ref a1, .ref a2, v6])), (a1, .inl (cI, 64, .inl (upd sq k q))), (a2, .inl (cJ, 64, .inr (.inl (vp_updL tu k (td_turned x y (td_on q))))))] := hD
  refine lv_aload_n hx hb d_X0_make_40 rfl (lv_at hl 2 rfl) ?_
  refine lv_dup hx hb d_X0_make_41 rfl ?_
  refine va_get (D := D) (ci := 0) (v := .int (nI k)) (C := RX0) (T := TX0) (N := 7) hx hb hts usX0 hown hK hP 0 rfl rfl 3 (by decide) (hts _ fl_X0_81) (fun _ h9 => h9) rfl d_X0_make_42 ?_
  refine lv_iconst (v := 1) hx hb d_X0_make_45 (by decide) ?_
  refine lv_iadd hx hb d_X0_make_46 ?_
  refine td_i (y := (nI (k + 1))) ((nI_succ k).symm) ?_
  refine va_put (D := D) (ci := 0) (v := .int (nI (k + 1))) (ty := .int) (C := RX0) (T := TX0) (N := 7) hx hb hts usX0 tyX0 tyX0_ok nmX0 hown hK hP hD hS 0 rfl rfl 3 (by decide) (hts _ fl_X0_81) (fun _ h9 => h9) rfl (by decide +kernel) rfl rfl (Nat.le_of_ble_eq_true rfl) d_X0_make_47 (fun H locs hP hD hS => ?_)
  have hP : va_P D tdC [(o, .inr (0, [.long x, .long y, .int pl, .int (nI (k + 1)), .ref a1, .ref a2, v6])), (a1, .inl (cI, 64, .inl (upd sq k q))), (a2, .inl (cJ, 64, .inr (.inl (vp_updL tu k (td_turned x y (td_on q))))))] H := hP
  have hD : va_D A [(o, .inr (0, [.long x, .long y, .int pl, .int (nI (k + 1)), .ref a1, .ref a2, v6])), (a1, .inl (cI, 64, .inl (upd sq k q))), (a2, .inl (cJ, 64, .inr (.inl (vp_updL tu k (td_turned x y (td_on q))))))] := hD
  refine lv_aload_n hx hb d_X0_make_50 rfl (lv_at hl 2 rfl) ?_
  refine va_get (D := D) (ci := 0) (v := .long y) (C := RX0) (T := TX0) (N := 7) hx hb hts usX0 hown hK hP 0 rfl rfl 1 (by decide) (hts _ fl_X0_51) (fun _ h9 => h9) rfl d_X0_make_51 ?_
  refine lv_lload hx hb d_X0_make_54 (lv_at hl 0 rfl) ?_
  refine lv_lxor hx hb d_X0_make_56 ?_
  refine lv_lstore hx hb d_X0_make_57 hl (by decide) rfl (fun ls hl => ?_)
  have hl : lv_has ls 8 [(6, .long (y ^^^ (td_turned x y (td_on q)))), (4, .long (td_turned x y (td_on q))), (2, .long (td_on q)), (0, .ref o), (1, .int q)] := hl
  refine lv_aload_n hx hb d_X0_make_59 rfl (lv_at hl 3 rfl) ?_
  refine lv_aload_n hx hb d_X0_make_60 rfl (lv_at hl 3 rfl) ?_
  refine va_get (D := D) (ci := 0) (v := .long x) (C := RX0) (T := TX0) (N := 7) hx hb hts usX0 hown hK hP 0 rfl rfl 0 (by decide) (hts _ fl_X0_47) (fun _ h9 => h9) rfl d_X0_make_61 ?_
  refine lv_lload_n hx hb d_X0_make_64 rfl (lv_at hl 2 rfl) ?_
  refine lv_lor hx hb d_X0_make_65 ?_
  refine lv_lload hx hb d_X0_make_66 (lv_at hl 1 rfl) ?_
  refine lv_lor hx hb d_X0_make_68 ?_
  refine va_put (D := D) (ci := 0) (v := .long ((x ||| (td_on q)) ||| (td_turned x y (td_on q)))) (ty := .long) (C := RX0) (T := TX0) (N := 7) hx hb hts usX0 tyX0 tyX0_ok nmX0 hown hK hP hD hS 0 rfl rfl 1 (by decide) (hts _ fl_X0_51) (fun _ h9 => h9) rfl (by decide +kernel) rfl rfl (Nat.le_of_ble_eq_true rfl) d_X0_make_69 (fun H locs hP hD hS => ?_)
  have hP : va_P D tdC [(o, .inr (0, [.long x, .long ((x ||| (td_on q)) ||| (td_turned x y (td_on q))), .int pl, .int (nI (k + 1)), .ref a1, .ref a2, v6])), (a1, .inl (cI, 64, .inl (upd sq k q))), (a2, .inl (cJ, 64, .inr (.inl (vp_updL tu k (td_turned x y (td_on q))))))] H := hP
  have hD : va_D A [(o, .inr (0, [.long x, .long ((x ||| (td_on q)) ||| (td_turned x y (td_on q))), .int pl, .int (nI (k + 1)), .ref a1, .ref a2, v6])), (a1, .inl (cI, 64, .inl (upd sq k q))), (a2, .inl (cJ, 64, .inr (.inl (vp_updL tu k (td_turned x y (td_on q))))))] := hD
  refine lv_aload_n hx hb d_X0_make_72 rfl (lv_at hl 3 rfl) ?_
  refine lv_lload hx hb d_X0_make_73 (lv_at hl 0 rfl) ?_
  refine va_put (D := D) (ci := 0) (v := .long (y ^^^ (td_turned x y (td_on q)))) (ty := .long) (C := RX0) (T := TX0) (N := 7) hx hb hts usX0 tyX0 tyX0_ok nmX0 hown hK hP hD hS 0 rfl rfl 0 (by decide) (hts _ fl_X0_47) (fun _ h9 => h9) rfl (by decide +kernel) rfl rfl (Nat.le_of_ble_eq_true rfl) d_X0_make_75 (fun H locs hP hD hS => ?_)
  have hP : va_P D tdC [(o, .inr (0, [.long (y ^^^ (td_turned x y (td_on q))), .long ((x ||| (td_on q)) ||| (td_turned x y (td_on q))), .int pl, .int (nI (k + 1)), .ref a1, .ref a2, v6])), (a1, .inl (cI, 64, .inl (upd sq k q))), (a2, .inl (cJ, 64, .inr (.inl (vp_updL tu k (td_turned x y (td_on q))))))] H := hP
  have hD : va_D A [(o, .inr (0, [.long (y ^^^ (td_turned x y (td_on q))), .long ((x ||| (td_on q)) ||| (td_turned x y (td_on q))), .int pl, .int (nI (k + 1)), .ref a1, .ref a2, v6])), (a1, .inl (cI, 64, .inl (upd sq k q))), (a2, .inl (cJ, 64, .inr (.inl (vp_updL tu k (td_turned x y (td_on q))))))] := hD
  refine lv_aload_n hx hb d_X0_make_78 rfl (lv_at hl 3 rfl) ?_
  refine lv_iconst (v := 1) hx hb d_X0_make_79 (by decide) ?_
  refine lv_aload_n hx hb d_X0_make_80 rfl (lv_at hl 3 rfl) ?_
  refine va_get (D := D) (ci := 0) (v := .int pl) (C := RX0) (T := TX0) (N := 7) hx hb hts usX0 hown hK hP 0 rfl rfl 2 (by decide) (hts _ fl_X0_43) (fun _ h9 => h9) rfl d_X0_make_81 ?_
  refine lv_isub hx hb d_X0_make_84 ?_
  refine va_put (D := D) (ci := 0) (v := .int (1 - pl)) (ty := .int) (C := RX0) (T := TX0) (N := 7) hx hb hts usX0 tyX0 tyX0_ok nmX0 hown hK hP hD hS 0 rfl rfl 2 (by decide) (hts _ fl_X0_43) (fun _ h9 => h9) rfl (by decide +kernel) rfl rfl (Nat.le_of_ble_eq_true rfl) d_X0_make_85 (fun H locs hP hD hS => ?_)
  have hP : va_P D tdC [(o, .inr (0, [.long (y ^^^ (td_turned x y (td_on q))), .long ((x ||| (td_on q)) ||| (td_turned x y (td_on q))), .int (1 - pl), .int (nI (k + 1)), .ref a1, .ref a2, v6])), (a1, .inl (cI, 64, .inl (upd sq k q))), (a2, .inl (cJ, 64, .inr (.inl (vp_updL tu k (td_turned x y (td_on q))))))] H := hP
  have hD : va_D A [(o, .inr (0, [.long (y ^^^ (td_turned x y (td_on q))), .long ((x ||| (td_on q)) ||| (td_turned x y (td_on q))), .int (1 - pl), .int (nI (k + 1)), .ref a1, .ref a2, v6])), (a1, .inl (cI, 64, .inl (upd sq k q))), (a2, .inl (cJ, 64, .inr (.inl (vp_updL tu k (td_turned x y (td_on q))))))] := hD
  refine lv_lload hx hb d_X0_make_88 (lv_at hl 1 rfl) ?_
  refine vp_callSi (W.runS (As := [.long (td_turned x y (td_on q))]) (rest := []) ⟨hx, hb, hml, hown, hts⟩ (m_JL_bitCount l (td_turned x y (td_on q))) (va_cwS 1 hts (tw_S ml_X0_128 st_JL_bitCount in_JL kw_JL_bitCount) rfl rfl rfl (by decide +kernel) ⟨Nat.le_of_ble_eq_true rfl, Nat.le_of_ble_eq_true rfl⟩) ⟨fun _ _ _ _ q => q, fun U hU hW => ⟨rfl, trivial⟩⟩ rfl rfl hl.1 rfl (lv_room (Nat.le_of_ble_eq_true rfl)) d_X0_make_90 ⟨Nat.le_refl _, Nat.le_refl _⟩) (fun r hq => ?_)
  subst hq
  exact W.iret (v := (td_pop (td_turned x y (td_on q)))) hx hb hr (fun t ht hW => ⟨⟨_, (), rfl, rfl, by rw [ht]; exact hP, va_K.moved hW.alike hK, hD⟩, hS.F ht⟩) hS.2.2 d_X0_make_93
end
section
/-! the class's recursions, word for word -/
def td_popN (x : Int64) : Nat := (td_pop x).toNatClampNeg
theorem td_pop_n (x : Int64) : td_pop x = nI (td_popN x) ∧ td_popN x < 128 := by
  have h : ∃ j : Nat, j < 2 ^ 7 ∧ td_pop x = nI j := by
    unfold td_pop
    exact pk_andE _ 7 (by decide)
  obtain ⟨j, hj, e⟩ := h
  have h1 : td_popN x = j := by unfold td_popN; rw [e]; exact nI_clamp (by omega)
  rw [h1]
  exact ⟨e, by omega⟩
def td_low (x : Int64) : Int64 := x &&& (-x)
def td_fold {σ : Type} (g : Int64 → σ → σ) : Nat → Int64 → σ → σ
  | 0, _, a => a
  | n + 1, left, a => td_fold g n (left ^^^ td_low left) (g (td_low left) a)
def td_rows : Nat → Int64 → Int64 → Int64
  | 0, _, _ => 1
  | n + 1, a, b => if td_moves a b = 0 then (if td_moves b a = 0 then 1 else td_rows n b a) else if n = 0 then (td_pop (td_moves a b)).toInt64 else
    td_fold (fun d acc => acc + td_rows n (b ^^^ td_turned a b d) ((a ||| d) ||| td_turned a b d)) (td_popN (td_moves a b)) (td_moves a b) 0
theorem td_rows_s (n : Nat) (a b : Int64) : td_rows (n + 1) a b = if td_moves a b = 0 then (if td_moves b a = 0 then 1 else td_rows n b a) else if n = 0 then (td_pop (td_moves a b)).toInt64 else
    td_fold (fun d acc => acc + td_rows n (b ^^^ td_turned a b d) ((a ||| d) ||| td_turned a b d)) (td_popN (td_moves a b)) (td_moves a b) 0 := rfl
def td_wloop (g : Int64 → Int32 → Int32) (lo hi : Int32) : Nat → Int64 → Int32 → Int32
  | 0, _, most => most
  | n + 1, left, most => if most < hi then td_wloop g lo hi n (left ^^^ td_low left) (td_max most (g (td_low left) (td_max lo most))) else most
def td_worth : Nat → Int64 → Int64 → Int32 → Int32 → Int32
  | 0, a, b, _, _ => td_lead a b
  | d + 1, a, b, lo, hi => if td_moves a b = 0 then (if td_moves b a = 0 then td_lead a b else -(td_worth d b a (-hi) (-lo))) else
    td_wloop (fun q lw => -(td_worth d (b ^^^ td_turned a b q) ((a ||| q) ||| td_turned a b q) (-hi) (-lw))) lo hi (td_popN (td_moves a b)) (td_moves a b) (-65)
theorem td_worth_s (d : Nat) (a b : Int64) (lo hi : Int32) : td_worth (d + 1) a b lo hi = if td_moves a b = 0 then (if td_moves b a = 0 then td_lead a b else -(td_worth d b a (-hi) (-lo))) else
    td_wloop (fun q lw => -(td_worth d (b ^^^ td_turned a b q) ((a ||| q) ||| td_turned a b q) (-hi) (-lw))) lo hi (td_popN (td_moves a b)) (td_moves a b) (-65) := rfl
def td_bloop (g : Int64 → Int32 → Int32) : Nat → Int64 → Int64 → Int32 → Int64
  | 0, _, ch, _ => ch
  | n + 1, left, ch, most => if most < g (td_low left) most then td_bloop g n (left ^^^ td_low left) (td_low left) (g (td_low left) most) else td_bloop g n (left ^^^ td_low left) ch most
def td_best (a b : Int64) : Int32 := if td_moves a b = 0 then (if td_moves b a = 0 then 65 else 64) else
    td_pop (td_bloop (fun q lw => -(td_worth 13 (b ^^^ td_turned a b q) ((a ||| q) ||| td_turned a b q) (-65) (-lw))) (td_popN (td_moves a b)) (td_moves a b) 0 (-65) - 1)
set_option maxHeartbeats 4000000 in
set_option maxRecDepth 100000 in
theorem m_X0_rowsFrom (l : Launch) : ∀ n : Nat, n ≤ 4 → ∀ a b : Int64, Met l y_X0_rowsFrom (k_X0_rowsFrom :: tw) ({ frames := 3 + n, cells := 0, slots := 0, locals := 85 + 34 * n }) (va_Pc [.long a, .long b, .int (nI n)] (fun _ => True)) (vp_Sl (fun r => r = td_rows n a b)) 0 0 (fun _ => False) := by
  intro n
  induction n with
  | zero =>
    intro hn a b
    refine Met.ofW (cc := c_X0_rowsFrom) (maxL := 15) (ret := (some .long)) (by decide) rfl ?_
    intro p e s m args below meth c s₁ B hml hv
    obtain ⟨rfl, hv⟩ := hv
    have hx := B.exec
    have hb := B.bytes
    have hr := B.returns
    have hts : ∀ w ∈ tw, w.before _ s = true := fun w h => atoms_spec (ws := k_X0_rowsFrom :: tw) B.pre w (List.mem_cons_of_mem _ h)
    have hown : s.vm.findClass RX0 = some m.cls := findClass_of_methodNamed B.named
    have hlocks := B.notSynchronized
    have hl := lv_entry ([.long a, .long b, .int (nI 0)]) (n := 15) (Nat.le_of_ble_eq_true rfl)
    rw [lg_entry_eq]
    generalize (lg_sl ([.long a, .long b, .int (nI 0)]) ++ List.replicate (15 - (lg_sl ([.long a, .long b, .int (nI 0)])).length) Slot.unset).toArray = ls at hl ⊢
    have hl : lv_has ls 15 [(0, .long a), (2, .long b), (4, .int (nI 0))] := hl
    refine lv_iload hx hb d_X0_rowsFrom_0 (lv_at hl 2 rfl) ?_
    refine lv_if_gt (tgt := 7) hx hb d_X0_rowsFrom_2 (by decide) (fun hc => ?_) (fun hc => ?_)
    · exact absurd hc (by decide)
    · refine lv_lconst (v := 1) hx hb d_X0_rowsFrom_5 (by decide) ?_
      exact W.lret (v := 1) hx hb hr (fun t ht hW => ⟨_, rfl, rfl, ht⟩) (fun _ h => nomatch h) d_X0_rowsFrom_6
  | succ n ih =>
    intro hn a b
    refine Met.ofW (cc := c_X0_rowsFrom) (maxL := 15) (ret := (some .long)) (by decide) rfl ?_
    intro p e s m args below meth c s₁ B hml hv
    obtain ⟨rfl, hv⟩ := hv
    have hx := B.exec
    have hb := B.bytes
    have hr := B.returns
    have hts : ∀ w ∈ tw, w.before _ s = true := fun w h => atoms_spec (ws := k_X0_rowsFrom :: tw) B.pre w (List.mem_cons_of_mem _ h)
    have hown : s.vm.findClass RX0 = some m.cls := findClass_of_methodNamed B.named
    have hlocks := B.notSynchronized
    have hl := lv_entry ([.long a, .long b, .int (nI (n + 1))]) (n := 15) (Nat.le_of_ble_eq_true rfl)
    rw [lg_entry_eq]
    generalize (lg_sl ([.long a, .long b, .int (nI (n + 1))]) ++ List.replicate (15 - (lg_sl ([.long a, .long b, .int (nI (n + 1))])).length) Slot.unset).toArray = ls at hl ⊢
    have hl : lv_has ls 15 [(0, .long a), (2, .long b), (4, .int (nI (n + 1)))] := hl
    refine lv_iload hx hb d_X0_rowsFrom_0 (lv_at hl 2 rfl) ?_
    refine lv_if_gt (tgt := 7) hx hb d_X0_rowsFrom_2 (by decide) (fun hc => ?_) (fun hc => ?_)
    · refine lv_lload_n hx hb d_X0_rowsFrom_7 rfl (lv_at hl 0 rfl) ?_
      refine lv_lload_n hx hb d_X0_rowsFrom_8 rfl (lv_at hl 1 rfl) ?_
      refine vp_callSl (W.runS (As := [.long a, .long b]) (rest := []) ⟨hx, hb, hml, hown, hts⟩ (m_X0_movesOf l a b) (va_cwS 2 hts (tw_S ml_X0_54 st_X0_movesOf in_X0 kw_X0_movesOf) rfl rfl rfl (by decide +kernel) ⟨by show 2 + 1 ≤ 3 + (n + 1); omega, by show 8 + (8 + 11) + 50 ≤ 85 + 34 * (n + 1); omega⟩) ⟨fun _ _ _ _ q => q, fun U hU hW => ⟨rfl, trivial⟩⟩ rfl rfl hl.1 rfl (lv_room (Nat.le_of_ble_eq_true rfl)) d_X0_rowsFrom_9 ⟨Nat.le_refl _, Nat.le_refl _⟩) (fun r hq => ?_)
      subst hq
      refine lv_lstore hx hb d_X0_rowsFrom_12 hl (by decide) rfl (fun ls hl => ?_)
      have hl : lv_has ls 15 [(5, .long (td_moves a b)), (0, .long a), (2, .long b), (4, .int (nI (n + 1)))] := hl
      refine lv_lload hx hb d_X0_rowsFrom_14 (lv_at hl 0 rfl) ?_
      refine lv_lconst (v := 0) hx hb d_X0_rowsFrom_16 (by decide) ?_
      refine td_lne (tgt := 45) hx hb d_X0_rowsFrom_17 d_X0_rowsFrom_18 (by decide) (fun h1 => ?_) (fun h1 => ?_)
      · refine lv_lload hx hb d_X0_rowsFrom_45 (lv_at hl 0 rfl) ?_
        refine vp_callSi (W.runS (As := [.long (td_moves a b)]) (rest := []) ⟨hx, hb, hml, hown, hts⟩ (m_JL_bitCount l (td_moves a b)) (va_cwS 1 hts (tw_S ml_X0_128 st_JL_bitCount in_JL kw_JL_bitCount) rfl rfl rfl (by decide +kernel) ⟨by show 0 + 1 ≤ 3 + (n + 1); omega, by show 8 + (2 + 11) + 0 ≤ 85 + 34 * (n + 1); omega⟩) ⟨fun _ _ _ _ q => q, fun U hU hW => ⟨rfl, trivial⟩⟩ rfl rfl hl.1 rfl (lv_room (Nat.le_of_ble_eq_true rfl)) d_X0_rowsFrom_47 ⟨Nat.le_refl _, Nat.le_refl _⟩) (fun r hq => ?_)
        subst hq
        refine lv_istore hx hb d_X0_rowsFrom_50 hl (by decide) rfl (fun ls hl => ?_)
        have hl : lv_has ls 15 [(7, .int (td_pop (td_moves a b))), (5, .long (td_moves a b)), (0, .long a), (2, .long b), (4, .int (nI (n + 1)))] := hl
        refine lv_iload hx hb d_X0_rowsFrom_52 (lv_at hl 4 rfl) ?_
        refine lv_iconst (v := 1) hx hb d_X0_rowsFrom_54 (by decide) ?_
        refine lv_icmp_ne (tgt := 62) hx hb d_X0_rowsFrom_55 (by decide) (fun h3 => ?_) (fun h3 => ?_)
        · have hn0 : ¬ n = 0 := fun z => h3 (by rw [z]; rfl)
          obtain ⟨hpe, hpl⟩ := td_pop_n (td_moves a b)
          rw [hpe] at hl
          have hl : lv_has ls 15 [(7, .int (nI (td_popN (td_moves a b)))), (5, .long (td_moves a b)), (0, .long a), (2, .long b), (4, .int (nI (n + 1)))] := hl
          refine lv_lconst (v := 0) hx hb d_X0_rowsFrom_62 (by decide) ?_
          refine lv_lstore hx hb d_X0_rowsFrom_63 hl (by decide) rfl (fun ls hl => ?_)
          have hl : lv_has ls 15 [(8, .long 0), (7, .int (nI (td_popN (td_moves a b)))), (5, .long (td_moves a b)), (0, .long a), (2, .long b), (4, .int (nI (n + 1)))] := hl
          refine lv_iconst (v := 0) hx hb d_X0_rowsFrom_65 (by decide) ?_
          refine lv_istore hx hb d_X0_rowsFrom_66 hl (by decide) rfl (fun ls hl => ?_)
          have hl : lv_has ls 15 [(10, .int 0), (8, .long 0), (7, .int (nI (td_popN (td_moves a b)))), (5, .long (td_moves a b)), (0, .long a), (2, .long b), (4, .int (nI (n + 1)))] := hl
          generalize hN : td_popN (td_moves a b) = N at hl hpl hpe
          have hl : lv_has ls 15 [(10, .int 0), (8, .long 0), (7, .int (nI N)), (5, .long (td_moves a b)), (0, .long a), (2, .long b), (4, .int (nI (n + 1)))] := hl
          have hres : td_fold (fun d acc => acc + td_rows n (b ^^^ td_turned a b d) ((a ||| d) ||| td_turned a b d)) (N - 0) (td_moves a b) 0 = td_rows (n + 1) a b := by
            rw [Nat.sub_zero, ← hN]; rw [td_rows_s]
            rw [if_neg h1, if_neg hn0]
          have hl0 := lv_sub hl [4, 5, 6, 3, 2, 1, 0] rfl
          refine td_loop 68 [] (fun z : Nat × Int64 × Int64 => N - z.1) (fun z ls => (z.1 ≤ N ∧ td_fold (fun d acc => acc + td_rows n (b ^^^ td_turned a b d) ((a ||| d) ||| td_turned a b d)) (N - z.1) z.2.1 z.2.2 = td_rows (n + 1) a b) ∧ lv_has ls 15 [(0, .long a), (2, .long b), (4, .int (nI (n + 1))), (5, .long (z.2.1)), (7, .int (nI N)), (8, .long (z.2.2)), (10, .int (nI z.1))]) (fun z ls hC ih' => ?_) (0, td_moves a b, 0) ⟨⟨Nat.zero_le _, hres⟩, hl0⟩
          clear hl hl0
          obtain ⟨hi, hl⟩ := hC
          have hl : lv_has ls 15 [(0, .long a), (2, .long b), (4, .int (nI (n + 1))), (5, .long (z.2.1)), (7, .int (nI N)), (8, .long (z.2.2)), (10, .int (nI z.1))] := hl
          obtain ⟨i, left, acc⟩ := z
          obtain ⟨hi, hacc⟩ := hi
          have hl : lv_has ls 15 [(0, .long a), (2, .long b), (4, .int (nI (n + 1))), (5, .long left), (7, .int (nI N)), (8, .long acc), (10, .int (nI i))] := hl
          dsimp only at hi hacc
          refine lv_iload hx hb d_X0_rowsFrom_68 (lv_at hl 6 rfl) ?_
          refine lv_iload hx hb d_X0_rowsFrom_70 (lv_at hl 4 rfl) ?_
          refine lv_icmp_ge (tgt := 128) hx hb d_X0_rowsFrom_72 (by decide) (fun h4 => ?_) (fun h4 => ?_)
          · have hiN : i = N := Nat.le_antisymm hi ((nI_leI (by omega) (by omega)).mp h4)
            rw [hiN, Nat.sub_self] at hacc
            refine lv_lload hx hb d_X0_rowsFrom_128 (lv_at hl 5 rfl) ?_
            exact W.lret (v := acc) hx hb hr (fun t ht hW => ⟨_, rfl, hacc, ht⟩) (fun _ h => nomatch h) d_X0_rowsFrom_130
          · have hiN : i < N := Nat.lt_of_not_le (fun y => h4 ((nI_leI (by omega) (by omega)).mpr y))
            refine lv_lload hx hb d_X0_rowsFrom_75 (lv_at hl 3 rfl) ?_
            refine lv_lload hx hb d_X0_rowsFrom_77 (lv_at hl 3 rfl) ?_
            refine lv_lneg hx hb d_X0_rowsFrom_79 ?_
            refine lv_land hx hb d_X0_rowsFrom_80 ?_
            refine td_l (y := (td_low left)) (rfl) ?_
            refine lv_lstore hx hb d_X0_rowsFrom_81 hl (by decide) rfl (fun ls hl => ?_)
            have hl : lv_has ls 15 [(11, .long (td_low left)), (0, .long a), (2, .long b), (4, .int (nI (n + 1))), (5, .long left), (7, .int (nI N)), (8, .long acc), (10, .int (nI i))] := hl
            refine lv_lload hx hb d_X0_rowsFrom_83 (lv_at hl 4 rfl) ?_
            refine lv_lload hx hb d_X0_rowsFrom_85 (lv_at hl 0 rfl) ?_
            refine lv_lxor hx hb d_X0_rowsFrom_87 ?_
            refine lv_lstore hx hb d_X0_rowsFrom_88 hl (by decide) rfl (fun ls hl => ?_)
            have hl : lv_has ls 15 [(5, .long (left ^^^ (td_low left))), (11, .long (td_low left)), (0, .long a), (2, .long b), (4, .int (nI (n + 1))), (7, .int (nI N)), (8, .long acc), (10, .int (nI i))] := hl
            refine lv_lload_n hx hb d_X0_rowsFrom_90 rfl (lv_at hl 2 rfl) ?_
            refine lv_lload_n hx hb d_X0_rowsFrom_91 rfl (lv_at hl 3 rfl) ?_
            refine lv_lload hx hb d_X0_rowsFrom_92 (lv_at hl 1 rfl) ?_
            refine vp_callSl (W.runS (As := [.long a, .long b, .long (td_low left)]) (rest := []) ⟨hx, hb, hml, hown, hts⟩ (m_X0_turnedBy l a b (td_low left)) (va_cwS 3 hts (tw_S ml_X0_67 st_X0_turnedBy in_X0 kw_X0_turnedBy) rfl rfl rfl (by decide +kernel) ⟨by show 2 + 1 ≤ 3 + (n + 1); omega, by show 8 + (8 + 11) + 58 ≤ 85 + 34 * (n + 1); omega⟩) ⟨fun _ _ _ _ q => q, fun U hU hW => ⟨rfl, trivial⟩⟩ rfl rfl hl.1 rfl (lv_room (Nat.le_of_ble_eq_true rfl)) d_X0_rowsFrom_94 ⟨Nat.le_refl _, Nat.le_refl _⟩) (fun r hq => ?_)
            subst hq
            refine lv_lstore hx hb d_X0_rowsFrom_97 hl (by decide) rfl (fun ls hl => ?_)
            have hl : lv_has ls 15 [(13, .long (td_turned a b (td_low left))), (5, .long (left ^^^ (td_low left))), (11, .long (td_low left)), (0, .long a), (2, .long b), (4, .int (nI (n + 1))), (7, .int (nI N)), (8, .long acc), (10, .int (nI i))] := hl
            refine lv_lload hx hb d_X0_rowsFrom_99 (lv_at hl 7 rfl) ?_
            refine lv_lload_n hx hb d_X0_rowsFrom_101 rfl (lv_at hl 4 rfl) ?_
            refine lv_lload hx hb d_X0_rowsFrom_102 (lv_at hl 0 rfl) ?_
            refine lv_lxor hx hb d_X0_rowsFrom_104 ?_
            refine lv_lload_n hx hb d_X0_rowsFrom_105 rfl (lv_at hl 3 rfl) ?_
            refine lv_lload hx hb d_X0_rowsFrom_106 (lv_at hl 2 rfl) ?_
            refine lv_lor hx hb d_X0_rowsFrom_108 ?_
            refine lv_lload hx hb d_X0_rowsFrom_109 (lv_at hl 0 rfl) ?_
            refine lv_lor hx hb d_X0_rowsFrom_111 ?_
            refine lv_iload hx hb d_X0_rowsFrom_112 (lv_at hl 5 rfl) ?_
            refine lv_iconst (v := 1) hx hb d_X0_rowsFrom_114 (by decide) ?_
            refine lv_isub hx hb d_X0_rowsFrom_115 ?_
            refine td_i (y := (nI n)) (nI_pred n) ?_
            refine vp_callSl (W.runS (As := [.long (b ^^^ (td_turned a b (td_low left))), .long ((a ||| (td_low left)) ||| (td_turned a b (td_low left))), .int (nI n)]) (rest := [.long acc]) ⟨hx, hb, hml, hown, hts⟩ (ih (by omega) _ _) (va_cwS 3 hts (tw_S ml_X0_104 st_X0_rowsFrom in_X0 kw_X0_rowsFrom) rfl rfl rfl (by decide +kernel) ⟨by show 3 + n + 1 ≤ 3 + (n + 1); omega, by show 8 + (15 + 11) + (85 + 34 * n) ≤ 85 + 34 * (n + 1); omega⟩) ⟨fun _ _ _ _ q => q, fun U hU hW => ⟨rfl, trivial⟩⟩ rfl rfl hl.1 rfl (lv_room (Nat.le_of_ble_eq_true rfl)) d_X0_rowsFrom_116 ⟨Nat.le_refl _, Nat.le_refl _⟩) (fun r hq => ?_)
            subst hq
            refine lv_ladd hx hb d_X0_rowsFrom_119 ?_
            refine lv_lstore hx hb d_X0_rowsFrom_120 hl (by decide) rfl (fun ls hl => ?_)
            have hl : lv_has ls 15 [(8, .long (acc + (td_rows n (b ^^^ td_turned a b (td_low left)) ((a ||| td_low left) ||| td_turned a b (td_low left))))), (13, .long (td_turned a b (td_low left))), (5, .long (left ^^^ (td_low left))), (11, .long (td_low left)), (0, .long a), (2, .long b), (4, .int (nI (n + 1))), (7, .int (nI N)), (10, .int (nI i))] := hl
            refine lv_iinc (k := 8) (v := (nI (i + 1))) hx hb d_X0_rowsFrom_122 hl rfl ((nI_succ i).symm) (by decide) rfl (fun ls hl => ?_)
            have hl : lv_has ls 15 [(10, .int (nI (i + 1))), (8, .long (acc + (td_rows n (b ^^^ td_turned a b (td_low left)) ((a ||| td_low left) ||| td_turned a b (td_low left))))), (13, .long (td_turned a b (td_low left))), (5, .long (left ^^^ (td_low left))), (11, .long (td_low left)), (0, .long a), (2, .long b), (4, .int (nI (n + 1))), (7, .int (nI N))] := hl
            refine lv_goto (tgt := 68) hx hb d_X0_rowsFrom_125 (by decide) ?_
            have hl1 := lv_sub hl [5, 6, 7, 3, 8, 1, 0] rfl
            have hst : N - i = (N - (i + 1)) + 1 := by omega
            rw [hst] at hacc
            exact ih' (i + 1, left ^^^ td_low left, (acc + (td_rows n (b ^^^ td_turned a b (td_low left)) ((a ||| td_low left) ||| td_turned a b (td_low left))))) _ (by show N - (i + 1) < N - i; omega) ⟨⟨hiN, hacc⟩, hl1⟩
        · have hn0 : n = 0 := by have := (nI_eq (a := n + 1) (b := 1) (by omega) (by omega)).mp h3; omega
          refine lv_iload hx hb d_X0_rowsFrom_58 (lv_at hl 0 rfl) ?_
          refine lv_i2l (v := ((td_pop (td_moves a b)).toInt64)) hx hb d_X0_rowsFrom_60 rfl ?_
          exact W.lret (v := ((td_pop (td_moves a b)).toInt64)) hx hb hr (fun t ht hW => ⟨_, rfl, by rw [td_rows_s, if_neg h1, if_pos hn0], ht⟩) (fun _ h => nomatch h) d_X0_rowsFrom_61
      · refine td_joinl 44 ls [] (fun x_ => x_ = td_rows (n + 1) a b) (fun x_ ex => ?_) (fun J => ?_)
        · exact W.lret (v := x_) hx hb hr (fun t ht hW => ⟨_, rfl, ex, ht⟩) (fun _ h => nomatch h) d_X0_rowsFrom_44
        · refine lv_lload_n hx hb d_X0_rowsFrom_21 rfl (lv_at hl 2 rfl) ?_
          refine lv_lload_n hx hb d_X0_rowsFrom_22 rfl (lv_at hl 1 rfl) ?_
          refine vp_callSl (W.runS (As := [.long b, .long a]) (rest := []) ⟨hx, hb, hml, hown, hts⟩ (m_X0_movesOf l b a) (va_cwS 2 hts (tw_S ml_X0_54 st_X0_movesOf in_X0 kw_X0_movesOf) rfl rfl rfl (by decide +kernel) ⟨by show 2 + 1 ≤ 3 + (n + 1); omega, by show 8 + (8 + 11) + 50 ≤ 85 + 34 * (n + 1); omega⟩) ⟨fun _ _ _ _ q => q, fun U hU hW => ⟨rfl, trivial⟩⟩ rfl rfl hl.1 rfl (lv_room (Nat.le_of_ble_eq_true rfl)) d_X0_rowsFrom_23 ⟨Nat.le_refl _, Nat.le_refl _⟩) (fun r hq => ?_)
          subst hq
          refine lv_lconst (v := 0) hx hb d_X0_rowsFrom_26 (by decide) ?_
          refine td_lne (tgt := 35) hx hb d_X0_rowsFrom_27 d_X0_rowsFrom_28 (by decide) (fun h2 => ?_) (fun h2 => ?_)
          · refine lv_lload_n hx hb d_X0_rowsFrom_35 rfl (lv_at hl 2 rfl) ?_
            refine lv_lload_n hx hb d_X0_rowsFrom_36 rfl (lv_at hl 1 rfl) ?_
            refine lv_iload hx hb d_X0_rowsFrom_37 (lv_at hl 3 rfl) ?_
            refine lv_iconst (v := 1) hx hb d_X0_rowsFrom_39 (by decide) ?_
            refine lv_isub hx hb d_X0_rowsFrom_40 ?_
            refine td_i (y := (nI n)) (nI_pred n) ?_
            refine vp_callSl (W.runS (As := [.long b, .long a, .int (nI n)]) (rest := []) ⟨hx, hb, hml, hown, hts⟩ (ih (by omega) b a) (va_cwS 3 hts (tw_S ml_X0_104 st_X0_rowsFrom in_X0 kw_X0_rowsFrom) rfl rfl rfl (by decide +kernel) ⟨by show 3 + n + 1 ≤ 3 + (n + 1); omega, by show 8 + (15 + 11) + (85 + 34 * n) ≤ 85 + 34 * (n + 1); omega⟩) ⟨fun _ _ _ _ q => q, fun U hU hW => ⟨rfl, trivial⟩⟩ rfl rfl hl.1 rfl (lv_room (Nat.le_of_ble_eq_true rfl)) d_X0_rowsFrom_41 ⟨Nat.le_refl _, Nat.le_refl _⟩) (fun r hq => ?_)
            subst hq
            exact J _ (by rw [td_rows_s, if_pos h1, if_neg h2])
          · refine lv_lconst (v := 1) hx hb d_X0_rowsFrom_31 (by decide) ?_
            refine lv_goto (tgt := 44) hx hb d_X0_rowsFrom_32 (by decide) ?_
            exact J _ (by rw [td_rows_s, if_pos h1, if_pos h2])
    · exact absurd (nI_lt (a := 0) (b := n + 1) (by omega) (by omega)) hc
end
section
set_option maxHeartbeats 4000000 in
set_option maxRecDepth 100000 in
theorem m_X0_worthOf_open (l : Launch) (d : Nat) (ih : ∀ (a b : Int64) (lo up : Int32), Met l y_X0_worth (k_X0_worth :: tw) ({ frames := 3 + 2 * d, cells := 0, slots := 0, locals := 95 + 63 * d }) (va_Pc [.long a, .long b, .int lo, .int up, .int (nI d)] (fun _ => True)) (vp_Si (fun r => r = td_worth d a b lo up)) 0 0 (fun _ => False)) : ∀ (a b q : Int64) (lo up : Int32), Met l y_X0_worthOf (k_X0_worthOf :: tw) ({ frames := 3 + 2 * d + 1, cells := 0, slots := 0, locals := 95 + 63 * d + 33 }) (va_Pc [.long a, .long b, .long q, .int lo, .int up, .int (nI (d + 1))] (fun _ => True)) (vp_Si (fun r => r = (-(td_worth d (b ^^^ td_turned a b q) ((a ||| q) ||| td_turned a b q) (-up) (-lo))))) 0 0 (fun _ => False) := by
  intro a b q lo up
  refine Met.ofW (cc := c_X0_worthOf) (maxL := 11) (ret := (some .int)) (by decide) rfl ?_
  intro p e s m args below meth c s₁ B hml hv
  obtain ⟨rfl, hv⟩ := hv
  have hx := B.exec
  have hb := B.bytes
  have hr := B.returns
  have hts : ∀ w ∈ tw, w.before _ s = true := fun w h => atoms_spec (ws := k_X0_worthOf :: tw) B.pre w (List.mem_cons_of_mem _ h)
  have hown : s.vm.findClass RX0 = some m.cls := findClass_of_methodNamed B.named
  have hlocks := B.notSynchronized
  have hl := lv_entry ([.long a, .long b, .long q, .int lo, .int up, .int (nI (d + 1))]) (n := 11) (Nat.le_of_ble_eq_true rfl)
  rw [lg_entry_eq]
  generalize (lg_sl ([.long a, .long b, .long q, .int lo, .int up, .int (nI (d + 1))]) ++ List.replicate (11 - (lg_sl ([.long a, .long b, .long q, .int lo, .int up, .int (nI (d + 1))])).length) Slot.unset).toArray = ls at hl ⊢
  have hl : lv_has ls 11 [(0, .long a), (2, .long b), (4, .long q), (6, .int lo), (7, .int up), (8, .int (nI (d + 1)))] := hl
  refine lv_lload_n hx hb d_X0_worthOf_0 rfl (lv_at hl 0 rfl) ?_
  refine lv_lload_n hx hb d_X0_worthOf_1 rfl (lv_at hl 1 rfl) ?_
  refine lv_lload hx hb d_X0_worthOf_2 (lv_at hl 2 rfl) ?_
  refine vp_callSl (W.runS (As := [.long a, .long b, .long q]) (rest := []) ⟨hx, hb, hml, hown, hts⟩ (m_X0_turnedBy l a b q) (va_cwS 3 hts (tw_S ml_X0_67 st_X0_turnedBy in_X0 kw_X0_turnedBy) rfl rfl rfl (by decide +kernel) ⟨by show 2 + 1 ≤ 3 + 2 * d + 1; omega, by show 8 + (8 + 11) + 58 ≤ 95 + 63 * d + 33; omega⟩) ⟨fun _ _ _ _ q => q, fun U hU hW => ⟨rfl, trivial⟩⟩ rfl rfl hl.1 rfl (lv_room (Nat.le_of_ble_eq_true rfl)) d_X0_worthOf_4 ⟨Nat.le_refl _, Nat.le_refl _⟩) (fun r hq => ?_)
  subst hq
  refine lv_lstore hx hb d_X0_worthOf_7 hl (by decide) rfl (fun ls hl => ?_)
  have hl : lv_has ls 11 [(9, .long (td_turned a b q)), (0, .long a), (2, .long b), (4, .long q), (6, .int lo), (7, .int up), (8, .int (nI (d + 1)))] := hl
  refine lv_lload_n hx hb d_X0_worthOf_9 rfl (lv_at hl 2 rfl) ?_
  refine lv_lload hx hb d_X0_worthOf_10 (lv_at hl 0 rfl) ?_
  refine lv_lxor hx hb d_X0_worthOf_12 ?_
  refine lv_lload_n hx hb d_X0_worthOf_13 rfl (lv_at hl 1 rfl) ?_
  refine lv_lload hx hb d_X0_worthOf_14 (lv_at hl 3 rfl) ?_
  refine lv_lor hx hb d_X0_worthOf_16 ?_
  refine lv_lload hx hb d_X0_worthOf_17 (lv_at hl 0 rfl) ?_
  refine lv_lor hx hb d_X0_worthOf_19 ?_
  refine lv_iload hx hb d_X0_worthOf_20 (lv_at hl 5 rfl) ?_
  refine lv_ineg hx hb d_X0_worthOf_22 ?_
  refine lv_iload hx hb d_X0_worthOf_23 (lv_at hl 4 rfl) ?_
  refine lv_ineg hx hb d_X0_worthOf_25 ?_
  refine lv_iload hx hb d_X0_worthOf_26 (lv_at hl 6 rfl) ?_
  refine lv_iconst (v := 1) hx hb d_X0_worthOf_28 (by decide) ?_
  refine lv_isub hx hb d_X0_worthOf_29 ?_
  refine td_i (y := (nI d)) (nI_pred d) ?_
  refine vp_callSi (W.runS (As := [.long (b ^^^ (td_turned a b q)), .long ((a ||| q) ||| (td_turned a b q)), .int (-up), .int (-lo), .int (nI d)]) (rest := []) ⟨hx, hb, hml, hown, hts⟩ (ih _ _ _ _) (va_cwS 5 hts (tw_S ml_X0_111 st_X0_worth in_X0 kw_X0_worth) rfl rfl rfl (by decide +kernel) ⟨by show 3 + 2 * d + 1 ≤ 3 + 2 * d + 1; omega, by show 8 + (14 + 11) + (95 + 63 * d) ≤ 95 + 63 * d + 33; omega⟩) ⟨fun _ _ _ _ q => q, fun U hU hW => ⟨rfl, trivial⟩⟩ rfl rfl hl.1 rfl (lv_room (Nat.le_of_ble_eq_true rfl)) d_X0_worthOf_30 ⟨Nat.le_refl _, Nat.le_refl _⟩) (fun r hq => ?_)
  subst hq
  refine lv_ineg hx hb d_X0_worthOf_33 ?_
  exact W.iret (v := (-(td_worth d (b ^^^ td_turned a b q) ((a ||| q) ||| td_turned a b q) (-up) (-lo)))) hx hb hr (fun t ht hW => ⟨_, rfl, rfl, ht⟩) (fun _ h => nomatch h) d_X0_worthOf_34
set_option maxHeartbeats 4000000 in
set_option maxRecDepth 100000 in
theorem m_X0_worth (l : Launch) : ∀ d : Nat, d ≤ 14 → ∀ (a b : Int64) (lo up : Int32), Met l y_X0_worth (k_X0_worth :: tw) ({ frames := 3 + 2 * d, cells := 0, slots := 0, locals := 95 + 63 * d }) (va_Pc [.long a, .long b, .int lo, .int up, .int (nI d)] (fun _ => True)) (vp_Si (fun r => r = td_worth d a b lo up)) 0 0 (fun _ => False) := by
  intro d
  induction d with
  | zero =>
    intro hd a b lo up
    refine Met.ofW (cc := c_X0_worth) (maxL := 14) (ret := (some .int)) (by decide) rfl ?_
    intro p e s m args below meth c s₁ B hml hv
    obtain ⟨rfl, hv⟩ := hv
    have hx := B.exec
    have hb := B.bytes
    have hr := B.returns
    have hts : ∀ w ∈ tw, w.before _ s = true := fun w h => atoms_spec (ws := k_X0_worth :: tw) B.pre w (List.mem_cons_of_mem _ h)
    have hown : s.vm.findClass RX0 = some m.cls := findClass_of_methodNamed B.named
    have hlocks := B.notSynchronized
    have hl := lv_entry ([.long a, .long b, .int lo, .int up, .int (nI 0)]) (n := 14) (Nat.le_of_ble_eq_true rfl)
    rw [lg_entry_eq]
    generalize (lg_sl ([.long a, .long b, .int lo, .int up, .int (nI 0)]) ++ List.replicate (14 - (lg_sl ([.long a, .long b, .int lo, .int up, .int (nI 0)])).length) Slot.unset).toArray = ls at hl ⊢
    have hl : lv_has ls 14 [(0, .long a), (2, .long b), (4, .int lo), (5, .int up), (6, .int (nI 0))] := hl
    refine lv_lload_n hx hb d_X0_worth_0 rfl (lv_at hl 0 rfl) ?_
    refine lv_lload_n hx hb d_X0_worth_1 rfl (lv_at hl 1 rfl) ?_
    refine vp_callSl (W.runS (As := [.long a, .long b]) (rest := []) ⟨hx, hb, hml, hown, hts⟩ (m_X0_movesOf l a b) (va_cwS 2 hts (tw_S ml_X0_54 st_X0_movesOf in_X0 kw_X0_movesOf) rfl rfl rfl (by decide +kernel) ⟨by show 2 + 1 ≤ 3 + 2 * 0; omega, by show 8 + (8 + 11) + 50 ≤ 95 + 63 * 0; omega⟩) ⟨fun _ _ _ _ q => q, fun U hU hW => ⟨rfl, trivial⟩⟩ rfl rfl hl.1 rfl (lv_room (Nat.le_of_ble_eq_true rfl)) d_X0_worth_2 ⟨Nat.le_refl _, Nat.le_refl _⟩) (fun r hq => ?_)
    subst hq
    refine lv_lstore hx hb d_X0_worth_5 hl (by decide) rfl (fun ls hl => ?_)
    have hl : lv_has ls 14 [(7, .long (td_moves a b)), (0, .long a), (2, .long b), (4, .int lo), (5, .int up), (6, .int (nI 0))] := hl
    refine lv_iload hx hb d_X0_worth_7 (lv_at hl 5 rfl) ?_
    refine lv_if_le (tgt := 29) hx hb d_X0_worth_9 (by decide) (fun hc => ?_) (fun hc => ?_)
    · refine lv_lload_n hx hb d_X0_worth_29 rfl (lv_at hl 1 rfl) ?_
      refine lv_lload_n hx hb d_X0_worth_30 rfl (lv_at hl 2 rfl) ?_
      refine vp_callSi (W.runS (As := [.long a, .long b]) (rest := []) ⟨hx, hb, hml, hown, hts⟩ (m_X0_lead l a b) (va_cwS 2 hts (tw_S ml_X0_98 st_X0_lead in_X0 kw_X0_lead) rfl rfl rfl (by decide +kernel) ⟨by show 1 + 1 ≤ 3 + 2 * 0; omega, by show 8 + (4 + 11) + 21 ≤ 95 + 63 * 0; omega⟩) ⟨fun _ _ _ _ q => q, fun U hU hW => ⟨rfl, trivial⟩⟩ rfl rfl hl.1 rfl (lv_room (Nat.le_of_ble_eq_true rfl)) d_X0_worth_31 ⟨Nat.le_refl _, Nat.le_refl _⟩) (fun r hq => ?_)
      subst hq
      exact W.iret (v := (td_lead a b)) hx hb hr (fun t ht hW => ⟨_, rfl, rfl, ht⟩) (fun _ h => nomatch h) d_X0_worth_34
    · exact absurd (show nI 0 ≤ 0 by decide) hc
  | succ d ih =>
    intro hd a b lo up
    have ihO := m_X0_worthOf_open l d (ih (by omega))
    refine Met.ofW (cc := c_X0_worth) (maxL := 14) (ret := (some .int)) (by decide) rfl ?_
    intro p e s m args below meth c s₁ B hml hv
    obtain ⟨rfl, hv⟩ := hv
    have hx := B.exec
    have hb := B.bytes
    have hr := B.returns
    have hts : ∀ w ∈ tw, w.before _ s = true := fun w h => atoms_spec (ws := k_X0_worth :: tw) B.pre w (List.mem_cons_of_mem _ h)
    have hown : s.vm.findClass RX0 = some m.cls := findClass_of_methodNamed B.named
    have hlocks := B.notSynchronized
    have hl := lv_entry ([.long a, .long b, .int lo, .int up, .int (nI (d + 1))]) (n := 14) (Nat.le_of_ble_eq_true rfl)
    rw [lg_entry_eq]
    generalize (lg_sl ([.long a, .long b, .int lo, .int up, .int (nI (d + 1))]) ++ List.replicate (14 - (lg_sl ([.long a, .long b, .int lo, .int up, .int (nI (d + 1))])).length) Slot.unset).toArray = ls at hl ⊢
    have hl : lv_has ls 14 [(0, .long a), (2, .long b), (4, .int lo), (5, .int up), (6, .int (nI (d + 1)))] := hl
    refine lv_lload_n hx hb d_X0_worth_0 rfl (lv_at hl 0 rfl) ?_
    refine lv_lload_n hx hb d_X0_worth_1 rfl (lv_at hl 1 rfl) ?_
    refine vp_callSl (W.runS (As := [.long a, .long b]) (rest := []) ⟨hx, hb, hml, hown, hts⟩ (m_X0_movesOf l a b) (va_cwS 2 hts (tw_S ml_X0_54 st_X0_movesOf in_X0 kw_X0_movesOf) rfl rfl rfl (by decide +kernel) ⟨by show 2 + 1 ≤ 3 + 2 * (d + 1); omega, by show 8 + (8 + 11) + 50 ≤ 95 + 63 * (d + 1); omega⟩) ⟨fun _ _ _ _ q => q, fun U hU hW => ⟨rfl, trivial⟩⟩ rfl rfl hl.1 rfl (lv_room (Nat.le_of_ble_eq_true rfl)) d_X0_worth_2 ⟨Nat.le_refl _, Nat.le_refl _⟩) (fun r hq => ?_)
    subst hq
    refine lv_lstore hx hb d_X0_worth_5 hl (by decide) rfl (fun ls hl => ?_)
    have hl : lv_has ls 14 [(7, .long (td_moves a b)), (0, .long a), (2, .long b), (4, .int lo), (5, .int up), (6, .int (nI (d + 1)))] := hl
    refine lv_iload hx hb d_X0_worth_7 (lv_at hl 5 rfl) ?_
    refine lv_if_le (tgt := 29) hx hb d_X0_worth_9 (by decide) (fun hc => ?_) (fun hc => ?_)
    · exact absurd hc (nI_nle (by omega) (by omega))
    · refine lv_lload hx hb d_X0_worth_12 (lv_at hl 0 rfl) ?_
      refine lv_lconst (v := 0) hx hb d_X0_worth_14 (by decide) ?_
      refine td_joinu 35 ls [] (¬ (td_moves a b = 0 ∧ td_moves b a = 0)) (fun hno => ?_) (fun J => ?_)
      · refine lv_lload hx hb d_X0_worth_35 (lv_at hl 0 rfl) ?_
        refine lv_lconst (v := 0) hx hb d_X0_worth_37 (by decide) ?_
        refine td_lne (tgt := 59) hx hb d_X0_worth_38 d_X0_worth_39 (by decide) (fun h1 => ?_) (fun h1 => ?_)
        · refine lv_bipush (v := (-65)) hx hb d_X0_worth_59 (by decide) ?_
          refine lv_istore hx hb d_X0_worth_61 hl (by decide) rfl (fun ls hl => ?_)
          have hl : lv_has ls 14 [(9, .int (-65)), (7, .long (td_moves a b)), (0, .long a), (2, .long b), (4, .int lo), (5, .int up), (6, .int (nI (d + 1)))] := hl
          refine lv_lload hx hb d_X0_worth_63 (lv_at hl 1 rfl) ?_
          refine vp_callSi (W.runS (As := [.long (td_moves a b)]) (rest := []) ⟨hx, hb, hml, hown, hts⟩ (m_JL_bitCount l (td_moves a b)) (va_cwS 1 hts (tw_S ml_X0_128 st_JL_bitCount in_JL kw_JL_bitCount) rfl rfl rfl (by decide +kernel) ⟨by show 0 + 1 ≤ 3 + 2 * (d + 1); omega, by show 8 + (2 + 11) + 0 ≤ 95 + 63 * (d + 1); omega⟩) ⟨fun _ _ _ _ q => q, fun U hU hW => ⟨rfl, trivial⟩⟩ rfl rfl hl.1 rfl (lv_room (Nat.le_of_ble_eq_true rfl)) d_X0_worth_65 ⟨Nat.le_refl _, Nat.le_refl _⟩) (fun r hq => ?_)
          subst hq
          obtain ⟨hpe, hpl⟩ := td_pop_n (td_moves a b)
          refine td_i (y := (nI (td_popN (td_moves a b)))) (hpe) ?_
          refine lv_istore hx hb d_X0_worth_68 hl (by decide) rfl (fun ls hl => ?_)
          have hl : lv_has ls 14 [(10, .int (nI (td_popN (td_moves a b)))), (9, .int (-65)), (7, .long (td_moves a b)), (0, .long a), (2, .long b), (4, .int lo), (5, .int up), (6, .int (nI (d + 1)))] := hl
          refine lv_iconst (v := 0) hx hb d_X0_worth_70 (by decide) ?_
          refine lv_istore hx hb d_X0_worth_71 hl (by decide) rfl (fun ls hl => ?_)
          have hl : lv_has ls 14 [(11, .int 0), (10, .int (nI (td_popN (td_moves a b)))), (9, .int (-65)), (7, .long (td_moves a b)), (0, .long a), (2, .long b), (4, .int lo), (5, .int up), (6, .int (nI (d + 1)))] := hl
          generalize hN : td_popN (td_moves a b) = N at hl hpl hpe
          have hl : lv_has ls 14 [(11, .int 0), (10, .int (nI N)), (9, .int (-65)), (7, .long (td_moves a b)), (0, .long a), (2, .long b), (4, .int lo), (5, .int up), (6, .int (nI (d + 1)))] := hl
          have hres : td_wloop (fun q lw => -(td_worth d (b ^^^ td_turned a b q) ((a ||| q) ||| td_turned a b q) (-up) (-lw))) lo up (N - 0) (td_moves a b) (-65) = td_worth (d + 1) a b lo up := by
            rw [Nat.sub_zero, ← hN, td_worth_s, if_neg h1]
          have hl0 := lv_sub hl [4, 5, 6, 7, 8, 3, 2, 1, 0] rfl
          refine td_loop 73 [] (fun z : Nat × Int64 × Int32 => N - z.1) (fun z ls => (z.1 ≤ N ∧ td_wloop (fun q lw => -(td_worth d (b ^^^ td_turned a b q) ((a ||| q) ||| td_turned a b q) (-up) (-lw))) lo up (N - z.1) z.2.1 z.2.2 = td_worth (d + 1) a b lo up) ∧ lv_has ls 14 [(0, .long a), (2, .long b), (4, .int lo), (5, .int up), (6, .int (nI (d + 1))), (7, .long (z.2.1)), (9, .int (z.2.2)), (10, .int (nI N)), (11, .int (nI z.1))]) (fun z ls hC ihl => ?_) (0, td_moves a b, -65) ⟨⟨Nat.zero_le _, hres⟩, hl0⟩
          clear hl hl0
          obtain ⟨hi, hl⟩ := hC
          have hl : lv_has ls 14 [(0, .long a), (2, .long b), (4, .int lo), (5, .int up), (6, .int (nI (d + 1))), (7, .long (z.2.1)), (9, .int (z.2.2)), (10, .int (nI N)), (11, .int (nI z.1))] := hl
          obtain ⟨i, left, most⟩ := z
          obtain ⟨hi, hacc⟩ := hi
          have hl : lv_has ls 14 [(0, .long a), (2, .long b), (4, .int lo), (5, .int up), (6, .int (nI (d + 1))), (7, .long left), (9, .int most), (10, .int (nI N)), (11, .int (nI i))] := hl
          dsimp only at hi hacc
          refine td_joinu 133 ls [] (most = td_worth (d + 1) a b lo up) (fun hend => ?_) (fun J => ?_)
          · refine lv_iload hx hb d_X0_worth_133 (lv_at hl 6 rfl) ?_
            exact W.iret (v := most) hx hb hr (fun t ht hW => ⟨_, rfl, hend, ht⟩) (fun _ h => nomatch h) d_X0_worth_135
          · refine lv_iload hx hb d_X0_worth_73 (lv_at hl 8 rfl) ?_
            refine lv_iload hx hb d_X0_worth_75 (lv_at hl 7 rfl) ?_
            refine lv_icmp_ge (tgt := 133) hx hb d_X0_worth_77 (by decide) (fun h4 => ?_) (fun h4 => ?_)
            · have hiN : i = N := Nat.le_antisymm hi ((nI_leI (by omega) (by omega)).mp h4)
              rw [hiN, Nat.sub_self] at hacc
              exact J hacc
            · have hiN : i < N := Nat.lt_of_not_le (fun y => h4 ((nI_leI (by omega) (by omega)).mpr y))
              have hst : N - i = (N - (i + 1)) + 1 := by omega
              rw [hst] at hacc
              unfold td_wloop at hacc
              refine lv_iload hx hb d_X0_worth_80 (lv_at hl 6 rfl) ?_
              refine lv_iload hx hb d_X0_worth_82 (lv_at hl 3 rfl) ?_
              refine lv_icmp_ge (tgt := 133) hx hb d_X0_worth_84 (by decide) (fun h5 => ?_) (fun h5 => ?_)
              · rw [if_neg (Int32.not_lt.mpr h5)] at hacc
                exact J hacc
              · rw [if_pos (Int32.not_le.mp h5)] at hacc
                refine lv_lload hx hb d_X0_worth_87 (lv_at hl 5 rfl) ?_
                refine lv_lload hx hb d_X0_worth_89 (lv_at hl 5 rfl) ?_
                refine lv_lneg hx hb d_X0_worth_91 ?_
                refine lv_land hx hb d_X0_worth_92 ?_
                refine td_l (y := (td_low left)) (rfl) ?_
                refine lv_lstore hx hb d_X0_worth_93 hl (by decide) rfl (fun ls hl => ?_)
                have hl : lv_has ls 14 [(12, .long (td_low left)), (0, .long a), (2, .long b), (4, .int lo), (5, .int up), (6, .int (nI (d + 1))), (7, .long left), (9, .int most), (10, .int (nI N)), (11, .int (nI i))] := hl
                refine lv_lload hx hb d_X0_worth_95 (lv_at hl 6 rfl) ?_
                refine lv_lload hx hb d_X0_worth_97 (lv_at hl 0 rfl) ?_
                refine lv_lxor hx hb d_X0_worth_99 ?_
                refine lv_lstore hx hb d_X0_worth_100 hl (by decide) rfl (fun ls hl => ?_)
                have hl : lv_has ls 14 [(7, .long (left ^^^ (td_low left))), (12, .long (td_low left)), (0, .long a), (2, .long b), (4, .int lo), (5, .int up), (6, .int (nI (d + 1))), (9, .int most), (10, .int (nI N)), (11, .int (nI i))] := hl
                refine lv_iload hx hb d_X0_worth_102 (lv_at hl 7 rfl) ?_
                refine lv_lload_n hx hb d_X0_worth_104 rfl (lv_at hl 2 rfl) ?_
                refine lv_lload_n hx hb d_X0_worth_105 rfl (lv_at hl 3 rfl) ?_
                refine lv_lload hx hb d_X0_worth_106 (lv_at hl 1 rfl) ?_
                refine lv_iload hx hb d_X0_worth_108 (lv_at hl 4 rfl) ?_
                refine lv_iload hx hb d_X0_worth_110 (lv_at hl 7 rfl) ?_
                refine va_mmax (x := lo) (y := most) hx hb (by rw [hml]; exact hl.1.symm) hown (hts _ ml_X0_175) (hts _ st_JM_max) (hts _ in_JM) (hts _ kw_JM_max) (by show 1 ≤ 3 + 2 * (d + 1); omega) (by show 7 + 13 ≤ 95 + 63 * (d + 1); omega) (Nat.zero_le _) (Nat.zero_le _) d_X0_worth_112 ?_
                refine td_i (y := (td_max lo most)) (rfl) ?_
                refine lv_iload hx hb d_X0_worth_115 (lv_at hl 5 rfl) ?_
                refine lv_iload hx hb d_X0_worth_117 (lv_at hl 6 rfl) ?_
                refine vp_callSi (W.runS (As := [.long a, .long b, .long (td_low left), .int (td_max lo most), .int up, .int (nI (d + 1))]) (rest := [.int most]) ⟨hx, hb, hml, hown, hts⟩ (ihO a b (td_low left) (td_max lo most) up) (va_cwS 6 hts (tw_S ml_X0_181 st_X0_worthOf in_X0 kw_X0_worthOf) rfl rfl rfl (by decide +kernel) ⟨by show 3 + 2 * d + 1 + 1 ≤ 3 + 2 * (d + 1); omega, by show 8 + (11 + 11) + (95 + 63 * d + 33) ≤ 95 + 63 * (d + 1); omega⟩) ⟨fun _ _ _ _ q => q, fun U hU hW => ⟨rfl, trivial⟩⟩ rfl rfl hl.1 rfl (lv_room (Nat.le_of_ble_eq_true rfl)) d_X0_worth_119 ⟨Nat.le_refl _, Nat.le_refl _⟩) (fun r hq => ?_)
                subst hq
                refine va_mmax (x := most) (y := (-(td_worth d (b ^^^ td_turned a b (td_low left)) ((a ||| td_low left) ||| td_turned a b (td_low left)) (-up) (-(td_max lo most))))) hx hb (by rw [hml]; exact hl.1.symm) hown (hts _ ml_X0_175) (hts _ st_JM_max) (hts _ in_JM) (hts _ kw_JM_max) (by show 1 ≤ 3 + 2 * (d + 1); omega) (by show 0 + 13 ≤ 95 + 63 * (d + 1); omega) (Nat.zero_le _) (Nat.zero_le _) d_X0_worth_122 ?_
                refine td_i (y := (td_max most (-(td_worth d (b ^^^ td_turned a b (td_low left)) ((a ||| td_low left) ||| td_turned a b (td_low left)) (-up) (-(td_max lo most)))))) (rfl) ?_
                refine lv_istore hx hb d_X0_worth_125 hl (by decide) rfl (fun ls hl => ?_)
                have hl : lv_has ls 14 [(9, .int (td_max most (-(td_worth d (b ^^^ td_turned a b (td_low left)) ((a ||| td_low left) ||| td_turned a b (td_low left)) (-up) (-(td_max lo most)))))), (7, .long (left ^^^ (td_low left))), (12, .long (td_low left)), (0, .long a), (2, .long b), (4, .int lo), (5, .int up), (6, .int (nI (d + 1))), (10, .int (nI N)), (11, .int (nI i))] := hl
                refine lv_iinc (k := 9) (v := (nI (i + 1))) hx hb d_X0_worth_127 hl rfl ((nI_succ i).symm) (by decide) rfl (fun ls hl => ?_)
                have hl : lv_has ls 14 [(11, .int (nI (i + 1))), (9, .int (td_max most (-(td_worth d (b ^^^ td_turned a b (td_low left)) ((a ||| td_low left) ||| td_turned a b (td_low left)) (-up) (-(td_max lo most)))))), (7, .long (left ^^^ (td_low left))), (12, .long (td_low left)), (0, .long a), (2, .long b), (4, .int lo), (5, .int up), (6, .int (nI (d + 1))), (10, .int (nI N))] := hl
                refine lv_goto (tgt := 73) hx hb d_X0_worth_130 (by decide) ?_
                have hl1 := lv_sub hl [4, 5, 6, 7, 8, 2, 1, 9, 0] rfl
                exact ihl (i + 1, left ^^^ td_low left, td_max most (-(td_worth d (b ^^^ td_turned a b (td_low left)) ((a ||| td_low left) ||| td_turned a b (td_low left)) (-up) (-(td_max lo most))))) _ (by show N - (i + 1) < N - i; omega) ⟨⟨hiN, hacc⟩, hl1⟩
        · refine lv_lload_n hx hb d_X0_worth_42 rfl (lv_at hl 2 rfl) ?_
          refine lv_lload_n hx hb d_X0_worth_43 rfl (lv_at hl 1 rfl) ?_
          refine lv_iload hx hb d_X0_worth_44 (lv_at hl 4 rfl) ?_
          refine lv_ineg hx hb d_X0_worth_46 ?_
          refine lv_iload hx hb d_X0_worth_47 (lv_at hl 3 rfl) ?_
          refine lv_ineg hx hb d_X0_worth_49 ?_
          refine lv_iload hx hb d_X0_worth_50 (lv_at hl 5 rfl) ?_
          refine lv_iconst (v := 1) hx hb d_X0_worth_52 (by decide) ?_
          refine lv_isub hx hb d_X0_worth_53 ?_
          refine td_i (y := (nI d)) (nI_pred d) ?_
          refine vp_callSi (W.runS (As := [.long b, .long a, .int (-up), .int (-lo), .int (nI d)]) (rest := []) ⟨hx, hb, hml, hown, hts⟩ (ih (by omega) b a (-up) (-lo)) (va_cwS 5 hts (tw_S ml_X0_111 st_X0_worth in_X0 kw_X0_worth) rfl rfl rfl (by decide +kernel) ⟨by show 3 + 2 * d + 1 ≤ 3 + 2 * (d + 1); omega, by show 8 + (14 + 11) + (95 + 63 * d) ≤ 95 + 63 * (d + 1); omega⟩) ⟨fun _ _ _ _ q => q, fun U hU hW => ⟨rfl, trivial⟩⟩ rfl rfl hl.1 rfl (lv_room (Nat.le_of_ble_eq_true rfl)) d_X0_worth_54 ⟨Nat.le_refl _, Nat.le_refl _⟩) (fun r hq => ?_)
          subst hq
          refine lv_ineg hx hb d_X0_worth_57 ?_
          exact W.iret (v := (-(td_worth d b a (-up) (-lo)))) hx hb hr (fun t ht hW => ⟨_, rfl, by rw [td_worth_s, if_pos h1, if_neg (fun z => hno ⟨h1, z⟩)], ht⟩) (fun _ h => nomatch h) d_X0_worth_58
      · refine td_lne (tgt := 35) hx hb d_X0_worth_15 d_X0_worth_16 (by decide) (fun h1 => ?_) (fun h1 => ?_)
        · exact J (fun z => h1 z.1)
        · refine lv_lload_n hx hb d_X0_worth_19 rfl (lv_at hl 2 rfl) ?_
          refine lv_lload_n hx hb d_X0_worth_20 rfl (lv_at hl 1 rfl) ?_
          refine vp_callSl (W.runS (As := [.long b, .long a]) (rest := []) ⟨hx, hb, hml, hown, hts⟩ (m_X0_movesOf l b a) (va_cwS 2 hts (tw_S ml_X0_54 st_X0_movesOf in_X0 kw_X0_movesOf) rfl rfl rfl (by decide +kernel) ⟨by show 2 + 1 ≤ 3 + 2 * (d + 1); omega, by show 8 + (8 + 11) + 50 ≤ 95 + 63 * (d + 1); omega⟩) ⟨fun _ _ _ _ q => q, fun U hU hW => ⟨rfl, trivial⟩⟩ rfl rfl hl.1 rfl (lv_room (Nat.le_of_ble_eq_true rfl)) d_X0_worth_21 ⟨Nat.le_refl _, Nat.le_refl _⟩) (fun r hq => ?_)
          subst hq
          refine lv_lconst (v := 0) hx hb d_X0_worth_24 (by decide) ?_
          refine td_lne (tgt := 35) hx hb d_X0_worth_25 d_X0_worth_26 (by decide) (fun h2 => ?_) (fun h2 => ?_)
          · exact J (fun z => h2 z.2)
          · refine lv_lload_n hx hb d_X0_worth_29 rfl (lv_at hl 1 rfl) ?_
            refine lv_lload_n hx hb d_X0_worth_30 rfl (lv_at hl 2 rfl) ?_
            refine vp_callSi (W.runS (As := [.long a, .long b]) (rest := []) ⟨hx, hb, hml, hown, hts⟩ (m_X0_lead l a b) (va_cwS 2 hts (tw_S ml_X0_98 st_X0_lead in_X0 kw_X0_lead) rfl rfl rfl (by decide +kernel) ⟨by show 1 + 1 ≤ 3 + 2 * (d + 1); omega, by show 8 + (4 + 11) + 21 ≤ 95 + 63 * (d + 1); omega⟩) ⟨fun _ _ _ _ q => q, fun U hU hW => ⟨rfl, trivial⟩⟩ rfl rfl hl.1 rfl (lv_room (Nat.le_of_ble_eq_true rfl)) d_X0_worth_31 ⟨Nat.le_refl _, Nat.le_refl _⟩) (fun r hq => ?_)
            subst hq
            exact W.iret (v := (td_lead a b)) hx hb hr (fun t ht hW => ⟨_, rfl, by rw [td_worth_s, if_pos h1, if_pos h2], ht⟩) (fun _ h => nomatch h) d_X0_worth_34
set_option maxHeartbeats 4000000 in
set_option maxRecDepth 100000 in
theorem m_X0_bestSquare (l : Launch) (a b : Int64) : Met l y_X0_bestSquare (k_X0_bestSquare :: tw) ({ frames := 31, cells := 0, slots := 0, locals := 977 }) (va_Pc [.long a, .long b] (fun _ => True)) (vp_Si (fun r => r = td_best a b)) 0 0 (fun _ => False) := by
  refine Met.ofW (cc := c_X0_bestSquare) (maxL := 14) (ret := (some .int)) (by decide) rfl ?_
  intro p e s m args below meth c s₁ B hml hv
  obtain ⟨rfl, hv⟩ := hv
  have hx := B.exec
  have hb := B.bytes
  have hr := B.returns
  have hts : ∀ w ∈ tw, w.before _ s = true := fun w h => atoms_spec (ws := k_X0_bestSquare :: tw) B.pre w (List.mem_cons_of_mem _ h)
  have hown : s.vm.findClass RX0 = some m.cls := findClass_of_methodNamed B.named
  have hlocks := B.notSynchronized
  have hl := lv_entry ([.long a, .long b]) (n := 14) (Nat.le_of_ble_eq_true rfl)
  rw [lg_entry_eq]
  generalize (lg_sl ([.long a, .long b]) ++ List.replicate (14 - (lg_sl ([.long a, .long b])).length) Slot.unset).toArray = ls at hl ⊢
  have hl : lv_has ls 14 [(0, .long a), (2, .long b)] := hl
  refine lv_lload_n hx hb d_X0_bestSquare_0 rfl (lv_at hl 0 rfl) ?_
  refine lv_lload_n hx hb d_X0_bestSquare_1 rfl (lv_at hl 1 rfl) ?_
  refine vp_callSl (W.runS (As := [.long a, .long b]) (rest := []) ⟨hx, hb, hml, hown, hts⟩ (m_X0_movesOf l a b) (va_cwS 2 hts (tw_S ml_X0_54 st_X0_movesOf in_X0 kw_X0_movesOf) rfl rfl rfl (by decide +kernel) ⟨Nat.le_of_ble_eq_true rfl, Nat.le_of_ble_eq_true rfl⟩) ⟨fun _ _ _ _ q => q, fun U hU hW => ⟨rfl, trivial⟩⟩ rfl rfl hl.1 rfl (lv_room (Nat.le_of_ble_eq_true rfl)) d_X0_bestSquare_2 ⟨Nat.le_refl _, Nat.le_refl _⟩) (fun r hq => ?_)
  subst hq
  refine lv_lstore hx hb d_X0_bestSquare_5 hl (by decide) rfl (fun ls hl => ?_)
  have hl : lv_has ls 14 [(4, .long (td_moves a b)), (0, .long a), (2, .long b)] := hl
  refine lv_lload hx hb d_X0_bestSquare_7 (lv_at hl 0 rfl) ?_
  refine lv_lconst (v := 0) hx hb d_X0_bestSquare_9 (by decide) ?_
  refine td_lne (tgt := 32) hx hb d_X0_bestSquare_10 d_X0_bestSquare_11 (by decide) (fun h1 => ?_) (fun h1 => ?_)
  · refine lv_lconst (v := 0) hx hb d_X0_bestSquare_32 (by decide) ?_
    refine lv_lstore hx hb d_X0_bestSquare_33 hl (by decide) rfl (fun ls hl => ?_)
    have hl : lv_has ls 14 [(6, .long 0), (4, .long (td_moves a b)), (0, .long a), (2, .long b)] := hl
    refine lv_bipush (v := (-65)) hx hb d_X0_bestSquare_35 (by decide) ?_
    refine lv_istore hx hb d_X0_bestSquare_37 hl (by decide) rfl (fun ls hl => ?_)
    have hl : lv_has ls 14 [(8, .int (-65)), (6, .long 0), (4, .long (td_moves a b)), (0, .long a), (2, .long b)] := hl
    refine lv_lload hx hb d_X0_bestSquare_39 (lv_at hl 2 rfl) ?_
    refine vp_callSi (W.runS (As := [.long (td_moves a b)]) (rest := []) ⟨hx, hb, hml, hown, hts⟩ (m_JL_bitCount l (td_moves a b)) (va_cwS 1 hts (tw_S ml_X0_128 st_JL_bitCount in_JL kw_JL_bitCount) rfl rfl rfl (by decide +kernel) ⟨Nat.le_of_ble_eq_true rfl, Nat.le_of_ble_eq_true rfl⟩) ⟨fun _ _ _ _ q => q, fun U hU hW => ⟨rfl, trivial⟩⟩ rfl rfl hl.1 rfl (lv_room (Nat.le_of_ble_eq_true rfl)) d_X0_bestSquare_41 ⟨Nat.le_refl _, Nat.le_refl _⟩) (fun r hq => ?_)
    subst hq
    obtain ⟨hpe, hpl⟩ := td_pop_n (td_moves a b)
    refine td_i (y := (nI (td_popN (td_moves a b)))) (hpe) ?_
    refine lv_istore hx hb d_X0_bestSquare_44 hl (by decide) rfl (fun ls hl => ?_)
    have hl : lv_has ls 14 [(9, .int (nI (td_popN (td_moves a b)))), (8, .int (-65)), (6, .long 0), (4, .long (td_moves a b)), (0, .long a), (2, .long b)] := hl
    refine lv_iconst (v := 0) hx hb d_X0_bestSquare_46 (by decide) ?_
    refine lv_istore hx hb d_X0_bestSquare_47 hl (by decide) rfl (fun ls hl => ?_)
    have hl : lv_has ls 14 [(10, .int 0), (9, .int (nI (td_popN (td_moves a b)))), (8, .int (-65)), (6, .long 0), (4, .long (td_moves a b)), (0, .long a), (2, .long b)] := hl
    generalize hN : td_popN (td_moves a b) = N at hl hpl hpe
    have hl : lv_has ls 14 [(10, .int 0), (9, .int (nI N)), (8, .int (-65)), (6, .long 0), (4, .long (td_moves a b)), (0, .long a), (2, .long b)] := hl
    have hres : td_pop (td_bloop (fun q lw => -(td_worth 13 (b ^^^ td_turned a b q) ((a ||| q) ||| td_turned a b q) (-65) (-lw))) (N - 0) (td_moves a b) 0 (-65) - 1) = td_best a b := by
      unfold td_best; rw [Nat.sub_zero, ← hN, if_neg h1]
    have hl0 := lv_sub hl [5, 6, 4, 3, 2, 1, 0] rfl
    refine td_loop 49 [] (fun z : Nat × Int64 × Int64 × Int32 => N - z.1) (fun z ls => (z.1 ≤ N ∧ td_pop (td_bloop (fun q lw => -(td_worth 13 (b ^^^ td_turned a b q) ((a ||| q) ||| td_turned a b q) (-65) (-lw))) (N - z.1) z.2.1 z.2.2.1 z.2.2.2 - 1) = td_best a b) ∧ lv_has ls 14 [(0, .long a), (2, .long b), (4, .long (z.2.1)), (6, .long (z.2.2.1)), (8, .int (z.2.2.2)), (9, .int (nI N)), (10, .int (nI z.1))]) (fun z ls hC ih => ?_) (0, td_moves a b, 0, -65) ⟨⟨Nat.zero_le _, hres⟩, hl0⟩
    clear hl hl0
    obtain ⟨hi, hl⟩ := hC
    have hl : lv_has ls 14 [(0, .long a), (2, .long b), (4, .long (z.2.1)), (6, .long (z.2.2.1)), (8, .int (z.2.2.2)), (9, .int (nI N)), (10, .int (nI z.1))] := hl
    obtain ⟨i, left, ch, most⟩ := z
    obtain ⟨hi, hacc⟩ := hi
    have hl : lv_has ls 14 [(0, .long a), (2, .long b), (4, .long left), (6, .long ch), (8, .int most), (9, .int (nI N)), (10, .int (nI i))] := hl
    dsimp only at hi hacc
    refine lv_iload hx hb d_X0_bestSquare_49 (lv_at hl 6 rfl) ?_
    refine lv_iload hx hb d_X0_bestSquare_51 (lv_at hl 5 rfl) ?_
    refine lv_icmp_ge (tgt := 107) hx hb d_X0_bestSquare_53 (by decide) (fun h4 => ?_) (fun h4 => ?_)
    · have hiN : i = N := Nat.le_antisymm hi ((nI_leI (by omega) (by omega)).mp h4)
      rw [hiN, Nat.sub_self] at hacc
      refine lv_lload hx hb d_X0_bestSquare_107 (lv_at hl 3 rfl) ?_
      refine vp_callSi (W.runS (As := [.long ch]) (rest := []) ⟨hx, hb, hml, hown, hts⟩ (m_X0_squareOf l ch) (va_cwS 1 hts (tw_S ml_X0_185 st_X0_squareOf in_X0 kw_X0_squareOf) rfl rfl rfl (by decide +kernel) ⟨Nat.le_of_ble_eq_true rfl, Nat.le_of_ble_eq_true rfl⟩) ⟨fun _ _ _ _ q => q, fun U hU hW => ⟨rfl, trivial⟩⟩ rfl rfl hl.1 rfl (lv_room (Nat.le_of_ble_eq_true rfl)) d_X0_bestSquare_109 ⟨Nat.le_refl _, Nat.le_refl _⟩) (fun r hq => ?_)
      subst hq
      exact W.iret (v := (td_pop (ch - 1))) hx hb hr (fun t ht hW => ⟨_, rfl, hacc, ht⟩) (fun _ h => nomatch h) d_X0_bestSquare_112
    · have hiN : i < N := Nat.lt_of_not_le (fun y => h4 ((nI_leI (by omega) (by omega)).mpr y))
      have hst : N - i = (N - (i + 1)) + 1 := by omega
      rw [hst] at hacc
      unfold td_bloop at hacc
      refine lv_lload hx hb d_X0_bestSquare_56 (lv_at hl 2 rfl) ?_
      refine lv_lload hx hb d_X0_bestSquare_58 (lv_at hl 2 rfl) ?_
      refine lv_lneg hx hb d_X0_bestSquare_60 ?_
      refine lv_land hx hb d_X0_bestSquare_61 ?_
      refine td_l (y := (td_low left)) (rfl) ?_
      refine lv_lstore hx hb d_X0_bestSquare_62 hl (by decide) rfl (fun ls hl => ?_)
      have hl : lv_has ls 14 [(11, .long (td_low left)), (0, .long a), (2, .long b), (4, .long left), (6, .long ch), (8, .int most), (9, .int (nI N)), (10, .int (nI i))] := hl
      refine lv_lload hx hb d_X0_bestSquare_64 (lv_at hl 3 rfl) ?_
      refine lv_lload hx hb d_X0_bestSquare_66 (lv_at hl 0 rfl) ?_
      refine lv_lxor hx hb d_X0_bestSquare_68 ?_
      refine lv_lstore hx hb d_X0_bestSquare_69 hl (by decide) rfl (fun ls hl => ?_)
      have hl : lv_has ls 14 [(4, .long (left ^^^ (td_low left))), (11, .long (td_low left)), (0, .long a), (2, .long b), (6, .long ch), (8, .int most), (9, .int (nI N)), (10, .int (nI i))] := hl
      refine lv_lload_n hx hb d_X0_bestSquare_71 rfl (lv_at hl 2 rfl) ?_
      refine lv_lload_n hx hb d_X0_bestSquare_72 rfl (lv_at hl 3 rfl) ?_
      refine lv_lload hx hb d_X0_bestSquare_73 (lv_at hl 1 rfl) ?_
      refine lv_iload hx hb d_X0_bestSquare_75 (lv_at hl 5 rfl) ?_
      refine lv_bipush (v := 65) hx hb d_X0_bestSquare_77 (by decide) ?_
      refine lv_bipush (v := 14) hx hb d_X0_bestSquare_79 (by decide) ?_
      refine vp_callSi (W.runS (As := [.long a, .long b, .long (td_low left), .int most, .int 65, .int 14]) (rest := []) ⟨hx, hb, hml, hown, hts⟩ (m_X0_worthOf_open l 13 (m_X0_worth l 13 (by decide)) a b (td_low left) most 65) (va_cwS 6 hts (tw_S ml_X0_181 st_X0_worthOf in_X0 kw_X0_worthOf) rfl rfl rfl (by decide +kernel) ⟨Nat.le_of_ble_eq_true rfl, Nat.le_of_ble_eq_true rfl⟩) ⟨fun _ _ _ _ q => q, fun U hU hW => ⟨rfl, trivial⟩⟩ rfl rfl hl.1 rfl (lv_room (Nat.le_of_ble_eq_true rfl)) d_X0_bestSquare_81 ⟨Nat.le_refl _, Nat.le_refl _⟩) (fun r hq => ?_)
      subst hq
      refine lv_topi (fun v ev => ?_)
      rw [← ev] at hacc
      refine lv_istore hx hb d_X0_bestSquare_84 hl (by decide) rfl (fun ls hl => ?_)
      have hl : lv_has ls 14 [(13, .int v), (4, .long (left ^^^ (td_low left))), (11, .long (td_low left)), (0, .long a), (2, .long b), (6, .long ch), (8, .int most), (9, .int (nI N)), (10, .int (nI i))] := hl
      refine lv_iload hx hb d_X0_bestSquare_86 (lv_at hl 0 rfl) ?_
      refine lv_iload hx hb d_X0_bestSquare_88 (lv_at hl 6 rfl) ?_
      refine lv_icmp_le (tgt := 101) hx hb d_X0_bestSquare_90 (by decide) (fun h5 => ?_) (fun h5 => ?_)
      · rw [if_neg (Int32.not_lt.mpr h5)] at hacc
        refine lv_iinc (k := 8) (v := (nI (i + 1))) hx hb d_X0_bestSquare_101 hl rfl ((nI_succ i).symm) (by decide) rfl (fun ls hl => ?_)
        have hl : lv_has ls 14 [(10, .int (nI (i + 1))), (13, .int v), (4, .long (left ^^^ (td_low left))), (11, .long (td_low left)), (0, .long a), (2, .long b), (6, .long ch), (8, .int most), (9, .int (nI N))] := hl
        refine lv_goto (tgt := 49) hx hb d_X0_bestSquare_104 (by decide) ?_
        have hl1 := lv_sub hl [4, 5, 2, 6, 7, 8, 0] rfl
        exact ih (i + 1, left ^^^ td_low left, ch, most) _ (by show N - (i + 1) < N - i; omega) ⟨⟨hiN, hacc⟩, hl1⟩
      · rw [if_pos (Int32.not_le.mp h5)] at hacc
        refine lv_iload hx hb d_X0_bestSquare_93 (lv_at hl 0 rfl) ?_
        refine lv_istore hx hb d_X0_bestSquare_95 hl (by decide) rfl (fun ls hl => ?_)
        have hl : lv_has ls 14 [(8, .int v), (13, .int v), (4, .long (left ^^^ (td_low left))), (11, .long (td_low left)), (0, .long a), (2, .long b), (6, .long ch), (9, .int (nI N)), (10, .int (nI i))] := hl
        refine lv_lload hx hb d_X0_bestSquare_97 (lv_at hl 3 rfl) ?_
        refine lv_lstore hx hb d_X0_bestSquare_99 hl (by decide) rfl (fun ls hl => ?_)
        have hl : lv_has ls 14 [(6, .long (td_low left)), (8, .int v), (13, .int v), (4, .long (left ^^^ (td_low left))), (11, .long (td_low left)), (0, .long a), (2, .long b), (9, .int (nI N)), (10, .int (nI i))] := hl
        refine lv_iinc (k := 8) (v := (nI (i + 1))) hx hb d_X0_bestSquare_101 hl rfl ((nI_succ i).symm) (by decide) rfl (fun ls hl => ?_)
        have hl : lv_has ls 14 [(10, .int (nI (i + 1))), (6, .long (td_low left)), (8, .int v), (13, .int v), (4, .long (left ^^^ (td_low left))), (11, .long (td_low left)), (0, .long a), (2, .long b), (9, .int (nI N))] := hl
        refine lv_goto (tgt := 49) hx hb d_X0_bestSquare_104 (by decide) ?_
        have hl1 := lv_sub hl [6, 7, 4, 1, 2, 8, 0] rfl
        exact ih (i + 1, left ^^^ td_low left, td_low left, v) _ (by show N - (i + 1) < N - i; omega) ⟨⟨hiN, hacc⟩, hl1⟩
  · refine td_joini 31 ls [] (fun x_ => x_ = td_best a b) (fun x_ ex => ?_) (fun J => ?_)
    · exact W.iret (v := x_) hx hb hr (fun t ht hW => ⟨_, rfl, ex, ht⟩) (fun _ h => nomatch h) d_X0_bestSquare_31
    · refine lv_lload_n hx hb d_X0_bestSquare_14 rfl (lv_at hl 2 rfl) ?_
      refine lv_lload_n hx hb d_X0_bestSquare_15 rfl (lv_at hl 1 rfl) ?_
      refine vp_callSl (W.runS (As := [.long b, .long a]) (rest := []) ⟨hx, hb, hml, hown, hts⟩ (m_X0_movesOf l b a) (va_cwS 2 hts (tw_S ml_X0_54 st_X0_movesOf in_X0 kw_X0_movesOf) rfl rfl rfl (by decide +kernel) ⟨Nat.le_of_ble_eq_true rfl, Nat.le_of_ble_eq_true rfl⟩) ⟨fun _ _ _ _ q => q, fun U hU hW => ⟨rfl, trivial⟩⟩ rfl rfl hl.1 rfl (lv_room (Nat.le_of_ble_eq_true rfl)) d_X0_bestSquare_16 ⟨Nat.le_refl _, Nat.le_refl _⟩) (fun r hq => ?_)
      subst hq
      refine lv_lconst (v := 0) hx hb d_X0_bestSquare_19 (by decide) ?_
      refine td_lne (tgt := 29) hx hb d_X0_bestSquare_20 d_X0_bestSquare_21 (by decide) (fun h2 => ?_) (fun h2 => ?_)
      · refine lv_bipush (v := 64) hx hb d_X0_bestSquare_29 (by decide) ?_
        exact J _ (by unfold td_best; rw [if_pos h1, if_neg h2])
      · refine lv_bipush (v := 65) hx hb d_X0_bestSquare_24 (by decide) ?_
        refine lv_goto (tgt := 31) hx hb d_X0_bestSquare_26 (by decide) ?_
        exact J _ (by unfold td_best; rw [if_pos h1, if_pos h2])
end
section
/-! what a throw needs of the state: the two statics of Throwable, words on casts and declarations, the texts -/
def td_iae : String := "java/lang/IllegalArgumentException"
def td_ise : String := "java/lang/IllegalStateException"
def td_nse : String := "java/util/NoSuchElementException"
def td_names : List String := ["java/lang/RuntimeException", "java/lang/Exception"]
def td_strs : List (Nat × String) := [(30, "a square is in both"), (154, "player is not 0 or 1"), (58, "square is not 0 .. 63"), (79, "no move, and no pass that must be made"), (86, "the row is full"), (95, "the row is empty"), (102, "n is not 0 .. 4"), (156, "more than 7 empty squares"), (122, "the row would be too long")]
def td_X (b0 : Nat) (U : State) : Prop :=
  vx_Zq Bundle.tN "UNASSIGNED_STACK" Bundle.steD (fun q => b0 ≤ q) U U.heap ∧ vx_Zq Bundle.tN "SUPPRESSED_SENTINEL" Bundle.listD (fun q => b0 ≤ q) U U.heap ∧
  va_Nw (.castable td_iae td_iae) U ∧ va_Nw (.castable td_ise td_ise) U ∧ va_Nw (.castable td_nse td_nse) U ∧
  va_Nw (.declares (Bundle.initS "java/lang/RuntimeException")) U ∧ va_Nw (.declares (Bundle.initS "java/lang/Exception")) U ∧ va_Nw (.declares (Bundle.initS "java/lang/Throwable")) U ∧
  ∀ q ∈ td_strs, ∃ sa, vk_R RX0 q.1 q.2 sa U
theorem td_X.at {b0 : Nat} {s U : State} (h : td_X b0 s) (hW : s.WarmedH U.vm) {H : Heap} (hU : U.heap = H) (hk : ∀ q : Nat, q < s.heap.size → q < b0 → H[q]? = s.heap[q]?) : td_X b0 U := by
  obtain ⟨h1, h2, h3, h4, h5, h6, h7, h8, h9⟩ := h
  refine ⟨?_, ?_, va_Nw.warmC hW h3, va_Nw.warmC hW h4, va_Nw.warmC hW h5, va_Nw.warmD hW h6, va_Nw.warmD hW h7, va_Nw.warmD hW h8, fun q hq => ?_⟩
  · rw [hU]; exact vx_Zq.kept (vx_Zq.moved hW.alike h1) (fun a h10 h11 => hk a h10 (Nat.lt_of_not_le h11))
  · rw [hU]; exact vx_Zq.kept (vx_Zq.moved hW.alike h2) (fun a h10 h11 => hk a h10 (Nat.lt_of_not_le h11))
  · obtain ⟨sa, h10⟩ := h9 q hq
    exact ⟨sa, vk_R.warm hW h10⟩
theorem td_X.blind {b0 : Nat} {U : State} {g : JFrame} {mk : MethodId} {a : Array Value} (h : td_X b0 U) : td_X b0 (U.calling g mk a) :=
  td_X.at h (State.WarmedH.refl U) (H := U.heap) rfl (fun _ _ _ => rfl)

theorem in_iae : Cond.initialized td_iae ∈ tw := tw_t (i := 6) (by decide +kernel) (by decide +kernel)
theorem ha_iae : ((vx_atS RX0 32 td_iae td_names).filter goodWord).all (fun w => decide (w ∈ tw)) = true := by decide +kernel
theorem hb_iae : ∀ w ∈ (vx_atS RX0 32 td_iae td_names).filter (fun w => !goodWord w), w ∈ [Cond.castable td_iae td_iae, .declares (Bundle.initS "java/lang/RuntimeException"), .declares (Bundle.initS "java/lang/Exception"), .declares (Bundle.initS "java/lang/Throwable")] := by decide +kernel
theorem hg_iae : ∀ w ∈ Cond.classLink RX0 28 td_iae :: Cond.initialized td_iae :: vx_atS RX0 32 td_iae td_names, vx_ot w = true := by decide +kernel
theorem td_hat_iae {args : Array Value} {s : State} {b0 : Nat} (hts : ∀ w ∈ tw, w.before args s = true) (h : td_X b0 s) : ∀ w ∈ vx_atS RX0 32 td_iae td_names, w.before args s = true := by
  obtain ⟨h1, h2, h3, h4, h5, h6, h7, h8, h9⟩ := h
  exact vx_hat (fun w hw => hts w (of_decide_eq_true (List.all_eq_true.mp ha_iae w hw))) hb_iae (vx_c (va_Nw.use rfl h3) (vx_c (va_Nw.use rfl h6) (vx_c (va_Nw.use rfl h7) (vx_c (va_Nw.use rfl h8) vx_n))))
section THiae
variable {p : Program} {l : Launch} {e : Env} {R : Room} {s : State} {m : MethodId} {args : Array Value} {below : List Frame} {meth : Method} {c : Code} {H : Heap} {locs : List Loc} {cells slots : Nat}
variable {mc ms : Nat} {ls : Array Slot} {rest : List Value} {Qc : Array Value → State → Outcome → State → Prop}
theorem td_thr_iae {cc : ByteArray} {pc : Nat} {A free : Nat → Prop} {PX : String → Prop} {b0 : Nat} (k : Nat) {is : Nat} {text : String} (hstr : td_strs[k]? = some (is, text)) (hexec : p.tables.exec = Jvm.exec) (hb : c.code = cc) (hl : l.stackTraces = false) (hown : s.vm.findClass RX0 = some m.cls) (hts : ∀ w ∈ tw, w.before args s = true) (hX : td_X b0 s) (hA : ∀ q, A q → b0 ≤ q) (hS : va_S A s.heap H locs) (hf : ∀ z ∈ locs, free z.base) (hsize : ls.size = c.maxLocals)
    (d0 : decode cc pc = .ok (.new 28, 3)) (d3 : decode cc (pc + 3) = .ok (.dup, 1)) (d4 : decode cc (pc + 4) = .ok (.ldc is, 2)) (d6 : decode cc (pc + 6) = .ok (.invokespecial 32, 3)) (d9 : decode cc (pc + 9) = .ok (.athrow, 1))
    (hout : ∀ x ∈ c.exceptionTable.toList, False) (hRf : 6 ≤ R.frames) (hRl : (rest.map fun v => v.category).sum + 82 ≤ R.locals) (hRc : cells + 1 ≤ R.cells) (hRs : slots + 6 ≤ R.slots) (hlocks : meth.locks = false) (hPX : PX td_iae) (hc : cells + 1 ≤ mc) (hs : slots + 6 ≤ ms) :
    W p l e R s m args below meth c H locs cells slots (vx_MQ below Qc (vx_X (fun _ : Unit => True) (fun E _ _ => PX E) A) args s mc ms free) (F0 m pc ls rest) := by
  obtain ⟨sa, hsa⟩ := hX.2.2.2.2.2.2.2.2 (is, text) (List.mem_of_getElem? hstr)
  exact vx_throwS (own := RX0) (cls := td_iae) (text := text) (names := td_names) (ik := 28) (is := is) (ic := 32) (A := A) hexec hb hl hown (by decide +kernel) (by decide +kernel) (hts _ cl_X0_28) (hts _ in_iae) hsa (td_hat_iae hts hX) hg_iae
    (hX.1.narrow hA) (hX.2.1.narrow hA) hS hsize d0 d3 d4 d6 d9 (fun x hx => (hout x hx).elim) (by show 2 + 3 < R.frames; omega) (by show _ + (13 * (2 + 1) + 43) ≤ R.locals; omega) hRc hRs hlocks
    (fun t hal hz hq => ⟨(), trivial, hPX, Nat.le_trans hS.1 hz, fun q h1 h2 => (hq q (Nat.lt_of_lt_of_le h1 hS.1)).trans (hS.2.1 q h1 h2)⟩) hf hc hs
end THiae
theorem in_ise : Cond.initialized td_ise ∈ tw := tw_t (i := 7) (by decide +kernel) (by decide +kernel)
theorem ha_ise : ((vx_atS RX0 88 td_ise td_names).filter goodWord).all (fun w => decide (w ∈ tw)) = true := by decide +kernel
theorem hb_ise : ∀ w ∈ (vx_atS RX0 88 td_ise td_names).filter (fun w => !goodWord w), w ∈ [Cond.castable td_ise td_ise, .declares (Bundle.initS "java/lang/RuntimeException"), .declares (Bundle.initS "java/lang/Exception"), .declares (Bundle.initS "java/lang/Throwable")] := by decide +kernel
theorem hg_ise : ∀ w ∈ Cond.classLink RX0 84 td_ise :: Cond.initialized td_ise :: vx_atS RX0 88 td_ise td_names, vx_ot w = true := by decide +kernel
theorem td_hat_ise {args : Array Value} {s : State} {b0 : Nat} (hts : ∀ w ∈ tw, w.before args s = true) (h : td_X b0 s) : ∀ w ∈ vx_atS RX0 88 td_ise td_names, w.before args s = true := by
  obtain ⟨h1, h2, h3, h4, h5, h6, h7, h8, h9⟩ := h
  exact vx_hat (fun w hw => hts w (of_decide_eq_true (List.all_eq_true.mp ha_ise w hw))) hb_ise (vx_c (va_Nw.use rfl h4) (vx_c (va_Nw.use rfl h6) (vx_c (va_Nw.use rfl h7) (vx_c (va_Nw.use rfl h8) vx_n))))
section THise
variable {p : Program} {l : Launch} {e : Env} {R : Room} {s : State} {m : MethodId} {args : Array Value} {below : List Frame} {meth : Method} {c : Code} {H : Heap} {locs : List Loc} {cells slots : Nat}
variable {mc ms : Nat} {ls : Array Slot} {rest : List Value} {Qc : Array Value → State → Outcome → State → Prop}
theorem td_thr_ise {cc : ByteArray} {pc : Nat} {A free : Nat → Prop} {PX : String → Prop} {b0 : Nat} (k : Nat) {is : Nat} {text : String} (hstr : td_strs[k]? = some (is, text)) (hexec : p.tables.exec = Jvm.exec) (hb : c.code = cc) (hl : l.stackTraces = false) (hown : s.vm.findClass RX0 = some m.cls) (hts : ∀ w ∈ tw, w.before args s = true) (hX : td_X b0 s) (hA : ∀ q, A q → b0 ≤ q) (hS : va_S A s.heap H locs) (hf : ∀ z ∈ locs, free z.base) (hsize : ls.size = c.maxLocals)
    (d0 : decode cc pc = .ok (.new 84, 3)) (d3 : decode cc (pc + 3) = .ok (.dup, 1)) (d4 : decode cc (pc + 4) = .ok (.ldc is, 2)) (d6 : decode cc (pc + 6) = .ok (.invokespecial 88, 3)) (d9 : decode cc (pc + 9) = .ok (.athrow, 1))
    (hout : ∀ x ∈ c.exceptionTable.toList, False) (hRf : 6 ≤ R.frames) (hRl : (rest.map fun v => v.category).sum + 82 ≤ R.locals) (hRc : cells + 1 ≤ R.cells) (hRs : slots + 6 ≤ R.slots) (hlocks : meth.locks = false) (hPX : PX td_ise) (hc : cells + 1 ≤ mc) (hs : slots + 6 ≤ ms) :
    W p l e R s m args below meth c H locs cells slots (vx_MQ below Qc (vx_X (fun _ : Unit => True) (fun E _ _ => PX E) A) args s mc ms free) (F0 m pc ls rest) := by
  obtain ⟨sa, hsa⟩ := hX.2.2.2.2.2.2.2.2 (is, text) (List.mem_of_getElem? hstr)
  exact vx_throwS (own := RX0) (cls := td_ise) (text := text) (names := td_names) (ik := 84) (is := is) (ic := 88) (A := A) hexec hb hl hown (by decide +kernel) (by decide +kernel) (hts _ cl_X0_84) (hts _ in_ise) hsa (td_hat_ise hts hX) hg_ise
    (hX.1.narrow hA) (hX.2.1.narrow hA) hS hsize d0 d3 d4 d6 d9 (fun x hx => (hout x hx).elim) (by show 2 + 3 < R.frames; omega) (by show _ + (13 * (2 + 1) + 43) ≤ R.locals; omega) hRc hRs hlocks
    (fun t hal hz hq => ⟨(), trivial, hPX, Nat.le_trans hS.1 hz, fun q h1 h2 => (hq q (Nat.lt_of_lt_of_le h1 hS.1)).trans (hS.2.1 q h1 h2)⟩) hf hc hs
end THise
/-- what lies below the old heap's end is as it was -/
theorem td_keep {D : va_G} {cl : List vw_C} {ws : va_W} {H H1 : Heap} (hP : va_P D cl ws H) (hk : ∀ q : Nat, q < H.size → ¬ H.size ≤ q → H1[q]? = H[q]?) : va_P D cl ws H1 :=
  va_P.kept hP (fun k q h => hk q.1 (hP k q h).lt (Nat.not_le.mpr (hP k q h).lt))
/-- a body with handlers that itself throws nothing -/
theorem td_ofWH {l : Launch} {y : MethodName} {ws ws' : List Cond} {rm : Room} {Pc : Array Value → State → Prop} {Qc : Array Value → State → Outcome → State → Prop} {mc ms : Nat} {free : Addr → Prop} {cc : ByteArray} {maxL : Nat} {ret : Option FieldType} {hh : List (Nat × Nat × Nat × Nat)}
    (hy : plainName y.cls = true) (hw : ws = Cond.codeWith y cc maxL ret hh :: ws')
    (body : ∀ p e s m args below meth c s₁, BodyLoose p l y (headSpec ws rm) cc maxL ret e s m args below meth c s₁ → c.maxLocals = maxL → c.exceptionTable.toList = tableOf hh → Pc args s →
      W p l e (headSpec ws rm).room s m args below meth c s.heap [] 0 0 (MQ below Qc args s mc ms free) (entryFrame m args maxL)) : Met l y ws rm Pc Qc mc ms free := by
  refine MetFree.of_bodyS (code := cc) (maxLocals := maxL) (ret := ret) hy ?_ ?_
  · intro args s m h hn
    obtain ⟨m9, meth, c, hn9, h1, h2, h3, h4, -, h5, h6, -⟩ := Cond.codeWith_spec (atoms_spec (ws := ws) h _ (by rw [hw]; exact List.mem_cons_self))
    cases hn.symm.trans hn9
    exact ⟨meth, c, h1, h2, h3, h4, h5, h6⟩
  · intro p e s m args below meth c s₁ B hml hP _
    have hh0 : s₁.heap = s.heap := by rw [B.state]; rfl
    have ht : c.exceptionTable.toList = tableOf hh := vx_table (x := y) B (atoms_spec (ws := ws) B.pre _ (by rw [hw]; exact List.mem_cons_self))
    obtain ⟨t, a1, o, b1, b2, b3⟩ := body p e s m args below meth c s₁ B hml ht hP s₁ hh0 (Stand.of_body B)
    exact ⟨t, o, a1, b1, b2, ⟨b3.1, b3.2⟩⟩
end
section
/-! readers that may throw -/
def td_pl (q : Int32) : Prop := q = 0 ∨ q = 1
def td_emp (x y : Int64) : Int64 := (x ||| y) ^^^ (-1)
def td_few (x y : Int64) : Prop := td_pop (td_emp x y) ≤ 7
def td_turns (x y : Int64) (q : Int32) : Int64 := if (td_on q &&& td_emp x y) = 0 then 0 else td_turned x y (td_on q)
def td_border (x y : Int64) (pl q : Int32) : Int32 := td_pop (td_near (td_of x y pl q) &&& td_emp x y)
def td_safe (d : Int64) : Int64 := (((d &&& td_held d 1 (-9187201950435737472) 72340172838076673) &&& td_held d 8 (-72057594037927936) 255) &&& td_held d 9 (-35887507618889600) 72340172838076927) &&& td_held d 7 (-71775015237779199) (-9187201950435737345)
set_option maxHeartbeats 4000000 in
set_option maxRecDepth 100000 in
theorem m_X0_requirePlayer (l : Launch) (hfl : l.stackTraces = false) (sz b0 : Nat) (hb0 : b0 ≤ sz) (q : Int32) : vx_Met l y_X0_requirePlayer (k_X0_requirePlayer :: tw) ({ frames := 6, cells := 1, slots := 6, locals := 82 }) (va_Pc [.int q] (fun U => U.heap.size = sz ∧ td_X b0 U)) (va_Qv (fun (_ : Unit) => td_pl q) (fun _ _ => True) (fun q => sz ≤ q)) (vx_X (fun _ : Unit => True) (fun E _ _ => E = td_iae ∧ ¬ td_pl q) (fun q => sz ≤ q)) 1 6 (fun q => sz ≤ q) := by
  refine vx_ofW (cc := c_X0_requirePlayer) (maxL := 1) (ret := none) (by decide) rfl ?_
  intro p e s m args below meth c s₁ B hml hno hv
  obtain ⟨rfl, hsz, hX⟩ := hv
  have hx := B.exec
  have hb := B.bytes
  have hr := B.returns
  have hts : ∀ w ∈ tw, w.before _ s = true := fun w h => atoms_spec (ws := k_X0_requirePlayer :: tw) B.pre w (List.mem_cons_of_mem _ h)
  have hown : s.vm.findClass RX0 = some m.cls := findClass_of_methodNamed B.named
  have hlocks := B.notSynchronized
  subst hsz
  have hS : va_S (fun q => s.heap.size ≤ q) s.heap s.heap [] := va_S.rf
  have hl := lv_entry ([.int q]) (n := 1) (Nat.le_of_ble_eq_true rfl)
  rw [lg_entry_eq]
  generalize (lg_sl ([.int q]) ++ List.replicate (1 - (lg_sl ([.int q])).length) Slot.unset).toArray = ls at hl ⊢
  have hl : lv_has ls 1 [(0, .int q)] := hl
  refine lv_iload_n hx hb d_X0_requirePlayer_0 rfl (lv_at hl 0 rfl) ?_
  refine lv_if_eq (tgt := 19) hx hb d_X0_requirePlayer_1 (by decide) (fun h0 => ?_) (fun h0 => ?_)
  · refine vx_ret (W.widen (k := 1) (n := 6) (Nat.le_of_ble_eq_true rfl) (Nat.le_of_ble_eq_true rfl) ?_)
    exact W.vret hx hb hr (fun t ht hW => ⟨⟨(), rfl, Or.inl h0, trivial⟩, hS.F ht⟩) hS.2.2 d_X0_requirePlayer_19
  · refine lv_iload_n hx hb d_X0_requirePlayer_4 rfl (lv_at hl 0 rfl) ?_
    refine lv_iconst (v := 1) hx hb d_X0_requirePlayer_5 (by decide) ?_
    refine lv_icmp_eq (tgt := 19) hx hb d_X0_requirePlayer_6 (by decide) (fun h1 => ?_) (fun h1 => ?_)
    · refine vx_ret (W.widen (k := 1) (n := 6) (Nat.le_of_ble_eq_true rfl) (Nat.le_of_ble_eq_true rfl) ?_)
      exact W.vret hx hb hr (fun t ht hW => ⟨⟨(), rfl, Or.inr h1, trivial⟩, hS.F ht⟩) hS.2.2 d_X0_requirePlayer_19
    · exact td_thr_iae 1 rfl hx hb hfl hown hts hX (fun q h => Nat.le_trans hb0 h) hS hS.2.2 (by rw [hml]; exact hl.1) d_X0_requirePlayer_9 d_X0_requirePlayer_12 d_X0_requirePlayer_13 d_X0_requirePlayer_15 d_X0_requirePlayer_18 hno (Nat.le_of_ble_eq_true rfl) (Nat.le_of_ble_eq_true rfl) (Nat.le_of_ble_eq_true rfl) (Nat.le_of_ble_eq_true rfl) hlocks (⟨rfl, fun z => z.elim h0 h1⟩) (Nat.le_of_ble_eq_true rfl) (Nat.le_of_ble_eq_true rfl)
set_option maxHeartbeats 4000000 in
set_option maxRecDepth 100000 in
theorem m_X0_requireFewEmpty (l : Launch) (hfl : l.stackTraces = false) (D : va_G) (sz b0 : Nat) (hb0 : b0 ≤ sz) (o : Nat) (x y : Int64) (pl md : Int32) (v4 v5 v6 : Value) : vx_Met l y_X0_requireFewEmpty (k_X0_requireFewEmpty :: tw) ({ frames := 6, cells := 1, slots := 6, locals := 82 }) (va_Pc [.ref o] (fun U => U.heap.size = sz ∧ va_P D tdC [(o, .inr (0, [.long x, .long y, .int pl, .int md, v4, v5, v6]))] U.heap ∧ va_K D tdC [] U ∧ td_X b0 U)) (va_Qv (fun (_ : Unit) => td_few x y) (fun _ _ => True) (fun q => sz ≤ q)) (vx_X (fun _ : Unit => True) (fun E _ _ => E = td_ise ∧ ¬ td_few x y) (fun q => sz ≤ q)) 1 6 (fun q => sz ≤ q) := by
  refine vx_ofW (cc := c_X0_requireFewEmpty) (maxL := 1) (ret := none) (by decide) rfl ?_
  intro p e s m args below meth c s₁ B hml hno hv
  obtain ⟨rfl, hsz, hP, hK, hX⟩ := hv
  have hx := B.exec
  have hb := B.bytes
  have hr := B.returns
  have hts : ∀ w ∈ tw, w.before _ s = true := fun w h => atoms_spec (ws := k_X0_requireFewEmpty :: tw) B.pre w (List.mem_cons_of_mem _ h)
  have hown : s.vm.findClass RX0 = some m.cls := findClass_of_methodNamed B.named
  have hlocks := B.notSynchronized
  subst hsz
  have hS : va_S (fun q => s.heap.size ≤ q) s.heap s.heap [] := va_S.rf
  have hP : va_P D tdC [(o, .inr (0, [.long x, .long y, .int pl, .int md, v4, v5, v6]))] s.heap := hP
  have hl := lv_entry ([.ref o]) (n := 1) (Nat.le_of_ble_eq_true rfl)
  rw [lg_entry_eq]
  generalize (lg_sl ([.ref o]) ++ List.replicate (1 - (lg_sl ([.ref o])).length) Slot.unset).toArray = ls at hl ⊢
  have hl : lv_has ls 1 [(0, .ref o)] := hl
  refine lv_aload_n hx hb d_X0_requireFewEmpty_0 rfl (lv_at hl 0 rfl) ?_
  refine vp_callSl (W.runV (b := o) (C := RX0) (As := []) (rest := []) ⟨hx, hb, hml, hown, hts⟩ (m_X0_empty l D o x y pl md v4 v5 v6) (cwV 0 hts (tw_V ml_X0_63 im_X0_empty se_X0_empty in_X0 kw_X0_empty) rfl rfl rfl (by decide +kernel) ⟨Nat.le_of_ble_eq_true rfl, Nat.le_of_ble_eq_true rfl⟩) ⟨fun a U g mk q => ⟨q.1, q.2.1, va_K.moved (u := U) (U := U.calling g mk a) (Vm.Alike.refl U.vm) q.2.2⟩, va_recv (q0 := 0) (ci := 0) hK hP rfl rfl, fun U hU hW => ⟨rfl, by rw [hU]; exact hP, va_K.moved hW.alike hK⟩⟩ rfl rfl hl.1 rfl (lv_room (Nat.le_of_ble_eq_true rfl)) d_X0_requireFewEmpty_1 ⟨Nat.zero_le _, Nat.zero_le _⟩) (fun r hq => ?_)
  subst hq
  refine vp_callSi (W.runS (As := [.long (td_emp x y)]) (rest := []) ⟨hx, hb, hml, hown, hts⟩ (m_JL_bitCount l (td_emp x y)) (va_cwS 1 hts (tw_S ml_X0_128 st_JL_bitCount in_JL kw_JL_bitCount) rfl rfl rfl (by decide +kernel) ⟨Nat.le_of_ble_eq_true rfl, Nat.le_of_ble_eq_true rfl⟩) ⟨fun _ _ _ _ q => q, fun U hU hW => ⟨rfl, trivial⟩⟩ rfl rfl hl.1 rfl (lv_room (Nat.le_of_ble_eq_true rfl)) d_X0_requireFewEmpty_4 ⟨Nat.zero_le _, Nat.zero_le _⟩) (fun r hq => ?_)
  subst hq
  refine lv_bipush (v := 7) hx hb d_X0_requireFewEmpty_7 (by decide) ?_
  refine lv_icmp_le (tgt := 22) hx hb d_X0_requireFewEmpty_9 (by decide) (fun h0 => ?_) (fun h0 => ?_)
  · refine vx_ret (W.widen (k := 1) (n := 6) (Nat.le_of_ble_eq_true rfl) (Nat.le_of_ble_eq_true rfl) ?_)
    exact W.vret hx hb hr (fun t ht hW => ⟨⟨(), rfl, h0, trivial⟩, hS.F ht⟩) hS.2.2 d_X0_requireFewEmpty_22
  · exact td_thr_ise 7 rfl hx hb hfl hown hts hX (fun q h => Nat.le_trans hb0 h) hS hS.2.2 (by rw [hml]; exact hl.1) d_X0_requireFewEmpty_12 d_X0_requireFewEmpty_15 d_X0_requireFewEmpty_16 d_X0_requireFewEmpty_18 d_X0_requireFewEmpty_21 hno (Nat.le_of_ble_eq_true rfl) (Nat.le_of_ble_eq_true rfl) (Nat.le_of_ble_eq_true rfl) (Nat.le_of_ble_eq_true rfl) hlocks (⟨rfl, h0⟩) (Nat.le_of_ble_eq_true rfl) (Nat.le_of_ble_eq_true rfl)
set_option maxHeartbeats 4000000 in
set_option maxRecDepth 100000 in
theorem m_X0_discs (l : Launch) (hfl : l.stackTraces = false) (D : va_G) (sz b0 : Nat) (hb0 : b0 ≤ sz) (o : Nat) (x y : Int64) (pl md : Int32) (v4 v5 v6 : Value) (q : Int32) : vx_Met l y_X0_discs (k_X0_discs :: tw) ({ frames := 7, cells := 1, slots := 6, locals := 102 }) (va_Pc [.ref o, .int q] (fun U => U.heap.size = sz ∧ va_P D tdC [(o, .inr (0, [.long x, .long y, .int pl, .int md, v4, v5, v6]))] U.heap ∧ va_K D tdC [] U ∧ td_X b0 U)) (va_Ql (fun (r : Int64) (_ : Unit) => td_pl q ∧ r = td_of x y pl q) (fun _ _ => True) (fun q => sz ≤ q)) (vx_X (fun _ : Unit => True) (fun E _ _ => E = td_iae ∧ ¬ td_pl q) (fun q => sz ≤ q)) 1 6 (fun q => sz ≤ q) := by
  refine vx_ofW (cc := c_X0_discs) (maxL := 2) (ret := (some .long)) (by decide) rfl ?_
  intro p e s m args below meth c s₁ B hml hno hv
  obtain ⟨rfl, hsz, hP, hK, hX⟩ := hv
  have hx := B.exec
  have hb := B.bytes
  have hr := B.returns
  have hts : ∀ w ∈ tw, w.before _ s = true := fun w h => atoms_spec (ws := k_X0_discs :: tw) B.pre w (List.mem_cons_of_mem _ h)
  have hown : s.vm.findClass RX0 = some m.cls := findClass_of_methodNamed B.named
  have hlocks := B.notSynchronized
  subst hsz
  have hS : va_S (fun q => s.heap.size ≤ q) s.heap s.heap [] := va_S.rf
  have hP : va_P D tdC [(o, .inr (0, [.long x, .long y, .int pl, .int md, v4, v5, v6]))] s.heap := hP
  have hl := lv_entry ([.ref o, .int q]) (n := 2) (Nat.le_of_ble_eq_true rfl)
  rw [lg_entry_eq]
  generalize (lg_sl ([.ref o, .int q]) ++ List.replicate (2 - (lg_sl ([.ref o, .int q])).length) Slot.unset).toArray = ls at hl ⊢
  have hl : lv_has ls 2 [(0, .ref o), (1, .int q)] := hl
  refine lv_iload_n hx hb d_X0_discs_0 rfl (lv_at hl 1 rfl) ?_
  refine vx_callv (vx_runS (As := [.int q]) (rest := []) ⟨hx, hb, hml, hown, hts⟩ (m_X0_requirePlayer l hfl _ b0 (Nat.le_trans hb0 hS.1) q) (va_cwS 1 hts (tw_S ml_X0_35 st_X0_requirePlayer in_X0 kw_X0_requirePlayer) rfl rfl rfl (by decide +kernel) ⟨Nat.le_of_ble_eq_true rfl, Nat.le_of_ble_eq_true rfl⟩) ⟨fun a U g mk q => ⟨q.1, q.2.1, td_X.blind q.2.2⟩, fun U hU hW => ⟨rfl, by rw [hU], td_X.at hX hW hU (fun q h1 h2 => hS.2.1 q h1 (fun z => Nat.not_le.mpr h2 (Nat.le_trans hb0 z)))⟩⟩ rfl rfl hl.1 rfl (lv_room (Nat.le_of_ble_eq_true rfl)) d_X0_discs_1 ⟨Nat.le_of_ble_eq_true rfl, Nat.le_of_ble_eq_true rfl⟩) hS (fun q h1 h2 => absurd h2 (Nat.not_le.mpr h1)) (fun q h => Nat.le_trans hS.1 h) (fun q h1 h2 => absurd h2 (Nat.not_le.mpr h1)) (fun E ce q9 u0 t0 H1 locs ht hal hpx hB hz1 hk1 hS hce hcv hcl => ?_) (fun u0 t0 H1 locs ht hal hq hB hz1 hk1 hS => ?_)
  · exact vx_out (E := E) (fun x hx => (hno x hx).elim) hlocks hce hcv hcl (fun t ht hal => ⟨(), trivial, hB, hS.F ht⟩) hS.2.2 (Nat.le_of_ble_eq_true rfl) (Nat.le_of_ble_eq_true rfl)
  · have hP := td_keep hP hk1
    clear ht hal hB hz1 hk1
    refine lv_aload_n hx hb d_X0_discs_4 rfl (lv_at hl 0 rfl) ?_
    refine lv_iload_n hx hb d_X0_discs_5 rfl (lv_at hl 1 rfl) ?_
    refine vp_callSl (W.runV (b := o) (C := RX0) (As := [.int q]) (rest := []) ⟨hx, hb, hml, hown, hts⟩ (m_X0_discsOf l D o x y pl md v4 v5 v6 q) (cwV 1 hts (tw_V ml_X0_39 im_X0_discsOf se_X0_discsOf in_X0 kw_X0_discsOf) rfl rfl rfl (by decide +kernel) ⟨Nat.le_of_ble_eq_true rfl, Nat.le_of_ble_eq_true rfl⟩) ⟨fun a U g mk q => ⟨q.1, q.2.1, va_K.moved (u := U) (U := U.calling g mk a) (Vm.Alike.refl U.vm) q.2.2⟩, va_recv (q0 := 0) (ci := 0) hK hP rfl rfl, fun U hU hW => ⟨rfl, by rw [hU]; exact hP, va_K.moved hW.alike hK⟩⟩ rfl rfl hl.1 rfl (lv_room (Nat.le_of_ble_eq_true rfl)) d_X0_discs_6 ⟨Nat.le_of_ble_eq_true rfl, Nat.le_of_ble_eq_true rfl⟩) (fun r h2 => ?_)
    subst h2
    refine vx_ret (W.widen (k := 1) (n := 6) (Nat.le_of_ble_eq_true rfl) (Nat.le_of_ble_eq_true rfl) ?_)
    exact W.lret (v := (td_of x y pl q)) hx hb hr (fun t ht hW => ⟨⟨_, (), rfl, ⟨hq, rfl⟩, trivial⟩, hS.F ht⟩) hS.2.2 d_X0_discs_9
set_option maxHeartbeats 4000000 in
set_option maxRecDepth 100000 in
theorem m_X0_turns (l : Launch) (hfl : l.stackTraces = false) (D : va_G) (sz b0 : Nat) (hb0 : b0 ≤ sz) (o : Nat) (x y : Int64) (pl md : Int32) (v4 v5 v6 : Value) (q : Int32) : vx_Met l y_X0_turns (k_X0_turns :: tw) ({ frames := 6, cells := 1, slots := 6, locals := 85 }) (va_Pc [.ref o, .int q] (fun U => U.heap.size = sz ∧ va_P D tdC [(o, .inr (0, [.long x, .long y, .int pl, .int md, v4, v5, v6]))] U.heap ∧ va_K D tdC [] U ∧ td_X b0 U)) (va_Ql (fun (r : Int64) (_ : Unit) => (¬ q < 0 ∧ q < 64) ∧ r = td_turns x y q) (fun _ _ => True) (fun q => sz ≤ q)) (vx_X (fun _ : Unit => True) (fun E _ _ => E = td_iae ∧ ¬ (¬ q < 0 ∧ q < 64)) (fun q => sz ≤ q)) 1 6 (fun q => sz ≤ q) := by
  refine vx_ofW (cc := c_X0_turns) (maxL := 4) (ret := (some .long)) (by decide) rfl ?_
  intro p e s m args below meth c s₁ B hml hno hv
  obtain ⟨rfl, hsz, hP, hK, hX⟩ := hv
  have hx := B.exec
  have hb := B.bytes
  have hr := B.returns
  have hts : ∀ w ∈ tw, w.before _ s = true := fun w h => atoms_spec (ws := k_X0_turns :: tw) B.pre w (List.mem_cons_of_mem _ h)
  have hown : s.vm.findClass RX0 = some m.cls := findClass_of_methodNamed B.named
  have hlocks := B.notSynchronized
  subst hsz
  have hS : va_S (fun q => s.heap.size ≤ q) s.heap s.heap [] := va_S.rf
  have hP : va_P D tdC [(o, .inr (0, [.long x, .long y, .int pl, .int md, v4, v5, v6]))] s.heap := hP
  have hl := lv_entry ([.ref o, .int q]) (n := 4) (Nat.le_of_ble_eq_true rfl)
  rw [lg_entry_eq]
  generalize (lg_sl ([.ref o, .int q]) ++ List.replicate (4 - (lg_sl ([.ref o, .int q])).length) Slot.unset).toArray = ls at hl ⊢
  have hl : lv_has ls 4 [(0, .ref o), (1, .int q)] := hl
  refine lv_iload_n hx hb d_X0_turns_0 rfl (lv_at hl 1 rfl) ?_
  refine lv_if_lt (tgt := 10) hx hb d_X0_turns_1 (by decide) (fun h0 => ?_) (fun h0 => ?_)
  · exact td_thr_iae 2 rfl hx hb hfl hown hts hX (fun q h => Nat.le_trans hb0 h) hS hS.2.2 (by rw [hml]; exact hl.1) d_X0_turns_10 d_X0_turns_13 d_X0_turns_14 d_X0_turns_16 d_X0_turns_19 hno (Nat.le_of_ble_eq_true rfl) (Nat.le_of_ble_eq_true rfl) (Nat.le_of_ble_eq_true rfl) (Nat.le_of_ble_eq_true rfl) hlocks (⟨rfl, fun z => z.1 h0⟩) (Nat.le_of_ble_eq_true rfl) (Nat.le_of_ble_eq_true rfl)
  · refine lv_iload_n hx hb d_X0_turns_4 rfl (lv_at hl 1 rfl) ?_
    refine lv_bipush (v := 64) hx hb d_X0_turns_5 (by decide) ?_
    refine lv_icmp_lt (tgt := 20) hx hb d_X0_turns_7 (by decide) (fun h1 => ?_) (fun h1 => ?_)
    · refine lv_iload_n hx hb d_X0_turns_20 rfl (lv_at hl 1 rfl) ?_
      refine vp_callSl (W.runS (As := [.int q]) (rest := []) ⟨hx, hb, hml, hown, hts⟩ (m_X0_discOn l q) (va_cwS 1 hts (tw_S ml_X0_60 st_X0_discOn in_X0 kw_X0_discOn) rfl rfl rfl (by decide +kernel) ⟨Nat.le_of_ble_eq_true rfl, Nat.le_of_ble_eq_true rfl⟩) ⟨fun _ _ _ _ q => q, fun U hU hW => ⟨rfl, trivial⟩⟩ rfl rfl hl.1 rfl (lv_room (Nat.le_of_ble_eq_true rfl)) d_X0_turns_21 ⟨Nat.le_of_ble_eq_true rfl, Nat.le_of_ble_eq_true rfl⟩) (fun r hq => ?_)
      subst hq
      refine lv_lstore_n hx hb d_X0_turns_24 rfl hl (by decide) rfl (fun ls hl => ?_)
      have hl : lv_has ls 4 [(2, .long (td_on q)), (0, .ref o), (1, .int q)] := hl
      refine lv_lload_n hx hb d_X0_turns_25 rfl (lv_at hl 0 rfl) ?_
      refine lv_aload_n hx hb d_X0_turns_26 rfl (lv_at hl 1 rfl) ?_
      refine vp_callSl (W.runV (b := o) (C := RX0) (As := []) (rest := [.long (td_on q)]) ⟨hx, hb, hml, hown, hts⟩ (m_X0_empty l D o x y pl md v4 v5 v6) (cwV 0 hts (tw_V ml_X0_63 im_X0_empty se_X0_empty in_X0 kw_X0_empty) rfl rfl rfl (by decide +kernel) ⟨Nat.le_of_ble_eq_true rfl, Nat.le_of_ble_eq_true rfl⟩) ⟨fun a U g mk q => ⟨q.1, q.2.1, va_K.moved (u := U) (U := U.calling g mk a) (Vm.Alike.refl U.vm) q.2.2⟩, va_recv (q0 := 0) (ci := 0) hK hP rfl rfl, fun U hU hW => ⟨rfl, by rw [hU]; exact hP, va_K.moved hW.alike hK⟩⟩ rfl rfl hl.1 rfl (lv_room (Nat.le_of_ble_eq_true rfl)) d_X0_turns_27 ⟨Nat.le_of_ble_eq_true rfl, Nat.le_of_ble_eq_true rfl⟩) (fun r hq => ?_)
      subst hq
      refine lv_land hx hb d_X0_turns_30 ?_
      refine lv_lconst (v := 0) hx hb d_X0_turns_31 (by decide) ?_
      refine td_joinl 52 ls [] (fun x_ => x_ = td_turns x y q) (fun x_ ex => ?_) (fun J => ?_)
      · refine vx_ret (W.widen (k := 1) (n := 6) (Nat.le_of_ble_eq_true rfl) (Nat.le_of_ble_eq_true rfl) ?_)
        exact W.lret (v := x_) hx hb hr (fun t ht hW => ⟨⟨_, (), rfl, ⟨⟨h0, h1⟩, ex⟩, trivial⟩, hS.F ht⟩) hS.2.2 d_X0_turns_52
      · refine td_lne (tgt := 40) hx hb d_X0_turns_32 d_X0_turns_33 (by decide) (fun h2 => ?_) (fun h2 => ?_)
        · refine lv_aload_n hx hb d_X0_turns_40 rfl (lv_at hl 1 rfl) ?_
          refine va_get (D := D) (ci := 0) (v := .long x) (C := RX0) (T := TX0) (N := 7) hx hb hts usX0 hown hK hP 0 rfl rfl 0 (by decide) (hts _ fl_X0_47) (fun _ h9 => h9) rfl d_X0_turns_41 ?_
          refine lv_aload_n hx hb d_X0_turns_44 rfl (lv_at hl 1 rfl) ?_
          refine va_get (D := D) (ci := 0) (v := .long y) (C := RX0) (T := TX0) (N := 7) hx hb hts usX0 hown hK hP 0 rfl rfl 1 (by decide) (hts _ fl_X0_51) (fun _ h9 => h9) rfl d_X0_turns_45 ?_
          refine lv_lload_n hx hb d_X0_turns_48 rfl (lv_at hl 0 rfl) ?_
          refine vp_callSl (W.runS (As := [.long x, .long y, .long (td_on q)]) (rest := []) ⟨hx, hb, hml, hown, hts⟩ (m_X0_turnedBy l x y (td_on q)) (va_cwS 3 hts (tw_S ml_X0_67 st_X0_turnedBy in_X0 kw_X0_turnedBy) rfl rfl rfl (by decide +kernel) ⟨Nat.le_of_ble_eq_true rfl, Nat.le_of_ble_eq_true rfl⟩) ⟨fun _ _ _ _ q => q, fun U hU hW => ⟨rfl, trivial⟩⟩ rfl rfl hl.1 rfl (lv_room (Nat.le_of_ble_eq_true rfl)) d_X0_turns_49 ⟨Nat.le_of_ble_eq_true rfl, Nat.le_of_ble_eq_true rfl⟩) (fun r hq => ?_)
          subst hq
          exact J _ (by unfold td_turns td_emp; rw [if_neg h2])
        · refine lv_lconst (v := 0) hx hb d_X0_turns_36 (by decide) ?_
          refine lv_goto (tgt := 52) hx hb d_X0_turns_37 (by decide) ?_
          exact J _ (by unfold td_turns td_emp; rw [if_pos h2])
    · exact td_thr_iae 2 rfl hx hb hfl hown hts hX (fun q h => Nat.le_trans hb0 h) hS hS.2.2 (by rw [hml]; exact hl.1) d_X0_turns_10 d_X0_turns_13 d_X0_turns_14 d_X0_turns_16 d_X0_turns_19 hno (Nat.le_of_ble_eq_true rfl) (Nat.le_of_ble_eq_true rfl) (Nat.le_of_ble_eq_true rfl) (Nat.le_of_ble_eq_true rfl) hlocks (⟨rfl, fun z => h1 z.2⟩) (Nat.le_of_ble_eq_true rfl) (Nat.le_of_ble_eq_true rfl)
set_option maxHeartbeats 4000000 in
set_option maxRecDepth 100000 in
theorem m_X0_count (l : Launch) (hfl : l.stackTraces = false) (D : va_G) (sz b0 : Nat) (hb0 : b0 ≤ sz) (o : Nat) (x y : Int64) (pl md : Int32) (v4 v5 v6 : Value) (q : Int32) : vx_Met l y_X0_count (k_X0_count :: tw) ({ frames := 8, cells := 1, slots := 6, locals := 255 }) (va_Pc [.ref o, .int q] (fun U => U.heap.size = sz ∧ va_P D tdC [(o, .inr (0, [.long x, .long y, .int pl, .int md, v4, v5, v6]))] U.heap ∧ va_K D tdC [] U ∧ td_X b0 U)) (va_Ql (fun (r : Int64) (_ : Unit) => ∃ j : Nat, j ≤ 4 ∧ q = nI j ∧ r = td_rows j x y) (fun _ _ => True) (fun q => sz ≤ q)) (vx_X (fun _ : Unit => True) (fun E _ _ => E = td_iae ∧ ¬ (¬ q < 0 ∧ q ≤ 4)) (fun q => sz ≤ q)) 1 6 (fun q => sz ≤ q) := by
  refine vx_ofW (cc := c_X0_count) (maxL := 2) (ret := (some .long)) (by decide) rfl ?_
  intro p e s m args below meth c s₁ B hml hno hv
  obtain ⟨rfl, hsz, hP, hK, hX⟩ := hv
  have hx := B.exec
  have hb := B.bytes
  have hr := B.returns
  have hts : ∀ w ∈ tw, w.before _ s = true := fun w h => atoms_spec (ws := k_X0_count :: tw) B.pre w (List.mem_cons_of_mem _ h)
  have hown : s.vm.findClass RX0 = some m.cls := findClass_of_methodNamed B.named
  have hlocks := B.notSynchronized
  subst hsz
  have hS : va_S (fun q => s.heap.size ≤ q) s.heap s.heap [] := va_S.rf
  have hP : va_P D tdC [(o, .inr (0, [.long x, .long y, .int pl, .int md, v4, v5, v6]))] s.heap := hP
  have hl := lv_entry ([.ref o, .int q]) (n := 2) (Nat.le_of_ble_eq_true rfl)
  rw [lg_entry_eq]
  generalize (lg_sl ([.ref o, .int q]) ++ List.replicate (2 - (lg_sl ([.ref o, .int q])).length) Slot.unset).toArray = ls at hl ⊢
  have hl : lv_has ls 2 [(0, .ref o), (1, .int q)] := hl
  refine lv_iload_n hx hb d_X0_count_0 rfl (lv_at hl 1 rfl) ?_
  refine lv_if_lt (tgt := 9) hx hb d_X0_count_1 (by decide) (fun h0 => ?_) (fun h0 => ?_)
  · exact td_thr_iae 6 rfl hx hb hfl hown hts hX (fun q h => Nat.le_trans hb0 h) hS hS.2.2 (by rw [hml]; exact hl.1) d_X0_count_9 d_X0_count_12 d_X0_count_13 d_X0_count_15 d_X0_count_18 hno (Nat.le_of_ble_eq_true rfl) (Nat.le_of_ble_eq_true rfl) (Nat.le_of_ble_eq_true rfl) (Nat.le_of_ble_eq_true rfl) hlocks (⟨rfl, fun z => z.1 h0⟩) (Nat.le_of_ble_eq_true rfl) (Nat.le_of_ble_eq_true rfl)
  · refine lv_iload_n hx hb d_X0_count_4 rfl (lv_at hl 1 rfl) ?_
    refine lv_iconst (v := 4) hx hb d_X0_count_5 (by decide) ?_
    refine lv_icmp_le (tgt := 19) hx hb d_X0_count_6 (by decide) (fun h1 => ?_) (fun h1 => ?_)
    · obtain ⟨j, hj, ej⟩ := nI_of2 (n := 4) (M := 4) rfl h0 h1
      subst ej
      have hl : lv_has ls 2 [(0, .ref o), (1, .int (nI j))] := hl
      refine lv_aload_n hx hb d_X0_count_19 rfl (lv_at hl 0 rfl) ?_
      refine va_get (D := D) (ci := 0) (v := .long x) (C := RX0) (T := TX0) (N := 7) hx hb hts usX0 hown hK hP 0 rfl rfl 0 (by decide) (hts _ fl_X0_47) (fun _ h9 => h9) rfl d_X0_count_20 ?_
      refine lv_aload_n hx hb d_X0_count_23 rfl (lv_at hl 0 rfl) ?_
      refine va_get (D := D) (ci := 0) (v := .long y) (C := RX0) (T := TX0) (N := 7) hx hb hts usX0 hown hK hP 0 rfl rfl 1 (by decide) (hts _ fl_X0_51) (fun _ h9 => h9) rfl d_X0_count_24 ?_
      refine lv_iload_n hx hb d_X0_count_27 rfl (lv_at hl 1 rfl) ?_
      refine vp_callSl (W.runS (As := [.long x, .long y, .int (nI j)]) (rest := []) ⟨hx, hb, hml, hown, hts⟩ (m_X0_rowsFrom l j hj x y) (va_cwS 3 hts (tw_S ml_X0_104 st_X0_rowsFrom in_X0 kw_X0_rowsFrom) rfl rfl rfl (by decide +kernel) ⟨by show 3 + j + 1 ≤ 8; omega, by show 8 + (15 + 11) + (85 + 34 * j) ≤ 255; omega⟩) ⟨fun _ _ _ _ q => q, fun U hU hW => ⟨rfl, trivial⟩⟩ rfl rfl hl.1 rfl (lv_room (Nat.le_of_ble_eq_true rfl)) d_X0_count_28 ⟨Nat.le_of_ble_eq_true rfl, Nat.le_of_ble_eq_true rfl⟩) (fun r hq => ?_)
      subst hq
      refine vx_ret (W.widen (k := 1) (n := 6) (Nat.le_of_ble_eq_true rfl) (Nat.le_of_ble_eq_true rfl) ?_)
      exact W.lret (v := (td_rows j x y)) hx hb hr (fun t ht hW => ⟨⟨_, (), rfl, ⟨j, hj, rfl, rfl⟩, trivial⟩, hS.F ht⟩) hS.2.2 d_X0_count_31
    · exact td_thr_iae 6 rfl hx hb hfl hown hts hX (fun q h => Nat.le_trans hb0 h) hS hS.2.2 (by rw [hml]; exact hl.1) d_X0_count_9 d_X0_count_12 d_X0_count_13 d_X0_count_15 d_X0_count_18 hno (Nat.le_of_ble_eq_true rfl) (Nat.le_of_ble_eq_true rfl) (Nat.le_of_ble_eq_true rfl) (Nat.le_of_ble_eq_true rfl) hlocks (⟨rfl, fun z => h1 z.2⟩) (Nat.le_of_ble_eq_true rfl) (Nat.le_of_ble_eq_true rfl)
set_option maxHeartbeats 4000000 in
set_option maxRecDepth 100000 in
theorem m_X0_outcome (l : Launch) (hfl : l.stackTraces = false) (D : va_G) (sz b0 : Nat) (hb0 : b0 ≤ sz) (o : Nat) (x y : Int64) (pl md : Int32) (v4 v5 v6 : Value) : vx_Met l y_X0_outcome (k_X0_outcome :: tw) ({ frames := 32, cells := 1, slots := 6, locals := 1010 }) (va_Pc [.ref o] (fun U => U.heap.size = sz ∧ va_P D tdC [(o, .inr (0, [.long x, .long y, .int pl, .int md, v4, v5, v6]))] U.heap ∧ va_K D tdC [] U ∧ td_X b0 U)) (va_Qi (fun (r : Int32) (_ : Unit) => td_few x y ∧ r = td_worth 14 x y (-65) 65) (fun _ _ => True) (fun q => sz ≤ q)) (vx_X (fun _ : Unit => True) (fun E _ _ => E = td_ise ∧ ¬ td_few x y) (fun q => sz ≤ q)) 1 6 (fun q => sz ≤ q) := by
  refine vx_ofW (cc := c_X0_outcome) (maxL := 1) (ret := (some .int)) (by decide) rfl ?_
  intro p e s m args below meth c s₁ B hml hno hv
  obtain ⟨rfl, hsz, hP, hK, hX⟩ := hv
  have hx := B.exec
  have hb := B.bytes
  have hr := B.returns
  have hts : ∀ w ∈ tw, w.before _ s = true := fun w h => atoms_spec (ws := k_X0_outcome :: tw) B.pre w (List.mem_cons_of_mem _ h)
  have hown : s.vm.findClass RX0 = some m.cls := findClass_of_methodNamed B.named
  have hlocks := B.notSynchronized
  subst hsz
  have hS : va_S (fun q => s.heap.size ≤ q) s.heap s.heap [] := va_S.rf
  have hP : va_P D tdC [(o, .inr (0, [.long x, .long y, .int pl, .int md, v4, v5, v6]))] s.heap := hP
  have hl := lv_entry ([.ref o]) (n := 1) (Nat.le_of_ble_eq_true rfl)
  rw [lg_entry_eq]
  generalize (lg_sl ([.ref o]) ++ List.replicate (1 - (lg_sl ([.ref o])).length) Slot.unset).toArray = ls at hl ⊢
  have hl : lv_has ls 1 [(0, .ref o)] := hl
  refine lv_aload_n hx hb d_X0_outcome_0 rfl (lv_at hl 0 rfl) ?_
  refine vx_callv (vx_runV (b := o) (C := RX0) (As := []) (rest := []) ⟨hx, hb, hml, hown, hts⟩ (m_X0_requireFewEmpty l hfl D _ b0 (Nat.le_trans hb0 hS.1) o x y pl md v4 v5 v6) (cwV 0 hts (tw_V ml_X0_108 im_X0_requireFewEmpty se_X0_requireFewEmpty in_X0 kw_X0_requireFewEmpty) rfl rfl rfl (by decide +kernel) ⟨Nat.le_of_ble_eq_true rfl, Nat.le_of_ble_eq_true rfl⟩) ⟨fun a U g mk q => ⟨q.1, q.2.1, q.2.2.1, va_K.moved (u := U) (U := U.calling g mk a) (Vm.Alike.refl U.vm) q.2.2.2.1, td_X.blind q.2.2.2.2⟩, va_recv (q0 := 0) (ci := 0) hK hP rfl rfl, fun U hU hW => ⟨rfl, by rw [hU], by rw [hU]; exact hP, va_K.moved hW.alike hK, td_X.at hX hW hU (fun q h1 h2 => hS.2.1 q h1 (fun z => Nat.not_le.mpr h2 (Nat.le_trans hb0 z)))⟩⟩ rfl rfl hl.1 rfl (lv_room (Nat.le_of_ble_eq_true rfl)) d_X0_outcome_1 ⟨Nat.le_of_ble_eq_true rfl, Nat.le_of_ble_eq_true rfl⟩) hS (fun q h1 h2 => absurd h2 (Nat.not_le.mpr h1)) (fun q h => Nat.le_trans hS.1 h) (fun q h1 h2 => absurd h2 (Nat.not_le.mpr h1)) (fun E ce q9 u0 t0 H1 locs ht hal hpx hB hz1 hk1 hS hce hcv hcl => ?_) (fun u0 t0 H1 locs ht hal hq hB hz1 hk1 hS => ?_)
  · exact vx_out (E := E) (fun x hx => (hno x hx).elim) hlocks hce hcv hcl (fun t ht hal => ⟨(), trivial, hB, hS.F ht⟩) hS.2.2 (Nat.le_of_ble_eq_true rfl) (Nat.le_of_ble_eq_true rfl)
  · have hP := td_keep hP hk1
    clear ht hal hB hz1 hk1
    refine lv_aload_n hx hb d_X0_outcome_4 rfl (lv_at hl 0 rfl) ?_
    refine va_get (D := D) (ci := 0) (v := .long x) (C := RX0) (T := TX0) (N := 7) hx hb hts usX0 hown hK hP 0 rfl rfl 0 (by decide) (hts _ fl_X0_47) (fun _ h9 => h9) rfl d_X0_outcome_5 ?_
    refine lv_aload_n hx hb d_X0_outcome_8 rfl (lv_at hl 0 rfl) ?_
    refine va_get (D := D) (ci := 0) (v := .long y) (C := RX0) (T := TX0) (N := 7) hx hb hts usX0 hown hK hP 0 rfl rfl 1 (by decide) (hts _ fl_X0_51) (fun _ h9 => h9) rfl d_X0_outcome_9 ?_
    refine lv_bipush (v := (-65)) hx hb d_X0_outcome_12 (by decide) ?_
    refine lv_bipush (v := 65) hx hb d_X0_outcome_14 (by decide) ?_
    refine lv_bipush (v := 14) hx hb d_X0_outcome_16 (by decide) ?_
    refine vp_callSi (W.runS (As := [.long x, .long y, .int (-65), .int 65, .int 14]) (rest := []) ⟨hx, hb, hml, hown, hts⟩ (m_X0_worth l 14 (by decide) x y (-65) 65) (va_cwS 5 hts (tw_S ml_X0_111 st_X0_worth in_X0 kw_X0_worth) rfl rfl rfl (by decide +kernel) ⟨Nat.le_of_ble_eq_true rfl, Nat.le_of_ble_eq_true rfl⟩) ⟨fun _ _ _ _ q => q, fun U hU hW => ⟨rfl, trivial⟩⟩ rfl rfl hl.1 rfl (lv_room (Nat.le_of_ble_eq_true rfl)) d_X0_outcome_18 ⟨Nat.le_of_ble_eq_true rfl, Nat.le_of_ble_eq_true rfl⟩) (fun r h2 => ?_)
    subst h2
    refine vx_ret (W.widen (k := 1) (n := 6) (Nat.le_of_ble_eq_true rfl) (Nat.le_of_ble_eq_true rfl) ?_)
    exact W.iret (v := (td_worth 14 x y (-65) 65)) hx hb hr (fun t ht hW => ⟨⟨_, (), rfl, ⟨hq, rfl⟩, trivial⟩, hS.F ht⟩) hS.2.2 d_X0_outcome_21
set_option maxHeartbeats 4000000 in
set_option maxRecDepth 100000 in
theorem m_X0_best (l : Launch) (hfl : l.stackTraces = false) (D : va_G) (sz b0 : Nat) (hb0 : b0 ≤ sz) (o : Nat) (x y : Int64) (pl md : Int32) (v4 v5 v6 : Value) : vx_Met l y_X0_best (k_X0_best :: tw) ({ frames := 32, cells := 1, slots := 6, locals := 1010 }) (va_Pc [.ref o] (fun U => U.heap.size = sz ∧ va_P D tdC [(o, .inr (0, [.long x, .long y, .int pl, .int md, v4, v5, v6]))] U.heap ∧ va_K D tdC [] U ∧ td_X b0 U)) (va_Qi (fun (r : Int32) (_ : Unit) => td_few x y ∧ r = td_best x y) (fun _ _ => True) (fun q => sz ≤ q)) (vx_X (fun _ : Unit => True) (fun E _ _ => E = td_ise ∧ ¬ td_few x y) (fun q => sz ≤ q)) 1 6 (fun q => sz ≤ q) := by
  refine vx_ofW (cc := c_X0_best) (maxL := 1) (ret := (some .int)) (by decide) rfl ?_
  intro p e s m args below meth c s₁ B hml hno hv
  obtain ⟨rfl, hsz, hP, hK, hX⟩ := hv
  have hx := B.exec
  have hb := B.bytes
  have hr := B.returns
  have hts : ∀ w ∈ tw, w.before _ s = true := fun w h => atoms_spec (ws := k_X0_best :: tw) B.pre w (List.mem_cons_of_mem _ h)
  have hown : s.vm.findClass RX0 = some m.cls := findClass_of_methodNamed B.named
  have hlocks := B.notSynchronized
  subst hsz
  have hS : va_S (fun q => s.heap.size ≤ q) s.heap s.heap [] := va_S.rf
  have hP : va_P D tdC [(o, .inr (0, [.long x, .long y, .int pl, .int md, v4, v5, v6]))] s.heap := hP
  have hl := lv_entry ([.ref o]) (n := 1) (Nat.le_of_ble_eq_true rfl)
  rw [lg_entry_eq]
  generalize (lg_sl ([.ref o]) ++ List.replicate (1 - (lg_sl ([.ref o])).length) Slot.unset).toArray = ls at hl ⊢
  have hl : lv_has ls 1 [(0, .ref o)] := hl
  refine lv_aload_n hx hb d_X0_best_0 rfl (lv_at hl 0 rfl) ?_
  refine vx_callv (vx_runV (b := o) (C := RX0) (As := []) (rest := []) ⟨hx, hb, hml, hown, hts⟩ (m_X0_requireFewEmpty l hfl D _ b0 (Nat.le_trans hb0 hS.1) o x y pl md v4 v5 v6) (cwV 0 hts (tw_V ml_X0_108 im_X0_requireFewEmpty se_X0_requireFewEmpty in_X0 kw_X0_requireFewEmpty) rfl rfl rfl (by decide +kernel) ⟨Nat.le_of_ble_eq_true rfl, Nat.le_of_ble_eq_true rfl⟩) ⟨fun a U g mk q => ⟨q.1, q.2.1, q.2.2.1, va_K.moved (u := U) (U := U.calling g mk a) (Vm.Alike.refl U.vm) q.2.2.2.1, td_X.blind q.2.2.2.2⟩, va_recv (q0 := 0) (ci := 0) hK hP rfl rfl, fun U hU hW => ⟨rfl, by rw [hU], by rw [hU]; exact hP, va_K.moved hW.alike hK, td_X.at hX hW hU (fun q h1 h2 => hS.2.1 q h1 (fun z => Nat.not_le.mpr h2 (Nat.le_trans hb0 z)))⟩⟩ rfl rfl hl.1 rfl (lv_room (Nat.le_of_ble_eq_true rfl)) d_X0_best_1 ⟨Nat.le_of_ble_eq_true rfl, Nat.le_of_ble_eq_true rfl⟩) hS (fun q h1 h2 => absurd h2 (Nat.not_le.mpr h1)) (fun q h => Nat.le_trans hS.1 h) (fun q h1 h2 => absurd h2 (Nat.not_le.mpr h1)) (fun E ce q9 u0 t0 H1 locs ht hal hpx hB hz1 hk1 hS hce hcv hcl => ?_) (fun u0 t0 H1 locs ht hal hq hB hz1 hk1 hS => ?_)
  · exact vx_out (E := E) (fun x hx => (hno x hx).elim) hlocks hce hcv hcl (fun t ht hal => ⟨(), trivial, hB, hS.F ht⟩) hS.2.2 (Nat.le_of_ble_eq_true rfl) (Nat.le_of_ble_eq_true rfl)
  · have hP := td_keep hP hk1
    clear ht hal hB hz1 hk1
    refine lv_aload_n hx hb d_X0_best_4 rfl (lv_at hl 0 rfl) ?_
    refine va_get (D := D) (ci := 0) (v := .long x) (C := RX0) (T := TX0) (N := 7) hx hb hts usX0 hown hK hP 0 rfl rfl 0 (by decide) (hts _ fl_X0_47) (fun _ h9 => h9) rfl d_X0_best_5 ?_
    refine lv_aload_n hx hb d_X0_best_8 rfl (lv_at hl 0 rfl) ?_
    refine va_get (D := D) (ci := 0) (v := .long y) (C := RX0) (T := TX0) (N := 7) hx hb hts usX0 hown hK hP 0 rfl rfl 1 (by decide) (hts _ fl_X0_51) (fun _ h9 => h9) rfl d_X0_best_9 ?_
    refine vp_callSi (W.runS (As := [.long x, .long y]) (rest := []) ⟨hx, hb, hml, hown, hts⟩ (m_X0_bestSquare l x y) (va_cwS 2 hts (tw_S ml_X0_115 st_X0_bestSquare in_X0 kw_X0_bestSquare) rfl rfl rfl (by decide +kernel) ⟨Nat.le_of_ble_eq_true rfl, Nat.le_of_ble_eq_true rfl⟩) ⟨fun _ _ _ _ q => q, fun U hU hW => ⟨rfl, trivial⟩⟩ rfl rfl hl.1 rfl (lv_room (Nat.le_of_ble_eq_true rfl)) d_X0_best_12 ⟨Nat.le_of_ble_eq_true rfl, Nat.le_of_ble_eq_true rfl⟩) (fun r h2 => ?_)
    subst h2
    refine vx_ret (W.widen (k := 1) (n := 6) (Nat.le_of_ble_eq_true rfl) (Nat.le_of_ble_eq_true rfl) ?_)
    exact W.iret (v := (td_best x y)) hx hb hr (fun t ht hW => ⟨⟨_, (), rfl, ⟨hq, rfl⟩, trivial⟩, hS.F ht⟩) hS.2.2 d_X0_best_15
set_option maxHeartbeats 4000000 in
set_option maxRecDepth 100000 in
theorem m_X0_border (l : Launch) (hfl : l.stackTraces = false) (D : va_G) (sz b0 : Nat) (hb0 : b0 ≤ sz) (o : Nat) (x y : Int64) (pl md : Int32) (v4 v5 v6 : Value) (q : Int32) : vx_Met l y_X0_border (k_X0_border :: tw) ({ frames := 7, cells := 1, slots := 6, locals := 102 }) (va_Pc [.ref o, .int q] (fun U => U.heap.size = sz ∧ va_P D tdC [(o, .inr (0, [.long x, .long y, .int pl, .int md, v4, v5, v6]))] U.heap ∧ va_K D tdC [] U ∧ td_X b0 U)) (va_Qi (fun (r : Int32) (_ : Unit) => td_pl q ∧ r = td_border x y pl q) (fun _ _ => True) (fun q => sz ≤ q)) (vx_X (fun _ : Unit => True) (fun E _ _ => E = td_iae ∧ ¬ td_pl q) (fun q => sz ≤ q)) 1 6 (fun q => sz ≤ q) := by
  refine vx_ofW (cc := c_X0_border) (maxL := 2) (ret := (some .int)) (by decide) rfl ?_
  intro p e s m args below meth c s₁ B hml hno hv
  obtain ⟨rfl, hsz, hP, hK, hX⟩ := hv
  have hx := B.exec
  have hb := B.bytes
  have hr := B.returns
  have hts : ∀ w ∈ tw, w.before _ s = true := fun w h => atoms_spec (ws := k_X0_border :: tw) B.pre w (List.mem_cons_of_mem _ h)
  have hown : s.vm.findClass RX0 = some m.cls := findClass_of_methodNamed B.named
  have hlocks := B.notSynchronized
  subst hsz
  have hS : va_S (fun q => s.heap.size ≤ q) s.heap s.heap [] := va_S.rf
  have hP : va_P D tdC [(o, .inr (0, [.long x, .long y, .int pl, .int md, v4, v5, v6]))] s.heap := hP
  have hl := lv_entry ([.ref o, .int q]) (n := 2) (Nat.le_of_ble_eq_true rfl)
  rw [lg_entry_eq]
  generalize (lg_sl ([.ref o, .int q]) ++ List.replicate (2 - (lg_sl ([.ref o, .int q])).length) Slot.unset).toArray = ls at hl ⊢
  have hl : lv_has ls 2 [(0, .ref o), (1, .int q)] := hl
  refine lv_iload_n hx hb d_X0_border_0 rfl (lv_at hl 1 rfl) ?_
  refine vx_callv (vx_runS (As := [.int q]) (rest := []) ⟨hx, hb, hml, hown, hts⟩ (m_X0_requirePlayer l hfl _ b0 (Nat.le_trans hb0 hS.1) q) (va_cwS 1 hts (tw_S ml_X0_35 st_X0_requirePlayer in_X0 kw_X0_requirePlayer) rfl rfl rfl (by decide +kernel) ⟨Nat.le_of_ble_eq_true rfl, Nat.le_of_ble_eq_true rfl⟩) ⟨fun a U g mk q => ⟨q.1, q.2.1, td_X.blind q.2.2⟩, fun U hU hW => ⟨rfl, by rw [hU], td_X.at hX hW hU (fun q h1 h2 => hS.2.1 q h1 (fun z => Nat.not_le.mpr h2 (Nat.le_trans hb0 z)))⟩⟩ rfl rfl hl.1 rfl (lv_room (Nat.le_of_ble_eq_true rfl)) d_X0_border_1 ⟨Nat.le_of_ble_eq_true rfl, Nat.le_of_ble_eq_true rfl⟩) hS (fun q h1 h2 => absurd h2 (Nat.not_le.mpr h1)) (fun q h => Nat.le_trans hS.1 h) (fun q h1 h2 => absurd h2 (Nat.not_le.mpr h1)) (fun E ce q9 u0 t0 H1 locs ht hal hpx hB hz1 hk1 hS hce hcv hcl => ?_) (fun u0 t0 H1 locs ht hal hq hB hz1 hk1 hS => ?_)
  · exact vx_out (E := E) (fun x hx => (hno x hx).elim) hlocks hce hcv hcl (fun t ht hal => ⟨(), trivial, hB, hS.F ht⟩) hS.2.2 (Nat.le_of_ble_eq_true rfl) (Nat.le_of_ble_eq_true rfl)
  · have hP := td_keep hP hk1
    clear ht hal hB hz1 hk1
    refine lv_aload_n hx hb d_X0_border_4 rfl (lv_at hl 0 rfl) ?_
    refine lv_iload_n hx hb d_X0_border_5 rfl (lv_at hl 1 rfl) ?_
    refine vp_callSl (W.runV (b := o) (C := RX0) (As := [.int q]) (rest := []) ⟨hx, hb, hml, hown, hts⟩ (m_X0_discsOf l D o x y pl md v4 v5 v6 q) (cwV 1 hts (tw_V ml_X0_39 im_X0_discsOf se_X0_discsOf in_X0 kw_X0_discsOf) rfl rfl rfl (by decide +kernel) ⟨Nat.le_of_ble_eq_true rfl, Nat.le_of_ble_eq_true rfl⟩) ⟨fun a U g mk q => ⟨q.1, q.2.1, va_K.moved (u := U) (U := U.calling g mk a) (Vm.Alike.refl U.vm) q.2.2⟩, va_recv (q0 := 0) (ci := 0) hK hP rfl rfl, fun U hU hW => ⟨rfl, by rw [hU]; exact hP, va_K.moved hW.alike hK⟩⟩ rfl rfl hl.1 rfl (lv_room (Nat.le_of_ble_eq_true rfl)) d_X0_border_6 ⟨Nat.le_of_ble_eq_true rfl, Nat.le_of_ble_eq_true rfl⟩) (fun r h2 => ?_)
    subst h2
    refine vp_callSl (W.runS (As := [.long (td_of x y pl q)]) (rest := []) ⟨hx, hb, hml, hown, hts⟩ (m_X0_withNeighbours l (td_of x y pl q)) (va_cwS 1 hts (tw_S ml_X0_124 st_X0_withNeighbours in_X0 kw_X0_withNeighbours) rfl rfl rfl (by decide +kernel) ⟨Nat.le_of_ble_eq_true rfl, Nat.le_of_ble_eq_true rfl⟩) ⟨fun _ _ _ _ q => q, fun U hU hW => ⟨rfl, trivial⟩⟩ rfl rfl hl.1 rfl (lv_room (Nat.le_of_ble_eq_true rfl)) d_X0_border_9 ⟨Nat.le_of_ble_eq_true rfl, Nat.le_of_ble_eq_true rfl⟩) (fun r h2 => ?_)
    subst h2
    refine lv_aload_n hx hb d_X0_border_12 rfl (lv_at hl 0 rfl) ?_
    refine vp_callSl (W.runV (b := o) (C := RX0) (As := []) (rest := [.long (td_near (td_of x y pl q))]) ⟨hx, hb, hml, hown, hts⟩ (m_X0_empty l D o x y pl md v4 v5 v6) (cwV 0 hts (tw_V ml_X0_63 im_X0_empty se_X0_empty in_X0 kw_X0_empty) rfl rfl rfl (by decide +kernel) ⟨Nat.le_of_ble_eq_true rfl, Nat.le_of_ble_eq_true rfl⟩) ⟨fun a U g mk q => ⟨q.1, q.2.1, va_K.moved (u := U) (U := U.calling g mk a) (Vm.Alike.refl U.vm) q.2.2⟩, va_recv (q0 := 0) (ci := 0) hK hP rfl rfl, fun U hU hW => ⟨rfl, by rw [hU]; exact hP, va_K.moved hW.alike hK⟩⟩ rfl rfl hl.1 rfl (lv_room (Nat.le_of_ble_eq_true rfl)) d_X0_border_13 ⟨Nat.le_of_ble_eq_true rfl, Nat.le_of_ble_eq_true rfl⟩) (fun r h2 => ?_)
    subst h2
    refine lv_land hx hb d_X0_border_16 ?_
    refine vp_callSi (W.runS (As := [.long ((td_near (td_of x y pl q)) &&& (td_emp x y))]) (rest := []) ⟨hx, hb, hml, hown, hts⟩ (m_JL_bitCount l (td_near (td_of x y pl q) &&& td_emp x y)) (va_cwS 1 hts (tw_S ml_X0_128 st_JL_bitCount in_JL kw_JL_bitCount) rfl rfl rfl (by decide +kernel) ⟨Nat.le_of_ble_eq_true rfl, Nat.le_of_ble_eq_true rfl⟩) ⟨fun _ _ _ _ q => q, fun U hU hW => ⟨rfl, trivial⟩⟩ rfl rfl hl.1 rfl (lv_room (Nat.le_of_ble_eq_true rfl)) d_X0_border_17 ⟨Nat.le_of_ble_eq_true rfl, Nat.le_of_ble_eq_true rfl⟩) (fun r h2 => ?_)
    subst h2
    refine vx_ret (W.widen (k := 1) (n := 6) (Nat.le_of_ble_eq_true rfl) (Nat.le_of_ble_eq_true rfl) ?_)
    exact W.iret (v := (td_border x y pl q)) hx hb hr (fun t ht hW => ⟨⟨_, (), rfl, ⟨hq, rfl⟩, trivial⟩, hS.F ht⟩) hS.2.2 d_X0_border_20
set_option maxHeartbeats 4000000 in
set_option maxRecDepth 100000 in
theorem m_X0_safe (l : Launch) (hfl : l.stackTraces = false) (D : va_G) (sz b0 : Nat) (hb0 : b0 ≤ sz) (o : Nat) (x y : Int64) (pl md : Int32) (v4 v5 v6 : Value) (q : Int32) : vx_Met l y_X0_safe (k_X0_safe :: tw) ({ frames := 7, cells := 1, slots := 6, locals := 102 }) (va_Pc [.ref o, .int q] (fun U => U.heap.size = sz ∧ va_P D tdC [(o, .inr (0, [.long x, .long y, .int pl, .int md, v4, v5, v6]))] U.heap ∧ va_K D tdC [] U ∧ td_X b0 U)) (va_Ql (fun (r : Int64) (_ : Unit) => td_pl q ∧ r = td_safe (td_of x y pl q)) (fun _ _ => True) (fun q => sz ≤ q)) (vx_X (fun _ : Unit => True) (fun E _ _ => E = td_iae ∧ ¬ td_pl q) (fun q => sz ≤ q)) 1 6 (fun q => sz ≤ q) := by
  refine vx_ofW (cc := c_X0_safe) (maxL := 4) (ret := (some .long)) (by decide) rfl ?_
  intro p e s m args below meth c s₁ B hml hno hv
  obtain ⟨rfl, hsz, hP, hK, hX⟩ := hv
  have hx := B.exec
  have hb := B.bytes
  have hr := B.returns
  have hts : ∀ w ∈ tw, w.before _ s = true := fun w h => atoms_spec (ws := k_X0_safe :: tw) B.pre w (List.mem_cons_of_mem _ h)
  have hown : s.vm.findClass RX0 = some m.cls := findClass_of_methodNamed B.named
  have hlocks := B.notSynchronized
  subst hsz
  have hS : va_S (fun q => s.heap.size ≤ q) s.heap s.heap [] := va_S.rf
  have hP : va_P D tdC [(o, .inr (0, [.long x, .long y, .int pl, .int md, v4, v5, v6]))] s.heap := hP
  have hl := lv_entry ([.ref o, .int q]) (n := 4) (Nat.le_of_ble_eq_true rfl)
  rw [lg_entry_eq]
  generalize (lg_sl ([.ref o, .int q]) ++ List.replicate (4 - (lg_sl ([.ref o, .int q])).length) Slot.unset).toArray = ls at hl ⊢
  have hl : lv_has ls 4 [(0, .ref o), (1, .int q)] := hl
  refine lv_iload_n hx hb d_X0_safe_0 rfl (lv_at hl 1 rfl) ?_
  refine vx_callv (vx_runS (As := [.int q]) (rest := []) ⟨hx, hb, hml, hown, hts⟩ (m_X0_requirePlayer l hfl _ b0 (Nat.le_trans hb0 hS.1) q) (va_cwS 1 hts (tw_S ml_X0_35 st_X0_requirePlayer in_X0 kw_X0_requirePlayer) rfl rfl rfl (by decide +kernel) ⟨Nat.le_of_ble_eq_true rfl, Nat.le_of_ble_eq_true rfl⟩) ⟨fun a U g mk q => ⟨q.1, q.2.1, td_X.blind q.2.2⟩, fun U hU hW => ⟨rfl, by rw [hU], td_X.at hX hW hU (fun q h1 h2 => hS.2.1 q h1 (fun z => Nat.not_le.mpr h2 (Nat.le_trans hb0 z)))⟩⟩ rfl rfl hl.1 rfl (lv_room (Nat.le_of_ble_eq_true rfl)) d_X0_safe_1 ⟨Nat.le_of_ble_eq_true rfl, Nat.le_of_ble_eq_true rfl⟩) hS (fun q h1 h2 => absurd h2 (Nat.not_le.mpr h1)) (fun q h => Nat.le_trans hS.1 h) (fun q h1 h2 => absurd h2 (Nat.not_le.mpr h1)) (fun E ce q9 u0 t0 H1 locs ht hal hpx hB hz1 hk1 hS hce hcv hcl => ?_) (fun u0 t0 H1 locs ht hal hq hB hz1 hk1 hS => ?_)
  · exact vx_out (E := E) (fun x hx => (hno x hx).elim) hlocks hce hcv hcl (fun t ht hal => ⟨(), trivial, hB, hS.F ht⟩) hS.2.2 (Nat.le_of_ble_eq_true rfl) (Nat.le_of_ble_eq_true rfl)
  · have hP := td_keep hP hk1
    clear ht hal hB hz1 hk1
    refine lv_aload_n hx hb d_X0_safe_4 rfl (lv_at hl 0 rfl) ?_
    refine lv_iload_n hx hb d_X0_safe_5 rfl (lv_at hl 1 rfl) ?_
    refine vp_callSl (W.runV (b := o) (C := RX0) (As := [.int q]) (rest := []) ⟨hx, hb, hml, hown, hts⟩ (m_X0_discsOf l D o x y pl md v4 v5 v6 q) (cwV 1 hts (tw_V ml_X0_39 im_X0_discsOf se_X0_discsOf in_X0 kw_X0_discsOf) rfl rfl rfl (by decide +kernel) ⟨Nat.le_of_ble_eq_true rfl, Nat.le_of_ble_eq_true rfl⟩) ⟨fun a U g mk q => ⟨q.1, q.2.1, va_K.moved (u := U) (U := U.calling g mk a) (Vm.Alike.refl U.vm) q.2.2⟩, va_recv (q0 := 0) (ci := 0) hK hP rfl rfl, fun U hU hW => ⟨rfl, by rw [hU]; exact hP, va_K.moved hW.alike hK⟩⟩ rfl rfl hl.1 rfl (lv_room (Nat.le_of_ble_eq_true rfl)) d_X0_safe_6 ⟨Nat.le_of_ble_eq_true rfl, Nat.le_of_ble_eq_true rfl⟩) (fun r h2 => ?_)
    subst h2
    refine lv_topl (fun dd ed => ?_)
    refine lv_lstore_n hx hb d_X0_safe_9 rfl hl (by decide) rfl (fun ls hl => ?_)
    have hl : lv_has ls 4 [(2, .long dd), (0, .ref o), (1, .int q)] := hl
    refine lv_lload_n hx hb d_X0_safe_10 rfl (lv_at hl 0 rfl) ?_
    refine lv_lload_n hx hb d_X0_safe_11 rfl (lv_at hl 0 rfl) ?_
    refine lv_iconst (v := 1) hx hb d_X0_safe_12 (by decide) ?_
    refine lv_ldc2 (v := (-9187201950435737472)) hx hb hown (hts _ cn_X0_134) d_X0_safe_13 ?_
    refine lv_ldc2 (v := 72340172838076673) hx hb hown (hts _ cn_X0_136) d_X0_safe_16 ?_
    refine vp_callSl (W.runS (As := [.long dd, .int 1, .long (-9187201950435737472), .long 72340172838076673]) (rest := [.long dd]) ⟨hx, hb, hml, hown, hts⟩ (m_X0_heldAlong l dd 1 (-9187201950435737472) 72340172838076673) (va_cwS 4 hts (tw_S ml_X0_138 st_X0_heldAlong in_X0 kw_X0_heldAlong) rfl rfl rfl (by decide +kernel) ⟨Nat.le_of_ble_eq_true rfl, Nat.le_of_ble_eq_true rfl⟩) ⟨fun _ _ _ _ q => q, fun U hU hW => ⟨rfl, trivial⟩⟩ rfl rfl hl.1 rfl (lv_room (Nat.le_of_ble_eq_true rfl)) d_X0_safe_19 ⟨Nat.le_of_ble_eq_true rfl, Nat.le_of_ble_eq_true rfl⟩) (fun r h2 => ?_)
    subst h2
    refine lv_land hx hb d_X0_safe_22 ?_
    refine lv_lload_n hx hb d_X0_safe_23 rfl (lv_at hl 0 rfl) ?_
    refine lv_bipush (v := 8) hx hb d_X0_safe_24 (by decide) ?_
    refine lv_ldc2 (v := (-72057594037927936)) hx hb hown (hts _ cn_X0_142) d_X0_safe_26 ?_
    refine lv_ldc2 (v := 255) hx hb hown (hts _ cn_X0_144) d_X0_safe_29 ?_
    refine vp_callSl (W.runS (As := [.long dd, .int 8, .long (-72057594037927936), .long 255]) (rest := [.long (dd &&& (td_held dd 1 (-9187201950435737472) 72340172838076673))]) ⟨hx, hb, hml, hown, hts⟩ (m_X0_heldAlong l dd 8 (-72057594037927936) 255) (va_cwS 4 hts (tw_S ml_X0_138 st_X0_heldAlong in_X0 kw_X0_heldAlong) rfl rfl rfl (by decide +kernel) ⟨Nat.le_of_ble_eq_true rfl, Nat.le_of_ble_eq_true rfl⟩) ⟨fun _ _ _ _ q => q, fun U hU hW => ⟨rfl, trivial⟩⟩ rfl rfl hl.1 rfl (lv_room (Nat.le_of_ble_eq_true rfl)) d_X0_safe_32 ⟨Nat.le_of_ble_eq_true rfl, Nat.le_of_ble_eq_true rfl⟩) (fun r h2 => ?_)
    subst h2
    refine lv_land hx hb d_X0_safe_35 ?_
    refine lv_lload_n hx hb d_X0_safe_36 rfl (lv_at hl 0 rfl) ?_
    refine lv_bipush (v := 9) hx hb d_X0_safe_37 (by decide) ?_
    refine lv_ldc2 (v := (-35887507618889600)) hx hb hown (hts _ cn_X0_146) d_X0_safe_39 ?_
    refine lv_ldc2 (v := 72340172838076927) hx hb hown (hts _ cn_X0_148) d_X0_safe_42 ?_
    refine vp_callSl (W.runS (As := [.long dd, .int 9, .long (-35887507618889600), .long 72340172838076927]) (rest := [.long ((dd &&& (td_held dd 1 (-9187201950435737472) 72340172838076673)) &&& (td_held dd 8 (-72057594037927936) 255))]) ⟨hx, hb, hml, hown, hts⟩ (m_X0_heldAlong l dd 9 (-35887507618889600) 72340172838076927) (va_cwS 4 hts (tw_S ml_X0_138 st_X0_heldAlong in_X0 kw_X0_heldAlong) rfl rfl rfl (by decide +kernel) ⟨Nat.le_of_ble_eq_true rfl, Nat.le_of_ble_eq_true rfl⟩) ⟨fun _ _ _ _ q => q, fun U hU hW => ⟨rfl, trivial⟩⟩ rfl rfl hl.1 rfl (lv_room (Nat.le_of_ble_eq_true rfl)) d_X0_safe_45 ⟨Nat.le_of_ble_eq_true rfl, Nat.le_of_ble_eq_true rfl⟩) (fun r h2 => ?_)
    subst h2
    refine lv_land hx hb d_X0_safe_48 ?_
    refine lv_lload_n hx hb d_X0_safe_49 rfl (lv_at hl 0 rfl) ?_
    refine lv_bipush (v := 7) hx hb d_X0_safe_50 (by decide) ?_
    refine lv_ldc2 (v := (-71775015237779199)) hx hb hown (hts _ cn_X0_150) d_X0_safe_52 ?_
    refine lv_ldc2 (v := (-9187201950435737345)) hx hb hown (hts _ cn_X0_152) d_X0_safe_55 ?_
    refine vp_callSl (W.runS (As := [.long dd, .int 7, .long (-71775015237779199), .long (-9187201950435737345)]) (rest := [.long (((dd &&& (td_held dd 1 (-9187201950435737472) 72340172838076673)) &&& (td_held dd 8 (-72057594037927936) 255)) &&& (td_held dd 9 (-35887507618889600) 72340172838076927))]) ⟨hx, hb, hml, hown, hts⟩ (m_X0_heldAlong l dd 7 (-71775015237779199) (-9187201950435737345)) (va_cwS 4 hts (tw_S ml_X0_138 st_X0_heldAlong in_X0 kw_X0_heldAlong) rfl rfl rfl (by decide +kernel) ⟨Nat.le_of_ble_eq_true rfl, Nat.le_of_ble_eq_true rfl⟩) ⟨fun _ _ _ _ q => q, fun U hU hW => ⟨rfl, trivial⟩⟩ rfl rfl hl.1 rfl (lv_room (Nat.le_of_ble_eq_true rfl)) d_X0_safe_58 ⟨Nat.le_of_ble_eq_true rfl, Nat.le_of_ble_eq_true rfl⟩) (fun r h2 => ?_)
    subst h2
    refine lv_land hx hb d_X0_safe_61 ?_
    refine vx_ret (W.widen (k := 1) (n := 6) (Nat.le_of_ble_eq_true rfl) (Nat.le_of_ble_eq_true rfl) ?_)
    exact W.lret (v := ((((dd &&& (td_held dd 1 (-9187201950435737472) 72340172838076673)) &&& (td_held dd 8 (-72057594037927936) 255)) &&& (td_held dd 9 (-35887507618889600) 72340172838076927)) &&& (td_held dd 7 (-71775015237779199) (-9187201950435737345)))) hx hb hr (fun t ht hW => ⟨⟨_, (), rfl, ⟨hq, by rw [← ed]; rfl⟩, trivial⟩, hS.F ht⟩) hS.2.2 d_X0_safe_62
end
section
set_option maxHeartbeats 4000000 in
set_option maxRecDepth 100000 in
theorem m_X0_set (l : Launch) (hfl : l.stackTraces = false) (D : va_G) (sz b0 : Nat) (hb0 : b0 ≤ sz) (o : Nat) (x y : Int64) (pl md : Int32) (v4 v5 v6 : Value) (u v : Int64) (q : Int32) (hba : ∀ q, va_A [(o, .inr (0, [.long x, .long y, .int pl, .int md, v4, v5, v6]))] sz q → b0 ≤ q) : vx_Met l y_X0_set (k_X0_set :: tw) ({ frames := 7, cells := 1, slots := 6, locals := 102 }) (va_Pc [.ref o, .long u, .long v, .int q] (fun U => U.heap.size = sz ∧ va_P D tdC [(o, .inr (0, [.long x, .long y, .int pl, .int md, v4, v5, v6]))] U.heap ∧ va_K D tdC [] U ∧ va_D (fun _ => True) [(o, .inr (0, [.long x, .long y, .int pl, .int md, v4, v5, v6]))] ∧ td_X b0 U)) (va_Qv (fun (_ : Unit) => (u &&& v) = 0 ∧ td_pl q) (fun (_ : Unit) t => va_P D tdC [(o, .inr (0, [.long (if q = 0 then u else v), .long (if q = 0 then v else u), .int q, .int 0, v4, v5, v6]))] t.heap ∧ va_K D tdC [] t ∧ va_D (va_A [(o, .inr (0, [.long x, .long y, .int pl, .int md, v4, v5, v6]))] sz) [(o, .inr (0, [.long (if q = 0 then u else v), .long (if q = 0 then v else u), .int q, .int 0, v4, v5, v6]))]) (va_A [(o, .inr (0, [.long x, .long y, .int pl, .int md, v4, v5, v6]))] sz)) (vx_X (fun _ : Unit => True) (fun E _ _ => E = td_iae ∧ ¬ ((u &&& v) = 0 ∧ td_pl q)) (fun q => sz ≤ q)) 1 6 (va_A [(o, .inr (0, [.long x, .long y, .int pl, .int md, v4, v5, v6]))] sz) := by
  refine vx_ofW (cc := c_X0_set) (maxL := 6) (ret := none) (by decide) rfl ?_
  intro p e s m args below meth c s₁ B hml hno hv
  obtain ⟨rfl, hsz, hP, hK, hD0, hX⟩ := hv
  have hx := B.exec
  have hb := B.bytes
  have hr := B.returns
  have hts : ∀ w ∈ tw, w.before _ s = true := fun w h => atoms_spec (ws := k_X0_set :: tw) B.pre w (List.mem_cons_of_mem _ h)
  have hown : s.vm.findClass RX0 = some m.cls := findClass_of_methodNamed B.named
  have hlocks := B.notSynchronized
  subst hsz
  have hD := hD0.self (sz := s.heap.size)
  generalize hAe : va_A [(o, .inr (0, [.long x, .long y, .int pl, .int md, v4, v5, v6]))] s.heap.size = A at hD ⊢
  have hA : ∀ q : Nat, s.heap.size ≤ q → A q := fun q h => by rw [← hAe]; exact Or.inr h
  have hS : va_S A s.heap s.heap [] := va_S.rf
  have hP : va_P D tdC [(o, .inr (0, [.long x, .long y, .int pl, .int md, v4, v5, v6]))] s.heap := hP
  have hl := lv_entry ([.ref o, .long u, .long v, .int q]) (n := 6) (Nat.le_of_ble_eq_true rfl)
  rw [lg_entry_eq]
  generalize (lg_sl ([.ref o, .long u, .long v, .int q]) ++ List.replicate (6 - (lg_sl ([.ref o, .long u, .long v, .int q])).length) Slot.unset).toArray = ls at hl ⊢
  have hl : lv_has ls 6 [(0, .ref o), (1, .long u), (3, .long v), (5, .int q)] := hl
  rw [hAe] at hba
  have hS0 : va_S (fun q => s.heap.size ≤ q) s.heap s.heap [] := va_S.rf
  refine lv_lload_n hx hb d_X0_set_0 rfl (lv_at hl 1 rfl) ?_
  refine lv_lload_n hx hb d_X0_set_1 rfl (lv_at hl 2 rfl) ?_
  refine lv_land hx hb d_X0_set_2 ?_
  refine lv_lconst (v := 0) hx hb d_X0_set_3 (by decide) ?_
  refine td_leq (tgt := 18) hx hb d_X0_set_4 d_X0_set_5 (by decide) (fun h0 => ?_) (fun h0 => ?_)
  · refine lv_iload hx hb d_X0_set_18 (lv_at hl 3 rfl) ?_
    refine vx_callv (vx_runS (As := [.int q]) (rest := []) ⟨hx, hb, hml, hown, hts⟩ (m_X0_requirePlayer l hfl _ b0 (Nat.le_trans hb0 hS.1) q) (va_cwS 1 hts (tw_S ml_X0_35 st_X0_requirePlayer in_X0 kw_X0_requirePlayer) rfl rfl rfl (by decide +kernel) ⟨Nat.le_of_ble_eq_true rfl, Nat.le_of_ble_eq_true rfl⟩) ⟨fun a U g mk q => ⟨q.1, q.2.1, td_X.blind q.2.2⟩, fun U hU hW => ⟨rfl, by rw [hU], td_X.at hX hW hU (fun q h1 h2 => hS.2.1 q h1 (fun z => Nat.not_le.mpr h2 (hba _ z)))⟩⟩ rfl rfl hl.1 rfl (lv_room (Nat.le_of_ble_eq_true rfl)) d_X0_set_20 ⟨Nat.le_of_ble_eq_true rfl, Nat.le_of_ble_eq_true rfl⟩) hS (fun q h1 h2 => absurd h2 (Nat.not_le.mpr h1)) (fun q h => hA q (Nat.le_trans hS.1 h)) (fun q h1 h2 => absurd h2 (Nat.not_le.mpr h1)) (fun E ce q9 u0 t0 H1 locs ht hal hpx hB hz1 hk1 hS hce hcv hcl => ?_) (fun u0 t0 H1 locs ht hal hq hB hz1 hk1 hS => ?_)
    · exact vx_out (E := E) (fun x hx => (hno x hx).elim) hlocks hce hcv hcl (fun t ht hal => ⟨(), trivial, ⟨hB.1, fun z => hB.2 z.2⟩, ⟨Nat.le_trans (Nat.le_refl _) (by rw [ht]; exact hz1), fun q h1 h2 => by rw [ht]; exact hk1 q h1 h2⟩⟩) hS.2.2 (Nat.le_of_ble_eq_true rfl) (Nat.le_of_ble_eq_true rfl)
    · have hP := td_keep hP hk1
      clear ht hal hB hz1 hk1
      skip
      refine lv_iload hx hb d_X0_set_23 (lv_at hl 3 rfl) ?_
      refine lv_if_ne (tgt := 38) hx hb d_X0_set_25 (by decide) (fun h1 => ?_) (fun h1 => ?_)
      · refine lv_aload_n hx hb d_X0_set_38 rfl (lv_at hl 0 rfl) ?_
        refine lv_lload_n hx hb d_X0_set_39 rfl (lv_at hl 2 rfl) ?_
        refine lv_lload_n hx hb d_X0_set_40 rfl (lv_at hl 1 rfl) ?_
        refine lv_iconst (v := 1) hx hb d_X0_set_41 (by decide) ?_
        have hPc := hP.sub (ws' := [(o, .inr (0, [.long x, .long y, .int pl, .int md, v4, v5, v6]))]) [0] rfl
        have hDc := hD.sub (ws' := [(o, .inr (0, [.long x, .long y, .int pl, .int md, v4, v5, v6]))]) [0] (by decide) rfl
        have hKc := hK.sub (tys' := []) [] rfl
        have hFc := va_free (wc := [(o, .inr (0, [.long x, .long y, .int pl, .int md, v4, v5, v6]))]) hD hS hA [0] rfl
        refine va_callv (va_runV (b := o) (C := RX0) (As := [.long v, .long u, .int 1]) (rest := []) ⟨hx, hb, hml, hown, hts⟩ (m_X0_setUp l D _ o x y pl md v4 v5 v6 v u 1) (cwV 3 hts (tw_V ml_X0_24 im_X0_setUp se_X0_setUp in_X0 kw_X0_setUp) rfl rfl rfl (by decide +kernel) ⟨Nat.le_of_ble_eq_true rfl, Nat.le_of_ble_eq_true rfl⟩) ⟨fun a U g mk q => ⟨q.1, q.2.1, q.2.2.1, va_K.moved (u := U) (U := U.calling g mk a) (Vm.Alike.refl U.vm) q.2.2.2.1, q.2.2.2.2⟩, va_recv (q0 := 0) (ci := 0) hK hP rfl rfl, fun U hU hW => ⟨rfl, by rw [hU], by rw [hU]; exact hPc, va_K.moved hW.alike hKc, hDc.weaken (fun _ _ _ _ => trivial)⟩⟩ rfl rfl hl.1 rfl (lv_room (Nat.le_of_ble_eq_true rfl)) d_X0_set_42 ⟨Nat.le_of_ble_eq_true rfl, Nat.le_of_ble_eq_true rfl⟩) hS (fun q _ h => hFc q h) hFc (fun u0 t0 H1 locs ht hvm _hq hB hz1 hk1 hS => ?_)
        obtain ⟨hP1, hK1, hD1⟩ := hB
        rw [ht] at hP1
        obtain ⟨hP, hD⟩ := va_join (wr := []) (w1 := [(o, .inr (0, [.long v, .long u, .int 1, .int 0, v4, v5, v6]))]) hP hD [0] [] rfl rfl (by decide) (by decide) hk1 hFc hP1 hD1
        clear hPc hDc hKc hFc hP1 hK1 hD1 hk1 hz1
        have hP := hP.sub (ws' := [(o, .inr (0, [.long v, .long u, .int 1, .int 0, v4, v5, v6]))]) [0] rfl
        have hD := hD.sub (ws' := [(o, .inr (0, [.long v, .long u, .int 1, .int 0, v4, v5, v6]))]) [0] (by decide) rfl
        clear ht hvm
        generalize H1 = H at hP hS ⊢
        have e1 : q = 1 := hq.elim (fun z => absurd z h1) (fun z => z)
        have hP : va_P D tdC [(o, .inr (0, [.long (if q = 0 then u else v), .long (if q = 0 then v else u), .int q, .int 0, v4, v5, v6]))] H := by rw [if_neg h1, if_neg h1, e1]; exact hP
        have hD : va_D A [(o, .inr (0, [.long (if q = 0 then u else v), .long (if q = 0 then v else u), .int q, .int 0, v4, v5, v6]))] := by rw [if_neg h1, if_neg h1, e1]; exact hD
        refine vx_ret (W.widen (k := 1) (n := 6) (Nat.le_of_ble_eq_true rfl) (Nat.le_of_ble_eq_true rfl) ?_)
        exact W.vret hx hb hr (fun t ht hW => ⟨⟨(), rfl, ⟨h0, hq⟩, by rw [ht]; exact hP, va_K.moved hW.alike hK, hD⟩, hS.F ht⟩) hS.2.2 d_X0_set_45
      · refine lv_aload_n hx hb d_X0_set_28 rfl (lv_at hl 0 rfl) ?_
        refine lv_lload_n hx hb d_X0_set_29 rfl (lv_at hl 1 rfl) ?_
        refine lv_lload_n hx hb d_X0_set_30 rfl (lv_at hl 2 rfl) ?_
        refine lv_iconst (v := 0) hx hb d_X0_set_31 (by decide) ?_
        have hPc := hP.sub (ws' := [(o, .inr (0, [.long x, .long y, .int pl, .int md, v4, v5, v6]))]) [0] rfl
        have hDc := hD.sub (ws' := [(o, .inr (0, [.long x, .long y, .int pl, .int md, v4, v5, v6]))]) [0] (by decide) rfl
        have hKc := hK.sub (tys' := []) [] rfl
        have hFc := va_free (wc := [(o, .inr (0, [.long x, .long y, .int pl, .int md, v4, v5, v6]))]) hD hS hA [0] rfl
        refine va_callv (va_runV (b := o) (C := RX0) (As := [.long u, .long v, .int 0]) (rest := []) ⟨hx, hb, hml, hown, hts⟩ (m_X0_setUp l D _ o x y pl md v4 v5 v6 u v 0) (cwV 3 hts (tw_V ml_X0_24 im_X0_setUp se_X0_setUp in_X0 kw_X0_setUp) rfl rfl rfl (by decide +kernel) ⟨Nat.le_of_ble_eq_true rfl, Nat.le_of_ble_eq_true rfl⟩) ⟨fun a U g mk q => ⟨q.1, q.2.1, q.2.2.1, va_K.moved (u := U) (U := U.calling g mk a) (Vm.Alike.refl U.vm) q.2.2.2.1, q.2.2.2.2⟩, va_recv (q0 := 0) (ci := 0) hK hP rfl rfl, fun U hU hW => ⟨rfl, by rw [hU], by rw [hU]; exact hPc, va_K.moved hW.alike hKc, hDc.weaken (fun _ _ _ _ => trivial)⟩⟩ rfl rfl hl.1 rfl (lv_room (Nat.le_of_ble_eq_true rfl)) d_X0_set_32 ⟨Nat.le_of_ble_eq_true rfl, Nat.le_of_ble_eq_true rfl⟩) hS (fun q _ h => hFc q h) hFc (fun u0 t0 H1 locs ht hvm _hq hB hz1 hk1 hS => ?_)
        obtain ⟨hP1, hK1, hD1⟩ := hB
        rw [ht] at hP1
        obtain ⟨hP, hD⟩ := va_join (wr := []) (w1 := [(o, .inr (0, [.long u, .long v, .int 0, .int 0, v4, v5, v6]))]) hP hD [0] [] rfl rfl (by decide) (by decide) hk1 hFc hP1 hD1
        clear hPc hDc hKc hFc hP1 hK1 hD1 hk1 hz1
        have hP := hP.sub (ws' := [(o, .inr (0, [.long u, .long v, .int 0, .int 0, v4, v5, v6]))]) [0] rfl
        have hD := hD.sub (ws' := [(o, .inr (0, [.long u, .long v, .int 0, .int 0, v4, v5, v6]))]) [0] (by decide) rfl
        clear ht hvm
        generalize H1 = H at hP hS ⊢
        skip
        refine lv_goto (tgt := 45) hx hb d_X0_set_35 (by decide) ?_
        have hP : va_P D tdC [(o, .inr (0, [.long (if q = 0 then u else v), .long (if q = 0 then v else u), .int q, .int 0, v4, v5, v6]))] H := by rw [if_pos h1, if_pos h1, h1]; exact hP
        have hD : va_D A [(o, .inr (0, [.long (if q = 0 then u else v), .long (if q = 0 then v else u), .int q, .int 0, v4, v5, v6]))] := by rw [if_pos h1, if_pos h1, h1]; exact hD
        refine vx_ret (W.widen (k := 1) (n := 6) (Nat.le_of_ble_eq_true rfl) (Nat.le_of_ble_eq_true rfl) ?_)
        exact W.vret hx hb hr (fun t ht hW => ⟨⟨(), rfl, ⟨h0, hq⟩, by rw [ht]; exact hP, va_K.moved hW.alike hK, hD⟩, hS.F ht⟩) hS.2.2 d_X0_set_45
  · exact td_thr_iae 0 rfl hx hb hfl hown hts hX (fun q h => Nat.le_trans hb0 h) hS0 hS.2.2 (by rw [hml]; exact hl.1) d_X0_set_8 d_X0_set_11 d_X0_set_12 d_X0_set_14 d_X0_set_17 hno (Nat.le_of_ble_eq_true rfl) (Nat.le_of_ble_eq_true rfl) (Nat.le_of_ble_eq_true rfl) (Nat.le_of_ble_eq_true rfl) hlocks (⟨rfl, fun z => h0 z.1⟩) (Nat.le_of_ble_eq_true rfl) (Nat.le_of_ble_eq_true rfl)
set_option maxHeartbeats 4000000 in
set_option maxRecDepth 100000 in
theorem m_X0_play (l : Launch) (hfl : l.stackTraces = false) (D : va_G) (sz b0 : Nat) (hb0 : b0 ≤ sz) (o a1 a2 : Nat) (cI cJ : ClassId) (x y : Int64) (pl : Int32) (k : Nat) (hk : k ≤ 64) (v6 : Value) (sq : Nat → Int32) (tu : Nat → Int64) (q : Int32) (hba : ∀ q, va_A [(o, .inr (0, [.long x, .long y, .int pl, .int (nI k), .ref a1, .ref a2, v6])), (a1, .inl (cI, 64, .inl sq)), (a2, .inl (cJ, 64, .inr (.inl tu)))] sz q → b0 ≤ q) : vx_Met l y_X0_play (k_X0_play :: tw) ({ frames := 6, cells := 1, slots := 6, locals := 112 }) (va_Pc [.ref o, .int q] (fun U => U.heap.size = sz ∧ va_P D tdC [(o, .inr (0, [.long x, .long y, .int pl, .int (nI k), .ref a1, .ref a2, v6])), (a1, .inl (cI, 64, .inl sq)), (a2, .inl (cJ, 64, .inr (.inl tu)))] U.heap ∧ va_K D tdC [(cI, .int), (cJ, .long)] U ∧ va_D (fun _ => True) [(o, .inr (0, [.long x, .long y, .int pl, .int (nI k), .ref a1, .ref a2, v6])), (a1, .inl (cI, 64, .inl sq)), (a2, .inl (cJ, 64, .inr (.inl tu)))] ∧ td_X b0 U)) (va_Qi (fun (r : Int32) (_ : Unit) => td_may x y q ∧ k < 64 ∧ r = td_pop (td_turned x y (td_on q))) (fun (_ : Unit) t => va_P D tdC [(o, .inr (0, [.long (y ^^^ (td_turned x y (td_on q))), .long ((x ||| td_on q) ||| (td_turned x y (td_on q))), .int (1 - pl), .int (nI (k + 1)), .ref a1, .ref a2, v6])), (a1, .inl (cI, 64, .inl (upd sq k q))), (a2, .inl (cJ, 64, .inr (.inl (vp_updL tu k (td_turned x y (td_on q))))))] t.heap ∧ va_K D tdC [(cI, .int), (cJ, .long)] t ∧ va_D (va_A [(o, .inr (0, [.long x, .long y, .int pl, .int (nI k), .ref a1, .ref a2, v6])), (a1, .inl (cI, 64, .inl sq)), (a2, .inl (cJ, 64, .inr (.inl tu)))] sz) [(o, .inr (0, [.long (y ^^^ (td_turned x y (td_on q))), .long ((x ||| td_on q) ||| (td_turned x y (td_on q))), .int (1 - pl), .int (nI (k + 1)), .ref a1, .ref a2, v6])), (a1, .inl (cI, 64, .inl (upd sq k q))), (a2, .inl (cJ, 64, .inr (.inl (vp_updL tu k (td_turned x y (td_on q))))))]) (va_A [(o, .inr (0, [.long x, .long y, .int pl, .int (nI k), .ref a1, .ref a2, v6])), (a1, .inl (cI, 64, .inl sq)), (a2, .inl (cJ, 64, .inr (.inl tu)))] sz)) (vx_X (fun _ : Unit => True) (fun E _ _ => (E = td_iae ∧ ¬ td_may x y q) ∨ (E = td_ise ∧ td_may x y q ∧ k = 64)) (fun q => sz ≤ q)) 1 6 (va_A [(o, .inr (0, [.long x, .long y, .int pl, .int (nI k), .ref a1, .ref a2, v6])), (a1, .inl (cI, 64, .inl sq)), (a2, .inl (cJ, 64, .inr (.inl tu)))] sz) := by
  refine vx_ofW (cc := c_X0_play) (maxL := 2) (ret := (some .int)) (by decide) rfl ?_
  intro p e s m args below meth c s₁ B hml hno hv
  obtain ⟨rfl, hsz, hP, hK, hD0, hX⟩ := hv
  have hx := B.exec
  have hb := B.bytes
  have hr := B.returns
  have hts : ∀ w ∈ tw, w.before _ s = true := fun w h => atoms_spec (ws := k_X0_play :: tw) B.pre w (List.mem_cons_of_mem _ h)
  have hown : s.vm.findClass RX0 = some m.cls := findClass_of_methodNamed B.named
  have hlocks := B.notSynchronized
  subst hsz
  have hD := hD0.self (sz := s.heap.size)
  generalize hAe : va_A [(o, .inr (0, [.long x, .long y, .int pl, .int (nI k), .ref a1, .ref a2, v6])), (a1, .inl (cI, 64, .inl sq)), (a2, .inl (cJ, 64, .inr (.inl tu)))] s.heap.size = A at hD ⊢
  have hA : ∀ q : Nat, s.heap.size ≤ q → A q := fun q h => by rw [← hAe]; exact Or.inr h
  have hS : va_S A s.heap s.heap [] := va_S.rf
  have hP : va_P D tdC [(o, .inr (0, [.long x, .long y, .int pl, .int (nI k), .ref a1, .ref a2, v6])), (a1, .inl (cI, 64, .inl sq)), (a2, .inl (cJ, 64, .inr (.inl tu)))] s.heap := hP
  have hl := lv_entry ([.ref o, .int q]) (n := 2) (Nat.le_of_ble_eq_true rfl)
  rw [lg_entry_eq]
  generalize (lg_sl ([.ref o, .int q]) ++ List.replicate (2 - (lg_sl ([.ref o, .int q])).length) Slot.unset).toArray = ls at hl ⊢
  have hl : lv_has ls 2 [(0, .ref o), (1, .int q)] := hl
  rw [hAe] at hba
  have hS0 : va_S (fun q => s.heap.size ≤ q) s.heap s.heap [] := va_S.rf
  refine lv_aload_n hx hb d_X0_play_0 rfl (lv_at hl 0 rfl) ?_
  refine lv_iload_n hx hb d_X0_play_1 rfl (lv_at hl 1 rfl) ?_
  have hP1 := hP.sub (ws' := [(o, .inr (0, [.long x, .long y, .int pl, .int (nI k), .ref a1, .ref a2, v6]))]) [0] rfl
  have hK1 := hK.sub (tys' := []) [] rfl
  refine vp_callSi (W.runV (b := o) (C := RX0) (As := [.int q]) (rest := []) ⟨hx, hb, hml, hown, hts⟩ (m_X0_mayPlay l D o x y pl (nI k) (.ref a1) (.ref a2) v6 q) (cwV 1 hts (tw_V ml_X0_75 im_X0_mayPlay se_X0_mayPlay in_X0 kw_X0_mayPlay) rfl rfl rfl (by decide +kernel) ⟨Nat.le_of_ble_eq_true rfl, Nat.le_of_ble_eq_true rfl⟩) ⟨fun a U g mk q => ⟨q.1, q.2.1, va_K.moved (u := U) (U := U.calling g mk a) (Vm.Alike.refl U.vm) q.2.2⟩, va_recv (q0 := 0) (ci := 0) hK hP rfl rfl, fun U hU hW => ⟨rfl, by rw [hU]; exact hP1, va_K.moved hW.alike hK1⟩⟩ rfl rfl hl.1 rfl (lv_room (Nat.le_of_ble_eq_true rfl)) d_X0_play_2 ⟨Nat.zero_le _, Nat.zero_le _⟩) (fun r hq => ?_)
  refine lv_if_ne (tgt := 18) hx hb d_X0_play_5 (by decide) (fun h0 => ?_) (fun h0 => ?_)
  · have hm : td_may x y q := hq.elim (fun z => z.1) (fun z => absurd z.2 h0)
    refine lv_aload_n hx hb d_X0_play_18 rfl (lv_at hl 0 rfl) ?_
    refine va_get (D := D) (ci := 0) (v := .int (nI k)) (C := RX0) (T := TX0) (N := 7) hx hb hts usX0 hown hK hP 0 rfl rfl 3 (by decide) (hts _ fl_X0_81) (fun _ h9 => h9) rfl d_X0_play_19 ?_
    refine lv_bipush (v := 64) hx hb d_X0_play_22 (by decide) ?_
    refine lv_icmp_lt (tgt := 37) hx hb d_X0_play_24 (by decide) (fun h1 => ?_) (fun h1 => ?_)
    · have hk4 : k < 64 := (nI_ltI (a := k) (b := 64) (by omega) (by omega)).mp h1
      refine lv_aload_n hx hb d_X0_play_37 rfl (lv_at hl 0 rfl) ?_
      refine lv_iload_n hx hb d_X0_play_38 rfl (lv_at hl 1 rfl) ?_
      have hPc := hP.sub (ws' := [(o, .inr (0, [.long x, .long y, .int pl, .int (nI k), .ref a1, .ref a2, v6])), (a1, .inl (cI, 64, .inl sq)), (a2, .inl (cJ, 64, .inr (.inl tu)))]) [0, 1, 2] rfl
      have hDc := hD.sub (ws' := [(o, .inr (0, [.long x, .long y, .int pl, .int (nI k), .ref a1, .ref a2, v6])), (a1, .inl (cI, 64, .inl sq)), (a2, .inl (cJ, 64, .inr (.inl tu)))]) [0, 1, 2] (by decide) rfl
      have hKc := hK.sub (tys' := [(cI, .int), (cJ, .long)]) [0, 1] rfl
      have hFc := va_free (wc := [(o, .inr (0, [.long x, .long y, .int pl, .int (nI k), .ref a1, .ref a2, v6])), (a1, .inl (cI, 64, .inl sq)), (a2, .inl (cJ, 64, .inr (.inl tu)))]) hD hS hA [0, 1, 2] rfl
      refine va_calli (va_runV (b := o) (C := RX0) (As := [.int q]) (rest := []) ⟨hx, hb, hml, hown, hts⟩ (m_X0_make l D _ o a1 a2 cI cJ x y pl k hk4 v6 sq tu q) (cwV 1 hts (tw_V ml_X0_89 im_X0_make se_X0_make in_X0 kw_X0_make) rfl rfl rfl (by decide +kernel) ⟨Nat.le_of_ble_eq_true rfl, Nat.le_of_ble_eq_true rfl⟩) ⟨fun a U g mk q => ⟨q.1, q.2.1, q.2.2.1, va_K.moved (u := U) (U := U.calling g mk a) (Vm.Alike.refl U.vm) q.2.2.2.1, q.2.2.2.2⟩, va_recv (q0 := 0) (ci := 0) hK hP rfl rfl, fun U hU hW => ⟨rfl, by rw [hU], by rw [hU]; exact hPc, va_K.moved hW.alike hKc, hDc.weaken (fun _ _ _ _ => trivial)⟩⟩ rfl rfl hl.1 rfl (lv_room (Nat.le_of_ble_eq_true rfl)) d_X0_play_39 ⟨Nat.zero_le _, Nat.zero_le _⟩) hS (fun q _ h => hFc q h) hFc (fun r u0 t0 H1 locs ht hvm hr2 hB hz1 hk1 hS => ?_)
      obtain ⟨hP1, hK1, hD1⟩ := hB
      rw [ht] at hP1
      obtain ⟨hP, hD⟩ := va_join (wr := []) (w1 := [(o, .inr (0, [.long (y ^^^ (td_turned x y (td_on q))), .long ((x ||| td_on q) ||| (td_turned x y (td_on q))), .int (1 - pl), .int (nI (k + 1)), .ref a1, .ref a2, v6])), (a1, .inl (cI, 64, .inl (upd sq k q))), (a2, .inl (cJ, 64, .inr (.inl (vp_updL tu k (td_turned x y (td_on q))))))]) hP hD [0, 1, 2] [] rfl rfl (by decide) (by decide) hk1 hFc hP1 hD1
      clear hPc hDc hKc hFc hP1 hK1 hD1 hk1 hz1
      have hP := hP.sub (ws' := [(o, .inr (0, [.long (y ^^^ (td_turned x y (td_on q))), .long ((x ||| td_on q) ||| (td_turned x y (td_on q))), .int (1 - pl), .int (nI (k + 1)), .ref a1, .ref a2, v6])), (a1, .inl (cI, 64, .inl (upd sq k q))), (a2, .inl (cJ, 64, .inr (.inl (vp_updL tu k (td_turned x y (td_on q))))))]) [0, 1, 2] rfl
      have hD := hD.sub (ws' := [(o, .inr (0, [.long (y ^^^ (td_turned x y (td_on q))), .long ((x ||| td_on q) ||| (td_turned x y (td_on q))), .int (1 - pl), .int (nI (k + 1)), .ref a1, .ref a2, v6])), (a1, .inl (cI, 64, .inl (upd sq k q))), (a2, .inl (cJ, 64, .inr (.inl (vp_updL tu k (td_turned x y (td_on q))))))]) [0, 1, 2] (by decide) rfl
      clear ht hvm
      generalize H1 = H at hP hS ⊢
      refine vx_ret (W.widen (k := 1) (n := 6) (Nat.le_of_ble_eq_true rfl) (Nat.le_of_ble_eq_true rfl) ?_)
      exact W.iret (v := r) hx hb hr (fun t ht hW => ⟨⟨_, (), rfl, ⟨hm, hk4, hr2⟩, by rw [ht]; exact hP, va_K.moved hW.alike hK, hD⟩, hS.F ht⟩) hS.2.2 d_X0_play_42
    · have hk4 : k = 64 := by have := (nI_ltI (a := k) (b := 64) (by omega) (by omega)); have h2 : ¬ k < 64 := fun z => h1 (this.mpr z); omega
      exact td_thr_ise 4 rfl hx hb hfl hown hts hX (fun q h => Nat.le_trans hb0 h) hS0 hS.2.2 (by rw [hml]; exact hl.1) d_X0_play_27 d_X0_play_30 d_X0_play_31 d_X0_play_33 d_X0_play_36 hno (Nat.le_of_ble_eq_true rfl) (Nat.le_of_ble_eq_true rfl) (Nat.le_of_ble_eq_true rfl) (Nat.le_of_ble_eq_true rfl) hlocks (Or.inr ⟨rfl, hm, hk4⟩) (Nat.le_of_ble_eq_true rfl) (Nat.le_of_ble_eq_true rfl)
  · have hm : ¬ td_may x y q := hq.elim (fun z => absurd (z.2.symm.trans h0) (by decide)) (fun z => z.1)
    exact td_thr_iae 3 rfl hx hb hfl hown hts hX (fun q h => Nat.le_trans hb0 h) hS0 hS.2.2 (by rw [hml]; exact hl.1) d_X0_play_8 d_X0_play_11 d_X0_play_12 d_X0_play_14 d_X0_play_17 hno (Nat.le_of_ble_eq_true rfl) (Nat.le_of_ble_eq_true rfl) (Nat.le_of_ble_eq_true rfl) (Nat.le_of_ble_eq_true rfl) hlocks (Or.inl ⟨rfl, hm⟩) (Nat.le_of_ble_eq_true rfl) (Nat.le_of_ble_eq_true rfl)
end
section
/-! finish: the plan, then the moves -/
def td_nx (a b : Int64) (q : Int32) : Int64 := b ^^^ td_turned a b (td_on q)
def td_ny (a b : Int64) (q : Int32) : Int64 := (a ||| td_on q) ||| td_turned a b (td_on q)
def td_plan : Nat → Int64 → Int64 → List Int32
  | 0, _, _ => []
  | n + 1, a, b => if td_best a b = 65 then [] else td_best a b :: td_plan n (td_nx a b (td_best a b)) (td_ny a b (td_best a b))
theorem td_plan_s (n : Nat) (a b : Int64) : td_plan (n + 1) a b = if td_best a b = 65 then [] else td_best a b :: td_plan n (td_nx a b (td_best a b)) (td_ny a b (td_best a b)) := rfl
/-- own, other, player, made, squares, turned -/
abbrev tdS : Type := Int64 × Int64 × Int32 × Nat × (Nat → Int32) × (Nat → Int64)
def td_mk (S : tdS) (q : Int32) : tdS := (td_nx S.1 S.2.1 q, td_ny S.1 S.2.1 q, 1 - S.2.2.1, S.2.2.2.1 + 1, upd S.2.2.2.2.1 S.2.2.2.1 q, vp_updL S.2.2.2.2.2 S.2.2.2.1 (td_turned S.1 S.2.1 (td_on q)))
def td_mks (L : List Int32) (S : tdS) : tdS := L.foldl td_mk S
set_option maxHeartbeats 4000000 in
set_option maxRecDepth 100000 in
theorem m_X0_planFinish (l : Launch) (D : va_G) (sz : Nat) (o a3 : Nat) (cI : ClassId) (x y : Int64) (pl md : Int32) (v4 v5 : Value) (pn : Nat → Int32) : Met l y_X0_planFinish (k_X0_planFinish :: tw) ({ frames := 32, cells := 0, slots := 0, locals := 1010 }) (va_Pc [.ref o] (fun U => U.heap.size = sz ∧ va_P D tdC [(o, .inr (0, [.long x, .long y, .int pl, .int md, v4, v5, .ref a3])), (a3, .inl (cI, 14, .inl pn))] U.heap ∧ va_K D tdC [(cI, .int)] U ∧ va_D (fun _ => True) [(o, .inr (0, [.long x, .long y, .int pl, .int md, v4, v5, .ref a3])), (a3, .inl (cI, 14, .inl pn))])) (va_Qi (fun (r : Int32) (u : Nat → Int32) => r = nI (td_plan 14 x y).length ∧ (td_plan 14 x y).length ≤ 14 ∧ ∀ j, j < (td_plan 14 x y).length → u j = (td_plan 14 x y).getD j 0) (fun (u : Nat → Int32) t => va_P D tdC [(o, .inr (0, [.long x, .long y, .int pl, .int md, v4, v5, .ref a3])), (a3, .inl (cI, 14, .inl u))] t.heap ∧ va_K D tdC [(cI, .int)] t ∧ va_D (va_A [(o, .inr (0, [.long x, .long y, .int pl, .int md, v4, v5, .ref a3])), (a3, .inl (cI, 14, .inl pn))] sz) [(o, .inr (0, [.long x, .long y, .int pl, .int md, v4, v5, .ref a3])), (a3, .inl (cI, 14, .inl u))]) (va_A [(o, .inr (0, [.long x, .long y, .int pl, .int md, v4, v5, .ref a3])), (a3, .inl (cI, 14, .inl pn))] sz)) 0 0 (va_A [(o, .inr (0, [.long x, .long y, .int pl, .int md, v4, v5, .ref a3])), (a3, .inl (cI, 14, .inl pn))] sz) := by
  refine Met.ofW (cc := c_X0_planFinish) (maxL := 13) (ret := (some .int)) (by decide) rfl ?_
  intro p e s m args below meth c s₁ B hml hv
  obtain ⟨rfl, hsz, hP, hK, hD0⟩ := hv
  have hx := B.exec
  have hb := B.bytes
  have hr := B.returns
  have hts : ∀ w ∈ tw, w.before _ s = true := fun w h => atoms_spec (ws := k_X0_planFinish :: tw) B.pre w (List.mem_cons_of_mem _ h)
  have hown : s.vm.findClass RX0 = some m.cls := findClass_of_methodNamed B.named
  have hlocks := B.notSynchronized
  subst hsz
  have hD := hD0.self (sz := s.heap.size)
  generalize hAe : va_A [(o, .inr (0, [.long x, .long y, .int pl, .int md, v4, v5, .ref a3])), (a3, .inl (cI, 14, .inl pn))] s.heap.size = A at hD ⊢
  have hA : ∀ q : Nat, s.heap.size ≤ q → A q := fun q h => by rw [← hAe]; exact Or.inr h
  have hS : va_S A s.heap s.heap [] := va_S.rf
  have hP : va_P D tdC [(o, .inr (0, [.long x, .long y, .int pl, .int md, v4, v5, .ref a3])), (a3, .inl (cI, 14, .inl pn))] s.heap := hP
  have hl := lv_entry ([.ref o]) (n := 13) (Nat.le_of_ble_eq_true rfl)
  rw [lg_entry_eq]
  generalize (lg_sl ([.ref o]) ++ List.replicate (13 - (lg_sl ([.ref o])).length) Slot.unset).toArray = ls at hl ⊢
  have hl : lv_has ls 13 [(0, .ref o)] := hl
  refine lv_aload_n hx hb d_X0_planFinish_0 rfl (lv_at hl 0 rfl) ?_
  refine va_get (D := D) (ci := 0) (v := .long x) (C := RX0) (T := TX0) (N := 7) hx hb hts usX0 hown hK hP 0 rfl rfl 0 (by decide) (hts _ fl_X0_47) (fun _ h9 => h9) rfl d_X0_planFinish_1 ?_
  refine lv_lstore_n hx hb d_X0_planFinish_4 rfl hl (by decide) rfl (fun ls hl => ?_)
  have hl : lv_has ls 13 [(1, .long x), (0, .ref o)] := hl
  refine lv_aload_n hx hb d_X0_planFinish_5 rfl (lv_at hl 1 rfl) ?_
  refine va_get (D := D) (ci := 0) (v := .long y) (C := RX0) (T := TX0) (N := 7) hx hb hts usX0 hown hK hP 0 rfl rfl 1 (by decide) (hts _ fl_X0_51) (fun _ h9 => h9) rfl d_X0_planFinish_6 ?_
  refine lv_lstore_n hx hb d_X0_planFinish_9 rfl hl (by decide) rfl (fun ls hl => ?_)
  have hl : lv_has ls 13 [(3, .long y), (1, .long x), (0, .ref o)] := hl
  refine lv_iconst (v := 0) hx hb d_X0_planFinish_10 (by decide) ?_
  refine lv_istore hx hb d_X0_planFinish_11 hl (by decide) rfl (fun ls hl => ?_)
  have hl : lv_has ls 13 [(5, .int 0), (3, .long y), (1, .long x), (0, .ref o)] := hl
  generalize hL : td_plan 14 x y = L
  have hl0 := lv_sub hl [3, 2, 1, 0] rfl
  refine td_loopH 13 [] (fun z : Nat × Int64 × Int64 × (Nat → Int32) => 14 - z.1) (fun z H locs ls => (z.1 ≤ 14 ∧ z.1 ≤ L.length ∧ L.drop z.1 = td_plan (14 - z.1) z.2.1 z.2.2.1 ∧ ∀ j, j < z.1 → z.2.2.2 j = L.getD j 0) ∧ va_P D tdC [(o, .inr (0, [.long x, .long y, .int pl, .int md, v4, v5, .ref a3])), (a3, .inl (cI, 14, .inl z.2.2.2))] H ∧ va_D A [(o, .inr (0, [.long x, .long y, .int pl, .int md, v4, v5, .ref a3])), (a3, .inl (cI, 14, .inl z.2.2.2))] ∧ va_S A s.heap H locs ∧ lv_has ls 13 [(0, .ref o), (1, .long (z.2.1)), (3, .long (z.2.2.1)), (5, .int (nI z.1))]) (fun z H locs ls hC ih => ?_) (0, x, y, pn) ⟨⟨Nat.zero_le _, Nat.zero_le _, by rw [List.drop_zero]; exact hL.symm, fun j h => absurd h (Nat.not_lt_zero j)⟩, hP, hD, hS, hl0⟩
  clear hl hl0 hP hD hS
  obtain ⟨hi, hP, hD, hS, hl⟩ := hC
  obtain ⟨i, a, b, f⟩ := z
  obtain ⟨hi, hiL, hdr, hf⟩ := hi
  dsimp only at hi hiL hdr hf
  have hl : lv_has ls 13 [(0, .ref o), (1, .long a), (3, .long b), (5, .int (nI i))] := hl
  have hP : va_P D tdC [(o, .inr (0, [.long x, .long y, .int pl, .int md, v4, v5, .ref a3])), (a3, .inl (cI, 14, .inl f))] H := hP
  have hD : va_D A [(o, .inr (0, [.long x, .long y, .int pl, .int md, v4, v5, .ref a3])), (a3, .inl (cI, 14, .inl f))] := hD
  refine lv_iload hx hb d_X0_planFinish_13 (lv_at hl 3 rfl) ?_
  refine lv_bipush (v := 14) hx hb d_X0_planFinish_15 (by decide) ?_
  refine lv_icmp_ge (tgt := 85) hx hb d_X0_planFinish_17 (by decide) (fun h4 => ?_) (fun h4 => ?_)
  · have hiN : i = 14 := Nat.le_antisymm hi ((nI_leI (a := 14) (b := i) (by decide) (by omega)).mp h4)
    subst hiN
    have hlen : L.length = 14 := Nat.le_antisymm (List.drop_eq_nil_iff.mp hdr) hiL
    refine lv_bipush (v := 14) hx hb d_X0_planFinish_85 (by decide) ?_
    exact W.iret (v := 14) hx hb hr (fun t ht hW => ⟨⟨_, f, rfl, ⟨by rw [hlen]; rfl, by rw [hlen]; exact Nat.le_refl _, fun j h => hf j (by rw [hlen] at h; exact h)⟩, by rw [ht]; exact hP, va_K.moved hW.alike hK, hD⟩, hS.F ht⟩) hS.2.2 d_X0_planFinish_87
  · have hi4 : i < 14 := Nat.lt_of_not_le (fun z => h4 ((nI_leI (a := 14) (b := i) (by decide) (by omega)).mpr z))
    have hst : 14 - i = (14 - (i + 1)) + 1 := by omega
    rw [hst, td_plan_s] at hdr
    have hcl : (nI i).toNatClampNeg = i := nI_clamp (by omega)
    refine lv_lload_n hx hb d_X0_planFinish_20 rfl (lv_at hl 1 rfl) ?_
    refine lv_lload_n hx hb d_X0_planFinish_21 rfl (lv_at hl 2 rfl) ?_
    refine vp_callSi (W.runS (As := [.long a, .long b]) (rest := []) ⟨hx, hb, hml, hown, hts⟩ (m_X0_bestSquare l a b) (va_cwS 2 hts (tw_S ml_X0_115 st_X0_bestSquare in_X0 kw_X0_bestSquare) rfl rfl rfl (by decide +kernel) ⟨Nat.le_of_ble_eq_true rfl, Nat.le_of_ble_eq_true rfl⟩) ⟨fun _ _ _ _ q => q, fun U hU hW => ⟨rfl, trivial⟩⟩ rfl rfl hl.1 rfl (lv_room (Nat.le_of_ble_eq_true rfl)) d_X0_planFinish_22 ⟨Nat.zero_le _, Nat.zero_le _⟩) (fun r hq => ?_)
    subst hq
    refine lv_istore hx hb d_X0_planFinish_25 hl (by decide) rfl (fun ls hl => ?_)
    have hl : lv_has ls 13 [(6, .int (td_best a b)), (0, .ref o), (1, .long a), (3, .long b), (5, .int (nI i))] := hl
    refine lv_iload hx hb d_X0_planFinish_27 (lv_at hl 0 rfl) ?_
    refine lv_bipush (v := 65) hx hb d_X0_planFinish_29 (by decide) ?_
    refine lv_icmp_ne (tgt := 37) hx hb d_X0_planFinish_31 (by decide) (fun h5 => ?_) (fun h5 => ?_)
    · rw [if_neg h5] at hdr
      obtain ⟨c1, c2, c3, _⟩ := sc_dropC hdr
      generalize hq : td_best a b = q at hl c2 c3 h5
      have hl : lv_has ls 13 [(6, .int q), (0, .ref o), (1, .long a), (3, .long b), (5, .int (nI i))] := hl
      refine lv_aload_n hx hb d_X0_planFinish_37 rfl (lv_at hl 1 rfl) ?_
      refine va_get (D := D) (ci := 0) (v := .ref a3) (C := RX0) (T := TX0) (N := 7) hx hb hts usX0 hown hK hP 0 rfl rfl 6 (by decide) (hts _ fl_X0_17) (fun _ h9 => h9) rfl d_X0_planFinish_38 ?_
      refine lv_iload hx hb d_X0_planFinish_41 (lv_at hl 4 rfl) ?_
      refine lv_iload hx hb d_X0_planFinish_43 (lv_at hl 0 rfl) ?_
      refine va_iast hx hb hK hP hD hS 1 0 rfl rfl (vp_in_nI hi4 (by decide)) d_X0_planFinish_45 (fun H locs hP hD hS => ?_)
      have hu : upd f (nI i).toNatClampNeg q = (upd f i q) := by rw [hcl]
      have hP : va_P D tdC [(o, .inr (0, [.long x, .long y, .int pl, .int md, v4, v5, .ref a3])), (a3, .inl (cI, 14, .inl (upd f (nI i).toNatClampNeg q)))] H := hP
      have hD : va_D A [(o, .inr (0, [.long x, .long y, .int pl, .int md, v4, v5, .ref a3])), (a3, .inl (cI, 14, .inl (upd f (nI i).toNatClampNeg q)))] := hD
      rw [hu] at hP hD
      clear hu
      have hP : va_P D tdC [(o, .inr (0, [.long x, .long y, .int pl, .int md, v4, v5, .ref a3])), (a3, .inl (cI, 14, .inl (upd f i q)))] H := hP
      have hD : va_D A [(o, .inr (0, [.long x, .long y, .int pl, .int md, v4, v5, .ref a3])), (a3, .inl (cI, 14, .inl (upd f i q)))] := hD
      refine lv_iload hx hb d_X0_planFinish_46 (lv_at hl 0 rfl) ?_
      refine vp_callSl (W.runS (As := [.int q]) (rest := []) ⟨hx, hb, hml, hown, hts⟩ (m_X0_discOn l q) (va_cwS 1 hts (tw_S ml_X0_60 st_X0_discOn in_X0 kw_X0_discOn) rfl rfl rfl (by decide +kernel) ⟨Nat.le_of_ble_eq_true rfl, Nat.le_of_ble_eq_true rfl⟩) ⟨fun _ _ _ _ q => q, fun U hU hW => ⟨rfl, trivial⟩⟩ rfl rfl hl.1 rfl (lv_room (Nat.le_of_ble_eq_true rfl)) d_X0_planFinish_48 ⟨Nat.zero_le _, Nat.zero_le _⟩) (fun r h9 => ?_)
      subst h9
      refine lv_lstore hx hb d_X0_planFinish_51 hl (by decide) rfl (fun ls hl => ?_)
      have hl : lv_has ls 13 [(7, .long (td_on q)), (6, .int q), (0, .ref o), (1, .long a), (3, .long b), (5, .int (nI i))] := hl
      refine lv_lload_n hx hb d_X0_planFinish_53 rfl (lv_at hl 3 rfl) ?_
      refine lv_lload_n hx hb d_X0_planFinish_54 rfl (lv_at hl 4 rfl) ?_
      refine lv_lload hx hb d_X0_planFinish_55 (lv_at hl 0 rfl) ?_
      refine vp_callSl (W.runS (As := [.long a, .long b, .long (td_on q)]) (rest := []) ⟨hx, hb, hml, hown, hts⟩ (m_X0_turnedBy l a b (td_on q)) (va_cwS 3 hts (tw_S ml_X0_67 st_X0_turnedBy in_X0 kw_X0_turnedBy) rfl rfl rfl (by decide +kernel) ⟨Nat.le_of_ble_eq_true rfl, Nat.le_of_ble_eq_true rfl⟩) ⟨fun _ _ _ _ q => q, fun U hU hW => ⟨rfl, trivial⟩⟩ rfl rfl hl.1 rfl (lv_room (Nat.le_of_ble_eq_true rfl)) d_X0_planFinish_57 ⟨Nat.zero_le _, Nat.zero_le _⟩) (fun r h9 => ?_)
      subst h9
      refine lv_lstore hx hb d_X0_planFinish_60 hl (by decide) rfl (fun ls hl => ?_)
      have hl : lv_has ls 13 [(9, .long (td_turned a b (td_on q))), (7, .long (td_on q)), (6, .int q), (0, .ref o), (1, .long a), (3, .long b), (5, .int (nI i))] := hl
      refine lv_lload_n hx hb d_X0_planFinish_62 rfl (lv_at hl 5 rfl) ?_
      refine lv_lload hx hb d_X0_planFinish_63 (lv_at hl 0 rfl) ?_
      refine lv_lxor hx hb d_X0_planFinish_65 ?_
      refine lv_lstore hx hb d_X0_planFinish_66 hl (by decide) rfl (fun ls hl => ?_)
      have hl : lv_has ls 13 [(11, .long (b ^^^ (td_turned a b (td_on q)))), (9, .long (td_turned a b (td_on q))), (7, .long (td_on q)), (6, .int q), (0, .ref o), (1, .long a), (3, .long b), (5, .int (nI i))] := hl
      refine lv_lload_n hx hb d_X0_planFinish_68 rfl (lv_at hl 5 rfl) ?_
      refine lv_lload hx hb d_X0_planFinish_69 (lv_at hl 2 rfl) ?_
      refine lv_lor hx hb d_X0_planFinish_71 ?_
      refine lv_lload hx hb d_X0_planFinish_72 (lv_at hl 1 rfl) ?_
      refine lv_lor hx hb d_X0_planFinish_74 ?_
      refine lv_lstore_n hx hb d_X0_planFinish_75 rfl hl (by decide) rfl (fun ls hl => ?_)
      have hl : lv_has ls 13 [(3, .long ((a ||| (td_on q)) ||| (td_turned a b (td_on q)))), (11, .long (b ^^^ (td_turned a b (td_on q)))), (9, .long (td_turned a b (td_on q))), (7, .long (td_on q)), (6, .int q), (0, .ref o), (1, .long a), (5, .int (nI i))] := hl
      refine lv_lload hx hb d_X0_planFinish_76 (lv_at hl 1 rfl) ?_
      refine lv_lstore_n hx hb d_X0_planFinish_78 rfl hl (by decide) rfl (fun ls hl => ?_)
      have hl : lv_has ls 13 [(1, .long (b ^^^ (td_turned a b (td_on q)))), (3, .long ((a ||| (td_on q)) ||| (td_turned a b (td_on q)))), (11, .long (b ^^^ (td_turned a b (td_on q)))), (9, .long (td_turned a b (td_on q))), (7, .long (td_on q)), (6, .int q), (0, .ref o), (5, .int (nI i))] := hl
      refine lv_iinc (k := 7) (v := (nI (i + 1))) hx hb d_X0_planFinish_79 hl rfl ((nI_succ i).symm) (by decide) rfl (fun ls hl => ?_)
      have hl : lv_has ls 13 [(5, .int (nI (i + 1))), (1, .long (b ^^^ (td_turned a b (td_on q)))), (3, .long ((a ||| (td_on q)) ||| (td_turned a b (td_on q)))), (11, .long (b ^^^ (td_turned a b (td_on q)))), (9, .long (td_turned a b (td_on q))), (7, .long (td_on q)), (6, .int q), (0, .ref o)] := hl
      refine lv_goto (tgt := 13) hx hb d_X0_planFinish_82 (by decide) ?_
      have hl1 := lv_sub hl [7, 1, 2, 0] rfl
      exact ih (i + 1, td_nx a b q, td_ny a b q, upd f i q) _ _ _ (by show 14 - (i + 1) < 14 - i; omega) ⟨⟨hi4, c1, c3, fun j h => by
        by_cases hj : j = i
        · subst hj; show upd f j q j = _; rw [pk_us, c2]
        · show upd f i q j = _; rw [pk_un hj]; exact hf j (by omega)⟩, hP, hD, hS, hl1⟩
    · rw [if_pos h5] at hdr
      have hlen : L.length = i := Nat.le_antisymm (List.drop_eq_nil_iff.mp hdr) hiL
      refine lv_iload hx hb d_X0_planFinish_34 (lv_at hl 4 rfl) ?_
      exact W.iret (v := nI i) hx hb hr (fun t ht hW => ⟨⟨_, f, rfl, ⟨by rw [hlen], by omega, fun j h => hf j (by rw [hlen] at h; exact h)⟩, by rw [ht]; exact hP, va_K.moved hW.alike hK, hD⟩, hS.F ht⟩) hS.2.2 d_X0_planFinish_36
set_option maxHeartbeats 4000000 in
set_option maxRecDepth 100000 in
theorem m_X0_finish (l : Launch) (hfl : l.stackTraces = false) (D : va_G) (sz b0 : Nat) (hb0 : b0 ≤ sz) (o a1 a2 a3 : Nat) (cI cJ : ClassId) (S : tdS) (pn : Nat → Int32) (hba : ∀ q, va_A [(o, .inr (0, [.long (S.1), .long (S.2.1), .int (S.2.2.1), .int (nI S.2.2.2.1), .ref a1, .ref a2, .ref a3])), (a1, .inl (cI, 64, .inl S.2.2.2.2.1)), (a2, .inl (cJ, 64, .inr (.inl S.2.2.2.2.2))), (a3, .inl (cI, 14, .inl pn))] sz q → b0 ≤ q) (hk : S.2.2.2.1 ≤ 64) : vx_Met l y_X0_finish (k_X0_finish :: tw) ({ frames := 33, cells := 2, slots := 12, locals := 1042 }) (va_Pc [.ref o] (fun U => U.heap.size = sz ∧ va_P D tdC [(o, .inr (0, [.long (S.1), .long (S.2.1), .int (S.2.2.1), .int (nI S.2.2.2.1), .ref a1, .ref a2, .ref a3])), (a1, .inl (cI, 64, .inl S.2.2.2.2.1)), (a2, .inl (cJ, 64, .inr (.inl S.2.2.2.2.2))), (a3, .inl (cI, 14, .inl pn))] U.heap ∧ va_K D tdC [(cI, .int), (cJ, .long)] U ∧ va_D (fun _ => True) [(o, .inr (0, [.long (S.1), .long (S.2.1), .int (S.2.2.1), .int (nI S.2.2.2.1), .ref a1, .ref a2, .ref a3])), (a1, .inl (cI, 64, .inl S.2.2.2.2.1)), (a2, .inl (cJ, 64, .inr (.inl S.2.2.2.2.2))), (a3, .inl (cI, 14, .inl pn))] ∧ td_X b0 U)) (va_Qi (fun (r : Int32) (u : Nat → Int32) => td_few S.1 S.2.1 ∧ S.2.2.2.1 + (td_plan 14 S.1 S.2.1).length ≤ 64 ∧ r = nI (td_plan 14 S.1 S.2.1).length) (fun (u : Nat → Int32) t => va_P D tdC [(o, .inr (0, [.long ((td_mks (td_plan 14 S.1 S.2.1) S).1), .long ((td_mks (td_plan 14 S.1 S.2.1) S).2.1), .int ((td_mks (td_plan 14 S.1 S.2.1) S).2.2.1), .int (nI (td_mks (td_plan 14 S.1 S.2.1) S).2.2.2.1), .ref a1, .ref a2, .ref a3])), (a1, .inl (cI, 64, .inl ((td_mks (td_plan 14 S.1 S.2.1) S).2.2.2.2.1))), (a2, .inl (cJ, 64, .inr (.inl ((td_mks (td_plan 14 S.1 S.2.1) S).2.2.2.2.2)))), (a3, .inl (cI, 14, .inl u))] t.heap ∧ va_K D tdC [(cI, .int), (cJ, .long)] t ∧ va_D (va_A [(o, .inr (0, [.long (S.1), .long (S.2.1), .int (S.2.2.1), .int (nI S.2.2.2.1), .ref a1, .ref a2, .ref a3])), (a1, .inl (cI, 64, .inl S.2.2.2.2.1)), (a2, .inl (cJ, 64, .inr (.inl S.2.2.2.2.2))), (a3, .inl (cI, 14, .inl pn))] sz) [(o, .inr (0, [.long ((td_mks (td_plan 14 S.1 S.2.1) S).1), .long ((td_mks (td_plan 14 S.1 S.2.1) S).2.1), .int ((td_mks (td_plan 14 S.1 S.2.1) S).2.2.1), .int (nI (td_mks (td_plan 14 S.1 S.2.1) S).2.2.2.1), .ref a1, .ref a2, .ref a3])), (a1, .inl (cI, 64, .inl ((td_mks (td_plan 14 S.1 S.2.1) S).2.2.2.2.1))), (a2, .inl (cJ, 64, .inr (.inl ((td_mks (td_plan 14 S.1 S.2.1) S).2.2.2.2.2)))), (a3, .inl (cI, 14, .inl u))]) (va_A [(o, .inr (0, [.long (S.1), .long (S.2.1), .int (S.2.2.1), .int (nI S.2.2.2.1), .ref a1, .ref a2, .ref a3])), (a1, .inl (cI, 64, .inl S.2.2.2.2.1)), (a2, .inl (cJ, 64, .inr (.inl S.2.2.2.2.2))), (a3, .inl (cI, 14, .inl pn))] sz)) (vx_X (fun (u : Nat → Int32) => True) (fun E u t => (E = td_ise ∧ ¬ (td_few S.1 S.2.1 ∧ S.2.2.2.1 + (td_plan 14 S.1 S.2.1).length ≤ 64)) ∧ va_P D tdC [(o, .inr (0, [.long (S.1), .long (S.2.1), .int (S.2.2.1), .int (nI S.2.2.2.1), .ref a1, .ref a2, .ref a3])), (a1, .inl (cI, 64, .inl S.2.2.2.2.1)), (a2, .inl (cJ, 64, .inr (.inl S.2.2.2.2.2))), (a3, .inl (cI, 14, .inl u))] t.heap ∧ va_K D tdC [(cI, .int), (cJ, .long)] t ∧ va_D (va_A [(o, .inr (0, [.long (S.1), .long (S.2.1), .int (S.2.2.1), .int (nI S.2.2.2.1), .ref a1, .ref a2, .ref a3])), (a1, .inl (cI, 64, .inl S.2.2.2.2.1)), (a2, .inl (cJ, 64, .inr (.inl S.2.2.2.2.2))), (a3, .inl (cI, 14, .inl pn))] sz) [(o, .inr (0, [.long (S.1), .long (S.2.1), .int (S.2.2.1), .int (nI S.2.2.2.1), .ref a1, .ref a2, .ref a3])), (a1, .inl (cI, 64, .inl S.2.2.2.2.1)), (a2, .inl (cJ, 64, .inr (.inl S.2.2.2.2.2))), (a3, .inl (cI, 14, .inl u))]) (va_A [(o, .inr (0, [.long (S.1), .long (S.2.1), .int (S.2.2.1), .int (nI S.2.2.2.1), .ref a1, .ref a2, .ref a3])), (a1, .inl (cI, 64, .inl S.2.2.2.2.1)), (a2, .inl (cJ, 64, .inr (.inl S.2.2.2.2.2))), (a3, .inl (cI, 14, .inl pn))] sz)) 2 12 (va_A [(o, .inr (0, [.long (S.1), .long (S.2.1), .int (S.2.2.1), .int (nI S.2.2.2.1), .ref a1, .ref a2, .ref a3])), (a1, .inl (cI, 64, .inl S.2.2.2.2.1)), (a2, .inl (cJ, 64, .inr (.inl S.2.2.2.2.2))), (a3, .inl (cI, 14, .inl pn))] sz) := by
  refine vx_ofW (cc := c_X0_finish) (maxL := 3) (ret := (some .int)) (by decide) rfl ?_
  intro p e s m args below meth c s₁ B hml hno hv
  obtain ⟨rfl, hsz, hP, hK, hD0, hX⟩ := hv
  have hx := B.exec
  have hb := B.bytes
  have hr := B.returns
  have hts : ∀ w ∈ tw, w.before _ s = true := fun w h => atoms_spec (ws := k_X0_finish :: tw) B.pre w (List.mem_cons_of_mem _ h)
  have hown : s.vm.findClass RX0 = some m.cls := findClass_of_methodNamed B.named
  have hlocks := B.notSynchronized
  subst hsz
  have hD := hD0.self (sz := s.heap.size)
  generalize hAe : va_A [(o, .inr (0, [.long (S.1), .long (S.2.1), .int (S.2.2.1), .int (nI S.2.2.2.1), .ref a1, .ref a2, .ref a3])), (a1, .inl (cI, 64, .inl S.2.2.2.2.1)), (a2, .inl (cJ, 64, .inr (.inl S.2.2.2.2.2))), (a3, .inl (cI, 14, .inl pn))] s.heap.size = A at hD ⊢
  have hA : ∀ q : Nat, s.heap.size ≤ q → A q := fun q h => by rw [← hAe]; exact Or.inr h
  have hS : va_S A s.heap s.heap [] := va_S.rf
  have hP : va_P D tdC [(o, .inr (0, [.long (S.1), .long (S.2.1), .int (S.2.2.1), .int (nI S.2.2.2.1), .ref a1, .ref a2, .ref a3])), (a1, .inl (cI, 64, .inl S.2.2.2.2.1)), (a2, .inl (cJ, 64, .inr (.inl S.2.2.2.2.2))), (a3, .inl (cI, 14, .inl pn))] s.heap := hP
  have hl := lv_entry ([.ref o]) (n := 3) (Nat.le_of_ble_eq_true rfl)
  rw [lg_entry_eq]
  generalize (lg_sl ([.ref o]) ++ List.replicate (3 - (lg_sl ([.ref o])).length) Slot.unset).toArray = ls at hl ⊢
  have hl : lv_has ls 3 [(0, .ref o)] := hl
  rw [hAe] at hba
  have hS0 : va_S (fun q => s.heap.size ≤ q) s.heap s.heap [] := va_S.rf
  obtain ⟨x, y, pl, k, sq, tu⟩ := S
  dsimp only at hk hP hD hba hAe ⊢
  have hl : lv_has ls 3 [(0, .ref o)] := hl
  have hP : va_P D tdC [(o, .inr (0, [.long x, .long y, .int pl, .int (nI k), .ref a1, .ref a2, .ref a3])), (a1, .inl (cI, 64, .inl sq)), (a2, .inl (cJ, 64, .inr (.inl tu))), (a3, .inl (cI, 14, .inl pn))] s.heap := hP
  have hD : va_D A [(o, .inr (0, [.long x, .long y, .int pl, .int (nI k), .ref a1, .ref a2, .ref a3])), (a1, .inl (cI, 64, .inl sq)), (a2, .inl (cJ, 64, .inr (.inl tu))), (a3, .inl (cI, 14, .inl pn))] := hD
  have hX0 := hX
  refine lv_aload_n hx hb d_X0_finish_0 rfl (lv_at hl 0 rfl) ?_
  have hP1 := hP.sub (ws' := [(o, .inr (0, [.long x, .long y, .int pl, .int (nI k), .ref a1, .ref a2, .ref a3]))]) [0] rfl
  have hK1 := hK.sub (tys' := []) [] rfl
  refine vx_callv (vx_runV (b := o) (C := RX0) (As := []) (rest := []) ⟨hx, hb, hml, hown, hts⟩ (m_X0_requireFewEmpty l hfl D _ b0 (Nat.le_trans hb0 hS.1) o x y pl (nI k) (.ref a1) (.ref a2) (.ref a3)) (cwV 0 hts (tw_V ml_X0_108 im_X0_requireFewEmpty se_X0_requireFewEmpty in_X0 kw_X0_requireFewEmpty) rfl rfl rfl (by decide +kernel) ⟨Nat.le_of_ble_eq_true rfl, Nat.le_of_ble_eq_true rfl⟩) ⟨fun a U g mk q => ⟨q.1, q.2.1, q.2.2.1, va_K.moved (u := U) (U := U.calling g mk a) (Vm.Alike.refl U.vm) q.2.2.2.1, td_X.blind q.2.2.2.2⟩, va_recv (q0 := 0) (ci := 0) hK hP rfl rfl, fun U hU hW => ⟨rfl, by rw [hU], by rw [hU]; exact hP1, va_K.moved hW.alike hK1, td_X.at hX hW hU (fun q h1 h2 => hS.2.1 q h1 (fun z => Nat.not_le.mpr h2 (hba _ z)))⟩⟩ rfl rfl hl.1 rfl (lv_room (Nat.le_of_ble_eq_true rfl)) d_X0_finish_1 ⟨Nat.le_of_ble_eq_true rfl, Nat.le_of_ble_eq_true rfl⟩) hS (fun q h1 h2 => absurd h2 (Nat.not_le.mpr h1)) (fun q h => hA q (Nat.le_trans hS.1 h)) (fun q h1 h2 => absurd h2 (Nat.not_le.mpr h1)) (fun E ce q9 u0 t0 H1 locs ht hal hpx hB hz1 hk1 hS hce hcv hcl => ?_) (fun u0 t0 H1 locs ht hal hq hB hz1 hk1 hS => ?_)
  · exact vx_out (E := E) (fun x hx => (hno x hx).elim) hlocks hce hcv hcl (fun t ht hal => ⟨pn, trivial, ⟨⟨hB.1, fun z => hB.2 z.1⟩, by rw [ht]; exact td_keep hP hk1, va_K.moved hal hK, hD⟩, hS.F ht⟩) hS.2.2 (Nat.le_of_ble_eq_true rfl) (Nat.le_of_ble_eq_true rfl)
  · have hP := td_keep hP hk1
    clear ht hal hB hz1 hk1
    clear hP1
    refine lv_aload_n hx hb d_X0_finish_4 rfl (lv_at hl 0 rfl) ?_
    have hPc := hP.sub (ws' := [(o, .inr (0, [.long x, .long y, .int pl, .int (nI k), .ref a1, .ref a2, .ref a3])), (a3, .inl (cI, 14, .inl pn))]) [0, 3] rfl
    have hDc := hD.sub (ws' := [(o, .inr (0, [.long x, .long y, .int pl, .int (nI k), .ref a1, .ref a2, .ref a3])), (a3, .inl (cI, 14, .inl pn))]) [0, 3] (by decide) rfl
    have hKc := hK.sub (tys' := [(cI, .int)]) [0] rfl
    have hFc := va_free (wc := [(o, .inr (0, [.long x, .long y, .int pl, .int (nI k), .ref a1, .ref a2, .ref a3])), (a3, .inl (cI, 14, .inl pn))]) hD hS hA [0, 3] rfl
    refine va_calli (va_runV (b := o) (C := RX0) (As := []) (rest := []) ⟨hx, hb, hml, hown, hts⟩ (m_X0_planFinish l D _ o a3 cI x y pl (nI k) (.ref a1) (.ref a2) pn) (cwV 0 hts (tw_V ml_X0_118 im_X0_planFinish se_X0_planFinish in_X0 kw_X0_planFinish) rfl rfl rfl (by decide +kernel) ⟨Nat.le_of_ble_eq_true rfl, Nat.le_of_ble_eq_true rfl⟩) ⟨fun a U g mk q => ⟨q.1, q.2.1, q.2.2.1, va_K.moved (u := U) (U := U.calling g mk a) (Vm.Alike.refl U.vm) q.2.2.2.1, q.2.2.2.2⟩, va_recv (q0 := 0) (ci := 0) hK hP rfl rfl, fun U hU hW => ⟨rfl, by rw [hU], by rw [hU]; exact hPc, va_K.moved hW.alike hKc, hDc.weaken (fun _ _ _ _ => trivial)⟩⟩ rfl rfl hl.1 rfl (lv_room (Nat.le_of_ble_eq_true rfl)) d_X0_finish_5 ⟨Nat.le_of_ble_eq_true rfl, Nat.le_of_ble_eq_true rfl⟩) hS (fun q _ h => hFc q h) hFc (fun rr pn1 t0 H1 locs ht hvm hpf hB hz1 hk1 hS => ?_)
    obtain ⟨hP1, hK1, hD1⟩ := hB
    rw [ht] at hP1
    obtain ⟨hP, hD⟩ := va_join (wr := [(a1, .inl (cI, 64, .inl sq)), (a2, .inl (cJ, 64, .inr (.inl tu)))]) (w1 := [(o, .inr (0, [.long x, .long y, .int pl, .int (nI k), .ref a1, .ref a2, .ref a3])), (a3, .inl (cI, 14, .inl pn1))]) hP hD [0, 3] [1, 2] rfl rfl (by decide) (by decide) hk1 hFc hP1 hD1
    clear hPc hDc hKc hFc hP1 hK1 hD1 hk1 hz1
    have hP := hP.sub (ws' := [(o, .inr (0, [.long x, .long y, .int pl, .int (nI k), .ref a1, .ref a2, .ref a3])), (a1, .inl (cI, 64, .inl sq)), (a2, .inl (cJ, 64, .inr (.inl tu))), (a3, .inl (cI, 14, .inl pn1))]) [2, 0, 1, 3] rfl
    have hD := hD.sub (ws' := [(o, .inr (0, [.long x, .long y, .int pl, .int (nI k), .ref a1, .ref a2, .ref a3])), (a1, .inl (cI, 64, .inl sq)), (a2, .inl (cJ, 64, .inr (.inl tu))), (a3, .inl (cI, 14, .inl pn1))]) [2, 0, 1, 3] (by decide) rfl
    clear ht hvm
    generalize H1 = H at hP hS ⊢
    obtain ⟨hr1, hlen, hpn⟩ := hpf
    subst hr1
    generalize hL : td_plan 14 x y = L at hlen hpn ⊢
    refine lv_istore_n hx hb d_X0_finish_8 rfl hl (by decide) rfl (fun ls hl => ?_)
    have hl : lv_has ls 3 [(1, .int (nI L.length)), (0, .ref o)] := hl
    refine lv_aload_n hx hb d_X0_finish_9 rfl (lv_at hl 1 rfl) ?_
    refine va_get (D := D) (ci := 0) (v := .int (nI k)) (C := RX0) (T := TX0) (N := 7) hx hb hts usX0 hown hK hP 0 rfl rfl 3 (by decide) (hts _ fl_X0_81) (fun _ h9 => h9) rfl d_X0_finish_10 ?_
    refine lv_iload_n hx hb d_X0_finish_13 rfl (lv_at hl 0 rfl) ?_
    refine lv_iadd hx hb d_X0_finish_14 ?_
    refine td_i (y := (nI (k + L.length))) (nI_add k L.length) ?_
    refine lv_bipush (v := 64) hx hb d_X0_finish_15 (by decide) ?_
    refine lv_icmp_le (tgt := 30) hx hb d_X0_finish_17 (by decide) (fun h5 => ?_) (fun h5 => ?_)
    · have h6 : k + L.length ≤ 64 := (nI_leI (a := k + L.length) (b := 64) (by omega) (by omega)).mp h5
      refine lv_iconst (v := 0) hx hb d_X0_finish_30 (by decide) ?_
      refine lv_istore_n hx hb d_X0_finish_31 rfl hl (by decide) rfl (fun ls hl => ?_)
      have hl : lv_has ls 3 [(2, .int 0), (1, .int (nI L.length)), (0, .ref o)] := hl
      have hfin : td_mks (L.drop 0) (x, y, pl, k, sq, tu) = td_mks L (x, y, pl, k, sq, tu) := rfl
      generalize hF : td_mks L (x, y, pl, k, sq, tu) = F at hfin ⊢
      have hl0 := lv_sub hl [2, 1, 0] rfl
      refine td_loopH 32 [] (fun z : Nat × tdS => L.length - z.1) (fun z H locs ls => (z.1 ≤ L.length ∧ td_mks (L.drop z.1) z.2 = F ∧ z.2.2.2.2.1 + (L.length - z.1) ≤ 64) ∧ va_P D tdC [(o, .inr (0, [.long (z.2.1), .long (z.2.2.1), .int (z.2.2.2.1), .int (nI z.2.2.2.2.1), .ref a1, .ref a2, .ref a3])), (a1, .inl (cI, 64, .inl z.2.2.2.2.2.1)), (a2, .inl (cJ, 64, .inr (.inl z.2.2.2.2.2.2))), (a3, .inl (cI, 14, .inl pn1))] H ∧ va_D A [(o, .inr (0, [.long (z.2.1), .long (z.2.2.1), .int (z.2.2.2.1), .int (nI z.2.2.2.2.1), .ref a1, .ref a2, .ref a3])), (a1, .inl (cI, 64, .inl z.2.2.2.2.2.1)), (a2, .inl (cJ, 64, .inr (.inl z.2.2.2.2.2.2))), (a3, .inl (cI, 14, .inl pn1))] ∧ va_S A s.heap H locs ∧ lv_has ls 3 [(0, .ref o), (1, .int (nI L.length)), (2, .int (nI z.1))]) (fun z H locs ls hC ih => ?_) (0, (x, y, pl, k, sq, tu)) ⟨⟨Nat.zero_le _, hfin, h6⟩, hP, hD, hS, hl0⟩
      clear hl hl0 hP hD hS
      obtain ⟨hi, hP, hD, hS, hl⟩ := hC
      obtain ⟨i, x1, y1, pl1, k1, sq1, tu1⟩ := z
      obtain ⟨hi, hmk, hk1⟩ := hi
      dsimp only at hi hmk hk1
      have hl : lv_has ls 3 [(0, .ref o), (1, .int (nI L.length)), (2, .int (nI i))] := hl
      have hP : va_P D tdC [(o, .inr (0, [.long x1, .long y1, .int pl1, .int (nI k1), .ref a1, .ref a2, .ref a3])), (a1, .inl (cI, 64, .inl sq1)), (a2, .inl (cJ, 64, .inr (.inl tu1))), (a3, .inl (cI, 14, .inl pn1))] H := hP
      have hD : va_D A [(o, .inr (0, [.long x1, .long y1, .int pl1, .int (nI k1), .ref a1, .ref a2, .ref a3])), (a1, .inl (cI, 64, .inl sq1)), (a2, .inl (cJ, 64, .inr (.inl tu1))), (a3, .inl (cI, 14, .inl pn1))] := hD
      refine lv_iload_n hx hb d_X0_finish_32 rfl (lv_at hl 2 rfl) ?_
      refine lv_iload_n hx hb d_X0_finish_33 rfl (lv_at hl 1 rfl) ?_
      refine lv_icmp_ge (tgt := 54) hx hb d_X0_finish_34 (by decide) (fun h7 => ?_) (fun h7 => ?_)
      · have hiN : i = L.length := Nat.le_antisymm hi ((nI_leI (by omega) (by omega)).mp h7)
        rw [hiN, List.drop_length] at hmk
        have hmk : (x1, y1, pl1, k1, sq1, tu1) = F := hmk
        subst hmk
        refine lv_iload_n hx hb d_X0_finish_54 rfl (lv_at hl 1 rfl) ?_
        refine vx_ret (W.widen (k := 2) (n := 12) (Nat.le_of_ble_eq_true rfl) (Nat.le_of_ble_eq_true rfl) ?_)
        exact W.iret (v := (nI L.length)) hx hb hr (fun t ht hW => ⟨⟨_, pn1, rfl, ⟨hq, h6, rfl⟩, by rw [ht]; exact hP, va_K.moved hW.alike hK, hD⟩, hS.F ht⟩) hS.2.2 d_X0_finish_55
      · have hiN : i < L.length := Nat.lt_of_not_le (fun z => h7 ((nI_leI (by omega) (by omega)).mpr z))
        have hk4 : k1 < 64 := by omega
        have hcl : (nI i).toNatClampNeg = i := nI_clamp (by omega)
        have hdr : L.drop i = L.getD i 0 :: L.drop (i + 1) := by
          rw [List.drop_eq_getElem_cons hiN, List.getD_eq_getElem?_getD, List.getElem?_eq_getElem hiN]; rfl
        rw [hdr] at hmk
        have hmk : td_mks (L.drop (i + 1)) (td_mk (x1, y1, pl1, k1, sq1, tu1) (L.getD i 0)) = F := hmk
        refine lv_aload_n hx hb d_X0_finish_37 rfl (lv_at hl 0 rfl) ?_
        refine lv_aload_n hx hb d_X0_finish_38 rfl (lv_at hl 0 rfl) ?_
        refine va_get (D := D) (ci := 0) (v := .ref a3) (C := RX0) (T := TX0) (N := 7) hx hb hts usX0 hown hK hP 0 rfl rfl 6 (by decide) (hts _ fl_X0_17) (fun _ h9 => h9) rfl d_X0_finish_39 ?_
        refine lv_iload_n hx hb d_X0_finish_42 rfl (lv_at hl 2 rfl) ?_
        refine va_iald hx hb hK hP 3 0 rfl rfl (vp_in_nI (show i < 14 by omega) (by decide)) d_X0_finish_43 ?_
        refine td_i (y := (L.getD i 0)) (by rw [hcl]; exact hpn i hiN) ?_
        generalize hQ : L.getD i 0 = q1 at hmk ⊢
        have hPc := hP.sub (ws' := [(o, .inr (0, [.long x1, .long y1, .int pl1, .int (nI k1), .ref a1, .ref a2, .ref a3])), (a1, .inl (cI, 64, .inl sq1)), (a2, .inl (cJ, 64, .inr (.inl tu1)))]) [0, 1, 2] rfl
        have hDc := hD.sub (ws' := [(o, .inr (0, [.long x1, .long y1, .int pl1, .int (nI k1), .ref a1, .ref a2, .ref a3])), (a1, .inl (cI, 64, .inl sq1)), (a2, .inl (cJ, 64, .inr (.inl tu1)))]) [0, 1, 2] (by decide) rfl
        have hKc := hK.sub (tys' := [(cI, .int), (cJ, .long)]) [0, 1] rfl
        have hFc := va_free (wc := [(o, .inr (0, [.long x1, .long y1, .int pl1, .int (nI k1), .ref a1, .ref a2, .ref a3])), (a1, .inl (cI, 64, .inl sq1)), (a2, .inl (cJ, 64, .inr (.inl tu1)))]) hD hS hA [0, 1, 2] rfl
        refine va_calli (va_runV (b := o) (C := RX0) (As := [.int q1]) (rest := []) ⟨hx, hb, hml, hown, hts⟩ (m_X0_make l D _ o a1 a2 cI cJ x1 y1 pl1 k1 hk4 (.ref a3) sq1 tu1 q1) (cwV 1 hts (tw_V ml_X0_89 im_X0_make se_X0_make in_X0 kw_X0_make) rfl rfl rfl (by decide +kernel) ⟨Nat.le_of_ble_eq_true rfl, Nat.le_of_ble_eq_true rfl⟩) ⟨fun a U g mk q => ⟨q.1, q.2.1, q.2.2.1, va_K.moved (u := U) (U := U.calling g mk a) (Vm.Alike.refl U.vm) q.2.2.2.1, q.2.2.2.2⟩, va_recv (q0 := 0) (ci := 0) hK hP rfl rfl, fun U hU hW => ⟨rfl, by rw [hU], by rw [hU]; exact hPc, va_K.moved hW.alike hKc, hDc.weaken (fun _ _ _ _ => trivial)⟩⟩ rfl rfl hl.1 rfl (lv_room (Nat.le_of_ble_eq_true rfl)) d_X0_finish_44 ⟨Nat.le_of_ble_eq_true rfl, Nat.le_of_ble_eq_true rfl⟩) hS (fun q _ h => hFc q h) hFc (fun r9 u0 t0 H1 locs ht hvm _h9 hB hz1 hk1 hS => ?_)
        obtain ⟨hP1, hK1, hD1⟩ := hB
        rw [ht] at hP1
        obtain ⟨hP, hD⟩ := va_join (wr := [(a3, .inl (cI, 14, .inl pn1))]) (w1 := [(o, .inr (0, [.long (y1 ^^^ (td_turned x1 y1 (td_on q1))), .long ((x1 ||| td_on q1) ||| (td_turned x1 y1 (td_on q1))), .int (1 - pl1), .int (nI (k1 + 1)), .ref a1, .ref a2, .ref a3])), (a1, .inl (cI, 64, .inl (upd sq1 k1 q1))), (a2, .inl (cJ, 64, .inr (.inl (vp_updL tu1 k1 (td_turned x1 y1 (td_on q1))))))]) hP hD [0, 1, 2] [3] rfl rfl (by decide) (by decide) hk1 hFc hP1 hD1
        clear hPc hDc hKc hFc hP1 hK1 hD1 hk1 hz1
        have hP := hP.sub (ws' := [(o, .inr (0, [.long (y1 ^^^ (td_turned x1 y1 (td_on q1))), .long ((x1 ||| td_on q1) ||| (td_turned x1 y1 (td_on q1))), .int (1 - pl1), .int (nI (k1 + 1)), .ref a1, .ref a2, .ref a3])), (a1, .inl (cI, 64, .inl (upd sq1 k1 q1))), (a2, .inl (cJ, 64, .inr (.inl (vp_updL tu1 k1 (td_turned x1 y1 (td_on q1)))))), (a3, .inl (cI, 14, .inl pn1))]) [1, 2, 3, 0] rfl
        have hD := hD.sub (ws' := [(o, .inr (0, [.long (y1 ^^^ (td_turned x1 y1 (td_on q1))), .long ((x1 ||| td_on q1) ||| (td_turned x1 y1 (td_on q1))), .int (1 - pl1), .int (nI (k1 + 1)), .ref a1, .ref a2, .ref a3])), (a1, .inl (cI, 64, .inl (upd sq1 k1 q1))), (a2, .inl (cJ, 64, .inr (.inl (vp_updL tu1 k1 (td_turned x1 y1 (td_on q1)))))), (a3, .inl (cI, 14, .inl pn1))]) [1, 2, 3, 0] (by decide) rfl
        clear ht hvm
        generalize H1 = H at hP hS ⊢
        refine lv_pop hx hb d_X0_finish_47 rfl ?_
        refine lv_iinc (k := 2) (v := (nI (i + 1))) hx hb d_X0_finish_48 hl rfl ((nI_succ i).symm) (by decide) rfl (fun ls hl => ?_)
        have hl : lv_has ls 3 [(2, .int (nI (i + 1))), (0, .ref o), (1, .int (nI L.length))] := hl
        refine lv_goto (tgt := 32) hx hb d_X0_finish_51 (by decide) ?_
        have hl1 := lv_sub hl [1, 2, 0] rfl
        exact ih (i + 1, td_mk (x1, y1, pl1, k1, sq1, tu1) q1) _ _ _ (by show L.length - (i + 1) < L.length - i; omega) ⟨⟨hiN, hmk, by show k1 + 1 + (L.length - (i + 1)) ≤ 64; omega⟩, hP, hD, hS, hl1⟩
    · have h6 : ¬ k + L.length ≤ 64 := fun z => h5 ((nI_leI (a := k + L.length) (b := 64) (by omega) (by omega)).mpr z)
      obtain ⟨sa, hsa⟩ := hX0.2.2.2.2.2.2.2.2 (122, "the row would be too long") (List.mem_of_getElem? (i := 8) rfl)
      exact vx_throwS (own := RX0) (cls := td_ise) (text := "the row would be too long") (names := td_names) (ik := 84) (is := 122) (ic := 88) (A := A) hx hb hfl hown (by decide +kernel) (by decide +kernel) (hts _ cl_X0_84) (hts _ in_ise) hsa (td_hat_ise hts hX0) hg_ise (hX0.1.narrow hba) (hX0.2.1.narrow hba) hS (by rw [hml]; exact hl.1) d_X0_finish_20 d_X0_finish_23 d_X0_finish_24 d_X0_finish_26 d_X0_finish_29 (fun x hx => (hno x hx).elim) (Nat.le_of_ble_eq_true rfl) (Nat.le_of_ble_eq_true rfl) (Nat.le_of_ble_eq_true rfl) (Nat.le_of_ble_eq_true rfl) hlocks (fun t hal hz hq9 => ⟨pn1, trivial, ⟨⟨rfl, fun z => h6 z.2⟩, va_P.kept hP (fun i q h => hq9 q.1 (hP i q h).lt), va_K.moved hal hK, hD⟩, Nat.le_trans hS.1 hz, fun q h1 h2 => (hq9 q (Nat.lt_of_lt_of_le h1 hS.1)).trans (hS.2.1 q h1 h2)⟩) hS.2.2 (Nat.le_of_ble_eq_true rfl) (Nat.le_of_ble_eq_true rfl)
end
section
/-! 'throw new NoSuchElementException("the row is empty")' (launches without stack traces): as the kit's vx_throwS, but for the first link of the constructors' chain, which lies at 13 here -/
def td_b13 : ByteArray := ⟨#[0x2a, 0x2b, 0xb7, 0x00, 0x0d, 0xb1]⟩
theorem td_b13_0 : decode td_b13 0 = .ok (.aload_n 0, 1) := by decide +kernel
theorem td_b13_1 : decode td_b13 1 = .ok (.aload_n 1, 1) := by decide +kernel
theorem td_b13_2 : decode td_b13 2 = .ok (.invokespecial 13, 3) := by decide +kernel
theorem td_b13_5 : decode td_b13 5 = .ok (.return_, 1) := by decide +kernel
def td_atT : List Cond := [.methodLink RX0 97 (Bundle.initS td_nse), .instantiable td_nse 6, .castable td_nse td_nse, .selects td_nse Bundle.tFill0 Bundle.tFill0, .selects td_nse Bundle.tFill Bundle.tFill,
   .lays td_nse Bundle.tN "cause" "Ljava/lang/Throwable;", .lays td_nse Bundle.tN "stackTrace" Bundle.steD, .lays td_nse Bundle.tN "suppressedExceptions" Bundle.listD, .lays td_nse Bundle.tN "detailMessage" "Ljava/lang/String;",
   .isRef (.static Bundle.tN "UNASSIGNED_STACK" Bundle.steD), .isRef (.static Bundle.tN "SUPPRESSED_SENTINEL" Bundle.listD),
   .fieldLink Bundle.tN 198 Bundle.tN "backtrace" "Ljava/lang/Object;", .lays Bundle.tN Bundle.tN "backtrace" "Ljava/lang/Object;", .lays td_nse Bundle.tN "backtrace" "Ljava/lang/Object;"]
def td_atP : List Cond := Bundle.passSAtoms td_nse "java/lang/RuntimeException" 13 td_b13
def td_atC : List Cond := Bundle.chainSAtoms "java/lang/RuntimeException" ["java/lang/Exception"]
def td_atA : List Cond := Bundle.throwableAtoms ++ (Bundle.throwableSAtoms ++ (td_atP ++ (td_atC ++ td_atT)))
section TN
variable {p : Program} {l : Launch} {e : Env} {R : Room} {s : State} {m₀ : MethodId} {args : Array Value} {below : List Frame} {meth : Method} {c : Code} {W₀ : State} {locs : List Loc} {cells slots : Nat}
set_option maxHeartbeats 4000000 in
theorem td_ctorN (X : Stand p l e R s m₀ args below meth c W₀ locs cells slots) (hexec : p.tables.exec = Jvm.exec) (htr : e.platform.stackTraces = false)
    (hown : s.vm.findClass RX0 = some m₀.cls) (h : ∀ a ∈ td_atA, a.before args s = true)
    (hlocs : ∀ x ∈ locs, ∀ cell, s.heap[x.base]? = some cell → cell.vm.isStatics = false)
    {a : Addr} {cX : ClassId} {kX : Class} (hfoundX : s.vm.findClass td_nse = some cX) (hkX : s.vm.classes[cX]? = some kX) (hcell : W₀.heap[a]? = some (freshCell cX kX)) (hnew : s.heap.size ≤ a)
    {msg : Value} (hmsg : msg.isRef = true)
    {g : JFrame} (hg : g.method = m₀) (hsize : g.locals.size = c.maxLocals) (hlocked : g.locked = none) (hentered : g.entered = []) {rest : List Value} (hstack : g.stack = msg :: .ref a :: .ref a :: rest)
    (hd6 : decode c.code g.pc = .ok (.invokespecial 97, 3)) (hd9 : decode c.code (g.pc + 3) = .ok (.athrow, 1)) (hout : ∀ x ∈ c.exceptionTable.toList, covers x (g.pc + 3) = false)
    (hRframes : 2 + 3 < R.frames) (hRlocals : 2 * g.monitorRoom + ((Value.ref a :: rest).map fun v => v.category).sum + (13 * (2 + 1) + 42) ≤ R.locals) (hlocks : meth.locks = false) :
    ∃ U : State, Steps p.tables e below (W₀.setTop g) U ∧ U.status = .running ∧ Ended U below (.threw a) ∧ s.WarmedH U.vm ∧ s.sameButNew ({ U with vm := s.vm } : State) locs cells slots ∧
      ∃ ce, U.heap[a]? = some ce ∧ ce.vm = .none ∧ s.vm.findClass td_nse = some ce.cls := by
  have howns : e.platform.frameOwnsMonitors = true := by rw [X.admits.platform]
  have hfin : e.platform.finalization = false := by rw [X.admits.platform]
  have hpl : e.platform.magicAccessors = ({} : Platform).magicAccessors := by rw [X.admits.platform]
  have hA : ∀ x ∈ Bundle.throwableAtoms, x.before args s = true := fun x hx => h x (List.mem_append_left _ hx)
  have hB : ∀ x ∈ Bundle.throwableSAtoms, x.before args s = true := fun x hx => h x (List.mem_append_right _ (List.mem_append_left _ hx))
  have hP : ∀ x ∈ td_atP, x.before args s = true := fun x hx => h x (List.mem_append_right _ (List.mem_append_right _ (List.mem_append_left _ hx)))
  have hC : ∀ x ∈ td_atC, x.before args s = true := fun x hx => h x (List.mem_append_right _ (List.mem_append_right _ (List.mem_append_right _ (List.mem_append_left _ hx))))
  have hT : ∀ x ∈ td_atT, x.holds args s none s [] = true := fun x hx => h x (List.mem_append_right _ (List.mem_append_right _ (List.mem_append_right _ (List.mem_append_right _ hx))))
  obtain ⟨T, Z0, L, -, Y⟩ := ThrowableC.of_atoms (args := args) howns hfin hpl hA
  obtain ⟨Z, M, LZ, LM, hnZ⟩ := Init0T.ofS_atoms (args := args) hpl L Y hB
  obtain ⟨P1, L1, hP1m, hs1⟩ := PassC.ofS_atoms (args := args) (s := s) hpl (X := td_nse) (Y := "java/lang/RuntimeException") (by decide) (by decide) td_b13_0 td_b13_1 td_b13_2 td_b13_5 hP
  obtain ⟨P2, Qs, hlen2, L2, hL2, hP2m, hlink2, hlinkq⟩ := Bundle.chainS (args := args) hpl hnZ ["java/lang/Exception"] "java/lang/RuntimeException" (by decide) (by decide) hC
  have hsup1 : P1.sup = P2.m := Option.some.inj (hs1.symm.trans hP2m)
  have hfound : s.vm.findClass td_nse = some P1.m.cls := findClass_of_methodNamed hP1m
  cases Option.some.inj (hfoundX.symm.trans hfound)
  obtain ⟨c1, kX', hc1, hk, hord, -, -, hn6⟩ := Cond.instantiable_spec (hT (.instantiable td_nse 6) (by simp [td_atT]))
  cases Option.some.inj (hc1.symm.trans hfound)
  cases Option.some.inj (hkX.symm.trans hk)
  have hsel0 : selectMethod e.platform s.vm P1.m.cls T.fill0 = .method T.fill0 := by
    obtain ⟨c2, r2, m2, q1, q2, q3, q4, -⟩ := Cond.selects_spec (hT (.selects td_nse Bundle.tFill0 Bundle.tFill0) (by simp [td_atT]))
    cases Option.some.inj (q1.symm.trans hfound)
    cases Option.some.inj (q2.symm.trans (State.methodFound?_of_named Y.fill0 (by decide)))
    cases Option.some.inj (q3.symm.trans Y.fill0)
    rw [Launch.admits_selectMethod X.admits]; exact q4
  have hselF : selectMethod e.platform s.vm P1.m.cls T.fill = .method T.fill := by
    obtain ⟨c2, r2, m2, q1, q2, q3, q4, -⟩ := Cond.selects_spec (hT (.selects td_nse Bundle.tFill Bundle.tFill) (by simp [td_atT]))
    cases Option.some.inj (q1.symm.trans hfound)
    cases Option.some.inj (q2.symm.trans (State.methodFound?_of_named Y.fill (by decide)))
    cases Option.some.inj (q3.symm.trans Y.fill)
    rw [Launch.admits_selectMethod X.admits]; exact q4
  obtain ⟨cellS0, hcS0, hiss⟩ := Y.statics
  obtain ⟨u0, hu0⟩ := Cond.staticRefV Y.unassigned L.unassignedStatic L.statics hcS0 hiss (hT (.isRef (.static Bundle.tN "UNASSIGNED_STACK" Bundle.steD)) (by simp [td_atT]))
  obtain ⟨sen, hsen⟩ := Cond.staticRefV Y.sentinel L.sentinelStatic L.statics hcS0 hiss (hT (.isRef (.static Bundle.tN "SUPPRESSED_SENTINEL" Bundle.listD)) (by simp [td_atT]))
  obtain ⟨ci198, i198, fB, hk198, hg198, ha198, hsB, -, hnB, htB, hffB⟩ := Cond.ownField (t := .object "java/lang/Object") Y.found L.cls (by decide +kernel) (hT (.fieldLink Bundle.tN 198 Bundle.tN "backtrace" "Ljava/lang/Object;") (by simp [td_atT])) (hT (.lays Bundle.tN Bundle.tN "backtrace" "Ljava/lang/Object;") (by simp [td_atT])) e.platform hpl
  obtain ⟨cellS, hcS', heS, -, hkeep⟩ := X.same.2.2.2.2.2 T.aS cellS0 hcS0
  have hcellS : W₀.heap[T.aS]? = some cellS := hcS'
  have hout' : ∀ i, (⟨T.aS, i⟩ : Loc) ∉ locs := fun i hmem => by
    have := hlocs _ hmem cellS0 hcS0
    rw [hiss] at this; cases this
  have hknownS : cellS.vm ≠ .unknown := by
    rw [heS]; intro hu
    rw [show cellS0.vm = .unknown from hu] at hiss
    cases hiss
  have hneS : T.aS ≠ a := Nat.ne_of_lt (Nat.lt_of_lt_of_le (Array.getElem?_eq_some_iff.mp hcS0).1 hnew)
  obtain ⟨iM, hffM⟩ := Y.msg
  obtain ⟨tyC, dC, hdC, hdnC⟩ := Cond.laysAt hfound hk Y.cause (hT (.lays td_nse Bundle.tN "cause" "Ljava/lang/Throwable;") (by simp [td_atT]))
  obtain ⟨tyS, dS, hdS, hdnS⟩ := Cond.laysAt hfound hk Y.stack (hT (.lays td_nse Bundle.tN "stackTrace" Bundle.steD) (by simp [td_atT]))
  obtain ⟨tyP, dP, hdP, hdnP⟩ := Cond.laysAt hfound hk Y.supp (hT (.lays td_nse Bundle.tN "suppressedExceptions" Bundle.listD) (by simp [td_atT]))
  obtain ⟨tyM, dM, hdM, hdnM⟩ := Cond.laysAt hfound hk hffM (hT (.lays td_nse Bundle.tN "detailMessage" "Ljava/lang/String;") (by simp [td_atT]))
  obtain ⟨tyB, dB, hdB, hdnB⟩ := Cond.laysAt hfound hk hffB (hT (.lays td_nse Bundle.tN "backtrace" "Ljava/lang/Object;") (by simp [td_atT]))
  have bC := Cond.laysApart hdB hdC hdnB hdnC (by rw [hnB, Y.causeName]; decide)
  have bS := Cond.laysApart hdB hdS hdnB hdnS (by rw [hnB, Y.stackName]; decide)
  have bP := Cond.laysApart hdB hdP hdnB hdnP (by rw [hnB, Y.suppName]; decide)
  have hskip : SkipFacts T e.platform s (fun u => u) u0 ((preparedCellV T.toThrowableT (freshCell P1.m.cls kX) a u0 sen).withEntry W₀.cur) :=
    ⟨{ ci198 := ci198, i198 := i198, fBack := fB }, ⟨hk198, hg198, ha198, hsB⟩, by
      have := fresh_default (c := P1.m.cls) tyB
      rw [htB] at this
      simpa [preparedCellV, Cell.setSlot, Cell.withEntry, Array.getElem?_setIfInBounds, bC, bS, bP, bC.symm, bS.symm, bP.symm, defaultValue] using this, fun _ _ => rfl⟩
  obtain ⟨tm, methC, cdC, kC, vm₁, hnC, -, -, -, -, -, -, -, hW₁, st1⟩ := Steps.initColdS (tb := p.tables) (e := e) (below := below) (s := s) (U := W₀) X.here hexec X.warmed hpl hown (t := Bundle.initS td_nse) rfl rfl (by decide)
    (hT (.methodLink RX0 97 (Bundle.initS td_nse)) (by simp [td_atT])) (hP (.instanceMethod (Bundle.initS td_nse)) (by simp [td_atP, Bundle.passSAtoms])) (bytes := td_b13) (maxL := 2) (hP (.code (Bundle.initS td_nse) td_b13 2 none) (by simp [td_atP, Bundle.passSAtoms]))
    (f := g) hg (a := a) (msg := msg) (rest := .ref a :: rest) hstack hd6
  cases Option.some.inj (hnC.symm.trans hP1m)
  have X₁ := X.noted hW₁
  obtain ⟨vm₂, X₂, st2⟩ := X₁.ctorMessageOffV hexec (g := { g with stack := .ref a :: rest }) hg hsize T L Z LZ M LM (P1 :: P2 :: Qs)
    (fun P hPm => by
      rcases List.mem_cons.mp hPm with rfl | hPm
      · exact L1
      · rcases List.mem_cons.mp hPm with rfl | hPm
        · exact L2
        · exact hL2 P hPm) ⟨hsup1, hlink2, hlinkq⟩ (u0 := u0) (sen := sen) (self := a) hmsg (cell := freshCell P1.m.cls kX) (cellS := cellS)
    hcell (fun _ => by simp) (by simp) rfl rfl hsel0 hselF hcellS hneS hknownS (by rw [hkeep _ (hout' _)]; exact hu0) (by rw [hkeep _ (hout' _)]; exact hsen)
    (Takes.of_laid hk hord tyC (by rw [Y.causeType]; rfl)) (Takes.of_laid hk hord tyS (by rw [Y.stackType]; exact fits_refV_array _ u0)) (Takes.of_laid hk hord tyP (by rw [Y.suppType]; exact fits_refV_object _ sen))
    (Takes.of_laid hk hord tyM (by rw [Y.msgType]; exact fits_refV_object _ ⟨msg, hmsg⟩)) Y.objLocals hskip htr [] hd6
    (by simp only [List.length_cons, hlen2, List.length_nil]; omega) (by simp only [List.length_cons, hlen2, List.length_nil]; exact hRlocals)
  obtain ⟨hwalk, hrun, hended, hWU, hsame⟩ := X₂.athrowLeaves hexec (g := { g with stack := .ref a :: rest, pc := g.pc + 3 }) hg hlocked hentered hout (a := a) (rest := rest) rfl hd9
  have hlt : a < ((W₀.setVm vm₁).setVm vm₂).heap.size := (Array.getElem?_eq_some_iff.mp hcell).1
  have hU := heapAt_setCell_self (s := (W₀.setVm vm₁).setVm vm₂) (plainBareV T.toThrowableT (freshCell P1.m.cls kX) a u0 sen msg) hlt
  refine ⟨_, st1 _ (fun acts => ?_), hrun, hended, hWU, hsame.weaken (fun y hy hlt' => ?_) (Nat.le_refl _) (Nat.le_refl _), _, hU, rfl, hfound⟩
  · rw [doInvoke_state]
    exact st2 _ hwalk
  · rcases List.mem_append.mp hy with h1 | h1
    · exact h1
    · exfalso
      have hb : y.base = a := by
        simp only [List.mem_cons, List.not_mem_nil, or_false] at h1
        rcases h1 with rfl | rfl | rfl | rfl | rfl <;> rfl
      rw [hb] at hlt'
      exact Nat.not_lt.mpr hnew hlt'
end TN
theorem in_nse : Cond.initialized td_nse ∈ tw := tw_t (i := 9) (by decide +kernel) (by decide +kernel)
theorem ha_nse : ((td_atA.filter vx_no).filter goodWord).all (fun w => decide (w ∈ tw)) = true := by decide +kernel
theorem hb_nse : ∀ w ∈ (td_atA.filter vx_no).filter (fun w => !goodWord w), w ∈ [Cond.castable td_nse td_nse, .declares (Bundle.initS "java/lang/RuntimeException"), .declares (Bundle.initS "java/lang/Exception"), .declares (Bundle.initS "java/lang/Throwable")] := by decide +kernel
theorem hg_nse : ∀ w ∈ Cond.classLink RX0 93 td_nse :: Cond.initialized td_nse :: td_atA.filter vx_no, vx_ot w = true := by decide +kernel
theorem td_hat_nse {args : Array Value} {s : State} {b0 : Nat} (hts : ∀ w ∈ tw, w.before args s = true) (h : td_X b0 s) : ∀ w ∈ td_atA.filter vx_no, w.before args s = true := by
  obtain ⟨h1, h2, h3, h4, h5, h6, h7, h8, h9⟩ := h
  exact vx_hat (fun w hw => hts w (of_decide_eq_true (List.all_eq_true.mp ha_nse w hw))) hb_nse (vx_c (va_Nw.use rfl h5) (vx_c (va_Nw.use rfl h6) (vx_c (va_Nw.use rfl h7) (vx_c (va_Nw.use rfl h8) vx_n))))
section TM
variable {p : Program} {l : Launch} {e : Env} {R : Room} {s : State} {m : MethodId} {args : Array Value} {below : List Frame} {meth : Method} {c : Code} {H : Heap} {locs : List Loc} {cells slots : Nat}
variable {mc ms : Nat} {ls : Array Slot} {rest : List Value} {Qc : Array Value → State → Outcome → State → Prop}
theorem td_thr_nse {cc : ByteArray} {pc : Nat} {A free : Nat → Prop} {PX : String → Prop} {b0 : Nat} (k : Nat) {is : Nat} {text : String} (hstr : td_strs[k]? = some (is, text)) (hexec : p.tables.exec = Jvm.exec) (hb : c.code = cc) (hl : l.stackTraces = false) (hown : s.vm.findClass RX0 = some m.cls) (hts : ∀ w ∈ tw, w.before args s = true) (hX : td_X b0 s) (hA : ∀ q, A q → b0 ≤ q) (hS : va_S A s.heap H locs) (hf : ∀ z ∈ locs, free z.base) (hsize : ls.size = c.maxLocals)
    (d0 : decode cc pc = .ok (.new 93, 3)) (d3 : decode cc (pc + 3) = .ok (.dup, 1)) (d4 : decode cc (pc + 4) = .ok (.ldc is, 2)) (d6 : decode cc (pc + 6) = .ok (.invokespecial 97, 3)) (d9 : decode cc (pc + 9) = .ok (.athrow, 1))
    (hout : ∀ x ∈ c.exceptionTable.toList, False) (hRf : 6 ≤ R.frames) (hRl : (rest.map fun v => v.category).sum + 82 ≤ R.locals) (hRc : cells + 1 ≤ R.cells) (hRs : slots + 6 ≤ R.slots) (hlocks : meth.locks = false) (hPX : PX td_nse) (hc : cells + 1 ≤ mc) (hs : slots + 6 ≤ ms) :
    W p l e R s m args below meth c H locs cells slots (vx_MQ below Qc (vx_X (fun _ : Unit => True) (fun E _ _ => PX E) A) args s mc ms free) (F0 m pc ls rest) := by
  obtain ⟨sa, hstr0⟩ := hX.2.2.2.2.2.2.2.2 (is, text) (List.mem_of_getElem? hstr)
  have hat := td_hat_nse (args := args) hts hX
  have hU := hX.1.narrow hA
  have hN := hX.2.1.narrow hA
  intro T hT X
  have htr : e.platform.stackTraces = false := (show e.platform.stackTraces = l.stackTraces by rw [X.admits.platform]).trans hl
  have Y := vx_rebase X (R' := { frames := R.frames, locals := R.locals, cells := 1, slots := 6 }) (Nat.le_refl _) (Nat.le_refl _) hRc hRs
  obtain ⟨s', hA'⟩ : ∃ z, z = (T.setVm s.vm).setFrames (.invoking m args :: below) := ⟨_, rfl⟩
  rw [← hA'] at Y
  have hvm : s'.vm = s.vm := by rw [hA']; rfl
  have hhp : s'.heap = H := by rw [hA']; exact hT
  have hW0 : s.WarmedH s'.vm := by rw [hvm]; exact State.WarmedH.refl s
  have hat' : ∀ w ∈ td_atA.filter vx_no, w.before args s' = true := fun w hw => vx_ot_at hW0 hvm.symm (hg_nse w (List.mem_cons_of_mem _ (List.mem_cons_of_mem _ hw))) (hat w hw)
  have hk' : (Cond.classLink RX0 93 td_nse).before args s' = true := vx_ot_at hW0 hvm.symm (hg_nse _ List.mem_cons_self) (hts _ cl_X0_93)
  have hini' : (Cond.initialized td_nse).before args s' = true := vx_ot_at hW0 hvm.symm (hg_nse _ (List.mem_cons_of_mem _ List.mem_cons_self)) (hts _ in_nse)
  have hU' : vx_Zq Bundle.tN "UNASSIGNED_STACK" Bundle.steD A s' s'.heap := by rw [hhp]; exact vx_Zq.moved hW0.alike (hU.kept hS.2.1)
  have hN' : vx_Zq Bundle.tN "SUPPRESSED_SENTINEL" Bundle.listD A s' s'.heap := by rw [hhp]; exact vx_Zq.moved hW0.alike (hN.kept hS.2.1)
  have h : ∀ w ∈ td_atA, w.before args s' = true := vx_own hat' (vx_isRefq hU'.1) (vx_isRefq hN'.1) hU'.2.word hN'.2.word
  have hown' : s'.vm.findClass RX0 = some m.cls := by rw [hvm]; exact hown
  have hins : (Cond.instantiable td_nse 6).before args s' = true := h _ (List.mem_append_right _ (List.mem_append_right _ (List.mem_append_right _ (List.mem_append_right _ (by simp [td_atT])))))
  obtain ⟨vm₁, cX, kX, hfX, hkX, -, -, X₁, st1⟩ := Y.newCold hexec (own := RX0) (C := td_nse) (index := 93) (n := 6) hown' hk' hins hini'
    (g := F0 m pc ls rest) rfl (by rw [hb]; exact d0) (Nat.le_refl _) (Nat.le_refl _)
  generalize hT1 : (T.setVm vm₁).pushCell { cls := cX, slots := kX.instanceTypes.map defaultValue, vm := .none } = T1 at X₁ st1
  have hcat : (Value.ref T.heap.size).category = 1 := rfl
  have hcellA : T1.heap[T.heap.size]? = some (freshCell cX kX) := by rw [← hT1]; exact State.heap_pushCell_size _ _
  have d3' : decode c.code (pc + 3) = .ok (.dup, 1) := by rw [hb]; exact d3
  have d4' : decode c.code (pc + 4) = .ok (.ldc is, 2) := by rw [hb]; exact d4
  have hstr' : vk_R RX0 is text sa s' := vk_R.warm hW0 hstr0
  obtain ⟨U, hsteps, hrun, hend, hW, hsame, ce, hce, hcv, hcl0⟩ := td_ctorN X₁ hexec htr hown' h (fun x hx => nomatch hx) hfX hkX hcellA (by rw [hhp, hT]; exact Nat.le_refl _) (msg := .ref sa) rfl
    (g := { method := m, pc := pc + 6, locals := ls, stack := .ref sa :: .ref T.heap.size :: .ref T.heap.size :: rest, locked := none }) rfl hsize rfl rfl (rest := rest) rfl
    (by rw [hb]; exact d6) (by rw [hb]; exact d9) (fun x hx => (hout x hx).elim) (by show 2 + 3 < R.frames; omega) (by show 2 * 0 + ((Value.ref T.heap.size :: rest).map fun v => v.category).sum + (13 * (2 + 1) + 42) ≤ R.locals; simp only [List.map_cons, List.sum_cons, hcat]; omega) hlocks
  obtain ⟨f1, f2⟩ := vx_frame hsame
  rw [hhp] at f1 f2
  have hWs : s.WarmedH U.vm := State.WarmedH.trans hW0 hW
  have hcl : s.vm.findClass td_nse = some ce.cls := by rw [hvm] at hcl0; exact hcl0
  have hall : s.sameButNew ({ U with vm := s.vm } : State) locs mc ms := by
    subst hA'
    obtain ⟨e1, e2⟩ := hsame
    rw [State.setFrames_setFrames] at e1
    have h2 : (T.setVm s.vm).sameButNew ({ U with vm := s.vm } : State) [] (0 + 1) (0 + 6) := ⟨e1, e2⟩
    have h3 := X.same.trans h2
    rw [List.append_nil] at h3
    exact h3.mono hc hs
  have hxc : vx_X (fun _ : Unit => True) (fun E _ _ => PX E) A td_nse s U := ⟨(), trivial, hPX, Nat.le_trans hS.1 f1, fun q h1 h2 => (f2 q (Nat.lt_of_lt_of_le h1 hS.1) (fun z hz => nomatch hz)).trans (hS.2.1 q h1 h2)⟩
  refine ⟨U, ?_, .threw T.heap.size, hrun, hend, Or.inr ⟨T.heap.size, rfl, td_nse, ce, locs, hxc, hce, hcv, hcl, hWs, hall, hf⟩⟩
  refine st1 _ ?_
  show Steps p.tables e below (T1.setTop { method := m, pc := pc + 3, locals := ls, stack := .ref T.heap.size :: rest, locked := none }) _
  jvm_step X₁.here [X₁.here.top, hexec, d3', Value.category]
  exact X₁.ldcString hexec (own := RX0) (text := text) (index := is) (a := sa) hown' hstr'.1 hstr'.2
    (g := { method := m, pc := pc + 4, locals := ls, stack := .ref T.heap.size :: .ref T.heap.size :: rest, locked := none }) rfl d4' _ hsteps
end TM
end
section
set_option maxHeartbeats 4000000 in
set_option maxRecDepth 100000 in
theorem m_X0_back (l : Launch) (hfl : l.stackTraces = false) (D : va_G) (sz b0 : Nat) (hb0 : b0 ≤ sz) (o a1 a2 : Nat) (cI cJ : ClassId) (x y : Int64) (pl : Int32) (k : Nat) (hk : k ≤ 64) (v6 : Value) (sq : Nat → Int32) (tu : Nat → Int64) (hba : ∀ q, va_A [(o, .inr (0, [.long x, .long y, .int pl, .int (nI k), .ref a1, .ref a2, v6])), (a1, .inl (cI, 64, .inl sq)), (a2, .inl (cJ, 64, .inr (.inl tu)))] sz q → b0 ≤ q) : vx_Met l y_X0_back (k_X0_back :: tw) ({ frames := 6, cells := 1, slots := 6, locals := 82 }) (va_Pc [.ref o] (fun U => U.heap.size = sz ∧ va_P D tdC [(o, .inr (0, [.long x, .long y, .int pl, .int (nI k), .ref a1, .ref a2, v6])), (a1, .inl (cI, 64, .inl sq)), (a2, .inl (cJ, 64, .inr (.inl tu)))] U.heap ∧ va_K D tdC [(cI, .int), (cJ, .long)] U ∧ va_D (fun _ => True) [(o, .inr (0, [.long x, .long y, .int pl, .int (nI k), .ref a1, .ref a2, v6])), (a1, .inl (cI, 64, .inl sq)), (a2, .inl (cJ, 64, .inr (.inl tu)))] ∧ td_X b0 U)) (va_Qi (fun (r : Int32) (_ : Unit) => 0 < k ∧ r = sq (k - 1)) (fun (_ : Unit) t => va_P D tdC [(o, .inr (0, [.long (y ^^^ (td_on (sq (k - 1)) ||| tu (k - 1))), .long (x ||| tu (k - 1)), .int (1 - pl), .int (nI (k - 1)), .ref a1, .ref a2, v6])), (a1, .inl (cI, 64, .inl sq)), (a2, .inl (cJ, 64, .inr (.inl tu)))] t.heap ∧ va_K D tdC [(cI, .int), (cJ, .long)] t ∧ va_D (va_A [(o, .inr (0, [.long x, .long y, .int pl, .int (nI k), .ref a1, .ref a2, v6])), (a1, .inl (cI, 64, .inl sq)), (a2, .inl (cJ, 64, .inr (.inl tu)))] sz) [(o, .inr (0, [.long (y ^^^ (td_on (sq (k - 1)) ||| tu (k - 1))), .long (x ||| tu (k - 1)), .int (1 - pl), .int (nI (k - 1)), .ref a1, .ref a2, v6])), (a1, .inl (cI, 64, .inl sq)), (a2, .inl (cJ, 64, .inr (.inl tu)))]) (va_A [(o, .inr (0, [.long x, .long y, .int pl, .int (nI k), .ref a1, .ref a2, v6])), (a1, .inl (cI, 64, .inl sq)), (a2, .inl (cJ, 64, .inr (.inl tu)))] sz)) (vx_X (fun _ : Unit => True) (fun E _ _ => E = td_nse ∧ k = 0) (fun q => sz ≤ q)) 1 6 (va_A [(o, .inr (0, [.long x, .long y, .int pl, .int (nI k), .ref a1, .ref a2, v6])), (a1, .inl (cI, 64, .inl sq)), (a2, .inl (cJ, 64, .inr (.inl tu)))] sz) := by
  refine vx_ofW (cc := c_X0_back) (maxL := 6) (ret := (some .int)) (by decide) rfl ?_
  intro p e s m args below meth c s₁ B hml hno hv
  obtain ⟨rfl, hsz, hP, hK, hD0, hX⟩ := hv
  have hx := B.exec
  have hb := B.bytes
  have hr := B.returns
  have hts : ∀ w ∈ tw, w.before _ s = true := fun w h => atoms_spec (ws := k_X0_back :: tw) B.pre w (List.mem_cons_of_mem _ h)
  have hown : s.vm.findClass RX0 = some m.cls := findClass_of_methodNamed B.named
  have hlocks := B.notSynchronized
  subst hsz
  have hD := hD0.self (sz := s.heap.size)
  generalize hAe : va_A [(o, .inr (0, [.long x, .long y, .int pl, .int (nI k), .ref a1, .ref a2, v6])), (a1, .inl (cI, 64, .inl sq)), (a2, .inl (cJ, 64, .inr (.inl tu)))] s.heap.size = A at hD ⊢
  have hA : ∀ q : Nat, s.heap.size ≤ q → A q := fun q h => by rw [← hAe]; exact Or.inr h
  have hS : va_S A s.heap s.heap [] := va_S.rf
  have hP : va_P D tdC [(o, .inr (0, [.long x, .long y, .int pl, .int (nI k), .ref a1, .ref a2, v6])), (a1, .inl (cI, 64, .inl sq)), (a2, .inl (cJ, 64, .inr (.inl tu)))] s.heap := hP
  have hl := lv_entry ([.ref o]) (n := 6) (Nat.le_of_ble_eq_true rfl)
  rw [lg_entry_eq]
  generalize (lg_sl ([.ref o]) ++ List.replicate (6 - (lg_sl ([.ref o])).length) Slot.unset).toArray = ls at hl ⊢
  have hl : lv_has ls 6 [(0, .ref o)] := hl
  rw [hAe] at hba
  have hS0 : va_S (fun q => s.heap.size ≤ q) s.heap s.heap [] := va_S.rf
  refine lv_aload_n hx hb d_X0_back_0 rfl (lv_at hl 0 rfl) ?_
  refine va_get (D := D) (ci := 0) (v := .int (nI k)) (C := RX0) (T := TX0) (N := 7) hx hb hts usX0 hown hK hP 0 rfl rfl 3 (by decide) (hts _ fl_X0_81) (fun _ h9 => h9) rfl d_X0_back_1 ?_
  refine lv_if_gt (tgt := 17) hx hb d_X0_back_4 (by decide) (fun h0 => ?_) (fun h0 => ?_)
  · have hk0 : 0 < k := (nI_ltI (a := 0) (b := k) (by omega) (by omega)).mp h0
    have hk1 : k - 1 < 64 := by omega
    have hcl : (nI (k - 1)).toNatClampNeg = k - 1 := nI_clamp (by omega)
    have hpr : nI k - 1 = nI (k - 1) := by have := nI_pred (k - 1); rwa [Nat.sub_add_cancel hk0] at this
    refine lv_aload_n hx hb d_X0_back_17 rfl (lv_at hl 0 rfl) ?_
    refine lv_dup hx hb d_X0_back_18 rfl ?_
    refine va_get (D := D) (ci := 0) (v := .int (nI k)) (C := RX0) (T := TX0) (N := 7) hx hb hts usX0 hown hK hP 0 rfl rfl 3 (by decide) (hts _ fl_X0_81) (fun _ h9 => h9) rfl d_X0_back_19 ?_
    refine lv_iconst (v := 1) hx hb d_X0_back_22 (by decide) ?_
    refine lv_isub hx hb d_X0_back_23 ?_
    refine td_i (y := (nI (k - 1))) (hpr) ?_
    refine va_put (D := D) (ci := 0) (v := .int (nI (k - 1))) (ty := .int) (C := RX0) (T := TX0) (N := 7) hx hb hts usX0 tyX0 tyX0_ok nmX0 hown hK hP hD hS 0 rfl rfl 3 (by decide) (hts _ fl_X0_81) (fun _ h9 => h9) rfl (by decide +kernel) rfl rfl (Nat.le_of_ble_eq_true rfl) d_X0_back_24 (fun H locs hP hD hS => ?_)
    have hP : va_P D tdC [(o, .inr (0, [.long x, .long y, .int pl, .int (nI (k - 1)), .ref a1, .ref a2, v6])), (a1, .inl (cI, 64, .inl sq)), (a2, .inl (cJ, 64, .inr (.inl tu)))] H := hP
    have hD : va_D A [(o, .inr (0, [.long x, .long y, .int pl, .int (nI (k - 1)), .ref a1, .ref a2, v6])), (a1, .inl (cI, 64, .inl sq)), (a2, .inl (cJ, 64, .inr (.inl tu)))] := hD
    refine lv_aload_n hx hb d_X0_back_27 rfl (lv_at hl 0 rfl) ?_
    refine va_get (D := D) (ci := 0) (v := .ref a1) (C := RX0) (T := TX0) (N := 7) hx hb hts usX0 hown hK hP 0 rfl rfl 4 (by decide) (hts _ fl_X0_9) (fun _ h9 => h9) rfl d_X0_back_28 ?_
    refine lv_aload_n hx hb d_X0_back_31 rfl (lv_at hl 0 rfl) ?_
    refine va_get (D := D) (ci := 0) (v := .int (nI (k - 1))) (C := RX0) (T := TX0) (N := 7) hx hb hts usX0 hown hK hP 0 rfl rfl 3 (by decide) (hts _ fl_X0_81) (fun _ h9 => h9) rfl d_X0_back_32 ?_
    refine va_iald hx hb hK hP 1 0 rfl rfl (vp_in_nI hk1 (by decide)) d_X0_back_35 ?_
    refine td_i (y := (sq (k - 1))) (by rw [hcl]) ?_
    refine lv_istore_n hx hb d_X0_back_36 rfl hl (by decide) rfl (fun ls hl => ?_)
    have hl : lv_has ls 6 [(1, .int (sq (k - 1))), (0, .ref o)] := hl
    refine lv_aload_n hx hb d_X0_back_37 rfl (lv_at hl 1 rfl) ?_
    refine va_get (D := D) (ci := 0) (v := .ref a2) (C := RX0) (T := TX0) (N := 7) hx hb hts usX0 hown hK hP 0 rfl rfl 5 (by decide) (hts _ fl_X0_13) (fun _ h9 => h9) rfl d_X0_back_38 ?_
    refine lv_aload_n hx hb d_X0_back_41 rfl (lv_at hl 1 rfl) ?_
    refine va_get (D := D) (ci := 0) (v := .int (nI (k - 1))) (C := RX0) (T := TX0) (N := 7) hx hb hts usX0 hown hK hP 0 rfl rfl 3 (by decide) (hts _ fl_X0_81) (fun _ h9 => h9) rfl d_X0_back_42 ?_
    refine va_lald hx hb hK hP 2 1 rfl rfl (vp_in_nI hk1 (by decide)) d_X0_back_45 ?_
    refine td_l (y := (tu (k - 1))) (by rw [hcl]) ?_
    refine lv_lstore_n hx hb d_X0_back_46 rfl hl (by decide) rfl (fun ls hl => ?_)
    have hl : lv_has ls 6 [(2, .long (tu (k - 1))), (1, .int (sq (k - 1))), (0, .ref o)] := hl
    refine lv_aload_n hx hb d_X0_back_47 rfl (lv_at hl 2 rfl) ?_
    refine va_get (D := D) (ci := 0) (v := .long y) (C := RX0) (T := TX0) (N := 7) hx hb hts usX0 hown hK hP 0 rfl rfl 1 (by decide) (hts _ fl_X0_51) (fun _ h9 => h9) rfl d_X0_back_48 ?_
    refine lv_iload_n hx hb d_X0_back_51 rfl (lv_at hl 1 rfl) ?_
    refine vp_callSl (W.runS (As := [.int (sq (k - 1))]) (rest := [.long y]) ⟨hx, hb, hml, hown, hts⟩ (m_X0_discOn l (sq (k - 1))) (va_cwS 1 hts (tw_S ml_X0_60 st_X0_discOn in_X0 kw_X0_discOn) rfl rfl rfl (by decide +kernel) ⟨Nat.le_of_ble_eq_true rfl, Nat.le_of_ble_eq_true rfl⟩) ⟨fun _ _ _ _ q => q, fun U hU hW => ⟨rfl, trivial⟩⟩ rfl rfl hl.1 rfl (lv_room (Nat.le_of_ble_eq_true rfl)) d_X0_back_52 ⟨Nat.zero_le _, Nat.zero_le _⟩) (fun r h9 => ?_)
    subst h9
    refine lv_lload_n hx hb d_X0_back_55 rfl (lv_at hl 0 rfl) ?_
    refine lv_lor hx hb d_X0_back_56 ?_
    refine lv_lxor hx hb d_X0_back_57 ?_
    refine lv_lstore hx hb d_X0_back_58 hl (by decide) rfl (fun ls hl => ?_)
    have hl : lv_has ls 6 [(4, .long (y ^^^ ((td_on (sq (k - 1))) ||| (tu (k - 1))))), (2, .long (tu (k - 1))), (1, .int (sq (k - 1))), (0, .ref o)] := hl
    refine lv_aload_n hx hb d_X0_back_60 rfl (lv_at hl 3 rfl) ?_
    refine lv_aload_n hx hb d_X0_back_61 rfl (lv_at hl 3 rfl) ?_
    refine va_get (D := D) (ci := 0) (v := .long x) (C := RX0) (T := TX0) (N := 7) hx hb hts usX0 hown hK hP 0 rfl rfl 0 (by decide) (hts _ fl_X0_47) (fun _ h9 => h9) rfl d_X0_back_62 ?_
    refine lv_lload_n hx hb d_X0_back_65 rfl (lv_at hl 1 rfl) ?_
    refine lv_lor hx hb d_X0_back_66 ?_
    refine va_put (D := D) (ci := 0) (v := .long (x ||| (tu (k - 1)))) (ty := .long) (C := RX0) (T := TX0) (N := 7) hx hb hts usX0 tyX0 tyX0_ok nmX0 hown hK hP hD hS 0 rfl rfl 1 (by decide) (hts _ fl_X0_51) (fun _ h9 => h9) rfl (by decide +kernel) rfl rfl (Nat.le_of_ble_eq_true rfl) d_X0_back_67 (fun H locs hP hD hS => ?_)
    have hP : va_P D tdC [(o, .inr (0, [.long x, .long (x ||| (tu (k - 1))), .int pl, .int (nI (k - 1)), .ref a1, .ref a2, v6])), (a1, .inl (cI, 64, .inl sq)), (a2, .inl (cJ, 64, .inr (.inl tu)))] H := hP
    have hD : va_D A [(o, .inr (0, [.long x, .long (x ||| (tu (k - 1))), .int pl, .int (nI (k - 1)), .ref a1, .ref a2, v6])), (a1, .inl (cI, 64, .inl sq)), (a2, .inl (cJ, 64, .inr (.inl tu)))] := hD
    refine lv_aload_n hx hb d_X0_back_70 rfl (lv_at hl 3 rfl) ?_
    refine lv_lload hx hb d_X0_back_71 (lv_at hl 0 rfl) ?_
    refine va_put (D := D) (ci := 0) (v := .long (y ^^^ ((td_on (sq (k - 1))) ||| (tu (k - 1))))) (ty := .long) (C := RX0) (T := TX0) (N := 7) hx hb hts usX0 tyX0 tyX0_ok nmX0 hown hK hP hD hS 0 rfl rfl 0 (by decide) (hts _ fl_X0_47) (fun _ h9 => h9) rfl (by decide +kernel) rfl rfl (Nat.le_of_ble_eq_true rfl) d_X0_back_73 (fun H locs hP hD hS => ?_)
    have hP : va_P D tdC [(o, .inr (0, [.long (y ^^^ ((td_on (sq (k - 1))) ||| (tu (k - 1)))), .long (x ||| (tu (k - 1))), .int pl, .int (nI (k - 1)), .ref a1, .ref a2, v6])), (a1, .inl (cI, 64, .inl sq)), (a2, .inl (cJ, 64, .inr (.inl tu)))] H := hP
    have hD : va_D A [(o, .inr (0, [.long (y ^^^ ((td_on (sq (k - 1))) ||| (tu (k - 1)))), .long (x ||| (tu (k - 1))), .int pl, .int (nI (k - 1)), .ref a1, .ref a2, v6])), (a1, .inl (cI, 64, .inl sq)), (a2, .inl (cJ, 64, .inr (.inl tu)))] := hD
    refine lv_aload_n hx hb d_X0_back_76 rfl (lv_at hl 3 rfl) ?_
    refine lv_iconst (v := 1) hx hb d_X0_back_77 (by decide) ?_
    refine lv_aload_n hx hb d_X0_back_78 rfl (lv_at hl 3 rfl) ?_
    refine va_get (D := D) (ci := 0) (v := .int pl) (C := RX0) (T := TX0) (N := 7) hx hb hts usX0 hown hK hP 0 rfl rfl 2 (by decide) (hts _ fl_X0_43) (fun _ h9 => h9) rfl d_X0_back_79 ?_
    refine lv_isub hx hb d_X0_back_82 ?_
    refine va_put (D := D) (ci := 0) (v := .int (1 - pl)) (ty := .int) (C := RX0) (T := TX0) (N := 7) hx hb hts usX0 tyX0 tyX0_ok nmX0 hown hK hP hD hS 0 rfl rfl 2 (by decide) (hts _ fl_X0_43) (fun _ h9 => h9) rfl (by decide +kernel) rfl rfl (Nat.le_of_ble_eq_true rfl) d_X0_back_83 (fun H locs hP hD hS => ?_)
    have hP : va_P D tdC [(o, .inr (0, [.long (y ^^^ ((td_on (sq (k - 1))) ||| (tu (k - 1)))), .long (x ||| (tu (k - 1))), .int (1 - pl), .int (nI (k - 1)), .ref a1, .ref a2, v6])), (a1, .inl (cI, 64, .inl sq)), (a2, .inl (cJ, 64, .inr (.inl tu)))] H := hP
    have hD : va_D A [(o, .inr (0, [.long (y ^^^ ((td_on (sq (k - 1))) ||| (tu (k - 1)))), .long (x ||| (tu (k - 1))), .int (1 - pl), .int (nI (k - 1)), .ref a1, .ref a2, v6])), (a1, .inl (cI, 64, .inl sq)), (a2, .inl (cJ, 64, .inr (.inl tu)))] := hD
    refine lv_iload_n hx hb d_X0_back_86 rfl (lv_at hl 2 rfl) ?_
    refine vx_ret (W.widen (k := 1) (n := 6) (Nat.le_of_ble_eq_true rfl) (Nat.le_of_ble_eq_true rfl) ?_)
    exact W.iret (v := (sq (k - 1))) hx hb hr (fun t ht hW => ⟨⟨_, (), rfl, ⟨hk0, rfl⟩, by rw [ht]; exact hP, va_K.moved hW.alike hK, hD⟩, hS.F ht⟩) hS.2.2 d_X0_back_87
  · have hk0 : k = 0 := by have h1 := nI_ltI (a := 0) (b := k) (by omega) (by omega); have h2 : ¬ 0 < k := fun z => h0 (h1.mpr z); omega
    exact td_thr_nse 5 rfl hx hb hfl hown hts hX (fun q h => Nat.le_trans hb0 h) hS0 hS.2.2 (by rw [hml]; exact hl.1) d_X0_back_7 d_X0_back_10 d_X0_back_11 d_X0_back_13 d_X0_back_16 hno (Nat.le_of_ble_eq_true rfl) (Nat.le_of_ble_eq_true rfl) (Nat.le_of_ble_eq_true rfl) (Nat.le_of_ble_eq_true rfl) hlocks ⟨rfl, hk0⟩ (Nat.le_of_ble_eq_true rfl) (Nat.le_of_ble_eq_true rfl)
set_option maxHeartbeats 4000000 in
set_option maxRecDepth 100000 in
theorem m_X0_init (l : Launch) (D : va_G) (sz : Nat) (o : Nat) : Met l y_X0_init (k_X0_init :: tw) ({ frames := 1, cells := 3, slots := 142, locals := 25 }) (va_Pc [.ref o] (fun U => U.heap.size = sz ∧ va_P D tdC [(o, .inr (0, [.long 0, .long 0, .int 0, .int 0, .null, .null, .null]))] U.heap ∧ va_K D tdC [] U ∧ va_D (fun _ => True) [(o, .inr (0, [.long 0, .long 0, .int 0, .int 0, .null, .null, .null]))])) (va_Qv (fun (_ : Nat × Nat × Nat × ClassId × ClassId) => True) (fun (u : Nat × Nat × Nat × ClassId × ClassId) t => va_P D tdC [(o, .inr (0, [.long 34628173824, .long 68853694464, .int 0, .int 0, .ref (u.1), .ref (u.2.1), .ref (u.2.2.1)])), (u.1, .inl (u.2.2.2.1, 64, .inl (fun _ => 0))), (u.2.1, .inl (u.2.2.2.2, 64, .inr (.inl (fun _ => 0)))), (u.2.2.1, .inl (u.2.2.2.1, 14, .inl (fun _ => 0)))] t.heap ∧ va_K D tdC [(u.2.2.2.1, .int), (u.2.2.2.2, .long)] t ∧ va_D (va_A [(o, .inr (0, [.long 0, .long 0, .int 0, .int 0, .null, .null, .null]))] sz) [(o, .inr (0, [.long 34628173824, .long 68853694464, .int 0, .int 0, .ref (u.1), .ref (u.2.1), .ref (u.2.2.1)])), (u.1, .inl (u.2.2.2.1, 64, .inl (fun _ => 0))), (u.2.1, .inl (u.2.2.2.2, 64, .inr (.inl (fun _ => 0)))), (u.2.2.1, .inl (u.2.2.2.1, 14, .inl (fun _ => 0)))]) (va_A [(o, .inr (0, [.long 0, .long 0, .int 0, .int 0, .null, .null, .null]))] sz)) 3 142 (va_A [(o, .inr (0, [.long 0, .long 0, .int 0, .int 0, .null, .null, .null]))] sz) := by
  refine Met.ofW (cc := c_X0_init) (maxL := 1) (ret := none) (by decide) rfl ?_
  intro p e s m args below meth c s₁ B hml hv
  obtain ⟨rfl, hsz, hP, hK, hD0⟩ := hv
  have hx := B.exec
  have hb := B.bytes
  have hr := B.returns
  have hts : ∀ w ∈ tw, w.before _ s = true := fun w h => atoms_spec (ws := k_X0_init :: tw) B.pre w (List.mem_cons_of_mem _ h)
  have hown : s.vm.findClass RX0 = some m.cls := findClass_of_methodNamed B.named
  have hlocks := B.notSynchronized
  have hin : meth.name = "<init>" := (name_of_methodNamed B.named B.method).1
  subst hsz
  have hD := hD0.self (sz := s.heap.size)
  generalize hAe : va_A [(o, .inr (0, [.long 0, .long 0, .int 0, .int 0, .null, .null, .null]))] s.heap.size = A at hD ⊢
  have hA : ∀ q : Nat, s.heap.size ≤ q → A q := fun q h => by rw [← hAe]; exact Or.inr h
  have hS : va_S A s.heap s.heap [] := va_S.rf
  have hP : va_P D tdC [(o, .inr (0, [.long 0, .long 0, .int 0, .int 0, .null, .null, .null]))] s.heap := hP
  have hl := lv_entry ([.ref o]) (n := 1) (Nat.le_of_ble_eq_true rfl)
  rw [lg_entry_eq]
  generalize (lg_sl ([.ref o]) ++ List.replicate (1 - (lg_sl ([.ref o])).length) Slot.unset).toArray = ls at hl ⊢
  have hl : lv_has ls 1 [(0, .ref o)] := hl
  refine lv_aload_n hx hb d_X0_init_0 rfl (lv_at hl 0 rfl) ?_
  refine W.objInit hx hb hown (hts _ ml_X0_3) (hts _ im_obj) (hts _ kw_obj) rfl (by rw [hml]; exact hl.1) rfl d_X0_init_1 (Nat.le_of_ble_eq_true rfl) (Nat.le_of_ble_eq_true rfl) ?_
  refine W.eq (g2 := F0 m 4 ls []) rfl ?_
  refine lv_aload_n hx hb d_X0_init_4 rfl (lv_at hl 0 rfl) ?_
  refine lv_bipush (v := 64) hx hb d_X0_init_5 (by decide) ?_
  refine va_newa (atype := .int) (a0 := (64, .inl (fun _ => 0))) (N' := 64) hx hb (hts _ ac_int) rfl hK hP hD hS hA (fun _ => rfl) (by decide) (by decide) (by decide) (Nat.le_of_ble_eq_true rfl) (Nat.le_of_ble_eq_true rfl) d_X0_init_7 (fun q1 c1 H hK hP hD hS => ?_)
  have hP : va_P D tdC [(o, .inr (0, [.long 0, .long 0, .int 0, .int 0, .null, .null, .null])), (q1, .inl (c1, 64, .inl (fun _ => 0)))] H := hP
  have hD : va_D A [(o, .inr (0, [.long 0, .long 0, .int 0, .int 0, .null, .null, .null])), (q1, .inl (c1, 64, .inl (fun _ => 0)))] := hD
  have hK : va_K D tdC [(c1, .int)] s := hK
  refine va_putF (D := D) (ci := 0) (v := .ref q1) (ty := .array .int) (C := RX0) (T := TX0) (N := 7) hx hb hts usX0 tyX0 tyX0_ok nmX0 hown hK hP hD hS 0 rfl rfl 4 (by decide) (hts _ fl_X0_9) (fun _ h9 => h9) rfl hin rfl (by decide +kernel) rfl rfl (Nat.le_of_ble_eq_true rfl) d_X0_init_9 (fun H locs hP hD hS => ?_)
  have hP : va_P D tdC [(o, .inr (0, [.long 0, .long 0, .int 0, .int 0, .ref q1, .null, .null])), (q1, .inl (c1, 64, .inl (fun _ => 0)))] H := hP
  have hD : va_D A [(o, .inr (0, [.long 0, .long 0, .int 0, .int 0, .ref q1, .null, .null])), (q1, .inl (c1, 64, .inl (fun _ => 0)))] := hD
  refine lv_aload_n hx hb d_X0_init_12 rfl (lv_at hl 0 rfl) ?_
  refine lv_bipush (v := 64) hx hb d_X0_init_13 (by decide) ?_
  refine va_newa (atype := .long) (a0 := (64, .inr (.inl (fun _ => 0)))) (N' := 64) hx hb (hts _ ac_long) rfl hK hP hD hS hA (fun _ => rfl) (by decide) (by decide) (by decide) (Nat.le_of_ble_eq_true rfl) (Nat.le_of_ble_eq_true rfl) d_X0_init_15 (fun q2 c2 H hK hP hD hS => ?_)
  have hP : va_P D tdC [(o, .inr (0, [.long 0, .long 0, .int 0, .int 0, .ref q1, .null, .null])), (q1, .inl (c1, 64, .inl (fun _ => 0))), (q2, .inl (c2, 64, .inr (.inl (fun _ => 0))))] H := hP
  have hD : va_D A [(o, .inr (0, [.long 0, .long 0, .int 0, .int 0, .ref q1, .null, .null])), (q1, .inl (c1, 64, .inl (fun _ => 0))), (q2, .inl (c2, 64, .inr (.inl (fun _ => 0))))] := hD
  have hK : va_K D tdC [(c1, .int), (c2, .long)] s := hK
  refine va_putF (D := D) (ci := 0) (v := .ref q2) (ty := .array .long) (C := RX0) (T := TX0) (N := 7) hx hb hts usX0 tyX0 tyX0_ok nmX0 hown hK hP hD hS 0 rfl rfl 5 (by decide) (hts _ fl_X0_13) (fun _ h9 => h9) rfl hin rfl (by decide +kernel) rfl rfl (Nat.le_of_ble_eq_true rfl) d_X0_init_17 (fun H locs hP hD hS => ?_)
  have hP : va_P D tdC [(o, .inr (0, [.long 0, .long 0, .int 0, .int 0, .ref q1, .ref q2, .null])), (q1, .inl (c1, 64, .inl (fun _ => 0))), (q2, .inl (c2, 64, .inr (.inl (fun _ => 0))))] H := hP
  have hD : va_D A [(o, .inr (0, [.long 0, .long 0, .int 0, .int 0, .ref q1, .ref q2, .null])), (q1, .inl (c1, 64, .inl (fun _ => 0))), (q2, .inl (c2, 64, .inr (.inl (fun _ => 0))))] := hD
  refine lv_aload_n hx hb d_X0_init_20 rfl (lv_at hl 0 rfl) ?_
  refine lv_bipush (v := 14) hx hb d_X0_init_21 (by decide) ?_
  refine va_newa (atype := .int) (a0 := (14, .inl (fun _ => 0))) (N' := 14) hx hb (hts _ ac_int) rfl hK hP hD hS hA (fun _ => rfl) (by decide) (by decide) (by decide) (Nat.le_of_ble_eq_true rfl) (Nat.le_of_ble_eq_true rfl) d_X0_init_23 (fun q3 c3 H hK hP hD hS => ?_)
  have hP : va_P D tdC [(o, .inr (0, [.long 0, .long 0, .int 0, .int 0, .ref q1, .ref q2, .null])), (q1, .inl (c1, 64, .inl (fun _ => 0))), (q2, .inl (c2, 64, .inr (.inl (fun _ => 0)))), (q3, .inl (c3, 14, .inl (fun _ => 0)))] H := hP
  have hD : va_D A [(o, .inr (0, [.long 0, .long 0, .int 0, .int 0, .ref q1, .ref q2, .null])), (q1, .inl (c1, 64, .inl (fun _ => 0))), (q2, .inl (c2, 64, .inr (.inl (fun _ => 0)))), (q3, .inl (c3, 14, .inl (fun _ => 0)))] := hD
  have hK : va_K D tdC [(c1, .int), (c2, .long), (c3, .int)] s := hK
  refine va_putF (D := D) (ci := 0) (v := .ref q3) (ty := .array .int) (C := RX0) (T := TX0) (N := 7) hx hb hts usX0 tyX0 tyX0_ok nmX0 hown hK hP hD hS 0 rfl rfl 6 (by decide) (hts _ fl_X0_17) (fun _ h9 => h9) rfl hin rfl (by decide +kernel) rfl rfl (Nat.le_of_ble_eq_true rfl) d_X0_init_25 (fun H locs hP hD hS => ?_)
  have hP : va_P D tdC [(o, .inr (0, [.long 0, .long 0, .int 0, .int 0, .ref q1, .ref q2, .ref q3])), (q1, .inl (c1, 64, .inl (fun _ => 0))), (q2, .inl (c2, 64, .inr (.inl (fun _ => 0)))), (q3, .inl (c3, 14, .inl (fun _ => 0)))] H := hP
  have hD : va_D A [(o, .inr (0, [.long 0, .long 0, .int 0, .int 0, .ref q1, .ref q2, .ref q3])), (q1, .inl (c1, 64, .inl (fun _ => 0))), (q2, .inl (c2, 64, .inr (.inl (fun _ => 0)))), (q3, .inl (c3, 14, .inl (fun _ => 0)))] := hD
  refine lv_aload_n hx hb d_X0_init_28 rfl (lv_at hl 0 rfl) ?_
  refine lv_ldc2 (v := 34628173824) hx hb hown (hts _ cn_X0_20) d_X0_init_29 ?_
  refine lv_ldc2 (v := 68853694464) hx hb hown (hts _ cn_X0_22) d_X0_init_32 ?_
  refine lv_iconst (v := 0) hx hb d_X0_init_35 (by decide) ?_
  have hPc := hP.sub (ws' := [(o, .inr (0, [.long 0, .long 0, .int 0, .int 0, .ref q1, .ref q2, .ref q3]))]) [0] rfl
  have hDc := hD.sub (ws' := [(o, .inr (0, [.long 0, .long 0, .int 0, .int 0, .ref q1, .ref q2, .ref q3]))]) [0] (by decide) rfl
  have hKc := hK.sub (tys' := []) [] rfl
  have hFc := va_free (wc := [(o, .inr (0, [.long 0, .long 0, .int 0, .int 0, .ref q1, .ref q2, .ref q3]))]) hD hS hA [0] rfl
  refine va_callv (va_runV (b := o) (C := RX0) (As := [.long 34628173824, .long 68853694464, .int 0]) (rest := []) ⟨hx, hb, hml, hown, hts⟩ (m_X0_setUp l D _ o 0 0 0 0 (.ref q1) (.ref q2) (.ref q3) 34628173824 68853694464 0) (cwV 3 hts (tw_V ml_X0_24 im_X0_setUp se_X0_setUp in_X0 kw_X0_setUp) rfl rfl rfl (by decide +kernel) ⟨Nat.le_of_ble_eq_true rfl, Nat.le_of_ble_eq_true rfl⟩) ⟨fun a U g mk q => ⟨q.1, q.2.1, q.2.2.1, va_K.moved (u := U) (U := U.calling g mk a) (Vm.Alike.refl U.vm) q.2.2.2.1, q.2.2.2.2⟩, va_recv (q0 := 0) (ci := 0) hK hP rfl rfl, fun U hU hW => ⟨rfl, by rw [hU], by rw [hU]; exact hPc, va_K.moved hW.alike hKc, hDc.weaken (fun _ _ _ _ => trivial)⟩⟩ rfl rfl hl.1 rfl (lv_room (Nat.le_of_ble_eq_true rfl)) d_X0_init_36 ⟨Nat.le_of_ble_eq_true rfl, Nat.le_of_ble_eq_true rfl⟩) hS (fun q _ h => hFc q h) hFc (fun u0 t0 H1 locs ht hvm hq hB hz1 hk1 hS => ?_)
  obtain ⟨hP1, hK1, hD1⟩ := hB
  rw [ht] at hP1
  obtain ⟨hP, hD⟩ := va_join (wr := [(q1, .inl (c1, 64, .inl (fun _ => 0))), (q2, .inl (c2, 64, .inr (.inl (fun _ => 0)))), (q3, .inl (c3, 14, .inl (fun _ => 0)))]) (w1 := [(o, .inr (0, [.long 34628173824, .long 68853694464, .int 0, .int 0, .ref q1, .ref q2, .ref q3]))]) hP hD [0] [1, 2, 3] rfl rfl (by decide) (by decide) hk1 hFc hP1 hD1
  clear hPc hDc hKc hFc hP1 hK1 hD1 hk1 hz1
  have hP := hP.sub (ws' := [(o, .inr (0, [.long 34628173824, .long 68853694464, .int 0, .int 0, .ref q1, .ref q2, .ref q3])), (q1, .inl (c1, 64, .inl (fun _ => 0))), (q2, .inl (c2, 64, .inr (.inl (fun _ => 0)))), (q3, .inl (c3, 14, .inl (fun _ => 0)))]) [3, 0, 1, 2] rfl
  have hD := hD.sub (ws' := [(o, .inr (0, [.long 34628173824, .long 68853694464, .int 0, .int 0, .ref q1, .ref q2, .ref q3])), (q1, .inl (c1, 64, .inl (fun _ => 0))), (q2, .inl (c2, 64, .inr (.inl (fun _ => 0)))), (q3, .inl (c3, 14, .inl (fun _ => 0)))]) [3, 0, 1, 2] (by decide) rfl
  clear ht hvm
  generalize H1 = H at hP hS ⊢
  have hc3 : c3 = c1 := by
    have h1 := (hK.2 0 (c1, .int) rfl).2
    have h3 := (hK.2 2 (c3, .int) rfl).2
    exact Option.some.inj (h3.symm.trans h1)
  subst hc3
  have hK := hK.sub (tys' := [(c3, .int), (c2, .long)]) [0, 1] rfl
  exact W.vret hx hb hr (fun t ht hW => ⟨⟨(q1, q2, q3, c3, c2), rfl, trivial, by rw [ht]; exact hP, va_K.moved hW.alike hK, hD⟩, hS.F ht⟩) hS.2.2 d_X0_init_39
end
section
/-! the reference's ways over the board: its rows and columns in its own numbers, the square that lies j steps off, tables by decision -/
def td_rw (w : Int32) : Int32 := if w < 3 then -1 else if w < 5 then 0 else 1
def td_cw (w : Int32) : Int32 := if w = 0 ∨ w = 3 ∨ w = 5 then -1 else if w = 1 ∨ w = 6 then 0 else 1
def td_on8 (r c : Int32) : Bool := decide (¬ r < 0) && decide (r < 8) && decide (¬ c < 0) && decide (c < 8)
theorem td_on8_iff (r c : Int32) : td_on8 r c = true ↔ (¬ r < 0 ∧ r < 8 ∧ ¬ c < 0 ∧ c < 8) := by
  simp only [td_on8, Bool.and_eq_true, decide_eq_true_eq, and_assoc]
def td_r (w s : Nat) : Nat → Int32
  | 0 => nI s / 8
  | j + 1 => td_r w s j + td_rw (nI w)
def td_c (w s : Nat) : Nat → Int32
  | 0 => nI s - nI s / 8 * 8
  | j + 1 => td_c w s j + td_cw (nI w)
/-- the square j steps off in way w; 64 where that is off the board -/
def td_ps (w s j : Nat) : Nat := if td_on8 (td_r w s j) (td_c w s j) then (8 * td_r w s j + td_c w s j).toNatClampNeg else 64
def td_geo1 (w s j : Nat) : Bool := !(td_on8 (td_r w s j) (td_c w s j)) || (decide (td_ps w s j < 64) && decide (td_r w s j = nI (td_ps w s j / 8)) && decide (td_c w s j = nI (td_ps w s j % 8)) && decide (nI s + nI j * (8 * td_rw (nI w) + td_cw (nI w)) = nI (td_ps w s j)))
theorem td_geo1_all : ((List.range 8).all fun w => (List.range 64).all fun s => (List.range 9).all fun j => td_geo1 w s j) = true := by decide +kernel
theorem td_geo8_all : ((List.range 8).all fun w => (List.range 64).all fun s => decide (td_ps w s 8 = 64)) = true := by decide +kernel
theorem td_all3 {P : Nat → Nat → Nat → Bool} {a b c : Nat} (h : ((List.range a).all fun w => (List.range b).all fun s => (List.range c).all fun j => P w s j) = true) {w s j : Nat} (hw : w < a) (hs : s < b) (hj : j < c) : P w s j = true := by
  have h1 := List.all_eq_true.mp h w (List.mem_range.mpr hw)
  have h2 := List.all_eq_true.mp h1 s (List.mem_range.mpr hs)
  exact List.all_eq_true.mp h2 j (List.mem_range.mpr hj)
theorem td_all2 {P : Nat → Nat → Bool} {a b : Nat} (h : ((List.range a).all fun w => (List.range b).all fun s => P w s) = true) {w s : Nat} (hw : w < a) (hs : s < b) : P w s = true := by
  have h1 := List.all_eq_true.mp h w (List.mem_range.mpr hw)
  exact List.all_eq_true.mp h1 s (List.mem_range.mpr hs)
theorem td_geo {w s j : Nat} (hw : w < 8) (hs : s < 64) (hj : j < 9) (h : td_on8 (td_r w s j) (td_c w s j) = true) : td_ps w s j < 64 ∧ td_r w s j = nI (td_ps w s j / 8) ∧ td_c w s j = nI (td_ps w s j % 8) ∧ nI s + nI j * (8 * td_rw (nI w) + td_cw (nI w)) = nI (td_ps w s j) := by
  have h1 := td_all3 td_geo1_all hw hs hj
  simp only [td_geo1, h, Bool.not_true, Bool.false_or, Bool.and_eq_true, decide_eq_true_eq, and_assoc] at h1
  exact h1
theorem td_on_ps {w s j : Nat} (h : td_ps w s j < 64) : td_on8 (td_r w s j) (td_c w s j) = true := by
  unfold td_ps at h
  by_cases hc : td_on8 (td_r w s j) (td_c w s j) = true
  · exact hc
  · rw [if_neg hc] at h; omega
theorem td_ps_on {w s j : Nat} (hw : w < 8) (hs : s < 64) (hj : j < 9) : td_on8 (td_r w s j) (td_c w s j) = true ↔ td_ps w s j < 64 := ⟨fun h => (td_geo hw hs hj h).1, td_on_ps⟩
theorem td_ps8 {w s : Nat} (hw : w < 8) (hs : s < 64) : td_ps w s 8 = 64 := of_decide_eq_true (td_all2 td_geo8_all hw hs)
/-- how many in a row from step j on hold v -/
def td_cnt (g : Nat → Int32) (v : Int32) (w s : Nat) : Nat → Nat → Nat
  | 0, j => j
  | f + 1, j => if td_ps w s (j + 1) < 64 ∧ g (td_ps w s (j + 1)) = v then td_cnt g v w s f (j + 1) else j
theorem td_cnt_ge (g : Nat → Int32) (v : Int32) (w s : Nat) : ∀ f j, j ≤ td_cnt g v w s f j
  | 0, j => Nat.le_refl _
  | f + 1, j => by
    unfold td_cnt
    by_cases h : td_ps w s (j + 1) < 64 ∧ g (td_ps w s (j + 1)) = v
    · rw [if_pos h]; exact Nat.le_trans (Nat.le_succ j) (td_cnt_ge g v w s f (j + 1))
    · rw [if_neg h]; exact Nat.le_refl _
theorem td_cnt_in (g : Nat → Int32) (v : Int32) (w s : Nat) : ∀ f j i, j < i → i ≤ td_cnt g v w s f j → td_ps w s i < 64 ∧ g (td_ps w s i) = v
  | 0, j, i, h1, h2 => by unfold td_cnt at h2; omega
  | f + 1, j, i, h1, h2 => by
    unfold td_cnt at h2
    by_cases h : td_ps w s (j + 1) < 64 ∧ g (td_ps w s (j + 1)) = v
    · rw [if_pos h] at h2
      by_cases hi : i = j + 1
      · rw [hi]; exact h
      · exact td_cnt_in g v w s f (j + 1) i (by omega) h2
    · rw [if_neg h] at h2; omega
theorem td_cnt_le {w s : Nat} (hw : w < 8) (hs : s < 64) (g : Nat → Int32) (v : Int32) (f : Nat) : td_cnt g v w s f 0 ≤ 7 := by
  by_cases h : td_cnt g v w s f 0 ≤ 7
  · exact h
  · have h1 := (td_cnt_in g v w s f 0 8 (by omega) (by omega)).1
    rw [td_ps8 hw hs] at h1
    omega
/-- behind the last of them something else lies (or the board's end), if there was fuel enough -/
theorem td_cnt_out {w s : Nat} (hw : w < 8) (hs : s < 64) (g : Nat → Int32) (v : Int32) : ∀ f j, j + f = 8 → ¬ (td_ps w s (td_cnt g v w s f j + 1) < 64 ∧ g (td_ps w s (td_cnt g v w s f j + 1)) = v) ∨ td_cnt g v w s f j = 8
  | 0, j, h => by right; unfold td_cnt; omega
  | f + 1, j, h => by
    unfold td_cnt
    by_cases hc : td_ps w s (j + 1) < 64 ∧ g (td_ps w s (j + 1)) = v
    · rw [if_pos hc]; exact td_cnt_out hw hs g v f (j + 1) (by omega)
    · rw [if_neg hc]; exact Or.inl hc
def td_al (g : Nat → Int32) (who : Int32) (w s : Nat) : Nat :=
  if td_ps w s (td_cnt g (2 - who) w s 8 0 + 1) < 64 ∧ g (td_ps w s (td_cnt g (2 - who) w s 8 0 + 1)) = who + 1 then td_cnt g (2 - who) w s 8 0 else 0
theorem td_al_le {w s : Nat} (hw : w < 8) (hs : s < 64) (g : Nat → Int32) (who : Int32) : td_al g who w s ≤ 7 := by
  unfold td_al
  by_cases h : td_ps w s (td_cnt g (2 - who) w s 8 0 + 1) < 64 ∧ g (td_ps w s (td_cnt g (2 - who) w s 8 0 + 1)) = who + 1
  · rw [if_pos h]; exact td_cnt_le hw hs g _ 8
  · rw [if_neg h]; omega
theorem td_al_in {w s : Nat} (g : Nat → Int32) (who : Int32) {j : Nat} (h0 : 0 < j) (h : j ≤ td_al g who w s) : td_ps w s j < 64 := by
  unfold td_al at h
  by_cases hc : td_ps w s (td_cnt g (2 - who) w s 8 0 + 1) < 64 ∧ g (td_ps w s (td_cnt g (2 - who) w s 8 0 + 1)) = who + 1
  · rw [if_pos hc] at h; exact (td_cnt_in g _ w s 8 0 j h0 h).1
  · rw [if_neg hc] at h; omega
def td_in (w s : Nat) : Nat → Int64 → Int64
  | 0, z => z
  | n + 1, z => td_in w s n z ||| td_lshl 1 (nI (td_ps w s (n + 1)))
def td_fw (g : Nat → Int32) (who : Int32) (s : Nat) : Nat → Int64
  | 0 => 0
  | w + 1 => td_in w s (td_al g who w s) (td_fw g who s w)
/-- what the reference says a disc of who on s turns -/
def td_fl (g : Nat → Int32) (who : Int32) (s : Nat) : Int64 := if g s = 0 then td_fw g who s 8 else 0
def td_cn (P : Nat → Bool) : Nat → Nat
  | 0 => 0
  | n + 1 => td_cn P n + (if P n then 1 else 0)
theorem td_cn_le (P : Nat → Bool) : ∀ n, td_cn P n ≤ n
  | 0 => Nat.le_refl _
  | n + 1 => by
    have := td_cn_le P n
    unfold td_cn
    by_cases h : P n = true
    · rw [if_pos h]; omega
    · rw [if_neg h]; omega
def td_mv (g : Nat → Int32) (who : Int32) : Nat := td_cn (fun s => decide (td_fl g who s ≠ 0)) 64
def td_dc (g : Nat → Int32) (who : Int32) : Nat := td_cn (fun s => decide (g s = who + 1)) 64
def td_ones (z : Int64) : Nat := td_cn (fun s => decide ((td_lshr z (nI s) &&& 1) = 1)) 64
def td_any (g : Nat → Int32) (who : Int32) (s : Nat) : Bool := decide (g s = 0) && (List.range 8).any (fun w => decide (0 < td_al g who w s))
/-- the board at a level -/
def td_lv (f : Nat → Int32) (L : Nat) : Nat → Int32 := fun i => f (64 * L + i)
end
section
set_option maxHeartbeats 4000000 in
set_option maxRecDepth 100000 in
theorem m_X1_isOn (l : Launch) (r q : Int32) : Met l y_X1_isOn (k_X1_isOn :: tw) ({ frames := 0, cells := 0, slots := 0, locals := 0 }) (va_Pc [.int r, .int q] (fun _ => True)) (vp_Si (fun x => (td_on8 r q = true ∧ x = 1) ∨ (¬ td_on8 r q = true ∧ x = 0))) 0 0 (fun _ => False) := by
  refine Met.ofW (cc := c_X1_isOn) (maxL := 2) (ret := (some .boolean)) (by decide) rfl ?_
  intro p e s m args below meth c s₁ B hml hv
  obtain ⟨rfl, hv⟩ := hv
  have hx := B.exec
  have hb := B.bytes
  have hr := B.returns
  have hts : ∀ w ∈ tw, w.before _ s = true := fun w h => atoms_spec (ws := k_X1_isOn :: tw) B.pre w (List.mem_cons_of_mem _ h)
  have hown : s.vm.findClass RX1 = some m.cls := findClass_of_methodNamed B.named
  have hlocks := B.notSynchronized
  have hl := lv_entry ([.int r, .int q]) (n := 2) (Nat.le_of_ble_eq_true rfl)
  rw [lg_entry_eq]
  generalize (lg_sl ([.int r, .int q]) ++ List.replicate (2 - (lg_sl ([.int r, .int q])).length) Slot.unset).toArray = ls at hl ⊢
  have hl : lv_has ls 2 [(0, .int r), (1, .int q)] := hl
  refine td_joini 25 ls [] (fun x => (td_on8 r q = true ∧ x = 1) ∨ (¬ td_on8 r q = true ∧ x = 0)) (fun x ex => ?_) (fun J => ?_)
  · rcases id ex with ⟨_, e1⟩ | ⟨_, e1⟩
    · subst e1
      exact W.zret (v := _) hx hb hr (by first | rfl | decide | assumption) (fun t ht hW => ⟨_, rfl, ex, ht⟩) (fun _ h => nomatch h) d_X1_isOn_25
    · subst e1
      exact W.zret (v := _) hx hb hr (by first | rfl | decide | assumption) (fun t ht hW => ⟨_, rfl, ex, ht⟩) (fun _ h => nomatch h) d_X1_isOn_25
  · have hio := td_on8_iff r q
    refine lv_iload_n hx hb d_X1_isOn_0 rfl (lv_at hl 0 rfl) ?_
    refine lv_if_lt (tgt := 24) hx hb d_X1_isOn_1 (by decide) (fun h0 => ?_) (fun h0 => ?_)
    · refine lv_iconst (v := 0) hx hb d_X1_isOn_24 (by decide) ?_
      exact J _ (Or.inr ⟨fun z => (hio.mp z).1 h0, rfl⟩)
    · refine lv_iload_n hx hb d_X1_isOn_4 rfl (lv_at hl 0 rfl) ?_
      refine lv_bipush (v := 8) hx hb d_X1_isOn_5 (by decide) ?_
      refine lv_icmp_ge (tgt := 24) hx hb d_X1_isOn_7 (by decide) (fun h1 => ?_) (fun h1 => ?_)
      · refine lv_iconst (v := 0) hx hb d_X1_isOn_24 (by decide) ?_
        exact J _ (Or.inr ⟨fun z => absurd (hio.mp z).2.1 (Int32.not_lt.mpr h1), rfl⟩)
      · refine lv_iload_n hx hb d_X1_isOn_10 rfl (lv_at hl 1 rfl) ?_
        refine lv_if_lt (tgt := 24) hx hb d_X1_isOn_11 (by decide) (fun h2 => ?_) (fun h2 => ?_)
        · refine lv_iconst (v := 0) hx hb d_X1_isOn_24 (by decide) ?_
          exact J _ (Or.inr ⟨fun z => (hio.mp z).2.2.1 h2, rfl⟩)
        · refine lv_iload_n hx hb d_X1_isOn_14 rfl (lv_at hl 1 rfl) ?_
          refine lv_bipush (v := 8) hx hb d_X1_isOn_15 (by decide) ?_
          refine lv_icmp_ge (tgt := 24) hx hb d_X1_isOn_17 (by decide) (fun h3 => ?_) (fun h3 => ?_)
          · refine lv_iconst (v := 0) hx hb d_X1_isOn_24 (by decide) ?_
            exact J _ (Or.inr ⟨fun z => absurd (hio.mp z).2.2.2 (Int32.not_lt.mpr h3), rfl⟩)
          · refine lv_iconst (v := 1) hx hb d_X1_isOn_20 (by decide) ?_
            refine lv_goto (tgt := 25) hx hb d_X1_isOn_21 (by decide) ?_
            exact J _ (Or.inl ⟨hio.mpr ⟨h0, Int32.not_le.mp h1, h2, Int32.not_le.mp h3⟩, rfl⟩)
set_option maxHeartbeats 4000000 in
set_option maxRecDepth 100000 in
theorem m_X1_rowWay (l : Launch) (w : Int32) : Met l y_X1_rowWay (k_X1_rowWay :: tw) ({ frames := 0, cells := 0, slots := 0, locals := 0 }) (va_Pc [.int w] (fun _ => True)) (vp_Si (fun x => x = td_rw w)) 0 0 (fun _ => False) := by
  refine Met.ofW (cc := c_X1_rowWay) (maxL := 1) (ret := (some .int)) (by decide) rfl ?_
  intro p e s m args below meth c s₁ B hml hv
  obtain ⟨rfl, hv⟩ := hv
  have hx := B.exec
  have hb := B.bytes
  have hr := B.returns
  have hts : ∀ w ∈ tw, w.before _ s = true := fun w h => atoms_spec (ws := k_X1_rowWay :: tw) B.pre w (List.mem_cons_of_mem _ h)
  have hown : s.vm.findClass RX1 = some m.cls := findClass_of_methodNamed B.named
  have hlocks := B.notSynchronized
  have hl := lv_entry ([.int w]) (n := 1) (Nat.le_of_ble_eq_true rfl)
  rw [lg_entry_eq]
  generalize (lg_sl ([.int w]) ++ List.replicate (1 - (lg_sl ([.int w])).length) Slot.unset).toArray = ls at hl ⊢
  have hl : lv_has ls 1 [(0, .int w)] := hl
  refine td_joini 19 ls [] (fun x => x = td_rw w) (fun x ex => ?_) (fun J => ?_)
  · exact W.iret (v := x) hx hb hr (fun t ht hW => ⟨_, rfl, ex, ht⟩) (fun _ h => nomatch h) d_X1_rowWay_19
  · refine lv_iload_n hx hb d_X1_rowWay_0 rfl (lv_at hl 0 rfl) ?_
    refine lv_iconst (v := 3) hx hb d_X1_rowWay_1 (by decide) ?_
    refine lv_icmp_ge (tgt := 9) hx hb d_X1_rowWay_2 (by decide) (fun h0 => ?_) (fun h0 => ?_)
    · refine lv_iload_n hx hb d_X1_rowWay_9 rfl (lv_at hl 0 rfl) ?_
      refine lv_iconst (v := 5) hx hb d_X1_rowWay_10 (by decide) ?_
      refine lv_icmp_ge (tgt := 18) hx hb d_X1_rowWay_11 (by decide) (fun h1 => ?_) (fun h1 => ?_)
      · refine lv_iconst (v := 1) hx hb d_X1_rowWay_18 (by decide) ?_
        exact J _ (by unfold td_rw; rw [if_neg (Int32.not_lt.mpr h0), if_neg (Int32.not_lt.mpr h1)])
      · refine lv_iconst (v := 0) hx hb d_X1_rowWay_14 (by decide) ?_
        refine lv_goto (tgt := 19) hx hb d_X1_rowWay_15 (by decide) ?_
        exact J _ (by unfold td_rw; rw [if_neg (Int32.not_lt.mpr h0), if_pos (Int32.not_le.mp h1)])
    · refine lv_iconst (v := (-1)) hx hb d_X1_rowWay_5 (by decide) ?_
      refine lv_goto (tgt := 19) hx hb d_X1_rowWay_6 (by decide) ?_
      exact J _ (by unfold td_rw; rw [if_pos (Int32.not_le.mp h0)])
set_option maxHeartbeats 4000000 in
set_option maxRecDepth 100000 in
theorem m_X1_columnWay (l : Launch) (w : Int32) : Met l y_X1_columnWay (k_X1_columnWay :: tw) ({ frames := 0, cells := 0, slots := 0, locals := 0 }) (va_Pc [.int w] (fun _ => True)) (vp_Si (fun x => x = td_cw w)) 0 0 (fun _ => False) := by
  refine Met.ofW (cc := c_X1_columnWay) (maxL := 1) (ret := (some .int)) (by decide) rfl ?_
  intro p e s m args below meth c s₁ B hml hv
  obtain ⟨rfl, hv⟩ := hv
  have hx := B.exec
  have hb := B.bytes
  have hr := B.returns
  have hts : ∀ w ∈ tw, w.before _ s = true := fun w h => atoms_spec (ws := k_X1_columnWay :: tw) B.pre w (List.mem_cons_of_mem _ h)
  have hown : s.vm.findClass RX1 = some m.cls := findClass_of_methodNamed B.named
  have hlocks := B.notSynchronized
  have hl := lv_entry ([.int w]) (n := 1) (Nat.le_of_ble_eq_true rfl)
  rw [lg_entry_eq]
  generalize (lg_sl ([.int w]) ++ List.replicate (1 - (lg_sl ([.int w])).length) Slot.unset).toArray = ls at hl ⊢
  have hl : lv_has ls 1 [(0, .int w)] := hl
  refine td_joini 34 ls [] (fun x => x = td_cw w) (fun x ex => ?_) (fun J => ?_)
  · exact W.iret (v := x) hx hb hr (fun t ht hW => ⟨_, rfl, ex, ht⟩) (fun _ h => nomatch h) d_X1_columnWay_34
  · refine td_joinu 14 ls [] (w = 0 ∨ w = 3 ∨ w = 5) (fun hy => ?_) (fun J1 => ?_)
    · refine lv_iconst (v := (-1)) hx hb d_X1_columnWay_14 (by decide) ?_
      refine lv_goto (tgt := 34) hx hb d_X1_columnWay_15 (by decide) ?_
      exact J _ (by unfold td_cw; rw [if_pos hy])
    · refine lv_iload_n hx hb d_X1_columnWay_0 rfl (lv_at hl 0 rfl) ?_
      refine lv_if_eq (tgt := 14) hx hb d_X1_columnWay_1 (by decide) (fun h0 => ?_) (fun h0 => ?_)
      · exact J1 (Or.inl h0)
      · refine lv_iload_n hx hb d_X1_columnWay_4 rfl (lv_at hl 0 rfl) ?_
        refine lv_iconst (v := 3) hx hb d_X1_columnWay_5 (by decide) ?_
        refine lv_icmp_eq (tgt := 14) hx hb d_X1_columnWay_6 (by decide) (fun h1 => ?_) (fun h1 => ?_)
        · exact J1 (Or.inr (Or.inl h1))
        · refine lv_iload_n hx hb d_X1_columnWay_9 rfl (lv_at hl 0 rfl) ?_
          refine lv_iconst (v := 5) hx hb d_X1_columnWay_10 (by decide) ?_
          refine lv_icmp_ne (tgt := 18) hx hb d_X1_columnWay_11 (by decide) (fun h2 => ?_) (fun h2 => ?_)
          · have hn : ¬ (w = 0 ∨ w = 3 ∨ w = 5) := fun z => z.elim h0 (fun z => z.elim h1 h2)
            refine td_joinu 29 ls [] (w = 1 ∨ w = 6) (fun hy => ?_) (fun J2 => ?_)
            · refine lv_iconst (v := 0) hx hb d_X1_columnWay_29 (by decide) ?_
              refine lv_goto (tgt := 34) hx hb d_X1_columnWay_30 (by decide) ?_
              exact J _ (by unfold td_cw; rw [if_neg hn, if_pos hy])
            · refine lv_iload_n hx hb d_X1_columnWay_18 rfl (lv_at hl 0 rfl) ?_
              refine lv_iconst (v := 1) hx hb d_X1_columnWay_19 (by decide) ?_
              refine lv_icmp_eq (tgt := 29) hx hb d_X1_columnWay_20 (by decide) (fun h3 => ?_) (fun h3 => ?_)
              · exact J2 (Or.inl h3)
              · refine lv_iload_n hx hb d_X1_columnWay_23 rfl (lv_at hl 0 rfl) ?_
                refine lv_bipush (v := 6) hx hb d_X1_columnWay_24 (by decide) ?_
                refine lv_icmp_ne (tgt := 33) hx hb d_X1_columnWay_26 (by decide) (fun h4 => ?_) (fun h4 => ?_)
                · refine lv_iconst (v := 1) hx hb d_X1_columnWay_33 (by decide) ?_
                  exact J _ (by unfold td_cw; rw [if_neg hn, if_neg (fun z => z.elim h3 h4)])
                · exact J2 (Or.inr h4)
          · exact J1 (Or.inr (Or.inr h2))
set_option maxHeartbeats 4000000 in
set_option maxRecDepth 100000 in
theorem m_X1_cellOf (l : Launch) (D : va_G) (o ac : Nat) (cI : ClassId) (fs : List Value) (hfs : fs[1]? = some (.ref ac)) (ce : Nat → Int32) (L : Nat) (hL : L ≤ 18) (r q : Int32) (a b : Nat) (ha : a < 8) (hb8 : b < 8) (hra : r = nI a) (hcb : q = nI b) : Met l y_X1_cellOf (k_X1_cellOf :: tw) ({ frames := 0, cells := 0, slots := 0, locals := 0 }) (va_Pc [.ref o, .int (nI L), .int r, .int q] (fun U => va_P D tdC [(o, .inr (1, fs)), (ac, .inl (cI, 1216, .inl ce))] U.heap ∧ va_K D tdC [(cI, .int)] U)) (vp_Si (fun x => x = ce (64 * L + (8 * a + b)))) 0 0 (fun _ => False) := by
  refine Met.ofW (cc := c_X1_cellOf) (maxL := 4) (ret := (some .int)) (by decide) rfl ?_
  intro p e s m args below meth c s₁ B hml hv
  obtain ⟨rfl, hP, hK⟩ := hv
  have hx := B.exec
  have hb := B.bytes
  have hr := B.returns
  have hts : ∀ w ∈ tw, w.before _ s = true := fun w h => atoms_spec (ws := k_X1_cellOf :: tw) B.pre w (List.mem_cons_of_mem _ h)
  have hown : s.vm.findClass RX1 = some m.cls := findClass_of_methodNamed B.named
  have hlocks := B.notSynchronized
  have hl := lv_entry ([.ref o, .int (nI L), .int r, .int q]) (n := 4) (Nat.le_of_ble_eq_true rfl)
  rw [lg_entry_eq]
  generalize (lg_sl ([.ref o, .int (nI L), .int r, .int q]) ++ List.replicate (4 - (lg_sl ([.ref o, .int (nI L), .int r, .int q])).length) Slot.unset).toArray = ls at hl ⊢
  have hl : lv_has ls 4 [(0, .ref o), (1, .int (nI L)), (2, .int r), (3, .int q)] := hl
  refine lv_aload_n hx hb d_X1_cellOf_0 rfl (lv_at hl 0 rfl) ?_
  refine va_get (D := D) (ci := 1) (v := .ref ac) (C := RX1) (T := TX1) (N := 14) hx hb hts usX1 hown hK hP 0 rfl rfl 1 (by decide) (hts _ fl_X1_7) (fun _ h9 => h9) hfs d_X1_cellOf_1 ?_
  refine lv_bipush (v := 64) hx hb d_X1_cellOf_4 (by decide) ?_
  refine lv_iload_n hx hb d_X1_cellOf_6 rfl (lv_at hl 1 rfl) ?_
  refine lv_imul hx hb d_X1_cellOf_7 ?_
  refine lv_bipush (v := 8) hx hb d_X1_cellOf_8 (by decide) ?_
  refine lv_iload_n hx hb d_X1_cellOf_10 rfl (lv_at hl 2 rfl) ?_
  refine lv_imul hx hb d_X1_cellOf_11 ?_
  refine lv_iadd hx hb d_X1_cellOf_12 ?_
  refine lv_iload_n hx hb d_X1_cellOf_13 rfl (lv_at hl 3 rfl) ?_
  refine lv_iadd hx hb d_X1_cellOf_14 ?_
  refine td_i (y := (nI (64 * L + (8 * a + b)))) (by rw [hra, hcb]; show nI 64 * nI L + nI 8 * nI a + nI b = _; rw [pk_mul, pk_mul, nI_add, nI_add, Nat.add_assoc]) ?_
  refine va_iald hx hb hK hP 1 0 rfl rfl (vp_in_nI (show 64 * L + (8 * a + b) < 1216 by omega) (by decide)) d_X1_cellOf_15 ?_
  refine td_i (y := (ce (64 * L + (8 * a + b)))) (by rw [nI_clamp (by omega)]) ?_
  exact W.iret (v := (ce (64 * L + (8 * a + b)))) hx hb hr (fun t ht hW => ⟨_, rfl, rfl, ht⟩) (fun _ h => nomatch h) d_X1_cellOf_16
set_option maxHeartbeats 4000000 in
set_option maxRecDepth 100000 in
theorem m_X1_along (l : Launch) (D : va_G) (o ac : Nat) (cI : ClassId) (fs : List Value) (hfs : fs[1]? = some (.ref ac)) (ce : Nat → Int32) (L : Nat) (hL : L ≤ 18) (s0 : Nat) (hs0 : s0 < 64) (w0 : Nat) (hw0 : w0 < 8) (who : Int32) : Met l y_X1_along (k_X1_along :: tw) ({ frames := 1, cells := 0, slots := 0, locals := 23 }) (va_Pc [.ref o, .int (nI L), .int (nI s0), .int (nI w0), .int who] (fun U => va_P D tdC [(o, .inr (1, fs)), (ac, .inl (cI, 1216, .inl ce))] U.heap ∧ va_K D tdC [(cI, .int)] U)) (vp_Si (fun x => x = nI (td_al (td_lv ce L) who w0 s0))) 0 0 (fun _ => False) := by
  refine Met.ofW (cc := c_X1_along) (maxL := 8) (ret := (some .int)) (by decide) rfl ?_
  intro p e s m args below meth c s₁ B hml hv
  obtain ⟨rfl, hP, hK⟩ := hv
  have hx := B.exec
  have hb := B.bytes
  have hr := B.returns
  have hts : ∀ w ∈ tw, w.before _ s = true := fun w h => atoms_spec (ws := k_X1_along :: tw) B.pre w (List.mem_cons_of_mem _ h)
  have hown : s.vm.findClass RX1 = some m.cls := findClass_of_methodNamed B.named
  have hlocks := B.notSynchronized
  have hl := lv_entry ([.ref o, .int (nI L), .int (nI s0), .int (nI w0), .int who]) (n := 8) (Nat.le_of_ble_eq_true rfl)
  rw [lg_entry_eq]
  generalize (lg_sl ([.ref o, .int (nI L), .int (nI s0), .int (nI w0), .int who]) ++ List.replicate (8 - (lg_sl ([.ref o, .int (nI L), .int (nI s0), .int (nI w0), .int who])).length) Slot.unset).toArray = ls at hl ⊢
  have hl : lv_has ls 8 [(0, .ref o), (1, .int (nI L)), (2, .int (nI s0)), (3, .int (nI w0)), (4, .int who)] := hl
  refine lv_iload_n hx hb d_X1_along_0 rfl (lv_at hl 2 rfl) ?_
  refine lv_bipush (v := 8) hx hb d_X1_along_1 (by decide) ?_
  refine lv_idiv hx hb d_X1_along_3 (by decide) ?_
  refine lv_iload_n hx hb d_X1_along_4 rfl (lv_at hl 3 rfl) ?_
  refine vp_callSi (W.runS (As := [.int (nI w0)]) (rest := [.int ((nI s0) / 8)]) ⟨hx, hb, hml, hown, hts⟩ (m_X1_rowWay l (nI w0)) (va_cwS 1 hts (tw_S ml_X1_52 st_X1_rowWay in_X1 kw_X1_rowWay) rfl rfl rfl (by decide +kernel) ⟨Nat.le_of_ble_eq_true rfl, Nat.le_of_ble_eq_true rfl⟩) ⟨fun _ _ _ _ q => q, fun U hU hW => ⟨rfl, trivial⟩⟩ rfl rfl hl.1 rfl (lv_room (Nat.le_of_ble_eq_true rfl)) d_X1_along_5 ⟨Nat.zero_le _, Nat.zero_le _⟩) (fun r hq => ?_)
  subst hq
  refine lv_iadd hx hb d_X1_along_8 ?_
  refine td_i (y := (td_r w0 s0 1)) (rfl) ?_
  refine lv_istore hx hb d_X1_along_9 hl (by decide) rfl (fun ls hl => ?_)
  have hl : lv_has ls 8 [(5, .int (td_r w0 s0 1)), (0, .ref o), (1, .int (nI L)), (2, .int (nI s0)), (3, .int (nI w0)), (4, .int who)] := hl
  refine lv_iload_n hx hb d_X1_along_11 rfl (lv_at hl 3 rfl) ?_
  refine lv_bipush (v := 8) hx hb d_X1_along_12 (by decide) ?_
  refine lv_irem hx hb d_X1_along_14 (by decide) ?_
  refine lv_iload_n hx hb d_X1_along_15 rfl (lv_at hl 4 rfl) ?_
  refine vp_callSi (W.runS (As := [.int (nI w0)]) (rest := [.int ((nI s0) - (nI s0) / 8 * 8)]) ⟨hx, hb, hml, hown, hts⟩ (m_X1_columnWay l (nI w0)) (va_cwS 1 hts (tw_S ml_X1_56 st_X1_columnWay in_X1 kw_X1_columnWay) rfl rfl rfl (by decide +kernel) ⟨Nat.le_of_ble_eq_true rfl, Nat.le_of_ble_eq_true rfl⟩) ⟨fun _ _ _ _ q => q, fun U hU hW => ⟨rfl, trivial⟩⟩ rfl rfl hl.1 rfl (lv_room (Nat.le_of_ble_eq_true rfl)) d_X1_along_16 ⟨Nat.zero_le _, Nat.zero_le _⟩) (fun r hq => ?_)
  subst hq
  refine lv_iadd hx hb d_X1_along_19 ?_
  refine td_i (y := (td_c w0 s0 1)) (rfl) ?_
  refine lv_istore hx hb d_X1_along_20 hl (by decide) rfl (fun ls hl => ?_)
  have hl : lv_has ls 8 [(6, .int (td_c w0 s0 1)), (5, .int (td_r w0 s0 1)), (0, .ref o), (1, .int (nI L)), (2, .int (nI s0)), (3, .int (nI w0)), (4, .int who)] := hl
  refine lv_iconst (v := 0) hx hb d_X1_along_22 (by decide) ?_
  refine lv_istore hx hb d_X1_along_23 hl (by decide) rfl (fun ls hl => ?_)
  have hl : lv_has ls 8 [(7, .int 0), (6, .int (td_c w0 s0 1)), (5, .int (td_r w0 s0 1)), (0, .ref o), (1, .int (nI L)), (2, .int (nI s0)), (3, .int (nI w0)), (4, .int who)] := hl
  generalize hN : td_cnt (td_lv ce L) (2 - who) w0 s0 8 0 = N
  have hal : td_al (td_lv ce L) who w0 s0 = if td_ps w0 s0 (N + 1) < 64 ∧ (td_lv ce L) (td_ps w0 s0 (N + 1)) = who + 1 then N else 0 := by unfold td_al; rw [hN]
  have hl0 := lv_sub hl [3, 4, 6, 7, 2, 1, 0] rfl
  refine td_loop 25 [] (fun j : Nat => 8 - j) (fun j ls => (j ≤ 7 ∧ td_cnt (td_lv ce L) (2 - who) w0 s0 (8 - j) j = N) ∧ lv_has ls 8 [(0, .ref o), (1, .int (nI L)), (3, .int (nI w0)), (4, .int who), (5, .int (td_r w0 s0 (j + 1))), (6, .int (td_c w0 s0 (j + 1))), (7, .int (nI j))]) (fun j ls hC ih => ?_) 0 ⟨⟨Nat.zero_le _, hN⟩, hl0⟩
  clear hl hl0
  obtain ⟨hi, hl⟩ := hC
  have hl : lv_has ls 8 [(0, .ref o), (1, .int (nI L)), (3, .int (nI w0)), (4, .int who), (5, .int (td_r w0 s0 (j + 1))), (6, .int (td_c w0 s0 (j + 1))), (7, .int (nI j))] := hl
  obtain ⟨hj, hcn⟩ := hi
  have hst : 8 - j = (8 - (j + 1)) + 1 := by omega
  rw [hst] at hcn
  unfold td_cnt at hcn
  have hgeo := td_ps_on (w := w0) (s := s0) (j := j + 1) hw0 hs0 (by omega)
  refine td_joinu 75 ls [] (j = N) (fun hend => ?_) (fun J => ?_)
  · subst hend
    refine lv_iload hx hb d_X1_along_75 (lv_at hl 4 rfl) ?_
    refine lv_iload hx hb d_X1_along_77 (lv_at hl 5 rfl) ?_
    refine vp_callSi (W.runS (As := [.int (td_r w0 s0 (j + 1)), .int (td_c w0 s0 (j + 1))]) (rest := []) ⟨hx, hb, hml, hown, hts⟩ (m_X1_isOn l (td_r w0 s0 (j + 1)) (td_c w0 s0 (j + 1))) (va_cwS 2 hts (tw_S ml_X1_59 st_X1_isOn in_X1 kw_X1_isOn) rfl rfl rfl (by decide +kernel) ⟨Nat.le_of_ble_eq_true rfl, Nat.le_of_ble_eq_true rfl⟩) ⟨fun _ _ _ _ q => q, fun U hU hW => ⟨rfl, trivial⟩⟩ rfl rfl hl.1 rfl (lv_room (Nat.le_of_ble_eq_true rfl)) d_X1_along_79 ⟨Nat.zero_le _, Nat.zero_le _⟩) (fun r hq => ?_)
    refine td_joini 107 ls [] (fun x => x = nI (td_al (td_lv ce L) who w0 s0)) (fun x ex => ?_) (fun J2 => ?_)
    · exact W.iret (v := x) hx hb hr (fun t ht hW => ⟨_, rfl, ex, ht⟩) (fun _ h => nomatch h) d_X1_along_107
    · refine lv_if_eq (tgt := 106) hx hb d_X1_along_82 (by decide) (fun h1 => ?_) (fun h1 => ?_)
      · have hno : ¬ td_ps w0 s0 (j + 1) < 64 := fun z => hq.elim (fun y => absurd (y.2.symm.trans h1) (by decide)) (fun y => y.1 (hgeo.mpr z))
        refine lv_iconst (v := 0) hx hb d_X1_along_106 (by decide) ?_
        exact J2 _ (by rw [hal, if_neg (fun z => hno z.1)]; rfl)
      · have hon := hq.elim (fun y => y.1) (fun y => absurd y.2 h1)
        obtain ⟨g1, g2, g3, g4⟩ := td_geo hw0 hs0 (by omega) hon
        refine lv_aload_n hx hb d_X1_along_85 rfl (lv_at hl 0 rfl) ?_
        refine lv_iload_n hx hb d_X1_along_86 rfl (lv_at hl 1 rfl) ?_
        refine lv_iload hx hb d_X1_along_87 (lv_at hl 4 rfl) ?_
        refine lv_iload hx hb d_X1_along_89 (lv_at hl 5 rfl) ?_
        refine vp_callSi (W.runV (b := o) (C := RX1) (As := [.int (nI L), .int (td_r w0 s0 (j + 1)), .int (td_c w0 s0 (j + 1))]) (rest := []) ⟨hx, hb, hml, hown, hts⟩ (m_X1_cellOf l D o ac cI fs hfs ce L hL _ _ (td_ps w0 s0 (j + 1) / 8) (td_ps w0 s0 (j + 1) % 8) (by omega) (by omega) g2 g3) (cwV 3 hts (tw_V ml_X1_63 im_X1_cellOf se_X1_cellOf in_X1 kw_X1_cellOf) rfl rfl rfl (by decide +kernel) ⟨Nat.le_of_ble_eq_true rfl, Nat.le_of_ble_eq_true rfl⟩) ⟨fun a U g mk q => ⟨q.1, q.2.1, va_K.moved (u := U) (U := U.calling g mk a) (Vm.Alike.refl U.vm) q.2.2⟩, va_recv (q0 := 0) (ci := 1) hK hP rfl rfl, fun U hU hW => ⟨rfl, by rw [hU]; exact hP, va_K.moved hW.alike hK⟩⟩ rfl rfl hl.1 rfl (lv_room (Nat.le_of_ble_eq_true rfl)) d_X1_along_91 ⟨Nat.zero_le _, Nat.zero_le _⟩) (fun r h9 => ?_)
        subst h9
        refine td_i (y := (td_lv ce L (td_ps w0 s0 (j + 1)))) (by rw [Nat.div_add_mod]; rfl) ?_
        refine lv_iload hx hb d_X1_along_94 (lv_at hl 3 rfl) ?_
        refine lv_iconst (v := 1) hx hb d_X1_along_96 (by decide) ?_
        refine lv_iadd hx hb d_X1_along_97 ?_
        refine lv_icmp_ne (tgt := 106) hx hb d_X1_along_98 (by decide) (fun h2 => ?_) (fun h2 => ?_)
        · refine lv_iconst (v := 0) hx hb d_X1_along_106 (by decide) ?_
          exact J2 _ (by rw [hal, if_neg (fun z => h2 z.2)]; rfl)
        · refine lv_iload hx hb d_X1_along_101 (lv_at hl 6 rfl) ?_
          refine lv_goto (tgt := 107) hx hb d_X1_along_103 (by decide) ?_
          exact J2 _ (by rw [hal, if_pos ⟨g1, h2⟩])
  · refine lv_iload hx hb d_X1_along_25 (lv_at hl 4 rfl) ?_
    refine lv_iload hx hb d_X1_along_27 (lv_at hl 5 rfl) ?_
    refine vp_callSi (W.runS (As := [.int (td_r w0 s0 (j + 1)), .int (td_c w0 s0 (j + 1))]) (rest := []) ⟨hx, hb, hml, hown, hts⟩ (m_X1_isOn l (td_r w0 s0 (j + 1)) (td_c w0 s0 (j + 1))) (va_cwS 2 hts (tw_S ml_X1_59 st_X1_isOn in_X1 kw_X1_isOn) rfl rfl rfl (by decide +kernel) ⟨Nat.le_of_ble_eq_true rfl, Nat.le_of_ble_eq_true rfl⟩) ⟨fun _ _ _ _ q => q, fun U hU hW => ⟨rfl, trivial⟩⟩ rfl rfl hl.1 rfl (lv_room (Nat.le_of_ble_eq_true rfl)) d_X1_along_29 ⟨Nat.zero_le _, Nat.zero_le _⟩) (fun r hq => ?_)
    refine lv_if_eq (tgt := 75) hx hb d_X1_along_32 (by decide) (fun h1 => ?_) (fun h1 => ?_)
    · have hno : ¬ td_ps w0 s0 (j + 1) < 64 := fun z => hq.elim (fun y => absurd (y.2.symm.trans h1) (by decide)) (fun y => y.1 (hgeo.mpr z))
      rw [if_neg (fun z => hno z.1)] at hcn
      exact J hcn
    · have hon := hq.elim (fun y => y.1) (fun y => absurd y.2 h1)
      obtain ⟨g1, g2, g3, g4⟩ := td_geo hw0 hs0 (by omega) hon
      refine lv_aload_n hx hb d_X1_along_35 rfl (lv_at hl 0 rfl) ?_
      refine lv_iload_n hx hb d_X1_along_36 rfl (lv_at hl 1 rfl) ?_
      refine lv_iload hx hb d_X1_along_37 (lv_at hl 4 rfl) ?_
      refine lv_iload hx hb d_X1_along_39 (lv_at hl 5 rfl) ?_
      refine vp_callSi (W.runV (b := o) (C := RX1) (As := [.int (nI L), .int (td_r w0 s0 (j + 1)), .int (td_c w0 s0 (j + 1))]) (rest := []) ⟨hx, hb, hml, hown, hts⟩ (m_X1_cellOf l D o ac cI fs hfs ce L hL _ _ (td_ps w0 s0 (j + 1) / 8) (td_ps w0 s0 (j + 1) % 8) (by omega) (by omega) g2 g3) (cwV 3 hts (tw_V ml_X1_63 im_X1_cellOf se_X1_cellOf in_X1 kw_X1_cellOf) rfl rfl rfl (by decide +kernel) ⟨Nat.le_of_ble_eq_true rfl, Nat.le_of_ble_eq_true rfl⟩) ⟨fun a U g mk q => ⟨q.1, q.2.1, va_K.moved (u := U) (U := U.calling g mk a) (Vm.Alike.refl U.vm) q.2.2⟩, va_recv (q0 := 0) (ci := 1) hK hP rfl rfl, fun U hU hW => ⟨rfl, by rw [hU]; exact hP, va_K.moved hW.alike hK⟩⟩ rfl rfl hl.1 rfl (lv_room (Nat.le_of_ble_eq_true rfl)) d_X1_along_41 ⟨Nat.zero_le _, Nat.zero_le _⟩) (fun r h9 => ?_)
      subst h9
      refine td_i (y := (td_lv ce L (td_ps w0 s0 (j + 1)))) (by rw [Nat.div_add_mod]; rfl) ?_
      refine lv_iconst (v := 2) hx hb d_X1_along_44 (by decide) ?_
      refine lv_iload hx hb d_X1_along_45 (lv_at hl 3 rfl) ?_
      refine lv_isub hx hb d_X1_along_47 ?_
      refine lv_icmp_ne (tgt := 75) hx hb d_X1_along_48 (by decide) (fun h2 => ?_) (fun h2 => ?_)
      · rw [if_neg (fun z => h2 z.2)] at hcn
        exact J hcn
      · rw [if_pos ⟨g1, h2⟩] at hcn
        have hj7 : j + 1 ≤ 7 := by
          by_cases hj8 : j = 7
          · rw [hj8, td_ps8 hw0 hs0] at g1; omega
          · omega
        refine lv_iinc (k := 6) (v := (nI (j + 1))) hx hb d_X1_along_51 hl rfl ((nI_succ j).symm) (by decide) rfl (fun ls hl => ?_)
        have hl : lv_has ls 8 [(7, .int (nI (j + 1))), (0, .ref o), (1, .int (nI L)), (3, .int (nI w0)), (4, .int who), (5, .int (td_r w0 s0 (j + 1))), (6, .int (td_c w0 s0 (j + 1)))] := hl
        refine lv_iload hx hb d_X1_along_54 (lv_at hl 5 rfl) ?_
        refine lv_iload_n hx hb d_X1_along_56 rfl (lv_at hl 3 rfl) ?_
        refine vp_callSi (W.runS (As := [.int (nI w0)]) (rest := [.int (td_r w0 s0 (j + 1))]) ⟨hx, hb, hml, hown, hts⟩ (m_X1_rowWay l (nI w0)) (va_cwS 1 hts (tw_S ml_X1_52 st_X1_rowWay in_X1 kw_X1_rowWay) rfl rfl rfl (by decide +kernel) ⟨Nat.le_of_ble_eq_true rfl, Nat.le_of_ble_eq_true rfl⟩) ⟨fun _ _ _ _ q => q, fun U hU hW => ⟨rfl, trivial⟩⟩ rfl rfl hl.1 rfl (lv_room (Nat.le_of_ble_eq_true rfl)) d_X1_along_57 ⟨Nat.zero_le _, Nat.zero_le _⟩) (fun r h9 => ?_)
        subst h9
        refine lv_iadd hx hb d_X1_along_60 ?_
        refine td_i (y := (td_r w0 s0 (j + 1 + 1))) (rfl) ?_
        refine lv_istore hx hb d_X1_along_61 hl (by decide) rfl (fun ls hl => ?_)
        have hl : lv_has ls 8 [(5, .int (td_r w0 s0 (j + 1 + 1))), (7, .int (nI (j + 1))), (0, .ref o), (1, .int (nI L)), (3, .int (nI w0)), (4, .int who), (6, .int (td_c w0 s0 (j + 1)))] := hl
        refine lv_iload hx hb d_X1_along_63 (lv_at hl 6 rfl) ?_
        refine lv_iload_n hx hb d_X1_along_65 rfl (lv_at hl 4 rfl) ?_
        refine vp_callSi (W.runS (As := [.int (nI w0)]) (rest := [.int (td_c w0 s0 (j + 1))]) ⟨hx, hb, hml, hown, hts⟩ (m_X1_columnWay l (nI w0)) (va_cwS 1 hts (tw_S ml_X1_56 st_X1_columnWay in_X1 kw_X1_columnWay) rfl rfl rfl (by decide +kernel) ⟨Nat.le_of_ble_eq_true rfl, Nat.le_of_ble_eq_true rfl⟩) ⟨fun _ _ _ _ q => q, fun U hU hW => ⟨rfl, trivial⟩⟩ rfl rfl hl.1 rfl (lv_room (Nat.le_of_ble_eq_true rfl)) d_X1_along_66 ⟨Nat.zero_le _, Nat.zero_le _⟩) (fun r h9 => ?_)
        subst h9
        refine lv_iadd hx hb d_X1_along_69 ?_
        refine td_i (y := (td_c w0 s0 (j + 1 + 1))) (rfl) ?_
        refine lv_istore hx hb d_X1_along_70 hl (by decide) rfl (fun ls hl => ?_)
        have hl : lv_has ls 8 [(6, .int (td_c w0 s0 (j + 1 + 1))), (5, .int (td_r w0 s0 (j + 1 + 1))), (7, .int (nI (j + 1))), (0, .ref o), (1, .int (nI L)), (3, .int (nI w0)), (4, .int who)] := hl
        refine lv_goto (tgt := 25) hx hb d_X1_along_72 (by decide) ?_
        have hl1 := lv_sub hl [3, 4, 5, 6, 1, 0, 2] rfl
        exact ih (j + 1) _ (by omega) ⟨⟨hj7, hcn⟩, hl1⟩
end
section
set_option maxHeartbeats 4000000 in
set_option maxRecDepth 100000 in
theorem m_X1_flipsAt (l : Launch) (D : va_G) (o ac : Nat) (cI : ClassId) (fs : List Value) (hfs : fs[1]? = some (.ref ac)) (ce : Nat → Int32) (L : Nat) (hL : L ≤ 18) (s0 : Nat) (hs0 : s0 < 64) (who : Int32) : Met l y_X1_flipsAt (k_X1_flipsAt :: tw) ({ frames := 2, cells := 0, slots := 0, locals := 50 }) (va_Pc [.ref o, .int (nI L), .int (nI s0), .int who] (fun U => va_P D tdC [(o, .inr (1, fs)), (ac, .inl (cI, 1216, .inl ce))] U.heap ∧ va_K D tdC [(cI, .int)] U)) (vp_Sl (fun x => x = td_fl (td_lv ce L) who s0)) 0 0 (fun _ => False) := by
  refine Met.ofW (cc := c_X1_flipsAt) (maxL := 10) (ret := (some .long)) (by decide) rfl ?_
  intro p e s m args below meth c s₁ B hml hv
  obtain ⟨rfl, hP, hK⟩ := hv
  have hx := B.exec
  have hb := B.bytes
  have hr := B.returns
  have hts : ∀ w ∈ tw, w.before _ s = true := fun w h => atoms_spec (ws := k_X1_flipsAt :: tw) B.pre w (List.mem_cons_of_mem _ h)
  have hown : s.vm.findClass RX1 = some m.cls := findClass_of_methodNamed B.named
  have hlocks := B.notSynchronized
  have hl := lv_entry ([.ref o, .int (nI L), .int (nI s0), .int who]) (n := 10) (Nat.le_of_ble_eq_true rfl)
  rw [lg_entry_eq]
  generalize (lg_sl ([.ref o, .int (nI L), .int (nI s0), .int who]) ++ List.replicate (10 - (lg_sl ([.ref o, .int (nI L), .int (nI s0), .int who])).length) Slot.unset).toArray = ls at hl ⊢
  have hl : lv_has ls 10 [(0, .ref o), (1, .int (nI L)), (2, .int (nI s0)), (3, .int who)] := hl
  refine lv_lconst (v := 0) hx hb d_X1_flipsAt_0 (by decide) ?_
  refine lv_lstore hx hb d_X1_flipsAt_1 hl (by decide) rfl (fun ls hl => ?_)
  have hl : lv_has ls 10 [(4, .long 0), (0, .ref o), (1, .int (nI L)), (2, .int (nI s0)), (3, .int who)] := hl
  refine lv_iconst (v := 0) hx hb d_X1_flipsAt_3 (by decide) ?_
  refine lv_istore hx hb d_X1_flipsAt_4 hl (by decide) rfl (fun ls hl => ?_)
  have hl : lv_has ls 10 [(6, .int 0), (4, .long 0), (0, .ref o), (1, .int (nI L)), (2, .int (nI s0)), (3, .int who)] := hl
  have hl0 := lv_sub hl [2, 3, 4, 5, 1, 0] rfl
  refine td_loop 6 [] (fun w0 : Nat => 8 - w0) (fun w0 ls => (w0 ≤ 8 ∧ ((td_lv ce L) s0 = 0 ∨ w0 = 0)) ∧ lv_has ls 10 [(0, .ref o), (1, .int (nI L)), (2, .int (nI s0)), (3, .int who), (4, .long (td_fw (td_lv ce L) who s0 w0)), (6, .int (nI w0))]) (fun w0 ls hC ih => ?_) 0 ⟨⟨Nat.zero_le _, Or.inr rfl⟩, hl0⟩
  clear hl hl0
  obtain ⟨hi, hl⟩ := hC
  have hl : lv_has ls 10 [(0, .ref o), (1, .int (nI L)), (2, .int (nI s0)), (3, .int who), (4, .long (td_fw (td_lv ce L) who s0 w0)), (6, .int (nI w0))] := hl
  obtain ⟨hw8, hor⟩ := hi
  refine td_joinu 90 ls [] (td_fw (td_lv ce L) who s0 w0 = td_fl (td_lv ce L) who s0) (fun hend => ?_) (fun J => ?_)
  · refine lv_lload hx hb d_X1_flipsAt_90 (lv_at hl 4 rfl) ?_
    exact W.lret (v := (td_fw (td_lv ce L) who s0 w0)) hx hb hr (fun t ht hW => ⟨_, rfl, hend, ht⟩) (fun _ h => nomatch h) d_X1_flipsAt_92
  · refine lv_iload hx hb d_X1_flipsAt_6 (lv_at hl 5 rfl) ?_
    refine lv_bipush (v := 8) hx hb d_X1_flipsAt_8 (by decide) ?_
    refine lv_icmp_ge (tgt := 90) hx hb d_X1_flipsAt_10 (by decide) (fun h1 => ?_) (fun h1 => ?_)
    · have hw : w0 = 8 := Nat.le_antisymm hw8 ((nI_leI (a := 8) (b := w0) (by decide) (by omega)).mp h1)
      subst hw
      exact J (by unfold td_fl; rw [if_pos (hor.elim (fun z => z) (fun z => absurd z (by decide)))])
    · have hw : w0 < 8 := Nat.lt_of_not_le (fun z => h1 ((nI_leI (a := 8) (b := w0) (by decide) (by omega)).mpr z))
      refine lv_aload_n hx hb d_X1_flipsAt_13 rfl (lv_at hl 0 rfl) ?_
      refine va_get (D := D) (ci := 1) (v := .ref ac) (C := RX1) (T := TX1) (N := 14) hx hb hts usX1 hown hK hP 0 rfl rfl 1 (by decide) (hts _ fl_X1_7) (fun _ h9 => h9) hfs d_X1_flipsAt_14 ?_
      refine lv_bipush (v := 64) hx hb d_X1_flipsAt_17 (by decide) ?_
      refine lv_iload_n hx hb d_X1_flipsAt_19 rfl (lv_at hl 1 rfl) ?_
      refine lv_imul hx hb d_X1_flipsAt_20 ?_
      refine lv_iload_n hx hb d_X1_flipsAt_21 rfl (lv_at hl 2 rfl) ?_
      refine lv_iadd hx hb d_X1_flipsAt_22 ?_
      refine td_i (y := (nI (64 * L + s0))) (by show nI 64 * nI L + nI s0 = _; rw [pk_mul, nI_add]) ?_
      refine va_iald hx hb hK hP 1 0 rfl rfl (vp_in_nI (show 64 * L + s0 < 1216 by omega) (by decide)) d_X1_flipsAt_23 ?_
      refine td_i (y := (td_lv ce L s0)) (by rw [nI_clamp (by omega)]; rfl) ?_
      refine lv_if_ne (tgt := 90) hx hb d_X1_flipsAt_24 (by decide) (fun h2 => ?_) (fun h2 => ?_)
      · have hw : w0 = 0 := hor.elim (fun z => absurd z h2) (fun z => z)
        subst hw
        exact J (by unfold td_fl; rw [if_neg h2]; rfl)
      · refine lv_aload_n hx hb d_X1_flipsAt_27 rfl (lv_at hl 0 rfl) ?_
        refine lv_iload_n hx hb d_X1_flipsAt_28 rfl (lv_at hl 1 rfl) ?_
        refine lv_iload_n hx hb d_X1_flipsAt_29 rfl (lv_at hl 2 rfl) ?_
        refine lv_iload hx hb d_X1_flipsAt_30 (lv_at hl 5 rfl) ?_
        refine lv_iload_n hx hb d_X1_flipsAt_32 rfl (lv_at hl 3 rfl) ?_
        refine vp_callSi (W.runV (b := o) (C := RX1) (As := [.int (nI L), .int (nI s0), .int (nI w0), .int who]) (rest := []) ⟨hx, hb, hml, hown, hts⟩ (m_X1_along l D o ac cI fs hfs ce L hL s0 hs0 w0 hw who) (cwV 4 hts (tw_V ml_X1_67 im_X1_along se_X1_along in_X1 kw_X1_along) rfl rfl rfl (by decide +kernel) ⟨Nat.le_of_ble_eq_true rfl, Nat.le_of_ble_eq_true rfl⟩) ⟨fun a U g mk q => ⟨q.1, q.2.1, va_K.moved (u := U) (U := U.calling g mk a) (Vm.Alike.refl U.vm) q.2.2⟩, va_recv (q0 := 0) (ci := 1) hK hP rfl rfl, fun U hU hW => ⟨rfl, by rw [hU]; exact hP, va_K.moved hW.alike hK⟩⟩ rfl rfl hl.1 rfl (lv_room (Nat.le_of_ble_eq_true rfl)) d_X1_flipsAt_33 ⟨Nat.zero_le _, Nat.zero_le _⟩) (fun r h9 => ?_)
        subst h9
        have hn7 := td_al_le hw hs0 (td_lv ce L) who
        have hin := fun j h0 h => td_al_in (w := w0) (s := s0) (td_lv ce L) who (j := j) h0 h
        generalize hn : td_al (td_lv ce L) who w0 s0 = n at hn7 hin ⊢
        refine lv_istore hx hb d_X1_flipsAt_36 hl (by decide) rfl (fun ls hl => ?_)
        have hl : lv_has ls 10 [(7, .int (nI n)), (0, .ref o), (1, .int (nI L)), (2, .int (nI s0)), (3, .int who), (4, .long (td_fw (td_lv ce L) who s0 w0)), (6, .int (nI w0))] := hl
        refine lv_bipush (v := 8) hx hb d_X1_flipsAt_38 (by decide) ?_
        refine lv_iload hx hb d_X1_flipsAt_40 (lv_at hl 6 rfl) ?_
        refine vp_callSi (W.runS (As := [.int (nI w0)]) (rest := [.int 8]) ⟨hx, hb, hml, hown, hts⟩ (m_X1_rowWay l (nI w0)) (va_cwS 1 hts (tw_S ml_X1_52 st_X1_rowWay in_X1 kw_X1_rowWay) rfl rfl rfl (by decide +kernel) ⟨Nat.le_of_ble_eq_true rfl, Nat.le_of_ble_eq_true rfl⟩) ⟨fun _ _ _ _ q => q, fun U hU hW => ⟨rfl, trivial⟩⟩ rfl rfl hl.1 rfl (lv_room (Nat.le_of_ble_eq_true rfl)) d_X1_flipsAt_42 ⟨Nat.zero_le _, Nat.zero_le _⟩) (fun r h9 => ?_)
        subst h9
        refine lv_imul hx hb d_X1_flipsAt_45 ?_
        refine lv_iload hx hb d_X1_flipsAt_46 (lv_at hl 6 rfl) ?_
        refine vp_callSi (W.runS (As := [.int (nI w0)]) (rest := [.int (8 * (td_rw (nI w0)))]) ⟨hx, hb, hml, hown, hts⟩ (m_X1_columnWay l (nI w0)) (va_cwS 1 hts (tw_S ml_X1_56 st_X1_columnWay in_X1 kw_X1_columnWay) rfl rfl rfl (by decide +kernel) ⟨Nat.le_of_ble_eq_true rfl, Nat.le_of_ble_eq_true rfl⟩) ⟨fun _ _ _ _ q => q, fun U hU hW => ⟨rfl, trivial⟩⟩ rfl rfl hl.1 rfl (lv_room (Nat.le_of_ble_eq_true rfl)) d_X1_flipsAt_48 ⟨Nat.zero_le _, Nat.zero_le _⟩) (fun r h9 => ?_)
        subst h9
        refine lv_iadd hx hb d_X1_flipsAt_51 ?_
        refine lv_istore hx hb d_X1_flipsAt_52 hl (by decide) rfl (fun ls hl => ?_)
        have hl : lv_has ls 10 [(8, .int ((8 * (td_rw (nI w0))) + (td_cw (nI w0)))), (7, .int (nI n)), (0, .ref o), (1, .int (nI L)), (2, .int (nI s0)), (3, .int who), (4, .long (td_fw (td_lv ce L) who s0 w0)), (6, .int (nI w0))] := hl
        refine lv_iconst (v := 1) hx hb d_X1_flipsAt_54 (by decide) ?_
        refine lv_istore hx hb d_X1_flipsAt_55 hl (by decide) rfl (fun ls hl => ?_)
        have hl : lv_has ls 10 [(9, .int 1), (8, .int ((8 * (td_rw (nI w0))) + (td_cw (nI w0)))), (7, .int (nI n)), (0, .ref o), (1, .int (nI L)), (2, .int (nI s0)), (3, .int who), (4, .long (td_fw (td_lv ce L) who s0 w0)), (6, .int (nI w0))] := hl
        have hl0 := lv_sub hl [3, 4, 5, 6, 7, 8, 2, 1, 0] rfl
        refine td_loop 57 [] (fun k0 : Nat => n - k0) (fun k0 ls => k0 ≤ n ∧ lv_has ls 10 [(0, .ref o), (1, .int (nI L)), (2, .int (nI s0)), (3, .int who), (4, .long (td_in w0 s0 k0 (td_fw (td_lv ce L) who s0 w0))), (6, .int (nI w0)), (7, .int (nI n)), (8, .int ((8 * (td_rw (nI w0))) + (td_cw (nI w0)))), (9, .int (nI (k0 + 1)))]) (fun k0 ls hC ih2 => ?_) 0 ⟨Nat.zero_le _, hl0⟩
        clear hl hl0
        obtain ⟨hi, hl⟩ := hC
        have hl : lv_has ls 10 [(0, .ref o), (1, .int (nI L)), (2, .int (nI s0)), (3, .int who), (4, .long (td_in w0 s0 k0 (td_fw (td_lv ce L) who s0 w0))), (6, .int (nI w0)), (7, .int (nI n)), (8, .int ((8 * (td_rw (nI w0))) + (td_cw (nI w0)))), (9, .int (nI (k0 + 1)))] := hl
        refine lv_iload hx hb d_X1_flipsAt_57 (lv_at hl 8 rfl) ?_
        refine lv_iload hx hb d_X1_flipsAt_59 (lv_at hl 6 rfl) ?_
        refine lv_icmp_gt (tgt := 84) hx hb d_X1_flipsAt_61 (by decide) (fun h3 => ?_) (fun h3 => ?_)
        · have hk : k0 = n := by have := (nI_ltI (a := n) (b := k0 + 1) (by omega) (by omega)).mp h3; omega
          refine lv_iinc (k := 5) (v := (nI (w0 + 1))) hx hb d_X1_flipsAt_84 hl rfl ((nI_succ w0).symm) (by decide) rfl (fun ls hl => ?_)
          have hl : lv_has ls 10 [(6, .int (nI (w0 + 1))), (0, .ref o), (1, .int (nI L)), (2, .int (nI s0)), (3, .int who), (4, .long (td_in w0 s0 k0 (td_fw (td_lv ce L) who s0 w0))), (7, .int (nI n)), (8, .int ((8 * (td_rw (nI w0))) + (td_cw (nI w0)))), (9, .int (nI (k0 + 1)))] := hl
          refine lv_goto (tgt := 6) hx hb d_X1_flipsAt_87 (by decide) ?_
          have hl1 := lv_sub hl [1, 2, 3, 4, 5, 0] rfl
          rw [hk, ← hn] at hl1
          exact ih (w0 + 1) _ (by omega) ⟨⟨by omega, Or.inl h2⟩, hl1⟩
        · have hk : k0 + 1 ≤ n := Nat.le_of_not_lt (fun z => h3 ((nI_ltI (a := n) (b := k0 + 1) (by omega) (by omega)).mpr z))
          refine lv_lload hx hb d_X1_flipsAt_64 (lv_at hl 4 rfl) ?_
          refine lv_lconst (v := 1) hx hb d_X1_flipsAt_66 (by decide) ?_
          refine lv_iload_n hx hb d_X1_flipsAt_67 rfl (lv_at hl 2 rfl) ?_
          refine lv_iload hx hb d_X1_flipsAt_68 (lv_at hl 8 rfl) ?_
          refine lv_iload hx hb d_X1_flipsAt_70 (lv_at hl 7 rfl) ?_
          refine lv_imul hx hb d_X1_flipsAt_72 ?_
          refine lv_iadd hx hb d_X1_flipsAt_73 ?_
          refine td_i (y := (nI (td_ps w0 s0 (k0 + 1)))) ((td_geo hw hs0 (by omega) (td_on_ps (hin (k0 + 1) (by omega) hk))).2.2.2) ?_
          refine lv_lshl (v := (td_lshl 1 (nI (td_ps w0 s0 (k0 + 1))))) hx hb d_X1_flipsAt_74 rfl ?_
          refine lv_lor hx hb d_X1_flipsAt_75 ?_
          refine td_l (y := (td_in w0 s0 (k0 + 1) (td_fw (td_lv ce L) who s0 w0))) (rfl) ?_
          refine lv_lstore hx hb d_X1_flipsAt_76 hl (by decide) rfl (fun ls hl => ?_)
          have hl : lv_has ls 10 [(4, .long (td_in w0 s0 (k0 + 1) (td_fw (td_lv ce L) who s0 w0))), (0, .ref o), (1, .int (nI L)), (2, .int (nI s0)), (3, .int who), (6, .int (nI w0)), (7, .int (nI n)), (8, .int ((8 * (td_rw (nI w0))) + (td_cw (nI w0)))), (9, .int (nI (k0 + 1)))] := hl
          refine lv_iinc (k := 8) (v := (nI (k0 + 1 + 1))) hx hb d_X1_flipsAt_78 hl rfl ((nI_succ (k0 + 1)).symm) (by decide) rfl (fun ls hl => ?_)
          have hl : lv_has ls 10 [(9, .int (nI (k0 + 1 + 1))), (4, .long (td_in w0 s0 (k0 + 1) (td_fw (td_lv ce L) who s0 w0))), (0, .ref o), (1, .int (nI L)), (2, .int (nI s0)), (3, .int who), (6, .int (nI w0)), (7, .int (nI n)), (8, .int ((8 * (td_rw (nI w0))) + (td_cw (nI w0))))] := hl
          refine lv_goto (tgt := 57) hx hb d_X1_flipsAt_81 (by decide) ?_
          have hl1 := lv_sub hl [2, 3, 4, 5, 1, 6, 7, 8, 0] rfl
          exact ih2 (k0 + 1) _ (by omega) ⟨hk, hl1⟩
end
section
/-! more of the reference's readers -/
theorem td_cn_s (P : Nat → Bool) (n : Nat) : td_cn P (n + 1) = td_cn P n + (if P n then 1 else 0) := rfl
/-- the first steps of a way all hold v, up to the board's end -/
def td_full (g : Nat → Int32) (v : Int32) (w s : Nat) : Prop := ∀ j, 0 < j → j < 9 → td_ps w s j < 64 → g (td_ps w s j) = v
/-- at most 'most' of the first ones that have P, from place i on, n counted before -/
def td_cap (P : Nat → Bool) (most : Int32) : Nat → Nat → Nat → Nat
  | 0, _, n => n
  | r + 1, i, n => if nI n < most then td_cap P most r (i + 1) (n + (if P i then 1 else 0)) else n
theorem td_cap_le (P : Nat → Bool) (most : Int32) : ∀ r i n, td_cap P most r i n ≤ n + r
  | 0, i, n => Nat.le_refl _
  | r + 1, i, n => by
    unfold td_cap
    by_cases h : nI n < most
    · rw [if_pos h]
      have := td_cap_le P most r (i + 1) (n + (if P i then 1 else 0))
      by_cases hp : P i = true
      · rw [if_pos hp] at this ⊢; omega
      · rw [if_neg hp] at this ⊢; omega
    · rw [if_neg h]; omega
set_option maxHeartbeats 4000000 in
set_option maxRecDepth 100000 in
theorem m_X1_movesAt (l : Launch) (D : va_G) (o ac : Nat) (cI : ClassId) (fs : List Value) (hfs : fs[1]? = some (.ref ac)) (ce : Nat → Int32) (L : Nat) (hL : L ≤ 18) (who : Int32) : Met l y_X1_movesAt (k_X1_movesAt :: tw) ({ frames := 3, cells := 0, slots := 0, locals := 79 }) (va_Pc [.ref o, .int (nI L), .int who] (fun U => va_P D tdC [(o, .inr (1, fs)), (ac, .inl (cI, 1216, .inl ce))] U.heap ∧ va_K D tdC [(cI, .int)] U)) (vp_Si (fun x => x = (nI (td_cn (fun q => decide (td_fl (td_lv ce L) who q ≠ 0)) 64)))) 0 0 (fun _ => False) := by
  refine Met.ofW (cc := c_X1_movesAt) (maxL := 5) (ret := (some .int)) (by decide) rfl ?_
  intro p e s m args below meth c s₁ B hml hv
  obtain ⟨rfl, hP, hK⟩ := hv
  have hx := B.exec
  have hb := B.bytes
  have hr := B.returns
  have hts : ∀ w ∈ tw, w.before _ s = true := fun w h => atoms_spec (ws := k_X1_movesAt :: tw) B.pre w (List.mem_cons_of_mem _ h)
  have hown : s.vm.findClass RX1 = some m.cls := findClass_of_methodNamed B.named
  have hlocks := B.notSynchronized
  have hl := lv_entry ([.ref o, .int (nI L), .int who]) (n := 5) (Nat.le_of_ble_eq_true rfl)
  rw [lg_entry_eq]
  generalize (lg_sl ([.ref o, .int (nI L), .int who]) ++ List.replicate (5 - (lg_sl ([.ref o, .int (nI L), .int who])).length) Slot.unset).toArray = ls at hl ⊢
  have hl : lv_has ls 5 [(0, .ref o), (1, .int (nI L)), (2, .int who)] := hl
  refine lv_iconst (v := 0) hx hb d_X1_movesAt_0 (by decide) ?_
  refine lv_istore_n hx hb d_X1_movesAt_1 rfl hl (by decide) rfl (fun ls hl => ?_)
  have hl : lv_has ls 5 [(3, .int 0), (0, .ref o), (1, .int (nI L)), (2, .int who)] := hl
  refine lv_iconst (v := 0) hx hb d_X1_movesAt_2 (by decide) ?_
  refine lv_istore hx hb d_X1_movesAt_3 hl (by decide) rfl (fun ls hl => ?_)
  have hl : lv_has ls 5 [(4, .int 0), (3, .int 0), (0, .ref o), (1, .int (nI L)), (2, .int who)] := hl
  have hl0 := lv_sub hl [2, 3, 4, 1, 0] rfl
  refine td_loop 5 [] (fun i : Nat => 64 - i) (fun i ls => i ≤ 64 ∧ lv_has ls 5 [(0, .ref o), (1, .int (nI L)), (2, .int who), (3, .int (nI (td_cn (fun q => decide (td_fl (td_lv ce L) who q ≠ 0)) i))), (4, .int (nI i))]) (fun i ls hC ih => ?_) 0 ⟨Nat.zero_le _, hl0⟩
  clear hl hl0
  obtain ⟨hi, hl⟩ := hC
  have hl : lv_has ls 5 [(0, .ref o), (1, .int (nI L)), (2, .int who), (3, .int (nI (td_cn (fun q => decide (td_fl (td_lv ce L) who q ≠ 0)) i))), (4, .int (nI i))] := hl
  refine lv_iload hx hb d_X1_movesAt_5 (lv_at hl 4 rfl) ?_
  refine lv_bipush (v := 64) hx hb d_X1_movesAt_7 (by decide) ?_
  refine lv_icmp_ge (tgt := 39) hx hb d_X1_movesAt_9 (by decide) (fun h1 => ?_) (fun h1 => ?_)
  · have h64 : i = 64 := Nat.le_antisymm hi ((nI_leI (a := 64) (b := i) (by decide) (by omega)).mp h1)
    subst h64
    refine lv_iload_n hx hb d_X1_movesAt_39 rfl (lv_at hl 3 rfl) ?_
    exact W.iret (v := (nI (td_cn (fun q => decide (td_fl (td_lv ce L) who q ≠ 0)) 64))) hx hb hr (fun t ht hW => ⟨_, rfl, rfl, ht⟩) (fun _ h => nomatch h) d_X1_movesAt_40
  · have h64 : i < 64 := Nat.lt_of_not_le (fun z => h1 ((nI_leI (a := 64) (b := i) (by decide) (by omega)).mpr z))
    have hcs := td_cn_s (fun q => decide (td_fl (td_lv ce L) who q ≠ 0)) i
    refine lv_aload_n hx hb d_X1_movesAt_12 rfl (lv_at hl 0 rfl) ?_
    refine lv_iload_n hx hb d_X1_movesAt_13 rfl (lv_at hl 1 rfl) ?_
    refine lv_iload hx hb d_X1_movesAt_14 (lv_at hl 4 rfl) ?_
    refine lv_iload_n hx hb d_X1_movesAt_16 rfl (lv_at hl 2 rfl) ?_
    refine vp_callSl (W.runV (b := o) (C := RX1) (As := [.int (nI L), .int (nI i), .int who]) (rest := []) ⟨hx, hb, hml, hown, hts⟩ (m_X1_flipsAt l D o ac cI fs hfs ce L hL i h64 who) (cwV 3 hts (tw_V ml_X1_71 im_X1_flipsAt se_X1_flipsAt in_X1 kw_X1_flipsAt) rfl rfl rfl (by decide +kernel) ⟨Nat.le_of_ble_eq_true rfl, Nat.le_of_ble_eq_true rfl⟩) ⟨fun a U g mk q => ⟨q.1, q.2.1, va_K.moved (u := U) (U := U.calling g mk a) (Vm.Alike.refl U.vm) q.2.2⟩, va_recv (q0 := 0) (ci := 1) hK hP rfl rfl, fun U hU hW => ⟨rfl, by rw [hU]; exact hP, va_K.moved hW.alike hK⟩⟩ rfl rfl hl.1 rfl (lv_room (Nat.le_of_ble_eq_true rfl)) d_X1_movesAt_17 ⟨Nat.zero_le _, Nat.zero_le _⟩) (fun r h9 => ?_)
    subst h9
    refine lv_lconst (v := 0) hx hb d_X1_movesAt_20 (by decide) ?_
    refine td_joini 32 ls [] (fun x => x = nI (td_cn (fun q => decide (td_fl (td_lv ce L) who q ≠ 0)) (i + 1))) (fun x ex => ?_) (fun J => ?_)
    · subst ex
      refine lv_istore_n hx hb d_X1_movesAt_32 rfl hl (by decide) rfl (fun ls hl => ?_)
      have hl : lv_has ls 5 [(3, .int (nI (td_cn (fun q => decide (td_fl (td_lv ce L) who q ≠ 0)) (i + 1)))), (0, .ref o), (1, .int (nI L)), (2, .int who), (4, .int (nI i))] := hl
      refine lv_iinc (k := 4) (v := (nI (i + 1))) hx hb d_X1_movesAt_33 hl rfl ((nI_succ i).symm) (by decide) rfl (fun ls hl => ?_)
      have hl : lv_has ls 5 [(4, .int (nI (i + 1))), (3, .int (nI (td_cn (fun q => decide (td_fl (td_lv ce L) who q ≠ 0)) (i + 1)))), (0, .ref o), (1, .int (nI L)), (2, .int who)] := hl
      refine lv_goto (tgt := 5) hx hb d_X1_movesAt_36 (by decide) ?_
      have hl1 := lv_sub hl [2, 3, 4, 1, 0] rfl
      exact ih (i + 1) _ (by omega) ⟨h64, hl1⟩
    · refine td_leq (tgt := 31) hx hb d_X1_movesAt_21 d_X1_movesAt_22 (by decide) (fun h2 => ?_) (fun h2 => ?_)
      · refine lv_iload_n hx hb d_X1_movesAt_31 rfl (lv_at hl 3 rfl) ?_
        exact J _ (by rw [hcs, if_neg (fun z => (of_decide_eq_true z) h2), Nat.add_zero])
      · refine lv_iload_n hx hb d_X1_movesAt_25 rfl (lv_at hl 3 rfl) ?_
        refine lv_iconst (v := 1) hx hb d_X1_movesAt_26 (by decide) ?_
        refine lv_iadd hx hb d_X1_movesAt_27 ?_
        refine lv_goto (tgt := 32) hx hb d_X1_movesAt_28 (by decide) ?_
        exact J _ (by rw [hcs, if_pos (decide_eq_true h2)]; exact (nI_succ _).symm)
set_option maxHeartbeats 4000000 in
set_option maxRecDepth 100000 in
theorem m_X1_discsOf (l : Launch) (D : va_G) (o ac : Nat) (cI : ClassId) (fs : List Value) (hfs : fs[1]? = some (.ref ac)) (ce : Nat → Int32) (L : Nat) (hL : L ≤ 18) (who : Int32) : Met l y_X1_discsOf (k_X1_discsOf :: tw) ({ frames := 0, cells := 0, slots := 0, locals := 0 }) (va_Pc [.ref o, .int (nI L), .int who] (fun U => va_P D tdC [(o, .inr (1, fs)), (ac, .inl (cI, 1216, .inl ce))] U.heap ∧ va_K D tdC [(cI, .int)] U)) (vp_Si (fun x => x = (nI (td_cn (fun q => decide ((td_lv ce L) q = who + 1)) 64)))) 0 0 (fun _ => False) := by
  refine Met.ofW (cc := c_X1_discsOf) (maxL := 5) (ret := (some .int)) (by decide) rfl ?_
  intro p e s m args below meth c s₁ B hml hv
  obtain ⟨rfl, hP, hK⟩ := hv
  have hx := B.exec
  have hb := B.bytes
  have hr := B.returns
  have hts : ∀ w ∈ tw, w.before _ s = true := fun w h => atoms_spec (ws := k_X1_discsOf :: tw) B.pre w (List.mem_cons_of_mem _ h)
  have hown : s.vm.findClass RX1 = some m.cls := findClass_of_methodNamed B.named
  have hlocks := B.notSynchronized
  have hl := lv_entry ([.ref o, .int (nI L), .int who]) (n := 5) (Nat.le_of_ble_eq_true rfl)
  rw [lg_entry_eq]
  generalize (lg_sl ([.ref o, .int (nI L), .int who]) ++ List.replicate (5 - (lg_sl ([.ref o, .int (nI L), .int who])).length) Slot.unset).toArray = ls at hl ⊢
  have hl : lv_has ls 5 [(0, .ref o), (1, .int (nI L)), (2, .int who)] := hl
  refine lv_iconst (v := 0) hx hb d_X1_discsOf_0 (by decide) ?_
  refine lv_istore_n hx hb d_X1_discsOf_1 rfl hl (by decide) rfl (fun ls hl => ?_)
  have hl : lv_has ls 5 [(3, .int 0), (0, .ref o), (1, .int (nI L)), (2, .int who)] := hl
  refine lv_iconst (v := 0) hx hb d_X1_discsOf_2 (by decide) ?_
  refine lv_istore hx hb d_X1_discsOf_3 hl (by decide) rfl (fun ls hl => ?_)
  have hl : lv_has ls 5 [(4, .int 0), (3, .int 0), (0, .ref o), (1, .int (nI L)), (2, .int who)] := hl
  have hl0 := lv_sub hl [2, 3, 4, 1, 0] rfl
  refine td_loop 5 [] (fun i : Nat => 64 - i) (fun i ls => i ≤ 64 ∧ lv_has ls 5 [(0, .ref o), (1, .int (nI L)), (2, .int who), (3, .int (nI (td_cn (fun q => decide ((td_lv ce L) q = who + 1)) i))), (4, .int (nI i))]) (fun i ls hC ih => ?_) 0 ⟨Nat.zero_le _, hl0⟩
  clear hl hl0
  obtain ⟨hi, hl⟩ := hC
  have hl : lv_has ls 5 [(0, .ref o), (1, .int (nI L)), (2, .int who), (3, .int (nI (td_cn (fun q => decide ((td_lv ce L) q = who + 1)) i))), (4, .int (nI i))] := hl
  refine lv_iload hx hb d_X1_discsOf_5 (lv_at hl 4 rfl) ?_
  refine lv_bipush (v := 64) hx hb d_X1_discsOf_7 (by decide) ?_
  refine lv_icmp_ge (tgt := 44) hx hb d_X1_discsOf_9 (by decide) (fun h1 => ?_) (fun h1 => ?_)
  · have h64 : i = 64 := Nat.le_antisymm hi ((nI_leI (a := 64) (b := i) (by decide) (by omega)).mp h1)
    subst h64
    refine lv_iload_n hx hb d_X1_discsOf_44 rfl (lv_at hl 3 rfl) ?_
    exact W.iret (v := (nI (td_cn (fun q => decide ((td_lv ce L) q = who + 1)) 64))) hx hb hr (fun t ht hW => ⟨_, rfl, rfl, ht⟩) (fun _ h => nomatch h) d_X1_discsOf_45
  · have h64 : i < 64 := Nat.lt_of_not_le (fun z => h1 ((nI_leI (a := 64) (b := i) (by decide) (by omega)).mpr z))
    have hcs := td_cn_s (fun q => decide ((td_lv ce L) q = who + 1)) i
    refine lv_aload_n hx hb d_X1_discsOf_12 rfl (lv_at hl 0 rfl) ?_
    refine va_get (D := D) (ci := 1) (v := .ref ac) (C := RX1) (T := TX1) (N := 14) hx hb hts usX1 hown hK hP 0 rfl rfl 1 (by decide) (hts _ fl_X1_7) (fun _ h9 => h9) hfs d_X1_discsOf_13 ?_
    refine lv_bipush (v := 64) hx hb d_X1_discsOf_16 (by decide) ?_
    refine lv_iload_n hx hb d_X1_discsOf_18 rfl (lv_at hl 1 rfl) ?_
    refine lv_imul hx hb d_X1_discsOf_19 ?_
    refine lv_iload hx hb d_X1_discsOf_20 (lv_at hl 4 rfl) ?_
    refine lv_iadd hx hb d_X1_discsOf_22 ?_
    refine td_i (y := (nI (64 * L + i))) (by show nI 64 * nI L + nI i = _; rw [pk_mul, nI_add]) ?_
    refine va_iald hx hb hK hP 1 0 rfl rfl (vp_in_nI (show 64 * L + i < 1216 by omega) (by decide)) d_X1_discsOf_23 ?_
    refine td_i (y := (td_lv ce L i)) (by rw [nI_clamp (by omega)]; rfl) ?_
    refine lv_iload_n hx hb d_X1_discsOf_24 rfl (lv_at hl 2 rfl) ?_
    refine lv_iconst (v := 1) hx hb d_X1_discsOf_25 (by decide) ?_
    refine lv_iadd hx hb d_X1_discsOf_26 ?_
    refine td_joini 37 ls [] (fun x => x = nI (td_cn (fun q => decide ((td_lv ce L) q = who + 1)) (i + 1))) (fun x ex => ?_) (fun J => ?_)
    · subst ex
      refine lv_istore_n hx hb d_X1_discsOf_37 rfl hl (by decide) rfl (fun ls hl => ?_)
      have hl : lv_has ls 5 [(3, .int (nI (td_cn (fun q => decide ((td_lv ce L) q = who + 1)) (i + 1)))), (0, .ref o), (1, .int (nI L)), (2, .int who), (4, .int (nI i))] := hl
      refine lv_iinc (k := 4) (v := (nI (i + 1))) hx hb d_X1_discsOf_38 hl rfl ((nI_succ i).symm) (by decide) rfl (fun ls hl => ?_)
      have hl : lv_has ls 5 [(4, .int (nI (i + 1))), (3, .int (nI (td_cn (fun q => decide ((td_lv ce L) q = who + 1)) (i + 1)))), (0, .ref o), (1, .int (nI L)), (2, .int who)] := hl
      refine lv_goto (tgt := 5) hx hb d_X1_discsOf_41 (by decide) ?_
      have hl1 := lv_sub hl [2, 3, 4, 1, 0] rfl
      exact ih (i + 1) _ (by omega) ⟨h64, hl1⟩
    · refine lv_icmp_ne (tgt := 36) hx hb d_X1_discsOf_27 (by decide) (fun h2 => ?_) (fun h2 => ?_)
      · refine lv_iload_n hx hb d_X1_discsOf_36 rfl (lv_at hl 3 rfl) ?_
        exact J _ (by rw [hcs, if_neg (fun z => h2 (of_decide_eq_true z)), Nat.add_zero])
      · refine lv_iload_n hx hb d_X1_discsOf_30 rfl (lv_at hl 3 rfl) ?_
        refine lv_iconst (v := 1) hx hb d_X1_discsOf_31 (by decide) ?_
        refine lv_iadd hx hb d_X1_discsOf_32 ?_
        refine lv_goto (tgt := 37) hx hb d_X1_discsOf_33 (by decide) ?_
        exact J _ (by rw [hcs, if_pos (decide_eq_true h2)]; exact (nI_succ _).symm)
set_option maxHeartbeats 4000000 in
set_option maxRecDepth 100000 in
theorem m_X1_ones (l : Launch) (z0 : Int64) : Met l y_X1_ones (k_X1_ones :: tw) ({ frames := 0, cells := 0, slots := 0, locals := 0 }) (va_Pc [.long z0] (fun _ => True)) (vp_Si (fun x => x = (nI (td_cn (fun q => decide ((td_lshr z0 (nI q) &&& 1) = 1)) 64)))) 0 0 (fun _ => False) := by
  refine Met.ofW (cc := c_X1_ones) (maxL := 4) (ret := (some .int)) (by decide) rfl ?_
  intro p e s m args below meth c s₁ B hml hv
  obtain ⟨rfl, hv⟩ := hv
  have hx := B.exec
  have hb := B.bytes
  have hr := B.returns
  have hts : ∀ w ∈ tw, w.before _ s = true := fun w h => atoms_spec (ws := k_X1_ones :: tw) B.pre w (List.mem_cons_of_mem _ h)
  have hown : s.vm.findClass RX1 = some m.cls := findClass_of_methodNamed B.named
  have hlocks := B.notSynchronized
  have hl := lv_entry ([.long z0]) (n := 4) (Nat.le_of_ble_eq_true rfl)
  rw [lg_entry_eq]
  generalize (lg_sl ([.long z0]) ++ List.replicate (4 - (lg_sl ([.long z0])).length) Slot.unset).toArray = ls at hl ⊢
  have hl : lv_has ls 4 [(0, .long z0)] := hl
  refine lv_iconst (v := 0) hx hb d_X1_ones_0 (by decide) ?_
  refine lv_istore_n hx hb d_X1_ones_1 rfl hl (by decide) rfl (fun ls hl => ?_)
  have hl : lv_has ls 4 [(2, .int 0), (0, .long z0)] := hl
  refine lv_iconst (v := 0) hx hb d_X1_ones_2 (by decide) ?_
  refine lv_istore_n hx hb d_X1_ones_3 rfl hl (by decide) rfl (fun ls hl => ?_)
  have hl : lv_has ls 4 [(3, .int 0), (2, .int 0), (0, .long z0)] := hl
  have hl0 := lv_sub hl [2, 1, 0] rfl
  refine td_loop 4 [] (fun i : Nat => 64 - i) (fun i ls => i ≤ 64 ∧ lv_has ls 4 [(0, .long z0), (2, .int (nI (td_cn (fun q => decide ((td_lshr z0 (nI q) &&& 1) = 1)) i))), (3, .int (nI i))]) (fun i ls hC ih => ?_) 0 ⟨Nat.zero_le _, hl0⟩
  clear hl hl0
  obtain ⟨hi, hl⟩ := hC
  have hl : lv_has ls 4 [(0, .long z0), (2, .int (nI (td_cn (fun q => decide ((td_lshr z0 (nI q) &&& 1) = 1)) i))), (3, .int (nI i))] := hl
  refine lv_iload_n hx hb d_X1_ones_4 rfl (lv_at hl 2 rfl) ?_
  refine lv_bipush (v := 64) hx hb d_X1_ones_5 (by decide) ?_
  refine lv_icmp_ge (tgt := 34) hx hb d_X1_ones_7 (by decide) (fun h1 => ?_) (fun h1 => ?_)
  · have h64 : i = 64 := Nat.le_antisymm hi ((nI_leI (a := 64) (b := i) (by decide) (by omega)).mp h1)
    subst h64
    refine lv_iload_n hx hb d_X1_ones_34 rfl (lv_at hl 1 rfl) ?_
    exact W.iret (v := (nI (td_cn (fun q => decide ((td_lshr z0 (nI q) &&& 1) = 1)) 64))) hx hb hr (fun t ht hW => ⟨_, rfl, rfl, ht⟩) (fun _ h => nomatch h) d_X1_ones_35
  · have h64 : i < 64 := Nat.lt_of_not_le (fun z => h1 ((nI_leI (a := 64) (b := i) (by decide) (by omega)).mpr z))
    have hcs := td_cn_s (fun q => decide ((td_lshr z0 (nI q) &&& 1) = 1)) i
    refine lv_lload_n hx hb d_X1_ones_10 rfl (lv_at hl 0 rfl) ?_
    refine lv_iload_n hx hb d_X1_ones_11 rfl (lv_at hl 2 rfl) ?_
    refine lv_lshr (v := (td_lshr z0 (nI i))) hx hb d_X1_ones_12 rfl ?_
    refine lv_lconst (v := 1) hx hb d_X1_ones_13 (by decide) ?_
    refine lv_land hx hb d_X1_ones_14 ?_
    refine lv_lconst (v := 1) hx hb d_X1_ones_15 (by decide) ?_
    refine td_joini 27 ls [] (fun x => x = nI (td_cn (fun q => decide ((td_lshr z0 (nI q) &&& 1) = 1)) (i + 1))) (fun x ex => ?_) (fun J => ?_)
    · subst ex
      refine lv_istore_n hx hb d_X1_ones_27 rfl hl (by decide) rfl (fun ls hl => ?_)
      have hl : lv_has ls 4 [(2, .int (nI (td_cn (fun q => decide ((td_lshr z0 (nI q) &&& 1) = 1)) (i + 1)))), (0, .long z0), (3, .int (nI i))] := hl
      refine lv_iinc (k := 2) (v := (nI (i + 1))) hx hb d_X1_ones_28 hl rfl ((nI_succ i).symm) (by decide) rfl (fun ls hl => ?_)
      have hl : lv_has ls 4 [(3, .int (nI (i + 1))), (2, .int (nI (td_cn (fun q => decide ((td_lshr z0 (nI q) &&& 1) = 1)) (i + 1)))), (0, .long z0)] := hl
      refine lv_goto (tgt := 4) hx hb d_X1_ones_31 (by decide) ?_
      have hl1 := lv_sub hl [2, 1, 0] rfl
      exact ih (i + 1) _ (by omega) ⟨h64, hl1⟩
    · refine td_lne (tgt := 26) hx hb d_X1_ones_16 d_X1_ones_17 (by decide) (fun h2 => ?_) (fun h2 => ?_)
      · refine lv_iload_n hx hb d_X1_ones_26 rfl (lv_at hl 1 rfl) ?_
        exact J _ (by rw [hcs, if_neg (fun z => h2 (of_decide_eq_true z)), Nat.add_zero])
      · refine lv_iload_n hx hb d_X1_ones_20 rfl (lv_at hl 1 rfl) ?_
        refine lv_iconst (v := 1) hx hb d_X1_ones_21 (by decide) ?_
        refine lv_iadd hx hb d_X1_ones_22 ?_
        refine lv_goto (tgt := 27) hx hb d_X1_ones_23 (by decide) ?_
        exact J _ (by rw [hcs, if_pos (decide_eq_true h2)]; exact (nI_succ _).symm)
set_option maxHeartbeats 4000000 in
set_option maxRecDepth 100000 in
theorem m_X1_turnsAny (l : Launch) (D : va_G) (o ac : Nat) (cI : ClassId) (fs : List Value) (hfs : fs[1]? = some (.ref ac)) (ce : Nat → Int32) (L : Nat) (hL : L ≤ 18) (s0 : Nat) (hs0 : s0 < 64) (who : Int32) : Met l y_X1_turnsAny (k_X1_turnsAny :: tw) ({ frames := 2, cells := 0, slots := 0, locals := 50 }) (va_Pc [.ref o, .int (nI L), .int (nI s0), .int who] (fun U => va_P D tdC [(o, .inr (1, fs)), (ac, .inl (cI, 1216, .inl ce))] U.heap ∧ va_K D tdC [(cI, .int)] U)) (vp_Si (fun x => (td_any (td_lv ce L) who s0 = true ∧ x = 1) ∨ (¬ td_any (td_lv ce L) who s0 = true ∧ x = 0))) 0 0 (fun _ => False) := by
  refine Met.ofW (cc := c_X1_turnsAny) (maxL := 6) (ret := (some .boolean)) (by decide) rfl ?_
  intro p e s m args below meth c s₁ B hml hv
  obtain ⟨rfl, hP, hK⟩ := hv
  have hx := B.exec
  have hb := B.bytes
  have hr := B.returns
  have hts : ∀ w ∈ tw, w.before _ s = true := fun w h => atoms_spec (ws := k_X1_turnsAny :: tw) B.pre w (List.mem_cons_of_mem _ h)
  have hown : s.vm.findClass RX1 = some m.cls := findClass_of_methodNamed B.named
  have hlocks := B.notSynchronized
  have hl := lv_entry ([.ref o, .int (nI L), .int (nI s0), .int who]) (n := 6) (Nat.le_of_ble_eq_true rfl)
  rw [lg_entry_eq]
  generalize (lg_sl ([.ref o, .int (nI L), .int (nI s0), .int who]) ++ List.replicate (6 - (lg_sl ([.ref o, .int (nI L), .int (nI s0), .int who])).length) Slot.unset).toArray = ls at hl ⊢
  have hl : lv_has ls 6 [(0, .ref o), (1, .int (nI L)), (2, .int (nI s0)), (3, .int who)] := hl
  refine lv_iconst (v := 0) hx hb d_X1_turnsAny_0 (by decide) ?_
  refine lv_istore hx hb d_X1_turnsAny_1 hl (by decide) rfl (fun ls hl => ?_)
  have hl : lv_has ls 6 [(4, .int 0), (0, .ref o), (1, .int (nI L)), (2, .int (nI s0)), (3, .int who)] := hl
  refine lv_iconst (v := 0) hx hb d_X1_turnsAny_3 (by decide) ?_
  refine lv_istore hx hb d_X1_turnsAny_4 hl (by decide) rfl (fun ls hl => ?_)
  have hl : lv_has ls 6 [(5, .int 0), (4, .int 0), (0, .ref o), (1, .int (nI L)), (2, .int (nI s0)), (3, .int who)] := hl
  have hany : td_any (td_lv ce L) who s0 = true ↔ ((td_lv ce L) s0 = 0 ∧ ∃ w0, w0 < 8 ∧ 0 < td_al (td_lv ce L) who w0 s0) := by
    simp only [td_any, Bool.and_eq_true, decide_eq_true_eq, List.any_eq_true, List.mem_range]
  have hl0 := lv_sub hl [2, 3, 4, 5, 1, 0] rfl
  refine td_loop 6 [] (fun z : Nat × Int32 => 8 - z.1) (fun z ls => (z.1 ≤ 8 ∧ ((z.2 = 0 ∧ ∀ v, v < z.1 → ¬ 0 < td_al (td_lv ce L) who v s0) ∨ (z.2 = 1 ∧ (td_lv ce L) s0 = 0 ∧ ∃ v, v < 8 ∧ 0 < td_al (td_lv ce L) who v s0))) ∧ lv_has ls 6 [(0, .ref o), (1, .int (nI L)), (2, .int (nI s0)), (3, .int who), (4, .int (z.2)), (5, .int (nI z.1))]) (fun z ls hC ih => ?_) (0, 0) ⟨⟨Nat.zero_le _, Or.inl ⟨rfl, fun v h => absurd h (Nat.not_lt_zero v)⟩⟩, hl0⟩
  clear hl hl0
  obtain ⟨hi, hl⟩ := hC
  have hl : lv_has ls 6 [(0, .ref o), (1, .int (nI L)), (2, .int (nI s0)), (3, .int who), (4, .int (z.2)), (5, .int (nI z.1))] := hl
  obtain ⟨w0, y0⟩ := z
  obtain ⟨hw8, hor⟩ := hi
  dsimp only at hw8 hor
  have hl : lv_has ls 6 [(0, .ref o), (1, .int (nI L)), (2, .int (nI s0)), (3, .int who), (4, .int y0), (5, .int (nI w0))] := hl
  refine td_joinu 57 ls [] ((td_any (td_lv ce L) who s0 = true ∧ y0 = 1) ∨ (¬ td_any (td_lv ce L) who s0 = true ∧ y0 = 0)) (fun hend => ?_) (fun J => ?_)
  · refine lv_iload hx hb d_X1_turnsAny_57 (lv_at hl 4 rfl) ?_
    rcases id hend with ⟨_, e1⟩ | ⟨_, e1⟩
    · subst e1
      exact W.zret (v := _) hx hb hr (by first | rfl | decide | assumption) (fun t ht hW => ⟨_, rfl, hend, ht⟩) (fun _ h => nomatch h) d_X1_turnsAny_59
    · subst e1
      exact W.zret (v := _) hx hb hr (by first | rfl | decide | assumption) (fun t ht hW => ⟨_, rfl, hend, ht⟩) (fun _ h => nomatch h) d_X1_turnsAny_59
  · refine lv_iload hx hb d_X1_turnsAny_6 (lv_at hl 5 rfl) ?_
    refine lv_bipush (v := 8) hx hb d_X1_turnsAny_8 (by decide) ?_
    refine lv_icmp_ge (tgt := 57) hx hb d_X1_turnsAny_10 (by decide) (fun h1 => ?_) (fun h1 => ?_)
    · have hw : w0 = 8 := Nat.le_antisymm hw8 ((nI_leI (a := 8) (b := w0) (by decide) (by omega)).mp h1)
      subst hw
      exact J (hor.elim (fun z => Or.inr ⟨fun y => by obtain ⟨_, v, hv, hp⟩ := hany.mp y; exact z.2 v hv hp, z.1⟩) (fun z => Or.inl ⟨hany.mpr z.2, z.1⟩))
    · have hw : w0 < 8 := Nat.lt_of_not_le (fun z => h1 ((nI_leI (a := 8) (b := w0) (by decide) (by omega)).mpr z))
      refine lv_aload_n hx hb d_X1_turnsAny_13 rfl (lv_at hl 0 rfl) ?_
      refine va_get (D := D) (ci := 1) (v := .ref ac) (C := RX1) (T := TX1) (N := 14) hx hb hts usX1 hown hK hP 0 rfl rfl 1 (by decide) (hts _ fl_X1_7) (fun _ h9 => h9) hfs d_X1_turnsAny_14 ?_
      refine lv_bipush (v := 64) hx hb d_X1_turnsAny_17 (by decide) ?_
      refine lv_iload_n hx hb d_X1_turnsAny_19 rfl (lv_at hl 1 rfl) ?_
      refine lv_imul hx hb d_X1_turnsAny_20 ?_
      refine lv_iload_n hx hb d_X1_turnsAny_21 rfl (lv_at hl 2 rfl) ?_
      refine lv_iadd hx hb d_X1_turnsAny_22 ?_
      refine td_i (y := (nI (64 * L + s0))) (by show nI 64 * nI L + nI s0 = _; rw [pk_mul, nI_add]) ?_
      refine va_iald hx hb hK hP 1 0 rfl rfl (vp_in_nI (show 64 * L + s0 < 1216 by omega) (by decide)) d_X1_turnsAny_23 ?_
      refine td_i (y := (td_lv ce L s0)) (by rw [nI_clamp (by omega)]; rfl) ?_
      refine lv_if_ne (tgt := 57) hx hb d_X1_turnsAny_24 (by decide) (fun h2 => ?_) (fun h2 => ?_)
      · exact J (hor.elim (fun z => Or.inr ⟨fun y => h2 (hany.mp y).1, z.1⟩) (fun z => absurd z.2.1 h2))
      · refine lv_iload hx hb d_X1_turnsAny_27 (lv_at hl 4 rfl) ?_
        refine lv_if_ne (tgt := 57) hx hb d_X1_turnsAny_29 (by decide) (fun h3 => ?_) (fun h3 => ?_)
        · exact J (hor.elim (fun z => absurd z.1 h3) (fun z => Or.inl ⟨hany.mpr z.2, z.1⟩))
        · have hall := hor.elim (fun z => z.2) (fun z => absurd (z.1.symm.trans h3) (by decide))
          refine lv_aload_n hx hb d_X1_turnsAny_32 rfl (lv_at hl 0 rfl) ?_
          refine lv_iload_n hx hb d_X1_turnsAny_33 rfl (lv_at hl 1 rfl) ?_
          refine lv_iload_n hx hb d_X1_turnsAny_34 rfl (lv_at hl 2 rfl) ?_
          refine lv_iload hx hb d_X1_turnsAny_35 (lv_at hl 5 rfl) ?_
          refine lv_iload_n hx hb d_X1_turnsAny_37 rfl (lv_at hl 3 rfl) ?_
          refine vp_callSi (W.runV (b := o) (C := RX1) (As := [.int (nI L), .int (nI s0), .int (nI w0), .int who]) (rest := []) ⟨hx, hb, hml, hown, hts⟩ (m_X1_along l D o ac cI fs hfs ce L hL s0 hs0 w0 hw who) (cwV 4 hts (tw_V ml_X1_67 im_X1_along se_X1_along in_X1 kw_X1_along) rfl rfl rfl (by decide +kernel) ⟨Nat.le_of_ble_eq_true rfl, Nat.le_of_ble_eq_true rfl⟩) ⟨fun a U g mk q => ⟨q.1, q.2.1, va_K.moved (u := U) (U := U.calling g mk a) (Vm.Alike.refl U.vm) q.2.2⟩, va_recv (q0 := 0) (ci := 1) hK hP rfl rfl, fun U hU hW => ⟨rfl, by rw [hU]; exact hP, va_K.moved hW.alike hK⟩⟩ rfl rfl hl.1 rfl (lv_room (Nat.le_of_ble_eq_true rfl)) d_X1_turnsAny_38 ⟨Nat.zero_le _, Nat.zero_le _⟩) (fun r h9 => ?_)
          subst h9
          have hn7 := td_al_le hw hs0 (td_lv ce L) who
          refine td_joini 49 ls [] (fun x => (x = 1 ∧ 0 < td_al (td_lv ce L) who w0 s0) ∨ (x = 0 ∧ ¬ 0 < td_al (td_lv ce L) who w0 s0)) (fun x ex => ?_) (fun J2 => ?_)
          · refine lv_istore hx hb d_X1_turnsAny_49 hl (by decide) rfl (fun ls hl => ?_)
            have hl : lv_has ls 6 [(4, .int x), (0, .ref o), (1, .int (nI L)), (2, .int (nI s0)), (3, .int who), (5, .int (nI w0))] := hl
            refine lv_iinc (k := 5) (v := (nI (w0 + 1))) hx hb d_X1_turnsAny_51 hl rfl ((nI_succ w0).symm) (by decide) rfl (fun ls hl => ?_)
            have hl : lv_has ls 6 [(5, .int (nI (w0 + 1))), (4, .int x), (0, .ref o), (1, .int (nI L)), (2, .int (nI s0)), (3, .int who)] := hl
            refine lv_goto (tgt := 6) hx hb d_X1_turnsAny_54 (by decide) ?_
            have hl1 := lv_sub hl [2, 3, 4, 5, 1, 0] rfl
            exact ih (w0 + 1, x) _ (by show 8 - (w0 + 1) < 8 - w0; omega) ⟨⟨hw, ex.elim (fun z => Or.inr ⟨z.1, h2, w0, hw, z.2⟩) (fun z => Or.inl ⟨z.1, fun v hv => by
              by_cases hvw : v = w0
              · rw [hvw]; exact z.2
              · exact hall v (by have : v < w0 + 1 := hv; omega)⟩)⟩, hl1⟩
          · refine lv_if_le (tgt := 48) hx hb d_X1_turnsAny_41 (by decide) (fun h4 => ?_) (fun h4 => ?_)
            · refine lv_iconst (v := 0) hx hb d_X1_turnsAny_48 (by decide) ?_
              exact J2 _ (Or.inr ⟨rfl, fun z => absurd ((nI_ltI (a := 0) (b := td_al (td_lv ce L) who w0 s0) (by omega) (by omega)).mpr z) (Int32.not_lt.mpr h4)⟩)
            · refine lv_iconst (v := 1) hx hb d_X1_turnsAny_44 (by decide) ?_
              refine lv_goto (tgt := 49) hx hb d_X1_turnsAny_45 (by decide) ?_
              exact J2 _ (Or.inl ⟨rfl, (nI_ltI (a := 0) (b := td_al (td_lv ce L) who w0 s0) (by omega) (by omega)).mp (Int32.not_le.mp h4)⟩)
set_option maxHeartbeats 4000000 in
set_option maxRecDepth 100000 in
theorem m_X1_isOver (l : Launch) (D : va_G) (o ac : Nat) (cI : ClassId) (fs : List Value) (hfs : fs[1]? = some (.ref ac)) (ce : Nat → Int32) (L : Nat) (hL : L ≤ 18) : Met l y_X1_isOver (k_X1_isOver :: tw) ({ frames := 4, cells := 0, slots := 0, locals := 103 }) (va_Pc [.ref o, .int (nI L)] (fun U => va_P D tdC [(o, .inr (1, fs)), (ac, .inl (cI, 1216, .inl ce))] U.heap ∧ va_K D tdC [(cI, .int)] U)) (vp_Si (fun x => ((td_mv (td_lv ce L) 0 = 0 ∧ td_mv (td_lv ce L) 1 = 0) ∧ x = 1) ∨ (¬ (td_mv (td_lv ce L) 0 = 0 ∧ td_mv (td_lv ce L) 1 = 0) ∧ x = 0))) 0 0 (fun _ => False) := by
  refine Met.ofW (cc := c_X1_isOver) (maxL := 2) (ret := (some .boolean)) (by decide) rfl ?_
  intro p e s m args below meth c s₁ B hml hv
  obtain ⟨rfl, hP, hK⟩ := hv
  have hx := B.exec
  have hb := B.bytes
  have hr := B.returns
  have hts : ∀ w ∈ tw, w.before _ s = true := fun w h => atoms_spec (ws := k_X1_isOver :: tw) B.pre w (List.mem_cons_of_mem _ h)
  have hown : s.vm.findClass RX1 = some m.cls := findClass_of_methodNamed B.named
  have hlocks := B.notSynchronized
  have hl := lv_entry ([.ref o, .int (nI L)]) (n := 2) (Nat.le_of_ble_eq_true rfl)
  rw [lg_entry_eq]
  generalize (lg_sl ([.ref o, .int (nI L)]) ++ List.replicate (2 - (lg_sl ([.ref o, .int (nI L)])).length) Slot.unset).toArray = ls at hl ⊢
  have hl : lv_has ls 2 [(0, .ref o), (1, .int (nI L))] := hl
  refine td_joini 23 ls [] (fun x => ((td_mv (td_lv ce L) 0 = 0 ∧ td_mv (td_lv ce L) 1 = 0) ∧ x = 1) ∨ (¬ (td_mv (td_lv ce L) 0 = 0 ∧ td_mv (td_lv ce L) 1 = 0) ∧ x = 0)) (fun x ex => ?_) (fun J => ?_)
  · rcases id ex with ⟨_, e1⟩ | ⟨_, e1⟩
    · subst e1
      exact W.zret (v := _) hx hb hr (by first | rfl | decide | assumption) (fun t ht hW => ⟨_, rfl, ex, ht⟩) (fun _ h => nomatch h) d_X1_isOver_23
    · subst e1
      exact W.zret (v := _) hx hb hr (by first | rfl | decide | assumption) (fun t ht hW => ⟨_, rfl, ex, ht⟩) (fun _ h => nomatch h) d_X1_isOver_23
  · refine lv_aload_n hx hb d_X1_isOver_0 rfl (lv_at hl 0 rfl) ?_
    refine lv_iload_n hx hb d_X1_isOver_1 rfl (lv_at hl 1 rfl) ?_
    refine lv_iconst (v := 0) hx hb d_X1_isOver_2 (by decide) ?_
    refine vp_callSi (W.runV (b := o) (C := RX1) (As := [.int (nI L), .int 0]) (rest := []) ⟨hx, hb, hml, hown, hts⟩ (m_X1_movesAt l D o ac cI fs hfs ce L hL 0) (cwV 2 hts (tw_V ml_X1_75 im_X1_movesAt se_X1_movesAt in_X1 kw_X1_movesAt) rfl rfl rfl (by decide +kernel) ⟨Nat.le_of_ble_eq_true rfl, Nat.le_of_ble_eq_true rfl⟩) ⟨fun a U g mk q => ⟨q.1, q.2.1, va_K.moved (u := U) (U := U.calling g mk a) (Vm.Alike.refl U.vm) q.2.2⟩, va_recv (q0 := 0) (ci := 1) hK hP rfl rfl, fun U hU hW => ⟨rfl, by rw [hU]; exact hP, va_K.moved hW.alike hK⟩⟩ rfl rfl hl.1 rfl (lv_room (Nat.le_of_ble_eq_true rfl)) d_X1_isOver_3 ⟨Nat.zero_le _, Nat.zero_le _⟩) (fun r h9 => ?_)
    subst h9
    refine lv_if_ne (tgt := 22) hx hb d_X1_isOver_6 (by decide) (fun h1 => ?_) (fun h1 => ?_)
    · refine lv_iconst (v := 0) hx hb d_X1_isOver_22 (by decide) ?_
      exact J _ (Or.inr ⟨fun z => h1 ((nI_eq (a := td_mv (td_lv ce L) 0) (b := 0) (Nat.lt_of_le_of_lt (td_cn_le _ 64) (by decide)) (by decide)).mpr z.1), rfl⟩)
    · refine lv_aload_n hx hb d_X1_isOver_9 rfl (lv_at hl 0 rfl) ?_
      refine lv_iload_n hx hb d_X1_isOver_10 rfl (lv_at hl 1 rfl) ?_
      refine lv_iconst (v := 1) hx hb d_X1_isOver_11 (by decide) ?_
      refine vp_callSi (W.runV (b := o) (C := RX1) (As := [.int (nI L), .int 1]) (rest := []) ⟨hx, hb, hml, hown, hts⟩ (m_X1_movesAt l D o ac cI fs hfs ce L hL 1) (cwV 2 hts (tw_V ml_X1_75 im_X1_movesAt se_X1_movesAt in_X1 kw_X1_movesAt) rfl rfl rfl (by decide +kernel) ⟨Nat.le_of_ble_eq_true rfl, Nat.le_of_ble_eq_true rfl⟩) ⟨fun a U g mk q => ⟨q.1, q.2.1, va_K.moved (u := U) (U := U.calling g mk a) (Vm.Alike.refl U.vm) q.2.2⟩, va_recv (q0 := 0) (ci := 1) hK hP rfl rfl, fun U hU hW => ⟨rfl, by rw [hU]; exact hP, va_K.moved hW.alike hK⟩⟩ rfl rfl hl.1 rfl (lv_room (Nat.le_of_ble_eq_true rfl)) d_X1_isOver_12 ⟨Nat.zero_le _, Nat.zero_le _⟩) (fun r h9 => ?_)
      subst h9
      refine lv_if_ne (tgt := 22) hx hb d_X1_isOver_15 (by decide) (fun h2 => ?_) (fun h2 => ?_)
      · refine lv_iconst (v := 0) hx hb d_X1_isOver_22 (by decide) ?_
        exact J _ (Or.inr ⟨fun z => h2 ((nI_eq (a := td_mv (td_lv ce L) 1) (b := 0) (Nat.lt_of_le_of_lt (td_cn_le _ 64) (by decide)) (by decide)).mpr z.2), rfl⟩)
      · refine lv_iconst (v := 1) hx hb d_X1_isOver_18 (by decide) ?_
        refine lv_goto (tgt := 23) hx hb d_X1_isOver_19 (by decide) ?_
        exact J _ (Or.inl ⟨⟨(nI_eq (a := td_mv (td_lv ce L) 0) (b := 0) (Nat.lt_of_le_of_lt (td_cn_le _ 64) (by decide)) (by decide)).mp h1, (nI_eq (a := td_mv (td_lv ce L) 1) (b := 0) (Nat.lt_of_le_of_lt (td_cn_le _ 64) (by decide)) (by decide)).mp h2⟩, rfl⟩)
set_option maxHeartbeats 4000000 in
set_option maxRecDepth 100000 in
theorem m_X1_empties (l : Launch) (D : va_G) (o ac : Nat) (cI : ClassId) (fs : List Value) (hfs : fs[1]? = some (.ref ac)) (ce : Nat → Int32) : Met l y_X1_empties (k_X1_empties :: tw) ({ frames := 1, cells := 0, slots := 0, locals := 24 }) (va_Pc [.ref o] (fun U => va_P D tdC [(o, .inr (1, fs)), (ac, .inl (cI, 1216, .inl ce))] U.heap ∧ va_K D tdC [(cI, .int)] U)) (vp_Si (fun x => x = 64 - nI (td_dc (td_lv ce 0) 0) - nI (td_dc (td_lv ce 0) 1))) 0 0 (fun _ => False) := by
  refine Met.ofW (cc := c_X1_empties) (maxL := 1) (ret := (some .int)) (by decide) rfl ?_
  intro p e s m args below meth c s₁ B hml hv
  obtain ⟨rfl, hP, hK⟩ := hv
  have hx := B.exec
  have hb := B.bytes
  have hr := B.returns
  have hts : ∀ w ∈ tw, w.before _ s = true := fun w h => atoms_spec (ws := k_X1_empties :: tw) B.pre w (List.mem_cons_of_mem _ h)
  have hown : s.vm.findClass RX1 = some m.cls := findClass_of_methodNamed B.named
  have hlocks := B.notSynchronized
  have hl := lv_entry ([.ref o]) (n := 1) (Nat.le_of_ble_eq_true rfl)
  rw [lg_entry_eq]
  generalize (lg_sl ([.ref o]) ++ List.replicate (1 - (lg_sl ([.ref o])).length) Slot.unset).toArray = ls at hl ⊢
  have hl : lv_has ls 1 [(0, .ref o)] := hl
  refine lv_bipush (v := 64) hx hb d_X1_empties_0 (by decide) ?_
  refine lv_aload_n hx hb d_X1_empties_2 rfl (lv_at hl 0 rfl) ?_
  refine lv_iconst (v := 0) hx hb d_X1_empties_3 (by decide) ?_
  refine lv_iconst (v := 0) hx hb d_X1_empties_4 (by decide) ?_
  refine vp_callSi (W.runV (b := o) (C := RX1) (As := [.int 0, .int 0]) (rest := [.int 64]) ⟨hx, hb, hml, hown, hts⟩ (m_X1_discsOf l D o ac cI fs hfs ce 0 (by decide) 0) (cwV 2 hts (tw_V ml_X1_93 im_X1_discsOf se_X1_discsOf in_X1 kw_X1_discsOf) rfl rfl rfl (by decide +kernel) ⟨Nat.le_of_ble_eq_true rfl, Nat.le_of_ble_eq_true rfl⟩) ⟨fun a U g mk q => ⟨q.1, q.2.1, va_K.moved (u := U) (U := U.calling g mk a) (Vm.Alike.refl U.vm) q.2.2⟩, va_recv (q0 := 0) (ci := 1) hK hP rfl rfl, fun U hU hW => ⟨rfl, by rw [hU]; exact hP, va_K.moved hW.alike hK⟩⟩ rfl rfl hl.1 rfl (lv_room (Nat.le_of_ble_eq_true rfl)) d_X1_empties_5 ⟨Nat.zero_le _, Nat.zero_le _⟩) (fun r h9 => ?_)
  subst h9
  refine lv_isub hx hb d_X1_empties_8 ?_
  refine lv_aload_n hx hb d_X1_empties_9 rfl (lv_at hl 0 rfl) ?_
  refine lv_iconst (v := 0) hx hb d_X1_empties_10 (by decide) ?_
  refine lv_iconst (v := 1) hx hb d_X1_empties_11 (by decide) ?_
  refine vp_callSi (W.runV (b := o) (C := RX1) (As := [.int 0, .int 1]) (rest := [.int (64 - (nI (td_dc (td_lv ce 0) 0)))]) ⟨hx, hb, hml, hown, hts⟩ (m_X1_discsOf l D o ac cI fs hfs ce 0 (by decide) 1) (cwV 2 hts (tw_V ml_X1_93 im_X1_discsOf se_X1_discsOf in_X1 kw_X1_discsOf) rfl rfl rfl (by decide +kernel) ⟨Nat.le_of_ble_eq_true rfl, Nat.le_of_ble_eq_true rfl⟩) ⟨fun a U g mk q => ⟨q.1, q.2.1, va_K.moved (u := U) (U := U.calling g mk a) (Vm.Alike.refl U.vm) q.2.2⟩, va_recv (q0 := 0) (ci := 1) hK hP rfl rfl, fun U hU hW => ⟨rfl, by rw [hU]; exact hP, va_K.moved hW.alike hK⟩⟩ rfl rfl hl.1 rfl (lv_room (Nat.le_of_ble_eq_true rfl)) d_X1_empties_12 ⟨Nat.zero_le _, Nat.zero_le _⟩) (fun r h9 => ?_)
  subst h9
  refine lv_isub hx hb d_X1_empties_15 ?_
  exact W.iret (v := ((64 - (nI (td_dc (td_lv ce 0) 0))) - (nI (td_dc (td_lv ce 0) 1)))) hx hb hr (fun t ht hW => ⟨_, rfl, rfl, ht⟩) (fun _ h => nomatch h) d_X1_empties_16
end
section
/-! the reference: must the mover pass, is a line full, how many spots can be moved to -/
def td_fu (g : Nat → Int32) (who : Int32) (w s : Nat) : Bool := !decide (td_ps w s (td_cnt g (who + 1) w s 8 0 + 1) < 64)
set_option maxHeartbeats 4000000 in
set_option maxRecDepth 100000 in
theorem m_X1_mustPass (l : Launch) (D : va_G) (o ac : Nat) (cI : ClassId) (fs : List Value) (hfs : fs[1]? = some (.ref ac)) (ce : Nat → Int32) (am : Nat) (hfs2 : fs[2]? = some (.ref am)) (mv : Nat → Int32) (L : Nat) (hL : L ≤ 18) : Met l y_X1_mustPass (k_X1_mustPass :: tw) ({ frames := 4, cells := 0, slots := 0, locals := 103 }) (va_Pc [.ref o, .int (nI L)] (fun U => va_P D tdC [(o, .inr (1, fs)), (ac, .inl (cI, 1216, .inl ce)), (am, .inl (cI, 19, .inl mv))] U.heap ∧ va_K D tdC [(cI, .int)] U)) (vp_Si (fun x => ((td_mv (td_lv ce L) (mv L) = 0 ∧ 0 < td_mv (td_lv ce L) (1 - mv L)) ∧ x = 1) ∨ (¬ (td_mv (td_lv ce L) (mv L) = 0 ∧ 0 < td_mv (td_lv ce L) (1 - mv L)) ∧ x = 0))) 0 0 (fun _ => False) := by
  refine Met.ofW (cc := c_X1_mustPass) (maxL := 2) (ret := (some .boolean)) (by decide) rfl ?_
  intro p e s m args below meth c s₁ B hml hv
  obtain ⟨rfl, hP, hK⟩ := hv
  have hx := B.exec
  have hb := B.bytes
  have hr := B.returns
  have hts : ∀ w ∈ tw, w.before _ s = true := fun w h => atoms_spec (ws := k_X1_mustPass :: tw) B.pre w (List.mem_cons_of_mem _ h)
  have hown : s.vm.findClass RX1 = some m.cls := findClass_of_methodNamed B.named
  have hlocks := B.notSynchronized
  have hl := lv_entry ([.ref o, .int (nI L)]) (n := 2) (Nat.le_of_ble_eq_true rfl)
  rw [lg_entry_eq]
  generalize (lg_sl ([.ref o, .int (nI L)]) ++ List.replicate (2 - (lg_sl ([.ref o, .int (nI L)])).length) Slot.unset).toArray = ls at hl ⊢
  have hl : lv_has ls 2 [(0, .ref o), (1, .int (nI L))] := hl
  have hP2 := hP.sub (ws' := [(o, .inr (1, fs)), (ac, .inl (cI, 1216, .inl ce))]) [0, 1] rfl
  refine td_joini 35 ls [] (fun x => ((td_mv (td_lv ce L) (mv L) = 0 ∧ 0 < td_mv (td_lv ce L) (1 - mv L)) ∧ x = 1) ∨ (¬ (td_mv (td_lv ce L) (mv L) = 0 ∧ 0 < td_mv (td_lv ce L) (1 - mv L)) ∧ x = 0)) (fun x ex => ?_) (fun J => ?_)
  · rcases id ex with ⟨_, e1⟩ | ⟨_, e1⟩
    · subst e1
      exact W.zret (v := _) hx hb hr (by first | rfl | decide | assumption) (fun t ht hW => ⟨_, rfl, ex, ht⟩) (fun _ h => nomatch h) d_X1_mustPass_35
    · subst e1
      exact W.zret (v := _) hx hb hr (by first | rfl | decide | assumption) (fun t ht hW => ⟨_, rfl, ex, ht⟩) (fun _ h => nomatch h) d_X1_mustPass_35
  · refine lv_aload_n hx hb d_X1_mustPass_0 rfl (lv_at hl 0 rfl) ?_
    refine lv_iload_n hx hb d_X1_mustPass_1 rfl (lv_at hl 1 rfl) ?_
    refine lv_aload_n hx hb d_X1_mustPass_2 rfl (lv_at hl 0 rfl) ?_
    refine va_get (D := D) (ci := 1) (v := .ref am) (C := RX1) (T := TX1) (N := 14) hx hb hts usX1 hown hK hP 0 rfl rfl 2 (by decide) (hts _ fl_X1_13) (fun _ h9 => h9) hfs2 d_X1_mustPass_3 ?_
    refine lv_iload_n hx hb d_X1_mustPass_6 rfl (lv_at hl 1 rfl) ?_
    refine va_iald hx hb hK hP 2 0 rfl rfl (vp_in_nI (show L < 19 by omega) (by decide)) d_X1_mustPass_7 ?_
    refine td_i (y := (mv L)) (by rw [nI_clamp (by omega)]) ?_
    refine vp_callSi (W.runV (b := o) (C := RX1) (As := [.int (nI L), .int (mv L)]) (rest := []) ⟨hx, hb, hml, hown, hts⟩ (m_X1_movesAt l D o ac cI fs hfs ce L hL (mv L)) (cwV 2 hts (tw_V ml_X1_75 im_X1_movesAt se_X1_movesAt in_X1 kw_X1_movesAt) rfl rfl rfl (by decide +kernel) ⟨Nat.le_of_ble_eq_true rfl, Nat.le_of_ble_eq_true rfl⟩) ⟨fun a U g mk q => ⟨q.1, q.2.1, va_K.moved (u := U) (U := U.calling g mk a) (Vm.Alike.refl U.vm) q.2.2⟩, va_recv (q0 := 0) (ci := 1) hK hP rfl rfl, fun U hU hW => ⟨rfl, by rw [hU]; exact hP2, va_K.moved hW.alike hK⟩⟩ rfl rfl hl.1 rfl (lv_room (Nat.le_of_ble_eq_true rfl)) d_X1_mustPass_8 ⟨Nat.zero_le _, Nat.zero_le _⟩) (fun r h9 => ?_)
    subst h9
    refine lv_if_ne (tgt := 34) hx hb d_X1_mustPass_11 (by decide) (fun h1 => ?_) (fun h1 => ?_)
    · refine lv_iconst (v := 0) hx hb d_X1_mustPass_34 (by decide) ?_
      exact J _ (Or.inr ⟨fun z => h1 ((nI_eq (a := td_mv (td_lv ce L) (mv L)) (b := 0) (Nat.lt_of_le_of_lt (td_cn_le _ 64) (by decide)) (by decide)).mpr z.1), rfl⟩)
    · refine lv_aload_n hx hb d_X1_mustPass_14 rfl (lv_at hl 0 rfl) ?_
      refine lv_iload_n hx hb d_X1_mustPass_15 rfl (lv_at hl 1 rfl) ?_
      refine lv_iconst (v := 1) hx hb d_X1_mustPass_16 (by decide) ?_
      refine lv_aload_n hx hb d_X1_mustPass_17 rfl (lv_at hl 0 rfl) ?_
      refine va_get (D := D) (ci := 1) (v := .ref am) (C := RX1) (T := TX1) (N := 14) hx hb hts usX1 hown hK hP 0 rfl rfl 2 (by decide) (hts _ fl_X1_13) (fun _ h9 => h9) hfs2 d_X1_mustPass_18 ?_
      refine lv_iload_n hx hb d_X1_mustPass_21 rfl (lv_at hl 1 rfl) ?_
      refine va_iald hx hb hK hP 2 0 rfl rfl (vp_in_nI (show L < 19 by omega) (by decide)) d_X1_mustPass_22 ?_
      refine td_i (y := (mv L)) (by rw [nI_clamp (by omega)]) ?_
      refine lv_isub hx hb d_X1_mustPass_23 ?_
      refine vp_callSi (W.runV (b := o) (C := RX1) (As := [.int (nI L), .int (1 - (mv L))]) (rest := []) ⟨hx, hb, hml, hown, hts⟩ (m_X1_movesAt l D o ac cI fs hfs ce L hL (1 - mv L)) (cwV 2 hts (tw_V ml_X1_75 im_X1_movesAt se_X1_movesAt in_X1 kw_X1_movesAt) rfl rfl rfl (by decide +kernel) ⟨Nat.le_of_ble_eq_true rfl, Nat.le_of_ble_eq_true rfl⟩) ⟨fun a U g mk q => ⟨q.1, q.2.1, va_K.moved (u := U) (U := U.calling g mk a) (Vm.Alike.refl U.vm) q.2.2⟩, va_recv (q0 := 0) (ci := 1) hK hP rfl rfl, fun U hU hW => ⟨rfl, by rw [hU]; exact hP2, va_K.moved hW.alike hK⟩⟩ rfl rfl hl.1 rfl (lv_room (Nat.le_of_ble_eq_true rfl)) d_X1_mustPass_24 ⟨Nat.zero_le _, Nat.zero_le _⟩) (fun r h9 => ?_)
      subst h9
      refine lv_if_le (tgt := 34) hx hb d_X1_mustPass_27 (by decide) (fun h2 => ?_) (fun h2 => ?_)
      · refine lv_iconst (v := 0) hx hb d_X1_mustPass_34 (by decide) ?_
        exact J _ (Or.inr ⟨fun z => absurd ((nI_ltI (a := 0) (b := td_mv (td_lv ce L) (1 - mv L)) (by decide) (Nat.lt_of_le_of_lt (td_cn_le _ 64) (by decide))).mpr z.2) (Int32.not_lt.mpr h2), rfl⟩)
      · refine lv_iconst (v := 1) hx hb d_X1_mustPass_30 (by decide) ?_
        refine lv_goto (tgt := 35) hx hb d_X1_mustPass_31 (by decide) ?_
        exact J _ (Or.inl ⟨⟨(nI_eq (a := td_mv (td_lv ce L) (mv L)) (b := 0) (Nat.lt_of_le_of_lt (td_cn_le _ 64) (by decide)) (by decide)).mp h1, (nI_ltI (a := 0) (b := td_mv (td_lv ce L) (1 - mv L)) (by decide) (Nat.lt_of_le_of_lt (td_cn_le _ 64) (by decide))).mp (Int32.not_le.mp h2)⟩, rfl⟩)
set_option maxHeartbeats 4000000 in
set_option maxRecDepth 100000 in
theorem m_X1_isFull (l : Launch) (D : va_G) (o ac : Nat) (cI : ClassId) (fs : List Value) (hfs : fs[1]? = some (.ref ac)) (ce : Nat → Int32) (s0 : Nat) (hs0 : s0 < 64) (w0 : Nat) (hw0 : w0 < 8) (who : Int32) : Met l y_X1_isFull (k_X1_isFull :: tw) ({ frames := 1, cells := 0, slots := 0, locals := 23 }) (va_Pc [.ref o, .int (nI s0), .int (nI w0), .int who] (fun U => va_P D tdC [(o, .inr (1, fs)), (ac, .inl (cI, 1216, .inl ce))] U.heap ∧ va_K D tdC [(cI, .int)] U)) (vp_Si (fun x => (td_fu (td_lv ce 0) who w0 s0 = true ∧ x = 1) ∨ (¬ td_fu (td_lv ce 0) who w0 s0 = true ∧ x = 0))) 0 0 (fun _ => False) := by
  refine Met.ofW (cc := c_X1_isFull) (maxL := 6) (ret := (some .boolean)) (by decide) rfl ?_
  intro p e s m args below meth c s₁ B hml hv
  obtain ⟨rfl, hP, hK⟩ := hv
  have hx := B.exec
  have hb := B.bytes
  have hr := B.returns
  have hts : ∀ w ∈ tw, w.before _ s = true := fun w h => atoms_spec (ws := k_X1_isFull :: tw) B.pre w (List.mem_cons_of_mem _ h)
  have hown : s.vm.findClass RX1 = some m.cls := findClass_of_methodNamed B.named
  have hlocks := B.notSynchronized
  have hl := lv_entry ([.ref o, .int (nI s0), .int (nI w0), .int who]) (n := 6) (Nat.le_of_ble_eq_true rfl)
  rw [lg_entry_eq]
  generalize (lg_sl ([.ref o, .int (nI s0), .int (nI w0), .int who]) ++ List.replicate (6 - (lg_sl ([.ref o, .int (nI s0), .int (nI w0), .int who])).length) Slot.unset).toArray = ls at hl ⊢
  have hl : lv_has ls 6 [(0, .ref o), (1, .int (nI s0)), (2, .int (nI w0)), (3, .int who)] := hl
  refine lv_iload_n hx hb d_X1_isFull_0 rfl (lv_at hl 1 rfl) ?_
  refine lv_bipush (v := 8) hx hb d_X1_isFull_1 (by decide) ?_
  refine lv_idiv hx hb d_X1_isFull_3 (by decide) ?_
  refine lv_iload_n hx hb d_X1_isFull_4 rfl (lv_at hl 2 rfl) ?_
  refine vp_callSi (W.runS (As := [.int (nI w0)]) (rest := [.int ((nI s0) / 8)]) ⟨hx, hb, hml, hown, hts⟩ (m_X1_rowWay l (nI w0)) (va_cwS 1 hts (tw_S ml_X1_52 st_X1_rowWay in_X1 kw_X1_rowWay) rfl rfl rfl (by decide +kernel) ⟨Nat.le_of_ble_eq_true rfl, Nat.le_of_ble_eq_true rfl⟩) ⟨fun _ _ _ _ q => q, fun U hU hW => ⟨rfl, trivial⟩⟩ rfl rfl hl.1 rfl (lv_room (Nat.le_of_ble_eq_true rfl)) d_X1_isFull_5 ⟨Nat.zero_le _, Nat.zero_le _⟩) (fun r hq => ?_)
  subst hq
  refine lv_iadd hx hb d_X1_isFull_8 ?_
  refine td_i (y := (td_r w0 s0 1)) (rfl) ?_
  refine lv_istore hx hb d_X1_isFull_9 hl (by decide) rfl (fun ls hl => ?_)
  have hl : lv_has ls 6 [(4, .int (td_r w0 s0 1)), (0, .ref o), (1, .int (nI s0)), (2, .int (nI w0)), (3, .int who)] := hl
  refine lv_iload_n hx hb d_X1_isFull_11 rfl (lv_at hl 2 rfl) ?_
  refine lv_bipush (v := 8) hx hb d_X1_isFull_12 (by decide) ?_
  refine lv_irem hx hb d_X1_isFull_14 (by decide) ?_
  refine lv_iload_n hx hb d_X1_isFull_15 rfl (lv_at hl 3 rfl) ?_
  refine vp_callSi (W.runS (As := [.int (nI w0)]) (rest := [.int ((nI s0) - (nI s0) / 8 * 8)]) ⟨hx, hb, hml, hown, hts⟩ (m_X1_columnWay l (nI w0)) (va_cwS 1 hts (tw_S ml_X1_56 st_X1_columnWay in_X1 kw_X1_columnWay) rfl rfl rfl (by decide +kernel) ⟨Nat.le_of_ble_eq_true rfl, Nat.le_of_ble_eq_true rfl⟩) ⟨fun _ _ _ _ q => q, fun U hU hW => ⟨rfl, trivial⟩⟩ rfl rfl hl.1 rfl (lv_room (Nat.le_of_ble_eq_true rfl)) d_X1_isFull_16 ⟨Nat.zero_le _, Nat.zero_le _⟩) (fun r hq => ?_)
  subst hq
  refine lv_iadd hx hb d_X1_isFull_19 ?_
  refine td_i (y := (td_c w0 s0 1)) (rfl) ?_
  refine lv_istore hx hb d_X1_isFull_20 hl (by decide) rfl (fun ls hl => ?_)
  have hl : lv_has ls 6 [(5, .int (td_c w0 s0 1)), (4, .int (td_r w0 s0 1)), (0, .ref o), (1, .int (nI s0)), (2, .int (nI w0)), (3, .int who)] := hl
  generalize hN : td_cnt (td_lv ce 0) (who + 1) w0 s0 8 0 = N
  have hfu : td_fu (td_lv ce 0) who w0 s0 = true ↔ ¬ td_ps w0 s0 (N + 1) < 64 := by unfold td_fu; rw [hN]; simp only [Bool.not_eq_true', decide_eq_false_iff_not]
  have hl0 := lv_sub hl [2, 4, 5, 1, 0] rfl
  refine td_loop 22 [] (fun j : Nat => 8 - j) (fun j ls => (j ≤ 7 ∧ td_cnt (td_lv ce 0) (who + 1) w0 s0 (8 - j) j = N) ∧ lv_has ls 6 [(0, .ref o), (2, .int (nI w0)), (3, .int who), (4, .int (td_r w0 s0 (j + 1))), (5, .int (td_c w0 s0 (j + 1)))]) (fun j ls hC ih => ?_) 0 ⟨⟨Nat.zero_le _, hN⟩, hl0⟩
  clear hl hl0
  obtain ⟨hi, hl⟩ := hC
  have hl : lv_has ls 6 [(0, .ref o), (2, .int (nI w0)), (3, .int who), (4, .int (td_r w0 s0 (j + 1))), (5, .int (td_c w0 s0 (j + 1)))] := hl
  obtain ⟨hj, hcn⟩ := hi
  have hst : 8 - j = (8 - (j + 1)) + 1 := by omega
  rw [hst] at hcn
  unfold td_cnt at hcn
  have hgeo := td_ps_on (w := w0) (s := s0) (j := j + 1) hw0 hs0 (by omega)
  refine td_joinu 68 ls [] (j = N) (fun hend => ?_) (fun J => ?_)
  · subst hend
    refine lv_iload hx hb d_X1_isFull_68 (lv_at hl 3 rfl) ?_
    refine lv_iload hx hb d_X1_isFull_70 (lv_at hl 4 rfl) ?_
    refine vp_callSi (W.runS (As := [.int (td_r w0 s0 (j + 1)), .int (td_c w0 s0 (j + 1))]) (rest := []) ⟨hx, hb, hml, hown, hts⟩ (m_X1_isOn l (td_r w0 s0 (j + 1)) (td_c w0 s0 (j + 1))) (va_cwS 2 hts (tw_S ml_X1_59 st_X1_isOn in_X1 kw_X1_isOn) rfl rfl rfl (by decide +kernel) ⟨Nat.le_of_ble_eq_true rfl, Nat.le_of_ble_eq_true rfl⟩) ⟨fun _ _ _ _ q => q, fun U hU hW => ⟨rfl, trivial⟩⟩ rfl rfl hl.1 rfl (lv_room (Nat.le_of_ble_eq_true rfl)) d_X1_isFull_72 ⟨Nat.zero_le _, Nat.zero_le _⟩) (fun r hq => ?_)
    refine td_joini 83 ls [] (fun x => (td_fu (td_lv ce 0) who w0 s0 = true ∧ x = 1) ∨ (¬ td_fu (td_lv ce 0) who w0 s0 = true ∧ x = 0)) (fun x ex => ?_) (fun J2 => ?_)
    · rcases id ex with ⟨_, e1⟩ | ⟨_, e1⟩
      · subst e1
        exact W.zret (v := _) hx hb hr (by first | rfl | decide | assumption) (fun t ht hW => ⟨_, rfl, ex, ht⟩) (fun _ h => nomatch h) d_X1_isFull_83
      · subst e1
        exact W.zret (v := _) hx hb hr (by first | rfl | decide | assumption) (fun t ht hW => ⟨_, rfl, ex, ht⟩) (fun _ h => nomatch h) d_X1_isFull_83
    · refine lv_if_ne (tgt := 82) hx hb d_X1_isFull_75 (by decide) (fun h1 => ?_) (fun h1 => ?_)
      · refine lv_iconst (v := 0) hx hb d_X1_isFull_82 (by decide) ?_
        exact J2 _ (Or.inr ⟨fun z => hq.elim (fun y => hfu.mp z (hgeo.mp y.1)) (fun y => h1 y.2), rfl⟩)
      · refine lv_iconst (v := 1) hx hb d_X1_isFull_78 (by decide) ?_
        refine lv_goto (tgt := 83) hx hb d_X1_isFull_79 (by decide) ?_
        exact J2 _ (Or.inl ⟨hfu.mpr (fun z => hq.elim (fun y => absurd (y.2.symm.trans h1) (by decide)) (fun y => y.1 (hgeo.mpr z))), rfl⟩)
  · refine lv_iload hx hb d_X1_isFull_22 (lv_at hl 3 rfl) ?_
    refine lv_iload hx hb d_X1_isFull_24 (lv_at hl 4 rfl) ?_
    refine vp_callSi (W.runS (As := [.int (td_r w0 s0 (j + 1)), .int (td_c w0 s0 (j + 1))]) (rest := []) ⟨hx, hb, hml, hown, hts⟩ (m_X1_isOn l (td_r w0 s0 (j + 1)) (td_c w0 s0 (j + 1))) (va_cwS 2 hts (tw_S ml_X1_59 st_X1_isOn in_X1 kw_X1_isOn) rfl rfl rfl (by decide +kernel) ⟨Nat.le_of_ble_eq_true rfl, Nat.le_of_ble_eq_true rfl⟩) ⟨fun _ _ _ _ q => q, fun U hU hW => ⟨rfl, trivial⟩⟩ rfl rfl hl.1 rfl (lv_room (Nat.le_of_ble_eq_true rfl)) d_X1_isFull_26 ⟨Nat.zero_le _, Nat.zero_le _⟩) (fun r hq => ?_)
    refine lv_if_eq (tgt := 68) hx hb d_X1_isFull_29 (by decide) (fun h1 => ?_) (fun h1 => ?_)
    · have hno : ¬ td_ps w0 s0 (j + 1) < 64 := fun z => hq.elim (fun y => absurd (y.2.symm.trans h1) (by decide)) (fun y => y.1 (hgeo.mpr z))
      rw [if_neg (fun z => hno z.1)] at hcn
      exact J hcn
    · have hon := hq.elim (fun y => y.1) (fun y => absurd y.2 h1)
      obtain ⟨g1, g2, g3, g4⟩ := td_geo hw0 hs0 (by omega) hon
      refine lv_aload_n hx hb d_X1_isFull_32 rfl (lv_at hl 0 rfl) ?_
      refine lv_iconst (v := 0) hx hb d_X1_isFull_33 (by decide) ?_
      refine lv_iload hx hb d_X1_isFull_34 (lv_at hl 3 rfl) ?_
      refine lv_iload hx hb d_X1_isFull_36 (lv_at hl 4 rfl) ?_
      refine vp_callSi (W.runV (b := o) (C := RX1) (As := [.int 0, .int (td_r w0 s0 (j + 1)), .int (td_c w0 s0 (j + 1))]) (rest := []) ⟨hx, hb, hml, hown, hts⟩ (m_X1_cellOf l D o ac cI fs hfs ce 0 (by decide) _ _ (td_ps w0 s0 (j + 1) / 8) (td_ps w0 s0 (j + 1) % 8) (by omega) (by omega) g2 g3) (cwV 3 hts (tw_V ml_X1_63 im_X1_cellOf se_X1_cellOf in_X1 kw_X1_cellOf) rfl rfl rfl (by decide +kernel) ⟨Nat.le_of_ble_eq_true rfl, Nat.le_of_ble_eq_true rfl⟩) ⟨fun a U g mk q => ⟨q.1, q.2.1, va_K.moved (u := U) (U := U.calling g mk a) (Vm.Alike.refl U.vm) q.2.2⟩, va_recv (q0 := 0) (ci := 1) hK hP rfl rfl, fun U hU hW => ⟨rfl, by rw [hU]; exact hP, va_K.moved hW.alike hK⟩⟩ rfl rfl hl.1 rfl (lv_room (Nat.le_of_ble_eq_true rfl)) d_X1_isFull_38 ⟨Nat.zero_le _, Nat.zero_le _⟩) (fun r h9 => ?_)
      subst h9
      refine td_i (y := (td_lv ce 0 (td_ps w0 s0 (j + 1)))) (by rw [Nat.div_add_mod]; rfl) ?_
      refine lv_iload_n hx hb d_X1_isFull_41 rfl (lv_at hl 2 rfl) ?_
      refine lv_iconst (v := 1) hx hb d_X1_isFull_42 (by decide) ?_
      refine lv_iadd hx hb d_X1_isFull_43 ?_
      refine lv_icmp_ne (tgt := 68) hx hb d_X1_isFull_44 (by decide) (fun h2 => ?_) (fun h2 => ?_)
      · rw [if_neg (fun z => h2 z.2)] at hcn
        exact J hcn
      · rw [if_pos ⟨g1, h2⟩] at hcn
        have hj7 : j + 1 ≤ 7 := by
          by_cases hj8 : j = 7
          · rw [hj8, td_ps8 hw0 hs0] at g1; omega
          · omega
        refine lv_iload hx hb d_X1_isFull_47 (lv_at hl 3 rfl) ?_
        refine lv_iload_n hx hb d_X1_isFull_49 rfl (lv_at hl 1 rfl) ?_
        refine vp_callSi (W.runS (As := [.int (nI w0)]) (rest := [.int (td_r w0 s0 (j + 1))]) ⟨hx, hb, hml, hown, hts⟩ (m_X1_rowWay l (nI w0)) (va_cwS 1 hts (tw_S ml_X1_52 st_X1_rowWay in_X1 kw_X1_rowWay) rfl rfl rfl (by decide +kernel) ⟨Nat.le_of_ble_eq_true rfl, Nat.le_of_ble_eq_true rfl⟩) ⟨fun _ _ _ _ q => q, fun U hU hW => ⟨rfl, trivial⟩⟩ rfl rfl hl.1 rfl (lv_room (Nat.le_of_ble_eq_true rfl)) d_X1_isFull_50 ⟨Nat.zero_le _, Nat.zero_le _⟩) (fun r h9 => ?_)
        subst h9
        refine lv_iadd hx hb d_X1_isFull_53 ?_
        refine td_i (y := (td_r w0 s0 (j + 1 + 1))) (rfl) ?_
        refine lv_istore hx hb d_X1_isFull_54 hl (by decide) rfl (fun ls hl => ?_)
        have hl : lv_has ls 6 [(4, .int (td_r w0 s0 (j + 1 + 1))), (0, .ref o), (2, .int (nI w0)), (3, .int who), (5, .int (td_c w0 s0 (j + 1)))] := hl
        refine lv_iload hx hb d_X1_isFull_56 (lv_at hl 4 rfl) ?_
        refine lv_iload_n hx hb d_X1_isFull_58 rfl (lv_at hl 2 rfl) ?_
        refine vp_callSi (W.runS (As := [.int (nI w0)]) (rest := [.int (td_c w0 s0 (j + 1))]) ⟨hx, hb, hml, hown, hts⟩ (m_X1_columnWay l (nI w0)) (va_cwS 1 hts (tw_S ml_X1_56 st_X1_columnWay in_X1 kw_X1_columnWay) rfl rfl rfl (by decide +kernel) ⟨Nat.le_of_ble_eq_true rfl, Nat.le_of_ble_eq_true rfl⟩) ⟨fun _ _ _ _ q => q, fun U hU hW => ⟨rfl, trivial⟩⟩ rfl rfl hl.1 rfl (lv_room (Nat.le_of_ble_eq_true rfl)) d_X1_isFull_59 ⟨Nat.zero_le _, Nat.zero_le _⟩) (fun r h9 => ?_)
        subst h9
        refine lv_iadd hx hb d_X1_isFull_62 ?_
        refine td_i (y := (td_c w0 s0 (j + 1 + 1))) (rfl) ?_
        refine lv_istore hx hb d_X1_isFull_63 hl (by decide) rfl (fun ls hl => ?_)
        have hl : lv_has ls 6 [(5, .int (td_c w0 s0 (j + 1 + 1))), (4, .int (td_r w0 s0 (j + 1 + 1))), (0, .ref o), (2, .int (nI w0)), (3, .int who)] := hl
        refine lv_goto (tgt := 22) hx hb d_X1_isFull_65 (by decide) ?_
        have hl1 := lv_sub hl [2, 3, 4, 1, 0] rfl
        exact ih (j + 1) _ (by omega) ⟨⟨hj7, hcn⟩, hl1⟩
set_option maxHeartbeats 4000000 in
set_option maxRecDepth 100000 in
theorem m_X1_movable (l : Launch) (D : va_G) (o ac : Nat) (cI : ClassId) (fs : List Value) (hfs : fs[1]? = some (.ref ac)) (ce : Nat → Int32) (as_ : Nat) (hfs11 : fs[11]? = some (.ref as_)) (n0 : Nat) (hfs12 : fs[12]? = some (.int (nI n0))) (hn0 : n0 ≤ 64) (sp : Nat → Int32) (sn : Nat → Nat) (hsp : ∀ i, i < n0 → sn i < 64 ∧ sp i = nI (sn i)) (L : Nat) (hL : L ≤ 18) (who most : Int32) : Met l y_X1_movable (k_X1_movable :: tw) ({ frames := 3, cells := 0, slots := 0, locals := 75 }) (va_Pc [.ref o, .int (nI L), .int who, .int most] (fun U => va_P D tdC [(o, .inr (1, fs)), (ac, .inl (cI, 1216, .inl ce)), (as_, .inl (cI, 64, .inl sp))] U.heap ∧ va_K D tdC [(cI, .int)] U)) (vp_Si (fun x => x = nI (td_cap (fun i => td_any (td_lv ce L) who (sn i)) most n0 0 0))) 0 0 (fun _ => False) := by
  refine Met.ofW (cc := c_X1_movable) (maxL := 6) (ret := (some .int)) (by decide) rfl ?_
  intro p e s m args below meth c s₁ B hml hv
  obtain ⟨rfl, hP, hK⟩ := hv
  have hx := B.exec
  have hb := B.bytes
  have hr := B.returns
  have hts : ∀ w ∈ tw, w.before _ s = true := fun w h => atoms_spec (ws := k_X1_movable :: tw) B.pre w (List.mem_cons_of_mem _ h)
  have hown : s.vm.findClass RX1 = some m.cls := findClass_of_methodNamed B.named
  have hlocks := B.notSynchronized
  have hl := lv_entry ([.ref o, .int (nI L), .int who, .int most]) (n := 6) (Nat.le_of_ble_eq_true rfl)
  rw [lg_entry_eq]
  generalize (lg_sl ([.ref o, .int (nI L), .int who, .int most]) ++ List.replicate (6 - (lg_sl ([.ref o, .int (nI L), .int who, .int most])).length) Slot.unset).toArray = ls at hl ⊢
  have hl : lv_has ls 6 [(0, .ref o), (1, .int (nI L)), (2, .int who), (3, .int most)] := hl
  have hP2 := hP.sub (ws' := [(o, .inr (1, fs)), (ac, .inl (cI, 1216, .inl ce))]) [0, 1] rfl
  refine lv_iconst (v := 0) hx hb d_X1_movable_0 (by decide) ?_
  refine lv_istore hx hb d_X1_movable_1 hl (by decide) rfl (fun ls hl => ?_)
  have hl : lv_has ls 6 [(4, .int 0), (0, .ref o), (1, .int (nI L)), (2, .int who), (3, .int most)] := hl
  refine lv_iconst (v := 0) hx hb d_X1_movable_3 (by decide) ?_
  refine lv_istore hx hb d_X1_movable_4 hl (by decide) rfl (fun ls hl => ?_)
  have hl : lv_has ls 6 [(5, .int 0), (4, .int 0), (0, .ref o), (1, .int (nI L)), (2, .int who), (3, .int most)] := hl
  generalize hR : td_cap (fun i => td_any (td_lv ce L) who (sn i)) most n0 0 0 = RES
  have hl0 := lv_sub hl [2, 3, 4, 5, 1, 0] rfl
  refine td_loop 6 [] (fun z : Nat × Nat => n0 - z.1) (fun z ls => (z.1 ≤ n0 ∧ z.2 ≤ z.1 ∧ td_cap (fun i => td_any (td_lv ce L) who (sn i)) most (n0 - z.1) z.1 z.2 = RES) ∧ lv_has ls 6 [(0, .ref o), (1, .int (nI L)), (2, .int who), (3, .int most), (4, .int (nI z.2)), (5, .int (nI z.1))]) (fun z ls hC ih => ?_) (0, 0) ⟨⟨Nat.zero_le _, Nat.le_refl _, hR⟩, hl0⟩
  clear hl hl0
  obtain ⟨hi, hl⟩ := hC
  have hl : lv_has ls 6 [(0, .ref o), (1, .int (nI L)), (2, .int who), (3, .int most), (4, .int (nI z.2)), (5, .int (nI z.1))] := hl
  obtain ⟨i, n⟩ := z
  obtain ⟨hin, hni, hcap⟩ := hi
  dsimp only at hin hni hcap
  have hl : lv_has ls 6 [(0, .ref o), (1, .int (nI L)), (2, .int who), (3, .int most), (4, .int (nI n)), (5, .int (nI i))] := hl
  refine td_joinu 54 ls [] (n = RES) (fun hend => ?_) (fun J => ?_)
  · refine lv_iload hx hb d_X1_movable_54 (lv_at hl 4 rfl) ?_
    exact W.iret (v := (nI n)) hx hb hr (fun t ht hW => ⟨_, rfl, by rw [hend], ht⟩) (fun _ h => nomatch h) d_X1_movable_56
  · refine lv_iload hx hb d_X1_movable_6 (lv_at hl 5 rfl) ?_
    refine lv_aload_n hx hb d_X1_movable_8 rfl (lv_at hl 0 rfl) ?_
    refine va_get (D := D) (ci := 1) (v := .int (nI n0)) (C := RX1) (T := TX1) (N := 14) hx hb hts usX1 hown hK hP 0 rfl rfl 12 (by decide) (hts _ fl_X1_96) (fun _ h9 => h9) hfs12 d_X1_movable_9 ?_
    refine lv_icmp_ge (tgt := 54) hx hb d_X1_movable_12 (by decide) (fun h1 => ?_) (fun h1 => ?_)
    · have hiN : i = n0 := Nat.le_antisymm hin ((nI_leI (by omega) (by omega)).mp h1)
      rw [hiN, Nat.sub_self] at hcap
      exact J hcap
    · have hiN : i < n0 := Nat.lt_of_not_le (fun z => h1 ((nI_leI (by omega) (by omega)).mpr z))
      have hst : n0 - i = (n0 - (i + 1)) + 1 := by omega
      rw [hst] at hcap
      unfold td_cap at hcap
      obtain ⟨hs1, hs2⟩ := hsp i hiN
      refine lv_iload hx hb d_X1_movable_15 (lv_at hl 4 rfl) ?_
      refine lv_iload_n hx hb d_X1_movable_17 rfl (lv_at hl 3 rfl) ?_
      refine lv_icmp_ge (tgt := 54) hx hb d_X1_movable_18 (by decide) (fun h2 => ?_) (fun h2 => ?_)
      · rw [if_neg (Int32.not_lt.mpr h2)] at hcap
        exact J hcap
      · rw [if_pos (Int32.not_le.mp h2)] at hcap
        refine lv_aload_n hx hb d_X1_movable_21 rfl (lv_at hl 0 rfl) ?_
        refine lv_iload_n hx hb d_X1_movable_22 rfl (lv_at hl 1 rfl) ?_
        refine lv_aload_n hx hb d_X1_movable_23 rfl (lv_at hl 0 rfl) ?_
        refine va_get (D := D) (ci := 1) (v := .ref as_) (C := RX1) (T := TX1) (N := 14) hx hb hts usX1 hown hK hP 0 rfl rfl 11 (by decide) (hts _ fl_X1_36) (fun _ h9 => h9) hfs11 d_X1_movable_24 ?_
        refine lv_iload hx hb d_X1_movable_27 (lv_at hl 5 rfl) ?_
        refine va_iald hx hb hK hP 2 0 rfl rfl (vp_in_nI (show i < 64 by omega) (by decide)) d_X1_movable_29 ?_
        refine td_i (y := (nI (sn i))) (by rw [nI_clamp (by omega)]; exact hs2) ?_
        refine lv_iload_n hx hb d_X1_movable_30 rfl (lv_at hl 2 rfl) ?_
        refine vp_callSi (W.runV (b := o) (C := RX1) (As := [.int (nI L), .int (nI (sn i)), .int who]) (rest := []) ⟨hx, hb, hml, hown, hts⟩ (m_X1_turnsAny l D o ac cI fs hfs ce L hL (sn i) hs1 who) (cwV 3 hts (tw_V ml_X1_99 im_X1_turnsAny se_X1_turnsAny in_X1 kw_X1_turnsAny) rfl rfl rfl (by decide +kernel) ⟨Nat.le_of_ble_eq_true rfl, Nat.le_of_ble_eq_true rfl⟩) ⟨fun a U g mk q => ⟨q.1, q.2.1, va_K.moved (u := U) (U := U.calling g mk a) (Vm.Alike.refl U.vm) q.2.2⟩, va_recv (q0 := 0) (ci := 1) hK hP rfl rfl, fun U hU hW => ⟨rfl, by rw [hU]; exact hP2, va_K.moved hW.alike hK⟩⟩ rfl rfl hl.1 rfl (lv_room (Nat.le_of_ble_eq_true rfl)) d_X1_movable_31 ⟨Nat.zero_le _, Nat.zero_le _⟩) (fun r hq => ?_)
        refine td_joini 46 ls [] (fun x => x = nI (n + (if td_any (td_lv ce L) who (sn i) then 1 else 0))) (fun x ex => ?_) (fun J2 => ?_)
        · subst ex
          refine lv_istore hx hb d_X1_movable_46 hl (by decide) rfl (fun ls hl => ?_)
          have hl : lv_has ls 6 [(4, .int (nI (n + (if td_any (td_lv ce L) who (sn i) then 1 else 0)))), (0, .ref o), (1, .int (nI L)), (2, .int who), (3, .int most), (5, .int (nI i))] := hl
          refine lv_iinc (k := 5) (v := (nI (i + 1))) hx hb d_X1_movable_48 hl rfl ((nI_succ i).symm) (by decide) rfl (fun ls hl => ?_)
          have hl : lv_has ls 6 [(5, .int (nI (i + 1))), (4, .int (nI (n + (if td_any (td_lv ce L) who (sn i) then 1 else 0)))), (0, .ref o), (1, .int (nI L)), (2, .int who), (3, .int most)] := hl
          refine lv_goto (tgt := 6) hx hb d_X1_movable_51 (by decide) ?_
          have hl1 := lv_sub hl [2, 3, 4, 5, 1, 0] rfl
          exact ih (i + 1, n + (if td_any (td_lv ce L) who (sn i) then 1 else 0)) _ (by show n0 - (i + 1) < n0 - i; omega) ⟨⟨hiN, by show n + (if td_any (td_lv ce L) who (sn i) then 1 else 0) ≤ i + 1; by_cases hp : td_any (td_lv ce L) who (sn i) = true <;> simp [hp] <;> omega, hcap⟩, hl1⟩
        · refine lv_if_eq (tgt := 44) hx hb d_X1_movable_34 (by decide) (fun h3 => ?_) (fun h3 => ?_)
          · refine lv_iload hx hb d_X1_movable_44 (lv_at hl 4 rfl) ?_
            exact J2 _ (by rw [if_neg (hq.elim (fun y => absurd (y.2.symm.trans h3) (by decide)) (fun y => y.1)), Nat.add_zero])
          · refine lv_iload hx hb d_X1_movable_37 (lv_at hl 4 rfl) ?_
            refine lv_iconst (v := 1) hx hb d_X1_movable_39 (by decide) ?_
            refine lv_iadd hx hb d_X1_movable_40 ?_
            refine lv_goto (tgt := 46) hx hb d_X1_movable_41 (by decide) ?_
            exact J2 _ (by rw [if_pos (hq.elim (fun y => y.1) (fun y => absurd y.2 h3))]; exact (nI_succ _).symm)
end
section
/-! the reference's public readers: they write the field 'thrown' alone -/
def td_bad (q M : Int32) : Int32 := if q < 0 ∨ M < q then 1 else 0
def td_bs (P : Nat → Bool) : Nat → Int64
  | 0 => 0
  | n + 1 => if P n then td_bs P n ||| td_lshl 1 (nI n) else td_bs P n
theorem td_bs_s (P : Nat → Bool) (n : Nat) : td_bs P (n + 1) = if P n then td_bs P n ||| td_lshl 1 (nI n) else td_bs P n := rfl
set_option maxHeartbeats 4000000 in
set_option maxRecDepth 100000 in
theorem m_X1_thrown (l : Launch) (D : va_G) (o : Nat) (q : Nat → Nat) (th md ch sc : Int32) (cI : ClassId) (ce mv : Nat → Int32) : Met l y_X1_thrown (k_X1_thrown :: tw) ({ frames := 0, cells := 0, slots := 0, locals := 0 }) (va_Pc [.ref o] (fun U => va_P D tdC [(o, .inr (1, [.int th, .ref (q 1), .ref (q 2), .ref (q 3), .ref (q 4), .int md, .ref (q 6), .ref (q 7), .ref (q 8), .ref (q 9), .int ch, .ref (q 11), .int sc, .ref (q 13)]))] U.heap ∧ va_K D tdC [] U)) (vp_Si (fun r => r = th)) 0 0 (fun _ => False) := by
  refine Met.ofW (cc := c_X1_thrown) (maxL := 1) (ret := (some .int)) (by decide) rfl ?_
  intro p e s m args below meth c s₁ B hml hv
  obtain ⟨rfl, hP, hK⟩ := hv
  have hx := B.exec
  have hb := B.bytes
  have hr := B.returns
  have hts : ∀ w ∈ tw, w.before _ s = true := fun w h => atoms_spec (ws := k_X1_thrown :: tw) B.pre w (List.mem_cons_of_mem _ h)
  have hown : s.vm.findClass RX1 = some m.cls := findClass_of_methodNamed B.named
  have hlocks := B.notSynchronized
  have hl := lv_entry ([.ref o]) (n := 1) (Nat.le_of_ble_eq_true rfl)
  rw [lg_entry_eq]
  generalize (lg_sl ([.ref o]) ++ List.replicate (1 - (lg_sl ([.ref o])).length) Slot.unset).toArray = ls at hl ⊢
  have hl : lv_has ls 1 [(0, .ref o)] := hl
  refine lv_aload_n hx hb d_X1_thrown_0 rfl (lv_at hl 0 rfl) ?_
  refine va_get (D := D) (ci := 1) (v := .int th) (C := RX1) (T := TX1) (N := 14) hx hb hts usX1 hown hK hP 0 rfl rfl 0 (by decide) (hts _ fl_X1_45) (fun _ h9 => h9) rfl d_X1_thrown_1 ?_
  exact W.iret (v := th) hx hb hr (fun t ht hW => ⟨_, rfl, rfl, ht⟩) (fun _ h => nomatch h) d_X1_thrown_4
set_option maxHeartbeats 4000000 in
set_option maxRecDepth 100000 in
theorem m_X1_player (l : Launch) (D : va_G) (sz : Nat) (o : Nat) (q : Nat → Nat) (th md ch sc : Int32) (cI : ClassId) (ce mv : Nat → Int32) : Met l y_X1_player (k_X1_player :: tw) ({ frames := 0, cells := 0, slots := 0, locals := 0 }) (va_Pc [.ref o] (fun U => U.heap.size = sz ∧ va_P D tdC [(o, .inr (1, [.int th, .ref (q 1), .ref (q 2), .ref (q 3), .ref (q 4), .int md, .ref (q 6), .ref (q 7), .ref (q 8), .ref (q 9), .int ch, .ref (q 11), .int sc, .ref (q 13)])), ((q 1), .inl (cI, 1216, .inl ce)), ((q 2), .inl (cI, 19, .inl mv))] U.heap ∧ va_K D tdC [(cI, .int)] U ∧ va_D (fun _ => True) [(o, .inr (1, [.int th, .ref (q 1), .ref (q 2), .ref (q 3), .ref (q 4), .int md, .ref (q 6), .ref (q 7), .ref (q 8), .ref (q 9), .int ch, .ref (q 11), .int sc, .ref (q 13)])), ((q 1), .inl (cI, 1216, .inl ce)), ((q 2), .inl (cI, 19, .inl mv))])) (va_Qi (fun (r : Int32) (_ : Unit) => r = mv 0) (fun (_ : Unit) t => va_P D tdC [(o, .inr (1, [.int 0, .ref (q 1), .ref (q 2), .ref (q 3), .ref (q 4), .int md, .ref (q 6), .ref (q 7), .ref (q 8), .ref (q 9), .int ch, .ref (q 11), .int sc, .ref (q 13)])), ((q 1), .inl (cI, 1216, .inl ce)), ((q 2), .inl (cI, 19, .inl mv))] t.heap ∧ va_K D tdC [(cI, .int)] t ∧ va_D (va_A [(o, .inr (1, [.int th, .ref (q 1), .ref (q 2), .ref (q 3), .ref (q 4), .int md, .ref (q 6), .ref (q 7), .ref (q 8), .ref (q 9), .int ch, .ref (q 11), .int sc, .ref (q 13)])), ((q 1), .inl (cI, 1216, .inl ce)), ((q 2), .inl (cI, 19, .inl mv))] sz) [(o, .inr (1, [.int 0, .ref (q 1), .ref (q 2), .ref (q 3), .ref (q 4), .int md, .ref (q 6), .ref (q 7), .ref (q 8), .ref (q 9), .int ch, .ref (q 11), .int sc, .ref (q 13)])), ((q 1), .inl (cI, 1216, .inl ce)), ((q 2), .inl (cI, 19, .inl mv))]) (va_A [(o, .inr (1, [.int th, .ref (q 1), .ref (q 2), .ref (q 3), .ref (q 4), .int md, .ref (q 6), .ref (q 7), .ref (q 8), .ref (q 9), .int ch, .ref (q 11), .int sc, .ref (q 13)])), ((q 1), .inl (cI, 1216, .inl ce)), ((q 2), .inl (cI, 19, .inl mv))] sz)) 0 0 (va_A [(o, .inr (1, [.int th, .ref (q 1), .ref (q 2), .ref (q 3), .ref (q 4), .int md, .ref (q 6), .ref (q 7), .ref (q 8), .ref (q 9), .int ch, .ref (q 11), .int sc, .ref (q 13)])), ((q 1), .inl (cI, 1216, .inl ce)), ((q 2), .inl (cI, 19, .inl mv))] sz) := by
  refine Met.ofW (cc := c_X1_player) (maxL := 1) (ret := (some .int)) (by decide) rfl ?_
  intro p e s m args below meth c s₁ B hml hv
  obtain ⟨rfl, hsz, hP, hK, hD0⟩ := hv
  have hx := B.exec
  have hb := B.bytes
  have hr := B.returns
  have hts : ∀ w ∈ tw, w.before _ s = true := fun w h => atoms_spec (ws := k_X1_player :: tw) B.pre w (List.mem_cons_of_mem _ h)
  have hown : s.vm.findClass RX1 = some m.cls := findClass_of_methodNamed B.named
  have hlocks := B.notSynchronized
  subst hsz
  have hD := hD0.self (sz := s.heap.size)
  generalize hAe : va_A [(o, .inr (1, [.int th, .ref (q 1), .ref (q 2), .ref (q 3), .ref (q 4), .int md, .ref (q 6), .ref (q 7), .ref (q 8), .ref (q 9), .int ch, .ref (q 11), .int sc, .ref (q 13)])), ((q 1), .inl (cI, 1216, .inl ce)), ((q 2), .inl (cI, 19, .inl mv))] s.heap.size = A at hD ⊢
  have hA : ∀ q : Nat, s.heap.size ≤ q → A q := fun q h => by rw [← hAe]; exact Or.inr h
  have hS : va_S A s.heap s.heap [] := va_S.rf
  have hP : va_P D tdC [(o, .inr (1, [.int th, .ref (q 1), .ref (q 2), .ref (q 3), .ref (q 4), .int md, .ref (q 6), .ref (q 7), .ref (q 8), .ref (q 9), .int ch, .ref (q 11), .int sc, .ref (q 13)])), ((q 1), .inl (cI, 1216, .inl ce)), ((q 2), .inl (cI, 19, .inl mv))] s.heap := hP
  have hl := lv_entry ([.ref o]) (n := 1) (Nat.le_of_ble_eq_true rfl)
  rw [lg_entry_eq]
  generalize (lg_sl ([.ref o]) ++ List.replicate (1 - (lg_sl ([.ref o])).length) Slot.unset).toArray = ls at hl ⊢
  have hl : lv_has ls 1 [(0, .ref o)] := hl
  refine lv_aload_n hx hb d_X1_player_0 rfl (lv_at hl 0 rfl) ?_
  refine lv_iconst (v := 0) hx hb d_X1_player_1 (by decide) ?_
  refine va_put (D := D) (ci := 1) (v := .int 0) (ty := .int) (C := RX1) (T := TX1) (N := 14) hx hb hts usX1 tyX1 tyX1_ok nmX1 hown hK hP hD hS 0 rfl rfl 0 (by decide) (hts _ fl_X1_45) (fun _ h9 => h9) rfl (by decide +kernel) rfl rfl (Nat.le_of_ble_eq_true rfl) d_X1_player_2 (fun H locs hP hD hS => ?_)
  have hP : va_P D tdC [(o, .inr (1, [.int 0, .ref (q 1), .ref (q 2), .ref (q 3), .ref (q 4), .int md, .ref (q 6), .ref (q 7), .ref (q 8), .ref (q 9), .int ch, .ref (q 11), .int sc, .ref (q 13)])), ((q 1), .inl (cI, 1216, .inl ce)), ((q 2), .inl (cI, 19, .inl mv))] H := hP
  have hD : va_D A [(o, .inr (1, [.int 0, .ref (q 1), .ref (q 2), .ref (q 3), .ref (q 4), .int md, .ref (q 6), .ref (q 7), .ref (q 8), .ref (q 9), .int ch, .ref (q 11), .int sc, .ref (q 13)])), ((q 1), .inl (cI, 1216, .inl ce)), ((q 2), .inl (cI, 19, .inl mv))] := hD
  refine lv_aload_n hx hb d_X1_player_5 rfl (lv_at hl 0 rfl) ?_
  refine va_get (D := D) (ci := 1) (v := .ref (q 2)) (C := RX1) (T := TX1) (N := 14) hx hb hts usX1 hown hK hP 0 rfl rfl 2 (by decide) (hts _ fl_X1_13) (fun _ h9 => h9) rfl d_X1_player_6 ?_
  refine lv_iconst (v := 0) hx hb d_X1_player_9 (by decide) ?_
  refine va_iald hx hb hK hP 2 0 rfl rfl (vp_in_nI (n := 0) (by decide) (by decide)) d_X1_player_10 ?_
  refine td_i (y := (mv 0)) (rfl) ?_
  exact W.iret (v := (mv 0)) hx hb hr (fun t ht hW => ⟨⟨_, (), rfl, rfl, by rw [ht]; exact hP, va_K.moved hW.alike hK, hD⟩, hS.F ht⟩) hS.2.2 d_X1_player_11
set_option maxHeartbeats 4000000 in
set_option maxRecDepth 100000 in
theorem m_X1_made (l : Launch) (D : va_G) (sz : Nat) (o : Nat) (q : Nat → Nat) (th md ch sc : Int32) (cI : ClassId) (ce mv : Nat → Int32) : Met l y_X1_made (k_X1_made :: tw) ({ frames := 0, cells := 0, slots := 0, locals := 0 }) (va_Pc [.ref o] (fun U => U.heap.size = sz ∧ va_P D tdC [(o, .inr (1, [.int th, .ref (q 1), .ref (q 2), .ref (q 3), .ref (q 4), .int md, .ref (q 6), .ref (q 7), .ref (q 8), .ref (q 9), .int ch, .ref (q 11), .int sc, .ref (q 13)])), ((q 1), .inl (cI, 1216, .inl ce)), ((q 2), .inl (cI, 19, .inl mv))] U.heap ∧ va_K D tdC [(cI, .int)] U ∧ va_D (fun _ => True) [(o, .inr (1, [.int th, .ref (q 1), .ref (q 2), .ref (q 3), .ref (q 4), .int md, .ref (q 6), .ref (q 7), .ref (q 8), .ref (q 9), .int ch, .ref (q 11), .int sc, .ref (q 13)])), ((q 1), .inl (cI, 1216, .inl ce)), ((q 2), .inl (cI, 19, .inl mv))])) (va_Qi (fun (r : Int32) (_ : Unit) => r = md) (fun (_ : Unit) t => va_P D tdC [(o, .inr (1, [.int 0, .ref (q 1), .ref (q 2), .ref (q 3), .ref (q 4), .int md, .ref (q 6), .ref (q 7), .ref (q 8), .ref (q 9), .int ch, .ref (q 11), .int sc, .ref (q 13)])), ((q 1), .inl (cI, 1216, .inl ce)), ((q 2), .inl (cI, 19, .inl mv))] t.heap ∧ va_K D tdC [(cI, .int)] t ∧ va_D (va_A [(o, .inr (1, [.int th, .ref (q 1), .ref (q 2), .ref (q 3), .ref (q 4), .int md, .ref (q 6), .ref (q 7), .ref (q 8), .ref (q 9), .int ch, .ref (q 11), .int sc, .ref (q 13)])), ((q 1), .inl (cI, 1216, .inl ce)), ((q 2), .inl (cI, 19, .inl mv))] sz) [(o, .inr (1, [.int 0, .ref (q 1), .ref (q 2), .ref (q 3), .ref (q 4), .int md, .ref (q 6), .ref (q 7), .ref (q 8), .ref (q 9), .int ch, .ref (q 11), .int sc, .ref (q 13)])), ((q 1), .inl (cI, 1216, .inl ce)), ((q 2), .inl (cI, 19, .inl mv))]) (va_A [(o, .inr (1, [.int th, .ref (q 1), .ref (q 2), .ref (q 3), .ref (q 4), .int md, .ref (q 6), .ref (q 7), .ref (q 8), .ref (q 9), .int ch, .ref (q 11), .int sc, .ref (q 13)])), ((q 1), .inl (cI, 1216, .inl ce)), ((q 2), .inl (cI, 19, .inl mv))] sz)) 0 0 (va_A [(o, .inr (1, [.int th, .ref (q 1), .ref (q 2), .ref (q 3), .ref (q 4), .int md, .ref (q 6), .ref (q 7), .ref (q 8), .ref (q 9), .int ch, .ref (q 11), .int sc, .ref (q 13)])), ((q 1), .inl (cI, 1216, .inl ce)), ((q 2), .inl (cI, 19, .inl mv))] sz) := by
  refine Met.ofW (cc := c_X1_made) (maxL := 1) (ret := (some .int)) (by decide) rfl ?_
  intro p e s m args below meth c s₁ B hml hv
  obtain ⟨rfl, hsz, hP, hK, hD0⟩ := hv
  have hx := B.exec
  have hb := B.bytes
  have hr := B.returns
  have hts : ∀ w ∈ tw, w.before _ s = true := fun w h => atoms_spec (ws := k_X1_made :: tw) B.pre w (List.mem_cons_of_mem _ h)
  have hown : s.vm.findClass RX1 = some m.cls := findClass_of_methodNamed B.named
  have hlocks := B.notSynchronized
  subst hsz
  have hD := hD0.self (sz := s.heap.size)
  generalize hAe : va_A [(o, .inr (1, [.int th, .ref (q 1), .ref (q 2), .ref (q 3), .ref (q 4), .int md, .ref (q 6), .ref (q 7), .ref (q 8), .ref (q 9), .int ch, .ref (q 11), .int sc, .ref (q 13)])), ((q 1), .inl (cI, 1216, .inl ce)), ((q 2), .inl (cI, 19, .inl mv))] s.heap.size = A at hD ⊢
  have hA : ∀ q : Nat, s.heap.size ≤ q → A q := fun q h => by rw [← hAe]; exact Or.inr h
  have hS : va_S A s.heap s.heap [] := va_S.rf
  have hP : va_P D tdC [(o, .inr (1, [.int th, .ref (q 1), .ref (q 2), .ref (q 3), .ref (q 4), .int md, .ref (q 6), .ref (q 7), .ref (q 8), .ref (q 9), .int ch, .ref (q 11), .int sc, .ref (q 13)])), ((q 1), .inl (cI, 1216, .inl ce)), ((q 2), .inl (cI, 19, .inl mv))] s.heap := hP
  have hl := lv_entry ([.ref o]) (n := 1) (Nat.le_of_ble_eq_true rfl)
  rw [lg_entry_eq]
  generalize (lg_sl ([.ref o]) ++ List.replicate (1 - (lg_sl ([.ref o])).length) Slot.unset).toArray = ls at hl ⊢
  have hl : lv_has ls 1 [(0, .ref o)] := hl
  refine lv_aload_n hx hb d_X1_made_0 rfl (lv_at hl 0 rfl) ?_
  refine lv_iconst (v := 0) hx hb d_X1_made_1 (by decide) ?_
  refine va_put (D := D) (ci := 1) (v := .int 0) (ty := .int) (C := RX1) (T := TX1) (N := 14) hx hb hts usX1 tyX1 tyX1_ok nmX1 hown hK hP hD hS 0 rfl rfl 0 (by decide) (hts _ fl_X1_45) (fun _ h9 => h9) rfl (by decide +kernel) rfl rfl (Nat.le_of_ble_eq_true rfl) d_X1_made_2 (fun H locs hP hD hS => ?_)
  have hP : va_P D tdC [(o, .inr (1, [.int 0, .ref (q 1), .ref (q 2), .ref (q 3), .ref (q 4), .int md, .ref (q 6), .ref (q 7), .ref (q 8), .ref (q 9), .int ch, .ref (q 11), .int sc, .ref (q 13)])), ((q 1), .inl (cI, 1216, .inl ce)), ((q 2), .inl (cI, 19, .inl mv))] H := hP
  have hD : va_D A [(o, .inr (1, [.int 0, .ref (q 1), .ref (q 2), .ref (q 3), .ref (q 4), .int md, .ref (q 6), .ref (q 7), .ref (q 8), .ref (q 9), .int ch, .ref (q 11), .int sc, .ref (q 13)])), ((q 1), .inl (cI, 1216, .inl ce)), ((q 2), .inl (cI, 19, .inl mv))] := hD
  refine lv_aload_n hx hb d_X1_made_5 rfl (lv_at hl 0 rfl) ?_
  refine va_get (D := D) (ci := 1) (v := .int md) (C := RX1) (T := TX1) (N := 14) hx hb hts usX1 hown hK hP 0 rfl rfl 5 (by decide) (hts _ fl_X1_49) (fun _ h9 => h9) rfl d_X1_made_6 ?_
  exact W.iret (v := md) hx hb hr (fun t ht hW => ⟨⟨_, (), rfl, rfl, by rw [ht]; exact hP, va_K.moved hW.alike hK, hD⟩, hS.F ht⟩) hS.2.2 d_X1_made_9
set_option maxHeartbeats 4000000 in
set_option maxRecDepth 100000 in
theorem m_X1_difference (l : Launch) (D : va_G) (sz : Nat) (o : Nat) (q : Nat → Nat) (th md ch sc : Int32) (cI : ClassId) (ce mv : Nat → Int32) : Met l y_X1_difference (k_X1_difference :: tw) ({ frames := 1, cells := 0, slots := 0, locals := 24 }) (va_Pc [.ref o] (fun U => U.heap.size = sz ∧ va_P D tdC [(o, .inr (1, [.int th, .ref (q 1), .ref (q 2), .ref (q 3), .ref (q 4), .int md, .ref (q 6), .ref (q 7), .ref (q 8), .ref (q 9), .int ch, .ref (q 11), .int sc, .ref (q 13)])), ((q 1), .inl (cI, 1216, .inl ce)), ((q 2), .inl (cI, 19, .inl mv))] U.heap ∧ va_K D tdC [(cI, .int)] U ∧ va_D (fun _ => True) [(o, .inr (1, [.int th, .ref (q 1), .ref (q 2), .ref (q 3), .ref (q 4), .int md, .ref (q 6), .ref (q 7), .ref (q 8), .ref (q 9), .int ch, .ref (q 11), .int sc, .ref (q 13)])), ((q 1), .inl (cI, 1216, .inl ce)), ((q 2), .inl (cI, 19, .inl mv))])) (va_Qi (fun (r : Int32) (_ : Unit) => r = nI (td_dc (td_lv ce 0) 0) - nI (td_dc (td_lv ce 0) 1)) (fun (_ : Unit) t => va_P D tdC [(o, .inr (1, [.int 0, .ref (q 1), .ref (q 2), .ref (q 3), .ref (q 4), .int md, .ref (q 6), .ref (q 7), .ref (q 8), .ref (q 9), .int ch, .ref (q 11), .int sc, .ref (q 13)])), ((q 1), .inl (cI, 1216, .inl ce)), ((q 2), .inl (cI, 19, .inl mv))] t.heap ∧ va_K D tdC [(cI, .int)] t ∧ va_D (va_A [(o, .inr (1, [.int th, .ref (q 1), .ref (q 2), .ref (q 3), .ref (q 4), .int md, .ref (q 6), .ref (q 7), .ref (q 8), .ref (q 9), .int ch, .ref (q 11), .int sc, .ref (q 13)])), ((q 1), .inl (cI, 1216, .inl ce)), ((q 2), .inl (cI, 19, .inl mv))] sz) [(o, .inr (1, [.int 0, .ref (q 1), .ref (q 2), .ref (q 3), .ref (q 4), .int md, .ref (q 6), .ref (q 7), .ref (q 8), .ref (q 9), .int ch, .ref (q 11), .int sc, .ref (q 13)])), ((q 1), .inl (cI, 1216, .inl ce)), ((q 2), .inl (cI, 19, .inl mv))]) (va_A [(o, .inr (1, [.int th, .ref (q 1), .ref (q 2), .ref (q 3), .ref (q 4), .int md, .ref (q 6), .ref (q 7), .ref (q 8), .ref (q 9), .int ch, .ref (q 11), .int sc, .ref (q 13)])), ((q 1), .inl (cI, 1216, .inl ce)), ((q 2), .inl (cI, 19, .inl mv))] sz)) 0 0 (va_A [(o, .inr (1, [.int th, .ref (q 1), .ref (q 2), .ref (q 3), .ref (q 4), .int md, .ref (q 6), .ref (q 7), .ref (q 8), .ref (q 9), .int ch, .ref (q 11), .int sc, .ref (q 13)])), ((q 1), .inl (cI, 1216, .inl ce)), ((q 2), .inl (cI, 19, .inl mv))] sz) := by
  refine Met.ofW (cc := c_X1_difference) (maxL := 1) (ret := (some .int)) (by decide) rfl ?_
  intro p e s m args below meth c s₁ B hml hv
  obtain ⟨rfl, hsz, hP, hK, hD0⟩ := hv
  have hx := B.exec
  have hb := B.bytes
  have hr := B.returns
  have hts : ∀ w ∈ tw, w.before _ s = true := fun w h => atoms_spec (ws := k_X1_difference :: tw) B.pre w (List.mem_cons_of_mem _ h)
  have hown : s.vm.findClass RX1 = some m.cls := findClass_of_methodNamed B.named
  have hlocks := B.notSynchronized
  subst hsz
  have hD := hD0.self (sz := s.heap.size)
  generalize hAe : va_A [(o, .inr (1, [.int th, .ref (q 1), .ref (q 2), .ref (q 3), .ref (q 4), .int md, .ref (q 6), .ref (q 7), .ref (q 8), .ref (q 9), .int ch, .ref (q 11), .int sc, .ref (q 13)])), ((q 1), .inl (cI, 1216, .inl ce)), ((q 2), .inl (cI, 19, .inl mv))] s.heap.size = A at hD ⊢
  have hA : ∀ q : Nat, s.heap.size ≤ q → A q := fun q h => by rw [← hAe]; exact Or.inr h
  have hS : va_S A s.heap s.heap [] := va_S.rf
  have hP : va_P D tdC [(o, .inr (1, [.int th, .ref (q 1), .ref (q 2), .ref (q 3), .ref (q 4), .int md, .ref (q 6), .ref (q 7), .ref (q 8), .ref (q 9), .int ch, .ref (q 11), .int sc, .ref (q 13)])), ((q 1), .inl (cI, 1216, .inl ce)), ((q 2), .inl (cI, 19, .inl mv))] s.heap := hP
  have hl := lv_entry ([.ref o]) (n := 1) (Nat.le_of_ble_eq_true rfl)
  rw [lg_entry_eq]
  generalize (lg_sl ([.ref o]) ++ List.replicate (1 - (lg_sl ([.ref o])).length) Slot.unset).toArray = ls at hl ⊢
  have hl : lv_has ls 1 [(0, .ref o)] := hl
  refine lv_aload_n hx hb d_X1_difference_0 rfl (lv_at hl 0 rfl) ?_
  refine lv_iconst (v := 0) hx hb d_X1_difference_1 (by decide) ?_
  refine va_put (D := D) (ci := 1) (v := .int 0) (ty := .int) (C := RX1) (T := TX1) (N := 14) hx hb hts usX1 tyX1 tyX1_ok nmX1 hown hK hP hD hS 0 rfl rfl 0 (by decide) (hts _ fl_X1_45) (fun _ h9 => h9) rfl (by decide +kernel) rfl rfl (Nat.le_of_ble_eq_true rfl) d_X1_difference_2 (fun H locs hP hD hS => ?_)
  have hP : va_P D tdC [(o, .inr (1, [.int 0, .ref (q 1), .ref (q 2), .ref (q 3), .ref (q 4), .int md, .ref (q 6), .ref (q 7), .ref (q 8), .ref (q 9), .int ch, .ref (q 11), .int sc, .ref (q 13)])), ((q 1), .inl (cI, 1216, .inl ce)), ((q 2), .inl (cI, 19, .inl mv))] H := hP
  have hD : va_D A [(o, .inr (1, [.int 0, .ref (q 1), .ref (q 2), .ref (q 3), .ref (q 4), .int md, .ref (q 6), .ref (q 7), .ref (q 8), .ref (q 9), .int ch, .ref (q 11), .int sc, .ref (q 13)])), ((q 1), .inl (cI, 1216, .inl ce)), ((q 2), .inl (cI, 19, .inl mv))] := hD
  have hP2 := hP.sub (ws' := [(o, .inr (1, [.int 0, .ref (q 1), .ref (q 2), .ref (q 3), .ref (q 4), .int md, .ref (q 6), .ref (q 7), .ref (q 8), .ref (q 9), .int ch, .ref (q 11), .int sc, .ref (q 13)])), ((q 1), .inl (cI, 1216, .inl ce))]) [0, 1] rfl
  refine lv_aload_n hx hb d_X1_difference_5 rfl (lv_at hl 0 rfl) ?_
  refine lv_iconst (v := 0) hx hb d_X1_difference_6 (by decide) ?_
  refine lv_iconst (v := 0) hx hb d_X1_difference_7 (by decide) ?_
  refine vp_callSi (W.runV (b := o) (C := RX1) (As := [.int 0, .int 0]) (rest := []) ⟨hx, hb, hml, hown, hts⟩ (m_X1_discsOf l D o (q 1) cI [.int 0, .ref (q 1), .ref (q 2), .ref (q 3), .ref (q 4), .int md, .ref (q 6), .ref (q 7), .ref (q 8), .ref (q 9), .int ch, .ref (q 11), .int sc, .ref (q 13)] rfl ce 0 (by decide) 0) (cwV 2 hts (tw_V ml_X1_93 im_X1_discsOf se_X1_discsOf in_X1 kw_X1_discsOf) rfl rfl rfl (by decide +kernel) ⟨Nat.le_of_ble_eq_true rfl, Nat.le_of_ble_eq_true rfl⟩) ⟨fun a U g mk q => ⟨q.1, q.2.1, va_K.moved (u := U) (U := U.calling g mk a) (Vm.Alike.refl U.vm) q.2.2⟩, va_recv (q0 := 0) (ci := 1) hK hP rfl rfl, fun U hU hW => ⟨rfl, by rw [hU]; exact hP2, va_K.moved hW.alike hK⟩⟩ rfl rfl hl.1 rfl (lv_room (Nat.le_of_ble_eq_true rfl)) d_X1_difference_8 ⟨Nat.zero_le _, Nat.zero_le _⟩) (fun r h9 => ?_)
  subst h9
  refine lv_aload_n hx hb d_X1_difference_11 rfl (lv_at hl 0 rfl) ?_
  refine lv_iconst (v := 0) hx hb d_X1_difference_12 (by decide) ?_
  refine lv_iconst (v := 1) hx hb d_X1_difference_13 (by decide) ?_
  refine vp_callSi (W.runV (b := o) (C := RX1) (As := [.int 0, .int 1]) (rest := [.int (nI (td_dc (td_lv ce 0) 0))]) ⟨hx, hb, hml, hown, hts⟩ (m_X1_discsOf l D o (q 1) cI [.int 0, .ref (q 1), .ref (q 2), .ref (q 3), .ref (q 4), .int md, .ref (q 6), .ref (q 7), .ref (q 8), .ref (q 9), .int ch, .ref (q 11), .int sc, .ref (q 13)] rfl ce 0 (by decide) 1) (cwV 2 hts (tw_V ml_X1_93 im_X1_discsOf se_X1_discsOf in_X1 kw_X1_discsOf) rfl rfl rfl (by decide +kernel) ⟨Nat.le_of_ble_eq_true rfl, Nat.le_of_ble_eq_true rfl⟩) ⟨fun a U g mk q => ⟨q.1, q.2.1, va_K.moved (u := U) (U := U.calling g mk a) (Vm.Alike.refl U.vm) q.2.2⟩, va_recv (q0 := 0) (ci := 1) hK hP rfl rfl, fun U hU hW => ⟨rfl, by rw [hU]; exact hP2, va_K.moved hW.alike hK⟩⟩ rfl rfl hl.1 rfl (lv_room (Nat.le_of_ble_eq_true rfl)) d_X1_difference_14 ⟨Nat.zero_le _, Nat.zero_le _⟩) (fun r h9 => ?_)
  subst h9
  refine lv_isub hx hb d_X1_difference_17 ?_
  exact W.iret (v := ((nI (td_dc (td_lv ce 0) 0)) - (nI (td_dc (td_lv ce 0) 1)))) hx hb hr (fun t ht hW => ⟨⟨_, (), rfl, rfl, by rw [ht]; exact hP, va_K.moved hW.alike hK, hD⟩, hS.F ht⟩) hS.2.2 d_X1_difference_18
set_option maxHeartbeats 4000000 in
set_option maxRecDepth 100000 in
theorem m_X1_over (l : Launch) (D : va_G) (sz : Nat) (o : Nat) (q : Nat → Nat) (th md ch sc : Int32) (cI : ClassId) (ce mv : Nat → Int32) : Met l y_X1_over (k_X1_over :: tw) ({ frames := 5, cells := 0, slots := 0, locals := 124 }) (va_Pc [.ref o] (fun U => U.heap.size = sz ∧ va_P D tdC [(o, .inr (1, [.int th, .ref (q 1), .ref (q 2), .ref (q 3), .ref (q 4), .int md, .ref (q 6), .ref (q 7), .ref (q 8), .ref (q 9), .int ch, .ref (q 11), .int sc, .ref (q 13)])), ((q 1), .inl (cI, 1216, .inl ce)), ((q 2), .inl (cI, 19, .inl mv))] U.heap ∧ va_K D tdC [(cI, .int)] U ∧ va_D (fun _ => True) [(o, .inr (1, [.int th, .ref (q 1), .ref (q 2), .ref (q 3), .ref (q 4), .int md, .ref (q 6), .ref (q 7), .ref (q 8), .ref (q 9), .int ch, .ref (q 11), .int sc, .ref (q 13)])), ((q 1), .inl (cI, 1216, .inl ce)), ((q 2), .inl (cI, 19, .inl mv))])) (va_Qi (fun (r : Int32) (_ : Unit) => ((td_mv (td_lv ce 0) 0 = 0 ∧ td_mv (td_lv ce 0) 1 = 0) ∧ r = 1) ∨ (¬ (td_mv (td_lv ce 0) 0 = 0 ∧ td_mv (td_lv ce 0) 1 = 0) ∧ r = 0)) (fun (_ : Unit) t => va_P D tdC [(o, .inr (1, [.int 0, .ref (q 1), .ref (q 2), .ref (q 3), .ref (q 4), .int md, .ref (q 6), .ref (q 7), .ref (q 8), .ref (q 9), .int ch, .ref (q 11), .int sc, .ref (q 13)])), ((q 1), .inl (cI, 1216, .inl ce)), ((q 2), .inl (cI, 19, .inl mv))] t.heap ∧ va_K D tdC [(cI, .int)] t ∧ va_D (va_A [(o, .inr (1, [.int th, .ref (q 1), .ref (q 2), .ref (q 3), .ref (q 4), .int md, .ref (q 6), .ref (q 7), .ref (q 8), .ref (q 9), .int ch, .ref (q 11), .int sc, .ref (q 13)])), ((q 1), .inl (cI, 1216, .inl ce)), ((q 2), .inl (cI, 19, .inl mv))] sz) [(o, .inr (1, [.int 0, .ref (q 1), .ref (q 2), .ref (q 3), .ref (q 4), .int md, .ref (q 6), .ref (q 7), .ref (q 8), .ref (q 9), .int ch, .ref (q 11), .int sc, .ref (q 13)])), ((q 1), .inl (cI, 1216, .inl ce)), ((q 2), .inl (cI, 19, .inl mv))]) (va_A [(o, .inr (1, [.int th, .ref (q 1), .ref (q 2), .ref (q 3), .ref (q 4), .int md, .ref (q 6), .ref (q 7), .ref (q 8), .ref (q 9), .int ch, .ref (q 11), .int sc, .ref (q 13)])), ((q 1), .inl (cI, 1216, .inl ce)), ((q 2), .inl (cI, 19, .inl mv))] sz)) 0 0 (va_A [(o, .inr (1, [.int th, .ref (q 1), .ref (q 2), .ref (q 3), .ref (q 4), .int md, .ref (q 6), .ref (q 7), .ref (q 8), .ref (q 9), .int ch, .ref (q 11), .int sc, .ref (q 13)])), ((q 1), .inl (cI, 1216, .inl ce)), ((q 2), .inl (cI, 19, .inl mv))] sz) := by
  refine Met.ofW (cc := c_X1_over) (maxL := 1) (ret := (some .boolean)) (by decide) rfl ?_
  intro p e s m args below meth c s₁ B hml hv
  obtain ⟨rfl, hsz, hP, hK, hD0⟩ := hv
  have hx := B.exec
  have hb := B.bytes
  have hr := B.returns
  have hts : ∀ w ∈ tw, w.before _ s = true := fun w h => atoms_spec (ws := k_X1_over :: tw) B.pre w (List.mem_cons_of_mem _ h)
  have hown : s.vm.findClass RX1 = some m.cls := findClass_of_methodNamed B.named
  have hlocks := B.notSynchronized
  subst hsz
  have hD := hD0.self (sz := s.heap.size)
  generalize hAe : va_A [(o, .inr (1, [.int th, .ref (q 1), .ref (q 2), .ref (q 3), .ref (q 4), .int md, .ref (q 6), .ref (q 7), .ref (q 8), .ref (q 9), .int ch, .ref (q 11), .int sc, .ref (q 13)])), ((q 1), .inl (cI, 1216, .inl ce)), ((q 2), .inl (cI, 19, .inl mv))] s.heap.size = A at hD ⊢
  have hA : ∀ q : Nat, s.heap.size ≤ q → A q := fun q h => by rw [← hAe]; exact Or.inr h
  have hS : va_S A s.heap s.heap [] := va_S.rf
  have hP : va_P D tdC [(o, .inr (1, [.int th, .ref (q 1), .ref (q 2), .ref (q 3), .ref (q 4), .int md, .ref (q 6), .ref (q 7), .ref (q 8), .ref (q 9), .int ch, .ref (q 11), .int sc, .ref (q 13)])), ((q 1), .inl (cI, 1216, .inl ce)), ((q 2), .inl (cI, 19, .inl mv))] s.heap := hP
  have hl := lv_entry ([.ref o]) (n := 1) (Nat.le_of_ble_eq_true rfl)
  rw [lg_entry_eq]
  generalize (lg_sl ([.ref o]) ++ List.replicate (1 - (lg_sl ([.ref o])).length) Slot.unset).toArray = ls at hl ⊢
  have hl : lv_has ls 1 [(0, .ref o)] := hl
  refine lv_aload_n hx hb d_X1_over_0 rfl (lv_at hl 0 rfl) ?_
  refine lv_iconst (v := 0) hx hb d_X1_over_1 (by decide) ?_
  refine va_put (D := D) (ci := 1) (v := .int 0) (ty := .int) (C := RX1) (T := TX1) (N := 14) hx hb hts usX1 tyX1 tyX1_ok nmX1 hown hK hP hD hS 0 rfl rfl 0 (by decide) (hts _ fl_X1_45) (fun _ h9 => h9) rfl (by decide +kernel) rfl rfl (Nat.le_of_ble_eq_true rfl) d_X1_over_2 (fun H locs hP hD hS => ?_)
  have hP : va_P D tdC [(o, .inr (1, [.int 0, .ref (q 1), .ref (q 2), .ref (q 3), .ref (q 4), .int md, .ref (q 6), .ref (q 7), .ref (q 8), .ref (q 9), .int ch, .ref (q 11), .int sc, .ref (q 13)])), ((q 1), .inl (cI, 1216, .inl ce)), ((q 2), .inl (cI, 19, .inl mv))] H := hP
  have hD : va_D A [(o, .inr (1, [.int 0, .ref (q 1), .ref (q 2), .ref (q 3), .ref (q 4), .int md, .ref (q 6), .ref (q 7), .ref (q 8), .ref (q 9), .int ch, .ref (q 11), .int sc, .ref (q 13)])), ((q 1), .inl (cI, 1216, .inl ce)), ((q 2), .inl (cI, 19, .inl mv))] := hD
  have hP2 := hP.sub (ws' := [(o, .inr (1, [.int 0, .ref (q 1), .ref (q 2), .ref (q 3), .ref (q 4), .int md, .ref (q 6), .ref (q 7), .ref (q 8), .ref (q 9), .int ch, .ref (q 11), .int sc, .ref (q 13)])), ((q 1), .inl (cI, 1216, .inl ce))]) [0, 1] rfl
  refine lv_aload_n hx hb d_X1_over_5 rfl (lv_at hl 0 rfl) ?_
  refine lv_iconst (v := 0) hx hb d_X1_over_6 (by decide) ?_
  refine vp_callSi (W.runV (b := o) (C := RX1) (As := [.int 0]) (rest := []) ⟨hx, hb, hml, hown, hts⟩ (m_X1_isOver l D o (q 1) cI [.int 0, .ref (q 1), .ref (q 2), .ref (q 3), .ref (q 4), .int md, .ref (q 6), .ref (q 7), .ref (q 8), .ref (q 9), .int ch, .ref (q 11), .int sc, .ref (q 13)] rfl ce 0 (by decide)) (cwV 1 hts (tw_V ml_X1_79 im_X1_isOver se_X1_isOver in_X1 kw_X1_isOver) rfl rfl rfl (by decide +kernel) ⟨Nat.le_of_ble_eq_true rfl, Nat.le_of_ble_eq_true rfl⟩) ⟨fun a U g mk q => ⟨q.1, q.2.1, va_K.moved (u := U) (U := U.calling g mk a) (Vm.Alike.refl U.vm) q.2.2⟩, va_recv (q0 := 0) (ci := 1) hK hP rfl rfl, fun U hU hW => ⟨rfl, by rw [hU]; exact hP2, va_K.moved hW.alike hK⟩⟩ rfl rfl hl.1 rfl (lv_room (Nat.le_of_ble_eq_true rfl)) d_X1_over_7 ⟨Nat.zero_le _, Nat.zero_le _⟩) (fun r hq => ?_)
  rcases id hq with ⟨_, e1⟩ | ⟨_, e1⟩
  · subst e1
    exact W.zret (v := _) hx hb hr (by decide) (fun t ht hW => ⟨⟨_, (), rfl, hq, by rw [ht]; exact hP, va_K.moved hW.alike hK, hD⟩, hS.F ht⟩) hS.2.2 d_X1_over_10
  · subst e1
    exact W.zret (v := _) hx hb hr (by decide) (fun t ht hW => ⟨⟨_, (), rfl, hq, by rw [ht]; exact hP, va_K.moved hW.alike hK, hD⟩, hS.F ht⟩) hS.2.2 d_X1_over_10
set_option maxHeartbeats 4000000 in
set_option maxRecDepth 100000 in
theorem m_X1_turns (l : Launch) (D : va_G) (sz : Nat) (o : Nat) (q : Nat → Nat) (th md ch sc : Int32) (cI : ClassId) (ce mv : Nat → Int32) (q0 : Int32) : Met l y_X1_turns (k_X1_turns :: tw) ({ frames := 3, cells := 0, slots := 0, locals := 79 }) (va_Pc [.ref o, .int q0] (fun U => U.heap.size = sz ∧ va_P D tdC [(o, .inr (1, [.int th, .ref (q 1), .ref (q 2), .ref (q 3), .ref (q 4), .int md, .ref (q 6), .ref (q 7), .ref (q 8), .ref (q 9), .int ch, .ref (q 11), .int sc, .ref (q 13)])), ((q 1), .inl (cI, 1216, .inl ce)), ((q 2), .inl (cI, 19, .inl mv))] U.heap ∧ va_K D tdC [(cI, .int)] U ∧ va_D (fun _ => True) [(o, .inr (1, [.int th, .ref (q 1), .ref (q 2), .ref (q 3), .ref (q 4), .int md, .ref (q 6), .ref (q 7), .ref (q 8), .ref (q 9), .int ch, .ref (q 11), .int sc, .ref (q 13)])), ((q 1), .inl (cI, 1216, .inl ce)), ((q 2), .inl (cI, 19, .inl mv))])) (va_Ql (fun (r : Int64) (_ : Unit) => (td_bad q0 63 = 0 → ∃ s0 : Nat, s0 < 64 ∧ q0 = nI s0 ∧ r = td_fl (td_lv ce 0) (mv 0) s0)) (fun (_ : Unit) t => va_P D tdC [(o, .inr (1, [.int (td_bad q0 63), .ref (q 1), .ref (q 2), .ref (q 3), .ref (q 4), .int md, .ref (q 6), .ref (q 7), .ref (q 8), .ref (q 9), .int ch, .ref (q 11), .int sc, .ref (q 13)])), ((q 1), .inl (cI, 1216, .inl ce)), ((q 2), .inl (cI, 19, .inl mv))] t.heap ∧ va_K D tdC [(cI, .int)] t ∧ va_D (va_A [(o, .inr (1, [.int th, .ref (q 1), .ref (q 2), .ref (q 3), .ref (q 4), .int md, .ref (q 6), .ref (q 7), .ref (q 8), .ref (q 9), .int ch, .ref (q 11), .int sc, .ref (q 13)])), ((q 1), .inl (cI, 1216, .inl ce)), ((q 2), .inl (cI, 19, .inl mv))] sz) [(o, .inr (1, [.int (td_bad q0 63), .ref (q 1), .ref (q 2), .ref (q 3), .ref (q 4), .int md, .ref (q 6), .ref (q 7), .ref (q 8), .ref (q 9), .int ch, .ref (q 11), .int sc, .ref (q 13)])), ((q 1), .inl (cI, 1216, .inl ce)), ((q 2), .inl (cI, 19, .inl mv))]) (va_A [(o, .inr (1, [.int th, .ref (q 1), .ref (q 2), .ref (q 3), .ref (q 4), .int md, .ref (q 6), .ref (q 7), .ref (q 8), .ref (q 9), .int ch, .ref (q 11), .int sc, .ref (q 13)])), ((q 1), .inl (cI, 1216, .inl ce)), ((q 2), .inl (cI, 19, .inl mv))] sz)) 0 0 (va_A [(o, .inr (1, [.int th, .ref (q 1), .ref (q 2), .ref (q 3), .ref (q 4), .int md, .ref (q 6), .ref (q 7), .ref (q 8), .ref (q 9), .int ch, .ref (q 11), .int sc, .ref (q 13)])), ((q 1), .inl (cI, 1216, .inl ce)), ((q 2), .inl (cI, 19, .inl mv))] sz) := by
  refine Met.ofW (cc := c_X1_turns) (maxL := 2) (ret := (some .long)) (by decide) rfl ?_
  intro p e s m args below meth c s₁ B hml hv
  obtain ⟨rfl, hsz, hP, hK, hD0⟩ := hv
  have hx := B.exec
  have hb := B.bytes
  have hr := B.returns
  have hts : ∀ w ∈ tw, w.before _ s = true := fun w h => atoms_spec (ws := k_X1_turns :: tw) B.pre w (List.mem_cons_of_mem _ h)
  have hown : s.vm.findClass RX1 = some m.cls := findClass_of_methodNamed B.named
  have hlocks := B.notSynchronized
  subst hsz
  have hD := hD0.self (sz := s.heap.size)
  generalize hAe : va_A [(o, .inr (1, [.int th, .ref (q 1), .ref (q 2), .ref (q 3), .ref (q 4), .int md, .ref (q 6), .ref (q 7), .ref (q 8), .ref (q 9), .int ch, .ref (q 11), .int sc, .ref (q 13)])), ((q 1), .inl (cI, 1216, .inl ce)), ((q 2), .inl (cI, 19, .inl mv))] s.heap.size = A at hD ⊢
  have hA : ∀ q : Nat, s.heap.size ≤ q → A q := fun q h => by rw [← hAe]; exact Or.inr h
  have hS : va_S A s.heap s.heap [] := va_S.rf
  have hP : va_P D tdC [(o, .inr (1, [.int th, .ref (q 1), .ref (q 2), .ref (q 3), .ref (q 4), .int md, .ref (q 6), .ref (q 7), .ref (q 8), .ref (q 9), .int ch, .ref (q 11), .int sc, .ref (q 13)])), ((q 1), .inl (cI, 1216, .inl ce)), ((q 2), .inl (cI, 19, .inl mv))] s.heap := hP
  have hl := lv_entry ([.ref o, .int q0]) (n := 2) (Nat.le_of_ble_eq_true rfl)
  rw [lg_entry_eq]
  generalize (lg_sl ([.ref o, .int q0]) ++ List.replicate (2 - (lg_sl ([.ref o, .int q0])).length) Slot.unset).toArray = ls at hl ⊢
  have hl : lv_has ls 2 [(0, .ref o), (1, .int q0)] := hl
  refine lv_aload_n hx hb d_X1_turns_0 rfl (lv_at hl 0 rfl) ?_
  refine td_joini 16 ls [.ref o] (fun x => x = td_bad q0 63) (fun x ex => ?_) (fun J => ?_)
  · subst ex
    refine va_put (D := D) (ci := 1) (v := .int (td_bad q0 63)) (ty := .int) (C := RX1) (T := TX1) (N := 14) hx hb hts usX1 tyX1 tyX1_ok nmX1 hown hK hP hD hS 0 rfl rfl 0 (by decide) (hts _ fl_X1_45) (fun _ h9 => h9) rfl (by decide +kernel) rfl rfl (Nat.le_of_ble_eq_true rfl) d_X1_turns_16 (fun H locs hP hD hS => ?_)
    have hP : va_P D tdC [(o, .inr (1, [.int (td_bad q0 63), .ref (q 1), .ref (q 2), .ref (q 3), .ref (q 4), .int md, .ref (q 6), .ref (q 7), .ref (q 8), .ref (q 9), .int ch, .ref (q 11), .int sc, .ref (q 13)])), ((q 1), .inl (cI, 1216, .inl ce)), ((q 2), .inl (cI, 19, .inl mv))] H := hP
    have hD : va_D A [(o, .inr (1, [.int (td_bad q0 63), .ref (q 1), .ref (q 2), .ref (q 3), .ref (q 4), .int md, .ref (q 6), .ref (q 7), .ref (q 8), .ref (q 9), .int ch, .ref (q 11), .int sc, .ref (q 13)])), ((q 1), .inl (cI, 1216, .inl ce)), ((q 2), .inl (cI, 19, .inl mv))] := hD
    refine td_joinl 42 ls [] (fun x => td_bad q0 63 = 0 → ∃ s0 : Nat, s0 < 64 ∧ q0 = nI s0 ∧ x = td_fl (td_lv ce 0) (mv 0) s0) (fun x ex => ?_) (fun J => ?_)
    · exact W.lret (v := x) hx hb hr (fun t ht hW => ⟨⟨_, (), rfl, ex, by rw [ht]; exact hP, va_K.moved hW.alike hK, hD⟩, hS.F ht⟩) hS.2.2 d_X1_turns_42
    · have hP2 := hP.sub (ws' := [(o, .inr (1, [.int (td_bad q0 63), .ref (q 1), .ref (q 2), .ref (q 3), .ref (q 4), .int md, .ref (q 6), .ref (q 7), .ref (q 8), .ref (q 9), .int ch, .ref (q 11), .int sc, .ref (q 13)])), ((q 1), .inl (cI, 1216, .inl ce))]) [0, 1] rfl
      refine lv_aload_n hx hb d_X1_turns_19 rfl (lv_at hl 0 rfl) ?_
      refine va_get (D := D) (ci := 1) (v := .int (td_bad q0 63)) (C := RX1) (T := TX1) (N := 14) hx hb hts usX1 hown hK hP 0 rfl rfl 0 (by decide) (hts _ fl_X1_45) (fun _ h9 => h9) rfl d_X1_turns_20 ?_
      refine lv_if_le (tgt := 30) hx hb d_X1_turns_23 (by decide) (fun h0 => ?_) (fun h0 => ?_)
      · have hb0 : ¬ (q0 < 0 ∨ 63 < q0) := fun z => by unfold td_bad at h0; rw [if_pos z] at h0; exact absurd h0 (by decide)
        obtain ⟨s0, hs0, es0⟩ := nI_of2 (n := 63) (M := 63) rfl (fun z => hb0 (Or.inl z)) (Int32.not_lt.mp (fun z => hb0 (Or.inr z)))
        subst es0
        have hl : lv_has ls 2 [(0, .ref o), (1, .int (nI s0))] := hl
        refine lv_aload_n hx hb d_X1_turns_30 rfl (lv_at hl 0 rfl) ?_
        refine lv_iconst (v := 0) hx hb d_X1_turns_31 (by decide) ?_
        refine lv_iload_n hx hb d_X1_turns_32 rfl (lv_at hl 1 rfl) ?_
        refine lv_aload_n hx hb d_X1_turns_33 rfl (lv_at hl 0 rfl) ?_
        refine va_get (D := D) (ci := 1) (v := .ref (q 2)) (C := RX1) (T := TX1) (N := 14) hx hb hts usX1 hown hK hP 0 rfl rfl 2 (by decide) (hts _ fl_X1_13) (fun _ h9 => h9) rfl d_X1_turns_34 ?_
        refine lv_iconst (v := 0) hx hb d_X1_turns_37 (by decide) ?_
        refine va_iald hx hb hK hP 2 0 rfl rfl (vp_in_nI (n := 0) (by decide) (by decide)) d_X1_turns_38 ?_
        refine td_i (y := (mv 0)) (rfl) ?_
        refine vp_callSl (W.runV (b := o) (C := RX1) (As := [.int 0, .int (nI s0), .int (mv 0)]) (rest := []) ⟨hx, hb, hml, hown, hts⟩ (m_X1_flipsAt l D o (q 1) cI [.int (td_bad (nI s0) 63), .ref (q 1), .ref (q 2), .ref (q 3), .ref (q 4), .int md, .ref (q 6), .ref (q 7), .ref (q 8), .ref (q 9), .int ch, .ref (q 11), .int sc, .ref (q 13)] rfl ce 0 (by decide) s0 (by omega) (mv 0)) (cwV 3 hts (tw_V ml_X1_71 im_X1_flipsAt se_X1_flipsAt in_X1 kw_X1_flipsAt) rfl rfl rfl (by decide +kernel) ⟨Nat.le_of_ble_eq_true rfl, Nat.le_of_ble_eq_true rfl⟩) ⟨fun a U g mk q => ⟨q.1, q.2.1, va_K.moved (u := U) (U := U.calling g mk a) (Vm.Alike.refl U.vm) q.2.2⟩, va_recv (q0 := 0) (ci := 1) hK hP rfl rfl, fun U hU hW => ⟨rfl, by rw [hU]; exact hP2, va_K.moved hW.alike hK⟩⟩ rfl rfl hl.1 rfl (lv_room (Nat.le_of_ble_eq_true rfl)) d_X1_turns_39 ⟨Nat.zero_le _, Nat.zero_le _⟩) (fun r h9 => ?_)
        subst h9
        exact J _ (fun _ => ⟨s0, by omega, rfl, rfl⟩)
      · refine lv_lconst (v := 0) hx hb d_X1_turns_26 (by decide) ?_
        refine lv_goto (tgt := 42) hx hb d_X1_turns_27 (by decide) ?_
        exact J _ (fun z => absurd (show td_bad q0 63 ≤ 0 by rw [z]; decide) h0)
  · refine lv_iload_n hx hb d_X1_turns_1 rfl (lv_at hl 1 rfl) ?_
    refine lv_if_lt (tgt := 11) hx hb d_X1_turns_2 (by decide) (fun h0 => ?_) (fun h0 => ?_)
    · refine lv_iconst (v := 1) hx hb d_X1_turns_11 (by decide) ?_
      refine lv_goto (tgt := 16) hx hb d_X1_turns_12 (by decide) ?_
      exact J _ (by unfold td_bad; rw [if_pos (Or.inl h0)])
    · refine lv_iload_n hx hb d_X1_turns_5 rfl (lv_at hl 1 rfl) ?_
      refine lv_bipush (v := 63) hx hb d_X1_turns_6 (by decide) ?_
      refine lv_icmp_le (tgt := 15) hx hb d_X1_turns_8 (by decide) (fun h1 => ?_) (fun h1 => ?_)
      · refine lv_iconst (v := 0) hx hb d_X1_turns_15 (by decide) ?_
        exact J _ (by unfold td_bad; rw [if_neg (fun z => z.elim h0 (fun z => absurd z (Int32.not_lt.mpr h1)))])
      · refine lv_iconst (v := 1) hx hb d_X1_turns_11 (by decide) ?_
        refine lv_goto (tgt := 16) hx hb d_X1_turns_12 (by decide) ?_
        exact J _ (by unfold td_bad; rw [if_pos (Or.inr (Int32.not_le.mp h1))])
set_option maxHeartbeats 4000000 in
set_option maxRecDepth 100000 in
theorem m_X1_moves (l : Launch) (D : va_G) (sz : Nat) (o : Nat) (q : Nat → Nat) (th md ch sc : Int32) (cI : ClassId) (ce mv : Nat → Int32) : Met l y_X1_moves (k_X1_moves :: tw) ({ frames := 3, cells := 0, slots := 0, locals := 79 }) (va_Pc [.ref o] (fun U => U.heap.size = sz ∧ va_P D tdC [(o, .inr (1, [.int th, .ref (q 1), .ref (q 2), .ref (q 3), .ref (q 4), .int md, .ref (q 6), .ref (q 7), .ref (q 8), .ref (q 9), .int ch, .ref (q 11), .int sc, .ref (q 13)])), ((q 1), .inl (cI, 1216, .inl ce)), ((q 2), .inl (cI, 19, .inl mv))] U.heap ∧ va_K D tdC [(cI, .int)] U ∧ va_D (fun _ => True) [(o, .inr (1, [.int th, .ref (q 1), .ref (q 2), .ref (q 3), .ref (q 4), .int md, .ref (q 6), .ref (q 7), .ref (q 8), .ref (q 9), .int ch, .ref (q 11), .int sc, .ref (q 13)])), ((q 1), .inl (cI, 1216, .inl ce)), ((q 2), .inl (cI, 19, .inl mv))])) (va_Ql (fun (r : Int64) (_ : Unit) => r = td_bs (fun i => decide (td_fl (td_lv ce 0) (mv 0) i ≠ 0)) 64) (fun (_ : Unit) t => va_P D tdC [(o, .inr (1, [.int 0, .ref (q 1), .ref (q 2), .ref (q 3), .ref (q 4), .int md, .ref (q 6), .ref (q 7), .ref (q 8), .ref (q 9), .int ch, .ref (q 11), .int sc, .ref (q 13)])), ((q 1), .inl (cI, 1216, .inl ce)), ((q 2), .inl (cI, 19, .inl mv))] t.heap ∧ va_K D tdC [(cI, .int)] t ∧ va_D (va_A [(o, .inr (1, [.int th, .ref (q 1), .ref (q 2), .ref (q 3), .ref (q 4), .int md, .ref (q 6), .ref (q 7), .ref (q 8), .ref (q 9), .int ch, .ref (q 11), .int sc, .ref (q 13)])), ((q 1), .inl (cI, 1216, .inl ce)), ((q 2), .inl (cI, 19, .inl mv))] sz) [(o, .inr (1, [.int 0, .ref (q 1), .ref (q 2), .ref (q 3), .ref (q 4), .int md, .ref (q 6), .ref (q 7), .ref (q 8), .ref (q 9), .int ch, .ref (q 11), .int sc, .ref (q 13)])), ((q 1), .inl (cI, 1216, .inl ce)), ((q 2), .inl (cI, 19, .inl mv))]) (va_A [(o, .inr (1, [.int th, .ref (q 1), .ref (q 2), .ref (q 3), .ref (q 4), .int md, .ref (q 6), .ref (q 7), .ref (q 8), .ref (q 9), .int ch, .ref (q 11), .int sc, .ref (q 13)])), ((q 1), .inl (cI, 1216, .inl ce)), ((q 2), .inl (cI, 19, .inl mv))] sz)) 0 0 (va_A [(o, .inr (1, [.int th, .ref (q 1), .ref (q 2), .ref (q 3), .ref (q 4), .int md, .ref (q 6), .ref (q 7), .ref (q 8), .ref (q 9), .int ch, .ref (q 11), .int sc, .ref (q 13)])), ((q 1), .inl (cI, 1216, .inl ce)), ((q 2), .inl (cI, 19, .inl mv))] sz) := by
  refine Met.ofW (cc := c_X1_moves) (maxL := 4) (ret := (some .long)) (by decide) rfl ?_
  intro p e s m args below meth c s₁ B hml hv
  obtain ⟨rfl, hsz, hP, hK, hD0⟩ := hv
  have hx := B.exec
  have hb := B.bytes
  have hr := B.returns
  have hts : ∀ w ∈ tw, w.before _ s = true := fun w h => atoms_spec (ws := k_X1_moves :: tw) B.pre w (List.mem_cons_of_mem _ h)
  have hown : s.vm.findClass RX1 = some m.cls := findClass_of_methodNamed B.named
  have hlocks := B.notSynchronized
  subst hsz
  have hD := hD0.self (sz := s.heap.size)
  generalize hAe : va_A [(o, .inr (1, [.int th, .ref (q 1), .ref (q 2), .ref (q 3), .ref (q 4), .int md, .ref (q 6), .ref (q 7), .ref (q 8), .ref (q 9), .int ch, .ref (q 11), .int sc, .ref (q 13)])), ((q 1), .inl (cI, 1216, .inl ce)), ((q 2), .inl (cI, 19, .inl mv))] s.heap.size = A at hD ⊢
  have hA : ∀ q : Nat, s.heap.size ≤ q → A q := fun q h => by rw [← hAe]; exact Or.inr h
  have hS : va_S A s.heap s.heap [] := va_S.rf
  have hP : va_P D tdC [(o, .inr (1, [.int th, .ref (q 1), .ref (q 2), .ref (q 3), .ref (q 4), .int md, .ref (q 6), .ref (q 7), .ref (q 8), .ref (q 9), .int ch, .ref (q 11), .int sc, .ref (q 13)])), ((q 1), .inl (cI, 1216, .inl ce)), ((q 2), .inl (cI, 19, .inl mv))] s.heap := hP
  have hl := lv_entry ([.ref o]) (n := 4) (Nat.le_of_ble_eq_true rfl)
  rw [lg_entry_eq]
  generalize (lg_sl ([.ref o]) ++ List.replicate (4 - (lg_sl ([.ref o])).length) Slot.unset).toArray = ls at hl ⊢
  have hl : lv_has ls 4 [(0, .ref o)] := hl
  refine lv_aload_n hx hb d_X1_moves_0 rfl (lv_at hl 0 rfl) ?_
  refine lv_iconst (v := 0) hx hb d_X1_moves_1 (by decide) ?_
  refine va_put (D := D) (ci := 1) (v := .int 0) (ty := .int) (C := RX1) (T := TX1) (N := 14) hx hb hts usX1 tyX1 tyX1_ok nmX1 hown hK hP hD hS 0 rfl rfl 0 (by decide) (hts _ fl_X1_45) (fun _ h9 => h9) rfl (by decide +kernel) rfl rfl (Nat.le_of_ble_eq_true rfl) d_X1_moves_2 (fun H locs hP hD hS => ?_)
  have hP : va_P D tdC [(o, .inr (1, [.int 0, .ref (q 1), .ref (q 2), .ref (q 3), .ref (q 4), .int md, .ref (q 6), .ref (q 7), .ref (q 8), .ref (q 9), .int ch, .ref (q 11), .int sc, .ref (q 13)])), ((q 1), .inl (cI, 1216, .inl ce)), ((q 2), .inl (cI, 19, .inl mv))] H := hP
  have hD : va_D A [(o, .inr (1, [.int 0, .ref (q 1), .ref (q 2), .ref (q 3), .ref (q 4), .int md, .ref (q 6), .ref (q 7), .ref (q 8), .ref (q 9), .int ch, .ref (q 11), .int sc, .ref (q 13)])), ((q 1), .inl (cI, 1216, .inl ce)), ((q 2), .inl (cI, 19, .inl mv))] := hD
  have hP2 := hP.sub (ws' := [(o, .inr (1, [.int 0, .ref (q 1), .ref (q 2), .ref (q 3), .ref (q 4), .int md, .ref (q 6), .ref (q 7), .ref (q 8), .ref (q 9), .int ch, .ref (q 11), .int sc, .ref (q 13)])), ((q 1), .inl (cI, 1216, .inl ce))]) [0, 1] rfl
  refine lv_lconst (v := 0) hx hb d_X1_moves_5 (by decide) ?_
  refine lv_lstore_n hx hb d_X1_moves_6 rfl hl (by decide) rfl (fun ls hl => ?_)
  have hl : lv_has ls 4 [(1, .long 0), (0, .ref o)] := hl
  refine lv_iconst (v := 0) hx hb d_X1_moves_7 (by decide) ?_
  refine lv_istore_n hx hb d_X1_moves_8 rfl hl (by decide) rfl (fun ls hl => ?_)
  have hl : lv_has ls 4 [(3, .int 0), (1, .long 0), (0, .ref o)] := hl
  have hl0 := lv_sub hl [2, 1, 0] rfl
  refine td_loop 9 [] (fun i : Nat => 64 - i) (fun i ls => i ≤ 64 ∧ lv_has ls 4 [(0, .ref o), (1, .long (td_bs (fun i => decide (td_fl (td_lv ce 0) (mv 0) i ≠ 0)) i)), (3, .int (nI i))]) (fun i ls hC ih => ?_) 0 ⟨Nat.zero_le _, hl0⟩
  clear hl hl0
  obtain ⟨hi, hl⟩ := hC
  have hl : lv_has ls 4 [(0, .ref o), (1, .long (td_bs (fun i => decide (td_fl (td_lv ce 0) (mv 0) i ≠ 0)) i)), (3, .int (nI i))] := hl
  refine lv_iload_n hx hb d_X1_moves_9 rfl (lv_at hl 2 rfl) ?_
  refine lv_bipush (v := 64) hx hb d_X1_moves_10 (by decide) ?_
  refine lv_icmp_ge (tgt := 48) hx hb d_X1_moves_12 (by decide) (fun h1 => ?_) (fun h1 => ?_)
  · have h64 : i = 64 := Nat.le_antisymm hi ((nI_leI (a := 64) (b := i) (by decide) (by omega)).mp h1)
    subst h64
    refine lv_lload_n hx hb d_X1_moves_48 rfl (lv_at hl 1 rfl) ?_
    exact W.lret (v := (td_bs (fun i => decide (td_fl (td_lv ce 0) (mv 0) i ≠ 0)) 64)) hx hb hr (fun t ht hW => ⟨⟨_, (), rfl, rfl, by rw [ht]; exact hP, va_K.moved hW.alike hK, hD⟩, hS.F ht⟩) hS.2.2 d_X1_moves_49
  · have h64 : i < 64 := Nat.lt_of_not_le (fun z => h1 ((nI_leI (a := 64) (b := i) (by decide) (by omega)).mpr z))
    have hcs := td_bs_s (fun i => decide (td_fl (td_lv ce 0) (mv 0) i ≠ 0)) i
    refine lv_aload_n hx hb d_X1_moves_15 rfl (lv_at hl 0 rfl) ?_
    refine lv_iconst (v := 0) hx hb d_X1_moves_16 (by decide) ?_
    refine lv_iload_n hx hb d_X1_moves_17 rfl (lv_at hl 2 rfl) ?_
    refine lv_aload_n hx hb d_X1_moves_18 rfl (lv_at hl 0 rfl) ?_
    refine va_get (D := D) (ci := 1) (v := .ref (q 2)) (C := RX1) (T := TX1) (N := 14) hx hb hts usX1 hown hK hP 0 rfl rfl 2 (by decide) (hts _ fl_X1_13) (fun _ h9 => h9) rfl d_X1_moves_19 ?_
    refine lv_iconst (v := 0) hx hb d_X1_moves_22 (by decide) ?_
    refine va_iald hx hb hK hP 2 0 rfl rfl (vp_in_nI (n := 0) (by decide) (by decide)) d_X1_moves_23 ?_
    refine td_i (y := (mv 0)) (rfl) ?_
    refine vp_callSl (W.runV (b := o) (C := RX1) (As := [.int 0, .int (nI i), .int (mv 0)]) (rest := []) ⟨hx, hb, hml, hown, hts⟩ (m_X1_flipsAt l D o (q 1) cI [.int 0, .ref (q 1), .ref (q 2), .ref (q 3), .ref (q 4), .int md, .ref (q 6), .ref (q 7), .ref (q 8), .ref (q 9), .int ch, .ref (q 11), .int sc, .ref (q 13)] rfl ce 0 (by decide) i h64 (mv 0)) (cwV 3 hts (tw_V ml_X1_71 im_X1_flipsAt se_X1_flipsAt in_X1 kw_X1_flipsAt) rfl rfl rfl (by decide +kernel) ⟨Nat.le_of_ble_eq_true rfl, Nat.le_of_ble_eq_true rfl⟩) ⟨fun a U g mk q => ⟨q.1, q.2.1, va_K.moved (u := U) (U := U.calling g mk a) (Vm.Alike.refl U.vm) q.2.2⟩, va_recv (q0 := 0) (ci := 1) hK hP rfl rfl, fun U hU hW => ⟨rfl, by rw [hU]; exact hP2, va_K.moved hW.alike hK⟩⟩ rfl rfl hl.1 rfl (lv_room (Nat.le_of_ble_eq_true rfl)) d_X1_moves_24 ⟨Nat.zero_le _, Nat.zero_le _⟩) (fun r h9 => ?_)
    subst h9
    refine lv_lconst (v := 0) hx hb d_X1_moves_27 (by decide) ?_
    refine td_joinl 41 ls [] (fun x => x = td_bs (fun i => decide (td_fl (td_lv ce 0) (mv 0) i ≠ 0)) (i + 1)) (fun x ex => ?_) (fun J => ?_)
    · subst ex
      refine lv_lstore_n hx hb d_X1_moves_41 rfl hl (by decide) rfl (fun ls hl => ?_)
      have hl : lv_has ls 4 [(1, .long (td_bs (fun i => decide (td_fl (td_lv ce 0) (mv 0) i ≠ 0)) (i + 1))), (0, .ref o), (3, .int (nI i))] := hl
      refine lv_iinc (k := 2) (v := (nI (i + 1))) hx hb d_X1_moves_42 hl rfl ((nI_succ i).symm) (by decide) rfl (fun ls hl => ?_)
      have hl : lv_has ls 4 [(3, .int (nI (i + 1))), (1, .long (td_bs (fun i => decide (td_fl (td_lv ce 0) (mv 0) i ≠ 0)) (i + 1))), (0, .ref o)] := hl
      refine lv_goto (tgt := 9) hx hb d_X1_moves_45 (by decide) ?_
      have hl1 := lv_sub hl [2, 1, 0] rfl
      exact ih (i + 1) _ (by omega) ⟨h64, hl1⟩
    · refine td_leq (tgt := 40) hx hb d_X1_moves_28 d_X1_moves_29 (by decide) (fun h2 => ?_) (fun h2 => ?_)
      · refine lv_lload_n hx hb d_X1_moves_40 rfl (lv_at hl 1 rfl) ?_
        exact J _ (by rw [hcs, if_neg (fun z => (of_decide_eq_true z) h2)])
      · refine lv_lload_n hx hb d_X1_moves_32 rfl (lv_at hl 1 rfl) ?_
        refine lv_lconst (v := 1) hx hb d_X1_moves_33 (by decide) ?_
        refine lv_iload_n hx hb d_X1_moves_34 rfl (lv_at hl 2 rfl) ?_
        refine lv_lshl (v := (td_lshl 1 (nI i))) hx hb d_X1_moves_35 rfl ?_
        refine lv_lor hx hb d_X1_moves_36 ?_
        refine lv_goto (tgt := 41) hx hb d_X1_moves_37 (by decide) ?_
        exact J _ (by rw [hcs, if_pos (decide_eq_true h2)])
set_option maxHeartbeats 4000000 in
set_option maxRecDepth 100000 in
theorem m_X1_discs (l : Launch) (D : va_G) (sz : Nat) (o : Nat) (q : Nat → Nat) (th md ch sc : Int32) (cI : ClassId) (ce mv : Nat → Int32) (q0 : Int32) : Met l y_X1_discs (k_X1_discs :: tw) ({ frames := 0, cells := 0, slots := 0, locals := 0 }) (va_Pc [.ref o, .int q0] (fun U => U.heap.size = sz ∧ va_P D tdC [(o, .inr (1, [.int th, .ref (q 1), .ref (q 2), .ref (q 3), .ref (q 4), .int md, .ref (q 6), .ref (q 7), .ref (q 8), .ref (q 9), .int ch, .ref (q 11), .int sc, .ref (q 13)])), ((q 1), .inl (cI, 1216, .inl ce)), ((q 2), .inl (cI, 19, .inl mv))] U.heap ∧ va_K D tdC [(cI, .int)] U ∧ va_D (fun _ => True) [(o, .inr (1, [.int th, .ref (q 1), .ref (q 2), .ref (q 3), .ref (q 4), .int md, .ref (q 6), .ref (q 7), .ref (q 8), .ref (q 9), .int ch, .ref (q 11), .int sc, .ref (q 13)])), ((q 1), .inl (cI, 1216, .inl ce)), ((q 2), .inl (cI, 19, .inl mv))])) (va_Ql (fun (r : Int64) (_ : Unit) => td_bad q0 1 = 0 → r = td_bs (fun i => decide (td_lv ce 0 i = q0 + 1)) 64) (fun (_ : Unit) t => va_P D tdC [(o, .inr (1, [.int (td_bad q0 1), .ref (q 1), .ref (q 2), .ref (q 3), .ref (q 4), .int md, .ref (q 6), .ref (q 7), .ref (q 8), .ref (q 9), .int ch, .ref (q 11), .int sc, .ref (q 13)])), ((q 1), .inl (cI, 1216, .inl ce)), ((q 2), .inl (cI, 19, .inl mv))] t.heap ∧ va_K D tdC [(cI, .int)] t ∧ va_D (va_A [(o, .inr (1, [.int th, .ref (q 1), .ref (q 2), .ref (q 3), .ref (q 4), .int md, .ref (q 6), .ref (q 7), .ref (q 8), .ref (q 9), .int ch, .ref (q 11), .int sc, .ref (q 13)])), ((q 1), .inl (cI, 1216, .inl ce)), ((q 2), .inl (cI, 19, .inl mv))] sz) [(o, .inr (1, [.int (td_bad q0 1), .ref (q 1), .ref (q 2), .ref (q 3), .ref (q 4), .int md, .ref (q 6), .ref (q 7), .ref (q 8), .ref (q 9), .int ch, .ref (q 11), .int sc, .ref (q 13)])), ((q 1), .inl (cI, 1216, .inl ce)), ((q 2), .inl (cI, 19, .inl mv))]) (va_A [(o, .inr (1, [.int th, .ref (q 1), .ref (q 2), .ref (q 3), .ref (q 4), .int md, .ref (q 6), .ref (q 7), .ref (q 8), .ref (q 9), .int ch, .ref (q 11), .int sc, .ref (q 13)])), ((q 1), .inl (cI, 1216, .inl ce)), ((q 2), .inl (cI, 19, .inl mv))] sz)) 0 0 (va_A [(o, .inr (1, [.int th, .ref (q 1), .ref (q 2), .ref (q 3), .ref (q 4), .int md, .ref (q 6), .ref (q 7), .ref (q 8), .ref (q 9), .int ch, .ref (q 11), .int sc, .ref (q 13)])), ((q 1), .inl (cI, 1216, .inl ce)), ((q 2), .inl (cI, 19, .inl mv))] sz) := by
  refine Met.ofW (cc := c_X1_discs) (maxL := 5) (ret := (some .long)) (by decide) rfl ?_
  intro p e s m args below meth c s₁ B hml hv
  obtain ⟨rfl, hsz, hP, hK, hD0⟩ := hv
  have hx := B.exec
  have hb := B.bytes
  have hr := B.returns
  have hts : ∀ w ∈ tw, w.before _ s = true := fun w h => atoms_spec (ws := k_X1_discs :: tw) B.pre w (List.mem_cons_of_mem _ h)
  have hown : s.vm.findClass RX1 = some m.cls := findClass_of_methodNamed B.named
  have hlocks := B.notSynchronized
  subst hsz
  have hD := hD0.self (sz := s.heap.size)
  generalize hAe : va_A [(o, .inr (1, [.int th, .ref (q 1), .ref (q 2), .ref (q 3), .ref (q 4), .int md, .ref (q 6), .ref (q 7), .ref (q 8), .ref (q 9), .int ch, .ref (q 11), .int sc, .ref (q 13)])), ((q 1), .inl (cI, 1216, .inl ce)), ((q 2), .inl (cI, 19, .inl mv))] s.heap.size = A at hD ⊢
  have hA : ∀ q : Nat, s.heap.size ≤ q → A q := fun q h => by rw [← hAe]; exact Or.inr h
  have hS : va_S A s.heap s.heap [] := va_S.rf
  have hP : va_P D tdC [(o, .inr (1, [.int th, .ref (q 1), .ref (q 2), .ref (q 3), .ref (q 4), .int md, .ref (q 6), .ref (q 7), .ref (q 8), .ref (q 9), .int ch, .ref (q 11), .int sc, .ref (q 13)])), ((q 1), .inl (cI, 1216, .inl ce)), ((q 2), .inl (cI, 19, .inl mv))] s.heap := hP
  have hl := lv_entry ([.ref o, .int q0]) (n := 5) (Nat.le_of_ble_eq_true rfl)
  rw [lg_entry_eq]
  generalize (lg_sl ([.ref o, .int q0]) ++ List.replicate (5 - (lg_sl ([.ref o, .int q0])).length) Slot.unset).toArray = ls at hl ⊢
  have hl : lv_has ls 5 [(0, .ref o), (1, .int q0)] := hl
  refine lv_aload_n hx hb d_X1_discs_0 rfl (lv_at hl 0 rfl) ?_
  refine td_joini 15 ls [.ref o] (fun x => x = td_bad q0 1) (fun x ex => ?_) (fun J => ?_)
  · subst ex
    refine va_put (D := D) (ci := 1) (v := .int (td_bad q0 1)) (ty := .int) (C := RX1) (T := TX1) (N := 14) hx hb hts usX1 tyX1 tyX1_ok nmX1 hown hK hP hD hS 0 rfl rfl 0 (by decide) (hts _ fl_X1_45) (fun _ h9 => h9) rfl (by decide +kernel) rfl rfl (Nat.le_of_ble_eq_true rfl) d_X1_discs_15 (fun H locs hP hD hS => ?_)
    have hP : va_P D tdC [(o, .inr (1, [.int (td_bad q0 1), .ref (q 1), .ref (q 2), .ref (q 3), .ref (q 4), .int md, .ref (q 6), .ref (q 7), .ref (q 8), .ref (q 9), .int ch, .ref (q 11), .int sc, .ref (q 13)])), ((q 1), .inl (cI, 1216, .inl ce)), ((q 2), .inl (cI, 19, .inl mv))] H := hP
    have hD : va_D A [(o, .inr (1, [.int (td_bad q0 1), .ref (q 1), .ref (q 2), .ref (q 3), .ref (q 4), .int md, .ref (q 6), .ref (q 7), .ref (q 8), .ref (q 9), .int ch, .ref (q 11), .int sc, .ref (q 13)])), ((q 1), .inl (cI, 1216, .inl ce)), ((q 2), .inl (cI, 19, .inl mv))] := hD
    refine lv_lconst (v := 0) hx hb d_X1_discs_18 (by decide) ?_
    refine lv_lstore_n hx hb d_X1_discs_19 rfl hl (by decide) rfl (fun ls hl => ?_)
    have hl : lv_has ls 5 [(2, .long 0), (0, .ref o), (1, .int q0)] := hl
    refine lv_iconst (v := 0) hx hb d_X1_discs_20 (by decide) ?_
    refine lv_istore hx hb d_X1_discs_21 hl (by decide) rfl (fun ls hl => ?_)
    have hl : lv_has ls 5 [(4, .int 0), (2, .long 0), (0, .ref o), (1, .int q0)] := hl
    have hl0 := lv_sub hl [2, 3, 1, 0] rfl
    refine td_loop 23 [] (fun i : Nat => 64 - i) (fun i ls => i ≤ 64 ∧ lv_has ls 5 [(0, .ref o), (1, .int q0), (2, .long (td_bs (fun i => decide (td_lv ce 0 i = q0 + 1)) i)), (4, .int (nI i))]) (fun i ls hC ih => ?_) 0 ⟨Nat.zero_le _, hl0⟩
    clear hl hl0
    obtain ⟨hi, hl⟩ := hC
    have hl : lv_has ls 5 [(0, .ref o), (1, .int q0), (2, .long (td_bs (fun i => decide (td_lv ce 0 i = q0 + 1)) i)), (4, .int (nI i))] := hl
    refine lv_iload hx hb d_X1_discs_23 (lv_at hl 3 rfl) ?_
    refine lv_bipush (v := 64) hx hb d_X1_discs_25 (by decide) ?_
    refine lv_icmp_ge (tgt := 67) hx hb d_X1_discs_27 (by decide) (fun h1 => ?_) (fun h1 => ?_)
    · have h64 : i = 64 := Nat.le_antisymm hi ((nI_leI (a := 64) (b := i) (by decide) (by omega)).mp h1)
      subst h64
      refine lv_lload_n hx hb d_X1_discs_67 rfl (lv_at hl 2 rfl) ?_
      exact W.lret (v := (td_bs (fun i => decide (td_lv ce 0 i = q0 + 1)) 64)) hx hb hr (fun t ht hW => ⟨⟨_, (), rfl, fun _ => rfl, by rw [ht]; exact hP, va_K.moved hW.alike hK, hD⟩, hS.F ht⟩) hS.2.2 d_X1_discs_68
    · have h64 : i < 64 := Nat.lt_of_not_le (fun z => h1 ((nI_leI (a := 64) (b := i) (by decide) (by omega)).mpr z))
      have hcs := td_bs_s (fun i => decide (td_lv ce 0 i = q0 + 1)) i
      refine lv_aload_n hx hb d_X1_discs_30 rfl (lv_at hl 0 rfl) ?_
      refine va_get (D := D) (ci := 1) (v := .int (td_bad q0 1)) (C := RX1) (T := TX1) (N := 14) hx hb hts usX1 hown hK hP 0 rfl rfl 0 (by decide) (hts _ fl_X1_45) (fun _ h9 => h9) rfl d_X1_discs_31 ?_
      refine lv_if_ne (tgt := 67) hx hb d_X1_discs_34 (by decide) (fun h3 => ?_) (fun h3 => ?_)
      · refine lv_lload_n hx hb d_X1_discs_67 rfl (lv_at hl 2 rfl) ?_
        exact W.lret (v := (td_bs (fun i => decide (td_lv ce 0 i = q0 + 1)) i)) hx hb hr (fun t ht hW => ⟨⟨_, (), rfl, fun z => absurd z h3, by rw [ht]; exact hP, va_K.moved hW.alike hK, hD⟩, hS.F ht⟩) hS.2.2 d_X1_discs_68
      · refine lv_aload_n hx hb d_X1_discs_37 rfl (lv_at hl 0 rfl) ?_
        refine va_get (D := D) (ci := 1) (v := .ref (q 1)) (C := RX1) (T := TX1) (N := 14) hx hb hts usX1 hown hK hP 0 rfl rfl 1 (by decide) (hts _ fl_X1_7) (fun _ h9 => h9) rfl d_X1_discs_38 ?_
        refine lv_iload hx hb d_X1_discs_41 (lv_at hl 3 rfl) ?_
        refine va_iald hx hb hK hP 1 0 rfl rfl (vp_in_nI (show i < 1216 by omega) (by decide)) d_X1_discs_43 ?_
        refine td_i (y := (td_lv ce 0 i)) (by rw [nI_clamp (by omega)]; unfold td_lv; rw [Nat.mul_zero, Nat.zero_add]) ?_
        refine lv_iload_n hx hb d_X1_discs_44 rfl (lv_at hl 1 rfl) ?_
        refine lv_iconst (v := 1) hx hb d_X1_discs_45 (by decide) ?_
        refine lv_iadd hx hb d_X1_discs_46 ?_
        refine td_joinl 60 ls [] (fun x => x = td_bs (fun i => decide (td_lv ce 0 i = q0 + 1)) (i + 1)) (fun x ex => ?_) (fun J => ?_)
        · subst ex
          refine lv_lstore_n hx hb d_X1_discs_60 rfl hl (by decide) rfl (fun ls hl => ?_)
          have hl : lv_has ls 5 [(2, .long (td_bs (fun i => decide (td_lv ce 0 i = q0 + 1)) (i + 1))), (0, .ref o), (1, .int q0), (4, .int (nI i))] := hl
          refine lv_iinc (k := 3) (v := (nI (i + 1))) hx hb d_X1_discs_61 hl rfl ((nI_succ i).symm) (by decide) rfl (fun ls hl => ?_)
          have hl : lv_has ls 5 [(4, .int (nI (i + 1))), (2, .long (td_bs (fun i => decide (td_lv ce 0 i = q0 + 1)) (i + 1))), (0, .ref o), (1, .int q0)] := hl
          refine lv_goto (tgt := 23) hx hb d_X1_discs_64 (by decide) ?_
          have hl1 := lv_sub hl [2, 3, 1, 0] rfl
          exact ih (i + 1) _ (by omega) ⟨h64, hl1⟩
        · refine lv_icmp_ne (tgt := 59) hx hb d_X1_discs_47 (by decide) (fun h2 => ?_) (fun h2 => ?_)
          · refine lv_lload_n hx hb d_X1_discs_59 rfl (lv_at hl 2 rfl) ?_
            exact J _ (by rw [hcs, if_neg (fun z => h2 (of_decide_eq_true z))])
          · refine lv_lload_n hx hb d_X1_discs_50 rfl (lv_at hl 2 rfl) ?_
            refine lv_lconst (v := 1) hx hb d_X1_discs_51 (by decide) ?_
            refine lv_iload hx hb d_X1_discs_52 (lv_at hl 3 rfl) ?_
            refine lv_lshl (v := (td_lshl 1 (nI i))) hx hb d_X1_discs_54 rfl ?_
            refine lv_lor hx hb d_X1_discs_55 ?_
            refine lv_goto (tgt := 60) hx hb d_X1_discs_56 (by decide) ?_
            exact J _ (by rw [hcs, if_pos (decide_eq_true h2)])
  · refine lv_iload_n hx hb d_X1_discs_1 rfl (lv_at hl 1 rfl) ?_
    refine lv_if_lt (tgt := 10) hx hb d_X1_discs_2 (by decide) (fun h0 => ?_) (fun h0 => ?_)
    · refine lv_iconst (v := 1) hx hb d_X1_discs_10 (by decide) ?_
      refine lv_goto (tgt := 15) hx hb d_X1_discs_11 (by decide) ?_
      exact J _ (by unfold td_bad; rw [if_pos (Or.inl h0)])
    · refine lv_iload_n hx hb d_X1_discs_5 rfl (lv_at hl 1 rfl) ?_
      refine lv_iconst (v := 1) hx hb d_X1_discs_6 (by decide) ?_
      refine lv_icmp_le (tgt := 14) hx hb d_X1_discs_7 (by decide) (fun h1 => ?_) (fun h1 => ?_)
      · refine lv_iconst (v := 0) hx hb d_X1_discs_14 (by decide) ?_
        exact J _ (by unfold td_bad; rw [if_neg (fun z => z.elim h0 (fun z => absurd z (Int32.not_lt.mpr h1)))])
      · refine lv_iconst (v := 1) hx hb d_X1_discs_10 (by decide) ?_
        refine lv_goto (tgt := 15) hx hb d_X1_discs_11 (by decide) ?_
        exact J _ (by unfold td_bad; rw [if_pos (Or.inr (Int32.not_le.mp h1))])
end
section
/-! border and safe of the reference -/
def td_nb (g : Nat → Int32) (v : Int32) (i w : Nat) : Prop := td_ps w i 1 < 64 ∧ g (td_ps w i 1) = v
def td_nbs (g : Nat → Int32) (v : Int32) (i : Nat) : Bool := (List.range 8).any (fun w => decide (td_ps w i 1 < 64) && decide (g (td_ps w i 1) = v))
theorem td_nbs_iff (g : Nat → Int32) (v : Int32) (i : Nat) : td_nbs g v i = true ↔ ∃ w, w < 8 ∧ td_nb g v i w := by
  simp only [td_nbs, td_nb, List.any_eq_true, List.mem_range, Bool.and_eq_true, decide_eq_true_eq]
def td_sf (g : Nat → Int32) (who : Int32) (i : Nat) : Bool := decide (g i = who + 1) && (List.range 4).all (fun w => td_fu g who w i || td_fu g who (7 - w) i)
theorem td_sf_iff (g : Nat → Int32) (who : Int32) (i : Nat) : td_sf g who i = true ↔ (g i = who + 1 ∧ ∀ w, w < 4 → (td_fu g who w i = true ∨ td_fu g who (7 - w) i = true)) := by
  simp only [td_sf, List.all_eq_true, List.mem_range, Bool.and_eq_true, decide_eq_true_eq, Bool.or_eq_true]
set_option maxHeartbeats 4000000 in
set_option maxRecDepth 100000 in
theorem m_X1_border (l : Launch) (D : va_G) (sz : Nat) (o : Nat) (q : Nat → Nat) (th md ch sc : Int32) (cI : ClassId) (ce mv : Nat → Int32) (q0 : Int32) : Met l y_X1_border (k_X1_border :: tw) ({ frames := 1, cells := 0, slots := 0, locals := 23 }) (va_Pc [.ref o, .int q0] (fun U => U.heap.size = sz ∧ va_P D tdC [(o, .inr (1, [.int th, .ref (q 1), .ref (q 2), .ref (q 3), .ref (q 4), .int md, .ref (q 6), .ref (q 7), .ref (q 8), .ref (q 9), .int ch, .ref (q 11), .int sc, .ref (q 13)])), ((q 1), .inl (cI, 1216, .inl ce)), ((q 2), .inl (cI, 19, .inl mv))] U.heap ∧ va_K D tdC [(cI, .int)] U ∧ va_D (fun _ => True) [(o, .inr (1, [.int th, .ref (q 1), .ref (q 2), .ref (q 3), .ref (q 4), .int md, .ref (q 6), .ref (q 7), .ref (q 8), .ref (q 9), .int ch, .ref (q 11), .int sc, .ref (q 13)])), ((q 1), .inl (cI, 1216, .inl ce)), ((q 2), .inl (cI, 19, .inl mv))])) (va_Qi (fun (r : Int32) (_ : Unit) => td_bad q0 1 = 0 → r = nI (td_cn (fun u => decide ((td_lv ce 0) u = 0) && td_nbs (td_lv ce 0) (q0 + 1) u) 64)) (fun (_ : Unit) t => va_P D tdC [(o, .inr (1, [.int (td_bad q0 1), .ref (q 1), .ref (q 2), .ref (q 3), .ref (q 4), .int md, .ref (q 6), .ref (q 7), .ref (q 8), .ref (q 9), .int ch, .ref (q 11), .int sc, .ref (q 13)])), ((q 1), .inl (cI, 1216, .inl ce)), ((q 2), .inl (cI, 19, .inl mv))] t.heap ∧ va_K D tdC [(cI, .int)] t ∧ va_D (va_A [(o, .inr (1, [.int th, .ref (q 1), .ref (q 2), .ref (q 3), .ref (q 4), .int md, .ref (q 6), .ref (q 7), .ref (q 8), .ref (q 9), .int ch, .ref (q 11), .int sc, .ref (q 13)])), ((q 1), .inl (cI, 1216, .inl ce)), ((q 2), .inl (cI, 19, .inl mv))] sz) [(o, .inr (1, [.int (td_bad q0 1), .ref (q 1), .ref (q 2), .ref (q 3), .ref (q 4), .int md, .ref (q 6), .ref (q 7), .ref (q 8), .ref (q 9), .int ch, .ref (q 11), .int sc, .ref (q 13)])), ((q 1), .inl (cI, 1216, .inl ce)), ((q 2), .inl (cI, 19, .inl mv))]) (va_A [(o, .inr (1, [.int th, .ref (q 1), .ref (q 2), .ref (q 3), .ref (q 4), .int md, .ref (q 6), .ref (q 7), .ref (q 8), .ref (q 9), .int ch, .ref (q 11), .int sc, .ref (q 13)])), ((q 1), .inl (cI, 1216, .inl ce)), ((q 2), .inl (cI, 19, .inl mv))] sz)) 0 0 (va_A [(o, .inr (1, [.int th, .ref (q 1), .ref (q 2), .ref (q 3), .ref (q 4), .int md, .ref (q 6), .ref (q 7), .ref (q 8), .ref (q 9), .int ch, .ref (q 11), .int sc, .ref (q 13)])), ((q 1), .inl (cI, 1216, .inl ce)), ((q 2), .inl (cI, 19, .inl mv))] sz) := by
  refine Met.ofW (cc := c_X1_border) (maxL := 8) (ret := (some .int)) (by decide) rfl ?_
  intro p e s m args below meth c s₁ B hml hv
  obtain ⟨rfl, hsz, hP, hK, hD0⟩ := hv
  have hx := B.exec
  have hb := B.bytes
  have hr := B.returns
  have hts : ∀ w ∈ tw, w.before _ s = true := fun w h => atoms_spec (ws := k_X1_border :: tw) B.pre w (List.mem_cons_of_mem _ h)
  have hown : s.vm.findClass RX1 = some m.cls := findClass_of_methodNamed B.named
  have hlocks := B.notSynchronized
  subst hsz
  have hD := hD0.self (sz := s.heap.size)
  generalize hAe : va_A [(o, .inr (1, [.int th, .ref (q 1), .ref (q 2), .ref (q 3), .ref (q 4), .int md, .ref (q 6), .ref (q 7), .ref (q 8), .ref (q 9), .int ch, .ref (q 11), .int sc, .ref (q 13)])), ((q 1), .inl (cI, 1216, .inl ce)), ((q 2), .inl (cI, 19, .inl mv))] s.heap.size = A at hD ⊢
  have hA : ∀ q : Nat, s.heap.size ≤ q → A q := fun q h => by rw [← hAe]; exact Or.inr h
  have hS : va_S A s.heap s.heap [] := va_S.rf
  have hP : va_P D tdC [(o, .inr (1, [.int th, .ref (q 1), .ref (q 2), .ref (q 3), .ref (q 4), .int md, .ref (q 6), .ref (q 7), .ref (q 8), .ref (q 9), .int ch, .ref (q 11), .int sc, .ref (q 13)])), ((q 1), .inl (cI, 1216, .inl ce)), ((q 2), .inl (cI, 19, .inl mv))] s.heap := hP
  have hl := lv_entry ([.ref o, .int q0]) (n := 8) (Nat.le_of_ble_eq_true rfl)
  rw [lg_entry_eq]
  generalize (lg_sl ([.ref o, .int q0]) ++ List.replicate (8 - (lg_sl ([.ref o, .int q0])).length) Slot.unset).toArray = ls at hl ⊢
  have hl : lv_has ls 8 [(0, .ref o), (1, .int q0)] := hl
  refine lv_aload_n hx hb d_X1_border_0 rfl (lv_at hl 0 rfl) ?_
  refine td_joini 15 ls [.ref o] (fun x => x = td_bad q0 1) (fun x ex => ?_) (fun J => ?_)
  · subst ex
    refine va_put (D := D) (ci := 1) (v := .int (td_bad q0 1)) (ty := .int) (C := RX1) (T := TX1) (N := 14) hx hb hts usX1 tyX1 tyX1_ok nmX1 hown hK hP hD hS 0 rfl rfl 0 (by decide) (hts _ fl_X1_45) (fun _ h9 => h9) rfl (by decide +kernel) rfl rfl (Nat.le_of_ble_eq_true rfl) d_X1_border_15 (fun H locs hP hD hS => ?_)
    have hP : va_P D tdC [(o, .inr (1, [.int (td_bad q0 1), .ref (q 1), .ref (q 2), .ref (q 3), .ref (q 4), .int md, .ref (q 6), .ref (q 7), .ref (q 8), .ref (q 9), .int ch, .ref (q 11), .int sc, .ref (q 13)])), ((q 1), .inl (cI, 1216, .inl ce)), ((q 2), .inl (cI, 19, .inl mv))] H := hP
    have hD : va_D A [(o, .inr (1, [.int (td_bad q0 1), .ref (q 1), .ref (q 2), .ref (q 3), .ref (q 4), .int md, .ref (q 6), .ref (q 7), .ref (q 8), .ref (q 9), .int ch, .ref (q 11), .int sc, .ref (q 13)])), ((q 1), .inl (cI, 1216, .inl ce)), ((q 2), .inl (cI, 19, .inl mv))] := hD
    have hP2 := hP.sub (ws' := [(o, .inr (1, [.int (td_bad q0 1), .ref (q 1), .ref (q 2), .ref (q 3), .ref (q 4), .int md, .ref (q 6), .ref (q 7), .ref (q 8), .ref (q 9), .int ch, .ref (q 11), .int sc, .ref (q 13)])), ((q 1), .inl (cI, 1216, .inl ce))]) [0, 1] rfl
    refine lv_iconst (v := 0) hx hb d_X1_border_18 (by decide) ?_
    refine lv_istore_n hx hb d_X1_border_19 rfl hl (by decide) rfl (fun ls hl => ?_)
    have hl : lv_has ls 8 [(2, .int 0), (0, .ref o), (1, .int q0)] := hl
    refine lv_iconst (v := 0) hx hb d_X1_border_20 (by decide) ?_
    refine lv_istore_n hx hb d_X1_border_21 rfl hl (by decide) rfl (fun ls hl => ?_)
    have hl : lv_has ls 8 [(3, .int 0), (2, .int 0), (0, .ref o), (1, .int q0)] := hl
    have hl0 := lv_sub hl [2, 3, 1, 0] rfl
    refine td_loop 22 [] (fun i : Nat => 64 - i) (fun i ls => i ≤ 64 ∧ lv_has ls 8 [(0, .ref o), (1, .int q0), (2, .int (nI (td_cn (fun u => decide ((td_lv ce 0) u = 0) && td_nbs (td_lv ce 0) (q0 + 1) u) i))), (3, .int (nI i))]) (fun i ls hC ih => ?_) 0 ⟨Nat.zero_le _, hl0⟩
    clear hl hl0
    obtain ⟨hi, hl⟩ := hC
    have hl : lv_has ls 8 [(0, .ref o), (1, .int q0), (2, .int (nI (td_cn (fun u => decide ((td_lv ce 0) u = 0) && td_nbs (td_lv ce 0) (q0 + 1) u) i))), (3, .int (nI i))] := hl
    refine lv_iload_n hx hb d_X1_border_22 rfl (lv_at hl 3 rfl) ?_
    refine lv_bipush (v := 64) hx hb d_X1_border_23 (by decide) ?_
    refine lv_icmp_ge (tgt := 143) hx hb d_X1_border_25 (by decide) (fun h1 => ?_) (fun h1 => ?_)
    · have h64 : i = 64 := Nat.le_antisymm hi ((nI_leI (a := 64) (b := i) (by decide) (by omega)).mp h1)
      subst h64
      refine lv_iload_n hx hb d_X1_border_143 rfl (lv_at hl 2 rfl) ?_
      exact W.iret (v := (nI (td_cn (fun u => decide ((td_lv ce 0) u = 0) && td_nbs (td_lv ce 0) (q0 + 1) u) 64))) hx hb hr (fun t ht hW => ⟨⟨_, (), rfl, fun _ => rfl, by rw [ht]; exact hP, va_K.moved hW.alike hK, hD⟩, hS.F ht⟩) hS.2.2 d_X1_border_144
    · have h64 : i < 64 := Nat.lt_of_not_le (fun z => h1 ((nI_leI (a := 64) (b := i) (by decide) (by omega)).mpr z))
      have hcs := td_cn_s (fun u => decide ((td_lv ce 0) u = 0) && td_nbs (td_lv ce 0) (q0 + 1) u) i
      refine lv_aload_n hx hb d_X1_border_28 rfl (lv_at hl 0 rfl) ?_
      refine va_get (D := D) (ci := 1) (v := .int (td_bad q0 1)) (C := RX1) (T := TX1) (N := 14) hx hb hts usX1 hown hK hP 0 rfl rfl 0 (by decide) (hts _ fl_X1_45) (fun _ h9 => h9) rfl d_X1_border_29 ?_
      refine lv_if_ne (tgt := 143) hx hb d_X1_border_32 (by decide) (fun h3 => ?_) (fun h3 => ?_)
      · refine lv_iload_n hx hb d_X1_border_143 rfl (lv_at hl 2 rfl) ?_
        exact W.iret (v := (nI (td_cn (fun u => decide ((td_lv ce 0) u = 0) && td_nbs (td_lv ce 0) (q0 + 1) u) i))) hx hb hr (fun t ht hW => ⟨⟨_, (), rfl, fun z => absurd z h3, by rw [ht]; exact hP, va_K.moved hW.alike hK, hD⟩, hS.F ht⟩) hS.2.2 d_X1_border_144
      · refine lv_iconst (v := 0) hx hb d_X1_border_35 (by decide) ?_
        refine lv_istore hx hb d_X1_border_36 hl (by decide) rfl (fun ls hl => ?_)
        have hl : lv_has ls 8 [(4, .int 0), (0, .ref o), (1, .int q0), (2, .int (nI (td_cn (fun u => decide ((td_lv ce 0) u = 0) && td_nbs (td_lv ce 0) (q0 + 1) u) i))), (3, .int (nI i))] := hl
        refine lv_iconst (v := 0) hx hb d_X1_border_38 (by decide) ?_
        refine lv_istore hx hb d_X1_border_39 hl (by decide) rfl (fun ls hl => ?_)
        have hl : lv_has ls 8 [(5, .int 0), (4, .int 0), (0, .ref o), (1, .int q0), (2, .int (nI (td_cn (fun u => decide ((td_lv ce 0) u = 0) && td_nbs (td_lv ce 0) (q0 + 1) u) i))), (3, .int (nI i))] := hl
        have hl0 := lv_sub hl [2, 3, 4, 5, 1, 0] rfl
        refine td_loop 41 [] (fun z : Nat × Int32 => 8 - z.1) (fun z ls => (z.1 ≤ 8 ∧ ((z.2 = 1 ∧ ∃ v, v < z.1 ∧ td_nb (td_lv ce 0) (q0 + 1) i v) ∨ (z.2 = 0 ∧ ∀ v, v < z.1 → ¬ td_nb (td_lv ce 0) (q0 + 1) i v))) ∧ lv_has ls 8 [(0, .ref o), (1, .int q0), (2, .int (nI (td_cn (fun u => decide ((td_lv ce 0) u = 0) && td_nbs (td_lv ce 0) (q0 + 1) u) i))), (3, .int (nI i)), (4, .int (z.2)), (5, .int (nI z.1))]) (fun z ls hC ih2 => ?_) (0, 0) ⟨⟨Nat.zero_le _, Or.inr ⟨rfl, fun v h => absurd h (Nat.not_lt_zero v)⟩⟩, hl0⟩
        clear hl hl0
        obtain ⟨hi, hl⟩ := hC
        have hl : lv_has ls 8 [(0, .ref o), (1, .int q0), (2, .int (nI (td_cn (fun u => decide ((td_lv ce 0) u = 0) && td_nbs (td_lv ce 0) (q0 + 1) u) i))), (3, .int (nI i)), (4, .int (z.2)), (5, .int (nI z.1))] := hl
        obtain ⟨w0, y0⟩ := z
        obtain ⟨hw8, hor⟩ := hi
        dsimp only at hw8 hor
        have hl : lv_has ls 8 [(0, .ref o), (1, .int q0), (2, .int (nI (td_cn (fun u => decide ((td_lv ce 0) u = 0) && td_nbs (td_lv ce 0) (q0 + 1) u) i))), (3, .int (nI i)), (4, .int y0), (5, .int (nI w0))] := hl
        refine lv_iload hx hb d_X1_border_41 (lv_at hl 5 rfl) ?_
        refine lv_bipush (v := 8) hx hb d_X1_border_43 (by decide) ?_
        refine lv_icmp_ge (tgt := 115) hx hb d_X1_border_45 (by decide) (fun h4 => ?_) (fun h4 => ?_)
        · have hw : w0 = 8 := Nat.le_antisymm hw8 ((nI_leI (a := 8) (b := w0) (by decide) (by omega)).mp h4)
          subst hw
          have hl : lv_has ls 8 [(0, .ref o), (1, .int q0), (2, .int (nI (td_cn (fun u => decide ((td_lv ce 0) u = 0) && td_nbs (td_lv ce 0) (q0 + 1) u) i))), (3, .int (nI i)), (4, .int y0)] := lv_sub hl [0, 1, 2, 3, 4] rfl
          refine lv_aload_n hx hb d_X1_border_115 rfl (lv_at hl 0 rfl) ?_
          refine va_get (D := D) (ci := 1) (v := .ref (q 1)) (C := RX1) (T := TX1) (N := 14) hx hb hts usX1 hown hK hP 0 rfl rfl 1 (by decide) (hts _ fl_X1_7) (fun _ h9 => h9) rfl d_X1_border_116 ?_
          refine lv_iload_n hx hb d_X1_border_119 rfl (lv_at hl 3 rfl) ?_
          refine va_iald hx hb hK hP 1 0 rfl rfl (vp_in_nI (show i < 1216 by omega) (by decide)) d_X1_border_120 ?_
          refine td_i (y := (td_lv ce 0 i)) (by rw [nI_clamp (by omega)]; unfold td_lv; rw [Nat.mul_zero, Nat.zero_add]) ?_
          refine td_joini 136 ls [] (fun x => x = nI (td_cn (fun u => decide ((td_lv ce 0) u = 0) && td_nbs (td_lv ce 0) (q0 + 1) u) (i + 1))) (fun x ex => ?_) (fun J => ?_)
          · subst ex
            refine lv_istore_n hx hb d_X1_border_136 rfl hl (by decide) rfl (fun ls hl => ?_)
            have hl : lv_has ls 8 [(2, .int (nI (td_cn (fun u => decide ((td_lv ce 0) u = 0) && td_nbs (td_lv ce 0) (q0 + 1) u) (i + 1)))), (0, .ref o), (1, .int q0), (3, .int (nI i)), (4, .int y0)] := hl
            refine lv_iinc (k := 3) (v := (nI (i + 1))) hx hb d_X1_border_137 hl rfl ((nI_succ i).symm) (by decide) rfl (fun ls hl => ?_)
            have hl : lv_has ls 8 [(3, .int (nI (i + 1))), (2, .int (nI (td_cn (fun u => decide ((td_lv ce 0) u = 0) && td_nbs (td_lv ce 0) (q0 + 1) u) (i + 1)))), (0, .ref o), (1, .int q0), (4, .int y0)] := hl
            refine lv_goto (tgt := 22) hx hb d_X1_border_140 (by decide) ?_
            have hl1 := lv_sub hl [2, 3, 1, 0] rfl
            exact ih (i + 1) _ (by omega) ⟨h64, hl1⟩
          · refine lv_if_ne (tgt := 135) hx hb d_X1_border_121 (by decide) (fun h5 => ?_) (fun h5 => ?_)
            · refine lv_iload_n hx hb d_X1_border_135 rfl (lv_at hl 2 rfl) ?_
              exact J _ (by rw [hcs, if_neg (fun z => h5 (of_decide_eq_true (Bool.and_eq_true _ _ ▸ z).1)), Nat.add_zero])
            · refine lv_iload hx hb d_X1_border_124 (lv_at hl 4 rfl) ?_
              refine lv_if_eq (tgt := 135) hx hb d_X1_border_126 (by decide) (fun h6 => ?_) (fun h6 => ?_)
              · refine lv_iload_n hx hb d_X1_border_135 rfl (lv_at hl 2 rfl) ?_
                exact J _ (by rw [hcs, if_neg (fun z => by obtain ⟨v, hv, hn⟩ := (td_nbs_iff _ _ _).mp (Bool.and_eq_true _ _ ▸ z).2; exact hor.elim (fun y => absurd (y.1.symm.trans h6) (by decide)) (fun y => y.2 v hv hn)), Nat.add_zero])
              · refine lv_iload_n hx hb d_X1_border_129 rfl (lv_at hl 2 rfl) ?_
                refine lv_iconst (v := 1) hx hb d_X1_border_130 (by decide) ?_
                refine lv_iadd hx hb d_X1_border_131 ?_
                refine lv_goto (tgt := 136) hx hb d_X1_border_132 (by decide) ?_
                have hnb : td_nbs (td_lv ce 0) (q0 + 1) i = true := (td_nbs_iff _ _ _).mpr (hor.elim (fun y => y.2) (fun y => absurd y.1 h6))
                exact J _ (by rw [hcs, if_pos (by rw [hnb, decide_eq_true h5]; rfl)]; exact (nI_succ _).symm)
        · have hw : w0 < 8 := Nat.lt_of_not_le (fun z => h4 ((nI_leI (a := 8) (b := w0) (by decide) (by omega)).mpr z))
          have hgeo := td_ps_on (w := w0) (s := i) (j := 1) hw h64 (by omega)
          refine lv_iload_n hx hb d_X1_border_48 rfl (lv_at hl 3 rfl) ?_
          refine lv_bipush (v := 8) hx hb d_X1_border_49 (by decide) ?_
          refine lv_idiv hx hb d_X1_border_51 (by decide) ?_
          refine lv_iload hx hb d_X1_border_52 (lv_at hl 5 rfl) ?_
          refine vp_callSi (W.runS (As := [.int (nI w0)]) (rest := [.int ((nI i) / 8)]) ⟨hx, hb, hml, hown, hts⟩ (m_X1_rowWay l (nI w0)) (va_cwS 1 hts (tw_S ml_X1_52 st_X1_rowWay in_X1 kw_X1_rowWay) rfl rfl rfl (by decide +kernel) ⟨Nat.le_of_ble_eq_true rfl, Nat.le_of_ble_eq_true rfl⟩) ⟨fun _ _ _ _ q => q, fun U hU hW => ⟨rfl, trivial⟩⟩ rfl rfl hl.1 rfl (lv_room (Nat.le_of_ble_eq_true rfl)) d_X1_border_54 ⟨Nat.zero_le _, Nat.zero_le _⟩) (fun r h9 => ?_)
          subst h9
          refine lv_iadd hx hb d_X1_border_57 ?_
          refine td_i (y := (td_r w0 i 1)) (rfl) ?_
          refine lv_istore hx hb d_X1_border_58 hl (by decide) rfl (fun ls hl => ?_)
          have hl : lv_has ls 8 [(6, .int (td_r w0 i 1)), (0, .ref o), (1, .int q0), (2, .int (nI (td_cn (fun u => decide ((td_lv ce 0) u = 0) && td_nbs (td_lv ce 0) (q0 + 1) u) i))), (3, .int (nI i)), (4, .int y0), (5, .int (nI w0))] := hl
          refine lv_iload_n hx hb d_X1_border_60 rfl (lv_at hl 4 rfl) ?_
          refine lv_bipush (v := 8) hx hb d_X1_border_61 (by decide) ?_
          refine lv_irem hx hb d_X1_border_63 (by decide) ?_
          refine lv_iload hx hb d_X1_border_64 (lv_at hl 6 rfl) ?_
          refine vp_callSi (W.runS (As := [.int (nI w0)]) (rest := [.int ((nI i) - (nI i) / 8 * 8)]) ⟨hx, hb, hml, hown, hts⟩ (m_X1_columnWay l (nI w0)) (va_cwS 1 hts (tw_S ml_X1_56 st_X1_columnWay in_X1 kw_X1_columnWay) rfl rfl rfl (by decide +kernel) ⟨Nat.le_of_ble_eq_true rfl, Nat.le_of_ble_eq_true rfl⟩) ⟨fun _ _ _ _ q => q, fun U hU hW => ⟨rfl, trivial⟩⟩ rfl rfl hl.1 rfl (lv_room (Nat.le_of_ble_eq_true rfl)) d_X1_border_66 ⟨Nat.zero_le _, Nat.zero_le _⟩) (fun r h9 => ?_)
          subst h9
          refine lv_iadd hx hb d_X1_border_69 ?_
          refine td_i (y := (td_c w0 i 1)) (rfl) ?_
          refine lv_istore hx hb d_X1_border_70 hl (by decide) rfl (fun ls hl => ?_)
          have hl : lv_has ls 8 [(7, .int (td_c w0 i 1)), (6, .int (td_r w0 i 1)), (0, .ref o), (1, .int q0), (2, .int (nI (td_cn (fun u => decide ((td_lv ce 0) u = 0) && td_nbs (td_lv ce 0) (q0 + 1) u) i))), (3, .int (nI i)), (4, .int y0), (5, .int (nI w0))] := hl
          refine td_joini 107 ls [] (fun x => (x = 1 ∧ (y0 = 1 ∨ td_nb (td_lv ce 0) (q0 + 1) i w0)) ∨ (x = 0 ∧ y0 = 0 ∧ ¬ td_nb (td_lv ce 0) (q0 + 1) i w0)) (fun x ex => ?_) (fun J => ?_)
          · refine lv_istore hx hb d_X1_border_107 hl (by decide) rfl (fun ls hl => ?_)
            have hl : lv_has ls 8 [(4, .int x), (7, .int (td_c w0 i 1)), (6, .int (td_r w0 i 1)), (0, .ref o), (1, .int q0), (2, .int (nI (td_cn (fun u => decide ((td_lv ce 0) u = 0) && td_nbs (td_lv ce 0) (q0 + 1) u) i))), (3, .int (nI i)), (5, .int (nI w0))] := hl
            refine lv_iinc (k := 7) (v := (nI (w0 + 1))) hx hb d_X1_border_109 hl rfl ((nI_succ w0).symm) (by decide) rfl (fun ls hl => ?_)
            have hl : lv_has ls 8 [(5, .int (nI (w0 + 1))), (4, .int x), (7, .int (td_c w0 i 1)), (6, .int (td_r w0 i 1)), (0, .ref o), (1, .int q0), (2, .int (nI (td_cn (fun u => decide ((td_lv ce 0) u = 0) && td_nbs (td_lv ce 0) (q0 + 1) u) i))), (3, .int (nI i))] := hl
            refine lv_goto (tgt := 41) hx hb d_X1_border_112 (by decide) ?_
            have hl1 := lv_sub hl [4, 5, 6, 7, 1, 0] rfl
            exact ih2 (w0 + 1, x) _ (by show 8 - (w0 + 1) < 8 - w0; omega) ⟨⟨hw, by
              rcases ex with ⟨e1, e2⟩ | ⟨e1, e2, e3⟩
              · refine Or.inl ⟨e1, ?_⟩
                rcases e2 with e2 | e2
                · obtain ⟨v, hv, hn⟩ := hor.elim (fun y => y.2) (fun y => absurd (y.1.symm.trans e2) (by decide))
                  exact ⟨v, Nat.lt_succ_of_lt hv, hn⟩
                · exact ⟨w0, Nat.lt_succ_self _, e2⟩
              · refine Or.inr ⟨e1, fun v hv => ?_⟩
                by_cases hvw : v = w0
                · rw [hvw]; exact e3
                · exact hor.elim (fun y => absurd (y.1.symm.trans e2) (by decide)) (fun y => y.2 v (by have : v < w0 + 1 := hv; omega))⟩, hl1⟩
          · refine td_joinu 102 ls [] (y0 = 1 ∨ td_nb (td_lv ce 0) (q0 + 1) i w0) (fun hy => ?_) (fun J3 => ?_)
            · refine lv_iconst (v := 1) hx hb d_X1_border_102 (by decide) ?_
              refine lv_goto (tgt := 107) hx hb d_X1_border_103 (by decide) ?_
              exact J _ (Or.inl ⟨rfl, hy⟩)
            · refine lv_iload hx hb d_X1_border_72 (lv_at hl 6 rfl) ?_
              refine lv_if_ne (tgt := 102) hx hb d_X1_border_74 (by decide) (fun h5 => ?_) (fun h5 => ?_)
              · exact J3 (Or.inl (hor.elim (fun y => y.1) (fun y => absurd y.1 h5)))
              · refine lv_iload hx hb d_X1_border_77 (lv_at hl 1 rfl) ?_
                refine lv_iload hx hb d_X1_border_79 (lv_at hl 0 rfl) ?_
                refine vp_callSi (W.runS (As := [.int (td_r w0 i 1), .int (td_c w0 i 1)]) (rest := []) ⟨hx, hb, hml, hown, hts⟩ (m_X1_isOn l (td_r w0 i 1) (td_c w0 i 1)) (va_cwS 2 hts (tw_S ml_X1_59 st_X1_isOn in_X1 kw_X1_isOn) rfl rfl rfl (by decide +kernel) ⟨Nat.le_of_ble_eq_true rfl, Nat.le_of_ble_eq_true rfl⟩) ⟨fun _ _ _ _ q => q, fun U hU hW => ⟨rfl, trivial⟩⟩ rfl rfl hl.1 rfl (lv_room (Nat.le_of_ble_eq_true rfl)) d_X1_border_81 ⟨Nat.zero_le _, Nat.zero_le _⟩) (fun r hq => ?_)
                refine lv_if_eq (tgt := 106) hx hb d_X1_border_84 (by decide) (fun h6 => ?_) (fun h6 => ?_)
                · refine lv_iconst (v := 0) hx hb d_X1_border_106 (by decide) ?_
                  exact J _ (Or.inr ⟨rfl, h5, fun z => hq.elim (fun y => absurd (y.2.symm.trans h6) (by decide)) (fun y => y.1 (hgeo.mpr z.1))⟩)
                · have hon := hq.elim (fun y => y.1) (fun y => absurd y.2 h6)
                  obtain ⟨g1, g2, g3, g4⟩ := td_geo hw h64 (by omega) hon
                  refine lv_aload_n hx hb d_X1_border_87 rfl (lv_at hl 2 rfl) ?_
                  refine lv_iconst (v := 0) hx hb d_X1_border_88 (by decide) ?_
                  refine lv_iload hx hb d_X1_border_89 (lv_at hl 1 rfl) ?_
                  refine lv_iload hx hb d_X1_border_91 (lv_at hl 0 rfl) ?_
                  refine vp_callSi (W.runV (b := o) (C := RX1) (As := [.int 0, .int (td_r w0 i 1), .int (td_c w0 i 1)]) (rest := []) ⟨hx, hb, hml, hown, hts⟩ (m_X1_cellOf l D o (q 1) cI [.int (td_bad q0 1), .ref (q 1), .ref (q 2), .ref (q 3), .ref (q 4), .int md, .ref (q 6), .ref (q 7), .ref (q 8), .ref (q 9), .int ch, .ref (q 11), .int sc, .ref (q 13)] rfl ce 0 (by decide) _ _ (td_ps w0 i 1 / 8) (td_ps w0 i 1 % 8) (by omega) (by omega) g2 g3) (cwV 3 hts (tw_V ml_X1_63 im_X1_cellOf se_X1_cellOf in_X1 kw_X1_cellOf) rfl rfl rfl (by decide +kernel) ⟨Nat.le_of_ble_eq_true rfl, Nat.le_of_ble_eq_true rfl⟩) ⟨fun a U g mk q => ⟨q.1, q.2.1, va_K.moved (u := U) (U := U.calling g mk a) (Vm.Alike.refl U.vm) q.2.2⟩, va_recv (q0 := 0) (ci := 1) hK hP rfl rfl, fun U hU hW => ⟨rfl, by rw [hU]; exact hP2, va_K.moved hW.alike hK⟩⟩ rfl rfl hl.1 rfl (lv_room (Nat.le_of_ble_eq_true rfl)) d_X1_border_93 ⟨Nat.zero_le _, Nat.zero_le _⟩) (fun r h9 => ?_)
                  subst h9
                  refine td_i (y := (td_lv ce 0 (td_ps w0 i 1))) (by rw [Nat.div_add_mod]; rfl) ?_
                  refine lv_iload_n hx hb d_X1_border_96 rfl (lv_at hl 3 rfl) ?_
                  refine lv_iconst (v := 1) hx hb d_X1_border_97 (by decide) ?_
                  refine lv_iadd hx hb d_X1_border_98 ?_
                  refine lv_icmp_ne (tgt := 106) hx hb d_X1_border_99 (by decide) (fun h7 => ?_) (fun h7 => ?_)
                  · refine lv_iconst (v := 0) hx hb d_X1_border_106 (by decide) ?_
                    exact J _ (Or.inr ⟨rfl, h5, fun z => h7 z.2⟩)
                  · exact J3 (Or.inr ⟨g1, h7⟩)
  · refine lv_iload_n hx hb d_X1_border_1 rfl (lv_at hl 1 rfl) ?_
    refine lv_if_lt (tgt := 10) hx hb d_X1_border_2 (by decide) (fun h0 => ?_) (fun h0 => ?_)
    · refine lv_iconst (v := 1) hx hb d_X1_border_10 (by decide) ?_
      refine lv_goto (tgt := 15) hx hb d_X1_border_11 (by decide) ?_
      exact J _ (by unfold td_bad; rw [if_pos (Or.inl h0)])
    · refine lv_iload_n hx hb d_X1_border_5 rfl (lv_at hl 1 rfl) ?_
      refine lv_iconst (v := 1) hx hb d_X1_border_6 (by decide) ?_
      refine lv_icmp_le (tgt := 14) hx hb d_X1_border_7 (by decide) (fun h1 => ?_) (fun h1 => ?_)
      · refine lv_iconst (v := 0) hx hb d_X1_border_14 (by decide) ?_
        exact J _ (by unfold td_bad; rw [if_neg (fun z => z.elim h0 (fun z => absurd z (Int32.not_lt.mpr h1)))])
      · refine lv_iconst (v := 1) hx hb d_X1_border_10 (by decide) ?_
        refine lv_goto (tgt := 15) hx hb d_X1_border_11 (by decide) ?_
        exact J _ (by unfold td_bad; rw [if_pos (Or.inr (Int32.not_le.mp h1))])
set_option maxHeartbeats 4000000 in
set_option maxRecDepth 100000 in
theorem m_X1_safe (l : Launch) (D : va_G) (sz : Nat) (o : Nat) (q : Nat → Nat) (th md ch sc : Int32) (cI : ClassId) (ce mv : Nat → Int32) (q0 : Int32) : Met l y_X1_safe (k_X1_safe :: tw) ({ frames := 2, cells := 0, slots := 0, locals := 48 }) (va_Pc [.ref o, .int q0] (fun U => U.heap.size = sz ∧ va_P D tdC [(o, .inr (1, [.int th, .ref (q 1), .ref (q 2), .ref (q 3), .ref (q 4), .int md, .ref (q 6), .ref (q 7), .ref (q 8), .ref (q 9), .int ch, .ref (q 11), .int sc, .ref (q 13)])), ((q 1), .inl (cI, 1216, .inl ce)), ((q 2), .inl (cI, 19, .inl mv))] U.heap ∧ va_K D tdC [(cI, .int)] U ∧ va_D (fun _ => True) [(o, .inr (1, [.int th, .ref (q 1), .ref (q 2), .ref (q 3), .ref (q 4), .int md, .ref (q 6), .ref (q 7), .ref (q 8), .ref (q 9), .int ch, .ref (q 11), .int sc, .ref (q 13)])), ((q 1), .inl (cI, 1216, .inl ce)), ((q 2), .inl (cI, 19, .inl mv))])) (va_Ql (fun (r : Int64) (_ : Unit) => td_bad q0 1 = 0 → r = td_bs (fun u => td_sf (td_lv ce 0) q0 u) 64) (fun (_ : Unit) t => va_P D tdC [(o, .inr (1, [.int (td_bad q0 1), .ref (q 1), .ref (q 2), .ref (q 3), .ref (q 4), .int md, .ref (q 6), .ref (q 7), .ref (q 8), .ref (q 9), .int ch, .ref (q 11), .int sc, .ref (q 13)])), ((q 1), .inl (cI, 1216, .inl ce)), ((q 2), .inl (cI, 19, .inl mv))] t.heap ∧ va_K D tdC [(cI, .int)] t ∧ va_D (va_A [(o, .inr (1, [.int th, .ref (q 1), .ref (q 2), .ref (q 3), .ref (q 4), .int md, .ref (q 6), .ref (q 7), .ref (q 8), .ref (q 9), .int ch, .ref (q 11), .int sc, .ref (q 13)])), ((q 1), .inl (cI, 1216, .inl ce)), ((q 2), .inl (cI, 19, .inl mv))] sz) [(o, .inr (1, [.int (td_bad q0 1), .ref (q 1), .ref (q 2), .ref (q 3), .ref (q 4), .int md, .ref (q 6), .ref (q 7), .ref (q 8), .ref (q 9), .int ch, .ref (q 11), .int sc, .ref (q 13)])), ((q 1), .inl (cI, 1216, .inl ce)), ((q 2), .inl (cI, 19, .inl mv))]) (va_A [(o, .inr (1, [.int th, .ref (q 1), .ref (q 2), .ref (q 3), .ref (q 4), .int md, .ref (q 6), .ref (q 7), .ref (q 8), .ref (q 9), .int ch, .ref (q 11), .int sc, .ref (q 13)])), ((q 1), .inl (cI, 1216, .inl ce)), ((q 2), .inl (cI, 19, .inl mv))] sz)) 0 0 (va_A [(o, .inr (1, [.int th, .ref (q 1), .ref (q 2), .ref (q 3), .ref (q 4), .int md, .ref (q 6), .ref (q 7), .ref (q 8), .ref (q 9), .int ch, .ref (q 11), .int sc, .ref (q 13)])), ((q 1), .inl (cI, 1216, .inl ce)), ((q 2), .inl (cI, 19, .inl mv))] sz) := by
  refine Met.ofW (cc := c_X1_safe) (maxL := 7) (ret := (some .long)) (by decide) rfl ?_
  intro p e s m args below meth c s₁ B hml hv
  obtain ⟨rfl, hsz, hP, hK, hD0⟩ := hv
  have hx := B.exec
  have hb := B.bytes
  have hr := B.returns
  have hts : ∀ w ∈ tw, w.before _ s = true := fun w h => atoms_spec (ws := k_X1_safe :: tw) B.pre w (List.mem_cons_of_mem _ h)
  have hown : s.vm.findClass RX1 = some m.cls := findClass_of_methodNamed B.named
  have hlocks := B.notSynchronized
  subst hsz
  have hD := hD0.self (sz := s.heap.size)
  generalize hAe : va_A [(o, .inr (1, [.int th, .ref (q 1), .ref (q 2), .ref (q 3), .ref (q 4), .int md, .ref (q 6), .ref (q 7), .ref (q 8), .ref (q 9), .int ch, .ref (q 11), .int sc, .ref (q 13)])), ((q 1), .inl (cI, 1216, .inl ce)), ((q 2), .inl (cI, 19, .inl mv))] s.heap.size = A at hD ⊢
  have hA : ∀ q : Nat, s.heap.size ≤ q → A q := fun q h => by rw [← hAe]; exact Or.inr h
  have hS : va_S A s.heap s.heap [] := va_S.rf
  have hP : va_P D tdC [(o, .inr (1, [.int th, .ref (q 1), .ref (q 2), .ref (q 3), .ref (q 4), .int md, .ref (q 6), .ref (q 7), .ref (q 8), .ref (q 9), .int ch, .ref (q 11), .int sc, .ref (q 13)])), ((q 1), .inl (cI, 1216, .inl ce)), ((q 2), .inl (cI, 19, .inl mv))] s.heap := hP
  have hl := lv_entry ([.ref o, .int q0]) (n := 7) (Nat.le_of_ble_eq_true rfl)
  rw [lg_entry_eq]
  generalize (lg_sl ([.ref o, .int q0]) ++ List.replicate (7 - (lg_sl ([.ref o, .int q0])).length) Slot.unset).toArray = ls at hl ⊢
  have hl : lv_has ls 7 [(0, .ref o), (1, .int q0)] := hl
  refine lv_aload_n hx hb d_X1_safe_0 rfl (lv_at hl 0 rfl) ?_
  refine td_joini 15 ls [.ref o] (fun x => x = td_bad q0 1) (fun x ex => ?_) (fun J => ?_)
  · subst ex
    refine va_put (D := D) (ci := 1) (v := .int (td_bad q0 1)) (ty := .int) (C := RX1) (T := TX1) (N := 14) hx hb hts usX1 tyX1 tyX1_ok nmX1 hown hK hP hD hS 0 rfl rfl 0 (by decide) (hts _ fl_X1_45) (fun _ h9 => h9) rfl (by decide +kernel) rfl rfl (Nat.le_of_ble_eq_true rfl) d_X1_safe_15 (fun H locs hP hD hS => ?_)
    have hP : va_P D tdC [(o, .inr (1, [.int (td_bad q0 1), .ref (q 1), .ref (q 2), .ref (q 3), .ref (q 4), .int md, .ref (q 6), .ref (q 7), .ref (q 8), .ref (q 9), .int ch, .ref (q 11), .int sc, .ref (q 13)])), ((q 1), .inl (cI, 1216, .inl ce)), ((q 2), .inl (cI, 19, .inl mv))] H := hP
    have hD : va_D A [(o, .inr (1, [.int (td_bad q0 1), .ref (q 1), .ref (q 2), .ref (q 3), .ref (q 4), .int md, .ref (q 6), .ref (q 7), .ref (q 8), .ref (q 9), .int ch, .ref (q 11), .int sc, .ref (q 13)])), ((q 1), .inl (cI, 1216, .inl ce)), ((q 2), .inl (cI, 19, .inl mv))] := hD
    have hP2 := hP.sub (ws' := [(o, .inr (1, [.int (td_bad q0 1), .ref (q 1), .ref (q 2), .ref (q 3), .ref (q 4), .int md, .ref (q 6), .ref (q 7), .ref (q 8), .ref (q 9), .int ch, .ref (q 11), .int sc, .ref (q 13)])), ((q 1), .inl (cI, 1216, .inl ce))]) [0, 1] rfl
    refine lv_lconst (v := 0) hx hb d_X1_safe_18 (by decide) ?_
    refine lv_lstore_n hx hb d_X1_safe_19 rfl hl (by decide) rfl (fun ls hl => ?_)
    have hl : lv_has ls 7 [(2, .long 0), (0, .ref o), (1, .int q0)] := hl
    refine lv_iconst (v := 0) hx hb d_X1_safe_20 (by decide) ?_
    refine lv_istore hx hb d_X1_safe_21 hl (by decide) rfl (fun ls hl => ?_)
    have hl : lv_has ls 7 [(4, .int 0), (2, .long 0), (0, .ref o), (1, .int q0)] := hl
    have hl0 := lv_sub hl [2, 3, 1, 0] rfl
    refine td_loop 23 [] (fun i : Nat => 64 - i) (fun i ls => i ≤ 64 ∧ lv_has ls 7 [(0, .ref o), (1, .int q0), (2, .long (td_bs (fun u => td_sf (td_lv ce 0) q0 u) i)), (4, .int (nI i))]) (fun i ls hC ih => ?_) 0 ⟨Nat.zero_le _, hl0⟩
    clear hl hl0
    obtain ⟨hi, hl⟩ := hC
    have hl : lv_has ls 7 [(0, .ref o), (1, .int q0), (2, .long (td_bs (fun u => td_sf (td_lv ce 0) q0 u) i)), (4, .int (nI i))] := hl
    refine lv_iload hx hb d_X1_safe_23 (lv_at hl 3 rfl) ?_
    refine lv_bipush (v := 64) hx hb d_X1_safe_25 (by decide) ?_
    refine lv_icmp_ge (tgt := 133) hx hb d_X1_safe_27 (by decide) (fun h1 => ?_) (fun h1 => ?_)
    · have h64 : i = 64 := Nat.le_antisymm hi ((nI_leI (a := 64) (b := i) (by decide) (by omega)).mp h1)
      subst h64
      refine lv_lload_n hx hb d_X1_safe_133 rfl (lv_at hl 2 rfl) ?_
      exact W.lret (v := (td_bs (fun u => td_sf (td_lv ce 0) q0 u) 64)) hx hb hr (fun t ht hW => ⟨⟨_, (), rfl, fun _ => rfl, by rw [ht]; exact hP, va_K.moved hW.alike hK, hD⟩, hS.F ht⟩) hS.2.2 d_X1_safe_134
    · have h64 : i < 64 := Nat.lt_of_not_le (fun z => h1 ((nI_leI (a := 64) (b := i) (by decide) (by omega)).mpr z))
      have hcs := td_bs_s (fun u => td_sf (td_lv ce 0) q0 u) i
      refine lv_aload_n hx hb d_X1_safe_30 rfl (lv_at hl 0 rfl) ?_
      refine va_get (D := D) (ci := 1) (v := .int (td_bad q0 1)) (C := RX1) (T := TX1) (N := 14) hx hb hts usX1 hown hK hP 0 rfl rfl 0 (by decide) (hts _ fl_X1_45) (fun _ h9 => h9) rfl d_X1_safe_31 ?_
      refine lv_if_ne (tgt := 133) hx hb d_X1_safe_34 (by decide) (fun h3 => ?_) (fun h3 => ?_)
      · refine lv_lload_n hx hb d_X1_safe_133 rfl (lv_at hl 2 rfl) ?_
        exact W.lret (v := (td_bs (fun u => td_sf (td_lv ce 0) q0 u) i)) hx hb hr (fun t ht hW => ⟨⟨_, (), rfl, fun z => absurd z h3, by rw [ht]; exact hP, va_K.moved hW.alike hK, hD⟩, hS.F ht⟩) hS.2.2 d_X1_safe_134
      · refine lv_aload_n hx hb d_X1_safe_37 rfl (lv_at hl 0 rfl) ?_
        refine va_get (D := D) (ci := 1) (v := .ref (q 1)) (C := RX1) (T := TX1) (N := 14) hx hb hts usX1 hown hK hP 0 rfl rfl 1 (by decide) (hts _ fl_X1_7) (fun _ h9 => h9) rfl d_X1_safe_38 ?_
        refine lv_iload hx hb d_X1_safe_41 (lv_at hl 3 rfl) ?_
        refine va_iald hx hb hK hP 1 0 rfl rfl (vp_in_nI (show i < 1216 by omega) (by decide)) d_X1_safe_43 ?_
        refine td_i (y := (td_lv ce 0 i)) (by rw [nI_clamp (by omega)]; unfold td_lv; rw [Nat.mul_zero, Nat.zero_add]) ?_
        refine lv_iload_n hx hb d_X1_safe_44 rfl (lv_at hl 1 rfl) ?_
        refine lv_iconst (v := 1) hx hb d_X1_safe_45 (by decide) ?_
        refine lv_iadd hx hb d_X1_safe_46 ?_
        refine td_joini 55 ls [] (fun x => (x = 1 ∧ (td_lv ce 0) i = q0 + 1) ∨ (x = 0 ∧ ¬ (td_lv ce 0) i = q0 + 1)) (fun x ex => ?_) (fun J => ?_)
        · refine lv_istore hx hb d_X1_safe_55 hl (by decide) rfl (fun ls hl => ?_)
          have hl : lv_has ls 7 [(5, .int x), (0, .ref o), (1, .int q0), (2, .long (td_bs (fun u => td_sf (td_lv ce 0) q0 u) i)), (4, .int (nI i))] := hl
          refine lv_iconst (v := 0) hx hb d_X1_safe_57 (by decide) ?_
          refine lv_istore hx hb d_X1_safe_58 hl (by decide) rfl (fun ls hl => ?_)
          have hl : lv_has ls 7 [(6, .int 0), (5, .int x), (0, .ref o), (1, .int q0), (2, .long (td_bs (fun u => td_sf (td_lv ce 0) q0 u) i)), (4, .int (nI i))] := hl
          have hl0 := lv_sub hl [2, 3, 4, 5, 1, 0] rfl
          refine td_loop 60 [] (fun z : Nat × Int32 => 4 - z.1) (fun z ls => (z.1 ≤ 4 ∧ ((z.2 = 1 ∧ (td_lv ce 0) i = q0 + 1 ∧ ∀ v, v < z.1 → (td_fu (td_lv ce 0) q0 v i = true ∨ td_fu (td_lv ce 0) q0 (7 - v) i = true)) ∨ (z.2 = 0 ∧ ¬ td_sf (td_lv ce 0) q0 i = true))) ∧ lv_has ls 7 [(0, .ref o), (1, .int q0), (2, .long (td_bs (fun u => td_sf (td_lv ce 0) q0 u) i)), (4, .int (nI i)), (5, .int (z.2)), (6, .int (nI z.1))]) (fun z ls hC ih2 => ?_) (0, x) ⟨⟨Nat.zero_le _, ex.elim (fun y => Or.inl ⟨y.1, y.2, fun v h => absurd h (Nat.not_lt_zero v)⟩) (fun y => Or.inr ⟨y.1, fun z => y.2 ((td_sf_iff _ _ _).mp z).1⟩)⟩, hl0⟩
          clear hl hl0
          obtain ⟨hi, hl⟩ := hC
          have hl : lv_has ls 7 [(0, .ref o), (1, .int q0), (2, .long (td_bs (fun u => td_sf (td_lv ce 0) q0 u) i)), (4, .int (nI i)), (5, .int (z.2)), (6, .int (nI z.1))] := hl
          obtain ⟨w0, y0⟩ := z
          obtain ⟨hw8, hor⟩ := hi
          dsimp only at hw8 hor
          have hl : lv_has ls 7 [(0, .ref o), (1, .int q0), (2, .long (td_bs (fun u => td_sf (td_lv ce 0) q0 u) i)), (4, .int (nI i)), (5, .int y0), (6, .int (nI w0))] := hl
          refine td_joinu 111 ls [] ((y0 = 1 ∧ td_sf (td_lv ce 0) q0 i = true) ∨ (y0 = 0 ∧ ¬ td_sf (td_lv ce 0) q0 i = true)) (fun hy => ?_) (fun J3 => ?_)
          · refine td_joinl 126 ls [] (fun x => x = td_bs (fun u => td_sf (td_lv ce 0) q0 u) (i + 1)) (fun x ex => ?_) (fun J => ?_)
            · subst ex
              refine lv_lstore_n hx hb d_X1_safe_126 rfl hl (by decide) rfl (fun ls hl => ?_)
              have hl : lv_has ls 7 [(2, .long (td_bs (fun u => td_sf (td_lv ce 0) q0 u) (i + 1))), (0, .ref o), (1, .int q0), (4, .int (nI i)), (5, .int y0), (6, .int (nI w0))] := hl
              refine lv_iinc (k := 3) (v := (nI (i + 1))) hx hb d_X1_safe_127 hl rfl ((nI_succ i).symm) (by decide) rfl (fun ls hl => ?_)
              have hl : lv_has ls 7 [(4, .int (nI (i + 1))), (2, .long (td_bs (fun u => td_sf (td_lv ce 0) q0 u) (i + 1))), (0, .ref o), (1, .int q0), (5, .int y0), (6, .int (nI w0))] := hl
              refine lv_goto (tgt := 23) hx hb d_X1_safe_130 (by decide) ?_
              have hl1 := lv_sub hl [2, 3, 1, 0] rfl
              exact ih (i + 1) _ (by omega) ⟨h64, hl1⟩
            · refine lv_iload hx hb d_X1_safe_111 (lv_at hl 4 rfl) ?_
              refine lv_if_eq (tgt := 125) hx hb d_X1_safe_113 (by decide) (fun h5 => ?_) (fun h5 => ?_)
              · refine lv_lload_n hx hb d_X1_safe_125 rfl (lv_at hl 2 rfl) ?_
                exact J _ (by rw [hcs, if_neg (hy.elim (fun y => absurd (y.1.symm.trans h5) (by decide)) (fun y => y.2))])
              · refine lv_lload_n hx hb d_X1_safe_116 rfl (lv_at hl 2 rfl) ?_
                refine lv_lconst (v := 1) hx hb d_X1_safe_117 (by decide) ?_
                refine lv_iload hx hb d_X1_safe_118 (lv_at hl 3 rfl) ?_
                refine lv_lshl (v := (td_lshl 1 (nI i))) hx hb d_X1_safe_120 rfl ?_
                refine lv_lor hx hb d_X1_safe_121 ?_
                refine lv_goto (tgt := 126) hx hb d_X1_safe_122 (by decide) ?_
                exact J _ (by rw [hcs, if_pos (hy.elim (fun y => y.2) (fun y => absurd y.1 h5))])
          · refine lv_iload hx hb d_X1_safe_60 (lv_at hl 5 rfl) ?_
            refine lv_iconst (v := 4) hx hb d_X1_safe_62 (by decide) ?_
            refine lv_icmp_ge (tgt := 111) hx hb d_X1_safe_63 (by decide) (fun h4 => ?_) (fun h4 => ?_)
            · have hw : w0 = 4 := Nat.le_antisymm hw8 ((nI_leI (a := 4) (b := w0) (by decide) (by omega)).mp h4)
              subst hw
              exact J3 (hor.elim (fun y => Or.inl ⟨y.1, (td_sf_iff _ _ _).mpr y.2⟩) (fun y => Or.inr y))
            · have hw : w0 < 4 := Nat.lt_of_not_le (fun z => h4 ((nI_leI (a := 4) (b := w0) (by decide) (by omega)).mpr z))
              refine lv_iload hx hb d_X1_safe_66 (lv_at hl 4 rfl) ?_
              refine lv_if_eq (tgt := 111) hx hb d_X1_safe_68 (by decide) (fun h5 => ?_) (fun h5 => ?_)
              · exact J3 (hor.elim (fun y => absurd (y.1.symm.trans h5) (by decide)) (fun y => Or.inr y))
              · obtain ⟨y1, y2, y3⟩ := hor.elim (fun y => y) (fun y => absurd y.1 h5)
                refine td_joini 103 ls [] (fun x => (x = 1 ∧ (td_fu (td_lv ce 0) q0 w0 i = true ∨ td_fu (td_lv ce 0) q0 (7 - w0) i = true)) ∨ (x = 0 ∧ ¬ (td_fu (td_lv ce 0) q0 w0 i = true ∨ td_fu (td_lv ce 0) q0 (7 - w0) i = true))) (fun x ex => ?_) (fun J => ?_)
                · refine lv_istore hx hb d_X1_safe_103 hl (by decide) rfl (fun ls hl => ?_)
                  have hl : lv_has ls 7 [(5, .int x), (0, .ref o), (1, .int q0), (2, .long (td_bs (fun u => td_sf (td_lv ce 0) q0 u) i)), (4, .int (nI i)), (6, .int (nI w0))] := hl
                  refine lv_iinc (k := 5) (v := (nI (w0 + 1))) hx hb d_X1_safe_105 hl rfl ((nI_succ w0).symm) (by decide) rfl (fun ls hl => ?_)
                  have hl : lv_has ls 7 [(6, .int (nI (w0 + 1))), (5, .int x), (0, .ref o), (1, .int q0), (2, .long (td_bs (fun u => td_sf (td_lv ce 0) q0 u) i)), (4, .int (nI i))] := hl
                  refine lv_goto (tgt := 60) hx hb d_X1_safe_108 (by decide) ?_
                  have hl1 := lv_sub hl [2, 3, 4, 5, 1, 0] rfl
                  exact ih2 (w0 + 1, x) _ (by show 4 - (w0 + 1) < 4 - w0; omega) ⟨⟨hw, ex.elim (fun y => Or.inl ⟨y.1, y2, fun v hv => by
                    by_cases hvw : v = w0
                    · rw [hvw]; exact y.2
                    · exact y3 v (by have : v < w0 + 1 := hv; omega)⟩) (fun y => Or.inr ⟨y.1, fun z => y.2 (((td_sf_iff _ _ _).mp z).2 w0 hw)⟩)⟩, hl1⟩
                · refine td_joinu 98 ls [] (td_fu (td_lv ce 0) q0 w0 i = true ∨ td_fu (td_lv ce 0) q0 (7 - w0) i = true) (fun hy => ?_) (fun J4 => ?_)
                  · refine lv_iconst (v := 1) hx hb d_X1_safe_98 (by decide) ?_
                    refine lv_goto (tgt := 103) hx hb d_X1_safe_99 (by decide) ?_
                    exact J _ (Or.inl ⟨rfl, hy⟩)
                  · refine lv_aload_n hx hb d_X1_safe_71 rfl (lv_at hl 0 rfl) ?_
                    refine lv_iload hx hb d_X1_safe_72 (lv_at hl 3 rfl) ?_
                    refine lv_iload hx hb d_X1_safe_74 (lv_at hl 5 rfl) ?_
                    refine lv_iload_n hx hb d_X1_safe_76 rfl (lv_at hl 1 rfl) ?_
                    refine vp_callSi (W.runV (b := o) (C := RX1) (As := [.int (nI i), .int (nI w0), .int q0]) (rest := []) ⟨hx, hb, hml, hown, hts⟩ (m_X1_isFull l D o (q 1) cI [.int (td_bad q0 1), .ref (q 1), .ref (q 2), .ref (q 3), .ref (q 4), .int md, .ref (q 6), .ref (q 7), .ref (q 8), .ref (q 9), .int ch, .ref (q 11), .int sc, .ref (q 13)] rfl ce i h64 w0 (by omega) q0) (cwV 3 hts (tw_V ml_X1_130 im_X1_isFull se_X1_isFull in_X1 kw_X1_isFull) rfl rfl rfl (by decide +kernel) ⟨Nat.le_of_ble_eq_true rfl, Nat.le_of_ble_eq_true rfl⟩) ⟨fun a U g mk q => ⟨q.1, q.2.1, va_K.moved (u := U) (U := U.calling g mk a) (Vm.Alike.refl U.vm) q.2.2⟩, va_recv (q0 := 0) (ci := 1) hK hP rfl rfl, fun U hU hW => ⟨rfl, by rw [hU]; exact hP2, va_K.moved hW.alike hK⟩⟩ rfl rfl hl.1 rfl (lv_room (Nat.le_of_ble_eq_true rfl)) d_X1_safe_77 ⟨Nat.zero_le _, Nat.zero_le _⟩) (fun r hq => ?_)
                    refine lv_if_ne (tgt := 98) hx hb d_X1_safe_80 (by decide) (fun h6 => ?_) (fun h6 => ?_)
                    · exact J4 (Or.inl (hq.elim (fun y => y.1) (fun y => absurd y.2 h6)))
                    · refine lv_aload_n hx hb d_X1_safe_83 rfl (lv_at hl 0 rfl) ?_
                      refine lv_iload hx hb d_X1_safe_84 (lv_at hl 3 rfl) ?_
                      refine lv_bipush (v := 7) hx hb d_X1_safe_86 (by decide) ?_
                      refine lv_iload hx hb d_X1_safe_88 (lv_at hl 5 rfl) ?_
                      refine lv_isub hx hb d_X1_safe_90 ?_
                      refine td_i (y := (nI (7 - w0))) (by show nI 7 - nI w0 = _; exact pk_sub (by omega)) ?_
                      refine lv_iload_n hx hb d_X1_safe_91 rfl (lv_at hl 1 rfl) ?_
                      refine vp_callSi (W.runV (b := o) (C := RX1) (As := [.int (nI i), .int (nI (7 - w0)), .int q0]) (rest := []) ⟨hx, hb, hml, hown, hts⟩ (m_X1_isFull l D o (q 1) cI [.int (td_bad q0 1), .ref (q 1), .ref (q 2), .ref (q 3), .ref (q 4), .int md, .ref (q 6), .ref (q 7), .ref (q 8), .ref (q 9), .int ch, .ref (q 11), .int sc, .ref (q 13)] rfl ce i h64 (7 - w0) (by omega) q0) (cwV 3 hts (tw_V ml_X1_130 im_X1_isFull se_X1_isFull in_X1 kw_X1_isFull) rfl rfl rfl (by decide +kernel) ⟨Nat.le_of_ble_eq_true rfl, Nat.le_of_ble_eq_true rfl⟩) ⟨fun a U g mk q => ⟨q.1, q.2.1, va_K.moved (u := U) (U := U.calling g mk a) (Vm.Alike.refl U.vm) q.2.2⟩, va_recv (q0 := 0) (ci := 1) hK hP rfl rfl, fun U hU hW => ⟨rfl, by rw [hU]; exact hP2, va_K.moved hW.alike hK⟩⟩ rfl rfl hl.1 rfl (lv_room (Nat.le_of_ble_eq_true rfl)) d_X1_safe_92 ⟨Nat.zero_le _, Nat.zero_le _⟩) (fun r hq2 => ?_)
                      refine lv_if_eq (tgt := 102) hx hb d_X1_safe_95 (by decide) (fun h7 => ?_) (fun h7 => ?_)
                      · refine lv_iconst (v := 0) hx hb d_X1_safe_102 (by decide) ?_
                        exact J _ (Or.inr ⟨rfl, fun z => z.elim (fun z => hq.elim (fun y => absurd (y.2.symm.trans h6) (by decide)) (fun y => y.1 z)) (fun z => hq2.elim (fun y => absurd (y.2.symm.trans h7) (by decide)) (fun y => y.1 z))⟩)
                      · exact J4 (Or.inr (hq2.elim (fun y => y.1) (fun y => absurd y.2 h7)))
        · refine lv_icmp_ne (tgt := 54) hx hb d_X1_safe_47 (by decide) (fun h4 => ?_) (fun h4 => ?_)
          · refine lv_iconst (v := 0) hx hb d_X1_safe_54 (by decide) ?_
            exact J _ (Or.inr ⟨rfl, h4⟩)
          · refine lv_iconst (v := 1) hx hb d_X1_safe_50 (by decide) ?_
            refine lv_goto (tgt := 55) hx hb d_X1_safe_51 (by decide) ?_
            exact J _ (Or.inl ⟨rfl, h4⟩)
  · refine lv_iload_n hx hb d_X1_safe_1 rfl (lv_at hl 1 rfl) ?_
    refine lv_if_lt (tgt := 10) hx hb d_X1_safe_2 (by decide) (fun h0 => ?_) (fun h0 => ?_)
    · refine lv_iconst (v := 1) hx hb d_X1_safe_10 (by decide) ?_
      refine lv_goto (tgt := 15) hx hb d_X1_safe_11 (by decide) ?_
      exact J _ (by unfold td_bad; rw [if_pos (Or.inl h0)])
    · refine lv_iload_n hx hb d_X1_safe_5 rfl (lv_at hl 1 rfl) ?_
      refine lv_iconst (v := 1) hx hb d_X1_safe_6 (by decide) ?_
      refine lv_icmp_le (tgt := 14) hx hb d_X1_safe_7 (by decide) (fun h1 => ?_) (fun h1 => ?_)
      · refine lv_iconst (v := 0) hx hb d_X1_safe_14 (by decide) ?_
        exact J _ (by unfold td_bad; rw [if_neg (fun z => z.elim h0 (fun z => absurd z (Int32.not_lt.mpr h1)))])
      · refine lv_iconst (v := 1) hx hb d_X1_safe_10 (by decide) ?_
        refine lv_goto (tgt := 15) hx hb d_X1_safe_11 (by decide) ?_
        exact J _ (by unfold td_bad; rw [if_pos (Or.inr (Int32.not_le.mp h1))])
end
