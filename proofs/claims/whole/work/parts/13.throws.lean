/-! what a throw needs of the state: the two statics of Throwable, words on casts and declarations, the texts -/
def td_iae : String := "java/lang/IllegalArgumentException"
def td_ise : String := "java/lang/IllegalStateException"
def td_nse : String := "java/util/NoSuchElementException"
def td_names : List String := ["java/lang/RuntimeException", "java/lang/Exception"]
def td_strs : List (Nat × String) := [(30, "a square is in both"), (154, "player is not 0 or 1"), (58, "square is not 0 .. 63"), (79, "no move, and no pass that must be made"), (86, "the row is full"), (95, "the row is empty"), (102, "n is not 0 .. 4"), (156, "more than 7 empty squares"), (122, "the row would be too long")]
def td_X (b0 : Nat) (U : State) : Prop :=
  vx_Zq Bundle.tN "UNASSIGNED_STACK" Bundle.steD (fun q => b0 ≤ q) U U.heap ∧ vx_Zq Bundle.tN "SUPPRESSED_SENTINEL" Bundle.listD (fun q => b0 ≤ q) U U.heap ∧
  va_Nw (.castable td_iae td_iae) U ∧ va_Nw (.castable td_ise td_ise) U ∧ va_Nw (.castable td_nse td_nse) U ∧
  va_Nw (.declares (Bundle.initS "java/lang/RuntimeException")) U ∧ va_Nw (.declares (Bundle.initS "java/lang/Exception")) U ∧ va_Nw (.declares (Bundle.initS "java/lang/Throwable")) U ∧
  ∀ q ∈ td_strs, ∃ sa, vk_R RX0 q.1 q.2 sa U
theorem td_X.at {b0 : Nat} {s U : State} (h : td_X b0 s) (hW : s.WarmedH U.vm) {H : Heap} (hU : U.heap = H) (hk : ∀ q : Nat, q < s.heap.size → q < b0 → H[q]? = s.heap[q]?) : td_X b0 U := by
  obtain ⟨h1, h2, h3, h4, h5, h6, h7, h8, h9⟩ := h
  refine ⟨?_, ?_, va_Nw.warmC hW h3, va_Nw.warmC hW h4, va_Nw.warmC hW h5, va_Nw.warmD hW h6, va_Nw.warmD hW h7, va_Nw.warmD hW h8, fun q hq => ?_⟩
  · rw [hU]; exact vx_Zq.kept (vx_Zq.moved hW.alike h1) (fun a h10 h11 => hk a h10 (Nat.lt_of_not_le h11))
  · rw [hU]; exact vx_Zq.kept (vx_Zq.moved hW.alike h2) (fun a h10 h11 => hk a h10 (Nat.lt_of_not_le h11))
  · obtain ⟨sa, h10⟩ := h9 q hq
    exact ⟨sa, vk_R.warm hW h10⟩
theorem td_X.blind {b0 : Nat} {U : State} {g : JFrame} {mk : MethodId} {a : Array Value} (h : td_X b0 U) : td_X b0 (U.calling g mk a) :=
  td_X.at h (State.WarmedH.refl U) (H := U.heap) rfl (fun _ _ _ => rfl)

theorem in_iae : Cond.initialized td_iae ∈ tw := tw_t (i := 6) (by decide +kernel) (by decide +kernel)
theorem ha_iae : ((vx_atS RX0 32 td_iae td_names).filter goodWord).all (fun w => decide (w ∈ tw)) = true := by decide +kernel
theorem hb_iae : ∀ w ∈ (vx_atS RX0 32 td_iae td_names).filter (fun w => !goodWord w), w ∈ [Cond.castable td_iae td_iae, .declares (Bundle.initS "java/lang/RuntimeException"), .declares (Bundle.initS "java/lang/Exception"), .declares (Bundle.initS "java/lang/Throwable")] := by decide +kernel
theorem hg_iae : ∀ w ∈ Cond.classLink RX0 28 td_iae :: Cond.initialized td_iae :: vx_atS RX0 32 td_iae td_names, vx_ot w = true := by decide +kernel
theorem td_hat_iae {args : Array Value} {s : State} {b0 : Nat} (hts : ∀ w ∈ tw, w.before args s = true) (h : td_X b0 s) : ∀ w ∈ vx_atS RX0 32 td_iae td_names, w.before args s = true := by
  obtain ⟨h1, h2, h3, h4, h5, h6, h7, h8, h9⟩ := h
  exact vx_hat (fun w hw => hts w (of_decide_eq_true (List.all_eq_true.mp ha_iae w hw))) hb_iae (vx_c (va_Nw.use rfl h3) (vx_c (va_Nw.use rfl h6) (vx_c (va_Nw.use rfl h7) (vx_c (va_Nw.use rfl h8) vx_n))))
section THiae
variable {p : Program} {l : Launch} {e : Env} {R : Room} {s : State} {m : MethodId} {args : Array Value} {below : List Frame} {meth : Method} {c : Code} {H : Heap} {locs : List Loc} {cells slots : Nat}
variable {mc ms : Nat} {ls : Array Slot} {rest : List Value} {Qc : Array Value → State → Outcome → State → Prop}
theorem td_thr_iae {cc : ByteArray} {pc : Nat} {A free : Nat → Prop} {PX : String → Prop} {b0 : Nat} (k : Nat) {is : Nat} {text : String} (hstr : td_strs[k]? = some (is, text)) (hexec : p.tables.exec = Jvm.exec) (hb : c.code = cc) (hl : l.stackTraces = false) (hown : s.vm.findClass RX0 = some m.cls) (hts : ∀ w ∈ tw, w.before args s = true) (hX : td_X b0 s) (hA : ∀ q, A q → b0 ≤ q) (hS : va_S A s.heap H locs) (hf : ∀ z ∈ locs, free z.base) (hsize : ls.size = c.maxLocals)
    (d0 : decode cc pc = .ok (.new 28, 3)) (d3 : decode cc (pc + 3) = .ok (.dup, 1)) (d4 : decode cc (pc + 4) = .ok (.ldc is, 2)) (d6 : decode cc (pc + 6) = .ok (.invokespecial 32, 3)) (d9 : decode cc (pc + 9) = .ok (.athrow, 1))
    (hout : ∀ x ∈ c.exceptionTable.toList, False) (hRf : 6 ≤ R.frames) (hRl : (rest.map fun v => v.category).sum + 82 ≤ R.locals) (hRc : cells + 1 ≤ R.cells) (hRs : slots + 6 ≤ R.slots) (hlocks : meth.locks = false) (hPX : PX td_iae) (hc : cells + 1 ≤ mc) (hs : slots + 6 ≤ ms) :
    W p l e R s m args below meth c H locs cells slots (vx_MQ below Qc (vx_X (fun _ : Unit => True) (fun E _ _ => PX E) A) args s mc ms free) (F0 m pc ls rest) := by
  obtain ⟨sa, hsa⟩ := hX.2.2.2.2.2.2.2.2 (is, text) (List.mem_of_getElem? hstr)
  exact vx_throwS (own := RX0) (cls := td_iae) (text := text) (names := td_names) (ik := 28) (is := is) (ic := 32) (A := A) hexec hb hl hown (by decide +kernel) (by decide +kernel) (hts _ cl_X0_28) (hts _ in_iae) hsa (td_hat_iae hts hX) hg_iae
    (hX.1.narrow hA) (hX.2.1.narrow hA) hS hsize d0 d3 d4 d6 d9 (fun x hx => (hout x hx).elim) (by show 2 + 3 < R.frames; omega) (by show _ + (13 * (2 + 1) + 43) ≤ R.locals; omega) hRc hRs hlocks
    (fun t hal hz hq => ⟨(), trivial, hPX, Nat.le_trans hS.1 hz, fun q h1 h2 => (hq q (Nat.lt_of_lt_of_le h1 hS.1)).trans (hS.2.1 q h1 h2)⟩) hf hc hs
end THiae
theorem in_ise : Cond.initialized td_ise ∈ tw := tw_t (i := 7) (by decide +kernel) (by decide +kernel)
theorem ha_ise : ((vx_atS RX0 88 td_ise td_names).filter goodWord).all (fun w => decide (w ∈ tw)) = true := by decide +kernel
theorem hb_ise : ∀ w ∈ (vx_atS RX0 88 td_ise td_names).filter (fun w => !goodWord w), w ∈ [Cond.castable td_ise td_ise, .declares (Bundle.initS "java/lang/RuntimeException"), .declares (Bundle.initS "java/lang/Exception"), .declares (Bundle.initS "java/lang/Throwable")] := by decide +kernel
theorem hg_ise : ∀ w ∈ Cond.classLink RX0 84 td_ise :: Cond.initialized td_ise :: vx_atS RX0 88 td_ise td_names, vx_ot w = true := by decide +kernel
theorem td_hat_ise {args : Array Value} {s : State} {b0 : Nat} (hts : ∀ w ∈ tw, w.before args s = true) (h : td_X b0 s) : ∀ w ∈ vx_atS RX0 88 td_ise td_names, w.before args s = true := by
  obtain ⟨h1, h2, h3, h4, h5, h6, h7, h8, h9⟩ := h
  exact vx_hat (fun w hw => hts w (of_decide_eq_true (List.all_eq_true.mp ha_ise w hw))) hb_ise (vx_c (va_Nw.use rfl h4) (vx_c (va_Nw.use rfl h6) (vx_c (va_Nw.use rfl h7) (vx_c (va_Nw.use rfl h8) vx_n))))
section THise
variable {p : Program} {l : Launch} {e : Env} {R : Room} {s : State} {m : MethodId} {args : Array Value} {below : List Frame} {meth : Method} {c : Code} {H : Heap} {locs : List Loc} {cells slots : Nat}
variable {mc ms : Nat} {ls : Array Slot} {rest : List Value} {Qc : Array Value → State → Outcome → State → Prop}
theorem td_thr_ise {cc : ByteArray} {pc : Nat} {A free : Nat → Prop} {PX : String → Prop} {b0 : Nat} (k : Nat) {is : Nat} {text : String} (hstr : td_strs[k]? = some (is, text)) (hexec : p.tables.exec = Jvm.exec) (hb : c.code = cc) (hl : l.stackTraces = false) (hown : s.vm.findClass RX0 = some m.cls) (hts : ∀ w ∈ tw, w.before args s = true) (hX : td_X b0 s) (hA : ∀ q, A q → b0 ≤ q) (hS : va_S A s.heap H locs) (hf : ∀ z ∈ locs, free z.base) (hsize : ls.size = c.maxLocals)
    (d0 : decode cc pc = .ok (.new 84, 3)) (d3 : decode cc (pc + 3) = .ok (.dup, 1)) (d4 : decode cc (pc + 4) = .ok (.ldc is, 2)) (d6 : decode cc (pc + 6) = .ok (.invokespecial 88, 3)) (d9 : decode cc (pc + 9) = .ok (.athrow, 1))
    (hout : ∀ x ∈ c.exceptionTable.toList, False) (hRf : 6 ≤ R.frames) (hRl : (rest.map fun v => v.category).sum + 82 ≤ R.locals) (hRc : cells + 1 ≤ R.cells) (hRs : slots + 6 ≤ R.slots) (hlocks : meth.locks = false) (hPX : PX td_ise) (hc : cells + 1 ≤ mc) (hs : slots + 6 ≤ ms) :
    W p l e R s m args below meth c H locs cells slots (vx_MQ below Qc (vx_X (fun _ : Unit => True) (fun E _ _ => PX E) A) args s mc ms free) (F0 m pc ls rest) := by
  obtain ⟨sa, hsa⟩ := hX.2.2.2.2.2.2.2.2 (is, text) (List.mem_of_getElem? hstr)
  exact vx_throwS (own := RX0) (cls := td_ise) (text := text) (names := td_names) (ik := 84) (is := is) (ic := 88) (A := A) hexec hb hl hown (by decide +kernel) (by decide +kernel) (hts _ cl_X0_84) (hts _ in_ise) hsa (td_hat_ise hts hX) hg_ise
    (hX.1.narrow hA) (hX.2.1.narrow hA) hS hsize d0 d3 d4 d6 d9 (fun x hx => (hout x hx).elim) (by show 2 + 3 < R.frames; omega) (by show _ + (13 * (2 + 1) + 43) ≤ R.locals; omega) hRc hRs hlocks
    (fun t hal hz hq => ⟨(), trivial, hPX, Nat.le_trans hS.1 hz, fun q h1 h2 => (hq q (Nat.lt_of_lt_of_le h1 hS.1)).trans (hS.2.1 q h1 h2)⟩) hf hc hs
end THise
/-- what lies below the old heap's end is as it was -/
theorem td_keep {D : va_G} {cl : List vw_C} {ws : va_W} {H H1 : Heap} (hP : va_P D cl ws H) (hk : ∀ q : Nat, q < H.size → ¬ H.size ≤ q → H1[q]? = H[q]?) : va_P D cl ws H1 :=
  va_P.kept hP (fun k q h => hk q.1 (hP k q h).lt (Nat.not_le.mpr (hP k q h).lt))
/-- a body with handlers that itself throws nothing -/
theorem td_ofWH {l : Launch} {y : MethodName} {ws ws' : List Cond} {rm : Room} {Pc : Array Value → State → Prop} {Qc : Array Value → State → Outcome → State → Prop} {mc ms : Nat} {free : Addr → Prop} {cc : ByteArray} {maxL : Nat} {ret : Option FieldType} {hh : List (Nat × Nat × Nat × Nat)}
    (hy : plainName y.cls = true) (hw : ws = Cond.codeWith y cc maxL ret hh :: ws')
    (body : ∀ p e s m args below meth c s₁, BodyLoose p l y (headSpec ws rm) cc maxL ret e s m args below meth c s₁ → c.maxLocals = maxL → c.exceptionTable.toList = tableOf hh → Pc args s →
      W p l e (headSpec ws rm).room s m args below meth c s.heap [] 0 0 (MQ below Qc args s mc ms free) (entryFrame m args maxL)) : Met l y ws rm Pc Qc mc ms free := by
  refine MetFree.of_bodyS (code := cc) (maxLocals := maxL) (ret := ret) hy ?_ ?_
  · intro args s m h hn
    obtain ⟨m9, meth, c, hn9, h1, h2, h3, h4, -, h5, h6, -⟩ := Cond.codeWith_spec (atoms_spec (ws := ws) h _ (by rw [hw]; exact List.mem_cons_self))
    cases hn.symm.trans hn9
    exact ⟨meth, c, h1, h2, h3, h4, h5, h6⟩
  · intro p e s m args below meth c s₁ B hml hP _
    have hh0 : s₁.heap = s.heap := by rw [B.state]; rfl
    have ht : c.exceptionTable.toList = tableOf hh := vx_table (x := y) B (atoms_spec (ws := ws) B.pre _ (by rw [hw]; exact List.mem_cons_self))
    obtain ⟨t, a1, o, b1, b2, b3⟩ := body p e s m args below meth c s₁ B hml ht hP s₁ hh0 (Stand.of_body B)
    exact ⟨t, o, a1, b1, b2, ⟨b3.1, b3.2⟩⟩
