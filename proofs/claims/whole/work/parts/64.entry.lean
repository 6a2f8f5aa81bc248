/-! what the Statement gives at the law's entry -/
theorem en_ex {args : Array Value} {s : State} {own tx : String} {k : Nat} (h1 : (Cond.stringRef own k tx).before args s = true) (h2 : (Cond.exactly (.string own k) "java/lang/String").before args s = true) : ∃ sa, vk_R own k tx sa s := by
  obtain ⟨a, ha⟩ : ∃ a, (Term.string own k).eval args s none [] s = some (.ref a) := by
    have h3 := Cond.exactly_spec (args := args) (first := s) (s := s) (idx := []) h2
    obtain ⟨a, _, _, _, h4, _⟩ := h3
    exact ⟨a, h4⟩
  exact ⟨a, vk_R.of (A := args) h1 ha⟩
theorem en_tr {l : Launch} (h : l.flags = flags0) : l.stackTraces = false := by
  unfold Launch.stackTraces
  rw [h]
  decide +kernel
theorem en_X {b : Nat} {s : State} (hts : ∀ w ∈ lw_tbl, w.before #[Value.ref b] s = true) (hg : (Jvm.Cond.and given_1 narrow_1).before #[Value.ref b] s = true) : td_X s.heap.size s ∧ va_Nc td_ise td_iae s := by
  have hs := flat_of_before _ hg
  have hA : ∀ a : Nat, a < s.heap.size → ¬ s.heap.size ≤ a := fun a h z => by omega
  refine ⟨⟨vx_Zqof (hts _ (by decide +kernel)) (hts _ (by decide +kernel)) (hs _ (by decide +kernel)) hA, vx_Zqof (hts _ (by decide +kernel)) (hts _ (by decide +kernel)) (hs _ (by decide +kernel)) hA,
    va_Nw.of rfl (hts _ (by decide +kernel)), va_Nw.of rfl (hts _ (by decide +kernel)), va_Nw.of rfl (hts _ (by decide +kernel)), va_Nw.of rfl (hts _ (by decide +kernel)), va_Nw.of rfl (hts _ (by decide +kernel)), va_Nw.of rfl (hts _ (by decide +kernel)), fun q hq => ?_⟩, va_Nc.of (args := #[Value.ref b]) (hs _ (by decide +kernel))⟩
  unfold td_strs at hq
  simp only [List.mem_cons, List.not_mem_nil, or_false] at hq
  rcases hq with rfl | rfl | rfl | rfl | rfl | rfl | rfl | rfl | rfl <;> exact en_ex (args := #[Value.ref b]) (hts _ (by decide +kernel)) (hs _ (by decide +kernel))
