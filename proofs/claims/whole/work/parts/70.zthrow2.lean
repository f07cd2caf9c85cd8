theorem tx_face {args a' : Array Value} {s U : State} (hW : s.WarmedH U.vm) {c : Cond} (hc : c ∈ tx_E) (h : c.before args s = true) : c.before a' U = true := by
  have h0 : c.onTables = true ∧ c.keepsFace = true := by
    have : ∀ c ∈ tx_E, c.onTables = true ∧ c.keepsFace = true := by decide +kernel
    exact this c hc
  have h1 : c.before args (s.setVm U.vm) = true := Cond.before_shiftedFace (State.Shifted.of_warmed hW) c h0.2 h
  have h2 := Cond.onTables_vm (A := args) (A' := a') (U := s) (U' := U) U.vm c h0.1
  rw [State.setVm_self] at h2
  rw [← h2]
  exact h1
/-- a static of Throwable's that holds a reference or null -/
def sy_L (C n d : String) (A : Nat → Prop) (U : State) (H : Heap) : Prop := ∃ (c : ClassId) (k : Class) (i : Nat) (f : Field) (a : Nat) (x : Cell), U.vm.findClass C = some c ∧ U.fieldFound? C n d = some (c, k, i, f) ∧ f.isStatic = true ∧ k.statics = some a ∧ H[a]? = some x ∧ x.vm.isStatics = true ∧ x.cls = c ∧ f.slot < x.slots.size ∧ k.staticTypes[f.slot]? = some f.type ∧ (x.slots[f.slot]? = some .null ∨ ∃ t, x.slots[f.slot]? = some (.ref t)) ∧ ¬ A a
theorem sy_L.kept {C n d : String} {A : Nat → Prop} {U : State} {H H1 : Heap} (h : sy_L C n d A U H) (hq : ∀ a : Nat, a < H.size → ¬ A a → H1[a]? = H[a]?) : sy_L C n d A U H1 := by
  obtain ⟨c, k, i, f, a, x, h1, h2, h3, h4, h5, h6⟩ := h
  exact ⟨c, k, i, f, a, x, h1, h2, h3, h4, by rw [hq a (Array.getElem?_eq_some_iff.mp h5).1 h6.2.2.2.2.2]; exact h5, h6⟩
theorem sy_L.narrow {C n d : String} {A B : Nat → Prop} {U : State} {H : Heap} (h : sy_L C n d A U H) (hAB : ∀ q, B q → A q) : sy_L C n d B U H := by
  obtain ⟨c, k, i, f, a, x, h1, h2, h3, h4, h5, h6, h7, h8, h9, h10, h11⟩ := h
  exact ⟨c, k, i, f, a, x, h1, h2, h3, h4, h5, h6, h7, h8, h9, h10, fun z => h11 (hAB a z)⟩
theorem sy_L.moved {C n d : String} {A : Nat → Prop} {u U : State} {H : Heap} (hvm : u.vm.Alike U.vm) (h : sy_L C n d A u H) : sy_L C n d A U H := by
  obtain ⟨c, k, i, f, a, x, h1, h2, h3, h4, h5, h6, h7, h8, h9, h10⟩ := h
  obtain ⟨k', hi', he⟩ := State.fieldFound?_setVm hvm h2
  exact ⟨c, k', i, f, a, x, by rw [hvm.findClass]; exact h1, hi', h3, by rw [he]; exact h4, h5, h6, h7, h8, by rw [he]; exact h9, h10⟩
theorem sy_L.lays {C n d : String} {A : Nat → Prop} {U : State} {args : Array Value} (h : sy_L C n d A U U.heap) : (Cond.laysStatic C n d).before args U = true := by
  obtain ⟨c, k, i, f, a, x, h1, h2, h3, h4, h5, h6, h7, h8, h9, h10, h11⟩ := h
  simp [Cond.before, Cond.holds, Cond.value, h1, h2, h3, h4, h5, h6, h7, h8, h9]
theorem sy_L.isRef {C n d : String} {A : Nat → Prop} {U : State} {args : Array Value} (h : sy_L C n d A U U.heap) : (Cond.isRef (.static C n d)).before args U = true := by
  obtain ⟨c, k, i, f, a, x, h1, h2, h3, h4, h5, h6, h7, h8, h9, h10, h11⟩ := h
  have key : ∀ v, x.slots[f.slot]? = some v → (Term.static C n d).eval args U none [] U = some v := fun v hv => by
    simp [Term.eval, State.fieldNamed?, h2, h3, h4, h5, h6, hv]
  rcases h10 with z | ⟨t, z⟩
  · simp [Cond.before, Cond.holds, Cond.value, key _ z]
  · simp [Cond.before, Cond.holds, Cond.value, key _ z]
theorem sy_L.of {C n d : String} {A : Nat → Prop} {U : State} {args : Array Value} (h1 : (Cond.laysStatic C n d).before args U = true) (h2 : (Cond.isRef (.static C n d)).before args U = true) (hA : ∀ a : Nat, a < U.heap.size → ¬ A a) : sy_L C n d A U U.heap := by
  obtain ⟨c, k, i, f, a, x, hc, hi, hst, ha, hx, hs, hcls, hlt, hty⟩ := Cond.laysStatic_spec h1
  refine ⟨c, k, i, f, a, x, hc, hi, hst, ha, hx, hs, hcls, hlt, hty, ?_, hA a (Array.getElem?_eq_some_iff.mp hx).1⟩
  cases hv : (Term.static C n d).eval args U none [] U with
  | none => simp [Cond.before, Cond.holds, Cond.value, hv] at h2
  | some w =>
    obtain ⟨-, a', x', ha', hx', -, hslot⟩ := Term.static_spec hi hv
    cases ha.symm.trans ha'
    cases hx.symm.trans hx'
    simp only [Cond.before, Cond.holds, Cond.value, hv] at h2
    cases w with
    | null => exact Or.inl hslot
    | ref t => exact Or.inr ⟨t, hslot⟩
    | _ => simp at h2
/-- an IllegalStateException is no IllegalArgumentException -/
def sy_N (U : State) : Prop := ∀ c d : ClassId, U.vm.findClass "java/lang/IllegalStateException" = some c → U.vm.findClass "java/lang/IllegalArgumentException" = some d → U.vm.assignable c d = false
/-- what throwing needs beside the words -/
def Sy (A : Nat → Prop) (U : State) (H : Heap) : Prop := (∀ w ∈ tx_E, w.before #[] U = true) ∧ sy_L Bundle.tN "UNASSIGNED_STACK" Bundle.steD A U H ∧ sy_L Bundle.tN "SUPPRESSED_SENTINEL" Bundle.listD A U H ∧ sy_N U
theorem Sy.kept {A : Nat → Prop} {U : State} {H H1 : Heap} (h : Sy A U H) (hq : ∀ a : Nat, a < H.size → ¬ A a → H1[a]? = H[a]?) : Sy A U H1 := ⟨h.1, h.2.1.kept hq, h.2.2.1.kept hq, h.2.2.2⟩
theorem Sy.narrow {A B : Nat → Prop} {U : State} {H : Heap} (h : Sy A U H) (hAB : ∀ q, B q → A q) : Sy B U H := ⟨h.1, h.2.1.narrow hAB, h.2.2.1.narrow hAB, h.2.2.2⟩
theorem Sy.warm {A : Nat → Prop} {s U : State} {H : Heap} (hW : s.WarmedH U.vm) (h : Sy A s H) : Sy A U H := ⟨fun w hw => tx_face hW hw (h.1 w hw), h.2.1.moved hW.alike, h.2.2.1.moved hW.alike, fun c d h1 h2 => by rw [hW.alike.assignable]; exact h.2.2.2 c d (by rw [← hW.alike.findClass]; exact h1) (by rw [← hW.alike.findClass]; exact h2)⟩
/-- all the words that a throw asks for -/
theorem tx_words {A : Nat → Prop} {U : State} {args : Array Value} (hts : ∀ w ∈ WS, w.before args U = true) (h : Sy A U U.heap) {a : Cond} (ha : tx_ok a) : a.before args U = true := by
  rcases ha with z | z | rfl | rfl | rfl | rfl
  · exact hts a z
  · exact tx_face (State.WarmedH.refl U) z (h.1 a z)
  · exact h.2.1.lays
  · exact h.2.2.1.lays
  · exact h.2.1.isRef
  · exact h.2.2.1.isRef
