section TCA
variable {e : Env} {s : State} {f : JFrame} {a : Addr}
/-- a row of the table that names a class, resolved or not: it takes the object, or the search goes on; in both cases the class is then noted -/
theorem tc_go {Q : Handler → Pre} {E : CtlPost} {d : Bool} {acts : List Action} {x : ExceptionTableEntry} {t : List ExceptionTableEntry} {c : ClassId} {o : Cell} (hx : covers x f.pc = true) (h0 : x.catchType ≠ 0) (hl : s.vm.ClassLinks e.platform f.method.cls x.catchType c) (ho : s.heap[a]? = some o) (hs : ∀ k, o.vm ≠ .statics k)
    (hk : ∃ k, s.vm.classes[o.cls]? = some k) (hc : ∃ k, s.vm.classes[c]? = some k) {V : Vm} (hV : V = s.vm.noted f.method.cls x.catchType (.cls c)) :
    wp (findHandler.go f a (x :: t)) Q E e d acts s ↔ (if s.vm.assignable o.cls c = true then Q (.found x.handlerPc) d acts (s.setVm V) else wp (findHandler.go f a t) Q E e d acts (s.setVm V)) := by
  subst hV
  have hA : s.vm.Alike (s.vm.noted f.method.cls x.catchType (.cls c)) := (Vm.Alike.refl s.vm).noted _ _ _
  obtain ⟨h1, h2⟩ := (resolveClass_links e.toSetting hl).op (op := VmOp.resolveClass f.method.cls x.catchType) rfl
  obtain ⟨k1, hk1⟩ := hk
  obtain ⟨k2, hk2⟩ := hc
  obtain ⟨j1, hj1, -⟩ := hA.2.2 _ _ hk1
  obtain ⟨j2, hj2, -⟩ := hA.2.2 _ _ hk2
  have hg : (s.vm.noted f.method.cls x.catchType (.cls c)).assignable o.cls c = s.vm.assignable o.cls c := hA.assignable _ _
  simp only [covers] at hx
  cases hfit : s.vm.assignable o.cls c <;> rw [hfit] at hg <;> simp [findHandler.go, hx, h0, h1, h2, ho, hs, hj1, hj2, hg, VmOp.dirties, VmOp.acts]
/-- caught, with what the search has noted -/
theorem tc_caught {tb : Tables} {target : State} {g : JFrame} {c : Code} {below : List Frame} (h : At s g.method c below) {pc : Nat} {V : Vm}
    (hf : ∀ (Q : Handler → Pre) (E : CtlPost) (d : Bool) (acts : List Action), wp (findHandler g a) Q E e d acts ((s.setTop g).pushFrame (.throwing a)) ↔ Q (.found pc) d acts (((s.setTop g).pushFrame (.throwing a)).setVm V))
    (hrest : Steps tb e below ((s.setVm V).setTop { g with pc := pc, stack := [.ref a] }) target) : Steps tb e below ((s.setTop g).pushFrame (.throwing a)) target := by
  obtain ⟨g0, hg⟩ := Option.isSome_iff_exists.mp h.top
  obtain ⟨r, hr⟩ := State.topJava?_eq_some.mp hg
  have hr2 : (s.setVm V).frames = .java g0 :: r := hr
  have key : (stepThrowing e ((s.setTop g).pushFrame (.throwing a)) a (.java g :: s.frames.tail)).1 = (s.setVm V).setTop { g with pc := pc, stack := [.ref a] } := by
    simp only [stepThrowing, searchFrame, vmDo]
    generalize hq : Sem.go _ e false [] ((s.setTop g).pushFrame (.throwing a)) = res
    obtain ⟨as, rfl, -⟩ := Sem.eq_ok_of hq (a := Handler.found pc) (s' := ((s.setTop g).pushFrame (.throwing a)).setVm V) (acts' := []) (by simp [hf _ _ _ _])
    show (((s.setTop g).pushFrame (.throwing a)).setVm V).setFrames _ = _
    rw [State.setTop_of_frames _ hr2, State.setTop_of_frames _ hr, hr, State.pushFrame, State.setFrames_setFrames]
    show ((s.setVm V).setFrames _).setFrames _ = _
    rw [State.setFrames_setFrames]
    rfl
  obtain ⟨hgo, hw⟩ := h.throwing a
  refine Steps.head hgo hw ?_
  rw [stepThread_throwing (frames_entered h.top _), key]
  exact hrest
end TCA
