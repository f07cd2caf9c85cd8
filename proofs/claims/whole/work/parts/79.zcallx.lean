/-- the rows of a table lead an object of class Xn, thrown at pc, to hpc -/
def tc_C (own Xn : String) (pc hpc : Nat) (s : State) : List (Nat × Nat × Nat × Nat) → Prop
  | [] => False
  | (a, b, h, t) :: r => a ≤ pc ∧ pc < b ∧ t ≠ 0 ∧ ∃ Y : String, Cond.classLink own t Y ∈ WS ∧ ((Y = Xn ∧ h = hpc) ∨ ((∀ c d, s.vm.findClass Xn = some c → s.vm.findClass Y = some d → s.vm.assignable c d = false) ∧ tc_C own Xn pc hpc s r))
def tc_t (h : ExceptionTableEntry) : Nat × Nat × Nat × Nat := (h.startPc, h.endPc, h.handlerPc, h.catchType)
theorem tc_find {e : Env} {s : State} {args : Array Value} {f : JFrame} {x hpc : Nat} {own Xn : String} {ce : Cell} (hpl : e.platform.magicAccessors = ({} : Platform).magicAccessors) (hown : s.vm.findClass own = some f.method.cls) (hts : ∀ w ∈ WS, w.before args s = true) (hcl : s.vm.findClass Xn = some ce.cls) (hself : s.vm.assignable ce.cls ce.cls = true) (hcv : ce.vm = .none) :
    ∀ (es : List ExceptionTableEntry) (S : State), s.WarmedH S.vm → S.heap[x]? = some ce → tc_C own Xn f.pc hpc s (es.map tc_t) →
      ∃ V, s.WarmedH V ∧ ∀ (Q : Handler → Pre) (E : CtlPost) (d : Bool) (acts : List Action), wp (findHandler.go f x es) Q E e d acts S ↔ Q (.found hpc) d acts (S.setVm V) := by
  intro es
  induction es with
  | nil => intro S _ _ h; exact absurd h (fun z => z)
  | cons y ys ih =>
    intro S hW hce h
    obtain ⟨h1, h2, h3, Y, hY, h4⟩ := h
    obtain ⟨cY, hcY, hl⟩ := Cond.classLink_spec hown (hts _ hY) e.platform hpl
    obtain ⟨dk, _, _, kt, hd, _, _, _, _, hkt, _, hopen⟩ := hl.here
    have hlS := hW.classLinks hl
    obtain ⟨k0, hk0⟩ := Vm.classAt_of_findClass hcl
    obtain ⟨k0', hk0', -⟩ := hW.alike.2.2 _ _ hk0
    obtain ⟨kt', hkt', -⟩ := hW.alike.2.2 _ _ hkt
    have hcov : covers y f.pc = true := by simp only [covers]; simp; exact ⟨h1, h2⟩
    have hWn : s.WarmedH (S.vm.noted f.method.cls y.catchType (.cls cY)) := hW.noted hd hopen (State.rightAt_cls hl)
    have hgo : ∀ (Q : Handler → Pre) (E : CtlPost) (d : Bool) (acts : List Action), _ := fun Q E d acts => tc_go (Q := Q) (E := E) (d := d) (acts := acts) (t := ys) (e := e) (s := S) (f := f) (a := x) hcov h3 hlS hce (fun k hk => by rw [hcv] at hk; cases hk) ⟨k0', hk0'⟩ ⟨kt', hkt'⟩ rfl
    rcases h4 with ⟨rfl, h5⟩ | ⟨h5, h6⟩
    · cases hcY.symm.trans hcl
      refine ⟨_, hWn, fun Q E d acts => ?_⟩
      rw [hgo, if_pos (by rw [hW.alike.assignable]; exact hself)]
      rw [show y.handlerPc = hpc from h5]
    · obtain ⟨V, hWV, hV⟩ := ih (S.setVm (S.vm.noted f.method.cls y.catchType (.cls cY))) hWn hce h6
      refine ⟨V, hWV, fun Q E d acts => ?_⟩
      rw [hgo, if_neg (by rw [hW.alike.assignable, h5 _ _ hcl hcY]; decide)]
      exact hV Q E d acts
