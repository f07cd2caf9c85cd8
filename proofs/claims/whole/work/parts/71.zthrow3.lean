section TXB
variable {p : Program} {l : Launch} {e : Env} {R : Room} {s : State} {m : MethodId} {args : Array Value} {below : List Frame} {meth : Method} {c : Code} {H : Heap} {locs : List Loc} {cells slots : Nat} {Q : State → Prop}
variable {cc : ByteArray} {nL : Nat} {own X tx : String} {ik is ic str pc : Nat} {ls : Array Slot} {A : Nat → Prop}
/-- what stands behind a throw -/
def tx_Q (below : List Frame) (X : String) (s : State) (locs : List Loc) (cells slots : Nat) (H : Heap) (t : State) : Prop :=
  t.status = .running ∧ Ended t below (.threw H.size) ∧ s.WarmedH t.vm ∧ s.sameButNew ({ t with vm := s.vm } : State) locs cells slots ∧ (∀ q : Nat, q < H.size → t.heap[q]? = H[q]?) ∧ ∃ ce : Cell, t.heap[H.size]? = some ce ∧ s.vm.findClass X = some ce.cls ∧ s.vm.assignable ce.cls ce.cls = true ∧ ce.vm = .none
theorem tx_throw0 (hexec : p.tables.exec = Jvm.exec) (hb : c.code = cc) (hml : c.maxLocals = nL) (hls : ls.size = nL) (hown : s.vm.findClass own = some m.cls) (hl : l.stackTraces = false) (hts : ∀ w ∈ WS, w.before args s = true) (hSy : Sy A s s.heap)
    (hat : ∀ a ∈ Bundle.ownAtoms own ic X tx_up, tx_ok a) (hk : Cond.classLink own ik X ∈ WS) (hi : Cond.initialized X ∈ WS) (hn : Cond.instantiable X 6 ∈ WS) (hfit : Bundle.fit X = true) (hstr : vk_R own is tx str s)
    (d0 : decode cc pc = .ok (.new ik, 3)) (d3 : decode cc (pc + 3) = .ok (.dup, 1)) (d4 : decode cc (pc + 4) = .ok (.ldc is, 2)) (d6 : decode cc (pc + 6) = .ok (.invokespecial ic, 3)) (d9 : decode cc (pc + 9) = .ok (.athrow, 1))
    (hout : ∀ x ∈ c.exceptionTable.toList, covers x (pc + 9) = false) (hlocks : meth.locks = false) (hR : 5 < R.frames ∧ 82 ≤ R.locals ∧ 1 ≤ R.cells ∧ 6 ≤ R.slots) :
    W p l e R s m args below meth c s.heap [] 0 0 (tx_Q below X s [] 1 6 s.heap) (F0 m pc ls []) := by
  refine W.newc hexec hb (own := own) (C := X) (index := ik) (n := 6) hown (hts _ hk) (hts _ hn) (hts _ hi) rfl d0 (by omega) (by omega) (fun cC kC h1 h2 h3 h4 => ?_)
  refine lv_dup hexec hb d3 rfl ?_
  refine va_ldcS hexec hb hown hstr d4 ?_
  intro T hT X1
  have htr : e.platform.stackTraces = false := by rw [X1.admits.platform]; exact hl
  have hcell : T.heap[s.heap.size]? = some (freshCell cC kC) := by rw [hT]; simp [freshCell]
  obtain ⟨U, hsteps, hrun, hend, hW, hsame, ce, hce, K⟩ := X1.ctorThrowS hexec htr (own := own) (cls := X) (names := tx_up) (ic := ic) hown hfit (by decide +kernel)
    (fun a ha => tx_words hts hSy (hat a ha)) (fun x hx => by cases hx) h1 h2 hcell (Nat.le_refl _) (msg := .ref str) rfl
    (g := F0 m (pc + 6) ls [.ref str, .ref s.heap.size, .ref s.heap.size]) rfl (by rw [hml]; exact hls) rfl rfl (rest := []) rfl (by rw [hb]; exact d6) (by rw [hb]; exact d9) hout (by show 2 + 3 < _; omega) (by show 2 * 0 + 1 + (13 * (2 + 1) + 42) ≤ _; omega) hlocks
  refine ⟨U, hsteps, hrun, hend, hW, hsame, fun q hq => ?_, ce, hce, K.cls, K.self, K.vm⟩
  obtain ⟨x, hx⟩ : ∃ x, s.heap[q]? = some x := ⟨s.heap[q], Array.getElem?_eq_getElem hq⟩
  obtain ⟨y, hy, e3, e4, e5⟩ := hsame.2.2.2.2.2 q x hx
  have e6 : y.slots = x.slots := Array.ext_getElem? (fun i => e5 i (by simp))
  rw [hx]
  show U.heap[q]? = some x
  rw [show U.heap[q]? = some y from hy, e3, e6]
theorem tx_throw (hexec : p.tables.exec = Jvm.exec) (hb : c.code = cc) (hml : c.maxLocals = nL) (hls : ls.size = nL) (hown : s.vm.findClass own = some m.cls) (hl : l.stackTraces = false) (hts : ∀ w ∈ WS, w.before args s = true) (hSy : Sy A s s.heap) (hS : va_S A s.heap H locs)
    (hat : ∀ a ∈ Bundle.ownAtoms own ic X tx_up, tx_ok a) (hk : Cond.classLink own ik X ∈ WS) (hi : Cond.initialized X ∈ WS) (hn : Cond.instantiable X 6 ∈ WS) (hfit : Bundle.fit X = true) (hstr : vk_R own is tx str s)
    (d0 : decode cc pc = .ok (.new ik, 3)) (d3 : decode cc (pc + 3) = .ok (.dup, 1)) (d4 : decode cc (pc + 4) = .ok (.ldc is, 2)) (d6 : decode cc (pc + 6) = .ok (.invokespecial ic, 3)) (d9 : decode cc (pc + 9) = .ok (.athrow, 1))
    (hout : ∀ x ∈ c.exceptionTable.toList, covers x (pc + 9) = false) (hlocks : meth.locks = false) (hR : 5 < R.frames ∧ 82 ≤ R.locals ∧ cells + 1 ≤ R.cells ∧ slots + 6 ≤ R.slots)
    (kk : ∀ t : State, tx_Q below X s locs (cells + 1) (slots + 6) H t → Q t) : W p l e R s m args below meth c H locs cells slots Q (F0 m pc ls []) := by
  intro T hT X1
  subst hT
  have X2 := tx_rebase X1 (by omega) (by omega)
  have hts2 : ∀ w ∈ WS, w.before args (tx_s s T) = true := fun w hw => word_at (s := s) (U := tx_s s T) (State.WarmedH.refl s) (good_of_word (ws_good hw)) (hts w hw)
  have hSy2 : Sy A (tx_s s T) (tx_s s T).heap := (hSy.kept hS.2.1).warm (s := s) (U := tx_s s T) (State.WarmedH.refl s)
  obtain ⟨t, st, q1, q2, q3, q4, q5, ce, q6, q7, q8, q9⟩ := tx_throw0 (s := tx_s s T) (R := tx_R R cells slots) hexec hb hml hls hown hl hts2 hSy2 hat hk hi hn hfit (vk_R.warm (s := s) (U := tx_s s T) (State.WarmedH.refl s) hstr) d0 d3 d4 d6 d9 hout hlocks (by show 5 < R.frames ∧ 82 ≤ R.locals ∧ 1 ≤ R.cells - cells ∧ 6 ≤ R.slots - slots; omega) T rfl X2
  have hq := tx_same X1 q4
  exact ⟨t, st, kk t ⟨q1, q2, q3, hq.1, hq.2, ce, q6, q7, q8, q9⟩⟩
end TXB
