section TXA
variable {p : Program} {l : Launch} {e : Env} {R : Room} {s : State} {m : MethodId} {args : Array Value} {below : List Frame} {meth : Method} {c : Code} {T : State} {locs : List Loc} {cells slots : Nat}
/-- the invocation, as if it began with the heap that it has come to -/
abbrev tx_s (s T : State) : State := { s with heap := T.heap, slotsUsed := T.slotsUsed }
abbrev tx_R (R : Room) (cells slots : Nat) : Room := { frames := R.frames, cells := R.cells - cells, slots := R.slots - slots, locals := R.locals }
theorem tx_rebase (X : Stand p l e R s m args below meth c T locs cells slots) (hc : cells ≤ R.cells) (hs : slots ≤ R.slots) : Stand p l e (tx_R R cells slots) (tx_s s T) m args below meth c T [] 0 0 := by
  have hroom : (tx_s s T).hasRoom e.platform (tx_R R cells slots) = true := by
    have h := X.room
    have h1 := X.heapSize
    have h2 := X.used
    have h3 := X.book
    simp only [State.hasRoom, Bool.and_eq_true, decide_eq_true_eq] at h ⊢
    obtain ⟨⟨⟨⟨a1, a2⟩, a3⟩, a4⟩, a5⟩ := h
    refine ⟨⟨⟨⟨a1, a2⟩, ?_⟩, ?_⟩, h3⟩
    · show T.heap.size + (R.cells - cells) ≤ _; omega
    · show T.slotsUsed + (R.slots - slots) ≤ _; omega
  refine ⟨X.admits, X.cas, X.clock, X.frames, hroom, X.hears, X.method, X.code, X.here, X.tail, X.warmed, X.limits, X.bytes, ?_⟩
  have hsame := X.same.1
  refine ⟨hsame, Nat.le_refl _, Nat.le_add_right _ _, ?_, ?_, fun a c h => ⟨c, h, rfl, rfl, fun _ _ => rfl⟩⟩
  · show T.slotsUsed = T.slotsUsed + ((T.heap.toList.drop T.heap.size).map (·.slots.size)).sum
    rw [List.drop_eq_nil_of_le (by simp)]
    simp
  · show ((T.heap.toList.drop T.heap.size).map (·.slots.size)).sum ≤ 0
    rw [List.drop_eq_nil_of_le (by simp)]
    simp
theorem tx_isRef {C n d : String} {A : Nat → Prop} {U : State} (h : va_Zq C n d A U U.heap) : (Cond.isRef (.static C n d)).before args U = true := by
  have key : ∀ v, va_Z C n d v A U U.heap → (Term.static C n d).eval args U none [] U = some v := fun v hz => by
    obtain ⟨cf, kf, fi, f, a, x, h1, h2, h3, h4, h5, h6, h7, h8⟩ := hz
    simp [Term.eval, State.fieldNamed?, h1, h2, h4, h5, h6, h7]
  rcases h with h | ⟨t, h⟩
  · simp [Cond.before, Cond.holds, Cond.value, key _ h]
  · simp [Cond.before, Cond.holds, Cond.value, key _ h]
theorem tx_same {t : State} {k n : Nat} (X : Stand p l e R s m args below meth c T locs cells slots) (h : (tx_s s T).sameButNew ({ t with vm := (tx_s s T).vm } : State) [] k n) : s.sameButNew ({ t with vm := s.vm } : State) locs (cells + k) (slots + n) ∧ ∀ q : Nat, q < T.heap.size → t.heap[q]? = T.heap[q]? := by
  obtain ⟨e2, q2, q3, q4, q5, q6⟩ := h
  have hB : (T.setVm s.vm).sameButNew ({ t with vm := s.vm } : State) [] k n := by
    refine ⟨?_, q2, q3, q4, q5, q6⟩
    have e1 := X.same.1
    have h9 : ((tx_s s T).setFrames (T.setVm s.vm).frames).setFrames ({ t with vm := s.vm } : State).frames = (tx_s s T).setFrames ({ t with vm := s.vm } : State).frames := by rw [State.setFrames_setFrames]
    rw [e1]
    exact e2.trans (congrArg (fun Z : State => ({ Z with heap := t.heap, slotsUsed := t.slotsUsed } : State)) h9.symm)
  have hB2 := X.same.trans hB
  rw [List.append_nil] at hB2
  refine ⟨hB2, fun q hq => ?_⟩
  obtain ⟨x, hx⟩ : ∃ x, T.heap[q]? = some x := ⟨T.heap[q], Array.getElem?_eq_getElem hq⟩
  obtain ⟨y, hy, e3, e4, e5⟩ := q6 q x hx
  have e6 : y.slots = x.slots := Array.ext_getElem? (fun i => e5 i (by simp))
  rw [hx]
  show t.heap[q]? = some x
  rw [show t.heap[q]? = some y from hy, e3, e6]
end TXA
