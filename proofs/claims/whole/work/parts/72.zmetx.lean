/-- behind a method that returns a number or throws -/
def xQ {S : Type} (post : Int32 → S → Prop) (tp : String → S → Prop) (B : S → State → Prop) (A : Nat → Prop) (st : State) (o : Outcome) (t : State) : Prop :=
  ((∃ (v : Int32) (u : S), o = .returned (some (.int v)) ∧ post v u ∧ B u t) ∨ (∃ (x : Nat) (Xn : String) (u : S) (ce : Cell), o = .threw x ∧ tp Xn u ∧ B u t ∧ st.heap.size ≤ x ∧ t.heap[x]? = some ce ∧ st.vm.findClass Xn = some ce.cls ∧ st.vm.assignable ce.cls ce.cls = true ∧ ce.vm = .none)) ∧ va_F A st t
def xE (st : State) (t : State) (L : List Loc) (k n : Nat) : Prop := st.WarmedH t.vm ∧ st.sameButNew ({ t with vm := st.vm } : State) L k n
def xPre (G : GG) (vals : List Value) (wi : va_W) (sz : Nat) : Array Value → State → Prop := fun a U => zPre G vals wi sz a U ∧ Sy (va_A wi sz) U U.heap
def MetX {S : Type} (l : Launch) (G : GG) (sz : Nat) (y : MethodName) (cc : ByteArray) (maxL : Nat) (ret : Option FieldType) (rm : Room) (vals : List Value) (wi : va_W) (post : Int32 → S → Prop) (tp : String → S → Prop) (wo : S → va_W) : Prop :=
  MetFree l y (headSpec (Cond.code y cc maxL ret :: WS) rm) (xPre G vals wi sz) (fun _ _ _ _ _ => True) (fun _ st o t => xQ post tp (zB G wi sz wo) (va_A wi sz) st o t ∧ ∃ L, xE st t L rm.cells rm.slots ∧ ∀ q ∈ L, va_A wi sz q.base)
/-- what a walk that may throw knows besides -/
def Tx (X : XX) : Prop := match X with
  | (_, l, _, _, s, _, _, _, meth, c, _, A) => l.stackTraces = false ∧ Sy A s s.heap ∧ (∀ pc : Nat, ∀ x ∈ c.exceptionTable.toList, covers x pc = false) ∧ meth.locks = false
/-- a method's end by a throw -/
def RT {S : Type} (G : GG) (X : XX) (tp : String → S → Prop) (wo : S → va_W) : Prop := match X with
  | (_, _, _, _, s, _, _, below, _, _, Q, A) => ∀ (Xn : String) (u : S) (H : Heap) (locs : List Loc) (t : State), tp Xn u → va_P G.1 cls (wo u) H → va_D A (wo u) → va_S A s.heap H locs → tx_Q below Xn s locs 1 6 H t → Q t
theorem va_P_same {G : GG} {ws : va_W} {H H1 : Heap} (h : va_P G.1 cls ws H) (hq : ∀ q : Nat, q < H.size → H1[q]? = H[q]?) : va_P G.1 cls ws H1 :=
  h.kept (fun k q hk => hq q.1 ((h k q hk).lt))
theorem MetX.mk {S : Type} {l : Launch} {G : GG} {sz : Nat} {y : MethodName} {cc : ByteArray} {maxL : Nat} {ret : Option FieldType} {rm : Room} {vals : List Value} {wi : va_W} {post : Int32 → S → Prop} {tp : String → S → Prop} {wo : S → va_W} (hy : plainName y.cls = true) (hlen : (lg_sl vals).length ≤ maxL) (hl : l.stackTraces = false) (hrm : 1 ≤ rm.cells ∧ 6 ≤ rm.slots)
    (body : ∀ X : XX, Cx G X cc maxL y.cls rm → Tx X → RI G X ret 0 0 post wo → RT G X tp wo → Zc G X maxL 0 0 wi (lv_args 0 vals) 0 []) : MetX l G sz y cc maxL ret rm vals wi post tp wo := by
  refine MetFree.of_bodyS (code := cc) (maxLocals := maxL) (ret := ret) hy ?_ ?_
  · intro args s m h hn
    obtain ⟨meth, c, h1, h2, h3, h4, h5, h6, -, -⟩ := Cond.code_spec hn (atoms_spec (ws := Cond.code y cc maxL ret :: WS) h _ List.mem_cons_self)
    exact ⟨meth, c, h1, h2, h3, h4, h5, h6⟩
  · intro p e s m args below meth c s₁ B hml hv _
    obtain ⟨⟨rfl, hsz, hP, hK, hD0, hSx⟩, hSy⟩ := hv
    have hts := atoms_spec (ws := Cond.code y cc maxL ret :: WS) B.pre
    have hcode := hts _ List.mem_cons_self
    have hown : s.vm.findClass y.cls = some m.cls := findClass_of_methodNamed B.named
    subst hsz
    have hD := hD0.self (sz := s.heap.size)
    have hh0 : s₁.heap = s.heap := by rw [B.state]; rfl
    have hW : W p l e rm s m vals.toArray below meth c s.heap [] 0 0 (fun t => ∃ o, t.status = .running ∧ Ended t below o ∧ xQ post tp (zB G wi s.heap.size wo) (va_A wi s.heap.size) s o t ∧ ∃ L, xE s t L rm.cells rm.slots ∧ ∀ q ∈ L, va_A wi s.heap.size q.base) (entryFrame m vals.toArray maxL) := by
      rw [lg_entry_eq]
      refine body (p, l, e, rm, s, m, vals.toArray, below, meth, c, _, va_A wi s.heap.size) ⟨B.exec, B.bytes, hml, hown, fun w h => hts w (List.mem_cons_of_mem _ h), hK, fun q h => Or.inr h, hSx, rfl⟩ ⟨hl, hSy, fun pc => covers_of_empty (B.noHandlers hcode) pc, B.notSynchronized⟩ ?_ ?_ s.heap [] _ hP hD va_S.rf (lv_entry vals hlen)
      · intro v u H locs ls pc ty hr hn hp hP hD hS hd
        have hr2 := B.returns
        have hz := W.zret (p := p) (l := l) (e := e) (R := rm) (s := s) (m := m) (args := vals.toArray) (below := below) (meth := meth) (c := c) (H := H) (locs := locs) (cells := 0) (slots := 0) (ls := ls) (Qc := va_Qi post (zB G wi s.heap.size wo) (va_A wi s.heap.size)) (free := va_A wi s.heap.size) (ty := ty) B.exec B.bytes (by rw [hr2, hr]) hn (fun t ht hW => ⟨⟨v, u, rfl, hp, by rw [ht]; exact hP, hD⟩, hS.F ht⟩) hS.2.2 (by rw [← B.bytes]; exact hd) B.notSynchronized
        intro T hT X1
        obtain ⟨t, st, o, h1, h2, ⟨⟨v', u', e1, hp', hB'⟩, hF⟩, L, ⟨-, hW1, hs1⟩, hL⟩ := hz T hT X1
        exact ⟨t, st, o, h1, h2, ⟨Or.inl ⟨v', u', e1, hp', hB'⟩, hF⟩, L, ⟨hW1, hs1.mono (Nat.zero_le _) (Nat.zero_le _)⟩, hL⟩
      · intro Xn u H locs t htp hP hD hS hq
        obtain ⟨q1, q2, q3, q4, q5, ce, q6, q7, q8, q9⟩ := hq
        have hsz : H.size ≤ t.heap.size := by have := (Array.getElem?_eq_some_iff.mp q6).1; omega
        exact ⟨.threw H.size, q1, q2, ⟨Or.inr ⟨H.size, Xn, u, ce, rfl, htp, ⟨va_P_same hP q5, hD⟩, hS.1, q6, q7, q8, q9⟩, Nat.le_trans hS.1 hsz, fun q hq hA => (q5 q (Nat.lt_of_lt_of_le hq hS.1)).trans (hS.2.1 q hq hA)⟩, locs, ⟨q3, q4.mono hrm.1 hrm.2⟩, hS.2.2⟩
    obtain ⟨t, a1, o, b1, b2, b3⟩ := hW s₁ hh0 (Stand.of_body B)
    exact ⟨t, o, a1, b1, b2, b3⟩
theorem z_throw {S : Type} {G : GG} {X : XX} {cc : ByteArray} {nL : Nat} {own : String} {rm : Room} {ws : va_W} {lv : List (Nat × Value)} {pc : Nat} {tp : String → S → Prop} {wo : S → va_W} {Xn tx : String} {ik is ic i : Nat} (C : Cx G X cc nL own rm) (Z : Tx X) (K : RT G X tp wo)
    (hat : ∀ a ∈ Bundle.ownAtoms own ic Xn tx_up, tx_ok a) (hk : Cond.classLink own ik Xn ∈ WS) (hi : Cond.initialized Xn ∈ WS) (hn : Cond.instantiable Xn 6 ∈ WS) (hfit : Bundle.fit Xn = true) (hsx : sx_L[i]? = some (own, is, tx))
    (d0 : decode cc pc = .ok (.new ik, 3)) (d3 : decode cc (pc + 3) = .ok (.dup, 1)) (d4 : decode cc (pc + 4) = .ok (.ldc is, 2)) (d6 : decode cc (pc + 6) = .ok (.invokespecial ic, 3)) (d9 : decode cc (pc + 9) = .ok (.athrow, 1))
    (hrm : 5 < rm.frames ∧ 82 ≤ rm.locals ∧ 0 + 1 ≤ rm.cells ∧ 0 + 6 ≤ rm.slots) (u : S) (hw : ws = wo u) (hp : tp Xn u) : Zc G X nL 0 0 ws lv pc [] := by
  obtain ⟨p, l, e, R, s, m, args, below, meth, c, Q, A⟩ := X
  intro H locs ls hP hD hS hl
  obtain ⟨hx, hb, hml, hown, hts, hK, hA, hSx, hR⟩ := C
  obtain ⟨z1, z2, z3, z4⟩ := Z
  subst hw
  subst hR
  exact tx_throw hx hb hml hl.1 hown z1 hts z2 hS hat hk hi hn hfit (hSx.1 i _ hsx).1 d0 d3 d4 d6 d9 (z3 _) z4 hrm (fun t hq => K Xn u H locs t hp hP hD hS hq)
