/-- the law's row of one long -/
abbrev lA (G : GG) (a : Nat) (f : Nat → Int64) : Nat × va_E := (a, .inl (G.2.1.2.2, 1, .inr (.inl f)))
theorem z_i2l {G : GG} {X : XX} {cc : ByteArray} {nL : Nat} {own : String} {rm : Room} {kc ks : Nat} {ws : va_W} {lv : List (Nat × Value)} {pc : Nat} {st : List Value} {x : Int32} (C : Cx G X cc nL own rm) (d : decode cc pc = .ok (.i2l, 1)) (kk : Zc G X nL kc ks ws lv (pc + 1) (.long x.toInt64 :: st)) : Zc G X nL kc ks ws lv pc (.int x :: st) := by
  obtain ⟨p, l, e, R, s, m, args, below, meth, c, Q, A⟩ := X
  intro H locs ls hP hD hS hl
  obtain ⟨hx, hb, hml, hown, hts, hK, hA, hSx, hR⟩ := C
  exact lv_i2l hx hb d rfl (kk H locs ls hP hD hS hl)
theorem z_last {G : GG} {X : XX} {cc : ByteArray} {nL : Nat} {own : String} {rm : Room} {kc ks : Nat} {ws : va_W} {lv : List (Nat × Value)} {pc : Nat} {st : List Value} {a : Nat} {f : Nat → Int64} {x : Int64} (C : Cx G X cc nL own rm) (d : decode cc pc = .ok (.lastore, 1)) (q0 : Nat) (ha : ws[q0]? = some (lA G a f)) (ws' : va_W) (hw : ws.set q0 (lA G a (vp_updL f 0 x)) = ws') (kk : Zc G X nL kc ks ws' lv (pc + 1) st) : Zc G X nL kc ks ws lv pc (.long x :: .int (iI 0) :: .ref a :: st) := by
  obtain ⟨p, l, e, R, s, m, args, below, meth, c, Q, A⟩ := X
  intro H locs ls hP hD hS hl
  obtain ⟨hx, hb, hml, hown, hts, hK, hA, hSx, hR⟩ := C
  subst hw
  refine va_last hx hb hK hP hD hS q0 2 ha rfl (iI_in (by decide) (by decide)) d (fun H1 locs1 hP hD hS => ?_)
  rw [show (iI 0).toNatClampNeg = 0 by decide] at hP hD
  exact kk H1 locs1 ls hP hD hS hl
/-- a method with a table of handlers, that returns a number -/
def MetW {S : Type} (l : Launch) (G : GG) (sz : Nat) (y : MethodName) (cc : ByteArray) (maxL : Nat) (hh : List (Nat × Nat × Nat × Nat)) (rm : Room) (vals : List Value) (wi : va_W) (post : Int32 → S → Prop) (wo : S → va_W) : Prop :=
  Met l y (Cond.codeWith y cc maxL (some .int) hh :: WS) rm (xPre G vals wi sz) (va_Qi post (zB G wi sz wo) (va_A wi sz)) rm.cells rm.slots (va_A wi sz)
theorem MetW.mk {S : Type} {l : Launch} {G : GG} {sz : Nat} {y : MethodName} {cc : ByteArray} {maxL : Nat} {hh : List (Nat × Nat × Nat × Nat)} {rm : Room} {vals : List Value} {wi : va_W} {post : Int32 → S → Prop} {wo : S → va_W} (hy : plainName y.cls = true) (hlen : (lg_sl vals).length ≤ maxL) (hl : l.stackTraces = false)
    (body : ∀ X : XX, Cx G X cc maxL y.cls rm → Ty X hh → RI G X (some .int) rm.cells rm.slots post wo → Zc G X maxL 0 0 wi (lv_args 0 vals) 0 []) : MetW l G sz y cc maxL hh rm vals wi post wo := by
  refine va_MetW (hh := hh) (cc := cc) (maxL := maxL) (ret := some .int) hy rfl ?_
  intro p e s m args below meth c s₁ B hml hv
  obtain ⟨⟨rfl, hsz, hP, hK, hD0, hSx⟩, hSy⟩ := hv
  have hts := atoms_spec (ws := Cond.codeWith y cc maxL (some .int) hh :: WS) B.pre
  have hown : s.vm.findClass y.cls = some m.cls := findClass_of_methodNamed B.named
  obtain ⟨m9, meth9, c9, hn9, hm9, hc9, -, -, ht9, -⟩ := Cond.codeWith_spec (hts _ List.mem_cons_self)
  cases B.named.symm.trans hn9
  have X0 := Stand.of_body B
  cases X0.method.symm.trans hm9
  cases X0.code.symm.trans hc9
  subst hsz
  have hD := hD0.self (sz := s.heap.size)
  rw [lg_entry_eq]
  refine body (p, l, e, rm, s, m, vals.toArray, below, meth, c, MQ below (va_Qi post (zB G wi s.heap.size wo) (va_A wi s.heap.size)) vals.toArray s rm.cells rm.slots (va_A wi s.heap.size), va_A wi s.heap.size) ⟨B.exec, B.bytes, hml, hown, fun w h => hts w (List.mem_cons_of_mem _ h), hK, fun q h => Or.inr h, hSx, rfl⟩ ⟨hl, hSy, ht9⟩ ?_ s.heap [] _ hP hD va_S.rf (lv_entry vals hlen)
  intro v u H locs ls pc ty hr hn hp hP hD hS hd
  have hr2 := B.returns
  exact W.zret (ty := ty) B.exec B.bytes (by rw [hr2, hr]) hn (fun t ht hW => ⟨⟨v, u, rfl, hp, by rw [ht]; exact hP, hD⟩, hS.F ht⟩) hS.2.2 (by rw [← B.bytes]; exact hd) B.notSynchronized
