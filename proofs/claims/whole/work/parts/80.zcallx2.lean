/-- what a walk with a table of handlers knows besides -/
def Ty (X : XX) (hh : List (Nat × Nat × Nat × Nat)) : Prop := match X with
  | (_, l, _, _, s, _, _, _, meth, c, _, A) => l.stackTraces = false ∧ Sy A s s.heap ∧ c.exceptionTable.toList.map tc_t = hh
theorem z_callx {G : GG} {X : XX} {cc : ByteArray} {nL : Nat} {own : String} {rm : Room} {kc ks : Nat} {ws : va_W} {lv : List (Nat × Value)} {pc : Nat} {st : List Value} {S : Type} {y : MethodName} {cc2 : ByteArray} {maxL n idx : Nat} {ret : Option FieldType} {rm2 : Room} {wc wr : va_W} {wo ws' : S → va_W} {hh : List (Nat × Nat × Nat × Nat)}
    {C0 : String} {post : Int32 → S → Prop} {tp : String → S → Prop} {b : Nat} {As rest : List Value} {ci q0 : Nat} {fs : List Value} {T : u_T} {N : Nat} (C : Cx G X cc nL own rm) (Z : Ty X hh) (k : VK own idx C0 y n) (kw : Cond.code y cc2 maxL ret ∈ WS) (M : ∀ l sz, l.stackTraces = false → MetX l G sz y cc2 maxL ret rm2 (.ref b :: As) wc post tp wo)
    (hn : As.length = n) (hst : st = As.reverse ++ .ref b :: rest) (hcat : (rest.map fun v => v.category).sum ≤ 8) (hroom : (rm2.frames + 1 ≤ rm.frames ∧ 8 + (maxL + 11) + rm2.locals ≤ rm.locals) ∧ kc + rm2.cells ≤ rm.cells ∧ ks + rm2.slots ≤ rm.slots) (d : decode cc pc = .ok (.invokevirtual idx, 3))
    (he : ws[q0]? = some (b, .inr (ci, fs))) (hc : cls[ci]? = some (C0, T, N)) (isC isR is : List Nat) (hC : isC.map (fun i => ws[i]?) = wc.map some) (hR : isR.map (fun i => ws[i]?) = wr.map some) (hnd : (va_nd isC && va_nd isR && va_nd is && isR.all (fun i => !isC.contains i)) = true) (hws : ∀ u, is.map (fun i => (wr ++ wo u)[i]?) = (ws' u).map some)
    (kk : ∀ r u, post r u → Zc G X nL (kc + rm2.cells) (ks + rm2.slots) (ws' u) lv (pc + 3) (.int r :: rest))
    (kt : ∀ Xn u, tp Xn u → ∃ hpc : Nat, (∀ s : State, sy_N s → tc_C own Xn pc hpc s hh) ∧ ∀ x : Nat, Zc G X nL (kc + rm2.cells) (ks + rm2.slots) (ws' u) lv hpc [.ref x]) : Zc G X nL kc ks ws lv pc st := by
  obtain ⟨p, l, e, R, s, m, args, below, meth, c, Q, A⟩ := X
  intro H locs ls hP hD hS hl T1 hT X1
  obtain ⟨hx, hb, hml, hown, hts, hK, hA, hSx, hRR⟩ := C
  obtain ⟨z1, z2, z3⟩ := Z
  simp only [Bool.and_eq_true] at hnd
  obtain ⟨⟨⟨n1, n2⟩, n3⟩, n4⟩ := hnd
  have hdis : ∀ i ∈ isR, i ∉ isC := fun i hi hj => by
    have := List.all_eq_true.mp n4 i hi
    simp [hj] at this
  have hPc := zp_sub isC hC hP
  have hDc := hD.sub isC n1 hC
  have hF := va_free hD hS hA isC hC
  subst hst
  subst hRR
  subst hT
  obtain ⟨oB, ho1, ho2, ho3⟩ := va_recv hK hP hc he
  have hyM : y.cls ≠ "java/lang/invoke/MethodHandle" ∧ y.cls ≠ "java/lang/invoke/VarHandle" := ⟨k.2.2.2.2.2.1, k.2.2.2.2.2.2.1⟩
  obtain ⟨mk, methM, hnamed, hmethM, hstM, habM⟩ := Cond.instanceMethod_spec (hts _ k.2.1)
  obtain ⟨methM', cM, hmethM', hcM, -, hlM, -, -, -, hsigM⟩ := Cond.code_spec hnamed (hts _ kw)
  cases hmethM.symm.trans hmethM'
  obtain ⟨c2, r2, m2, q1, q2, q3, q4, kP, hkP, hkPi⟩ := Cond.selects_spec (hts _ k.2.2.1)
  cases ho3.symm.trans q1
  cases (State.methodFound?_of_named hnamed hyM).symm.trans q2
  cases hnamed.symm.trans q3
  have hselP : selectMethod e.platform s.vm oB.cls mk = .method mk := by rw [Launch.admits_selectMethod X1.admits]; exact q4
  have hlen : As.length = methM.sig.parameters.length := by
    have h2 := k.2.2.2.2.2.2.2
    rw [hsigM] at h2
    rw [hn]
    exact (Option.some.inj h2).symm
  have hdg : decode c.code pc = .ok (.invokevirtual idx, 3) := by rw [hb]; exact d
  obtain ⟨vm1, X2, hstep⟩ := X1.invokevirtual hx hown (hts _ k.1) hnamed hmethM hstM hkP hkPi hyM (a := b) (cell := oB) ho1 (fun z h => by rw [h] at ho2; cases ho2) hselP hmethM habM hkP hkPi (g := F0 m pc ls (As.reverse ++ .ref b :: rest)) rfl (argsL := As) (rest := rest) hlen rfl hdg
  have hw : ∀ w ∈ WS, ∀ a', w.before a' (T1.setVm vm1) = true := fun w hw a' => word_at X2.warmed (good_of_word (ws_good hw)) (hts w hw)
  have hnU : (T1.setVm vm1).methodNamed? y = some mk := X2.named hnamed
  obtain ⟨kY, hkY, -⟩ := className_of_methodNamed hnU
  have hinitY : kY.init = .initialized := Cond.initialized_spec (findClass_of_methodNamed hnU) hkY (by rw [k.2.2.2.2.1]; exact hw _ k.2.2.2.1 #[])
  have hmU : (T1.setVm vm1).vm.method? mk = some methM := by rw [X2.warmed.alike.method?]; exact hmethM
  have hpre : (headSpec (Cond.code y cc2 maxL ret :: WS) rm2).pre.before (Value.ref b :: As).toArray (T1.setVm vm1) = true := atoms_intro (fun w hw' => (List.mem_cons.mp hw').elim (fun z => by rw [z]; exact hw _ kw _) (fun z => hw w z _))
  have hsum : (rest.map fun v => v.category).sum + (maxL + 11) + rm2.locals ≤ R.locals := by have := hroom.1.2; omega
  have happ : (headSpec (Cond.code y cc2 maxL ret :: WS) rm2).appliesLoose y e.platform ((T1.setVm vm1).calling (F0 m pc ls rest) mk (Value.ref b :: As).toArray) = true :=
    Spec.appliesLoose_calling (g := F0 m pc ls rest) X2.here hdg hnU hkY hinitY (X2.room_calling (g := F0 m pc ls rest) (R' := rm2) (by rw [hml]; exact hl.1) hmU hcM hroom.1.1 (by rw [hlM]; show 2 * 0 + (rest.map fun v => v.category).sum + (maxL + 11) + rm2.locals ≤ R.locals; omega) hroom.2.1 hroom.2.2) hpre
  have hPx : xPre G (.ref b :: As) wc T1.heap.size (Value.ref b :: As).toArray ((T1.setVm vm1).calling (F0 m pc ls rest) mk (Value.ref b :: As).toArray) :=
    ⟨zPre_blind _ _ _ _ (z_pre hK hSx hS hPc hDc hF (T1.setVm vm1) rfl X2.warmed), ((z2.kept hS.2.1).narrow hF).warm (s := s) (U := (T1.setVm vm1).calling (F0 m pc ls rest) mk (Value.ref b :: As).toArray) X2.warmed⟩
  obtain ⟨mid, hmid⟩ := X2.here.above
  have hfr : ((T1.setVm vm1).setTop (F0 m pc ls rest)).frames = (.java (F0 m pc ls rest) :: mid) ++ below := by rw [State.frames_setTop' _ X2.here.top, hmid]; rfl
  obtain ⟨o, t, hst2, -, hend, hq, L, ⟨hW2, hsame2⟩, hL⟩ := Steps.callFree (M l T1.heap.size z1) p X2.admits X2.cas X2.clock (acts := []) hfr happ hPx trivial
  rw [State.frames_setTop' _ X2.here.top, X2.tail] at hend
  obtain ⟨hq, hFr⟩ := hq
  have hk1 : ∀ q : Nat, q < T1.heap.size → ¬ va_A wc T1.heap.size q → t.heap[q]? = T1.heap[q]? := fun q h1 h2 => hFr.2 q h1 h2
  have hS1 : va_S A s.heap t.heap (locs ++ L) := ⟨Nat.le_trans hS.1 hFr.1, fun q h1 h2 => (hk1 q (Nat.lt_of_lt_of_le h1 hS.1) (fun z => h2 (hF q z))).trans (hS.2.1 q h1 h2), fun q hq => (List.mem_append.mp hq).elim (hS.2.2 q) (fun z => hF _ (hL q z))⟩
  have world : ∀ u : S, zB G wc T1.heap.size wo u t → va_P G.1 cls (ws' u) t.heap ∧ va_D A (ws' u) := fun u hB => by
    obtain ⟨hP1, hD1⟩ := hB
    obtain ⟨hP2, hD2⟩ := va_join hP hD isC isR hC hR n2 hdis hk1 hF hP1 hD1
    exact ⟨zp_sub is (hws u) hP2, hD2.sub is n3 (hws u)⟩
  rcases hq with ⟨v, u, rfl, hp, hB⟩ | ⟨x, Xn, u, ce, rfl, hp, hB, hxs, hce, hcl, hself, hcv⟩
  · obtain ⟨T', X3, -, -, ht3⟩ := X2.outOf (g := F0 m pc ls rest) rfl hdg hend hW2 hsame2
    have hth : T'.heap = t.heap := by rw [ht3]; rfl
    obtain ⟨hP3, hD3⟩ := world u hB
    obtain ⟨tt, st3, q3⟩ := kk v u hp t.heap (locs ++ L) ls hP3 hD3 hS1 hl T' hth X3
    refine ⟨tt, hstep tt (fun acts => ?_), q3⟩
    rw [doInvoke_state]
    refine hst2.trans ?_
    rw [ht3]
    exact st3
  · obtain ⟨T', X3, hWT, -, ht3⟩ := X2.outOfThrown (g := F0 m pc ls rest) rfl hend hW2 hsame2
    have hth : T'.heap = t.heap := by rw [ht3]; rfl
    obtain ⟨hP3, hD3⟩ := world u hB
    obtain ⟨hpc, hcat2, hz⟩ := kt Xn u hp
    have hal : s.vm.Alike (T1.setVm vm1).vm := X2.warmed.alike
    have hcl2 : s.vm.findClass Xn = some ce.cls := by rw [← hal.findClass]; exact hcl
    have hself2 : s.vm.assignable ce.cls ce.cls = true := by rw [← hal.assignable]; exact hself
    have hpl : e.platform.magicAccessors = ({} : Platform).magicAccessors := by rw [X2.admits.platform]
    obtain ⟨V, hWV, hfind⟩ := tc_find (e := e) (s := s) (args := args) (f := F0 m pc ls rest) (x := x) (hpc := hpc) hpl hown hts hcl2 hself2 hcv c.exceptionTable.toList ((T'.setTop (F0 m pc ls rest)).pushFrame (.throwing x)) X3.warmed (by rw [← hce, ← hth]; rfl) (by rw [z3]; exact hcat2 s z2.2.2.2)
    have hmT : ((T'.setTop (F0 m pc ls rest)).pushFrame (.throwing x)).vm.method? (F0 m pc ls rest).method = some meth := X3.method'
    obtain ⟨tt, st3, q3⟩ := hz x t.heap (locs ++ L) ls hP3 hD3 hS1 hl (T'.setVm V) hth (X3.noted hWV)
    refine ⟨tt, hstep tt (fun acts => ?_), q3⟩
    rw [doInvoke_state]
    refine hst2.trans ?_
    rw [ht3]
    exact tc_caught (g := F0 m pc ls rest) X3.here (fun Q E d acts => by rw [W.findHandler_eq hmT X3.code]; exact hfind Q E d acts) st3
