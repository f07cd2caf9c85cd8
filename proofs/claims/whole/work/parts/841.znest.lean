def NW : Cond := .methodLinkNest R_X 23 y_N_init R_X
/-- as zPre, and the constructor of a nest mate may be called -/
def nPre (G : GG) (vals : List Value) (wi : va_W) (sz : Nat) : Array Value → State → Prop := fun a U => zPre G vals wi sz a U ∧ va_Nw NW U
def MetN {S : Type} (l : Launch) (G : GG) (sz : Nat) (y : MethodName) (cc : ByteArray) (maxL : Nat) (rm : Room) (vals : List Value) (wi : va_W) (post : S → Prop) (wo : S → va_W) : Prop :=
  Met l y (Cond.code y cc maxL none :: WS) rm (nPre G vals wi sz) (va_Qv post (zB G wi sz wo) (va_A wi sz)) rm.cells rm.slots (va_A wi sz)
theorem nPre_blind {G : GG} {vals : List Value} {wi : va_W} {sz : Nat} : FrameBlind (nPre G vals wi sz) := fun a U g mk q => ⟨zPre_blind a U g mk q.1, va_Nw.same (u := U) (U := U.calling g mk a) rfl rfl q.2⟩
def Nx (X : XX) : Prop := match X with
  | (_, _, _, _, s, _, _, _, _, _, _, _) => va_Nw NW s
theorem MetN.mk {S : Type} {l : Launch} {G : GG} {sz : Nat} {y : MethodName} {cc : ByteArray} {maxL : Nat} {rm : Room} {vals : List Value} {wi : va_W} {post : S → Prop} {wo : S → va_W} (hy : plainName y.cls = true) (hyn : y.name = "<init>") (hl : (lg_sl vals).length ≤ maxL)
    (body : ∀ X : XX, Cx G X cc maxL y.cls rm → Ci X → Nx X → RV G X rm.cells rm.slots post wo → Zc G X maxL 0 0 wi (lv_args 0 vals) 0 []) : MetN l G sz y cc maxL rm vals wi post wo := by
  refine Met.ofW (cc := cc) (maxL := maxL) (ret := none) hy rfl ?_
  intro p e s m args below meth c s₁ B hml hv
  obtain ⟨⟨rfl, hsz, hP, hK, hD0, hSx⟩, hN⟩ := hv
  have hts := atoms_spec (ws := Cond.code y cc maxL none :: WS) B.pre
  have hown : s.vm.findClass y.cls = some m.cls := findClass_of_methodNamed B.named
  have hnm : meth.name = "<init>" := (name_of_methodNamed B.named B.method).1.trans hyn
  subst hsz
  have hD := hD0.self (sz := s.heap.size)
  rw [lg_entry_eq]
  refine body (p, l, e, rm, s, m, vals.toArray, below, meth, c, MQ below (va_Qv post (zB G wi s.heap.size wo) (va_A wi s.heap.size)) vals.toArray s rm.cells rm.slots (va_A wi s.heap.size), va_A wi s.heap.size) ⟨B.exec, B.bytes, hml, hown, fun w h => hts w (List.mem_cons_of_mem _ h), hK, fun q h => Or.inr h, hSx, rfl⟩ hnm hN ?_ s.heap [] _ hP hD va_S.rf (lv_entry vals hl)
  intro u H locs ls pc hp hP hD hS hd
  exact W.vret B.exec B.bytes B.returns (fun t ht hW => ⟨⟨u, rfl, hp, by rw [ht]; exact hP, hD⟩, hS.F ht⟩) hS.2.2 (by rw [← B.bytes]; exact hd) B.notSynchronized
section ZCN
variable {G : GG} {X : XX} {cc : ByteArray} {nL : Nat} {own : String} {rm : Room} {kc ks : Nat} {ws : va_W} {lv : List (Nat × Value)} {pc : Nat} {st : List Value} {S : Type} {y : MethodName} {cc2 : ByteArray} {maxL idx n : Nat} {rm2 : Room} {wc wr : va_W} {wo ws' : S → va_W}
theorem z_callIN {post : S → Prop} {b : Nat} {As rest : List Value} {host : String} (C : Cx G X cc nL own rm) (hN : match X with | (_, _, _, _, s, _, _, _, _, _, _, _) => va_Nw (.methodLinkNest own idx y host) s) (k : Cond.instanceMethod y ∈ WS ∧ Cond.initialized y.cls ∈ WS ∧ NK y n ∧ y.name = "<init>") (kw : Cond.code y cc2 maxL none ∈ WS) (M : ∀ l sz, MetV l G sz y cc2 maxL rm2 (.ref b :: As) wc post wo)
    (hn : As.length = n) (hst : st = As.reverse ++ .ref b :: rest) (hcat : (rest.map fun v => v.category).sum ≤ 8) (hroom : (rm2.frames + 1 ≤ rm.frames ∧ 8 + (maxL + 11) + rm2.locals ≤ rm.locals) ∧ kc + rm2.cells ≤ rm.cells ∧ ks + rm2.slots ≤ rm.slots) (d : decode cc pc = .ok (.invokespecial idx, 3))
    (isC isR is : List Nat) (hC : isC.map (fun i => ws[i]?) = wc.map some) (hR : isR.map (fun i => ws[i]?) = wr.map some) (hnd : (va_nd isC && va_nd isR && va_nd is && isR.all (fun i => !isC.contains i)) = true) (hws : ∀ u, is.map (fun i => (wr ++ wo u)[i]?) = (ws' u).map some)
    (kk : ∀ u, post u → Zc G X nL (kc + rm2.cells) (ks + rm2.slots) (ws' u) lv (pc + 3) rest) : Zc G X nL kc ks ws lv pc st := by
  obtain ⟨p, l, e, R, s, m, args, below, meth, c, Q, A⟩ := X
  intro H locs ls hP hD hS hl
  obtain ⟨hx, hb, hml, hown, hts, hK, hA, hSx, hRR⟩ := C
  simp only [Bool.and_eq_true] at hnd
  obtain ⟨⟨⟨n1, n2⟩, n3⟩, n4⟩ := hnd
  have hdis : ∀ i ∈ isR, i ∉ isC := fun i hi hj => by
    have := List.all_eq_true.mp n4 i hi
    simp [hj] at this
  have hPc := zp_sub isC hC hP
  have hDc := hD.sub isC n1 hC
  have hF := va_free hD hS hA isC hC
  subst hst
  subst hRR
  have hG : GoodIn WS (Cond.code y cc2 maxL none :: WS) := fun w hw => (List.mem_cons.mp hw).elim (fun e => by rw [e]; exact ⟨kw, good_of_word (ws_good kw)⟩) (fun h2 => ⟨h2, good_of_word (ws_good h2)⟩)
  refine va_callv (va_runIN (As := As) (rest := rest) (Ts := WS) ⟨hx, hb, hml, hown, hts⟩ (M l H.size) ⟨va_cnB n hts hG rfl rfl rfl hN (hts _ k.2.1) k.2.2.1 hroom.1, k.2.2.2, hts _ k.1⟩ ⟨zPre_blind, z_pre hK hSx hS hPc hDc hF⟩ rfl hn hl.1 rfl (lv_room hcat) d hroom.2) hS (fun q _ h => hF q h) hF (fun u t H1 locs1 ht hvm hp hB hz1 hk1 hS1 => ?_)
  obtain ⟨hP1, hD1⟩ := hB
  rw [ht] at hP1
  obtain ⟨hP2, hD2⟩ := va_join hP hD isC isR hC hR n2 hdis hk1 hF hP1 hD1
  exact kk u hp H1 locs1 ls (zp_sub is (hws u) hP2) (hD2.sub is n3 (hws u)) hS1 hl
theorem z_callIX {post : S → Prop} {b : Nat} {As rest : List Value} (C : Cx G X cc nL own rm) (hN : Nx X) (k : IK own idx y n) (kw : Cond.code y cc2 maxL none ∈ WS) (M : ∀ l sz, MetN l G sz y cc2 maxL rm2 (.ref b :: As) wc post wo)
    (hn : As.length = n) (hst : st = As.reverse ++ .ref b :: rest) (hcat : (rest.map fun v => v.category).sum ≤ 8) (hroom : (rm2.frames + 1 ≤ rm.frames ∧ 8 + (maxL + 11) + rm2.locals ≤ rm.locals) ∧ kc + rm2.cells ≤ rm.cells ∧ ks + rm2.slots ≤ rm.slots) (d : decode cc pc = .ok (.invokespecial idx, 3))
    (isC isR is : List Nat) (hC : isC.map (fun i => ws[i]?) = wc.map some) (hR : isR.map (fun i => ws[i]?) = wr.map some) (hnd : (va_nd isC && va_nd isR && va_nd is && isR.all (fun i => !isC.contains i)) = true) (hws : ∀ u, is.map (fun i => (wr ++ wo u)[i]?) = (ws' u).map some)
    (kk : ∀ u, post u → Zc G X nL (kc + rm2.cells) (ks + rm2.slots) (ws' u) lv (pc + 3) rest) : Zc G X nL kc ks ws lv pc st := by
  obtain ⟨p, l, e, R, s, m, args, below, meth, c, Q, A⟩ := X
  intro H locs ls hP hD hS hl
  obtain ⟨hx, hb, hml, hown, hts, hK, hA, hSx, hRR⟩ := C
  simp only [Bool.and_eq_true] at hnd
  obtain ⟨⟨⟨n1, n2⟩, n3⟩, n4⟩ := hnd
  have hdis : ∀ i ∈ isR, i ∉ isC := fun i hi hj => by
    have := List.all_eq_true.mp n4 i hi
    simp [hj] at this
  have hPc := zp_sub isC hC hP
  have hDc := hD.sub isC n1 hC
  have hF := va_free hD hS hA isC hC
  subst hst
  subst hRR
  have hG : GoodIn WS (Cond.code y cc2 maxL none :: WS) := fun w hw => (List.mem_cons.mp hw).elim (fun e => by rw [e]; exact ⟨kw, good_of_word (ws_good kw)⟩) (fun h2 => ⟨h2, good_of_word (ws_good h2)⟩)
  refine va_callv (va_runI (As := As) (rest := rest) (Ts := WS) ⟨hx, hb, hml, hown, hts⟩ (M l H.size) (cwI n hts hG rfl rfl rfl (hts _ k.2.2.1) (hts _ k.1) (hts _ k.2.1) k.2.2.2.2 k.2.2.2.1 hroom.1) ⟨nPre_blind, fun U hU hW => ⟨z_pre hK hSx hS hPc hDc hF U hU hW, va_Nw.warmM hW hN⟩⟩ rfl hn hl.1 rfl (lv_room hcat) d hroom.2) hS (fun q _ h => hF q h) hF (fun u t H1 locs1 ht hvm hp hB hz1 hk1 hS1 => ?_)
  obtain ⟨hP1, hD1⟩ := hB
  rw [ht] at hP1
  obtain ⟨hP2, hD2⟩ := va_join hP hD isC isR hC hR n2 hdis hk1 hF hP1 hD1
  exact kk u hp H1 locs1 ls (zp_sub is (hws u) hP2) (hD2.sub is n3 (hws u)) hS1 hl
end ZCN
