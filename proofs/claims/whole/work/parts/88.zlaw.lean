theorem xPre_blind {G : GG} {vals : List Value} {wi : va_W} {sz : Nat} : FrameBlind (xPre G vals wi sz) := fun a U g mk q => ⟨zPre_blind a U g mk q.1, Sy.warm (s := U) (U := U.calling g mk a) (H := U.heap) (State.WarmedH.refl U) q.2⟩
/-- what the law's walk knows besides: the launch, the exceptions' words -/
def Tl (X : XX) : Prop := match X with
  | (_, l, _, _, s, _, _, _, _, _, _, A) => l.stackTraces = false ∧ Sy A s s.heap
/-- the script -/
def Sc (X : XX) (b L : Nat) (xz : Nat → Int) : Prop := match X with
  | (_, _, _, _, s, _, _, _, _, _, _, A) => va_X b L (fun j => iI (xz j)) s s.heap ∧ b < s.heap.size ∧ ¬ A b
/-- the law's end -/
def RL (X : XX) : Prop := match X with
  | (p, l, e, R, s, m, args, below, meth, c, Q, A) => ∀ (H : Heap) (ls : Array Slot) (pc : Nat), decode c.code pc = .ok (.ireturn, 1) → W p l e R s m args below meth c H [] 1070 39352 Q (F0 m pc ls [.int 1])
section ZLW
variable {G : GG} {X : XX} {cc : ByteArray} {nL : Nat} {own : String} {rm : Room} {kc ks : Nat} {ws : va_W} {lv : List (Nat × Value)} {pc : Nat} {st : List Value}
theorem z_wide {kc' ks' : Nat} (h1 : kc ≤ kc') (h2 : ks ≤ ks') (kk : Zc G X nL kc' ks' ws lv pc st) : Zc G X nL kc ks ws lv pc st := by
  obtain ⟨p, l, e, R, s, m, args, below, meth, c, Q, A⟩ := X
  exact fun H locs ls hP hD hS hl => W.widen h1 h2 (kk H locs ls hP hD hS hl)
theorem z_lend (C : Cx G X cc nL own rm) (K : RL X) (hA : match X with | (_, _, _, _, s, _, _, _, _, _, _, A) => ∀ q : Nat, A q → s.heap.size ≤ q) (d : decode cc pc = .ok (.ireturn, 1)) (h1 : kc ≤ 1070) (h2 : ks ≤ 39352) : Zc G X nL kc ks ws lv pc [.int (iI 1)] := by
  obtain ⟨p, l, e, R, s, m, args, below, meth, c, Q, A⟩ := X
  intro H locs ls hP hD hS hl
  refine va_forget (fun q hq => hA _ (hS.2.2 q hq)) (W.widen h1 h2 ?_)
  exact K H ls pc (by rw [C.2.1]; exact d)
theorem z_sld {b L : Nat} {xz : Nat → Int} {i : Int} (C : Cx G X cc nL own rm) (hX : Sc X b L xz) (d : decode cc pc = .ok (.iaload, 1)) (hi : 0 ≤ i ∧ i < L ∧ L ≤ 2560) (kk : Zc G X nL kc ks ws lv (pc + 1) (.int (iI (xz i.toNat)) :: st)) : Zc G X nL kc ks ws lv pc (.int (iI i) :: .ref b :: st) := by
  obtain ⟨p, l, e, R, s, m, args, below, meth, c, Q, A⟩ := X
  intro H locs ls hP hD hS hl
  obtain ⟨hx, hb, hml, hown, hts, hK, hA, hSx, hR⟩ := C
  refine va_sld hx hb hX.1 hX.2.1 hX.2.2 hS (iI_in ⟨hi.1, hi.2.1⟩ (by omega)) d ?_
  rw [iI_nat (by omega)]
  exact kk H locs ls hP hD hS hl
theorem z_slen {b L : Nat} {xz : Nat → Int} (C : Cx G X cc nL own rm) (hX : Sc X b L xz) (d : decode cc pc = .ok (.arraylength, 1)) (kk : Zc G X nL kc ks ws lv (pc + 1) (.int (iI (L : Int)) :: st)) : Zc G X nL kc ks ws lv pc (.ref b :: st) := by
  obtain ⟨p, l, e, R, s, m, args, below, meth, c, Q, A⟩ := X
  intro H locs ls hP hD hS hl
  obtain ⟨hx, hb, hml, hown, hts, hK, hA, hSx, hR⟩ := C
  refine va_slen hx hb hX.1 hX.2.1 hX.2.2 hS d ?_
  rw [← Int32.ofInt_eq_ofNat]
  exact kk H locs ls hP hD hS hl
theorem z_lald {a : Nat} {f : Nat → Int64} (C : Cx G X cc nL own rm) (d : decode cc pc = .ok (.laload, 1)) (q0 : Nat) (ha : ws[q0]? = some (lA G a f)) (kk : Zc G X nL kc ks ws lv (pc + 1) (.long (f 0) :: st)) : Zc G X nL kc ks ws lv pc (.int (iI 0) :: .ref a :: st) := by
  obtain ⟨p, l, e, R, s, m, args, below, meth, c, Q, A⟩ := X
  intro H locs ls hP hD hS hl
  obtain ⟨hx, hb, hml, hown, hts, hK, hA, hSx, hR⟩ := C
  refine va_lald hx hb hK hP q0 2 ha rfl (iI_in (by decide) (by decide)) d ?_
  rw [show (iI 0).toNatClampNeg = 0 by decide]
  exact kk H locs ls hP hD hS hl
theorem z_lcmp {x y : Int64} (C : Cx G X cc nL own rm) (d : decode cc pc = .ok (.lcmp, 1)) (h : x = y) (kk : Zc G X nL kc ks ws lv (pc + 1) (.int (iI 0) :: st)) : Zc G X nL kc ks ws lv pc (.long y :: .long x :: st) := by
  obtain ⟨p, l, e, R, s, m, args, below, meth, c, Q, A⟩ := X
  intro H locs ls hP hD hS hl
  obtain ⟨hx, hb, hml, hown, hts, hK, hA, hSx, hR⟩ := C
  refine W.lcmp hx hb d ?_
  subst h
  rw [show lg_cmp x x = iI 0 by unfold lg_cmp; rw [if_neg (Int64.lt_irrefl), if_pos rfl]; rfl]
  exact kk H locs ls hP hD hS hl
variable {S : Type} {y : MethodName} {cc2 : ByteArray} {maxL idx n : Nat} {rm2 : Room} {wc wr : va_W} {wo ws' : S → va_W} {hh : List (Nat × Nat × Nat × Nat)}
theorem z_calliW {post : Int32 → S → Prop} {As rest : List Value} (C : Cx G X cc nL own rm) (Z : Tl X) (k : SK own idx y n) (kw : Cond.codeWith y cc2 maxL (some .int) hh ∈ WS) (M : ∀ l sz, l.stackTraces = false → MetW l G sz y cc2 maxL hh rm2 As wc post wo)
    (hn : As.length = n) (hst : st = As.reverse ++ rest) (hcat : (rest.map fun v => v.category).sum ≤ 8) (hroom : (rm2.frames + 1 ≤ rm.frames ∧ 8 + (maxL + 11) + rm2.locals ≤ rm.locals) ∧ kc + rm2.cells ≤ rm.cells ∧ ks + rm2.slots ≤ rm.slots) (d : decode cc pc = .ok (.invokestatic idx, 3))
    (isC isR is : List Nat) (hC : isC.map (fun i => ws[i]?) = wc.map some) (hR : isR.map (fun i => ws[i]?) = wr.map some) (hnd : (va_nd isC && va_nd isR && va_nd is && isR.all (fun i => !isC.contains i)) = true) (hws : ∀ u, is.map (fun i => (wr ++ wo u)[i]?) = (ws' u).map some)
    (kk : ∀ r u, post r u → Zc G X nL (kc + rm2.cells) (ks + rm2.slots) (ws' u) lv (pc + 3) (.int r :: rest)) : Zc G X nL kc ks ws lv pc st := by
  obtain ⟨p, l, e, R, s, m, args, below, meth, c, Q, A⟩ := X
  intro H locs ls hP hD hS hl
  obtain ⟨hx, hb, hml, hown, hts, hK, hA, hSx, hRR⟩ := C
  obtain ⟨z1, z2⟩ := Z
  simp only [Bool.and_eq_true] at hnd
  obtain ⟨⟨⟨n1, n2⟩, n3⟩, n4⟩ := hnd
  have hdis : ∀ i ∈ isR, i ∉ isC := fun i hi hj => by
    have := List.all_eq_true.mp n4 i hi
    simp [hj] at this
  have hPc := zp_sub isC hC hP
  have hDc := hD.sub isC n1 hC
  have hF := va_free hD hS hA isC hC
  subst hst
  subst hRR
  have hG : GoodIn WS (Cond.codeWith y cc2 maxL (some .int) hh :: WS) := fun w hw => (List.mem_cons.mp hw).elim (fun e => by rw [e]; exact ⟨kw, good_of_word (ws_good kw)⟩) (fun h2 => ⟨h2, good_of_word (ws_good h2)⟩)
  have hini := hts _ k.2.2.1
  have hBk : Back l R p e below s args y 3 8 (PreOf R rm2.cells rm2.slots (xPre G As wc H.size)) (PostOf (va_Qi post (zB G wc H.size wo) (va_A wc H.size)) rm2.cells rm2.slots (va_A wc H.size)) :=
    va_backW (hh := hh) (bytes := cc2) (maxL := maxL) (ret := some .int) (M l H.size z1) xPre_blind rfl rfl hroom.1.1 hroom.1.2 (pay_in hts hG) List.mem_cons_self (fun a' U hW => word_at hW (Or.inl (by first | rfl | simp [Cond.onTables, Cond.keeps, Cond.steady])) hini)
  have hlen : ∀ sig, parseMethodDescriptor y.desc = some sig → As.length = sig.parameters.length := fun sig h => by
    have h2 := k.2.2.2.2.2
    rw [h] at h2
    exact hn.trans (Option.some.inj h2).symm
  refine va_calli (S := S) (post := post) (B := zB G wc H.size wo) (A1 := va_A wc H.size) (mc := rm2.cells) (ms := rm2.slots) (free := va_A wc H.size) (rest := rest) (a := As.toArray) (fun T hT X0 => ?_) hS (fun q _ h => hF q h) hF (fun r u t H1 locs1 ht hvm hp hB hz1 hk1 hS1 => ?_)
  · obtain ⟨mk, methM, cM, hnamed, hmethM, -, -, -, -, -, -, hsigM⟩ := Cond.codeWith_spec (hts _ kw)
    have hstatic : methM.isStatic = true := Cond.static_spec hnamed hmethM (hts _ k.2.1)
    obtain ⟨kP, hkP, -⟩ := className_of_methodNamed hnamed
    have hinitP : kP.init = .initialized := Cond.initialized_spec (findClass_of_methodNamed hnamed) hkP hini
    have hdg : decode c.code (F0 m pc ls (As.reverse ++ rest)).pc = .ok (.invokestatic idx, 3) := by rw [hb]; exact d
    obtain ⟨vm₁, X₁, hstep₁⟩ := X0.invokestatic hx hown (hts _ k.1) hnamed hmethM hstatic hkP hinitP ⟨k.2.2.2.1, k.2.2.2.2.1⟩ (g := F0 m pc ls (As.reverse ++ rest)) rfl (argsL := As) (rest := rest) (hlen _ hsigM) rfl hdg
    obtain ⟨v, ⟨U', l2, c2, s2⟩, X', hpost, hsteps⟩ := hBk m meth c ⟨T.setVm vm₁, locs, kc, ks⟩ { F0 m pc ls (As.reverse ++ rest) with stack := rest } (.invokestatic idx) mk As.toArray X₁ rfl (hl.1.trans hml.symm) hdg (lv_room hcat) (X₁.named hnamed) ⟨hroom.2.1, hroom.2.2, z_pre hK hSx hS hPc hDc hF (T.setVm vm₁) hT X₁.warmed, by
      show Sy _ (T.setVm vm₁) T.heap
      rw [hT]
      exact ((z2.kept hS.2.1).narrow hF).warm (s := s) (U := T.setVm vm₁) X₁.warmed⟩
    obtain ⟨g', mk', t, L, e1, e2, hq, h1, hL, h2, h3⟩ := hpost
    dsimp only [Pt.U, Pt.locs, Pt.cells, Pt.slots] at X' e1 e2 h1 h2 h3
    subst h1; subst h2; subst h3
    exact ⟨v, (T.setVm vm₁).calling g' mk' As.toArray, t, U', L, hT, X', hL, e1, e2, hq, fun target h => hstep₁ _ fun acts => by rw [doInvoke_state]; exact hsteps.trans h⟩
  · obtain ⟨hP1, hD1⟩ := hB
    rw [ht] at hP1
    obtain ⟨hP2, hD2⟩ := va_join hP hD isC isR hC hR n2 hdis hk1 hF hP1 hD1
    exact kk r u hp H1 locs1 ls (zp_sub is (hws u) hP2) (hD2.sub is n3 (hws u)) hS1 hl
end ZLW
theorem iI_and15 (x : Int) : iI x &&& iI 15 = iI (x % 16) := by
  apply Int32.toBitVec.inj
  apply BitVec.eq_of_toNat_eq
  show ((BitVec.ofInt 32 x) &&& (BitVec.ofInt 32 15)).toNat = (BitVec.ofInt 32 (x % 16)).toNat
  rw [BitVec.toNat_and, BitVec.toNat_ofInt, BitVec.toNat_ofInt, BitVec.toNat_ofInt]
  rw [show ((15 : Int) % ((2 ^ 32 : Nat) : Int)).toNat = 2 ^ 4 - 1 by decide, Nat.and_two_pow_sub_one_eq_mod]
  omega
