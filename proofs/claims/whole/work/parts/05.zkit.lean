/-! a judgement of its own over the kit's W: the world's cells and the locals by lists, the heap hidden -/
abbrev GG : Type := va_G × (ClassId × ClassId × ClassId) × (Nat → Nat) × (Nat → Nat)
abbrev gT (G : GG) : List (ClassId × FieldType) := [(G.2.1.1, .byte), (G.2.1.2.1, .int), (G.2.1.2.2, .long)]
def iI (z : Int) : Int32 := Int32.ofInt z
theorem iI_add (a b : Int) : iI a + iI b = iI (a + b) := (Int32.ofInt_add a b).symm
theorem iI_sub (a b : Int) : iI a - iI b = iI (a - b) := (Int32.ofInt_sub a b).symm
theorem iI_mul (a b : Int) : iI a * iI b = iI (a * b) := (Int32.ofInt_mul a b).symm
theorem iI_toInt {a : Int} (h : -2147483648 ≤ a ∧ a ≤ 2147483647) : (iI a).toInt = a := Int32.toInt_ofInt_of_le (by omega) (by omega)
theorem iI_of (x : Int32) : ∃ z : Int, x = iI z ∧ -2147483648 ≤ z ∧ z ≤ 2147483647 := ⟨x.toInt, (Int32.ofInt_toInt x).symm, Int32.le_toInt x, by have := Int32.toInt_lt x; omega⟩
theorem iI_eq {a b : Int} (ha : -2147483648 ≤ a ∧ a ≤ 2147483647) (hb : -2147483648 ≤ b ∧ b ≤ 2147483647) : iI a = iI b ↔ a = b := ⟨fun h => by rw [← iI_toInt ha, ← iI_toInt hb, h], fun h => by rw [h]⟩
theorem iI_ne {a b : Int} (ha : -2147483648 ≤ a ∧ a ≤ 2147483647) (hb : -2147483648 ≤ b ∧ b ≤ 2147483647) : ¬ (iI a = iI b) ↔ a ≠ b := not_congr (iI_eq ha hb)
theorem iI_lt {a b : Int} (ha : -2147483648 ≤ a ∧ a ≤ 2147483647) (hb : -2147483648 ≤ b ∧ b ≤ 2147483647) : iI a < iI b ↔ a < b := by rw [Int32.lt_iff_toInt_lt, iI_toInt ha, iI_toInt hb]
theorem iI_le {a b : Int} (ha : -2147483648 ≤ a ∧ a ≤ 2147483647) (hb : -2147483648 ≤ b ∧ b ≤ 2147483647) : iI a ≤ iI b ↔ a ≤ b := by rw [Int32.le_iff_toInt_le, iI_toInt ha, iI_toInt hb]
theorem iI_ge {a b : Int} (ha : -2147483648 ≤ a ∧ a ≤ 2147483647) (hb : -2147483648 ≤ b ∧ b ≤ 2147483647) : iI b ≤ iI a ↔ b ≤ a := iI_le hb ha
theorem iI_gt {a b : Int} (ha : -2147483648 ≤ a ∧ a ≤ 2147483647) (hb : -2147483648 ≤ b ∧ b ≤ 2147483647) : iI b < iI a ↔ b < a := iI_lt hb ha
/-- what a byte keeps of a number -/
def bN (z : Int) : Int := z.bmod 256
theorem bN_rg (z : Int) : -128 ≤ bN z ∧ bN z ≤ 127 := by
  have h1 := Int.le_bmod (x := z) (m := 256) (by decide)
  have h2 := Int.bmod_lt (x := z) (m := 256) (by decide)
  unfold bN
  omega
theorem iI_b (a : Int) : (iI a).toInt8.toInt32 = iI (bN a) := by
  have h1 := bN_rg a
  apply Int32.toInt_inj.1
  rw [Int8.toInt_toInt32, Int32.toInt_toInt8, iI_toInt (a := bN a) (by omega)]
  unfold iI bN
  rw [Int32.toInt_ofInt]
  exact Int.bmod_bmod_of_dvd (n := 2 ^ 8) (m := Int32.size) (by decide)
theorem bN_id {z : Int} (h : -128 ≤ z ∧ z ≤ 127) : bN z = z := by
  unfold bN
  exact Int.bmod_eq_of_le (by omega) (by omega)
theorem iI_in {z : Int} {n : Nat} (h : 0 ≤ z ∧ z < n) (hn : n ≤ 2147483647) : vp_in (iI z) n := vp_in_iff.mpr (by rw [iI_toInt (by omega)]; exact h)
theorem iI_nat {z : Int} (h : 0 ≤ z ∧ z ≤ 2147483647) : (iI z).toNatClampNeg = z.toNat := by
  show (iI z).toInt.toNat = _
  rw [iI_toInt (by omega)]
/-- a place of a row of numbers set anew -/
def uZ (F : Nat → Int) (k : Nat) (v : Int) : Nat → Int := fun j => if j = k then v else F j
theorem uZ_s {F : Nat → Int} {k : Nat} {v : Int} : uZ F k v k = v := if_pos rfl
theorem uZ_n {F : Nat → Int} {k j : Nat} {v : Int} (h : j ≠ k) : uZ F k v j = F j := if_neg h
theorem upd_iI (F : Nat → Int) (k : Nat) (v : Int) : upd (fun j => iI (F j)) k (iI v) = fun j => iI (uZ F k v j) := by
  funext j
  unfold upd uZ
  by_cases h : j = k
  · rw [if_pos h, if_pos h]
  · rw [if_neg h, if_neg h]
/-- a row of ints, of bytes, at an address -/
abbrev iA (G : GG) (a n : Nat) (F : Nat → Int) : Nat × va_E := (a, .inl (G.2.1.2.1, n, .inl (fun j => iI (F j))))
abbrev bA (G : GG) (a n : Nat) (F : Nat → Int) : Nat × va_E := (a, .inl (G.2.1.1, n, .inl (fun j => iI (F j))))
/-- the byte at j of a text of small characters -/
def sx_b (t : String) (j : Nat) : Int := ((t.toList.getD j 'a').toNat : Int)
/-- one String constant: where it is asked for, what it is -/
def sx_1 (q : String × Nat × String) (a v : Nat) (A : Nat → Prop) (U : State) (H : Heap) : Prop :=
  vk_R q.1 q.2.1 q.2.2 a U ∧ va_O R_jS a A U H ∧ va_OF R_jS "coder" "B" (.int 0) a A U H ∧ va_OF R_jS "value" "[B" (.ref v) a A U H ∧ va_T .byte v q.2.2.toList.length (fun j => .int (iI (sx_b q.2.2 j))) A U H
def sx_L : List (String × Nat × String) := [(R_I, 29, "state "), (R_I, 80, ", "), (R_I, 41, "ask "), (R_I, 46, "message "), (R_I, 56, "first "), (R_I, 89, "never "), (R_I, 91, "on "), (R_I, 105, " "), (R_I, 110, "take"), (R_I, 112, "keep"), (R_I, 114, "send "), (R_I, 100, " > "), (R_X, 79, "the text would be too long"), (R_X, 90, "not 0 to 16 bytes"), (R_X, 93, "less than sixteen bytes"), (R_L, 57, "state"), (R_L, 63, "ask"), (R_L, 65, "message"), (R_L, 67, "on"), (R_L, 69, "never"), (R_L, 71, "first"), (R_L, 73, "send"), (R_L, 75, "take"), (R_L, 77, "keep"), (R_X, 106, "the text has a fault"), (R_X, 116, "neither the fault nor its place"), (R_X, 123, "no such state or event"), (R_X, 129, "no such state, event or action"), (R_X, 138, "no such missing pair"), (R_X, 143, "no such state or what"), (R_X, 155, "no such message"), (R_X, 169, "no such byte"), (R_X, 175, "too long for a text")]
/-- what lies in the heap from the start and is never written: the String constants, a switch of String's -/
def Sx (G : GG) (A : Nat → Prop) (U : State) (H : Heap) : Prop :=
  (∀ (i : Nat) (q : String × Nat × String), sx_L[i]? = some q → sx_1 q (G.2.2.1 i) (G.2.2.2 i) A U H) ∧ va_Z R_jS "COMPACT_STRINGS" "Z" (.int 1) A U H ∧ va_Zq R_jP "SIOOBE_FORMATTER" "Ljava/util/function/BiFunction;" A U H
theorem Sx.warm {G : GG} {A : Nat → Prop} {s U : State} {H : Heap} (hW : s.WarmedH U.vm) (h : Sx G A s H) : Sx G A U H :=
  ⟨fun i q hi => ⟨vk_R.warm hW (h.1 i q hi).1, (h.1 i q hi).2.1.moved hW.alike, (h.1 i q hi).2.2.1.moved hW.alike, (h.1 i q hi).2.2.2.1.moved hW.alike, (h.1 i q hi).2.2.2.2.moved hW.alike⟩, h.2.1.moved hW.alike, h.2.2.moved hW.alike⟩
theorem Sx.same {G : GG} {A : Nat → Prop} {s U : State} {H : Heap} (hv : U.vm = s.vm) (h : Sx G A s H) : Sx G A U H := by
  have ha : s.vm.Alike U.vm := by rw [hv]; exact Vm.Alike.refl _
  exact ⟨fun i q hi => ⟨vk_R.same hv (h.1 i q hi).1, (h.1 i q hi).2.1.moved ha, (h.1 i q hi).2.2.1.moved ha, (h.1 i q hi).2.2.2.1.moved ha, (h.1 i q hi).2.2.2.2.moved ha⟩, h.2.1.moved ha, h.2.2.moved ha⟩
theorem Sx.kept {G : GG} {A : Nat → Prop} {s : State} {H H1 : Heap} (h : Sx G A s H) (hq : ∀ a : Nat, a < H.size → ¬ A a → H1[a]? = H[a]?) : Sx G A s H1 :=
  ⟨fun i q hi => ⟨(h.1 i q hi).1, (h.1 i q hi).2.1.kept hq, (h.1 i q hi).2.2.1.kept hq, (h.1 i q hi).2.2.2.1.kept hq, (h.1 i q hi).2.2.2.2.kept hq⟩, h.2.1.kept hq, h.2.2.kept hq⟩
theorem Sx.narrow {G : GG} {A B : Nat → Prop} {s : State} {H : Heap} (h : Sx G A s H) (hAB : ∀ q, B q → A q) : Sx G B s H :=
  ⟨fun i q hi => ⟨(h.1 i q hi).1, (h.1 i q hi).2.1.narrow hAB, (h.1 i q hi).2.2.1.narrow hAB, (h.1 i q hi).2.2.2.1.narrow hAB, (h.1 i q hi).2.2.2.2.narrow hAB⟩, h.2.1.narrow hAB, h.2.2.narrow hAB⟩
/-- where a walk stands: p l e R s m args below meth c Q A -/
abbrev XX : Type := Program × Launch × Env × Room × State × MethodId × Array Value × List Frame × Method × Code × (State → Prop) × (Nat → Prop)
def Zc (G : GG) (X : XX) (nL kc ks : Nat) (ws : va_W) (lv : List (Nat × Value)) (pc : Nat) (st : List Value) : Prop := match X with
  | (p, l, e, R, s, m, args, below, meth, c, Q, A) => ∀ (H : Heap) (locs : List Loc) (ls : Array Slot), va_P G.1 cls ws H → va_D A ws → va_S A s.heap H locs → lv_has ls nL lv → W p l e R s m args below meth c H locs kc ks Q (F0 m pc ls st)
def Cx (G : GG) (X : XX) (cc : ByteArray) (nL : Nat) (own : String) (rm : Room) : Prop := match X with
  | (p, _, _, R, s, m, args, _, _, c, _, A) => p.tables.exec = Jvm.exec ∧ c.code = cc ∧ c.maxLocals = nL ∧ s.vm.findClass own = some m.cls ∧ (∀ w ∈ WS, w.before args s = true) ∧ va_K G.1 cls (gT G) s ∧ (∀ q : Nat, s.heap.size ≤ q → A q) ∧ Sx G A s s.heap ∧ R = rm
def zPre (G : GG) (vals : List Value) (wi : va_W) (sz : Nat) : Array Value → State → Prop := va_Pc vals (fun U => U.heap.size = sz ∧ va_P G.1 cls wi U.heap ∧ va_K G.1 cls (gT G) U ∧ va_D (fun _ => True) wi ∧ Sx G (va_A wi sz) U U.heap)
def zB {S : Type} (G : GG) (wi : va_W) (sz : Nat) (wo : S → va_W) : S → State → Prop := fun u t => va_P G.1 cls (wo u) t.heap ∧ va_D (va_A wi sz) (wo u)
def MetI {S : Type} (l : Launch) (G : GG) (sz : Nat) (y : MethodName) (cc : ByteArray) (maxL : Nat) (ret : Option FieldType) (rm : Room) (vals : List Value) (wi : va_W) (post : Int32 → S → Prop) (wo : S → va_W) : Prop :=
  Met l y (Cond.code y cc maxL ret :: WS) rm (zPre G vals wi sz) (va_Qi post (zB G wi sz wo) (va_A wi sz)) rm.cells rm.slots (va_A wi sz)
def MetV {S : Type} (l : Launch) (G : GG) (sz : Nat) (y : MethodName) (cc : ByteArray) (maxL : Nat) (rm : Room) (vals : List Value) (wi : va_W) (post : S → Prop) (wo : S → va_W) : Prop :=
  Met l y (Cond.code y cc maxL none :: WS) rm (zPre G vals wi sz) (va_Qv post (zB G wi sz wo) (va_A wi sz)) rm.cells rm.slots (va_A wi sz)
theorem zPre_blind {G : GG} {vals : List Value} {wi : va_W} {sz : Nat} : FrameBlind (zPre G vals wi sz) := fun a U g mk q => by
  obtain ⟨q0, q1, qP, qK, qD, qS⟩ := q
  exact ⟨q0, q1, qP, va_K.moved (u := U) (U := U.calling g mk a) (Vm.Alike.refl U.vm) qK, qD, Sx.same (s := U) (U := U.calling g mk a) rfl qS⟩
/-- a method's end -/
def RI {S : Type} (G : GG) (X : XX) (ret : Option FieldType) (kc ks : Nat) (post : Int32 → S → Prop) (wo : S → va_W) : Prop := match X with
  | (p, l, e, R, s, m, args, below, meth, c, Q, A) => ∀ (v : Int32) (u : S) (H : Heap) (locs : List Loc) (ls : Array Slot) (pc : Nat) (ty : FieldType), ret = some ty → narrow ty (.int v) = .int v → post v u → va_P G.1 cls (wo u) H → va_D A (wo u) → va_S A s.heap H locs → decode c.code pc = .ok (.ireturn, 1) → W p l e R s m args below meth c H locs kc ks Q (F0 m pc ls [.int v])
def RV {S : Type} (G : GG) (X : XX) (kc ks : Nat) (post : S → Prop) (wo : S → va_W) : Prop := match X with
  | (p, l, e, R, s, m, args, below, meth, c, Q, A) => ∀ (u : S) (H : Heap) (locs : List Loc) (ls : Array Slot) (pc : Nat), post u → va_P G.1 cls (wo u) H → va_D A (wo u) → va_S A s.heap H locs → decode c.code pc = .ok (.return_, 1) → W p l e R s m args below meth c H locs kc ks Q (F0 m pc ls [])
theorem MetI.mk {S : Type} {l : Launch} {G : GG} {sz : Nat} {y : MethodName} {cc : ByteArray} {maxL : Nat} {ret : Option FieldType} {rm : Room} {vals : List Value} {wi : va_W} {post : Int32 → S → Prop} {wo : S → va_W} (hy : plainName y.cls = true) (hl : (lg_sl vals).length ≤ maxL)
    (body : ∀ X : XX, Cx G X cc maxL y.cls rm → RI G X ret rm.cells rm.slots post wo → Zc G X maxL 0 0 wi (lv_args 0 vals) 0 []) : MetI l G sz y cc maxL ret rm vals wi post wo := by
  refine Met.ofW (cc := cc) (maxL := maxL) (ret := ret) hy rfl ?_
  intro p e s m args below meth c s₁ B hml hv
  obtain ⟨rfl, hsz, hP, hK, hD0, hSx⟩ := hv
  have hts := atoms_spec (ws := Cond.code y cc maxL ret :: WS) B.pre
  have hown : s.vm.findClass y.cls = some m.cls := findClass_of_methodNamed B.named
  subst hsz
  have hD := hD0.self (sz := s.heap.size)
  rw [lg_entry_eq]
  refine body (p, l, e, rm, s, m, vals.toArray, below, meth, c, MQ below (va_Qi post (zB G wi s.heap.size wo) (va_A wi s.heap.size)) vals.toArray s rm.cells rm.slots (va_A wi s.heap.size), va_A wi s.heap.size) ⟨B.exec, B.bytes, hml, hown, fun w h => hts w (List.mem_cons_of_mem _ h), hK, fun q h => Or.inr h, hSx, rfl⟩ ?_ s.heap [] _ hP hD va_S.rf (lv_entry vals hl)
  intro v u H locs ls pc ty hr hn hp hP hD hS hd
  have hr2 := B.returns
  exact W.zret (ty := ty) B.exec B.bytes (by rw [hr2, hr]) hn (fun t ht hW => ⟨⟨v, u, rfl, hp, by rw [ht]; exact hP, hD⟩, hS.F ht⟩) hS.2.2 (by rw [← B.bytes]; exact hd) B.notSynchronized
theorem MetV.mk {S : Type} {l : Launch} {G : GG} {sz : Nat} {y : MethodName} {cc : ByteArray} {maxL : Nat} {rm : Room} {vals : List Value} {wi : va_W} {post : S → Prop} {wo : S → va_W} (hy : plainName y.cls = true) (hl : (lg_sl vals).length ≤ maxL)
    (body : ∀ X : XX, Cx G X cc maxL y.cls rm → RV G X rm.cells rm.slots post wo → Zc G X maxL 0 0 wi (lv_args 0 vals) 0 []) : MetV l G sz y cc maxL rm vals wi post wo := by
  refine Met.ofW (cc := cc) (maxL := maxL) (ret := none) hy rfl ?_
  intro p e s m args below meth c s₁ B hml hv
  obtain ⟨rfl, hsz, hP, hK, hD0, hSx⟩ := hv
  have hts := atoms_spec (ws := Cond.code y cc maxL none :: WS) B.pre
  have hown : s.vm.findClass y.cls = some m.cls := findClass_of_methodNamed B.named
  subst hsz
  have hD := hD0.self (sz := s.heap.size)
  rw [lg_entry_eq]
  refine body (p, l, e, rm, s, m, vals.toArray, below, meth, c, MQ below (va_Qv post (zB G wi s.heap.size wo) (va_A wi s.heap.size)) vals.toArray s rm.cells rm.slots (va_A wi s.heap.size), va_A wi s.heap.size) ⟨B.exec, B.bytes, hml, hown, fun w h => hts w (List.mem_cons_of_mem _ h), hK, fun q h => Or.inr h, hSx, rfl⟩ ?_ s.heap [] _ hP hD va_S.rf (lv_entry vals hl)
  intro u H locs ls pc hp hP hD hS hd
  exact W.vret B.exec B.bytes B.returns (fun t ht hW => ⟨⟨u, rfl, hp, by rw [ht]; exact hP, hD⟩, hS.F ht⟩) hS.2.2 (by rw [← B.bytes]; exact hd) B.notSynchronized
section ZR
variable {G : GG} {X : XX} {cc : ByteArray} {nL : Nat} {own : String} {rm : Room} {kc ks : Nat} {ws : va_W} {lv : List (Nat × Value)} {pc : Nat} {st : List Value}
theorem z_iret {S : Type} {post : Int32 → S → Prop} {wo : S → va_W} {ty : FieldType} {v : Int32} (C : Cx G X cc nL own rm) (K : RI G X (some ty) kc ks post wo) (d : decode cc pc = .ok (.ireturn, 1)) (hn : narrow ty (.int v) = .int v) (u : S) (hw : ws = wo u) (hp : post v u) : Zc G X nL kc ks ws lv pc [.int v] := by
  obtain ⟨p, l, e, R, s, m, args, below, meth, c, Q, A⟩ := X
  intro H locs ls hP hD hS hl
  subst hw
  exact K v u H locs ls pc ty rfl hn hp hP hD hS (by rw [C.2.1]; exact d)
theorem z_vret {S : Type} {post : S → Prop} {wo : S → va_W} (C : Cx G X cc nL own rm) (K : RV G X kc ks post wo) (d : decode cc pc = .ok (.return_, 1)) (u : S) (hw : ws = wo u) (hp : post u) : Zc G X nL kc ks ws lv pc [] := by
  obtain ⟨p, l, e, R, s, m, args, below, meth, c, Q, A⟩ := X
  intro H locs ls hP hD hS hl
  subst hw
  exact K u H locs ls pc hp hP hD hS (by rw [C.2.1]; exact d)
theorem z_lv (is : List Nat) {lv' : List (Nat × Value)} (h : lv_pick lv is = lv') (kk : Zc G X nL kc ks ws lv' pc st) : Zc G X nL kc ks ws lv pc st := by
  obtain ⟨p, l, e, R, s, m, args, below, meth, c, Q, A⟩ := X
  exact fun H locs ls hP hD hS hl => kk H locs ls hP hD hS (lv_sub hl is h)
theorem z_ws {ws' : va_W} (h : ws = ws') (kk : Zc G X nL kc ks ws' lv pc st) : Zc G X nL kc ks ws lv pc st := h ▸ kk
theorem z_topi {x y : Int32} (h : x = y) (kk : Zc G X nL kc ks ws lv pc (.int y :: st)) : Zc G X nL kc ks ws lv pc (.int x :: st) := h ▸ kk
theorem z_iconst (C : Cx G X cc nL own rm) {n : Int} (d : decode cc pc = .ok (.iconst n, 1)) (kk : Zc G X nL kc ks ws lv (pc + 1) (.int (iI n) :: st)) : Zc G X nL kc ks ws lv pc st := by
  obtain ⟨p, l, e, R, s, m, args, below, meth, c, Q, A⟩ := X
  intro H locs ls hP hD hS hl
  obtain ⟨hx, hb, hml, hown, hts, hK, hA, hSx, hR⟩ := C
  exact lv_iconst hx hb d rfl (kk H locs ls hP hD hS hl)
theorem z_bipush (C : Cx G X cc nL own rm) {n : Int} (d : decode cc pc = .ok (.bipush n, 2)) (h : (Int8.ofInt n).toInt32 = iI n) (kk : Zc G X nL kc ks ws lv (pc + 2) (.int (iI n) :: st)) : Zc G X nL kc ks ws lv pc st := by
  obtain ⟨p, l, e, R, s, m, args, below, meth, c, Q, A⟩ := X
  intro H locs ls hP hD hS hl
  obtain ⟨hx, hb, hml, hown, hts, hK, hA, hSx, hR⟩ := C
  exact lv_bipush hx hb d h (kk H locs ls hP hD hS hl)
theorem z_sipush (C : Cx G X cc nL own rm) {n : Int} (d : decode cc pc = .ok (.sipush n, 3)) (h : (Int16.ofInt n).toInt32 = iI n) (kk : Zc G X nL kc ks ws lv (pc + 3) (.int (iI n) :: st)) : Zc G X nL kc ks ws lv pc st := by
  obtain ⟨p, l, e, R, s, m, args, below, meth, c, Q, A⟩ := X
  intro H locs ls hP hD hS hl
  obtain ⟨hx, hb, hml, hown, hts, hK, hA, hSx, hR⟩ := C
  exact lv_sipush hx hb d h (kk H locs ls hP hD hS hl)
theorem z_iload_n (C : Cx G X cc nL own rm) {k : Fin 4} {x : Int32} (d : decode cc pc = .ok (.iload_n k, 1)) (q : Nat) (h : lv[q]? = some ((k : Nat), .int x)) (kk : Zc G X nL kc ks ws lv (pc + 1) (.int x :: st)) : Zc G X nL kc ks ws lv pc st := by
  obtain ⟨p, l, e, R, s, m, args, below, meth, c, Q, A⟩ := X
  intro H locs ls hP hD hS hl
  obtain ⟨hx, hb, hml, hown, hts, hK, hA, hSx, hR⟩ := C
  exact lv_iload_n hx hb d rfl (lv_at hl q h) (kk H locs ls hP hD hS hl)
theorem z_iload (C : Cx G X cc nL own rm) {i : Nat} {x : Int32} (d : decode cc pc = .ok (.iload i, 2)) (q : Nat) (h : lv[q]? = some (i, .int x)) (kk : Zc G X nL kc ks ws lv (pc + 2) (.int x :: st)) : Zc G X nL kc ks ws lv pc st := by
  obtain ⟨p, l, e, R, s, m, args, below, meth, c, Q, A⟩ := X
  intro H locs ls hP hD hS hl
  obtain ⟨hx, hb, hml, hown, hts, hK, hA, hSx, hR⟩ := C
  exact lv_iload hx hb d (lv_at hl q h) (kk H locs ls hP hD hS hl)
theorem z_istore_n (C : Cx G X cc nL own rm) {k : Fin 4} {x : Int32} {lv' : List (Nat × Value)} (d : decode cc pc = .ok (.istore_n k, 1)) (hn : (k : Nat) < nL) (h : ((k : Nat), Value.int x) :: lv.filter (fun q => !(q.1 == (k : Nat)) && !(q.1 + 1 == (k : Nat) && q.2.category == 2)) = lv') (kk : Zc G X nL kc ks ws lv' (pc + 1) st) : Zc G X nL kc ks ws lv pc (.int x :: st) := by
  obtain ⟨p, l, e, R, s, m, args, below, meth, c, Q, A⟩ := X
  intro H locs ls hP hD hS hl
  obtain ⟨hx, hb, hml, hown, hts, hK, hA, hSx, hR⟩ := C
  exact lv_istore_n hx hb d rfl hl hn h (fun ls hl => (kk H locs ls hP hD hS hl))
theorem z_istore (C : Cx G X cc nL own rm) {i : Nat} {x : Int32} {lv' : List (Nat × Value)} (d : decode cc pc = .ok (.istore i, 2)) (hn : i < nL) (h : (i, Value.int x) :: lv.filter (fun q => !(q.1 == i) && !(q.1 + 1 == i && q.2.category == 2)) = lv') (kk : Zc G X nL kc ks ws lv' (pc + 2) st) : Zc G X nL kc ks ws lv pc (.int x :: st) := by
  obtain ⟨p, l, e, R, s, m, args, below, meth, c, Q, A⟩ := X
  intro H locs ls hP hD hS hl
  obtain ⟨hx, hb, hml, hown, hts, hK, hA, hSx, hR⟩ := C
  exact lv_istore hx hb d hl hn h (fun ls hl => (kk H locs ls hP hD hS hl))
theorem z_aload_n (C : Cx G X cc nL own rm) {k : Fin 4} {x : Nat} (d : decode cc pc = .ok (.aload_n k, 1)) (q : Nat) (h : lv[q]? = some ((k : Nat), .ref x)) (kk : Zc G X nL kc ks ws lv (pc + 1) (.ref x :: st)) : Zc G X nL kc ks ws lv pc st := by
  obtain ⟨p, l, e, R, s, m, args, below, meth, c, Q, A⟩ := X
  intro H locs ls hP hD hS hl
  obtain ⟨hx, hb, hml, hown, hts, hK, hA, hSx, hR⟩ := C
  exact lv_aload_n hx hb d rfl (lv_at hl q h) (kk H locs ls hP hD hS hl)
theorem z_aload (C : Cx G X cc nL own rm) {i : Nat} {x : Nat} (d : decode cc pc = .ok (.aload i, 2)) (q : Nat) (h : lv[q]? = some (i, .ref x)) (kk : Zc G X nL kc ks ws lv (pc + 2) (.ref x :: st)) : Zc G X nL kc ks ws lv pc st := by
  obtain ⟨p, l, e, R, s, m, args, below, meth, c, Q, A⟩ := X
  intro H locs ls hP hD hS hl
  obtain ⟨hx, hb, hml, hown, hts, hK, hA, hSx, hR⟩ := C
  exact lv_aload hx hb d (lv_at hl q h) (kk H locs ls hP hD hS hl)
theorem z_astore_n (C : Cx G X cc nL own rm) {k : Fin 4} {x : Nat} {lv' : List (Nat × Value)} (d : decode cc pc = .ok (.astore_n k, 1)) (hn : (k : Nat) < nL) (h : ((k : Nat), Value.ref x) :: lv.filter (fun q => !(q.1 == (k : Nat)) && !(q.1 + 1 == (k : Nat) && q.2.category == 2)) = lv') (kk : Zc G X nL kc ks ws lv' (pc + 1) st) : Zc G X nL kc ks ws lv pc (.ref x :: st) := by
  obtain ⟨p, l, e, R, s, m, args, below, meth, c, Q, A⟩ := X
  intro H locs ls hP hD hS hl
  obtain ⟨hx, hb, hml, hown, hts, hK, hA, hSx, hR⟩ := C
  exact lv_astore_n hx hb d rfl hl hn h (fun ls hl => (kk H locs ls hP hD hS hl))
theorem z_astore (C : Cx G X cc nL own rm) {i : Nat} {x : Nat} {lv' : List (Nat × Value)} (d : decode cc pc = .ok (.astore i, 2)) (hn : i < nL) (h : (i, Value.ref x) :: lv.filter (fun q => !(q.1 == i) && !(q.1 + 1 == i && q.2.category == 2)) = lv') (kk : Zc G X nL kc ks ws lv' (pc + 2) st) : Zc G X nL kc ks ws lv pc (.ref x :: st) := by
  obtain ⟨p, l, e, R, s, m, args, below, meth, c, Q, A⟩ := X
  intro H locs ls hP hD hS hl
  obtain ⟨hx, hb, hml, hown, hts, hK, hA, hSx, hR⟩ := C
  exact lv_astore hx hb d hl hn h (fun ls hl => (kk H locs ls hP hD hS hl))
theorem z_iinc (C : Cx G X cc nL own rm) {i : Nat} {n x : Int} {lv' : List (Nat × Value)} (d : decode cc pc = .ok (.iinc i n, 3)) (q : Nat) (hq : lv[q]? = some (i, .int (iI x))) (hn : i < nL) (h : (i, Value.int (iI (x + n))) :: lv.filter (fun q => !(q.1 == i) && !(q.1 + 1 == i && q.2.category == 2)) = lv') (kk : Zc G X nL kc ks ws lv' (pc + 3) st) : Zc G X nL kc ks ws lv pc st := by
  obtain ⟨p, l, e, R, s, m, args, below, meth, c, Q, A⟩ := X
  intro H locs ls hP hD hS hl
  obtain ⟨hx, hb, hml, hown, hts, hK, hA, hSx, hR⟩ := C
  exact lv_iinc hx hb d hl hq (iI_add x n) hn h (fun ls hl => (kk H locs ls hP hD hS hl))
theorem z_iadd (C : Cx G X cc nL own rm) {a b : Int} (d : decode cc pc = .ok (.iadd, 1)) (kk : Zc G X nL kc ks ws lv (pc + 1) (.int (iI (a + b)) :: st)) : Zc G X nL kc ks ws lv pc (.int (iI b) :: .int (iI a) :: st) := by
  obtain ⟨p, l, e, R, s, m, args, below, meth, c, Q, A⟩ := X
  intro H locs ls hP hD hS hl
  obtain ⟨hx, hb, hml, hown, hts, hK, hA, hSx, hR⟩ := C
  refine lv_iadd hx hb d ?_
  rw [iI_add]
  exact kk H locs ls hP hD hS hl
theorem z_isub (C : Cx G X cc nL own rm) {a b : Int} (d : decode cc pc = .ok (.isub, 1)) (kk : Zc G X nL kc ks ws lv (pc + 1) (.int (iI (a - b)) :: st)) : Zc G X nL kc ks ws lv pc (.int (iI b) :: .int (iI a) :: st) := by
  obtain ⟨p, l, e, R, s, m, args, below, meth, c, Q, A⟩ := X
  intro H locs ls hP hD hS hl
  obtain ⟨hx, hb, hml, hown, hts, hK, hA, hSx, hR⟩ := C
  refine lv_isub hx hb d ?_
  rw [iI_sub]
  exact kk H locs ls hP hD hS hl
theorem z_imul (C : Cx G X cc nL own rm) {a b : Int} (d : decode cc pc = .ok (.imul, 1)) (kk : Zc G X nL kc ks ws lv (pc + 1) (.int (iI (a * b)) :: st)) : Zc G X nL kc ks ws lv pc (.int (iI b) :: .int (iI a) :: st) := by
  obtain ⟨p, l, e, R, s, m, args, below, meth, c, Q, A⟩ := X
  intro H locs ls hP hD hS hl
  obtain ⟨hx, hb, hml, hown, hts, hK, hA, hSx, hR⟩ := C
  refine lv_imul hx hb d ?_
  rw [iI_mul]
  exact kk H locs ls hP hD hS hl
theorem z_i2b (C : Cx G X cc nL own rm) {a : Int} (d : decode cc pc = .ok (.i2b, 1)) (kk : Zc G X nL kc ks ws lv (pc + 1) (.int (iI (bN a)) :: st)) : Zc G X nL kc ks ws lv pc (.int (iI a) :: st) := by
  obtain ⟨p, l, e, R, s, m, args, below, meth, c, Q, A⟩ := X
  intro H locs ls hP hD hS hl
  obtain ⟨hx, hb, hml, hown, hts, hK, hA, hSx, hR⟩ := C
  exact lv_i2b hx hb d (iI_b a) (kk H locs ls hP hD hS hl)
theorem z_iand (C : Cx G X cc nL own rm) {x y : Int32} (d : decode cc pc = .ok (.iand, 1)) (v : Int32) (h : x &&& y = v) (kk : Zc G X nL kc ks ws lv (pc + 1) (.int v :: st)) : Zc G X nL kc ks ws lv pc (.int y :: .int x :: st) := by
  obtain ⟨p, l, e, R, s, m, args, below, meth, c, Q, A⟩ := X
  intro H locs ls hP hD hS hl
  obtain ⟨hx, hb, hml, hown, hts, hK, hA, hSx, hR⟩ := C
  subst h
  exact lv_iand hx hb d (kk H locs ls hP hD hS hl)
theorem z_ishr (C : Cx G X cc nL own rm) {x y : Int32} (d : decode cc pc = .ok (.ishr, 1)) (v : Int32) (h : x >>> (y &&& 31) = v) (kk : Zc G X nL kc ks ws lv (pc + 1) (.int v :: st)) : Zc G X nL kc ks ws lv pc (.int y :: .int x :: st) := by
  obtain ⟨p, l, e, R, s, m, args, below, meth, c, Q, A⟩ := X
  intro H locs ls hP hD hS hl
  obtain ⟨hx, hb, hml, hown, hts, hK, hA, hSx, hR⟩ := C
  subst h
  exact lv_ishr hx hb d (kk H locs ls hP hD hS hl)
theorem z_ior (C : Cx G X cc nL own rm) {x y : Int32} (d : decode cc pc = .ok (.ior, 1)) (v : Int32) (h : x ||| y = v) (kk : Zc G X nL kc ks ws lv (pc + 1) (.int v :: st)) : Zc G X nL kc ks ws lv pc (.int y :: .int x :: st) := by
  obtain ⟨p, l, e, R, s, m, args, below, meth, c, Q, A⟩ := X
  intro H locs ls hP hD hS hl
  obtain ⟨hx, hb, hml, hown, hts, hK, hA, hSx, hR⟩ := C
  subst h
  exact lv_ior hx hb d (kk H locs ls hP hD hS hl)
theorem z_ixor (C : Cx G X cc nL own rm) {x y : Int32} (d : decode cc pc = .ok (.ixor, 1)) (v : Int32) (h : x ^^^ y = v) (kk : Zc G X nL kc ks ws lv (pc + 1) (.int v :: st)) : Zc G X nL kc ks ws lv pc (.int y :: .int x :: st) := by
  obtain ⟨p, l, e, R, s, m, args, below, meth, c, Q, A⟩ := X
  intro H locs ls hP hD hS hl
  obtain ⟨hx, hb, hml, hown, hts, hK, hA, hSx, hR⟩ := C
  subst h
  exact lv_ixor hx hb d (kk H locs ls hP hD hS hl)
theorem z_ishl (C : Cx G X cc nL own rm) {x y : Int32} (d : decode cc pc = .ok (.ishl, 1)) (v : Int32) (h : x <<< (y &&& 31) = v) (kk : Zc G X nL kc ks ws lv (pc + 1) (.int v :: st)) : Zc G X nL kc ks ws lv pc (.int y :: .int x :: st) := by
  obtain ⟨p, l, e, R, s, m, args, below, meth, c, Q, A⟩ := X
  intro H locs ls hP hD hS hl
  obtain ⟨hx, hb, hml, hown, hts, hK, hA, hSx, hR⟩ := C
  subst h
  exact lv_ishl hx hb d (kk H locs ls hP hD hS hl)
theorem z_iushr (C : Cx G X cc nL own rm) {x y v : Int32} (d : decode cc pc = .ok (.iushr, 1)) (h : (x.toUInt32 >>> (y.toUInt32 &&& Int32.toUInt32 31)).toInt32 = v) (kk : Zc G X nL kc ks ws lv (pc + 1) (.int v :: st)) : Zc G X nL kc ks ws lv pc (.int y :: .int x :: st) := by
  obtain ⟨p, l, e, R, s, m, args, below, meth, c, Q, A⟩ := X
  intro H locs ls hP hD hS hl
  obtain ⟨hx, hb, hml, hown, hts, hK, hA, hSx, hR⟩ := C
  exact lv_iushr hx hb d h (kk H locs ls hP hD hS hl)
theorem z_irem (C : Cx G X cc nL own rm) {x y : Int32} (d : decode cc pc = .ok (.irem, 1)) (hne : ¬ y = 0) (v : Int32) (h : x - x / y * y = v) (kk : Zc G X nL kc ks ws lv (pc + 1) (.int v :: st)) : Zc G X nL kc ks ws lv pc (.int y :: .int x :: st) := by
  obtain ⟨p, l, e, R, s, m, args, below, meth, c, Q, A⟩ := X
  intro H locs ls hP hD hS hl
  obtain ⟨hx, hb, hml, hown, hts, hK, hA, hSx, hR⟩ := C
  subst h
  exact lv_irem hx hb d hne (kk H locs ls hP hD hS hl)
theorem z_dup (C : Cx G X cc nL own rm) {v : Value} (d : decode cc pc = .ok (.dup, 1)) (h : v.category = 1) (kk : Zc G X nL kc ks ws lv (pc + 1) (v :: v :: st)) : Zc G X nL kc ks ws lv pc (v :: st) := by
  obtain ⟨p, l, e, R, s, m, args, below, meth, c, Q, A⟩ := X
  intro H locs ls hP hD hS hl
  obtain ⟨hx, hb, hml, hown, hts, hK, hA, hSx, hR⟩ := C
  exact lv_dup hx hb d h (kk H locs ls hP hD hS hl)
theorem z_pop (C : Cx G X cc nL own rm) {v : Value} (d : decode cc pc = .ok (.pop, 1)) (h : v.category = 1) (kk : Zc G X nL kc ks ws lv (pc + 1) st) : Zc G X nL kc ks ws lv pc (v :: st) := by
  obtain ⟨p, l, e, R, s, m, args, below, meth, c, Q, A⟩ := X
  intro H locs ls hP hD hS hl
  obtain ⟨hx, hb, hml, hown, hts, hK, hA, hSx, hR⟩ := C
  exact lv_pop hx hb d h (kk H locs ls hP hD hS hl)
theorem z_dup_x1 (C : Cx G X cc nL own rm) {v w : Value} (d : decode cc pc = .ok (.dup_x1, 1)) (h : v.category = 1) (h2 : w.category = 1) (kk : Zc G X nL kc ks ws lv (pc + 1) (v :: w :: v :: st)) : Zc G X nL kc ks ws lv pc (v :: w :: st) := by
  obtain ⟨p, l, e, R, s, m, args, below, meth, c, Q, A⟩ := X
  intro H locs ls hP hD hS hl
  obtain ⟨hx, hb, hml, hown, hts, hK, hA, hSx, hR⟩ := C
  exact lv_dup_x1 hx hb d h h2 (kk H locs ls hP hD hS hl)
theorem z_dup2 (C : Cx G X cc nL own rm) {v w : Value} (d : decode cc pc = .ok (.dup2, 1)) (h : v.category = 1) (h2 : w.category = 1) (kk : Zc G X nL kc ks ws lv (pc + 1) (v :: w :: v :: w :: st)) : Zc G X nL kc ks ws lv pc (v :: w :: st) := by
  obtain ⟨p, l, e, R, s, m, args, below, meth, c, Q, A⟩ := X
  intro H locs ls hP hD hS hl
  obtain ⟨hx, hb, hml, hown, hts, hK, hA, hSx, hR⟩ := C
  exact lv_dup2_11 hx hb d h h2 (kk H locs ls hP hD hS hl)
theorem z_goto (C : Cx G X cc nL own rm) {off : Int} {tgt : Nat} (d : decode cc pc = .ok (.goto off, 3)) (ht : (pc : Int) + off = (tgt : Int)) (kk : Zc G X nL kc ks ws lv tgt st) : Zc G X nL kc ks ws lv pc st := by
  obtain ⟨p, l, e, R, s, m, args, below, meth, c, Q, A⟩ := X
  intro H locs ls hP hD hS hl
  obtain ⟨hx, hb, hml, hown, hts, hK, hA, hSx, hR⟩ := C
  exact lv_goto hx hb d ht (kk H locs ls hP hD hS hl)
theorem z_lookup (C : Cx G X cc nL own rm) {a dflt : Int} {ps : Array (Int × Int)} {len : Nat} {off : Int} {tgt : Nat} (d : decode cc pc = .ok (.lookupswitch dflt ps, len)) (hp : (ps.toList.zip (ps.toList.drop 1)).all (fun (a, next) => a.1 < next.1) = true) (ho : Op.lookupswitch.offset ps.toList dflt (iI a).toInt = off) (ht : (pc : Int) + off = (tgt : Int)) (kk : Zc G X nL kc ks ws lv tgt st) : Zc G X nL kc ks ws lv pc (.int (iI a) :: st) := by
  obtain ⟨p, l, e, R, s, m, args, below, meth, c, Q, A⟩ := X
  intro H locs ls hP hD hS hl
  obtain ⟨hx, hb, hml, hown, hts, hK, hA, hSx, hR⟩ := C
  exact lv_lookup hx hb d hp ho ht (kk H locs ls hP hD hS hl)
theorem z_tableOut (C : Cx G X cc nL own rm) {a dflt lo hi : Int} {offs : Array Int} {len : Nat} {tgt : Nat} (d : decode cc pc = .ok (.tableswitch dflt lo hi offs, len)) (h : (iI a).toInt < lo ∨ hi < (iI a).toInt) (ht : (pc : Int) + dflt = (tgt : Int)) (kk : Zc G X nL kc ks ws lv tgt st) : Zc G X nL kc ks ws lv pc (.int (iI a) :: st) := by
  obtain ⟨p, l, e, R, s, m, args, below, meth, c, Q, A⟩ := X
  intro H locs ls hP hD hS hl
  obtain ⟨hx, hb, hml, hown, hts, hK, hA, hSx, hR⟩ := C
  exact lv_tableOut hx hb d h ht (kk H locs ls hP hD hS hl)
theorem z_tableIn (C : Cx G X cc nL own rm) {a dflt lo hi : Int} {offs : Array Int} {len : Nat} {off : Int} {tgt : Nat} (d : decode cc pc = .ok (.tableswitch dflt lo hi offs, len)) (h1 : ¬ (iI a).toInt < lo) (h2 : ¬ hi < (iI a).toInt) (ho : offs[((iI a).toInt - lo).toNat]? = some off) (ht : (pc : Int) + off = (tgt : Int)) (kk : Zc G X nL kc ks ws lv tgt st) : Zc G X nL kc ks ws lv pc (.int (iI a) :: st) := by
  obtain ⟨p, l, e, R, s, m, args, below, meth, c, Q, A⟩ := X
  intro H locs ls hP hD hS hl
  obtain ⟨hx, hb, hml, hown, hts, hK, hA, hSx, hR⟩ := C
  exact lv_tableIn hx hb d h1 h2 ho ht (kk H locs ls hP hD hS hl)
theorem z_ldcS (C : Cx G X cc nL own rm) {idx i : Nat} {tx : String} (d : decode cc pc = .ok (.ldc idx, 2)) (h : sx_L[i]? = some (own, idx, tx)) (kk : Zc G X nL kc ks ws lv (pc + 2) (.ref (G.2.2.1 i) :: st)) : Zc G X nL kc ks ws lv pc st := by
  obtain ⟨p, l, e, R, s, m, args, below, meth, c, Q, A⟩ := X
  intro H locs ls hP hD hS hl
  obtain ⟨hx, hb, hml, hown, hts, hK, hA, hSx, hR⟩ := C
  exact va_ldcS hx hb hown (hSx.1 i _ h).1 d (kk H locs ls hP hD hS hl)
theorem z_icmp_eq (C : Cx G X cc nL own rm) {a b off : Int} {tgt : Nat} (d : decode cc pc = .ok (.if_icmp .eq off, 3)) (ht : (pc : Int) + off = (tgt : Int)) (ha : -2147483648 ≤ a ∧ a ≤ 2147483647) (hb2 : -2147483648 ≤ b ∧ b ≤ 2147483647) (kt : a = b → Zc G X nL kc ks ws lv tgt st) (kf : ¬ (a = b) → Zc G X nL kc ks ws lv (pc + 3) st) : Zc G X nL kc ks ws lv pc (.int (iI b) :: .int (iI a) :: st) := by
  obtain ⟨p, l, e, R, s, m, args, below, meth, c, Q, A⟩ := X
  intro H locs ls hP hD hS hl
  obtain ⟨hx, hb, hml, hown, hts, hK, hA, hSx, hR⟩ := C
  exact lv_icmp_eq hx hb d ht (fun h => kt ((iI_eq ha hb2).mp h) H locs ls hP hD hS hl) (fun h => kf (fun z => h ((iI_eq ha hb2).mpr z)) H locs ls hP hD hS hl)
theorem z_if_eq (C : Cx G X cc nL own rm) {a off : Int} {tgt : Nat} (d : decode cc pc = .ok (.ifCond .eq off, 3)) (ht : (pc : Int) + off = (tgt : Int)) (ha : -2147483648 ≤ a ∧ a ≤ 2147483647) (kt : a = 0 → Zc G X nL kc ks ws lv tgt st) (kf : ¬ (a = 0) → Zc G X nL kc ks ws lv (pc + 3) st) : Zc G X nL kc ks ws lv pc (.int (iI a) :: st) := by
  obtain ⟨p, l, e, R, s, m, args, below, meth, c, Q, A⟩ := X
  intro H locs ls hP hD hS hl
  obtain ⟨hx, hb, hml, hown, hts, hK, hA, hSx, hR⟩ := C
  have e0 : (0 : Int32) = iI 0 := rfl
  exact lv_if_eq hx hb d ht (fun h => kt ((iI_eq ha (by omega)).mp (by rw [← e0]; exact h)) H locs ls hP hD hS hl) (fun h => kf (fun z => h (by have := (iI_eq (b := 0) ha (by omega)).mpr z; rw [← e0] at this; exact this)) H locs ls hP hD hS hl)
theorem z_icmp_ne (C : Cx G X cc nL own rm) {a b off : Int} {tgt : Nat} (d : decode cc pc = .ok (.if_icmp .ne off, 3)) (ht : (pc : Int) + off = (tgt : Int)) (ha : -2147483648 ≤ a ∧ a ≤ 2147483647) (hb2 : -2147483648 ≤ b ∧ b ≤ 2147483647) (kt : a ≠ b → Zc G X nL kc ks ws lv tgt st) (kf : ¬ (a ≠ b) → Zc G X nL kc ks ws lv (pc + 3) st) : Zc G X nL kc ks ws lv pc (.int (iI b) :: .int (iI a) :: st) := by
  obtain ⟨p, l, e, R, s, m, args, below, meth, c, Q, A⟩ := X
  intro H locs ls hP hD hS hl
  obtain ⟨hx, hb, hml, hown, hts, hK, hA, hSx, hR⟩ := C
  exact lv_icmp_ne hx hb d ht (fun h => kt ((iI_ne ha hb2).mp h) H locs ls hP hD hS hl) (fun h => kf (fun z => z ((iI_eq ha hb2).mp h)) H locs ls hP hD hS hl)
theorem z_if_ne (C : Cx G X cc nL own rm) {a off : Int} {tgt : Nat} (d : decode cc pc = .ok (.ifCond .ne off, 3)) (ht : (pc : Int) + off = (tgt : Int)) (ha : -2147483648 ≤ a ∧ a ≤ 2147483647) (kt : a ≠ 0 → Zc G X nL kc ks ws lv tgt st) (kf : ¬ (a ≠ 0) → Zc G X nL kc ks ws lv (pc + 3) st) : Zc G X nL kc ks ws lv pc (.int (iI a) :: st) := by
  obtain ⟨p, l, e, R, s, m, args, below, meth, c, Q, A⟩ := X
  intro H locs ls hP hD hS hl
  obtain ⟨hx, hb, hml, hown, hts, hK, hA, hSx, hR⟩ := C
  have e0 : (0 : Int32) = iI 0 := rfl
  exact lv_if_ne hx hb d ht (fun h => kt ((iI_ne ha (by omega)).mp (by rw [← e0]; exact h)) H locs ls hP hD hS hl) (fun h => kf (fun z => z ((iI_eq ha (by omega)).mp (by rw [← e0]; exact h))) H locs ls hP hD hS hl)
theorem z_icmp_lt (C : Cx G X cc nL own rm) {a b off : Int} {tgt : Nat} (d : decode cc pc = .ok (.if_icmp .lt off, 3)) (ht : (pc : Int) + off = (tgt : Int)) (ha : -2147483648 ≤ a ∧ a ≤ 2147483647) (hb2 : -2147483648 ≤ b ∧ b ≤ 2147483647) (kt : a < b → Zc G X nL kc ks ws lv tgt st) (kf : ¬ (a < b) → Zc G X nL kc ks ws lv (pc + 3) st) : Zc G X nL kc ks ws lv pc (.int (iI b) :: .int (iI a) :: st) := by
  obtain ⟨p, l, e, R, s, m, args, below, meth, c, Q, A⟩ := X
  intro H locs ls hP hD hS hl
  obtain ⟨hx, hb, hml, hown, hts, hK, hA, hSx, hR⟩ := C
  exact lv_icmp_lt hx hb d ht (fun h => kt ((iI_lt ha hb2).mp h) H locs ls hP hD hS hl) (fun h => kf (fun z => h ((iI_lt ha hb2).mpr z)) H locs ls hP hD hS hl)
theorem z_if_lt (C : Cx G X cc nL own rm) {a off : Int} {tgt : Nat} (d : decode cc pc = .ok (.ifCond .lt off, 3)) (ht : (pc : Int) + off = (tgt : Int)) (ha : -2147483648 ≤ a ∧ a ≤ 2147483647) (kt : a < 0 → Zc G X nL kc ks ws lv tgt st) (kf : ¬ (a < 0) → Zc G X nL kc ks ws lv (pc + 3) st) : Zc G X nL kc ks ws lv pc (.int (iI a) :: st) := by
  obtain ⟨p, l, e, R, s, m, args, below, meth, c, Q, A⟩ := X
  intro H locs ls hP hD hS hl
  obtain ⟨hx, hb, hml, hown, hts, hK, hA, hSx, hR⟩ := C
  have e0 : (0 : Int32) = iI 0 := rfl
  exact lv_if_lt hx hb d ht (fun h => kt ((iI_lt ha (by omega)).mp (by rw [← e0]; exact h)) H locs ls hP hD hS hl) (fun h => kf (fun z => h (by have := (iI_lt (b := 0) ha (by omega)).mpr z; rw [← e0] at this; exact this)) H locs ls hP hD hS hl)
theorem z_icmp_ge (C : Cx G X cc nL own rm) {a b off : Int} {tgt : Nat} (d : decode cc pc = .ok (.if_icmp .ge off, 3)) (ht : (pc : Int) + off = (tgt : Int)) (ha : -2147483648 ≤ a ∧ a ≤ 2147483647) (hb2 : -2147483648 ≤ b ∧ b ≤ 2147483647) (kt : b ≤ a → Zc G X nL kc ks ws lv tgt st) (kf : ¬ (b ≤ a) → Zc G X nL kc ks ws lv (pc + 3) st) : Zc G X nL kc ks ws lv pc (.int (iI b) :: .int (iI a) :: st) := by
  obtain ⟨p, l, e, R, s, m, args, below, meth, c, Q, A⟩ := X
  intro H locs ls hP hD hS hl
  obtain ⟨hx, hb, hml, hown, hts, hK, hA, hSx, hR⟩ := C
  exact lv_icmp_ge hx hb d ht (fun h => kt ((iI_ge ha hb2).mp h) H locs ls hP hD hS hl) (fun h => kf (fun z => h ((iI_ge ha hb2).mpr z)) H locs ls hP hD hS hl)
theorem z_if_ge (C : Cx G X cc nL own rm) {a off : Int} {tgt : Nat} (d : decode cc pc = .ok (.ifCond .ge off, 3)) (ht : (pc : Int) + off = (tgt : Int)) (ha : -2147483648 ≤ a ∧ a ≤ 2147483647) (kt : 0 ≤ a → Zc G X nL kc ks ws lv tgt st) (kf : ¬ (0 ≤ a) → Zc G X nL kc ks ws lv (pc + 3) st) : Zc G X nL kc ks ws lv pc (.int (iI a) :: st) := by
  obtain ⟨p, l, e, R, s, m, args, below, meth, c, Q, A⟩ := X
  intro H locs ls hP hD hS hl
  obtain ⟨hx, hb, hml, hown, hts, hK, hA, hSx, hR⟩ := C
  have e0 : (0 : Int32) = iI 0 := rfl
  exact lv_if_ge hx hb d ht (fun h => kt ((iI_ge ha (by omega)).mp (by rw [← e0]; exact h)) H locs ls hP hD hS hl) (fun h => kf (fun z => h (by have := (iI_ge (b := 0) ha (by omega)).mpr z; rw [← e0] at this; exact this)) H locs ls hP hD hS hl)
theorem z_icmp_gt (C : Cx G X cc nL own rm) {a b off : Int} {tgt : Nat} (d : decode cc pc = .ok (.if_icmp .gt off, 3)) (ht : (pc : Int) + off = (tgt : Int)) (ha : -2147483648 ≤ a ∧ a ≤ 2147483647) (hb2 : -2147483648 ≤ b ∧ b ≤ 2147483647) (kt : b < a → Zc G X nL kc ks ws lv tgt st) (kf : ¬ (b < a) → Zc G X nL kc ks ws lv (pc + 3) st) : Zc G X nL kc ks ws lv pc (.int (iI b) :: .int (iI a) :: st) := by
  obtain ⟨p, l, e, R, s, m, args, below, meth, c, Q, A⟩ := X
  intro H locs ls hP hD hS hl
  obtain ⟨hx, hb, hml, hown, hts, hK, hA, hSx, hR⟩ := C
  exact lv_icmp_gt hx hb d ht (fun h => kt ((iI_gt ha hb2).mp h) H locs ls hP hD hS hl) (fun h => kf (fun z => h ((iI_gt ha hb2).mpr z)) H locs ls hP hD hS hl)
theorem z_if_gt (C : Cx G X cc nL own rm) {a off : Int} {tgt : Nat} (d : decode cc pc = .ok (.ifCond .gt off, 3)) (ht : (pc : Int) + off = (tgt : Int)) (ha : -2147483648 ≤ a ∧ a ≤ 2147483647) (kt : 0 < a → Zc G X nL kc ks ws lv tgt st) (kf : ¬ (0 < a) → Zc G X nL kc ks ws lv (pc + 3) st) : Zc G X nL kc ks ws lv pc (.int (iI a) :: st) := by
  obtain ⟨p, l, e, R, s, m, args, below, meth, c, Q, A⟩ := X
  intro H locs ls hP hD hS hl
  obtain ⟨hx, hb, hml, hown, hts, hK, hA, hSx, hR⟩ := C
  have e0 : (0 : Int32) = iI 0 := rfl
  exact lv_if_gt hx hb d ht (fun h => kt ((iI_gt ha (by omega)).mp (by rw [← e0]; exact h)) H locs ls hP hD hS hl) (fun h => kf (fun z => h (by have := (iI_gt (b := 0) ha (by omega)).mpr z; rw [← e0] at this; exact this)) H locs ls hP hD hS hl)
theorem z_icmp_le (C : Cx G X cc nL own rm) {a b off : Int} {tgt : Nat} (d : decode cc pc = .ok (.if_icmp .le off, 3)) (ht : (pc : Int) + off = (tgt : Int)) (ha : -2147483648 ≤ a ∧ a ≤ 2147483647) (hb2 : -2147483648 ≤ b ∧ b ≤ 2147483647) (kt : a ≤ b → Zc G X nL kc ks ws lv tgt st) (kf : ¬ (a ≤ b) → Zc G X nL kc ks ws lv (pc + 3) st) : Zc G X nL kc ks ws lv pc (.int (iI b) :: .int (iI a) :: st) := by
  obtain ⟨p, l, e, R, s, m, args, below, meth, c, Q, A⟩ := X
  intro H locs ls hP hD hS hl
  obtain ⟨hx, hb, hml, hown, hts, hK, hA, hSx, hR⟩ := C
  exact lv_icmp_le hx hb d ht (fun h => kt ((iI_le ha hb2).mp h) H locs ls hP hD hS hl) (fun h => kf (fun z => h ((iI_le ha hb2).mpr z)) H locs ls hP hD hS hl)
theorem z_if_le (C : Cx G X cc nL own rm) {a off : Int} {tgt : Nat} (d : decode cc pc = .ok (.ifCond .le off, 3)) (ht : (pc : Int) + off = (tgt : Int)) (ha : -2147483648 ≤ a ∧ a ≤ 2147483647) (kt : a ≤ 0 → Zc G X nL kc ks ws lv tgt st) (kf : ¬ (a ≤ 0) → Zc G X nL kc ks ws lv (pc + 3) st) : Zc G X nL kc ks ws lv pc (.int (iI a) :: st) := by
  obtain ⟨p, l, e, R, s, m, args, below, meth, c, Q, A⟩ := X
  intro H locs ls hP hD hS hl
  obtain ⟨hx, hb, hml, hown, hts, hK, hA, hSx, hR⟩ := C
  have e0 : (0 : Int32) = iI 0 := rfl
  exact lv_if_le hx hb d ht (fun h => kt ((iI_le ha (by omega)).mp (by rw [← e0]; exact h)) H locs ls hP hD hS hl) (fun h => kf (fun z => h (by have := (iI_le (b := 0) ha (by omega)).mpr z; rw [← e0] at this; exact this)) H locs ls hP hD hS hl)

theorem z_get {C0 : String} {T : u_T} {N ci k idx a : Nat} {fs : List Value} {v : Value} (C : Cx G X cc nL own rm) (f : FK own idx C0 T N ci k) (d : decode cc pc = .ok (.getfield idx, 3)) (q0 : Nat) (he : ws[q0]? = some (a, .inr (ci, fs))) (hv : fs[k]? = some v) (kk : Zc G X nL kc ks ws lv (pc + 3) (v :: st)) : Zc G X nL kc ks ws lv pc (.ref a :: st) := by
  obtain ⟨p, l, e, R, s, m, args, below, meth, c, Q, A⟩ := X
  intro H locs ls hP hD hS hl
  obtain ⟨hx, hb, hml, hown, hts, hK, hA, hSx, hR⟩ := C
  exact va_get hx hb hts f.1 hown hK hP q0 he f.2.1 k f.2.2.1 (hts _ f.2.2.2) (fun _ h => h) hv d (kk H locs ls hP hD hS hl)
theorem z_put {C0 : String} {T : u_T} {N ci k idx a : Nat} {fs : List Value} {v : Value} {ty0 : Nat → FieldType} (C : Cx G X cc nL own rm) (f : FK own idx C0 T N ci k) (hty : ∀ k, k < N → parseFieldDescriptor (T k).2.2.1 = some (ty0 k)) (hnm : ∀ a, a < N → ∀ b, b < N → a ≠ b → (T a).2.1 ≠ (T b).2.1) (d : decode cc pc = .ok (.putfield idx, 3)) (q0 : Nat) (he : ws[q0]? = some (a, .inr (ci, fs))) (hfin : (T k).2.2.2 = false) (hn : narrow (ty0 k) v = v) (hf : fits (ty0 k) v = true) (hl0 : k < fs.length) (ws' : va_W) (hw : ws.set q0 (a, .inr (ci, fs.set k v)) = ws') (kk : Zc G X nL kc ks ws' lv (pc + 3) st) : Zc G X nL kc ks ws lv pc (v :: .ref a :: st) := by
  obtain ⟨p, l, e, R, s, m, args, below, meth, c, Q, A⟩ := X
  intro H locs ls hP hD hS hl
  obtain ⟨hx, hb, hml, hown, hts, hK, hA, hSx, hR⟩ := C
  subst hw
  exact va_put hx hb hts f.1 ty0 hty hnm hown hK hP hD hS q0 he f.2.1 k f.2.2.1 (hts _ f.2.2.2) (fun _ h => h) hfin (hty k f.2.2.1) hn hf hl0 d (fun H1 locs1 hP hD hS => kk H1 locs1 ls hP hD hS hl)
theorem z_iald {n a : Nat} {F : Nat → Int} {i : Int} (C : Cx G X cc nL own rm) (d : decode cc pc = .ok (.iaload, 1)) (q0 : Nat) (ha : ws[q0]? = some (iA G a n F)) (hi : 0 ≤ i ∧ i < n ∧ n ≤ 2147483647) (kk : Zc G X nL kc ks ws lv (pc + 1) (.int (iI (F i.toNat)) :: st)) : Zc G X nL kc ks ws lv pc (.int (iI i) :: .ref a :: st) := by
  obtain ⟨p, l, e, R, s, m, args, below, meth, c, Q, A⟩ := X
  intro H locs ls hP hD hS hl
  obtain ⟨hx, hb, hml, hown, hts, hK, hA, hSx, hR⟩ := C
  refine va_iald hx hb hK hP q0 1 ha rfl (iI_in ⟨hi.1, hi.2.1⟩ hi.2.2) d ?_
  rw [iI_nat (by omega)]
  exact kk H locs ls hP hD hS hl
theorem z_iast {n a : Nat} {F : Nat → Int} {i x : Int} (C : Cx G X cc nL own rm) (d : decode cc pc = .ok (.iastore, 1)) (q0 : Nat) (ha : ws[q0]? = some (iA G a n F)) (hi : 0 ≤ i ∧ i < n ∧ n ≤ 2147483647) (ws' : va_W) (hw : ws.set q0 (iA G a n (uZ F i.toNat x)) = ws') (kk : Zc G X nL kc ks ws' lv (pc + 1) st) : Zc G X nL kc ks ws lv pc (.int (iI x) :: .int (iI i) :: .ref a :: st) := by
  obtain ⟨p, l, e, R, s, m, args, below, meth, c, Q, A⟩ := X
  intro H locs ls hP hD hS hl
  obtain ⟨hx, hb, hml, hown, hts, hK, hA, hSx, hR⟩ := C
  subst hw
  refine va_iast hx hb hK hP hD hS q0 1 ha rfl (iI_in (by omega) (by omega)) d (fun H1 locs1 hP hD hS => ?_)
  rw [iI_nat (by omega), upd_iI] at hP hD
  exact kk H1 locs1 ls hP hD hS hl
theorem z_bald {n a : Nat} {F : Nat → Int} {i : Int} (C : Cx G X cc nL own rm) (d : decode cc pc = .ok (.baload, 1)) (q0 : Nat) (ha : ws[q0]? = some (bA G a n F)) (hi : 0 ≤ i ∧ i < n ∧ n ≤ 2147483647) (kk : Zc G X nL kc ks ws lv (pc + 1) (.int (iI (F i.toNat)) :: st)) : Zc G X nL kc ks ws lv pc (.int (iI i) :: .ref a :: st) := by
  obtain ⟨p, l, e, R, s, m, args, below, meth, c, Q, A⟩ := X
  intro H locs ls hP hD hS hl
  obtain ⟨hx, hb, hml, hown, hts, hK, hA, hSx, hR⟩ := C
  refine va_bald hx hb hK hP q0 0 ha rfl (iI_in ⟨hi.1, hi.2.1⟩ hi.2.2) d ?_
  rw [iI_nat (by omega)]
  exact kk H locs ls hP hD hS hl
theorem z_bast {n a : Nat} {F : Nat → Int} {i x : Int} (C : Cx G X cc nL own rm) (d : decode cc pc = .ok (.bastore, 1)) (q0 : Nat) (ha : ws[q0]? = some (bA G a n F)) (hi : -128 ≤ x ∧ x ≤ 127 ∧ 0 ≤ i ∧ i < n ∧ n ≤ 2147483647) (ws' : va_W) (hw : ws.set q0 (bA G a n (uZ F i.toNat x)) = ws') (kk : Zc G X nL kc ks ws' lv (pc + 1) st) : Zc G X nL kc ks ws lv pc (.int (iI x) :: .int (iI i) :: .ref a :: st) := by
  obtain ⟨p, l, e, R, s, m, args, below, meth, c, Q, A⟩ := X
  intro H locs ls hP hD hS hl
  obtain ⟨hx, hb, hml, hown, hts, hK, hA, hSx, hR⟩ := C
  subst hw
  refine va_bast hx hb hK hP hD hS q0 0 ha rfl (iI_in (by omega) (by omega)) d (fun H1 locs1 hP hD hS => ?_)
  rw [iI_nat (by omega), vp_nar_byte, iI_b, bN_id (by omega), upd_iI] at hP hD
  exact kk H1 locs1 ls hP hD hS hl
theorem z_alen {a : Nat} {cA : ClassId} {x : vp_A} {ty : FieldType} (C : Cx G X cc nL own rm) (d : decode cc pc = .ok (.arraylength, 1)) (q0 t0 : Nat) (ha : ws[q0]? = some (a, .inl (cA, x))) (ht : (gT G)[t0]? = some (cA, ty)) (kk : Zc G X nL kc ks ws lv (pc + 1) (.int (iI (x.1 : Int)) :: st)) : Zc G X nL kc ks ws lv pc (.ref a :: st) := by
  obtain ⟨p, l, e, R, s, m, args, below, meth, c, Q, A⟩ := X
  intro H locs ls hP hD hS hl
  obtain ⟨hx, hb, hml, hown, hts, hK, hA, hSx, hR⟩ := C
  exact va_alen hx hb hK hP q0 t0 ha ht (v := iI (x.1 : Int)) Int32.ofInt_eq_ofNat.symm d (kk H locs ls hP hD hS hl)
end ZR
section ZC
variable {G : GG} {X : XX} {cc : ByteArray} {nL : Nat} {own : String} {rm : Room} {kc ks : Nat} {ws : va_W} {lv : List (Nat × Value)} {pc : Nat} {st : List Value}
variable {S : Type} {y : MethodName} {cc2 : ByteArray} {maxL n idx : Nat} {ret : Option FieldType} {rm2 : Room} {wc wr : va_W} {wo ws' : S → va_W}
theorem zp_sub {D : va_G} {wa wb : va_W} {H : Heap} (is : List Nat) (hs : is.map (fun i => wa[i]?) = wb.map some) (h : va_P D cls wa H) : va_P D cls wb H := by
  intro k q hk
  have h1 : (is.map (fun i => wa[i]?))[k]? = some (some q) := by rw [hs, List.getElem?_map, hk]; rfl
  rw [List.getElem?_map] at h1
  cases hi : is[k]? with
  | none => rw [hi] at h1; cases h1
  | some i => rw [hi] at h1; exact h i q (Option.some.inj h1)
theorem z_pre {s : State} {H : Heap} {A : Nat → Prop} {locs : List Loc} {vals : List Value} (hK : va_K G.1 cls (gT G) s) (hSx : Sx G A s s.heap) (hS : va_S A s.heap H locs) (hPc : va_P G.1 cls wc H) (hDc : va_D A wc) (hF : ∀ q, va_A wc H.size q → A q) : ∀ U : State, U.heap = H → s.WarmedH U.vm → zPre G vals wc H.size vals.toArray U := by
  intro U hU hW
  refine ⟨rfl, by rw [hU], by rw [hU]; exact hPc, va_K.moved hW.alike hK, hDc.weaken (fun _ _ _ _ => trivial), ?_⟩
  rw [hU]
  exact ((hSx.kept hS.2.1).narrow hF).warm hW
theorem z_calli {C0 : String} {post : Int32 → S → Prop} {b : Nat} {As rest : List Value} {ci q0 : Nat} {fs : List Value} {T : u_T} {N : Nat} (C : Cx G X cc nL own rm) (k : VK own idx C0 y n) (kw : Cond.code y cc2 maxL ret ∈ WS) (M : ∀ l sz, MetI l G sz y cc2 maxL ret rm2 (.ref b :: As) wc post wo)
    (hn : As.length = n) (hst : st = As.reverse ++ .ref b :: rest) (hcat : (rest.map fun v => v.category).sum ≤ 8) (hroom : (rm2.frames + 1 ≤ rm.frames ∧ 8 + (maxL + 11) + rm2.locals ≤ rm.locals) ∧ kc + rm2.cells ≤ rm.cells ∧ ks + rm2.slots ≤ rm.slots) (d : decode cc pc = .ok (.invokevirtual idx, 3))
    (he : ws[q0]? = some (b, .inr (ci, fs))) (hc : cls[ci]? = some (C0, T, N)) (isC isR is : List Nat) (hC : isC.map (fun i => ws[i]?) = wc.map some) (hR : isR.map (fun i => ws[i]?) = wr.map some) (hnd : (va_nd isC && va_nd isR && va_nd is && isR.all (fun i => !isC.contains i)) = true) (hws : ∀ u, is.map (fun i => (wr ++ wo u)[i]?) = (ws' u).map some)
    (kk : ∀ r u, post r u → Zc G X nL (kc + rm2.cells) (ks + rm2.slots) (ws' u) lv (pc + 3) (.int r :: rest)) : Zc G X nL kc ks ws lv pc st := by
  obtain ⟨p, l, e, R, s, m, args, below, meth, c, Q, A⟩ := X
  intro H locs ls hP hD hS hl
  obtain ⟨hx, hb, hml, hown, hts, hK, hA, hSx, hRR⟩ := C
  simp only [Bool.and_eq_true] at hnd
  obtain ⟨⟨⟨n1, n2⟩, n3⟩, n4⟩ := hnd
  have hdis : ∀ i ∈ isR, i ∉ isC := fun i hi hj => by
    have := List.all_eq_true.mp n4 i hi
    simp [hj] at this
  have hPc := zp_sub isC hC hP
  have hDc := hD.sub isC n1 hC
  have hF := va_free hD hS hA isC hC
  subst hst
  subst hRR
  refine va_calli (va_runV (As := As) (rest := rest) (Ts := Cond.code y cc2 maxL ret :: WS) ⟨hx, hb, hml, hown, fun w hw => (List.mem_cons.mp hw).elim (fun e => by rw [e]; exact hts _ kw) (hts w)⟩ (M l H.size) (cwV n (fun w hw => hts w hw) (Ts := WS) (fun w hw => ?_) rfl rfl rfl ⟨k.2.2.2.2.1, k.2.2.2.2.2⟩ hroom.1) ⟨zPre_blind, va_recv hK hP hc he, z_pre hK hSx hS hPc hDc hF⟩ rfl hn hl.1 rfl (lv_room hcat) d hroom.2) hS (fun q _ h => hF q h) hF (fun r u t H1 locs1 ht hvm hp hB hz1 hk1 hS1 => ?_)
  · unfold wsV at hw
    simp only [List.cons_append, List.nil_append, List.mem_cons] at hw
    have g : ∀ {w : Cond}, w ∈ WS → w ∈ WS ∧ ((w.onTables && w.keeps) = true ∨ ∃ ty, w = .arrayClass ty) := fun h => ⟨h, good_of_word (ws_good h)⟩
    rcases hw with rfl | rfl | rfl | rfl | rfl | h
    · exact g k.1
    · exact g k.2.1
    · exact g k.2.2.1
    · exact g k.2.2.2.1
    · exact g kw
    · exact g h
  · obtain ⟨hP1, hD1⟩ := hB
    rw [ht] at hP1
    obtain ⟨hP2, hD2⟩ := va_join hP hD isC isR hC hR n2 hdis hk1 hF hP1 hD1
    exact kk r u hp H1 locs1 ls (zp_sub is (hws u) hP2) (hD2.sub is n3 (hws u)) hS1 hl
theorem z_callv {C0 : String} {post : S → Prop} {b : Nat} {As rest : List Value} {ci q0 : Nat} {fs : List Value} {T : u_T} {N : Nat} (C : Cx G X cc nL own rm) (k : VK own idx C0 y n) (kw : Cond.code y cc2 maxL none ∈ WS) (M : ∀ l sz, MetV l G sz y cc2 maxL rm2 (.ref b :: As) wc post wo)
    (hn : As.length = n) (hst : st = As.reverse ++ .ref b :: rest) (hcat : (rest.map fun v => v.category).sum ≤ 8) (hroom : (rm2.frames + 1 ≤ rm.frames ∧ 8 + (maxL + 11) + rm2.locals ≤ rm.locals) ∧ kc + rm2.cells ≤ rm.cells ∧ ks + rm2.slots ≤ rm.slots) (d : decode cc pc = .ok (.invokevirtual idx, 3))
    (he : ws[q0]? = some (b, .inr (ci, fs))) (hc : cls[ci]? = some (C0, T, N)) (isC isR is : List Nat) (hC : isC.map (fun i => ws[i]?) = wc.map some) (hR : isR.map (fun i => ws[i]?) = wr.map some) (hnd : (va_nd isC && va_nd isR && va_nd is && isR.all (fun i => !isC.contains i)) = true) (hws : ∀ u, is.map (fun i => (wr ++ wo u)[i]?) = (ws' u).map some)
    (kk : ∀ u, post u → Zc G X nL (kc + rm2.cells) (ks + rm2.slots) (ws' u) lv (pc + 3) rest) : Zc G X nL kc ks ws lv pc st := by
  obtain ⟨p, l, e, R, s, m, args, below, meth, c, Q, A⟩ := X
  intro H locs ls hP hD hS hl
  obtain ⟨hx, hb, hml, hown, hts, hK, hA, hSx, hRR⟩ := C
  simp only [Bool.and_eq_true] at hnd
  obtain ⟨⟨⟨n1, n2⟩, n3⟩, n4⟩ := hnd
  have hdis : ∀ i ∈ isR, i ∉ isC := fun i hi hj => by
    have := List.all_eq_true.mp n4 i hi
    simp [hj] at this
  have hPc := zp_sub isC hC hP
  have hDc := hD.sub isC n1 hC
  have hF := va_free hD hS hA isC hC
  subst hst
  subst hRR
  refine va_callv (va_runV (As := As) (rest := rest) (Ts := Cond.code y cc2 maxL none :: WS) ⟨hx, hb, hml, hown, fun w hw => (List.mem_cons.mp hw).elim (fun e => by rw [e]; exact hts _ kw) (hts w)⟩ (M l H.size) (cwV n (fun w hw => hts w hw) (Ts := WS) (fun w hw => ?_) rfl rfl rfl ⟨k.2.2.2.2.1, k.2.2.2.2.2⟩ hroom.1) ⟨zPre_blind, va_recv hK hP hc he, z_pre hK hSx hS hPc hDc hF⟩ rfl hn hl.1 rfl (lv_room hcat) d hroom.2) hS (fun q _ h => hF q h) hF (fun u t H1 locs1 ht hvm hp hB hz1 hk1 hS1 => ?_)
  · unfold wsV at hw
    simp only [List.cons_append, List.nil_append, List.mem_cons] at hw
    have g : ∀ {w : Cond}, w ∈ WS → w ∈ WS ∧ ((w.onTables && w.keeps) = true ∨ ∃ ty, w = .arrayClass ty) := fun h => ⟨h, good_of_word (ws_good h)⟩
    rcases hw with rfl | rfl | rfl | rfl | rfl | h
    · exact g k.1
    · exact g k.2.1
    · exact g k.2.2.1
    · exact g k.2.2.2.1
    · exact g kw
    · exact g h
  · obtain ⟨hP1, hD1⟩ := hB
    rw [ht] at hP1
    obtain ⟨hP2, hD2⟩ := va_join hP hD isC isR hC hR n2 hdis hk1 hF hP1 hD1
    exact kk u hp H1 locs1 ls (zp_sub is (hws u) hP2) (hD2.sub is n3 (hws u)) hS1 hl
theorem z_gS {own : String} {idx n : Nat} {y : MethodName} {cc2 : ByteArray} {maxL : Nat} {ret : Option FieldType} (k : SK own idx y n) (kw : Cond.code y cc2 maxL ret ∈ WS) : GoodIn WS (va_wsS own idx y (Cond.code y cc2 maxL ret :: WS)) := by
  intro w hw
  unfold va_wsS at hw
  simp only [List.cons_append, List.nil_append, List.mem_cons] at hw
  have g : ∀ {w : Cond}, w ∈ WS → w ∈ WS ∧ ((w.onTables && w.keeps) = true ∨ ∃ ty, w = .arrayClass ty) := fun h => ⟨h, good_of_word (ws_good h)⟩
  rcases hw with rfl | rfl | rfl | rfl | h
  · exact g k.1
  · exact g k.2.1
  · exact g k.2.2.1
  · exact g kw
  · exact g h
theorem z_calliS {post : Int32 → S → Prop} {As rest : List Value} (C : Cx G X cc nL own rm) (k : SK own idx y n) (kw : Cond.code y cc2 maxL ret ∈ WS) (M : ∀ l sz, MetI l G sz y cc2 maxL ret rm2 As wc post wo)
    (hn : As.length = n) (hst : st = As.reverse ++ rest) (hcat : (rest.map fun v => v.category).sum ≤ 8) (hroom : (rm2.frames + 1 ≤ rm.frames ∧ 8 + (maxL + 11) + rm2.locals ≤ rm.locals) ∧ kc + rm2.cells ≤ rm.cells ∧ ks + rm2.slots ≤ rm.slots) (d : decode cc pc = .ok (.invokestatic idx, 3))
    (isC isR is : List Nat) (hC : isC.map (fun i => ws[i]?) = wc.map some) (hR : isR.map (fun i => ws[i]?) = wr.map some) (hnd : (va_nd isC && va_nd isR && va_nd is && isR.all (fun i => !isC.contains i)) = true) (hws : ∀ u, is.map (fun i => (wr ++ wo u)[i]?) = (ws' u).map some)
    (kk : ∀ r u, post r u → Zc G X nL (kc + rm2.cells) (ks + rm2.slots) (ws' u) lv (pc + 3) (.int r :: rest)) : Zc G X nL kc ks ws lv pc st := by
  obtain ⟨p, l, e, R, s, m, args, below, meth, c, Q, A⟩ := X
  intro H locs ls hP hD hS hl
  obtain ⟨hx, hb, hml, hown, hts, hK, hA, hSx, hRR⟩ := C
  simp only [Bool.and_eq_true] at hnd
  obtain ⟨⟨⟨n1, n2⟩, n3⟩, n4⟩ := hnd
  have hdis : ∀ i ∈ isR, i ∉ isC := fun i hi hj => by
    have := List.all_eq_true.mp n4 i hi
    simp [hj] at this
  have hPc := zp_sub isC hC hP
  have hDc := hD.sub isC n1 hC
  have hF := va_free hD hS hA isC hC
  subst hst
  subst hRR
  refine va_calli (va_runS (As := As) (rest := rest) (Ts := WS) ⟨hx, hb, hml, hown, hts⟩ (M l H.size) (va_cwS n hts (z_gS k kw) rfl rfl rfl k.2.2.2 hroom.1) ⟨zPre_blind, z_pre hK hSx hS hPc hDc hF⟩ rfl hn hl.1 rfl (lv_room hcat) d hroom.2) hS (fun q _ h => hF q h) hF (fun r u t H1 locs1 ht hvm hp hB hz1 hk1 hS1 => ?_)
  obtain ⟨hP1, hD1⟩ := hB
  rw [ht] at hP1
  obtain ⟨hP2, hD2⟩ := va_join hP hD isC isR hC hR n2 hdis hk1 hF hP1 hD1
  exact kk r u hp H1 locs1 ls (zp_sub is (hws u) hP2) (hD2.sub is n3 (hws u)) hS1 hl
theorem z_callvS {post : S → Prop} {As rest : List Value} (C : Cx G X cc nL own rm) (k : SK own idx y n) (kw : Cond.code y cc2 maxL none ∈ WS) (M : ∀ l sz, MetV l G sz y cc2 maxL rm2 As wc post wo)
    (hn : As.length = n) (hst : st = As.reverse ++ rest) (hcat : (rest.map fun v => v.category).sum ≤ 8) (hroom : (rm2.frames + 1 ≤ rm.frames ∧ 8 + (maxL + 11) + rm2.locals ≤ rm.locals) ∧ kc + rm2.cells ≤ rm.cells ∧ ks + rm2.slots ≤ rm.slots) (d : decode cc pc = .ok (.invokestatic idx, 3))
    (isC isR is : List Nat) (hC : isC.map (fun i => ws[i]?) = wc.map some) (hR : isR.map (fun i => ws[i]?) = wr.map some) (hnd : (va_nd isC && va_nd isR && va_nd is && isR.all (fun i => !isC.contains i)) = true) (hws : ∀ u, is.map (fun i => (wr ++ wo u)[i]?) = (ws' u).map some)
    (kk : ∀ u, post u → Zc G X nL (kc + rm2.cells) (ks + rm2.slots) (ws' u) lv (pc + 3) rest) : Zc G X nL kc ks ws lv pc st := by
  obtain ⟨p, l, e, R, s, m, args, below, meth, c, Q, A⟩ := X
  intro H locs ls hP hD hS hl
  obtain ⟨hx, hb, hml, hown, hts, hK, hA, hSx, hRR⟩ := C
  simp only [Bool.and_eq_true] at hnd
  obtain ⟨⟨⟨n1, n2⟩, n3⟩, n4⟩ := hnd
  have hdis : ∀ i ∈ isR, i ∉ isC := fun i hi hj => by
    have := List.all_eq_true.mp n4 i hi
    simp [hj] at this
  have hPc := zp_sub isC hC hP
  have hDc := hD.sub isC n1 hC
  have hF := va_free hD hS hA isC hC
  subst hst
  subst hRR
  refine va_callv (va_runS (As := As) (rest := rest) (Ts := WS) ⟨hx, hb, hml, hown, hts⟩ (M l H.size) (va_cwS n hts (z_gS k kw) rfl rfl rfl k.2.2.2 hroom.1) ⟨zPre_blind, z_pre hK hSx hS hPc hDc hF⟩ rfl hn hl.1 rfl (lv_room hcat) d hroom.2) hS (fun q _ h => hF q h) hF (fun u t H1 locs1 ht hvm hp hB hz1 hk1 hS1 => ?_)
  obtain ⟨hP1, hD1⟩ := hB
  rw [ht] at hP1
  obtain ⟨hP2, hD2⟩ := va_join hP hD isC isR hC hR n2 hdis hk1 hF hP1 hD1
  exact kk u hp H1 locs1 ls (zp_sub is (hws u) hP2) (hD2.sub is n3 (hws u)) hS1 hl
end ZC
