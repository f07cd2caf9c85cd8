theorem wo_i : Cond.instanceMethod Lib.objectInit ∈ WS := ws_t (List.mem_of_getElem? (i := 29) (by decide +kernel)) (by decide +kernel)
theorem wo_c : Cond.code Lib.objectInit ⟨#[0xb1]⟩ 1 none ∈ WS := ws_t (List.mem_of_getElem? (i := 30) (by decide +kernel)) (by decide +kernel)
section ZIN
variable {G : GG} {X : XX} {cc : ByteArray} {nL : Nat} {own : String} {rm : Room} {kc ks : Nat} {ws : va_W} {lv : List (Nat × Value)} {pc : Nat} {st : List Value}
/-- the walk is of a constructor -/
def Ci (X : XX) : Prop := match X with
  | (_, _, _, _, _, _, _, _, meth, _, _, _) => meth.name = "<init>"
theorem z_new {C0 : String} {T : u_T} {N ci idx : Nat} {fs : List Value} {ty : Nat → FieldType} (C : Cx G X cc nL own rm) (hin : ∀ w ∈ u_ws C0 T N, w ∈ WS) (hty : ∀ k, k < N → parseFieldDescriptor (T k).2.2.1 = some (ty k)) (hcl : Cond.classLink own idx C0 ∈ WS) (hinst : Cond.instantiable C0 N ∈ WS) (hini : Cond.initialized C0 ∈ WS) (hc : cls[ci]? = some (C0, T, N))
    (hfs : ∀ j, j < N → defaultValue (ty j) = vp_V fs j) (hroom : kc + 1 ≤ rm.cells ∧ ks + N ≤ rm.slots) (d : decode cc pc = .ok (.new idx, 3)) (kk : ∀ q : Nat, Zc G X nL (kc + 1) (ks + N) (ws ++ [(q, .inr (ci, fs))]) lv (pc + 3) (.ref q :: st)) : Zc G X nL kc ks ws lv pc st := by
  obtain ⟨p, l, e, R, s, m, args, below, meth, c, Q, A⟩ := X
  intro H locs ls hP hD hS hl
  obtain ⟨hx, hb, hml, hown, hts, hK, hA, hSx, hR⟩ := C
  subst hR
  exact va_new hx hb hts hin ty hty hown (hts _ hcl) (hts _ hinst) (hts _ hini) hK hP hD hS hA hc hfs hroom.1 hroom.2 d (fun q H1 hP hD hS => kk q H1 locs ls hP hD hS hl)
theorem z_newb {n : Int} (C : Cx G X cc nL own rm) (d : decode cc pc = .ok (.newarray .byte, 2)) (hn : 0 ≤ n ∧ n ≤ 100000) (hroom : kc + 1 ≤ rm.cells ∧ ks + n.toNat ≤ rm.slots) (kk : ∀ q : Nat, Zc G X nL (kc + 1) (ks + n.toNat) (ws ++ [bA G q n.toNat (fun _ => 0)]) lv (pc + 2) (.ref q :: st)) : Zc G X nL kc ks ws lv pc (.int (iI n) :: st) := by
  obtain ⟨p, l, e, R, s, m, args, below, meth, c, Q, A⟩ := X
  intro H locs ls hP hD hS hl
  obtain ⟨hx, hb, hml, hown, hts, hK, hA, hSx, hR⟩ := C
  subst hR
  have hnn : ¬ iI n < 0 := fun z => by have := (iI_lt (a := n) (b := 0) (by omega) (by omega)).mp z; omega
  refine va_newa hx hb (atype := .byte) (hts _ wa_byte) (ty := .byte) rfl hK hP hD hS hA (a0 := (n.toNat, .inl (fun _ => iI 0))) (fun cA => rfl) hnn (iI_nat (by omega)) (by show n.toNat * 1 ≤ _; omega) hroom.1 hroom.2 d (fun q cA H1 hK2 hP hD hS => ?_)
  have h1 : s.vm.findClass ("[" ++ FieldType.byte.toString) = some cA := (hK2.2 3 (cA, .byte) rfl).2
  have h2 : s.vm.findClass ("[" ++ FieldType.byte.toString) = some G.2.1.1 := (hK.2 0 (G.2.1.1, .byte) rfl).2
  cases h1.symm.trans h2
  exact kk q H1 locs ls hP hD hS hl
theorem z_newi {n : Int} (C : Cx G X cc nL own rm) (d : decode cc pc = .ok (.newarray .int, 2)) (hn : 0 ≤ n ∧ n ≤ 100000) (hroom : kc + 1 ≤ rm.cells ∧ ks + n.toNat ≤ rm.slots) (kk : ∀ q : Nat, Zc G X nL (kc + 1) (ks + n.toNat) (ws ++ [iA G q n.toNat (fun _ => 0)]) lv (pc + 2) (.ref q :: st)) : Zc G X nL kc ks ws lv pc (.int (iI n) :: st) := by
  obtain ⟨p, l, e, R, s, m, args, below, meth, c, Q, A⟩ := X
  intro H locs ls hP hD hS hl
  obtain ⟨hx, hb, hml, hown, hts, hK, hA, hSx, hR⟩ := C
  subst hR
  have hnn : ¬ iI n < 0 := fun z => by have := (iI_lt (a := n) (b := 0) (by omega) (by omega)).mp z; omega
  refine va_newa hx hb (atype := .int) (hts _ wa_int) (ty := .int) rfl hK hP hD hS hA (a0 := (n.toNat, .inl (fun _ => iI 0))) (fun cA => rfl) hnn (iI_nat (by omega)) (by show n.toNat * 4 ≤ _; omega) hroom.1 hroom.2 d (fun q cA H1 hK2 hP hD hS => ?_)
  have h1 : s.vm.findClass ("[" ++ FieldType.int.toString) = some cA := (hK2.2 3 (cA, .int) rfl).2
  have h2 : s.vm.findClass ("[" ++ FieldType.int.toString) = some G.2.1.2.1 := (hK.2 1 (G.2.1.2.1, .int) rfl).2
  cases h1.symm.trans h2
  exact kk q H1 locs ls hP hD hS hl
theorem z_newl {n : Int} (C : Cx G X cc nL own rm) (d : decode cc pc = .ok (.newarray .long, 2)) (hn : n = 1) (hroom : kc + 1 ≤ rm.cells ∧ ks + 1 ≤ rm.slots) (kk : ∀ q : Nat, Zc G X nL (kc + 1) (ks + 1) (ws ++ [lA G q (fun _ => 0)]) lv (pc + 2) (.ref q :: st)) : Zc G X nL kc ks ws lv pc (.int (iI n) :: st) := by
  obtain ⟨p, l, e, R, s, m, args, below, meth, c, Q, A⟩ := X
  intro H locs ls hP hD hS hl
  obtain ⟨hx, hb, hml, hown, hts, hK, hA, hSx, hR⟩ := C
  subst hR
  subst hn
  refine va_newa hx hb (atype := .long) (hts _ wa_long) (ty := .long) rfl hK hP hD hS hA (a0 := (1, .inr (.inl (fun _ => 0)))) (fun cA => rfl) (by decide) (by decide) (by decide) hroom.1 hroom.2 d (fun q cA H1 hK2 hP hD hS => ?_)
  have h1 : s.vm.findClass ("[" ++ FieldType.long.toString) = some cA := (hK2.2 3 (cA, .long) rfl).2
  have h2 : s.vm.findClass ("[" ++ FieldType.long.toString) = some G.2.1.2.2 := (hK.2 2 (G.2.1.2.2, .long) rfl).2
  cases h1.symm.trans h2
  exact kk q H1 locs ls hP hD hS hl
theorem z_putF {C0 : String} {T : u_T} {N ci k idx a : Nat} {fs : List Value} {v : Value} {ty0 : Nat → FieldType} (C : Cx G X cc nL own rm) (I : Ci X) (f : FK own idx C0 T N ci k) (hty : ∀ k, k < N → parseFieldDescriptor (T k).2.2.1 = some (ty0 k)) (hnm : ∀ a, a < N → ∀ b, b < N → a ≠ b → (T a).2.1 ≠ (T b).2.1) (d : decode cc pc = .ok (.putfield idx, 3)) (q0 : Nat) (he : ws[q0]? = some (a, .inr (ci, fs))) (hfin : (T k).2.2.2 = true) (hdecl : (T k).1 = own) (hn : narrow (ty0 k) v = v) (hf : fits (ty0 k) v = true) (hl0 : k < fs.length) (ws' : va_W) (hw : ws.set q0 (a, .inr (ci, fs.set k v)) = ws') (kk : Zc G X nL kc ks ws' lv (pc + 3) st) : Zc G X nL kc ks ws lv pc (v :: .ref a :: st) := by
  obtain ⟨p, l, e, R, s, m, args, below, meth, c, Q, A⟩ := X
  intro H locs ls hP hD hS hl
  obtain ⟨hx, hb, hml, hown, hts, hK, hA, hSx, hR⟩ := C
  subst hw
  exact va_putF hx hb hts f.1 ty0 hty hnm hown hK hP hD hS q0 he f.2.1 k f.2.2.1 (hts _ f.2.2.2) (fun _ h => h) hfin I hdecl (hty k f.2.2.1) hn hf hl0 d (fun H1 locs1 hP hD hS => kk H1 locs1 ls hP hD hS hl)
theorem z_oinit {idx a : Nat} (C : Cx G X cc nL own rm) (hli : Cond.methodLink own idx Lib.objectInit ∈ WS) (d : decode cc pc = .ok (.invokespecial idx, 3)) (hcat : (st.map fun v => v.category).sum ≤ 8) (hroom : 1 ≤ rm.frames ∧ 20 ≤ rm.locals) (kk : Zc G X nL kc ks ws lv (pc + 3) st) : Zc G X nL kc ks ws lv pc (.ref a :: st) := by
  obtain ⟨p, l, e, R, s, m, args, below, meth, c, Q, A⟩ := X
  intro H locs ls hP hD hS hl
  obtain ⟨hx, hb, hml, hown, hts, hK, hA, hSx, hR⟩ := C
  subst hR
  exact W.objInit hx hb hown (hts _ hli) (hts _ wo_i) (hts _ wo_c) rfl (by rw [hml]; exact hl.1) rfl d hroom.1 (by show 2 * 0 + (st.map fun v => v.category).sum + 12 ≤ R.locals; omega) (kk H locs ls hP hD hS hl)
end ZIN
