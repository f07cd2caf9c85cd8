/-- the first k of F, the rest of E -/
def cpZ (F E : Nat → Int) (k : Int) : Nat → Int := fun j => if (j : Int) < k then F j else E j
theorem wy_link : (Cond.methodLink "ProtocolText" 177 arraycopyName) ∈ WS := ws_t (List.mem_of_getElem? (i := 834) (by decide +kernel)) (by decide +kernel)
theorem wy_stat : (Cond.static arraycopyName) ∈ WS := ws_t (List.mem_of_getElem? (i := 835) (by decide +kernel)) (by decide +kernel)
theorem wy_nat : (Cond.native arraycopyName) ∈ WS := ws_t (List.mem_of_getElem? (i := 836) (by decide +kernel)) (by decide +kernel)
theorem wy_init : (Cond.initialized "java/lang/System") ∈ WS := ws_t (List.mem_of_getElem? (i := 22) (by decide +kernel)) (by decide +kernel)
theorem z_acopyb {G : GG} {X : XX} {cc : ByteArray} {nL : Nat} {own : String} {rm : Room} {kc ks : Nat} {ws : va_W} {lv : List (Nat × Value)} {pc : Nat} {st : List Value} {n0 n1 a0 a idx : Nat} {F E : Nat → Int} {k : Int} (C : Cx G X cc nL own rm) (hlink : (Cond.methodLink own idx arraycopyName) ∈ WS) (d : decode cc pc = .ok (.invokestatic idx, 3))
    (q0 q1 : Nat) (ha0 : ws[q0]? = some (bA G a0 n0 F)) (ha1 : ws[q1]? = some (bA G a n1 E)) (hk : 0 ≤ k ∧ k ≤ n0 ∧ k ≤ n1 ∧ k ≤ 2147483647) (hF : byt F) (hst : st = []) (hrm : 1 ≤ rm.frames ∧ nativeFrameWords "java/lang/System" "arraycopy" 5 + 11 ≤ rm.locals) (ws' : va_W) (hw : ws.set q1 (bA G a n1 (cpZ F E k)) = ws')
    (kk : Zc G X nL kc ks ws' lv (pc + 3) st) : Zc G X nL kc ks ws lv pc (.int (iI k) :: .int (iI 0) :: .ref a :: .int (iI 0) :: .ref a0 :: st) := by
  obtain ⟨p, l, e, R, s, m, args, below, meth, c, Q, A⟩ := X
  intro H locs ls hP hD hS hl
  obtain ⟨hx, hb, hml, hown, hts, hK, hA, hSx, hR⟩ := C
  subst hw
  subst hR
  subst hst
  have e0 : (iI 0).toNatClampNeg = 0 := by decide
  have ek : (iI k).toNatClampNeg = k.toNat := iI_nat (by omega)
  have hn0 : ¬ iI 0 < 0 := by decide
  have hnk : ¬ iI k < 0 := fun z => by
    have := (iI_lt (a := k) (b := 0) (by omega) (by omega)).mp z
    omega
  refine va_copyi hx hb (by rw [hml]; exact hl.1.symm) hown (hts _ hlink) (hts _ wy_nat) (hts _ wy_stat) (hts _ wy_init) hK hP hD hS q0 q1 0 0 ha0 ha1 rfl rfl rfl hn0 hn0 hnk (by rw [e0, ek]; omega) (by rw [e0, ek]; omega) (fun i hi => ?_) hrm.1 (by show 0 + _ ≤ _; have := hrm.2; omega) d (fun H1 locs1 hP hD hS => ?_)
  · have hb9 := hF ((iI 0).toNatClampNeg + i)
    have h1 : ¬ iI (F ((iI 0).toNatClampNeg + i)) < iI (-128) := fun z => by have := (iI_lt (by omega) (by omega)).mp z; omega
    have h2 : ¬ iI 127 < iI (F ((iI 0).toNatClampNeg + i)) := fun z => by have := (iI_lt (by omega) (by omega)).mp z; omega
    have h3 : (-128 : Int32) ≤ iI (F ((iI 0).toNatClampNeg + i)) := Int32.not_lt.mp h1
    have h4 : iI (F ((iI 0).toNatClampNeg + i)) ≤ (127 : Int32) := Int32.not_lt.mp h2
    simp [fits, h3, h4]
  · have ec : va_cpy (fun j => iI (F j)) (fun j => iI (E j)) (iI 0).toNatClampNeg (iI 0).toNatClampNeg (iI k).toNatClampNeg = fun j => iI (cpZ F E k j) := by
      funext j
      unfold va_cpy cpZ
      rw [e0, ek]
      by_cases h : (j : Int) < k
      · rw [if_pos (by omega), if_pos h, show 0 + (j - 0) = j by omega]
      · rw [if_neg (by omega), if_neg h]
    rw [ec] at hP hD
    exact kk H1 locs1 ls hP hD hS hl
