theorem ml_jS_getv : Cond.fieldLink R_jS 9 R_jS "value" "[B" ∈ WS := ws_t (List.mem_of_getElem? (i := 1163) (by decide +kernel)) (by decide +kernel)
theorem ml_jS_getc : Cond.fieldLink R_jS 15 R_jS "coder" "B" ∈ WS := ws_t (List.mem_of_getElem? (i := 1164) (by decide +kernel)) (by decide +kernel)
theorem ml_jS_cs : Cond.fieldLink R_jS 38 R_jS "COMPACT_STRINGS" "Z" ∈ WS := ws_t (List.mem_of_getElem? (i := 268) (by decide +kernel)) (by decide +kernel)
theorem ml_jS_fm : Cond.fieldLink R_jS 1053 R_jP "SIOOBE_FORMATTER" "Ljava/util/function/BiFunction;" ∈ WS := ws_t (List.mem_of_getElem? (i := 284) (by decide +kernel)) (by decide +kernel)
theorem iI_nI {b : Int} (h : 0 ≤ b) : iI b = nI b.toNat := by
  unfold iI nI
  rw [← Int32.ofInt_eq_ofNat]
  congr 1
  omega
theorem sx_asc0 : ∀ q ∈ sx_L, q.2.2.toList.all (fun c => decide (c.toNat < 128)) = true := by decide +kernel
theorem sx_asc {i : Nat} {q : String × Nat × String} (h : sx_L[i]? = some q) (j : Nat) : 0 ≤ sx_b q.2.2 j ∧ sx_b q.2.2 j < 128 := by
  have h1 := sx_asc0 q (List.mem_of_getElem? h)
  unfold sx_b
  rw [List.getD_eq_getElem?_getD]
  cases hj : q.2.2.toList[j]? with
  | none => exact ⟨by decide, by decide⟩
  | some c =>
    have h2 := of_decide_eq_true (List.all_eq_true.mp h1 c (List.mem_of_getElem? hj))
    show 0 ≤ ((c.toNat : Nat) : Int) ∧ ((c.toNat : Nat) : Int) < 128
    omega
theorem sx_len0 : ∀ q ∈ sx_L, q.2.2.toList.length ≤ 100 := by decide +kernel
theorem sx_len {i : Nat} {q : String × Nat × String} (h : sx_L[i]? = some q) : q.2.2.toList.length ≤ 100 := sx_len0 q (List.mem_of_getElem? h)
theorem iI_a255 {b : Int} (h : 0 ≤ b ∧ b ≤ 255) : iI b &&& iI 255 = iI b := by
  rw [iI_nI h.1, show iI 255 = (255 : Int32) from rfl, pk_andN (by omega) 8 (by decide), Nat.mod_eq_of_lt (by omega)]
theorem iI_c {b : Int} (h : 0 ≤ b ∧ b ≤ 65535) : ((iI b).toUInt32 % 65536).toInt32 = iI b := by
  rw [iI_nI h.1, pk_char, pk_tn (by omega), Nat.mod_eq_of_lt (by omega)]
theorem iI_nc {b : Int} (h : 0 ≤ b ∧ b ≤ 65535) : narrow .char (.int (iI b)) = .int (iI b) := by
  rw [iI_nI h.1]
  exact (pk_charN (by omega)).1
section ZS
variable {G : GG} {X : XX} {cc : ByteArray} {nL : Nat} {own : String} {rm : Room} {kc ks : Nat} {ws : va_W} {lv : List (Nat × Value)} {pc : Nat} {st : List Value}
theorem z_getS_value {i : Nat} {q : String × Nat × String} (C : Cx G X cc nL R_jS rm) (d : decode cc pc = .ok (.getfield 9, 3)) (hq : sx_L[i]? = some q) (kk : Zc G X nL kc ks ws lv (pc + 3) (.ref (G.2.2.2 i) :: st)) : Zc G X nL kc ks ws lv pc (.ref (G.2.2.1 i) :: st) := by
  obtain ⟨p, l, e, R, s, m, args, below, meth, c, Q, A⟩ := X
  intro H locs ls hP hD hS hl
  obtain ⟨hx, hb, hml, hown, hts, hK, hA, hSx, hR⟩ := C
  exact vk_getf hx hb (hSx.1 i q hq).2.2.2.1 hS hown (hts _ ml_jS_getv) (fun _ h => h) d (kk H locs ls hP hD hS hl)
theorem z_getS_coder {i : Nat} {q : String × Nat × String} (C : Cx G X cc nL R_jS rm) (d : decode cc pc = .ok (.getfield 15, 3)) (hq : sx_L[i]? = some q) (kk : Zc G X nL kc ks ws lv (pc + 3) (.int (iI 0) :: st)) : Zc G X nL kc ks ws lv pc (.ref (G.2.2.1 i) :: st) := by
  obtain ⟨p, l, e, R, s, m, args, below, meth, c, Q, A⟩ := X
  intro H locs ls hP hD hS hl
  obtain ⟨hx, hb, hml, hown, hts, hK, hA, hSx, hR⟩ := C
  exact vk_getf hx hb (hSx.1 i q hq).2.2.1 hS hown (hts _ ml_jS_getc) (fun _ h => h) d (kk H locs ls hP hD hS hl)
theorem z_gets_cs (C : Cx G X cc nL R_jS rm) (d : decode cc pc = .ok (.getstatic 38, 3)) (kk : Zc G X nL kc ks ws lv (pc + 3) (.int (iI 1) :: st)) : Zc G X nL kc ks ws lv pc st := by
  obtain ⟨p, l, e, R, s, m, args, below, meth, c, Q, A⟩ := X
  intro H locs ls hP hD hS hl
  obtain ⟨hx, hb, hml, hown, hts, hK, hA, hSx, hR⟩ := C
  exact va_gets hx hb hSx.2.1 hS hown (hts _ ml_jS_cs) (fun _ h => h) d (kk H locs ls hP hD hS hl)
theorem z_gets_fm (C : Cx G X cc nL R_jS rm) (d : decode cc pc = .ok (.getstatic 1053, 3)) (k0 : Zc G X nL kc ks ws lv (pc + 3) (.null :: st)) (k1 : ∀ t, Zc G X nL kc ks ws lv (pc + 3) (.ref t :: st)) : Zc G X nL kc ks ws lv pc st := by
  obtain ⟨p, l, e, R, s, m, args, below, meth, c, Q, A⟩ := X
  intro H locs ls hP hD hS hl
  obtain ⟨hx, hb, hml, hown, hts, hK, hA, hSx, hR⟩ := C
  rcases hSx.2.2 with h | ⟨t, h⟩
  · exact va_gets hx hb h hS hown (hts _ ml_jS_fm) (fun _ h => h) d (k0 H locs ls hP hD hS hl)
  · exact va_gets hx hb h hS hown (hts _ ml_jS_fm) (fun _ h => h) d (k1 t H locs ls hP hD hS hl)
theorem z_lenT {i : Nat} {o : String} {k : Nat} {tx : String} (C : Cx G X cc nL own rm) (d : decode cc pc = .ok (.arraylength, 1)) (hq : sx_L[i]? = some (o, k, tx)) (kk : Zc G X nL kc ks ws lv (pc + 1) (.int (iI (tx.toList.length : Int)) :: st)) : Zc G X nL kc ks ws lv pc (.ref (G.2.2.2 i) :: st) := by
  obtain ⟨p, l, e, R, s, m, args, below, meth, c, Q, A⟩ := X
  intro H locs ls hP hD hS hl
  obtain ⟨hx, hb, hml, hown, hts, hK, hA, hSx, hR⟩ := C
  exact va_tlen hx hb (hSx.1 i _ hq).2.2.2.2 hS Int32.ofInt_eq_ofNat.symm d (kk H locs ls hP hD hS hl)
theorem z_baldT {i : Nat} {o : String} {k : Nat} {tx : String} {j : Int} (C : Cx G X cc nL own rm) (d : decode cc pc = .ok (.baload, 1)) (hq : sx_L[i]? = some (o, k, tx)) (hj : 0 ≤ j ∧ j < tx.toList.length ∧ tx.toList.length ≤ 2147483647) (kk : Zc G X nL kc ks ws lv (pc + 1) (.int (iI (sx_b tx j.toNat)) :: st)) : Zc G X nL kc ks ws lv pc (.int (iI j) :: .ref (G.2.2.2 i) :: st) := by
  obtain ⟨p, l, e, R, s, m, args, below, meth, c, Q, A⟩ := X
  intro H locs ls hP hD hS hl
  obtain ⟨hx, hb, hml, hown, hts, hK, hA, hSx, hR⟩ := C
  exact va_tb hx hb (hSx.1 i _ hq).2.2.2.2 hS (iI_in ⟨hj.1, hj.2.1⟩ hj.2.2) (by rw [iI_nat (by omega)]) d (kk H locs ls hP hD hS hl)
theorem z_i2c {a : Int} (C : Cx G X cc nL own rm) (d : decode cc pc = .ok (.i2c, 1)) (h : 0 ≤ a ∧ a ≤ 65535) (kk : Zc G X nL kc ks ws lv (pc + 1) (.int (iI a) :: st)) : Zc G X nL kc ks ws lv pc (.int (iI a) :: st) := by
  obtain ⟨p, l, e, R, s, m, args, below, meth, c, Q, A⟩ := X
  intro H locs ls hP hD hS hl
  obtain ⟨hx, hb, hml, hown, hts, hK, hA, hSx, hR⟩ := C
  exact lv_i2c hx hb d (iI_c h) (kk H locs ls hP hD hS hl)
variable {S : Type} {y : MethodName} {cc2 : ByteArray} {maxL n idx : Nat} {ret : Option FieldType} {rm2 : Room} {wc wr : va_W} {wo ws' : S → va_W}
theorem z_gV {own C0 : String} {idx n : Nat} {y : MethodName} {cc2 : ByteArray} {maxL : Nat} {ret : Option FieldType} (k : VK own idx C0 y n) (kw : Cond.code y cc2 maxL ret ∈ WS) : GoodIn WS (wsV own idx C0 y (Cond.code y cc2 maxL ret :: WS)) := by
  intro w hw
  unfold wsV at hw
  simp only [List.cons_append, List.nil_append, List.mem_cons] at hw
  have g : ∀ {w : Cond}, w ∈ WS → w ∈ WS ∧ ((w.onTables && w.keeps) = true ∨ ∃ ty, w = .arrayClass ty) := fun h => ⟨h, good_of_word (ws_good h)⟩
  rcases hw with rfl | rfl | rfl | rfl | rfl | h
  · exact g k.1
  · exact g k.2.1
  · exact g k.2.2.1
  · exact g k.2.2.2.1
  · exact g kw
  · exact g h
theorem z_calliT {i : Nat} {q : String × Nat × String} {post : Int32 → S → Prop} {As rest : List Value} (C : Cx G X cc nL own rm) (k : VK own idx R_jS y n) (kw : Cond.code y cc2 maxL ret ∈ WS) (M : ∀ l sz, MetI l G sz y cc2 maxL ret rm2 (.ref (G.2.2.1 i) :: As) wc post wo)
    (hn : As.length = n) (hst : st = As.reverse ++ .ref (G.2.2.1 i) :: rest) (hcat : (rest.map fun v => v.category).sum ≤ 8) (hroom : (rm2.frames + 1 ≤ rm.frames ∧ 8 + (maxL + 11) + rm2.locals ≤ rm.locals) ∧ kc + rm2.cells ≤ rm.cells ∧ ks + rm2.slots ≤ rm.slots) (d : decode cc pc = .ok (.invokevirtual idx, 3))
    (hq : sx_L[i]? = some q) (isC isR is : List Nat) (hC : isC.map (fun i => ws[i]?) = wc.map some) (hR : isR.map (fun i => ws[i]?) = wr.map some) (hnd : (va_nd isC && va_nd isR && va_nd is && isR.all (fun i => !isC.contains i)) = true) (hws : ∀ u, is.map (fun i => (wr ++ wo u)[i]?) = (ws' u).map some)
    (kk : ∀ r u, post r u → Zc G X nL (kc + rm2.cells) (ks + rm2.slots) (ws' u) lv (pc + 3) (.int r :: rest)) : Zc G X nL kc ks ws lv pc st := by
  obtain ⟨p, l, e, R, s, m, args, below, meth, c, Q, A⟩ := X
  intro H locs ls hP hD hS hl
  obtain ⟨hx, hb, hml, hown, hts, hK, hA, hSx, hRR⟩ := C
  simp only [Bool.and_eq_true] at hnd
  obtain ⟨⟨⟨n1, n2⟩, n3⟩, n4⟩ := hnd
  have hdis : ∀ i ∈ isR, i ∉ isC := fun i hi hj => by
    have := List.all_eq_true.mp n4 i hi
    simp [hj] at this
  have hPc := zp_sub isC hC hP
  have hDc := hD.sub isC n1 hC
  have hF := va_free hD hS hA isC hC
  subst hst
  subst hRR
  refine va_calli (va_runV (As := As) (rest := rest) (Ts := WS) ⟨hx, hb, hml, hown, hts⟩ (M l H.size) (cwV n hts (z_gV k kw) rfl rfl rfl ⟨k.2.2.2.2.1, k.2.2.2.2.2⟩ hroom.1) ⟨zPre_blind, va_Orecv (hSx.1 i q hq).2.1 hS, z_pre hK hSx hS hPc hDc hF⟩ rfl hn hl.1 rfl (lv_room hcat) d hroom.2) hS (fun q _ h => hF q h) hF (fun r u t H1 locs1 ht hvm hp hB hz1 hk1 hS1 => ?_)
  obtain ⟨hP1, hD1⟩ := hB
  rw [ht] at hP1
  obtain ⟨hP2, hD2⟩ := va_join hP hD isC isR hC hR n2 hdis hk1 hF hP1 hD1
  exact kk r u hp H1 locs1 ls (zp_sub is (hws u) hP2) (hD2.sub is n3 (hws u)) hS1 hl
end ZS
