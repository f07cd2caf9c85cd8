theorem NamM_0 (sF nf ng sr nu ma no : Nat → Int) : NamM sF nf ng sr nu (flZ 3 0 ma) no 0 [] := by
  have h : ∀ j : Nat, j < 3 → flZ 3 0 ma j = 0 := fun j hj => if_pos hj
  refine ⟨rfl, Nat.zero_le _, fun i hi => absurd hi (Nat.not_lt_zero _), ⟨h 0 (by omega), h 1 (by omega), h 2 (by omega)⟩, ?_, fun i j hi => absurd hi (Nat.not_lt_zero _)⟩
  unfold cnt
  rw [h 0 (by omega), h 1 (by omega), h 2 (by omega)]
  omega
theorem Sim_init {sF : Nat → Int} {n fa2 pl2 to2 ki2 wh2 : Int} {c : Cf} (hn : 0 ≤ n)
    (ha : (lxK (bF sF) n 0 = 1 → fa2 = 1 ∧ pl2 = lxS (bF sF) n 0) ∧ (¬ lxK (bF sF) n 0 = 1 → fa2 = 0 ∧ pl2 = 0 ∧ to2 = lxA (bF sF) n 0 ∧ kdR (lxK (bF sF) n 0) ki2 wh2)) : Sim (rn (bF sF) n 0 c) sF n fa2 pl2 (lxS (bF sF) n 0) to2 ki2 wh2 0 c := by
  by_cases h1 : lxK (bF sF) n 0 = 1
  · obtain ⟨e1, e2⟩ := ha.1 h1
    have e := rn_step (bF sF) (n := n) (p := 0) c hn
    rw [if_pos h1] at e
    exact Or.inr ⟨by omega, by omega, by rw [e]; exact e1.symm, by rw [e]; exact e2.symm⟩
  · obtain ⟨e1, e2, e3, e4⟩ := ha.2 h1
    exact Or.inl ⟨e1, ⟨Int.le_refl _, hn⟩, rfl, e3, e4, h1, rfl, e2⟩
theorem Sim_end {R : Int × Int × Cf} {sF : Nat → Int} {n mfa mpl mfr mto mki mwh p so nv st pr ac : Int} {N : NL} {ug ua : Nat → Int} {ur uv uf : Int} (h : Sim R sF n mfa mpl mfr mto mki mwh p (0, so, nv, st, pr, ac, N, ug, ua, ur, uv, uf)) (h0 : mfa = 0) (hk : mki = 0) : R.1 = 0 ∧ R.2.2 = (0, so, nv, st, pr, ac, N, ug, ua, ur, uv, uf) ∧ mpl = 0 := by
  obtain ⟨hp, hfr, hto, hkd, h1k, hR⟩ := Sim_0 h h0
  have hkr := lxK_rg (bF sF) n p
  have hki := kdR_i hkd ⟨hkr.1, hkr.2.1, h1k⟩
  have hk0 : lxK (bF sF) n p = 0 := by omega
  have hst : ∀ w, stp (0, so, nv, st, pr, ac, N, ug, ua, ur, uv, uf) 0 w = (0, (0, so, nv, st, pr, ac, N, ug, ua, ur, uv, uf)) := fun w => rfl
  rw [rn_step _ _ hp.2, if_neg h1k, hk0, hst, if_neg (fun z => z rfl), if_pos rfl] at hR
  exact ⟨by rw [← hR], by rw [← hR], Sim_pl h h0⟩
theorem Sim_bad {R : Int × Int × Cf} {sF : Nat → Int} {n mfa mpl mfr mto mki mwh p : Int} {c : Cf} (h : Sim R sF n mfa mpl mfr mto mki mwh p c) (h0 : ¬ mfa = 0) : R.1 = mfa ∧ R.2.1 = mpl := by
  rcases h with h | h
  · exact absurd h.1 h0
  · exact ⟨h.2.2.1, h.2.2.2⟩
/-- nothing read yet -/
def C00 (so nv st pr ac : Int) : Cf := (0, so, nv, st, pr, ac, [], fun _ => -1, fun _ => -1, 0, 0, -1)
theorem gol_1 : gol (fun _ => -1) := fun j => by show (-2 : Int) ≤ -1 ∧ (-1 : Int) ≤ 15; omega
/-- a text's reading sees no more of the row than the text -/
theorem skW_cg {F E : Nat → Int} {n : Int} (h : ∀ j : Nat, (j : Int) < n → F j = E j) : ∀ (k : Nat) (c p : Int), 0 ≤ p → p + k ≤ n → skW F k c p = skW E k c p := by
  intro k
  induction k with
  | zero => intro c p _ _; rfl
  | succ k ih =>
    intro c p h0 hp
    have e := h p.toNat (by omega)
    unfold skW
    rw [e, ih 0 (p + 1) (by omega) (by omega), ih 1 (p + 1) (by omega) (by omega), ih c (p + 1) (by omega) (by omega)]
theorem skN_cg {F E : Nat → Int} {n : Int} (h : ∀ j : Nat, (j : Int) < n → F j = E j) : ∀ (k : Nat) (p : Int), 0 ≤ p → p + k ≤ n → skN F k p = skN E k p := by
  intro k
  induction k with
  | zero => intro p _ _; rfl
  | succ k ih =>
    intro p h0 hp
    have e := h p.toNat (by omega)
    unfold skN
    rw [e, ih (p + 1) (by omega) (by omega)]
theorem lx_cg {F E : Nat → Int} {n p : Int} (h : ∀ j : Nat, (j : Int) < n → F j = E j) (h0 : 0 ≤ p) (hp : p ≤ n) : lxS F n p = lxS E n p ∧ lxA F n p = lxA E n p ∧ lxK F n p = lxK E n p ∧ wA F n p = wA E n p := by
  have e1 : lxS F n p = lxS E n p := skW_cg h _ _ _ h0 (by omega)
  have h4 := lx_rg E hp
  have h7 := lxA_rg E hp
  have e2 : lxA F n p = lxA E n p := by
    unfold lxA
    rw [e1]
    split
    · rfl
    · rw [h (lxS E n p).toNat (by omega), skN_cg h _ _ (by omega) (by omega)]
  have e4 : wA F n p = wA E n p := by
    unfold wA
    rw [e1, e2]
    exact seg_congr _ _ _ (fun j hj => h _ (by omega))
  refine ⟨e1, e2, ?_, e4⟩
  have e5 : seg F (lxS E n p).toNat (lxA E n p - lxS E n p).toNat = seg E (lxS E n p).toNat (lxA E n p - lxS E n p).toNat := seg_congr _ _ _ (fun j hj => h _ (by omega))
  unfold lxK
  rw [e1, e2, e5]
  split
  · rfl
  · rw [h (lxS E n p).toNat (by omega)]
theorem prun_cg {F E : Nat → Int} {n : Int} (h : ∀ j : Nat, (j : Int) < n → F j = E j) : ∀ (f : Nat) (p : Int) (c : Cf), 0 ≤ p → p ≤ n → prun F n f p c = prun E n f p c := by
  intro f
  induction f with
  | zero => intro p c _ _; rfl
  | succ f ih =>
    intro p c h0 hp
    obtain ⟨e1, e2, e3, e4⟩ := lx_cg h h0 hp
    have h7 := lxA_rg E hp
    have h4 := lx_rg E hp
    have e5 : seg F (lxS E n p).toNat (lxA E n p - lxS E n p).toNat = seg E (lxS E n p).toNat (lxA E n p - lxS E n p).toNat := seg_congr _ _ _ (fun j hj => h _ (by omega))
    unfold prun
    rw [e1, e2, e3, e5, ih _ _ (by omega) (by omega)]
theorem stp_fst {c : Cf} {k : Int} {w : List Int} (h : cI c) : -2147483648 ≤ (stp c k w).1 ∧ (stp c k w).1 ≤ 2147483647 := by
  obtain ⟨ph, so, nv, st, pr, ac, N, ug, ua, ur, uv, uf⟩ := c
  exact stp_rg so nv st pr ac N ug ua ur uv uf k w ⟨h.2.2.1.1, h.2.2.1.2.1⟩
theorem prun_rg (F : Nat → Int) (n : Int) : ∀ (f : Nat) (p : Int) (c : Cf), cI c → -2147483648 ≤ (prun F n f p c).1 ∧ (prun F n f p c).1 ≤ 2147483647 := by
  intro f
  induction f with
  | zero => intro p c _; show (-2147483648 : Int) ≤ 0 ∧ (0 : Int) ≤ 2147483647; omega
  | succ f ih =>
    intro p c h
    unfold prun
    split
    · show (-2147483648 : Int) ≤ 1 ∧ (1 : Int) ≤ 2147483647; omega
    · split
      · exact stp_fst h
      · rename_i hs
        split
        · show (-2147483648 : Int) ≤ 0 ∧ (0 : Int) ≤ 2147483647; omega
        · exact ih _ _ (cI_stp h (Prod.ext (Decidable.not_not.mp hs) rfl))
theorem rpI_f {nl nn nt ug ua : Nat → Int} (h : rpI nl nn nt ug ua) : rpI nl (flZ 40 0 nn) (flZ 3 0 nt) (fun _ => -1) (fun _ => -1) := by
  refine ⟨h.1, fun j => ?_, ?_, gol_1, fun j => by show (-1 : Int) ≤ -1 ∧ (-1 : Int) ≤ 101; omega⟩
  · unfold flZ; split
    · omega
    · exact h.2.1 j
  · have e : ∀ j : Nat, j < 3 → flZ 3 0 nt j = 0 := fun j hj => if_pos hj
    unfold cnt
    rw [e 0 (by omega), e 1 (by omega), e 2 (by omega)]
    omega
theorem flZ_all {n : Nat} {v : Int} {F : Nat → Int} (h : ∀ j, n ≤ j → F j = v) : flZ n v F = fun _ => v := by
  funext j
  unfold flZ
  split
  · rfl
  · exact h j (by omega)
theorem flZ_dst {F : Nat → Int} (h : dst F) (n : Nat) : dst (flZ n (-1) F) := fun j => by
  unfold flZ
  split
  · omega
  · exact h j
