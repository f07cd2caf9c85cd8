theorem prun_more (F : Nat → Int) (n : Int) : ∀ (m : Nat) (p : Int) (c : Cf) (f g : Nat), p ≤ n → (n - p).toNat ≤ m → (n - p).toNat < f → (n - p).toNat < g → prun F n f p c = prun F n g p c := by
  intro m
  induction m with
  | zero =>
    intro p c f g hp h1 h2 h3
    obtain ⟨f, rfl⟩ : ∃ z, f = z + 1 := ⟨f - 1, by omega⟩
    obtain ⟨g, rfl⟩ : ∃ z, g = z + 1 := ⟨g - 1, by omega⟩
    have h4 := lx_rg F hp
    have h5 := lxK_rg F n p
    have h6 : lxK F n p = 0 := h5.2.2.2.mpr (by omega)
    unfold prun
    rw [if_pos h6, if_pos h6]
  | succ m ih =>
    intro p c f g hp h1 h2 h3
    obtain ⟨f, rfl⟩ : ∃ z, f = z + 1 := ⟨f - 1, by omega⟩
    obtain ⟨g, rfl⟩ : ∃ z, g = z + 1 := ⟨g - 1, by omega⟩
    have h4 := lx_rg F hp
    have h5 := lxK_rg F n p
    have h7 := lxA_rg F hp
    unfold prun
    split
    · rfl
    · split
      · rfl
      · split
        · rfl
        · rename_i h0
          have h8 : lxS F n p < n := by
            rcases Int.lt_or_le (lxS F n p) n with z | z
            · exact z
            · exact absurd (h5.2.2.2.mpr z) h0
          have h9 := h7.2.2 h8
          exact ih _ _ f g (by omega) (by omega) (by omega) (by omega)
/-- a text read from place p on -/
def rn (F : Nat → Int) (n p : Int) (c : Cf) : Int × Int × Cf := prun F n ((n - p).toNat + 1) p c
theorem rn_0 (F : Nat → Int) {n : Int} (c : Cf) (h : 0 ≤ n ∧ n ≤ 4096) : prun F n 4097 0 c = rn F n 0 c := prun_more F n 4096 0 c _ _ (by omega) (by omega) (by omega) (by omega)
def wA (F : Nat → Int) (n p : Int) : List Int := seg F (lxS F n p).toNat (lxA F n p - lxS F n p).toNat
theorem rn_step (F : Nat → Int) {n p : Int} (c : Cf) (hp : p ≤ n) : rn F n p c = if lxK F n p = 1 then (1, lxS F n p, c) else if ¬ (stp c (lxK F n p) (wA F n p)).1 = 0 then ((stp c (lxK F n p) (wA F n p)).1, lxS F n p, c) else if lxK F n p = 0 then (0, lxS F n p, (stp c (lxK F n p) (wA F n p)).2) else rn F n (lxA F n p) (stp c (lxK F n p) (wA F n p)).2 := by
  have h4 := lx_rg F hp
  have h5 := lxK_rg F n p
  have h7 := lxA_rg F hp
  conv => lhs; unfold rn prun
  show (if lxK F n p = 1 then (1, lxS F n p, c) else if ¬ (stp c (lxK F n p) (wA F n p)).1 = 0 then ((stp c (lxK F n p) (wA F n p)).1, lxS F n p, c) else if lxK F n p = 0 then (0, lxS F n p, (stp c (lxK F n p) (wA F n p)).2) else prun F n (n - p).toNat (lxA F n p) (stp c (lxK F n p) (wA F n p)).2) = _
  split
  · rfl
  · split
    · rfl
    · split
      · rfl
      · rename_i h0
        have h8 : lxS F n p < n := by
          rcases Int.lt_or_le (lxS F n p) n with z | z
          · exact z
          · exact absurd (h5.2.2.2.mpr z) h0
        have h9 := h7.2.2 h8
        exact prun_more F n _ _ _ _ _ (by omega) (Nat.le_refl _) (by omega) (by omega)
theorem kdR_i {k ki wh : Int} (h : kdR k ki wh) (hk : 0 ≤ k ∧ k ≤ 15 ∧ ¬ k = 1) : (k = 0 ∧ ki = 0) ∨ (k = 2 ∧ ki = 2 ∧ wh = 58) ∨ (k = 3 ∧ ki = 2 ∧ wh = 59) ∨ (k = 4 ∧ ki = 2 ∧ wh = 44) ∨ (k = 5 ∧ ki = 2 ∧ wh = 62) ∨ (k = 6 ∧ ki = 1 ∧ wh = -1) ∨ (7 ≤ k ∧ ki = 3 ∧ wh = k - 7) := by
  obtain ⟨h1, h2, h3, h4⟩ := h
  rcases (show k = 0 ∨ k = 2 ∨ k = 3 ∨ k = 4 ∨ k = 5 ∨ k = 6 ∨ 7 ≤ k by omega) with e | e | e | e | e | e | e
  · exact Or.inl ⟨e, h1 e⟩
  · have q := h2 (by omega)
    rw [if_pos e] at q
    exact Or.inr (Or.inl ⟨e, q.1, q.2⟩)
  · have q := h2 (by omega)
    rw [if_neg (by omega), if_pos e] at q
    exact Or.inr (Or.inr (Or.inl ⟨e, q.1, q.2⟩))
  · have q := h2 (by omega)
    rw [if_neg (by omega), if_neg (by omega), if_pos e] at q
    exact Or.inr (Or.inr (Or.inr (Or.inl ⟨e, q.1, q.2⟩)))
  · have q := h2 (by omega)
    rw [if_neg (by omega), if_neg (by omega), if_neg (by omega)] at q
    exact Or.inr (Or.inr (Or.inr (Or.inr (Or.inl ⟨e, q.1, q.2⟩))))
  · exact Or.inr (Or.inr (Or.inr (Or.inr (Or.inr (Or.inl ⟨e, (h3 e).1, (h3 e).2⟩)))))
  · exact Or.inr (Or.inr (Or.inr (Or.inr (Or.inr (Or.inr ⟨e, (h4 e).1, (h4 e).2⟩)))))
/-- the reference stands before the lexeme at p, in configuration c; or it has told a fault -/
def Sim (R : Int × Int × Cf) (sF : Nat → Int) (n mfa mpl mfr mto mki mwh p : Int) (c : Cf) : Prop :=
  (mfa = 0 ∧ (0 ≤ p ∧ p ≤ n) ∧ mfr = lxS (bF sF) n p ∧ mto = lxA (bF sF) n p ∧ kdR (lxK (bF sF) n p) mki mwh ∧ ¬ lxK (bF sF) n p = 1 ∧ rn (bF sF) n p c = R ∧ mpl = 0) ∨ (1 ≤ mfa ∧ mfa ≤ 7 ∧ R.1 = mfa ∧ R.2.1 = mpl)
section SIM
variable {R : Int × Int × Cf} {sF : Nat → Int} {n mfa mpl mfr mto mki mwh p : Int} {c : Cf}
theorem Sim_rg (h : Sim R sF n mfa mpl mfr mto mki mwh p c) : 0 ≤ mfa ∧ mfa ≤ 7 := by
  rcases h with h | h <;> omega
theorem Sim_0 (h : Sim R sF n mfa mpl mfr mto mki mwh p c) (h0 : mfa = 0) : (0 ≤ p ∧ p ≤ n) ∧ mfr = lxS (bF sF) n p ∧ mto = lxA (bF sF) n p ∧ kdR (lxK (bF sF) n p) mki mwh ∧ ¬ lxK (bF sF) n p = 1 ∧ rn (bF sF) n p c = R := by
  rcases h with ⟨-, h1, h2, h3, h4, h5, h6, -⟩ | h
  · exact ⟨h1, h2, h3, h4, h5, h6⟩
  · exfalso; omega
theorem Sim_pl (h : Sim R sF n mfa mpl mfr mto mki mwh p c) (h0 : mfa = 0) : mpl = 0 := by
  rcases h with ⟨-, -, -, -, -, -, -, h7⟩ | h
  · exact h7
  · exfalso; omega
theorem Sim_x (h : Sim R sF n mfa mpl mfr mto mki mwh p c) (h0 : ¬ mfa = 0) (mfr2 mto2 mki2 mwh2 p2 : Int) (c2 : Cf) : Sim R sF n mfa mpl mfr2 mto2 mki2 mwh2 p2 c2 := by
  rcases h with h | h
  · exact absurd h.1 h0
  · exact Or.inr h
theorem Sim_tell (h : Sim R sF n mfa mpl mfr mto mki mwh p c) (h0 : mfa = 0) {f : Int} (hf : (stp c (lxK (bF sF) n p) (wA (bF sF) n p)).1 = f) (h1 : 1 ≤ f ∧ f ≤ 7) (mto2 mki2 mwh2 p2 : Int) (c2 : Cf) : Sim R sF n f mfr mfr mto2 mki2 mwh2 p2 c2 := by
  obtain ⟨hp, hfr, hto, hk, h1k, hR⟩ := Sim_0 h h0
  rw [rn_step _ _ hp.2, if_neg h1k, if_pos (by omega)] at hR
  exact Or.inr ⟨h1.1, h1.2, by rw [← hR]; exact hf, by rw [← hR]; exact hfr.symm⟩
theorem Sim_adv (h : Sim R sF n mfa mpl mfr mto mki mwh p c) (h0 : mfa = 0) {c2 : Cf} (hs : stp c (lxK (bF sF) n p) (wA (bF sF) n p) = (0, c2)) (hk0 : ¬ lxK (bF sF) n p = 0) {ki2 wh2 to2 fa2 pl2 : Int}
    (ha : (lxK (bF sF) n mto = 1 → fa2 = 1 ∧ pl2 = lxS (bF sF) n mto) ∧ (¬ lxK (bF sF) n mto = 1 → fa2 = 0 ∧ pl2 = mpl ∧ to2 = lxA (bF sF) n mto ∧ kdR (lxK (bF sF) n mto) ki2 wh2)) : Sim R sF n fa2 pl2 (lxS (bF sF) n mto) to2 ki2 wh2 mto c2 := by
  obtain ⟨hp, hfr, hto, hk, h1k, hR⟩ := Sim_0 h h0
  have h4 := lx_rg (bF sF) hp.2
  have h7 := lxA_rg (bF sF) hp.2
  rw [rn_step _ _ hp.2, if_neg h1k, hs, if_neg (fun z => z rfl), if_neg hk0] at hR
  rw [← hto] at hR
  by_cases h1 : lxK (bF sF) n mto = 1
  · obtain ⟨e1, e2⟩ := ha.1 h1
    rw [rn_step _ _ (by omega), if_pos h1] at hR
    exact Or.inr ⟨by omega, by omega, by rw [← hR]; exact e1.symm, by rw [← hR]; exact e2.symm⟩
  · obtain ⟨e1, e2, e3, e4⟩ := ha.2 h1
    exact Or.inl ⟨e1, ⟨by omega, by omega⟩, rfl, e3, e4, h1, hR, e2.trans (Sim_pl h h0)⟩
end SIM
/-- the reference's rows hold the names of N -/
def NamM (sF nf ng sr nu ma no : Nat → Int) (mna : Int) (N : NL) : Prop :=
  mna = (N.length : Int) ∧ N.length ≤ 40 ∧
  (∀ i, i < N.length → (sor N i = 0 ∨ sor N i = 1 ∨ sor N i = 2) ∧ 0 ≤ nf i ∧ nf i < ng i ∧ ng i ≤ 4096 ∧ ng i - nf i ≤ 12 ∧ seg (bF sF) (nf i).toNat (ng i - nf i).toNat = wrd N i ∧ sr i = sor N i ∧ nu i = nub N i ∧ no (16 * sor N i + nub N i).toNat = (i : Int)) ∧
  (ma 0 = cN 0 N ∧ ma 1 = cN 1 N ∧ ma 2 = cN 2 N) ∧ cnt ma ∧
  (∀ i j, i < N.length → j < N.length → wrd N i = wrd N j → i = j)
