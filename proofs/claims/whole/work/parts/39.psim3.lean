theorem kd_sg {k ki wh ch kd : Int} (h : kdR k ki wh) (hk : 0 ≤ k ∧ k ≤ 15 ∧ ¬ k = 1) (hc : (ch = 58 ∧ kd = 2) ∨ (ch = 59 ∧ kd = 3) ∨ (ch = 44 ∧ kd = 4) ∨ (ch = 62 ∧ kd = 5)) : (ki = 2 ∧ wh = ch) ↔ k = kd := by
  have hi := kdR_i h hk
  rcases hc with ⟨rfl, rfl⟩ | ⟨rfl, rfl⟩ | ⟨rfl, rfl⟩ | ⟨rfl, rfl⟩ <;> omega
theorem len_cN : ∀ (N : NL), (∀ q ∈ N, q.1 = 0 ∨ q.1 = 1 ∨ q.1 = 2) → (N.length : Int) = cN 0 N + cN 1 N + cN 2 N := by
  intro N
  induction N with
  | nil => intro _; rfl
  | cons q l ih =>
    intro h
    have h1 := ih (fun x hx => h x (List.mem_cons_of_mem _ hx))
    have h2 := h q List.mem_cons_self
    rw [List.length_cons]
    unfold cN
    (repeat' split) <;> omega
theorem NamM_tell {sF nf ng sr nu ma no : Nat → Int} {mna : Int} {N : NL} {s fr to : Int} (h : NamM sF nf ng sr nu ma no mna N) (hs : s = 0 ∨ s = 1 ∨ s = 2) (hf : ¬ fuN N s = 1) (hw : 0 ≤ fr ∧ fr < to ∧ to ≤ 4096 ∧ to - fr ≤ 12) (hn : fdI (seg (bF sF) fr.toNat (to - fr).toNat) N = -1) :
    NamM sF (uZ nf mna.toNat fr) (uZ ng mna.toNat to) (uZ sr mna.toNat s) (uZ nu mna.toNat (ma s.toNat)) (uZ ma s.toNat (ma s.toNat + 1)) (uZ no (16 * s + ma s.toNat).toNat mna) (mna + 1) (N ++ [(s, seg (bF sF) fr.toNat (to - fr).toNat)]) := by
  obtain ⟨h1, h2, h3, h4, h5, h6⟩ := id h
  have hc := h5
  unfold cnt at hc
  have hnf : ¬ ((s = 0 ∧ 16 ≤ cN 0 N) ∨ (s = 1 ∧ 8 ≤ cN 1 N) ∨ (s = 2 ∧ 16 ≤ cN 2 N)) := fun z => hf (by unfold fuN ful; exact if_pos z)
  have hms : ma s.toNat = cN s N := by
    rcases hs with rfl | rfl | rfl
    · exact h4.1
    · exact h4.2.1
    · exact h4.2.2
  have hms16 : 0 ≤ cN s N ∧ cN s N < 16 := by rcases hs with rfl | rfl | rfl <;> omega
  have hsum : (N.length : Int) = cN 0 N + cN 1 N + cN 2 N := len_cN N (fun q hq => by
    obtain ⟨i, hi, e⟩ := List.getElem_of_mem hq
    have := (h3 i hi).1
    unfold sor at this
    rw [List.getD_eq_getElem?_getD, List.getElem?_eq_getElem hi] at this
    rw [← e]
    exact this)
  have hlen : (N ++ [(s, seg (bF sF) fr.toNat (to - fr).toNat)]).length = N.length + 1 := by rw [List.length_append]; rfl
  have hcs : ∀ x, cN x (N ++ [(s, seg (bF sF) fr.toNat (to - fr).toNat)]) = cN x N + if s = x then 1 else 0 := by
    intro x
    rw [cN_app]
    show _ + ((if s = x then 1 else 0) + 0) = _
    omega
  have hmn : mna.toNat = N.length := by omega
  rw [hms, hmn]
  refine ⟨by rw [hlen]; omega, by rw [hlen]; rcases hs with rfl | rfl | rfl <;> omega, ?_, ?_, ?_, ?_⟩
  · intro i hi
    rw [hlen] at hi
    by_cases hlt : i < N.length
    · obtain ⟨e1, e2, e3⟩ := sor_app (q := (s, seg (bF sF) fr.toNat (to - fr).toNat)) hlt
      have e4 : nub (N ++ [(s, seg (bF sF) fr.toNat (to - fr).toNat)]) i = nub N i := by
        unfold slt at e3
        rw [e1] at e3
        omega
      rw [e1, e2, e4, uZ_n (by omega), uZ_n (by omega), uZ_n (by omega), uZ_n (by omega)]
      obtain ⟨g1, g2, g3, g4, g5, g6, g7, g8, g9⟩ := h3 i hlt
      refine ⟨g1, g2, g3, g4, g5, g6, g7, g8, ?_⟩
      have q1 := cN_lt hlt
      have q2 := cN_nn (sor N i) (N.take i)
      have q3 : nub N i = cN (sor N i) (N.take i) := rfl
      rw [uZ_n]
      · exact g9
      · rcases g1 with z | z | z <;> rcases hs with rfl | rfl | rfl <;> rw [z] at q1 q2 q3 ⊢ <;> omega
    · have hi2 : i = N.length := by omega
      subst hi2
      obtain ⟨e1, e2, e3⟩ := sor_new (N := N) (q := (s, seg (bF sF) fr.toNat (to - fr).toNat))
      have e4 : nub (N ++ [(s, seg (bF sF) fr.toNat (to - fr).toNat)]) N.length = cN s N := by
        unfold slt at e3
        rw [e1] at e3
        have e5 : bas s + nub (N ++ [(s, seg (bF sF) fr.toNat (to - fr).toNat)]) N.length = bas s + cN s N := e3
        omega
      rw [e1, e2, e4, uZ_s, uZ_s, uZ_s, uZ_s, uZ_s]
      exact ⟨hs, by omega, by omega, by omega, by omega, rfl, rfl, rfl, h1⟩
  · rw [hcs 0, hcs 1, hcs 2]
    unfold uZ
    rcases hs with rfl | rfl | rfl <;> simp <;> omega
  · unfold cnt uZ
    rcases hs with rfl | rfl | rfl <;> simp <;> omega
  · intro i j hi hj e
    rw [hlen] at hi hj
    by_cases hli : i < N.length
    · rw [(sor_app hli).2.1] at e
      by_cases hlj : j < N.length
      · rw [(sor_app hlj).2.1] at e
        exact h6 i j hli hlj e
      · rw [show j = N.length by omega, sor_new.2.1] at e
        exact absurd e (fdI_none hn i hli)
    · rw [show i = N.length by omega, sor_new.2.1] at e
      by_cases hlj : j < N.length
      · rw [(sor_app hlj).2.1] at e
        exact absurd e.symm (fdI_none hn j hlj)
      · omega
theorem NamM_ful {sF nf ng sr nu ma no : Nat → Int} {mna : Int} {N : NL} (h : NamM sF nf ng sr nu ma no mna N) (s : Int) : ful ma s = fuN N s := by
  unfold fuN ful
  rw [h.2.2.2.1.1, h.2.2.2.1.2.1, h.2.2.2.1.2.2]
  rfl
section SIM2
variable {R : Int × Int × Cf} {sF : Nat → Int} {n mfa mpl mfr mto mki mwh p : Int} {c : Cf}
theorem Sim_noc (h : Sim R sF n mfa mpl mfr mto mki mwh p c) (hc : ¬ (if mfa = 0 ∧ mki = 2 ∧ mwh = 44 then (1 : Int) else 0) ≠ 0) : (¬ mfa = 0) ∨ (mfa = 0 ∧ ¬ lxK (bF sF) n p = 4) := by
  by_cases h0 : mfa = 0
  · obtain ⟨hp, hfr, hto, hkd, hk1, hR⟩ := Sim_0 h h0
    have hkr := lxK_rg (bF sF) n p
    have hkc := kd_sg (ch := 44) (kd := 4) hkd ⟨hkr.1, hkr.2.1, hk1⟩ (by omega)
    exact Or.inr ⟨h0, fun z => hc (by rw [if_pos ⟨h0, hkc.mpr z⟩]; decide)⟩
  · exact Or.inl h0
theorem Sim_fail (h : Sim R sF n mfa mpl mfr mto mki mwh p c) {N : NL} {a b fa2 pl2 rr v : Int} (hx : ¬ mfa = 0 → fa2 = mfa ∧ pl2 = mpl ∧ rr = 0) (ho : mfa = 0 → (ffl N (lxK (bF sF) n p) (wA (bF sF) n p) a b = 0 → fa2 = 0 ∧ pl2 = mpl ∧ rr = v) ∧ (¬ ffl N (lxK (bF sF) n p) (wA (bF sF) n p) a b = 0 → fa2 = ffl N (lxK (bF sF) n p) (wA (bF sF) n p) a b ∧ pl2 = mfr ∧ rr = 0))
    (hst : mfa = 0 → ¬ ffl N (lxK (bF sF) n p) (wA (bF sF) n p) a b = 0 → (stp c (lxK (bF sF) n p) (wA (bF sF) n p)).1 = ffl N (lxK (bF sF) n p) (wA (bF sF) n p) a b) (hf : ¬ fa2 = 0) (mto2 mki2 mwh2 p2 : Int) (c2 : Cf) : Sim R sF n fa2 pl2 mfr mto2 mki2 mwh2 p2 c2 := by
  by_cases e : mfa = 0
  · have hff : ¬ ffl N (lxK (bF sF) n p) (wA (bF sF) n p) a b = 0 := fun z => hf ((ho e).1 z).1
    have hr := ffl_rg N (lxK (bF sF) n p) (wA (bF sF) n p) a b
    obtain ⟨e1, e2, -⟩ := (ho e).2 hff
    rw [e1, e2]
    exact Sim_tell h e (hst e hff) (by omega) _ _ _ _ _
  · rw [(hx e).1, (hx e).2.1]
    exact Sim_x h e _ _ _ _ _ _
theorem Sim_okf {N : NL} {a b fa2 pl2 rr v : Int} (hx : ¬ mfa = 0 → fa2 = mfa ∧ pl2 = mpl ∧ rr = 0) (ho : mfa = 0 → (ffl N (lxK (bF sF) n p) (wA (bF sF) n p) a b = 0 → fa2 = 0 ∧ pl2 = mpl ∧ rr = v) ∧ (¬ ffl N (lxK (bF sF) n p) (wA (bF sF) n p) a b = 0 → fa2 = ffl N (lxK (bF sF) n p) (wA (bF sF) n p) a b ∧ pl2 = mfr ∧ rr = 0)) (h7 : 0 ≤ mfa ∧ mfa ≤ 7) : 0 ≤ fa2 ∧ fa2 ≤ 7 := by
  have hr := ffl_rg N (lxK (bF sF) n p) (wA (bF sF) n p) a b
  by_cases e : mfa = 0
  · by_cases z : ffl N (lxK (bF sF) n p) (wA (bF sF) n p) a b = 0
    · have := (ho e).1 z; omega
    · have := (ho e).2 z; omega
  · have := hx e; omega
end SIM2
