/-- the page of the reference holds a list -/
def pgI (E : Nat → Int) (q : Int) (L : List Int) : Prop := q = (L.length : Int) ∧ ∀ j, j < L.length → E j = L.getD j 0
theorem wI_get (A : List Int) : ∀ (E : Nat → Int) (q : Int), 0 ≤ q → ∀ j : Nat, wI E q A j = if (j : Int) < q then E j else if (j : Int) < q + A.length then A.getD (j - q.toNat) 0 else E j := by
  induction A with
  | nil => intro E q hq j; show E j = _; rw [List.length_nil]; (repeat' split) <;> first | rfl | (exfalso; omega)
  | cons x A ih =>
    intro E q hq j
    show wI (uZ E q.toNat x) (q + 1) A j = _
    rw [ih _ _ (by omega), List.length_cons]
    by_cases h1 : (j : Int) < q
    · rw [if_pos (by omega), if_pos h1, uZ_n (by omega)]
    · rw [if_neg h1]
      by_cases h2 : (j : Int) = q
      · rw [if_pos (by omega), if_pos (by omega), show j = q.toNat by omega, uZ_s, Nat.sub_self]
        rfl
      · rw [if_neg (by omega)]
        by_cases h3 : (j : Int) < q + 1 + A.length
        · rw [if_pos h3, if_pos (by omega), show j - q.toNat = (j - (q + 1).toNat) + 1 by omega]
          rfl
        · rw [if_neg h3, if_neg (by omega), uZ_n (by omega)]
theorem pgI_0 (E : Nat → Int) : pgI E 0 [] := ⟨rfl, fun j h => absurd h (Nat.not_lt_zero _)⟩
theorem pgI_wI {E : Nat → Int} {q : Int} {L : List Int} (h : pgI E q L) (A : List Int) : pgI (wI E q A) (q + (A.length : Int)) (L ++ A) := by
  obtain ⟨h1, h2⟩ := h
  refine ⟨by rw [List.length_append]; omega, fun j hj => ?_⟩
  rw [List.length_append] at hj
  rw [wI_get A E q (by omega) j]
  by_cases h4 : j < L.length
  · rw [if_pos (by omega), h2 j h4, List.getD_eq_getElem?_getD, List.getD_eq_getElem?_getD, List.getElem?_append_left h4]
  · rw [if_neg (by omega), if_pos (by omega), show j - q.toNat = j - L.length by omega, List.getD_eq_getElem?_getD, List.getD_eq_getElem?_getD, List.getElem?_append_right (by omega)]
theorem pgI_drop {E : Nat → Int} {q : Int} {L : List Int} (h : pgI E q L) : pgI E (drB E q.toNat : Int) (strp L) := by
  obtain ⟨h1, h2⟩ := h
  have e1 : drB E q.toNat = drB (fun j => L.getD j 0) L.length := by rw [show q.toNat = L.length by omega]; exact drB_congr _ h2
  have e2 := drB_le (fun j => L.getD j 0) L.length
  unfold strp
  refine ⟨by rw [e1, List.length_take]; omega, fun j hj => ?_⟩
  rw [List.length_take] at hj
  rw [h2 j (by omega), List.getD_eq_getElem?_getD, List.getD_eq_getElem?_getD, List.getElem?_take_of_lt (by omega)]
/-- what lies before a line ends with a line's end -/
def e10 (L : List Int) : Prop := L = [] ∨ ∃ M, L = M ++ [10]
theorem e10_no {E : Nat → Int} {q : Int} {L : List Int} (h : pgI E q L) (he : e10 L) (A : List Int) : q = 0 ∨ ¬ wI E q A (q - 1).toNat = 32 := by
  rcases he with rfl | ⟨M, rfl⟩
  · exact Or.inl h.1
  · refine Or.inr ?_
    have h1 := h.1
    rw [List.length_append] at h1
    have e : (q - 1).toNat = M.length := by simp at h1; omega
    rw [wI_get A E q (by omega), if_pos (by simp at h1; omega), h.2 (q - 1).toNat (by rw [List.length_append, e]; simp), e, List.getD_eq_getElem?_getD, List.getElem?_append_right (Nat.le_refl _), Nat.sub_self]
    decide
section DX
variable (nm : Int → List Int) (nn nt ug : Nat → Int)
def hdX (s : Int) : List Int := if s < 0 then bl (fwd nn nt) else dnL nm nn s (fwd nn nt)
def clX (s e : Int) : List Int := [32] ++ (if s < 0 then dnL nm nn (evs (nt 1) e) (wdE nn nt ug e) else dgL nm nn (ug (prf nt s e).toNat) (wdE nn nt ug e))
def cX (s : Int) (n : Nat) (e : Int) : List Int := if s < 0 then hdL nm nn nt ug n e else stL nm nn nt ug s n e
def lnX (s : Int) : List Int := if s < 0 then lnH nm nn nt ug else lnS nm nn nt ug s
def dwX : Nat → Int → List Int → List Int
  | 0, _, L => L
  | n + 1, s, L => dwX n (s + 1) (strp (L ++ lnX nm nn nt ug s) ++ [10])
theorem lnX_e (s : Int) : lnX nm nn nt ug s = hdX nm nn nt s ++ cX nm nn nt ug s (nt 1 + nt 2).toNat 0 := by
  unfold lnX hdX cX lnH lnS
  by_cases h : s < 0
  · rw [if_pos h, if_pos h, if_pos h]
  · rw [if_neg h, if_neg h, if_neg h]
theorem cX_step (s : Int) {e n : Int} (h : e < n) : cX nm nn nt ug s (n - e).toNat e = clX nm nn nt ug s e ++ cX nm nn nt ug s (n - (e + 1)).toNat (e + 1) := by
  unfold cX clX
  by_cases c : s < 0
  · rw [if_pos c, if_pos c, if_pos c, hdL_step nm nn nt ug h, List.append_assoc]
  · rw [if_neg c, if_neg c, if_neg c, stL_step nm nn nt ug s h, List.append_assoc]
theorem cX_0 (s e : Int) : cX nm nn nt ug s 0 e = [] := by unfold cX; split <;> rfl
theorem dwX_F : ∀ (n : Nat) (s : Int) (L : List Int), 0 ≤ s → dwX nm nn nt ug n s L = dwF nm nn nt ug n s L := by
  intro n
  induction n with
  | zero => intro s L _; rfl
  | succ n ih =>
    intro s L h
    have e : lnX nm nn nt ug s = lnS nm nn nt ug s := if_neg (by omega)
    show dwX nm nn nt ug n (s + 1) (strp (L ++ lnX nm nn nt ug s) ++ [10]) = dwF nm nn nt ug n (s + 1) (strp (L ++ lnS nm nn nt ug s) ++ [10])
    rw [e, ih _ _ (by omega)]
theorem daX (h : 0 ≤ nt 0) : daL nm nn nt ug = dwX nm nn nt ug (nt 0 - (-1)).toNat (-1) [] := by
  rw [show (nt 0 - (-1)).toNat = (nt 0).toNat + 1 by omega]
  show dwF nm nn nt ug (nt 0).toNat 0 (strp ([] ++ lnH nm nn nt ug) ++ [10]) = dwX nm nn nt ug (nt 0).toNat (-1 + 1) (strp ([] ++ lnX nm nn nt ug (-1)) ++ [10])
  have e : lnX nm nn nt ug (-1) = lnH nm nn nt ug := if_pos (by omega)
  rw [e, show (-1 : Int) + 1 = 0 by omega, dwX_F _ _ _ _ _ _ _ (by omega)]
theorem dwX_step {s n : Int} (L : List Int) (h : s < n) : dwX nm nn nt ug (n - s).toNat s L = dwX nm nn nt ug (n - (s + 1)).toNat (s + 1) (strp (L ++ lnX nm nn nt ug s) ++ [10]) := by
  rw [show (n - s).toNat = (n - (s + 1)).toNat + 1 by omega]
  rfl
end DX
theorem strp_len (L : List Int) : (strp L).length ≤ L.length := by unfold strp; rw [List.length_take]; omega
theorem drB_z (F : Nat → Int) {n : Nat} (h : n = 0 ∨ ¬ F (n - 1) = 32) : drB F n = n := by
  cases n with
  | zero => rfl
  | succ n => rw [drB_s, if_neg (by rcases h with z | z; omega; exact z)]
/-- nn has the names' lengths -/
def nnO (nm : Int → List Int) (nn : Nat → Int) : Prop := ∀ j : Nat, nn j = ((nm j).length : Int)
theorem nnO_z {nm : Int → List Int} {nn : Nat → Int} (h : nnO nm nn) {s : Int} (hs : 0 ≤ s) : nn s.toNat = ((nm s).length : Int) := by
  rw [h, show ((s.toNat : Nat) : Int) = s by omega]
theorem NmM_st {sF nf ng no ma : Nat → Int} {nm : Int → List Int} (h : NmM sF nf ng no ma nm) {s : Int} (hs : 0 ≤ s ∧ s < ma 0) : 1 ≤ (nm s).length ∧ (nm s).length ≤ 12 := by
  have e := maZ_e ma
  have b := bas_e
  exact (NmM_len h (s := 0) (n := s) (sl := s) (Or.inl rfl) (by omega) (by omega)).2
theorem NmM_ev {sF nf ng no ma : Nat → Int} {nm : Int → List Int} (h : NmM sF nf ng no ma nm) {e : Int} (he : 0 ≤ e ∧ e < ma 1 + ma 2) : 1 ≤ (nm (evs (ma 1) e)).length ∧ (nm (evs (ma 1) e)).length ≤ 12 := by
  have z := maZ_e ma
  have b := bas_e
  by_cases c : e < ma 1
  · exact (NmM_len h (s := 1) (n := e) (sl := evs (ma 1) e) (by omega) (by omega) (by unfold evs; rw [if_pos c]; omega)).2
  · exact (NmM_len h (s := 2) (n := e - ma 1) (sl := evs (ma 1) e) (by omega) (by omega) (by unfold evs; rw [if_neg c]; omega)).2
theorem wI_by {E : Nat → Int} {q : Int} {A : List Int} (hA : byL A) (hq : 0 ≤ q) (j : Nat) (h1 : q ≤ (j : Int)) (h2 : (j : Int) < q + (A.length : Int)) : -128 ≤ wI E q A j ∧ wI E q A j ≤ 127 := by
  rw [wI_get A E q hq, if_neg (by omega), if_pos h2, List.getD_eq_getElem?_getD, List.getElem?_eq_getElem (show j - q.toNat < A.length by omega)]
  exact hA _ (List.getElem_mem _)
