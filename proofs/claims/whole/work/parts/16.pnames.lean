/-! names told, as a list of (sort, letters) in the order of telling -/
abbrev NL : Type := List (Int × List Int)
def bas (s : Int) : Int := if s = 0 then 0 else if s = 1 then 16 else 24
def cN (s : Int) : NL → Int
  | [] => 0
  | q :: l => (if q.1 = s then 1 else 0) + cN s l
def fdI (w : List Int) : NL → Int
  | [] => -1
  | q :: l => if q.2 = w then 0 else if fdI w l = -1 then -1 else fdI w l + 1
def sor (N : NL) (i : Nat) : Int := (N.getD i (0, [])).1
def wrd (N : NL) (i : Nat) : List Int := (N.getD i (0, [])).2
def nub (N : NL) (i : Nat) : Int := cN (sor N i) (N.take i)
def slt (N : NL) (i : Nat) : Int := bas (sor N i) + nub N i
theorem cN_app (s : Int) (a b : NL) : cN s (a ++ b) = cN s a + cN s b := by
  induction a with
  | nil => simp [cN]
  | cons q l ih => simp only [List.cons_append, cN, ih]; omega
theorem cN_nn (s : Int) (a : NL) : 0 ≤ cN s a := by
  induction a with
  | nil => exact Int.le_refl _
  | cons q l ih => unfold cN; split <;> omega
theorem cN_lt {N : NL} {i : Nat} (h : i < N.length) : cN (sor N i) (N.take i) < cN (sor N i) N := by
  have e : N.take i ++ (N[i] :: N.drop (i + 1)) = N := by rw [← List.drop_eq_getElem_cons h, List.take_append_drop]
  have hs : N[i].1 = sor N i := by unfold sor; rw [List.getD_eq_getElem?_getD, List.getElem?_eq_getElem h]; rfl
  generalize sor N i = s at hs ⊢
  have h1 := cN_app s (N.take i) (N[i] :: N.drop (i + 1))
  rw [e] at h1
  have h2 : cN s (N[i] :: N.drop (i + 1)) = (if N[i].1 = s then 1 else 0) + cN s (N.drop (i + 1)) := rfl
  rw [if_pos hs] at h2
  have := cN_nn s (N.drop (i + 1))
  omega
theorem fdI_rg (w : List Int) : ∀ (N : NL), -1 ≤ fdI w N ∧ fdI w N < N.length := by
  intro N
  induction N with
  | nil => exact ⟨Int.le_refl _, by simp [fdI]⟩
  | cons q l ih =>
    unfold fdI
    rw [List.length_cons]
    (repeat' split) <;> omega
theorem fdI_none {w : List Int} : ∀ {N : NL}, fdI w N = -1 → ∀ i, i < N.length → wrd N i ≠ w := by
  intro N
  induction N with
  | nil => intro _ i hi; exact absurd hi (Nat.not_lt_zero _)
  | cons q l ih =>
    intro h i hi
    unfold fdI at h
    split at h
    · omega
    · rename_i hq
      split at h
      · rename_i h2
        cases i with
        | zero => exact hq
        | succ i => exact ih h2 i (by simpa using hi)
      · have := fdI_rg w l
        omega
theorem fdI_some {w : List Int} : ∀ {N : NL}, ¬ fdI w N = -1 → wrd N (fdI w N).toNat = w := by
  intro N
  induction N with
  | nil => intro h; exact absurd rfl h
  | cons q l ih =>
    intro h
    have hr := fdI_rg w l
    unfold fdI at h ⊢
    split
    · rename_i hq; exact hq
    · rename_i hq
      rw [if_neg hq] at h
      split
      · rename_i h2; rw [if_pos h2] at h; exact absurd rfl h
      · rename_i h2
        rw [show (fdI w l + 1).toNat = (fdI w l).toNat + 1 by omega]
        exact ih h2
theorem fdI_is {w : List Int} {N : NL} (hd : ∀ i j, i < N.length → j < N.length → wrd N i = wrd N j → i = j) {i : Nat} (hi : i < N.length) (h : wrd N i = w) : fdI w N = i := by
  have hr := fdI_rg w N
  by_cases h1 : fdI w N = -1
  · exact absurd h (fdI_none h1 i hi)
  · have h2 := fdI_some h1
    have := hd i (fdI w N).toNat hi (by omega) (by rw [h, h2])
    omega
/-- the class's rows hold the names of N -/
def NamR (nl nn nt : Nat → Int) (N : NL) : Prop :=
  (∀ i, i < N.length → (sor N i = 0 ∨ sor N i = 1 ∨ sor N i = 2) ∧ nn (slt N i).toNat = (wrd N i).length ∧ 1 ≤ (wrd N i).length ∧ (wrd N i).length ≤ 12 ∧ seg nl (slt N i * 12).toNat (wrd N i).length = wrd N i) ∧
  (nt 0 = cN 0 N ∧ nt 1 = cN 1 N ∧ nt 2 = cN 2 N) ∧ cnt nt ∧
  (∀ s : Int, 0 ≤ s → s < 40 → ¬ nn s.toNat = 0 → ∃ i, i < N.length ∧ slt N i = s) ∧
  (∀ i j, i < N.length → j < N.length → wrd N i = wrd N j → i = j)
theorem NamR_slt {nl nn nt : Nat → Int} {N : NL} (h : NamR nl nn nt N) {i : Nat} (hi : i < N.length) : bas (sor N i) ≤ slt N i ∧ slt N i < bas (sor N i) + cN (sor N i) N ∧ 0 ≤ slt N i ∧ slt N i < 40 ∧ srt (slt N i) = sor N i := by
  have h1 := cN_lt hi
  have h2 := cN_nn (sor N i) (N.take i)
  obtain ⟨hs, -⟩ := h.1 i hi
  have h3 := h.2.1
  have h4 := h.2.2.1
  unfold cnt at h4
  unfold slt nub
  rcases hs with e | e | e <;> rw [e] at h1 h2 ⊢ <;> unfold bas srt <;> refine ⟨by simp; omega, by simp; omega, by simp; omega, by simp; omega, ?_⟩
  · rw [if_pos (by simp; omega)]
  · rw [if_neg (by simp; omega), if_pos (by simp; omega)]
  · rw [if_neg (by simp; omega), if_neg (by simp; omega)]
theorem NamR_isN {nl nn nt tF : Nat → Int} {N : NL} {ls la : Int} (h : NamR nl nn nt N) (hl : 0 ≤ ls ∧ ls < la) {i : Nat} (hi : i < N.length) : isN nl nn tF ls la (slt N i) ↔ wrd N i = seg tF ls.toNat (la - ls).toNat := by
  obtain ⟨hs, hn, h1, h12, hw⟩ := h.1 i hi
  have hr := NamR_slt h hi
  unfold isN
  rw [hn]
  constructor
  · intro ⟨e, q⟩
    rw [← hw]
    rw [show (la - ls).toNat = (wrd N i).length by omega]
    refine seg_congr _ _ _ (fun j hj => ?_)
    have := q j (by omega)
    rw [show (slt N i * 12).toNat + j = (slt N i * 12 + j).toNat by omega, show ls.toNat + j = (ls + j).toNat by omega]
    exact this
  · intro e
    have e1 : (wrd N i).length = (la - ls).toNat := by rw [e, seg_len]
    refine ⟨by omega, fun j hj => ?_⟩
    have e2 := congrArg (fun l => l.getD j 0) (hw.trans e)
    replace e2 : (seg nl (slt N i * 12).toNat (wrd N i).length).getD j 0 = (seg tF ls.toNat (la - ls).toNat).getD j 0 := e2
    rw [seg_get _ _ _ _ (by omega), seg_get _ _ _ _ (by omega)] at e2
    rw [show (slt N i * 12 + j).toNat = (slt N i * 12).toNat + j by omega, show (ls + (j : Int)).toNat = ls.toNat + j by omega]
    exact e2
/-- what the search by slots finds -/
theorem NamR_find {nl nn nt tF : Nat → Int} {N : NL} {ls la rr : Int} (h : NamR nl nn nt N) (hl : 0 ≤ ls ∧ ls < la)
    (he : (0 ≤ rr ∧ rr < 40 ∧ isN nl nn tF ls la rr ∧ ∀ s, 0 ≤ s → s < rr → ¬ isN nl nn tF ls la s) ∨ (rr = -1 ∧ ∀ s, 0 ≤ s → s < 40 → ¬ isN nl nn tF ls la s)) :
    rr = if fdI (seg tF ls.toNat (la - ls).toNat) N = -1 then -1 else slt N (fdI (seg tF ls.toNat (la - ls).toNat) N).toNat := by
  have hr := fdI_rg (seg tF ls.toNat (la - ls).toNat) N
  rcases he with ⟨h0, h1, h2, -⟩ | ⟨h0, h1⟩
  · have hz : ¬ nn rr.toNat = 0 := by rw [h2.1]; omega
    obtain ⟨i, hi, e⟩ := h.2.2.2.1 rr h0 h1 hz
    rw [← e] at h2
    have hw := (NamR_isN h hl hi).mp h2
    have hf := fdI_is h.2.2.2.2 hi hw
    rw [if_neg (by omega), hf, ← e]
    rfl
  · split
    · exact h0
    · rename_i hn
      have hi : (fdI (seg tF ls.toNat (la - ls).toNat) N).toNat < N.length := by omega
      have hs := NamR_slt h hi
      exact absurd ((NamR_isN h hl hi).mpr (fdI_some hn)) (h1 _ hs.2.2.1 hs.2.2.2.1)
theorem sor_app {N : NL} {q : Int × List Int} {i : Nat} (h : i < N.length) : sor (N ++ [q]) i = sor N i ∧ wrd (N ++ [q]) i = wrd N i ∧ slt (N ++ [q]) i = slt N i := by
  have e : (N ++ [q]).getD i (0, []) = N.getD i (0, []) := by rw [List.getD_eq_getElem?_getD, List.getD_eq_getElem?_getD, List.getElem?_append_left h]
  have e1 : sor (N ++ [q]) i = sor N i := by unfold sor; rw [e]
  refine ⟨e1, by unfold wrd; rw [e], ?_⟩
  unfold slt nub
  rw [e1, List.take_append_of_le_length (by omega)]
theorem sor_new {N : NL} {q : Int × List Int} : sor (N ++ [q]) N.length = q.1 ∧ wrd (N ++ [q]) N.length = q.2 ∧ slt (N ++ [q]) N.length = bas q.1 + cN q.1 N := by
  have e : (N ++ [q]).getD N.length (0, []) = q := by rw [List.getD_eq_getElem?_getD, List.getElem?_append_right (Nat.le_refl _), Nat.sub_self]; rfl
  have e1 : sor (N ++ [q]) N.length = q.1 := by unfold sor; rw [e]
  refine ⟨e1, by unfold wrd; rw [e], ?_⟩
  unfold slt nub
  rw [e1, List.take_append_of_le_length (Nat.le_refl _), List.take_length]
/-- a name is told -/
theorem NamR_tell {nl nn nt nl2 : Nat → Int} {N : NL} {so : Int} {w : List Int} (h : NamR nl nn nt N) (hs : so = 0 ∨ so = 1 ∨ so = 2) (hf : ful nt so = 0) (hw : 1 ≤ w.length ∧ w.length ≤ 12) (hn : fdI w N = -1)
    (ha : seg nl2 (sbl nt so * 12).toNat w.length = w) (hb : ∀ j : Nat, ((j : Int) < sbl nt so * 12 ∨ sbl nt so * 12 + 12 ≤ j) → nl2 j = nl j) :
    NamR nl2 (uZ nn (sbl nt so).toNat w.length) (uZ nt so.toNat (nt so.toNat + 1)) (N ++ [(so, w)]) := by
  obtain ⟨h1, h2, h3, h4, h5⟩ := id h
  have hc := h3
  unfold cnt at hc
  have hnf : ¬ ((so = 0 ∧ 16 ≤ nt 0) ∨ (so = 1 ∧ 8 ≤ nt 1) ∨ (so = 2 ∧ 16 ≤ nt 2)) := fun z => by
    unfold ful at hf
    rw [if_pos z] at hf
    exact absurd hf (by decide)
  have hsb : sbl nt so = bas so + cN so N ∧ 0 ≤ sbl nt so ∧ sbl nt so < 40 := by
    unfold sbl bas
    rcases hs with rfl | rfl | rfl <;> simp <;> omega
  have hne : ∀ i, i < N.length → slt N i ≠ sbl nt so := by
    intro i hi e
    have q := NamR_slt h hi
    have hsi := (h1 i hi).1
    have hbs : (bas 0 = 0 ∧ bas 1 = 16 ∧ bas 2 = 24) := by decide
    rcases hsi with z | z | z <;> rcases hs with rfl | rfl | rfl <;> rw [z] at q <;> omega
  have hcs : ∀ s, cN s (N ++ [(so, w)]) = cN s N + if so = s then 1 else 0 := by
    intro s
    rw [cN_app]
    show _ + ((if so = s then 1 else 0) + 0) = _
    omega
  have hlen : (N ++ [(so, w)]).length = N.length + 1 := by rw [List.length_append]; rfl
  refine ⟨?_, ?_, ?_, ?_, ?_⟩
  · intro i hi
    rw [hlen] at hi
    by_cases hlt : i < N.length
    · obtain ⟨e1, e2, e3⟩ := sor_app (q := (so, w)) hlt
      rw [e1, e2, e3]
      obtain ⟨g1, g2, g3, g4, g5⟩ := h1 i hlt
      have q := NamR_slt h hlt
      have hn2 := hne i hlt
      refine ⟨g1, by rw [uZ_n (by omega)]; exact g2, g3, g4, ?_⟩
      rw [← g5, seg_len]
      exact seg_congr _ _ _ (fun j hj => hb _ (by omega))
    · have hi2 : i = N.length := by omega
      subst hi2
      obtain ⟨e1, e2, e3⟩ := sor_new (N := N) (q := (so, w))
      rw [e1, e2, e3, ← hsb.1]
      exact ⟨hs, uZ_s, hw.1, hw.2, ha⟩
  · rw [hcs 0, hcs 1, hcs 2]
    unfold uZ
    rcases hs with rfl | rfl | rfl <;> simp <;> omega
  · unfold cnt uZ
    rcases hs with rfl | rfl | rfl <;> simp <;> omega
  · intro s h0 h40 hz
    rw [hlen]
    by_cases e : s = sbl nt so
    · exact ⟨N.length, by omega, by rw [sor_new.2.2, e, hsb.1]⟩
    · rw [uZ_n (by omega)] at hz
      obtain ⟨i, hi, g⟩ := h4 s h0 h40 hz
      exact ⟨i, by omega, by rw [(sor_app hi).2.2]; exact g⟩
  · intro i j hi hj e
    rw [hlen] at hi hj
    by_cases hli : i < N.length
    · rw [(sor_app hli).2.1] at e
      by_cases hlj : j < N.length
      · rw [(sor_app hlj).2.1] at e
        exact h5 i j hli hlj e
      · rw [show j = N.length by omega, sor_new.2.1] at e
        exact absurd e (fdI_none hn i hli)
    · rw [show i = N.length by omega, sor_new.2.1] at e
      by_cases hlj : j < N.length
      · rw [(sor_app hlj).2.1] at e
        exact absurd e.symm (fdI_none hn j hlj)
      · omega
/-- no names -/
theorem NamR_0 {nl nn nt : Nat → Int} (hn : ∀ j, j < 40 → nn j = 0) (ht : ∀ j, j < 3 → nt j = 0) : NamR nl nn nt [] := by
  refine ⟨fun i hi => absurd hi (Nat.not_lt_zero _), ⟨ht 0 (by omega), ht 1 (by omega), ht 2 (by omega)⟩, ?_, fun s h0 h1 hz => absurd (hn s.toNat (by omega)) hz, fun i j hi => absurd hi (Nat.not_lt_zero _)⟩
  unfold cnt
  rw [ht 0 (by omega), ht 1 (by omega), ht 2 (by omega)]
  omega
