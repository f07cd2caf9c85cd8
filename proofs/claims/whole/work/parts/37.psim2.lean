theorem sgB {sF : Nat → Int} (hu : u8 sF) {a b m n : Int} (h : 0 ≤ a ∧ 0 ≤ b ∧ 0 ≤ m ∧ 0 ≤ n) : seg (bF sF) a.toNat m.toNat = seg (bF sF) b.toNat n.toNat ↔ (m = n ∧ ∀ j : Nat, (j : Int) < m → sF (a + j).toNat = sF (b + j).toNat) := by
  constructor
  · intro e
    have e1 := congrArg List.length e
    rw [seg_len, seg_len] at e1
    refine ⟨by omega, fun j hj => ?_⟩
    have e2 : (seg (bF sF) a.toNat m.toNat).getD j 0 = (seg (bF sF) b.toNat n.toNat).getD j 0 := by rw [e]
    rw [seg_get _ _ _ _ (by omega), seg_get _ _ _ _ (by omega)] at e2
    rw [show (a + (j : Int)).toNat = a.toNat + j by omega, show (b + (j : Int)).toNat = b.toNat + j by omega]
    exact (bN_inj (hu _) (hu _)).mp e2
  · intro ⟨e1, e2⟩
    rw [e1]
    refine seg_congr _ _ _ (fun j hj => ?_)
    have := e2 j (by omega)
    rw [show (a + (j : Int)).toNat = a.toNat + j by omega, show (b + (j : Int)).toNat = b.toNat + j by omega] at this
    exact congrArg bN this
theorem fdI_done {W : List Int} {N : NL} (hd : ∀ i j, i < N.length → j < N.length → wrd N i = wrd N j → i = j) {f : Int} (h : (f = -1 ∧ ∀ i, i < N.length → ¬ wrd N i = W) ∨ (0 ≤ f ∧ f < N.length ∧ wrd N f.toNat = W)) : f = fdI W N := by
  rcases h with ⟨h1, h2⟩ | ⟨h1, h2, h3⟩
  · by_cases e : fdI W N = -1
    · rw [h1, e]
    · have hr := fdI_rg W N
      exact absurd (fdI_some e) (h2 _ (by omega))
  · rw [fdI_is hd (by omega) h3]
    omega
