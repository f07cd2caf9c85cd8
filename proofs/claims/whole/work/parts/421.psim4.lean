theorem kd_act {k ki wh : Int} (h : kdR k ki wh) (hk : 0 ≤ k ∧ k ≤ 15 ∧ ¬ k = 1) : (k = 13 ∧ ki = 3 ∧ wh = 6) ∨ (k = 14 ∧ ki = 3 ∧ wh = 7) ∨ (k = 15 ∧ ki = 3 ∧ wh = 8) ∨ ((¬ k = 13 ∧ ¬ k = 14 ∧ ¬ k = 15) ∧ ¬ (ki = 3 ∧ wh = 6) ∧ ¬ (ki = 3 ∧ wh = 7) ∧ ¬ (ki = 3 ∧ wh = 8)) := by
  have hi := kdR_i h hk
  by_cases h1 : k = 13
  · exact Or.inl ⟨h1, by omega, by omega⟩
  · by_cases h2 : k = 14
    · exact Or.inr (Or.inl ⟨h2, by omega, by omega⟩)
    · by_cases h3 : k = 15
      · exact Or.inr (Or.inr (Or.inl ⟨h3, by omega, by omega⟩))
      · exact Or.inr (Or.inr (Or.inr ⟨⟨h1, h2, h3⟩, by omega, by omega, by omega⟩))
theorem agr_u {a u : Nat → Int} (h : ∀ j : Nat, j < 1536 → a j = u j) {x y v w : Int} (hx : x = y) (hv : v = w) : ∀ j : Nat, j < 1536 → uZ a x.toNat v j = uZ u y.toNat w j := by
  intro j hj
  subst hx; subst hv
  unfold uZ
  split
  · rfl
  · exact h j hj
