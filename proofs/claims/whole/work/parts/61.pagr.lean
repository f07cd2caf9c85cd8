theorem agr_z {a u : Nat → Int} (h : ∀ j, j < 384 → a j = u j) {k : Nat} {v : Int} : ∀ j, j < 384 → uZ a k v j = uZ u k v j := fun j hj => by
  unfold uZ
  split
  · rfl
  · exact h j hj
