theorem msE_mem (nt ug : Nat → Int) (s : Int) : ∀ (n : Nat) (e x : Int), x ∈ msE nt ug s e n → s * 100 + e ≤ x ∧ x < s * 100 + e + n := by
  intro n
  induction n with
  | zero => intro e x h; cases h
  | succ n ih =>
    intro e x h
    unfold msE at h
    split at h
    · rcases List.mem_cons.mp h with z | z
      · omega
      · have := ih (e + 1) x z; omega
    · have := ih (e + 1) x h; omega
theorem msS_mem {nt ug : Nat → Int} (hc : cnt nt) : ∀ (n : Nat) (s x : Int), x ∈ msS nt ug s n → s * 100 ≤ x ∧ x < (s + n) * 100 := by
  intro n
  induction n with
  | zero => intro s x h; cases h
  | succ n ih =>
    intro s x h
    have hc2 := hc
    unfold cnt at hc2
    rcases List.mem_append.mp h with z | z
    · have := msE_mem nt ug s _ _ x z; omega
    · have := ih (s + 1) x z; omega
theorem kth_mem : ∀ (l : List Int) (k : Int), kth l k = -1 ∨ kth l k ∈ l := by
  intro l
  induction l with
  | nil => intro k; exact Or.inl rfl
  | cons x l ih =>
    intro k
    by_cases h : k = 0
    · rw [kth_hit h]; exact Or.inr List.mem_cons_self
    · rw [kth_miss h]; exact (ih (k - 1)).imp id (fun z => List.mem_cons_of_mem _ z)
theorem kth_rg {nt ug : Nat → Int} (hc : cnt nt) (k : Int) : -2147483648 ≤ kth (msS nt ug 0 (nt 0).toNat) k ∧ kth (msS nt ug 0 (nt 0).toNat) k ≤ 2147483647 := by
  have hc2 := hc
  unfold cnt at hc2
  rcases kth_mem (msS nt ug 0 (nt 0).toNat) k with z | z
  · omega
  · have := msS_mem hc _ _ _ z; omega
