theorem pg_next {E T : Nat → Int} {q TL : Int} {A B : List Int} (h : wr E q (A ++ B) = T ∧ q + ((A ++ B).length : Int) = TL) : wr (wr E q A) (q + (A.length : Int)) B = T ∧ (q + (A.length : Int)) + (B.length : Int) = TL := by
  refine ⟨by rw [← wr_app]; exact h.1, ?_⟩
  have := h.2
  rw [List.length_append] at this
  omega
theorem pg_fit {E T : Nat → Int} {q TL : Int} {A B : List Int} (h : wr E q (A ++ B) = T ∧ q + ((A ++ B).length : Int) = TL) : q + (A.length : Int) ≤ TL ∧ q ≤ TL := by
  have := h.2
  rw [List.length_append] at this
  omega
theorem pg_end {E T : Nat → Int} {q TL : Int} (h : wr E q [] = T ∧ q + (([] : List Int).length : Int) = TL) : E = T ∧ q = TL := ⟨h.1, by have := h.2; simpa using this⟩
theorem pg_all {E T : Nat → Int} {q TL : Int} {A : List Int} (h : wr E q A = T ∧ q + (A.length : Int) = TL) : wr E q (A ++ []) = T ∧ q + ((A ++ []).length : Int) = TL := by rw [List.append_nil]; exact h
theorem pg_fit1 {E T : Nat → Int} {q TL v : Int} {B : List Int} (h : wr E q ([v] ++ B) = T ∧ q + (([v] ++ B).length : Int) = TL) : q + 1 ≤ TL := (pg_fit h).1
theorem pg_fit2 {E T : Nat → Int} {q TL v w : Int} {B : List Int} (h : wr E q ([v, w] ++ B) = T ∧ q + (([v, w] ++ B).length : Int) = TL) : q + 2 ≤ TL := (pg_fit h).1
