/-- a list of numbers written behind place 'p' -/
def wI (F : Nat → Int) (p : Int) : List Int → Nat → Int
  | [] => F
  | x :: l => wI (uZ F p.toNat x) (p + 1) l
theorem wI_app (l l2 : List Int) : ∀ (F : Nat → Int) (p : Int), wI F p (l ++ l2) = wI (wI F p l) (p + l.length) l2 := by
  induction l with
  | nil => intro F p; simp [wI]
  | cons x l ih =>
    intro F p
    show wI (uZ F p.toNat x) (p + 1) (l ++ l2) = wI (wI (uZ F p.toNat x) (p + 1) l) (p + ((l.length + 1 : Nat) : Int)) l2
    rw [ih]
    congr 1
    omega
theorem qg_next {E T : Nat → Int} {q TL : Int} {A B : List Int} (h : wI E q (A ++ B) = T ∧ q + ((A ++ B).length : Int) = TL) : wI (wI E q A) (q + (A.length : Int)) B = T ∧ (q + (A.length : Int)) + (B.length : Int) = TL := by
  refine ⟨by rw [← wI_app]; exact h.1, ?_⟩
  have := h.2
  rw [List.length_append] at this
  omega
theorem qg_fit {E T : Nat → Int} {q TL : Int} {A B : List Int} (h : wI E q (A ++ B) = T ∧ q + ((A ++ B).length : Int) = TL) : q + (A.length : Int) ≤ TL ∧ q ≤ TL := by
  have := h.2
  rw [List.length_append] at this
  omega
theorem qg_fit1 {E T : Nat → Int} {q TL v : Int} {B : List Int} (h : wI E q ([v] ++ B) = T ∧ q + (([v] ++ B).length : Int) = TL) : q + 1 ≤ TL := (qg_fit h).1
theorem qg_fit2 {E T : Nat → Int} {q TL v w : Int} {B : List Int} (h : wI E q ([v, w] ++ B) = T ∧ q + (([v, w] ++ B).length : Int) = TL) : q + 2 ≤ TL := (qg_fit h).1
theorem qg_end {E T : Nat → Int} {q TL : Int} (h : wI E q [] = T ∧ q + (([] : List Int).length : Int) = TL) : E = T ∧ q = TL := ⟨h.1, by have := h.2; simpa using this⟩
theorem qg_all {E T : Nat → Int} {q TL : Int} {A : List Int} (h : wI E q A = T ∧ q + (A.length : Int) = TL) : wI E q (A ++ []) = T ∧ q + ((A ++ []).length : Int) = TL := by rw [List.append_nil]; exact h
