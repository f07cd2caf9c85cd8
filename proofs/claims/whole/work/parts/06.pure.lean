/-- a list of numbers written byte by byte behind place 'len' -/
def wr (F : Nat → Int) (len : Int) : List Int → Nat → Int
  | [] => F
  | x :: l => wr (uZ F len.toNat (bN x)) (len + 1) l
theorem wr_app (l l2 : List Int) : ∀ (F : Nat → Int) (len : Int), wr F len (l ++ l2) = wr (wr F len l) (len + l.length) l2 := by
  induction l with
  | nil => intro F len; simp [wr]
  | cons x l ih =>
    intro F len
    show wr (uZ F len.toNat (bN x)) (len + 1) (l ++ l2) = wr (wr (uZ F len.toNat (bN x)) (len + 1) l) (len + ((l.length + 1 : Nat) : Int)) l2
    rw [ih]
    congr 1
    omega
theorem wr_snoc (l : List Int) (x : Int) (F : Nat → Int) (len : Int) : wr F len (l ++ [x]) = uZ (wr F len l) (len + l.length).toNat (bN x) := by
  rw [wr_app]; rfl
theorem wr_rep (F : Nat → Int) (len : Int) {k : Int} (h : 0 ≤ k) (hl : 0 ≤ len) : uZ (wr F len (List.replicate k.toNat 32)) (len + k).toNat (bN 32) = wr F len (List.replicate (k + 1).toNat 32) := by
  have e : (k + 1).toNat = k.toNat + 1 := by omega
  rw [e, List.replicate_succ', wr_snoc, List.length_replicate]
  congr 2
  omega
