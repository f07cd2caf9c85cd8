/-- a list of numbers written byte by byte behind place 'len' -/
def wr (F : Nat → Int) (len : Int) : List Int → Nat → Int
  | [] => F
  | x :: l => wr (uZ F len.toNat (bN x)) (len + 1) l
theorem wr_app (l l2 : List Int) : ∀ (F : Nat → Int) (len : Int), wr F len (l ++ l2) = wr (wr F len l) (len + l.length) l2 := by
  induction l with
  | nil => intro F len; simp [wr]
  | cons x l ih =>
    intro F len
    show wr (uZ F len.toNat (bN x)) (len + 1) (l ++ l2) = wr (wr (uZ F len.toNat (bN x)) (len + 1) l) (len + ((l.length + 1 : Nat) : Int)) l2
    rw [ih]
    congr 1
    omega
theorem wr_snoc (l : List Int) (x : Int) (F : Nat → Int) (len : Int) : wr F len (l ++ [x]) = uZ (wr F len l) (len + l.length).toNat (bN x) := by
  rw [wr_app]; rfl
theorem wr_rep (F : Nat → Int) (len : Int) {k : Int} (h : 0 ≤ k) (hl : 0 ≤ len) : uZ (wr F len (List.replicate k.toNat 32)) (len + k).toNat (bN 32) = wr F len (List.replicate (k + 1).toNat 32) := by
  have e : (k + 1).toNat = k.toNat + 1 := by omega
  rw [e, List.replicate_succ', wr_snoc, List.length_replicate]
  congr 2
  omega
def byt (F : Nat → Int) : Prop := ∀ j, -128 ≤ F j ∧ F j ≤ 127
theorem uZ_byt {F : Nat → Int} {k : Nat} {v : Int} (h : byt F) (hv : -128 ≤ v ∧ v ≤ 127) : byt (uZ F k v) := fun j => by
  unfold uZ
  split
  · exact hv
  · exact h j
/-- k numbers of a row from place a on -/
def seg (F : Nat → Int) : Nat → Nat → List Int
  | _, 0 => []
  | a, k + 1 => F a :: seg F (a + 1) k
theorem seg_len (F : Nat → Int) : ∀ k a, (seg F a k).length = k := by
  intro k
  induction k with
  | zero => intro a; rfl
  | succ k ih => intro a; show (seg F (a + 1) k).length + 1 = k + 1; rw [ih]
theorem seg_get (F : Nat → Int) : ∀ (k a j : Nat), j < k → (seg F a k).getD j 0 = F (a + j) := by
  intro k
  induction k with
  | zero => intro a j h; omega
  | succ k ih =>
    intro a j h
    cases j with
    | zero => rfl
    | succ j =>
      show (seg F (a + 1) k).getD j 0 = _
      rw [ih (a + 1) j (by omega)]
      congr 1
      omega
theorem seg_congr {F E : Nat → Int} : ∀ (k a b : Nat), (∀ j, j < k → F (a + j) = E (b + j)) → seg F a k = seg E b k := by
  intro k
  induction k with
  | zero => intro a b h; rfl
  | succ k ih =>
    intro a b h
    show F a :: seg F (a + 1) k = E b :: seg E (b + 1) k
    have h0 := h 0 (by omega)
    rw [Nat.add_zero, Nat.add_zero] at h0
    rw [h0, ih (a + 1) (b + 1) (fun j hj => by have := h (j + 1) (by omega); rw [show a + 1 + j = a + (j + 1) by omega, show b + 1 + j = b + (j + 1) by omega]; exact this)]
/-- of which sort a name's slot is -/
def srt (s : Int) : Int := if s < 16 then 0 else if s < 24 then 1 else 2
/-- an event's slot -/
def evs (c e : Int) : Int := if e < c then 16 + e else 24 + e - c
def ful (nt : Nat → Int) (s : Int) : Int := if (s = 0 ∧ 16 ≤ nt 0) ∨ (s = 1 ∧ 8 ≤ nt 1) ∨ (s = 2 ∧ 16 ≤ nt 2) then 1 else 0
def sbl (nt : Nat → Int) (s : Int) : Int := if s = 0 then nt 0 else if s = 1 then 16 + nt 1 else 24 + nt 2
def prf (nt : Nat → Int) (s e : Int) : Int := if 0 ≤ s ∧ s < nt 0 ∧ 0 ≤ e ∧ e < nt 1 + nt 2 then s * 24 + evs (nt 1) e - 16 else -1
/-- the names' counts are within their rooms -/
def cnt (nt : Nat → Int) : Prop := 0 ≤ nt 0 ∧ nt 0 ≤ 16 ∧ 0 ≤ nt 1 ∧ nt 1 ≤ 8 ∧ 0 ≤ nt 2 ∧ nt 2 ≤ 16
theorem evs_rg {nt : Nat → Int} {e : Int} (h : cnt nt) (h0 : 0 ≤ e ∧ e < nt 1 + nt 2) : 16 ≤ evs (nt 1) e ∧ evs (nt 1) e < 40 := by
  unfold cnt at h
  unfold evs
  split <;> omega
theorem prf_in {nt : Nat → Int} {s e : Int} (h0 : 0 ≤ s ∧ s < nt 0 ∧ 0 ≤ e ∧ e < nt 1 + nt 2) : prf nt s e = s * 24 + evs (nt 1) e - 16 := if_pos h0
theorem prf_rg {nt : Nat → Int} {s e : Int} (h : cnt nt) (h0 : 0 ≤ s ∧ s < nt 0 ∧ 0 ≤ e ∧ e < nt 1 + nt 2) : 0 ≤ prf nt s e ∧ prf nt s e < 384 := by
  have h1 := evs_rg h ⟨h0.2.2.1, h0.2.2.2⟩
  rw [prf_in h0]
  unfold cnt at h
  omega
/-- missing pairs of a state from event e on, n events left -/
def msE (nt ug : Nat → Int) (s e : Int) : Nat → List Int
  | 0 => []
  | n + 1 => if ug (prf nt s e).toNat = -1 then (s * 100 + e) :: msE nt ug s (e + 1) n else msE nt ug s (e + 1) n
def msS (nt ug : Nat → Int) (s : Int) : Nat → List Int
  | 0 => []
  | n + 1 => msE nt ug s 0 (nt 1 + nt 2).toNat ++ msS nt ug (s + 1) n
/-- the k-th of a list, or -1 -/
def kth : List Int → Int → Int
  | [], _ => -1
  | x :: l, k => if k = 0 then x else kth l (k - 1)
/-- how many pairs of reached states are missing -/
def msR (nt ug ud : Nat → Int) (s : Int) : Nat → Int
  | 0 => 0
  | n + 1 => (if ud s.toNat = -1 then 0 else ((msE nt ug s 0 (nt 1 + nt 2).toNat).length : Int)) + msR nt ug ud (s + 1) n
