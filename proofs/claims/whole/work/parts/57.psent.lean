/-- some rule of state s before event e, or of event e before place i, sends k -/
def sndP (ma le ac : Nat → Int) (s k e i : Int) : Prop := ∃ e' i' : Int, 0 ≤ e' ∧ 0 ≤ i' ∧ i' < 4 ∧ (e' < e ∨ (e' = e ∧ i' < i)) ∧ 0 ≤ le (prf ma s e').toNat ∧ ac (4 * prf ma s e' + i').toNat = k
theorem sndP_0 (ma le ac : Nat → Int) (s k : Int) : ¬ sndP ma le ac s k 0 0 := fun ⟨e', i', h1, h2, h3, h4, _⟩ => by omega
theorem sndP_i {ma le ac : Nat → Int} {s k e i : Int} (he : 0 ≤ e) (hi : 0 ≤ i ∧ i < 4) : sndP ma le ac s k e (i + 1) ↔ sndP ma le ac s k e i ∨ (0 ≤ le (prf ma s e).toNat ∧ ac (4 * prf ma s e + i).toNat = k) := by
  constructor
  · intro ⟨e', i', h1, h2, h3, h4, h5, h6⟩
    by_cases c : e' = e ∧ i' = i
    · rw [c.1, c.2] at h6
      rw [c.1] at h5
      exact Or.inr ⟨h5, h6⟩
    · exact Or.inl ⟨e', i', h1, h2, h3, by omega, h5, h6⟩
  · intro h
    rcases h with ⟨e', i', h1, h2, h3, h4, h5, h6⟩ | ⟨h5, h6⟩
    · exact ⟨e', i', h1, h2, h3, by omega, h5, h6⟩
    · exact ⟨e, i, he, hi.1, hi.2, by omega, h5, h6⟩
theorem sndP_e {ma le ac : Nat → Int} {s k e i : Int} (hi : 4 ≤ i) : sndP ma le ac s k e i ↔ sndP ma le ac s k (e + 1) 0 := by
  constructor
  · intro ⟨e', i', h1, h2, h3, h4, h5, h6⟩; exact ⟨e', i', h1, h2, h3, by omega, h5, h6⟩
  · intro ⟨e', i', h1, h2, h3, h4, h5, h6⟩; exact ⟨e', i', h1, h2, h3, by omega, h5, h6⟩
def sndM (ma le ac : Nat → Int) (s k : Int) : Prop := sndP ma le ac s k (ma 1 + ma 2) 0
/-- a flag that tells whether P -/
def flg (f : Int) (P : Prop) : Prop := (f = 1 ∧ P) ∨ (f = 0 ∧ ¬ P)
theorem flg_rg {f : Int} {P : Prop} (h : flg f P) : f = 0 ∨ f = 1 := h.elim (fun z => Or.inr z.1) (fun z => Or.inl z.1)
theorem flg_n {f : Int} {P : Prop} (h : flg f P) : (¬ f = 0 → P) ∧ (f = 0 → ¬ P) := h.elim (fun z => ⟨fun _ => z.2, fun y => by omega⟩) (fun z => ⟨fun y => absurd z.1 y, fun _ => z.2⟩)
theorem flg_iff {f : Int} {P Q : Prop} (h : flg f P) (hq : P ↔ Q) : flg f Q := h.elim (fun z => Or.inl ⟨z.1, hq.mp z.2⟩) (fun z => Or.inr ⟨z.1, fun y => z.2 (hq.mpr y)⟩)
/-- some reached state below x sends k -/
def snX (ma le ac di : Nat → Int) (k x : Int) : Prop := ∃ s : Int, 0 ≤ s ∧ s < x ∧ 0 ≤ di s.toNat ∧ sndM ma le ac s k
def awX (le di : Nat → Int) (k x : Int) : Prop := ∃ s : Int, 0 ≤ s ∧ s < x ∧ 0 ≤ di s.toNat ∧ 0 ≤ le (24 * s + 8 + k).toNat
theorem snX_0 (ma le ac di : Nat → Int) (k : Int) : ¬ snX ma le ac di k 0 := fun ⟨s, h1, h2, _⟩ => by omega
theorem awX_0 (le di : Nat → Int) (k : Int) : ¬ awX le di k 0 := fun ⟨s, h1, h2, _⟩ => by omega
theorem snX_s {ma le ac di : Nat → Int} {k x : Int} (h : 0 ≤ x) : snX ma le ac di k (x + 1) ↔ snX ma le ac di k x ∨ (0 ≤ di x.toNat ∧ sndM ma le ac x k) := by
  constructor
  · intro ⟨s, h1, h2, h3, h4⟩
    by_cases c : s = x
    · rw [c] at h3 h4; exact Or.inr ⟨h3, h4⟩
    · exact Or.inl ⟨s, h1, by omega, h3, h4⟩
  · intro z
    rcases z with ⟨s, h1, h2, h3, h4⟩ | ⟨h3, h4⟩
    · exact ⟨s, h1, by omega, h3, h4⟩
    · exact ⟨x, h, by omega, h3, h4⟩
theorem awX_s {le di : Nat → Int} {k x : Int} (h : 0 ≤ x) : awX le di k (x + 1) ↔ awX le di k x ∨ (0 ≤ di x.toNat ∧ 0 ≤ le (24 * x + 8 + k).toNat) := by
  constructor
  · intro ⟨s, h1, h2, h3, h4⟩
    by_cases c : s = x
    · rw [c] at h3 h4; exact Or.inr ⟨h3, h4⟩
    · exact Or.inl ⟨s, h1, by omega, h3, h4⟩
  · intro z
    rcases z with ⟨s, h1, h2, h3, h4⟩ | ⟨h3, h4⟩
    · exact ⟨s, h1, by omega, h3, h4⟩
    · exact ⟨x, h, by omega, h3, h4⟩
theorem kth_neg : ∀ (l : List Int) (k : Int), k < 0 → kth l k = -1 := by
  intro l
  induction l with
  | nil => intro k _; rfl
  | cons x l ih => intro k h; rw [kth_miss (by omega)]; exact ih _ (by omega)
theorem flgT {P : Prop} (h : P) : flg 1 P := Or.inl ⟨rfl, h⟩
theorem flgF {P : Prop} (h : ¬ P) : flg 0 P := Or.inr ⟨rfl, h⟩
