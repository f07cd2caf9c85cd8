/-- what a table of distances must be: 'T s i' is where state s goes by i, for 0 ≤ i < v -/
def DS (T : Int → Int → Int) (m v f : Int) (di : Nat → Int) : Prop :=
  di f.toNat = 0 ∧ (∀ t : Nat, t < 16 → di t = 0 → (t : Int) = f) ∧ (∀ t : Nat, t < 16 → -1 ≤ di t ∧ di t ≤ 15 ∧ (0 ≤ di t → (t : Int) < m)) ∧
  (∀ s : Nat, s < 16 → 0 ≤ di s → ∀ i, 0 ≤ i ∧ i < v → 0 ≤ T s i → 0 ≤ di (T s i).toNat ∧ di (T s i).toNat ≤ di s + 1) ∧
  (∀ t : Nat, t < 16 → 0 < di t → ∃ s : Nat, ∃ i : Int, s < 16 ∧ 0 ≤ di s ∧ 0 ≤ i ∧ i < v ∧ T s i = t ∧ di t = di s + 1)
theorem DS_le {T T2 : Int → Int → Int} {m v v2 f : Int} {di d2 : Nat → Int} (hf : 0 ≤ f ∧ f < 16) (h : DS T m v f di) (h2 : DS T2 m v2 f d2)
    (hT : ∀ (s : Nat) (i : Int), (s : Int) < m → 0 ≤ i ∧ i < v → 0 ≤ T s i → ∃ k, 0 ≤ k ∧ k < v2 ∧ T2 s k = T s i) :
    ∀ (n : Nat) (t : Nat), t < 16 → di t = n → 0 ≤ d2 t ∧ d2 t ≤ n := by
  intro n
  induction n with
  | zero =>
    intro t ht h0
    have e := h.2.1 t ht h0
    have e1 := h2.1
    rw [show t = f.toNat by omega, e1]
    omega
  | succ n ih =>
    intro t ht h0
    obtain ⟨s, i, hs, hd, hi, hi2, hst, hsd⟩ := h.2.2.2.2 t ht (by omega)
    have h3 := ih s hs (by omega)
    obtain ⟨k, hk, hk2, hkk⟩ := hT s i ((h.2.2.1 s hs).2.2 hd) ⟨hi, hi2⟩ (by omega)
    have h4 := h2.2.2.2.1 s hs h3.1 k ⟨hk, hk2⟩ (by omega)
    rw [show (T2 s k).toNat = t by omega] at h4
    omega
theorem DS_eq {T T2 : Int → Int → Int} {m v v2 f : Int} {di d2 : Nat → Int} (hf : 0 ≤ f ∧ f < 16) (h : DS T m v f di) (h2 : DS T2 m v2 f d2)
    (hT : ∀ (s : Nat) (i : Int), (s : Int) < m → 0 ≤ i ∧ i < v → 0 ≤ T s i → ∃ k, 0 ≤ k ∧ k < v2 ∧ T2 s k = T s i)
    (hT2 : ∀ (s : Nat) (i : Int), (s : Int) < m → 0 ≤ i ∧ i < v2 → 0 ≤ T2 s i → ∃ k, 0 ≤ k ∧ k < v ∧ T s k = T2 s i) : ∀ t : Nat, t < 16 → di t = d2 t := by
  intro t ht
  have r1 := h.2.2.1 t ht
  have r2 := h2.2.2.1 t ht
  by_cases c : 0 ≤ di t
  · have a := DS_le hf h h2 hT (di t).toNat t ht (by omega)
    have b := DS_le hf h2 h hT2 (d2 t).toNat t ht (by omega)
    omega
  · by_cases c2 : 0 ≤ d2 t
    · have b := DS_le hf h2 h hT2 (d2 t).toNat t ht (by omega)
      omega
    · omega
/-- n different numbers below m: n ≤ m -/
theorem pgn : ∀ (m n : Nat) (g : Nat → Nat), (∀ i, i < n → g i < m) → (∀ i j, i < n → j < n → g i = g j → i = j) → n ≤ m := by
  intro m
  induction m with
  | zero => intro n g h _; exact Nat.le_of_not_lt (fun z => absurd (h 0 z) (by omega))
  | succ m ih =>
    intro n g h hi
    by_cases c : ∃ k, k < n ∧ g k = m
    · obtain ⟨k, hk, hkm⟩ := c
      have := ih (n - 1) (fun i => if i < k then g i else g (i + 1)) (fun i hin => by
        show (if i < k then g i else g (i + 1)) < m
        split
        · have a := h i (by omega)
          have b : g i ≠ m := fun e => absurd (hi i k (by omega) hk (by omega)) (by omega)
          omega
        · have a := h (i + 1) (by omega)
          have b : g (i + 1) ≠ m := fun e => absurd (hi (i + 1) k (by omega) hk (by omega)) (by omega)
          omega) (fun i j hin hjn e => by
        replace e : (if i < k then g i else g (i + 1)) = (if j < k then g j else g (j + 1)) := e
        split at e <;> split at e
        · exact hi _ _ (by omega) (by omega) e
        · have := hi _ _ (by omega) (by omega) e; omega
        · have := hi _ _ (by omega) (by omega) e; omega
        · have := hi _ _ (by omega) (by omega) e; omega)
      omega
    · have := ih n g (fun i hin => by
        have a := h i hin
        have b : g i ≠ m := fun e => c ⟨i, hin, e⟩
        omega) hi
      omega
/-- the states' queue: k states are through, of the k-th the first e events; n stand in it -/
def RQ (T : Int → Int → Int) (m v f k e n : Int) (di od : Nat → Int) : Prop :=
  (1 ≤ n ∧ n ≤ m ∧ 0 ≤ k ∧ k ≤ n ∧ m ≤ 16) ∧
  (∀ j : Nat, (j : Int) < n → 0 ≤ od j ∧ od j < m ∧ 0 ≤ di (od j).toNat ∧ di (od j).toNat ≤ j) ∧
  (∀ i j : Nat, (i : Int) < n → (j : Int) < n → od i = od j → i = j) ∧
  (∀ t : Nat, t < 16 → di t = -1 ∨ ∃ j : Nat, (j : Int) < n ∧ od j = t) ∧
  (∀ i j : Nat, i ≤ j → (j : Int) < n → di (od i).toNat ≤ di (od j).toNat) ∧
  (k < n → ∀ j : Nat, (j : Int) < n → di (od j).toNat ≤ di (od k.toNat).toNat + 1) ∧
  (∀ j : Nat, (j : Int) < k → ∀ i, 0 ≤ i ∧ i < v → 0 ≤ T (od j) i → 0 ≤ di (T (od j) i).toNat ∧ di (T (od j) i).toNat ≤ di (od j).toNat + 1) ∧
  (k < n → ∀ i, 0 ≤ i ∧ i < e → 0 ≤ T (od k.toNat) i → 0 ≤ di (T (od k.toNat) i).toNat ∧ di (T (od k.toNat) i).toNat ≤ di (od k.toNat).toNat + 1) ∧
  (∀ j : Nat, 0 < j → (j : Int) < n → ∃ a : Nat, ∃ i : Int, (a : Int) < n ∧ 0 ≤ i ∧ i < v ∧ T (od a) i = od j ∧ di (od j).toNat = di (od a).toNat + 1) ∧
  (od 0 = f ∧ di f.toNat = 0)
theorem RQ_init {T : Int → Int → Int} {m v f : Int} {di od : Nat → Int} (hf : 0 ≤ f ∧ f < m) (hm : m ≤ 16) (hd : ∀ t : Nat, t < 16 → di t = -1) : RQ T m v f 0 0 1 (uZ di f.toNat 0) (uZ od 0 f) := by
  have e0 : uZ od 0 f 0 = f := uZ_s
  have e1 : uZ di f.toNat 0 f.toNat = 0 := uZ_s
  have ej : ∀ j : Nat, (j : Int) < 1 → j = 0 := fun j h => by omega
  refine ⟨by omega, fun j hj => ?_, fun i j hi hj _ => by omega, fun t ht => ?_, fun i j hij hj => ?_, fun _ j hj => ?_, fun j hj => by omega, fun _ i hi => by omega, fun j h0 hj => by omega, e0, e1⟩
  · rw [ej j hj, e0, e1]; omega
  · by_cases c : t = f.toNat
    · exact Or.inr ⟨0, by omega, by rw [e0]; omega⟩
    · exact Or.inl (by rw [uZ_n c]; exact hd t ht)
  · rw [ej j hj, show i = 0 by omega]; exact Int.le_refl _
  · rw [ej j hj, show (0 : Int).toNat = 0 from rfl]; omega
theorem RQ_keep {T : Int → Int → Int} {m v f k e n : Int} {di od : Nat → Int} (h : RQ T m v f k e n di od) (hk : k < n) (h0 : 0 ≤ e) (hT : T (od k.toNat) e < 16)
    (hc : T (od k.toNat) e < 0 ∨ ¬ di (T (od k.toNat) e).toNat < 0) : RQ T m v f k (e + 1) n di od := by
  obtain ⟨h1, h2, h3, h4, h5, h6, h7, h8, h9, h10⟩ := h
  refine ⟨h1, h2, h3, h4, h5, h6, h7, fun _ i hi ht => ?_, h9, h10⟩
  by_cases c : i = e
  · subst c
    refine ⟨by omega, ?_⟩
    rcases h4 (T (od k.toNat) i).toNat (by omega) with a | ⟨j, hj, hjt⟩
    · omega
    · have := h6 hk j hj
      rw [hjt, Int.toNat_natCast] at this
      exact this
  · exact h8 hk i (by omega) ht
theorem RQ_lt {T : Int → Int → Int} {m v f k e n : Int} {di od : Nat → Int} (h : RQ T m v f k e n di od) {t : Int} (ht : 0 ≤ t ∧ t < m) (hd : di t.toNat < 0) : n < m := by
  obtain ⟨h1, h2, h3, h4, h5, h6, h7, h8, h9, h10⟩ := h
  have hn : ∀ j : Nat, (j : Int) < n → ¬ od j = t := fun j hj e => by have := h2 j hj; rw [e] at this; omega
  have := pgn m.toNat (n.toNat + 1) (fun j => if j < n.toNat then (od j).toNat else t.toNat) (fun i hi => by
    show (if i < n.toNat then (od i).toNat else t.toNat) < m.toNat
    split
    · have := h2 i (by omega); omega
    · omega) (fun i j hi hj he => by
    replace he : (if i < n.toNat then (od i).toNat else t.toNat) = (if j < n.toNat then (od j).toNat else t.toNat) := he
    split at he <;> split at he
    · have a := h2 i (by omega)
      have b := h2 j (by omega)
      exact h3 i j (by omega) (by omega) (by omega)
    · have a := h2 i (by omega)
      exact absurd (show od i = t by omega) (hn i (by omega))
    · have a := h2 j (by omega)
      exact absurd (show od j = t by omega) (hn j (by omega))
    · omega)
  omega
theorem RQ_add {T : Int → Int → Int} {m v f k e n : Int} {di od : Nat → Int} (h : RQ T m v f k e n di od) (hk : k < n) (h0 : 0 ≤ e ∧ e < v) {t : Int} (hT : T (od k.toNat) e = t) (ht : 0 ≤ t ∧ t < m)
    (hd : di t.toNat < 0) : RQ T m v f k (e + 1) (n + 1) (uZ di t.toNat (di (od k.toNat).toNat + 1)) (uZ od n.toNat t) := by
  have hnm := RQ_lt h ht hd
  obtain ⟨h1, h2, h3, h4, h5, h6, h7, h8, h9, h10⟩ := h
  have hne : ∀ j : Nat, (j : Int) < n → (od j).toNat ≠ t.toNat := fun j hj e => by have := h2 j hj; rw [e] at this; omega
  have o1 : ∀ j : Nat, (j : Int) < n → uZ od n.toNat t j = od j := fun j hj => uZ_n (by omega)
  have o2 : uZ od n.toNat t n.toNat = t := uZ_s
  have d1 : ∀ j : Nat, (j : Int) < n → uZ di t.toNat (di (od k.toNat).toNat + 1) (od j).toNat = di (od j).toNat := fun j hj => uZ_n (hne j hj)
  have d2 : uZ di t.toNat (di (od k.toNat).toNat + 1) t.toNat = di (od k.toNat).toNat + 1 := uZ_s
  have d3 : ∀ x : Int, 0 ≤ di x.toNat → uZ di t.toNat (di (od k.toNat).toNat + 1) x.toNat = di x.toNat := fun x hx => uZ_n (fun z => by rw [z] at hx; omega)
  have hkn : ((k.toNat : Nat) : Int) < n := by omega
  have ek : uZ od n.toNat t k.toNat = od k.toNat := o1 _ hkn
  have hk2 := h2 k.toNat hkn
  have jc : ∀ j : Nat, (j : Int) < n + 1 → (j : Int) < n ∨ j = n.toNat := fun j hj => by omega
  refine ⟨by omega, fun j hj => ?_, fun i j hi hj he => ?_, fun x hx => ?_, fun i j hij hj => ?_, fun _ j hj => ?_, fun j hj i hi hp => ?_, fun _ i hi hp => ?_, fun j hj0 hj => ?_, ?_, ?_⟩
  · rcases jc j hj with c | c
    · rw [o1 j c, d1 j c]; exact h2 j c
    · rw [c, o2, d2]; omega
  · rcases jc i hi with c | c <;> rcases jc j hj with c2 | c2
    · rw [o1 i c, o1 j c2] at he; exact h3 i j c c2 he
    · rw [o1 i c, c2, o2] at he; exact absurd (congrArg Int.toNat he) (hne i c)
    · rw [o1 j c2, c, o2] at he; exact absurd (congrArg Int.toNat he.symm) (hne j c2)
    · omega
  · by_cases c : x = t.toNat
    · exact Or.inr ⟨n.toNat, by omega, by rw [o2]; omega⟩
    · rcases h4 x hx with a | ⟨j, hj, hjx⟩
      · exact Or.inl (by rw [uZ_n c]; exact a)
      · exact Or.inr ⟨j, by omega, by rw [o1 j hj]; exact hjx⟩
  · rcases jc j hj with c2 | c2
    · have c : (i : Int) < n := by omega
      rw [o1 i c, o1 j c2, d1 i c, d1 j c2]; exact h5 i j hij c2
    · rcases jc i (by omega) with c | c
      · rw [o1 i c, c2, o2, d1 i c, d2]; exact h6 hk i c
      · rw [c, c2]; exact Int.le_refl _
  · rw [ek, d1 _ hkn]
    rcases jc j hj with c | c
    · rw [o1 j c, d1 j c]; exact h6 hk j c
    · rw [c, o2, d2]; exact Int.le_refl _
  · have c : (j : Int) < n := by omega
    rw [o1 j c] at hp ⊢
    rw [d1 j c]
    have := h7 j hj i hi hp
    rw [d3 _ this.1]
    exact this
  · rw [ek] at hp ⊢
    rw [d1 _ hkn]
    by_cases c : i = e
    · subst c; rw [hT, d2]; omega
    · have := h8 hk i (by omega) hp
      rw [d3 _ this.1]
      exact this
  · rcases jc j hj with c | c
    · obtain ⟨a, i, ha, hi, hi2, hai, had⟩ := h9 j hj0 c
      exact ⟨a, i, by omega, hi, hi2, by rw [o1 a ha, o1 j c]; exact hai, by rw [o1 a ha, o1 j c, d1 a ha, d1 j c]; exact had⟩
    · exact ⟨k.toNat, e, by omega, h0.1, h0.2, by rw [ek, c, o2]; exact hT, by rw [ek, c, o2, d1 _ hkn, d2]⟩
  · rw [o1 0 (by omega)]; exact h10.1
  · rw [d3 _ (by omega)]; exact h10.2
theorem RQ_next {T : Int → Int → Int} {m v f k e n : Int} {di od : Nat → Int} (h : RQ T m v f k e n di od) (hk : k < n) (he : v ≤ e) : RQ T m v f (k + 1) 0 n di od := by
  obtain ⟨h1, h2, h3, h4, h5, h6, h7, h8, h9, h10⟩ := h
  refine ⟨by omega, h2, h3, h4, h5, fun hk1 j hj => ?_, fun j hj i hi hp => ?_, fun _ i hi => by omega, h9, h10⟩
  · have a := h6 hk j hj
    have b := h5 k.toNat (k + 1).toNat (by omega) (by omega)
    omega
  · by_cases c : (j : Int) = k
    · have ek : j = k.toNat := by omega
      subst ek
      exact h8 hk i (by omega) hp
    · exact h7 j (by omega) i hi hp
theorem RQ_DS {T : Int → Int → Int} {m v f k e n : Int} {di od : Nat → Int} (h : RQ T m v f k e n di od) (hk : n ≤ k) : DS T m v f di := by
  obtain ⟨h1, h2, h3, h4, h5, h6, h7, h8, h9, h10⟩ := h
  refine ⟨h10.2, fun t ht h0 => ?_, fun t ht => ?_, fun s hs h0 i hi hp => ?_, fun t ht h0 => ?_⟩
  · rcases h4 t ht with a | ⟨j, hj, hjt⟩
    · omega
    · by_cases c : j = 0
      · rw [← hjt, c]; exact h10.1
      · obtain ⟨a, i, ha, hi, hi2, hai, had⟩ := h9 j (by omega) hj
        have := h2 a ha
        rw [hjt, Int.toNat_natCast] at had
        omega
  · rcases h4 t ht with a | ⟨j, hj, hjt⟩
    · omega
    · have := h2 j hj
      rw [hjt, Int.toNat_natCast] at this
      omega
  · rcases h4 s hs with a | ⟨j, hj, hjt⟩
    · omega
    · have := h7 j (by omega) i hi
      rw [hjt, Int.toNat_natCast] at this
      exact this hp
  · rcases h4 t ht with a | ⟨j, hj, hjt⟩
    · omega
    · by_cases c : j = 0
      · rw [c, h10.1] at hjt
        have := h10.2
        rw [hjt, Int.toNat_natCast] at this
        omega
      · obtain ⟨a, i, ha, hi, hi2, hai, had⟩ := h9 j (by omega) hj
        have := h2 a ha
        refine ⟨(od a).toNat, i, by omega, this.2.2.1, hi, hi2, ?_, ?_⟩
        · rw [show (((od a).toNat : Nat) : Int) = od a by omega, hai, hjt]
        · rw [hjt, Int.toNat_natCast] at had; exact had
/-- the class's distances: rounds below t are through, and in round t the states below a, of a the first b events -/
def CI (ug : Nat → Int) (m f t a b : Int) (ud : Nat → Int) : Prop :=
  ud f.toNat = 0 ∧ (∀ x : Nat, x < 16 → ud x = 0 → (x : Int) = f) ∧ (∀ x : Nat, x < 16 → -1 ≤ ud x ∧ ud x ≤ t + 1 ∧ (0 ≤ ud x → (x : Int) < m)) ∧
  (∀ s : Nat, s < 16 → 0 ≤ ud s → ∀ i, 0 ≤ i ∧ i < 24 → 0 ≤ ug ((s : Int) * 24 + i).toNat → (ud s < t ∨ (ud s = t ∧ ((s : Int) < a ∨ ((s : Int) = a ∧ i < b)))) → 0 ≤ ud (ug ((s : Int) * 24 + i).toNat).toNat ∧ ud (ug ((s : Int) * 24 + i).toNat).toNat ≤ ud s + 1) ∧
  (∀ x : Nat, x < 16 → 0 < ud x → ∃ s : Nat, ∃ i : Int, s < 16 ∧ 0 ≤ ud s ∧ 0 ≤ i ∧ i < 24 ∧ ug ((s : Int) * 24 + i).toNat = x ∧ ud x = ud s + 1)
section
variable {ug : Nat → Int} {m f : Int}
theorem CI_D (hg : ∀ j, ug j < m) (hm : m ≤ 16) {t a : Int} (ht : 0 ≤ t) (ha : 0 ≤ a ∧ a < m) : ∀ (n : Nat) (i : Int) (ud : Nat → Int), 0 ≤ i → i + n = 24 → ud a.toNat = t → CI ug m f t a i ud → CI ug m f t a 24 (rfD ug a (t + 1) n i ud) ∧ rfD ug a (t + 1) n i ud a.toNat = t := by
  intro n
  induction n with
  | zero => intro i ud h0 hi ha2 h; rw [show i = 24 by omega] at h; exact ⟨h, ha2⟩
  | succ n ih =>
    intro i ud h0 hi ha2 h
    unfold rfD
    have hgi := hg (a * 24 + i).toNat
    have ea : ((a.toNat : Nat) : Int) = a := by omega
    obtain ⟨h1, h2, h3, h4, h5⟩ := h
    by_cases c : 0 ≤ ug (a * 24 + i).toNat ∧ ud (ug (a * 24 + i).toNat).toNat = -1
    · rw [if_pos c]
      generalize hgx : ug (a * 24 + i).toNat = g at c hgi
      have d1 : ∀ x : Nat, 0 ≤ ud x → uZ ud g.toNat (t + 1) x = ud x := fun x hx => uZ_n (fun z => by rw [z] at hx; omega)
      have d2 : uZ ud g.toNat (t + 1) g.toNat = t + 1 := uZ_s
      refine ih (i + 1) _ (by omega) (by omega) (by rw [d1 _ (by omega)]; exact ha2) ⟨by rw [d1 _ (by omega)]; exact h1, fun x hx h0x => ?_, fun x hx => ?_, fun s hs hus j hj hp hw => ?_, fun x hx h0x => ?_⟩
      · by_cases e : x = g.toNat
        · rw [e, d2] at h0x; omega
        · rw [uZ_n e] at h0x; exact h2 x hx h0x
      · by_cases e : x = g.toNat
        · rw [e, d2]; omega
        · rw [uZ_n e]; exact h3 x hx
      · by_cases e : s = g.toNat
        · rw [e, d2] at hw; omega
        · rw [uZ_n e] at hus hw ⊢
          by_cases e2 : (s : Int) = a ∧ j = i
          · rw [e2.1, e2.2, hgx, d2]
            have : s = a.toNat := by omega
            rw [this]; omega
          · have := h4 s hs hus j hj hp (by omega)
            rw [d1 _ this.1]
            exact this
      · by_cases e : x = g.toNat
        · refine ⟨a.toNat, i, by omega, by rw [d1 _ (by omega)]; omega, h0, by omega, by rw [ea, hgx]; omega, by rw [e, d2, d1 _ (by omega), ha2]⟩
        · rw [uZ_n e] at h0x ⊢
          obtain ⟨s, j, hs, hus, hj, hj2, hsj, hd⟩ := h5 x hx h0x
          exact ⟨s, j, hs, by rw [d1 _ hus]; exact hus, hj, hj2, hsj, by rw [d1 _ hus]; exact hd⟩
    · rw [if_neg c]
      refine ih (i + 1) _ (by omega) (by omega) ha2 ⟨h1, h2, h3, fun s hs hus j hj hp hw => ?_, h5⟩
      by_cases e2 : (s : Int) = a ∧ j = i
      · rw [e2.1, e2.2] at hp ⊢
        have e3 := h3 (ug (a * 24 + i).toNat).toNat (by omega)
        have : s = a.toNat := by omega
        rw [this]; omega
      · exact h4 s hs hus j hj hp (by omega)
theorem CI_S (hg : ∀ j, ug j < m) (hm : m ≤ 16) {t : Int} (ht : 0 ≤ t) : ∀ (n : Nat) (a : Int) (ud : Nat → Int), 0 ≤ a → a + n = m → CI ug m f t a 0 ud → CI ug m f t m 0 (rfS ug t n a ud) := by
  intro n
  induction n with
  | zero => intro a ud h0 ha h; rw [show a = m by omega] at h; exact h
  | succ n ih =>
    intro a ud h0 ha h
    unfold rfS
    refine ih (a + 1) _ (by omega) (by omega) ?_
    by_cases c : ud a.toNat = t
    · rw [if_pos c]
      obtain ⟨⟨h1, h2, h3, h4, h5⟩, h6⟩ := CI_D hg hm ht (a := a) (by omega) 24 0 ud (by omega) (by omega) c h
      exact ⟨h1, h2, h3, fun s hs hus j hj hp hw => h4 s hs hus j hj hp (by omega), h5⟩
    · rw [if_neg c]
      obtain ⟨h1, h2, h3, h4, h5⟩ := h
      refine ⟨h1, h2, h3, fun s hs hus j hj hp hw => h4 s hs hus j hj hp ?_, h5⟩
      by_cases e : (s : Int) = a
      · have e2 : s = a.toNat := by omega
        rw [← e2] at c
        omega
      · omega
theorem CI_T (hg : ∀ j, ug j < m) (hm : m ≤ 16) (hm0 : 0 ≤ m) : ∀ (n : Nat) (t : Int) (ud : Nat → Int), 0 ≤ t → CI ug m f t 0 0 ud → CI ug m f (t + n) 0 0 (rfT ug m.toNat n t ud) := by
  intro n
  induction n with
  | zero => intro t ud _ h; rw [show t + ((0 : Nat) : Int) = t by omega]; exact h
  | succ n ih =>
    intro t ud ht h
    unfold rfT
    rw [show t + ((n + 1 : Nat) : Int) = (t + 1) + n by omega]
    refine ih (t + 1) _ (by omega) ?_
    obtain ⟨h1, h2, h3, h4, h5⟩ := CI_S hg hm ht m.toNat 0 ud (by omega) (by omega) h
    refine ⟨h1, h2, fun x hx => by have := h3 x hx; omega, fun s hs hus j hj hp hw => h4 s hs hus j hj hp ?_, h5⟩
    have := h3 s hs
    omega
theorem CI_ch {t a b : Int} {ud : Nat → Int} (h : CI ug m f t a b ud) : ∀ (d : Nat) (x : Nat), x < 16 → ud x = d → ∀ k : Nat, k ≤ d → ∃ y : Nat, (y : Int) < m ∧ ud y = k := by
  intro d
  induction d with
  | zero => intro x hx hd k hk; exact ⟨x, (h.2.2.1 x hx).2.2 (by omega), by rw [hd]; omega⟩
  | succ d ih =>
    intro x hx hd k hk
    by_cases c : k = d + 1
    · exact ⟨x, (h.2.2.1 x hx).2.2 (by omega), by rw [hd, c]⟩
    · obtain ⟨s, i, hs, hus, hi, hi2, hsi, hsd⟩ := h.2.2.2.2 x hx (by omega)
      exact ih s hs (by omega) k (by omega)
theorem CI_mx (hm : m ≤ 16) {t a b : Int} {ud : Nat → Int} (h : CI ug m f t a b ud) {x : Nat} (hx : x < 16) (h0 : 0 ≤ ud x) : ud x < m := by
  have hc := CI_ch h (ud x).toNat x hx (by omega)
  have hc2 : ∀ k : Nat, ∃ y : Nat, k ≤ (ud x).toNat → (y : Int) < m ∧ ud y = k := fun k => by
    by_cases c : k ≤ (ud x).toNat
    · obtain ⟨y, hy⟩ := hc k c
      exact ⟨y, fun _ => hy⟩
    · exact ⟨0, fun z => absurd z c⟩
  have hw : ∀ k : Nat, k ≤ (ud x).toNat → ((Classical.choose (hc2 k) : Nat) : Int) < m ∧ ud (Classical.choose (hc2 k)) = k := fun k => Classical.choose_spec (hc2 k)
  have := pgn m.toNat ((ud x).toNat + 1) (fun k => Classical.choose (hc2 k)) (fun i hi => by have := (hw i (by omega)).1; show Classical.choose (hc2 i) < m.toNat; omega) (fun i j hi hj he => by
    have a1 := (hw i (by omega)).2
    have a2 := (hw j (by omega)).2
    have he2 : Classical.choose (hc2 i) = Classical.choose (hc2 j) := he
    rw [he2] at a1
    omega)
  omega
/-- behind as many rounds as there are states the class's distances are the distances -/
theorem CI_DS (hg : ∀ j, ug j < m) (hm : m ≤ 16) (hf : 0 ≤ f ∧ f < m) {ud : Nat → Int} (hd : ∀ x : Nat, x < 16 → ud x = if (x : Int) = f then 0 else -1) : DS (fun s i => ug (s * 24 + i).toNat) m 24 f (rfT ug m.toNat m.toNat 0 ud) := by
  have h0 : CI ug m f 0 0 0 ud := by
    have ef : ud f.toNat = 0 := by rw [hd _ (by omega), if_pos (by omega)]
    refine ⟨ef, fun x hx h => ?_, fun x hx => ?_, fun s hs hus j hj hp hw => ?_, fun x hx h => ?_⟩
    · rw [hd x hx] at h; split at h <;> omega
    · rw [hd x hx]; split <;> omega
    · rw [hd s hs] at hw hus; split at hw <;> omega
    · rw [hd x hx] at h; split at h <;> omega
  have h := CI_T hg hm (by omega) m.toNat 0 ud (by omega) h0
  generalize rfT ug m.toNat m.toNat 0 ud = D at h
  have hmx : ∀ x : Nat, x < 16 → 0 ≤ D x → D x < m := fun x hx h0 => CI_mx hm h hx h0
  obtain ⟨h1, h2, h3, h4, h5⟩ := h
  refine ⟨h1, h2, fun x hx => ?_, fun s hs hus i hi hp => ?_, h5⟩
  · have := h3 x hx
    by_cases c : 0 ≤ D x
    · have := hmx x hx c; omega
    · omega
  · exact h4 s hs hus i hi hp (Or.inl (by have := hmx s hs hus; omega))
end
theorem RQ_rg {T : Int → Int → Int} {m v f k e n : Int} {di od : Nat → Int} (h : RQ T m v f k e n di od) {t : Nat} (ht : t < 16) : -1 ≤ di t ∧ di t ≤ 15 := by
  rcases h.2.2.2.1 t ht with a | ⟨j, hj, hjt⟩
  · omega
  · have := h.2.1 j hj
    have h1 := h.1
    rw [hjt, Int.toNat_natCast] at this
    omega
