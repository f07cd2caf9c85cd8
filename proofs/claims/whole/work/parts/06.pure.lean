/-- a list of numbers written byte by byte behind place 'len' -/
def wr (F : Nat → Int) (len : Int) : List Int → Nat → Int
  | [] => F
  | x :: l => wr (uZ F len.toNat (bN x)) (len + 1) l
theorem wr_app (l l2 : List Int) : ∀ (F : Nat → Int) (len : Int), wr F len (l ++ l2) = wr (wr F len l) (len + l.length) l2 := by
  induction l with
  | nil => intro F len; simp [wr]
  | cons x l ih =>
    intro F len
    show wr (uZ F len.toNat (bN x)) (len + 1) (l ++ l2) = wr (wr (uZ F len.toNat (bN x)) (len + 1) l) (len + ((l.length + 1 : Nat) : Int)) l2
    rw [ih]
    congr 1
    omega
theorem wr_snoc (l : List Int) (x : Int) (F : Nat → Int) (len : Int) : wr F len (l ++ [x]) = uZ (wr F len l) (len + l.length).toNat (bN x) := by
  rw [wr_app]; rfl
theorem wr_rep (F : Nat → Int) (len : Int) {k : Int} (h : 0 ≤ k) (hl : 0 ≤ len) : uZ (wr F len (List.replicate k.toNat 32)) (len + k).toNat (bN 32) = wr F len (List.replicate (k + 1).toNat 32) := by
  have e : (k + 1).toNat = k.toNat + 1 := by omega
  rw [e, List.replicate_succ', wr_snoc, List.length_replicate]
  congr 2
  omega
def byt (F : Nat → Int) : Prop := ∀ j, -128 ≤ F j ∧ F j ≤ 127
theorem uZ_byt {F : Nat → Int} {k : Nat} {v : Int} (h : byt F) (hv : -128 ≤ v ∧ v ≤ 127) : byt (uZ F k v) := fun j => by
  unfold uZ
  split
  · exact hv
  · exact h j
/-- k numbers of a row from place a on -/
def seg (F : Nat → Int) : Nat → Nat → List Int
  | _, 0 => []
  | a, k + 1 => F a :: seg F (a + 1) k
theorem seg_len (F : Nat → Int) : ∀ k a, (seg F a k).length = k := by
  intro k
  induction k with
  | zero => intro a; rfl
  | succ k ih => intro a; show (seg F (a + 1) k).length + 1 = k + 1; rw [ih]
theorem seg_get (F : Nat → Int) : ∀ (k a j : Nat), j < k → (seg F a k).getD j 0 = F (a + j) := by
  intro k
  induction k with
  | zero => intro a j h; omega
  | succ k ih =>
    intro a j h
    cases j with
    | zero => rfl
    | succ j =>
      show (seg F (a + 1) k).getD j 0 = _
      rw [ih (a + 1) j (by omega)]
      congr 1
      omega
theorem seg_congr {F E : Nat → Int} : ∀ (k a b : Nat), (∀ j, j < k → F (a + j) = E (b + j)) → seg F a k = seg E b k := by
  intro k
  induction k with
  | zero => intro a b h; rfl
  | succ k ih =>
    intro a b h
    show F a :: seg F (a + 1) k = E b :: seg E (b + 1) k
    have h0 := h 0 (by omega)
    rw [Nat.add_zero, Nat.add_zero] at h0
    rw [h0, ih (a + 1) (b + 1) (fun j hj => by have := h (j + 1) (by omega); rw [show a + 1 + j = a + (j + 1) by omega, show b + 1 + j = b + (j + 1) by omega]; exact this)]
/-- of which sort a name's slot is -/
def srt (s : Int) : Int := if s < 16 then 0 else if s < 24 then 1 else 2
/-- an event's slot -/
def evs (c e : Int) : Int := if e < c then 16 + e else 24 + e - c
def ful (nt : Nat → Int) (s : Int) : Int := if (s = 0 ∧ 16 ≤ nt 0) ∨ (s = 1 ∧ 8 ≤ nt 1) ∨ (s = 2 ∧ 16 ≤ nt 2) then 1 else 0
def sbl (nt : Nat → Int) (s : Int) : Int := if s = 0 then nt 0 else if s = 1 then 16 + nt 1 else 24 + nt 2
def prf (nt : Nat → Int) (s e : Int) : Int := if 0 ≤ s ∧ s < nt 0 ∧ 0 ≤ e ∧ e < nt 1 + nt 2 then s * 24 + evs (nt 1) e - 16 else -1
/-- the names' counts are within their rooms -/
def cnt (nt : Nat → Int) : Prop := 0 ≤ nt 0 ∧ nt 0 ≤ 16 ∧ 0 ≤ nt 1 ∧ nt 1 ≤ 8 ∧ 0 ≤ nt 2 ∧ nt 2 ≤ 16
theorem evs_rg {nt : Nat → Int} {e : Int} (h : cnt nt) (h0 : 0 ≤ e ∧ e < nt 1 + nt 2) : 16 ≤ evs (nt 1) e ∧ evs (nt 1) e < 40 := by
  unfold cnt at h
  unfold evs
  split <;> omega
theorem prf_in {nt : Nat → Int} {s e : Int} (h0 : 0 ≤ s ∧ s < nt 0 ∧ 0 ≤ e ∧ e < nt 1 + nt 2) : prf nt s e = s * 24 + evs (nt 1) e - 16 := if_pos h0
theorem prf_rg {nt : Nat → Int} {s e : Int} (h : cnt nt) (h0 : 0 ≤ s ∧ s < nt 0 ∧ 0 ≤ e ∧ e < nt 1 + nt 2) : 0 ≤ prf nt s e ∧ prf nt s e < 384 := by
  have h1 := evs_rg h ⟨h0.2.2.1, h0.2.2.2⟩
  rw [prf_in h0]
  unfold cnt at h
  omega
/-- missing pairs of a state from event e on, n events left -/
def msE (nt ug : Nat → Int) (s e : Int) : Nat → List Int
  | 0 => []
  | n + 1 => if ug (prf nt s e).toNat = -1 then (s * 100 + e) :: msE nt ug s (e + 1) n else msE nt ug s (e + 1) n
def msS (nt ug : Nat → Int) (s : Int) : Nat → List Int
  | 0 => []
  | n + 1 => msE nt ug s 0 (nt 1 + nt 2).toNat ++ msS nt ug (s + 1) n
/-- the k-th of a list, or -1 -/
def kth : List Int → Int → Int
  | [], _ => -1
  | x :: l, k => if k = 0 then x else kth l (k - 1)
/-- how many pairs of reached states are missing -/
def msR (nt ug ud : Nat → Int) (s : Int) : Nat → Int
  | 0 => 0
  | n + 1 => (if ud s.toNat = -1 then 0 else ((msE nt ug s 0 (nt 1 + nt 2).toNat).length : Int)) + msR nt ug ud (s + 1) n
/-- the lexeme's bytes are the name in slot s -/
def isN (nl nn tF : Nat → Int) (ls la s : Int) : Prop := nn s.toNat = la - ls ∧ ∀ i : Nat, (i : Int) < nn s.toNat → nl (s * 12 + i).toNat = tF (ls + i).toNat
theorem seg_step (F : Nat → Int) {a n : Int} (ha : 0 ≤ a) (hn : 0 < n) : seg F a.toNat n.toNat = F a.toNat :: seg F (a + 1).toNat (n - 1).toNat := by
  rw [show n.toNat = (n - 1).toNat + 1 by omega, show (a + 1).toNat = a.toNat + 1 by omega]
  rfl
theorem msE_step (nt ug : Nat → Int) (s : Int) {e v : Int} (h : e < v) : msE nt ug s e (v - e).toNat = if ug (prf nt s e).toNat = -1 then (s * 100 + e) :: msE nt ug s (e + 1) (v - (e + 1)).toNat else msE nt ug s (e + 1) (v - (e + 1)).toNat := by
  rw [show (v - e).toNat = (v - (e + 1)).toNat + 1 by omega]
  rfl
theorem msS_step (nt ug : Nat → Int) {s v : Int} (h : s < v) : msS nt ug s (v - s).toNat = msE nt ug s 0 (nt 1 + nt 2).toNat ++ msS nt ug (s + 1) (v - (s + 1)).toNat := by
  rw [show (v - s).toNat = (v - (s + 1)).toNat + 1 by omega]
  rfl
theorem msR_step (nt ug ud : Nat → Int) {s v : Int} (h : s < v) : msR nt ug ud s (v - s).toNat = (if ud s.toNat = -1 then 0 else ((msE nt ug s 0 (nt 1 + nt 2).toNat).length : Int)) + msR nt ug ud (s + 1) (v - (s + 1)).toNat := by
  rw [show (v - s).toNat = (v - (s + 1)).toNat + 1 by omega]
  rfl
def gol (ug : Nat → Int) : Prop := ∀ j, -2 ≤ ug j ∧ ug j ≤ 15
def dst (ud : Nat → Int) : Prop := ∀ j, -1 ≤ ud j ∧ ud j ≤ 100
def act (ua : Nat → Int) : Prop := ∀ j, -1 ≤ ua j ∧ ua j ≤ 101
def aco (ua : Nat → Int) (p i : Int) : Int := if i < 4 then ua (p * 4 + i).toNat else -1
def rch (ud : Nat → Int) (s : Int) : Int := if ud s.toNat = -1 then 0 else 1
def snd_ (ua : Nat → Int) (s m : Int) : Prop := ∃ i : Nat, i < 96 ∧ ua (s * 96 + i).toNat = m
def snt (nt ud ua : Nat → Int) (m : Int) : Prop := ∃ s : Int, 0 ≤ s ∧ s < nt 0 ∧ ¬ ud s.toNat = -1 ∧ snd_ ua s m
def awt (nt ud ug : Nat → Int) (m : Int) : Prop := ∃ s : Int, 0 ≤ s ∧ s < nt 0 ∧ ¬ ud s.toNat = -1 ∧ 0 ≤ ug (s * 24 + (24 + m) - 16).toNat
def mps (nt ug ud : Nat → Int) (b : Int) : Int := if b = 0 then ((msS nt ug 0 (nt 0).toNat).length : Int) else msR nt ug ud 0 (nt 0).toNat
theorem msE_len (nt ug : Nat → Int) (s : Int) : ∀ (n : Nat) (e : Int), (msE nt ug s e n).length ≤ n := by
  intro n
  induction n with
  | zero => intro e; exact Nat.le_refl _
  | succ n ih =>
    intro e
    unfold msE
    split
    · exact Nat.succ_le_succ (ih _)
    · exact Nat.le_succ_of_le (ih _)
/-- the states that one state's rules lead to get a distance, if they have none -/
def rfD (ug : Nat → Int) (s t : Int) : Nat → Int → (Nat → Int) → Nat → Int
  | 0, _, ud => ud
  | n + 1, i, ud => rfD ug s t n (i + 1) (if 0 ≤ ug (s * 24 + i).toNat ∧ ud (ug (s * 24 + i).toNat).toNat = -1 then uZ ud (ug (s * 24 + i).toNat).toNat t else ud)
/-- all states at distance t reach on, from state s on -/
def rfS (ug : Nat → Int) (t : Int) : Nat → Int → (Nat → Int) → Nat → Int
  | 0, _, ud => ud
  | n + 1, s, ud => rfS ug t n (s + 1) (if ud s.toNat = t then rfD ug s (t + 1) 24 0 ud else ud)
def rfT (ug : Nat → Int) (m : Nat) : Nat → Int → (Nat → Int) → Nat → Int
  | 0, _, ud => ud
  | n + 1, t, ud => rfT ug m n (t + 1) (rfS ug t m 0 ud)
theorem rfD_step (ug : Nat → Int) (s t : Int) {i v : Int} (ud : Nat → Int) (h : i < v) : rfD ug s t (v - i).toNat i ud = rfD ug s t (v - (i + 1)).toNat (i + 1) (if 0 ≤ ug (s * 24 + i).toNat ∧ ud (ug (s * 24 + i).toNat).toNat = -1 then uZ ud (ug (s * 24 + i).toNat).toNat t else ud) := by
  rw [show (v - i).toNat = (v - (i + 1)).toNat + 1 by omega]
  rfl
theorem rfS_step (ug : Nat → Int) (t : Int) {i v : Int} (ud : Nat → Int) (h : i < v) : rfS ug t (v - i).toNat i ud = rfS ug t (v - (i + 1)).toNat (i + 1) (if ud i.toNat = t then rfD ug i (t + 1) 24 0 ud else ud) := by
  rw [show (v - i).toNat = (v - (i + 1)).toNat + 1 by omega]
  rfl
theorem rfT_step (ug : Nat → Int) (m : Nat) {i v : Int} (ud : Nat → Int) (h : i < v) : rfT ug m (v - i).toNat i ud = rfT ug m (v - (i + 1)).toNat (i + 1) (rfS ug i m 0 ud) := by
  rw [show (v - i).toNat = (v - (i + 1)).toNat + 1 by omega]
  rfl
theorem kth_hit {x k : Int} {l : List Int} (h : k = 0) : kth (x :: l) k = x := if_pos h
theorem kth_miss {x k : Int} {l : List Int} (h : ¬ k = 0) : kth (x :: l) k = kth l (k - 1) := if_neg h
theorem uZ_dst {ud : Nat → Int} {k : Nat} {v : Int} (h : dst ud) (hv : -1 ≤ v ∧ v ≤ 100) : dst (uZ ud k v) := fun j => by
  unfold uZ
  split
  · exact hv
  · exact h j
theorem rfD_dst (ug : Nat → Int) (s : Int) {t : Int} (ht : -1 ≤ t ∧ t ≤ 100) : ∀ (n : Nat) (i : Int) (ud : Nat → Int), dst ud → dst (rfD ug s t n i ud) := by
  intro n
  induction n with
  | zero => intro i ud h; exact h
  | succ n ih =>
    intro i ud h
    unfold rfD
    refine ih _ _ ?_
    split
    · exact uZ_dst h ht
    · exact h
def ufS (nt : Nat → Int) (uf : Int) : Int := if uf = -1 ∧ 0 < nt 0 then 0 else uf
def udS (nt : Nat → Int) (uf : Int) (ud : Nat → Int) : Nat → Int := if ufS nt uf = -1 then ud else uZ ud (ufS nt uf).toNat 0
def drB (F : Nat → Int) : Nat → Nat
  | 0 => 0
  | n + 1 => if F n = 32 then drB F n else n + 1
def ltr (c : Int) : Int := if 97 ≤ c ∧ c ≤ 122 then 1 else 0
def dgt (c : Int) : Int := if 48 ≤ c ∧ c ≤ 57 then 1 else 0
def sgk (c : Int) : Int := if c = 58 then 2 else if c = 59 then 3 else if c = 44 then 4 else if c = 62 then 5 else 1
theorem sgn_cases (c : Int) : c = 44 ∨ c = 58 ∨ c = 59 ∨ c = 62 ∨ (c ≠ 44 ∧ c ≠ 58 ∧ c ≠ 59 ∧ c ≠ 62) := by omega
/-- a text's characters -/
def wl (t : String) : List Int := seg (sx_b t) 0 t.toList.length
def nmk (w : List Int) : Int := if w = wl "state" then 7 else if w = wl "ask" then 8 else if w = wl "message" then 9 else if w = wl "on" then 10 else if w = wl "never" then 11 else if w = wl "first" then 12 else if w = wl "send" then 13 else if w = wl "take" then 14 else if w = wl "keep" then 15 else 6
def skN (F : Nat → Int) : Nat → Int → Int
  | 0, p => p
  | k + 1, p => if ltr (F p.toNat) = 1 ∨ dgt (F p.toNat) = 1 then skN F k (p + 1) else p
def skW (F : Nat → Int) : Nat → Int → Int → Int
  | 0, _, p => p
  | k + 1, c, p => if F p.toNat = 10 then skW F k 0 (p + 1) else if F p.toNat = 35 then skW F k 1 (p + 1) else if c = 0 ∧ F p.toNat ≠ 9 ∧ F p.toNat ≠ 13 ∧ F p.toNat ≠ 32 then p else skW F k c (p + 1)
theorem skN_step (F : Nat → Int) {p n : Int} (h : p < n) : skN F (n - p).toNat p = if ltr (F p.toNat) = 1 ∨ dgt (F p.toNat) = 1 then skN F (n - (p + 1)).toNat (p + 1) else p := by
  rw [show (n - p).toNat = (n - (p + 1)).toNat + 1 by omega]
  rfl
theorem skW_step (F : Nat → Int) (c : Int) {p n : Int} (h : p < n) : skW F (n - p).toNat c p = if F p.toNat = 10 then skW F (n - (p + 1)).toNat 0 (p + 1) else if F p.toNat = 35 then skW F (n - (p + 1)).toNat 1 (p + 1) else if c = 0 ∧ F p.toNat ≠ 9 ∧ F p.toNat ≠ 13 ∧ F p.toNat ≠ 32 then p else skW F (n - (p + 1)).toNat c (p + 1) := by
  rw [show (n - p).toNat = (n - (p + 1)).toNat + 1 by omega]
  rfl
theorem skN_rg (F : Nat → Int) : ∀ (k : Nat) (p : Int), p ≤ skN F k p ∧ skN F k p ≤ p + k := by
  intro k
  induction k with
  | zero => intro p; exact ⟨Int.le_refl _, by unfold skN; omega⟩
  | succ k ih =>
    intro p
    have := ih (p + 1)
    unfold skN
    split <;> omega
theorem skW_rg (F : Nat → Int) : ∀ (k : Nat) (c p : Int), p ≤ skW F k c p ∧ skW F k c p ≤ p + k := by
  intro k
  induction k with
  | zero => intro c p; exact ⟨Int.le_refl _, by unfold skW; omega⟩
  | succ k ih =>
    intro c p
    have h0 := ih 0 (p + 1)
    have h1 := ih 1 (p + 1)
    have h2 := ih c (p + 1)
    unfold skW
    (repeat' split) <;> omega
/-- the lexeme at or behind place p of a text of n bytes: where it begins, where it ends, what it is -/
def lxS (F : Nat → Int) (n p : Int) : Int := skW F (n - p).toNat 0 p
def lxA (F : Nat → Int) (n p : Int) : Int := if n ≤ lxS F n p then lxS F n p else if ltr (F (lxS F n p).toNat) = 1 then skN F (n - lxS F n p).toNat (lxS F n p) else lxS F n p + 1
def lxK (F : Nat → Int) (n p : Int) : Int := if n ≤ lxS F n p then 0 else if ltr (F (lxS F n p).toNat) = 1 then (if lxA F n p - lxS F n p ≤ 12 then nmk (seg F (lxS F n p).toNat (lxA F n p - lxS F n p).toNat) else 1) else sgk (F (lxS F n p).toNat)
/-- 8 bits of a number, 's' bits up -/
def ush (x : Int) (s : Nat) : Int := x % 4294967296 / 2 ^ s
theorem iI_ush (x : Int) {k : Int} {s : Nat} (h : k = s) (hs : s < 32) : ((iI x).toUInt32 >>> ((iI k).toUInt32 &&& Int32.toUInt32 31)).toInt32 = iI (ush x s) := by
  have e1 : (iI x).toBitVec.toNat = (x % 4294967296).toNat := by
    unfold iI
    show ((BitVec.ofInt 32 x).toNat) = _
    rw [BitVec.toNat_ofInt]
    rfl
  have e2 : iI k = nI s := by
    unfold iI nI
    rw [h, Int32.ofInt_eq_ofNat]
  have hsh : ∀ n, n < 32 → (((nI n).toUInt32 &&& Int32.toUInt32 31).toBitVec % 32).toNat = n := by decide +kernel
  rw [e2]
  apply Int32.toBitVec.inj
  apply BitVec.eq_of_toNat_eq
  rw [pk_ushr (iI x) (nI s) s (hsh s hs), e1]
  unfold ush iI
  show _ = (BitVec.ofInt 32 _).toNat
  rw [BitVec.toNat_ofInt]
  have hb : (0 : Int) ≤ x % 4294967296 ∧ x % 4294967296 < 4294967296 := by omega
  have h3 : (0 : Int) ≤ x % 4294967296 / 2 ^ s ∧ x % 4294967296 / 2 ^ s ≤ x % 4294967296 := by
    refine ⟨Int.ediv_nonneg hb.1 (by exact Int.pow_nonneg (by decide)), Int.ediv_le_self _ hb.1⟩
  have e5 : ((2 ^ 32 : Nat) : Int) = 4294967296 := by decide
  have h4 : (x % 4294967296 / 2 ^ s) % ((2 ^ 32 : Nat) : Int) = x % 4294967296 / 2 ^ s := Int.emod_eq_of_lt h3.1 (by omega)
  rw [h4]
  obtain ⟨m, hm⟩ := Int.eq_ofNat_of_zero_le hb.1
  rw [hm]
  show m / 2 ^ s = (((m : Nat) : Int) / ((2 : Int) ^ s)).toNat
  rw [show ((2 : Int) ^ s) = ((2 ^ s : Nat) : Int) by exact (Int.natCast_pow 2 s).symm, ← Int.natCast_ediv, Int.toNat_natCast]
theorem drB_s (F : Nat → Int) (n : Nat) : drB F (n + 1) = if F n = 32 then drB F n else n + 1 := rfl
theorem lx_rg (F : Nat → Int) {n p : Int} (h : p ≤ n) : p ≤ lxS F n p ∧ lxS F n p ≤ n := by
  have := skW_rg F (n - p).toNat 0 p
  unfold lxS
  omega
theorem lx_end {F : Nat → Int} {n p : Int} (h : n ≤ lxS F n p) : lxA F n p = lxS F n p ∧ lxK F n p = 0 := ⟨if_pos h, if_pos h⟩
theorem lx_sign {F : Nat → Int} {n p : Int} (h : ¬ n ≤ lxS F n p) (h2 : ¬ ltr (F (lxS F n p).toNat) = 1) : lxA F n p = lxS F n p + 1 ∧ lxK F n p = sgk (F (lxS F n p).toNat) := by
  unfold lxA lxK
  rw [if_neg h, if_neg h, if_neg h2, if_neg h2]
  exact ⟨rfl, rfl⟩
theorem lx_name {F : Nat → Int} {n p : Int} (h : ¬ n ≤ lxS F n p) (h2 : ltr (F (lxS F n p).toNat) = 1) : lxA F n p = skN F (n - lxS F n p).toNat (lxS F n p) ∧ lxK F n p = if lxA F n p - lxS F n p ≤ 12 then nmk (seg F (lxS F n p).toNat (lxA F n p - lxS F n p).toNat) else 1 := by
  refine ⟨?_, ?_⟩
  · unfold lxA
    rw [if_neg h, if_pos h2]
  · conv => lhs; unfold lxK
    rw [if_neg h, if_pos h2]
theorem ltr_01 (c : Int) : ltr c = 0 ∨ ltr c = 1 := by unfold ltr; split <;> omega
theorem lxA_rg (F : Nat → Int) {n p : Int} (h : p ≤ n) : lxS F n p ≤ lxA F n p ∧ lxA F n p ≤ n ∧ (lxS F n p < n → lxS F n p < lxA F n p) := by
  have h0 := lx_rg F h
  by_cases h1 : n ≤ lxS F n p
  · rw [(lx_end h1).1]; omega
  · by_cases h2 : ltr (F (lxS F n p).toNat) = 1
    · rw [(lx_name h1 h2).1]
      have h3 := skN_rg F (n - (lxS F n p + 1)).toNat (lxS F n p + 1)
      rw [skN_step F (by omega), if_pos (Or.inl h2)]
      omega
    · rw [(lx_sign h1 h2).1]; omega
def flZ (n : Nat) (v : Int) (F : Nat → Int) : Nat → Int := fun j => if j < n then v else F j
/-- the name in slot s -/
def nmC (nl nn : Nat → Int) (s : Int) : List Int := seg nl (s * 12).toNat (nn s.toNat).toNat
theorem nmC_len {nl nn : Nat → Int} {s : Int} (h : 0 ≤ nn s.toNat) : ((nmC nl nn s).length : Int) = nn s.toNat := by
  unfold nmC
  rw [seg_len]
  omega
theorem wl_len (t : String) : (wl t).length = t.toList.length := seg_len _ _ _
theorem aco_rg {ua : Nat → Int} (h : act ua) (p i : Int) : -1 ≤ aco ua p i ∧ aco ua p i ≤ 101 := by
  have := h (p * 4 + i).toNat
  unfold aco
  split <;> omega
section PR
variable (nm : Int → List Int) (nt ug ua : Nat → Int)
def acW (c : Int) : List Int := if c = 100 then wl "take" else if c = 101 then wl "keep" else wl "send " ++ nm (24 + c)
def acL (p : Int) : Nat → Int → List Int
  | 0, _ => []
  | n + 1, i => if aco ua p i = -1 then [] else (if 0 < i then wl ", " else wl " ") ++ (acW nm (aco ua p i) ++ acL p n (i + 1))
def prL (s e : Int) : List Int := if ug (prf nt s e).toNat = -1 then [] else if ug (prf nt s e).toNat = -2 then wl "never " ++ (nm s ++ ([32] ++ (nm (evs (nt 1) e) ++ [59, 10]))) else wl "on " ++ (nm s ++ ([32] ++ (nm (evs (nt 1) e) ++ ([58] ++ (acL nm ua (prf nt s e) 4 0 ++ (wl " > " ++ (nm (ug (prf nt s e).toNat) ++ [59, 10])))))))
def jnL (b : Int) : Nat → Int → List Int
  | 0, _ => []
  | n + 1, i => (if 0 < i then wl ", " else []) ++ (nm (b + i) ++ jnL b n (i + 1))
def pnL (t : String) (b n : Int) : List Int := if n = 0 then [] else wl t ++ (jnL nm b n.toNat 0 ++ [59, 10])
def peL (s : Int) : Nat → Int → List Int
  | 0, _ => []
  | n + 1, e => prL nm nt ug ua s e ++ peL s n (e + 1)
def psL : Nat → Int → List Int
  | 0, _ => []
  | n + 1, s => peL nm nt ug ua s (nt 1 + nt 2).toNat 0 ++ psL n (s + 1)
def paL (uf : Int) : List Int := pnL nm "state " 0 (nt 0) ++ (pnL nm "ask " 16 (nt 1) ++ (pnL nm "message " 24 (nt 2) ++ ((if uf = -1 then [] else wl "first " ++ (nm uf ++ [59, 10])) ++ psL nm nt ug ua (nt 0).toNat 0)))
theorem acL_step (p : Int) {i : Int} (h : i < 4) : acL nm ua p (4 - i).toNat i = if aco ua p i = -1 then [] else (if 0 < i then wl ", " else wl " ") ++ (acW nm (aco ua p i) ++ acL nm ua p (4 - (i + 1)).toNat (i + 1)) := by
  rw [show (4 - i).toNat = (4 - (i + 1)).toNat + 1 by omega]
  rfl
theorem jnL_step (b : Int) {i n : Int} (h : i < n) : jnL nm b (n - i).toNat i = (if 0 < i then wl ", " else []) ++ (nm (b + i) ++ jnL nm b (n - (i + 1)).toNat (i + 1)) := by
  rw [show (n - i).toNat = (n - (i + 1)).toNat + 1 by omega]
  rfl
theorem peL_step (s : Int) {i n : Int} (h : i < n) : peL nm nt ug ua s (n - i).toNat i = prL nm nt ug ua s i ++ peL nm nt ug ua s (n - (i + 1)).toNat (i + 1) := by
  rw [show (n - i).toNat = (n - (i + 1)).toNat + 1 by omega]
  rfl
theorem psL_step {i n : Int} (h : i < n) : psL nm nt ug ua (n - i).toNat i = peL nm nt ug ua i (nt 1 + nt 2).toNat 0 ++ psL nm nt ug ua (n - (i + 1)).toNat (i + 1) := by
  rw [show (n - i).toNat = (n - (i + 1)).toNat + 1 by omega]
  rfl
end PR
/-- behind an append: what is left to write -/
theorem wr_next {E F T : Nat → Int} {q : Int} {a b : List Int} (h : wr E q (a ++ b) = T) (hF : F = wr E q a) : wr F (q + a.length) b = T := by
  rw [hF, ← wr_app]
  exact h
