theorem arrV_cg {cA : ClassId} {n : Nat} {f g : Nat → Value} (h : ∀ j, j < n → f j = g j) : arrV cA n f = arrV cA n g := by
  unfold arrV
  have e : (fun j : Fin n => f j.val) = fun j : Fin n => g j.val := funext (fun j => h j.val j.isLt)
  rw [e]
section CG
variable {G : GG} {X : XX} {nL kc ks : Nat} {ws : va_W} {lv : List (Nat × Value)} {pc : Nat} {st : List Value}
theorem z_cgE {a : Nat} {e0 e : va_E} (q0 : Nat) (he : ws[q0]? = some (a, e0)) (hc : ∀ H : Heap, va_at G.1 cls (a, e0) H → va_at G.1 cls (a, e) H) (ws' : va_W) (hw : ws.set q0 (a, e) = ws') (kk : Zc G X nL kc ks ws' lv pc st) : Zc G X nL kc ks ws lv pc st := by
  obtain ⟨p, l, e', R, s, m, args, below, meth, c, Q, A⟩ := X
  intro H locs ls hP hD hS hl
  subst hw
  exact kk H locs ls (hP.set hD he (hc H (hP q0 _ he)) (fun q _ => rfl)) (hD.set he) hS hl
theorem z_cgi {a n : Nat} {F E : Nat → Int} (q0 : Nat) (he : ws[q0]? = some (iA G a n F)) (h : ∀ j, j < n → F j = E j) (ws' : va_W) (hw : ws.set q0 (iA G a n E) = ws') (kk : Zc G X nL kc ks ws' lv pc st) : Zc G X nL kc ks ws lv pc st :=
  z_cgE q0 he (fun H hH => by
    have h1 : H[a]? = some (vp_cell G.2.1.2.1 (n, .inl (fun j => iI (F j)))) := hH
    show H[a]? = some (vp_cell G.2.1.2.1 (n, .inl (fun j => iI (E j))))
    rw [h1, vp_cell_i, vp_cell_i, arrV_cg (fun j hj => by rw [h j hj])]) ws' hw kk
end CG
/-! bytes -/
theorem bN_em (x : Int) : bN (x % 256) = bN x := by unfold bN; exact Int.emod_bmod x 256
theorem ush_b (x : Int) {s : Nat} (hs : s = 0 ∨ s = 8 ∨ s = 16 ∨ s = 24) : bN (ush x s) = bN (x / 2 ^ s % 256) := by
  rw [← bN_em (ush x s)]
  congr 1
  unfold ush
  rcases hs with rfl | rfl | rfl | rfl
  · show x % 4294967296 / 1 % 256 = x / 1 % 256; omega
  · show x % 4294967296 / 256 % 256 = x / 256 % 256; omega
  · show x % 4294967296 / 65536 % 256 = x / 65536 % 256; omega
  · show x % 4294967296 / 16777216 % 256 = x / 16777216 % 256; omega
theorem wr_wI (A : List Int) : ∀ (F : Nat → Int) (q : Int), wr F q A = wI F q (A.map bN) := by
  induction A with
  | nil => intro F q; rfl
  | cons x A ih => intro F q; exact ih _ _
theorem bF_uZ (F : Nat → Int) (k : Nat) (v : Int) : bF (uZ F k v) = uZ (bF F) k (bN v) := by
  funext j
  unfold bF uZ
  split <;> rfl
theorem bF_wI (A : List Int) : ∀ (F : Nat → Int) (q : Int), bF (wI F q A) = wI (bF F) q (A.map bN) := by
  induction A with
  | nil => intro F q; rfl
  | cons x A ih =>
    intro F q
    show bF (wI (uZ F q.toNat x) (q + 1) A) = wI (uZ (bF F) q.toNat (bN x)) (q + 1) (A.map bN)
    rw [ih, bF_uZ]
theorem wI_u8 (A : List Int) : ∀ (F : Nat → Int) (q : Int), u8 F → (∀ x ∈ A, 0 ≤ x ∧ x ≤ 255) → u8 (wI F q A) := by
  induction A with
  | nil => intro F q h _; exact h
  | cons x A ih =>
    intro F q h hA
    refine ih _ _ (fun j => ?_) (fun y hy => hA y (List.mem_cons_of_mem _ hy))
    unfold uZ
    split
    · exact hA x List.mem_cons_self
    · exact h j
theorem b4_u8 (x : Int) : ∀ y ∈ b4 x, 0 ≤ y ∧ y ≤ 255 := fun y hy => by
  unfold b4 at hy
  simp only [List.mem_cons, List.not_mem_nil, or_false] at hy
  rcases hy with rfl | rfl | rfl | rfl <;> omega
theorem fd_map (a : Int) : [ush a 24, ush a 16, ush a 8, ush a 0].map bN = (b4 a).map bN := by
  show [bN (ush a 24), bN (ush a 16), bN (ush a 8), bN (ush a 0)] = [bN (a / 2 ^ 24 % 256), bN (a / 2 ^ 16 % 256), bN (a / 2 ^ 8 % 256), bN (a / 2 ^ 0 % 256)]
  rw [ush_b a (s := 24) (by omega), ush_b a (s := 16) (by omega), ush_b a (s := 8) (by omega), ush_b a (s := 0) (by omega)]
theorem feed_tie {tF tx : Nat → Int} {tl : Int} (a b c d : Int) (h0 : 0 ≤ tl) (hbt : byt tF) (hut : u8 tx) (h : ∀ j : Nat, (j : Int) < tl → tF j = bF tx j) :
    byt (wr tF tl ([ush a 24, ush a 16, ush a 8, ush a 0] ++ ([ush b 24, ush b 16, ush b 8, ush b 0] ++ ([ush c 24, ush c 16, ush c 8, ush c 0] ++ [ush d 24, ush d 16, ush d 8, ush d 0])))) ∧ u8 (wI tx tl (b4 a ++ (b4 b ++ (b4 c ++ b4 d)))) ∧
    ∀ j : Nat, (j : Int) < tl + 16 → wr tF tl ([ush a 24, ush a 16, ush a 8, ush a 0] ++ ([ush b 24, ush b 16, ush b 8, ush b 0] ++ ([ush c 24, ush c 16, ush c 8, ush c 0] ++ [ush d 24, ush d 16, ush d 8, ush d 0]))) j = bF (wI tx tl (b4 a ++ (b4 b ++ (b4 c ++ b4 d)))) j := by
  refine ⟨wr_byt _ _ _ hbt, wI_u8 _ _ _ hut (fun x hx => ?_), fun j hj => ?_⟩
  · rcases List.mem_append.mp hx with z | z
    · exact b4_u8 a x z
    rcases List.mem_append.mp z with z | z
    · exact b4_u8 b x z
    rcases List.mem_append.mp z with z | z
    · exact b4_u8 c x z
    · exact b4_u8 d x z
  · rw [wr_wI, bF_wI, List.map_append, List.map_append, List.map_append, List.map_append, List.map_append, List.map_append, fd_map a, fd_map b, fd_map c, fd_map d, wI_get _ _ _ h0, wI_get _ _ _ h0]
    have hl : ((List.map bN (b4 a) ++ (List.map bN (b4 b) ++ (List.map bN (b4 c) ++ List.map bN (b4 d)))).length : Int) = 16 := rfl
    rw [hl]
    by_cases z : (j : Int) < tl
    · rw [if_pos z, if_pos z]; exact h j z
    · rw [if_neg z, if_neg z, if_pos hj, if_pos hj]
/-! characters of what is written -/
def asc (L : List Int) : Prop := ∀ x ∈ L, 0 ≤ x ∧ x ≤ 127
theorem asc_nil : asc [] := fun x hx => by cases hx
theorem asc_app {a b : List Int} (ha : asc a) (hb : asc b) : asc (a ++ b) := fun x hx => (List.mem_append.mp hx).elim (ha x) (hb x)
theorem asc_bl (w : Int) : asc (bl w) := fun x hx => by rw [(List.mem_replicate.mp hx).2]; omega
theorem asc_dec {L : List Int} (h : L.all (fun x => decide (0 ≤ x) && decide (x ≤ 127)) = true) : asc L := fun x hx => by
  have := List.all_eq_true.mp h x hx
  simpa using this
theorem asc_wl : asc (wl "state ") ∧ asc (wl "ask ") ∧ asc (wl "message ") ∧ asc (wl "first ") ∧ asc (wl "never ") ∧ asc (wl "on ") ∧ asc (wl " > ") ∧ asc (wl ", ") ∧ asc (wl " ") ∧ asc (wl "send ") ∧ asc (wl "take") ∧ asc (wl "keep") ∧ asc [59, 10] ∧ asc [58] ∧ asc [32] ∧ asc [10] ∧ asc [45] ∧ asc [63] :=
  ⟨asc_dec (by decide +kernel), asc_dec (by decide +kernel), asc_dec (by decide +kernel), asc_dec (by decide +kernel), asc_dec (by decide +kernel), asc_dec (by decide +kernel), asc_dec (by decide +kernel), asc_dec (by decide +kernel), asc_dec (by decide +kernel), asc_dec (by decide +kernel), asc_dec (by decide +kernel), asc_dec (by decide +kernel), asc_dec (by decide), asc_dec (by decide), asc_dec (by decide), asc_dec (by decide), asc_dec (by decide), asc_dec (by decide)⟩
section AS
variable {nm : Int → List Int} (hn : ∀ s, asc (nm s)) (nn nt ug ua : Nat → Int)
theorem acW_asc (hn : ∀ s, asc (nm s)) (c : Int) : asc (acW nm c) := by
  obtain ⟨w1, w2, w3, w4, w5, w6, w7, w8, w9, w10, w11, w12, -⟩ := asc_wl
  unfold acW
  split
  · exact w11
  split
  · exact w12
  · exact asc_app w10 (hn _)
theorem acL_asc (hn : ∀ s, asc (nm s)) (p : Int) : ∀ (n : Nat) (i : Int), asc (acL nm ua p n i) := by
  obtain ⟨w1, w2, w3, w4, w5, w6, w7, w8, w9, -⟩ := asc_wl
  intro n
  induction n with
  | zero => intro i; exact asc_nil
  | succ n ih =>
    intro i
    unfold acL
    split
    · exact asc_nil
    refine asc_app ?_ (asc_app (acW_asc hn _) (ih _))
    split
    · exact w8
    · exact w9
theorem prL_asc (hn : ∀ s, asc (nm s)) (s e : Int) : asc (prL nm nt ug ua s e) := by
  obtain ⟨w1, w2, w3, w4, w5, w6, w7, w8, w9, w10, w11, w12, w13, w14, w15, -⟩ := asc_wl
  unfold prL
  split
  · exact asc_nil
  split
  · exact asc_app w5 (asc_app (hn _) (asc_app w15 (asc_app (hn _) w13)))
  · exact asc_app w6 (asc_app (hn _) (asc_app w15 (asc_app (hn _) (asc_app w14 (asc_app (acL_asc ua hn _ _ _) (asc_app w7 (asc_app (hn _) w13)))))))
theorem jnL_asc (hn : ∀ s, asc (nm s)) (b : Int) : ∀ (n : Nat) (i : Int), asc (jnL nm b n i) := by
  obtain ⟨w1, w2, w3, w4, w5, w6, w7, w8, -⟩ := asc_wl
  intro n
  induction n with
  | zero => intro i; exact asc_nil
  | succ n ih =>
    intro i
    unfold jnL
    refine asc_app ?_ (asc_app (hn _) (ih _))
    split
    · exact w8
    · exact asc_nil
theorem pnL_asc (hn : ∀ s, asc (nm s)) {t : String} (ht : asc (wl t)) (b n : Int) : asc (pnL nm t b n) := by
  obtain ⟨w1, w2, w3, w4, w5, w6, w7, w8, w9, w10, w11, w12, w13, -⟩ := asc_wl
  unfold pnL
  split
  · exact asc_nil
  · exact asc_app ht (asc_app (jnL_asc hn _ _ _) w13)
theorem peL_asc (hn : ∀ s, asc (nm s)) (s : Int) : ∀ (n : Nat) (e : Int), asc (peL nm nt ug ua s n e) := by
  intro n
  induction n with
  | zero => intro i; exact asc_nil
  | succ n ih => intro i; exact asc_app (prL_asc nt ug ua hn _ _) (ih _)
theorem psL_asc (hn : ∀ s, asc (nm s)) : ∀ (n : Nat) (s : Int), asc (psL nm nt ug ua n s) := by
  intro n
  induction n with
  | zero => intro i; exact asc_nil
  | succ n ih => intro i; exact asc_app (peL_asc nt ug ua hn _ _ _) (ih _)
theorem paL_asc (hn : ∀ s, asc (nm s)) (uf : Int) : asc (paL nm nt ug ua uf) := by
  obtain ⟨w1, w2, w3, w4, w5, w6, w7, w8, w9, w10, w11, w12, w13, -⟩ := asc_wl
  unfold paL
  refine asc_app (pnL_asc hn w1 _ _) (asc_app (pnL_asc hn w2 _ _) (asc_app (pnL_asc hn w3 _ _) (asc_app ?_ (psL_asc nt ug ua hn _ _))))
  split
  · exact asc_nil
  · exact asc_app w4 (asc_app (hn _) w13)
theorem dnL_asc (hn : ∀ s, asc (nm s)) (s w : Int) : asc (dnL nm nn s w) := asc_app (hn s) (asc_bl _)
theorem dgL_asc (hn : ∀ s, asc (nm s)) (g w : Int) : asc (dgL nm nn g w) := by
  obtain ⟨w1, w2, w3, w4, w5, w6, w7, w8, w9, w10, w11, w12, w13, w14, w15, w16, w17, w18⟩ := asc_wl
  unfold dgL
  split
  · exact dnL_asc nn hn g w
  refine asc_app ?_ (asc_bl _)
  split
  · exact w17
  · exact w18
theorem hdL_asc (hn : ∀ s, asc (nm s)) : ∀ (n : Nat) (e : Int), asc (hdL nm nn nt ug n e) := by
  obtain ⟨w1, w2, w3, w4, w5, w6, w7, w8, w9, w10, w11, w12, w13, w14, w15, w16, w17, w18⟩ := asc_wl
  intro n
  induction n with
  | zero => intro i; exact asc_nil
  | succ n ih => intro i; exact asc_app w15 (asc_app (dnL_asc nn hn _ _) (ih _))
theorem stL_asc (hn : ∀ s, asc (nm s)) (s : Int) : ∀ (n : Nat) (e : Int), asc (stL nm nn nt ug s n e) := by
  obtain ⟨w1, w2, w3, w4, w5, w6, w7, w8, w9, w10, w11, w12, w13, w14, w15, w16, w17, w18⟩ := asc_wl
  intro n
  induction n with
  | zero => intro i; exact asc_nil
  | succ n ih => intro i; exact asc_app w15 (asc_app (dgL_asc nn hn _ _) (ih _))
theorem asc_strp {L : List Int} (h : asc L) : asc (strp L) := fun x hx => h x (List.mem_of_mem_take hx)
theorem dwF_asc (hn : ∀ s, asc (nm s)) : ∀ (n : Nat) (s : Int) (L : List Int), asc L → asc (dwF nm nn nt ug n s L) := by
  obtain ⟨w1, w2, w3, w4, w5, w6, w7, w8, w9, w10, w11, w12, w13, w14, w15, w16, w17, w18⟩ := asc_wl
  intro n
  induction n with
  | zero => intro s L h; exact h
  | succ n ih => intro s L h; exact ih _ _ (asc_app (asc_strp (asc_app h (asc_app (dnL_asc nn hn _ _) (stL_asc nn nt ug hn _ _ _)))) w16)
theorem daL_asc (hn : ∀ s, asc (nm s)) : asc (daL nm nn nt ug) := by
  obtain ⟨w1, w2, w3, w4, w5, w6, w7, w8, w9, w10, w11, w12, w13, w14, w15, w16, w17, w18⟩ := asc_wl
  exact dwF_asc nn nt ug hn _ _ _ (asc_app (asc_strp (asc_app asc_nil (asc_app (asc_bl _) (hdL_asc nn nt ug hn _ _)))) w16)
end AS
/-- the page of the class and of the reference -/
def pgT (pF ou : Nat → Int) (pl : Int) : Prop := ∀ j : Nat, (j : Int) < pl → ou j = pF j % 256
theorem asc_get {L : List Int} (h : asc L) (j : Nat) : 0 ≤ L.getD j 0 ∧ L.getD j 0 ≤ 127 := by
  rw [List.getD_eq_getElem?_getD]
  cases hh : L[j]? with
  | none => exact ⟨Int.le_refl _, by decide⟩
  | some x => exact h x (List.mem_of_getElem? hh)
theorem print_tie {pF ou : Nat → Int} {L : List Int} (h : asc L) : pgT (wr pF 0 L) (wI ou 0 L) (0 + (L.length : Int)) := by
  intro j hj
  rw [wr_wI, wI_get _ _ _ (Int.le_refl 0), wI_get _ _ _ (Int.le_refl 0), List.length_map, if_neg (show ¬ (j : Int) < 0 by omega), if_neg (show ¬ (j : Int) < 0 by omega), if_pos hj, if_pos hj]
  have h1 := asc_get h j
  have h2 : (List.map bN L).getD (j - (0 : Int).toNat) 0 = L.getD j 0 := by
    show (List.map bN L).getD j 0 = L.getD j 0
    rw [List.getD_eq_getElem?_getD, List.getD_eq_getElem?_getD, List.getElem?_map]
    have hjl : j < L.length := by omega
    rw [List.getElem?_eq_getElem hjl]
    have := h L[j] (List.getElem_mem hjl)
    exact bN_id (by omega)
  rw [h2]
  show L.getD j 0 = _
  omega
theorem draw_tie {pF ou : Nat → Int} {q q2 : Int} {L : List Int} (h : asc L) (h1 : pgR pF q L) (h2 : pgI ou q2 L) : q = q2 ∧ pgT pF ou q := by
  refine ⟨h1.1.trans h2.1.symm, fun j hj => ?_⟩
  have hjl : j < L.length := by have := h1.1; omega
  rw [h2.2 j hjl, h1.2.1 j hjl]
  have := asc_get h j
  omega
theorem again_tie {pF ou tF tx tx2 : Nat → Int} {pl : Int} (hb : byt pF) (hbt : byt tF) (hut : u8 tx) (h : pgT pF ou pl) (h2 : ∀ j : Nat, tx2 j = if (j : Int) < pl then ou j else tx j) : byt (cpZ pF tF pl) ∧ u8 tx2 ∧ ∀ j : Nat, (j : Int) < pl → cpZ pF tF pl j = bF tx2 j := by
  refine ⟨fun j => ?_, fun j => ?_, fun j hj => ?_⟩
  · unfold cpZ
    split
    · exact hb j
    · exact hbt j
  · rw [h2 j]
    split
    · rename_i z; rw [h j z]; omega
    · exact hut j
  · unfold cpZ bF
    rw [if_pos hj, h2 j, if_pos hj, h j hj, bN_em, bN_id (hb j)]
