def mx (a b : Int) : Int := if a < b then b else a
theorem ml_D_max : Cond.methodLink R_D 56 Lib.Math.max.name ∈ WS := ws_t (List.mem_of_getElem? (i := 397) (by decide +kernel)) (by decide +kernel)
theorem wm_max : Cond.static Lib.Math.max.name ∈ WS := ws_t (List.mem_of_getElem? (i := 398) (by decide +kernel)) (by decide +kernel)
theorem wi_max : Cond.initialized "java/lang/Math" ∈ WS := ws_t (List.mem_of_getElem? (i := 21) (by decide +kernel)) (by decide +kernel)
theorem kc_max : Cond.code Lib.Math.max.name Lib.Math.max.code 2 (some .int) ∈ WS := ws_t (List.mem_of_getElem? (i := 399) (by decide +kernel)) (by decide +kernel)
theorem iI_mx {a b : Int} (ha : -2147483648 ≤ a ∧ a ≤ 2147483647) (hb : -2147483648 ≤ b ∧ b ≤ 2147483647) : (if iI a < iI b then iI b else iI a) = iI (mx a b) := by
  unfold mx
  by_cases h : a < b
  · rw [if_pos h, if_pos ((iI_lt ha hb).mpr h)]
  · rw [if_neg h, if_neg (fun z => h ((iI_lt ha hb).mp z))]
theorem z_mmax {G : GG} {X : XX} {cc : ByteArray} {nL : Nat} {own : String} {rm : Room} {ws : va_W} {lv : List (Nat × Value)} {pc : Nat} {st : List Value} {a b : Int} {idx : Nat} (C : Cx G X cc nL own rm) (hlink : Cond.methodLink own idx Lib.Math.max.name ∈ WS) (d : decode cc pc = .ok (.invokestatic idx, 3)) (ha : -2147483648 ≤ a ∧ a ≤ 2147483647) (hb2 : -2147483648 ≤ b ∧ b ≤ 2147483647)
    (hcat : (st.map fun v => v.category).sum ≤ 8) (hroom : 1 ≤ rm.frames ∧ 21 ≤ rm.locals) (kk : Zc G X nL 0 0 ws lv (pc + 3) (.int (iI (mx a b)) :: st)) : Zc G X nL 0 0 ws lv pc (.int (iI b) :: .int (iI a) :: st) := by
  obtain ⟨p, l, e, R, s, m, args, below, meth, c, Q, A⟩ := X
  intro H locs ls hP hD hS hl
  obtain ⟨hx, hb, hml, hown, hts, hK, hA, hSx, hR⟩ := C
  subst hR
  refine va_mmax hx hb (by rw [hml]; exact hl.1.symm) hown (hts _ hlink) (hts _ wm_max) (hts _ wi_max) (hts _ kc_max) hroom.1 (by omega) (Nat.zero_le _) (Nat.zero_le _) d ?_
  rw [iI_mx ha hb2]
  exact kk H locs ls hP hD hS hl
/-- what is drawn -/
def wdS (nn nt ug : Nat → Int) (e : Int) : Nat → Int → Int → Int
  | 0, _, w => w
  | n + 1, s, w => wdS nn nt ug e n (s + 1) (if 0 ≤ ug (prf nt s e).toNat then mx w (nn (ug (prf nt s e).toNat).toNat) else w)
def wdE (nn nt ug : Nat → Int) (e : Int) : Int := wdS nn nt ug e (nt 0).toNat 0 (mx 1 (nn (evs (nt 1) e).toNat))
def fwS (nn : Nat → Int) : Nat → Int → Int → Int
  | 0, _, w => w
  | n + 1, s, w => fwS nn n (s + 1) (mx w (nn s.toNat))
def fwd (nn nt : Nat → Int) : Int := fwS nn (nt 0).toNat 0 0
theorem wdS_step (nn nt ug : Nat → Int) (e : Int) {s n : Int} (w : Int) (h : s < n) : wdS nn nt ug e (n - s).toNat s w = wdS nn nt ug e (n - (s + 1)).toNat (s + 1) (if 0 ≤ ug (prf nt s e).toNat then mx w (nn (ug (prf nt s e).toNat).toNat) else w) := by
  rw [show (n - s).toNat = (n - (s + 1)).toNat + 1 by omega]
  rfl
theorem fwS_step (nn : Nat → Int) {s n : Int} (w : Int) (h : s < n) : fwS nn (n - s).toNat s w = fwS nn (n - (s + 1)).toNat (s + 1) (mx w (nn s.toNat)) := by
  rw [show (n - s).toNat = (n - (s + 1)).toNat + 1 by omega]
  rfl
theorem mx_rg {a b l h : Int} (ha : l ≤ a ∧ a ≤ h) (hb : l ≤ b ∧ b ≤ h) : l ≤ mx a b ∧ mx a b ≤ h := by unfold mx; split <;> omega
theorem wdS_rg {nn : Nat → Int} (hn : ∀ j, 0 ≤ nn j ∧ nn j ≤ 12) (nt ug : Nat → Int) (e : Int) : ∀ (n : Nat) (s w : Int), 1 ≤ w ∧ w ≤ 12 → 1 ≤ wdS nn nt ug e n s w ∧ wdS nn nt ug e n s w ≤ 12 := by
  intro n
  induction n with
  | zero => intro s w h; exact h
  | succ n ih =>
    intro s w h
    unfold wdS
    refine ih _ _ ?_
    have := hn (ug (prf nt s e).toNat).toNat
    unfold mx
    (repeat' split) <;> omega
theorem wdE_rg {nn : Nat → Int} (hn : ∀ j, 0 ≤ nn j ∧ nn j ≤ 12) (nt ug : Nat → Int) (e : Int) : 1 ≤ wdE nn nt ug e ∧ wdE nn nt ug e ≤ 12 := wdS_rg hn nt ug e _ _ _ (by have := hn (evs (nt 1) e).toNat; unfold mx; split <;> omega)
theorem fwS_rg {nn : Nat → Int} (hn : ∀ j, 0 ≤ nn j ∧ nn j ≤ 12) : ∀ (n : Nat) (s w : Int), 0 ≤ w ∧ w ≤ 12 → 0 ≤ fwS nn n s w ∧ fwS nn n s w ≤ 12 := by
  intro n
  induction n with
  | zero => intro s w h; exact h
  | succ n ih =>
    intro s w h
    unfold fwS
    exact ih _ _ (mx_rg h (hn s.toNat))
theorem fwd_rg {nn : Nat → Int} (hn : ∀ j, 0 ≤ nn j ∧ nn j ≤ 12) (nt : Nat → Int) : 0 ≤ fwd nn nt ∧ fwd nn nt ≤ 12 := fwS_rg hn _ _ _ (by omega)
def bl (w : Int) : List Int := List.replicate w.toNat 32
section DR
variable (nm : Int → List Int) (nn nt ug : Nat → Int)
def dnL (s w : Int) : List Int := nm s ++ bl (w - nn s.toNat)
def dgL (g w : Int) : List Int := if 0 ≤ g then dnL nm nn g w else [if g = -2 then 45 else 63] ++ bl (w - 1)
def hdL : Nat → Int → List Int
  | 0, _ => []
  | n + 1, e => [32] ++ (dnL nm nn (evs (nt 1) e) (wdE nn nt ug e) ++ hdL n (e + 1))
def stL (s : Int) : Nat → Int → List Int
  | 0, _ => []
  | n + 1, e => [32] ++ (dgL nm nn (ug (prf nt s e).toNat) (wdE nn nt ug e) ++ stL s n (e + 1))
theorem hdL_step {e n : Int} (h : e < n) : hdL nm nn nt ug (n - e).toNat e = [32] ++ (dnL nm nn (evs (nt 1) e) (wdE nn nt ug e) ++ hdL nm nn nt ug (n - (e + 1)).toNat (e + 1)) := by
  rw [show (n - e).toNat = (n - (e + 1)).toNat + 1 by omega]
  rfl
theorem stL_step (s : Int) {e n : Int} (h : e < n) : stL nm nn nt ug s (n - e).toNat e = [32] ++ (dgL nm nn (ug (prf nt s e).toNat) (wdE nn nt ug e) ++ stL nm nn nt ug s (n - (e + 1)).toNat (e + 1)) := by
  rw [show (n - e).toNat = (n - (e + 1)).toNat + 1 by omega]
  rfl
/-- a line before its blanks are dropped -/
def lnH : List Int := bl (fwd nn nt) ++ hdL nm nn nt ug (nt 1 + nt 2).toNat 0
def lnS (s : Int) : List Int := dnL nm nn s (fwd nn nt) ++ stL nm nn nt ug s (nt 1 + nt 2).toNat 0
end DR
def pgR (E : Nat → Int) (q : Int) (L : List Int) : Prop := q = (L.length : Int) ∧ (∀ j, j < L.length → E j = L.getD j 0) ∧ ∀ x ∈ L, -128 ≤ x ∧ x ≤ 127
def strp (L : List Int) : List Int := L.take (drB (fun j => L.getD j 0) L.length)
theorem drB_le (F : Nat → Int) : ∀ n, drB F n ≤ n := by
  intro n
  induction n with
  | zero => exact Nat.le_refl _
  | succ n ih => rw [drB_s]; split <;> omega
theorem drB_congr {F E : Nat → Int} : ∀ n, (∀ j, j < n → F j = E j) → drB F n = drB E n := by
  intro n
  induction n with
  | zero => intro _; rfl
  | succ n ih => intro h; rw [drB_s, drB_s, h n (by omega), ih (fun j hj => h j (by omega))]
theorem wr_get (A : List Int) : ∀ (E : Nat → Int) (q : Int), 0 ≤ q → ∀ j : Nat, wr E q A j = if (j : Int) < q then E j else if (j : Int) < q + A.length then bN (A.getD (j - q.toNat) 0) else E j := by
  induction A with
  | nil => intro E q hq j; show E j = _; rw [List.length_nil]; (repeat' split) <;> first | rfl | (exfalso; omega)
  | cons x A ih =>
    intro E q hq j
    show wr (uZ E q.toNat (bN x)) (q + 1) A j = _
    rw [ih _ _ (by omega), List.length_cons]
    by_cases h1 : (j : Int) < q
    · rw [if_pos (by omega), if_pos h1, uZ_n (by omega)]
    · rw [if_neg h1]
      by_cases h2 : (j : Int) = q
      · rw [if_pos (by omega), if_pos (by omega), show j = q.toNat by omega, uZ_s, Nat.sub_self]
        rfl
      · rw [if_neg (by omega)]
        by_cases h3 : (j : Int) < q + 1 + A.length
        · rw [if_pos h3, if_pos (by omega), show j - q.toNat = (j - (q + 1).toNat) + 1 by omega]
          rfl
        · rw [if_neg h3, if_neg (by omega), uZ_n (by omega)]
theorem pgR_wr {E : Nat → Int} {q : Int} {L A : List Int} (h : pgR E q L) (hA : ∀ x ∈ A, -128 ≤ x ∧ x ≤ 127) : pgR (wr E q A) (q + (A.length : Int)) (L ++ A) := by
  obtain ⟨h1, h2, h3⟩ := h
  refine ⟨by rw [List.length_append]; omega, fun j hj => ?_, fun x hx => (List.mem_append.mp hx).elim (h3 x) (hA x)⟩
  rw [List.length_append] at hj
  rw [wr_get A E q (by omega) j]
  by_cases h4 : j < L.length
  · rw [if_pos (by omega), h2 j h4, List.getD_eq_getElem?_getD, List.getD_eq_getElem?_getD, List.getElem?_append_left h4]
  · rw [if_neg (by omega), if_pos (by omega), show j - q.toNat = j - L.length by omega, List.getD_eq_getElem?_getD, List.getD_eq_getElem?_getD, List.getElem?_append_right (by omega)]
    refine bN_id ?_
    have hk : j - L.length < A.length := by omega
    rw [List.getElem?_eq_getElem hk]
    exact hA _ (List.getElem_mem hk)
theorem pgR_byt {E : Nat → Int} {q : Int} {L : List Int} (h : pgR E q L) : 0 ≤ q := by rw [h.1]; omega
theorem pgR_drop {E : Nat → Int} {q : Int} {L : List Int} (h : pgR E q L) : pgR E (drB E q.toNat : Int) (strp L) := by
  obtain ⟨h1, h2, h3⟩ := h
  have e1 : drB E q.toNat = drB (fun j => L.getD j 0) L.length := by rw [show q.toNat = L.length by omega]; exact drB_congr _ h2
  have e2 := drB_le (fun j => L.getD j 0) L.length
  unfold strp
  refine ⟨by rw [e1, List.length_take]; omega, fun j hj => ?_, fun x hx => h3 x (List.mem_of_mem_take hx)⟩
  rw [List.length_take] at hj
  rw [h2 j (by omega), List.getD_eq_getElem?_getD, List.getD_eq_getElem?_getD, List.getElem?_take_of_lt (by omega)]
theorem wr_byt (A : List Int) : ∀ (E : Nat → Int) (q : Int), byt E → byt (wr E q A) := by
  induction A with
  | nil => intro E q h; exact h
  | cons x A ih => intro E q h; exact ih _ _ (uZ_byt h (bN_rg x))
def byL (L : List Int) : Prop := ∀ x ∈ L, -128 ≤ x ∧ x ≤ 127
theorem byL_app {a b : List Int} (ha : byL a) (hb : byL b) : byL (a ++ b) := fun x hx => (List.mem_append.mp hx).elim (ha x) (hb x)
theorem byL_bl (w : Int) : byL (bl w) := fun x hx => by rw [(List.mem_replicate.mp hx).2]; omega
theorem byL_1 {v : Int} (h : -128 ≤ v ∧ v ≤ 127) : byL [v] := fun x hx => by rw [List.mem_singleton.mp hx]; exact h
theorem byL_seg {F : Nat → Int} (h : byt F) : ∀ k a, byL (seg F a k) := by
  intro k
  induction k with
  | zero => intro a x hx; cases hx
  | succ k ih =>
    intro a x hx
    rcases List.mem_cons.mp hx with e | e
    · rw [e]; exact h a
    · exact ih (a + 1) x e
theorem byL_nmC {nl : Nat → Int} (h : byt nl) (nn : Nat → Int) (s : Int) : byL (nmC nl nn s) := byL_seg h _ _
section DL
variable {nl nn nt ug : Nat → Int}
theorem dnL_byL (h : byt nl) (s w : Int) : byL (dnL (nmC nl nn) nn s w) := byL_app (byL_nmC h nn s) (byL_bl _)
theorem dgL_byL (h : byt nl) (g w : Int) : byL (dgL (nmC nl nn) nn g w) := by
  unfold dgL
  split
  · exact dnL_byL h g w
  · exact byL_app (byL_1 (by split <;> omega)) (byL_bl _)
theorem hdL_byL (h : byt nl) : ∀ n e, byL (hdL (nmC nl nn) nn nt ug n e) := by
  intro n
  induction n with
  | zero => intro e x hx; cases hx
  | succ n ih => intro e; exact byL_app (byL_1 (by omega)) (byL_app (dnL_byL h _ _) (ih _))
theorem stL_byL (h : byt nl) (s : Int) : ∀ n e, byL (stL (nmC nl nn) nn nt ug s n e) := by
  intro n
  induction n with
  | zero => intro e x hx; cases hx
  | succ n ih => intro e; exact byL_app (byL_1 (by omega)) (byL_app (dgL_byL h _ _) (ih _))
theorem dnL_len (hn : ∀ j, 0 ≤ nn j ∧ nn j ≤ 12) (s : Int) {w : Int} (hw : nn s.toNat ≤ w) : ((dnL (nmC nl nn) nn s w).length : Int) = w := by
  unfold dnL bl
  rw [List.length_append, List.length_replicate]
  have := nmC_len (nl := nl) (s := s) (hn s.toNat).1
  have := hn s.toNat
  omega
theorem wdS_ge (nn nt ug : Nat → Int) (e : Int) : ∀ (n : Nat) (s w : Int), w ≤ wdS nn nt ug e n s w := by
  intro n
  induction n with
  | zero => intro s w; exact Int.le_refl _
  | succ n ih =>
    intro s w
    unfold wdS
    refine Int.le_trans ?_ (ih _ _)
    unfold mx
    (repeat' split) <;> omega
theorem wdE_ev (nn nt ug : Nat → Int) (e : Int) : nn (evs (nt 1) e).toNat ≤ wdE nn nt ug e := Int.le_trans (by unfold mx; split <;> omega) (wdS_ge nn nt ug e _ _ _)
theorem wdS_go {nn nt ug : Nat → Int} {e : Int} : ∀ (n : Nat) (s w x : Int), s ≤ x → x < s + n → 0 ≤ ug (prf nt x e).toNat → nn (ug (prf nt x e).toNat).toNat ≤ wdS nn nt ug e n s w := by
  intro n
  induction n with
  | zero => intro s w x h1 h2 _; exfalso; omega
  | succ n ih =>
    intro s w x h1 h2 h3
    unfold wdS
    by_cases h : x = s
    · subst h
      refine Int.le_trans ?_ (wdS_ge nn nt ug e _ _ _)
      rw [if_pos h3]
      unfold mx
      split <;> omega
    · exact ih _ _ x (by omega) (by omega) h3
theorem wdE_go {nn nt ug : Nat → Int} {e x : Int} (h : 0 ≤ x ∧ x < nt 0) (h3 : 0 ≤ ug (prf nt x e).toNat) : nn (ug (prf nt x e).toNat).toNat ≤ wdE nn nt ug e := wdS_go _ _ _ x h.1 (by omega) h3
theorem fwS_go {nn : Nat → Int} : ∀ (n : Nat) (s w : Int), w ≤ fwS nn n s w ∧ ∀ x, s ≤ x → x < s + n → nn x.toNat ≤ fwS nn n s w := by
  intro n
  induction n with
  | zero => intro s w; exact ⟨Int.le_refl _, fun x h1 h2 => by exfalso; omega⟩
  | succ n ih =>
    intro s w
    unfold fwS
    have h := ih (s + 1) (mx w (nn s.toNat))
    have hm : w ≤ mx w (nn s.toNat) ∧ nn s.toNat ≤ mx w (nn s.toNat) := by unfold mx; split <;> omega
    refine ⟨by omega, fun x h1 h2 => ?_⟩
    by_cases e : x = s
    · subst e; omega
    · exact h.2 x (by omega) (by omega)
theorem fwd_go {nn nt : Nat → Int} {x : Int} (h : 0 ≤ x ∧ x < nt 0) : nn x.toNat ≤ fwd nn nt := (fwS_go _ _ _).2 x h.1 (by omega)
theorem hdL_len (hn : ∀ j, 0 ≤ nn j ∧ nn j ≤ 12) : ∀ n e, ((hdL (nmC nl nn) nn nt ug n e).length : Int) ≤ 13 * n := by
  intro n
  induction n with
  | zero => intro e; exact Int.le_refl _
  | succ n ih =>
    intro e
    have h1 := dnL_len (nl := nl) hn (evs (nt 1) e) (wdE_ev nn nt ug e)
    have h2 := wdE_rg hn nt ug e
    have h3 := ih (e + 1)
    unfold hdL
    rw [List.length_append, List.length_append, List.length_singleton]
    omega
theorem dgL_len (hn : ∀ j, 0 ≤ nn j ∧ nn j ≤ 12) {s e : Int} (hs : 0 ≤ s ∧ s < nt 0) : ((dgL (nmC nl nn) nn (ug (prf nt s e).toNat) (wdE nn nt ug e)).length : Int) = wdE nn nt ug e := by
  have h2 := wdE_rg hn nt ug e
  unfold dgL
  split
  · rename_i h
    exact dnL_len hn _ (wdE_go hs h)
  · unfold bl
    rw [List.length_append, List.length_singleton, List.length_replicate]
    omega
theorem stL_len (hn : ∀ j, 0 ≤ nn j ∧ nn j ≤ 12) {s : Int} (hs : 0 ≤ s ∧ s < nt 0) : ∀ n e, ((stL (nmC nl nn) nn nt ug s n e).length : Int) ≤ 13 * n := by
  intro n
  induction n with
  | zero => intro e; exact Int.le_refl _
  | succ n ih =>
    intro e
    have h1 := dgL_len (nl := nl) (ug := ug) hn (e := e) hs
    have h2 := wdE_rg hn nt ug e
    have h3 := ih (e + 1)
    unfold stL
    rw [List.length_append, List.length_append, List.length_singleton]
    omega
theorem lnH_ok (hn : ∀ j, 0 ≤ nn j ∧ nn j ≤ 12) (hc : cnt nt) (hb : byt nl) : ((lnH (nmC nl nn) nn nt ug).length : Int) ≤ 324 ∧ byL (lnH (nmC nl nn) nn nt ug) := by
  refine ⟨?_, byL_app (byL_bl _) (hdL_byL hb _ _)⟩
  have h1 := hdL_len (nl := nl) (nt := nt) (ug := ug) hn (nt 1 + nt 2).toNat 0
  have h2 := fwd_rg hn nt
  unfold cnt at hc
  unfold lnH bl
  rw [List.length_append, List.length_replicate]
  omega
theorem lnS_ok (hn : ∀ j, 0 ≤ nn j ∧ nn j ≤ 12) (hc : cnt nt) (hb : byt nl) {s : Int} (hs : 0 ≤ s ∧ s < nt 0) : ((lnS (nmC nl nn) nn nt ug s).length : Int) ≤ 324 ∧ byL (lnS (nmC nl nn) nn nt ug s) := by
  refine ⟨?_, byL_app (dnL_byL hb _ _) (stL_byL hb _ _ _)⟩
  have h1 := stL_len (nl := nl) (ug := ug) hn hs (nt 1 + nt 2).toNat 0
  have h2 := fwd_rg hn nt
  have h3 := dnL_len (nl := nl) hn s (fwd_go hs)
  unfold cnt at hc
  unfold lnS
  rw [List.length_append]
  omega
end DL
def dwF (nm : Int → List Int) (nn nt ug : Nat → Int) : Nat → Int → List Int → List Int
  | 0, _, L => L
  | n + 1, s, L => dwF nm nn nt ug n (s + 1) (strp (L ++ lnS nm nn nt ug s) ++ [10])
def daL (nm : Int → List Int) (nn nt ug : Nat → Int) : List Int := dwF nm nn nt ug (nt 0).toNat 0 (strp ([] ++ lnH nm nn nt ug) ++ [10])
theorem dwF_step (nm : Int → List Int) (nn nt ug : Nat → Int) {s n : Int} (L : List Int) (h : s < n) : dwF nm nn nt ug (n - s).toNat s L = dwF nm nn nt ug (n - (s + 1)).toNat (s + 1) (strp (L ++ lnS nm nn nt ug s) ++ [10]) := by
  rw [show (n - s).toNat = (n - (s + 1)).toNat + 1 by omega]
  rfl
