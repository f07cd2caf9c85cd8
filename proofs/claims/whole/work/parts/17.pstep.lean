def ffl (N : NL) (k : Int) (w : List Int) (a b : Int) : Int := if ¬ k = 6 then 2 else if fdI w N = -1 then 5 else if ¬ sor N (fdI w N).toNat = a ∧ ¬ sor N (fdI w N).toNat = b then 6 else 0
theorem ffl_0 {N : NL} {k : Int} {w : List Int} {a b : Int} (h : ffl N k w a b = 0) : k = 6 ∧ ¬ fdI w N = -1 ∧ (sor N (fdI w N).toNat = a ∨ sor N (fdI w N).toNat = b) := by
  unfold ffl at h
  (repeat' split at h) <;> first | (exfalso; omega) | (refine ⟨by omega, by assumption, by omega⟩)
/-- where a reading stands: phase, sort, never, state, pair, actions told; names, goals, actions, rules, nevers, first -/
abbrev Cf : Type := Int × Int × Int × Int × Int × Int × NL × (Nat → Int) × (Nat → Int) × Int × Int × Int
def fuN (N : NL) (s : Int) : Int := ful (fun j => cN j N) s
def acp (k : Int) (c : Cf) : Int × Cf := match c with
  | (ph, so, nv, st, pr, ac, N, ug, ua, ur, uv, uf) => if ¬ k = 13 ∧ ¬ k = 14 ∧ ¬ k = 15 then (2, c) else if 4 ≤ ac then (3, c) else if k = 13 then (0, (8, so, nv, st, pr, ac, N, ug, ua, ur, uv, uf)) else (0, (9, so, nv, st, pr, ac + 1, N, ug, uZ ua (pr * 4 + ac).toNat (if k = 14 then 100 else 101), ur, uv, uf))
def stp (c : Cf) (k : Int) (w : List Int) : Int × Cf := match c with
  | (ph, so, nv, st, pr, ac, N, ug, ua, ur, uv, uf) =>
    if ph = 0 then (if 7 ≤ k ∧ k ≤ 9 then (0, (1, k - 7, nv, st, pr, ac, N, ug, ua, ur, uv, uf)) else if k = 10 ∨ k = 11 then (0, (3, so, k - 10, st, pr, 0, N, ug, ua, ur, uv, uf)) else if k = 12 then (0, (11, so, nv, st, pr, ac, N, ug, ua, ur, uv, uf)) else if k = 0 then (0, c) else (2, c))
    else if ph = 1 then (if ¬ k = 6 then (2, c) else if fuN N so = 1 then (3, c) else if ¬ fdI w N = -1 then (4, c) else (0, (2, so, nv, st, pr, ac, N ++ [(so, w)], ug, ua, ur, uv, uf)))
    else if ph = 2 then (if k = 4 then (0, (1, so, nv, st, pr, ac, N, ug, ua, ur, uv, uf)) else if k = 3 then (0, (0, so, nv, st, pr, ac, N, ug, ua, ur, uv, uf)) else (2, c))
    else if ph = 3 then (if ¬ ffl N k w 0 0 = 0 then (ffl N k w 0 0, c) else (0, (4, so, nv, nub N (fdI w N).toNat, pr, ac, N, ug, ua, ur, uv, uf)))
    else if ph = 4 then (if ¬ ffl N k w 1 2 = 0 then (ffl N k w 1 2, c) else if ¬ ug (st * 24 + slt N (fdI w N).toNat - 16).toNat = -1 then (7, c) else if nv = 0 then (0, (5, so, nv, st, st * 24 + slt N (fdI w N).toNat - 16, ac, N, ug, ua, ur, uv, uf)) else (0, (12, so, nv, st, st * 24 + slt N (fdI w N).toNat - 16, ac, N, uZ ug (st * 24 + slt N (fdI w N).toNat - 16).toNat (-2), ua, ur, uv + 1, uf)))
    else if ph = 5 then (if k = 2 then (0, (6, so, nv, st, pr, ac, N, ug, ua, ur, uv, uf)) else (2, c))
    else if ph = 6 then (if k = 5 then (0, (10, so, nv, st, pr, ac, N, ug, ua, ur, uv, uf)) else acp k c)
    else if ph = 7 then acp k c
    else if ph = 8 then (if ¬ ffl N k w 2 2 = 0 then (ffl N k w 2 2, c) else (0, (9, so, nv, st, pr, ac + 1, N, ug, uZ ua (pr * 4 + ac).toNat (nub N (fdI w N).toNat), ur, uv, uf)))
    else if ph = 9 then (if k = 4 then (0, (7, so, nv, st, pr, ac, N, ug, ua, ur, uv, uf)) else if k = 5 then (0, (10, so, nv, st, pr, ac, N, ug, ua, ur, uv, uf)) else (2, c))
    else if ph = 10 then (if ¬ ffl N k w 0 0 = 0 then (ffl N k w 0 0, c) else (0, (12, so, nv, st, pr, ac, N, uZ ug pr.toNat (nub N (fdI w N).toNat), ua, ur + 1, uv, uf)))
    else if ph = 11 then (if ¬ ffl N k w 0 0 = 0 then (ffl N k w 0 0, c) else (0, (12, so, nv, st, pr, ac, N, ug, ua, ur, uv, nub N (fdI w N).toNat)))
    else (if k = 3 then (0, (0, so, nv, st, pr, ac, N, ug, ua, ur, uv, uf)) else (2, c))
/-- what the rows hold at any time -/
def rpI (nl nn nt ug ua : Nat → Int) : Prop := byt nl ∧ (∀ j, 0 ≤ nn j ∧ nn j ≤ 12) ∧ cnt nt ∧ gol ug ∧ act ua
def cfI (ph so nv sl st pr ac uf : Int) : Prop := 0 ≤ ph ∧ ph ≤ 12 ∧ (so = 0 ∨ so = 1 ∨ so = 2) ∧ (nv = 0 ∨ nv = 1) ∧ -1 ≤ sl ∧ sl < 40 ∧ 0 ≤ st ∧ st < 16 ∧ 0 ≤ pr ∧ pr < 384 ∧ 0 ≤ ac ∧ ac ≤ 4 ∧ (ph = 8 → ac < 4) ∧ -1 ≤ uf ∧ uf < 16
theorem NamR_ful {nl nn nt : Nat → Int} {N : NL} (h : NamR nl nn nt N) (s : Int) : ful nt s = fuN N s := by
  unfold fuN ful
  rw [h.2.1.1, h.2.1.2.1, h.2.1.2.2]
  rfl
theorem ful_01 (nt : Nat → Int) (s : Int) : ful nt s = 0 ∨ ful nt s = 1 := by unfold ful; split <;> omega
theorem NamR_sbl {nl nn nt : Nat → Int} {N : NL} (h : NamR nl nn nt N) {so : Int} (hs : so = 0 ∨ so = 1 ∨ so = 2) (hf : ¬ ful nt so = 1) : 0 ≤ sbl nt so ∧ sbl nt so < 40 := by
  have hc := h.2.2.1
  unfold cnt at hc
  have hnf : ¬ ((so = 0 ∧ 16 ≤ nt 0) ∨ (so = 1 ∧ 8 ≤ nt 1) ∨ (so = 2 ∧ 16 ≤ nt 2)) := fun z => hf (by unfold ful; rw [if_pos z])
  unfold sbl
  rcases hs with rfl | rfl | rfl <;> simp <;> omega
theorem uZ_gol {F : Nat → Int} {k : Nat} {v : Int} (h : gol F) (hv : -2 ≤ v ∧ v ≤ 15) : gol (uZ F k v) := fun j => by
  unfold uZ
  split
  · exact hv
  · exact h j
theorem uZ_act {F : Nat → Int} {k : Nat} {v : Int} (h : act F) (hv : -1 ≤ v ∧ v ≤ 101) : act (uZ F k v) := fun j => by
  unfold uZ
  split
  · exact hv
  · exact h j
theorem uZ_12 {F : Nat → Int} {k : Nat} {v : Int} (h : ∀ j, 0 ≤ F j ∧ F j ≤ 12) (hv : 0 ≤ v ∧ v ≤ 12) : ∀ j, 0 ≤ uZ F k v j ∧ uZ F k v j ≤ 12 := fun j => by
  unfold uZ
  split
  · exact hv
  · exact h j
theorem stp_0 (so nv st pr ac : Int) (N : NL) (ug ua : Nat → Int) (ur uv uf k : Int) (w : List Int) : stp (0, so, nv, st, pr, ac, N, ug, ua, ur, uv, uf) k w = (if 7 ≤ k ∧ k ≤ 9 then (0, (1, k - 7, nv, st, pr, ac, N, ug, ua, ur, uv, uf)) else if k = 10 ∨ k = 11 then (0, (3, so, k - 10, st, pr, 0, N, ug, ua, ur, uv, uf)) else if k = 12 then (0, (11, so, nv, st, pr, ac, N, ug, ua, ur, uv, uf)) else if k = 0 then (0, (0, so, nv, st, pr, ac, N, ug, ua, ur, uv, uf)) else (2, (0, so, nv, st, pr, ac, N, ug, ua, ur, uv, uf))) := rfl
theorem stp_1 (so nv st pr ac : Int) (N : NL) (ug ua : Nat → Int) (ur uv uf k : Int) (w : List Int) : stp (1, so, nv, st, pr, ac, N, ug, ua, ur, uv, uf) k w = (if ¬ k = 6 then (2, (1, so, nv, st, pr, ac, N, ug, ua, ur, uv, uf)) else if fuN N so = 1 then (3, (1, so, nv, st, pr, ac, N, ug, ua, ur, uv, uf)) else if ¬ fdI w N = -1 then (4, (1, so, nv, st, pr, ac, N, ug, ua, ur, uv, uf)) else (0, (2, so, nv, st, pr, ac, N ++ [(so, w)], ug, ua, ur, uv, uf))) := rfl
theorem stp_2 (so nv st pr ac : Int) (N : NL) (ug ua : Nat → Int) (ur uv uf k : Int) (w : List Int) : stp (2, so, nv, st, pr, ac, N, ug, ua, ur, uv, uf) k w = (if k = 4 then (0, (1, so, nv, st, pr, ac, N, ug, ua, ur, uv, uf)) else if k = 3 then (0, (0, so, nv, st, pr, ac, N, ug, ua, ur, uv, uf)) else (2, (2, so, nv, st, pr, ac, N, ug, ua, ur, uv, uf))) := rfl
theorem stp_3 (so nv st pr ac : Int) (N : NL) (ug ua : Nat → Int) (ur uv uf k : Int) (w : List Int) : stp (3, so, nv, st, pr, ac, N, ug, ua, ur, uv, uf) k w = (if ¬ ffl N k w 0 0 = 0 then (ffl N k w 0 0, (3, so, nv, st, pr, ac, N, ug, ua, ur, uv, uf)) else (0, (4, so, nv, nub N (fdI w N).toNat, pr, ac, N, ug, ua, ur, uv, uf))) := rfl
theorem stp_4 (so nv st pr ac : Int) (N : NL) (ug ua : Nat → Int) (ur uv uf k : Int) (w : List Int) : stp (4, so, nv, st, pr, ac, N, ug, ua, ur, uv, uf) k w = (if ¬ ffl N k w 1 2 = 0 then (ffl N k w 1 2, (4, so, nv, st, pr, ac, N, ug, ua, ur, uv, uf)) else if ¬ ug (st * 24 + slt N (fdI w N).toNat - 16).toNat = -1 then (7, (4, so, nv, st, pr, ac, N, ug, ua, ur, uv, uf)) else if nv = 0 then (0, (5, so, nv, st, st * 24 + slt N (fdI w N).toNat - 16, ac, N, ug, ua, ur, uv, uf)) else (0, (12, so, nv, st, st * 24 + slt N (fdI w N).toNat - 16, ac, N, uZ ug (st * 24 + slt N (fdI w N).toNat - 16).toNat (-2), ua, ur, uv + 1, uf))) := rfl
theorem stp_5 (so nv st pr ac : Int) (N : NL) (ug ua : Nat → Int) (ur uv uf k : Int) (w : List Int) : stp (5, so, nv, st, pr, ac, N, ug, ua, ur, uv, uf) k w = (if k = 2 then (0, (6, so, nv, st, pr, ac, N, ug, ua, ur, uv, uf)) else (2, (5, so, nv, st, pr, ac, N, ug, ua, ur, uv, uf))) := rfl
theorem stp_6 (so nv st pr ac : Int) (N : NL) (ug ua : Nat → Int) (ur uv uf k : Int) (w : List Int) : stp (6, so, nv, st, pr, ac, N, ug, ua, ur, uv, uf) k w = (if k = 5 then (0, (10, so, nv, st, pr, ac, N, ug, ua, ur, uv, uf)) else acp k (6, so, nv, st, pr, ac, N, ug, ua, ur, uv, uf)) := rfl
theorem stp_7 (so nv st pr ac : Int) (N : NL) (ug ua : Nat → Int) (ur uv uf k : Int) (w : List Int) : stp (7, so, nv, st, pr, ac, N, ug, ua, ur, uv, uf) k w = acp k (7, so, nv, st, pr, ac, N, ug, ua, ur, uv, uf) := rfl
theorem stp_8 (so nv st pr ac : Int) (N : NL) (ug ua : Nat → Int) (ur uv uf k : Int) (w : List Int) : stp (8, so, nv, st, pr, ac, N, ug, ua, ur, uv, uf) k w = (if ¬ ffl N k w 2 2 = 0 then (ffl N k w 2 2, (8, so, nv, st, pr, ac, N, ug, ua, ur, uv, uf)) else (0, (9, so, nv, st, pr, ac + 1, N, ug, uZ ua (pr * 4 + ac).toNat (nub N (fdI w N).toNat), ur, uv, uf))) := rfl
theorem stp_9 (so nv st pr ac : Int) (N : NL) (ug ua : Nat → Int) (ur uv uf k : Int) (w : List Int) : stp (9, so, nv, st, pr, ac, N, ug, ua, ur, uv, uf) k w = (if k = 4 then (0, (7, so, nv, st, pr, ac, N, ug, ua, ur, uv, uf)) else if k = 5 then (0, (10, so, nv, st, pr, ac, N, ug, ua, ur, uv, uf)) else (2, (9, so, nv, st, pr, ac, N, ug, ua, ur, uv, uf))) := rfl
theorem stp_10 (so nv st pr ac : Int) (N : NL) (ug ua : Nat → Int) (ur uv uf k : Int) (w : List Int) : stp (10, so, nv, st, pr, ac, N, ug, ua, ur, uv, uf) k w = (if ¬ ffl N k w 0 0 = 0 then (ffl N k w 0 0, (10, so, nv, st, pr, ac, N, ug, ua, ur, uv, uf)) else (0, (12, so, nv, st, pr, ac, N, uZ ug pr.toNat (nub N (fdI w N).toNat), ua, ur + 1, uv, uf))) := rfl
theorem stp_11 (so nv st pr ac : Int) (N : NL) (ug ua : Nat → Int) (ur uv uf k : Int) (w : List Int) : stp (11, so, nv, st, pr, ac, N, ug, ua, ur, uv, uf) k w = (if ¬ ffl N k w 0 0 = 0 then (ffl N k w 0 0, (11, so, nv, st, pr, ac, N, ug, ua, ur, uv, uf)) else (0, (12, so, nv, st, pr, ac, N, ug, ua, ur, uv, nub N (fdI w N).toNat))) := rfl
theorem stp_12 (so nv st pr ac : Int) (N : NL) (ug ua : Nat → Int) (ur uv uf k : Int) (w : List Int) : stp (12, so, nv, st, pr, ac, N, ug, ua, ur, uv, uf) k w = (if k = 3 then (0, (0, so, nv, st, pr, ac, N, ug, ua, ur, uv, uf)) else (2, (12, so, nv, st, pr, ac, N, ug, ua, ur, uv, uf))) := rfl
theorem nmk_rg (w : List Int) : 6 ≤ nmk w ∧ nmk w ≤ 15 := by
  unfold nmk
  (repeat' split) <;> omega
theorem sgk_rg (c : Int) : 1 ≤ sgk c ∧ sgk c ≤ 5 := by
  unfold sgk
  (repeat' split) <;> omega
theorem lxK_rg (F : Nat → Int) (n p : Int) : 0 ≤ lxK F n p ∧ lxK F n p ≤ 15 ∧ (6 ≤ lxK F n p → lxS F n p < n ∧ lxA F n p - lxS F n p ≤ 12) ∧ (lxK F n p = 0 ↔ n ≤ lxS F n p) := by
  by_cases h1 : n ≤ lxS F n p
  · rw [(lx_end h1).2]; omega
  · by_cases h2 : ltr (F (lxS F n p).toNat) = 1
    · rw [(lx_name h1 h2).2]
      have h3 := nmk_rg (seg F (lxS F n p).toNat (lxA F n p - lxS F n p).toNat)
      split <;> omega
    · rw [(lx_sign h1 h2).2]
      have h3 := sgk_rg (F (lxS F n p).toNat)
      omega
/-- a text read: lexeme by lexeme -/
def prun (F : Nat → Int) (n : Int) : Nat → Int → Cf → Int × Int × Cf
  | 0, p, c => (0, p, c)
  | f + 1, p, c => if lxK F n p = 1 then (1, lxS F n p, c) else if ¬ (stp c (lxK F n p) (seg F (lxS F n p).toNat (lxA F n p - lxS F n p).toNat)).1 = 0 then ((stp c (lxK F n p) (seg F (lxS F n p).toNat (lxA F n p - lxS F n p).toNat)).1, lxS F n p, c) else if lxK F n p = 0 then (0, lxS F n p, (stp c (lxK F n p) (seg F (lxS F n p).toNat (lxA F n p - lxS F n p).toNat)).2) else prun F n f (lxA F n p) (stp c (lxK F n p) (seg F (lxS F n p).toNat (lxA F n p - lxS F n p).toNat)).2
theorem prun_step (F : Nat → Int) (n : Int) {k : Int} (p : Int) (c : Cf) (h : k ≤ 4096) : prun F n (4097 - k).toNat p c = if lxK F n p = 1 then (1, lxS F n p, c) else if ¬ (stp c (lxK F n p) (seg F (lxS F n p).toNat (lxA F n p - lxS F n p).toNat)).1 = 0 then ((stp c (lxK F n p) (seg F (lxS F n p).toNat (lxA F n p - lxS F n p).toNat)).1, lxS F n p, c) else if lxK F n p = 0 then (0, lxS F n p, (stp c (lxK F n p) (seg F (lxS F n p).toNat (lxA F n p - lxS F n p).toNat)).2) else prun F n (4097 - (k + 1)).toNat (lxA F n p) (stp c (lxK F n p) (seg F (lxS F n p).toNat (lxA F n p - lxS F n p).toNat)).2 := by
  rw [show (4097 - k).toNat = (4097 - (k + 1)).toNat + 1 by omega]
  rfl
theorem acp_e (k ph so nv st pr ac : Int) (N : NL) (ug ua : Nat → Int) (ur uv uf : Int) : acp k (ph, so, nv, st, pr, ac, N, ug, ua, ur, uv, uf) = if ¬ k = 13 ∧ ¬ k = 14 ∧ ¬ k = 15 then (2, (ph, so, nv, st, pr, ac, N, ug, ua, ur, uv, uf)) else if 4 ≤ ac then (3, (ph, so, nv, st, pr, ac, N, ug, ua, ur, uv, uf)) else if k = 13 then (0, (8, so, nv, st, pr, ac, N, ug, ua, ur, uv, uf)) else (0, (9, so, nv, st, pr, ac + 1, N, ug, uZ ua (pr * 4 + ac).toNat (if k = 14 then 100 else 101), ur, uv, uf)) := rfl
theorem ffl_rg (N : NL) (k : Int) (w : List Int) (a b : Int) : 0 ≤ ffl N k w a b ∧ ffl N k w a b ≤ 6 := by
  unfold ffl
  (repeat' split) <;> omega
theorem stp_rg {ph : Int} (so nv st pr ac : Int) (N : NL) (ug ua : Nat → Int) (ur uv uf k : Int) (w : List Int) (h : 0 ≤ ph ∧ ph ≤ 12) : -2147483648 ≤ (stp (ph, so, nv, st, pr, ac, N, ug, ua, ur, uv, uf) k w).1 ∧ (stp (ph, so, nv, st, pr, ac, N, ug, ua, ur, uv, uf) k w).1 ≤ 2147483647 := by
  have h1 := ffl_rg N k w 0 0
  have h2 := ffl_rg N k w 1 2
  have h3 := ffl_rg N k w 2 2
  rcases (show ph = 0 ∨ ph = 1 ∨ ph = 2 ∨ ph = 3 ∨ ph = 4 ∨ ph = 5 ∨ ph = 6 ∨ ph = 7 ∨ ph = 8 ∨ ph = 9 ∨ ph = 10 ∨ ph = 11 ∨ ph = 12 by omega) with rfl | rfl | rfl | rfl | rfl | rfl | rfl | rfl | rfl | rfl | rfl | rfl | rfl
  · rw [stp_0]
    (repeat' split) <;> first | omega | exact ⟨by decide, by decide⟩
  · rw [stp_1]
    (repeat' split) <;> first | omega | exact ⟨by decide, by decide⟩
  · rw [stp_2]
    (repeat' split) <;> first | omega | exact ⟨by decide, by decide⟩
  · rw [stp_3]
    (repeat' split) <;> first | omega | exact ⟨by decide, by decide⟩
  · rw [stp_4]
    (repeat' split) <;> first | omega | exact ⟨by decide, by decide⟩
  · rw [stp_5]
    (repeat' split) <;> first | omega | exact ⟨by decide, by decide⟩
  · rw [stp_6, acp_e]
    (repeat' split) <;> first | omega | exact ⟨by decide, by decide⟩
  · rw [stp_7, acp_e]
    (repeat' split) <;> first | omega | exact ⟨by decide, by decide⟩
  · rw [stp_8]
    (repeat' split) <;> first | omega | exact ⟨by decide, by decide⟩
  · rw [stp_9]
    (repeat' split) <;> first | omega | exact ⟨by decide, by decide⟩
  · rw [stp_10]
    (repeat' split) <;> first | omega | exact ⟨by decide, by decide⟩
  · rw [stp_11]
    (repeat' split) <;> first | omega | exact ⟨by decide, by decide⟩
  · rw [stp_12]
    (repeat' split) <;> first | omega | exact ⟨by decide, by decide⟩
