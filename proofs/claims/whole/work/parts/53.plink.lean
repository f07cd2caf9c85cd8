theorem nmC_wrd {nl nn nt : Nat → Int} {N : NL} (h : NamR nl nn nt N) {i : Nat} (hi : i < N.length) : nmC nl nn (slt N i) = wrd N i := by
  obtain ⟨h1, h2, h3, h4, h5⟩ := h.1 i hi
  unfold nmC
  rw [h2, Int.toNat_natCast]
  exact h5
theorem cnt_cN {N : NL} {nt : Nat → Int} (ht : nt 0 = cN 0 N ∧ nt 1 = cN 1 N ∧ nt 2 = cN 2 N) (h : cnt (fun j => cN j N)) : cnt nt := by
  have hc2 : 0 ≤ cN 0 N ∧ cN 0 N ≤ 16 ∧ 0 ≤ cN 1 N ∧ cN 1 N ≤ 8 ∧ 0 ≤ cN 2 N ∧ cN 2 N ≤ 16 := h
  unfold cnt
  rw [ht.1, ht.2.1, ht.2.2]
  exact hc2
/-- the distances of both are the same -/
theorem reach_eq {so nv st pr ac ur uv uf f : Int} {N : NL} {ug ua nt di ud : Nat → Int} (h : cI (0, so, nv, st, pr, ac, N, ug, ua, ur, uv, uf)) (ht : nt 0 = cN 0 N ∧ nt 1 = cN 1 N ∧ nt 2 = cN 2 N) (hf : 0 ≤ f ∧ f < nt 0)
    (hd : DS (fun s e => ug (prf nt s e).toNat) (nt 0) (nt 1 + nt 2) f di) (hu : ∀ x : Nat, x < 16 → ud x = if (x : Int) = f then 0 else -1) : ∀ t : Nat, t < 16 → di t = rfT ug (nt 0).toNat (nt 0).toNat 0 ud t := by
  obtain ⟨a1, a2, a3, a4, a5, a6, a7, a8, a9, a10⟩ := h
  have hc := cnt_cN ht a2
  unfold cnt at hc
  have h2 := CI_DS (ug := ug) (m := nt 0) (f := f) (fun j => by have := a5 j; omega) (by omega) hf hu
  refine DS_eq (by omega) hd h2 (fun s i hs hi h0 => ?_) (fun s i hs hi h0 => ?_)
  · have hv : 0 ≤ (s : Int) ∧ (s : Int) < nt 0 ∧ 0 ≤ i ∧ i < nt 1 + nt 2 := ⟨by omega, hs, hi⟩
    have hp := prf_in hv
    have he := evs_rg (cnt_cN ht a2) hi
    exact ⟨evs (nt 1) i - 16, by omega, by omega, by show ug _ = ug _; rw [hp]; congr 2; omega⟩
  · have h0' : 0 ≤ ug ((s : Int) * 24 + i).toNat := h0
    obtain ⟨s2, x, e1, e2, e3, e4⟩ := a6 ((s : Int) * 24 + i).toNat (by omega)
    have e5 : x = i := by omega
    refine ⟨if i < 8 then i else nt 1 + i - 8, by split <;> omega, by split <;> omega, ?_⟩
    have hv : 0 ≤ (s : Int) ∧ (s : Int) < nt 0 ∧ 0 ≤ (if i < 8 then i else nt 1 + i - 8) ∧ (if i < 8 then i else nt 1 + i - 8) < nt 1 + nt 2 := ⟨by omega, hs, by split <;> omega, by split <;> omega⟩
    show ug (prf nt s (if i < 8 then i else nt 1 + i - 8)).toNat = ug ((s : Int) * 24 + i).toNat
    rw [prf_in hv]
    congr 2
    unfold evs
    (repeat' split) <;> omega
theorem seg_in {F : Nat → Int} : ∀ (k a j : Nat), j < k → F (a + j) ∈ seg F a k := by
  intro k
  induction k with
  | zero => intro a j h; exact absurd h (Nat.not_lt_zero _)
  | succ k ih =>
    intro a j h
    cases j with
    | zero => exact List.mem_cons_self
    | succ j => rw [show a + (j + 1) = a + 1 + j by omega]; exact List.mem_cons_of_mem _ (ih (a + 1) j (by omega))
/-- what the class's rows and the reference's rows of the same names say of each other -/
theorem NmM_of {sF nf ng sr nu ma no nl nn nt : Nat → Int} {mna : Int} {N : NL} (hu : u8 sF) (hM : NamM sF nf ng sr nu ma no mna N) (hR : NamR nl nn nt N) (hw : ∀ i, i < N.length → ∀ x ∈ wrd N i, 48 ≤ x ∧ x ≤ 122) : NmM sF nf ng no ma (nmC nl nn) := by
  intro s n hs hn
  have e := maZ_e ma
  obtain ⟨-, hlen, hall, hma, -⟩ := hM
  have hn2 : n < cN s N := by
    rcases hs with rfl | rfl | rfl
    · rw [← hma.1, ← e.1]; exact hn.2
    · rw [← hma.2.1, ← e.2.1]; exact hn.2
    · rw [← hma.2.2, ← e.2.2]; exact hn.2
  obtain ⟨i, hi, hsi, hni⟩ := slt_sur s N n hn.1 hn2
  obtain ⟨b1, b2, b3, b4, b5, b6, b7, b8, b9⟩ := hall i hi
  rw [hsi, hni] at b9
  rw [b9, Int.toNat_natCast]
  refine ⟨by omega, by omega, b2, b3, b4, b5, ?_⟩
  have e2 : slt N i = bas s + n := by show bas (sor N i) + nub N i = _; rw [hsi, hni]
  rw [← e2, nmC_wrd hR hi, ← b6]
  refine seg_congr _ _ _ (fun j hj => ?_)
  have hx : bF sF ((nf i).toNat + j) ∈ wrd N i := by rw [← b6]; exact seg_in _ _ _ hj
  have h1 := hw i hi _ hx
  have h2 := hu ((nf i).toNat + j)
  have h3 : bF sF ((nf i).toNat + j) = bN (sF ((nf i).toNat + j)) := rfl
  rw [h3] at h1 ⊢
  rw [bN_u8 h2] at h1 ⊢
  split at h1
  · rename_i c; rw [if_pos c]
  · omega
