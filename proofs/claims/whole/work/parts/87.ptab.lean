/-- what distances must be -/
def dsI (nt ug : Nat → Int) (f : Int) (di : Nat → Int) : Prop := (0 < nt 0 → DS (fun (s e : Int) => ug (prf nt s e).toNat) (nt 0) (nt 1 + nt 2) f di) ∧ (¬ 0 < nt 0 → ∀ j : Nat, j < 16 → di j = -1)
/-- the table that both hold -/
def TbI (nl nn nt ug ua ud sF nf ng no : Nat → Int) (uf mfi : Int) : Prop :=
  rpI nl nn nt ug ua ∧ (∀ s, asc (nmC nl nn s)) ∧ gok nt ug ua ∧ (∀ j : Nat, ¬ ug j = -1 → ∃ s e : Int, (0 ≤ s ∧ s < nt 0 ∧ 0 ≤ e ∧ e < nt 1 + nt 2) ∧ (j : Int) = prf nt s e) ∧ (∀ j : Nat, ¬ ua j = -1 → 0 ≤ ug (j / 4)) ∧
  ((0 < nt 0 → 0 ≤ mfi ∧ mfi < nt 0) ∧ (uf = if 0 < nt 0 then mfi else -1)) ∧ (∀ di, dsI nt ug mfi di → ∀ t : Nat, t < 16 → di t = ud t) ∧ dst ud ∧ NmM sF nf ng no nt (nmC nl nn) ∧ ((paL (nmC nl nn) nt ug ua uf).length : Int) ≤ 5632
section TB
variable {nl nn nt ug ua ud sF nf ng no : Nat → Int} {uf mfi : Int}
theorem Tb_tail (h : TbI nl nn nt ug ua ud sF nf ng no uf mfi) : (∀ j, 384 ≤ j → ug j = -1) ∧ (∀ j, 1536 ≤ j → ua j = -1) := by
  obtain ⟨⟨r1, r2, r3, r4, r5⟩, -, -, h4, h5, -⟩ := h
  have hg : ∀ j : Nat, 384 ≤ j → ug j = -1 := fun j hj => Decidable.byContradiction (fun z => by
    obtain ⟨s, e, hv, he⟩ := h4 j z
    have := prf_rg r3 hv
    omega)
  refine ⟨hg, fun j hj => Decidable.byContradiction (fun z => ?_)⟩
  have h6 := h5 j z
  have h7 := hg (j / 4) (by omega)
  omega
theorem Tb_uf (h : TbI nl nn nt ug ua ud sF nf ng no uf mfi) : -1 ≤ uf ∧ uf < 16 := by
  obtain ⟨⟨r1, r2, r3, r4, r5⟩, -, -, -, -, ⟨h6, h7⟩, -⟩ := h
  unfold cnt at r3
  rw [h7]
  split
  · rename_i z; have := h6 z; omega
  · omega
theorem Tb_mc (h : TbI nl nn nt ug ua ud sF nf ng no uf mfi) : ∀ p j : Int, aco ua p j ≤ 15 ∨ aco ua p j = 100 ∨ aco ua p j = 101 := by
  obtain ⟨⟨r1, r2, r3, r4, r5⟩, -, ⟨-, g2⟩, -⟩ := h
  intro p j
  unfold cnt at r3
  have := g2 (p * 4 + j).toNat
  unfold aco
  split <;> omega
theorem Tb_act (h : TbI nl nn nt ug ua ud sF nf ng no uf mfi) {s e j : Int} (hv : 0 ≤ s ∧ s < nt 0 ∧ 0 ≤ e ∧ e < nt 1 + nt 2) (hj : 0 ≤ j) : aco ua (prf nt s e) j = if j < 4 ∧ 0 ≤ ug (prf nt s e).toNat then ua (prf nt s e * 4 + j).toNat else -1 := by
  obtain ⟨⟨r1, r2, r3, r4, r5⟩, -, -, -, h5, -⟩ := h
  have hp := prf_rg r3 hv
  unfold aco
  by_cases z : j < 4
  · rw [if_pos z]
    by_cases y : 0 ≤ ug (prf nt s e).toNat
    · rw [if_pos ⟨z, y⟩]
    · rw [if_neg (fun q => y q.2)]
      refine Decidable.byContradiction (fun q => y ?_)
      have := h5 _ q
      rwa [show (prf nt s e * 4 + j).toNat / 4 = (prf nt s e).toNat by omega] at this
  · rw [if_neg z, if_neg (fun q => z q.1)]
theorem Tb_rch (h : TbI nl nn nt ug ua ud sF nf ng no uf mfi) {di : Nat → Int} (hd : dsI nt ug mfi di) {s w : Int} (hs : 0 ≤ s ∧ s < nt 0) : (if w = 1 then ud s.toNat else rch ud s) = if w = 1 then di s.toNat else rch di s := by
  obtain ⟨⟨r1, r2, r3, r4, r5⟩, -, -, -, -, -, h7, -⟩ := h
  unfold cnt at r3
  have e := h7 di hd s.toNat (by omega)
  unfold rch
  rw [e]
theorem msR_cg {ud di : Nat → Int} : ∀ (n : Nat) (s : Int), (∀ t : Int, s ≤ t → t < s + n → ud t.toNat = di t.toNat) → msR nt ug ud s n = msR nt ug di s n := by
  intro n
  induction n with
  | zero => intro s _; rfl
  | succ n ih =>
    intro s h
    unfold msR
    rw [h s (Int.le_refl _) (by omega), ih (s + 1) (fun t h1 h2 => h t (by omega) (by omega))]
theorem Tb_msR (h : TbI nl nn nt ug ua ud sF nf ng no uf mfi) {di : Nat → Int} (hd : dsI nt ug mfi di) : msR nt ug ud 0 (nt 0).toNat = msR nt ug di 0 (nt 0).toNat := by
  obtain ⟨⟨r1, r2, r3, r4, r5⟩, -, -, -, -, -, h7, -⟩ := h
  unfold cnt at r3
  exact msR_cg _ _ (fun t h1 h2 => (h7 di hd t.toNat (by omega)).symm)
theorem Tb_snt (h : TbI nl nn nt ug ua ud sF nf ng no uf mfi) {di : Nat → Int} (hd : dsI nt ug mfi di) {k : Int} (hk : 0 ≤ k) : snt nt ud ua k ↔ snX nt ug ua di k (nt 0) := by
  obtain ⟨⟨r1, r2, r3, r4, r5⟩, -, -, h4, h5, -, h7, h8, -⟩ := h
  have hc := r3
  unfold cnt at hc
  constructor
  · rintro ⟨s, s0, s1, hu, i, hi, he⟩
    have e := h7 di hd s.toNat (by omega)
    have hd8 := h8 s.toNat
    have g1 := h5 (s * 96 + i).toNat (by omega)
    obtain ⟨s2, e2, hv, hj⟩ := h4 ((s * 96 + i).toNat / 4) (by omega)
    have hp := prf_in hv
    have hg := evs_rg r3 ⟨hv.2.2.1, hv.2.2.2⟩
    have es : s2 = s := by omega
    rw [es] at hv hj hp
    refine ⟨s, s0, s1, by omega, e2, (s * 96 + i) % 4, hv.2.2.1, by omega, by omega, Or.inl hv.2.2.2, ?_, ?_⟩
    · rw [← hj]; exact g1
    · rw [show (4 * prf nt s e2 + (s * 96 + i) % 4).toNat = (s * 96 + i).toNat by omega]; exact he
  · rintro ⟨s, s0, s1, hu, e2, i, e0, i0, i4, hlt, hg, ha⟩
    have e := h7 di hd s.toNat (by omega)
    have hv : 0 ≤ s ∧ s < nt 0 ∧ 0 ≤ e2 ∧ e2 < nt 1 + nt 2 := ⟨s0, s1, e0, by omega⟩
    have hp := prf_in hv
    have hgg := evs_rg r3 ⟨hv.2.2.1, hv.2.2.2⟩
    refine ⟨s, s0, s1, by omega, (4 * (prf nt s e2 - s * 24) + i).toNat, by omega, ?_⟩
    rw [show (s * 96 + ((4 * (prf nt s e2 - s * 24) + i).toNat : Int)).toNat = (4 * prf nt s e2 + i).toNat by omega]
    exact ha
theorem Tb_awt (h : TbI nl nn nt ug ua ud sF nf ng no uf mfi) {di : Nat → Int} (hd : dsI nt ug mfi di) {k : Int} : awt nt ud ug k ↔ awX ug di k (nt 0) := by
  obtain ⟨⟨r1, r2, r3, r4, r5⟩, -, -, h4, h5, -, h7, h8, -⟩ := h
  have hc := r3
  unfold cnt at hc
  constructor
  · rintro ⟨s, s0, s1, hu, hg⟩
    have e := h7 di hd s.toNat (by omega)
    have hd8 := h8 s.toNat
    exact ⟨s, s0, s1, by omega, by rw [show (24 * s + 8 + k).toNat = (s * 24 + (24 + k) - 16).toNat by congr 1; omega]; exact hg⟩
  · rintro ⟨s, s0, s1, hu, hg⟩
    have e := h7 di hd s.toNat (by omega)
    exact ⟨s, s0, s1, by omega, by rw [show (s * 24 + (24 + k) - 16).toNat = (24 * s + 8 + k).toNat by congr 1; omega]; exact hg⟩
theorem Tb_nnO (h : TbI nl nn nt ug ua ud sF nf ng no uf mfi) : nnO (nmC nl nn) nn := fun j => by
  have := h.1.2.1 (j : Int).toNat
  exact (nmC_len this.1).symm
theorem Tb_ln (h : TbI nl nn nt ug ua ud sF nf ng no uf mfi) : ∀ s, -1 ≤ s → s < nt 0 → (lnX (nmC nl nn) nn nt ug s).length ≤ 324 ∧ byL (lnX (nmC nl nn) nn nt ug s) := by
  obtain ⟨⟨r1, r2, r3, r4, r5⟩, -⟩ := h
  intro s h1 h2
  unfold lnX
  split
  · have := lnH_ok (ug := ug) r2 r3 r1; exact ⟨by omega, this.2⟩
  · have := lnS_ok (ug := ug) r2 r3 r1 (s := s) ⟨by omega, h2⟩; exact ⟨by omega, this.2⟩
theorem NamM_nt {sr nu ma : Nat → Int} {na : Int} {N : NL} (hM : NamM sF nf ng sr nu ma no na N) (hR : NamR nl nn nt N) : NamM sF nf ng sr nu nt no na N := ⟨hM.1, hM.2.1, hM.2.2.1, hR.2.1, hR.2.2.1, hM.2.2.2.2.2⟩
theorem NamR_40 {N : NL} (hR : NamR nl nn nt N) : NamR nl (fun j => if j < 40 then nn j else 0) nt N := by
  refine ⟨fun i hi => ?_, hR.2.1, hR.2.2.1, fun s h0 h1 hz => ?_, hR.2.2.2.2⟩
  · have hs := NamR_slt hR hi
    obtain ⟨g1, g2, g3, g4, g5⟩ := hR.1 i hi
    exact ⟨g1, by show (if (slt N i).toNat < 40 then nn (slt N i).toNat else 0) = _; rw [if_pos (by omega)]; exact g2, g3, g4, g5⟩
  · have e : (fun j => if j < 40 then nn j else 0) s.toNat = nn s.toNat := if_pos (by omega)
    rw [e] at hz
    exact hR.2.2.2.1 s h0 h1 hz
theorem Tb_asc {N : NL} (hR : NamR nl nn nt N) (h40 : ∀ j, 40 ≤ j → nn j = 0) (hw : ∀ i, i < N.length → ∀ x ∈ wrd N i, 48 ≤ x ∧ x ≤ 122) : ∀ s, asc (nmC nl nn s) := by
  have key : ∀ s : Int, 0 ≤ s → asc (nmC nl nn s) := fun s h0 => by
    by_cases z : nn s.toNat = 0
    · unfold nmC
      rw [z]
      exact asc_nil
    · have hs : s < 40 := Int.lt_of_not_ge (fun q => z (h40 _ (by omega)))
      obtain ⟨i, hi, e⟩ := hR.2.2.2.1 s h0 hs z
      rw [← e, nmC_wrd hR hi]
      intro x hx
      have := hw i hi x hx
      omega
  intro s
  by_cases z : 0 ≤ s
  · exact key s z
  · have e : nmC nl nn s = nmC nl nn 0 := by
      unfold nmC
      rw [show (s * 12).toNat = ((0 : Int) * 12).toNat by omega, show s.toNat = (0 : Int).toNat by omega]
    rw [e]
    exact key 0 (Int.le_refl 0)
theorem Tb_of {F ud0 sr nu : Nat → Int} {n p so nv st pr ac ur uv ufr na : Int} {N : NL} (hp : p ≤ 4096) (h1 : cI (0, so, nv, st, pr, ac, N, ug, ua, ur, uv, ufr)) (h2 : PI F n p (0, so, nv, st, pr, ac, N, ug, ua, ur, uv, ufr)) (h3 : wdI (0, so, nv, st, pr, ac, N, ug, ua, ur, uv, ufr))
    (hR : NamR nl nn nt N) (hM : NamM sF nf ng sr nu nt no na N) (h40 : ∀ j, 40 ≤ j → nn j = 0) (hrp : rpI nl nn nt ug ua) (hu : u8 sF) (hmf : mfi = if ufr = -1 then 0 else ufr) (huf : uf = ufS nt ufr) (hdd : dst ud)
    (hud : ∀ t : Nat, t < 16 → ud t = rfT ug (nt 0).toNat (nt 0).toNat 0 (udS nt ufr (flZ 16 (-1) ud0)) t) : TbI nl nn nt ug ua ud sF nf ng no uf mfi := by
  have hI := h1
  obtain ⟨a1, a2, a3, a4, a5, a6, a7, a8, a9, a10⟩ := h1
  have ht := hR.2.1
  have hc := hR.2.2.1
  have hc2 := hc
  unfold cnt at hc2
  have hf : (0 < nt 0 → 0 ≤ mfi ∧ mfi < nt 0) ∧ (uf = if 0 < nt 0 then mfi else -1) := by
    unfold ufS at huf
    refine ⟨fun z => ?_, ?_⟩
    · rw [hmf]; split <;> omega
    · rw [huf, hmf]; (repeat' split) <;> omega
  have hnm : ∀ i, i < N.length → nmC nl nn (slt N i) = wrd N i := fun i hi => nmC_wrd hR hi
  refine ⟨hrp, Tb_asc hR h40 h3, ⟨fun j => ?_, fun j => ?_⟩, fun j hj => ?_, fun j hj => ?_, hf, fun di hd t ht16 => ?_, hdd, NmM_of hu hM hR h3, rd_print hp hI h2 hnm (fun i hi => (hR.1 i hi).2.2.2.1) ht ?_⟩
  · have := a5 j; omega
  · have := a7 j; omega
  · obtain ⟨s, x, e1, e2, e3, e4⟩ := a6 j hj
    have hv : 0 ≤ s ∧ s < nt 0 ∧ 0 ≤ (if x < 8 then x else nt 1 + x - 8) ∧ (if x < 8 then x else nt 1 + x - 8) < nt 1 + nt 2 := ⟨e2, by omega, by split <;> omega, by split <;> omega⟩
    refine ⟨s, _, hv, ?_⟩
    rw [prf_in hv, e1]
    unfold evs
    (repeat' split) <;> omega
  · have := a8 j hj; omega
  · rw [hud t ht16]
    by_cases z : 0 < nt 0
    · refine reach_eq hI ht (hf.1 z) (hd.1 z) (fun x hx => ?_) t ht16
      have hfm : ufS nt ufr = mfi := by rw [← huf, hf.2, if_pos z]
      have hm := hf.1 z
      unfold udS
      rw [hfm, if_neg (by omega)]
      by_cases y : (x : Int) = mfi
      · rw [if_pos y, show mfi.toNat = x by omega]; exact uZ_s
      · rw [if_neg y, uZ_n (by omega)]; exact if_pos hx
    · rw [hd.2 z t ht16]
      have e0 : (nt 0).toNat = 0 := by omega
      have hfm : ufS nt ufr = -1 := by rw [← huf, hf.2, if_neg z]
      rw [e0]
      show _ = udS nt ufr (flZ 16 (-1) ud0) t
      unfold udS
      rw [if_pos hfm]
      exact (if_pos ht16).symm
  · rw [hf.2]
    split
    · rename_i z; have := hf.1 z; right; omega
    · left; rfl
/-- the table of nothing read -/
theorem Tb_0 (hb : byt nl) (hu : u8 sF) : TbI nl (fun _ => 0) (fun _ => 0) (fun _ => -1) (fun _ => -1) (fun _ => -1) sF nf ng no (-1) 0 := by
  obtain ⟨i1, i2, i3⟩ := rd_init (fun _ => 0) 0 0 0 0 0 0 0 0 (by omega) (by omega) (by omega)
  have hR : NamR nl (fun _ => 0) (fun _ => 0) [] := NamR_0 (fun _ _ => rfl) (fun _ _ => rfl)
  have hM := NamM_nt (NamM_0 sF nf ng (fun _ => 0) (fun _ => 0) (fun _ => 0) no) hR
  refine Tb_of (ud0 := fun _ => -1) (by decide) i1 i2 i3 hR hM (fun _ _ => rfl) ⟨hb, fun _ => ⟨Int.le_refl 0, (by decide : (0 : Int) ≤ 12)⟩, hR.2.2.1, gol_1, fun j => by show (-1 : Int) ≤ -1 ∧ (-1 : Int) ≤ 101; omega⟩ hu rfl rfl (fun j => by show (-1 : Int) ≤ -1 ∧ (-1 : Int) ≤ 100; omega) (fun t ht => ?_)
  show (-1 : Int) = udS (fun _ => 0) (-1) (flZ 16 (-1) (fun _ => -1)) t
  have e : ufS (fun _ => 0) (-1) = -1 := if_neg (fun q => absurd q.2 (by decide : ¬ (0 : Int) < 0))
  unfold udS
  rw [if_pos e]
  exact (if_pos ht).symm
end TB
