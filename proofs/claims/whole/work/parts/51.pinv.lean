/-- a pair of told names -/
def vpr (N : NL) (j : Nat) : Prop := ∃ s x : Int, (j : Int) = s * 24 + x ∧ 0 ≤ s ∧ s < cN 0 N ∧ ((0 ≤ x ∧ x < cN 1 N) ∨ (8 ≤ x ∧ x < 8 + cN 2 N))
/-- what holds of a reading at any time -/
def cI (c : Cf) : Prop := match c with
  | (ph, so, nv, st, pr, ac, N, ug, ua, _, _, uf) =>
    (∀ i, i < N.length → sor N i = 0 ∨ sor N i = 1 ∨ sor N i = 2) ∧ cnt (fun j => cN j N) ∧ (0 ≤ ph ∧ ph ≤ 12 ∧ (so = 0 ∨ so = 1 ∨ so = 2) ∧ (nv = 0 ∨ nv = 1) ∧ 0 ≤ ac ∧ ac ≤ 4) ∧
    (4 ≤ ph ∧ ph ≤ 10 → 0 ≤ st ∧ st < cN 0 N) ∧ (∀ j, -2 ≤ ug j ∧ (ug j < 0 ∨ ug j < cN 0 N)) ∧ (∀ j, ¬ ug j = -1 → vpr N j) ∧
    (∀ j, -1 ≤ ua j ∧ (ua j < 0 ∨ ua j < cN 2 N ∨ ua j = 100 ∨ ua j = 101)) ∧ (∀ j : Nat, ¬ ua j = -1 → 0 ≤ ug (j / 4) ∨ (5 ≤ ph ∧ ph ≤ 10 ∧ ((j / 4 : Nat) : Int) = pr)) ∧
    (5 ≤ ph ∧ ph ≤ 10 → 0 ≤ pr ∧ ug pr.toNat = -1 ∧ vpr N pr.toNat ∧ (ph = 8 → ac < 4)) ∧ (uf = -1 ∨ (0 ≤ uf ∧ uf < cN 0 N))
theorem cI_go {ph so nv st pr ac : Int} {N : NL} {ug ua : Nat → Int} {ur uv uf ph2 so2 nv2 st2 pr2 ac2 ur2 uv2 : Int} (h : cI (ph, so, nv, st, pr, ac, N, ug, ua, ur, uv, uf))
    (h1 : 0 ≤ ph2 ∧ ph2 ≤ 12 ∧ (so2 = 0 ∨ so2 = 1 ∨ so2 = 2) ∧ (nv2 = 0 ∨ nv2 = 1) ∧ 0 ≤ ac2 ∧ ac2 ≤ 4) (h2 : 4 ≤ ph2 ∧ ph2 ≤ 10 → 0 ≤ st2 ∧ st2 < cN 0 N) (h3 : 5 ≤ ph ∧ ph ≤ 10 → 5 ≤ ph2 ∧ ph2 ≤ 10 ∧ pr2 = pr)
    (h4 : 5 ≤ ph2 ∧ ph2 ≤ 10 → 0 ≤ pr2 ∧ ug pr2.toNat = -1 ∧ vpr N pr2.toNat ∧ (ph2 = 8 → ac2 < 4)) : cI (ph2, so2, nv2, st2, pr2, ac2, N, ug, ua, ur2, uv2, uf) := by
  obtain ⟨a1, a2, a3, a4, a5, a6, a7, a8, a9, a10⟩ := h
  refine ⟨a1, a2, h1, h2, a5, a6, a7, fun j hj => ?_, h4, a10⟩
  rcases a8 j hj with z | z
  · exact Or.inl z
  · have := h3 ⟨z.1, z.2.1⟩; exact Or.inr ⟨this.1, this.2.1, by omega⟩
theorem vpr_mono {N : NL} {q : Int × List Int} {j : Nat} (h : vpr N j) : vpr (N ++ [q]) j := by
  obtain ⟨s, x, h1, h2, h3, h4⟩ := h
  have e : ∀ t, cN t N ≤ cN t (N ++ [q]) := fun t => by rw [cN_app]; have := cN_nn t [q]; omega
  have e0 := e 0
  have e1 := e 1
  have e2 := e 2
  exact ⟨s, x, h1, h2, by omega, by omega⟩
theorem vpr_lt {N : NL} {j : Nat} (hc : cnt (fun j => cN j N)) (h : vpr N j) : j < 384 := by
  obtain ⟨s, x, h1, h2, h3, h4⟩ := h
  have hc2 : 0 ≤ cN 0 N ∧ cN 0 N ≤ 16 ∧ 0 ≤ cN 1 N ∧ cN 1 N ≤ 8 ∧ 0 ≤ cN 2 N ∧ cN 2 N ≤ 16 := hc
  omega
theorem nub_rg {N : NL} {w : List Int} {s : Int} (h : ¬ fdI w N = -1) (hs : sor N (fdI w N).toNat = s) : 0 ≤ nub N (fdI w N).toNat ∧ nub N (fdI w N).toNat < cN s N := by
  have hr := fdI_rg w N
  have h1 := cN_lt (N := N) (i := (fdI w N).toNat) (by omega)
  have h2 := cN_nn (sor N (fdI w N).toNat) (N.take (fdI w N).toNat)
  unfold nub
  rw [hs] at h1 h2 ⊢
  exact ⟨h2, h1⟩
theorem cI_act {ph so nv st pr ac : Int} {N : NL} {ug ua : Nat → Int} {ur uv uf v : Int} (h : cI (ph, so, nv, st, pr, ac, N, ug, ua, ur, uv, uf)) (hp : 5 ≤ ph ∧ ph ≤ 10) (ha : ac < 4) (hv : (0 ≤ v ∧ v < cN 2 N) ∨ v = 100 ∨ v = 101) : cI (9, so, nv, st, pr, ac + 1, N, ug, uZ ua (pr * 4 + ac).toNat v, ur, uv, uf) := by
  obtain ⟨a1, a2, a3, a4, a5, a6, a7, a8, a9, a10⟩ := h
  have h9 := a9 hp
  refine ⟨a1, a2, ⟨by omega, by omega, a3.2.2.1, a3.2.2.2.1, by omega, by omega⟩, fun _ => a4 (by omega), a5, a6, fun j => ?_, fun j hj => ?_, fun _ => ⟨h9.1, h9.2.1, h9.2.2.1, fun z => by omega⟩, a10⟩
  · by_cases c : j = (pr * 4 + ac).toNat
    · rw [c, uZ_s]; omega
    · rw [uZ_n c]; exact a7 j
  · by_cases c : j = (pr * 4 + ac).toNat
    · exact Or.inr ⟨by omega, by omega, by omega⟩
    · rw [uZ_n c] at hj
      rcases a8 j hj with z | z
      · exact Or.inl z
      · exact Or.inr ⟨by omega, by omega, z.2.2⟩
theorem cI_acp {ph so nv st pr ac : Int} {N : NL} {ug ua : Nat → Int} {ur uv uf k : Int} {c2 : Cf} (h : cI (ph, so, nv, st, pr, ac, N, ug, ua, ur, uv, uf)) (hp : 5 ≤ ph ∧ ph ≤ 10) (hs : acp k (ph, so, nv, st, pr, ac, N, ug, ua, ur, uv, uf) = (0, c2)) : cI c2 := by
  have hh := h
  obtain ⟨a1, a2, a3, a4, a5, a6, a7, a8, a9, a10⟩ := h
  have h9 := a9 hp
  rw [acp_e] at hs
  split at hs
  · exact absurd (Prod.mk.inj hs).1 (by decide)
  · split at hs
    · exact absurd (Prod.mk.inj hs).1 (by decide)
    · split at hs
      · obtain rfl : _ = c2 := (Prod.mk.inj hs).2
        exact cI_go hh ⟨by omega, by omega, a3.2.2⟩ (fun _ => a4 (by omega)) (fun _ => ⟨by omega, by omega, rfl⟩) (fun _ => ⟨h9.1, h9.2.1, h9.2.2.1, fun z => by omega⟩)
      · obtain rfl : _ = c2 := (Prod.mk.inj hs).2
        exact cI_act hh hp (by omega) (by split <;> omega)
theorem cI_stp {c c2 : Cf} {k : Int} {w : List Int} (h : cI c) (hs : stp c k w = (0, c2)) : cI c2 := by
  obtain ⟨ph, so, nv, st, pr, ac, N, ug, ua, ur, uv, uf⟩ := c
  have hh := h
  obtain ⟨a1, a2, a3, a4, a5, a6, a7, a8, a9, a10⟩ := h
  have no : ∀ {f : Int} {c3 : Cf}, ¬ f = 0 → (f, c3) = (0, c2) → cI c2 := fun hf e => absurd (Prod.mk.inj e).1 hf
  have hc2 : 0 ≤ cN 0 N ∧ cN 0 N ≤ 16 ∧ 0 ≤ cN 1 N ∧ cN 1 N ≤ 8 ∧ 0 ≤ cN 2 N ∧ cN 2 N ≤ 16 := a2
  rcases (show ph = 0 ∨ ph = 1 ∨ ph = 2 ∨ ph = 3 ∨ ph = 4 ∨ ph = 5 ∨ ph = 6 ∨ ph = 7 ∨ ph = 8 ∨ ph = 9 ∨ ph = 10 ∨ ph = 11 ∨ ph = 12 by omega) with rfl | rfl | rfl | rfl | rfl | rfl | rfl | rfl | rfl | rfl | rfl | rfl | rfl
  · rw [stp_0] at hs
    split at hs
    · obtain rfl : _ = c2 := (Prod.mk.inj hs).2; exact cI_go hh (by omega) (fun _ => by omega) (fun _ => by omega) (fun _ => by omega)
    · split at hs
      · obtain rfl : _ = c2 := (Prod.mk.inj hs).2; exact cI_go hh (by omega) (fun _ => by omega) (fun _ => by omega) (fun _ => by omega)
      · split at hs
        · obtain rfl : _ = c2 := (Prod.mk.inj hs).2; exact cI_go hh (by omega) (fun _ => by omega) (fun _ => by omega) (fun _ => by omega)
        · split at hs
          · obtain rfl : _ = c2 := (Prod.mk.inj hs).2; exact hh
          · exact no (by decide) hs
  · rw [stp_1] at hs
    split at hs
    · exact no (by decide) hs
    · split at hs
      · exact no (by decide) hs
      · rename_i hfu
        split at hs
        · exact no (by decide) hs
        · obtain rfl : _ = c2 := (Prod.mk.inj hs).2
          have e : ∀ t, cN t (N ++ [(so, w)]) = cN t N + if so = t then 1 else 0 := fun t => by rw [cN_app]; show _ + ((if so = t then 1 else 0) + 0) = _; omega
          have e0 := e 0
          have e1 := e 1
          have e2 := e 2
          have hnf : ¬ ((so = 0 ∧ 16 ≤ cN 0 N) ∨ (so = 1 ∧ 8 ≤ cN 1 N) ∨ (so = 2 ∧ 16 ≤ cN 2 N)) := fun z => hfu (by unfold fuN ful; exact if_pos z)
          refine ⟨fun i hi => ?_, ?_, ⟨by omega, by omega, a3.2.2⟩, fun _ => by omega, fun j => ?_, fun j hj => vpr_mono (a6 j hj), fun j => ?_, fun j hj => ?_, fun _ => by omega, ?_⟩
          · by_cases c : i < N.length
            · rw [(sor_app c).1]; exact a1 i c
            · rw [List.length_append] at hi
              have : i = N.length := by simp at hi; omega
              rw [this, sor_new.1]; exact a3.2.2.1
          · show 0 ≤ cN 0 (N ++ [(so, w)]) ∧ cN 0 (N ++ [(so, w)]) ≤ 16 ∧ 0 ≤ cN 1 (N ++ [(so, w)]) ∧ cN 1 (N ++ [(so, w)]) ≤ 8 ∧ 0 ≤ cN 2 (N ++ [(so, w)]) ∧ cN 2 (N ++ [(so, w)]) ≤ 16
            rw [e0, e1, e2]
            rcases a3.2.2.1 with z | z | z <;> rw [z] <;> simp <;> omega
          · have := a5 j; rw [e0]; split <;> omega
          · have := a7 j; rw [e2]; split <;> omega
          · rcases a8 j hj with z | z
            · exact Or.inl z
            · omega
          · rw [e0]; split <;> omega
  · rw [stp_2] at hs
    split at hs
    · obtain rfl : _ = c2 := (Prod.mk.inj hs).2; exact cI_go hh (by omega) (fun _ => by omega) (fun _ => by omega) (fun _ => by omega)
    · split at hs
      · obtain rfl : _ = c2 := (Prod.mk.inj hs).2; exact cI_go hh (by omega) (fun _ => by omega) (fun _ => by omega) (fun _ => by omega)
      · exact no (by decide) hs
  · rw [stp_3] at hs
    split at hs
    · rename_i hf; exact no hf hs
    · rename_i hf
      have hf0 := ffl_0 (Decidable.not_not.mp hf)
      have hn := nub_rg hf0.2.1 (s := 0) (hf0.2.2.elim id id)
      obtain rfl : _ = c2 := (Prod.mk.inj hs).2; exact cI_go hh (by omega) (fun _ => hn) (fun _ => by omega) (fun _ => by omega)
  · rw [stp_4] at hs
    split at hs
    · rename_i hf; exact no hf hs
    · rename_i hf
      have hf0 := ffl_0 (Decidable.not_not.mp hf)
      have h4 := a4 (by omega)
      have hsl : slt N (fdI w N).toNat = bas (sor N (fdI w N).toNat) + nub N (fdI w N).toNat := rfl
      have hbb : bas 1 = 16 ∧ bas 2 = 24 := by decide
      have hx : (16 ≤ slt N (fdI w N).toNat ∧ slt N (fdI w N).toNat < 16 + cN 1 N) ∨ (24 ≤ slt N (fdI w N).toNat ∧ slt N (fdI w N).toNat < 24 + cN 2 N) := by
        rcases hf0.2.2 with z | z
        · have hn := nub_rg hf0.2.1 z; rw [z] at hsl; omega
        · have hn := nub_rg hf0.2.1 z; rw [z] at hsl; omega
      have hv : vpr N (st * 24 + slt N (fdI w N).toNat - 16).toNat := ⟨st, slt N (fdI w N).toNat - 16, by omega, h4.1, h4.2, by omega⟩
      split at hs
      · exact no (by decide) hs
      · rename_i hg
        have hg1 := Decidable.not_not.mp hg
        split at hs
        · obtain rfl : _ = c2 := (Prod.mk.inj hs).2; exact cI_go hh ⟨by omega, by omega, a3.2.2⟩ (fun _ => h4) (fun _ => by omega) (fun _ => ⟨by omega, hg1, hv, fun z => by omega⟩)
        · obtain rfl : _ = c2 := (Prod.mk.inj hs).2
          refine ⟨a1, a2, ⟨by omega, by omega, a3.2.2⟩, fun _ => by omega, fun j => ?_, fun j hj => ?_, a7, fun j hj => ?_, fun _ => by omega, a10⟩
          · by_cases c : j = (st * 24 + slt N (fdI w N).toNat - 16).toNat
            · rw [c, uZ_s]; omega
            · rw [uZ_n c]; exact a5 j
          · by_cases c : j = (st * 24 + slt N (fdI w N).toNat - 16).toNat
            · rw [c]; exact hv
            · rw [uZ_n c] at hj; exact a6 j hj
          · rcases a8 j hj with z | z
            · refine Or.inl ?_
              rw [uZ_n (fun e => by rw [e] at z; omega)]; exact z
            · omega
  · rw [stp_5] at hs
    split at hs
    · obtain rfl : _ = c2 := (Prod.mk.inj hs).2; exact cI_go hh ⟨by omega, by omega, a3.2.2⟩ (fun _ => a4 (by omega)) (fun _ => ⟨by omega, by omega, rfl⟩) (fun _ => by have := a9 (by omega); exact ⟨this.1, this.2.1, this.2.2.1, fun z => by omega⟩)
    · exact no (by decide) hs
  · rw [stp_6] at hs
    split at hs
    · obtain rfl : _ = c2 := (Prod.mk.inj hs).2; exact cI_go hh ⟨by omega, by omega, a3.2.2⟩ (fun _ => a4 (by omega)) (fun _ => ⟨by omega, by omega, rfl⟩) (fun _ => by have := a9 (by omega); exact ⟨this.1, this.2.1, this.2.2.1, fun z => by omega⟩)
    · exact cI_acp hh (by omega) hs
  · rw [stp_7] at hs
    exact cI_acp hh (by omega) hs
  · rw [stp_8] at hs
    split at hs
    · rename_i hf; exact no hf hs
    · rename_i hf
      have hf0 := ffl_0 (Decidable.not_not.mp hf)
      have hn := nub_rg hf0.2.1 (s := 2) (hf0.2.2.elim id id)
      obtain rfl : _ = c2 := (Prod.mk.inj hs).2
      have := a9 (by omega)
      exact cI_act hh (by omega) (this.2.2.2 rfl) (Or.inl hn)
  · rw [stp_9] at hs
    split at hs
    · obtain rfl : _ = c2 := (Prod.mk.inj hs).2; exact cI_go hh ⟨by omega, by omega, a3.2.2⟩ (fun _ => a4 (by omega)) (fun _ => ⟨by omega, by omega, rfl⟩) (fun _ => by have := a9 (by omega); exact ⟨this.1, this.2.1, this.2.2.1, fun z => by omega⟩)
    · split at hs
      · obtain rfl : _ = c2 := (Prod.mk.inj hs).2; exact cI_go hh ⟨by omega, by omega, a3.2.2⟩ (fun _ => a4 (by omega)) (fun _ => ⟨by omega, by omega, rfl⟩) (fun _ => by have := a9 (by omega); exact ⟨this.1, this.2.1, this.2.2.1, fun z => by omega⟩)
      · exact no (by decide) hs
  · rw [stp_10] at hs
    split at hs
    · rename_i hf; exact no hf hs
    · rename_i hf
      have hf0 := ffl_0 (Decidable.not_not.mp hf)
      have hn := nub_rg hf0.2.1 (s := 0) (hf0.2.2.elim id id)
      have h9 := a9 (by omega)
      obtain rfl : _ = c2 := (Prod.mk.inj hs).2
      refine ⟨a1, a2, ⟨by omega, by omega, a3.2.2⟩, fun _ => by omega, fun j => ?_, fun j hj => ?_, a7, fun j hj => ?_, fun _ => by omega, a10⟩
      · by_cases c : j = pr.toNat
        · rw [c, uZ_s]; omega
        · rw [uZ_n c]; exact a5 j
      · by_cases c : j = pr.toNat
        · rw [c]; exact h9.2.2.1
        · rw [uZ_n c] at hj; exact a6 j hj
      · refine Or.inl ?_
        by_cases c : j / 4 = pr.toNat
        · rw [c, uZ_s]; omega
        · rw [uZ_n c]
          rcases a8 j hj with z | z
          · exact z
          · omega
  · rw [stp_11] at hs
    split at hs
    · rename_i hf; exact no hf hs
    · rename_i hf
      have hf0 := ffl_0 (Decidable.not_not.mp hf)
      have hn := nub_rg hf0.2.1 (s := 0) (hf0.2.2.elim id id)
      obtain rfl : _ = c2 := (Prod.mk.inj hs).2
      refine ⟨a1, a2, ⟨by omega, by omega, a3.2.2⟩, fun _ => by omega, a5, a6, a7, fun j hj => ?_, fun _ => by omega, Or.inr hn⟩
      rcases a8 j hj with z | z
      · exact Or.inl z
      · omega
  · rw [stp_12] at hs
    split at hs
    · obtain rfl : _ = c2 := (Prod.mk.inj hs).2; exact cI_go hh ⟨by omega, by omega, a3.2.2⟩ (fun _ => by omega) (fun _ => by omega) (fun _ => by omega)
    · exact no (by decide) hs
theorem cI_prun (F : Nat → Int) (n : Int) : ∀ (f : Nat) (p : Int) (c : Cf), cI c → cI (prun F n f p c).2.2 := by
  intro f
  induction f with
  | zero => intro p c h; exact h
  | succ f ih =>
    intro p c h
    unfold prun
    split
    · exact h
    · split
      · exact h
      · rename_i hs
        have h2 : cI (stp c (lxK F n p) (seg F (lxS F n p).toNat (lxA F n p - lxS F n p).toNat)).2 := cI_stp h (Prod.ext (Decidable.not_not.mp hs) rfl)
        split
        · exact h2
        · exact ih _ _ h2
/-- the end fits only where a statement may begin -/
theorem stp_end {c c2 : Cf} {w : List Int} (h : cI c) (hs : stp c 0 w = (0, c2)) : c.1 = 0 ∧ c2 = c := by
  obtain ⟨ph, so, nv, st, pr, ac, N, ug, ua, ur, uv, uf⟩ := c
  have a3 := h.2.2.1
  have no : ∀ {f : Int} {c3 : Cf} {P : Prop}, ¬ f = 0 → (f, c3) = (0, c2) → P := fun hf e => absurd (Prod.mk.inj e).1 hf
  have hf : ∀ a b, ffl N 0 w a b = 2 := fun a b => if_pos (by decide)
  rcases (show ph = 0 ∨ ph = 1 ∨ ph = 2 ∨ ph = 3 ∨ ph = 4 ∨ ph = 5 ∨ ph = 6 ∨ ph = 7 ∨ ph = 8 ∨ ph = 9 ∨ ph = 10 ∨ ph = 11 ∨ ph = 12 by omega) with rfl | rfl | rfl | rfl | rfl | rfl | rfl | rfl | rfl | rfl | rfl | rfl | rfl
  · exact ⟨rfl, (Prod.mk.inj hs).2.symm⟩
  · exact no (show ¬ (2 : Int) = 0 by decide) hs
  · exact no (show ¬ (2 : Int) = 0 by decide) hs
  · rw [stp_3, hf, if_pos (by decide)] at hs; exact no (by decide) hs
  · rw [stp_4, hf, if_pos (by decide)] at hs; exact no (by decide) hs
  · exact no (show ¬ (2 : Int) = 0 by decide) hs
  · exact no (show ¬ (2 : Int) = 0 by decide) hs
  · exact no (show ¬ (2 : Int) = 0 by decide) hs
  · rw [stp_8, hf, if_pos (by decide)] at hs; exact no (by decide) hs
  · exact no (show ¬ (2 : Int) = 0 by decide) hs
  · rw [stp_10, hf, if_pos (by decide)] at hs; exact no (by decide) hs
  · rw [stp_11, hf, if_pos (by decide)] at hs; exact no (by decide) hs
  · exact no (show ¬ (2 : Int) = 0 by decide) hs
theorem prun_inv {F : Nat → Int} {n : Int} {P : Int → Cf → Prop} (hst : ∀ p c c2, 0 ≤ p → p ≤ n → P p c → ¬ lxK F n p = 0 → ¬ lxK F n p = 1 → stp c (lxK F n p) (wA F n p) = (0, c2) → P (lxA F n p) c2) :
    ∀ (f : Nat) (p : Int) (c : Cf), 0 ≤ p → p ≤ n → (n - p).toNat < f → P p c → (prun F n f p c).1 = 0 → ∃ p' c', p' ≤ n ∧ P p' c' ∧ ∃ w, stp c' 0 w = (0, (prun F n f p c).2.2) := by
  intro f
  induction f with
  | zero => intro p c _ _ h; exact absurd h (Nat.not_lt_zero _)
  | succ f ih =>
    intro p c h0 hp hf h
    have h4 := lx_rg F hp
    have h5 := lxK_rg F n p
    have h7 := lxA_rg F hp
    unfold prun
    split
    · intro e; exact absurd e (by show ¬ (1 : Int) = 0; decide)
    · rename_i k1
      split
      · rename_i hs; intro e; exact absurd e hs
      · rename_i hs
        have hs2 := Decidable.not_not.mp hs
        split
        · rename_i k0
          intro _
          refine ⟨p, c, hp, h, wA F n p, Prod.ext ?_ ?_⟩
          · show (stp c 0 (wA F n p)).1 = 0
            rw [k0] at hs2; exact hs2
          · show (stp c 0 (wA F n p)).2 = (stp c (lxK F n p) _).2; rw [k0]; rfl
        · rename_i k0
          have h8 : lxS F n p < n := Int.lt_of_not_ge (fun z => k0 (h5.2.2.2.mpr z))
          have h9 := h7.2.2 h8
          exact ih _ _ (by omega) (by omega) (by omega) (hst p c _ h0 hp h k0 k1 (Prod.ext hs2 rfl))
def sm (g : Nat → Int) : Nat → Int
  | 0 => 0
  | n + 1 => sm g n + g n
theorem sm_u (g : Nat → Int) (k : Nat) (v : Int) : ∀ n, sm (uZ g k v) n = sm g n + if k < n then v - g k else 0 := by
  intro n
  induction n with
  | zero => rfl
  | succ n ih =>
    show sm (uZ g k v) n + uZ g k v n = sm g n + g n + _
    rw [ih]
    by_cases c : n = k
    · subst c; rw [uZ_s, if_neg (by omega), if_pos (by omega)]; omega
    · rw [uZ_n c]
      by_cases c2 : k < n
      · rw [if_pos c2, if_pos (by omega)]; omega
      · rw [if_neg c2, if_neg (by omega)]; omega
def nsum : NL → Int
  | [] => 0
  | q :: l => (q.2.length : Int) + 2 + nsum l
theorem nsum_app (a b : NL) : nsum (a ++ b) = nsum a + nsum b := by
  induction a with
  | nil => simp [nsum]
  | cons q l ih => simp only [List.cons_append, nsum, ih]; omega
/-- the word in slot s has l letters -/
def slW (N : NL) (s l : Int) : Prop := ∃ i, i < N.length ∧ slt N i = s ∧ l = ((wrd N i).length : Int)
theorem slW_mono {N : NL} {q : Int × List Int} {s l : Int} (h : slW N s l) : slW (N ++ [q]) s l := by
  obtain ⟨i, h1, h2, h3⟩ := h
  obtain ⟨e1, e2, e3⟩ := sor_app (q := q) h1
  exact ⟨i, by rw [List.length_append]; omega, by rw [e3]; exact h2, by rw [e2]; exact h3⟩
theorem slW_pos {N : NL} {s l : Int} (hN : ∀ i, i < N.length → 1 ≤ (wrd N i).length) (h : slW N s l) : 1 ≤ l := by
  obtain ⟨i, h1, h2, h3⟩ := h
  have := hN i h1
  omega
theorem slW_fd {N : NL} {w : List Int} (h : ¬ fdI w N = -1) : slW N (slt N (fdI w N).toNat) (w.length : Int) := by
  have hr := fdI_rg w N
  exact ⟨(fdI w N).toNat, by omega, rfl, by rw [fdI_some h]⟩
def sep (x : Nat) : Int := if x % 4 = 0 then 1 else 2
theorem sep_rg (x : Nat) : 1 ≤ sep x ∧ sep x ≤ 2 := by unfold sep; split <;> omega
/-- how much an action takes when printed -/
def acG (N : NL) (x : Nat) (v g : Int) : Prop := ((v = 100 ∨ v = 101) ∧ g = 4 + sep x) ∨ (∃ l, slW N (24 + v) l ∧ g = 5 + l + sep x)
theorem acG_mono {N : NL} {q : Int × List Int} {x : Nat} {v g : Int} (h : acG N x v g) : acG (N ++ [q]) x v g := by
  rcases h with h | ⟨l, h1, h2⟩
  · exact Or.inl h
  · exact Or.inr ⟨l, slW_mono h1, h2⟩
def gA (ga : Nat → Int) (j : Nat) : Int := ga (4 * j) + ga (4 * j + 1) + ga (4 * j + 2) + ga (4 * j + 3)
theorem gA_u (ga : Nat → Int) (x : Nat) (v : Int) (j : Nat) : gA (uZ ga x v) j = gA ga j + if x / 4 = j then v - ga x else 0 := by
  unfold gA
  by_cases c : x / 4 = j
  · rw [if_pos c]
    rcases (show x = 4 * j ∨ x = 4 * j + 1 ∨ x = 4 * j + 2 ∨ x = 4 * j + 3 by omega) with e | e | e | e <;> subst e
    · rw [uZ_s, uZ_n (by omega), uZ_n (by omega), uZ_n (by omega)]; omega
    · rw [uZ_s, uZ_n (by omega), uZ_n (by omega), uZ_n (by omega)]; omega
    · rw [uZ_s, uZ_n (by omega), uZ_n (by omega), uZ_n (by omega)]; omega
    · rw [uZ_s, uZ_n (by omega), uZ_n (by omega), uZ_n (by omega)]; omega
  · rw [if_neg c, uZ_n (by omega), uZ_n (by omega), uZ_n (by omega), uZ_n (by omega)]; omega
/-- no letter and no digit stands at p -/
def wb (F : Nat → Int) (n p : Int) : Prop := n ≤ p ∨ (¬ ltr (F p.toNat) = 1 ∧ ¬ dgt (F p.toNat) = 1)
theorem skN_wb (F : Nat → Int) (n : Int) : ∀ (k : Nat) (p : Int), p + k = n → wb F n (skN F k p) := by
  intro k
  induction k with
  | zero => intro p h; exact Or.inl (by unfold skN; omega)
  | succ k ih =>
    intro p h
    unfold skN
    split
    · exact ih _ (by omega)
    · rename_i c; exact Or.inr ⟨fun z => c (Or.inl z), fun z => c (Or.inr z)⟩
theorem lx_wd {F : Nat → Int} {n p : Int} (hp : p ≤ n) (hk : 6 ≤ lxK F n p) : lxK F n p = nmk (wA F n p) ∧ ((wA F n p).length : Int) = lxA F n p - lxS F n p ∧ p ≤ lxS F n p ∧ lxS F n p < lxA F n p ∧ (wb F n p → p < lxS F n p) ∧ wb F n (lxA F n p) := by
  have h4 := lx_rg F hp
  have h5 := lxK_rg F n p
  have h7 := lxA_rg F hp
  have h1 : ¬ n ≤ lxS F n p := by have := h5.2.2.1 hk; omega
  by_cases h2 : ltr (F (lxS F n p).toNat) = 1
  · have h3 := lx_name h1 h2
    have h8 := h7.2.2 (by omega)
    refine ⟨?_, ?_, h4.1, h8, fun hw => ?_, ?_⟩
    · have h9 := h3.2
      have hle := (h5.2.2.1 hk).2
      rw [if_pos hle] at h9
      exact h9
    · unfold wA; rw [seg_len]; omega
    · by_cases e : p = lxS F n p
      · rw [← e] at h2
        rcases hw with z | z
        · omega
        · exact absurd h2 z.1
      · have := h4.1; omega
    · rw [h3.1]; exact skN_wb F n _ _ (by omega)
  · rw [(lx_sign h1 h2).2] at hk
    have := sgk_rg (F (lxS F n p).toNat)
    omega
theorem nmk_10 {w : List Int} (h : nmk w = 10) : w.length = 2 := by
  by_cases z : w = wl "on"
  · rw [z]; decide +kernel
  · exfalso
    unfold nmk at h
    simp only [if_neg z] at h
    (repeat' split at h) <;> omega
theorem nmk_11 {w : List Int} (h : nmk w = 11) : w.length = 5 := by
  by_cases z : w = wl "never"
  · rw [z]; decide +kernel
  · exfalso
    unfold nmk at h
    simp only [if_neg z] at h
    (repeat' split at h) <;> omega
theorem nmk_13 {w : List Int} (h : nmk w = 13) : w.length = 4 := by
  by_cases z : w = wl "send"
  · rw [z]; decide +kernel
  · exfalso
    unfold nmk at h
    simp only [if_neg z] at h
    (repeat' split at h) <;> omega
theorem nmk_14 {w : List Int} (h : nmk w = 14) : w.length = 4 := by
  by_cases z : w = wl "take"
  · rw [z]; decide +kernel
  · exfalso
    unfold nmk at h
    simp only [if_neg z] at h
    (repeat' split at h) <;> omega
theorem nmk_15 {w : List Int} (h : nmk w = 15) : w.length = 4 := by
  by_cases z : w = wl "keep"
  · rw [z]; decide +kernel
  · exfalso
    unfold nmk at h
    simp only [if_neg z] at h
    (repeat' split at h) <;> omega
def PH (F : Nat → Int) (n p ph nv st pr ac : Int) (N : NL) (ua ga : Nat → Int) (b : Int) : Prop :=
  (ph = 0 ∨ ph = 1 ∨ ph = 2 ∨ ph = 11 → b ≤ p) ∧ (ph = 12 → b ≤ p + 1) ∧ (ph = 3 → ac = 0 ∧ b + 2 + 3 * nv ≤ p ∧ wb F n p) ∧
  (ph = 4 → ac = 0 ∧ wb F n p ∧ ∃ l1, slW N st l1 ∧ b + 3 + 3 * nv + l1 ≤ p) ∧
  (5 ≤ ph ∧ ph ≤ 10 → (∀ i : Nat, ac ≤ (i : Int) → i < 4 → ua (4 * pr.toNat + i) = -1) ∧ ∃ l1 l2, slW N (pr.toNat / 24 : Nat) l1 ∧ slW N (16 + (pr.toNat % 24 : Nat)) l2 ∧ (1 ≤ ac → 6 * ac - 1 ≤ gA ga pr.toNat) ∧ (ac = 0 → gA ga pr.toNat = 0) ∧
    (ph = 5 → ac = 0 ∧ b + 4 + l1 + l2 ≤ p) ∧ (ph = 6 → ac = 0 ∧ b + 5 + l1 + l2 ≤ p) ∧ (ph = 7 → 1 ≤ ac ∧ b + 6 + l1 + l2 + gA ga pr.toNat - ac ≤ p) ∧
    (ph = 8 → wb F n p ∧ b + 9 + l1 + l2 + gA ga pr.toNat - ac + (if ac = 0 then 0 else 1) ≤ p) ∧ (ph = 9 → 1 ≤ ac ∧ b + 5 + l1 + l2 + gA ga pr.toNat - ac ≤ p) ∧ (ph = 10 → b + 6 + l1 + l2 + gA ga pr.toNat - ac ≤ p))
/-- how much each pair takes when printed -/
def gcG (N : NL) (ug gc ga : Nat → Int) (j : Nat) : Prop := (ug j = -1 → gc j = 0) ∧ (ug j = -2 → ∃ l1 l2, slW N (j / 24 : Nat) l1 ∧ slW N (16 + (j % 24 : Nat)) l2 ∧ gc j = 9 + l1 + l2) ∧
  (0 ≤ ug j → ∃ l1 l2 l3, slW N (j / 24 : Nat) l1 ∧ slW N (16 + (j % 24 : Nat)) l2 ∧ slW N (ug j) l3 ∧ gc j = 10 + l1 + l2 + l3 + gA ga j)
theorem gcG_mono {N : NL} {q : Int × List Int} {ug gc ga : Nat → Int} {j : Nat} (h : gcG N ug gc ga j) : gcG (N ++ [q]) ug gc ga j := by
  refine ⟨h.1, fun z => ?_, fun z => ?_⟩
  · obtain ⟨l1, l2, a, b, c⟩ := h.2.1 z
    exact ⟨l1, l2, slW_mono a, slW_mono b, c⟩
  · obtain ⟨l1, l2, l3, a, b, c, d⟩ := h.2.2 z
    exact ⟨l1, l2, l3, slW_mono a, slW_mono b, slW_mono c, d⟩
/-- what is printed is no more than 1.3 of what is read, and a little -/
def PI (F : Nat → Int) (n p : Int) (c : Cf) : Prop := match c with
  | (ph, _, nv, st, pr, ac, N, ug, ua, _, _, _) => ∃ gc ga : Nat → Int, ∃ b : Int, (∀ i, i < N.length → 1 ≤ (wrd N i).length) ∧ 10 * (sm gc 384 + nsum N) ≤ 13 * b + 17 * (N.length : Int) ∧
    (∀ j, j < 384 → gcG N ug gc ga j) ∧ (∀ x, (ua x = -1 → ga x = 0) ∧ (¬ ua x = -1 → acG N x (ua x) (ga x))) ∧ PH F n p ph nv st pr ac N ua ga b
