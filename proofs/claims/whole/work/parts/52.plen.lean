theorem PI_act {F : Nat → Int} {n a ph so nv st pr ac : Int} {N : NL} {ug ua : Nat → Int} {ur uv uf v g b l1 l2 : Int} {gc ga : Nat → Int} (hI : cI (ph, so, nv, st, pr, ac, N, ug, ua, ur, uv, uf)) (hp : 5 ≤ ph ∧ ph ≤ 10) (ha : ac < 4)
    (q1 : ∀ i, i < N.length → 1 ≤ (wrd N i).length) (q2 : 10 * (sm gc 384 + nsum N) ≤ 13 * b + 17 * (N.length : Int)) (q3 : ∀ j, j < 384 → gcG N ug gc ga j) (q4 : ∀ x, (ua x = -1 → ga x = 0) ∧ (¬ ua x = -1 → acG N x (ua x) (ga x)))
    (r1 : ∀ i : Nat, ac ≤ (i : Int) → i < 4 → ua (4 * pr.toNat + i) = -1) (r2 : slW N (pr.toNat / 24 : Nat) l1) (r3 : slW N (16 + (pr.toNat % 24 : Nat)) l2) (r4 : 1 ≤ ac → 6 * ac - 1 ≤ gA ga pr.toNat) (r5 : ac = 0 → gA ga pr.toNat = 0)
    (hv : ¬ v = -1) (hg : acG N (pr * 4 + ac).toNat v g) (hb : b + 5 + l1 + l2 + gA ga pr.toNat + g - (ac + 1) ≤ a) : PI F n a (9, so, nv, st, pr, ac + 1, N, ug, uZ ua (pr * 4 + ac).toNat v, ur, uv, uf) := by
  obtain ⟨a1, a2, a3, a4, a5, a6, a7, a8, a9, a10⟩ := hI
  have h9 := a9 hp
  have ex : (pr * 4 + ac).toNat = 4 * pr.toNat + ac.toNat := by omega
  have eu : ua (pr * 4 + ac).toNat = -1 := by rw [ex]; exact r1 ac.toNat (by omega) (by omega)
  have eg : ga (pr * 4 + ac).toNat = 0 := (q4 _).1 eu
  have eA : gA (uZ ga (pr * 4 + ac).toNat g) pr.toNat = gA ga pr.toNat + g := by rw [gA_u, if_pos (by omega), eg]; omega
  have es : sep (pr * 4 + ac).toNat = if ac = 0 then 1 else 2 := by unfold sep; split <;> split <;> omega
  have hg6 : (if ac = 0 then 5 else 6) ≤ g := by
    rcases hg with z | ⟨l, z1, z2⟩
    · rw [es] at z; split <;> split at z <;> omega
    · have := slW_pos q1 z1; rw [es] at z2; split <;> split at z2 <;> omega
  refine ⟨gc, uZ ga (pr * 4 + ac).toNat g, b, q1, q2, fun j hj => ?_, fun x => ?_, fun z => by omega, fun z => by omega, fun z => by omega, fun z => by omega, fun _ => ⟨fun i hi hi4 => ?_, l1, l2, r2, r3, fun z => ?_, fun z => by omega, fun z => by omega, fun z => by omega, fun z => by omega, fun z => by omega, fun _ => ⟨by omega, by rw [eA]; omega⟩, fun z => by omega⟩⟩
  · by_cases c : j = pr.toNat
    · have := q3 j hj
      have hug : ug j = -1 := by rw [c]; exact h9.2.1
      exact ⟨this.1, fun z => by omega, fun z => by omega⟩
    · have := q3 j hj
      refine ⟨this.1, this.2.1, fun z => ?_⟩
      obtain ⟨m1, m2, m3, b1, b2, b3, b4⟩ := this.2.2 z
      exact ⟨m1, m2, m3, b1, b2, b3, by rw [gA_u, if_neg (by omega)]; omega⟩
  · by_cases c : x = (pr * 4 + ac).toNat
    · rw [c, uZ_s, uZ_s]; exact ⟨fun z => absurd z hv, fun _ => hg⟩
    · rw [uZ_n c, uZ_n c]; exact q4 x
  · rw [uZ_n (by omega)]; exact r1 i (by omega) hi4
  · rw [eA]
    by_cases c : ac = 0
    · have := r5 c; rw [if_pos c] at hg6; omega
    · have := r4 (by omega); rw [if_neg c] at hg6; omega
theorem PI_acp {F : Nat → Int} {n p a ls ph so nv st pr ac k : Int} {w : List Int} {N : NL} {ug ua : Nat → Int} {ur uv uf b l1 l2 : Int} {gc ga : Nat → Int} {c2 : Cf} (hI : cI (ph, so, nv, st, pr, ac, N, ug, ua, ur, uv, uf)) (hp : 5 ≤ ph ∧ ph ≤ 10)
    (q1 : ∀ i, i < N.length → 1 ≤ (wrd N i).length) (q2 : 10 * (sm gc 384 + nsum N) ≤ 13 * b + 17 * (N.length : Int)) (q3 : ∀ j, j < 384 → gcG N ug gc ga j) (q4 : ∀ x, (ua x = -1 → ga x = 0) ∧ (¬ ua x = -1 → acG N x (ua x) (ga x)))
    (r1 : ∀ i : Nat, ac ≤ (i : Int) → i < 4 → ua (4 * pr.toNat + i) = -1) (r2 : slW N (pr.toNat / 24 : Nat) l1) (r3 : slW N (16 + (pr.toNat % 24 : Nat)) l2) (r4 : 1 ≤ ac → 6 * ac - 1 ≤ gA ga pr.toNat) (r5 : ac = 0 → gA ga pr.toNat = 0)
    (hb : b + 5 + l1 + l2 + gA ga pr.toNat - ac + (if ac = 0 then 0 else 1) ≤ p) (hW : 6 ≤ k → k = nmk w ∧ (w.length : Int) = a - ls ∧ p ≤ ls ∧ ls < a ∧ (wb F n p → p < ls) ∧ wb F n a)
    (hs : acp k (ph, so, nv, st, pr, ac, N, ug, ua, ur, uv, uf) = (0, c2)) : PI F n a c2 := by
  have a3 := hI.2.2.1
  rw [acp_e] at hs
  split at hs
  · exact absurd (Prod.mk.inj hs).1 (by decide)
  · rename_i hk
    have hw := hW (by omega)
    have hw4 : w.length = 4 := by
      rcases (show k = 13 ∨ k = 14 ∨ k = 15 by omega) with z | z | z
      · exact nmk_13 (by omega)
      · exact nmk_14 (by omega)
      · exact nmk_15 (by omega)
    split at hs
    · exact absurd (Prod.mk.inj hs).1 (by decide)
    · split at hs
      · obtain rfl : _ = c2 := (Prod.mk.inj hs).2
        exact ⟨gc, ga, b, q1, q2, q3, q4, fun z => by omega, fun z => by omega, fun z => by omega, fun z => by omega, fun _ => ⟨r1, l1, l2, r2, r3, r4, r5, fun z => by omega, fun z => by omega, fun z => by omega, fun _ => ⟨hw.2.2.2.2.2, by omega⟩, fun z => by omega, fun z => by omega⟩⟩
      · obtain rfl : _ = c2 := (Prod.mk.inj hs).2
        have es : sep (pr * 4 + ac).toNat = if ac = 0 then 1 else 2 := by have := (hI.2.2.2.2.2.2.2.2.1 hp).1; unfold sep; split <;> split <;> omega
        refine PI_act hI hp (by omega) q1 q2 q3 q4 r1 r2 r3 r4 r5 (by split <;> omega) (Or.inl ⟨by split <;> omega, rfl⟩) ?_
        rw [es]
        split at hb <;> omega
theorem PI_core {F : Nat → Int} {n p a ls k : Int} {w : List Int} {c c2 : Cf} (hA : p + 1 ≤ a) (hW : 6 ≤ k → k = nmk w ∧ (w.length : Int) = a - ls ∧ p ≤ ls ∧ ls < a ∧ (wb F n p → p < ls) ∧ wb F n a) (k0 : ¬ k = 0) (hI : cI c) (h : PI F n p c) (hs : stp c k w = (0, c2)) : PI F n a c2 := by
  obtain ⟨ph, so, nv, st, pr, ac, N, ug, ua, ur, uv, uf⟩ := c
  have hh := hI
  obtain ⟨a1, a2, a3, a4, a5, a6, a7, a8, a9, a10⟩ := hI
  have no : ∀ {f : Int} {c3 : Cf}, ¬ f = 0 → (f, c3) = (0, c2) → PI F n a c2 := fun hf e => absurd (Prod.mk.inj e).1 hf
  obtain ⟨gc, ga, b, q1, q2, q3, q4, p0, p12, p3, p4, p5⟩ := h
  have hc2 : 0 ≤ cN 0 N ∧ cN 0 N ≤ 16 ∧ 0 ≤ cN 1 N ∧ cN 1 N ≤ 8 ∧ 0 ≤ cN 2 N ∧ cN 2 N ≤ 16 := a2
  rcases (show ph = 0 ∨ ph = 1 ∨ ph = 2 ∨ ph = 3 ∨ ph = 4 ∨ ph = 5 ∨ ph = 6 ∨ ph = 7 ∨ ph = 8 ∨ ph = 9 ∨ ph = 10 ∨ ph = 11 ∨ ph = 12 by omega) with rfl | rfl | rfl | rfl | rfl | rfl | rfl | rfl | rfl | rfl | rfl | rfl | rfl
  · have hb := p0 (by omega)
    rw [stp_0] at hs
    split at hs
    · obtain rfl : _ = c2 := (Prod.mk.inj hs).2
      exact ⟨gc, ga, b, q1, q2, q3, q4, fun _ => by omega, fun z => by omega, fun z => by omega, fun z => by omega, fun z => by omega⟩
    · split at hs
      · rename_i hk
        obtain rfl : _ = c2 := (Prod.mk.inj hs).2
        have hw := hW (by omega)
        refine ⟨gc, ga, b, q1, q2, q3, q4, fun z => by omega, fun z => by omega, fun _ => ⟨rfl, ?_, hw.2.2.2.2.2⟩, fun z => by omega, fun z => by omega⟩
        rcases hk with z | z
        · have := nmk_10 (w := w) (by omega); omega
        · have := nmk_11 (w := w) (by omega); omega
      · split at hs
        · obtain rfl : _ = c2 := (Prod.mk.inj hs).2
          exact ⟨gc, ga, b, q1, q2, q3, q4, fun _ => by omega, fun z => by omega, fun z => by omega, fun z => by omega, fun z => by omega⟩
        · exact no (by decide) hs
  · have hb := p0 (by omega)
    rw [stp_1] at hs
    split at hs
    · exact no (by decide) hs
    · rename_i hk6
      split at hs
      · exact no (by decide) hs
      · split at hs
        · exact no (by decide) hs
        · obtain rfl : _ = c2 := (Prod.mk.inj hs).2
          have hw := hW (by omega)
          have hl : (N ++ [(so, w)]).length = N.length + 1 := by rw [List.length_append]; rfl
          refine ⟨gc, ga, a, fun i hi => ?_, ?_, fun j hj => gcG_mono (q3 j hj), fun x => ⟨(q4 x).1, fun z => acG_mono ((q4 x).2 z)⟩, fun _ => by omega, fun z => by omega, fun z => by omega, fun z => by omega, fun z => by omega⟩
          · rw [hl] at hi
            by_cases c : i < N.length
            · rw [(sor_app c).2.1]; exact q1 i c
            · rw [show i = N.length by omega, sor_new.2.1]; show 1 ≤ w.length; omega
          · rw [hl, nsum_app]
            have e : nsum [(so, w)] = (w.length : Int) + 2 + 0 := rfl
            rw [e]
            omega
  · have hb := p0 (by omega)
    rw [stp_2] at hs
    split at hs
    · obtain rfl : _ = c2 := (Prod.mk.inj hs).2
      exact ⟨gc, ga, b, q1, q2, q3, q4, fun _ => by omega, fun z => by omega, fun z => by omega, fun z => by omega, fun z => by omega⟩
    · split at hs
      · obtain rfl : _ = c2 := (Prod.mk.inj hs).2
        exact ⟨gc, ga, b, q1, q2, q3, q4, fun _ => by omega, fun z => by omega, fun z => by omega, fun z => by omega, fun z => by omega⟩
      · exact no (by decide) hs
  · have hb := p3 rfl
    rw [stp_3] at hs
    split at hs
    · rename_i hf; exact no hf hs
    · rename_i hf
      have hf0 := ffl_0 (Decidable.not_not.mp hf)
      have hsl : slt N (fdI w N).toNat = bas (sor N (fdI w N).toNat) + nub N (fdI w N).toNat := rfl
      rw [hf0.2.2.elim id id, show bas 0 = 0 by decide] at hsl
      have hw := hW (by omega)
      have hlt := hw.2.2.2.2.1 hb.2.2
      have hsw := slW_fd hf0.2.1
      obtain rfl : _ = c2 := (Prod.mk.inj hs).2
      exact ⟨gc, ga, b, q1, q2, q3, q4, fun z => by omega, fun z => by omega, fun z => by omega, fun _ => ⟨hb.1, hw.2.2.2.2.2, (w.length : Int), by rw [show nub N (fdI w N).toNat = slt N (fdI w N).toNat by omega]; exact hsw, by omega⟩, fun z => by omega⟩
  · obtain ⟨hac, hwb, l1, hl1, hb⟩ := p4 rfl
    rw [stp_4] at hs
    split at hs
    · rename_i hf; exact no hf hs
    · rename_i hf
      have hf0 := ffl_0 (Decidable.not_not.mp hf)
      have h4 := a4 (by omega)
      have hsl : slt N (fdI w N).toNat = bas (sor N (fdI w N).toNat) + nub N (fdI w N).toNat := rfl
      have hbb : bas 1 = 16 ∧ bas 2 = 24 := by decide
      have hx : 16 ≤ slt N (fdI w N).toNat ∧ slt N (fdI w N).toNat < 40 := by
        rcases hf0.2.2 with z | z
        · have hn := nub_rg hf0.2.1 z; rw [z] at hsl; omega
        · have hn := nub_rg hf0.2.1 z; rw [z] at hsl; omega
      have hw := hW (by omega)
      have hlt := hw.2.2.2.2.1 hwb
      have hsw := slW_fd hf0.2.1
      generalize slt N (fdI w N).toNat = sl at hs hx hsw
      have e1 : (((st * 24 + sl - 16).toNat / 24 : Nat) : Int) = st := by omega
      have e2 : 16 + (((st * 24 + sl - 16).toNat % 24 : Nat) : Int) = sl := by omega
      split at hs
      · exact no (by decide) hs
      · rename_i hg
        have hg1 := Decidable.not_not.mp hg
        split at hs
        · rename_i hnv
          obtain rfl : _ = c2 := (Prod.mk.inj hs).2
          have hu : ∀ i : Nat, i < 4 → ua (4 * (st * 24 + sl - 16).toNat + i) = -1 := fun i hi => Decidable.byContradiction (fun z => by
            rcases a8 _ z with y | y
            · rw [show (4 * (st * 24 + sl - 16).toNat + i) / 4 = (st * 24 + sl - 16).toNat by omega] at y; omega
            · omega)
          have hz : gA ga (st * 24 + sl - 16).toNat = 0 := by
            unfold gA
            rw [(q4 _).1 (hu 1 (by omega)), (q4 _).1 (hu 2 (by omega)), (q4 _).1 (hu 3 (by omega)), (q4 (4 * (st * 24 + sl - 16).toNat)).1 (hu 0 (by omega))]
            rfl
          exact ⟨gc, ga, b, q1, q2, q3, q4, fun z => by omega, fun z => by omega, fun z => by omega, fun z => by omega, fun _ => ⟨fun i _ hi => hu i hi, l1, (w.length : Int), by rw [e1]; exact hl1, by rw [e2]; exact hsw, fun z => by omega, fun _ => hz, fun _ => ⟨hac, by omega⟩, fun z => by omega, fun z => by omega, fun z => by omega, fun z => by omega, fun z => by omega⟩⟩
        · rename_i hnv
          obtain rfl : _ = c2 := (Prod.mk.inj hs).2
          have h384 : (st * 24 + sl - 16).toNat < 384 := by omega
          have hg0 := (q3 _ h384).1 hg1
          refine ⟨uZ gc (st * 24 + sl - 16).toNat (9 + l1 + (w.length : Int)), ga, a, q1, ?_, fun j hj => ?_, q4, fun z => by omega, fun _ => by omega, fun z => by omega, fun z => by omega, fun z => by omega⟩
          · have m1 := slW_pos q1 hl1; clear p0 p12 p3 p4 p5; rw [sm_u, if_pos h384, hg0]; omega
          · by_cases c : j = (st * 24 + sl - 16).toNat
            · rw [c]
              refine ⟨fun z => ?_, fun _ => ⟨l1, (w.length : Int), by rw [e1]; exact hl1, by rw [e2]; exact hsw, uZ_s⟩, fun z => ?_⟩
              · rw [uZ_s] at z; omega
              · rw [uZ_s] at z; omega
            · unfold gcG
              rw [uZ_n c, uZ_n c]
              exact q3 j hj
  · obtain ⟨r1, l1, l2, r2, r3, r4, r5, hb, -⟩ := p5 (by omega)
    have hb := hb rfl
    rw [stp_5] at hs
    split at hs
    · obtain rfl : _ = c2 := (Prod.mk.inj hs).2
      exact ⟨gc, ga, b, q1, q2, q3, q4, fun z => by omega, fun z => by omega, fun z => by omega, fun z => by omega, fun _ => ⟨r1, l1, l2, r2, r3, r4, r5, fun z => by omega, fun _ => by omega, fun z => by omega, fun z => by omega, fun z => by omega, fun z => by omega⟩⟩
    · exact no (by decide) hs
  · obtain ⟨r1, l1, l2, r2, r3, r4, r5, -, hb, -⟩ := p5 (by omega)
    have hb := hb rfl
    have h5 := r5 hb.1
    rw [stp_6] at hs
    split at hs
    · obtain rfl : _ = c2 := (Prod.mk.inj hs).2
      exact ⟨gc, ga, b, q1, q2, q3, q4, fun z => by omega, fun z => by omega, fun z => by omega, fun z => by omega, fun _ => ⟨r1, l1, l2, r2, r3, r4, r5, fun z => by omega, fun z => by omega, fun z => by omega, fun z => by omega, fun z => by omega, fun _ => by omega⟩⟩
    · exact PI_acp hh (by omega) q1 q2 q3 q4 r1 r2 r3 r4 r5 (by rw [if_pos hb.1]; omega) hW hs
  · obtain ⟨r1, l1, l2, r2, r3, r4, r5, -, -, hb, -⟩ := p5 (by omega)
    have hb := hb rfl
    rw [stp_7] at hs
    exact PI_acp hh (by omega) q1 q2 q3 q4 r1 r2 r3 r4 r5 (by rw [if_neg (by omega)]; omega) hW hs
  · obtain ⟨r1, l1, l2, r2, r3, r4, r5, -, -, -, hb, -⟩ := p5 (by omega)
    have hb := hb rfl
    have h9 := a9 (by omega)
    have h94 := h9.2.2.2 rfl
    rw [stp_8] at hs
    split at hs
    · rename_i hf; exact no hf hs
    · rename_i hf
      have hf0 := ffl_0 (Decidable.not_not.mp hf)
      have hsl : slt N (fdI w N).toNat = bas (sor N (fdI w N).toNat) + nub N (fdI w N).toNat := rfl
      rw [hf0.2.2.elim id id, show bas 2 = 24 by decide] at hsl
      have hw := hW (by omega)
      have hlt := hw.2.2.2.2.1 hb.1
      have hsw := slW_fd hf0.2.1
      rw [hsl] at hsw
      have hn := nub_rg hf0.2.1 (s := 2) (hf0.2.2.elim id id)
      obtain rfl : _ = c2 := (Prod.mk.inj hs).2
      have es : sep (pr * 4 + ac).toNat = if ac = 0 then 1 else 2 := by unfold sep; split <;> split <;> omega
      refine PI_act hh (by omega) h94 q1 q2 q3 q4 r1 r2 r3 r4 r5 (by omega) (Or.inr ⟨(w.length : Int), hsw, rfl⟩) ?_
      rw [es]
      have hb2 := hb.2
      split at hb2 <;> split <;> omega
  · obtain ⟨r1, l1, l2, r2, r3, r4, r5, -, -, -, -, hb, -⟩ := p5 (by omega)
    have hb := hb rfl
    rw [stp_9] at hs
    split at hs
    · obtain rfl : _ = c2 := (Prod.mk.inj hs).2
      exact ⟨gc, ga, b, q1, q2, q3, q4, fun z => by omega, fun z => by omega, fun z => by omega, fun z => by omega, fun _ => ⟨r1, l1, l2, r2, r3, r4, r5, fun z => by omega, fun z => by omega, fun _ => by omega, fun z => by omega, fun z => by omega, fun z => by omega⟩⟩
    · split at hs
      · obtain rfl : _ = c2 := (Prod.mk.inj hs).2
        exact ⟨gc, ga, b, q1, q2, q3, q4, fun z => by omega, fun z => by omega, fun z => by omega, fun z => by omega, fun _ => ⟨r1, l1, l2, r2, r3, r4, r5, fun z => by omega, fun z => by omega, fun z => by omega, fun z => by omega, fun z => by omega, fun _ => by omega⟩⟩
      · exact no (by decide) hs
  · obtain ⟨r1, l1, l2, r2, r3, r4, r5, -, -, -, -, -, hb⟩ := p5 (by omega)
    have hb := hb rfl
    have h9 := a9 (by omega)
    have h384 := vpr_lt a2 h9.2.2.1
    have hg0 := (q3 _ h384).1 h9.2.1
    rw [stp_10] at hs
    split at hs
    · rename_i hf; exact no hf hs
    · rename_i hf
      have hf0 := ffl_0 (Decidable.not_not.mp hf)
      have hsl : slt N (fdI w N).toNat = bas (sor N (fdI w N).toNat) + nub N (fdI w N).toNat := rfl
      rw [hf0.2.2.elim id id, show bas 0 = 0 by decide] at hsl
      have hw := hW (by omega)
      have hsw := slW_fd hf0.2.1
      rw [show slt N (fdI w N).toNat = nub N (fdI w N).toNat by omega] at hsw
      have hn := nub_rg hf0.2.1 (s := 0) (hf0.2.2.elim id id)
      generalize nub N (fdI w N).toNat = t at hs hsw hn
      obtain rfl : _ = c2 := (Prod.mk.inj hs).2
      have m1 := slW_pos q1 r2
      have m2 := slW_pos q1 r3
      refine ⟨uZ gc pr.toNat (10 + l1 + l2 + (w.length : Int) + gA ga pr.toNat), ga, a + 1, q1, ?_, fun j hj => ?_, q4, fun z => by omega, fun _ => by omega, fun z => by omega, fun z => by omega, fun z => by omega⟩
      · rw [sm_u, if_pos h384, hg0]
        by_cases c : ac = 0
        · have := r5 c; omega
        · have := r4 (by omega); omega
      · by_cases c : j = pr.toNat
        · rw [c]
          refine ⟨fun z => ?_, fun z => ?_, fun _ => ⟨l1, l2, (w.length : Int), r2, r3, by rw [uZ_s]; exact hsw, uZ_s⟩⟩
          · rw [uZ_s] at z; omega
          · rw [uZ_s] at z; omega
        · unfold gcG
          rw [uZ_n c, uZ_n c]
          exact q3 j hj
  · have hb := p0 (by omega)
    rw [stp_11] at hs
    split at hs
    · rename_i hf; exact no hf hs
    · obtain rfl : _ = c2 := (Prod.mk.inj hs).2
      exact ⟨gc, ga, b, q1, q2, q3, q4, fun z => by omega, fun _ => by omega, fun z => by omega, fun z => by omega, fun z => by omega⟩
  · have hb := p12 rfl
    rw [stp_12] at hs
    split at hs
    · obtain rfl : _ = c2 := (Prod.mk.inj hs).2
      exact ⟨gc, ga, b, q1, q2, q3, q4, fun _ => by omega, fun z => by omega, fun z => by omega, fun z => by omega, fun z => by omega⟩
    · exact no (by decide) hs
theorem slt_sur (s : Int) : ∀ (N : NL) (n : Int), 0 ≤ n → n < cN s N → ∃ i, i < N.length ∧ sor N i = s ∧ nub N i = n := by
  intro N
  induction N with
  | nil => intro n h0 h; exact absurd h (by unfold cN; omega)
  | cons q l ih =>
    intro n h0 h
    have e : cN s (q :: l) = (if q.1 = s then 1 else 0) + cN s l := rfl
    rw [e] at h
    by_cases c : q.1 = s ∧ n = 0
    · exact ⟨0, Nat.succ_pos _, c.1, c.2.symm⟩
    · obtain ⟨i, h1, h2, h3⟩ := ih (n - (if q.1 = s then 1 else 0)) (by split <;> omega) (by omega)
      refine ⟨i + 1, Nat.succ_lt_succ h1, h2, ?_⟩
      have h3' : cN (sor l i) (l.take i) = n - (if q.1 = s then 1 else 0) := h3
      show cN (sor l i) (q :: l.take i) = n
      have e2 : cN (sor l i) (q :: l.take i) = (if q.1 = sor l i then 1 else 0) + cN (sor l i) (l.take i) := rfl
      rw [e2, h3', h2]
      omega
def smF (f : Int → Int) : Int → Nat → Int
  | _, 0 => 0
  | a, k + 1 => f a + smF f (a + 1) k
theorem nsum_sm (f : Int → Int) : ∀ (l : NL) (o0 o1 o2 : Int), (∀ i, i < l.length → (sor l i = 0 ∧ f (0 + o0 + nub l i) = ((wrd l i).length : Int) + 2) ∨ (sor l i = 1 ∧ f (16 + o1 + nub l i) = ((wrd l i).length : Int) + 2) ∨ (sor l i = 2 ∧ f (24 + o2 + nub l i) = ((wrd l i).length : Int) + 2)) →
    smF f (0 + o0) (cN 0 l).toNat + smF f (16 + o1) (cN 1 l).toNat + smF f (24 + o2) (cN 2 l).toNat = nsum l := by
  intro l
  induction l with
  | nil => intro o0 o1 o2 _; rfl
  | cons q l ih =>
    intro o0 o1 o2 h
    have e : ∀ s, cN s (q :: l) = (if q.1 = s then 1 else 0) + cN s l := fun s => rfl
    have hn : ∀ s, 0 ≤ cN s l := fun s => cN_nn s l
    have n0 := hn 0
    have n1 := hn 1
    have n2 := hn 2
    have e2 : ∀ i, nub (q :: l) (i + 1) = (if q.1 = sor l i then 1 else 0) + nub l i := fun i => rfl
    have h0 := h 0 (Nat.succ_pos _)
    have hq : nub (q :: l) 0 = 0 := rfl
    have hs : nsum (q :: l) = (q.2.length : Int) + 2 + nsum l := rfl
    have hw0 : wrd (q :: l) 0 = q.2 := rfl
    have hs0 : sor (q :: l) 0 = q.1 := rfl
    rw [hq, hw0, hs0] at h0
    rw [hs, e 0, e 1, e 2]
    rcases h0 with ⟨z, y⟩ | ⟨z, y⟩ | ⟨z, y⟩
    · rw [z, if_pos rfl, if_neg (by decide), if_neg (by decide)]
      have := ih (o0 + 1) o1 o2 (fun i hi => by
        have hh := h (i + 1) (Nat.succ_lt_succ hi)
        rw [e2, z] at hh
        rcases hh with ⟨a, b⟩ | ⟨a, b⟩ | ⟨a, b⟩
        · have a2 : sor l i = 0 := a
          rw [a2, if_pos rfl] at b
          exact Or.inl ⟨a2, by rw [show 0 + (o0 + 1) + nub l i = 0 + o0 + (1 + nub l i) by omega]; exact b⟩
        · have a2 : sor l i = 1 := a
          rw [a2, if_neg (by decide), Int.zero_add] at b
          exact Or.inr (Or.inl ⟨a2, b⟩)
        · have a2 : sor l i = 2 := a
          rw [a2, if_neg (by decide), Int.zero_add] at b
          exact Or.inr (Or.inr ⟨a2, b⟩))
      rw [show (1 + cN 0 l).toNat = (cN 0 l).toNat + 1 by omega, Int.zero_add (cN 1 l), Int.zero_add (cN 2 l)]
      show f (0 + o0) + smF f (0 + o0 + 1) _ + _ + _ = _
      rw [show 0 + (o0 + 1) = 0 + o0 + 1 by omega] at this
      rw [Int.add_zero] at y
      omega
    · rw [z, if_pos rfl, if_neg (by decide), if_neg (by decide)]
      have := ih o0 (o1 + 1) o2 (fun i hi => by
        have hh := h (i + 1) (Nat.succ_lt_succ hi)
        rw [e2, z] at hh
        rcases hh with ⟨a, b⟩ | ⟨a, b⟩ | ⟨a, b⟩
        · have a2 : sor l i = 0 := a
          rw [a2, if_neg (by decide), Int.zero_add (nub l i)] at b
          exact Or.inl ⟨a2, b⟩
        · have a2 : sor l i = 1 := a
          rw [a2, if_pos rfl] at b
          exact Or.inr (Or.inl ⟨a2, by rw [show 16 + (o1 + 1) + nub l i = 16 + o1 + (1 + nub l i) by omega]; exact b⟩)
        · have a2 : sor l i = 2 := a
          rw [a2, if_neg (by decide), Int.zero_add] at b
          exact Or.inr (Or.inr ⟨a2, b⟩))
      rw [show (1 + cN 1 l).toNat = (cN 1 l).toNat + 1 by omega, Int.zero_add (cN 0 l), Int.zero_add (cN 2 l)]
      show _ + (f (16 + o1) + smF f (16 + o1 + 1) _) + _ = _
      rw [show 16 + (o1 + 1) = 16 + o1 + 1 by omega] at this
      rw [Int.add_zero] at y
      omega
    · rw [z, if_pos rfl, if_neg (by decide), if_neg (by decide)]
      have := ih o0 o1 (o2 + 1) (fun i hi => by
        have hh := h (i + 1) (Nat.succ_lt_succ hi)
        rw [e2, z] at hh
        rcases hh with ⟨a, b⟩ | ⟨a, b⟩ | ⟨a, b⟩
        · have a2 : sor l i = 0 := a
          rw [a2, if_neg (by decide), Int.zero_add (nub l i)] at b
          exact Or.inl ⟨a2, b⟩
        · have a2 : sor l i = 1 := a
          rw [a2, if_neg (by decide), Int.zero_add] at b
          exact Or.inr (Or.inl ⟨a2, b⟩)
        · have a2 : sor l i = 2 := a
          rw [a2, if_pos rfl] at b
          exact Or.inr (Or.inr ⟨a2, by rw [show 24 + (o2 + 1) + nub l i = 24 + o2 + (1 + nub l i) by omega]; exact b⟩))
      rw [show (1 + cN 2 l).toNat = (cN 2 l).toNat + 1 by omega, Int.zero_add (cN 0 l), Int.zero_add (cN 1 l)]
      show _ + _ + (f (24 + o2) + smF f (24 + o2 + 1) _) = _
      rw [show 24 + (o2 + 1) = 24 + o2 + 1 by omega] at this
      rw [Int.add_zero] at y
      omega
theorem smF_nn {f : Int → Int} (h : ∀ a, 0 ≤ f a) : ∀ (k : Nat) (a : Int), 0 ≤ smF f a k := by
  intro k
  induction k with
  | zero => intro a; exact Int.le_refl _
  | succ k ih => intro a; have := ih (a + 1); have := h a; show 0 ≤ f a + smF f (a + 1) k; omega
theorem sm_mono {g : Nat → Int} {m : Nat} (h : ∀ j, j < m → 0 ≤ g j) : ∀ (b a : Nat), a ≤ b → b ≤ m → sm g a ≤ sm g b := by
  intro b
  induction b with
  | zero => intro a ha _; rw [show a = 0 by omega]; exact Int.le_refl _
  | succ b ih =>
    intro a ha hb
    by_cases c : a = b + 1
    · rw [c]; exact Int.le_refl _
    · have := ih a (by omega) (by omega)
      have := h b (by omega)
      show sm g a ≤ sm g b + g b
      omega
theorem wl_ln : (wl "state ").length = 6 ∧ (wl "ask ").length = 4 ∧ (wl "message ").length = 8 ∧ (wl "first ").length = 6 ∧ (wl "never ").length = 6 ∧ (wl "on ").length = 3 ∧ (wl " > ").length = 3 ∧ (wl ", ").length = 2 ∧ (wl " ").length = 1 ∧ (wl "send ").length = 5 ∧ (wl "take").length = 4 ∧ (wl "keep").length = 4 := by decide +kernel
section PL
variable {nm : Int → List Int} {nt ug ua gc ga : Nat → Int} {N : NL}
theorem jnL_len1 (b : Int) : ∀ (n : Nat) (i : Int), 1 ≤ i → ((jnL nm b n i).length : Int) = smF (fun s => ((nm s).length : Int) + 2) (b + i) n := by
  intro n
  induction n with
  | zero => intro i _; rfl
  | succ n ih =>
    intro i hi
    unfold jnL smF
    rw [if_pos (by omega), List.length_append, List.length_append, wl_ln.2.2.2.2.2.2.2.1]
    have := ih (i + 1) (by omega)
    rw [show b + i + 1 = b + (i + 1) by omega]
    omega
theorem pnL_len (t : String) (b : Int) {n : Int} (hn0 : 0 ≤ n) : ((pnL nm t b n).length : Int) ≤ (wl t).length + smF (fun s => ((nm s).length : Int) + 2) b n.toNat := by
  have h0 := smF_nn (f := fun s => ((nm s).length : Int) + 2) (fun a => by show 0 ≤ ((nm a).length : Int) + 2; omega) n.toNat b
  unfold pnL
  split
  · show (0 : Int) ≤ _; omega
  · rename_i hn
    rw [List.length_append, List.length_append]
    cases hk : n.toNat with
    | zero => exfalso; omega
    | succ k =>
      have h1 := jnL_len1 (nm := nm) b k 1 (by omega)
      have e1 : jnL nm b (k + 1) 0 = [] ++ (nm (b + 0) ++ jnL nm b k (0 + 1)) := rfl
      have e2 : smF (fun s => ((nm s).length : Int) + 2) b (k + 1) = ((nm b).length : Int) + 2 + smF (fun s => ((nm s).length : Int) + 2) (b + 1) k := rfl
      rw [e1, e2, List.length_append, List.length_append, Int.add_zero, Int.zero_add]
      simp only [List.length_cons, List.length_nil]
      omega
theorem slW_len (hnm : ∀ i, i < N.length → nm (slt N i) = wrd N i) {s l : Int} (h : slW N s l) : ((nm s).length : Int) = l := by
  obtain ⟨i, h1, h2, h3⟩ := h
  rw [← h2, hnm i h1, h3]
theorem acL_len (hnm : ∀ i, i < N.length → nm (slt N i) = wrd N i) (q4 : ∀ x, (ua x = -1 → ga x = 0) ∧ (¬ ua x = -1 → acG N x (ua x) (ga x))) {p : Int} (hp : 0 ≤ p) : ((acL nm ua p 4 0).length : Int) ≤ gA ga p.toNat := by
  have hg : ∀ x, 0 ≤ ga x := fun x => by
    by_cases c : ua x = -1
    · rw [(q4 x).1 c]; exact Int.le_refl _
    · have := sep_rg x
      rcases (q4 x).2 c with z | ⟨l, z1, z2⟩
      · omega
      · have := slW_len hnm z1; omega
  have st : ∀ (i : Nat) (n : Nat) (T : Int), i < 4 → ((acL nm ua p n ((i : Int) + 1)).length : Int) ≤ T → ((acL nm ua p (n + 1) (i : Int)).length : Int) ≤ ga (4 * p.toNat + i) + T := fun i n T hi hT => by
    have h1 := hg (4 * p.toNat + i)
    unfold acL
    have ea : aco ua p (i : Int) = ua (4 * p.toNat + i) := by unfold aco; rw [if_pos (by omega), show (p * 4 + (i : Int)).toNat = 4 * p.toNat + i by omega]
    rw [ea]
    split
    · show (0 : Int) ≤ _; omega
    · rename_i hn
      have h2 := (q4 _).2 hn
      have hs : (((if (0 : Int) < (i : Int) then wl ", " else wl " ")).length : Int) = sep (4 * p.toNat + i) := by
        unfold sep
        by_cases c : i = 0
        · rw [if_neg (by omega), if_pos (by omega), wl_ln.2.2.2.2.2.2.2.2.1]; rfl
        · rw [if_pos (by omega), if_neg (by omega), wl_ln.2.2.2.2.2.2.2.1]; rfl
      have ht : ((acW nm (ua (4 * p.toNat + i))).length : Int) + sep (4 * p.toNat + i) ≤ ga (4 * p.toNat + i) := by
        obtain ⟨-, -, -, -, -, -, -, -, -, w1, w2, w3⟩ := wl_ln
        rcases h2 with z | ⟨l, z1, z2⟩
        · unfold acW
          rcases z.1 with y | y
          · rw [if_pos y, w2]; omega
          · rw [if_neg (by omega), if_pos y, w3]; omega
        · have := slW_len hnm z1
          unfold acW
          (repeat' split) <;> (try rw [List.length_append]) <;> omega
      rw [List.length_append, List.length_append]
      omega
  have e4 : ((acL nm ua p 0 4).length : Int) ≤ 0 := Int.le_refl _
  have e3 := st 3 0 0 (by omega) e4
  have e2 := st 2 1 _ (by omega) e3
  have e1 := st 1 2 _ (by omega) e2
  have e0 := st 0 3 _ (by omega) e1
  unfold gA
  rw [Nat.add_zero] at e0
  have e0' : ((acL nm ua p 4 0).length : Int) ≤ ga (4 * p.toNat) + (ga (4 * p.toNat + 1) + (ga (4 * p.toNat + 2) + (ga (4 * p.toNat + 3) + 0))) := e0
  omega
theorem prL_len (hnm : ∀ i, i < N.length → nm (slt N i) = wrd N i) (q4 : ∀ x, (ua x = -1 → ga x = 0) ∧ (¬ ua x = -1 → acG N x (ua x) (ga x))) (hc : cnt nt) (hg : ∀ j, -2 ≤ ug j) (q3 : ∀ j, j < 384 → gcG N ug gc ga j) {s e : Int} (hv : 0 ≤ s ∧ s < nt 0 ∧ 0 ≤ e ∧ e < nt 1 + nt 2) : ((prL nm nt ug ua s e).length : Int) ≤ gc (prf nt s e).toNat := by
  have hr := prf_rg hc hv
  have hi := prf_in hv
  have he := evs_rg hc ⟨hv.2.2.1, hv.2.2.2⟩
  have hq := q3 (prf nt s e).toNat (by omega)
  have hgg := hg (prf nt s e).toNat
  have e1 : (((prf nt s e).toNat / 24 : Nat) : Int) = s := by omega
  have e2 : 16 + (((prf nt s e).toNat % 24 : Nat) : Int) = evs (nt 1) e := by omega
  obtain ⟨-, -, -, -, w1, w2, w3, -⟩ := wl_ln
  unfold gcG at hq
  rw [e1, e2] at hq
  unfold prL
  split
  · rename_i z; rw [hq.1 z]; exact Int.le_refl _
  · split
    · rename_i z
      obtain ⟨l1, l2, a, b, c⟩ := hq.2.1 z
      have := slW_len hnm a
      have := slW_len hnm b
      simp only [List.length_append, List.length_cons, List.length_nil]
      rw [c, w1]
      omega
    · obtain ⟨l1, l2, l3, a, b, d, c⟩ := hq.2.2 (by omega)
      have := slW_len hnm a
      have := slW_len hnm b
      have := slW_len hnm d
      have := acL_len hnm q4 hr.1
      simp only [List.length_append, List.length_cons, List.length_nil]
      rw [c, w2, w3]
      omega
theorem gc_nn (hnm : ∀ i, i < N.length → nm (slt N i) = wrd N i) (q4 : ∀ x, (ua x = -1 → ga x = 0) ∧ (¬ ua x = -1 → acG N x (ua x) (ga x))) (hg : ∀ j, -2 ≤ ug j) (q3 : ∀ j, j < 384 → gcG N ug gc ga j) : ∀ j, j < 384 → 0 ≤ gc j := by
  intro j hj
  have hq := q3 j hj
  have hgj := hg j
  rcases (show ug j = -1 ∨ ug j = -2 ∨ 0 ≤ ug j by omega) with z | z | z
  · rw [hq.1 z]; exact Int.le_refl _
  · obtain ⟨l1, l2, a, b, c⟩ := hq.2.1 z
    have := slW_len hnm a
    have := slW_len hnm b
    omega
  · obtain ⟨l1, l2, l3, a, b, d, c⟩ := hq.2.2 z
    have := slW_len hnm a
    have := slW_len hnm b
    have := slW_len hnm d
    have := acL_len (nm := nm) (p := (j : Int)) hnm q4 (by omega)
    rw [Int.toNat_natCast] at this
    omega
/-- where an event's pairs lie -/
def pse (m1 e : Int) : Int := if e < m1 then e else 8 + e - m1
theorem peL_len (hnm : ∀ i, i < N.length → nm (slt N i) = wrd N i) (q4 : ∀ x, (ua x = -1 → ga x = 0) ∧ (¬ ua x = -1 → acG N x (ua x) (ga x))) (hc : cnt nt) (hg : ∀ j, -2 ≤ ug j) (q3 : ∀ j, j < 384 → gcG N ug gc ga j) {s : Int} (hs : 0 ≤ s ∧ s < nt 0) : ∀ (n : Nat) (e : Int), 0 ≤ e → e + n = nt 1 + nt 2 → ((peL nm nt ug ua s n e).length : Int) ≤ sm gc (s * 24 + 24).toNat - sm gc (s * 24 + pse (nt 1) e).toNat := by
  have h0 := gc_nn hnm q4 hg q3
  have hc2 := hc
  unfold cnt at hc2
  intro n
  induction n with
  | zero =>
    intro e he hv
    have := sm_mono h0 (s * 24 + 24).toNat (s * 24 + pse (nt 1) e).toNat (by unfold pse; split <;> omega) (by omega)
    show (0 : Int) ≤ _
    omega
  | succ n ih =>
    intro e he hv
    have h1 := ih (e + 1) (by omega) (by omega)
    have hvv : 0 ≤ s ∧ s < nt 0 ∧ 0 ≤ e ∧ e < nt 1 + nt 2 := ⟨hs.1, hs.2, he, by omega⟩
    have h2 := prL_len hnm q4 hc hg q3 hvv
    have hi := prf_in hvv
    have hp : prf nt s e = s * 24 + pse (nt 1) e := by rw [hi]; unfold evs pse; split <;> omega
    have hpp : 0 ≤ pse (nt 1) e ∧ pse (nt 1) e + 1 ≤ pse (nt 1) (e + 1) ∧ pse (nt 1) (e + 1) ≤ 24 := by unfold pse; (repeat' split) <;> omega
    rw [hp] at h2
    have h3 := sm_mono h0 (s * 24 + pse (nt 1) (e + 1)).toNat ((s * 24 + pse (nt 1) e).toNat + 1) (by omega) (by omega)
    have h4 : sm gc ((s * 24 + pse (nt 1) e).toNat + 1) = sm gc (s * 24 + pse (nt 1) e).toNat + gc (s * 24 + pse (nt 1) e).toNat := rfl
    unfold peL
    rw [List.length_append]
    omega
theorem psL_len (hnm : ∀ i, i < N.length → nm (slt N i) = wrd N i) (q4 : ∀ x, (ua x = -1 → ga x = 0) ∧ (¬ ua x = -1 → acG N x (ua x) (ga x))) (hc : cnt nt) (hg : ∀ j, -2 ≤ ug j) (q3 : ∀ j, j < 384 → gcG N ug gc ga j) : ∀ (n : Nat) (s : Int), 0 ≤ s → s + n = nt 0 → ((psL nm nt ug ua n s).length : Int) ≤ sm gc 384 - sm gc (s * 24).toNat := by
  have h0 := gc_nn hnm q4 hg q3
  have hc2 := hc
  unfold cnt at hc2
  intro n
  induction n with
  | zero =>
    intro s hs hv
    have := sm_mono h0 384 (s * 24).toNat (by omega) (by omega)
    show (0 : Int) ≤ _
    omega
  | succ n ih =>
    intro s hs hv
    have h1 := ih (s + 1) (by omega) (by omega)
    have h2 := peL_len hnm q4 hc hg q3 (s := s) (by omega) (nt 1 + nt 2).toNat 0 (by omega) (by omega)
    have h3 := sm_mono h0 (s * 24 + pse (nt 1) 0).toNat (s * 24).toNat (by unfold pse; split <;> omega) (by unfold pse; split <;> omega)
    rw [show (s + 1) * 24 = s * 24 + 24 by omega] at h1
    unfold psL
    rw [List.length_append]
    omega
/-- how long a printing is -/
theorem paL_len (hnm : ∀ i, i < N.length → nm (slt N i) = wrd N i) (hs : ∀ i, i < N.length → sor N i = 0 ∨ sor N i = 1 ∨ sor N i = 2) (h12 : ∀ i, i < N.length → (wrd N i).length ≤ 12) (ht : nt 0 = cN 0 N ∧ nt 1 = cN 1 N ∧ nt 2 = cN 2 N) (q4 : ∀ x, (ua x = -1 → ga x = 0) ∧ (¬ ua x = -1 → acG N x (ua x) (ga x))) (hc : cnt nt) (hg : ∀ j, -2 ≤ ug j) (q3 : ∀ j, j < 384 → gcG N ug gc ga j) {uf : Int} (huf : uf = -1 ∨ (0 ≤ uf ∧ uf < cN 0 N)) : ((paL nm nt ug ua uf).length : Int) ≤ nsum N + sm gc 384 + 38 := by
  have hbb : bas 0 = 0 ∧ bas 1 = 16 ∧ bas 2 = 24 := by decide
  have hc2 := hc
  unfold cnt at hc2
  have h1 := nsum_sm (fun s => ((nm s).length : Int) + 2) N 0 0 0 (fun i hi => by
    have e := hnm i hi
    have e2 : slt N i = bas (sor N i) + nub N i := rfl
    rcases hs i hi with z | z | z <;> rw [z] at e2
    · exact Or.inl ⟨z, by rw [show 0 + 0 + nub N i = slt N i by omega, e]⟩
    · exact Or.inr (Or.inl ⟨z, by rw [show 16 + 0 + nub N i = slt N i by omega, e]⟩)
    · exact Or.inr (Or.inr ⟨z, by rw [show 24 + 0 + nub N i = slt N i by omega, e]⟩))
  rw [Int.add_zero, Int.add_zero, Int.add_zero, ← ht.1, ← ht.2.1, ← ht.2.2] at h1
  have p0 := pnL_len (nm := nm) "state " 0 hc2.1
  have p1 := pnL_len (nm := nm) "ask " 16 hc2.2.2.1
  have p2 := pnL_len (nm := nm) "message " 24 hc2.2.2.2.2.1
  have p3 := psL_len hnm q4 hc hg q3 (nt 0).toNat 0 (by omega) (by omega)
  have e0 : sm gc ((0 : Int) * 24).toNat = 0 := rfl
  obtain ⟨w1, w2, w3, w4, -⟩ := wl_ln
  have p4 : (((if uf = -1 then [] else wl "first " ++ (nm uf ++ [59, 10])) : List Int).length : Int) ≤ 20 := by
    rcases huf with z | z
    · rw [if_pos z]; show (0 : Int) ≤ 20; omega
    · rw [if_neg (by omega)]
      obtain ⟨i, hi, hsi, hni⟩ := slt_sur 0 N uf z.1 z.2
      have e := hnm i hi
      have e2 : slt N i = bas (sor N i) + nub N i := rfl
      rw [hsi, hbb.1, hni, Int.zero_add] at e2
      have := h12 i hi
      rw [← e, e2] at this
      simp only [List.length_append, List.length_cons, List.length_nil]
      rw [w4]
      omega
  unfold paL
  rw [List.length_append, List.length_append, List.length_append, List.length_append]
  rw [w1] at p0
  rw [w2] at p1
  rw [w3] at p2
  rw [e0] at p3
  omega
end PL
/-- all words told are letters and digits -/
def wdI (c : Cf) : Prop := match c with
  | (_, _, _, _, _, _, N, _, _, _, _, _) => ∀ i, i < N.length → ∀ x ∈ wrd N i, 48 ≤ x ∧ x ≤ 122
def cfN (c : Cf) : NL := match c with
  | (_, _, _, _, _, _, N, _, _, _, _, _) => N
theorem stp_N {c c2 : Cf} {k : Int} {w : List Int} (h : cI c) (hs : stp c k w = (0, c2)) : cfN c2 = cfN c ∨ (k = 6 ∧ ∃ so, cfN c2 = cfN c ++ [(so, w)]) := by
  obtain ⟨ph, so, nv, st, pr, ac, N, ug, ua, ur, uv, uf⟩ := c
  have a3 := h.2.2.1
  have no : ∀ {f : Int} {c3 : Cf} {P : Prop}, ¬ f = 0 → (f, c3) = (0, c2) → P := fun hf e => absurd (Prod.mk.inj e).1 hf
  have yes : ∀ {c3 : Cf}, ((0 : Int), c3) = (0, c2) → cfN c3 = N → cfN c2 = N := fun e e2 => by rw [← (Prod.mk.inj e).2]; exact e2
  show cfN c2 = N ∨ (k = 6 ∧ ∃ so, cfN c2 = N ++ [(so, w)])
  have acq : ∀ {ph : Int}, acp k (ph, so, nv, st, pr, ac, N, ug, ua, ur, uv, uf) = (0, c2) → cfN c2 = N := fun hs => by
    rw [acp_e] at hs
    split at hs
    · exact no (by decide) hs
    · split at hs
      · exact no (by decide) hs
      · split at hs
        · exact yes hs rfl
        · exact yes hs rfl
  rcases (show ph = 0 ∨ ph = 1 ∨ ph = 2 ∨ ph = 3 ∨ ph = 4 ∨ ph = 5 ∨ ph = 6 ∨ ph = 7 ∨ ph = 8 ∨ ph = 9 ∨ ph = 10 ∨ ph = 11 ∨ ph = 12 by omega) with rfl | rfl | rfl | rfl | rfl | rfl | rfl | rfl | rfl | rfl | rfl | rfl | rfl
  · rw [stp_0] at hs
    (repeat' split at hs) <;> first | exact Or.inl (yes hs rfl) | exact no (by decide) hs
  · rw [stp_1] at hs
    split at hs
    · exact no (by decide) hs
    · rename_i hk
      split at hs
      · exact no (by decide) hs
      · split at hs
        · exact no (by decide) hs
        · exact Or.inr ⟨by omega, so, by rw [← (Prod.mk.inj hs).2]; rfl⟩
  · rw [stp_2] at hs
    (repeat' split at hs) <;> first | exact Or.inl (yes hs rfl) | exact no (by decide) hs
  · rw [stp_3] at hs
    split at hs
    · rename_i hf; exact no hf hs
    · exact Or.inl (yes hs rfl)
  · rw [stp_4] at hs
    split at hs
    · rename_i hf; exact no hf hs
    · split at hs
      · exact no (by decide) hs
      · split at hs <;> exact Or.inl (yes hs rfl)
  · rw [stp_5] at hs
    (repeat' split at hs) <;> first | exact Or.inl (yes hs rfl) | exact no (by decide) hs
  · rw [stp_6] at hs
    split at hs
    · exact Or.inl (yes hs rfl)
    · exact Or.inl (acq hs)
  · rw [stp_7] at hs
    exact Or.inl (acq hs)
  · rw [stp_8] at hs
    split at hs
    · rename_i hf; exact no hf hs
    · exact Or.inl (yes hs rfl)
  · rw [stp_9] at hs
    (repeat' split at hs) <;> first | exact Or.inl (yes hs rfl) | exact no (by decide) hs
  · rw [stp_10] at hs
    split at hs
    · rename_i hf; exact no hf hs
    · exact Or.inl (yes hs rfl)
  · rw [stp_11] at hs
    split at hs
    · rename_i hf; exact no hf hs
    · exact Or.inl (yes hs rfl)
  · rw [stp_12] at hs
    (repeat' split at hs) <;> first | exact Or.inl (yes hs rfl) | exact no (by decide) hs
theorem skN_al (F : Nat → Int) : ∀ (k : Nat) (p j : Int), p ≤ j → j < skN F k p → ltr (F j.toNat) = 1 ∨ dgt (F j.toNat) = 1 := by
  intro k
  induction k with
  | zero => intro p j h1 h2; unfold skN at h2; omega
  | succ k ih =>
    intro p j h1 h2
    unfold skN at h2
    split at h2
    · rename_i c
      by_cases e : j = p
      · rw [e]; exact c
      · exact ih (p + 1) j (by omega) h2
    · omega
theorem seg_mem {F : Nat → Int} : ∀ (k a : Nat) (x : Int), x ∈ seg F a k → ∃ j, j < k ∧ x = F (a + j) := by
  intro k
  induction k with
  | zero => intro a x h; cases h
  | succ k ih =>
    intro a x h
    rcases List.mem_cons.mp h with e | e
    · exact ⟨0, by omega, e⟩
    · obtain ⟨j, hj, e2⟩ := ih (a + 1) x e
      exact ⟨j + 1, by omega, by rw [e2]; congr 1; omega⟩
theorem wA_al {F : Nat → Int} {n p : Int} (h0 : 0 ≤ p) (hp : p ≤ n) (hk : 6 ≤ lxK F n p) : ∀ x ∈ wA F n p, 48 ≤ x ∧ x ≤ 122 := by
  have h4 := lx_rg F hp
  have h5 := lxK_rg F n p
  have h1 : ¬ n ≤ lxS F n p := by have := h5.2.2.1 hk; omega
  intro x hx
  by_cases h2 : ltr (F (lxS F n p).toNat) = 1
  · have h3 := lx_name h1 h2
    unfold wA at hx
    obtain ⟨j, hj, e⟩ := seg_mem _ _ _ hx
    have h6 := skN_al F _ _ (lxS F n p + j) (by omega) (show lxS F n p + j < skN F (n - lxS F n p).toNat (lxS F n p) by rw [← h3.1]; omega)
    rw [show (lxS F n p + (j : Int)).toNat = (lxS F n p).toNat + j by omega, ← e] at h6
    unfold ltr dgt at h6
    rcases h6 with z | z <;> split at z <;> omega
  · rw [(lx_sign h1 h2).2] at hk
    have := sgk_rg (F (lxS F n p).toNat)
    omega
theorem wdI_stp {c c2 : Cf} {k : Int} {w : List Int} (h : cI c) (hw : wdI c) (hk : k = 6 → ∀ x ∈ w, 48 ≤ x ∧ x ≤ 122) (hs : stp c k w = (0, c2)) : wdI c2 := by
  have hw2 : ∀ i, i < (cfN c).length → ∀ x ∈ wrd (cfN c) i, 48 ≤ x ∧ x ≤ 122 := by
    obtain ⟨ph, so, nv, st, pr, ac, N, ug, ua, ur, uv, uf⟩ := c; exact hw
  have goal : ∀ i, i < (cfN c2).length → ∀ x ∈ wrd (cfN c2) i, 48 ≤ x ∧ x ≤ 122 := by
    rcases stp_N h hs with e | ⟨e6, so, e⟩
    · rw [e]; exact hw2
    · rw [e]
      intro i hi
      rw [List.length_append] at hi
      by_cases c3 : i < (cfN c).length
      · rw [(sor_app c3).2.1]; exact hw2 i c3
      · have : i = (cfN c).length := by simp at hi; omega
        rw [this, sor_new.2.1]; exact hk e6
  obtain ⟨ph, so, nv, st, pr, ac, N, ug, ua, ur, uv, uf⟩ := c2
  exact goal
/-- a text read without a fault -/
theorem rd_good {F : Nat → Int} {n : Int} {c : Cf} (hn : 0 ≤ n ∧ n ≤ 4096) (h1 : cI c) (h2 : PI F n 0 c) (h3 : wdI c) (h : (prun F n 4097 0 c).1 = 0) :
    (prun F n 4097 0 c).2.2.1 = 0 ∧ cI (prun F n 4097 0 c).2.2 ∧ wdI (prun F n 4097 0 c).2.2 ∧ ∃ p, p ≤ 4096 ∧ PI F n p (prun F n 4097 0 c).2.2 := by
  obtain ⟨p, c2, hp, ⟨g1, g2, g3⟩, w, hw⟩ := prun_inv (P := fun p c => cI c ∧ PI F n p c ∧ wdI c) (F := F) (n := n) (fun p c c2 h0 hp ⟨g1, g2, g3⟩ k0 k1 hs => by
    have h4 := lx_rg F hp
    have h5 := lxK_rg F n p
    have h7 := lxA_rg F hp
    have h8 : lxS F n p < n := Int.lt_of_not_ge (fun z => k0 (h5.2.2.2.mpr z))
    have h9 := h7.2.2 h8
    exact ⟨cI_stp g1 hs, PI_core (by omega) (fun z => lx_wd hp z) k0 g1 g2 hs, wdI_stp g1 g3 (fun z => wA_al h0 hp (by omega)) hs⟩) 4097 0 c (by omega) hn.1 (by omega) ⟨h1, h2, h3⟩ h
  obtain ⟨e1, e2⟩ := stp_end g1 hw
  rw [e2]
  exact ⟨e1, g1, g3, p, by omega, g2⟩
/-- the beginning -/
theorem rd_init (F : Nat → Int) (n so nv st pr ac ur uv : Int) (hso : so = 0 ∨ so = 1 ∨ so = 2) (hnv : nv = 0 ∨ nv = 1) (hac : 0 ≤ ac ∧ ac ≤ 4) : cI (0, so, nv, st, pr, ac, [], fun _ => -1, fun _ => -1, ur, uv, -1) ∧ PI F n 0 (0, so, nv, st, pr, ac, [], fun _ => -1, fun _ => -1, ur, uv, -1) ∧ wdI (0, so, nv, st, pr, ac, [], fun _ => -1, fun _ => -1, ur, uv, -1) := by
  refine ⟨⟨fun i hi => absurd hi (Nat.not_lt_zero _), ?_, ⟨by omega, by omega, hso, hnv, hac⟩, fun _ => by omega, fun j => ⟨by show (-2 : Int) ≤ -1; omega, Or.inl (by show (-1 : Int) < 0; omega)⟩, fun j hj => absurd rfl hj, fun j => ⟨Int.le_refl _, Or.inl (by show (-1 : Int) < 0; omega)⟩, fun j hj => absurd rfl hj, fun _ => by omega, Or.inl rfl⟩, ?_, fun i hi => absurd hi (Nat.not_lt_zero _)⟩
  · show (0 : Int) ≤ 0 ∧ (0 : Int) ≤ 16 ∧ (0 : Int) ≤ 0 ∧ (0 : Int) ≤ 8 ∧ (0 : Int) ≤ 0 ∧ (0 : Int) ≤ 16
    omega
  · have e : sm (fun _ => 0) 384 = 0 := by
      have : ∀ k, sm (fun _ => 0) k = 0 := fun k => by induction k with | zero => rfl | succ k ih => show sm (fun _ => 0) k + 0 = 0; rw [ih]; rfl
      exact this 384
    refine ⟨fun _ => 0, fun _ => 0, 0, fun i hi => absurd hi (Nat.not_lt_zero _), by rw [e]; unfold nsum; simp, fun j _ => ⟨fun _ => rfl, fun z => absurd z (show ¬ (-1 : Int) = -2 by decide), fun z => absurd z (show ¬ (0 : Int) ≤ -1 by decide)⟩, fun x => ⟨fun _ => rfl, fun z => absurd rfl z⟩, fun _ => by omega, fun _ => by omega, fun z => by omega, fun z => by omega, fun z => by omega⟩
/-- what has been read is printed within 5632 -/
theorem rd_print {F : Nat → Int} {n p so nv st pr ac ur uv uf : Int} {N : NL} {ug ua nt : Nat → Int} {nm : Int → List Int} (hp : p ≤ 4096) (h1 : cI (0, so, nv, st, pr, ac, N, ug, ua, ur, uv, uf)) (h2 : PI F n p (0, so, nv, st, pr, ac, N, ug, ua, ur, uv, uf))
    (hnm : ∀ i, i < N.length → nm (slt N i) = wrd N i) (h12 : ∀ i, i < N.length → (wrd N i).length ≤ 12) (ht : nt 0 = cN 0 N ∧ nt 1 = cN 1 N ∧ nt 2 = cN 2 N) {u2 : Int} (hu : u2 = -1 ∨ (0 ≤ u2 ∧ u2 < cN 0 N)) : ((paL nm nt ug ua u2).length : Int) ≤ 5632 := by
  obtain ⟨a1, a2, a3, a4, a5, a6, a7, a8, a9, a10⟩ := h1
  obtain ⟨gc, ga, b, q1, q2, q3, q4, p0, -⟩ := h2
  have hc : cnt nt := by
    have hc2 : 0 ≤ cN 0 N ∧ cN 0 N ≤ 16 ∧ 0 ≤ cN 1 N ∧ cN 1 N ≤ 8 ∧ 0 ≤ cN 2 N ∧ cN 2 N ≤ 16 := a2
    unfold cnt; rw [ht.1, ht.2.1, ht.2.2]; exact hc2
  have hl := paL_len hnm a1 h12 ht q4 hc (fun j => (a5 j).1) q3 hu
  have hb := p0 (by omega)
  have hlen := len_cN N (fun q hq => by
    obtain ⟨i, hi, e⟩ := List.getElem_of_mem hq
    have := a1 i hi
    unfold sor at this
    rw [List.getD_eq_getElem?_getD, List.getElem?_eq_getElem hi] at this
    rw [← e]
    exact this)
  have hc2 : 0 ≤ cN 0 N ∧ cN 0 N ≤ 16 ∧ 0 ≤ cN 1 N ∧ cN 1 N ≤ 8 ∧ 0 ≤ cN 2 N ∧ cN 2 N ≤ 16 := a2
  omega
