set_option maxHeartbeats 4000000 in
set_option maxRecDepth 100000 in
theorem m_M_wordHere (l : Launch) (G : GG) (sz : Nat) (aM : Nat) (aWc : Nat) (aTx : Nat) (aOu : Nat) (aSo : Nat) (aNf : Nat) (aNg : Nat) (aSr : Nat) (aNu : Nat) (aMa : Nat) (aNo : Nat) (aLe : Nat) (aAc : Nat) (aDi : Nat) (aOr : Nat) (mth : Int) (msz : Int) (mwr : Int) (mfa : Int) (mpl : Int) (mle : Int) (mna : Int) (mfi : Int) (mru : Int) (mnv : Int) (mki : Int) (mfr : Int) (mto : Int) (mwh : Int) (sF : Nat → Int) (h1 : 0 ≤ mfr ∧ mfr ≤ mto ∧ mto ≤ 4096) (hu : u8 sF) : MetI l G sz y_M_wordHere c_M_wordHere 4 (some .int) ({ frames := 0, cells := 0, slots := 0, locals := 0 } : Room) [.ref aM] [(aM, .inr (8, [.ref aWc, .int (iI mth), .int (iI msz), .ref aTx, .int (iI mwr), .ref aOu, .int (iI mfa), .int (iI mpl), .int (iI mle), .int (iI mna), .ref aSo, .ref aNf, .ref aNg, .ref aSr, .ref aNu, .ref aMa, .ref aNo, .int (iI mfi), .int (iI mru), .int (iI mnv), .ref aLe, .ref aAc, .ref aDi, .ref aOr, .int (iI mki), .int (iI mfr), .int (iI mto), .int (iI mwh)])), iA G aSo 4200 sF, iA G aWc 48 wch] (fun (r : Int32) (u : Unit) => r = iI (wrN (seg (bF sF) mfr.toNat (mto - mfr).toNat))) (fun (u : Unit) => [(aM, .inr (8, [.ref aWc, .int (iI mth), .int (iI msz), .ref aTx, .int (iI mwr), .ref aOu, .int (iI mfa), .int (iI mpl), .int (iI mle), .int (iI mna), .ref aSo, .ref aNf, .ref aNg, .ref aSr, .ref aNu, .ref aMa, .ref aNo, .int (iI mfi), .int (iI mru), .int (iI mnv), .ref aLe, .ref aAc, .ref aDi, .ref aOr, .int (iI mki), .int (iI mfr), .int (iI mto), .int (iI mwh)])), iA G aSo 4200 sF, iA G aWc 48 wch]) := by
  refine MetI.mk (by decide) (Nat.le_of_ble_eq_true rfl) (fun X C K => ?_)
  show Zc G X 4 0 0 [(aM, .inr (8, [.ref aWc, .int (iI mth), .int (iI msz), .ref aTx, .int (iI mwr), .ref aOu, .int (iI mfa), .int (iI mpl), .int (iI mle), .int (iI mna), .ref aSo, .ref aNf, .ref aNg, .ref aSr, .ref aNu, .ref aMa, .ref aNo, .int (iI mfi), .int (iI mru), .int (iI mnv), .ref aLe, .ref aAc, .ref aDi, .ref aOr, .int (iI mki), .int (iI mfr), .int (iI mto), .int (iI mwh)])), iA G aSo 4200 sF, iA G aWc 48 wch] [(0, .ref aM)] 0 []
  refine z_iconst C d_M_wordHere_0 ?_
  refine z_istore_n (lv' := [(1, .int (iI 0)), (0, .ref aM)]) C d_M_wordHere_1 (by decide) rfl ?_
  refine z_iconst C d_M_wordHere_2 ?_
  refine z_istore_n (lv' := [(2, .int (iI 0)), (1, .int (iI 0)), (0, .ref aM)]) C d_M_wordHere_3 (by decide) rfl ?_
  have loop4 : ∀ (kq : Nat) (a : Int) (w : Int), (0 ≤ w ∧ w ≤ 9 ∧ a = wst w.toNat) → (∀ v : Nat, (v : Int) < w → ¬ seg (bF sF) mfr.toNat (mto - mfr).toNat = wtx v) → ((9 - w).toNat < kq) → Zc G X 4 0 0 [(aM, .inr (8, [.ref aWc, .int (iI mth), .int (iI msz), .ref aTx, .int (iI mwr), .ref aOu, .int (iI mfa), .int (iI mpl), .int (iI mle), .int (iI mna), .ref aSo, .ref aNf, .ref aNg, .ref aSr, .ref aNu, .ref aMa, .ref aNo, .int (iI mfi), .int (iI mru), .int (iI mnv), .ref aLe, .ref aAc, .ref aDi, .ref aOr, .int (iI mki), .int (iI mfr), .int (iI mto), .int (iI mwh)])), iA G aSo 4200 sF, iA G aWc 48 wch] [(0, .ref aM), (1, .int (iI a)), (2, .int (iI w))] 4 [] := by
    intro kq
    induction kq with
    | zero => intro a w hk hno hm; exact absurd hm (Nat.not_lt_zero _)
    | succ kq ih4 =>
      intro a w hk hno hm
      -- loop body
      refine z_iload_n C d_M_wordHere_4 2 rfl ?_
      refine z_bipush C d_M_wordHere_5 (by decide) ?_
      refine z_icmp_ge (tgt := 114) C d_M_wordHere_7 (by decide) (by omega) (by omega) (fun c7 => ?_) (fun c7 => ?_)
      ·
        refine z_iconst C d_M_wordHere_114 ?_
        exact z_iret C K d_M_wordHere_115 (rfl) () (rfl) (congrArg iI (wrN_no (fun v hv => hno v (by omega))).symm)
      ·
        have hw0 := wst_0 w.toNat (by omega)
        have hwn := wst_n w.toNat (by omega)
        have hwi := W_iff (F := bF sF) (fr := mfr) (to := mto) (w := w.toNat) (by omega) (by omega)
        refine z_iconst C d_M_wordHere_10 ?_
        refine z_istore_n (lv' := [(3, .int (iI 0)), (0, .ref aM), (1, .int (iI a)), (2, .int (iI w))]) C d_M_wordHere_11 (by decide) rfl ?_
        have loop12 : ∀ (kq : Nat) (k : Int), (0 ≤ k ∧ k ≤ wle w.toNat ∧ mfr + k ≤ mto) → (∀ j : Nat, (j : Int) < k → wch (a + j).toNat = sF (mfr + j).toNat) → ((wle w.toNat - k).toNat < kq) → Zc G X 4 0 0 [(aM, .inr (8, [.ref aWc, .int (iI mth), .int (iI msz), .ref aTx, .int (iI mwr), .ref aOu, .int (iI mfa), .int (iI mpl), .int (iI mle), .int (iI mna), .ref aSo, .ref aNf, .ref aNg, .ref aSr, .ref aNu, .ref aMa, .ref aNo, .int (iI mfi), .int (iI mru), .int (iI mnv), .ref aLe, .ref aAc, .ref aDi, .ref aOr, .int (iI mki), .int (iI mfr), .int (iI mto), .int (iI mwh)])), iA G aSo 4200 sF, iA G aWc 48 wch] [(0, .ref aM), (1, .int (iI a)), (2, .int (iI w)), (3, .int (iI k))] 12 [] := by
          intro kq
          induction kq with
          | zero => intro k hj hm2 hm; exact absurd hm (Nat.not_lt_zero _)
          | succ kq ih12 =>
            intro k hj hm2 hm
            have hwr := wch_rg (a + k).toNat
            have hur := hu (mfr + k).toNat
            -- loop body
            refine z_aload_n C d_M_wordHere_12 0 rfl ?_
            refine z_get C f_M_7 d_M_wordHere_13 0 rfl rfl ?_
            refine z_iload_n C d_M_wordHere_16 1 rfl ?_
            refine z_iload_n C d_M_wordHere_17 3 rfl ?_
            refine z_iadd C d_M_wordHere_18 ?_
            refine z_iald C d_M_wordHere_19 2 rfl (by omega) ?_
            refine z_if_eq (tgt := 64) C d_M_wordHere_20 (by decide) (by omega) (fun c20 => ?_) (fun c20 => ?_)
            ·
              refine z_aload_n C d_M_wordHere_64 0 rfl ?_
              refine z_get C f_M_7 d_M_wordHere_65 0 rfl rfl ?_
              refine z_iload_n C d_M_wordHere_68 1 rfl ?_
              refine z_iload_n C d_M_wordHere_69 3 rfl ?_
              refine z_iadd C d_M_wordHere_70 ?_
              refine z_iald C d_M_wordHere_71 2 rfl (by omega) ?_
              refine z_if_ne (tgt := 90) C d_M_wordHere_72 (by decide) (by omega) (fun c72 => ?_) (fun c72 => ?_)
              · exact absurd c72 (by omega)
              ·
                refine z_aload_n C d_M_wordHere_75 0 rfl ?_
                refine z_get C f_M_86 d_M_wordHere_76 0 rfl rfl ?_
                refine z_iload_n C d_M_wordHere_79 3 rfl ?_
                refine z_iadd C d_M_wordHere_80 ?_
                refine z_aload_n C d_M_wordHere_81 0 rfl ?_
                refine z_get C f_M_76 d_M_wordHere_82 0 rfl rfl ?_
                refine z_icmp_ne (tgt := 90) C d_M_wordHere_85 (by decide) (by omega) (by omega) (fun c85 => ?_) (fun c85 => ?_)
                ·
                  have hke := wst_eq (w := w.toNat) (by omega) hk.2.2 (k := k) (by omega) c20
                  have hnw : ¬ seg (bF sF) mfr.toNat (mto - mfr).toNat = wtx w.toNat := fun z => by have := (hwi.mp z).1; omega
                  have loop90 : ∀ (kq : Nat) (b : Int), (a ≤ b ∧ b ≤ a + wle w.toNat) → ((a + wle w.toNat - b).toNat < kq) → Zc G X 4 0 0 [(aM, .inr (8, [.ref aWc, .int (iI mth), .int (iI msz), .ref aTx, .int (iI mwr), .ref aOu, .int (iI mfa), .int (iI mpl), .int (iI mle), .int (iI mna), .ref aSo, .ref aNf, .ref aNg, .ref aSr, .ref aNu, .ref aMa, .ref aNo, .int (iI mfi), .int (iI mru), .int (iI mnv), .ref aLe, .ref aAc, .ref aDi, .ref aOr, .int (iI mki), .int (iI mfr), .int (iI mto), .int (iI mwh)])), iA G aSo 4200 sF, iA G aWc 48 wch] [(0, .ref aM), (1, .int (iI b)), (2, .int (iI w))] 90 [] := by
                    intro kq
                    induction kq with
                    | zero => intro b hb hm; exact absurd hm (Nat.not_lt_zero _)
                    | succ kq ih90 =>
                      intro b hb hm
                      have hbr := wch_rg b.toNat
                      -- loop body
                      refine z_aload_n C d_M_wordHere_90 0 rfl ?_
                      refine z_get C f_M_7 d_M_wordHere_91 0 rfl rfl ?_
                      refine z_iload_n C d_M_wordHere_94 1 rfl ?_
                      refine z_iald C d_M_wordHere_95 2 rfl (by omega) ?_
                      refine z_if_eq (tgt := 105) C d_M_wordHere_96 (by decide) (by omega) (fun c96 => ?_) (fun c96 => ?_)
                      ·
                        have hbe := wst_eq (w := w.toNat) (by omega) hk.2.2 (k := b - a) (by omega) (by rw [show a + (b - a) = b by omega]; exact c96)
                        refine z_iinc (lv' := [(1, .int (iI (b + 1))), (0, .ref aM), (2, .int (iI w))]) C d_M_wordHere_105 1 rfl (by decide) rfl ?_
                        refine z_iinc (lv' := [(2, .int (iI (w + 1))), (1, .int (iI (b + 1))), (0, .ref aM)]) C d_M_wordHere_108 2 rfl (by decide) rfl ?_
                        refine z_goto (tgt := 4) C d_M_wordHere_111 (by decide) ?_
                        refine z_lv [2, 1, 0] (lv' := [(0, .ref aM), (1, .int (iI (b + 1))), (2, .int (iI (w + 1)))]) rfl ?_
                        exact ih4 _ _ (⟨by omega, by omega, by rw [show (w + 1).toNat = w.toNat + 1 by omega]; omega⟩) (fun v hv => if e : v = w.toNat then by rw [e]; exact hnw else hno v (by omega)) (by omega)
                      ·
                        refine z_iinc (lv' := [(1, .int (iI (b + 1))), (0, .ref aM), (2, .int (iI w))]) C d_M_wordHere_99 1 rfl (by decide) rfl ?_
                        refine z_goto (tgt := 90) C d_M_wordHere_102 (by decide) ?_
                        refine z_lv [1, 0, 2] (lv' := [(0, .ref aM), (1, .int (iI (b + 1))), (2, .int (iI w))]) rfl ?_
                        exact ih90 _ (by have := wst_lt (w := w.toNat) (by omega) hk.2.2 (k := b - a) (by omega) (by rw [show a + (b - a) = b by omega]; exact c96); omega) (by have := wst_lt (w := w.toNat) (by omega) hk.2.2 (k := b - a) (by omega) (by rw [show a + (b - a) = b by omega]; exact c96); omega)
                  refine z_lv [0, 1, 2] (lv' := [(0, .ref aM), (1, .int (iI a)), (2, .int (iI w))]) rfl ?_
                  exact loop90 (_ + 1) _ (by omega) (Nat.lt_succ_self _)
                ·
                  refine z_iload_n C d_M_wordHere_88 2 rfl ?_
                  have hke := wst_eq (w := w.toNat) (by omega) hk.2.2 (k := k) (by omega) (Decidable.of_not_not c72)
                  have hhit := hwi.mpr ⟨by omega, fun j hj2 => (bF_wch hu _ _).mpr (by rw [← hk.2.2]; exact hm2 j (by omega))⟩
                  exact z_iret C K d_M_wordHere_89 (rfl) () (rfl) (congrArg iI (by rw [wrN_hit (by omega) hhit]; omega))
            ·
              have hkw := wst_lt (w := w.toNat) (by omega) hk.2.2 (k := k) (by omega) c20
              refine z_aload_n C d_M_wordHere_23 0 rfl ?_
              refine z_get C f_M_86 d_M_wordHere_24 0 rfl rfl ?_
              refine z_iload_n C d_M_wordHere_27 3 rfl ?_
              refine z_iadd C d_M_wordHere_28 ?_
              refine z_aload_n C d_M_wordHere_29 0 rfl ?_
              refine z_get C f_M_76 d_M_wordHere_30 0 rfl rfl ?_
              refine z_icmp_ge (tgt := 64) C d_M_wordHere_33 (by decide) (by omega) (by omega) (fun c33 => ?_) (fun c33 => ?_)
              ·
                refine z_aload_n C d_M_wordHere_64 0 rfl ?_
                refine z_get C f_M_7 d_M_wordHere_65 0 rfl rfl ?_
                refine z_iload_n C d_M_wordHere_68 1 rfl ?_
                refine z_iload_n C d_M_wordHere_69 3 rfl ?_
                refine z_iadd C d_M_wordHere_70 ?_
                refine z_iald C d_M_wordHere_71 2 rfl (by omega) ?_
                refine z_if_ne (tgt := 90) C d_M_wordHere_72 (by decide) (by omega) (fun c72 => ?_) (fun c72 => ?_)
                ·
                  have hnw : ¬ seg (bF sF) mfr.toNat (mto - mfr).toNat = wtx w.toNat := fun z => by have := (hwi.mp z).1; omega
                  have loop90 : ∀ (kq : Nat) (b : Int), (a ≤ b ∧ b ≤ a + wle w.toNat) → ((a + wle w.toNat - b).toNat < kq) → Zc G X 4 0 0 [(aM, .inr (8, [.ref aWc, .int (iI mth), .int (iI msz), .ref aTx, .int (iI mwr), .ref aOu, .int (iI mfa), .int (iI mpl), .int (iI mle), .int (iI mna), .ref aSo, .ref aNf, .ref aNg, .ref aSr, .ref aNu, .ref aMa, .ref aNo, .int (iI mfi), .int (iI mru), .int (iI mnv), .ref aLe, .ref aAc, .ref aDi, .ref aOr, .int (iI mki), .int (iI mfr), .int (iI mto), .int (iI mwh)])), iA G aSo 4200 sF, iA G aWc 48 wch] [(0, .ref aM), (1, .int (iI b)), (2, .int (iI w))] 90 [] := by
                    intro kq
                    induction kq with
                    | zero => intro b hb hm; exact absurd hm (Nat.not_lt_zero _)
                    | succ kq ih90 =>
                      intro b hb hm
                      have hbr := wch_rg b.toNat
                      -- loop body
                      refine z_aload_n C d_M_wordHere_90 0 rfl ?_
                      refine z_get C f_M_7 d_M_wordHere_91 0 rfl rfl ?_
                      refine z_iload_n C d_M_wordHere_94 1 rfl ?_
                      refine z_iald C d_M_wordHere_95 2 rfl (by omega) ?_
                      refine z_if_eq (tgt := 105) C d_M_wordHere_96 (by decide) (by omega) (fun c96 => ?_) (fun c96 => ?_)
                      ·
                        have hbe := wst_eq (w := w.toNat) (by omega) hk.2.2 (k := b - a) (by omega) (by rw [show a + (b - a) = b by omega]; exact c96)
                        refine z_iinc (lv' := [(1, .int (iI (b + 1))), (0, .ref aM), (2, .int (iI w))]) C d_M_wordHere_105 1 rfl (by decide) rfl ?_
                        refine z_iinc (lv' := [(2, .int (iI (w + 1))), (1, .int (iI (b + 1))), (0, .ref aM)]) C d_M_wordHere_108 2 rfl (by decide) rfl ?_
                        refine z_goto (tgt := 4) C d_M_wordHere_111 (by decide) ?_
                        refine z_lv [2, 1, 0] (lv' := [(0, .ref aM), (1, .int (iI (b + 1))), (2, .int (iI (w + 1)))]) rfl ?_
                        exact ih4 _ _ (⟨by omega, by omega, by rw [show (w + 1).toNat = w.toNat + 1 by omega]; omega⟩) (fun v hv => if e : v = w.toNat then by rw [e]; exact hnw else hno v (by omega)) (by omega)
                      ·
                        refine z_iinc (lv' := [(1, .int (iI (b + 1))), (0, .ref aM), (2, .int (iI w))]) C d_M_wordHere_99 1 rfl (by decide) rfl ?_
                        refine z_goto (tgt := 90) C d_M_wordHere_102 (by decide) ?_
                        refine z_lv [1, 0, 2] (lv' := [(0, .ref aM), (1, .int (iI (b + 1))), (2, .int (iI w))]) rfl ?_
                        exact ih90 _ (by have := wst_lt (w := w.toNat) (by omega) hk.2.2 (k := b - a) (by omega) (by rw [show a + (b - a) = b by omega]; exact c96); omega) (by have := wst_lt (w := w.toNat) (by omega) hk.2.2 (k := b - a) (by omega) (by rw [show a + (b - a) = b by omega]; exact c96); omega)
                  refine z_lv [0, 1, 2] (lv' := [(0, .ref aM), (1, .int (iI a)), (2, .int (iI w))]) rfl ?_
                  exact loop90 (_ + 1) _ (by omega) (Nat.lt_succ_self _)
                · exact absurd c72 (by omega)
              ·
                refine z_aload_n C d_M_wordHere_36 0 rfl ?_
                refine z_get C f_M_7 d_M_wordHere_37 0 rfl rfl ?_
                refine z_iload_n C d_M_wordHere_40 1 rfl ?_
                refine z_iload_n C d_M_wordHere_41 3 rfl ?_
                refine z_iadd C d_M_wordHere_42 ?_
                refine z_iald C d_M_wordHere_43 2 rfl (by omega) ?_
                refine z_aload_n C d_M_wordHere_44 0 rfl ?_
                refine z_get C f_M_19 d_M_wordHere_45 0 rfl rfl ?_
                refine z_aload_n C d_M_wordHere_48 0 rfl ?_
                refine z_get C f_M_86 d_M_wordHere_49 0 rfl rfl ?_
                refine z_iload_n C d_M_wordHere_52 3 rfl ?_
                refine z_iadd C d_M_wordHere_53 ?_
                refine z_iald C d_M_wordHere_54 1 rfl (by omega) ?_
                refine z_icmp_ne (tgt := 64) C d_M_wordHere_55 (by decide) (by omega) (by omega) (fun c55 => ?_) (fun c55 => ?_)
                ·
                  refine z_aload_n C d_M_wordHere_64 0 rfl ?_
                  refine z_get C f_M_7 d_M_wordHere_65 0 rfl rfl ?_
                  refine z_iload_n C d_M_wordHere_68 1 rfl ?_
                  refine z_iload_n C d_M_wordHere_69 3 rfl ?_
                  refine z_iadd C d_M_wordHere_70 ?_
                  refine z_iald C d_M_wordHere_71 2 rfl (by omega) ?_
                  refine z_if_ne (tgt := 90) C d_M_wordHere_72 (by decide) (by omega) (fun c72 => ?_) (fun c72 => ?_)
                  ·
                    have hnw : ¬ seg (bF sF) mfr.toNat (mto - mfr).toNat = wtx w.toNat := fun z => c55 (by have := (bF_wch hu _ _).mp ((hwi.mp z).2 k.toNat (by omega)); rw [show ((k.toNat : Nat) : Int) = k by omega, ← hk.2.2] at this; exact this)
                    have loop90 : ∀ (kq : Nat) (b : Int), (a ≤ b ∧ b ≤ a + wle w.toNat) → ((a + wle w.toNat - b).toNat < kq) → Zc G X 4 0 0 [(aM, .inr (8, [.ref aWc, .int (iI mth), .int (iI msz), .ref aTx, .int (iI mwr), .ref aOu, .int (iI mfa), .int (iI mpl), .int (iI mle), .int (iI mna), .ref aSo, .ref aNf, .ref aNg, .ref aSr, .ref aNu, .ref aMa, .ref aNo, .int (iI mfi), .int (iI mru), .int (iI mnv), .ref aLe, .ref aAc, .ref aDi, .ref aOr, .int (iI mki), .int (iI mfr), .int (iI mto), .int (iI mwh)])), iA G aSo 4200 sF, iA G aWc 48 wch] [(0, .ref aM), (1, .int (iI b)), (2, .int (iI w))] 90 [] := by
                      intro kq
                      induction kq with
                      | zero => intro b hb hm; exact absurd hm (Nat.not_lt_zero _)
                      | succ kq ih90 =>
                        intro b hb hm
                        have hbr := wch_rg b.toNat
                        -- loop body
                        refine z_aload_n C d_M_wordHere_90 0 rfl ?_
                        refine z_get C f_M_7 d_M_wordHere_91 0 rfl rfl ?_
                        refine z_iload_n C d_M_wordHere_94 1 rfl ?_
                        refine z_iald C d_M_wordHere_95 2 rfl (by omega) ?_
                        refine z_if_eq (tgt := 105) C d_M_wordHere_96 (by decide) (by omega) (fun c96 => ?_) (fun c96 => ?_)
                        ·
                          have hbe := wst_eq (w := w.toNat) (by omega) hk.2.2 (k := b - a) (by omega) (by rw [show a + (b - a) = b by omega]; exact c96)
                          refine z_iinc (lv' := [(1, .int (iI (b + 1))), (0, .ref aM), (2, .int (iI w))]) C d_M_wordHere_105 1 rfl (by decide) rfl ?_
                          refine z_iinc (lv' := [(2, .int (iI (w + 1))), (1, .int (iI (b + 1))), (0, .ref aM)]) C d_M_wordHere_108 2 rfl (by decide) rfl ?_
                          refine z_goto (tgt := 4) C d_M_wordHere_111 (by decide) ?_
                          refine z_lv [2, 1, 0] (lv' := [(0, .ref aM), (1, .int (iI (b + 1))), (2, .int (iI (w + 1)))]) rfl ?_
                          exact ih4 _ _ (⟨by omega, by omega, by rw [show (w + 1).toNat = w.toNat + 1 by omega]; omega⟩) (fun v hv => if e : v = w.toNat then by rw [e]; exact hnw else hno v (by omega)) (by omega)
                        ·
                          refine z_iinc (lv' := [(1, .int (iI (b + 1))), (0, .ref aM), (2, .int (iI w))]) C d_M_wordHere_99 1 rfl (by decide) rfl ?_
                          refine z_goto (tgt := 90) C d_M_wordHere_102 (by decide) ?_
                          refine z_lv [1, 0, 2] (lv' := [(0, .ref aM), (1, .int (iI (b + 1))), (2, .int (iI w))]) rfl ?_
                          exact ih90 _ (by have := wst_lt (w := w.toNat) (by omega) hk.2.2 (k := b - a) (by omega) (by rw [show a + (b - a) = b by omega]; exact c96); omega) (by have := wst_lt (w := w.toNat) (by omega) hk.2.2 (k := b - a) (by omega) (by rw [show a + (b - a) = b by omega]; exact c96); omega)
                    refine z_lv [0, 1, 2] (lv' := [(0, .ref aM), (1, .int (iI a)), (2, .int (iI w))]) rfl ?_
                    exact loop90 (_ + 1) _ (by omega) (Nat.lt_succ_self _)
                  · exact absurd c72 (by omega)
                ·
                  refine z_iinc (lv' := [(3, .int (iI (k + 1))), (0, .ref aM), (1, .int (iI a)), (2, .int (iI w))]) C d_M_wordHere_58 3 rfl (by decide) rfl ?_
                  refine z_goto (tgt := 12) C d_M_wordHere_61 (by decide) ?_
                  refine z_lv [1, 2, 3, 0] (lv' := [(0, .ref aM), (1, .int (iI a)), (2, .int (iI w)), (3, .int (iI (k + 1)))]) rfl ?_
                  exact ih12 _ (by omega) (fun j hj2 => if e : (j : Int) = k then by rw [e]; exact Decidable.of_not_not c55 else hm2 j (by omega)) (by omega)
        refine z_lv [1, 2, 3, 0] (lv' := [(0, .ref aM), (1, .int (iI a)), (2, .int (iI w)), (3, .int (iI 0))]) rfl ?_
        exact loop12 (_ + 1) _ (by omega) (fun j hj => absurd hj (by omega)) (Nat.lt_succ_self _)
  refine z_lv [2, 1, 0] (lv' := [(0, .ref aM), (1, .int (iI 0)), (2, .int (iI 0))]) rfl ?_
  exact loop4 (_ + 1) _ _ (⟨by decide, by decide, rfl⟩) (fun v hv => absurd hv (by omega)) (Nat.lt_succ_self _)
