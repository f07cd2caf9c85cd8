set_option maxHeartbeats 4000000 in
set_option maxRecDepth 100000 in
theorem m_M_widthOf (l : Launch) (G : GG) (sz : Nat) (aM : Nat) (aWc : Nat) (aTx : Nat) (aOu : Nat) (aSo : Nat) (aNf : Nat) (aNg : Nat) (aSr : Nat) (aNu : Nat) (aMa : Nat) (aNo : Nat) (aLe : Nat) (aAc : Nat) (aDi : Nat) (aOr : Nat) (mth : Int) (msz : Int) (mwr : Int) (mfa : Int) (mpl : Int) (mle : Int) (mna : Int) (mfi : Int) (mru : Int) (mnv : Int) (mki : Int) (mfr : Int) (mto : Int) (mwh : Int) (sF : Nat → Int) (nf : Nat → Int) (ng : Nat → Int) (no : Nat → Int) (ma : Nat → Int) (le : Nat → Int) (nn : Nat → Int) (nm : Int → List Int) (e : Int) (hnm : NmM sF nf ng no ma nm) (hct : cnt ma) (hnn : nnO nm nn) (hn : ∀ j, 0 ≤ nn j ∧ nn j ≤ 12) (hgl : ∀ j, -2 ≤ le j ∧ (le j < 0 ∨ le j < ma 0)) (h1 : 0 ≤ e ∧ e < ma 1 + ma 2) : MetI l G sz y_M_widthOf c_M_widthOf 4 (some .int) ({ frames := 2, cells := 0, slots := 0, locals := 43 } : Room) [.ref aM, .int (iI e)] [(aM, .inr (8, [.ref aWc, .int (iI mth), .int (iI msz), .ref aTx, .int (iI mwr), .ref aOu, .int (iI mfa), .int (iI mpl), .int (iI mle), .int (iI mna), .ref aSo, .ref aNf, .ref aNg, .ref aSr, .ref aNu, .ref aMa, .ref aNo, .int (iI mfi), .int (iI mru), .int (iI mnv), .ref aLe, .ref aAc, .ref aDi, .ref aOr, .int (iI mki), .int (iI mfr), .int (iI mto), .int (iI mwh)])), iA G aNo 48 no, iA G aNf 40 nf, iA G aNg 40 ng, iA G aMa 3 ma, iA G aLe 384 le] (fun (r : Int32) (u : Unit) => r = iI (wdE nn ma le e)) (fun (u : Unit) => [(aM, .inr (8, [.ref aWc, .int (iI mth), .int (iI msz), .ref aTx, .int (iI mwr), .ref aOu, .int (iI mfa), .int (iI mpl), .int (iI mle), .int (iI mna), .ref aSo, .ref aNf, .ref aNg, .ref aSr, .ref aNu, .ref aMa, .ref aNo, .int (iI mfi), .int (iI mru), .int (iI mnv), .ref aLe, .ref aAc, .ref aDi, .ref aOr, .int (iI mki), .int (iI mfr), .int (iI mto), .int (iI mwh)])), iA G aNo 48 no, iA G aNf 40 nf, iA G aNg 40 ng, iA G aMa 3 ma, iA G aLe 384 le]) := by
  refine MetI.mk (by decide) (Nat.le_of_ble_eq_true rfl) (fun X C K => ?_)
  show Zc G X 4 0 0 [(aM, .inr (8, [.ref aWc, .int (iI mth), .int (iI msz), .ref aTx, .int (iI mwr), .ref aOu, .int (iI mfa), .int (iI mpl), .int (iI mle), .int (iI mna), .ref aSo, .ref aNf, .ref aNg, .ref aSr, .ref aNu, .ref aMa, .ref aNo, .int (iI mfi), .int (iI mru), .int (iI mnv), .ref aLe, .ref aAc, .ref aDi, .ref aOr, .int (iI mki), .int (iI mfr), .int (iI mto), .int (iI mwh)])), iA G aNo 48 no, iA G aNf 40 nf, iA G aNg 40 ng, iA G aMa 3 ma, iA G aLe 384 le] [(0, .ref aM), (1, .int (iI e))] 0 []
  have hcc := hct
  unfold cnt at hcc
  have hev := evs_rg hct (nt := ma) (e := e) (by omega)
  have hlv := NmM_ev hnm (e := e) (by omega)
  have hne := nnO_z hnn (s := evs (ma 1) e) (by omega)
  refine z_iload_n C d_M_widthOf_0 1 rfl ?_
  refine z_aload_n C d_M_widthOf_1 0 rfl ?_
  refine z_get C f_M_34 d_M_widthOf_2 0 rfl rfl ?_
  refine z_iconst C d_M_widthOf_5 ?_
  refine z_iald C d_M_widthOf_6 4 rfl (by omega) ?_
  refine z_topi (y := iI (ma 1)) (rfl) ?_
  refine z_icmp_ge (tgt := 19) C d_M_widthOf_7 (by decide) (by omega) (by omega) (fun c7 => ?_) (fun c7 => ?_)
  ·
    refine z_aload_n C d_M_widthOf_19 0 rfl ?_
    refine z_iconst C d_M_widthOf_20 ?_
    refine z_iload_n C d_M_widthOf_21 1 rfl ?_
    refine z_aload_n C d_M_widthOf_22 0 rfl ?_
    refine z_get C f_M_34 d_M_widthOf_23 0 rfl rfl ?_
    refine z_iconst C d_M_widthOf_26 ?_
    refine z_iald C d_M_widthOf_27 4 rfl (by omega) ?_
    refine z_topi (y := iI (ma 1)) (rfl) ?_
    refine z_isub C d_M_widthOf_28 ?_
    refine z_calli (As := [.int (iI 2), .int (iI (e - (ma 1)))]) (rest := []) (wr := [iA G aMa 3 ma, iA G aLe 384 le]) (ws' := fun u => [(aM, .inr (8, [.ref aWc, .int (iI mth), .int (iI msz), .ref aTx, .int (iI mwr), .ref aOu, .int (iI mfa), .int (iI mpl), .int (iI mle), .int (iI mna), .ref aSo, .ref aNf, .ref aNg, .ref aSr, .ref aNu, .ref aMa, .ref aNo, .int (iI mfi), .int (iI mru), .int (iI mnv), .ref aLe, .ref aAc, .ref aDi, .ref aOr, .int (iI mki), .int (iI mfr), .int (iI mto), .int (iI mwh)])), iA G aNo 48 no, iA G aNf 40 nf, iA G aNg 40 ng, iA G aMa 3 ma, iA G aLe 384 le]) (q0 := 0) C k_M_218 kc_M_lengthOf (fun l sz => m_M_lengthOf l G sz aM aWc aTx aOu aSo aNf aNg aSr aNu aMa aNo aLe aAc aDi aOr mth msz mwr mfa mpl mle mna mfi mru mnv mki mfr mto mwh sF nf ng no ma nm 2 (e - (ma 1)) (evs (ma 1) e) (hnm) (hct) (by omega) (by have h7 := maZ_e ma; have h6 := bas_e; omega) (by have h7 := maZ_e ma; have h6 := bas_e; unfold evs; rw [if_neg (by omega)]; omega)) rfl rfl (Nat.le_of_ble_eq_true rfl) (by decide) d_M_widthOf_29 rfl rfl [0, 1, 2, 3] [4, 5] [2, 3, 4, 5, 0, 1] rfl rfl (by decide) (fun u => rfl) (fun r u h29 => ?_)
    obtain rfl := h29
    show Zc G X 4 0 0 [(aM, .inr (8, [.ref aWc, .int (iI mth), .int (iI msz), .ref aTx, .int (iI mwr), .ref aOu, .int (iI mfa), .int (iI mpl), .int (iI mle), .int (iI mna), .ref aSo, .ref aNf, .ref aNg, .ref aSr, .ref aNu, .ref aMa, .ref aNo, .int (iI mfi), .int (iI mru), .int (iI mnv), .ref aLe, .ref aAc, .ref aDi, .ref aOr, .int (iI mki), .int (iI mfr), .int (iI mto), .int (iI mwh)])), iA G aNo 48 no, iA G aNf 40 nf, iA G aNg 40 ng, iA G aMa 3 ma, iA G aLe 384 le] [(0, .ref aM), (1, .int (iI e))] 32 [.int (iI ((nm (evs (ma 1) e)).length : Int))]
    refine z_istore_n (lv' := [(2, .int (iI ((nm (evs (ma 1) e)).length : Int))), (0, .ref aM), (1, .int (iI e))]) C d_M_widthOf_32 (by decide) rfl ?_
    refine z_iconst C d_M_widthOf_33 ?_
    refine z_istore_n (lv' := [(3, .int (iI 0)), (2, .int (iI ((nm (evs (ma 1) e)).length : Int))), (0, .ref aM), (1, .int (iI e))]) C d_M_widthOf_34 (by decide) rfl ?_
    have loop35 : ∀ (kq : Nat) (k : Int) (w : Int), (0 ≤ k ∧ k ≤ ma 0 ∧ 1 ≤ w ∧ w ≤ 12) → (wdS nn ma le e (ma 0 - k).toNat k w = wdE nn ma le e) → ((ma 0 - k).toNat < kq) → Zc G X 4 0 0 [(aM, .inr (8, [.ref aWc, .int (iI mth), .int (iI msz), .ref aTx, .int (iI mwr), .ref aOu, .int (iI mfa), .int (iI mpl), .int (iI mle), .int (iI mna), .ref aSo, .ref aNf, .ref aNg, .ref aSr, .ref aNu, .ref aMa, .ref aNo, .int (iI mfi), .int (iI mru), .int (iI mnv), .ref aLe, .ref aAc, .ref aDi, .ref aOr, .int (iI mki), .int (iI mfr), .int (iI mto), .int (iI mwh)])), iA G aNo 48 no, iA G aNf 40 nf, iA G aNg 40 ng, iA G aMa 3 ma, iA G aLe 384 le] [(0, .ref aM), (1, .int (iI e)), (2, .int (iI w)), (3, .int (iI k))] 35 [] := by
      intro kq
      induction kq with
      | zero => intro k w hk hE hm; exact absurd hm (Nat.not_lt_zero _)
      | succ kq ih35 =>
        intro k w hk hE hm
        -- loop body
        refine z_iload_n C d_M_widthOf_35 3 rfl ?_
        refine z_aload_n C d_M_widthOf_36 0 rfl ?_
        refine z_get C f_M_34 d_M_widthOf_37 0 rfl rfl ?_
        refine z_iconst C d_M_widthOf_40 ?_
        refine z_iald C d_M_widthOf_41 4 rfl (by omega) ?_
        refine z_topi (y := iI (ma 0)) (rfl) ?_
        refine z_icmp_ge (tgt := 102) C d_M_widthOf_42 (by decide) (by omega) (by omega) (fun c42 => ?_) (fun c42 => ?_)
        ·
          rw [show (ma 0 - k).toNat = 0 by omega] at hE
          have hE2 : w = wdE nn ma le e := hE
          refine z_iload_n C d_M_widthOf_102 2 rfl ?_
          exact z_iret C K d_M_widthOf_103 (rfl) () (rfl) (congrArg iI hE2)
        ·
          have hpr := prf_rg hct (s := k) (e := e) (by omega)
          have hgk := hgl (prf ma k e).toNat
          refine z_aload_n C d_M_widthOf_45 0 rfl ?_
          refine z_get C f_M_40 d_M_widthOf_46 0 rfl rfl ?_
          refine z_aload_n C d_M_widthOf_49 0 rfl ?_
          refine z_iload_n C d_M_widthOf_50 3 rfl ?_
          refine z_iload_n C d_M_widthOf_51 1 rfl ?_
          refine z_calli (As := [.int (iI k), .int (iI e)]) (rest := [.ref aLe]) (wr := [iA G aNo 48 no, iA G aNf 40 nf, iA G aNg 40 ng, iA G aLe 384 le]) (ws' := fun u => [(aM, .inr (8, [.ref aWc, .int (iI mth), .int (iI msz), .ref aTx, .int (iI mwr), .ref aOu, .int (iI mfa), .int (iI mpl), .int (iI mle), .int (iI mna), .ref aSo, .ref aNf, .ref aNg, .ref aSr, .ref aNu, .ref aMa, .ref aNo, .int (iI mfi), .int (iI mru), .int (iI mnv), .ref aLe, .ref aAc, .ref aDi, .ref aOr, .int (iI mki), .int (iI mfr), .int (iI mto), .int (iI mwh)])), iA G aNo 48 no, iA G aNf 40 nf, iA G aNg 40 ng, iA G aMa 3 ma, iA G aLe 384 le]) (q0 := 0) C k_M_182 kc_M_at (fun l sz => m_M_at l G sz aM aWc aTx aOu aSo aNf aNg aSr aNu aMa aNo aLe aAc aDi aOr mth msz mwr mfa mpl mle mna mfi mru mnv mki mfr mto mwh ma k e (hct) (by omega)) rfl rfl (Nat.le_of_ble_eq_true rfl) (by decide) d_M_widthOf_52 rfl rfl [0, 4] [1, 2, 3, 5] [4, 0, 1, 2, 5, 3] rfl rfl (by decide) (fun u => rfl) (fun r u h52 => ?_)
          obtain rfl := h52
          show Zc G X 4 0 0 [(aM, .inr (8, [.ref aWc, .int (iI mth), .int (iI msz), .ref aTx, .int (iI mwr), .ref aOu, .int (iI mfa), .int (iI mpl), .int (iI mle), .int (iI mna), .ref aSo, .ref aNf, .ref aNg, .ref aSr, .ref aNu, .ref aMa, .ref aNo, .int (iI mfi), .int (iI mru), .int (iI mnv), .ref aLe, .ref aAc, .ref aDi, .ref aOr, .int (iI mki), .int (iI mfr), .int (iI mto), .int (iI mwh)])), iA G aNo 48 no, iA G aNf 40 nf, iA G aNg 40 ng, iA G aMa 3 ma, iA G aLe 384 le] [(0, .ref aM), (1, .int (iI e)), (2, .int (iI w)), (3, .int (iI k))] 55 [.int (iI (prf ma k e)), .ref aLe]
          refine z_iald C d_M_widthOf_55 5 rfl (by omega) ?_
          refine z_if_lt (tgt := 96) C d_M_widthOf_56 (by decide) (by omega) (fun c56 => ?_) (fun c56 => ?_)
          ·
            refine z_iinc (lv' := [(3, .int (iI (k + 1))), (0, .ref aM), (1, .int (iI e)), (2, .int (iI w))]) C d_M_widthOf_96 3 rfl (by decide) rfl ?_
            refine z_goto (tgt := 35) C d_M_widthOf_99 (by decide) ?_
            refine z_lv [1, 2, 3, 0] (lv' := [(0, .ref aM), (1, .int (iI e)), (2, .int (iI w)), (3, .int (iI (k + 1)))]) rfl ?_
            exact ih35 _ _ (by omega) (by rw [wdS_step nn ma le e w (by omega), if_neg (by omega)] at hE; exact hE) (by omega)
          ·
            have hnl := NmM_st hnm (s := le (prf ma k e).toNat) (by omega)
            have hnz := nnO_z hnn (s := le (prf ma k e).toNat) (by omega)
            refine z_aload_n C d_M_widthOf_59 0 rfl ?_
            refine z_iconst C d_M_widthOf_60 ?_
            refine z_aload_n C d_M_widthOf_61 0 rfl ?_
            refine z_get C f_M_40 d_M_widthOf_62 0 rfl rfl ?_
            refine z_aload_n C d_M_widthOf_65 0 rfl ?_
            refine z_iload_n C d_M_widthOf_66 3 rfl ?_
            refine z_iload_n C d_M_widthOf_67 1 rfl ?_
            refine z_calli (As := [.int (iI k), .int (iI e)]) (rest := [.ref aLe, .int (iI 0), .ref aM]) (wr := [iA G aNo 48 no, iA G aNf 40 nf, iA G aNg 40 ng, iA G aLe 384 le]) (ws' := fun u => [(aM, .inr (8, [.ref aWc, .int (iI mth), .int (iI msz), .ref aTx, .int (iI mwr), .ref aOu, .int (iI mfa), .int (iI mpl), .int (iI mle), .int (iI mna), .ref aSo, .ref aNf, .ref aNg, .ref aSr, .ref aNu, .ref aMa, .ref aNo, .int (iI mfi), .int (iI mru), .int (iI mnv), .ref aLe, .ref aAc, .ref aDi, .ref aOr, .int (iI mki), .int (iI mfr), .int (iI mto), .int (iI mwh)])), iA G aNo 48 no, iA G aNf 40 nf, iA G aNg 40 ng, iA G aMa 3 ma, iA G aLe 384 le]) (q0 := 0) C k_M_182 kc_M_at (fun l sz => m_M_at l G sz aM aWc aTx aOu aSo aNf aNg aSr aNu aMa aNo aLe aAc aDi aOr mth msz mwr mfa mpl mle mna mfi mru mnv mki mfr mto mwh ma k e (hct) (by omega)) rfl rfl (Nat.le_of_ble_eq_true rfl) (by decide) d_M_widthOf_68 rfl rfl [0, 4] [1, 2, 3, 5] [4, 0, 1, 2, 5, 3] rfl rfl (by decide) (fun u => rfl) (fun r u h68 => ?_)
            obtain rfl := h68
            show Zc G X 4 0 0 [(aM, .inr (8, [.ref aWc, .int (iI mth), .int (iI msz), .ref aTx, .int (iI mwr), .ref aOu, .int (iI mfa), .int (iI mpl), .int (iI mle), .int (iI mna), .ref aSo, .ref aNf, .ref aNg, .ref aSr, .ref aNu, .ref aMa, .ref aNo, .int (iI mfi), .int (iI mru), .int (iI mnv), .ref aLe, .ref aAc, .ref aDi, .ref aOr, .int (iI mki), .int (iI mfr), .int (iI mto), .int (iI mwh)])), iA G aNo 48 no, iA G aNf 40 nf, iA G aNg 40 ng, iA G aMa 3 ma, iA G aLe 384 le] [(0, .ref aM), (1, .int (iI e)), (2, .int (iI w)), (3, .int (iI k))] 71 [.int (iI (prf ma k e)), .ref aLe, .int (iI 0), .ref aM]
            refine z_iald C d_M_widthOf_71 5 rfl (by omega) ?_
            refine z_calli (As := [.int (iI 0), .int (iI (le ((prf ma k e).toNat)))]) (rest := []) (wr := [iA G aMa 3 ma, iA G aLe 384 le]) (ws' := fun u => [(aM, .inr (8, [.ref aWc, .int (iI mth), .int (iI msz), .ref aTx, .int (iI mwr), .ref aOu, .int (iI mfa), .int (iI mpl), .int (iI mle), .int (iI mna), .ref aSo, .ref aNf, .ref aNg, .ref aSr, .ref aNu, .ref aMa, .ref aNo, .int (iI mfi), .int (iI mru), .int (iI mnv), .ref aLe, .ref aAc, .ref aDi, .ref aOr, .int (iI mki), .int (iI mfr), .int (iI mto), .int (iI mwh)])), iA G aNo 48 no, iA G aNf 40 nf, iA G aNg 40 ng, iA G aMa 3 ma, iA G aLe 384 le]) (q0 := 0) C k_M_218 kc_M_lengthOf (fun l sz => m_M_lengthOf l G sz aM aWc aTx aOu aSo aNf aNg aSr aNu aMa aNo aLe aAc aDi aOr mth msz mwr mfa mpl mle mna mfi mru mnv mki mfr mto mwh sF nf ng no ma nm 0 (le ((prf ma k e).toNat)) (le (prf ma k e).toNat) (hnm) (hct) (by omega) (by have h7 := maZ_e ma; have h6 := bas_e; omega) (by have h7 := maZ_e ma; have h6 := bas_e; omega)) rfl rfl (Nat.le_of_ble_eq_true rfl) (by decide) d_M_widthOf_72 rfl rfl [0, 1, 2, 3] [4, 5] [2, 3, 4, 5, 0, 1] rfl rfl (by decide) (fun u => rfl) (fun r u h72 => ?_)
            obtain rfl := h72
            show Zc G X 4 0 0 [(aM, .inr (8, [.ref aWc, .int (iI mth), .int (iI msz), .ref aTx, .int (iI mwr), .ref aOu, .int (iI mfa), .int (iI mpl), .int (iI mle), .int (iI mna), .ref aSo, .ref aNf, .ref aNg, .ref aSr, .ref aNu, .ref aMa, .ref aNo, .int (iI mfi), .int (iI mru), .int (iI mnv), .ref aLe, .ref aAc, .ref aDi, .ref aOr, .int (iI mki), .int (iI mfr), .int (iI mto), .int (iI mwh)])), iA G aNo 48 no, iA G aNf 40 nf, iA G aNg 40 ng, iA G aMa 3 ma, iA G aLe 384 le] [(0, .ref aM), (1, .int (iI e)), (2, .int (iI w)), (3, .int (iI k))] 75 [.int (iI ((nm (le (prf ma k e).toNat)).length : Int))]
            refine z_iload_n C d_M_widthOf_75 2 rfl ?_
            refine z_icmp_le (tgt := 96) C d_M_widthOf_76 (by decide) (by omega) (by omega) (fun c76 => ?_) (fun c76 => ?_)
            ·
              refine z_iinc (lv' := [(3, .int (iI (k + 1))), (0, .ref aM), (1, .int (iI e)), (2, .int (iI w))]) C d_M_widthOf_96 3 rfl (by decide) rfl ?_
              refine z_goto (tgt := 35) C d_M_widthOf_99 (by decide) ?_
              refine z_lv [1, 2, 3, 0] (lv' := [(0, .ref aM), (1, .int (iI e)), (2, .int (iI w)), (3, .int (iI (k + 1)))]) rfl ?_
              exact ih35 _ _ (by omega) (by rw [wdS_step nn ma le e w (by omega), if_pos (by omega), hnz, show mx w ((nm (le (prf ma k e).toNat)).length : Int) = w from if_neg (by omega)] at hE; exact hE) (by omega)
            ·
              refine z_aload_n C d_M_widthOf_79 0 rfl ?_
              refine z_iconst C d_M_widthOf_80 ?_
              refine z_aload_n C d_M_widthOf_81 0 rfl ?_
              refine z_get C f_M_40 d_M_widthOf_82 0 rfl rfl ?_
              refine z_aload_n C d_M_widthOf_85 0 rfl ?_
              refine z_iload_n C d_M_widthOf_86 3 rfl ?_
              refine z_iload_n C d_M_widthOf_87 1 rfl ?_
              refine z_calli (As := [.int (iI k), .int (iI e)]) (rest := [.ref aLe, .int (iI 0), .ref aM]) (wr := [iA G aNo 48 no, iA G aNf 40 nf, iA G aNg 40 ng, iA G aLe 384 le]) (ws' := fun u => [(aM, .inr (8, [.ref aWc, .int (iI mth), .int (iI msz), .ref aTx, .int (iI mwr), .ref aOu, .int (iI mfa), .int (iI mpl), .int (iI mle), .int (iI mna), .ref aSo, .ref aNf, .ref aNg, .ref aSr, .ref aNu, .ref aMa, .ref aNo, .int (iI mfi), .int (iI mru), .int (iI mnv), .ref aLe, .ref aAc, .ref aDi, .ref aOr, .int (iI mki), .int (iI mfr), .int (iI mto), .int (iI mwh)])), iA G aNo 48 no, iA G aNf 40 nf, iA G aNg 40 ng, iA G aMa 3 ma, iA G aLe 384 le]) (q0 := 0) C k_M_182 kc_M_at (fun l sz => m_M_at l G sz aM aWc aTx aOu aSo aNf aNg aSr aNu aMa aNo aLe aAc aDi aOr mth msz mwr mfa mpl mle mna mfi mru mnv mki mfr mto mwh ma k e (hct) (by omega)) rfl rfl (Nat.le_of_ble_eq_true rfl) (by decide) d_M_widthOf_88 rfl rfl [0, 4] [1, 2, 3, 5] [4, 0, 1, 2, 5, 3] rfl rfl (by decide) (fun u => rfl) (fun r u h88 => ?_)
              obtain rfl := h88
              show Zc G X 4 0 0 [(aM, .inr (8, [.ref aWc, .int (iI mth), .int (iI msz), .ref aTx, .int (iI mwr), .ref aOu, .int (iI mfa), .int (iI mpl), .int (iI mle), .int (iI mna), .ref aSo, .ref aNf, .ref aNg, .ref aSr, .ref aNu, .ref aMa, .ref aNo, .int (iI mfi), .int (iI mru), .int (iI mnv), .ref aLe, .ref aAc, .ref aDi, .ref aOr, .int (iI mki), .int (iI mfr), .int (iI mto), .int (iI mwh)])), iA G aNo 48 no, iA G aNf 40 nf, iA G aNg 40 ng, iA G aMa 3 ma, iA G aLe 384 le] [(0, .ref aM), (1, .int (iI e)), (2, .int (iI w)), (3, .int (iI k))] 91 [.int (iI (prf ma k e)), .ref aLe, .int (iI 0), .ref aM]
              refine z_iald C d_M_widthOf_91 5 rfl (by omega) ?_
              refine z_calli (As := [.int (iI 0), .int (iI (le ((prf ma k e).toNat)))]) (rest := []) (wr := [iA G aMa 3 ma, iA G aLe 384 le]) (ws' := fun u => [(aM, .inr (8, [.ref aWc, .int (iI mth), .int (iI msz), .ref aTx, .int (iI mwr), .ref aOu, .int (iI mfa), .int (iI mpl), .int (iI mle), .int (iI mna), .ref aSo, .ref aNf, .ref aNg, .ref aSr, .ref aNu, .ref aMa, .ref aNo, .int (iI mfi), .int (iI mru), .int (iI mnv), .ref aLe, .ref aAc, .ref aDi, .ref aOr, .int (iI mki), .int (iI mfr), .int (iI mto), .int (iI mwh)])), iA G aNo 48 no, iA G aNf 40 nf, iA G aNg 40 ng, iA G aMa 3 ma, iA G aLe 384 le]) (q0 := 0) C k_M_218 kc_M_lengthOf (fun l sz => m_M_lengthOf l G sz aM aWc aTx aOu aSo aNf aNg aSr aNu aMa aNo aLe aAc aDi aOr mth msz mwr mfa mpl mle mna mfi mru mnv mki mfr mto mwh sF nf ng no ma nm 0 (le ((prf ma k e).toNat)) (le (prf ma k e).toNat) (hnm) (hct) (by omega) (by have h7 := maZ_e ma; have h6 := bas_e; omega) (by have h7 := maZ_e ma; have h6 := bas_e; omega)) rfl rfl (Nat.le_of_ble_eq_true rfl) (by decide) d_M_widthOf_92 rfl rfl [0, 1, 2, 3] [4, 5] [2, 3, 4, 5, 0, 1] rfl rfl (by decide) (fun u => rfl) (fun r u h92 => ?_)
              obtain rfl := h92
              show Zc G X 4 0 0 [(aM, .inr (8, [.ref aWc, .int (iI mth), .int (iI msz), .ref aTx, .int (iI mwr), .ref aOu, .int (iI mfa), .int (iI mpl), .int (iI mle), .int (iI mna), .ref aSo, .ref aNf, .ref aNg, .ref aSr, .ref aNu, .ref aMa, .ref aNo, .int (iI mfi), .int (iI mru), .int (iI mnv), .ref aLe, .ref aAc, .ref aDi, .ref aOr, .int (iI mki), .int (iI mfr), .int (iI mto), .int (iI mwh)])), iA G aNo 48 no, iA G aNf 40 nf, iA G aNg 40 ng, iA G aMa 3 ma, iA G aLe 384 le] [(0, .ref aM), (1, .int (iI e)), (2, .int (iI w)), (3, .int (iI k))] 95 [.int (iI ((nm (le (prf ma k e).toNat)).length : Int))]
              refine z_istore_n (lv' := [(2, .int (iI ((nm (le (prf ma k e).toNat)).length : Int))), (0, .ref aM), (1, .int (iI e)), (3, .int (iI k))]) C d_M_widthOf_95 (by decide) rfl ?_
              refine z_iinc (lv' := [(3, .int (iI (k + 1))), (2, .int (iI ((nm (le (prf ma k e).toNat)).length : Int))), (0, .ref aM), (1, .int (iI e))]) C d_M_widthOf_96 3 rfl (by decide) rfl ?_
              refine z_goto (tgt := 35) C d_M_widthOf_99 (by decide) ?_
              refine z_lv [2, 3, 1, 0] (lv' := [(0, .ref aM), (1, .int (iI e)), (2, .int (iI ((nm (le (prf ma k e).toNat)).length : Int))), (3, .int (iI (k + 1)))]) rfl ?_
              exact ih35 _ _ (by omega) (by rw [wdS_step nn ma le e w (by omega), if_pos (by omega), hnz, show mx w ((nm (le (prf ma k e).toNat)).length : Int) = ((nm (le (prf ma k e).toNat)).length : Int) from if_pos (by omega)] at hE; exact hE) (by omega)
    refine z_lv [2, 3, 1, 0] (lv' := [(0, .ref aM), (1, .int (iI e)), (2, .int (iI ((nm (evs (ma 1) e)).length : Int))), (3, .int (iI 0))]) rfl ?_
    exact loop35 (_ + 1) _ _ (by omega) (by rw [Int.sub_zero]; show _ = wdS nn ma le e (ma 0).toNat 0 (mx 1 (nn (evs (ma 1) e).toNat)); rw [hne, show mx 1 ((nm (evs (ma 1) e)).length : Int) = ((nm (evs (ma 1) e)).length : Int) by unfold mx; split <;> omega]) (Nat.lt_succ_self _)
  ·
    refine z_aload_n C d_M_widthOf_10 0 rfl ?_
    refine z_iconst C d_M_widthOf_11 ?_
    refine z_iload_n C d_M_widthOf_12 1 rfl ?_
    refine z_calli (As := [.int (iI 1), .int (iI e)]) (rest := []) (wr := [iA G aMa 3 ma, iA G aLe 384 le]) (ws' := fun u => [(aM, .inr (8, [.ref aWc, .int (iI mth), .int (iI msz), .ref aTx, .int (iI mwr), .ref aOu, .int (iI mfa), .int (iI mpl), .int (iI mle), .int (iI mna), .ref aSo, .ref aNf, .ref aNg, .ref aSr, .ref aNu, .ref aMa, .ref aNo, .int (iI mfi), .int (iI mru), .int (iI mnv), .ref aLe, .ref aAc, .ref aDi, .ref aOr, .int (iI mki), .int (iI mfr), .int (iI mto), .int (iI mwh)])), iA G aNo 48 no, iA G aNf 40 nf, iA G aNg 40 ng, iA G aMa 3 ma, iA G aLe 384 le]) (q0 := 0) C k_M_218 kc_M_lengthOf (fun l sz => m_M_lengthOf l G sz aM aWc aTx aOu aSo aNf aNg aSr aNu aMa aNo aLe aAc aDi aOr mth msz mwr mfa mpl mle mna mfi mru mnv mki mfr mto mwh sF nf ng no ma nm 1 e (evs (ma 1) e) (hnm) (hct) (by omega) (by have h7 := maZ_e ma; have h6 := bas_e; omega) (by have h7 := maZ_e ma; have h6 := bas_e; unfold evs; rw [if_pos (by omega)]; omega)) rfl rfl (Nat.le_of_ble_eq_true rfl) (by decide) d_M_widthOf_13 rfl rfl [0, 1, 2, 3] [4, 5] [2, 3, 4, 5, 0, 1] rfl rfl (by decide) (fun u => rfl) (fun r u h13 => ?_)
    obtain rfl := h13
    show Zc G X 4 0 0 [(aM, .inr (8, [.ref aWc, .int (iI mth), .int (iI msz), .ref aTx, .int (iI mwr), .ref aOu, .int (iI mfa), .int (iI mpl), .int (iI mle), .int (iI mna), .ref aSo, .ref aNf, .ref aNg, .ref aSr, .ref aNu, .ref aMa, .ref aNo, .int (iI mfi), .int (iI mru), .int (iI mnv), .ref aLe, .ref aAc, .ref aDi, .ref aOr, .int (iI mki), .int (iI mfr), .int (iI mto), .int (iI mwh)])), iA G aNo 48 no, iA G aNf 40 nf, iA G aNg 40 ng, iA G aMa 3 ma, iA G aLe 384 le] [(0, .ref aM), (1, .int (iI e))] 16 [.int (iI ((nm (evs (ma 1) e)).length : Int))]
    refine z_goto (tgt := 32) C d_M_widthOf_16 (by decide) ?_
    refine z_istore_n (lv' := [(2, .int (iI ((nm (evs (ma 1) e)).length : Int))), (0, .ref aM), (1, .int (iI e))]) C d_M_widthOf_32 (by decide) rfl ?_
    refine z_iconst C d_M_widthOf_33 ?_
    refine z_istore_n (lv' := [(3, .int (iI 0)), (2, .int (iI ((nm (evs (ma 1) e)).length : Int))), (0, .ref aM), (1, .int (iI e))]) C d_M_widthOf_34 (by decide) rfl ?_
    have loop35 : ∀ (kq : Nat) (k : Int) (w : Int), (0 ≤ k ∧ k ≤ ma 0 ∧ 1 ≤ w ∧ w ≤ 12) → (wdS nn ma le e (ma 0 - k).toNat k w = wdE nn ma le e) → ((ma 0 - k).toNat < kq) → Zc G X 4 0 0 [(aM, .inr (8, [.ref aWc, .int (iI mth), .int (iI msz), .ref aTx, .int (iI mwr), .ref aOu, .int (iI mfa), .int (iI mpl), .int (iI mle), .int (iI mna), .ref aSo, .ref aNf, .ref aNg, .ref aSr, .ref aNu, .ref aMa, .ref aNo, .int (iI mfi), .int (iI mru), .int (iI mnv), .ref aLe, .ref aAc, .ref aDi, .ref aOr, .int (iI mki), .int (iI mfr), .int (iI mto), .int (iI mwh)])), iA G aNo 48 no, iA G aNf 40 nf, iA G aNg 40 ng, iA G aMa 3 ma, iA G aLe 384 le] [(0, .ref aM), (1, .int (iI e)), (2, .int (iI w)), (3, .int (iI k))] 35 [] := by
      intro kq
      induction kq with
      | zero => intro k w hk hE hm; exact absurd hm (Nat.not_lt_zero _)
      | succ kq ih35 =>
        intro k w hk hE hm
        -- loop body
        refine z_iload_n C d_M_widthOf_35 3 rfl ?_
        refine z_aload_n C d_M_widthOf_36 0 rfl ?_
        refine z_get C f_M_34 d_M_widthOf_37 0 rfl rfl ?_
        refine z_iconst C d_M_widthOf_40 ?_
        refine z_iald C d_M_widthOf_41 4 rfl (by omega) ?_
        refine z_topi (y := iI (ma 0)) (rfl) ?_
        refine z_icmp_ge (tgt := 102) C d_M_widthOf_42 (by decide) (by omega) (by omega) (fun c42 => ?_) (fun c42 => ?_)
        ·
          rw [show (ma 0 - k).toNat = 0 by omega] at hE
          have hE2 : w = wdE nn ma le e := hE
          refine z_iload_n C d_M_widthOf_102 2 rfl ?_
          exact z_iret C K d_M_widthOf_103 (rfl) () (rfl) (congrArg iI hE2)
        ·
          have hpr := prf_rg hct (s := k) (e := e) (by omega)
          have hgk := hgl (prf ma k e).toNat
          refine z_aload_n C d_M_widthOf_45 0 rfl ?_
          refine z_get C f_M_40 d_M_widthOf_46 0 rfl rfl ?_
          refine z_aload_n C d_M_widthOf_49 0 rfl ?_
          refine z_iload_n C d_M_widthOf_50 3 rfl ?_
          refine z_iload_n C d_M_widthOf_51 1 rfl ?_
          refine z_calli (As := [.int (iI k), .int (iI e)]) (rest := [.ref aLe]) (wr := [iA G aNo 48 no, iA G aNf 40 nf, iA G aNg 40 ng, iA G aLe 384 le]) (ws' := fun u => [(aM, .inr (8, [.ref aWc, .int (iI mth), .int (iI msz), .ref aTx, .int (iI mwr), .ref aOu, .int (iI mfa), .int (iI mpl), .int (iI mle), .int (iI mna), .ref aSo, .ref aNf, .ref aNg, .ref aSr, .ref aNu, .ref aMa, .ref aNo, .int (iI mfi), .int (iI mru), .int (iI mnv), .ref aLe, .ref aAc, .ref aDi, .ref aOr, .int (iI mki), .int (iI mfr), .int (iI mto), .int (iI mwh)])), iA G aNo 48 no, iA G aNf 40 nf, iA G aNg 40 ng, iA G aMa 3 ma, iA G aLe 384 le]) (q0 := 0) C k_M_182 kc_M_at (fun l sz => m_M_at l G sz aM aWc aTx aOu aSo aNf aNg aSr aNu aMa aNo aLe aAc aDi aOr mth msz mwr mfa mpl mle mna mfi mru mnv mki mfr mto mwh ma k e (hct) (by omega)) rfl rfl (Nat.le_of_ble_eq_true rfl) (by decide) d_M_widthOf_52 rfl rfl [0, 4] [1, 2, 3, 5] [4, 0, 1, 2, 5, 3] rfl rfl (by decide) (fun u => rfl) (fun r u h52 => ?_)
          obtain rfl := h52
          show Zc G X 4 0 0 [(aM, .inr (8, [.ref aWc, .int (iI mth), .int (iI msz), .ref aTx, .int (iI mwr), .ref aOu, .int (iI mfa), .int (iI mpl), .int (iI mle), .int (iI mna), .ref aSo, .ref aNf, .ref aNg, .ref aSr, .ref aNu, .ref aMa, .ref aNo, .int (iI mfi), .int (iI mru), .int (iI mnv), .ref aLe, .ref aAc, .ref aDi, .ref aOr, .int (iI mki), .int (iI mfr), .int (iI mto), .int (iI mwh)])), iA G aNo 48 no, iA G aNf 40 nf, iA G aNg 40 ng, iA G aMa 3 ma, iA G aLe 384 le] [(0, .ref aM), (1, .int (iI e)), (2, .int (iI w)), (3, .int (iI k))] 55 [.int (iI (prf ma k e)), .ref aLe]
          refine z_iald C d_M_widthOf_55 5 rfl (by omega) ?_
          refine z_if_lt (tgt := 96) C d_M_widthOf_56 (by decide) (by omega) (fun c56 => ?_) (fun c56 => ?_)
          ·
            refine z_iinc (lv' := [(3, .int (iI (k + 1))), (0, .ref aM), (1, .int (iI e)), (2, .int (iI w))]) C d_M_widthOf_96 3 rfl (by decide) rfl ?_
            refine z_goto (tgt := 35) C d_M_widthOf_99 (by decide) ?_
            refine z_lv [1, 2, 3, 0] (lv' := [(0, .ref aM), (1, .int (iI e)), (2, .int (iI w)), (3, .int (iI (k + 1)))]) rfl ?_
            exact ih35 _ _ (by omega) (by rw [wdS_step nn ma le e w (by omega), if_neg (by omega)] at hE; exact hE) (by omega)
          ·
            have hnl := NmM_st hnm (s := le (prf ma k e).toNat) (by omega)
            have hnz := nnO_z hnn (s := le (prf ma k e).toNat) (by omega)
            refine z_aload_n C d_M_widthOf_59 0 rfl ?_
            refine z_iconst C d_M_widthOf_60 ?_
            refine z_aload_n C d_M_widthOf_61 0 rfl ?_
            refine z_get C f_M_40 d_M_widthOf_62 0 rfl rfl ?_
            refine z_aload_n C d_M_widthOf_65 0 rfl ?_
            refine z_iload_n C d_M_widthOf_66 3 rfl ?_
            refine z_iload_n C d_M_widthOf_67 1 rfl ?_
            refine z_calli (As := [.int (iI k), .int (iI e)]) (rest := [.ref aLe, .int (iI 0), .ref aM]) (wr := [iA G aNo 48 no, iA G aNf 40 nf, iA G aNg 40 ng, iA G aLe 384 le]) (ws' := fun u => [(aM, .inr (8, [.ref aWc, .int (iI mth), .int (iI msz), .ref aTx, .int (iI mwr), .ref aOu, .int (iI mfa), .int (iI mpl), .int (iI mle), .int (iI mna), .ref aSo, .ref aNf, .ref aNg, .ref aSr, .ref aNu, .ref aMa, .ref aNo, .int (iI mfi), .int (iI mru), .int (iI mnv), .ref aLe, .ref aAc, .ref aDi, .ref aOr, .int (iI mki), .int (iI mfr), .int (iI mto), .int (iI mwh)])), iA G aNo 48 no, iA G aNf 40 nf, iA G aNg 40 ng, iA G aMa 3 ma, iA G aLe 384 le]) (q0 := 0) C k_M_182 kc_M_at (fun l sz => m_M_at l G sz aM aWc aTx aOu aSo aNf aNg aSr aNu aMa aNo aLe aAc aDi aOr mth msz mwr mfa mpl mle mna mfi mru mnv mki mfr mto mwh ma k e (hct) (by omega)) rfl rfl (Nat.le_of_ble_eq_true rfl) (by decide) d_M_widthOf_68 rfl rfl [0, 4] [1, 2, 3, 5] [4, 0, 1, 2, 5, 3] rfl rfl (by decide) (fun u => rfl) (fun r u h68 => ?_)
            obtain rfl := h68
            show Zc G X 4 0 0 [(aM, .inr (8, [.ref aWc, .int (iI mth), .int (iI msz), .ref aTx, .int (iI mwr), .ref aOu, .int (iI mfa), .int (iI mpl), .int (iI mle), .int (iI mna), .ref aSo, .ref aNf, .ref aNg, .ref aSr, .ref aNu, .ref aMa, .ref aNo, .int (iI mfi), .int (iI mru), .int (iI mnv), .ref aLe, .ref aAc, .ref aDi, .ref aOr, .int (iI mki), .int (iI mfr), .int (iI mto), .int (iI mwh)])), iA G aNo 48 no, iA G aNf 40 nf, iA G aNg 40 ng, iA G aMa 3 ma, iA G aLe 384 le] [(0, .ref aM), (1, .int (iI e)), (2, .int (iI w)), (3, .int (iI k))] 71 [.int (iI (prf ma k e)), .ref aLe, .int (iI 0), .ref aM]
            refine z_iald C d_M_widthOf_71 5 rfl (by omega) ?_
            refine z_calli (As := [.int (iI 0), .int (iI (le ((prf ma k e).toNat)))]) (rest := []) (wr := [iA G aMa 3 ma, iA G aLe 384 le]) (ws' := fun u => [(aM, .inr (8, [.ref aWc, .int (iI mth), .int (iI msz), .ref aTx, .int (iI mwr), .ref aOu, .int (iI mfa), .int (iI mpl), .int (iI mle), .int (iI mna), .ref aSo, .ref aNf, .ref aNg, .ref aSr, .ref aNu, .ref aMa, .ref aNo, .int (iI mfi), .int (iI mru), .int (iI mnv), .ref aLe, .ref aAc, .ref aDi, .ref aOr, .int (iI mki), .int (iI mfr), .int (iI mto), .int (iI mwh)])), iA G aNo 48 no, iA G aNf 40 nf, iA G aNg 40 ng, iA G aMa 3 ma, iA G aLe 384 le]) (q0 := 0) C k_M_218 kc_M_lengthOf (fun l sz => m_M_lengthOf l G sz aM aWc aTx aOu aSo aNf aNg aSr aNu aMa aNo aLe aAc aDi aOr mth msz mwr mfa mpl mle mna mfi mru mnv mki mfr mto mwh sF nf ng no ma nm 0 (le ((prf ma k e).toNat)) (le (prf ma k e).toNat) (hnm) (hct) (by omega) (by have h7 := maZ_e ma; have h6 := bas_e; omega) (by have h7 := maZ_e ma; have h6 := bas_e; omega)) rfl rfl (Nat.le_of_ble_eq_true rfl) (by decide) d_M_widthOf_72 rfl rfl [0, 1, 2, 3] [4, 5] [2, 3, 4, 5, 0, 1] rfl rfl (by decide) (fun u => rfl) (fun r u h72 => ?_)
            obtain rfl := h72
            show Zc G X 4 0 0 [(aM, .inr (8, [.ref aWc, .int (iI mth), .int (iI msz), .ref aTx, .int (iI mwr), .ref aOu, .int (iI mfa), .int (iI mpl), .int (iI mle), .int (iI mna), .ref aSo, .ref aNf, .ref aNg, .ref aSr, .ref aNu, .ref aMa, .ref aNo, .int (iI mfi), .int (iI mru), .int (iI mnv), .ref aLe, .ref aAc, .ref aDi, .ref aOr, .int (iI mki), .int (iI mfr), .int (iI mto), .int (iI mwh)])), iA G aNo 48 no, iA G aNf 40 nf, iA G aNg 40 ng, iA G aMa 3 ma, iA G aLe 384 le] [(0, .ref aM), (1, .int (iI e)), (2, .int (iI w)), (3, .int (iI k))] 75 [.int (iI ((nm (le (prf ma k e).toNat)).length : Int))]
            refine z_iload_n C d_M_widthOf_75 2 rfl ?_
            refine z_icmp_le (tgt := 96) C d_M_widthOf_76 (by decide) (by omega) (by omega) (fun c76 => ?_) (fun c76 => ?_)
            ·
              refine z_iinc (lv' := [(3, .int (iI (k + 1))), (0, .ref aM), (1, .int (iI e)), (2, .int (iI w))]) C d_M_widthOf_96 3 rfl (by decide) rfl ?_
              refine z_goto (tgt := 35) C d_M_widthOf_99 (by decide) ?_
              refine z_lv [1, 2, 3, 0] (lv' := [(0, .ref aM), (1, .int (iI e)), (2, .int (iI w)), (3, .int (iI (k + 1)))]) rfl ?_
              exact ih35 _ _ (by omega) (by rw [wdS_step nn ma le e w (by omega), if_pos (by omega), hnz, show mx w ((nm (le (prf ma k e).toNat)).length : Int) = w from if_neg (by omega)] at hE; exact hE) (by omega)
            ·
              refine z_aload_n C d_M_widthOf_79 0 rfl ?_
              refine z_iconst C d_M_widthOf_80 ?_
              refine z_aload_n C d_M_widthOf_81 0 rfl ?_
              refine z_get C f_M_40 d_M_widthOf_82 0 rfl rfl ?_
              refine z_aload_n C d_M_widthOf_85 0 rfl ?_
              refine z_iload_n C d_M_widthOf_86 3 rfl ?_
              refine z_iload_n C d_M_widthOf_87 1 rfl ?_
              refine z_calli (As := [.int (iI k), .int (iI e)]) (rest := [.ref aLe, .int (iI 0), .ref aM]) (wr := [iA G aNo 48 no, iA G aNf 40 nf, iA G aNg 40 ng, iA G aLe 384 le]) (ws' := fun u => [(aM, .inr (8, [.ref aWc, .int (iI mth), .int (iI msz), .ref aTx, .int (iI mwr), .ref aOu, .int (iI mfa), .int (iI mpl), .int (iI mle), .int (iI mna), .ref aSo, .ref aNf, .ref aNg, .ref aSr, .ref aNu, .ref aMa, .ref aNo, .int (iI mfi), .int (iI mru), .int (iI mnv), .ref aLe, .ref aAc, .ref aDi, .ref aOr, .int (iI mki), .int (iI mfr), .int (iI mto), .int (iI mwh)])), iA G aNo 48 no, iA G aNf 40 nf, iA G aNg 40 ng, iA G aMa 3 ma, iA G aLe 384 le]) (q0 := 0) C k_M_182 kc_M_at (fun l sz => m_M_at l G sz aM aWc aTx aOu aSo aNf aNg aSr aNu aMa aNo aLe aAc aDi aOr mth msz mwr mfa mpl mle mna mfi mru mnv mki mfr mto mwh ma k e (hct) (by omega)) rfl rfl (Nat.le_of_ble_eq_true rfl) (by decide) d_M_widthOf_88 rfl rfl [0, 4] [1, 2, 3, 5] [4, 0, 1, 2, 5, 3] rfl rfl (by decide) (fun u => rfl) (fun r u h88 => ?_)
              obtain rfl := h88
              show Zc G X 4 0 0 [(aM, .inr (8, [.ref aWc, .int (iI mth), .int (iI msz), .ref aTx, .int (iI mwr), .ref aOu, .int (iI mfa), .int (iI mpl), .int (iI mle), .int (iI mna), .ref aSo, .ref aNf, .ref aNg, .ref aSr, .ref aNu, .ref aMa, .ref aNo, .int (iI mfi), .int (iI mru), .int (iI mnv), .ref aLe, .ref aAc, .ref aDi, .ref aOr, .int (iI mki), .int (iI mfr), .int (iI mto), .int (iI mwh)])), iA G aNo 48 no, iA G aNf 40 nf, iA G aNg 40 ng, iA G aMa 3 ma, iA G aLe 384 le] [(0, .ref aM), (1, .int (iI e)), (2, .int (iI w)), (3, .int (iI k))] 91 [.int (iI (prf ma k e)), .ref aLe, .int (iI 0), .ref aM]
              refine z_iald C d_M_widthOf_91 5 rfl (by omega) ?_
              refine z_calli (As := [.int (iI 0), .int (iI (le ((prf ma k e).toNat)))]) (rest := []) (wr := [iA G aMa 3 ma, iA G aLe 384 le]) (ws' := fun u => [(aM, .inr (8, [.ref aWc, .int (iI mth), .int (iI msz), .ref aTx, .int (iI mwr), .ref aOu, .int (iI mfa), .int (iI mpl), .int (iI mle), .int (iI mna), .ref aSo, .ref aNf, .ref aNg, .ref aSr, .ref aNu, .ref aMa, .ref aNo, .int (iI mfi), .int (iI mru), .int (iI mnv), .ref aLe, .ref aAc, .ref aDi, .ref aOr, .int (iI mki), .int (iI mfr), .int (iI mto), .int (iI mwh)])), iA G aNo 48 no, iA G aNf 40 nf, iA G aNg 40 ng, iA G aMa 3 ma, iA G aLe 384 le]) (q0 := 0) C k_M_218 kc_M_lengthOf (fun l sz => m_M_lengthOf l G sz aM aWc aTx aOu aSo aNf aNg aSr aNu aMa aNo aLe aAc aDi aOr mth msz mwr mfa mpl mle mna mfi mru mnv mki mfr mto mwh sF nf ng no ma nm 0 (le ((prf ma k e).toNat)) (le (prf ma k e).toNat) (hnm) (hct) (by omega) (by have h7 := maZ_e ma; have h6 := bas_e; omega) (by have h7 := maZ_e ma; have h6 := bas_e; omega)) rfl rfl (Nat.le_of_ble_eq_true rfl) (by decide) d_M_widthOf_92 rfl rfl [0, 1, 2, 3] [4, 5] [2, 3, 4, 5, 0, 1] rfl rfl (by decide) (fun u => rfl) (fun r u h92 => ?_)
              obtain rfl := h92
              show Zc G X 4 0 0 [(aM, .inr (8, [.ref aWc, .int (iI mth), .int (iI msz), .ref aTx, .int (iI mwr), .ref aOu, .int (iI mfa), .int (iI mpl), .int (iI mle), .int (iI mna), .ref aSo, .ref aNf, .ref aNg, .ref aSr, .ref aNu, .ref aMa, .ref aNo, .int (iI mfi), .int (iI mru), .int (iI mnv), .ref aLe, .ref aAc, .ref aDi, .ref aOr, .int (iI mki), .int (iI mfr), .int (iI mto), .int (iI mwh)])), iA G aNo 48 no, iA G aNf 40 nf, iA G aNg 40 ng, iA G aMa 3 ma, iA G aLe 384 le] [(0, .ref aM), (1, .int (iI e)), (2, .int (iI w)), (3, .int (iI k))] 95 [.int (iI ((nm (le (prf ma k e).toNat)).length : Int))]
              refine z_istore_n (lv' := [(2, .int (iI ((nm (le (prf ma k e).toNat)).length : Int))), (0, .ref aM), (1, .int (iI e)), (3, .int (iI k))]) C d_M_widthOf_95 (by decide) rfl ?_
              refine z_iinc (lv' := [(3, .int (iI (k + 1))), (2, .int (iI ((nm (le (prf ma k e).toNat)).length : Int))), (0, .ref aM), (1, .int (iI e))]) C d_M_widthOf_96 3 rfl (by decide) rfl ?_
              refine z_goto (tgt := 35) C d_M_widthOf_99 (by decide) ?_
              refine z_lv [2, 3, 1, 0] (lv' := [(0, .ref aM), (1, .int (iI e)), (2, .int (iI ((nm (le (prf ma k e).toNat)).length : Int))), (3, .int (iI (k + 1)))]) rfl ?_
              exact ih35 _ _ (by omega) (by rw [wdS_step nn ma le e w (by omega), if_pos (by omega), hnz, show mx w ((nm (le (prf ma k e).toNat)).length : Int) = ((nm (le (prf ma k e).toNat)).length : Int) from if_pos (by omega)] at hE; exact hE) (by omega)
    refine z_lv [2, 3, 1, 0] (lv' := [(0, .ref aM), (1, .int (iI e)), (2, .int (iI ((nm (evs (ma 1) e)).length : Int))), (3, .int (iI 0))]) rfl ?_
    exact loop35 (_ + 1) _ _ (by omega) (by rw [Int.sub_zero]; show _ = wdS nn ma le e (ma 0).toNat 0 (mx 1 (nn (evs (ma 1) e).toNat)); rw [hne, show mx 1 ((nm (evs (ma 1) e)).length : Int) = ((nm (evs (ma 1) e)).length : Int) by unfold mx; split <;> omega]) (Nat.lt_succ_self _)
set_option maxHeartbeats 4000000 in
set_option maxRecDepth 100000 in
theorem m_M_endDrawn (l : Launch) (G : GG) (sz : Nat) (aM : Nat) (aWc : Nat) (aTx : Nat) (aOu : Nat) (aSo : Nat) (aNf : Nat) (aNg : Nat) (aSr : Nat) (aNu : Nat) (aMa : Nat) (aNo : Nat) (aLe : Nat) (aAc : Nat) (aDi : Nat) (aOr : Nat) (mth : Int) (msz : Int) (mwr : Int) (mfa : Int) (mpl : Int) (mle : Int) (mna : Int) (mfi : Int) (mru : Int) (mnv : Int) (mki : Int) (mfr : Int) (mto : Int) (mwh : Int) (ou : Nat → Int) (b : Int) (h1 : 0 ≤ b ∧ b ≤ mwr ∧ mwr < 8192) (hb : b = 0 ∨ ¬ ou (b - 1).toNat = 32) (hou : ∀ j : Nat, b ≤ (j : Int) → (j : Int) < mwr → -128 ≤ ou j ∧ ou j ≤ 127) : MetV l G sz y_M_endDrawn c_M_endDrawn 2 ({ frames := 1, cells := 0, slots := 0, locals := 21 } : Room) [.ref aM, .int (iI b)] [(aM, .inr (8, [.ref aWc, .int (iI mth), .int (iI msz), .ref aTx, .int (iI mwr), .ref aOu, .int (iI mfa), .int (iI mpl), .int (iI mle), .int (iI mna), .ref aSo, .ref aNf, .ref aNg, .ref aSr, .ref aNu, .ref aMa, .ref aNo, .int (iI mfi), .int (iI mru), .int (iI mnv), .ref aLe, .ref aAc, .ref aDi, .ref aOr, .int (iI mki), .int (iI mfr), .int (iI mto), .int (iI mwh)])), iA G aOu 8192 ou] (fun (u : Unit) => True) (fun (u : Unit) => [(aM, .inr (8, [.ref aWc, .int (iI mth), .int (iI msz), .ref aTx, .int (iI ((drB ou mwr.toNat : Int) + 1)), .ref aOu, .int (iI mfa), .int (iI mpl), .int (iI mle), .int (iI mna), .ref aSo, .ref aNf, .ref aNg, .ref aSr, .ref aNu, .ref aMa, .ref aNo, .int (iI mfi), .int (iI mru), .int (iI mnv), .ref aLe, .ref aAc, .ref aDi, .ref aOr, .int (iI mki), .int (iI mfr), .int (iI mto), .int (iI mwh)])), iA G aOu 8192 (wI ou (drB ou mwr.toNat : Int) [10])]) := by
  refine MetV.mk (by decide) (Nat.le_of_ble_eq_true rfl) (fun X C K => ?_)
  show Zc G X 2 0 0 [(aM, .inr (8, [.ref aWc, .int (iI mth), .int (iI msz), .ref aTx, .int (iI mwr), .ref aOu, .int (iI mfa), .int (iI mpl), .int (iI mle), .int (iI mna), .ref aSo, .ref aNf, .ref aNg, .ref aSr, .ref aNu, .ref aMa, .ref aNo, .int (iI mfi), .int (iI mru), .int (iI mnv), .ref aLe, .ref aAc, .ref aDi, .ref aOr, .int (iI mki), .int (iI mfr), .int (iI mto), .int (iI mwh)])), iA G aOu 8192 ou] [(0, .ref aM), (1, .int (iI b))] 0 []
  have loop0 : ∀ (kq : Nat) (q : Int), (b ≤ q ∧ q ≤ mwr) → (drB ou q.toNat = drB ou mwr.toNat) → ((q - b).toNat < kq) → Zc G X 2 0 0 [(aM, .inr (8, [.ref aWc, .int (iI mth), .int (iI msz), .ref aTx, .int (iI q), .ref aOu, .int (iI mfa), .int (iI mpl), .int (iI mle), .int (iI mna), .ref aSo, .ref aNf, .ref aNg, .ref aSr, .ref aNu, .ref aMa, .ref aNo, .int (iI mfi), .int (iI mru), .int (iI mnv), .ref aLe, .ref aAc, .ref aDi, .ref aOr, .int (iI mki), .int (iI mfr), .int (iI mto), .int (iI mwh)])), iA G aOu 8192 ou] [(0, .ref aM), (1, .int (iI b))] 0 [] := by
    intro kq
    induction kq with
    | zero => intro q hk hE hm; exact absurd hm (Nat.not_lt_zero _)
    | succ kq ih0 =>
      intro q hk hE hm
      -- loop body
      refine z_aload_n C d_M_endDrawn_0 0 rfl ?_
      refine z_get C f_M_191 d_M_endDrawn_1 0 rfl rfl ?_
      refine z_iload_n C d_M_endDrawn_4 1 rfl ?_
      refine z_icmp_le (tgt := 37) C d_M_endDrawn_5 (by decide) (by omega) (by omega) (fun c5 => ?_) (fun c5 => ?_)
      ·
        have e9 : drB ou q.toNat = q.toNat := drB_z ou (hb.elim (fun z => Or.inl (by omega)) (fun z => Or.inr (by rw [show q.toNat - 1 = (b - 1).toNat by omega]; exact z)))
        have eq9 : q = (drB ou mwr.toNat : Int) := by rw [← hE, e9]; omega
        refine z_aload_n C d_M_endDrawn_37 0 rfl ?_
        refine z_bipush C d_M_endDrawn_38 (by decide) ?_
        refine z_callv (As := [.int (iI 10)]) (rest := []) (wr := []) (ws' := fun u => [(aM, .inr (8, [.ref aWc, .int (iI mth), .int (iI msz), .ref aTx, .int (iI (q + 1)), .ref aOu, .int (iI mfa), .int (iI mpl), .int (iI mle), .int (iI mna), .ref aSo, .ref aNf, .ref aNg, .ref aSr, .ref aNu, .ref aMa, .ref aNo, .int (iI mfi), .int (iI mru), .int (iI mnv), .ref aLe, .ref aAc, .ref aDi, .ref aOr, .int (iI mki), .int (iI mfr), .int (iI mto), .int (iI mwh)])), iA G aOu 8192 (wI ou q [10])]) (q0 := 0) C k_M_194 kc_M_say (fun l sz => m_M_say l G sz aM aWc aTx aOu aSo aNf aNg aSr aNu aMa aNo aLe aAc aDi aOr mth msz q mfa mpl mle mna mfi mru mnv mki mfr mto mwh ou 10 (by omega)) rfl rfl (Nat.le_of_ble_eq_true rfl) (by decide) d_M_endDrawn_40 rfl rfl [0, 1] [] [0, 1] rfl rfl (by decide) (fun u => rfl) (fun u h40 => ?_)
        show Zc G X 2 0 0 [(aM, .inr (8, [.ref aWc, .int (iI mth), .int (iI msz), .ref aTx, .int (iI (q + 1)), .ref aOu, .int (iI mfa), .int (iI mpl), .int (iI mle), .int (iI mna), .ref aSo, .ref aNf, .ref aNg, .ref aSr, .ref aNu, .ref aMa, .ref aNo, .int (iI mfi), .int (iI mru), .int (iI mnv), .ref aLe, .ref aAc, .ref aDi, .ref aOr, .int (iI mki), .int (iI mfr), .int (iI mto), .int (iI mwh)])), iA G aOu 8192 (wI ou q [10])] [(0, .ref aM), (1, .int (iI b))] 43 []
        exact z_vret C K d_M_endDrawn_43 () (by rw [← eq9]) (trivial)
      ·
        have ho := hou (q - 1).toNat (by omega) (by omega)
        have hds := drB_s ou (q - 1).toNat
        refine z_aload_n C d_M_endDrawn_8 0 rfl ?_
        refine z_get C f_M_16 d_M_endDrawn_9 0 rfl rfl ?_
        refine z_aload_n C d_M_endDrawn_12 0 rfl ?_
        refine z_get C f_M_191 d_M_endDrawn_13 0 rfl rfl ?_
        refine z_iconst C d_M_endDrawn_16 ?_
        refine z_isub C d_M_endDrawn_17 ?_
        refine z_iald C d_M_endDrawn_18 1 rfl (by omega) ?_
        refine z_bipush C d_M_endDrawn_19 (by decide) ?_
        refine z_icmp_ne (tgt := 37) C d_M_endDrawn_21 (by decide) (by omega) (by omega) (fun c21 => ?_) (fun c21 => ?_)
        ·
          have e9 : drB ou q.toNat = q.toNat := by rw [show q.toNat = (q - 1).toNat + 1 by omega, hds, if_neg (by omega)]
          have eq9 : q = (drB ou mwr.toNat : Int) := by rw [← hE, e9]; omega
          refine z_aload_n C d_M_endDrawn_37 0 rfl ?_
          refine z_bipush C d_M_endDrawn_38 (by decide) ?_
          refine z_callv (As := [.int (iI 10)]) (rest := []) (wr := []) (ws' := fun u => [(aM, .inr (8, [.ref aWc, .int (iI mth), .int (iI msz), .ref aTx, .int (iI (q + 1)), .ref aOu, .int (iI mfa), .int (iI mpl), .int (iI mle), .int (iI mna), .ref aSo, .ref aNf, .ref aNg, .ref aSr, .ref aNu, .ref aMa, .ref aNo, .int (iI mfi), .int (iI mru), .int (iI mnv), .ref aLe, .ref aAc, .ref aDi, .ref aOr, .int (iI mki), .int (iI mfr), .int (iI mto), .int (iI mwh)])), iA G aOu 8192 (wI ou q [10])]) (q0 := 0) C k_M_194 kc_M_say (fun l sz => m_M_say l G sz aM aWc aTx aOu aSo aNf aNg aSr aNu aMa aNo aLe aAc aDi aOr mth msz q mfa mpl mle mna mfi mru mnv mki mfr mto mwh ou 10 (by omega)) rfl rfl (Nat.le_of_ble_eq_true rfl) (by decide) d_M_endDrawn_40 rfl rfl [0, 1] [] [0, 1] rfl rfl (by decide) (fun u => rfl) (fun u h40 => ?_)
          show Zc G X 2 0 0 [(aM, .inr (8, [.ref aWc, .int (iI mth), .int (iI msz), .ref aTx, .int (iI (q + 1)), .ref aOu, .int (iI mfa), .int (iI mpl), .int (iI mle), .int (iI mna), .ref aSo, .ref aNf, .ref aNg, .ref aSr, .ref aNu, .ref aMa, .ref aNo, .int (iI mfi), .int (iI mru), .int (iI mnv), .ref aLe, .ref aAc, .ref aDi, .ref aOr, .int (iI mki), .int (iI mfr), .int (iI mto), .int (iI mwh)])), iA G aOu 8192 (wI ou q [10])] [(0, .ref aM), (1, .int (iI b))] 43 []
          exact z_vret C K d_M_endDrawn_43 () (by rw [← eq9]) (trivial)
        ·
          refine z_aload_n C d_M_endDrawn_24 0 rfl ?_
          refine z_dup C d_M_endDrawn_25 rfl ?_
          refine z_get C f_M_191 d_M_endDrawn_26 0 rfl rfl ?_
          refine z_iconst C d_M_endDrawn_29 ?_
          refine z_isub C d_M_endDrawn_30 ?_
          refine z_put C f_M_191 ok_M nm_M d_M_endDrawn_31 0 rfl rfl rfl rfl (Nat.le_of_ble_eq_true rfl) [(aM, .inr (8, [.ref aWc, .int (iI mth), .int (iI msz), .ref aTx, .int (iI (q - 1)), .ref aOu, .int (iI mfa), .int (iI mpl), .int (iI mle), .int (iI mna), .ref aSo, .ref aNf, .ref aNg, .ref aSr, .ref aNu, .ref aMa, .ref aNo, .int (iI mfi), .int (iI mru), .int (iI mnv), .ref aLe, .ref aAc, .ref aDi, .ref aOr, .int (iI mki), .int (iI mfr), .int (iI mto), .int (iI mwh)])), iA G aOu 8192 ou] rfl ?_
          refine z_goto (tgt := 0) C d_M_endDrawn_34 (by decide) ?_
          refine z_lv [0, 1] (lv' := [(0, .ref aM), (1, .int (iI b))]) rfl ?_
          exact ih0 (q - 1) (by omega) (by rw [← hE, show q.toNat = (q - 1).toNat + 1 by omega, hds, if_pos (by omega)]) (by omega)
  refine z_lv [0, 1] (lv' := [(0, .ref aM), (1, .int (iI b))]) rfl ?_
  exact loop0 (_ + 1) _ (by omega) (rfl) (Nat.lt_succ_self _)
set_option maxHeartbeats 4000000 in
set_option maxRecDepth 100000 in
theorem m_M_drawCell (l : Launch) (G : GG) (sz : Nat) (aM : Nat) (aWc : Nat) (aTx : Nat) (aOu : Nat) (aSo : Nat) (aNf : Nat) (aNg : Nat) (aSr : Nat) (aNu : Nat) (aMa : Nat) (aNo : Nat) (aLe : Nat) (aAc : Nat) (aDi : Nat) (aOr : Nat) (mth : Int) (msz : Int) (mwr : Int) (mfa : Int) (mpl : Int) (mle : Int) (mna : Int) (mfi : Int) (mru : Int) (mnv : Int) (mki : Int) (mfr : Int) (mto : Int) (mwh : Int) (ou : Nat → Int) (sF : Nat → Int) (nf : Nat → Int) (ng : Nat → Int) (no : Nat → Int) (ma : Nat → Int) (nm : Int → List Int) (le : Nat → Int) (nn : Nat → Int) (s : Int) (e : Int) (hnm : NmM sF nf ng no ma nm) (hct : cnt ma) (hnn : nnO nm nn) (hn : ∀ j, 0 ≤ nn j ∧ nn j ≤ 12) (hgl : ∀ j, -2 ≤ le j ∧ (le j < 0 ∨ le j < ma 0)) (h1 : 0 ≤ e ∧ e < ma 1 + ma 2 ∧ -1 ≤ s ∧ s < ma 0) (hpl : 0 ≤ mwr ∧ mwr + ((clX nm nn ma le s e).length : Int) ≤ 8192) : MetV l G sz y_M_drawCell c_M_drawCell 4 ({ frames := 3, cells := 0, slots := 0, locals := 66 } : Room) [.ref aM, .int (iI s), .int (iI e)] [(aM, .inr (8, [.ref aWc, .int (iI mth), .int (iI msz), .ref aTx, .int (iI mwr), .ref aOu, .int (iI mfa), .int (iI mpl), .int (iI mle), .int (iI mna), .ref aSo, .ref aNf, .ref aNg, .ref aSr, .ref aNu, .ref aMa, .ref aNo, .int (iI mfi), .int (iI mru), .int (iI mnv), .ref aLe, .ref aAc, .ref aDi, .ref aOr, .int (iI mki), .int (iI mfr), .int (iI mto), .int (iI mwh)])), iA G aOu 8192 ou, iA G aNo 48 no, iA G aNf 40 nf, iA G aNg 40 ng, iA G aSo 4200 sF, iA G aMa 3 ma, iA G aLe 384 le] (fun (u : Unit) => True) (fun (u : Unit) => [(aM, .inr (8, [.ref aWc, .int (iI mth), .int (iI msz), .ref aTx, .int (iI (mwr + ((clX nm nn ma le s e).length : Int))), .ref aOu, .int (iI mfa), .int (iI mpl), .int (iI mle), .int (iI mna), .ref aSo, .ref aNf, .ref aNg, .ref aSr, .ref aNu, .ref aMa, .ref aNo, .int (iI mfi), .int (iI mru), .int (iI mnv), .ref aLe, .ref aAc, .ref aDi, .ref aOr, .int (iI mki), .int (iI mfr), .int (iI mto), .int (iI mwh)])), iA G aOu 8192 (wI ou mwr (clX nm nn ma le s e)), iA G aNo 48 no, iA G aNf 40 nf, iA G aNg 40 ng, iA G aSo 4200 sF, iA G aMa 3 ma, iA G aLe 384 le]) := by
  refine MetV.mk (by decide) (Nat.le_of_ble_eq_true rfl) (fun X C K => ?_)
  show Zc G X 4 0 0 [(aM, .inr (8, [.ref aWc, .int (iI mth), .int (iI msz), .ref aTx, .int (iI mwr), .ref aOu, .int (iI mfa), .int (iI mpl), .int (iI mle), .int (iI mna), .ref aSo, .ref aNf, .ref aNg, .ref aSr, .ref aNu, .ref aMa, .ref aNo, .int (iI mfi), .int (iI mru), .int (iI mnv), .ref aLe, .ref aAc, .ref aDi, .ref aOr, .int (iI mki), .int (iI mfr), .int (iI mto), .int (iI mwh)])), iA G aOu 8192 ou, iA G aNo 48 no, iA G aNf 40 nf, iA G aNg 40 ng, iA G aSo 4200 sF, iA G aMa 3 ma, iA G aLe 384 le] [(0, .ref aM), (1, .int (iI s)), (2, .int (iI e))] 0 []
  have hcc := hct
  unfold cnt at hcc
  have hev := evs_rg hct (nt := ma) (e := e) (by omega)
  have hlv := NmM_ev hnm (e := e) (by omega)
  have hne := nnO_z hnn (s := evs (ma 1) e) (by omega)
  have hwd := wdE_rg hn ma le e
  refine z_iconst C d_M_drawCell_0 ?_
  refine z_istore_n (lv' := [(3, .int (iI 1)), (0, .ref aM), (1, .int (iI s)), (2, .int (iI e))]) C d_M_drawCell_1 (by decide) rfl ?_
  have hp0 : wI ou mwr ([32] ++ (if s < 0 then dnL nm nn (evs (ma 1) e) (wdE nn ma le e) else dgL nm nn (le (prf ma s e).toNat) (wdE nn ma le e))) = wI ou mwr (clX nm nn ma le s e) ∧ mwr + (([32] ++ (if s < 0 then dnL nm nn (evs (ma 1) e) (wdE nn ma le e) else dgL nm nn (le (prf ma s e).toNat) (wdE nn ma le e))).length : Int) = mwr + ((clX nm nn ma le s e).length : Int) := ⟨rfl, rfl⟩
  refine z_aload_n C d_M_drawCell_2 1 rfl ?_
  refine z_bipush C d_M_drawCell_3 (by decide) ?_
  refine z_callv (As := [.int (iI 32)]) (rest := []) (wr := [iA G aNo 48 no, iA G aNf 40 nf, iA G aNg 40 ng, iA G aSo 4200 sF, iA G aMa 3 ma, iA G aLe 384 le]) (ws' := fun u => [(aM, .inr (8, [.ref aWc, .int (iI mth), .int (iI msz), .ref aTx, .int (iI (mwr + 1)), .ref aOu, .int (iI mfa), .int (iI mpl), .int (iI mle), .int (iI mna), .ref aSo, .ref aNf, .ref aNg, .ref aSr, .ref aNu, .ref aMa, .ref aNo, .int (iI mfi), .int (iI mru), .int (iI mnv), .ref aLe, .ref aAc, .ref aDi, .ref aOr, .int (iI mki), .int (iI mfr), .int (iI mto), .int (iI mwh)])), iA G aOu 8192 (wI ou mwr [32]), iA G aNo 48 no, iA G aNf 40 nf, iA G aNg 40 ng, iA G aSo 4200 sF, iA G aMa 3 ma, iA G aLe 384 le]) (q0 := 0) C k_M_194 kc_M_say (fun l sz => m_M_say l G sz aM aWc aTx aOu aSo aNf aNg aSr aNu aMa aNo aLe aAc aDi aOr mth msz mwr mfa mpl mle mna mfi mru mnv mki mfr mto mwh ou 32 (by have h9 := qg_fit1 hp0; omega)) rfl rfl (Nat.le_of_ble_eq_true rfl) (by decide) d_M_drawCell_5 rfl rfl [0, 1] [2, 3, 4, 5, 6, 7] [6, 7, 0, 1, 2, 3, 4, 5] rfl rfl (by decide) (fun u => rfl) (fun u h5 => ?_)
  show Zc G X 4 0 0 [(aM, .inr (8, [.ref aWc, .int (iI mth), .int (iI msz), .ref aTx, .int (iI (mwr + 1)), .ref aOu, .int (iI mfa), .int (iI mpl), .int (iI mle), .int (iI mna), .ref aSo, .ref aNf, .ref aNg, .ref aSr, .ref aNu, .ref aMa, .ref aNo, .int (iI mfi), .int (iI mru), .int (iI mnv), .ref aLe, .ref aAc, .ref aDi, .ref aOr, .int (iI mki), .int (iI mfr), .int (iI mto), .int (iI mwh)])), iA G aOu 8192 (wI ou mwr [32]), iA G aNo 48 no, iA G aNf 40 nf, iA G aNg 40 ng, iA G aSo 4200 sF, iA G aMa 3 ma, iA G aLe 384 le] [(3, .int (iI 1)), (0, .ref aM), (1, .int (iI s)), (2, .int (iI e))] 8 []
  have hpA : wI (wI ou mwr [32]) (mwr + 1) (if s < 0 then dnL nm nn (evs (ma 1) e) (wdE nn ma le e) else dgL nm nn (le (prf ma s e).toNat) (wdE nn ma le e)) = wI ou mwr (clX nm nn ma le s e) ∧ (mwr + 1) + ((if s < 0 then dnL nm nn (evs (ma 1) e) (wdE nn ma le e) else dgL nm nn (le (prf ma s e).toNat) (wdE nn ma le e)).length : Int) = mwr + ((clX nm nn ma le s e).length : Int) := qg_next hp0
  have hgA : 0 ≤ mwr + 1 := by omega
  generalize wI ou mwr [32] = EA at hpA ⊢
  generalize mwr + 1 = qA at hpA hgA ⊢
  refine z_iload_n C d_M_drawCell_8 2 rfl ?_
  refine z_if_ge (tgt := 21) C d_M_drawCell_9 (by decide) (by omega) (fun c9 => ?_) (fun c9 => ?_)
  ·
    rw [if_neg (by omega)] at hpA
    have hpr := prf_rg hct (s := s) (e := e) (by omega)
    have hgk := hgl (prf ma s e).toNat
    unfold dgL at hpA
    refine z_aload_n C d_M_drawCell_21 1 rfl ?_
    refine z_get C f_M_40 d_M_drawCell_22 0 rfl rfl ?_
    refine z_aload_n C d_M_drawCell_25 1 rfl ?_
    refine z_iload_n C d_M_drawCell_26 2 rfl ?_
    refine z_iload_n C d_M_drawCell_27 3 rfl ?_
    refine z_calli (As := [.int (iI s), .int (iI e)]) (rest := [.ref aLe]) (wr := [iA G aOu 8192 EA, iA G aNo 48 no, iA G aNf 40 nf, iA G aNg 40 ng, iA G aSo 4200 sF, iA G aLe 384 le]) (ws' := fun u => [(aM, .inr (8, [.ref aWc, .int (iI mth), .int (iI msz), .ref aTx, .int (iI qA), .ref aOu, .int (iI mfa), .int (iI mpl), .int (iI mle), .int (iI mna), .ref aSo, .ref aNf, .ref aNg, .ref aSr, .ref aNu, .ref aMa, .ref aNo, .int (iI mfi), .int (iI mru), .int (iI mnv), .ref aLe, .ref aAc, .ref aDi, .ref aOr, .int (iI mki), .int (iI mfr), .int (iI mto), .int (iI mwh)])), iA G aOu 8192 EA, iA G aNo 48 no, iA G aNf 40 nf, iA G aNg 40 ng, iA G aSo 4200 sF, iA G aMa 3 ma, iA G aLe 384 le]) (q0 := 0) C k_M_182 kc_M_at (fun l sz => m_M_at l G sz aM aWc aTx aOu aSo aNf aNg aSr aNu aMa aNo aLe aAc aDi aOr mth msz qA mfa mpl mle mna mfi mru mnv mki mfr mto mwh ma s e (hct) (by omega)) rfl rfl (Nat.le_of_ble_eq_true rfl) (by decide) d_M_drawCell_28 rfl rfl [0, 6] [1, 2, 3, 4, 5, 7] [6, 0, 1, 2, 3, 4, 7, 5] rfl rfl (by decide) (fun u => rfl) (fun r u h28 => ?_)
    obtain rfl := h28
    show Zc G X 4 0 0 [(aM, .inr (8, [.ref aWc, .int (iI mth), .int (iI msz), .ref aTx, .int (iI qA), .ref aOu, .int (iI mfa), .int (iI mpl), .int (iI mle), .int (iI mna), .ref aSo, .ref aNf, .ref aNg, .ref aSr, .ref aNu, .ref aMa, .ref aNo, .int (iI mfi), .int (iI mru), .int (iI mnv), .ref aLe, .ref aAc, .ref aDi, .ref aOr, .int (iI mki), .int (iI mfr), .int (iI mto), .int (iI mwh)])), iA G aOu 8192 EA, iA G aNo 48 no, iA G aNf 40 nf, iA G aNg 40 ng, iA G aSo 4200 sF, iA G aMa 3 ma, iA G aLe 384 le] [(3, .int (iI 1)), (0, .ref aM), (1, .int (iI s)), (2, .int (iI e))] 31 [.int (iI (prf ma s e)), .ref aLe]
    refine z_iald C d_M_drawCell_31 7 rfl (by omega) ?_
    refine z_if_lt (tgt := 55) C d_M_drawCell_32 (by decide) (by omega) (fun c32 => ?_) (fun c32 => ?_)
    ·
      rw [if_neg (by omega)] at hpA
      refine z_aload_n C d_M_drawCell_55 1 rfl ?_
      refine z_aload_n C d_M_drawCell_56 1 rfl ?_
      refine z_get C f_M_40 d_M_drawCell_57 0 rfl rfl ?_
      refine z_aload_n C d_M_drawCell_60 1 rfl ?_
      refine z_iload_n C d_M_drawCell_61 2 rfl ?_
      refine z_iload_n C d_M_drawCell_62 3 rfl ?_
      refine z_calli (As := [.int (iI s), .int (iI e)]) (rest := [.ref aLe, .ref aM]) (wr := [iA G aOu 8192 EA, iA G aNo 48 no, iA G aNf 40 nf, iA G aNg 40 ng, iA G aSo 4200 sF, iA G aLe 384 le]) (ws' := fun u => [(aM, .inr (8, [.ref aWc, .int (iI mth), .int (iI msz), .ref aTx, .int (iI qA), .ref aOu, .int (iI mfa), .int (iI mpl), .int (iI mle), .int (iI mna), .ref aSo, .ref aNf, .ref aNg, .ref aSr, .ref aNu, .ref aMa, .ref aNo, .int (iI mfi), .int (iI mru), .int (iI mnv), .ref aLe, .ref aAc, .ref aDi, .ref aOr, .int (iI mki), .int (iI mfr), .int (iI mto), .int (iI mwh)])), iA G aOu 8192 EA, iA G aNo 48 no, iA G aNf 40 nf, iA G aNg 40 ng, iA G aSo 4200 sF, iA G aMa 3 ma, iA G aLe 384 le]) (q0 := 0) C k_M_182 kc_M_at (fun l sz => m_M_at l G sz aM aWc aTx aOu aSo aNf aNg aSr aNu aMa aNo aLe aAc aDi aOr mth msz qA mfa mpl mle mna mfi mru mnv mki mfr mto mwh ma s e (hct) (by omega)) rfl rfl (Nat.le_of_ble_eq_true rfl) (by decide) d_M_drawCell_63 rfl rfl [0, 6] [1, 2, 3, 4, 5, 7] [6, 0, 1, 2, 3, 4, 7, 5] rfl rfl (by decide) (fun u => rfl) (fun r u h63 => ?_)
      obtain rfl := h63
      show Zc G X 4 0 0 [(aM, .inr (8, [.ref aWc, .int (iI mth), .int (iI msz), .ref aTx, .int (iI qA), .ref aOu, .int (iI mfa), .int (iI mpl), .int (iI mle), .int (iI mna), .ref aSo, .ref aNf, .ref aNg, .ref aSr, .ref aNu, .ref aMa, .ref aNo, .int (iI mfi), .int (iI mru), .int (iI mnv), .ref aLe, .ref aAc, .ref aDi, .ref aOr, .int (iI mki), .int (iI mfr), .int (iI mto), .int (iI mwh)])), iA G aOu 8192 EA, iA G aNo 48 no, iA G aNf 40 nf, iA G aNg 40 ng, iA G aSo 4200 sF, iA G aMa 3 ma, iA G aLe 384 le] [(3, .int (iI 1)), (0, .ref aM), (1, .int (iI s)), (2, .int (iI e))] 66 [.int (iI (prf ma s e)), .ref aLe, .ref aM]
      refine z_iald C d_M_drawCell_66 7 rfl (by omega) ?_
      refine z_bipush C d_M_drawCell_67 (by decide) ?_
      refine z_icmp_ne (tgt := 77) C d_M_drawCell_69 (by decide) (by omega) (by omega) (fun c69 => ?_) (fun c69 => ?_)
      ·
        refine z_bipush C d_M_drawCell_77 (by decide) ?_
        rw [if_neg (by omega)] at hpA
        have hpB := hpA
        refine z_callv (As := [.int (iI 63)]) (rest := []) (wr := [iA G aNo 48 no, iA G aNf 40 nf, iA G aNg 40 ng, iA G aSo 4200 sF, iA G aMa 3 ma, iA G aLe 384 le]) (ws' := fun u => [(aM, .inr (8, [.ref aWc, .int (iI mth), .int (iI msz), .ref aTx, .int (iI (qA + 1)), .ref aOu, .int (iI mfa), .int (iI mpl), .int (iI mle), .int (iI mna), .ref aSo, .ref aNf, .ref aNg, .ref aSr, .ref aNu, .ref aMa, .ref aNo, .int (iI mfi), .int (iI mru), .int (iI mnv), .ref aLe, .ref aAc, .ref aDi, .ref aOr, .int (iI mki), .int (iI mfr), .int (iI mto), .int (iI mwh)])), iA G aOu 8192 (wI EA qA [63]), iA G aNo 48 no, iA G aNf 40 nf, iA G aNg 40 ng, iA G aSo 4200 sF, iA G aMa 3 ma, iA G aLe 384 le]) (q0 := 0) C k_M_194 kc_M_say (fun l sz => m_M_say l G sz aM aWc aTx aOu aSo aNf aNg aSr aNu aMa aNo aLe aAc aDi aOr mth msz qA mfa mpl mle mna mfi mru mnv mki mfr mto mwh EA 63 (by have h9 := qg_fit1 hpB; omega)) rfl rfl (Nat.le_of_ble_eq_true rfl) (by decide) d_M_drawCell_79 rfl rfl [0, 1] [2, 3, 4, 5, 6, 7] [6, 7, 0, 1, 2, 3, 4, 5] rfl rfl (by decide) (fun u => rfl) (fun u h79 => ?_)
        show Zc G X 4 0 0 [(aM, .inr (8, [.ref aWc, .int (iI mth), .int (iI msz), .ref aTx, .int (iI (qA + 1)), .ref aOu, .int (iI mfa), .int (iI mpl), .int (iI mle), .int (iI mna), .ref aSo, .ref aNf, .ref aNg, .ref aSr, .ref aNu, .ref aMa, .ref aNo, .int (iI mfi), .int (iI mru), .int (iI mnv), .ref aLe, .ref aAc, .ref aDi, .ref aOr, .int (iI mki), .int (iI mfr), .int (iI mto), .int (iI mwh)])), iA G aOu 8192 (wI EA qA [63]), iA G aNo 48 no, iA G aNf 40 nf, iA G aNg 40 ng, iA G aSo 4200 sF, iA G aMa 3 ma, iA G aLe 384 le] [(3, .int (iI 1)), (0, .ref aM), (1, .int (iI s)), (2, .int (iI e))] 82 []
        have hpC : wI (wI EA qA [63]) (qA + 1) (bl (wdE nn ma le e - 1)) = wI ou mwr (clX nm nn ma le s e) ∧ (qA + 1) + ((bl (wdE nn ma le e - 1)).length : Int) = mwr + ((clX nm nn ma le s e).length : Int) := qg_next hpB
        have hgC : 0 ≤ qA + 1 := by omega
        generalize wI EA qA [63] = EC at hpC ⊢
        generalize qA + 1 = qC at hpC hgC ⊢
        have hpD : wI EC qC (List.replicate (wdE nn ma le e - 1).toNat (32 : Int) ++ []) = wI ou mwr (clX nm nn ma le s e) ∧ qC + ((List.replicate (wdE nn ma le e - 1).toNat (32 : Int) ++ []).length : Int) = mwr + ((clX nm nn ma le s e).length : Int) := qg_all hpC
        refine z_aload_n C d_M_drawCell_82 1 rfl ?_
        refine z_aload_n C d_M_drawCell_83 1 rfl ?_
        refine z_iload_n C d_M_drawCell_84 3 rfl ?_
        refine z_calli (As := [.int (iI e)]) (rest := [.ref aM]) (wr := [iA G aOu 8192 EC, iA G aSo 4200 sF]) (ws' := fun u => [(aM, .inr (8, [.ref aWc, .int (iI mth), .int (iI msz), .ref aTx, .int (iI qC), .ref aOu, .int (iI mfa), .int (iI mpl), .int (iI mle), .int (iI mna), .ref aSo, .ref aNf, .ref aNg, .ref aSr, .ref aNu, .ref aMa, .ref aNo, .int (iI mfi), .int (iI mru), .int (iI mnv), .ref aLe, .ref aAc, .ref aDi, .ref aOr, .int (iI mki), .int (iI mfr), .int (iI mto), .int (iI mwh)])), iA G aOu 8192 EC, iA G aNo 48 no, iA G aNf 40 nf, iA G aNg 40 ng, iA G aSo 4200 sF, iA G aMa 3 ma, iA G aLe 384 le]) (q0 := 0) C k_M_221 kc_M_widthOf (fun l sz => m_M_widthOf l G sz aM aWc aTx aOu aSo aNf aNg aSr aNu aMa aNo aLe aAc aDi aOr mth msz qC mfa mpl mle mna mfi mru mnv mki mfr mto mwh sF nf ng no ma le nn nm e (hnm) (hct) (hnn) (hn) (hgl) (by omega)) rfl rfl (Nat.le_of_ble_eq_true rfl) (by decide) d_M_drawCell_85 rfl rfl [0, 2, 3, 4, 6, 7] [1, 5] [2, 0, 3, 4, 5, 1, 6, 7] rfl rfl (by decide) (fun u => rfl) (fun r u h85 => ?_)
        obtain rfl := h85
        show Zc G X 4 0 0 [(aM, .inr (8, [.ref aWc, .int (iI mth), .int (iI msz), .ref aTx, .int (iI qC), .ref aOu, .int (iI mfa), .int (iI mpl), .int (iI mle), .int (iI mna), .ref aSo, .ref aNf, .ref aNg, .ref aSr, .ref aNu, .ref aMa, .ref aNo, .int (iI mfi), .int (iI mru), .int (iI mnv), .ref aLe, .ref aAc, .ref aDi, .ref aOr, .int (iI mki), .int (iI mfr), .int (iI mto), .int (iI mwh)])), iA G aOu 8192 EC, iA G aNo 48 no, iA G aNf 40 nf, iA G aNg 40 ng, iA G aSo 4200 sF, iA G aMa 3 ma, iA G aLe 384 le] [(3, .int (iI 1)), (0, .ref aM), (1, .int (iI s)), (2, .int (iI e))] 88 [.int (iI (wdE nn ma le e)), .ref aM]
        refine z_iload_n C d_M_drawCell_88 0 rfl ?_
        refine z_isub C d_M_drawCell_89 ?_
        refine z_callv (As := [.int (iI ((wdE nn ma le e) - 1))]) (rest := []) (wr := [iA G aNo 48 no, iA G aNf 40 nf, iA G aNg 40 ng, iA G aSo 4200 sF, iA G aMa 3 ma, iA G aLe 384 le]) (ws' := fun u => [(aM, .inr (8, [.ref aWc, .int (iI mth), .int (iI msz), .ref aTx, .int (iI (qC + ((List.replicate ((wdE nn ma le e) - 1).toNat (32 : Int)).length : Int))), .ref aOu, .int (iI mfa), .int (iI mpl), .int (iI mle), .int (iI mna), .ref aSo, .ref aNf, .ref aNg, .ref aSr, .ref aNu, .ref aMa, .ref aNo, .int (iI mfi), .int (iI mru), .int (iI mnv), .ref aLe, .ref aAc, .ref aDi, .ref aOr, .int (iI mki), .int (iI mfr), .int (iI mto), .int (iI mwh)])), iA G aOu 8192 (wI EC qC (List.replicate ((wdE nn ma le e) - 1).toNat (32 : Int))), iA G aNo 48 no, iA G aNf 40 nf, iA G aNg 40 ng, iA G aSo 4200 sF, iA G aMa 3 ma, iA G aLe 384 le]) (q0 := 0) C k_M_224 kc_M_fill (fun l sz => m_M_fill l G sz aM aWc aTx aOu aSo aNf aNg aSr aNu aMa aNo aLe aAc aDi aOr mth msz qC mfa mpl mle mna mfi mru mnv mki mfr mto mwh EC ((wdE nn ma le e) - 1) (by have h9 := qg_fit hpD; omega)) rfl rfl (Nat.le_of_ble_eq_true rfl) (by decide) d_M_drawCell_90 rfl rfl [0, 1] [2, 3, 4, 5, 6, 7] [6, 7, 0, 1, 2, 3, 4, 5] rfl rfl (by decide) (fun u => rfl) (fun u h90 => ?_)
        show Zc G X 4 0 0 [(aM, .inr (8, [.ref aWc, .int (iI mth), .int (iI msz), .ref aTx, .int (iI (qC + ((List.replicate ((wdE nn ma le e) - 1).toNat (32 : Int)).length : Int))), .ref aOu, .int (iI mfa), .int (iI mpl), .int (iI mle), .int (iI mna), .ref aSo, .ref aNf, .ref aNg, .ref aSr, .ref aNu, .ref aMa, .ref aNo, .int (iI mfi), .int (iI mru), .int (iI mnv), .ref aLe, .ref aAc, .ref aDi, .ref aOr, .int (iI mki), .int (iI mfr), .int (iI mto), .int (iI mwh)])), iA G aOu 8192 (wI EC qC (List.replicate ((wdE nn ma le e) - 1).toNat (32 : Int))), iA G aNo 48 no, iA G aNf 40 nf, iA G aNg 40 ng, iA G aSo 4200 sF, iA G aMa 3 ma, iA G aLe 384 le] [(3, .int (iI 1)), (0, .ref aM), (1, .int (iI s)), (2, .int (iI e))] 93 []
        have hpZ : wI (wI EC qC (List.replicate ((wdE nn ma le e) - 1).toNat (32 : Int))) (qC + ((List.replicate ((wdE nn ma le e) - 1).toNat (32 : Int)).length : Int)) ([]) = wI ou mwr (clX nm nn ma le s e) ∧ (qC + ((List.replicate ((wdE nn ma le e) - 1).toNat (32 : Int)).length : Int)) + (([]).length : Int) = mwr + ((clX nm nn ma le s e).length : Int) := qg_next hpD
        have hgZ : 0 ≤ qC + ((List.replicate ((wdE nn ma le e) - 1).toNat (32 : Int)).length : Int) := by omega
        generalize wI EC qC (List.replicate ((wdE nn ma le e) - 1).toNat (32 : Int)) = EZ at hpZ ⊢
        generalize qC + ((List.replicate ((wdE nn ma le e) - 1).toNat (32 : Int)).length : Int) = qZ at hpZ hgZ ⊢
        exact z_vret C K d_M_drawCell_93 () (by rw [(qg_end hpZ).1, (qg_end hpZ).2]) (trivial)
      ·
        refine z_bipush C d_M_drawCell_72 (by decide) ?_
        refine z_goto (tgt := 79) C d_M_drawCell_74 (by decide) ?_
        rw [if_pos (by omega)] at hpA
        have hpB := hpA
        refine z_callv (As := [.int (iI 45)]) (rest := []) (wr := [iA G aNo 48 no, iA G aNf 40 nf, iA G aNg 40 ng, iA G aSo 4200 sF, iA G aMa 3 ma, iA G aLe 384 le]) (ws' := fun u => [(aM, .inr (8, [.ref aWc, .int (iI mth), .int (iI msz), .ref aTx, .int (iI (qA + 1)), .ref aOu, .int (iI mfa), .int (iI mpl), .int (iI mle), .int (iI mna), .ref aSo, .ref aNf, .ref aNg, .ref aSr, .ref aNu, .ref aMa, .ref aNo, .int (iI mfi), .int (iI mru), .int (iI mnv), .ref aLe, .ref aAc, .ref aDi, .ref aOr, .int (iI mki), .int (iI mfr), .int (iI mto), .int (iI mwh)])), iA G aOu 8192 (wI EA qA [45]), iA G aNo 48 no, iA G aNf 40 nf, iA G aNg 40 ng, iA G aSo 4200 sF, iA G aMa 3 ma, iA G aLe 384 le]) (q0 := 0) C k_M_194 kc_M_say (fun l sz => m_M_say l G sz aM aWc aTx aOu aSo aNf aNg aSr aNu aMa aNo aLe aAc aDi aOr mth msz qA mfa mpl mle mna mfi mru mnv mki mfr mto mwh EA 45 (by have h9 := qg_fit1 hpB; omega)) rfl rfl (Nat.le_of_ble_eq_true rfl) (by decide) d_M_drawCell_79 rfl rfl [0, 1] [2, 3, 4, 5, 6, 7] [6, 7, 0, 1, 2, 3, 4, 5] rfl rfl (by decide) (fun u => rfl) (fun u h79 => ?_)
        show Zc G X 4 0 0 [(aM, .inr (8, [.ref aWc, .int (iI mth), .int (iI msz), .ref aTx, .int (iI (qA + 1)), .ref aOu, .int (iI mfa), .int (iI mpl), .int (iI mle), .int (iI mna), .ref aSo, .ref aNf, .ref aNg, .ref aSr, .ref aNu, .ref aMa, .ref aNo, .int (iI mfi), .int (iI mru), .int (iI mnv), .ref aLe, .ref aAc, .ref aDi, .ref aOr, .int (iI mki), .int (iI mfr), .int (iI mto), .int (iI mwh)])), iA G aOu 8192 (wI EA qA [45]), iA G aNo 48 no, iA G aNf 40 nf, iA G aNg 40 ng, iA G aSo 4200 sF, iA G aMa 3 ma, iA G aLe 384 le] [(3, .int (iI 1)), (0, .ref aM), (1, .int (iI s)), (2, .int (iI e))] 82 []
        have hpC : wI (wI EA qA [45]) (qA + 1) (bl (wdE nn ma le e - 1)) = wI ou mwr (clX nm nn ma le s e) ∧ (qA + 1) + ((bl (wdE nn ma le e - 1)).length : Int) = mwr + ((clX nm nn ma le s e).length : Int) := qg_next hpB
        have hgC : 0 ≤ qA + 1 := by omega
        generalize wI EA qA [45] = EC at hpC ⊢
        generalize qA + 1 = qC at hpC hgC ⊢
        have hpD : wI EC qC (List.replicate (wdE nn ma le e - 1).toNat (32 : Int) ++ []) = wI ou mwr (clX nm nn ma le s e) ∧ qC + ((List.replicate (wdE nn ma le e - 1).toNat (32 : Int) ++ []).length : Int) = mwr + ((clX nm nn ma le s e).length : Int) := qg_all hpC
        refine z_aload_n C d_M_drawCell_82 1 rfl ?_
        refine z_aload_n C d_M_drawCell_83 1 rfl ?_
        refine z_iload_n C d_M_drawCell_84 3 rfl ?_
        refine z_calli (As := [.int (iI e)]) (rest := [.ref aM]) (wr := [iA G aOu 8192 EC, iA G aSo 4200 sF]) (ws' := fun u => [(aM, .inr (8, [.ref aWc, .int (iI mth), .int (iI msz), .ref aTx, .int (iI qC), .ref aOu, .int (iI mfa), .int (iI mpl), .int (iI mle), .int (iI mna), .ref aSo, .ref aNf, .ref aNg, .ref aSr, .ref aNu, .ref aMa, .ref aNo, .int (iI mfi), .int (iI mru), .int (iI mnv), .ref aLe, .ref aAc, .ref aDi, .ref aOr, .int (iI mki), .int (iI mfr), .int (iI mto), .int (iI mwh)])), iA G aOu 8192 EC, iA G aNo 48 no, iA G aNf 40 nf, iA G aNg 40 ng, iA G aSo 4200 sF, iA G aMa 3 ma, iA G aLe 384 le]) (q0 := 0) C k_M_221 kc_M_widthOf (fun l sz => m_M_widthOf l G sz aM aWc aTx aOu aSo aNf aNg aSr aNu aMa aNo aLe aAc aDi aOr mth msz qC mfa mpl mle mna mfi mru mnv mki mfr mto mwh sF nf ng no ma le nn nm e (hnm) (hct) (hnn) (hn) (hgl) (by omega)) rfl rfl (Nat.le_of_ble_eq_true rfl) (by decide) d_M_drawCell_85 rfl rfl [0, 2, 3, 4, 6, 7] [1, 5] [2, 0, 3, 4, 5, 1, 6, 7] rfl rfl (by decide) (fun u => rfl) (fun r u h85 => ?_)
        obtain rfl := h85
        show Zc G X 4 0 0 [(aM, .inr (8, [.ref aWc, .int (iI mth), .int (iI msz), .ref aTx, .int (iI qC), .ref aOu, .int (iI mfa), .int (iI mpl), .int (iI mle), .int (iI mna), .ref aSo, .ref aNf, .ref aNg, .ref aSr, .ref aNu, .ref aMa, .ref aNo, .int (iI mfi), .int (iI mru), .int (iI mnv), .ref aLe, .ref aAc, .ref aDi, .ref aOr, .int (iI mki), .int (iI mfr), .int (iI mto), .int (iI mwh)])), iA G aOu 8192 EC, iA G aNo 48 no, iA G aNf 40 nf, iA G aNg 40 ng, iA G aSo 4200 sF, iA G aMa 3 ma, iA G aLe 384 le] [(3, .int (iI 1)), (0, .ref aM), (1, .int (iI s)), (2, .int (iI e))] 88 [.int (iI (wdE nn ma le e)), .ref aM]
        refine z_iload_n C d_M_drawCell_88 0 rfl ?_
        refine z_isub C d_M_drawCell_89 ?_
        refine z_callv (As := [.int (iI ((wdE nn ma le e) - 1))]) (rest := []) (wr := [iA G aNo 48 no, iA G aNf 40 nf, iA G aNg 40 ng, iA G aSo 4200 sF, iA G aMa 3 ma, iA G aLe 384 le]) (ws' := fun u => [(aM, .inr (8, [.ref aWc, .int (iI mth), .int (iI msz), .ref aTx, .int (iI (qC + ((List.replicate ((wdE nn ma le e) - 1).toNat (32 : Int)).length : Int))), .ref aOu, .int (iI mfa), .int (iI mpl), .int (iI mle), .int (iI mna), .ref aSo, .ref aNf, .ref aNg, .ref aSr, .ref aNu, .ref aMa, .ref aNo, .int (iI mfi), .int (iI mru), .int (iI mnv), .ref aLe, .ref aAc, .ref aDi, .ref aOr, .int (iI mki), .int (iI mfr), .int (iI mto), .int (iI mwh)])), iA G aOu 8192 (wI EC qC (List.replicate ((wdE nn ma le e) - 1).toNat (32 : Int))), iA G aNo 48 no, iA G aNf 40 nf, iA G aNg 40 ng, iA G aSo 4200 sF, iA G aMa 3 ma, iA G aLe 384 le]) (q0 := 0) C k_M_224 kc_M_fill (fun l sz => m_M_fill l G sz aM aWc aTx aOu aSo aNf aNg aSr aNu aMa aNo aLe aAc aDi aOr mth msz qC mfa mpl mle mna mfi mru mnv mki mfr mto mwh EC ((wdE nn ma le e) - 1) (by have h9 := qg_fit hpD; omega)) rfl rfl (Nat.le_of_ble_eq_true rfl) (by decide) d_M_drawCell_90 rfl rfl [0, 1] [2, 3, 4, 5, 6, 7] [6, 7, 0, 1, 2, 3, 4, 5] rfl rfl (by decide) (fun u => rfl) (fun u h90 => ?_)
        show Zc G X 4 0 0 [(aM, .inr (8, [.ref aWc, .int (iI mth), .int (iI msz), .ref aTx, .int (iI (qC + ((List.replicate ((wdE nn ma le e) - 1).toNat (32 : Int)).length : Int))), .ref aOu, .int (iI mfa), .int (iI mpl), .int (iI mle), .int (iI mna), .ref aSo, .ref aNf, .ref aNg, .ref aSr, .ref aNu, .ref aMa, .ref aNo, .int (iI mfi), .int (iI mru), .int (iI mnv), .ref aLe, .ref aAc, .ref aDi, .ref aOr, .int (iI mki), .int (iI mfr), .int (iI mto), .int (iI mwh)])), iA G aOu 8192 (wI EC qC (List.replicate ((wdE nn ma le e) - 1).toNat (32 : Int))), iA G aNo 48 no, iA G aNf 40 nf, iA G aNg 40 ng, iA G aSo 4200 sF, iA G aMa 3 ma, iA G aLe 384 le] [(3, .int (iI 1)), (0, .ref aM), (1, .int (iI s)), (2, .int (iI e))] 93 []
        have hpZ : wI (wI EC qC (List.replicate ((wdE nn ma le e) - 1).toNat (32 : Int))) (qC + ((List.replicate ((wdE nn ma le e) - 1).toNat (32 : Int)).length : Int)) ([]) = wI ou mwr (clX nm nn ma le s e) ∧ (qC + ((List.replicate ((wdE nn ma le e) - 1).toNat (32 : Int)).length : Int)) + (([]).length : Int) = mwr + ((clX nm nn ma le s e).length : Int) := qg_next hpD
        have hgZ : 0 ≤ qC + ((List.replicate ((wdE nn ma le e) - 1).toNat (32 : Int)).length : Int) := by omega
        generalize wI EC qC (List.replicate ((wdE nn ma le e) - 1).toNat (32 : Int)) = EZ at hpZ ⊢
        generalize qC + ((List.replicate ((wdE nn ma le e) - 1).toNat (32 : Int)).length : Int) = qZ at hpZ hgZ ⊢
        exact z_vret C K d_M_drawCell_93 () (by rw [(qg_end hpZ).1, (qg_end hpZ).2]) (trivial)
    ·
      rw [if_pos (by omega)] at hpA
      have hnz := nnO_z hnn (s := le (prf ma s e).toNat) (by omega)
      have hnl := NmM_st hnm (s := le (prf ma s e).toNat) (by omega)
      have hpB : wI EA qA (nm (le (prf ma s e).toNat) ++ bl (wdE nn ma le e - nn (le (prf ma s e).toNat).toNat)) = wI ou mwr (clX nm nn ma le s e) ∧ qA + ((nm (le (prf ma s e).toNat) ++ bl (wdE nn ma le e - nn (le (prf ma s e).toNat).toNat)).length : Int) = mwr + ((clX nm nn ma le s e).length : Int) := hpA
      refine z_aload_n C d_M_drawCell_35 1 rfl ?_
      refine z_iconst C d_M_drawCell_36 ?_
      refine z_aload_n C d_M_drawCell_37 1 rfl ?_
      refine z_get C f_M_40 d_M_drawCell_38 0 rfl rfl ?_
      refine z_aload_n C d_M_drawCell_41 1 rfl ?_
      refine z_iload_n C d_M_drawCell_42 2 rfl ?_
      refine z_iload_n C d_M_drawCell_43 3 rfl ?_
      refine z_calli (As := [.int (iI s), .int (iI e)]) (rest := [.ref aLe, .int (iI 0), .ref aM]) (wr := [iA G aOu 8192 EA, iA G aNo 48 no, iA G aNf 40 nf, iA G aNg 40 ng, iA G aSo 4200 sF, iA G aLe 384 le]) (ws' := fun u => [(aM, .inr (8, [.ref aWc, .int (iI mth), .int (iI msz), .ref aTx, .int (iI qA), .ref aOu, .int (iI mfa), .int (iI mpl), .int (iI mle), .int (iI mna), .ref aSo, .ref aNf, .ref aNg, .ref aSr, .ref aNu, .ref aMa, .ref aNo, .int (iI mfi), .int (iI mru), .int (iI mnv), .ref aLe, .ref aAc, .ref aDi, .ref aOr, .int (iI mki), .int (iI mfr), .int (iI mto), .int (iI mwh)])), iA G aOu 8192 EA, iA G aNo 48 no, iA G aNf 40 nf, iA G aNg 40 ng, iA G aSo 4200 sF, iA G aMa 3 ma, iA G aLe 384 le]) (q0 := 0) C k_M_182 kc_M_at (fun l sz => m_M_at l G sz aM aWc aTx aOu aSo aNf aNg aSr aNu aMa aNo aLe aAc aDi aOr mth msz qA mfa mpl mle mna mfi mru mnv mki mfr mto mwh ma s e (hct) (by omega)) rfl rfl (Nat.le_of_ble_eq_true rfl) (by decide) d_M_drawCell_44 rfl rfl [0, 6] [1, 2, 3, 4, 5, 7] [6, 0, 1, 2, 3, 4, 7, 5] rfl rfl (by decide) (fun u => rfl) (fun r u h44 => ?_)
      obtain rfl := h44
      show Zc G X 4 0 0 [(aM, .inr (8, [.ref aWc, .int (iI mth), .int (iI msz), .ref aTx, .int (iI qA), .ref aOu, .int (iI mfa), .int (iI mpl), .int (iI mle), .int (iI mna), .ref aSo, .ref aNf, .ref aNg, .ref aSr, .ref aNu, .ref aMa, .ref aNo, .int (iI mfi), .int (iI mru), .int (iI mnv), .ref aLe, .ref aAc, .ref aDi, .ref aOr, .int (iI mki), .int (iI mfr), .int (iI mto), .int (iI mwh)])), iA G aOu 8192 EA, iA G aNo 48 no, iA G aNf 40 nf, iA G aNg 40 ng, iA G aSo 4200 sF, iA G aMa 3 ma, iA G aLe 384 le] [(3, .int (iI 1)), (0, .ref aM), (1, .int (iI s)), (2, .int (iI e))] 47 [.int (iI (prf ma s e)), .ref aLe, .int (iI 0), .ref aM]
      refine z_iald C d_M_drawCell_47 7 rfl (by omega) ?_
      refine z_calli (As := [.int (iI 0), .int (iI (le ((prf ma s e).toNat)))]) (rest := []) (wr := [iA G aMa 3 ma, iA G aLe 384 le]) (ws' := fun u => [(aM, .inr (8, [.ref aWc, .int (iI mth), .int (iI msz), .ref aTx, .int (iI (qA + ((nm (le (prf ma s e).toNat)).length : Int))), .ref aOu, .int (iI mfa), .int (iI mpl), .int (iI mle), .int (iI mna), .ref aSo, .ref aNf, .ref aNg, .ref aSr, .ref aNu, .ref aMa, .ref aNo, .int (iI mfi), .int (iI mru), .int (iI mnv), .ref aLe, .ref aAc, .ref aDi, .ref aOr, .int (iI mki), .int (iI mfr), .int (iI mto), .int (iI mwh)])), iA G aOu 8192 (wI EA qA (nm (le (prf ma s e).toNat))), iA G aNo 48 no, iA G aNf 40 nf, iA G aNg 40 ng, iA G aSo 4200 sF, iA G aMa 3 ma, iA G aLe 384 le]) (q0 := 0) C k_M_197 kc_M_sayName (fun l sz => m_M_sayName l G sz aM aWc aTx aOu aSo aNf aNg aSr aNu aMa aNo aLe aAc aDi aOr mth msz qA mfa mpl mle mna mfi mru mnv mki mfr mto mwh EA sF nf ng no ma nm 0 (le ((prf ma s e).toNat)) (le (prf ma s e).toNat) (hnm) (hct) (by omega) (by have h7 := maZ_e ma; have h6 := bas_e; omega) (by have h7 := maZ_e ma; have h6 := bas_e; omega) (by have h9 := qg_fit hpB; omega)) rfl rfl (Nat.le_of_ble_eq_true rfl) (by decide) d_M_drawCell_48 rfl rfl [0, 1, 2, 3, 4, 5] [6, 7] [2, 3, 4, 5, 6, 7, 0, 1] rfl rfl (by decide) (fun u => rfl) (fun r u h48 => ?_)
      obtain rfl := h48
      show Zc G X 4 0 0 [(aM, .inr (8, [.ref aWc, .int (iI mth), .int (iI msz), .ref aTx, .int (iI (qA + ((nm (le (prf ma s e).toNat)).length : Int))), .ref aOu, .int (iI mfa), .int (iI mpl), .int (iI mle), .int (iI mna), .ref aSo, .ref aNf, .ref aNg, .ref aSr, .ref aNu, .ref aMa, .ref aNo, .int (iI mfi), .int (iI mru), .int (iI mnv), .ref aLe, .ref aAc, .ref aDi, .ref aOr, .int (iI mki), .int (iI mfr), .int (iI mto), .int (iI mwh)])), iA G aOu 8192 (wI EA qA (nm (le (prf ma s e).toNat))), iA G aNo 48 no, iA G aNf 40 nf, iA G aNg 40 ng, iA G aSo 4200 sF, iA G aMa 3 ma, iA G aLe 384 le] [(3, .int (iI 1)), (0, .ref aM), (1, .int (iI s)), (2, .int (iI e))] 51 [.int (iI ((nm (le (prf ma s e).toNat)).length : Int))]
      refine z_istore_n (lv' := [(3, .int (iI ((nm (le (prf ma s e).toNat)).length : Int))), (0, .ref aM), (1, .int (iI s)), (2, .int (iI e))]) C d_M_drawCell_51 (by decide) rfl ?_
      refine z_goto (tgt := 82) C d_M_drawCell_52 (by decide) ?_
      have hpC : wI (wI EA qA (nm (le (prf ma s e).toNat))) (qA + ((nm (le (prf ma s e).toNat)).length : Int)) (bl (wdE nn ma le e - nn (le (prf ma s e).toNat).toNat)) = wI ou mwr (clX nm nn ma le s e) ∧ (qA + ((nm (le (prf ma s e).toNat)).length : Int)) + ((bl (wdE nn ma le e - nn (le (prf ma s e).toNat).toNat)).length : Int) = mwr + ((clX nm nn ma le s e).length : Int) := qg_next hpB
      have hgC : 0 ≤ qA + ((nm (le (prf ma s e).toNat)).length : Int) := by omega
      generalize wI EA qA (nm (le (prf ma s e).toNat)) = EC at hpC ⊢
      generalize qA + ((nm (le (prf ma s e).toNat)).length : Int) = qC at hpC hgC ⊢
      rw [hnz] at hpC
      have hpD : wI EC qC (List.replicate (wdE nn ma le e - ((nm (le (prf ma s e).toNat)).length : Int)).toNat (32 : Int) ++ []) = wI ou mwr (clX nm nn ma le s e) ∧ qC + ((List.replicate (wdE nn ma le e - ((nm (le (prf ma s e).toNat)).length : Int)).toNat (32 : Int) ++ []).length : Int) = mwr + ((clX nm nn ma le s e).length : Int) := qg_all hpC
      refine z_aload_n C d_M_drawCell_82 1 rfl ?_
      refine z_aload_n C d_M_drawCell_83 1 rfl ?_
      refine z_iload_n C d_M_drawCell_84 3 rfl ?_
      refine z_calli (As := [.int (iI e)]) (rest := [.ref aM]) (wr := [iA G aOu 8192 EC, iA G aSo 4200 sF]) (ws' := fun u => [(aM, .inr (8, [.ref aWc, .int (iI mth), .int (iI msz), .ref aTx, .int (iI qC), .ref aOu, .int (iI mfa), .int (iI mpl), .int (iI mle), .int (iI mna), .ref aSo, .ref aNf, .ref aNg, .ref aSr, .ref aNu, .ref aMa, .ref aNo, .int (iI mfi), .int (iI mru), .int (iI mnv), .ref aLe, .ref aAc, .ref aDi, .ref aOr, .int (iI mki), .int (iI mfr), .int (iI mto), .int (iI mwh)])), iA G aOu 8192 EC, iA G aNo 48 no, iA G aNf 40 nf, iA G aNg 40 ng, iA G aSo 4200 sF, iA G aMa 3 ma, iA G aLe 384 le]) (q0 := 0) C k_M_221 kc_M_widthOf (fun l sz => m_M_widthOf l G sz aM aWc aTx aOu aSo aNf aNg aSr aNu aMa aNo aLe aAc aDi aOr mth msz qC mfa mpl mle mna mfi mru mnv mki mfr mto mwh sF nf ng no ma le nn nm e (hnm) (hct) (hnn) (hn) (hgl) (by omega)) rfl rfl (Nat.le_of_ble_eq_true rfl) (by decide) d_M_drawCell_85 rfl rfl [0, 2, 3, 4, 6, 7] [1, 5] [2, 0, 3, 4, 5, 1, 6, 7] rfl rfl (by decide) (fun u => rfl) (fun r u h85 => ?_)
      obtain rfl := h85
      show Zc G X 4 0 0 [(aM, .inr (8, [.ref aWc, .int (iI mth), .int (iI msz), .ref aTx, .int (iI qC), .ref aOu, .int (iI mfa), .int (iI mpl), .int (iI mle), .int (iI mna), .ref aSo, .ref aNf, .ref aNg, .ref aSr, .ref aNu, .ref aMa, .ref aNo, .int (iI mfi), .int (iI mru), .int (iI mnv), .ref aLe, .ref aAc, .ref aDi, .ref aOr, .int (iI mki), .int (iI mfr), .int (iI mto), .int (iI mwh)])), iA G aOu 8192 EC, iA G aNo 48 no, iA G aNf 40 nf, iA G aNg 40 ng, iA G aSo 4200 sF, iA G aMa 3 ma, iA G aLe 384 le] [(3, .int (iI ((nm (le (prf ma s e).toNat)).length : Int))), (0, .ref aM), (1, .int (iI s)), (2, .int (iI e))] 88 [.int (iI (wdE nn ma le e)), .ref aM]
      refine z_iload_n C d_M_drawCell_88 0 rfl ?_
      refine z_isub C d_M_drawCell_89 ?_
      refine z_callv (As := [.int (iI ((wdE nn ma le e) - ((nm (le (prf ma s e).toNat)).length : Int)))]) (rest := []) (wr := [iA G aNo 48 no, iA G aNf 40 nf, iA G aNg 40 ng, iA G aSo 4200 sF, iA G aMa 3 ma, iA G aLe 384 le]) (ws' := fun u => [(aM, .inr (8, [.ref aWc, .int (iI mth), .int (iI msz), .ref aTx, .int (iI (qC + ((List.replicate ((wdE nn ma le e) - ((nm (le (prf ma s e).toNat)).length : Int)).toNat (32 : Int)).length : Int))), .ref aOu, .int (iI mfa), .int (iI mpl), .int (iI mle), .int (iI mna), .ref aSo, .ref aNf, .ref aNg, .ref aSr, .ref aNu, .ref aMa, .ref aNo, .int (iI mfi), .int (iI mru), .int (iI mnv), .ref aLe, .ref aAc, .ref aDi, .ref aOr, .int (iI mki), .int (iI mfr), .int (iI mto), .int (iI mwh)])), iA G aOu 8192 (wI EC qC (List.replicate ((wdE nn ma le e) - ((nm (le (prf ma s e).toNat)).length : Int)).toNat (32 : Int))), iA G aNo 48 no, iA G aNf 40 nf, iA G aNg 40 ng, iA G aSo 4200 sF, iA G aMa 3 ma, iA G aLe 384 le]) (q0 := 0) C k_M_224 kc_M_fill (fun l sz => m_M_fill l G sz aM aWc aTx aOu aSo aNf aNg aSr aNu aMa aNo aLe aAc aDi aOr mth msz qC mfa mpl mle mna mfi mru mnv mki mfr mto mwh EC ((wdE nn ma le e) - ((nm (le (prf ma s e).toNat)).length : Int)) (by have h9 := qg_fit hpD; omega)) rfl rfl (Nat.le_of_ble_eq_true rfl) (by decide) d_M_drawCell_90 rfl rfl [0, 1] [2, 3, 4, 5, 6, 7] [6, 7, 0, 1, 2, 3, 4, 5] rfl rfl (by decide) (fun u => rfl) (fun u h90 => ?_)
      show Zc G X 4 0 0 [(aM, .inr (8, [.ref aWc, .int (iI mth), .int (iI msz), .ref aTx, .int (iI (qC + ((List.replicate ((wdE nn ma le e) - ((nm (le (prf ma s e).toNat)).length : Int)).toNat (32 : Int)).length : Int))), .ref aOu, .int (iI mfa), .int (iI mpl), .int (iI mle), .int (iI mna), .ref aSo, .ref aNf, .ref aNg, .ref aSr, .ref aNu, .ref aMa, .ref aNo, .int (iI mfi), .int (iI mru), .int (iI mnv), .ref aLe, .ref aAc, .ref aDi, .ref aOr, .int (iI mki), .int (iI mfr), .int (iI mto), .int (iI mwh)])), iA G aOu 8192 (wI EC qC (List.replicate ((wdE nn ma le e) - ((nm (le (prf ma s e).toNat)).length : Int)).toNat (32 : Int))), iA G aNo 48 no, iA G aNf 40 nf, iA G aNg 40 ng, iA G aSo 4200 sF, iA G aMa 3 ma, iA G aLe 384 le] [(3, .int (iI ((nm (le (prf ma s e).toNat)).length : Int))), (0, .ref aM), (1, .int (iI s)), (2, .int (iI e))] 93 []
      have hpZ : wI (wI EC qC (List.replicate ((wdE nn ma le e) - ((nm (le (prf ma s e).toNat)).length : Int)).toNat (32 : Int))) (qC + ((List.replicate ((wdE nn ma le e) - ((nm (le (prf ma s e).toNat)).length : Int)).toNat (32 : Int)).length : Int)) ([]) = wI ou mwr (clX nm nn ma le s e) ∧ (qC + ((List.replicate ((wdE nn ma le e) - ((nm (le (prf ma s e).toNat)).length : Int)).toNat (32 : Int)).length : Int)) + (([]).length : Int) = mwr + ((clX nm nn ma le s e).length : Int) := qg_next hpD
      have hgZ : 0 ≤ qC + ((List.replicate ((wdE nn ma le e) - ((nm (le (prf ma s e).toNat)).length : Int)).toNat (32 : Int)).length : Int) := by omega
      generalize wI EC qC (List.replicate ((wdE nn ma le e) - ((nm (le (prf ma s e).toNat)).length : Int)).toNat (32 : Int)) = EZ at hpZ ⊢
      generalize qC + ((List.replicate ((wdE nn ma le e) - ((nm (le (prf ma s e).toNat)).length : Int)).toNat (32 : Int)).length : Int) = qZ at hpZ hgZ ⊢
      exact z_vret C K d_M_drawCell_93 () (by rw [(qg_end hpZ).1, (qg_end hpZ).2]) (trivial)
  ·
    rw [if_pos (by omega)] at hpA
    have hpB : wI EA qA (nm (evs (ma 1) e) ++ bl (wdE nn ma le e - nn (evs (ma 1) e).toNat)) = wI ou mwr (clX nm nn ma le s e) ∧ qA + ((nm (evs (ma 1) e) ++ bl (wdE nn ma le e - nn (evs (ma 1) e).toNat)).length : Int) = mwr + ((clX nm nn ma le s e).length : Int) := hpA
    refine z_aload_n C d_M_drawCell_12 1 rfl ?_
    refine z_iload_n C d_M_drawCell_13 3 rfl ?_
    refine z_calli (As := [.int (iI e)]) (rest := []) (wr := [iA G aLe 384 le]) (ws' := fun u => [(aM, .inr (8, [.ref aWc, .int (iI mth), .int (iI msz), .ref aTx, .int (iI (qA + ((nm (evs (ma 1) e)).length : Int))), .ref aOu, .int (iI mfa), .int (iI mpl), .int (iI mle), .int (iI mna), .ref aSo, .ref aNf, .ref aNg, .ref aSr, .ref aNu, .ref aMa, .ref aNo, .int (iI mfi), .int (iI mru), .int (iI mnv), .ref aLe, .ref aAc, .ref aDi, .ref aOr, .int (iI mki), .int (iI mfr), .int (iI mto), .int (iI mwh)])), iA G aOu 8192 (wI EA qA (nm (evs (ma 1) e))), iA G aNo 48 no, iA G aNf 40 nf, iA G aNg 40 ng, iA G aSo 4200 sF, iA G aMa 3 ma, iA G aLe 384 le]) (q0 := 0) C k_M_206 kc_M_sayEvent (fun l sz => m_M_sayEvent l G sz aM aWc aTx aOu aSo aNf aNg aSr aNu aMa aNo aLe aAc aDi aOr mth msz qA mfa mpl mle mna mfi mru mnv mki mfr mto mwh EA sF nf ng no ma nm e (hnm) (hct) (by omega) (by have h9 := qg_fit hpB; omega)) rfl rfl (Nat.le_of_ble_eq_true rfl) (by decide) d_M_drawCell_14 rfl rfl [0, 1, 2, 3, 4, 5, 6] [7] [1, 2, 3, 4, 5, 6, 7, 0] rfl rfl (by decide) (fun u => rfl) (fun r u h14 => ?_)
    obtain rfl := h14
    show Zc G X 4 0 0 [(aM, .inr (8, [.ref aWc, .int (iI mth), .int (iI msz), .ref aTx, .int (iI (qA + ((nm (evs (ma 1) e)).length : Int))), .ref aOu, .int (iI mfa), .int (iI mpl), .int (iI mle), .int (iI mna), .ref aSo, .ref aNf, .ref aNg, .ref aSr, .ref aNu, .ref aMa, .ref aNo, .int (iI mfi), .int (iI mru), .int (iI mnv), .ref aLe, .ref aAc, .ref aDi, .ref aOr, .int (iI mki), .int (iI mfr), .int (iI mto), .int (iI mwh)])), iA G aOu 8192 (wI EA qA (nm (evs (ma 1) e))), iA G aNo 48 no, iA G aNf 40 nf, iA G aNg 40 ng, iA G aSo 4200 sF, iA G aMa 3 ma, iA G aLe 384 le] [(3, .int (iI 1)), (0, .ref aM), (1, .int (iI s)), (2, .int (iI e))] 17 [.int (iI ((nm (evs (ma 1) e)).length : Int))]
    refine z_istore_n (lv' := [(3, .int (iI ((nm (evs (ma 1) e)).length : Int))), (0, .ref aM), (1, .int (iI s)), (2, .int (iI e))]) C d_M_drawCell_17 (by decide) rfl ?_
    refine z_goto (tgt := 82) C d_M_drawCell_18 (by decide) ?_
    have hpC : wI (wI EA qA (nm (evs (ma 1) e))) (qA + ((nm (evs (ma 1) e)).length : Int)) (bl (wdE nn ma le e - nn (evs (ma 1) e).toNat)) = wI ou mwr (clX nm nn ma le s e) ∧ (qA + ((nm (evs (ma 1) e)).length : Int)) + ((bl (wdE nn ma le e - nn (evs (ma 1) e).toNat)).length : Int) = mwr + ((clX nm nn ma le s e).length : Int) := qg_next hpB
    have hgC : 0 ≤ qA + ((nm (evs (ma 1) e)).length : Int) := by omega
    generalize wI EA qA (nm (evs (ma 1) e)) = EC at hpC ⊢
    generalize qA + ((nm (evs (ma 1) e)).length : Int) = qC at hpC hgC ⊢
    rw [hne] at hpC
    have hpD : wI EC qC (List.replicate (wdE nn ma le e - ((nm (evs (ma 1) e)).length : Int)).toNat (32 : Int) ++ []) = wI ou mwr (clX nm nn ma le s e) ∧ qC + ((List.replicate (wdE nn ma le e - ((nm (evs (ma 1) e)).length : Int)).toNat (32 : Int) ++ []).length : Int) = mwr + ((clX nm nn ma le s e).length : Int) := qg_all hpC
    refine z_aload_n C d_M_drawCell_82 1 rfl ?_
    refine z_aload_n C d_M_drawCell_83 1 rfl ?_
    refine z_iload_n C d_M_drawCell_84 3 rfl ?_
    refine z_calli (As := [.int (iI e)]) (rest := [.ref aM]) (wr := [iA G aOu 8192 EC, iA G aSo 4200 sF]) (ws' := fun u => [(aM, .inr (8, [.ref aWc, .int (iI mth), .int (iI msz), .ref aTx, .int (iI qC), .ref aOu, .int (iI mfa), .int (iI mpl), .int (iI mle), .int (iI mna), .ref aSo, .ref aNf, .ref aNg, .ref aSr, .ref aNu, .ref aMa, .ref aNo, .int (iI mfi), .int (iI mru), .int (iI mnv), .ref aLe, .ref aAc, .ref aDi, .ref aOr, .int (iI mki), .int (iI mfr), .int (iI mto), .int (iI mwh)])), iA G aOu 8192 EC, iA G aNo 48 no, iA G aNf 40 nf, iA G aNg 40 ng, iA G aSo 4200 sF, iA G aMa 3 ma, iA G aLe 384 le]) (q0 := 0) C k_M_221 kc_M_widthOf (fun l sz => m_M_widthOf l G sz aM aWc aTx aOu aSo aNf aNg aSr aNu aMa aNo aLe aAc aDi aOr mth msz qC mfa mpl mle mna mfi mru mnv mki mfr mto mwh sF nf ng no ma le nn nm e (hnm) (hct) (hnn) (hn) (hgl) (by omega)) rfl rfl (Nat.le_of_ble_eq_true rfl) (by decide) d_M_drawCell_85 rfl rfl [0, 2, 3, 4, 6, 7] [1, 5] [2, 0, 3, 4, 5, 1, 6, 7] rfl rfl (by decide) (fun u => rfl) (fun r u h85 => ?_)
    obtain rfl := h85
    show Zc G X 4 0 0 [(aM, .inr (8, [.ref aWc, .int (iI mth), .int (iI msz), .ref aTx, .int (iI qC), .ref aOu, .int (iI mfa), .int (iI mpl), .int (iI mle), .int (iI mna), .ref aSo, .ref aNf, .ref aNg, .ref aSr, .ref aNu, .ref aMa, .ref aNo, .int (iI mfi), .int (iI mru), .int (iI mnv), .ref aLe, .ref aAc, .ref aDi, .ref aOr, .int (iI mki), .int (iI mfr), .int (iI mto), .int (iI mwh)])), iA G aOu 8192 EC, iA G aNo 48 no, iA G aNf 40 nf, iA G aNg 40 ng, iA G aSo 4200 sF, iA G aMa 3 ma, iA G aLe 384 le] [(3, .int (iI ((nm (evs (ma 1) e)).length : Int))), (0, .ref aM), (1, .int (iI s)), (2, .int (iI e))] 88 [.int (iI (wdE nn ma le e)), .ref aM]
    refine z_iload_n C d_M_drawCell_88 0 rfl ?_
    refine z_isub C d_M_drawCell_89 ?_
    refine z_callv (As := [.int (iI ((wdE nn ma le e) - ((nm (evs (ma 1) e)).length : Int)))]) (rest := []) (wr := [iA G aNo 48 no, iA G aNf 40 nf, iA G aNg 40 ng, iA G aSo 4200 sF, iA G aMa 3 ma, iA G aLe 384 le]) (ws' := fun u => [(aM, .inr (8, [.ref aWc, .int (iI mth), .int (iI msz), .ref aTx, .int (iI (qC + ((List.replicate ((wdE nn ma le e) - ((nm (evs (ma 1) e)).length : Int)).toNat (32 : Int)).length : Int))), .ref aOu, .int (iI mfa), .int (iI mpl), .int (iI mle), .int (iI mna), .ref aSo, .ref aNf, .ref aNg, .ref aSr, .ref aNu, .ref aMa, .ref aNo, .int (iI mfi), .int (iI mru), .int (iI mnv), .ref aLe, .ref aAc, .ref aDi, .ref aOr, .int (iI mki), .int (iI mfr), .int (iI mto), .int (iI mwh)])), iA G aOu 8192 (wI EC qC (List.replicate ((wdE nn ma le e) - ((nm (evs (ma 1) e)).length : Int)).toNat (32 : Int))), iA G aNo 48 no, iA G aNf 40 nf, iA G aNg 40 ng, iA G aSo 4200 sF, iA G aMa 3 ma, iA G aLe 384 le]) (q0 := 0) C k_M_224 kc_M_fill (fun l sz => m_M_fill l G sz aM aWc aTx aOu aSo aNf aNg aSr aNu aMa aNo aLe aAc aDi aOr mth msz qC mfa mpl mle mna mfi mru mnv mki mfr mto mwh EC ((wdE nn ma le e) - ((nm (evs (ma 1) e)).length : Int)) (by have h9 := qg_fit hpD; omega)) rfl rfl (Nat.le_of_ble_eq_true rfl) (by decide) d_M_drawCell_90 rfl rfl [0, 1] [2, 3, 4, 5, 6, 7] [6, 7, 0, 1, 2, 3, 4, 5] rfl rfl (by decide) (fun u => rfl) (fun u h90 => ?_)
    show Zc G X 4 0 0 [(aM, .inr (8, [.ref aWc, .int (iI mth), .int (iI msz), .ref aTx, .int (iI (qC + ((List.replicate ((wdE nn ma le e) - ((nm (evs (ma 1) e)).length : Int)).toNat (32 : Int)).length : Int))), .ref aOu, .int (iI mfa), .int (iI mpl), .int (iI mle), .int (iI mna), .ref aSo, .ref aNf, .ref aNg, .ref aSr, .ref aNu, .ref aMa, .ref aNo, .int (iI mfi), .int (iI mru), .int (iI mnv), .ref aLe, .ref aAc, .ref aDi, .ref aOr, .int (iI mki), .int (iI mfr), .int (iI mto), .int (iI mwh)])), iA G aOu 8192 (wI EC qC (List.replicate ((wdE nn ma le e) - ((nm (evs (ma 1) e)).length : Int)).toNat (32 : Int))), iA G aNo 48 no, iA G aNf 40 nf, iA G aNg 40 ng, iA G aSo 4200 sF, iA G aMa 3 ma, iA G aLe 384 le] [(3, .int (iI ((nm (evs (ma 1) e)).length : Int))), (0, .ref aM), (1, .int (iI s)), (2, .int (iI e))] 93 []
    have hpZ : wI (wI EC qC (List.replicate ((wdE nn ma le e) - ((nm (evs (ma 1) e)).length : Int)).toNat (32 : Int))) (qC + ((List.replicate ((wdE nn ma le e) - ((nm (evs (ma 1) e)).length : Int)).toNat (32 : Int)).length : Int)) ([]) = wI ou mwr (clX nm nn ma le s e) ∧ (qC + ((List.replicate ((wdE nn ma le e) - ((nm (evs (ma 1) e)).length : Int)).toNat (32 : Int)).length : Int)) + (([]).length : Int) = mwr + ((clX nm nn ma le s e).length : Int) := qg_next hpD
    have hgZ : 0 ≤ qC + ((List.replicate ((wdE nn ma le e) - ((nm (evs (ma 1) e)).length : Int)).toNat (32 : Int)).length : Int) := by omega
    generalize wI EC qC (List.replicate ((wdE nn ma le e) - ((nm (evs (ma 1) e)).length : Int)).toNat (32 : Int)) = EZ at hpZ ⊢
    generalize qC + ((List.replicate ((wdE nn ma le e) - ((nm (evs (ma 1) e)).length : Int)).toNat (32 : Int)).length : Int) = qZ at hpZ hgZ ⊢
    exact z_vret C K d_M_drawCell_93 () (by rw [(qg_end hpZ).1, (qg_end hpZ).2]) (trivial)
set_option maxHeartbeats 4000000 in
set_option maxRecDepth 100000 in
theorem m_M_draw (l : Launch) (G : GG) (sz : Nat) (aM : Nat) (aWc : Nat) (aTx : Nat) (aOu : Nat) (aSo : Nat) (aNf : Nat) (aNg : Nat) (aSr : Nat) (aNu : Nat) (aMa : Nat) (aNo : Nat) (aLe : Nat) (aAc : Nat) (aDi : Nat) (aOr : Nat) (mth : Int) (msz : Int) (mwr : Int) (mfa : Int) (mpl : Int) (mle : Int) (mna : Int) (mfi : Int) (mru : Int) (mnv : Int) (mki : Int) (mfr : Int) (mto : Int) (mwh : Int) (ou : Nat → Int) (sF : Nat → Int) (nf : Nat → Int) (ng : Nat → Int) (no : Nat → Int) (ma : Nat → Int) (nm : Int → List Int) (le : Nat → Int) (nn : Nat → Int) (hnm : NmM sF nf ng no ma nm) (hct : cnt ma) (hnn : nnO nm nn) (hn : ∀ j, 0 ≤ nn j ∧ nn j ≤ 12) (hgl : ∀ j, -2 ≤ le j ∧ (le j < 0 ∨ le j < ma 0)) (hlb : ∀ s, -1 ≤ s → s < ma 0 → (lnX nm nn ma le s).length ≤ 324 ∧ byL (lnX nm nn ma le s)) : MetI l G sz y_M_draw c_M_draw 5 (some .int) ({ frames := 4, cells := 0, slots := 0, locals := 89 } : Room) [.ref aM] [(aM, .inr (8, [.ref aWc, .int (iI mth), .int (iI msz), .ref aTx, .int (iI mwr), .ref aOu, .int (iI mfa), .int (iI mpl), .int (iI mle), .int (iI mna), .ref aSo, .ref aNf, .ref aNg, .ref aSr, .ref aNu, .ref aMa, .ref aNo, .int (iI mfi), .int (iI mru), .int (iI mnv), .ref aLe, .ref aAc, .ref aDi, .ref aOr, .int (iI mki), .int (iI mfr), .int (iI mto), .int (iI mwh)])), iA G aOu 8192 ou, iA G aNo 48 no, iA G aNf 40 nf, iA G aNg 40 ng, iA G aSo 4200 sF, iA G aMa 3 ma, iA G aLe 384 le] (fun (r : Int32) (u : (Nat → Int) × Int) => r = iI u.2 ∧ (pgI u.1 u.2 (daL nm nn ma le)) ∧ (0 ≤ u.2 ∧ u.2 ≤ 8192)) (fun (u : (Nat → Int) × Int) => [(aM, .inr (8, [.ref aWc, .int (iI 0), .int (iI msz), .ref aTx, .int (iI u.2), .ref aOu, .int (iI mfa), .int (iI mpl), .int (iI mle), .int (iI mna), .ref aSo, .ref aNf, .ref aNg, .ref aSr, .ref aNu, .ref aMa, .ref aNo, .int (iI mfi), .int (iI mru), .int (iI mnv), .ref aLe, .ref aAc, .ref aDi, .ref aOr, .int (iI mki), .int (iI mfr), .int (iI mto), .int (iI mwh)])), iA G aOu 8192 u.1, iA G aNo 48 no, iA G aNf 40 nf, iA G aNg 40 ng, iA G aSo 4200 sF, iA G aMa 3 ma, iA G aLe 384 le]) := by
  refine MetI.mk (by decide) (Nat.le_of_ble_eq_true rfl) (fun X C K => ?_)
  show Zc G X 5 0 0 [(aM, .inr (8, [.ref aWc, .int (iI mth), .int (iI msz), .ref aTx, .int (iI mwr), .ref aOu, .int (iI mfa), .int (iI mpl), .int (iI mle), .int (iI mna), .ref aSo, .ref aNf, .ref aNg, .ref aSr, .ref aNu, .ref aMa, .ref aNo, .int (iI mfi), .int (iI mru), .int (iI mnv), .ref aLe, .ref aAc, .ref aDi, .ref aOr, .int (iI mki), .int (iI mfr), .int (iI mto), .int (iI mwh)])), iA G aOu 8192 ou, iA G aNo 48 no, iA G aNf 40 nf, iA G aNg 40 ng, iA G aSo 4200 sF, iA G aMa 3 ma, iA G aLe 384 le] [(0, .ref aM)] 0 []
  have hcc := hct
  unfold cnt at hcc
  refine z_aload_n C d_M_draw_0 0 rfl ?_
  refine z_iconst C d_M_draw_1 ?_
  refine z_put C f_M_55 ok_M nm_M d_M_draw_2 0 rfl rfl rfl rfl (Nat.le_of_ble_eq_true rfl) [(aM, .inr (8, [.ref aWc, .int (iI 0), .int (iI msz), .ref aTx, .int (iI mwr), .ref aOu, .int (iI mfa), .int (iI mpl), .int (iI mle), .int (iI mna), .ref aSo, .ref aNf, .ref aNg, .ref aSr, .ref aNu, .ref aMa, .ref aNo, .int (iI mfi), .int (iI mru), .int (iI mnv), .ref aLe, .ref aAc, .ref aDi, .ref aOr, .int (iI mki), .int (iI mfr), .int (iI mto), .int (iI mwh)])), iA G aOu 8192 ou, iA G aNo 48 no, iA G aNf 40 nf, iA G aNg 40 ng, iA G aSo 4200 sF, iA G aMa 3 ma, iA G aLe 384 le] rfl ?_
  refine z_aload_n C d_M_draw_5 0 rfl ?_
  refine z_iconst C d_M_draw_6 ?_
  refine z_put C f_M_191 ok_M nm_M d_M_draw_7 0 rfl rfl rfl rfl (Nat.le_of_ble_eq_true rfl) [(aM, .inr (8, [.ref aWc, .int (iI 0), .int (iI msz), .ref aTx, .int (iI 0), .ref aOu, .int (iI mfa), .int (iI mpl), .int (iI mle), .int (iI mna), .ref aSo, .ref aNf, .ref aNg, .ref aSr, .ref aNu, .ref aMa, .ref aNo, .int (iI mfi), .int (iI mru), .int (iI mnv), .ref aLe, .ref aAc, .ref aDi, .ref aOr, .int (iI mki), .int (iI mfr), .int (iI mto), .int (iI mwh)])), iA G aOu 8192 ou, iA G aNo 48 no, iA G aNf 40 nf, iA G aNg 40 ng, iA G aSo 4200 sF, iA G aMa 3 ma, iA G aLe 384 le] rfl ?_
  refine z_iconst C d_M_draw_10 ?_
  refine z_istore_n (lv' := [(1, .int (iI 0)), (0, .ref aM)]) C d_M_draw_11 (by decide) rfl ?_
  refine z_iconst C d_M_draw_12 ?_
  refine z_istore_n (lv' := [(2, .int (iI 0)), (1, .int (iI 0)), (0, .ref aM)]) C d_M_draw_13 (by decide) rfl ?_
  have loop14 : ∀ (kq : Nat) (k : Int) (w : Int), (0 ≤ k ∧ k ≤ ma 0 ∧ 0 ≤ w ∧ w ≤ 12) → (fwS nn (ma 0 - k).toNat k w = fwd nn ma) → ((ma 0 - k).toNat < kq) → Zc G X 5 0 0 [(aM, .inr (8, [.ref aWc, .int (iI 0), .int (iI msz), .ref aTx, .int (iI 0), .ref aOu, .int (iI mfa), .int (iI mpl), .int (iI mle), .int (iI mna), .ref aSo, .ref aNf, .ref aNg, .ref aSr, .ref aNu, .ref aMa, .ref aNo, .int (iI mfi), .int (iI mru), .int (iI mnv), .ref aLe, .ref aAc, .ref aDi, .ref aOr, .int (iI mki), .int (iI mfr), .int (iI mto), .int (iI mwh)])), iA G aOu 8192 ou, iA G aNo 48 no, iA G aNf 40 nf, iA G aNg 40 ng, iA G aSo 4200 sF, iA G aMa 3 ma, iA G aLe 384 le] [(0, .ref aM), (1, .int (iI w)), (2, .int (iI k))] 14 [] := by
    intro kq
    induction kq with
    | zero => intro k w hk hE hm; exact absurd hm (Nat.not_lt_zero _)
    | succ kq ih14 =>
      intro k w hk hE hm
      -- loop body
      refine z_iload_n C d_M_draw_14 2 rfl ?_
      refine z_aload_n C d_M_draw_15 0 rfl ?_
      refine z_get C f_M_34 d_M_draw_16 0 rfl rfl ?_
      refine z_iconst C d_M_draw_19 ?_
      refine z_iald C d_M_draw_20 6 rfl (by omega) ?_
      refine z_topi (y := iI (ma 0)) (rfl) ?_
      refine z_icmp_ge (tgt := 51) C d_M_draw_21 (by decide) (by omega) (by omega) (fun c21 => ?_) (fun c21 => ?_)
      ·
        rw [show (ma 0 - k).toNat = 0 by omega] at hE
        have hE2 : w = fwd nn ma := hE
        refine z_iconst C d_M_draw_51 ?_
        refine z_istore_n (lv' := [(2, .int (iI (-1))), (0, .ref aM), (1, .int (iI w))]) C d_M_draw_52 (by decide) rfl ?_
        have loop53 : ∀ (kq : Nat) (s : Int) (qL : Int) (EL : Nat → Int) (L : List Int), (-1 ≤ s ∧ s ≤ ma 0) → (0 ≤ qL ∧ qL ≤ 325 * (s + 1)) → (pgI EL qL L) → (e10 L) → (dwX nm nn ma le (ma 0 - s).toNat s L = daL nm nn ma le) → ((ma 0 - s).toNat < kq) → Zc G X 5 0 0 [(aM, .inr (8, [.ref aWc, .int (iI 0), .int (iI msz), .ref aTx, .int (iI qL), .ref aOu, .int (iI mfa), .int (iI mpl), .int (iI mle), .int (iI mna), .ref aSo, .ref aNf, .ref aNg, .ref aSr, .ref aNu, .ref aMa, .ref aNo, .int (iI mfi), .int (iI mru), .int (iI mnv), .ref aLe, .ref aAc, .ref aDi, .ref aOr, .int (iI mki), .int (iI mfr), .int (iI mto), .int (iI mwh)])), iA G aOu 8192 EL, iA G aNo 48 no, iA G aNf 40 nf, iA G aNg 40 ng, iA G aSo 4200 sF, iA G aMa 3 ma, iA G aLe 384 le] [(0, .ref aM), (1, .int (iI w)), (2, .int (iI s))] 53 [] := by
          intro kq
          induction kq with
          | zero => intro s qL EL L hs hq hP h10 hD hm; exact absurd hm (Nat.not_lt_zero _)
          | succ kq ih53 =>
            intro s qL EL L hs hq hP h10 hD hm
            -- loop body
            refine z_iload_n C d_M_draw_53 2 rfl ?_
            refine z_aload_n C d_M_draw_54 0 rfl ?_
            refine z_get C f_M_34 d_M_draw_55 0 rfl rfl ?_
            refine z_iconst C d_M_draw_58 ?_
            refine z_iald C d_M_draw_59 6 rfl (by omega) ?_
            refine z_topi (y := iI (ma 0)) (rfl) ?_
            refine z_icmp_ge (tgt := 124) C d_M_draw_60 (by decide) (by omega) (by omega) (fun c60 => ?_) (fun c60 => ?_)
            ·
              rw [show (ma 0 - s).toNat = 0 by omega] at hD
              have hD2 : L = daL nm nn ma le := hD
              refine z_aload_n C d_M_draw_124 0 rfl ?_
              refine z_get C f_M_191 d_M_draw_125 0 rfl rfl ?_
              exact z_iret C K d_M_draw_128 (rfl) (EL, qL) (rfl) (show iI qL = iI qL ∧ (pgI EL qL (daL nm nn ma le)) ∧ (0 ≤ qL ∧ qL ≤ 8192) from ⟨rfl, by rw [← hD2]; exact hP, by omega⟩)
            ·
              have hln := hlb s (by omega) (by omega)
              have hp0 : wI EL qL (hdX nm nn ma s ++ cX nm nn ma le s (ma 1 + ma 2).toNat 0) = wI EL qL (lnX nm nn ma le s) ∧ qL + ((hdX nm nn ma s ++ cX nm nn ma le s (ma 1 + ma 2).toNat 0).length : Int) = qL + ((lnX nm nn ma le s).length : Int) := by rw [← lnX_e]; exact ⟨rfl, rfl⟩
              refine z_aload_n C d_M_draw_63 0 rfl ?_
              refine z_get C f_M_191 d_M_draw_64 0 rfl rfl ?_
              refine z_istore_n (lv' := [(3, .int (iI qL)), (0, .ref aM), (1, .int (iI w)), (2, .int (iI s))]) C d_M_draw_67 (by decide) rfl ?_
              refine z_aload_n C d_M_draw_68 1 rfl ?_
              refine z_iload_n C d_M_draw_69 3 rfl ?_
              refine z_if_ge (tgt := 77) C d_M_draw_70 (by decide) (by omega) (fun c70 => ?_) (fun c70 => ?_)
              ·
                have hnz := nnO_z hnn (s := s) (by omega)
                have hnl := NmM_st hnm (s := s) (by omega)
                have hp1 : wI EL qL (nm s ++ (bl (fwd nn ma - nn s.toNat) ++ cX nm nn ma le s (ma 1 + ma 2).toNat 0)) = wI EL qL (lnX nm nn ma le s) ∧ qL + ((nm s ++ (bl (fwd nn ma - nn s.toNat) ++ cX nm nn ma le s (ma 1 + ma 2).toNat 0)).length : Int) = qL + ((lnX nm nn ma le s).length : Int) := by have z := hp0; unfold hdX at z; rw [if_neg (by omega)] at z; unfold dnL at z; rw [List.append_assoc] at z; exact z
                refine z_iload_n C d_M_draw_77 2 rfl ?_
                refine z_aload_n C d_M_draw_78 1 rfl ?_
                refine z_iconst C d_M_draw_79 ?_
                refine z_iload_n C d_M_draw_80 3 rfl ?_
                refine z_calli (As := [.int (iI 0), .int (iI s)]) (rest := [.int (iI w), .ref aM]) (wr := [iA G aMa 3 ma, iA G aLe 384 le]) (ws' := fun u => [(aM, .inr (8, [.ref aWc, .int (iI 0), .int (iI msz), .ref aTx, .int (iI (qL + ((nm s).length : Int))), .ref aOu, .int (iI mfa), .int (iI mpl), .int (iI mle), .int (iI mna), .ref aSo, .ref aNf, .ref aNg, .ref aSr, .ref aNu, .ref aMa, .ref aNo, .int (iI mfi), .int (iI mru), .int (iI mnv), .ref aLe, .ref aAc, .ref aDi, .ref aOr, .int (iI mki), .int (iI mfr), .int (iI mto), .int (iI mwh)])), iA G aOu 8192 (wI EL qL (nm s)), iA G aNo 48 no, iA G aNf 40 nf, iA G aNg 40 ng, iA G aSo 4200 sF, iA G aMa 3 ma, iA G aLe 384 le]) (q0 := 0) C k_M_197 kc_M_sayName (fun l sz => m_M_sayName l G sz aM aWc aTx aOu aSo aNf aNg aSr aNu aMa aNo aLe aAc aDi aOr 0 msz qL mfa mpl mle mna mfi mru mnv mki mfr mto mwh EL sF nf ng no ma nm 0 s s (hnm) (hct) (by omega) (by have h7 := maZ_e ma; have h6 := bas_e; omega) (by have h7 := maZ_e ma; have h6 := bas_e; omega) (by have h9 := qg_fit hp1; omega)) rfl rfl (Nat.le_of_ble_eq_true rfl) (by decide) d_M_draw_81 rfl rfl [0, 1, 2, 3, 4, 5] [6, 7] [2, 3, 4, 5, 6, 7, 0, 1] rfl rfl (by decide) (fun u => rfl) (fun r u h81 => ?_)
                obtain rfl := h81
                show Zc G X 5 0 0 [(aM, .inr (8, [.ref aWc, .int (iI 0), .int (iI msz), .ref aTx, .int (iI (qL + ((nm s).length : Int))), .ref aOu, .int (iI mfa), .int (iI mpl), .int (iI mle), .int (iI mna), .ref aSo, .ref aNf, .ref aNg, .ref aSr, .ref aNu, .ref aMa, .ref aNo, .int (iI mfi), .int (iI mru), .int (iI mnv), .ref aLe, .ref aAc, .ref aDi, .ref aOr, .int (iI mki), .int (iI mfr), .int (iI mto), .int (iI mwh)])), iA G aOu 8192 (wI EL qL (nm s)), iA G aNo 48 no, iA G aNf 40 nf, iA G aNg 40 ng, iA G aSo 4200 sF, iA G aMa 3 ma, iA G aLe 384 le] [(3, .int (iI qL)), (0, .ref aM), (1, .int (iI w)), (2, .int (iI s))] 84 [.int (iI ((nm s).length : Int)), .int (iI w), .ref aM]
                have hp2 : wI (wI EL qL (nm s)) (qL + ((nm s).length : Int)) (bl (fwd nn ma - nn s.toNat) ++ cX nm nn ma le s (ma 1 + ma 2).toNat 0) = wI EL qL (lnX nm nn ma le s) ∧ (qL + ((nm s).length : Int)) + ((bl (fwd nn ma - nn s.toNat) ++ cX nm nn ma le s (ma 1 + ma 2).toNat 0).length : Int) = qL + ((lnX nm nn ma le s).length : Int) := qg_next hp1
                have hg2 : 0 ≤ qL + ((nm s).length : Int) := by omega
                generalize wI EL qL (nm s) = E2 at hp2 ⊢
                generalize qL + ((nm s).length : Int) = q2 at hp2 hg2 ⊢
                refine z_isub C d_M_draw_84 ?_
                have hp3 : wI E2 q2 (List.replicate (w - ((nm s).length : Int)).toNat (32 : Int) ++ cX nm nn ma le s (ma 1 + ma 2).toNat 0) = wI EL qL (lnX nm nn ma le s) ∧ q2 + ((List.replicate (w - ((nm s).length : Int)).toNat (32 : Int) ++ cX nm nn ma le s (ma 1 + ma 2).toNat 0).length : Int) = qL + ((lnX nm nn ma le s).length : Int) := by rw [hnz, ← hE2] at hp2; exact hp2
                refine z_callv (As := [.int (iI (w - ((nm s).length : Int)))]) (rest := []) (wr := [iA G aNo 48 no, iA G aNf 40 nf, iA G aNg 40 ng, iA G aSo 4200 sF, iA G aMa 3 ma, iA G aLe 384 le]) (ws' := fun u => [(aM, .inr (8, [.ref aWc, .int (iI 0), .int (iI msz), .ref aTx, .int (iI (q2 + ((List.replicate (w - ((nm s).length : Int)).toNat (32 : Int)).length : Int))), .ref aOu, .int (iI mfa), .int (iI mpl), .int (iI mle), .int (iI mna), .ref aSo, .ref aNf, .ref aNg, .ref aSr, .ref aNu, .ref aMa, .ref aNo, .int (iI mfi), .int (iI mru), .int (iI mnv), .ref aLe, .ref aAc, .ref aDi, .ref aOr, .int (iI mki), .int (iI mfr), .int (iI mto), .int (iI mwh)])), iA G aOu 8192 (wI E2 q2 (List.replicate (w - ((nm s).length : Int)).toNat (32 : Int))), iA G aNo 48 no, iA G aNf 40 nf, iA G aNg 40 ng, iA G aSo 4200 sF, iA G aMa 3 ma, iA G aLe 384 le]) (q0 := 0) C k_M_224 kc_M_fill (fun l sz => m_M_fill l G sz aM aWc aTx aOu aSo aNf aNg aSr aNu aMa aNo aLe aAc aDi aOr 0 msz q2 mfa mpl mle mna mfi mru mnv mki mfr mto mwh E2 (w - ((nm s).length : Int)) (by have h9 := qg_fit hp3; omega)) rfl rfl (Nat.le_of_ble_eq_true rfl) (by decide) d_M_draw_85 rfl rfl [0, 1] [2, 3, 4, 5, 6, 7] [6, 7, 0, 1, 2, 3, 4, 5] rfl rfl (by decide) (fun u => rfl) (fun u h85 => ?_)
                show Zc G X 5 0 0 [(aM, .inr (8, [.ref aWc, .int (iI 0), .int (iI msz), .ref aTx, .int (iI (q2 + ((List.replicate (w - ((nm s).length : Int)).toNat (32 : Int)).length : Int))), .ref aOu, .int (iI mfa), .int (iI mpl), .int (iI mle), .int (iI mna), .ref aSo, .ref aNf, .ref aNg, .ref aSr, .ref aNu, .ref aMa, .ref aNo, .int (iI mfi), .int (iI mru), .int (iI mnv), .ref aLe, .ref aAc, .ref aDi, .ref aOr, .int (iI mki), .int (iI mfr), .int (iI mto), .int (iI mwh)])), iA G aOu 8192 (wI E2 q2 (List.replicate (w - ((nm s).length : Int)).toNat (32 : Int))), iA G aNo 48 no, iA G aNf 40 nf, iA G aNg 40 ng, iA G aSo 4200 sF, iA G aMa 3 ma, iA G aLe 384 le] [(3, .int (iI qL)), (0, .ref aM), (1, .int (iI w)), (2, .int (iI s))] 88 []
                have hp4 : wI (wI E2 q2 (List.replicate (w - ((nm s).length : Int)).toNat (32 : Int))) (q2 + ((List.replicate (w - ((nm s).length : Int)).toNat (32 : Int)).length : Int)) (cX nm nn ma le s (ma 1 + ma 2).toNat 0) = wI EL qL (lnX nm nn ma le s) ∧ (q2 + ((List.replicate (w - ((nm s).length : Int)).toNat (32 : Int)).length : Int)) + ((cX nm nn ma le s (ma 1 + ma 2).toNat 0).length : Int) = qL + ((lnX nm nn ma le s).length : Int) := qg_next hp3
                have hg4 : 0 ≤ q2 + ((List.replicate (w - ((nm s).length : Int)).toNat (32 : Int)).length : Int) := by omega
                generalize wI E2 q2 (List.replicate (w - ((nm s).length : Int)).toNat (32 : Int)) = E4 at hp4 ⊢
                generalize q2 + ((List.replicate (w - ((nm s).length : Int)).toNat (32 : Int)).length : Int) = q4 at hp4 hg4 ⊢
                refine z_iconst C d_M_draw_88 ?_
                refine z_istore (lv' := [(4, .int (iI 0)), (3, .int (iI qL)), (0, .ref aM), (1, .int (iI w)), (2, .int (iI s))]) C d_M_draw_89 (by decide) rfl ?_
                have loop91 : ∀ (kq : Nat) (e : Int) (qe : Int) (Ee : Nat → Int), (0 ≤ e ∧ e ≤ ma 1 + ma 2 ∧ 0 ≤ qe) → (wI Ee qe (cX nm nn ma le s (ma 1 + ma 2 - e).toNat e) = wI EL qL (lnX nm nn ma le s) ∧ qe + ((cX nm nn ma le s (ma 1 + ma 2 - e).toNat e).length : Int) = qL + ((lnX nm nn ma le s).length : Int)) → ((ma 1 + ma 2 - e).toNat < kq) → Zc G X 5 0 0 [(aM, .inr (8, [.ref aWc, .int (iI 0), .int (iI msz), .ref aTx, .int (iI qe), .ref aOu, .int (iI mfa), .int (iI mpl), .int (iI mle), .int (iI mna), .ref aSo, .ref aNf, .ref aNg, .ref aSr, .ref aNu, .ref aMa, .ref aNo, .int (iI mfi), .int (iI mru), .int (iI mnv), .ref aLe, .ref aAc, .ref aDi, .ref aOr, .int (iI mki), .int (iI mfr), .int (iI mto), .int (iI mwh)])), iA G aOu 8192 Ee, iA G aNo 48 no, iA G aNf 40 nf, iA G aNg 40 ng, iA G aSo 4200 sF, iA G aMa 3 ma, iA G aLe 384 le] [(0, .ref aM), (1, .int (iI w)), (2, .int (iI s)), (3, .int (iI qL)), (4, .int (iI e))] 91 [] := by
                  intro kq
                  induction kq with
                  | zero => intro e qe Ee he hF hm; exact absurd hm (Nat.not_lt_zero _)
                  | succ kq ih91 =>
                    intro e qe Ee he hF hm
                    -- loop body
                    refine z_iload C d_M_draw_91 4 rfl ?_
                    refine z_aload_n C d_M_draw_93 0 rfl ?_
                    refine z_calli (As := []) (rest := [.int (iI e)]) (wr := [iA G aOu 8192 Ee, iA G aNo 48 no, iA G aNf 40 nf, iA G aNg 40 ng, iA G aSo 4200 sF, iA G aLe 384 le]) (ws' := fun u => [(aM, .inr (8, [.ref aWc, .int (iI 0), .int (iI msz), .ref aTx, .int (iI qe), .ref aOu, .int (iI mfa), .int (iI mpl), .int (iI mle), .int (iI mna), .ref aSo, .ref aNf, .ref aNg, .ref aSr, .ref aNu, .ref aMa, .ref aNo, .int (iI mfi), .int (iI mru), .int (iI mnv), .ref aLe, .ref aAc, .ref aDi, .ref aOr, .int (iI mki), .int (iI mfr), .int (iI mto), .int (iI mwh)])), iA G aOu 8192 Ee, iA G aNo 48 no, iA G aNf 40 nf, iA G aNg 40 ng, iA G aSo 4200 sF, iA G aMa 3 ma, iA G aLe 384 le]) (q0 := 0) C k_M_172 kc_M_events (fun l sz => m_M_events l G sz aM aWc aTx aOu aSo aNf aNg aSr aNu aMa aNo aLe aAc aDi aOr 0 msz qe mfa mpl mle mna mfi mru mnv mki mfr mto mwh ma ) rfl rfl (Nat.le_of_ble_eq_true rfl) (by decide) d_M_draw_94 rfl rfl [0, 6] [1, 2, 3, 4, 5, 7] [6, 0, 1, 2, 3, 4, 7, 5] rfl rfl (by decide) (fun u => rfl) (fun r u h94 => ?_)
                    obtain rfl := h94
                    show Zc G X 5 0 0 [(aM, .inr (8, [.ref aWc, .int (iI 0), .int (iI msz), .ref aTx, .int (iI qe), .ref aOu, .int (iI mfa), .int (iI mpl), .int (iI mle), .int (iI mna), .ref aSo, .ref aNf, .ref aNg, .ref aSr, .ref aNu, .ref aMa, .ref aNo, .int (iI mfi), .int (iI mru), .int (iI mnv), .ref aLe, .ref aAc, .ref aDi, .ref aOr, .int (iI mki), .int (iI mfr), .int (iI mto), .int (iI mwh)])), iA G aOu 8192 Ee, iA G aNo 48 no, iA G aNf 40 nf, iA G aNg 40 ng, iA G aSo 4200 sF, iA G aMa 3 ma, iA G aLe 384 le] [(0, .ref aM), (1, .int (iI w)), (2, .int (iI s)), (3, .int (iI qL)), (4, .int (iI e))] 97 [.int (iI (ma 1 + ma 2)), .int (iI e)]
                    refine z_icmp_ge (tgt := 113) C d_M_draw_97 (by decide) (by omega) (by omega) (fun c97 => ?_) (fun c97 => ?_)
                    ·
                      rw [show (ma 1 + ma 2 - e).toNat = 0 by omega, cX_0] at hF
                      have hz := qg_end hF
                      refine z_aload_n C d_M_draw_113 0 rfl ?_
                      refine z_iload_n C d_M_draw_114 3 rfl ?_
                      refine z_callv (As := [.int (iI qL)]) (rest := []) (wr := [iA G aNo 48 no, iA G aNf 40 nf, iA G aNg 40 ng, iA G aSo 4200 sF, iA G aMa 3 ma, iA G aLe 384 le]) (ws' := fun u => [(aM, .inr (8, [.ref aWc, .int (iI 0), .int (iI msz), .ref aTx, .int (iI ((drB Ee qe.toNat : Int) + 1)), .ref aOu, .int (iI mfa), .int (iI mpl), .int (iI mle), .int (iI mna), .ref aSo, .ref aNf, .ref aNg, .ref aSr, .ref aNu, .ref aMa, .ref aNo, .int (iI mfi), .int (iI mru), .int (iI mnv), .ref aLe, .ref aAc, .ref aDi, .ref aOr, .int (iI mki), .int (iI mfr), .int (iI mto), .int (iI mwh)])), iA G aOu 8192 (wI Ee (drB Ee qe.toNat : Int) [10]), iA G aNo 48 no, iA G aNf 40 nf, iA G aNg 40 ng, iA G aSo 4200 sF, iA G aMa 3 ma, iA G aLe 384 le]) (q0 := 0) C k_M_230 kc_M_endDrawn (fun l sz => m_M_endDrawn l G sz aM aWc aTx aOu aSo aNf aNg aSr aNu aMa aNo aLe aAc aDi aOr 0 msz qe mfa mpl mle mna mfi mru mnv mki mfr mto mwh Ee qL (by omega) (by rw [hz.1]; exact e10_no hP h10 _) (fun j h1 h2 => by rw [hz.1]; exact wI_by hln.2 (by omega) j h1 (by omega))) rfl rfl (Nat.le_of_ble_eq_true rfl) (by decide) d_M_draw_115 rfl rfl [0, 1] [2, 3, 4, 5, 6, 7] [6, 7, 0, 1, 2, 3, 4, 5] rfl rfl (by decide) (fun u => rfl) (fun u h115 => ?_)
                      show Zc G X 5 0 0 [(aM, .inr (8, [.ref aWc, .int (iI 0), .int (iI msz), .ref aTx, .int (iI ((drB Ee qe.toNat : Int) + 1)), .ref aOu, .int (iI mfa), .int (iI mpl), .int (iI mle), .int (iI mna), .ref aSo, .ref aNf, .ref aNg, .ref aSr, .ref aNu, .ref aMa, .ref aNo, .int (iI mfi), .int (iI mru), .int (iI mnv), .ref aLe, .ref aAc, .ref aDi, .ref aOr, .int (iI mki), .int (iI mfr), .int (iI mto), .int (iI mwh)])), iA G aOu 8192 (wI Ee (drB Ee qe.toNat : Int) [10]), iA G aNo 48 no, iA G aNf 40 nf, iA G aNg 40 ng, iA G aSo 4200 sF, iA G aMa 3 ma, iA G aLe 384 le] [(0, .ref aM), (1, .int (iI w)), (2, .int (iI s)), (3, .int (iI qL)), (4, .int (iI e))] 118 []
                      have hP1 : pgI Ee qe (L ++ lnX nm nn ma le s) := by rw [hz.1, hz.2]; exact pgI_wI hP _
                      have hP2 : pgI (wI Ee (drB Ee qe.toNat : Int) [10]) ((drB Ee qe.toNat : Int) + 1) (strp (L ++ lnX nm nn ma le s) ++ [10]) := pgI_wI (pgI_drop hP1) [10]
                      have hd9 := drB_le Ee qe.toNat
                      refine z_iinc (lv' := [(2, .int (iI (s + 1))), (0, .ref aM), (1, .int (iI w)), (3, .int (iI qL)), (4, .int (iI e))]) C d_M_draw_118 2 rfl (by decide) rfl ?_
                      refine z_goto (tgt := 53) C d_M_draw_121 (by decide) ?_
                      refine z_lv [1, 2, 0] (lv' := [(0, .ref aM), (1, .int (iI w)), (2, .int (iI (s + 1)))]) rfl ?_
                      exact ih53 (s + 1) _ _ _ (by omega) (by omega) (hP2) (Or.inr ⟨_, rfl⟩) (by rw [dwX_step nm nn ma le L (by omega)] at hD; exact hD) (by omega)
                    ·
                      rw [cX_step nm nn ma le s (by omega)] at hF
                      refine z_aload_n C d_M_draw_100 0 rfl ?_
                      refine z_iload_n C d_M_draw_101 2 rfl ?_
                      refine z_iload C d_M_draw_102 4 rfl ?_
                      refine z_callv (As := [.int (iI s), .int (iI e)]) (rest := []) (wr := []) (ws' := fun u => [(aM, .inr (8, [.ref aWc, .int (iI 0), .int (iI msz), .ref aTx, .int (iI (qe + ((clX nm nn ma le s e).length : Int))), .ref aOu, .int (iI mfa), .int (iI mpl), .int (iI mle), .int (iI mna), .ref aSo, .ref aNf, .ref aNg, .ref aSr, .ref aNu, .ref aMa, .ref aNo, .int (iI mfi), .int (iI mru), .int (iI mnv), .ref aLe, .ref aAc, .ref aDi, .ref aOr, .int (iI mki), .int (iI mfr), .int (iI mto), .int (iI mwh)])), iA G aOu 8192 (wI Ee qe (clX nm nn ma le s e)), iA G aNo 48 no, iA G aNf 40 nf, iA G aNg 40 ng, iA G aSo 4200 sF, iA G aMa 3 ma, iA G aLe 384 le]) (q0 := 0) C k_M_227 kc_M_drawCell (fun l sz => m_M_drawCell l G sz aM aWc aTx aOu aSo aNf aNg aSr aNu aMa aNo aLe aAc aDi aOr 0 msz qe mfa mpl mle mna mfi mru mnv mki mfr mto mwh Ee sF nf ng no ma nm le nn s e (hnm) (hct) (hnn) (hn) (hgl) (by omega) (by have h9 := qg_fit hF; omega)) rfl rfl (Nat.le_of_ble_eq_true rfl) (by decide) d_M_draw_104 rfl rfl [0, 1, 2, 3, 4, 5, 6, 7] [] [0, 1, 2, 3, 4, 5, 6, 7] rfl rfl (by decide) (fun u => rfl) (fun u h104 => ?_)
                      show Zc G X 5 0 0 [(aM, .inr (8, [.ref aWc, .int (iI 0), .int (iI msz), .ref aTx, .int (iI (qe + ((clX nm nn ma le s e).length : Int))), .ref aOu, .int (iI mfa), .int (iI mpl), .int (iI mle), .int (iI mna), .ref aSo, .ref aNf, .ref aNg, .ref aSr, .ref aNu, .ref aMa, .ref aNo, .int (iI mfi), .int (iI mru), .int (iI mnv), .ref aLe, .ref aAc, .ref aDi, .ref aOr, .int (iI mki), .int (iI mfr), .int (iI mto), .int (iI mwh)])), iA G aOu 8192 (wI Ee qe (clX nm nn ma le s e)), iA G aNo 48 no, iA G aNf 40 nf, iA G aNg 40 ng, iA G aSo 4200 sF, iA G aMa 3 ma, iA G aLe 384 le] [(0, .ref aM), (1, .int (iI w)), (2, .int (iI s)), (3, .int (iI qL)), (4, .int (iI e))] 107 []
                      have hp5 : wI (wI Ee qe (clX nm nn ma le s e)) (qe + ((clX nm nn ma le s e).length : Int)) (cX nm nn ma le s (ma 1 + ma 2 - (e + 1)).toNat (e + 1)) = wI EL qL (lnX nm nn ma le s) ∧ (qe + ((clX nm nn ma le s e).length : Int)) + ((cX nm nn ma le s (ma 1 + ma 2 - (e + 1)).toNat (e + 1)).length : Int) = qL + ((lnX nm nn ma le s).length : Int) := qg_next hF
                      have hg5 : 0 ≤ qe + ((clX nm nn ma le s e).length : Int) := by omega
                      generalize wI Ee qe (clX nm nn ma le s e) = E5 at hp5 ⊢
                      generalize qe + ((clX nm nn ma le s e).length : Int) = q5 at hp5 hg5 ⊢
                      refine z_iinc (lv' := [(4, .int (iI (e + 1))), (0, .ref aM), (1, .int (iI w)), (2, .int (iI s)), (3, .int (iI qL))]) C d_M_draw_107 4 rfl (by decide) rfl ?_
                      refine z_goto (tgt := 91) C d_M_draw_110 (by decide) ?_
                      refine z_lv [1, 2, 3, 4, 0] (lv' := [(0, .ref aM), (1, .int (iI w)), (2, .int (iI s)), (3, .int (iI qL)), (4, .int (iI (e + 1)))]) rfl ?_
                      exact ih91 _ _ _ (by omega) (hp5) (by omega)
                refine z_lv [2, 3, 4, 1, 0] (lv' := [(0, .ref aM), (1, .int (iI w)), (2, .int (iI s)), (3, .int (iI qL)), (4, .int (iI 0))]) rfl ?_
                exact loop91 (_ + 1) _ _ _ (by omega) (by rw [Int.sub_zero]; exact hp4) (Nat.lt_succ_self _)
              ·
                refine z_iload_n C d_M_draw_73 2 rfl ?_
                refine z_goto (tgt := 85) C d_M_draw_74 (by decide) ?_
                have hp3 : wI EL qL (List.replicate (w).toNat (32 : Int) ++ cX nm nn ma le s (ma 1 + ma 2).toNat 0) = wI EL qL (lnX nm nn ma le s) ∧ qL + ((List.replicate (w).toNat (32 : Int) ++ cX nm nn ma le s (ma 1 + ma 2).toNat 0).length : Int) = qL + ((lnX nm nn ma le s).length : Int) := by have z := hp0; unfold hdX at z; rw [if_pos (by omega), ← hE2] at z; exact z
                refine z_callv (As := [.int (iI w)]) (rest := []) (wr := [iA G aNo 48 no, iA G aNf 40 nf, iA G aNg 40 ng, iA G aSo 4200 sF, iA G aMa 3 ma, iA G aLe 384 le]) (ws' := fun u => [(aM, .inr (8, [.ref aWc, .int (iI 0), .int (iI msz), .ref aTx, .int (iI (qL + ((List.replicate w.toNat (32 : Int)).length : Int))), .ref aOu, .int (iI mfa), .int (iI mpl), .int (iI mle), .int (iI mna), .ref aSo, .ref aNf, .ref aNg, .ref aSr, .ref aNu, .ref aMa, .ref aNo, .int (iI mfi), .int (iI mru), .int (iI mnv), .ref aLe, .ref aAc, .ref aDi, .ref aOr, .int (iI mki), .int (iI mfr), .int (iI mto), .int (iI mwh)])), iA G aOu 8192 (wI EL qL (List.replicate w.toNat (32 : Int))), iA G aNo 48 no, iA G aNf 40 nf, iA G aNg 40 ng, iA G aSo 4200 sF, iA G aMa 3 ma, iA G aLe 384 le]) (q0 := 0) C k_M_224 kc_M_fill (fun l sz => m_M_fill l G sz aM aWc aTx aOu aSo aNf aNg aSr aNu aMa aNo aLe aAc aDi aOr 0 msz qL mfa mpl mle mna mfi mru mnv mki mfr mto mwh EL w (by have h9 := qg_fit hp3; omega)) rfl rfl (Nat.le_of_ble_eq_true rfl) (by decide) d_M_draw_85 rfl rfl [0, 1] [2, 3, 4, 5, 6, 7] [6, 7, 0, 1, 2, 3, 4, 5] rfl rfl (by decide) (fun u => rfl) (fun u h85 => ?_)
                show Zc G X 5 0 0 [(aM, .inr (8, [.ref aWc, .int (iI 0), .int (iI msz), .ref aTx, .int (iI (qL + ((List.replicate w.toNat (32 : Int)).length : Int))), .ref aOu, .int (iI mfa), .int (iI mpl), .int (iI mle), .int (iI mna), .ref aSo, .ref aNf, .ref aNg, .ref aSr, .ref aNu, .ref aMa, .ref aNo, .int (iI mfi), .int (iI mru), .int (iI mnv), .ref aLe, .ref aAc, .ref aDi, .ref aOr, .int (iI mki), .int (iI mfr), .int (iI mto), .int (iI mwh)])), iA G aOu 8192 (wI EL qL (List.replicate w.toNat (32 : Int))), iA G aNo 48 no, iA G aNf 40 nf, iA G aNg 40 ng, iA G aSo 4200 sF, iA G aMa 3 ma, iA G aLe 384 le] [(3, .int (iI qL)), (0, .ref aM), (1, .int (iI w)), (2, .int (iI s))] 88 []
                have hp4 : wI (wI EL qL (List.replicate w.toNat (32 : Int))) (qL + ((List.replicate w.toNat (32 : Int)).length : Int)) (cX nm nn ma le s (ma 1 + ma 2).toNat 0) = wI EL qL (lnX nm nn ma le s) ∧ (qL + ((List.replicate w.toNat (32 : Int)).length : Int)) + ((cX nm nn ma le s (ma 1 + ma 2).toNat 0).length : Int) = qL + ((lnX nm nn ma le s).length : Int) := qg_next hp3
                have hg4 : 0 ≤ qL + ((List.replicate w.toNat (32 : Int)).length : Int) := by omega
                generalize wI EL qL (List.replicate w.toNat (32 : Int)) = E4 at hp4 ⊢
                generalize qL + ((List.replicate w.toNat (32 : Int)).length : Int) = q4 at hp4 hg4 ⊢
                refine z_iconst C d_M_draw_88 ?_
                refine z_istore (lv' := [(4, .int (iI 0)), (3, .int (iI qL)), (0, .ref aM), (1, .int (iI w)), (2, .int (iI s))]) C d_M_draw_89 (by decide) rfl ?_
                have loop91 : ∀ (kq : Nat) (e : Int) (qe : Int) (Ee : Nat → Int), (0 ≤ e ∧ e ≤ ma 1 + ma 2 ∧ 0 ≤ qe) → (wI Ee qe (cX nm nn ma le s (ma 1 + ma 2 - e).toNat e) = wI EL qL (lnX nm nn ma le s) ∧ qe + ((cX nm nn ma le s (ma 1 + ma 2 - e).toNat e).length : Int) = qL + ((lnX nm nn ma le s).length : Int)) → ((ma 1 + ma 2 - e).toNat < kq) → Zc G X 5 0 0 [(aM, .inr (8, [.ref aWc, .int (iI 0), .int (iI msz), .ref aTx, .int (iI qe), .ref aOu, .int (iI mfa), .int (iI mpl), .int (iI mle), .int (iI mna), .ref aSo, .ref aNf, .ref aNg, .ref aSr, .ref aNu, .ref aMa, .ref aNo, .int (iI mfi), .int (iI mru), .int (iI mnv), .ref aLe, .ref aAc, .ref aDi, .ref aOr, .int (iI mki), .int (iI mfr), .int (iI mto), .int (iI mwh)])), iA G aOu 8192 Ee, iA G aNo 48 no, iA G aNf 40 nf, iA G aNg 40 ng, iA G aSo 4200 sF, iA G aMa 3 ma, iA G aLe 384 le] [(0, .ref aM), (1, .int (iI w)), (2, .int (iI s)), (3, .int (iI qL)), (4, .int (iI e))] 91 [] := by
                  intro kq
                  induction kq with
                  | zero => intro e qe Ee he hF hm; exact absurd hm (Nat.not_lt_zero _)
                  | succ kq ih91 =>
                    intro e qe Ee he hF hm
                    -- loop body
                    refine z_iload C d_M_draw_91 4 rfl ?_
                    refine z_aload_n C d_M_draw_93 0 rfl ?_
                    refine z_calli (As := []) (rest := [.int (iI e)]) (wr := [iA G aOu 8192 Ee, iA G aNo 48 no, iA G aNf 40 nf, iA G aNg 40 ng, iA G aSo 4200 sF, iA G aLe 384 le]) (ws' := fun u => [(aM, .inr (8, [.ref aWc, .int (iI 0), .int (iI msz), .ref aTx, .int (iI qe), .ref aOu, .int (iI mfa), .int (iI mpl), .int (iI mle), .int (iI mna), .ref aSo, .ref aNf, .ref aNg, .ref aSr, .ref aNu, .ref aMa, .ref aNo, .int (iI mfi), .int (iI mru), .int (iI mnv), .ref aLe, .ref aAc, .ref aDi, .ref aOr, .int (iI mki), .int (iI mfr), .int (iI mto), .int (iI mwh)])), iA G aOu 8192 Ee, iA G aNo 48 no, iA G aNf 40 nf, iA G aNg 40 ng, iA G aSo 4200 sF, iA G aMa 3 ma, iA G aLe 384 le]) (q0 := 0) C k_M_172 kc_M_events (fun l sz => m_M_events l G sz aM aWc aTx aOu aSo aNf aNg aSr aNu aMa aNo aLe aAc aDi aOr 0 msz qe mfa mpl mle mna mfi mru mnv mki mfr mto mwh ma ) rfl rfl (Nat.le_of_ble_eq_true rfl) (by decide) d_M_draw_94 rfl rfl [0, 6] [1, 2, 3, 4, 5, 7] [6, 0, 1, 2, 3, 4, 7, 5] rfl rfl (by decide) (fun u => rfl) (fun r u h94 => ?_)
                    obtain rfl := h94
                    show Zc G X 5 0 0 [(aM, .inr (8, [.ref aWc, .int (iI 0), .int (iI msz), .ref aTx, .int (iI qe), .ref aOu, .int (iI mfa), .int (iI mpl), .int (iI mle), .int (iI mna), .ref aSo, .ref aNf, .ref aNg, .ref aSr, .ref aNu, .ref aMa, .ref aNo, .int (iI mfi), .int (iI mru), .int (iI mnv), .ref aLe, .ref aAc, .ref aDi, .ref aOr, .int (iI mki), .int (iI mfr), .int (iI mto), .int (iI mwh)])), iA G aOu 8192 Ee, iA G aNo 48 no, iA G aNf 40 nf, iA G aNg 40 ng, iA G aSo 4200 sF, iA G aMa 3 ma, iA G aLe 384 le] [(0, .ref aM), (1, .int (iI w)), (2, .int (iI s)), (3, .int (iI qL)), (4, .int (iI e))] 97 [.int (iI (ma 1 + ma 2)), .int (iI e)]
                    refine z_icmp_ge (tgt := 113) C d_M_draw_97 (by decide) (by omega) (by omega) (fun c97 => ?_) (fun c97 => ?_)
                    ·
                      rw [show (ma 1 + ma 2 - e).toNat = 0 by omega, cX_0] at hF
                      have hz := qg_end hF
                      refine z_aload_n C d_M_draw_113 0 rfl ?_
                      refine z_iload_n C d_M_draw_114 3 rfl ?_
                      refine z_callv (As := [.int (iI qL)]) (rest := []) (wr := [iA G aNo 48 no, iA G aNf 40 nf, iA G aNg 40 ng, iA G aSo 4200 sF, iA G aMa 3 ma, iA G aLe 384 le]) (ws' := fun u => [(aM, .inr (8, [.ref aWc, .int (iI 0), .int (iI msz), .ref aTx, .int (iI ((drB Ee qe.toNat : Int) + 1)), .ref aOu, .int (iI mfa), .int (iI mpl), .int (iI mle), .int (iI mna), .ref aSo, .ref aNf, .ref aNg, .ref aSr, .ref aNu, .ref aMa, .ref aNo, .int (iI mfi), .int (iI mru), .int (iI mnv), .ref aLe, .ref aAc, .ref aDi, .ref aOr, .int (iI mki), .int (iI mfr), .int (iI mto), .int (iI mwh)])), iA G aOu 8192 (wI Ee (drB Ee qe.toNat : Int) [10]), iA G aNo 48 no, iA G aNf 40 nf, iA G aNg 40 ng, iA G aSo 4200 sF, iA G aMa 3 ma, iA G aLe 384 le]) (q0 := 0) C k_M_230 kc_M_endDrawn (fun l sz => m_M_endDrawn l G sz aM aWc aTx aOu aSo aNf aNg aSr aNu aMa aNo aLe aAc aDi aOr 0 msz qe mfa mpl mle mna mfi mru mnv mki mfr mto mwh Ee qL (by omega) (by rw [hz.1]; exact e10_no hP h10 _) (fun j h1 h2 => by rw [hz.1]; exact wI_by hln.2 (by omega) j h1 (by omega))) rfl rfl (Nat.le_of_ble_eq_true rfl) (by decide) d_M_draw_115 rfl rfl [0, 1] [2, 3, 4, 5, 6, 7] [6, 7, 0, 1, 2, 3, 4, 5] rfl rfl (by decide) (fun u => rfl) (fun u h115 => ?_)
                      show Zc G X 5 0 0 [(aM, .inr (8, [.ref aWc, .int (iI 0), .int (iI msz), .ref aTx, .int (iI ((drB Ee qe.toNat : Int) + 1)), .ref aOu, .int (iI mfa), .int (iI mpl), .int (iI mle), .int (iI mna), .ref aSo, .ref aNf, .ref aNg, .ref aSr, .ref aNu, .ref aMa, .ref aNo, .int (iI mfi), .int (iI mru), .int (iI mnv), .ref aLe, .ref aAc, .ref aDi, .ref aOr, .int (iI mki), .int (iI mfr), .int (iI mto), .int (iI mwh)])), iA G aOu 8192 (wI Ee (drB Ee qe.toNat : Int) [10]), iA G aNo 48 no, iA G aNf 40 nf, iA G aNg 40 ng, iA G aSo 4200 sF, iA G aMa 3 ma, iA G aLe 384 le] [(0, .ref aM), (1, .int (iI w)), (2, .int (iI s)), (3, .int (iI qL)), (4, .int (iI e))] 118 []
                      have hP1 : pgI Ee qe (L ++ lnX nm nn ma le s) := by rw [hz.1, hz.2]; exact pgI_wI hP _
                      have hP2 : pgI (wI Ee (drB Ee qe.toNat : Int) [10]) ((drB Ee qe.toNat : Int) + 1) (strp (L ++ lnX nm nn ma le s) ++ [10]) := pgI_wI (pgI_drop hP1) [10]
                      have hd9 := drB_le Ee qe.toNat
                      refine z_iinc (lv' := [(2, .int (iI (s + 1))), (0, .ref aM), (1, .int (iI w)), (3, .int (iI qL)), (4, .int (iI e))]) C d_M_draw_118 2 rfl (by decide) rfl ?_
                      refine z_goto (tgt := 53) C d_M_draw_121 (by decide) ?_
                      refine z_lv [1, 2, 0] (lv' := [(0, .ref aM), (1, .int (iI w)), (2, .int (iI (s + 1)))]) rfl ?_
                      exact ih53 (s + 1) _ _ _ (by omega) (by omega) (hP2) (Or.inr ⟨_, rfl⟩) (by rw [dwX_step nm nn ma le L (by omega)] at hD; exact hD) (by omega)
                    ·
                      rw [cX_step nm nn ma le s (by omega)] at hF
                      refine z_aload_n C d_M_draw_100 0 rfl ?_
                      refine z_iload_n C d_M_draw_101 2 rfl ?_
                      refine z_iload C d_M_draw_102 4 rfl ?_
                      refine z_callv (As := [.int (iI s), .int (iI e)]) (rest := []) (wr := []) (ws' := fun u => [(aM, .inr (8, [.ref aWc, .int (iI 0), .int (iI msz), .ref aTx, .int (iI (qe + ((clX nm nn ma le s e).length : Int))), .ref aOu, .int (iI mfa), .int (iI mpl), .int (iI mle), .int (iI mna), .ref aSo, .ref aNf, .ref aNg, .ref aSr, .ref aNu, .ref aMa, .ref aNo, .int (iI mfi), .int (iI mru), .int (iI mnv), .ref aLe, .ref aAc, .ref aDi, .ref aOr, .int (iI mki), .int (iI mfr), .int (iI mto), .int (iI mwh)])), iA G aOu 8192 (wI Ee qe (clX nm nn ma le s e)), iA G aNo 48 no, iA G aNf 40 nf, iA G aNg 40 ng, iA G aSo 4200 sF, iA G aMa 3 ma, iA G aLe 384 le]) (q0 := 0) C k_M_227 kc_M_drawCell (fun l sz => m_M_drawCell l G sz aM aWc aTx aOu aSo aNf aNg aSr aNu aMa aNo aLe aAc aDi aOr 0 msz qe mfa mpl mle mna mfi mru mnv mki mfr mto mwh Ee sF nf ng no ma nm le nn s e (hnm) (hct) (hnn) (hn) (hgl) (by omega) (by have h9 := qg_fit hF; omega)) rfl rfl (Nat.le_of_ble_eq_true rfl) (by decide) d_M_draw_104 rfl rfl [0, 1, 2, 3, 4, 5, 6, 7] [] [0, 1, 2, 3, 4, 5, 6, 7] rfl rfl (by decide) (fun u => rfl) (fun u h104 => ?_)
                      show Zc G X 5 0 0 [(aM, .inr (8, [.ref aWc, .int (iI 0), .int (iI msz), .ref aTx, .int (iI (qe + ((clX nm nn ma le s e).length : Int))), .ref aOu, .int (iI mfa), .int (iI mpl), .int (iI mle), .int (iI mna), .ref aSo, .ref aNf, .ref aNg, .ref aSr, .ref aNu, .ref aMa, .ref aNo, .int (iI mfi), .int (iI mru), .int (iI mnv), .ref aLe, .ref aAc, .ref aDi, .ref aOr, .int (iI mki), .int (iI mfr), .int (iI mto), .int (iI mwh)])), iA G aOu 8192 (wI Ee qe (clX nm nn ma le s e)), iA G aNo 48 no, iA G aNf 40 nf, iA G aNg 40 ng, iA G aSo 4200 sF, iA G aMa 3 ma, iA G aLe 384 le] [(0, .ref aM), (1, .int (iI w)), (2, .int (iI s)), (3, .int (iI qL)), (4, .int (iI e))] 107 []
                      have hp5 : wI (wI Ee qe (clX nm nn ma le s e)) (qe + ((clX nm nn ma le s e).length : Int)) (cX nm nn ma le s (ma 1 + ma 2 - (e + 1)).toNat (e + 1)) = wI EL qL (lnX nm nn ma le s) ∧ (qe + ((clX nm nn ma le s e).length : Int)) + ((cX nm nn ma le s (ma 1 + ma 2 - (e + 1)).toNat (e + 1)).length : Int) = qL + ((lnX nm nn ma le s).length : Int) := qg_next hF
                      have hg5 : 0 ≤ qe + ((clX nm nn ma le s e).length : Int) := by omega
                      generalize wI Ee qe (clX nm nn ma le s e) = E5 at hp5 ⊢
                      generalize qe + ((clX nm nn ma le s e).length : Int) = q5 at hp5 hg5 ⊢
                      refine z_iinc (lv' := [(4, .int (iI (e + 1))), (0, .ref aM), (1, .int (iI w)), (2, .int (iI s)), (3, .int (iI qL))]) C d_M_draw_107 4 rfl (by decide) rfl ?_
                      refine z_goto (tgt := 91) C d_M_draw_110 (by decide) ?_
                      refine z_lv [1, 2, 3, 4, 0] (lv' := [(0, .ref aM), (1, .int (iI w)), (2, .int (iI s)), (3, .int (iI qL)), (4, .int (iI (e + 1)))]) rfl ?_
                      exact ih91 _ _ _ (by omega) (hp5) (by omega)
                refine z_lv [2, 3, 4, 1, 0] (lv' := [(0, .ref aM), (1, .int (iI w)), (2, .int (iI s)), (3, .int (iI qL)), (4, .int (iI 0))]) rfl ?_
                exact loop91 (_ + 1) _ _ _ (by omega) (by rw [Int.sub_zero]; exact hp4) (Nat.lt_succ_self _)
        refine z_lv [1, 2, 0] (lv' := [(0, .ref aM), (1, .int (iI w)), (2, .int (iI (-1)))]) rfl ?_
        exact loop53 (_ + 1) (-1) 0 _ [] (by omega) (by omega) (pgI_0 _) (Or.inl rfl) ((daX nm nn ma le (by omega)).symm) (Nat.lt_succ_self _)
      ·
        have hnl := NmM_st hnm (s := k) (by omega)
        have hnz := nnO_z hnn (s := k) (by omega)
        refine z_aload_n C d_M_draw_24 0 rfl ?_
        refine z_iconst C d_M_draw_25 ?_
        refine z_iload_n C d_M_draw_26 2 rfl ?_
        refine z_calli (As := [.int (iI 0), .int (iI k)]) (rest := []) (wr := [iA G aOu 8192 ou, iA G aSo 4200 sF, iA G aMa 3 ma, iA G aLe 384 le]) (ws' := fun u => [(aM, .inr (8, [.ref aWc, .int (iI 0), .int (iI msz), .ref aTx, .int (iI 0), .ref aOu, .int (iI mfa), .int (iI mpl), .int (iI mle), .int (iI mna), .ref aSo, .ref aNf, .ref aNg, .ref aSr, .ref aNu, .ref aMa, .ref aNo, .int (iI mfi), .int (iI mru), .int (iI mnv), .ref aLe, .ref aAc, .ref aDi, .ref aOr, .int (iI mki), .int (iI mfr), .int (iI mto), .int (iI mwh)])), iA G aOu 8192 ou, iA G aNo 48 no, iA G aNf 40 nf, iA G aNg 40 ng, iA G aSo 4200 sF, iA G aMa 3 ma, iA G aLe 384 le]) (q0 := 0) C k_M_218 kc_M_lengthOf (fun l sz => m_M_lengthOf l G sz aM aWc aTx aOu aSo aNf aNg aSr aNu aMa aNo aLe aAc aDi aOr 0 msz 0 mfa mpl mle mna mfi mru mnv mki mfr mto mwh sF nf ng no ma nm 0 k k (hnm) (hct) (by omega) (by have h7 := maZ_e ma; have h6 := bas_e; omega) (by have h7 := maZ_e ma; have h6 := bas_e; omega)) rfl rfl (Nat.le_of_ble_eq_true rfl) (by decide) d_M_draw_27 rfl rfl [0, 2, 3, 4] [1, 5, 6, 7] [4, 0, 5, 6, 7, 1, 2, 3] rfl rfl (by decide) (fun u => rfl) (fun r u h27 => ?_)
        obtain rfl := h27
        show Zc G X 5 0 0 [(aM, .inr (8, [.ref aWc, .int (iI 0), .int (iI msz), .ref aTx, .int (iI 0), .ref aOu, .int (iI mfa), .int (iI mpl), .int (iI mle), .int (iI mna), .ref aSo, .ref aNf, .ref aNg, .ref aSr, .ref aNu, .ref aMa, .ref aNo, .int (iI mfi), .int (iI mru), .int (iI mnv), .ref aLe, .ref aAc, .ref aDi, .ref aOr, .int (iI mki), .int (iI mfr), .int (iI mto), .int (iI mwh)])), iA G aOu 8192 ou, iA G aNo 48 no, iA G aNf 40 nf, iA G aNg 40 ng, iA G aSo 4200 sF, iA G aMa 3 ma, iA G aLe 384 le] [(0, .ref aM), (1, .int (iI w)), (2, .int (iI k))] 30 [.int (iI ((nm k).length : Int))]
        refine z_iload_n C d_M_draw_30 1 rfl ?_
        refine z_icmp_le (tgt := 43) C d_M_draw_31 (by decide) (by omega) (by omega) (fun c31 => ?_) (fun c31 => ?_)
        ·
          refine z_iload_n C d_M_draw_43 1 rfl ?_
          refine z_istore_n (lv' := [(1, .int (iI w)), (0, .ref aM), (2, .int (iI k))]) C d_M_draw_44 (by decide) rfl ?_
          refine z_iinc (lv' := [(2, .int (iI (k + 1))), (1, .int (iI w)), (0, .ref aM)]) C d_M_draw_45 2 rfl (by decide) rfl ?_
          refine z_goto (tgt := 14) C d_M_draw_48 (by decide) ?_
          refine z_lv [2, 1, 0] (lv' := [(0, .ref aM), (1, .int (iI w)), (2, .int (iI (k + 1)))]) rfl ?_
          exact ih14 _ _ (by omega) (by rw [fwS_step nn w (by omega), hnz, show mx w ((nm k).length : Int) = w from if_neg (by omega)] at hE; exact hE) (by omega)
        ·
          refine z_aload_n C d_M_draw_34 0 rfl ?_
          refine z_iconst C d_M_draw_35 ?_
          refine z_iload_n C d_M_draw_36 2 rfl ?_
          refine z_calli (As := [.int (iI 0), .int (iI k)]) (rest := []) (wr := [iA G aOu 8192 ou, iA G aSo 4200 sF, iA G aMa 3 ma, iA G aLe 384 le]) (ws' := fun u => [(aM, .inr (8, [.ref aWc, .int (iI 0), .int (iI msz), .ref aTx, .int (iI 0), .ref aOu, .int (iI mfa), .int (iI mpl), .int (iI mle), .int (iI mna), .ref aSo, .ref aNf, .ref aNg, .ref aSr, .ref aNu, .ref aMa, .ref aNo, .int (iI mfi), .int (iI mru), .int (iI mnv), .ref aLe, .ref aAc, .ref aDi, .ref aOr, .int (iI mki), .int (iI mfr), .int (iI mto), .int (iI mwh)])), iA G aOu 8192 ou, iA G aNo 48 no, iA G aNf 40 nf, iA G aNg 40 ng, iA G aSo 4200 sF, iA G aMa 3 ma, iA G aLe 384 le]) (q0 := 0) C k_M_218 kc_M_lengthOf (fun l sz => m_M_lengthOf l G sz aM aWc aTx aOu aSo aNf aNg aSr aNu aMa aNo aLe aAc aDi aOr 0 msz 0 mfa mpl mle mna mfi mru mnv mki mfr mto mwh sF nf ng no ma nm 0 k k (hnm) (hct) (by omega) (by have h7 := maZ_e ma; have h6 := bas_e; omega) (by have h7 := maZ_e ma; have h6 := bas_e; omega)) rfl rfl (Nat.le_of_ble_eq_true rfl) (by decide) d_M_draw_37 rfl rfl [0, 2, 3, 4] [1, 5, 6, 7] [4, 0, 5, 6, 7, 1, 2, 3] rfl rfl (by decide) (fun u => rfl) (fun r u h37 => ?_)
          obtain rfl := h37
          show Zc G X 5 0 0 [(aM, .inr (8, [.ref aWc, .int (iI 0), .int (iI msz), .ref aTx, .int (iI 0), .ref aOu, .int (iI mfa), .int (iI mpl), .int (iI mle), .int (iI mna), .ref aSo, .ref aNf, .ref aNg, .ref aSr, .ref aNu, .ref aMa, .ref aNo, .int (iI mfi), .int (iI mru), .int (iI mnv), .ref aLe, .ref aAc, .ref aDi, .ref aOr, .int (iI mki), .int (iI mfr), .int (iI mto), .int (iI mwh)])), iA G aOu 8192 ou, iA G aNo 48 no, iA G aNf 40 nf, iA G aNg 40 ng, iA G aSo 4200 sF, iA G aMa 3 ma, iA G aLe 384 le] [(0, .ref aM), (1, .int (iI w)), (2, .int (iI k))] 40 [.int (iI ((nm k).length : Int))]
          refine z_goto (tgt := 44) C d_M_draw_40 (by decide) ?_
          refine z_istore_n (lv' := [(1, .int (iI ((nm k).length : Int))), (0, .ref aM), (2, .int (iI k))]) C d_M_draw_44 (by decide) rfl ?_
          refine z_iinc (lv' := [(2, .int (iI (k + 1))), (1, .int (iI ((nm k).length : Int))), (0, .ref aM)]) C d_M_draw_45 2 rfl (by decide) rfl ?_
          refine z_goto (tgt := 14) C d_M_draw_48 (by decide) ?_
          refine z_lv [2, 1, 0] (lv' := [(0, .ref aM), (1, .int (iI ((nm k).length : Int))), (2, .int (iI (k + 1)))]) rfl ?_
          exact ih14 _ _ (by omega) (by rw [fwS_step nn w (by omega), hnz, show mx w ((nm k).length : Int) = ((nm k).length : Int) from if_pos (by omega)] at hE; exact hE) (by omega)
  refine z_lv [2, 1, 0] (lv' := [(0, .ref aM), (1, .int (iI 0)), (2, .int (iI 0))]) rfl ?_
  exact loop14 (_ + 1) _ _ (by omega) (by rw [Int.sub_zero]; rfl) (Nat.lt_succ_self _)
