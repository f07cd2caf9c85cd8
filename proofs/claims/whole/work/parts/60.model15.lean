set_option maxHeartbeats 4000000 in
set_option maxRecDepth 100000 in
theorem m_M_feed (l : Launch) (G : GG) (sz : Nat) (aM : Nat) (aWc : Nat) (aTx : Nat) (aOu : Nat) (aSo : Nat) (aNf : Nat) (aNg : Nat) (aSr : Nat) (aNu : Nat) (aMa : Nat) (aNo : Nat) (aLe : Nat) (aAc : Nat) (aDi : Nat) (aOr : Nat) (mth : Int) (msz : Int) (mwr : Int) (mfa : Int) (mpl : Int) (mle : Int) (mna : Int) (mfi : Int) (mru : Int) (mnv : Int) (mki : Int) (mfr : Int) (mto : Int) (mwh : Int) (tx : Nat → Int) (a : Int) (b : Int) (c : Int) (d : Int) (h1 : -2147483648 ≤ a ∧ a ≤ 2147483647 ∧ -2147483648 ≤ b ∧ b ≤ 2147483647 ∧ -2147483648 ≤ c ∧ c ≤ 2147483647 ∧ -2147483648 ≤ d ∧ d ≤ 2147483647) (hs : 0 ≤ msz ∧ msz ≤ 4096) : MetI l G sz y_M_feed c_M_feed 7 (some .int) ({ frames := 1, cells := 0, slots := 0, locals := 21 } : Room) [.ref aM, .int (iI a), .int (iI b), .int (iI c), .int (iI d)] [(aM, .inr (8, [.ref aWc, .int (iI mth), .int (iI msz), .ref aTx, .int (iI mwr), .ref aOu, .int (iI mfa), .int (iI mpl), .int (iI mle), .int (iI mna), .ref aSo, .ref aNf, .ref aNg, .ref aSr, .ref aNu, .ref aMa, .ref aNo, .int (iI mfi), .int (iI mru), .int (iI mnv), .ref aLe, .ref aAc, .ref aDi, .ref aOr, .int (iI mki), .int (iI mfr), .int (iI mto), .int (iI mwh)])), iA G aTx 4200 tx] (fun (r : Int32) (u : Int × Int × Int × (Nat → Int)) => r = iI u.1 ∧ ((4096 < msz + 16 → u.2.1 = 1 ∧ u.1 = 0 ∧ u.2.2.1 = msz ∧ u.2.2.2 = tx) ∧ (¬ 4096 < msz + 16 → u.2.1 = 0 ∧ u.1 = msz + 16 ∧ u.2.2.1 = msz + 16 ∧ u.2.2.2 = wI tx msz (b4 a ++ (b4 b ++ (b4 c ++ b4 d)))))) (fun (u : Int × Int × Int × (Nat → Int)) => [(aM, .inr (8, [.ref aWc, .int (iI u.2.1), .int (iI u.2.2.1), .ref aTx, .int (iI mwr), .ref aOu, .int (iI mfa), .int (iI mpl), .int (iI mle), .int (iI mna), .ref aSo, .ref aNf, .ref aNg, .ref aSr, .ref aNu, .ref aMa, .ref aNo, .int (iI mfi), .int (iI mru), .int (iI mnv), .ref aLe, .ref aAc, .ref aDi, .ref aOr, .int (iI mki), .int (iI mfr), .int (iI mto), .int (iI mwh)])), iA G aTx 4200 u.2.2.2]) := by
  refine MetI.mk (by decide) (Nat.le_of_ble_eq_true rfl) (fun X C K => ?_)
  show Zc G X 7 0 0 [(aM, .inr (8, [.ref aWc, .int (iI mth), .int (iI msz), .ref aTx, .int (iI mwr), .ref aOu, .int (iI mfa), .int (iI mpl), .int (iI mle), .int (iI mna), .ref aSo, .ref aNf, .ref aNg, .ref aSr, .ref aNu, .ref aMa, .ref aNo, .int (iI mfi), .int (iI mru), .int (iI mnv), .ref aLe, .ref aAc, .ref aDi, .ref aOr, .int (iI mki), .int (iI mfr), .int (iI mto), .int (iI mwh)])), iA G aTx 4200 tx] [(0, .ref aM), (1, .int (iI a)), (2, .int (iI b)), (3, .int (iI c)), (4, .int (iI d))] 0 []
  refine z_aload_n C d_M_feed_0 0 rfl ?_
  refine z_iconst C d_M_feed_1 ?_
  refine z_put C f_M_55 ok_M nm_M d_M_feed_2 0 rfl rfl rfl rfl (Nat.le_of_ble_eq_true rfl) [(aM, .inr (8, [.ref aWc, .int (iI 0), .int (iI msz), .ref aTx, .int (iI mwr), .ref aOu, .int (iI mfa), .int (iI mpl), .int (iI mle), .int (iI mna), .ref aSo, .ref aNf, .ref aNg, .ref aSr, .ref aNu, .ref aMa, .ref aNo, .int (iI mfi), .int (iI mru), .int (iI mnv), .ref aLe, .ref aAc, .ref aDi, .ref aOr, .int (iI mki), .int (iI mfr), .int (iI mto), .int (iI mwh)])), iA G aTx 4200 tx] rfl ?_
  refine z_aload_n C d_M_feed_5 0 rfl ?_
  refine z_get C f_M_59 d_M_feed_6 0 rfl rfl ?_
  refine z_bipush C d_M_feed_9 (by decide) ?_
  refine z_iadd C d_M_feed_11 ?_
  refine z_sipush C d_M_feed_12 (by decide) ?_
  refine z_icmp_le (tgt := 24) C d_M_feed_15 (by decide) (by omega) (by omega) (fun c15 => ?_) (fun c15 => ?_)
  ·
    refine z_iconst C d_M_feed_24 ?_
    refine z_istore (lv' := [(5, .int (iI 0)), (0, .ref aM), (1, .int (iI a)), (2, .int (iI b)), (3, .int (iI c)), (4, .int (iI d))]) C d_M_feed_25 (by decide) rfl ?_
    refine z_iload C d_M_feed_27 0 rfl ?_
    refine z_bipush C d_M_feed_29 (by decide) ?_
    refine z_icmp_ge (tgt := 105) C d_M_feed_31 (by decide) (by omega) (by omega) (fun c31 => ?_) (fun c31 => ?_)
    · exact absurd c31 (by omega)
    ·
      refine z_iload C d_M_feed_34 0 rfl ?_
      refine z_iconst C d_M_feed_36 ?_
      refine z_icmp_ge (tgt := 44) C d_M_feed_37 (by decide) (by omega) (by omega) (fun c37 => ?_) (fun c37 => ?_)
      · exact absurd c37 (by omega)
      ·
        refine z_iload_n C d_M_feed_40 2 rfl ?_
        refine z_goto (tgt := 68) C d_M_feed_41 (by decide) ?_
        refine z_istore (lv' := [(6, .int (iI a)), (5, .int (iI 0)), (0, .ref aM), (1, .int (iI a)), (2, .int (iI b)), (3, .int (iI c)), (4, .int (iI d))]) C d_M_feed_68 (by decide) rfl ?_
        refine z_aload_n C d_M_feed_70 2 rfl ?_
        refine z_get C f_M_13 d_M_feed_71 0 rfl rfl ?_
        refine z_aload_n C d_M_feed_74 2 rfl ?_
        refine z_get C f_M_59 d_M_feed_75 0 rfl rfl ?_
        refine z_iload C d_M_feed_78 1 rfl ?_
        refine z_iadd C d_M_feed_80 ?_
        refine z_iload C d_M_feed_81 0 rfl ?_
        refine z_bipush C d_M_feed_83 (by decide) ?_
        refine z_bipush C d_M_feed_85 (by decide) ?_
        refine z_iload C d_M_feed_87 1 rfl ?_
        refine z_iconst C d_M_feed_89 ?_
        refine z_irem C d_M_feed_90 (by decide) (iI 0) (by decide +kernel) ?_
        refine z_imul C d_M_feed_91 ?_
        refine z_isub C d_M_feed_92 ?_
        refine z_ishr C d_M_feed_93 (iI (a / 2 ^ 24)) (iI_shr a (by omega) (by decide) (by decide)) ?_
        refine z_sipush C d_M_feed_94 (by decide) ?_
        refine z_iand C d_M_feed_97 (iI (a / 2 ^ 24 % 256)) (iI_and255 _) ?_
        refine z_iast C d_M_feed_98 1 rfl (by omega) [(aM, .inr (8, [.ref aWc, .int (iI 0), .int (iI msz), .ref aTx, .int (iI mwr), .ref aOu, .int (iI mfa), .int (iI mpl), .int (iI mle), .int (iI mna), .ref aSo, .ref aNf, .ref aNg, .ref aSr, .ref aNu, .ref aMa, .ref aNo, .int (iI mfi), .int (iI mru), .int (iI mnv), .ref aLe, .ref aAc, .ref aDi, .ref aOr, .int (iI mki), .int (iI mfr), .int (iI mto), .int (iI mwh)])), iA G aTx 4200 (uZ tx ((msz + 0).toNat) (a / 2 ^ 24 % 256))] (rfl) ?_
        refine z_iinc (lv' := [(5, .int (iI 1)), (6, .int (iI a)), (0, .ref aM), (1, .int (iI a)), (2, .int (iI b)), (3, .int (iI c)), (4, .int (iI d))]) C d_M_feed_99 1 rfl (by decide) rfl ?_
        refine z_goto (tgt := 27) C d_M_feed_102 (by decide) ?_
        refine z_iload C d_M_feed_27 0 rfl ?_
        refine z_bipush C d_M_feed_29 (by decide) ?_
        refine z_icmp_ge (tgt := 105) C d_M_feed_31 (by decide) (by omega) (by omega) (fun c31 => ?_) (fun c31 => ?_)
        · exact absurd c31 (by omega)
        ·
          refine z_iload C d_M_feed_34 0 rfl ?_
          refine z_iconst C d_M_feed_36 ?_
          refine z_icmp_ge (tgt := 44) C d_M_feed_37 (by decide) (by omega) (by omega) (fun c37 => ?_) (fun c37 => ?_)
          · exact absurd c37 (by omega)
          ·
            refine z_iload_n C d_M_feed_40 3 rfl ?_
            refine z_goto (tgt := 68) C d_M_feed_41 (by decide) ?_
            refine z_istore (lv' := [(6, .int (iI a)), (5, .int (iI 1)), (0, .ref aM), (1, .int (iI a)), (2, .int (iI b)), (3, .int (iI c)), (4, .int (iI d))]) C d_M_feed_68 (by decide) rfl ?_
            refine z_aload_n C d_M_feed_70 2 rfl ?_
            refine z_get C f_M_13 d_M_feed_71 0 rfl rfl ?_
            refine z_aload_n C d_M_feed_74 2 rfl ?_
            refine z_get C f_M_59 d_M_feed_75 0 rfl rfl ?_
            refine z_iload C d_M_feed_78 1 rfl ?_
            refine z_iadd C d_M_feed_80 ?_
            refine z_iload C d_M_feed_81 0 rfl ?_
            refine z_bipush C d_M_feed_83 (by decide) ?_
            refine z_bipush C d_M_feed_85 (by decide) ?_
            refine z_iload C d_M_feed_87 1 rfl ?_
            refine z_iconst C d_M_feed_89 ?_
            refine z_irem C d_M_feed_90 (by decide) (iI 1) (by decide +kernel) ?_
            refine z_imul C d_M_feed_91 ?_
            refine z_isub C d_M_feed_92 ?_
            refine z_ishr C d_M_feed_93 (iI (a / 2 ^ 16)) (iI_shr a (by omega) (by decide) (by decide)) ?_
            refine z_sipush C d_M_feed_94 (by decide) ?_
            refine z_iand C d_M_feed_97 (iI (a / 2 ^ 16 % 256)) (iI_and255 _) ?_
            refine z_iast C d_M_feed_98 1 rfl (by omega) [(aM, .inr (8, [.ref aWc, .int (iI 0), .int (iI msz), .ref aTx, .int (iI mwr), .ref aOu, .int (iI mfa), .int (iI mpl), .int (iI mle), .int (iI mna), .ref aSo, .ref aNf, .ref aNg, .ref aSr, .ref aNu, .ref aMa, .ref aNo, .int (iI mfi), .int (iI mru), .int (iI mnv), .ref aLe, .ref aAc, .ref aDi, .ref aOr, .int (iI mki), .int (iI mfr), .int (iI mto), .int (iI mwh)])), iA G aTx 4200 (uZ (uZ tx ((msz + 0).toNat) (a / 2 ^ 24 % 256)) ((msz + 1).toNat) (a / 2 ^ 16 % 256))] (rfl) ?_
            refine z_iinc (lv' := [(5, .int (iI 2)), (6, .int (iI a)), (0, .ref aM), (1, .int (iI a)), (2, .int (iI b)), (3, .int (iI c)), (4, .int (iI d))]) C d_M_feed_99 1 rfl (by decide) rfl ?_
            refine z_goto (tgt := 27) C d_M_feed_102 (by decide) ?_
            refine z_iload C d_M_feed_27 0 rfl ?_
            refine z_bipush C d_M_feed_29 (by decide) ?_
            refine z_icmp_ge (tgt := 105) C d_M_feed_31 (by decide) (by omega) (by omega) (fun c31 => ?_) (fun c31 => ?_)
            · exact absurd c31 (by omega)
            ·
              refine z_iload C d_M_feed_34 0 rfl ?_
              refine z_iconst C d_M_feed_36 ?_
              refine z_icmp_ge (tgt := 44) C d_M_feed_37 (by decide) (by omega) (by omega) (fun c37 => ?_) (fun c37 => ?_)
              · exact absurd c37 (by omega)
              ·
                refine z_iload_n C d_M_feed_40 3 rfl ?_
                refine z_goto (tgt := 68) C d_M_feed_41 (by decide) ?_
                refine z_istore (lv' := [(6, .int (iI a)), (5, .int (iI 2)), (0, .ref aM), (1, .int (iI a)), (2, .int (iI b)), (3, .int (iI c)), (4, .int (iI d))]) C d_M_feed_68 (by decide) rfl ?_
                refine z_aload_n C d_M_feed_70 2 rfl ?_
                refine z_get C f_M_13 d_M_feed_71 0 rfl rfl ?_
                refine z_aload_n C d_M_feed_74 2 rfl ?_
                refine z_get C f_M_59 d_M_feed_75 0 rfl rfl ?_
                refine z_iload C d_M_feed_78 1 rfl ?_
                refine z_iadd C d_M_feed_80 ?_
                refine z_iload C d_M_feed_81 0 rfl ?_
                refine z_bipush C d_M_feed_83 (by decide) ?_
                refine z_bipush C d_M_feed_85 (by decide) ?_
                refine z_iload C d_M_feed_87 1 rfl ?_
                refine z_iconst C d_M_feed_89 ?_
                refine z_irem C d_M_feed_90 (by decide) (iI 2) (by decide +kernel) ?_
                refine z_imul C d_M_feed_91 ?_
                refine z_isub C d_M_feed_92 ?_
                refine z_ishr C d_M_feed_93 (iI (a / 2 ^ 8)) (iI_shr a (by omega) (by decide) (by decide)) ?_
                refine z_sipush C d_M_feed_94 (by decide) ?_
                refine z_iand C d_M_feed_97 (iI (a / 2 ^ 8 % 256)) (iI_and255 _) ?_
                refine z_iast C d_M_feed_98 1 rfl (by omega) [(aM, .inr (8, [.ref aWc, .int (iI 0), .int (iI msz), .ref aTx, .int (iI mwr), .ref aOu, .int (iI mfa), .int (iI mpl), .int (iI mle), .int (iI mna), .ref aSo, .ref aNf, .ref aNg, .ref aSr, .ref aNu, .ref aMa, .ref aNo, .int (iI mfi), .int (iI mru), .int (iI mnv), .ref aLe, .ref aAc, .ref aDi, .ref aOr, .int (iI mki), .int (iI mfr), .int (iI mto), .int (iI mwh)])), iA G aTx 4200 (uZ (uZ (uZ tx ((msz + 0).toNat) (a / 2 ^ 24 % 256)) ((msz + 1).toNat) (a / 2 ^ 16 % 256)) ((msz + 2).toNat) (a / 2 ^ 8 % 256))] (rfl) ?_
                refine z_iinc (lv' := [(5, .int (iI 3)), (6, .int (iI a)), (0, .ref aM), (1, .int (iI a)), (2, .int (iI b)), (3, .int (iI c)), (4, .int (iI d))]) C d_M_feed_99 1 rfl (by decide) rfl ?_
                refine z_goto (tgt := 27) C d_M_feed_102 (by decide) ?_
                refine z_iload C d_M_feed_27 0 rfl ?_
                refine z_bipush C d_M_feed_29 (by decide) ?_
                refine z_icmp_ge (tgt := 105) C d_M_feed_31 (by decide) (by omega) (by omega) (fun c31 => ?_) (fun c31 => ?_)
                · exact absurd c31 (by omega)
                ·
                  refine z_iload C d_M_feed_34 0 rfl ?_
                  refine z_iconst C d_M_feed_36 ?_
                  refine z_icmp_ge (tgt := 44) C d_M_feed_37 (by decide) (by omega) (by omega) (fun c37 => ?_) (fun c37 => ?_)
                  · exact absurd c37 (by omega)
                  ·
                    refine z_iload_n C d_M_feed_40 3 rfl ?_
                    refine z_goto (tgt := 68) C d_M_feed_41 (by decide) ?_
                    refine z_istore (lv' := [(6, .int (iI a)), (5, .int (iI 3)), (0, .ref aM), (1, .int (iI a)), (2, .int (iI b)), (3, .int (iI c)), (4, .int (iI d))]) C d_M_feed_68 (by decide) rfl ?_
                    refine z_aload_n C d_M_feed_70 2 rfl ?_
                    refine z_get C f_M_13 d_M_feed_71 0 rfl rfl ?_
                    refine z_aload_n C d_M_feed_74 2 rfl ?_
                    refine z_get C f_M_59 d_M_feed_75 0 rfl rfl ?_
                    refine z_iload C d_M_feed_78 1 rfl ?_
                    refine z_iadd C d_M_feed_80 ?_
                    refine z_iload C d_M_feed_81 0 rfl ?_
                    refine z_bipush C d_M_feed_83 (by decide) ?_
                    refine z_bipush C d_M_feed_85 (by decide) ?_
                    refine z_iload C d_M_feed_87 1 rfl ?_
                    refine z_iconst C d_M_feed_89 ?_
                    refine z_irem C d_M_feed_90 (by decide) (iI 3) (by decide +kernel) ?_
                    refine z_imul C d_M_feed_91 ?_
                    refine z_isub C d_M_feed_92 ?_
                    refine z_ishr C d_M_feed_93 (iI (a / 2 ^ 0)) (iI_shr a (by omega) (by decide) (by decide)) ?_
                    refine z_sipush C d_M_feed_94 (by decide) ?_
                    refine z_iand C d_M_feed_97 (iI (a / 2 ^ 0 % 256)) (iI_and255 _) ?_
                    refine z_iast C d_M_feed_98 1 rfl (by omega) [(aM, .inr (8, [.ref aWc, .int (iI 0), .int (iI msz), .ref aTx, .int (iI mwr), .ref aOu, .int (iI mfa), .int (iI mpl), .int (iI mle), .int (iI mna), .ref aSo, .ref aNf, .ref aNg, .ref aSr, .ref aNu, .ref aMa, .ref aNo, .int (iI mfi), .int (iI mru), .int (iI mnv), .ref aLe, .ref aAc, .ref aDi, .ref aOr, .int (iI mki), .int (iI mfr), .int (iI mto), .int (iI mwh)])), iA G aTx 4200 (uZ (uZ (uZ (uZ tx ((msz + 0).toNat) (a / 2 ^ 24 % 256)) ((msz + 1).toNat) (a / 2 ^ 16 % 256)) ((msz + 2).toNat) (a / 2 ^ 8 % 256)) ((msz + 3).toNat) (a / 2 ^ 0 % 256))] (rfl) ?_
                    refine z_iinc (lv' := [(5, .int (iI 4)), (6, .int (iI a)), (0, .ref aM), (1, .int (iI a)), (2, .int (iI b)), (3, .int (iI c)), (4, .int (iI d))]) C d_M_feed_99 1 rfl (by decide) rfl ?_
                    refine z_goto (tgt := 27) C d_M_feed_102 (by decide) ?_
                    refine z_iload C d_M_feed_27 0 rfl ?_
                    refine z_bipush C d_M_feed_29 (by decide) ?_
                    refine z_icmp_ge (tgt := 105) C d_M_feed_31 (by decide) (by omega) (by omega) (fun c31 => ?_) (fun c31 => ?_)
                    · exact absurd c31 (by omega)
                    ·
                      refine z_iload C d_M_feed_34 0 rfl ?_
                      refine z_iconst C d_M_feed_36 ?_
                      refine z_icmp_ge (tgt := 44) C d_M_feed_37 (by decide) (by omega) (by omega) (fun c37 => ?_) (fun c37 => ?_)
                      ·
                        refine z_iload C d_M_feed_44 0 rfl ?_
                        refine z_bipush C d_M_feed_46 (by decide) ?_
                        refine z_icmp_ge (tgt := 55) C d_M_feed_48 (by decide) (by omega) (by omega) (fun c48 => ?_) (fun c48 => ?_)
                        · exact absurd c48 (by omega)
                        ·
                          refine z_iload_n C d_M_feed_51 4 rfl ?_
                          refine z_goto (tgt := 68) C d_M_feed_52 (by decide) ?_
                          refine z_istore (lv' := [(6, .int (iI b)), (5, .int (iI 4)), (0, .ref aM), (1, .int (iI a)), (2, .int (iI b)), (3, .int (iI c)), (4, .int (iI d))]) C d_M_feed_68 (by decide) rfl ?_
                          refine z_aload_n C d_M_feed_70 2 rfl ?_
                          refine z_get C f_M_13 d_M_feed_71 0 rfl rfl ?_
                          refine z_aload_n C d_M_feed_74 2 rfl ?_
                          refine z_get C f_M_59 d_M_feed_75 0 rfl rfl ?_
                          refine z_iload C d_M_feed_78 1 rfl ?_
                          refine z_iadd C d_M_feed_80 ?_
                          refine z_iload C d_M_feed_81 0 rfl ?_
                          refine z_bipush C d_M_feed_83 (by decide) ?_
                          refine z_bipush C d_M_feed_85 (by decide) ?_
                          refine z_iload C d_M_feed_87 1 rfl ?_
                          refine z_iconst C d_M_feed_89 ?_
                          refine z_irem C d_M_feed_90 (by decide) (iI 0) (by decide +kernel) ?_
                          refine z_imul C d_M_feed_91 ?_
                          refine z_isub C d_M_feed_92 ?_
                          refine z_ishr C d_M_feed_93 (iI (b / 2 ^ 24)) (iI_shr b (by omega) (by decide) (by decide)) ?_
                          refine z_sipush C d_M_feed_94 (by decide) ?_
                          refine z_iand C d_M_feed_97 (iI (b / 2 ^ 24 % 256)) (iI_and255 _) ?_
                          refine z_iast C d_M_feed_98 1 rfl (by omega) [(aM, .inr (8, [.ref aWc, .int (iI 0), .int (iI msz), .ref aTx, .int (iI mwr), .ref aOu, .int (iI mfa), .int (iI mpl), .int (iI mle), .int (iI mna), .ref aSo, .ref aNf, .ref aNg, .ref aSr, .ref aNu, .ref aMa, .ref aNo, .int (iI mfi), .int (iI mru), .int (iI mnv), .ref aLe, .ref aAc, .ref aDi, .ref aOr, .int (iI mki), .int (iI mfr), .int (iI mto), .int (iI mwh)])), iA G aTx 4200 (uZ (uZ (uZ (uZ (uZ tx ((msz + 0).toNat) (a / 2 ^ 24 % 256)) ((msz + 1).toNat) (a / 2 ^ 16 % 256)) ((msz + 2).toNat) (a / 2 ^ 8 % 256)) ((msz + 3).toNat) (a / 2 ^ 0 % 256)) ((msz + 4).toNat) (b / 2 ^ 24 % 256))] (rfl) ?_
                          refine z_iinc (lv' := [(5, .int (iI 5)), (6, .int (iI b)), (0, .ref aM), (1, .int (iI a)), (2, .int (iI b)), (3, .int (iI c)), (4, .int (iI d))]) C d_M_feed_99 1 rfl (by decide) rfl ?_
                          refine z_goto (tgt := 27) C d_M_feed_102 (by decide) ?_
                          refine z_iload C d_M_feed_27 0 rfl ?_
                          refine z_bipush C d_M_feed_29 (by decide) ?_
                          refine z_icmp_ge (tgt := 105) C d_M_feed_31 (by decide) (by omega) (by omega) (fun c31 => ?_) (fun c31 => ?_)
                          · exact absurd c31 (by omega)
                          ·
                            refine z_iload C d_M_feed_34 0 rfl ?_
                            refine z_iconst C d_M_feed_36 ?_
                            refine z_icmp_ge (tgt := 44) C d_M_feed_37 (by decide) (by omega) (by omega) (fun c37 => ?_) (fun c37 => ?_)
                            ·
                              refine z_iload C d_M_feed_44 0 rfl ?_
                              refine z_bipush C d_M_feed_46 (by decide) ?_
                              refine z_icmp_ge (tgt := 55) C d_M_feed_48 (by decide) (by omega) (by omega) (fun c48 => ?_) (fun c48 => ?_)
                              · exact absurd c48 (by omega)
                              ·
                                refine z_iload_n C d_M_feed_51 4 rfl ?_
                                refine z_goto (tgt := 68) C d_M_feed_52 (by decide) ?_
                                refine z_istore (lv' := [(6, .int (iI b)), (5, .int (iI 5)), (0, .ref aM), (1, .int (iI a)), (2, .int (iI b)), (3, .int (iI c)), (4, .int (iI d))]) C d_M_feed_68 (by decide) rfl ?_
                                refine z_aload_n C d_M_feed_70 2 rfl ?_
                                refine z_get C f_M_13 d_M_feed_71 0 rfl rfl ?_
                                refine z_aload_n C d_M_feed_74 2 rfl ?_
                                refine z_get C f_M_59 d_M_feed_75 0 rfl rfl ?_
                                refine z_iload C d_M_feed_78 1 rfl ?_
                                refine z_iadd C d_M_feed_80 ?_
                                refine z_iload C d_M_feed_81 0 rfl ?_
                                refine z_bipush C d_M_feed_83 (by decide) ?_
                                refine z_bipush C d_M_feed_85 (by decide) ?_
                                refine z_iload C d_M_feed_87 1 rfl ?_
                                refine z_iconst C d_M_feed_89 ?_
                                refine z_irem C d_M_feed_90 (by decide) (iI 1) (by decide +kernel) ?_
                                refine z_imul C d_M_feed_91 ?_
                                refine z_isub C d_M_feed_92 ?_
                                refine z_ishr C d_M_feed_93 (iI (b / 2 ^ 16)) (iI_shr b (by omega) (by decide) (by decide)) ?_
                                refine z_sipush C d_M_feed_94 (by decide) ?_
                                refine z_iand C d_M_feed_97 (iI (b / 2 ^ 16 % 256)) (iI_and255 _) ?_
                                refine z_iast C d_M_feed_98 1 rfl (by omega) [(aM, .inr (8, [.ref aWc, .int (iI 0), .int (iI msz), .ref aTx, .int (iI mwr), .ref aOu, .int (iI mfa), .int (iI mpl), .int (iI mle), .int (iI mna), .ref aSo, .ref aNf, .ref aNg, .ref aSr, .ref aNu, .ref aMa, .ref aNo, .int (iI mfi), .int (iI mru), .int (iI mnv), .ref aLe, .ref aAc, .ref aDi, .ref aOr, .int (iI mki), .int (iI mfr), .int (iI mto), .int (iI mwh)])), iA G aTx 4200 (uZ (uZ (uZ (uZ (uZ (uZ tx ((msz + 0).toNat) (a / 2 ^ 24 % 256)) ((msz + 1).toNat) (a / 2 ^ 16 % 256)) ((msz + 2).toNat) (a / 2 ^ 8 % 256)) ((msz + 3).toNat) (a / 2 ^ 0 % 256)) ((msz + 4).toNat) (b / 2 ^ 24 % 256)) ((msz + 5).toNat) (b / 2 ^ 16 % 256))] (rfl) ?_
                                refine z_iinc (lv' := [(5, .int (iI 6)), (6, .int (iI b)), (0, .ref aM), (1, .int (iI a)), (2, .int (iI b)), (3, .int (iI c)), (4, .int (iI d))]) C d_M_feed_99 1 rfl (by decide) rfl ?_
                                refine z_goto (tgt := 27) C d_M_feed_102 (by decide) ?_
                                refine z_iload C d_M_feed_27 0 rfl ?_
                                refine z_bipush C d_M_feed_29 (by decide) ?_
                                refine z_icmp_ge (tgt := 105) C d_M_feed_31 (by decide) (by omega) (by omega) (fun c31 => ?_) (fun c31 => ?_)
                                · exact absurd c31 (by omega)
                                ·
                                  refine z_iload C d_M_feed_34 0 rfl ?_
                                  refine z_iconst C d_M_feed_36 ?_
                                  refine z_icmp_ge (tgt := 44) C d_M_feed_37 (by decide) (by omega) (by omega) (fun c37 => ?_) (fun c37 => ?_)
                                  ·
                                    refine z_iload C d_M_feed_44 0 rfl ?_
                                    refine z_bipush C d_M_feed_46 (by decide) ?_
                                    refine z_icmp_ge (tgt := 55) C d_M_feed_48 (by decide) (by omega) (by omega) (fun c48 => ?_) (fun c48 => ?_)
                                    · exact absurd c48 (by omega)
                                    ·
                                      refine z_iload_n C d_M_feed_51 4 rfl ?_
                                      refine z_goto (tgt := 68) C d_M_feed_52 (by decide) ?_
                                      refine z_istore (lv' := [(6, .int (iI b)), (5, .int (iI 6)), (0, .ref aM), (1, .int (iI a)), (2, .int (iI b)), (3, .int (iI c)), (4, .int (iI d))]) C d_M_feed_68 (by decide) rfl ?_
                                      refine z_aload_n C d_M_feed_70 2 rfl ?_
                                      refine z_get C f_M_13 d_M_feed_71 0 rfl rfl ?_
                                      refine z_aload_n C d_M_feed_74 2 rfl ?_
                                      refine z_get C f_M_59 d_M_feed_75 0 rfl rfl ?_
                                      refine z_iload C d_M_feed_78 1 rfl ?_
                                      refine z_iadd C d_M_feed_80 ?_
                                      refine z_iload C d_M_feed_81 0 rfl ?_
                                      refine z_bipush C d_M_feed_83 (by decide) ?_
                                      refine z_bipush C d_M_feed_85 (by decide) ?_
                                      refine z_iload C d_M_feed_87 1 rfl ?_
                                      refine z_iconst C d_M_feed_89 ?_
                                      refine z_irem C d_M_feed_90 (by decide) (iI 2) (by decide +kernel) ?_
                                      refine z_imul C d_M_feed_91 ?_
                                      refine z_isub C d_M_feed_92 ?_
                                      refine z_ishr C d_M_feed_93 (iI (b / 2 ^ 8)) (iI_shr b (by omega) (by decide) (by decide)) ?_
                                      refine z_sipush C d_M_feed_94 (by decide) ?_
                                      refine z_iand C d_M_feed_97 (iI (b / 2 ^ 8 % 256)) (iI_and255 _) ?_
                                      refine z_iast C d_M_feed_98 1 rfl (by omega) [(aM, .inr (8, [.ref aWc, .int (iI 0), .int (iI msz), .ref aTx, .int (iI mwr), .ref aOu, .int (iI mfa), .int (iI mpl), .int (iI mle), .int (iI mna), .ref aSo, .ref aNf, .ref aNg, .ref aSr, .ref aNu, .ref aMa, .ref aNo, .int (iI mfi), .int (iI mru), .int (iI mnv), .ref aLe, .ref aAc, .ref aDi, .ref aOr, .int (iI mki), .int (iI mfr), .int (iI mto), .int (iI mwh)])), iA G aTx 4200 (uZ (uZ (uZ (uZ (uZ (uZ (uZ tx ((msz + 0).toNat) (a / 2 ^ 24 % 256)) ((msz + 1).toNat) (a / 2 ^ 16 % 256)) ((msz + 2).toNat) (a / 2 ^ 8 % 256)) ((msz + 3).toNat) (a / 2 ^ 0 % 256)) ((msz + 4).toNat) (b / 2 ^ 24 % 256)) ((msz + 5).toNat) (b / 2 ^ 16 % 256)) ((msz + 6).toNat) (b / 2 ^ 8 % 256))] (rfl) ?_
                                      refine z_iinc (lv' := [(5, .int (iI 7)), (6, .int (iI b)), (0, .ref aM), (1, .int (iI a)), (2, .int (iI b)), (3, .int (iI c)), (4, .int (iI d))]) C d_M_feed_99 1 rfl (by decide) rfl ?_
                                      refine z_goto (tgt := 27) C d_M_feed_102 (by decide) ?_
                                      refine z_iload C d_M_feed_27 0 rfl ?_
                                      refine z_bipush C d_M_feed_29 (by decide) ?_
                                      refine z_icmp_ge (tgt := 105) C d_M_feed_31 (by decide) (by omega) (by omega) (fun c31 => ?_) (fun c31 => ?_)
                                      · exact absurd c31 (by omega)
                                      ·
                                        refine z_iload C d_M_feed_34 0 rfl ?_
                                        refine z_iconst C d_M_feed_36 ?_
                                        refine z_icmp_ge (tgt := 44) C d_M_feed_37 (by decide) (by omega) (by omega) (fun c37 => ?_) (fun c37 => ?_)
                                        ·
                                          refine z_iload C d_M_feed_44 0 rfl ?_
                                          refine z_bipush C d_M_feed_46 (by decide) ?_
                                          refine z_icmp_ge (tgt := 55) C d_M_feed_48 (by decide) (by omega) (by omega) (fun c48 => ?_) (fun c48 => ?_)
                                          · exact absurd c48 (by omega)
                                          ·
                                            refine z_iload_n C d_M_feed_51 4 rfl ?_
                                            refine z_goto (tgt := 68) C d_M_feed_52 (by decide) ?_
                                            refine z_istore (lv' := [(6, .int (iI b)), (5, .int (iI 7)), (0, .ref aM), (1, .int (iI a)), (2, .int (iI b)), (3, .int (iI c)), (4, .int (iI d))]) C d_M_feed_68 (by decide) rfl ?_
                                            refine z_aload_n C d_M_feed_70 2 rfl ?_
                                            refine z_get C f_M_13 d_M_feed_71 0 rfl rfl ?_
                                            refine z_aload_n C d_M_feed_74 2 rfl ?_
                                            refine z_get C f_M_59 d_M_feed_75 0 rfl rfl ?_
                                            refine z_iload C d_M_feed_78 1 rfl ?_
                                            refine z_iadd C d_M_feed_80 ?_
                                            refine z_iload C d_M_feed_81 0 rfl ?_
                                            refine z_bipush C d_M_feed_83 (by decide) ?_
                                            refine z_bipush C d_M_feed_85 (by decide) ?_
                                            refine z_iload C d_M_feed_87 1 rfl ?_
                                            refine z_iconst C d_M_feed_89 ?_
                                            refine z_irem C d_M_feed_90 (by decide) (iI 3) (by decide +kernel) ?_
                                            refine z_imul C d_M_feed_91 ?_
                                            refine z_isub C d_M_feed_92 ?_
                                            refine z_ishr C d_M_feed_93 (iI (b / 2 ^ 0)) (iI_shr b (by omega) (by decide) (by decide)) ?_
                                            refine z_sipush C d_M_feed_94 (by decide) ?_
                                            refine z_iand C d_M_feed_97 (iI (b / 2 ^ 0 % 256)) (iI_and255 _) ?_
                                            refine z_iast C d_M_feed_98 1 rfl (by omega) [(aM, .inr (8, [.ref aWc, .int (iI 0), .int (iI msz), .ref aTx, .int (iI mwr), .ref aOu, .int (iI mfa), .int (iI mpl), .int (iI mle), .int (iI mna), .ref aSo, .ref aNf, .ref aNg, .ref aSr, .ref aNu, .ref aMa, .ref aNo, .int (iI mfi), .int (iI mru), .int (iI mnv), .ref aLe, .ref aAc, .ref aDi, .ref aOr, .int (iI mki), .int (iI mfr), .int (iI mto), .int (iI mwh)])), iA G aTx 4200 (uZ (uZ (uZ (uZ (uZ (uZ (uZ (uZ tx ((msz + 0).toNat) (a / 2 ^ 24 % 256)) ((msz + 1).toNat) (a / 2 ^ 16 % 256)) ((msz + 2).toNat) (a / 2 ^ 8 % 256)) ((msz + 3).toNat) (a / 2 ^ 0 % 256)) ((msz + 4).toNat) (b / 2 ^ 24 % 256)) ((msz + 5).toNat) (b / 2 ^ 16 % 256)) ((msz + 6).toNat) (b / 2 ^ 8 % 256)) ((msz + 7).toNat) (b / 2 ^ 0 % 256))] (rfl) ?_
                                            refine z_iinc (lv' := [(5, .int (iI 8)), (6, .int (iI b)), (0, .ref aM), (1, .int (iI a)), (2, .int (iI b)), (3, .int (iI c)), (4, .int (iI d))]) C d_M_feed_99 1 rfl (by decide) rfl ?_
                                            refine z_goto (tgt := 27) C d_M_feed_102 (by decide) ?_
                                            refine z_iload C d_M_feed_27 0 rfl ?_
                                            refine z_bipush C d_M_feed_29 (by decide) ?_
                                            refine z_icmp_ge (tgt := 105) C d_M_feed_31 (by decide) (by omega) (by omega) (fun c31 => ?_) (fun c31 => ?_)
                                            · exact absurd c31 (by omega)
                                            ·
                                              refine z_iload C d_M_feed_34 0 rfl ?_
                                              refine z_iconst C d_M_feed_36 ?_
                                              refine z_icmp_ge (tgt := 44) C d_M_feed_37 (by decide) (by omega) (by omega) (fun c37 => ?_) (fun c37 => ?_)
                                              ·
                                                refine z_iload C d_M_feed_44 0 rfl ?_
                                                refine z_bipush C d_M_feed_46 (by decide) ?_
                                                refine z_icmp_ge (tgt := 55) C d_M_feed_48 (by decide) (by omega) (by omega) (fun c48 => ?_) (fun c48 => ?_)
                                                ·
                                                  refine z_iload C d_M_feed_55 0 rfl ?_
                                                  refine z_bipush C d_M_feed_57 (by decide) ?_
                                                  refine z_icmp_ge (tgt := 66) C d_M_feed_59 (by decide) (by omega) (by omega) (fun c59 => ?_) (fun c59 => ?_)
                                                  · exact absurd c59 (by omega)
                                                  ·
                                                    refine z_iload_n C d_M_feed_62 5 rfl ?_
                                                    refine z_goto (tgt := 68) C d_M_feed_63 (by decide) ?_
                                                    refine z_istore (lv' := [(6, .int (iI c)), (5, .int (iI 8)), (0, .ref aM), (1, .int (iI a)), (2, .int (iI b)), (3, .int (iI c)), (4, .int (iI d))]) C d_M_feed_68 (by decide) rfl ?_
                                                    refine z_aload_n C d_M_feed_70 2 rfl ?_
                                                    refine z_get C f_M_13 d_M_feed_71 0 rfl rfl ?_
                                                    refine z_aload_n C d_M_feed_74 2 rfl ?_
                                                    refine z_get C f_M_59 d_M_feed_75 0 rfl rfl ?_
                                                    refine z_iload C d_M_feed_78 1 rfl ?_
                                                    refine z_iadd C d_M_feed_80 ?_
                                                    refine z_iload C d_M_feed_81 0 rfl ?_
                                                    refine z_bipush C d_M_feed_83 (by decide) ?_
                                                    refine z_bipush C d_M_feed_85 (by decide) ?_
                                                    refine z_iload C d_M_feed_87 1 rfl ?_
                                                    refine z_iconst C d_M_feed_89 ?_
                                                    refine z_irem C d_M_feed_90 (by decide) (iI 0) (by decide +kernel) ?_
                                                    refine z_imul C d_M_feed_91 ?_
                                                    refine z_isub C d_M_feed_92 ?_
                                                    refine z_ishr C d_M_feed_93 (iI (c / 2 ^ 24)) (iI_shr c (by omega) (by decide) (by decide)) ?_
                                                    refine z_sipush C d_M_feed_94 (by decide) ?_
                                                    refine z_iand C d_M_feed_97 (iI (c / 2 ^ 24 % 256)) (iI_and255 _) ?_
                                                    refine z_iast C d_M_feed_98 1 rfl (by omega) [(aM, .inr (8, [.ref aWc, .int (iI 0), .int (iI msz), .ref aTx, .int (iI mwr), .ref aOu, .int (iI mfa), .int (iI mpl), .int (iI mle), .int (iI mna), .ref aSo, .ref aNf, .ref aNg, .ref aSr, .ref aNu, .ref aMa, .ref aNo, .int (iI mfi), .int (iI mru), .int (iI mnv), .ref aLe, .ref aAc, .ref aDi, .ref aOr, .int (iI mki), .int (iI mfr), .int (iI mto), .int (iI mwh)])), iA G aTx 4200 (uZ (uZ (uZ (uZ (uZ (uZ (uZ (uZ (uZ tx ((msz + 0).toNat) (a / 2 ^ 24 % 256)) ((msz + 1).toNat) (a / 2 ^ 16 % 256)) ((msz + 2).toNat) (a / 2 ^ 8 % 256)) ((msz + 3).toNat) (a / 2 ^ 0 % 256)) ((msz + 4).toNat) (b / 2 ^ 24 % 256)) ((msz + 5).toNat) (b / 2 ^ 16 % 256)) ((msz + 6).toNat) (b / 2 ^ 8 % 256)) ((msz + 7).toNat) (b / 2 ^ 0 % 256)) ((msz + 8).toNat) (c / 2 ^ 24 % 256))] (rfl) ?_
                                                    refine z_iinc (lv' := [(5, .int (iI 9)), (6, .int (iI c)), (0, .ref aM), (1, .int (iI a)), (2, .int (iI b)), (3, .int (iI c)), (4, .int (iI d))]) C d_M_feed_99 1 rfl (by decide) rfl ?_
                                                    refine z_goto (tgt := 27) C d_M_feed_102 (by decide) ?_
                                                    refine z_iload C d_M_feed_27 0 rfl ?_
                                                    refine z_bipush C d_M_feed_29 (by decide) ?_
                                                    refine z_icmp_ge (tgt := 105) C d_M_feed_31 (by decide) (by omega) (by omega) (fun c31 => ?_) (fun c31 => ?_)
                                                    · exact absurd c31 (by omega)
                                                    ·
                                                      refine z_iload C d_M_feed_34 0 rfl ?_
                                                      refine z_iconst C d_M_feed_36 ?_
                                                      refine z_icmp_ge (tgt := 44) C d_M_feed_37 (by decide) (by omega) (by omega) (fun c37 => ?_) (fun c37 => ?_)
                                                      ·
                                                        refine z_iload C d_M_feed_44 0 rfl ?_
                                                        refine z_bipush C d_M_feed_46 (by decide) ?_
                                                        refine z_icmp_ge (tgt := 55) C d_M_feed_48 (by decide) (by omega) (by omega) (fun c48 => ?_) (fun c48 => ?_)
                                                        ·
                                                          refine z_iload C d_M_feed_55 0 rfl ?_
                                                          refine z_bipush C d_M_feed_57 (by decide) ?_
                                                          refine z_icmp_ge (tgt := 66) C d_M_feed_59 (by decide) (by omega) (by omega) (fun c59 => ?_) (fun c59 => ?_)
                                                          · exact absurd c59 (by omega)
                                                          ·
                                                            refine z_iload_n C d_M_feed_62 5 rfl ?_
                                                            refine z_goto (tgt := 68) C d_M_feed_63 (by decide) ?_
                                                            refine z_istore (lv' := [(6, .int (iI c)), (5, .int (iI 9)), (0, .ref aM), (1, .int (iI a)), (2, .int (iI b)), (3, .int (iI c)), (4, .int (iI d))]) C d_M_feed_68 (by decide) rfl ?_
                                                            refine z_aload_n C d_M_feed_70 2 rfl ?_
                                                            refine z_get C f_M_13 d_M_feed_71 0 rfl rfl ?_
                                                            refine z_aload_n C d_M_feed_74 2 rfl ?_
                                                            refine z_get C f_M_59 d_M_feed_75 0 rfl rfl ?_
                                                            refine z_iload C d_M_feed_78 1 rfl ?_
                                                            refine z_iadd C d_M_feed_80 ?_
                                                            refine z_iload C d_M_feed_81 0 rfl ?_
                                                            refine z_bipush C d_M_feed_83 (by decide) ?_
                                                            refine z_bipush C d_M_feed_85 (by decide) ?_
                                                            refine z_iload C d_M_feed_87 1 rfl ?_
                                                            refine z_iconst C d_M_feed_89 ?_
                                                            refine z_irem C d_M_feed_90 (by decide) (iI 1) (by decide +kernel) ?_
                                                            refine z_imul C d_M_feed_91 ?_
                                                            refine z_isub C d_M_feed_92 ?_
                                                            refine z_ishr C d_M_feed_93 (iI (c / 2 ^ 16)) (iI_shr c (by omega) (by decide) (by decide)) ?_
                                                            refine z_sipush C d_M_feed_94 (by decide) ?_
                                                            refine z_iand C d_M_feed_97 (iI (c / 2 ^ 16 % 256)) (iI_and255 _) ?_
                                                            refine z_iast C d_M_feed_98 1 rfl (by omega) [(aM, .inr (8, [.ref aWc, .int (iI 0), .int (iI msz), .ref aTx, .int (iI mwr), .ref aOu, .int (iI mfa), .int (iI mpl), .int (iI mle), .int (iI mna), .ref aSo, .ref aNf, .ref aNg, .ref aSr, .ref aNu, .ref aMa, .ref aNo, .int (iI mfi), .int (iI mru), .int (iI mnv), .ref aLe, .ref aAc, .ref aDi, .ref aOr, .int (iI mki), .int (iI mfr), .int (iI mto), .int (iI mwh)])), iA G aTx 4200 (uZ (uZ (uZ (uZ (uZ (uZ (uZ (uZ (uZ (uZ tx ((msz + 0).toNat) (a / 2 ^ 24 % 256)) ((msz + 1).toNat) (a / 2 ^ 16 % 256)) ((msz + 2).toNat) (a / 2 ^ 8 % 256)) ((msz + 3).toNat) (a / 2 ^ 0 % 256)) ((msz + 4).toNat) (b / 2 ^ 24 % 256)) ((msz + 5).toNat) (b / 2 ^ 16 % 256)) ((msz + 6).toNat) (b / 2 ^ 8 % 256)) ((msz + 7).toNat) (b / 2 ^ 0 % 256)) ((msz + 8).toNat) (c / 2 ^ 24 % 256)) ((msz + 9).toNat) (c / 2 ^ 16 % 256))] (rfl) ?_
                                                            refine z_iinc (lv' := [(5, .int (iI 10)), (6, .int (iI c)), (0, .ref aM), (1, .int (iI a)), (2, .int (iI b)), (3, .int (iI c)), (4, .int (iI d))]) C d_M_feed_99 1 rfl (by decide) rfl ?_
                                                            refine z_goto (tgt := 27) C d_M_feed_102 (by decide) ?_
                                                            refine z_iload C d_M_feed_27 0 rfl ?_
                                                            refine z_bipush C d_M_feed_29 (by decide) ?_
                                                            refine z_icmp_ge (tgt := 105) C d_M_feed_31 (by decide) (by omega) (by omega) (fun c31 => ?_) (fun c31 => ?_)
                                                            · exact absurd c31 (by omega)
                                                            ·
                                                              refine z_iload C d_M_feed_34 0 rfl ?_
                                                              refine z_iconst C d_M_feed_36 ?_
                                                              refine z_icmp_ge (tgt := 44) C d_M_feed_37 (by decide) (by omega) (by omega) (fun c37 => ?_) (fun c37 => ?_)
                                                              ·
                                                                refine z_iload C d_M_feed_44 0 rfl ?_
                                                                refine z_bipush C d_M_feed_46 (by decide) ?_
                                                                refine z_icmp_ge (tgt := 55) C d_M_feed_48 (by decide) (by omega) (by omega) (fun c48 => ?_) (fun c48 => ?_)
                                                                ·
                                                                  refine z_iload C d_M_feed_55 0 rfl ?_
                                                                  refine z_bipush C d_M_feed_57 (by decide) ?_
                                                                  refine z_icmp_ge (tgt := 66) C d_M_feed_59 (by decide) (by omega) (by omega) (fun c59 => ?_) (fun c59 => ?_)
                                                                  · exact absurd c59 (by omega)
                                                                  ·
                                                                    refine z_iload_n C d_M_feed_62 5 rfl ?_
                                                                    refine z_goto (tgt := 68) C d_M_feed_63 (by decide) ?_
                                                                    refine z_istore (lv' := [(6, .int (iI c)), (5, .int (iI 10)), (0, .ref aM), (1, .int (iI a)), (2, .int (iI b)), (3, .int (iI c)), (4, .int (iI d))]) C d_M_feed_68 (by decide) rfl ?_
                                                                    refine z_aload_n C d_M_feed_70 2 rfl ?_
                                                                    refine z_get C f_M_13 d_M_feed_71 0 rfl rfl ?_
                                                                    refine z_aload_n C d_M_feed_74 2 rfl ?_
                                                                    refine z_get C f_M_59 d_M_feed_75 0 rfl rfl ?_
                                                                    refine z_iload C d_M_feed_78 1 rfl ?_
                                                                    refine z_iadd C d_M_feed_80 ?_
                                                                    refine z_iload C d_M_feed_81 0 rfl ?_
                                                                    refine z_bipush C d_M_feed_83 (by decide) ?_
                                                                    refine z_bipush C d_M_feed_85 (by decide) ?_
                                                                    refine z_iload C d_M_feed_87 1 rfl ?_
                                                                    refine z_iconst C d_M_feed_89 ?_
                                                                    refine z_irem C d_M_feed_90 (by decide) (iI 2) (by decide +kernel) ?_
                                                                    refine z_imul C d_M_feed_91 ?_
                                                                    refine z_isub C d_M_feed_92 ?_
                                                                    refine z_ishr C d_M_feed_93 (iI (c / 2 ^ 8)) (iI_shr c (by omega) (by decide) (by decide)) ?_
                                                                    refine z_sipush C d_M_feed_94 (by decide) ?_
                                                                    refine z_iand C d_M_feed_97 (iI (c / 2 ^ 8 % 256)) (iI_and255 _) ?_
                                                                    refine z_iast C d_M_feed_98 1 rfl (by omega) [(aM, .inr (8, [.ref aWc, .int (iI 0), .int (iI msz), .ref aTx, .int (iI mwr), .ref aOu, .int (iI mfa), .int (iI mpl), .int (iI mle), .int (iI mna), .ref aSo, .ref aNf, .ref aNg, .ref aSr, .ref aNu, .ref aMa, .ref aNo, .int (iI mfi), .int (iI mru), .int (iI mnv), .ref aLe, .ref aAc, .ref aDi, .ref aOr, .int (iI mki), .int (iI mfr), .int (iI mto), .int (iI mwh)])), iA G aTx 4200 (uZ (uZ (uZ (uZ (uZ (uZ (uZ (uZ (uZ (uZ (uZ tx ((msz + 0).toNat) (a / 2 ^ 24 % 256)) ((msz + 1).toNat) (a / 2 ^ 16 % 256)) ((msz + 2).toNat) (a / 2 ^ 8 % 256)) ((msz + 3).toNat) (a / 2 ^ 0 % 256)) ((msz + 4).toNat) (b / 2 ^ 24 % 256)) ((msz + 5).toNat) (b / 2 ^ 16 % 256)) ((msz + 6).toNat) (b / 2 ^ 8 % 256)) ((msz + 7).toNat) (b / 2 ^ 0 % 256)) ((msz + 8).toNat) (c / 2 ^ 24 % 256)) ((msz + 9).toNat) (c / 2 ^ 16 % 256)) ((msz + 10).toNat) (c / 2 ^ 8 % 256))] (rfl) ?_
                                                                    refine z_iinc (lv' := [(5, .int (iI 11)), (6, .int (iI c)), (0, .ref aM), (1, .int (iI a)), (2, .int (iI b)), (3, .int (iI c)), (4, .int (iI d))]) C d_M_feed_99 1 rfl (by decide) rfl ?_
                                                                    refine z_goto (tgt := 27) C d_M_feed_102 (by decide) ?_
                                                                    refine z_iload C d_M_feed_27 0 rfl ?_
                                                                    refine z_bipush C d_M_feed_29 (by decide) ?_
                                                                    refine z_icmp_ge (tgt := 105) C d_M_feed_31 (by decide) (by omega) (by omega) (fun c31 => ?_) (fun c31 => ?_)
                                                                    · exact absurd c31 (by omega)
                                                                    ·
                                                                      refine z_iload C d_M_feed_34 0 rfl ?_
                                                                      refine z_iconst C d_M_feed_36 ?_
                                                                      refine z_icmp_ge (tgt := 44) C d_M_feed_37 (by decide) (by omega) (by omega) (fun c37 => ?_) (fun c37 => ?_)
                                                                      ·
                                                                        refine z_iload C d_M_feed_44 0 rfl ?_
                                                                        refine z_bipush C d_M_feed_46 (by decide) ?_
                                                                        refine z_icmp_ge (tgt := 55) C d_M_feed_48 (by decide) (by omega) (by omega) (fun c48 => ?_) (fun c48 => ?_)
                                                                        ·
                                                                          refine z_iload C d_M_feed_55 0 rfl ?_
                                                                          refine z_bipush C d_M_feed_57 (by decide) ?_
                                                                          refine z_icmp_ge (tgt := 66) C d_M_feed_59 (by decide) (by omega) (by omega) (fun c59 => ?_) (fun c59 => ?_)
                                                                          · exact absurd c59 (by omega)
                                                                          ·
                                                                            refine z_iload_n C d_M_feed_62 5 rfl ?_
                                                                            refine z_goto (tgt := 68) C d_M_feed_63 (by decide) ?_
                                                                            refine z_istore (lv' := [(6, .int (iI c)), (5, .int (iI 11)), (0, .ref aM), (1, .int (iI a)), (2, .int (iI b)), (3, .int (iI c)), (4, .int (iI d))]) C d_M_feed_68 (by decide) rfl ?_
                                                                            refine z_aload_n C d_M_feed_70 2 rfl ?_
                                                                            refine z_get C f_M_13 d_M_feed_71 0 rfl rfl ?_
                                                                            refine z_aload_n C d_M_feed_74 2 rfl ?_
                                                                            refine z_get C f_M_59 d_M_feed_75 0 rfl rfl ?_
                                                                            refine z_iload C d_M_feed_78 1 rfl ?_
                                                                            refine z_iadd C d_M_feed_80 ?_
                                                                            refine z_iload C d_M_feed_81 0 rfl ?_
                                                                            refine z_bipush C d_M_feed_83 (by decide) ?_
                                                                            refine z_bipush C d_M_feed_85 (by decide) ?_
                                                                            refine z_iload C d_M_feed_87 1 rfl ?_
                                                                            refine z_iconst C d_M_feed_89 ?_
                                                                            refine z_irem C d_M_feed_90 (by decide) (iI 3) (by decide +kernel) ?_
                                                                            refine z_imul C d_M_feed_91 ?_
                                                                            refine z_isub C d_M_feed_92 ?_
                                                                            refine z_ishr C d_M_feed_93 (iI (c / 2 ^ 0)) (iI_shr c (by omega) (by decide) (by decide)) ?_
                                                                            refine z_sipush C d_M_feed_94 (by decide) ?_
                                                                            refine z_iand C d_M_feed_97 (iI (c / 2 ^ 0 % 256)) (iI_and255 _) ?_
                                                                            refine z_iast C d_M_feed_98 1 rfl (by omega) [(aM, .inr (8, [.ref aWc, .int (iI 0), .int (iI msz), .ref aTx, .int (iI mwr), .ref aOu, .int (iI mfa), .int (iI mpl), .int (iI mle), .int (iI mna), .ref aSo, .ref aNf, .ref aNg, .ref aSr, .ref aNu, .ref aMa, .ref aNo, .int (iI mfi), .int (iI mru), .int (iI mnv), .ref aLe, .ref aAc, .ref aDi, .ref aOr, .int (iI mki), .int (iI mfr), .int (iI mto), .int (iI mwh)])), iA G aTx 4200 (uZ (uZ (uZ (uZ (uZ (uZ (uZ (uZ (uZ (uZ (uZ (uZ tx ((msz + 0).toNat) (a / 2 ^ 24 % 256)) ((msz + 1).toNat) (a / 2 ^ 16 % 256)) ((msz + 2).toNat) (a / 2 ^ 8 % 256)) ((msz + 3).toNat) (a / 2 ^ 0 % 256)) ((msz + 4).toNat) (b / 2 ^ 24 % 256)) ((msz + 5).toNat) (b / 2 ^ 16 % 256)) ((msz + 6).toNat) (b / 2 ^ 8 % 256)) ((msz + 7).toNat) (b / 2 ^ 0 % 256)) ((msz + 8).toNat) (c / 2 ^ 24 % 256)) ((msz + 9).toNat) (c / 2 ^ 16 % 256)) ((msz + 10).toNat) (c / 2 ^ 8 % 256)) ((msz + 11).toNat) (c / 2 ^ 0 % 256))] (rfl) ?_
                                                                            refine z_iinc (lv' := [(5, .int (iI 12)), (6, .int (iI c)), (0, .ref aM), (1, .int (iI a)), (2, .int (iI b)), (3, .int (iI c)), (4, .int (iI d))]) C d_M_feed_99 1 rfl (by decide) rfl ?_
                                                                            refine z_goto (tgt := 27) C d_M_feed_102 (by decide) ?_
                                                                            refine z_iload C d_M_feed_27 0 rfl ?_
                                                                            refine z_bipush C d_M_feed_29 (by decide) ?_
                                                                            refine z_icmp_ge (tgt := 105) C d_M_feed_31 (by decide) (by omega) (by omega) (fun c31 => ?_) (fun c31 => ?_)
                                                                            · exact absurd c31 (by omega)
                                                                            ·
                                                                              refine z_iload C d_M_feed_34 0 rfl ?_
                                                                              refine z_iconst C d_M_feed_36 ?_
                                                                              refine z_icmp_ge (tgt := 44) C d_M_feed_37 (by decide) (by omega) (by omega) (fun c37 => ?_) (fun c37 => ?_)
                                                                              ·
                                                                                refine z_iload C d_M_feed_44 0 rfl ?_
                                                                                refine z_bipush C d_M_feed_46 (by decide) ?_
                                                                                refine z_icmp_ge (tgt := 55) C d_M_feed_48 (by decide) (by omega) (by omega) (fun c48 => ?_) (fun c48 => ?_)
                                                                                ·
                                                                                  refine z_iload C d_M_feed_55 0 rfl ?_
                                                                                  refine z_bipush C d_M_feed_57 (by decide) ?_
                                                                                  refine z_icmp_ge (tgt := 66) C d_M_feed_59 (by decide) (by omega) (by omega) (fun c59 => ?_) (fun c59 => ?_)
                                                                                  ·
                                                                                    refine z_iload C d_M_feed_66 6 rfl ?_
                                                                                    refine z_istore (lv' := [(6, .int (iI d)), (5, .int (iI 12)), (0, .ref aM), (1, .int (iI a)), (2, .int (iI b)), (3, .int (iI c)), (4, .int (iI d))]) C d_M_feed_68 (by decide) rfl ?_
                                                                                    refine z_aload_n C d_M_feed_70 2 rfl ?_
                                                                                    refine z_get C f_M_13 d_M_feed_71 0 rfl rfl ?_
                                                                                    refine z_aload_n C d_M_feed_74 2 rfl ?_
                                                                                    refine z_get C f_M_59 d_M_feed_75 0 rfl rfl ?_
                                                                                    refine z_iload C d_M_feed_78 1 rfl ?_
                                                                                    refine z_iadd C d_M_feed_80 ?_
                                                                                    refine z_iload C d_M_feed_81 0 rfl ?_
                                                                                    refine z_bipush C d_M_feed_83 (by decide) ?_
                                                                                    refine z_bipush C d_M_feed_85 (by decide) ?_
                                                                                    refine z_iload C d_M_feed_87 1 rfl ?_
                                                                                    refine z_iconst C d_M_feed_89 ?_
                                                                                    refine z_irem C d_M_feed_90 (by decide) (iI 0) (by decide +kernel) ?_
                                                                                    refine z_imul C d_M_feed_91 ?_
                                                                                    refine z_isub C d_M_feed_92 ?_
                                                                                    refine z_ishr C d_M_feed_93 (iI (d / 2 ^ 24)) (iI_shr d (by omega) (by decide) (by decide)) ?_
                                                                                    refine z_sipush C d_M_feed_94 (by decide) ?_
                                                                                    refine z_iand C d_M_feed_97 (iI (d / 2 ^ 24 % 256)) (iI_and255 _) ?_
                                                                                    refine z_iast C d_M_feed_98 1 rfl (by omega) [(aM, .inr (8, [.ref aWc, .int (iI 0), .int (iI msz), .ref aTx, .int (iI mwr), .ref aOu, .int (iI mfa), .int (iI mpl), .int (iI mle), .int (iI mna), .ref aSo, .ref aNf, .ref aNg, .ref aSr, .ref aNu, .ref aMa, .ref aNo, .int (iI mfi), .int (iI mru), .int (iI mnv), .ref aLe, .ref aAc, .ref aDi, .ref aOr, .int (iI mki), .int (iI mfr), .int (iI mto), .int (iI mwh)])), iA G aTx 4200 (uZ (uZ (uZ (uZ (uZ (uZ (uZ (uZ (uZ (uZ (uZ (uZ (uZ tx ((msz + 0).toNat) (a / 2 ^ 24 % 256)) ((msz + 1).toNat) (a / 2 ^ 16 % 256)) ((msz + 2).toNat) (a / 2 ^ 8 % 256)) ((msz + 3).toNat) (a / 2 ^ 0 % 256)) ((msz + 4).toNat) (b / 2 ^ 24 % 256)) ((msz + 5).toNat) (b / 2 ^ 16 % 256)) ((msz + 6).toNat) (b / 2 ^ 8 % 256)) ((msz + 7).toNat) (b / 2 ^ 0 % 256)) ((msz + 8).toNat) (c / 2 ^ 24 % 256)) ((msz + 9).toNat) (c / 2 ^ 16 % 256)) ((msz + 10).toNat) (c / 2 ^ 8 % 256)) ((msz + 11).toNat) (c / 2 ^ 0 % 256)) ((msz + 12).toNat) (d / 2 ^ 24 % 256))] (rfl) ?_
                                                                                    refine z_iinc (lv' := [(5, .int (iI 13)), (6, .int (iI d)), (0, .ref aM), (1, .int (iI a)), (2, .int (iI b)), (3, .int (iI c)), (4, .int (iI d))]) C d_M_feed_99 1 rfl (by decide) rfl ?_
                                                                                    refine z_goto (tgt := 27) C d_M_feed_102 (by decide) ?_
                                                                                    refine z_iload C d_M_feed_27 0 rfl ?_
                                                                                    refine z_bipush C d_M_feed_29 (by decide) ?_
                                                                                    refine z_icmp_ge (tgt := 105) C d_M_feed_31 (by decide) (by omega) (by omega) (fun c31 => ?_) (fun c31 => ?_)
                                                                                    · exact absurd c31 (by omega)
                                                                                    ·
                                                                                      refine z_iload C d_M_feed_34 0 rfl ?_
                                                                                      refine z_iconst C d_M_feed_36 ?_
                                                                                      refine z_icmp_ge (tgt := 44) C d_M_feed_37 (by decide) (by omega) (by omega) (fun c37 => ?_) (fun c37 => ?_)
                                                                                      ·
                                                                                        refine z_iload C d_M_feed_44 0 rfl ?_
                                                                                        refine z_bipush C d_M_feed_46 (by decide) ?_
                                                                                        refine z_icmp_ge (tgt := 55) C d_M_feed_48 (by decide) (by omega) (by omega) (fun c48 => ?_) (fun c48 => ?_)
                                                                                        ·
                                                                                          refine z_iload C d_M_feed_55 0 rfl ?_
                                                                                          refine z_bipush C d_M_feed_57 (by decide) ?_
                                                                                          refine z_icmp_ge (tgt := 66) C d_M_feed_59 (by decide) (by omega) (by omega) (fun c59 => ?_) (fun c59 => ?_)
                                                                                          ·
                                                                                            refine z_iload C d_M_feed_66 6 rfl ?_
                                                                                            refine z_istore (lv' := [(6, .int (iI d)), (5, .int (iI 13)), (0, .ref aM), (1, .int (iI a)), (2, .int (iI b)), (3, .int (iI c)), (4, .int (iI d))]) C d_M_feed_68 (by decide) rfl ?_
                                                                                            refine z_aload_n C d_M_feed_70 2 rfl ?_
                                                                                            refine z_get C f_M_13 d_M_feed_71 0 rfl rfl ?_
                                                                                            refine z_aload_n C d_M_feed_74 2 rfl ?_
                                                                                            refine z_get C f_M_59 d_M_feed_75 0 rfl rfl ?_
                                                                                            refine z_iload C d_M_feed_78 1 rfl ?_
                                                                                            refine z_iadd C d_M_feed_80 ?_
                                                                                            refine z_iload C d_M_feed_81 0 rfl ?_
                                                                                            refine z_bipush C d_M_feed_83 (by decide) ?_
                                                                                            refine z_bipush C d_M_feed_85 (by decide) ?_
                                                                                            refine z_iload C d_M_feed_87 1 rfl ?_
                                                                                            refine z_iconst C d_M_feed_89 ?_
                                                                                            refine z_irem C d_M_feed_90 (by decide) (iI 1) (by decide +kernel) ?_
                                                                                            refine z_imul C d_M_feed_91 ?_
                                                                                            refine z_isub C d_M_feed_92 ?_
                                                                                            refine z_ishr C d_M_feed_93 (iI (d / 2 ^ 16)) (iI_shr d (by omega) (by decide) (by decide)) ?_
                                                                                            refine z_sipush C d_M_feed_94 (by decide) ?_
                                                                                            refine z_iand C d_M_feed_97 (iI (d / 2 ^ 16 % 256)) (iI_and255 _) ?_
                                                                                            refine z_iast C d_M_feed_98 1 rfl (by omega) [(aM, .inr (8, [.ref aWc, .int (iI 0), .int (iI msz), .ref aTx, .int (iI mwr), .ref aOu, .int (iI mfa), .int (iI mpl), .int (iI mle), .int (iI mna), .ref aSo, .ref aNf, .ref aNg, .ref aSr, .ref aNu, .ref aMa, .ref aNo, .int (iI mfi), .int (iI mru), .int (iI mnv), .ref aLe, .ref aAc, .ref aDi, .ref aOr, .int (iI mki), .int (iI mfr), .int (iI mto), .int (iI mwh)])), iA G aTx 4200 (uZ (uZ (uZ (uZ (uZ (uZ (uZ (uZ (uZ (uZ (uZ (uZ (uZ (uZ tx ((msz + 0).toNat) (a / 2 ^ 24 % 256)) ((msz + 1).toNat) (a / 2 ^ 16 % 256)) ((msz + 2).toNat) (a / 2 ^ 8 % 256)) ((msz + 3).toNat) (a / 2 ^ 0 % 256)) ((msz + 4).toNat) (b / 2 ^ 24 % 256)) ((msz + 5).toNat) (b / 2 ^ 16 % 256)) ((msz + 6).toNat) (b / 2 ^ 8 % 256)) ((msz + 7).toNat) (b / 2 ^ 0 % 256)) ((msz + 8).toNat) (c / 2 ^ 24 % 256)) ((msz + 9).toNat) (c / 2 ^ 16 % 256)) ((msz + 10).toNat) (c / 2 ^ 8 % 256)) ((msz + 11).toNat) (c / 2 ^ 0 % 256)) ((msz + 12).toNat) (d / 2 ^ 24 % 256)) ((msz + 13).toNat) (d / 2 ^ 16 % 256))] (rfl) ?_
                                                                                            refine z_iinc (lv' := [(5, .int (iI 14)), (6, .int (iI d)), (0, .ref aM), (1, .int (iI a)), (2, .int (iI b)), (3, .int (iI c)), (4, .int (iI d))]) C d_M_feed_99 1 rfl (by decide) rfl ?_
                                                                                            refine z_goto (tgt := 27) C d_M_feed_102 (by decide) ?_
                                                                                            refine z_iload C d_M_feed_27 0 rfl ?_
                                                                                            refine z_bipush C d_M_feed_29 (by decide) ?_
                                                                                            refine z_icmp_ge (tgt := 105) C d_M_feed_31 (by decide) (by omega) (by omega) (fun c31 => ?_) (fun c31 => ?_)
                                                                                            · exact absurd c31 (by omega)
                                                                                            ·
                                                                                              refine z_iload C d_M_feed_34 0 rfl ?_
                                                                                              refine z_iconst C d_M_feed_36 ?_
                                                                                              refine z_icmp_ge (tgt := 44) C d_M_feed_37 (by decide) (by omega) (by omega) (fun c37 => ?_) (fun c37 => ?_)
                                                                                              ·
                                                                                                refine z_iload C d_M_feed_44 0 rfl ?_
                                                                                                refine z_bipush C d_M_feed_46 (by decide) ?_
                                                                                                refine z_icmp_ge (tgt := 55) C d_M_feed_48 (by decide) (by omega) (by omega) (fun c48 => ?_) (fun c48 => ?_)
                                                                                                ·
                                                                                                  refine z_iload C d_M_feed_55 0 rfl ?_
                                                                                                  refine z_bipush C d_M_feed_57 (by decide) ?_
                                                                                                  refine z_icmp_ge (tgt := 66) C d_M_feed_59 (by decide) (by omega) (by omega) (fun c59 => ?_) (fun c59 => ?_)
                                                                                                  ·
                                                                                                    refine z_iload C d_M_feed_66 6 rfl ?_
                                                                                                    refine z_istore (lv' := [(6, .int (iI d)), (5, .int (iI 14)), (0, .ref aM), (1, .int (iI a)), (2, .int (iI b)), (3, .int (iI c)), (4, .int (iI d))]) C d_M_feed_68 (by decide) rfl ?_
                                                                                                    refine z_aload_n C d_M_feed_70 2 rfl ?_
                                                                                                    refine z_get C f_M_13 d_M_feed_71 0 rfl rfl ?_
                                                                                                    refine z_aload_n C d_M_feed_74 2 rfl ?_
                                                                                                    refine z_get C f_M_59 d_M_feed_75 0 rfl rfl ?_
                                                                                                    refine z_iload C d_M_feed_78 1 rfl ?_
                                                                                                    refine z_iadd C d_M_feed_80 ?_
                                                                                                    refine z_iload C d_M_feed_81 0 rfl ?_
                                                                                                    refine z_bipush C d_M_feed_83 (by decide) ?_
                                                                                                    refine z_bipush C d_M_feed_85 (by decide) ?_
                                                                                                    refine z_iload C d_M_feed_87 1 rfl ?_
                                                                                                    refine z_iconst C d_M_feed_89 ?_
                                                                                                    refine z_irem C d_M_feed_90 (by decide) (iI 2) (by decide +kernel) ?_
                                                                                                    refine z_imul C d_M_feed_91 ?_
                                                                                                    refine z_isub C d_M_feed_92 ?_
                                                                                                    refine z_ishr C d_M_feed_93 (iI (d / 2 ^ 8)) (iI_shr d (by omega) (by decide) (by decide)) ?_
                                                                                                    refine z_sipush C d_M_feed_94 (by decide) ?_
                                                                                                    refine z_iand C d_M_feed_97 (iI (d / 2 ^ 8 % 256)) (iI_and255 _) ?_
                                                                                                    refine z_iast C d_M_feed_98 1 rfl (by omega) [(aM, .inr (8, [.ref aWc, .int (iI 0), .int (iI msz), .ref aTx, .int (iI mwr), .ref aOu, .int (iI mfa), .int (iI mpl), .int (iI mle), .int (iI mna), .ref aSo, .ref aNf, .ref aNg, .ref aSr, .ref aNu, .ref aMa, .ref aNo, .int (iI mfi), .int (iI mru), .int (iI mnv), .ref aLe, .ref aAc, .ref aDi, .ref aOr, .int (iI mki), .int (iI mfr), .int (iI mto), .int (iI mwh)])), iA G aTx 4200 (uZ (uZ (uZ (uZ (uZ (uZ (uZ (uZ (uZ (uZ (uZ (uZ (uZ (uZ (uZ tx ((msz + 0).toNat) (a / 2 ^ 24 % 256)) ((msz + 1).toNat) (a / 2 ^ 16 % 256)) ((msz + 2).toNat) (a / 2 ^ 8 % 256)) ((msz + 3).toNat) (a / 2 ^ 0 % 256)) ((msz + 4).toNat) (b / 2 ^ 24 % 256)) ((msz + 5).toNat) (b / 2 ^ 16 % 256)) ((msz + 6).toNat) (b / 2 ^ 8 % 256)) ((msz + 7).toNat) (b / 2 ^ 0 % 256)) ((msz + 8).toNat) (c / 2 ^ 24 % 256)) ((msz + 9).toNat) (c / 2 ^ 16 % 256)) ((msz + 10).toNat) (c / 2 ^ 8 % 256)) ((msz + 11).toNat) (c / 2 ^ 0 % 256)) ((msz + 12).toNat) (d / 2 ^ 24 % 256)) ((msz + 13).toNat) (d / 2 ^ 16 % 256)) ((msz + 14).toNat) (d / 2 ^ 8 % 256))] (rfl) ?_
                                                                                                    refine z_iinc (lv' := [(5, .int (iI 15)), (6, .int (iI d)), (0, .ref aM), (1, .int (iI a)), (2, .int (iI b)), (3, .int (iI c)), (4, .int (iI d))]) C d_M_feed_99 1 rfl (by decide) rfl ?_
                                                                                                    refine z_goto (tgt := 27) C d_M_feed_102 (by decide) ?_
                                                                                                    refine z_iload C d_M_feed_27 0 rfl ?_
                                                                                                    refine z_bipush C d_M_feed_29 (by decide) ?_
                                                                                                    refine z_icmp_ge (tgt := 105) C d_M_feed_31 (by decide) (by omega) (by omega) (fun c31 => ?_) (fun c31 => ?_)
                                                                                                    · exact absurd c31 (by omega)
                                                                                                    ·
                                                                                                      refine z_iload C d_M_feed_34 0 rfl ?_
                                                                                                      refine z_iconst C d_M_feed_36 ?_
                                                                                                      refine z_icmp_ge (tgt := 44) C d_M_feed_37 (by decide) (by omega) (by omega) (fun c37 => ?_) (fun c37 => ?_)
                                                                                                      ·
                                                                                                        refine z_iload C d_M_feed_44 0 rfl ?_
                                                                                                        refine z_bipush C d_M_feed_46 (by decide) ?_
                                                                                                        refine z_icmp_ge (tgt := 55) C d_M_feed_48 (by decide) (by omega) (by omega) (fun c48 => ?_) (fun c48 => ?_)
                                                                                                        ·
                                                                                                          refine z_iload C d_M_feed_55 0 rfl ?_
                                                                                                          refine z_bipush C d_M_feed_57 (by decide) ?_
                                                                                                          refine z_icmp_ge (tgt := 66) C d_M_feed_59 (by decide) (by omega) (by omega) (fun c59 => ?_) (fun c59 => ?_)
                                                                                                          ·
                                                                                                            refine z_iload C d_M_feed_66 6 rfl ?_
                                                                                                            refine z_istore (lv' := [(6, .int (iI d)), (5, .int (iI 15)), (0, .ref aM), (1, .int (iI a)), (2, .int (iI b)), (3, .int (iI c)), (4, .int (iI d))]) C d_M_feed_68 (by decide) rfl ?_
                                                                                                            refine z_aload_n C d_M_feed_70 2 rfl ?_
                                                                                                            refine z_get C f_M_13 d_M_feed_71 0 rfl rfl ?_
                                                                                                            refine z_aload_n C d_M_feed_74 2 rfl ?_
                                                                                                            refine z_get C f_M_59 d_M_feed_75 0 rfl rfl ?_
                                                                                                            refine z_iload C d_M_feed_78 1 rfl ?_
                                                                                                            refine z_iadd C d_M_feed_80 ?_
                                                                                                            refine z_iload C d_M_feed_81 0 rfl ?_
                                                                                                            refine z_bipush C d_M_feed_83 (by decide) ?_
                                                                                                            refine z_bipush C d_M_feed_85 (by decide) ?_
                                                                                                            refine z_iload C d_M_feed_87 1 rfl ?_
                                                                                                            refine z_iconst C d_M_feed_89 ?_
                                                                                                            refine z_irem C d_M_feed_90 (by decide) (iI 3) (by decide +kernel) ?_
                                                                                                            refine z_imul C d_M_feed_91 ?_
                                                                                                            refine z_isub C d_M_feed_92 ?_
                                                                                                            refine z_ishr C d_M_feed_93 (iI (d / 2 ^ 0)) (iI_shr d (by omega) (by decide) (by decide)) ?_
                                                                                                            refine z_sipush C d_M_feed_94 (by decide) ?_
                                                                                                            refine z_iand C d_M_feed_97 (iI (d / 2 ^ 0 % 256)) (iI_and255 _) ?_
                                                                                                            refine z_iast C d_M_feed_98 1 rfl (by omega) [(aM, .inr (8, [.ref aWc, .int (iI 0), .int (iI msz), .ref aTx, .int (iI mwr), .ref aOu, .int (iI mfa), .int (iI mpl), .int (iI mle), .int (iI mna), .ref aSo, .ref aNf, .ref aNg, .ref aSr, .ref aNu, .ref aMa, .ref aNo, .int (iI mfi), .int (iI mru), .int (iI mnv), .ref aLe, .ref aAc, .ref aDi, .ref aOr, .int (iI mki), .int (iI mfr), .int (iI mto), .int (iI mwh)])), iA G aTx 4200 (uZ (uZ (uZ (uZ (uZ (uZ (uZ (uZ (uZ (uZ (uZ (uZ (uZ (uZ (uZ (uZ tx ((msz + 0).toNat) (a / 2 ^ 24 % 256)) ((msz + 1).toNat) (a / 2 ^ 16 % 256)) ((msz + 2).toNat) (a / 2 ^ 8 % 256)) ((msz + 3).toNat) (a / 2 ^ 0 % 256)) ((msz + 4).toNat) (b / 2 ^ 24 % 256)) ((msz + 5).toNat) (b / 2 ^ 16 % 256)) ((msz + 6).toNat) (b / 2 ^ 8 % 256)) ((msz + 7).toNat) (b / 2 ^ 0 % 256)) ((msz + 8).toNat) (c / 2 ^ 24 % 256)) ((msz + 9).toNat) (c / 2 ^ 16 % 256)) ((msz + 10).toNat) (c / 2 ^ 8 % 256)) ((msz + 11).toNat) (c / 2 ^ 0 % 256)) ((msz + 12).toNat) (d / 2 ^ 24 % 256)) ((msz + 13).toNat) (d / 2 ^ 16 % 256)) ((msz + 14).toNat) (d / 2 ^ 8 % 256)) ((msz + 15).toNat) (d / 2 ^ 0 % 256))] (rfl) ?_
                                                                                                            refine z_iinc (lv' := [(5, .int (iI 16)), (6, .int (iI d)), (0, .ref aM), (1, .int (iI a)), (2, .int (iI b)), (3, .int (iI c)), (4, .int (iI d))]) C d_M_feed_99 1 rfl (by decide) rfl ?_
                                                                                                            refine z_goto (tgt := 27) C d_M_feed_102 (by decide) ?_
                                                                                                            refine z_iload C d_M_feed_27 0 rfl ?_
                                                                                                            refine z_bipush C d_M_feed_29 (by decide) ?_
                                                                                                            refine z_icmp_ge (tgt := 105) C d_M_feed_31 (by decide) (by omega) (by omega) (fun c31 => ?_) (fun c31 => ?_)
                                                                                                            ·
                                                                                                              refine z_aload_n C d_M_feed_105 2 rfl ?_
                                                                                                              refine z_dup C d_M_feed_106 rfl ?_
                                                                                                              refine z_get C f_M_59 d_M_feed_107 0 rfl rfl ?_
                                                                                                              refine z_bipush C d_M_feed_110 (by decide) ?_
                                                                                                              refine z_iadd C d_M_feed_112 ?_
                                                                                                              refine z_put C f_M_59 ok_M nm_M d_M_feed_113 0 rfl rfl rfl rfl (Nat.le_of_ble_eq_true rfl) [(aM, .inr (8, [.ref aWc, .int (iI 0), .int (iI (msz + 16)), .ref aTx, .int (iI mwr), .ref aOu, .int (iI mfa), .int (iI mpl), .int (iI mle), .int (iI mna), .ref aSo, .ref aNf, .ref aNg, .ref aSr, .ref aNu, .ref aMa, .ref aNo, .int (iI mfi), .int (iI mru), .int (iI mnv), .ref aLe, .ref aAc, .ref aDi, .ref aOr, .int (iI mki), .int (iI mfr), .int (iI mto), .int (iI mwh)])), iA G aTx 4200 (uZ (uZ (uZ (uZ (uZ (uZ (uZ (uZ (uZ (uZ (uZ (uZ (uZ (uZ (uZ (uZ tx ((msz + 0).toNat) (a / 2 ^ 24 % 256)) ((msz + 1).toNat) (a / 2 ^ 16 % 256)) ((msz + 2).toNat) (a / 2 ^ 8 % 256)) ((msz + 3).toNat) (a / 2 ^ 0 % 256)) ((msz + 4).toNat) (b / 2 ^ 24 % 256)) ((msz + 5).toNat) (b / 2 ^ 16 % 256)) ((msz + 6).toNat) (b / 2 ^ 8 % 256)) ((msz + 7).toNat) (b / 2 ^ 0 % 256)) ((msz + 8).toNat) (c / 2 ^ 24 % 256)) ((msz + 9).toNat) (c / 2 ^ 16 % 256)) ((msz + 10).toNat) (c / 2 ^ 8 % 256)) ((msz + 11).toNat) (c / 2 ^ 0 % 256)) ((msz + 12).toNat) (d / 2 ^ 24 % 256)) ((msz + 13).toNat) (d / 2 ^ 16 % 256)) ((msz + 14).toNat) (d / 2 ^ 8 % 256)) ((msz + 15).toNat) (d / 2 ^ 0 % 256))] rfl ?_
                                                                                                              refine z_aload_n C d_M_feed_116 2 rfl ?_
                                                                                                              refine z_get C f_M_59 d_M_feed_117 0 rfl rfl ?_
                                                                                                              have hW : wI tx msz (b4 a ++ (b4 b ++ (b4 c ++ b4 d))) = _ := wI16 tx msz (a / 2 ^ 24 % 256) (a / 2 ^ 16 % 256) (a / 2 ^ 8 % 256) (a / 2 ^ 0 % 256) (b / 2 ^ 24 % 256) (b / 2 ^ 16 % 256) (b / 2 ^ 8 % 256) (b / 2 ^ 0 % 256) (c / 2 ^ 24 % 256) (c / 2 ^ 16 % 256) (c / 2 ^ 8 % 256) (c / 2 ^ 0 % 256) (d / 2 ^ 24 % 256) (d / 2 ^ 16 % 256) (d / 2 ^ 8 % 256) (d / 2 ^ 0 % 256)
                                                                                                              exact z_iret C K d_M_feed_120 (rfl) (msz + 16, 0, msz + 16, wI tx msz (b4 a ++ (b4 b ++ (b4 c ++ b4 d)))) (by rw [hW]) (show iI (msz + 16) = iI (msz + 16) ∧ ((4096 < msz + 16 → 0 = 1 ∧ (msz + 16) = 0 ∧ (msz + 16) = msz ∧ (wI tx msz (b4 a ++ (b4 b ++ (b4 c ++ b4 d)))) = tx) ∧ (¬ 4096 < msz + 16 → 0 = 0 ∧ (msz + 16) = msz + 16 ∧ (msz + 16) = msz + 16 ∧ (wI tx msz (b4 a ++ (b4 b ++ (b4 c ++ b4 d)))) = wI tx msz (b4 a ++ (b4 b ++ (b4 c ++ b4 d))))) from ⟨rfl, fun z => absurd z (by omega), fun _ => ⟨rfl, rfl, rfl, rfl⟩⟩)
                                                                                                            · exact absurd c31 (by omega)
                                                                                                          · exact absurd c59 (by omega)
                                                                                                        · exact absurd c48 (by omega)
                                                                                                      · exact absurd c37 (by omega)
                                                                                                  · exact absurd c59 (by omega)
                                                                                                · exact absurd c48 (by omega)
                                                                                              · exact absurd c37 (by omega)
                                                                                          · exact absurd c59 (by omega)
                                                                                        · exact absurd c48 (by omega)
                                                                                      · exact absurd c37 (by omega)
                                                                                  · exact absurd c59 (by omega)
                                                                                · exact absurd c48 (by omega)
                                                                              · exact absurd c37 (by omega)
                                                                        · exact absurd c48 (by omega)
                                                                      · exact absurd c37 (by omega)
                                                                · exact absurd c48 (by omega)
                                                              · exact absurd c37 (by omega)
                                                        · exact absurd c48 (by omega)
                                                      · exact absurd c37 (by omega)
                                                · exact absurd c48 (by omega)
                                              · exact absurd c37 (by omega)
                                        · exact absurd c37 (by omega)
                                  · exact absurd c37 (by omega)
                            · exact absurd c37 (by omega)
                      · exact absurd c37 (by omega)
  ·
    refine z_aload_n C d_M_feed_18 0 rfl ?_
    refine z_iconst C d_M_feed_19 ?_
    refine z_calli (As := [.int (iI 1)]) (rest := []) (wr := [iA G aTx 4200 tx]) (ws' := fun u => [(aM, .inr (8, [.ref aWc, .int (iI 1), .int (iI msz), .ref aTx, .int (iI mwr), .ref aOu, .int (iI mfa), .int (iI mpl), .int (iI mle), .int (iI mna), .ref aSo, .ref aNf, .ref aNg, .ref aSr, .ref aNu, .ref aMa, .ref aNo, .int (iI mfi), .int (iI mru), .int (iI mnv), .ref aLe, .ref aAc, .ref aDi, .ref aOr, .int (iI mki), .int (iI mfr), .int (iI mto), .int (iI mwh)])), iA G aTx 4200 tx]) (q0 := 0) C k_M_62 kc_M_fail (fun l sz => m_M_fail l G sz aM aWc aTx aOu aSo aNf aNg aSr aNu aMa aNo aLe aAc aDi aOr 0 msz mwr mfa mpl mle mna mfi mru mnv mki mfr mto mwh 1 ) rfl rfl (Nat.le_of_ble_eq_true rfl) (by decide) d_M_feed_20 rfl rfl [0] [1] [1, 0] rfl rfl (by decide) (fun u => rfl) (fun r u h20 => ?_)
    obtain rfl := h20
    show Zc G X 7 0 0 [(aM, .inr (8, [.ref aWc, .int (iI 1), .int (iI msz), .ref aTx, .int (iI mwr), .ref aOu, .int (iI mfa), .int (iI mpl), .int (iI mle), .int (iI mna), .ref aSo, .ref aNf, .ref aNg, .ref aSr, .ref aNu, .ref aMa, .ref aNo, .int (iI mfi), .int (iI mru), .int (iI mnv), .ref aLe, .ref aAc, .ref aDi, .ref aOr, .int (iI mki), .int (iI mfr), .int (iI mto), .int (iI mwh)])), iA G aTx 4200 tx] [(0, .ref aM), (1, .int (iI a)), (2, .int (iI b)), (3, .int (iI c)), (4, .int (iI d))] 23 [.int (iI 0)]
    exact z_iret C K d_M_feed_23 (rfl) (0, 1, msz, tx) (rfl) (show iI 0 = iI 0 ∧ ((4096 < msz + 16 → 1 = 1 ∧ 0 = 0 ∧ msz = msz ∧ tx = tx) ∧ (¬ 4096 < msz + 16 → 1 = 0 ∧ 0 = msz + 16 ∧ msz = msz + 16 ∧ tx = wI tx msz (b4 a ++ (b4 b ++ (b4 c ++ b4 d))))) from ⟨rfl, fun _ => ⟨rfl, rfl, rfl, rfl⟩, fun z => absurd (show 4096 < msz + 16 by omega) z⟩)
