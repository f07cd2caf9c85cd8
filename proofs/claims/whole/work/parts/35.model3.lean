set_option maxHeartbeats 4000000 in
set_option maxRecDepth 100000 in
theorem m_M_advance (l : Launch) (G : GG) (sz : Nat) (aM : Nat) (aWc : Nat) (aTx : Nat) (aOu : Nat) (aSo : Nat) (aNf : Nat) (aNg : Nat) (aSr : Nat) (aNu : Nat) (aMa : Nat) (aNo : Nat) (aLe : Nat) (aAc : Nat) (aDi : Nat) (aOr : Nat) (mth : Int) (msz : Int) (mwr : Int) (mfa : Int) (mpl : Int) (mle : Int) (mna : Int) (mfi : Int) (mru : Int) (mnv : Int) (mki : Int) (mfr : Int) (mto : Int) (mwh : Int) (sF : Nat → Int) (h1 : 0 ≤ mto ∧ mto ≤ mle ∧ mle ≤ 4096) (hu : u8 sF) (h0 : mfa = 0) (hwh : -1 ≤ mwh ∧ mwh ≤ 255) : MetV l G sz y_M_advance c_M_advance 2 ({ frames := 2, cells := 0, slots := 0, locals := 42 } : Room) [.ref aM] [(aM, .inr (8, [.ref aWc, .int (iI mth), .int (iI msz), .ref aTx, .int (iI mwr), .ref aOu, .int (iI mfa), .int (iI mpl), .int (iI mle), .int (iI mna), .ref aSo, .ref aNf, .ref aNg, .ref aSr, .ref aNu, .ref aMa, .ref aNo, .int (iI mfi), .int (iI mru), .int (iI mnv), .ref aLe, .ref aAc, .ref aDi, .ref aOr, .int (iI mki), .int (iI mfr), .int (iI mto), .int (iI mwh)])), iA G aSo 4200 sF, iA G aWc 48 wch] (fun (u : Int × Int × Int × Int × Int) => ((lxK (bF sF) mle mto = 1 → u.2.2.2.1 = 1 ∧ u.2.2.2.2 = lxS (bF sF) mle mto) ∧ (¬ lxK (bF sF) mle mto = 1 → u.2.2.2.1 = 0 ∧ u.2.2.2.2 = mpl ∧ u.2.2.1 = lxA (bF sF) mle mto ∧ kdR (lxK (bF sF) mle mto) u.1 u.2.1)) ∧ (0 ≤ u.1 ∧ u.1 ≤ 3 ∧ -1 ≤ u.2.1 ∧ u.2.1 ≤ 255 ∧ lxS (bF sF) mle mto ≤ u.2.2.1 ∧ u.2.2.1 ≤ mle)) (fun (u : Int × Int × Int × Int × Int) => [(aM, .inr (8, [.ref aWc, .int (iI mth), .int (iI msz), .ref aTx, .int (iI mwr), .ref aOu, .int (iI u.2.2.2.1), .int (iI u.2.2.2.2), .int (iI mle), .int (iI mna), .ref aSo, .ref aNf, .ref aNg, .ref aSr, .ref aNu, .ref aMa, .ref aNo, .int (iI mfi), .int (iI mru), .int (iI mnv), .ref aLe, .ref aAc, .ref aDi, .ref aOr, .int (iI u.1), .int (iI (lxS (bF sF) mle mto)), .int (iI u.2.2.1), .int (iI u.2.1)])), iA G aSo 4200 sF, iA G aWc 48 wch]) := by
  refine MetV.mk (by decide) (Nat.le_of_ble_eq_true rfl) (fun X C K => ?_)
  show Zc G X 2 0 0 [(aM, .inr (8, [.ref aWc, .int (iI mth), .int (iI msz), .ref aTx, .int (iI mwr), .ref aOu, .int (iI mfa), .int (iI mpl), .int (iI mle), .int (iI mna), .ref aSo, .ref aNf, .ref aNg, .ref aSr, .ref aNu, .ref aMa, .ref aNo, .int (iI mfi), .int (iI mru), .int (iI mnv), .ref aLe, .ref aAc, .ref aDi, .ref aOr, .int (iI mki), .int (iI mfr), .int (iI mto), .int (iI mwh)])), iA G aSo 4200 sF, iA G aWc 48 wch] [(0, .ref aM)] 0 []
  have hw := lx_rg (bF sF) (n := mle) (p := mto) (by omega)
  have huq := hu (lxS (bF sF) mle mto).toNat
  have hbq : bF sF (lxS (bF sF) mle mto).toNat = bN (sF (lxS (bF sF) mle mto).toNat) := rfl
  have hlb := ltr_b huq
  rw [← hbq] at hlb
  have hsb := sgk_b huq
  rw [← hbq] at hsb
  have hwt := wit_01 (sF (lxS (bF sF) mle mto).toNat) 97 122
  refine z_aload_n C d_M_advance_0 0 rfl ?_
  refine z_callv (As := []) (rest := []) (wr := [iA G aWc 48 wch]) (ws' := fun u => [(aM, .inr (8, [.ref aWc, .int (iI mth), .int (iI msz), .ref aTx, .int (iI mwr), .ref aOu, .int (iI mfa), .int (iI mpl), .int (iI mle), .int (iI mna), .ref aSo, .ref aNf, .ref aNg, .ref aSr, .ref aNu, .ref aMa, .ref aNo, .int (iI mfi), .int (iI mru), .int (iI mnv), .ref aLe, .ref aAc, .ref aDi, .ref aOr, .int (iI mki), .int (iI mfr), .int (iI (lxS (bF sF) mle mto)), .int (iI mwh)])), iA G aSo 4200 sF, iA G aWc 48 wch]) (q0 := 0) C k_M_89 kc_M_passWhite (fun l sz => m_M_passWhite l G sz aM aWc aTx aOu aSo aNf aNg aSr aNu aMa aNo aLe aAc aDi aOr mth msz mwr mfa mpl mle mna mfi mru mnv mki mfr mto mwh sF (by omega) (by omega)) rfl rfl (Nat.le_of_ble_eq_true rfl) (by decide) d_M_advance_1 rfl rfl [0, 1] [2] [1, 2, 0] rfl rfl (by decide) (fun u => rfl) (fun u h1 => ?_)
  show Zc G X 2 0 0 [(aM, .inr (8, [.ref aWc, .int (iI mth), .int (iI msz), .ref aTx, .int (iI mwr), .ref aOu, .int (iI mfa), .int (iI mpl), .int (iI mle), .int (iI mna), .ref aSo, .ref aNf, .ref aNg, .ref aSr, .ref aNu, .ref aMa, .ref aNo, .int (iI mfi), .int (iI mru), .int (iI mnv), .ref aLe, .ref aAc, .ref aDi, .ref aOr, .int (iI mki), .int (iI mfr), .int (iI (lxS (bF sF) mle mto)), .int (iI mwh)])), iA G aSo 4200 sF, iA G aWc 48 wch] [(0, .ref aM)] 4 []
  refine z_aload_n C d_M_advance_4 0 rfl ?_
  refine z_aload_n C d_M_advance_5 0 rfl ?_
  refine z_get C f_M_76 d_M_advance_6 0 rfl rfl ?_
  refine z_put C f_M_86 ok_M nm_M d_M_advance_9 0 rfl rfl rfl rfl (Nat.le_of_ble_eq_true rfl) [(aM, .inr (8, [.ref aWc, .int (iI mth), .int (iI msz), .ref aTx, .int (iI mwr), .ref aOu, .int (iI mfa), .int (iI mpl), .int (iI mle), .int (iI mna), .ref aSo, .ref aNf, .ref aNg, .ref aSr, .ref aNu, .ref aMa, .ref aNo, .int (iI mfi), .int (iI mru), .int (iI mnv), .ref aLe, .ref aAc, .ref aDi, .ref aOr, .int (iI mki), .int (iI (lxS (bF sF) mle mto)), .int (iI (lxS (bF sF) mle mto)), .int (iI mwh)])), iA G aSo 4200 sF, iA G aWc 48 wch] rfl ?_
  refine z_aload_n C d_M_advance_12 0 rfl ?_
  refine z_iconst C d_M_advance_13 ?_
  refine z_put C f_M_92 ok_M nm_M d_M_advance_14 0 rfl rfl rfl rfl (Nat.le_of_ble_eq_true rfl) [(aM, .inr (8, [.ref aWc, .int (iI mth), .int (iI msz), .ref aTx, .int (iI mwr), .ref aOu, .int (iI mfa), .int (iI mpl), .int (iI mle), .int (iI mna), .ref aSo, .ref aNf, .ref aNg, .ref aSr, .ref aNu, .ref aMa, .ref aNo, .int (iI mfi), .int (iI mru), .int (iI mnv), .ref aLe, .ref aAc, .ref aDi, .ref aOr, .int (iI 0), .int (iI (lxS (bF sF) mle mto)), .int (iI (lxS (bF sF) mle mto)), .int (iI mwh)])), iA G aSo 4200 sF, iA G aWc 48 wch] rfl ?_
  refine z_aload_n C d_M_advance_17 0 rfl ?_
  refine z_get C f_M_86 d_M_advance_18 0 rfl rfl ?_
  refine z_aload_n C d_M_advance_21 0 rfl ?_
  refine z_get C f_M_79 d_M_advance_22 0 rfl rfl ?_
  refine z_icmp_ne (tgt := 29) C d_M_advance_25 (by decide) (by omega) (by omega) (fun c25 => ?_) (fun c25 => ?_)
  ·
    refine z_aload_n C d_M_advance_29 0 rfl ?_
    refine z_get C f_M_19 d_M_advance_30 0 rfl rfl ?_
    refine z_aload_n C d_M_advance_33 0 rfl ?_
    refine z_get C f_M_86 d_M_advance_34 0 rfl rfl ?_
    refine z_iald C d_M_advance_37 1 rfl (by omega) ?_
    refine z_istore_n (lv' := [(1, .int (iI (sF ((lxS (bF sF) mle mto).toNat)))), (0, .ref aM)]) C d_M_advance_38 (by decide) rfl ?_
    refine z_iload_n C d_M_advance_39 0 rfl ?_
    refine z_calliS (As := [.int (iI (sF ((lxS (bF sF) mle mto).toNat)))]) (rest := []) (wr := [(aM, .inr (8, [.ref aWc, .int (iI mth), .int (iI msz), .ref aTx, .int (iI mwr), .ref aOu, .int (iI mfa), .int (iI mpl), .int (iI mle), .int (iI mna), .ref aSo, .ref aNf, .ref aNg, .ref aSr, .ref aNu, .ref aMa, .ref aNo, .int (iI mfi), .int (iI mru), .int (iI mnv), .ref aLe, .ref aAc, .ref aDi, .ref aOr, .int (iI 0), .int (iI (lxS (bF sF) mle mto)), .int (iI (lxS (bF sF) mle mto)), .int (iI mwh)])), iA G aSo 4200 sF, iA G aWc 48 wch]) (ws' := fun u => [(aM, .inr (8, [.ref aWc, .int (iI mth), .int (iI msz), .ref aTx, .int (iI mwr), .ref aOu, .int (iI mfa), .int (iI mpl), .int (iI mle), .int (iI mna), .ref aSo, .ref aNf, .ref aNg, .ref aSr, .ref aNu, .ref aMa, .ref aNo, .int (iI mfi), .int (iI mru), .int (iI mnv), .ref aLe, .ref aAc, .ref aDi, .ref aOr, .int (iI 0), .int (iI (lxS (bF sF) mle mto)), .int (iI (lxS (bF sF) mle mto)), .int (iI mwh)])), iA G aSo 4200 sF, iA G aWc 48 wch]) C k_M_95 kc_M_isSmall (fun l sz => m_M_isSmall l G sz (sF ((lxS (bF sF) mle mto).toNat)) (by omega)) rfl rfl (Nat.le_of_ble_eq_true rfl) (by decide) d_M_advance_40 [] [0, 1, 2] [0, 1, 2] rfl rfl (by decide) (fun u => rfl) (fun r u h40 => ?_)
    obtain rfl := h40
    show Zc G X 2 0 0 [(aM, .inr (8, [.ref aWc, .int (iI mth), .int (iI msz), .ref aTx, .int (iI mwr), .ref aOu, .int (iI mfa), .int (iI mpl), .int (iI mle), .int (iI mna), .ref aSo, .ref aNf, .ref aNg, .ref aSr, .ref aNu, .ref aMa, .ref aNo, .int (iI mfi), .int (iI mru), .int (iI mnv), .ref aLe, .ref aAc, .ref aDi, .ref aOr, .int (iI 0), .int (iI (lxS (bF sF) mle mto)), .int (iI (lxS (bF sF) mle mto)), .int (iI mwh)])), iA G aSo 4200 sF, iA G aWc 48 wch] [(1, .int (iI (sF ((lxS (bF sF) mle mto).toNat)))), (0, .ref aM)] 43 [.int (iI (wit (sF ((lxS (bF sF) mle mto).toNat)) 97 122))]
    refine z_if_eq (tgt := 154) C d_M_advance_43 (by decide) (by omega) (fun c43 => ?_) (fun c43 => ?_)
    ·
      refine z_iload_n C d_M_advance_154 0 rfl ?_
      refine z_bipush C d_M_advance_155 (by decide) ?_
      refine z_icmp_eq (tgt := 178) C d_M_advance_157 (by decide) (by omega) (by omega) (fun c157 => ?_) (fun c157 => ?_)
      ·
        refine z_aload_n C d_M_advance_178 1 rfl ?_
        refine z_iconst C d_M_advance_179 ?_
        refine z_put C f_M_92 ok_M nm_M d_M_advance_180 0 rfl rfl rfl rfl (Nat.le_of_ble_eq_true rfl) [(aM, .inr (8, [.ref aWc, .int (iI mth), .int (iI msz), .ref aTx, .int (iI mwr), .ref aOu, .int (iI mfa), .int (iI mpl), .int (iI mle), .int (iI mna), .ref aSo, .ref aNf, .ref aNg, .ref aSr, .ref aNu, .ref aMa, .ref aNo, .int (iI mfi), .int (iI mru), .int (iI mnv), .ref aLe, .ref aAc, .ref aDi, .ref aOr, .int (iI 2), .int (iI (lxS (bF sF) mle mto)), .int (iI (lxS (bF sF) mle mto)), .int (iI mwh)])), iA G aSo 4200 sF, iA G aWc 48 wch] rfl ?_
        refine z_aload_n C d_M_advance_183 1 rfl ?_
        refine z_iload_n C d_M_advance_184 0 rfl ?_
        refine z_put C f_M_102 ok_M nm_M d_M_advance_185 0 rfl rfl rfl rfl (Nat.le_of_ble_eq_true rfl) [(aM, .inr (8, [.ref aWc, .int (iI mth), .int (iI msz), .ref aTx, .int (iI mwr), .ref aOu, .int (iI mfa), .int (iI mpl), .int (iI mle), .int (iI mna), .ref aSo, .ref aNf, .ref aNg, .ref aSr, .ref aNu, .ref aMa, .ref aNo, .int (iI mfi), .int (iI mru), .int (iI mnv), .ref aLe, .ref aAc, .ref aDi, .ref aOr, .int (iI 2), .int (iI (lxS (bF sF) mle mto)), .int (iI (lxS (bF sF) mle mto)), .int (iI (sF ((lxS (bF sF) mle mto).toNat)))])), iA G aSo 4200 sF, iA G aWc 48 wch] rfl ?_
        refine z_aload_n C d_M_advance_188 1 rfl ?_
        refine z_dup C d_M_advance_189 rfl ?_
        refine z_get C f_M_76 d_M_advance_190 0 rfl rfl ?_
        refine z_iconst C d_M_advance_193 ?_
        refine z_iadd C d_M_advance_194 ?_
        refine z_put C f_M_76 ok_M nm_M d_M_advance_195 0 rfl rfl rfl rfl (Nat.le_of_ble_eq_true rfl) [(aM, .inr (8, [.ref aWc, .int (iI mth), .int (iI msz), .ref aTx, .int (iI mwr), .ref aOu, .int (iI mfa), .int (iI mpl), .int (iI mle), .int (iI mna), .ref aSo, .ref aNf, .ref aNg, .ref aSr, .ref aNu, .ref aMa, .ref aNo, .int (iI mfi), .int (iI mru), .int (iI mnv), .ref aLe, .ref aAc, .ref aDi, .ref aOr, .int (iI 2), .int (iI (lxS (bF sF) mle mto)), .int (iI ((lxS (bF sF) mle mto) + 1)), .int (iI (sF ((lxS (bF sF) mle mto).toNat)))])), iA G aSo 4200 sF, iA G aWc 48 wch] rfl ?_
        refine z_goto (tgt := 210) C d_M_advance_198 (by decide) ?_
        have hsn := lx_sign (F := bF sF) (n := mle) (p := mto) (by omega) (by omega)
        rw [hsb] at hsn
        have hsd : sgk (sF (lxS (bF sF) mle mto).toNat) = if sF (lxS (bF sF) mle mto).toNat = 58 then 2 else if sF (lxS (bF sF) mle mto).toNat = 59 then 3 else if sF (lxS (bF sF) mle mto).toNat = 44 then 4 else if sF (lxS (bF sF) mle mto).toNat = 62 then 5 else 1 := rfl
        rw [if_pos (by omega)] at hsd
        have hK : lxK (bF sF) mle mto = 2 := hsn.2.trans hsd
        exact z_vret C K d_M_advance_210 (2, sF (lxS (bF sF) mle mto).toNat, lxS (bF sF) mle mto + 1, mfa, mpl) (rfl) (show ((lxK (bF sF) mle mto = 1 → mfa = 1 ∧ mpl = lxS (bF sF) mle mto) ∧ (¬ lxK (bF sF) mle mto = 1 → mfa = 0 ∧ mpl = mpl ∧ (lxS (bF sF) mle mto + 1) = lxA (bF sF) mle mto ∧ kdR (lxK (bF sF) mle mto) 2 (sF (lxS (bF sF) mle mto).toNat))) ∧ (0 ≤ 2 ∧ 2 ≤ 3 ∧ -1 ≤ (sF (lxS (bF sF) mle mto).toNat) ∧ (sF (lxS (bF sF) mle mto).toNat) ≤ 255 ∧ lxS (bF sF) mle mto ≤ (lxS (bF sF) mle mto + 1) ∧ (lxS (bF sF) mle mto + 1) ≤ mle) from ⟨⟨fun z => by omega, fun _ => ⟨h0, rfl, hsn.1.symm, ⟨fun z => by omega, fun _ => ⟨rfl, by rw [hK]; show sF (lxS (bF sF) mle mto).toNat = 58; omega⟩, fun z => by omega, fun z => by omega⟩⟩⟩, by omega⟩)
      ·
        refine z_iload_n C d_M_advance_160 0 rfl ?_
        refine z_bipush C d_M_advance_161 (by decide) ?_
        refine z_icmp_eq (tgt := 178) C d_M_advance_163 (by decide) (by omega) (by omega) (fun c163 => ?_) (fun c163 => ?_)
        ·
          refine z_aload_n C d_M_advance_178 1 rfl ?_
          refine z_iconst C d_M_advance_179 ?_
          refine z_put C f_M_92 ok_M nm_M d_M_advance_180 0 rfl rfl rfl rfl (Nat.le_of_ble_eq_true rfl) [(aM, .inr (8, [.ref aWc, .int (iI mth), .int (iI msz), .ref aTx, .int (iI mwr), .ref aOu, .int (iI mfa), .int (iI mpl), .int (iI mle), .int (iI mna), .ref aSo, .ref aNf, .ref aNg, .ref aSr, .ref aNu, .ref aMa, .ref aNo, .int (iI mfi), .int (iI mru), .int (iI mnv), .ref aLe, .ref aAc, .ref aDi, .ref aOr, .int (iI 2), .int (iI (lxS (bF sF) mle mto)), .int (iI (lxS (bF sF) mle mto)), .int (iI mwh)])), iA G aSo 4200 sF, iA G aWc 48 wch] rfl ?_
          refine z_aload_n C d_M_advance_183 1 rfl ?_
          refine z_iload_n C d_M_advance_184 0 rfl ?_
          refine z_put C f_M_102 ok_M nm_M d_M_advance_185 0 rfl rfl rfl rfl (Nat.le_of_ble_eq_true rfl) [(aM, .inr (8, [.ref aWc, .int (iI mth), .int (iI msz), .ref aTx, .int (iI mwr), .ref aOu, .int (iI mfa), .int (iI mpl), .int (iI mle), .int (iI mna), .ref aSo, .ref aNf, .ref aNg, .ref aSr, .ref aNu, .ref aMa, .ref aNo, .int (iI mfi), .int (iI mru), .int (iI mnv), .ref aLe, .ref aAc, .ref aDi, .ref aOr, .int (iI 2), .int (iI (lxS (bF sF) mle mto)), .int (iI (lxS (bF sF) mle mto)), .int (iI (sF ((lxS (bF sF) mle mto).toNat)))])), iA G aSo 4200 sF, iA G aWc 48 wch] rfl ?_
          refine z_aload_n C d_M_advance_188 1 rfl ?_
          refine z_dup C d_M_advance_189 rfl ?_
          refine z_get C f_M_76 d_M_advance_190 0 rfl rfl ?_
          refine z_iconst C d_M_advance_193 ?_
          refine z_iadd C d_M_advance_194 ?_
          refine z_put C f_M_76 ok_M nm_M d_M_advance_195 0 rfl rfl rfl rfl (Nat.le_of_ble_eq_true rfl) [(aM, .inr (8, [.ref aWc, .int (iI mth), .int (iI msz), .ref aTx, .int (iI mwr), .ref aOu, .int (iI mfa), .int (iI mpl), .int (iI mle), .int (iI mna), .ref aSo, .ref aNf, .ref aNg, .ref aSr, .ref aNu, .ref aMa, .ref aNo, .int (iI mfi), .int (iI mru), .int (iI mnv), .ref aLe, .ref aAc, .ref aDi, .ref aOr, .int (iI 2), .int (iI (lxS (bF sF) mle mto)), .int (iI ((lxS (bF sF) mle mto) + 1)), .int (iI (sF ((lxS (bF sF) mle mto).toNat)))])), iA G aSo 4200 sF, iA G aWc 48 wch] rfl ?_
          refine z_goto (tgt := 210) C d_M_advance_198 (by decide) ?_
          have hsn := lx_sign (F := bF sF) (n := mle) (p := mto) (by omega) (by omega)
          rw [hsb] at hsn
          have hsd : sgk (sF (lxS (bF sF) mle mto).toNat) = if sF (lxS (bF sF) mle mto).toNat = 58 then 2 else if sF (lxS (bF sF) mle mto).toNat = 59 then 3 else if sF (lxS (bF sF) mle mto).toNat = 44 then 4 else if sF (lxS (bF sF) mle mto).toNat = 62 then 5 else 1 := rfl
          rw [if_neg (by omega), if_pos (by omega)] at hsd
          have hK : lxK (bF sF) mle mto = 3 := hsn.2.trans hsd
          exact z_vret C K d_M_advance_210 (2, sF (lxS (bF sF) mle mto).toNat, lxS (bF sF) mle mto + 1, mfa, mpl) (rfl) (show ((lxK (bF sF) mle mto = 1 → mfa = 1 ∧ mpl = lxS (bF sF) mle mto) ∧ (¬ lxK (bF sF) mle mto = 1 → mfa = 0 ∧ mpl = mpl ∧ (lxS (bF sF) mle mto + 1) = lxA (bF sF) mle mto ∧ kdR (lxK (bF sF) mle mto) 2 (sF (lxS (bF sF) mle mto).toNat))) ∧ (0 ≤ 2 ∧ 2 ≤ 3 ∧ -1 ≤ (sF (lxS (bF sF) mle mto).toNat) ∧ (sF (lxS (bF sF) mle mto).toNat) ≤ 255 ∧ lxS (bF sF) mle mto ≤ (lxS (bF sF) mle mto + 1) ∧ (lxS (bF sF) mle mto + 1) ≤ mle) from ⟨⟨fun z => by omega, fun _ => ⟨h0, rfl, hsn.1.symm, ⟨fun z => by omega, fun _ => ⟨rfl, by rw [hK]; show sF (lxS (bF sF) mle mto).toNat = 59; omega⟩, fun z => by omega, fun z => by omega⟩⟩⟩, by omega⟩)
        ·
          refine z_iload_n C d_M_advance_166 0 rfl ?_
          refine z_bipush C d_M_advance_167 (by decide) ?_
          refine z_icmp_eq (tgt := 178) C d_M_advance_169 (by decide) (by omega) (by omega) (fun c169 => ?_) (fun c169 => ?_)
          ·
            refine z_aload_n C d_M_advance_178 1 rfl ?_
            refine z_iconst C d_M_advance_179 ?_
            refine z_put C f_M_92 ok_M nm_M d_M_advance_180 0 rfl rfl rfl rfl (Nat.le_of_ble_eq_true rfl) [(aM, .inr (8, [.ref aWc, .int (iI mth), .int (iI msz), .ref aTx, .int (iI mwr), .ref aOu, .int (iI mfa), .int (iI mpl), .int (iI mle), .int (iI mna), .ref aSo, .ref aNf, .ref aNg, .ref aSr, .ref aNu, .ref aMa, .ref aNo, .int (iI mfi), .int (iI mru), .int (iI mnv), .ref aLe, .ref aAc, .ref aDi, .ref aOr, .int (iI 2), .int (iI (lxS (bF sF) mle mto)), .int (iI (lxS (bF sF) mle mto)), .int (iI mwh)])), iA G aSo 4200 sF, iA G aWc 48 wch] rfl ?_
            refine z_aload_n C d_M_advance_183 1 rfl ?_
            refine z_iload_n C d_M_advance_184 0 rfl ?_
            refine z_put C f_M_102 ok_M nm_M d_M_advance_185 0 rfl rfl rfl rfl (Nat.le_of_ble_eq_true rfl) [(aM, .inr (8, [.ref aWc, .int (iI mth), .int (iI msz), .ref aTx, .int (iI mwr), .ref aOu, .int (iI mfa), .int (iI mpl), .int (iI mle), .int (iI mna), .ref aSo, .ref aNf, .ref aNg, .ref aSr, .ref aNu, .ref aMa, .ref aNo, .int (iI mfi), .int (iI mru), .int (iI mnv), .ref aLe, .ref aAc, .ref aDi, .ref aOr, .int (iI 2), .int (iI (lxS (bF sF) mle mto)), .int (iI (lxS (bF sF) mle mto)), .int (iI (sF ((lxS (bF sF) mle mto).toNat)))])), iA G aSo 4200 sF, iA G aWc 48 wch] rfl ?_
            refine z_aload_n C d_M_advance_188 1 rfl ?_
            refine z_dup C d_M_advance_189 rfl ?_
            refine z_get C f_M_76 d_M_advance_190 0 rfl rfl ?_
            refine z_iconst C d_M_advance_193 ?_
            refine z_iadd C d_M_advance_194 ?_
            refine z_put C f_M_76 ok_M nm_M d_M_advance_195 0 rfl rfl rfl rfl (Nat.le_of_ble_eq_true rfl) [(aM, .inr (8, [.ref aWc, .int (iI mth), .int (iI msz), .ref aTx, .int (iI mwr), .ref aOu, .int (iI mfa), .int (iI mpl), .int (iI mle), .int (iI mna), .ref aSo, .ref aNf, .ref aNg, .ref aSr, .ref aNu, .ref aMa, .ref aNo, .int (iI mfi), .int (iI mru), .int (iI mnv), .ref aLe, .ref aAc, .ref aDi, .ref aOr, .int (iI 2), .int (iI (lxS (bF sF) mle mto)), .int (iI ((lxS (bF sF) mle mto) + 1)), .int (iI (sF ((lxS (bF sF) mle mto).toNat)))])), iA G aSo 4200 sF, iA G aWc 48 wch] rfl ?_
            refine z_goto (tgt := 210) C d_M_advance_198 (by decide) ?_
            have hsn := lx_sign (F := bF sF) (n := mle) (p := mto) (by omega) (by omega)
            rw [hsb] at hsn
            have hsd : sgk (sF (lxS (bF sF) mle mto).toNat) = if sF (lxS (bF sF) mle mto).toNat = 58 then 2 else if sF (lxS (bF sF) mle mto).toNat = 59 then 3 else if sF (lxS (bF sF) mle mto).toNat = 44 then 4 else if sF (lxS (bF sF) mle mto).toNat = 62 then 5 else 1 := rfl
            rw [if_neg (by omega), if_neg (by omega), if_pos (by omega)] at hsd
            have hK : lxK (bF sF) mle mto = 4 := hsn.2.trans hsd
            exact z_vret C K d_M_advance_210 (2, sF (lxS (bF sF) mle mto).toNat, lxS (bF sF) mle mto + 1, mfa, mpl) (rfl) (show ((lxK (bF sF) mle mto = 1 → mfa = 1 ∧ mpl = lxS (bF sF) mle mto) ∧ (¬ lxK (bF sF) mle mto = 1 → mfa = 0 ∧ mpl = mpl ∧ (lxS (bF sF) mle mto + 1) = lxA (bF sF) mle mto ∧ kdR (lxK (bF sF) mle mto) 2 (sF (lxS (bF sF) mle mto).toNat))) ∧ (0 ≤ 2 ∧ 2 ≤ 3 ∧ -1 ≤ (sF (lxS (bF sF) mle mto).toNat) ∧ (sF (lxS (bF sF) mle mto).toNat) ≤ 255 ∧ lxS (bF sF) mle mto ≤ (lxS (bF sF) mle mto + 1) ∧ (lxS (bF sF) mle mto + 1) ≤ mle) from ⟨⟨fun z => by omega, fun _ => ⟨h0, rfl, hsn.1.symm, ⟨fun z => by omega, fun _ => ⟨rfl, by rw [hK]; show sF (lxS (bF sF) mle mto).toNat = 44; omega⟩, fun z => by omega, fun z => by omega⟩⟩⟩, by omega⟩)
          ·
            refine z_iload_n C d_M_advance_172 0 rfl ?_
            refine z_bipush C d_M_advance_173 (by decide) ?_
            refine z_icmp_ne (tgt := 201) C d_M_advance_175 (by decide) (by omega) (by omega) (fun c175 => ?_) (fun c175 => ?_)
            ·
              refine z_aload_n C d_M_advance_201 1 rfl ?_
              refine z_iconst C d_M_advance_202 ?_
              refine z_aload_n C d_M_advance_203 1 rfl ?_
              refine z_get C f_M_86 d_M_advance_204 0 rfl rfl ?_
              refine z_callv (As := [.int (iI 1), .int (iI (lxS (bF sF) mle mto))]) (rest := []) (wr := [iA G aSo 4200 sF, iA G aWc 48 wch]) (ws' := fun u => [(aM, .inr (8, [.ref aWc, .int (iI mth), .int (iI msz), .ref aTx, .int (iI mwr), .ref aOu, .int (iI 1), .int (iI (lxS (bF sF) mle mto)), .int (iI mle), .int (iI mna), .ref aSo, .ref aNf, .ref aNg, .ref aSr, .ref aNu, .ref aMa, .ref aNo, .int (iI mfi), .int (iI mru), .int (iI mnv), .ref aLe, .ref aAc, .ref aDi, .ref aOr, .int (iI 0), .int (iI (lxS (bF sF) mle mto)), .int (iI (lxS (bF sF) mle mto)), .int (iI mwh)])), iA G aSo 4200 sF, iA G aWc 48 wch]) (q0 := 0) C k_M_105 kc_M_tell (fun l sz => m_M_tell l G sz aM aWc aTx aOu aSo aNf aNg aSr aNu aMa aNo aLe aAc aDi aOr mth msz mwr mfa mpl mle mna mfi mru mnv 0 (lxS (bF sF) mle mto) (lxS (bF sF) mle mto) mwh 1 (lxS (bF sF) mle mto) (by omega)) rfl rfl (Nat.le_of_ble_eq_true rfl) (by decide) d_M_advance_207 rfl rfl [0] [1, 2] [2, 0, 1] rfl rfl (by decide) (fun u => rfl) (fun u h207 => ?_)
              show Zc G X 2 0 0 [(aM, .inr (8, [.ref aWc, .int (iI mth), .int (iI msz), .ref aTx, .int (iI mwr), .ref aOu, .int (iI 1), .int (iI (lxS (bF sF) mle mto)), .int (iI mle), .int (iI mna), .ref aSo, .ref aNf, .ref aNg, .ref aSr, .ref aNu, .ref aMa, .ref aNo, .int (iI mfi), .int (iI mru), .int (iI mnv), .ref aLe, .ref aAc, .ref aDi, .ref aOr, .int (iI 0), .int (iI (lxS (bF sF) mle mto)), .int (iI (lxS (bF sF) mle mto)), .int (iI mwh)])), iA G aSo 4200 sF, iA G aWc 48 wch] [(1, .int (iI (sF ((lxS (bF sF) mle mto).toNat)))), (0, .ref aM)] 210 []
              have hsn := lx_sign (F := bF sF) (n := mle) (p := mto) (by omega) (by omega)
              rw [hsb] at hsn
              have hsd : sgk (sF (lxS (bF sF) mle mto).toNat) = if sF (lxS (bF sF) mle mto).toNat = 58 then 2 else if sF (lxS (bF sF) mle mto).toNat = 59 then 3 else if sF (lxS (bF sF) mle mto).toNat = 44 then 4 else if sF (lxS (bF sF) mle mto).toNat = 62 then 5 else 1 := rfl
              rw [if_neg (by omega), if_neg (by omega), if_neg (by omega), if_neg (by omega)] at hsd
              exact z_vret C K d_M_advance_210 (0, mwh, lxS (bF sF) mle mto, 1, lxS (bF sF) mle mto) (rfl) (show ((lxK (bF sF) mle mto = 1 → 1 = 1 ∧ (lxS (bF sF) mle mto) = lxS (bF sF) mle mto) ∧ (¬ lxK (bF sF) mle mto = 1 → 1 = 0 ∧ (lxS (bF sF) mle mto) = mpl ∧ (lxS (bF sF) mle mto) = lxA (bF sF) mle mto ∧ kdR (lxK (bF sF) mle mto) 0 mwh)) ∧ (0 ≤ 0 ∧ 0 ≤ 3 ∧ -1 ≤ mwh ∧ mwh ≤ 255 ∧ lxS (bF sF) mle mto ≤ (lxS (bF sF) mle mto) ∧ (lxS (bF sF) mle mto) ≤ mle) from ⟨⟨fun _ => ⟨rfl, rfl⟩, fun z => absurd (hsn.2.trans hsd) z⟩, by omega⟩)
            ·
              refine z_aload_n C d_M_advance_178 1 rfl ?_
              refine z_iconst C d_M_advance_179 ?_
              refine z_put C f_M_92 ok_M nm_M d_M_advance_180 0 rfl rfl rfl rfl (Nat.le_of_ble_eq_true rfl) [(aM, .inr (8, [.ref aWc, .int (iI mth), .int (iI msz), .ref aTx, .int (iI mwr), .ref aOu, .int (iI mfa), .int (iI mpl), .int (iI mle), .int (iI mna), .ref aSo, .ref aNf, .ref aNg, .ref aSr, .ref aNu, .ref aMa, .ref aNo, .int (iI mfi), .int (iI mru), .int (iI mnv), .ref aLe, .ref aAc, .ref aDi, .ref aOr, .int (iI 2), .int (iI (lxS (bF sF) mle mto)), .int (iI (lxS (bF sF) mle mto)), .int (iI mwh)])), iA G aSo 4200 sF, iA G aWc 48 wch] rfl ?_
              refine z_aload_n C d_M_advance_183 1 rfl ?_
              refine z_iload_n C d_M_advance_184 0 rfl ?_
              refine z_put C f_M_102 ok_M nm_M d_M_advance_185 0 rfl rfl rfl rfl (Nat.le_of_ble_eq_true rfl) [(aM, .inr (8, [.ref aWc, .int (iI mth), .int (iI msz), .ref aTx, .int (iI mwr), .ref aOu, .int (iI mfa), .int (iI mpl), .int (iI mle), .int (iI mna), .ref aSo, .ref aNf, .ref aNg, .ref aSr, .ref aNu, .ref aMa, .ref aNo, .int (iI mfi), .int (iI mru), .int (iI mnv), .ref aLe, .ref aAc, .ref aDi, .ref aOr, .int (iI 2), .int (iI (lxS (bF sF) mle mto)), .int (iI (lxS (bF sF) mle mto)), .int (iI (sF ((lxS (bF sF) mle mto).toNat)))])), iA G aSo 4200 sF, iA G aWc 48 wch] rfl ?_
              refine z_aload_n C d_M_advance_188 1 rfl ?_
              refine z_dup C d_M_advance_189 rfl ?_
              refine z_get C f_M_76 d_M_advance_190 0 rfl rfl ?_
              refine z_iconst C d_M_advance_193 ?_
              refine z_iadd C d_M_advance_194 ?_
              refine z_put C f_M_76 ok_M nm_M d_M_advance_195 0 rfl rfl rfl rfl (Nat.le_of_ble_eq_true rfl) [(aM, .inr (8, [.ref aWc, .int (iI mth), .int (iI msz), .ref aTx, .int (iI mwr), .ref aOu, .int (iI mfa), .int (iI mpl), .int (iI mle), .int (iI mna), .ref aSo, .ref aNf, .ref aNg, .ref aSr, .ref aNu, .ref aMa, .ref aNo, .int (iI mfi), .int (iI mru), .int (iI mnv), .ref aLe, .ref aAc, .ref aDi, .ref aOr, .int (iI 2), .int (iI (lxS (bF sF) mle mto)), .int (iI ((lxS (bF sF) mle mto) + 1)), .int (iI (sF ((lxS (bF sF) mle mto).toNat)))])), iA G aSo 4200 sF, iA G aWc 48 wch] rfl ?_
              refine z_goto (tgt := 210) C d_M_advance_198 (by decide) ?_
              have hsn := lx_sign (F := bF sF) (n := mle) (p := mto) (by omega) (by omega)
              rw [hsb] at hsn
              have hsd : sgk (sF (lxS (bF sF) mle mto).toNat) = if sF (lxS (bF sF) mle mto).toNat = 58 then 2 else if sF (lxS (bF sF) mle mto).toNat = 59 then 3 else if sF (lxS (bF sF) mle mto).toNat = 44 then 4 else if sF (lxS (bF sF) mle mto).toNat = 62 then 5 else 1 := rfl
              rw [if_neg (by omega), if_neg (by omega), if_neg (by omega), if_pos (by omega)] at hsd
              have hK : lxK (bF sF) mle mto = 5 := hsn.2.trans hsd
              exact z_vret C K d_M_advance_210 (2, sF (lxS (bF sF) mle mto).toNat, lxS (bF sF) mle mto + 1, mfa, mpl) (rfl) (show ((lxK (bF sF) mle mto = 1 → mfa = 1 ∧ mpl = lxS (bF sF) mle mto) ∧ (¬ lxK (bF sF) mle mto = 1 → mfa = 0 ∧ mpl = mpl ∧ (lxS (bF sF) mle mto + 1) = lxA (bF sF) mle mto ∧ kdR (lxK (bF sF) mle mto) 2 (sF (lxS (bF sF) mle mto).toNat))) ∧ (0 ≤ 2 ∧ 2 ≤ 3 ∧ -1 ≤ (sF (lxS (bF sF) mle mto).toNat) ∧ (sF (lxS (bF sF) mle mto).toNat) ≤ 255 ∧ lxS (bF sF) mle mto ≤ (lxS (bF sF) mle mto + 1) ∧ (lxS (bF sF) mle mto + 1) ≤ mle) from ⟨⟨fun z => by omega, fun _ => ⟨h0, rfl, hsn.1.symm, ⟨fun z => by omega, fun _ => ⟨rfl, by rw [hK]; show sF (lxS (bF sF) mle mto).toNat = 62; omega⟩, fun z => by omega, fun z => by omega⟩⟩⟩, by omega⟩)
    ·
      have loop46 : ∀ (kq : Nat) (t : Int), (lxS (bF sF) mle mto ≤ t ∧ t ≤ mle) → (skN (bF sF) (mle - t).toNat t = skN (bF sF) (mle - lxS (bF sF) mle mto).toNat (lxS (bF sF) mle mto)) → ((mle - t).toNat < kq) → Zc G X 2 0 0 [(aM, .inr (8, [.ref aWc, .int (iI mth), .int (iI msz), .ref aTx, .int (iI mwr), .ref aOu, .int (iI mfa), .int (iI mpl), .int (iI mle), .int (iI mna), .ref aSo, .ref aNf, .ref aNg, .ref aSr, .ref aNu, .ref aMa, .ref aNo, .int (iI mfi), .int (iI mru), .int (iI mnv), .ref aLe, .ref aAc, .ref aDi, .ref aOr, .int (iI 0), .int (iI (lxS (bF sF) mle mto)), .int (iI t), .int (iI mwh)])), iA G aSo 4200 sF, iA G aWc 48 wch] [(0, .ref aM)] 46 [] := by
        intro kq
        induction kq with
        | zero => intro t hk hE hm; exact absurd hm (Nat.not_lt_zero _)
        | succ kq ih46 =>
          intro t hk hE hm
          have hut := hu t.toNat
          have hq1 := wit_01 (sF t.toNat) 97 122
          have hq2 := wit_01 (sF t.toNat) 48 57
          -- loop body
          refine z_aload_n C d_M_advance_46 0 rfl ?_
          refine z_get C f_M_76 d_M_advance_47 0 rfl rfl ?_
          refine z_aload_n C d_M_advance_50 0 rfl ?_
          refine z_get C f_M_79 d_M_advance_51 0 rfl rfl ?_
          refine z_icmp_ge (tgt := 104) C d_M_advance_54 (by decide) (by omega) (by omega) (fun c54 => ?_) (fun c54 => ?_)
          ·
            have hte : t = skN (bF sF) (mle - lxS (bF sF) mle mto).toNat (lxS (bF sF) mle mto) := by first | (rw [skN_m hu (by omega), if_neg (by omega)] at hE; exact hE) | (rw [show (mle - t).toNat = 0 by omega] at hE; exact hE)
            have hnm := lx_name (F := bF sF) (n := mle) (p := mto) (by omega) (by omega)
            rw [← hte] at hnm
            have hng := nmk_rg (seg (bF sF) (lxS (bF sF) mle mto).toNat (t - lxS (bF sF) mle mto).toNat)
            have hwn : wrN (seg (bF sF) (lxS (bF sF) mle mto).toNat (t - lxS (bF sF) mle mto).toNat) = if nmk (seg (bF sF) (lxS (bF sF) mle mto).toNat (t - lxS (bF sF) mle mto).toNat) = 6 then -1 else nmk (seg (bF sF) (lxS (bF sF) mle mto).toNat (t - lxS (bF sF) mle mto).toNat) - 7 := rfl
            refine z_aload_n C d_M_advance_104 0 rfl ?_
            refine z_aload_n C d_M_advance_105 0 rfl ?_
            refine z_calli (As := []) (rest := [.ref aM]) (wr := []) (ws' := fun u => [(aM, .inr (8, [.ref aWc, .int (iI mth), .int (iI msz), .ref aTx, .int (iI mwr), .ref aOu, .int (iI mfa), .int (iI mpl), .int (iI mle), .int (iI mna), .ref aSo, .ref aNf, .ref aNg, .ref aSr, .ref aNu, .ref aMa, .ref aNo, .int (iI mfi), .int (iI mru), .int (iI mnv), .ref aLe, .ref aAc, .ref aDi, .ref aOr, .int (iI 0), .int (iI (lxS (bF sF) mle mto)), .int (iI t), .int (iI mwh)])), iA G aSo 4200 sF, iA G aWc 48 wch]) (q0 := 0) C k_M_98 kc_M_wordHere (fun l sz => m_M_wordHere l G sz aM aWc aTx aOu aSo aNf aNg aSr aNu aMa aNo aLe aAc aDi aOr mth msz mwr mfa mpl mle mna mfi mru mnv 0 (lxS (bF sF) mle mto) t mwh sF (by omega) (hu)) rfl rfl (Nat.le_of_ble_eq_true rfl) (by decide) d_M_advance_106 rfl rfl [0, 1, 2] [] [0, 1, 2] rfl rfl (by decide) (fun u => rfl) (fun r u h106 => ?_)
            obtain rfl := h106
            show Zc G X 2 0 0 [(aM, .inr (8, [.ref aWc, .int (iI mth), .int (iI msz), .ref aTx, .int (iI mwr), .ref aOu, .int (iI mfa), .int (iI mpl), .int (iI mle), .int (iI mna), .ref aSo, .ref aNf, .ref aNg, .ref aSr, .ref aNu, .ref aMa, .ref aNo, .int (iI mfi), .int (iI mru), .int (iI mnv), .ref aLe, .ref aAc, .ref aDi, .ref aOr, .int (iI 0), .int (iI (lxS (bF sF) mle mto)), .int (iI t), .int (iI mwh)])), iA G aSo 4200 sF, iA G aWc 48 wch] [(0, .ref aM)] 109 [.int (iI (wrN (seg (bF sF) (lxS (bF sF) mle mto).toNat (t - (lxS (bF sF) mle mto)).toNat))), .ref aM]
            refine z_put C f_M_102 ok_M nm_M d_M_advance_109 0 rfl rfl rfl rfl (Nat.le_of_ble_eq_true rfl) [(aM, .inr (8, [.ref aWc, .int (iI mth), .int (iI msz), .ref aTx, .int (iI mwr), .ref aOu, .int (iI mfa), .int (iI mpl), .int (iI mle), .int (iI mna), .ref aSo, .ref aNf, .ref aNg, .ref aSr, .ref aNu, .ref aMa, .ref aNo, .int (iI mfi), .int (iI mru), .int (iI mnv), .ref aLe, .ref aAc, .ref aDi, .ref aOr, .int (iI 0), .int (iI (lxS (bF sF) mle mto)), .int (iI t), .int (iI (wrN (seg (bF sF) (lxS (bF sF) mle mto).toNat (t - (lxS (bF sF) mle mto)).toNat)))])), iA G aSo 4200 sF, iA G aWc 48 wch] rfl ?_
            refine z_aload_n C d_M_advance_112 0 rfl ?_
            refine z_aload_n C d_M_advance_113 0 rfl ?_
            refine z_get C f_M_102 d_M_advance_114 0 rfl rfl ?_
            refine z_if_ge (tgt := 124) C d_M_advance_117 (by decide) (by rw [hwn]; split <;> omega) (fun c117 => ?_) (fun c117 => ?_)
            ·
              refine z_iconst C d_M_advance_124 ?_
              refine z_put C f_M_92 ok_M nm_M d_M_advance_125 0 rfl rfl rfl rfl (Nat.le_of_ble_eq_true rfl) [(aM, .inr (8, [.ref aWc, .int (iI mth), .int (iI msz), .ref aTx, .int (iI mwr), .ref aOu, .int (iI mfa), .int (iI mpl), .int (iI mle), .int (iI mna), .ref aSo, .ref aNf, .ref aNg, .ref aSr, .ref aNu, .ref aMa, .ref aNo, .int (iI mfi), .int (iI mru), .int (iI mnv), .ref aLe, .ref aAc, .ref aDi, .ref aOr, .int (iI 3), .int (iI (lxS (bF sF) mle mto)), .int (iI t), .int (iI (wrN (seg (bF sF) (lxS (bF sF) mle mto).toNat (t - (lxS (bF sF) mle mto)).toNat)))])), iA G aSo 4200 sF, iA G aWc 48 wch] rfl ?_
              refine z_aload_n C d_M_advance_128 0 rfl ?_
              refine z_get C f_M_76 d_M_advance_129 0 rfl rfl ?_
              refine z_aload_n C d_M_advance_132 0 rfl ?_
              refine z_get C f_M_86 d_M_advance_133 0 rfl rfl ?_
              refine z_isub C d_M_advance_136 ?_
              refine z_bipush C d_M_advance_137 (by decide) ?_
              refine z_icmp_le (tgt := 210) C d_M_advance_139 (by decide) (by omega) (by omega) (fun c139 => ?_) (fun c139 => ?_)
              ·
                have hA : t = lxA (bF sF) mle mto := hnm.1.symm
                rw [hnm.1, if_pos c139] at hnm
                have hK : lxK (bF sF) mle mto = nmk (seg (bF sF) (lxS (bF sF) mle mto).toNat (t - lxS (bF sF) mle mto).toNat) := hnm.2
                have h6 : wrN (seg (bF sF) (lxS (bF sF) mle mto).toNat (t - lxS (bF sF) mle mto).toNat) = -1 ∧ nmk (seg (bF sF) (lxS (bF sF) mle mto).toNat (t - lxS (bF sF) mle mto).toNat) = 6 ∨ wrN (seg (bF sF) (lxS (bF sF) mle mto).toNat (t - lxS (bF sF) mle mto).toNat) = nmk (seg (bF sF) (lxS (bF sF) mle mto).toNat (t - lxS (bF sF) mle mto).toNat) - 7 ∧ ¬ nmk (seg (bF sF) (lxS (bF sF) mle mto).toNat (t - lxS (bF sF) mle mto).toNat) = 6 := by split at hwn <;> omega
                exact z_vret C K d_M_advance_210 (3, wrN (seg (bF sF) (lxS (bF sF) mle mto).toNat (t - lxS (bF sF) mle mto).toNat), t, mfa, mpl) (rfl) (show ((lxK (bF sF) mle mto = 1 → mfa = 1 ∧ mpl = lxS (bF sF) mle mto) ∧ (¬ lxK (bF sF) mle mto = 1 → mfa = 0 ∧ mpl = mpl ∧ t = lxA (bF sF) mle mto ∧ kdR (lxK (bF sF) mle mto) 3 (wrN (seg (bF sF) (lxS (bF sF) mle mto).toNat (t - lxS (bF sF) mle mto).toNat)))) ∧ (0 ≤ 3 ∧ 3 ≤ 3 ∧ -1 ≤ (wrN (seg (bF sF) (lxS (bF sF) mle mto).toNat (t - lxS (bF sF) mle mto).toNat)) ∧ (wrN (seg (bF sF) (lxS (bF sF) mle mto).toNat (t - lxS (bF sF) mle mto).toNat)) ≤ 255 ∧ lxS (bF sF) mle mto ≤ t ∧ t ≤ mle) from ⟨⟨fun z => by omega, fun _ => ⟨h0, rfl, hA, ⟨fun z => by omega, fun z => by omega, fun z => by omega, fun _ => ⟨rfl, by omega⟩⟩⟩⟩, by omega⟩)
              ·
                refine z_aload_n C d_M_advance_142 0 rfl ?_
                refine z_iconst C d_M_advance_143 ?_
                refine z_aload_n C d_M_advance_144 0 rfl ?_
                refine z_get C f_M_86 d_M_advance_145 0 rfl rfl ?_
                refine z_callv (As := [.int (iI 1), .int (iI (lxS (bF sF) mle mto))]) (rest := []) (wr := [iA G aSo 4200 sF, iA G aWc 48 wch]) (ws' := fun u => [(aM, .inr (8, [.ref aWc, .int (iI mth), .int (iI msz), .ref aTx, .int (iI mwr), .ref aOu, .int (iI 1), .int (iI (lxS (bF sF) mle mto)), .int (iI mle), .int (iI mna), .ref aSo, .ref aNf, .ref aNg, .ref aSr, .ref aNu, .ref aMa, .ref aNo, .int (iI mfi), .int (iI mru), .int (iI mnv), .ref aLe, .ref aAc, .ref aDi, .ref aOr, .int (iI 3), .int (iI (lxS (bF sF) mle mto)), .int (iI t), .int (iI (wrN (seg (bF sF) (lxS (bF sF) mle mto).toNat (t - (lxS (bF sF) mle mto)).toNat)))])), iA G aSo 4200 sF, iA G aWc 48 wch]) (q0 := 0) C k_M_105 kc_M_tell (fun l sz => m_M_tell l G sz aM aWc aTx aOu aSo aNf aNg aSr aNu aMa aNo aLe aAc aDi aOr mth msz mwr mfa mpl mle mna mfi mru mnv 3 (lxS (bF sF) mle mto) t (wrN (seg (bF sF) (lxS (bF sF) mle mto).toNat (t - (lxS (bF sF) mle mto)).toNat)) 1 (lxS (bF sF) mle mto) (by omega)) rfl rfl (Nat.le_of_ble_eq_true rfl) (by decide) d_M_advance_148 rfl rfl [0] [1, 2] [2, 0, 1] rfl rfl (by decide) (fun u => rfl) (fun u h148 => ?_)
                show Zc G X 2 0 0 [(aM, .inr (8, [.ref aWc, .int (iI mth), .int (iI msz), .ref aTx, .int (iI mwr), .ref aOu, .int (iI 1), .int (iI (lxS (bF sF) mle mto)), .int (iI mle), .int (iI mna), .ref aSo, .ref aNf, .ref aNg, .ref aSr, .ref aNu, .ref aMa, .ref aNo, .int (iI mfi), .int (iI mru), .int (iI mnv), .ref aLe, .ref aAc, .ref aDi, .ref aOr, .int (iI 3), .int (iI (lxS (bF sF) mle mto)), .int (iI t), .int (iI (wrN (seg (bF sF) (lxS (bF sF) mle mto).toNat (t - (lxS (bF sF) mle mto)).toNat)))])), iA G aSo 4200 sF, iA G aWc 48 wch] [(0, .ref aM)] 151 []
                refine z_goto (tgt := 210) C d_M_advance_151 (by decide) ?_
                have hK : lxK (bF sF) mle mto = 1 := by rw [hnm.2, hnm.1, if_neg c139]
                exact z_vret C K d_M_advance_210 (3, wrN (seg (bF sF) (lxS (bF sF) mle mto).toNat (t - lxS (bF sF) mle mto).toNat), t, 1, lxS (bF sF) mle mto) (rfl) (show ((lxK (bF sF) mle mto = 1 → 1 = 1 ∧ (lxS (bF sF) mle mto) = lxS (bF sF) mle mto) ∧ (¬ lxK (bF sF) mle mto = 1 → 1 = 0 ∧ (lxS (bF sF) mle mto) = mpl ∧ t = lxA (bF sF) mle mto ∧ kdR (lxK (bF sF) mle mto) 3 (wrN (seg (bF sF) (lxS (bF sF) mle mto).toNat (t - lxS (bF sF) mle mto).toNat)))) ∧ (0 ≤ 3 ∧ 3 ≤ 3 ∧ -1 ≤ (wrN (seg (bF sF) (lxS (bF sF) mle mto).toNat (t - lxS (bF sF) mle mto).toNat)) ∧ (wrN (seg (bF sF) (lxS (bF sF) mle mto).toNat (t - lxS (bF sF) mle mto).toNat)) ≤ 255 ∧ lxS (bF sF) mle mto ≤ t ∧ t ≤ mle) from ⟨⟨fun _ => ⟨rfl, rfl⟩, fun z => absurd hK z⟩, by rw [hwn]; split <;> omega⟩)
            ·
              refine z_iconst C d_M_advance_120 ?_
              refine z_goto (tgt := 125) C d_M_advance_121 (by decide) ?_
              refine z_put C f_M_92 ok_M nm_M d_M_advance_125 0 rfl rfl rfl rfl (Nat.le_of_ble_eq_true rfl) [(aM, .inr (8, [.ref aWc, .int (iI mth), .int (iI msz), .ref aTx, .int (iI mwr), .ref aOu, .int (iI mfa), .int (iI mpl), .int (iI mle), .int (iI mna), .ref aSo, .ref aNf, .ref aNg, .ref aSr, .ref aNu, .ref aMa, .ref aNo, .int (iI mfi), .int (iI mru), .int (iI mnv), .ref aLe, .ref aAc, .ref aDi, .ref aOr, .int (iI 1), .int (iI (lxS (bF sF) mle mto)), .int (iI t), .int (iI (wrN (seg (bF sF) (lxS (bF sF) mle mto).toNat (t - (lxS (bF sF) mle mto)).toNat)))])), iA G aSo 4200 sF, iA G aWc 48 wch] rfl ?_
              refine z_aload_n C d_M_advance_128 0 rfl ?_
              refine z_get C f_M_76 d_M_advance_129 0 rfl rfl ?_
              refine z_aload_n C d_M_advance_132 0 rfl ?_
              refine z_get C f_M_86 d_M_advance_133 0 rfl rfl ?_
              refine z_isub C d_M_advance_136 ?_
              refine z_bipush C d_M_advance_137 (by decide) ?_
              refine z_icmp_le (tgt := 210) C d_M_advance_139 (by decide) (by omega) (by omega) (fun c139 => ?_) (fun c139 => ?_)
              ·
                have hA : t = lxA (bF sF) mle mto := hnm.1.symm
                rw [hnm.1, if_pos c139] at hnm
                have hK : lxK (bF sF) mle mto = nmk (seg (bF sF) (lxS (bF sF) mle mto).toNat (t - lxS (bF sF) mle mto).toNat) := hnm.2
                have h6 : wrN (seg (bF sF) (lxS (bF sF) mle mto).toNat (t - lxS (bF sF) mle mto).toNat) = -1 ∧ nmk (seg (bF sF) (lxS (bF sF) mle mto).toNat (t - lxS (bF sF) mle mto).toNat) = 6 ∨ wrN (seg (bF sF) (lxS (bF sF) mle mto).toNat (t - lxS (bF sF) mle mto).toNat) = nmk (seg (bF sF) (lxS (bF sF) mle mto).toNat (t - lxS (bF sF) mle mto).toNat) - 7 ∧ ¬ nmk (seg (bF sF) (lxS (bF sF) mle mto).toNat (t - lxS (bF sF) mle mto).toNat) = 6 := by split at hwn <;> omega
                exact z_vret C K d_M_advance_210 (1, wrN (seg (bF sF) (lxS (bF sF) mle mto).toNat (t - lxS (bF sF) mle mto).toNat), t, mfa, mpl) (rfl) (show ((lxK (bF sF) mle mto = 1 → mfa = 1 ∧ mpl = lxS (bF sF) mle mto) ∧ (¬ lxK (bF sF) mle mto = 1 → mfa = 0 ∧ mpl = mpl ∧ t = lxA (bF sF) mle mto ∧ kdR (lxK (bF sF) mle mto) 1 (wrN (seg (bF sF) (lxS (bF sF) mle mto).toNat (t - lxS (bF sF) mle mto).toNat)))) ∧ (0 ≤ 1 ∧ 1 ≤ 3 ∧ -1 ≤ (wrN (seg (bF sF) (lxS (bF sF) mle mto).toNat (t - lxS (bF sF) mle mto).toNat)) ∧ (wrN (seg (bF sF) (lxS (bF sF) mle mto).toNat (t - lxS (bF sF) mle mto).toNat)) ≤ 255 ∧ lxS (bF sF) mle mto ≤ t ∧ t ≤ mle) from ⟨⟨fun z => by omega, fun _ => ⟨h0, rfl, hA, ⟨fun z => by omega, fun z => by omega, fun _ => ⟨rfl, by omega⟩, fun z => by omega⟩⟩⟩, by omega⟩)
              ·
                refine z_aload_n C d_M_advance_142 0 rfl ?_
                refine z_iconst C d_M_advance_143 ?_
                refine z_aload_n C d_M_advance_144 0 rfl ?_
                refine z_get C f_M_86 d_M_advance_145 0 rfl rfl ?_
                refine z_callv (As := [.int (iI 1), .int (iI (lxS (bF sF) mle mto))]) (rest := []) (wr := [iA G aSo 4200 sF, iA G aWc 48 wch]) (ws' := fun u => [(aM, .inr (8, [.ref aWc, .int (iI mth), .int (iI msz), .ref aTx, .int (iI mwr), .ref aOu, .int (iI 1), .int (iI (lxS (bF sF) mle mto)), .int (iI mle), .int (iI mna), .ref aSo, .ref aNf, .ref aNg, .ref aSr, .ref aNu, .ref aMa, .ref aNo, .int (iI mfi), .int (iI mru), .int (iI mnv), .ref aLe, .ref aAc, .ref aDi, .ref aOr, .int (iI 1), .int (iI (lxS (bF sF) mle mto)), .int (iI t), .int (iI (wrN (seg (bF sF) (lxS (bF sF) mle mto).toNat (t - (lxS (bF sF) mle mto)).toNat)))])), iA G aSo 4200 sF, iA G aWc 48 wch]) (q0 := 0) C k_M_105 kc_M_tell (fun l sz => m_M_tell l G sz aM aWc aTx aOu aSo aNf aNg aSr aNu aMa aNo aLe aAc aDi aOr mth msz mwr mfa mpl mle mna mfi mru mnv 1 (lxS (bF sF) mle mto) t (wrN (seg (bF sF) (lxS (bF sF) mle mto).toNat (t - (lxS (bF sF) mle mto)).toNat)) 1 (lxS (bF sF) mle mto) (by omega)) rfl rfl (Nat.le_of_ble_eq_true rfl) (by decide) d_M_advance_148 rfl rfl [0] [1, 2] [2, 0, 1] rfl rfl (by decide) (fun u => rfl) (fun u h148 => ?_)
                show Zc G X 2 0 0 [(aM, .inr (8, [.ref aWc, .int (iI mth), .int (iI msz), .ref aTx, .int (iI mwr), .ref aOu, .int (iI 1), .int (iI (lxS (bF sF) mle mto)), .int (iI mle), .int (iI mna), .ref aSo, .ref aNf, .ref aNg, .ref aSr, .ref aNu, .ref aMa, .ref aNo, .int (iI mfi), .int (iI mru), .int (iI mnv), .ref aLe, .ref aAc, .ref aDi, .ref aOr, .int (iI 1), .int (iI (lxS (bF sF) mle mto)), .int (iI t), .int (iI (wrN (seg (bF sF) (lxS (bF sF) mle mto).toNat (t - (lxS (bF sF) mle mto)).toNat)))])), iA G aSo 4200 sF, iA G aWc 48 wch] [(0, .ref aM)] 151 []
                refine z_goto (tgt := 210) C d_M_advance_151 (by decide) ?_
                have hK : lxK (bF sF) mle mto = 1 := by rw [hnm.2, hnm.1, if_neg c139]
                exact z_vret C K d_M_advance_210 (1, wrN (seg (bF sF) (lxS (bF sF) mle mto).toNat (t - lxS (bF sF) mle mto).toNat), t, 1, lxS (bF sF) mle mto) (rfl) (show ((lxK (bF sF) mle mto = 1 → 1 = 1 ∧ (lxS (bF sF) mle mto) = lxS (bF sF) mle mto) ∧ (¬ lxK (bF sF) mle mto = 1 → 1 = 0 ∧ (lxS (bF sF) mle mto) = mpl ∧ t = lxA (bF sF) mle mto ∧ kdR (lxK (bF sF) mle mto) 1 (wrN (seg (bF sF) (lxS (bF sF) mle mto).toNat (t - lxS (bF sF) mle mto).toNat)))) ∧ (0 ≤ 1 ∧ 1 ≤ 3 ∧ -1 ≤ (wrN (seg (bF sF) (lxS (bF sF) mle mto).toNat (t - lxS (bF sF) mle mto).toNat)) ∧ (wrN (seg (bF sF) (lxS (bF sF) mle mto).toNat (t - lxS (bF sF) mle mto).toNat)) ≤ 255 ∧ lxS (bF sF) mle mto ≤ t ∧ t ≤ mle) from ⟨⟨fun _ => ⟨rfl, rfl⟩, fun z => absurd hK z⟩, by rw [hwn]; split <;> omega⟩)
          ·
            refine z_aload_n C d_M_advance_57 0 rfl ?_
            refine z_get C f_M_19 d_M_advance_58 0 rfl rfl ?_
            refine z_aload_n C d_M_advance_61 0 rfl ?_
            refine z_get C f_M_76 d_M_advance_62 0 rfl rfl ?_
            refine z_iald C d_M_advance_65 1 rfl (by omega) ?_
            refine z_calliS (As := [.int (iI (sF t.toNat))]) (rest := []) (wr := [(aM, .inr (8, [.ref aWc, .int (iI mth), .int (iI msz), .ref aTx, .int (iI mwr), .ref aOu, .int (iI mfa), .int (iI mpl), .int (iI mle), .int (iI mna), .ref aSo, .ref aNf, .ref aNg, .ref aSr, .ref aNu, .ref aMa, .ref aNo, .int (iI mfi), .int (iI mru), .int (iI mnv), .ref aLe, .ref aAc, .ref aDi, .ref aOr, .int (iI 0), .int (iI (lxS (bF sF) mle mto)), .int (iI t), .int (iI mwh)])), iA G aSo 4200 sF, iA G aWc 48 wch]) (ws' := fun u => [(aM, .inr (8, [.ref aWc, .int (iI mth), .int (iI msz), .ref aTx, .int (iI mwr), .ref aOu, .int (iI mfa), .int (iI mpl), .int (iI mle), .int (iI mna), .ref aSo, .ref aNf, .ref aNg, .ref aSr, .ref aNu, .ref aMa, .ref aNo, .int (iI mfi), .int (iI mru), .int (iI mnv), .ref aLe, .ref aAc, .ref aDi, .ref aOr, .int (iI 0), .int (iI (lxS (bF sF) mle mto)), .int (iI t), .int (iI mwh)])), iA G aSo 4200 sF, iA G aWc 48 wch]) C k_M_95 kc_M_isSmall (fun l sz => m_M_isSmall l G sz (sF t.toNat) (by omega)) rfl rfl (Nat.le_of_ble_eq_true rfl) (by decide) d_M_advance_66 [] [0, 1, 2] [0, 1, 2] rfl rfl (by decide) (fun u => rfl) (fun r u h66 => ?_)
            obtain rfl := h66
            show Zc G X 2 0 0 [(aM, .inr (8, [.ref aWc, .int (iI mth), .int (iI msz), .ref aTx, .int (iI mwr), .ref aOu, .int (iI mfa), .int (iI mpl), .int (iI mle), .int (iI mna), .ref aSo, .ref aNf, .ref aNg, .ref aSr, .ref aNu, .ref aMa, .ref aNo, .int (iI mfi), .int (iI mru), .int (iI mnv), .ref aLe, .ref aAc, .ref aDi, .ref aOr, .int (iI 0), .int (iI (lxS (bF sF) mle mto)), .int (iI t), .int (iI mwh)])), iA G aSo 4200 sF, iA G aWc 48 wch] [(0, .ref aM)] 69 [.int (iI (wit (sF t.toNat) 97 122))]
            refine z_if_ne (tgt := 91) C d_M_advance_69 (by decide) (by omega) (fun c69 => ?_) (fun c69 => ?_)
            ·
              refine z_aload_n C d_M_advance_91 0 rfl ?_
              refine z_dup C d_M_advance_92 rfl ?_
              refine z_get C f_M_76 d_M_advance_93 0 rfl rfl ?_
              refine z_iconst C d_M_advance_96 ?_
              refine z_iadd C d_M_advance_97 ?_
              refine z_put C f_M_76 ok_M nm_M d_M_advance_98 0 rfl rfl rfl rfl (Nat.le_of_ble_eq_true rfl) [(aM, .inr (8, [.ref aWc, .int (iI mth), .int (iI msz), .ref aTx, .int (iI mwr), .ref aOu, .int (iI mfa), .int (iI mpl), .int (iI mle), .int (iI mna), .ref aSo, .ref aNf, .ref aNg, .ref aSr, .ref aNu, .ref aMa, .ref aNo, .int (iI mfi), .int (iI mru), .int (iI mnv), .ref aLe, .ref aAc, .ref aDi, .ref aOr, .int (iI 0), .int (iI (lxS (bF sF) mle mto)), .int (iI (t + 1)), .int (iI mwh)])), iA G aSo 4200 sF, iA G aWc 48 wch] rfl ?_
              refine z_goto (tgt := 46) C d_M_advance_101 (by decide) ?_
              refine z_lv [0] (lv' := [(0, .ref aM)]) rfl ?_
              exact ih46 _ (by omega) (by rw [skN_m hu (by omega), if_pos (by omega)] at hE; exact hE) (by omega)
            ·
              refine z_aload_n C d_M_advance_72 0 rfl ?_
              refine z_get C f_M_19 d_M_advance_73 0 rfl rfl ?_
              refine z_aload_n C d_M_advance_76 0 rfl ?_
              refine z_get C f_M_76 d_M_advance_77 0 rfl rfl ?_
              refine z_iald C d_M_advance_80 1 rfl (by omega) ?_
              refine z_bipush C d_M_advance_81 (by decide) ?_
              refine z_bipush C d_M_advance_83 (by decide) ?_
              refine z_calliS (As := [.int (iI (sF t.toNat)), .int (iI 48), .int (iI 57)]) (rest := []) (wr := [(aM, .inr (8, [.ref aWc, .int (iI mth), .int (iI msz), .ref aTx, .int (iI mwr), .ref aOu, .int (iI mfa), .int (iI mpl), .int (iI mle), .int (iI mna), .ref aSo, .ref aNf, .ref aNg, .ref aSr, .ref aNu, .ref aMa, .ref aNo, .int (iI mfi), .int (iI mru), .int (iI mnv), .ref aLe, .ref aAc, .ref aDi, .ref aOr, .int (iI 0), .int (iI (lxS (bF sF) mle mto)), .int (iI t), .int (iI mwh)])), iA G aSo 4200 sF, iA G aWc 48 wch]) (ws' := fun u => [(aM, .inr (8, [.ref aWc, .int (iI mth), .int (iI msz), .ref aTx, .int (iI mwr), .ref aOu, .int (iI mfa), .int (iI mpl), .int (iI mle), .int (iI mna), .ref aSo, .ref aNf, .ref aNg, .ref aSr, .ref aNu, .ref aMa, .ref aNo, .int (iI mfi), .int (iI mru), .int (iI mnv), .ref aLe, .ref aAc, .ref aDi, .ref aOr, .int (iI 0), .int (iI (lxS (bF sF) mle mto)), .int (iI t), .int (iI mwh)])), iA G aSo 4200 sF, iA G aWc 48 wch]) C k_M_66 kc_M_within (fun l sz => m_M_within l G sz (sF t.toNat) 48 57 (by omega) (by omega) (by omega)) rfl rfl (Nat.le_of_ble_eq_true rfl) (by decide) d_M_advance_85 [] [0, 1, 2] [0, 1, 2] rfl rfl (by decide) (fun u => rfl) (fun r u h85 => ?_)
              obtain rfl := h85
              show Zc G X 2 0 0 [(aM, .inr (8, [.ref aWc, .int (iI mth), .int (iI msz), .ref aTx, .int (iI mwr), .ref aOu, .int (iI mfa), .int (iI mpl), .int (iI mle), .int (iI mna), .ref aSo, .ref aNf, .ref aNg, .ref aSr, .ref aNu, .ref aMa, .ref aNo, .int (iI mfi), .int (iI mru), .int (iI mnv), .ref aLe, .ref aAc, .ref aDi, .ref aOr, .int (iI 0), .int (iI (lxS (bF sF) mle mto)), .int (iI t), .int (iI mwh)])), iA G aSo 4200 sF, iA G aWc 48 wch] [(0, .ref aM)] 88 [.int (iI (wit (sF t.toNat) 48 57))]
              refine z_if_eq (tgt := 104) C d_M_advance_88 (by decide) (by omega) (fun c88 => ?_) (fun c88 => ?_)
              ·
                have hte : t = skN (bF sF) (mle - lxS (bF sF) mle mto).toNat (lxS (bF sF) mle mto) := by first | (rw [skN_m hu (by omega), if_neg (by omega)] at hE; exact hE) | (rw [show (mle - t).toNat = 0 by omega] at hE; exact hE)
                have hnm := lx_name (F := bF sF) (n := mle) (p := mto) (by omega) (by omega)
                rw [← hte] at hnm
                have hng := nmk_rg (seg (bF sF) (lxS (bF sF) mle mto).toNat (t - lxS (bF sF) mle mto).toNat)
                have hwn : wrN (seg (bF sF) (lxS (bF sF) mle mto).toNat (t - lxS (bF sF) mle mto).toNat) = if nmk (seg (bF sF) (lxS (bF sF) mle mto).toNat (t - lxS (bF sF) mle mto).toNat) = 6 then -1 else nmk (seg (bF sF) (lxS (bF sF) mle mto).toNat (t - lxS (bF sF) mle mto).toNat) - 7 := rfl
                refine z_aload_n C d_M_advance_104 0 rfl ?_
                refine z_aload_n C d_M_advance_105 0 rfl ?_
                refine z_calli (As := []) (rest := [.ref aM]) (wr := []) (ws' := fun u => [(aM, .inr (8, [.ref aWc, .int (iI mth), .int (iI msz), .ref aTx, .int (iI mwr), .ref aOu, .int (iI mfa), .int (iI mpl), .int (iI mle), .int (iI mna), .ref aSo, .ref aNf, .ref aNg, .ref aSr, .ref aNu, .ref aMa, .ref aNo, .int (iI mfi), .int (iI mru), .int (iI mnv), .ref aLe, .ref aAc, .ref aDi, .ref aOr, .int (iI 0), .int (iI (lxS (bF sF) mle mto)), .int (iI t), .int (iI mwh)])), iA G aSo 4200 sF, iA G aWc 48 wch]) (q0 := 0) C k_M_98 kc_M_wordHere (fun l sz => m_M_wordHere l G sz aM aWc aTx aOu aSo aNf aNg aSr aNu aMa aNo aLe aAc aDi aOr mth msz mwr mfa mpl mle mna mfi mru mnv 0 (lxS (bF sF) mle mto) t mwh sF (by omega) (hu)) rfl rfl (Nat.le_of_ble_eq_true rfl) (by decide) d_M_advance_106 rfl rfl [0, 1, 2] [] [0, 1, 2] rfl rfl (by decide) (fun u => rfl) (fun r u h106 => ?_)
                obtain rfl := h106
                show Zc G X 2 0 0 [(aM, .inr (8, [.ref aWc, .int (iI mth), .int (iI msz), .ref aTx, .int (iI mwr), .ref aOu, .int (iI mfa), .int (iI mpl), .int (iI mle), .int (iI mna), .ref aSo, .ref aNf, .ref aNg, .ref aSr, .ref aNu, .ref aMa, .ref aNo, .int (iI mfi), .int (iI mru), .int (iI mnv), .ref aLe, .ref aAc, .ref aDi, .ref aOr, .int (iI 0), .int (iI (lxS (bF sF) mle mto)), .int (iI t), .int (iI mwh)])), iA G aSo 4200 sF, iA G aWc 48 wch] [(0, .ref aM)] 109 [.int (iI (wrN (seg (bF sF) (lxS (bF sF) mle mto).toNat (t - (lxS (bF sF) mle mto)).toNat))), .ref aM]
                refine z_put C f_M_102 ok_M nm_M d_M_advance_109 0 rfl rfl rfl rfl (Nat.le_of_ble_eq_true rfl) [(aM, .inr (8, [.ref aWc, .int (iI mth), .int (iI msz), .ref aTx, .int (iI mwr), .ref aOu, .int (iI mfa), .int (iI mpl), .int (iI mle), .int (iI mna), .ref aSo, .ref aNf, .ref aNg, .ref aSr, .ref aNu, .ref aMa, .ref aNo, .int (iI mfi), .int (iI mru), .int (iI mnv), .ref aLe, .ref aAc, .ref aDi, .ref aOr, .int (iI 0), .int (iI (lxS (bF sF) mle mto)), .int (iI t), .int (iI (wrN (seg (bF sF) (lxS (bF sF) mle mto).toNat (t - (lxS (bF sF) mle mto)).toNat)))])), iA G aSo 4200 sF, iA G aWc 48 wch] rfl ?_
                refine z_aload_n C d_M_advance_112 0 rfl ?_
                refine z_aload_n C d_M_advance_113 0 rfl ?_
                refine z_get C f_M_102 d_M_advance_114 0 rfl rfl ?_
                refine z_if_ge (tgt := 124) C d_M_advance_117 (by decide) (by rw [hwn]; split <;> omega) (fun c117 => ?_) (fun c117 => ?_)
                ·
                  refine z_iconst C d_M_advance_124 ?_
                  refine z_put C f_M_92 ok_M nm_M d_M_advance_125 0 rfl rfl rfl rfl (Nat.le_of_ble_eq_true rfl) [(aM, .inr (8, [.ref aWc, .int (iI mth), .int (iI msz), .ref aTx, .int (iI mwr), .ref aOu, .int (iI mfa), .int (iI mpl), .int (iI mle), .int (iI mna), .ref aSo, .ref aNf, .ref aNg, .ref aSr, .ref aNu, .ref aMa, .ref aNo, .int (iI mfi), .int (iI mru), .int (iI mnv), .ref aLe, .ref aAc, .ref aDi, .ref aOr, .int (iI 3), .int (iI (lxS (bF sF) mle mto)), .int (iI t), .int (iI (wrN (seg (bF sF) (lxS (bF sF) mle mto).toNat (t - (lxS (bF sF) mle mto)).toNat)))])), iA G aSo 4200 sF, iA G aWc 48 wch] rfl ?_
                  refine z_aload_n C d_M_advance_128 0 rfl ?_
                  refine z_get C f_M_76 d_M_advance_129 0 rfl rfl ?_
                  refine z_aload_n C d_M_advance_132 0 rfl ?_
                  refine z_get C f_M_86 d_M_advance_133 0 rfl rfl ?_
                  refine z_isub C d_M_advance_136 ?_
                  refine z_bipush C d_M_advance_137 (by decide) ?_
                  refine z_icmp_le (tgt := 210) C d_M_advance_139 (by decide) (by omega) (by omega) (fun c139 => ?_) (fun c139 => ?_)
                  ·
                    have hA : t = lxA (bF sF) mle mto := hnm.1.symm
                    rw [hnm.1, if_pos c139] at hnm
                    have hK : lxK (bF sF) mle mto = nmk (seg (bF sF) (lxS (bF sF) mle mto).toNat (t - lxS (bF sF) mle mto).toNat) := hnm.2
                    have h6 : wrN (seg (bF sF) (lxS (bF sF) mle mto).toNat (t - lxS (bF sF) mle mto).toNat) = -1 ∧ nmk (seg (bF sF) (lxS (bF sF) mle mto).toNat (t - lxS (bF sF) mle mto).toNat) = 6 ∨ wrN (seg (bF sF) (lxS (bF sF) mle mto).toNat (t - lxS (bF sF) mle mto).toNat) = nmk (seg (bF sF) (lxS (bF sF) mle mto).toNat (t - lxS (bF sF) mle mto).toNat) - 7 ∧ ¬ nmk (seg (bF sF) (lxS (bF sF) mle mto).toNat (t - lxS (bF sF) mle mto).toNat) = 6 := by split at hwn <;> omega
                    exact z_vret C K d_M_advance_210 (3, wrN (seg (bF sF) (lxS (bF sF) mle mto).toNat (t - lxS (bF sF) mle mto).toNat), t, mfa, mpl) (rfl) (show ((lxK (bF sF) mle mto = 1 → mfa = 1 ∧ mpl = lxS (bF sF) mle mto) ∧ (¬ lxK (bF sF) mle mto = 1 → mfa = 0 ∧ mpl = mpl ∧ t = lxA (bF sF) mle mto ∧ kdR (lxK (bF sF) mle mto) 3 (wrN (seg (bF sF) (lxS (bF sF) mle mto).toNat (t - lxS (bF sF) mle mto).toNat)))) ∧ (0 ≤ 3 ∧ 3 ≤ 3 ∧ -1 ≤ (wrN (seg (bF sF) (lxS (bF sF) mle mto).toNat (t - lxS (bF sF) mle mto).toNat)) ∧ (wrN (seg (bF sF) (lxS (bF sF) mle mto).toNat (t - lxS (bF sF) mle mto).toNat)) ≤ 255 ∧ lxS (bF sF) mle mto ≤ t ∧ t ≤ mle) from ⟨⟨fun z => by omega, fun _ => ⟨h0, rfl, hA, ⟨fun z => by omega, fun z => by omega, fun z => by omega, fun _ => ⟨rfl, by omega⟩⟩⟩⟩, by omega⟩)
                  ·
                    refine z_aload_n C d_M_advance_142 0 rfl ?_
                    refine z_iconst C d_M_advance_143 ?_
                    refine z_aload_n C d_M_advance_144 0 rfl ?_
                    refine z_get C f_M_86 d_M_advance_145 0 rfl rfl ?_
                    refine z_callv (As := [.int (iI 1), .int (iI (lxS (bF sF) mle mto))]) (rest := []) (wr := [iA G aSo 4200 sF, iA G aWc 48 wch]) (ws' := fun u => [(aM, .inr (8, [.ref aWc, .int (iI mth), .int (iI msz), .ref aTx, .int (iI mwr), .ref aOu, .int (iI 1), .int (iI (lxS (bF sF) mle mto)), .int (iI mle), .int (iI mna), .ref aSo, .ref aNf, .ref aNg, .ref aSr, .ref aNu, .ref aMa, .ref aNo, .int (iI mfi), .int (iI mru), .int (iI mnv), .ref aLe, .ref aAc, .ref aDi, .ref aOr, .int (iI 3), .int (iI (lxS (bF sF) mle mto)), .int (iI t), .int (iI (wrN (seg (bF sF) (lxS (bF sF) mle mto).toNat (t - (lxS (bF sF) mle mto)).toNat)))])), iA G aSo 4200 sF, iA G aWc 48 wch]) (q0 := 0) C k_M_105 kc_M_tell (fun l sz => m_M_tell l G sz aM aWc aTx aOu aSo aNf aNg aSr aNu aMa aNo aLe aAc aDi aOr mth msz mwr mfa mpl mle mna mfi mru mnv 3 (lxS (bF sF) mle mto) t (wrN (seg (bF sF) (lxS (bF sF) mle mto).toNat (t - (lxS (bF sF) mle mto)).toNat)) 1 (lxS (bF sF) mle mto) (by omega)) rfl rfl (Nat.le_of_ble_eq_true rfl) (by decide) d_M_advance_148 rfl rfl [0] [1, 2] [2, 0, 1] rfl rfl (by decide) (fun u => rfl) (fun u h148 => ?_)
                    show Zc G X 2 0 0 [(aM, .inr (8, [.ref aWc, .int (iI mth), .int (iI msz), .ref aTx, .int (iI mwr), .ref aOu, .int (iI 1), .int (iI (lxS (bF sF) mle mto)), .int (iI mle), .int (iI mna), .ref aSo, .ref aNf, .ref aNg, .ref aSr, .ref aNu, .ref aMa, .ref aNo, .int (iI mfi), .int (iI mru), .int (iI mnv), .ref aLe, .ref aAc, .ref aDi, .ref aOr, .int (iI 3), .int (iI (lxS (bF sF) mle mto)), .int (iI t), .int (iI (wrN (seg (bF sF) (lxS (bF sF) mle mto).toNat (t - (lxS (bF sF) mle mto)).toNat)))])), iA G aSo 4200 sF, iA G aWc 48 wch] [(0, .ref aM)] 151 []
                    refine z_goto (tgt := 210) C d_M_advance_151 (by decide) ?_
                    have hK : lxK (bF sF) mle mto = 1 := by rw [hnm.2, hnm.1, if_neg c139]
                    exact z_vret C K d_M_advance_210 (3, wrN (seg (bF sF) (lxS (bF sF) mle mto).toNat (t - lxS (bF sF) mle mto).toNat), t, 1, lxS (bF sF) mle mto) (rfl) (show ((lxK (bF sF) mle mto = 1 → 1 = 1 ∧ (lxS (bF sF) mle mto) = lxS (bF sF) mle mto) ∧ (¬ lxK (bF sF) mle mto = 1 → 1 = 0 ∧ (lxS (bF sF) mle mto) = mpl ∧ t = lxA (bF sF) mle mto ∧ kdR (lxK (bF sF) mle mto) 3 (wrN (seg (bF sF) (lxS (bF sF) mle mto).toNat (t - lxS (bF sF) mle mto).toNat)))) ∧ (0 ≤ 3 ∧ 3 ≤ 3 ∧ -1 ≤ (wrN (seg (bF sF) (lxS (bF sF) mle mto).toNat (t - lxS (bF sF) mle mto).toNat)) ∧ (wrN (seg (bF sF) (lxS (bF sF) mle mto).toNat (t - lxS (bF sF) mle mto).toNat)) ≤ 255 ∧ lxS (bF sF) mle mto ≤ t ∧ t ≤ mle) from ⟨⟨fun _ => ⟨rfl, rfl⟩, fun z => absurd hK z⟩, by rw [hwn]; split <;> omega⟩)
                ·
                  refine z_iconst C d_M_advance_120 ?_
                  refine z_goto (tgt := 125) C d_M_advance_121 (by decide) ?_
                  refine z_put C f_M_92 ok_M nm_M d_M_advance_125 0 rfl rfl rfl rfl (Nat.le_of_ble_eq_true rfl) [(aM, .inr (8, [.ref aWc, .int (iI mth), .int (iI msz), .ref aTx, .int (iI mwr), .ref aOu, .int (iI mfa), .int (iI mpl), .int (iI mle), .int (iI mna), .ref aSo, .ref aNf, .ref aNg, .ref aSr, .ref aNu, .ref aMa, .ref aNo, .int (iI mfi), .int (iI mru), .int (iI mnv), .ref aLe, .ref aAc, .ref aDi, .ref aOr, .int (iI 1), .int (iI (lxS (bF sF) mle mto)), .int (iI t), .int (iI (wrN (seg (bF sF) (lxS (bF sF) mle mto).toNat (t - (lxS (bF sF) mle mto)).toNat)))])), iA G aSo 4200 sF, iA G aWc 48 wch] rfl ?_
                  refine z_aload_n C d_M_advance_128 0 rfl ?_
                  refine z_get C f_M_76 d_M_advance_129 0 rfl rfl ?_
                  refine z_aload_n C d_M_advance_132 0 rfl ?_
                  refine z_get C f_M_86 d_M_advance_133 0 rfl rfl ?_
                  refine z_isub C d_M_advance_136 ?_
                  refine z_bipush C d_M_advance_137 (by decide) ?_
                  refine z_icmp_le (tgt := 210) C d_M_advance_139 (by decide) (by omega) (by omega) (fun c139 => ?_) (fun c139 => ?_)
                  ·
                    have hA : t = lxA (bF sF) mle mto := hnm.1.symm
                    rw [hnm.1, if_pos c139] at hnm
                    have hK : lxK (bF sF) mle mto = nmk (seg (bF sF) (lxS (bF sF) mle mto).toNat (t - lxS (bF sF) mle mto).toNat) := hnm.2
                    have h6 : wrN (seg (bF sF) (lxS (bF sF) mle mto).toNat (t - lxS (bF sF) mle mto).toNat) = -1 ∧ nmk (seg (bF sF) (lxS (bF sF) mle mto).toNat (t - lxS (bF sF) mle mto).toNat) = 6 ∨ wrN (seg (bF sF) (lxS (bF sF) mle mto).toNat (t - lxS (bF sF) mle mto).toNat) = nmk (seg (bF sF) (lxS (bF sF) mle mto).toNat (t - lxS (bF sF) mle mto).toNat) - 7 ∧ ¬ nmk (seg (bF sF) (lxS (bF sF) mle mto).toNat (t - lxS (bF sF) mle mto).toNat) = 6 := by split at hwn <;> omega
                    exact z_vret C K d_M_advance_210 (1, wrN (seg (bF sF) (lxS (bF sF) mle mto).toNat (t - lxS (bF sF) mle mto).toNat), t, mfa, mpl) (rfl) (show ((lxK (bF sF) mle mto = 1 → mfa = 1 ∧ mpl = lxS (bF sF) mle mto) ∧ (¬ lxK (bF sF) mle mto = 1 → mfa = 0 ∧ mpl = mpl ∧ t = lxA (bF sF) mle mto ∧ kdR (lxK (bF sF) mle mto) 1 (wrN (seg (bF sF) (lxS (bF sF) mle mto).toNat (t - lxS (bF sF) mle mto).toNat)))) ∧ (0 ≤ 1 ∧ 1 ≤ 3 ∧ -1 ≤ (wrN (seg (bF sF) (lxS (bF sF) mle mto).toNat (t - lxS (bF sF) mle mto).toNat)) ∧ (wrN (seg (bF sF) (lxS (bF sF) mle mto).toNat (t - lxS (bF sF) mle mto).toNat)) ≤ 255 ∧ lxS (bF sF) mle mto ≤ t ∧ t ≤ mle) from ⟨⟨fun z => by omega, fun _ => ⟨h0, rfl, hA, ⟨fun z => by omega, fun z => by omega, fun _ => ⟨rfl, by omega⟩, fun z => by omega⟩⟩⟩, by omega⟩)
                  ·
                    refine z_aload_n C d_M_advance_142 0 rfl ?_
                    refine z_iconst C d_M_advance_143 ?_
                    refine z_aload_n C d_M_advance_144 0 rfl ?_
                    refine z_get C f_M_86 d_M_advance_145 0 rfl rfl ?_
                    refine z_callv (As := [.int (iI 1), .int (iI (lxS (bF sF) mle mto))]) (rest := []) (wr := [iA G aSo 4200 sF, iA G aWc 48 wch]) (ws' := fun u => [(aM, .inr (8, [.ref aWc, .int (iI mth), .int (iI msz), .ref aTx, .int (iI mwr), .ref aOu, .int (iI 1), .int (iI (lxS (bF sF) mle mto)), .int (iI mle), .int (iI mna), .ref aSo, .ref aNf, .ref aNg, .ref aSr, .ref aNu, .ref aMa, .ref aNo, .int (iI mfi), .int (iI mru), .int (iI mnv), .ref aLe, .ref aAc, .ref aDi, .ref aOr, .int (iI 1), .int (iI (lxS (bF sF) mle mto)), .int (iI t), .int (iI (wrN (seg (bF sF) (lxS (bF sF) mle mto).toNat (t - (lxS (bF sF) mle mto)).toNat)))])), iA G aSo 4200 sF, iA G aWc 48 wch]) (q0 := 0) C k_M_105 kc_M_tell (fun l sz => m_M_tell l G sz aM aWc aTx aOu aSo aNf aNg aSr aNu aMa aNo aLe aAc aDi aOr mth msz mwr mfa mpl mle mna mfi mru mnv 1 (lxS (bF sF) mle mto) t (wrN (seg (bF sF) (lxS (bF sF) mle mto).toNat (t - (lxS (bF sF) mle mto)).toNat)) 1 (lxS (bF sF) mle mto) (by omega)) rfl rfl (Nat.le_of_ble_eq_true rfl) (by decide) d_M_advance_148 rfl rfl [0] [1, 2] [2, 0, 1] rfl rfl (by decide) (fun u => rfl) (fun u h148 => ?_)
                    show Zc G X 2 0 0 [(aM, .inr (8, [.ref aWc, .int (iI mth), .int (iI msz), .ref aTx, .int (iI mwr), .ref aOu, .int (iI 1), .int (iI (lxS (bF sF) mle mto)), .int (iI mle), .int (iI mna), .ref aSo, .ref aNf, .ref aNg, .ref aSr, .ref aNu, .ref aMa, .ref aNo, .int (iI mfi), .int (iI mru), .int (iI mnv), .ref aLe, .ref aAc, .ref aDi, .ref aOr, .int (iI 1), .int (iI (lxS (bF sF) mle mto)), .int (iI t), .int (iI (wrN (seg (bF sF) (lxS (bF sF) mle mto).toNat (t - (lxS (bF sF) mle mto)).toNat)))])), iA G aSo 4200 sF, iA G aWc 48 wch] [(0, .ref aM)] 151 []
                    refine z_goto (tgt := 210) C d_M_advance_151 (by decide) ?_
                    have hK : lxK (bF sF) mle mto = 1 := by rw [hnm.2, hnm.1, if_neg c139]
                    exact z_vret C K d_M_advance_210 (1, wrN (seg (bF sF) (lxS (bF sF) mle mto).toNat (t - lxS (bF sF) mle mto).toNat), t, 1, lxS (bF sF) mle mto) (rfl) (show ((lxK (bF sF) mle mto = 1 → 1 = 1 ∧ (lxS (bF sF) mle mto) = lxS (bF sF) mle mto) ∧ (¬ lxK (bF sF) mle mto = 1 → 1 = 0 ∧ (lxS (bF sF) mle mto) = mpl ∧ t = lxA (bF sF) mle mto ∧ kdR (lxK (bF sF) mle mto) 1 (wrN (seg (bF sF) (lxS (bF sF) mle mto).toNat (t - lxS (bF sF) mle mto).toNat)))) ∧ (0 ≤ 1 ∧ 1 ≤ 3 ∧ -1 ≤ (wrN (seg (bF sF) (lxS (bF sF) mle mto).toNat (t - lxS (bF sF) mle mto).toNat)) ∧ (wrN (seg (bF sF) (lxS (bF sF) mle mto).toNat (t - lxS (bF sF) mle mto).toNat)) ≤ 255 ∧ lxS (bF sF) mle mto ≤ t ∧ t ≤ mle) from ⟨⟨fun _ => ⟨rfl, rfl⟩, fun z => absurd hK z⟩, by rw [hwn]; split <;> omega⟩)
              ·
                refine z_aload_n C d_M_advance_91 0 rfl ?_
                refine z_dup C d_M_advance_92 rfl ?_
                refine z_get C f_M_76 d_M_advance_93 0 rfl rfl ?_
                refine z_iconst C d_M_advance_96 ?_
                refine z_iadd C d_M_advance_97 ?_
                refine z_put C f_M_76 ok_M nm_M d_M_advance_98 0 rfl rfl rfl rfl (Nat.le_of_ble_eq_true rfl) [(aM, .inr (8, [.ref aWc, .int (iI mth), .int (iI msz), .ref aTx, .int (iI mwr), .ref aOu, .int (iI mfa), .int (iI mpl), .int (iI mle), .int (iI mna), .ref aSo, .ref aNf, .ref aNg, .ref aSr, .ref aNu, .ref aMa, .ref aNo, .int (iI mfi), .int (iI mru), .int (iI mnv), .ref aLe, .ref aAc, .ref aDi, .ref aOr, .int (iI 0), .int (iI (lxS (bF sF) mle mto)), .int (iI (t + 1)), .int (iI mwh)])), iA G aSo 4200 sF, iA G aWc 48 wch] rfl ?_
                refine z_goto (tgt := 46) C d_M_advance_101 (by decide) ?_
                refine z_lv [0] (lv' := [(0, .ref aM)]) rfl ?_
                exact ih46 _ (by omega) (by rw [skN_m hu (by omega), if_pos (by omega)] at hE; exact hE) (by omega)
      refine z_lv [1] (lv' := [(0, .ref aM)]) rfl ?_
      exact loop46 (_ + 1) _ (by omega) (by omega) (Nat.lt_succ_self _)
  ·
    have hen := lx_end (F := bF sF) (n := mle) (p := mto) (by omega)
    exact z_vret C K d_M_advance_28 (0, mwh, lxS (bF sF) mle mto, mfa, mpl) (rfl) (show ((lxK (bF sF) mle mto = 1 → mfa = 1 ∧ mpl = lxS (bF sF) mle mto) ∧ (¬ lxK (bF sF) mle mto = 1 → mfa = 0 ∧ mpl = mpl ∧ (lxS (bF sF) mle mto) = lxA (bF sF) mle mto ∧ kdR (lxK (bF sF) mle mto) 0 mwh)) ∧ (0 ≤ 0 ∧ 0 ≤ 3 ∧ -1 ≤ mwh ∧ mwh ≤ 255 ∧ lxS (bF sF) mle mto ≤ (lxS (bF sF) mle mto) ∧ (lxS (bF sF) mle mto) ≤ mle) from ⟨⟨fun z => by omega, fun _ => ⟨h0, rfl, hen.1.symm, ⟨fun _ => rfl, fun z => by omega, fun z => by omega, fun z => by omega⟩⟩⟩, by omega⟩)
