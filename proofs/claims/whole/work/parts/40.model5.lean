set_option maxHeartbeats 4000000 in
set_option maxRecDepth 100000 in
theorem m_M_sign (l : Launch) (G : GG) (sz : Nat) (aM : Nat) (aWc : Nat) (aTx : Nat) (aOu : Nat) (aSo : Nat) (aNf : Nat) (aNg : Nat) (aSr : Nat) (aNu : Nat) (aMa : Nat) (aNo : Nat) (aLe : Nat) (aAc : Nat) (aDi : Nat) (aOr : Nat) (mth : Int) (msz : Int) (mwr : Int) (mfa : Int) (mpl : Int) (mle : Int) (mna : Int) (mfi : Int) (mru : Int) (mnv : Int) (mki : Int) (mfr : Int) (mto : Int) (mwh : Int) (sF : Nat → Int) (R : Int × Int × Cf) (p : Int) (c : Cf) (c2 : Cf) (ch : Int) (kd : Int) (hS : Sim R sF mle mfa mpl mfr mto mki mwh p c) (hu : u8 sF) (hn : 0 ≤ mle ∧ mle ≤ 4096) (hq : 0 ≤ mki ∧ mki ≤ 3 ∧ -1 ≤ mwh ∧ mwh ≤ 255 ∧ 0 ≤ mto ∧ mto ≤ mle) (hch : (ch = 58 ∧ kd = 2) ∨ (ch = 59 ∧ kd = 3) ∨ (ch = 44 ∧ kd = 4) ∨ (ch = 62 ∧ kd = 5)) (hst : mfa = 0 → stp c (lxK (bF sF) mle p) (wA (bF sF) mle p) = if lxK (bF sF) mle p = kd then (0, c2) else (2, c)) : MetV l G sz y_M_sign c_M_sign 2 ({ frames := 3, cells := 0, slots := 0, locals := 63 } : Room) [.ref aM, .int (iI ch)] [(aM, .inr (8, [.ref aWc, .int (iI mth), .int (iI msz), .ref aTx, .int (iI mwr), .ref aOu, .int (iI mfa), .int (iI mpl), .int (iI mle), .int (iI mna), .ref aSo, .ref aNf, .ref aNg, .ref aSr, .ref aNu, .ref aMa, .ref aNo, .int (iI mfi), .int (iI mru), .int (iI mnv), .ref aLe, .ref aAc, .ref aDi, .ref aOr, .int (iI mki), .int (iI mfr), .int (iI mto), .int (iI mwh)])), iA G aSo 4200 sF, iA G aWc 48 wch] (fun (u : Int × Int × Int × Int × Int × Int × Int) => (Sim R sF mle u.1 u.2.1 u.2.2.1 u.2.2.2.1 u.2.2.2.2.1 u.2.2.2.2.2.1 u.2.2.2.2.2.2 c2) ∧ (0 ≤ u.2.2.2.2.1 ∧ u.2.2.2.2.1 ≤ 3 ∧ -1 ≤ u.2.2.2.2.2.1 ∧ u.2.2.2.2.2.1 ≤ 255 ∧ 0 ≤ u.2.2.2.1 ∧ u.2.2.2.1 ≤ mle) ∧ (u.1 = 0 → mfa = 0 ∧ p < u.2.2.2.2.2.2)) (fun (u : Int × Int × Int × Int × Int × Int × Int) => [(aM, .inr (8, [.ref aWc, .int (iI mth), .int (iI msz), .ref aTx, .int (iI mwr), .ref aOu, .int (iI u.1), .int (iI u.2.1), .int (iI mle), .int (iI mna), .ref aSo, .ref aNf, .ref aNg, .ref aSr, .ref aNu, .ref aMa, .ref aNo, .int (iI mfi), .int (iI mru), .int (iI mnv), .ref aLe, .ref aAc, .ref aDi, .ref aOr, .int (iI u.2.2.2.2.1), .int (iI u.2.2.1), .int (iI u.2.2.2.1), .int (iI u.2.2.2.2.2.1)])), iA G aSo 4200 sF, iA G aWc 48 wch]) := by
  refine MetV.mk (by decide) (Nat.le_of_ble_eq_true rfl) (fun X C K => ?_)
  show Zc G X 2 0 0 [(aM, .inr (8, [.ref aWc, .int (iI mth), .int (iI msz), .ref aTx, .int (iI mwr), .ref aOu, .int (iI mfa), .int (iI mpl), .int (iI mle), .int (iI mna), .ref aSo, .ref aNf, .ref aNg, .ref aSr, .ref aNu, .ref aMa, .ref aNo, .int (iI mfi), .int (iI mru), .int (iI mnv), .ref aLe, .ref aAc, .ref aDi, .ref aOr, .int (iI mki), .int (iI mfr), .int (iI mto), .int (iI mwh)])), iA G aSo 4200 sF, iA G aWc 48 wch] [(0, .ref aM), (1, .int (iI ch))] 0 []
  have hf07 := Sim_rg hS
  refine z_aload_n C d_M_sign_0 0 rfl ?_
  refine z_get C f_M_70 d_M_sign_1 0 rfl rfl ?_
  refine z_if_le (tgt := 8) C d_M_sign_4 (by decide) (by omega) (fun c4 => ?_) (fun c4 => ?_)
  ·
    have h0 : mfa = 0 := by omega
    obtain ⟨hp, hfr, hto, hkd, hk1, hR⟩ := Sim_0 hS h0
    have hkr := lxK_rg (bF sF) mle p
    have hki := kdR_i hkd (by omega)
    have hlr := lx_rg (bF sF) hp.2
    have hla := lxA_rg (bF sF) hp.2
    have hkc := kd_sg hkd (by omega) hch
    refine z_aload_n C d_M_sign_8 0 rfl ?_
    refine z_iload_n C d_M_sign_9 1 rfl ?_
    refine z_calli (As := [.int (iI ch)]) (rest := []) (wr := [iA G aSo 4200 sF, iA G aWc 48 wch]) (ws' := fun u => [(aM, .inr (8, [.ref aWc, .int (iI mth), .int (iI msz), .ref aTx, .int (iI mwr), .ref aOu, .int (iI mfa), .int (iI mpl), .int (iI mle), .int (iI mna), .ref aSo, .ref aNf, .ref aNg, .ref aSr, .ref aNu, .ref aMa, .ref aNo, .int (iI mfi), .int (iI mru), .int (iI mnv), .ref aLe, .ref aAc, .ref aDi, .ref aOr, .int (iI mki), .int (iI mfr), .int (iI mto), .int (iI mwh)])), iA G aSo 4200 sF, iA G aWc 48 wch]) (q0 := 0) C k_M_109 kc_M_isSign (fun l sz => m_M_isSign l G sz aM aWc aTx aOu aSo aNf aNg aSr aNu aMa aNo aLe aAc aDi aOr mth msz mwr mfa mpl mle mna mfi mru mnv mki mfr mto mwh ch (by omega) (by omega)) rfl rfl (Nat.le_of_ble_eq_true rfl) (by decide) d_M_sign_10 rfl rfl [0] [1, 2] [2, 0, 1] rfl rfl (by decide) (fun u => rfl) (fun r u h10 => ?_)
    obtain rfl := h10
    show Zc G X 2 0 0 [(aM, .inr (8, [.ref aWc, .int (iI mth), .int (iI msz), .ref aTx, .int (iI mwr), .ref aOu, .int (iI mfa), .int (iI mpl), .int (iI mle), .int (iI mna), .ref aSo, .ref aNf, .ref aNg, .ref aSr, .ref aNu, .ref aMa, .ref aNo, .int (iI mfi), .int (iI mru), .int (iI mnv), .ref aLe, .ref aAc, .ref aDi, .ref aOr, .int (iI mki), .int (iI mfr), .int (iI mto), .int (iI mwh)])), iA G aSo 4200 sF, iA G aWc 48 wch] [(0, .ref aM), (1, .int (iI ch))] 13 [.int (iI (if mfa = 0 ∧ mki = 2 ∧ mwh = ch then 1 else 0))]
    refine z_if_ne (tgt := 28) C d_M_sign_13 (by decide) (by split <;> omega) (fun c13 => ?_) (fun c13 => ?_)
    ·
      have hye : lxK (bF sF) mle p = kd := hkc.mp (by split at c13 <;> omega)
      refine z_aload_n C d_M_sign_28 0 rfl ?_
      refine z_callv (As := []) (rest := []) (wr := []) (ws' := fun u => [(aM, .inr (8, [.ref aWc, .int (iI mth), .int (iI msz), .ref aTx, .int (iI mwr), .ref aOu, .int (iI u.2.2.2.1), .int (iI u.2.2.2.2), .int (iI mle), .int (iI mna), .ref aSo, .ref aNf, .ref aNg, .ref aSr, .ref aNu, .ref aMa, .ref aNo, .int (iI mfi), .int (iI mru), .int (iI mnv), .ref aLe, .ref aAc, .ref aDi, .ref aOr, .int (iI u.1), .int (iI (lxS (bF sF) mle mto)), .int (iI u.2.2.1), .int (iI u.2.1)])), iA G aSo 4200 sF, iA G aWc 48 wch]) (q0 := 0) C k_M_112 kc_M_advance (fun l sz => m_M_advance l G sz aM aWc aTx aOu aSo aNf aNg aSr aNu aMa aNo aLe aAc aDi aOr mth msz mwr mfa mpl mle mna mfi mru mnv mki mfr mto mwh sF (by omega) (hu) (h0) (by omega)) rfl rfl (Nat.le_of_ble_eq_true rfl) (by decide) d_M_sign_29 rfl rfl [0, 1, 2] [] [0, 1, 2] rfl rfl (by decide) (fun u => rfl) (fun u h29 => ?_)
      obtain ⟨ki2_29, wh2_29, to2_29, fa2_29, pl2_29⟩ := u
      obtain ⟨ha_29, hr_29⟩ := h29
      have ha_29 : (lxK (bF sF) mle mto = 1 → fa2_29 = 1 ∧ pl2_29 = lxS (bF sF) mle mto) ∧ (¬ lxK (bF sF) mle mto = 1 → fa2_29 = 0 ∧ pl2_29 = mpl ∧ to2_29 = lxA (bF sF) mle mto ∧ kdR (lxK (bF sF) mle mto) ki2_29 wh2_29) := ha_29
      have hr_29 : 0 ≤ ki2_29 ∧ ki2_29 ≤ 3 ∧ -1 ≤ wh2_29 ∧ wh2_29 ≤ 255 ∧ lxS (bF sF) mle mto ≤ to2_29 ∧ to2_29 ≤ mle := hr_29
      show Zc G X 2 0 0 [(aM, .inr (8, [.ref aWc, .int (iI mth), .int (iI msz), .ref aTx, .int (iI mwr), .ref aOu, .int (iI fa2_29), .int (iI pl2_29), .int (iI mle), .int (iI mna), .ref aSo, .ref aNf, .ref aNg, .ref aSr, .ref aNu, .ref aMa, .ref aNo, .int (iI mfi), .int (iI mru), .int (iI mnv), .ref aLe, .ref aAc, .ref aDi, .ref aOr, .int (iI ki2_29), .int (iI (lxS (bF sF) mle mto)), .int (iI to2_29), .int (iI wh2_29)])), iA G aSo 4200 sF, iA G aWc 48 wch] [(0, .ref aM), (1, .int (iI ch))] 32 []
      exact z_vret C K d_M_sign_32 (fa2_29, pl2_29, lxS (bF sF) mle mto, to2_29, ki2_29, wh2_29, mto) (rfl) (show (Sim R sF mle fa2_29 pl2_29 (lxS (bF sF) mle mto) to2_29 ki2_29 wh2_29 mto c2) ∧ (0 ≤ ki2_29 ∧ ki2_29 ≤ 3 ∧ -1 ≤ wh2_29 ∧ wh2_29 ≤ 255 ∧ 0 ≤ to2_29 ∧ to2_29 ≤ mle) ∧ (fa2_29 = 0 → mfa = 0 ∧ p < mto) from ⟨Sim_adv hS h0 (by rw [hst h0, if_pos hye]) (by omega) ha_29, by have h9 := hr_29; have h8 := lx_rg (bF sF) (n := mle) (p := mto) (by omega); omega, fun _ => ⟨h0, by omega⟩⟩)
    ·
      have hno : ¬ lxK (bF sF) mle p = kd := fun z => c13 (by rw [if_pos ⟨h0, hkc.mpr z⟩]; decide)
      refine z_aload_n C d_M_sign_16 0 rfl ?_
      refine z_iconst C d_M_sign_17 ?_
      refine z_aload_n C d_M_sign_18 0 rfl ?_
      refine z_get C f_M_86 d_M_sign_19 0 rfl rfl ?_
      refine z_callv (As := [.int (iI 2), .int (iI mfr)]) (rest := []) (wr := [iA G aSo 4200 sF, iA G aWc 48 wch]) (ws' := fun u => [(aM, .inr (8, [.ref aWc, .int (iI mth), .int (iI msz), .ref aTx, .int (iI mwr), .ref aOu, .int (iI 2), .int (iI mfr), .int (iI mle), .int (iI mna), .ref aSo, .ref aNf, .ref aNg, .ref aSr, .ref aNu, .ref aMa, .ref aNo, .int (iI mfi), .int (iI mru), .int (iI mnv), .ref aLe, .ref aAc, .ref aDi, .ref aOr, .int (iI mki), .int (iI mfr), .int (iI mto), .int (iI mwh)])), iA G aSo 4200 sF, iA G aWc 48 wch]) (q0 := 0) C k_M_105 kc_M_tell (fun l sz => m_M_tell l G sz aM aWc aTx aOu aSo aNf aNg aSr aNu aMa aNo aLe aAc aDi aOr mth msz mwr mfa mpl mle mna mfi mru mnv mki mfr mto mwh 2 mfr (h0)) rfl rfl (Nat.le_of_ble_eq_true rfl) (by decide) d_M_sign_22 rfl rfl [0] [1, 2] [2, 0, 1] rfl rfl (by decide) (fun u => rfl) (fun u h22 => ?_)
      show Zc G X 2 0 0 [(aM, .inr (8, [.ref aWc, .int (iI mth), .int (iI msz), .ref aTx, .int (iI mwr), .ref aOu, .int (iI 2), .int (iI mfr), .int (iI mle), .int (iI mna), .ref aSo, .ref aNf, .ref aNg, .ref aSr, .ref aNu, .ref aMa, .ref aNo, .int (iI mfi), .int (iI mru), .int (iI mnv), .ref aLe, .ref aAc, .ref aDi, .ref aOr, .int (iI mki), .int (iI mfr), .int (iI mto), .int (iI mwh)])), iA G aSo 4200 sF, iA G aWc 48 wch] [(0, .ref aM), (1, .int (iI ch))] 25 []
      refine z_goto (tgt := 32) C d_M_sign_25 (by decide) ?_
      exact z_vret C K d_M_sign_32 (2, mfr, mfr, mto, mki, mwh, p) (rfl) (show (Sim R sF mle 2 mfr mfr mto mki mwh p c2) ∧ (0 ≤ mki ∧ mki ≤ 3 ∧ -1 ≤ mwh ∧ mwh ≤ 255 ∧ 0 ≤ mto ∧ mto ≤ mle) ∧ (2 = 0 → mfa = 0 ∧ p < p) from ⟨Sim_tell hS h0 (by rw [hst h0, if_neg hno]) (by omega) _ _ _ _ _, hq, fun z => absurd z (by decide)⟩)
  ·
    exact z_vret C K d_M_sign_7 (mfa, mpl, mfr, mto, mki, mwh, p) (rfl) (show (Sim R sF mle mfa mpl mfr mto mki mwh p c2) ∧ (0 ≤ mki ∧ mki ≤ 3 ∧ -1 ≤ mwh ∧ mwh ≤ 255 ∧ 0 ≤ mto ∧ mto ≤ mle) ∧ (mfa = 0 → mfa = 0 ∧ p < p) from ⟨Sim_x hS (by omega) _ _ _ _ _ _, hq, fun z => absurd z (by omega)⟩)
set_option maxHeartbeats 4000000 in
set_option maxRecDepth 100000 in
theorem m_M_comma (l : Launch) (G : GG) (sz : Nat) (aM : Nat) (aWc : Nat) (aTx : Nat) (aOu : Nat) (aSo : Nat) (aNf : Nat) (aNg : Nat) (aSr : Nat) (aNu : Nat) (aMa : Nat) (aNo : Nat) (aLe : Nat) (aAc : Nat) (aDi : Nat) (aOr : Nat) (mth : Int) (msz : Int) (mwr : Int) (mfa : Int) (mpl : Int) (mle : Int) (mna : Int) (mfi : Int) (mru : Int) (mnv : Int) (mki : Int) (mfr : Int) (mto : Int) (mwh : Int) (sF : Nat → Int) (R : Int × Int × Cf) (p : Int) (c : Cf) (c2 : Cf) (hS : Sim R sF mle mfa mpl mfr mto mki mwh p c) (hu : u8 sF) (hn : 0 ≤ mle ∧ mle ≤ 4096) (hq : 0 ≤ mki ∧ mki ≤ 3 ∧ -1 ≤ mwh ∧ mwh ≤ 255 ∧ 0 ≤ mto ∧ mto ≤ mle) (hst : mfa = 0 → lxK (bF sF) mle p = 4 → stp c (lxK (bF sF) mle p) (wA (bF sF) mle p) = (0, c2)) : MetI l G sz y_M_comma c_M_comma 1 (some .boolean) ({ frames := 3, cells := 0, slots := 0, locals := 63 } : Room) [.ref aM] [(aM, .inr (8, [.ref aWc, .int (iI mth), .int (iI msz), .ref aTx, .int (iI mwr), .ref aOu, .int (iI mfa), .int (iI mpl), .int (iI mle), .int (iI mna), .ref aSo, .ref aNf, .ref aNg, .ref aSr, .ref aNu, .ref aMa, .ref aNo, .int (iI mfi), .int (iI mru), .int (iI mnv), .ref aLe, .ref aAc, .ref aDi, .ref aOr, .int (iI mki), .int (iI mfr), .int (iI mto), .int (iI mwh)])), iA G aSo 4200 sF, iA G aWc 48 wch] (fun (r : Int32) (u : Int × Int × Int × Int × Int × Int × Int × Int) => r = iI u.1 ∧ ((u.1 = 1 ∧ mfa = 0 ∧ u.2.1 = 0 ∧ p < u.2.2.2.2.2.2.2 ∧ Sim R sF mle u.2.1 u.2.2.1 u.2.2.2.1 u.2.2.2.2.1 u.2.2.2.2.2.1 u.2.2.2.2.2.2.1 u.2.2.2.2.2.2.2 c2) ∨ (u.1 = 0 ∧ ((¬ u.2.1 = 0 ∧ Sim R sF mle u.2.1 u.2.2.1 u.2.2.2.1 u.2.2.2.2.1 u.2.2.2.2.2.1 u.2.2.2.2.2.2.1 u.2.2.2.2.2.2.2 c2) ∨ (u.2.1 = 0 ∧ mfa = 0 ∧ u.2.2.2.2.2.2.2 = p ∧ Sim R sF mle u.2.1 u.2.2.1 u.2.2.2.1 u.2.2.2.2.1 u.2.2.2.2.2.1 u.2.2.2.2.2.2.1 u.2.2.2.2.2.2.2 c ∧ ¬ lxK (bF sF) mle p = 4)))) ∧ (0 ≤ u.2.2.2.2.2.1 ∧ u.2.2.2.2.2.1 ≤ 3 ∧ -1 ≤ u.2.2.2.2.2.2.1 ∧ u.2.2.2.2.2.2.1 ≤ 255 ∧ 0 ≤ u.2.2.2.2.1 ∧ u.2.2.2.2.1 ≤ mle)) (fun (u : Int × Int × Int × Int × Int × Int × Int × Int) => [(aM, .inr (8, [.ref aWc, .int (iI mth), .int (iI msz), .ref aTx, .int (iI mwr), .ref aOu, .int (iI u.2.1), .int (iI u.2.2.1), .int (iI mle), .int (iI mna), .ref aSo, .ref aNf, .ref aNg, .ref aSr, .ref aNu, .ref aMa, .ref aNo, .int (iI mfi), .int (iI mru), .int (iI mnv), .ref aLe, .ref aAc, .ref aDi, .ref aOr, .int (iI u.2.2.2.2.2.1), .int (iI u.2.2.2.1), .int (iI u.2.2.2.2.1), .int (iI u.2.2.2.2.2.2.1)])), iA G aSo 4200 sF, iA G aWc 48 wch]) := by
  refine MetI.mk (by decide) (Nat.le_of_ble_eq_true rfl) (fun X C K => ?_)
  show Zc G X 1 0 0 [(aM, .inr (8, [.ref aWc, .int (iI mth), .int (iI msz), .ref aTx, .int (iI mwr), .ref aOu, .int (iI mfa), .int (iI mpl), .int (iI mle), .int (iI mna), .ref aSo, .ref aNf, .ref aNg, .ref aSr, .ref aNu, .ref aMa, .ref aNo, .int (iI mfi), .int (iI mru), .int (iI mnv), .ref aLe, .ref aAc, .ref aDi, .ref aOr, .int (iI mki), .int (iI mfr), .int (iI mto), .int (iI mwh)])), iA G aSo 4200 sF, iA G aWc 48 wch] [(0, .ref aM)] 0 []
  have hf07 := Sim_rg hS
  refine z_aload_n C d_M_comma_0 0 rfl ?_
  refine z_bipush C d_M_comma_1 (by decide) ?_
  refine z_calli (As := [.int (iI 44)]) (rest := []) (wr := [iA G aSo 4200 sF, iA G aWc 48 wch]) (ws' := fun u => [(aM, .inr (8, [.ref aWc, .int (iI mth), .int (iI msz), .ref aTx, .int (iI mwr), .ref aOu, .int (iI mfa), .int (iI mpl), .int (iI mle), .int (iI mna), .ref aSo, .ref aNf, .ref aNg, .ref aSr, .ref aNu, .ref aMa, .ref aNo, .int (iI mfi), .int (iI mru), .int (iI mnv), .ref aLe, .ref aAc, .ref aDi, .ref aOr, .int (iI mki), .int (iI mfr), .int (iI mto), .int (iI mwh)])), iA G aSo 4200 sF, iA G aWc 48 wch]) (q0 := 0) C k_M_109 kc_M_isSign (fun l sz => m_M_isSign l G sz aM aWc aTx aOu aSo aNf aNg aSr aNu aMa aNo aLe aAc aDi aOr mth msz mwr mfa mpl mle mna mfi mru mnv mki mfr mto mwh 44 (by omega) (by omega)) rfl rfl (Nat.le_of_ble_eq_true rfl) (by decide) d_M_comma_3 rfl rfl [0] [1, 2] [2, 0, 1] rfl rfl (by decide) (fun u => rfl) (fun r u h3 => ?_)
  obtain rfl := h3
  show Zc G X 1 0 0 [(aM, .inr (8, [.ref aWc, .int (iI mth), .int (iI msz), .ref aTx, .int (iI mwr), .ref aOu, .int (iI mfa), .int (iI mpl), .int (iI mle), .int (iI mna), .ref aSo, .ref aNf, .ref aNg, .ref aSr, .ref aNu, .ref aMa, .ref aNo, .int (iI mfi), .int (iI mru), .int (iI mnv), .ref aLe, .ref aAc, .ref aDi, .ref aOr, .int (iI mki), .int (iI mfr), .int (iI mto), .int (iI mwh)])), iA G aSo 4200 sF, iA G aWc 48 wch] [(0, .ref aM)] 6 [.int (iI (if mfa = 0 ∧ mki = 2 ∧ mwh = 44 then 1 else 0))]
  refine z_if_ne (tgt := 11) C d_M_comma_6 (by decide) (by split <;> omega) (fun c6 => ?_) (fun c6 => ?_)
  ·
    have h0 : mfa = 0 := by split at c6 <;> omega
    obtain ⟨hp, hfr, hto, hkd, hk1, hR⟩ := Sim_0 hS h0
    have hkr := lxK_rg (bF sF) mle p
    have hki := kdR_i hkd (by omega)
    have hlr := lx_rg (bF sF) hp.2
    have hla := lxA_rg (bF sF) hp.2
    have hkc := kd_sg (ch := 44) (kd := 4) hkd (by omega) (by omega)
    have hye : lxK (bF sF) mle p = 4 := hkc.mp (by split at c6 <;> omega)
    refine z_aload_n C d_M_comma_11 0 rfl ?_
    refine z_callv (As := []) (rest := []) (wr := []) (ws' := fun u => [(aM, .inr (8, [.ref aWc, .int (iI mth), .int (iI msz), .ref aTx, .int (iI mwr), .ref aOu, .int (iI u.2.2.2.1), .int (iI u.2.2.2.2), .int (iI mle), .int (iI mna), .ref aSo, .ref aNf, .ref aNg, .ref aSr, .ref aNu, .ref aMa, .ref aNo, .int (iI mfi), .int (iI mru), .int (iI mnv), .ref aLe, .ref aAc, .ref aDi, .ref aOr, .int (iI u.1), .int (iI (lxS (bF sF) mle mto)), .int (iI u.2.2.1), .int (iI u.2.1)])), iA G aSo 4200 sF, iA G aWc 48 wch]) (q0 := 0) C k_M_112 kc_M_advance (fun l sz => m_M_advance l G sz aM aWc aTx aOu aSo aNf aNg aSr aNu aMa aNo aLe aAc aDi aOr mth msz mwr mfa mpl mle mna mfi mru mnv mki mfr mto mwh sF (by omega) (hu) (h0) (by omega)) rfl rfl (Nat.le_of_ble_eq_true rfl) (by decide) d_M_comma_12 rfl rfl [0, 1, 2] [] [0, 1, 2] rfl rfl (by decide) (fun u => rfl) (fun u h12 => ?_)
    obtain ⟨ki2_12, wh2_12, to2_12, fa2_12, pl2_12⟩ := u
    obtain ⟨ha_12, hr_12⟩ := h12
    have ha_12 : (lxK (bF sF) mle mto = 1 → fa2_12 = 1 ∧ pl2_12 = lxS (bF sF) mle mto) ∧ (¬ lxK (bF sF) mle mto = 1 → fa2_12 = 0 ∧ pl2_12 = mpl ∧ to2_12 = lxA (bF sF) mle mto ∧ kdR (lxK (bF sF) mle mto) ki2_12 wh2_12) := ha_12
    have hr_12 : 0 ≤ ki2_12 ∧ ki2_12 ≤ 3 ∧ -1 ≤ wh2_12 ∧ wh2_12 ≤ 255 ∧ lxS (bF sF) mle mto ≤ to2_12 ∧ to2_12 ≤ mle := hr_12
    show Zc G X 1 0 0 [(aM, .inr (8, [.ref aWc, .int (iI mth), .int (iI msz), .ref aTx, .int (iI mwr), .ref aOu, .int (iI fa2_12), .int (iI pl2_12), .int (iI mle), .int (iI mna), .ref aSo, .ref aNf, .ref aNg, .ref aSr, .ref aNu, .ref aMa, .ref aNo, .int (iI mfi), .int (iI mru), .int (iI mnv), .ref aLe, .ref aAc, .ref aDi, .ref aOr, .int (iI ki2_12), .int (iI (lxS (bF sF) mle mto)), .int (iI to2_12), .int (iI wh2_12)])), iA G aSo 4200 sF, iA G aWc 48 wch] [(0, .ref aM)] 15 []
    have hsv := Sim_adv hS h0 (hst h0 hye) (by omega) ha_12
    have hfv := Sim_rg hsv
    refine z_aload_n C d_M_comma_15 0 rfl ?_
    refine z_get C f_M_70 d_M_comma_16 0 rfl rfl ?_
    refine z_if_ne (tgt := 26) C d_M_comma_19 (by decide) (by omega) (fun c19 => ?_) (fun c19 => ?_)
    ·
      refine z_iconst C d_M_comma_26 ?_
      exact z_iret C K d_M_comma_27 (by decide) (0, fa2_12, pl2_12, lxS (bF sF) mle mto, to2_12, ki2_12, wh2_12, mto) (rfl) (show iI 0 = iI 0 ∧ ((0 = 1 ∧ mfa = 0 ∧ fa2_12 = 0 ∧ p < mto ∧ Sim R sF mle fa2_12 pl2_12 (lxS (bF sF) mle mto) to2_12 ki2_12 wh2_12 mto c2) ∨ (0 = 0 ∧ ((¬ fa2_12 = 0 ∧ Sim R sF mle fa2_12 pl2_12 (lxS (bF sF) mle mto) to2_12 ki2_12 wh2_12 mto c2) ∨ (fa2_12 = 0 ∧ mfa = 0 ∧ mto = p ∧ Sim R sF mle fa2_12 pl2_12 (lxS (bF sF) mle mto) to2_12 ki2_12 wh2_12 mto c ∧ ¬ lxK (bF sF) mle p = 4)))) ∧ (0 ≤ ki2_12 ∧ ki2_12 ≤ 3 ∧ -1 ≤ wh2_12 ∧ wh2_12 ≤ 255 ∧ 0 ≤ to2_12 ∧ to2_12 ≤ mle) from ⟨rfl, Or.inr ⟨rfl, Or.inl ⟨c19, hsv⟩⟩, by have h9 := hr_12; have h8 := lx_rg (bF sF) (n := mle) (p := mto) (by omega); omega⟩)
    ·
      refine z_iconst C d_M_comma_22 ?_
      refine z_goto (tgt := 27) C d_M_comma_23 (by decide) ?_
      exact z_iret C K d_M_comma_27 (by decide) (1, fa2_12, pl2_12, lxS (bF sF) mle mto, to2_12, ki2_12, wh2_12, mto) (rfl) (show iI 1 = iI 1 ∧ ((1 = 1 ∧ mfa = 0 ∧ fa2_12 = 0 ∧ p < mto ∧ Sim R sF mle fa2_12 pl2_12 (lxS (bF sF) mle mto) to2_12 ki2_12 wh2_12 mto c2) ∨ (1 = 0 ∧ ((¬ fa2_12 = 0 ∧ Sim R sF mle fa2_12 pl2_12 (lxS (bF sF) mle mto) to2_12 ki2_12 wh2_12 mto c2) ∨ (fa2_12 = 0 ∧ mfa = 0 ∧ mto = p ∧ Sim R sF mle fa2_12 pl2_12 (lxS (bF sF) mle mto) to2_12 ki2_12 wh2_12 mto c ∧ ¬ lxK (bF sF) mle p = 4)))) ∧ (0 ≤ ki2_12 ∧ ki2_12 ≤ 3 ∧ -1 ≤ wh2_12 ∧ wh2_12 ≤ 255 ∧ 0 ≤ to2_12 ∧ to2_12 ≤ mle) from ⟨rfl, Or.inl ⟨rfl, h0, by omega, by omega, hsv⟩, by have h9 := hr_12; have h8 := lx_rg (bF sF) (n := mle) (p := mto) (by omega); omega⟩)
  ·
    have hcs := Sim_noc hS c6
    refine z_iconst C d_M_comma_9 ?_
    exact z_iret C K d_M_comma_10 (by decide) (0, mfa, mpl, mfr, mto, mki, mwh, p) (rfl) (show iI 0 = iI 0 ∧ ((0 = 1 ∧ mfa = 0 ∧ mfa = 0 ∧ p < p ∧ Sim R sF mle mfa mpl mfr mto mki mwh p c2) ∨ (0 = 0 ∧ ((¬ mfa = 0 ∧ Sim R sF mle mfa mpl mfr mto mki mwh p c2) ∨ (mfa = 0 ∧ mfa = 0 ∧ p = p ∧ Sim R sF mle mfa mpl mfr mto mki mwh p c ∧ ¬ lxK (bF sF) mle p = 4)))) ∧ (0 ≤ mki ∧ mki ≤ 3 ∧ -1 ≤ mwh ∧ mwh ≤ 255 ∧ 0 ≤ mto ∧ mto ≤ mle) from ⟨rfl, Or.inr ⟨rfl, hcs.elim (fun z => Or.inl ⟨z, Sim_x hS z _ _ _ _ _ _⟩) (fun z => Or.inr ⟨z.1, z.1, rfl, hS, z.2⟩)⟩, hq⟩)
set_option maxHeartbeats 4000000 in
set_option maxRecDepth 100000 in
theorem m_M_takeState (l : Launch) (G : GG) (sz : Nat) (aM : Nat) (aWc : Nat) (aTx : Nat) (aOu : Nat) (aSo : Nat) (aNf : Nat) (aNg : Nat) (aSr : Nat) (aNu : Nat) (aMa : Nat) (aNo : Nat) (aLe : Nat) (aAc : Nat) (aDi : Nat) (aOr : Nat) (mth : Int) (msz : Int) (mwr : Int) (mfa : Int) (mpl : Int) (mle : Int) (mna : Int) (mfi : Int) (mru : Int) (mnv : Int) (mki : Int) (mfr : Int) (mto : Int) (mwh : Int) (sF : Nat → Int) (nf : Nat → Int) (ng : Nat → Int) (sr : Nat → Int) (nu : Nat → Int) (ma : Nat → Int) (no : Nat → Int) (N : NL) (R : Int × Int × Cf) (p : Int) (c : Cf) (c2 : Int → Cf) (hS : Sim R sF mle mfa mpl mfr mto mki mwh p c) (hu : u8 sF) (hn : 0 ≤ mle ∧ mle ≤ 4096) (hq : 0 ≤ mki ∧ mki ≤ 3 ∧ -1 ≤ mwh ∧ mwh ≤ 255 ∧ 0 ≤ mto ∧ mto ≤ mle) (hM : NamM sF nf ng sr nu ma no mna N) (hst : mfa = 0 → stp c (lxK (bF sF) mle p) (wA (bF sF) mle p) = if ¬ ffl N (lxK (bF sF) mle p) (wA (bF sF) mle p) 0 0 = 0 then (ffl N (lxK (bF sF) mle p) (wA (bF sF) mle p) 0 0, c) else (0, c2 (nub N (fdI (wA (bF sF) mle p) N).toNat))) : MetI l G sz y_M_takeState c_M_takeState 2 (some .int) ({ frames := 3, cells := 0, slots := 0, locals := 68 } : Room) [.ref aM] [(aM, .inr (8, [.ref aWc, .int (iI mth), .int (iI msz), .ref aTx, .int (iI mwr), .ref aOu, .int (iI mfa), .int (iI mpl), .int (iI mle), .int (iI mna), .ref aSo, .ref aNf, .ref aNg, .ref aSr, .ref aNu, .ref aMa, .ref aNo, .int (iI mfi), .int (iI mru), .int (iI mnv), .ref aLe, .ref aAc, .ref aDi, .ref aOr, .int (iI mki), .int (iI mfr), .int (iI mto), .int (iI mwh)])), iA G aSo 4200 sF, iA G aWc 48 wch, iA G aNf 40 nf, iA G aNg 40 ng, iA G aSr 40 sr, iA G aNu 40 nu] (fun (r : Int32) (u : Int × Int × Int × Int × Int × Int × Int × Int) => r = iI u.1 ∧ (Sim R sF mle u.2.1 u.2.2.1 u.2.2.2.1 u.2.2.2.2.1 u.2.2.2.2.2.1 u.2.2.2.2.2.2.1 u.2.2.2.2.2.2.2 (c2 u.1)) ∧ (0 ≤ u.2.2.2.2.2.1 ∧ u.2.2.2.2.2.1 ≤ 3 ∧ -1 ≤ u.2.2.2.2.2.2.1 ∧ u.2.2.2.2.2.2.1 ≤ 255 ∧ 0 ≤ u.2.2.2.2.1 ∧ u.2.2.2.2.1 ≤ mle) ∧ (0 ≤ u.1 ∧ u.1 < 16) ∧ (u.2.1 = 0 → mfa = 0 ∧ p < u.2.2.2.2.2.2.2)) (fun (u : Int × Int × Int × Int × Int × Int × Int × Int) => [(aM, .inr (8, [.ref aWc, .int (iI mth), .int (iI msz), .ref aTx, .int (iI mwr), .ref aOu, .int (iI u.2.1), .int (iI u.2.2.1), .int (iI mle), .int (iI mna), .ref aSo, .ref aNf, .ref aNg, .ref aSr, .ref aNu, .ref aMa, .ref aNo, .int (iI mfi), .int (iI mru), .int (iI mnv), .ref aLe, .ref aAc, .ref aDi, .ref aOr, .int (iI u.2.2.2.2.2.1), .int (iI u.2.2.2.1), .int (iI u.2.2.2.2.1), .int (iI u.2.2.2.2.2.2.1)])), iA G aSo 4200 sF, iA G aWc 48 wch, iA G aNf 40 nf, iA G aNg 40 ng, iA G aSr 40 sr, iA G aNu 40 nu]) := by
  refine MetI.mk (by decide) (Nat.le_of_ble_eq_true rfl) (fun X C K => ?_)
  show Zc G X 2 0 0 [(aM, .inr (8, [.ref aWc, .int (iI mth), .int (iI msz), .ref aTx, .int (iI mwr), .ref aOu, .int (iI mfa), .int (iI mpl), .int (iI mle), .int (iI mna), .ref aSo, .ref aNf, .ref aNg, .ref aSr, .ref aNu, .ref aMa, .ref aNo, .int (iI mfi), .int (iI mru), .int (iI mnv), .ref aLe, .ref aAc, .ref aDi, .ref aOr, .int (iI mki), .int (iI mfr), .int (iI mto), .int (iI mwh)])), iA G aSo 4200 sF, iA G aWc 48 wch, iA G aNf 40 nf, iA G aNg 40 ng, iA G aSr 40 sr, iA G aNu 40 nu] [(0, .ref aM)] 0 []
  have hf07 := Sim_rg hS
  refine z_aload_n C d_M_takeState_0 0 rfl ?_
  refine z_iconst C d_M_takeState_1 ?_
  refine z_iconst C d_M_takeState_2 ?_
  refine z_calli (As := [.int (iI 0), .int (iI 0)]) (rest := []) (wr := [iA G aWc 48 wch, iA G aNu 40 nu]) (ws' := fun u => [(aM, .inr (8, [.ref aWc, .int (iI mth), .int (iI msz), .ref aTx, .int (iI mwr), .ref aOu, .int (iI u.2.1), .int (iI u.2.2), .int (iI mle), .int (iI mna), .ref aSo, .ref aNf, .ref aNg, .ref aSr, .ref aNu, .ref aMa, .ref aNo, .int (iI mfi), .int (iI mru), .int (iI mnv), .ref aLe, .ref aAc, .ref aDi, .ref aOr, .int (iI mki), .int (iI mfr), .int (iI mto), .int (iI mwh)])), iA G aSo 4200 sF, iA G aWc 48 wch, iA G aNf 40 nf, iA G aNg 40 ng, iA G aSr 40 sr, iA G aNu 40 nu]) (q0 := 0) C k_M_124 kc_M_oldName (fun l sz => m_M_oldName l G sz aM aWc aTx aOu aSo aNf aNg aSr aNu aMa aNo aLe aAc aDi aOr mth msz mwr mfa mpl mle mna mfi mru mnv mki mfr mto mwh sF nf ng sr nu ma no N R p c 0 0 (hS) (hu) (hn) (hq) (hM) (by omega)) rfl rfl (Nat.le_of_ble_eq_true rfl) (by decide) d_M_takeState_3 rfl rfl [0, 1, 3, 4, 5] [2, 6] [2, 3, 0, 4, 5, 6, 1] rfl rfl (by decide) (fun u => rfl) (fun r u h3 => ?_)
  obtain ⟨rr_3, fa2_3, pl2_3⟩ := u
  obtain ⟨rfl, hx_3, ho_3⟩ := h3
  have hx_3 : ¬ mfa = 0 → fa2_3 = mfa ∧ pl2_3 = mpl ∧ rr_3 = 0 := hx_3
  have ho_3 : mfa = 0 → (ffl N (lxK (bF sF) mle p) (wA (bF sF) mle p) 0 0 = 0 → fa2_3 = 0 ∧ pl2_3 = mpl ∧ rr_3 = fdI (wA (bF sF) mle p) N) ∧ (¬ ffl N (lxK (bF sF) mle p) (wA (bF sF) mle p) 0 0 = 0 → fa2_3 = ffl N (lxK (bF sF) mle p) (wA (bF sF) mle p) 0 0 ∧ pl2_3 = mfr ∧ rr_3 = 0) := ho_3
  show Zc G X 2 0 0 [(aM, .inr (8, [.ref aWc, .int (iI mth), .int (iI msz), .ref aTx, .int (iI mwr), .ref aOu, .int (iI fa2_3), .int (iI pl2_3), .int (iI mle), .int (iI mna), .ref aSo, .ref aNf, .ref aNg, .ref aSr, .ref aNu, .ref aMa, .ref aNo, .int (iI mfi), .int (iI mru), .int (iI mnv), .ref aLe, .ref aAc, .ref aDi, .ref aOr, .int (iI mki), .int (iI mfr), .int (iI mto), .int (iI mwh)])), iA G aSo 4200 sF, iA G aWc 48 wch, iA G aNf 40 nf, iA G aNg 40 ng, iA G aSr 40 sr, iA G aNu 40 nu] [(0, .ref aM)] 6 [.int (iI rr_3)]
  refine z_istore_n (lv' := [(1, .int (iI rr_3)), (0, .ref aM)]) C d_M_takeState_6 (by decide) rfl ?_
  have hfg := Sim_okf hx_3 ho_3 hf07
  refine z_aload_n C d_M_takeState_7 1 rfl ?_
  refine z_get C f_M_70 d_M_takeState_8 0 rfl rfl ?_
  refine z_if_le (tgt := 16) C d_M_takeState_11 (by decide) (by omega) (fun c11 => ?_) (fun c11 => ?_)
  ·
    have hfz : fa2_3 = 0 := by omega
    have h0 : mfa = 0 := Decidable.byContradiction (fun z => by have := hx_3 z; omega)
    obtain ⟨hp, hfr, hto, hkd, hk1, hR⟩ := Sim_0 hS h0
    have hkr := lxK_rg (bF sF) mle p
    have hki := kdR_i hkd (by omega)
    have hlr := lx_rg (bF sF) hp.2
    have hla := lxA_rg (bF sF) hp.2
    have hffr := ffl_rg N (lxK (bF sF) mle p) (wA (bF sF) mle p) 0 0
    have hff : ffl N (lxK (bF sF) mle p) (wA (bF sF) mle p) 0 0 = 0 := Decidable.byContradiction (fun z => by have := (ho_3 h0).2 z; omega)
    have hoo := (ho_3 h0).1 hff
    have hz := ffl_0 hff
    have hfx := fdI_rg (wA (bF sF) mle p) N
    have hml := hM.1
    have hm4 := hM.2.1
    have hnk := hM.2.2.1 (fdI (wA (bF sF) mle p) N).toNat (by omega)
    have hcn := hM.2.2.2.2.1
    have hct := hM.2.2.2.1
    unfold cnt at hcn
    have hcl := cN_lt (N := N) (i := (fdI (wA (bF sF) mle p) N).toNat) (by omega)
    have hcz := cN_nn (sor N (fdI (wA (bF sF) mle p) N).toNat) (N.take (fdI (wA (bF sF) mle p) N).toNat)
    have hnb : nub N (fdI (wA (bF sF) mle p) N).toNat = cN (sor N (fdI (wA (bF sF) mle p) N).toNat) (N.take (fdI (wA (bF sF) mle p) N).toNat) := rfl
    have hs0 : sor N (fdI (wA (bF sF) mle p) N).toNat = 0 := by omega
    rw [hs0] at hcl hcz hnb
    refine z_aload_n C d_M_takeState_16 1 rfl ?_
    refine z_callv (As := []) (rest := []) (wr := [iA G aNf 40 nf, iA G aNg 40 ng, iA G aSr 40 sr, iA G aNu 40 nu]) (ws' := fun u => [(aM, .inr (8, [.ref aWc, .int (iI mth), .int (iI msz), .ref aTx, .int (iI mwr), .ref aOu, .int (iI u.2.2.2.1), .int (iI u.2.2.2.2), .int (iI mle), .int (iI mna), .ref aSo, .ref aNf, .ref aNg, .ref aSr, .ref aNu, .ref aMa, .ref aNo, .int (iI mfi), .int (iI mru), .int (iI mnv), .ref aLe, .ref aAc, .ref aDi, .ref aOr, .int (iI u.1), .int (iI (lxS (bF sF) mle mto)), .int (iI u.2.2.1), .int (iI u.2.1)])), iA G aSo 4200 sF, iA G aWc 48 wch, iA G aNf 40 nf, iA G aNg 40 ng, iA G aSr 40 sr, iA G aNu 40 nu]) (q0 := 0) C k_M_112 kc_M_advance (fun l sz => m_M_advance l G sz aM aWc aTx aOu aSo aNf aNg aSr aNu aMa aNo aLe aAc aDi aOr mth msz mwr fa2_3 pl2_3 mle mna mfi mru mnv mki mfr mto mwh sF (by omega) (hu) (hfz) (by omega)) rfl rfl (Nat.le_of_ble_eq_true rfl) (by decide) d_M_takeState_17 rfl rfl [0, 1, 2] [3, 4, 5, 6] [4, 5, 6, 0, 1, 2, 3] rfl rfl (by decide) (fun u => rfl) (fun u h17 => ?_)
    obtain ⟨ki2_17, wh2_17, to2_17, fa2_17, pl2_17⟩ := u
    obtain ⟨ha_17, hr_17⟩ := h17
    have ha_17 : (lxK (bF sF) mle mto = 1 → fa2_17 = 1 ∧ pl2_17 = lxS (bF sF) mle mto) ∧ (¬ lxK (bF sF) mle mto = 1 → fa2_17 = 0 ∧ pl2_17 = pl2_3 ∧ to2_17 = lxA (bF sF) mle mto ∧ kdR (lxK (bF sF) mle mto) ki2_17 wh2_17) := ha_17
    have hr_17 : 0 ≤ ki2_17 ∧ ki2_17 ≤ 3 ∧ -1 ≤ wh2_17 ∧ wh2_17 ≤ 255 ∧ lxS (bF sF) mle mto ≤ to2_17 ∧ to2_17 ≤ mle := hr_17
    show Zc G X 2 0 0 [(aM, .inr (8, [.ref aWc, .int (iI mth), .int (iI msz), .ref aTx, .int (iI mwr), .ref aOu, .int (iI fa2_17), .int (iI pl2_17), .int (iI mle), .int (iI mna), .ref aSo, .ref aNf, .ref aNg, .ref aSr, .ref aNu, .ref aMa, .ref aNo, .int (iI mfi), .int (iI mru), .int (iI mnv), .ref aLe, .ref aAc, .ref aDi, .ref aOr, .int (iI ki2_17), .int (iI (lxS (bF sF) mle mto)), .int (iI to2_17), .int (iI wh2_17)])), iA G aSo 4200 sF, iA G aWc 48 wch, iA G aNf 40 nf, iA G aNg 40 ng, iA G aSr 40 sr, iA G aNu 40 nu] [(1, .int (iI rr_3)), (0, .ref aM)] 20 []
    refine z_aload_n C d_M_takeState_20 1 rfl ?_
    refine z_get C f_M_31 d_M_takeState_21 0 rfl rfl ?_
    refine z_iload_n C d_M_takeState_24 0 rfl ?_
    refine z_iald C d_M_takeState_25 6 rfl (by omega) ?_
    have hpl : pl2_3 = mpl := hoo.2.1
    have hvv : nu rr_3.toNat = nub N (fdI (wA (bF sF) mle p) N).toNat := by rw [hoo.2.2]; exact hnk.2.2.2.2.2.2.2.1
    rw [hpl] at ha_17
    exact z_iret C K d_M_takeState_26 (rfl) (nub N (fdI (wA (bF sF) mle p) N).toNat, fa2_17, pl2_17, lxS (bF sF) mle mto, to2_17, ki2_17, wh2_17, mto) (rfl) (show iI (nu rr_3.toNat) = iI (nub N (fdI (wA (bF sF) mle p) N).toNat) ∧ (Sim R sF mle fa2_17 pl2_17 (lxS (bF sF) mle mto) to2_17 ki2_17 wh2_17 mto (c2 (nub N (fdI (wA (bF sF) mle p) N).toNat))) ∧ (0 ≤ ki2_17 ∧ ki2_17 ≤ 3 ∧ -1 ≤ wh2_17 ∧ wh2_17 ≤ 255 ∧ 0 ≤ to2_17 ∧ to2_17 ≤ mle) ∧ (0 ≤ (nub N (fdI (wA (bF sF) mle p) N).toNat) ∧ (nub N (fdI (wA (bF sF) mle p) N).toNat) < 16) ∧ (fa2_17 = 0 → mfa = 0 ∧ p < mto) from ⟨congrArg iI hvv, Sim_adv hS h0 (by rw [hst h0, if_neg (fun z => z hff)]) (by omega) ha_17, by have h9 := hr_17; have h8 := lx_rg (bF sF) (n := mle) (p := mto) (by omega); omega, by omega, fun _ => ⟨h0, by omega⟩⟩)
  ·
    have hsx : Sim R sF mle fa2_3 pl2_3 mfr mto mki mwh p (c2 0) := Sim_fail hS hx_3 ho_3 (fun e z => by rw [hst e, if_pos z]) (by omega) _ _ _ _ _
    refine z_iconst C d_M_takeState_14 ?_
    exact z_iret C K d_M_takeState_15 (rfl) (0, fa2_3, pl2_3, mfr, mto, mki, mwh, p) (rfl) (show iI 0 = iI 0 ∧ (Sim R sF mle fa2_3 pl2_3 mfr mto mki mwh p (c2 0)) ∧ (0 ≤ mki ∧ mki ≤ 3 ∧ -1 ≤ mwh ∧ mwh ≤ 255 ∧ 0 ≤ mto ∧ mto ≤ mle) ∧ (0 ≤ 0 ∧ 0 < 16) ∧ (fa2_3 = 0 → mfa = 0 ∧ p < p) from ⟨rfl, hsx, hq, by omega, fun z => absurd z (by omega)⟩)
