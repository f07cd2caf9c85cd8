set_option maxHeartbeats 4000000 in
set_option maxRecDepth 100000 in
theorem m_M_events (l : Launch) (G : GG) (sz : Nat) (aM : Nat) (aWc : Nat) (aTx : Nat) (aOu : Nat) (aSo : Nat) (aNf : Nat) (aNg : Nat) (aSr : Nat) (aNu : Nat) (aMa : Nat) (aNo : Nat) (aLe : Nat) (aAc : Nat) (aDi : Nat) (aOr : Nat) (mth : Int) (msz : Int) (mwr : Int) (mfa : Int) (mpl : Int) (mle : Int) (mna : Int) (mfi : Int) (mru : Int) (mnv : Int) (mki : Int) (mfr : Int) (mto : Int) (mwh : Int) (ma : Nat → Int)  : MetI l G sz y_M_events c_M_events 1 (some .int) ({ frames := 0, cells := 0, slots := 0, locals := 0 } : Room) [.ref aM] [(aM, .inr (8, [.ref aWc, .int (iI mth), .int (iI msz), .ref aTx, .int (iI mwr), .ref aOu, .int (iI mfa), .int (iI mpl), .int (iI mle), .int (iI mna), .ref aSo, .ref aNf, .ref aNg, .ref aSr, .ref aNu, .ref aMa, .ref aNo, .int (iI mfi), .int (iI mru), .int (iI mnv), .ref aLe, .ref aAc, .ref aDi, .ref aOr, .int (iI mki), .int (iI mfr), .int (iI mto), .int (iI mwh)])), iA G aMa 3 ma] (fun (r : Int32) (u : Unit) => r = iI (ma 1 + ma 2)) (fun (u : Unit) => [(aM, .inr (8, [.ref aWc, .int (iI mth), .int (iI msz), .ref aTx, .int (iI mwr), .ref aOu, .int (iI mfa), .int (iI mpl), .int (iI mle), .int (iI mna), .ref aSo, .ref aNf, .ref aNg, .ref aSr, .ref aNu, .ref aMa, .ref aNo, .int (iI mfi), .int (iI mru), .int (iI mnv), .ref aLe, .ref aAc, .ref aDi, .ref aOr, .int (iI mki), .int (iI mfr), .int (iI mto), .int (iI mwh)])), iA G aMa 3 ma]) := by
  refine MetI.mk (by decide) (Nat.le_of_ble_eq_true rfl) (fun X C K => ?_)
  show Zc G X 1 0 0 [(aM, .inr (8, [.ref aWc, .int (iI mth), .int (iI msz), .ref aTx, .int (iI mwr), .ref aOu, .int (iI mfa), .int (iI mpl), .int (iI mle), .int (iI mna), .ref aSo, .ref aNf, .ref aNg, .ref aSr, .ref aNu, .ref aMa, .ref aNo, .int (iI mfi), .int (iI mru), .int (iI mnv), .ref aLe, .ref aAc, .ref aDi, .ref aOr, .int (iI mki), .int (iI mfr), .int (iI mto), .int (iI mwh)])), iA G aMa 3 ma] [(0, .ref aM)] 0 []
  refine z_aload_n C d_M_events_0 0 rfl ?_
  refine z_get C f_M_34 d_M_events_1 0 rfl rfl ?_
  refine z_iconst C d_M_events_4 ?_
  refine z_iald C d_M_events_5 1 rfl (by omega) ?_
  refine z_topi (y := iI (ma 1)) (rfl) ?_
  refine z_aload_n C d_M_events_6 0 rfl ?_
  refine z_get C f_M_34 d_M_events_7 0 rfl rfl ?_
  refine z_iconst C d_M_events_10 ?_
  refine z_iald C d_M_events_11 1 rfl (by omega) ?_
  refine z_topi (y := iI (ma 2)) (rfl) ?_
  refine z_iadd C d_M_events_12 ?_
  exact z_iret C K d_M_events_13 (rfl) () (rfl) (congrArg iI (by omega))
set_option maxHeartbeats 4000000 in
set_option maxRecDepth 100000 in
theorem m_M_slotOf (l : Launch) (G : GG) (sz : Nat) (aM : Nat) (aWc : Nat) (aTx : Nat) (aOu : Nat) (aSo : Nat) (aNf : Nat) (aNg : Nat) (aSr : Nat) (aNu : Nat) (aMa : Nat) (aNo : Nat) (aLe : Nat) (aAc : Nat) (aDi : Nat) (aOr : Nat) (mth : Int) (msz : Int) (mwr : Int) (mfa : Int) (mpl : Int) (mle : Int) (mna : Int) (mfi : Int) (mru : Int) (mnv : Int) (mki : Int) (mfr : Int) (mto : Int) (mwh : Int) (ma : Nat → Int) (e : Int) (h1 : 0 ≤ e ∧ e ≤ 1000 ∧ 0 ≤ ma 1 ∧ ma 1 ≤ 8) : MetI l G sz y_M_slotOf c_M_slotOf 2 (some .int) ({ frames := 0, cells := 0, slots := 0, locals := 0 } : Room) [.ref aM, .int (iI e)] [(aM, .inr (8, [.ref aWc, .int (iI mth), .int (iI msz), .ref aTx, .int (iI mwr), .ref aOu, .int (iI mfa), .int (iI mpl), .int (iI mle), .int (iI mna), .ref aSo, .ref aNf, .ref aNg, .ref aSr, .ref aNu, .ref aMa, .ref aNo, .int (iI mfi), .int (iI mru), .int (iI mnv), .ref aLe, .ref aAc, .ref aDi, .ref aOr, .int (iI mki), .int (iI mfr), .int (iI mto), .int (iI mwh)])), iA G aMa 3 ma] (fun (r : Int32) (u : Unit) => r = iI (evs (ma 1) e - 16)) (fun (u : Unit) => [(aM, .inr (8, [.ref aWc, .int (iI mth), .int (iI msz), .ref aTx, .int (iI mwr), .ref aOu, .int (iI mfa), .int (iI mpl), .int (iI mle), .int (iI mna), .ref aSo, .ref aNf, .ref aNg, .ref aSr, .ref aNu, .ref aMa, .ref aNo, .int (iI mfi), .int (iI mru), .int (iI mnv), .ref aLe, .ref aAc, .ref aDi, .ref aOr, .int (iI mki), .int (iI mfr), .int (iI mto), .int (iI mwh)])), iA G aMa 3 ma]) := by
  refine MetI.mk (by decide) (Nat.le_of_ble_eq_true rfl) (fun X C K => ?_)
  show Zc G X 2 0 0 [(aM, .inr (8, [.ref aWc, .int (iI mth), .int (iI msz), .ref aTx, .int (iI mwr), .ref aOu, .int (iI mfa), .int (iI mpl), .int (iI mle), .int (iI mna), .ref aSo, .ref aNf, .ref aNg, .ref aSr, .ref aNu, .ref aMa, .ref aNo, .int (iI mfi), .int (iI mru), .int (iI mnv), .ref aLe, .ref aAc, .ref aDi, .ref aOr, .int (iI mki), .int (iI mfr), .int (iI mto), .int (iI mwh)])), iA G aMa 3 ma] [(0, .ref aM), (1, .int (iI e))] 0 []
  refine z_iload_n C d_M_slotOf_0 1 rfl ?_
  refine z_aload_n C d_M_slotOf_1 0 rfl ?_
  refine z_get C f_M_34 d_M_slotOf_2 0 rfl rfl ?_
  refine z_iconst C d_M_slotOf_5 ?_
  refine z_iald C d_M_slotOf_6 1 rfl (by omega) ?_
  refine z_topi (y := iI (ma 1)) (rfl) ?_
  refine z_icmp_ge (tgt := 14) C d_M_slotOf_7 (by decide) (by omega) (by omega) (fun c7 => ?_) (fun c7 => ?_)
  ·
    refine z_bipush C d_M_slotOf_14 (by decide) ?_
    refine z_iload_n C d_M_slotOf_16 1 rfl ?_
    refine z_iadd C d_M_slotOf_17 ?_
    refine z_aload_n C d_M_slotOf_18 0 rfl ?_
    refine z_get C f_M_34 d_M_slotOf_19 0 rfl rfl ?_
    refine z_iconst C d_M_slotOf_22 ?_
    refine z_iald C d_M_slotOf_23 1 rfl (by omega) ?_
    refine z_topi (y := iI (ma 1)) (rfl) ?_
    refine z_isub C d_M_slotOf_24 ?_
    exact z_iret C K d_M_slotOf_25 (rfl) () (rfl) (congrArg iI (by unfold evs; split <;> omega))
  ·
    refine z_iload_n C d_M_slotOf_10 1 rfl ?_
    refine z_goto (tgt := 25) C d_M_slotOf_11 (by decide) ?_
    exact z_iret C K d_M_slotOf_25 (rfl) () (rfl) (congrArg iI (by unfold evs; split <;> omega))
set_option maxHeartbeats 4000000 in
set_option maxRecDepth 100000 in
theorem m_M_isPair (l : Launch) (G : GG) (sz : Nat) (aM : Nat) (aWc : Nat) (aTx : Nat) (aOu : Nat) (aSo : Nat) (aNf : Nat) (aNg : Nat) (aSr : Nat) (aNu : Nat) (aMa : Nat) (aNo : Nat) (aLe : Nat) (aAc : Nat) (aDi : Nat) (aOr : Nat) (mth : Int) (msz : Int) (mwr : Int) (mfa : Int) (mpl : Int) (mle : Int) (mna : Int) (mfi : Int) (mru : Int) (mnv : Int) (mki : Int) (mfr : Int) (mto : Int) (mwh : Int) (ma : Nat → Int) (s : Int) (e : Int) (hct : cnt ma) (h1 : -2147483648 ≤ s ∧ s ≤ 2147483647 ∧ -2147483648 ≤ e ∧ e ≤ 2147483647) : MetI l G sz y_M_isPair c_M_isPair 3 (some .boolean) ({ frames := 1, cells := 0, slots := 0, locals := 22 } : Room) [.ref aM, .int (iI s), .int (iI e)] [(aM, .inr (8, [.ref aWc, .int (iI mth), .int (iI msz), .ref aTx, .int (iI mwr), .ref aOu, .int (iI mfa), .int (iI mpl), .int (iI mle), .int (iI mna), .ref aSo, .ref aNf, .ref aNg, .ref aSr, .ref aNu, .ref aMa, .ref aNo, .int (iI mfi), .int (iI mru), .int (iI mnv), .ref aLe, .ref aAc, .ref aDi, .ref aOr, .int (iI mki), .int (iI mfr), .int (iI mto), .int (iI mwh)])), iA G aMa 3 ma] (fun (r : Int32) (u : Int) => r = iI u ∧ ((u = 1 ∧ (0 ≤ s ∧ s < ma 0 ∧ 0 ≤ e ∧ e < ma 1 + ma 2)) ∨ (u = 0 ∧ ¬ (0 ≤ s ∧ s < ma 0 ∧ 0 ≤ e ∧ e < ma 1 + ma 2)))) (fun (u : Int) => [(aM, .inr (8, [.ref aWc, .int (iI mth), .int (iI msz), .ref aTx, .int (iI mwr), .ref aOu, .int (iI mfa), .int (iI mpl), .int (iI mle), .int (iI mna), .ref aSo, .ref aNf, .ref aNg, .ref aSr, .ref aNu, .ref aMa, .ref aNo, .int (iI mfi), .int (iI mru), .int (iI mnv), .ref aLe, .ref aAc, .ref aDi, .ref aOr, .int (iI mki), .int (iI mfr), .int (iI mto), .int (iI mwh)])), iA G aMa 3 ma]) := by
  refine MetI.mk (by decide) (Nat.le_of_ble_eq_true rfl) (fun X C K => ?_)
  show Zc G X 3 0 0 [(aM, .inr (8, [.ref aWc, .int (iI mth), .int (iI msz), .ref aTx, .int (iI mwr), .ref aOu, .int (iI mfa), .int (iI mpl), .int (iI mle), .int (iI mna), .ref aSo, .ref aNf, .ref aNg, .ref aSr, .ref aNu, .ref aMa, .ref aNo, .int (iI mfi), .int (iI mru), .int (iI mnv), .ref aLe, .ref aAc, .ref aDi, .ref aOr, .int (iI mki), .int (iI mfr), .int (iI mto), .int (iI mwh)])), iA G aMa 3 ma] [(0, .ref aM), (1, .int (iI s)), (2, .int (iI e))] 0 []
  have hcc := hct
  unfold cnt at hcc
  refine z_iload_n C d_M_isPair_0 1 rfl ?_
  refine z_iconst C d_M_isPair_1 ?_
  refine z_aload_n C d_M_isPair_2 0 rfl ?_
  refine z_get C f_M_34 d_M_isPair_3 0 rfl rfl ?_
  refine z_iconst C d_M_isPair_6 ?_
  refine z_iald C d_M_isPair_7 1 rfl (by omega) ?_
  refine z_topi (y := iI (ma 0)) (rfl) ?_
  refine z_iconst C d_M_isPair_8 ?_
  refine z_isub C d_M_isPair_9 ?_
  refine z_calliS (As := [.int (iI s), .int (iI 0), .int (iI ((ma 0) - 1))]) (rest := []) (wr := [(aM, .inr (8, [.ref aWc, .int (iI mth), .int (iI msz), .ref aTx, .int (iI mwr), .ref aOu, .int (iI mfa), .int (iI mpl), .int (iI mle), .int (iI mna), .ref aSo, .ref aNf, .ref aNg, .ref aSr, .ref aNu, .ref aMa, .ref aNo, .int (iI mfi), .int (iI mru), .int (iI mnv), .ref aLe, .ref aAc, .ref aDi, .ref aOr, .int (iI mki), .int (iI mfr), .int (iI mto), .int (iI mwh)])), iA G aMa 3 ma]) (ws' := fun u => [(aM, .inr (8, [.ref aWc, .int (iI mth), .int (iI msz), .ref aTx, .int (iI mwr), .ref aOu, .int (iI mfa), .int (iI mpl), .int (iI mle), .int (iI mna), .ref aSo, .ref aNf, .ref aNg, .ref aSr, .ref aNu, .ref aMa, .ref aNo, .int (iI mfi), .int (iI mru), .int (iI mnv), .ref aLe, .ref aAc, .ref aDi, .ref aOr, .int (iI mki), .int (iI mfr), .int (iI mto), .int (iI mwh)])), iA G aMa 3 ma]) C k_M_66 kc_M_within (fun l sz => m_M_within l G sz s 0 ((ma 0) - 1) (by omega) (by omega) (by omega)) rfl rfl (Nat.le_of_ble_eq_true rfl) (by decide) d_M_isPair_10 [] [0, 1] [0, 1] rfl rfl (by decide) (fun u => rfl) (fun r u h10 => ?_)
  obtain rfl := h10
  show Zc G X 3 0 0 [(aM, .inr (8, [.ref aWc, .int (iI mth), .int (iI msz), .ref aTx, .int (iI mwr), .ref aOu, .int (iI mfa), .int (iI mpl), .int (iI mle), .int (iI mna), .ref aSo, .ref aNf, .ref aNg, .ref aSr, .ref aNu, .ref aMa, .ref aNo, .int (iI mfi), .int (iI mru), .int (iI mnv), .ref aLe, .ref aAc, .ref aDi, .ref aOr, .int (iI mki), .int (iI mfr), .int (iI mto), .int (iI mwh)])), iA G aMa 3 ma] [(0, .ref aM), (1, .int (iI s)), (2, .int (iI e))] 13 [.int (iI (wit s 0 ((ma 0) - 1)))]
  have hw1 : wit s 0 (ma 0 - 1) = if 0 ≤ s ∧ s ≤ ma 0 - 1 then 1 else 0 := rfl
  have hw1b := wit_01 s 0 (ma 0 - 1)
  refine z_if_eq (tgt := 34) C d_M_isPair_13 (by decide) (by omega) (fun c13 => ?_) (fun c13 => ?_)
  ·
    refine z_iconst C d_M_isPair_34 ?_
    have hv : ¬ (0 ≤ s ∧ s < ma 0 ∧ 0 ≤ e ∧ e < ma 1 + ma 2) := by split at hw1 <;> omega
    exact z_iret C K d_M_isPair_35 (by decide) 0 (rfl) (show iI 0 = iI 0 ∧ ((0 = 1 ∧ (0 ≤ s ∧ s < ma 0 ∧ 0 ≤ e ∧ e < ma 1 + ma 2)) ∨ (0 = 0 ∧ ¬ (0 ≤ s ∧ s < ma 0 ∧ 0 ≤ e ∧ e < ma 1 + ma 2))) from ⟨rfl, Or.inr ⟨rfl, hv⟩⟩)
  ·
    refine z_iload_n C d_M_isPair_16 2 rfl ?_
    refine z_iconst C d_M_isPair_17 ?_
    refine z_aload_n C d_M_isPair_18 0 rfl ?_
    refine z_calli (As := []) (rest := [.int (iI 0), .int (iI e)]) (wr := []) (ws' := fun u => [(aM, .inr (8, [.ref aWc, .int (iI mth), .int (iI msz), .ref aTx, .int (iI mwr), .ref aOu, .int (iI mfa), .int (iI mpl), .int (iI mle), .int (iI mna), .ref aSo, .ref aNf, .ref aNg, .ref aSr, .ref aNu, .ref aMa, .ref aNo, .int (iI mfi), .int (iI mru), .int (iI mnv), .ref aLe, .ref aAc, .ref aDi, .ref aOr, .int (iI mki), .int (iI mfr), .int (iI mto), .int (iI mwh)])), iA G aMa 3 ma]) (q0 := 0) C k_M_172 kc_M_events (fun l sz => m_M_events l G sz aM aWc aTx aOu aSo aNf aNg aSr aNu aMa aNo aLe aAc aDi aOr mth msz mwr mfa mpl mle mna mfi mru mnv mki mfr mto mwh ma ) rfl rfl (Nat.le_of_ble_eq_true rfl) (by decide) d_M_isPair_19 rfl rfl [0, 1] [] [0, 1] rfl rfl (by decide) (fun u => rfl) (fun r u h19 => ?_)
    obtain rfl := h19
    show Zc G X 3 0 0 [(aM, .inr (8, [.ref aWc, .int (iI mth), .int (iI msz), .ref aTx, .int (iI mwr), .ref aOu, .int (iI mfa), .int (iI mpl), .int (iI mle), .int (iI mna), .ref aSo, .ref aNf, .ref aNg, .ref aSr, .ref aNu, .ref aMa, .ref aNo, .int (iI mfi), .int (iI mru), .int (iI mnv), .ref aLe, .ref aAc, .ref aDi, .ref aOr, .int (iI mki), .int (iI mfr), .int (iI mto), .int (iI mwh)])), iA G aMa 3 ma] [(0, .ref aM), (1, .int (iI s)), (2, .int (iI e))] 22 [.int (iI (ma 1 + ma 2)), .int (iI 0), .int (iI e)]
    refine z_iconst C d_M_isPair_22 ?_
    refine z_isub C d_M_isPair_23 ?_
    refine z_calliS (As := [.int (iI e), .int (iI 0), .int (iI ((ma 1 + ma 2) - 1))]) (rest := []) (wr := [(aM, .inr (8, [.ref aWc, .int (iI mth), .int (iI msz), .ref aTx, .int (iI mwr), .ref aOu, .int (iI mfa), .int (iI mpl), .int (iI mle), .int (iI mna), .ref aSo, .ref aNf, .ref aNg, .ref aSr, .ref aNu, .ref aMa, .ref aNo, .int (iI mfi), .int (iI mru), .int (iI mnv), .ref aLe, .ref aAc, .ref aDi, .ref aOr, .int (iI mki), .int (iI mfr), .int (iI mto), .int (iI mwh)])), iA G aMa 3 ma]) (ws' := fun u => [(aM, .inr (8, [.ref aWc, .int (iI mth), .int (iI msz), .ref aTx, .int (iI mwr), .ref aOu, .int (iI mfa), .int (iI mpl), .int (iI mle), .int (iI mna), .ref aSo, .ref aNf, .ref aNg, .ref aSr, .ref aNu, .ref aMa, .ref aNo, .int (iI mfi), .int (iI mru), .int (iI mnv), .ref aLe, .ref aAc, .ref aDi, .ref aOr, .int (iI mki), .int (iI mfr), .int (iI mto), .int (iI mwh)])), iA G aMa 3 ma]) C k_M_66 kc_M_within (fun l sz => m_M_within l G sz e 0 ((ma 1 + ma 2) - 1) (by omega) (by omega) (by omega)) rfl rfl (Nat.le_of_ble_eq_true rfl) (by decide) d_M_isPair_24 [] [0, 1] [0, 1] rfl rfl (by decide) (fun u => rfl) (fun r u h24 => ?_)
    obtain rfl := h24
    show Zc G X 3 0 0 [(aM, .inr (8, [.ref aWc, .int (iI mth), .int (iI msz), .ref aTx, .int (iI mwr), .ref aOu, .int (iI mfa), .int (iI mpl), .int (iI mle), .int (iI mna), .ref aSo, .ref aNf, .ref aNg, .ref aSr, .ref aNu, .ref aMa, .ref aNo, .int (iI mfi), .int (iI mru), .int (iI mnv), .ref aLe, .ref aAc, .ref aDi, .ref aOr, .int (iI mki), .int (iI mfr), .int (iI mto), .int (iI mwh)])), iA G aMa 3 ma] [(0, .ref aM), (1, .int (iI s)), (2, .int (iI e))] 27 [.int (iI (wit e 0 ((ma 1 + ma 2) - 1)))]
    have hw2 : wit e 0 (ma 1 + ma 2 - 1) = if 0 ≤ e ∧ e ≤ ma 1 + ma 2 - 1 then 1 else 0 := rfl
    have hw2b := wit_01 e 0 (ma 1 + ma 2 - 1)
    refine z_if_eq (tgt := 34) C d_M_isPair_27 (by decide) (by omega) (fun c27 => ?_) (fun c27 => ?_)
    ·
      refine z_iconst C d_M_isPair_34 ?_
      have hv : ¬ (0 ≤ s ∧ s < ma 0 ∧ 0 ≤ e ∧ e < ma 1 + ma 2) := by split at hw2 <;> omega
      exact z_iret C K d_M_isPair_35 (by decide) 0 (rfl) (show iI 0 = iI 0 ∧ ((0 = 1 ∧ (0 ≤ s ∧ s < ma 0 ∧ 0 ≤ e ∧ e < ma 1 + ma 2)) ∨ (0 = 0 ∧ ¬ (0 ≤ s ∧ s < ma 0 ∧ 0 ≤ e ∧ e < ma 1 + ma 2))) from ⟨rfl, Or.inr ⟨rfl, hv⟩⟩)
    ·
      refine z_iconst C d_M_isPair_30 ?_
      refine z_goto (tgt := 35) C d_M_isPair_31 (by decide) ?_
      have hv : 0 ≤ s ∧ s < ma 0 ∧ 0 ≤ e ∧ e < ma 1 + ma 2 := by split at hw1 <;> split at hw2 <;> omega
      exact z_iret C K d_M_isPair_35 (by decide) 1 (rfl) (show iI 1 = iI 1 ∧ ((1 = 1 ∧ (0 ≤ s ∧ s < ma 0 ∧ 0 ≤ e ∧ e < ma 1 + ma 2)) ∨ (1 = 0 ∧ ¬ (0 ≤ s ∧ s < ma 0 ∧ 0 ≤ e ∧ e < ma 1 + ma 2))) from ⟨rfl, Or.inl ⟨rfl, hv⟩⟩)
set_option maxHeartbeats 4000000 in
set_option maxRecDepth 100000 in
theorem m_M_at (l : Launch) (G : GG) (sz : Nat) (aM : Nat) (aWc : Nat) (aTx : Nat) (aOu : Nat) (aSo : Nat) (aNf : Nat) (aNg : Nat) (aSr : Nat) (aNu : Nat) (aMa : Nat) (aNo : Nat) (aLe : Nat) (aAc : Nat) (aDi : Nat) (aOr : Nat) (mth : Int) (msz : Int) (mwr : Int) (mfa : Int) (mpl : Int) (mle : Int) (mna : Int) (mfi : Int) (mru : Int) (mnv : Int) (mki : Int) (mfr : Int) (mto : Int) (mwh : Int) (ma : Nat → Int) (s : Int) (e : Int) (hct : cnt ma) (h1 : 0 ≤ s ∧ s < ma 0 ∧ 0 ≤ e ∧ e < ma 1 + ma 2) : MetI l G sz y_M_at c_M_at 3 (some .int) ({ frames := 1, cells := 0, slots := 0, locals := 21 } : Room) [.ref aM, .int (iI s), .int (iI e)] [(aM, .inr (8, [.ref aWc, .int (iI mth), .int (iI msz), .ref aTx, .int (iI mwr), .ref aOu, .int (iI mfa), .int (iI mpl), .int (iI mle), .int (iI mna), .ref aSo, .ref aNf, .ref aNg, .ref aSr, .ref aNu, .ref aMa, .ref aNo, .int (iI mfi), .int (iI mru), .int (iI mnv), .ref aLe, .ref aAc, .ref aDi, .ref aOr, .int (iI mki), .int (iI mfr), .int (iI mto), .int (iI mwh)])), iA G aMa 3 ma] (fun (r : Int32) (u : Unit) => r = iI (prf ma s e)) (fun (u : Unit) => [(aM, .inr (8, [.ref aWc, .int (iI mth), .int (iI msz), .ref aTx, .int (iI mwr), .ref aOu, .int (iI mfa), .int (iI mpl), .int (iI mle), .int (iI mna), .ref aSo, .ref aNf, .ref aNg, .ref aSr, .ref aNu, .ref aMa, .ref aNo, .int (iI mfi), .int (iI mru), .int (iI mnv), .ref aLe, .ref aAc, .ref aDi, .ref aOr, .int (iI mki), .int (iI mfr), .int (iI mto), .int (iI mwh)])), iA G aMa 3 ma]) := by
  refine MetI.mk (by decide) (Nat.le_of_ble_eq_true rfl) (fun X C K => ?_)
  show Zc G X 3 0 0 [(aM, .inr (8, [.ref aWc, .int (iI mth), .int (iI msz), .ref aTx, .int (iI mwr), .ref aOu, .int (iI mfa), .int (iI mpl), .int (iI mle), .int (iI mna), .ref aSo, .ref aNf, .ref aNg, .ref aSr, .ref aNu, .ref aMa, .ref aNo, .int (iI mfi), .int (iI mru), .int (iI mnv), .ref aLe, .ref aAc, .ref aDi, .ref aOr, .int (iI mki), .int (iI mfr), .int (iI mto), .int (iI mwh)])), iA G aMa 3 ma] [(0, .ref aM), (1, .int (iI s)), (2, .int (iI e))] 0 []
  have hcc := hct
  unfold cnt at hcc
  refine z_bipush C d_M_at_0 (by decide) ?_
  refine z_iload_n C d_M_at_2 1 rfl ?_
  refine z_imul C d_M_at_3 ?_
  refine z_aload_n C d_M_at_4 0 rfl ?_
  refine z_iload_n C d_M_at_5 2 rfl ?_
  refine z_calli (As := [.int (iI e)]) (rest := [.int (iI (24 * s))]) (wr := []) (ws' := fun u => [(aM, .inr (8, [.ref aWc, .int (iI mth), .int (iI msz), .ref aTx, .int (iI mwr), .ref aOu, .int (iI mfa), .int (iI mpl), .int (iI mle), .int (iI mna), .ref aSo, .ref aNf, .ref aNg, .ref aSr, .ref aNu, .ref aMa, .ref aNo, .int (iI mfi), .int (iI mru), .int (iI mnv), .ref aLe, .ref aAc, .ref aDi, .ref aOr, .int (iI mki), .int (iI mfr), .int (iI mto), .int (iI mwh)])), iA G aMa 3 ma]) (q0 := 0) C k_M_175 kc_M_slotOf (fun l sz => m_M_slotOf l G sz aM aWc aTx aOu aSo aNf aNg aSr aNu aMa aNo aLe aAc aDi aOr mth msz mwr mfa mpl mle mna mfi mru mnv mki mfr mto mwh ma e (by omega)) rfl rfl (Nat.le_of_ble_eq_true rfl) (by decide) d_M_at_6 rfl rfl [0, 1] [] [0, 1] rfl rfl (by decide) (fun u => rfl) (fun r u h6 => ?_)
  obtain rfl := h6
  show Zc G X 3 0 0 [(aM, .inr (8, [.ref aWc, .int (iI mth), .int (iI msz), .ref aTx, .int (iI mwr), .ref aOu, .int (iI mfa), .int (iI mpl), .int (iI mle), .int (iI mna), .ref aSo, .ref aNf, .ref aNg, .ref aSr, .ref aNu, .ref aMa, .ref aNo, .int (iI mfi), .int (iI mru), .int (iI mnv), .ref aLe, .ref aAc, .ref aDi, .ref aOr, .int (iI mki), .int (iI mfr), .int (iI mto), .int (iI mwh)])), iA G aMa 3 ma] [(0, .ref aM), (1, .int (iI s)), (2, .int (iI e))] 9 [.int (iI (evs (ma 1) e - 16)), .int (iI (24 * s))]
  refine z_iadd C d_M_at_9 ?_
  have hpf := prf_in h1
  exact z_iret C K d_M_at_10 (rfl) () (rfl) (congrArg iI (by omega))
set_option maxHeartbeats 4000000 in
set_option maxRecDepth 100000 in
theorem m_M_next (l : Launch) (G : GG) (sz : Nat) (aM : Nat) (aWc : Nat) (aTx : Nat) (aOu : Nat) (aSo : Nat) (aNf : Nat) (aNg : Nat) (aSr : Nat) (aNu : Nat) (aMa : Nat) (aNo : Nat) (aLe : Nat) (aAc : Nat) (aDi : Nat) (aOr : Nat) (mth : Int) (msz : Int) (mwr : Int) (mfa : Int) (mpl : Int) (mle : Int) (mna : Int) (mfi : Int) (mru : Int) (mnv : Int) (mki : Int) (mfr : Int) (mto : Int) (mwh : Int) (ma : Nat → Int) (le : Nat → Int) (s : Int) (e : Int) (hct : cnt ma) (h1 : -2147483648 ≤ s ∧ s ≤ 2147483647 ∧ -2147483648 ≤ e ∧ e ≤ 2147483647) : MetI l G sz y_M_next c_M_next 3 (some .int) ({ frames := 2, cells := 0, slots := 0, locals := 44 } : Room) [.ref aM, .int (iI s), .int (iI e)] [(aM, .inr (8, [.ref aWc, .int (iI mth), .int (iI msz), .ref aTx, .int (iI mwr), .ref aOu, .int (iI mfa), .int (iI mpl), .int (iI mle), .int (iI mna), .ref aSo, .ref aNf, .ref aNg, .ref aSr, .ref aNu, .ref aMa, .ref aNo, .int (iI mfi), .int (iI mru), .int (iI mnv), .ref aLe, .ref aAc, .ref aDi, .ref aOr, .int (iI mki), .int (iI mfr), .int (iI mto), .int (iI mwh)])), iA G aMa 3 ma, iA G aLe 384 le] (fun (r : Int32) (u : Int × Int) => r = iI u.1 ∧ (((0 ≤ s ∧ s < ma 0 ∧ 0 ≤ e ∧ e < ma 1 + ma 2) → u.2 = 0 ∧ u.1 = le (prf ma s e).toNat) ∧ (¬ (0 ≤ s ∧ s < ma 0 ∧ 0 ≤ e ∧ e < ma 1 + ma 2) → u.2 = 1 ∧ u.1 = 0))) (fun (u : Int × Int) => [(aM, .inr (8, [.ref aWc, .int (iI u.2), .int (iI msz), .ref aTx, .int (iI mwr), .ref aOu, .int (iI mfa), .int (iI mpl), .int (iI mle), .int (iI mna), .ref aSo, .ref aNf, .ref aNg, .ref aSr, .ref aNu, .ref aMa, .ref aNo, .int (iI mfi), .int (iI mru), .int (iI mnv), .ref aLe, .ref aAc, .ref aDi, .ref aOr, .int (iI mki), .int (iI mfr), .int (iI mto), .int (iI mwh)])), iA G aMa 3 ma, iA G aLe 384 le]) := by
  refine MetI.mk (by decide) (Nat.le_of_ble_eq_true rfl) (fun X C K => ?_)
  show Zc G X 3 0 0 [(aM, .inr (8, [.ref aWc, .int (iI mth), .int (iI msz), .ref aTx, .int (iI mwr), .ref aOu, .int (iI mfa), .int (iI mpl), .int (iI mle), .int (iI mna), .ref aSo, .ref aNf, .ref aNg, .ref aSr, .ref aNu, .ref aMa, .ref aNo, .int (iI mfi), .int (iI mru), .int (iI mnv), .ref aLe, .ref aAc, .ref aDi, .ref aOr, .int (iI mki), .int (iI mfr), .int (iI mto), .int (iI mwh)])), iA G aMa 3 ma, iA G aLe 384 le] [(0, .ref aM), (1, .int (iI s)), (2, .int (iI e))] 0 []
  refine z_aload_n C d_M_next_0 0 rfl ?_
  refine z_iconst C d_M_next_1 ?_
  refine z_put C f_M_55 ok_M nm_M d_M_next_2 0 rfl rfl rfl rfl (Nat.le_of_ble_eq_true rfl) [(aM, .inr (8, [.ref aWc, .int (iI 0), .int (iI msz), .ref aTx, .int (iI mwr), .ref aOu, .int (iI mfa), .int (iI mpl), .int (iI mle), .int (iI mna), .ref aSo, .ref aNf, .ref aNg, .ref aSr, .ref aNu, .ref aMa, .ref aNo, .int (iI mfi), .int (iI mru), .int (iI mnv), .ref aLe, .ref aAc, .ref aDi, .ref aOr, .int (iI mki), .int (iI mfr), .int (iI mto), .int (iI mwh)])), iA G aMa 3 ma, iA G aLe 384 le] rfl ?_
  refine z_aload_n C d_M_next_5 0 rfl ?_
  refine z_iload_n C d_M_next_6 1 rfl ?_
  refine z_iload_n C d_M_next_7 2 rfl ?_
  refine z_calli (As := [.int (iI s), .int (iI e)]) (rest := []) (wr := [iA G aLe 384 le]) (ws' := fun u => [(aM, .inr (8, [.ref aWc, .int (iI 0), .int (iI msz), .ref aTx, .int (iI mwr), .ref aOu, .int (iI mfa), .int (iI mpl), .int (iI mle), .int (iI mna), .ref aSo, .ref aNf, .ref aNg, .ref aSr, .ref aNu, .ref aMa, .ref aNo, .int (iI mfi), .int (iI mru), .int (iI mnv), .ref aLe, .ref aAc, .ref aDi, .ref aOr, .int (iI mki), .int (iI mfr), .int (iI mto), .int (iI mwh)])), iA G aMa 3 ma, iA G aLe 384 le]) (q0 := 0) C k_M_178 kc_M_isPair (fun l sz => m_M_isPair l G sz aM aWc aTx aOu aSo aNf aNg aSr aNu aMa aNo aLe aAc aDi aOr 0 msz mwr mfa mpl mle mna mfi mru mnv mki mfr mto mwh ma s e (hct) (h1)) rfl rfl (Nat.le_of_ble_eq_true rfl) (by decide) d_M_next_8 rfl rfl [0, 1] [2] [1, 2, 0] rfl rfl (by decide) (fun u => rfl) (fun r u h8 => ?_)
  obtain ⟨rr_8, rfl⟩ : ∃ z, z = u := ⟨_, rfl⟩
  obtain ⟨rfl, he_8⟩ := h8
  have he_8 : (rr_8 = 1 ∧ (0 ≤ s ∧ s < ma 0 ∧ 0 ≤ e ∧ e < ma 1 + ma 2)) ∨ (rr_8 = 0 ∧ ¬ (0 ≤ s ∧ s < ma 0 ∧ 0 ≤ e ∧ e < ma 1 + ma 2)) := he_8
  show Zc G X 3 0 0 [(aM, .inr (8, [.ref aWc, .int (iI 0), .int (iI msz), .ref aTx, .int (iI mwr), .ref aOu, .int (iI mfa), .int (iI mpl), .int (iI mle), .int (iI mna), .ref aSo, .ref aNf, .ref aNg, .ref aSr, .ref aNu, .ref aMa, .ref aNo, .int (iI mfi), .int (iI mru), .int (iI mnv), .ref aLe, .ref aAc, .ref aDi, .ref aOr, .int (iI mki), .int (iI mfr), .int (iI mto), .int (iI mwh)])), iA G aMa 3 ma, iA G aLe 384 le] [(0, .ref aM), (1, .int (iI s)), (2, .int (iI e))] 11 [.int (iI rr_8)]
  rcases he_8 with ⟨rfl, hv⟩ | ⟨rfl, hv⟩
  ·
    skip
    refine z_if_eq (tgt := 28) C d_M_next_11 (by decide) (by omega) (fun c11 => ?_) (fun c11 => ?_)
    · exact absurd c11 (by omega)
    ·
      have hpr := prf_rg hct hv
      refine z_aload_n C d_M_next_14 0 rfl ?_
      refine z_get C f_M_40 d_M_next_15 0 rfl rfl ?_
      refine z_aload_n C d_M_next_18 0 rfl ?_
      refine z_iload_n C d_M_next_19 1 rfl ?_
      refine z_iload_n C d_M_next_20 2 rfl ?_
      refine z_calli (As := [.int (iI s), .int (iI e)]) (rest := [.ref aLe]) (wr := [iA G aLe 384 le]) (ws' := fun u => [(aM, .inr (8, [.ref aWc, .int (iI 0), .int (iI msz), .ref aTx, .int (iI mwr), .ref aOu, .int (iI mfa), .int (iI mpl), .int (iI mle), .int (iI mna), .ref aSo, .ref aNf, .ref aNg, .ref aSr, .ref aNu, .ref aMa, .ref aNo, .int (iI mfi), .int (iI mru), .int (iI mnv), .ref aLe, .ref aAc, .ref aDi, .ref aOr, .int (iI mki), .int (iI mfr), .int (iI mto), .int (iI mwh)])), iA G aMa 3 ma, iA G aLe 384 le]) (q0 := 0) C k_M_182 kc_M_at (fun l sz => m_M_at l G sz aM aWc aTx aOu aSo aNf aNg aSr aNu aMa aNo aLe aAc aDi aOr 0 msz mwr mfa mpl mle mna mfi mru mnv mki mfr mto mwh ma s e (hct) (hv)) rfl rfl (Nat.le_of_ble_eq_true rfl) (by decide) d_M_next_21 rfl rfl [0, 1] [2] [1, 2, 0] rfl rfl (by decide) (fun u => rfl) (fun r u h21 => ?_)
      obtain rfl := h21
      show Zc G X 3 0 0 [(aM, .inr (8, [.ref aWc, .int (iI 0), .int (iI msz), .ref aTx, .int (iI mwr), .ref aOu, .int (iI mfa), .int (iI mpl), .int (iI mle), .int (iI mna), .ref aSo, .ref aNf, .ref aNg, .ref aSr, .ref aNu, .ref aMa, .ref aNo, .int (iI mfi), .int (iI mru), .int (iI mnv), .ref aLe, .ref aAc, .ref aDi, .ref aOr, .int (iI mki), .int (iI mfr), .int (iI mto), .int (iI mwh)])), iA G aMa 3 ma, iA G aLe 384 le] [(0, .ref aM), (1, .int (iI s)), (2, .int (iI e))] 24 [.int (iI (prf ma s e)), .ref aLe]
      refine z_iald C d_M_next_24 2 rfl (by omega) ?_
      refine z_goto (tgt := 33) C d_M_next_25 (by decide) ?_
      exact z_iret C K d_M_next_33 (rfl) (le (prf ma s e).toNat, 0) (rfl) (show iI (le ((prf ma s e).toNat)) = iI (le (prf ma s e).toNat) ∧ (((0 ≤ s ∧ s < ma 0 ∧ 0 ≤ e ∧ e < ma 1 + ma 2) → 0 = 0 ∧ (le (prf ma s e).toNat) = le (prf ma s e).toNat) ∧ (¬ (0 ≤ s ∧ s < ma 0 ∧ 0 ≤ e ∧ e < ma 1 + ma 2) → 0 = 1 ∧ (le (prf ma s e).toNat) = 0)) from ⟨rfl, fun _ => ⟨rfl, rfl⟩, fun z => absurd hv z⟩)
  ·
    skip
    refine z_if_eq (tgt := 28) C d_M_next_11 (by decide) (by omega) (fun c11 => ?_) (fun c11 => ?_)
    ·
      refine z_aload_n C d_M_next_28 0 rfl ?_
      refine z_iconst C d_M_next_29 ?_
      refine z_calli (As := [.int (iI 1)]) (rest := []) (wr := [iA G aMa 3 ma, iA G aLe 384 le]) (ws' := fun u => [(aM, .inr (8, [.ref aWc, .int (iI 1), .int (iI msz), .ref aTx, .int (iI mwr), .ref aOu, .int (iI mfa), .int (iI mpl), .int (iI mle), .int (iI mna), .ref aSo, .ref aNf, .ref aNg, .ref aSr, .ref aNu, .ref aMa, .ref aNo, .int (iI mfi), .int (iI mru), .int (iI mnv), .ref aLe, .ref aAc, .ref aDi, .ref aOr, .int (iI mki), .int (iI mfr), .int (iI mto), .int (iI mwh)])), iA G aMa 3 ma, iA G aLe 384 le]) (q0 := 0) C k_M_62 kc_M_fail (fun l sz => m_M_fail l G sz aM aWc aTx aOu aSo aNf aNg aSr aNu aMa aNo aLe aAc aDi aOr 0 msz mwr mfa mpl mle mna mfi mru mnv mki mfr mto mwh 1 ) rfl rfl (Nat.le_of_ble_eq_true rfl) (by decide) d_M_next_30 rfl rfl [0] [1, 2] [2, 0, 1] rfl rfl (by decide) (fun u => rfl) (fun r u h30 => ?_)
      obtain rfl := h30
      show Zc G X 3 0 0 [(aM, .inr (8, [.ref aWc, .int (iI 1), .int (iI msz), .ref aTx, .int (iI mwr), .ref aOu, .int (iI mfa), .int (iI mpl), .int (iI mle), .int (iI mna), .ref aSo, .ref aNf, .ref aNg, .ref aSr, .ref aNu, .ref aMa, .ref aNo, .int (iI mfi), .int (iI mru), .int (iI mnv), .ref aLe, .ref aAc, .ref aDi, .ref aOr, .int (iI mki), .int (iI mfr), .int (iI mto), .int (iI mwh)])), iA G aMa 3 ma, iA G aLe 384 le] [(0, .ref aM), (1, .int (iI s)), (2, .int (iI e))] 33 [.int (iI 0)]
      exact z_iret C K d_M_next_33 (rfl) (0, 1) (rfl) (show iI 0 = iI 0 ∧ (((0 ≤ s ∧ s < ma 0 ∧ 0 ≤ e ∧ e < ma 1 + ma 2) → 1 = 0 ∧ 0 = le (prf ma s e).toNat) ∧ (¬ (0 ≤ s ∧ s < ma 0 ∧ 0 ≤ e ∧ e < ma 1 + ma 2) → 1 = 1 ∧ 0 = 0)) from ⟨rfl, fun z => absurd z hv, fun _ => ⟨rfl, rfl⟩⟩)
    · exact absurd c11 (by omega)
set_option maxHeartbeats 4000000 in
set_option maxRecDepth 100000 in
theorem m_M_action (l : Launch) (G : GG) (sz : Nat) (aM : Nat) (aWc : Nat) (aTx : Nat) (aOu : Nat) (aSo : Nat) (aNf : Nat) (aNg : Nat) (aSr : Nat) (aNu : Nat) (aMa : Nat) (aNo : Nat) (aLe : Nat) (aAc : Nat) (aDi : Nat) (aOr : Nat) (mth : Int) (msz : Int) (mwr : Int) (mfa : Int) (mpl : Int) (mle : Int) (mna : Int) (mfi : Int) (mru : Int) (mnv : Int) (mki : Int) (mfr : Int) (mto : Int) (mwh : Int) (ma : Nat → Int) (le : Nat → Int) (ac : Nat → Int) (s : Int) (e : Int) (j : Int) (hct : cnt ma) (h1 : -2147483648 ≤ s ∧ s ≤ 2147483647 ∧ -2147483648 ≤ e ∧ e ≤ 2147483647 ∧ -2147483648 ≤ j ∧ j ≤ 2147483647) (hg : gol le) : MetI l G sz y_M_action c_M_action 4 (some .int) ({ frames := 2, cells := 0, slots := 0, locals := 44 } : Room) [.ref aM, .int (iI s), .int (iI e), .int (iI j)] [(aM, .inr (8, [.ref aWc, .int (iI mth), .int (iI msz), .ref aTx, .int (iI mwr), .ref aOu, .int (iI mfa), .int (iI mpl), .int (iI mle), .int (iI mna), .ref aSo, .ref aNf, .ref aNg, .ref aSr, .ref aNu, .ref aMa, .ref aNo, .int (iI mfi), .int (iI mru), .int (iI mnv), .ref aLe, .ref aAc, .ref aDi, .ref aOr, .int (iI mki), .int (iI mfr), .int (iI mto), .int (iI mwh)])), iA G aMa 3 ma, iA G aLe 384 le, iA G aAc 1536 ac] (fun (r : Int32) (u : Int × Int) => r = iI u.1 ∧ (((0 ≤ s ∧ s < ma 0 ∧ 0 ≤ e ∧ e < ma 1 + ma 2) ∧ 0 ≤ j → u.2 = 0 ∧ u.1 = if j < 4 ∧ 0 ≤ le (prf ma s e).toNat then ac (prf ma s e * 4 + j).toNat else -1) ∧ (¬ ((0 ≤ s ∧ s < ma 0 ∧ 0 ≤ e ∧ e < ma 1 + ma 2) ∧ 0 ≤ j) → u.2 = 1 ∧ u.1 = 0))) (fun (u : Int × Int) => [(aM, .inr (8, [.ref aWc, .int (iI u.2), .int (iI msz), .ref aTx, .int (iI mwr), .ref aOu, .int (iI mfa), .int (iI mpl), .int (iI mle), .int (iI mna), .ref aSo, .ref aNf, .ref aNg, .ref aSr, .ref aNu, .ref aMa, .ref aNo, .int (iI mfi), .int (iI mru), .int (iI mnv), .ref aLe, .ref aAc, .ref aDi, .ref aOr, .int (iI mki), .int (iI mfr), .int (iI mto), .int (iI mwh)])), iA G aMa 3 ma, iA G aLe 384 le, iA G aAc 1536 ac]) := by
  refine MetI.mk (by decide) (Nat.le_of_ble_eq_true rfl) (fun X C K => ?_)
  show Zc G X 4 0 0 [(aM, .inr (8, [.ref aWc, .int (iI mth), .int (iI msz), .ref aTx, .int (iI mwr), .ref aOu, .int (iI mfa), .int (iI mpl), .int (iI mle), .int (iI mna), .ref aSo, .ref aNf, .ref aNg, .ref aSr, .ref aNu, .ref aMa, .ref aNo, .int (iI mfi), .int (iI mru), .int (iI mnv), .ref aLe, .ref aAc, .ref aDi, .ref aOr, .int (iI mki), .int (iI mfr), .int (iI mto), .int (iI mwh)])), iA G aMa 3 ma, iA G aLe 384 le, iA G aAc 1536 ac] [(0, .ref aM), (1, .int (iI s)), (2, .int (iI e)), (3, .int (iI j))] 0 []
  refine z_aload_n C d_M_action_0 0 rfl ?_
  refine z_iconst C d_M_action_1 ?_
  refine z_put C f_M_55 ok_M nm_M d_M_action_2 0 rfl rfl rfl rfl (Nat.le_of_ble_eq_true rfl) [(aM, .inr (8, [.ref aWc, .int (iI 0), .int (iI msz), .ref aTx, .int (iI mwr), .ref aOu, .int (iI mfa), .int (iI mpl), .int (iI mle), .int (iI mna), .ref aSo, .ref aNf, .ref aNg, .ref aSr, .ref aNu, .ref aMa, .ref aNo, .int (iI mfi), .int (iI mru), .int (iI mnv), .ref aLe, .ref aAc, .ref aDi, .ref aOr, .int (iI mki), .int (iI mfr), .int (iI mto), .int (iI mwh)])), iA G aMa 3 ma, iA G aLe 384 le, iA G aAc 1536 ac] rfl ?_
  refine z_aload_n C d_M_action_5 0 rfl ?_
  refine z_iload_n C d_M_action_6 1 rfl ?_
  refine z_iload_n C d_M_action_7 2 rfl ?_
  refine z_calli (As := [.int (iI s), .int (iI e)]) (rest := []) (wr := [iA G aLe 384 le, iA G aAc 1536 ac]) (ws' := fun u => [(aM, .inr (8, [.ref aWc, .int (iI 0), .int (iI msz), .ref aTx, .int (iI mwr), .ref aOu, .int (iI mfa), .int (iI mpl), .int (iI mle), .int (iI mna), .ref aSo, .ref aNf, .ref aNg, .ref aSr, .ref aNu, .ref aMa, .ref aNo, .int (iI mfi), .int (iI mru), .int (iI mnv), .ref aLe, .ref aAc, .ref aDi, .ref aOr, .int (iI mki), .int (iI mfr), .int (iI mto), .int (iI mwh)])), iA G aMa 3 ma, iA G aLe 384 le, iA G aAc 1536 ac]) (q0 := 0) C k_M_178 kc_M_isPair (fun l sz => m_M_isPair l G sz aM aWc aTx aOu aSo aNf aNg aSr aNu aMa aNo aLe aAc aDi aOr 0 msz mwr mfa mpl mle mna mfi mru mnv mki mfr mto mwh ma s e (hct) (by omega)) rfl rfl (Nat.le_of_ble_eq_true rfl) (by decide) d_M_action_8 rfl rfl [0, 1] [2, 3] [2, 3, 0, 1] rfl rfl (by decide) (fun u => rfl) (fun r u h8 => ?_)
  obtain ⟨rr_8, rfl⟩ : ∃ z, z = u := ⟨_, rfl⟩
  obtain ⟨rfl, he_8⟩ := h8
  have he_8 : (rr_8 = 1 ∧ (0 ≤ s ∧ s < ma 0 ∧ 0 ≤ e ∧ e < ma 1 + ma 2)) ∨ (rr_8 = 0 ∧ ¬ (0 ≤ s ∧ s < ma 0 ∧ 0 ≤ e ∧ e < ma 1 + ma 2)) := he_8
  show Zc G X 4 0 0 [(aM, .inr (8, [.ref aWc, .int (iI 0), .int (iI msz), .ref aTx, .int (iI mwr), .ref aOu, .int (iI mfa), .int (iI mpl), .int (iI mle), .int (iI mna), .ref aSo, .ref aNf, .ref aNg, .ref aSr, .ref aNu, .ref aMa, .ref aNo, .int (iI mfi), .int (iI mru), .int (iI mnv), .ref aLe, .ref aAc, .ref aDi, .ref aOr, .int (iI mki), .int (iI mfr), .int (iI mto), .int (iI mwh)])), iA G aMa 3 ma, iA G aLe 384 le, iA G aAc 1536 ac] [(0, .ref aM), (1, .int (iI s)), (2, .int (iI e)), (3, .int (iI j))] 11 [.int (iI rr_8)]
  rcases he_8 with ⟨rfl, hv⟩ | ⟨rfl, hv⟩
  ·
    skip
    refine z_if_eq (tgt := 18) C d_M_action_11 (by decide) (by omega) (fun c11 => ?_) (fun c11 => ?_)
    · exact absurd c11 (by omega)
    ·
      refine z_iload_n C d_M_action_14 3 rfl ?_
      refine z_if_ge (tgt := 24) C d_M_action_15 (by decide) (by omega) (fun c15 => ?_) (fun c15 => ?_)
      ·
        have hpr := prf_rg hct hv
        have hgp := hg (prf ma s e).toNat
        refine z_iload_n C d_M_action_24 3 rfl ?_
        refine z_iconst C d_M_action_25 ?_
        refine z_icmp_ge (tgt := 61) C d_M_action_26 (by decide) (by omega) (by omega) (fun c26 => ?_) (fun c26 => ?_)
        ·
          refine z_iconst C d_M_action_61 ?_
          exact z_iret C K d_M_action_62 (rfl) (-1, 0) (rfl) (show iI (-1) = iI (-1) ∧ (((0 ≤ s ∧ s < ma 0 ∧ 0 ≤ e ∧ e < ma 1 + ma 2) ∧ 0 ≤ j → 0 = 0 ∧ (-1) = if j < 4 ∧ 0 ≤ le (prf ma s e).toNat then ac (prf ma s e * 4 + j).toNat else -1) ∧ (¬ ((0 ≤ s ∧ s < ma 0 ∧ 0 ≤ e ∧ e < ma 1 + ma 2) ∧ 0 ≤ j) → 0 = 1 ∧ (-1) = 0)) from ⟨rfl, fun _ => ⟨rfl, by rw [if_neg (by omega)]⟩, fun z => absurd ⟨hv, c15⟩ z⟩)
        ·
          refine z_aload_n C d_M_action_29 0 rfl ?_
          refine z_get C f_M_40 d_M_action_30 0 rfl rfl ?_
          refine z_aload_n C d_M_action_33 0 rfl ?_
          refine z_iload_n C d_M_action_34 1 rfl ?_
          refine z_iload_n C d_M_action_35 2 rfl ?_
          refine z_calli (As := [.int (iI s), .int (iI e)]) (rest := [.ref aLe]) (wr := [iA G aLe 384 le, iA G aAc 1536 ac]) (ws' := fun u => [(aM, .inr (8, [.ref aWc, .int (iI 0), .int (iI msz), .ref aTx, .int (iI mwr), .ref aOu, .int (iI mfa), .int (iI mpl), .int (iI mle), .int (iI mna), .ref aSo, .ref aNf, .ref aNg, .ref aSr, .ref aNu, .ref aMa, .ref aNo, .int (iI mfi), .int (iI mru), .int (iI mnv), .ref aLe, .ref aAc, .ref aDi, .ref aOr, .int (iI mki), .int (iI mfr), .int (iI mto), .int (iI mwh)])), iA G aMa 3 ma, iA G aLe 384 le, iA G aAc 1536 ac]) (q0 := 0) C k_M_182 kc_M_at (fun l sz => m_M_at l G sz aM aWc aTx aOu aSo aNf aNg aSr aNu aMa aNo aLe aAc aDi aOr 0 msz mwr mfa mpl mle mna mfi mru mnv mki mfr mto mwh ma s e (hct) (hv)) rfl rfl (Nat.le_of_ble_eq_true rfl) (by decide) d_M_action_36 rfl rfl [0, 1] [2, 3] [2, 3, 0, 1] rfl rfl (by decide) (fun u => rfl) (fun r u h36 => ?_)
          obtain rfl := h36
          show Zc G X 4 0 0 [(aM, .inr (8, [.ref aWc, .int (iI 0), .int (iI msz), .ref aTx, .int (iI mwr), .ref aOu, .int (iI mfa), .int (iI mpl), .int (iI mle), .int (iI mna), .ref aSo, .ref aNf, .ref aNg, .ref aSr, .ref aNu, .ref aMa, .ref aNo, .int (iI mfi), .int (iI mru), .int (iI mnv), .ref aLe, .ref aAc, .ref aDi, .ref aOr, .int (iI mki), .int (iI mfr), .int (iI mto), .int (iI mwh)])), iA G aMa 3 ma, iA G aLe 384 le, iA G aAc 1536 ac] [(0, .ref aM), (1, .int (iI s)), (2, .int (iI e)), (3, .int (iI j))] 39 [.int (iI (prf ma s e)), .ref aLe]
          refine z_iald C d_M_action_39 2 rfl (by omega) ?_
          refine z_if_lt (tgt := 61) C d_M_action_40 (by decide) (by omega) (fun c40 => ?_) (fun c40 => ?_)
          ·
            refine z_iconst C d_M_action_61 ?_
            exact z_iret C K d_M_action_62 (rfl) (-1, 0) (rfl) (show iI (-1) = iI (-1) ∧ (((0 ≤ s ∧ s < ma 0 ∧ 0 ≤ e ∧ e < ma 1 + ma 2) ∧ 0 ≤ j → 0 = 0 ∧ (-1) = if j < 4 ∧ 0 ≤ le (prf ma s e).toNat then ac (prf ma s e * 4 + j).toNat else -1) ∧ (¬ ((0 ≤ s ∧ s < ma 0 ∧ 0 ≤ e ∧ e < ma 1 + ma 2) ∧ 0 ≤ j) → 0 = 1 ∧ (-1) = 0)) from ⟨rfl, fun _ => ⟨rfl, by rw [if_neg (by omega)]⟩, fun z => absurd ⟨hv, c15⟩ z⟩)
          ·
            refine z_aload_n C d_M_action_43 0 rfl ?_
            refine z_get C f_M_43 d_M_action_44 0 rfl rfl ?_
            refine z_iconst C d_M_action_47 ?_
            refine z_aload_n C d_M_action_48 0 rfl ?_
            refine z_iload_n C d_M_action_49 1 rfl ?_
            refine z_iload_n C d_M_action_50 2 rfl ?_
            refine z_calli (As := [.int (iI s), .int (iI e)]) (rest := [.int (iI 4), .ref aAc]) (wr := [iA G aLe 384 le, iA G aAc 1536 ac]) (ws' := fun u => [(aM, .inr (8, [.ref aWc, .int (iI 0), .int (iI msz), .ref aTx, .int (iI mwr), .ref aOu, .int (iI mfa), .int (iI mpl), .int (iI mle), .int (iI mna), .ref aSo, .ref aNf, .ref aNg, .ref aSr, .ref aNu, .ref aMa, .ref aNo, .int (iI mfi), .int (iI mru), .int (iI mnv), .ref aLe, .ref aAc, .ref aDi, .ref aOr, .int (iI mki), .int (iI mfr), .int (iI mto), .int (iI mwh)])), iA G aMa 3 ma, iA G aLe 384 le, iA G aAc 1536 ac]) (q0 := 0) C k_M_182 kc_M_at (fun l sz => m_M_at l G sz aM aWc aTx aOu aSo aNf aNg aSr aNu aMa aNo aLe aAc aDi aOr 0 msz mwr mfa mpl mle mna mfi mru mnv mki mfr mto mwh ma s e (hct) (hv)) rfl rfl (Nat.le_of_ble_eq_true rfl) (by decide) d_M_action_51 rfl rfl [0, 1] [2, 3] [2, 3, 0, 1] rfl rfl (by decide) (fun u => rfl) (fun r u h51 => ?_)
            obtain rfl := h51
            show Zc G X 4 0 0 [(aM, .inr (8, [.ref aWc, .int (iI 0), .int (iI msz), .ref aTx, .int (iI mwr), .ref aOu, .int (iI mfa), .int (iI mpl), .int (iI mle), .int (iI mna), .ref aSo, .ref aNf, .ref aNg, .ref aSr, .ref aNu, .ref aMa, .ref aNo, .int (iI mfi), .int (iI mru), .int (iI mnv), .ref aLe, .ref aAc, .ref aDi, .ref aOr, .int (iI mki), .int (iI mfr), .int (iI mto), .int (iI mwh)])), iA G aMa 3 ma, iA G aLe 384 le, iA G aAc 1536 ac] [(0, .ref aM), (1, .int (iI s)), (2, .int (iI e)), (3, .int (iI j))] 54 [.int (iI (prf ma s e)), .int (iI 4), .ref aAc]
            refine z_imul C d_M_action_54 ?_
            refine z_iload_n C d_M_action_55 3 rfl ?_
            refine z_iadd C d_M_action_56 ?_
            refine z_iald C d_M_action_57 3 rfl (by omega) ?_
            refine z_goto (tgt := 62) C d_M_action_58 (by decide) ?_
            exact z_iret C K d_M_action_62 (rfl) (ac (4 * prf ma s e + j).toNat, 0) (rfl) (show iI (ac (((4 * (prf ma s e)) + j).toNat)) = iI (ac (4 * prf ma s e + j).toNat) ∧ (((0 ≤ s ∧ s < ma 0 ∧ 0 ≤ e ∧ e < ma 1 + ma 2) ∧ 0 ≤ j → 0 = 0 ∧ (ac (4 * prf ma s e + j).toNat) = if j < 4 ∧ 0 ≤ le (prf ma s e).toNat then ac (prf ma s e * 4 + j).toNat else -1) ∧ (¬ ((0 ≤ s ∧ s < ma 0 ∧ 0 ≤ e ∧ e < ma 1 + ma 2) ∧ 0 ≤ j) → 0 = 1 ∧ (ac (4 * prf ma s e + j).toNat) = 0)) from ⟨rfl, fun _ => ⟨rfl, by rw [if_pos (by omega), show 4 * prf ma s e + j = prf ma s e * 4 + j by omega]⟩, fun z => absurd ⟨hv, c15⟩ z⟩)
      ·
        refine z_aload_n C d_M_action_18 0 rfl ?_
        refine z_iconst C d_M_action_19 ?_
        refine z_calli (As := [.int (iI 1)]) (rest := []) (wr := [iA G aMa 3 ma, iA G aLe 384 le, iA G aAc 1536 ac]) (ws' := fun u => [(aM, .inr (8, [.ref aWc, .int (iI 1), .int (iI msz), .ref aTx, .int (iI mwr), .ref aOu, .int (iI mfa), .int (iI mpl), .int (iI mle), .int (iI mna), .ref aSo, .ref aNf, .ref aNg, .ref aSr, .ref aNu, .ref aMa, .ref aNo, .int (iI mfi), .int (iI mru), .int (iI mnv), .ref aLe, .ref aAc, .ref aDi, .ref aOr, .int (iI mki), .int (iI mfr), .int (iI mto), .int (iI mwh)])), iA G aMa 3 ma, iA G aLe 384 le, iA G aAc 1536 ac]) (q0 := 0) C k_M_62 kc_M_fail (fun l sz => m_M_fail l G sz aM aWc aTx aOu aSo aNf aNg aSr aNu aMa aNo aLe aAc aDi aOr 0 msz mwr mfa mpl mle mna mfi mru mnv mki mfr mto mwh 1 ) rfl rfl (Nat.le_of_ble_eq_true rfl) (by decide) d_M_action_20 rfl rfl [0] [1, 2, 3] [3, 0, 1, 2] rfl rfl (by decide) (fun u => rfl) (fun r u h20 => ?_)
        obtain rfl := h20
        show Zc G X 4 0 0 [(aM, .inr (8, [.ref aWc, .int (iI 1), .int (iI msz), .ref aTx, .int (iI mwr), .ref aOu, .int (iI mfa), .int (iI mpl), .int (iI mle), .int (iI mna), .ref aSo, .ref aNf, .ref aNg, .ref aSr, .ref aNu, .ref aMa, .ref aNo, .int (iI mfi), .int (iI mru), .int (iI mnv), .ref aLe, .ref aAc, .ref aDi, .ref aOr, .int (iI mki), .int (iI mfr), .int (iI mto), .int (iI mwh)])), iA G aMa 3 ma, iA G aLe 384 le, iA G aAc 1536 ac] [(0, .ref aM), (1, .int (iI s)), (2, .int (iI e)), (3, .int (iI j))] 23 [.int (iI 0)]
        exact z_iret C K d_M_action_23 (rfl) (0, 1) (rfl) (show iI 0 = iI 0 ∧ (((0 ≤ s ∧ s < ma 0 ∧ 0 ≤ e ∧ e < ma 1 + ma 2) ∧ 0 ≤ j → 1 = 0 ∧ 0 = if j < 4 ∧ 0 ≤ le (prf ma s e).toNat then ac (prf ma s e * 4 + j).toNat else -1) ∧ (¬ ((0 ≤ s ∧ s < ma 0 ∧ 0 ≤ e ∧ e < ma 1 + ma 2) ∧ 0 ≤ j) → 1 = 1 ∧ 0 = 0)) from ⟨rfl, fun z => absurd z.2 c15, fun _ => ⟨rfl, rfl⟩⟩)
  ·
    skip
    refine z_if_eq (tgt := 18) C d_M_action_11 (by decide) (by omega) (fun c11 => ?_) (fun c11 => ?_)
    ·
      refine z_aload_n C d_M_action_18 0 rfl ?_
      refine z_iconst C d_M_action_19 ?_
      refine z_calli (As := [.int (iI 1)]) (rest := []) (wr := [iA G aMa 3 ma, iA G aLe 384 le, iA G aAc 1536 ac]) (ws' := fun u => [(aM, .inr (8, [.ref aWc, .int (iI 1), .int (iI msz), .ref aTx, .int (iI mwr), .ref aOu, .int (iI mfa), .int (iI mpl), .int (iI mle), .int (iI mna), .ref aSo, .ref aNf, .ref aNg, .ref aSr, .ref aNu, .ref aMa, .ref aNo, .int (iI mfi), .int (iI mru), .int (iI mnv), .ref aLe, .ref aAc, .ref aDi, .ref aOr, .int (iI mki), .int (iI mfr), .int (iI mto), .int (iI mwh)])), iA G aMa 3 ma, iA G aLe 384 le, iA G aAc 1536 ac]) (q0 := 0) C k_M_62 kc_M_fail (fun l sz => m_M_fail l G sz aM aWc aTx aOu aSo aNf aNg aSr aNu aMa aNo aLe aAc aDi aOr 0 msz mwr mfa mpl mle mna mfi mru mnv mki mfr mto mwh 1 ) rfl rfl (Nat.le_of_ble_eq_true rfl) (by decide) d_M_action_20 rfl rfl [0] [1, 2, 3] [3, 0, 1, 2] rfl rfl (by decide) (fun u => rfl) (fun r u h20 => ?_)
      obtain rfl := h20
      show Zc G X 4 0 0 [(aM, .inr (8, [.ref aWc, .int (iI 1), .int (iI msz), .ref aTx, .int (iI mwr), .ref aOu, .int (iI mfa), .int (iI mpl), .int (iI mle), .int (iI mna), .ref aSo, .ref aNf, .ref aNg, .ref aSr, .ref aNu, .ref aMa, .ref aNo, .int (iI mfi), .int (iI mru), .int (iI mnv), .ref aLe, .ref aAc, .ref aDi, .ref aOr, .int (iI mki), .int (iI mfr), .int (iI mto), .int (iI mwh)])), iA G aMa 3 ma, iA G aLe 384 le, iA G aAc 1536 ac] [(0, .ref aM), (1, .int (iI s)), (2, .int (iI e)), (3, .int (iI j))] 23 [.int (iI 0)]
      exact z_iret C K d_M_action_23 (rfl) (0, 1) (rfl) (show iI 0 = iI 0 ∧ (((0 ≤ s ∧ s < ma 0 ∧ 0 ≤ e ∧ e < ma 1 + ma 2) ∧ 0 ≤ j → 1 = 0 ∧ 0 = if j < 4 ∧ 0 ≤ le (prf ma s e).toNat then ac (prf ma s e * 4 + j).toNat else -1) ∧ (¬ ((0 ≤ s ∧ s < ma 0 ∧ 0 ≤ e ∧ e < ma 1 + ma 2) ∧ 0 ≤ j) → 1 = 1 ∧ 0 = 0)) from ⟨rfl, fun z => absurd z.1 hv, fun _ => ⟨rfl, rfl⟩⟩)
    · exact absurd c11 (by omega)
set_option maxHeartbeats 4000000 in
set_option maxRecDepth 100000 in
theorem m_M_missingOf (l : Launch) (G : GG) (sz : Nat) (aM : Nat) (aWc : Nat) (aTx : Nat) (aOu : Nat) (aSo : Nat) (aNf : Nat) (aNg : Nat) (aSr : Nat) (aNu : Nat) (aMa : Nat) (aNo : Nat) (aLe : Nat) (aAc : Nat) (aDi : Nat) (aOr : Nat) (mth : Int) (msz : Int) (mwr : Int) (mfa : Int) (mpl : Int) (mle : Int) (mna : Int) (mfi : Int) (mru : Int) (mnv : Int) (mki : Int) (mfr : Int) (mto : Int) (mwh : Int) (ma : Nat → Int) (le : Nat → Int) (s : Int) (hct : cnt ma) (hg : gol le) (h1 : 0 ≤ s ∧ s < ma 0) : MetI l G sz y_M_missingOf c_M_missingOf 4 (some .int) ({ frames := 2, cells := 0, slots := 0, locals := 43 } : Room) [.ref aM, .int (iI s)] [(aM, .inr (8, [.ref aWc, .int (iI mth), .int (iI msz), .ref aTx, .int (iI mwr), .ref aOu, .int (iI mfa), .int (iI mpl), .int (iI mle), .int (iI mna), .ref aSo, .ref aNf, .ref aNg, .ref aSr, .ref aNu, .ref aMa, .ref aNo, .int (iI mfi), .int (iI mru), .int (iI mnv), .ref aLe, .ref aAc, .ref aDi, .ref aOr, .int (iI mki), .int (iI mfr), .int (iI mto), .int (iI mwh)])), iA G aMa 3 ma, iA G aLe 384 le] (fun (r : Int32) (u : Unit) => r = iI ((msE ma le s 0 (ma 1 + ma 2).toNat).length : Int)) (fun (u : Unit) => [(aM, .inr (8, [.ref aWc, .int (iI mth), .int (iI msz), .ref aTx, .int (iI mwr), .ref aOu, .int (iI mfa), .int (iI mpl), .int (iI mle), .int (iI mna), .ref aSo, .ref aNf, .ref aNg, .ref aSr, .ref aNu, .ref aMa, .ref aNo, .int (iI mfi), .int (iI mru), .int (iI mnv), .ref aLe, .ref aAc, .ref aDi, .ref aOr, .int (iI mki), .int (iI mfr), .int (iI mto), .int (iI mwh)])), iA G aMa 3 ma, iA G aLe 384 le]) := by
  refine MetI.mk (by decide) (Nat.le_of_ble_eq_true rfl) (fun X C K => ?_)
  show Zc G X 4 0 0 [(aM, .inr (8, [.ref aWc, .int (iI mth), .int (iI msz), .ref aTx, .int (iI mwr), .ref aOu, .int (iI mfa), .int (iI mpl), .int (iI mle), .int (iI mna), .ref aSo, .ref aNf, .ref aNg, .ref aSr, .ref aNu, .ref aMa, .ref aNo, .int (iI mfi), .int (iI mru), .int (iI mnv), .ref aLe, .ref aAc, .ref aDi, .ref aOr, .int (iI mki), .int (iI mfr), .int (iI mto), .int (iI mwh)])), iA G aMa 3 ma, iA G aLe 384 le] [(0, .ref aM), (1, .int (iI s))] 0 []
  have hcc := hct
  unfold cnt at hcc
  refine z_iconst C d_M_missingOf_0 ?_
  refine z_istore_n (lv' := [(2, .int (iI 0)), (0, .ref aM), (1, .int (iI s))]) C d_M_missingOf_1 (by decide) rfl ?_
  refine z_iconst C d_M_missingOf_2 ?_
  refine z_istore_n (lv' := [(3, .int (iI 0)), (2, .int (iI 0)), (0, .ref aM), (1, .int (iI s))]) C d_M_missingOf_3 (by decide) rfl ?_
  have loop4 : ∀ (kq : Nat) (f : Int) (k : Int), (0 ≤ k ∧ k ≤ ma 1 + ma 2 ∧ 0 ≤ f ∧ f ≤ k) → (f + ((msE ma le s k (ma 1 + ma 2 - k).toNat).length : Int) = ((msE ma le s 0 (ma 1 + ma 2).toNat).length : Int)) → ((ma 1 + ma 2 - k).toNat < kq) → Zc G X 4 0 0 [(aM, .inr (8, [.ref aWc, .int (iI mth), .int (iI msz), .ref aTx, .int (iI mwr), .ref aOu, .int (iI mfa), .int (iI mpl), .int (iI mle), .int (iI mna), .ref aSo, .ref aNf, .ref aNg, .ref aSr, .ref aNu, .ref aMa, .ref aNo, .int (iI mfi), .int (iI mru), .int (iI mnv), .ref aLe, .ref aAc, .ref aDi, .ref aOr, .int (iI mki), .int (iI mfr), .int (iI mto), .int (iI mwh)])), iA G aMa 3 ma, iA G aLe 384 le] [(0, .ref aM), (1, .int (iI s)), (2, .int (iI f)), (3, .int (iI k))] 4 [] := by
    intro kq
    induction kq with
    | zero => intro f k hk hE hm; exact absurd hm (Nat.not_lt_zero _)
    | succ kq ih4 =>
      intro f k hk hE hm
      -- loop body
      refine z_iload_n C d_M_missingOf_4 3 rfl ?_
      refine z_aload_n C d_M_missingOf_5 0 rfl ?_
      refine z_calli (As := []) (rest := [.int (iI k)]) (wr := [iA G aLe 384 le]) (ws' := fun u => [(aM, .inr (8, [.ref aWc, .int (iI mth), .int (iI msz), .ref aTx, .int (iI mwr), .ref aOu, .int (iI mfa), .int (iI mpl), .int (iI mle), .int (iI mna), .ref aSo, .ref aNf, .ref aNg, .ref aSr, .ref aNu, .ref aMa, .ref aNo, .int (iI mfi), .int (iI mru), .int (iI mnv), .ref aLe, .ref aAc, .ref aDi, .ref aOr, .int (iI mki), .int (iI mfr), .int (iI mto), .int (iI mwh)])), iA G aMa 3 ma, iA G aLe 384 le]) (q0 := 0) C k_M_172 kc_M_events (fun l sz => m_M_events l G sz aM aWc aTx aOu aSo aNf aNg aSr aNu aMa aNo aLe aAc aDi aOr mth msz mwr mfa mpl mle mna mfi mru mnv mki mfr mto mwh ma ) rfl rfl (Nat.le_of_ble_eq_true rfl) (by decide) d_M_missingOf_6 rfl rfl [0, 1] [2] [1, 2, 0] rfl rfl (by decide) (fun u => rfl) (fun r u h6 => ?_)
      obtain rfl := h6
      show Zc G X 4 0 0 [(aM, .inr (8, [.ref aWc, .int (iI mth), .int (iI msz), .ref aTx, .int (iI mwr), .ref aOu, .int (iI mfa), .int (iI mpl), .int (iI mle), .int (iI mna), .ref aSo, .ref aNf, .ref aNg, .ref aSr, .ref aNu, .ref aMa, .ref aNo, .int (iI mfi), .int (iI mru), .int (iI mnv), .ref aLe, .ref aAc, .ref aDi, .ref aOr, .int (iI mki), .int (iI mfr), .int (iI mto), .int (iI mwh)])), iA G aMa 3 ma, iA G aLe 384 le] [(0, .ref aM), (1, .int (iI s)), (2, .int (iI f)), (3, .int (iI k))] 9 [.int (iI (ma 1 + ma 2)), .int (iI k)]
      refine z_icmp_ge (tgt := 41) C d_M_missingOf_9 (by decide) (by omega) (by omega) (fun c9 => ?_) (fun c9 => ?_)
      ·
        refine z_iload_n C d_M_missingOf_41 2 rfl ?_
        rw [show (ma 1 + ma 2 - k).toNat = 0 by omega] at hE
        have hE2 : f + (([] : List Int).length : Int) = ((msE ma le s 0 (ma 1 + ma 2).toNat).length : Int) := hE
        exact z_iret C K d_M_missingOf_42 (rfl) () (rfl) (congrArg iI (by rw [← hE2]; simp))
      ·
        have hpr := prf_rg hct (s := s) (e := k) (by omega)
        have hgk := hg (prf ma s k).toNat
        refine z_iload_n C d_M_missingOf_12 2 rfl ?_
        refine z_aload_n C d_M_missingOf_13 0 rfl ?_
        refine z_get C f_M_40 d_M_missingOf_14 0 rfl rfl ?_
        refine z_aload_n C d_M_missingOf_17 0 rfl ?_
        refine z_iload_n C d_M_missingOf_18 1 rfl ?_
        refine z_iload_n C d_M_missingOf_19 3 rfl ?_
        refine z_calli (As := [.int (iI s), .int (iI k)]) (rest := [.ref aLe, .int (iI f)]) (wr := [iA G aLe 384 le]) (ws' := fun u => [(aM, .inr (8, [.ref aWc, .int (iI mth), .int (iI msz), .ref aTx, .int (iI mwr), .ref aOu, .int (iI mfa), .int (iI mpl), .int (iI mle), .int (iI mna), .ref aSo, .ref aNf, .ref aNg, .ref aSr, .ref aNu, .ref aMa, .ref aNo, .int (iI mfi), .int (iI mru), .int (iI mnv), .ref aLe, .ref aAc, .ref aDi, .ref aOr, .int (iI mki), .int (iI mfr), .int (iI mto), .int (iI mwh)])), iA G aMa 3 ma, iA G aLe 384 le]) (q0 := 0) C k_M_182 kc_M_at (fun l sz => m_M_at l G sz aM aWc aTx aOu aSo aNf aNg aSr aNu aMa aNo aLe aAc aDi aOr mth msz mwr mfa mpl mle mna mfi mru mnv mki mfr mto mwh ma s k (hct) (by omega)) rfl rfl (Nat.le_of_ble_eq_true rfl) (by decide) d_M_missingOf_20 rfl rfl [0, 1] [2] [1, 2, 0] rfl rfl (by decide) (fun u => rfl) (fun r u h20 => ?_)
        obtain rfl := h20
        show Zc G X 4 0 0 [(aM, .inr (8, [.ref aWc, .int (iI mth), .int (iI msz), .ref aTx, .int (iI mwr), .ref aOu, .int (iI mfa), .int (iI mpl), .int (iI mle), .int (iI mna), .ref aSo, .ref aNf, .ref aNg, .ref aSr, .ref aNu, .ref aMa, .ref aNo, .int (iI mfi), .int (iI mru), .int (iI mnv), .ref aLe, .ref aAc, .ref aDi, .ref aOr, .int (iI mki), .int (iI mfr), .int (iI mto), .int (iI mwh)])), iA G aMa 3 ma, iA G aLe 384 le] [(0, .ref aM), (1, .int (iI s)), (2, .int (iI f)), (3, .int (iI k))] 23 [.int (iI (prf ma s k)), .ref aLe, .int (iI f)]
        refine z_iald C d_M_missingOf_23 2 rfl (by omega) ?_
        refine z_iconst C d_M_missingOf_24 ?_
        refine z_icmp_ne (tgt := 32) C d_M_missingOf_25 (by decide) (by omega) (by omega) (fun c25 => ?_) (fun c25 => ?_)
        ·
          refine z_iconst C d_M_missingOf_32 ?_
          refine z_iadd C d_M_missingOf_33 ?_
          refine z_istore_n (lv' := [(2, .int (iI (f + 0))), (0, .ref aM), (1, .int (iI s)), (3, .int (iI k))]) C d_M_missingOf_34 (by decide) rfl ?_
          refine z_iinc (lv' := [(3, .int (iI (k + 1))), (2, .int (iI (f + 0))), (0, .ref aM), (1, .int (iI s))]) C d_M_missingOf_35 3 rfl (by decide) rfl ?_
          refine z_goto (tgt := 4) C d_M_missingOf_38 (by decide) ?_
          refine z_lv [2, 3, 1, 0] (lv' := [(0, .ref aM), (1, .int (iI s)), (2, .int (iI (f + 0))), (3, .int (iI (k + 1)))]) rfl ?_
          exact ih4 _ _ (by omega) (by rw [msE_step ma le s (by omega), if_neg (by omega)] at hE; omega) (by omega)
        ·
          refine z_iconst C d_M_missingOf_28 ?_
          refine z_goto (tgt := 33) C d_M_missingOf_29 (by decide) ?_
          refine z_iadd C d_M_missingOf_33 ?_
          refine z_istore_n (lv' := [(2, .int (iI (f + 1))), (0, .ref aM), (1, .int (iI s)), (3, .int (iI k))]) C d_M_missingOf_34 (by decide) rfl ?_
          refine z_iinc (lv' := [(3, .int (iI (k + 1))), (2, .int (iI (f + 1))), (0, .ref aM), (1, .int (iI s))]) C d_M_missingOf_35 3 rfl (by decide) rfl ?_
          refine z_goto (tgt := 4) C d_M_missingOf_38 (by decide) ?_
          refine z_lv [2, 3, 1, 0] (lv' := [(0, .ref aM), (1, .int (iI s)), (2, .int (iI (f + 1))), (3, .int (iI (k + 1)))]) rfl ?_
          exact ih4 _ _ (by omega) (by rw [msE_step ma le s (by omega), if_pos (by omega)] at hE; rw [List.length_cons] at hE; omega) (by omega)
  refine z_lv [2, 3, 1, 0] (lv' := [(0, .ref aM), (1, .int (iI s)), (2, .int (iI 0)), (3, .int (iI 0))]) rfl ?_
  exact loop4 (_ + 1) _ _ (by omega) (by rw [Int.sub_zero, Int.zero_add]) (Nat.lt_succ_self _)
set_option maxHeartbeats 4000000 in
set_option maxRecDepth 100000 in
theorem m_M_fault (l : Launch) (G : GG) (sz : Nat) (aM : Nat) (aWc : Nat) (aTx : Nat) (aOu : Nat) (aSo : Nat) (aNf : Nat) (aNg : Nat) (aSr : Nat) (aNu : Nat) (aMa : Nat) (aNo : Nat) (aLe : Nat) (aAc : Nat) (aDi : Nat) (aOr : Nat) (mth : Int) (msz : Int) (mwr : Int) (mfa : Int) (mpl : Int) (mle : Int) (mna : Int) (mfi : Int) (mru : Int) (mnv : Int) (mki : Int) (mfr : Int) (mto : Int) (mwh : Int) (w : Int) (h1 : -2147483648 ≤ w ∧ w ≤ 2147483647) : MetI l G sz y_M_fault c_M_fault 2 (some .int) ({ frames := 1, cells := 0, slots := 0, locals := 21 } : Room) [.ref aM, .int (iI w)] [(aM, .inr (8, [.ref aWc, .int (iI mth), .int (iI msz), .ref aTx, .int (iI mwr), .ref aOu, .int (iI mfa), .int (iI mpl), .int (iI mle), .int (iI mna), .ref aSo, .ref aNf, .ref aNg, .ref aSr, .ref aNu, .ref aMa, .ref aNo, .int (iI mfi), .int (iI mru), .int (iI mnv), .ref aLe, .ref aAc, .ref aDi, .ref aOr, .int (iI mki), .int (iI mfr), .int (iI mto), .int (iI mwh)]))] (fun (r : Int32) (u : Int × Int) => r = iI u.1 ∧ ((w = 0 → u.2 = 0 ∧ u.1 = mfa) ∧ (w = 1 → u.2 = 0 ∧ u.1 = mpl) ∧ (¬ w = 0 ∧ ¬ w = 1 → u.2 = 1 ∧ u.1 = 0))) (fun (u : Int × Int) => [(aM, .inr (8, [.ref aWc, .int (iI u.2), .int (iI msz), .ref aTx, .int (iI mwr), .ref aOu, .int (iI mfa), .int (iI mpl), .int (iI mle), .int (iI mna), .ref aSo, .ref aNf, .ref aNg, .ref aSr, .ref aNu, .ref aMa, .ref aNo, .int (iI mfi), .int (iI mru), .int (iI mnv), .ref aLe, .ref aAc, .ref aDi, .ref aOr, .int (iI mki), .int (iI mfr), .int (iI mto), .int (iI mwh)]))]) := by
  refine MetI.mk (by decide) (Nat.le_of_ble_eq_true rfl) (fun X C K => ?_)
  show Zc G X 2 0 0 [(aM, .inr (8, [.ref aWc, .int (iI mth), .int (iI msz), .ref aTx, .int (iI mwr), .ref aOu, .int (iI mfa), .int (iI mpl), .int (iI mle), .int (iI mna), .ref aSo, .ref aNf, .ref aNg, .ref aSr, .ref aNu, .ref aMa, .ref aNo, .int (iI mfi), .int (iI mru), .int (iI mnv), .ref aLe, .ref aAc, .ref aDi, .ref aOr, .int (iI mki), .int (iI mfr), .int (iI mto), .int (iI mwh)]))] [(0, .ref aM), (1, .int (iI w))] 0 []
  refine z_aload_n C d_M_fault_0 0 rfl ?_
  refine z_iconst C d_M_fault_1 ?_
  refine z_put C f_M_55 ok_M nm_M d_M_fault_2 0 rfl rfl rfl rfl (Nat.le_of_ble_eq_true rfl) [(aM, .inr (8, [.ref aWc, .int (iI 0), .int (iI msz), .ref aTx, .int (iI mwr), .ref aOu, .int (iI mfa), .int (iI mpl), .int (iI mle), .int (iI mna), .ref aSo, .ref aNf, .ref aNg, .ref aSr, .ref aNu, .ref aMa, .ref aNo, .int (iI mfi), .int (iI mru), .int (iI mnv), .ref aLe, .ref aAc, .ref aDi, .ref aOr, .int (iI mki), .int (iI mfr), .int (iI mto), .int (iI mwh)]))] rfl ?_
  refine z_iload_n C d_M_fault_5 1 rfl ?_
  refine z_if_ne (tgt := 16) C d_M_fault_6 (by decide) (by omega) (fun c6 => ?_) (fun c6 => ?_)
  ·
    refine z_iload_n C d_M_fault_16 1 rfl ?_
    refine z_iconst C d_M_fault_17 ?_
    refine z_icmp_ne (tgt := 28) C d_M_fault_18 (by decide) (by omega) (by omega) (fun c18 => ?_) (fun c18 => ?_)
    ·
      refine z_aload_n C d_M_fault_28 0 rfl ?_
      refine z_iconst C d_M_fault_29 ?_
      refine z_calli (As := [.int (iI 1)]) (rest := []) (wr := []) (ws' := fun u => [(aM, .inr (8, [.ref aWc, .int (iI 1), .int (iI msz), .ref aTx, .int (iI mwr), .ref aOu, .int (iI mfa), .int (iI mpl), .int (iI mle), .int (iI mna), .ref aSo, .ref aNf, .ref aNg, .ref aSr, .ref aNu, .ref aMa, .ref aNo, .int (iI mfi), .int (iI mru), .int (iI mnv), .ref aLe, .ref aAc, .ref aDi, .ref aOr, .int (iI mki), .int (iI mfr), .int (iI mto), .int (iI mwh)]))]) (q0 := 0) C k_M_62 kc_M_fail (fun l sz => m_M_fail l G sz aM aWc aTx aOu aSo aNf aNg aSr aNu aMa aNo aLe aAc aDi aOr 0 msz mwr mfa mpl mle mna mfi mru mnv mki mfr mto mwh 1 ) rfl rfl (Nat.le_of_ble_eq_true rfl) (by decide) d_M_fault_30 rfl rfl [0] [] [0] rfl rfl (by decide) (fun u => rfl) (fun r u h30 => ?_)
      obtain rfl := h30
      show Zc G X 2 0 0 [(aM, .inr (8, [.ref aWc, .int (iI 1), .int (iI msz), .ref aTx, .int (iI mwr), .ref aOu, .int (iI mfa), .int (iI mpl), .int (iI mle), .int (iI mna), .ref aSo, .ref aNf, .ref aNg, .ref aSr, .ref aNu, .ref aMa, .ref aNo, .int (iI mfi), .int (iI mru), .int (iI mnv), .ref aLe, .ref aAc, .ref aDi, .ref aOr, .int (iI mki), .int (iI mfr), .int (iI mto), .int (iI mwh)]))] [(0, .ref aM), (1, .int (iI w))] 33 [.int (iI 0)]
      exact z_iret C K d_M_fault_33 (rfl) (0, 1) (rfl) (show iI 0 = iI 0 ∧ ((w = 0 → 1 = 0 ∧ 0 = mfa) ∧ (w = 1 → 1 = 0 ∧ 0 = mpl) ∧ (¬ w = 0 ∧ ¬ w = 1 → 1 = 1 ∧ 0 = 0)) from ⟨rfl, fun z => by omega, fun z => by omega, fun _ => ⟨rfl, rfl⟩⟩)
    ·
      refine z_aload_n C d_M_fault_21 0 rfl ?_
      refine z_get C f_M_73 d_M_fault_22 0 rfl rfl ?_
      refine z_goto (tgt := 33) C d_M_fault_25 (by decide) ?_
      exact z_iret C K d_M_fault_33 (rfl) (mpl, 0) (rfl) (show iI mpl = iI mpl ∧ ((w = 0 → 0 = 0 ∧ mpl = mfa) ∧ (w = 1 → 0 = 0 ∧ mpl = mpl) ∧ (¬ w = 0 ∧ ¬ w = 1 → 0 = 1 ∧ mpl = 0)) from ⟨rfl, fun z => by omega, fun _ => ⟨rfl, rfl⟩, fun z => by omega⟩)
  ·
    refine z_aload_n C d_M_fault_9 0 rfl ?_
    refine z_get C f_M_70 d_M_fault_10 0 rfl rfl ?_
    refine z_goto (tgt := 33) C d_M_fault_13 (by decide) ?_
    exact z_iret C K d_M_fault_33 (rfl) (mfa, 0) (rfl) (show iI mfa = iI mfa ∧ ((w = 0 → 0 = 0 ∧ mfa = mfa) ∧ (w = 1 → 0 = 0 ∧ mfa = mpl) ∧ (¬ w = 0 ∧ ¬ w = 1 → 0 = 1 ∧ mfa = 0)) from ⟨rfl, fun _ => ⟨rfl, rfl⟩, fun z => by omega, fun z => by omega⟩)
set_option maxHeartbeats 4000000 in
set_option maxRecDepth 100000 in
theorem m_M_out (l : Launch) (G : GG) (sz : Nat) (aM : Nat) (aWc : Nat) (aTx : Nat) (aOu : Nat) (aSo : Nat) (aNf : Nat) (aNg : Nat) (aSr : Nat) (aNu : Nat) (aMa : Nat) (aNo : Nat) (aLe : Nat) (aAc : Nat) (aDi : Nat) (aOr : Nat) (mth : Int) (msz : Int) (mwr : Int) (mfa : Int) (mpl : Int) (mle : Int) (mna : Int) (mfi : Int) (mru : Int) (mnv : Int) (mki : Int) (mfr : Int) (mto : Int) (mwh : Int) (ou : Nat → Int) (w : Int) (h1 : -2147483648 ≤ w ∧ w ≤ 2147483647) (hw : 0 ≤ mwr ∧ mwr ≤ 8192) : MetI l G sz y_M_out c_M_out 2 (some .int) ({ frames := 1, cells := 0, slots := 0, locals := 22 } : Room) [.ref aM, .int (iI w)] [(aM, .inr (8, [.ref aWc, .int (iI mth), .int (iI msz), .ref aTx, .int (iI mwr), .ref aOu, .int (iI mfa), .int (iI mpl), .int (iI mle), .int (iI mna), .ref aSo, .ref aNf, .ref aNg, .ref aSr, .ref aNu, .ref aMa, .ref aNo, .int (iI mfi), .int (iI mru), .int (iI mnv), .ref aLe, .ref aAc, .ref aDi, .ref aOr, .int (iI mki), .int (iI mfr), .int (iI mto), .int (iI mwh)])), iA G aOu 8192 ou] (fun (r : Int32) (u : Int × Int) => r = iI u.1 ∧ ((0 ≤ w ∧ w < mwr → u.2 = 0 ∧ u.1 = ou w.toNat) ∧ (¬ (0 ≤ w ∧ w < mwr) → u.2 = 1 ∧ u.1 = 0))) (fun (u : Int × Int) => [(aM, .inr (8, [.ref aWc, .int (iI u.2), .int (iI msz), .ref aTx, .int (iI mwr), .ref aOu, .int (iI mfa), .int (iI mpl), .int (iI mle), .int (iI mna), .ref aSo, .ref aNf, .ref aNg, .ref aSr, .ref aNu, .ref aMa, .ref aNo, .int (iI mfi), .int (iI mru), .int (iI mnv), .ref aLe, .ref aAc, .ref aDi, .ref aOr, .int (iI mki), .int (iI mfr), .int (iI mto), .int (iI mwh)])), iA G aOu 8192 ou]) := by
  refine MetI.mk (by decide) (Nat.le_of_ble_eq_true rfl) (fun X C K => ?_)
  show Zc G X 2 0 0 [(aM, .inr (8, [.ref aWc, .int (iI mth), .int (iI msz), .ref aTx, .int (iI mwr), .ref aOu, .int (iI mfa), .int (iI mpl), .int (iI mle), .int (iI mna), .ref aSo, .ref aNf, .ref aNg, .ref aSr, .ref aNu, .ref aMa, .ref aNo, .int (iI mfi), .int (iI mru), .int (iI mnv), .ref aLe, .ref aAc, .ref aDi, .ref aOr, .int (iI mki), .int (iI mfr), .int (iI mto), .int (iI mwh)])), iA G aOu 8192 ou] [(0, .ref aM), (1, .int (iI w))] 0 []
  refine z_aload_n C d_M_out_0 0 rfl ?_
  refine z_iconst C d_M_out_1 ?_
  refine z_put C f_M_55 ok_M nm_M d_M_out_2 0 rfl rfl rfl rfl (Nat.le_of_ble_eq_true rfl) [(aM, .inr (8, [.ref aWc, .int (iI 0), .int (iI msz), .ref aTx, .int (iI mwr), .ref aOu, .int (iI mfa), .int (iI mpl), .int (iI mle), .int (iI mna), .ref aSo, .ref aNf, .ref aNg, .ref aSr, .ref aNu, .ref aMa, .ref aNo, .int (iI mfi), .int (iI mru), .int (iI mnv), .ref aLe, .ref aAc, .ref aDi, .ref aOr, .int (iI mki), .int (iI mfr), .int (iI mto), .int (iI mwh)])), iA G aOu 8192 ou] rfl ?_
  refine z_iload_n C d_M_out_5 1 rfl ?_
  refine z_iconst C d_M_out_6 ?_
  refine z_aload_n C d_M_out_7 0 rfl ?_
  refine z_get C f_M_191 d_M_out_8 0 rfl rfl ?_
  refine z_iconst C d_M_out_11 ?_
  refine z_isub C d_M_out_12 ?_
  refine z_calliS (As := [.int (iI w), .int (iI 0), .int (iI (mwr - 1))]) (rest := []) (wr := [(aM, .inr (8, [.ref aWc, .int (iI 0), .int (iI msz), .ref aTx, .int (iI mwr), .ref aOu, .int (iI mfa), .int (iI mpl), .int (iI mle), .int (iI mna), .ref aSo, .ref aNf, .ref aNg, .ref aSr, .ref aNu, .ref aMa, .ref aNo, .int (iI mfi), .int (iI mru), .int (iI mnv), .ref aLe, .ref aAc, .ref aDi, .ref aOr, .int (iI mki), .int (iI mfr), .int (iI mto), .int (iI mwh)])), iA G aOu 8192 ou]) (ws' := fun u => [(aM, .inr (8, [.ref aWc, .int (iI 0), .int (iI msz), .ref aTx, .int (iI mwr), .ref aOu, .int (iI mfa), .int (iI mpl), .int (iI mle), .int (iI mna), .ref aSo, .ref aNf, .ref aNg, .ref aSr, .ref aNu, .ref aMa, .ref aNo, .int (iI mfi), .int (iI mru), .int (iI mnv), .ref aLe, .ref aAc, .ref aDi, .ref aOr, .int (iI mki), .int (iI mfr), .int (iI mto), .int (iI mwh)])), iA G aOu 8192 ou]) C k_M_66 kc_M_within (fun l sz => m_M_within l G sz w 0 (mwr - 1) (by omega) (by omega) (by omega)) rfl rfl (Nat.le_of_ble_eq_true rfl) (by decide) d_M_out_13 [] [0, 1] [0, 1] rfl rfl (by decide) (fun u => rfl) (fun r u h13 => ?_)
  obtain rfl := h13
  show Zc G X 2 0 0 [(aM, .inr (8, [.ref aWc, .int (iI 0), .int (iI msz), .ref aTx, .int (iI mwr), .ref aOu, .int (iI mfa), .int (iI mpl), .int (iI mle), .int (iI mna), .ref aSo, .ref aNf, .ref aNg, .ref aSr, .ref aNu, .ref aMa, .ref aNo, .int (iI mfi), .int (iI mru), .int (iI mnv), .ref aLe, .ref aAc, .ref aDi, .ref aOr, .int (iI mki), .int (iI mfr), .int (iI mto), .int (iI mwh)])), iA G aOu 8192 ou] [(0, .ref aM), (1, .int (iI w))] 16 [.int (iI (wit w 0 (mwr - 1)))]
  have hw1 : wit w 0 (mwr - 1) = if 0 ≤ w ∧ w ≤ mwr - 1 then 1 else 0 := rfl
  have hw1b := wit_01 w 0 (mwr - 1)
  refine z_if_eq (tgt := 28) C d_M_out_16 (by decide) (by omega) (fun c16 => ?_) (fun c16 => ?_)
  ·
    have hv : ¬ (0 ≤ w ∧ w < mwr) := by split at hw1 <;> omega
    refine z_aload_n C d_M_out_28 0 rfl ?_
    refine z_iconst C d_M_out_29 ?_
    refine z_calli (As := [.int (iI 1)]) (rest := []) (wr := [iA G aOu 8192 ou]) (ws' := fun u => [(aM, .inr (8, [.ref aWc, .int (iI 1), .int (iI msz), .ref aTx, .int (iI mwr), .ref aOu, .int (iI mfa), .int (iI mpl), .int (iI mle), .int (iI mna), .ref aSo, .ref aNf, .ref aNg, .ref aSr, .ref aNu, .ref aMa, .ref aNo, .int (iI mfi), .int (iI mru), .int (iI mnv), .ref aLe, .ref aAc, .ref aDi, .ref aOr, .int (iI mki), .int (iI mfr), .int (iI mto), .int (iI mwh)])), iA G aOu 8192 ou]) (q0 := 0) C k_M_62 kc_M_fail (fun l sz => m_M_fail l G sz aM aWc aTx aOu aSo aNf aNg aSr aNu aMa aNo aLe aAc aDi aOr 0 msz mwr mfa mpl mle mna mfi mru mnv mki mfr mto mwh 1 ) rfl rfl (Nat.le_of_ble_eq_true rfl) (by decide) d_M_out_30 rfl rfl [0] [1] [1, 0] rfl rfl (by decide) (fun u => rfl) (fun r u h30 => ?_)
    obtain rfl := h30
    show Zc G X 2 0 0 [(aM, .inr (8, [.ref aWc, .int (iI 1), .int (iI msz), .ref aTx, .int (iI mwr), .ref aOu, .int (iI mfa), .int (iI mpl), .int (iI mle), .int (iI mna), .ref aSo, .ref aNf, .ref aNg, .ref aSr, .ref aNu, .ref aMa, .ref aNo, .int (iI mfi), .int (iI mru), .int (iI mnv), .ref aLe, .ref aAc, .ref aDi, .ref aOr, .int (iI mki), .int (iI mfr), .int (iI mto), .int (iI mwh)])), iA G aOu 8192 ou] [(0, .ref aM), (1, .int (iI w))] 33 [.int (iI 0)]
    exact z_iret C K d_M_out_33 (rfl) (0, 1) (rfl) (show iI 0 = iI 0 ∧ ((0 ≤ w ∧ w < mwr → 1 = 0 ∧ 0 = ou w.toNat) ∧ (¬ (0 ≤ w ∧ w < mwr) → 1 = 1 ∧ 0 = 0)) from ⟨rfl, fun z => absurd z hv, fun _ => ⟨rfl, rfl⟩⟩)
  ·
    have hv : 0 ≤ w ∧ w < mwr := by split at hw1 <;> omega
    refine z_aload_n C d_M_out_19 0 rfl ?_
    refine z_get C f_M_16 d_M_out_20 0 rfl rfl ?_
    refine z_iload_n C d_M_out_23 1 rfl ?_
    refine z_iald C d_M_out_24 1 rfl (by omega) ?_
    refine z_goto (tgt := 33) C d_M_out_25 (by decide) ?_
    exact z_iret C K d_M_out_33 (rfl) (ou w.toNat, 0) (rfl) (show iI (ou w.toNat) = iI (ou w.toNat) ∧ ((0 ≤ w ∧ w < mwr → 0 = 0 ∧ (ou w.toNat) = ou w.toNat) ∧ (¬ (0 ≤ w ∧ w < mwr) → 0 = 1 ∧ (ou w.toNat) = 0)) from ⟨rfl, fun _ => ⟨rfl, rfl⟩, fun z => absurd hv z⟩)
set_option maxHeartbeats 4000000 in
set_option maxRecDepth 100000 in
theorem m_M_end (l : Launch) (G : GG) (sz : Nat) (aM : Nat) (aWc : Nat) (aTx : Nat) (aOu : Nat) (aSo : Nat) (aNf : Nat) (aNg : Nat) (aSr : Nat) (aNu : Nat) (aMa : Nat) (aNo : Nat) (aLe : Nat) (aAc : Nat) (aDi : Nat) (aOr : Nat) (mth : Int) (msz : Int) (mwr : Int) (mfa : Int) (mpl : Int) (mle : Int) (mna : Int) (mfi : Int) (mru : Int) (mnv : Int) (mki : Int) (mfr : Int) (mto : Int) (mwh : Int) (w : Int) (h1 : -2147483648 ≤ w ∧ w ≤ 2147483647) (hs : 0 ≤ msz ∧ msz ≤ 4096) : MetI l G sz y_M_end c_M_end 2 (some .int) ({ frames := 1, cells := 0, slots := 0, locals := 22 } : Room) [.ref aM, .int (iI w)] [(aM, .inr (8, [.ref aWc, .int (iI mth), .int (iI msz), .ref aTx, .int (iI mwr), .ref aOu, .int (iI mfa), .int (iI mpl), .int (iI mle), .int (iI mna), .ref aSo, .ref aNf, .ref aNg, .ref aSr, .ref aNu, .ref aMa, .ref aNo, .int (iI mfi), .int (iI mru), .int (iI mnv), .ref aLe, .ref aAc, .ref aDi, .ref aOr, .int (iI mki), .int (iI mfr), .int (iI mto), .int (iI mwh)]))] (fun (r : Int32) (u : Int × Int × Int) => r = iI u.1 ∧ ((¬ (0 ≤ w ∧ w ≤ 16) → u.2.1 = 1 ∧ u.1 = 0 ∧ u.2.2 = msz) ∧ (0 ≤ w ∧ w ≤ 16 → (msz < 16 → u.2.1 = 2 ∧ u.1 = 0 ∧ u.2.2 = msz) ∧ (16 ≤ msz → u.2.1 = 0 ∧ u.1 = msz - (16 - w) ∧ u.2.2 = msz - (16 - w))))) (fun (u : Int × Int × Int) => [(aM, .inr (8, [.ref aWc, .int (iI u.2.1), .int (iI u.2.2), .ref aTx, .int (iI mwr), .ref aOu, .int (iI mfa), .int (iI mpl), .int (iI mle), .int (iI mna), .ref aSo, .ref aNf, .ref aNg, .ref aSr, .ref aNu, .ref aMa, .ref aNo, .int (iI mfi), .int (iI mru), .int (iI mnv), .ref aLe, .ref aAc, .ref aDi, .ref aOr, .int (iI mki), .int (iI mfr), .int (iI mto), .int (iI mwh)]))]) := by
  refine MetI.mk (by decide) (Nat.le_of_ble_eq_true rfl) (fun X C K => ?_)
  show Zc G X 2 0 0 [(aM, .inr (8, [.ref aWc, .int (iI mth), .int (iI msz), .ref aTx, .int (iI mwr), .ref aOu, .int (iI mfa), .int (iI mpl), .int (iI mle), .int (iI mna), .ref aSo, .ref aNf, .ref aNg, .ref aSr, .ref aNu, .ref aMa, .ref aNo, .int (iI mfi), .int (iI mru), .int (iI mnv), .ref aLe, .ref aAc, .ref aDi, .ref aOr, .int (iI mki), .int (iI mfr), .int (iI mto), .int (iI mwh)]))] [(0, .ref aM), (1, .int (iI w))] 0 []
  refine z_aload_n C d_M_end_0 0 rfl ?_
  refine z_iconst C d_M_end_1 ?_
  refine z_put C f_M_55 ok_M nm_M d_M_end_2 0 rfl rfl rfl rfl (Nat.le_of_ble_eq_true rfl) [(aM, .inr (8, [.ref aWc, .int (iI 0), .int (iI msz), .ref aTx, .int (iI mwr), .ref aOu, .int (iI mfa), .int (iI mpl), .int (iI mle), .int (iI mna), .ref aSo, .ref aNf, .ref aNg, .ref aSr, .ref aNu, .ref aMa, .ref aNo, .int (iI mfi), .int (iI mru), .int (iI mnv), .ref aLe, .ref aAc, .ref aDi, .ref aOr, .int (iI mki), .int (iI mfr), .int (iI mto), .int (iI mwh)]))] rfl ?_
  refine z_iload_n C d_M_end_5 1 rfl ?_
  refine z_iconst C d_M_end_6 ?_
  refine z_bipush C d_M_end_7 (by decide) ?_
  refine z_calliS (As := [.int (iI w), .int (iI 0), .int (iI 16)]) (rest := []) (wr := [(aM, .inr (8, [.ref aWc, .int (iI 0), .int (iI msz), .ref aTx, .int (iI mwr), .ref aOu, .int (iI mfa), .int (iI mpl), .int (iI mle), .int (iI mna), .ref aSo, .ref aNf, .ref aNg, .ref aSr, .ref aNu, .ref aMa, .ref aNo, .int (iI mfi), .int (iI mru), .int (iI mnv), .ref aLe, .ref aAc, .ref aDi, .ref aOr, .int (iI mki), .int (iI mfr), .int (iI mto), .int (iI mwh)]))]) (ws' := fun u => [(aM, .inr (8, [.ref aWc, .int (iI 0), .int (iI msz), .ref aTx, .int (iI mwr), .ref aOu, .int (iI mfa), .int (iI mpl), .int (iI mle), .int (iI mna), .ref aSo, .ref aNf, .ref aNg, .ref aSr, .ref aNu, .ref aMa, .ref aNo, .int (iI mfi), .int (iI mru), .int (iI mnv), .ref aLe, .ref aAc, .ref aDi, .ref aOr, .int (iI mki), .int (iI mfr), .int (iI mto), .int (iI mwh)]))]) C k_M_66 kc_M_within (fun l sz => m_M_within l G sz w 0 16 (by omega) (by omega) (by omega)) rfl rfl (Nat.le_of_ble_eq_true rfl) (by decide) d_M_end_9 [] [0] [0] rfl rfl (by decide) (fun u => rfl) (fun r u h9 => ?_)
  obtain rfl := h9
  show Zc G X 2 0 0 [(aM, .inr (8, [.ref aWc, .int (iI 0), .int (iI msz), .ref aTx, .int (iI mwr), .ref aOu, .int (iI mfa), .int (iI mpl), .int (iI mle), .int (iI mna), .ref aSo, .ref aNf, .ref aNg, .ref aSr, .ref aNu, .ref aMa, .ref aNo, .int (iI mfi), .int (iI mru), .int (iI mnv), .ref aLe, .ref aAc, .ref aDi, .ref aOr, .int (iI mki), .int (iI mfr), .int (iI mto), .int (iI mwh)]))] [(0, .ref aM), (1, .int (iI w))] 12 [.int (iI (wit w 0 16))]
  have hw1 : wit w 0 16 = if 0 ≤ w ∧ w ≤ 16 then 1 else 0 := rfl
  have hw1b := wit_01 w 0 16
  refine z_if_ne (tgt := 21) C d_M_end_12 (by decide) (by omega) (fun c12 => ?_) (fun c12 => ?_)
  ·
    have hv : 0 ≤ w ∧ w ≤ 16 := by split at hw1 <;> omega
    refine z_aload_n C d_M_end_21 0 rfl ?_
    refine z_get C f_M_59 d_M_end_22 0 rfl rfl ?_
    refine z_bipush C d_M_end_25 (by decide) ?_
    refine z_icmp_ge (tgt := 36) C d_M_end_27 (by decide) (by omega) (by omega) (fun c27 => ?_) (fun c27 => ?_)
    ·
      refine z_aload_n C d_M_end_36 0 rfl ?_
      refine z_dup C d_M_end_37 rfl ?_
      refine z_get C f_M_59 d_M_end_38 0 rfl rfl ?_
      refine z_bipush C d_M_end_41 (by decide) ?_
      refine z_iload_n C d_M_end_43 1 rfl ?_
      refine z_isub C d_M_end_44 ?_
      refine z_isub C d_M_end_45 ?_
      refine z_put C f_M_59 ok_M nm_M d_M_end_46 0 rfl rfl rfl rfl (Nat.le_of_ble_eq_true rfl) [(aM, .inr (8, [.ref aWc, .int (iI 0), .int (iI (msz - (16 - w))), .ref aTx, .int (iI mwr), .ref aOu, .int (iI mfa), .int (iI mpl), .int (iI mle), .int (iI mna), .ref aSo, .ref aNf, .ref aNg, .ref aSr, .ref aNu, .ref aMa, .ref aNo, .int (iI mfi), .int (iI mru), .int (iI mnv), .ref aLe, .ref aAc, .ref aDi, .ref aOr, .int (iI mki), .int (iI mfr), .int (iI mto), .int (iI mwh)]))] rfl ?_
      refine z_aload_n C d_M_end_49 0 rfl ?_
      refine z_get C f_M_59 d_M_end_50 0 rfl rfl ?_
      exact z_iret C K d_M_end_53 (rfl) (msz - (16 - w), 0, msz - (16 - w)) (rfl) (show iI (msz - (16 - w)) = iI (msz - (16 - w)) ∧ ((¬ (0 ≤ w ∧ w ≤ 16) → 0 = 1 ∧ (msz - (16 - w)) = 0 ∧ (msz - (16 - w)) = msz) ∧ (0 ≤ w ∧ w ≤ 16 → (msz < 16 → 0 = 2 ∧ (msz - (16 - w)) = 0 ∧ (msz - (16 - w)) = msz) ∧ (16 ≤ msz → 0 = 0 ∧ (msz - (16 - w)) = msz - (16 - w) ∧ (msz - (16 - w)) = msz - (16 - w)))) from ⟨rfl, fun z => absurd hv z, fun _ => ⟨fun z => by omega, fun _ => ⟨rfl, rfl, rfl⟩⟩⟩)
    ·
      refine z_aload_n C d_M_end_30 0 rfl ?_
      refine z_iconst C d_M_end_31 ?_
      refine z_calli (As := [.int (iI 2)]) (rest := []) (wr := []) (ws' := fun u => [(aM, .inr (8, [.ref aWc, .int (iI 2), .int (iI msz), .ref aTx, .int (iI mwr), .ref aOu, .int (iI mfa), .int (iI mpl), .int (iI mle), .int (iI mna), .ref aSo, .ref aNf, .ref aNg, .ref aSr, .ref aNu, .ref aMa, .ref aNo, .int (iI mfi), .int (iI mru), .int (iI mnv), .ref aLe, .ref aAc, .ref aDi, .ref aOr, .int (iI mki), .int (iI mfr), .int (iI mto), .int (iI mwh)]))]) (q0 := 0) C k_M_62 kc_M_fail (fun l sz => m_M_fail l G sz aM aWc aTx aOu aSo aNf aNg aSr aNu aMa aNo aLe aAc aDi aOr 0 msz mwr mfa mpl mle mna mfi mru mnv mki mfr mto mwh 2 ) rfl rfl (Nat.le_of_ble_eq_true rfl) (by decide) d_M_end_32 rfl rfl [0] [] [0] rfl rfl (by decide) (fun u => rfl) (fun r u h32 => ?_)
      obtain rfl := h32
      show Zc G X 2 0 0 [(aM, .inr (8, [.ref aWc, .int (iI 2), .int (iI msz), .ref aTx, .int (iI mwr), .ref aOu, .int (iI mfa), .int (iI mpl), .int (iI mle), .int (iI mna), .ref aSo, .ref aNf, .ref aNg, .ref aSr, .ref aNu, .ref aMa, .ref aNo, .int (iI mfi), .int (iI mru), .int (iI mnv), .ref aLe, .ref aAc, .ref aDi, .ref aOr, .int (iI mki), .int (iI mfr), .int (iI mto), .int (iI mwh)]))] [(0, .ref aM), (1, .int (iI w))] 35 [.int (iI 0)]
      exact z_iret C K d_M_end_35 (rfl) (0, 2, msz) (rfl) (show iI 0 = iI 0 ∧ ((¬ (0 ≤ w ∧ w ≤ 16) → 2 = 1 ∧ 0 = 0 ∧ msz = msz) ∧ (0 ≤ w ∧ w ≤ 16 → (msz < 16 → 2 = 2 ∧ 0 = 0 ∧ msz = msz) ∧ (16 ≤ msz → 2 = 0 ∧ 0 = msz - (16 - w) ∧ msz = msz - (16 - w)))) from ⟨rfl, fun z => absurd hv z, fun _ => ⟨fun _ => ⟨rfl, rfl, rfl⟩, fun z => by omega⟩⟩)
  ·
    have hv : ¬ (0 ≤ w ∧ w ≤ 16) := by split at hw1 <;> omega
    refine z_aload_n C d_M_end_15 0 rfl ?_
    refine z_iconst C d_M_end_16 ?_
    refine z_calli (As := [.int (iI 1)]) (rest := []) (wr := []) (ws' := fun u => [(aM, .inr (8, [.ref aWc, .int (iI 1), .int (iI msz), .ref aTx, .int (iI mwr), .ref aOu, .int (iI mfa), .int (iI mpl), .int (iI mle), .int (iI mna), .ref aSo, .ref aNf, .ref aNg, .ref aSr, .ref aNu, .ref aMa, .ref aNo, .int (iI mfi), .int (iI mru), .int (iI mnv), .ref aLe, .ref aAc, .ref aDi, .ref aOr, .int (iI mki), .int (iI mfr), .int (iI mto), .int (iI mwh)]))]) (q0 := 0) C k_M_62 kc_M_fail (fun l sz => m_M_fail l G sz aM aWc aTx aOu aSo aNf aNg aSr aNu aMa aNo aLe aAc aDi aOr 0 msz mwr mfa mpl mle mna mfi mru mnv mki mfr mto mwh 1 ) rfl rfl (Nat.le_of_ble_eq_true rfl) (by decide) d_M_end_17 rfl rfl [0] [] [0] rfl rfl (by decide) (fun u => rfl) (fun r u h17 => ?_)
    obtain rfl := h17
    show Zc G X 2 0 0 [(aM, .inr (8, [.ref aWc, .int (iI 1), .int (iI msz), .ref aTx, .int (iI mwr), .ref aOu, .int (iI mfa), .int (iI mpl), .int (iI mle), .int (iI mna), .ref aSo, .ref aNf, .ref aNg, .ref aSr, .ref aNu, .ref aMa, .ref aNo, .int (iI mfi), .int (iI mru), .int (iI mnv), .ref aLe, .ref aAc, .ref aDi, .ref aOr, .int (iI mki), .int (iI mfr), .int (iI mto), .int (iI mwh)]))] [(0, .ref aM), (1, .int (iI w))] 20 [.int (iI 0)]
    exact z_iret C K d_M_end_20 (rfl) (0, 1, msz) (rfl) (show iI 0 = iI 0 ∧ ((¬ (0 ≤ w ∧ w ≤ 16) → 1 = 1 ∧ 0 = 0 ∧ msz = msz) ∧ (0 ≤ w ∧ w ≤ 16 → (msz < 16 → 1 = 2 ∧ 0 = 0 ∧ msz = msz) ∧ (16 ≤ msz → 1 = 0 ∧ 0 = msz - (16 - w) ∧ msz = msz - (16 - w)))) from ⟨rfl, fun _ => ⟨rfl, rfl, rfl⟩, fun z => absurd z hv⟩)
