set_option maxHeartbeats 4000000 in
set_option maxRecDepth 100000 in
theorem m_M_thrown (l : Launch) (G : GG) (sz : Nat) (aM : Nat) (aWc : Nat) (aTx : Nat) (aOu : Nat) (aSo : Nat) (aNf : Nat) (aNg : Nat) (aSr : Nat) (aNu : Nat) (aMa : Nat) (aNo : Nat) (aLe : Nat) (aAc : Nat) (aDi : Nat) (aOr : Nat) (mth : Int) (msz : Int) (mwr : Int) (mfa : Int) (mpl : Int) (mle : Int) (mna : Int) (mfi : Int) (mru : Int) (mnv : Int) (mki : Int) (mfr : Int) (mto : Int) (mwh : Int)  : MetI l G sz y_M_thrown c_M_thrown 1 (some .int) ({ frames := 0, cells := 0, slots := 0, locals := 0 } : Room) [.ref aM] [(aM, .inr (8, [.ref aWc, .int (iI mth), .int (iI msz), .ref aTx, .int (iI mwr), .ref aOu, .int (iI mfa), .int (iI mpl), .int (iI mle), .int (iI mna), .ref aSo, .ref aNf, .ref aNg, .ref aSr, .ref aNu, .ref aMa, .ref aNo, .int (iI mfi), .int (iI mru), .int (iI mnv), .ref aLe, .ref aAc, .ref aDi, .ref aOr, .int (iI mki), .int (iI mfr), .int (iI mto), .int (iI mwh)]))] (fun (r : Int32) (u : Unit) => r = iI mth) (fun (u : Unit) => [(aM, .inr (8, [.ref aWc, .int (iI mth), .int (iI msz), .ref aTx, .int (iI mwr), .ref aOu, .int (iI mfa), .int (iI mpl), .int (iI mle), .int (iI mna), .ref aSo, .ref aNf, .ref aNg, .ref aSr, .ref aNu, .ref aMa, .ref aNo, .int (iI mfi), .int (iI mru), .int (iI mnv), .ref aLe, .ref aAc, .ref aDi, .ref aOr, .int (iI mki), .int (iI mfr), .int (iI mto), .int (iI mwh)]))]) := by
  refine MetI.mk (by decide) (Nat.le_of_ble_eq_true rfl) (fun X C K => ?_)
  show Zc G X 1 0 0 [(aM, .inr (8, [.ref aWc, .int (iI mth), .int (iI msz), .ref aTx, .int (iI mwr), .ref aOu, .int (iI mfa), .int (iI mpl), .int (iI mle), .int (iI mna), .ref aSo, .ref aNf, .ref aNg, .ref aSr, .ref aNu, .ref aMa, .ref aNo, .int (iI mfi), .int (iI mru), .int (iI mnv), .ref aLe, .ref aAc, .ref aDi, .ref aOr, .int (iI mki), .int (iI mfr), .int (iI mto), .int (iI mwh)]))] [(0, .ref aM)] 0 []
  refine z_aload_n C d_M_thrown_0 0 rfl ?_
  refine z_get C f_M_55 d_M_thrown_1 0 rfl rfl ?_
  exact z_iret C K d_M_thrown_4 (rfl) () (rfl) (rfl)
set_option maxHeartbeats 4000000 in
set_option maxRecDepth 100000 in
theorem m_M_fail (l : Launch) (G : GG) (sz : Nat) (aM : Nat) (aWc : Nat) (aTx : Nat) (aOu : Nat) (aSo : Nat) (aNf : Nat) (aNg : Nat) (aSr : Nat) (aNu : Nat) (aMa : Nat) (aNo : Nat) (aLe : Nat) (aAc : Nat) (aDi : Nat) (aOr : Nat) (mth : Int) (msz : Int) (mwr : Int) (mfa : Int) (mpl : Int) (mle : Int) (mna : Int) (mfi : Int) (mru : Int) (mnv : Int) (mki : Int) (mfr : Int) (mto : Int) (mwh : Int) (q : Int)  : MetI l G sz y_M_fail c_M_fail 2 (some .int) ({ frames := 0, cells := 0, slots := 0, locals := 0 } : Room) [.ref aM, .int (iI q)] [(aM, .inr (8, [.ref aWc, .int (iI mth), .int (iI msz), .ref aTx, .int (iI mwr), .ref aOu, .int (iI mfa), .int (iI mpl), .int (iI mle), .int (iI mna), .ref aSo, .ref aNf, .ref aNg, .ref aSr, .ref aNu, .ref aMa, .ref aNo, .int (iI mfi), .int (iI mru), .int (iI mnv), .ref aLe, .ref aAc, .ref aDi, .ref aOr, .int (iI mki), .int (iI mfr), .int (iI mto), .int (iI mwh)]))] (fun (r : Int32) (u : Unit) => r = iI 0) (fun (u : Unit) => [(aM, .inr (8, [.ref aWc, .int (iI q), .int (iI msz), .ref aTx, .int (iI mwr), .ref aOu, .int (iI mfa), .int (iI mpl), .int (iI mle), .int (iI mna), .ref aSo, .ref aNf, .ref aNg, .ref aSr, .ref aNu, .ref aMa, .ref aNo, .int (iI mfi), .int (iI mru), .int (iI mnv), .ref aLe, .ref aAc, .ref aDi, .ref aOr, .int (iI mki), .int (iI mfr), .int (iI mto), .int (iI mwh)]))]) := by
  refine MetI.mk (by decide) (Nat.le_of_ble_eq_true rfl) (fun X C K => ?_)
  show Zc G X 2 0 0 [(aM, .inr (8, [.ref aWc, .int (iI mth), .int (iI msz), .ref aTx, .int (iI mwr), .ref aOu, .int (iI mfa), .int (iI mpl), .int (iI mle), .int (iI mna), .ref aSo, .ref aNf, .ref aNg, .ref aSr, .ref aNu, .ref aMa, .ref aNo, .int (iI mfi), .int (iI mru), .int (iI mnv), .ref aLe, .ref aAc, .ref aDi, .ref aOr, .int (iI mki), .int (iI mfr), .int (iI mto), .int (iI mwh)]))] [(0, .ref aM), (1, .int (iI q))] 0 []
  refine z_aload_n C d_M_fail_0 0 rfl ?_
  refine z_iload_n C d_M_fail_1 1 rfl ?_
  refine z_put C f_M_55 ok_M nm_M d_M_fail_2 0 rfl rfl rfl rfl (Nat.le_of_ble_eq_true rfl) [(aM, .inr (8, [.ref aWc, .int (iI q), .int (iI msz), .ref aTx, .int (iI mwr), .ref aOu, .int (iI mfa), .int (iI mpl), .int (iI mle), .int (iI mna), .ref aSo, .ref aNf, .ref aNg, .ref aSr, .ref aNu, .ref aMa, .ref aNo, .int (iI mfi), .int (iI mru), .int (iI mnv), .ref aLe, .ref aAc, .ref aDi, .ref aOr, .int (iI mki), .int (iI mfr), .int (iI mto), .int (iI mwh)]))] rfl ?_
  refine z_iconst C d_M_fail_5 ?_
  exact z_iret C K d_M_fail_6 (rfl) () (rfl) (rfl)
set_option maxHeartbeats 4000000 in
set_option maxRecDepth 100000 in
theorem m_M_within (l : Launch) (G : GG) (sz : Nat) (v : Int) (a : Int) (b : Int) (h1 : -2147483648 ≤ v ∧ v ≤ 2147483647) (h2 : -2147483648 ≤ a ∧ a ≤ 2147483647) (h3 : -2147483648 ≤ b ∧ b ≤ 2147483647) : MetI l G sz y_M_within c_M_within 3 (some .boolean) ({ frames := 0, cells := 0, slots := 0, locals := 0 } : Room) [.int (iI v), .int (iI a), .int (iI b)] [] (fun (r : Int32) (u : Unit) => r = iI (wit v a b)) (fun (u : Unit) => []) := by
  refine MetI.mk (by decide) (Nat.le_of_ble_eq_true rfl) (fun X C K => ?_)
  show Zc G X 3 0 0 [] [(0, .int (iI v)), (1, .int (iI a)), (2, .int (iI b))] 0 []
  refine z_iload_n C d_M_within_0 0 rfl ?_
  refine z_iload_n C d_M_within_1 1 rfl ?_
  refine z_icmp_lt (tgt := 14) C d_M_within_2 (by decide) (by omega) (by omega) (fun c2 => ?_) (fun c2 => ?_)
  ·
    refine z_iconst C d_M_within_14 ?_
    exact z_iret C K d_M_within_15 (by decide) () (rfl) (congrArg iI (by unfold wit; split <;> omega))
  ·
    refine z_iload_n C d_M_within_5 0 rfl ?_
    refine z_iload_n C d_M_within_6 2 rfl ?_
    refine z_icmp_gt (tgt := 14) C d_M_within_7 (by decide) (by omega) (by omega) (fun c7 => ?_) (fun c7 => ?_)
    ·
      refine z_iconst C d_M_within_14 ?_
      exact z_iret C K d_M_within_15 (by decide) () (rfl) (congrArg iI (by unfold wit; split <;> omega))
    ·
      refine z_iconst C d_M_within_10 ?_
      refine z_goto (tgt := 15) C d_M_within_11 (by decide) ?_
      exact z_iret C K d_M_within_15 (by decide) () (rfl) (congrArg iI (by unfold wit; split <;> omega))
set_option maxHeartbeats 4000000 in
set_option maxRecDepth 100000 in
theorem m_M_tell (l : Launch) (G : GG) (sz : Nat) (aM : Nat) (aWc : Nat) (aTx : Nat) (aOu : Nat) (aSo : Nat) (aNf : Nat) (aNg : Nat) (aSr : Nat) (aNu : Nat) (aMa : Nat) (aNo : Nat) (aLe : Nat) (aAc : Nat) (aDi : Nat) (aOr : Nat) (mth : Int) (msz : Int) (mwr : Int) (mfa : Int) (mpl : Int) (mle : Int) (mna : Int) (mfi : Int) (mru : Int) (mnv : Int) (mki : Int) (mfr : Int) (mto : Int) (mwh : Int) (a : Int) (b : Int) (h0 : mfa = 0) : MetV l G sz y_M_tell c_M_tell 3 ({ frames := 0, cells := 0, slots := 0, locals := 0 } : Room) [.ref aM, .int (iI a), .int (iI b)] [(aM, .inr (8, [.ref aWc, .int (iI mth), .int (iI msz), .ref aTx, .int (iI mwr), .ref aOu, .int (iI mfa), .int (iI mpl), .int (iI mle), .int (iI mna), .ref aSo, .ref aNf, .ref aNg, .ref aSr, .ref aNu, .ref aMa, .ref aNo, .int (iI mfi), .int (iI mru), .int (iI mnv), .ref aLe, .ref aAc, .ref aDi, .ref aOr, .int (iI mki), .int (iI mfr), .int (iI mto), .int (iI mwh)]))] (fun (u : Unit) => True) (fun (u : Unit) => [(aM, .inr (8, [.ref aWc, .int (iI mth), .int (iI msz), .ref aTx, .int (iI mwr), .ref aOu, .int (iI a), .int (iI b), .int (iI mle), .int (iI mna), .ref aSo, .ref aNf, .ref aNg, .ref aSr, .ref aNu, .ref aMa, .ref aNo, .int (iI mfi), .int (iI mru), .int (iI mnv), .ref aLe, .ref aAc, .ref aDi, .ref aOr, .int (iI mki), .int (iI mfr), .int (iI mto), .int (iI mwh)]))]) := by
  refine MetV.mk (by decide) (Nat.le_of_ble_eq_true rfl) (fun X C K => ?_)
  show Zc G X 3 0 0 [(aM, .inr (8, [.ref aWc, .int (iI mth), .int (iI msz), .ref aTx, .int (iI mwr), .ref aOu, .int (iI mfa), .int (iI mpl), .int (iI mle), .int (iI mna), .ref aSo, .ref aNf, .ref aNg, .ref aSr, .ref aNu, .ref aMa, .ref aNo, .int (iI mfi), .int (iI mru), .int (iI mnv), .ref aLe, .ref aAc, .ref aDi, .ref aOr, .int (iI mki), .int (iI mfr), .int (iI mto), .int (iI mwh)]))] [(0, .ref aM), (1, .int (iI a)), (2, .int (iI b))] 0 []
  refine z_aload_n C d_M_tell_0 0 rfl ?_
  refine z_get C f_M_70 d_M_tell_1 0 rfl rfl ?_
  refine z_if_le (tgt := 8) C d_M_tell_4 (by decide) (by omega) (fun c4 => ?_) (fun c4 => ?_)
  ·
    refine z_aload_n C d_M_tell_8 0 rfl ?_
    refine z_iload_n C d_M_tell_9 1 rfl ?_
    refine z_put C f_M_70 ok_M nm_M d_M_tell_10 0 rfl rfl rfl rfl (Nat.le_of_ble_eq_true rfl) [(aM, .inr (8, [.ref aWc, .int (iI mth), .int (iI msz), .ref aTx, .int (iI mwr), .ref aOu, .int (iI a), .int (iI mpl), .int (iI mle), .int (iI mna), .ref aSo, .ref aNf, .ref aNg, .ref aSr, .ref aNu, .ref aMa, .ref aNo, .int (iI mfi), .int (iI mru), .int (iI mnv), .ref aLe, .ref aAc, .ref aDi, .ref aOr, .int (iI mki), .int (iI mfr), .int (iI mto), .int (iI mwh)]))] rfl ?_
    refine z_aload_n C d_M_tell_13 0 rfl ?_
    refine z_iload_n C d_M_tell_14 2 rfl ?_
    refine z_put C f_M_73 ok_M nm_M d_M_tell_15 0 rfl rfl rfl rfl (Nat.le_of_ble_eq_true rfl) [(aM, .inr (8, [.ref aWc, .int (iI mth), .int (iI msz), .ref aTx, .int (iI mwr), .ref aOu, .int (iI a), .int (iI b), .int (iI mle), .int (iI mna), .ref aSo, .ref aNf, .ref aNg, .ref aSr, .ref aNu, .ref aMa, .ref aNo, .int (iI mfi), .int (iI mru), .int (iI mnv), .ref aLe, .ref aAc, .ref aDi, .ref aOr, .int (iI mki), .int (iI mfr), .int (iI mto), .int (iI mwh)]))] rfl ?_
    exact z_vret C K d_M_tell_18 () (rfl) (trivial)
  · exact absurd c4 (by omega)
set_option maxHeartbeats 4000000 in
set_option maxRecDepth 100000 in
theorem m_M_isSmall (l : Launch) (G : GG) (sz : Nat) (c : Int) (h1 : -2147483648 ≤ c ∧ c ≤ 2147483647) : MetI l G sz y_M_isSmall c_M_isSmall 1 (some .boolean) ({ frames := 1, cells := 0, slots := 0, locals := 22 } : Room) [.int (iI c)] [] (fun (r : Int32) (u : Unit) => r = iI (wit c 97 122)) (fun (u : Unit) => []) := by
  refine MetI.mk (by decide) (Nat.le_of_ble_eq_true rfl) (fun X C K => ?_)
  show Zc G X 1 0 0 [] [(0, .int (iI c))] 0 []
  refine z_iload_n C d_M_isSmall_0 0 rfl ?_
  refine z_bipush C d_M_isSmall_1 (by decide) ?_
  refine z_bipush C d_M_isSmall_3 (by decide) ?_
  refine z_calliS (As := [.int (iI c), .int (iI 97), .int (iI 122)]) (rest := []) (wr := []) (ws' := fun u => []) C k_M_66 kc_M_within (fun l sz => m_M_within l G sz c 97 122 (by omega) (by omega) (by omega)) rfl rfl (Nat.le_of_ble_eq_true rfl) (by decide) d_M_isSmall_5 [] [] [] rfl rfl (by decide) (fun u => rfl) (fun r u h5 => ?_)
  obtain rfl := h5
  show Zc G X 1 0 0 [] [(0, .int (iI c))] 8 [.int (iI (wit c 97 122))]
  exact z_iret C K d_M_isSmall_8 (by unfold wit; split <;> decide) () (rfl) (rfl)
set_option maxHeartbeats 4000000 in
set_option maxRecDepth 100000 in
theorem m_M_isWhite (l : Launch) (G : GG) (sz : Nat) (c : Int) (h1 : -2147483648 ≤ c ∧ c ≤ 2147483647) : MetI l G sz y_M_isWhite c_M_isWhite 1 (some .boolean) ({ frames := 0, cells := 0, slots := 0, locals := 0 } : Room) [.int (iI c)] [] (fun (r : Int32) (u : Unit) => r = iI (iwh c)) (fun (u : Unit) => []) := by
  refine MetI.mk (by decide) (Nat.le_of_ble_eq_true rfl) (fun X C K => ?_)
  show Zc G X 1 0 0 [] [(0, .int (iI c))] 0 []
  refine z_iload_n C d_M_isWhite_0 0 rfl ?_
  refine z_bipush C d_M_isWhite_1 (by decide) ?_
  refine z_icmp_eq (tgt := 24) C d_M_isWhite_3 (by decide) (by omega) (by omega) (fun c3 => ?_) (fun c3 => ?_)
  ·
    refine z_iconst C d_M_isWhite_24 ?_
    refine z_goto (tgt := 29) C d_M_isWhite_25 (by decide) ?_
    exact z_iret C K d_M_isWhite_29 (by decide) () (rfl) (congrArg iI (by unfold iwh; split <;> omega))
  ·
    refine z_iload_n C d_M_isWhite_6 0 rfl ?_
    refine z_bipush C d_M_isWhite_7 (by decide) ?_
    refine z_icmp_eq (tgt := 24) C d_M_isWhite_9 (by decide) (by omega) (by omega) (fun c9 => ?_) (fun c9 => ?_)
    ·
      refine z_iconst C d_M_isWhite_24 ?_
      refine z_goto (tgt := 29) C d_M_isWhite_25 (by decide) ?_
      exact z_iret C K d_M_isWhite_29 (by decide) () (rfl) (congrArg iI (by unfold iwh; split <;> omega))
    ·
      refine z_iload_n C d_M_isWhite_12 0 rfl ?_
      refine z_bipush C d_M_isWhite_13 (by decide) ?_
      refine z_icmp_eq (tgt := 24) C d_M_isWhite_15 (by decide) (by omega) (by omega) (fun c15 => ?_) (fun c15 => ?_)
      ·
        refine z_iconst C d_M_isWhite_24 ?_
        refine z_goto (tgt := 29) C d_M_isWhite_25 (by decide) ?_
        exact z_iret C K d_M_isWhite_29 (by decide) () (rfl) (congrArg iI (by unfold iwh; split <;> omega))
      ·
        refine z_iload_n C d_M_isWhite_18 0 rfl ?_
        refine z_bipush C d_M_isWhite_19 (by decide) ?_
        refine z_icmp_ne (tgt := 28) C d_M_isWhite_21 (by decide) (by omega) (by omega) (fun c21 => ?_) (fun c21 => ?_)
        ·
          refine z_iconst C d_M_isWhite_28 ?_
          exact z_iret C K d_M_isWhite_29 (by decide) () (rfl) (congrArg iI (by unfold iwh; split <;> omega))
        ·
          refine z_iconst C d_M_isWhite_24 ?_
          refine z_goto (tgt := 29) C d_M_isWhite_25 (by decide) ?_
          exact z_iret C K d_M_isWhite_29 (by decide) () (rfl) (congrArg iI (by unfold iwh; split <;> omega))
set_option maxHeartbeats 4000000 in
set_option maxRecDepth 100000 in
theorem m_M_isSign (l : Launch) (G : GG) (sz : Nat) (aM : Nat) (aWc : Nat) (aTx : Nat) (aOu : Nat) (aSo : Nat) (aNf : Nat) (aNg : Nat) (aSr : Nat) (aNu : Nat) (aMa : Nat) (aNo : Nat) (aLe : Nat) (aAc : Nat) (aDi : Nat) (aOr : Nat) (mth : Int) (msz : Int) (mwr : Int) (mfa : Int) (mpl : Int) (mle : Int) (mna : Int) (mfi : Int) (mru : Int) (mnv : Int) (mki : Int) (mfr : Int) (mto : Int) (mwh : Int) (c : Int) (hm : 0 ≤ mfa ∧ mfa ≤ 7 ∧ 0 ≤ mki ∧ mki ≤ 3 ∧ -1 ≤ mwh ∧ mwh ≤ 255) (hc : 0 ≤ c ∧ c ≤ 255) : MetI l G sz y_M_isSign c_M_isSign 2 (some .boolean) ({ frames := 0, cells := 0, slots := 0, locals := 0 } : Room) [.ref aM, .int (iI c)] [(aM, .inr (8, [.ref aWc, .int (iI mth), .int (iI msz), .ref aTx, .int (iI mwr), .ref aOu, .int (iI mfa), .int (iI mpl), .int (iI mle), .int (iI mna), .ref aSo, .ref aNf, .ref aNg, .ref aSr, .ref aNu, .ref aMa, .ref aNo, .int (iI mfi), .int (iI mru), .int (iI mnv), .ref aLe, .ref aAc, .ref aDi, .ref aOr, .int (iI mki), .int (iI mfr), .int (iI mto), .int (iI mwh)]))] (fun (r : Int32) (u : Unit) => r = iI (if mfa = 0 ∧ mki = 2 ∧ mwh = c then 1 else 0)) (fun (u : Unit) => [(aM, .inr (8, [.ref aWc, .int (iI mth), .int (iI msz), .ref aTx, .int (iI mwr), .ref aOu, .int (iI mfa), .int (iI mpl), .int (iI mle), .int (iI mna), .ref aSo, .ref aNf, .ref aNg, .ref aSr, .ref aNu, .ref aMa, .ref aNo, .int (iI mfi), .int (iI mru), .int (iI mnv), .ref aLe, .ref aAc, .ref aDi, .ref aOr, .int (iI mki), .int (iI mfr), .int (iI mto), .int (iI mwh)]))]) := by
  refine MetI.mk (by decide) (Nat.le_of_ble_eq_true rfl) (fun X C K => ?_)
  show Zc G X 2 0 0 [(aM, .inr (8, [.ref aWc, .int (iI mth), .int (iI msz), .ref aTx, .int (iI mwr), .ref aOu, .int (iI mfa), .int (iI mpl), .int (iI mle), .int (iI mna), .ref aSo, .ref aNf, .ref aNg, .ref aSr, .ref aNu, .ref aMa, .ref aNo, .int (iI mfi), .int (iI mru), .int (iI mnv), .ref aLe, .ref aAc, .ref aDi, .ref aOr, .int (iI mki), .int (iI mfr), .int (iI mto), .int (iI mwh)]))] [(0, .ref aM), (1, .int (iI c))] 0 []
  refine z_aload_n C d_M_isSign_0 0 rfl ?_
  refine z_get C f_M_70 d_M_isSign_1 0 rfl rfl ?_
  refine z_if_ne (tgt := 27) C d_M_isSign_4 (by decide) (by omega) (fun c4 => ?_) (fun c4 => ?_)
  ·
    refine z_iconst C d_M_isSign_27 ?_
    exact z_iret C K d_M_isSign_28 (by decide) () (rfl) (congrArg iI (by split <;> omega))
  ·
    refine z_aload_n C d_M_isSign_7 0 rfl ?_
    refine z_get C f_M_92 d_M_isSign_8 0 rfl rfl ?_
    refine z_iconst C d_M_isSign_11 ?_
    refine z_icmp_ne (tgt := 27) C d_M_isSign_12 (by decide) (by omega) (by omega) (fun c12 => ?_) (fun c12 => ?_)
    ·
      refine z_iconst C d_M_isSign_27 ?_
      exact z_iret C K d_M_isSign_28 (by decide) () (rfl) (congrArg iI (by split <;> omega))
    ·
      refine z_aload_n C d_M_isSign_15 0 rfl ?_
      refine z_get C f_M_102 d_M_isSign_16 0 rfl rfl ?_
      refine z_iload_n C d_M_isSign_19 1 rfl ?_
      refine z_icmp_ne (tgt := 27) C d_M_isSign_20 (by decide) (by omega) (by omega) (fun c20 => ?_) (fun c20 => ?_)
      ·
        refine z_iconst C d_M_isSign_27 ?_
        exact z_iret C K d_M_isSign_28 (by decide) () (rfl) (congrArg iI (by split <;> omega))
      ·
        refine z_iconst C d_M_isSign_23 ?_
        refine z_goto (tgt := 28) C d_M_isSign_24 (by decide) ?_
        exact z_iret C K d_M_isSign_28 (by decide) () (rfl) (congrArg iI (by split <;> omega))
set_option maxHeartbeats 4000000 in
set_option maxRecDepth 100000 in
theorem m_M_isWord (l : Launch) (G : GG) (sz : Nat) (aM : Nat) (aWc : Nat) (aTx : Nat) (aOu : Nat) (aSo : Nat) (aNf : Nat) (aNg : Nat) (aSr : Nat) (aNu : Nat) (aMa : Nat) (aNo : Nat) (aLe : Nat) (aAc : Nat) (aDi : Nat) (aOr : Nat) (mth : Int) (msz : Int) (mwr : Int) (mfa : Int) (mpl : Int) (mle : Int) (mna : Int) (mfi : Int) (mru : Int) (mnv : Int) (mki : Int) (mfr : Int) (mto : Int) (mwh : Int) (c : Int) (hm : 0 ≤ mfa ∧ mfa ≤ 7 ∧ 0 ≤ mki ∧ mki ≤ 3 ∧ -1 ≤ mwh ∧ mwh ≤ 255) (hc : 0 ≤ c ∧ c ≤ 255) : MetI l G sz y_M_isWord c_M_isWord 2 (some .boolean) ({ frames := 0, cells := 0, slots := 0, locals := 0 } : Room) [.ref aM, .int (iI c)] [(aM, .inr (8, [.ref aWc, .int (iI mth), .int (iI msz), .ref aTx, .int (iI mwr), .ref aOu, .int (iI mfa), .int (iI mpl), .int (iI mle), .int (iI mna), .ref aSo, .ref aNf, .ref aNg, .ref aSr, .ref aNu, .ref aMa, .ref aNo, .int (iI mfi), .int (iI mru), .int (iI mnv), .ref aLe, .ref aAc, .ref aDi, .ref aOr, .int (iI mki), .int (iI mfr), .int (iI mto), .int (iI mwh)]))] (fun (r : Int32) (u : Unit) => r = iI (if mfa = 0 ∧ mki = 3 ∧ mwh = c then 1 else 0)) (fun (u : Unit) => [(aM, .inr (8, [.ref aWc, .int (iI mth), .int (iI msz), .ref aTx, .int (iI mwr), .ref aOu, .int (iI mfa), .int (iI mpl), .int (iI mle), .int (iI mna), .ref aSo, .ref aNf, .ref aNg, .ref aSr, .ref aNu, .ref aMa, .ref aNo, .int (iI mfi), .int (iI mru), .int (iI mnv), .ref aLe, .ref aAc, .ref aDi, .ref aOr, .int (iI mki), .int (iI mfr), .int (iI mto), .int (iI mwh)]))]) := by
  refine MetI.mk (by decide) (Nat.le_of_ble_eq_true rfl) (fun X C K => ?_)
  show Zc G X 2 0 0 [(aM, .inr (8, [.ref aWc, .int (iI mth), .int (iI msz), .ref aTx, .int (iI mwr), .ref aOu, .int (iI mfa), .int (iI mpl), .int (iI mle), .int (iI mna), .ref aSo, .ref aNf, .ref aNg, .ref aSr, .ref aNu, .ref aMa, .ref aNo, .int (iI mfi), .int (iI mru), .int (iI mnv), .ref aLe, .ref aAc, .ref aDi, .ref aOr, .int (iI mki), .int (iI mfr), .int (iI mto), .int (iI mwh)]))] [(0, .ref aM), (1, .int (iI c))] 0 []
  refine z_aload_n C d_M_isWord_0 0 rfl ?_
  refine z_get C f_M_70 d_M_isWord_1 0 rfl rfl ?_
  refine z_if_ne (tgt := 27) C d_M_isWord_4 (by decide) (by omega) (fun c4 => ?_) (fun c4 => ?_)
  ·
    refine z_iconst C d_M_isWord_27 ?_
    exact z_iret C K d_M_isWord_28 (by decide) () (rfl) (congrArg iI (by split <;> omega))
  ·
    refine z_aload_n C d_M_isWord_7 0 rfl ?_
    refine z_get C f_M_92 d_M_isWord_8 0 rfl rfl ?_
    refine z_iconst C d_M_isWord_11 ?_
    refine z_icmp_ne (tgt := 27) C d_M_isWord_12 (by decide) (by omega) (by omega) (fun c12 => ?_) (fun c12 => ?_)
    ·
      refine z_iconst C d_M_isWord_27 ?_
      exact z_iret C K d_M_isWord_28 (by decide) () (rfl) (congrArg iI (by split <;> omega))
    ·
      refine z_aload_n C d_M_isWord_15 0 rfl ?_
      refine z_get C f_M_102 d_M_isWord_16 0 rfl rfl ?_
      refine z_iload_n C d_M_isWord_19 1 rfl ?_
      refine z_icmp_ne (tgt := 27) C d_M_isWord_20 (by decide) (by omega) (by omega) (fun c20 => ?_) (fun c20 => ?_)
      ·
        refine z_iconst C d_M_isWord_27 ?_
        exact z_iret C K d_M_isWord_28 (by decide) () (rfl) (congrArg iI (by split <;> omega))
      ·
        refine z_iconst C d_M_isWord_23 ?_
        refine z_goto (tgt := 28) C d_M_isWord_24 (by decide) ?_
        exact z_iret C K d_M_isWord_28 (by decide) () (rfl) (congrArg iI (by split <;> omega))
set_option maxHeartbeats 4000000 in
set_option maxRecDepth 100000 in
theorem m_M_passWhite (l : Launch) (G : GG) (sz : Nat) (aM : Nat) (aWc : Nat) (aTx : Nat) (aOu : Nat) (aSo : Nat) (aNf : Nat) (aNg : Nat) (aSr : Nat) (aNu : Nat) (aMa : Nat) (aNo : Nat) (aLe : Nat) (aAc : Nat) (aDi : Nat) (aOr : Nat) (mth : Int) (msz : Int) (mwr : Int) (mfa : Int) (mpl : Int) (mle : Int) (mna : Int) (mfi : Int) (mru : Int) (mnv : Int) (mki : Int) (mfr : Int) (mto : Int) (mwh : Int) (sF : Nat → Int) (h1 : 0 ≤ mto ∧ mto ≤ mle ∧ mle ≤ 4096) (hu : u8 sF) : MetV l G sz y_M_passWhite c_M_passWhite 2 ({ frames := 1, cells := 0, slots := 0, locals := 20 } : Room) [.ref aM] [(aM, .inr (8, [.ref aWc, .int (iI mth), .int (iI msz), .ref aTx, .int (iI mwr), .ref aOu, .int (iI mfa), .int (iI mpl), .int (iI mle), .int (iI mna), .ref aSo, .ref aNf, .ref aNg, .ref aSr, .ref aNu, .ref aMa, .ref aNo, .int (iI mfi), .int (iI mru), .int (iI mnv), .ref aLe, .ref aAc, .ref aDi, .ref aOr, .int (iI mki), .int (iI mfr), .int (iI mto), .int (iI mwh)])), iA G aSo 4200 sF] (fun (u : Unit) => True) (fun (u : Unit) => [(aM, .inr (8, [.ref aWc, .int (iI mth), .int (iI msz), .ref aTx, .int (iI mwr), .ref aOu, .int (iI mfa), .int (iI mpl), .int (iI mle), .int (iI mna), .ref aSo, .ref aNf, .ref aNg, .ref aSr, .ref aNu, .ref aMa, .ref aNo, .int (iI mfi), .int (iI mru), .int (iI mnv), .ref aLe, .ref aAc, .ref aDi, .ref aOr, .int (iI mki), .int (iI mfr), .int (iI (lxS (bF sF) mle mto)), .int (iI mwh)])), iA G aSo 4200 sF]) := by
  refine MetV.mk (by decide) (Nat.le_of_ble_eq_true rfl) (fun X C K => ?_)
  show Zc G X 2 0 0 [(aM, .inr (8, [.ref aWc, .int (iI mth), .int (iI msz), .ref aTx, .int (iI mwr), .ref aOu, .int (iI mfa), .int (iI mpl), .int (iI mle), .int (iI mna), .ref aSo, .ref aNf, .ref aNg, .ref aSr, .ref aNu, .ref aMa, .ref aNo, .int (iI mfi), .int (iI mru), .int (iI mnv), .ref aLe, .ref aAc, .ref aDi, .ref aOr, .int (iI mki), .int (iI mfr), .int (iI mto), .int (iI mwh)])), iA G aSo 4200 sF] [(0, .ref aM)] 0 []
  refine z_iconst C d_M_passWhite_0 ?_
  refine z_istore_n (lv' := [(1, .int (iI 1)), (0, .ref aM)]) C d_M_passWhite_1 (by decide) rfl ?_
  have loop2 : ∀ (kq : Nat) (f : Int) (t : Int), (0 ≤ t ∧ t ≤ mle ∧ (f = 0 ∨ f = 1)) → ((f = 1 → skW (bF sF) (mle - t).toNat 0 t = lxS (bF sF) mle mto) ∧ (f = 0 → t = lxS (bF sF) mle mto)) → ((2 * (mle - t) + f).toNat < kq) → Zc G X 2 0 0 [(aM, .inr (8, [.ref aWc, .int (iI mth), .int (iI msz), .ref aTx, .int (iI mwr), .ref aOu, .int (iI mfa), .int (iI mpl), .int (iI mle), .int (iI mna), .ref aSo, .ref aNf, .ref aNg, .ref aSr, .ref aNu, .ref aMa, .ref aNo, .int (iI mfi), .int (iI mru), .int (iI mnv), .ref aLe, .ref aAc, .ref aDi, .ref aOr, .int (iI mki), .int (iI mfr), .int (iI t), .int (iI mwh)])), iA G aSo 4200 sF] [(0, .ref aM), (1, .int (iI f))] 2 [] := by
    intro kq
    induction kq with
    | zero => intro f t hk hE hm; exact absurd hm (Nat.not_lt_zero _)
    | succ kq ih2 =>
      intro f t hk hE hm
      -- loop body
      refine z_iload_n C d_M_passWhite_2 1 rfl ?_
      refine z_if_eq (tgt := 118) C d_M_passWhite_3 (by decide) (by omega) (fun c3 => ?_) (fun c3 => ?_)
      ·
        exact z_vret C K d_M_passWhite_118 () (by rw [← hE.2 (by omega)]) (trivial)
      ·
        have loop6 : ∀ (kq : Nat) (t2 : Int), (t ≤ t2 ∧ t2 ≤ mle) → (skW (bF sF) (mle - t2).toNat 0 t2 = lxS (bF sF) mle mto) → ((mle - t2).toNat < kq) → Zc G X 2 0 0 [(aM, .inr (8, [.ref aWc, .int (iI mth), .int (iI msz), .ref aTx, .int (iI mwr), .ref aOu, .int (iI mfa), .int (iI mpl), .int (iI mle), .int (iI mna), .ref aSo, .ref aNf, .ref aNg, .ref aSr, .ref aNu, .ref aMa, .ref aNo, .int (iI mfi), .int (iI mru), .int (iI mnv), .ref aLe, .ref aAc, .ref aDi, .ref aOr, .int (iI mki), .int (iI mfr), .int (iI t2), .int (iI mwh)])), iA G aSo 4200 sF] [(0, .ref aM), (1, .int (iI f))] 6 [] := by
          intro kq
          induction kq with
          | zero => intro t2 hj hF hm; exact absurd hm (Nat.not_lt_zero _)
          | succ kq ih6 =>
            intro t2 hj hF hm
            have hut := hu t2.toNat
            -- loop body
            refine z_aload_n C d_M_passWhite_6 0 rfl ?_
            refine z_get C f_M_76 d_M_passWhite_7 0 rfl rfl ?_
            refine z_aload_n C d_M_passWhite_10 0 rfl ?_
            refine z_get C f_M_79 d_M_passWhite_11 0 rfl rfl ?_
            refine z_icmp_ge (tgt := 45) C d_M_passWhite_14 (by decide) (by omega) (by omega) (fun c14 => ?_) (fun c14 => ?_)
            ·
              refine z_aload_n C d_M_passWhite_45 0 rfl ?_
              refine z_get C f_M_76 d_M_passWhite_46 0 rfl rfl ?_
              refine z_aload_n C d_M_passWhite_49 0 rfl ?_
              refine z_get C f_M_79 d_M_passWhite_50 0 rfl rfl ?_
              refine z_icmp_ge (tgt := 74) C d_M_passWhite_53 (by decide) (by omega) (by omega) (fun c53 => ?_) (fun c53 => ?_)
              ·
                refine z_iconst C d_M_passWhite_74 ?_
                refine z_istore_n (lv' := [(1, .int (iI 0)), (0, .ref aM)]) C d_M_passWhite_75 (by decide) rfl ?_
                refine z_iload_n C d_M_passWhite_76 0 rfl ?_
                refine z_if_eq (tgt := 2) C d_M_passWhite_77 (by decide) (by omega) (fun c77 => ?_) (fun c77 => ?_)
                ·
                  refine z_lv [1, 0] (lv' := [(0, .ref aM), (1, .int (iI 0))]) rfl ?_
                  exact ih2 _ _ (by omega) (⟨fun z => absurd z (by decide), fun _ => by rw [← hF]; exact (skW_end 0 (by omega)).symm⟩) (by omega)
                · exact absurd c77 (by omega)
              · exact absurd c53 (by omega)
            ·
              refine z_aload_n C d_M_passWhite_17 0 rfl ?_
              refine z_get C f_M_19 d_M_passWhite_18 0 rfl rfl ?_
              refine z_aload_n C d_M_passWhite_21 0 rfl ?_
              refine z_get C f_M_76 d_M_passWhite_22 0 rfl rfl ?_
              refine z_iald C d_M_passWhite_25 1 rfl (by omega) ?_
              refine z_calliS (As := [.int (iI (sF t2.toNat))]) (rest := []) (wr := [(aM, .inr (8, [.ref aWc, .int (iI mth), .int (iI msz), .ref aTx, .int (iI mwr), .ref aOu, .int (iI mfa), .int (iI mpl), .int (iI mle), .int (iI mna), .ref aSo, .ref aNf, .ref aNg, .ref aSr, .ref aNu, .ref aMa, .ref aNo, .int (iI mfi), .int (iI mru), .int (iI mnv), .ref aLe, .ref aAc, .ref aDi, .ref aOr, .int (iI mki), .int (iI mfr), .int (iI t2), .int (iI mwh)])), iA G aSo 4200 sF]) (ws' := fun u => [(aM, .inr (8, [.ref aWc, .int (iI mth), .int (iI msz), .ref aTx, .int (iI mwr), .ref aOu, .int (iI mfa), .int (iI mpl), .int (iI mle), .int (iI mna), .ref aSo, .ref aNf, .ref aNg, .ref aSr, .ref aNu, .ref aMa, .ref aNo, .int (iI mfi), .int (iI mru), .int (iI mnv), .ref aLe, .ref aAc, .ref aDi, .ref aOr, .int (iI mki), .int (iI mfr), .int (iI t2), .int (iI mwh)])), iA G aSo 4200 sF]) C k_M_82 kc_M_isWhite (fun l sz => m_M_isWhite l G sz (sF t2.toNat) (by omega)) rfl rfl (Nat.le_of_ble_eq_true rfl) (by decide) d_M_passWhite_26 [] [0, 1] [0, 1] rfl rfl (by decide) (fun u => rfl) (fun r u h26 => ?_)
              obtain rfl := h26
              show Zc G X 2 0 0 [(aM, .inr (8, [.ref aWc, .int (iI mth), .int (iI msz), .ref aTx, .int (iI mwr), .ref aOu, .int (iI mfa), .int (iI mpl), .int (iI mle), .int (iI mna), .ref aSo, .ref aNf, .ref aNg, .ref aSr, .ref aNu, .ref aMa, .ref aNo, .int (iI mfi), .int (iI mru), .int (iI mnv), .ref aLe, .ref aAc, .ref aDi, .ref aOr, .int (iI mki), .int (iI mfr), .int (iI t2), .int (iI mwh)])), iA G aSo 4200 sF] [(0, .ref aM), (1, .int (iI f))] 29 [.int (iI (iwh (sF t2.toNat)))]
              refine z_if_eq (tgt := 45) C d_M_passWhite_29 (by decide) (by unfold iwh; split <;> omega) (fun c29 => ?_) (fun c29 => ?_)
              ·
                refine z_aload_n C d_M_passWhite_45 0 rfl ?_
                refine z_get C f_M_76 d_M_passWhite_46 0 rfl rfl ?_
                refine z_aload_n C d_M_passWhite_49 0 rfl ?_
                refine z_get C f_M_79 d_M_passWhite_50 0 rfl rfl ?_
                refine z_icmp_ge (tgt := 74) C d_M_passWhite_53 (by decide) (by omega) (by omega) (fun c53 => ?_) (fun c53 => ?_)
                · exact absurd c53 (by omega)
                ·
                  refine z_aload_n C d_M_passWhite_56 0 rfl ?_
                  refine z_get C f_M_19 d_M_passWhite_57 0 rfl rfl ?_
                  refine z_aload_n C d_M_passWhite_60 0 rfl ?_
                  refine z_get C f_M_76 d_M_passWhite_61 0 rfl rfl ?_
                  refine z_iald C d_M_passWhite_64 1 rfl (by omega) ?_
                  refine z_bipush C d_M_passWhite_65 (by decide) ?_
                  refine z_icmp_ne (tgt := 74) C d_M_passWhite_67 (by decide) (by omega) (by omega) (fun c67 => ?_) (fun c67 => ?_)
                  ·
                    refine z_iconst C d_M_passWhite_74 ?_
                    refine z_istore_n (lv' := [(1, .int (iI 0)), (0, .ref aM)]) C d_M_passWhite_75 (by decide) rfl ?_
                    refine z_iload_n C d_M_passWhite_76 0 rfl ?_
                    refine z_if_eq (tgt := 2) C d_M_passWhite_77 (by decide) (by omega) (fun c77 => ?_) (fun c77 => ?_)
                    ·
                      refine z_lv [1, 0] (lv' := [(0, .ref aM), (1, .int (iI 0))]) rfl ?_
                      exact ih2 _ _ (by omega) (⟨fun z => absurd z (by decide), fun _ => by rw [← hF]; exact (skW_stop hu (by omega) (by omega) (by omega)).symm⟩) (by omega)
                    · exact absurd c77 (by omega)
                  ·
                    refine z_iconst C d_M_passWhite_70 ?_
                    refine z_goto (tgt := 75) C d_M_passWhite_71 (by decide) ?_
                    refine z_istore_n (lv' := [(1, .int (iI 1)), (0, .ref aM)]) C d_M_passWhite_75 (by decide) rfl ?_
                    have loop76 : ∀ (kq : Nat) (t3 : Int), (t2 ≤ t3 ∧ t3 ≤ mle ∧ (t3 = t2 → t3 < mle ∧ sF t3.toNat = 35)) → (skW (bF sF) (mle - t3).toNat 1 t3 = lxS (bF sF) mle mto) → ((mle - t3).toNat < kq) → Zc G X 2 0 0 [(aM, .inr (8, [.ref aWc, .int (iI mth), .int (iI msz), .ref aTx, .int (iI mwr), .ref aOu, .int (iI mfa), .int (iI mpl), .int (iI mle), .int (iI mna), .ref aSo, .ref aNf, .ref aNg, .ref aSr, .ref aNu, .ref aMa, .ref aNo, .int (iI mfi), .int (iI mru), .int (iI mnv), .ref aLe, .ref aAc, .ref aDi, .ref aOr, .int (iI mki), .int (iI mfr), .int (iI t3), .int (iI mwh)])), iA G aSo 4200 sF] [(0, .ref aM), (1, .int (iI 1))] 76 [] := by
                      intro kq
                      induction kq with
                      | zero => intro t3 hl hG hm; exact absurd hm (Nat.not_lt_zero _)
                      | succ kq ih76 =>
                        intro t3 hl hG hm
                        have hut3 := hu t3.toNat
                        -- loop body
                        refine z_iload_n C d_M_passWhite_76 1 rfl ?_
                        refine z_if_eq (tgt := 2) C d_M_passWhite_77 (by decide) (by omega) (fun c77 => ?_) (fun c77 => ?_)
                        · exact absurd c77 (by omega)
                        ·
                          refine z_aload_n C d_M_passWhite_80 0 rfl ?_
                          refine z_get C f_M_76 d_M_passWhite_81 0 rfl rfl ?_
                          refine z_aload_n C d_M_passWhite_84 0 rfl ?_
                          refine z_get C f_M_79 d_M_passWhite_85 0 rfl rfl ?_
                          refine z_icmp_ge (tgt := 2) C d_M_passWhite_88 (by decide) (by omega) (by omega) (fun c88 => ?_) (fun c88 => ?_)
                          ·
                            refine z_lv [0, 1] (lv' := [(0, .ref aM), (1, .int (iI 1))]) rfl ?_
                            exact ih2 _ _ (by omega) (⟨fun _ => by rw [← hG, skW_end 0 (by omega), skW_end 1 (by omega)], fun z => absurd z (by decide)⟩) (by omega)
                          ·
                            refine z_aload_n C d_M_passWhite_91 0 rfl ?_
                            refine z_get C f_M_19 d_M_passWhite_92 0 rfl rfl ?_
                            refine z_aload_n C d_M_passWhite_95 0 rfl ?_
                            refine z_get C f_M_76 d_M_passWhite_96 0 rfl rfl ?_
                            refine z_iald C d_M_passWhite_99 1 rfl (by omega) ?_
                            refine z_bipush C d_M_passWhite_100 (by decide) ?_
                            refine z_icmp_eq (tgt := 2) C d_M_passWhite_102 (by decide) (by omega) (by omega) (fun c102 => ?_) (fun c102 => ?_)
                            ·
                              refine z_lv [0, 1] (lv' := [(0, .ref aM), (1, .int (iI 1))]) rfl ?_
                              exact ih2 _ _ (by omega) (⟨fun _ => by rw [← hG, skW_nl hu (by omega) (by omega)], fun z => absurd z (by decide)⟩) (by omega)
                            ·
                              refine z_aload_n C d_M_passWhite_105 0 rfl ?_
                              refine z_dup C d_M_passWhite_106 rfl ?_
                              refine z_get C f_M_76 d_M_passWhite_107 0 rfl rfl ?_
                              refine z_iconst C d_M_passWhite_110 ?_
                              refine z_iadd C d_M_passWhite_111 ?_
                              refine z_put C f_M_76 ok_M nm_M d_M_passWhite_112 0 rfl rfl rfl rfl (Nat.le_of_ble_eq_true rfl) [(aM, .inr (8, [.ref aWc, .int (iI mth), .int (iI msz), .ref aTx, .int (iI mwr), .ref aOu, .int (iI mfa), .int (iI mpl), .int (iI mle), .int (iI mna), .ref aSo, .ref aNf, .ref aNg, .ref aSr, .ref aNu, .ref aMa, .ref aNo, .int (iI mfi), .int (iI mru), .int (iI mnv), .ref aLe, .ref aAc, .ref aDi, .ref aOr, .int (iI mki), .int (iI mfr), .int (iI (t3 + 1)), .int (iI mwh)])), iA G aSo 4200 sF] rfl ?_
                              refine z_goto (tgt := 76) C d_M_passWhite_115 (by decide) ?_
                              refine z_lv [0, 1] (lv' := [(0, .ref aM), (1, .int (iI 1))]) rfl ?_
                              exact ih76 _ (by omega) (by rw [skW_cm hu (by omega) (by omega)] at hG; exact hG) (by omega)
                    refine z_lv [1, 0] (lv' := [(0, .ref aM), (1, .int (iI 1))]) rfl ?_
                    exact loop76 (_ + 1) _ (⟨by omega, by omega, fun _ => ⟨by omega, by omega⟩⟩) (by rw [← skW_hash hu (by omega) (by omega)]; exact hF) (Nat.lt_succ_self _)
              ·
                refine z_aload_n C d_M_passWhite_32 0 rfl ?_
                refine z_dup C d_M_passWhite_33 rfl ?_
                refine z_get C f_M_76 d_M_passWhite_34 0 rfl rfl ?_
                refine z_iconst C d_M_passWhite_37 ?_
                refine z_iadd C d_M_passWhite_38 ?_
                refine z_put C f_M_76 ok_M nm_M d_M_passWhite_39 0 rfl rfl rfl rfl (Nat.le_of_ble_eq_true rfl) [(aM, .inr (8, [.ref aWc, .int (iI mth), .int (iI msz), .ref aTx, .int (iI mwr), .ref aOu, .int (iI mfa), .int (iI mpl), .int (iI mle), .int (iI mna), .ref aSo, .ref aNf, .ref aNg, .ref aSr, .ref aNu, .ref aMa, .ref aNo, .int (iI mfi), .int (iI mru), .int (iI mnv), .ref aLe, .ref aAc, .ref aDi, .ref aOr, .int (iI mki), .int (iI mfr), .int (iI (t2 + 1)), .int (iI mwh)])), iA G aSo 4200 sF] rfl ?_
                refine z_goto (tgt := 6) C d_M_passWhite_42 (by decide) ?_
                refine z_lv [0, 1] (lv' := [(0, .ref aM), (1, .int (iI f))]) rfl ?_
                exact ih6 _ (by omega) (by rw [skW_wh hu (by omega) (by omega)] at hF; exact hF) (by omega)
        refine z_lv [0, 1] (lv' := [(0, .ref aM), (1, .int (iI f))]) rfl ?_
        exact loop6 (_ + 1) _ (by omega) (hE.1 (by omega)) (Nat.lt_succ_self _)
  refine z_lv [1, 0] (lv' := [(0, .ref aM), (1, .int (iI 1))]) rfl ?_
  exact loop2 (_ + 1) _ _ (by omega) (⟨fun _ => rfl, fun z => absurd z (by decide)⟩) (Nat.lt_succ_self _)
