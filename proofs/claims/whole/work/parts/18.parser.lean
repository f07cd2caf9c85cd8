set_option maxHeartbeats 4000000 in
set_option maxRecDepth 100000 in
theorem m_P_goOn (l : Launch) (G : GG) (sz : Nat) (aV : Nat) (aL : Nat) (aN : Nat) (aU : Nat) (vph : Int) (vso : Int) (vne : Int) (vsl : Int) (vst : Int) (vpa : Int) (vac : Int) (q : Int)  : MetI l G sz y_P_goOn c_P_goOn 2 (some .int) ({ frames := 0, cells := 0, slots := 0, locals := 0 } : Room) [.ref aV, .int (iI q)] [(aV, .inr (4, [.ref aL, .ref aN, .ref aU, .int (iI vph), .int (iI vso), .int (iI vne), .int (iI vsl), .int (iI vst), .int (iI vpa), .int (iI vac)]))] (fun (r : Int32) (u : Unit) => r = iI 0) (fun (u : Unit) => [(aV, .inr (4, [.ref aL, .ref aN, .ref aU, .int (iI q), .int (iI vso), .int (iI vne), .int (iI vsl), .int (iI vst), .int (iI vpa), .int (iI vac)]))]) := by
  refine MetI.mk (by decide) (Nat.le_of_ble_eq_true rfl) (fun X C K => ?_)
  show Zc G X 2 0 0 [(aV, .inr (4, [.ref aL, .ref aN, .ref aU, .int (iI vph), .int (iI vso), .int (iI vne), .int (iI vsl), .int (iI vst), .int (iI vpa), .int (iI vac)]))] [(0, .ref aV), (1, .int (iI q))] 0 []
  refine z_aload_n C d_P_goOn_0 0 rfl ?_
  refine z_iload_n C d_P_goOn_1 1 rfl ?_
  refine z_put C f_P_32 ok_P nm_P d_P_goOn_2 0 rfl rfl rfl rfl (Nat.le_of_ble_eq_true rfl) [(aV, .inr (4, [.ref aL, .ref aN, .ref aU, .int (iI q), .int (iI vso), .int (iI vne), .int (iI vsl), .int (iI vst), .int (iI vpa), .int (iI vac)]))] rfl ?_
  refine z_iconst C d_P_goOn_5 ?_
  exact z_iret C K d_P_goOn_6 (rfl) () (rfl) (rfl)
set_option maxHeartbeats 4000000 in
set_option maxRecDepth 100000 in
theorem m_P_want (l : Launch) (G : GG) (sz : Nat) (aV : Nat) (aL : Nat) (aN : Nat) (aU : Nat) (vph : Int) (vso : Int) (vne : Int) (vsl : Int) (vst : Int) (vpa : Int) (vac : Int) (aT : Nat) (ls : Int) (la : Int) (lk : Int) (kd : Int) (q : Int) (hk : 0 ≤ lk ∧ lk ≤ 15) (hkd : 0 ≤ kd ∧ kd ≤ 15) : MetI l G sz y_P_want c_P_want 3 (some .int) ({ frames := 1, cells := 0, slots := 0, locals := 21 } : Room) [.ref aV, .int (iI kd), .int (iI q)] [(aV, .inr (4, [.ref aL, .ref aN, .ref aU, .int (iI vph), .int (iI vso), .int (iI vne), .int (iI vsl), .int (iI vst), .int (iI vpa), .int (iI vac)])), (aL, .inr (2, [.ref aT, .int (iI ls), .int (iI la), .int (iI lk)]))] (fun (r : Int32) (u : Unit) => r = iI (if lk = kd then 0 else 2)) (fun (u : Unit) => [(aV, .inr (4, [.ref aL, .ref aN, .ref aU, .int (iI (if lk = kd then q else vph)), .int (iI vso), .int (iI vne), .int (iI vsl), .int (iI vst), .int (iI vpa), .int (iI vac)])), (aL, .inr (2, [.ref aT, .int (iI ls), .int (iI la), .int (iI lk)]))]) := by
  refine MetI.mk (by decide) (Nat.le_of_ble_eq_true rfl) (fun X C K => ?_)
  show Zc G X 3 0 0 [(aV, .inr (4, [.ref aL, .ref aN, .ref aU, .int (iI vph), .int (iI vso), .int (iI vne), .int (iI vsl), .int (iI vst), .int (iI vpa), .int (iI vac)])), (aL, .inr (2, [.ref aT, .int (iI ls), .int (iI la), .int (iI lk)]))] [(0, .ref aV), (1, .int (iI kd)), (2, .int (iI q))] 0 []
  refine z_aload_n C d_P_want_0 0 rfl ?_
  refine z_get C f_P_9 d_P_want_1 0 rfl rfl ?_
  refine z_get C f_P_38 d_P_want_4 1 rfl rfl ?_
  refine z_iload_n C d_P_want_7 1 rfl ?_
  refine z_icmp_ne (tgt := 19) C d_P_want_8 (by decide) (by omega) (by omega) (fun c8 => ?_) (fun c8 => ?_)
  ·
    refine z_iconst C d_P_want_19 ?_
    exact z_iret C K d_P_want_20 (rfl) () (by rw [if_neg c8]) (congrArg iI (if_neg c8).symm)
  ·
    refine z_aload_n C d_P_want_11 0 rfl ?_
    refine z_iload_n C d_P_want_12 2 rfl ?_
    refine z_calli (As := [.int (iI q)]) (rest := []) (wr := [(aL, .inr (2, [.ref aT, .int (iI ls), .int (iI la), .int (iI lk)]))]) (ws' := fun u => [(aV, .inr (4, [.ref aL, .ref aN, .ref aU, .int (iI q), .int (iI vso), .int (iI vne), .int (iI vsl), .int (iI vst), .int (iI vpa), .int (iI vac)])), (aL, .inr (2, [.ref aT, .int (iI ls), .int (iI la), .int (iI lk)]))]) (q0 := 0) C k_P_65 kc_P_goOn (fun l sz => m_P_goOn l G sz aV aL aN aU vph vso vne vsl vst vpa vac q ) rfl rfl (Nat.le_of_ble_eq_true rfl) (by decide) d_P_want_13 rfl rfl [0] [1] [1, 0] rfl rfl (by decide) (fun u => rfl) (fun r u h13 => ?_)
    obtain rfl := h13
    show Zc G X 3 0 0 [(aV, .inr (4, [.ref aL, .ref aN, .ref aU, .int (iI q), .int (iI vso), .int (iI vne), .int (iI vsl), .int (iI vst), .int (iI vpa), .int (iI vac)])), (aL, .inr (2, [.ref aT, .int (iI ls), .int (iI la), .int (iI lk)]))] [(0, .ref aV), (1, .int (iI kd)), (2, .int (iI q))] 16 [.int (iI 0)]
    refine z_goto (tgt := 20) C d_P_want_16 (by decide) ?_
    have c8 : lk = kd := by omega
    exact z_iret C K d_P_want_20 (rfl) () (by rw [if_pos c8]) (congrArg iI (if_pos c8).symm)
set_option maxHeartbeats 4000000 in
set_option maxRecDepth 100000 in
theorem m_P_commaOr (l : Launch) (G : GG) (sz : Nat) (aV : Nat) (aL : Nat) (aN : Nat) (aU : Nat) (vph : Int) (vso : Int) (vne : Int) (vsl : Int) (vst : Int) (vpa : Int) (vac : Int) (aT : Nat) (ls : Int) (la : Int) (lk : Int) (cp : Int) (ok : Int) (op : Int) (hk : 0 ≤ lk ∧ lk ≤ 15) (hkd : 0 ≤ ok ∧ ok ≤ 15) : MetI l G sz y_P_commaOr c_P_commaOr 4 (some .int) ({ frames := 2, cells := 0, slots := 0, locals := 43 } : Room) [.ref aV, .int (iI cp), .int (iI ok), .int (iI op)] [(aV, .inr (4, [.ref aL, .ref aN, .ref aU, .int (iI vph), .int (iI vso), .int (iI vne), .int (iI vsl), .int (iI vst), .int (iI vpa), .int (iI vac)])), (aL, .inr (2, [.ref aT, .int (iI ls), .int (iI la), .int (iI lk)]))] (fun (r : Int32) (u : Unit) => r = iI (if lk = 4 then 0 else if lk = ok then 0 else 2)) (fun (u : Unit) => [(aV, .inr (4, [.ref aL, .ref aN, .ref aU, .int (iI (if lk = 4 then cp else if lk = ok then op else vph)), .int (iI vso), .int (iI vne), .int (iI vsl), .int (iI vst), .int (iI vpa), .int (iI vac)])), (aL, .inr (2, [.ref aT, .int (iI ls), .int (iI la), .int (iI lk)]))]) := by
  refine MetI.mk (by decide) (Nat.le_of_ble_eq_true rfl) (fun X C K => ?_)
  show Zc G X 4 0 0 [(aV, .inr (4, [.ref aL, .ref aN, .ref aU, .int (iI vph), .int (iI vso), .int (iI vne), .int (iI vsl), .int (iI vst), .int (iI vpa), .int (iI vac)])), (aL, .inr (2, [.ref aT, .int (iI ls), .int (iI la), .int (iI lk)]))] [(0, .ref aV), (1, .int (iI cp)), (2, .int (iI ok)), (3, .int (iI op))] 0 []
  refine z_aload_n C d_P_commaOr_0 0 rfl ?_
  refine z_get C f_P_9 d_P_commaOr_1 0 rfl rfl ?_
  refine z_get C f_P_38 d_P_commaOr_4 1 rfl rfl ?_
  refine z_iconst C d_P_commaOr_7 ?_
  refine z_icmp_ne (tgt := 19) C d_P_commaOr_8 (by decide) (by omega) (by omega) (fun c8 => ?_) (fun c8 => ?_)
  ·
    refine z_aload_n C d_P_commaOr_19 0 rfl ?_
    refine z_iload_n C d_P_commaOr_20 2 rfl ?_
    refine z_iload_n C d_P_commaOr_21 3 rfl ?_
    refine z_calli (As := [.int (iI ok), .int (iI op)]) (rest := []) (wr := []) (ws' := fun u => [(aV, .inr (4, [.ref aL, .ref aN, .ref aU, .int (iI (if lk = ok then op else vph)), .int (iI vso), .int (iI vne), .int (iI vsl), .int (iI vst), .int (iI vpa), .int (iI vac)])), (aL, .inr (2, [.ref aT, .int (iI ls), .int (iI la), .int (iI lk)]))]) (q0 := 0) C k_P_61 kc_P_want (fun l sz => m_P_want l G sz aV aL aN aU vph vso vne vsl vst vpa vac aT ls la lk ok op (by omega) (by omega)) rfl rfl (Nat.le_of_ble_eq_true rfl) (by decide) d_P_commaOr_22 rfl rfl [0, 1] [] [0, 1] rfl rfl (by decide) (fun u => rfl) (fun r u h22 => ?_)
    obtain rfl := h22
    show Zc G X 4 0 0 [(aV, .inr (4, [.ref aL, .ref aN, .ref aU, .int (iI (if lk = ok then op else vph)), .int (iI vso), .int (iI vne), .int (iI vsl), .int (iI vst), .int (iI vpa), .int (iI vac)])), (aL, .inr (2, [.ref aT, .int (iI ls), .int (iI la), .int (iI lk)]))] [(0, .ref aV), (1, .int (iI cp)), (2, .int (iI ok)), (3, .int (iI op))] 25 [.int (iI (if lk = ok then 0 else 2))]
    exact z_iret C K d_P_commaOr_25 (rfl) () (by rw [if_neg c8]) (congrArg iI (if_neg c8).symm)
  ·
    refine z_aload_n C d_P_commaOr_11 0 rfl ?_
    refine z_iload_n C d_P_commaOr_12 1 rfl ?_
    refine z_calli (As := [.int (iI cp)]) (rest := []) (wr := [(aL, .inr (2, [.ref aT, .int (iI ls), .int (iI la), .int (iI lk)]))]) (ws' := fun u => [(aV, .inr (4, [.ref aL, .ref aN, .ref aU, .int (iI cp), .int (iI vso), .int (iI vne), .int (iI vsl), .int (iI vst), .int (iI vpa), .int (iI vac)])), (aL, .inr (2, [.ref aT, .int (iI ls), .int (iI la), .int (iI lk)]))]) (q0 := 0) C k_P_65 kc_P_goOn (fun l sz => m_P_goOn l G sz aV aL aN aU vph vso vne vsl vst vpa vac cp ) rfl rfl (Nat.le_of_ble_eq_true rfl) (by decide) d_P_commaOr_13 rfl rfl [0] [1] [1, 0] rfl rfl (by decide) (fun u => rfl) (fun r u h13 => ?_)
    obtain rfl := h13
    show Zc G X 4 0 0 [(aV, .inr (4, [.ref aL, .ref aN, .ref aU, .int (iI cp), .int (iI vso), .int (iI vne), .int (iI vsl), .int (iI vst), .int (iI vpa), .int (iI vac)])), (aL, .inr (2, [.ref aT, .int (iI ls), .int (iI la), .int (iI lk)]))] [(0, .ref aV), (1, .int (iI cp)), (2, .int (iI ok)), (3, .int (iI op))] 16 [.int (iI 0)]
    refine z_goto (tgt := 25) C d_P_commaOr_16 (by decide) ?_
    have c8 : lk = 4 := by omega
    exact z_iret C K d_P_commaOr_25 (rfl) () (by rw [if_pos c8]) (congrArg iI (if_pos c8).symm)
set_option maxHeartbeats 4000000 in
set_option maxRecDepth 100000 in
theorem m_P_beginNames (l : Launch) (G : GG) (sz : Nat) (aV : Nat) (aL : Nat) (aN : Nat) (aU : Nat) (vph : Int) (vso : Int) (vne : Int) (vsl : Int) (vst : Int) (vpa : Int) (vac : Int) (s : Int)  : MetI l G sz y_P_beginNames c_P_beginNames 2 (some .int) ({ frames := 1, cells := 0, slots := 0, locals := 21 } : Room) [.ref aV, .int (iI s)] [(aV, .inr (4, [.ref aL, .ref aN, .ref aU, .int (iI vph), .int (iI vso), .int (iI vne), .int (iI vsl), .int (iI vst), .int (iI vpa), .int (iI vac)]))] (fun (r : Int32) (u : Unit) => r = iI 0) (fun (u : Unit) => [(aV, .inr (4, [.ref aL, .ref aN, .ref aU, .int (iI 1), .int (iI s), .int (iI vne), .int (iI vsl), .int (iI vst), .int (iI vpa), .int (iI vac)]))]) := by
  refine MetI.mk (by decide) (Nat.le_of_ble_eq_true rfl) (fun X C K => ?_)
  show Zc G X 2 0 0 [(aV, .inr (4, [.ref aL, .ref aN, .ref aU, .int (iI vph), .int (iI vso), .int (iI vne), .int (iI vsl), .int (iI vst), .int (iI vpa), .int (iI vac)]))] [(0, .ref aV), (1, .int (iI s))] 0 []
  refine z_aload_n C d_P_beginNames_0 0 rfl ?_
  refine z_iload_n C d_P_beginNames_1 1 rfl ?_
  refine z_put C f_P_90 ok_P nm_P d_P_beginNames_2 0 rfl rfl rfl rfl (Nat.le_of_ble_eq_true rfl) [(aV, .inr (4, [.ref aL, .ref aN, .ref aU, .int (iI vph), .int (iI s), .int (iI vne), .int (iI vsl), .int (iI vst), .int (iI vpa), .int (iI vac)]))] rfl ?_
  refine z_aload_n C d_P_beginNames_5 0 rfl ?_
  refine z_iconst C d_P_beginNames_6 ?_
  refine z_calli (As := [.int (iI 1)]) (rest := []) (wr := []) (ws' := fun u => [(aV, .inr (4, [.ref aL, .ref aN, .ref aU, .int (iI 1), .int (iI s), .int (iI vne), .int (iI vsl), .int (iI vst), .int (iI vpa), .int (iI vac)]))]) (q0 := 0) C k_P_65 kc_P_goOn (fun l sz => m_P_goOn l G sz aV aL aN aU vph s vne vsl vst vpa vac 1 ) rfl rfl (Nat.le_of_ble_eq_true rfl) (by decide) d_P_beginNames_7 rfl rfl [0] [] [0] rfl rfl (by decide) (fun u => rfl) (fun r u h7 => ?_)
  obtain rfl := h7
  show Zc G X 2 0 0 [(aV, .inr (4, [.ref aL, .ref aN, .ref aU, .int (iI 1), .int (iI s), .int (iI vne), .int (iI vsl), .int (iI vst), .int (iI vpa), .int (iI vac)]))] [(0, .ref aV), (1, .int (iI s))] 10 [.int (iI 0)]
  exact z_iret C K d_P_beginNames_10 (rfl) () (rfl) (rfl)
set_option maxHeartbeats 4000000 in
set_option maxRecDepth 100000 in
theorem m_P_beginPair (l : Launch) (G : GG) (sz : Nat) (aV : Nat) (aL : Nat) (aN : Nat) (aU : Nat) (vph : Int) (vso : Int) (vne : Int) (vsl : Int) (vst : Int) (vpa : Int) (vac : Int) (b : Int) (hb : b = 0 ∨ b = 1) : MetI l G sz y_P_beginPair c_P_beginPair 2 (some .int) ({ frames := 1, cells := 0, slots := 0, locals := 21 } : Room) [.ref aV, .int (iI b)] [(aV, .inr (4, [.ref aL, .ref aN, .ref aU, .int (iI vph), .int (iI vso), .int (iI vne), .int (iI vsl), .int (iI vst), .int (iI vpa), .int (iI vac)]))] (fun (r : Int32) (u : Unit) => r = iI 0) (fun (u : Unit) => [(aV, .inr (4, [.ref aL, .ref aN, .ref aU, .int (iI 3), .int (iI vso), .int (iI b), .int (iI vsl), .int (iI vst), .int (iI vpa), .int (iI 0)]))]) := by
  refine MetI.mk (by decide) (Nat.le_of_ble_eq_true rfl) (fun X C K => ?_)
  show Zc G X 2 0 0 [(aV, .inr (4, [.ref aL, .ref aN, .ref aU, .int (iI vph), .int (iI vso), .int (iI vne), .int (iI vsl), .int (iI vst), .int (iI vpa), .int (iI vac)]))] [(0, .ref aV), (1, .int (iI b))] 0 []
  rcases hb with rfl | rfl
  ·
    skip
    refine z_aload_n C d_P_beginPair_0 0 rfl ?_
    refine z_iload_n C d_P_beginPair_1 1 rfl ?_
    refine z_put C f_P_93 ok_P nm_P d_P_beginPair_2 0 rfl rfl (by decide) (by decide) (Nat.le_of_ble_eq_true rfl) [(aV, .inr (4, [.ref aL, .ref aN, .ref aU, .int (iI vph), .int (iI vso), .int (iI 0), .int (iI vsl), .int (iI vst), .int (iI vpa), .int (iI vac)]))] rfl ?_
    refine z_aload_n C d_P_beginPair_5 0 rfl ?_
    refine z_iconst C d_P_beginPair_6 ?_
    refine z_put C f_P_97 ok_P nm_P d_P_beginPair_7 0 rfl rfl rfl rfl (Nat.le_of_ble_eq_true rfl) [(aV, .inr (4, [.ref aL, .ref aN, .ref aU, .int (iI vph), .int (iI vso), .int (iI 0), .int (iI vsl), .int (iI vst), .int (iI vpa), .int (iI 0)]))] rfl ?_
    refine z_aload_n C d_P_beginPair_10 0 rfl ?_
    refine z_iconst C d_P_beginPair_11 ?_
    refine z_calli (As := [.int (iI 3)]) (rest := []) (wr := []) (ws' := fun u => [(aV, .inr (4, [.ref aL, .ref aN, .ref aU, .int (iI 3), .int (iI vso), .int (iI 0), .int (iI vsl), .int (iI vst), .int (iI vpa), .int (iI 0)]))]) (q0 := 0) C k_P_65 kc_P_goOn (fun l sz => m_P_goOn l G sz aV aL aN aU vph vso 0 vsl vst vpa 0 3 ) rfl rfl (Nat.le_of_ble_eq_true rfl) (by decide) d_P_beginPair_12 rfl rfl [0] [] [0] rfl rfl (by decide) (fun u => rfl) (fun r u h12 => ?_)
    obtain rfl := h12
    show Zc G X 2 0 0 [(aV, .inr (4, [.ref aL, .ref aN, .ref aU, .int (iI 3), .int (iI vso), .int (iI 0), .int (iI vsl), .int (iI vst), .int (iI vpa), .int (iI 0)]))] [(0, .ref aV), (1, .int (iI 0))] 15 [.int (iI 0)]
    exact z_iret C K d_P_beginPair_15 (rfl) () (rfl) (rfl)
  ·
    skip
    refine z_aload_n C d_P_beginPair_0 0 rfl ?_
    refine z_iload_n C d_P_beginPair_1 1 rfl ?_
    refine z_put C f_P_93 ok_P nm_P d_P_beginPair_2 0 rfl rfl (by decide) (by decide) (Nat.le_of_ble_eq_true rfl) [(aV, .inr (4, [.ref aL, .ref aN, .ref aU, .int (iI vph), .int (iI vso), .int (iI 1), .int (iI vsl), .int (iI vst), .int (iI vpa), .int (iI vac)]))] rfl ?_
    refine z_aload_n C d_P_beginPair_5 0 rfl ?_
    refine z_iconst C d_P_beginPair_6 ?_
    refine z_put C f_P_97 ok_P nm_P d_P_beginPair_7 0 rfl rfl rfl rfl (Nat.le_of_ble_eq_true rfl) [(aV, .inr (4, [.ref aL, .ref aN, .ref aU, .int (iI vph), .int (iI vso), .int (iI 1), .int (iI vsl), .int (iI vst), .int (iI vpa), .int (iI 0)]))] rfl ?_
    refine z_aload_n C d_P_beginPair_10 0 rfl ?_
    refine z_iconst C d_P_beginPair_11 ?_
    refine z_calli (As := [.int (iI 3)]) (rest := []) (wr := []) (ws' := fun u => [(aV, .inr (4, [.ref aL, .ref aN, .ref aU, .int (iI 3), .int (iI vso), .int (iI 1), .int (iI vsl), .int (iI vst), .int (iI vpa), .int (iI 0)]))]) (q0 := 0) C k_P_65 kc_P_goOn (fun l sz => m_P_goOn l G sz aV aL aN aU vph vso 1 vsl vst vpa 0 3 ) rfl rfl (Nat.le_of_ble_eq_true rfl) (by decide) d_P_beginPair_12 rfl rfl [0] [] [0] rfl rfl (by decide) (fun u => rfl) (fun r u h12 => ?_)
    obtain rfl := h12
    show Zc G X 2 0 0 [(aV, .inr (4, [.ref aL, .ref aN, .ref aU, .int (iI 3), .int (iI vso), .int (iI 1), .int (iI vsl), .int (iI vst), .int (iI vpa), .int (iI 0)]))] [(0, .ref aV), (1, .int (iI 1))] 15 [.int (iI 0)]
    exact z_iret C K d_P_beginPair_15 (rfl) () (rfl) (rfl)
set_option maxHeartbeats 4000000 in
set_option maxRecDepth 100000 in
theorem m_P_beginStatement (l : Launch) (G : GG) (sz : Nat) (aV : Nat) (aL : Nat) (aN : Nat) (aU : Nat) (vph : Int) (vso : Int) (vne : Int) (vsl : Int) (vst : Int) (vpa : Int) (vac : Int) (aT : Nat) (ls : Int) (la : Int) (lk : Int) (hk : 0 ≤ lk ∧ lk ≤ 15) : MetI l G sz y_P_beginStatement c_P_beginStatement 1 (some .int) ({ frames := 2, cells := 0, slots := 0, locals := 43 } : Room) [.ref aV] [(aV, .inr (4, [.ref aL, .ref aN, .ref aU, .int (iI vph), .int (iI vso), .int (iI vne), .int (iI vsl), .int (iI vst), .int (iI vpa), .int (iI vac)])), (aL, .inr (2, [.ref aT, .int (iI ls), .int (iI la), .int (iI lk)]))] (fun (r : Int32) (u : Unit) => r = iI (if 7 ≤ lk ∧ lk ≤ 12 ∨ lk = 0 then 0 else 2)) (fun (u : Unit) => [(aV, .inr (4, [.ref aL, .ref aN, .ref aU, .int (iI (if 7 ≤ lk ∧ lk ≤ 9 then 1 else if lk = 10 ∨ lk = 11 then 3 else if lk = 12 then 11 else if lk = 0 then 0 else vph)), .int (iI (if 7 ≤ lk ∧ lk ≤ 9 then lk - 7 else vso)), .int (iI (if lk = 10 ∨ lk = 11 then lk - 10 else vne)), .int (iI vsl), .int (iI vst), .int (iI vpa), .int (iI (if lk = 10 ∨ lk = 11 then 0 else vac))])), (aL, .inr (2, [.ref aT, .int (iI ls), .int (iI la), .int (iI lk)]))]) := by
  refine MetI.mk (by decide) (Nat.le_of_ble_eq_true rfl) (fun X C K => ?_)
  show Zc G X 1 0 0 [(aV, .inr (4, [.ref aL, .ref aN, .ref aU, .int (iI vph), .int (iI vso), .int (iI vne), .int (iI vsl), .int (iI vst), .int (iI vpa), .int (iI vac)])), (aL, .inr (2, [.ref aT, .int (iI ls), .int (iI la), .int (iI lk)]))] [(0, .ref aV)] 0 []
  rcases (show lk = 7 ∨ lk = 8 ∨ lk = 9 ∨ lk = 10 ∨ lk = 11 ∨ lk = 12 ∨ (¬ (7 ≤ lk ∧ lk ≤ 12)) by omega) with rfl | rfl | rfl | rfl | rfl | rfl | hno
  ·
    skip
    refine z_aload_n C d_P_beginStatement_0 0 rfl ?_
    refine z_get C f_P_9 d_P_beginStatement_1 0 rfl rfl ?_
    refine z_get C f_P_38 d_P_beginStatement_4 1 rfl rfl ?_
    refine z_tableIn (tgt := 44) (off := 37) C d_P_beginStatement_7 (by decide) (by decide) (by decide) (by decide) ?_
    refine z_aload_n C d_P_beginStatement_44 0 rfl ?_
    refine z_iconst C d_P_beginStatement_45 ?_
    refine z_calli (As := [.int (iI 0)]) (rest := []) (wr := [(aL, .inr (2, [.ref aT, .int (iI ls), .int (iI la), .int (iI 7)]))]) (ws' := fun u => [(aV, .inr (4, [.ref aL, .ref aN, .ref aU, .int (iI 1), .int (iI 0), .int (iI vne), .int (iI vsl), .int (iI vst), .int (iI vpa), .int (iI vac)])), (aL, .inr (2, [.ref aT, .int (iI ls), .int (iI la), .int (iI 7)]))]) (q0 := 0) C k_P_83 kc_P_beginNames (fun l sz => m_P_beginNames l G sz aV aL aN aU vph vso vne vsl vst vpa vac 0 ) rfl rfl (Nat.le_of_ble_eq_true rfl) (by decide) d_P_beginStatement_46 rfl rfl [0] [1] [1, 0] rfl rfl (by decide) (fun u => rfl) (fun r u h46 => ?_)
    obtain rfl := h46
    show Zc G X 1 0 0 [(aV, .inr (4, [.ref aL, .ref aN, .ref aU, .int (iI 1), .int (iI 0), .int (iI vne), .int (iI vsl), .int (iI vst), .int (iI vpa), .int (iI vac)])), (aL, .inr (2, [.ref aT, .int (iI ls), .int (iI la), .int (iI 7)]))] [(0, .ref aV)] 49 [.int (iI 0)]
    exact z_iret C K d_P_beginStatement_49 (rfl) () (rfl) (rfl)
  ·
    skip
    refine z_aload_n C d_P_beginStatement_0 0 rfl ?_
    refine z_get C f_P_9 d_P_beginStatement_1 0 rfl rfl ?_
    refine z_get C f_P_38 d_P_beginStatement_4 1 rfl rfl ?_
    refine z_tableIn (tgt := 50) (off := 43) C d_P_beginStatement_7 (by decide) (by decide) (by decide) (by decide) ?_
    refine z_aload_n C d_P_beginStatement_50 0 rfl ?_
    refine z_iconst C d_P_beginStatement_51 ?_
    refine z_calli (As := [.int (iI 1)]) (rest := []) (wr := [(aL, .inr (2, [.ref aT, .int (iI ls), .int (iI la), .int (iI 8)]))]) (ws' := fun u => [(aV, .inr (4, [.ref aL, .ref aN, .ref aU, .int (iI 1), .int (iI 1), .int (iI vne), .int (iI vsl), .int (iI vst), .int (iI vpa), .int (iI vac)])), (aL, .inr (2, [.ref aT, .int (iI ls), .int (iI la), .int (iI 8)]))]) (q0 := 0) C k_P_83 kc_P_beginNames (fun l sz => m_P_beginNames l G sz aV aL aN aU vph vso vne vsl vst vpa vac 1 ) rfl rfl (Nat.le_of_ble_eq_true rfl) (by decide) d_P_beginStatement_52 rfl rfl [0] [1] [1, 0] rfl rfl (by decide) (fun u => rfl) (fun r u h52 => ?_)
    obtain rfl := h52
    show Zc G X 1 0 0 [(aV, .inr (4, [.ref aL, .ref aN, .ref aU, .int (iI 1), .int (iI 1), .int (iI vne), .int (iI vsl), .int (iI vst), .int (iI vpa), .int (iI vac)])), (aL, .inr (2, [.ref aT, .int (iI ls), .int (iI la), .int (iI 8)]))] [(0, .ref aV)] 55 [.int (iI 0)]
    exact z_iret C K d_P_beginStatement_55 (rfl) () (rfl) (rfl)
  ·
    skip
    refine z_aload_n C d_P_beginStatement_0 0 rfl ?_
    refine z_get C f_P_9 d_P_beginStatement_1 0 rfl rfl ?_
    refine z_get C f_P_38 d_P_beginStatement_4 1 rfl rfl ?_
    refine z_tableIn (tgt := 56) (off := 49) C d_P_beginStatement_7 (by decide) (by decide) (by decide) (by decide) ?_
    refine z_aload_n C d_P_beginStatement_56 0 rfl ?_
    refine z_iconst C d_P_beginStatement_57 ?_
    refine z_calli (As := [.int (iI 2)]) (rest := []) (wr := [(aL, .inr (2, [.ref aT, .int (iI ls), .int (iI la), .int (iI 9)]))]) (ws' := fun u => [(aV, .inr (4, [.ref aL, .ref aN, .ref aU, .int (iI 1), .int (iI 2), .int (iI vne), .int (iI vsl), .int (iI vst), .int (iI vpa), .int (iI vac)])), (aL, .inr (2, [.ref aT, .int (iI ls), .int (iI la), .int (iI 9)]))]) (q0 := 0) C k_P_83 kc_P_beginNames (fun l sz => m_P_beginNames l G sz aV aL aN aU vph vso vne vsl vst vpa vac 2 ) rfl rfl (Nat.le_of_ble_eq_true rfl) (by decide) d_P_beginStatement_58 rfl rfl [0] [1] [1, 0] rfl rfl (by decide) (fun u => rfl) (fun r u h58 => ?_)
    obtain rfl := h58
    show Zc G X 1 0 0 [(aV, .inr (4, [.ref aL, .ref aN, .ref aU, .int (iI 1), .int (iI 2), .int (iI vne), .int (iI vsl), .int (iI vst), .int (iI vpa), .int (iI vac)])), (aL, .inr (2, [.ref aT, .int (iI ls), .int (iI la), .int (iI 9)]))] [(0, .ref aV)] 61 [.int (iI 0)]
    exact z_iret C K d_P_beginStatement_61 (rfl) () (rfl) (rfl)
  ·
    skip
    refine z_aload_n C d_P_beginStatement_0 0 rfl ?_
    refine z_get C f_P_9 d_P_beginStatement_1 0 rfl rfl ?_
    refine z_get C f_P_38 d_P_beginStatement_4 1 rfl rfl ?_
    refine z_tableIn (tgt := 62) (off := 55) C d_P_beginStatement_7 (by decide) (by decide) (by decide) (by decide) ?_
    refine z_aload_n C d_P_beginStatement_62 0 rfl ?_
    refine z_iconst C d_P_beginStatement_63 ?_
    refine z_calli (As := [.int (iI 0)]) (rest := []) (wr := [(aL, .inr (2, [.ref aT, .int (iI ls), .int (iI la), .int (iI 10)]))]) (ws' := fun u => [(aV, .inr (4, [.ref aL, .ref aN, .ref aU, .int (iI 3), .int (iI vso), .int (iI 0), .int (iI vsl), .int (iI vst), .int (iI vpa), .int (iI 0)])), (aL, .inr (2, [.ref aT, .int (iI ls), .int (iI la), .int (iI 10)]))]) (q0 := 0) C k_P_86 kc_P_beginPair (fun l sz => m_P_beginPair l G sz aV aL aN aU vph vso vne vsl vst vpa vac 0 (by omega)) rfl rfl (Nat.le_of_ble_eq_true rfl) (by decide) d_P_beginStatement_64 rfl rfl [0] [1] [1, 0] rfl rfl (by decide) (fun u => rfl) (fun r u h64 => ?_)
    obtain rfl := h64
    show Zc G X 1 0 0 [(aV, .inr (4, [.ref aL, .ref aN, .ref aU, .int (iI 3), .int (iI vso), .int (iI 0), .int (iI vsl), .int (iI vst), .int (iI vpa), .int (iI 0)])), (aL, .inr (2, [.ref aT, .int (iI ls), .int (iI la), .int (iI 10)]))] [(0, .ref aV)] 67 [.int (iI 0)]
    exact z_iret C K d_P_beginStatement_67 (rfl) () (rfl) (rfl)
  ·
    skip
    refine z_aload_n C d_P_beginStatement_0 0 rfl ?_
    refine z_get C f_P_9 d_P_beginStatement_1 0 rfl rfl ?_
    refine z_get C f_P_38 d_P_beginStatement_4 1 rfl rfl ?_
    refine z_tableIn (tgt := 68) (off := 61) C d_P_beginStatement_7 (by decide) (by decide) (by decide) (by decide) ?_
    refine z_aload_n C d_P_beginStatement_68 0 rfl ?_
    refine z_iconst C d_P_beginStatement_69 ?_
    refine z_calli (As := [.int (iI 1)]) (rest := []) (wr := [(aL, .inr (2, [.ref aT, .int (iI ls), .int (iI la), .int (iI 11)]))]) (ws' := fun u => [(aV, .inr (4, [.ref aL, .ref aN, .ref aU, .int (iI 3), .int (iI vso), .int (iI 1), .int (iI vsl), .int (iI vst), .int (iI vpa), .int (iI 0)])), (aL, .inr (2, [.ref aT, .int (iI ls), .int (iI la), .int (iI 11)]))]) (q0 := 0) C k_P_86 kc_P_beginPair (fun l sz => m_P_beginPair l G sz aV aL aN aU vph vso vne vsl vst vpa vac 1 (by omega)) rfl rfl (Nat.le_of_ble_eq_true rfl) (by decide) d_P_beginStatement_70 rfl rfl [0] [1] [1, 0] rfl rfl (by decide) (fun u => rfl) (fun r u h70 => ?_)
    obtain rfl := h70
    show Zc G X 1 0 0 [(aV, .inr (4, [.ref aL, .ref aN, .ref aU, .int (iI 3), .int (iI vso), .int (iI 1), .int (iI vsl), .int (iI vst), .int (iI vpa), .int (iI 0)])), (aL, .inr (2, [.ref aT, .int (iI ls), .int (iI la), .int (iI 11)]))] [(0, .ref aV)] 73 [.int (iI 0)]
    exact z_iret C K d_P_beginStatement_73 (rfl) () (rfl) (rfl)
  ·
    skip
    refine z_aload_n C d_P_beginStatement_0 0 rfl ?_
    refine z_get C f_P_9 d_P_beginStatement_1 0 rfl rfl ?_
    refine z_get C f_P_38 d_P_beginStatement_4 1 rfl rfl ?_
    refine z_tableIn (tgt := 74) (off := 67) C d_P_beginStatement_7 (by decide) (by decide) (by decide) (by decide) ?_
    refine z_aload_n C d_P_beginStatement_74 0 rfl ?_
    refine z_bipush C d_P_beginStatement_75 (by decide) ?_
    refine z_calli (As := [.int (iI 11)]) (rest := []) (wr := [(aL, .inr (2, [.ref aT, .int (iI ls), .int (iI la), .int (iI 12)]))]) (ws' := fun u => [(aV, .inr (4, [.ref aL, .ref aN, .ref aU, .int (iI 11), .int (iI vso), .int (iI vne), .int (iI vsl), .int (iI vst), .int (iI vpa), .int (iI vac)])), (aL, .inr (2, [.ref aT, .int (iI ls), .int (iI la), .int (iI 12)]))]) (q0 := 0) C k_P_65 kc_P_goOn (fun l sz => m_P_goOn l G sz aV aL aN aU vph vso vne vsl vst vpa vac 11 ) rfl rfl (Nat.le_of_ble_eq_true rfl) (by decide) d_P_beginStatement_77 rfl rfl [0] [1] [1, 0] rfl rfl (by decide) (fun u => rfl) (fun r u h77 => ?_)
    obtain rfl := h77
    show Zc G X 1 0 0 [(aV, .inr (4, [.ref aL, .ref aN, .ref aU, .int (iI 11), .int (iI vso), .int (iI vne), .int (iI vsl), .int (iI vst), .int (iI vpa), .int (iI vac)])), (aL, .inr (2, [.ref aT, .int (iI ls), .int (iI la), .int (iI 12)]))] [(0, .ref aV)] 80 [.int (iI 0)]
    exact z_iret C K d_P_beginStatement_80 (rfl) () (rfl) (rfl)
  ·
    skip
    refine z_aload_n C d_P_beginStatement_0 0 rfl ?_
    refine z_get C f_P_9 d_P_beginStatement_1 0 rfl rfl ?_
    refine z_get C f_P_38 d_P_beginStatement_4 1 rfl rfl ?_
    refine z_tableOut (tgt := 81) C d_P_beginStatement_7 (by rw [iI_toInt (by omega)]; omega) (by decide) ?_
    refine z_aload_n C d_P_beginStatement_81 0 rfl ?_
    refine z_iconst C d_P_beginStatement_82 ?_
    refine z_iconst C d_P_beginStatement_83 ?_
    refine z_calli (As := [.int (iI 0), .int (iI 0)]) (rest := []) (wr := []) (ws' := fun u => [(aV, .inr (4, [.ref aL, .ref aN, .ref aU, .int (iI (if lk = 0 then 0 else vph)), .int (iI vso), .int (iI vne), .int (iI vsl), .int (iI vst), .int (iI vpa), .int (iI vac)])), (aL, .inr (2, [.ref aT, .int (iI ls), .int (iI la), .int (iI lk)]))]) (q0 := 0) C k_P_61 kc_P_want (fun l sz => m_P_want l G sz aV aL aN aU vph vso vne vsl vst vpa vac aT ls la lk 0 0 (by omega) (by omega)) rfl rfl (Nat.le_of_ble_eq_true rfl) (by decide) d_P_beginStatement_84 rfl rfl [0, 1] [] [0, 1] rfl rfl (by decide) (fun u => rfl) (fun r u h84 => ?_)
    obtain rfl := h84
    show Zc G X 1 0 0 [(aV, .inr (4, [.ref aL, .ref aN, .ref aU, .int (iI (if lk = 0 then 0 else vph)), .int (iI vso), .int (iI vne), .int (iI vsl), .int (iI vst), .int (iI vpa), .int (iI vac)])), (aL, .inr (2, [.ref aT, .int (iI ls), .int (iI la), .int (iI lk)]))] [(0, .ref aV)] 87 [.int (iI (if lk = 0 then 0 else 2))]
    exact z_iret C K d_P_beginStatement_87 (rfl) () (by rw [if_neg (show ¬ (7 ≤ lk ∧ lk ≤ 9) by omega), if_neg (show ¬ (7 ≤ lk ∧ lk ≤ 9) by omega), if_neg (show ¬ (lk = 10 ∨ lk = 11) by omega), if_neg (show ¬ (lk = 10 ∨ lk = 11) by omega), if_neg (show ¬ (lk = 10 ∨ lk = 11) by omega), if_neg (show ¬ lk = 12 by omega)]) (congrArg iI (by (repeat' split) <;> first | rfl | omega))
set_option maxHeartbeats 4000000 in
set_option maxRecDepth 100000 in
theorem m_P_findName (l : Launch) (G : GG) (sz : Nat) (aV : Nat) (aL : Nat) (aN : Nat) (aU : Nat) (vph : Int) (vso : Int) (vne : Int) (vsl : Int) (vst : Int) (vpa : Int) (vac : Int) (aT : Nat) (ls : Int) (la : Int) (lk : Int) (aTb : Nat) (tl : Int) (tF : Nat → Int) (aNl : Nat) (aNn : Nat) (aNt : Nat) (nl : Nat → Int) (nn : Nat → Int) (nt : Nat → Int) (N : NL) (a : Int) (b : Int) (hk : 0 ≤ lk ∧ lk ≤ 15) (hx : 0 ≤ ls ∧ ls ≤ la ∧ la ≤ 4096 ∧ (lk = 6 → ls < la ∧ la - ls ≤ 12)) (hb : byt nl ∧ byt tF) (hn : ∀ j, 0 ≤ nn j ∧ nn j ≤ 12) (hN : NamR nl nn nt N) (hsl : -1 ≤ vsl ∧ vsl < 40) (hab : 0 ≤ a ∧ a ≤ 2 ∧ 0 ≤ b ∧ b ≤ 2) : MetI l G sz y_P_findName c_P_findName 4 (some .int) ({ frames := 2, cells := 0, slots := 0, locals := 45 } : Room) [.ref aV, .int (iI a), .int (iI b)] [(aV, .inr (4, [.ref aL, .ref aN, .ref aU, .int (iI vph), .int (iI vso), .int (iI vne), .int (iI vsl), .int (iI vst), .int (iI vpa), .int (iI vac)])), (aL, .inr (2, [.ref aT, .int (iI ls), .int (iI la), .int (iI lk)])), (aT, .inr (0, [.ref aTb, .int (iI tl)])), bA G aTb 4096 tF, (aN, .inr (3, [.ref aNl, .ref aNn, .ref aNt])), bA G aNl 480 nl, iA G aNn 40 nn] (fun (r : Int32) (u : Int × Int) => r = iI u.1 ∧ (u.1 = ffl N lk (seg tF ls.toNat (la - ls).toNat) a b) ∧ (u.1 = 0 → u.2 = slt N (fdI (seg tF ls.toNat (la - ls).toNat) N).toNat) ∧ (-1 ≤ u.2 ∧ u.2 < 40)) (fun (u : Int × Int) => [(aV, .inr (4, [.ref aL, .ref aN, .ref aU, .int (iI vph), .int (iI vso), .int (iI vne), .int (iI u.2), .int (iI vst), .int (iI vpa), .int (iI vac)])), (aL, .inr (2, [.ref aT, .int (iI ls), .int (iI la), .int (iI lk)])), (aT, .inr (0, [.ref aTb, .int (iI tl)])), bA G aTb 4096 tF, (aN, .inr (3, [.ref aNl, .ref aNn, .ref aNt])), bA G aNl 480 nl, iA G aNn 40 nn]) := by
  refine MetI.mk (by decide) (Nat.le_of_ble_eq_true rfl) (fun X C K => ?_)
  show Zc G X 4 0 0 [(aV, .inr (4, [.ref aL, .ref aN, .ref aU, .int (iI vph), .int (iI vso), .int (iI vne), .int (iI vsl), .int (iI vst), .int (iI vpa), .int (iI vac)])), (aL, .inr (2, [.ref aT, .int (iI ls), .int (iI la), .int (iI lk)])), (aT, .inr (0, [.ref aTb, .int (iI tl)])), bA G aTb 4096 tF, (aN, .inr (3, [.ref aNl, .ref aNn, .ref aNt])), bA G aNl 480 nl, iA G aNn 40 nn] [(0, .ref aV), (1, .int (iI a)), (2, .int (iI b))] 0 []
  refine z_aload_n C d_P_findName_0 0 rfl ?_
  refine z_get C f_P_9 d_P_findName_1 0 rfl rfl ?_
  refine z_get C f_P_38 d_P_findName_4 1 rfl rfl ?_
  refine z_bipush C d_P_findName_7 (by decide) ?_
  refine z_icmp_eq (tgt := 14) C d_P_findName_9 (by decide) (by omega) (by omega) (fun c9 => ?_) (fun c9 => ?_)
  ·
    refine z_aload_n C d_P_findName_14 0 rfl ?_
    refine z_aload_n C d_P_findName_15 0 rfl ?_
    refine z_get C f_P_15 d_P_findName_16 0 rfl rfl ?_
    refine z_aload_n C d_P_findName_19 0 rfl ?_
    refine z_get C f_P_9 d_P_findName_20 0 rfl rfl ?_
    refine z_calli (As := [.ref aL]) (rest := [.ref aV]) (wr := [(aV, .inr (4, [.ref aL, .ref aN, .ref aU, .int (iI vph), .int (iI vso), .int (iI vne), .int (iI vsl), .int (iI vst), .int (iI vpa), .int (iI vac)]))]) (ws' := fun u => [(aV, .inr (4, [.ref aL, .ref aN, .ref aU, .int (iI vph), .int (iI vso), .int (iI vne), .int (iI vsl), .int (iI vst), .int (iI vpa), .int (iI vac)])), (aL, .inr (2, [.ref aT, .int (iI ls), .int (iI la), .int (iI lk)])), (aT, .inr (0, [.ref aTb, .int (iI tl)])), bA G aTb 4096 tF, (aN, .inr (3, [.ref aNl, .ref aNn, .ref aNt])), bA G aNl 480 nl, iA G aNn 40 nn]) (q0 := 4) C k_P_104 kc_N_slotOf (fun l sz => m_N_slotOf l G sz aN aNl aNn aNt nl nn aL aT ls la lk aTb tl tF (by omega) (hn) (hb)) rfl rfl (Nat.le_of_ble_eq_true rfl) (by decide) d_P_findName_23 rfl rfl [4, 5, 6, 1, 2, 3] [0] [0, 4, 5, 6, 1, 2, 3] rfl rfl (by decide) (fun u => rfl) (fun r u h23 => ?_)
    obtain ⟨rr_23, rfl⟩ : ∃ z, z = u := ⟨_, rfl⟩
    obtain ⟨rfl, he_23⟩ := h23
    have he_23 : (0 ≤ rr_23 ∧ rr_23 < 40 ∧ isN nl nn tF ls la rr_23 ∧ ∀ s, 0 ≤ s → s < rr_23 → ¬ isN nl nn tF ls la s) ∨ (rr_23 = -1 ∧ ∀ s, 0 ≤ s → s < 40 → ¬ isN nl nn tF ls la s) := he_23
    show Zc G X 4 0 0 [(aV, .inr (4, [.ref aL, .ref aN, .ref aU, .int (iI vph), .int (iI vso), .int (iI vne), .int (iI vsl), .int (iI vst), .int (iI vpa), .int (iI vac)])), (aL, .inr (2, [.ref aT, .int (iI ls), .int (iI la), .int (iI lk)])), (aT, .inr (0, [.ref aTb, .int (iI tl)])), bA G aTb 4096 tF, (aN, .inr (3, [.ref aNl, .ref aNn, .ref aNt])), bA G aNl 480 nl, iA G aNn 40 nn] [(0, .ref aV), (1, .int (iI a)), (2, .int (iI b))] 26 [.int (iI rr_23), .ref aV]
    refine z_put C f_P_112 ok_P nm_P d_P_findName_26 0 rfl rfl rfl rfl (Nat.le_of_ble_eq_true rfl) [(aV, .inr (4, [.ref aL, .ref aN, .ref aU, .int (iI vph), .int (iI vso), .int (iI vne), .int (iI rr_23), .int (iI vst), .int (iI vpa), .int (iI vac)])), (aL, .inr (2, [.ref aT, .int (iI ls), .int (iI la), .int (iI lk)])), (aT, .inr (0, [.ref aTb, .int (iI tl)])), bA G aTb 4096 tF, (aN, .inr (3, [.ref aNl, .ref aNn, .ref aNt])), bA G aNl 480 nl, iA G aNn 40 nn] rfl ?_
    refine z_aload_n C d_P_findName_29 0 rfl ?_
    refine z_get C f_P_112 d_P_findName_30 0 rfl rfl ?_
    refine z_iconst C d_P_findName_33 ?_
    have hf := NamR_find hN (by omega) he_23
    have hfr := fdI_rg (seg tF ls.toNat (la - ls).toNat) N
    refine z_icmp_ne (tgt := 39) C d_P_findName_34 (by decide) (by omega) (by omega) (fun c34 => ?_) (fun c34 => ?_)
    ·
      have hfi : ¬ fdI (seg tF ls.toNat (la - ls).toNat) N = -1 := fun z => c34 (by rw [hf, if_pos z])
      rw [if_neg hfi] at hf
      have hss := NamR_slt hN (i := (fdI (seg tF ls.toNat (la - ls).toNat) N).toNat) (by omega)
      have hso : srt rr_23 = sor N (fdI (seg tF ls.toNat (la - ls).toNat) N).toNat := by rw [hf]; exact hss.2.2.2.2
      have hsr := (hN.1 (fdI (seg tF ls.toNat (la - ls).toNat) N).toNat (by omega)).1
      refine z_aload_n C d_P_findName_39 0 rfl ?_
      refine z_get C f_P_112 d_P_findName_40 0 rfl rfl ?_
      refine z_calliS (As := [.int (iI rr_23)]) (rest := []) (wr := [(aV, .inr (4, [.ref aL, .ref aN, .ref aU, .int (iI vph), .int (iI vso), .int (iI vne), .int (iI rr_23), .int (iI vst), .int (iI vpa), .int (iI vac)])), (aL, .inr (2, [.ref aT, .int (iI ls), .int (iI la), .int (iI lk)])), (aT, .inr (0, [.ref aTb, .int (iI tl)])), bA G aTb 4096 tF, (aN, .inr (3, [.ref aNl, .ref aNn, .ref aNt])), bA G aNl 480 nl, iA G aNn 40 nn]) (ws' := fun u => [(aV, .inr (4, [.ref aL, .ref aN, .ref aU, .int (iI vph), .int (iI vso), .int (iI vne), .int (iI rr_23), .int (iI vst), .int (iI vpa), .int (iI vac)])), (aL, .inr (2, [.ref aT, .int (iI ls), .int (iI la), .int (iI lk)])), (aT, .inr (0, [.ref aTb, .int (iI tl)])), bA G aTb 4096 tF, (aN, .inr (3, [.ref aNl, .ref aNn, .ref aNt])), bA G aNl 480 nl, iA G aNn 40 nn]) C k_P_115 kc_N_sortOf (fun l sz => m_N_sortOf l G sz rr_23 (by omega)) rfl rfl (Nat.le_of_ble_eq_true rfl) (by decide) d_P_findName_43 [] [0, 1, 2, 3, 4, 5, 6] [0, 1, 2, 3, 4, 5, 6] rfl rfl (by decide) (fun u => rfl) (fun r u h43 => ?_)
      obtain rfl := h43
      show Zc G X 4 0 0 [(aV, .inr (4, [.ref aL, .ref aN, .ref aU, .int (iI vph), .int (iI vso), .int (iI vne), .int (iI rr_23), .int (iI vst), .int (iI vpa), .int (iI vac)])), (aL, .inr (2, [.ref aT, .int (iI ls), .int (iI la), .int (iI lk)])), (aT, .inr (0, [.ref aTb, .int (iI tl)])), bA G aTb 4096 tF, (aN, .inr (3, [.ref aNl, .ref aNn, .ref aNt])), bA G aNl 480 nl, iA G aNn 40 nn] [(0, .ref aV), (1, .int (iI a)), (2, .int (iI b))] 46 [.int (iI (srt rr_23))]
      refine z_istore_n (lv' := [(3, .int (iI (srt rr_23))), (0, .ref aV), (1, .int (iI a)), (2, .int (iI b))]) C d_P_findName_46 (by decide) rfl ?_
      refine z_iload_n C d_P_findName_47 0 rfl ?_
      refine z_iload_n C d_P_findName_48 2 rfl ?_
      refine z_icmp_eq (tgt := 57) C d_P_findName_49 (by decide) (by omega) (by omega) (fun c49 => ?_) (fun c49 => ?_)
      ·
        refine z_iconst C d_P_findName_57 ?_
        refine z_goto (tgt := 63) C d_P_findName_58 (by decide) ?_
        exact z_iret C K d_P_findName_63 (rfl) (0, rr_23) (rfl) (show iI 0 = iI 0 ∧ (0 = ffl N lk (seg tF ls.toNat (la - ls).toNat) a b) ∧ (0 = 0 → rr_23 = slt N (fdI (seg tF ls.toNat (la - ls).toNat) N).toNat) ∧ (-1 ≤ rr_23 ∧ rr_23 < 40) from ⟨rfl, by unfold ffl; rw [if_neg (by omega), if_neg hfi, if_neg (by omega)], fun _ => hf, by omega⟩)
      ·
        refine z_iload_n C d_P_findName_52 0 rfl ?_
        refine z_iload_n C d_P_findName_53 3 rfl ?_
        refine z_icmp_ne (tgt := 61) C d_P_findName_54 (by decide) (by omega) (by omega) (fun c54 => ?_) (fun c54 => ?_)
        ·
          refine z_bipush C d_P_findName_61 (by decide) ?_
          exact z_iret C K d_P_findName_63 (rfl) (6, rr_23) (rfl) (show iI 6 = iI 6 ∧ (6 = ffl N lk (seg tF ls.toNat (la - ls).toNat) a b) ∧ (6 = 0 → rr_23 = slt N (fdI (seg tF ls.toNat (la - ls).toNat) N).toNat) ∧ (-1 ≤ rr_23 ∧ rr_23 < 40) from ⟨rfl, by unfold ffl; rw [if_neg (by omega), if_neg hfi, if_pos (by omega)], fun z => absurd z (by decide), by omega⟩)
        ·
          refine z_iconst C d_P_findName_57 ?_
          refine z_goto (tgt := 63) C d_P_findName_58 (by decide) ?_
          exact z_iret C K d_P_findName_63 (rfl) (0, rr_23) (rfl) (show iI 0 = iI 0 ∧ (0 = ffl N lk (seg tF ls.toNat (la - ls).toNat) a b) ∧ (0 = 0 → rr_23 = slt N (fdI (seg tF ls.toNat (la - ls).toNat) N).toNat) ∧ (-1 ≤ rr_23 ∧ rr_23 < 40) from ⟨rfl, by unfold ffl; rw [if_neg (by omega), if_neg hfi, if_neg (by omega)], fun _ => hf, by omega⟩)
    ·
      have hfi : fdI (seg tF ls.toNat (la - ls).toNat) N = -1 := Decidable.byContradiction (fun z => by rw [if_neg z] at hf; have := NamR_slt hN (i := (fdI (seg tF ls.toNat (la - ls).toNat) N).toNat) (by omega); omega)
      refine z_iconst C d_P_findName_37 ?_
      exact z_iret C K d_P_findName_38 (rfl) (5, rr_23) (rfl) (show iI 5 = iI 5 ∧ (5 = ffl N lk (seg tF ls.toNat (la - ls).toNat) a b) ∧ (5 = 0 → rr_23 = slt N (fdI (seg tF ls.toNat (la - ls).toNat) N).toNat) ∧ (-1 ≤ rr_23 ∧ rr_23 < 40) from ⟨rfl, by unfold ffl; rw [if_neg (by omega), if_pos hfi], fun z => absurd z (by decide), by omega⟩)
  ·
    refine z_iconst C d_P_findName_12 ?_
    exact z_iret C K d_P_findName_13 (rfl) (2, vsl) (rfl) (show iI 2 = iI 2 ∧ (2 = ffl N lk (seg tF ls.toNat (la - ls).toNat) a b) ∧ (2 = 0 → vsl = slt N (fdI (seg tF ls.toNat (la - ls).toNat) N).toNat) ∧ (-1 ≤ vsl ∧ vsl < 40) from ⟨rfl, by unfold ffl; rw [if_pos (by omega)], fun z => absurd z (by decide), hsl⟩)
set_option maxHeartbeats 4000000 in
set_option maxRecDepth 100000 in
theorem m_P_takePairState (l : Launch) (G : GG) (sz : Nat) (aV : Nat) (aL : Nat) (aN : Nat) (aU : Nat) (vph : Int) (vso : Int) (vne : Int) (vsl : Int) (vst : Int) (vpa : Int) (vac : Int) (aT : Nat) (ls : Int) (la : Int) (lk : Int) (aTb : Nat) (tl : Int) (tF : Nat → Int) (aNl : Nat) (aNn : Nat) (aNt : Nat) (nl : Nat → Int) (nn : Nat → Int) (nt : Nat → Int) (N : NL) (hk : 0 ≤ lk ∧ lk ≤ 15) (hx : 0 ≤ ls ∧ ls ≤ la ∧ la ≤ 4096 ∧ (lk = 6 → ls < la ∧ la - ls ≤ 12)) (hb : byt nl ∧ byt tF) (hn : ∀ j, 0 ≤ nn j ∧ nn j ≤ 12) (hN : NamR nl nn nt N) (hsl : -1 ≤ vsl ∧ vsl < 40) : MetI l G sz y_P_takePairState c_P_takePairState 2 (some .int) ({ frames := 3, cells := 0, slots := 0, locals := 68 } : Room) [.ref aV] [(aV, .inr (4, [.ref aL, .ref aN, .ref aU, .int (iI vph), .int (iI vso), .int (iI vne), .int (iI vsl), .int (iI vst), .int (iI vpa), .int (iI vac)])), (aL, .inr (2, [.ref aT, .int (iI ls), .int (iI la), .int (iI lk)])), (aT, .inr (0, [.ref aTb, .int (iI tl)])), bA G aTb 4096 tF, (aN, .inr (3, [.ref aNl, .ref aNn, .ref aNt])), bA G aNl 480 nl, iA G aNn 40 nn] (fun (r : Int32) (u : Int × Int × Int × Int) => r = iI u.1 ∧ (u.1 = ffl N lk (seg tF ls.toNat (la - ls).toNat) 0 0) ∧ (u.1 = 0 → u.2.2.1 = nub N (fdI (seg tF ls.toNat (la - ls).toNat) N).toNat ∧ u.2.2.2 = 4 ∧ 0 ≤ u.2.2.1 ∧ u.2.2.1 < 16) ∧ (¬ u.1 = 0 → u.2.2.1 = vst ∧ u.2.2.2 = vph) ∧ (-1 ≤ u.2.1 ∧ u.2.1 < 40)) (fun (u : Int × Int × Int × Int) => [(aV, .inr (4, [.ref aL, .ref aN, .ref aU, .int (iI u.2.2.2), .int (iI vso), .int (iI vne), .int (iI u.2.1), .int (iI u.2.2.1), .int (iI vpa), .int (iI vac)])), (aL, .inr (2, [.ref aT, .int (iI ls), .int (iI la), .int (iI lk)])), (aT, .inr (0, [.ref aTb, .int (iI tl)])), bA G aTb 4096 tF, (aN, .inr (3, [.ref aNl, .ref aNn, .ref aNt])), bA G aNl 480 nl, iA G aNn 40 nn]) := by
  refine MetI.mk (by decide) (Nat.le_of_ble_eq_true rfl) (fun X C K => ?_)
  show Zc G X 2 0 0 [(aV, .inr (4, [.ref aL, .ref aN, .ref aU, .int (iI vph), .int (iI vso), .int (iI vne), .int (iI vsl), .int (iI vst), .int (iI vpa), .int (iI vac)])), (aL, .inr (2, [.ref aT, .int (iI ls), .int (iI la), .int (iI lk)])), (aT, .inr (0, [.ref aTb, .int (iI tl)])), bA G aTb 4096 tF, (aN, .inr (3, [.ref aNl, .ref aNn, .ref aNt])), bA G aNl 480 nl, iA G aNn 40 nn] [(0, .ref aV)] 0 []
  refine z_aload_n C d_P_takePairState_0 0 rfl ?_
  refine z_iconst C d_P_takePairState_1 ?_
  refine z_iconst C d_P_takePairState_2 ?_
  refine z_calli (As := [.int (iI 0), .int (iI 0)]) (rest := []) (wr := []) (ws' := fun u => [(aV, .inr (4, [.ref aL, .ref aN, .ref aU, .int (iI vph), .int (iI vso), .int (iI vne), .int (iI u.2), .int (iI vst), .int (iI vpa), .int (iI vac)])), (aL, .inr (2, [.ref aT, .int (iI ls), .int (iI la), .int (iI lk)])), (aT, .inr (0, [.ref aTb, .int (iI tl)])), bA G aTb 4096 tF, (aN, .inr (3, [.ref aNl, .ref aNn, .ref aNt])), bA G aNl 480 nl, iA G aNn 40 nn]) (q0 := 0) C k_P_118 kc_P_findName (fun l sz => m_P_findName l G sz aV aL aN aU vph vso vne vsl vst vpa vac aT ls la lk aTb tl tF aNl aNn aNt nl nn nt N 0 0 (hk) (hx) (hb) (hn) (hN) (hsl) (by omega)) rfl rfl (Nat.le_of_ble_eq_true rfl) (by decide) d_P_takePairState_3 rfl rfl [0, 1, 2, 3, 4, 5, 6] [] [0, 1, 2, 3, 4, 5, 6] rfl rfl (by decide) (fun u => rfl) (fun r u h3 => ?_)
  obtain ⟨rr_3, sl2_3⟩ := u
  obtain ⟨rfl, hf_3, hs_3, hr_3⟩ := h3
  have hf_3 : rr_3 = ffl N lk (seg tF ls.toNat (la - ls).toNat) 0 0 := hf_3
  have hs_3 : rr_3 = 0 → sl2_3 = slt N (fdI (seg tF ls.toNat (la - ls).toNat) N).toNat := hs_3
  have hr_3 : -1 ≤ sl2_3 ∧ sl2_3 < 40 := hr_3
  show Zc G X 2 0 0 [(aV, .inr (4, [.ref aL, .ref aN, .ref aU, .int (iI vph), .int (iI vso), .int (iI vne), .int (iI sl2_3), .int (iI vst), .int (iI vpa), .int (iI vac)])), (aL, .inr (2, [.ref aT, .int (iI ls), .int (iI la), .int (iI lk)])), (aT, .inr (0, [.ref aTb, .int (iI tl)])), bA G aTb 4096 tF, (aN, .inr (3, [.ref aNl, .ref aNn, .ref aNt])), bA G aNl 480 nl, iA G aNn 40 nn] [(0, .ref aV)] 6 [.int (iI rr_3)]
  refine z_istore_n (lv' := [(1, .int (iI rr_3)), (0, .ref aV)]) C d_P_takePairState_6 (by decide) rfl ?_
  refine z_iload_n C d_P_takePairState_7 0 rfl ?_
  refine z_if_eq (tgt := 13) C d_P_takePairState_8 (by decide) (by rw [hf_3]; unfold ffl; (repeat' split) <;> omega) (fun c8 => ?_) (fun c8 => ?_)
  ·
    have hz := ffl_0 (hf_3.symm.trans c8)
    have hsv := hs_3 c8
    have hfr := fdI_rg (seg tF ls.toNat (la - ls).toNat) N
    have hss := NamR_slt hN (i := (fdI (seg tF ls.toNat (la - ls).toNat) N).toNat) (by omega)
    have hsd : slt N (fdI (seg tF ls.toNat (la - ls).toNat) N).toNat = bas (sor N (fdI (seg tF ls.toNat (la - ls).toNat) N).toNat) + nub N (fdI (seg tF ls.toNat (la - ls).toNat) N).toNat := rfl
    have hcc := hN.2.2.1
    unfold cnt at hcc
    have hct := hN.2.1
    rw [show sor N (fdI (seg tF ls.toNat (la - ls).toNat) N).toNat = 0 by omega] at hsd hss
    have hb0 : bas 0 = 0 := by decide
    refine z_aload_n C d_P_takePairState_13 1 rfl ?_
    refine z_aload_n C d_P_takePairState_14 1 rfl ?_
    refine z_get C f_P_112 d_P_takePairState_15 0 rfl rfl ?_
    refine z_put C f_P_121 ok_P nm_P d_P_takePairState_18 0 rfl rfl rfl rfl (Nat.le_of_ble_eq_true rfl) [(aV, .inr (4, [.ref aL, .ref aN, .ref aU, .int (iI vph), .int (iI vso), .int (iI vne), .int (iI sl2_3), .int (iI sl2_3), .int (iI vpa), .int (iI vac)])), (aL, .inr (2, [.ref aT, .int (iI ls), .int (iI la), .int (iI lk)])), (aT, .inr (0, [.ref aTb, .int (iI tl)])), bA G aTb 4096 tF, (aN, .inr (3, [.ref aNl, .ref aNn, .ref aNt])), bA G aNl 480 nl, iA G aNn 40 nn] rfl ?_
    refine z_aload_n C d_P_takePairState_21 1 rfl ?_
    refine z_iconst C d_P_takePairState_22 ?_
    refine z_calli (As := [.int (iI 4)]) (rest := []) (wr := [(aL, .inr (2, [.ref aT, .int (iI ls), .int (iI la), .int (iI lk)])), (aT, .inr (0, [.ref aTb, .int (iI tl)])), bA G aTb 4096 tF, (aN, .inr (3, [.ref aNl, .ref aNn, .ref aNt])), bA G aNl 480 nl, iA G aNn 40 nn]) (ws' := fun u => [(aV, .inr (4, [.ref aL, .ref aN, .ref aU, .int (iI 4), .int (iI vso), .int (iI vne), .int (iI sl2_3), .int (iI sl2_3), .int (iI vpa), .int (iI vac)])), (aL, .inr (2, [.ref aT, .int (iI ls), .int (iI la), .int (iI lk)])), (aT, .inr (0, [.ref aTb, .int (iI tl)])), bA G aTb 4096 tF, (aN, .inr (3, [.ref aNl, .ref aNn, .ref aNt])), bA G aNl 480 nl, iA G aNn 40 nn]) (q0 := 0) C k_P_65 kc_P_goOn (fun l sz => m_P_goOn l G sz aV aL aN aU vph vso vne sl2_3 sl2_3 vpa vac 4 ) rfl rfl (Nat.le_of_ble_eq_true rfl) (by decide) d_P_takePairState_23 rfl rfl [0] [1, 2, 3, 4, 5, 6] [6, 0, 1, 2, 3, 4, 5] rfl rfl (by decide) (fun u => rfl) (fun r u h23 => ?_)
    obtain rfl := h23
    show Zc G X 2 0 0 [(aV, .inr (4, [.ref aL, .ref aN, .ref aU, .int (iI 4), .int (iI vso), .int (iI vne), .int (iI sl2_3), .int (iI sl2_3), .int (iI vpa), .int (iI vac)])), (aL, .inr (2, [.ref aT, .int (iI ls), .int (iI la), .int (iI lk)])), (aT, .inr (0, [.ref aTb, .int (iI tl)])), bA G aTb 4096 tF, (aN, .inr (3, [.ref aNl, .ref aNn, .ref aNt])), bA G aNl 480 nl, iA G aNn 40 nn] [(1, .int (iI rr_3)), (0, .ref aV)] 26 [.int (iI 0)]
    exact z_iret C K d_P_takePairState_26 (rfl) (0, sl2_3, sl2_3, 4) (rfl) (show iI 0 = iI 0 ∧ (0 = ffl N lk (seg tF ls.toNat (la - ls).toNat) 0 0) ∧ (0 = 0 → sl2_3 = nub N (fdI (seg tF ls.toNat (la - ls).toNat) N).toNat ∧ 4 = 4 ∧ 0 ≤ sl2_3 ∧ sl2_3 < 16) ∧ (¬ 0 = 0 → sl2_3 = vst ∧ 4 = vph) ∧ (-1 ≤ sl2_3 ∧ sl2_3 < 40) from ⟨rfl, by rw [← hf_3]; exact c8.symm, fun _ => ⟨by omega, rfl, by omega, by omega⟩, fun z => absurd rfl z, hr_3⟩)
  ·
    refine z_iload_n C d_P_takePairState_11 0 rfl ?_
    exact z_iret C K d_P_takePairState_12 (rfl) (rr_3, sl2_3, vst, vph) (rfl) (show iI rr_3 = iI rr_3 ∧ (rr_3 = ffl N lk (seg tF ls.toNat (la - ls).toNat) 0 0) ∧ (rr_3 = 0 → vst = nub N (fdI (seg tF ls.toNat (la - ls).toNat) N).toNat ∧ vph = 4 ∧ 0 ≤ vst ∧ vst < 16) ∧ (¬ rr_3 = 0 → vst = vst ∧ vph = vph) ∧ (-1 ≤ sl2_3 ∧ sl2_3 < 40) from ⟨rfl, hf_3, fun z => absurd z c8, fun _ => ⟨rfl, rfl⟩, hr_3⟩)
set_option maxHeartbeats 4000000 in
set_option maxRecDepth 100000 in
theorem m_P_takePairEvent (l : Launch) (G : GG) (sz : Nat) (aV : Nat) (aL : Nat) (aN : Nat) (aU : Nat) (vph : Int) (vso : Int) (vne : Int) (vsl : Int) (vst : Int) (vpa : Int) (vac : Int) (aT : Nat) (ls : Int) (la : Int) (lk : Int) (aTb : Nat) (tl : Int) (tF : Nat → Int) (aNl : Nat) (aNn : Nat) (aNt : Nat) (nl : Nat → Int) (nn : Nat → Int) (aUg : Nat) (aUd : Nat) (aUa : Nat) (ur : Int) (uv : Int) (uf : Int) (nt : Nat → Int) (N : NL) (ug : Nat → Int) (hk : 0 ≤ lk ∧ lk ≤ 15) (hx : 0 ≤ ls ∧ ls ≤ la ∧ la ≤ 4096 ∧ (lk = 6 → ls < la ∧ la - ls ≤ 12)) (hb : byt nl ∧ byt tF) (hn : ∀ j, 0 ≤ nn j ∧ nn j ≤ 12) (hN : NamR nl nn nt N) (hsl : -1 ≤ vsl ∧ vsl < 40) (hg : gol ug) (hst : 0 ≤ vst ∧ vst < 16) (hne : vne = 0 ∨ vne = 1) (hpa : 0 ≤ vpa ∧ vpa < 384) : MetI l G sz y_P_takePairEvent c_P_takePairEvent 2 (some .int) ({ frames := 3, cells := 0, slots := 0, locals := 68 } : Room) [.ref aV] [(aV, .inr (4, [.ref aL, .ref aN, .ref aU, .int (iI vph), .int (iI vso), .int (iI vne), .int (iI vsl), .int (iI vst), .int (iI vpa), .int (iI vac)])), (aL, .inr (2, [.ref aT, .int (iI ls), .int (iI la), .int (iI lk)])), (aT, .inr (0, [.ref aTb, .int (iI tl)])), bA G aTb 4096 tF, (aN, .inr (3, [.ref aNl, .ref aNn, .ref aNt])), bA G aNl 480 nl, iA G aNn 40 nn, (aU, .inr (6, [.ref aUg, .ref aUd, .int (iI ur), .int (iI uv), .int (iI uf), .ref aN, .ref aUa])), iA G aUg 384 ug] (fun (r : Int32) (u : Int × Int × Int × Int × (Nat → Int) × Int) => r = iI u.1 ∧ (u.1 = if ¬ ffl N lk (seg tF ls.toNat (la - ls).toNat) 1 2 = 0 then ffl N lk (seg tF ls.toNat (la - ls).toNat) 1 2 else if ¬ ug (vst * 24 + slt N (fdI (seg tF ls.toNat (la - ls).toNat) N).toNat - 16).toNat = -1 then 7 else 0) ∧ (u.1 = 0 → u.2.2.1 = vst * 24 + slt N (fdI (seg tF ls.toNat (la - ls).toNat) N).toNat - 16 ∧ ((vne : Int) = 0 → u.2.2.2.1 = 5 ∧ u.2.2.2.2.1 = ug ∧ u.2.2.2.2.2 = uv) ∧ (¬ (vne : Int) = 0 → u.2.2.2.1 = 12 ∧ u.2.2.2.2.1 = uZ ug (vst * 24 + slt N (fdI (seg tF ls.toNat (la - ls).toNat) N).toNat - 16).toNat (-2) ∧ u.2.2.2.2.2 = uv + 1)) ∧ (¬ u.1 = 0 → u.2.2.2.1 = vph) ∧ (-1 ≤ u.2.1 ∧ u.2.1 < 40 ∧ 0 ≤ u.2.2.1 ∧ u.2.2.1 < 384 ∧ gol u.2.2.2.2.1)) (fun (u : Int × Int × Int × Int × (Nat → Int) × Int) => [(aV, .inr (4, [.ref aL, .ref aN, .ref aU, .int (iI u.2.2.2.1), .int (iI vso), .int (iI vne), .int (iI u.2.1), .int (iI vst), .int (iI u.2.2.1), .int (iI vac)])), (aL, .inr (2, [.ref aT, .int (iI ls), .int (iI la), .int (iI lk)])), (aT, .inr (0, [.ref aTb, .int (iI tl)])), bA G aTb 4096 tF, (aN, .inr (3, [.ref aNl, .ref aNn, .ref aNt])), bA G aNl 480 nl, iA G aNn 40 nn, (aU, .inr (6, [.ref aUg, .ref aUd, .int (iI ur), .int (iI u.2.2.2.2.2), .int (iI uf), .ref aN, .ref aUa])), iA G aUg 384 u.2.2.2.2.1]) := by
  refine MetI.mk (by decide) (Nat.le_of_ble_eq_true rfl) (fun X C K => ?_)
  show Zc G X 2 0 0 [(aV, .inr (4, [.ref aL, .ref aN, .ref aU, .int (iI vph), .int (iI vso), .int (iI vne), .int (iI vsl), .int (iI vst), .int (iI vpa), .int (iI vac)])), (aL, .inr (2, [.ref aT, .int (iI ls), .int (iI la), .int (iI lk)])), (aT, .inr (0, [.ref aTb, .int (iI tl)])), bA G aTb 4096 tF, (aN, .inr (3, [.ref aNl, .ref aNn, .ref aNt])), bA G aNl 480 nl, iA G aNn 40 nn, (aU, .inr (6, [.ref aUg, .ref aUd, .int (iI ur), .int (iI uv), .int (iI uf), .ref aN, .ref aUa])), iA G aUg 384 ug] [(0, .ref aV)] 0 []
  refine z_aload_n C d_P_takePairEvent_0 0 rfl ?_
  refine z_iconst C d_P_takePairEvent_1 ?_
  refine z_iconst C d_P_takePairEvent_2 ?_
  refine z_calli (As := [.int (iI 1), .int (iI 2)]) (rest := []) (wr := [(aU, .inr (6, [.ref aUg, .ref aUd, .int (iI ur), .int (iI uv), .int (iI uf), .ref aN, .ref aUa])), iA G aUg 384 ug]) (ws' := fun u => [(aV, .inr (4, [.ref aL, .ref aN, .ref aU, .int (iI vph), .int (iI vso), .int (iI vne), .int (iI u.2), .int (iI vst), .int (iI vpa), .int (iI vac)])), (aL, .inr (2, [.ref aT, .int (iI ls), .int (iI la), .int (iI lk)])), (aT, .inr (0, [.ref aTb, .int (iI tl)])), bA G aTb 4096 tF, (aN, .inr (3, [.ref aNl, .ref aNn, .ref aNt])), bA G aNl 480 nl, iA G aNn 40 nn, (aU, .inr (6, [.ref aUg, .ref aUd, .int (iI ur), .int (iI uv), .int (iI uf), .ref aN, .ref aUa])), iA G aUg 384 ug]) (q0 := 0) C k_P_118 kc_P_findName (fun l sz => m_P_findName l G sz aV aL aN aU vph vso vne vsl vst vpa vac aT ls la lk aTb tl tF aNl aNn aNt nl nn nt N 1 2 (hk) (hx) (hb) (hn) (hN) (hsl) (by omega)) rfl rfl (Nat.le_of_ble_eq_true rfl) (by decide) d_P_takePairEvent_3 rfl rfl [0, 1, 2, 3, 4, 5, 6] [7, 8] [2, 3, 4, 5, 6, 7, 8, 0, 1] rfl rfl (by decide) (fun u => rfl) (fun r u h3 => ?_)
  obtain ⟨rr_3, sl2_3⟩ := u
  obtain ⟨rfl, hf_3, hs_3, hr_3⟩ := h3
  have hf_3 : rr_3 = ffl N lk (seg tF ls.toNat (la - ls).toNat) 1 2 := hf_3
  have hs_3 : rr_3 = 0 → sl2_3 = slt N (fdI (seg tF ls.toNat (la - ls).toNat) N).toNat := hs_3
  have hr_3 : -1 ≤ sl2_3 ∧ sl2_3 < 40 := hr_3
  show Zc G X 2 0 0 [(aV, .inr (4, [.ref aL, .ref aN, .ref aU, .int (iI vph), .int (iI vso), .int (iI vne), .int (iI sl2_3), .int (iI vst), .int (iI vpa), .int (iI vac)])), (aL, .inr (2, [.ref aT, .int (iI ls), .int (iI la), .int (iI lk)])), (aT, .inr (0, [.ref aTb, .int (iI tl)])), bA G aTb 4096 tF, (aN, .inr (3, [.ref aNl, .ref aNn, .ref aNt])), bA G aNl 480 nl, iA G aNn 40 nn, (aU, .inr (6, [.ref aUg, .ref aUd, .int (iI ur), .int (iI uv), .int (iI uf), .ref aN, .ref aUa])), iA G aUg 384 ug] [(0, .ref aV)] 6 [.int (iI rr_3)]
  refine z_istore_n (lv' := [(1, .int (iI rr_3)), (0, .ref aV)]) C d_P_takePairEvent_6 (by decide) rfl ?_
  refine z_iload_n C d_P_takePairEvent_7 0 rfl ?_
  refine z_if_eq (tgt := 13) C d_P_takePairEvent_8 (by decide) (by rw [hf_3]; unfold ffl; (repeat' split) <;> omega) (fun c8 => ?_) (fun c8 => ?_)
  ·
    have hz := ffl_0 (hf_3.symm.trans c8)
    have hsv := hs_3 c8
    have hfr := fdI_rg (seg tF ls.toNat (la - ls).toNat) N
    have hss := NamR_slt hN (i := (fdI (seg tF ls.toNat (la - ls).toNat) N).toNat) (by omega)
    have hsd : slt N (fdI (seg tF ls.toNat (la - ls).toNat) N).toNat = bas (sor N (fdI (seg tF ls.toNat (la - ls).toNat) N).toNat) + nub N (fdI (seg tF ls.toNat (la - ls).toNat) N).toNat := rfl
    have hcc := hN.2.2.1
    unfold cnt at hcc
    have hct := hN.2.1
    have hb12 : bas 1 = 16 ∧ bas 2 = 24 := by decide
    have hsg : 16 ≤ slt N (fdI (seg tF ls.toNat (la - ls).toNat) N).toNat := by rcases hz.2.2 with e | e <;> rw [e] at hss <;> omega
    have hgp := hg (vst * 24 + sl2_3 - 16).toNat
    refine z_aload_n C d_P_takePairEvent_13 1 rfl ?_
    refine z_aload_n C d_P_takePairEvent_14 1 rfl ?_
    refine z_get C f_P_121 d_P_takePairEvent_15 0 rfl rfl ?_
    refine z_aload_n C d_P_takePairEvent_18 1 rfl ?_
    refine z_get C f_P_112 d_P_takePairEvent_19 0 rfl rfl ?_
    refine z_calliS (As := [.int (iI vst), .int (iI sl2_3)]) (rest := [.ref aV]) (wr := [(aV, .inr (4, [.ref aL, .ref aN, .ref aU, .int (iI vph), .int (iI vso), .int (iI vne), .int (iI sl2_3), .int (iI vst), .int (iI vpa), .int (iI vac)])), (aL, .inr (2, [.ref aT, .int (iI ls), .int (iI la), .int (iI lk)])), (aT, .inr (0, [.ref aTb, .int (iI tl)])), bA G aTb 4096 tF, (aN, .inr (3, [.ref aNl, .ref aNn, .ref aNt])), bA G aNl 480 nl, iA G aNn 40 nn, (aU, .inr (6, [.ref aUg, .ref aUd, .int (iI ur), .int (iI uv), .int (iI uf), .ref aN, .ref aUa])), iA G aUg 384 ug]) (ws' := fun u => [(aV, .inr (4, [.ref aL, .ref aN, .ref aU, .int (iI vph), .int (iI vso), .int (iI vne), .int (iI sl2_3), .int (iI vst), .int (iI vpa), .int (iI vac)])), (aL, .inr (2, [.ref aT, .int (iI ls), .int (iI la), .int (iI lk)])), (aT, .inr (0, [.ref aTb, .int (iI tl)])), bA G aTb 4096 tF, (aN, .inr (3, [.ref aNl, .ref aNn, .ref aNt])), bA G aNl 480 nl, iA G aNn 40 nn, (aU, .inr (6, [.ref aUg, .ref aUd, .int (iI ur), .int (iI uv), .int (iI uf), .ref aN, .ref aUa])), iA G aUg 384 ug]) C k_P_124 kc_T_pairOfSlots (fun l sz => m_T_pairOfSlots l G sz vst sl2_3 ) rfl rfl (Nat.le_of_ble_eq_true rfl) (by decide) d_P_takePairEvent_22 [] [0, 1, 2, 3, 4, 5, 6, 7, 8] [0, 1, 2, 3, 4, 5, 6, 7, 8] rfl rfl (by decide) (fun u => rfl) (fun r u h22 => ?_)
    obtain rfl := h22
    show Zc G X 2 0 0 [(aV, .inr (4, [.ref aL, .ref aN, .ref aU, .int (iI vph), .int (iI vso), .int (iI vne), .int (iI sl2_3), .int (iI vst), .int (iI vpa), .int (iI vac)])), (aL, .inr (2, [.ref aT, .int (iI ls), .int (iI la), .int (iI lk)])), (aT, .inr (0, [.ref aTb, .int (iI tl)])), bA G aTb 4096 tF, (aN, .inr (3, [.ref aNl, .ref aNn, .ref aNt])), bA G aNl 480 nl, iA G aNn 40 nn, (aU, .inr (6, [.ref aUg, .ref aUd, .int (iI ur), .int (iI uv), .int (iI uf), .ref aN, .ref aUa])), iA G aUg 384 ug] [(1, .int (iI rr_3)), (0, .ref aV)] 25 [.int (iI ((vst * 24 + sl2_3) - 16)), .ref aV]
    refine z_put C f_P_129 ok_P nm_P d_P_takePairEvent_25 0 rfl rfl rfl rfl (Nat.le_of_ble_eq_true rfl) [(aV, .inr (4, [.ref aL, .ref aN, .ref aU, .int (iI vph), .int (iI vso), .int (iI vne), .int (iI sl2_3), .int (iI vst), .int (iI ((vst * 24 + sl2_3) - 16)), .int (iI vac)])), (aL, .inr (2, [.ref aT, .int (iI ls), .int (iI la), .int (iI lk)])), (aT, .inr (0, [.ref aTb, .int (iI tl)])), bA G aTb 4096 tF, (aN, .inr (3, [.ref aNl, .ref aNn, .ref aNt])), bA G aNl 480 nl, iA G aNn 40 nn, (aU, .inr (6, [.ref aUg, .ref aUd, .int (iI ur), .int (iI uv), .int (iI uf), .ref aN, .ref aUa])), iA G aUg 384 ug] rfl ?_
    refine z_aload_n C d_P_takePairEvent_28 1 rfl ?_
    refine z_get C f_P_19 d_P_takePairEvent_29 0 rfl rfl ?_
    refine z_get C f_P_132 d_P_takePairEvent_32 7 rfl rfl ?_
    refine z_aload_n C d_P_takePairEvent_35 1 rfl ?_
    refine z_get C f_P_129 d_P_takePairEvent_36 0 rfl rfl ?_
    refine z_iald C d_P_takePairEvent_39 8 rfl (by omega) ?_
    refine z_iconst C d_P_takePairEvent_40 ?_
    refine z_icmp_eq (tgt := 47) C d_P_takePairEvent_41 (by decide) (by omega) (by omega) (fun c41 => ?_) (fun c41 => ?_)
    ·
      rcases hne with rfl | rfl
      ·
        skip
        refine z_aload_n C d_P_takePairEvent_47 1 rfl ?_
        refine z_get C f_P_93 d_P_takePairEvent_48 0 rfl rfl ?_
        refine z_if_eq (tgt := 72) C d_P_takePairEvent_51 (by decide) (by omega) (fun c51 => ?_) (fun c51 => ?_)
        ·
          refine z_aload_n C d_P_takePairEvent_72 1 rfl ?_
          refine z_iconst C d_P_takePairEvent_73 ?_
          refine z_calli (As := [.int (iI 5)]) (rest := []) (wr := [(aL, .inr (2, [.ref aT, .int (iI ls), .int (iI la), .int (iI lk)])), (aT, .inr (0, [.ref aTb, .int (iI tl)])), bA G aTb 4096 tF, (aN, .inr (3, [.ref aNl, .ref aNn, .ref aNt])), bA G aNl 480 nl, iA G aNn 40 nn, (aU, .inr (6, [.ref aUg, .ref aUd, .int (iI ur), .int (iI uv), .int (iI uf), .ref aN, .ref aUa])), iA G aUg 384 ug]) (ws' := fun u => [(aV, .inr (4, [.ref aL, .ref aN, .ref aU, .int (iI 5), .int (iI vso), .int (iI 0), .int (iI sl2_3), .int (iI vst), .int (iI ((vst * 24 + sl2_3) - 16)), .int (iI vac)])), (aL, .inr (2, [.ref aT, .int (iI ls), .int (iI la), .int (iI lk)])), (aT, .inr (0, [.ref aTb, .int (iI tl)])), bA G aTb 4096 tF, (aN, .inr (3, [.ref aNl, .ref aNn, .ref aNt])), bA G aNl 480 nl, iA G aNn 40 nn, (aU, .inr (6, [.ref aUg, .ref aUd, .int (iI ur), .int (iI uv), .int (iI uf), .ref aN, .ref aUa])), iA G aUg 384 ug]) (q0 := 0) C k_P_65 kc_P_goOn (fun l sz => m_P_goOn l G sz aV aL aN aU vph vso 0 sl2_3 vst ((vst * 24 + sl2_3) - 16) vac 5 ) rfl rfl (Nat.le_of_ble_eq_true rfl) (by decide) d_P_takePairEvent_74 rfl rfl [0] [1, 2, 3, 4, 5, 6, 7, 8] [8, 0, 1, 2, 3, 4, 5, 6, 7] rfl rfl (by decide) (fun u => rfl) (fun r u h74 => ?_)
          obtain rfl := h74
          show Zc G X 2 0 0 [(aV, .inr (4, [.ref aL, .ref aN, .ref aU, .int (iI 5), .int (iI vso), .int (iI 0), .int (iI sl2_3), .int (iI vst), .int (iI ((vst * 24 + sl2_3) - 16)), .int (iI vac)])), (aL, .inr (2, [.ref aT, .int (iI ls), .int (iI la), .int (iI lk)])), (aT, .inr (0, [.ref aTb, .int (iI tl)])), bA G aTb 4096 tF, (aN, .inr (3, [.ref aNl, .ref aNn, .ref aNt])), bA G aNl 480 nl, iA G aNn 40 nn, (aU, .inr (6, [.ref aUg, .ref aUd, .int (iI ur), .int (iI uv), .int (iI uf), .ref aN, .ref aUa])), iA G aUg 384 ug] [(1, .int (iI rr_3)), (0, .ref aV)] 77 [.int (iI 0)]
          exact z_iret C K d_P_takePairEvent_77 (rfl) (0, sl2_3, vst * 24 + sl2_3 - 16, 5, ug, uv) (rfl) (show iI 0 = iI 0 ∧ (0 = if ¬ ffl N lk (seg tF ls.toNat (la - ls).toNat) 1 2 = 0 then ffl N lk (seg tF ls.toNat (la - ls).toNat) 1 2 else if ¬ ug (vst * 24 + slt N (fdI (seg tF ls.toNat (la - ls).toNat) N).toNat - 16).toNat = -1 then 7 else 0) ∧ (0 = 0 → (vst * 24 + sl2_3 - 16) = vst * 24 + slt N (fdI (seg tF ls.toNat (la - ls).toNat) N).toNat - 16 ∧ ((0 : Int) = 0 → 5 = 5 ∧ ug = ug ∧ uv = uv) ∧ (¬ (0 : Int) = 0 → 5 = 12 ∧ ug = uZ ug (vst * 24 + slt N (fdI (seg tF ls.toNat (la - ls).toNat) N).toNat - 16).toNat (-2) ∧ uv = uv + 1)) ∧ (¬ 0 = 0 → 5 = vph) ∧ (-1 ≤ sl2_3 ∧ sl2_3 < 40 ∧ 0 ≤ (vst * 24 + sl2_3 - 16) ∧ (vst * 24 + sl2_3 - 16) < 384 ∧ gol ug) from ⟨rfl, by rw [if_neg (by rw [← hf_3]; exact fun z => z c8), ← hsv, if_neg (fun z => z c41)], fun _ => ⟨by rw [hsv], fun _ => ⟨rfl, rfl, rfl⟩, fun z => absurd rfl z⟩, fun z => absurd rfl z, ⟨hr_3.1, hr_3.2, by omega, by omega, hg⟩⟩)
        · exact absurd c51 (by omega)
      ·
        skip
        refine z_aload_n C d_P_takePairEvent_47 1 rfl ?_
        refine z_get C f_P_93 d_P_takePairEvent_48 0 rfl rfl ?_
        refine z_if_eq (tgt := 72) C d_P_takePairEvent_51 (by decide) (by omega) (fun c51 => ?_) (fun c51 => ?_)
        · exact absurd c51 (by omega)
        ·
          refine z_aload_n C d_P_takePairEvent_54 1 rfl ?_
          refine z_get C f_P_19 d_P_takePairEvent_55 0 rfl rfl ?_
          refine z_aload_n C d_P_takePairEvent_58 1 rfl ?_
          refine z_get C f_P_129 d_P_takePairEvent_59 0 rfl rfl ?_
          refine z_callv (As := [.int (iI ((vst * 24 + sl2_3) - 16))]) (rest := []) (wr := [(aV, .inr (4, [.ref aL, .ref aN, .ref aU, .int (iI vph), .int (iI vso), .int (iI 1), .int (iI sl2_3), .int (iI vst), .int (iI ((vst * 24 + sl2_3) - 16)), .int (iI vac)])), (aL, .inr (2, [.ref aT, .int (iI ls), .int (iI la), .int (iI lk)])), (aT, .inr (0, [.ref aTb, .int (iI tl)])), bA G aTb 4096 tF, (aN, .inr (3, [.ref aNl, .ref aNn, .ref aNt])), bA G aNl 480 nl, iA G aNn 40 nn]) (ws' := fun u => [(aV, .inr (4, [.ref aL, .ref aN, .ref aU, .int (iI vph), .int (iI vso), .int (iI 1), .int (iI sl2_3), .int (iI vst), .int (iI ((vst * 24 + sl2_3) - 16)), .int (iI vac)])), (aL, .inr (2, [.ref aT, .int (iI ls), .int (iI la), .int (iI lk)])), (aT, .inr (0, [.ref aTb, .int (iI tl)])), bA G aTb 4096 tF, (aN, .inr (3, [.ref aNl, .ref aNn, .ref aNt])), bA G aNl 480 nl, iA G aNn 40 nn, (aU, .inr (6, [.ref aUg, .ref aUd, .int (iI ur), .int (iI (uv + 1)), .int (iI uf), .ref aN, .ref aUa])), iA G aUg 384 (uZ ug ((vst * 24 + sl2_3) - 16).toNat (-2))]) (q0 := 7) C k_P_136 kc_T_setNever (fun l sz => m_T_setNever l G sz aU aUg aUd aUa ur uv uf aN ug ((vst * 24 + sl2_3) - 16) (by omega)) rfl rfl (Nat.le_of_ble_eq_true rfl) (by decide) d_P_takePairEvent_62 rfl rfl [7, 8] [0, 1, 2, 3, 4, 5, 6] [0, 1, 2, 3, 4, 5, 6, 7, 8] rfl rfl (by decide) (fun u => rfl) (fun u h62 => ?_)
          show Zc G X 2 0 0 [(aV, .inr (4, [.ref aL, .ref aN, .ref aU, .int (iI vph), .int (iI vso), .int (iI 1), .int (iI sl2_3), .int (iI vst), .int (iI ((vst * 24 + sl2_3) - 16)), .int (iI vac)])), (aL, .inr (2, [.ref aT, .int (iI ls), .int (iI la), .int (iI lk)])), (aT, .inr (0, [.ref aTb, .int (iI tl)])), bA G aTb 4096 tF, (aN, .inr (3, [.ref aNl, .ref aNn, .ref aNt])), bA G aNl 480 nl, iA G aNn 40 nn, (aU, .inr (6, [.ref aUg, .ref aUd, .int (iI ur), .int (iI (uv + 1)), .int (iI uf), .ref aN, .ref aUa])), iA G aUg 384 (uZ ug ((vst * 24 + sl2_3) - 16).toNat (-2))] [(1, .int (iI rr_3)), (0, .ref aV)] 65 []
          refine z_aload_n C d_P_takePairEvent_65 1 rfl ?_
          refine z_bipush C d_P_takePairEvent_66 (by decide) ?_
          refine z_calli (As := [.int (iI 12)]) (rest := []) (wr := [(aL, .inr (2, [.ref aT, .int (iI ls), .int (iI la), .int (iI lk)])), (aT, .inr (0, [.ref aTb, .int (iI tl)])), bA G aTb 4096 tF, (aN, .inr (3, [.ref aNl, .ref aNn, .ref aNt])), bA G aNl 480 nl, iA G aNn 40 nn, (aU, .inr (6, [.ref aUg, .ref aUd, .int (iI ur), .int (iI (uv + 1)), .int (iI uf), .ref aN, .ref aUa])), iA G aUg 384 (uZ ug ((vst * 24 + sl2_3) - 16).toNat (-2))]) (ws' := fun u => [(aV, .inr (4, [.ref aL, .ref aN, .ref aU, .int (iI 12), .int (iI vso), .int (iI 1), .int (iI sl2_3), .int (iI vst), .int (iI ((vst * 24 + sl2_3) - 16)), .int (iI vac)])), (aL, .inr (2, [.ref aT, .int (iI ls), .int (iI la), .int (iI lk)])), (aT, .inr (0, [.ref aTb, .int (iI tl)])), bA G aTb 4096 tF, (aN, .inr (3, [.ref aNl, .ref aNn, .ref aNt])), bA G aNl 480 nl, iA G aNn 40 nn, (aU, .inr (6, [.ref aUg, .ref aUd, .int (iI ur), .int (iI (uv + 1)), .int (iI uf), .ref aN, .ref aUa])), iA G aUg 384 (uZ ug ((vst * 24 + sl2_3) - 16).toNat (-2))]) (q0 := 0) C k_P_65 kc_P_goOn (fun l sz => m_P_goOn l G sz aV aL aN aU vph vso 1 sl2_3 vst ((vst * 24 + sl2_3) - 16) vac 12 ) rfl rfl (Nat.le_of_ble_eq_true rfl) (by decide) d_P_takePairEvent_68 rfl rfl [0] [1, 2, 3, 4, 5, 6, 7, 8] [8, 0, 1, 2, 3, 4, 5, 6, 7] rfl rfl (by decide) (fun u => rfl) (fun r u h68 => ?_)
          obtain rfl := h68
          show Zc G X 2 0 0 [(aV, .inr (4, [.ref aL, .ref aN, .ref aU, .int (iI 12), .int (iI vso), .int (iI 1), .int (iI sl2_3), .int (iI vst), .int (iI ((vst * 24 + sl2_3) - 16)), .int (iI vac)])), (aL, .inr (2, [.ref aT, .int (iI ls), .int (iI la), .int (iI lk)])), (aT, .inr (0, [.ref aTb, .int (iI tl)])), bA G aTb 4096 tF, (aN, .inr (3, [.ref aNl, .ref aNn, .ref aNt])), bA G aNl 480 nl, iA G aNn 40 nn, (aU, .inr (6, [.ref aUg, .ref aUd, .int (iI ur), .int (iI (uv + 1)), .int (iI uf), .ref aN, .ref aUa])), iA G aUg 384 (uZ ug ((vst * 24 + sl2_3) - 16).toNat (-2))] [(1, .int (iI rr_3)), (0, .ref aV)] 71 [.int (iI 0)]
          exact z_iret C K d_P_takePairEvent_71 (rfl) (0, sl2_3, vst * 24 + sl2_3 - 16, 12, uZ ug (vst * 24 + sl2_3 - 16).toNat (-2), uv + 1) (rfl) (show iI 0 = iI 0 ∧ (0 = if ¬ ffl N lk (seg tF ls.toNat (la - ls).toNat) 1 2 = 0 then ffl N lk (seg tF ls.toNat (la - ls).toNat) 1 2 else if ¬ ug (vst * 24 + slt N (fdI (seg tF ls.toNat (la - ls).toNat) N).toNat - 16).toNat = -1 then 7 else 0) ∧ (0 = 0 → (vst * 24 + sl2_3 - 16) = vst * 24 + slt N (fdI (seg tF ls.toNat (la - ls).toNat) N).toNat - 16 ∧ ((1 : Int) = 0 → 12 = 5 ∧ (uZ ug (vst * 24 + sl2_3 - 16).toNat (-2)) = ug ∧ (uv + 1) = uv) ∧ (¬ (1 : Int) = 0 → 12 = 12 ∧ (uZ ug (vst * 24 + sl2_3 - 16).toNat (-2)) = uZ ug (vst * 24 + slt N (fdI (seg tF ls.toNat (la - ls).toNat) N).toNat - 16).toNat (-2) ∧ (uv + 1) = uv + 1)) ∧ (¬ 0 = 0 → 12 = vph) ∧ (-1 ≤ sl2_3 ∧ sl2_3 < 40 ∧ 0 ≤ (vst * 24 + sl2_3 - 16) ∧ (vst * 24 + sl2_3 - 16) < 384 ∧ gol (uZ ug (vst * 24 + sl2_3 - 16).toNat (-2))) from ⟨rfl, by rw [if_neg (by rw [← hf_3]; exact fun z => z c8), ← hsv, if_neg (fun z => z c41)], fun _ => ⟨by rw [hsv], fun z => absurd z (by decide), fun _ => ⟨rfl, by rw [← hsv], rfl⟩⟩, fun z => absurd rfl z, ⟨hr_3.1, hr_3.2, by omega, by omega, uZ_gol hg (by omega)⟩⟩)
    ·
      refine z_bipush C d_P_takePairEvent_44 (by decide) ?_
      exact z_iret C K d_P_takePairEvent_46 (rfl) (7, sl2_3, vst * 24 + sl2_3 - 16, vph, ug, uv) (rfl) (show iI 7 = iI 7 ∧ (7 = if ¬ ffl N lk (seg tF ls.toNat (la - ls).toNat) 1 2 = 0 then ffl N lk (seg tF ls.toNat (la - ls).toNat) 1 2 else if ¬ ug (vst * 24 + slt N (fdI (seg tF ls.toNat (la - ls).toNat) N).toNat - 16).toNat = -1 then 7 else 0) ∧ (7 = 0 → (vst * 24 + sl2_3 - 16) = vst * 24 + slt N (fdI (seg tF ls.toNat (la - ls).toNat) N).toNat - 16 ∧ ((vne : Int) = 0 → vph = 5 ∧ ug = ug ∧ uv = uv) ∧ (¬ (vne : Int) = 0 → vph = 12 ∧ ug = uZ ug (vst * 24 + slt N (fdI (seg tF ls.toNat (la - ls).toNat) N).toNat - 16).toNat (-2) ∧ uv = uv + 1)) ∧ (¬ 7 = 0 → vph = vph) ∧ (-1 ≤ sl2_3 ∧ sl2_3 < 40 ∧ 0 ≤ (vst * 24 + sl2_3 - 16) ∧ (vst * 24 + sl2_3 - 16) < 384 ∧ gol ug) from ⟨rfl, by rw [if_neg (by rw [← hf_3]; exact fun z => z c8), ← hsv, if_pos c41], fun z => absurd z (by decide), fun _ => rfl, ⟨hr_3.1, hr_3.2, by omega, by omega, hg⟩⟩)
  ·
    refine z_iload_n C d_P_takePairEvent_11 0 rfl ?_
    exact z_iret C K d_P_takePairEvent_12 (rfl) (rr_3, sl2_3, vpa, vph, ug, uv) (rfl) (show iI rr_3 = iI rr_3 ∧ (rr_3 = if ¬ ffl N lk (seg tF ls.toNat (la - ls).toNat) 1 2 = 0 then ffl N lk (seg tF ls.toNat (la - ls).toNat) 1 2 else if ¬ ug (vst * 24 + slt N (fdI (seg tF ls.toNat (la - ls).toNat) N).toNat - 16).toNat = -1 then 7 else 0) ∧ (rr_3 = 0 → vpa = vst * 24 + slt N (fdI (seg tF ls.toNat (la - ls).toNat) N).toNat - 16 ∧ ((vne : Int) = 0 → vph = 5 ∧ ug = ug ∧ uv = uv) ∧ (¬ (vne : Int) = 0 → vph = 12 ∧ ug = uZ ug (vst * 24 + slt N (fdI (seg tF ls.toNat (la - ls).toNat) N).toNat - 16).toNat (-2) ∧ uv = uv + 1)) ∧ (¬ rr_3 = 0 → vph = vph) ∧ (-1 ≤ sl2_3 ∧ sl2_3 < 40 ∧ 0 ≤ vpa ∧ vpa < 384 ∧ gol ug) from ⟨rfl, by rw [if_pos (by rw [← hf_3]; exact c8)]; exact hf_3, fun z => absurd z c8, fun _ => rfl, ⟨hr_3.1, hr_3.2, hpa.1, hpa.2, hg⟩⟩)
set_option maxHeartbeats 4000000 in
set_option maxRecDepth 100000 in
theorem m_P_addAction (l : Launch) (G : GG) (sz : Nat) (aV : Nat) (aL : Nat) (aN : Nat) (aU : Nat) (vph : Int) (vso : Int) (vne : Int) (vsl : Int) (vst : Int) (vpa : Int) (vac : Int) (aUg : Nat) (aUd : Nat) (aUa : Nat) (ur : Int) (uv : Int) (uf : Int) (ua : Nat → Int) (v : Int) (h1 : 0 ≤ vpa ∧ vpa < 384 ∧ 0 ≤ vac ∧ vac < 4) : MetI l G sz y_P_addAction c_P_addAction 2 (some .int) ({ frames := 1, cells := 0, slots := 0, locals := 23 } : Room) [.ref aV, .int (iI v)] [(aV, .inr (4, [.ref aL, .ref aN, .ref aU, .int (iI vph), .int (iI vso), .int (iI vne), .int (iI vsl), .int (iI vst), .int (iI vpa), .int (iI vac)])), (aU, .inr (6, [.ref aUg, .ref aUd, .int (iI ur), .int (iI uv), .int (iI uf), .ref aN, .ref aUa])), iA G aUa 1536 ua] (fun (r : Int32) (u : Unit) => r = iI 0) (fun (u : Unit) => [(aV, .inr (4, [.ref aL, .ref aN, .ref aU, .int (iI 9), .int (iI vso), .int (iI vne), .int (iI vsl), .int (iI vst), .int (iI vpa), .int (iI (vac + 1))])), (aU, .inr (6, [.ref aUg, .ref aUd, .int (iI ur), .int (iI uv), .int (iI uf), .ref aN, .ref aUa])), iA G aUa 1536 (uZ ua (vpa * 4 + vac).toNat v)]) := by
  refine MetI.mk (by decide) (Nat.le_of_ble_eq_true rfl) (fun X C K => ?_)
  show Zc G X 2 0 0 [(aV, .inr (4, [.ref aL, .ref aN, .ref aU, .int (iI vph), .int (iI vso), .int (iI vne), .int (iI vsl), .int (iI vst), .int (iI vpa), .int (iI vac)])), (aU, .inr (6, [.ref aUg, .ref aUd, .int (iI ur), .int (iI uv), .int (iI uf), .ref aN, .ref aUa])), iA G aUa 1536 ua] [(0, .ref aV), (1, .int (iI v))] 0 []
  refine z_aload_n C d_P_addAction_0 0 rfl ?_
  refine z_get C f_P_19 d_P_addAction_1 0 rfl rfl ?_
  refine z_aload_n C d_P_addAction_4 0 rfl ?_
  refine z_get C f_P_129 d_P_addAction_5 0 rfl rfl ?_
  refine z_aload_n C d_P_addAction_8 0 rfl ?_
  refine z_get C f_P_97 d_P_addAction_9 0 rfl rfl ?_
  refine z_iload_n C d_P_addAction_12 1 rfl ?_
  refine z_callv (As := [.int (iI vpa), .int (iI vac), .int (iI v)]) (rest := []) (wr := [(aV, .inr (4, [.ref aL, .ref aN, .ref aU, .int (iI vph), .int (iI vso), .int (iI vne), .int (iI vsl), .int (iI vst), .int (iI vpa), .int (iI vac)]))]) (ws' := fun u => [(aV, .inr (4, [.ref aL, .ref aN, .ref aU, .int (iI vph), .int (iI vso), .int (iI vne), .int (iI vsl), .int (iI vst), .int (iI vpa), .int (iI vac)])), (aU, .inr (6, [.ref aUg, .ref aUd, .int (iI ur), .int (iI uv), .int (iI uf), .ref aN, .ref aUa])), iA G aUa 1536 (uZ ua (vpa * 4 + vac).toNat v)]) (q0 := 1) C k_P_143 kc_T_setAction (fun l sz => m_T_setAction l G sz aU aUg aUd aUa ur uv uf aN ua vpa vac v (by omega)) rfl rfl (Nat.le_of_ble_eq_true rfl) (by decide) d_P_addAction_13 rfl rfl [1, 2] [0] [0, 1, 2] rfl rfl (by decide) (fun u => rfl) (fun u h13 => ?_)
  show Zc G X 2 0 0 [(aV, .inr (4, [.ref aL, .ref aN, .ref aU, .int (iI vph), .int (iI vso), .int (iI vne), .int (iI vsl), .int (iI vst), .int (iI vpa), .int (iI vac)])), (aU, .inr (6, [.ref aUg, .ref aUd, .int (iI ur), .int (iI uv), .int (iI uf), .ref aN, .ref aUa])), iA G aUa 1536 (uZ ua (vpa * 4 + vac).toNat v)] [(0, .ref aV), (1, .int (iI v))] 16 []
  refine z_aload_n C d_P_addAction_16 0 rfl ?_
  refine z_dup C d_P_addAction_17 rfl ?_
  refine z_get C f_P_97 d_P_addAction_18 0 rfl rfl ?_
  refine z_iconst C d_P_addAction_21 ?_
  refine z_iadd C d_P_addAction_22 ?_
  refine z_put C f_P_97 ok_P nm_P d_P_addAction_23 0 rfl rfl rfl rfl (Nat.le_of_ble_eq_true rfl) [(aV, .inr (4, [.ref aL, .ref aN, .ref aU, .int (iI vph), .int (iI vso), .int (iI vne), .int (iI vsl), .int (iI vst), .int (iI vpa), .int (iI (vac + 1))])), (aU, .inr (6, [.ref aUg, .ref aUd, .int (iI ur), .int (iI uv), .int (iI uf), .ref aN, .ref aUa])), iA G aUa 1536 (uZ ua (vpa * 4 + vac).toNat v)] rfl ?_
  refine z_aload_n C d_P_addAction_26 0 rfl ?_
  refine z_bipush C d_P_addAction_27 (by decide) ?_
  refine z_calli (As := [.int (iI 9)]) (rest := []) (wr := [(aU, .inr (6, [.ref aUg, .ref aUd, .int (iI ur), .int (iI uv), .int (iI uf), .ref aN, .ref aUa])), iA G aUa 1536 (uZ ua (vpa * 4 + vac).toNat v)]) (ws' := fun u => [(aV, .inr (4, [.ref aL, .ref aN, .ref aU, .int (iI 9), .int (iI vso), .int (iI vne), .int (iI vsl), .int (iI vst), .int (iI vpa), .int (iI (vac + 1))])), (aU, .inr (6, [.ref aUg, .ref aUd, .int (iI ur), .int (iI uv), .int (iI uf), .ref aN, .ref aUa])), iA G aUa 1536 (uZ ua (vpa * 4 + vac).toNat v)]) (q0 := 0) C k_P_65 kc_P_goOn (fun l sz => m_P_goOn l G sz aV aL aN aU vph vso vne vsl vst vpa (vac + 1) 9 ) rfl rfl (Nat.le_of_ble_eq_true rfl) (by decide) d_P_addAction_29 rfl rfl [0] [1, 2] [2, 0, 1] rfl rfl (by decide) (fun u => rfl) (fun r u h29 => ?_)
  obtain rfl := h29
  show Zc G X 2 0 0 [(aV, .inr (4, [.ref aL, .ref aN, .ref aU, .int (iI 9), .int (iI vso), .int (iI vne), .int (iI vsl), .int (iI vst), .int (iI vpa), .int (iI (vac + 1))])), (aU, .inr (6, [.ref aUg, .ref aUd, .int (iI ur), .int (iI uv), .int (iI uf), .ref aN, .ref aUa])), iA G aUa 1536 (uZ ua (vpa * 4 + vac).toNat v)] [(0, .ref aV), (1, .int (iI v))] 32 [.int (iI 0)]
  exact z_iret C K d_P_addAction_32 (rfl) () (rfl) (rfl)
set_option maxHeartbeats 4000000 in
set_option maxRecDepth 100000 in
theorem m_P_beginAction (l : Launch) (G : GG) (sz : Nat) (aV : Nat) (aL : Nat) (aN : Nat) (aU : Nat) (vph : Int) (vso : Int) (vne : Int) (vsl : Int) (vst : Int) (vpa : Int) (vac : Int) (aUg : Nat) (aUd : Nat) (aUa : Nat) (ur : Int) (uv : Int) (uf : Int) (aT : Nat) (ls : Int) (la : Int) (lk : Int) (ua : Nat → Int) (hk : 0 ≤ lk ∧ lk ≤ 15) (h1 : 0 ≤ vpa ∧ vpa < 384 ∧ 0 ≤ vac ∧ vac ≤ 4) (ha : act ua) : MetI l G sz y_P_beginAction c_P_beginAction 2 (some .int) ({ frames := 2, cells := 0, slots := 0, locals := 44 } : Room) [.ref aV] [(aV, .inr (4, [.ref aL, .ref aN, .ref aU, .int (iI vph), .int (iI vso), .int (iI vne), .int (iI vsl), .int (iI vst), .int (iI vpa), .int (iI vac)])), (aL, .inr (2, [.ref aT, .int (iI ls), .int (iI la), .int (iI lk)])), (aU, .inr (6, [.ref aUg, .ref aUd, .int (iI ur), .int (iI uv), .int (iI uf), .ref aN, .ref aUa])), iA G aUa 1536 ua] (fun (r : Int32) (u : Int × Int × Int × (Nat → Int)) => r = iI u.1 ∧ (u.1 = if ¬ lk = 13 ∧ ¬ lk = 14 ∧ ¬ lk = 15 then 2 else if 4 ≤ vac then 3 else 0) ∧ (u.1 = 0 → (lk = 13 → u.2.1 = 8 ∧ u.2.2.1 = vac ∧ u.2.2.2 = ua) ∧ (¬ lk = 13 → u.2.1 = 9 ∧ u.2.2.1 = vac + 1 ∧ u.2.2.2 = uZ ua (vpa * 4 + vac).toNat (if lk = 14 then 100 else 101))) ∧ (¬ u.1 = 0 → u.2.1 = vph) ∧ (0 ≤ u.2.2.1 ∧ u.2.2.1 ≤ 4 ∧ (u.2.1 = 8 → ¬ u.1 = 0 ∨ u.2.2.1 < 4) ∧ act u.2.2.2)) (fun (u : Int × Int × Int × (Nat → Int)) => [(aV, .inr (4, [.ref aL, .ref aN, .ref aU, .int (iI u.2.1), .int (iI vso), .int (iI vne), .int (iI vsl), .int (iI vst), .int (iI vpa), .int (iI u.2.2.1)])), (aL, .inr (2, [.ref aT, .int (iI ls), .int (iI la), .int (iI lk)])), (aU, .inr (6, [.ref aUg, .ref aUd, .int (iI ur), .int (iI uv), .int (iI uf), .ref aN, .ref aUa])), iA G aUa 1536 u.2.2.2]) := by
  refine MetI.mk (by decide) (Nat.le_of_ble_eq_true rfl) (fun X C K => ?_)
  show Zc G X 2 0 0 [(aV, .inr (4, [.ref aL, .ref aN, .ref aU, .int (iI vph), .int (iI vso), .int (iI vne), .int (iI vsl), .int (iI vst), .int (iI vpa), .int (iI vac)])), (aL, .inr (2, [.ref aT, .int (iI ls), .int (iI la), .int (iI lk)])), (aU, .inr (6, [.ref aUg, .ref aUd, .int (iI ur), .int (iI uv), .int (iI uf), .ref aN, .ref aUa])), iA G aUa 1536 ua] [(0, .ref aV)] 0 []
  refine z_aload_n C d_P_beginAction_0 0 rfl ?_
  refine z_get C f_P_9 d_P_beginAction_1 0 rfl rfl ?_
  refine z_get C f_P_38 d_P_beginAction_4 1 rfl rfl ?_
  refine z_istore_n (lv' := [(1, .int (iI lk)), (0, .ref aV)]) C d_P_beginAction_7 (by decide) rfl ?_
  refine z_iload_n C d_P_beginAction_8 0 rfl ?_
  refine z_bipush C d_P_beginAction_9 (by decide) ?_
  refine z_icmp_eq (tgt := 28) C d_P_beginAction_11 (by decide) (by omega) (by omega) (fun c11 => ?_) (fun c11 => ?_)
  ·
    refine z_aload_n C d_P_beginAction_28 1 rfl ?_
    refine z_get C f_P_97 d_P_beginAction_29 0 rfl rfl ?_
    refine z_iconst C d_P_beginAction_32 ?_
    refine z_icmp_lt (tgt := 38) C d_P_beginAction_33 (by decide) (by omega) (by omega) (fun c33 => ?_) (fun c33 => ?_)
    ·
      refine z_iload_n C d_P_beginAction_38 0 rfl ?_
      refine z_bipush C d_P_beginAction_39 (by decide) ?_
      refine z_icmp_ne (tgt := 51) C d_P_beginAction_41 (by decide) (by omega) (by omega) (fun c41 => ?_) (fun c41 => ?_)
      ·
        refine z_aload_n C d_P_beginAction_51 1 rfl ?_
        refine z_iload_n C d_P_beginAction_52 0 rfl ?_
        refine z_bipush C d_P_beginAction_53 (by decide) ?_
        refine z_icmp_ne (tgt := 63) C d_P_beginAction_55 (by decide) (by omega) (by omega) (fun c55 => ?_) (fun c55 => ?_)
        ·
          refine z_bipush C d_P_beginAction_63 (by decide) ?_
          refine z_calli (As := [.int (iI 101)]) (rest := []) (wr := [(aL, .inr (2, [.ref aT, .int (iI ls), .int (iI la), .int (iI lk)]))]) (ws' := fun u => [(aV, .inr (4, [.ref aL, .ref aN, .ref aU, .int (iI 9), .int (iI vso), .int (iI vne), .int (iI vsl), .int (iI vst), .int (iI vpa), .int (iI (vac + 1))])), (aL, .inr (2, [.ref aT, .int (iI ls), .int (iI la), .int (iI lk)])), (aU, .inr (6, [.ref aUg, .ref aUd, .int (iI ur), .int (iI uv), .int (iI uf), .ref aN, .ref aUa])), iA G aUa 1536 (uZ ua (vpa * 4 + vac).toNat 101)]) (q0 := 0) C k_P_140 kc_P_addAction (fun l sz => m_P_addAction l G sz aV aL aN aU vph vso vne vsl vst vpa vac aUg aUd aUa ur uv uf ua 101 (by omega)) rfl rfl (Nat.le_of_ble_eq_true rfl) (by decide) d_P_beginAction_65 rfl rfl [0, 2, 3] [1] [1, 0, 2, 3] rfl rfl (by decide) (fun u => rfl) (fun r u h65 => ?_)
          obtain rfl := h65
          show Zc G X 2 0 0 [(aV, .inr (4, [.ref aL, .ref aN, .ref aU, .int (iI 9), .int (iI vso), .int (iI vne), .int (iI vsl), .int (iI vst), .int (iI vpa), .int (iI (vac + 1))])), (aL, .inr (2, [.ref aT, .int (iI ls), .int (iI la), .int (iI lk)])), (aU, .inr (6, [.ref aUg, .ref aUd, .int (iI ur), .int (iI uv), .int (iI uf), .ref aN, .ref aUa])), iA G aUa 1536 (uZ ua (vpa * 4 + vac).toNat 101)] [(1, .int (iI lk)), (0, .ref aV)] 68 [.int (iI 0)]
          exact z_iret C K d_P_beginAction_68 (rfl) (0, 9, vac + 1, uZ ua (vpa * 4 + vac).toNat 101) (rfl) (show iI 0 = iI 0 ∧ (0 = if ¬ lk = 13 ∧ ¬ lk = 14 ∧ ¬ lk = 15 then 2 else if 4 ≤ vac then 3 else 0) ∧ (0 = 0 → (lk = 13 → 9 = 8 ∧ (vac + 1) = vac ∧ (uZ ua (vpa * 4 + vac).toNat 101) = ua) ∧ (¬ lk = 13 → 9 = 9 ∧ (vac + 1) = vac + 1 ∧ (uZ ua (vpa * 4 + vac).toNat 101) = uZ ua (vpa * 4 + vac).toNat (if lk = 14 then 100 else 101))) ∧ (¬ 0 = 0 → 9 = vph) ∧ (0 ≤ (vac + 1) ∧ (vac + 1) ≤ 4 ∧ (9 = 8 → ¬ 0 = 0 ∨ (vac + 1) < 4) ∧ act (uZ ua (vpa * 4 + vac).toNat 101)) from ⟨rfl, by rw [if_neg (by omega), if_neg (by omega)], fun _ => ⟨fun z => absurd z (by omega), fun _ => ⟨rfl, rfl, by rw [if_neg (by omega)]⟩⟩, fun z => absurd rfl z, ⟨by omega, by omega, fun z => absurd z (by decide), uZ_act ha (by omega)⟩⟩)
        ·
          refine z_bipush C d_P_beginAction_58 (by decide) ?_
          refine z_goto (tgt := 65) C d_P_beginAction_60 (by decide) ?_
          refine z_calli (As := [.int (iI 100)]) (rest := []) (wr := [(aL, .inr (2, [.ref aT, .int (iI ls), .int (iI la), .int (iI lk)]))]) (ws' := fun u => [(aV, .inr (4, [.ref aL, .ref aN, .ref aU, .int (iI 9), .int (iI vso), .int (iI vne), .int (iI vsl), .int (iI vst), .int (iI vpa), .int (iI (vac + 1))])), (aL, .inr (2, [.ref aT, .int (iI ls), .int (iI la), .int (iI lk)])), (aU, .inr (6, [.ref aUg, .ref aUd, .int (iI ur), .int (iI uv), .int (iI uf), .ref aN, .ref aUa])), iA G aUa 1536 (uZ ua (vpa * 4 + vac).toNat 100)]) (q0 := 0) C k_P_140 kc_P_addAction (fun l sz => m_P_addAction l G sz aV aL aN aU vph vso vne vsl vst vpa vac aUg aUd aUa ur uv uf ua 100 (by omega)) rfl rfl (Nat.le_of_ble_eq_true rfl) (by decide) d_P_beginAction_65 rfl rfl [0, 2, 3] [1] [1, 0, 2, 3] rfl rfl (by decide) (fun u => rfl) (fun r u h65 => ?_)
          obtain rfl := h65
          show Zc G X 2 0 0 [(aV, .inr (4, [.ref aL, .ref aN, .ref aU, .int (iI 9), .int (iI vso), .int (iI vne), .int (iI vsl), .int (iI vst), .int (iI vpa), .int (iI (vac + 1))])), (aL, .inr (2, [.ref aT, .int (iI ls), .int (iI la), .int (iI lk)])), (aU, .inr (6, [.ref aUg, .ref aUd, .int (iI ur), .int (iI uv), .int (iI uf), .ref aN, .ref aUa])), iA G aUa 1536 (uZ ua (vpa * 4 + vac).toNat 100)] [(1, .int (iI lk)), (0, .ref aV)] 68 [.int (iI 0)]
          exact z_iret C K d_P_beginAction_68 (rfl) (0, 9, vac + 1, uZ ua (vpa * 4 + vac).toNat 100) (rfl) (show iI 0 = iI 0 ∧ (0 = if ¬ lk = 13 ∧ ¬ lk = 14 ∧ ¬ lk = 15 then 2 else if 4 ≤ vac then 3 else 0) ∧ (0 = 0 → (lk = 13 → 9 = 8 ∧ (vac + 1) = vac ∧ (uZ ua (vpa * 4 + vac).toNat 100) = ua) ∧ (¬ lk = 13 → 9 = 9 ∧ (vac + 1) = vac + 1 ∧ (uZ ua (vpa * 4 + vac).toNat 100) = uZ ua (vpa * 4 + vac).toNat (if lk = 14 then 100 else 101))) ∧ (¬ 0 = 0 → 9 = vph) ∧ (0 ≤ (vac + 1) ∧ (vac + 1) ≤ 4 ∧ (9 = 8 → ¬ 0 = 0 ∨ (vac + 1) < 4) ∧ act (uZ ua (vpa * 4 + vac).toNat 100)) from ⟨rfl, by rw [if_neg (by omega), if_neg (by omega)], fun _ => ⟨fun z => absurd z (by omega), fun _ => ⟨rfl, rfl, by rw [if_pos (by omega)]⟩⟩, fun z => absurd rfl z, ⟨by omega, by omega, fun z => absurd z (by decide), uZ_act ha (by omega)⟩⟩)
      ·
        refine z_aload_n C d_P_beginAction_44 1 rfl ?_
        refine z_bipush C d_P_beginAction_45 (by decide) ?_
        refine z_calli (As := [.int (iI 8)]) (rest := []) (wr := [(aL, .inr (2, [.ref aT, .int (iI ls), .int (iI la), .int (iI lk)])), (aU, .inr (6, [.ref aUg, .ref aUd, .int (iI ur), .int (iI uv), .int (iI uf), .ref aN, .ref aUa])), iA G aUa 1536 ua]) (ws' := fun u => [(aV, .inr (4, [.ref aL, .ref aN, .ref aU, .int (iI 8), .int (iI vso), .int (iI vne), .int (iI vsl), .int (iI vst), .int (iI vpa), .int (iI vac)])), (aL, .inr (2, [.ref aT, .int (iI ls), .int (iI la), .int (iI lk)])), (aU, .inr (6, [.ref aUg, .ref aUd, .int (iI ur), .int (iI uv), .int (iI uf), .ref aN, .ref aUa])), iA G aUa 1536 ua]) (q0 := 0) C k_P_65 kc_P_goOn (fun l sz => m_P_goOn l G sz aV aL aN aU vph vso vne vsl vst vpa vac 8 ) rfl rfl (Nat.le_of_ble_eq_true rfl) (by decide) d_P_beginAction_47 rfl rfl [0] [1, 2, 3] [3, 0, 1, 2] rfl rfl (by decide) (fun u => rfl) (fun r u h47 => ?_)
        obtain rfl := h47
        show Zc G X 2 0 0 [(aV, .inr (4, [.ref aL, .ref aN, .ref aU, .int (iI 8), .int (iI vso), .int (iI vne), .int (iI vsl), .int (iI vst), .int (iI vpa), .int (iI vac)])), (aL, .inr (2, [.ref aT, .int (iI ls), .int (iI la), .int (iI lk)])), (aU, .inr (6, [.ref aUg, .ref aUd, .int (iI ur), .int (iI uv), .int (iI uf), .ref aN, .ref aUa])), iA G aUa 1536 ua] [(1, .int (iI lk)), (0, .ref aV)] 50 [.int (iI 0)]
        exact z_iret C K d_P_beginAction_50 (rfl) (0, 8, vac, ua) (rfl) (show iI 0 = iI 0 ∧ (0 = if ¬ lk = 13 ∧ ¬ lk = 14 ∧ ¬ lk = 15 then 2 else if 4 ≤ vac then 3 else 0) ∧ (0 = 0 → (lk = 13 → 8 = 8 ∧ vac = vac ∧ ua = ua) ∧ (¬ lk = 13 → 8 = 9 ∧ vac = vac + 1 ∧ ua = uZ ua (vpa * 4 + vac).toNat (if lk = 14 then 100 else 101))) ∧ (¬ 0 = 0 → 8 = vph) ∧ (0 ≤ vac ∧ vac ≤ 4 ∧ (8 = 8 → ¬ 0 = 0 ∨ vac < 4) ∧ act ua) from ⟨rfl, by rw [if_neg (by omega), if_neg (by omega)], fun _ => ⟨fun _ => ⟨rfl, rfl, rfl⟩, fun z => absurd (by omega) z⟩, fun z => absurd rfl z, ⟨by omega, by omega, fun _ => Or.inr (by omega), ha⟩⟩)
    ·
      refine z_iconst C d_P_beginAction_36 ?_
      exact z_iret C K d_P_beginAction_37 (rfl) (3, vph, vac, ua) (rfl) (show iI 3 = iI 3 ∧ (3 = if ¬ lk = 13 ∧ ¬ lk = 14 ∧ ¬ lk = 15 then 2 else if 4 ≤ vac then 3 else 0) ∧ (3 = 0 → (lk = 13 → vph = 8 ∧ vac = vac ∧ ua = ua) ∧ (¬ lk = 13 → vph = 9 ∧ vac = vac + 1 ∧ ua = uZ ua (vpa * 4 + vac).toNat (if lk = 14 then 100 else 101))) ∧ (¬ 3 = 0 → vph = vph) ∧ (0 ≤ vac ∧ vac ≤ 4 ∧ (vph = 8 → ¬ 3 = 0 ∨ vac < 4) ∧ act ua) from ⟨rfl, by rw [if_neg (by omega), if_pos (by omega)], fun z => absurd z (by decide), fun _ => rfl, ⟨by omega, by omega, fun _ => Or.inl (by decide), ha⟩⟩)
  ·
    refine z_iload_n C d_P_beginAction_14 0 rfl ?_
    refine z_bipush C d_P_beginAction_15 (by decide) ?_
    refine z_icmp_eq (tgt := 28) C d_P_beginAction_17 (by decide) (by omega) (by omega) (fun c17 => ?_) (fun c17 => ?_)
    ·
      refine z_aload_n C d_P_beginAction_28 1 rfl ?_
      refine z_get C f_P_97 d_P_beginAction_29 0 rfl rfl ?_
      refine z_iconst C d_P_beginAction_32 ?_
      refine z_icmp_lt (tgt := 38) C d_P_beginAction_33 (by decide) (by omega) (by omega) (fun c33 => ?_) (fun c33 => ?_)
      ·
        refine z_iload_n C d_P_beginAction_38 0 rfl ?_
        refine z_bipush C d_P_beginAction_39 (by decide) ?_
        refine z_icmp_ne (tgt := 51) C d_P_beginAction_41 (by decide) (by omega) (by omega) (fun c41 => ?_) (fun c41 => ?_)
        ·
          refine z_aload_n C d_P_beginAction_51 1 rfl ?_
          refine z_iload_n C d_P_beginAction_52 0 rfl ?_
          refine z_bipush C d_P_beginAction_53 (by decide) ?_
          refine z_icmp_ne (tgt := 63) C d_P_beginAction_55 (by decide) (by omega) (by omega) (fun c55 => ?_) (fun c55 => ?_)
          ·
            refine z_bipush C d_P_beginAction_63 (by decide) ?_
            refine z_calli (As := [.int (iI 101)]) (rest := []) (wr := [(aL, .inr (2, [.ref aT, .int (iI ls), .int (iI la), .int (iI lk)]))]) (ws' := fun u => [(aV, .inr (4, [.ref aL, .ref aN, .ref aU, .int (iI 9), .int (iI vso), .int (iI vne), .int (iI vsl), .int (iI vst), .int (iI vpa), .int (iI (vac + 1))])), (aL, .inr (2, [.ref aT, .int (iI ls), .int (iI la), .int (iI lk)])), (aU, .inr (6, [.ref aUg, .ref aUd, .int (iI ur), .int (iI uv), .int (iI uf), .ref aN, .ref aUa])), iA G aUa 1536 (uZ ua (vpa * 4 + vac).toNat 101)]) (q0 := 0) C k_P_140 kc_P_addAction (fun l sz => m_P_addAction l G sz aV aL aN aU vph vso vne vsl vst vpa vac aUg aUd aUa ur uv uf ua 101 (by omega)) rfl rfl (Nat.le_of_ble_eq_true rfl) (by decide) d_P_beginAction_65 rfl rfl [0, 2, 3] [1] [1, 0, 2, 3] rfl rfl (by decide) (fun u => rfl) (fun r u h65 => ?_)
            obtain rfl := h65
            show Zc G X 2 0 0 [(aV, .inr (4, [.ref aL, .ref aN, .ref aU, .int (iI 9), .int (iI vso), .int (iI vne), .int (iI vsl), .int (iI vst), .int (iI vpa), .int (iI (vac + 1))])), (aL, .inr (2, [.ref aT, .int (iI ls), .int (iI la), .int (iI lk)])), (aU, .inr (6, [.ref aUg, .ref aUd, .int (iI ur), .int (iI uv), .int (iI uf), .ref aN, .ref aUa])), iA G aUa 1536 (uZ ua (vpa * 4 + vac).toNat 101)] [(1, .int (iI lk)), (0, .ref aV)] 68 [.int (iI 0)]
            exact z_iret C K d_P_beginAction_68 (rfl) (0, 9, vac + 1, uZ ua (vpa * 4 + vac).toNat 101) (rfl) (show iI 0 = iI 0 ∧ (0 = if ¬ lk = 13 ∧ ¬ lk = 14 ∧ ¬ lk = 15 then 2 else if 4 ≤ vac then 3 else 0) ∧ (0 = 0 → (lk = 13 → 9 = 8 ∧ (vac + 1) = vac ∧ (uZ ua (vpa * 4 + vac).toNat 101) = ua) ∧ (¬ lk = 13 → 9 = 9 ∧ (vac + 1) = vac + 1 ∧ (uZ ua (vpa * 4 + vac).toNat 101) = uZ ua (vpa * 4 + vac).toNat (if lk = 14 then 100 else 101))) ∧ (¬ 0 = 0 → 9 = vph) ∧ (0 ≤ (vac + 1) ∧ (vac + 1) ≤ 4 ∧ (9 = 8 → ¬ 0 = 0 ∨ (vac + 1) < 4) ∧ act (uZ ua (vpa * 4 + vac).toNat 101)) from ⟨rfl, by rw [if_neg (by omega), if_neg (by omega)], fun _ => ⟨fun z => absurd z (by omega), fun _ => ⟨rfl, rfl, by rw [if_neg (by omega)]⟩⟩, fun z => absurd rfl z, ⟨by omega, by omega, fun z => absurd z (by decide), uZ_act ha (by omega)⟩⟩)
          ·
            refine z_bipush C d_P_beginAction_58 (by decide) ?_
            refine z_goto (tgt := 65) C d_P_beginAction_60 (by decide) ?_
            refine z_calli (As := [.int (iI 100)]) (rest := []) (wr := [(aL, .inr (2, [.ref aT, .int (iI ls), .int (iI la), .int (iI lk)]))]) (ws' := fun u => [(aV, .inr (4, [.ref aL, .ref aN, .ref aU, .int (iI 9), .int (iI vso), .int (iI vne), .int (iI vsl), .int (iI vst), .int (iI vpa), .int (iI (vac + 1))])), (aL, .inr (2, [.ref aT, .int (iI ls), .int (iI la), .int (iI lk)])), (aU, .inr (6, [.ref aUg, .ref aUd, .int (iI ur), .int (iI uv), .int (iI uf), .ref aN, .ref aUa])), iA G aUa 1536 (uZ ua (vpa * 4 + vac).toNat 100)]) (q0 := 0) C k_P_140 kc_P_addAction (fun l sz => m_P_addAction l G sz aV aL aN aU vph vso vne vsl vst vpa vac aUg aUd aUa ur uv uf ua 100 (by omega)) rfl rfl (Nat.le_of_ble_eq_true rfl) (by decide) d_P_beginAction_65 rfl rfl [0, 2, 3] [1] [1, 0, 2, 3] rfl rfl (by decide) (fun u => rfl) (fun r u h65 => ?_)
            obtain rfl := h65
            show Zc G X 2 0 0 [(aV, .inr (4, [.ref aL, .ref aN, .ref aU, .int (iI 9), .int (iI vso), .int (iI vne), .int (iI vsl), .int (iI vst), .int (iI vpa), .int (iI (vac + 1))])), (aL, .inr (2, [.ref aT, .int (iI ls), .int (iI la), .int (iI lk)])), (aU, .inr (6, [.ref aUg, .ref aUd, .int (iI ur), .int (iI uv), .int (iI uf), .ref aN, .ref aUa])), iA G aUa 1536 (uZ ua (vpa * 4 + vac).toNat 100)] [(1, .int (iI lk)), (0, .ref aV)] 68 [.int (iI 0)]
            exact z_iret C K d_P_beginAction_68 (rfl) (0, 9, vac + 1, uZ ua (vpa * 4 + vac).toNat 100) (rfl) (show iI 0 = iI 0 ∧ (0 = if ¬ lk = 13 ∧ ¬ lk = 14 ∧ ¬ lk = 15 then 2 else if 4 ≤ vac then 3 else 0) ∧ (0 = 0 → (lk = 13 → 9 = 8 ∧ (vac + 1) = vac ∧ (uZ ua (vpa * 4 + vac).toNat 100) = ua) ∧ (¬ lk = 13 → 9 = 9 ∧ (vac + 1) = vac + 1 ∧ (uZ ua (vpa * 4 + vac).toNat 100) = uZ ua (vpa * 4 + vac).toNat (if lk = 14 then 100 else 101))) ∧ (¬ 0 = 0 → 9 = vph) ∧ (0 ≤ (vac + 1) ∧ (vac + 1) ≤ 4 ∧ (9 = 8 → ¬ 0 = 0 ∨ (vac + 1) < 4) ∧ act (uZ ua (vpa * 4 + vac).toNat 100)) from ⟨rfl, by rw [if_neg (by omega), if_neg (by omega)], fun _ => ⟨fun z => absurd z (by omega), fun _ => ⟨rfl, rfl, by rw [if_pos (by omega)]⟩⟩, fun z => absurd rfl z, ⟨by omega, by omega, fun z => absurd z (by decide), uZ_act ha (by omega)⟩⟩)
        ·
          refine z_aload_n C d_P_beginAction_44 1 rfl ?_
          refine z_bipush C d_P_beginAction_45 (by decide) ?_
          refine z_calli (As := [.int (iI 8)]) (rest := []) (wr := [(aL, .inr (2, [.ref aT, .int (iI ls), .int (iI la), .int (iI lk)])), (aU, .inr (6, [.ref aUg, .ref aUd, .int (iI ur), .int (iI uv), .int (iI uf), .ref aN, .ref aUa])), iA G aUa 1536 ua]) (ws' := fun u => [(aV, .inr (4, [.ref aL, .ref aN, .ref aU, .int (iI 8), .int (iI vso), .int (iI vne), .int (iI vsl), .int (iI vst), .int (iI vpa), .int (iI vac)])), (aL, .inr (2, [.ref aT, .int (iI ls), .int (iI la), .int (iI lk)])), (aU, .inr (6, [.ref aUg, .ref aUd, .int (iI ur), .int (iI uv), .int (iI uf), .ref aN, .ref aUa])), iA G aUa 1536 ua]) (q0 := 0) C k_P_65 kc_P_goOn (fun l sz => m_P_goOn l G sz aV aL aN aU vph vso vne vsl vst vpa vac 8 ) rfl rfl (Nat.le_of_ble_eq_true rfl) (by decide) d_P_beginAction_47 rfl rfl [0] [1, 2, 3] [3, 0, 1, 2] rfl rfl (by decide) (fun u => rfl) (fun r u h47 => ?_)
          obtain rfl := h47
          show Zc G X 2 0 0 [(aV, .inr (4, [.ref aL, .ref aN, .ref aU, .int (iI 8), .int (iI vso), .int (iI vne), .int (iI vsl), .int (iI vst), .int (iI vpa), .int (iI vac)])), (aL, .inr (2, [.ref aT, .int (iI ls), .int (iI la), .int (iI lk)])), (aU, .inr (6, [.ref aUg, .ref aUd, .int (iI ur), .int (iI uv), .int (iI uf), .ref aN, .ref aUa])), iA G aUa 1536 ua] [(1, .int (iI lk)), (0, .ref aV)] 50 [.int (iI 0)]
          exact z_iret C K d_P_beginAction_50 (rfl) (0, 8, vac, ua) (rfl) (show iI 0 = iI 0 ∧ (0 = if ¬ lk = 13 ∧ ¬ lk = 14 ∧ ¬ lk = 15 then 2 else if 4 ≤ vac then 3 else 0) ∧ (0 = 0 → (lk = 13 → 8 = 8 ∧ vac = vac ∧ ua = ua) ∧ (¬ lk = 13 → 8 = 9 ∧ vac = vac + 1 ∧ ua = uZ ua (vpa * 4 + vac).toNat (if lk = 14 then 100 else 101))) ∧ (¬ 0 = 0 → 8 = vph) ∧ (0 ≤ vac ∧ vac ≤ 4 ∧ (8 = 8 → ¬ 0 = 0 ∨ vac < 4) ∧ act ua) from ⟨rfl, by rw [if_neg (by omega), if_neg (by omega)], fun _ => ⟨fun _ => ⟨rfl, rfl, rfl⟩, fun z => absurd (by omega) z⟩, fun z => absurd rfl z, ⟨by omega, by omega, fun _ => Or.inr (by omega), ha⟩⟩)
      ·
        refine z_iconst C d_P_beginAction_36 ?_
        exact z_iret C K d_P_beginAction_37 (rfl) (3, vph, vac, ua) (rfl) (show iI 3 = iI 3 ∧ (3 = if ¬ lk = 13 ∧ ¬ lk = 14 ∧ ¬ lk = 15 then 2 else if 4 ≤ vac then 3 else 0) ∧ (3 = 0 → (lk = 13 → vph = 8 ∧ vac = vac ∧ ua = ua) ∧ (¬ lk = 13 → vph = 9 ∧ vac = vac + 1 ∧ ua = uZ ua (vpa * 4 + vac).toNat (if lk = 14 then 100 else 101))) ∧ (¬ 3 = 0 → vph = vph) ∧ (0 ≤ vac ∧ vac ≤ 4 ∧ (vph = 8 → ¬ 3 = 0 ∨ vac < 4) ∧ act ua) from ⟨rfl, by rw [if_neg (by omega), if_pos (by omega)], fun z => absurd z (by decide), fun _ => rfl, ⟨by omega, by omega, fun _ => Or.inl (by decide), ha⟩⟩)
    ·
      refine z_iload_n C d_P_beginAction_20 0 rfl ?_
      refine z_bipush C d_P_beginAction_21 (by decide) ?_
      refine z_icmp_eq (tgt := 28) C d_P_beginAction_23 (by decide) (by omega) (by omega) (fun c23 => ?_) (fun c23 => ?_)
      ·
        refine z_aload_n C d_P_beginAction_28 1 rfl ?_
        refine z_get C f_P_97 d_P_beginAction_29 0 rfl rfl ?_
        refine z_iconst C d_P_beginAction_32 ?_
        refine z_icmp_lt (tgt := 38) C d_P_beginAction_33 (by decide) (by omega) (by omega) (fun c33 => ?_) (fun c33 => ?_)
        ·
          refine z_iload_n C d_P_beginAction_38 0 rfl ?_
          refine z_bipush C d_P_beginAction_39 (by decide) ?_
          refine z_icmp_ne (tgt := 51) C d_P_beginAction_41 (by decide) (by omega) (by omega) (fun c41 => ?_) (fun c41 => ?_)
          ·
            refine z_aload_n C d_P_beginAction_51 1 rfl ?_
            refine z_iload_n C d_P_beginAction_52 0 rfl ?_
            refine z_bipush C d_P_beginAction_53 (by decide) ?_
            refine z_icmp_ne (tgt := 63) C d_P_beginAction_55 (by decide) (by omega) (by omega) (fun c55 => ?_) (fun c55 => ?_)
            ·
              refine z_bipush C d_P_beginAction_63 (by decide) ?_
              refine z_calli (As := [.int (iI 101)]) (rest := []) (wr := [(aL, .inr (2, [.ref aT, .int (iI ls), .int (iI la), .int (iI lk)]))]) (ws' := fun u => [(aV, .inr (4, [.ref aL, .ref aN, .ref aU, .int (iI 9), .int (iI vso), .int (iI vne), .int (iI vsl), .int (iI vst), .int (iI vpa), .int (iI (vac + 1))])), (aL, .inr (2, [.ref aT, .int (iI ls), .int (iI la), .int (iI lk)])), (aU, .inr (6, [.ref aUg, .ref aUd, .int (iI ur), .int (iI uv), .int (iI uf), .ref aN, .ref aUa])), iA G aUa 1536 (uZ ua (vpa * 4 + vac).toNat 101)]) (q0 := 0) C k_P_140 kc_P_addAction (fun l sz => m_P_addAction l G sz aV aL aN aU vph vso vne vsl vst vpa vac aUg aUd aUa ur uv uf ua 101 (by omega)) rfl rfl (Nat.le_of_ble_eq_true rfl) (by decide) d_P_beginAction_65 rfl rfl [0, 2, 3] [1] [1, 0, 2, 3] rfl rfl (by decide) (fun u => rfl) (fun r u h65 => ?_)
              obtain rfl := h65
              show Zc G X 2 0 0 [(aV, .inr (4, [.ref aL, .ref aN, .ref aU, .int (iI 9), .int (iI vso), .int (iI vne), .int (iI vsl), .int (iI vst), .int (iI vpa), .int (iI (vac + 1))])), (aL, .inr (2, [.ref aT, .int (iI ls), .int (iI la), .int (iI lk)])), (aU, .inr (6, [.ref aUg, .ref aUd, .int (iI ur), .int (iI uv), .int (iI uf), .ref aN, .ref aUa])), iA G aUa 1536 (uZ ua (vpa * 4 + vac).toNat 101)] [(1, .int (iI lk)), (0, .ref aV)] 68 [.int (iI 0)]
              exact z_iret C K d_P_beginAction_68 (rfl) (0, 9, vac + 1, uZ ua (vpa * 4 + vac).toNat 101) (rfl) (show iI 0 = iI 0 ∧ (0 = if ¬ lk = 13 ∧ ¬ lk = 14 ∧ ¬ lk = 15 then 2 else if 4 ≤ vac then 3 else 0) ∧ (0 = 0 → (lk = 13 → 9 = 8 ∧ (vac + 1) = vac ∧ (uZ ua (vpa * 4 + vac).toNat 101) = ua) ∧ (¬ lk = 13 → 9 = 9 ∧ (vac + 1) = vac + 1 ∧ (uZ ua (vpa * 4 + vac).toNat 101) = uZ ua (vpa * 4 + vac).toNat (if lk = 14 then 100 else 101))) ∧ (¬ 0 = 0 → 9 = vph) ∧ (0 ≤ (vac + 1) ∧ (vac + 1) ≤ 4 ∧ (9 = 8 → ¬ 0 = 0 ∨ (vac + 1) < 4) ∧ act (uZ ua (vpa * 4 + vac).toNat 101)) from ⟨rfl, by rw [if_neg (by omega), if_neg (by omega)], fun _ => ⟨fun z => absurd z (by omega), fun _ => ⟨rfl, rfl, by rw [if_neg (by omega)]⟩⟩, fun z => absurd rfl z, ⟨by omega, by omega, fun z => absurd z (by decide), uZ_act ha (by omega)⟩⟩)
            ·
              refine z_bipush C d_P_beginAction_58 (by decide) ?_
              refine z_goto (tgt := 65) C d_P_beginAction_60 (by decide) ?_
              refine z_calli (As := [.int (iI 100)]) (rest := []) (wr := [(aL, .inr (2, [.ref aT, .int (iI ls), .int (iI la), .int (iI lk)]))]) (ws' := fun u => [(aV, .inr (4, [.ref aL, .ref aN, .ref aU, .int (iI 9), .int (iI vso), .int (iI vne), .int (iI vsl), .int (iI vst), .int (iI vpa), .int (iI (vac + 1))])), (aL, .inr (2, [.ref aT, .int (iI ls), .int (iI la), .int (iI lk)])), (aU, .inr (6, [.ref aUg, .ref aUd, .int (iI ur), .int (iI uv), .int (iI uf), .ref aN, .ref aUa])), iA G aUa 1536 (uZ ua (vpa * 4 + vac).toNat 100)]) (q0 := 0) C k_P_140 kc_P_addAction (fun l sz => m_P_addAction l G sz aV aL aN aU vph vso vne vsl vst vpa vac aUg aUd aUa ur uv uf ua 100 (by omega)) rfl rfl (Nat.le_of_ble_eq_true rfl) (by decide) d_P_beginAction_65 rfl rfl [0, 2, 3] [1] [1, 0, 2, 3] rfl rfl (by decide) (fun u => rfl) (fun r u h65 => ?_)
              obtain rfl := h65
              show Zc G X 2 0 0 [(aV, .inr (4, [.ref aL, .ref aN, .ref aU, .int (iI 9), .int (iI vso), .int (iI vne), .int (iI vsl), .int (iI vst), .int (iI vpa), .int (iI (vac + 1))])), (aL, .inr (2, [.ref aT, .int (iI ls), .int (iI la), .int (iI lk)])), (aU, .inr (6, [.ref aUg, .ref aUd, .int (iI ur), .int (iI uv), .int (iI uf), .ref aN, .ref aUa])), iA G aUa 1536 (uZ ua (vpa * 4 + vac).toNat 100)] [(1, .int (iI lk)), (0, .ref aV)] 68 [.int (iI 0)]
              exact z_iret C K d_P_beginAction_68 (rfl) (0, 9, vac + 1, uZ ua (vpa * 4 + vac).toNat 100) (rfl) (show iI 0 = iI 0 ∧ (0 = if ¬ lk = 13 ∧ ¬ lk = 14 ∧ ¬ lk = 15 then 2 else if 4 ≤ vac then 3 else 0) ∧ (0 = 0 → (lk = 13 → 9 = 8 ∧ (vac + 1) = vac ∧ (uZ ua (vpa * 4 + vac).toNat 100) = ua) ∧ (¬ lk = 13 → 9 = 9 ∧ (vac + 1) = vac + 1 ∧ (uZ ua (vpa * 4 + vac).toNat 100) = uZ ua (vpa * 4 + vac).toNat (if lk = 14 then 100 else 101))) ∧ (¬ 0 = 0 → 9 = vph) ∧ (0 ≤ (vac + 1) ∧ (vac + 1) ≤ 4 ∧ (9 = 8 → ¬ 0 = 0 ∨ (vac + 1) < 4) ∧ act (uZ ua (vpa * 4 + vac).toNat 100)) from ⟨rfl, by rw [if_neg (by omega), if_neg (by omega)], fun _ => ⟨fun z => absurd z (by omega), fun _ => ⟨rfl, rfl, by rw [if_pos (by omega)]⟩⟩, fun z => absurd rfl z, ⟨by omega, by omega, fun z => absurd z (by decide), uZ_act ha (by omega)⟩⟩)
          ·
            refine z_aload_n C d_P_beginAction_44 1 rfl ?_
            refine z_bipush C d_P_beginAction_45 (by decide) ?_
            refine z_calli (As := [.int (iI 8)]) (rest := []) (wr := [(aL, .inr (2, [.ref aT, .int (iI ls), .int (iI la), .int (iI lk)])), (aU, .inr (6, [.ref aUg, .ref aUd, .int (iI ur), .int (iI uv), .int (iI uf), .ref aN, .ref aUa])), iA G aUa 1536 ua]) (ws' := fun u => [(aV, .inr (4, [.ref aL, .ref aN, .ref aU, .int (iI 8), .int (iI vso), .int (iI vne), .int (iI vsl), .int (iI vst), .int (iI vpa), .int (iI vac)])), (aL, .inr (2, [.ref aT, .int (iI ls), .int (iI la), .int (iI lk)])), (aU, .inr (6, [.ref aUg, .ref aUd, .int (iI ur), .int (iI uv), .int (iI uf), .ref aN, .ref aUa])), iA G aUa 1536 ua]) (q0 := 0) C k_P_65 kc_P_goOn (fun l sz => m_P_goOn l G sz aV aL aN aU vph vso vne vsl vst vpa vac 8 ) rfl rfl (Nat.le_of_ble_eq_true rfl) (by decide) d_P_beginAction_47 rfl rfl [0] [1, 2, 3] [3, 0, 1, 2] rfl rfl (by decide) (fun u => rfl) (fun r u h47 => ?_)
            obtain rfl := h47
            show Zc G X 2 0 0 [(aV, .inr (4, [.ref aL, .ref aN, .ref aU, .int (iI 8), .int (iI vso), .int (iI vne), .int (iI vsl), .int (iI vst), .int (iI vpa), .int (iI vac)])), (aL, .inr (2, [.ref aT, .int (iI ls), .int (iI la), .int (iI lk)])), (aU, .inr (6, [.ref aUg, .ref aUd, .int (iI ur), .int (iI uv), .int (iI uf), .ref aN, .ref aUa])), iA G aUa 1536 ua] [(1, .int (iI lk)), (0, .ref aV)] 50 [.int (iI 0)]
            exact z_iret C K d_P_beginAction_50 (rfl) (0, 8, vac, ua) (rfl) (show iI 0 = iI 0 ∧ (0 = if ¬ lk = 13 ∧ ¬ lk = 14 ∧ ¬ lk = 15 then 2 else if 4 ≤ vac then 3 else 0) ∧ (0 = 0 → (lk = 13 → 8 = 8 ∧ vac = vac ∧ ua = ua) ∧ (¬ lk = 13 → 8 = 9 ∧ vac = vac + 1 ∧ ua = uZ ua (vpa * 4 + vac).toNat (if lk = 14 then 100 else 101))) ∧ (¬ 0 = 0 → 8 = vph) ∧ (0 ≤ vac ∧ vac ≤ 4 ∧ (8 = 8 → ¬ 0 = 0 ∨ vac < 4) ∧ act ua) from ⟨rfl, by rw [if_neg (by omega), if_neg (by omega)], fun _ => ⟨fun _ => ⟨rfl, rfl, rfl⟩, fun z => absurd (by omega) z⟩, fun z => absurd rfl z, ⟨by omega, by omega, fun _ => Or.inr (by omega), ha⟩⟩)
        ·
          refine z_iconst C d_P_beginAction_36 ?_
          exact z_iret C K d_P_beginAction_37 (rfl) (3, vph, vac, ua) (rfl) (show iI 3 = iI 3 ∧ (3 = if ¬ lk = 13 ∧ ¬ lk = 14 ∧ ¬ lk = 15 then 2 else if 4 ≤ vac then 3 else 0) ∧ (3 = 0 → (lk = 13 → vph = 8 ∧ vac = vac ∧ ua = ua) ∧ (¬ lk = 13 → vph = 9 ∧ vac = vac + 1 ∧ ua = uZ ua (vpa * 4 + vac).toNat (if lk = 14 then 100 else 101))) ∧ (¬ 3 = 0 → vph = vph) ∧ (0 ≤ vac ∧ vac ≤ 4 ∧ (vph = 8 → ¬ 3 = 0 ∨ vac < 4) ∧ act ua) from ⟨rfl, by rw [if_neg (by omega), if_pos (by omega)], fun z => absurd z (by decide), fun _ => rfl, ⟨by omega, by omega, fun _ => Or.inl (by decide), ha⟩⟩)
      ·
        refine z_iconst C d_P_beginAction_26 ?_
        exact z_iret C K d_P_beginAction_27 (rfl) (2, vph, vac, ua) (rfl) (show iI 2 = iI 2 ∧ (2 = if ¬ lk = 13 ∧ ¬ lk = 14 ∧ ¬ lk = 15 then 2 else if 4 ≤ vac then 3 else 0) ∧ (2 = 0 → (lk = 13 → vph = 8 ∧ vac = vac ∧ ua = ua) ∧ (¬ lk = 13 → vph = 9 ∧ vac = vac + 1 ∧ ua = uZ ua (vpa * 4 + vac).toNat (if lk = 14 then 100 else 101))) ∧ (¬ 2 = 0 → vph = vph) ∧ (0 ≤ vac ∧ vac ≤ 4 ∧ (vph = 8 → ¬ 2 = 0 ∨ vac < 4) ∧ act ua) from ⟨rfl, by rw [if_pos (by omega)], fun z => absurd z (by decide), fun _ => rfl, ⟨by omega, by omega, fun _ => Or.inl (by decide), ha⟩⟩)
set_option maxHeartbeats 4000000 in
set_option maxRecDepth 100000 in
theorem m_P_takeSentMessage (l : Launch) (G : GG) (sz : Nat) (aV : Nat) (aL : Nat) (aN : Nat) (aU : Nat) (vph : Int) (vso : Int) (vne : Int) (vsl : Int) (vst : Int) (vpa : Int) (vac : Int) (aT : Nat) (ls : Int) (la : Int) (lk : Int) (aTb : Nat) (tl : Int) (tF : Nat → Int) (aNl : Nat) (aNn : Nat) (aNt : Nat) (nl : Nat → Int) (nn : Nat → Int) (aUg : Nat) (aUd : Nat) (aUa : Nat) (ur : Int) (uv : Int) (uf : Int) (nt : Nat → Int) (N : NL) (ua : Nat → Int) (hk : 0 ≤ lk ∧ lk ≤ 15) (hx : 0 ≤ ls ∧ ls ≤ la ∧ la ≤ 4096 ∧ (lk = 6 → ls < la ∧ la - ls ≤ 12)) (hb : byt nl ∧ byt tF) (hn : ∀ j, 0 ≤ nn j ∧ nn j ≤ 12) (hN : NamR nl nn nt N) (hsl : -1 ≤ vsl ∧ vsl < 40) (h1 : 0 ≤ vpa ∧ vpa < 384 ∧ 0 ≤ vac ∧ vac < 4) (ha : act ua) : MetI l G sz y_P_takeSentMessage c_P_takeSentMessage 2 (some .int) ({ frames := 3, cells := 0, slots := 0, locals := 68 } : Room) [.ref aV] [(aV, .inr (4, [.ref aL, .ref aN, .ref aU, .int (iI vph), .int (iI vso), .int (iI vne), .int (iI vsl), .int (iI vst), .int (iI vpa), .int (iI vac)])), (aL, .inr (2, [.ref aT, .int (iI ls), .int (iI la), .int (iI lk)])), (aT, .inr (0, [.ref aTb, .int (iI tl)])), bA G aTb 4096 tF, (aN, .inr (3, [.ref aNl, .ref aNn, .ref aNt])), bA G aNl 480 nl, iA G aNn 40 nn, (aU, .inr (6, [.ref aUg, .ref aUd, .int (iI ur), .int (iI uv), .int (iI uf), .ref aN, .ref aUa])), iA G aUa 1536 ua] (fun (r : Int32) (u : Int × Int × Int × Int × (Nat → Int)) => r = iI u.1 ∧ (u.1 = ffl N lk (seg tF ls.toNat (la - ls).toNat) 2 2) ∧ (u.1 = 0 → u.2.2.1 = 9 ∧ u.2.2.2.1 = vac + 1 ∧ u.2.2.2.2 = uZ ua (vpa * 4 + vac).toNat (nub N (fdI (seg tF ls.toNat (la - ls).toNat) N).toNat)) ∧ (¬ u.1 = 0 → u.2.2.1 = vph) ∧ (-1 ≤ u.2.1 ∧ u.2.1 < 40 ∧ 0 ≤ u.2.2.2.1 ∧ u.2.2.2.1 ≤ 4 ∧ (¬ u.1 = 0 → u.2.2.2.1 = vac) ∧ act u.2.2.2.2)) (fun (u : Int × Int × Int × Int × (Nat → Int)) => [(aV, .inr (4, [.ref aL, .ref aN, .ref aU, .int (iI u.2.2.1), .int (iI vso), .int (iI vne), .int (iI u.2.1), .int (iI vst), .int (iI vpa), .int (iI u.2.2.2.1)])), (aL, .inr (2, [.ref aT, .int (iI ls), .int (iI la), .int (iI lk)])), (aT, .inr (0, [.ref aTb, .int (iI tl)])), bA G aTb 4096 tF, (aN, .inr (3, [.ref aNl, .ref aNn, .ref aNt])), bA G aNl 480 nl, iA G aNn 40 nn, (aU, .inr (6, [.ref aUg, .ref aUd, .int (iI ur), .int (iI uv), .int (iI uf), .ref aN, .ref aUa])), iA G aUa 1536 u.2.2.2.2]) := by
  refine MetI.mk (by decide) (Nat.le_of_ble_eq_true rfl) (fun X C K => ?_)
  show Zc G X 2 0 0 [(aV, .inr (4, [.ref aL, .ref aN, .ref aU, .int (iI vph), .int (iI vso), .int (iI vne), .int (iI vsl), .int (iI vst), .int (iI vpa), .int (iI vac)])), (aL, .inr (2, [.ref aT, .int (iI ls), .int (iI la), .int (iI lk)])), (aT, .inr (0, [.ref aTb, .int (iI tl)])), bA G aTb 4096 tF, (aN, .inr (3, [.ref aNl, .ref aNn, .ref aNt])), bA G aNl 480 nl, iA G aNn 40 nn, (aU, .inr (6, [.ref aUg, .ref aUd, .int (iI ur), .int (iI uv), .int (iI uf), .ref aN, .ref aUa])), iA G aUa 1536 ua] [(0, .ref aV)] 0 []
  refine z_aload_n C d_P_takeSentMessage_0 0 rfl ?_
  refine z_iconst C d_P_takeSentMessage_1 ?_
  refine z_iconst C d_P_takeSentMessage_2 ?_
  refine z_calli (As := [.int (iI 2), .int (iI 2)]) (rest := []) (wr := [(aU, .inr (6, [.ref aUg, .ref aUd, .int (iI ur), .int (iI uv), .int (iI uf), .ref aN, .ref aUa])), iA G aUa 1536 ua]) (ws' := fun u => [(aV, .inr (4, [.ref aL, .ref aN, .ref aU, .int (iI vph), .int (iI vso), .int (iI vne), .int (iI u.2), .int (iI vst), .int (iI vpa), .int (iI vac)])), (aL, .inr (2, [.ref aT, .int (iI ls), .int (iI la), .int (iI lk)])), (aT, .inr (0, [.ref aTb, .int (iI tl)])), bA G aTb 4096 tF, (aN, .inr (3, [.ref aNl, .ref aNn, .ref aNt])), bA G aNl 480 nl, iA G aNn 40 nn, (aU, .inr (6, [.ref aUg, .ref aUd, .int (iI ur), .int (iI uv), .int (iI uf), .ref aN, .ref aUa])), iA G aUa 1536 ua]) (q0 := 0) C k_P_118 kc_P_findName (fun l sz => m_P_findName l G sz aV aL aN aU vph vso vne vsl vst vpa vac aT ls la lk aTb tl tF aNl aNn aNt nl nn nt N 2 2 (hk) (hx) (hb) (hn) (hN) (hsl) (by omega)) rfl rfl (Nat.le_of_ble_eq_true rfl) (by decide) d_P_takeSentMessage_3 rfl rfl [0, 1, 2, 3, 4, 5, 6] [7, 8] [2, 3, 4, 5, 6, 7, 8, 0, 1] rfl rfl (by decide) (fun u => rfl) (fun r u h3 => ?_)
  obtain ⟨rr_3, sl2_3⟩ := u
  obtain ⟨rfl, hf_3, hs_3, hr_3⟩ := h3
  have hf_3 : rr_3 = ffl N lk (seg tF ls.toNat (la - ls).toNat) 2 2 := hf_3
  have hs_3 : rr_3 = 0 → sl2_3 = slt N (fdI (seg tF ls.toNat (la - ls).toNat) N).toNat := hs_3
  have hr_3 : -1 ≤ sl2_3 ∧ sl2_3 < 40 := hr_3
  show Zc G X 2 0 0 [(aV, .inr (4, [.ref aL, .ref aN, .ref aU, .int (iI vph), .int (iI vso), .int (iI vne), .int (iI sl2_3), .int (iI vst), .int (iI vpa), .int (iI vac)])), (aL, .inr (2, [.ref aT, .int (iI ls), .int (iI la), .int (iI lk)])), (aT, .inr (0, [.ref aTb, .int (iI tl)])), bA G aTb 4096 tF, (aN, .inr (3, [.ref aNl, .ref aNn, .ref aNt])), bA G aNl 480 nl, iA G aNn 40 nn, (aU, .inr (6, [.ref aUg, .ref aUd, .int (iI ur), .int (iI uv), .int (iI uf), .ref aN, .ref aUa])), iA G aUa 1536 ua] [(0, .ref aV)] 6 [.int (iI rr_3)]
  refine z_istore_n (lv' := [(1, .int (iI rr_3)), (0, .ref aV)]) C d_P_takeSentMessage_6 (by decide) rfl ?_
  refine z_iload_n C d_P_takeSentMessage_7 0 rfl ?_
  refine z_if_eq (tgt := 15) C d_P_takeSentMessage_8 (by decide) (by rw [hf_3]; unfold ffl; (repeat' split) <;> omega) (fun c8 => ?_) (fun c8 => ?_)
  ·
    have hz := ffl_0 (hf_3.symm.trans c8)
    have hsv := hs_3 c8
    have hfr := fdI_rg (seg tF ls.toNat (la - ls).toNat) N
    have hss := NamR_slt hN (i := (fdI (seg tF ls.toNat (la - ls).toNat) N).toNat) (by omega)
    have hsd : slt N (fdI (seg tF ls.toNat (la - ls).toNat) N).toNat = bas (sor N (fdI (seg tF ls.toNat (la - ls).toNat) N).toNat) + nub N (fdI (seg tF ls.toNat (la - ls).toNat) N).toNat := rfl
    have hcc := hN.2.2.1
    unfold cnt at hcc
    have hct := hN.2.1
    rw [show sor N (fdI (seg tF ls.toNat (la - ls).toNat) N).toNat = 2 by omega] at hsd hss
    have hb2 : bas 2 = 24 := by decide
    refine z_aload_n C d_P_takeSentMessage_15 1 rfl ?_
    refine z_aload_n C d_P_takeSentMessage_16 1 rfl ?_
    refine z_get C f_P_112 d_P_takeSentMessage_17 0 rfl rfl ?_
    refine z_bipush C d_P_takeSentMessage_20 (by decide) ?_
    refine z_isub C d_P_takeSentMessage_22 ?_
    refine z_calli (As := [.int (iI (sl2_3 - 24))]) (rest := []) (wr := [(aL, .inr (2, [.ref aT, .int (iI ls), .int (iI la), .int (iI lk)])), (aT, .inr (0, [.ref aTb, .int (iI tl)])), bA G aTb 4096 tF, (aN, .inr (3, [.ref aNl, .ref aNn, .ref aNt])), bA G aNl 480 nl, iA G aNn 40 nn]) (ws' := fun u => [(aV, .inr (4, [.ref aL, .ref aN, .ref aU, .int (iI 9), .int (iI vso), .int (iI vne), .int (iI sl2_3), .int (iI vst), .int (iI vpa), .int (iI (vac + 1))])), (aL, .inr (2, [.ref aT, .int (iI ls), .int (iI la), .int (iI lk)])), (aT, .inr (0, [.ref aTb, .int (iI tl)])), bA G aTb 4096 tF, (aN, .inr (3, [.ref aNl, .ref aNn, .ref aNt])), bA G aNl 480 nl, iA G aNn 40 nn, (aU, .inr (6, [.ref aUg, .ref aUd, .int (iI ur), .int (iI uv), .int (iI uf), .ref aN, .ref aUa])), iA G aUa 1536 (uZ ua (vpa * 4 + vac).toNat (sl2_3 - 24))]) (q0 := 0) C k_P_140 kc_P_addAction (fun l sz => m_P_addAction l G sz aV aL aN aU vph vso vne sl2_3 vst vpa vac aUg aUd aUa ur uv uf ua (sl2_3 - 24) (by omega)) rfl rfl (Nat.le_of_ble_eq_true rfl) (by decide) d_P_takeSentMessage_23 rfl rfl [0, 7, 8] [1, 2, 3, 4, 5, 6] [6, 0, 1, 2, 3, 4, 5, 7, 8] rfl rfl (by decide) (fun u => rfl) (fun r u h23 => ?_)
    obtain rfl := h23
    show Zc G X 2 0 0 [(aV, .inr (4, [.ref aL, .ref aN, .ref aU, .int (iI 9), .int (iI vso), .int (iI vne), .int (iI sl2_3), .int (iI vst), .int (iI vpa), .int (iI (vac + 1))])), (aL, .inr (2, [.ref aT, .int (iI ls), .int (iI la), .int (iI lk)])), (aT, .inr (0, [.ref aTb, .int (iI tl)])), bA G aTb 4096 tF, (aN, .inr (3, [.ref aNl, .ref aNn, .ref aNt])), bA G aNl 480 nl, iA G aNn 40 nn, (aU, .inr (6, [.ref aUg, .ref aUd, .int (iI ur), .int (iI uv), .int (iI uf), .ref aN, .ref aUa])), iA G aUa 1536 (uZ ua (vpa * 4 + vac).toNat (sl2_3 - 24))] [(1, .int (iI rr_3)), (0, .ref aV)] 26 [.int (iI 0)]
    exact z_iret C K d_P_takeSentMessage_26 (rfl) (0, sl2_3, 9, vac + 1, uZ ua (vpa * 4 + vac).toNat (sl2_3 - 24)) (rfl) (show iI 0 = iI 0 ∧ (0 = ffl N lk (seg tF ls.toNat (la - ls).toNat) 2 2) ∧ (0 = 0 → 9 = 9 ∧ (vac + 1) = vac + 1 ∧ (uZ ua (vpa * 4 + vac).toNat (sl2_3 - 24)) = uZ ua (vpa * 4 + vac).toNat (nub N (fdI (seg tF ls.toNat (la - ls).toNat) N).toNat)) ∧ (¬ 0 = 0 → 9 = vph) ∧ (-1 ≤ sl2_3 ∧ sl2_3 < 40 ∧ 0 ≤ (vac + 1) ∧ (vac + 1) ≤ 4 ∧ (¬ 0 = 0 → (vac + 1) = vac) ∧ act (uZ ua (vpa * 4 + vac).toNat (sl2_3 - 24))) from ⟨rfl, by rw [← hf_3]; exact c8.symm, fun _ => ⟨rfl, rfl, by rw [show sl2_3 - 24 = nub N (fdI (seg tF ls.toNat (la - ls).toNat) N).toNat by omega]⟩, fun z => absurd rfl z, ⟨hr_3.1, hr_3.2, by omega, by omega, fun z => absurd rfl z, uZ_act ha (by omega)⟩⟩)
  ·
    refine z_iload_n C d_P_takeSentMessage_11 0 rfl ?_
    refine z_goto (tgt := 26) C d_P_takeSentMessage_12 (by decide) ?_
    exact z_iret C K d_P_takeSentMessage_26 (rfl) (rr_3, sl2_3, vph, vac, ua) (rfl) (show iI rr_3 = iI rr_3 ∧ (rr_3 = ffl N lk (seg tF ls.toNat (la - ls).toNat) 2 2) ∧ (rr_3 = 0 → vph = 9 ∧ vac = vac + 1 ∧ ua = uZ ua (vpa * 4 + vac).toNat (nub N (fdI (seg tF ls.toNat (la - ls).toNat) N).toNat)) ∧ (¬ rr_3 = 0 → vph = vph) ∧ (-1 ≤ sl2_3 ∧ sl2_3 < 40 ∧ 0 ≤ vac ∧ vac ≤ 4 ∧ (¬ rr_3 = 0 → vac = vac) ∧ act ua) from ⟨rfl, hf_3, fun z => absurd z c8, fun _ => rfl, ⟨hr_3.1, hr_3.2, by omega, by omega, fun _ => rfl, ha⟩⟩)
set_option maxHeartbeats 4000000 in
set_option maxRecDepth 100000 in
theorem m_P_takeGoal (l : Launch) (G : GG) (sz : Nat) (aV : Nat) (aL : Nat) (aN : Nat) (aU : Nat) (vph : Int) (vso : Int) (vne : Int) (vsl : Int) (vst : Int) (vpa : Int) (vac : Int) (aT : Nat) (ls : Int) (la : Int) (lk : Int) (aTb : Nat) (tl : Int) (tF : Nat → Int) (aNl : Nat) (aNn : Nat) (aNt : Nat) (nl : Nat → Int) (nn : Nat → Int) (aUg : Nat) (aUd : Nat) (aUa : Nat) (ur : Int) (uv : Int) (uf : Int) (nt : Nat → Int) (N : NL) (ug : Nat → Int) (hk : 0 ≤ lk ∧ lk ≤ 15) (hx : 0 ≤ ls ∧ ls ≤ la ∧ la ≤ 4096 ∧ (lk = 6 → ls < la ∧ la - ls ≤ 12)) (hb : byt nl ∧ byt tF) (hn : ∀ j, 0 ≤ nn j ∧ nn j ≤ 12) (hN : NamR nl nn nt N) (hsl : -1 ≤ vsl ∧ vsl < 40) (h1 : 0 ≤ vpa ∧ vpa < 384) (hg : gol ug) : MetI l G sz y_P_takeGoal c_P_takeGoal 2 (some .int) ({ frames := 3, cells := 0, slots := 0, locals := 68 } : Room) [.ref aV] [(aV, .inr (4, [.ref aL, .ref aN, .ref aU, .int (iI vph), .int (iI vso), .int (iI vne), .int (iI vsl), .int (iI vst), .int (iI vpa), .int (iI vac)])), (aL, .inr (2, [.ref aT, .int (iI ls), .int (iI la), .int (iI lk)])), (aT, .inr (0, [.ref aTb, .int (iI tl)])), bA G aTb 4096 tF, (aN, .inr (3, [.ref aNl, .ref aNn, .ref aNt])), bA G aNl 480 nl, iA G aNn 40 nn, (aU, .inr (6, [.ref aUg, .ref aUd, .int (iI ur), .int (iI uv), .int (iI uf), .ref aN, .ref aUa])), iA G aUg 384 ug] (fun (r : Int32) (u : Int × Int × Int × (Nat → Int) × Int) => r = iI u.1 ∧ (u.1 = ffl N lk (seg tF ls.toNat (la - ls).toNat) 0 0) ∧ (u.1 = 0 → u.2.2.1 = 12 ∧ u.2.2.2.1 = uZ ug vpa.toNat (nub N (fdI (seg tF ls.toNat (la - ls).toNat) N).toNat) ∧ u.2.2.2.2 = ur + 1) ∧ (¬ u.1 = 0 → u.2.2.1 = vph) ∧ (-1 ≤ u.2.1 ∧ u.2.1 < 40 ∧ gol u.2.2.2.1)) (fun (u : Int × Int × Int × (Nat → Int) × Int) => [(aV, .inr (4, [.ref aL, .ref aN, .ref aU, .int (iI u.2.2.1), .int (iI vso), .int (iI vne), .int (iI u.2.1), .int (iI vst), .int (iI vpa), .int (iI vac)])), (aL, .inr (2, [.ref aT, .int (iI ls), .int (iI la), .int (iI lk)])), (aT, .inr (0, [.ref aTb, .int (iI tl)])), bA G aTb 4096 tF, (aN, .inr (3, [.ref aNl, .ref aNn, .ref aNt])), bA G aNl 480 nl, iA G aNn 40 nn, (aU, .inr (6, [.ref aUg, .ref aUd, .int (iI u.2.2.2.2), .int (iI uv), .int (iI uf), .ref aN, .ref aUa])), iA G aUg 384 u.2.2.2.1]) := by
  refine MetI.mk (by decide) (Nat.le_of_ble_eq_true rfl) (fun X C K => ?_)
  show Zc G X 2 0 0 [(aV, .inr (4, [.ref aL, .ref aN, .ref aU, .int (iI vph), .int (iI vso), .int (iI vne), .int (iI vsl), .int (iI vst), .int (iI vpa), .int (iI vac)])), (aL, .inr (2, [.ref aT, .int (iI ls), .int (iI la), .int (iI lk)])), (aT, .inr (0, [.ref aTb, .int (iI tl)])), bA G aTb 4096 tF, (aN, .inr (3, [.ref aNl, .ref aNn, .ref aNt])), bA G aNl 480 nl, iA G aNn 40 nn, (aU, .inr (6, [.ref aUg, .ref aUd, .int (iI ur), .int (iI uv), .int (iI uf), .ref aN, .ref aUa])), iA G aUg 384 ug] [(0, .ref aV)] 0 []
  refine z_aload_n C d_P_takeGoal_0 0 rfl ?_
  refine z_iconst C d_P_takeGoal_1 ?_
  refine z_iconst C d_P_takeGoal_2 ?_
  refine z_calli (As := [.int (iI 0), .int (iI 0)]) (rest := []) (wr := [(aU, .inr (6, [.ref aUg, .ref aUd, .int (iI ur), .int (iI uv), .int (iI uf), .ref aN, .ref aUa])), iA G aUg 384 ug]) (ws' := fun u => [(aV, .inr (4, [.ref aL, .ref aN, .ref aU, .int (iI vph), .int (iI vso), .int (iI vne), .int (iI u.2), .int (iI vst), .int (iI vpa), .int (iI vac)])), (aL, .inr (2, [.ref aT, .int (iI ls), .int (iI la), .int (iI lk)])), (aT, .inr (0, [.ref aTb, .int (iI tl)])), bA G aTb 4096 tF, (aN, .inr (3, [.ref aNl, .ref aNn, .ref aNt])), bA G aNl 480 nl, iA G aNn 40 nn, (aU, .inr (6, [.ref aUg, .ref aUd, .int (iI ur), .int (iI uv), .int (iI uf), .ref aN, .ref aUa])), iA G aUg 384 ug]) (q0 := 0) C k_P_118 kc_P_findName (fun l sz => m_P_findName l G sz aV aL aN aU vph vso vne vsl vst vpa vac aT ls la lk aTb tl tF aNl aNn aNt nl nn nt N 0 0 (hk) (hx) (hb) (hn) (hN) (hsl) (by omega)) rfl rfl (Nat.le_of_ble_eq_true rfl) (by decide) d_P_takeGoal_3 rfl rfl [0, 1, 2, 3, 4, 5, 6] [7, 8] [2, 3, 4, 5, 6, 7, 8, 0, 1] rfl rfl (by decide) (fun u => rfl) (fun r u h3 => ?_)
  obtain ⟨rr_3, sl2_3⟩ := u
  obtain ⟨rfl, hf_3, hs_3, hr_3⟩ := h3
  have hf_3 : rr_3 = ffl N lk (seg tF ls.toNat (la - ls).toNat) 0 0 := hf_3
  have hs_3 : rr_3 = 0 → sl2_3 = slt N (fdI (seg tF ls.toNat (la - ls).toNat) N).toNat := hs_3
  have hr_3 : -1 ≤ sl2_3 ∧ sl2_3 < 40 := hr_3
  show Zc G X 2 0 0 [(aV, .inr (4, [.ref aL, .ref aN, .ref aU, .int (iI vph), .int (iI vso), .int (iI vne), .int (iI sl2_3), .int (iI vst), .int (iI vpa), .int (iI vac)])), (aL, .inr (2, [.ref aT, .int (iI ls), .int (iI la), .int (iI lk)])), (aT, .inr (0, [.ref aTb, .int (iI tl)])), bA G aTb 4096 tF, (aN, .inr (3, [.ref aNl, .ref aNn, .ref aNt])), bA G aNl 480 nl, iA G aNn 40 nn, (aU, .inr (6, [.ref aUg, .ref aUd, .int (iI ur), .int (iI uv), .int (iI uf), .ref aN, .ref aUa])), iA G aUg 384 ug] [(0, .ref aV)] 6 [.int (iI rr_3)]
  refine z_istore_n (lv' := [(1, .int (iI rr_3)), (0, .ref aV)]) C d_P_takeGoal_6 (by decide) rfl ?_
  refine z_iload_n C d_P_takeGoal_7 0 rfl ?_
  refine z_if_eq (tgt := 13) C d_P_takeGoal_8 (by decide) (by rw [hf_3]; unfold ffl; (repeat' split) <;> omega) (fun c8 => ?_) (fun c8 => ?_)
  ·
    have hz := ffl_0 (hf_3.symm.trans c8)
    have hsv := hs_3 c8
    have hfr := fdI_rg (seg tF ls.toNat (la - ls).toNat) N
    have hss := NamR_slt hN (i := (fdI (seg tF ls.toNat (la - ls).toNat) N).toNat) (by omega)
    have hsd : slt N (fdI (seg tF ls.toNat (la - ls).toNat) N).toNat = bas (sor N (fdI (seg tF ls.toNat (la - ls).toNat) N).toNat) + nub N (fdI (seg tF ls.toNat (la - ls).toNat) N).toNat := rfl
    have hcc := hN.2.2.1
    unfold cnt at hcc
    have hct := hN.2.1
    rw [show sor N (fdI (seg tF ls.toNat (la - ls).toNat) N).toNat = 0 by omega] at hsd hss
    have hb0 : bas 0 = 0 := by decide
    refine z_aload_n C d_P_takeGoal_13 1 rfl ?_
    refine z_get C f_P_19 d_P_takeGoal_14 0 rfl rfl ?_
    refine z_aload_n C d_P_takeGoal_17 1 rfl ?_
    refine z_get C f_P_129 d_P_takeGoal_18 0 rfl rfl ?_
    refine z_aload_n C d_P_takeGoal_21 1 rfl ?_
    refine z_get C f_P_112 d_P_takeGoal_22 0 rfl rfl ?_
    refine z_callv (As := [.int (iI vpa), .int (iI sl2_3)]) (rest := []) (wr := [(aV, .inr (4, [.ref aL, .ref aN, .ref aU, .int (iI vph), .int (iI vso), .int (iI vne), .int (iI sl2_3), .int (iI vst), .int (iI vpa), .int (iI vac)])), (aL, .inr (2, [.ref aT, .int (iI ls), .int (iI la), .int (iI lk)])), (aT, .inr (0, [.ref aTb, .int (iI tl)])), bA G aTb 4096 tF, (aN, .inr (3, [.ref aNl, .ref aNn, .ref aNt])), bA G aNl 480 nl, iA G aNn 40 nn]) (ws' := fun u => [(aV, .inr (4, [.ref aL, .ref aN, .ref aU, .int (iI vph), .int (iI vso), .int (iI vne), .int (iI sl2_3), .int (iI vst), .int (iI vpa), .int (iI vac)])), (aL, .inr (2, [.ref aT, .int (iI ls), .int (iI la), .int (iI lk)])), (aT, .inr (0, [.ref aTb, .int (iI tl)])), bA G aTb 4096 tF, (aN, .inr (3, [.ref aNl, .ref aNn, .ref aNt])), bA G aNl 480 nl, iA G aNn 40 nn, (aU, .inr (6, [.ref aUg, .ref aUd, .int (iI (ur + 1)), .int (iI uv), .int (iI uf), .ref aN, .ref aUa])), iA G aUg 384 (uZ ug vpa.toNat sl2_3)]) (q0 := 7) C k_P_147 kc_T_setRule (fun l sz => m_T_setRule l G sz aU aUg aUd aUa ur uv uf aN ug vpa sl2_3 (by omega)) rfl rfl (Nat.le_of_ble_eq_true rfl) (by decide) d_P_takeGoal_25 rfl rfl [7, 8] [0, 1, 2, 3, 4, 5, 6] [0, 1, 2, 3, 4, 5, 6, 7, 8] rfl rfl (by decide) (fun u => rfl) (fun u h25 => ?_)
    show Zc G X 2 0 0 [(aV, .inr (4, [.ref aL, .ref aN, .ref aU, .int (iI vph), .int (iI vso), .int (iI vne), .int (iI sl2_3), .int (iI vst), .int (iI vpa), .int (iI vac)])), (aL, .inr (2, [.ref aT, .int (iI ls), .int (iI la), .int (iI lk)])), (aT, .inr (0, [.ref aTb, .int (iI tl)])), bA G aTb 4096 tF, (aN, .inr (3, [.ref aNl, .ref aNn, .ref aNt])), bA G aNl 480 nl, iA G aNn 40 nn, (aU, .inr (6, [.ref aUg, .ref aUd, .int (iI (ur + 1)), .int (iI uv), .int (iI uf), .ref aN, .ref aUa])), iA G aUg 384 (uZ ug vpa.toNat sl2_3)] [(1, .int (iI rr_3)), (0, .ref aV)] 28 []
    refine z_aload_n C d_P_takeGoal_28 1 rfl ?_
    refine z_bipush C d_P_takeGoal_29 (by decide) ?_
    refine z_calli (As := [.int (iI 12)]) (rest := []) (wr := [(aL, .inr (2, [.ref aT, .int (iI ls), .int (iI la), .int (iI lk)])), (aT, .inr (0, [.ref aTb, .int (iI tl)])), bA G aTb 4096 tF, (aN, .inr (3, [.ref aNl, .ref aNn, .ref aNt])), bA G aNl 480 nl, iA G aNn 40 nn, (aU, .inr (6, [.ref aUg, .ref aUd, .int (iI (ur + 1)), .int (iI uv), .int (iI uf), .ref aN, .ref aUa])), iA G aUg 384 (uZ ug vpa.toNat sl2_3)]) (ws' := fun u => [(aV, .inr (4, [.ref aL, .ref aN, .ref aU, .int (iI 12), .int (iI vso), .int (iI vne), .int (iI sl2_3), .int (iI vst), .int (iI vpa), .int (iI vac)])), (aL, .inr (2, [.ref aT, .int (iI ls), .int (iI la), .int (iI lk)])), (aT, .inr (0, [.ref aTb, .int (iI tl)])), bA G aTb 4096 tF, (aN, .inr (3, [.ref aNl, .ref aNn, .ref aNt])), bA G aNl 480 nl, iA G aNn 40 nn, (aU, .inr (6, [.ref aUg, .ref aUd, .int (iI (ur + 1)), .int (iI uv), .int (iI uf), .ref aN, .ref aUa])), iA G aUg 384 (uZ ug vpa.toNat sl2_3)]) (q0 := 0) C k_P_65 kc_P_goOn (fun l sz => m_P_goOn l G sz aV aL aN aU vph vso vne sl2_3 vst vpa vac 12 ) rfl rfl (Nat.le_of_ble_eq_true rfl) (by decide) d_P_takeGoal_31 rfl rfl [0] [1, 2, 3, 4, 5, 6, 7, 8] [8, 0, 1, 2, 3, 4, 5, 6, 7] rfl rfl (by decide) (fun u => rfl) (fun r u h31 => ?_)
    obtain rfl := h31
    show Zc G X 2 0 0 [(aV, .inr (4, [.ref aL, .ref aN, .ref aU, .int (iI 12), .int (iI vso), .int (iI vne), .int (iI sl2_3), .int (iI vst), .int (iI vpa), .int (iI vac)])), (aL, .inr (2, [.ref aT, .int (iI ls), .int (iI la), .int (iI lk)])), (aT, .inr (0, [.ref aTb, .int (iI tl)])), bA G aTb 4096 tF, (aN, .inr (3, [.ref aNl, .ref aNn, .ref aNt])), bA G aNl 480 nl, iA G aNn 40 nn, (aU, .inr (6, [.ref aUg, .ref aUd, .int (iI (ur + 1)), .int (iI uv), .int (iI uf), .ref aN, .ref aUa])), iA G aUg 384 (uZ ug vpa.toNat sl2_3)] [(1, .int (iI rr_3)), (0, .ref aV)] 34 [.int (iI 0)]
    exact z_iret C K d_P_takeGoal_34 (rfl) (0, sl2_3, 12, uZ ug vpa.toNat sl2_3, ur + 1) (rfl) (show iI 0 = iI 0 ∧ (0 = ffl N lk (seg tF ls.toNat (la - ls).toNat) 0 0) ∧ (0 = 0 → 12 = 12 ∧ (uZ ug vpa.toNat sl2_3) = uZ ug vpa.toNat (nub N (fdI (seg tF ls.toNat (la - ls).toNat) N).toNat) ∧ (ur + 1) = ur + 1) ∧ (¬ 0 = 0 → 12 = vph) ∧ (-1 ≤ sl2_3 ∧ sl2_3 < 40 ∧ gol (uZ ug vpa.toNat sl2_3)) from ⟨rfl, by rw [← hf_3]; exact c8.symm, fun _ => ⟨rfl, by rw [show sl2_3 = nub N (fdI (seg tF ls.toNat (la - ls).toNat) N).toNat by omega], rfl⟩, fun z => absurd rfl z, ⟨hr_3.1, hr_3.2, uZ_gol hg (by omega)⟩⟩)
  ·
    refine z_iload_n C d_P_takeGoal_11 0 rfl ?_
    exact z_iret C K d_P_takeGoal_12 (rfl) (rr_3, sl2_3, vph, ug, ur) (rfl) (show iI rr_3 = iI rr_3 ∧ (rr_3 = ffl N lk (seg tF ls.toNat (la - ls).toNat) 0 0) ∧ (rr_3 = 0 → vph = 12 ∧ ug = uZ ug vpa.toNat (nub N (fdI (seg tF ls.toNat (la - ls).toNat) N).toNat) ∧ ur = ur + 1) ∧ (¬ rr_3 = 0 → vph = vph) ∧ (-1 ≤ sl2_3 ∧ sl2_3 < 40 ∧ gol ug) from ⟨rfl, hf_3, fun z => absurd z c8, fun _ => rfl, ⟨hr_3.1, hr_3.2, hg⟩⟩)
set_option maxHeartbeats 4000000 in
set_option maxRecDepth 100000 in
theorem m_P_takeFirstState (l : Launch) (G : GG) (sz : Nat) (aV : Nat) (aL : Nat) (aN : Nat) (aU : Nat) (vph : Int) (vso : Int) (vne : Int) (vsl : Int) (vst : Int) (vpa : Int) (vac : Int) (aT : Nat) (ls : Int) (la : Int) (lk : Int) (aTb : Nat) (tl : Int) (tF : Nat → Int) (aNl : Nat) (aNn : Nat) (aNt : Nat) (nl : Nat → Int) (nn : Nat → Int) (aUg : Nat) (aUd : Nat) (aUa : Nat) (ur : Int) (uv : Int) (uf : Int) (nt : Nat → Int) (N : NL) (hk : 0 ≤ lk ∧ lk ≤ 15) (hx : 0 ≤ ls ∧ ls ≤ la ∧ la ≤ 4096 ∧ (lk = 6 → ls < la ∧ la - ls ≤ 12)) (hb : byt nl ∧ byt tF) (hn : ∀ j, 0 ≤ nn j ∧ nn j ≤ 12) (hN : NamR nl nn nt N) (hsl : -1 ≤ vsl ∧ vsl < 40) (huf : -1 ≤ uf ∧ uf < 16) : MetI l G sz y_P_takeFirstState c_P_takeFirstState 2 (some .int) ({ frames := 3, cells := 0, slots := 0, locals := 68 } : Room) [.ref aV] [(aV, .inr (4, [.ref aL, .ref aN, .ref aU, .int (iI vph), .int (iI vso), .int (iI vne), .int (iI vsl), .int (iI vst), .int (iI vpa), .int (iI vac)])), (aL, .inr (2, [.ref aT, .int (iI ls), .int (iI la), .int (iI lk)])), (aT, .inr (0, [.ref aTb, .int (iI tl)])), bA G aTb 4096 tF, (aN, .inr (3, [.ref aNl, .ref aNn, .ref aNt])), bA G aNl 480 nl, iA G aNn 40 nn, (aU, .inr (6, [.ref aUg, .ref aUd, .int (iI ur), .int (iI uv), .int (iI uf), .ref aN, .ref aUa]))] (fun (r : Int32) (u : Int × Int × Int × Int) => r = iI u.1 ∧ (u.1 = ffl N lk (seg tF ls.toNat (la - ls).toNat) 0 0) ∧ (u.1 = 0 → u.2.2.1 = 12 ∧ u.2.2.2 = nub N (fdI (seg tF ls.toNat (la - ls).toNat) N).toNat) ∧ (¬ u.1 = 0 → u.2.2.1 = vph) ∧ (-1 ≤ u.2.1 ∧ u.2.1 < 40 ∧ -1 ≤ u.2.2.2 ∧ u.2.2.2 < 16)) (fun (u : Int × Int × Int × Int) => [(aV, .inr (4, [.ref aL, .ref aN, .ref aU, .int (iI u.2.2.1), .int (iI vso), .int (iI vne), .int (iI u.2.1), .int (iI vst), .int (iI vpa), .int (iI vac)])), (aL, .inr (2, [.ref aT, .int (iI ls), .int (iI la), .int (iI lk)])), (aT, .inr (0, [.ref aTb, .int (iI tl)])), bA G aTb 4096 tF, (aN, .inr (3, [.ref aNl, .ref aNn, .ref aNt])), bA G aNl 480 nl, iA G aNn 40 nn, (aU, .inr (6, [.ref aUg, .ref aUd, .int (iI ur), .int (iI uv), .int (iI u.2.2.2), .ref aN, .ref aUa]))]) := by
  refine MetI.mk (by decide) (Nat.le_of_ble_eq_true rfl) (fun X C K => ?_)
  show Zc G X 2 0 0 [(aV, .inr (4, [.ref aL, .ref aN, .ref aU, .int (iI vph), .int (iI vso), .int (iI vne), .int (iI vsl), .int (iI vst), .int (iI vpa), .int (iI vac)])), (aL, .inr (2, [.ref aT, .int (iI ls), .int (iI la), .int (iI lk)])), (aT, .inr (0, [.ref aTb, .int (iI tl)])), bA G aTb 4096 tF, (aN, .inr (3, [.ref aNl, .ref aNn, .ref aNt])), bA G aNl 480 nl, iA G aNn 40 nn, (aU, .inr (6, [.ref aUg, .ref aUd, .int (iI ur), .int (iI uv), .int (iI uf), .ref aN, .ref aUa]))] [(0, .ref aV)] 0 []
  refine z_aload_n C d_P_takeFirstState_0 0 rfl ?_
  refine z_iconst C d_P_takeFirstState_1 ?_
  refine z_iconst C d_P_takeFirstState_2 ?_
  refine z_calli (As := [.int (iI 0), .int (iI 0)]) (rest := []) (wr := [(aU, .inr (6, [.ref aUg, .ref aUd, .int (iI ur), .int (iI uv), .int (iI uf), .ref aN, .ref aUa]))]) (ws' := fun u => [(aV, .inr (4, [.ref aL, .ref aN, .ref aU, .int (iI vph), .int (iI vso), .int (iI vne), .int (iI u.2), .int (iI vst), .int (iI vpa), .int (iI vac)])), (aL, .inr (2, [.ref aT, .int (iI ls), .int (iI la), .int (iI lk)])), (aT, .inr (0, [.ref aTb, .int (iI tl)])), bA G aTb 4096 tF, (aN, .inr (3, [.ref aNl, .ref aNn, .ref aNt])), bA G aNl 480 nl, iA G aNn 40 nn, (aU, .inr (6, [.ref aUg, .ref aUd, .int (iI ur), .int (iI uv), .int (iI uf), .ref aN, .ref aUa]))]) (q0 := 0) C k_P_118 kc_P_findName (fun l sz => m_P_findName l G sz aV aL aN aU vph vso vne vsl vst vpa vac aT ls la lk aTb tl tF aNl aNn aNt nl nn nt N 0 0 (hk) (hx) (hb) (hn) (hN) (hsl) (by omega)) rfl rfl (Nat.le_of_ble_eq_true rfl) (by decide) d_P_takeFirstState_3 rfl rfl [0, 1, 2, 3, 4, 5, 6] [7] [1, 2, 3, 4, 5, 6, 7, 0] rfl rfl (by decide) (fun u => rfl) (fun r u h3 => ?_)
  obtain ⟨rr_3, sl2_3⟩ := u
  obtain ⟨rfl, hf_3, hs_3, hr_3⟩ := h3
  have hf_3 : rr_3 = ffl N lk (seg tF ls.toNat (la - ls).toNat) 0 0 := hf_3
  have hs_3 : rr_3 = 0 → sl2_3 = slt N (fdI (seg tF ls.toNat (la - ls).toNat) N).toNat := hs_3
  have hr_3 : -1 ≤ sl2_3 ∧ sl2_3 < 40 := hr_3
  show Zc G X 2 0 0 [(aV, .inr (4, [.ref aL, .ref aN, .ref aU, .int (iI vph), .int (iI vso), .int (iI vne), .int (iI sl2_3), .int (iI vst), .int (iI vpa), .int (iI vac)])), (aL, .inr (2, [.ref aT, .int (iI ls), .int (iI la), .int (iI lk)])), (aT, .inr (0, [.ref aTb, .int (iI tl)])), bA G aTb 4096 tF, (aN, .inr (3, [.ref aNl, .ref aNn, .ref aNt])), bA G aNl 480 nl, iA G aNn 40 nn, (aU, .inr (6, [.ref aUg, .ref aUd, .int (iI ur), .int (iI uv), .int (iI uf), .ref aN, .ref aUa]))] [(0, .ref aV)] 6 [.int (iI rr_3)]
  refine z_istore_n (lv' := [(1, .int (iI rr_3)), (0, .ref aV)]) C d_P_takeFirstState_6 (by decide) rfl ?_
  refine z_iload_n C d_P_takeFirstState_7 0 rfl ?_
  refine z_if_eq (tgt := 13) C d_P_takeFirstState_8 (by decide) (by rw [hf_3]; unfold ffl; (repeat' split) <;> omega) (fun c8 => ?_) (fun c8 => ?_)
  ·
    have hz := ffl_0 (hf_3.symm.trans c8)
    have hsv := hs_3 c8
    have hfr := fdI_rg (seg tF ls.toNat (la - ls).toNat) N
    have hss := NamR_slt hN (i := (fdI (seg tF ls.toNat (la - ls).toNat) N).toNat) (by omega)
    have hsd : slt N (fdI (seg tF ls.toNat (la - ls).toNat) N).toNat = bas (sor N (fdI (seg tF ls.toNat (la - ls).toNat) N).toNat) + nub N (fdI (seg tF ls.toNat (la - ls).toNat) N).toNat := rfl
    have hcc := hN.2.2.1
    unfold cnt at hcc
    have hct := hN.2.1
    rw [show sor N (fdI (seg tF ls.toNat (la - ls).toNat) N).toNat = 0 by omega] at hsd hss
    have hb0 : bas 0 = 0 := by decide
    refine z_aload_n C d_P_takeFirstState_13 1 rfl ?_
    refine z_get C f_P_19 d_P_takeFirstState_14 0 rfl rfl ?_
    refine z_aload_n C d_P_takeFirstState_17 1 rfl ?_
    refine z_get C f_P_112 d_P_takeFirstState_18 0 rfl rfl ?_
    refine z_put C f_P_151 ok_T nm_T d_P_takeFirstState_21 7 rfl rfl rfl rfl (Nat.le_of_ble_eq_true rfl) [(aV, .inr (4, [.ref aL, .ref aN, .ref aU, .int (iI vph), .int (iI vso), .int (iI vne), .int (iI sl2_3), .int (iI vst), .int (iI vpa), .int (iI vac)])), (aL, .inr (2, [.ref aT, .int (iI ls), .int (iI la), .int (iI lk)])), (aT, .inr (0, [.ref aTb, .int (iI tl)])), bA G aTb 4096 tF, (aN, .inr (3, [.ref aNl, .ref aNn, .ref aNt])), bA G aNl 480 nl, iA G aNn 40 nn, (aU, .inr (6, [.ref aUg, .ref aUd, .int (iI ur), .int (iI uv), .int (iI sl2_3), .ref aN, .ref aUa]))] rfl ?_
    refine z_aload_n C d_P_takeFirstState_24 1 rfl ?_
    refine z_bipush C d_P_takeFirstState_25 (by decide) ?_
    refine z_calli (As := [.int (iI 12)]) (rest := []) (wr := [(aL, .inr (2, [.ref aT, .int (iI ls), .int (iI la), .int (iI lk)])), (aT, .inr (0, [.ref aTb, .int (iI tl)])), bA G aTb 4096 tF, (aN, .inr (3, [.ref aNl, .ref aNn, .ref aNt])), bA G aNl 480 nl, iA G aNn 40 nn, (aU, .inr (6, [.ref aUg, .ref aUd, .int (iI ur), .int (iI uv), .int (iI sl2_3), .ref aN, .ref aUa]))]) (ws' := fun u => [(aV, .inr (4, [.ref aL, .ref aN, .ref aU, .int (iI 12), .int (iI vso), .int (iI vne), .int (iI sl2_3), .int (iI vst), .int (iI vpa), .int (iI vac)])), (aL, .inr (2, [.ref aT, .int (iI ls), .int (iI la), .int (iI lk)])), (aT, .inr (0, [.ref aTb, .int (iI tl)])), bA G aTb 4096 tF, (aN, .inr (3, [.ref aNl, .ref aNn, .ref aNt])), bA G aNl 480 nl, iA G aNn 40 nn, (aU, .inr (6, [.ref aUg, .ref aUd, .int (iI ur), .int (iI uv), .int (iI sl2_3), .ref aN, .ref aUa]))]) (q0 := 0) C k_P_65 kc_P_goOn (fun l sz => m_P_goOn l G sz aV aL aN aU vph vso vne sl2_3 vst vpa vac 12 ) rfl rfl (Nat.le_of_ble_eq_true rfl) (by decide) d_P_takeFirstState_27 rfl rfl [0] [1, 2, 3, 4, 5, 6, 7] [7, 0, 1, 2, 3, 4, 5, 6] rfl rfl (by decide) (fun u => rfl) (fun r u h27 => ?_)
    obtain rfl := h27
    show Zc G X 2 0 0 [(aV, .inr (4, [.ref aL, .ref aN, .ref aU, .int (iI 12), .int (iI vso), .int (iI vne), .int (iI sl2_3), .int (iI vst), .int (iI vpa), .int (iI vac)])), (aL, .inr (2, [.ref aT, .int (iI ls), .int (iI la), .int (iI lk)])), (aT, .inr (0, [.ref aTb, .int (iI tl)])), bA G aTb 4096 tF, (aN, .inr (3, [.ref aNl, .ref aNn, .ref aNt])), bA G aNl 480 nl, iA G aNn 40 nn, (aU, .inr (6, [.ref aUg, .ref aUd, .int (iI ur), .int (iI uv), .int (iI sl2_3), .ref aN, .ref aUa]))] [(1, .int (iI rr_3)), (0, .ref aV)] 30 [.int (iI 0)]
    exact z_iret C K d_P_takeFirstState_30 (rfl) (0, sl2_3, 12, sl2_3) (rfl) (show iI 0 = iI 0 ∧ (0 = ffl N lk (seg tF ls.toNat (la - ls).toNat) 0 0) ∧ (0 = 0 → 12 = 12 ∧ sl2_3 = nub N (fdI (seg tF ls.toNat (la - ls).toNat) N).toNat) ∧ (¬ 0 = 0 → 12 = vph) ∧ (-1 ≤ sl2_3 ∧ sl2_3 < 40 ∧ -1 ≤ sl2_3 ∧ sl2_3 < 16) from ⟨rfl, by rw [← hf_3]; exact c8.symm, fun _ => ⟨rfl, by omega⟩, fun z => absurd rfl z, ⟨hr_3.1, hr_3.2, by omega, by omega⟩⟩)
  ·
    refine z_iload_n C d_P_takeFirstState_11 0 rfl ?_
    exact z_iret C K d_P_takeFirstState_12 (rfl) (rr_3, sl2_3, vph, uf) (rfl) (show iI rr_3 = iI rr_3 ∧ (rr_3 = ffl N lk (seg tF ls.toNat (la - ls).toNat) 0 0) ∧ (rr_3 = 0 → vph = 12 ∧ uf = nub N (fdI (seg tF ls.toNat (la - ls).toNat) N).toNat) ∧ (¬ rr_3 = 0 → vph = vph) ∧ (-1 ≤ sl2_3 ∧ sl2_3 < 40 ∧ -1 ≤ uf ∧ uf < 16) from ⟨rfl, hf_3, fun z => absurd z c8, fun _ => rfl, ⟨hr_3.1, hr_3.2, huf⟩⟩)
set_option maxHeartbeats 4000000 in
set_option maxRecDepth 100000 in
theorem m_P_takeNewName (l : Launch) (G : GG) (sz : Nat) (aV : Nat) (aL : Nat) (aN : Nat) (aU : Nat) (vph : Int) (vso : Int) (vne : Int) (vsl : Int) (vst : Int) (vpa : Int) (vac : Int) (aT : Nat) (ls : Int) (la : Int) (lk : Int) (aTb : Nat) (tl : Int) (tF : Nat → Int) (aNl : Nat) (aNn : Nat) (aNt : Nat) (nl : Nat → Int) (nn : Nat → Int) (nt : Nat → Int) (N : NL) (hk : 0 ≤ lk ∧ lk ≤ 15) (hx : 0 ≤ ls ∧ ls ≤ la ∧ la ≤ 4096 ∧ (lk = 6 → ls < la ∧ la - ls ≤ 12)) (hb : byt nl ∧ byt tF) (hn : ∀ j, 0 ≤ nn j ∧ nn j ≤ 12) (hN : NamR nl nn nt N) (hsl : -1 ≤ vsl ∧ vsl < 40) (hso : vso = 0 ∨ vso = 1 ∨ vso = 2) : MetI l G sz y_P_takeNewName c_P_takeNewName 1 (some .int) ({ frames := 2, cells := 0, slots := 0, locals := 46 } : Room) [.ref aV] [(aV, .inr (4, [.ref aL, .ref aN, .ref aU, .int (iI vph), .int (iI vso), .int (iI vne), .int (iI vsl), .int (iI vst), .int (iI vpa), .int (iI vac)])), (aL, .inr (2, [.ref aT, .int (iI ls), .int (iI la), .int (iI lk)])), (aT, .inr (0, [.ref aTb, .int (iI tl)])), bA G aTb 4096 tF, (aN, .inr (3, [.ref aNl, .ref aNn, .ref aNt])), bA G aNl 480 nl, iA G aNn 40 nn, iA G aNt 3 nt] (fun (r : Int32) (u : Int × Int × (Nat → Int) × (Nat → Int) × (Nat → Int)) => r = iI u.1 ∧ (u.1 = if ¬ lk = 6 then 2 else if fuN N vso = 1 then 3 else if ¬ fdI (seg tF ls.toNat (la - ls).toNat) N = -1 then 4 else 0) ∧ (u.1 = 0 → u.2.1 = 2 ∧ NamR u.2.2.1 u.2.2.2.1 u.2.2.2.2 (N ++ [(vso, seg tF ls.toNat (la - ls).toNat)])) ∧ (¬ u.1 = 0 → u.2.1 = vph) ∧ (byt u.2.2.1 ∧ (∀ j, 0 ≤ u.2.2.2.1 j ∧ u.2.2.2.1 j ≤ 12) ∧ cnt u.2.2.2.2)) (fun (u : Int × Int × (Nat → Int) × (Nat → Int) × (Nat → Int)) => [(aV, .inr (4, [.ref aL, .ref aN, .ref aU, .int (iI u.2.1), .int (iI vso), .int (iI vne), .int (iI vsl), .int (iI vst), .int (iI vpa), .int (iI vac)])), (aL, .inr (2, [.ref aT, .int (iI ls), .int (iI la), .int (iI lk)])), (aT, .inr (0, [.ref aTb, .int (iI tl)])), bA G aTb 4096 tF, (aN, .inr (3, [.ref aNl, .ref aNn, .ref aNt])), bA G aNl 480 u.2.2.1, iA G aNn 40 u.2.2.2.1, iA G aNt 3 u.2.2.2.2]) := by
  refine MetI.mk (by decide) (Nat.le_of_ble_eq_true rfl) (fun X C K => ?_)
  show Zc G X 1 0 0 [(aV, .inr (4, [.ref aL, .ref aN, .ref aU, .int (iI vph), .int (iI vso), .int (iI vne), .int (iI vsl), .int (iI vst), .int (iI vpa), .int (iI vac)])), (aL, .inr (2, [.ref aT, .int (iI ls), .int (iI la), .int (iI lk)])), (aT, .inr (0, [.ref aTb, .int (iI tl)])), bA G aTb 4096 tF, (aN, .inr (3, [.ref aNl, .ref aNn, .ref aNt])), bA G aNl 480 nl, iA G aNn 40 nn, iA G aNt 3 nt] [(0, .ref aV)] 0 []
  refine z_aload_n C d_P_takeNewName_0 0 rfl ?_
  refine z_get C f_P_9 d_P_takeNewName_1 0 rfl rfl ?_
  refine z_get C f_P_38 d_P_takeNewName_4 1 rfl rfl ?_
  refine z_bipush C d_P_takeNewName_7 (by decide) ?_
  refine z_icmp_eq (tgt := 14) C d_P_takeNewName_9 (by decide) (by omega) (by omega) (fun c9 => ?_) (fun c9 => ?_)
  ·
    refine z_aload_n C d_P_takeNewName_14 0 rfl ?_
    refine z_get C f_P_15 d_P_takeNewName_15 0 rfl rfl ?_
    refine z_aload_n C d_P_takeNewName_18 0 rfl ?_
    refine z_get C f_P_90 d_P_takeNewName_19 0 rfl rfl ?_
    refine z_calli (As := [.int (iI vso)]) (rest := []) (wr := [(aV, .inr (4, [.ref aL, .ref aN, .ref aU, .int (iI vph), .int (iI vso), .int (iI vne), .int (iI vsl), .int (iI vst), .int (iI vpa), .int (iI vac)])), (aL, .inr (2, [.ref aT, .int (iI ls), .int (iI la), .int (iI lk)])), (aT, .inr (0, [.ref aTb, .int (iI tl)])), bA G aTb 4096 tF, bA G aNl 480 nl, iA G aNn 40 nn]) (ws' := fun u => [(aV, .inr (4, [.ref aL, .ref aN, .ref aU, .int (iI vph), .int (iI vso), .int (iI vne), .int (iI vsl), .int (iI vst), .int (iI vpa), .int (iI vac)])), (aL, .inr (2, [.ref aT, .int (iI ls), .int (iI la), .int (iI lk)])), (aT, .inr (0, [.ref aTb, .int (iI tl)])), bA G aTb 4096 tF, (aN, .inr (3, [.ref aNl, .ref aNn, .ref aNt])), bA G aNl 480 nl, iA G aNn 40 nn, iA G aNt 3 nt]) (q0 := 4) C k_P_100 kc_N_isFull (fun l sz => m_N_isFull l G sz aN aNl aNn aNt nt vso (hso) (hN.2.2.1)) rfl rfl (Nat.le_of_ble_eq_true rfl) (by decide) d_P_takeNewName_22 rfl rfl [4, 7] [0, 1, 2, 3, 5, 6] [0, 1, 2, 3, 6, 4, 5, 7] rfl rfl (by decide) (fun u => rfl) (fun r u h22 => ?_)
    obtain rfl := h22
    show Zc G X 1 0 0 [(aV, .inr (4, [.ref aL, .ref aN, .ref aU, .int (iI vph), .int (iI vso), .int (iI vne), .int (iI vsl), .int (iI vst), .int (iI vpa), .int (iI vac)])), (aL, .inr (2, [.ref aT, .int (iI ls), .int (iI la), .int (iI lk)])), (aT, .inr (0, [.ref aTb, .int (iI tl)])), bA G aTb 4096 tF, (aN, .inr (3, [.ref aNl, .ref aNn, .ref aNt])), bA G aNl 480 nl, iA G aNn 40 nn, iA G aNt 3 nt] [(0, .ref aV)] 25 [.int (iI (ful nt vso))]
    have hfu := NamR_ful hN vso
    have hf1 := ful_01 nt vso
    refine z_if_eq (tgt := 30) C d_P_takeNewName_25 (by decide) (by have := ful_01 nt vso; omega) (fun c25 => ?_) (fun c25 => ?_)
    ·
      refine z_aload_n C d_P_takeNewName_30 0 rfl ?_
      refine z_get C f_P_15 d_P_takeNewName_31 0 rfl rfl ?_
      refine z_aload_n C d_P_takeNewName_34 0 rfl ?_
      refine z_get C f_P_9 d_P_takeNewName_35 0 rfl rfl ?_
      refine z_calli (As := [.ref aL]) (rest := []) (wr := [(aV, .inr (4, [.ref aL, .ref aN, .ref aU, .int (iI vph), .int (iI vso), .int (iI vne), .int (iI vsl), .int (iI vst), .int (iI vpa), .int (iI vac)])), iA G aNt 3 nt]) (ws' := fun u => [(aV, .inr (4, [.ref aL, .ref aN, .ref aU, .int (iI vph), .int (iI vso), .int (iI vne), .int (iI vsl), .int (iI vst), .int (iI vpa), .int (iI vac)])), (aL, .inr (2, [.ref aT, .int (iI ls), .int (iI la), .int (iI lk)])), (aT, .inr (0, [.ref aTb, .int (iI tl)])), bA G aTb 4096 tF, (aN, .inr (3, [.ref aNl, .ref aNn, .ref aNt])), bA G aNl 480 nl, iA G aNn 40 nn, iA G aNt 3 nt]) (q0 := 4) C k_P_104 kc_N_slotOf (fun l sz => m_N_slotOf l G sz aN aNl aNn aNt nl nn aL aT ls la lk aTb tl tF (by omega) (hn) (hb)) rfl rfl (Nat.le_of_ble_eq_true rfl) (by decide) d_P_takeNewName_38 rfl rfl [4, 5, 6, 1, 2, 3] [0, 7] [0, 5, 6, 7, 2, 3, 4, 1] rfl rfl (by decide) (fun u => rfl) (fun r u h38 => ?_)
      obtain ⟨rr_38, rfl⟩ : ∃ z, z = u := ⟨_, rfl⟩
      obtain ⟨rfl, he_38⟩ := h38
      have he_38 : (0 ≤ rr_38 ∧ rr_38 < 40 ∧ isN nl nn tF ls la rr_38 ∧ ∀ s, 0 ≤ s → s < rr_38 → ¬ isN nl nn tF ls la s) ∨ (rr_38 = -1 ∧ ∀ s, 0 ≤ s → s < 40 → ¬ isN nl nn tF ls la s) := he_38
      show Zc G X 1 0 0 [(aV, .inr (4, [.ref aL, .ref aN, .ref aU, .int (iI vph), .int (iI vso), .int (iI vne), .int (iI vsl), .int (iI vst), .int (iI vpa), .int (iI vac)])), (aL, .inr (2, [.ref aT, .int (iI ls), .int (iI la), .int (iI lk)])), (aT, .inr (0, [.ref aTb, .int (iI tl)])), bA G aTb 4096 tF, (aN, .inr (3, [.ref aNl, .ref aNn, .ref aNt])), bA G aNl 480 nl, iA G aNn 40 nn, iA G aNt 3 nt] [(0, .ref aV)] 41 [.int (iI rr_38)]
      refine z_iconst C d_P_takeNewName_41 ?_
      have hf := NamR_find hN (by omega) he_38
      have hfr := fdI_rg (seg tF ls.toNat (la - ls).toNat) N
      refine z_icmp_eq (tgt := 47) C d_P_takeNewName_42 (by decide) (by omega) (by omega) (fun c42 => ?_) (fun c42 => ?_)
      ·
        have hfi : fdI (seg tF ls.toNat (la - ls).toNat) N = -1 := Decidable.byContradiction (fun z => by rw [if_neg z] at hf; have := NamR_slt hN (i := (fdI (seg tF ls.toNat (la - ls).toNat) N).toNat) (by omega); omega)
        have hsb := NamR_sbl hN hso (by omega)
        refine z_aload_n C d_P_takeNewName_47 0 rfl ?_
        refine z_get C f_P_15 d_P_takeNewName_48 0 rfl rfl ?_
        refine z_aload_n C d_P_takeNewName_51 0 rfl ?_
        refine z_get C f_P_90 d_P_takeNewName_52 0 rfl rfl ?_
        refine z_aload_n C d_P_takeNewName_55 0 rfl ?_
        refine z_get C f_P_9 d_P_takeNewName_56 0 rfl rfl ?_
        refine z_callv (As := [.int (iI vso), .ref aL]) (rest := []) (wr := [(aV, .inr (4, [.ref aL, .ref aN, .ref aU, .int (iI vph), .int (iI vso), .int (iI vne), .int (iI vsl), .int (iI vst), .int (iI vpa), .int (iI vac)]))]) (ws' := fun u => [(aV, .inr (4, [.ref aL, .ref aN, .ref aU, .int (iI vph), .int (iI vso), .int (iI vne), .int (iI vsl), .int (iI vst), .int (iI vpa), .int (iI vac)])), (aL, .inr (2, [.ref aT, .int (iI ls), .int (iI la), .int (iI lk)])), (aT, .inr (0, [.ref aTb, .int (iI tl)])), bA G aTb 4096 tF, (aN, .inr (3, [.ref aNl, .ref aNn, .ref aNt])), bA G aNl 480 u, iA G aNn 40 (uZ nn (sbl nt vso).toNat (la - ls)), iA G aNt 3 (uZ nt vso.toNat (nt vso.toNat + 1))]) (q0 := 4) C k_P_108 kc_N_tell (fun l sz => m_N_tell l G sz aN aNl aNn aNt nl nn nt aL aT ls la lk aTb tl tF vso (by omega) (hso) (hsb) (hb)) rfl rfl (Nat.le_of_ble_eq_true rfl) (by decide) d_P_takeNewName_59 rfl rfl [4, 5, 6, 7, 1, 2, 3] [0] [0, 5, 6, 7, 1, 2, 3, 4] rfl rfl (by decide) (fun u => rfl) (fun u h59 => ?_)
        obtain ⟨nl2_59, rfl⟩ : ∃ z, z = u := ⟨_, rfl⟩
        obtain ⟨ha_59, hb_59, hc_59⟩ := h59
        have ha_59 : ∀ j : Nat, (j : Int) < la - ls → nl2_59 (sbl nt vso * 12 + j).toNat = tF (ls + j).toNat := ha_59
        have hb_59 : ∀ j : Nat, ((j : Int) < sbl nt vso * 12 ∨ sbl nt vso * 12 + 12 ≤ j) → nl2_59 j = nl j := hb_59
        have hc_59 : byt nl2_59 := hc_59
        show Zc G X 1 0 0 [(aV, .inr (4, [.ref aL, .ref aN, .ref aU, .int (iI vph), .int (iI vso), .int (iI vne), .int (iI vsl), .int (iI vst), .int (iI vpa), .int (iI vac)])), (aL, .inr (2, [.ref aT, .int (iI ls), .int (iI la), .int (iI lk)])), (aT, .inr (0, [.ref aTb, .int (iI tl)])), bA G aTb 4096 tF, (aN, .inr (3, [.ref aNl, .ref aNn, .ref aNt])), bA G aNl 480 nl2_59, iA G aNn 40 (uZ nn (sbl nt vso).toNat (la - ls)), iA G aNt 3 (uZ nt vso.toNat (nt vso.toNat + 1))] [(0, .ref aV)] 62 []
        refine z_aload_n C d_P_takeNewName_62 0 rfl ?_
        refine z_iconst C d_P_takeNewName_63 ?_
        refine z_calli (As := [.int (iI 2)]) (rest := []) (wr := [(aL, .inr (2, [.ref aT, .int (iI ls), .int (iI la), .int (iI lk)])), (aT, .inr (0, [.ref aTb, .int (iI tl)])), bA G aTb 4096 tF, (aN, .inr (3, [.ref aNl, .ref aNn, .ref aNt])), bA G aNl 480 nl2_59, iA G aNn 40 (uZ nn (sbl nt vso).toNat (la - ls)), iA G aNt 3 (uZ nt vso.toNat (nt vso.toNat + 1))]) (ws' := fun u => [(aV, .inr (4, [.ref aL, .ref aN, .ref aU, .int (iI 2), .int (iI vso), .int (iI vne), .int (iI vsl), .int (iI vst), .int (iI vpa), .int (iI vac)])), (aL, .inr (2, [.ref aT, .int (iI ls), .int (iI la), .int (iI lk)])), (aT, .inr (0, [.ref aTb, .int (iI tl)])), bA G aTb 4096 tF, (aN, .inr (3, [.ref aNl, .ref aNn, .ref aNt])), bA G aNl 480 nl2_59, iA G aNn 40 (uZ nn (sbl nt vso).toNat (la - ls)), iA G aNt 3 (uZ nt vso.toNat (nt vso.toNat + 1))]) (q0 := 0) C k_P_65 kc_P_goOn (fun l sz => m_P_goOn l G sz aV aL aN aU vph vso vne vsl vst vpa vac 2 ) rfl rfl (Nat.le_of_ble_eq_true rfl) (by decide) d_P_takeNewName_64 rfl rfl [0] [1, 2, 3, 4, 5, 6, 7] [7, 0, 1, 2, 3, 4, 5, 6] rfl rfl (by decide) (fun u => rfl) (fun r u h64 => ?_)
        obtain rfl := h64
        show Zc G X 1 0 0 [(aV, .inr (4, [.ref aL, .ref aN, .ref aU, .int (iI 2), .int (iI vso), .int (iI vne), .int (iI vsl), .int (iI vst), .int (iI vpa), .int (iI vac)])), (aL, .inr (2, [.ref aT, .int (iI ls), .int (iI la), .int (iI lk)])), (aT, .inr (0, [.ref aTb, .int (iI tl)])), bA G aTb 4096 tF, (aN, .inr (3, [.ref aNl, .ref aNn, .ref aNt])), bA G aNl 480 nl2_59, iA G aNn 40 (uZ nn (sbl nt vso).toNat (la - ls)), iA G aNt 3 (uZ nt vso.toNat (nt vso.toNat + 1))] [(0, .ref aV)] 67 [.int (iI 0)]
        have hwl : ((seg tF ls.toNat (la - ls).toNat).length : Int) = la - ls := by rw [seg_len]; omega
        have hNN := NamR_tell (w := seg tF ls.toNat (la - ls).toNat) hN hso (by omega) (by omega) hfi (by rw [seg_len]; exact seg_congr _ _ _ (fun j hj => by have := ha_59 j (by omega); rw [show (sbl nt vso * 12).toNat + j = (sbl nt vso * 12 + j).toNat by omega, show ls.toNat + j = (ls + j).toNat by omega]; exact this)) hb_59
        rw [hwl] at hNN
        exact z_iret C K d_P_takeNewName_67 (rfl) (0, 2, nl2_59, uZ nn (sbl nt vso).toNat (la - ls), uZ nt vso.toNat (nt vso.toNat + 1)) (rfl) (show iI 0 = iI 0 ∧ (0 = if ¬ lk = 6 then 2 else if fuN N vso = 1 then 3 else if ¬ fdI (seg tF ls.toNat (la - ls).toNat) N = -1 then 4 else 0) ∧ (0 = 0 → 2 = 2 ∧ NamR nl2_59 (uZ nn (sbl nt vso).toNat (la - ls)) (uZ nt vso.toNat (nt vso.toNat + 1)) (N ++ [(vso, seg tF ls.toNat (la - ls).toNat)])) ∧ (¬ 0 = 0 → 2 = vph) ∧ (byt nl2_59 ∧ (∀ j, 0 ≤ (uZ nn (sbl nt vso).toNat (la - ls)) j ∧ (uZ nn (sbl nt vso).toNat (la - ls)) j ≤ 12) ∧ cnt (uZ nt vso.toNat (nt vso.toNat + 1))) from ⟨rfl, by rw [if_neg (by omega), if_neg (by omega), if_neg (fun z => z hfi)], fun _ => ⟨rfl, hNN⟩, fun z => absurd rfl z, ⟨hc_59, uZ_12 hn (by omega), hNN.2.2.1⟩⟩)
      ·
        have hfi : ¬ fdI (seg tF ls.toNat (la - ls).toNat) N = -1 := fun z => c42 (by rw [hf, if_pos z])
        refine z_iconst C d_P_takeNewName_45 ?_
        exact z_iret C K d_P_takeNewName_46 (rfl) (4, vph, nl, nn, nt) (rfl) (show iI 4 = iI 4 ∧ (4 = if ¬ lk = 6 then 2 else if fuN N vso = 1 then 3 else if ¬ fdI (seg tF ls.toNat (la - ls).toNat) N = -1 then 4 else 0) ∧ (4 = 0 → vph = 2 ∧ NamR nl nn nt (N ++ [(vso, seg tF ls.toNat (la - ls).toNat)])) ∧ (¬ 4 = 0 → vph = vph) ∧ (byt nl ∧ (∀ j, 0 ≤ nn j ∧ nn j ≤ 12) ∧ cnt nt) from ⟨rfl, by rw [if_neg (by omega), if_neg (by omega), if_pos hfi], fun z => absurd z (by decide), fun _ => rfl, ⟨hb.1, hn, hN.2.2.1⟩⟩)
    ·
      refine z_iconst C d_P_takeNewName_28 ?_
      exact z_iret C K d_P_takeNewName_29 (rfl) (3, vph, nl, nn, nt) (rfl) (show iI 3 = iI 3 ∧ (3 = if ¬ lk = 6 then 2 else if fuN N vso = 1 then 3 else if ¬ fdI (seg tF ls.toNat (la - ls).toNat) N = -1 then 4 else 0) ∧ (3 = 0 → vph = 2 ∧ NamR nl nn nt (N ++ [(vso, seg tF ls.toNat (la - ls).toNat)])) ∧ (¬ 3 = 0 → vph = vph) ∧ (byt nl ∧ (∀ j, 0 ≤ nn j ∧ nn j ≤ 12) ∧ cnt nt) from ⟨rfl, by rw [if_neg (by omega), if_pos (by omega)], fun z => absurd z (by decide), fun _ => rfl, ⟨hb.1, hn, hN.2.2.1⟩⟩)
  ·
    refine z_iconst C d_P_takeNewName_12 ?_
    exact z_iret C K d_P_takeNewName_13 (rfl) (2, vph, nl, nn, nt) (rfl) (show iI 2 = iI 2 ∧ (2 = if ¬ lk = 6 then 2 else if fuN N vso = 1 then 3 else if ¬ fdI (seg tF ls.toNat (la - ls).toNat) N = -1 then 4 else 0) ∧ (2 = 0 → vph = 2 ∧ NamR nl nn nt (N ++ [(vso, seg tF ls.toNat (la - ls).toNat)])) ∧ (¬ 2 = 0 → vph = vph) ∧ (byt nl ∧ (∀ j, 0 ≤ nn j ∧ nn j ≤ 12) ∧ cnt nt) from ⟨rfl, by rw [if_pos c9], fun z => absurd z (by decide), fun _ => rfl, ⟨hb.1, hn, hN.2.2.1⟩⟩)
