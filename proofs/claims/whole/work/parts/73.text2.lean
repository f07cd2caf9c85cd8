set_option maxHeartbeats 4000000 in
set_option maxRecDepth 100000 in
theorem m_X_feed (l : Launch) (hl : l.stackTraces = false) (G : GG) (sz : Nat) (aX : Nat) (aT : Nat) (aP : Nat) (aN : Nat) (aU : Nat) (aV : Nat) (aI : Nat) (aD : Nat) (xf : Int) (xp : Int) (aTb : Nat) (tl : Int) (tF : Nat → Int) (a : Int) (b : Int) (c : Int) (d : Int) (ht : 0 ≤ tl ∧ tl ≤ 4096) : MetX l G sz y_X_feed c_X_feed 5 (some .int) ({ frames := 6, cells := 1, slots := 6, locals := 82 } : Room) [.ref aX, .int (iI a), .int (iI b), .int (iI c), .int (iI d)] [(aX, .inr (7, [.ref aT, .ref aP, .ref aN, .ref aU, .ref aV, .ref aI, .ref aD, .int (iI xf), .int (iI xp)])), (aT, .inr (0, [.ref aTb, .int (iI tl)])), bA G aTb 4096 tF] (fun (r : Int32) (u : Int × Int × (Nat → Int)) => r = iI u.1 ∧ (¬ 4080 < tl ∧ u.1 = tl + 16 ∧ u.2.1 = tl + 16 ∧ u.2.2 = wr tF tl ([ush a 24, ush a 16, ush a 8, ush a 0] ++ ([ush b 24, ush b 16, ush b 8, ush b 0] ++ ([ush c 24, ush c 16, ush c 8, ush c 0] ++ [ush d 24, ush d 16, ush d 8, ush d 0]))))) (fun (Xn : String) (u : Int × Int × (Nat → Int)) => Xn = "java/lang/IllegalStateException" ∧ 4080 < tl ∧ u.2.1 = tl ∧ u.2.2 = tF) (fun (u : Int × Int × (Nat → Int)) => [(aX, .inr (7, [.ref aT, .ref aP, .ref aN, .ref aU, .ref aV, .ref aI, .ref aD, .int (iI xf), .int (iI xp)])), (aT, .inr (0, [.ref aTb, .int (iI u.2.1)])), bA G aTb 4096 u.2.2]) := by
  refine MetX.mk (by decide) (Nat.le_of_ble_eq_true rfl) hl (by decide) (fun X C Z K KT => ?_)
  show Zc G X 5 0 0 [(aX, .inr (7, [.ref aT, .ref aP, .ref aN, .ref aU, .ref aV, .ref aI, .ref aD, .int (iI xf), .int (iI xp)])), (aT, .inr (0, [.ref aTb, .int (iI tl)])), bA G aTb 4096 tF] [(0, .ref aX), (1, .int (iI a)), (2, .int (iI b)), (3, .int (iI c)), (4, .int (iI d))] 0 []
  refine z_aload_n C d_X_feed_0 0 rfl ?_
  refine z_get C f_X_14 d_X_feed_1 0 rfl rfl ?_
  refine z_get C f_X_74 d_X_feed_4 1 rfl rfl ?_
  refine z_sipush C d_X_feed_7 (by decide) ?_
  refine z_icmp_le (tgt := 23) C d_X_feed_10 (by decide) (by omega) (by omega) (fun c10 => ?_) (fun c10 => ?_)
  ·
    refine z_aload_n C d_X_feed_23 0 rfl ?_
    refine z_get C f_X_14 d_X_feed_24 0 rfl rfl ?_
    refine z_iload_n C d_X_feed_27 1 rfl ?_
    refine z_callv (As := [.int (iI a)]) (rest := []) (wr := [(aX, .inr (7, [.ref aT, .ref aP, .ref aN, .ref aU, .ref aV, .ref aI, .ref aD, .int (iI xf), .int (iI xp)]))]) (ws' := fun u => [(aX, .inr (7, [.ref aT, .ref aP, .ref aN, .ref aU, .ref aV, .ref aI, .ref aD, .int (iI xf), .int (iI xp)])), (aT, .inr (0, [.ref aTb, .int (iI (tl + 4))])), bA G aTb 4096 (wr tF tl [ush a 24, ush a 16, ush a 8, ush a 0])]) (q0 := 1) C k_X_84 kc_B_addInt (fun l sz => m_B_addInt l G sz aT aTb 4096 tl tF a (by omega)) rfl rfl (Nat.le_of_ble_eq_true rfl) (by decide) d_X_feed_28 rfl rfl [1, 2] [0] [0, 1, 2] rfl rfl (by decide) (fun u => rfl) (fun u h28 => ?_)
    show Zc G X 5 0 0 [(aX, .inr (7, [.ref aT, .ref aP, .ref aN, .ref aU, .ref aV, .ref aI, .ref aD, .int (iI xf), .int (iI xp)])), (aT, .inr (0, [.ref aTb, .int (iI (tl + 4))])), bA G aTb 4096 (wr tF tl [ush a 24, ush a 16, ush a 8, ush a 0])] [(0, .ref aX), (1, .int (iI a)), (2, .int (iI b)), (3, .int (iI c)), (4, .int (iI d))] 31 []
    refine z_aload_n C d_X_feed_31 0 rfl ?_
    refine z_get C f_X_14 d_X_feed_32 0 rfl rfl ?_
    refine z_iload_n C d_X_feed_35 2 rfl ?_
    refine z_callv (As := [.int (iI b)]) (rest := []) (wr := [(aX, .inr (7, [.ref aT, .ref aP, .ref aN, .ref aU, .ref aV, .ref aI, .ref aD, .int (iI xf), .int (iI xp)]))]) (ws' := fun u => [(aX, .inr (7, [.ref aT, .ref aP, .ref aN, .ref aU, .ref aV, .ref aI, .ref aD, .int (iI xf), .int (iI xp)])), (aT, .inr (0, [.ref aTb, .int (iI ((tl + 4) + 4))])), bA G aTb 4096 (wr (wr tF tl [ush a 24, ush a 16, ush a 8, ush a 0]) (tl + 4) [ush b 24, ush b 16, ush b 8, ush b 0])]) (q0 := 1) C k_X_84 kc_B_addInt (fun l sz => m_B_addInt l G sz aT aTb 4096 (tl + 4) (wr tF tl [ush a 24, ush a 16, ush a 8, ush a 0]) b (by omega)) rfl rfl (Nat.le_of_ble_eq_true rfl) (by decide) d_X_feed_36 rfl rfl [1, 2] [0] [0, 1, 2] rfl rfl (by decide) (fun u => rfl) (fun u h36 => ?_)
    show Zc G X 5 0 0 [(aX, .inr (7, [.ref aT, .ref aP, .ref aN, .ref aU, .ref aV, .ref aI, .ref aD, .int (iI xf), .int (iI xp)])), (aT, .inr (0, [.ref aTb, .int (iI ((tl + 4) + 4))])), bA G aTb 4096 (wr (wr tF tl [ush a 24, ush a 16, ush a 8, ush a 0]) (tl + 4) [ush b 24, ush b 16, ush b 8, ush b 0])] [(0, .ref aX), (1, .int (iI a)), (2, .int (iI b)), (3, .int (iI c)), (4, .int (iI d))] 39 []
    refine z_aload_n C d_X_feed_39 0 rfl ?_
    refine z_get C f_X_14 d_X_feed_40 0 rfl rfl ?_
    refine z_iload_n C d_X_feed_43 3 rfl ?_
    refine z_callv (As := [.int (iI c)]) (rest := []) (wr := [(aX, .inr (7, [.ref aT, .ref aP, .ref aN, .ref aU, .ref aV, .ref aI, .ref aD, .int (iI xf), .int (iI xp)]))]) (ws' := fun u => [(aX, .inr (7, [.ref aT, .ref aP, .ref aN, .ref aU, .ref aV, .ref aI, .ref aD, .int (iI xf), .int (iI xp)])), (aT, .inr (0, [.ref aTb, .int (iI (((tl + 4) + 4) + 4))])), bA G aTb 4096 (wr (wr (wr tF tl [ush a 24, ush a 16, ush a 8, ush a 0]) (tl + 4) [ush b 24, ush b 16, ush b 8, ush b 0]) ((tl + 4) + 4) [ush c 24, ush c 16, ush c 8, ush c 0])]) (q0 := 1) C k_X_84 kc_B_addInt (fun l sz => m_B_addInt l G sz aT aTb 4096 ((tl + 4) + 4) (wr (wr tF tl [ush a 24, ush a 16, ush a 8, ush a 0]) (tl + 4) [ush b 24, ush b 16, ush b 8, ush b 0]) c (by omega)) rfl rfl (Nat.le_of_ble_eq_true rfl) (by decide) d_X_feed_44 rfl rfl [1, 2] [0] [0, 1, 2] rfl rfl (by decide) (fun u => rfl) (fun u h44 => ?_)
    show Zc G X 5 0 0 [(aX, .inr (7, [.ref aT, .ref aP, .ref aN, .ref aU, .ref aV, .ref aI, .ref aD, .int (iI xf), .int (iI xp)])), (aT, .inr (0, [.ref aTb, .int (iI (((tl + 4) + 4) + 4))])), bA G aTb 4096 (wr (wr (wr tF tl [ush a 24, ush a 16, ush a 8, ush a 0]) (tl + 4) [ush b 24, ush b 16, ush b 8, ush b 0]) ((tl + 4) + 4) [ush c 24, ush c 16, ush c 8, ush c 0])] [(0, .ref aX), (1, .int (iI a)), (2, .int (iI b)), (3, .int (iI c)), (4, .int (iI d))] 47 []
    refine z_aload_n C d_X_feed_47 0 rfl ?_
    refine z_get C f_X_14 d_X_feed_48 0 rfl rfl ?_
    refine z_iload C d_X_feed_51 4 rfl ?_
    refine z_callv (As := [.int (iI d)]) (rest := []) (wr := [(aX, .inr (7, [.ref aT, .ref aP, .ref aN, .ref aU, .ref aV, .ref aI, .ref aD, .int (iI xf), .int (iI xp)]))]) (ws' := fun u => [(aX, .inr (7, [.ref aT, .ref aP, .ref aN, .ref aU, .ref aV, .ref aI, .ref aD, .int (iI xf), .int (iI xp)])), (aT, .inr (0, [.ref aTb, .int (iI ((((tl + 4) + 4) + 4) + 4))])), bA G aTb 4096 (wr (wr (wr (wr tF tl [ush a 24, ush a 16, ush a 8, ush a 0]) (tl + 4) [ush b 24, ush b 16, ush b 8, ush b 0]) ((tl + 4) + 4) [ush c 24, ush c 16, ush c 8, ush c 0]) (((tl + 4) + 4) + 4) [ush d 24, ush d 16, ush d 8, ush d 0])]) (q0 := 1) C k_X_84 kc_B_addInt (fun l sz => m_B_addInt l G sz aT aTb 4096 (((tl + 4) + 4) + 4) (wr (wr (wr tF tl [ush a 24, ush a 16, ush a 8, ush a 0]) (tl + 4) [ush b 24, ush b 16, ush b 8, ush b 0]) ((tl + 4) + 4) [ush c 24, ush c 16, ush c 8, ush c 0]) d (by omega)) rfl rfl (Nat.le_of_ble_eq_true rfl) (by decide) d_X_feed_53 rfl rfl [1, 2] [0] [0, 1, 2] rfl rfl (by decide) (fun u => rfl) (fun u h53 => ?_)
    show Zc G X 5 0 0 [(aX, .inr (7, [.ref aT, .ref aP, .ref aN, .ref aU, .ref aV, .ref aI, .ref aD, .int (iI xf), .int (iI xp)])), (aT, .inr (0, [.ref aTb, .int (iI ((((tl + 4) + 4) + 4) + 4))])), bA G aTb 4096 (wr (wr (wr (wr tF tl [ush a 24, ush a 16, ush a 8, ush a 0]) (tl + 4) [ush b 24, ush b 16, ush b 8, ush b 0]) ((tl + 4) + 4) [ush c 24, ush c 16, ush c 8, ush c 0]) (((tl + 4) + 4) + 4) [ush d 24, ush d 16, ush d 8, ush d 0])] [(0, .ref aX), (1, .int (iI a)), (2, .int (iI b)), (3, .int (iI c)), (4, .int (iI d))] 56 []
    refine z_aload_n C d_X_feed_56 0 rfl ?_
    refine z_get C f_X_14 d_X_feed_57 0 rfl rfl ?_
    refine z_get C f_X_74 d_X_feed_60 1 rfl rfl ?_
    exact z_iret C K d_X_feed_63 (rfl) (tl + 16, tl + 16, wr tF tl ([ush a 24, ush a 16, ush a 8, ush a 0] ++ ([ush b 24, ush b 16, ush b 8, ush b 0] ++ ([ush c 24, ush c 16, ush c 8, ush c 0] ++ [ush d 24, ush d 16, ush d 8, ush d 0])))) (by rw [wr_app, wr_app, wr_app, show tl + 4 + 4 + 4 + 4 = tl + 16 by omega]; rfl) (show iI ((((tl + 4) + 4) + 4) + 4) = iI (tl + 16) ∧ (¬ 4080 < tl ∧ (tl + 16) = tl + 16 ∧ (tl + 16) = tl + 16 ∧ (wr tF tl ([ush a 24, ush a 16, ush a 8, ush a 0] ++ ([ush b 24, ush b 16, ush b 8, ush b 0] ++ ([ush c 24, ush c 16, ush c 8, ush c 0] ++ [ush d 24, ush d 16, ush d 8, ush d 0])))) = wr tF tl ([ush a 24, ush a 16, ush a 8, ush a 0] ++ ([ush b 24, ush b 16, ush b 8, ush b 0] ++ ([ush c 24, ush c 16, ush c 8, ush c 0] ++ [ush d 24, ush d 16, ush d 8, ush d 0])))) from ⟨congrArg iI (by omega), by omega, rfl, rfl, rfl⟩)
  ·
    exact z_throw (i := 12) C Z KT tx_atS tx_kS tx_iS tx_nS (by decide +kernel) rfl d_X_feed_13 d_X_feed_16 d_X_feed_17 d_X_feed_19 d_X_feed_22 (by decide) (0, tl, tF) (rfl) (show ("java/lang/IllegalStateException") = "java/lang/IllegalStateException" ∧ 4080 < tl ∧ tl = tl ∧ tF = tF from ⟨rfl, by omega, rfl, rfl⟩)
set_option maxHeartbeats 4000000 in
set_option maxRecDepth 100000 in
theorem m_X_end (l : Launch) (hl : l.stackTraces = false) (G : GG) (sz : Nat) (aX : Nat) (aT : Nat) (aP : Nat) (aN : Nat) (aU : Nat) (aV : Nat) (aI : Nat) (aD : Nat) (xf : Int) (xp : Int) (aTb : Nat) (tl : Int) (w : Int) (ht : 0 ≤ tl ∧ tl ≤ 4096) (h1 : -2147483648 ≤ w ∧ w ≤ 2147483647) : MetX l G sz y_X_end c_X_end 2 (some .int) ({ frames := 6, cells := 1, slots := 6, locals := 82 } : Room) [.ref aX, .int (iI w)] [(aX, .inr (7, [.ref aT, .ref aP, .ref aN, .ref aU, .ref aV, .ref aI, .ref aD, .int (iI xf), .int (iI xp)])), (aT, .inr (0, [.ref aTb, .int (iI tl)]))] (fun (r : Int32) (u : Int × Int) => r = iI u.1 ∧ ((0 ≤ w ∧ w ≤ 16) ∧ 16 ≤ tl ∧ u.1 = tl - 16 + w ∧ u.2 = tl - 16 + w)) (fun (Xn : String) (u : Int × Int) => (Xn = "java/lang/IllegalArgumentException" ∧ ¬ (0 ≤ w ∧ w ≤ 16) ∧ u.2 = tl) ∨ (Xn = "java/lang/IllegalStateException" ∧ (0 ≤ w ∧ w ≤ 16) ∧ tl < 16 ∧ u.2 = tl)) (fun (u : Int × Int) => [(aX, .inr (7, [.ref aT, .ref aP, .ref aN, .ref aU, .ref aV, .ref aI, .ref aD, .int (iI xf), .int (iI xp)])), (aT, .inr (0, [.ref aTb, .int (iI u.2)]))]) := by
  refine MetX.mk (by decide) (Nat.le_of_ble_eq_true rfl) hl (by decide) (fun X C Z K KT => ?_)
  show Zc G X 2 0 0 [(aX, .inr (7, [.ref aT, .ref aP, .ref aN, .ref aU, .ref aV, .ref aI, .ref aD, .int (iI xf), .int (iI xp)])), (aT, .inr (0, [.ref aTb, .int (iI tl)]))] [(0, .ref aX), (1, .int (iI w))] 0 []
  refine z_iload_n C d_X_end_0 1 rfl ?_
  refine z_if_lt (tgt := 10) C d_X_end_1 (by decide) (by omega) (fun c1 => ?_) (fun c1 => ?_)
  ·
    exact z_throw (i := 13) C Z KT tx_atA tx_kA tx_iA tx_nA (by decide +kernel) rfl d_X_end_10 d_X_end_13 d_X_end_14 d_X_end_16 d_X_end_19 (by decide) (0, tl) (rfl) (show (("java/lang/IllegalArgumentException") = "java/lang/IllegalArgumentException" ∧ ¬ (0 ≤ w ∧ w ≤ 16) ∧ tl = tl) ∨ (("java/lang/IllegalArgumentException") = "java/lang/IllegalStateException" ∧ (0 ≤ w ∧ w ≤ 16) ∧ tl < 16 ∧ tl = tl) from Or.inl ⟨rfl, by omega, rfl⟩)
  ·
    refine z_iload_n C d_X_end_4 1 rfl ?_
    refine z_bipush C d_X_end_5 (by decide) ?_
    refine z_icmp_le (tgt := 20) C d_X_end_7 (by decide) (by omega) (by omega) (fun c7 => ?_) (fun c7 => ?_)
    ·
      refine z_aload_n C d_X_end_20 0 rfl ?_
      refine z_get C f_X_14 d_X_end_21 0 rfl rfl ?_
      refine z_get C f_X_74 d_X_end_24 1 rfl rfl ?_
      refine z_bipush C d_X_end_27 (by decide) ?_
      refine z_icmp_ge (tgt := 42) C d_X_end_29 (by decide) (by omega) (by omega) (fun c29 => ?_) (fun c29 => ?_)
      ·
        refine z_aload_n C d_X_end_42 0 rfl ?_
        refine z_get C f_X_14 d_X_end_43 0 rfl rfl ?_
        refine z_aload_n C d_X_end_46 0 rfl ?_
        refine z_get C f_X_14 d_X_end_47 0 rfl rfl ?_
        refine z_get C f_X_74 d_X_end_50 1 rfl rfl ?_
        refine z_bipush C d_X_end_53 (by decide) ?_
        refine z_isub C d_X_end_55 ?_
        refine z_iload_n C d_X_end_56 1 rfl ?_
        refine z_iadd C d_X_end_57 ?_
        refine z_put C f_X_74 ok_B nm_B d_X_end_58 1 rfl rfl rfl rfl (Nat.le_of_ble_eq_true rfl) [(aX, .inr (7, [.ref aT, .ref aP, .ref aN, .ref aU, .ref aV, .ref aI, .ref aD, .int (iI xf), .int (iI xp)])), (aT, .inr (0, [.ref aTb, .int (iI ((tl - 16) + w))]))] rfl ?_
        refine z_aload_n C d_X_end_61 0 rfl ?_
        refine z_get C f_X_14 d_X_end_62 0 rfl rfl ?_
        refine z_get C f_X_74 d_X_end_65 1 rfl rfl ?_
        exact z_iret C K d_X_end_68 (rfl) (tl - 16 + w, tl - 16 + w) (rfl) (show iI ((tl - 16) + w) = iI (tl - 16 + w) ∧ ((0 ≤ w ∧ w ≤ 16) ∧ 16 ≤ tl ∧ (tl - 16 + w) = tl - 16 + w ∧ (tl - 16 + w) = tl - 16 + w) from ⟨rfl, by omega, by omega, rfl, rfl⟩)
      ·
        exact z_throw (i := 14) C Z KT tx_atS tx_kS tx_iS tx_nS (by decide +kernel) rfl d_X_end_32 d_X_end_35 d_X_end_36 d_X_end_38 d_X_end_41 (by decide) (0, tl) (rfl) (show (("java/lang/IllegalStateException") = "java/lang/IllegalArgumentException" ∧ ¬ (0 ≤ w ∧ w ≤ 16) ∧ tl = tl) ∨ (("java/lang/IllegalStateException") = "java/lang/IllegalStateException" ∧ (0 ≤ w ∧ w ≤ 16) ∧ tl < 16 ∧ tl = tl) from Or.inr ⟨rfl, by omega, by omega, rfl⟩)
    ·
      exact z_throw (i := 13) C Z KT tx_atA tx_kA tx_iA tx_nA (by decide +kernel) rfl d_X_end_10 d_X_end_13 d_X_end_14 d_X_end_16 d_X_end_19 (by decide) (0, tl) (rfl) (show (("java/lang/IllegalArgumentException") = "java/lang/IllegalArgumentException" ∧ ¬ (0 ≤ w ∧ w ≤ 16) ∧ tl = tl) ∨ (("java/lang/IllegalArgumentException") = "java/lang/IllegalStateException" ∧ (0 ≤ w ∧ w ≤ 16) ∧ tl < 16 ∧ tl = tl) from Or.inl ⟨rfl, by omega, rfl⟩)
set_option maxHeartbeats 4000000 in
set_option maxRecDepth 100000 in
theorem m_X_fault (l : Launch) (hl : l.stackTraces = false) (G : GG) (sz : Nat) (aX : Nat) (aT : Nat) (aP : Nat) (aN : Nat) (aU : Nat) (aV : Nat) (aI : Nat) (aD : Nat) (xf : Int) (xp : Int) (w : Int) (h1 : -2147483648 ≤ w ∧ w ≤ 2147483647) : MetX l G sz y_X_fault c_X_fault 2 (some .int) ({ frames := 6, cells := 1, slots := 6, locals := 82 } : Room) [.ref aX, .int (iI w)] [(aX, .inr (7, [.ref aT, .ref aP, .ref aN, .ref aU, .ref aV, .ref aI, .ref aD, .int (iI xf), .int (iI xp)]))] (fun (r : Int32) (u : Int) => r = iI u ∧ ((w = 0 ∧ u = xf) ∨ (w = 1 ∧ u = xp))) (fun (Xn : String) (u : Int) => Xn = "java/lang/IndexOutOfBoundsException" ∧ ¬ w = 0 ∧ ¬ w = 1) (fun (u : Int) => [(aX, .inr (7, [.ref aT, .ref aP, .ref aN, .ref aU, .ref aV, .ref aI, .ref aD, .int (iI xf), .int (iI xp)]))]) := by
  refine MetX.mk (by decide) (Nat.le_of_ble_eq_true rfl) hl (by decide) (fun X C Z K KT => ?_)
  show Zc G X 2 0 0 [(aX, .inr (7, [.ref aT, .ref aP, .ref aN, .ref aU, .ref aV, .ref aI, .ref aD, .int (iI xf), .int (iI xp)]))] [(0, .ref aX), (1, .int (iI w))] 0 []
  refine z_iload_n C d_X_fault_0 1 rfl ?_
  refine z_if_eq (tgt := 19) C d_X_fault_1 (by decide) (by omega) (fun c1 => ?_) (fun c1 => ?_)
  ·
    refine z_iload_n C d_X_fault_19 1 rfl ?_
    refine z_if_ne (tgt := 30) C d_X_fault_20 (by decide) (by omega) (fun c20 => ?_) (fun c20 => ?_)
    · exact absurd c20 (by omega)
    ·
      refine z_aload_n C d_X_fault_23 0 rfl ?_
      refine z_get C f_X_67 d_X_fault_24 0 rfl rfl ?_
      refine z_goto (tgt := 34) C d_X_fault_27 (by decide) ?_
      exact z_iret C K d_X_fault_34 (rfl) xf (rfl) (show iI xf = iI xf ∧ ((w = 0 ∧ xf = xf) ∨ (w = 1 ∧ xf = xp)) from ⟨rfl, Or.inl ⟨by omega, rfl⟩⟩)
  ·
    refine z_iload_n C d_X_fault_4 1 rfl ?_
    refine z_iconst C d_X_fault_5 ?_
    refine z_icmp_eq (tgt := 19) C d_X_fault_6 (by decide) (by omega) (by omega) (fun c6 => ?_) (fun c6 => ?_)
    ·
      refine z_iload_n C d_X_fault_19 1 rfl ?_
      refine z_if_ne (tgt := 30) C d_X_fault_20 (by decide) (by omega) (fun c20 => ?_) (fun c20 => ?_)
      ·
        refine z_aload_n C d_X_fault_30 0 rfl ?_
        refine z_get C f_X_71 d_X_fault_31 0 rfl rfl ?_
        exact z_iret C K d_X_fault_34 (rfl) xp (rfl) (show iI xp = iI xp ∧ ((w = 0 ∧ xp = xf) ∨ (w = 1 ∧ xp = xp)) from ⟨rfl, Or.inr ⟨by omega, rfl⟩⟩)
      · exact absurd c20 (by omega)
    ·
      exact z_throw (i := 25) C Z KT tx_atI tx_kI tx_iI tx_nI (by decide +kernel) rfl d_X_fault_9 d_X_fault_12 d_X_fault_13 d_X_fault_15 d_X_fault_18 (by decide) 0 (rfl) (show ("java/lang/IndexOutOfBoundsException") = "java/lang/IndexOutOfBoundsException" ∧ ¬ w = 0 ∧ ¬ w = 1 from ⟨rfl, by omega, by omega⟩)
set_option maxHeartbeats 4000000 in
set_option maxRecDepth 100000 in
theorem m_X_next (l : Launch) (hl : l.stackTraces = false) (G : GG) (sz : Nat) (aX : Nat) (aT : Nat) (aP : Nat) (aN : Nat) (aU : Nat) (aV : Nat) (aI : Nat) (aD : Nat) (xf : Int) (xp : Int) (aUg : Nat) (aUd : Nat) (aUa : Nat) (ur : Int) (uv : Int) (uf : Int) (aNl : Nat) (aNn : Nat) (aNt : Nat) (nt : Nat → Int) (ug : Nat → Int) (s : Int) (e : Int) (hc : cnt nt) (h1 : -2147483648 ≤ s ∧ s ≤ 2147483647 ∧ -2147483648 ≤ e ∧ e ≤ 2147483647) : MetX l G sz y_X_next c_X_next 4 (some .int) ({ frames := 6, cells := 1, slots := 6, locals := 82 } : Room) [.ref aX, .int (iI s), .int (iI e)] [(aX, .inr (7, [.ref aT, .ref aP, .ref aN, .ref aU, .ref aV, .ref aI, .ref aD, .int (iI xf), .int (iI xp)])), (aU, .inr (6, [.ref aUg, .ref aUd, .int (iI ur), .int (iI uv), .int (iI uf), .ref aN, .ref aUa])), (aN, .inr (3, [.ref aNl, .ref aNn, .ref aNt])), iA G aNt 3 nt, iA G aUg 384 ug] (fun (r : Int32) (u : Int) => r = iI u ∧ ((0 ≤ s ∧ s < nt 0 ∧ 0 ≤ e ∧ e < nt 1 + nt 2) ∧ u = ug (prf nt s e).toNat)) (fun (Xn : String) (u : Int) => Xn = "java/lang/IndexOutOfBoundsException" ∧ ¬ (0 ≤ s ∧ s < nt 0 ∧ 0 ≤ e ∧ e < nt 1 + nt 2)) (fun (u : Int) => [(aX, .inr (7, [.ref aT, .ref aP, .ref aN, .ref aU, .ref aV, .ref aI, .ref aD, .int (iI xf), .int (iI xp)])), (aU, .inr (6, [.ref aUg, .ref aUd, .int (iI ur), .int (iI uv), .int (iI uf), .ref aN, .ref aUa])), (aN, .inr (3, [.ref aNl, .ref aNn, .ref aNt])), iA G aNt 3 nt, iA G aUg 384 ug]) := by
  refine MetX.mk (by decide) (Nat.le_of_ble_eq_true rfl) hl (by decide) (fun X C Z K KT => ?_)
  show Zc G X 4 0 0 [(aX, .inr (7, [.ref aT, .ref aP, .ref aN, .ref aU, .ref aV, .ref aI, .ref aD, .int (iI xf), .int (iI xp)])), (aU, .inr (6, [.ref aUg, .ref aUd, .int (iI ur), .int (iI uv), .int (iI uf), .ref aN, .ref aUa])), (aN, .inr (3, [.ref aNl, .ref aNn, .ref aNt])), iA G aNt 3 nt, iA G aUg 384 ug] [(0, .ref aX), (1, .int (iI s)), (2, .int (iI e))] 0 []
  have hcc := hc
  unfold cnt at hcc
  refine z_aload_n C d_X_next_0 0 rfl ?_
  refine z_get C f_X_33 d_X_next_1 0 rfl rfl ?_
  refine z_iload_n C d_X_next_4 1 rfl ?_
  refine z_iload_n C d_X_next_5 2 rfl ?_
  refine z_calli (As := [.int (iI s), .int (iI e)]) (rest := []) (wr := [(aX, .inr (7, [.ref aT, .ref aP, .ref aN, .ref aU, .ref aV, .ref aI, .ref aD, .int (iI xf), .int (iI xp)])), iA G aUg 384 ug]) (ws' := fun u => [(aX, .inr (7, [.ref aT, .ref aP, .ref aN, .ref aU, .ref aV, .ref aI, .ref aD, .int (iI xf), .int (iI xp)])), (aU, .inr (6, [.ref aUg, .ref aUd, .int (iI ur), .int (iI uv), .int (iI uf), .ref aN, .ref aUa])), (aN, .inr (3, [.ref aNl, .ref aNn, .ref aNt])), iA G aNt 3 nt, iA G aUg 384 ug]) (q0 := 1) C k_X_119 kc_T_pairOf (fun l sz => m_T_pairOf l G sz aU aUg aUd aUa ur uv uf aN aNl aNn aNt nt s e (hc) (h1)) rfl rfl (Nat.le_of_ble_eq_true rfl) (by decide) d_X_next_6 rfl rfl [1, 2, 3] [0, 4] [0, 2, 3, 4, 1] rfl rfl (by decide) (fun u => rfl) (fun r u h6 => ?_)
  obtain rfl := h6
  show Zc G X 4 0 0 [(aX, .inr (7, [.ref aT, .ref aP, .ref aN, .ref aU, .ref aV, .ref aI, .ref aD, .int (iI xf), .int (iI xp)])), (aU, .inr (6, [.ref aUg, .ref aUd, .int (iI ur), .int (iI uv), .int (iI uf), .ref aN, .ref aUa])), (aN, .inr (3, [.ref aNl, .ref aNn, .ref aNt])), iA G aNt 3 nt, iA G aUg 384 ug] [(0, .ref aX), (1, .int (iI s)), (2, .int (iI e))] 9 [.int (iI (prf nt s e))]
  have hpn : prf nt s e = -1 → ¬ (0 ≤ s ∧ s < nt 0 ∧ 0 ≤ e ∧ e < nt 1 + nt 2) := fun z y => by have := prf_rg hc y; omega
  have hpv : ¬ prf nt s e = -1 → 0 ≤ s ∧ s < nt 0 ∧ 0 ≤ e ∧ e < nt 1 + nt 2 := fun z => Decidable.byContradiction (fun y => z (if_neg y))
  have hpb : -1 ≤ prf nt s e ∧ prf nt s e < 384 := if y : 0 ≤ s ∧ s < nt 0 ∧ 0 ≤ e ∧ e < nt 1 + nt 2 then (by have := prf_rg hc y; omega) else (by unfold prf; rw [if_neg y]; omega)
  refine z_istore_n (lv' := [(3, .int (iI (prf nt s e))), (0, .ref aX), (1, .int (iI s)), (2, .int (iI e))]) C d_X_next_9 (by decide) rfl ?_
  refine z_iload_n C d_X_next_10 0 rfl ?_
  refine z_iconst C d_X_next_11 ?_
  refine z_icmp_ne (tgt := 25) C d_X_next_12 (by decide) (by omega) (by omega) (fun c12 => ?_) (fun c12 => ?_)
  ·
    have hv := hpv (by omega)
    have hpr := prf_rg hc hv
    refine z_aload_n C d_X_next_25 1 rfl ?_
    refine z_get C f_X_33 d_X_next_26 0 rfl rfl ?_
    refine z_get C f_X_125 d_X_next_29 1 rfl rfl ?_
    refine z_iload_n C d_X_next_32 0 rfl ?_
    refine z_iald C d_X_next_33 4 rfl (by omega) ?_
    exact z_iret C K d_X_next_34 (rfl) (ug (prf nt s e).toNat) (rfl) (show iI (ug ((prf nt s e).toNat)) = iI (ug (prf nt s e).toNat) ∧ ((0 ≤ s ∧ s < nt 0 ∧ 0 ≤ e ∧ e < nt 1 + nt 2) ∧ (ug (prf nt s e).toNat) = ug (prf nt s e).toNat) from ⟨rfl, hv, rfl⟩)
  ·
    exact z_throw (i := 26) C Z KT tx_atI tx_kI tx_iI tx_nI (by decide +kernel) rfl d_X_next_15 d_X_next_18 d_X_next_19 d_X_next_21 d_X_next_24 (by decide) 0 (rfl) (show ("java/lang/IndexOutOfBoundsException") = "java/lang/IndexOutOfBoundsException" ∧ ¬ (0 ≤ s ∧ s < nt 0 ∧ 0 ≤ e ∧ e < nt 1 + nt 2) from ⟨rfl, hpn (by omega)⟩)
set_option maxHeartbeats 4000000 in
set_option maxRecDepth 100000 in
theorem m_X_action (l : Launch) (hl : l.stackTraces = false) (G : GG) (sz : Nat) (aX : Nat) (aT : Nat) (aP : Nat) (aN : Nat) (aU : Nat) (aV : Nat) (aI : Nat) (aD : Nat) (xf : Int) (xp : Int) (aUg : Nat) (aUd : Nat) (aUa : Nat) (ur : Int) (uv : Int) (uf : Int) (aNl : Nat) (aNn : Nat) (aNt : Nat) (nt : Nat → Int) (ug : Nat → Int) (ua : Nat → Int) (s : Int) (e : Int) (j : Int) (hc : cnt nt) (h1 : -2147483648 ≤ s ∧ s ≤ 2147483647 ∧ -2147483648 ≤ e ∧ e ≤ 2147483647 ∧ -2147483648 ≤ j ∧ j ≤ 2147483647) : MetX l G sz y_X_action c_X_action 5 (some .int) ({ frames := 6, cells := 1, slots := 6, locals := 82 } : Room) [.ref aX, .int (iI s), .int (iI e), .int (iI j)] [(aX, .inr (7, [.ref aT, .ref aP, .ref aN, .ref aU, .ref aV, .ref aI, .ref aD, .int (iI xf), .int (iI xp)])), (aU, .inr (6, [.ref aUg, .ref aUd, .int (iI ur), .int (iI uv), .int (iI uf), .ref aN, .ref aUa])), (aN, .inr (3, [.ref aNl, .ref aNn, .ref aNt])), iA G aNt 3 nt, iA G aUg 384 ug, iA G aUa 1536 ua] (fun (r : Int32) (u : Int) => r = iI u ∧ (((0 ≤ s ∧ s < nt 0 ∧ 0 ≤ e ∧ e < nt 1 + nt 2) ∧ 0 ≤ j) ∧ u = aco ua (prf nt s e) j)) (fun (Xn : String) (u : Int) => Xn = "java/lang/IndexOutOfBoundsException" ∧ ¬ ((0 ≤ s ∧ s < nt 0 ∧ 0 ≤ e ∧ e < nt 1 + nt 2) ∧ 0 ≤ j)) (fun (u : Int) => [(aX, .inr (7, [.ref aT, .ref aP, .ref aN, .ref aU, .ref aV, .ref aI, .ref aD, .int (iI xf), .int (iI xp)])), (aU, .inr (6, [.ref aUg, .ref aUd, .int (iI ur), .int (iI uv), .int (iI uf), .ref aN, .ref aUa])), (aN, .inr (3, [.ref aNl, .ref aNn, .ref aNt])), iA G aNt 3 nt, iA G aUg 384 ug, iA G aUa 1536 ua]) := by
  refine MetX.mk (by decide) (Nat.le_of_ble_eq_true rfl) hl (by decide) (fun X C Z K KT => ?_)
  show Zc G X 5 0 0 [(aX, .inr (7, [.ref aT, .ref aP, .ref aN, .ref aU, .ref aV, .ref aI, .ref aD, .int (iI xf), .int (iI xp)])), (aU, .inr (6, [.ref aUg, .ref aUd, .int (iI ur), .int (iI uv), .int (iI uf), .ref aN, .ref aUa])), (aN, .inr (3, [.ref aNl, .ref aNn, .ref aNt])), iA G aNt 3 nt, iA G aUg 384 ug, iA G aUa 1536 ua] [(0, .ref aX), (1, .int (iI s)), (2, .int (iI e)), (3, .int (iI j))] 0 []
  have hcc := hc
  unfold cnt at hcc
  refine z_aload_n C d_X_action_0 0 rfl ?_
  refine z_get C f_X_33 d_X_action_1 0 rfl rfl ?_
  refine z_iload_n C d_X_action_4 1 rfl ?_
  refine z_iload_n C d_X_action_5 2 rfl ?_
  refine z_calli (As := [.int (iI s), .int (iI e)]) (rest := []) (wr := [(aX, .inr (7, [.ref aT, .ref aP, .ref aN, .ref aU, .ref aV, .ref aI, .ref aD, .int (iI xf), .int (iI xp)])), iA G aUg 384 ug, iA G aUa 1536 ua]) (ws' := fun u => [(aX, .inr (7, [.ref aT, .ref aP, .ref aN, .ref aU, .ref aV, .ref aI, .ref aD, .int (iI xf), .int (iI xp)])), (aU, .inr (6, [.ref aUg, .ref aUd, .int (iI ur), .int (iI uv), .int (iI uf), .ref aN, .ref aUa])), (aN, .inr (3, [.ref aNl, .ref aNn, .ref aNt])), iA G aNt 3 nt, iA G aUg 384 ug, iA G aUa 1536 ua]) (q0 := 1) C k_X_119 kc_T_pairOf (fun l sz => m_T_pairOf l G sz aU aUg aUd aUa ur uv uf aN aNl aNn aNt nt s e (hc) (by omega)) rfl rfl (Nat.le_of_ble_eq_true rfl) (by decide) d_X_action_6 rfl rfl [1, 2, 3] [0, 4, 5] [0, 3, 4, 5, 1, 2] rfl rfl (by decide) (fun u => rfl) (fun r u h6 => ?_)
  obtain rfl := h6
  show Zc G X 5 0 0 [(aX, .inr (7, [.ref aT, .ref aP, .ref aN, .ref aU, .ref aV, .ref aI, .ref aD, .int (iI xf), .int (iI xp)])), (aU, .inr (6, [.ref aUg, .ref aUd, .int (iI ur), .int (iI uv), .int (iI uf), .ref aN, .ref aUa])), (aN, .inr (3, [.ref aNl, .ref aNn, .ref aNt])), iA G aNt 3 nt, iA G aUg 384 ug, iA G aUa 1536 ua] [(0, .ref aX), (1, .int (iI s)), (2, .int (iI e)), (3, .int (iI j))] 9 [.int (iI (prf nt s e))]
  have hpn : prf nt s e = -1 → ¬ (0 ≤ s ∧ s < nt 0 ∧ 0 ≤ e ∧ e < nt 1 + nt 2) := fun z y => by have := prf_rg hc y; omega
  have hpv : ¬ prf nt s e = -1 → 0 ≤ s ∧ s < nt 0 ∧ 0 ≤ e ∧ e < nt 1 + nt 2 := fun z => Decidable.byContradiction (fun y => z (if_neg y))
  have hpb : -1 ≤ prf nt s e ∧ prf nt s e < 384 := if y : 0 ≤ s ∧ s < nt 0 ∧ 0 ≤ e ∧ e < nt 1 + nt 2 then (by have := prf_rg hc y; omega) else (by unfold prf; rw [if_neg y]; omega)
  refine z_istore (lv' := [(4, .int (iI (prf nt s e))), (0, .ref aX), (1, .int (iI s)), (2, .int (iI e)), (3, .int (iI j))]) C d_X_action_9 (by decide) rfl ?_
  refine z_iload C d_X_action_11 0 rfl ?_
  refine z_iconst C d_X_action_13 ?_
  refine z_icmp_eq (tgt := 21) C d_X_action_14 (by decide) (by omega) (by omega) (fun c14 => ?_) (fun c14 => ?_)
  ·
    exact z_throw (i := 27) C Z KT tx_atI tx_kI tx_iI tx_nI (by decide +kernel) rfl d_X_action_21 d_X_action_24 d_X_action_25 d_X_action_27 d_X_action_30 (by decide) 0 (rfl) (show ("java/lang/IndexOutOfBoundsException") = "java/lang/IndexOutOfBoundsException" ∧ ¬ ((0 ≤ s ∧ s < nt 0 ∧ 0 ≤ e ∧ e < nt 1 + nt 2) ∧ 0 ≤ j) from ⟨rfl, fun z => hpn (by omega) z.1⟩)
  ·
    refine z_iload_n C d_X_action_17 4 rfl ?_
    refine z_if_ge (tgt := 31) C d_X_action_18 (by decide) (by omega) (fun c18 => ?_) (fun c18 => ?_)
    ·
      have hv := hpv (by omega)
      have hpr := prf_rg hc hv
      refine z_aload_n C d_X_action_31 1 rfl ?_
      refine z_get C f_X_33 d_X_action_32 0 rfl rfl ?_
      refine z_iload C d_X_action_35 0 rfl ?_
      refine z_iload_n C d_X_action_37 4 rfl ?_
      refine z_calli (As := [.int (iI (prf nt s e)), .int (iI j)]) (rest := []) (wr := [(aX, .inr (7, [.ref aT, .ref aP, .ref aN, .ref aU, .ref aV, .ref aI, .ref aD, .int (iI xf), .int (iI xp)])), (aN, .inr (3, [.ref aNl, .ref aNn, .ref aNt])), iA G aNt 3 nt, iA G aUg 384 ug]) (ws' := fun u => [(aX, .inr (7, [.ref aT, .ref aP, .ref aN, .ref aU, .ref aV, .ref aI, .ref aD, .int (iI xf), .int (iI xp)])), (aU, .inr (6, [.ref aUg, .ref aUd, .int (iI ur), .int (iI uv), .int (iI uf), .ref aN, .ref aUa])), (aN, .inr (3, [.ref aNl, .ref aNn, .ref aNt])), iA G aNt 3 nt, iA G aUg 384 ug, iA G aUa 1536 ua]) (q0 := 1) C k_X_131 kc_T_actionOf (fun l sz => m_T_actionOf l G sz aU aUg aUd aUa ur uv uf aN ua (prf nt s e) j (by omega)) rfl rfl (Nat.le_of_ble_eq_true rfl) (by decide) d_X_action_38 rfl rfl [1, 5] [0, 2, 3, 4] [0, 4, 1, 2, 3, 5] rfl rfl (by decide) (fun u => rfl) (fun r u h38 => ?_)
      obtain rfl := h38
      show Zc G X 5 0 0 [(aX, .inr (7, [.ref aT, .ref aP, .ref aN, .ref aU, .ref aV, .ref aI, .ref aD, .int (iI xf), .int (iI xp)])), (aU, .inr (6, [.ref aUg, .ref aUd, .int (iI ur), .int (iI uv), .int (iI uf), .ref aN, .ref aUa])), (aN, .inr (3, [.ref aNl, .ref aNn, .ref aNt])), iA G aNt 3 nt, iA G aUg 384 ug, iA G aUa 1536 ua] [(4, .int (iI (prf nt s e))), (0, .ref aX), (1, .int (iI s)), (2, .int (iI e)), (3, .int (iI j))] 41 [.int (iI (aco ua (prf nt s e) j))]
      exact z_iret C K d_X_action_41 (rfl) (aco ua (prf nt s e) j) (rfl) (show iI (aco ua (prf nt s e) j) = iI (aco ua (prf nt s e) j) ∧ (((0 ≤ s ∧ s < nt 0 ∧ 0 ≤ e ∧ e < nt 1 + nt 2) ∧ 0 ≤ j) ∧ (aco ua (prf nt s e) j) = aco ua (prf nt s e) j) from ⟨rfl, ⟨hv, by omega⟩, rfl⟩)
    ·
      exact z_throw (i := 27) C Z KT tx_atI tx_kI tx_iI tx_nI (by decide +kernel) rfl d_X_action_21 d_X_action_24 d_X_action_25 d_X_action_27 d_X_action_30 (by decide) 0 (rfl) (show ("java/lang/IndexOutOfBoundsException") = "java/lang/IndexOutOfBoundsException" ∧ ¬ ((0 ≤ s ∧ s < nt 0 ∧ 0 ≤ e ∧ e < nt 1 + nt 2) ∧ 0 ≤ j) from ⟨rfl, fun z => absurd z.2 c18⟩)
