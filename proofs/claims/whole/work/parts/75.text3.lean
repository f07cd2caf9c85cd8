set_option maxHeartbeats 4000000 in
set_option maxRecDepth 100000 in
theorem m_X_missing (l : Launch) (hl : l.stackTraces = false) (G : GG) (sz : Nat) (aX : Nat) (aT : Nat) (aP : Nat) (aN : Nat) (aU : Nat) (aV : Nat) (aI : Nat) (aD : Nat) (xf : Int) (xp : Int) (aUg : Nat) (aUd : Nat) (aUa : Nat) (ur : Int) (uv : Int) (uf : Int) (aNl : Nat) (aNn : Nat) (aNt : Nat) (nt : Nat → Int) (ug : Nat → Int) (k : Int) (hc : cnt nt) (hg : gol ug) (h1 : -2147483648 ≤ k ∧ k ≤ 2147483647) : MetX l G sz y_X_missing c_X_missing 3 (some .int) ({ frames := 6, cells := 1, slots := 6, locals := 90 } : Room) [.ref aX, .int (iI k)] [(aX, .inr (7, [.ref aT, .ref aP, .ref aN, .ref aU, .ref aV, .ref aI, .ref aD, .int (iI xf), .int (iI xp)])), (aU, .inr (6, [.ref aUg, .ref aUd, .int (iI ur), .int (iI uv), .int (iI uf), .ref aN, .ref aUa])), (aN, .inr (3, [.ref aNl, .ref aNn, .ref aNt])), iA G aNt 3 nt, iA G aUg 384 ug] (fun (r : Int32) (u : Int) => r = iI u ∧ (¬ kth (msS nt ug 0 (nt 0).toNat) k = -1 ∧ u = kth (msS nt ug 0 (nt 0).toNat) k)) (fun (Xn : String) (u : Int) => Xn = "java/lang/IndexOutOfBoundsException" ∧ kth (msS nt ug 0 (nt 0).toNat) k = -1) (fun (u : Int) => [(aX, .inr (7, [.ref aT, .ref aP, .ref aN, .ref aU, .ref aV, .ref aI, .ref aD, .int (iI xf), .int (iI xp)])), (aU, .inr (6, [.ref aUg, .ref aUd, .int (iI ur), .int (iI uv), .int (iI uf), .ref aN, .ref aUa])), (aN, .inr (3, [.ref aNl, .ref aNn, .ref aNt])), iA G aNt 3 nt, iA G aUg 384 ug]) := by
  refine MetX.mk (by decide) (Nat.le_of_ble_eq_true rfl) hl (by decide) (fun X C Z K KT => ?_)
  show Zc G X 3 0 0 [(aX, .inr (7, [.ref aT, .ref aP, .ref aN, .ref aU, .ref aV, .ref aI, .ref aD, .int (iI xf), .int (iI xp)])), (aU, .inr (6, [.ref aUg, .ref aUd, .int (iI ur), .int (iI uv), .int (iI uf), .ref aN, .ref aUa])), (aN, .inr (3, [.ref aNl, .ref aNn, .ref aNt])), iA G aNt 3 nt, iA G aUg 384 ug] [(0, .ref aX), (1, .int (iI k))] 0 []
  refine z_aload_n C d_X_missing_0 0 rfl ?_
  refine z_get C f_X_33 d_X_missing_1 0 rfl rfl ?_
  refine z_iload_n C d_X_missing_4 1 rfl ?_
  refine z_calli (As := [.int (iI k)]) (rest := []) (wr := [(aX, .inr (7, [.ref aT, .ref aP, .ref aN, .ref aU, .ref aV, .ref aI, .ref aD, .int (iI xf), .int (iI xp)]))]) (ws' := fun u => [(aX, .inr (7, [.ref aT, .ref aP, .ref aN, .ref aU, .ref aV, .ref aI, .ref aD, .int (iI xf), .int (iI xp)])), (aU, .inr (6, [.ref aUg, .ref aUd, .int (iI ur), .int (iI uv), .int (iI uf), .ref aN, .ref aUa])), (aN, .inr (3, [.ref aNl, .ref aNn, .ref aNt])), iA G aNt 3 nt, iA G aUg 384 ug]) (q0 := 1) C k_X_134 kc_T_missingPair (fun l sz => m_T_missingPair l G sz aU aUg aUd aUa ur uv uf aN aNl aNn aNt nt ug k (hc) (hg) (h1)) rfl rfl (Nat.le_of_ble_eq_true rfl) (by decide) d_X_missing_5 rfl rfl [1, 2, 3, 4] [0] [0, 1, 2, 3, 4] rfl rfl (by decide) (fun u => rfl) (fun r u h5 => ?_)
  obtain rfl := h5
  show Zc G X 3 0 0 [(aX, .inr (7, [.ref aT, .ref aP, .ref aN, .ref aU, .ref aV, .ref aI, .ref aD, .int (iI xf), .int (iI xp)])), (aU, .inr (6, [.ref aUg, .ref aUd, .int (iI ur), .int (iI uv), .int (iI uf), .ref aN, .ref aUa])), (aN, .inr (3, [.ref aNl, .ref aNn, .ref aNt])), iA G aNt 3 nt, iA G aUg 384 ug] [(0, .ref aX), (1, .int (iI k))] 8 [.int (iI (kth (msS nt ug 0 (nt 0).toNat) k))]
  refine z_istore_n (lv' := [(2, .int (iI (kth (msS nt ug 0 (nt 0).toNat) k))), (0, .ref aX), (1, .int (iI k))]) C d_X_missing_8 (by decide) rfl ?_
  refine z_iload_n C d_X_missing_9 0 rfl ?_
  refine z_iconst C d_X_missing_10 ?_
  refine z_icmp_ne (tgt := 24) C d_X_missing_11 (by decide) (by exact kth_rg hc _) (by omega) (fun c11 => ?_) (fun c11 => ?_)
  ·
    refine z_iload_n C d_X_missing_24 0 rfl ?_
    exact z_iret C K d_X_missing_25 (rfl) (kth (msS nt ug 0 (nt 0).toNat) k) (rfl) (show iI (kth (msS nt ug 0 (nt 0).toNat) k) = iI (kth (msS nt ug 0 (nt 0).toNat) k) ∧ (¬ kth (msS nt ug 0 (nt 0).toNat) k = -1 ∧ (kth (msS nt ug 0 (nt 0).toNat) k) = kth (msS nt ug 0 (nt 0).toNat) k) from ⟨rfl, by omega, rfl⟩)
  ·
    exact z_throw (i := 28) C Z KT tx_atI tx_kI tx_iI tx_nI (by decide +kernel) rfl d_X_missing_14 d_X_missing_17 d_X_missing_18 d_X_missing_20 d_X_missing_23 (by decide) 0 (rfl) (show ("java/lang/IndexOutOfBoundsException") = "java/lang/IndexOutOfBoundsException" ∧ kth (msS nt ug 0 (nt 0).toNat) k = -1 from ⟨rfl, by omega⟩)
set_option maxHeartbeats 4000000 in
set_option maxRecDepth 100000 in
theorem m_X_reached (l : Launch) (hl : l.stackTraces = false) (G : GG) (sz : Nat) (aX : Nat) (aT : Nat) (aP : Nat) (aN : Nat) (aU : Nat) (aV : Nat) (aI : Nat) (aD : Nat) (xf : Int) (xp : Int) (aUg : Nat) (aUd : Nat) (aUa : Nat) (ur : Int) (uv : Int) (uf : Int) (aNl : Nat) (aNn : Nat) (aNt : Nat) (nt : Nat → Int) (ud : Nat → Int) (s : Int) (w : Int) (hc : cnt nt) (hd : dst ud) (h1 : -2147483648 ≤ s ∧ s ≤ 2147483647 ∧ -2147483648 ≤ w ∧ w ≤ 2147483647) : MetX l G sz y_X_reached c_X_reached 3 (some .int) ({ frames := 6, cells := 1, slots := 6, locals := 82 } : Room) [.ref aX, .int (iI s), .int (iI w)] [(aX, .inr (7, [.ref aT, .ref aP, .ref aN, .ref aU, .ref aV, .ref aI, .ref aD, .int (iI xf), .int (iI xp)])), (aU, .inr (6, [.ref aUg, .ref aUd, .int (iI ur), .int (iI uv), .int (iI uf), .ref aN, .ref aUa])), (aN, .inr (3, [.ref aNl, .ref aNn, .ref aNt])), iA G aNt 3 nt, iA G aUd 16 ud] (fun (r : Int32) (u : Int) => r = iI u ∧ ((0 ≤ s ∧ s < nt 0 ∧ 0 ≤ w ∧ w ≤ 1) ∧ u = if w = 1 then ud s.toNat else rch ud s)) (fun (Xn : String) (u : Int) => Xn = "java/lang/IndexOutOfBoundsException" ∧ ¬ (0 ≤ s ∧ s < nt 0 ∧ 0 ≤ w ∧ w ≤ 1)) (fun (u : Int) => [(aX, .inr (7, [.ref aT, .ref aP, .ref aN, .ref aU, .ref aV, .ref aI, .ref aD, .int (iI xf), .int (iI xp)])), (aU, .inr (6, [.ref aUg, .ref aUd, .int (iI ur), .int (iI uv), .int (iI uf), .ref aN, .ref aUa])), (aN, .inr (3, [.ref aNl, .ref aNn, .ref aNt])), iA G aNt 3 nt, iA G aUd 16 ud]) := by
  refine MetX.mk (by decide) (Nat.le_of_ble_eq_true rfl) hl (by decide) (fun X C Z K KT => ?_)
  show Zc G X 3 0 0 [(aX, .inr (7, [.ref aT, .ref aP, .ref aN, .ref aU, .ref aV, .ref aI, .ref aD, .int (iI xf), .int (iI xp)])), (aU, .inr (6, [.ref aUg, .ref aUd, .int (iI ur), .int (iI uv), .int (iI uf), .ref aN, .ref aUa])), (aN, .inr (3, [.ref aNl, .ref aNn, .ref aNt])), iA G aNt 3 nt, iA G aUd 16 ud] [(0, .ref aX), (1, .int (iI s)), (2, .int (iI w))] 0 []
  have hcc := hc
  unfold cnt at hcc
  refine z_iload_n C d_X_reached_0 1 rfl ?_
  refine z_if_lt (tgt := 24) C d_X_reached_1 (by decide) (by omega) (fun c1 => ?_) (fun c1 => ?_)
  ·
    exact z_throw (i := 29) C Z KT tx_atI tx_kI tx_iI tx_nI (by decide +kernel) rfl d_X_reached_24 d_X_reached_27 d_X_reached_28 d_X_reached_30 d_X_reached_33 (by decide) 0 (rfl) (show ("java/lang/IndexOutOfBoundsException") = "java/lang/IndexOutOfBoundsException" ∧ ¬ (0 ≤ s ∧ s < nt 0 ∧ 0 ≤ w ∧ w ≤ 1) from ⟨rfl, by omega⟩)
  ·
    refine z_iload_n C d_X_reached_4 1 rfl ?_
    refine z_aload_n C d_X_reached_5 0 rfl ?_
    refine z_get C f_X_24 d_X_reached_6 0 rfl rfl ?_
    refine z_calli (As := []) (rest := [.int (iI s)]) (wr := [(aX, .inr (7, [.ref aT, .ref aP, .ref aN, .ref aU, .ref aV, .ref aI, .ref aD, .int (iI xf), .int (iI xp)])), (aU, .inr (6, [.ref aUg, .ref aUd, .int (iI ur), .int (iI uv), .int (iI uf), .ref aN, .ref aUa])), iA G aUd 16 ud]) (ws' := fun u => [(aX, .inr (7, [.ref aT, .ref aP, .ref aN, .ref aU, .ref aV, .ref aI, .ref aD, .int (iI xf), .int (iI xp)])), (aU, .inr (6, [.ref aUg, .ref aUd, .int (iI ur), .int (iI uv), .int (iI uf), .ref aN, .ref aUa])), (aN, .inr (3, [.ref aNl, .ref aNn, .ref aNt])), iA G aNt 3 nt, iA G aUd 16 ud]) (q0 := 2) C k_X_140 kc_N_states (fun l sz => m_N_states l G sz aN aNl aNn aNt nt ) rfl rfl (Nat.le_of_ble_eq_true rfl) (by decide) d_X_reached_9 rfl rfl [2, 3] [0, 1, 4] [0, 1, 3, 4, 2] rfl rfl (by decide) (fun u => rfl) (fun r u h9 => ?_)
    obtain rfl := h9
    show Zc G X 3 0 0 [(aX, .inr (7, [.ref aT, .ref aP, .ref aN, .ref aU, .ref aV, .ref aI, .ref aD, .int (iI xf), .int (iI xp)])), (aU, .inr (6, [.ref aUg, .ref aUd, .int (iI ur), .int (iI uv), .int (iI uf), .ref aN, .ref aUa])), (aN, .inr (3, [.ref aNl, .ref aNn, .ref aNt])), iA G aNt 3 nt, iA G aUd 16 ud] [(0, .ref aX), (1, .int (iI s)), (2, .int (iI w))] 12 [.int (iI (nt 0)), .int (iI s)]
    refine z_icmp_ge (tgt := 24) C d_X_reached_12 (by decide) (by omega) (by omega) (fun c12 => ?_) (fun c12 => ?_)
    ·
      exact z_throw (i := 29) C Z KT tx_atI tx_kI tx_iI tx_nI (by decide +kernel) rfl d_X_reached_24 d_X_reached_27 d_X_reached_28 d_X_reached_30 d_X_reached_33 (by decide) 0 (rfl) (show ("java/lang/IndexOutOfBoundsException") = "java/lang/IndexOutOfBoundsException" ∧ ¬ (0 ≤ s ∧ s < nt 0 ∧ 0 ≤ w ∧ w ≤ 1) from ⟨rfl, by omega⟩)
    ·
      refine z_iload_n C d_X_reached_15 2 rfl ?_
      refine z_if_lt (tgt := 24) C d_X_reached_16 (by decide) (by omega) (fun c16 => ?_) (fun c16 => ?_)
      ·
        exact z_throw (i := 29) C Z KT tx_atI tx_kI tx_iI tx_nI (by decide +kernel) rfl d_X_reached_24 d_X_reached_27 d_X_reached_28 d_X_reached_30 d_X_reached_33 (by decide) 0 (rfl) (show ("java/lang/IndexOutOfBoundsException") = "java/lang/IndexOutOfBoundsException" ∧ ¬ (0 ≤ s ∧ s < nt 0 ∧ 0 ≤ w ∧ w ≤ 1) from ⟨rfl, by omega⟩)
      ·
        refine z_iload_n C d_X_reached_19 2 rfl ?_
        refine z_iconst C d_X_reached_20 ?_
        refine z_icmp_le (tgt := 34) C d_X_reached_21 (by decide) (by omega) (by omega) (fun c21 => ?_) (fun c21 => ?_)
        ·
          refine z_iload_n C d_X_reached_34 2 rfl ?_
          refine z_iconst C d_X_reached_35 ?_
          refine z_icmp_ne (tgt := 49) C d_X_reached_36 (by decide) (by omega) (by omega) (fun c36 => ?_) (fun c36 => ?_)
          ·
            refine z_aload_n C d_X_reached_49 0 rfl ?_
            refine z_get C f_X_33 d_X_reached_50 0 rfl rfl ?_
            refine z_iload_n C d_X_reached_53 1 rfl ?_
            refine z_calli (As := [.int (iI s)]) (rest := []) (wr := [(aX, .inr (7, [.ref aT, .ref aP, .ref aN, .ref aU, .ref aV, .ref aI, .ref aD, .int (iI xf), .int (iI xp)])), (aN, .inr (3, [.ref aNl, .ref aNn, .ref aNt])), iA G aNt 3 nt]) (ws' := fun u => [(aX, .inr (7, [.ref aT, .ref aP, .ref aN, .ref aU, .ref aV, .ref aI, .ref aD, .int (iI xf), .int (iI xp)])), (aU, .inr (6, [.ref aUg, .ref aUd, .int (iI ur), .int (iI uv), .int (iI uf), .ref aN, .ref aUa])), (aN, .inr (3, [.ref aNl, .ref aNn, .ref aNt])), iA G aNt 3 nt, iA G aUd 16 ud]) (q0 := 1) C k_X_148 kc_T_isReached (fun l sz => m_T_isReached l G sz aU aUg aUd aUa ur uv uf aN ud s (by omega) (hd)) rfl rfl (Nat.le_of_ble_eq_true rfl) (by decide) d_X_reached_54 rfl rfl [1, 4] [0, 2, 3] [0, 3, 1, 2, 4] rfl rfl (by decide) (fun u => rfl) (fun r u h54 => ?_)
            obtain rfl := h54
            show Zc G X 3 0 0 [(aX, .inr (7, [.ref aT, .ref aP, .ref aN, .ref aU, .ref aV, .ref aI, .ref aD, .int (iI xf), .int (iI xp)])), (aU, .inr (6, [.ref aUg, .ref aUd, .int (iI ur), .int (iI uv), .int (iI uf), .ref aN, .ref aUa])), (aN, .inr (3, [.ref aNl, .ref aNn, .ref aNt])), iA G aNt 3 nt, iA G aUd 16 ud] [(0, .ref aX), (1, .int (iI s)), (2, .int (iI w))] 57 [.int (iI (rch ud s))]
            have hr01 : rch ud s = 0 ∨ rch ud s = 1 := by unfold rch; split <;> omega
            refine z_if_eq (tgt := 64) C d_X_reached_57 (by decide) (by omega) (fun c57 => ?_) (fun c57 => ?_)
            ·
              refine z_iconst C d_X_reached_64 ?_
              exact z_iret C K d_X_reached_65 (rfl) (rch ud s) (rfl) (show iI 0 = iI (rch ud s) ∧ ((0 ≤ s ∧ s < nt 0 ∧ 0 ≤ w ∧ w ≤ 1) ∧ (rch ud s) = if w = 1 then ud s.toNat else rch ud s) from ⟨congrArg iI (by omega), by omega, by rw [if_neg (by omega)]⟩)
            ·
              refine z_iconst C d_X_reached_60 ?_
              refine z_goto (tgt := 65) C d_X_reached_61 (by decide) ?_
              exact z_iret C K d_X_reached_65 (rfl) (rch ud s) (rfl) (show iI 1 = iI (rch ud s) ∧ ((0 ≤ s ∧ s < nt 0 ∧ 0 ≤ w ∧ w ≤ 1) ∧ (rch ud s) = if w = 1 then ud s.toNat else rch ud s) from ⟨congrArg iI (by omega), by omega, by rw [if_neg (by omega)]⟩)
          ·
            refine z_aload_n C d_X_reached_39 0 rfl ?_
            refine z_get C f_X_33 d_X_reached_40 0 rfl rfl ?_
            refine z_get C f_X_145 d_X_reached_43 1 rfl rfl ?_
            refine z_iload_n C d_X_reached_46 1 rfl ?_
            refine z_iald C d_X_reached_47 4 rfl (by omega) ?_
            exact z_iret C K d_X_reached_48 (rfl) (ud s.toNat) (rfl) (show iI (ud s.toNat) = iI (ud s.toNat) ∧ ((0 ≤ s ∧ s < nt 0 ∧ 0 ≤ w ∧ w ≤ 1) ∧ (ud s.toNat) = if w = 1 then ud s.toNat else rch ud s) from ⟨rfl, by omega, by rw [if_pos (by omega)]⟩)
        ·
          exact z_throw (i := 29) C Z KT tx_atI tx_kI tx_iI tx_nI (by decide +kernel) rfl d_X_reached_24 d_X_reached_27 d_X_reached_28 d_X_reached_30 d_X_reached_33 (by decide) 0 (rfl) (show ("java/lang/IndexOutOfBoundsException") = "java/lang/IndexOutOfBoundsException" ∧ ¬ (0 ≤ s ∧ s < nt 0 ∧ 0 ≤ w ∧ w ≤ 1) from ⟨rfl, by omega⟩)
set_option maxHeartbeats 4000000 in
set_option maxRecDepth 100000 in
theorem m_X_message (l : Launch) (hl : l.stackTraces = false) (G : GG) (sz : Nat) (aX : Nat) (aT : Nat) (aP : Nat) (aN : Nat) (aU : Nat) (aV : Nat) (aI : Nat) (aD : Nat) (xf : Int) (xp : Int) (aUg : Nat) (aUd : Nat) (aUa : Nat) (ur : Int) (uv : Int) (uf : Int) (aNl : Nat) (aNn : Nat) (aNt : Nat) (nt : Nat → Int) (ud : Nat → Int) (ug : Nat → Int) (ua : Nat → Int) (k : Int) (hc : cnt nt) (hd : dst ud) (hg : gol ug) (ha : act ua) (h1 : -2147483648 ≤ k ∧ k ≤ 2147483647) : MetX l G sz y_X_message c_X_message 2 (some .int) ({ frames := 6, cells := 1, slots := 6, locals := 82 } : Room) [.ref aX, .int (iI k)] [(aX, .inr (7, [.ref aT, .ref aP, .ref aN, .ref aU, .ref aV, .ref aI, .ref aD, .int (iI xf), .int (iI xp)])), (aU, .inr (6, [.ref aUg, .ref aUd, .int (iI ur), .int (iI uv), .int (iI uf), .ref aN, .ref aUa])), (aN, .inr (3, [.ref aNl, .ref aNn, .ref aNt])), iA G aNt 3 nt, iA G aUd 16 ud, iA G aUg 384 ug, iA G aUa 1536 ua] (fun (r : Int32) (u : Int) => r = iI u ∧ ((0 ≤ k ∧ k < nt 2) ∧ (¬ snt nt ud ua k → u = 0) ∧ (snt nt ud ua k → (awt nt ud ug k → u = 1) ∧ (¬ awt nt ud ug k → u = 3)))) (fun (Xn : String) (u : Int) => Xn = "java/lang/IndexOutOfBoundsException" ∧ ¬ (0 ≤ k ∧ k < nt 2)) (fun (u : Int) => [(aX, .inr (7, [.ref aT, .ref aP, .ref aN, .ref aU, .ref aV, .ref aI, .ref aD, .int (iI xf), .int (iI xp)])), (aU, .inr (6, [.ref aUg, .ref aUd, .int (iI ur), .int (iI uv), .int (iI uf), .ref aN, .ref aUa])), (aN, .inr (3, [.ref aNl, .ref aNn, .ref aNt])), iA G aNt 3 nt, iA G aUd 16 ud, iA G aUg 384 ug, iA G aUa 1536 ua]) := by
  refine MetX.mk (by decide) (Nat.le_of_ble_eq_true rfl) hl (by decide) (fun X C Z K KT => ?_)
  show Zc G X 2 0 0 [(aX, .inr (7, [.ref aT, .ref aP, .ref aN, .ref aU, .ref aV, .ref aI, .ref aD, .int (iI xf), .int (iI xp)])), (aU, .inr (6, [.ref aUg, .ref aUd, .int (iI ur), .int (iI uv), .int (iI uf), .ref aN, .ref aUa])), (aN, .inr (3, [.ref aNl, .ref aNn, .ref aNt])), iA G aNt 3 nt, iA G aUd 16 ud, iA G aUg 384 ug, iA G aUa 1536 ua] [(0, .ref aX), (1, .int (iI k))] 0 []
  have hcc := hc
  unfold cnt at hcc
  refine z_iload_n C d_X_message_0 1 rfl ?_
  refine z_if_lt (tgt := 15) C d_X_message_1 (by decide) (by omega) (fun c1 => ?_) (fun c1 => ?_)
  ·
    exact z_throw (i := 30) C Z KT tx_atI tx_kI tx_iI tx_nI (by decide +kernel) rfl d_X_message_15 d_X_message_18 d_X_message_19 d_X_message_21 d_X_message_24 (by decide) 0 (rfl) (show ("java/lang/IndexOutOfBoundsException") = "java/lang/IndexOutOfBoundsException" ∧ ¬ (0 ≤ k ∧ k < nt 2) from ⟨rfl, by omega⟩)
  ·
    refine z_iload_n C d_X_message_4 1 rfl ?_
    refine z_aload_n C d_X_message_5 0 rfl ?_
    refine z_get C f_X_24 d_X_message_6 0 rfl rfl ?_
    refine z_calli (As := []) (rest := [.int (iI k)]) (wr := [(aX, .inr (7, [.ref aT, .ref aP, .ref aN, .ref aU, .ref aV, .ref aI, .ref aD, .int (iI xf), .int (iI xp)])), (aU, .inr (6, [.ref aUg, .ref aUd, .int (iI ur), .int (iI uv), .int (iI uf), .ref aN, .ref aUa])), iA G aUd 16 ud, iA G aUg 384 ug, iA G aUa 1536 ua]) (ws' := fun u => [(aX, .inr (7, [.ref aT, .ref aP, .ref aN, .ref aU, .ref aV, .ref aI, .ref aD, .int (iI xf), .int (iI xp)])), (aU, .inr (6, [.ref aUg, .ref aUd, .int (iI ur), .int (iI uv), .int (iI uf), .ref aN, .ref aUa])), (aN, .inr (3, [.ref aNl, .ref aNn, .ref aNt])), iA G aNt 3 nt, iA G aUd 16 ud, iA G aUg 384 ug, iA G aUa 1536 ua]) (q0 := 2) C k_X_152 kc_N_messages (fun l sz => m_N_messages l G sz aN aNl aNn aNt nt ) rfl rfl (Nat.le_of_ble_eq_true rfl) (by decide) d_X_message_9 rfl rfl [2, 3] [0, 1, 4, 5, 6] [0, 1, 5, 6, 2, 3, 4] rfl rfl (by decide) (fun u => rfl) (fun r u h9 => ?_)
    obtain rfl := h9
    show Zc G X 2 0 0 [(aX, .inr (7, [.ref aT, .ref aP, .ref aN, .ref aU, .ref aV, .ref aI, .ref aD, .int (iI xf), .int (iI xp)])), (aU, .inr (6, [.ref aUg, .ref aUd, .int (iI ur), .int (iI uv), .int (iI uf), .ref aN, .ref aUa])), (aN, .inr (3, [.ref aNl, .ref aNn, .ref aNt])), iA G aNt 3 nt, iA G aUd 16 ud, iA G aUg 384 ug, iA G aUa 1536 ua] [(0, .ref aX), (1, .int (iI k))] 12 [.int (iI (nt 2)), .int (iI k)]
    refine z_icmp_lt (tgt := 25) C d_X_message_12 (by decide) (by omega) (by omega) (fun c12 => ?_) (fun c12 => ?_)
    ·
      refine z_aload_n C d_X_message_25 0 rfl ?_
      refine z_get C f_X_33 d_X_message_26 0 rfl rfl ?_
      refine z_iload_n C d_X_message_29 1 rfl ?_
      refine z_calli (As := [.int (iI k)]) (rest := []) (wr := [(aX, .inr (7, [.ref aT, .ref aP, .ref aN, .ref aU, .ref aV, .ref aI, .ref aD, .int (iI xf), .int (iI xp)])), iA G aUg 384 ug]) (ws' := fun u => [(aX, .inr (7, [.ref aT, .ref aP, .ref aN, .ref aU, .ref aV, .ref aI, .ref aD, .int (iI xf), .int (iI xp)])), (aU, .inr (6, [.ref aUg, .ref aUd, .int (iI ur), .int (iI uv), .int (iI uf), .ref aN, .ref aUa])), (aN, .inr (3, [.ref aNl, .ref aNn, .ref aNt])), iA G aNt 3 nt, iA G aUd 16 ud, iA G aUg 384 ug, iA G aUa 1536 ua]) (q0 := 1) C k_X_157 kc_T_isSent (fun l sz => m_T_isSent l G sz aU aUg aUd aUa ur uv uf aN aNl aNn aNt nt ud ua k (hc) (hd) (ha) (h1)) rfl rfl (Nat.le_of_ble_eq_true rfl) (by decide) d_X_message_30 rfl rfl [1, 2, 3, 4, 6] [0, 5] [0, 2, 3, 4, 5, 1, 6] rfl rfl (by decide) (fun u => rfl) (fun r u h30 => ?_)
      obtain ⟨rr_30, rfl⟩ : ∃ z, z = u := ⟨_, rfl⟩
      obtain ⟨rfl, he_30⟩ := h30
      have he_30 : (rr_30 = 1 ∧ snt nt ud ua k) ∨ (rr_30 = 0 ∧ ¬ snt nt ud ua k) := he_30
      show Zc G X 2 0 0 [(aX, .inr (7, [.ref aT, .ref aP, .ref aN, .ref aU, .ref aV, .ref aI, .ref aD, .int (iI xf), .int (iI xp)])), (aU, .inr (6, [.ref aUg, .ref aUd, .int (iI ur), .int (iI uv), .int (iI uf), .ref aN, .ref aUa])), (aN, .inr (3, [.ref aNl, .ref aNn, .ref aNt])), iA G aNt 3 nt, iA G aUd 16 ud, iA G aUg 384 ug, iA G aUa 1536 ua] [(0, .ref aX), (1, .int (iI k))] 33 [.int (iI rr_30)]
      rcases he_30 with ⟨rfl, hv⟩ | ⟨rfl, hv⟩
      ·
        skip
        refine z_if_ne (tgt := 38) C d_X_message_33 (by decide) (by omega) (fun c33 => ?_) (fun c33 => ?_)
        ·
          refine z_aload_n C d_X_message_38 0 rfl ?_
          refine z_get C f_X_33 d_X_message_39 0 rfl rfl ?_
          refine z_iload_n C d_X_message_42 1 rfl ?_
          refine z_calli (As := [.int (iI k)]) (rest := []) (wr := [(aX, .inr (7, [.ref aT, .ref aP, .ref aN, .ref aU, .ref aV, .ref aI, .ref aD, .int (iI xf), .int (iI xp)])), iA G aUa 1536 ua]) (ws' := fun u => [(aX, .inr (7, [.ref aT, .ref aP, .ref aN, .ref aU, .ref aV, .ref aI, .ref aD, .int (iI xf), .int (iI xp)])), (aU, .inr (6, [.ref aUg, .ref aUd, .int (iI ur), .int (iI uv), .int (iI uf), .ref aN, .ref aUa])), (aN, .inr (3, [.ref aNl, .ref aNn, .ref aNt])), iA G aNt 3 nt, iA G aUd 16 ud, iA G aUg 384 ug, iA G aUa 1536 ua]) (q0 := 1) C k_X_160 kc_T_isAwaited (fun l sz => m_T_isAwaited l G sz aU aUg aUd aUa ur uv uf aN aNl aNn aNt nt ud ug k (hc) (hd) (hg) (by omega)) rfl rfl (Nat.le_of_ble_eq_true rfl) (by decide) d_X_message_43 rfl rfl [1, 2, 3, 4, 5] [0, 6] [0, 2, 3, 4, 5, 6, 1] rfl rfl (by decide) (fun u => rfl) (fun r u h43 => ?_)
          obtain ⟨rr_43, rfl⟩ : ∃ z, z = u := ⟨_, rfl⟩
          obtain ⟨rfl, he_43⟩ := h43
          have he_43 : (rr_43 = 1 ∧ awt nt ud ug k) ∨ (rr_43 = 0 ∧ ¬ awt nt ud ug k) := he_43
          show Zc G X 2 0 0 [(aX, .inr (7, [.ref aT, .ref aP, .ref aN, .ref aU, .ref aV, .ref aI, .ref aD, .int (iI xf), .int (iI xp)])), (aU, .inr (6, [.ref aUg, .ref aUd, .int (iI ur), .int (iI uv), .int (iI uf), .ref aN, .ref aUa])), (aN, .inr (3, [.ref aNl, .ref aNn, .ref aNt])), iA G aNt 3 nt, iA G aUd 16 ud, iA G aUg 384 ug, iA G aUa 1536 ua] [(0, .ref aX), (1, .int (iI k))] 46 [.int (iI rr_43)]
          rcases he_43 with ⟨rfl, hw⟩ | ⟨rfl, hw⟩
          ·
            skip
            refine z_if_eq (tgt := 53) C d_X_message_46 (by decide) (by omega) (fun c46 => ?_) (fun c46 => ?_)
            · exact absurd c46 (by omega)
            ·
              refine z_iconst C d_X_message_49 ?_
              refine z_goto (tgt := 54) C d_X_message_50 (by decide) ?_
              exact z_iret C K d_X_message_54 (rfl) 1 (rfl) (show iI 1 = iI 1 ∧ ((0 ≤ k ∧ k < nt 2) ∧ (¬ snt nt ud ua k → 1 = 0) ∧ (snt nt ud ua k → (awt nt ud ug k → 1 = 1) ∧ (¬ awt nt ud ug k → 1 = 3))) from ⟨rfl, by omega, fun z => absurd hv z, fun _ => ⟨fun _ => rfl, fun z => absurd hw z⟩⟩)
          ·
            skip
            refine z_if_eq (tgt := 53) C d_X_message_46 (by decide) (by omega) (fun c46 => ?_) (fun c46 => ?_)
            ·
              refine z_iconst C d_X_message_53 ?_
              exact z_iret C K d_X_message_54 (rfl) 3 (rfl) (show iI 3 = iI 3 ∧ ((0 ≤ k ∧ k < nt 2) ∧ (¬ snt nt ud ua k → 3 = 0) ∧ (snt nt ud ua k → (awt nt ud ug k → 3 = 1) ∧ (¬ awt nt ud ug k → 3 = 3))) from ⟨rfl, by omega, fun z => absurd hv z, fun _ => ⟨fun z => absurd z hw, fun _ => rfl⟩⟩)
            · exact absurd c46 (by omega)
        · exact absurd c33 (by omega)
      ·
        skip
        refine z_if_ne (tgt := 38) C d_X_message_33 (by decide) (by omega) (fun c33 => ?_) (fun c33 => ?_)
        · exact absurd c33 (by omega)
        ·
          refine z_iconst C d_X_message_36 ?_
          exact z_iret C K d_X_message_37 (rfl) 0 (rfl) (show iI 0 = iI 0 ∧ ((0 ≤ k ∧ k < nt 2) ∧ (¬ snt nt ud ua k → 0 = 0) ∧ (snt nt ud ua k → (awt nt ud ug k → 0 = 1) ∧ (¬ awt nt ud ug k → 0 = 3))) from ⟨rfl, by omega, fun _ => rfl, fun z => absurd z hv⟩)
    ·
      exact z_throw (i := 30) C Z KT tx_atI tx_kI tx_iI tx_nI (by decide +kernel) rfl d_X_message_15 d_X_message_18 d_X_message_19 d_X_message_21 d_X_message_24 (by decide) 0 (rfl) (show ("java/lang/IndexOutOfBoundsException") = "java/lang/IndexOutOfBoundsException" ∧ ¬ (0 ≤ k ∧ k < nt 2) from ⟨rfl, by omega⟩)
set_option maxHeartbeats 4000000 in
set_option maxRecDepth 100000 in
theorem m_X_out (l : Launch) (hl : l.stackTraces = false) (G : GG) (sz : Nat) (aX : Nat) (aT : Nat) (aP : Nat) (aN : Nat) (aU : Nat) (aV : Nat) (aI : Nat) (aD : Nat) (xf : Int) (xp : Int) (aPb : Nat) (pl : Int) (pF : Nat → Int) (w : Int) (h1 : -2147483648 ≤ w ∧ w ≤ 2147483647) (hp : 0 ≤ pl ∧ pl ≤ 5632) : MetX l G sz y_X_out c_X_out 2 (some .int) ({ frames := 6, cells := 1, slots := 6, locals := 82 } : Room) [.ref aX, .int (iI w)] [(aX, .inr (7, [.ref aT, .ref aP, .ref aN, .ref aU, .ref aV, .ref aI, .ref aD, .int (iI xf), .int (iI xp)])), (aP, .inr (0, [.ref aPb, .int (iI pl)])), bA G aPb 5632 pF] (fun (r : Int32) (u : Int) => r = iI u ∧ ((0 ≤ w ∧ w < pl) ∧ u = pF w.toNat % 256)) (fun (Xn : String) (u : Int) => Xn = "java/lang/IndexOutOfBoundsException" ∧ ¬ (0 ≤ w ∧ w < pl)) (fun (u : Int) => [(aX, .inr (7, [.ref aT, .ref aP, .ref aN, .ref aU, .ref aV, .ref aI, .ref aD, .int (iI xf), .int (iI xp)])), (aP, .inr (0, [.ref aPb, .int (iI pl)])), bA G aPb 5632 pF]) := by
  refine MetX.mk (by decide) (Nat.le_of_ble_eq_true rfl) hl (by decide) (fun X C Z K KT => ?_)
  show Zc G X 2 0 0 [(aX, .inr (7, [.ref aT, .ref aP, .ref aN, .ref aU, .ref aV, .ref aI, .ref aD, .int (iI xf), .int (iI xp)])), (aP, .inr (0, [.ref aPb, .int (iI pl)])), bA G aPb 5632 pF] [(0, .ref aX), (1, .int (iI w))] 0 []
  refine z_iload_n C d_X_out_0 1 rfl ?_
  refine z_if_lt (tgt := 15) C d_X_out_1 (by decide) (by omega) (fun c1 => ?_) (fun c1 => ?_)
  ·
    exact z_throw (i := 31) C Z KT tx_atI tx_kI tx_iI tx_nI (by decide +kernel) rfl d_X_out_15 d_X_out_18 d_X_out_19 d_X_out_21 d_X_out_24 (by decide) 0 (rfl) (show ("java/lang/IndexOutOfBoundsException") = "java/lang/IndexOutOfBoundsException" ∧ ¬ (0 ≤ w ∧ w < pl) from ⟨rfl, by omega⟩)
  ·
    refine z_iload_n C d_X_out_4 1 rfl ?_
    refine z_aload_n C d_X_out_5 0 rfl ?_
    refine z_get C f_X_18 d_X_out_6 0 rfl rfl ?_
    refine z_get C f_X_74 d_X_out_9 1 rfl rfl ?_
    refine z_icmp_lt (tgt := 25) C d_X_out_12 (by decide) (by omega) (by omega) (fun c12 => ?_) (fun c12 => ?_)
    ·
      refine z_aload_n C d_X_out_25 0 rfl ?_
      refine z_get C f_X_18 d_X_out_26 0 rfl rfl ?_
      refine z_get C f_X_171 d_X_out_29 1 rfl rfl ?_
      refine z_iload_n C d_X_out_32 1 rfl ?_
      refine z_bald C d_X_out_33 2 rfl (by omega) ?_
      refine z_sipush C d_X_out_34 (by decide) ?_
      refine z_iand C d_X_out_37 (iI ((pF w.toNat) % 256)) (iI_and255 _) ?_
      exact z_iret C K d_X_out_38 (rfl) (pF w.toNat % 256) (rfl) (show iI ((pF w.toNat) % 256) = iI (pF w.toNat % 256) ∧ ((0 ≤ w ∧ w < pl) ∧ (pF w.toNat % 256) = pF w.toNat % 256) from ⟨rfl, by omega, rfl⟩)
    ·
      exact z_throw (i := 31) C Z KT tx_atI tx_kI tx_iI tx_nI (by decide +kernel) rfl d_X_out_15 d_X_out_18 d_X_out_19 d_X_out_21 d_X_out_24 (by decide) 0 (rfl) (show ("java/lang/IndexOutOfBoundsException") = "java/lang/IndexOutOfBoundsException" ∧ ¬ (0 ≤ w ∧ w < pl) from ⟨rfl, by omega⟩)
