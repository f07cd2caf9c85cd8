set_option maxHeartbeats 4000000 in
set_option maxRecDepth 100000 in
theorem m_T_forget (l : Launch) (G : GG) (sz : Nat) (aU : Nat) (aUg : Nat) (aUd : Nat) (aUa : Nat) (ur : Int) (uv : Int) (uf : Int) (aN : Nat) (ug : Nat → Int) (ud : Nat → Int) (ua : Nat → Int)  : MetV l G sz y_T_forget c_T_forget 1 ({ frames := 1, cells := 0, slots := 0, locals := 23 } : Room) [.ref aU] [(aU, .inr (6, [.ref aUg, .ref aUd, .int (iI ur), .int (iI uv), .int (iI uf), .ref aN, .ref aUa])), iA G aUg 384 ug, iA G aUd 16 ud, iA G aUa 1536 ua] (fun (u : Unit) => True) (fun (u : Unit) => [(aU, .inr (6, [.ref aUg, .ref aUd, .int (iI 0), .int (iI 0), .int (iI (-1)), .ref aN, .ref aUa])), iA G aUg 384 (flZ 384 (-1) ug), iA G aUd 16 (flZ 16 (-1) ud), iA G aUa 1536 (flZ 1536 (-1) ua)]) := by
  refine MetV.mk (by decide) (Nat.le_of_ble_eq_true rfl) (fun X C K => ?_)
  show Zc G X 1 0 0 [(aU, .inr (6, [.ref aUg, .ref aUd, .int (iI ur), .int (iI uv), .int (iI uf), .ref aN, .ref aUa])), iA G aUg 384 ug, iA G aUd 16 ud, iA G aUa 1536 ua] [(0, .ref aU)] 0 []
  refine z_aload_n C d_T_forget_0 0 rfl ?_
  refine z_get C f_T_13 d_T_forget_1 0 rfl rfl ?_
  refine z_iconst C d_T_forget_4 ?_
  refine z_callvS (As := [.ref aUg, .int (iI (-1))]) (rest := []) (wr := [(aU, .inr (6, [.ref aUg, .ref aUd, .int (iI ur), .int (iI uv), .int (iI uf), .ref aN, .ref aUa])), iA G aUd 16 ud, iA G aUa 1536 ua]) (ws' := fun u => [(aU, .inr (6, [.ref aUg, .ref aUd, .int (iI ur), .int (iI uv), .int (iI uf), .ref aN, .ref aUa])), iA G aUg 384 (flZ 384 (-1) ug), iA G aUd 16 ud, iA G aUa 1536 ua]) C k_T_30 kc_jA_fill (fun l sz => m_jA_fill l G sz aUg 384 (-1) ug (by omega)) rfl rfl (Nat.le_of_ble_eq_true rfl) (by decide) d_T_forget_5 [1] [0, 2, 3] [0, 3, 1, 2] rfl rfl (by decide) (fun u => rfl) (fun u h5 => ?_)
  show Zc G X 1 0 0 [(aU, .inr (6, [.ref aUg, .ref aUd, .int (iI ur), .int (iI uv), .int (iI uf), .ref aN, .ref aUa])), iA G aUg 384 (flZ 384 (-1) ug), iA G aUd 16 ud, iA G aUa 1536 ua] [(0, .ref aU)] 8 []
  refine z_aload_n C d_T_forget_8 0 rfl ?_
  refine z_get C f_T_20 d_T_forget_9 0 rfl rfl ?_
  refine z_iconst C d_T_forget_12 ?_
  refine z_callvS (As := [.ref aUa, .int (iI (-1))]) (rest := []) (wr := [(aU, .inr (6, [.ref aUg, .ref aUd, .int (iI ur), .int (iI uv), .int (iI uf), .ref aN, .ref aUa])), iA G aUg 384 (flZ 384 (-1) ug), iA G aUd 16 ud]) (ws' := fun u => [(aU, .inr (6, [.ref aUg, .ref aUd, .int (iI ur), .int (iI uv), .int (iI uf), .ref aN, .ref aUa])), iA G aUg 384 (flZ 384 (-1) ug), iA G aUd 16 ud, iA G aUa 1536 (flZ 1536 (-1) ua)]) C k_T_30 kc_jA_fill (fun l sz => m_jA_fill l G sz aUa 1536 (-1) ua (by omega)) rfl rfl (Nat.le_of_ble_eq_true rfl) (by decide) d_T_forget_13 [3] [0, 1, 2] [0, 1, 2, 3] rfl rfl (by decide) (fun u => rfl) (fun u h13 => ?_)
  show Zc G X 1 0 0 [(aU, .inr (6, [.ref aUg, .ref aUd, .int (iI ur), .int (iI uv), .int (iI uf), .ref aN, .ref aUa])), iA G aUg 384 (flZ 384 (-1) ug), iA G aUd 16 ud, iA G aUa 1536 (flZ 1536 (-1) ua)] [(0, .ref aU)] 16 []
  refine z_aload_n C d_T_forget_16 0 rfl ?_
  refine z_get C f_T_17 d_T_forget_17 0 rfl rfl ?_
  refine z_iconst C d_T_forget_20 ?_
  refine z_callvS (As := [.ref aUd, .int (iI (-1))]) (rest := []) (wr := [(aU, .inr (6, [.ref aUg, .ref aUd, .int (iI ur), .int (iI uv), .int (iI uf), .ref aN, .ref aUa])), iA G aUg 384 (flZ 384 (-1) ug), iA G aUa 1536 (flZ 1536 (-1) ua)]) (ws' := fun u => [(aU, .inr (6, [.ref aUg, .ref aUd, .int (iI ur), .int (iI uv), .int (iI uf), .ref aN, .ref aUa])), iA G aUg 384 (flZ 384 (-1) ug), iA G aUd 16 (flZ 16 (-1) ud), iA G aUa 1536 (flZ 1536 (-1) ua)]) C k_T_30 kc_jA_fill (fun l sz => m_jA_fill l G sz aUd 16 (-1) ud (by omega)) rfl rfl (Nat.le_of_ble_eq_true rfl) (by decide) d_T_forget_21 [2] [0, 1, 3] [0, 1, 3, 2] rfl rfl (by decide) (fun u => rfl) (fun u h21 => ?_)
  show Zc G X 1 0 0 [(aU, .inr (6, [.ref aUg, .ref aUd, .int (iI ur), .int (iI uv), .int (iI uf), .ref aN, .ref aUa])), iA G aUg 384 (flZ 384 (-1) ug), iA G aUd 16 (flZ 16 (-1) ud), iA G aUa 1536 (flZ 1536 (-1) ua)] [(0, .ref aU)] 24 []
  refine z_aload_n C d_T_forget_24 0 rfl ?_
  refine z_iconst C d_T_forget_25 ?_
  refine z_put C f_T_36 ok_T nm_T d_T_forget_26 0 rfl rfl rfl rfl (Nat.le_of_ble_eq_true rfl) [(aU, .inr (6, [.ref aUg, .ref aUd, .int (iI 0), .int (iI uv), .int (iI uf), .ref aN, .ref aUa])), iA G aUg 384 (flZ 384 (-1) ug), iA G aUd 16 (flZ 16 (-1) ud), iA G aUa 1536 (flZ 1536 (-1) ua)] rfl ?_
  refine z_aload_n C d_T_forget_29 0 rfl ?_
  refine z_iconst C d_T_forget_30 ?_
  refine z_put C f_T_40 ok_T nm_T d_T_forget_31 0 rfl rfl rfl rfl (Nat.le_of_ble_eq_true rfl) [(aU, .inr (6, [.ref aUg, .ref aUd, .int (iI 0), .int (iI 0), .int (iI uf), .ref aN, .ref aUa])), iA G aUg 384 (flZ 384 (-1) ug), iA G aUd 16 (flZ 16 (-1) ud), iA G aUa 1536 (flZ 1536 (-1) ua)] rfl ?_
  refine z_aload_n C d_T_forget_34 0 rfl ?_
  refine z_iconst C d_T_forget_35 ?_
  refine z_put C f_T_43 ok_T nm_T d_T_forget_36 0 rfl rfl rfl rfl (Nat.le_of_ble_eq_true rfl) [(aU, .inr (6, [.ref aUg, .ref aUd, .int (iI 0), .int (iI 0), .int (iI (-1)), .ref aN, .ref aUa])), iA G aUg 384 (flZ 384 (-1) ug), iA G aUd 16 (flZ 16 (-1) ud), iA G aUa 1536 (flZ 1536 (-1) ua)] rfl ?_
  exact z_vret C K d_T_forget_39 () (rfl) (trivial)
set_option maxHeartbeats 4000000 in
set_option maxRecDepth 100000 in
theorem m_T_pairOfSlots (l : Launch) (G : GG) (sz : Nat) (s : Int) (sl : Int)  : MetI l G sz y_T_pairOfSlots c_T_pairOfSlots 2 (some .int) ({ frames := 0, cells := 0, slots := 0, locals := 0 } : Room) [.int (iI s), .int (iI sl)] [] (fun (r : Int32) (u : Unit) => r = iI ((s * 24 + sl) - 16)) (fun (u : Unit) => []) := by
  refine MetI.mk (by decide) (Nat.le_of_ble_eq_true rfl) (fun X C K => ?_)
  show Zc G X 2 0 0 [] [(0, .int (iI s)), (1, .int (iI sl))] 0 []
  refine z_iload_n C d_T_pairOfSlots_0 0 rfl ?_
  refine z_bipush C d_T_pairOfSlots_1 (by decide) ?_
  refine z_imul C d_T_pairOfSlots_3 ?_
  refine z_iload_n C d_T_pairOfSlots_4 1 rfl ?_
  refine z_iadd C d_T_pairOfSlots_5 ?_
  refine z_bipush C d_T_pairOfSlots_6 (by decide) ?_
  refine z_isub C d_T_pairOfSlots_8 ?_
  exact z_iret C K d_T_pairOfSlots_9 (rfl) () (rfl) (congrArg iI (by omega))
set_option maxHeartbeats 4000000 in
set_option maxRecDepth 100000 in
theorem m_T_pairOf (l : Launch) (G : GG) (sz : Nat) (aU : Nat) (aUg : Nat) (aUd : Nat) (aUa : Nat) (ur : Int) (uv : Int) (uf : Int) (aN : Nat) (aNl : Nat) (aNn : Nat) (aNt : Nat) (nt : Nat → Int) (s : Int) (e : Int) (hc : cnt nt) (h1 : -2147483648 ≤ s ∧ s ≤ 2147483647 ∧ -2147483648 ≤ e ∧ e ≤ 2147483647) : MetI l G sz y_T_pairOf c_T_pairOf 3 (some .int) ({ frames := 1, cells := 0, slots := 0, locals := 21 } : Room) [.ref aU, .int (iI s), .int (iI e)] [(aU, .inr (6, [.ref aUg, .ref aUd, .int (iI ur), .int (iI uv), .int (iI uf), .ref aN, .ref aUa])), (aN, .inr (3, [.ref aNl, .ref aNn, .ref aNt])), iA G aNt 3 nt] (fun (r : Int32) (u : Unit) => r = iI (prf nt s e)) (fun (u : Unit) => [(aU, .inr (6, [.ref aUg, .ref aUd, .int (iI ur), .int (iI uv), .int (iI uf), .ref aN, .ref aUa])), (aN, .inr (3, [.ref aNl, .ref aNn, .ref aNt])), iA G aNt 3 nt]) := by
  refine MetI.mk (by decide) (Nat.le_of_ble_eq_true rfl) (fun X C K => ?_)
  show Zc G X 3 0 0 [(aU, .inr (6, [.ref aUg, .ref aUd, .int (iI ur), .int (iI uv), .int (iI uf), .ref aN, .ref aUa])), (aN, .inr (3, [.ref aNl, .ref aNn, .ref aNt])), iA G aNt 3 nt] [(0, .ref aU), (1, .int (iI s)), (2, .int (iI e))] 0 []
  have hcc := hc
  unfold cnt at hcc
  refine z_iload_n C d_T_pairOf_0 1 rfl ?_
  refine z_if_lt (tgt := 30) C d_T_pairOf_1 (by decide) (by omega) (fun c1 => ?_) (fun c1 => ?_)
  ·
    refine z_iconst C d_T_pairOf_30 ?_
    exact z_iret C K d_T_pairOf_31 (rfl) () (rfl) (congrArg iI (by unfold prf; split <;> omega))
  ·
    refine z_iload_n C d_T_pairOf_4 1 rfl ?_
    refine z_aload_n C d_T_pairOf_5 0 rfl ?_
    refine z_get C f_T_23 d_T_pairOf_6 0 rfl rfl ?_
    refine z_calli (As := []) (rest := [.int (iI s)]) (wr := [(aU, .inr (6, [.ref aUg, .ref aUd, .int (iI ur), .int (iI uv), .int (iI uf), .ref aN, .ref aUa]))]) (ws' := fun u => [(aU, .inr (6, [.ref aUg, .ref aUd, .int (iI ur), .int (iI uv), .int (iI uf), .ref aN, .ref aUa])), (aN, .inr (3, [.ref aNl, .ref aNn, .ref aNt])), iA G aNt 3 nt]) (q0 := 1) C k_T_46 kc_N_states (fun l sz => m_N_states l G sz aN aNl aNn aNt nt ) rfl rfl (Nat.le_of_ble_eq_true rfl) (by decide) d_T_pairOf_9 rfl rfl [1, 2] [0] [0, 1, 2] rfl rfl (by decide) (fun u => rfl) (fun r u h9 => ?_)
    obtain rfl := h9
    show Zc G X 3 0 0 [(aU, .inr (6, [.ref aUg, .ref aUd, .int (iI ur), .int (iI uv), .int (iI uf), .ref aN, .ref aUa])), (aN, .inr (3, [.ref aNl, .ref aNn, .ref aNt])), iA G aNt 3 nt] [(0, .ref aU), (1, .int (iI s)), (2, .int (iI e))] 12 [.int (iI (nt 0)), .int (iI s)]
    refine z_icmp_ge (tgt := 30) C d_T_pairOf_12 (by decide) (by omega) (by omega) (fun c12 => ?_) (fun c12 => ?_)
    ·
      refine z_iconst C d_T_pairOf_30 ?_
      exact z_iret C K d_T_pairOf_31 (rfl) () (rfl) (congrArg iI (by unfold prf; split <;> omega))
    ·
      refine z_iload_n C d_T_pairOf_15 2 rfl ?_
      refine z_if_lt (tgt := 30) C d_T_pairOf_16 (by decide) (by omega) (fun c16 => ?_) (fun c16 => ?_)
      ·
        refine z_iconst C d_T_pairOf_30 ?_
        exact z_iret C K d_T_pairOf_31 (rfl) () (rfl) (congrArg iI (by unfold prf; split <;> omega))
      ·
        refine z_iload_n C d_T_pairOf_19 2 rfl ?_
        refine z_aload_n C d_T_pairOf_20 0 rfl ?_
        refine z_get C f_T_23 d_T_pairOf_21 0 rfl rfl ?_
        refine z_calli (As := []) (rest := [.int (iI e)]) (wr := [(aU, .inr (6, [.ref aUg, .ref aUd, .int (iI ur), .int (iI uv), .int (iI uf), .ref aN, .ref aUa]))]) (ws' := fun u => [(aU, .inr (6, [.ref aUg, .ref aUd, .int (iI ur), .int (iI uv), .int (iI uf), .ref aN, .ref aUa])), (aN, .inr (3, [.ref aNl, .ref aNn, .ref aNt])), iA G aNt 3 nt]) (q0 := 1) C k_T_50 kc_N_events (fun l sz => m_N_events l G sz aN aNl aNn aNt nt ) rfl rfl (Nat.le_of_ble_eq_true rfl) (by decide) d_T_pairOf_24 rfl rfl [1, 2] [0] [0, 1, 2] rfl rfl (by decide) (fun u => rfl) (fun r u h24 => ?_)
        obtain rfl := h24
        show Zc G X 3 0 0 [(aU, .inr (6, [.ref aUg, .ref aUd, .int (iI ur), .int (iI uv), .int (iI uf), .ref aN, .ref aUa])), (aN, .inr (3, [.ref aNl, .ref aNn, .ref aNt])), iA G aNt 3 nt] [(0, .ref aU), (1, .int (iI s)), (2, .int (iI e))] 27 [.int (iI (nt 1 + nt 2)), .int (iI e)]
        refine z_icmp_lt (tgt := 32) C d_T_pairOf_27 (by decide) (by omega) (by omega) (fun c27 => ?_) (fun c27 => ?_)
        ·
          refine z_iload_n C d_T_pairOf_32 1 rfl ?_
          refine z_aload_n C d_T_pairOf_33 0 rfl ?_
          refine z_get C f_T_23 d_T_pairOf_34 0 rfl rfl ?_
          refine z_iload_n C d_T_pairOf_37 2 rfl ?_
          refine z_calli (As := [.int (iI e)]) (rest := [.int (iI s)]) (wr := [(aU, .inr (6, [.ref aUg, .ref aUd, .int (iI ur), .int (iI uv), .int (iI uf), .ref aN, .ref aUa]))]) (ws' := fun u => [(aU, .inr (6, [.ref aUg, .ref aUd, .int (iI ur), .int (iI uv), .int (iI uf), .ref aN, .ref aUa])), (aN, .inr (3, [.ref aNl, .ref aNn, .ref aNt])), iA G aNt 3 nt]) (q0 := 1) C k_T_53 kc_N_slotOfEvent (fun l sz => m_N_slotOfEvent l G sz aN aNl aNn aNt nt e (by omega)) rfl rfl (Nat.le_of_ble_eq_true rfl) (by decide) d_T_pairOf_38 rfl rfl [1, 2] [0] [0, 1, 2] rfl rfl (by decide) (fun u => rfl) (fun r u h38 => ?_)
          obtain rfl := h38
          show Zc G X 3 0 0 [(aU, .inr (6, [.ref aUg, .ref aUd, .int (iI ur), .int (iI uv), .int (iI uf), .ref aN, .ref aUa])), (aN, .inr (3, [.ref aNl, .ref aNn, .ref aNt])), iA G aNt 3 nt] [(0, .ref aU), (1, .int (iI s)), (2, .int (iI e))] 41 [.int (iI (evs (nt 1) e)), .int (iI s)]
          refine z_calliS (As := [.int (iI s), .int (iI (evs (nt 1) e))]) (rest := []) (wr := [(aU, .inr (6, [.ref aUg, .ref aUd, .int (iI ur), .int (iI uv), .int (iI uf), .ref aN, .ref aUa])), (aN, .inr (3, [.ref aNl, .ref aNn, .ref aNt])), iA G aNt 3 nt]) (ws' := fun u => [(aU, .inr (6, [.ref aUg, .ref aUd, .int (iI ur), .int (iI uv), .int (iI uf), .ref aN, .ref aUa])), (aN, .inr (3, [.ref aNl, .ref aNn, .ref aNt])), iA G aNt 3 nt]) C k_T_57 kc_T_pairOfSlots (fun l sz => m_T_pairOfSlots l G sz s (evs (nt 1) e) ) rfl rfl (Nat.le_of_ble_eq_true rfl) (by decide) d_T_pairOf_41 [] [0, 1, 2] [0, 1, 2] rfl rfl (by decide) (fun u => rfl) (fun r u h41 => ?_)
          obtain rfl := h41
          show Zc G X 3 0 0 [(aU, .inr (6, [.ref aUg, .ref aUd, .int (iI ur), .int (iI uv), .int (iI uf), .ref aN, .ref aUa])), (aN, .inr (3, [.ref aNl, .ref aNn, .ref aNt])), iA G aNt 3 nt] [(0, .ref aU), (1, .int (iI s)), (2, .int (iI e))] 44 [.int (iI ((s * 24 + (evs (nt 1) e)) - 16))]
          exact z_iret C K d_T_pairOf_44 (rfl) () (rfl) (congrArg iI (prf_in (by omega)).symm)
        ·
          refine z_iconst C d_T_pairOf_30 ?_
          exact z_iret C K d_T_pairOf_31 (rfl) () (rfl) (congrArg iI (by unfold prf; split <;> omega))
set_option maxHeartbeats 4000000 in
set_option maxRecDepth 100000 in
theorem m_T_goalOf (l : Launch) (G : GG) (sz : Nat) (aU : Nat) (aUg : Nat) (aUd : Nat) (aUa : Nat) (ur : Int) (uv : Int) (uf : Int) (aN : Nat) (aNl : Nat) (aNn : Nat) (aNt : Nat) (nt : Nat → Int) (ug : Nat → Int) (s : Int) (e : Int) (hc : cnt nt) (h1 : 0 ≤ s ∧ s < nt 0 ∧ 0 ≤ e ∧ e < nt 1 + nt 2) : MetI l G sz y_T_goalOf c_T_goalOf 4 (some .int) ({ frames := 2, cells := 0, slots := 0, locals := 43 } : Room) [.ref aU, .int (iI s), .int (iI e)] [(aU, .inr (6, [.ref aUg, .ref aUd, .int (iI ur), .int (iI uv), .int (iI uf), .ref aN, .ref aUa])), (aN, .inr (3, [.ref aNl, .ref aNn, .ref aNt])), iA G aNt 3 nt, iA G aUg 384 ug] (fun (r : Int32) (u : Unit) => r = iI (ug (prf nt s e).toNat)) (fun (u : Unit) => [(aU, .inr (6, [.ref aUg, .ref aUd, .int (iI ur), .int (iI uv), .int (iI uf), .ref aN, .ref aUa])), (aN, .inr (3, [.ref aNl, .ref aNn, .ref aNt])), iA G aNt 3 nt, iA G aUg 384 ug]) := by
  refine MetI.mk (by decide) (Nat.le_of_ble_eq_true rfl) (fun X C K => ?_)
  show Zc G X 4 0 0 [(aU, .inr (6, [.ref aUg, .ref aUd, .int (iI ur), .int (iI uv), .int (iI uf), .ref aN, .ref aUa])), (aN, .inr (3, [.ref aNl, .ref aNn, .ref aNt])), iA G aNt 3 nt, iA G aUg 384 ug] [(0, .ref aU), (1, .int (iI s)), (2, .int (iI e))] 0 []
  have hcc := hc
  unfold cnt at hcc
  have hpr := prf_rg hc h1
  refine z_aload_n C d_T_goalOf_0 0 rfl ?_
  refine z_iload_n C d_T_goalOf_1 1 rfl ?_
  refine z_iload_n C d_T_goalOf_2 2 rfl ?_
  refine z_calli (As := [.int (iI s), .int (iI e)]) (rest := []) (wr := [iA G aUg 384 ug]) (ws' := fun u => [(aU, .inr (6, [.ref aUg, .ref aUd, .int (iI ur), .int (iI uv), .int (iI uf), .ref aN, .ref aUa])), (aN, .inr (3, [.ref aNl, .ref aNn, .ref aNt])), iA G aNt 3 nt, iA G aUg 384 ug]) (q0 := 0) C k_T_61 kc_T_pairOf (fun l sz => m_T_pairOf l G sz aU aUg aUd aUa ur uv uf aN aNl aNn aNt nt s e (hc) (by omega)) rfl rfl (Nat.le_of_ble_eq_true rfl) (by decide) d_T_goalOf_3 rfl rfl [0, 1, 2] [3] [1, 2, 3, 0] rfl rfl (by decide) (fun u => rfl) (fun r u h3 => ?_)
  obtain rfl := h3
  show Zc G X 4 0 0 [(aU, .inr (6, [.ref aUg, .ref aUd, .int (iI ur), .int (iI uv), .int (iI uf), .ref aN, .ref aUa])), (aN, .inr (3, [.ref aNl, .ref aNn, .ref aNt])), iA G aNt 3 nt, iA G aUg 384 ug] [(0, .ref aU), (1, .int (iI s)), (2, .int (iI e))] 6 [.int (iI (prf nt s e))]
  refine z_istore_n (lv' := [(3, .int (iI (prf nt s e))), (0, .ref aU), (1, .int (iI s)), (2, .int (iI e))]) C d_T_goalOf_6 (by decide) rfl ?_
  refine z_iload_n C d_T_goalOf_7 0 rfl ?_
  refine z_iconst C d_T_goalOf_8 ?_
  refine z_icmp_ne (tgt := 16) C d_T_goalOf_9 (by decide) (by omega) (by omega) (fun c9 => ?_) (fun c9 => ?_)
  ·
    refine z_aload_n C d_T_goalOf_16 1 rfl ?_
    refine z_get C f_T_13 d_T_goalOf_17 0 rfl rfl ?_
    refine z_iload_n C d_T_goalOf_20 0 rfl ?_
    refine z_iald C d_T_goalOf_21 3 rfl (by omega) ?_
    exact z_iret C K d_T_goalOf_22 (rfl) () (rfl) (congrArg iI (by omega))
  · exact absurd c9 (by omega)
set_option maxHeartbeats 4000000 in
set_option maxRecDepth 100000 in
theorem m_T_actionOf (l : Launch) (G : GG) (sz : Nat) (aU : Nat) (aUg : Nat) (aUd : Nat) (aUa : Nat) (ur : Int) (uv : Int) (uf : Int) (aN : Nat) (ua : Nat → Int) (p : Int) (j : Int) (h1 : 0 ≤ p ∧ p < 384 ∧ 0 ≤ j ∧ j ≤ 2147483647) : MetI l G sz y_T_actionOf c_T_actionOf 3 (some .int) ({ frames := 0, cells := 0, slots := 0, locals := 0 } : Room) [.ref aU, .int (iI p), .int (iI j)] [(aU, .inr (6, [.ref aUg, .ref aUd, .int (iI ur), .int (iI uv), .int (iI uf), .ref aN, .ref aUa])), iA G aUa 1536 ua] (fun (r : Int32) (u : Unit) => r = iI (aco ua p j)) (fun (u : Unit) => [(aU, .inr (6, [.ref aUg, .ref aUd, .int (iI ur), .int (iI uv), .int (iI uf), .ref aN, .ref aUa])), iA G aUa 1536 ua]) := by
  refine MetI.mk (by decide) (Nat.le_of_ble_eq_true rfl) (fun X C K => ?_)
  show Zc G X 3 0 0 [(aU, .inr (6, [.ref aUg, .ref aUd, .int (iI ur), .int (iI uv), .int (iI uf), .ref aN, .ref aUa])), iA G aUa 1536 ua] [(0, .ref aU), (1, .int (iI p)), (2, .int (iI j))] 0 []
  refine z_iload_n C d_T_actionOf_0 2 rfl ?_
  refine z_iconst C d_T_actionOf_1 ?_
  refine z_icmp_ge (tgt := 18) C d_T_actionOf_2 (by decide) (by omega) (by omega) (fun c2 => ?_) (fun c2 => ?_)
  ·
    refine z_iconst C d_T_actionOf_18 ?_
    exact z_iret C K d_T_actionOf_19 (rfl) () (rfl) (congrArg iI (by unfold aco; split <;> first | rfl | omega))
  ·
    refine z_aload_n C d_T_actionOf_5 0 rfl ?_
    refine z_get C f_T_20 d_T_actionOf_6 0 rfl rfl ?_
    refine z_iload_n C d_T_actionOf_9 1 rfl ?_
    refine z_iconst C d_T_actionOf_10 ?_
    refine z_imul C d_T_actionOf_11 ?_
    refine z_iload_n C d_T_actionOf_12 2 rfl ?_
    refine z_iadd C d_T_actionOf_13 ?_
    refine z_iald C d_T_actionOf_14 1 rfl (by omega) ?_
    refine z_goto (tgt := 19) C d_T_actionOf_15 (by decide) ?_
    exact z_iret C K d_T_actionOf_19 (rfl) () (rfl) (congrArg iI (by unfold aco; split <;> first | rfl | omega))
set_option maxHeartbeats 4000000 in
set_option maxRecDepth 100000 in
theorem m_T_setAction (l : Launch) (G : GG) (sz : Nat) (aU : Nat) (aUg : Nat) (aUd : Nat) (aUa : Nat) (ur : Int) (uv : Int) (uf : Int) (aN : Nat) (ua : Nat → Int) (p : Int) (j : Int) (v : Int) (h1 : 0 ≤ p ∧ p < 384 ∧ 0 ≤ j ∧ j < 4) : MetV l G sz y_T_setAction c_T_setAction 4 ({ frames := 0, cells := 0, slots := 0, locals := 0 } : Room) [.ref aU, .int (iI p), .int (iI j), .int (iI v)] [(aU, .inr (6, [.ref aUg, .ref aUd, .int (iI ur), .int (iI uv), .int (iI uf), .ref aN, .ref aUa])), iA G aUa 1536 ua] (fun (u : Unit) => True) (fun (u : Unit) => [(aU, .inr (6, [.ref aUg, .ref aUd, .int (iI ur), .int (iI uv), .int (iI uf), .ref aN, .ref aUa])), iA G aUa 1536 (uZ ua (p * 4 + j).toNat v)]) := by
  refine MetV.mk (by decide) (Nat.le_of_ble_eq_true rfl) (fun X C K => ?_)
  show Zc G X 4 0 0 [(aU, .inr (6, [.ref aUg, .ref aUd, .int (iI ur), .int (iI uv), .int (iI uf), .ref aN, .ref aUa])), iA G aUa 1536 ua] [(0, .ref aU), (1, .int (iI p)), (2, .int (iI j)), (3, .int (iI v))] 0 []
  refine z_aload_n C d_T_setAction_0 0 rfl ?_
  refine z_get C f_T_20 d_T_setAction_1 0 rfl rfl ?_
  refine z_iload_n C d_T_setAction_4 1 rfl ?_
  refine z_iconst C d_T_setAction_5 ?_
  refine z_imul C d_T_setAction_6 ?_
  refine z_iload_n C d_T_setAction_7 2 rfl ?_
  refine z_iadd C d_T_setAction_8 ?_
  refine z_iload_n C d_T_setAction_9 3 rfl ?_
  refine z_iast C d_T_setAction_10 1 rfl (by omega) [(aU, .inr (6, [.ref aUg, .ref aUd, .int (iI ur), .int (iI uv), .int (iI uf), .ref aN, .ref aUa])), iA G aUa 1536 (uZ ua (((p * 4) + j).toNat) v)] (rfl) ?_
  exact z_vret C K d_T_setAction_11 () (rfl) (trivial)
set_option maxHeartbeats 4000000 in
set_option maxRecDepth 100000 in
theorem m_T_setRule (l : Launch) (G : GG) (sz : Nat) (aU : Nat) (aUg : Nat) (aUd : Nat) (aUa : Nat) (ur : Int) (uv : Int) (uf : Int) (aN : Nat) (ug : Nat → Int) (p : Int) (g : Int) (h1 : 0 ≤ p ∧ p < 384) : MetV l G sz y_T_setRule c_T_setRule 3 ({ frames := 0, cells := 0, slots := 0, locals := 0 } : Room) [.ref aU, .int (iI p), .int (iI g)] [(aU, .inr (6, [.ref aUg, .ref aUd, .int (iI ur), .int (iI uv), .int (iI uf), .ref aN, .ref aUa])), iA G aUg 384 ug] (fun (u : Unit) => True) (fun (u : Unit) => [(aU, .inr (6, [.ref aUg, .ref aUd, .int (iI (ur + 1)), .int (iI uv), .int (iI uf), .ref aN, .ref aUa])), iA G aUg 384 (uZ ug p.toNat g)]) := by
  refine MetV.mk (by decide) (Nat.le_of_ble_eq_true rfl) (fun X C K => ?_)
  show Zc G X 3 0 0 [(aU, .inr (6, [.ref aUg, .ref aUd, .int (iI ur), .int (iI uv), .int (iI uf), .ref aN, .ref aUa])), iA G aUg 384 ug] [(0, .ref aU), (1, .int (iI p)), (2, .int (iI g))] 0 []
  refine z_aload_n C d_T_setRule_0 0 rfl ?_
  refine z_get C f_T_13 d_T_setRule_1 0 rfl rfl ?_
  refine z_iload_n C d_T_setRule_4 1 rfl ?_
  refine z_iload_n C d_T_setRule_5 2 rfl ?_
  refine z_iast C d_T_setRule_6 1 rfl (by omega) [(aU, .inr (6, [.ref aUg, .ref aUd, .int (iI ur), .int (iI uv), .int (iI uf), .ref aN, .ref aUa])), iA G aUg 384 (uZ ug p.toNat g)] (rfl) ?_
  refine z_aload_n C d_T_setRule_7 0 rfl ?_
  refine z_dup C d_T_setRule_8 rfl ?_
  refine z_get C f_T_36 d_T_setRule_9 0 rfl rfl ?_
  refine z_iconst C d_T_setRule_12 ?_
  refine z_iadd C d_T_setRule_13 ?_
  refine z_put C f_T_36 ok_T nm_T d_T_setRule_14 0 rfl rfl rfl rfl (Nat.le_of_ble_eq_true rfl) [(aU, .inr (6, [.ref aUg, .ref aUd, .int (iI (ur + 1)), .int (iI uv), .int (iI uf), .ref aN, .ref aUa])), iA G aUg 384 (uZ ug p.toNat g)] rfl ?_
  exact z_vret C K d_T_setRule_17 () (rfl) (trivial)
set_option maxHeartbeats 4000000 in
set_option maxRecDepth 100000 in
theorem m_T_setNever (l : Launch) (G : GG) (sz : Nat) (aU : Nat) (aUg : Nat) (aUd : Nat) (aUa : Nat) (ur : Int) (uv : Int) (uf : Int) (aN : Nat) (ug : Nat → Int) (p : Int) (h1 : 0 ≤ p ∧ p < 384) : MetV l G sz y_T_setNever c_T_setNever 2 ({ frames := 0, cells := 0, slots := 0, locals := 0 } : Room) [.ref aU, .int (iI p)] [(aU, .inr (6, [.ref aUg, .ref aUd, .int (iI ur), .int (iI uv), .int (iI uf), .ref aN, .ref aUa])), iA G aUg 384 ug] (fun (u : Unit) => True) (fun (u : Unit) => [(aU, .inr (6, [.ref aUg, .ref aUd, .int (iI ur), .int (iI (uv + 1)), .int (iI uf), .ref aN, .ref aUa])), iA G aUg 384 (uZ ug p.toNat (-2))]) := by
  refine MetV.mk (by decide) (Nat.le_of_ble_eq_true rfl) (fun X C K => ?_)
  show Zc G X 2 0 0 [(aU, .inr (6, [.ref aUg, .ref aUd, .int (iI ur), .int (iI uv), .int (iI uf), .ref aN, .ref aUa])), iA G aUg 384 ug] [(0, .ref aU), (1, .int (iI p))] 0 []
  refine z_aload_n C d_T_setNever_0 0 rfl ?_
  refine z_get C f_T_13 d_T_setNever_1 0 rfl rfl ?_
  refine z_iload_n C d_T_setNever_4 1 rfl ?_
  refine z_bipush C d_T_setNever_5 (by decide) ?_
  refine z_iast C d_T_setNever_7 1 rfl (by omega) [(aU, .inr (6, [.ref aUg, .ref aUd, .int (iI ur), .int (iI uv), .int (iI uf), .ref aN, .ref aUa])), iA G aUg 384 (uZ ug p.toNat (-2))] (rfl) ?_
  refine z_aload_n C d_T_setNever_8 0 rfl ?_
  refine z_dup C d_T_setNever_9 rfl ?_
  refine z_get C f_T_40 d_T_setNever_10 0 rfl rfl ?_
  refine z_iconst C d_T_setNever_13 ?_
  refine z_iadd C d_T_setNever_14 ?_
  refine z_put C f_T_40 ok_T nm_T d_T_setNever_15 0 rfl rfl rfl rfl (Nat.le_of_ble_eq_true rfl) [(aU, .inr (6, [.ref aUg, .ref aUd, .int (iI ur), .int (iI (uv + 1)), .int (iI uf), .ref aN, .ref aUa])), iA G aUg 384 (uZ ug p.toNat (-2))] rfl ?_
  exact z_vret C K d_T_setNever_18 () (rfl) (trivial)
set_option maxHeartbeats 4000000 in
set_option maxRecDepth 100000 in
theorem m_T_isReached (l : Launch) (G : GG) (sz : Nat) (aU : Nat) (aUg : Nat) (aUd : Nat) (aUa : Nat) (ur : Int) (uv : Int) (uf : Int) (aN : Nat) (ud : Nat → Int) (s : Int) (h1 : 0 ≤ s ∧ s < 16) (hd : dst ud) : MetI l G sz y_T_isReached c_T_isReached 2 (some .boolean) ({ frames := 0, cells := 0, slots := 0, locals := 0 } : Room) [.ref aU, .int (iI s)] [(aU, .inr (6, [.ref aUg, .ref aUd, .int (iI ur), .int (iI uv), .int (iI uf), .ref aN, .ref aUa])), iA G aUd 16 ud] (fun (r : Int32) (u : Unit) => r = iI (rch ud s)) (fun (u : Unit) => [(aU, .inr (6, [.ref aUg, .ref aUd, .int (iI ur), .int (iI uv), .int (iI uf), .ref aN, .ref aUa])), iA G aUd 16 ud]) := by
  refine MetI.mk (by decide) (Nat.le_of_ble_eq_true rfl) (fun X C K => ?_)
  show Zc G X 2 0 0 [(aU, .inr (6, [.ref aUg, .ref aUd, .int (iI ur), .int (iI uv), .int (iI uf), .ref aN, .ref aUa])), iA G aUd 16 ud] [(0, .ref aU), (1, .int (iI s))] 0 []
  have hds := hd s.toNat
  refine z_aload_n C d_T_isReached_0 0 rfl ?_
  refine z_get C f_T_17 d_T_isReached_1 0 rfl rfl ?_
  refine z_iload_n C d_T_isReached_4 1 rfl ?_
  refine z_iald C d_T_isReached_5 1 rfl (by omega) ?_
  refine z_iconst C d_T_isReached_6 ?_
  refine z_icmp_eq (tgt := 14) C d_T_isReached_7 (by decide) (by omega) (by omega) (fun c7 => ?_) (fun c7 => ?_)
  ·
    refine z_iconst C d_T_isReached_14 ?_
    exact z_iret C K d_T_isReached_15 (by decide) () (rfl) (congrArg iI (by unfold rch; split <;> first | rfl | omega))
  ·
    refine z_iconst C d_T_isReached_10 ?_
    refine z_goto (tgt := 15) C d_T_isReached_11 (by decide) ?_
    exact z_iret C K d_T_isReached_15 (by decide) () (rfl) (congrArg iI (by unfold rch; split <;> first | rfl | omega))
set_option maxHeartbeats 4000000 in
set_option maxRecDepth 100000 in
theorem m_T_sends (l : Launch) (G : GG) (sz : Nat) (aU : Nat) (aUg : Nat) (aUd : Nat) (aUa : Nat) (ur : Int) (uv : Int) (uf : Int) (aN : Nat) (ua : Nat → Int) (s : Int) (m : Int) (h1 : 0 ≤ s ∧ s < 16) (ha : act ua) (hm0 : -2147483648 ≤ m ∧ m ≤ 2147483647) : MetI l G sz y_T_sends c_T_sends 5 (some .boolean) ({ frames := 0, cells := 0, slots := 0, locals := 0 } : Room) [.ref aU, .int (iI s), .int (iI m)] [(aU, .inr (6, [.ref aUg, .ref aUd, .int (iI ur), .int (iI uv), .int (iI uf), .ref aN, .ref aUa])), iA G aUa 1536 ua] (fun (r : Int32) (u : Int) => r = iI u ∧ ((u = 1 ∧ snd_ ua s m) ∨ (u = 0 ∧ ¬ snd_ ua s m))) (fun (u : Int) => [(aU, .inr (6, [.ref aUg, .ref aUd, .int (iI ur), .int (iI uv), .int (iI uf), .ref aN, .ref aUa])), iA G aUa 1536 ua]) := by
  refine MetI.mk (by decide) (Nat.le_of_ble_eq_true rfl) (fun X C K => ?_)
  show Zc G X 5 0 0 [(aU, .inr (6, [.ref aUg, .ref aUd, .int (iI ur), .int (iI uv), .int (iI uf), .ref aN, .ref aUa])), iA G aUa 1536 ua] [(0, .ref aU), (1, .int (iI s)), (2, .int (iI m))] 0 []
  refine z_bipush C d_T_sends_0 (by decide) ?_
  refine z_istore_n (lv' := [(3, .int (iI 96)), (0, .ref aU), (1, .int (iI s)), (2, .int (iI m))]) C d_T_sends_2 (by decide) rfl ?_
  refine z_iconst C d_T_sends_3 ?_
  refine z_istore (lv' := [(4, .int (iI 0)), (3, .int (iI 96)), (0, .ref aU), (1, .int (iI s)), (2, .int (iI m))]) C d_T_sends_4 (by decide) rfl ?_
  have loop6 : ∀ (kq : Nat) (k : Int), (0 ≤ k ∧ k ≤ 96) → (∀ j : Nat, (j : Int) < k → ¬ ua (s * 96 + j).toNat = m) → ((96 - k).toNat < kq) → Zc G X 5 0 0 [(aU, .inr (6, [.ref aUg, .ref aUd, .int (iI ur), .int (iI uv), .int (iI uf), .ref aN, .ref aUa])), iA G aUa 1536 ua] [(0, .ref aU), (1, .int (iI s)), (2, .int (iI m)), (3, .int (iI 96)), (4, .int (iI k))] 6 [] := by
    intro kq
    induction kq with
    | zero => intro k hk hE hm; exact absurd hm (Nat.not_lt_zero _)
    | succ kq ih6 =>
      intro k hk hE hm
      have hak := ha (s * 96 + k).toNat
      -- loop body
      refine z_iload C d_T_sends_6 4 rfl ?_
      refine z_iload_n C d_T_sends_8 3 rfl ?_
      refine z_icmp_ge (tgt := 35) C d_T_sends_9 (by decide) (by omega) (by omega) (fun c9 => ?_) (fun c9 => ?_)
      ·
        refine z_iconst C d_T_sends_35 ?_
        exact z_iret C K d_T_sends_36 (by decide) 0 (rfl) (show iI 0 = iI 0 ∧ ((0 = 1 ∧ snd_ ua s m) ∨ (0 = 0 ∧ ¬ snd_ ua s m)) from ⟨rfl, Or.inr ⟨rfl, fun ⟨j, hj, z⟩ => hE j (by omega) z⟩⟩)
      ·
        refine z_aload_n C d_T_sends_12 0 rfl ?_
        refine z_get C f_T_20 d_T_sends_13 0 rfl rfl ?_
        refine z_iload_n C d_T_sends_16 1 rfl ?_
        refine z_iload_n C d_T_sends_17 3 rfl ?_
        refine z_imul C d_T_sends_18 ?_
        refine z_iload C d_T_sends_19 4 rfl ?_
        refine z_iadd C d_T_sends_21 ?_
        refine z_iald C d_T_sends_22 1 rfl (by omega) ?_
        refine z_iload_n C d_T_sends_23 2 rfl ?_
        refine z_icmp_ne (tgt := 29) C d_T_sends_24 (by decide) (by omega) (by omega) (fun c24 => ?_) (fun c24 => ?_)
        ·
          refine z_iinc (lv' := [(4, .int (iI (k + 1))), (0, .ref aU), (1, .int (iI s)), (2, .int (iI m)), (3, .int (iI 96))]) C d_T_sends_29 4 rfl (by decide) rfl ?_
          refine z_goto (tgt := 6) C d_T_sends_32 (by decide) ?_
          refine z_lv [1, 2, 3, 4, 0] (lv' := [(0, .ref aU), (1, .int (iI s)), (2, .int (iI m)), (3, .int (iI 96)), (4, .int (iI (k + 1)))]) rfl ?_
          exact ih6 _ (by omega) (fun j hj => if e : (j : Int) = k then by rw [e]; exact c24 else hE j (by omega)) (by omega)
        ·
          refine z_iconst C d_T_sends_27 ?_
          exact z_iret C K d_T_sends_28 (by decide) 1 (rfl) (show iI 1 = iI 1 ∧ ((1 = 1 ∧ snd_ ua s m) ∨ (1 = 0 ∧ ¬ snd_ ua s m)) from ⟨rfl, Or.inl ⟨rfl, k.toNat, by omega, by rw [show ((k.toNat : Nat) : Int) = k by omega]; exact Decidable.of_not_not c24⟩⟩)
  refine z_lv [2, 3, 4, 1, 0] (lv' := [(0, .ref aU), (1, .int (iI s)), (2, .int (iI m)), (3, .int (iI 96)), (4, .int (iI 0))]) rfl ?_
  exact loop6 (_ + 1) _ (by omega) (fun j hj => absurd hj (by omega)) (Nat.lt_succ_self _)
set_option maxHeartbeats 4000000 in
set_option maxRecDepth 100000 in
theorem m_T_isSent (l : Launch) (G : GG) (sz : Nat) (aU : Nat) (aUg : Nat) (aUd : Nat) (aUa : Nat) (ur : Int) (uv : Int) (uf : Int) (aN : Nat) (aNl : Nat) (aNn : Nat) (aNt : Nat) (nt : Nat → Int) (ud : Nat → Int) (ua : Nat → Int) (m : Int) (hc : cnt nt) (hd : dst ud) (ha : act ua) (hm0 : -2147483648 ≤ m ∧ m ≤ 2147483647) : MetI l G sz y_T_isSent c_T_isSent 3 (some .boolean) ({ frames := 1, cells := 0, slots := 0, locals := 24 } : Room) [.ref aU, .int (iI m)] [(aU, .inr (6, [.ref aUg, .ref aUd, .int (iI ur), .int (iI uv), .int (iI uf), .ref aN, .ref aUa])), (aN, .inr (3, [.ref aNl, .ref aNn, .ref aNt])), iA G aNt 3 nt, iA G aUd 16 ud, iA G aUa 1536 ua] (fun (r : Int32) (u : Int) => r = iI u ∧ ((u = 1 ∧ snt nt ud ua m) ∨ (u = 0 ∧ ¬ snt nt ud ua m))) (fun (u : Int) => [(aU, .inr (6, [.ref aUg, .ref aUd, .int (iI ur), .int (iI uv), .int (iI uf), .ref aN, .ref aUa])), (aN, .inr (3, [.ref aNl, .ref aNn, .ref aNt])), iA G aNt 3 nt, iA G aUd 16 ud, iA G aUa 1536 ua]) := by
  refine MetI.mk (by decide) (Nat.le_of_ble_eq_true rfl) (fun X C K => ?_)
  show Zc G X 3 0 0 [(aU, .inr (6, [.ref aUg, .ref aUd, .int (iI ur), .int (iI uv), .int (iI uf), .ref aN, .ref aUa])), (aN, .inr (3, [.ref aNl, .ref aNn, .ref aNt])), iA G aNt 3 nt, iA G aUd 16 ud, iA G aUa 1536 ua] [(0, .ref aU), (1, .int (iI m))] 0 []
  have hcc := hc
  unfold cnt at hcc
  refine z_iconst C d_T_isSent_0 ?_
  refine z_istore_n (lv' := [(2, .int (iI 0)), (0, .ref aU), (1, .int (iI m))]) C d_T_isSent_1 (by decide) rfl ?_
  have loop2 : ∀ (kq : Nat) (k : Int), (0 ≤ k ∧ k ≤ nt 0) → (∀ s : Int, 0 ≤ s → s < k → ¬ (¬ ud s.toNat = -1 ∧ snd_ ua s m)) → ((nt 0 - k).toNat < kq) → Zc G X 3 0 0 [(aU, .inr (6, [.ref aUg, .ref aUd, .int (iI ur), .int (iI uv), .int (iI uf), .ref aN, .ref aUa])), (aN, .inr (3, [.ref aNl, .ref aNn, .ref aNt])), iA G aNt 3 nt, iA G aUd 16 ud, iA G aUa 1536 ua] [(0, .ref aU), (1, .int (iI m)), (2, .int (iI k))] 2 [] := by
    intro kq
    induction kq with
    | zero => intro k hk hE hm; exact absurd hm (Nat.not_lt_zero _)
    | succ kq ih2 =>
      intro k hk hE hm
      -- loop body
      refine z_iload_n C d_T_isSent_2 2 rfl ?_
      refine z_aload_n C d_T_isSent_3 0 rfl ?_
      refine z_get C f_T_23 d_T_isSent_4 0 rfl rfl ?_
      refine z_calli (As := []) (rest := [.int (iI k)]) (wr := [(aU, .inr (6, [.ref aUg, .ref aUd, .int (iI ur), .int (iI uv), .int (iI uf), .ref aN, .ref aUa])), iA G aUd 16 ud, iA G aUa 1536 ua]) (ws' := fun u => [(aU, .inr (6, [.ref aUg, .ref aUd, .int (iI ur), .int (iI uv), .int (iI uf), .ref aN, .ref aUa])), (aN, .inr (3, [.ref aNl, .ref aNn, .ref aNt])), iA G aNt 3 nt, iA G aUd 16 ud, iA G aUa 1536 ua]) (q0 := 1) C k_T_46 kc_N_states (fun l sz => m_N_states l G sz aN aNl aNn aNt nt ) rfl rfl (Nat.le_of_ble_eq_true rfl) (by decide) d_T_isSent_7 rfl rfl [1, 2] [0, 3, 4] [0, 3, 4, 1, 2] rfl rfl (by decide) (fun u => rfl) (fun r u h7 => ?_)
      obtain rfl := h7
      show Zc G X 3 0 0 [(aU, .inr (6, [.ref aUg, .ref aUd, .int (iI ur), .int (iI uv), .int (iI uf), .ref aN, .ref aUa])), (aN, .inr (3, [.ref aNl, .ref aNn, .ref aNt])), iA G aNt 3 nt, iA G aUd 16 ud, iA G aUa 1536 ua] [(0, .ref aU), (1, .int (iI m)), (2, .int (iI k))] 10 [.int (iI (nt 0)), .int (iI k)]
      refine z_icmp_ge (tgt := 38) C d_T_isSent_10 (by decide) (by omega) (by omega) (fun c10 => ?_) (fun c10 => ?_)
      ·
        refine z_iconst C d_T_isSent_38 ?_
        exact z_iret C K d_T_isSent_39 (by decide) 0 (rfl) (show iI 0 = iI 0 ∧ ((0 = 1 ∧ snt nt ud ua m) ∨ (0 = 0 ∧ ¬ snt nt ud ua m)) from ⟨rfl, Or.inr ⟨rfl, fun ⟨s, h0, h1, z⟩ => hE s h0 (by omega) z⟩⟩)
      ·
        refine z_aload_n C d_T_isSent_13 0 rfl ?_
        refine z_iload_n C d_T_isSent_14 2 rfl ?_
        refine z_calli (As := [.int (iI k)]) (rest := []) (wr := [(aN, .inr (3, [.ref aNl, .ref aNn, .ref aNt])), iA G aNt 3 nt, iA G aUa 1536 ua]) (ws' := fun u => [(aU, .inr (6, [.ref aUg, .ref aUd, .int (iI ur), .int (iI uv), .int (iI uf), .ref aN, .ref aUa])), (aN, .inr (3, [.ref aNl, .ref aNn, .ref aNt])), iA G aNt 3 nt, iA G aUd 16 ud, iA G aUa 1536 ua]) (q0 := 0) C k_T_68 kc_T_isReached (fun l sz => m_T_isReached l G sz aU aUg aUd aUa ur uv uf aN ud k (by omega) (by omega)) rfl rfl (Nat.le_of_ble_eq_true rfl) (by decide) d_T_isSent_15 rfl rfl [0, 3] [1, 2, 4] [3, 0, 1, 4, 2] rfl rfl (by decide) (fun u => rfl) (fun r u h15 => ?_)
        obtain rfl := h15
        show Zc G X 3 0 0 [(aU, .inr (6, [.ref aUg, .ref aUd, .int (iI ur), .int (iI uv), .int (iI uf), .ref aN, .ref aUa])), (aN, .inr (3, [.ref aNl, .ref aNn, .ref aNt])), iA G aNt 3 nt, iA G aUd 16 ud, iA G aUa 1536 ua] [(0, .ref aU), (1, .int (iI m)), (2, .int (iI k))] 18 [.int (iI (rch ud k))]
        refine z_if_eq (tgt := 32) C d_T_isSent_18 (by decide) (by unfold rch; split <;> omega) (fun c18 => ?_) (fun c18 => ?_)
        ·
          first | (have c18 : ud k.toNat = -1 := Decidable.byContradiction (fun z => by unfold rch at c18; rw [if_neg z] at c18; omega)) | skip
          refine z_iinc (lv' := [(2, .int (iI (k + 1))), (0, .ref aU), (1, .int (iI m))]) C d_T_isSent_32 2 rfl (by decide) rfl ?_
          refine z_goto (tgt := 2) C d_T_isSent_35 (by decide) ?_
          refine z_lv [1, 2, 0] (lv' := [(0, .ref aU), (1, .int (iI m)), (2, .int (iI (k + 1)))]) rfl ?_
          exact ih2 _ (by omega) (fun s h0 hj => if e : s = k then by rw [e]; exact fun z => z.1 c18 else hE s h0 (by omega)) (by omega)
        ·
          have c18 : ¬ ud k.toNat = -1 := fun z => c18 (by unfold rch; rw [if_pos z])
          refine z_aload_n C d_T_isSent_21 0 rfl ?_
          refine z_iload_n C d_T_isSent_22 2 rfl ?_
          refine z_iload_n C d_T_isSent_23 1 rfl ?_
          refine z_calli (As := [.int (iI k), .int (iI m)]) (rest := []) (wr := [(aN, .inr (3, [.ref aNl, .ref aNn, .ref aNt])), iA G aNt 3 nt, iA G aUd 16 ud]) (ws' := fun u => [(aU, .inr (6, [.ref aUg, .ref aUd, .int (iI ur), .int (iI uv), .int (iI uf), .ref aN, .ref aUa])), (aN, .inr (3, [.ref aNl, .ref aNn, .ref aNt])), iA G aNt 3 nt, iA G aUd 16 ud, iA G aUa 1536 ua]) (q0 := 0) C k_T_72 kc_T_sends (fun l sz => m_T_sends l G sz aU aUg aUd aUa ur uv uf aN ua k m (by omega) (by omega) (by omega)) rfl rfl (Nat.le_of_ble_eq_true rfl) (by decide) d_T_isSent_24 rfl rfl [0, 4] [1, 2, 3] [3, 0, 1, 2, 4] rfl rfl (by decide) (fun u => rfl) (fun r u h24 => ?_)
          obtain ⟨rr_24, rfl⟩ : ∃ z, z = u := ⟨_, rfl⟩
          obtain ⟨rfl, he_24⟩ := h24
          have he_24 : (rr_24 = 1 ∧ snd_ ua k m) ∨ (rr_24 = 0 ∧ ¬ snd_ ua k m) := he_24
          show Zc G X 3 0 0 [(aU, .inr (6, [.ref aUg, .ref aUd, .int (iI ur), .int (iI uv), .int (iI uf), .ref aN, .ref aUa])), (aN, .inr (3, [.ref aNl, .ref aNn, .ref aNt])), iA G aNt 3 nt, iA G aUd 16 ud, iA G aUa 1536 ua] [(0, .ref aU), (1, .int (iI m)), (2, .int (iI k))] 27 [.int (iI rr_24)]
          rcases he_24 with ⟨rfl, s27⟩ | ⟨rfl, s27⟩
          ·
            skip
            refine z_if_eq (tgt := 32) C d_T_isSent_27 (by decide) (by omega) (fun c27 => ?_) (fun c27 => ?_)
            · exact absurd c27 (by omega)
            ·
              refine z_iconst C d_T_isSent_30 ?_
              exact z_iret C K d_T_isSent_31 (by decide) 1 (rfl) (show iI 1 = iI 1 ∧ ((1 = 1 ∧ snt nt ud ua m) ∨ (1 = 0 ∧ ¬ snt nt ud ua m)) from ⟨rfl, Or.inl ⟨rfl, k, by omega, by omega, c18, s27⟩⟩)
          ·
            skip
            refine z_if_eq (tgt := 32) C d_T_isSent_27 (by decide) (by omega) (fun c27 => ?_) (fun c27 => ?_)
            ·
              first | (have c18 : ud k.toNat = -1 := Decidable.byContradiction (fun z => by unfold rch at c18; rw [if_neg z] at c18; omega)) | skip
              refine z_iinc (lv' := [(2, .int (iI (k + 1))), (0, .ref aU), (1, .int (iI m))]) C d_T_isSent_32 2 rfl (by decide) rfl ?_
              refine z_goto (tgt := 2) C d_T_isSent_35 (by decide) ?_
              refine z_lv [1, 2, 0] (lv' := [(0, .ref aU), (1, .int (iI m)), (2, .int (iI (k + 1)))]) rfl ?_
              exact ih2 _ (by omega) (fun s h0 hj => if e : s = k then by rw [e]; exact fun z => s27 z.2 else hE s h0 (by omega)) (by omega)
            · exact absurd c27 (by omega)
  refine z_lv [1, 2, 0] (lv' := [(0, .ref aU), (1, .int (iI m)), (2, .int (iI 0))]) rfl ?_
  exact loop2 (_ + 1) _ (by omega) (fun j h0 hj => absurd hj (by omega)) (Nat.lt_succ_self _)
set_option maxHeartbeats 4000000 in
set_option maxRecDepth 100000 in
theorem m_T_isAwaited (l : Launch) (G : GG) (sz : Nat) (aU : Nat) (aUg : Nat) (aUd : Nat) (aUa : Nat) (ur : Int) (uv : Int) (uf : Int) (aN : Nat) (aNl : Nat) (aNn : Nat) (aNt : Nat) (nt : Nat → Int) (ud : Nat → Int) (ug : Nat → Int) (m : Int) (hc : cnt nt) (hd : dst ud) (hg : gol ug) (hm0 : 0 ≤ m ∧ m < 16) : MetI l G sz y_T_isAwaited c_T_isAwaited 3 (some .boolean) ({ frames := 1, cells := 0, slots := 0, locals := 21 } : Room) [.ref aU, .int (iI m)] [(aU, .inr (6, [.ref aUg, .ref aUd, .int (iI ur), .int (iI uv), .int (iI uf), .ref aN, .ref aUa])), (aN, .inr (3, [.ref aNl, .ref aNn, .ref aNt])), iA G aNt 3 nt, iA G aUd 16 ud, iA G aUg 384 ug] (fun (r : Int32) (u : Int) => r = iI u ∧ ((u = 1 ∧ awt nt ud ug m) ∨ (u = 0 ∧ ¬ awt nt ud ug m))) (fun (u : Int) => [(aU, .inr (6, [.ref aUg, .ref aUd, .int (iI ur), .int (iI uv), .int (iI uf), .ref aN, .ref aUa])), (aN, .inr (3, [.ref aNl, .ref aNn, .ref aNt])), iA G aNt 3 nt, iA G aUd 16 ud, iA G aUg 384 ug]) := by
  refine MetI.mk (by decide) (Nat.le_of_ble_eq_true rfl) (fun X C K => ?_)
  show Zc G X 3 0 0 [(aU, .inr (6, [.ref aUg, .ref aUd, .int (iI ur), .int (iI uv), .int (iI uf), .ref aN, .ref aUa])), (aN, .inr (3, [.ref aNl, .ref aNn, .ref aNt])), iA G aNt 3 nt, iA G aUd 16 ud, iA G aUg 384 ug] [(0, .ref aU), (1, .int (iI m))] 0 []
  have hcc := hc
  unfold cnt at hcc
  refine z_iconst C d_T_isAwaited_0 ?_
  refine z_istore_n (lv' := [(2, .int (iI 0)), (0, .ref aU), (1, .int (iI m))]) C d_T_isAwaited_1 (by decide) rfl ?_
  have loop2 : ∀ (kq : Nat) (k : Int), (0 ≤ k ∧ k ≤ nt 0) → (∀ s : Int, 0 ≤ s → s < k → ¬ (¬ ud s.toNat = -1 ∧ 0 ≤ ug (s * 24 + (24 + m) - 16).toNat)) → ((nt 0 - k).toNat < kq) → Zc G X 3 0 0 [(aU, .inr (6, [.ref aUg, .ref aUd, .int (iI ur), .int (iI uv), .int (iI uf), .ref aN, .ref aUa])), (aN, .inr (3, [.ref aNl, .ref aNn, .ref aNt])), iA G aNt 3 nt, iA G aUd 16 ud, iA G aUg 384 ug] [(0, .ref aU), (1, .int (iI m)), (2, .int (iI k))] 2 [] := by
    intro kq
    induction kq with
    | zero => intro k hk hE hm; exact absurd hm (Nat.not_lt_zero _)
    | succ kq ih2 =>
      intro k hk hE hm
      have hgk := hg (k * 24 + (24 + m) - 16).toNat
      -- loop body
      refine z_iload_n C d_T_isAwaited_2 2 rfl ?_
      refine z_aload_n C d_T_isAwaited_3 0 rfl ?_
      refine z_get C f_T_23 d_T_isAwaited_4 0 rfl rfl ?_
      refine z_calli (As := []) (rest := [.int (iI k)]) (wr := [(aU, .inr (6, [.ref aUg, .ref aUd, .int (iI ur), .int (iI uv), .int (iI uf), .ref aN, .ref aUa])), iA G aUd 16 ud, iA G aUg 384 ug]) (ws' := fun u => [(aU, .inr (6, [.ref aUg, .ref aUd, .int (iI ur), .int (iI uv), .int (iI uf), .ref aN, .ref aUa])), (aN, .inr (3, [.ref aNl, .ref aNn, .ref aNt])), iA G aNt 3 nt, iA G aUd 16 ud, iA G aUg 384 ug]) (q0 := 1) C k_T_46 kc_N_states (fun l sz => m_N_states l G sz aN aNl aNn aNt nt ) rfl rfl (Nat.le_of_ble_eq_true rfl) (by decide) d_T_isAwaited_7 rfl rfl [1, 2] [0, 3, 4] [0, 3, 4, 1, 2] rfl rfl (by decide) (fun u => rfl) (fun r u h7 => ?_)
      obtain rfl := h7
      show Zc G X 3 0 0 [(aU, .inr (6, [.ref aUg, .ref aUd, .int (iI ur), .int (iI uv), .int (iI uf), .ref aN, .ref aUa])), (aN, .inr (3, [.ref aNl, .ref aNn, .ref aNt])), iA G aNt 3 nt, iA G aUd 16 ud, iA G aUg 384 ug] [(0, .ref aU), (1, .int (iI m)), (2, .int (iI k))] 10 [.int (iI (nt 0)), .int (iI k)]
      refine z_icmp_ge (tgt := 45) C d_T_isAwaited_10 (by decide) (by omega) (by omega) (fun c10 => ?_) (fun c10 => ?_)
      ·
        refine z_iconst C d_T_isAwaited_45 ?_
        exact z_iret C K d_T_isAwaited_46 (by decide) 0 (rfl) (show iI 0 = iI 0 ∧ ((0 = 1 ∧ awt nt ud ug m) ∨ (0 = 0 ∧ ¬ awt nt ud ug m)) from ⟨rfl, Or.inr ⟨rfl, fun ⟨s, h0, h1, z⟩ => hE s h0 (by omega) z⟩⟩)
      ·
        refine z_aload_n C d_T_isAwaited_13 0 rfl ?_
        refine z_iload_n C d_T_isAwaited_14 2 rfl ?_
        refine z_calli (As := [.int (iI k)]) (rest := []) (wr := [(aN, .inr (3, [.ref aNl, .ref aNn, .ref aNt])), iA G aNt 3 nt, iA G aUg 384 ug]) (ws' := fun u => [(aU, .inr (6, [.ref aUg, .ref aUd, .int (iI ur), .int (iI uv), .int (iI uf), .ref aN, .ref aUa])), (aN, .inr (3, [.ref aNl, .ref aNn, .ref aNt])), iA G aNt 3 nt, iA G aUd 16 ud, iA G aUg 384 ug]) (q0 := 0) C k_T_68 kc_T_isReached (fun l sz => m_T_isReached l G sz aU aUg aUd aUa ur uv uf aN ud k (by omega) (by omega)) rfl rfl (Nat.le_of_ble_eq_true rfl) (by decide) d_T_isAwaited_15 rfl rfl [0, 3] [1, 2, 4] [3, 0, 1, 4, 2] rfl rfl (by decide) (fun u => rfl) (fun r u h15 => ?_)
        obtain rfl := h15
        show Zc G X 3 0 0 [(aU, .inr (6, [.ref aUg, .ref aUd, .int (iI ur), .int (iI uv), .int (iI uf), .ref aN, .ref aUa])), (aN, .inr (3, [.ref aNl, .ref aNn, .ref aNt])), iA G aNt 3 nt, iA G aUd 16 ud, iA G aUg 384 ug] [(0, .ref aU), (1, .int (iI m)), (2, .int (iI k))] 18 [.int (iI (rch ud k))]
        refine z_if_eq (tgt := 39) C d_T_isAwaited_18 (by decide) (by unfold rch; split <;> omega) (fun c18 => ?_) (fun c18 => ?_)
        ·
          first | (have c18 : ud k.toNat = -1 := Decidable.byContradiction (fun z => by unfold rch at c18; rw [if_neg z] at c18; omega)) | skip
          refine z_iinc (lv' := [(2, .int (iI (k + 1))), (0, .ref aU), (1, .int (iI m))]) C d_T_isAwaited_39 2 rfl (by decide) rfl ?_
          refine z_goto (tgt := 2) C d_T_isAwaited_42 (by decide) ?_
          refine z_lv [1, 2, 0] (lv' := [(0, .ref aU), (1, .int (iI m)), (2, .int (iI (k + 1)))]) rfl ?_
          exact ih2 _ (by omega) (fun s h0 hj => if e : s = k then by rw [e]; exact fun z => z.1 c18 else hE s h0 (by omega)) (by omega)
        ·
          have c18 : ¬ ud k.toNat = -1 := fun z => c18 (by unfold rch; rw [if_pos z])
          refine z_aload_n C d_T_isAwaited_21 0 rfl ?_
          refine z_get C f_T_13 d_T_isAwaited_22 0 rfl rfl ?_
          refine z_iload_n C d_T_isAwaited_25 2 rfl ?_
          refine z_bipush C d_T_isAwaited_26 (by decide) ?_
          refine z_iload_n C d_T_isAwaited_28 1 rfl ?_
          refine z_iadd C d_T_isAwaited_29 ?_
          refine z_calliS (As := [.int (iI k), .int (iI (24 + m))]) (rest := [.ref aUg]) (wr := [(aU, .inr (6, [.ref aUg, .ref aUd, .int (iI ur), .int (iI uv), .int (iI uf), .ref aN, .ref aUa])), (aN, .inr (3, [.ref aNl, .ref aNn, .ref aNt])), iA G aNt 3 nt, iA G aUd 16 ud, iA G aUg 384 ug]) (ws' := fun u => [(aU, .inr (6, [.ref aUg, .ref aUd, .int (iI ur), .int (iI uv), .int (iI uf), .ref aN, .ref aUa])), (aN, .inr (3, [.ref aNl, .ref aNn, .ref aNt])), iA G aNt 3 nt, iA G aUd 16 ud, iA G aUg 384 ug]) C k_T_57 kc_T_pairOfSlots (fun l sz => m_T_pairOfSlots l G sz k (24 + m) ) rfl rfl (Nat.le_of_ble_eq_true rfl) (by decide) d_T_isAwaited_30 [] [0, 1, 2, 3, 4] [0, 1, 2, 3, 4] rfl rfl (by decide) (fun u => rfl) (fun r u h30 => ?_)
          obtain rfl := h30
          show Zc G X 3 0 0 [(aU, .inr (6, [.ref aUg, .ref aUd, .int (iI ur), .int (iI uv), .int (iI uf), .ref aN, .ref aUa])), (aN, .inr (3, [.ref aNl, .ref aNn, .ref aNt])), iA G aNt 3 nt, iA G aUd 16 ud, iA G aUg 384 ug] [(0, .ref aU), (1, .int (iI m)), (2, .int (iI k))] 33 [.int (iI ((k * 24 + (24 + m)) - 16)), .ref aUg]
          refine z_iald C d_T_isAwaited_33 4 rfl (by omega) ?_
          refine z_if_lt (tgt := 39) C d_T_isAwaited_34 (by decide) (by omega) (fun c34 => ?_) (fun c34 => ?_)
          ·
            first | (have c18 : ud k.toNat = -1 := Decidable.byContradiction (fun z => by unfold rch at c18; rw [if_neg z] at c18; omega)) | skip
            refine z_iinc (lv' := [(2, .int (iI (k + 1))), (0, .ref aU), (1, .int (iI m))]) C d_T_isAwaited_39 2 rfl (by decide) rfl ?_
            refine z_goto (tgt := 2) C d_T_isAwaited_42 (by decide) ?_
            refine z_lv [1, 2, 0] (lv' := [(0, .ref aU), (1, .int (iI m)), (2, .int (iI (k + 1)))]) rfl ?_
            exact ih2 _ (by omega) (fun s h0 hj => if e : s = k then by rw [e]; exact fun z => absurd z.2 (by omega) else hE s h0 (by omega)) (by omega)
          ·
            refine z_iconst C d_T_isAwaited_37 ?_
            exact z_iret C K d_T_isAwaited_38 (by decide) 1 (rfl) (show iI 1 = iI 1 ∧ ((1 = 1 ∧ awt nt ud ug m) ∨ (1 = 0 ∧ ¬ awt nt ud ug m)) from ⟨rfl, Or.inl ⟨rfl, k, by omega, by omega, c18, by omega⟩⟩)
  refine z_lv [1, 2, 0] (lv' := [(0, .ref aU), (1, .int (iI m)), (2, .int (iI 0))]) rfl ?_
  exact loop2 (_ + 1) _ (by omega) (fun j h0 hj => absurd hj (by omega)) (Nat.lt_succ_self _)
set_option maxHeartbeats 4000000 in
set_option maxRecDepth 100000 in
theorem m_T_missingPairsOf (l : Launch) (G : GG) (sz : Nat) (aU : Nat) (aUg : Nat) (aUd : Nat) (aUa : Nat) (ur : Int) (uv : Int) (uf : Int) (aN : Nat) (aNl : Nat) (aNn : Nat) (aNt : Nat) (nt : Nat → Int) (ug : Nat → Int) (s : Int) (hc : cnt nt) (hg : gol ug) (h1 : 0 ≤ s ∧ s < nt 0) : MetI l G sz y_T_missingPairsOf c_T_missingPairsOf 4 (some .int) ({ frames := 3, cells := 0, slots := 0, locals := 66 } : Room) [.ref aU, .int (iI s)] [(aU, .inr (6, [.ref aUg, .ref aUd, .int (iI ur), .int (iI uv), .int (iI uf), .ref aN, .ref aUa])), (aN, .inr (3, [.ref aNl, .ref aNn, .ref aNt])), iA G aNt 3 nt, iA G aUg 384 ug] (fun (r : Int32) (u : Unit) => r = iI ((msE nt ug s 0 (nt 1 + nt 2).toNat).length : Int)) (fun (u : Unit) => [(aU, .inr (6, [.ref aUg, .ref aUd, .int (iI ur), .int (iI uv), .int (iI uf), .ref aN, .ref aUa])), (aN, .inr (3, [.ref aNl, .ref aNn, .ref aNt])), iA G aNt 3 nt, iA G aUg 384 ug]) := by
  refine MetI.mk (by decide) (Nat.le_of_ble_eq_true rfl) (fun X C K => ?_)
  show Zc G X 4 0 0 [(aU, .inr (6, [.ref aUg, .ref aUd, .int (iI ur), .int (iI uv), .int (iI uf), .ref aN, .ref aUa])), (aN, .inr (3, [.ref aNl, .ref aNn, .ref aNt])), iA G aNt 3 nt, iA G aUg 384 ug] [(0, .ref aU), (1, .int (iI s))] 0 []
  have hcc := hc
  unfold cnt at hcc
  refine z_iconst C d_T_missingPairsOf_0 ?_
  refine z_istore_n (lv' := [(2, .int (iI 0)), (0, .ref aU), (1, .int (iI s))]) C d_T_missingPairsOf_1 (by decide) rfl ?_
  refine z_iconst C d_T_missingPairsOf_2 ?_
  refine z_istore_n (lv' := [(3, .int (iI 0)), (2, .int (iI 0)), (0, .ref aU), (1, .int (iI s))]) C d_T_missingPairsOf_3 (by decide) rfl ?_
  have loop4 : ∀ (kq : Nat) (f : Int) (k : Int), (0 ≤ k ∧ k ≤ nt 1 + nt 2 ∧ 0 ≤ f ∧ f ≤ k) → (f + ((msE nt ug s k (nt 1 + nt 2 - k).toNat).length : Int) = ((msE nt ug s 0 (nt 1 + nt 2).toNat).length : Int)) → ((nt 1 + nt 2 - k).toNat < kq) → Zc G X 4 0 0 [(aU, .inr (6, [.ref aUg, .ref aUd, .int (iI ur), .int (iI uv), .int (iI uf), .ref aN, .ref aUa])), (aN, .inr (3, [.ref aNl, .ref aNn, .ref aNt])), iA G aNt 3 nt, iA G aUg 384 ug] [(0, .ref aU), (1, .int (iI s)), (2, .int (iI f)), (3, .int (iI k))] 4 [] := by
    intro kq
    induction kq with
    | zero => intro f k hk hE hm; exact absurd hm (Nat.not_lt_zero _)
    | succ kq ih4 =>
      intro f k hk hE hm
      -- loop body
      refine z_iload_n C d_T_missingPairsOf_4 3 rfl ?_
      refine z_aload_n C d_T_missingPairsOf_5 0 rfl ?_
      refine z_get C f_T_23 d_T_missingPairsOf_6 0 rfl rfl ?_
      refine z_calli (As := []) (rest := [.int (iI k)]) (wr := [(aU, .inr (6, [.ref aUg, .ref aUd, .int (iI ur), .int (iI uv), .int (iI uf), .ref aN, .ref aUa])), iA G aUg 384 ug]) (ws' := fun u => [(aU, .inr (6, [.ref aUg, .ref aUd, .int (iI ur), .int (iI uv), .int (iI uf), .ref aN, .ref aUa])), (aN, .inr (3, [.ref aNl, .ref aNn, .ref aNt])), iA G aNt 3 nt, iA G aUg 384 ug]) (q0 := 1) C k_T_50 kc_N_events (fun l sz => m_N_events l G sz aN aNl aNn aNt nt ) rfl rfl (Nat.le_of_ble_eq_true rfl) (by decide) d_T_missingPairsOf_9 rfl rfl [1, 2] [0, 3] [0, 2, 3, 1] rfl rfl (by decide) (fun u => rfl) (fun r u h9 => ?_)
      obtain rfl := h9
      show Zc G X 4 0 0 [(aU, .inr (6, [.ref aUg, .ref aUd, .int (iI ur), .int (iI uv), .int (iI uf), .ref aN, .ref aUa])), (aN, .inr (3, [.ref aNl, .ref aNn, .ref aNt])), iA G aNt 3 nt, iA G aUg 384 ug] [(0, .ref aU), (1, .int (iI s)), (2, .int (iI f)), (3, .int (iI k))] 12 [.int (iI (nt 1 + nt 2)), .int (iI k)]
      refine z_icmp_ge (tgt := 34) C d_T_missingPairsOf_12 (by decide) (by omega) (by omega) (fun c12 => ?_) (fun c12 => ?_)
      ·
        refine z_iload_n C d_T_missingPairsOf_34 2 rfl ?_
        rw [show (nt 1 + nt 2 - k).toNat = 0 by omega] at hE
        have hE2 : f + (([] : List Int).length : Int) = ((msE nt ug s 0 (nt 1 + nt 2).toNat).length : Int) := hE
        exact z_iret C K d_T_missingPairsOf_35 (rfl) () (rfl) (congrArg iI (by rw [← hE2]; simp))
      ·
        have hgk := hg (prf nt s k).toNat
        refine z_aload_n C d_T_missingPairsOf_15 0 rfl ?_
        refine z_iload_n C d_T_missingPairsOf_16 1 rfl ?_
        refine z_iload_n C d_T_missingPairsOf_17 3 rfl ?_
        refine z_calli (As := [.int (iI s), .int (iI k)]) (rest := []) (wr := []) (ws' := fun u => [(aU, .inr (6, [.ref aUg, .ref aUd, .int (iI ur), .int (iI uv), .int (iI uf), .ref aN, .ref aUa])), (aN, .inr (3, [.ref aNl, .ref aNn, .ref aNt])), iA G aNt 3 nt, iA G aUg 384 ug]) (q0 := 0) C k_T_76 kc_T_goalOf (fun l sz => m_T_goalOf l G sz aU aUg aUd aUa ur uv uf aN aNl aNn aNt nt ug s k (hc) (by omega)) rfl rfl (Nat.le_of_ble_eq_true rfl) (by decide) d_T_missingPairsOf_18 rfl rfl [0, 1, 2, 3] [] [0, 1, 2, 3] rfl rfl (by decide) (fun u => rfl) (fun r u h18 => ?_)
        obtain rfl := h18
        show Zc G X 4 0 0 [(aU, .inr (6, [.ref aUg, .ref aUd, .int (iI ur), .int (iI uv), .int (iI uf), .ref aN, .ref aUa])), (aN, .inr (3, [.ref aNl, .ref aNn, .ref aNt])), iA G aNt 3 nt, iA G aUg 384 ug] [(0, .ref aU), (1, .int (iI s)), (2, .int (iI f)), (3, .int (iI k))] 21 [.int (iI (ug (prf nt s k).toNat))]
        refine z_iconst C d_T_missingPairsOf_21 ?_
        refine z_icmp_ne (tgt := 28) C d_T_missingPairsOf_22 (by decide) (by have := hg (prf nt s k).toNat; omega) (by have := hg (prf nt s k).toNat; omega) (fun c22 => ?_) (fun c22 => ?_)
        ·
          refine z_iinc (lv' := [(3, .int (iI (k + 1))), (0, .ref aU), (1, .int (iI s)), (2, .int (iI f))]) C d_T_missingPairsOf_28 3 rfl (by decide) rfl ?_
          refine z_goto (tgt := 4) C d_T_missingPairsOf_31 (by decide) ?_
          refine z_lv [1, 2, 3, 0] (lv' := [(0, .ref aU), (1, .int (iI s)), (2, .int (iI f)), (3, .int (iI (k + 1)))]) rfl ?_
          exact ih4 _ _ (by omega) (by rw [msE_step nt ug s (by omega), if_neg (by omega)] at hE; exact hE) (by omega)
        ·
          refine z_iinc (lv' := [(2, .int (iI (f + 1))), (0, .ref aU), (1, .int (iI s)), (3, .int (iI k))]) C d_T_missingPairsOf_25 2 rfl (by decide) rfl ?_
          refine z_iinc (lv' := [(3, .int (iI (k + 1))), (2, .int (iI (f + 1))), (0, .ref aU), (1, .int (iI s))]) C d_T_missingPairsOf_28 3 rfl (by decide) rfl ?_
          refine z_goto (tgt := 4) C d_T_missingPairsOf_31 (by decide) ?_
          refine z_lv [2, 3, 1, 0] (lv' := [(0, .ref aU), (1, .int (iI s)), (2, .int (iI (f + 1))), (3, .int (iI (k + 1)))]) rfl ?_
          exact ih4 _ _ (by omega) (by rw [msE_step nt ug s (by omega), if_pos (by omega)] at hE; rw [List.length_cons] at hE; omega) (by omega)
  refine z_lv [2, 3, 1, 0] (lv' := [(0, .ref aU), (1, .int (iI s)), (2, .int (iI 0)), (3, .int (iI 0))]) rfl ?_
  exact loop4 (_ + 1) _ _ (by omega) (by rw [Int.sub_zero, Int.zero_add]) (Nat.lt_succ_self _)
set_option maxHeartbeats 4000000 in
set_option maxRecDepth 100000 in
theorem m_T_missingPair (l : Launch) (G : GG) (sz : Nat) (aU : Nat) (aUg : Nat) (aUd : Nat) (aUa : Nat) (ur : Int) (uv : Int) (uf : Int) (aN : Nat) (aNl : Nat) (aNn : Nat) (aNt : Nat) (nt : Nat → Int) (ug : Nat → Int) (k : Int) (hc : cnt nt) (hg : gol ug) (h1 : -2147483648 ≤ k ∧ k ≤ 2147483647) : MetI l G sz y_T_missingPair c_T_missingPair 5 (some .int) ({ frames := 3, cells := 0, slots := 0, locals := 66 } : Room) [.ref aU, .int (iI k)] [(aU, .inr (6, [.ref aUg, .ref aUd, .int (iI ur), .int (iI uv), .int (iI uf), .ref aN, .ref aUa])), (aN, .inr (3, [.ref aNl, .ref aNn, .ref aNt])), iA G aNt 3 nt, iA G aUg 384 ug] (fun (r : Int32) (u : Unit) => r = iI (kth (msS nt ug 0 (nt 0).toNat) k)) (fun (u : Unit) => [(aU, .inr (6, [.ref aUg, .ref aUd, .int (iI ur), .int (iI uv), .int (iI uf), .ref aN, .ref aUa])), (aN, .inr (3, [.ref aNl, .ref aNn, .ref aNt])), iA G aNt 3 nt, iA G aUg 384 ug]) := by
  refine MetI.mk (by decide) (Nat.le_of_ble_eq_true rfl) (fun X C K => ?_)
  show Zc G X 5 0 0 [(aU, .inr (6, [.ref aUg, .ref aUd, .int (iI ur), .int (iI uv), .int (iI uf), .ref aN, .ref aUa])), (aN, .inr (3, [.ref aNl, .ref aNn, .ref aNt])), iA G aNt 3 nt, iA G aUg 384 ug] [(0, .ref aU), (1, .int (iI k))] 0 []
  have hcc := hc
  unfold cnt at hcc
  refine z_iconst C d_T_missingPair_0 ?_
  refine z_istore_n (lv' := [(2, .int (iI 0)), (0, .ref aU), (1, .int (iI k))]) C d_T_missingPair_1 (by decide) rfl ?_
  refine z_iconst C d_T_missingPair_2 ?_
  refine z_istore_n (lv' := [(3, .int (iI 0)), (2, .int (iI 0)), (0, .ref aU), (1, .int (iI k))]) C d_T_missingPair_3 (by decide) rfl ?_
  have loop4 : ∀ (kq : Nat) (f : Int) (s : Int), (0 ≤ s ∧ s ≤ nt 0 ∧ 0 ≤ f ∧ f ≤ 24 * s) → (kth (msS nt ug s (nt 0 - s).toNat) (k - f) = kth (msS nt ug 0 (nt 0).toNat) k) → ((nt 0 - s).toNat < kq) → Zc G X 5 0 0 [(aU, .inr (6, [.ref aUg, .ref aUd, .int (iI ur), .int (iI uv), .int (iI uf), .ref aN, .ref aUa])), (aN, .inr (3, [.ref aNl, .ref aNn, .ref aNt])), iA G aNt 3 nt, iA G aUg 384 ug] [(0, .ref aU), (1, .int (iI k)), (2, .int (iI f)), (3, .int (iI s))] 4 [] := by
    intro kq
    induction kq with
    | zero => intro f s hk hE hm; exact absurd hm (Nat.not_lt_zero _)
    | succ kq ih4 =>
      intro f s hk hE hm
      -- loop body
      refine z_iload_n C d_T_missingPair_4 3 rfl ?_
      refine z_aload_n C d_T_missingPair_5 0 rfl ?_
      refine z_get C f_T_23 d_T_missingPair_6 0 rfl rfl ?_
      refine z_calli (As := []) (rest := [.int (iI s)]) (wr := [(aU, .inr (6, [.ref aUg, .ref aUd, .int (iI ur), .int (iI uv), .int (iI uf), .ref aN, .ref aUa])), iA G aUg 384 ug]) (ws' := fun u => [(aU, .inr (6, [.ref aUg, .ref aUd, .int (iI ur), .int (iI uv), .int (iI uf), .ref aN, .ref aUa])), (aN, .inr (3, [.ref aNl, .ref aNn, .ref aNt])), iA G aNt 3 nt, iA G aUg 384 ug]) (q0 := 1) C k_T_46 kc_N_states (fun l sz => m_N_states l G sz aN aNl aNn aNt nt ) rfl rfl (Nat.le_of_ble_eq_true rfl) (by decide) d_T_missingPair_9 rfl rfl [1, 2] [0, 3] [0, 2, 3, 1] rfl rfl (by decide) (fun u => rfl) (fun r u h9 => ?_)
      obtain rfl := h9
      show Zc G X 5 0 0 [(aU, .inr (6, [.ref aUg, .ref aUd, .int (iI ur), .int (iI uv), .int (iI uf), .ref aN, .ref aUa])), (aN, .inr (3, [.ref aNl, .ref aNn, .ref aNt])), iA G aNt 3 nt, iA G aUg 384 ug] [(0, .ref aU), (1, .int (iI k)), (2, .int (iI f)), (3, .int (iI s))] 12 [.int (iI (nt 0)), .int (iI s)]
      refine z_icmp_ge (tgt := 69) C d_T_missingPair_12 (by decide) (by omega) (by omega) (fun c12 => ?_) (fun c12 => ?_)
      ·
        refine z_iconst C d_T_missingPair_69 ?_
        exact z_iret C K d_T_missingPair_70 (rfl) () (rfl) (by rw [show (nt 0 - s).toNat = 0 by omega] at hE; exact congrArg iI hE)
      ·
        refine z_iconst C d_T_missingPair_15 ?_
        refine z_istore (lv' := [(4, .int (iI 0)), (0, .ref aU), (1, .int (iI k)), (2, .int (iI f)), (3, .int (iI s))]) C d_T_missingPair_16 (by decide) rfl ?_
        have loop18 : ∀ (kq : Nat) (f : Int) (e : Int), (0 ≤ e ∧ e ≤ nt 1 + nt 2 ∧ 0 ≤ f ∧ f ≤ 24 * s + e) → (kth (msE nt ug s e (nt 1 + nt 2 - e).toNat ++ msS nt ug (s + 1) (nt 0 - (s + 1)).toNat) (k - f) = kth (msS nt ug 0 (nt 0).toNat) k) → ((nt 1 + nt 2 - e).toNat < kq) → Zc G X 5 0 0 [(aU, .inr (6, [.ref aUg, .ref aUd, .int (iI ur), .int (iI uv), .int (iI uf), .ref aN, .ref aUa])), (aN, .inr (3, [.ref aNl, .ref aNn, .ref aNt])), iA G aNt 3 nt, iA G aUg 384 ug] [(0, .ref aU), (1, .int (iI k)), (2, .int (iI f)), (3, .int (iI s)), (4, .int (iI e))] 18 [] := by
          intro kq
          induction kq with
          | zero => intro f e hj hF hm; exact absurd hm (Nat.not_lt_zero _)
          | succ kq ih18 =>
            intro f e hj hF hm
            -- loop body
            refine z_iload C d_T_missingPair_18 4 rfl ?_
            refine z_aload_n C d_T_missingPair_20 0 rfl ?_
            refine z_get C f_T_23 d_T_missingPair_21 0 rfl rfl ?_
            refine z_calli (As := []) (rest := [.int (iI e)]) (wr := [(aU, .inr (6, [.ref aUg, .ref aUd, .int (iI ur), .int (iI uv), .int (iI uf), .ref aN, .ref aUa])), iA G aUg 384 ug]) (ws' := fun u => [(aU, .inr (6, [.ref aUg, .ref aUd, .int (iI ur), .int (iI uv), .int (iI uf), .ref aN, .ref aUa])), (aN, .inr (3, [.ref aNl, .ref aNn, .ref aNt])), iA G aNt 3 nt, iA G aUg 384 ug]) (q0 := 1) C k_T_50 kc_N_events (fun l sz => m_N_events l G sz aN aNl aNn aNt nt ) rfl rfl (Nat.le_of_ble_eq_true rfl) (by decide) d_T_missingPair_24 rfl rfl [1, 2] [0, 3] [0, 2, 3, 1] rfl rfl (by decide) (fun u => rfl) (fun r u h24 => ?_)
            obtain rfl := h24
            show Zc G X 5 0 0 [(aU, .inr (6, [.ref aUg, .ref aUd, .int (iI ur), .int (iI uv), .int (iI uf), .ref aN, .ref aUa])), (aN, .inr (3, [.ref aNl, .ref aNn, .ref aNt])), iA G aNt 3 nt, iA G aUg 384 ug] [(0, .ref aU), (1, .int (iI k)), (2, .int (iI f)), (3, .int (iI s)), (4, .int (iI e))] 27 [.int (iI (nt 1 + nt 2)), .int (iI e)]
            refine z_icmp_ge (tgt := 63) C d_T_missingPair_27 (by decide) (by omega) (by omega) (fun c27 => ?_) (fun c27 => ?_)
            ·
              refine z_iinc (lv' := [(3, .int (iI (s + 1))), (0, .ref aU), (1, .int (iI k)), (2, .int (iI f)), (4, .int (iI e))]) C d_T_missingPair_63 3 rfl (by decide) rfl ?_
              refine z_goto (tgt := 4) C d_T_missingPair_66 (by decide) ?_
              refine z_lv [1, 2, 3, 0] (lv' := [(0, .ref aU), (1, .int (iI k)), (2, .int (iI f)), (3, .int (iI (s + 1)))]) rfl ?_
              exact ih4 _ _ (by omega) (by rw [show (nt 1 + nt 2 - e).toNat = 0 by omega] at hF; exact hF) (by omega)
            ·
              have hge := hg (prf nt s e).toNat
              refine z_aload_n C d_T_missingPair_30 0 rfl ?_
              refine z_iload_n C d_T_missingPair_31 3 rfl ?_
              refine z_iload C d_T_missingPair_32 4 rfl ?_
              refine z_calli (As := [.int (iI s), .int (iI e)]) (rest := []) (wr := []) (ws' := fun u => [(aU, .inr (6, [.ref aUg, .ref aUd, .int (iI ur), .int (iI uv), .int (iI uf), .ref aN, .ref aUa])), (aN, .inr (3, [.ref aNl, .ref aNn, .ref aNt])), iA G aNt 3 nt, iA G aUg 384 ug]) (q0 := 0) C k_T_76 kc_T_goalOf (fun l sz => m_T_goalOf l G sz aU aUg aUd aUa ur uv uf aN aNl aNn aNt nt ug s e (hc) (by omega)) rfl rfl (Nat.le_of_ble_eq_true rfl) (by decide) d_T_missingPair_34 rfl rfl [0, 1, 2, 3] [] [0, 1, 2, 3] rfl rfl (by decide) (fun u => rfl) (fun r u h34 => ?_)
              obtain rfl := h34
              show Zc G X 5 0 0 [(aU, .inr (6, [.ref aUg, .ref aUd, .int (iI ur), .int (iI uv), .int (iI uf), .ref aN, .ref aUa])), (aN, .inr (3, [.ref aNl, .ref aNn, .ref aNt])), iA G aNt 3 nt, iA G aUg 384 ug] [(0, .ref aU), (1, .int (iI k)), (2, .int (iI f)), (3, .int (iI s)), (4, .int (iI e))] 37 [.int (iI (ug (prf nt s e).toNat))]
              refine z_iconst C d_T_missingPair_37 ?_
              refine z_icmp_ne (tgt := 57) C d_T_missingPair_38 (by decide) (by omega) (by omega) (fun c38 => ?_) (fun c38 => ?_)
              ·
                refine z_iinc (lv' := [(4, .int (iI (e + 1))), (0, .ref aU), (1, .int (iI k)), (2, .int (iI f)), (3, .int (iI s))]) C d_T_missingPair_57 4 rfl (by decide) rfl ?_
                refine z_goto (tgt := 18) C d_T_missingPair_60 (by decide) ?_
                refine z_lv [1, 2, 3, 4, 0] (lv' := [(0, .ref aU), (1, .int (iI k)), (2, .int (iI f)), (3, .int (iI s)), (4, .int (iI (e + 1)))]) rfl ?_
                exact ih18 _ _ (by omega) (by rw [msE_step nt ug s (by omega), if_neg (by omega)] at hF; exact hF) (by omega)
              ·
                refine z_iload_n C d_T_missingPair_41 2 rfl ?_
                refine z_iload_n C d_T_missingPair_42 1 rfl ?_
                refine z_icmp_ne (tgt := 54) C d_T_missingPair_43 (by decide) (by omega) (by omega) (fun c43 => ?_) (fun c43 => ?_)
                ·
                  refine z_iinc (lv' := [(2, .int (iI (f + 1))), (0, .ref aU), (1, .int (iI k)), (3, .int (iI s)), (4, .int (iI e))]) C d_T_missingPair_54 2 rfl (by decide) rfl ?_
                  refine z_iinc (lv' := [(4, .int (iI (e + 1))), (2, .int (iI (f + 1))), (0, .ref aU), (1, .int (iI k)), (3, .int (iI s))]) C d_T_missingPair_57 4 rfl (by decide) rfl ?_
                  refine z_goto (tgt := 18) C d_T_missingPair_60 (by decide) ?_
                  refine z_lv [2, 3, 1, 4, 0] (lv' := [(0, .ref aU), (1, .int (iI k)), (2, .int (iI (f + 1))), (3, .int (iI s)), (4, .int (iI (e + 1)))]) rfl ?_
                  exact ih18 _ _ (by omega) (by rw [msE_step nt ug s (by omega), if_pos (by omega)] at hF; rw [show k - (f + 1) = k - f - 1 by omega]; rw [List.cons_append, kth_miss (by omega)] at hF; exact hF) (by omega)
                ·
                  refine z_iload_n C d_T_missingPair_46 3 rfl ?_
                  refine z_bipush C d_T_missingPair_47 (by decide) ?_
                  refine z_imul C d_T_missingPair_49 ?_
                  refine z_iload C d_T_missingPair_50 4 rfl ?_
                  refine z_iadd C d_T_missingPair_52 ?_
                  exact z_iret C K d_T_missingPair_53 (rfl) () (rfl) (by rw [msE_step nt ug s (by omega), if_pos (by omega), List.cons_append, kth_hit (by omega)] at hF; exact congrArg iI hF)
        refine z_lv [1, 2, 3, 4, 0] (lv' := [(0, .ref aU), (1, .int (iI k)), (2, .int (iI f)), (3, .int (iI s)), (4, .int (iI 0))]) rfl ?_
        exact loop18 (_ + 1) _ _ (by omega) (by rw [Int.sub_zero, ← msS_step nt ug (by omega)]; exact hE) (Nat.lt_succ_self _)
  refine z_lv [2, 3, 1, 0] (lv' := [(0, .ref aU), (1, .int (iI k)), (2, .int (iI 0)), (3, .int (iI 0))]) rfl ?_
  exact loop4 (_ + 1) _ _ (by omega) (by rw [Int.sub_zero, Int.sub_zero]) (Nat.lt_succ_self _)
set_option maxHeartbeats 4000000 in
set_option maxRecDepth 100000 in
theorem m_T_reachFrom (l : Launch) (G : GG) (sz : Nat) (aU : Nat) (aUg : Nat) (aUd : Nat) (aUa : Nat) (ur : Int) (uv : Int) (uf : Int) (aN : Nat) (ug : Nat → Int) (ud : Nat → Int) (s : Int) (t : Int) (h1 : 0 ≤ s ∧ s < 16 ∧ 0 ≤ t ∧ t ≤ 100) (hg : gol ug) (hd : dst ud) : MetV l G sz y_T_reachFrom c_T_reachFrom 5 ({ frames := 0, cells := 0, slots := 0, locals := 0 } : Room) [.ref aU, .int (iI s), .int (iI t)] [(aU, .inr (6, [.ref aUg, .ref aUd, .int (iI ur), .int (iI uv), .int (iI uf), .ref aN, .ref aUa])), iA G aUg 384 ug, iA G aUd 16 ud] (fun (u : Unit) => True) (fun (u : Unit) => [(aU, .inr (6, [.ref aUg, .ref aUd, .int (iI ur), .int (iI uv), .int (iI uf), .ref aN, .ref aUa])), iA G aUg 384 ug, iA G aUd 16 (rfD ug s t 24 0 ud)]) := by
  refine MetV.mk (by decide) (Nat.le_of_ble_eq_true rfl) (fun X C K => ?_)
  show Zc G X 5 0 0 [(aU, .inr (6, [.ref aUg, .ref aUd, .int (iI ur), .int (iI uv), .int (iI uf), .ref aN, .ref aUa])), iA G aUg 384 ug, iA G aUd 16 ud] [(0, .ref aU), (1, .int (iI s)), (2, .int (iI t))] 0 []
  refine z_iconst C d_T_reachFrom_0 ?_
  refine z_istore_n (lv' := [(3, .int (iI 0)), (0, .ref aU), (1, .int (iI s)), (2, .int (iI t))]) C d_T_reachFrom_1 (by decide) rfl ?_
  have loop2 : ∀ (kq : Nat) (k : Int) (E : Nat → Int), (0 ≤ k ∧ k ≤ 24) → (dst E) → (rfD ug s t (24 - k).toNat k E = rfD ug s t 24 0 ud) → ((24 - k).toNat < kq) → Zc G X 5 0 0 [(aU, .inr (6, [.ref aUg, .ref aUd, .int (iI ur), .int (iI uv), .int (iI uf), .ref aN, .ref aUa])), iA G aUg 384 ug, iA G aUd 16 E] [(0, .ref aU), (1, .int (iI s)), (2, .int (iI t)), (3, .int (iI k))] 2 [] := by
    intro kq
    induction kq with
    | zero => intro k E hk hD hE hm; exact absurd hm (Nat.not_lt_zero _)
    | succ kq ih2 =>
      intro k E hk hD hE hm
      have hgk := hg (s * 24 + k).toNat
      have hdk := hD (ug (s * 24 + k).toNat).toNat
      -- loop body
      refine z_iload_n C d_T_reachFrom_2 3 rfl ?_
      refine z_bipush C d_T_reachFrom_3 (by decide) ?_
      refine z_icmp_ge (tgt := 51) C d_T_reachFrom_5 (by decide) (by omega) (by omega) (fun c5 => ?_) (fun c5 => ?_)
      ·
        rw [show (24 - k).toNat = 0 by omega] at hE
        have hE2 : E = rfD ug s t 24 0 ud := hE
        exact z_vret C K d_T_reachFrom_51 () (by rw [hE2]) (trivial)
      ·
        refine z_aload_n C d_T_reachFrom_8 0 rfl ?_
        refine z_get C f_T_13 d_T_reachFrom_9 0 rfl rfl ?_
        refine z_iload_n C d_T_reachFrom_12 1 rfl ?_
        refine z_bipush C d_T_reachFrom_13 (by decide) ?_
        refine z_imul C d_T_reachFrom_15 ?_
        refine z_iload_n C d_T_reachFrom_16 3 rfl ?_
        refine z_iadd C d_T_reachFrom_17 ?_
        refine z_iald C d_T_reachFrom_18 1 rfl (by omega) ?_
        refine z_istore (lv' := [(4, .int (iI (ug (((s * 24) + k).toNat)))), (0, .ref aU), (1, .int (iI s)), (2, .int (iI t)), (3, .int (iI k))]) C d_T_reachFrom_19 (by decide) rfl ?_
        refine z_iload C d_T_reachFrom_21 0 rfl ?_
        refine z_if_lt (tgt := 45) C d_T_reachFrom_23 (by decide) (by omega) (fun c23 => ?_) (fun c23 => ?_)
        ·
          refine z_iinc (lv' := [(3, .int (iI (k + 1))), (4, .int (iI (ug (((s * 24) + k).toNat)))), (0, .ref aU), (1, .int (iI s)), (2, .int (iI t))]) C d_T_reachFrom_45 4 rfl (by decide) rfl ?_
          refine z_goto (tgt := 2) C d_T_reachFrom_48 (by decide) ?_
          refine z_lv [2, 3, 4, 0] (lv' := [(0, .ref aU), (1, .int (iI s)), (2, .int (iI t)), (3, .int (iI (k + 1)))]) rfl ?_
          exact ih2 _ _ (by omega) (hD) (by rw [rfD_step ug s t E (by omega), if_neg (by omega)] at hE; exact hE) (by omega)
        ·
          refine z_aload_n C d_T_reachFrom_26 1 rfl ?_
          refine z_get C f_T_17 d_T_reachFrom_27 0 rfl rfl ?_
          refine z_iload C d_T_reachFrom_30 0 rfl ?_
          refine z_iald C d_T_reachFrom_32 2 rfl (by omega) ?_
          refine z_iconst C d_T_reachFrom_33 ?_
          refine z_icmp_ne (tgt := 45) C d_T_reachFrom_34 (by decide) (by omega) (by omega) (fun c34 => ?_) (fun c34 => ?_)
          ·
            refine z_iinc (lv' := [(3, .int (iI (k + 1))), (4, .int (iI (ug (((s * 24) + k).toNat)))), (0, .ref aU), (1, .int (iI s)), (2, .int (iI t))]) C d_T_reachFrom_45 4 rfl (by decide) rfl ?_
            refine z_goto (tgt := 2) C d_T_reachFrom_48 (by decide) ?_
            refine z_lv [2, 3, 4, 0] (lv' := [(0, .ref aU), (1, .int (iI s)), (2, .int (iI t)), (3, .int (iI (k + 1)))]) rfl ?_
            exact ih2 _ _ (by omega) (hD) (by rw [rfD_step ug s t E (by omega), if_neg (by omega)] at hE; exact hE) (by omega)
          ·
            refine z_aload_n C d_T_reachFrom_37 1 rfl ?_
            refine z_get C f_T_17 d_T_reachFrom_38 0 rfl rfl ?_
            refine z_iload C d_T_reachFrom_41 0 rfl ?_
            refine z_iload_n C d_T_reachFrom_43 3 rfl ?_
            refine z_iast C d_T_reachFrom_44 2 rfl (by omega) [(aU, .inr (6, [.ref aUg, .ref aUd, .int (iI ur), .int (iI uv), .int (iI uf), .ref aN, .ref aUa])), iA G aUg 384 ug, iA G aUd 16 (uZ E ((ug (((s * 24) + k).toNat)).toNat) t)] (rfl) ?_
            refine z_iinc (lv' := [(3, .int (iI (k + 1))), (4, .int (iI (ug (((s * 24) + k).toNat)))), (0, .ref aU), (1, .int (iI s)), (2, .int (iI t))]) C d_T_reachFrom_45 4 rfl (by decide) rfl ?_
            refine z_goto (tgt := 2) C d_T_reachFrom_48 (by decide) ?_
            refine z_lv [2, 3, 4, 0] (lv' := [(0, .ref aU), (1, .int (iI s)), (2, .int (iI t)), (3, .int (iI (k + 1)))]) rfl ?_
            exact ih2 _ _ (by omega) (uZ_dst hD (by omega)) (by rw [rfD_step ug s t E (by omega), if_pos (by omega)] at hE; exact hE) (by omega)
  refine z_lv [1, 2, 3, 0] (lv' := [(0, .ref aU), (1, .int (iI s)), (2, .int (iI t)), (3, .int (iI 0))]) rfl ?_
  exact loop2 (_ + 1) _ _ (by omega) (hd) (rfl) (Nat.lt_succ_self _)
set_option maxHeartbeats 4000000 in
set_option maxRecDepth 100000 in
theorem m_T_missingPairs (l : Launch) (G : GG) (sz : Nat) (aU : Nat) (aUg : Nat) (aUd : Nat) (aUa : Nat) (ur : Int) (uv : Int) (uf : Int) (aN : Nat) (aNl : Nat) (aNn : Nat) (aNt : Nat) (nt : Nat → Int) (ug : Nat → Int) (ud : Nat → Int) (b : Int) (hc : cnt nt) (hg : gol ug) (hd : dst ud) (hb : b = 0 ∨ b = 1) : MetI l G sz y_T_missingPairs c_T_missingPairs 4 (some .int) ({ frames := 4, cells := 0, slots := 0, locals := 89 } : Room) [.ref aU, .int (iI b)] [(aU, .inr (6, [.ref aUg, .ref aUd, .int (iI ur), .int (iI uv), .int (iI uf), .ref aN, .ref aUa])), (aN, .inr (3, [.ref aNl, .ref aNn, .ref aNt])), iA G aNt 3 nt, iA G aUg 384 ug, iA G aUd 16 ud] (fun (r : Int32) (u : Unit) => r = iI (mps nt ug ud b)) (fun (u : Unit) => [(aU, .inr (6, [.ref aUg, .ref aUd, .int (iI ur), .int (iI uv), .int (iI uf), .ref aN, .ref aUa])), (aN, .inr (3, [.ref aNl, .ref aNn, .ref aNt])), iA G aNt 3 nt, iA G aUg 384 ug, iA G aUd 16 ud]) := by
  refine MetI.mk (by decide) (Nat.le_of_ble_eq_true rfl) (fun X C K => ?_)
  show Zc G X 4 0 0 [(aU, .inr (6, [.ref aUg, .ref aUd, .int (iI ur), .int (iI uv), .int (iI uf), .ref aN, .ref aUa])), (aN, .inr (3, [.ref aNl, .ref aNn, .ref aNt])), iA G aNt 3 nt, iA G aUg 384 ug, iA G aUd 16 ud] [(0, .ref aU), (1, .int (iI b))] 0 []
  have hcc := hc
  unfold cnt at hcc
  rcases hb with rfl | rfl
  ·
    skip
    refine z_iconst C d_T_missingPairs_0 ?_
    refine z_istore_n (lv' := [(2, .int (iI 0)), (0, .ref aU), (1, .int (iI 0))]) C d_T_missingPairs_1 (by decide) rfl ?_
    refine z_iconst C d_T_missingPairs_2 ?_
    refine z_istore_n (lv' := [(3, .int (iI 0)), (2, .int (iI 0)), (0, .ref aU), (1, .int (iI 0))]) C d_T_missingPairs_3 (by decide) rfl ?_
    have loop4 : ∀ (kq : Nat) (f : Int) (k : Int), (0 ≤ k ∧ k ≤ nt 0 ∧ 0 ≤ f ∧ f ≤ 24 * k) → (f + ((msS nt ug k (nt 0 - k).toNat).length : Int) = mps nt ug ud 0) → ((nt 0 - k).toNat < kq) → Zc G X 4 0 0 [(aU, .inr (6, [.ref aUg, .ref aUd, .int (iI ur), .int (iI uv), .int (iI uf), .ref aN, .ref aUa])), (aN, .inr (3, [.ref aNl, .ref aNn, .ref aNt])), iA G aNt 3 nt, iA G aUg 384 ug, iA G aUd 16 ud] [(0, .ref aU), (1, .int (iI 0)), (2, .int (iI f)), (3, .int (iI k))] 4 [] := by
      intro kq
      induction kq with
      | zero => intro f k hk hE hm; exact absurd hm (Nat.not_lt_zero _)
      | succ kq ih4 =>
        intro f k hk hE hm
        -- loop body
        refine z_iload_n C d_T_missingPairs_4 3 rfl ?_
        refine z_aload_n C d_T_missingPairs_5 0 rfl ?_
        refine z_get C f_T_23 d_T_missingPairs_6 0 rfl rfl ?_
        refine z_calli (As := []) (rest := [.int (iI k)]) (wr := [(aU, .inr (6, [.ref aUg, .ref aUd, .int (iI ur), .int (iI uv), .int (iI uf), .ref aN, .ref aUa])), iA G aUg 384 ug, iA G aUd 16 ud]) (ws' := fun u => [(aU, .inr (6, [.ref aUg, .ref aUd, .int (iI ur), .int (iI uv), .int (iI uf), .ref aN, .ref aUa])), (aN, .inr (3, [.ref aNl, .ref aNn, .ref aNt])), iA G aNt 3 nt, iA G aUg 384 ug, iA G aUd 16 ud]) (q0 := 1) C k_T_46 kc_N_states (fun l sz => m_N_states l G sz aN aNl aNn aNt nt ) rfl rfl (Nat.le_of_ble_eq_true rfl) (by decide) d_T_missingPairs_9 rfl rfl [1, 2] [0, 3, 4] [0, 3, 4, 1, 2] rfl rfl (by decide) (fun u => rfl) (fun r u h9 => ?_)
        obtain rfl := h9
        show Zc G X 4 0 0 [(aU, .inr (6, [.ref aUg, .ref aUd, .int (iI ur), .int (iI uv), .int (iI uf), .ref aN, .ref aUa])), (aN, .inr (3, [.ref aNl, .ref aNn, .ref aNt])), iA G aNt 3 nt, iA G aUg 384 ug, iA G aUd 16 ud] [(0, .ref aU), (1, .int (iI 0)), (2, .int (iI f)), (3, .int (iI k))] 12 [.int (iI (nt 0)), .int (iI k)]
        refine z_icmp_ge (tgt := 41) C d_T_missingPairs_12 (by decide) (by omega) (by omega) (fun c12 => ?_) (fun c12 => ?_)
        ·
          refine z_iload_n C d_T_missingPairs_41 2 rfl ?_
          rw [show (nt 0 - k).toNat = 0 by omega] at hE
          first | have hE2 : f + (([] : List Int).length : Int) = mps nt ug ud _ := hE | have hE2 : f + 0 = mps nt ug ud _ := hE
          exact z_iret C K d_T_missingPairs_42 (rfl) () (rfl) (congrArg iI (by rw [← hE2]; simp))
        ·
          refine z_iload_n C d_T_missingPairs_15 1 rfl ?_
          refine z_if_eq (tgt := 27) C d_T_missingPairs_16 (by decide) (by omega) (fun c16 => ?_) (fun c16 => ?_)
          ·
            have hml := msE_len nt ug k (nt 1 + nt 2).toNat 0
            first | (have c24 : ¬ ud k.toNat = -1 := fun z => c24 (by unfold rch; rw [if_pos z])) | skip
            refine z_iload_n C d_T_missingPairs_27 2 rfl ?_
            refine z_aload_n C d_T_missingPairs_28 0 rfl ?_
            refine z_iload_n C d_T_missingPairs_29 3 rfl ?_
            refine z_calli (As := [.int (iI k)]) (rest := [.int (iI f)]) (wr := [iA G aUd 16 ud]) (ws' := fun u => [(aU, .inr (6, [.ref aUg, .ref aUd, .int (iI ur), .int (iI uv), .int (iI uf), .ref aN, .ref aUa])), (aN, .inr (3, [.ref aNl, .ref aNn, .ref aNt])), iA G aNt 3 nt, iA G aUg 384 ug, iA G aUd 16 ud]) (q0 := 0) C k_T_79 kc_T_missingPairsOf (fun l sz => m_T_missingPairsOf l G sz aU aUg aUd aUa ur uv uf aN aNl aNn aNt nt ug k (by omega) (by omega) (by omega)) rfl rfl (Nat.le_of_ble_eq_true rfl) (by decide) d_T_missingPairs_30 rfl rfl [0, 1, 2, 3] [4] [1, 2, 3, 4, 0] rfl rfl (by decide) (fun u => rfl) (fun r u h30 => ?_)
            obtain rfl := h30
            show Zc G X 4 0 0 [(aU, .inr (6, [.ref aUg, .ref aUd, .int (iI ur), .int (iI uv), .int (iI uf), .ref aN, .ref aUa])), (aN, .inr (3, [.ref aNl, .ref aNn, .ref aNt])), iA G aNt 3 nt, iA G aUg 384 ug, iA G aUd 16 ud] [(0, .ref aU), (1, .int (iI 0)), (2, .int (iI f)), (3, .int (iI k))] 33 [.int (iI ((msE nt ug k 0 (nt 1 + nt 2).toNat).length : Int)), .int (iI f)]
            refine z_iadd C d_T_missingPairs_33 ?_
            refine z_istore_n (lv' := [(2, .int (iI (f + ((msE nt ug k 0 (nt 1 + nt 2).toNat).length : Int)))), (0, .ref aU), (1, .int (iI 0)), (3, .int (iI k))]) C d_T_missingPairs_34 (by decide) rfl ?_
            first | (have c24 : ud k.toNat = -1 := Decidable.byContradiction (fun z => by unfold rch at c24; rw [if_neg z] at c24; omega)) | skip
            refine z_iinc (lv' := [(3, .int (iI (k + 1))), (2, .int (iI (f + ((msE nt ug k 0 (nt 1 + nt 2).toNat).length : Int)))), (0, .ref aU), (1, .int (iI 0))]) C d_T_missingPairs_35 3 rfl (by decide) rfl ?_
            refine z_goto (tgt := 4) C d_T_missingPairs_38 (by decide) ?_
            refine z_lv [2, 3, 1, 0] (lv' := [(0, .ref aU), (1, .int (iI 0)), (2, .int (iI (f + ((msE nt ug k 0 (nt 1 + nt 2).toNat).length : Int)))), (3, .int (iI (k + 1)))]) rfl ?_
            exact ih4 _ _ (by omega) (by rw [msS_step nt ug (by omega), List.length_append] at hE; omega) (by omega)
          · exact absurd c16 (by omega)
    refine z_lv [2, 3, 1, 0] (lv' := [(0, .ref aU), (1, .int (iI 0)), (2, .int (iI 0)), (3, .int (iI 0))]) rfl ?_
    exact loop4 (_ + 1) _ _ (by omega) (by unfold mps; rw [if_pos rfl, Int.sub_zero, Int.zero_add]) (Nat.lt_succ_self _)
  ·
    skip
    refine z_iconst C d_T_missingPairs_0 ?_
    refine z_istore_n (lv' := [(2, .int (iI 0)), (0, .ref aU), (1, .int (iI 1))]) C d_T_missingPairs_1 (by decide) rfl ?_
    refine z_iconst C d_T_missingPairs_2 ?_
    refine z_istore_n (lv' := [(3, .int (iI 0)), (2, .int (iI 0)), (0, .ref aU), (1, .int (iI 1))]) C d_T_missingPairs_3 (by decide) rfl ?_
    have loop4 : ∀ (kq : Nat) (f : Int) (k : Int), (0 ≤ k ∧ k ≤ nt 0 ∧ 0 ≤ f ∧ f ≤ 24 * k) → (f + msR nt ug ud k (nt 0 - k).toNat = mps nt ug ud 1) → ((nt 0 - k).toNat < kq) → Zc G X 4 0 0 [(aU, .inr (6, [.ref aUg, .ref aUd, .int (iI ur), .int (iI uv), .int (iI uf), .ref aN, .ref aUa])), (aN, .inr (3, [.ref aNl, .ref aNn, .ref aNt])), iA G aNt 3 nt, iA G aUg 384 ug, iA G aUd 16 ud] [(0, .ref aU), (1, .int (iI 1)), (2, .int (iI f)), (3, .int (iI k))] 4 [] := by
      intro kq
      induction kq with
      | zero => intro f k hk hE hm; exact absurd hm (Nat.not_lt_zero _)
      | succ kq ih4 =>
        intro f k hk hE hm
        -- loop body
        refine z_iload_n C d_T_missingPairs_4 3 rfl ?_
        refine z_aload_n C d_T_missingPairs_5 0 rfl ?_
        refine z_get C f_T_23 d_T_missingPairs_6 0 rfl rfl ?_
        refine z_calli (As := []) (rest := [.int (iI k)]) (wr := [(aU, .inr (6, [.ref aUg, .ref aUd, .int (iI ur), .int (iI uv), .int (iI uf), .ref aN, .ref aUa])), iA G aUg 384 ug, iA G aUd 16 ud]) (ws' := fun u => [(aU, .inr (6, [.ref aUg, .ref aUd, .int (iI ur), .int (iI uv), .int (iI uf), .ref aN, .ref aUa])), (aN, .inr (3, [.ref aNl, .ref aNn, .ref aNt])), iA G aNt 3 nt, iA G aUg 384 ug, iA G aUd 16 ud]) (q0 := 1) C k_T_46 kc_N_states (fun l sz => m_N_states l G sz aN aNl aNn aNt nt ) rfl rfl (Nat.le_of_ble_eq_true rfl) (by decide) d_T_missingPairs_9 rfl rfl [1, 2] [0, 3, 4] [0, 3, 4, 1, 2] rfl rfl (by decide) (fun u => rfl) (fun r u h9 => ?_)
        obtain rfl := h9
        show Zc G X 4 0 0 [(aU, .inr (6, [.ref aUg, .ref aUd, .int (iI ur), .int (iI uv), .int (iI uf), .ref aN, .ref aUa])), (aN, .inr (3, [.ref aNl, .ref aNn, .ref aNt])), iA G aNt 3 nt, iA G aUg 384 ug, iA G aUd 16 ud] [(0, .ref aU), (1, .int (iI 1)), (2, .int (iI f)), (3, .int (iI k))] 12 [.int (iI (nt 0)), .int (iI k)]
        refine z_icmp_ge (tgt := 41) C d_T_missingPairs_12 (by decide) (by omega) (by omega) (fun c12 => ?_) (fun c12 => ?_)
        ·
          refine z_iload_n C d_T_missingPairs_41 2 rfl ?_
          rw [show (nt 0 - k).toNat = 0 by omega] at hE
          first | have hE2 : f + (([] : List Int).length : Int) = mps nt ug ud _ := hE | have hE2 : f + 0 = mps nt ug ud _ := hE
          exact z_iret C K d_T_missingPairs_42 (rfl) () (rfl) (congrArg iI (by rw [← hE2]; simp))
        ·
          refine z_iload_n C d_T_missingPairs_15 1 rfl ?_
          refine z_if_eq (tgt := 27) C d_T_missingPairs_16 (by decide) (by omega) (fun c16 => ?_) (fun c16 => ?_)
          · exact absurd c16 (by omega)
          ·
            refine z_aload_n C d_T_missingPairs_19 0 rfl ?_
            refine z_iload_n C d_T_missingPairs_20 3 rfl ?_
            refine z_calli (As := [.int (iI k)]) (rest := []) (wr := [(aN, .inr (3, [.ref aNl, .ref aNn, .ref aNt])), iA G aNt 3 nt, iA G aUg 384 ug]) (ws' := fun u => [(aU, .inr (6, [.ref aUg, .ref aUd, .int (iI ur), .int (iI uv), .int (iI uf), .ref aN, .ref aUa])), (aN, .inr (3, [.ref aNl, .ref aNn, .ref aNt])), iA G aNt 3 nt, iA G aUg 384 ug, iA G aUd 16 ud]) (q0 := 0) C k_T_68 kc_T_isReached (fun l sz => m_T_isReached l G sz aU aUg aUd aUa ur uv uf aN ud k (by omega) (by omega)) rfl rfl (Nat.le_of_ble_eq_true rfl) (by decide) d_T_missingPairs_21 rfl rfl [0, 4] [1, 2, 3] [3, 0, 1, 2, 4] rfl rfl (by decide) (fun u => rfl) (fun r u h21 => ?_)
            obtain rfl := h21
            show Zc G X 4 0 0 [(aU, .inr (6, [.ref aUg, .ref aUd, .int (iI ur), .int (iI uv), .int (iI uf), .ref aN, .ref aUa])), (aN, .inr (3, [.ref aNl, .ref aNn, .ref aNt])), iA G aNt 3 nt, iA G aUg 384 ug, iA G aUd 16 ud] [(0, .ref aU), (1, .int (iI 1)), (2, .int (iI f)), (3, .int (iI k))] 24 [.int (iI (rch ud k))]
            refine z_if_eq (tgt := 35) C d_T_missingPairs_24 (by decide) (by unfold rch; split <;> omega) (fun c24 => ?_) (fun c24 => ?_)
            ·
              first | (have c24 : ud k.toNat = -1 := Decidable.byContradiction (fun z => by unfold rch at c24; rw [if_neg z] at c24; omega)) | skip
              refine z_iinc (lv' := [(3, .int (iI (k + 1))), (0, .ref aU), (1, .int (iI 1)), (2, .int (iI f))]) C d_T_missingPairs_35 3 rfl (by decide) rfl ?_
              refine z_goto (tgt := 4) C d_T_missingPairs_38 (by decide) ?_
              refine z_lv [1, 2, 3, 0] (lv' := [(0, .ref aU), (1, .int (iI 1)), (2, .int (iI f)), (3, .int (iI (k + 1)))]) rfl ?_
              exact ih4 _ _ (by omega) (by rw [msR_step nt ug ud (by omega), if_pos c24] at hE; omega) (by omega)
            ·
              have hml := msE_len nt ug k (nt 1 + nt 2).toNat 0
              first | (have c24 : ¬ ud k.toNat = -1 := fun z => c24 (by unfold rch; rw [if_pos z])) | skip
              refine z_iload_n C d_T_missingPairs_27 2 rfl ?_
              refine z_aload_n C d_T_missingPairs_28 0 rfl ?_
              refine z_iload_n C d_T_missingPairs_29 3 rfl ?_
              refine z_calli (As := [.int (iI k)]) (rest := [.int (iI f)]) (wr := [iA G aUd 16 ud]) (ws' := fun u => [(aU, .inr (6, [.ref aUg, .ref aUd, .int (iI ur), .int (iI uv), .int (iI uf), .ref aN, .ref aUa])), (aN, .inr (3, [.ref aNl, .ref aNn, .ref aNt])), iA G aNt 3 nt, iA G aUg 384 ug, iA G aUd 16 ud]) (q0 := 0) C k_T_79 kc_T_missingPairsOf (fun l sz => m_T_missingPairsOf l G sz aU aUg aUd aUa ur uv uf aN aNl aNn aNt nt ug k (by omega) (by omega) (by omega)) rfl rfl (Nat.le_of_ble_eq_true rfl) (by decide) d_T_missingPairs_30 rfl rfl [0, 1, 2, 3] [4] [1, 2, 3, 4, 0] rfl rfl (by decide) (fun u => rfl) (fun r u h30 => ?_)
              obtain rfl := h30
              show Zc G X 4 0 0 [(aU, .inr (6, [.ref aUg, .ref aUd, .int (iI ur), .int (iI uv), .int (iI uf), .ref aN, .ref aUa])), (aN, .inr (3, [.ref aNl, .ref aNn, .ref aNt])), iA G aNt 3 nt, iA G aUg 384 ug, iA G aUd 16 ud] [(0, .ref aU), (1, .int (iI 1)), (2, .int (iI f)), (3, .int (iI k))] 33 [.int (iI ((msE nt ug k 0 (nt 1 + nt 2).toNat).length : Int)), .int (iI f)]
              refine z_iadd C d_T_missingPairs_33 ?_
              refine z_istore_n (lv' := [(2, .int (iI (f + ((msE nt ug k 0 (nt 1 + nt 2).toNat).length : Int)))), (0, .ref aU), (1, .int (iI 1)), (3, .int (iI k))]) C d_T_missingPairs_34 (by decide) rfl ?_
              first | (have c24 : ud k.toNat = -1 := Decidable.byContradiction (fun z => by unfold rch at c24; rw [if_neg z] at c24; omega)) | skip
              refine z_iinc (lv' := [(3, .int (iI (k + 1))), (2, .int (iI (f + ((msE nt ug k 0 (nt 1 + nt 2).toNat).length : Int)))), (0, .ref aU), (1, .int (iI 1))]) C d_T_missingPairs_35 3 rfl (by decide) rfl ?_
              refine z_goto (tgt := 4) C d_T_missingPairs_38 (by decide) ?_
              refine z_lv [2, 3, 1, 0] (lv' := [(0, .ref aU), (1, .int (iI 1)), (2, .int (iI (f + ((msE nt ug k 0 (nt 1 + nt 2).toNat).length : Int)))), (3, .int (iI (k + 1)))]) rfl ?_
              exact ih4 _ _ (by omega) (by rw [msR_step nt ug ud (by omega), if_neg c24] at hE; omega) (by omega)
    refine z_lv [2, 3, 1, 0] (lv' := [(0, .ref aU), (1, .int (iI 1)), (2, .int (iI 0)), (3, .int (iI 0))]) rfl ?_
    exact loop4 (_ + 1) _ _ (by omega) (by unfold mps; rw [if_neg (by decide), Int.sub_zero, Int.zero_add]) (Nat.lt_succ_self _)
set_option maxHeartbeats 4000000 in
set_option maxRecDepth 100000 in
theorem m_T_settle (l : Launch) (G : GG) (sz : Nat) (aU : Nat) (aUg : Nat) (aUd : Nat) (aUa : Nat) (ur : Int) (uv : Int) (uf : Int) (aN : Nat) (aNl : Nat) (aNn : Nat) (aNt : Nat) (nt : Nat → Int) (ug : Nat → Int) (ud : Nat → Int) (hc : cnt nt) (hg : gol ug) (hd : dst ud) (h1 : -1 ≤ uf ∧ uf < 16) : MetV l G sz y_T_settle c_T_settle 3 ({ frames := 1, cells := 0, slots := 0, locals := 24 } : Room) [.ref aU] [(aU, .inr (6, [.ref aUg, .ref aUd, .int (iI ur), .int (iI uv), .int (iI uf), .ref aN, .ref aUa])), (aN, .inr (3, [.ref aNl, .ref aNn, .ref aNt])), iA G aNt 3 nt, iA G aUg 384 ug, iA G aUd 16 ud] (fun (u : Unit) => True) (fun (u : Unit) => [(aU, .inr (6, [.ref aUg, .ref aUd, .int (iI ur), .int (iI uv), .int (iI (ufS nt uf)), .ref aN, .ref aUa])), (aN, .inr (3, [.ref aNl, .ref aNn, .ref aNt])), iA G aNt 3 nt, iA G aUg 384 ug, iA G aUd 16 (rfT ug (nt 0).toNat (nt 0).toNat 0 (udS nt uf ud))]) := by
  refine MetV.mk (by decide) (Nat.le_of_ble_eq_true rfl) (fun X C K => ?_)
  show Zc G X 3 0 0 [(aU, .inr (6, [.ref aUg, .ref aUd, .int (iI ur), .int (iI uv), .int (iI uf), .ref aN, .ref aUa])), (aN, .inr (3, [.ref aNl, .ref aNn, .ref aNt])), iA G aNt 3 nt, iA G aUg 384 ug, iA G aUd 16 ud] [(0, .ref aU)] 0 []
  have hcc := hc
  unfold cnt at hcc
  refine z_aload_n C d_T_settle_0 0 rfl ?_
  refine z_get C f_T_43 d_T_settle_1 0 rfl rfl ?_
  refine z_iconst C d_T_settle_4 ?_
  refine z_icmp_ne (tgt := 23) C d_T_settle_5 (by decide) (by omega) (by omega) (fun c5 => ?_) (fun c5 => ?_)
  ·
    refine z_aload_n C d_T_settle_23 0 rfl ?_
    refine z_get C f_T_43 d_T_settle_24 0 rfl rfl ?_
    refine z_iconst C d_T_settle_27 ?_
    refine z_icmp_eq (tgt := 41) C d_T_settle_28 (by decide) (by omega) (by omega) (fun c28 => ?_) (fun c28 => ?_)
    ·
      refine z_iconst C d_T_settle_41 ?_
      refine z_istore_n (lv' := [(1, .int (iI 0)), (0, .ref aU)]) C d_T_settle_42 (by decide) rfl ?_
      have loop43 : ∀ (kq : Nat) (t : Int) (D : Nat → Int), (0 ≤ t ∧ t ≤ nt 0) → (dst D) → (rfT ug (nt 0).toNat (nt 0 - t).toNat t D = rfT ug (nt 0).toNat (nt 0).toNat 0 (udS nt uf ud)) → ((nt 0 - t).toNat < kq) → Zc G X 3 0 0 [(aU, .inr (6, [.ref aUg, .ref aUd, .int (iI ur), .int (iI uv), .int (iI uf), .ref aN, .ref aUa])), (aN, .inr (3, [.ref aNl, .ref aNn, .ref aNt])), iA G aNt 3 nt, iA G aUg 384 ug, iA G aUd 16 D] [(0, .ref aU), (1, .int (iI t))] 43 [] := by
        intro kq
        induction kq with
        | zero => intro t D hk hD hE hm; exact absurd hm (Nat.not_lt_zero _)
        | succ kq ih43 =>
          intro t D hk hD hE hm
          -- loop body
          refine z_iload_n C d_T_settle_43 1 rfl ?_
          refine z_aload_n C d_T_settle_44 0 rfl ?_
          refine z_get C f_T_23 d_T_settle_45 0 rfl rfl ?_
          refine z_calli (As := []) (rest := [.int (iI t)]) (wr := [(aU, .inr (6, [.ref aUg, .ref aUd, .int (iI ur), .int (iI uv), .int (iI uf), .ref aN, .ref aUa])), iA G aUg 384 ug, iA G aUd 16 D]) (ws' := fun u => [(aU, .inr (6, [.ref aUg, .ref aUd, .int (iI ur), .int (iI uv), .int (iI uf), .ref aN, .ref aUa])), (aN, .inr (3, [.ref aNl, .ref aNn, .ref aNt])), iA G aNt 3 nt, iA G aUg 384 ug, iA G aUd 16 D]) (q0 := 1) C k_T_46 kc_N_states (fun l sz => m_N_states l G sz aN aNl aNn aNt nt ) rfl rfl (Nat.le_of_ble_eq_true rfl) (by decide) d_T_settle_48 rfl rfl [1, 2] [0, 3, 4] [0, 3, 4, 1, 2] rfl rfl (by decide) (fun u => rfl) (fun r u h48 => ?_)
          obtain rfl := h48
          show Zc G X 3 0 0 [(aU, .inr (6, [.ref aUg, .ref aUd, .int (iI ur), .int (iI uv), .int (iI uf), .ref aN, .ref aUa])), (aN, .inr (3, [.ref aNl, .ref aNn, .ref aNt])), iA G aNt 3 nt, iA G aUg 384 ug, iA G aUd 16 D] [(0, .ref aU), (1, .int (iI t))] 51 [.int (iI (nt 0)), .int (iI t)]
          refine z_icmp_ge (tgt := 97) C d_T_settle_51 (by decide) (by omega) (by omega) (fun c51 => ?_) (fun c51 => ?_)
          ·
            rw [show (nt 0 - t).toNat = 0 by omega] at hE
            have hE2 : D = rfT ug (nt 0).toNat (nt 0).toNat 0 (udS nt uf ud) := hE
            exact z_vret C K d_T_settle_97 () (by rw [hE2]; unfold ufS; (repeat' split) <;> first | rfl | (exfalso; omega)) (trivial)
          ·
            refine z_iconst C d_T_settle_54 ?_
            refine z_istore_n (lv' := [(2, .int (iI 0)), (0, .ref aU), (1, .int (iI t))]) C d_T_settle_55 (by decide) rfl ?_
            have loop56 : ∀ (kq : Nat) (k : Int) (E : Nat → Int), (0 ≤ k ∧ k ≤ nt 0) → (dst E) → (rfS ug t (nt 0 - k).toNat k E = rfS ug t (nt 0).toNat 0 D) → ((nt 0 - k).toNat < kq) → Zc G X 3 0 0 [(aU, .inr (6, [.ref aUg, .ref aUd, .int (iI ur), .int (iI uv), .int (iI uf), .ref aN, .ref aUa])), (aN, .inr (3, [.ref aNl, .ref aNn, .ref aNt])), iA G aNt 3 nt, iA G aUg 384 ug, iA G aUd 16 E] [(0, .ref aU), (1, .int (iI t)), (2, .int (iI k))] 56 [] := by
              intro kq
              induction kq with
              | zero => intro k E hj hF2 hF hm; exact absurd hm (Nat.not_lt_zero _)
              | succ kq ih56 =>
                intro k E hj hF2 hF hm
                have hek := hF2 k.toNat
                -- loop body
                refine z_iload_n C d_T_settle_56 2 rfl ?_
                refine z_aload_n C d_T_settle_57 0 rfl ?_
                refine z_get C f_T_23 d_T_settle_58 0 rfl rfl ?_
                refine z_calli (As := []) (rest := [.int (iI k)]) (wr := [(aU, .inr (6, [.ref aUg, .ref aUd, .int (iI ur), .int (iI uv), .int (iI uf), .ref aN, .ref aUa])), iA G aUg 384 ug, iA G aUd 16 E]) (ws' := fun u => [(aU, .inr (6, [.ref aUg, .ref aUd, .int (iI ur), .int (iI uv), .int (iI uf), .ref aN, .ref aUa])), (aN, .inr (3, [.ref aNl, .ref aNn, .ref aNt])), iA G aNt 3 nt, iA G aUg 384 ug, iA G aUd 16 E]) (q0 := 1) C k_T_46 kc_N_states (fun l sz => m_N_states l G sz aN aNl aNn aNt nt ) rfl rfl (Nat.le_of_ble_eq_true rfl) (by decide) d_T_settle_61 rfl rfl [1, 2] [0, 3, 4] [0, 3, 4, 1, 2] rfl rfl (by decide) (fun u => rfl) (fun r u h61 => ?_)
                obtain rfl := h61
                show Zc G X 3 0 0 [(aU, .inr (6, [.ref aUg, .ref aUd, .int (iI ur), .int (iI uv), .int (iI uf), .ref aN, .ref aUa])), (aN, .inr (3, [.ref aNl, .ref aNn, .ref aNt])), iA G aNt 3 nt, iA G aUg 384 ug, iA G aUd 16 E] [(0, .ref aU), (1, .int (iI t)), (2, .int (iI k))] 64 [.int (iI (nt 0)), .int (iI k)]
                refine z_icmp_ge (tgt := 91) C d_T_settle_64 (by decide) (by omega) (by omega) (fun c64 => ?_) (fun c64 => ?_)
                ·
                  refine z_iinc (lv' := [(1, .int (iI (t + 1))), (0, .ref aU), (2, .int (iI k))]) C d_T_settle_91 1 rfl (by decide) rfl ?_
                  refine z_goto (tgt := 43) C d_T_settle_94 (by decide) ?_
                  refine z_lv [1, 0] (lv' := [(0, .ref aU), (1, .int (iI (t + 1)))]) rfl ?_
                  rw [show (nt 0 - k).toNat = 0 by omega] at hF
                  have hF3 : E = rfS ug t (nt 0).toNat 0 D := hF
                  exact ih43 _ _ (by omega) (hF2) (by rw [rfT_step ug _ D (by omega)] at hE; rw [hF3]; exact hE) (by omega)
                ·
                  refine z_aload_n C d_T_settle_67 0 rfl ?_
                  refine z_get C f_T_17 d_T_settle_68 0 rfl rfl ?_
                  refine z_iload_n C d_T_settle_71 2 rfl ?_
                  refine z_iald C d_T_settle_72 4 rfl (by omega) ?_
                  refine z_iload_n C d_T_settle_73 1 rfl ?_
                  refine z_icmp_ne (tgt := 85) C d_T_settle_74 (by decide) (by omega) (by omega) (fun c74 => ?_) (fun c74 => ?_)
                  ·
                    refine z_iinc (lv' := [(2, .int (iI (k + 1))), (0, .ref aU), (1, .int (iI t))]) C d_T_settle_85 2 rfl (by decide) rfl ?_
                    refine z_goto (tgt := 56) C d_T_settle_88 (by decide) ?_
                    refine z_lv [1, 2, 0] (lv' := [(0, .ref aU), (1, .int (iI t)), (2, .int (iI (k + 1)))]) rfl ?_
                    exact ih56 _ _ (by omega) (hF2) (by rw [rfS_step ug t E (by omega), if_neg (by omega)] at hF; exact hF) (by omega)
                  ·
                    refine z_aload_n C d_T_settle_77 0 rfl ?_
                    refine z_iload_n C d_T_settle_78 2 rfl ?_
                    refine z_iload_n C d_T_settle_79 1 rfl ?_
                    refine z_iconst C d_T_settle_80 ?_
                    refine z_iadd C d_T_settle_81 ?_
                    refine z_callv (As := [.int (iI k), .int (iI (t + 1))]) (rest := []) (wr := [(aN, .inr (3, [.ref aNl, .ref aNn, .ref aNt])), iA G aNt 3 nt]) (ws' := fun u => [(aU, .inr (6, [.ref aUg, .ref aUd, .int (iI ur), .int (iI uv), .int (iI uf), .ref aN, .ref aUa])), (aN, .inr (3, [.ref aNl, .ref aNn, .ref aNt])), iA G aNt 3 nt, iA G aUg 384 ug, iA G aUd 16 (rfD ug k (t + 1) 24 0 E)]) (q0 := 0) C k_T_64 kc_T_reachFrom (fun l sz => m_T_reachFrom l G sz aU aUg aUd aUa ur uv uf aN ug E k (t + 1) (by omega) (by omega) (by omega)) rfl rfl (Nat.le_of_ble_eq_true rfl) (by decide) d_T_settle_82 rfl rfl [0, 3, 4] [1, 2] [2, 0, 1, 3, 4] rfl rfl (by decide) (fun u => rfl) (fun u h82 => ?_)
                    show Zc G X 3 0 0 [(aU, .inr (6, [.ref aUg, .ref aUd, .int (iI ur), .int (iI uv), .int (iI uf), .ref aN, .ref aUa])), (aN, .inr (3, [.ref aNl, .ref aNn, .ref aNt])), iA G aNt 3 nt, iA G aUg 384 ug, iA G aUd 16 (rfD ug k (t + 1) 24 0 E)] [(0, .ref aU), (1, .int (iI t)), (2, .int (iI k))] 85 []
                    refine z_iinc (lv' := [(2, .int (iI (k + 1))), (0, .ref aU), (1, .int (iI t))]) C d_T_settle_85 2 rfl (by decide) rfl ?_
                    refine z_goto (tgt := 56) C d_T_settle_88 (by decide) ?_
                    refine z_lv [1, 2, 0] (lv' := [(0, .ref aU), (1, .int (iI t)), (2, .int (iI (k + 1)))]) rfl ?_
                    exact ih56 _ _ (by omega) (rfD_dst ug k (by omega) 24 0 E hF2) (by rw [rfS_step ug t E (by omega), if_pos (by omega)] at hF; exact hF) (by omega)
            refine z_lv [1, 2, 0] (lv' := [(0, .ref aU), (1, .int (iI t)), (2, .int (iI 0))]) rfl ?_
            exact loop56 (_ + 1) _ _ (by omega) (hD) (by rw [Int.sub_zero]) (Nat.lt_succ_self _)
      refine z_lv [1, 0] (lv' := [(0, .ref aU), (1, .int (iI 0))]) rfl ?_
      exact loop43 (_ + 1) _ _ (by omega) (by first | exact hd | exact uZ_dst hd (by omega)) (by rw [Int.sub_zero]; exact congrArg (rfT ug _ _ 0) (by unfold udS ufS; (repeat' split) <;> first | rfl | (exfalso; omega))) (Nat.lt_succ_self _)
    ·
      refine z_aload_n C d_T_settle_31 0 rfl ?_
      refine z_get C f_T_17 d_T_settle_32 0 rfl rfl ?_
      refine z_aload_n C d_T_settle_35 0 rfl ?_
      refine z_get C f_T_43 d_T_settle_36 0 rfl rfl ?_
      refine z_iconst C d_T_settle_39 ?_
      refine z_iast C d_T_settle_40 4 rfl (by omega) [(aU, .inr (6, [.ref aUg, .ref aUd, .int (iI ur), .int (iI uv), .int (iI uf), .ref aN, .ref aUa])), (aN, .inr (3, [.ref aNl, .ref aNn, .ref aNt])), iA G aNt 3 nt, iA G aUg 384 ug, iA G aUd 16 (uZ ud uf.toNat 0)] (rfl) ?_
      refine z_iconst C d_T_settle_41 ?_
      refine z_istore_n (lv' := [(1, .int (iI 0)), (0, .ref aU)]) C d_T_settle_42 (by decide) rfl ?_
      have loop43 : ∀ (kq : Nat) (t : Int) (D : Nat → Int), (0 ≤ t ∧ t ≤ nt 0) → (dst D) → (rfT ug (nt 0).toNat (nt 0 - t).toNat t D = rfT ug (nt 0).toNat (nt 0).toNat 0 (udS nt uf ud)) → ((nt 0 - t).toNat < kq) → Zc G X 3 0 0 [(aU, .inr (6, [.ref aUg, .ref aUd, .int (iI ur), .int (iI uv), .int (iI uf), .ref aN, .ref aUa])), (aN, .inr (3, [.ref aNl, .ref aNn, .ref aNt])), iA G aNt 3 nt, iA G aUg 384 ug, iA G aUd 16 D] [(0, .ref aU), (1, .int (iI t))] 43 [] := by
        intro kq
        induction kq with
        | zero => intro t D hk hD hE hm; exact absurd hm (Nat.not_lt_zero _)
        | succ kq ih43 =>
          intro t D hk hD hE hm
          -- loop body
          refine z_iload_n C d_T_settle_43 1 rfl ?_
          refine z_aload_n C d_T_settle_44 0 rfl ?_
          refine z_get C f_T_23 d_T_settle_45 0 rfl rfl ?_
          refine z_calli (As := []) (rest := [.int (iI t)]) (wr := [(aU, .inr (6, [.ref aUg, .ref aUd, .int (iI ur), .int (iI uv), .int (iI uf), .ref aN, .ref aUa])), iA G aUg 384 ug, iA G aUd 16 D]) (ws' := fun u => [(aU, .inr (6, [.ref aUg, .ref aUd, .int (iI ur), .int (iI uv), .int (iI uf), .ref aN, .ref aUa])), (aN, .inr (3, [.ref aNl, .ref aNn, .ref aNt])), iA G aNt 3 nt, iA G aUg 384 ug, iA G aUd 16 D]) (q0 := 1) C k_T_46 kc_N_states (fun l sz => m_N_states l G sz aN aNl aNn aNt nt ) rfl rfl (Nat.le_of_ble_eq_true rfl) (by decide) d_T_settle_48 rfl rfl [1, 2] [0, 3, 4] [0, 3, 4, 1, 2] rfl rfl (by decide) (fun u => rfl) (fun r u h48 => ?_)
          obtain rfl := h48
          show Zc G X 3 0 0 [(aU, .inr (6, [.ref aUg, .ref aUd, .int (iI ur), .int (iI uv), .int (iI uf), .ref aN, .ref aUa])), (aN, .inr (3, [.ref aNl, .ref aNn, .ref aNt])), iA G aNt 3 nt, iA G aUg 384 ug, iA G aUd 16 D] [(0, .ref aU), (1, .int (iI t))] 51 [.int (iI (nt 0)), .int (iI t)]
          refine z_icmp_ge (tgt := 97) C d_T_settle_51 (by decide) (by omega) (by omega) (fun c51 => ?_) (fun c51 => ?_)
          ·
            rw [show (nt 0 - t).toNat = 0 by omega] at hE
            have hE2 : D = rfT ug (nt 0).toNat (nt 0).toNat 0 (udS nt uf ud) := hE
            exact z_vret C K d_T_settle_97 () (by rw [hE2]; unfold ufS; (repeat' split) <;> first | rfl | (exfalso; omega)) (trivial)
          ·
            refine z_iconst C d_T_settle_54 ?_
            refine z_istore_n (lv' := [(2, .int (iI 0)), (0, .ref aU), (1, .int (iI t))]) C d_T_settle_55 (by decide) rfl ?_
            have loop56 : ∀ (kq : Nat) (k : Int) (E : Nat → Int), (0 ≤ k ∧ k ≤ nt 0) → (dst E) → (rfS ug t (nt 0 - k).toNat k E = rfS ug t (nt 0).toNat 0 D) → ((nt 0 - k).toNat < kq) → Zc G X 3 0 0 [(aU, .inr (6, [.ref aUg, .ref aUd, .int (iI ur), .int (iI uv), .int (iI uf), .ref aN, .ref aUa])), (aN, .inr (3, [.ref aNl, .ref aNn, .ref aNt])), iA G aNt 3 nt, iA G aUg 384 ug, iA G aUd 16 E] [(0, .ref aU), (1, .int (iI t)), (2, .int (iI k))] 56 [] := by
              intro kq
              induction kq with
              | zero => intro k E hj hF2 hF hm; exact absurd hm (Nat.not_lt_zero _)
              | succ kq ih56 =>
                intro k E hj hF2 hF hm
                have hek := hF2 k.toNat
                -- loop body
                refine z_iload_n C d_T_settle_56 2 rfl ?_
                refine z_aload_n C d_T_settle_57 0 rfl ?_
                refine z_get C f_T_23 d_T_settle_58 0 rfl rfl ?_
                refine z_calli (As := []) (rest := [.int (iI k)]) (wr := [(aU, .inr (6, [.ref aUg, .ref aUd, .int (iI ur), .int (iI uv), .int (iI uf), .ref aN, .ref aUa])), iA G aUg 384 ug, iA G aUd 16 E]) (ws' := fun u => [(aU, .inr (6, [.ref aUg, .ref aUd, .int (iI ur), .int (iI uv), .int (iI uf), .ref aN, .ref aUa])), (aN, .inr (3, [.ref aNl, .ref aNn, .ref aNt])), iA G aNt 3 nt, iA G aUg 384 ug, iA G aUd 16 E]) (q0 := 1) C k_T_46 kc_N_states (fun l sz => m_N_states l G sz aN aNl aNn aNt nt ) rfl rfl (Nat.le_of_ble_eq_true rfl) (by decide) d_T_settle_61 rfl rfl [1, 2] [0, 3, 4] [0, 3, 4, 1, 2] rfl rfl (by decide) (fun u => rfl) (fun r u h61 => ?_)
                obtain rfl := h61
                show Zc G X 3 0 0 [(aU, .inr (6, [.ref aUg, .ref aUd, .int (iI ur), .int (iI uv), .int (iI uf), .ref aN, .ref aUa])), (aN, .inr (3, [.ref aNl, .ref aNn, .ref aNt])), iA G aNt 3 nt, iA G aUg 384 ug, iA G aUd 16 E] [(0, .ref aU), (1, .int (iI t)), (2, .int (iI k))] 64 [.int (iI (nt 0)), .int (iI k)]
                refine z_icmp_ge (tgt := 91) C d_T_settle_64 (by decide) (by omega) (by omega) (fun c64 => ?_) (fun c64 => ?_)
                ·
                  refine z_iinc (lv' := [(1, .int (iI (t + 1))), (0, .ref aU), (2, .int (iI k))]) C d_T_settle_91 1 rfl (by decide) rfl ?_
                  refine z_goto (tgt := 43) C d_T_settle_94 (by decide) ?_
                  refine z_lv [1, 0] (lv' := [(0, .ref aU), (1, .int (iI (t + 1)))]) rfl ?_
                  rw [show (nt 0 - k).toNat = 0 by omega] at hF
                  have hF3 : E = rfS ug t (nt 0).toNat 0 D := hF
                  exact ih43 _ _ (by omega) (hF2) (by rw [rfT_step ug _ D (by omega)] at hE; rw [hF3]; exact hE) (by omega)
                ·
                  refine z_aload_n C d_T_settle_67 0 rfl ?_
                  refine z_get C f_T_17 d_T_settle_68 0 rfl rfl ?_
                  refine z_iload_n C d_T_settle_71 2 rfl ?_
                  refine z_iald C d_T_settle_72 4 rfl (by omega) ?_
                  refine z_iload_n C d_T_settle_73 1 rfl ?_
                  refine z_icmp_ne (tgt := 85) C d_T_settle_74 (by decide) (by omega) (by omega) (fun c74 => ?_) (fun c74 => ?_)
                  ·
                    refine z_iinc (lv' := [(2, .int (iI (k + 1))), (0, .ref aU), (1, .int (iI t))]) C d_T_settle_85 2 rfl (by decide) rfl ?_
                    refine z_goto (tgt := 56) C d_T_settle_88 (by decide) ?_
                    refine z_lv [1, 2, 0] (lv' := [(0, .ref aU), (1, .int (iI t)), (2, .int (iI (k + 1)))]) rfl ?_
                    exact ih56 _ _ (by omega) (hF2) (by rw [rfS_step ug t E (by omega), if_neg (by omega)] at hF; exact hF) (by omega)
                  ·
                    refine z_aload_n C d_T_settle_77 0 rfl ?_
                    refine z_iload_n C d_T_settle_78 2 rfl ?_
                    refine z_iload_n C d_T_settle_79 1 rfl ?_
                    refine z_iconst C d_T_settle_80 ?_
                    refine z_iadd C d_T_settle_81 ?_
                    refine z_callv (As := [.int (iI k), .int (iI (t + 1))]) (rest := []) (wr := [(aN, .inr (3, [.ref aNl, .ref aNn, .ref aNt])), iA G aNt 3 nt]) (ws' := fun u => [(aU, .inr (6, [.ref aUg, .ref aUd, .int (iI ur), .int (iI uv), .int (iI uf), .ref aN, .ref aUa])), (aN, .inr (3, [.ref aNl, .ref aNn, .ref aNt])), iA G aNt 3 nt, iA G aUg 384 ug, iA G aUd 16 (rfD ug k (t + 1) 24 0 E)]) (q0 := 0) C k_T_64 kc_T_reachFrom (fun l sz => m_T_reachFrom l G sz aU aUg aUd aUa ur uv uf aN ug E k (t + 1) (by omega) (by omega) (by omega)) rfl rfl (Nat.le_of_ble_eq_true rfl) (by decide) d_T_settle_82 rfl rfl [0, 3, 4] [1, 2] [2, 0, 1, 3, 4] rfl rfl (by decide) (fun u => rfl) (fun u h82 => ?_)
                    show Zc G X 3 0 0 [(aU, .inr (6, [.ref aUg, .ref aUd, .int (iI ur), .int (iI uv), .int (iI uf), .ref aN, .ref aUa])), (aN, .inr (3, [.ref aNl, .ref aNn, .ref aNt])), iA G aNt 3 nt, iA G aUg 384 ug, iA G aUd 16 (rfD ug k (t + 1) 24 0 E)] [(0, .ref aU), (1, .int (iI t)), (2, .int (iI k))] 85 []
                    refine z_iinc (lv' := [(2, .int (iI (k + 1))), (0, .ref aU), (1, .int (iI t))]) C d_T_settle_85 2 rfl (by decide) rfl ?_
                    refine z_goto (tgt := 56) C d_T_settle_88 (by decide) ?_
                    refine z_lv [1, 2, 0] (lv' := [(0, .ref aU), (1, .int (iI t)), (2, .int (iI (k + 1)))]) rfl ?_
                    exact ih56 _ _ (by omega) (rfD_dst ug k (by omega) 24 0 E hF2) (by rw [rfS_step ug t E (by omega), if_pos (by omega)] at hF; exact hF) (by omega)
            refine z_lv [1, 2, 0] (lv' := [(0, .ref aU), (1, .int (iI t)), (2, .int (iI 0))]) rfl ?_
            exact loop56 (_ + 1) _ _ (by omega) (hD) (by rw [Int.sub_zero]) (Nat.lt_succ_self _)
      refine z_lv [1, 0] (lv' := [(0, .ref aU), (1, .int (iI 0))]) rfl ?_
      exact loop43 (_ + 1) _ _ (by omega) (by first | exact hd | exact uZ_dst hd (by omega)) (by rw [Int.sub_zero]; exact congrArg (rfT ug _ _ 0) (by unfold udS ufS; (repeat' split) <;> first | rfl | (exfalso; omega))) (Nat.lt_succ_self _)
  ·
    refine z_aload_n C d_T_settle_8 0 rfl ?_
    refine z_get C f_T_23 d_T_settle_9 0 rfl rfl ?_
    refine z_calli (As := []) (rest := []) (wr := [(aU, .inr (6, [.ref aUg, .ref aUd, .int (iI ur), .int (iI uv), .int (iI uf), .ref aN, .ref aUa])), iA G aUg 384 ug, iA G aUd 16 ud]) (ws' := fun u => [(aU, .inr (6, [.ref aUg, .ref aUd, .int (iI ur), .int (iI uv), .int (iI uf), .ref aN, .ref aUa])), (aN, .inr (3, [.ref aNl, .ref aNn, .ref aNt])), iA G aNt 3 nt, iA G aUg 384 ug, iA G aUd 16 ud]) (q0 := 1) C k_T_46 kc_N_states (fun l sz => m_N_states l G sz aN aNl aNn aNt nt ) rfl rfl (Nat.le_of_ble_eq_true rfl) (by decide) d_T_settle_12 rfl rfl [1, 2] [0, 3, 4] [0, 3, 4, 1, 2] rfl rfl (by decide) (fun u => rfl) (fun r u h12 => ?_)
    obtain rfl := h12
    show Zc G X 3 0 0 [(aU, .inr (6, [.ref aUg, .ref aUd, .int (iI ur), .int (iI uv), .int (iI uf), .ref aN, .ref aUa])), (aN, .inr (3, [.ref aNl, .ref aNn, .ref aNt])), iA G aNt 3 nt, iA G aUg 384 ug, iA G aUd 16 ud] [(0, .ref aU)] 15 [.int (iI (nt 0))]
    refine z_if_le (tgt := 23) C d_T_settle_15 (by decide) (by omega) (fun c15 => ?_) (fun c15 => ?_)
    ·
      refine z_aload_n C d_T_settle_23 0 rfl ?_
      refine z_get C f_T_43 d_T_settle_24 0 rfl rfl ?_
      refine z_iconst C d_T_settle_27 ?_
      refine z_icmp_eq (tgt := 41) C d_T_settle_28 (by decide) (by omega) (by omega) (fun c28 => ?_) (fun c28 => ?_)
      ·
        refine z_iconst C d_T_settle_41 ?_
        refine z_istore_n (lv' := [(1, .int (iI 0)), (0, .ref aU)]) C d_T_settle_42 (by decide) rfl ?_
        have loop43 : ∀ (kq : Nat) (t : Int) (D : Nat → Int), (0 ≤ t ∧ t ≤ nt 0) → (dst D) → (rfT ug (nt 0).toNat (nt 0 - t).toNat t D = rfT ug (nt 0).toNat (nt 0).toNat 0 (udS nt uf ud)) → ((nt 0 - t).toNat < kq) → Zc G X 3 0 0 [(aU, .inr (6, [.ref aUg, .ref aUd, .int (iI ur), .int (iI uv), .int (iI uf), .ref aN, .ref aUa])), (aN, .inr (3, [.ref aNl, .ref aNn, .ref aNt])), iA G aNt 3 nt, iA G aUg 384 ug, iA G aUd 16 D] [(0, .ref aU), (1, .int (iI t))] 43 [] := by
          intro kq
          induction kq with
          | zero => intro t D hk hD hE hm; exact absurd hm (Nat.not_lt_zero _)
          | succ kq ih43 =>
            intro t D hk hD hE hm
            -- loop body
            refine z_iload_n C d_T_settle_43 1 rfl ?_
            refine z_aload_n C d_T_settle_44 0 rfl ?_
            refine z_get C f_T_23 d_T_settle_45 0 rfl rfl ?_
            refine z_calli (As := []) (rest := [.int (iI t)]) (wr := [(aU, .inr (6, [.ref aUg, .ref aUd, .int (iI ur), .int (iI uv), .int (iI uf), .ref aN, .ref aUa])), iA G aUg 384 ug, iA G aUd 16 D]) (ws' := fun u => [(aU, .inr (6, [.ref aUg, .ref aUd, .int (iI ur), .int (iI uv), .int (iI uf), .ref aN, .ref aUa])), (aN, .inr (3, [.ref aNl, .ref aNn, .ref aNt])), iA G aNt 3 nt, iA G aUg 384 ug, iA G aUd 16 D]) (q0 := 1) C k_T_46 kc_N_states (fun l sz => m_N_states l G sz aN aNl aNn aNt nt ) rfl rfl (Nat.le_of_ble_eq_true rfl) (by decide) d_T_settle_48 rfl rfl [1, 2] [0, 3, 4] [0, 3, 4, 1, 2] rfl rfl (by decide) (fun u => rfl) (fun r u h48 => ?_)
            obtain rfl := h48
            show Zc G X 3 0 0 [(aU, .inr (6, [.ref aUg, .ref aUd, .int (iI ur), .int (iI uv), .int (iI uf), .ref aN, .ref aUa])), (aN, .inr (3, [.ref aNl, .ref aNn, .ref aNt])), iA G aNt 3 nt, iA G aUg 384 ug, iA G aUd 16 D] [(0, .ref aU), (1, .int (iI t))] 51 [.int (iI (nt 0)), .int (iI t)]
            refine z_icmp_ge (tgt := 97) C d_T_settle_51 (by decide) (by omega) (by omega) (fun c51 => ?_) (fun c51 => ?_)
            ·
              rw [show (nt 0 - t).toNat = 0 by omega] at hE
              have hE2 : D = rfT ug (nt 0).toNat (nt 0).toNat 0 (udS nt uf ud) := hE
              exact z_vret C K d_T_settle_97 () (by rw [hE2]; unfold ufS; (repeat' split) <;> first | rfl | (exfalso; omega)) (trivial)
            ·
              refine z_iconst C d_T_settle_54 ?_
              refine z_istore_n (lv' := [(2, .int (iI 0)), (0, .ref aU), (1, .int (iI t))]) C d_T_settle_55 (by decide) rfl ?_
              have loop56 : ∀ (kq : Nat) (k : Int) (E : Nat → Int), (0 ≤ k ∧ k ≤ nt 0) → (dst E) → (rfS ug t (nt 0 - k).toNat k E = rfS ug t (nt 0).toNat 0 D) → ((nt 0 - k).toNat < kq) → Zc G X 3 0 0 [(aU, .inr (6, [.ref aUg, .ref aUd, .int (iI ur), .int (iI uv), .int (iI uf), .ref aN, .ref aUa])), (aN, .inr (3, [.ref aNl, .ref aNn, .ref aNt])), iA G aNt 3 nt, iA G aUg 384 ug, iA G aUd 16 E] [(0, .ref aU), (1, .int (iI t)), (2, .int (iI k))] 56 [] := by
                intro kq
                induction kq with
                | zero => intro k E hj hF2 hF hm; exact absurd hm (Nat.not_lt_zero _)
                | succ kq ih56 =>
                  intro k E hj hF2 hF hm
                  have hek := hF2 k.toNat
                  -- loop body
                  refine z_iload_n C d_T_settle_56 2 rfl ?_
                  refine z_aload_n C d_T_settle_57 0 rfl ?_
                  refine z_get C f_T_23 d_T_settle_58 0 rfl rfl ?_
                  refine z_calli (As := []) (rest := [.int (iI k)]) (wr := [(aU, .inr (6, [.ref aUg, .ref aUd, .int (iI ur), .int (iI uv), .int (iI uf), .ref aN, .ref aUa])), iA G aUg 384 ug, iA G aUd 16 E]) (ws' := fun u => [(aU, .inr (6, [.ref aUg, .ref aUd, .int (iI ur), .int (iI uv), .int (iI uf), .ref aN, .ref aUa])), (aN, .inr (3, [.ref aNl, .ref aNn, .ref aNt])), iA G aNt 3 nt, iA G aUg 384 ug, iA G aUd 16 E]) (q0 := 1) C k_T_46 kc_N_states (fun l sz => m_N_states l G sz aN aNl aNn aNt nt ) rfl rfl (Nat.le_of_ble_eq_true rfl) (by decide) d_T_settle_61 rfl rfl [1, 2] [0, 3, 4] [0, 3, 4, 1, 2] rfl rfl (by decide) (fun u => rfl) (fun r u h61 => ?_)
                  obtain rfl := h61
                  show Zc G X 3 0 0 [(aU, .inr (6, [.ref aUg, .ref aUd, .int (iI ur), .int (iI uv), .int (iI uf), .ref aN, .ref aUa])), (aN, .inr (3, [.ref aNl, .ref aNn, .ref aNt])), iA G aNt 3 nt, iA G aUg 384 ug, iA G aUd 16 E] [(0, .ref aU), (1, .int (iI t)), (2, .int (iI k))] 64 [.int (iI (nt 0)), .int (iI k)]
                  refine z_icmp_ge (tgt := 91) C d_T_settle_64 (by decide) (by omega) (by omega) (fun c64 => ?_) (fun c64 => ?_)
                  ·
                    refine z_iinc (lv' := [(1, .int (iI (t + 1))), (0, .ref aU), (2, .int (iI k))]) C d_T_settle_91 1 rfl (by decide) rfl ?_
                    refine z_goto (tgt := 43) C d_T_settle_94 (by decide) ?_
                    refine z_lv [1, 0] (lv' := [(0, .ref aU), (1, .int (iI (t + 1)))]) rfl ?_
                    rw [show (nt 0 - k).toNat = 0 by omega] at hF
                    have hF3 : E = rfS ug t (nt 0).toNat 0 D := hF
                    exact ih43 _ _ (by omega) (hF2) (by rw [rfT_step ug _ D (by omega)] at hE; rw [hF3]; exact hE) (by omega)
                  ·
                    refine z_aload_n C d_T_settle_67 0 rfl ?_
                    refine z_get C f_T_17 d_T_settle_68 0 rfl rfl ?_
                    refine z_iload_n C d_T_settle_71 2 rfl ?_
                    refine z_iald C d_T_settle_72 4 rfl (by omega) ?_
                    refine z_iload_n C d_T_settle_73 1 rfl ?_
                    refine z_icmp_ne (tgt := 85) C d_T_settle_74 (by decide) (by omega) (by omega) (fun c74 => ?_) (fun c74 => ?_)
                    ·
                      refine z_iinc (lv' := [(2, .int (iI (k + 1))), (0, .ref aU), (1, .int (iI t))]) C d_T_settle_85 2 rfl (by decide) rfl ?_
                      refine z_goto (tgt := 56) C d_T_settle_88 (by decide) ?_
                      refine z_lv [1, 2, 0] (lv' := [(0, .ref aU), (1, .int (iI t)), (2, .int (iI (k + 1)))]) rfl ?_
                      exact ih56 _ _ (by omega) (hF2) (by rw [rfS_step ug t E (by omega), if_neg (by omega)] at hF; exact hF) (by omega)
                    ·
                      refine z_aload_n C d_T_settle_77 0 rfl ?_
                      refine z_iload_n C d_T_settle_78 2 rfl ?_
                      refine z_iload_n C d_T_settle_79 1 rfl ?_
                      refine z_iconst C d_T_settle_80 ?_
                      refine z_iadd C d_T_settle_81 ?_
                      refine z_callv (As := [.int (iI k), .int (iI (t + 1))]) (rest := []) (wr := [(aN, .inr (3, [.ref aNl, .ref aNn, .ref aNt])), iA G aNt 3 nt]) (ws' := fun u => [(aU, .inr (6, [.ref aUg, .ref aUd, .int (iI ur), .int (iI uv), .int (iI uf), .ref aN, .ref aUa])), (aN, .inr (3, [.ref aNl, .ref aNn, .ref aNt])), iA G aNt 3 nt, iA G aUg 384 ug, iA G aUd 16 (rfD ug k (t + 1) 24 0 E)]) (q0 := 0) C k_T_64 kc_T_reachFrom (fun l sz => m_T_reachFrom l G sz aU aUg aUd aUa ur uv uf aN ug E k (t + 1) (by omega) (by omega) (by omega)) rfl rfl (Nat.le_of_ble_eq_true rfl) (by decide) d_T_settle_82 rfl rfl [0, 3, 4] [1, 2] [2, 0, 1, 3, 4] rfl rfl (by decide) (fun u => rfl) (fun u h82 => ?_)
                      show Zc G X 3 0 0 [(aU, .inr (6, [.ref aUg, .ref aUd, .int (iI ur), .int (iI uv), .int (iI uf), .ref aN, .ref aUa])), (aN, .inr (3, [.ref aNl, .ref aNn, .ref aNt])), iA G aNt 3 nt, iA G aUg 384 ug, iA G aUd 16 (rfD ug k (t + 1) 24 0 E)] [(0, .ref aU), (1, .int (iI t)), (2, .int (iI k))] 85 []
                      refine z_iinc (lv' := [(2, .int (iI (k + 1))), (0, .ref aU), (1, .int (iI t))]) C d_T_settle_85 2 rfl (by decide) rfl ?_
                      refine z_goto (tgt := 56) C d_T_settle_88 (by decide) ?_
                      refine z_lv [1, 2, 0] (lv' := [(0, .ref aU), (1, .int (iI t)), (2, .int (iI (k + 1)))]) rfl ?_
                      exact ih56 _ _ (by omega) (rfD_dst ug k (by omega) 24 0 E hF2) (by rw [rfS_step ug t E (by omega), if_pos (by omega)] at hF; exact hF) (by omega)
              refine z_lv [1, 2, 0] (lv' := [(0, .ref aU), (1, .int (iI t)), (2, .int (iI 0))]) rfl ?_
              exact loop56 (_ + 1) _ _ (by omega) (hD) (by rw [Int.sub_zero]) (Nat.lt_succ_self _)
        refine z_lv [1, 0] (lv' := [(0, .ref aU), (1, .int (iI 0))]) rfl ?_
        exact loop43 (_ + 1) _ _ (by omega) (by first | exact hd | exact uZ_dst hd (by omega)) (by rw [Int.sub_zero]; exact congrArg (rfT ug _ _ 0) (by unfold udS ufS; (repeat' split) <;> first | rfl | (exfalso; omega))) (Nat.lt_succ_self _)
      ·
        refine z_aload_n C d_T_settle_31 0 rfl ?_
        refine z_get C f_T_17 d_T_settle_32 0 rfl rfl ?_
        refine z_aload_n C d_T_settle_35 0 rfl ?_
        refine z_get C f_T_43 d_T_settle_36 0 rfl rfl ?_
        refine z_iconst C d_T_settle_39 ?_
        refine z_iast C d_T_settle_40 4 rfl (by omega) [(aU, .inr (6, [.ref aUg, .ref aUd, .int (iI ur), .int (iI uv), .int (iI uf), .ref aN, .ref aUa])), (aN, .inr (3, [.ref aNl, .ref aNn, .ref aNt])), iA G aNt 3 nt, iA G aUg 384 ug, iA G aUd 16 (uZ ud uf.toNat 0)] (rfl) ?_
        refine z_iconst C d_T_settle_41 ?_
        refine z_istore_n (lv' := [(1, .int (iI 0)), (0, .ref aU)]) C d_T_settle_42 (by decide) rfl ?_
        have loop43 : ∀ (kq : Nat) (t : Int) (D : Nat → Int), (0 ≤ t ∧ t ≤ nt 0) → (dst D) → (rfT ug (nt 0).toNat (nt 0 - t).toNat t D = rfT ug (nt 0).toNat (nt 0).toNat 0 (udS nt uf ud)) → ((nt 0 - t).toNat < kq) → Zc G X 3 0 0 [(aU, .inr (6, [.ref aUg, .ref aUd, .int (iI ur), .int (iI uv), .int (iI uf), .ref aN, .ref aUa])), (aN, .inr (3, [.ref aNl, .ref aNn, .ref aNt])), iA G aNt 3 nt, iA G aUg 384 ug, iA G aUd 16 D] [(0, .ref aU), (1, .int (iI t))] 43 [] := by
          intro kq
          induction kq with
          | zero => intro t D hk hD hE hm; exact absurd hm (Nat.not_lt_zero _)
          | succ kq ih43 =>
            intro t D hk hD hE hm
            -- loop body
            refine z_iload_n C d_T_settle_43 1 rfl ?_
            refine z_aload_n C d_T_settle_44 0 rfl ?_
            refine z_get C f_T_23 d_T_settle_45 0 rfl rfl ?_
            refine z_calli (As := []) (rest := [.int (iI t)]) (wr := [(aU, .inr (6, [.ref aUg, .ref aUd, .int (iI ur), .int (iI uv), .int (iI uf), .ref aN, .ref aUa])), iA G aUg 384 ug, iA G aUd 16 D]) (ws' := fun u => [(aU, .inr (6, [.ref aUg, .ref aUd, .int (iI ur), .int (iI uv), .int (iI uf), .ref aN, .ref aUa])), (aN, .inr (3, [.ref aNl, .ref aNn, .ref aNt])), iA G aNt 3 nt, iA G aUg 384 ug, iA G aUd 16 D]) (q0 := 1) C k_T_46 kc_N_states (fun l sz => m_N_states l G sz aN aNl aNn aNt nt ) rfl rfl (Nat.le_of_ble_eq_true rfl) (by decide) d_T_settle_48 rfl rfl [1, 2] [0, 3, 4] [0, 3, 4, 1, 2] rfl rfl (by decide) (fun u => rfl) (fun r u h48 => ?_)
            obtain rfl := h48
            show Zc G X 3 0 0 [(aU, .inr (6, [.ref aUg, .ref aUd, .int (iI ur), .int (iI uv), .int (iI uf), .ref aN, .ref aUa])), (aN, .inr (3, [.ref aNl, .ref aNn, .ref aNt])), iA G aNt 3 nt, iA G aUg 384 ug, iA G aUd 16 D] [(0, .ref aU), (1, .int (iI t))] 51 [.int (iI (nt 0)), .int (iI t)]
            refine z_icmp_ge (tgt := 97) C d_T_settle_51 (by decide) (by omega) (by omega) (fun c51 => ?_) (fun c51 => ?_)
            ·
              rw [show (nt 0 - t).toNat = 0 by omega] at hE
              have hE2 : D = rfT ug (nt 0).toNat (nt 0).toNat 0 (udS nt uf ud) := hE
              exact z_vret C K d_T_settle_97 () (by rw [hE2]; unfold ufS; (repeat' split) <;> first | rfl | (exfalso; omega)) (trivial)
            ·
              refine z_iconst C d_T_settle_54 ?_
              refine z_istore_n (lv' := [(2, .int (iI 0)), (0, .ref aU), (1, .int (iI t))]) C d_T_settle_55 (by decide) rfl ?_
              have loop56 : ∀ (kq : Nat) (k : Int) (E : Nat → Int), (0 ≤ k ∧ k ≤ nt 0) → (dst E) → (rfS ug t (nt 0 - k).toNat k E = rfS ug t (nt 0).toNat 0 D) → ((nt 0 - k).toNat < kq) → Zc G X 3 0 0 [(aU, .inr (6, [.ref aUg, .ref aUd, .int (iI ur), .int (iI uv), .int (iI uf), .ref aN, .ref aUa])), (aN, .inr (3, [.ref aNl, .ref aNn, .ref aNt])), iA G aNt 3 nt, iA G aUg 384 ug, iA G aUd 16 E] [(0, .ref aU), (1, .int (iI t)), (2, .int (iI k))] 56 [] := by
                intro kq
                induction kq with
                | zero => intro k E hj hF2 hF hm; exact absurd hm (Nat.not_lt_zero _)
                | succ kq ih56 =>
                  intro k E hj hF2 hF hm
                  have hek := hF2 k.toNat
                  -- loop body
                  refine z_iload_n C d_T_settle_56 2 rfl ?_
                  refine z_aload_n C d_T_settle_57 0 rfl ?_
                  refine z_get C f_T_23 d_T_settle_58 0 rfl rfl ?_
                  refine z_calli (As := []) (rest := [.int (iI k)]) (wr := [(aU, .inr (6, [.ref aUg, .ref aUd, .int (iI ur), .int (iI uv), .int (iI uf), .ref aN, .ref aUa])), iA G aUg 384 ug, iA G aUd 16 E]) (ws' := fun u => [(aU, .inr (6, [.ref aUg, .ref aUd, .int (iI ur), .int (iI uv), .int (iI uf), .ref aN, .ref aUa])), (aN, .inr (3, [.ref aNl, .ref aNn, .ref aNt])), iA G aNt 3 nt, iA G aUg 384 ug, iA G aUd 16 E]) (q0 := 1) C k_T_46 kc_N_states (fun l sz => m_N_states l G sz aN aNl aNn aNt nt ) rfl rfl (Nat.le_of_ble_eq_true rfl) (by decide) d_T_settle_61 rfl rfl [1, 2] [0, 3, 4] [0, 3, 4, 1, 2] rfl rfl (by decide) (fun u => rfl) (fun r u h61 => ?_)
                  obtain rfl := h61
                  show Zc G X 3 0 0 [(aU, .inr (6, [.ref aUg, .ref aUd, .int (iI ur), .int (iI uv), .int (iI uf), .ref aN, .ref aUa])), (aN, .inr (3, [.ref aNl, .ref aNn, .ref aNt])), iA G aNt 3 nt, iA G aUg 384 ug, iA G aUd 16 E] [(0, .ref aU), (1, .int (iI t)), (2, .int (iI k))] 64 [.int (iI (nt 0)), .int (iI k)]
                  refine z_icmp_ge (tgt := 91) C d_T_settle_64 (by decide) (by omega) (by omega) (fun c64 => ?_) (fun c64 => ?_)
                  ·
                    refine z_iinc (lv' := [(1, .int (iI (t + 1))), (0, .ref aU), (2, .int (iI k))]) C d_T_settle_91 1 rfl (by decide) rfl ?_
                    refine z_goto (tgt := 43) C d_T_settle_94 (by decide) ?_
                    refine z_lv [1, 0] (lv' := [(0, .ref aU), (1, .int (iI (t + 1)))]) rfl ?_
                    rw [show (nt 0 - k).toNat = 0 by omega] at hF
                    have hF3 : E = rfS ug t (nt 0).toNat 0 D := hF
                    exact ih43 _ _ (by omega) (hF2) (by rw [rfT_step ug _ D (by omega)] at hE; rw [hF3]; exact hE) (by omega)
                  ·
                    refine z_aload_n C d_T_settle_67 0 rfl ?_
                    refine z_get C f_T_17 d_T_settle_68 0 rfl rfl ?_
                    refine z_iload_n C d_T_settle_71 2 rfl ?_
                    refine z_iald C d_T_settle_72 4 rfl (by omega) ?_
                    refine z_iload_n C d_T_settle_73 1 rfl ?_
                    refine z_icmp_ne (tgt := 85) C d_T_settle_74 (by decide) (by omega) (by omega) (fun c74 => ?_) (fun c74 => ?_)
                    ·
                      refine z_iinc (lv' := [(2, .int (iI (k + 1))), (0, .ref aU), (1, .int (iI t))]) C d_T_settle_85 2 rfl (by decide) rfl ?_
                      refine z_goto (tgt := 56) C d_T_settle_88 (by decide) ?_
                      refine z_lv [1, 2, 0] (lv' := [(0, .ref aU), (1, .int (iI t)), (2, .int (iI (k + 1)))]) rfl ?_
                      exact ih56 _ _ (by omega) (hF2) (by rw [rfS_step ug t E (by omega), if_neg (by omega)] at hF; exact hF) (by omega)
                    ·
                      refine z_aload_n C d_T_settle_77 0 rfl ?_
                      refine z_iload_n C d_T_settle_78 2 rfl ?_
                      refine z_iload_n C d_T_settle_79 1 rfl ?_
                      refine z_iconst C d_T_settle_80 ?_
                      refine z_iadd C d_T_settle_81 ?_
                      refine z_callv (As := [.int (iI k), .int (iI (t + 1))]) (rest := []) (wr := [(aN, .inr (3, [.ref aNl, .ref aNn, .ref aNt])), iA G aNt 3 nt]) (ws' := fun u => [(aU, .inr (6, [.ref aUg, .ref aUd, .int (iI ur), .int (iI uv), .int (iI uf), .ref aN, .ref aUa])), (aN, .inr (3, [.ref aNl, .ref aNn, .ref aNt])), iA G aNt 3 nt, iA G aUg 384 ug, iA G aUd 16 (rfD ug k (t + 1) 24 0 E)]) (q0 := 0) C k_T_64 kc_T_reachFrom (fun l sz => m_T_reachFrom l G sz aU aUg aUd aUa ur uv uf aN ug E k (t + 1) (by omega) (by omega) (by omega)) rfl rfl (Nat.le_of_ble_eq_true rfl) (by decide) d_T_settle_82 rfl rfl [0, 3, 4] [1, 2] [2, 0, 1, 3, 4] rfl rfl (by decide) (fun u => rfl) (fun u h82 => ?_)
                      show Zc G X 3 0 0 [(aU, .inr (6, [.ref aUg, .ref aUd, .int (iI ur), .int (iI uv), .int (iI uf), .ref aN, .ref aUa])), (aN, .inr (3, [.ref aNl, .ref aNn, .ref aNt])), iA G aNt 3 nt, iA G aUg 384 ug, iA G aUd 16 (rfD ug k (t + 1) 24 0 E)] [(0, .ref aU), (1, .int (iI t)), (2, .int (iI k))] 85 []
                      refine z_iinc (lv' := [(2, .int (iI (k + 1))), (0, .ref aU), (1, .int (iI t))]) C d_T_settle_85 2 rfl (by decide) rfl ?_
                      refine z_goto (tgt := 56) C d_T_settle_88 (by decide) ?_
                      refine z_lv [1, 2, 0] (lv' := [(0, .ref aU), (1, .int (iI t)), (2, .int (iI (k + 1)))]) rfl ?_
                      exact ih56 _ _ (by omega) (rfD_dst ug k (by omega) 24 0 E hF2) (by rw [rfS_step ug t E (by omega), if_pos (by omega)] at hF; exact hF) (by omega)
              refine z_lv [1, 2, 0] (lv' := [(0, .ref aU), (1, .int (iI t)), (2, .int (iI 0))]) rfl ?_
              exact loop56 (_ + 1) _ _ (by omega) (hD) (by rw [Int.sub_zero]) (Nat.lt_succ_self _)
        refine z_lv [1, 0] (lv' := [(0, .ref aU), (1, .int (iI 0))]) rfl ?_
        exact loop43 (_ + 1) _ _ (by omega) (by first | exact hd | exact uZ_dst hd (by omega)) (by rw [Int.sub_zero]; exact congrArg (rfT ug _ _ 0) (by unfold udS ufS; (repeat' split) <;> first | rfl | (exfalso; omega))) (Nat.lt_succ_self _)
    ·
      refine z_aload_n C d_T_settle_18 0 rfl ?_
      refine z_iconst C d_T_settle_19 ?_
      refine z_put C f_T_43 ok_T nm_T d_T_settle_20 0 rfl rfl rfl rfl (Nat.le_of_ble_eq_true rfl) [(aU, .inr (6, [.ref aUg, .ref aUd, .int (iI ur), .int (iI uv), .int (iI 0), .ref aN, .ref aUa])), (aN, .inr (3, [.ref aNl, .ref aNn, .ref aNt])), iA G aNt 3 nt, iA G aUg 384 ug, iA G aUd 16 ud] rfl ?_
      refine z_aload_n C d_T_settle_23 0 rfl ?_
      refine z_get C f_T_43 d_T_settle_24 0 rfl rfl ?_
      refine z_iconst C d_T_settle_27 ?_
      refine z_icmp_eq (tgt := 41) C d_T_settle_28 (by decide) (by omega) (by omega) (fun c28 => ?_) (fun c28 => ?_)
      · exact absurd c28 (by omega)
      ·
        refine z_aload_n C d_T_settle_31 0 rfl ?_
        refine z_get C f_T_17 d_T_settle_32 0 rfl rfl ?_
        refine z_aload_n C d_T_settle_35 0 rfl ?_
        refine z_get C f_T_43 d_T_settle_36 0 rfl rfl ?_
        refine z_iconst C d_T_settle_39 ?_
        refine z_iast C d_T_settle_40 4 rfl (by omega) [(aU, .inr (6, [.ref aUg, .ref aUd, .int (iI ur), .int (iI uv), .int (iI 0), .ref aN, .ref aUa])), (aN, .inr (3, [.ref aNl, .ref aNn, .ref aNt])), iA G aNt 3 nt, iA G aUg 384 ug, iA G aUd 16 (uZ ud 0 0)] (rfl) ?_
        refine z_iconst C d_T_settle_41 ?_
        refine z_istore_n (lv' := [(1, .int (iI 0)), (0, .ref aU)]) C d_T_settle_42 (by decide) rfl ?_
        have loop43 : ∀ (kq : Nat) (t : Int) (D : Nat → Int), (0 ≤ t ∧ t ≤ nt 0) → (dst D) → (rfT ug (nt 0).toNat (nt 0 - t).toNat t D = rfT ug (nt 0).toNat (nt 0).toNat 0 (udS nt uf ud)) → ((nt 0 - t).toNat < kq) → Zc G X 3 0 0 [(aU, .inr (6, [.ref aUg, .ref aUd, .int (iI ur), .int (iI uv), .int (iI 0), .ref aN, .ref aUa])), (aN, .inr (3, [.ref aNl, .ref aNn, .ref aNt])), iA G aNt 3 nt, iA G aUg 384 ug, iA G aUd 16 D] [(0, .ref aU), (1, .int (iI t))] 43 [] := by
          intro kq
          induction kq with
          | zero => intro t D hk hD hE hm; exact absurd hm (Nat.not_lt_zero _)
          | succ kq ih43 =>
            intro t D hk hD hE hm
            -- loop body
            refine z_iload_n C d_T_settle_43 1 rfl ?_
            refine z_aload_n C d_T_settle_44 0 rfl ?_
            refine z_get C f_T_23 d_T_settle_45 0 rfl rfl ?_
            refine z_calli (As := []) (rest := [.int (iI t)]) (wr := [(aU, .inr (6, [.ref aUg, .ref aUd, .int (iI ur), .int (iI uv), .int (iI 0), .ref aN, .ref aUa])), iA G aUg 384 ug, iA G aUd 16 D]) (ws' := fun u => [(aU, .inr (6, [.ref aUg, .ref aUd, .int (iI ur), .int (iI uv), .int (iI 0), .ref aN, .ref aUa])), (aN, .inr (3, [.ref aNl, .ref aNn, .ref aNt])), iA G aNt 3 nt, iA G aUg 384 ug, iA G aUd 16 D]) (q0 := 1) C k_T_46 kc_N_states (fun l sz => m_N_states l G sz aN aNl aNn aNt nt ) rfl rfl (Nat.le_of_ble_eq_true rfl) (by decide) d_T_settle_48 rfl rfl [1, 2] [0, 3, 4] [0, 3, 4, 1, 2] rfl rfl (by decide) (fun u => rfl) (fun r u h48 => ?_)
            obtain rfl := h48
            show Zc G X 3 0 0 [(aU, .inr (6, [.ref aUg, .ref aUd, .int (iI ur), .int (iI uv), .int (iI 0), .ref aN, .ref aUa])), (aN, .inr (3, [.ref aNl, .ref aNn, .ref aNt])), iA G aNt 3 nt, iA G aUg 384 ug, iA G aUd 16 D] [(0, .ref aU), (1, .int (iI t))] 51 [.int (iI (nt 0)), .int (iI t)]
            refine z_icmp_ge (tgt := 97) C d_T_settle_51 (by decide) (by omega) (by omega) (fun c51 => ?_) (fun c51 => ?_)
            ·
              rw [show (nt 0 - t).toNat = 0 by omega] at hE
              have hE2 : D = rfT ug (nt 0).toNat (nt 0).toNat 0 (udS nt uf ud) := hE
              exact z_vret C K d_T_settle_97 () (by rw [hE2]; unfold ufS; (repeat' split) <;> first | rfl | (exfalso; omega)) (trivial)
            ·
              refine z_iconst C d_T_settle_54 ?_
              refine z_istore_n (lv' := [(2, .int (iI 0)), (0, .ref aU), (1, .int (iI t))]) C d_T_settle_55 (by decide) rfl ?_
              have loop56 : ∀ (kq : Nat) (k : Int) (E : Nat → Int), (0 ≤ k ∧ k ≤ nt 0) → (dst E) → (rfS ug t (nt 0 - k).toNat k E = rfS ug t (nt 0).toNat 0 D) → ((nt 0 - k).toNat < kq) → Zc G X 3 0 0 [(aU, .inr (6, [.ref aUg, .ref aUd, .int (iI ur), .int (iI uv), .int (iI 0), .ref aN, .ref aUa])), (aN, .inr (3, [.ref aNl, .ref aNn, .ref aNt])), iA G aNt 3 nt, iA G aUg 384 ug, iA G aUd 16 E] [(0, .ref aU), (1, .int (iI t)), (2, .int (iI k))] 56 [] := by
                intro kq
                induction kq with
                | zero => intro k E hj hF2 hF hm; exact absurd hm (Nat.not_lt_zero _)
                | succ kq ih56 =>
                  intro k E hj hF2 hF hm
                  have hek := hF2 k.toNat
                  -- loop body
                  refine z_iload_n C d_T_settle_56 2 rfl ?_
                  refine z_aload_n C d_T_settle_57 0 rfl ?_
                  refine z_get C f_T_23 d_T_settle_58 0 rfl rfl ?_
                  refine z_calli (As := []) (rest := [.int (iI k)]) (wr := [(aU, .inr (6, [.ref aUg, .ref aUd, .int (iI ur), .int (iI uv), .int (iI 0), .ref aN, .ref aUa])), iA G aUg 384 ug, iA G aUd 16 E]) (ws' := fun u => [(aU, .inr (6, [.ref aUg, .ref aUd, .int (iI ur), .int (iI uv), .int (iI 0), .ref aN, .ref aUa])), (aN, .inr (3, [.ref aNl, .ref aNn, .ref aNt])), iA G aNt 3 nt, iA G aUg 384 ug, iA G aUd 16 E]) (q0 := 1) C k_T_46 kc_N_states (fun l sz => m_N_states l G sz aN aNl aNn aNt nt ) rfl rfl (Nat.le_of_ble_eq_true rfl) (by decide) d_T_settle_61 rfl rfl [1, 2] [0, 3, 4] [0, 3, 4, 1, 2] rfl rfl (by decide) (fun u => rfl) (fun r u h61 => ?_)
                  obtain rfl := h61
                  show Zc G X 3 0 0 [(aU, .inr (6, [.ref aUg, .ref aUd, .int (iI ur), .int (iI uv), .int (iI 0), .ref aN, .ref aUa])), (aN, .inr (3, [.ref aNl, .ref aNn, .ref aNt])), iA G aNt 3 nt, iA G aUg 384 ug, iA G aUd 16 E] [(0, .ref aU), (1, .int (iI t)), (2, .int (iI k))] 64 [.int (iI (nt 0)), .int (iI k)]
                  refine z_icmp_ge (tgt := 91) C d_T_settle_64 (by decide) (by omega) (by omega) (fun c64 => ?_) (fun c64 => ?_)
                  ·
                    refine z_iinc (lv' := [(1, .int (iI (t + 1))), (0, .ref aU), (2, .int (iI k))]) C d_T_settle_91 1 rfl (by decide) rfl ?_
                    refine z_goto (tgt := 43) C d_T_settle_94 (by decide) ?_
                    refine z_lv [1, 0] (lv' := [(0, .ref aU), (1, .int (iI (t + 1)))]) rfl ?_
                    rw [show (nt 0 - k).toNat = 0 by omega] at hF
                    have hF3 : E = rfS ug t (nt 0).toNat 0 D := hF
                    exact ih43 _ _ (by omega) (hF2) (by rw [rfT_step ug _ D (by omega)] at hE; rw [hF3]; exact hE) (by omega)
                  ·
                    refine z_aload_n C d_T_settle_67 0 rfl ?_
                    refine z_get C f_T_17 d_T_settle_68 0 rfl rfl ?_
                    refine z_iload_n C d_T_settle_71 2 rfl ?_
                    refine z_iald C d_T_settle_72 4 rfl (by omega) ?_
                    refine z_iload_n C d_T_settle_73 1 rfl ?_
                    refine z_icmp_ne (tgt := 85) C d_T_settle_74 (by decide) (by omega) (by omega) (fun c74 => ?_) (fun c74 => ?_)
                    ·
                      refine z_iinc (lv' := [(2, .int (iI (k + 1))), (0, .ref aU), (1, .int (iI t))]) C d_T_settle_85 2 rfl (by decide) rfl ?_
                      refine z_goto (tgt := 56) C d_T_settle_88 (by decide) ?_
                      refine z_lv [1, 2, 0] (lv' := [(0, .ref aU), (1, .int (iI t)), (2, .int (iI (k + 1)))]) rfl ?_
                      exact ih56 _ _ (by omega) (hF2) (by rw [rfS_step ug t E (by omega), if_neg (by omega)] at hF; exact hF) (by omega)
                    ·
                      refine z_aload_n C d_T_settle_77 0 rfl ?_
                      refine z_iload_n C d_T_settle_78 2 rfl ?_
                      refine z_iload_n C d_T_settle_79 1 rfl ?_
                      refine z_iconst C d_T_settle_80 ?_
                      refine z_iadd C d_T_settle_81 ?_
                      refine z_callv (As := [.int (iI k), .int (iI (t + 1))]) (rest := []) (wr := [(aN, .inr (3, [.ref aNl, .ref aNn, .ref aNt])), iA G aNt 3 nt]) (ws' := fun u => [(aU, .inr (6, [.ref aUg, .ref aUd, .int (iI ur), .int (iI uv), .int (iI 0), .ref aN, .ref aUa])), (aN, .inr (3, [.ref aNl, .ref aNn, .ref aNt])), iA G aNt 3 nt, iA G aUg 384 ug, iA G aUd 16 (rfD ug k (t + 1) 24 0 E)]) (q0 := 0) C k_T_64 kc_T_reachFrom (fun l sz => m_T_reachFrom l G sz aU aUg aUd aUa ur uv 0 aN ug E k (t + 1) (by omega) (by omega) (by omega)) rfl rfl (Nat.le_of_ble_eq_true rfl) (by decide) d_T_settle_82 rfl rfl [0, 3, 4] [1, 2] [2, 0, 1, 3, 4] rfl rfl (by decide) (fun u => rfl) (fun u h82 => ?_)
                      show Zc G X 3 0 0 [(aU, .inr (6, [.ref aUg, .ref aUd, .int (iI ur), .int (iI uv), .int (iI 0), .ref aN, .ref aUa])), (aN, .inr (3, [.ref aNl, .ref aNn, .ref aNt])), iA G aNt 3 nt, iA G aUg 384 ug, iA G aUd 16 (rfD ug k (t + 1) 24 0 E)] [(0, .ref aU), (1, .int (iI t)), (2, .int (iI k))] 85 []
                      refine z_iinc (lv' := [(2, .int (iI (k + 1))), (0, .ref aU), (1, .int (iI t))]) C d_T_settle_85 2 rfl (by decide) rfl ?_
                      refine z_goto (tgt := 56) C d_T_settle_88 (by decide) ?_
                      refine z_lv [1, 2, 0] (lv' := [(0, .ref aU), (1, .int (iI t)), (2, .int (iI (k + 1)))]) rfl ?_
                      exact ih56 _ _ (by omega) (rfD_dst ug k (by omega) 24 0 E hF2) (by rw [rfS_step ug t E (by omega), if_pos (by omega)] at hF; exact hF) (by omega)
              refine z_lv [1, 2, 0] (lv' := [(0, .ref aU), (1, .int (iI t)), (2, .int (iI 0))]) rfl ?_
              exact loop56 (_ + 1) _ _ (by omega) (hD) (by rw [Int.sub_zero]) (Nat.lt_succ_self _)
        refine z_lv [1, 0] (lv' := [(0, .ref aU), (1, .int (iI 0))]) rfl ?_
        exact loop43 (_ + 1) _ _ (by omega) (by first | exact hd | exact uZ_dst hd (by omega)) (by rw [Int.sub_zero]; exact congrArg (rfT ug _ _ 0) (by unfold udS ufS; (repeat' split) <;> first | rfl | (exfalso; omega))) (Nat.lt_succ_self _)
