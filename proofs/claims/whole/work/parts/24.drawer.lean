set_option maxHeartbeats 4000000 in
set_option maxRecDepth 100000 in
theorem m_D_drawName (l : Launch) (G : GG) (sz : Nat) (aD : Nat) (aP : Nat) (aN : Nat) (aU : Nat) (aDw : Nat) (df : Int) (aPb : Nat) (pl : Int) (pF : Nat → Int) (aNl : Nat) (aNn : Nat) (aNt : Nat) (nl : Nat → Int) (nn : Nat → Int) (sl : Int) (w : Int) (hn : ∀ j, 0 ≤ nn j ∧ nn j ≤ 12) (h1 : 0 ≤ sl ∧ sl < 40 ∧ 0 ≤ w ∧ w ≤ 100) (hpl : 0 ≤ pl ∧ pl + ((dnL (nmC nl nn) nn sl w).length : Int) ≤ 5632) : MetV l G sz y_D_drawName c_D_drawName 3 ({ frames := 2, cells := 0, slots := 0, locals := 44 } : Room) [.ref aD, .int (iI sl), .int (iI w)] [(aD, .inr (1, [.ref aP, .ref aN, .ref aU, .ref aDw, .int (iI df)])), (aN, .inr (3, [.ref aNl, .ref aNn, .ref aNt])), bA G aNl 480 nl, iA G aNn 40 nn, (aP, .inr (0, [.ref aPb, .int (iI pl)])), bA G aPb 5632 pF] (fun (u : Unit) => True) (fun (u : Unit) => [(aD, .inr (1, [.ref aP, .ref aN, .ref aU, .ref aDw, .int (iI df)])), (aN, .inr (3, [.ref aNl, .ref aNn, .ref aNt])), bA G aNl 480 nl, iA G aNn 40 nn, (aP, .inr (0, [.ref aPb, .int (iI (pl + ((dnL (nmC nl nn) nn sl w).length : Int)))])), bA G aPb 5632 (wr pF pl (dnL (nmC nl nn) nn sl w))]) := by
  refine MetV.mk (by decide) (Nat.le_of_ble_eq_true rfl) (fun X C K => ?_)
  show Zc G X 3 0 0 [(aD, .inr (1, [.ref aP, .ref aN, .ref aU, .ref aDw, .int (iI df)])), (aN, .inr (3, [.ref aNl, .ref aNn, .ref aNt])), bA G aNl 480 nl, iA G aNn 40 nn, (aP, .inr (0, [.ref aPb, .int (iI pl)])), bA G aPb 5632 pF] [(0, .ref aD), (1, .int (iI sl)), (2, .int (iI w))] 0 []
  have hns := hn sl.toNat
  have hp0 : wr pF pl (nmC nl nn sl ++ List.replicate (w - nn sl.toNat).toNat (32 : Int)) = wr pF pl (dnL (nmC nl nn) nn sl w) ∧ pl + ((nmC nl nn sl ++ List.replicate (w - nn sl.toNat).toNat (32 : Int)).length : Int) = pl + ((dnL (nmC nl nn) nn sl w).length : Int) := ⟨rfl, rfl⟩
  refine z_aload_n C d_D_drawName_0 0 rfl ?_
  refine z_get C f_D_21 d_D_drawName_1 0 rfl rfl ?_
  refine z_iload_n C d_D_drawName_4 1 rfl ?_
  refine z_aload_n C d_D_drawName_5 0 rfl ?_
  refine z_get C f_D_17 d_D_drawName_6 0 rfl rfl ?_
  refine z_callv (As := [.int (iI sl), .ref aP]) (rest := []) (wr := [(aD, .inr (1, [.ref aP, .ref aN, .ref aU, .ref aDw, .int (iI df)]))]) (ws' := fun u => [(aD, .inr (1, [.ref aP, .ref aN, .ref aU, .ref aDw, .int (iI df)])), (aN, .inr (3, [.ref aNl, .ref aNn, .ref aNt])), bA G aNl 480 nl, iA G aNn 40 nn, (aP, .inr (0, [.ref aPb, .int (iI (pl + ((nmC nl nn sl).length : Int)))])), bA G aPb 5632 (wr pF pl (nmC nl nn sl))]) (q0 := 1) C k_D_92 kc_N_write (fun l sz => m_N_write l G sz aN aNl aNn aNt nl nn aP aPb pl pF sl (by have h9 := pg_fit hp0; have h8 := hn (sl).toNat; omega)) rfl rfl (Nat.le_of_ble_eq_true rfl) (by decide) d_D_drawName_9 rfl rfl [1, 2, 3, 4, 5] [0] [0, 1, 2, 3, 4, 5] rfl rfl (by decide) (fun u => rfl) (fun u h9 => ?_)
  show Zc G X 3 0 0 [(aD, .inr (1, [.ref aP, .ref aN, .ref aU, .ref aDw, .int (iI df)])), (aN, .inr (3, [.ref aNl, .ref aNn, .ref aNt])), bA G aNl 480 nl, iA G aNn 40 nn, (aP, .inr (0, [.ref aPb, .int (iI (pl + ((nmC nl nn sl).length : Int)))])), bA G aPb 5632 (wr pF pl (nmC nl nn sl))] [(0, .ref aD), (1, .int (iI sl)), (2, .int (iI w))] 12 []
  have hp1 : wr (wr pF pl (nmC nl nn sl)) (pl + ((nmC nl nn sl).length : Int)) (List.replicate (w - nn sl.toNat).toNat (32 : Int)) = wr pF pl (dnL (nmC nl nn) nn sl w) ∧ (pl + ((nmC nl nn sl).length : Int)) + ((List.replicate (w - nn sl.toNat).toNat (32 : Int)).length : Int) = pl + ((dnL (nmC nl nn) nn sl w).length : Int) := pg_next hp0
  have hg1 : 0 ≤ pl + ((nmC nl nn sl).length : Int) := by omega
  generalize wr pF pl (nmC nl nn sl) = E1 at hp1 ⊢
  generalize pl + ((nmC nl nn sl).length : Int) = q1 at hp1 hg1 ⊢
  have hp2 := pg_all hp1
  refine z_aload_n C d_D_drawName_12 0 rfl ?_
  refine z_get C f_D_17 d_D_drawName_13 0 rfl rfl ?_
  refine z_iload_n C d_D_drawName_16 2 rfl ?_
  refine z_aload_n C d_D_drawName_17 0 rfl ?_
  refine z_get C f_D_21 d_D_drawName_18 0 rfl rfl ?_
  refine z_iload_n C d_D_drawName_21 1 rfl ?_
  refine z_calli (As := [.int (iI sl)]) (rest := [.int (iI w), .ref aP]) (wr := [(aD, .inr (1, [.ref aP, .ref aN, .ref aU, .ref aDw, .int (iI df)])), bA G aNl 480 nl, (aP, .inr (0, [.ref aPb, .int (iI q1)])), bA G aPb 5632 E1]) (ws' := fun u => [(aD, .inr (1, [.ref aP, .ref aN, .ref aU, .ref aDw, .int (iI df)])), (aN, .inr (3, [.ref aNl, .ref aNn, .ref aNt])), bA G aNl 480 nl, iA G aNn 40 nn, (aP, .inr (0, [.ref aPb, .int (iI q1)])), bA G aPb 5632 E1]) (q0 := 1) C k_D_52 kc_N_lengthOf (fun l sz => m_N_lengthOf l G sz aN aNl aNn aNt nn sl (by omega)) rfl rfl (Nat.le_of_ble_eq_true rfl) (by decide) d_D_drawName_22 rfl rfl [1, 3] [0, 2, 4, 5] [0, 4, 1, 5, 2, 3] rfl rfl (by decide) (fun u => rfl) (fun r u h22 => ?_)
  obtain rfl := h22
  show Zc G X 3 0 0 [(aD, .inr (1, [.ref aP, .ref aN, .ref aU, .ref aDw, .int (iI df)])), (aN, .inr (3, [.ref aNl, .ref aNn, .ref aNt])), bA G aNl 480 nl, iA G aNn 40 nn, (aP, .inr (0, [.ref aPb, .int (iI q1)])), bA G aPb 5632 E1] [(0, .ref aD), (1, .int (iI sl)), (2, .int (iI w))] 25 [.int (iI (nn sl.toNat)), .int (iI w), .ref aP]
  refine z_isub C d_D_drawName_25 ?_
  refine z_callv (As := [.int (iI (w - (nn sl.toNat)))]) (rest := []) (wr := [(aD, .inr (1, [.ref aP, .ref aN, .ref aU, .ref aDw, .int (iI df)])), (aN, .inr (3, [.ref aNl, .ref aNn, .ref aNt])), bA G aNl 480 nl, iA G aNn 40 nn]) (ws' := fun u => [(aD, .inr (1, [.ref aP, .ref aN, .ref aU, .ref aDw, .int (iI df)])), (aN, .inr (3, [.ref aNl, .ref aNn, .ref aNt])), bA G aNl 480 nl, iA G aNn 40 nn, (aP, .inr (0, [.ref aPb, .int (iI (q1 + ((List.replicate (w - (nn sl.toNat)).toNat (32 : Int)).length : Int)))])), bA G aPb 5632 (wr E1 q1 (List.replicate (w - (nn sl.toNat)).toNat (32 : Int)))]) (q0 := 4) C k_D_76 kc_B_addBlanks (fun l sz => m_B_addBlanks l G sz aP aPb 5632 q1 E1 (w - (nn sl.toNat)) (by have h9 := pg_fit hp2; omega)) rfl rfl (Nat.le_of_ble_eq_true rfl) (by decide) d_D_drawName_26 rfl rfl [4, 5] [0, 1, 2, 3] [0, 1, 2, 3, 4, 5] rfl rfl (by decide) (fun u => rfl) (fun u h26 => ?_)
  show Zc G X 3 0 0 [(aD, .inr (1, [.ref aP, .ref aN, .ref aU, .ref aDw, .int (iI df)])), (aN, .inr (3, [.ref aNl, .ref aNn, .ref aNt])), bA G aNl 480 nl, iA G aNn 40 nn, (aP, .inr (0, [.ref aPb, .int (iI (q1 + ((List.replicate (w - (nn sl.toNat)).toNat (32 : Int)).length : Int)))])), bA G aPb 5632 (wr E1 q1 (List.replicate (w - (nn sl.toNat)).toNat (32 : Int)))] [(0, .ref aD), (1, .int (iI sl)), (2, .int (iI w))] 29 []
  exact z_vret C K d_D_drawName_29 () (by rw [hp1.2, hp1.1]) (trivial)
set_option maxHeartbeats 4000000 in
set_option maxRecDepth 100000 in
theorem m_D_drawGoal (l : Launch) (G : GG) (sz : Nat) (aD : Nat) (aP : Nat) (aN : Nat) (aU : Nat) (aDw : Nat) (df : Int) (aPb : Nat) (pl : Int) (pF : Nat → Int) (aNl : Nat) (aNn : Nat) (aNt : Nat) (nl : Nat → Int) (nn : Nat → Int) (g : Int) (w : Int) (hn : ∀ j, 0 ≤ nn j ∧ nn j ≤ 12) (h1 : -2 ≤ g ∧ g < 40 ∧ 0 ≤ w ∧ w ≤ 100) (hpl : 0 ≤ pl ∧ pl + ((dgL (nmC nl nn) nn g w).length : Int) ≤ 5632) : MetV l G sz y_D_drawGoal c_D_drawGoal 3 ({ frames := 3, cells := 0, slots := 0, locals := 66 } : Room) [.ref aD, .int (iI g), .int (iI w)] [(aD, .inr (1, [.ref aP, .ref aN, .ref aU, .ref aDw, .int (iI df)])), (aN, .inr (3, [.ref aNl, .ref aNn, .ref aNt])), bA G aNl 480 nl, iA G aNn 40 nn, (aP, .inr (0, [.ref aPb, .int (iI pl)])), bA G aPb 5632 pF] (fun (u : Unit) => True) (fun (u : Unit) => [(aD, .inr (1, [.ref aP, .ref aN, .ref aU, .ref aDw, .int (iI df)])), (aN, .inr (3, [.ref aNl, .ref aNn, .ref aNt])), bA G aNl 480 nl, iA G aNn 40 nn, (aP, .inr (0, [.ref aPb, .int (iI (pl + ((dgL (nmC nl nn) nn g w).length : Int)))])), bA G aPb 5632 (wr pF pl (dgL (nmC nl nn) nn g w))]) := by
  refine MetV.mk (by decide) (Nat.le_of_ble_eq_true rfl) (fun X C K => ?_)
  show Zc G X 3 0 0 [(aD, .inr (1, [.ref aP, .ref aN, .ref aU, .ref aDw, .int (iI df)])), (aN, .inr (3, [.ref aNl, .ref aNn, .ref aNt])), bA G aNl 480 nl, iA G aNn 40 nn, (aP, .inr (0, [.ref aPb, .int (iI pl)])), bA G aPb 5632 pF] [(0, .ref aD), (1, .int (iI g)), (2, .int (iI w))] 0 []
  refine z_iload_n C d_D_drawGoal_0 1 rfl ?_
  refine z_if_lt (tgt := 13) C d_D_drawGoal_1 (by decide) (by omega) (fun c1 => ?_) (fun c1 => ?_)
  ·
    refine z_aload_n C d_D_drawGoal_13 0 rfl ?_
    refine z_get C f_D_17 d_D_drawGoal_14 0 rfl rfl ?_
    refine z_iload_n C d_D_drawGoal_17 1 rfl ?_
    refine z_bipush C d_D_drawGoal_18 (by decide) ?_
    refine z_icmp_ne (tgt := 28) C d_D_drawGoal_20 (by decide) (by omega) (by omega) (fun c20 => ?_) (fun c20 => ?_)
    ·
      have ea : dgL (nmC nl nn) nn g w = [63] ++ List.replicate (w - 1).toNat (32 : Int) := by unfold dgL; rw [if_neg (by omega), if_neg (by omega)]; rfl
      have hp0 : wr pF pl ([63] ++ List.replicate (w - 1).toNat (32 : Int)) = wr pF pl (dgL (nmC nl nn) nn g w) ∧ pl + (([63] ++ List.replicate (w - 1).toNat (32 : Int)).length : Int) = pl + ((dgL (nmC nl nn) nn g w).length : Int) := by rw [ea]; exact ⟨rfl, rfl⟩
      refine z_bipush C d_D_drawGoal_28 (by decide) ?_
      refine z_callv (As := [.int (iI 63)]) (rest := []) (wr := [(aD, .inr (1, [.ref aP, .ref aN, .ref aU, .ref aDw, .int (iI df)])), (aN, .inr (3, [.ref aNl, .ref aNn, .ref aNt])), bA G aNl 480 nl, iA G aNn 40 nn]) (ws' := fun u => [(aD, .inr (1, [.ref aP, .ref aN, .ref aU, .ref aDw, .int (iI df)])), (aN, .inr (3, [.ref aNl, .ref aNn, .ref aNt])), bA G aNl 480 nl, iA G aNn 40 nn, (aP, .inr (0, [.ref aPb, .int (iI (pl + 1))])), bA G aPb 5632 (wr pF pl [63])]) (q0 := 4) C k_D_79 kc_B_add (fun l sz => m_B_add l G sz aP aPb 5632 pl pF 63 (by have h9 := pg_fit1 hp0; omega)) rfl rfl (Nat.le_of_ble_eq_true rfl) (by decide) d_D_drawGoal_30 rfl rfl [4, 5] [0, 1, 2, 3] [0, 1, 2, 3, 4, 5] rfl rfl (by decide) (fun u => rfl) (fun u h30 => ?_)
      show Zc G X 3 0 0 [(aD, .inr (1, [.ref aP, .ref aN, .ref aU, .ref aDw, .int (iI df)])), (aN, .inr (3, [.ref aNl, .ref aNn, .ref aNt])), bA G aNl 480 nl, iA G aNn 40 nn, (aP, .inr (0, [.ref aPb, .int (iI (pl + 1))])), bA G aPb 5632 (wr pF pl [63])] [(0, .ref aD), (1, .int (iI g)), (2, .int (iI w))] 33 []
      have hp1 : wr (wr pF pl [63]) (pl + 1) (List.replicate (w - 1).toNat (32 : Int)) = wr pF pl (dgL (nmC nl nn) nn g w) ∧ (pl + 1) + ((List.replicate (w - 1).toNat (32 : Int)).length : Int) = pl + ((dgL (nmC nl nn) nn g w).length : Int) := pg_next hp0
      have hg1 : 0 ≤ pl + 1 := by omega
      generalize wr pF pl [63] = E1 at hp1 ⊢
      generalize pl + 1 = q1 at hp1 hg1 ⊢
      have hp2 := pg_all hp1
      refine z_aload_n C d_D_drawGoal_33 0 rfl ?_
      refine z_get C f_D_17 d_D_drawGoal_34 0 rfl rfl ?_
      refine z_iload_n C d_D_drawGoal_37 2 rfl ?_
      refine z_iconst C d_D_drawGoal_38 ?_
      refine z_isub C d_D_drawGoal_39 ?_
      refine z_callv (As := [.int (iI (w - 1))]) (rest := []) (wr := [(aD, .inr (1, [.ref aP, .ref aN, .ref aU, .ref aDw, .int (iI df)])), (aN, .inr (3, [.ref aNl, .ref aNn, .ref aNt])), bA G aNl 480 nl, iA G aNn 40 nn]) (ws' := fun u => [(aD, .inr (1, [.ref aP, .ref aN, .ref aU, .ref aDw, .int (iI df)])), (aN, .inr (3, [.ref aNl, .ref aNn, .ref aNt])), bA G aNl 480 nl, iA G aNn 40 nn, (aP, .inr (0, [.ref aPb, .int (iI (q1 + ((List.replicate (w - 1).toNat (32 : Int)).length : Int)))])), bA G aPb 5632 (wr E1 q1 (List.replicate (w - 1).toNat (32 : Int)))]) (q0 := 4) C k_D_76 kc_B_addBlanks (fun l sz => m_B_addBlanks l G sz aP aPb 5632 q1 E1 (w - 1) (by have h9 := pg_fit hp2; omega)) rfl rfl (Nat.le_of_ble_eq_true rfl) (by decide) d_D_drawGoal_40 rfl rfl [4, 5] [0, 1, 2, 3] [0, 1, 2, 3, 4, 5] rfl rfl (by decide) (fun u => rfl) (fun u h40 => ?_)
      show Zc G X 3 0 0 [(aD, .inr (1, [.ref aP, .ref aN, .ref aU, .ref aDw, .int (iI df)])), (aN, .inr (3, [.ref aNl, .ref aNn, .ref aNt])), bA G aNl 480 nl, iA G aNn 40 nn, (aP, .inr (0, [.ref aPb, .int (iI (q1 + ((List.replicate (w - 1).toNat (32 : Int)).length : Int)))])), bA G aPb 5632 (wr E1 q1 (List.replicate (w - 1).toNat (32 : Int)))] [(0, .ref aD), (1, .int (iI g)), (2, .int (iI w))] 43 []
      exact z_vret C K d_D_drawGoal_43 () (by rw [hp1.2, hp1.1]) (trivial)
    ·
      have ea : dgL (nmC nl nn) nn g w = [45] ++ List.replicate (w - 1).toNat (32 : Int) := by unfold dgL; rw [if_neg (by omega), if_pos (by omega)]; rfl
      have hp0 : wr pF pl ([45] ++ List.replicate (w - 1).toNat (32 : Int)) = wr pF pl (dgL (nmC nl nn) nn g w) ∧ pl + (([45] ++ List.replicate (w - 1).toNat (32 : Int)).length : Int) = pl + ((dgL (nmC nl nn) nn g w).length : Int) := by rw [ea]; exact ⟨rfl, rfl⟩
      refine z_bipush C d_D_drawGoal_23 (by decide) ?_
      refine z_goto (tgt := 30) C d_D_drawGoal_25 (by decide) ?_
      refine z_callv (As := [.int (iI 45)]) (rest := []) (wr := [(aD, .inr (1, [.ref aP, .ref aN, .ref aU, .ref aDw, .int (iI df)])), (aN, .inr (3, [.ref aNl, .ref aNn, .ref aNt])), bA G aNl 480 nl, iA G aNn 40 nn]) (ws' := fun u => [(aD, .inr (1, [.ref aP, .ref aN, .ref aU, .ref aDw, .int (iI df)])), (aN, .inr (3, [.ref aNl, .ref aNn, .ref aNt])), bA G aNl 480 nl, iA G aNn 40 nn, (aP, .inr (0, [.ref aPb, .int (iI (pl + 1))])), bA G aPb 5632 (wr pF pl [45])]) (q0 := 4) C k_D_79 kc_B_add (fun l sz => m_B_add l G sz aP aPb 5632 pl pF 45 (by have h9 := pg_fit1 hp0; omega)) rfl rfl (Nat.le_of_ble_eq_true rfl) (by decide) d_D_drawGoal_30 rfl rfl [4, 5] [0, 1, 2, 3] [0, 1, 2, 3, 4, 5] rfl rfl (by decide) (fun u => rfl) (fun u h30 => ?_)
      show Zc G X 3 0 0 [(aD, .inr (1, [.ref aP, .ref aN, .ref aU, .ref aDw, .int (iI df)])), (aN, .inr (3, [.ref aNl, .ref aNn, .ref aNt])), bA G aNl 480 nl, iA G aNn 40 nn, (aP, .inr (0, [.ref aPb, .int (iI (pl + 1))])), bA G aPb 5632 (wr pF pl [45])] [(0, .ref aD), (1, .int (iI g)), (2, .int (iI w))] 33 []
      have hp1 : wr (wr pF pl [45]) (pl + 1) (List.replicate (w - 1).toNat (32 : Int)) = wr pF pl (dgL (nmC nl nn) nn g w) ∧ (pl + 1) + ((List.replicate (w - 1).toNat (32 : Int)).length : Int) = pl + ((dgL (nmC nl nn) nn g w).length : Int) := pg_next hp0
      have hg1 : 0 ≤ pl + 1 := by omega
      generalize wr pF pl [45] = E1 at hp1 ⊢
      generalize pl + 1 = q1 at hp1 hg1 ⊢
      have hp2 := pg_all hp1
      refine z_aload_n C d_D_drawGoal_33 0 rfl ?_
      refine z_get C f_D_17 d_D_drawGoal_34 0 rfl rfl ?_
      refine z_iload_n C d_D_drawGoal_37 2 rfl ?_
      refine z_iconst C d_D_drawGoal_38 ?_
      refine z_isub C d_D_drawGoal_39 ?_
      refine z_callv (As := [.int (iI (w - 1))]) (rest := []) (wr := [(aD, .inr (1, [.ref aP, .ref aN, .ref aU, .ref aDw, .int (iI df)])), (aN, .inr (3, [.ref aNl, .ref aNn, .ref aNt])), bA G aNl 480 nl, iA G aNn 40 nn]) (ws' := fun u => [(aD, .inr (1, [.ref aP, .ref aN, .ref aU, .ref aDw, .int (iI df)])), (aN, .inr (3, [.ref aNl, .ref aNn, .ref aNt])), bA G aNl 480 nl, iA G aNn 40 nn, (aP, .inr (0, [.ref aPb, .int (iI (q1 + ((List.replicate (w - 1).toNat (32 : Int)).length : Int)))])), bA G aPb 5632 (wr E1 q1 (List.replicate (w - 1).toNat (32 : Int)))]) (q0 := 4) C k_D_76 kc_B_addBlanks (fun l sz => m_B_addBlanks l G sz aP aPb 5632 q1 E1 (w - 1) (by have h9 := pg_fit hp2; omega)) rfl rfl (Nat.le_of_ble_eq_true rfl) (by decide) d_D_drawGoal_40 rfl rfl [4, 5] [0, 1, 2, 3] [0, 1, 2, 3, 4, 5] rfl rfl (by decide) (fun u => rfl) (fun u h40 => ?_)
      show Zc G X 3 0 0 [(aD, .inr (1, [.ref aP, .ref aN, .ref aU, .ref aDw, .int (iI df)])), (aN, .inr (3, [.ref aNl, .ref aNn, .ref aNt])), bA G aNl 480 nl, iA G aNn 40 nn, (aP, .inr (0, [.ref aPb, .int (iI (q1 + ((List.replicate (w - 1).toNat (32 : Int)).length : Int)))])), bA G aPb 5632 (wr E1 q1 (List.replicate (w - 1).toNat (32 : Int)))] [(0, .ref aD), (1, .int (iI g)), (2, .int (iI w))] 43 []
      exact z_vret C K d_D_drawGoal_43 () (by rw [hp1.2, hp1.1]) (trivial)
  ·
    have ea : dgL (nmC nl nn) nn g w = dnL (nmC nl nn) nn g w := if_pos (by omega)
    rw [ea] at hpl
    refine z_aload_n C d_D_drawGoal_4 0 rfl ?_
    refine z_iload_n C d_D_drawGoal_5 1 rfl ?_
    refine z_iload_n C d_D_drawGoal_6 2 rfl ?_
    refine z_callv (As := [.int (iI g), .int (iI w)]) (rest := []) (wr := []) (ws' := fun u => [(aD, .inr (1, [.ref aP, .ref aN, .ref aU, .ref aDw, .int (iI df)])), (aN, .inr (3, [.ref aNl, .ref aNn, .ref aNt])), bA G aNl 480 nl, iA G aNn 40 nn, (aP, .inr (0, [.ref aPb, .int (iI (pl + ((dnL (nmC nl nn) nn g w).length : Int)))])), bA G aPb 5632 (wr pF pl (dnL (nmC nl nn) nn g w))]) (q0 := 0) C k_D_82 kc_D_drawName (fun l sz => m_D_drawName l G sz aD aP aN aU aDw df aPb pl pF aNl aNn aNt nl nn g w (hn) (by omega) (by omega)) rfl rfl (Nat.le_of_ble_eq_true rfl) (by decide) d_D_drawGoal_7 rfl rfl [0, 1, 2, 3, 4, 5] [] [0, 1, 2, 3, 4, 5] rfl rfl (by decide) (fun u => rfl) (fun u h7 => ?_)
    show Zc G X 3 0 0 [(aD, .inr (1, [.ref aP, .ref aN, .ref aU, .ref aDw, .int (iI df)])), (aN, .inr (3, [.ref aNl, .ref aNn, .ref aNt])), bA G aNl 480 nl, iA G aNn 40 nn, (aP, .inr (0, [.ref aPb, .int (iI (pl + ((dnL (nmC nl nn) nn g w).length : Int)))])), bA G aPb 5632 (wr pF pl (dnL (nmC nl nn) nn g w))] [(0, .ref aD), (1, .int (iI g)), (2, .int (iI w))] 10 []
    refine z_goto (tgt := 43) C d_D_drawGoal_10 (by decide) ?_
    exact z_vret C K d_D_drawGoal_43 () (by rw [ea]) (trivial)
set_option maxHeartbeats 4000000 in
set_option maxRecDepth 100000 in
theorem m_D_endLine (l : Launch) (G : GG) (sz : Nat) (aD : Nat) (aP : Nat) (aN : Nat) (aU : Nat) (aDw : Nat) (df : Int) (aPb : Nat) (pl : Int) (pF : Nat → Int) (L : List Int) (hpg : pgR pF pl L) (hb : byt pF) (h1 : pl + 1 ≤ 5632) : MetV l G sz y_D_endLine c_D_endLine 1 ({ frames := 1, cells := 0, slots := 0, locals := 21 } : Room) [.ref aD] [(aD, .inr (1, [.ref aP, .ref aN, .ref aU, .ref aDw, .int (iI df)])), (aP, .inr (0, [.ref aPb, .int (iI pl)])), bA G aPb 5632 pF] (fun (u : Int × (Nat → Int)) => (pgR u.2 u.1 (strp L ++ [10])) ∧ (byt u.2 ∧ u.1 ≤ pl + 1)) (fun (u : Int × (Nat → Int)) => [(aD, .inr (1, [.ref aP, .ref aN, .ref aU, .ref aDw, .int (iI df)])), (aP, .inr (0, [.ref aPb, .int (iI u.1)])), bA G aPb 5632 u.2]) := by
  refine MetV.mk (by decide) (Nat.le_of_ble_eq_true rfl) (fun X C K => ?_)
  show Zc G X 1 0 0 [(aD, .inr (1, [.ref aP, .ref aN, .ref aU, .ref aDw, .int (iI df)])), (aP, .inr (0, [.ref aPb, .int (iI pl)])), bA G aPb 5632 pF] [(0, .ref aD)] 0 []
  have h0 := pgR_byt hpg
  have hdl := drB_le pF pl.toNat
  refine z_aload_n C d_D_endLine_0 0 rfl ?_
  refine z_get C f_D_17 d_D_endLine_1 0 rfl rfl ?_
  refine z_callv (As := []) (rest := []) (wr := [(aD, .inr (1, [.ref aP, .ref aN, .ref aU, .ref aDw, .int (iI df)]))]) (ws' := fun u => [(aD, .inr (1, [.ref aP, .ref aN, .ref aU, .ref aDw, .int (iI df)])), (aP, .inr (0, [.ref aPb, .int (iI (drB pF pl.toNat : Int))])), bA G aPb 5632 pF]) (q0 := 1) C k_D_96 kc_B_dropBlanks (fun l sz => m_B_dropBlanks l G sz aP aPb 5632 pl pF (by omega) (hb)) rfl rfl (Nat.le_of_ble_eq_true rfl) (by decide) d_D_endLine_4 rfl rfl [1, 2] [0] [0, 1, 2] rfl rfl (by decide) (fun u => rfl) (fun u h4 => ?_)
  show Zc G X 1 0 0 [(aD, .inr (1, [.ref aP, .ref aN, .ref aU, .ref aDw, .int (iI df)])), (aP, .inr (0, [.ref aPb, .int (iI (drB pF pl.toNat : Int))])), bA G aPb 5632 pF] [(0, .ref aD)] 7 []
  refine z_aload_n C d_D_endLine_7 0 rfl ?_
  refine z_get C f_D_17 d_D_endLine_8 0 rfl rfl ?_
  refine z_bipush C d_D_endLine_11 (by decide) ?_
  refine z_callv (As := [.int (iI 10)]) (rest := []) (wr := [(aD, .inr (1, [.ref aP, .ref aN, .ref aU, .ref aDw, .int (iI df)]))]) (ws' := fun u => [(aD, .inr (1, [.ref aP, .ref aN, .ref aU, .ref aDw, .int (iI df)])), (aP, .inr (0, [.ref aPb, .int (iI ((drB pF pl.toNat : Int) + 1))])), bA G aPb 5632 (wr pF (drB pF pl.toNat : Int) [10])]) (q0 := 1) C k_D_79 kc_B_add (fun l sz => m_B_add l G sz aP aPb 5632 (drB pF pl.toNat : Int) pF 10 (by omega)) rfl rfl (Nat.le_of_ble_eq_true rfl) (by decide) d_D_endLine_13 rfl rfl [1, 2] [0] [0, 1, 2] rfl rfl (by decide) (fun u => rfl) (fun u h13 => ?_)
  show Zc G X 1 0 0 [(aD, .inr (1, [.ref aP, .ref aN, .ref aU, .ref aDw, .int (iI df)])), (aP, .inr (0, [.ref aPb, .int (iI ((drB pF pl.toNat : Int) + 1))])), bA G aPb 5632 (wr pF (drB pF pl.toNat : Int) [10])] [(0, .ref aD)] 16 []
  exact z_vret C K d_D_endLine_16 ((drB pF pl.toNat : Int) + 1, wr pF (drB pF pl.toNat : Int) [10]) (rfl) (show (pgR (wr pF (drB pF pl.toNat : Int) [10]) ((drB pF pl.toNat : Int) + 1) (strp L ++ [10])) ∧ (byt (wr pF (drB pF pl.toNat : Int) [10]) ∧ ((drB pF pl.toNat : Int) + 1) ≤ pl + 1) from ⟨pgR_wr (pgR_drop hpg) (byL_1 (by omega)), wr_byt _ _ _ hb, by omega⟩)
set_option maxHeartbeats 4000000 in
set_option maxRecDepth 100000 in
theorem m_D_widthOf (l : Launch) (G : GG) (sz : Nat) (aD : Nat) (aP : Nat) (aN : Nat) (aU : Nat) (aDw : Nat) (df : Int) (aNl : Nat) (aNn : Nat) (aNt : Nat) (nn : Nat → Int) (nt : Nat → Int) (aUg : Nat) (aUd : Nat) (aUa : Nat) (ur : Int) (uv : Int) (uf : Int) (ug : Nat → Int) (e : Int) (hn : ∀ j, 0 ≤ nn j ∧ nn j ≤ 12) (hct : cnt nt) (hg : gol ug) (h1 : 0 ≤ e ∧ e < nt 1 + nt 2) : MetI l G sz y_D_widthOf c_D_widthOf 5 (some .int) ({ frames := 3, cells := 0, slots := 0, locals := 66 } : Room) [.ref aD, .int (iI e)] [(aD, .inr (1, [.ref aP, .ref aN, .ref aU, .ref aDw, .int (iI df)])), (aN, .inr (3, [.ref aNl, .ref aNn, .ref aNt])), iA G aNn 40 nn, iA G aNt 3 nt, (aU, .inr (6, [.ref aUg, .ref aUd, .int (iI ur), .int (iI uv), .int (iI uf), .ref aN, .ref aUa])), iA G aUg 384 ug] (fun (r : Int32) (u : Unit) => r = iI (wdE nn nt ug e)) (fun (u : Unit) => [(aD, .inr (1, [.ref aP, .ref aN, .ref aU, .ref aDw, .int (iI df)])), (aN, .inr (3, [.ref aNl, .ref aNn, .ref aNt])), iA G aNn 40 nn, iA G aNt 3 nt, (aU, .inr (6, [.ref aUg, .ref aUd, .int (iI ur), .int (iI uv), .int (iI uf), .ref aN, .ref aUa])), iA G aUg 384 ug]) := by
  refine MetI.mk (by decide) (Nat.le_of_ble_eq_true rfl) (fun X C K => ?_)
  show Zc G X 5 0 0 [(aD, .inr (1, [.ref aP, .ref aN, .ref aU, .ref aDw, .int (iI df)])), (aN, .inr (3, [.ref aNl, .ref aNn, .ref aNt])), iA G aNn 40 nn, iA G aNt 3 nt, (aU, .inr (6, [.ref aUg, .ref aUd, .int (iI ur), .int (iI uv), .int (iI uf), .ref aN, .ref aUa])), iA G aUg 384 ug] [(0, .ref aD), (1, .int (iI e))] 0 []
  have hcc := hct
  unfold cnt at hcc
  have hev := evs_rg hct h1
  have hne := hn (evs (nt 1) e).toNat
  refine z_iconst C d_D_widthOf_0 ?_
  refine z_aload_n C d_D_widthOf_1 0 rfl ?_
  refine z_get C f_D_21 d_D_widthOf_2 0 rfl rfl ?_
  refine z_aload_n C d_D_widthOf_5 0 rfl ?_
  refine z_get C f_D_21 d_D_widthOf_6 0 rfl rfl ?_
  refine z_iload_n C d_D_widthOf_9 1 rfl ?_
  refine z_calli (As := [.int (iI e)]) (rest := [.ref aN, .int (iI 1)]) (wr := [(aD, .inr (1, [.ref aP, .ref aN, .ref aU, .ref aDw, .int (iI df)])), iA G aNn 40 nn, (aU, .inr (6, [.ref aUg, .ref aUd, .int (iI ur), .int (iI uv), .int (iI uf), .ref aN, .ref aUa])), iA G aUg 384 ug]) (ws' := fun u => [(aD, .inr (1, [.ref aP, .ref aN, .ref aU, .ref aDw, .int (iI df)])), (aN, .inr (3, [.ref aNl, .ref aNn, .ref aNt])), iA G aNn 40 nn, iA G aNt 3 nt, (aU, .inr (6, [.ref aUg, .ref aUd, .int (iI ur), .int (iI uv), .int (iI uf), .ref aN, .ref aUa])), iA G aUg 384 ug]) (q0 := 1) C k_D_68 kc_N_slotOfEvent (fun l sz => m_N_slotOfEvent l G sz aN aNl aNn aNt nt e (by omega)) rfl rfl (Nat.le_of_ble_eq_true rfl) (by decide) d_D_widthOf_10 rfl rfl [1, 3] [0, 2, 4, 5] [0, 4, 1, 5, 2, 3] rfl rfl (by decide) (fun u => rfl) (fun r u h10 => ?_)
  obtain rfl := h10
  show Zc G X 5 0 0 [(aD, .inr (1, [.ref aP, .ref aN, .ref aU, .ref aDw, .int (iI df)])), (aN, .inr (3, [.ref aNl, .ref aNn, .ref aNt])), iA G aNn 40 nn, iA G aNt 3 nt, (aU, .inr (6, [.ref aUg, .ref aUd, .int (iI ur), .int (iI uv), .int (iI uf), .ref aN, .ref aUa])), iA G aUg 384 ug] [(0, .ref aD), (1, .int (iI e))] 13 [.int (iI (evs (nt 1) e)), .ref aN, .int (iI 1)]
  refine z_calli (As := [.int (iI (evs (nt 1) e))]) (rest := [.int (iI 1)]) (wr := [(aD, .inr (1, [.ref aP, .ref aN, .ref aU, .ref aDw, .int (iI df)])), iA G aNt 3 nt, (aU, .inr (6, [.ref aUg, .ref aUd, .int (iI ur), .int (iI uv), .int (iI uf), .ref aN, .ref aUa])), iA G aUg 384 ug]) (ws' := fun u => [(aD, .inr (1, [.ref aP, .ref aN, .ref aU, .ref aDw, .int (iI df)])), (aN, .inr (3, [.ref aNl, .ref aNn, .ref aNt])), iA G aNn 40 nn, iA G aNt 3 nt, (aU, .inr (6, [.ref aUg, .ref aUd, .int (iI ur), .int (iI uv), .int (iI uf), .ref aN, .ref aUa])), iA G aUg 384 ug]) (q0 := 1) C k_D_52 kc_N_lengthOf (fun l sz => m_N_lengthOf l G sz aN aNl aNn aNt nn (evs (nt 1) e) (by omega)) rfl rfl (Nat.le_of_ble_eq_true rfl) (by decide) d_D_widthOf_13 rfl rfl [1, 2] [0, 3, 4, 5] [0, 4, 5, 1, 2, 3] rfl rfl (by decide) (fun u => rfl) (fun r u h13 => ?_)
  obtain rfl := h13
  show Zc G X 5 0 0 [(aD, .inr (1, [.ref aP, .ref aN, .ref aU, .ref aDw, .int (iI df)])), (aN, .inr (3, [.ref aNl, .ref aNn, .ref aNt])), iA G aNn 40 nn, iA G aNt 3 nt, (aU, .inr (6, [.ref aUg, .ref aUd, .int (iI ur), .int (iI uv), .int (iI uf), .ref aN, .ref aUa])), iA G aUg 384 ug] [(0, .ref aD), (1, .int (iI e))] 16 [.int (iI (nn (evs (nt 1) e).toNat)), .int (iI 1)]
  refine z_mmax C ml_D_max d_D_widthOf_16 (by omega) (by omega) (Nat.le_of_ble_eq_true rfl) (by decide) ?_
  refine z_istore_n (lv' := [(2, .int (iI (mx 1 (nn (evs (nt 1) e).toNat)))), (0, .ref aD), (1, .int (iI e))]) C d_D_widthOf_19 (by decide) rfl ?_
  refine z_iconst C d_D_widthOf_20 ?_
  refine z_istore_n (lv' := [(3, .int (iI 0)), (2, .int (iI (mx 1 (nn (evs (nt 1) e).toNat)))), (0, .ref aD), (1, .int (iI e))]) C d_D_widthOf_21 (by decide) rfl ?_
  have loop22 : ∀ (kq : Nat) (w : Int) (k : Int), (0 ≤ k ∧ k ≤ nt 0 ∧ 0 ≤ w ∧ w ≤ 12) → (wdS nn nt ug e (nt 0 - k).toNat k w = wdE nn nt ug e) → ((nt 0 - k).toNat < kq) → Zc G X 5 0 0 [(aD, .inr (1, [.ref aP, .ref aN, .ref aU, .ref aDw, .int (iI df)])), (aN, .inr (3, [.ref aNl, .ref aNn, .ref aNt])), iA G aNn 40 nn, iA G aNt 3 nt, (aU, .inr (6, [.ref aUg, .ref aUd, .int (iI ur), .int (iI uv), .int (iI uf), .ref aN, .ref aUa])), iA G aUg 384 ug] [(0, .ref aD), (1, .int (iI e)), (2, .int (iI w)), (3, .int (iI k))] 22 [] := by
    intro kq
    induction kq with
    | zero => intro w k hk hE hm; exact absurd hm (Nat.not_lt_zero _)
    | succ kq ih22 =>
      intro w k hk hE hm
      -- loop body
      refine z_iload_n C d_D_widthOf_22 3 rfl ?_
      refine z_aload_n C d_D_widthOf_23 0 rfl ?_
      refine z_get C f_D_21 d_D_widthOf_24 0 rfl rfl ?_
      refine z_calli (As := []) (rest := [.int (iI k)]) (wr := [(aD, .inr (1, [.ref aP, .ref aN, .ref aU, .ref aDw, .int (iI df)])), iA G aNn 40 nn, (aU, .inr (6, [.ref aUg, .ref aUd, .int (iI ur), .int (iI uv), .int (iI uf), .ref aN, .ref aUa])), iA G aUg 384 ug]) (ws' := fun u => [(aD, .inr (1, [.ref aP, .ref aN, .ref aU, .ref aDw, .int (iI df)])), (aN, .inr (3, [.ref aNl, .ref aNn, .ref aNt])), iA G aNn 40 nn, iA G aNt 3 nt, (aU, .inr (6, [.ref aUg, .ref aUd, .int (iI ur), .int (iI uv), .int (iI uf), .ref aN, .ref aUa])), iA G aUg 384 ug]) (q0 := 1) C k_D_41 kc_N_states (fun l sz => m_N_states l G sz aN aNl aNn aNt nt ) rfl rfl (Nat.le_of_ble_eq_true rfl) (by decide) d_D_widthOf_27 rfl rfl [1, 3] [0, 2, 4, 5] [0, 4, 1, 5, 2, 3] rfl rfl (by decide) (fun u => rfl) (fun r u h27 => ?_)
      obtain rfl := h27
      show Zc G X 5 0 0 [(aD, .inr (1, [.ref aP, .ref aN, .ref aU, .ref aDw, .int (iI df)])), (aN, .inr (3, [.ref aNl, .ref aNn, .ref aNt])), iA G aNn 40 nn, iA G aNt 3 nt, (aU, .inr (6, [.ref aUg, .ref aUd, .int (iI ur), .int (iI uv), .int (iI uf), .ref aN, .ref aUa])), iA G aUg 384 ug] [(0, .ref aD), (1, .int (iI e)), (2, .int (iI w)), (3, .int (iI k))] 30 [.int (iI (nt 0)), .int (iI k)]
      refine z_icmp_ge (tgt := 69) C d_D_widthOf_30 (by decide) (by omega) (by omega) (fun c30 => ?_) (fun c30 => ?_)
      ·
        refine z_iload_n C d_D_widthOf_69 2 rfl ?_
        rw [show (nt 0 - k).toNat = 0 by omega] at hE
        exact z_iret C K d_D_widthOf_70 (rfl) () (rfl) (congrArg iI hE)
      ·
        have hpr := prf_rg hct (s := k) (e := e) (by omega)
        have hgk := hg (prf nt k e).toNat
        have hnk := hn (ug (prf nt k e).toNat).toNat
        refine z_aload_n C d_D_widthOf_33 0 rfl ?_
        refine z_get C f_D_25 d_D_widthOf_34 0 rfl rfl ?_
        refine z_iload_n C d_D_widthOf_37 3 rfl ?_
        refine z_iload_n C d_D_widthOf_38 1 rfl ?_
        refine z_calli (As := [.int (iI k), .int (iI e)]) (rest := []) (wr := [(aD, .inr (1, [.ref aP, .ref aN, .ref aU, .ref aDw, .int (iI df)])), iA G aNn 40 nn]) (ws' := fun u => [(aD, .inr (1, [.ref aP, .ref aN, .ref aU, .ref aDw, .int (iI df)])), (aN, .inr (3, [.ref aNl, .ref aNn, .ref aNt])), iA G aNn 40 nn, iA G aNt 3 nt, (aU, .inr (6, [.ref aUg, .ref aUd, .int (iI ur), .int (iI uv), .int (iI uf), .ref aN, .ref aUa])), iA G aUg 384 ug]) (q0 := 4) C k_D_71 kc_T_goalOf (fun l sz => m_T_goalOf l G sz aU aUg aUd aUa ur uv uf aN aNl aNn aNt nt ug k e (hct) (by omega)) rfl rfl (Nat.le_of_ble_eq_true rfl) (by decide) d_D_widthOf_39 rfl rfl [4, 1, 3, 5] [0, 2] [0, 3, 1, 4, 2, 5] rfl rfl (by decide) (fun u => rfl) (fun r u h39 => ?_)
        obtain rfl := h39
        show Zc G X 5 0 0 [(aD, .inr (1, [.ref aP, .ref aN, .ref aU, .ref aDw, .int (iI df)])), (aN, .inr (3, [.ref aNl, .ref aNn, .ref aNt])), iA G aNn 40 nn, iA G aNt 3 nt, (aU, .inr (6, [.ref aUg, .ref aUd, .int (iI ur), .int (iI uv), .int (iI uf), .ref aN, .ref aUa])), iA G aUg 384 ug] [(0, .ref aD), (1, .int (iI e)), (2, .int (iI w)), (3, .int (iI k))] 42 [.int (iI (ug (prf nt k e).toNat))]
        refine z_istore (lv' := [(4, .int (iI (ug (prf nt k e).toNat))), (0, .ref aD), (1, .int (iI e)), (2, .int (iI w)), (3, .int (iI k))]) C d_D_widthOf_42 (by decide) rfl ?_
        refine z_iload C d_D_widthOf_44 0 rfl ?_
        refine z_if_lt (tgt := 63) C d_D_widthOf_46 (by decide) (by omega) (fun c46 => ?_) (fun c46 => ?_)
        ·
          refine z_iinc (lv' := [(3, .int (iI (k + 1))), (4, .int (iI (ug (prf nt k e).toNat))), (0, .ref aD), (1, .int (iI e)), (2, .int (iI w))]) C d_D_widthOf_63 4 rfl (by decide) rfl ?_
          refine z_goto (tgt := 22) C d_D_widthOf_66 (by decide) ?_
          refine z_lv [2, 3, 4, 0] (lv' := [(0, .ref aD), (1, .int (iI e)), (2, .int (iI w)), (3, .int (iI (k + 1)))]) rfl ?_
          exact ih22 _ _ (by omega) (by rw [wdS_step nn nt ug e w (by omega), if_neg (by omega)] at hE; exact hE) (by omega)
        ·
          refine z_iload_n C d_D_widthOf_49 3 rfl ?_
          refine z_aload_n C d_D_widthOf_50 1 rfl ?_
          refine z_get C f_D_21 d_D_widthOf_51 0 rfl rfl ?_
          refine z_iload C d_D_widthOf_54 0 rfl ?_
          refine z_calli (As := [.int (iI (ug (prf nt k e).toNat))]) (rest := [.int (iI w)]) (wr := [(aD, .inr (1, [.ref aP, .ref aN, .ref aU, .ref aDw, .int (iI df)])), iA G aNt 3 nt, (aU, .inr (6, [.ref aUg, .ref aUd, .int (iI ur), .int (iI uv), .int (iI uf), .ref aN, .ref aUa])), iA G aUg 384 ug]) (ws' := fun u => [(aD, .inr (1, [.ref aP, .ref aN, .ref aU, .ref aDw, .int (iI df)])), (aN, .inr (3, [.ref aNl, .ref aNn, .ref aNt])), iA G aNn 40 nn, iA G aNt 3 nt, (aU, .inr (6, [.ref aUg, .ref aUd, .int (iI ur), .int (iI uv), .int (iI uf), .ref aN, .ref aUa])), iA G aUg 384 ug]) (q0 := 1) C k_D_52 kc_N_lengthOf (fun l sz => m_N_lengthOf l G sz aN aNl aNn aNt nn (ug (prf nt k e).toNat) (by omega)) rfl rfl (Nat.le_of_ble_eq_true rfl) (by decide) d_D_widthOf_56 rfl rfl [1, 2] [0, 3, 4, 5] [0, 4, 5, 1, 2, 3] rfl rfl (by decide) (fun u => rfl) (fun r u h56 => ?_)
          obtain rfl := h56
          show Zc G X 5 0 0 [(aD, .inr (1, [.ref aP, .ref aN, .ref aU, .ref aDw, .int (iI df)])), (aN, .inr (3, [.ref aNl, .ref aNn, .ref aNt])), iA G aNn 40 nn, iA G aNt 3 nt, (aU, .inr (6, [.ref aUg, .ref aUd, .int (iI ur), .int (iI uv), .int (iI uf), .ref aN, .ref aUa])), iA G aUg 384 ug] [(4, .int (iI (ug (prf nt k e).toNat))), (0, .ref aD), (1, .int (iI e)), (2, .int (iI w)), (3, .int (iI k))] 59 [.int (iI (nn (ug (prf nt k e).toNat).toNat)), .int (iI w)]
          refine z_mmax C ml_D_max d_D_widthOf_59 (by omega) (by omega) (Nat.le_of_ble_eq_true rfl) (by decide) ?_
          refine z_istore_n (lv' := [(2, .int (iI (mx w (nn (ug (prf nt k e).toNat).toNat)))), (4, .int (iI (ug (prf nt k e).toNat))), (0, .ref aD), (1, .int (iI e)), (3, .int (iI k))]) C d_D_widthOf_62 (by decide) rfl ?_
          refine z_iinc (lv' := [(3, .int (iI (k + 1))), (2, .int (iI (mx w (nn (ug (prf nt k e).toNat).toNat)))), (4, .int (iI (ug (prf nt k e).toNat))), (0, .ref aD), (1, .int (iI e))]) C d_D_widthOf_63 4 rfl (by decide) rfl ?_
          refine z_goto (tgt := 22) C d_D_widthOf_66 (by decide) ?_
          refine z_lv [3, 4, 1, 0] (lv' := [(0, .ref aD), (1, .int (iI e)), (2, .int (iI (mx w (nn (ug (prf nt k e).toNat).toNat)))), (3, .int (iI (k + 1)))]) rfl ?_
          exact ih22 _ _ (by have := mx_rg (a := w) (b := nn (ug (prf nt k e).toNat).toNat) (l := 0) (h := 12) (by omega) (hn _); omega) (by rw [wdS_step nn nt ug e w (by omega), if_pos (by omega)] at hE; exact hE) (by omega)
  refine z_lv [2, 3, 1, 0] (lv' := [(0, .ref aD), (1, .int (iI e)), (2, .int (iI (mx 1 (nn (evs (nt 1) e).toNat)))), (3, .int (iI 0))]) rfl ?_
  exact loop22 (_ + 1) _ _ (by have := mx_rg (a := 1) (b := nn (evs (nt 1) e).toNat) (l := 0) (h := 12) (by omega) (by omega); omega) (by rw [Int.sub_zero]; rfl) (Nat.lt_succ_self _)
set_option maxHeartbeats 4000000 in
set_option maxRecDepth 100000 in
theorem m_D_measure (l : Launch) (G : GG) (sz : Nat) (aD : Nat) (aP : Nat) (aN : Nat) (aU : Nat) (aDw : Nat) (df : Int) (aNl : Nat) (aNn : Nat) (aNt : Nat) (nn : Nat → Int) (nt : Nat → Int) (aUg : Nat) (aUd : Nat) (aUa : Nat) (ur : Int) (uv : Int) (uf : Int) (ug : Nat → Int) (dw : Nat → Int) (hn : ∀ j, 0 ≤ nn j ∧ nn j ≤ 12) (hct : cnt nt) (hg : gol ug) : MetV l G sz y_D_measure c_D_measure 2 ({ frames := 4, cells := 0, slots := 0, locals := 90 } : Room) [.ref aD] [(aD, .inr (1, [.ref aP, .ref aN, .ref aU, .ref aDw, .int (iI df)])), (aN, .inr (3, [.ref aNl, .ref aNn, .ref aNt])), iA G aNn 40 nn, iA G aNt 3 nt, (aU, .inr (6, [.ref aUg, .ref aUd, .int (iI ur), .int (iI uv), .int (iI uf), .ref aN, .ref aUa])), iA G aUg 384 ug, iA G aDw 24 dw] (fun (u : (Nat → Int)) => (∀ e : Int, 0 ≤ e → e < nt 1 + nt 2 → u e.toNat = wdE nn nt ug e)) (fun (u : (Nat → Int)) => [(aD, .inr (1, [.ref aP, .ref aN, .ref aU, .ref aDw, .int (iI (fwd nn nt))])), (aN, .inr (3, [.ref aNl, .ref aNn, .ref aNt])), iA G aNn 40 nn, iA G aNt 3 nt, (aU, .inr (6, [.ref aUg, .ref aUd, .int (iI ur), .int (iI uv), .int (iI uf), .ref aN, .ref aUa])), iA G aUg 384 ug, iA G aDw 24 u]) := by
  refine MetV.mk (by decide) (Nat.le_of_ble_eq_true rfl) (fun X C K => ?_)
  show Zc G X 2 0 0 [(aD, .inr (1, [.ref aP, .ref aN, .ref aU, .ref aDw, .int (iI df)])), (aN, .inr (3, [.ref aNl, .ref aNn, .ref aNt])), iA G aNn 40 nn, iA G aNt 3 nt, (aU, .inr (6, [.ref aUg, .ref aUd, .int (iI ur), .int (iI uv), .int (iI uf), .ref aN, .ref aUa])), iA G aUg 384 ug, iA G aDw 24 dw] [(0, .ref aD)] 0 []
  have hcc := hct
  unfold cnt at hcc
  refine z_aload_n C d_D_measure_0 0 rfl ?_
  refine z_iconst C d_D_measure_1 ?_
  refine z_put C f_D_49 ok_D nm_D d_D_measure_2 0 rfl rfl rfl rfl (Nat.le_of_ble_eq_true rfl) [(aD, .inr (1, [.ref aP, .ref aN, .ref aU, .ref aDw, .int (iI 0)])), (aN, .inr (3, [.ref aNl, .ref aNn, .ref aNt])), iA G aNn 40 nn, iA G aNt 3 nt, (aU, .inr (6, [.ref aUg, .ref aUd, .int (iI ur), .int (iI uv), .int (iI uf), .ref aN, .ref aUa])), iA G aUg 384 ug, iA G aDw 24 dw] rfl ?_
  refine z_iconst C d_D_measure_5 ?_
  refine z_istore_n (lv' := [(1, .int (iI 0)), (0, .ref aD)]) C d_D_measure_6 (by decide) rfl ?_
  have loop7 : ∀ (kq : Nat) (k : Int) (w : Int), (0 ≤ k ∧ k ≤ nt 0 ∧ 0 ≤ w ∧ w ≤ 12) → (fwS nn (nt 0 - k).toNat k w = fwd nn nt) → ((nt 0 - k).toNat < kq) → Zc G X 2 0 0 [(aD, .inr (1, [.ref aP, .ref aN, .ref aU, .ref aDw, .int (iI w)])), (aN, .inr (3, [.ref aNl, .ref aNn, .ref aNt])), iA G aNn 40 nn, iA G aNt 3 nt, (aU, .inr (6, [.ref aUg, .ref aUd, .int (iI ur), .int (iI uv), .int (iI uf), .ref aN, .ref aUa])), iA G aUg 384 ug, iA G aDw 24 dw] [(0, .ref aD), (1, .int (iI k))] 7 [] := by
    intro kq
    induction kq with
    | zero => intro k w hk hE hm; exact absurd hm (Nat.not_lt_zero _)
    | succ kq ih7 =>
      intro k w hk hE hm
      have hnk := hn k.toNat
      -- loop body
      refine z_iload_n C d_D_measure_7 1 rfl ?_
      refine z_aload_n C d_D_measure_8 0 rfl ?_
      refine z_get C f_D_21 d_D_measure_9 0 rfl rfl ?_
      refine z_calli (As := []) (rest := [.int (iI k)]) (wr := [(aD, .inr (1, [.ref aP, .ref aN, .ref aU, .ref aDw, .int (iI w)])), iA G aNn 40 nn, (aU, .inr (6, [.ref aUg, .ref aUd, .int (iI ur), .int (iI uv), .int (iI uf), .ref aN, .ref aUa])), iA G aUg 384 ug, iA G aDw 24 dw]) (ws' := fun u => [(aD, .inr (1, [.ref aP, .ref aN, .ref aU, .ref aDw, .int (iI w)])), (aN, .inr (3, [.ref aNl, .ref aNn, .ref aNt])), iA G aNn 40 nn, iA G aNt 3 nt, (aU, .inr (6, [.ref aUg, .ref aUd, .int (iI ur), .int (iI uv), .int (iI uf), .ref aN, .ref aUa])), iA G aUg 384 ug, iA G aDw 24 dw]) (q0 := 1) C k_D_41 kc_N_states (fun l sz => m_N_states l G sz aN aNl aNn aNt nt ) rfl rfl (Nat.le_of_ble_eq_true rfl) (by decide) d_D_measure_12 rfl rfl [1, 3] [0, 2, 4, 5, 6] [0, 5, 1, 6, 2, 3, 4] rfl rfl (by decide) (fun u => rfl) (fun r u h12 => ?_)
      obtain rfl := h12
      show Zc G X 2 0 0 [(aD, .inr (1, [.ref aP, .ref aN, .ref aU, .ref aDw, .int (iI w)])), (aN, .inr (3, [.ref aNl, .ref aNn, .ref aNt])), iA G aNn 40 nn, iA G aNt 3 nt, (aU, .inr (6, [.ref aUg, .ref aUd, .int (iI ur), .int (iI uv), .int (iI uf), .ref aN, .ref aUa])), iA G aUg 384 ug, iA G aDw 24 dw] [(0, .ref aD), (1, .int (iI k))] 15 [.int (iI (nt 0)), .int (iI k)]
      refine z_icmp_ge (tgt := 43) C d_D_measure_15 (by decide) (by omega) (by omega) (fun c15 => ?_) (fun c15 => ?_)
      ·
        rw [show (nt 0 - k).toNat = 0 by omega] at hE
        have hE2 : w = fwd nn nt := hE
        refine z_iconst C d_D_measure_43 ?_
        refine z_istore_n (lv' := [(1, .int (iI 0)), (0, .ref aD)]) C d_D_measure_44 (by decide) rfl ?_
        have loop45 : ∀ (kq : Nat) (j : Int) (E : Nat → Int), (0 ≤ j ∧ j ≤ nt 1 + nt 2) → (∀ e : Int, 0 ≤ e → e < j → E e.toNat = wdE nn nt ug e) → ((nt 1 + nt 2 - j).toNat < kq) → Zc G X 2 0 0 [(aD, .inr (1, [.ref aP, .ref aN, .ref aU, .ref aDw, .int (iI w)])), (aN, .inr (3, [.ref aNl, .ref aNn, .ref aNt])), iA G aNn 40 nn, iA G aNt 3 nt, (aU, .inr (6, [.ref aUg, .ref aUd, .int (iI ur), .int (iI uv), .int (iI uf), .ref aN, .ref aUa])), iA G aUg 384 ug, iA G aDw 24 E] [(0, .ref aD), (1, .int (iI j))] 45 [] := by
          intro kq
          induction kq with
          | zero => intro j E hj hF hm; exact absurd hm (Nat.not_lt_zero _)
          | succ kq ih45 =>
            intro j E hj hF hm
            -- loop body
            refine z_iload_n C d_D_measure_45 1 rfl ?_
            refine z_aload_n C d_D_measure_46 0 rfl ?_
            refine z_get C f_D_21 d_D_measure_47 0 rfl rfl ?_
            refine z_calli (As := []) (rest := [.int (iI j)]) (wr := [(aD, .inr (1, [.ref aP, .ref aN, .ref aU, .ref aDw, .int (iI w)])), iA G aNn 40 nn, (aU, .inr (6, [.ref aUg, .ref aUd, .int (iI ur), .int (iI uv), .int (iI uf), .ref aN, .ref aUa])), iA G aUg 384 ug, iA G aDw 24 E]) (ws' := fun u => [(aD, .inr (1, [.ref aP, .ref aN, .ref aU, .ref aDw, .int (iI w)])), (aN, .inr (3, [.ref aNl, .ref aNn, .ref aNt])), iA G aNn 40 nn, iA G aNt 3 nt, (aU, .inr (6, [.ref aUg, .ref aUd, .int (iI ur), .int (iI uv), .int (iI uf), .ref aN, .ref aUa])), iA G aUg 384 ug, iA G aDw 24 E]) (q0 := 1) C k_D_62 kc_N_events (fun l sz => m_N_events l G sz aN aNl aNn aNt nt ) rfl rfl (Nat.le_of_ble_eq_true rfl) (by decide) d_D_measure_50 rfl rfl [1, 3] [0, 2, 4, 5, 6] [0, 5, 1, 6, 2, 3, 4] rfl rfl (by decide) (fun u => rfl) (fun r u h50 => ?_)
            obtain rfl := h50
            show Zc G X 2 0 0 [(aD, .inr (1, [.ref aP, .ref aN, .ref aU, .ref aDw, .int (iI w)])), (aN, .inr (3, [.ref aNl, .ref aNn, .ref aNt])), iA G aNn 40 nn, iA G aNt 3 nt, (aU, .inr (6, [.ref aUg, .ref aUd, .int (iI ur), .int (iI uv), .int (iI uf), .ref aN, .ref aUa])), iA G aUg 384 ug, iA G aDw 24 E] [(0, .ref aD), (1, .int (iI j))] 53 [.int (iI (nt 1 + nt 2)), .int (iI j)]
            refine z_icmp_ge (tgt := 73) C d_D_measure_53 (by decide) (by omega) (by omega) (fun c53 => ?_) (fun c53 => ?_)
            ·
              exact z_vret C K d_D_measure_73 E (by rw [hE2]) (show (∀ e : Int, 0 ≤ e → e < nt 1 + nt 2 → E e.toNat = wdE nn nt ug e) from fun e h0 h1 => hF e h0 (by omega))
            ·
              refine z_aload_n C d_D_measure_56 0 rfl ?_
              refine z_get C f_D_11 d_D_measure_57 0 rfl rfl ?_
              refine z_iload_n C d_D_measure_60 1 rfl ?_
              refine z_aload_n C d_D_measure_61 0 rfl ?_
              refine z_iload_n C d_D_measure_62 1 rfl ?_
              refine z_calli (As := [.int (iI j)]) (rest := [.int (iI j), .ref aDw]) (wr := [iA G aDw 24 E]) (ws' := fun u => [(aD, .inr (1, [.ref aP, .ref aN, .ref aU, .ref aDw, .int (iI w)])), (aN, .inr (3, [.ref aNl, .ref aNn, .ref aNt])), iA G aNn 40 nn, iA G aNt 3 nt, (aU, .inr (6, [.ref aUg, .ref aUd, .int (iI ur), .int (iI uv), .int (iI uf), .ref aN, .ref aUa])), iA G aUg 384 ug, iA G aDw 24 E]) (q0 := 0) C k_D_65 kc_D_widthOf (fun l sz => m_D_widthOf l G sz aD aP aN aU aDw w aNl aNn aNt nn nt aUg aUd aUa ur uv uf ug j (hn) (hct) (hg) (by omega)) rfl rfl (Nat.le_of_ble_eq_true rfl) (by decide) d_D_measure_63 rfl rfl [0, 1, 2, 3, 4, 5] [6] [1, 2, 3, 4, 5, 6, 0] rfl rfl (by decide) (fun u => rfl) (fun r u h63 => ?_)
              obtain rfl := h63
              show Zc G X 2 0 0 [(aD, .inr (1, [.ref aP, .ref aN, .ref aU, .ref aDw, .int (iI w)])), (aN, .inr (3, [.ref aNl, .ref aNn, .ref aNt])), iA G aNn 40 nn, iA G aNt 3 nt, (aU, .inr (6, [.ref aUg, .ref aUd, .int (iI ur), .int (iI uv), .int (iI uf), .ref aN, .ref aUa])), iA G aUg 384 ug, iA G aDw 24 E] [(0, .ref aD), (1, .int (iI j))] 66 [.int (iI (wdE nn nt ug j)), .int (iI j), .ref aDw]
              refine z_iast C d_D_measure_66 6 rfl (by omega) [(aD, .inr (1, [.ref aP, .ref aN, .ref aU, .ref aDw, .int (iI w)])), (aN, .inr (3, [.ref aNl, .ref aNn, .ref aNt])), iA G aNn 40 nn, iA G aNt 3 nt, (aU, .inr (6, [.ref aUg, .ref aUd, .int (iI ur), .int (iI uv), .int (iI uf), .ref aN, .ref aUa])), iA G aUg 384 ug, iA G aDw 24 (uZ E j.toNat (wdE nn nt ug j))] (rfl) ?_
              refine z_iinc (lv' := [(1, .int (iI (j + 1))), (0, .ref aD)]) C d_D_measure_67 1 rfl (by decide) rfl ?_
              refine z_goto (tgt := 45) C d_D_measure_70 (by decide) ?_
              refine z_lv [1, 0] (lv' := [(0, .ref aD), (1, .int (iI (j + 1)))]) rfl ?_
              exact ih45 _ _ (by omega) (fun e h0 hj2 => if z : e = j then by rw [z, uZ_s] else by rw [uZ_n (by omega)]; exact hF e h0 (by omega)) (by omega)
        refine z_lv [1, 0] (lv' := [(0, .ref aD), (1, .int (iI 0))]) rfl ?_
        exact loop45 (_ + 1) _ _ (by omega) (fun e h0 h1 => absurd h1 (by omega)) (Nat.lt_succ_self _)
      ·
        refine z_aload_n C d_D_measure_18 0 rfl ?_
        refine z_aload_n C d_D_measure_19 0 rfl ?_
        refine z_get C f_D_49 d_D_measure_20 0 rfl rfl ?_
        refine z_aload_n C d_D_measure_23 0 rfl ?_
        refine z_get C f_D_21 d_D_measure_24 0 rfl rfl ?_
        refine z_iload_n C d_D_measure_27 1 rfl ?_
        refine z_calli (As := [.int (iI k)]) (rest := [.int (iI w), .ref aD]) (wr := [(aD, .inr (1, [.ref aP, .ref aN, .ref aU, .ref aDw, .int (iI w)])), iA G aNt 3 nt, (aU, .inr (6, [.ref aUg, .ref aUd, .int (iI ur), .int (iI uv), .int (iI uf), .ref aN, .ref aUa])), iA G aUg 384 ug, iA G aDw 24 dw]) (ws' := fun u => [(aD, .inr (1, [.ref aP, .ref aN, .ref aU, .ref aDw, .int (iI w)])), (aN, .inr (3, [.ref aNl, .ref aNn, .ref aNt])), iA G aNn 40 nn, iA G aNt 3 nt, (aU, .inr (6, [.ref aUg, .ref aUd, .int (iI ur), .int (iI uv), .int (iI uf), .ref aN, .ref aUa])), iA G aUg 384 ug, iA G aDw 24 dw]) (q0 := 1) C k_D_52 kc_N_lengthOf (fun l sz => m_N_lengthOf l G sz aN aNl aNn aNt nn k (by omega)) rfl rfl (Nat.le_of_ble_eq_true rfl) (by decide) d_D_measure_28 rfl rfl [1, 2] [0, 3, 4, 5, 6] [0, 5, 6, 1, 2, 3, 4] rfl rfl (by decide) (fun u => rfl) (fun r u h28 => ?_)
        obtain rfl := h28
        show Zc G X 2 0 0 [(aD, .inr (1, [.ref aP, .ref aN, .ref aU, .ref aDw, .int (iI w)])), (aN, .inr (3, [.ref aNl, .ref aNn, .ref aNt])), iA G aNn 40 nn, iA G aNt 3 nt, (aU, .inr (6, [.ref aUg, .ref aUd, .int (iI ur), .int (iI uv), .int (iI uf), .ref aN, .ref aUa])), iA G aUg 384 ug, iA G aDw 24 dw] [(0, .ref aD), (1, .int (iI k))] 31 [.int (iI (nn k.toNat)), .int (iI w), .ref aD]
        refine z_mmax C ml_D_max d_D_measure_31 (by omega) (by omega) (Nat.le_of_ble_eq_true rfl) (by decide) ?_
        refine z_put C f_D_49 ok_D nm_D d_D_measure_34 0 rfl rfl rfl rfl (Nat.le_of_ble_eq_true rfl) [(aD, .inr (1, [.ref aP, .ref aN, .ref aU, .ref aDw, .int (iI (mx w (nn k.toNat)))])), (aN, .inr (3, [.ref aNl, .ref aNn, .ref aNt])), iA G aNn 40 nn, iA G aNt 3 nt, (aU, .inr (6, [.ref aUg, .ref aUd, .int (iI ur), .int (iI uv), .int (iI uf), .ref aN, .ref aUa])), iA G aUg 384 ug, iA G aDw 24 dw] rfl ?_
        refine z_iinc (lv' := [(1, .int (iI (k + 1))), (0, .ref aD)]) C d_D_measure_37 1 rfl (by decide) rfl ?_
        refine z_goto (tgt := 7) C d_D_measure_40 (by decide) ?_
        refine z_lv [1, 0] (lv' := [(0, .ref aD), (1, .int (iI (k + 1)))]) rfl ?_
        exact ih7 _ _ (by have := mx_rg (a := w) (b := nn k.toNat) (l := 0) (h := 12) (by omega) (by omega); omega) (by rw [fwS_step nn w (by omega)] at hE; exact hE) (by omega)
  refine z_lv [1, 0] (lv' := [(0, .ref aD), (1, .int (iI 0))]) rfl ?_
  exact loop7 (_ + 1) _ _ (by omega) (by rw [Int.sub_zero]; rfl) (Nat.lt_succ_self _)
set_option maxHeartbeats 4000000 in
set_option maxRecDepth 100000 in
theorem m_D_drawHead (l : Launch) (G : GG) (sz : Nat) (aD : Nat) (aP : Nat) (aN : Nat) (aU : Nat) (aDw : Nat) (df : Int) (aPb : Nat) (pl : Int) (pF : Nat → Int) (aNl : Nat) (aNn : Nat) (aNt : Nat) (nl : Nat → Int) (nn : Nat → Int) (nt : Nat → Int) (aUg : Nat) (aUd : Nat) (aUa : Nat) (ur : Int) (uv : Int) (uf : Int) (ug : Nat → Int) (dw : Nat → Int) (L : List Int) (hn : ∀ j, 0 ≤ nn j ∧ nn j ≤ 12) (hct : cnt nt) (hg : gol ug) (hdw : ∀ e : Int, 0 ≤ e → e < nt 1 + nt 2 → dw e.toNat = wdE nn nt ug e) (hdf : df = fwd nn nt) (hbl : byt nl) (hpg : pgR pF pl L) (hb : byt pF) (hq : pl + 325 ≤ 5632) : MetV l G sz y_D_drawHead c_D_drawHead 2 ({ frames := 3, cells := 0, slots := 0, locals := 66 } : Room) [.ref aD] [(aD, .inr (1, [.ref aP, .ref aN, .ref aU, .ref aDw, .int (iI df)])), (aN, .inr (3, [.ref aNl, .ref aNn, .ref aNt])), bA G aNl 480 nl, iA G aNn 40 nn, iA G aNt 3 nt, (aU, .inr (6, [.ref aUg, .ref aUd, .int (iI ur), .int (iI uv), .int (iI uf), .ref aN, .ref aUa])), iA G aUg 384 ug, iA G aDw 24 dw, (aP, .inr (0, [.ref aPb, .int (iI pl)])), bA G aPb 5632 pF] (fun (u : Int × (Nat → Int)) => (pgR u.2 u.1 (strp (L ++ lnH (nmC nl nn) nn nt ug) ++ [10])) ∧ (byt u.2 ∧ u.1 ≤ pl + 325)) (fun (u : Int × (Nat → Int)) => [(aD, .inr (1, [.ref aP, .ref aN, .ref aU, .ref aDw, .int (iI df)])), (aN, .inr (3, [.ref aNl, .ref aNn, .ref aNt])), bA G aNl 480 nl, iA G aNn 40 nn, iA G aNt 3 nt, (aU, .inr (6, [.ref aUg, .ref aUd, .int (iI ur), .int (iI uv), .int (iI uf), .ref aN, .ref aUa])), iA G aUg 384 ug, iA G aDw 24 dw, (aP, .inr (0, [.ref aPb, .int (iI u.1)])), bA G aPb 5632 u.2]) := by
  refine MetV.mk (by decide) (Nat.le_of_ble_eq_true rfl) (fun X C K => ?_)
  show Zc G X 2 0 0 [(aD, .inr (1, [.ref aP, .ref aN, .ref aU, .ref aDw, .int (iI df)])), (aN, .inr (3, [.ref aNl, .ref aNn, .ref aNt])), bA G aNl 480 nl, iA G aNn 40 nn, iA G aNt 3 nt, (aU, .inr (6, [.ref aUg, .ref aUd, .int (iI ur), .int (iI uv), .int (iI uf), .ref aN, .ref aUa])), iA G aUg 384 ug, iA G aDw 24 dw, (aP, .inr (0, [.ref aPb, .int (iI pl)])), bA G aPb 5632 pF] [(0, .ref aD)] 0 []
  have hcc := hct
  unfold cnt at hcc
  have h0 := pgR_byt hpg
  have hlo := lnH_ok (nl := nl) (nt := nt) (ug := ug) hn hct hbl
  have hfw := fwd_rg hn nt
  have hp0 : wr pF pl (List.replicate df.toNat (32 : Int) ++ hdL (nmC nl nn) nn nt ug (nt 1 + nt 2).toNat 0) = wr pF pl (lnH (nmC nl nn) nn nt ug) ∧ pl + ((List.replicate df.toNat (32 : Int) ++ hdL (nmC nl nn) nn nt ug (nt 1 + nt 2).toNat 0).length : Int) = pl + ((lnH (nmC nl nn) nn nt ug).length : Int) := by rw [hdf]; exact ⟨rfl, rfl⟩
  refine z_aload_n C d_D_drawHead_0 0 rfl ?_
  refine z_get C f_D_17 d_D_drawHead_1 0 rfl rfl ?_
  refine z_aload_n C d_D_drawHead_4 0 rfl ?_
  refine z_get C f_D_49 d_D_drawHead_5 0 rfl rfl ?_
  refine z_callv (As := [.int (iI df)]) (rest := []) (wr := [(aD, .inr (1, [.ref aP, .ref aN, .ref aU, .ref aDw, .int (iI df)])), (aN, .inr (3, [.ref aNl, .ref aNn, .ref aNt])), bA G aNl 480 nl, iA G aNn 40 nn, iA G aNt 3 nt, (aU, .inr (6, [.ref aUg, .ref aUd, .int (iI ur), .int (iI uv), .int (iI uf), .ref aN, .ref aUa])), iA G aUg 384 ug, iA G aDw 24 dw]) (ws' := fun u => [(aD, .inr (1, [.ref aP, .ref aN, .ref aU, .ref aDw, .int (iI df)])), (aN, .inr (3, [.ref aNl, .ref aNn, .ref aNt])), bA G aNl 480 nl, iA G aNn 40 nn, iA G aNt 3 nt, (aU, .inr (6, [.ref aUg, .ref aUd, .int (iI ur), .int (iI uv), .int (iI uf), .ref aN, .ref aUa])), iA G aUg 384 ug, iA G aDw 24 dw, (aP, .inr (0, [.ref aPb, .int (iI (pl + ((List.replicate df.toNat (32 : Int)).length : Int)))])), bA G aPb 5632 (wr pF pl (List.replicate df.toNat (32 : Int)))]) (q0 := 8) C k_D_76 kc_B_addBlanks (fun l sz => m_B_addBlanks l G sz aP aPb 5632 pl pF df (by have h9 := pg_fit hp0; omega)) rfl rfl (Nat.le_of_ble_eq_true rfl) (by decide) d_D_drawHead_8 rfl rfl [8, 9] [0, 1, 2, 3, 4, 5, 6, 7] [0, 1, 2, 3, 4, 5, 6, 7, 8, 9] rfl rfl (by decide) (fun u => rfl) (fun u h8 => ?_)
  show Zc G X 2 0 0 [(aD, .inr (1, [.ref aP, .ref aN, .ref aU, .ref aDw, .int (iI df)])), (aN, .inr (3, [.ref aNl, .ref aNn, .ref aNt])), bA G aNl 480 nl, iA G aNn 40 nn, iA G aNt 3 nt, (aU, .inr (6, [.ref aUg, .ref aUd, .int (iI ur), .int (iI uv), .int (iI uf), .ref aN, .ref aUa])), iA G aUg 384 ug, iA G aDw 24 dw, (aP, .inr (0, [.ref aPb, .int (iI (pl + ((List.replicate df.toNat (32 : Int)).length : Int)))])), bA G aPb 5632 (wr pF pl (List.replicate df.toNat (32 : Int)))] [(0, .ref aD)] 11 []
  have hp1 : wr (wr pF pl (List.replicate df.toNat (32 : Int))) (pl + ((List.replicate df.toNat (32 : Int)).length : Int)) (hdL (nmC nl nn) nn nt ug (nt 1 + nt 2).toNat 0) = wr pF pl (lnH (nmC nl nn) nn nt ug) ∧ (pl + ((List.replicate df.toNat (32 : Int)).length : Int)) + ((hdL (nmC nl nn) nn nt ug (nt 1 + nt 2).toNat 0).length : Int) = pl + ((lnH (nmC nl nn) nn nt ug).length : Int) := pg_next hp0
  have hg1 : 0 ≤ pl + ((List.replicate df.toNat (32 : Int)).length : Int) := by omega
  generalize wr pF pl (List.replicate df.toNat (32 : Int)) = E1 at hp1 ⊢
  generalize pl + ((List.replicate df.toNat (32 : Int)).length : Int) = q1 at hp1 hg1 ⊢
  refine z_iconst C d_D_drawHead_11 ?_
  refine z_istore_n (lv' := [(1, .int (iI 0)), (0, .ref aD)]) C d_D_drawHead_12 (by decide) rfl ?_
  have loop13 : ∀ (kq : Nat) (k : Int) (q : Int) (E : Nat → Int), (0 ≤ k ∧ k ≤ nt 1 + nt 2 ∧ 0 ≤ q) → (wr E q (hdL (nmC nl nn) nn nt ug (nt 1 + nt 2 - k).toNat k) = wr pF pl (lnH (nmC nl nn) nn nt ug) ∧ q + ((hdL (nmC nl nn) nn nt ug (nt 1 + nt 2 - k).toNat k).length : Int) = pl + ((lnH (nmC nl nn) nn nt ug).length : Int)) → ((nt 1 + nt 2 - k).toNat < kq) → Zc G X 2 0 0 [(aD, .inr (1, [.ref aP, .ref aN, .ref aU, .ref aDw, .int (iI df)])), (aN, .inr (3, [.ref aNl, .ref aNn, .ref aNt])), bA G aNl 480 nl, iA G aNn 40 nn, iA G aNt 3 nt, (aU, .inr (6, [.ref aUg, .ref aUd, .int (iI ur), .int (iI uv), .int (iI uf), .ref aN, .ref aUa])), iA G aUg 384 ug, iA G aDw 24 dw, (aP, .inr (0, [.ref aPb, .int (iI q)])), bA G aPb 5632 E] [(0, .ref aD), (1, .int (iI k))] 13 [] := by
    intro kq
    induction kq with
    | zero => intro k q E hk hE hm; exact absurd hm (Nat.not_lt_zero _)
    | succ kq ih13 =>
      intro k q E hk hE hm
      -- loop body
      refine z_iload_n C d_D_drawHead_13 1 rfl ?_
      refine z_aload_n C d_D_drawHead_14 0 rfl ?_
      refine z_get C f_D_21 d_D_drawHead_15 0 rfl rfl ?_
      refine z_calli (As := []) (rest := [.int (iI k)]) (wr := [(aD, .inr (1, [.ref aP, .ref aN, .ref aU, .ref aDw, .int (iI df)])), bA G aNl 480 nl, iA G aNn 40 nn, (aU, .inr (6, [.ref aUg, .ref aUd, .int (iI ur), .int (iI uv), .int (iI uf), .ref aN, .ref aUa])), iA G aUg 384 ug, iA G aDw 24 dw, (aP, .inr (0, [.ref aPb, .int (iI q)])), bA G aPb 5632 E]) (ws' := fun u => [(aD, .inr (1, [.ref aP, .ref aN, .ref aU, .ref aDw, .int (iI df)])), (aN, .inr (3, [.ref aNl, .ref aNn, .ref aNt])), bA G aNl 480 nl, iA G aNn 40 nn, iA G aNt 3 nt, (aU, .inr (6, [.ref aUg, .ref aUd, .int (iI ur), .int (iI uv), .int (iI uf), .ref aN, .ref aUa])), iA G aUg 384 ug, iA G aDw 24 dw, (aP, .inr (0, [.ref aPb, .int (iI q)])), bA G aPb 5632 E]) (q0 := 1) C k_D_62 kc_N_events (fun l sz => m_N_events l G sz aN aNl aNn aNt nt ) rfl rfl (Nat.le_of_ble_eq_true rfl) (by decide) d_D_drawHead_18 rfl rfl [1, 4] [0, 2, 3, 5, 6, 7, 8, 9] [0, 8, 1, 2, 9, 3, 4, 5, 6, 7] rfl rfl (by decide) (fun u => rfl) (fun r u h18 => ?_)
      obtain rfl := h18
      show Zc G X 2 0 0 [(aD, .inr (1, [.ref aP, .ref aN, .ref aU, .ref aDw, .int (iI df)])), (aN, .inr (3, [.ref aNl, .ref aNn, .ref aNt])), bA G aNl 480 nl, iA G aNn 40 nn, iA G aNt 3 nt, (aU, .inr (6, [.ref aUg, .ref aUd, .int (iI ur), .int (iI uv), .int (iI uf), .ref aN, .ref aUa])), iA G aUg 384 ug, iA G aDw 24 dw, (aP, .inr (0, [.ref aPb, .int (iI q)])), bA G aPb 5632 E] [(0, .ref aD), (1, .int (iI k))] 21 [.int (iI (nt 1 + nt 2)), .int (iI k)]
      refine z_icmp_ge (tgt := 57) C d_D_drawHead_21 (by decide) (by omega) (by omega) (fun c21 => ?_) (fun c21 => ?_)
      ·
        rw [show (nt 1 + nt 2 - k).toNat = 0 by omega] at hE
        have hz := pg_end hE
        have hpg2 : pgR E q (L ++ lnH (nmC nl nn) nn nt ug) := by rw [hz.1, hz.2]; exact pgR_wr hpg hlo.2
        refine z_aload_n C d_D_drawHead_57 0 rfl ?_
        refine z_callv (As := []) (rest := []) (wr := [(aN, .inr (3, [.ref aNl, .ref aNn, .ref aNt])), bA G aNl 480 nl, iA G aNn 40 nn, iA G aNt 3 nt, (aU, .inr (6, [.ref aUg, .ref aUd, .int (iI ur), .int (iI uv), .int (iI uf), .ref aN, .ref aUa])), iA G aUg 384 ug, iA G aDw 24 dw]) (ws' := fun u => [(aD, .inr (1, [.ref aP, .ref aN, .ref aU, .ref aDw, .int (iI df)])), (aN, .inr (3, [.ref aNl, .ref aNn, .ref aNt])), bA G aNl 480 nl, iA G aNn 40 nn, iA G aNt 3 nt, (aU, .inr (6, [.ref aUg, .ref aUd, .int (iI ur), .int (iI uv), .int (iI uf), .ref aN, .ref aUa])), iA G aUg 384 ug, iA G aDw 24 dw, (aP, .inr (0, [.ref aPb, .int (iI u.1)])), bA G aPb 5632 u.2]) (q0 := 0) C k_D_86 kc_D_endLine (fun l sz => m_D_endLine l G sz aD aP aN aU aDw df aPb q E (L ++ lnH (nmC nl nn) nn nt ug) (hpg2) (by rw [hz.1]; exact wr_byt _ _ _ hb) (by omega)) rfl rfl (Nat.le_of_ble_eq_true rfl) (by decide) d_D_drawHead_58 rfl rfl [0, 8, 9] [1, 2, 3, 4, 5, 6, 7] [7, 0, 1, 2, 3, 4, 5, 6, 8, 9] rfl rfl (by decide) (fun u => rfl) (fun u h58 => ?_)
        obtain ⟨q2_58, E2_58⟩ := u
        obtain ⟨ha_58, hb_58⟩ := h58
        have ha_58 : pgR E2_58 q2_58 (strp (L ++ lnH (nmC nl nn) nn nt ug) ++ [10]) := ha_58
        have hb_58 : byt E2_58 ∧ q2_58 ≤ q + 1 := hb_58
        show Zc G X 2 0 0 [(aD, .inr (1, [.ref aP, .ref aN, .ref aU, .ref aDw, .int (iI df)])), (aN, .inr (3, [.ref aNl, .ref aNn, .ref aNt])), bA G aNl 480 nl, iA G aNn 40 nn, iA G aNt 3 nt, (aU, .inr (6, [.ref aUg, .ref aUd, .int (iI ur), .int (iI uv), .int (iI uf), .ref aN, .ref aUa])), iA G aUg 384 ug, iA G aDw 24 dw, (aP, .inr (0, [.ref aPb, .int (iI q2_58)])), bA G aPb 5632 E2_58] [(0, .ref aD), (1, .int (iI k))] 61 []
        exact z_vret C K d_D_drawHead_61 (q2_58, E2_58) (rfl) (show (pgR E2_58 q2_58 (strp (L ++ lnH (nmC nl nn) nn nt ug) ++ [10])) ∧ (byt E2_58 ∧ q2_58 ≤ pl + 325) from ⟨ha_58, hb_58.1, by omega⟩)
      ·
        rw [hdL_step (nmC nl nn) nn nt ug (by omega)] at hE
        have hev := evs_rg hct (e := k) (by omega)
        have hwk := wdE_rg hn nt ug k
        refine z_aload_n C d_D_drawHead_24 0 rfl ?_
        refine z_get C f_D_17 d_D_drawHead_25 0 rfl rfl ?_
        refine z_bipush C d_D_drawHead_28 (by decide) ?_
        refine z_callv (As := [.int (iI 32)]) (rest := []) (wr := [(aD, .inr (1, [.ref aP, .ref aN, .ref aU, .ref aDw, .int (iI df)])), (aN, .inr (3, [.ref aNl, .ref aNn, .ref aNt])), bA G aNl 480 nl, iA G aNn 40 nn, iA G aNt 3 nt, (aU, .inr (6, [.ref aUg, .ref aUd, .int (iI ur), .int (iI uv), .int (iI uf), .ref aN, .ref aUa])), iA G aUg 384 ug, iA G aDw 24 dw]) (ws' := fun u => [(aD, .inr (1, [.ref aP, .ref aN, .ref aU, .ref aDw, .int (iI df)])), (aN, .inr (3, [.ref aNl, .ref aNn, .ref aNt])), bA G aNl 480 nl, iA G aNn 40 nn, iA G aNt 3 nt, (aU, .inr (6, [.ref aUg, .ref aUd, .int (iI ur), .int (iI uv), .int (iI uf), .ref aN, .ref aUa])), iA G aUg 384 ug, iA G aDw 24 dw, (aP, .inr (0, [.ref aPb, .int (iI (q + 1))])), bA G aPb 5632 (wr E q [32])]) (q0 := 8) C k_D_79 kc_B_add (fun l sz => m_B_add l G sz aP aPb 5632 q E 32 (by have h9 := pg_fit1 hE; omega)) rfl rfl (Nat.le_of_ble_eq_true rfl) (by decide) d_D_drawHead_30 rfl rfl [8, 9] [0, 1, 2, 3, 4, 5, 6, 7] [0, 1, 2, 3, 4, 5, 6, 7, 8, 9] rfl rfl (by decide) (fun u => rfl) (fun u h30 => ?_)
        show Zc G X 2 0 0 [(aD, .inr (1, [.ref aP, .ref aN, .ref aU, .ref aDw, .int (iI df)])), (aN, .inr (3, [.ref aNl, .ref aNn, .ref aNt])), bA G aNl 480 nl, iA G aNn 40 nn, iA G aNt 3 nt, (aU, .inr (6, [.ref aUg, .ref aUd, .int (iI ur), .int (iI uv), .int (iI uf), .ref aN, .ref aUa])), iA G aUg 384 ug, iA G aDw 24 dw, (aP, .inr (0, [.ref aPb, .int (iI (q + 1))])), bA G aPb 5632 (wr E q [32])] [(0, .ref aD), (1, .int (iI k))] 33 []
        have hp2 : wr (wr E q [32]) (q + 1) (dnL (nmC nl nn) nn (evs (nt 1) k) (wdE nn nt ug k) ++ hdL (nmC nl nn) nn nt ug (nt 1 + nt 2 - (k + 1)).toNat (k + 1)) = wr pF pl (lnH (nmC nl nn) nn nt ug) ∧ (q + 1) + ((dnL (nmC nl nn) nn (evs (nt 1) k) (wdE nn nt ug k) ++ hdL (nmC nl nn) nn nt ug (nt 1 + nt 2 - (k + 1)).toNat (k + 1)).length : Int) = pl + ((lnH (nmC nl nn) nn nt ug).length : Int) := pg_next hE
        have hg2 : 0 ≤ q + 1 := by omega
        generalize wr E q [32] = E2 at hp2 ⊢
        generalize q + 1 = q2 at hp2 hg2 ⊢
        refine z_aload_n C d_D_drawHead_33 0 rfl ?_
        refine z_aload_n C d_D_drawHead_34 0 rfl ?_
        refine z_get C f_D_21 d_D_drawHead_35 0 rfl rfl ?_
        refine z_iload_n C d_D_drawHead_38 1 rfl ?_
        refine z_calli (As := [.int (iI k)]) (rest := [.ref aD]) (wr := [(aD, .inr (1, [.ref aP, .ref aN, .ref aU, .ref aDw, .int (iI df)])), bA G aNl 480 nl, iA G aNn 40 nn, (aU, .inr (6, [.ref aUg, .ref aUd, .int (iI ur), .int (iI uv), .int (iI uf), .ref aN, .ref aUa])), iA G aUg 384 ug, iA G aDw 24 dw, (aP, .inr (0, [.ref aPb, .int (iI q2)])), bA G aPb 5632 E2]) (ws' := fun u => [(aD, .inr (1, [.ref aP, .ref aN, .ref aU, .ref aDw, .int (iI df)])), (aN, .inr (3, [.ref aNl, .ref aNn, .ref aNt])), bA G aNl 480 nl, iA G aNn 40 nn, iA G aNt 3 nt, (aU, .inr (6, [.ref aUg, .ref aUd, .int (iI ur), .int (iI uv), .int (iI uf), .ref aN, .ref aUa])), iA G aUg 384 ug, iA G aDw 24 dw, (aP, .inr (0, [.ref aPb, .int (iI q2)])), bA G aPb 5632 E2]) (q0 := 1) C k_D_68 kc_N_slotOfEvent (fun l sz => m_N_slotOfEvent l G sz aN aNl aNn aNt nt k (by omega)) rfl rfl (Nat.le_of_ble_eq_true rfl) (by decide) d_D_drawHead_39 rfl rfl [1, 4] [0, 2, 3, 5, 6, 7, 8, 9] [0, 8, 1, 2, 9, 3, 4, 5, 6, 7] rfl rfl (by decide) (fun u => rfl) (fun r u h39 => ?_)
        obtain rfl := h39
        show Zc G X 2 0 0 [(aD, .inr (1, [.ref aP, .ref aN, .ref aU, .ref aDw, .int (iI df)])), (aN, .inr (3, [.ref aNl, .ref aNn, .ref aNt])), bA G aNl 480 nl, iA G aNn 40 nn, iA G aNt 3 nt, (aU, .inr (6, [.ref aUg, .ref aUd, .int (iI ur), .int (iI uv), .int (iI uf), .ref aN, .ref aUa])), iA G aUg 384 ug, iA G aDw 24 dw, (aP, .inr (0, [.ref aPb, .int (iI q2)])), bA G aPb 5632 E2] [(0, .ref aD), (1, .int (iI k))] 42 [.int (iI (evs (nt 1) k)), .ref aD]
        refine z_aload_n C d_D_drawHead_42 0 rfl ?_
        refine z_get C f_D_11 d_D_drawHead_43 0 rfl rfl ?_
        refine z_iload_n C d_D_drawHead_46 1 rfl ?_
        refine z_iald C d_D_drawHead_47 7 rfl (by omega) ?_
        refine z_topi (y := iI (wdE nn nt ug k)) (by rw [hdw k (by omega) (by omega)]) ?_
        refine z_callv (As := [.int (iI (evs (nt 1) k)), .int (iI (wdE nn nt ug k))]) (rest := []) (wr := [iA G aNt 3 nt, (aU, .inr (6, [.ref aUg, .ref aUd, .int (iI ur), .int (iI uv), .int (iI uf), .ref aN, .ref aUa])), iA G aUg 384 ug, iA G aDw 24 dw]) (ws' := fun u => [(aD, .inr (1, [.ref aP, .ref aN, .ref aU, .ref aDw, .int (iI df)])), (aN, .inr (3, [.ref aNl, .ref aNn, .ref aNt])), bA G aNl 480 nl, iA G aNn 40 nn, iA G aNt 3 nt, (aU, .inr (6, [.ref aUg, .ref aUd, .int (iI ur), .int (iI uv), .int (iI uf), .ref aN, .ref aUa])), iA G aUg 384 ug, iA G aDw 24 dw, (aP, .inr (0, [.ref aPb, .int (iI (q2 + ((dnL (nmC nl nn) nn (evs (nt 1) k) (wdE nn nt ug k)).length : Int)))])), bA G aPb 5632 (wr E2 q2 (dnL (nmC nl nn) nn (evs (nt 1) k) (wdE nn nt ug k)))]) (q0 := 0) C k_D_82 kc_D_drawName (fun l sz => m_D_drawName l G sz aD aP aN aU aDw df aPb q2 E2 aNl aNn aNt nl nn (evs (nt 1) k) (wdE nn nt ug k) (hn) (by omega) (by have h9 := pg_fit hp2; omega)) rfl rfl (Nat.le_of_ble_eq_true rfl) (by decide) d_D_drawHead_48 rfl rfl [0, 1, 2, 3, 8, 9] [4, 5, 6, 7] [4, 5, 6, 7, 0, 1, 2, 3, 8, 9] rfl rfl (by decide) (fun u => rfl) (fun u h48 => ?_)
        show Zc G X 2 0 0 [(aD, .inr (1, [.ref aP, .ref aN, .ref aU, .ref aDw, .int (iI df)])), (aN, .inr (3, [.ref aNl, .ref aNn, .ref aNt])), bA G aNl 480 nl, iA G aNn 40 nn, iA G aNt 3 nt, (aU, .inr (6, [.ref aUg, .ref aUd, .int (iI ur), .int (iI uv), .int (iI uf), .ref aN, .ref aUa])), iA G aUg 384 ug, iA G aDw 24 dw, (aP, .inr (0, [.ref aPb, .int (iI (q2 + ((dnL (nmC nl nn) nn (evs (nt 1) k) (wdE nn nt ug k)).length : Int)))])), bA G aPb 5632 (wr E2 q2 (dnL (nmC nl nn) nn (evs (nt 1) k) (wdE nn nt ug k)))] [(0, .ref aD), (1, .int (iI k))] 51 []
        have hp3 : wr (wr E2 q2 (dnL (nmC nl nn) nn (evs (nt 1) k) (wdE nn nt ug k))) (q2 + ((dnL (nmC nl nn) nn (evs (nt 1) k) (wdE nn nt ug k)).length : Int)) (hdL (nmC nl nn) nn nt ug (nt 1 + nt 2 - (k + 1)).toNat (k + 1)) = wr pF pl (lnH (nmC nl nn) nn nt ug) ∧ (q2 + ((dnL (nmC nl nn) nn (evs (nt 1) k) (wdE nn nt ug k)).length : Int)) + ((hdL (nmC nl nn) nn nt ug (nt 1 + nt 2 - (k + 1)).toNat (k + 1)).length : Int) = pl + ((lnH (nmC nl nn) nn nt ug).length : Int) := pg_next hp2
        have hg3 : 0 ≤ q2 + ((dnL (nmC nl nn) nn (evs (nt 1) k) (wdE nn nt ug k)).length : Int) := by omega
        generalize wr E2 q2 (dnL (nmC nl nn) nn (evs (nt 1) k) (wdE nn nt ug k)) = E3 at hp3 ⊢
        generalize q2 + ((dnL (nmC nl nn) nn (evs (nt 1) k) (wdE nn nt ug k)).length : Int) = q3 at hp3 hg3 ⊢
        refine z_iinc (lv' := [(1, .int (iI (k + 1))), (0, .ref aD)]) C d_D_drawHead_51 1 rfl (by decide) rfl ?_
        refine z_goto (tgt := 13) C d_D_drawHead_54 (by decide) ?_
        refine z_lv [1, 0] (lv' := [(0, .ref aD), (1, .int (iI (k + 1)))]) rfl ?_
        exact ih13 _ _ _ (by omega) (hp3) (by omega)
  refine z_lv [1, 0] (lv' := [(0, .ref aD), (1, .int (iI 0))]) rfl ?_
  exact loop13 (_ + 1) _ _ _ (by omega) (by rw [Int.sub_zero]; exact hp1) (Nat.lt_succ_self _)
set_option maxHeartbeats 4000000 in
set_option maxRecDepth 100000 in
theorem m_D_drawState (l : Launch) (G : GG) (sz : Nat) (aD : Nat) (aP : Nat) (aN : Nat) (aU : Nat) (aDw : Nat) (df : Int) (aPb : Nat) (pl : Int) (pF : Nat → Int) (aNl : Nat) (aNn : Nat) (aNt : Nat) (nl : Nat → Int) (nn : Nat → Int) (nt : Nat → Int) (aUg : Nat) (aUd : Nat) (aUa : Nat) (ur : Int) (uv : Int) (uf : Int) (ug : Nat → Int) (dw : Nat → Int) (L : List Int) (s : Int) (hn : ∀ j, 0 ≤ nn j ∧ nn j ≤ 12) (hct : cnt nt) (hg : gol ug) (hdw : ∀ e : Int, 0 ≤ e → e < nt 1 + nt 2 → dw e.toNat = wdE nn nt ug e) (hdf : df = fwd nn nt) (hbl : byt nl) (hpg : pgR pF pl L) (hb : byt pF) (hq : pl + 325 ≤ 5632) (hs : 0 ≤ s ∧ s < nt 0) : MetV l G sz y_D_drawState c_D_drawState 3 ({ frames := 4, cells := 0, slots := 0, locals := 88 } : Room) [.ref aD, .int (iI s)] [(aD, .inr (1, [.ref aP, .ref aN, .ref aU, .ref aDw, .int (iI df)])), (aN, .inr (3, [.ref aNl, .ref aNn, .ref aNt])), bA G aNl 480 nl, iA G aNn 40 nn, iA G aNt 3 nt, (aU, .inr (6, [.ref aUg, .ref aUd, .int (iI ur), .int (iI uv), .int (iI uf), .ref aN, .ref aUa])), iA G aUg 384 ug, iA G aDw 24 dw, (aP, .inr (0, [.ref aPb, .int (iI pl)])), bA G aPb 5632 pF] (fun (u : Int × (Nat → Int)) => (pgR u.2 u.1 (strp (L ++ lnS (nmC nl nn) nn nt ug s) ++ [10])) ∧ (byt u.2 ∧ u.1 ≤ pl + 325)) (fun (u : Int × (Nat → Int)) => [(aD, .inr (1, [.ref aP, .ref aN, .ref aU, .ref aDw, .int (iI df)])), (aN, .inr (3, [.ref aNl, .ref aNn, .ref aNt])), bA G aNl 480 nl, iA G aNn 40 nn, iA G aNt 3 nt, (aU, .inr (6, [.ref aUg, .ref aUd, .int (iI ur), .int (iI uv), .int (iI uf), .ref aN, .ref aUa])), iA G aUg 384 ug, iA G aDw 24 dw, (aP, .inr (0, [.ref aPb, .int (iI u.1)])), bA G aPb 5632 u.2]) := by
  refine MetV.mk (by decide) (Nat.le_of_ble_eq_true rfl) (fun X C K => ?_)
  show Zc G X 3 0 0 [(aD, .inr (1, [.ref aP, .ref aN, .ref aU, .ref aDw, .int (iI df)])), (aN, .inr (3, [.ref aNl, .ref aNn, .ref aNt])), bA G aNl 480 nl, iA G aNn 40 nn, iA G aNt 3 nt, (aU, .inr (6, [.ref aUg, .ref aUd, .int (iI ur), .int (iI uv), .int (iI uf), .ref aN, .ref aUa])), iA G aUg 384 ug, iA G aDw 24 dw, (aP, .inr (0, [.ref aPb, .int (iI pl)])), bA G aPb 5632 pF] [(0, .ref aD), (1, .int (iI s))] 0 []
  have hcc := hct
  unfold cnt at hcc
  have h0 := pgR_byt hpg
  have hlo := lnS_ok (nl := nl) (nt := nt) (ug := ug) hn hct hbl hs
  have hfw := fwd_rg hn nt
  have hp0 : wr pF pl (dnL (nmC nl nn) nn s df ++ stL (nmC nl nn) nn nt ug s (nt 1 + nt 2).toNat 0) = wr pF pl (lnS (nmC nl nn) nn nt ug s) ∧ pl + ((dnL (nmC nl nn) nn s df ++ stL (nmC nl nn) nn nt ug s (nt 1 + nt 2).toNat 0).length : Int) = pl + ((lnS (nmC nl nn) nn nt ug s).length : Int) := by rw [hdf]; exact ⟨rfl, rfl⟩
  refine z_aload_n C d_D_drawState_0 0 rfl ?_
  refine z_iload_n C d_D_drawState_1 1 rfl ?_
  refine z_aload_n C d_D_drawState_2 0 rfl ?_
  refine z_get C f_D_49 d_D_drawState_3 0 rfl rfl ?_
  refine z_callv (As := [.int (iI s), .int (iI df)]) (rest := []) (wr := [iA G aNt 3 nt, (aU, .inr (6, [.ref aUg, .ref aUd, .int (iI ur), .int (iI uv), .int (iI uf), .ref aN, .ref aUa])), iA G aUg 384 ug, iA G aDw 24 dw]) (ws' := fun u => [(aD, .inr (1, [.ref aP, .ref aN, .ref aU, .ref aDw, .int (iI df)])), (aN, .inr (3, [.ref aNl, .ref aNn, .ref aNt])), bA G aNl 480 nl, iA G aNn 40 nn, iA G aNt 3 nt, (aU, .inr (6, [.ref aUg, .ref aUd, .int (iI ur), .int (iI uv), .int (iI uf), .ref aN, .ref aUa])), iA G aUg 384 ug, iA G aDw 24 dw, (aP, .inr (0, [.ref aPb, .int (iI (pl + ((dnL (nmC nl nn) nn s df).length : Int)))])), bA G aPb 5632 (wr pF pl (dnL (nmC nl nn) nn s df))]) (q0 := 0) C k_D_82 kc_D_drawName (fun l sz => m_D_drawName l G sz aD aP aN aU aDw df aPb pl pF aNl aNn aNt nl nn s df (hn) (by omega) (by have h9 := pg_fit hp0; omega)) rfl rfl (Nat.le_of_ble_eq_true rfl) (by decide) d_D_drawState_6 rfl rfl [0, 1, 2, 3, 8, 9] [4, 5, 6, 7] [4, 5, 6, 7, 0, 1, 2, 3, 8, 9] rfl rfl (by decide) (fun u => rfl) (fun u h6 => ?_)
  show Zc G X 3 0 0 [(aD, .inr (1, [.ref aP, .ref aN, .ref aU, .ref aDw, .int (iI df)])), (aN, .inr (3, [.ref aNl, .ref aNn, .ref aNt])), bA G aNl 480 nl, iA G aNn 40 nn, iA G aNt 3 nt, (aU, .inr (6, [.ref aUg, .ref aUd, .int (iI ur), .int (iI uv), .int (iI uf), .ref aN, .ref aUa])), iA G aUg 384 ug, iA G aDw 24 dw, (aP, .inr (0, [.ref aPb, .int (iI (pl + ((dnL (nmC nl nn) nn s df).length : Int)))])), bA G aPb 5632 (wr pF pl (dnL (nmC nl nn) nn s df))] [(0, .ref aD), (1, .int (iI s))] 9 []
  have hp1 : wr (wr pF pl (dnL (nmC nl nn) nn s df)) (pl + ((dnL (nmC nl nn) nn s df).length : Int)) (stL (nmC nl nn) nn nt ug s (nt 1 + nt 2).toNat 0) = wr pF pl (lnS (nmC nl nn) nn nt ug s) ∧ (pl + ((dnL (nmC nl nn) nn s df).length : Int)) + ((stL (nmC nl nn) nn nt ug s (nt 1 + nt 2).toNat 0).length : Int) = pl + ((lnS (nmC nl nn) nn nt ug s).length : Int) := pg_next hp0
  have hg1 : 0 ≤ pl + ((dnL (nmC nl nn) nn s df).length : Int) := by omega
  generalize wr pF pl (dnL (nmC nl nn) nn s df) = E1 at hp1 ⊢
  generalize pl + ((dnL (nmC nl nn) nn s df).length : Int) = q1 at hp1 hg1 ⊢
  refine z_iconst C d_D_drawState_9 ?_
  refine z_istore_n (lv' := [(2, .int (iI 0)), (0, .ref aD), (1, .int (iI s))]) C d_D_drawState_10 (by decide) rfl ?_
  have loop11 : ∀ (kq : Nat) (k : Int) (q : Int) (E : Nat → Int), (0 ≤ k ∧ k ≤ nt 1 + nt 2 ∧ 0 ≤ q) → (wr E q (stL (nmC nl nn) nn nt ug s (nt 1 + nt 2 - k).toNat k) = wr pF pl (lnS (nmC nl nn) nn nt ug s) ∧ q + ((stL (nmC nl nn) nn nt ug s (nt 1 + nt 2 - k).toNat k).length : Int) = pl + ((lnS (nmC nl nn) nn nt ug s).length : Int)) → ((nt 1 + nt 2 - k).toNat < kq) → Zc G X 3 0 0 [(aD, .inr (1, [.ref aP, .ref aN, .ref aU, .ref aDw, .int (iI df)])), (aN, .inr (3, [.ref aNl, .ref aNn, .ref aNt])), bA G aNl 480 nl, iA G aNn 40 nn, iA G aNt 3 nt, (aU, .inr (6, [.ref aUg, .ref aUd, .int (iI ur), .int (iI uv), .int (iI uf), .ref aN, .ref aUa])), iA G aUg 384 ug, iA G aDw 24 dw, (aP, .inr (0, [.ref aPb, .int (iI q)])), bA G aPb 5632 E] [(0, .ref aD), (1, .int (iI s)), (2, .int (iI k))] 11 [] := by
    intro kq
    induction kq with
    | zero => intro k q E hk hE hm; exact absurd hm (Nat.not_lt_zero _)
    | succ kq ih11 =>
      intro k q E hk hE hm
      -- loop body
      refine z_iload_n C d_D_drawState_11 2 rfl ?_
      refine z_aload_n C d_D_drawState_12 0 rfl ?_
      refine z_get C f_D_21 d_D_drawState_13 0 rfl rfl ?_
      refine z_calli (As := []) (rest := [.int (iI k)]) (wr := [(aD, .inr (1, [.ref aP, .ref aN, .ref aU, .ref aDw, .int (iI df)])), bA G aNl 480 nl, iA G aNn 40 nn, (aU, .inr (6, [.ref aUg, .ref aUd, .int (iI ur), .int (iI uv), .int (iI uf), .ref aN, .ref aUa])), iA G aUg 384 ug, iA G aDw 24 dw, (aP, .inr (0, [.ref aPb, .int (iI q)])), bA G aPb 5632 E]) (ws' := fun u => [(aD, .inr (1, [.ref aP, .ref aN, .ref aU, .ref aDw, .int (iI df)])), (aN, .inr (3, [.ref aNl, .ref aNn, .ref aNt])), bA G aNl 480 nl, iA G aNn 40 nn, iA G aNt 3 nt, (aU, .inr (6, [.ref aUg, .ref aUd, .int (iI ur), .int (iI uv), .int (iI uf), .ref aN, .ref aUa])), iA G aUg 384 ug, iA G aDw 24 dw, (aP, .inr (0, [.ref aPb, .int (iI q)])), bA G aPb 5632 E]) (q0 := 1) C k_D_62 kc_N_events (fun l sz => m_N_events l G sz aN aNl aNn aNt nt ) rfl rfl (Nat.le_of_ble_eq_true rfl) (by decide) d_D_drawState_16 rfl rfl [1, 4] [0, 2, 3, 5, 6, 7, 8, 9] [0, 8, 1, 2, 9, 3, 4, 5, 6, 7] rfl rfl (by decide) (fun u => rfl) (fun r u h16 => ?_)
      obtain rfl := h16
      show Zc G X 3 0 0 [(aD, .inr (1, [.ref aP, .ref aN, .ref aU, .ref aDw, .int (iI df)])), (aN, .inr (3, [.ref aNl, .ref aNn, .ref aNt])), bA G aNl 480 nl, iA G aNn 40 nn, iA G aNt 3 nt, (aU, .inr (6, [.ref aUg, .ref aUd, .int (iI ur), .int (iI uv), .int (iI uf), .ref aN, .ref aUa])), iA G aUg 384 ug, iA G aDw 24 dw, (aP, .inr (0, [.ref aPb, .int (iI q)])), bA G aPb 5632 E] [(0, .ref aD), (1, .int (iI s)), (2, .int (iI k))] 19 [.int (iI (nt 1 + nt 2)), .int (iI k)]
      refine z_icmp_ge (tgt := 56) C d_D_drawState_19 (by decide) (by omega) (by omega) (fun c19 => ?_) (fun c19 => ?_)
      ·
        rw [show (nt 1 + nt 2 - k).toNat = 0 by omega] at hE
        have hz := pg_end hE
        have hpg2 : pgR E q (L ++ lnS (nmC nl nn) nn nt ug s) := by rw [hz.1, hz.2]; exact pgR_wr hpg hlo.2
        refine z_aload_n C d_D_drawState_56 0 rfl ?_
        refine z_callv (As := []) (rest := []) (wr := [(aN, .inr (3, [.ref aNl, .ref aNn, .ref aNt])), bA G aNl 480 nl, iA G aNn 40 nn, iA G aNt 3 nt, (aU, .inr (6, [.ref aUg, .ref aUd, .int (iI ur), .int (iI uv), .int (iI uf), .ref aN, .ref aUa])), iA G aUg 384 ug, iA G aDw 24 dw]) (ws' := fun u => [(aD, .inr (1, [.ref aP, .ref aN, .ref aU, .ref aDw, .int (iI df)])), (aN, .inr (3, [.ref aNl, .ref aNn, .ref aNt])), bA G aNl 480 nl, iA G aNn 40 nn, iA G aNt 3 nt, (aU, .inr (6, [.ref aUg, .ref aUd, .int (iI ur), .int (iI uv), .int (iI uf), .ref aN, .ref aUa])), iA G aUg 384 ug, iA G aDw 24 dw, (aP, .inr (0, [.ref aPb, .int (iI u.1)])), bA G aPb 5632 u.2]) (q0 := 0) C k_D_86 kc_D_endLine (fun l sz => m_D_endLine l G sz aD aP aN aU aDw df aPb q E (L ++ lnS (nmC nl nn) nn nt ug s) (hpg2) (by rw [hz.1]; exact wr_byt _ _ _ hb) (by omega)) rfl rfl (Nat.le_of_ble_eq_true rfl) (by decide) d_D_drawState_57 rfl rfl [0, 8, 9] [1, 2, 3, 4, 5, 6, 7] [7, 0, 1, 2, 3, 4, 5, 6, 8, 9] rfl rfl (by decide) (fun u => rfl) (fun u h57 => ?_)
        obtain ⟨q2_57, E2_57⟩ := u
        obtain ⟨ha_57, hb_57⟩ := h57
        have ha_57 : pgR E2_57 q2_57 (strp (L ++ lnS (nmC nl nn) nn nt ug s) ++ [10]) := ha_57
        have hb_57 : byt E2_57 ∧ q2_57 ≤ q + 1 := hb_57
        show Zc G X 3 0 0 [(aD, .inr (1, [.ref aP, .ref aN, .ref aU, .ref aDw, .int (iI df)])), (aN, .inr (3, [.ref aNl, .ref aNn, .ref aNt])), bA G aNl 480 nl, iA G aNn 40 nn, iA G aNt 3 nt, (aU, .inr (6, [.ref aUg, .ref aUd, .int (iI ur), .int (iI uv), .int (iI uf), .ref aN, .ref aUa])), iA G aUg 384 ug, iA G aDw 24 dw, (aP, .inr (0, [.ref aPb, .int (iI q2_57)])), bA G aPb 5632 E2_57] [(0, .ref aD), (1, .int (iI s)), (2, .int (iI k))] 60 []
        exact z_vret C K d_D_drawState_60 (q2_57, E2_57) (rfl) (show (pgR E2_57 q2_57 (strp (L ++ lnS (nmC nl nn) nn nt ug s) ++ [10])) ∧ (byt E2_57 ∧ q2_57 ≤ pl + 325) from ⟨ha_57, hb_57.1, by omega⟩)
      ·
        rw [stL_step (nmC nl nn) nn nt ug s (by omega)] at hE
        have hwk := wdE_rg hn nt ug k
        have hpr := prf_rg hct (s := s) (e := k) (by omega)
        have hgk := hg (prf nt s k).toNat
        refine z_aload_n C d_D_drawState_22 0 rfl ?_
        refine z_get C f_D_17 d_D_drawState_23 0 rfl rfl ?_
        refine z_bipush C d_D_drawState_26 (by decide) ?_
        refine z_callv (As := [.int (iI 32)]) (rest := []) (wr := [(aD, .inr (1, [.ref aP, .ref aN, .ref aU, .ref aDw, .int (iI df)])), (aN, .inr (3, [.ref aNl, .ref aNn, .ref aNt])), bA G aNl 480 nl, iA G aNn 40 nn, iA G aNt 3 nt, (aU, .inr (6, [.ref aUg, .ref aUd, .int (iI ur), .int (iI uv), .int (iI uf), .ref aN, .ref aUa])), iA G aUg 384 ug, iA G aDw 24 dw]) (ws' := fun u => [(aD, .inr (1, [.ref aP, .ref aN, .ref aU, .ref aDw, .int (iI df)])), (aN, .inr (3, [.ref aNl, .ref aNn, .ref aNt])), bA G aNl 480 nl, iA G aNn 40 nn, iA G aNt 3 nt, (aU, .inr (6, [.ref aUg, .ref aUd, .int (iI ur), .int (iI uv), .int (iI uf), .ref aN, .ref aUa])), iA G aUg 384 ug, iA G aDw 24 dw, (aP, .inr (0, [.ref aPb, .int (iI (q + 1))])), bA G aPb 5632 (wr E q [32])]) (q0 := 8) C k_D_79 kc_B_add (fun l sz => m_B_add l G sz aP aPb 5632 q E 32 (by have h9 := pg_fit1 hE; omega)) rfl rfl (Nat.le_of_ble_eq_true rfl) (by decide) d_D_drawState_28 rfl rfl [8, 9] [0, 1, 2, 3, 4, 5, 6, 7] [0, 1, 2, 3, 4, 5, 6, 7, 8, 9] rfl rfl (by decide) (fun u => rfl) (fun u h28 => ?_)
        show Zc G X 3 0 0 [(aD, .inr (1, [.ref aP, .ref aN, .ref aU, .ref aDw, .int (iI df)])), (aN, .inr (3, [.ref aNl, .ref aNn, .ref aNt])), bA G aNl 480 nl, iA G aNn 40 nn, iA G aNt 3 nt, (aU, .inr (6, [.ref aUg, .ref aUd, .int (iI ur), .int (iI uv), .int (iI uf), .ref aN, .ref aUa])), iA G aUg 384 ug, iA G aDw 24 dw, (aP, .inr (0, [.ref aPb, .int (iI (q + 1))])), bA G aPb 5632 (wr E q [32])] [(0, .ref aD), (1, .int (iI s)), (2, .int (iI k))] 31 []
        have hp2 : wr (wr E q [32]) (q + 1) (dgL (nmC nl nn) nn (ug (prf nt s k).toNat) (wdE nn nt ug k) ++ stL (nmC nl nn) nn nt ug s (nt 1 + nt 2 - (k + 1)).toNat (k + 1)) = wr pF pl (lnS (nmC nl nn) nn nt ug s) ∧ (q + 1) + ((dgL (nmC nl nn) nn (ug (prf nt s k).toNat) (wdE nn nt ug k) ++ stL (nmC nl nn) nn nt ug s (nt 1 + nt 2 - (k + 1)).toNat (k + 1)).length : Int) = pl + ((lnS (nmC nl nn) nn nt ug s).length : Int) := pg_next hE
        have hg2 : 0 ≤ q + 1 := by omega
        generalize wr E q [32] = E2 at hp2 ⊢
        generalize q + 1 = q2 at hp2 hg2 ⊢
        refine z_aload_n C d_D_drawState_31 0 rfl ?_
        refine z_aload_n C d_D_drawState_32 0 rfl ?_
        refine z_get C f_D_25 d_D_drawState_33 0 rfl rfl ?_
        refine z_iload_n C d_D_drawState_36 1 rfl ?_
        refine z_iload_n C d_D_drawState_37 2 rfl ?_
        refine z_calli (As := [.int (iI s), .int (iI k)]) (rest := [.ref aD]) (wr := [(aD, .inr (1, [.ref aP, .ref aN, .ref aU, .ref aDw, .int (iI df)])), bA G aNl 480 nl, iA G aNn 40 nn, iA G aDw 24 dw, (aP, .inr (0, [.ref aPb, .int (iI q2)])), bA G aPb 5632 E2]) (ws' := fun u => [(aD, .inr (1, [.ref aP, .ref aN, .ref aU, .ref aDw, .int (iI df)])), (aN, .inr (3, [.ref aNl, .ref aNn, .ref aNt])), bA G aNl 480 nl, iA G aNn 40 nn, iA G aNt 3 nt, (aU, .inr (6, [.ref aUg, .ref aUd, .int (iI ur), .int (iI uv), .int (iI uf), .ref aN, .ref aUa])), iA G aUg 384 ug, iA G aDw 24 dw, (aP, .inr (0, [.ref aPb, .int (iI q2)])), bA G aPb 5632 E2]) (q0 := 5) C k_D_71 kc_T_goalOf (fun l sz => m_T_goalOf l G sz aU aUg aUd aUa ur uv uf aN aNl aNn aNt nt ug s k (hct) (by omega)) rfl rfl (Nat.le_of_ble_eq_true rfl) (by decide) d_D_drawState_38 rfl rfl [5, 1, 4, 6] [0, 2, 3, 7, 8, 9] [0, 7, 1, 2, 8, 6, 9, 3, 4, 5] rfl rfl (by decide) (fun u => rfl) (fun r u h38 => ?_)
        obtain rfl := h38
        show Zc G X 3 0 0 [(aD, .inr (1, [.ref aP, .ref aN, .ref aU, .ref aDw, .int (iI df)])), (aN, .inr (3, [.ref aNl, .ref aNn, .ref aNt])), bA G aNl 480 nl, iA G aNn 40 nn, iA G aNt 3 nt, (aU, .inr (6, [.ref aUg, .ref aUd, .int (iI ur), .int (iI uv), .int (iI uf), .ref aN, .ref aUa])), iA G aUg 384 ug, iA G aDw 24 dw, (aP, .inr (0, [.ref aPb, .int (iI q2)])), bA G aPb 5632 E2] [(0, .ref aD), (1, .int (iI s)), (2, .int (iI k))] 41 [.int (iI (ug (prf nt s k).toNat)), .ref aD]
        refine z_aload_n C d_D_drawState_41 0 rfl ?_
        refine z_get C f_D_11 d_D_drawState_42 0 rfl rfl ?_
        refine z_iload_n C d_D_drawState_45 2 rfl ?_
        refine z_iald C d_D_drawState_46 7 rfl (by omega) ?_
        refine z_topi (y := iI (wdE nn nt ug k)) (by rw [hdw k (by omega) (by omega)]) ?_
        refine z_callv (As := [.int (iI (ug (prf nt s k).toNat)), .int (iI (wdE nn nt ug k))]) (rest := []) (wr := [iA G aNt 3 nt, (aU, .inr (6, [.ref aUg, .ref aUd, .int (iI ur), .int (iI uv), .int (iI uf), .ref aN, .ref aUa])), iA G aUg 384 ug, iA G aDw 24 dw]) (ws' := fun u => [(aD, .inr (1, [.ref aP, .ref aN, .ref aU, .ref aDw, .int (iI df)])), (aN, .inr (3, [.ref aNl, .ref aNn, .ref aNt])), bA G aNl 480 nl, iA G aNn 40 nn, iA G aNt 3 nt, (aU, .inr (6, [.ref aUg, .ref aUd, .int (iI ur), .int (iI uv), .int (iI uf), .ref aN, .ref aUa])), iA G aUg 384 ug, iA G aDw 24 dw, (aP, .inr (0, [.ref aPb, .int (iI (q2 + ((dgL (nmC nl nn) nn (ug (prf nt s k).toNat) (wdE nn nt ug k)).length : Int)))])), bA G aPb 5632 (wr E2 q2 (dgL (nmC nl nn) nn (ug (prf nt s k).toNat) (wdE nn nt ug k)))]) (q0 := 0) C k_D_89 kc_D_drawGoal (fun l sz => m_D_drawGoal l G sz aD aP aN aU aDw df aPb q2 E2 aNl aNn aNt nl nn (ug (prf nt s k).toNat) (wdE nn nt ug k) (hn) (by omega) (by have h9 := pg_fit hp2; omega)) rfl rfl (Nat.le_of_ble_eq_true rfl) (by decide) d_D_drawState_47 rfl rfl [0, 1, 2, 3, 8, 9] [4, 5, 6, 7] [4, 5, 6, 7, 0, 1, 2, 3, 8, 9] rfl rfl (by decide) (fun u => rfl) (fun u h47 => ?_)
        show Zc G X 3 0 0 [(aD, .inr (1, [.ref aP, .ref aN, .ref aU, .ref aDw, .int (iI df)])), (aN, .inr (3, [.ref aNl, .ref aNn, .ref aNt])), bA G aNl 480 nl, iA G aNn 40 nn, iA G aNt 3 nt, (aU, .inr (6, [.ref aUg, .ref aUd, .int (iI ur), .int (iI uv), .int (iI uf), .ref aN, .ref aUa])), iA G aUg 384 ug, iA G aDw 24 dw, (aP, .inr (0, [.ref aPb, .int (iI (q2 + ((dgL (nmC nl nn) nn (ug (prf nt s k).toNat) (wdE nn nt ug k)).length : Int)))])), bA G aPb 5632 (wr E2 q2 (dgL (nmC nl nn) nn (ug (prf nt s k).toNat) (wdE nn nt ug k)))] [(0, .ref aD), (1, .int (iI s)), (2, .int (iI k))] 50 []
        have hp3 : wr (wr E2 q2 (dgL (nmC nl nn) nn (ug (prf nt s k).toNat) (wdE nn nt ug k))) (q2 + ((dgL (nmC nl nn) nn (ug (prf nt s k).toNat) (wdE nn nt ug k)).length : Int)) (stL (nmC nl nn) nn nt ug s (nt 1 + nt 2 - (k + 1)).toNat (k + 1)) = wr pF pl (lnS (nmC nl nn) nn nt ug s) ∧ (q2 + ((dgL (nmC nl nn) nn (ug (prf nt s k).toNat) (wdE nn nt ug k)).length : Int)) + ((stL (nmC nl nn) nn nt ug s (nt 1 + nt 2 - (k + 1)).toNat (k + 1)).length : Int) = pl + ((lnS (nmC nl nn) nn nt ug s).length : Int) := pg_next hp2
        have hg3 : 0 ≤ q2 + ((dgL (nmC nl nn) nn (ug (prf nt s k).toNat) (wdE nn nt ug k)).length : Int) := by omega
        generalize wr E2 q2 (dgL (nmC nl nn) nn (ug (prf nt s k).toNat) (wdE nn nt ug k)) = E3 at hp3 ⊢
        generalize q2 + ((dgL (nmC nl nn) nn (ug (prf nt s k).toNat) (wdE nn nt ug k)).length : Int) = q3 at hp3 hg3 ⊢
        refine z_iinc (lv' := [(2, .int (iI (k + 1))), (0, .ref aD), (1, .int (iI s))]) C d_D_drawState_50 2 rfl (by decide) rfl ?_
        refine z_goto (tgt := 11) C d_D_drawState_53 (by decide) ?_
        refine z_lv [1, 2, 0] (lv' := [(0, .ref aD), (1, .int (iI s)), (2, .int (iI (k + 1)))]) rfl ?_
        exact ih11 _ _ _ (by omega) (hp3) (by omega)
  refine z_lv [1, 2, 0] (lv' := [(0, .ref aD), (1, .int (iI s)), (2, .int (iI 0))]) rfl ?_
  exact loop11 (_ + 1) _ _ _ (by omega) (by rw [Int.sub_zero]; exact hp1) (Nat.lt_succ_self _)
set_option maxHeartbeats 4000000 in
set_option maxRecDepth 100000 in
theorem m_D_drawAll (l : Launch) (G : GG) (sz : Nat) (aD : Nat) (aP : Nat) (aN : Nat) (aU : Nat) (aDw : Nat) (df : Int) (aPb : Nat) (pl : Int) (pF : Nat → Int) (aNl : Nat) (aNn : Nat) (aNt : Nat) (nl : Nat → Int) (nn : Nat → Int) (nt : Nat → Int) (aUg : Nat) (aUd : Nat) (aUa : Nat) (ur : Int) (uv : Int) (uf : Int) (ug : Nat → Int) (dw : Nat → Int) (hn : ∀ j, 0 ≤ nn j ∧ nn j ≤ 12) (hct : cnt nt) (hg : gol ug) (hbl : byt nl) (hb : byt pF) : MetV l G sz y_D_drawAll c_D_drawAll 2 ({ frames := 5, cells := 0, slots := 0, locals := 111 } : Room) [.ref aD] [(aD, .inr (1, [.ref aP, .ref aN, .ref aU, .ref aDw, .int (iI df)])), (aN, .inr (3, [.ref aNl, .ref aNn, .ref aNt])), bA G aNl 480 nl, iA G aNn 40 nn, iA G aNt 3 nt, (aU, .inr (6, [.ref aUg, .ref aUd, .int (iI ur), .int (iI uv), .int (iI uf), .ref aN, .ref aUa])), iA G aUg 384 ug, iA G aDw 24 dw, (aP, .inr (0, [.ref aPb, .int (iI pl)])), bA G aPb 5632 pF] (fun (u : Int × (Nat → Int) × (Nat → Int)) => (pgR u.2.1 u.1 (daL (nmC nl nn) nn nt ug)) ∧ (byt u.2.1 ∧ u.1 ≤ 5632)) (fun (u : Int × (Nat → Int) × (Nat → Int)) => [(aD, .inr (1, [.ref aP, .ref aN, .ref aU, .ref aDw, .int (iI (fwd nn nt))])), (aN, .inr (3, [.ref aNl, .ref aNn, .ref aNt])), bA G aNl 480 nl, iA G aNn 40 nn, iA G aNt 3 nt, (aU, .inr (6, [.ref aUg, .ref aUd, .int (iI ur), .int (iI uv), .int (iI uf), .ref aN, .ref aUa])), iA G aUg 384 ug, iA G aDw 24 u.2.2, (aP, .inr (0, [.ref aPb, .int (iI u.1)])), bA G aPb 5632 u.2.1]) := by
  refine MetV.mk (by decide) (Nat.le_of_ble_eq_true rfl) (fun X C K => ?_)
  show Zc G X 2 0 0 [(aD, .inr (1, [.ref aP, .ref aN, .ref aU, .ref aDw, .int (iI df)])), (aN, .inr (3, [.ref aNl, .ref aNn, .ref aNt])), bA G aNl 480 nl, iA G aNn 40 nn, iA G aNt 3 nt, (aU, .inr (6, [.ref aUg, .ref aUd, .int (iI ur), .int (iI uv), .int (iI uf), .ref aN, .ref aUa])), iA G aUg 384 ug, iA G aDw 24 dw, (aP, .inr (0, [.ref aPb, .int (iI pl)])), bA G aPb 5632 pF] [(0, .ref aD)] 0 []
  have hcc := hct
  unfold cnt at hcc
  refine z_aload_n C d_D_drawAll_0 0 rfl ?_
  refine z_get C f_D_17 d_D_drawAll_1 0 rfl rfl ?_
  refine z_iconst C d_D_drawAll_4 ?_
  refine z_put C f_D_29 ok_B nm_B d_D_drawAll_5 8 rfl rfl rfl rfl (Nat.le_of_ble_eq_true rfl) [(aD, .inr (1, [.ref aP, .ref aN, .ref aU, .ref aDw, .int (iI df)])), (aN, .inr (3, [.ref aNl, .ref aNn, .ref aNt])), bA G aNl 480 nl, iA G aNn 40 nn, iA G aNt 3 nt, (aU, .inr (6, [.ref aUg, .ref aUd, .int (iI ur), .int (iI uv), .int (iI uf), .ref aN, .ref aUa])), iA G aUg 384 ug, iA G aDw 24 dw, (aP, .inr (0, [.ref aPb, .int (iI 0)])), bA G aPb 5632 pF] rfl ?_
  refine z_aload_n C d_D_drawAll_8 0 rfl ?_
  refine z_callv (As := []) (rest := []) (wr := [bA G aNl 480 nl, (aP, .inr (0, [.ref aPb, .int (iI 0)])), bA G aPb 5632 pF]) (ws' := fun u => [(aD, .inr (1, [.ref aP, .ref aN, .ref aU, .ref aDw, .int (iI (fwd nn nt))])), (aN, .inr (3, [.ref aNl, .ref aNn, .ref aNt])), bA G aNl 480 nl, iA G aNn 40 nn, iA G aNt 3 nt, (aU, .inr (6, [.ref aUg, .ref aUd, .int (iI ur), .int (iI uv), .int (iI uf), .ref aN, .ref aUa])), iA G aUg 384 ug, iA G aDw 24 u, (aP, .inr (0, [.ref aPb, .int (iI 0)])), bA G aPb 5632 pF]) (q0 := 0) C k_D_35 kc_D_measure (fun l sz => m_D_measure l G sz aD aP aN aU aDw df aNl aNn aNt nn nt aUg aUd aUa ur uv uf ug dw (hn) (hct) (hg)) rfl rfl (Nat.le_of_ble_eq_true rfl) (by decide) d_D_drawAll_9 rfl rfl [0, 1, 3, 4, 5, 6, 7] [2, 8, 9] [3, 4, 0, 5, 6, 7, 8, 9, 1, 2] rfl rfl (by decide) (fun u => rfl) (fun u h9 => ?_)
  obtain ⟨dw2_9, rfl⟩ : ∃ z, z = u := ⟨_, rfl⟩
  have ha_9 : ∀ e : Int, 0 ≤ e → e < nt 1 + nt 2 → dw2_9 e.toNat = wdE nn nt ug e := h9
  show Zc G X 2 0 0 [(aD, .inr (1, [.ref aP, .ref aN, .ref aU, .ref aDw, .int (iI (fwd nn nt))])), (aN, .inr (3, [.ref aNl, .ref aNn, .ref aNt])), bA G aNl 480 nl, iA G aNn 40 nn, iA G aNt 3 nt, (aU, .inr (6, [.ref aUg, .ref aUd, .int (iI ur), .int (iI uv), .int (iI uf), .ref aN, .ref aUa])), iA G aUg 384 ug, iA G aDw 24 dw2_9, (aP, .inr (0, [.ref aPb, .int (iI 0)])), bA G aPb 5632 pF] [(0, .ref aD)] 12 []
  refine z_aload_n C d_D_drawAll_12 0 rfl ?_
  refine z_callv (As := []) (rest := []) (wr := []) (ws' := fun u => [(aD, .inr (1, [.ref aP, .ref aN, .ref aU, .ref aDw, .int (iI (fwd nn nt))])), (aN, .inr (3, [.ref aNl, .ref aNn, .ref aNt])), bA G aNl 480 nl, iA G aNn 40 nn, iA G aNt 3 nt, (aU, .inr (6, [.ref aUg, .ref aUd, .int (iI ur), .int (iI uv), .int (iI uf), .ref aN, .ref aUa])), iA G aUg 384 ug, iA G aDw 24 dw2_9, (aP, .inr (0, [.ref aPb, .int (iI u.1)])), bA G aPb 5632 u.2]) (q0 := 0) C k_D_38 kc_D_drawHead (fun l sz => m_D_drawHead l G sz aD aP aN aU aDw (fwd nn nt) aPb 0 pF aNl aNn aNt nl nn nt aUg aUd aUa ur uv uf ug dw2_9 ([] : List Int) (hn) (hct) (hg) (ha_9) (rfl) (hbl) (⟨rfl, fun j hj => absurd hj (Nat.not_lt_zero _), fun x hx => by cases hx⟩) (hb) (by omega)) rfl rfl (Nat.le_of_ble_eq_true rfl) (by decide) d_D_drawAll_13 rfl rfl [0, 1, 2, 3, 4, 5, 6, 7, 8, 9] [] [0, 1, 2, 3, 4, 5, 6, 7, 8, 9] rfl rfl (by decide) (fun u => rfl) (fun u h13 => ?_)
  obtain ⟨q2_13, E2_13⟩ := u
  obtain ⟨ha_13, hb_13⟩ := h13
  have ha_13 : pgR E2_13 q2_13 (strp (([] : List Int) ++ lnH (nmC nl nn) nn nt ug) ++ [10]) := ha_13
  have hb_13 : byt E2_13 ∧ q2_13 ≤ 0 + 325 := hb_13
  show Zc G X 2 0 0 [(aD, .inr (1, [.ref aP, .ref aN, .ref aU, .ref aDw, .int (iI (fwd nn nt))])), (aN, .inr (3, [.ref aNl, .ref aNn, .ref aNt])), bA G aNl 480 nl, iA G aNn 40 nn, iA G aNt 3 nt, (aU, .inr (6, [.ref aUg, .ref aUd, .int (iI ur), .int (iI uv), .int (iI uf), .ref aN, .ref aUa])), iA G aUg 384 ug, iA G aDw 24 dw2_9, (aP, .inr (0, [.ref aPb, .int (iI q2_13)])), bA G aPb 5632 E2_13] [(0, .ref aD)] 16 []
  refine z_iconst C d_D_drawAll_16 ?_
  refine z_istore_n (lv' := [(1, .int (iI 0)), (0, .ref aD)]) C d_D_drawAll_17 (by decide) rfl ?_
  have loop18 : ∀ (kq : Nat) (k : Int) (q : Int) (E : Nat → Int) (L : List Int), (0 ≤ k ∧ k ≤ nt 0 ∧ q ≤ 325 * (k + 1)) → (pgR E q L) → (byt E) → (dwF (nmC nl nn) nn nt ug (nt 0 - k).toNat k L = daL (nmC nl nn) nn nt ug) → ((nt 0 - k).toNat < kq) → Zc G X 2 0 0 [(aD, .inr (1, [.ref aP, .ref aN, .ref aU, .ref aDw, .int (iI (fwd nn nt))])), (aN, .inr (3, [.ref aNl, .ref aNn, .ref aNt])), bA G aNl 480 nl, iA G aNn 40 nn, iA G aNt 3 nt, (aU, .inr (6, [.ref aUg, .ref aUd, .int (iI ur), .int (iI uv), .int (iI uf), .ref aN, .ref aUa])), iA G aUg 384 ug, iA G aDw 24 dw2_9, (aP, .inr (0, [.ref aPb, .int (iI q)])), bA G aPb 5632 E] [(0, .ref aD), (1, .int (iI k))] 18 [] := by
    intro kq
    induction kq with
    | zero => intro k q E L hk hpg hbE hE hm; exact absurd hm (Nat.not_lt_zero _)
    | succ kq ih18 =>
      intro k q E L hk hpg hbE hE hm
      -- loop body
      refine z_iload_n C d_D_drawAll_18 1 rfl ?_
      refine z_aload_n C d_D_drawAll_19 0 rfl ?_
      refine z_get C f_D_21 d_D_drawAll_20 0 rfl rfl ?_
      refine z_calli (As := []) (rest := [.int (iI k)]) (wr := [(aD, .inr (1, [.ref aP, .ref aN, .ref aU, .ref aDw, .int (iI (fwd nn nt))])), bA G aNl 480 nl, iA G aNn 40 nn, (aU, .inr (6, [.ref aUg, .ref aUd, .int (iI ur), .int (iI uv), .int (iI uf), .ref aN, .ref aUa])), iA G aUg 384 ug, iA G aDw 24 dw2_9, (aP, .inr (0, [.ref aPb, .int (iI q)])), bA G aPb 5632 E]) (ws' := fun u => [(aD, .inr (1, [.ref aP, .ref aN, .ref aU, .ref aDw, .int (iI (fwd nn nt))])), (aN, .inr (3, [.ref aNl, .ref aNn, .ref aNt])), bA G aNl 480 nl, iA G aNn 40 nn, iA G aNt 3 nt, (aU, .inr (6, [.ref aUg, .ref aUd, .int (iI ur), .int (iI uv), .int (iI uf), .ref aN, .ref aUa])), iA G aUg 384 ug, iA G aDw 24 dw2_9, (aP, .inr (0, [.ref aPb, .int (iI q)])), bA G aPb 5632 E]) (q0 := 1) C k_D_41 kc_N_states (fun l sz => m_N_states l G sz aN aNl aNn aNt nt ) rfl rfl (Nat.le_of_ble_eq_true rfl) (by decide) d_D_drawAll_23 rfl rfl [1, 4] [0, 2, 3, 5, 6, 7, 8, 9] [0, 8, 1, 2, 9, 3, 4, 5, 6, 7] rfl rfl (by decide) (fun u => rfl) (fun r u h23 => ?_)
      obtain rfl := h23
      show Zc G X 2 0 0 [(aD, .inr (1, [.ref aP, .ref aN, .ref aU, .ref aDw, .int (iI (fwd nn nt))])), (aN, .inr (3, [.ref aNl, .ref aNn, .ref aNt])), bA G aNl 480 nl, iA G aNn 40 nn, iA G aNt 3 nt, (aU, .inr (6, [.ref aUg, .ref aUd, .int (iI ur), .int (iI uv), .int (iI uf), .ref aN, .ref aUa])), iA G aUg 384 ug, iA G aDw 24 dw2_9, (aP, .inr (0, [.ref aPb, .int (iI q)])), bA G aPb 5632 E] [(0, .ref aD), (1, .int (iI k))] 26 [.int (iI (nt 0)), .int (iI k)]
      refine z_icmp_ge (tgt := 40) C d_D_drawAll_26 (by decide) (by omega) (by omega) (fun c26 => ?_) (fun c26 => ?_)
      ·
        rw [show (nt 0 - k).toNat = 0 by omega] at hE
        have hE2 : L = daL (nmC nl nn) nn nt ug := hE
        exact z_vret C K d_D_drawAll_40 (q, E, dw2_9) (rfl) (show (pgR E q (daL (nmC nl nn) nn nt ug)) ∧ (byt E ∧ q ≤ 5632) from ⟨by rw [← hE2]; exact hpg, hbE, by omega⟩)
      ·
        refine z_aload_n C d_D_drawAll_29 0 rfl ?_
        refine z_iload_n C d_D_drawAll_30 1 rfl ?_
        refine z_callv (As := [.int (iI k)]) (rest := []) (wr := []) (ws' := fun u => [(aD, .inr (1, [.ref aP, .ref aN, .ref aU, .ref aDw, .int (iI (fwd nn nt))])), (aN, .inr (3, [.ref aNl, .ref aNn, .ref aNt])), bA G aNl 480 nl, iA G aNn 40 nn, iA G aNt 3 nt, (aU, .inr (6, [.ref aUg, .ref aUd, .int (iI ur), .int (iI uv), .int (iI uf), .ref aN, .ref aUa])), iA G aUg 384 ug, iA G aDw 24 dw2_9, (aP, .inr (0, [.ref aPb, .int (iI u.1)])), bA G aPb 5632 u.2]) (q0 := 0) C k_D_45 kc_D_drawState (fun l sz => m_D_drawState l G sz aD aP aN aU aDw (fwd nn nt) aPb q E aNl aNn aNt nl nn nt aUg aUd aUa ur uv uf ug dw2_9 L k (hn) (hct) (hg) (ha_9) (rfl) (hbl) (hpg) (hbE) (by omega) (by omega)) rfl rfl (Nat.le_of_ble_eq_true rfl) (by decide) d_D_drawAll_31 rfl rfl [0, 1, 2, 3, 4, 5, 6, 7, 8, 9] [] [0, 1, 2, 3, 4, 5, 6, 7, 8, 9] rfl rfl (by decide) (fun u => rfl) (fun u h31 => ?_)
        obtain ⟨q2_31, E2_31⟩ := u
        obtain ⟨ha_31, hb_31⟩ := h31
        have ha_31 : pgR E2_31 q2_31 (strp (L ++ lnS (nmC nl nn) nn nt ug k) ++ [10]) := ha_31
        have hb_31 : byt E2_31 ∧ q2_31 ≤ q + 325 := hb_31
        show Zc G X 2 0 0 [(aD, .inr (1, [.ref aP, .ref aN, .ref aU, .ref aDw, .int (iI (fwd nn nt))])), (aN, .inr (3, [.ref aNl, .ref aNn, .ref aNt])), bA G aNl 480 nl, iA G aNn 40 nn, iA G aNt 3 nt, (aU, .inr (6, [.ref aUg, .ref aUd, .int (iI ur), .int (iI uv), .int (iI uf), .ref aN, .ref aUa])), iA G aUg 384 ug, iA G aDw 24 dw2_9, (aP, .inr (0, [.ref aPb, .int (iI q2_31)])), bA G aPb 5632 E2_31] [(0, .ref aD), (1, .int (iI k))] 34 []
        refine z_iinc (lv' := [(1, .int (iI (k + 1))), (0, .ref aD)]) C d_D_drawAll_34 1 rfl (by decide) rfl ?_
        refine z_goto (tgt := 18) C d_D_drawAll_37 (by decide) ?_
        refine z_lv [1, 0] (lv' := [(0, .ref aD), (1, .int (iI (k + 1)))]) rfl ?_
        exact ih18 _ _ _ (strp (L ++ lnS (nmC nl nn) nn nt ug k) ++ [10]) (by omega) (ha_31) (hb_31.1) (by rw [dwF_step (nmC nl nn) nn nt ug L (by omega)] at hE; exact hE) (by omega)
  refine z_lv [1, 0] (lv' := [(0, .ref aD), (1, .int (iI 0))]) rfl ?_
  exact loop18 (_ + 1) _ _ _ (strp ([] ++ lnH (nmC nl nn) nn nt ug) ++ [10]) (by omega) (ha_13) (hb_13.1) (by rw [Int.sub_zero]; rfl) (Nat.lt_succ_self _)
