set_option maxHeartbeats 4000000 in
set_option maxRecDepth 100000 in
theorem m_I_endLine (l : Launch) (G : GG) (sz : Nat) (aI : Nat) (aP : Nat) (aN : Nat) (aU : Nat) (aPb : Nat) (pl : Int) (pF : Nat → Int) (h1 : 0 ≤ pl ∧ pl + 2 ≤ 5632) : MetV l G sz y_I_endLine c_I_endLine 1 ({ frames := 1, cells := 0, slots := 0, locals := 21 } : Room) [.ref aI] [(aI, .inr (5, [.ref aP, .ref aN, .ref aU])), (aP, .inr (0, [.ref aPb, .int (iI pl)])), bA G aPb 5632 pF] (fun (u : Unit) => True) (fun (u : Unit) => [(aI, .inr (5, [.ref aP, .ref aN, .ref aU])), (aP, .inr (0, [.ref aPb, .int (iI (pl + 2))])), bA G aPb 5632 (wr pF pl [59, 10])]) := by
  refine MetV.mk (by decide) (Nat.le_of_ble_eq_true rfl) (fun X C K => ?_)
  show Zc G X 1 0 0 [(aI, .inr (5, [.ref aP, .ref aN, .ref aU])), (aP, .inr (0, [.ref aPb, .int (iI pl)])), bA G aPb 5632 pF] [(0, .ref aI)] 0 []
  refine z_aload_n C d_I_endLine_0 0 rfl ?_
  refine z_get C f_I_9 d_I_endLine_1 0 rfl rfl ?_
  refine z_bipush C d_I_endLine_4 (by decide) ?_
  refine z_callv (As := [.int (iI 59)]) (rest := []) (wr := [(aI, .inr (5, [.ref aP, .ref aN, .ref aU]))]) (ws' := fun u => [(aI, .inr (5, [.ref aP, .ref aN, .ref aU])), (aP, .inr (0, [.ref aPb, .int (iI (pl + 1))])), bA G aPb 5632 (wr pF pl [59])]) (q0 := 1) C k_I_76 kc_B_add (fun l sz => m_B_add l G sz aP aPb 5632 pl pF 59 (by omega)) rfl rfl (Nat.le_of_ble_eq_true rfl) (by decide) d_I_endLine_6 rfl rfl [1, 2] [0] [0, 1, 2] rfl rfl (by decide) (fun u => rfl) (fun u h6 => ?_)
  show Zc G X 1 0 0 [(aI, .inr (5, [.ref aP, .ref aN, .ref aU])), (aP, .inr (0, [.ref aPb, .int (iI (pl + 1))])), bA G aPb 5632 (wr pF pl [59])] [(0, .ref aI)] 9 []
  refine z_aload_n C d_I_endLine_9 0 rfl ?_
  refine z_get C f_I_9 d_I_endLine_10 0 rfl rfl ?_
  refine z_bipush C d_I_endLine_13 (by decide) ?_
  refine z_callv (As := [.int (iI 10)]) (rest := []) (wr := [(aI, .inr (5, [.ref aP, .ref aN, .ref aU]))]) (ws' := fun u => [(aI, .inr (5, [.ref aP, .ref aN, .ref aU])), (aP, .inr (0, [.ref aPb, .int (iI ((pl + 1) + 1))])), bA G aPb 5632 (wr (wr pF pl [59]) (pl + 1) [10])]) (q0 := 1) C k_I_76 kc_B_add (fun l sz => m_B_add l G sz aP aPb 5632 (pl + 1) (wr pF pl [59]) 10 (by omega)) rfl rfl (Nat.le_of_ble_eq_true rfl) (by decide) d_I_endLine_15 rfl rfl [1, 2] [0] [0, 1, 2] rfl rfl (by decide) (fun u => rfl) (fun u h15 => ?_)
  show Zc G X 1 0 0 [(aI, .inr (5, [.ref aP, .ref aN, .ref aU])), (aP, .inr (0, [.ref aPb, .int (iI ((pl + 1) + 1))])), bA G aPb 5632 (wr (wr pF pl [59]) (pl + 1) [10])] [(0, .ref aI)] 18 []
  exact z_vret C K d_I_endLine_18 () (by rw [show pl + 1 + 1 = pl + 2 by omega]; rfl) (trivial)
set_option maxHeartbeats 4000000 in
set_option maxRecDepth 100000 in
theorem m_I_printAction (l : Launch) (G : GG) (sz : Nat) (aI : Nat) (aP : Nat) (aN : Nat) (aU : Nat) (aPb : Nat) (pl : Int) (pF : Nat → Int) (aNl : Nat) (aNn : Nat) (aNt : Nat) (nl : Nat → Int) (nn : Nat → Int) (c : Int) (hn : ∀ j, 0 ≤ nn j ∧ nn j ≤ 12) (hc : 0 ≤ c ∧ (c ≤ 15 ∨ c = 100 ∨ c = 101)) (hpl : 0 ≤ pl ∧ pl + ((acW (nmC nl nn) c).length : Int) ≤ 5632) : MetV l G sz y_I_printAction c_I_printAction 2 ({ frames := 5, cells := 0, slots := 0, locals := 107 } : Room) [.ref aI, .int (iI c)] [(aI, .inr (5, [.ref aP, .ref aN, .ref aU])), (aN, .inr (3, [.ref aNl, .ref aNn, .ref aNt])), bA G aNl 480 nl, iA G aNn 40 nn, (aP, .inr (0, [.ref aPb, .int (iI pl)])), bA G aPb 5632 pF] (fun (u : Unit) => True) (fun (u : Unit) => [(aI, .inr (5, [.ref aP, .ref aN, .ref aU])), (aN, .inr (3, [.ref aNl, .ref aNn, .ref aNt])), bA G aNl 480 nl, iA G aNn 40 nn, (aP, .inr (0, [.ref aPb, .int (iI (pl + ((acW (nmC nl nn) c).length : Int)))])), bA G aPb 5632 (wr pF pl (acW (nmC nl nn) c))]) := by
  refine MetV.mk (by decide) (Nat.le_of_ble_eq_true rfl) (fun X C K => ?_)
  show Zc G X 2 0 0 [(aI, .inr (5, [.ref aP, .ref aN, .ref aU])), (aN, .inr (3, [.ref aNl, .ref aNn, .ref aNt])), bA G aNl 480 nl, iA G aNn 40 nn, (aP, .inr (0, [.ref aPb, .int (iI pl)])), bA G aPb 5632 pF] [(0, .ref aI), (1, .int (iI c))] 0 []
  refine z_iload_n C d_I_printAction_0 1 rfl ?_
  refine z_bipush C d_I_printAction_1 (by decide) ?_
  refine z_icmp_ne (tgt := 18) C d_I_printAction_3 (by decide) (by omega) (by omega) (fun c3 => ?_) (fun c3 => ?_)
  ·
    refine z_iload_n C d_I_printAction_18 1 rfl ?_
    refine z_bipush C d_I_printAction_19 (by decide) ?_
    refine z_icmp_ne (tgt := 36) C d_I_printAction_21 (by decide) (by omega) (by omega) (fun c21 => ?_) (fun c21 => ?_)
    ·
      have ea : acW (nmC nl nn) c = wl "send " ++ nmC nl nn (24 + c) := by unfold acW; rw [if_neg (by omega), if_neg (by omega)]
      have hp0 : wr pF pl (wl "send " ++ nmC nl nn (24 + c)) = wr pF pl (acW (nmC nl nn) c) ∧ pl + ((wl "send " ++ nmC nl nn (24 + c)).length : Int) = pl + ((acW (nmC nl nn) c).length : Int) := by rw [ea]; exact ⟨rfl, rfl⟩
      refine z_aload_n C d_I_printAction_36 0 rfl ?_
      refine z_get C f_I_9 d_I_printAction_37 0 rfl rfl ?_
      refine z_ldcS C d_I_printAction_40 (i := 10) rfl ?_
      refine z_callv (As := [.ref (G.2.2.1 10)]) (rest := []) (wr := [(aI, .inr (5, [.ref aP, .ref aN, .ref aU])), (aN, .inr (3, [.ref aNl, .ref aNn, .ref aNt])), bA G aNl 480 nl, iA G aNn 40 nn]) (ws' := fun u => [(aI, .inr (5, [.ref aP, .ref aN, .ref aU])), (aN, .inr (3, [.ref aNl, .ref aNn, .ref aNt])), bA G aNl 480 nl, iA G aNn 40 nn, (aP, .inr (0, [.ref aPb, .int (iI (pl + ((wl ("send ")).length : Int)))])), bA G aPb 5632 (wr pF pl (wl ("send ")))]) (q0 := 4) C k_I_58 kc_B_addText (fun l sz => m_B_addText l G sz aP aPb 5632 pl pF 10 R_I 114 ("send ") (rfl) (by have h9 := pg_fit hp0; omega)) rfl rfl (Nat.le_of_ble_eq_true rfl) (by decide) d_I_printAction_42 rfl rfl [4, 5] [0, 1, 2, 3] [0, 1, 2, 3, 4, 5] rfl rfl (by decide) (fun u => rfl) (fun u h42 => ?_)
      show Zc G X 2 0 0 [(aI, .inr (5, [.ref aP, .ref aN, .ref aU])), (aN, .inr (3, [.ref aNl, .ref aNn, .ref aNt])), bA G aNl 480 nl, iA G aNn 40 nn, (aP, .inr (0, [.ref aPb, .int (iI (pl + ((wl ("send ")).length : Int)))])), bA G aPb 5632 (wr pF pl (wl ("send ")))] [(0, .ref aI), (1, .int (iI c))] 45 []
      have hp1 : wr (wr pF pl (wl ("send "))) (pl + ((wl ("send ")).length : Int)) (nmC nl nn (24 + c)) = wr pF pl (acW (nmC nl nn) c) ∧ (pl + ((wl ("send ")).length : Int)) + ((nmC nl nn (24 + c)).length : Int) = pl + ((acW (nmC nl nn) c).length : Int) := pg_next hp0
      have hg1 : 0 ≤ pl + ((wl ("send ")).length : Int) := by omega
      generalize wr pF pl (wl ("send ")) = E1 at hp1 ⊢
      generalize pl + ((wl ("send ")).length : Int) = q1 at hp1 hg1 ⊢
      have hp2 := pg_all hp1
      refine z_aload_n C d_I_printAction_45 0 rfl ?_
      refine z_get C f_I_15 d_I_printAction_46 0 rfl rfl ?_
      refine z_bipush C d_I_printAction_49 (by decide) ?_
      refine z_iload_n C d_I_printAction_51 1 rfl ?_
      refine z_iadd C d_I_printAction_52 ?_
      refine z_aload_n C d_I_printAction_53 0 rfl ?_
      refine z_get C f_I_9 d_I_printAction_54 0 rfl rfl ?_
      refine z_callv (As := [.int (iI (24 + c)), .ref aP]) (rest := []) (wr := [(aI, .inr (5, [.ref aP, .ref aN, .ref aU]))]) (ws' := fun u => [(aI, .inr (5, [.ref aP, .ref aN, .ref aU])), (aN, .inr (3, [.ref aNl, .ref aNn, .ref aNt])), bA G aNl 480 nl, iA G aNn 40 nn, (aP, .inr (0, [.ref aPb, .int (iI (q1 + ((nmC nl nn (24 + c)).length : Int)))])), bA G aPb 5632 (wr E1 q1 (nmC nl nn (24 + c)))]) (q0 := 1) C k_I_62 kc_N_write (fun l sz => m_N_write l G sz aN aNl aNn aNt nl nn aP aPb q1 E1 (24 + c) (by have h9 := pg_fit hp2; have h8 := hn (24 + c).toNat; omega)) rfl rfl (Nat.le_of_ble_eq_true rfl) (by decide) d_I_printAction_57 rfl rfl [1, 2, 3, 4, 5] [0] [0, 1, 2, 3, 4, 5] rfl rfl (by decide) (fun u => rfl) (fun u h57 => ?_)
      show Zc G X 2 0 0 [(aI, .inr (5, [.ref aP, .ref aN, .ref aU])), (aN, .inr (3, [.ref aNl, .ref aNn, .ref aNt])), bA G aNl 480 nl, iA G aNn 40 nn, (aP, .inr (0, [.ref aPb, .int (iI (q1 + ((nmC nl nn (24 + c)).length : Int)))])), bA G aPb 5632 (wr E1 q1 (nmC nl nn (24 + c)))] [(0, .ref aI), (1, .int (iI c))] 60 []
      exact z_vret C K d_I_printAction_60 () (by rw [hp1.2, hp1.1]) (trivial)
    ·
      have ea : acW (nmC nl nn) c = wl "keep" := by unfold acW; rw [if_neg (by omega), if_pos (by omega)]
      rw [ea] at hpl
      refine z_aload_n C d_I_printAction_24 0 rfl ?_
      refine z_get C f_I_9 d_I_printAction_25 0 rfl rfl ?_
      refine z_ldcS C d_I_printAction_28 (i := 9) rfl ?_
      refine z_callv (As := [.ref (G.2.2.1 9)]) (rest := []) (wr := [(aI, .inr (5, [.ref aP, .ref aN, .ref aU])), (aN, .inr (3, [.ref aNl, .ref aNn, .ref aNt])), bA G aNl 480 nl, iA G aNn 40 nn]) (ws' := fun u => [(aI, .inr (5, [.ref aP, .ref aN, .ref aU])), (aN, .inr (3, [.ref aNl, .ref aNn, .ref aNt])), bA G aNl 480 nl, iA G aNn 40 nn, (aP, .inr (0, [.ref aPb, .int (iI (pl + ((wl ("keep")).length : Int)))])), bA G aPb 5632 (wr pF pl (wl ("keep")))]) (q0 := 4) C k_I_58 kc_B_addText (fun l sz => m_B_addText l G sz aP aPb 5632 pl pF 9 R_I 112 ("keep") (rfl) (by omega)) rfl rfl (Nat.le_of_ble_eq_true rfl) (by decide) d_I_printAction_30 rfl rfl [4, 5] [0, 1, 2, 3] [0, 1, 2, 3, 4, 5] rfl rfl (by decide) (fun u => rfl) (fun u h30 => ?_)
      show Zc G X 2 0 0 [(aI, .inr (5, [.ref aP, .ref aN, .ref aU])), (aN, .inr (3, [.ref aNl, .ref aNn, .ref aNt])), bA G aNl 480 nl, iA G aNn 40 nn, (aP, .inr (0, [.ref aPb, .int (iI (pl + ((wl ("keep")).length : Int)))])), bA G aPb 5632 (wr pF pl (wl ("keep")))] [(0, .ref aI), (1, .int (iI c))] 33 []
      refine z_goto (tgt := 60) C d_I_printAction_33 (by decide) ?_
      exact z_vret C K d_I_printAction_60 () (by rw [ea]) (trivial)
  ·
    have ea : acW (nmC nl nn) c = wl "take" := if_pos (by omega)
    rw [ea] at hpl
    refine z_aload_n C d_I_printAction_6 0 rfl ?_
    refine z_get C f_I_9 d_I_printAction_7 0 rfl rfl ?_
    refine z_ldcS C d_I_printAction_10 (i := 8) rfl ?_
    refine z_callv (As := [.ref (G.2.2.1 8)]) (rest := []) (wr := [(aI, .inr (5, [.ref aP, .ref aN, .ref aU])), (aN, .inr (3, [.ref aNl, .ref aNn, .ref aNt])), bA G aNl 480 nl, iA G aNn 40 nn]) (ws' := fun u => [(aI, .inr (5, [.ref aP, .ref aN, .ref aU])), (aN, .inr (3, [.ref aNl, .ref aNn, .ref aNt])), bA G aNl 480 nl, iA G aNn 40 nn, (aP, .inr (0, [.ref aPb, .int (iI (pl + ((wl ("take")).length : Int)))])), bA G aPb 5632 (wr pF pl (wl ("take")))]) (q0 := 4) C k_I_58 kc_B_addText (fun l sz => m_B_addText l G sz aP aPb 5632 pl pF 8 R_I 110 ("take") (rfl) (by omega)) rfl rfl (Nat.le_of_ble_eq_true rfl) (by decide) d_I_printAction_12 rfl rfl [4, 5] [0, 1, 2, 3] [0, 1, 2, 3, 4, 5] rfl rfl (by decide) (fun u => rfl) (fun u h12 => ?_)
    show Zc G X 2 0 0 [(aI, .inr (5, [.ref aP, .ref aN, .ref aU])), (aN, .inr (3, [.ref aNl, .ref aNn, .ref aNt])), bA G aNl 480 nl, iA G aNn 40 nn, (aP, .inr (0, [.ref aPb, .int (iI (pl + ((wl ("take")).length : Int)))])), bA G aPb 5632 (wr pF pl (wl ("take")))] [(0, .ref aI), (1, .int (iI c))] 15 []
    refine z_goto (tgt := 60) C d_I_printAction_15 (by decide) ?_
    exact z_vret C K d_I_printAction_60 () (by rw [ea]) (trivial)
set_option maxHeartbeats 4000000 in
set_option maxRecDepth 100000 in
theorem m_I_printActions (l : Launch) (G : GG) (sz : Nat) (aI : Nat) (aP : Nat) (aN : Nat) (aU : Nat) (aPb : Nat) (pl : Int) (pF : Nat → Int) (aNl : Nat) (aNn : Nat) (aNt : Nat) (nl : Nat → Int) (nn : Nat → Int) (aUg : Nat) (aUd : Nat) (aUa : Nat) (ur : Int) (uv : Int) (uf : Int) (ua : Nat → Int) (p : Int) (hn : ∀ j, 0 ≤ nn j ∧ nn j ≤ 12) (h1 : 0 ≤ p ∧ p < 384) (ha : act ua) (hmc : ∀ j : Int, aco ua p j ≤ 15 ∨ aco ua p j = 100 ∨ aco ua p j = 101) (hpl : 0 ≤ pl ∧ pl + ((acL (nmC nl nn) ua p 4 0).length : Int) ≤ 5632) : MetV l G sz y_I_printActions c_I_printActions 3 ({ frames := 6, cells := 0, slots := 0, locals := 128 } : Room) [.ref aI, .int (iI p)] [(aI, .inr (5, [.ref aP, .ref aN, .ref aU])), (aN, .inr (3, [.ref aNl, .ref aNn, .ref aNt])), bA G aNl 480 nl, iA G aNn 40 nn, (aU, .inr (6, [.ref aUg, .ref aUd, .int (iI ur), .int (iI uv), .int (iI uf), .ref aN, .ref aUa])), iA G aUa 1536 ua, (aP, .inr (0, [.ref aPb, .int (iI pl)])), bA G aPb 5632 pF] (fun (u : Unit) => True) (fun (u : Unit) => [(aI, .inr (5, [.ref aP, .ref aN, .ref aU])), (aN, .inr (3, [.ref aNl, .ref aNn, .ref aNt])), bA G aNl 480 nl, iA G aNn 40 nn, (aU, .inr (6, [.ref aUg, .ref aUd, .int (iI ur), .int (iI uv), .int (iI uf), .ref aN, .ref aUa])), iA G aUa 1536 ua, (aP, .inr (0, [.ref aPb, .int (iI (pl + ((acL (nmC nl nn) ua p 4 0).length : Int)))])), bA G aPb 5632 (wr pF pl (acL (nmC nl nn) ua p 4 0))]) := by
  refine MetV.mk (by decide) (Nat.le_of_ble_eq_true rfl) (fun X C K => ?_)
  show Zc G X 3 0 0 [(aI, .inr (5, [.ref aP, .ref aN, .ref aU])), (aN, .inr (3, [.ref aNl, .ref aNn, .ref aNt])), bA G aNl 480 nl, iA G aNn 40 nn, (aU, .inr (6, [.ref aUg, .ref aUd, .int (iI ur), .int (iI uv), .int (iI uf), .ref aN, .ref aUa])), iA G aUa 1536 ua, (aP, .inr (0, [.ref aPb, .int (iI pl)])), bA G aPb 5632 pF] [(0, .ref aI), (1, .int (iI p))] 0 []
  refine z_iconst C d_I_printActions_0 ?_
  refine z_istore_n (lv' := [(2, .int (iI 0)), (0, .ref aI), (1, .int (iI p))]) C d_I_printActions_1 (by decide) rfl ?_
  have loop2 : ∀ (kq : Nat) (k : Int) (q : Int) (E : Nat → Int), (0 ≤ k ∧ k ≤ 4 ∧ 0 ≤ q) → (wr E q (acL (nmC nl nn) ua p (4 - k).toNat k) = wr pF pl (acL (nmC nl nn) ua p 4 0) ∧ q + ((acL (nmC nl nn) ua p (4 - k).toNat k).length : Int) = pl + ((acL (nmC nl nn) ua p 4 0).length : Int)) → ((4 - k).toNat < kq) → Zc G X 3 0 0 [(aI, .inr (5, [.ref aP, .ref aN, .ref aU])), (aN, .inr (3, [.ref aNl, .ref aNn, .ref aNt])), bA G aNl 480 nl, iA G aNn 40 nn, (aU, .inr (6, [.ref aUg, .ref aUd, .int (iI ur), .int (iI uv), .int (iI uf), .ref aN, .ref aUa])), iA G aUa 1536 ua, (aP, .inr (0, [.ref aPb, .int (iI q)])), bA G aPb 5632 E] [(0, .ref aI), (1, .int (iI p)), (2, .int (iI k))] 2 [] := by
    intro kq
    induction kq with
    | zero => intro k q E hk hE hm; exact absurd hm (Nat.not_lt_zero _)
    | succ kq ih2 =>
      intro k q E hk hE hm
      have hak := aco_rg ha p k
      have hmk := hmc k
      -- loop body
      refine z_iload_n C d_I_printActions_2 2 rfl ?_
      refine z_iconst C d_I_printActions_3 ?_
      refine z_icmp_ge (tgt := 57) C d_I_printActions_4 (by decide) (by omega) (by omega) (fun c4 => ?_) (fun c4 => ?_)
      ·
        rw [show (4 - k).toNat = 0 by omega] at hE
        exact z_vret C K d_I_printActions_57 () (by rw [(pg_end hE).1, (pg_end hE).2]) (trivial)
      ·
        refine z_aload_n C d_I_printActions_7 0 rfl ?_
        refine z_get C f_I_19 d_I_printActions_8 0 rfl rfl ?_
        refine z_iload_n C d_I_printActions_11 1 rfl ?_
        refine z_iload_n C d_I_printActions_12 2 rfl ?_
        refine z_calli (As := [.int (iI p), .int (iI k)]) (rest := []) (wr := [(aI, .inr (5, [.ref aP, .ref aN, .ref aU])), (aN, .inr (3, [.ref aNl, .ref aNn, .ref aNt])), bA G aNl 480 nl, iA G aNn 40 nn, (aP, .inr (0, [.ref aPb, .int (iI q)])), bA G aPb 5632 E]) (ws' := fun u => [(aI, .inr (5, [.ref aP, .ref aN, .ref aU])), (aN, .inr (3, [.ref aNl, .ref aNn, .ref aNt])), bA G aNl 480 nl, iA G aNn 40 nn, (aU, .inr (6, [.ref aUg, .ref aUd, .int (iI ur), .int (iI uv), .int (iI uf), .ref aN, .ref aUa])), iA G aUa 1536 ua, (aP, .inr (0, [.ref aPb, .int (iI q)])), bA G aPb 5632 E]) (q0 := 4) C k_I_102 kc_T_actionOf (fun l sz => m_T_actionOf l G sz aU aUg aUd aUa ur uv uf aN ua p k (by omega)) rfl rfl (Nat.le_of_ble_eq_true rfl) (by decide) d_I_printActions_13 rfl rfl [4, 5] [0, 1, 2, 3, 6, 7] [0, 1, 2, 3, 6, 7, 4, 5] rfl rfl (by decide) (fun u => rfl) (fun r u h13 => ?_)
        obtain rfl := h13
        show Zc G X 3 0 0 [(aI, .inr (5, [.ref aP, .ref aN, .ref aU])), (aN, .inr (3, [.ref aNl, .ref aNn, .ref aNt])), bA G aNl 480 nl, iA G aNn 40 nn, (aU, .inr (6, [.ref aUg, .ref aUd, .int (iI ur), .int (iI uv), .int (iI uf), .ref aN, .ref aUa])), iA G aUa 1536 ua, (aP, .inr (0, [.ref aPb, .int (iI q)])), bA G aPb 5632 E] [(0, .ref aI), (1, .int (iI p)), (2, .int (iI k))] 16 [.int (iI (aco ua p k))]
        refine z_iconst C d_I_printActions_16 ?_
        refine z_icmp_eq (tgt := 57) C d_I_printActions_17 (by decide) (by omega) (by omega) (fun c17 => ?_) (fun c17 => ?_)
        ·
          rw [acL_step (nmC nl nn) ua p (by omega), if_pos c17] at hE
          exact z_vret C K d_I_printActions_57 () (by rw [(pg_end hE).1, (pg_end hE).2]) (trivial)
        ·
          rw [acL_step (nmC nl nn) ua p (by omega), if_neg c17] at hE
          refine z_aload_n C d_I_printActions_20 0 rfl ?_
          refine z_get C f_I_9 d_I_printActions_21 0 rfl rfl ?_
          refine z_iload_n C d_I_printActions_24 2 rfl ?_
          refine z_if_le (tgt := 33) C d_I_printActions_25 (by decide) (by omega) (fun c25 => ?_) (fun c25 => ?_)
          ·
            rw [if_neg (by omega)] at hE
            refine z_ldcS C d_I_printActions_33 (i := 7) rfl ?_
            refine z_callv (As := [.ref (G.2.2.1 7)]) (rest := []) (wr := [(aI, .inr (5, [.ref aP, .ref aN, .ref aU])), (aN, .inr (3, [.ref aNl, .ref aNn, .ref aNt])), bA G aNl 480 nl, iA G aNn 40 nn, (aU, .inr (6, [.ref aUg, .ref aUd, .int (iI ur), .int (iI uv), .int (iI uf), .ref aN, .ref aUa])), iA G aUa 1536 ua]) (ws' := fun u => [(aI, .inr (5, [.ref aP, .ref aN, .ref aU])), (aN, .inr (3, [.ref aNl, .ref aNn, .ref aNt])), bA G aNl 480 nl, iA G aNn 40 nn, (aU, .inr (6, [.ref aUg, .ref aUd, .int (iI ur), .int (iI uv), .int (iI uf), .ref aN, .ref aUa])), iA G aUa 1536 ua, (aP, .inr (0, [.ref aPb, .int (iI (q + ((wl (" ")).length : Int)))])), bA G aPb 5632 (wr E q (wl (" ")))]) (q0 := 6) C k_I_58 kc_B_addText (fun l sz => m_B_addText l G sz aP aPb 5632 q E 7 R_I 105 (" ") (rfl) (by have h9 := pg_fit hE; omega)) rfl rfl (Nat.le_of_ble_eq_true rfl) (by decide) d_I_printActions_35 rfl rfl [6, 7] [0, 1, 2, 3, 4, 5] [0, 1, 2, 3, 4, 5, 6, 7] rfl rfl (by decide) (fun u => rfl) (fun u h35 => ?_)
            show Zc G X 3 0 0 [(aI, .inr (5, [.ref aP, .ref aN, .ref aU])), (aN, .inr (3, [.ref aNl, .ref aNn, .ref aNt])), bA G aNl 480 nl, iA G aNn 40 nn, (aU, .inr (6, [.ref aUg, .ref aUd, .int (iI ur), .int (iI uv), .int (iI uf), .ref aN, .ref aUa])), iA G aUa 1536 ua, (aP, .inr (0, [.ref aPb, .int (iI (q + ((wl (" ")).length : Int)))])), bA G aPb 5632 (wr E q (wl (" ")))] [(0, .ref aI), (1, .int (iI p)), (2, .int (iI k))] 38 []
            have hp1 : wr (wr E q (wl (" "))) (q + ((wl (" ")).length : Int)) (acW (nmC nl nn) (aco ua p k) ++ acL (nmC nl nn) ua p (4 - (k + 1)).toNat (k + 1)) = wr pF pl (acL (nmC nl nn) ua p 4 0) ∧ (q + ((wl (" ")).length : Int)) + ((acW (nmC nl nn) (aco ua p k) ++ acL (nmC nl nn) ua p (4 - (k + 1)).toNat (k + 1)).length : Int) = pl + ((acL (nmC nl nn) ua p 4 0).length : Int) := pg_next hE
            have hg1 : 0 ≤ q + ((wl (" ")).length : Int) := by omega
            generalize wr E q (wl (" ")) = E1 at hp1 ⊢
            generalize q + ((wl (" ")).length : Int) = q1 at hp1 hg1 ⊢
            refine z_aload_n C d_I_printActions_38 0 rfl ?_
            refine z_aload_n C d_I_printActions_39 0 rfl ?_
            refine z_get C f_I_19 d_I_printActions_40 0 rfl rfl ?_
            refine z_iload_n C d_I_printActions_43 1 rfl ?_
            refine z_iload_n C d_I_printActions_44 2 rfl ?_
            refine z_calli (As := [.int (iI p), .int (iI k)]) (rest := [.ref aI]) (wr := [(aI, .inr (5, [.ref aP, .ref aN, .ref aU])), (aN, .inr (3, [.ref aNl, .ref aNn, .ref aNt])), bA G aNl 480 nl, iA G aNn 40 nn, (aP, .inr (0, [.ref aPb, .int (iI q1)])), bA G aPb 5632 E1]) (ws' := fun u => [(aI, .inr (5, [.ref aP, .ref aN, .ref aU])), (aN, .inr (3, [.ref aNl, .ref aNn, .ref aNt])), bA G aNl 480 nl, iA G aNn 40 nn, (aU, .inr (6, [.ref aUg, .ref aUd, .int (iI ur), .int (iI uv), .int (iI uf), .ref aN, .ref aUa])), iA G aUa 1536 ua, (aP, .inr (0, [.ref aPb, .int (iI q1)])), bA G aPb 5632 E1]) (q0 := 4) C k_I_102 kc_T_actionOf (fun l sz => m_T_actionOf l G sz aU aUg aUd aUa ur uv uf aN ua p k (by omega)) rfl rfl (Nat.le_of_ble_eq_true rfl) (by decide) d_I_printActions_45 rfl rfl [4, 5] [0, 1, 2, 3, 6, 7] [0, 1, 2, 3, 6, 7, 4, 5] rfl rfl (by decide) (fun u => rfl) (fun r u h45 => ?_)
            obtain rfl := h45
            show Zc G X 3 0 0 [(aI, .inr (5, [.ref aP, .ref aN, .ref aU])), (aN, .inr (3, [.ref aNl, .ref aNn, .ref aNt])), bA G aNl 480 nl, iA G aNn 40 nn, (aU, .inr (6, [.ref aUg, .ref aUd, .int (iI ur), .int (iI uv), .int (iI uf), .ref aN, .ref aUa])), iA G aUa 1536 ua, (aP, .inr (0, [.ref aPb, .int (iI q1)])), bA G aPb 5632 E1] [(0, .ref aI), (1, .int (iI p)), (2, .int (iI k))] 48 [.int (iI (aco ua p k)), .ref aI]
            refine z_callv (As := [.int (iI (aco ua p k))]) (rest := []) (wr := [(aU, .inr (6, [.ref aUg, .ref aUd, .int (iI ur), .int (iI uv), .int (iI uf), .ref aN, .ref aUa])), iA G aUa 1536 ua]) (ws' := fun u => [(aI, .inr (5, [.ref aP, .ref aN, .ref aU])), (aN, .inr (3, [.ref aNl, .ref aNn, .ref aNt])), bA G aNl 480 nl, iA G aNn 40 nn, (aU, .inr (6, [.ref aUg, .ref aUd, .int (iI ur), .int (iI uv), .int (iI uf), .ref aN, .ref aUa])), iA G aUa 1536 ua, (aP, .inr (0, [.ref aPb, .int (iI (q1 + ((acW (nmC nl nn) (aco ua p k)).length : Int)))])), bA G aPb 5632 (wr E1 q1 (acW (nmC nl nn) (aco ua p k)))]) (q0 := 0) C k_I_107 kc_I_printAction (fun l sz => m_I_printAction l G sz aI aP aN aU aPb q1 E1 aNl aNn aNt nl nn (aco ua p k) (hn) (by omega) (by have h9 := pg_fit hp1; omega)) rfl rfl (Nat.le_of_ble_eq_true rfl) (by decide) d_I_printActions_48 rfl rfl [0, 1, 2, 3, 6, 7] [4, 5] [2, 3, 4, 5, 0, 1, 6, 7] rfl rfl (by decide) (fun u => rfl) (fun u h48 => ?_)
            show Zc G X 3 0 0 [(aI, .inr (5, [.ref aP, .ref aN, .ref aU])), (aN, .inr (3, [.ref aNl, .ref aNn, .ref aNt])), bA G aNl 480 nl, iA G aNn 40 nn, (aU, .inr (6, [.ref aUg, .ref aUd, .int (iI ur), .int (iI uv), .int (iI uf), .ref aN, .ref aUa])), iA G aUa 1536 ua, (aP, .inr (0, [.ref aPb, .int (iI (q1 + ((acW (nmC nl nn) (aco ua p k)).length : Int)))])), bA G aPb 5632 (wr E1 q1 (acW (nmC nl nn) (aco ua p k)))] [(0, .ref aI), (1, .int (iI p)), (2, .int (iI k))] 51 []
            have hp2 : wr (wr E1 q1 (acW (nmC nl nn) (aco ua p k))) (q1 + ((acW (nmC nl nn) (aco ua p k)).length : Int)) (acL (nmC nl nn) ua p (4 - (k + 1)).toNat (k + 1)) = wr pF pl (acL (nmC nl nn) ua p 4 0) ∧ (q1 + ((acW (nmC nl nn) (aco ua p k)).length : Int)) + ((acL (nmC nl nn) ua p (4 - (k + 1)).toNat (k + 1)).length : Int) = pl + ((acL (nmC nl nn) ua p 4 0).length : Int) := pg_next hp1
            have hg2 : 0 ≤ q1 + ((acW (nmC nl nn) (aco ua p k)).length : Int) := by omega
            generalize wr E1 q1 (acW (nmC nl nn) (aco ua p k)) = E2 at hp2 ⊢
            generalize q1 + ((acW (nmC nl nn) (aco ua p k)).length : Int) = q2 at hp2 hg2 ⊢
            refine z_iinc (lv' := [(2, .int (iI (k + 1))), (0, .ref aI), (1, .int (iI p))]) C d_I_printActions_51 2 rfl (by decide) rfl ?_
            refine z_goto (tgt := 2) C d_I_printActions_54 (by decide) ?_
            refine z_lv [1, 2, 0] (lv' := [(0, .ref aI), (1, .int (iI p)), (2, .int (iI (k + 1)))]) rfl ?_
            exact ih2 _ _ _ (by omega) (hp2) (by omega)
          ·
            rw [if_pos (by omega)] at hE
            refine z_ldcS C d_I_printActions_28 (i := 1) rfl ?_
            refine z_goto (tgt := 35) C d_I_printActions_30 (by decide) ?_
            refine z_callv (As := [.ref (G.2.2.1 1)]) (rest := []) (wr := [(aI, .inr (5, [.ref aP, .ref aN, .ref aU])), (aN, .inr (3, [.ref aNl, .ref aNn, .ref aNt])), bA G aNl 480 nl, iA G aNn 40 nn, (aU, .inr (6, [.ref aUg, .ref aUd, .int (iI ur), .int (iI uv), .int (iI uf), .ref aN, .ref aUa])), iA G aUa 1536 ua]) (ws' := fun u => [(aI, .inr (5, [.ref aP, .ref aN, .ref aU])), (aN, .inr (3, [.ref aNl, .ref aNn, .ref aNt])), bA G aNl 480 nl, iA G aNn 40 nn, (aU, .inr (6, [.ref aUg, .ref aUd, .int (iI ur), .int (iI uv), .int (iI uf), .ref aN, .ref aUa])), iA G aUa 1536 ua, (aP, .inr (0, [.ref aPb, .int (iI (q + ((wl (", ")).length : Int)))])), bA G aPb 5632 (wr E q (wl (", ")))]) (q0 := 6) C k_I_58 kc_B_addText (fun l sz => m_B_addText l G sz aP aPb 5632 q E 1 R_I 80 (", ") (rfl) (by have h9 := pg_fit hE; omega)) rfl rfl (Nat.le_of_ble_eq_true rfl) (by decide) d_I_printActions_35 rfl rfl [6, 7] [0, 1, 2, 3, 4, 5] [0, 1, 2, 3, 4, 5, 6, 7] rfl rfl (by decide) (fun u => rfl) (fun u h35 => ?_)
            show Zc G X 3 0 0 [(aI, .inr (5, [.ref aP, .ref aN, .ref aU])), (aN, .inr (3, [.ref aNl, .ref aNn, .ref aNt])), bA G aNl 480 nl, iA G aNn 40 nn, (aU, .inr (6, [.ref aUg, .ref aUd, .int (iI ur), .int (iI uv), .int (iI uf), .ref aN, .ref aUa])), iA G aUa 1536 ua, (aP, .inr (0, [.ref aPb, .int (iI (q + ((wl (", ")).length : Int)))])), bA G aPb 5632 (wr E q (wl (", ")))] [(0, .ref aI), (1, .int (iI p)), (2, .int (iI k))] 38 []
            have hp1 : wr (wr E q (wl (", "))) (q + ((wl (", ")).length : Int)) (acW (nmC nl nn) (aco ua p k) ++ acL (nmC nl nn) ua p (4 - (k + 1)).toNat (k + 1)) = wr pF pl (acL (nmC nl nn) ua p 4 0) ∧ (q + ((wl (", ")).length : Int)) + ((acW (nmC nl nn) (aco ua p k) ++ acL (nmC nl nn) ua p (4 - (k + 1)).toNat (k + 1)).length : Int) = pl + ((acL (nmC nl nn) ua p 4 0).length : Int) := pg_next hE
            have hg1 : 0 ≤ q + ((wl (", ")).length : Int) := by omega
            generalize wr E q (wl (", ")) = E1 at hp1 ⊢
            generalize q + ((wl (", ")).length : Int) = q1 at hp1 hg1 ⊢
            refine z_aload_n C d_I_printActions_38 0 rfl ?_
            refine z_aload_n C d_I_printActions_39 0 rfl ?_
            refine z_get C f_I_19 d_I_printActions_40 0 rfl rfl ?_
            refine z_iload_n C d_I_printActions_43 1 rfl ?_
            refine z_iload_n C d_I_printActions_44 2 rfl ?_
            refine z_calli (As := [.int (iI p), .int (iI k)]) (rest := [.ref aI]) (wr := [(aI, .inr (5, [.ref aP, .ref aN, .ref aU])), (aN, .inr (3, [.ref aNl, .ref aNn, .ref aNt])), bA G aNl 480 nl, iA G aNn 40 nn, (aP, .inr (0, [.ref aPb, .int (iI q1)])), bA G aPb 5632 E1]) (ws' := fun u => [(aI, .inr (5, [.ref aP, .ref aN, .ref aU])), (aN, .inr (3, [.ref aNl, .ref aNn, .ref aNt])), bA G aNl 480 nl, iA G aNn 40 nn, (aU, .inr (6, [.ref aUg, .ref aUd, .int (iI ur), .int (iI uv), .int (iI uf), .ref aN, .ref aUa])), iA G aUa 1536 ua, (aP, .inr (0, [.ref aPb, .int (iI q1)])), bA G aPb 5632 E1]) (q0 := 4) C k_I_102 kc_T_actionOf (fun l sz => m_T_actionOf l G sz aU aUg aUd aUa ur uv uf aN ua p k (by omega)) rfl rfl (Nat.le_of_ble_eq_true rfl) (by decide) d_I_printActions_45 rfl rfl [4, 5] [0, 1, 2, 3, 6, 7] [0, 1, 2, 3, 6, 7, 4, 5] rfl rfl (by decide) (fun u => rfl) (fun r u h45 => ?_)
            obtain rfl := h45
            show Zc G X 3 0 0 [(aI, .inr (5, [.ref aP, .ref aN, .ref aU])), (aN, .inr (3, [.ref aNl, .ref aNn, .ref aNt])), bA G aNl 480 nl, iA G aNn 40 nn, (aU, .inr (6, [.ref aUg, .ref aUd, .int (iI ur), .int (iI uv), .int (iI uf), .ref aN, .ref aUa])), iA G aUa 1536 ua, (aP, .inr (0, [.ref aPb, .int (iI q1)])), bA G aPb 5632 E1] [(0, .ref aI), (1, .int (iI p)), (2, .int (iI k))] 48 [.int (iI (aco ua p k)), .ref aI]
            refine z_callv (As := [.int (iI (aco ua p k))]) (rest := []) (wr := [(aU, .inr (6, [.ref aUg, .ref aUd, .int (iI ur), .int (iI uv), .int (iI uf), .ref aN, .ref aUa])), iA G aUa 1536 ua]) (ws' := fun u => [(aI, .inr (5, [.ref aP, .ref aN, .ref aU])), (aN, .inr (3, [.ref aNl, .ref aNn, .ref aNt])), bA G aNl 480 nl, iA G aNn 40 nn, (aU, .inr (6, [.ref aUg, .ref aUd, .int (iI ur), .int (iI uv), .int (iI uf), .ref aN, .ref aUa])), iA G aUa 1536 ua, (aP, .inr (0, [.ref aPb, .int (iI (q1 + ((acW (nmC nl nn) (aco ua p k)).length : Int)))])), bA G aPb 5632 (wr E1 q1 (acW (nmC nl nn) (aco ua p k)))]) (q0 := 0) C k_I_107 kc_I_printAction (fun l sz => m_I_printAction l G sz aI aP aN aU aPb q1 E1 aNl aNn aNt nl nn (aco ua p k) (hn) (by omega) (by have h9 := pg_fit hp1; omega)) rfl rfl (Nat.le_of_ble_eq_true rfl) (by decide) d_I_printActions_48 rfl rfl [0, 1, 2, 3, 6, 7] [4, 5] [2, 3, 4, 5, 0, 1, 6, 7] rfl rfl (by decide) (fun u => rfl) (fun u h48 => ?_)
            show Zc G X 3 0 0 [(aI, .inr (5, [.ref aP, .ref aN, .ref aU])), (aN, .inr (3, [.ref aNl, .ref aNn, .ref aNt])), bA G aNl 480 nl, iA G aNn 40 nn, (aU, .inr (6, [.ref aUg, .ref aUd, .int (iI ur), .int (iI uv), .int (iI uf), .ref aN, .ref aUa])), iA G aUa 1536 ua, (aP, .inr (0, [.ref aPb, .int (iI (q1 + ((acW (nmC nl nn) (aco ua p k)).length : Int)))])), bA G aPb 5632 (wr E1 q1 (acW (nmC nl nn) (aco ua p k)))] [(0, .ref aI), (1, .int (iI p)), (2, .int (iI k))] 51 []
            have hp2 : wr (wr E1 q1 (acW (nmC nl nn) (aco ua p k))) (q1 + ((acW (nmC nl nn) (aco ua p k)).length : Int)) (acL (nmC nl nn) ua p (4 - (k + 1)).toNat (k + 1)) = wr pF pl (acL (nmC nl nn) ua p 4 0) ∧ (q1 + ((acW (nmC nl nn) (aco ua p k)).length : Int)) + ((acL (nmC nl nn) ua p (4 - (k + 1)).toNat (k + 1)).length : Int) = pl + ((acL (nmC nl nn) ua p 4 0).length : Int) := pg_next hp1
            have hg2 : 0 ≤ q1 + ((acW (nmC nl nn) (aco ua p k)).length : Int) := by omega
            generalize wr E1 q1 (acW (nmC nl nn) (aco ua p k)) = E2 at hp2 ⊢
            generalize q1 + ((acW (nmC nl nn) (aco ua p k)).length : Int) = q2 at hp2 hg2 ⊢
            refine z_iinc (lv' := [(2, .int (iI (k + 1))), (0, .ref aI), (1, .int (iI p))]) C d_I_printActions_51 2 rfl (by decide) rfl ?_
            refine z_goto (tgt := 2) C d_I_printActions_54 (by decide) ?_
            refine z_lv [1, 2, 0] (lv' := [(0, .ref aI), (1, .int (iI p)), (2, .int (iI (k + 1)))]) rfl ?_
            exact ih2 _ _ _ (by omega) (hp2) (by omega)
  refine z_lv [1, 2, 0] (lv' := [(0, .ref aI), (1, .int (iI p)), (2, .int (iI 0))]) rfl ?_
  exact loop2 (_ + 1) _ _ _ (by omega) (⟨rfl, rfl⟩) (Nat.lt_succ_self _)
set_option maxHeartbeats 4000000 in
set_option maxRecDepth 100000 in
theorem m_I_printNames (l : Launch) (G : GG) (sz : Nat) (aI : Nat) (aP : Nat) (aN : Nat) (aU : Nat) (aPb : Nat) (pl : Int) (pF : Nat → Int) (aNl : Nat) (aNn : Nat) (aNt : Nat) (nl : Nat → Int) (nn : Nat → Int) (si : Nat) (ow : String) (ix : Nat) (tx : String) (b : Int) (w : Int) (hq : sx_L[si]? = some (ow, ix, tx)) (hn : ∀ j, 0 ≤ nn j ∧ nn j ≤ 12) (h1 : 0 ≤ b ∧ 0 ≤ w ∧ b + w ≤ 40) (hpl : 0 ≤ pl ∧ pl + ((pnL (nmC nl nn) tx b w).length : Int) ≤ 5632) : MetV l G sz y_I_printNames c_I_printNames 5 ({ frames := 5, cells := 0, slots := 0, locals := 107 } : Room) [.ref aI, .ref (G.2.2.1 si), .int (iI b), .int (iI w)] [(aI, .inr (5, [.ref aP, .ref aN, .ref aU])), (aN, .inr (3, [.ref aNl, .ref aNn, .ref aNt])), bA G aNl 480 nl, iA G aNn 40 nn, (aP, .inr (0, [.ref aPb, .int (iI pl)])), bA G aPb 5632 pF] (fun (u : Unit) => True) (fun (u : Unit) => [(aI, .inr (5, [.ref aP, .ref aN, .ref aU])), (aN, .inr (3, [.ref aNl, .ref aNn, .ref aNt])), bA G aNl 480 nl, iA G aNn 40 nn, (aP, .inr (0, [.ref aPb, .int (iI (pl + ((pnL (nmC nl nn) tx b w).length : Int)))])), bA G aPb 5632 (wr pF pl (pnL (nmC nl nn) tx b w))]) := by
  refine MetV.mk (by decide) (Nat.le_of_ble_eq_true rfl) (fun X C K => ?_)
  show Zc G X 5 0 0 [(aI, .inr (5, [.ref aP, .ref aN, .ref aU])), (aN, .inr (3, [.ref aNl, .ref aNn, .ref aNt])), bA G aNl 480 nl, iA G aNn 40 nn, (aP, .inr (0, [.ref aPb, .int (iI pl)])), bA G aPb 5632 pF] [(0, .ref aI), (1, .ref (G.2.2.1 si)), (2, .int (iI b)), (3, .int (iI w))] 0 []
  refine z_iload_n C d_I_printNames_0 3 rfl ?_
  refine z_if_ne (tgt := 5) C d_I_printNames_1 (by decide) (by omega) (fun c1 => ?_) (fun c1 => ?_)
  ·
    have ea : pnL (nmC nl nn) tx b w = wl tx ++ (jnL (nmC nl nn) b w.toNat 0 ++ [59, 10]) := if_neg c1
    have hp0 : wr pF pl (wl tx ++ (jnL (nmC nl nn) b w.toNat 0 ++ [59, 10])) = wr pF pl (pnL (nmC nl nn) tx b w) ∧ pl + ((wl tx ++ (jnL (nmC nl nn) b w.toNat 0 ++ [59, 10])).length : Int) = pl + ((pnL (nmC nl nn) tx b w).length : Int) := by rw [ea]; exact ⟨rfl, rfl⟩
    refine z_aload_n C d_I_printNames_5 0 rfl ?_
    refine z_get C f_I_9 d_I_printNames_6 0 rfl rfl ?_
    refine z_aload_n C d_I_printNames_9 1 rfl ?_
    refine z_callv (As := [.ref (G.2.2.1 si)]) (rest := []) (wr := [(aI, .inr (5, [.ref aP, .ref aN, .ref aU])), (aN, .inr (3, [.ref aNl, .ref aNn, .ref aNt])), bA G aNl 480 nl, iA G aNn 40 nn]) (ws' := fun u => [(aI, .inr (5, [.ref aP, .ref aN, .ref aU])), (aN, .inr (3, [.ref aNl, .ref aNn, .ref aNt])), bA G aNl 480 nl, iA G aNn 40 nn, (aP, .inr (0, [.ref aPb, .int (iI (pl + ((wl tx).length : Int)))])), bA G aPb 5632 (wr pF pl (wl tx))]) (q0 := 4) C k_I_58 kc_B_addText (fun l sz => m_B_addText l G sz aP aPb 5632 pl pF si ow ix tx (hq) (by have h9 := pg_fit hp0; omega)) rfl rfl (Nat.le_of_ble_eq_true rfl) (by decide) d_I_printNames_10 rfl rfl [4, 5] [0, 1, 2, 3] [0, 1, 2, 3, 4, 5] rfl rfl (by decide) (fun u => rfl) (fun u h10 => ?_)
    show Zc G X 5 0 0 [(aI, .inr (5, [.ref aP, .ref aN, .ref aU])), (aN, .inr (3, [.ref aNl, .ref aNn, .ref aNt])), bA G aNl 480 nl, iA G aNn 40 nn, (aP, .inr (0, [.ref aPb, .int (iI (pl + ((wl tx).length : Int)))])), bA G aPb 5632 (wr pF pl (wl tx))] [(0, .ref aI), (1, .ref (G.2.2.1 si)), (2, .int (iI b)), (3, .int (iI w))] 13 []
    have hp1 : wr (wr pF pl (wl tx)) (pl + ((wl tx).length : Int)) (jnL (nmC nl nn) b w.toNat 0 ++ [59, 10]) = wr pF pl (pnL (nmC nl nn) tx b w) ∧ (pl + ((wl tx).length : Int)) + ((jnL (nmC nl nn) b w.toNat 0 ++ [59, 10]).length : Int) = pl + ((pnL (nmC nl nn) tx b w).length : Int) := pg_next hp0
    have hg1 : 0 ≤ pl + ((wl tx).length : Int) := by omega
    generalize wr pF pl (wl tx) = E1 at hp1 ⊢
    generalize pl + ((wl tx).length : Int) = q1 at hp1 hg1 ⊢
    refine z_iconst C d_I_printNames_13 ?_
    refine z_istore (lv' := [(4, .int (iI 0)), (0, .ref aI), (1, .ref (G.2.2.1 si)), (2, .int (iI b)), (3, .int (iI w))]) C d_I_printNames_14 (by decide) rfl ?_
    have loop16 : ∀ (kq : Nat) (k : Int) (q : Int) (E : Nat → Int), (0 ≤ k ∧ k ≤ w ∧ 0 ≤ q) → (wr E q (jnL (nmC nl nn) b (w - k).toNat k ++ [59, 10]) = wr pF pl (pnL (nmC nl nn) tx b w) ∧ q + ((jnL (nmC nl nn) b (w - k).toNat k ++ [59, 10]).length : Int) = pl + ((pnL (nmC nl nn) tx b w).length : Int)) → ((w - k).toNat < kq) → Zc G X 5 0 0 [(aI, .inr (5, [.ref aP, .ref aN, .ref aU])), (aN, .inr (3, [.ref aNl, .ref aNn, .ref aNt])), bA G aNl 480 nl, iA G aNn 40 nn, (aP, .inr (0, [.ref aPb, .int (iI q)])), bA G aPb 5632 E] [(0, .ref aI), (1, .ref (G.2.2.1 si)), (2, .int (iI b)), (3, .int (iI w)), (4, .int (iI k))] 16 [] := by
      intro kq
      induction kq with
      | zero => intro k q E hk hE hm; exact absurd hm (Nat.not_lt_zero _)
      | succ kq ih16 =>
        intro k q E hk hE hm
        -- loop body
        refine z_iload C d_I_printNames_16 4 rfl ?_
        refine z_iload_n C d_I_printNames_18 3 rfl ?_
        refine z_icmp_ge (tgt := 57) C d_I_printNames_19 (by decide) (by omega) (by omega) (fun c19 => ?_) (fun c19 => ?_)
        ·
          rw [show (w - k).toNat = 0 by omega] at hE
          have hp4 : wr E q ([59, 10] ++ []) = wr pF pl (pnL (nmC nl nn) tx b w) ∧ q + ((([59, 10] : List Int) ++ []).length : Int) = pl + ((pnL (nmC nl nn) tx b w).length : Int) := hE
          refine z_aload_n C d_I_printNames_57 0 rfl ?_
          refine z_callv (As := []) (rest := []) (wr := [(aN, .inr (3, [.ref aNl, .ref aNn, .ref aNt])), bA G aNl 480 nl, iA G aNn 40 nn]) (ws' := fun u => [(aI, .inr (5, [.ref aP, .ref aN, .ref aU])), (aN, .inr (3, [.ref aNl, .ref aNn, .ref aNt])), bA G aNl 480 nl, iA G aNn 40 nn, (aP, .inr (0, [.ref aPb, .int (iI (q + 2))])), bA G aPb 5632 (wr E q [59, 10])]) (q0 := 0) C k_I_66 kc_I_endLine (fun l sz => m_I_endLine l G sz aI aP aN aU aPb q E (by have h9 := pg_fit2 hp4; omega)) rfl rfl (Nat.le_of_ble_eq_true rfl) (by decide) d_I_printNames_58 rfl rfl [0, 4, 5] [1, 2, 3] [3, 0, 1, 2, 4, 5] rfl rfl (by decide) (fun u => rfl) (fun u h58 => ?_)
          show Zc G X 5 0 0 [(aI, .inr (5, [.ref aP, .ref aN, .ref aU])), (aN, .inr (3, [.ref aNl, .ref aNn, .ref aNt])), bA G aNl 480 nl, iA G aNn 40 nn, (aP, .inr (0, [.ref aPb, .int (iI (q + 2))])), bA G aPb 5632 (wr E q [59, 10])] [(0, .ref aI), (1, .ref (G.2.2.1 si)), (2, .int (iI b)), (3, .int (iI w)), (4, .int (iI k))] 61 []
          have hp5 : wr (wr E q [59, 10]) (q + 2) ([]) = wr pF pl (pnL (nmC nl nn) tx b w) ∧ (q + 2) + (([]).length : Int) = pl + ((pnL (nmC nl nn) tx b w).length : Int) := pg_next hp4
          have hg5 : 0 ≤ q + 2 := by omega
          generalize wr E q [59, 10] = E5 at hp5 ⊢
          generalize q + 2 = q5 at hp5 hg5 ⊢
          exact z_vret C K d_I_printNames_61 () (by rw [(pg_end hp5).1, (pg_end hp5).2]) (trivial)
        ·
          rw [jnL_step (nmC nl nn) b (by omega), List.append_assoc, List.append_assoc] at hE
          refine z_iload C d_I_printNames_22 4 rfl ?_
          refine z_if_le (tgt := 36) C d_I_printNames_24 (by decide) (by omega) (fun c24 => ?_) (fun c24 => ?_)
          ·
            rw [if_neg (by omega), List.nil_append] at hE
            have hp2 := hE
            refine z_aload_n C d_I_printNames_36 0 rfl ?_
            refine z_get C f_I_15 d_I_printNames_37 0 rfl rfl ?_
            refine z_iload_n C d_I_printNames_40 2 rfl ?_
            refine z_iload C d_I_printNames_41 4 rfl ?_
            refine z_iadd C d_I_printNames_43 ?_
            refine z_aload_n C d_I_printNames_44 0 rfl ?_
            refine z_get C f_I_9 d_I_printNames_45 0 rfl rfl ?_
            refine z_callv (As := [.int (iI (b + k)), .ref aP]) (rest := []) (wr := [(aI, .inr (5, [.ref aP, .ref aN, .ref aU]))]) (ws' := fun u => [(aI, .inr (5, [.ref aP, .ref aN, .ref aU])), (aN, .inr (3, [.ref aNl, .ref aNn, .ref aNt])), bA G aNl 480 nl, iA G aNn 40 nn, (aP, .inr (0, [.ref aPb, .int (iI (q + ((nmC nl nn (b + k)).length : Int)))])), bA G aPb 5632 (wr E q (nmC nl nn (b + k)))]) (q0 := 1) C k_I_62 kc_N_write (fun l sz => m_N_write l G sz aN aNl aNn aNt nl nn aP aPb q E (b + k) (by have h9 := pg_fit hp2; have h8 := hn (b + k).toNat; omega)) rfl rfl (Nat.le_of_ble_eq_true rfl) (by decide) d_I_printNames_48 rfl rfl [1, 2, 3, 4, 5] [0] [0, 1, 2, 3, 4, 5] rfl rfl (by decide) (fun u => rfl) (fun u h48 => ?_)
            show Zc G X 5 0 0 [(aI, .inr (5, [.ref aP, .ref aN, .ref aU])), (aN, .inr (3, [.ref aNl, .ref aNn, .ref aNt])), bA G aNl 480 nl, iA G aNn 40 nn, (aP, .inr (0, [.ref aPb, .int (iI (q + ((nmC nl nn (b + k)).length : Int)))])), bA G aPb 5632 (wr E q (nmC nl nn (b + k)))] [(0, .ref aI), (1, .ref (G.2.2.1 si)), (2, .int (iI b)), (3, .int (iI w)), (4, .int (iI k))] 51 []
            have hp3 : wr (wr E q (nmC nl nn (b + k))) (q + ((nmC nl nn (b + k)).length : Int)) (jnL (nmC nl nn) b (w - (k + 1)).toNat (k + 1) ++ [59, 10]) = wr pF pl (pnL (nmC nl nn) tx b w) ∧ (q + ((nmC nl nn (b + k)).length : Int)) + ((jnL (nmC nl nn) b (w - (k + 1)).toNat (k + 1) ++ [59, 10]).length : Int) = pl + ((pnL (nmC nl nn) tx b w).length : Int) := pg_next hp2
            have hg3 : 0 ≤ q + ((nmC nl nn (b + k)).length : Int) := by omega
            generalize wr E q (nmC nl nn (b + k)) = E3 at hp3 ⊢
            generalize q + ((nmC nl nn (b + k)).length : Int) = q3 at hp3 hg3 ⊢
            refine z_iinc (lv' := [(4, .int (iI (k + 1))), (0, .ref aI), (1, .ref (G.2.2.1 si)), (2, .int (iI b)), (3, .int (iI w))]) C d_I_printNames_51 4 rfl (by decide) rfl ?_
            refine z_goto (tgt := 16) C d_I_printNames_54 (by decide) ?_
            refine z_lv [1, 2, 3, 4, 0] (lv' := [(0, .ref aI), (1, .ref (G.2.2.1 si)), (2, .int (iI b)), (3, .int (iI w)), (4, .int (iI (k + 1)))]) rfl ?_
            exact ih16 _ _ _ (by omega) (hp3) (by omega)
          ·
            rw [if_pos (by omega)] at hE
            refine z_aload_n C d_I_printNames_27 0 rfl ?_
            refine z_get C f_I_9 d_I_printNames_28 0 rfl rfl ?_
            refine z_ldcS C d_I_printNames_31 (i := 1) rfl ?_
            refine z_callv (As := [.ref (G.2.2.1 1)]) (rest := []) (wr := [(aI, .inr (5, [.ref aP, .ref aN, .ref aU])), (aN, .inr (3, [.ref aNl, .ref aNn, .ref aNt])), bA G aNl 480 nl, iA G aNn 40 nn]) (ws' := fun u => [(aI, .inr (5, [.ref aP, .ref aN, .ref aU])), (aN, .inr (3, [.ref aNl, .ref aNn, .ref aNt])), bA G aNl 480 nl, iA G aNn 40 nn, (aP, .inr (0, [.ref aPb, .int (iI (q + ((wl (", ")).length : Int)))])), bA G aPb 5632 (wr E q (wl (", ")))]) (q0 := 4) C k_I_58 kc_B_addText (fun l sz => m_B_addText l G sz aP aPb 5632 q E 1 R_I 80 (", ") (rfl) (by have h9 := pg_fit hE; omega)) rfl rfl (Nat.le_of_ble_eq_true rfl) (by decide) d_I_printNames_33 rfl rfl [4, 5] [0, 1, 2, 3] [0, 1, 2, 3, 4, 5] rfl rfl (by decide) (fun u => rfl) (fun u h33 => ?_)
            show Zc G X 5 0 0 [(aI, .inr (5, [.ref aP, .ref aN, .ref aU])), (aN, .inr (3, [.ref aNl, .ref aNn, .ref aNt])), bA G aNl 480 nl, iA G aNn 40 nn, (aP, .inr (0, [.ref aPb, .int (iI (q + ((wl (", ")).length : Int)))])), bA G aPb 5632 (wr E q (wl (", ")))] [(0, .ref aI), (1, .ref (G.2.2.1 si)), (2, .int (iI b)), (3, .int (iI w)), (4, .int (iI k))] 36 []
            have hp2 : wr (wr E q (wl (", "))) (q + ((wl (", ")).length : Int)) (nmC nl nn (b + k) ++ (jnL (nmC nl nn) b (w - (k + 1)).toNat (k + 1) ++ [59, 10])) = wr pF pl (pnL (nmC nl nn) tx b w) ∧ (q + ((wl (", ")).length : Int)) + ((nmC nl nn (b + k) ++ (jnL (nmC nl nn) b (w - (k + 1)).toNat (k + 1) ++ [59, 10])).length : Int) = pl + ((pnL (nmC nl nn) tx b w).length : Int) := pg_next hE
            have hg2 : 0 ≤ q + ((wl (", ")).length : Int) := by omega
            generalize wr E q (wl (", ")) = E2 at hp2 ⊢
            generalize q + ((wl (", ")).length : Int) = q2 at hp2 hg2 ⊢
            refine z_aload_n C d_I_printNames_36 0 rfl ?_
            refine z_get C f_I_15 d_I_printNames_37 0 rfl rfl ?_
            refine z_iload_n C d_I_printNames_40 2 rfl ?_
            refine z_iload C d_I_printNames_41 4 rfl ?_
            refine z_iadd C d_I_printNames_43 ?_
            refine z_aload_n C d_I_printNames_44 0 rfl ?_
            refine z_get C f_I_9 d_I_printNames_45 0 rfl rfl ?_
            refine z_callv (As := [.int (iI (b + k)), .ref aP]) (rest := []) (wr := [(aI, .inr (5, [.ref aP, .ref aN, .ref aU]))]) (ws' := fun u => [(aI, .inr (5, [.ref aP, .ref aN, .ref aU])), (aN, .inr (3, [.ref aNl, .ref aNn, .ref aNt])), bA G aNl 480 nl, iA G aNn 40 nn, (aP, .inr (0, [.ref aPb, .int (iI (q2 + ((nmC nl nn (b + k)).length : Int)))])), bA G aPb 5632 (wr E2 q2 (nmC nl nn (b + k)))]) (q0 := 1) C k_I_62 kc_N_write (fun l sz => m_N_write l G sz aN aNl aNn aNt nl nn aP aPb q2 E2 (b + k) (by have h9 := pg_fit hp2; have h8 := hn (b + k).toNat; omega)) rfl rfl (Nat.le_of_ble_eq_true rfl) (by decide) d_I_printNames_48 rfl rfl [1, 2, 3, 4, 5] [0] [0, 1, 2, 3, 4, 5] rfl rfl (by decide) (fun u => rfl) (fun u h48 => ?_)
            show Zc G X 5 0 0 [(aI, .inr (5, [.ref aP, .ref aN, .ref aU])), (aN, .inr (3, [.ref aNl, .ref aNn, .ref aNt])), bA G aNl 480 nl, iA G aNn 40 nn, (aP, .inr (0, [.ref aPb, .int (iI (q2 + ((nmC nl nn (b + k)).length : Int)))])), bA G aPb 5632 (wr E2 q2 (nmC nl nn (b + k)))] [(0, .ref aI), (1, .ref (G.2.2.1 si)), (2, .int (iI b)), (3, .int (iI w)), (4, .int (iI k))] 51 []
            have hp3 : wr (wr E2 q2 (nmC nl nn (b + k))) (q2 + ((nmC nl nn (b + k)).length : Int)) (jnL (nmC nl nn) b (w - (k + 1)).toNat (k + 1) ++ [59, 10]) = wr pF pl (pnL (nmC nl nn) tx b w) ∧ (q2 + ((nmC nl nn (b + k)).length : Int)) + ((jnL (nmC nl nn) b (w - (k + 1)).toNat (k + 1) ++ [59, 10]).length : Int) = pl + ((pnL (nmC nl nn) tx b w).length : Int) := pg_next hp2
            have hg3 : 0 ≤ q2 + ((nmC nl nn (b + k)).length : Int) := by omega
            generalize wr E2 q2 (nmC nl nn (b + k)) = E3 at hp3 ⊢
            generalize q2 + ((nmC nl nn (b + k)).length : Int) = q3 at hp3 hg3 ⊢
            refine z_iinc (lv' := [(4, .int (iI (k + 1))), (0, .ref aI), (1, .ref (G.2.2.1 si)), (2, .int (iI b)), (3, .int (iI w))]) C d_I_printNames_51 4 rfl (by decide) rfl ?_
            refine z_goto (tgt := 16) C d_I_printNames_54 (by decide) ?_
            refine z_lv [1, 2, 3, 4, 0] (lv' := [(0, .ref aI), (1, .ref (G.2.2.1 si)), (2, .int (iI b)), (3, .int (iI w)), (4, .int (iI (k + 1)))]) rfl ?_
            exact ih16 _ _ _ (by omega) (hp3) (by omega)
    refine z_lv [1, 2, 3, 4, 0] (lv' := [(0, .ref aI), (1, .ref (G.2.2.1 si)), (2, .int (iI b)), (3, .int (iI w)), (4, .int (iI 0))]) rfl ?_
    exact loop16 (_ + 1) _ _ _ (by omega) (by rw [Int.sub_zero]; exact hp1) (Nat.lt_succ_self _)
  ·
    have ea : pnL (nmC nl nn) tx b w = [] := if_pos (by omega)
    exact z_vret C K d_I_printNames_4 () (by rw [ea, show pl + (([] : List Int).length : Int) = pl by simp]; rfl) (trivial)
set_option maxHeartbeats 4000000 in
set_option maxRecDepth 100000 in
theorem m_I_printPair (l : Launch) (G : GG) (sz : Nat) (aI : Nat) (aP : Nat) (aN : Nat) (aU : Nat) (aPb : Nat) (pl : Int) (pF : Nat → Int) (aNl : Nat) (aNn : Nat) (aNt : Nat) (nl : Nat → Int) (nn : Nat → Int) (nt : Nat → Int) (aUg : Nat) (aUd : Nat) (aUa : Nat) (ur : Int) (uv : Int) (uf : Int) (ug : Nat → Int) (ua : Nat → Int) (s : Int) (e : Int) (hn : ∀ j, 0 ≤ nn j ∧ nn j ≤ 12) (hct : cnt nt) (hg : gol ug) (ha : act ua) (hmc : ∀ p j : Int, aco ua p j ≤ 15 ∨ aco ua p j = 100 ∨ aco ua p j = 101) (h1 : 0 ≤ s ∧ s < nt 0 ∧ 0 ≤ e ∧ e < nt 1 + nt 2) (hpl : 0 ≤ pl ∧ pl + ((prL (nmC nl nn) nt ug ua s e).length : Int) ≤ 5632) : MetV l G sz y_I_printPair c_I_printPair 5 ({ frames := 7, cells := 0, slots := 0, locals := 150 } : Room) [.ref aI, .int (iI s), .int (iI e)] [(aI, .inr (5, [.ref aP, .ref aN, .ref aU])), (aN, .inr (3, [.ref aNl, .ref aNn, .ref aNt])), bA G aNl 480 nl, iA G aNn 40 nn, iA G aNt 3 nt, (aU, .inr (6, [.ref aUg, .ref aUd, .int (iI ur), .int (iI uv), .int (iI uf), .ref aN, .ref aUa])), iA G aUg 384 ug, iA G aUa 1536 ua, (aP, .inr (0, [.ref aPb, .int (iI pl)])), bA G aPb 5632 pF] (fun (u : Unit) => True) (fun (u : Unit) => [(aI, .inr (5, [.ref aP, .ref aN, .ref aU])), (aN, .inr (3, [.ref aNl, .ref aNn, .ref aNt])), bA G aNl 480 nl, iA G aNn 40 nn, iA G aNt 3 nt, (aU, .inr (6, [.ref aUg, .ref aUd, .int (iI ur), .int (iI uv), .int (iI uf), .ref aN, .ref aUa])), iA G aUg 384 ug, iA G aUa 1536 ua, (aP, .inr (0, [.ref aPb, .int (iI (pl + ((prL (nmC nl nn) nt ug ua s e).length : Int)))])), bA G aPb 5632 (wr pF pl (prL (nmC nl nn) nt ug ua s e))]) := by
  refine MetV.mk (by decide) (Nat.le_of_ble_eq_true rfl) (fun X C K => ?_)
  show Zc G X 5 0 0 [(aI, .inr (5, [.ref aP, .ref aN, .ref aU])), (aN, .inr (3, [.ref aNl, .ref aNn, .ref aNt])), bA G aNl 480 nl, iA G aNn 40 nn, iA G aNt 3 nt, (aU, .inr (6, [.ref aUg, .ref aUd, .int (iI ur), .int (iI uv), .int (iI uf), .ref aN, .ref aUa])), iA G aUg 384 ug, iA G aUa 1536 ua, (aP, .inr (0, [.ref aPb, .int (iI pl)])), bA G aPb 5632 pF] [(0, .ref aI), (1, .int (iI s)), (2, .int (iI e))] 0 []
  have hcc := hct
  unfold cnt at hcc
  refine z_aload_n C d_I_printPair_0 0 rfl ?_
  refine z_get C f_I_19 d_I_printPair_1 0 rfl rfl ?_
  refine z_iload_n C d_I_printPair_4 1 rfl ?_
  refine z_iload_n C d_I_printPair_5 2 rfl ?_
  refine z_calli (As := [.int (iI s), .int (iI e)]) (rest := []) (wr := [(aI, .inr (5, [.ref aP, .ref aN, .ref aU])), bA G aNl 480 nl, iA G aNn 40 nn, iA G aUg 384 ug, iA G aUa 1536 ua, (aP, .inr (0, [.ref aPb, .int (iI pl)])), bA G aPb 5632 pF]) (ws' := fun u => [(aI, .inr (5, [.ref aP, .ref aN, .ref aU])), (aN, .inr (3, [.ref aNl, .ref aNn, .ref aNt])), bA G aNl 480 nl, iA G aNn 40 nn, iA G aNt 3 nt, (aU, .inr (6, [.ref aUg, .ref aUd, .int (iI ur), .int (iI uv), .int (iI uf), .ref aN, .ref aUa])), iA G aUg 384 ug, iA G aUa 1536 ua, (aP, .inr (0, [.ref aPb, .int (iI pl)])), bA G aPb 5632 pF]) (q0 := 5) C k_I_82 kc_T_pairOf (fun l sz => m_T_pairOf l G sz aU aUg aUd aUa ur uv uf aN aNl aNn aNt nt s e (hct) (by unfold cnt at hct; omega)) rfl rfl (Nat.le_of_ble_eq_true rfl) (by decide) d_I_printPair_6 rfl rfl [5, 1, 4] [0, 2, 3, 6, 7, 8, 9] [0, 8, 1, 2, 9, 7, 3, 4, 5, 6] rfl rfl (by decide) (fun u => rfl) (fun r u h6 => ?_)
  obtain rfl := h6
  show Zc G X 5 0 0 [(aI, .inr (5, [.ref aP, .ref aN, .ref aU])), (aN, .inr (3, [.ref aNl, .ref aNn, .ref aNt])), bA G aNl 480 nl, iA G aNn 40 nn, iA G aNt 3 nt, (aU, .inr (6, [.ref aUg, .ref aUd, .int (iI ur), .int (iI uv), .int (iI uf), .ref aN, .ref aUa])), iA G aUg 384 ug, iA G aUa 1536 ua, (aP, .inr (0, [.ref aPb, .int (iI pl)])), bA G aPb 5632 pF] [(0, .ref aI), (1, .int (iI s)), (2, .int (iI e))] 9 [.int (iI (prf nt s e))]
  refine z_istore_n (lv' := [(3, .int (iI (prf nt s e))), (0, .ref aI), (1, .int (iI s)), (2, .int (iI e))]) C d_I_printPair_9 (by decide) rfl ?_
  have hgg := hg (prf nt s e).toNat
  have hpr := prf_rg hct h1
  refine z_aload_n C d_I_printPair_10 1 rfl ?_
  refine z_get C f_I_19 d_I_printPair_11 0 rfl rfl ?_
  refine z_iload_n C d_I_printPair_14 2 rfl ?_
  refine z_iload_n C d_I_printPair_15 3 rfl ?_
  refine z_calli (As := [.int (iI s), .int (iI e)]) (rest := []) (wr := [(aI, .inr (5, [.ref aP, .ref aN, .ref aU])), bA G aNl 480 nl, iA G aNn 40 nn, iA G aUa 1536 ua, (aP, .inr (0, [.ref aPb, .int (iI pl)])), bA G aPb 5632 pF]) (ws' := fun u => [(aI, .inr (5, [.ref aP, .ref aN, .ref aU])), (aN, .inr (3, [.ref aNl, .ref aNn, .ref aNt])), bA G aNl 480 nl, iA G aNn 40 nn, iA G aNt 3 nt, (aU, .inr (6, [.ref aUg, .ref aUd, .int (iI ur), .int (iI uv), .int (iI uf), .ref aN, .ref aUa])), iA G aUg 384 ug, iA G aUa 1536 ua, (aP, .inr (0, [.ref aPb, .int (iI pl)])), bA G aPb 5632 pF]) (q0 := 5) C k_I_86 kc_T_goalOf (fun l sz => m_T_goalOf l G sz aU aUg aUd aUa ur uv uf aN aNl aNn aNt nt ug s e (hct) (h1)) rfl rfl (Nat.le_of_ble_eq_true rfl) (by decide) d_I_printPair_16 rfl rfl [5, 1, 4, 6] [0, 2, 3, 7, 8, 9] [0, 7, 1, 2, 8, 6, 9, 3, 4, 5] rfl rfl (by decide) (fun u => rfl) (fun r u h16 => ?_)
  obtain rfl := h16
  show Zc G X 5 0 0 [(aI, .inr (5, [.ref aP, .ref aN, .ref aU])), (aN, .inr (3, [.ref aNl, .ref aNn, .ref aNt])), bA G aNl 480 nl, iA G aNn 40 nn, iA G aNt 3 nt, (aU, .inr (6, [.ref aUg, .ref aUd, .int (iI ur), .int (iI uv), .int (iI uf), .ref aN, .ref aUa])), iA G aUg 384 ug, iA G aUa 1536 ua, (aP, .inr (0, [.ref aPb, .int (iI pl)])), bA G aPb 5632 pF] [(3, .int (iI (prf nt s e))), (0, .ref aI), (1, .int (iI s)), (2, .int (iI e))] 19 [.int (iI (ug (prf nt s e).toNat))]
  refine z_istore (lv' := [(4, .int (iI (ug (prf nt s e).toNat))), (3, .int (iI (prf nt s e))), (0, .ref aI), (1, .int (iI s)), (2, .int (iI e))]) C d_I_printPair_19 (by decide) rfl ?_
  refine z_iload_n C d_I_printPair_21 1 rfl ?_
  refine z_iconst C d_I_printPair_22 ?_
  refine z_icmp_eq (tgt := 32) C d_I_printPair_23 (by decide) (by omega) (by omega) (fun c23 => ?_) (fun c23 => ?_)
  · exact absurd c23 (by omega)
  ·
    refine z_iload C d_I_printPair_26 0 rfl ?_
    refine z_iconst C d_I_printPair_28 ?_
    refine z_icmp_ne (tgt := 33) C d_I_printPair_29 (by decide) (by omega) (by omega) (fun c29 => ?_) (fun c29 => ?_)
    ·
      have hev := evs_rg hct ⟨h1.2.2.1, h1.2.2.2⟩
      refine z_aload_n C d_I_printPair_33 2 rfl ?_
      refine z_get C f_I_9 d_I_printPair_34 0 rfl rfl ?_
      refine z_iload C d_I_printPair_37 0 rfl ?_
      refine z_bipush C d_I_printPair_39 (by decide) ?_
      refine z_icmp_ne (tgt := 49) C d_I_printPair_41 (by decide) (by omega) (by omega) (fun c41 => ?_) (fun c41 => ?_)
      ·
        have ea : prL (nmC nl nn) nt ug ua s e = wl "on " ++ (nmC nl nn s ++ ([32] ++ (nmC nl nn (evs (nt 1) e) ++ ([58] ++ (acL (nmC nl nn) ua (prf nt s e) 4 0 ++ (wl " > " ++ (nmC nl nn (ug (prf nt s e).toNat) ++ [59, 10]))))))) := by unfold prL; rw [if_neg (by omega), if_neg (by omega)]
        have hp0 : wr pF pl (wl "on " ++ (nmC nl nn s ++ ([32] ++ (nmC nl nn (evs (nt 1) e) ++ ([58] ++ (acL (nmC nl nn) ua (prf nt s e) 4 0 ++ (wl " > " ++ (nmC nl nn (ug (prf nt s e).toNat) ++ [59, 10])))))))) = wr pF pl (prL (nmC nl nn) nt ug ua s e) ∧ pl + ((wl "on " ++ (nmC nl nn s ++ ([32] ++ (nmC nl nn (evs (nt 1) e) ++ ([58] ++ (acL (nmC nl nn) ua (prf nt s e) 4 0 ++ (wl " > " ++ (nmC nl nn (ug (prf nt s e).toNat) ++ [59, 10])))))))).length : Int) = pl + ((prL (nmC nl nn) nt ug ua s e).length : Int) := by rw [ea]; exact ⟨rfl, rfl⟩
        refine z_ldcS C d_I_printPair_49 (i := 6) rfl ?_
        refine z_callv (As := [.ref (G.2.2.1 6)]) (rest := []) (wr := [(aI, .inr (5, [.ref aP, .ref aN, .ref aU])), (aN, .inr (3, [.ref aNl, .ref aNn, .ref aNt])), bA G aNl 480 nl, iA G aNn 40 nn, iA G aNt 3 nt, (aU, .inr (6, [.ref aUg, .ref aUd, .int (iI ur), .int (iI uv), .int (iI uf), .ref aN, .ref aUa])), iA G aUg 384 ug, iA G aUa 1536 ua]) (ws' := fun u => [(aI, .inr (5, [.ref aP, .ref aN, .ref aU])), (aN, .inr (3, [.ref aNl, .ref aNn, .ref aNt])), bA G aNl 480 nl, iA G aNn 40 nn, iA G aNt 3 nt, (aU, .inr (6, [.ref aUg, .ref aUd, .int (iI ur), .int (iI uv), .int (iI uf), .ref aN, .ref aUa])), iA G aUg 384 ug, iA G aUa 1536 ua, (aP, .inr (0, [.ref aPb, .int (iI (pl + ((wl ("on ")).length : Int)))])), bA G aPb 5632 (wr pF pl (wl ("on ")))]) (q0 := 8) C k_I_58 kc_B_addText (fun l sz => m_B_addText l G sz aP aPb 5632 pl pF 6 R_I 91 ("on ") (rfl) (by have h9 := pg_fit hp0; omega)) rfl rfl (Nat.le_of_ble_eq_true rfl) (by decide) d_I_printPair_51 rfl rfl [8, 9] [0, 1, 2, 3, 4, 5, 6, 7] [0, 1, 2, 3, 4, 5, 6, 7, 8, 9] rfl rfl (by decide) (fun u => rfl) (fun u h51 => ?_)
        show Zc G X 5 0 0 [(aI, .inr (5, [.ref aP, .ref aN, .ref aU])), (aN, .inr (3, [.ref aNl, .ref aNn, .ref aNt])), bA G aNl 480 nl, iA G aNn 40 nn, iA G aNt 3 nt, (aU, .inr (6, [.ref aUg, .ref aUd, .int (iI ur), .int (iI uv), .int (iI uf), .ref aN, .ref aUa])), iA G aUg 384 ug, iA G aUa 1536 ua, (aP, .inr (0, [.ref aPb, .int (iI (pl + ((wl ("on ")).length : Int)))])), bA G aPb 5632 (wr pF pl (wl ("on ")))] [(4, .int (iI (ug (prf nt s e).toNat))), (3, .int (iI (prf nt s e))), (0, .ref aI), (1, .int (iI s)), (2, .int (iI e))] 54 []
        have hp1 : wr (wr pF pl (wl ("on "))) (pl + ((wl ("on ")).length : Int)) (nmC nl nn s ++ ([32] ++ (nmC nl nn (evs (nt 1) e) ++ ([58] ++ (acL (nmC nl nn) ua (prf nt s e) 4 0 ++ (wl " > " ++ (nmC nl nn (ug (prf nt s e).toNat) ++ [59, 10]))))))) = wr pF pl (prL (nmC nl nn) nt ug ua s e) ∧ (pl + ((wl ("on ")).length : Int)) + ((nmC nl nn s ++ ([32] ++ (nmC nl nn (evs (nt 1) e) ++ ([58] ++ (acL (nmC nl nn) ua (prf nt s e) 4 0 ++ (wl " > " ++ (nmC nl nn (ug (prf nt s e).toNat) ++ [59, 10]))))))).length : Int) = pl + ((prL (nmC nl nn) nt ug ua s e).length : Int) := pg_next hp0
        have hg1 : 0 ≤ pl + ((wl ("on ")).length : Int) := by omega
        generalize wr pF pl (wl ("on ")) = E1 at hp1 ⊢
        generalize pl + ((wl ("on ")).length : Int) = q1 at hp1 hg1 ⊢
        refine z_aload_n C d_I_printPair_54 2 rfl ?_
        refine z_get C f_I_15 d_I_printPair_55 0 rfl rfl ?_
        refine z_iload_n C d_I_printPair_58 3 rfl ?_
        refine z_aload_n C d_I_printPair_59 2 rfl ?_
        refine z_get C f_I_9 d_I_printPair_60 0 rfl rfl ?_
        refine z_callv (As := [.int (iI s), .ref aP]) (rest := []) (wr := [(aI, .inr (5, [.ref aP, .ref aN, .ref aU])), iA G aNt 3 nt, (aU, .inr (6, [.ref aUg, .ref aUd, .int (iI ur), .int (iI uv), .int (iI uf), .ref aN, .ref aUa])), iA G aUg 384 ug, iA G aUa 1536 ua]) (ws' := fun u => [(aI, .inr (5, [.ref aP, .ref aN, .ref aU])), (aN, .inr (3, [.ref aNl, .ref aNn, .ref aNt])), bA G aNl 480 nl, iA G aNn 40 nn, iA G aNt 3 nt, (aU, .inr (6, [.ref aUg, .ref aUd, .int (iI ur), .int (iI uv), .int (iI uf), .ref aN, .ref aUa])), iA G aUg 384 ug, iA G aUa 1536 ua, (aP, .inr (0, [.ref aPb, .int (iI (q1 + ((nmC nl nn s).length : Int)))])), bA G aPb 5632 (wr E1 q1 (nmC nl nn s))]) (q0 := 1) C k_I_62 kc_N_write (fun l sz => m_N_write l G sz aN aNl aNn aNt nl nn aP aPb q1 E1 s (by have h9 := pg_fit hp1; have h8 := hn (s).toNat; omega)) rfl rfl (Nat.le_of_ble_eq_true rfl) (by decide) d_I_printPair_63 rfl rfl [1, 2, 3, 8, 9] [0, 4, 5, 6, 7] [0, 5, 6, 7, 1, 2, 3, 4, 8, 9] rfl rfl (by decide) (fun u => rfl) (fun u h63 => ?_)
        show Zc G X 5 0 0 [(aI, .inr (5, [.ref aP, .ref aN, .ref aU])), (aN, .inr (3, [.ref aNl, .ref aNn, .ref aNt])), bA G aNl 480 nl, iA G aNn 40 nn, iA G aNt 3 nt, (aU, .inr (6, [.ref aUg, .ref aUd, .int (iI ur), .int (iI uv), .int (iI uf), .ref aN, .ref aUa])), iA G aUg 384 ug, iA G aUa 1536 ua, (aP, .inr (0, [.ref aPb, .int (iI (q1 + ((nmC nl nn s).length : Int)))])), bA G aPb 5632 (wr E1 q1 (nmC nl nn s))] [(4, .int (iI (ug (prf nt s e).toNat))), (3, .int (iI (prf nt s e))), (0, .ref aI), (1, .int (iI s)), (2, .int (iI e))] 66 []
        have hp2 : wr (wr E1 q1 (nmC nl nn s)) (q1 + ((nmC nl nn s).length : Int)) ([32] ++ (nmC nl nn (evs (nt 1) e) ++ ([58] ++ (acL (nmC nl nn) ua (prf nt s e) 4 0 ++ (wl " > " ++ (nmC nl nn (ug (prf nt s e).toNat) ++ [59, 10])))))) = wr pF pl (prL (nmC nl nn) nt ug ua s e) ∧ (q1 + ((nmC nl nn s).length : Int)) + (([32] ++ (nmC nl nn (evs (nt 1) e) ++ ([58] ++ (acL (nmC nl nn) ua (prf nt s e) 4 0 ++ (wl " > " ++ (nmC nl nn (ug (prf nt s e).toNat) ++ [59, 10])))))).length : Int) = pl + ((prL (nmC nl nn) nt ug ua s e).length : Int) := pg_next hp1
        have hg2 : 0 ≤ q1 + ((nmC nl nn s).length : Int) := by omega
        generalize wr E1 q1 (nmC nl nn s) = E2 at hp2 ⊢
        generalize q1 + ((nmC nl nn s).length : Int) = q2 at hp2 hg2 ⊢
        refine z_aload_n C d_I_printPair_66 2 rfl ?_
        refine z_get C f_I_9 d_I_printPair_67 0 rfl rfl ?_
        refine z_bipush C d_I_printPair_70 (by decide) ?_
        refine z_callv (As := [.int (iI 32)]) (rest := []) (wr := [(aI, .inr (5, [.ref aP, .ref aN, .ref aU])), (aN, .inr (3, [.ref aNl, .ref aNn, .ref aNt])), bA G aNl 480 nl, iA G aNn 40 nn, iA G aNt 3 nt, (aU, .inr (6, [.ref aUg, .ref aUd, .int (iI ur), .int (iI uv), .int (iI uf), .ref aN, .ref aUa])), iA G aUg 384 ug, iA G aUa 1536 ua]) (ws' := fun u => [(aI, .inr (5, [.ref aP, .ref aN, .ref aU])), (aN, .inr (3, [.ref aNl, .ref aNn, .ref aNt])), bA G aNl 480 nl, iA G aNn 40 nn, iA G aNt 3 nt, (aU, .inr (6, [.ref aUg, .ref aUd, .int (iI ur), .int (iI uv), .int (iI uf), .ref aN, .ref aUa])), iA G aUg 384 ug, iA G aUa 1536 ua, (aP, .inr (0, [.ref aPb, .int (iI (q2 + 1))])), bA G aPb 5632 (wr E2 q2 [32])]) (q0 := 8) C k_I_76 kc_B_add (fun l sz => m_B_add l G sz aP aPb 5632 q2 E2 32 (by have h9 := pg_fit1 hp2; omega)) rfl rfl (Nat.le_of_ble_eq_true rfl) (by decide) d_I_printPair_72 rfl rfl [8, 9] [0, 1, 2, 3, 4, 5, 6, 7] [0, 1, 2, 3, 4, 5, 6, 7, 8, 9] rfl rfl (by decide) (fun u => rfl) (fun u h72 => ?_)
        show Zc G X 5 0 0 [(aI, .inr (5, [.ref aP, .ref aN, .ref aU])), (aN, .inr (3, [.ref aNl, .ref aNn, .ref aNt])), bA G aNl 480 nl, iA G aNn 40 nn, iA G aNt 3 nt, (aU, .inr (6, [.ref aUg, .ref aUd, .int (iI ur), .int (iI uv), .int (iI uf), .ref aN, .ref aUa])), iA G aUg 384 ug, iA G aUa 1536 ua, (aP, .inr (0, [.ref aPb, .int (iI (q2 + 1))])), bA G aPb 5632 (wr E2 q2 [32])] [(4, .int (iI (ug (prf nt s e).toNat))), (3, .int (iI (prf nt s e))), (0, .ref aI), (1, .int (iI s)), (2, .int (iI e))] 75 []
        have hp3 : wr (wr E2 q2 [32]) (q2 + 1) (nmC nl nn (evs (nt 1) e) ++ ([58] ++ (acL (nmC nl nn) ua (prf nt s e) 4 0 ++ (wl " > " ++ (nmC nl nn (ug (prf nt s e).toNat) ++ [59, 10]))))) = wr pF pl (prL (nmC nl nn) nt ug ua s e) ∧ (q2 + 1) + ((nmC nl nn (evs (nt 1) e) ++ ([58] ++ (acL (nmC nl nn) ua (prf nt s e) 4 0 ++ (wl " > " ++ (nmC nl nn (ug (prf nt s e).toNat) ++ [59, 10]))))).length : Int) = pl + ((prL (nmC nl nn) nt ug ua s e).length : Int) := pg_next hp2
        have hg3 : 0 ≤ q2 + 1 := by omega
        generalize wr E2 q2 [32] = E3 at hp3 ⊢
        generalize q2 + 1 = q3 at hp3 hg3 ⊢
        refine z_aload_n C d_I_printPair_75 2 rfl ?_
        refine z_get C f_I_15 d_I_printPair_76 0 rfl rfl ?_
        refine z_aload_n C d_I_printPair_79 2 rfl ?_
        refine z_get C f_I_15 d_I_printPair_80 0 rfl rfl ?_
        refine z_iload_n C d_I_printPair_83 4 rfl ?_
        refine z_calli (As := [.int (iI e)]) (rest := [.ref aN]) (wr := [(aI, .inr (5, [.ref aP, .ref aN, .ref aU])), bA G aNl 480 nl, iA G aNn 40 nn, (aU, .inr (6, [.ref aUg, .ref aUd, .int (iI ur), .int (iI uv), .int (iI uf), .ref aN, .ref aUa])), iA G aUg 384 ug, iA G aUa 1536 ua, (aP, .inr (0, [.ref aPb, .int (iI q3)])), bA G aPb 5632 E3]) (ws' := fun u => [(aI, .inr (5, [.ref aP, .ref aN, .ref aU])), (aN, .inr (3, [.ref aNl, .ref aNn, .ref aNt])), bA G aNl 480 nl, iA G aNn 40 nn, iA G aNt 3 nt, (aU, .inr (6, [.ref aUg, .ref aUd, .int (iI ur), .int (iI uv), .int (iI uf), .ref aN, .ref aUa])), iA G aUg 384 ug, iA G aUa 1536 ua, (aP, .inr (0, [.ref aPb, .int (iI q3)])), bA G aPb 5632 E3]) (q0 := 1) C k_I_93 kc_N_slotOfEvent (fun l sz => m_N_slotOfEvent l G sz aN aNl aNn aNt nt e (by unfold cnt at hct; omega)) rfl rfl (Nat.le_of_ble_eq_true rfl) (by decide) d_I_printPair_84 rfl rfl [1, 4] [0, 2, 3, 5, 6, 7, 8, 9] [0, 8, 1, 2, 9, 3, 4, 5, 6, 7] rfl rfl (by decide) (fun u => rfl) (fun r u h84 => ?_)
        obtain rfl := h84
        show Zc G X 5 0 0 [(aI, .inr (5, [.ref aP, .ref aN, .ref aU])), (aN, .inr (3, [.ref aNl, .ref aNn, .ref aNt])), bA G aNl 480 nl, iA G aNn 40 nn, iA G aNt 3 nt, (aU, .inr (6, [.ref aUg, .ref aUd, .int (iI ur), .int (iI uv), .int (iI uf), .ref aN, .ref aUa])), iA G aUg 384 ug, iA G aUa 1536 ua, (aP, .inr (0, [.ref aPb, .int (iI q3)])), bA G aPb 5632 E3] [(4, .int (iI (ug (prf nt s e).toNat))), (3, .int (iI (prf nt s e))), (0, .ref aI), (1, .int (iI s)), (2, .int (iI e))] 87 [.int (iI (evs (nt 1) e)), .ref aN]
        refine z_aload_n C d_I_printPair_87 2 rfl ?_
        refine z_get C f_I_9 d_I_printPair_88 0 rfl rfl ?_
        refine z_callv (As := [.int (iI (evs (nt 1) e)), .ref aP]) (rest := []) (wr := [(aI, .inr (5, [.ref aP, .ref aN, .ref aU])), iA G aNt 3 nt, (aU, .inr (6, [.ref aUg, .ref aUd, .int (iI ur), .int (iI uv), .int (iI uf), .ref aN, .ref aUa])), iA G aUg 384 ug, iA G aUa 1536 ua]) (ws' := fun u => [(aI, .inr (5, [.ref aP, .ref aN, .ref aU])), (aN, .inr (3, [.ref aNl, .ref aNn, .ref aNt])), bA G aNl 480 nl, iA G aNn 40 nn, iA G aNt 3 nt, (aU, .inr (6, [.ref aUg, .ref aUd, .int (iI ur), .int (iI uv), .int (iI uf), .ref aN, .ref aUa])), iA G aUg 384 ug, iA G aUa 1536 ua, (aP, .inr (0, [.ref aPb, .int (iI (q3 + ((nmC nl nn (evs (nt 1) e)).length : Int)))])), bA G aPb 5632 (wr E3 q3 (nmC nl nn (evs (nt 1) e)))]) (q0 := 1) C k_I_62 kc_N_write (fun l sz => m_N_write l G sz aN aNl aNn aNt nl nn aP aPb q3 E3 (evs (nt 1) e) (by have h9 := pg_fit hp3; have h8 := hn (evs (nt 1) e).toNat; omega)) rfl rfl (Nat.le_of_ble_eq_true rfl) (by decide) d_I_printPair_91 rfl rfl [1, 2, 3, 8, 9] [0, 4, 5, 6, 7] [0, 5, 6, 7, 1, 2, 3, 4, 8, 9] rfl rfl (by decide) (fun u => rfl) (fun u h91 => ?_)
        show Zc G X 5 0 0 [(aI, .inr (5, [.ref aP, .ref aN, .ref aU])), (aN, .inr (3, [.ref aNl, .ref aNn, .ref aNt])), bA G aNl 480 nl, iA G aNn 40 nn, iA G aNt 3 nt, (aU, .inr (6, [.ref aUg, .ref aUd, .int (iI ur), .int (iI uv), .int (iI uf), .ref aN, .ref aUa])), iA G aUg 384 ug, iA G aUa 1536 ua, (aP, .inr (0, [.ref aPb, .int (iI (q3 + ((nmC nl nn (evs (nt 1) e)).length : Int)))])), bA G aPb 5632 (wr E3 q3 (nmC nl nn (evs (nt 1) e)))] [(4, .int (iI (ug (prf nt s e).toNat))), (3, .int (iI (prf nt s e))), (0, .ref aI), (1, .int (iI s)), (2, .int (iI e))] 94 []
        have hp4 : wr (wr E3 q3 (nmC nl nn (evs (nt 1) e))) (q3 + ((nmC nl nn (evs (nt 1) e)).length : Int)) ([58] ++ (acL (nmC nl nn) ua (prf nt s e) 4 0 ++ (wl " > " ++ (nmC nl nn (ug (prf nt s e).toNat) ++ [59, 10])))) = wr pF pl (prL (nmC nl nn) nt ug ua s e) ∧ (q3 + ((nmC nl nn (evs (nt 1) e)).length : Int)) + (([58] ++ (acL (nmC nl nn) ua (prf nt s e) 4 0 ++ (wl " > " ++ (nmC nl nn (ug (prf nt s e).toNat) ++ [59, 10])))).length : Int) = pl + ((prL (nmC nl nn) nt ug ua s e).length : Int) := pg_next hp3
        have hg4 : 0 ≤ q3 + ((nmC nl nn (evs (nt 1) e)).length : Int) := by omega
        generalize wr E3 q3 (nmC nl nn (evs (nt 1) e)) = E4 at hp4 ⊢
        generalize q3 + ((nmC nl nn (evs (nt 1) e)).length : Int) = q4 at hp4 hg4 ⊢
        refine z_iload C d_I_printPair_94 0 rfl ?_
        refine z_bipush C d_I_printPair_96 (by decide) ?_
        refine z_icmp_eq (tgt := 137) C d_I_printPair_98 (by decide) (by omega) (by omega) (fun c98 => ?_) (fun c98 => ?_)
        · exact absurd c98 (by omega)
        ·
          refine z_aload_n C d_I_printPair_101 2 rfl ?_
          refine z_get C f_I_9 d_I_printPair_102 0 rfl rfl ?_
          refine z_bipush C d_I_printPair_105 (by decide) ?_
          refine z_callv (As := [.int (iI 58)]) (rest := []) (wr := [(aI, .inr (5, [.ref aP, .ref aN, .ref aU])), (aN, .inr (3, [.ref aNl, .ref aNn, .ref aNt])), bA G aNl 480 nl, iA G aNn 40 nn, iA G aNt 3 nt, (aU, .inr (6, [.ref aUg, .ref aUd, .int (iI ur), .int (iI uv), .int (iI uf), .ref aN, .ref aUa])), iA G aUg 384 ug, iA G aUa 1536 ua]) (ws' := fun u => [(aI, .inr (5, [.ref aP, .ref aN, .ref aU])), (aN, .inr (3, [.ref aNl, .ref aNn, .ref aNt])), bA G aNl 480 nl, iA G aNn 40 nn, iA G aNt 3 nt, (aU, .inr (6, [.ref aUg, .ref aUd, .int (iI ur), .int (iI uv), .int (iI uf), .ref aN, .ref aUa])), iA G aUg 384 ug, iA G aUa 1536 ua, (aP, .inr (0, [.ref aPb, .int (iI (q4 + 1))])), bA G aPb 5632 (wr E4 q4 [58])]) (q0 := 8) C k_I_76 kc_B_add (fun l sz => m_B_add l G sz aP aPb 5632 q4 E4 58 (by have h9 := pg_fit1 hp4; omega)) rfl rfl (Nat.le_of_ble_eq_true rfl) (by decide) d_I_printPair_107 rfl rfl [8, 9] [0, 1, 2, 3, 4, 5, 6, 7] [0, 1, 2, 3, 4, 5, 6, 7, 8, 9] rfl rfl (by decide) (fun u => rfl) (fun u h107 => ?_)
          show Zc G X 5 0 0 [(aI, .inr (5, [.ref aP, .ref aN, .ref aU])), (aN, .inr (3, [.ref aNl, .ref aNn, .ref aNt])), bA G aNl 480 nl, iA G aNn 40 nn, iA G aNt 3 nt, (aU, .inr (6, [.ref aUg, .ref aUd, .int (iI ur), .int (iI uv), .int (iI uf), .ref aN, .ref aUa])), iA G aUg 384 ug, iA G aUa 1536 ua, (aP, .inr (0, [.ref aPb, .int (iI (q4 + 1))])), bA G aPb 5632 (wr E4 q4 [58])] [(4, .int (iI (ug (prf nt s e).toNat))), (3, .int (iI (prf nt s e))), (0, .ref aI), (1, .int (iI s)), (2, .int (iI e))] 110 []
          have hp5 : wr (wr E4 q4 [58]) (q4 + 1) (acL (nmC nl nn) ua (prf nt s e) 4 0 ++ (wl " > " ++ (nmC nl nn (ug (prf nt s e).toNat) ++ [59, 10]))) = wr pF pl (prL (nmC nl nn) nt ug ua s e) ∧ (q4 + 1) + ((acL (nmC nl nn) ua (prf nt s e) 4 0 ++ (wl " > " ++ (nmC nl nn (ug (prf nt s e).toNat) ++ [59, 10]))).length : Int) = pl + ((prL (nmC nl nn) nt ug ua s e).length : Int) := pg_next hp4
          have hg5 : 0 ≤ q4 + 1 := by omega
          generalize wr E4 q4 [58] = E5 at hp5 ⊢
          generalize q4 + 1 = q5 at hp5 hg5 ⊢
          refine z_aload_n C d_I_printPair_110 2 rfl ?_
          refine z_iload_n C d_I_printPair_111 1 rfl ?_
          refine z_callv (As := [.int (iI (prf nt s e))]) (rest := []) (wr := [iA G aNt 3 nt, iA G aUg 384 ug]) (ws' := fun u => [(aI, .inr (5, [.ref aP, .ref aN, .ref aU])), (aN, .inr (3, [.ref aNl, .ref aNn, .ref aNt])), bA G aNl 480 nl, iA G aNn 40 nn, iA G aNt 3 nt, (aU, .inr (6, [.ref aUg, .ref aUd, .int (iI ur), .int (iI uv), .int (iI uf), .ref aN, .ref aUa])), iA G aUg 384 ug, iA G aUa 1536 ua, (aP, .inr (0, [.ref aPb, .int (iI (q5 + ((acL (nmC nl nn) ua (prf nt s e) 4 0).length : Int)))])), bA G aPb 5632 (wr E5 q5 (acL (nmC nl nn) ua (prf nt s e) 4 0))]) (q0 := 0) C k_I_97 kc_I_printActions (fun l sz => m_I_printActions l G sz aI aP aN aU aPb q5 E5 aNl aNn aNt nl nn aUg aUd aUa ur uv uf ua (prf nt s e) (hn) (by omega) (ha) (hmc _) (by have h9 := pg_fit hp5; omega)) rfl rfl (Nat.le_of_ble_eq_true rfl) (by decide) d_I_printPair_112 rfl rfl [0, 1, 2, 3, 5, 7, 8, 9] [4, 6] [2, 3, 4, 5, 0, 6, 1, 7, 8, 9] rfl rfl (by decide) (fun u => rfl) (fun u h112 => ?_)
          show Zc G X 5 0 0 [(aI, .inr (5, [.ref aP, .ref aN, .ref aU])), (aN, .inr (3, [.ref aNl, .ref aNn, .ref aNt])), bA G aNl 480 nl, iA G aNn 40 nn, iA G aNt 3 nt, (aU, .inr (6, [.ref aUg, .ref aUd, .int (iI ur), .int (iI uv), .int (iI uf), .ref aN, .ref aUa])), iA G aUg 384 ug, iA G aUa 1536 ua, (aP, .inr (0, [.ref aPb, .int (iI (q5 + ((acL (nmC nl nn) ua (prf nt s e) 4 0).length : Int)))])), bA G aPb 5632 (wr E5 q5 (acL (nmC nl nn) ua (prf nt s e) 4 0))] [(4, .int (iI (ug (prf nt s e).toNat))), (3, .int (iI (prf nt s e))), (0, .ref aI), (1, .int (iI s)), (2, .int (iI e))] 115 []
          have hp6 : wr (wr E5 q5 (acL (nmC nl nn) ua (prf nt s e) 4 0)) (q5 + ((acL (nmC nl nn) ua (prf nt s e) 4 0).length : Int)) (wl " > " ++ (nmC nl nn (ug (prf nt s e).toNat) ++ [59, 10])) = wr pF pl (prL (nmC nl nn) nt ug ua s e) ∧ (q5 + ((acL (nmC nl nn) ua (prf nt s e) 4 0).length : Int)) + ((wl " > " ++ (nmC nl nn (ug (prf nt s e).toNat) ++ [59, 10])).length : Int) = pl + ((prL (nmC nl nn) nt ug ua s e).length : Int) := pg_next hp5
          have hg6 : 0 ≤ q5 + ((acL (nmC nl nn) ua (prf nt s e) 4 0).length : Int) := by omega
          generalize wr E5 q5 (acL (nmC nl nn) ua (prf nt s e) 4 0) = E6 at hp6 ⊢
          generalize q5 + ((acL (nmC nl nn) ua (prf nt s e) 4 0).length : Int) = q6 at hp6 hg6 ⊢
          refine z_aload_n C d_I_printPair_115 2 rfl ?_
          refine z_get C f_I_9 d_I_printPair_116 0 rfl rfl ?_
          refine z_ldcS C d_I_printPair_119 (i := 11) rfl ?_
          refine z_callv (As := [.ref (G.2.2.1 11)]) (rest := []) (wr := [(aI, .inr (5, [.ref aP, .ref aN, .ref aU])), (aN, .inr (3, [.ref aNl, .ref aNn, .ref aNt])), bA G aNl 480 nl, iA G aNn 40 nn, iA G aNt 3 nt, (aU, .inr (6, [.ref aUg, .ref aUd, .int (iI ur), .int (iI uv), .int (iI uf), .ref aN, .ref aUa])), iA G aUg 384 ug, iA G aUa 1536 ua]) (ws' := fun u => [(aI, .inr (5, [.ref aP, .ref aN, .ref aU])), (aN, .inr (3, [.ref aNl, .ref aNn, .ref aNt])), bA G aNl 480 nl, iA G aNn 40 nn, iA G aNt 3 nt, (aU, .inr (6, [.ref aUg, .ref aUd, .int (iI ur), .int (iI uv), .int (iI uf), .ref aN, .ref aUa])), iA G aUg 384 ug, iA G aUa 1536 ua, (aP, .inr (0, [.ref aPb, .int (iI (q6 + ((wl (" > ")).length : Int)))])), bA G aPb 5632 (wr E6 q6 (wl (" > ")))]) (q0 := 8) C k_I_58 kc_B_addText (fun l sz => m_B_addText l G sz aP aPb 5632 q6 E6 11 R_I 100 (" > ") (rfl) (by have h9 := pg_fit hp6; omega)) rfl rfl (Nat.le_of_ble_eq_true rfl) (by decide) d_I_printPair_121 rfl rfl [8, 9] [0, 1, 2, 3, 4, 5, 6, 7] [0, 1, 2, 3, 4, 5, 6, 7, 8, 9] rfl rfl (by decide) (fun u => rfl) (fun u h121 => ?_)
          show Zc G X 5 0 0 [(aI, .inr (5, [.ref aP, .ref aN, .ref aU])), (aN, .inr (3, [.ref aNl, .ref aNn, .ref aNt])), bA G aNl 480 nl, iA G aNn 40 nn, iA G aNt 3 nt, (aU, .inr (6, [.ref aUg, .ref aUd, .int (iI ur), .int (iI uv), .int (iI uf), .ref aN, .ref aUa])), iA G aUg 384 ug, iA G aUa 1536 ua, (aP, .inr (0, [.ref aPb, .int (iI (q6 + ((wl (" > ")).length : Int)))])), bA G aPb 5632 (wr E6 q6 (wl (" > ")))] [(4, .int (iI (ug (prf nt s e).toNat))), (3, .int (iI (prf nt s e))), (0, .ref aI), (1, .int (iI s)), (2, .int (iI e))] 124 []
          have hp7 : wr (wr E6 q6 (wl (" > "))) (q6 + ((wl (" > ")).length : Int)) (nmC nl nn (ug (prf nt s e).toNat) ++ [59, 10]) = wr pF pl (prL (nmC nl nn) nt ug ua s e) ∧ (q6 + ((wl (" > ")).length : Int)) + ((nmC nl nn (ug (prf nt s e).toNat) ++ [59, 10]).length : Int) = pl + ((prL (nmC nl nn) nt ug ua s e).length : Int) := pg_next hp6
          have hg7 : 0 ≤ q6 + ((wl (" > ")).length : Int) := by omega
          generalize wr E6 q6 (wl (" > ")) = E7 at hp7 ⊢
          generalize q6 + ((wl (" > ")).length : Int) = q7 at hp7 hg7 ⊢
          refine z_aload_n C d_I_printPair_124 2 rfl ?_
          refine z_get C f_I_15 d_I_printPair_125 0 rfl rfl ?_
          refine z_iload C d_I_printPair_128 0 rfl ?_
          refine z_aload_n C d_I_printPair_130 2 rfl ?_
          refine z_get C f_I_9 d_I_printPair_131 0 rfl rfl ?_
          refine z_callv (As := [.int (iI (ug (prf nt s e).toNat)), .ref aP]) (rest := []) (wr := [(aI, .inr (5, [.ref aP, .ref aN, .ref aU])), iA G aNt 3 nt, (aU, .inr (6, [.ref aUg, .ref aUd, .int (iI ur), .int (iI uv), .int (iI uf), .ref aN, .ref aUa])), iA G aUg 384 ug, iA G aUa 1536 ua]) (ws' := fun u => [(aI, .inr (5, [.ref aP, .ref aN, .ref aU])), (aN, .inr (3, [.ref aNl, .ref aNn, .ref aNt])), bA G aNl 480 nl, iA G aNn 40 nn, iA G aNt 3 nt, (aU, .inr (6, [.ref aUg, .ref aUd, .int (iI ur), .int (iI uv), .int (iI uf), .ref aN, .ref aUa])), iA G aUg 384 ug, iA G aUa 1536 ua, (aP, .inr (0, [.ref aPb, .int (iI (q7 + ((nmC nl nn (ug (prf nt s e).toNat)).length : Int)))])), bA G aPb 5632 (wr E7 q7 (nmC nl nn (ug (prf nt s e).toNat)))]) (q0 := 1) C k_I_62 kc_N_write (fun l sz => m_N_write l G sz aN aNl aNn aNt nl nn aP aPb q7 E7 (ug (prf nt s e).toNat) (by have h9 := pg_fit hp7; have h8 := hn (ug (prf nt s e).toNat).toNat; omega)) rfl rfl (Nat.le_of_ble_eq_true rfl) (by decide) d_I_printPair_134 rfl rfl [1, 2, 3, 8, 9] [0, 4, 5, 6, 7] [0, 5, 6, 7, 1, 2, 3, 4, 8, 9] rfl rfl (by decide) (fun u => rfl) (fun u h134 => ?_)
          show Zc G X 5 0 0 [(aI, .inr (5, [.ref aP, .ref aN, .ref aU])), (aN, .inr (3, [.ref aNl, .ref aNn, .ref aNt])), bA G aNl 480 nl, iA G aNn 40 nn, iA G aNt 3 nt, (aU, .inr (6, [.ref aUg, .ref aUd, .int (iI ur), .int (iI uv), .int (iI uf), .ref aN, .ref aUa])), iA G aUg 384 ug, iA G aUa 1536 ua, (aP, .inr (0, [.ref aPb, .int (iI (q7 + ((nmC nl nn (ug (prf nt s e).toNat)).length : Int)))])), bA G aPb 5632 (wr E7 q7 (nmC nl nn (ug (prf nt s e).toNat)))] [(4, .int (iI (ug (prf nt s e).toNat))), (3, .int (iI (prf nt s e))), (0, .ref aI), (1, .int (iI s)), (2, .int (iI e))] 137 []
          have hp8 : wr (wr E7 q7 (nmC nl nn (ug (prf nt s e).toNat))) (q7 + ((nmC nl nn (ug (prf nt s e).toNat)).length : Int)) ([59, 10]) = wr pF pl (prL (nmC nl nn) nt ug ua s e) ∧ (q7 + ((nmC nl nn (ug (prf nt s e).toNat)).length : Int)) + (([59, 10]).length : Int) = pl + ((prL (nmC nl nn) nt ug ua s e).length : Int) := pg_next hp7
          have hg8 : 0 ≤ q7 + ((nmC nl nn (ug (prf nt s e).toNat)).length : Int) := by omega
          generalize wr E7 q7 (nmC nl nn (ug (prf nt s e).toNat)) = E8 at hp8 ⊢
          generalize q7 + ((nmC nl nn (ug (prf nt s e).toNat)).length : Int) = q8 at hp8 hg8 ⊢
          have hp9 := pg_all hp8
          refine z_aload_n C d_I_printPair_137 2 rfl ?_
          refine z_callv (As := []) (rest := []) (wr := [(aN, .inr (3, [.ref aNl, .ref aNn, .ref aNt])), bA G aNl 480 nl, iA G aNn 40 nn, iA G aNt 3 nt, (aU, .inr (6, [.ref aUg, .ref aUd, .int (iI ur), .int (iI uv), .int (iI uf), .ref aN, .ref aUa])), iA G aUg 384 ug, iA G aUa 1536 ua]) (ws' := fun u => [(aI, .inr (5, [.ref aP, .ref aN, .ref aU])), (aN, .inr (3, [.ref aNl, .ref aNn, .ref aNt])), bA G aNl 480 nl, iA G aNn 40 nn, iA G aNt 3 nt, (aU, .inr (6, [.ref aUg, .ref aUd, .int (iI ur), .int (iI uv), .int (iI uf), .ref aN, .ref aUa])), iA G aUg 384 ug, iA G aUa 1536 ua, (aP, .inr (0, [.ref aPb, .int (iI (q8 + 2))])), bA G aPb 5632 (wr E8 q8 [59, 10])]) (q0 := 0) C k_I_66 kc_I_endLine (fun l sz => m_I_endLine l G sz aI aP aN aU aPb q8 E8 (by have h9 := pg_fit2 hp9; omega)) rfl rfl (Nat.le_of_ble_eq_true rfl) (by decide) d_I_printPair_138 rfl rfl [0, 8, 9] [1, 2, 3, 4, 5, 6, 7] [7, 0, 1, 2, 3, 4, 5, 6, 8, 9] rfl rfl (by decide) (fun u => rfl) (fun u h138 => ?_)
          show Zc G X 5 0 0 [(aI, .inr (5, [.ref aP, .ref aN, .ref aU])), (aN, .inr (3, [.ref aNl, .ref aNn, .ref aNt])), bA G aNl 480 nl, iA G aNn 40 nn, iA G aNt 3 nt, (aU, .inr (6, [.ref aUg, .ref aUd, .int (iI ur), .int (iI uv), .int (iI uf), .ref aN, .ref aUa])), iA G aUg 384 ug, iA G aUa 1536 ua, (aP, .inr (0, [.ref aPb, .int (iI (q8 + 2))])), bA G aPb 5632 (wr E8 q8 [59, 10])] [(4, .int (iI (ug (prf nt s e).toNat))), (3, .int (iI (prf nt s e))), (0, .ref aI), (1, .int (iI s)), (2, .int (iI e))] 141 []
          have hpz : wr (wr E8 q8 [59, 10]) (q8 + 2) ([]) = wr pF pl (prL (nmC nl nn) nt ug ua s e) ∧ (q8 + 2) + (([]).length : Int) = pl + ((prL (nmC nl nn) nt ug ua s e).length : Int) := pg_next hp9
          have hgz : 0 ≤ q8 + 2 := by omega
          generalize wr E8 q8 [59, 10] = Ez at hpz ⊢
          generalize q8 + 2 = qz at hpz hgz ⊢
          exact z_vret C K d_I_printPair_141 () (by rw [(pg_end hpz).1, (pg_end hpz).2]) (trivial)
      ·
        have ea : prL (nmC nl nn) nt ug ua s e = wl "never " ++ (nmC nl nn s ++ ([32] ++ (nmC nl nn (evs (nt 1) e) ++ ([59, 10])))) := by unfold prL; rw [if_neg (by omega), if_pos (by omega)]
        have hp0 : wr pF pl (wl "never " ++ (nmC nl nn s ++ ([32] ++ (nmC nl nn (evs (nt 1) e) ++ ([59, 10]))))) = wr pF pl (prL (nmC nl nn) nt ug ua s e) ∧ pl + ((wl "never " ++ (nmC nl nn s ++ ([32] ++ (nmC nl nn (evs (nt 1) e) ++ ([59, 10]))))).length : Int) = pl + ((prL (nmC nl nn) nt ug ua s e).length : Int) := by rw [ea]; exact ⟨rfl, rfl⟩
        refine z_ldcS C d_I_printPair_44 (i := 5) rfl ?_
        refine z_goto (tgt := 51) C d_I_printPair_46 (by decide) ?_
        refine z_callv (As := [.ref (G.2.2.1 5)]) (rest := []) (wr := [(aI, .inr (5, [.ref aP, .ref aN, .ref aU])), (aN, .inr (3, [.ref aNl, .ref aNn, .ref aNt])), bA G aNl 480 nl, iA G aNn 40 nn, iA G aNt 3 nt, (aU, .inr (6, [.ref aUg, .ref aUd, .int (iI ur), .int (iI uv), .int (iI uf), .ref aN, .ref aUa])), iA G aUg 384 ug, iA G aUa 1536 ua]) (ws' := fun u => [(aI, .inr (5, [.ref aP, .ref aN, .ref aU])), (aN, .inr (3, [.ref aNl, .ref aNn, .ref aNt])), bA G aNl 480 nl, iA G aNn 40 nn, iA G aNt 3 nt, (aU, .inr (6, [.ref aUg, .ref aUd, .int (iI ur), .int (iI uv), .int (iI uf), .ref aN, .ref aUa])), iA G aUg 384 ug, iA G aUa 1536 ua, (aP, .inr (0, [.ref aPb, .int (iI (pl + ((wl ("never ")).length : Int)))])), bA G aPb 5632 (wr pF pl (wl ("never ")))]) (q0 := 8) C k_I_58 kc_B_addText (fun l sz => m_B_addText l G sz aP aPb 5632 pl pF 5 R_I 89 ("never ") (rfl) (by have h9 := pg_fit hp0; omega)) rfl rfl (Nat.le_of_ble_eq_true rfl) (by decide) d_I_printPair_51 rfl rfl [8, 9] [0, 1, 2, 3, 4, 5, 6, 7] [0, 1, 2, 3, 4, 5, 6, 7, 8, 9] rfl rfl (by decide) (fun u => rfl) (fun u h51 => ?_)
        show Zc G X 5 0 0 [(aI, .inr (5, [.ref aP, .ref aN, .ref aU])), (aN, .inr (3, [.ref aNl, .ref aNn, .ref aNt])), bA G aNl 480 nl, iA G aNn 40 nn, iA G aNt 3 nt, (aU, .inr (6, [.ref aUg, .ref aUd, .int (iI ur), .int (iI uv), .int (iI uf), .ref aN, .ref aUa])), iA G aUg 384 ug, iA G aUa 1536 ua, (aP, .inr (0, [.ref aPb, .int (iI (pl + ((wl ("never ")).length : Int)))])), bA G aPb 5632 (wr pF pl (wl ("never ")))] [(4, .int (iI (ug (prf nt s e).toNat))), (3, .int (iI (prf nt s e))), (0, .ref aI), (1, .int (iI s)), (2, .int (iI e))] 54 []
        have hp1 : wr (wr pF pl (wl ("never "))) (pl + ((wl ("never ")).length : Int)) (nmC nl nn s ++ ([32] ++ (nmC nl nn (evs (nt 1) e) ++ ([59, 10])))) = wr pF pl (prL (nmC nl nn) nt ug ua s e) ∧ (pl + ((wl ("never ")).length : Int)) + ((nmC nl nn s ++ ([32] ++ (nmC nl nn (evs (nt 1) e) ++ ([59, 10])))).length : Int) = pl + ((prL (nmC nl nn) nt ug ua s e).length : Int) := pg_next hp0
        have hg1 : 0 ≤ pl + ((wl ("never ")).length : Int) := by omega
        generalize wr pF pl (wl ("never ")) = E1 at hp1 ⊢
        generalize pl + ((wl ("never ")).length : Int) = q1 at hp1 hg1 ⊢
        refine z_aload_n C d_I_printPair_54 2 rfl ?_
        refine z_get C f_I_15 d_I_printPair_55 0 rfl rfl ?_
        refine z_iload_n C d_I_printPair_58 3 rfl ?_
        refine z_aload_n C d_I_printPair_59 2 rfl ?_
        refine z_get C f_I_9 d_I_printPair_60 0 rfl rfl ?_
        refine z_callv (As := [.int (iI s), .ref aP]) (rest := []) (wr := [(aI, .inr (5, [.ref aP, .ref aN, .ref aU])), iA G aNt 3 nt, (aU, .inr (6, [.ref aUg, .ref aUd, .int (iI ur), .int (iI uv), .int (iI uf), .ref aN, .ref aUa])), iA G aUg 384 ug, iA G aUa 1536 ua]) (ws' := fun u => [(aI, .inr (5, [.ref aP, .ref aN, .ref aU])), (aN, .inr (3, [.ref aNl, .ref aNn, .ref aNt])), bA G aNl 480 nl, iA G aNn 40 nn, iA G aNt 3 nt, (aU, .inr (6, [.ref aUg, .ref aUd, .int (iI ur), .int (iI uv), .int (iI uf), .ref aN, .ref aUa])), iA G aUg 384 ug, iA G aUa 1536 ua, (aP, .inr (0, [.ref aPb, .int (iI (q1 + ((nmC nl nn s).length : Int)))])), bA G aPb 5632 (wr E1 q1 (nmC nl nn s))]) (q0 := 1) C k_I_62 kc_N_write (fun l sz => m_N_write l G sz aN aNl aNn aNt nl nn aP aPb q1 E1 s (by have h9 := pg_fit hp1; have h8 := hn (s).toNat; omega)) rfl rfl (Nat.le_of_ble_eq_true rfl) (by decide) d_I_printPair_63 rfl rfl [1, 2, 3, 8, 9] [0, 4, 5, 6, 7] [0, 5, 6, 7, 1, 2, 3, 4, 8, 9] rfl rfl (by decide) (fun u => rfl) (fun u h63 => ?_)
        show Zc G X 5 0 0 [(aI, .inr (5, [.ref aP, .ref aN, .ref aU])), (aN, .inr (3, [.ref aNl, .ref aNn, .ref aNt])), bA G aNl 480 nl, iA G aNn 40 nn, iA G aNt 3 nt, (aU, .inr (6, [.ref aUg, .ref aUd, .int (iI ur), .int (iI uv), .int (iI uf), .ref aN, .ref aUa])), iA G aUg 384 ug, iA G aUa 1536 ua, (aP, .inr (0, [.ref aPb, .int (iI (q1 + ((nmC nl nn s).length : Int)))])), bA G aPb 5632 (wr E1 q1 (nmC nl nn s))] [(4, .int (iI (ug (prf nt s e).toNat))), (3, .int (iI (prf nt s e))), (0, .ref aI), (1, .int (iI s)), (2, .int (iI e))] 66 []
        have hp2 : wr (wr E1 q1 (nmC nl nn s)) (q1 + ((nmC nl nn s).length : Int)) ([32] ++ (nmC nl nn (evs (nt 1) e) ++ ([59, 10]))) = wr pF pl (prL (nmC nl nn) nt ug ua s e) ∧ (q1 + ((nmC nl nn s).length : Int)) + (([32] ++ (nmC nl nn (evs (nt 1) e) ++ ([59, 10]))).length : Int) = pl + ((prL (nmC nl nn) nt ug ua s e).length : Int) := pg_next hp1
        have hg2 : 0 ≤ q1 + ((nmC nl nn s).length : Int) := by omega
        generalize wr E1 q1 (nmC nl nn s) = E2 at hp2 ⊢
        generalize q1 + ((nmC nl nn s).length : Int) = q2 at hp2 hg2 ⊢
        refine z_aload_n C d_I_printPair_66 2 rfl ?_
        refine z_get C f_I_9 d_I_printPair_67 0 rfl rfl ?_
        refine z_bipush C d_I_printPair_70 (by decide) ?_
        refine z_callv (As := [.int (iI 32)]) (rest := []) (wr := [(aI, .inr (5, [.ref aP, .ref aN, .ref aU])), (aN, .inr (3, [.ref aNl, .ref aNn, .ref aNt])), bA G aNl 480 nl, iA G aNn 40 nn, iA G aNt 3 nt, (aU, .inr (6, [.ref aUg, .ref aUd, .int (iI ur), .int (iI uv), .int (iI uf), .ref aN, .ref aUa])), iA G aUg 384 ug, iA G aUa 1536 ua]) (ws' := fun u => [(aI, .inr (5, [.ref aP, .ref aN, .ref aU])), (aN, .inr (3, [.ref aNl, .ref aNn, .ref aNt])), bA G aNl 480 nl, iA G aNn 40 nn, iA G aNt 3 nt, (aU, .inr (6, [.ref aUg, .ref aUd, .int (iI ur), .int (iI uv), .int (iI uf), .ref aN, .ref aUa])), iA G aUg 384 ug, iA G aUa 1536 ua, (aP, .inr (0, [.ref aPb, .int (iI (q2 + 1))])), bA G aPb 5632 (wr E2 q2 [32])]) (q0 := 8) C k_I_76 kc_B_add (fun l sz => m_B_add l G sz aP aPb 5632 q2 E2 32 (by have h9 := pg_fit1 hp2; omega)) rfl rfl (Nat.le_of_ble_eq_true rfl) (by decide) d_I_printPair_72 rfl rfl [8, 9] [0, 1, 2, 3, 4, 5, 6, 7] [0, 1, 2, 3, 4, 5, 6, 7, 8, 9] rfl rfl (by decide) (fun u => rfl) (fun u h72 => ?_)
        show Zc G X 5 0 0 [(aI, .inr (5, [.ref aP, .ref aN, .ref aU])), (aN, .inr (3, [.ref aNl, .ref aNn, .ref aNt])), bA G aNl 480 nl, iA G aNn 40 nn, iA G aNt 3 nt, (aU, .inr (6, [.ref aUg, .ref aUd, .int (iI ur), .int (iI uv), .int (iI uf), .ref aN, .ref aUa])), iA G aUg 384 ug, iA G aUa 1536 ua, (aP, .inr (0, [.ref aPb, .int (iI (q2 + 1))])), bA G aPb 5632 (wr E2 q2 [32])] [(4, .int (iI (ug (prf nt s e).toNat))), (3, .int (iI (prf nt s e))), (0, .ref aI), (1, .int (iI s)), (2, .int (iI e))] 75 []
        have hp3 : wr (wr E2 q2 [32]) (q2 + 1) (nmC nl nn (evs (nt 1) e) ++ ([59, 10])) = wr pF pl (prL (nmC nl nn) nt ug ua s e) ∧ (q2 + 1) + ((nmC nl nn (evs (nt 1) e) ++ ([59, 10])).length : Int) = pl + ((prL (nmC nl nn) nt ug ua s e).length : Int) := pg_next hp2
        have hg3 : 0 ≤ q2 + 1 := by omega
        generalize wr E2 q2 [32] = E3 at hp3 ⊢
        generalize q2 + 1 = q3 at hp3 hg3 ⊢
        refine z_aload_n C d_I_printPair_75 2 rfl ?_
        refine z_get C f_I_15 d_I_printPair_76 0 rfl rfl ?_
        refine z_aload_n C d_I_printPair_79 2 rfl ?_
        refine z_get C f_I_15 d_I_printPair_80 0 rfl rfl ?_
        refine z_iload_n C d_I_printPair_83 4 rfl ?_
        refine z_calli (As := [.int (iI e)]) (rest := [.ref aN]) (wr := [(aI, .inr (5, [.ref aP, .ref aN, .ref aU])), bA G aNl 480 nl, iA G aNn 40 nn, (aU, .inr (6, [.ref aUg, .ref aUd, .int (iI ur), .int (iI uv), .int (iI uf), .ref aN, .ref aUa])), iA G aUg 384 ug, iA G aUa 1536 ua, (aP, .inr (0, [.ref aPb, .int (iI q3)])), bA G aPb 5632 E3]) (ws' := fun u => [(aI, .inr (5, [.ref aP, .ref aN, .ref aU])), (aN, .inr (3, [.ref aNl, .ref aNn, .ref aNt])), bA G aNl 480 nl, iA G aNn 40 nn, iA G aNt 3 nt, (aU, .inr (6, [.ref aUg, .ref aUd, .int (iI ur), .int (iI uv), .int (iI uf), .ref aN, .ref aUa])), iA G aUg 384 ug, iA G aUa 1536 ua, (aP, .inr (0, [.ref aPb, .int (iI q3)])), bA G aPb 5632 E3]) (q0 := 1) C k_I_93 kc_N_slotOfEvent (fun l sz => m_N_slotOfEvent l G sz aN aNl aNn aNt nt e (by unfold cnt at hct; omega)) rfl rfl (Nat.le_of_ble_eq_true rfl) (by decide) d_I_printPair_84 rfl rfl [1, 4] [0, 2, 3, 5, 6, 7, 8, 9] [0, 8, 1, 2, 9, 3, 4, 5, 6, 7] rfl rfl (by decide) (fun u => rfl) (fun r u h84 => ?_)
        obtain rfl := h84
        show Zc G X 5 0 0 [(aI, .inr (5, [.ref aP, .ref aN, .ref aU])), (aN, .inr (3, [.ref aNl, .ref aNn, .ref aNt])), bA G aNl 480 nl, iA G aNn 40 nn, iA G aNt 3 nt, (aU, .inr (6, [.ref aUg, .ref aUd, .int (iI ur), .int (iI uv), .int (iI uf), .ref aN, .ref aUa])), iA G aUg 384 ug, iA G aUa 1536 ua, (aP, .inr (0, [.ref aPb, .int (iI q3)])), bA G aPb 5632 E3] [(4, .int (iI (ug (prf nt s e).toNat))), (3, .int (iI (prf nt s e))), (0, .ref aI), (1, .int (iI s)), (2, .int (iI e))] 87 [.int (iI (evs (nt 1) e)), .ref aN]
        refine z_aload_n C d_I_printPair_87 2 rfl ?_
        refine z_get C f_I_9 d_I_printPair_88 0 rfl rfl ?_
        refine z_callv (As := [.int (iI (evs (nt 1) e)), .ref aP]) (rest := []) (wr := [(aI, .inr (5, [.ref aP, .ref aN, .ref aU])), iA G aNt 3 nt, (aU, .inr (6, [.ref aUg, .ref aUd, .int (iI ur), .int (iI uv), .int (iI uf), .ref aN, .ref aUa])), iA G aUg 384 ug, iA G aUa 1536 ua]) (ws' := fun u => [(aI, .inr (5, [.ref aP, .ref aN, .ref aU])), (aN, .inr (3, [.ref aNl, .ref aNn, .ref aNt])), bA G aNl 480 nl, iA G aNn 40 nn, iA G aNt 3 nt, (aU, .inr (6, [.ref aUg, .ref aUd, .int (iI ur), .int (iI uv), .int (iI uf), .ref aN, .ref aUa])), iA G aUg 384 ug, iA G aUa 1536 ua, (aP, .inr (0, [.ref aPb, .int (iI (q3 + ((nmC nl nn (evs (nt 1) e)).length : Int)))])), bA G aPb 5632 (wr E3 q3 (nmC nl nn (evs (nt 1) e)))]) (q0 := 1) C k_I_62 kc_N_write (fun l sz => m_N_write l G sz aN aNl aNn aNt nl nn aP aPb q3 E3 (evs (nt 1) e) (by have h9 := pg_fit hp3; have h8 := hn (evs (nt 1) e).toNat; omega)) rfl rfl (Nat.le_of_ble_eq_true rfl) (by decide) d_I_printPair_91 rfl rfl [1, 2, 3, 8, 9] [0, 4, 5, 6, 7] [0, 5, 6, 7, 1, 2, 3, 4, 8, 9] rfl rfl (by decide) (fun u => rfl) (fun u h91 => ?_)
        show Zc G X 5 0 0 [(aI, .inr (5, [.ref aP, .ref aN, .ref aU])), (aN, .inr (3, [.ref aNl, .ref aNn, .ref aNt])), bA G aNl 480 nl, iA G aNn 40 nn, iA G aNt 3 nt, (aU, .inr (6, [.ref aUg, .ref aUd, .int (iI ur), .int (iI uv), .int (iI uf), .ref aN, .ref aUa])), iA G aUg 384 ug, iA G aUa 1536 ua, (aP, .inr (0, [.ref aPb, .int (iI (q3 + ((nmC nl nn (evs (nt 1) e)).length : Int)))])), bA G aPb 5632 (wr E3 q3 (nmC nl nn (evs (nt 1) e)))] [(4, .int (iI (ug (prf nt s e).toNat))), (3, .int (iI (prf nt s e))), (0, .ref aI), (1, .int (iI s)), (2, .int (iI e))] 94 []
        have hp4 : wr (wr E3 q3 (nmC nl nn (evs (nt 1) e))) (q3 + ((nmC nl nn (evs (nt 1) e)).length : Int)) ([59, 10]) = wr pF pl (prL (nmC nl nn) nt ug ua s e) ∧ (q3 + ((nmC nl nn (evs (nt 1) e)).length : Int)) + (([59, 10]).length : Int) = pl + ((prL (nmC nl nn) nt ug ua s e).length : Int) := pg_next hp3
        have hg4 : 0 ≤ q3 + ((nmC nl nn (evs (nt 1) e)).length : Int) := by omega
        generalize wr E3 q3 (nmC nl nn (evs (nt 1) e)) = E4 at hp4 ⊢
        generalize q3 + ((nmC nl nn (evs (nt 1) e)).length : Int) = q4 at hp4 hg4 ⊢
        refine z_iload C d_I_printPair_94 0 rfl ?_
        refine z_bipush C d_I_printPair_96 (by decide) ?_
        refine z_icmp_eq (tgt := 137) C d_I_printPair_98 (by decide) (by omega) (by omega) (fun c98 => ?_) (fun c98 => ?_)
        ·
          have hp9 := pg_all hp4
          refine z_aload_n C d_I_printPair_137 2 rfl ?_
          refine z_callv (As := []) (rest := []) (wr := [(aN, .inr (3, [.ref aNl, .ref aNn, .ref aNt])), bA G aNl 480 nl, iA G aNn 40 nn, iA G aNt 3 nt, (aU, .inr (6, [.ref aUg, .ref aUd, .int (iI ur), .int (iI uv), .int (iI uf), .ref aN, .ref aUa])), iA G aUg 384 ug, iA G aUa 1536 ua]) (ws' := fun u => [(aI, .inr (5, [.ref aP, .ref aN, .ref aU])), (aN, .inr (3, [.ref aNl, .ref aNn, .ref aNt])), bA G aNl 480 nl, iA G aNn 40 nn, iA G aNt 3 nt, (aU, .inr (6, [.ref aUg, .ref aUd, .int (iI ur), .int (iI uv), .int (iI uf), .ref aN, .ref aUa])), iA G aUg 384 ug, iA G aUa 1536 ua, (aP, .inr (0, [.ref aPb, .int (iI (q4 + 2))])), bA G aPb 5632 (wr E4 q4 [59, 10])]) (q0 := 0) C k_I_66 kc_I_endLine (fun l sz => m_I_endLine l G sz aI aP aN aU aPb q4 E4 (by have h9 := pg_fit2 hp9; omega)) rfl rfl (Nat.le_of_ble_eq_true rfl) (by decide) d_I_printPair_138 rfl rfl [0, 8, 9] [1, 2, 3, 4, 5, 6, 7] [7, 0, 1, 2, 3, 4, 5, 6, 8, 9] rfl rfl (by decide) (fun u => rfl) (fun u h138 => ?_)
          show Zc G X 5 0 0 [(aI, .inr (5, [.ref aP, .ref aN, .ref aU])), (aN, .inr (3, [.ref aNl, .ref aNn, .ref aNt])), bA G aNl 480 nl, iA G aNn 40 nn, iA G aNt 3 nt, (aU, .inr (6, [.ref aUg, .ref aUd, .int (iI ur), .int (iI uv), .int (iI uf), .ref aN, .ref aUa])), iA G aUg 384 ug, iA G aUa 1536 ua, (aP, .inr (0, [.ref aPb, .int (iI (q4 + 2))])), bA G aPb 5632 (wr E4 q4 [59, 10])] [(4, .int (iI (ug (prf nt s e).toNat))), (3, .int (iI (prf nt s e))), (0, .ref aI), (1, .int (iI s)), (2, .int (iI e))] 141 []
          have hpz : wr (wr E4 q4 [59, 10]) (q4 + 2) ([]) = wr pF pl (prL (nmC nl nn) nt ug ua s e) ∧ (q4 + 2) + (([]).length : Int) = pl + ((prL (nmC nl nn) nt ug ua s e).length : Int) := pg_next hp9
          have hgz : 0 ≤ q4 + 2 := by omega
          generalize wr E4 q4 [59, 10] = Ez at hpz ⊢
          generalize q4 + 2 = qz at hpz hgz ⊢
          exact z_vret C K d_I_printPair_141 () (by rw [(pg_end hpz).1, (pg_end hpz).2]) (trivial)
        · exact absurd c98 (by omega)
    ·
      have ea : prL (nmC nl nn) nt ug ua s e = [] := by unfold prL; rw [if_pos (by omega)]
      exact z_vret C K d_I_printPair_32 () (by rw [ea, show pl + (([] : List Int).length : Int) = pl by simp]; rfl) (trivial)
set_option maxHeartbeats 4000000 in
set_option maxRecDepth 100000 in
theorem m_I_printAll (l : Launch) (G : GG) (sz : Nat) (aI : Nat) (aP : Nat) (aN : Nat) (aU : Nat) (aPb : Nat) (pl : Int) (pF : Nat → Int) (aNl : Nat) (aNn : Nat) (aNt : Nat) (nl : Nat → Int) (nn : Nat → Int) (nt : Nat → Int) (aUg : Nat) (aUd : Nat) (aUa : Nat) (ur : Int) (uv : Int) (uf : Int) (ug : Nat → Int) (ua : Nat → Int) (hn : ∀ j, 0 ≤ nn j ∧ nn j ≤ 12) (hct : cnt nt) (hg : gol ug) (ha : act ua) (hmc : ∀ p j : Int, aco ua p j ≤ 15 ∨ aco ua p j = 100 ∨ aco ua p j = 101) (huf : -1 ≤ uf ∧ uf < 16) (hpl : 0 + ((paL (nmC nl nn) nt ug ua uf).length : Int) ≤ 5632) : MetV l G sz y_I_printAll c_I_printAll 3 ({ frames := 8, cells := 0, slots := 0, locals := 174 } : Room) [.ref aI] [(aI, .inr (5, [.ref aP, .ref aN, .ref aU])), (aN, .inr (3, [.ref aNl, .ref aNn, .ref aNt])), bA G aNl 480 nl, iA G aNn 40 nn, iA G aNt 3 nt, (aU, .inr (6, [.ref aUg, .ref aUd, .int (iI ur), .int (iI uv), .int (iI uf), .ref aN, .ref aUa])), iA G aUg 384 ug, iA G aUa 1536 ua, (aP, .inr (0, [.ref aPb, .int (iI pl)])), bA G aPb 5632 pF] (fun (u : Unit) => True) (fun (u : Unit) => [(aI, .inr (5, [.ref aP, .ref aN, .ref aU])), (aN, .inr (3, [.ref aNl, .ref aNn, .ref aNt])), bA G aNl 480 nl, iA G aNn 40 nn, iA G aNt 3 nt, (aU, .inr (6, [.ref aUg, .ref aUd, .int (iI ur), .int (iI uv), .int (iI uf), .ref aN, .ref aUa])), iA G aUg 384 ug, iA G aUa 1536 ua, (aP, .inr (0, [.ref aPb, .int (iI (0 + ((paL (nmC nl nn) nt ug ua uf).length : Int)))])), bA G aPb 5632 (wr pF 0 (paL (nmC nl nn) nt ug ua uf))]) := by
  refine MetV.mk (by decide) (Nat.le_of_ble_eq_true rfl) (fun X C K => ?_)
  show Zc G X 3 0 0 [(aI, .inr (5, [.ref aP, .ref aN, .ref aU])), (aN, .inr (3, [.ref aNl, .ref aNn, .ref aNt])), bA G aNl 480 nl, iA G aNn 40 nn, iA G aNt 3 nt, (aU, .inr (6, [.ref aUg, .ref aUd, .int (iI ur), .int (iI uv), .int (iI uf), .ref aN, .ref aUa])), iA G aUg 384 ug, iA G aUa 1536 ua, (aP, .inr (0, [.ref aPb, .int (iI pl)])), bA G aPb 5632 pF] [(0, .ref aI)] 0 []
  have hcc := hct
  unfold cnt at hcc
  refine z_aload_n C d_I_printAll_0 0 rfl ?_
  refine z_get C f_I_9 d_I_printAll_1 0 rfl rfl ?_
  refine z_iconst C d_I_printAll_4 ?_
  refine z_put C f_I_23 ok_B nm_B d_I_printAll_5 8 rfl rfl rfl rfl (Nat.le_of_ble_eq_true rfl) [(aI, .inr (5, [.ref aP, .ref aN, .ref aU])), (aN, .inr (3, [.ref aNl, .ref aNn, .ref aNt])), bA G aNl 480 nl, iA G aNn 40 nn, iA G aNt 3 nt, (aU, .inr (6, [.ref aUg, .ref aUd, .int (iI ur), .int (iI uv), .int (iI uf), .ref aN, .ref aUa])), iA G aUg 384 ug, iA G aUa 1536 ua, (aP, .inr (0, [.ref aPb, .int (iI 0)])), bA G aPb 5632 pF] rfl ?_
  have hp0 : wr pF 0 (pnL (nmC nl nn) "state " 0 (nt 0) ++ (pnL (nmC nl nn) "ask " 16 (nt 1) ++ (pnL (nmC nl nn) "message " 24 (nt 2) ++ ((if uf = -1 then [] else wl "first " ++ (nmC nl nn uf ++ [59, 10])) ++ psL (nmC nl nn) nt ug ua (nt 0).toNat 0)))) = wr pF 0 (paL (nmC nl nn) nt ug ua uf) ∧ 0 + ((pnL (nmC nl nn) "state " 0 (nt 0) ++ (pnL (nmC nl nn) "ask " 16 (nt 1) ++ (pnL (nmC nl nn) "message " 24 (nt 2) ++ ((if uf = -1 then [] else wl "first " ++ (nmC nl nn uf ++ [59, 10])) ++ psL (nmC nl nn) nt ug ua (nt 0).toNat 0)))).length : Int) = 0 + ((paL (nmC nl nn) nt ug ua uf).length : Int) := ⟨rfl, rfl⟩
  refine z_aload_n C d_I_printAll_8 0 rfl ?_
  refine z_ldcS C d_I_printAll_9 (i := 0) rfl ?_
  refine z_iconst C d_I_printAll_11 ?_
  refine z_aload_n C d_I_printAll_12 0 rfl ?_
  refine z_get C f_I_15 d_I_printAll_13 0 rfl rfl ?_
  refine z_calli (As := []) (rest := [.int (iI 0), .ref (G.2.2.1 0), .ref aI]) (wr := [(aI, .inr (5, [.ref aP, .ref aN, .ref aU])), bA G aNl 480 nl, iA G aNn 40 nn, (aU, .inr (6, [.ref aUg, .ref aUd, .int (iI ur), .int (iI uv), .int (iI uf), .ref aN, .ref aUa])), iA G aUg 384 ug, iA G aUa 1536 ua, (aP, .inr (0, [.ref aPb, .int (iI 0)])), bA G aPb 5632 pF]) (ws' := fun u => [(aI, .inr (5, [.ref aP, .ref aN, .ref aU])), (aN, .inr (3, [.ref aNl, .ref aNn, .ref aNt])), bA G aNl 480 nl, iA G aNn 40 nn, iA G aNt 3 nt, (aU, .inr (6, [.ref aUg, .ref aUd, .int (iI ur), .int (iI uv), .int (iI uf), .ref aN, .ref aUa])), iA G aUg 384 ug, iA G aUa 1536 ua, (aP, .inr (0, [.ref aPb, .int (iI 0)])), bA G aPb 5632 pF]) (q0 := 1) C k_I_31 kc_N_states (fun l sz => m_N_states l G sz aN aNl aNn aNt nt ) rfl rfl (Nat.le_of_ble_eq_true rfl) (by decide) d_I_printAll_16 rfl rfl [1, 4] [0, 2, 3, 5, 6, 7, 8, 9] [0, 8, 1, 2, 9, 3, 4, 5, 6, 7] rfl rfl (by decide) (fun u => rfl) (fun r u h16 => ?_)
  obtain rfl := h16
  show Zc G X 3 0 0 [(aI, .inr (5, [.ref aP, .ref aN, .ref aU])), (aN, .inr (3, [.ref aNl, .ref aNn, .ref aNt])), bA G aNl 480 nl, iA G aNn 40 nn, iA G aNt 3 nt, (aU, .inr (6, [.ref aUg, .ref aUd, .int (iI ur), .int (iI uv), .int (iI uf), .ref aN, .ref aUa])), iA G aUg 384 ug, iA G aUa 1536 ua, (aP, .inr (0, [.ref aPb, .int (iI 0)])), bA G aPb 5632 pF] [(0, .ref aI)] 19 [.int (iI (nt 0)), .int (iI 0), .ref (G.2.2.1 0), .ref aI]
  refine z_callv (As := [.ref (G.2.2.1 0), .int (iI 0), .int (iI (nt 0))]) (rest := []) (wr := [iA G aNt 3 nt, (aU, .inr (6, [.ref aUg, .ref aUd, .int (iI ur), .int (iI uv), .int (iI uf), .ref aN, .ref aUa])), iA G aUg 384 ug, iA G aUa 1536 ua]) (ws' := fun u => [(aI, .inr (5, [.ref aP, .ref aN, .ref aU])), (aN, .inr (3, [.ref aNl, .ref aNn, .ref aNt])), bA G aNl 480 nl, iA G aNn 40 nn, iA G aNt 3 nt, (aU, .inr (6, [.ref aUg, .ref aUd, .int (iI ur), .int (iI uv), .int (iI uf), .ref aN, .ref aUa])), iA G aUg 384 ug, iA G aUa 1536 ua, (aP, .inr (0, [.ref aPb, .int (iI (0 + ((pnL (nmC nl nn) ("state ") 0 (nt 0)).length : Int)))])), bA G aPb 5632 (wr pF 0 (pnL (nmC nl nn) ("state ") 0 (nt 0)))]) (q0 := 0) C k_I_37 kc_I_printNames (fun l sz => m_I_printNames l G sz aI aP aN aU aPb 0 pF aNl aNn aNt nl nn 0 R_I 29 ("state ") 0 (nt 0) (rfl) (hn) (by omega) (by have h9 := pg_fit hp0; omega)) rfl rfl (Nat.le_of_ble_eq_true rfl) (by decide) d_I_printAll_19 rfl rfl [0, 1, 2, 3, 8, 9] [4, 5, 6, 7] [4, 5, 6, 7, 0, 1, 2, 3, 8, 9] rfl rfl (by decide) (fun u => rfl) (fun u h19 => ?_)
  show Zc G X 3 0 0 [(aI, .inr (5, [.ref aP, .ref aN, .ref aU])), (aN, .inr (3, [.ref aNl, .ref aNn, .ref aNt])), bA G aNl 480 nl, iA G aNn 40 nn, iA G aNt 3 nt, (aU, .inr (6, [.ref aUg, .ref aUd, .int (iI ur), .int (iI uv), .int (iI uf), .ref aN, .ref aUa])), iA G aUg 384 ug, iA G aUa 1536 ua, (aP, .inr (0, [.ref aPb, .int (iI (0 + ((pnL (nmC nl nn) ("state ") 0 (nt 0)).length : Int)))])), bA G aPb 5632 (wr pF 0 (pnL (nmC nl nn) ("state ") 0 (nt 0)))] [(0, .ref aI)] 22 []
  have hp1 : wr (wr pF 0 (pnL (nmC nl nn) ("state ") 0 (nt 0))) (0 + ((pnL (nmC nl nn) ("state ") 0 (nt 0)).length : Int)) (pnL (nmC nl nn) "ask " 16 (nt 1) ++ (pnL (nmC nl nn) "message " 24 (nt 2) ++ ((if uf = -1 then [] else wl "first " ++ (nmC nl nn uf ++ [59, 10])) ++ psL (nmC nl nn) nt ug ua (nt 0).toNat 0))) = wr pF 0 (paL (nmC nl nn) nt ug ua uf) ∧ (0 + ((pnL (nmC nl nn) ("state ") 0 (nt 0)).length : Int)) + ((pnL (nmC nl nn) "ask " 16 (nt 1) ++ (pnL (nmC nl nn) "message " 24 (nt 2) ++ ((if uf = -1 then [] else wl "first " ++ (nmC nl nn uf ++ [59, 10])) ++ psL (nmC nl nn) nt ug ua (nt 0).toNat 0))).length : Int) = 0 + ((paL (nmC nl nn) nt ug ua uf).length : Int) := pg_next hp0
  have hg1 : 0 ≤ 0 + ((pnL (nmC nl nn) ("state ") 0 (nt 0)).length : Int) := by omega
  generalize wr pF 0 (pnL (nmC nl nn) ("state ") 0 (nt 0)) = E1 at hp1 ⊢
  generalize 0 + ((pnL (nmC nl nn) ("state ") 0 (nt 0)).length : Int) = q1 at hp1 hg1 ⊢
  refine z_aload_n C d_I_printAll_22 0 rfl ?_
  refine z_ldcS C d_I_printAll_23 (i := 2) rfl ?_
  refine z_bipush C d_I_printAll_25 (by decide) ?_
  refine z_aload_n C d_I_printAll_27 0 rfl ?_
  refine z_get C f_I_15 d_I_printAll_28 0 rfl rfl ?_
  refine z_calli (As := []) (rest := [.int (iI 16), .ref (G.2.2.1 2), .ref aI]) (wr := [(aI, .inr (5, [.ref aP, .ref aN, .ref aU])), bA G aNl 480 nl, iA G aNn 40 nn, (aU, .inr (6, [.ref aUg, .ref aUd, .int (iI ur), .int (iI uv), .int (iI uf), .ref aN, .ref aUa])), iA G aUg 384 ug, iA G aUa 1536 ua, (aP, .inr (0, [.ref aPb, .int (iI q1)])), bA G aPb 5632 E1]) (ws' := fun u => [(aI, .inr (5, [.ref aP, .ref aN, .ref aU])), (aN, .inr (3, [.ref aNl, .ref aNn, .ref aNt])), bA G aNl 480 nl, iA G aNn 40 nn, iA G aNt 3 nt, (aU, .inr (6, [.ref aUg, .ref aUd, .int (iI ur), .int (iI uv), .int (iI uf), .ref aN, .ref aUa])), iA G aUg 384 ug, iA G aUa 1536 ua, (aP, .inr (0, [.ref aPb, .int (iI q1)])), bA G aPb 5632 E1]) (q0 := 1) C k_I_43 kc_N_asks (fun l sz => m_N_asks l G sz aN aNl aNn aNt nt ) rfl rfl (Nat.le_of_ble_eq_true rfl) (by decide) d_I_printAll_31 rfl rfl [1, 4] [0, 2, 3, 5, 6, 7, 8, 9] [0, 8, 1, 2, 9, 3, 4, 5, 6, 7] rfl rfl (by decide) (fun u => rfl) (fun r u h31 => ?_)
  obtain rfl := h31
  show Zc G X 3 0 0 [(aI, .inr (5, [.ref aP, .ref aN, .ref aU])), (aN, .inr (3, [.ref aNl, .ref aNn, .ref aNt])), bA G aNl 480 nl, iA G aNn 40 nn, iA G aNt 3 nt, (aU, .inr (6, [.ref aUg, .ref aUd, .int (iI ur), .int (iI uv), .int (iI uf), .ref aN, .ref aUa])), iA G aUg 384 ug, iA G aUa 1536 ua, (aP, .inr (0, [.ref aPb, .int (iI q1)])), bA G aPb 5632 E1] [(0, .ref aI)] 34 [.int (iI (nt 1)), .int (iI 16), .ref (G.2.2.1 2), .ref aI]
  refine z_callv (As := [.ref (G.2.2.1 2), .int (iI 16), .int (iI (nt 1))]) (rest := []) (wr := [iA G aNt 3 nt, (aU, .inr (6, [.ref aUg, .ref aUd, .int (iI ur), .int (iI uv), .int (iI uf), .ref aN, .ref aUa])), iA G aUg 384 ug, iA G aUa 1536 ua]) (ws' := fun u => [(aI, .inr (5, [.ref aP, .ref aN, .ref aU])), (aN, .inr (3, [.ref aNl, .ref aNn, .ref aNt])), bA G aNl 480 nl, iA G aNn 40 nn, iA G aNt 3 nt, (aU, .inr (6, [.ref aUg, .ref aUd, .int (iI ur), .int (iI uv), .int (iI uf), .ref aN, .ref aUa])), iA G aUg 384 ug, iA G aUa 1536 ua, (aP, .inr (0, [.ref aPb, .int (iI (q1 + ((pnL (nmC nl nn) ("ask ") 16 (nt 1)).length : Int)))])), bA G aPb 5632 (wr E1 q1 (pnL (nmC nl nn) ("ask ") 16 (nt 1)))]) (q0 := 0) C k_I_37 kc_I_printNames (fun l sz => m_I_printNames l G sz aI aP aN aU aPb q1 E1 aNl aNn aNt nl nn 2 R_I 41 ("ask ") 16 (nt 1) (rfl) (hn) (by omega) (by have h9 := pg_fit hp1; omega)) rfl rfl (Nat.le_of_ble_eq_true rfl) (by decide) d_I_printAll_34 rfl rfl [0, 1, 2, 3, 8, 9] [4, 5, 6, 7] [4, 5, 6, 7, 0, 1, 2, 3, 8, 9] rfl rfl (by decide) (fun u => rfl) (fun u h34 => ?_)
  show Zc G X 3 0 0 [(aI, .inr (5, [.ref aP, .ref aN, .ref aU])), (aN, .inr (3, [.ref aNl, .ref aNn, .ref aNt])), bA G aNl 480 nl, iA G aNn 40 nn, iA G aNt 3 nt, (aU, .inr (6, [.ref aUg, .ref aUd, .int (iI ur), .int (iI uv), .int (iI uf), .ref aN, .ref aUa])), iA G aUg 384 ug, iA G aUa 1536 ua, (aP, .inr (0, [.ref aPb, .int (iI (q1 + ((pnL (nmC nl nn) ("ask ") 16 (nt 1)).length : Int)))])), bA G aPb 5632 (wr E1 q1 (pnL (nmC nl nn) ("ask ") 16 (nt 1)))] [(0, .ref aI)] 37 []
  have hp2 : wr (wr E1 q1 (pnL (nmC nl nn) ("ask ") 16 (nt 1))) (q1 + ((pnL (nmC nl nn) ("ask ") 16 (nt 1)).length : Int)) (pnL (nmC nl nn) "message " 24 (nt 2) ++ ((if uf = -1 then [] else wl "first " ++ (nmC nl nn uf ++ [59, 10])) ++ psL (nmC nl nn) nt ug ua (nt 0).toNat 0)) = wr pF 0 (paL (nmC nl nn) nt ug ua uf) ∧ (q1 + ((pnL (nmC nl nn) ("ask ") 16 (nt 1)).length : Int)) + ((pnL (nmC nl nn) "message " 24 (nt 2) ++ ((if uf = -1 then [] else wl "first " ++ (nmC nl nn uf ++ [59, 10])) ++ psL (nmC nl nn) nt ug ua (nt 0).toNat 0)).length : Int) = 0 + ((paL (nmC nl nn) nt ug ua uf).length : Int) := pg_next hp1
  have hg2 : 0 ≤ q1 + ((pnL (nmC nl nn) ("ask ") 16 (nt 1)).length : Int) := by omega
  generalize wr E1 q1 (pnL (nmC nl nn) ("ask ") 16 (nt 1)) = E2 at hp2 ⊢
  generalize q1 + ((pnL (nmC nl nn) ("ask ") 16 (nt 1)).length : Int) = q2 at hp2 hg2 ⊢
  refine z_aload_n C d_I_printAll_37 0 rfl ?_
  refine z_ldcS C d_I_printAll_38 (i := 3) rfl ?_
  refine z_bipush C d_I_printAll_40 (by decide) ?_
  refine z_aload_n C d_I_printAll_42 0 rfl ?_
  refine z_get C f_I_15 d_I_printAll_43 0 rfl rfl ?_
  refine z_calli (As := []) (rest := [.int (iI 24), .ref (G.2.2.1 3), .ref aI]) (wr := [(aI, .inr (5, [.ref aP, .ref aN, .ref aU])), bA G aNl 480 nl, iA G aNn 40 nn, (aU, .inr (6, [.ref aUg, .ref aUd, .int (iI ur), .int (iI uv), .int (iI uf), .ref aN, .ref aUa])), iA G aUg 384 ug, iA G aUa 1536 ua, (aP, .inr (0, [.ref aPb, .int (iI q2)])), bA G aPb 5632 E2]) (ws' := fun u => [(aI, .inr (5, [.ref aP, .ref aN, .ref aU])), (aN, .inr (3, [.ref aNl, .ref aNn, .ref aNt])), bA G aNl 480 nl, iA G aNn 40 nn, iA G aNt 3 nt, (aU, .inr (6, [.ref aUg, .ref aUd, .int (iI ur), .int (iI uv), .int (iI uf), .ref aN, .ref aUa])), iA G aUg 384 ug, iA G aUa 1536 ua, (aP, .inr (0, [.ref aPb, .int (iI q2)])), bA G aPb 5632 E2]) (q0 := 1) C k_I_48 kc_N_messages (fun l sz => m_N_messages l G sz aN aNl aNn aNt nt ) rfl rfl (Nat.le_of_ble_eq_true rfl) (by decide) d_I_printAll_46 rfl rfl [1, 4] [0, 2, 3, 5, 6, 7, 8, 9] [0, 8, 1, 2, 9, 3, 4, 5, 6, 7] rfl rfl (by decide) (fun u => rfl) (fun r u h46 => ?_)
  obtain rfl := h46
  show Zc G X 3 0 0 [(aI, .inr (5, [.ref aP, .ref aN, .ref aU])), (aN, .inr (3, [.ref aNl, .ref aNn, .ref aNt])), bA G aNl 480 nl, iA G aNn 40 nn, iA G aNt 3 nt, (aU, .inr (6, [.ref aUg, .ref aUd, .int (iI ur), .int (iI uv), .int (iI uf), .ref aN, .ref aUa])), iA G aUg 384 ug, iA G aUa 1536 ua, (aP, .inr (0, [.ref aPb, .int (iI q2)])), bA G aPb 5632 E2] [(0, .ref aI)] 49 [.int (iI (nt 2)), .int (iI 24), .ref (G.2.2.1 3), .ref aI]
  refine z_callv (As := [.ref (G.2.2.1 3), .int (iI 24), .int (iI (nt 2))]) (rest := []) (wr := [iA G aNt 3 nt, (aU, .inr (6, [.ref aUg, .ref aUd, .int (iI ur), .int (iI uv), .int (iI uf), .ref aN, .ref aUa])), iA G aUg 384 ug, iA G aUa 1536 ua]) (ws' := fun u => [(aI, .inr (5, [.ref aP, .ref aN, .ref aU])), (aN, .inr (3, [.ref aNl, .ref aNn, .ref aNt])), bA G aNl 480 nl, iA G aNn 40 nn, iA G aNt 3 nt, (aU, .inr (6, [.ref aUg, .ref aUd, .int (iI ur), .int (iI uv), .int (iI uf), .ref aN, .ref aUa])), iA G aUg 384 ug, iA G aUa 1536 ua, (aP, .inr (0, [.ref aPb, .int (iI (q2 + ((pnL (nmC nl nn) ("message ") 24 (nt 2)).length : Int)))])), bA G aPb 5632 (wr E2 q2 (pnL (nmC nl nn) ("message ") 24 (nt 2)))]) (q0 := 0) C k_I_37 kc_I_printNames (fun l sz => m_I_printNames l G sz aI aP aN aU aPb q2 E2 aNl aNn aNt nl nn 3 R_I 46 ("message ") 24 (nt 2) (rfl) (hn) (by omega) (by have h9 := pg_fit hp2; omega)) rfl rfl (Nat.le_of_ble_eq_true rfl) (by decide) d_I_printAll_49 rfl rfl [0, 1, 2, 3, 8, 9] [4, 5, 6, 7] [4, 5, 6, 7, 0, 1, 2, 3, 8, 9] rfl rfl (by decide) (fun u => rfl) (fun u h49 => ?_)
  show Zc G X 3 0 0 [(aI, .inr (5, [.ref aP, .ref aN, .ref aU])), (aN, .inr (3, [.ref aNl, .ref aNn, .ref aNt])), bA G aNl 480 nl, iA G aNn 40 nn, iA G aNt 3 nt, (aU, .inr (6, [.ref aUg, .ref aUd, .int (iI ur), .int (iI uv), .int (iI uf), .ref aN, .ref aUa])), iA G aUg 384 ug, iA G aUa 1536 ua, (aP, .inr (0, [.ref aPb, .int (iI (q2 + ((pnL (nmC nl nn) ("message ") 24 (nt 2)).length : Int)))])), bA G aPb 5632 (wr E2 q2 (pnL (nmC nl nn) ("message ") 24 (nt 2)))] [(0, .ref aI)] 52 []
  have hp3 : wr (wr E2 q2 (pnL (nmC nl nn) ("message ") 24 (nt 2))) (q2 + ((pnL (nmC nl nn) ("message ") 24 (nt 2)).length : Int)) ((if uf = -1 then [] else wl "first " ++ (nmC nl nn uf ++ [59, 10])) ++ psL (nmC nl nn) nt ug ua (nt 0).toNat 0) = wr pF 0 (paL (nmC nl nn) nt ug ua uf) ∧ (q2 + ((pnL (nmC nl nn) ("message ") 24 (nt 2)).length : Int)) + (((if uf = -1 then [] else wl "first " ++ (nmC nl nn uf ++ [59, 10])) ++ psL (nmC nl nn) nt ug ua (nt 0).toNat 0).length : Int) = 0 + ((paL (nmC nl nn) nt ug ua uf).length : Int) := pg_next hp2
  have hg3 : 0 ≤ q2 + ((pnL (nmC nl nn) ("message ") 24 (nt 2)).length : Int) := by omega
  generalize wr E2 q2 (pnL (nmC nl nn) ("message ") 24 (nt 2)) = E3 at hp3 ⊢
  generalize q2 + ((pnL (nmC nl nn) ("message ") 24 (nt 2)).length : Int) = q3 at hp3 hg3 ⊢
  refine z_aload_n C d_I_printAll_52 0 rfl ?_
  refine z_get C f_I_19 d_I_printAll_53 0 rfl rfl ?_
  refine z_get C f_I_51 d_I_printAll_56 5 rfl rfl ?_
  refine z_iconst C d_I_printAll_59 ?_
  refine z_icmp_eq (tgt := 94) C d_I_printAll_60 (by decide) (by omega) (by omega) (fun c60 => ?_) (fun c60 => ?_)
  ·
    rw [if_pos c60, List.nil_append] at hp3
    have hp6 := hp3
    have hg6 := hg3
    refine z_iconst C d_I_printAll_94 ?_
    refine z_istore_n (lv' := [(1, .int (iI 0)), (0, .ref aI)]) C d_I_printAll_95 (by decide) rfl ?_
    have loop96 : ∀ (kq : Nat) (s : Int) (q : Int) (E : Nat → Int), (0 ≤ s ∧ s ≤ nt 0 ∧ 0 ≤ q) → (wr E q (psL (nmC nl nn) nt ug ua (nt 0 - s).toNat s) = wr pF 0 (paL (nmC nl nn) nt ug ua uf) ∧ q + ((psL (nmC nl nn) nt ug ua (nt 0 - s).toNat s).length : Int) = 0 + ((paL (nmC nl nn) nt ug ua uf).length : Int)) → ((nt 0 - s).toNat < kq) → Zc G X 3 0 0 [(aI, .inr (5, [.ref aP, .ref aN, .ref aU])), (aN, .inr (3, [.ref aNl, .ref aNn, .ref aNt])), bA G aNl 480 nl, iA G aNn 40 nn, iA G aNt 3 nt, (aU, .inr (6, [.ref aUg, .ref aUd, .int (iI ur), .int (iI uv), .int (iI uf), .ref aN, .ref aUa])), iA G aUg 384 ug, iA G aUa 1536 ua, (aP, .inr (0, [.ref aPb, .int (iI q)])), bA G aPb 5632 E] [(0, .ref aI), (1, .int (iI s))] 96 [] := by
      intro kq
      induction kq with
      | zero => intro s q E hk hE hm; exact absurd hm (Nat.not_lt_zero _)
      | succ kq ih96 =>
        intro s q E hk hE hm
        -- loop body
        refine z_iload_n C d_I_printAll_96 1 rfl ?_
        refine z_aload_n C d_I_printAll_97 0 rfl ?_
        refine z_get C f_I_15 d_I_printAll_98 0 rfl rfl ?_
        refine z_calli (As := []) (rest := [.int (iI s)]) (wr := [(aI, .inr (5, [.ref aP, .ref aN, .ref aU])), bA G aNl 480 nl, iA G aNn 40 nn, (aU, .inr (6, [.ref aUg, .ref aUd, .int (iI ur), .int (iI uv), .int (iI uf), .ref aN, .ref aUa])), iA G aUg 384 ug, iA G aUa 1536 ua, (aP, .inr (0, [.ref aPb, .int (iI q)])), bA G aPb 5632 E]) (ws' := fun u => [(aI, .inr (5, [.ref aP, .ref aN, .ref aU])), (aN, .inr (3, [.ref aNl, .ref aNn, .ref aNt])), bA G aNl 480 nl, iA G aNn 40 nn, iA G aNt 3 nt, (aU, .inr (6, [.ref aUg, .ref aUd, .int (iI ur), .int (iI uv), .int (iI uf), .ref aN, .ref aUa])), iA G aUg 384 ug, iA G aUa 1536 ua, (aP, .inr (0, [.ref aPb, .int (iI q)])), bA G aPb 5632 E]) (q0 := 1) C k_I_31 kc_N_states (fun l sz => m_N_states l G sz aN aNl aNn aNt nt ) rfl rfl (Nat.le_of_ble_eq_true rfl) (by decide) d_I_printAll_101 rfl rfl [1, 4] [0, 2, 3, 5, 6, 7, 8, 9] [0, 8, 1, 2, 9, 3, 4, 5, 6, 7] rfl rfl (by decide) (fun u => rfl) (fun r u h101 => ?_)
        obtain rfl := h101
        show Zc G X 3 0 0 [(aI, .inr (5, [.ref aP, .ref aN, .ref aU])), (aN, .inr (3, [.ref aNl, .ref aNn, .ref aNt])), bA G aNl 480 nl, iA G aNn 40 nn, iA G aNt 3 nt, (aU, .inr (6, [.ref aUg, .ref aUd, .int (iI ur), .int (iI uv), .int (iI uf), .ref aN, .ref aUa])), iA G aUg 384 ug, iA G aUa 1536 ua, (aP, .inr (0, [.ref aPb, .int (iI q)])), bA G aPb 5632 E] [(0, .ref aI), (1, .int (iI s))] 104 [.int (iI (nt 0)), .int (iI s)]
        refine z_icmp_ge (tgt := 138) C d_I_printAll_104 (by decide) (by omega) (by omega) (fun c104 => ?_) (fun c104 => ?_)
        ·
          rw [show (nt 0 - s).toNat = 0 by omega] at hE
          exact z_vret C K d_I_printAll_138 () (by rw [(pg_end hE).1, (pg_end hE).2]) (trivial)
        ·
          refine z_iconst C d_I_printAll_107 ?_
          refine z_istore_n (lv' := [(2, .int (iI 0)), (0, .ref aI), (1, .int (iI s))]) C d_I_printAll_108 (by decide) rfl ?_
          have loop109 : ∀ (kq : Nat) (e : Int) (p : Int) (D : Nat → Int), (0 ≤ e ∧ e ≤ nt 1 + nt 2 ∧ 0 ≤ p) → (wr D p (peL (nmC nl nn) nt ug ua s (nt 1 + nt 2 - e).toNat e ++ psL (nmC nl nn) nt ug ua (nt 0 - (s + 1)).toNat (s + 1)) = wr pF 0 (paL (nmC nl nn) nt ug ua uf) ∧ p + ((peL (nmC nl nn) nt ug ua s (nt 1 + nt 2 - e).toNat e ++ psL (nmC nl nn) nt ug ua (nt 0 - (s + 1)).toNat (s + 1)).length : Int) = 0 + ((paL (nmC nl nn) nt ug ua uf).length : Int)) → ((nt 1 + nt 2 - e).toNat < kq) → Zc G X 3 0 0 [(aI, .inr (5, [.ref aP, .ref aN, .ref aU])), (aN, .inr (3, [.ref aNl, .ref aNn, .ref aNt])), bA G aNl 480 nl, iA G aNn 40 nn, iA G aNt 3 nt, (aU, .inr (6, [.ref aUg, .ref aUd, .int (iI ur), .int (iI uv), .int (iI uf), .ref aN, .ref aUa])), iA G aUg 384 ug, iA G aUa 1536 ua, (aP, .inr (0, [.ref aPb, .int (iI p)])), bA G aPb 5632 D] [(0, .ref aI), (1, .int (iI s)), (2, .int (iI e))] 109 [] := by
            intro kq
            induction kq with
            | zero => intro e p D hj hF hm; exact absurd hm (Nat.not_lt_zero _)
            | succ kq ih109 =>
              intro e p D hj hF hm
              -- loop body
              refine z_iload_n C d_I_printAll_109 2 rfl ?_
              refine z_aload_n C d_I_printAll_110 0 rfl ?_
              refine z_get C f_I_15 d_I_printAll_111 0 rfl rfl ?_
              refine z_calli (As := []) (rest := [.int (iI e)]) (wr := [(aI, .inr (5, [.ref aP, .ref aN, .ref aU])), bA G aNl 480 nl, iA G aNn 40 nn, (aU, .inr (6, [.ref aUg, .ref aUd, .int (iI ur), .int (iI uv), .int (iI uf), .ref aN, .ref aUa])), iA G aUg 384 ug, iA G aUa 1536 ua, (aP, .inr (0, [.ref aPb, .int (iI p)])), bA G aPb 5632 D]) (ws' := fun u => [(aI, .inr (5, [.ref aP, .ref aN, .ref aU])), (aN, .inr (3, [.ref aNl, .ref aNn, .ref aNt])), bA G aNl 480 nl, iA G aNn 40 nn, iA G aNt 3 nt, (aU, .inr (6, [.ref aUg, .ref aUd, .int (iI ur), .int (iI uv), .int (iI uf), .ref aN, .ref aUa])), iA G aUg 384 ug, iA G aUa 1536 ua, (aP, .inr (0, [.ref aPb, .int (iI p)])), bA G aPb 5632 D]) (q0 := 1) C k_I_69 kc_N_events (fun l sz => m_N_events l G sz aN aNl aNn aNt nt ) rfl rfl (Nat.le_of_ble_eq_true rfl) (by decide) d_I_printAll_114 rfl rfl [1, 4] [0, 2, 3, 5, 6, 7, 8, 9] [0, 8, 1, 2, 9, 3, 4, 5, 6, 7] rfl rfl (by decide) (fun u => rfl) (fun r u h114 => ?_)
              obtain rfl := h114
              show Zc G X 3 0 0 [(aI, .inr (5, [.ref aP, .ref aN, .ref aU])), (aN, .inr (3, [.ref aNl, .ref aNn, .ref aNt])), bA G aNl 480 nl, iA G aNn 40 nn, iA G aNt 3 nt, (aU, .inr (6, [.ref aUg, .ref aUd, .int (iI ur), .int (iI uv), .int (iI uf), .ref aN, .ref aUa])), iA G aUg 384 ug, iA G aUa 1536 ua, (aP, .inr (0, [.ref aPb, .int (iI p)])), bA G aPb 5632 D] [(0, .ref aI), (1, .int (iI s)), (2, .int (iI e))] 117 [.int (iI (nt 1 + nt 2)), .int (iI e)]
              refine z_icmp_ge (tgt := 132) C d_I_printAll_117 (by decide) (by omega) (by omega) (fun c117 => ?_) (fun c117 => ?_)
              ·
                refine z_iinc (lv' := [(1, .int (iI (s + 1))), (0, .ref aI), (2, .int (iI e))]) C d_I_printAll_132 1 rfl (by decide) rfl ?_
                refine z_goto (tgt := 96) C d_I_printAll_135 (by decide) ?_
                refine z_lv [1, 0] (lv' := [(0, .ref aI), (1, .int (iI (s + 1)))]) rfl ?_
                rw [show (nt 1 + nt 2 - e).toNat = 0 by omega] at hF
                have hF2 := hF
                rw [show peL (nmC nl nn) nt ug ua s 0 e = [] from rfl, List.nil_append] at hF2
                exact ih96 _ _ _ (by omega) (hF2) (by omega)
              ·
                rw [peL_step (nmC nl nn) nt ug ua s (by omega), List.append_assoc] at hF
                refine z_aload_n C d_I_printAll_120 0 rfl ?_
                refine z_iload_n C d_I_printAll_121 1 rfl ?_
                refine z_iload_n C d_I_printAll_122 2 rfl ?_
                refine z_callv (As := [.int (iI s), .int (iI e)]) (rest := []) (wr := []) (ws' := fun u => [(aI, .inr (5, [.ref aP, .ref aN, .ref aU])), (aN, .inr (3, [.ref aNl, .ref aNn, .ref aNt])), bA G aNl 480 nl, iA G aNn 40 nn, iA G aNt 3 nt, (aU, .inr (6, [.ref aUg, .ref aUd, .int (iI ur), .int (iI uv), .int (iI uf), .ref aN, .ref aUa])), iA G aUg 384 ug, iA G aUa 1536 ua, (aP, .inr (0, [.ref aPb, .int (iI (p + ((prL (nmC nl nn) nt ug ua s e).length : Int)))])), bA G aPb 5632 (wr D p (prL (nmC nl nn) nt ug ua s e))]) (q0 := 0) C k_I_72 kc_I_printPair (fun l sz => m_I_printPair l G sz aI aP aN aU aPb p D aNl aNn aNt nl nn nt aUg aUd aUa ur uv uf ug ua s e (hn) (hct) (hg) (ha) (hmc) (by omega) (by have h9 := pg_fit hF; omega)) rfl rfl (Nat.le_of_ble_eq_true rfl) (by decide) d_I_printAll_123 rfl rfl [0, 1, 2, 3, 4, 5, 6, 7, 8, 9] [] [0, 1, 2, 3, 4, 5, 6, 7, 8, 9] rfl rfl (by decide) (fun u => rfl) (fun u h123 => ?_)
                show Zc G X 3 0 0 [(aI, .inr (5, [.ref aP, .ref aN, .ref aU])), (aN, .inr (3, [.ref aNl, .ref aNn, .ref aNt])), bA G aNl 480 nl, iA G aNn 40 nn, iA G aNt 3 nt, (aU, .inr (6, [.ref aUg, .ref aUd, .int (iI ur), .int (iI uv), .int (iI uf), .ref aN, .ref aUa])), iA G aUg 384 ug, iA G aUa 1536 ua, (aP, .inr (0, [.ref aPb, .int (iI (p + ((prL (nmC nl nn) nt ug ua s e).length : Int)))])), bA G aPb 5632 (wr D p (prL (nmC nl nn) nt ug ua s e))] [(0, .ref aI), (1, .int (iI s)), (2, .int (iI e))] 126 []
                have hp8 : wr (wr D p (prL (nmC nl nn) nt ug ua s e)) (p + ((prL (nmC nl nn) nt ug ua s e).length : Int)) (peL (nmC nl nn) nt ug ua s (nt 1 + nt 2 - (e + 1)).toNat (e + 1) ++ psL (nmC nl nn) nt ug ua (nt 0 - (s + 1)).toNat (s + 1)) = wr pF 0 (paL (nmC nl nn) nt ug ua uf) ∧ (p + ((prL (nmC nl nn) nt ug ua s e).length : Int)) + ((peL (nmC nl nn) nt ug ua s (nt 1 + nt 2 - (e + 1)).toNat (e + 1) ++ psL (nmC nl nn) nt ug ua (nt 0 - (s + 1)).toNat (s + 1)).length : Int) = 0 + ((paL (nmC nl nn) nt ug ua uf).length : Int) := pg_next hF
                have hg8 : 0 ≤ p + ((prL (nmC nl nn) nt ug ua s e).length : Int) := by omega
                generalize wr D p (prL (nmC nl nn) nt ug ua s e) = E8 at hp8 ⊢
                generalize p + ((prL (nmC nl nn) nt ug ua s e).length : Int) = q8 at hp8 hg8 ⊢
                refine z_iinc (lv' := [(2, .int (iI (e + 1))), (0, .ref aI), (1, .int (iI s))]) C d_I_printAll_126 2 rfl (by decide) rfl ?_
                refine z_goto (tgt := 109) C d_I_printAll_129 (by decide) ?_
                refine z_lv [1, 2, 0] (lv' := [(0, .ref aI), (1, .int (iI s)), (2, .int (iI (e + 1)))]) rfl ?_
                exact ih109 _ _ _ (by omega) (hp8) (by omega)
          refine z_lv [1, 2, 0] (lv' := [(0, .ref aI), (1, .int (iI s)), (2, .int (iI 0))]) rfl ?_
          exact loop109 (_ + 1) _ _ _ (by omega) (by rw [Int.sub_zero, ← psL_step (nmC nl nn) nt ug ua (by omega)]; exact hE) (Nat.lt_succ_self _)
    refine z_lv [1, 0] (lv' := [(0, .ref aI), (1, .int (iI 0))]) rfl ?_
    exact loop96 (_ + 1) _ _ _ (by omega) (by rw [Int.sub_zero]; exact hp6) (Nat.lt_succ_self _)
  ·
    rw [if_neg c60, List.append_assoc, List.append_assoc] at hp3
    refine z_aload_n C d_I_printAll_63 0 rfl ?_
    refine z_get C f_I_9 d_I_printAll_64 0 rfl rfl ?_
    refine z_ldcS C d_I_printAll_67 (i := 4) rfl ?_
    refine z_callv (As := [.ref (G.2.2.1 4)]) (rest := []) (wr := [(aI, .inr (5, [.ref aP, .ref aN, .ref aU])), (aN, .inr (3, [.ref aNl, .ref aNn, .ref aNt])), bA G aNl 480 nl, iA G aNn 40 nn, iA G aNt 3 nt, (aU, .inr (6, [.ref aUg, .ref aUd, .int (iI ur), .int (iI uv), .int (iI uf), .ref aN, .ref aUa])), iA G aUg 384 ug, iA G aUa 1536 ua]) (ws' := fun u => [(aI, .inr (5, [.ref aP, .ref aN, .ref aU])), (aN, .inr (3, [.ref aNl, .ref aNn, .ref aNt])), bA G aNl 480 nl, iA G aNn 40 nn, iA G aNt 3 nt, (aU, .inr (6, [.ref aUg, .ref aUd, .int (iI ur), .int (iI uv), .int (iI uf), .ref aN, .ref aUa])), iA G aUg 384 ug, iA G aUa 1536 ua, (aP, .inr (0, [.ref aPb, .int (iI (q3 + ((wl ("first ")).length : Int)))])), bA G aPb 5632 (wr E3 q3 (wl ("first ")))]) (q0 := 8) C k_I_58 kc_B_addText (fun l sz => m_B_addText l G sz aP aPb 5632 q3 E3 4 R_I 56 ("first ") (rfl) (by have h9 := pg_fit hp3; omega)) rfl rfl (Nat.le_of_ble_eq_true rfl) (by decide) d_I_printAll_69 rfl rfl [8, 9] [0, 1, 2, 3, 4, 5, 6, 7] [0, 1, 2, 3, 4, 5, 6, 7, 8, 9] rfl rfl (by decide) (fun u => rfl) (fun u h69 => ?_)
    show Zc G X 3 0 0 [(aI, .inr (5, [.ref aP, .ref aN, .ref aU])), (aN, .inr (3, [.ref aNl, .ref aNn, .ref aNt])), bA G aNl 480 nl, iA G aNn 40 nn, iA G aNt 3 nt, (aU, .inr (6, [.ref aUg, .ref aUd, .int (iI ur), .int (iI uv), .int (iI uf), .ref aN, .ref aUa])), iA G aUg 384 ug, iA G aUa 1536 ua, (aP, .inr (0, [.ref aPb, .int (iI (q3 + ((wl ("first ")).length : Int)))])), bA G aPb 5632 (wr E3 q3 (wl ("first ")))] [(0, .ref aI)] 72 []
    have hp4 : wr (wr E3 q3 (wl ("first "))) (q3 + ((wl ("first ")).length : Int)) (nmC nl nn uf ++ ([59, 10] ++ psL (nmC nl nn) nt ug ua (nt 0).toNat 0)) = wr pF 0 (paL (nmC nl nn) nt ug ua uf) ∧ (q3 + ((wl ("first ")).length : Int)) + ((nmC nl nn uf ++ ([59, 10] ++ psL (nmC nl nn) nt ug ua (nt 0).toNat 0)).length : Int) = 0 + ((paL (nmC nl nn) nt ug ua uf).length : Int) := pg_next hp3
    have hg4 : 0 ≤ q3 + ((wl ("first ")).length : Int) := by omega
    generalize wr E3 q3 (wl ("first ")) = E4 at hp4 ⊢
    generalize q3 + ((wl ("first ")).length : Int) = q4 at hp4 hg4 ⊢
    refine z_aload_n C d_I_printAll_72 0 rfl ?_
    refine z_get C f_I_15 d_I_printAll_73 0 rfl rfl ?_
    refine z_aload_n C d_I_printAll_76 0 rfl ?_
    refine z_get C f_I_19 d_I_printAll_77 0 rfl rfl ?_
    refine z_get C f_I_51 d_I_printAll_80 5 rfl rfl ?_
    refine z_aload_n C d_I_printAll_83 0 rfl ?_
    refine z_get C f_I_9 d_I_printAll_84 0 rfl rfl ?_
    refine z_callv (As := [.int (iI uf), .ref aP]) (rest := []) (wr := [(aI, .inr (5, [.ref aP, .ref aN, .ref aU])), iA G aNt 3 nt, (aU, .inr (6, [.ref aUg, .ref aUd, .int (iI ur), .int (iI uv), .int (iI uf), .ref aN, .ref aUa])), iA G aUg 384 ug, iA G aUa 1536 ua]) (ws' := fun u => [(aI, .inr (5, [.ref aP, .ref aN, .ref aU])), (aN, .inr (3, [.ref aNl, .ref aNn, .ref aNt])), bA G aNl 480 nl, iA G aNn 40 nn, iA G aNt 3 nt, (aU, .inr (6, [.ref aUg, .ref aUd, .int (iI ur), .int (iI uv), .int (iI uf), .ref aN, .ref aUa])), iA G aUg 384 ug, iA G aUa 1536 ua, (aP, .inr (0, [.ref aPb, .int (iI (q4 + ((nmC nl nn uf).length : Int)))])), bA G aPb 5632 (wr E4 q4 (nmC nl nn uf))]) (q0 := 1) C k_I_62 kc_N_write (fun l sz => m_N_write l G sz aN aNl aNn aNt nl nn aP aPb q4 E4 uf (by have h9 := pg_fit hp4; have h8 := hn (uf).toNat; omega)) rfl rfl (Nat.le_of_ble_eq_true rfl) (by decide) d_I_printAll_87 rfl rfl [1, 2, 3, 8, 9] [0, 4, 5, 6, 7] [0, 5, 6, 7, 1, 2, 3, 4, 8, 9] rfl rfl (by decide) (fun u => rfl) (fun u h87 => ?_)
    show Zc G X 3 0 0 [(aI, .inr (5, [.ref aP, .ref aN, .ref aU])), (aN, .inr (3, [.ref aNl, .ref aNn, .ref aNt])), bA G aNl 480 nl, iA G aNn 40 nn, iA G aNt 3 nt, (aU, .inr (6, [.ref aUg, .ref aUd, .int (iI ur), .int (iI uv), .int (iI uf), .ref aN, .ref aUa])), iA G aUg 384 ug, iA G aUa 1536 ua, (aP, .inr (0, [.ref aPb, .int (iI (q4 + ((nmC nl nn uf).length : Int)))])), bA G aPb 5632 (wr E4 q4 (nmC nl nn uf))] [(0, .ref aI)] 90 []
    have hp5 : wr (wr E4 q4 (nmC nl nn uf)) (q4 + ((nmC nl nn uf).length : Int)) ([59, 10] ++ psL (nmC nl nn) nt ug ua (nt 0).toNat 0) = wr pF 0 (paL (nmC nl nn) nt ug ua uf) ∧ (q4 + ((nmC nl nn uf).length : Int)) + (([59, 10] ++ psL (nmC nl nn) nt ug ua (nt 0).toNat 0).length : Int) = 0 + ((paL (nmC nl nn) nt ug ua uf).length : Int) := pg_next hp4
    have hg5 : 0 ≤ q4 + ((nmC nl nn uf).length : Int) := by omega
    generalize wr E4 q4 (nmC nl nn uf) = E5 at hp5 ⊢
    generalize q4 + ((nmC nl nn uf).length : Int) = q5 at hp5 hg5 ⊢
    refine z_aload_n C d_I_printAll_90 0 rfl ?_
    refine z_callv (As := []) (rest := []) (wr := [(aN, .inr (3, [.ref aNl, .ref aNn, .ref aNt])), bA G aNl 480 nl, iA G aNn 40 nn, iA G aNt 3 nt, (aU, .inr (6, [.ref aUg, .ref aUd, .int (iI ur), .int (iI uv), .int (iI uf), .ref aN, .ref aUa])), iA G aUg 384 ug, iA G aUa 1536 ua]) (ws' := fun u => [(aI, .inr (5, [.ref aP, .ref aN, .ref aU])), (aN, .inr (3, [.ref aNl, .ref aNn, .ref aNt])), bA G aNl 480 nl, iA G aNn 40 nn, iA G aNt 3 nt, (aU, .inr (6, [.ref aUg, .ref aUd, .int (iI ur), .int (iI uv), .int (iI uf), .ref aN, .ref aUa])), iA G aUg 384 ug, iA G aUa 1536 ua, (aP, .inr (0, [.ref aPb, .int (iI (q5 + 2))])), bA G aPb 5632 (wr E5 q5 [59, 10])]) (q0 := 0) C k_I_66 kc_I_endLine (fun l sz => m_I_endLine l G sz aI aP aN aU aPb q5 E5 (by have h9 := pg_fit2 hp5; omega)) rfl rfl (Nat.le_of_ble_eq_true rfl) (by decide) d_I_printAll_91 rfl rfl [0, 8, 9] [1, 2, 3, 4, 5, 6, 7] [7, 0, 1, 2, 3, 4, 5, 6, 8, 9] rfl rfl (by decide) (fun u => rfl) (fun u h91 => ?_)
    show Zc G X 3 0 0 [(aI, .inr (5, [.ref aP, .ref aN, .ref aU])), (aN, .inr (3, [.ref aNl, .ref aNn, .ref aNt])), bA G aNl 480 nl, iA G aNn 40 nn, iA G aNt 3 nt, (aU, .inr (6, [.ref aUg, .ref aUd, .int (iI ur), .int (iI uv), .int (iI uf), .ref aN, .ref aUa])), iA G aUg 384 ug, iA G aUa 1536 ua, (aP, .inr (0, [.ref aPb, .int (iI (q5 + 2))])), bA G aPb 5632 (wr E5 q5 [59, 10])] [(0, .ref aI)] 94 []
    have hp6 : wr (wr E5 q5 [59, 10]) (q5 + 2) (psL (nmC nl nn) nt ug ua (nt 0).toNat 0) = wr pF 0 (paL (nmC nl nn) nt ug ua uf) ∧ (q5 + 2) + ((psL (nmC nl nn) nt ug ua (nt 0).toNat 0).length : Int) = 0 + ((paL (nmC nl nn) nt ug ua uf).length : Int) := pg_next hp5
    have hg6 : 0 ≤ q5 + 2 := by omega
    generalize wr E5 q5 [59, 10] = E6 at hp6 ⊢
    generalize q5 + 2 = q6 at hp6 hg6 ⊢
    refine z_iconst C d_I_printAll_94 ?_
    refine z_istore_n (lv' := [(1, .int (iI 0)), (0, .ref aI)]) C d_I_printAll_95 (by decide) rfl ?_
    have loop96 : ∀ (kq : Nat) (s : Int) (q : Int) (E : Nat → Int), (0 ≤ s ∧ s ≤ nt 0 ∧ 0 ≤ q) → (wr E q (psL (nmC nl nn) nt ug ua (nt 0 - s).toNat s) = wr pF 0 (paL (nmC nl nn) nt ug ua uf) ∧ q + ((psL (nmC nl nn) nt ug ua (nt 0 - s).toNat s).length : Int) = 0 + ((paL (nmC nl nn) nt ug ua uf).length : Int)) → ((nt 0 - s).toNat < kq) → Zc G X 3 0 0 [(aI, .inr (5, [.ref aP, .ref aN, .ref aU])), (aN, .inr (3, [.ref aNl, .ref aNn, .ref aNt])), bA G aNl 480 nl, iA G aNn 40 nn, iA G aNt 3 nt, (aU, .inr (6, [.ref aUg, .ref aUd, .int (iI ur), .int (iI uv), .int (iI uf), .ref aN, .ref aUa])), iA G aUg 384 ug, iA G aUa 1536 ua, (aP, .inr (0, [.ref aPb, .int (iI q)])), bA G aPb 5632 E] [(0, .ref aI), (1, .int (iI s))] 96 [] := by
      intro kq
      induction kq with
      | zero => intro s q E hk hE hm; exact absurd hm (Nat.not_lt_zero _)
      | succ kq ih96 =>
        intro s q E hk hE hm
        -- loop body
        refine z_iload_n C d_I_printAll_96 1 rfl ?_
        refine z_aload_n C d_I_printAll_97 0 rfl ?_
        refine z_get C f_I_15 d_I_printAll_98 0 rfl rfl ?_
        refine z_calli (As := []) (rest := [.int (iI s)]) (wr := [(aI, .inr (5, [.ref aP, .ref aN, .ref aU])), bA G aNl 480 nl, iA G aNn 40 nn, (aU, .inr (6, [.ref aUg, .ref aUd, .int (iI ur), .int (iI uv), .int (iI uf), .ref aN, .ref aUa])), iA G aUg 384 ug, iA G aUa 1536 ua, (aP, .inr (0, [.ref aPb, .int (iI q)])), bA G aPb 5632 E]) (ws' := fun u => [(aI, .inr (5, [.ref aP, .ref aN, .ref aU])), (aN, .inr (3, [.ref aNl, .ref aNn, .ref aNt])), bA G aNl 480 nl, iA G aNn 40 nn, iA G aNt 3 nt, (aU, .inr (6, [.ref aUg, .ref aUd, .int (iI ur), .int (iI uv), .int (iI uf), .ref aN, .ref aUa])), iA G aUg 384 ug, iA G aUa 1536 ua, (aP, .inr (0, [.ref aPb, .int (iI q)])), bA G aPb 5632 E]) (q0 := 1) C k_I_31 kc_N_states (fun l sz => m_N_states l G sz aN aNl aNn aNt nt ) rfl rfl (Nat.le_of_ble_eq_true rfl) (by decide) d_I_printAll_101 rfl rfl [1, 4] [0, 2, 3, 5, 6, 7, 8, 9] [0, 8, 1, 2, 9, 3, 4, 5, 6, 7] rfl rfl (by decide) (fun u => rfl) (fun r u h101 => ?_)
        obtain rfl := h101
        show Zc G X 3 0 0 [(aI, .inr (5, [.ref aP, .ref aN, .ref aU])), (aN, .inr (3, [.ref aNl, .ref aNn, .ref aNt])), bA G aNl 480 nl, iA G aNn 40 nn, iA G aNt 3 nt, (aU, .inr (6, [.ref aUg, .ref aUd, .int (iI ur), .int (iI uv), .int (iI uf), .ref aN, .ref aUa])), iA G aUg 384 ug, iA G aUa 1536 ua, (aP, .inr (0, [.ref aPb, .int (iI q)])), bA G aPb 5632 E] [(0, .ref aI), (1, .int (iI s))] 104 [.int (iI (nt 0)), .int (iI s)]
        refine z_icmp_ge (tgt := 138) C d_I_printAll_104 (by decide) (by omega) (by omega) (fun c104 => ?_) (fun c104 => ?_)
        ·
          rw [show (nt 0 - s).toNat = 0 by omega] at hE
          exact z_vret C K d_I_printAll_138 () (by rw [(pg_end hE).1, (pg_end hE).2]) (trivial)
        ·
          refine z_iconst C d_I_printAll_107 ?_
          refine z_istore_n (lv' := [(2, .int (iI 0)), (0, .ref aI), (1, .int (iI s))]) C d_I_printAll_108 (by decide) rfl ?_
          have loop109 : ∀ (kq : Nat) (e : Int) (p : Int) (D : Nat → Int), (0 ≤ e ∧ e ≤ nt 1 + nt 2 ∧ 0 ≤ p) → (wr D p (peL (nmC nl nn) nt ug ua s (nt 1 + nt 2 - e).toNat e ++ psL (nmC nl nn) nt ug ua (nt 0 - (s + 1)).toNat (s + 1)) = wr pF 0 (paL (nmC nl nn) nt ug ua uf) ∧ p + ((peL (nmC nl nn) nt ug ua s (nt 1 + nt 2 - e).toNat e ++ psL (nmC nl nn) nt ug ua (nt 0 - (s + 1)).toNat (s + 1)).length : Int) = 0 + ((paL (nmC nl nn) nt ug ua uf).length : Int)) → ((nt 1 + nt 2 - e).toNat < kq) → Zc G X 3 0 0 [(aI, .inr (5, [.ref aP, .ref aN, .ref aU])), (aN, .inr (3, [.ref aNl, .ref aNn, .ref aNt])), bA G aNl 480 nl, iA G aNn 40 nn, iA G aNt 3 nt, (aU, .inr (6, [.ref aUg, .ref aUd, .int (iI ur), .int (iI uv), .int (iI uf), .ref aN, .ref aUa])), iA G aUg 384 ug, iA G aUa 1536 ua, (aP, .inr (0, [.ref aPb, .int (iI p)])), bA G aPb 5632 D] [(0, .ref aI), (1, .int (iI s)), (2, .int (iI e))] 109 [] := by
            intro kq
            induction kq with
            | zero => intro e p D hj hF hm; exact absurd hm (Nat.not_lt_zero _)
            | succ kq ih109 =>
              intro e p D hj hF hm
              -- loop body
              refine z_iload_n C d_I_printAll_109 2 rfl ?_
              refine z_aload_n C d_I_printAll_110 0 rfl ?_
              refine z_get C f_I_15 d_I_printAll_111 0 rfl rfl ?_
              refine z_calli (As := []) (rest := [.int (iI e)]) (wr := [(aI, .inr (5, [.ref aP, .ref aN, .ref aU])), bA G aNl 480 nl, iA G aNn 40 nn, (aU, .inr (6, [.ref aUg, .ref aUd, .int (iI ur), .int (iI uv), .int (iI uf), .ref aN, .ref aUa])), iA G aUg 384 ug, iA G aUa 1536 ua, (aP, .inr (0, [.ref aPb, .int (iI p)])), bA G aPb 5632 D]) (ws' := fun u => [(aI, .inr (5, [.ref aP, .ref aN, .ref aU])), (aN, .inr (3, [.ref aNl, .ref aNn, .ref aNt])), bA G aNl 480 nl, iA G aNn 40 nn, iA G aNt 3 nt, (aU, .inr (6, [.ref aUg, .ref aUd, .int (iI ur), .int (iI uv), .int (iI uf), .ref aN, .ref aUa])), iA G aUg 384 ug, iA G aUa 1536 ua, (aP, .inr (0, [.ref aPb, .int (iI p)])), bA G aPb 5632 D]) (q0 := 1) C k_I_69 kc_N_events (fun l sz => m_N_events l G sz aN aNl aNn aNt nt ) rfl rfl (Nat.le_of_ble_eq_true rfl) (by decide) d_I_printAll_114 rfl rfl [1, 4] [0, 2, 3, 5, 6, 7, 8, 9] [0, 8, 1, 2, 9, 3, 4, 5, 6, 7] rfl rfl (by decide) (fun u => rfl) (fun r u h114 => ?_)
              obtain rfl := h114
              show Zc G X 3 0 0 [(aI, .inr (5, [.ref aP, .ref aN, .ref aU])), (aN, .inr (3, [.ref aNl, .ref aNn, .ref aNt])), bA G aNl 480 nl, iA G aNn 40 nn, iA G aNt 3 nt, (aU, .inr (6, [.ref aUg, .ref aUd, .int (iI ur), .int (iI uv), .int (iI uf), .ref aN, .ref aUa])), iA G aUg 384 ug, iA G aUa 1536 ua, (aP, .inr (0, [.ref aPb, .int (iI p)])), bA G aPb 5632 D] [(0, .ref aI), (1, .int (iI s)), (2, .int (iI e))] 117 [.int (iI (nt 1 + nt 2)), .int (iI e)]
              refine z_icmp_ge (tgt := 132) C d_I_printAll_117 (by decide) (by omega) (by omega) (fun c117 => ?_) (fun c117 => ?_)
              ·
                refine z_iinc (lv' := [(1, .int (iI (s + 1))), (0, .ref aI), (2, .int (iI e))]) C d_I_printAll_132 1 rfl (by decide) rfl ?_
                refine z_goto (tgt := 96) C d_I_printAll_135 (by decide) ?_
                refine z_lv [1, 0] (lv' := [(0, .ref aI), (1, .int (iI (s + 1)))]) rfl ?_
                rw [show (nt 1 + nt 2 - e).toNat = 0 by omega] at hF
                have hF2 := hF
                rw [show peL (nmC nl nn) nt ug ua s 0 e = [] from rfl, List.nil_append] at hF2
                exact ih96 _ _ _ (by omega) (hF2) (by omega)
              ·
                rw [peL_step (nmC nl nn) nt ug ua s (by omega), List.append_assoc] at hF
                refine z_aload_n C d_I_printAll_120 0 rfl ?_
                refine z_iload_n C d_I_printAll_121 1 rfl ?_
                refine z_iload_n C d_I_printAll_122 2 rfl ?_
                refine z_callv (As := [.int (iI s), .int (iI e)]) (rest := []) (wr := []) (ws' := fun u => [(aI, .inr (5, [.ref aP, .ref aN, .ref aU])), (aN, .inr (3, [.ref aNl, .ref aNn, .ref aNt])), bA G aNl 480 nl, iA G aNn 40 nn, iA G aNt 3 nt, (aU, .inr (6, [.ref aUg, .ref aUd, .int (iI ur), .int (iI uv), .int (iI uf), .ref aN, .ref aUa])), iA G aUg 384 ug, iA G aUa 1536 ua, (aP, .inr (0, [.ref aPb, .int (iI (p + ((prL (nmC nl nn) nt ug ua s e).length : Int)))])), bA G aPb 5632 (wr D p (prL (nmC nl nn) nt ug ua s e))]) (q0 := 0) C k_I_72 kc_I_printPair (fun l sz => m_I_printPair l G sz aI aP aN aU aPb p D aNl aNn aNt nl nn nt aUg aUd aUa ur uv uf ug ua s e (hn) (hct) (hg) (ha) (hmc) (by omega) (by have h9 := pg_fit hF; omega)) rfl rfl (Nat.le_of_ble_eq_true rfl) (by decide) d_I_printAll_123 rfl rfl [0, 1, 2, 3, 4, 5, 6, 7, 8, 9] [] [0, 1, 2, 3, 4, 5, 6, 7, 8, 9] rfl rfl (by decide) (fun u => rfl) (fun u h123 => ?_)
                show Zc G X 3 0 0 [(aI, .inr (5, [.ref aP, .ref aN, .ref aU])), (aN, .inr (3, [.ref aNl, .ref aNn, .ref aNt])), bA G aNl 480 nl, iA G aNn 40 nn, iA G aNt 3 nt, (aU, .inr (6, [.ref aUg, .ref aUd, .int (iI ur), .int (iI uv), .int (iI uf), .ref aN, .ref aUa])), iA G aUg 384 ug, iA G aUa 1536 ua, (aP, .inr (0, [.ref aPb, .int (iI (p + ((prL (nmC nl nn) nt ug ua s e).length : Int)))])), bA G aPb 5632 (wr D p (prL (nmC nl nn) nt ug ua s e))] [(0, .ref aI), (1, .int (iI s)), (2, .int (iI e))] 126 []
                have hp8 : wr (wr D p (prL (nmC nl nn) nt ug ua s e)) (p + ((prL (nmC nl nn) nt ug ua s e).length : Int)) (peL (nmC nl nn) nt ug ua s (nt 1 + nt 2 - (e + 1)).toNat (e + 1) ++ psL (nmC nl nn) nt ug ua (nt 0 - (s + 1)).toNat (s + 1)) = wr pF 0 (paL (nmC nl nn) nt ug ua uf) ∧ (p + ((prL (nmC nl nn) nt ug ua s e).length : Int)) + ((peL (nmC nl nn) nt ug ua s (nt 1 + nt 2 - (e + 1)).toNat (e + 1) ++ psL (nmC nl nn) nt ug ua (nt 0 - (s + 1)).toNat (s + 1)).length : Int) = 0 + ((paL (nmC nl nn) nt ug ua uf).length : Int) := pg_next hF
                have hg8 : 0 ≤ p + ((prL (nmC nl nn) nt ug ua s e).length : Int) := by omega
                generalize wr D p (prL (nmC nl nn) nt ug ua s e) = E8 at hp8 ⊢
                generalize p + ((prL (nmC nl nn) nt ug ua s e).length : Int) = q8 at hp8 hg8 ⊢
                refine z_iinc (lv' := [(2, .int (iI (e + 1))), (0, .ref aI), (1, .int (iI s))]) C d_I_printAll_126 2 rfl (by decide) rfl ?_
                refine z_goto (tgt := 109) C d_I_printAll_129 (by decide) ?_
                refine z_lv [1, 2, 0] (lv' := [(0, .ref aI), (1, .int (iI s)), (2, .int (iI (e + 1)))]) rfl ?_
                exact ih109 _ _ _ (by omega) (hp8) (by omega)
          refine z_lv [1, 2, 0] (lv' := [(0, .ref aI), (1, .int (iI s)), (2, .int (iI 0))]) rfl ?_
          exact loop109 (_ + 1) _ _ _ (by omega) (by rw [Int.sub_zero, ← psL_step (nmC nl nn) nt ug ua (by omega)]; exact hE) (Nat.lt_succ_self _)
    refine z_lv [1, 0] (lv' := [(0, .ref aI), (1, .int (iI 0))]) rfl ?_
    exact loop96 (_ + 1) _ _ _ (by omega) (by rw [Int.sub_zero]; exact hp6) (Nat.lt_succ_self _)
