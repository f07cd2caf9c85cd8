theorem df_B : ∀ j, j < 2 → defaultValue (ty_B j) = vp_V [.null, .int (iI 0)] j := fun j hj => match j, hj with
  | 0, _ => rfl
  | 1, _ => rfl
  | _ + 2, h => absurd h (by omega)
theorem df_D : ∀ j, j < 5 → defaultValue (ty_D j) = vp_V [.null, .null, .null, .null, .int (iI 0)] j := fun j hj => match j, hj with
  | 0, _ => rfl
  | 1, _ => rfl
  | 2, _ => rfl
  | 3, _ => rfl
  | 4, _ => rfl
  | _ + 5, h => absurd h (by omega)
theorem df_L : ∀ j, j < 4 → defaultValue (ty_L j) = vp_V [.null, .int (iI 0), .int (iI 0), .int (iI 0)] j := fun j hj => match j, hj with
  | 0, _ => rfl
  | 1, _ => rfl
  | 2, _ => rfl
  | 3, _ => rfl
  | _ + 4, h => absurd h (by omega)
theorem df_N : ∀ j, j < 3 → defaultValue (ty_N j) = vp_V [.null, .null, .null] j := fun j hj => match j, hj with
  | 0, _ => rfl
  | 1, _ => rfl
  | 2, _ => rfl
  | _ + 3, h => absurd h (by omega)
theorem df_P : ∀ j, j < 10 → defaultValue (ty_P j) = vp_V [.null, .null, .null, .int (iI 0), .int (iI 0), .int (iI 0), .int (iI 0), .int (iI 0), .int (iI 0), .int (iI 0)] j := fun j hj => match j, hj with
  | 0, _ => rfl
  | 1, _ => rfl
  | 2, _ => rfl
  | 3, _ => rfl
  | 4, _ => rfl
  | 5, _ => rfl
  | 6, _ => rfl
  | 7, _ => rfl
  | 8, _ => rfl
  | 9, _ => rfl
  | _ + 10, h => absurd h (by omega)
theorem df_I : ∀ j, j < 3 → defaultValue (ty_I j) = vp_V [.null, .null, .null] j := fun j hj => match j, hj with
  | 0, _ => rfl
  | 1, _ => rfl
  | 2, _ => rfl
  | _ + 3, h => absurd h (by omega)
theorem df_T : ∀ j, j < 7 → defaultValue (ty_T j) = vp_V [.null, .null, .int (iI 0), .int (iI 0), .int (iI 0), .null, .null] j := fun j hj => match j, hj with
  | 0, _ => rfl
  | 1, _ => rfl
  | 2, _ => rfl
  | 3, _ => rfl
  | 4, _ => rfl
  | 5, _ => rfl
  | 6, _ => rfl
  | _ + 7, h => absurd h (by omega)
theorem df_X : ∀ j, j < 9 → defaultValue (ty_X j) = vp_V [.null, .null, .null, .null, .null, .null, .null, .int (iI 0), .int (iI 0)] j := fun j hj => match j, hj with
  | 0, _ => rfl
  | 1, _ => rfl
  | 2, _ => rfl
  | 3, _ => rfl
  | 4, _ => rfl
  | 5, _ => rfl
  | 6, _ => rfl
  | 7, _ => rfl
  | 8, _ => rfl
  | _ + 9, h => absurd h (by omega)
theorem df_M : ∀ j, j < 28 → defaultValue (ty_M j) = vp_V [.null, .int (iI 0), .int (iI 0), .null, .int (iI 0), .null, .int (iI 0), .int (iI 0), .int (iI 0), .int (iI 0), .null, .null, .null, .null, .null, .null, .null, .int (iI 0), .int (iI 0), .int (iI 0), .null, .null, .null, .null, .int (iI 0), .int (iI 0), .int (iI 0), .int (iI 0)] j := fun j hj => match j, hj with
  | 0, _ => rfl
  | 1, _ => rfl
  | 2, _ => rfl
  | 3, _ => rfl
  | 4, _ => rfl
  | 5, _ => rfl
  | 6, _ => rfl
  | 7, _ => rfl
  | 8, _ => rfl
  | 9, _ => rfl
  | 10, _ => rfl
  | 11, _ => rfl
  | 12, _ => rfl
  | 13, _ => rfl
  | 14, _ => rfl
  | 15, _ => rfl
  | 16, _ => rfl
  | 17, _ => rfl
  | 18, _ => rfl
  | 19, _ => rfl
  | 20, _ => rfl
  | 21, _ => rfl
  | 22, _ => rfl
  | 23, _ => rfl
  | 24, _ => rfl
  | 25, _ => rfl
  | 26, _ => rfl
  | 27, _ => rfl
  | _ + 28, h => absurd h (by omega)
def wcp (k j : Nat) : Int := (wcL.take k).getD j 0
theorem wck {k : Nat} {v : Int} (h : wcL[k]? = some v) : uZ (wcp k) k v = wcp (k + 1) := by
  funext j
  unfold uZ wcp
  rw [List.getD_eq_getElem?_getD, List.getD_eq_getElem?_getD, List.getElem?_take, List.getElem?_take]
  by_cases z : j = k
  · rw [if_pos z, z, if_pos (Nat.lt_succ_self k), h]
    rfl
  · rw [if_neg z]
    by_cases y : j < k
    · rw [if_pos y, if_pos (by omega)]
    · rw [if_neg y, if_neg (by omega)]
theorem wcp_48 : wcp 48 = wch := by
  funext j
  unfold wcp wch
  rw [List.take_of_length_le (by decide)]
set_option maxHeartbeats 4000000 in
set_option maxRecDepth 100000 in
theorem m_B_init (l : Launch) (G : GG) (sz : Nat) (aB : Nat) (aBb : Nat)  : MetV l G sz y_B_init c_B_init 2 ({ frames := 1, cells := 0, slots := 0, locals := 20 } : Room) [.ref aB, .ref aBb] [(aB, .inr (0, [.null, .int (iI 0)]))] (fun (u : Unit) => True) (fun (u : Unit) => [(aB, .inr (0, [.ref aBb, .int (iI 0)]))]) := by
  refine MetV.mkI (by decide) rfl (Nat.le_of_ble_eq_true rfl) (fun X C I K => ?_)
  show Zc G X 2 0 0 [(aB, .inr (0, [.null, .int (iI 0)]))] [(0, .ref aB), (1, .ref aBb)] 0 []
  refine z_aload_n C d_B_init_0 0 rfl ?_
  refine z_oinit C ml_B_3 d_B_init_1 (by decide) (by decide) ?_
  refine z_aload_n C d_B_init_4 0 rfl ?_
  refine z_aload_n C d_B_init_5 1 rfl ?_
  refine z_putF C I f_B_9 ok_B nm_B d_B_init_6 0 rfl rfl rfl rfl rfl (Nat.le_of_ble_eq_true rfl) [(aB, .inr (0, [.ref aBb, .int (iI 0)]))] rfl ?_
  refine z_aload_n C d_B_init_9 0 rfl ?_
  refine z_iconst C d_B_init_10 ?_
  refine z_put C f_B_15 ok_B nm_B d_B_init_11 0 rfl rfl rfl rfl (Nat.le_of_ble_eq_true rfl) [(aB, .inr (0, [.ref aBb, .int (iI 0)]))] rfl ?_
  exact z_vret C K d_B_init_14 () (rfl) (trivial)
set_option maxHeartbeats 4000000 in
set_option maxRecDepth 100000 in
theorem m_N_init (l : Launch) (G : GG) (sz : Nat) (aN : Nat)  : MetV l G sz y_N_init c_N_init 1 ({ frames := 1, cells := 3, slots := 523, locals := 20 } : Room) [.ref aN] [(aN, .inr (3, [.null, .null, .null]))] (fun (u : Nat × Nat × Nat) => True) (fun (u : Nat × Nat × Nat) => [(aN, .inr (3, [.ref u.1, .ref u.2.1, .ref u.2.2])), bA G u.1 480 (fun _ => 0), iA G u.2.1 40 (fun _ => 0), iA G u.2.2 3 (fun _ => 0)]) := by
  refine MetV.mkI (by decide) rfl (Nat.le_of_ble_eq_true rfl) (fun X C I K => ?_)
  show Zc G X 1 0 0 [(aN, .inr (3, [.null, .null, .null]))] [(0, .ref aN)] 0 []
  refine z_aload_n C d_N_init_0 0 rfl ?_
  refine z_oinit C ml_N_5 d_N_init_1 (by decide) (by decide) ?_
  refine z_aload_n C d_N_init_4 0 rfl ?_
  refine z_sipush C d_N_init_5 (by decide) ?_
  refine z_newb C d_N_init_8 (by omega) (by decide) (fun aNl => ?_)
  show Zc G X 1 1 480 [(aN, .inr (3, [.null, .null, .null])), bA G aNl 480 (fun _ => 0)] [(0, .ref aN)] 10 [.ref aNl, .ref aN]
  refine z_putF C I f_N_11 ok_N nm_N d_N_init_10 0 rfl rfl rfl rfl rfl (Nat.le_of_ble_eq_true rfl) [(aN, .inr (3, [.ref aNl, .null, .null])), bA G aNl 480 (fun _ => 0)] rfl ?_
  refine z_aload_n C d_N_init_13 0 rfl ?_
  refine z_bipush C d_N_init_14 (by decide) ?_
  refine z_newi C d_N_init_16 (by omega) (by decide) (fun aNn => ?_)
  show Zc G X 1 2 520 [(aN, .inr (3, [.ref aNl, .null, .null])), bA G aNl 480 (fun _ => 0), iA G aNn 40 (fun _ => 0)] [(0, .ref aN)] 18 [.ref aNn, .ref aN]
  refine z_putF C I f_N_15 ok_N nm_N d_N_init_18 0 rfl rfl rfl rfl rfl (Nat.le_of_ble_eq_true rfl) [(aN, .inr (3, [.ref aNl, .ref aNn, .null])), bA G aNl 480 (fun _ => 0), iA G aNn 40 (fun _ => 0)] rfl ?_
  refine z_aload_n C d_N_init_21 0 rfl ?_
  refine z_iconst C d_N_init_22 ?_
  refine z_newi C d_N_init_23 (by omega) (by decide) (fun aNt => ?_)
  show Zc G X 1 3 523 [(aN, .inr (3, [.ref aNl, .ref aNn, .null])), bA G aNl 480 (fun _ => 0), iA G aNn 40 (fun _ => 0), iA G aNt 3 (fun _ => 0)] [(0, .ref aN)] 25 [.ref aNt, .ref aN]
  refine z_putF C I f_N_19 ok_N nm_N d_N_init_25 0 rfl rfl rfl rfl rfl (Nat.le_of_ble_eq_true rfl) [(aN, .inr (3, [.ref aNl, .ref aNn, .ref aNt])), bA G aNl 480 (fun _ => 0), iA G aNn 40 (fun _ => 0), iA G aNt 3 (fun _ => 0)] rfl ?_
  exact z_vret C K d_N_init_28 (aNl, aNn, aNt) (rfl) (trivial)
set_option maxHeartbeats 4000000 in
set_option maxRecDepth 100000 in
theorem m_T_init (l : Launch) (G : GG) (sz : Nat) (aU : Nat) (aN : Nat)  : MetV l G sz y_T_init c_T_init 2 ({ frames := 2, cells := 3, slots := 1936, locals := 43 } : Room) [.ref aU, .ref aN] [(aU, .inr (6, [.null, .null, .int (iI 0), .int (iI 0), .int (iI 0), .null, .null]))] (fun (u : Nat × Nat × Nat) => True) (fun (u : Nat × Nat × Nat) => [(aU, .inr (6, [.ref u.1, .ref u.2.1, .int (iI 0), .int (iI 0), .int (iI (-1)), .ref aN, .ref u.2.2])), iA G u.1 384 (flZ 384 (-1) (fun _ => 0)), iA G u.2.1 16 (flZ 16 (-1) (fun _ => 0)), iA G u.2.2 1536 (flZ 1536 (-1) (fun _ => 0))]) := by
  refine MetV.mkI (by decide) rfl (Nat.le_of_ble_eq_true rfl) (fun X C I K => ?_)
  show Zc G X 2 0 0 [(aU, .inr (6, [.null, .null, .int (iI 0), .int (iI 0), .int (iI 0), .null, .null]))] [(0, .ref aU), (1, .ref aN)] 0 []
  refine z_aload_n C d_T_init_0 0 rfl ?_
  refine z_oinit C ml_T_5 d_T_init_1 (by decide) (by decide) ?_
  refine z_aload_n C d_T_init_4 0 rfl ?_
  refine z_sipush C d_T_init_5 (by decide) ?_
  refine z_newi C d_T_init_8 (by omega) (by decide) (fun aUg => ?_)
  show Zc G X 2 1 384 [(aU, .inr (6, [.null, .null, .int (iI 0), .int (iI 0), .int (iI 0), .null, .null])), iA G aUg 384 (fun _ => 0)] [(0, .ref aU), (1, .ref aN)] 10 [.ref aUg, .ref aU]
  refine z_putF C I f_T_13 ok_T nm_T d_T_init_10 0 rfl rfl rfl rfl rfl (Nat.le_of_ble_eq_true rfl) [(aU, .inr (6, [.ref aUg, .null, .int (iI 0), .int (iI 0), .int (iI 0), .null, .null])), iA G aUg 384 (fun _ => 0)] rfl ?_
  refine z_aload_n C d_T_init_13 0 rfl ?_
  refine z_bipush C d_T_init_14 (by decide) ?_
  refine z_newi C d_T_init_16 (by omega) (by decide) (fun aUd => ?_)
  show Zc G X 2 2 400 [(aU, .inr (6, [.ref aUg, .null, .int (iI 0), .int (iI 0), .int (iI 0), .null, .null])), iA G aUg 384 (fun _ => 0), iA G aUd 16 (fun _ => 0)] [(0, .ref aU), (1, .ref aN)] 18 [.ref aUd, .ref aU]
  refine z_putF C I f_T_17 ok_T nm_T d_T_init_18 0 rfl rfl rfl rfl rfl (Nat.le_of_ble_eq_true rfl) [(aU, .inr (6, [.ref aUg, .ref aUd, .int (iI 0), .int (iI 0), .int (iI 0), .null, .null])), iA G aUg 384 (fun _ => 0), iA G aUd 16 (fun _ => 0)] rfl ?_
  refine z_aload_n C d_T_init_21 0 rfl ?_
  refine z_sipush C d_T_init_22 (by decide) ?_
  refine z_newi C d_T_init_25 (by omega) (by decide) (fun aUa => ?_)
  show Zc G X 2 3 1936 [(aU, .inr (6, [.ref aUg, .ref aUd, .int (iI 0), .int (iI 0), .int (iI 0), .null, .null])), iA G aUg 384 (fun _ => 0), iA G aUd 16 (fun _ => 0), iA G aUa 1536 (fun _ => 0)] [(0, .ref aU), (1, .ref aN)] 27 [.ref aUa, .ref aU]
  refine z_putF C I f_T_20 ok_T nm_T d_T_init_27 0 rfl rfl rfl rfl rfl (Nat.le_of_ble_eq_true rfl) [(aU, .inr (6, [.ref aUg, .ref aUd, .int (iI 0), .int (iI 0), .int (iI 0), .null, .ref aUa])), iA G aUg 384 (fun _ => 0), iA G aUd 16 (fun _ => 0), iA G aUa 1536 (fun _ => 0)] rfl ?_
  refine z_aload_n C d_T_init_30 0 rfl ?_
  refine z_aload_n C d_T_init_31 1 rfl ?_
  refine z_putF C I f_T_23 ok_T nm_T d_T_init_32 0 rfl rfl rfl rfl rfl (Nat.le_of_ble_eq_true rfl) [(aU, .inr (6, [.ref aUg, .ref aUd, .int (iI 0), .int (iI 0), .int (iI 0), .ref aN, .ref aUa])), iA G aUg 384 (fun _ => 0), iA G aUd 16 (fun _ => 0), iA G aUa 1536 (fun _ => 0)] rfl ?_
  refine z_aload_n C d_T_init_35 0 rfl ?_
  refine z_callv (As := []) (rest := []) (wr := []) (ws' := fun u => [(aU, .inr (6, [.ref aUg, .ref aUd, .int (iI 0), .int (iI 0), .int (iI (-1)), .ref aN, .ref aUa])), iA G aUg 384 (flZ 384 (-1) (fun _ => 0)), iA G aUd 16 (flZ 16 (-1) (fun _ => 0)), iA G aUa 1536 (flZ 1536 (-1) (fun _ => 0))]) (q0 := 0) C k_T_27 kc_T_forget (fun l sz => m_T_forget l G sz aU aUg aUd aUa 0 0 0 aN (fun _ => 0) (fun _ => 0) (fun _ => 0) ) rfl rfl (Nat.le_of_ble_eq_true rfl) (by decide) d_T_init_36 rfl rfl [0, 1, 2, 3] [] [0, 1, 2, 3] rfl rfl (by decide) (fun u => rfl) (fun u h36 => ?_)
  show Zc G X 2 3 1936 [(aU, .inr (6, [.ref aUg, .ref aUd, .int (iI 0), .int (iI 0), .int (iI (-1)), .ref aN, .ref aUa])), iA G aUg 384 (flZ 384 (-1) (fun _ => 0)), iA G aUd 16 (flZ 16 (-1) (fun _ => 0)), iA G aUa 1536 (flZ 1536 (-1) (fun _ => 0))] [(0, .ref aU), (1, .ref aN)] 39 []
  exact z_vret C K d_T_init_39 (aUg, aUd, aUa) (rfl) (trivial)
set_option maxHeartbeats 4000000 in
set_option maxRecDepth 100000 in
theorem m_L_init (l : Launch) (G : GG) (sz : Nat) (aL : Nat) (aT : Nat)  : MetV l G sz y_L_init c_L_init 2 ({ frames := 1, cells := 0, slots := 0, locals := 20 } : Room) [.ref aL, .ref aT] [(aL, .inr (2, [.null, .int (iI 0), .int (iI 0), .int (iI 0)]))] (fun (u : Unit) => True) (fun (u : Unit) => [(aL, .inr (2, [.ref aT, .int (iI 0), .int (iI 0), .int (iI 0)]))]) := by
  refine MetV.mkI (by decide) rfl (Nat.le_of_ble_eq_true rfl) (fun X C I K => ?_)
  show Zc G X 2 0 0 [(aL, .inr (2, [.null, .int (iI 0), .int (iI 0), .int (iI 0)]))] [(0, .ref aL), (1, .ref aT)] 0 []
  refine z_aload_n C d_L_init_0 0 rfl ?_
  refine z_oinit C ml_L_3 d_L_init_1 (by decide) (by decide) ?_
  refine z_aload_n C d_L_init_4 0 rfl ?_
  refine z_aload_n C d_L_init_5 1 rfl ?_
  refine z_putF C I f_L_9 ok_L nm_L d_L_init_6 0 rfl rfl rfl rfl rfl (Nat.le_of_ble_eq_true rfl) [(aL, .inr (2, [.ref aT, .int (iI 0), .int (iI 0), .int (iI 0)]))] rfl ?_
  exact z_vret C K d_L_init_9 () (rfl) (trivial)
set_option maxHeartbeats 4000000 in
set_option maxRecDepth 100000 in
theorem m_P_init (l : Launch) (G : GG) (sz : Nat) (aV : Nat) (aL : Nat) (aN : Nat) (aU : Nat)  : MetV l G sz y_P_init c_P_init 4 ({ frames := 1, cells := 0, slots := 0, locals := 20 } : Room) [.ref aV, .ref aL, .ref aN, .ref aU] [(aV, .inr (4, [.null, .null, .null, .int (iI 0), .int (iI 0), .int (iI 0), .int (iI 0), .int (iI 0), .int (iI 0), .int (iI 0)]))] (fun (u : Unit) => True) (fun (u : Unit) => [(aV, .inr (4, [.ref aL, .ref aN, .ref aU, .int (iI 0), .int (iI 0), .int (iI 0), .int (iI 0), .int (iI 0), .int (iI 0), .int (iI 0)]))]) := by
  refine MetV.mkI (by decide) rfl (Nat.le_of_ble_eq_true rfl) (fun X C I K => ?_)
  show Zc G X 4 0 0 [(aV, .inr (4, [.null, .null, .null, .int (iI 0), .int (iI 0), .int (iI 0), .int (iI 0), .int (iI 0), .int (iI 0), .int (iI 0)]))] [(0, .ref aV), (1, .ref aL), (2, .ref aN), (3, .ref aU)] 0 []
  refine z_aload_n C d_P_init_0 0 rfl ?_
  refine z_oinit C ml_P_3 d_P_init_1 (by decide) (by decide) ?_
  refine z_aload_n C d_P_init_4 0 rfl ?_
  refine z_aload_n C d_P_init_5 1 rfl ?_
  refine z_putF C I f_P_9 ok_P nm_P d_P_init_6 0 rfl rfl rfl rfl rfl (Nat.le_of_ble_eq_true rfl) [(aV, .inr (4, [.ref aL, .null, .null, .int (iI 0), .int (iI 0), .int (iI 0), .int (iI 0), .int (iI 0), .int (iI 0), .int (iI 0)]))] rfl ?_
  refine z_aload_n C d_P_init_9 0 rfl ?_
  refine z_aload_n C d_P_init_10 2 rfl ?_
  refine z_putF C I f_P_15 ok_P nm_P d_P_init_11 0 rfl rfl rfl rfl rfl (Nat.le_of_ble_eq_true rfl) [(aV, .inr (4, [.ref aL, .ref aN, .null, .int (iI 0), .int (iI 0), .int (iI 0), .int (iI 0), .int (iI 0), .int (iI 0), .int (iI 0)]))] rfl ?_
  refine z_aload_n C d_P_init_14 0 rfl ?_
  refine z_aload_n C d_P_init_15 3 rfl ?_
  refine z_putF C I f_P_19 ok_P nm_P d_P_init_16 0 rfl rfl rfl rfl rfl (Nat.le_of_ble_eq_true rfl) [(aV, .inr (4, [.ref aL, .ref aN, .ref aU, .int (iI 0), .int (iI 0), .int (iI 0), .int (iI 0), .int (iI 0), .int (iI 0), .int (iI 0)]))] rfl ?_
  exact z_vret C K d_P_init_19 () (rfl) (trivial)
set_option maxHeartbeats 4000000 in
set_option maxRecDepth 100000 in
theorem m_I_init (l : Launch) (G : GG) (sz : Nat) (aI : Nat) (aP : Nat) (aN : Nat) (aU : Nat)  : MetV l G sz y_I_init c_I_init 4 ({ frames := 1, cells := 0, slots := 0, locals := 20 } : Room) [.ref aI, .ref aP, .ref aN, .ref aU] [(aI, .inr (5, [.null, .null, .null]))] (fun (u : Unit) => True) (fun (u : Unit) => [(aI, .inr (5, [.ref aP, .ref aN, .ref aU]))]) := by
  refine MetV.mkI (by decide) rfl (Nat.le_of_ble_eq_true rfl) (fun X C I K => ?_)
  show Zc G X 4 0 0 [(aI, .inr (5, [.null, .null, .null]))] [(0, .ref aI), (1, .ref aP), (2, .ref aN), (3, .ref aU)] 0 []
  refine z_aload_n C d_I_init_0 0 rfl ?_
  refine z_oinit C ml_I_3 d_I_init_1 (by decide) (by decide) ?_
  refine z_aload_n C d_I_init_4 0 rfl ?_
  refine z_aload_n C d_I_init_5 1 rfl ?_
  refine z_putF C I f_I_9 ok_I nm_I d_I_init_6 0 rfl rfl rfl rfl rfl (Nat.le_of_ble_eq_true rfl) [(aI, .inr (5, [.ref aP, .null, .null]))] rfl ?_
  refine z_aload_n C d_I_init_9 0 rfl ?_
  refine z_aload_n C d_I_init_10 2 rfl ?_
  refine z_putF C I f_I_15 ok_I nm_I d_I_init_11 0 rfl rfl rfl rfl rfl (Nat.le_of_ble_eq_true rfl) [(aI, .inr (5, [.ref aP, .ref aN, .null]))] rfl ?_
  refine z_aload_n C d_I_init_14 0 rfl ?_
  refine z_aload_n C d_I_init_15 3 rfl ?_
  refine z_putF C I f_I_19 ok_I nm_I d_I_init_16 0 rfl rfl rfl rfl rfl (Nat.le_of_ble_eq_true rfl) [(aI, .inr (5, [.ref aP, .ref aN, .ref aU]))] rfl ?_
  exact z_vret C K d_I_init_19 () (rfl) (trivial)
set_option maxHeartbeats 4000000 in
set_option maxRecDepth 100000 in
theorem m_D_init (l : Launch) (G : GG) (sz : Nat) (aD : Nat) (aP : Nat) (aN : Nat) (aU : Nat)  : MetV l G sz y_D_init c_D_init 4 ({ frames := 1, cells := 1, slots := 24, locals := 20 } : Room) [.ref aD, .ref aP, .ref aN, .ref aU] [(aD, .inr (1, [.null, .null, .null, .null, .int (iI 0)]))] (fun (u : Nat) => True) (fun (u : Nat) => [(aD, .inr (1, [.ref aP, .ref aN, .ref aU, .ref u, .int (iI 0)])), iA G u 24 (fun _ => 0)]) := by
  refine MetV.mkI (by decide) rfl (Nat.le_of_ble_eq_true rfl) (fun X C I K => ?_)
  show Zc G X 4 0 0 [(aD, .inr (1, [.null, .null, .null, .null, .int (iI 0)]))] [(0, .ref aD), (1, .ref aP), (2, .ref aN), (3, .ref aU)] 0 []
  refine z_aload_n C d_D_init_0 0 rfl ?_
  refine z_oinit C ml_D_3 d_D_init_1 (by decide) (by decide) ?_
  refine z_aload_n C d_D_init_4 0 rfl ?_
  refine z_bipush C d_D_init_5 (by decide) ?_
  refine z_newi C d_D_init_7 (by omega) (by decide) (fun aDw => ?_)
  show Zc G X 4 1 24 [(aD, .inr (1, [.null, .null, .null, .null, .int (iI 0)])), iA G aDw 24 (fun _ => 0)] [(0, .ref aD), (1, .ref aP), (2, .ref aN), (3, .ref aU)] 9 [.ref aDw, .ref aD]
  refine z_putF C I f_D_11 ok_D nm_D d_D_init_9 0 rfl rfl rfl rfl rfl (Nat.le_of_ble_eq_true rfl) [(aD, .inr (1, [.null, .null, .null, .ref aDw, .int (iI 0)])), iA G aDw 24 (fun _ => 0)] rfl ?_
  refine z_aload_n C d_D_init_12 0 rfl ?_
  refine z_aload_n C d_D_init_13 1 rfl ?_
  refine z_putF C I f_D_17 ok_D nm_D d_D_init_14 0 rfl rfl rfl rfl rfl (Nat.le_of_ble_eq_true rfl) [(aD, .inr (1, [.ref aP, .null, .null, .ref aDw, .int (iI 0)])), iA G aDw 24 (fun _ => 0)] rfl ?_
  refine z_aload_n C d_D_init_17 0 rfl ?_
  refine z_aload_n C d_D_init_18 2 rfl ?_
  refine z_putF C I f_D_21 ok_D nm_D d_D_init_19 0 rfl rfl rfl rfl rfl (Nat.le_of_ble_eq_true rfl) [(aD, .inr (1, [.ref aP, .ref aN, .null, .ref aDw, .int (iI 0)])), iA G aDw 24 (fun _ => 0)] rfl ?_
  refine z_aload_n C d_D_init_22 0 rfl ?_
  refine z_aload_n C d_D_init_23 3 rfl ?_
  refine z_putF C I f_D_25 ok_D nm_D d_D_init_24 0 rfl rfl rfl rfl rfl (Nat.le_of_ble_eq_true rfl) [(aD, .inr (1, [.ref aP, .ref aN, .ref aU, .ref aDw, .int (iI 0)])), iA G aDw 24 (fun _ => 0)] rfl ?_
  exact z_vret C K d_D_init_27 aDw (rfl) (trivial)
set_option maxHeartbeats 4000000 in
set_option maxRecDepth 100000 in
theorem m_X_init (l : Launch) (G : GG) (sz : Nat) (aX : Nat)  : MetN l G sz y_X_init c_X_init 1 ({ frames := 3, cells := 17, slots := 12247, locals := 64 } : Room) [.ref aX] [(aX, .inr (7, [.null, .null, .null, .null, .null, .null, .null, .int (iI 0), .int (iI 0)]))] (fun (u : Nat × Nat × Nat × Nat × Nat × Nat × Nat × Nat × Nat × Nat × Nat × Nat × Nat × Nat × Nat × Nat × Nat) => True) (fun (u : Nat × Nat × Nat × Nat × Nat × Nat × Nat × Nat × Nat × Nat × Nat × Nat × Nat × Nat × Nat × Nat × Nat) => [(aX, .inr (7, [.ref u.1, .ref u.2.2.1, .ref u.2.2.2.2.1, .ref u.2.2.2.2.2.2.2.2.1, .ref u.2.2.2.2.2.2.2.2.2.2.2.2.1, .ref u.2.2.2.2.2.2.2.2.2.2.2.2.2.2.1, .ref u.2.2.2.2.2.2.2.2.2.2.2.2.2.2.2.1, .int (iI 0), .int (iI 0)])), (u.1, .inr (0, [.ref u.2.1, .int (iI 0)])), bA G u.2.1 4096 (fun _ => 0), (u.2.2.1, .inr (0, [.ref u.2.2.2.1, .int (iI 0)])), bA G u.2.2.2.1 5632 (fun _ => 0), (u.2.2.2.2.1, .inr (3, [.ref u.2.2.2.2.2.1, .ref u.2.2.2.2.2.2.1, .ref u.2.2.2.2.2.2.2.1])), bA G u.2.2.2.2.2.1 480 (fun _ => 0), iA G u.2.2.2.2.2.2.1 40 (fun _ => 0), iA G u.2.2.2.2.2.2.2.1 3 (fun _ => 0), (u.2.2.2.2.2.2.2.2.1, .inr (6, [.ref u.2.2.2.2.2.2.2.2.2.1, .ref u.2.2.2.2.2.2.2.2.2.2.1, .int (iI 0), .int (iI 0), .int (iI (-1)), .ref u.2.2.2.2.1, .ref u.2.2.2.2.2.2.2.2.2.2.2.1])), iA G u.2.2.2.2.2.2.2.2.2.1 384 (flZ 384 (-1) (fun _ => 0)), iA G u.2.2.2.2.2.2.2.2.2.2.1 16 (flZ 16 (-1) (fun _ => 0)), iA G u.2.2.2.2.2.2.2.2.2.2.2.1 1536 (flZ 1536 (-1) (fun _ => 0)), (u.2.2.2.2.2.2.2.2.2.2.2.2.1, .inr (4, [.ref u.2.2.2.2.2.2.2.2.2.2.2.2.2.1, .ref u.2.2.2.2.1, .ref u.2.2.2.2.2.2.2.2.1, .int (iI 0), .int (iI 0), .int (iI 0), .int (iI 0), .int (iI 0), .int (iI 0), .int (iI 0)])), (u.2.2.2.2.2.2.2.2.2.2.2.2.2.1, .inr (2, [.ref u.1, .int (iI 0), .int (iI 0), .int (iI 0)])), (u.2.2.2.2.2.2.2.2.2.2.2.2.2.2.1, .inr (5, [.ref u.2.2.1, .ref u.2.2.2.2.1, .ref u.2.2.2.2.2.2.2.2.1])), (u.2.2.2.2.2.2.2.2.2.2.2.2.2.2.2.1, .inr (1, [.ref u.2.2.1, .ref u.2.2.2.2.1, .ref u.2.2.2.2.2.2.2.2.1, .ref u.2.2.2.2.2.2.2.2.2.2.2.2.2.2.2.2, .int (iI 0)])), iA G u.2.2.2.2.2.2.2.2.2.2.2.2.2.2.2.2 24 (fun _ => 0)]) := by
  refine MetN.mk (by decide) rfl (Nat.le_of_ble_eq_true rfl) (fun X C I Nn K => ?_)
  show Zc G X 1 0 0 [(aX, .inr (7, [.null, .null, .null, .null, .null, .null, .null, .int (iI 0), .int (iI 0)]))] [(0, .ref aX)] 0 []
  refine z_aload_n C d_X_init_0 0 rfl ?_
  refine z_oinit C ml_X_1 d_X_init_1 (by decide) (by decide) ?_
  refine z_aload_n C d_X_init_4 0 rfl ?_
  refine z_new (ci := 0) (fs := [.null, .int (iI 0)]) C wu_B ok_B wc_X_7 wn_B wi_B rfl df_B (by decide) d_X_init_5 (fun aT => ?_)
  show Zc G X 1 1 2 [(aX, .inr (7, [.null, .null, .null, .null, .null, .null, .null, .int (iI 0), .int (iI 0)])), (aT, .inr (0, [.null, .int (iI 0)]))] [(0, .ref aX)] 8 [.ref aT, .ref aX]
  refine z_dup C d_X_init_8 rfl ?_
  refine z_sipush C d_X_init_9 (by decide) ?_
  refine z_newb C d_X_init_12 (by omega) (by decide) (fun aTb => ?_)
  show Zc G X 1 2 4098 [(aX, .inr (7, [.null, .null, .null, .null, .null, .null, .null, .int (iI 0), .int (iI 0)])), (aT, .inr (0, [.null, .int (iI 0)])), bA G aTb 4096 (fun _ => 0)] [(0, .ref aX)] 14 [.ref aTb, .ref aT, .ref aT, .ref aX]
  refine z_callI (As := [.ref aTb]) (rest := [.ref aT, .ref aX]) (wr := [(aX, .inr (7, [.null, .null, .null, .null, .null, .null, .null, .int (iI 0), .int (iI 0)])), bA G aTb 4096 (fun _ => 0)]) (ws' := fun u => [(aX, .inr (7, [.null, .null, .null, .null, .null, .null, .null, .int (iI 0), .int (iI 0)])), (aT, .inr (0, [.ref aTb, .int (iI 0)])), bA G aTb 4096 (fun _ => 0)]) C k_X_11 kc_B_init (fun l sz => m_B_init l G sz aT aTb ) rfl rfl (Nat.le_of_ble_eq_true rfl) (by decide) d_X_init_14 [1] [0, 2] [0, 2, 1] rfl rfl (by decide) (fun u => rfl) (fun u h14 => ?_)
  show Zc G X 1 2 4098 [(aX, .inr (7, [.null, .null, .null, .null, .null, .null, .null, .int (iI 0), .int (iI 0)])), (aT, .inr (0, [.ref aTb, .int (iI 0)])), bA G aTb 4096 (fun _ => 0)] [(0, .ref aX)] 17 [.ref aT, .ref aX]
  refine z_putF C I f_X_14 ok_X nm_X d_X_init_17 0 rfl rfl rfl rfl rfl (Nat.le_of_ble_eq_true rfl) [(aX, .inr (7, [.ref aT, .null, .null, .null, .null, .null, .null, .int (iI 0), .int (iI 0)])), (aT, .inr (0, [.ref aTb, .int (iI 0)])), bA G aTb 4096 (fun _ => 0)] rfl ?_
  refine z_aload_n C d_X_init_20 0 rfl ?_
  refine z_new (ci := 0) (fs := [.null, .int (iI 0)]) C wu_B ok_B wc_X_7 wn_B wi_B rfl df_B (by decide) d_X_init_21 (fun aP => ?_)
  show Zc G X 1 3 4100 [(aX, .inr (7, [.ref aT, .null, .null, .null, .null, .null, .null, .int (iI 0), .int (iI 0)])), (aT, .inr (0, [.ref aTb, .int (iI 0)])), bA G aTb 4096 (fun _ => 0), (aP, .inr (0, [.null, .int (iI 0)]))] [(0, .ref aX)] 24 [.ref aP, .ref aX]
  refine z_dup C d_X_init_24 rfl ?_
  refine z_sipush C d_X_init_25 (by decide) ?_
  refine z_newb C d_X_init_28 (by omega) (by decide) (fun aPb => ?_)
  show Zc G X 1 4 9732 [(aX, .inr (7, [.ref aT, .null, .null, .null, .null, .null, .null, .int (iI 0), .int (iI 0)])), (aT, .inr (0, [.ref aTb, .int (iI 0)])), bA G aTb 4096 (fun _ => 0), (aP, .inr (0, [.null, .int (iI 0)])), bA G aPb 5632 (fun _ => 0)] [(0, .ref aX)] 30 [.ref aPb, .ref aP, .ref aP, .ref aX]
  refine z_callI (As := [.ref aPb]) (rest := [.ref aP, .ref aX]) (wr := [(aX, .inr (7, [.ref aT, .null, .null, .null, .null, .null, .null, .int (iI 0), .int (iI 0)])), (aT, .inr (0, [.ref aTb, .int (iI 0)])), bA G aTb 4096 (fun _ => 0), bA G aPb 5632 (fun _ => 0)]) (ws' := fun u => [(aX, .inr (7, [.ref aT, .null, .null, .null, .null, .null, .null, .int (iI 0), .int (iI 0)])), (aT, .inr (0, [.ref aTb, .int (iI 0)])), bA G aTb 4096 (fun _ => 0), (aP, .inr (0, [.ref aPb, .int (iI 0)])), bA G aPb 5632 (fun _ => 0)]) C k_X_11 kc_B_init (fun l sz => m_B_init l G sz aP aPb ) rfl rfl (Nat.le_of_ble_eq_true rfl) (by decide) d_X_init_30 [3] [0, 1, 2, 4] [0, 1, 2, 4, 3] rfl rfl (by decide) (fun u => rfl) (fun u h30 => ?_)
  show Zc G X 1 4 9732 [(aX, .inr (7, [.ref aT, .null, .null, .null, .null, .null, .null, .int (iI 0), .int (iI 0)])), (aT, .inr (0, [.ref aTb, .int (iI 0)])), bA G aTb 4096 (fun _ => 0), (aP, .inr (0, [.ref aPb, .int (iI 0)])), bA G aPb 5632 (fun _ => 0)] [(0, .ref aX)] 33 [.ref aP, .ref aX]
  refine z_putF C I f_X_18 ok_X nm_X d_X_init_33 0 rfl rfl rfl rfl rfl (Nat.le_of_ble_eq_true rfl) [(aX, .inr (7, [.ref aT, .ref aP, .null, .null, .null, .null, .null, .int (iI 0), .int (iI 0)])), (aT, .inr (0, [.ref aTb, .int (iI 0)])), bA G aTb 4096 (fun _ => 0), (aP, .inr (0, [.ref aPb, .int (iI 0)])), bA G aPb 5632 (fun _ => 0)] rfl ?_
  refine z_aload_n C d_X_init_36 0 rfl ?_
  refine z_new (ci := 3) (fs := [.null, .null, .null]) C wu_N ok_N wc_X_21 wn_N wi_N rfl df_N (by decide) d_X_init_37 (fun aN => ?_)
  show Zc G X 1 5 9735 [(aX, .inr (7, [.ref aT, .ref aP, .null, .null, .null, .null, .null, .int (iI 0), .int (iI 0)])), (aT, .inr (0, [.ref aTb, .int (iI 0)])), bA G aTb 4096 (fun _ => 0), (aP, .inr (0, [.ref aPb, .int (iI 0)])), bA G aPb 5632 (fun _ => 0), (aN, .inr (3, [.null, .null, .null]))] [(0, .ref aX)] 40 [.ref aN, .ref aX]
  refine z_dup C d_X_init_40 rfl ?_
  refine z_callIN (As := []) (rest := [.ref aN, .ref aX]) (wr := [(aX, .inr (7, [.ref aT, .ref aP, .null, .null, .null, .null, .null, .int (iI 0), .int (iI 0)])), (aT, .inr (0, [.ref aTb, .int (iI 0)])), bA G aTb 4096 (fun _ => 0), (aP, .inr (0, [.ref aPb, .int (iI 0)])), bA G aPb 5632 (fun _ => 0)]) (ws' := fun u => [(aX, .inr (7, [.ref aT, .ref aP, .null, .null, .null, .null, .null, .int (iI 0), .int (iI 0)])), (aT, .inr (0, [.ref aTb, .int (iI 0)])), bA G aTb 4096 (fun _ => 0), (aP, .inr (0, [.ref aPb, .int (iI 0)])), bA G aPb 5632 (fun _ => 0), (aN, .inr (3, [.ref u.1, .ref u.2.1, .ref u.2.2])), bA G u.1 480 (fun _ => 0), iA G u.2.1 40 (fun _ => 0), iA G u.2.2 3 (fun _ => 0)]) C Nn ⟨wm_N_init, wi_N, by unfold NK; decide +kernel, rfl⟩ kc_N_init (fun l sz => m_N_init l G sz aN ) rfl rfl (Nat.le_of_ble_eq_true rfl) (by decide) d_X_init_41 [5] [0, 1, 2, 3, 4] [0, 1, 2, 3, 4, 5, 6, 7, 8] rfl rfl (by decide) (fun u => rfl) (fun u h41 => ?_)
  obtain ⟨aNl_41, aNn_41, aNt_41⟩ := u
  show Zc G X 1 8 10258 [(aX, .inr (7, [.ref aT, .ref aP, .null, .null, .null, .null, .null, .int (iI 0), .int (iI 0)])), (aT, .inr (0, [.ref aTb, .int (iI 0)])), bA G aTb 4096 (fun _ => 0), (aP, .inr (0, [.ref aPb, .int (iI 0)])), bA G aPb 5632 (fun _ => 0), (aN, .inr (3, [.ref aNl_41, .ref aNn_41, .ref aNt_41])), bA G aNl_41 480 (fun _ => 0), iA G aNn_41 40 (fun _ => 0), iA G aNt_41 3 (fun _ => 0)] [(0, .ref aX)] 44 [.ref aN, .ref aX]
  refine z_putF C I f_X_24 ok_X nm_X d_X_init_44 0 rfl rfl rfl rfl rfl (Nat.le_of_ble_eq_true rfl) [(aX, .inr (7, [.ref aT, .ref aP, .ref aN, .null, .null, .null, .null, .int (iI 0), .int (iI 0)])), (aT, .inr (0, [.ref aTb, .int (iI 0)])), bA G aTb 4096 (fun _ => 0), (aP, .inr (0, [.ref aPb, .int (iI 0)])), bA G aPb 5632 (fun _ => 0), (aN, .inr (3, [.ref aNl_41, .ref aNn_41, .ref aNt_41])), bA G aNl_41 480 (fun _ => 0), iA G aNn_41 40 (fun _ => 0), iA G aNt_41 3 (fun _ => 0)] rfl ?_
  refine z_aload_n C d_X_init_47 0 rfl ?_
  refine z_new (ci := 6) (fs := [.null, .null, .int (iI 0), .int (iI 0), .int (iI 0), .null, .null]) C wu_T ok_T wc_X_28 wn_T wi_T rfl df_T (by decide) d_X_init_48 (fun aU => ?_)
  show Zc G X 1 9 10265 [(aX, .inr (7, [.ref aT, .ref aP, .ref aN, .null, .null, .null, .null, .int (iI 0), .int (iI 0)])), (aT, .inr (0, [.ref aTb, .int (iI 0)])), bA G aTb 4096 (fun _ => 0), (aP, .inr (0, [.ref aPb, .int (iI 0)])), bA G aPb 5632 (fun _ => 0), (aN, .inr (3, [.ref aNl_41, .ref aNn_41, .ref aNt_41])), bA G aNl_41 480 (fun _ => 0), iA G aNn_41 40 (fun _ => 0), iA G aNt_41 3 (fun _ => 0), (aU, .inr (6, [.null, .null, .int (iI 0), .int (iI 0), .int (iI 0), .null, .null]))] [(0, .ref aX)] 51 [.ref aU, .ref aX]
  refine z_dup C d_X_init_51 rfl ?_
  refine z_aload_n C d_X_init_52 0 rfl ?_
  refine z_get C f_X_24 d_X_init_53 0 rfl rfl ?_
  refine z_callI (As := [.ref aN]) (rest := [.ref aU, .ref aX]) (wr := [(aX, .inr (7, [.ref aT, .ref aP, .ref aN, .null, .null, .null, .null, .int (iI 0), .int (iI 0)])), (aT, .inr (0, [.ref aTb, .int (iI 0)])), bA G aTb 4096 (fun _ => 0), (aP, .inr (0, [.ref aPb, .int (iI 0)])), bA G aPb 5632 (fun _ => 0), (aN, .inr (3, [.ref aNl_41, .ref aNn_41, .ref aNt_41])), bA G aNl_41 480 (fun _ => 0), iA G aNn_41 40 (fun _ => 0), iA G aNt_41 3 (fun _ => 0)]) (ws' := fun u => [(aX, .inr (7, [.ref aT, .ref aP, .ref aN, .null, .null, .null, .null, .int (iI 0), .int (iI 0)])), (aT, .inr (0, [.ref aTb, .int (iI 0)])), bA G aTb 4096 (fun _ => 0), (aP, .inr (0, [.ref aPb, .int (iI 0)])), bA G aPb 5632 (fun _ => 0), (aN, .inr (3, [.ref aNl_41, .ref aNn_41, .ref aNt_41])), bA G aNl_41 480 (fun _ => 0), iA G aNn_41 40 (fun _ => 0), iA G aNt_41 3 (fun _ => 0), (aU, .inr (6, [.ref u.1, .ref u.2.1, .int (iI 0), .int (iI 0), .int (iI (-1)), .ref aN, .ref u.2.2])), iA G u.1 384 (flZ 384 (-1) (fun _ => 0)), iA G u.2.1 16 (flZ 16 (-1) (fun _ => 0)), iA G u.2.2 1536 (flZ 1536 (-1) (fun _ => 0))]) C k_X_30 kc_T_init (fun l sz => m_T_init l G sz aU aN ) rfl rfl (Nat.le_of_ble_eq_true rfl) (by decide) d_X_init_56 [9] [0, 1, 2, 3, 4, 5, 6, 7, 8] [0, 1, 2, 3, 4, 5, 6, 7, 8, 9, 10, 11, 12] rfl rfl (by decide) (fun u => rfl) (fun u h56 => ?_)
  obtain ⟨aUg_56, aUd_56, aUa_56⟩ := u
  show Zc G X 1 12 12201 [(aX, .inr (7, [.ref aT, .ref aP, .ref aN, .null, .null, .null, .null, .int (iI 0), .int (iI 0)])), (aT, .inr (0, [.ref aTb, .int (iI 0)])), bA G aTb 4096 (fun _ => 0), (aP, .inr (0, [.ref aPb, .int (iI 0)])), bA G aPb 5632 (fun _ => 0), (aN, .inr (3, [.ref aNl_41, .ref aNn_41, .ref aNt_41])), bA G aNl_41 480 (fun _ => 0), iA G aNn_41 40 (fun _ => 0), iA G aNt_41 3 (fun _ => 0), (aU, .inr (6, [.ref aUg_56, .ref aUd_56, .int (iI 0), .int (iI 0), .int (iI (-1)), .ref aN, .ref aUa_56])), iA G aUg_56 384 (flZ 384 (-1) (fun _ => 0)), iA G aUd_56 16 (flZ 16 (-1) (fun _ => 0)), iA G aUa_56 1536 (flZ 1536 (-1) (fun _ => 0))] [(0, .ref aX)] 59 [.ref aU, .ref aX]
  refine z_putF C I f_X_33 ok_X nm_X d_X_init_59 0 rfl rfl rfl rfl rfl (Nat.le_of_ble_eq_true rfl) [(aX, .inr (7, [.ref aT, .ref aP, .ref aN, .ref aU, .null, .null, .null, .int (iI 0), .int (iI 0)])), (aT, .inr (0, [.ref aTb, .int (iI 0)])), bA G aTb 4096 (fun _ => 0), (aP, .inr (0, [.ref aPb, .int (iI 0)])), bA G aPb 5632 (fun _ => 0), (aN, .inr (3, [.ref aNl_41, .ref aNn_41, .ref aNt_41])), bA G aNl_41 480 (fun _ => 0), iA G aNn_41 40 (fun _ => 0), iA G aNt_41 3 (fun _ => 0), (aU, .inr (6, [.ref aUg_56, .ref aUd_56, .int (iI 0), .int (iI 0), .int (iI (-1)), .ref aN, .ref aUa_56])), iA G aUg_56 384 (flZ 384 (-1) (fun _ => 0)), iA G aUd_56 16 (flZ 16 (-1) (fun _ => 0)), iA G aUa_56 1536 (flZ 1536 (-1) (fun _ => 0))] rfl ?_
  refine z_aload_n C d_X_init_62 0 rfl ?_
  refine z_new (ci := 4) (fs := [.null, .null, .null, .int (iI 0), .int (iI 0), .int (iI 0), .int (iI 0), .int (iI 0), .int (iI 0), .int (iI 0)]) C wu_P ok_P wc_X_37 wn_P wi_P rfl df_P (by decide) d_X_init_63 (fun aV => ?_)
  show Zc G X 1 13 12211 [(aX, .inr (7, [.ref aT, .ref aP, .ref aN, .ref aU, .null, .null, .null, .int (iI 0), .int (iI 0)])), (aT, .inr (0, [.ref aTb, .int (iI 0)])), bA G aTb 4096 (fun _ => 0), (aP, .inr (0, [.ref aPb, .int (iI 0)])), bA G aPb 5632 (fun _ => 0), (aN, .inr (3, [.ref aNl_41, .ref aNn_41, .ref aNt_41])), bA G aNl_41 480 (fun _ => 0), iA G aNn_41 40 (fun _ => 0), iA G aNt_41 3 (fun _ => 0), (aU, .inr (6, [.ref aUg_56, .ref aUd_56, .int (iI 0), .int (iI 0), .int (iI (-1)), .ref aN, .ref aUa_56])), iA G aUg_56 384 (flZ 384 (-1) (fun _ => 0)), iA G aUd_56 16 (flZ 16 (-1) (fun _ => 0)), iA G aUa_56 1536 (flZ 1536 (-1) (fun _ => 0)), (aV, .inr (4, [.null, .null, .null, .int (iI 0), .int (iI 0), .int (iI 0), .int (iI 0), .int (iI 0), .int (iI 0), .int (iI 0)]))] [(0, .ref aX)] 66 [.ref aV, .ref aX]
  refine z_dup C d_X_init_66 rfl ?_
  refine z_new (ci := 2) (fs := [.null, .int (iI 0), .int (iI 0), .int (iI 0)]) C wu_L ok_L wc_X_39 wn_L wi_L rfl df_L (by decide) d_X_init_67 (fun aL => ?_)
  show Zc G X 1 14 12215 [(aX, .inr (7, [.ref aT, .ref aP, .ref aN, .ref aU, .null, .null, .null, .int (iI 0), .int (iI 0)])), (aT, .inr (0, [.ref aTb, .int (iI 0)])), bA G aTb 4096 (fun _ => 0), (aP, .inr (0, [.ref aPb, .int (iI 0)])), bA G aPb 5632 (fun _ => 0), (aN, .inr (3, [.ref aNl_41, .ref aNn_41, .ref aNt_41])), bA G aNl_41 480 (fun _ => 0), iA G aNn_41 40 (fun _ => 0), iA G aNt_41 3 (fun _ => 0), (aU, .inr (6, [.ref aUg_56, .ref aUd_56, .int (iI 0), .int (iI 0), .int (iI (-1)), .ref aN, .ref aUa_56])), iA G aUg_56 384 (flZ 384 (-1) (fun _ => 0)), iA G aUd_56 16 (flZ 16 (-1) (fun _ => 0)), iA G aUa_56 1536 (flZ 1536 (-1) (fun _ => 0)), (aV, .inr (4, [.null, .null, .null, .int (iI 0), .int (iI 0), .int (iI 0), .int (iI 0), .int (iI 0), .int (iI 0), .int (iI 0)])), (aL, .inr (2, [.null, .int (iI 0), .int (iI 0), .int (iI 0)]))] [(0, .ref aX)] 70 [.ref aL, .ref aV, .ref aV, .ref aX]
  refine z_dup C d_X_init_70 rfl ?_
  refine z_aload_n C d_X_init_71 0 rfl ?_
  refine z_get C f_X_14 d_X_init_72 0 rfl rfl ?_
  refine z_callI (As := [.ref aT]) (rest := [.ref aL, .ref aV, .ref aV, .ref aX]) (wr := [(aX, .inr (7, [.ref aT, .ref aP, .ref aN, .ref aU, .null, .null, .null, .int (iI 0), .int (iI 0)])), (aT, .inr (0, [.ref aTb, .int (iI 0)])), bA G aTb 4096 (fun _ => 0), (aP, .inr (0, [.ref aPb, .int (iI 0)])), bA G aPb 5632 (fun _ => 0), (aN, .inr (3, [.ref aNl_41, .ref aNn_41, .ref aNt_41])), bA G aNl_41 480 (fun _ => 0), iA G aNn_41 40 (fun _ => 0), iA G aNt_41 3 (fun _ => 0), (aU, .inr (6, [.ref aUg_56, .ref aUd_56, .int (iI 0), .int (iI 0), .int (iI (-1)), .ref aN, .ref aUa_56])), iA G aUg_56 384 (flZ 384 (-1) (fun _ => 0)), iA G aUd_56 16 (flZ 16 (-1) (fun _ => 0)), iA G aUa_56 1536 (flZ 1536 (-1) (fun _ => 0)), (aV, .inr (4, [.null, .null, .null, .int (iI 0), .int (iI 0), .int (iI 0), .int (iI 0), .int (iI 0), .int (iI 0), .int (iI 0)]))]) (ws' := fun u => [(aX, .inr (7, [.ref aT, .ref aP, .ref aN, .ref aU, .null, .null, .null, .int (iI 0), .int (iI 0)])), (aT, .inr (0, [.ref aTb, .int (iI 0)])), bA G aTb 4096 (fun _ => 0), (aP, .inr (0, [.ref aPb, .int (iI 0)])), bA G aPb 5632 (fun _ => 0), (aN, .inr (3, [.ref aNl_41, .ref aNn_41, .ref aNt_41])), bA G aNl_41 480 (fun _ => 0), iA G aNn_41 40 (fun _ => 0), iA G aNt_41 3 (fun _ => 0), (aU, .inr (6, [.ref aUg_56, .ref aUd_56, .int (iI 0), .int (iI 0), .int (iI (-1)), .ref aN, .ref aUa_56])), iA G aUg_56 384 (flZ 384 (-1) (fun _ => 0)), iA G aUd_56 16 (flZ 16 (-1) (fun _ => 0)), iA G aUa_56 1536 (flZ 1536 (-1) (fun _ => 0)), (aV, .inr (4, [.null, .null, .null, .int (iI 0), .int (iI 0), .int (iI 0), .int (iI 0), .int (iI 0), .int (iI 0), .int (iI 0)])), (aL, .inr (2, [.ref aT, .int (iI 0), .int (iI 0), .int (iI 0)]))]) C k_X_41 kc_L_init (fun l sz => m_L_init l G sz aL aT ) rfl rfl (Nat.le_of_ble_eq_true rfl) (by decide) d_X_init_75 [14] [0, 1, 2, 3, 4, 5, 6, 7, 8, 9, 10, 11, 12, 13] [0, 1, 2, 3, 4, 5, 6, 7, 8, 9, 10, 11, 12, 13, 14] rfl rfl (by decide) (fun u => rfl) (fun u h75 => ?_)
  show Zc G X 1 14 12215 [(aX, .inr (7, [.ref aT, .ref aP, .ref aN, .ref aU, .null, .null, .null, .int (iI 0), .int (iI 0)])), (aT, .inr (0, [.ref aTb, .int (iI 0)])), bA G aTb 4096 (fun _ => 0), (aP, .inr (0, [.ref aPb, .int (iI 0)])), bA G aPb 5632 (fun _ => 0), (aN, .inr (3, [.ref aNl_41, .ref aNn_41, .ref aNt_41])), bA G aNl_41 480 (fun _ => 0), iA G aNn_41 40 (fun _ => 0), iA G aNt_41 3 (fun _ => 0), (aU, .inr (6, [.ref aUg_56, .ref aUd_56, .int (iI 0), .int (iI 0), .int (iI (-1)), .ref aN, .ref aUa_56])), iA G aUg_56 384 (flZ 384 (-1) (fun _ => 0)), iA G aUd_56 16 (flZ 16 (-1) (fun _ => 0)), iA G aUa_56 1536 (flZ 1536 (-1) (fun _ => 0)), (aV, .inr (4, [.null, .null, .null, .int (iI 0), .int (iI 0), .int (iI 0), .int (iI 0), .int (iI 0), .int (iI 0), .int (iI 0)])), (aL, .inr (2, [.ref aT, .int (iI 0), .int (iI 0), .int (iI 0)]))] [(0, .ref aX)] 78 [.ref aL, .ref aV, .ref aV, .ref aX]
  refine z_aload_n C d_X_init_78 0 rfl ?_
  refine z_get C f_X_24 d_X_init_79 0 rfl rfl ?_
  refine z_aload_n C d_X_init_82 0 rfl ?_
  refine z_get C f_X_33 d_X_init_83 0 rfl rfl ?_
  refine z_callI (As := [.ref aL, .ref aN, .ref aU]) (rest := [.ref aV, .ref aX]) (wr := [(aX, .inr (7, [.ref aT, .ref aP, .ref aN, .ref aU, .null, .null, .null, .int (iI 0), .int (iI 0)])), (aT, .inr (0, [.ref aTb, .int (iI 0)])), bA G aTb 4096 (fun _ => 0), (aP, .inr (0, [.ref aPb, .int (iI 0)])), bA G aPb 5632 (fun _ => 0), (aN, .inr (3, [.ref aNl_41, .ref aNn_41, .ref aNt_41])), bA G aNl_41 480 (fun _ => 0), iA G aNn_41 40 (fun _ => 0), iA G aNt_41 3 (fun _ => 0), (aU, .inr (6, [.ref aUg_56, .ref aUd_56, .int (iI 0), .int (iI 0), .int (iI (-1)), .ref aN, .ref aUa_56])), iA G aUg_56 384 (flZ 384 (-1) (fun _ => 0)), iA G aUd_56 16 (flZ 16 (-1) (fun _ => 0)), iA G aUa_56 1536 (flZ 1536 (-1) (fun _ => 0)), (aL, .inr (2, [.ref aT, .int (iI 0), .int (iI 0), .int (iI 0)]))]) (ws' := fun u => [(aX, .inr (7, [.ref aT, .ref aP, .ref aN, .ref aU, .null, .null, .null, .int (iI 0), .int (iI 0)])), (aT, .inr (0, [.ref aTb, .int (iI 0)])), bA G aTb 4096 (fun _ => 0), (aP, .inr (0, [.ref aPb, .int (iI 0)])), bA G aPb 5632 (fun _ => 0), (aN, .inr (3, [.ref aNl_41, .ref aNn_41, .ref aNt_41])), bA G aNl_41 480 (fun _ => 0), iA G aNn_41 40 (fun _ => 0), iA G aNt_41 3 (fun _ => 0), (aU, .inr (6, [.ref aUg_56, .ref aUd_56, .int (iI 0), .int (iI 0), .int (iI (-1)), .ref aN, .ref aUa_56])), iA G aUg_56 384 (flZ 384 (-1) (fun _ => 0)), iA G aUd_56 16 (flZ 16 (-1) (fun _ => 0)), iA G aUa_56 1536 (flZ 1536 (-1) (fun _ => 0)), (aV, .inr (4, [.ref aL, .ref aN, .ref aU, .int (iI 0), .int (iI 0), .int (iI 0), .int (iI 0), .int (iI 0), .int (iI 0), .int (iI 0)])), (aL, .inr (2, [.ref aT, .int (iI 0), .int (iI 0), .int (iI 0)]))]) C k_X_44 kc_P_init (fun l sz => m_P_init l G sz aV aL aN aU ) rfl rfl (Nat.le_of_ble_eq_true rfl) (by decide) d_X_init_86 [13] [0, 1, 2, 3, 4, 5, 6, 7, 8, 9, 10, 11, 12, 14] [0, 1, 2, 3, 4, 5, 6, 7, 8, 9, 10, 11, 12, 14, 13] rfl rfl (by decide) (fun u => rfl) (fun u h86 => ?_)
  show Zc G X 1 14 12215 [(aX, .inr (7, [.ref aT, .ref aP, .ref aN, .ref aU, .null, .null, .null, .int (iI 0), .int (iI 0)])), (aT, .inr (0, [.ref aTb, .int (iI 0)])), bA G aTb 4096 (fun _ => 0), (aP, .inr (0, [.ref aPb, .int (iI 0)])), bA G aPb 5632 (fun _ => 0), (aN, .inr (3, [.ref aNl_41, .ref aNn_41, .ref aNt_41])), bA G aNl_41 480 (fun _ => 0), iA G aNn_41 40 (fun _ => 0), iA G aNt_41 3 (fun _ => 0), (aU, .inr (6, [.ref aUg_56, .ref aUd_56, .int (iI 0), .int (iI 0), .int (iI (-1)), .ref aN, .ref aUa_56])), iA G aUg_56 384 (flZ 384 (-1) (fun _ => 0)), iA G aUd_56 16 (flZ 16 (-1) (fun _ => 0)), iA G aUa_56 1536 (flZ 1536 (-1) (fun _ => 0)), (aV, .inr (4, [.ref aL, .ref aN, .ref aU, .int (iI 0), .int (iI 0), .int (iI 0), .int (iI 0), .int (iI 0), .int (iI 0), .int (iI 0)])), (aL, .inr (2, [.ref aT, .int (iI 0), .int (iI 0), .int (iI 0)]))] [(0, .ref aX)] 89 [.ref aV, .ref aX]
  refine z_putF C I f_X_47 ok_X nm_X d_X_init_89 0 rfl rfl rfl rfl rfl (Nat.le_of_ble_eq_true rfl) [(aX, .inr (7, [.ref aT, .ref aP, .ref aN, .ref aU, .ref aV, .null, .null, .int (iI 0), .int (iI 0)])), (aT, .inr (0, [.ref aTb, .int (iI 0)])), bA G aTb 4096 (fun _ => 0), (aP, .inr (0, [.ref aPb, .int (iI 0)])), bA G aPb 5632 (fun _ => 0), (aN, .inr (3, [.ref aNl_41, .ref aNn_41, .ref aNt_41])), bA G aNl_41 480 (fun _ => 0), iA G aNn_41 40 (fun _ => 0), iA G aNt_41 3 (fun _ => 0), (aU, .inr (6, [.ref aUg_56, .ref aUd_56, .int (iI 0), .int (iI 0), .int (iI (-1)), .ref aN, .ref aUa_56])), iA G aUg_56 384 (flZ 384 (-1) (fun _ => 0)), iA G aUd_56 16 (flZ 16 (-1) (fun _ => 0)), iA G aUa_56 1536 (flZ 1536 (-1) (fun _ => 0)), (aV, .inr (4, [.ref aL, .ref aN, .ref aU, .int (iI 0), .int (iI 0), .int (iI 0), .int (iI 0), .int (iI 0), .int (iI 0), .int (iI 0)])), (aL, .inr (2, [.ref aT, .int (iI 0), .int (iI 0), .int (iI 0)]))] rfl ?_
  refine z_aload_n C d_X_init_92 0 rfl ?_
  refine z_new (ci := 5) (fs := [.null, .null, .null]) C wu_I ok_I wc_X_51 wn_I wi_I rfl df_I (by decide) d_X_init_93 (fun aI => ?_)
  show Zc G X 1 15 12218 [(aX, .inr (7, [.ref aT, .ref aP, .ref aN, .ref aU, .ref aV, .null, .null, .int (iI 0), .int (iI 0)])), (aT, .inr (0, [.ref aTb, .int (iI 0)])), bA G aTb 4096 (fun _ => 0), (aP, .inr (0, [.ref aPb, .int (iI 0)])), bA G aPb 5632 (fun _ => 0), (aN, .inr (3, [.ref aNl_41, .ref aNn_41, .ref aNt_41])), bA G aNl_41 480 (fun _ => 0), iA G aNn_41 40 (fun _ => 0), iA G aNt_41 3 (fun _ => 0), (aU, .inr (6, [.ref aUg_56, .ref aUd_56, .int (iI 0), .int (iI 0), .int (iI (-1)), .ref aN, .ref aUa_56])), iA G aUg_56 384 (flZ 384 (-1) (fun _ => 0)), iA G aUd_56 16 (flZ 16 (-1) (fun _ => 0)), iA G aUa_56 1536 (flZ 1536 (-1) (fun _ => 0)), (aV, .inr (4, [.ref aL, .ref aN, .ref aU, .int (iI 0), .int (iI 0), .int (iI 0), .int (iI 0), .int (iI 0), .int (iI 0), .int (iI 0)])), (aL, .inr (2, [.ref aT, .int (iI 0), .int (iI 0), .int (iI 0)])), (aI, .inr (5, [.null, .null, .null]))] [(0, .ref aX)] 96 [.ref aI, .ref aX]
  refine z_dup C d_X_init_96 rfl ?_
  refine z_aload_n C d_X_init_97 0 rfl ?_
  refine z_get C f_X_18 d_X_init_98 0 rfl rfl ?_
  refine z_aload_n C d_X_init_101 0 rfl ?_
  refine z_get C f_X_24 d_X_init_102 0 rfl rfl ?_
  refine z_aload_n C d_X_init_105 0 rfl ?_
  refine z_get C f_X_33 d_X_init_106 0 rfl rfl ?_
  refine z_callI (As := [.ref aP, .ref aN, .ref aU]) (rest := [.ref aI, .ref aX]) (wr := [(aX, .inr (7, [.ref aT, .ref aP, .ref aN, .ref aU, .ref aV, .null, .null, .int (iI 0), .int (iI 0)])), (aT, .inr (0, [.ref aTb, .int (iI 0)])), bA G aTb 4096 (fun _ => 0), (aP, .inr (0, [.ref aPb, .int (iI 0)])), bA G aPb 5632 (fun _ => 0), (aN, .inr (3, [.ref aNl_41, .ref aNn_41, .ref aNt_41])), bA G aNl_41 480 (fun _ => 0), iA G aNn_41 40 (fun _ => 0), iA G aNt_41 3 (fun _ => 0), (aU, .inr (6, [.ref aUg_56, .ref aUd_56, .int (iI 0), .int (iI 0), .int (iI (-1)), .ref aN, .ref aUa_56])), iA G aUg_56 384 (flZ 384 (-1) (fun _ => 0)), iA G aUd_56 16 (flZ 16 (-1) (fun _ => 0)), iA G aUa_56 1536 (flZ 1536 (-1) (fun _ => 0)), (aV, .inr (4, [.ref aL, .ref aN, .ref aU, .int (iI 0), .int (iI 0), .int (iI 0), .int (iI 0), .int (iI 0), .int (iI 0), .int (iI 0)])), (aL, .inr (2, [.ref aT, .int (iI 0), .int (iI 0), .int (iI 0)]))]) (ws' := fun u => [(aX, .inr (7, [.ref aT, .ref aP, .ref aN, .ref aU, .ref aV, .null, .null, .int (iI 0), .int (iI 0)])), (aT, .inr (0, [.ref aTb, .int (iI 0)])), bA G aTb 4096 (fun _ => 0), (aP, .inr (0, [.ref aPb, .int (iI 0)])), bA G aPb 5632 (fun _ => 0), (aN, .inr (3, [.ref aNl_41, .ref aNn_41, .ref aNt_41])), bA G aNl_41 480 (fun _ => 0), iA G aNn_41 40 (fun _ => 0), iA G aNt_41 3 (fun _ => 0), (aU, .inr (6, [.ref aUg_56, .ref aUd_56, .int (iI 0), .int (iI 0), .int (iI (-1)), .ref aN, .ref aUa_56])), iA G aUg_56 384 (flZ 384 (-1) (fun _ => 0)), iA G aUd_56 16 (flZ 16 (-1) (fun _ => 0)), iA G aUa_56 1536 (flZ 1536 (-1) (fun _ => 0)), (aV, .inr (4, [.ref aL, .ref aN, .ref aU, .int (iI 0), .int (iI 0), .int (iI 0), .int (iI 0), .int (iI 0), .int (iI 0), .int (iI 0)])), (aL, .inr (2, [.ref aT, .int (iI 0), .int (iI 0), .int (iI 0)])), (aI, .inr (5, [.ref aP, .ref aN, .ref aU]))]) C k_X_53 kc_I_init (fun l sz => m_I_init l G sz aI aP aN aU ) rfl rfl (Nat.le_of_ble_eq_true rfl) (by decide) d_X_init_109 [15] [0, 1, 2, 3, 4, 5, 6, 7, 8, 9, 10, 11, 12, 13, 14] [0, 1, 2, 3, 4, 5, 6, 7, 8, 9, 10, 11, 12, 13, 14, 15] rfl rfl (by decide) (fun u => rfl) (fun u h109 => ?_)
  show Zc G X 1 15 12218 [(aX, .inr (7, [.ref aT, .ref aP, .ref aN, .ref aU, .ref aV, .null, .null, .int (iI 0), .int (iI 0)])), (aT, .inr (0, [.ref aTb, .int (iI 0)])), bA G aTb 4096 (fun _ => 0), (aP, .inr (0, [.ref aPb, .int (iI 0)])), bA G aPb 5632 (fun _ => 0), (aN, .inr (3, [.ref aNl_41, .ref aNn_41, .ref aNt_41])), bA G aNl_41 480 (fun _ => 0), iA G aNn_41 40 (fun _ => 0), iA G aNt_41 3 (fun _ => 0), (aU, .inr (6, [.ref aUg_56, .ref aUd_56, .int (iI 0), .int (iI 0), .int (iI (-1)), .ref aN, .ref aUa_56])), iA G aUg_56 384 (flZ 384 (-1) (fun _ => 0)), iA G aUd_56 16 (flZ 16 (-1) (fun _ => 0)), iA G aUa_56 1536 (flZ 1536 (-1) (fun _ => 0)), (aV, .inr (4, [.ref aL, .ref aN, .ref aU, .int (iI 0), .int (iI 0), .int (iI 0), .int (iI 0), .int (iI 0), .int (iI 0), .int (iI 0)])), (aL, .inr (2, [.ref aT, .int (iI 0), .int (iI 0), .int (iI 0)])), (aI, .inr (5, [.ref aP, .ref aN, .ref aU]))] [(0, .ref aX)] 112 [.ref aI, .ref aX]
  refine z_putF C I f_X_56 ok_X nm_X d_X_init_112 0 rfl rfl rfl rfl rfl (Nat.le_of_ble_eq_true rfl) [(aX, .inr (7, [.ref aT, .ref aP, .ref aN, .ref aU, .ref aV, .ref aI, .null, .int (iI 0), .int (iI 0)])), (aT, .inr (0, [.ref aTb, .int (iI 0)])), bA G aTb 4096 (fun _ => 0), (aP, .inr (0, [.ref aPb, .int (iI 0)])), bA G aPb 5632 (fun _ => 0), (aN, .inr (3, [.ref aNl_41, .ref aNn_41, .ref aNt_41])), bA G aNl_41 480 (fun _ => 0), iA G aNn_41 40 (fun _ => 0), iA G aNt_41 3 (fun _ => 0), (aU, .inr (6, [.ref aUg_56, .ref aUd_56, .int (iI 0), .int (iI 0), .int (iI (-1)), .ref aN, .ref aUa_56])), iA G aUg_56 384 (flZ 384 (-1) (fun _ => 0)), iA G aUd_56 16 (flZ 16 (-1) (fun _ => 0)), iA G aUa_56 1536 (flZ 1536 (-1) (fun _ => 0)), (aV, .inr (4, [.ref aL, .ref aN, .ref aU, .int (iI 0), .int (iI 0), .int (iI 0), .int (iI 0), .int (iI 0), .int (iI 0), .int (iI 0)])), (aL, .inr (2, [.ref aT, .int (iI 0), .int (iI 0), .int (iI 0)])), (aI, .inr (5, [.ref aP, .ref aN, .ref aU]))] rfl ?_
  refine z_aload_n C d_X_init_115 0 rfl ?_
  refine z_new (ci := 1) (fs := [.null, .null, .null, .null, .int (iI 0)]) C wu_D ok_D wc_X_60 wn_D wi_D rfl df_D (by decide) d_X_init_116 (fun aD => ?_)
  show Zc G X 1 16 12223 [(aX, .inr (7, [.ref aT, .ref aP, .ref aN, .ref aU, .ref aV, .ref aI, .null, .int (iI 0), .int (iI 0)])), (aT, .inr (0, [.ref aTb, .int (iI 0)])), bA G aTb 4096 (fun _ => 0), (aP, .inr (0, [.ref aPb, .int (iI 0)])), bA G aPb 5632 (fun _ => 0), (aN, .inr (3, [.ref aNl_41, .ref aNn_41, .ref aNt_41])), bA G aNl_41 480 (fun _ => 0), iA G aNn_41 40 (fun _ => 0), iA G aNt_41 3 (fun _ => 0), (aU, .inr (6, [.ref aUg_56, .ref aUd_56, .int (iI 0), .int (iI 0), .int (iI (-1)), .ref aN, .ref aUa_56])), iA G aUg_56 384 (flZ 384 (-1) (fun _ => 0)), iA G aUd_56 16 (flZ 16 (-1) (fun _ => 0)), iA G aUa_56 1536 (flZ 1536 (-1) (fun _ => 0)), (aV, .inr (4, [.ref aL, .ref aN, .ref aU, .int (iI 0), .int (iI 0), .int (iI 0), .int (iI 0), .int (iI 0), .int (iI 0), .int (iI 0)])), (aL, .inr (2, [.ref aT, .int (iI 0), .int (iI 0), .int (iI 0)])), (aI, .inr (5, [.ref aP, .ref aN, .ref aU])), (aD, .inr (1, [.null, .null, .null, .null, .int (iI 0)]))] [(0, .ref aX)] 119 [.ref aD, .ref aX]
  refine z_dup C d_X_init_119 rfl ?_
  refine z_aload_n C d_X_init_120 0 rfl ?_
  refine z_get C f_X_18 d_X_init_121 0 rfl rfl ?_
  refine z_aload_n C d_X_init_124 0 rfl ?_
  refine z_get C f_X_24 d_X_init_125 0 rfl rfl ?_
  refine z_aload_n C d_X_init_128 0 rfl ?_
  refine z_get C f_X_33 d_X_init_129 0 rfl rfl ?_
  refine z_callI (As := [.ref aP, .ref aN, .ref aU]) (rest := [.ref aD, .ref aX]) (wr := [(aX, .inr (7, [.ref aT, .ref aP, .ref aN, .ref aU, .ref aV, .ref aI, .null, .int (iI 0), .int (iI 0)])), (aT, .inr (0, [.ref aTb, .int (iI 0)])), bA G aTb 4096 (fun _ => 0), (aP, .inr (0, [.ref aPb, .int (iI 0)])), bA G aPb 5632 (fun _ => 0), (aN, .inr (3, [.ref aNl_41, .ref aNn_41, .ref aNt_41])), bA G aNl_41 480 (fun _ => 0), iA G aNn_41 40 (fun _ => 0), iA G aNt_41 3 (fun _ => 0), (aU, .inr (6, [.ref aUg_56, .ref aUd_56, .int (iI 0), .int (iI 0), .int (iI (-1)), .ref aN, .ref aUa_56])), iA G aUg_56 384 (flZ 384 (-1) (fun _ => 0)), iA G aUd_56 16 (flZ 16 (-1) (fun _ => 0)), iA G aUa_56 1536 (flZ 1536 (-1) (fun _ => 0)), (aV, .inr (4, [.ref aL, .ref aN, .ref aU, .int (iI 0), .int (iI 0), .int (iI 0), .int (iI 0), .int (iI 0), .int (iI 0), .int (iI 0)])), (aL, .inr (2, [.ref aT, .int (iI 0), .int (iI 0), .int (iI 0)])), (aI, .inr (5, [.ref aP, .ref aN, .ref aU]))]) (ws' := fun u => [(aX, .inr (7, [.ref aT, .ref aP, .ref aN, .ref aU, .ref aV, .ref aI, .null, .int (iI 0), .int (iI 0)])), (aT, .inr (0, [.ref aTb, .int (iI 0)])), bA G aTb 4096 (fun _ => 0), (aP, .inr (0, [.ref aPb, .int (iI 0)])), bA G aPb 5632 (fun _ => 0), (aN, .inr (3, [.ref aNl_41, .ref aNn_41, .ref aNt_41])), bA G aNl_41 480 (fun _ => 0), iA G aNn_41 40 (fun _ => 0), iA G aNt_41 3 (fun _ => 0), (aU, .inr (6, [.ref aUg_56, .ref aUd_56, .int (iI 0), .int (iI 0), .int (iI (-1)), .ref aN, .ref aUa_56])), iA G aUg_56 384 (flZ 384 (-1) (fun _ => 0)), iA G aUd_56 16 (flZ 16 (-1) (fun _ => 0)), iA G aUa_56 1536 (flZ 1536 (-1) (fun _ => 0)), (aV, .inr (4, [.ref aL, .ref aN, .ref aU, .int (iI 0), .int (iI 0), .int (iI 0), .int (iI 0), .int (iI 0), .int (iI 0), .int (iI 0)])), (aL, .inr (2, [.ref aT, .int (iI 0), .int (iI 0), .int (iI 0)])), (aI, .inr (5, [.ref aP, .ref aN, .ref aU])), (aD, .inr (1, [.ref aP, .ref aN, .ref aU, .ref u, .int (iI 0)])), iA G u 24 (fun _ => 0)]) C k_X_62 kc_D_init (fun l sz => m_D_init l G sz aD aP aN aU ) rfl rfl (Nat.le_of_ble_eq_true rfl) (by decide) d_X_init_132 [16] [0, 1, 2, 3, 4, 5, 6, 7, 8, 9, 10, 11, 12, 13, 14, 15] [0, 1, 2, 3, 4, 5, 6, 7, 8, 9, 10, 11, 12, 13, 14, 15, 16, 17] rfl rfl (by decide) (fun u => rfl) (fun u h132 => ?_)
  obtain ⟨aDw_132, rfl⟩ : ∃ z, z = u := ⟨_, rfl⟩
  show Zc G X 1 17 12247 [(aX, .inr (7, [.ref aT, .ref aP, .ref aN, .ref aU, .ref aV, .ref aI, .null, .int (iI 0), .int (iI 0)])), (aT, .inr (0, [.ref aTb, .int (iI 0)])), bA G aTb 4096 (fun _ => 0), (aP, .inr (0, [.ref aPb, .int (iI 0)])), bA G aPb 5632 (fun _ => 0), (aN, .inr (3, [.ref aNl_41, .ref aNn_41, .ref aNt_41])), bA G aNl_41 480 (fun _ => 0), iA G aNn_41 40 (fun _ => 0), iA G aNt_41 3 (fun _ => 0), (aU, .inr (6, [.ref aUg_56, .ref aUd_56, .int (iI 0), .int (iI 0), .int (iI (-1)), .ref aN, .ref aUa_56])), iA G aUg_56 384 (flZ 384 (-1) (fun _ => 0)), iA G aUd_56 16 (flZ 16 (-1) (fun _ => 0)), iA G aUa_56 1536 (flZ 1536 (-1) (fun _ => 0)), (aV, .inr (4, [.ref aL, .ref aN, .ref aU, .int (iI 0), .int (iI 0), .int (iI 0), .int (iI 0), .int (iI 0), .int (iI 0), .int (iI 0)])), (aL, .inr (2, [.ref aT, .int (iI 0), .int (iI 0), .int (iI 0)])), (aI, .inr (5, [.ref aP, .ref aN, .ref aU])), (aD, .inr (1, [.ref aP, .ref aN, .ref aU, .ref aDw_132, .int (iI 0)])), iA G aDw_132 24 (fun _ => 0)] [(0, .ref aX)] 135 [.ref aD, .ref aX]
  refine z_putF C I f_X_63 ok_X nm_X d_X_init_135 0 rfl rfl rfl rfl rfl (Nat.le_of_ble_eq_true rfl) [(aX, .inr (7, [.ref aT, .ref aP, .ref aN, .ref aU, .ref aV, .ref aI, .ref aD, .int (iI 0), .int (iI 0)])), (aT, .inr (0, [.ref aTb, .int (iI 0)])), bA G aTb 4096 (fun _ => 0), (aP, .inr (0, [.ref aPb, .int (iI 0)])), bA G aPb 5632 (fun _ => 0), (aN, .inr (3, [.ref aNl_41, .ref aNn_41, .ref aNt_41])), bA G aNl_41 480 (fun _ => 0), iA G aNn_41 40 (fun _ => 0), iA G aNt_41 3 (fun _ => 0), (aU, .inr (6, [.ref aUg_56, .ref aUd_56, .int (iI 0), .int (iI 0), .int (iI (-1)), .ref aN, .ref aUa_56])), iA G aUg_56 384 (flZ 384 (-1) (fun _ => 0)), iA G aUd_56 16 (flZ 16 (-1) (fun _ => 0)), iA G aUa_56 1536 (flZ 1536 (-1) (fun _ => 0)), (aV, .inr (4, [.ref aL, .ref aN, .ref aU, .int (iI 0), .int (iI 0), .int (iI 0), .int (iI 0), .int (iI 0), .int (iI 0), .int (iI 0)])), (aL, .inr (2, [.ref aT, .int (iI 0), .int (iI 0), .int (iI 0)])), (aI, .inr (5, [.ref aP, .ref aN, .ref aU])), (aD, .inr (1, [.ref aP, .ref aN, .ref aU, .ref aDw_132, .int (iI 0)])), iA G aDw_132 24 (fun _ => 0)] rfl ?_
  refine z_aload_n C d_X_init_138 0 rfl ?_
  refine z_iconst C d_X_init_139 ?_
  refine z_put C f_X_67 ok_X nm_X d_X_init_140 0 rfl rfl rfl rfl (Nat.le_of_ble_eq_true rfl) [(aX, .inr (7, [.ref aT, .ref aP, .ref aN, .ref aU, .ref aV, .ref aI, .ref aD, .int (iI 0), .int (iI 0)])), (aT, .inr (0, [.ref aTb, .int (iI 0)])), bA G aTb 4096 (fun _ => 0), (aP, .inr (0, [.ref aPb, .int (iI 0)])), bA G aPb 5632 (fun _ => 0), (aN, .inr (3, [.ref aNl_41, .ref aNn_41, .ref aNt_41])), bA G aNl_41 480 (fun _ => 0), iA G aNn_41 40 (fun _ => 0), iA G aNt_41 3 (fun _ => 0), (aU, .inr (6, [.ref aUg_56, .ref aUd_56, .int (iI 0), .int (iI 0), .int (iI (-1)), .ref aN, .ref aUa_56])), iA G aUg_56 384 (flZ 384 (-1) (fun _ => 0)), iA G aUd_56 16 (flZ 16 (-1) (fun _ => 0)), iA G aUa_56 1536 (flZ 1536 (-1) (fun _ => 0)), (aV, .inr (4, [.ref aL, .ref aN, .ref aU, .int (iI 0), .int (iI 0), .int (iI 0), .int (iI 0), .int (iI 0), .int (iI 0), .int (iI 0)])), (aL, .inr (2, [.ref aT, .int (iI 0), .int (iI 0), .int (iI 0)])), (aI, .inr (5, [.ref aP, .ref aN, .ref aU])), (aD, .inr (1, [.ref aP, .ref aN, .ref aU, .ref aDw_132, .int (iI 0)])), iA G aDw_132 24 (fun _ => 0)] rfl ?_
  refine z_aload_n C d_X_init_143 0 rfl ?_
  refine z_iconst C d_X_init_144 ?_
  refine z_put C f_X_71 ok_X nm_X d_X_init_145 0 rfl rfl rfl rfl (Nat.le_of_ble_eq_true rfl) [(aX, .inr (7, [.ref aT, .ref aP, .ref aN, .ref aU, .ref aV, .ref aI, .ref aD, .int (iI 0), .int (iI 0)])), (aT, .inr (0, [.ref aTb, .int (iI 0)])), bA G aTb 4096 (fun _ => 0), (aP, .inr (0, [.ref aPb, .int (iI 0)])), bA G aPb 5632 (fun _ => 0), (aN, .inr (3, [.ref aNl_41, .ref aNn_41, .ref aNt_41])), bA G aNl_41 480 (fun _ => 0), iA G aNn_41 40 (fun _ => 0), iA G aNt_41 3 (fun _ => 0), (aU, .inr (6, [.ref aUg_56, .ref aUd_56, .int (iI 0), .int (iI 0), .int (iI (-1)), .ref aN, .ref aUa_56])), iA G aUg_56 384 (flZ 384 (-1) (fun _ => 0)), iA G aUd_56 16 (flZ 16 (-1) (fun _ => 0)), iA G aUa_56 1536 (flZ 1536 (-1) (fun _ => 0)), (aV, .inr (4, [.ref aL, .ref aN, .ref aU, .int (iI 0), .int (iI 0), .int (iI 0), .int (iI 0), .int (iI 0), .int (iI 0), .int (iI 0)])), (aL, .inr (2, [.ref aT, .int (iI 0), .int (iI 0), .int (iI 0)])), (aI, .inr (5, [.ref aP, .ref aN, .ref aU])), (aD, .inr (1, [.ref aP, .ref aN, .ref aU, .ref aDw_132, .int (iI 0)])), iA G aDw_132 24 (fun _ => 0)] rfl ?_
  exact z_vret C K d_X_init_148 (aT, aTb, aP, aPb, aN, aNl_41, aNn_41, aNt_41, aU, aUg_56, aUd_56, aUa_56, aV, aL, aI, aD, aDw_132) (rfl) (trivial)
set_option maxHeartbeats 4000000 in
set_option maxRecDepth 100000 in
theorem m_M_init (l : Launch) (G : GG) (sz : Nat) (aM : Nat)  : MetV l G sz y_M_init c_M_init 1 ({ frames := 1, cells := 14, slots := 18803, locals := 21 } : Room) [.ref aM] [(aM, .inr (8, [.null, .int (iI 0), .int (iI 0), .null, .int (iI 0), .null, .int (iI 0), .int (iI 0), .int (iI 0), .int (iI 0), .null, .null, .null, .null, .null, .null, .null, .int (iI 0), .int (iI 0), .int (iI 0), .null, .null, .null, .null, .int (iI 0), .int (iI 0), .int (iI 0), .int (iI 0)]))] (fun (u : Nat × Nat × Nat × Nat × Nat × Nat × Nat × Nat × Nat × Nat × Nat × Nat × Nat × Nat) => True) (fun (u : Nat × Nat × Nat × Nat × Nat × Nat × Nat × Nat × Nat × Nat × Nat × Nat × Nat × Nat) => [(aM, .inr (8, [.ref u.1, .int (iI 0), .int (iI 0), .ref u.2.1, .int (iI 0), .ref u.2.2.1, .int (iI 0), .int (iI 0), .int (iI 0), .int (iI 0), .ref u.2.2.2.1, .ref u.2.2.2.2.1, .ref u.2.2.2.2.2.1, .ref u.2.2.2.2.2.2.1, .ref u.2.2.2.2.2.2.2.1, .ref u.2.2.2.2.2.2.2.2.1, .ref u.2.2.2.2.2.2.2.2.2.1, .int (iI 0), .int (iI 0), .int (iI 0), .ref u.2.2.2.2.2.2.2.2.2.2.1, .ref u.2.2.2.2.2.2.2.2.2.2.2.1, .ref u.2.2.2.2.2.2.2.2.2.2.2.2.1, .ref u.2.2.2.2.2.2.2.2.2.2.2.2.2, .int (iI 0), .int (iI 0), .int (iI 0), .int (iI 0)])), iA G u.1 48 wch, iA G u.2.1 4200 (fun _ => 0), iA G u.2.2.1 8192 (fun _ => 0), iA G u.2.2.2.1 4200 (fun _ => 0), iA G u.2.2.2.2.1 40 (fun _ => 0), iA G u.2.2.2.2.2.1 40 (fun _ => 0), iA G u.2.2.2.2.2.2.1 40 (fun _ => 0), iA G u.2.2.2.2.2.2.2.1 40 (fun _ => 0), iA G u.2.2.2.2.2.2.2.2.1 3 (flZ 3 0 (fun _ => 0)), iA G u.2.2.2.2.2.2.2.2.2.1 48 (fun _ => 0), iA G u.2.2.2.2.2.2.2.2.2.2.1 384 (flZ 384 (-1) (fun _ => 0)), iA G u.2.2.2.2.2.2.2.2.2.2.2.1 1536 (flZ 1536 (-1) (fun _ => 0)), iA G u.2.2.2.2.2.2.2.2.2.2.2.2.1 16 (fun _ => 0), iA G u.2.2.2.2.2.2.2.2.2.2.2.2.2 16 (fun _ => 0)]) := by
  refine MetV.mkI (by decide) rfl (Nat.le_of_ble_eq_true rfl) (fun X C I K => ?_)
  show Zc G X 1 0 0 [(aM, .inr (8, [.null, .int (iI 0), .int (iI 0), .null, .int (iI 0), .null, .int (iI 0), .int (iI 0), .int (iI 0), .int (iI 0), .null, .null, .null, .null, .null, .null, .null, .int (iI 0), .int (iI 0), .int (iI 0), .null, .null, .null, .null, .int (iI 0), .int (iI 0), .int (iI 0), .int (iI 0)]))] [(0, .ref aM)] 0 []
  refine z_aload_n C d_M_init_0 0 rfl ?_
  refine z_oinit C ml_M_1 d_M_init_1 (by decide) (by decide) ?_
  refine z_aload_n C d_M_init_4 0 rfl ?_
  refine z_bipush C d_M_init_5 (by decide) ?_
  refine z_newi C d_M_init_7 (by omega) (by decide) (fun aWc => ?_)
  show Zc G X 1 1 48 [(aM, .inr (8, [.null, .int (iI 0), .int (iI 0), .null, .int (iI 0), .null, .int (iI 0), .int (iI 0), .int (iI 0), .int (iI 0), .null, .null, .null, .null, .null, .null, .null, .int (iI 0), .int (iI 0), .int (iI 0), .null, .null, .null, .null, .int (iI 0), .int (iI 0), .int (iI 0), .int (iI 0)])), iA G aWc 48 (fun _ => 0)] [(0, .ref aM)] 9 [.ref aWc, .ref aM]
  refine z_dup C d_M_init_9 rfl ?_
  refine z_iconst C d_M_init_10 ?_
  refine z_bipush C d_M_init_11 (by decide) ?_
  refine z_iast C d_M_init_13 1 rfl (by omega) [(aM, .inr (8, [.null, .int (iI 0), .int (iI 0), .null, .int (iI 0), .null, .int (iI 0), .int (iI 0), .int (iI 0), .int (iI 0), .null, .null, .null, .null, .null, .null, .null, .int (iI 0), .int (iI 0), .int (iI 0), .null, .null, .null, .null, .int (iI 0), .int (iI 0), .int (iI 0), .int (iI 0)])), iA G aWc 48 (wcp 1)] (congrArg (fun (Fq : Nat → Int) => ([(aM, .inr (8, [.null, .int (iI 0), .int (iI 0), .null, .int (iI 0), .null, .int (iI 0), .int (iI 0), .int (iI 0), .int (iI 0), .null, .null, .null, .null, .null, .null, .null, .int (iI 0), .int (iI 0), .int (iI 0), .null, .null, .null, .null, .int (iI 0), .int (iI 0), .int (iI 0), .int (iI 0)])), iA G aWc 48 Fq] : va_W)) (wck (k := 0) (by decide +kernel))) ?_
  refine z_dup C d_M_init_14 rfl ?_
  refine z_iconst C d_M_init_15 ?_
  refine z_bipush C d_M_init_16 (by decide) ?_
  refine z_iast C d_M_init_18 1 rfl (by omega) [(aM, .inr (8, [.null, .int (iI 0), .int (iI 0), .null, .int (iI 0), .null, .int (iI 0), .int (iI 0), .int (iI 0), .int (iI 0), .null, .null, .null, .null, .null, .null, .null, .int (iI 0), .int (iI 0), .int (iI 0), .null, .null, .null, .null, .int (iI 0), .int (iI 0), .int (iI 0), .int (iI 0)])), iA G aWc 48 (wcp 2)] (congrArg (fun (Fq : Nat → Int) => ([(aM, .inr (8, [.null, .int (iI 0), .int (iI 0), .null, .int (iI 0), .null, .int (iI 0), .int (iI 0), .int (iI 0), .int (iI 0), .null, .null, .null, .null, .null, .null, .null, .int (iI 0), .int (iI 0), .int (iI 0), .null, .null, .null, .null, .int (iI 0), .int (iI 0), .int (iI 0), .int (iI 0)])), iA G aWc 48 Fq] : va_W)) (wck (k := 1) (by decide +kernel))) ?_
  refine z_dup C d_M_init_19 rfl ?_
  refine z_iconst C d_M_init_20 ?_
  refine z_bipush C d_M_init_21 (by decide) ?_
  refine z_iast C d_M_init_23 1 rfl (by omega) [(aM, .inr (8, [.null, .int (iI 0), .int (iI 0), .null, .int (iI 0), .null, .int (iI 0), .int (iI 0), .int (iI 0), .int (iI 0), .null, .null, .null, .null, .null, .null, .null, .int (iI 0), .int (iI 0), .int (iI 0), .null, .null, .null, .null, .int (iI 0), .int (iI 0), .int (iI 0), .int (iI 0)])), iA G aWc 48 (wcp 3)] (congrArg (fun (Fq : Nat → Int) => ([(aM, .inr (8, [.null, .int (iI 0), .int (iI 0), .null, .int (iI 0), .null, .int (iI 0), .int (iI 0), .int (iI 0), .int (iI 0), .null, .null, .null, .null, .null, .null, .null, .int (iI 0), .int (iI 0), .int (iI 0), .null, .null, .null, .null, .int (iI 0), .int (iI 0), .int (iI 0), .int (iI 0)])), iA G aWc 48 Fq] : va_W)) (wck (k := 2) (by decide +kernel))) ?_
  refine z_dup C d_M_init_24 rfl ?_
  refine z_iconst C d_M_init_25 ?_
  refine z_bipush C d_M_init_26 (by decide) ?_
  refine z_iast C d_M_init_28 1 rfl (by omega) [(aM, .inr (8, [.null, .int (iI 0), .int (iI 0), .null, .int (iI 0), .null, .int (iI 0), .int (iI 0), .int (iI 0), .int (iI 0), .null, .null, .null, .null, .null, .null, .null, .int (iI 0), .int (iI 0), .int (iI 0), .null, .null, .null, .null, .int (iI 0), .int (iI 0), .int (iI 0), .int (iI 0)])), iA G aWc 48 (wcp 4)] (congrArg (fun (Fq : Nat → Int) => ([(aM, .inr (8, [.null, .int (iI 0), .int (iI 0), .null, .int (iI 0), .null, .int (iI 0), .int (iI 0), .int (iI 0), .int (iI 0), .null, .null, .null, .null, .null, .null, .null, .int (iI 0), .int (iI 0), .int (iI 0), .null, .null, .null, .null, .int (iI 0), .int (iI 0), .int (iI 0), .int (iI 0)])), iA G aWc 48 Fq] : va_W)) (wck (k := 3) (by decide +kernel))) ?_
  refine z_dup C d_M_init_29 rfl ?_
  refine z_iconst C d_M_init_30 ?_
  refine z_bipush C d_M_init_31 (by decide) ?_
  refine z_iast C d_M_init_33 1 rfl (by omega) [(aM, .inr (8, [.null, .int (iI 0), .int (iI 0), .null, .int (iI 0), .null, .int (iI 0), .int (iI 0), .int (iI 0), .int (iI 0), .null, .null, .null, .null, .null, .null, .null, .int (iI 0), .int (iI 0), .int (iI 0), .null, .null, .null, .null, .int (iI 0), .int (iI 0), .int (iI 0), .int (iI 0)])), iA G aWc 48 (wcp 5)] (congrArg (fun (Fq : Nat → Int) => ([(aM, .inr (8, [.null, .int (iI 0), .int (iI 0), .null, .int (iI 0), .null, .int (iI 0), .int (iI 0), .int (iI 0), .int (iI 0), .null, .null, .null, .null, .null, .null, .null, .int (iI 0), .int (iI 0), .int (iI 0), .null, .null, .null, .null, .int (iI 0), .int (iI 0), .int (iI 0), .int (iI 0)])), iA G aWc 48 Fq] : va_W)) (wck (k := 4) (by decide +kernel))) ?_
  refine z_dup C d_M_init_34 rfl ?_
  refine z_iconst C d_M_init_35 ?_
  refine z_iconst C d_M_init_36 ?_
  refine z_iast C d_M_init_37 1 rfl (by omega) [(aM, .inr (8, [.null, .int (iI 0), .int (iI 0), .null, .int (iI 0), .null, .int (iI 0), .int (iI 0), .int (iI 0), .int (iI 0), .null, .null, .null, .null, .null, .null, .null, .int (iI 0), .int (iI 0), .int (iI 0), .null, .null, .null, .null, .int (iI 0), .int (iI 0), .int (iI 0), .int (iI 0)])), iA G aWc 48 (wcp 6)] (congrArg (fun (Fq : Nat → Int) => ([(aM, .inr (8, [.null, .int (iI 0), .int (iI 0), .null, .int (iI 0), .null, .int (iI 0), .int (iI 0), .int (iI 0), .int (iI 0), .null, .null, .null, .null, .null, .null, .null, .int (iI 0), .int (iI 0), .int (iI 0), .null, .null, .null, .null, .int (iI 0), .int (iI 0), .int (iI 0), .int (iI 0)])), iA G aWc 48 Fq] : va_W)) (wck (k := 5) (by decide +kernel))) ?_
  refine z_dup C d_M_init_38 rfl ?_
  refine z_bipush C d_M_init_39 (by decide) ?_
  refine z_bipush C d_M_init_41 (by decide) ?_
  refine z_iast C d_M_init_43 1 rfl (by omega) [(aM, .inr (8, [.null, .int (iI 0), .int (iI 0), .null, .int (iI 0), .null, .int (iI 0), .int (iI 0), .int (iI 0), .int (iI 0), .null, .null, .null, .null, .null, .null, .null, .int (iI 0), .int (iI 0), .int (iI 0), .null, .null, .null, .null, .int (iI 0), .int (iI 0), .int (iI 0), .int (iI 0)])), iA G aWc 48 (wcp 7)] (congrArg (fun (Fq : Nat → Int) => ([(aM, .inr (8, [.null, .int (iI 0), .int (iI 0), .null, .int (iI 0), .null, .int (iI 0), .int (iI 0), .int (iI 0), .int (iI 0), .null, .null, .null, .null, .null, .null, .null, .int (iI 0), .int (iI 0), .int (iI 0), .null, .null, .null, .null, .int (iI 0), .int (iI 0), .int (iI 0), .int (iI 0)])), iA G aWc 48 Fq] : va_W)) (wck (k := 6) (by decide +kernel))) ?_
  refine z_dup C d_M_init_44 rfl ?_
  refine z_bipush C d_M_init_45 (by decide) ?_
  refine z_bipush C d_M_init_47 (by decide) ?_
  refine z_iast C d_M_init_49 1 rfl (by omega) [(aM, .inr (8, [.null, .int (iI 0), .int (iI 0), .null, .int (iI 0), .null, .int (iI 0), .int (iI 0), .int (iI 0), .int (iI 0), .null, .null, .null, .null, .null, .null, .null, .int (iI 0), .int (iI 0), .int (iI 0), .null, .null, .null, .null, .int (iI 0), .int (iI 0), .int (iI 0), .int (iI 0)])), iA G aWc 48 (wcp 8)] (congrArg (fun (Fq : Nat → Int) => ([(aM, .inr (8, [.null, .int (iI 0), .int (iI 0), .null, .int (iI 0), .null, .int (iI 0), .int (iI 0), .int (iI 0), .int (iI 0), .null, .null, .null, .null, .null, .null, .null, .int (iI 0), .int (iI 0), .int (iI 0), .null, .null, .null, .null, .int (iI 0), .int (iI 0), .int (iI 0), .int (iI 0)])), iA G aWc 48 Fq] : va_W)) (wck (k := 7) (by decide +kernel))) ?_
  refine z_dup C d_M_init_50 rfl ?_
  refine z_bipush C d_M_init_51 (by decide) ?_
  refine z_bipush C d_M_init_53 (by decide) ?_
  refine z_iast C d_M_init_55 1 rfl (by omega) [(aM, .inr (8, [.null, .int (iI 0), .int (iI 0), .null, .int (iI 0), .null, .int (iI 0), .int (iI 0), .int (iI 0), .int (iI 0), .null, .null, .null, .null, .null, .null, .null, .int (iI 0), .int (iI 0), .int (iI 0), .null, .null, .null, .null, .int (iI 0), .int (iI 0), .int (iI 0), .int (iI 0)])), iA G aWc 48 (wcp 9)] (congrArg (fun (Fq : Nat → Int) => ([(aM, .inr (8, [.null, .int (iI 0), .int (iI 0), .null, .int (iI 0), .null, .int (iI 0), .int (iI 0), .int (iI 0), .int (iI 0), .null, .null, .null, .null, .null, .null, .null, .int (iI 0), .int (iI 0), .int (iI 0), .null, .null, .null, .null, .int (iI 0), .int (iI 0), .int (iI 0), .int (iI 0)])), iA G aWc 48 Fq] : va_W)) (wck (k := 8) (by decide +kernel))) ?_
  refine z_dup C d_M_init_56 rfl ?_
  refine z_bipush C d_M_init_57 (by decide) ?_
  refine z_iconst C d_M_init_59 ?_
  refine z_iast C d_M_init_60 1 rfl (by omega) [(aM, .inr (8, [.null, .int (iI 0), .int (iI 0), .null, .int (iI 0), .null, .int (iI 0), .int (iI 0), .int (iI 0), .int (iI 0), .null, .null, .null, .null, .null, .null, .null, .int (iI 0), .int (iI 0), .int (iI 0), .null, .null, .null, .null, .int (iI 0), .int (iI 0), .int (iI 0), .int (iI 0)])), iA G aWc 48 (wcp 10)] (congrArg (fun (Fq : Nat → Int) => ([(aM, .inr (8, [.null, .int (iI 0), .int (iI 0), .null, .int (iI 0), .null, .int (iI 0), .int (iI 0), .int (iI 0), .int (iI 0), .null, .null, .null, .null, .null, .null, .null, .int (iI 0), .int (iI 0), .int (iI 0), .null, .null, .null, .null, .int (iI 0), .int (iI 0), .int (iI 0), .int (iI 0)])), iA G aWc 48 Fq] : va_W)) (wck (k := 9) (by decide +kernel))) ?_
  refine z_dup C d_M_init_61 rfl ?_
  refine z_bipush C d_M_init_62 (by decide) ?_
  refine z_bipush C d_M_init_64 (by decide) ?_
  refine z_iast C d_M_init_66 1 rfl (by omega) [(aM, .inr (8, [.null, .int (iI 0), .int (iI 0), .null, .int (iI 0), .null, .int (iI 0), .int (iI 0), .int (iI 0), .int (iI 0), .null, .null, .null, .null, .null, .null, .null, .int (iI 0), .int (iI 0), .int (iI 0), .null, .null, .null, .null, .int (iI 0), .int (iI 0), .int (iI 0), .int (iI 0)])), iA G aWc 48 (wcp 11)] (congrArg (fun (Fq : Nat → Int) => ([(aM, .inr (8, [.null, .int (iI 0), .int (iI 0), .null, .int (iI 0), .null, .int (iI 0), .int (iI 0), .int (iI 0), .int (iI 0), .null, .null, .null, .null, .null, .null, .null, .int (iI 0), .int (iI 0), .int (iI 0), .null, .null, .null, .null, .int (iI 0), .int (iI 0), .int (iI 0), .int (iI 0)])), iA G aWc 48 Fq] : va_W)) (wck (k := 10) (by decide +kernel))) ?_
  refine z_dup C d_M_init_67 rfl ?_
  refine z_bipush C d_M_init_68 (by decide) ?_
  refine z_bipush C d_M_init_70 (by decide) ?_
  refine z_iast C d_M_init_72 1 rfl (by omega) [(aM, .inr (8, [.null, .int (iI 0), .int (iI 0), .null, .int (iI 0), .null, .int (iI 0), .int (iI 0), .int (iI 0), .int (iI 0), .null, .null, .null, .null, .null, .null, .null, .int (iI 0), .int (iI 0), .int (iI 0), .null, .null, .null, .null, .int (iI 0), .int (iI 0), .int (iI 0), .int (iI 0)])), iA G aWc 48 (wcp 12)] (congrArg (fun (Fq : Nat → Int) => ([(aM, .inr (8, [.null, .int (iI 0), .int (iI 0), .null, .int (iI 0), .null, .int (iI 0), .int (iI 0), .int (iI 0), .int (iI 0), .null, .null, .null, .null, .null, .null, .null, .int (iI 0), .int (iI 0), .int (iI 0), .null, .null, .null, .null, .int (iI 0), .int (iI 0), .int (iI 0), .int (iI 0)])), iA G aWc 48 Fq] : va_W)) (wck (k := 11) (by decide +kernel))) ?_
  refine z_dup C d_M_init_73 rfl ?_
  refine z_bipush C d_M_init_74 (by decide) ?_
  refine z_bipush C d_M_init_76 (by decide) ?_
  refine z_iast C d_M_init_78 1 rfl (by omega) [(aM, .inr (8, [.null, .int (iI 0), .int (iI 0), .null, .int (iI 0), .null, .int (iI 0), .int (iI 0), .int (iI 0), .int (iI 0), .null, .null, .null, .null, .null, .null, .null, .int (iI 0), .int (iI 0), .int (iI 0), .null, .null, .null, .null, .int (iI 0), .int (iI 0), .int (iI 0), .int (iI 0)])), iA G aWc 48 (wcp 13)] (congrArg (fun (Fq : Nat → Int) => ([(aM, .inr (8, [.null, .int (iI 0), .int (iI 0), .null, .int (iI 0), .null, .int (iI 0), .int (iI 0), .int (iI 0), .int (iI 0), .null, .null, .null, .null, .null, .null, .null, .int (iI 0), .int (iI 0), .int (iI 0), .null, .null, .null, .null, .int (iI 0), .int (iI 0), .int (iI 0), .int (iI 0)])), iA G aWc 48 Fq] : va_W)) (wck (k := 12) (by decide +kernel))) ?_
  refine z_dup C d_M_init_79 rfl ?_
  refine z_bipush C d_M_init_80 (by decide) ?_
  refine z_bipush C d_M_init_82 (by decide) ?_
  refine z_iast C d_M_init_84 1 rfl (by omega) [(aM, .inr (8, [.null, .int (iI 0), .int (iI 0), .null, .int (iI 0), .null, .int (iI 0), .int (iI 0), .int (iI 0), .int (iI 0), .null, .null, .null, .null, .null, .null, .null, .int (iI 0), .int (iI 0), .int (iI 0), .null, .null, .null, .null, .int (iI 0), .int (iI 0), .int (iI 0), .int (iI 0)])), iA G aWc 48 (wcp 14)] (congrArg (fun (Fq : Nat → Int) => ([(aM, .inr (8, [.null, .int (iI 0), .int (iI 0), .null, .int (iI 0), .null, .int (iI 0), .int (iI 0), .int (iI 0), .int (iI 0), .null, .null, .null, .null, .null, .null, .null, .int (iI 0), .int (iI 0), .int (iI 0), .null, .null, .null, .null, .int (iI 0), .int (iI 0), .int (iI 0), .int (iI 0)])), iA G aWc 48 Fq] : va_W)) (wck (k := 13) (by decide +kernel))) ?_
  refine z_dup C d_M_init_85 rfl ?_
  refine z_bipush C d_M_init_86 (by decide) ?_
  refine z_bipush C d_M_init_88 (by decide) ?_
  refine z_iast C d_M_init_90 1 rfl (by omega) [(aM, .inr (8, [.null, .int (iI 0), .int (iI 0), .null, .int (iI 0), .null, .int (iI 0), .int (iI 0), .int (iI 0), .int (iI 0), .null, .null, .null, .null, .null, .null, .null, .int (iI 0), .int (iI 0), .int (iI 0), .null, .null, .null, .null, .int (iI 0), .int (iI 0), .int (iI 0), .int (iI 0)])), iA G aWc 48 (wcp 15)] (congrArg (fun (Fq : Nat → Int) => ([(aM, .inr (8, [.null, .int (iI 0), .int (iI 0), .null, .int (iI 0), .null, .int (iI 0), .int (iI 0), .int (iI 0), .int (iI 0), .null, .null, .null, .null, .null, .null, .null, .int (iI 0), .int (iI 0), .int (iI 0), .null, .null, .null, .null, .int (iI 0), .int (iI 0), .int (iI 0), .int (iI 0)])), iA G aWc 48 Fq] : va_W)) (wck (k := 14) (by decide +kernel))) ?_
  refine z_dup C d_M_init_91 rfl ?_
  refine z_bipush C d_M_init_92 (by decide) ?_
  refine z_bipush C d_M_init_94 (by decide) ?_
  refine z_iast C d_M_init_96 1 rfl (by omega) [(aM, .inr (8, [.null, .int (iI 0), .int (iI 0), .null, .int (iI 0), .null, .int (iI 0), .int (iI 0), .int (iI 0), .int (iI 0), .null, .null, .null, .null, .null, .null, .null, .int (iI 0), .int (iI 0), .int (iI 0), .null, .null, .null, .null, .int (iI 0), .int (iI 0), .int (iI 0), .int (iI 0)])), iA G aWc 48 (wcp 16)] (congrArg (fun (Fq : Nat → Int) => ([(aM, .inr (8, [.null, .int (iI 0), .int (iI 0), .null, .int (iI 0), .null, .int (iI 0), .int (iI 0), .int (iI 0), .int (iI 0), .null, .null, .null, .null, .null, .null, .null, .int (iI 0), .int (iI 0), .int (iI 0), .null, .null, .null, .null, .int (iI 0), .int (iI 0), .int (iI 0), .int (iI 0)])), iA G aWc 48 Fq] : va_W)) (wck (k := 15) (by decide +kernel))) ?_
  refine z_dup C d_M_init_97 rfl ?_
  refine z_bipush C d_M_init_98 (by decide) ?_
  refine z_bipush C d_M_init_100 (by decide) ?_
  refine z_iast C d_M_init_102 1 rfl (by omega) [(aM, .inr (8, [.null, .int (iI 0), .int (iI 0), .null, .int (iI 0), .null, .int (iI 0), .int (iI 0), .int (iI 0), .int (iI 0), .null, .null, .null, .null, .null, .null, .null, .int (iI 0), .int (iI 0), .int (iI 0), .null, .null, .null, .null, .int (iI 0), .int (iI 0), .int (iI 0), .int (iI 0)])), iA G aWc 48 (wcp 17)] (congrArg (fun (Fq : Nat → Int) => ([(aM, .inr (8, [.null, .int (iI 0), .int (iI 0), .null, .int (iI 0), .null, .int (iI 0), .int (iI 0), .int (iI 0), .int (iI 0), .null, .null, .null, .null, .null, .null, .null, .int (iI 0), .int (iI 0), .int (iI 0), .null, .null, .null, .null, .int (iI 0), .int (iI 0), .int (iI 0), .int (iI 0)])), iA G aWc 48 Fq] : va_W)) (wck (k := 16) (by decide +kernel))) ?_
  refine z_dup C d_M_init_103 rfl ?_
  refine z_bipush C d_M_init_104 (by decide) ?_
  refine z_iconst C d_M_init_106 ?_
  refine z_iast C d_M_init_107 1 rfl (by omega) [(aM, .inr (8, [.null, .int (iI 0), .int (iI 0), .null, .int (iI 0), .null, .int (iI 0), .int (iI 0), .int (iI 0), .int (iI 0), .null, .null, .null, .null, .null, .null, .null, .int (iI 0), .int (iI 0), .int (iI 0), .null, .null, .null, .null, .int (iI 0), .int (iI 0), .int (iI 0), .int (iI 0)])), iA G aWc 48 (wcp 18)] (congrArg (fun (Fq : Nat → Int) => ([(aM, .inr (8, [.null, .int (iI 0), .int (iI 0), .null, .int (iI 0), .null, .int (iI 0), .int (iI 0), .int (iI 0), .int (iI 0), .null, .null, .null, .null, .null, .null, .null, .int (iI 0), .int (iI 0), .int (iI 0), .null, .null, .null, .null, .int (iI 0), .int (iI 0), .int (iI 0), .int (iI 0)])), iA G aWc 48 Fq] : va_W)) (wck (k := 17) (by decide +kernel))) ?_
  refine z_dup C d_M_init_108 rfl ?_
  refine z_bipush C d_M_init_109 (by decide) ?_
  refine z_bipush C d_M_init_111 (by decide) ?_
  refine z_iast C d_M_init_113 1 rfl (by omega) [(aM, .inr (8, [.null, .int (iI 0), .int (iI 0), .null, .int (iI 0), .null, .int (iI 0), .int (iI 0), .int (iI 0), .int (iI 0), .null, .null, .null, .null, .null, .null, .null, .int (iI 0), .int (iI 0), .int (iI 0), .null, .null, .null, .null, .int (iI 0), .int (iI 0), .int (iI 0), .int (iI 0)])), iA G aWc 48 (wcp 19)] (congrArg (fun (Fq : Nat → Int) => ([(aM, .inr (8, [.null, .int (iI 0), .int (iI 0), .null, .int (iI 0), .null, .int (iI 0), .int (iI 0), .int (iI 0), .int (iI 0), .null, .null, .null, .null, .null, .null, .null, .int (iI 0), .int (iI 0), .int (iI 0), .null, .null, .null, .null, .int (iI 0), .int (iI 0), .int (iI 0), .int (iI 0)])), iA G aWc 48 Fq] : va_W)) (wck (k := 18) (by decide +kernel))) ?_
  refine z_dup C d_M_init_114 rfl ?_
  refine z_bipush C d_M_init_115 (by decide) ?_
  refine z_bipush C d_M_init_117 (by decide) ?_
  refine z_iast C d_M_init_119 1 rfl (by omega) [(aM, .inr (8, [.null, .int (iI 0), .int (iI 0), .null, .int (iI 0), .null, .int (iI 0), .int (iI 0), .int (iI 0), .int (iI 0), .null, .null, .null, .null, .null, .null, .null, .int (iI 0), .int (iI 0), .int (iI 0), .null, .null, .null, .null, .int (iI 0), .int (iI 0), .int (iI 0), .int (iI 0)])), iA G aWc 48 (wcp 20)] (congrArg (fun (Fq : Nat → Int) => ([(aM, .inr (8, [.null, .int (iI 0), .int (iI 0), .null, .int (iI 0), .null, .int (iI 0), .int (iI 0), .int (iI 0), .int (iI 0), .null, .null, .null, .null, .null, .null, .null, .int (iI 0), .int (iI 0), .int (iI 0), .null, .null, .null, .null, .int (iI 0), .int (iI 0), .int (iI 0), .int (iI 0)])), iA G aWc 48 Fq] : va_W)) (wck (k := 19) (by decide +kernel))) ?_
  refine z_dup C d_M_init_120 rfl ?_
  refine z_bipush C d_M_init_121 (by decide) ?_
  refine z_iconst C d_M_init_123 ?_
  refine z_iast C d_M_init_124 1 rfl (by omega) [(aM, .inr (8, [.null, .int (iI 0), .int (iI 0), .null, .int (iI 0), .null, .int (iI 0), .int (iI 0), .int (iI 0), .int (iI 0), .null, .null, .null, .null, .null, .null, .null, .int (iI 0), .int (iI 0), .int (iI 0), .null, .null, .null, .null, .int (iI 0), .int (iI 0), .int (iI 0), .int (iI 0)])), iA G aWc 48 (wcp 21)] (congrArg (fun (Fq : Nat → Int) => ([(aM, .inr (8, [.null, .int (iI 0), .int (iI 0), .null, .int (iI 0), .null, .int (iI 0), .int (iI 0), .int (iI 0), .int (iI 0), .null, .null, .null, .null, .null, .null, .null, .int (iI 0), .int (iI 0), .int (iI 0), .null, .null, .null, .null, .int (iI 0), .int (iI 0), .int (iI 0), .int (iI 0)])), iA G aWc 48 Fq] : va_W)) (wck (k := 20) (by decide +kernel))) ?_
  refine z_dup C d_M_init_125 rfl ?_
  refine z_bipush C d_M_init_126 (by decide) ?_
  refine z_bipush C d_M_init_128 (by decide) ?_
  refine z_iast C d_M_init_130 1 rfl (by omega) [(aM, .inr (8, [.null, .int (iI 0), .int (iI 0), .null, .int (iI 0), .null, .int (iI 0), .int (iI 0), .int (iI 0), .int (iI 0), .null, .null, .null, .null, .null, .null, .null, .int (iI 0), .int (iI 0), .int (iI 0), .null, .null, .null, .null, .int (iI 0), .int (iI 0), .int (iI 0), .int (iI 0)])), iA G aWc 48 (wcp 22)] (congrArg (fun (Fq : Nat → Int) => ([(aM, .inr (8, [.null, .int (iI 0), .int (iI 0), .null, .int (iI 0), .null, .int (iI 0), .int (iI 0), .int (iI 0), .int (iI 0), .null, .null, .null, .null, .null, .null, .null, .int (iI 0), .int (iI 0), .int (iI 0), .null, .null, .null, .null, .int (iI 0), .int (iI 0), .int (iI 0), .int (iI 0)])), iA G aWc 48 Fq] : va_W)) (wck (k := 21) (by decide +kernel))) ?_
  refine z_dup C d_M_init_131 rfl ?_
  refine z_bipush C d_M_init_132 (by decide) ?_
  refine z_bipush C d_M_init_134 (by decide) ?_
  refine z_iast C d_M_init_136 1 rfl (by omega) [(aM, .inr (8, [.null, .int (iI 0), .int (iI 0), .null, .int (iI 0), .null, .int (iI 0), .int (iI 0), .int (iI 0), .int (iI 0), .null, .null, .null, .null, .null, .null, .null, .int (iI 0), .int (iI 0), .int (iI 0), .null, .null, .null, .null, .int (iI 0), .int (iI 0), .int (iI 0), .int (iI 0)])), iA G aWc 48 (wcp 23)] (congrArg (fun (Fq : Nat → Int) => ([(aM, .inr (8, [.null, .int (iI 0), .int (iI 0), .null, .int (iI 0), .null, .int (iI 0), .int (iI 0), .int (iI 0), .int (iI 0), .null, .null, .null, .null, .null, .null, .null, .int (iI 0), .int (iI 0), .int (iI 0), .null, .null, .null, .null, .int (iI 0), .int (iI 0), .int (iI 0), .int (iI 0)])), iA G aWc 48 Fq] : va_W)) (wck (k := 22) (by decide +kernel))) ?_
  refine z_dup C d_M_init_137 rfl ?_
  refine z_bipush C d_M_init_138 (by decide) ?_
  refine z_bipush C d_M_init_140 (by decide) ?_
  refine z_iast C d_M_init_142 1 rfl (by omega) [(aM, .inr (8, [.null, .int (iI 0), .int (iI 0), .null, .int (iI 0), .null, .int (iI 0), .int (iI 0), .int (iI 0), .int (iI 0), .null, .null, .null, .null, .null, .null, .null, .int (iI 0), .int (iI 0), .int (iI 0), .null, .null, .null, .null, .int (iI 0), .int (iI 0), .int (iI 0), .int (iI 0)])), iA G aWc 48 (wcp 24)] (congrArg (fun (Fq : Nat → Int) => ([(aM, .inr (8, [.null, .int (iI 0), .int (iI 0), .null, .int (iI 0), .null, .int (iI 0), .int (iI 0), .int (iI 0), .int (iI 0), .null, .null, .null, .null, .null, .null, .null, .int (iI 0), .int (iI 0), .int (iI 0), .null, .null, .null, .null, .int (iI 0), .int (iI 0), .int (iI 0), .int (iI 0)])), iA G aWc 48 Fq] : va_W)) (wck (k := 23) (by decide +kernel))) ?_
  refine z_dup C d_M_init_143 rfl ?_
  refine z_bipush C d_M_init_144 (by decide) ?_
  refine z_bipush C d_M_init_146 (by decide) ?_
  refine z_iast C d_M_init_148 1 rfl (by omega) [(aM, .inr (8, [.null, .int (iI 0), .int (iI 0), .null, .int (iI 0), .null, .int (iI 0), .int (iI 0), .int (iI 0), .int (iI 0), .null, .null, .null, .null, .null, .null, .null, .int (iI 0), .int (iI 0), .int (iI 0), .null, .null, .null, .null, .int (iI 0), .int (iI 0), .int (iI 0), .int (iI 0)])), iA G aWc 48 (wcp 25)] (congrArg (fun (Fq : Nat → Int) => ([(aM, .inr (8, [.null, .int (iI 0), .int (iI 0), .null, .int (iI 0), .null, .int (iI 0), .int (iI 0), .int (iI 0), .int (iI 0), .null, .null, .null, .null, .null, .null, .null, .int (iI 0), .int (iI 0), .int (iI 0), .null, .null, .null, .null, .int (iI 0), .int (iI 0), .int (iI 0), .int (iI 0)])), iA G aWc 48 Fq] : va_W)) (wck (k := 24) (by decide +kernel))) ?_
  refine z_dup C d_M_init_149 rfl ?_
  refine z_bipush C d_M_init_150 (by decide) ?_
  refine z_bipush C d_M_init_152 (by decide) ?_
  refine z_iast C d_M_init_154 1 rfl (by omega) [(aM, .inr (8, [.null, .int (iI 0), .int (iI 0), .null, .int (iI 0), .null, .int (iI 0), .int (iI 0), .int (iI 0), .int (iI 0), .null, .null, .null, .null, .null, .null, .null, .int (iI 0), .int (iI 0), .int (iI 0), .null, .null, .null, .null, .int (iI 0), .int (iI 0), .int (iI 0), .int (iI 0)])), iA G aWc 48 (wcp 26)] (congrArg (fun (Fq : Nat → Int) => ([(aM, .inr (8, [.null, .int (iI 0), .int (iI 0), .null, .int (iI 0), .null, .int (iI 0), .int (iI 0), .int (iI 0), .int (iI 0), .null, .null, .null, .null, .null, .null, .null, .int (iI 0), .int (iI 0), .int (iI 0), .null, .null, .null, .null, .int (iI 0), .int (iI 0), .int (iI 0), .int (iI 0)])), iA G aWc 48 Fq] : va_W)) (wck (k := 25) (by decide +kernel))) ?_
  refine z_dup C d_M_init_155 rfl ?_
  refine z_bipush C d_M_init_156 (by decide) ?_
  refine z_iconst C d_M_init_158 ?_
  refine z_iast C d_M_init_159 1 rfl (by omega) [(aM, .inr (8, [.null, .int (iI 0), .int (iI 0), .null, .int (iI 0), .null, .int (iI 0), .int (iI 0), .int (iI 0), .int (iI 0), .null, .null, .null, .null, .null, .null, .null, .int (iI 0), .int (iI 0), .int (iI 0), .null, .null, .null, .null, .int (iI 0), .int (iI 0), .int (iI 0), .int (iI 0)])), iA G aWc 48 (wcp 27)] (congrArg (fun (Fq : Nat → Int) => ([(aM, .inr (8, [.null, .int (iI 0), .int (iI 0), .null, .int (iI 0), .null, .int (iI 0), .int (iI 0), .int (iI 0), .int (iI 0), .null, .null, .null, .null, .null, .null, .null, .int (iI 0), .int (iI 0), .int (iI 0), .null, .null, .null, .null, .int (iI 0), .int (iI 0), .int (iI 0), .int (iI 0)])), iA G aWc 48 Fq] : va_W)) (wck (k := 26) (by decide +kernel))) ?_
  refine z_dup C d_M_init_160 rfl ?_
  refine z_bipush C d_M_init_161 (by decide) ?_
  refine z_bipush C d_M_init_163 (by decide) ?_
  refine z_iast C d_M_init_165 1 rfl (by omega) [(aM, .inr (8, [.null, .int (iI 0), .int (iI 0), .null, .int (iI 0), .null, .int (iI 0), .int (iI 0), .int (iI 0), .int (iI 0), .null, .null, .null, .null, .null, .null, .null, .int (iI 0), .int (iI 0), .int (iI 0), .null, .null, .null, .null, .int (iI 0), .int (iI 0), .int (iI 0), .int (iI 0)])), iA G aWc 48 (wcp 28)] (congrArg (fun (Fq : Nat → Int) => ([(aM, .inr (8, [.null, .int (iI 0), .int (iI 0), .null, .int (iI 0), .null, .int (iI 0), .int (iI 0), .int (iI 0), .int (iI 0), .null, .null, .null, .null, .null, .null, .null, .int (iI 0), .int (iI 0), .int (iI 0), .null, .null, .null, .null, .int (iI 0), .int (iI 0), .int (iI 0), .int (iI 0)])), iA G aWc 48 Fq] : va_W)) (wck (k := 27) (by decide +kernel))) ?_
  refine z_dup C d_M_init_166 rfl ?_
  refine z_bipush C d_M_init_167 (by decide) ?_
  refine z_bipush C d_M_init_169 (by decide) ?_
  refine z_iast C d_M_init_171 1 rfl (by omega) [(aM, .inr (8, [.null, .int (iI 0), .int (iI 0), .null, .int (iI 0), .null, .int (iI 0), .int (iI 0), .int (iI 0), .int (iI 0), .null, .null, .null, .null, .null, .null, .null, .int (iI 0), .int (iI 0), .int (iI 0), .null, .null, .null, .null, .int (iI 0), .int (iI 0), .int (iI 0), .int (iI 0)])), iA G aWc 48 (wcp 29)] (congrArg (fun (Fq : Nat → Int) => ([(aM, .inr (8, [.null, .int (iI 0), .int (iI 0), .null, .int (iI 0), .null, .int (iI 0), .int (iI 0), .int (iI 0), .int (iI 0), .null, .null, .null, .null, .null, .null, .null, .int (iI 0), .int (iI 0), .int (iI 0), .null, .null, .null, .null, .int (iI 0), .int (iI 0), .int (iI 0), .int (iI 0)])), iA G aWc 48 Fq] : va_W)) (wck (k := 28) (by decide +kernel))) ?_
  refine z_dup C d_M_init_172 rfl ?_
  refine z_bipush C d_M_init_173 (by decide) ?_
  refine z_bipush C d_M_init_175 (by decide) ?_
  refine z_iast C d_M_init_177 1 rfl (by omega) [(aM, .inr (8, [.null, .int (iI 0), .int (iI 0), .null, .int (iI 0), .null, .int (iI 0), .int (iI 0), .int (iI 0), .int (iI 0), .null, .null, .null, .null, .null, .null, .null, .int (iI 0), .int (iI 0), .int (iI 0), .null, .null, .null, .null, .int (iI 0), .int (iI 0), .int (iI 0), .int (iI 0)])), iA G aWc 48 (wcp 30)] (congrArg (fun (Fq : Nat → Int) => ([(aM, .inr (8, [.null, .int (iI 0), .int (iI 0), .null, .int (iI 0), .null, .int (iI 0), .int (iI 0), .int (iI 0), .int (iI 0), .null, .null, .null, .null, .null, .null, .null, .int (iI 0), .int (iI 0), .int (iI 0), .null, .null, .null, .null, .int (iI 0), .int (iI 0), .int (iI 0), .int (iI 0)])), iA G aWc 48 Fq] : va_W)) (wck (k := 29) (by decide +kernel))) ?_
  refine z_dup C d_M_init_178 rfl ?_
  refine z_bipush C d_M_init_179 (by decide) ?_
  refine z_bipush C d_M_init_181 (by decide) ?_
  refine z_iast C d_M_init_183 1 rfl (by omega) [(aM, .inr (8, [.null, .int (iI 0), .int (iI 0), .null, .int (iI 0), .null, .int (iI 0), .int (iI 0), .int (iI 0), .int (iI 0), .null, .null, .null, .null, .null, .null, .null, .int (iI 0), .int (iI 0), .int (iI 0), .null, .null, .null, .null, .int (iI 0), .int (iI 0), .int (iI 0), .int (iI 0)])), iA G aWc 48 (wcp 31)] (congrArg (fun (Fq : Nat → Int) => ([(aM, .inr (8, [.null, .int (iI 0), .int (iI 0), .null, .int (iI 0), .null, .int (iI 0), .int (iI 0), .int (iI 0), .int (iI 0), .null, .null, .null, .null, .null, .null, .null, .int (iI 0), .int (iI 0), .int (iI 0), .null, .null, .null, .null, .int (iI 0), .int (iI 0), .int (iI 0), .int (iI 0)])), iA G aWc 48 Fq] : va_W)) (wck (k := 30) (by decide +kernel))) ?_
  refine z_dup C d_M_init_184 rfl ?_
  refine z_bipush C d_M_init_185 (by decide) ?_
  refine z_bipush C d_M_init_187 (by decide) ?_
  refine z_iast C d_M_init_189 1 rfl (by omega) [(aM, .inr (8, [.null, .int (iI 0), .int (iI 0), .null, .int (iI 0), .null, .int (iI 0), .int (iI 0), .int (iI 0), .int (iI 0), .null, .null, .null, .null, .null, .null, .null, .int (iI 0), .int (iI 0), .int (iI 0), .null, .null, .null, .null, .int (iI 0), .int (iI 0), .int (iI 0), .int (iI 0)])), iA G aWc 48 (wcp 32)] (congrArg (fun (Fq : Nat → Int) => ([(aM, .inr (8, [.null, .int (iI 0), .int (iI 0), .null, .int (iI 0), .null, .int (iI 0), .int (iI 0), .int (iI 0), .int (iI 0), .null, .null, .null, .null, .null, .null, .null, .int (iI 0), .int (iI 0), .int (iI 0), .null, .null, .null, .null, .int (iI 0), .int (iI 0), .int (iI 0), .int (iI 0)])), iA G aWc 48 Fq] : va_W)) (wck (k := 31) (by decide +kernel))) ?_
  refine z_dup C d_M_init_190 rfl ?_
  refine z_bipush C d_M_init_191 (by decide) ?_
  refine z_iconst C d_M_init_193 ?_
  refine z_iast C d_M_init_194 1 rfl (by omega) [(aM, .inr (8, [.null, .int (iI 0), .int (iI 0), .null, .int (iI 0), .null, .int (iI 0), .int (iI 0), .int (iI 0), .int (iI 0), .null, .null, .null, .null, .null, .null, .null, .int (iI 0), .int (iI 0), .int (iI 0), .null, .null, .null, .null, .int (iI 0), .int (iI 0), .int (iI 0), .int (iI 0)])), iA G aWc 48 (wcp 33)] (congrArg (fun (Fq : Nat → Int) => ([(aM, .inr (8, [.null, .int (iI 0), .int (iI 0), .null, .int (iI 0), .null, .int (iI 0), .int (iI 0), .int (iI 0), .int (iI 0), .null, .null, .null, .null, .null, .null, .null, .int (iI 0), .int (iI 0), .int (iI 0), .null, .null, .null, .null, .int (iI 0), .int (iI 0), .int (iI 0), .int (iI 0)])), iA G aWc 48 Fq] : va_W)) (wck (k := 32) (by decide +kernel))) ?_
  refine z_dup C d_M_init_195 rfl ?_
  refine z_bipush C d_M_init_196 (by decide) ?_
  refine z_bipush C d_M_init_198 (by decide) ?_
  refine z_iast C d_M_init_200 1 rfl (by omega) [(aM, .inr (8, [.null, .int (iI 0), .int (iI 0), .null, .int (iI 0), .null, .int (iI 0), .int (iI 0), .int (iI 0), .int (iI 0), .null, .null, .null, .null, .null, .null, .null, .int (iI 0), .int (iI 0), .int (iI 0), .null, .null, .null, .null, .int (iI 0), .int (iI 0), .int (iI 0), .int (iI 0)])), iA G aWc 48 (wcp 34)] (congrArg (fun (Fq : Nat → Int) => ([(aM, .inr (8, [.null, .int (iI 0), .int (iI 0), .null, .int (iI 0), .null, .int (iI 0), .int (iI 0), .int (iI 0), .int (iI 0), .null, .null, .null, .null, .null, .null, .null, .int (iI 0), .int (iI 0), .int (iI 0), .null, .null, .null, .null, .int (iI 0), .int (iI 0), .int (iI 0), .int (iI 0)])), iA G aWc 48 Fq] : va_W)) (wck (k := 33) (by decide +kernel))) ?_
  refine z_dup C d_M_init_201 rfl ?_
  refine z_bipush C d_M_init_202 (by decide) ?_
  refine z_bipush C d_M_init_204 (by decide) ?_
  refine z_iast C d_M_init_206 1 rfl (by omega) [(aM, .inr (8, [.null, .int (iI 0), .int (iI 0), .null, .int (iI 0), .null, .int (iI 0), .int (iI 0), .int (iI 0), .int (iI 0), .null, .null, .null, .null, .null, .null, .null, .int (iI 0), .int (iI 0), .int (iI 0), .null, .null, .null, .null, .int (iI 0), .int (iI 0), .int (iI 0), .int (iI 0)])), iA G aWc 48 (wcp 35)] (congrArg (fun (Fq : Nat → Int) => ([(aM, .inr (8, [.null, .int (iI 0), .int (iI 0), .null, .int (iI 0), .null, .int (iI 0), .int (iI 0), .int (iI 0), .int (iI 0), .null, .null, .null, .null, .null, .null, .null, .int (iI 0), .int (iI 0), .int (iI 0), .null, .null, .null, .null, .int (iI 0), .int (iI 0), .int (iI 0), .int (iI 0)])), iA G aWc 48 Fq] : va_W)) (wck (k := 34) (by decide +kernel))) ?_
  refine z_dup C d_M_init_207 rfl ?_
  refine z_bipush C d_M_init_208 (by decide) ?_
  refine z_bipush C d_M_init_210 (by decide) ?_
  refine z_iast C d_M_init_212 1 rfl (by omega) [(aM, .inr (8, [.null, .int (iI 0), .int (iI 0), .null, .int (iI 0), .null, .int (iI 0), .int (iI 0), .int (iI 0), .int (iI 0), .null, .null, .null, .null, .null, .null, .null, .int (iI 0), .int (iI 0), .int (iI 0), .null, .null, .null, .null, .int (iI 0), .int (iI 0), .int (iI 0), .int (iI 0)])), iA G aWc 48 (wcp 36)] (congrArg (fun (Fq : Nat → Int) => ([(aM, .inr (8, [.null, .int (iI 0), .int (iI 0), .null, .int (iI 0), .null, .int (iI 0), .int (iI 0), .int (iI 0), .int (iI 0), .null, .null, .null, .null, .null, .null, .null, .int (iI 0), .int (iI 0), .int (iI 0), .null, .null, .null, .null, .int (iI 0), .int (iI 0), .int (iI 0), .int (iI 0)])), iA G aWc 48 Fq] : va_W)) (wck (k := 35) (by decide +kernel))) ?_
  refine z_dup C d_M_init_213 rfl ?_
  refine z_bipush C d_M_init_214 (by decide) ?_
  refine z_bipush C d_M_init_216 (by decide) ?_
  refine z_iast C d_M_init_218 1 rfl (by omega) [(aM, .inr (8, [.null, .int (iI 0), .int (iI 0), .null, .int (iI 0), .null, .int (iI 0), .int (iI 0), .int (iI 0), .int (iI 0), .null, .null, .null, .null, .null, .null, .null, .int (iI 0), .int (iI 0), .int (iI 0), .null, .null, .null, .null, .int (iI 0), .int (iI 0), .int (iI 0), .int (iI 0)])), iA G aWc 48 (wcp 37)] (congrArg (fun (Fq : Nat → Int) => ([(aM, .inr (8, [.null, .int (iI 0), .int (iI 0), .null, .int (iI 0), .null, .int (iI 0), .int (iI 0), .int (iI 0), .int (iI 0), .null, .null, .null, .null, .null, .null, .null, .int (iI 0), .int (iI 0), .int (iI 0), .null, .null, .null, .null, .int (iI 0), .int (iI 0), .int (iI 0), .int (iI 0)])), iA G aWc 48 Fq] : va_W)) (wck (k := 36) (by decide +kernel))) ?_
  refine z_dup C d_M_init_219 rfl ?_
  refine z_bipush C d_M_init_220 (by decide) ?_
  refine z_iconst C d_M_init_222 ?_
  refine z_iast C d_M_init_223 1 rfl (by omega) [(aM, .inr (8, [.null, .int (iI 0), .int (iI 0), .null, .int (iI 0), .null, .int (iI 0), .int (iI 0), .int (iI 0), .int (iI 0), .null, .null, .null, .null, .null, .null, .null, .int (iI 0), .int (iI 0), .int (iI 0), .null, .null, .null, .null, .int (iI 0), .int (iI 0), .int (iI 0), .int (iI 0)])), iA G aWc 48 (wcp 38)] (congrArg (fun (Fq : Nat → Int) => ([(aM, .inr (8, [.null, .int (iI 0), .int (iI 0), .null, .int (iI 0), .null, .int (iI 0), .int (iI 0), .int (iI 0), .int (iI 0), .null, .null, .null, .null, .null, .null, .null, .int (iI 0), .int (iI 0), .int (iI 0), .null, .null, .null, .null, .int (iI 0), .int (iI 0), .int (iI 0), .int (iI 0)])), iA G aWc 48 Fq] : va_W)) (wck (k := 37) (by decide +kernel))) ?_
  refine z_dup C d_M_init_224 rfl ?_
  refine z_bipush C d_M_init_225 (by decide) ?_
  refine z_bipush C d_M_init_227 (by decide) ?_
  refine z_iast C d_M_init_229 1 rfl (by omega) [(aM, .inr (8, [.null, .int (iI 0), .int (iI 0), .null, .int (iI 0), .null, .int (iI 0), .int (iI 0), .int (iI 0), .int (iI 0), .null, .null, .null, .null, .null, .null, .null, .int (iI 0), .int (iI 0), .int (iI 0), .null, .null, .null, .null, .int (iI 0), .int (iI 0), .int (iI 0), .int (iI 0)])), iA G aWc 48 (wcp 39)] (congrArg (fun (Fq : Nat → Int) => ([(aM, .inr (8, [.null, .int (iI 0), .int (iI 0), .null, .int (iI 0), .null, .int (iI 0), .int (iI 0), .int (iI 0), .int (iI 0), .null, .null, .null, .null, .null, .null, .null, .int (iI 0), .int (iI 0), .int (iI 0), .null, .null, .null, .null, .int (iI 0), .int (iI 0), .int (iI 0), .int (iI 0)])), iA G aWc 48 Fq] : va_W)) (wck (k := 38) (by decide +kernel))) ?_
  refine z_dup C d_M_init_230 rfl ?_
  refine z_bipush C d_M_init_231 (by decide) ?_
  refine z_bipush C d_M_init_233 (by decide) ?_
  refine z_iast C d_M_init_235 1 rfl (by omega) [(aM, .inr (8, [.null, .int (iI 0), .int (iI 0), .null, .int (iI 0), .null, .int (iI 0), .int (iI 0), .int (iI 0), .int (iI 0), .null, .null, .null, .null, .null, .null, .null, .int (iI 0), .int (iI 0), .int (iI 0), .null, .null, .null, .null, .int (iI 0), .int (iI 0), .int (iI 0), .int (iI 0)])), iA G aWc 48 (wcp 40)] (congrArg (fun (Fq : Nat → Int) => ([(aM, .inr (8, [.null, .int (iI 0), .int (iI 0), .null, .int (iI 0), .null, .int (iI 0), .int (iI 0), .int (iI 0), .int (iI 0), .null, .null, .null, .null, .null, .null, .null, .int (iI 0), .int (iI 0), .int (iI 0), .null, .null, .null, .null, .int (iI 0), .int (iI 0), .int (iI 0), .int (iI 0)])), iA G aWc 48 Fq] : va_W)) (wck (k := 39) (by decide +kernel))) ?_
  refine z_dup C d_M_init_236 rfl ?_
  refine z_bipush C d_M_init_237 (by decide) ?_
  refine z_bipush C d_M_init_239 (by decide) ?_
  refine z_iast C d_M_init_241 1 rfl (by omega) [(aM, .inr (8, [.null, .int (iI 0), .int (iI 0), .null, .int (iI 0), .null, .int (iI 0), .int (iI 0), .int (iI 0), .int (iI 0), .null, .null, .null, .null, .null, .null, .null, .int (iI 0), .int (iI 0), .int (iI 0), .null, .null, .null, .null, .int (iI 0), .int (iI 0), .int (iI 0), .int (iI 0)])), iA G aWc 48 (wcp 41)] (congrArg (fun (Fq : Nat → Int) => ([(aM, .inr (8, [.null, .int (iI 0), .int (iI 0), .null, .int (iI 0), .null, .int (iI 0), .int (iI 0), .int (iI 0), .int (iI 0), .null, .null, .null, .null, .null, .null, .null, .int (iI 0), .int (iI 0), .int (iI 0), .null, .null, .null, .null, .int (iI 0), .int (iI 0), .int (iI 0), .int (iI 0)])), iA G aWc 48 Fq] : va_W)) (wck (k := 40) (by decide +kernel))) ?_
  refine z_dup C d_M_init_242 rfl ?_
  refine z_bipush C d_M_init_243 (by decide) ?_
  refine z_bipush C d_M_init_245 (by decide) ?_
  refine z_iast C d_M_init_247 1 rfl (by omega) [(aM, .inr (8, [.null, .int (iI 0), .int (iI 0), .null, .int (iI 0), .null, .int (iI 0), .int (iI 0), .int (iI 0), .int (iI 0), .null, .null, .null, .null, .null, .null, .null, .int (iI 0), .int (iI 0), .int (iI 0), .null, .null, .null, .null, .int (iI 0), .int (iI 0), .int (iI 0), .int (iI 0)])), iA G aWc 48 (wcp 42)] (congrArg (fun (Fq : Nat → Int) => ([(aM, .inr (8, [.null, .int (iI 0), .int (iI 0), .null, .int (iI 0), .null, .int (iI 0), .int (iI 0), .int (iI 0), .int (iI 0), .null, .null, .null, .null, .null, .null, .null, .int (iI 0), .int (iI 0), .int (iI 0), .null, .null, .null, .null, .int (iI 0), .int (iI 0), .int (iI 0), .int (iI 0)])), iA G aWc 48 Fq] : va_W)) (wck (k := 41) (by decide +kernel))) ?_
  refine z_dup C d_M_init_248 rfl ?_
  refine z_bipush C d_M_init_249 (by decide) ?_
  refine z_iconst C d_M_init_251 ?_
  refine z_iast C d_M_init_252 1 rfl (by omega) [(aM, .inr (8, [.null, .int (iI 0), .int (iI 0), .null, .int (iI 0), .null, .int (iI 0), .int (iI 0), .int (iI 0), .int (iI 0), .null, .null, .null, .null, .null, .null, .null, .int (iI 0), .int (iI 0), .int (iI 0), .null, .null, .null, .null, .int (iI 0), .int (iI 0), .int (iI 0), .int (iI 0)])), iA G aWc 48 (wcp 43)] (congrArg (fun (Fq : Nat → Int) => ([(aM, .inr (8, [.null, .int (iI 0), .int (iI 0), .null, .int (iI 0), .null, .int (iI 0), .int (iI 0), .int (iI 0), .int (iI 0), .null, .null, .null, .null, .null, .null, .null, .int (iI 0), .int (iI 0), .int (iI 0), .null, .null, .null, .null, .int (iI 0), .int (iI 0), .int (iI 0), .int (iI 0)])), iA G aWc 48 Fq] : va_W)) (wck (k := 42) (by decide +kernel))) ?_
  refine z_dup C d_M_init_253 rfl ?_
  refine z_bipush C d_M_init_254 (by decide) ?_
  refine z_bipush C d_M_init_256 (by decide) ?_
  refine z_iast C d_M_init_258 1 rfl (by omega) [(aM, .inr (8, [.null, .int (iI 0), .int (iI 0), .null, .int (iI 0), .null, .int (iI 0), .int (iI 0), .int (iI 0), .int (iI 0), .null, .null, .null, .null, .null, .null, .null, .int (iI 0), .int (iI 0), .int (iI 0), .null, .null, .null, .null, .int (iI 0), .int (iI 0), .int (iI 0), .int (iI 0)])), iA G aWc 48 (wcp 44)] (congrArg (fun (Fq : Nat → Int) => ([(aM, .inr (8, [.null, .int (iI 0), .int (iI 0), .null, .int (iI 0), .null, .int (iI 0), .int (iI 0), .int (iI 0), .int (iI 0), .null, .null, .null, .null, .null, .null, .null, .int (iI 0), .int (iI 0), .int (iI 0), .null, .null, .null, .null, .int (iI 0), .int (iI 0), .int (iI 0), .int (iI 0)])), iA G aWc 48 Fq] : va_W)) (wck (k := 43) (by decide +kernel))) ?_
  refine z_dup C d_M_init_259 rfl ?_
  refine z_bipush C d_M_init_260 (by decide) ?_
  refine z_bipush C d_M_init_262 (by decide) ?_
  refine z_iast C d_M_init_264 1 rfl (by omega) [(aM, .inr (8, [.null, .int (iI 0), .int (iI 0), .null, .int (iI 0), .null, .int (iI 0), .int (iI 0), .int (iI 0), .int (iI 0), .null, .null, .null, .null, .null, .null, .null, .int (iI 0), .int (iI 0), .int (iI 0), .null, .null, .null, .null, .int (iI 0), .int (iI 0), .int (iI 0), .int (iI 0)])), iA G aWc 48 (wcp 45)] (congrArg (fun (Fq : Nat → Int) => ([(aM, .inr (8, [.null, .int (iI 0), .int (iI 0), .null, .int (iI 0), .null, .int (iI 0), .int (iI 0), .int (iI 0), .int (iI 0), .null, .null, .null, .null, .null, .null, .null, .int (iI 0), .int (iI 0), .int (iI 0), .null, .null, .null, .null, .int (iI 0), .int (iI 0), .int (iI 0), .int (iI 0)])), iA G aWc 48 Fq] : va_W)) (wck (k := 44) (by decide +kernel))) ?_
  refine z_dup C d_M_init_265 rfl ?_
  refine z_bipush C d_M_init_266 (by decide) ?_
  refine z_bipush C d_M_init_268 (by decide) ?_
  refine z_iast C d_M_init_270 1 rfl (by omega) [(aM, .inr (8, [.null, .int (iI 0), .int (iI 0), .null, .int (iI 0), .null, .int (iI 0), .int (iI 0), .int (iI 0), .int (iI 0), .null, .null, .null, .null, .null, .null, .null, .int (iI 0), .int (iI 0), .int (iI 0), .null, .null, .null, .null, .int (iI 0), .int (iI 0), .int (iI 0), .int (iI 0)])), iA G aWc 48 (wcp 46)] (congrArg (fun (Fq : Nat → Int) => ([(aM, .inr (8, [.null, .int (iI 0), .int (iI 0), .null, .int (iI 0), .null, .int (iI 0), .int (iI 0), .int (iI 0), .int (iI 0), .null, .null, .null, .null, .null, .null, .null, .int (iI 0), .int (iI 0), .int (iI 0), .null, .null, .null, .null, .int (iI 0), .int (iI 0), .int (iI 0), .int (iI 0)])), iA G aWc 48 Fq] : va_W)) (wck (k := 45) (by decide +kernel))) ?_
  refine z_dup C d_M_init_271 rfl ?_
  refine z_bipush C d_M_init_272 (by decide) ?_
  refine z_bipush C d_M_init_274 (by decide) ?_
  refine z_iast C d_M_init_276 1 rfl (by omega) [(aM, .inr (8, [.null, .int (iI 0), .int (iI 0), .null, .int (iI 0), .null, .int (iI 0), .int (iI 0), .int (iI 0), .int (iI 0), .null, .null, .null, .null, .null, .null, .null, .int (iI 0), .int (iI 0), .int (iI 0), .null, .null, .null, .null, .int (iI 0), .int (iI 0), .int (iI 0), .int (iI 0)])), iA G aWc 48 (wcp 47)] (congrArg (fun (Fq : Nat → Int) => ([(aM, .inr (8, [.null, .int (iI 0), .int (iI 0), .null, .int (iI 0), .null, .int (iI 0), .int (iI 0), .int (iI 0), .int (iI 0), .null, .null, .null, .null, .null, .null, .null, .int (iI 0), .int (iI 0), .int (iI 0), .null, .null, .null, .null, .int (iI 0), .int (iI 0), .int (iI 0), .int (iI 0)])), iA G aWc 48 Fq] : va_W)) (wck (k := 46) (by decide +kernel))) ?_
  refine z_dup C d_M_init_277 rfl ?_
  refine z_bipush C d_M_init_278 (by decide) ?_
  refine z_iconst C d_M_init_280 ?_
  refine z_iast C d_M_init_281 1 rfl (by omega) [(aM, .inr (8, [.null, .int (iI 0), .int (iI 0), .null, .int (iI 0), .null, .int (iI 0), .int (iI 0), .int (iI 0), .int (iI 0), .null, .null, .null, .null, .null, .null, .null, .int (iI 0), .int (iI 0), .int (iI 0), .null, .null, .null, .null, .int (iI 0), .int (iI 0), .int (iI 0), .int (iI 0)])), iA G aWc 48 (wcp 48)] (congrArg (fun (Fq : Nat → Int) => ([(aM, .inr (8, [.null, .int (iI 0), .int (iI 0), .null, .int (iI 0), .null, .int (iI 0), .int (iI 0), .int (iI 0), .int (iI 0), .null, .null, .null, .null, .null, .null, .null, .int (iI 0), .int (iI 0), .int (iI 0), .null, .null, .null, .null, .int (iI 0), .int (iI 0), .int (iI 0), .int (iI 0)])), iA G aWc 48 Fq] : va_W)) (wck (k := 47) (by decide +kernel))) ?_
  rw [wcp_48]
  refine z_putF C I f_M_7 ok_M nm_M d_M_init_282 0 rfl rfl rfl rfl rfl (Nat.le_of_ble_eq_true rfl) [(aM, .inr (8, [.ref aWc, .int (iI 0), .int (iI 0), .null, .int (iI 0), .null, .int (iI 0), .int (iI 0), .int (iI 0), .int (iI 0), .null, .null, .null, .null, .null, .null, .null, .int (iI 0), .int (iI 0), .int (iI 0), .null, .null, .null, .null, .int (iI 0), .int (iI 0), .int (iI 0), .int (iI 0)])), iA G aWc 48 wch] rfl ?_
  refine z_aload_n C d_M_init_285 0 rfl ?_
  refine z_sipush C d_M_init_286 (by decide) ?_
  refine z_newi C d_M_init_289 (by omega) (by decide) (fun aTx => ?_)
  show Zc G X 1 2 4248 [(aM, .inr (8, [.ref aWc, .int (iI 0), .int (iI 0), .null, .int (iI 0), .null, .int (iI 0), .int (iI 0), .int (iI 0), .int (iI 0), .null, .null, .null, .null, .null, .null, .null, .int (iI 0), .int (iI 0), .int (iI 0), .null, .null, .null, .null, .int (iI 0), .int (iI 0), .int (iI 0), .int (iI 0)])), iA G aWc 48 wch, iA G aTx 4200 (fun _ => 0)] [(0, .ref aM)] 291 [.ref aTx, .ref aM]
  refine z_putF C I f_M_13 ok_M nm_M d_M_init_291 0 rfl rfl rfl rfl rfl (Nat.le_of_ble_eq_true rfl) [(aM, .inr (8, [.ref aWc, .int (iI 0), .int (iI 0), .ref aTx, .int (iI 0), .null, .int (iI 0), .int (iI 0), .int (iI 0), .int (iI 0), .null, .null, .null, .null, .null, .null, .null, .int (iI 0), .int (iI 0), .int (iI 0), .null, .null, .null, .null, .int (iI 0), .int (iI 0), .int (iI 0), .int (iI 0)])), iA G aWc 48 wch, iA G aTx 4200 (fun _ => 0)] rfl ?_
  refine z_aload_n C d_M_init_294 0 rfl ?_
  refine z_sipush C d_M_init_295 (by decide) ?_
  refine z_newi C d_M_init_298 (by omega) (by decide) (fun aOu => ?_)
  show Zc G X 1 3 12440 [(aM, .inr (8, [.ref aWc, .int (iI 0), .int (iI 0), .ref aTx, .int (iI 0), .null, .int (iI 0), .int (iI 0), .int (iI 0), .int (iI 0), .null, .null, .null, .null, .null, .null, .null, .int (iI 0), .int (iI 0), .int (iI 0), .null, .null, .null, .null, .int (iI 0), .int (iI 0), .int (iI 0), .int (iI 0)])), iA G aWc 48 wch, iA G aTx 4200 (fun _ => 0), iA G aOu 8192 (fun _ => 0)] [(0, .ref aM)] 300 [.ref aOu, .ref aM]
  refine z_putF C I f_M_16 ok_M nm_M d_M_init_300 0 rfl rfl rfl rfl rfl (Nat.le_of_ble_eq_true rfl) [(aM, .inr (8, [.ref aWc, .int (iI 0), .int (iI 0), .ref aTx, .int (iI 0), .ref aOu, .int (iI 0), .int (iI 0), .int (iI 0), .int (iI 0), .null, .null, .null, .null, .null, .null, .null, .int (iI 0), .int (iI 0), .int (iI 0), .null, .null, .null, .null, .int (iI 0), .int (iI 0), .int (iI 0), .int (iI 0)])), iA G aWc 48 wch, iA G aTx 4200 (fun _ => 0), iA G aOu 8192 (fun _ => 0)] rfl ?_
  refine z_aload_n C d_M_init_303 0 rfl ?_
  refine z_sipush C d_M_init_304 (by decide) ?_
  refine z_newi C d_M_init_307 (by omega) (by decide) (fun aSo => ?_)
  show Zc G X 1 4 16640 [(aM, .inr (8, [.ref aWc, .int (iI 0), .int (iI 0), .ref aTx, .int (iI 0), .ref aOu, .int (iI 0), .int (iI 0), .int (iI 0), .int (iI 0), .null, .null, .null, .null, .null, .null, .null, .int (iI 0), .int (iI 0), .int (iI 0), .null, .null, .null, .null, .int (iI 0), .int (iI 0), .int (iI 0), .int (iI 0)])), iA G aWc 48 wch, iA G aTx 4200 (fun _ => 0), iA G aOu 8192 (fun _ => 0), iA G aSo 4200 (fun _ => 0)] [(0, .ref aM)] 309 [.ref aSo, .ref aM]
  refine z_putF C I f_M_19 ok_M nm_M d_M_init_309 0 rfl rfl rfl rfl rfl (Nat.le_of_ble_eq_true rfl) [(aM, .inr (8, [.ref aWc, .int (iI 0), .int (iI 0), .ref aTx, .int (iI 0), .ref aOu, .int (iI 0), .int (iI 0), .int (iI 0), .int (iI 0), .ref aSo, .null, .null, .null, .null, .null, .null, .int (iI 0), .int (iI 0), .int (iI 0), .null, .null, .null, .null, .int (iI 0), .int (iI 0), .int (iI 0), .int (iI 0)])), iA G aWc 48 wch, iA G aTx 4200 (fun _ => 0), iA G aOu 8192 (fun _ => 0), iA G aSo 4200 (fun _ => 0)] rfl ?_
  refine z_aload_n C d_M_init_312 0 rfl ?_
  refine z_bipush C d_M_init_313 (by decide) ?_
  refine z_newi C d_M_init_315 (by omega) (by decide) (fun aNf => ?_)
  show Zc G X 1 5 16680 [(aM, .inr (8, [.ref aWc, .int (iI 0), .int (iI 0), .ref aTx, .int (iI 0), .ref aOu, .int (iI 0), .int (iI 0), .int (iI 0), .int (iI 0), .ref aSo, .null, .null, .null, .null, .null, .null, .int (iI 0), .int (iI 0), .int (iI 0), .null, .null, .null, .null, .int (iI 0), .int (iI 0), .int (iI 0), .int (iI 0)])), iA G aWc 48 wch, iA G aTx 4200 (fun _ => 0), iA G aOu 8192 (fun _ => 0), iA G aSo 4200 (fun _ => 0), iA G aNf 40 (fun _ => 0)] [(0, .ref aM)] 317 [.ref aNf, .ref aM]
  refine z_putF C I f_M_22 ok_M nm_M d_M_init_317 0 rfl rfl rfl rfl rfl (Nat.le_of_ble_eq_true rfl) [(aM, .inr (8, [.ref aWc, .int (iI 0), .int (iI 0), .ref aTx, .int (iI 0), .ref aOu, .int (iI 0), .int (iI 0), .int (iI 0), .int (iI 0), .ref aSo, .ref aNf, .null, .null, .null, .null, .null, .int (iI 0), .int (iI 0), .int (iI 0), .null, .null, .null, .null, .int (iI 0), .int (iI 0), .int (iI 0), .int (iI 0)])), iA G aWc 48 wch, iA G aTx 4200 (fun _ => 0), iA G aOu 8192 (fun _ => 0), iA G aSo 4200 (fun _ => 0), iA G aNf 40 (fun _ => 0)] rfl ?_
  refine z_aload_n C d_M_init_320 0 rfl ?_
  refine z_bipush C d_M_init_321 (by decide) ?_
  refine z_newi C d_M_init_323 (by omega) (by decide) (fun aNg => ?_)
  show Zc G X 1 6 16720 [(aM, .inr (8, [.ref aWc, .int (iI 0), .int (iI 0), .ref aTx, .int (iI 0), .ref aOu, .int (iI 0), .int (iI 0), .int (iI 0), .int (iI 0), .ref aSo, .ref aNf, .null, .null, .null, .null, .null, .int (iI 0), .int (iI 0), .int (iI 0), .null, .null, .null, .null, .int (iI 0), .int (iI 0), .int (iI 0), .int (iI 0)])), iA G aWc 48 wch, iA G aTx 4200 (fun _ => 0), iA G aOu 8192 (fun _ => 0), iA G aSo 4200 (fun _ => 0), iA G aNf 40 (fun _ => 0), iA G aNg 40 (fun _ => 0)] [(0, .ref aM)] 325 [.ref aNg, .ref aM]
  refine z_putF C I f_M_25 ok_M nm_M d_M_init_325 0 rfl rfl rfl rfl rfl (Nat.le_of_ble_eq_true rfl) [(aM, .inr (8, [.ref aWc, .int (iI 0), .int (iI 0), .ref aTx, .int (iI 0), .ref aOu, .int (iI 0), .int (iI 0), .int (iI 0), .int (iI 0), .ref aSo, .ref aNf, .ref aNg, .null, .null, .null, .null, .int (iI 0), .int (iI 0), .int (iI 0), .null, .null, .null, .null, .int (iI 0), .int (iI 0), .int (iI 0), .int (iI 0)])), iA G aWc 48 wch, iA G aTx 4200 (fun _ => 0), iA G aOu 8192 (fun _ => 0), iA G aSo 4200 (fun _ => 0), iA G aNf 40 (fun _ => 0), iA G aNg 40 (fun _ => 0)] rfl ?_
  refine z_aload_n C d_M_init_328 0 rfl ?_
  refine z_bipush C d_M_init_329 (by decide) ?_
  refine z_newi C d_M_init_331 (by omega) (by decide) (fun aSr => ?_)
  show Zc G X 1 7 16760 [(aM, .inr (8, [.ref aWc, .int (iI 0), .int (iI 0), .ref aTx, .int (iI 0), .ref aOu, .int (iI 0), .int (iI 0), .int (iI 0), .int (iI 0), .ref aSo, .ref aNf, .ref aNg, .null, .null, .null, .null, .int (iI 0), .int (iI 0), .int (iI 0), .null, .null, .null, .null, .int (iI 0), .int (iI 0), .int (iI 0), .int (iI 0)])), iA G aWc 48 wch, iA G aTx 4200 (fun _ => 0), iA G aOu 8192 (fun _ => 0), iA G aSo 4200 (fun _ => 0), iA G aNf 40 (fun _ => 0), iA G aNg 40 (fun _ => 0), iA G aSr 40 (fun _ => 0)] [(0, .ref aM)] 333 [.ref aSr, .ref aM]
  refine z_putF C I f_M_28 ok_M nm_M d_M_init_333 0 rfl rfl rfl rfl rfl (Nat.le_of_ble_eq_true rfl) [(aM, .inr (8, [.ref aWc, .int (iI 0), .int (iI 0), .ref aTx, .int (iI 0), .ref aOu, .int (iI 0), .int (iI 0), .int (iI 0), .int (iI 0), .ref aSo, .ref aNf, .ref aNg, .ref aSr, .null, .null, .null, .int (iI 0), .int (iI 0), .int (iI 0), .null, .null, .null, .null, .int (iI 0), .int (iI 0), .int (iI 0), .int (iI 0)])), iA G aWc 48 wch, iA G aTx 4200 (fun _ => 0), iA G aOu 8192 (fun _ => 0), iA G aSo 4200 (fun _ => 0), iA G aNf 40 (fun _ => 0), iA G aNg 40 (fun _ => 0), iA G aSr 40 (fun _ => 0)] rfl ?_
  refine z_aload_n C d_M_init_336 0 rfl ?_
  refine z_bipush C d_M_init_337 (by decide) ?_
  refine z_newi C d_M_init_339 (by omega) (by decide) (fun aNu => ?_)
  show Zc G X 1 8 16800 [(aM, .inr (8, [.ref aWc, .int (iI 0), .int (iI 0), .ref aTx, .int (iI 0), .ref aOu, .int (iI 0), .int (iI 0), .int (iI 0), .int (iI 0), .ref aSo, .ref aNf, .ref aNg, .ref aSr, .null, .null, .null, .int (iI 0), .int (iI 0), .int (iI 0), .null, .null, .null, .null, .int (iI 0), .int (iI 0), .int (iI 0), .int (iI 0)])), iA G aWc 48 wch, iA G aTx 4200 (fun _ => 0), iA G aOu 8192 (fun _ => 0), iA G aSo 4200 (fun _ => 0), iA G aNf 40 (fun _ => 0), iA G aNg 40 (fun _ => 0), iA G aSr 40 (fun _ => 0), iA G aNu 40 (fun _ => 0)] [(0, .ref aM)] 341 [.ref aNu, .ref aM]
  refine z_putF C I f_M_31 ok_M nm_M d_M_init_341 0 rfl rfl rfl rfl rfl (Nat.le_of_ble_eq_true rfl) [(aM, .inr (8, [.ref aWc, .int (iI 0), .int (iI 0), .ref aTx, .int (iI 0), .ref aOu, .int (iI 0), .int (iI 0), .int (iI 0), .int (iI 0), .ref aSo, .ref aNf, .ref aNg, .ref aSr, .ref aNu, .null, .null, .int (iI 0), .int (iI 0), .int (iI 0), .null, .null, .null, .null, .int (iI 0), .int (iI 0), .int (iI 0), .int (iI 0)])), iA G aWc 48 wch, iA G aTx 4200 (fun _ => 0), iA G aOu 8192 (fun _ => 0), iA G aSo 4200 (fun _ => 0), iA G aNf 40 (fun _ => 0), iA G aNg 40 (fun _ => 0), iA G aSr 40 (fun _ => 0), iA G aNu 40 (fun _ => 0)] rfl ?_
  refine z_aload_n C d_M_init_344 0 rfl ?_
  refine z_iconst C d_M_init_345 ?_
  refine z_newi C d_M_init_346 (by omega) (by decide) (fun aMa => ?_)
  show Zc G X 1 9 16803 [(aM, .inr (8, [.ref aWc, .int (iI 0), .int (iI 0), .ref aTx, .int (iI 0), .ref aOu, .int (iI 0), .int (iI 0), .int (iI 0), .int (iI 0), .ref aSo, .ref aNf, .ref aNg, .ref aSr, .ref aNu, .null, .null, .int (iI 0), .int (iI 0), .int (iI 0), .null, .null, .null, .null, .int (iI 0), .int (iI 0), .int (iI 0), .int (iI 0)])), iA G aWc 48 wch, iA G aTx 4200 (fun _ => 0), iA G aOu 8192 (fun _ => 0), iA G aSo 4200 (fun _ => 0), iA G aNf 40 (fun _ => 0), iA G aNg 40 (fun _ => 0), iA G aSr 40 (fun _ => 0), iA G aNu 40 (fun _ => 0), iA G aMa 3 (fun _ => 0)] [(0, .ref aM)] 348 [.ref aMa, .ref aM]
  refine z_putF C I f_M_34 ok_M nm_M d_M_init_348 0 rfl rfl rfl rfl rfl (Nat.le_of_ble_eq_true rfl) [(aM, .inr (8, [.ref aWc, .int (iI 0), .int (iI 0), .ref aTx, .int (iI 0), .ref aOu, .int (iI 0), .int (iI 0), .int (iI 0), .int (iI 0), .ref aSo, .ref aNf, .ref aNg, .ref aSr, .ref aNu, .ref aMa, .null, .int (iI 0), .int (iI 0), .int (iI 0), .null, .null, .null, .null, .int (iI 0), .int (iI 0), .int (iI 0), .int (iI 0)])), iA G aWc 48 wch, iA G aTx 4200 (fun _ => 0), iA G aOu 8192 (fun _ => 0), iA G aSo 4200 (fun _ => 0), iA G aNf 40 (fun _ => 0), iA G aNg 40 (fun _ => 0), iA G aSr 40 (fun _ => 0), iA G aNu 40 (fun _ => 0), iA G aMa 3 (fun _ => 0)] rfl ?_
  refine z_aload_n C d_M_init_351 0 rfl ?_
  refine z_bipush C d_M_init_352 (by decide) ?_
  refine z_newi C d_M_init_354 (by omega) (by decide) (fun aNo => ?_)
  show Zc G X 1 10 16851 [(aM, .inr (8, [.ref aWc, .int (iI 0), .int (iI 0), .ref aTx, .int (iI 0), .ref aOu, .int (iI 0), .int (iI 0), .int (iI 0), .int (iI 0), .ref aSo, .ref aNf, .ref aNg, .ref aSr, .ref aNu, .ref aMa, .null, .int (iI 0), .int (iI 0), .int (iI 0), .null, .null, .null, .null, .int (iI 0), .int (iI 0), .int (iI 0), .int (iI 0)])), iA G aWc 48 wch, iA G aTx 4200 (fun _ => 0), iA G aOu 8192 (fun _ => 0), iA G aSo 4200 (fun _ => 0), iA G aNf 40 (fun _ => 0), iA G aNg 40 (fun _ => 0), iA G aSr 40 (fun _ => 0), iA G aNu 40 (fun _ => 0), iA G aMa 3 (fun _ => 0), iA G aNo 48 (fun _ => 0)] [(0, .ref aM)] 356 [.ref aNo, .ref aM]
  refine z_putF C I f_M_37 ok_M nm_M d_M_init_356 0 rfl rfl rfl rfl rfl (Nat.le_of_ble_eq_true rfl) [(aM, .inr (8, [.ref aWc, .int (iI 0), .int (iI 0), .ref aTx, .int (iI 0), .ref aOu, .int (iI 0), .int (iI 0), .int (iI 0), .int (iI 0), .ref aSo, .ref aNf, .ref aNg, .ref aSr, .ref aNu, .ref aMa, .ref aNo, .int (iI 0), .int (iI 0), .int (iI 0), .null, .null, .null, .null, .int (iI 0), .int (iI 0), .int (iI 0), .int (iI 0)])), iA G aWc 48 wch, iA G aTx 4200 (fun _ => 0), iA G aOu 8192 (fun _ => 0), iA G aSo 4200 (fun _ => 0), iA G aNf 40 (fun _ => 0), iA G aNg 40 (fun _ => 0), iA G aSr 40 (fun _ => 0), iA G aNu 40 (fun _ => 0), iA G aMa 3 (fun _ => 0), iA G aNo 48 (fun _ => 0)] rfl ?_
  refine z_aload_n C d_M_init_359 0 rfl ?_
  refine z_sipush C d_M_init_360 (by decide) ?_
  refine z_newi C d_M_init_363 (by omega) (by decide) (fun aLe => ?_)
  show Zc G X 1 11 17235 [(aM, .inr (8, [.ref aWc, .int (iI 0), .int (iI 0), .ref aTx, .int (iI 0), .ref aOu, .int (iI 0), .int (iI 0), .int (iI 0), .int (iI 0), .ref aSo, .ref aNf, .ref aNg, .ref aSr, .ref aNu, .ref aMa, .ref aNo, .int (iI 0), .int (iI 0), .int (iI 0), .null, .null, .null, .null, .int (iI 0), .int (iI 0), .int (iI 0), .int (iI 0)])), iA G aWc 48 wch, iA G aTx 4200 (fun _ => 0), iA G aOu 8192 (fun _ => 0), iA G aSo 4200 (fun _ => 0), iA G aNf 40 (fun _ => 0), iA G aNg 40 (fun _ => 0), iA G aSr 40 (fun _ => 0), iA G aNu 40 (fun _ => 0), iA G aMa 3 (fun _ => 0), iA G aNo 48 (fun _ => 0), iA G aLe 384 (fun _ => 0)] [(0, .ref aM)] 365 [.ref aLe, .ref aM]
  refine z_putF C I f_M_40 ok_M nm_M d_M_init_365 0 rfl rfl rfl rfl rfl (Nat.le_of_ble_eq_true rfl) [(aM, .inr (8, [.ref aWc, .int (iI 0), .int (iI 0), .ref aTx, .int (iI 0), .ref aOu, .int (iI 0), .int (iI 0), .int (iI 0), .int (iI 0), .ref aSo, .ref aNf, .ref aNg, .ref aSr, .ref aNu, .ref aMa, .ref aNo, .int (iI 0), .int (iI 0), .int (iI 0), .ref aLe, .null, .null, .null, .int (iI 0), .int (iI 0), .int (iI 0), .int (iI 0)])), iA G aWc 48 wch, iA G aTx 4200 (fun _ => 0), iA G aOu 8192 (fun _ => 0), iA G aSo 4200 (fun _ => 0), iA G aNf 40 (fun _ => 0), iA G aNg 40 (fun _ => 0), iA G aSr 40 (fun _ => 0), iA G aNu 40 (fun _ => 0), iA G aMa 3 (fun _ => 0), iA G aNo 48 (fun _ => 0), iA G aLe 384 (fun _ => 0)] rfl ?_
  refine z_aload_n C d_M_init_368 0 rfl ?_
  refine z_sipush C d_M_init_369 (by decide) ?_
  refine z_newi C d_M_init_372 (by omega) (by decide) (fun aAc => ?_)
  show Zc G X 1 12 18771 [(aM, .inr (8, [.ref aWc, .int (iI 0), .int (iI 0), .ref aTx, .int (iI 0), .ref aOu, .int (iI 0), .int (iI 0), .int (iI 0), .int (iI 0), .ref aSo, .ref aNf, .ref aNg, .ref aSr, .ref aNu, .ref aMa, .ref aNo, .int (iI 0), .int (iI 0), .int (iI 0), .ref aLe, .null, .null, .null, .int (iI 0), .int (iI 0), .int (iI 0), .int (iI 0)])), iA G aWc 48 wch, iA G aTx 4200 (fun _ => 0), iA G aOu 8192 (fun _ => 0), iA G aSo 4200 (fun _ => 0), iA G aNf 40 (fun _ => 0), iA G aNg 40 (fun _ => 0), iA G aSr 40 (fun _ => 0), iA G aNu 40 (fun _ => 0), iA G aMa 3 (fun _ => 0), iA G aNo 48 (fun _ => 0), iA G aLe 384 (fun _ => 0), iA G aAc 1536 (fun _ => 0)] [(0, .ref aM)] 374 [.ref aAc, .ref aM]
  refine z_putF C I f_M_43 ok_M nm_M d_M_init_374 0 rfl rfl rfl rfl rfl (Nat.le_of_ble_eq_true rfl) [(aM, .inr (8, [.ref aWc, .int (iI 0), .int (iI 0), .ref aTx, .int (iI 0), .ref aOu, .int (iI 0), .int (iI 0), .int (iI 0), .int (iI 0), .ref aSo, .ref aNf, .ref aNg, .ref aSr, .ref aNu, .ref aMa, .ref aNo, .int (iI 0), .int (iI 0), .int (iI 0), .ref aLe, .ref aAc, .null, .null, .int (iI 0), .int (iI 0), .int (iI 0), .int (iI 0)])), iA G aWc 48 wch, iA G aTx 4200 (fun _ => 0), iA G aOu 8192 (fun _ => 0), iA G aSo 4200 (fun _ => 0), iA G aNf 40 (fun _ => 0), iA G aNg 40 (fun _ => 0), iA G aSr 40 (fun _ => 0), iA G aNu 40 (fun _ => 0), iA G aMa 3 (fun _ => 0), iA G aNo 48 (fun _ => 0), iA G aLe 384 (fun _ => 0), iA G aAc 1536 (fun _ => 0)] rfl ?_
  refine z_aload_n C d_M_init_377 0 rfl ?_
  refine z_bipush C d_M_init_378 (by decide) ?_
  refine z_newi C d_M_init_380 (by omega) (by decide) (fun aDi => ?_)
  show Zc G X 1 13 18787 [(aM, .inr (8, [.ref aWc, .int (iI 0), .int (iI 0), .ref aTx, .int (iI 0), .ref aOu, .int (iI 0), .int (iI 0), .int (iI 0), .int (iI 0), .ref aSo, .ref aNf, .ref aNg, .ref aSr, .ref aNu, .ref aMa, .ref aNo, .int (iI 0), .int (iI 0), .int (iI 0), .ref aLe, .ref aAc, .null, .null, .int (iI 0), .int (iI 0), .int (iI 0), .int (iI 0)])), iA G aWc 48 wch, iA G aTx 4200 (fun _ => 0), iA G aOu 8192 (fun _ => 0), iA G aSo 4200 (fun _ => 0), iA G aNf 40 (fun _ => 0), iA G aNg 40 (fun _ => 0), iA G aSr 40 (fun _ => 0), iA G aNu 40 (fun _ => 0), iA G aMa 3 (fun _ => 0), iA G aNo 48 (fun _ => 0), iA G aLe 384 (fun _ => 0), iA G aAc 1536 (fun _ => 0), iA G aDi 16 (fun _ => 0)] [(0, .ref aM)] 382 [.ref aDi, .ref aM]
  refine z_putF C I f_M_46 ok_M nm_M d_M_init_382 0 rfl rfl rfl rfl rfl (Nat.le_of_ble_eq_true rfl) [(aM, .inr (8, [.ref aWc, .int (iI 0), .int (iI 0), .ref aTx, .int (iI 0), .ref aOu, .int (iI 0), .int (iI 0), .int (iI 0), .int (iI 0), .ref aSo, .ref aNf, .ref aNg, .ref aSr, .ref aNu, .ref aMa, .ref aNo, .int (iI 0), .int (iI 0), .int (iI 0), .ref aLe, .ref aAc, .ref aDi, .null, .int (iI 0), .int (iI 0), .int (iI 0), .int (iI 0)])), iA G aWc 48 wch, iA G aTx 4200 (fun _ => 0), iA G aOu 8192 (fun _ => 0), iA G aSo 4200 (fun _ => 0), iA G aNf 40 (fun _ => 0), iA G aNg 40 (fun _ => 0), iA G aSr 40 (fun _ => 0), iA G aNu 40 (fun _ => 0), iA G aMa 3 (fun _ => 0), iA G aNo 48 (fun _ => 0), iA G aLe 384 (fun _ => 0), iA G aAc 1536 (fun _ => 0), iA G aDi 16 (fun _ => 0)] rfl ?_
  refine z_aload_n C d_M_init_385 0 rfl ?_
  refine z_bipush C d_M_init_386 (by decide) ?_
  refine z_newi C d_M_init_388 (by omega) (by decide) (fun aOr => ?_)
  show Zc G X 1 14 18803 [(aM, .inr (8, [.ref aWc, .int (iI 0), .int (iI 0), .ref aTx, .int (iI 0), .ref aOu, .int (iI 0), .int (iI 0), .int (iI 0), .int (iI 0), .ref aSo, .ref aNf, .ref aNg, .ref aSr, .ref aNu, .ref aMa, .ref aNo, .int (iI 0), .int (iI 0), .int (iI 0), .ref aLe, .ref aAc, .ref aDi, .null, .int (iI 0), .int (iI 0), .int (iI 0), .int (iI 0)])), iA G aWc 48 wch, iA G aTx 4200 (fun _ => 0), iA G aOu 8192 (fun _ => 0), iA G aSo 4200 (fun _ => 0), iA G aNf 40 (fun _ => 0), iA G aNg 40 (fun _ => 0), iA G aSr 40 (fun _ => 0), iA G aNu 40 (fun _ => 0), iA G aMa 3 (fun _ => 0), iA G aNo 48 (fun _ => 0), iA G aLe 384 (fun _ => 0), iA G aAc 1536 (fun _ => 0), iA G aDi 16 (fun _ => 0), iA G aOr 16 (fun _ => 0)] [(0, .ref aM)] 390 [.ref aOr, .ref aM]
  refine z_putF C I f_M_49 ok_M nm_M d_M_init_390 0 rfl rfl rfl rfl rfl (Nat.le_of_ble_eq_true rfl) [(aM, .inr (8, [.ref aWc, .int (iI 0), .int (iI 0), .ref aTx, .int (iI 0), .ref aOu, .int (iI 0), .int (iI 0), .int (iI 0), .int (iI 0), .ref aSo, .ref aNf, .ref aNg, .ref aSr, .ref aNu, .ref aMa, .ref aNo, .int (iI 0), .int (iI 0), .int (iI 0), .ref aLe, .ref aAc, .ref aDi, .ref aOr, .int (iI 0), .int (iI 0), .int (iI 0), .int (iI 0)])), iA G aWc 48 wch, iA G aTx 4200 (fun _ => 0), iA G aOu 8192 (fun _ => 0), iA G aSo 4200 (fun _ => 0), iA G aNf 40 (fun _ => 0), iA G aNg 40 (fun _ => 0), iA G aSr 40 (fun _ => 0), iA G aNu 40 (fun _ => 0), iA G aMa 3 (fun _ => 0), iA G aNo 48 (fun _ => 0), iA G aLe 384 (fun _ => 0), iA G aAc 1536 (fun _ => 0), iA G aDi 16 (fun _ => 0), iA G aOr 16 (fun _ => 0)] rfl ?_
  refine z_aload_n C d_M_init_393 0 rfl ?_
  refine z_callv (As := []) (rest := []) (wr := [iA G aWc 48 wch, iA G aTx 4200 (fun _ => 0), iA G aOu 8192 (fun _ => 0), iA G aSo 4200 (fun _ => 0), iA G aNf 40 (fun _ => 0), iA G aNg 40 (fun _ => 0), iA G aSr 40 (fun _ => 0), iA G aNu 40 (fun _ => 0), iA G aNo 48 (fun _ => 0), iA G aDi 16 (fun _ => 0), iA G aOr 16 (fun _ => 0)]) (ws' := fun u => [(aM, .inr (8, [.ref aWc, .int (iI 0), .int (iI 0), .ref aTx, .int (iI 0), .ref aOu, .int (iI 0), .int (iI 0), .int (iI 0), .int (iI 0), .ref aSo, .ref aNf, .ref aNg, .ref aSr, .ref aNu, .ref aMa, .ref aNo, .int (iI 0), .int (iI 0), .int (iI 0), .ref aLe, .ref aAc, .ref aDi, .ref aOr, .int (iI 0), .int (iI 0), .int (iI 0), .int (iI 0)])), iA G aWc 48 wch, iA G aTx 4200 (fun _ => 0), iA G aOu 8192 (fun _ => 0), iA G aSo 4200 (fun _ => 0), iA G aNf 40 (fun _ => 0), iA G aNg 40 (fun _ => 0), iA G aSr 40 (fun _ => 0), iA G aNu 40 (fun _ => 0), iA G aMa 3 (flZ 3 0 (fun _ => 0)), iA G aNo 48 (fun _ => 0), iA G aLe 384 (flZ 384 (-1) (fun _ => 0)), iA G aAc 1536 (flZ 1536 (-1) (fun _ => 0)), iA G aDi 16 (fun _ => 0), iA G aOr 16 (fun _ => 0)]) (q0 := 0) C k_M_52 kc_M_forget (fun l sz => m_M_forget l G sz aM aWc aTx aOu aSo aNf aNg aSr aNu aMa aNo aLe aAc aDi aOr 0 0 0 0 0 0 0 0 0 0 0 0 0 0 (fun _ => 0) (fun _ => 0) (fun _ => 0) ) rfl rfl (Nat.le_of_ble_eq_true rfl) (by decide) d_M_init_394 rfl rfl [0, 9, 11, 12] [1, 2, 3, 4, 5, 6, 7, 8, 10, 13, 14] [11, 0, 1, 2, 3, 4, 5, 6, 7, 12, 8, 13, 14, 9, 10] rfl rfl (by decide) (fun u => rfl) (fun u h394 => ?_)
  show Zc G X 1 14 18803 [(aM, .inr (8, [.ref aWc, .int (iI 0), .int (iI 0), .ref aTx, .int (iI 0), .ref aOu, .int (iI 0), .int (iI 0), .int (iI 0), .int (iI 0), .ref aSo, .ref aNf, .ref aNg, .ref aSr, .ref aNu, .ref aMa, .ref aNo, .int (iI 0), .int (iI 0), .int (iI 0), .ref aLe, .ref aAc, .ref aDi, .ref aOr, .int (iI 0), .int (iI 0), .int (iI 0), .int (iI 0)])), iA G aWc 48 wch, iA G aTx 4200 (fun _ => 0), iA G aOu 8192 (fun _ => 0), iA G aSo 4200 (fun _ => 0), iA G aNf 40 (fun _ => 0), iA G aNg 40 (fun _ => 0), iA G aSr 40 (fun _ => 0), iA G aNu 40 (fun _ => 0), iA G aMa 3 (flZ 3 0 (fun _ => 0)), iA G aNo 48 (fun _ => 0), iA G aLe 384 (flZ 384 (-1) (fun _ => 0)), iA G aAc 1536 (flZ 1536 (-1) (fun _ => 0)), iA G aDi 16 (fun _ => 0), iA G aOr 16 (fun _ => 0)] [(0, .ref aM)] 397 []
  exact z_vret C K d_M_init_397 (aWc, aTx, aOu, aSo, aNf, aNg, aSr, aNu, aMa, aNo, aLe, aAc, aDi, aOr) (rfl) (trivial)
