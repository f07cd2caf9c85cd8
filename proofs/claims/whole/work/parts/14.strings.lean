set_option maxHeartbeats 4000000 in
set_option maxRecDepth 100000 in
theorem m_jS_coder (l : Launch) (G : GG) (sz : Nat) (si : Nat) (ow : String) (ix : Nat) (tx : String) (hq : sx_L[si]? = some (ow, ix, tx)) : MetI l G sz y_jS_coder c_jS_coder 1 (some .byte) ({ frames := 0, cells := 0, slots := 0, locals := 0 } : Room) [.ref (G.2.2.1 si)] [] (fun (r : Int32) (u : Unit) => r = iI 0) (fun (u : Unit) => []) := by
  refine MetI.mk (by decide) (Nat.le_of_ble_eq_true rfl) (fun X C K => ?_)
  show Zc G X 1 0 0 [] [(0, .ref (G.2.2.1 si))] 0 []
  refine z_gets_cs C d_jS_coder_0 ?_
  refine z_if_eq (tgt := 13) C d_jS_coder_3 (by decide) (by omega) (fun c3 => ?_) (fun c3 => ?_)
  · exact absurd c3 (by omega)
  ·
    refine z_aload_n C d_jS_coder_6 0 rfl ?_
    refine z_getS_coder C d_jS_coder_7 hq ?_
    refine z_goto (tgt := 14) C d_jS_coder_10 (by decide) ?_
    exact z_iret C K d_jS_coder_14 (by decide) () (rfl) (rfl)
set_option maxHeartbeats 4000000 in
set_option maxRecDepth 100000 in
theorem m_jS_isLatin1 (l : Launch) (G : GG) (sz : Nat) (si : Nat) (ow : String) (ix : Nat) (tx : String) (hq : sx_L[si]? = some (ow, ix, tx)) : MetI l G sz y_jS_isLatin1 c_jS_isLatin1 1 (some .boolean) ({ frames := 0, cells := 0, slots := 0, locals := 0 } : Room) [.ref (G.2.2.1 si)] [] (fun (r : Int32) (u : Unit) => r = iI 1) (fun (u : Unit) => []) := by
  refine MetI.mk (by decide) (Nat.le_of_ble_eq_true rfl) (fun X C K => ?_)
  show Zc G X 1 0 0 [] [(0, .ref (G.2.2.1 si))] 0 []
  refine z_gets_cs C d_jS_isLatin1_0 ?_
  refine z_if_eq (tgt := 17) C d_jS_isLatin1_3 (by decide) (by omega) (fun c3 => ?_) (fun c3 => ?_)
  · exact absurd c3 (by omega)
  ·
    refine z_aload_n C d_jS_isLatin1_6 0 rfl ?_
    refine z_getS_coder C d_jS_isLatin1_7 hq ?_
    refine z_if_ne (tgt := 17) C d_jS_isLatin1_10 (by decide) (by omega) (fun c10 => ?_) (fun c10 => ?_)
    · exact absurd c10 (by omega)
    ·
      refine z_iconst C d_jS_isLatin1_13 ?_
      refine z_goto (tgt := 18) C d_jS_isLatin1_14 (by decide) ?_
      exact z_iret C K d_jS_isLatin1_18 (by decide) () (rfl) (rfl)
set_option maxHeartbeats 4000000 in
set_option maxRecDepth 100000 in
theorem m_jS_length (l : Launch) (G : GG) (sz : Nat) (si : Nat) (ow : String) (ix : Nat) (tx : String) (hq : sx_L[si]? = some (ow, ix, tx)) : MetI l G sz y_jS_length c_jS_length 1 (some .int) ({ frames := 1, cells := 0, slots := 0, locals := 20 } : Room) [.ref (G.2.2.1 si)] [] (fun (r : Int32) (u : Unit) => r = iI (tx.toList.length : Int)) (fun (u : Unit) => []) := by
  refine MetI.mk (by decide) (Nat.le_of_ble_eq_true rfl) (fun X C K => ?_)
  show Zc G X 1 0 0 [] [(0, .ref (G.2.2.1 si))] 0 []
  refine z_aload_n C d_jS_length_0 0 rfl ?_
  refine z_getS_value C d_jS_length_1 hq ?_
  refine z_lenT C d_jS_length_4 hq ?_
  refine z_aload_n C d_jS_length_5 0 rfl ?_
  refine z_calliT (As := []) (rest := [.int (iI (tx.toList.length : Int))]) (wr := []) (ws' := fun u => []) C k_jS_335 kc_jS_coder (fun l sz => m_jS_coder l G sz si ow ix tx (hq)) rfl rfl (Nat.le_of_ble_eq_true rfl) (by decide) d_jS_length_6 hq [] [] [] rfl rfl (by decide) (fun u => rfl) (fun r u h6 => ?_)
  obtain rfl := h6
  show Zc G X 1 0 0 [] [(0, .ref (G.2.2.1 si))] 9 [.int (iI 0), .int (iI (tx.toList.length : Int))]
  refine z_ishr C d_jS_length_9 (iI (tx.toList.length : Int)) (sb_shr0 _) ?_
  exact z_iret C K d_jS_length_10 (rfl) () (rfl) (rfl)
set_option maxHeartbeats 4000000 in
set_option maxRecDepth 100000 in
theorem m_jP_ci_r (l : Launch) (G : GG) (sz : Nat) (a : Int) (n : Int) (t : Nat) (h1 : 0 ≤ a ∧ a < n ∧ n ≤ 2147483647) : MetI l G sz y_jP_checkIndex c_jP_checkIndex 3 (some .int) ({ frames := 0, cells := 0, slots := 0, locals := 0 } : Room) [.int (iI a), .int (iI n), .ref t] [] (fun (r : Int32) (u : Unit) => r = iI a) (fun (u : Unit) => []) := by
  refine MetI.mk (by decide) (Nat.le_of_ble_eq_true rfl) (fun X C K => ?_)
  show Zc G X 3 0 0 [] [(0, .int (iI a)), (1, .int (iI n)), (2, .ref t)] 0 []
  refine z_iload_n C d_jP_checkIndex_0 0 rfl ?_
  refine z_if_lt (tgt := 9) C d_jP_checkIndex_1 (by decide) (by omega) (fun c1 => ?_) (fun c1 => ?_)
  · exact absurd c1 (by omega)
  ·
    refine z_iload_n C d_jP_checkIndex_4 0 rfl ?_
    refine z_iload_n C d_jP_checkIndex_5 1 rfl ?_
    refine z_icmp_lt (tgt := 16) C d_jP_checkIndex_6 (by decide) (by omega) (by omega) (fun c6 => ?_) (fun c6 => ?_)
    ·
      refine z_iload_n C d_jP_checkIndex_16 0 rfl ?_
      exact z_iret C K d_jP_checkIndex_17 (rfl) () (rfl) (rfl)
    · exact absurd c6 (by omega)
set_option maxHeartbeats 4000000 in
set_option maxRecDepth 100000 in
theorem m_jP_ci_n (l : Launch) (G : GG) (sz : Nat) (a : Int) (n : Int) (h1 : 0 ≤ a ∧ a < n ∧ n ≤ 2147483647) : MetI l G sz y_jP_checkIndex c_jP_checkIndex 3 (some .int) ({ frames := 0, cells := 0, slots := 0, locals := 0 } : Room) [.int (iI a), .int (iI n), .null] [] (fun (r : Int32) (u : Unit) => r = iI a) (fun (u : Unit) => []) := by
  refine MetI.mk (by decide) (Nat.le_of_ble_eq_true rfl) (fun X C K => ?_)
  show Zc G X 3 0 0 [] [(0, .int (iI a)), (1, .int (iI n)), (2, .null)] 0 []
  refine z_iload_n C d_jP_checkIndex_0 0 rfl ?_
  refine z_if_lt (tgt := 9) C d_jP_checkIndex_1 (by decide) (by omega) (fun c1 => ?_) (fun c1 => ?_)
  · exact absurd c1 (by omega)
  ·
    refine z_iload_n C d_jP_checkIndex_4 0 rfl ?_
    refine z_iload_n C d_jP_checkIndex_5 1 rfl ?_
    refine z_icmp_lt (tgt := 16) C d_jP_checkIndex_6 (by decide) (by omega) (by omega) (fun c6 => ?_) (fun c6 => ?_)
    ·
      refine z_iload_n C d_jP_checkIndex_16 0 rfl ?_
      exact z_iret C K d_jP_checkIndex_17 (rfl) () (rfl) (rfl)
    · exact absurd c6 (by omega)
set_option maxHeartbeats 4000000 in
set_option maxRecDepth 100000 in
theorem m_jS_checkIndex (l : Launch) (G : GG) (sz : Nat) (a : Int) (n : Int) (h1 : 0 ≤ a ∧ a < n ∧ n ≤ 2147483647) : MetV l G sz y_jS_checkIndex c_jS_checkIndex 2 ({ frames := 1, cells := 0, slots := 0, locals := 22 } : Room) [.int (iI a), .int (iI n)] [] (fun (u : Unit) => True) (fun (u : Unit) => []) := by
  refine MetV.mk (by decide) (Nat.le_of_ble_eq_true rfl) (fun X C K => ?_)
  show Zc G X 2 0 0 [] [(0, .int (iI a)), (1, .int (iI n))] 0 []
  refine z_iload_n C d_jS_checkIndex_0 0 rfl ?_
  refine z_iload_n C d_jS_checkIndex_1 1 rfl ?_
  refine z_gets_fm C d_jS_checkIndex_2 ?_ (fun tq => ?_)
  ·
    refine z_calliS (As := [.int (iI a), .int (iI n), .null]) (rest := []) (wr := []) (ws' := fun u => []) C k_jS_1059 kc_jP_checkIndex (fun l sz => m_jP_ci_n l G sz a n (by omega)) rfl rfl (Nat.le_of_ble_eq_true rfl) (by decide) d_jS_checkIndex_5 [] [] [] rfl rfl (by decide) (fun u => rfl) (fun r u h5 => ?_)
    obtain rfl := h5
    show Zc G X 2 0 0 [] [(0, .int (iI a)), (1, .int (iI n))] 8 [.int (iI a)]
    refine z_pop C d_jS_checkIndex_8 rfl ?_
    exact z_vret C K d_jS_checkIndex_9 () (rfl) (trivial)
  ·
    refine z_calliS (As := [.int (iI a), .int (iI n), .ref tq]) (rest := []) (wr := []) (ws' := fun u => []) C k_jS_1059 kc_jP_checkIndex (fun l sz => m_jP_ci_r l G sz a n tq (by omega)) rfl rfl (Nat.le_of_ble_eq_true rfl) (by decide) d_jS_checkIndex_5 [] [] [] rfl rfl (by decide) (fun u => rfl) (fun r u h5 => ?_)
    obtain rfl := h5
    show Zc G X 2 0 0 [] [(0, .int (iI a)), (1, .int (iI n))] 8 [.int (iI a)]
    refine z_pop C d_jS_checkIndex_8 rfl ?_
    exact z_vret C K d_jS_checkIndex_9 () (rfl) (trivial)
set_option maxHeartbeats 4000000 in
set_option maxRecDepth 100000 in
theorem m_jL_charAt (l : Launch) (G : GG) (sz : Nat) (si : Nat) (ow : String) (ix : Nat) (tx : String) (k : Int) (hq : sx_L[si]? = some (ow, ix, tx)) (hk : 0 ≤ k ∧ k < tx.toList.length) : MetI l G sz y_jL_charAt c_jL_charAt 2 (some .char) ({ frames := 2, cells := 0, slots := 0, locals := 43 } : Room) [.ref (G.2.2.2 si), .int (iI k)] [] (fun (r : Int32) (u : Unit) => r = iI (sx_b tx k.toNat)) (fun (u : Unit) => []) := by
  refine MetI.mk (by decide) (Nat.le_of_ble_eq_true rfl) (fun X C K => ?_)
  show Zc G X 2 0 0 [] [(0, .ref (G.2.2.2 si)), (1, .int (iI k))] 0 []
  have hL : tx.toList.length ≤ 100 := sx_len hq
  have ha : 0 ≤ sx_b tx k.toNat ∧ sx_b tx k.toNat < 128 := sx_asc hq k.toNat
  refine z_iload_n C d_jL_charAt_0 1 rfl ?_
  refine z_aload_n C d_jL_charAt_1 0 rfl ?_
  refine z_lenT C d_jL_charAt_2 hq ?_
  refine z_callvS (As := [.int (iI k), .int (iI (tx.toList.length : Int))]) (rest := []) (wr := []) (ws' := fun u => []) C k_jL_9 kc_jS_checkIndex (fun l sz => m_jS_checkIndex l G sz k (tx.toList.length : Int) (by omega)) rfl rfl (Nat.le_of_ble_eq_true rfl) (by decide) d_jL_charAt_3 [] [] [] rfl rfl (by decide) (fun u => rfl) (fun u h3 => ?_)
  show Zc G X 2 0 0 [] [(0, .ref (G.2.2.2 si)), (1, .int (iI k))] 6 []
  refine z_aload_n C d_jL_charAt_6 0 rfl ?_
  refine z_iload_n C d_jL_charAt_7 1 rfl ?_
  refine z_baldT C d_jL_charAt_8 hq (by omega) ?_
  refine z_sipush C d_jL_charAt_9 (by decide) ?_
  refine z_iand C d_jL_charAt_12 (iI (sx_b tx k.toNat)) (iI_a255 (by omega)) ?_
  refine z_i2c C d_jL_charAt_13 (by omega) ?_
  exact z_iret C K d_jL_charAt_14 (iI_nc (by omega)) () (rfl) (rfl)
set_option maxHeartbeats 4000000 in
set_option maxRecDepth 100000 in
theorem m_jS_charAt (l : Launch) (G : GG) (sz : Nat) (si : Nat) (ow : String) (ix : Nat) (tx : String) (k : Int) (hq : sx_L[si]? = some (ow, ix, tx)) (hk : 0 ≤ k ∧ k < tx.toList.length) : MetI l G sz y_jS_charAt c_jS_charAt 2 (some .char) ({ frames := 3, cells := 0, slots := 0, locals := 64 } : Room) [.ref (G.2.2.1 si), .int (iI k)] [] (fun (r : Int32) (u : Unit) => r = iI (sx_b tx k.toNat)) (fun (u : Unit) => []) := by
  refine MetI.mk (by decide) (Nat.le_of_ble_eq_true rfl) (fun X C K => ?_)
  show Zc G X 2 0 0 [] [(0, .ref (G.2.2.1 si)), (1, .int (iI k))] 0 []
  have hL : tx.toList.length ≤ 100 := sx_len hq
  have ha : 0 ≤ sx_b tx k.toNat ∧ sx_b tx k.toNat < 128 := sx_asc hq k.toNat
  refine z_aload_n C d_jS_charAt_0 0 rfl ?_
  refine z_calliT (As := []) (rest := []) (wr := []) (ws' := fun u => []) C k_jS_492 kc_jS_isLatin1 (fun l sz => m_jS_isLatin1 l G sz si ow ix tx (hq)) rfl rfl (Nat.le_of_ble_eq_true rfl) (by decide) d_jS_charAt_1 hq [] [] [] rfl rfl (by decide) (fun u => rfl) (fun r u h1 => ?_)
  obtain rfl := h1
  show Zc G X 2 0 0 [] [(0, .ref (G.2.2.1 si)), (1, .int (iI k))] 4 [.int (iI 1)]
  refine z_if_eq (tgt := 16) C d_jS_charAt_4 (by decide) (by omega) (fun c4 => ?_) (fun c4 => ?_)
  · exact absurd c4 (by omega)
  ·
    refine z_aload_n C d_jS_charAt_7 0 rfl ?_
    refine z_getS_value C d_jS_charAt_8 hq ?_
    refine z_iload_n C d_jS_charAt_11 1 rfl ?_
    refine z_calliS (As := [.ref (G.2.2.2 si), .int (iI k)]) (rest := []) (wr := []) (ws' := fun u => []) C k_jS_495 kc_jL_charAt (fun l sz => m_jL_charAt l G sz si ow ix tx k (hq) (by omega)) rfl rfl (Nat.le_of_ble_eq_true rfl) (by decide) d_jS_charAt_12 [] [] [] rfl rfl (by decide) (fun u => rfl) (fun r u h12 => ?_)
    obtain rfl := h12
    show Zc G X 2 0 0 [] [(0, .ref (G.2.2.1 si)), (1, .int (iI k))] 15 [.int (iI (sx_b tx k.toNat))]
    exact z_iret C K d_jS_charAt_15 (iI_nc (by omega)) () (rfl) (rfl)
set_option maxHeartbeats 4000000 in
set_option maxRecDepth 100000 in
theorem m_B_addText (l : Launch) (G : GG) (sz : Nat) (b : Nat) (bb : Nat) (n : Nat) (len : Int) (F : Nat → Int) (si : Nat) (ow : String) (ix : Nat) (tx : String) (hq : sx_L[si]? = some (ow, ix, tx)) (h1 : 0 ≤ len ∧ len + ((wl tx).length : Int) ≤ n ∧ n ≤ 2147483647) : MetV l G sz y_B_addText c_B_addText 3 ({ frames := 4, cells := 0, slots := 0, locals := 85 } : Room) [.ref b, .ref (G.2.2.1 si)] [(b, .inr (0, [.ref bb, .int (iI len)])), bA G bb n F] (fun (u : Unit) => True) (fun (u : Unit) => [(b, .inr (0, [.ref bb, .int (iI (len + ((wl tx).length : Int)))])), bA G bb n (wr F len (wl tx))]) := by
  refine MetV.mk (by decide) (Nat.le_of_ble_eq_true rfl) (fun X C K => ?_)
  show Zc G X 3 0 0 [(b, .inr (0, [.ref bb, .int (iI len)])), bA G bb n F] [(0, .ref b), (1, .ref (G.2.2.1 si))] 0 []
  have hL : tx.toList.length ≤ 100 := sx_len hq
  have hwl := wl_len tx
  refine z_iconst C d_B_addText_0 ?_
  refine z_istore_n (lv' := [(2, .int (iI 0)), (0, .ref b), (1, .ref (G.2.2.1 si))]) C d_B_addText_1 (by decide) rfl ?_
  have loop2 : ∀ (kq : Nat) (k : Int) (q : Int) (E : Nat → Int), (0 ≤ k ∧ k ≤ tx.toList.length ∧ q = len + k) → (wr E q (seg (sx_b tx) k.toNat (tx.toList.length - k).toNat) = wr F len (wl tx)) → ((tx.toList.length - k).toNat < kq) → Zc G X 3 0 0 [(b, .inr (0, [.ref bb, .int (iI q)])), bA G bb n E] [(0, .ref b), (1, .ref (G.2.2.1 si)), (2, .int (iI k))] 2 [] := by
    intro kq
    induction kq with
    | zero => intro k q E hk hE hm; exact absurd hm (Nat.not_lt_zero _)
    | succ kq ih2 =>
      intro k q E hk hE hm
      -- loop body
      refine z_iload_n C d_B_addText_2 2 rfl ?_
      refine z_aload_n C d_B_addText_3 1 rfl ?_
      refine z_calliT (As := []) (rest := [.int (iI k)]) (wr := [(b, .inr (0, [.ref bb, .int (iI q)])), bA G bb n E]) (ws' := fun u => [(b, .inr (0, [.ref bb, .int (iI q)])), bA G bb n E]) C k_B_23 kc_jS_length (fun l sz => m_jS_length l G sz si ow ix tx (hq)) rfl rfl (Nat.le_of_ble_eq_true rfl) (by decide) d_B_addText_4 hq [] [0, 1] [0, 1] rfl rfl (by decide) (fun u => rfl) (fun r u h4 => ?_)
      obtain rfl := h4
      show Zc G X 3 0 0 [(b, .inr (0, [.ref bb, .int (iI q)])), bA G bb n E] [(0, .ref b), (1, .ref (G.2.2.1 si)), (2, .int (iI k))] 7 [.int (iI (tx.toList.length : Int)), .int (iI k)]
      refine z_icmp_ge (tgt := 25) C d_B_addText_7 (by decide) (by omega) (by omega) (fun c7 => ?_) (fun c7 => ?_)
      ·
        rw [show (tx.toList.length - k).toNat = 0 by omega] at hE
        have hE2 : E = wr F len (wl tx) := hE
        exact z_vret C K d_B_addText_25 () (by rw [show q = len + ((wl tx).length : Int) by omega, hE2]) (trivial)
      ·
        refine z_aload_n C d_B_addText_10 0 rfl ?_
        refine z_aload_n C d_B_addText_11 1 rfl ?_
        refine z_iload_n C d_B_addText_12 2 rfl ?_
        refine z_calliT (As := [.int (iI k)]) (rest := [.ref b]) (wr := [(b, .inr (0, [.ref bb, .int (iI q)])), bA G bb n E]) (ws' := fun u => [(b, .inr (0, [.ref bb, .int (iI q)])), bA G bb n E]) C k_B_28 kc_jS_charAt (fun l sz => m_jS_charAt l G sz si ow ix tx k (hq) (by omega)) rfl rfl (Nat.le_of_ble_eq_true rfl) (by decide) d_B_addText_13 hq [] [0, 1] [0, 1] rfl rfl (by decide) (fun u => rfl) (fun r u h13 => ?_)
        obtain rfl := h13
        show Zc G X 3 0 0 [(b, .inr (0, [.ref bb, .int (iI q)])), bA G bb n E] [(0, .ref b), (1, .ref (G.2.2.1 si)), (2, .int (iI k))] 16 [.int (iI (sx_b tx k.toNat)), .ref b]
        refine z_callv (As := [.int (iI (sx_b tx k.toNat))]) (rest := []) (wr := []) (ws' := fun u => [(b, .inr (0, [.ref bb, .int (iI (q + 1))])), bA G bb n (wr E q [(sx_b tx k.toNat)])]) (q0 := 0) C k_B_19 kc_B_add (fun l sz => m_B_add l G sz b bb n q E (sx_b tx k.toNat) (by omega)) rfl rfl (Nat.le_of_ble_eq_true rfl) (by decide) d_B_addText_16 rfl rfl [0, 1] [] [0, 1] rfl rfl (by decide) (fun u => rfl) (fun u h16 => ?_)
        show Zc G X 3 0 0 [(b, .inr (0, [.ref bb, .int (iI (q + 1))])), bA G bb n (wr E q [(sx_b tx k.toNat)])] [(0, .ref b), (1, .ref (G.2.2.1 si)), (2, .int (iI k))] 19 []
        refine z_iinc (lv' := [(2, .int (iI (k + 1))), (0, .ref b), (1, .ref (G.2.2.1 si))]) C d_B_addText_19 2 rfl (by decide) rfl ?_
        refine z_goto (tgt := 2) C d_B_addText_22 (by decide) ?_
        refine z_lv [1, 2, 0] (lv' := [(0, .ref b), (1, .ref (G.2.2.1 si)), (2, .int (iI (k + 1)))]) rfl ?_
        exact ih2 _ _ _ (by omega) (by rw [seg_step (sx_b tx) (by omega) (by omega)] at hE; rw [show (tx.toList.length : Int) - (k + 1) = tx.toList.length - k - 1 by omega]; exact hE) (by omega)
  refine z_lv [1, 2, 0] (lv' := [(0, .ref b), (1, .ref (G.2.2.1 si)), (2, .int (iI 0))]) rfl ?_
  exact loop2 (_ + 1) _ _ _ (by omega) (by rw [Int.sub_zero]; rfl) (Nat.lt_succ_self _)
set_option maxHeartbeats 4000000 in
set_option maxRecDepth 100000 in
theorem m_B_addInt (l : Launch) (G : GG) (sz : Nat) (b : Nat) (bb : Nat) (n : Nat) (len : Int) (F : Nat → Int) (x : Int) (h1 : 0 ≤ len ∧ len + 4 ≤ n ∧ n ≤ 2147483647) : MetV l G sz y_B_addInt c_B_addInt 3 ({ frames := 1, cells := 0, slots := 0, locals := 21 } : Room) [.ref b, .int (iI x)] [(b, .inr (0, [.ref bb, .int (iI len)])), bA G bb n F] (fun (u : Unit) => True) (fun (u : Unit) => [(b, .inr (0, [.ref bb, .int (iI (len + 4))])), bA G bb n (wr F len [ush x 24, ush x 16, ush x 8, ush x 0])]) := by
  refine MetV.mk (by decide) (Nat.le_of_ble_eq_true rfl) (fun X C K => ?_)
  show Zc G X 3 0 0 [(b, .inr (0, [.ref bb, .int (iI len)])), bA G bb n F] [(0, .ref b), (1, .int (iI x))] 0 []
  refine z_bipush C d_B_addInt_0 (by decide) ?_
  refine z_istore_n (lv' := [(2, .int (iI 24)), (0, .ref b), (1, .int (iI x))]) C d_B_addInt_2 (by decide) rfl ?_
  refine z_iload_n C d_B_addInt_3 0 rfl ?_
  refine z_if_lt (tgt := 20) C d_B_addInt_4 (by decide) (by omega) (fun c4 => ?_) (fun c4 => ?_)
  · exact absurd c4 (by omega)
  ·
    refine z_aload_n C d_B_addInt_7 1 rfl ?_
    refine z_iload_n C d_B_addInt_8 2 rfl ?_
    refine z_iload_n C d_B_addInt_9 0 rfl ?_
    refine z_iushr (v := iI (ush x 24)) C d_B_addInt_10 (iI_ush x (by decide) (by decide)) ?_
    refine z_callv (As := [.int (iI (ush x 24))]) (rest := []) (wr := []) (ws' := fun u => [(b, .inr (0, [.ref bb, .int (iI (len + 1))])), bA G bb n (wr F len [(ush x 24)])]) (q0 := 0) C k_B_19 kc_B_add (fun l sz => m_B_add l G sz b bb n len F (ush x 24) (by omega)) rfl rfl (Nat.le_of_ble_eq_true rfl) (by decide) d_B_addInt_11 rfl rfl [0, 1] [] [0, 1] rfl rfl (by decide) (fun u => rfl) (fun u h11 => ?_)
    show Zc G X 3 0 0 [(b, .inr (0, [.ref bb, .int (iI (len + 1))])), bA G bb n (wr F len [(ush x 24)])] [(2, .int (iI 24)), (0, .ref b), (1, .int (iI x))] 14 []
    refine z_iinc (lv' := [(2, .int (iI 16)), (0, .ref b), (1, .int (iI x))]) C d_B_addInt_14 0 rfl (by decide) rfl ?_
    refine z_goto (tgt := 3) C d_B_addInt_17 (by decide) ?_
    refine z_iload_n C d_B_addInt_3 0 rfl ?_
    refine z_if_lt (tgt := 20) C d_B_addInt_4 (by decide) (by omega) (fun c4 => ?_) (fun c4 => ?_)
    · exact absurd c4 (by omega)
    ·
      refine z_aload_n C d_B_addInt_7 1 rfl ?_
      refine z_iload_n C d_B_addInt_8 2 rfl ?_
      refine z_iload_n C d_B_addInt_9 0 rfl ?_
      refine z_iushr (v := iI (ush x 16)) C d_B_addInt_10 (iI_ush x (by decide) (by decide)) ?_
      refine z_callv (As := [.int (iI (ush x 16))]) (rest := []) (wr := []) (ws' := fun u => [(b, .inr (0, [.ref bb, .int (iI ((len + 1) + 1))])), bA G bb n (wr (wr F len [(ush x 24)]) (len + 1) [(ush x 16)])]) (q0 := 0) C k_B_19 kc_B_add (fun l sz => m_B_add l G sz b bb n (len + 1) (wr F len [(ush x 24)]) (ush x 16) (by omega)) rfl rfl (Nat.le_of_ble_eq_true rfl) (by decide) d_B_addInt_11 rfl rfl [0, 1] [] [0, 1] rfl rfl (by decide) (fun u => rfl) (fun u h11 => ?_)
      show Zc G X 3 0 0 [(b, .inr (0, [.ref bb, .int (iI ((len + 1) + 1))])), bA G bb n (wr (wr F len [(ush x 24)]) (len + 1) [(ush x 16)])] [(2, .int (iI 16)), (0, .ref b), (1, .int (iI x))] 14 []
      refine z_iinc (lv' := [(2, .int (iI 8)), (0, .ref b), (1, .int (iI x))]) C d_B_addInt_14 0 rfl (by decide) rfl ?_
      refine z_goto (tgt := 3) C d_B_addInt_17 (by decide) ?_
      refine z_iload_n C d_B_addInt_3 0 rfl ?_
      refine z_if_lt (tgt := 20) C d_B_addInt_4 (by decide) (by omega) (fun c4 => ?_) (fun c4 => ?_)
      · exact absurd c4 (by omega)
      ·
        refine z_aload_n C d_B_addInt_7 1 rfl ?_
        refine z_iload_n C d_B_addInt_8 2 rfl ?_
        refine z_iload_n C d_B_addInt_9 0 rfl ?_
        refine z_iushr (v := iI (ush x 8)) C d_B_addInt_10 (iI_ush x (by decide) (by decide)) ?_
        refine z_callv (As := [.int (iI (ush x 8))]) (rest := []) (wr := []) (ws' := fun u => [(b, .inr (0, [.ref bb, .int (iI (((len + 1) + 1) + 1))])), bA G bb n (wr (wr (wr F len [(ush x 24)]) (len + 1) [(ush x 16)]) ((len + 1) + 1) [(ush x 8)])]) (q0 := 0) C k_B_19 kc_B_add (fun l sz => m_B_add l G sz b bb n ((len + 1) + 1) (wr (wr F len [(ush x 24)]) (len + 1) [(ush x 16)]) (ush x 8) (by omega)) rfl rfl (Nat.le_of_ble_eq_true rfl) (by decide) d_B_addInt_11 rfl rfl [0, 1] [] [0, 1] rfl rfl (by decide) (fun u => rfl) (fun u h11 => ?_)
        show Zc G X 3 0 0 [(b, .inr (0, [.ref bb, .int (iI (((len + 1) + 1) + 1))])), bA G bb n (wr (wr (wr F len [(ush x 24)]) (len + 1) [(ush x 16)]) ((len + 1) + 1) [(ush x 8)])] [(2, .int (iI 8)), (0, .ref b), (1, .int (iI x))] 14 []
        refine z_iinc (lv' := [(2, .int (iI 0)), (0, .ref b), (1, .int (iI x))]) C d_B_addInt_14 0 rfl (by decide) rfl ?_
        refine z_goto (tgt := 3) C d_B_addInt_17 (by decide) ?_
        refine z_iload_n C d_B_addInt_3 0 rfl ?_
        refine z_if_lt (tgt := 20) C d_B_addInt_4 (by decide) (by omega) (fun c4 => ?_) (fun c4 => ?_)
        · exact absurd c4 (by omega)
        ·
          refine z_aload_n C d_B_addInt_7 1 rfl ?_
          refine z_iload_n C d_B_addInt_8 2 rfl ?_
          refine z_iload_n C d_B_addInt_9 0 rfl ?_
          refine z_iushr (v := iI (ush x 0)) C d_B_addInt_10 (iI_ush x (by decide) (by decide)) ?_
          refine z_callv (As := [.int (iI (ush x 0))]) (rest := []) (wr := []) (ws' := fun u => [(b, .inr (0, [.ref bb, .int (iI ((((len + 1) + 1) + 1) + 1))])), bA G bb n (wr (wr (wr (wr F len [(ush x 24)]) (len + 1) [(ush x 16)]) ((len + 1) + 1) [(ush x 8)]) (((len + 1) + 1) + 1) [(ush x 0)])]) (q0 := 0) C k_B_19 kc_B_add (fun l sz => m_B_add l G sz b bb n (((len + 1) + 1) + 1) (wr (wr (wr F len [(ush x 24)]) (len + 1) [(ush x 16)]) ((len + 1) + 1) [(ush x 8)]) (ush x 0) (by omega)) rfl rfl (Nat.le_of_ble_eq_true rfl) (by decide) d_B_addInt_11 rfl rfl [0, 1] [] [0, 1] rfl rfl (by decide) (fun u => rfl) (fun u h11 => ?_)
          show Zc G X 3 0 0 [(b, .inr (0, [.ref bb, .int (iI ((((len + 1) + 1) + 1) + 1))])), bA G bb n (wr (wr (wr (wr F len [(ush x 24)]) (len + 1) [(ush x 16)]) ((len + 1) + 1) [(ush x 8)]) (((len + 1) + 1) + 1) [(ush x 0)])] [(2, .int (iI 0)), (0, .ref b), (1, .int (iI x))] 14 []
          refine z_iinc (lv' := [(2, .int (iI (-8))), (0, .ref b), (1, .int (iI x))]) C d_B_addInt_14 0 rfl (by decide) rfl ?_
          refine z_goto (tgt := 3) C d_B_addInt_17 (by decide) ?_
          refine z_iload_n C d_B_addInt_3 0 rfl ?_
          refine z_if_lt (tgt := 20) C d_B_addInt_4 (by decide) (by omega) (fun c4 => ?_) (fun c4 => ?_)
          ·
            exact z_vret C K d_B_addInt_20 () (by rw [show len + 1 + 1 + 1 + 1 = len + 4 by omega]; rfl) (trivial)
          · exact absurd c4 (by omega)
set_option maxHeartbeats 4000000 in
set_option maxRecDepth 100000 in
theorem m_B_dropBlanks (l : Launch) (G : GG) (sz : Nat) (b : Nat) (bb : Nat) (n : Nat) (len : Int) (F : Nat → Int) (h1 : 0 ≤ len ∧ len ≤ n ∧ n ≤ 2147483647) (hb : byt F) : MetV l G sz y_B_dropBlanks c_B_dropBlanks 1 ({ frames := 0, cells := 0, slots := 0, locals := 0 } : Room) [.ref b] [(b, .inr (0, [.ref bb, .int (iI len)])), bA G bb n F] (fun (u : Unit) => True) (fun (u : Unit) => [(b, .inr (0, [.ref bb, .int (iI (drB F len.toNat : Int))])), bA G bb n F]) := by
  refine MetV.mk (by decide) (Nat.le_of_ble_eq_true rfl) (fun X C K => ?_)
  show Zc G X 1 0 0 [(b, .inr (0, [.ref bb, .int (iI len)])), bA G bb n F] [(0, .ref b)] 0 []
  have loop0 : ∀ (kq : Nat) (q : Int), (0 ≤ q ∧ q ≤ len) → (drB F q.toNat = drB F len.toNat) → (q.toNat < kq) → Zc G X 1 0 0 [(b, .inr (0, [.ref bb, .int (iI q)])), bA G bb n F] [(0, .ref b)] 0 [] := by
    intro kq
    induction kq with
    | zero => intro q hk hE hm; exact absurd hm (Nat.not_lt_zero _)
    | succ kq ih0 =>
      intro q hk hE hm
      have hbq := hb (q - 1).toNat
      -- loop body
      refine z_aload_n C d_B_dropBlanks_0 0 rfl ?_
      refine z_get C f_B_15 d_B_dropBlanks_1 0 rfl rfl ?_
      refine z_if_le (tgt := 36) C d_B_dropBlanks_4 (by decide) (by omega) (fun c4 => ?_) (fun c4 => ?_)
      ·
        have e2 : q = (drB F len.toNat : Int) := by rw [← hE]; first | (rw [show q.toNat = 0 by omega]; show q = ((0 : Nat) : Int); omega) | (rw [show q.toNat = (q - 1).toNat + 1 by omega]; rw [drB_s, if_neg (by omega)]; omega)
        exact z_vret C K d_B_dropBlanks_36 () (by rw [← e2]) (trivial)
      ·
        refine z_aload_n C d_B_dropBlanks_7 0 rfl ?_
        refine z_get C f_B_9 d_B_dropBlanks_8 0 rfl rfl ?_
        refine z_aload_n C d_B_dropBlanks_11 0 rfl ?_
        refine z_get C f_B_15 d_B_dropBlanks_12 0 rfl rfl ?_
        refine z_iconst C d_B_dropBlanks_15 ?_
        refine z_isub C d_B_dropBlanks_16 ?_
        refine z_bald C d_B_dropBlanks_17 1 rfl (by omega) ?_
        refine z_bipush C d_B_dropBlanks_18 (by decide) ?_
        refine z_icmp_ne (tgt := 36) C d_B_dropBlanks_20 (by decide) (by omega) (by omega) (fun c20 => ?_) (fun c20 => ?_)
        ·
          have e2 : q = (drB F len.toNat : Int) := by rw [← hE]; first | (rw [show q.toNat = 0 by omega]; show q = ((0 : Nat) : Int); omega) | (rw [show q.toNat = (q - 1).toNat + 1 by omega]; rw [drB_s, if_neg (by omega)]; omega)
          exact z_vret C K d_B_dropBlanks_36 () (by rw [← e2]) (trivial)
        ·
          refine z_aload_n C d_B_dropBlanks_23 0 rfl ?_
          refine z_dup C d_B_dropBlanks_24 rfl ?_
          refine z_get C f_B_15 d_B_dropBlanks_25 0 rfl rfl ?_
          refine z_iconst C d_B_dropBlanks_28 ?_
          refine z_isub C d_B_dropBlanks_29 ?_
          refine z_put C f_B_15 ok_B nm_B d_B_dropBlanks_30 0 rfl rfl rfl rfl (Nat.le_of_ble_eq_true rfl) [(b, .inr (0, [.ref bb, .int (iI (q - 1))])), bA G bb n F] rfl ?_
          refine z_goto (tgt := 0) C d_B_dropBlanks_33 (by decide) ?_
          refine z_lv [0] (lv' := [(0, .ref b)]) rfl ?_
          exact ih0 _ (by omega) (by rw [show q.toNat = (q - 1).toNat + 1 by omega] at hE; rw [drB_s, if_pos (by omega)] at hE; exact hE) (by omega)
  refine z_lv [0] (lv' := [(0, .ref b)]) rfl ?_
  exact loop0 (_ + 1) _ (by omega) (by omega) (Nat.lt_succ_self _)
