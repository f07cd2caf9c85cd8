set_option maxHeartbeats 4000000 in
set_option maxRecDepth 100000 in
theorem m_jA_fill (l : Launch) (G : GG) (sz : Nat) (a : Nat) (n : Nat) (v : Int) (F : Nat → Int) (hn : n ≤ 2147483647) : MetV l G sz y_jA_fill c_jA_fill 4 ({ frames := 0, cells := 0, slots := 0, locals := 0 } : Room) [.ref a, .int (iI v)] [iA G a n F] (fun (u : Unit) => True) (fun (u : Unit) => [iA G a n (flZ n v F)]) := by
  refine MetV.mk (by decide) (Nat.le_of_ble_eq_true rfl) (fun X C K => ?_)
  show Zc G X 4 0 0 [iA G a n F] [(0, .ref a), (1, .int (iI v))] 0 []
  refine z_iconst C d_jA_fill_0 ?_
  refine z_istore_n (lv' := [(2, .int (iI 0)), (0, .ref a), (1, .int (iI v))]) C d_jA_fill_1 (by decide) rfl ?_
  refine z_aload_n C d_jA_fill_2 1 rfl ?_
  refine z_alen C d_jA_fill_3 0 1 rfl rfl ?_
  refine z_topi (y := iI (n : Int)) rfl ?_
  refine z_istore_n (lv' := [(3, .int (iI (n : Int))), (2, .int (iI 0)), (0, .ref a), (1, .int (iI v))]) C d_jA_fill_4 (by decide) rfl ?_
  have loop5 : ∀ (kq : Nat) (k : Int) (E : Nat → Int), (0 ≤ k ∧ k ≤ n) → (∀ j : Nat, E j = if (j : Int) < k then v else F j) → ((n - k).toNat < kq) → Zc G X 4 0 0 [iA G a n E] [(0, .ref a), (1, .int (iI v)), (2, .int (iI k)), (3, .int (iI (n : Int)))] 5 [] := by
    intro kq
    induction kq with
    | zero => intro k E hk hE hm; exact absurd hm (Nat.not_lt_zero _)
    | succ kq ih5 =>
      intro k E hk hE hm
      -- loop body
      refine z_iload_n C d_jA_fill_5 2 rfl ?_
      refine z_iload_n C d_jA_fill_6 3 rfl ?_
      refine z_icmp_ge (tgt := 20) C d_jA_fill_7 (by decide) (by omega) (by omega) (fun c7 => ?_) (fun c7 => ?_)
      ·
        exact z_vret C K d_jA_fill_20 () (by rw [show E = flZ n v F from funext (fun j => by rw [hE j]; unfold flZ; (repeat' split) <;> first | rfl | (exfalso; omega))]) (trivial)
      ·
        refine z_aload_n C d_jA_fill_10 0 rfl ?_
        refine z_iload_n C d_jA_fill_11 2 rfl ?_
        refine z_iload_n C d_jA_fill_12 1 rfl ?_
        refine z_iast C d_jA_fill_13 0 rfl (by omega) [iA G a n (uZ E k.toNat v)] (rfl) ?_
        refine z_iinc (lv' := [(2, .int (iI (k + 1))), (0, .ref a), (1, .int (iI v)), (3, .int (iI (n : Int)))]) C d_jA_fill_14 2 rfl (by decide) rfl ?_
        refine z_goto (tgt := 5) C d_jA_fill_17 (by decide) ?_
        refine z_lv [1, 2, 0, 3] (lv' := [(0, .ref a), (1, .int (iI v)), (2, .int (iI (k + 1))), (3, .int (iI (n : Int)))]) rfl ?_
        exact ih5 _ _ (by omega) (fun j => by unfold uZ; rw [hE j]; (repeat' split) <;> first | rfl | (exfalso; omega)) (by omega)
  refine z_lv [2, 3, 1, 0] (lv' := [(0, .ref a), (1, .int (iI v)), (2, .int (iI 0)), (3, .int (iI (n : Int)))]) rfl ?_
  exact loop5 (_ + 1) _ _ (by omega) (fun j => by rw [if_neg (by omega)]) (Nat.lt_succ_self _)
set_option maxHeartbeats 4000000 in
set_option maxRecDepth 100000 in
theorem m_B_add (l : Launch) (G : GG) (sz : Nat) (b : Nat) (bb : Nat) (n : Nat) (len : Int) (F : Nat → Int) (v : Int) (h1 : 0 ≤ len ∧ len < n ∧ n ≤ 2147483647) : MetV l G sz y_B_add c_B_add 2 ({ frames := 0, cells := 0, slots := 0, locals := 0 } : Room) [.ref b, .int (iI v)] [(b, .inr (0, [.ref bb, .int (iI len)])), bA G bb n F] (fun (u : Unit) => True) (fun (u : Unit) => [(b, .inr (0, [.ref bb, .int (iI (len + 1))])), bA G bb n (wr F len [v])]) := by
  refine MetV.mk (by decide) (Nat.le_of_ble_eq_true rfl) (fun X C K => ?_)
  show Zc G X 2 0 0 [(b, .inr (0, [.ref bb, .int (iI len)])), bA G bb n F] [(0, .ref b), (1, .int (iI v))] 0 []
  refine z_aload_n C d_B_add_0 0 rfl ?_
  refine z_get C f_B_15 d_B_add_1 0 rfl rfl ?_
  refine z_aload_n C d_B_add_4 0 rfl ?_
  refine z_get C f_B_9 d_B_add_5 0 rfl rfl ?_
  refine z_alen C d_B_add_8 1 0 rfl rfl ?_
  refine z_topi (y := iI (n : Int)) rfl ?_
  refine z_icmp_ge (tgt := 33) C d_B_add_9 (by decide) (by omega) (by omega) (fun c9 => ?_) (fun c9 => ?_)
  · exact absurd c9 (by omega)
  ·
    refine z_aload_n C d_B_add_12 0 rfl ?_
    refine z_get C f_B_9 d_B_add_13 0 rfl rfl ?_
    refine z_aload_n C d_B_add_16 0 rfl ?_
    refine z_get C f_B_15 d_B_add_17 0 rfl rfl ?_
    refine z_iload_n C d_B_add_20 1 rfl ?_
    refine z_i2b C d_B_add_21 ?_
    refine z_bast C d_B_add_22 1 rfl (by have := bN_rg v; omega) [(b, .inr (0, [.ref bb, .int (iI len)])), bA G bb n (uZ F len.toNat (bN v))] (rfl) ?_
    refine z_aload_n C d_B_add_23 0 rfl ?_
    refine z_dup C d_B_add_24 rfl ?_
    refine z_get C f_B_15 d_B_add_25 0 rfl rfl ?_
    refine z_iconst C d_B_add_28 ?_
    refine z_iadd C d_B_add_29 ?_
    refine z_put C f_B_15 ok_B nm_B d_B_add_30 0 rfl rfl rfl rfl (Nat.le_of_ble_eq_true rfl) [(b, .inr (0, [.ref bb, .int (iI (len + 1))])), bA G bb n (uZ F len.toNat (bN v))] rfl ?_
    exact z_vret C K d_B_add_33 () (rfl) (trivial)
set_option maxHeartbeats 4000000 in
set_option maxRecDepth 100000 in
theorem m_B_addBlanks (l : Launch) (G : GG) (sz : Nat) (b : Nat) (bb : Nat) (n : Nat) (len : Int) (F : Nat → Int) (w : Int) (h1 : 0 ≤ len ∧ len + ((List.replicate w.toNat (32 : Int)).length : Int) ≤ n ∧ n ≤ 2147483647 ∧ -2147483648 ≤ w ∧ w ≤ 2147483647) : MetV l G sz y_B_addBlanks c_B_addBlanks 3 ({ frames := 1, cells := 0, slots := 0, locals := 21 } : Room) [.ref b, .int (iI w)] [(b, .inr (0, [.ref bb, .int (iI len)])), bA G bb n F] (fun (u : Unit) => True) (fun (u : Unit) => [(b, .inr (0, [.ref bb, .int (iI (len + ((List.replicate w.toNat (32 : Int)).length : Int)))])), bA G bb n (wr F len (List.replicate w.toNat (32 : Int)))]) := by
  refine MetV.mk (by decide) (Nat.le_of_ble_eq_true rfl) (fun X C K => ?_)
  show Zc G X 3 0 0 [(b, .inr (0, [.ref bb, .int (iI len)])), bA G bb n F] [(0, .ref b), (1, .int (iI w))] 0 []
  rw [List.length_replicate] at h1
  refine z_iconst C d_B_addBlanks_0 ?_
  refine z_istore_n (lv' := [(2, .int (iI 0)), (0, .ref b), (1, .int (iI w))]) C d_B_addBlanks_1 (by decide) rfl ?_
  have loop2 : ∀ (kq : Nat) (k : Int) (q : Int) (E : Nat → Int), (0 ≤ k ∧ k ≤ w.toNat ∧ q = len + k) → (wr E q (List.replicate (w - k).toNat 32) = wr F len (List.replicate w.toNat (32 : Int))) → ((w - k).toNat < kq) → Zc G X 3 0 0 [(b, .inr (0, [.ref bb, .int (iI q)])), bA G bb n E] [(0, .ref b), (1, .int (iI w)), (2, .int (iI k))] 2 [] := by
    intro kq
    induction kq with
    | zero => intro k q E hk hE hm; exact absurd hm (Nat.not_lt_zero _)
    | succ kq ih2 =>
      intro k q E hk hE hm
      -- loop body
      refine z_iload_n C d_B_addBlanks_2 2 rfl ?_
      refine z_iload_n C d_B_addBlanks_3 1 rfl ?_
      refine z_icmp_ge (tgt := 19) C d_B_addBlanks_4 (by decide) (by omega) (by omega) (fun c4 => ?_) (fun c4 => ?_)
      ·
        rw [show (w - k).toNat = 0 by omega] at hE
        have hE2 : E = wr F len (List.replicate w.toNat (32 : Int)) := hE
        exact z_vret C K d_B_addBlanks_19 () (by rw [List.length_replicate, show q = len + (w.toNat : Int) by omega, hE2]) (trivial)
      ·
        refine z_aload_n C d_B_addBlanks_7 0 rfl ?_
        refine z_bipush C d_B_addBlanks_8 (by decide) ?_
        refine z_callv (As := [.int (iI 32)]) (rest := []) (wr := []) (ws' := fun u => [(b, .inr (0, [.ref bb, .int (iI (q + 1))])), bA G bb n (wr E q [32])]) (q0 := 0) C k_B_19 kc_B_add (fun l sz => m_B_add l G sz b bb n q E 32 (by omega)) rfl rfl (Nat.le_of_ble_eq_true rfl) (by decide) d_B_addBlanks_10 rfl rfl [0, 1] [] [0, 1] rfl rfl (by decide) (fun u => rfl) (fun u h10 => ?_)
        show Zc G X 3 0 0 [(b, .inr (0, [.ref bb, .int (iI (q + 1))])), bA G bb n (wr E q [32])] [(0, .ref b), (1, .int (iI w)), (2, .int (iI k))] 13 []
        refine z_iinc (lv' := [(2, .int (iI (k + 1))), (0, .ref b), (1, .int (iI w))]) C d_B_addBlanks_13 2 rfl (by decide) rfl ?_
        refine z_goto (tgt := 2) C d_B_addBlanks_16 (by decide) ?_
        refine z_lv [1, 2, 0] (lv' := [(0, .ref b), (1, .int (iI w)), (2, .int (iI (k + 1)))]) rfl ?_
        exact ih2 _ _ _ (by omega) (by rw [show (w - k).toNat = (w - (k + 1)).toNat + 1 by omega, List.replicate_succ] at hE; exact hE) (by omega)
  refine z_lv [1, 2, 0] (lv' := [(0, .ref b), (1, .int (iI w)), (2, .int (iI 0))]) rfl ?_
  exact loop2 (_ + 1) _ _ _ (by omega) (by rw [Int.sub_zero]) (Nat.lt_succ_self _)
