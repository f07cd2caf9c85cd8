set_option maxHeartbeats 4000000 in
set_option maxRecDepth 100000 in
theorem m_L_isLetter (l : Launch) (G : GG) (sz : Nat) (c : Int) (h1 : -2147483648 ≤ c ∧ c ≤ 2147483647) : MetI l G sz y_L_isLetter c_L_isLetter 1 (some .boolean) ({ frames := 0, cells := 0, slots := 0, locals := 0 } : Room) [.int (iI c)] [] (fun (r : Int32) (u : Unit) => r = iI (ltr c)) (fun (u : Unit) => []) := by
  refine MetI.mk (by decide) (Nat.le_of_ble_eq_true rfl) (fun X C K => ?_)
  show Zc G X 1 0 0 [] [(0, .int (iI c))] 0 []
  refine z_iload_n C d_L_isLetter_0 0 rfl ?_
  refine z_bipush C d_L_isLetter_1 (by decide) ?_
  refine z_icmp_lt (tgt := 16) C d_L_isLetter_3 (by decide) (by omega) (by omega) (fun c3 => ?_) (fun c3 => ?_)
  ·
    refine z_iconst C d_L_isLetter_16 ?_
    exact z_iret C K d_L_isLetter_17 (by decide) () (rfl) (congrArg iI (by unfold ltr; split <;> omega))
  ·
    refine z_iload_n C d_L_isLetter_6 0 rfl ?_
    refine z_bipush C d_L_isLetter_7 (by decide) ?_
    refine z_icmp_gt (tgt := 16) C d_L_isLetter_9 (by decide) (by omega) (by omega) (fun c9 => ?_) (fun c9 => ?_)
    ·
      refine z_iconst C d_L_isLetter_16 ?_
      exact z_iret C K d_L_isLetter_17 (by decide) () (rfl) (congrArg iI (by unfold ltr; split <;> omega))
    ·
      refine z_iconst C d_L_isLetter_12 ?_
      refine z_goto (tgt := 17) C d_L_isLetter_13 (by decide) ?_
      exact z_iret C K d_L_isLetter_17 (by decide) () (rfl) (congrArg iI (by unfold ltr; split <;> omega))
set_option maxHeartbeats 4000000 in
set_option maxRecDepth 100000 in
theorem m_L_isDigit (l : Launch) (G : GG) (sz : Nat) (c : Int) (h1 : -2147483648 ≤ c ∧ c ≤ 2147483647) : MetI l G sz y_L_isDigit c_L_isDigit 1 (some .boolean) ({ frames := 0, cells := 0, slots := 0, locals := 0 } : Room) [.int (iI c)] [] (fun (r : Int32) (u : Unit) => r = iI (dgt c)) (fun (u : Unit) => []) := by
  refine MetI.mk (by decide) (Nat.le_of_ble_eq_true rfl) (fun X C K => ?_)
  show Zc G X 1 0 0 [] [(0, .int (iI c))] 0 []
  refine z_iload_n C d_L_isDigit_0 0 rfl ?_
  refine z_bipush C d_L_isDigit_1 (by decide) ?_
  refine z_icmp_lt (tgt := 16) C d_L_isDigit_3 (by decide) (by omega) (by omega) (fun c3 => ?_) (fun c3 => ?_)
  ·
    refine z_iconst C d_L_isDigit_16 ?_
    exact z_iret C K d_L_isDigit_17 (by decide) () (rfl) (congrArg iI (by unfold dgt; split <;> omega))
  ·
    refine z_iload_n C d_L_isDigit_6 0 rfl ?_
    refine z_bipush C d_L_isDigit_7 (by decide) ?_
    refine z_icmp_gt (tgt := 16) C d_L_isDigit_9 (by decide) (by omega) (by omega) (fun c9 => ?_) (fun c9 => ?_)
    ·
      refine z_iconst C d_L_isDigit_16 ?_
      exact z_iret C K d_L_isDigit_17 (by decide) () (rfl) (congrArg iI (by unfold dgt; split <;> omega))
    ·
      refine z_iconst C d_L_isDigit_12 ?_
      refine z_goto (tgt := 17) C d_L_isDigit_13 (by decide) ?_
      exact z_iret C K d_L_isDigit_17 (by decide) () (rfl) (congrArg iI (by unfold dgt; split <;> omega))
set_option maxHeartbeats 4000000 in
set_option maxRecDepth 100000 in
theorem m_L_signKind (l : Launch) (G : GG) (sz : Nat) (c : Int) (h1 : -2147483648 ≤ c ∧ c ≤ 2147483647) : MetI l G sz y_L_signKind c_L_signKind 1 (some .int) ({ frames := 0, cells := 0, slots := 0, locals := 0 } : Room) [.int (iI c)] [] (fun (r : Int32) (u : Unit) => r = iI (sgk c)) (fun (u : Unit) => []) := by
  refine MetI.mk (by decide) (Nat.le_of_ble_eq_true rfl) (fun X C K => ?_)
  show Zc G X 1 0 0 [] [(0, .int (iI c))] 0 []
  rcases sgn_cases c with rfl | rfl | rfl | rfl | hcn
  ·
    skip
    refine z_iload_n C d_L_signKind_0 0 rfl ?_
    refine z_lookup (tgt := 48) (off := 47) C d_L_signKind_1 (by decide) (by decide) (by decide) ?_
    refine z_iconst C d_L_signKind_48 ?_
    exact z_iret C K d_L_signKind_49 (rfl) () (rfl) (rfl)
  ·
    skip
    refine z_iload_n C d_L_signKind_0 0 rfl ?_
    refine z_lookup (tgt := 44) (off := 43) C d_L_signKind_1 (by decide) (by decide) (by decide) ?_
    refine z_iconst C d_L_signKind_44 ?_
    exact z_iret C K d_L_signKind_45 (rfl) () (rfl) (rfl)
  ·
    skip
    refine z_iload_n C d_L_signKind_0 0 rfl ?_
    refine z_lookup (tgt := 46) (off := 45) C d_L_signKind_1 (by decide) (by decide) (by decide) ?_
    refine z_iconst C d_L_signKind_46 ?_
    exact z_iret C K d_L_signKind_47 (rfl) () (rfl) (rfl)
  ·
    skip
    refine z_iload_n C d_L_signKind_0 0 rfl ?_
    refine z_lookup (tgt := 50) (off := 49) C d_L_signKind_1 (by decide) (by decide) (by decide) ?_
    refine z_iconst C d_L_signKind_50 ?_
    exact z_iret C K d_L_signKind_51 (rfl) () (rfl) (rfl)
  ·
    skip
    refine z_iload_n C d_L_signKind_0 0 rfl ?_
    refine z_lookup (tgt := 52) (off := 51) C d_L_signKind_1 (by decide) (by rw [iI_toInt (by omega)]; show Op.lookupswitch.offset [(44, 47), (58, 43), (59, 45), (62, 49)] 51 c = _; rw [Op.lookupswitch.offset_cons, if_neg (by omega), Op.lookupswitch.offset_cons, if_neg (by omega), Op.lookupswitch.offset_cons, if_neg (by omega), Op.lookupswitch.offset_cons, if_neg (by omega), Op.lookupswitch.offset_nil]) (by decide) ?_
    refine z_iconst C d_L_signKind_52 ?_
    exact z_iret C K d_L_signKind_53 (rfl) () (rfl) (congrArg iI (by unfold sgk; (repeat' split) <;> omega))
set_option maxHeartbeats 4000000 in
set_option maxRecDepth 100000 in
theorem m_L_restart (l : Launch) (G : GG) (sz : Nat) (aL : Nat) (aT : Nat) (ls : Int) (la : Int) (lk : Int)  : MetV l G sz y_L_restart c_L_restart 1 ({ frames := 0, cells := 0, slots := 0, locals := 0 } : Room) [.ref aL] [(aL, .inr (2, [.ref aT, .int (iI ls), .int (iI la), .int (iI lk)]))] (fun (u : Unit) => True) (fun (u : Unit) => [(aL, .inr (2, [.ref aT, .int (iI 0), .int (iI 0), .int (iI 0)]))]) := by
  refine MetV.mk (by decide) (Nat.le_of_ble_eq_true rfl) (fun X C K => ?_)
  show Zc G X 1 0 0 [(aL, .inr (2, [.ref aT, .int (iI ls), .int (iI la), .int (iI lk)]))] [(0, .ref aL)] 0 []
  refine z_aload_n C d_L_restart_0 0 rfl ?_
  refine z_iconst C d_L_restart_1 ?_
  refine z_put C f_L_15 ok_L nm_L d_L_restart_2 0 rfl rfl rfl rfl (Nat.le_of_ble_eq_true rfl) [(aL, .inr (2, [.ref aT, .int (iI 0), .int (iI la), .int (iI lk)]))] rfl ?_
  refine z_aload_n C d_L_restart_5 0 rfl ?_
  refine z_iconst C d_L_restart_6 ?_
  refine z_put C f_L_19 ok_L nm_L d_L_restart_7 0 rfl rfl rfl rfl (Nat.le_of_ble_eq_true rfl) [(aL, .inr (2, [.ref aT, .int (iI 0), .int (iI 0), .int (iI lk)]))] rfl ?_
  refine z_aload_n C d_L_restart_10 0 rfl ?_
  refine z_iconst C d_L_restart_11 ?_
  refine z_put C f_L_22 ok_L nm_L d_L_restart_12 0 rfl rfl rfl rfl (Nat.le_of_ble_eq_true rfl) [(aL, .inr (2, [.ref aT, .int (iI 0), .int (iI 0), .int (iI 0)]))] rfl ?_
  exact z_vret C K d_L_restart_15 () (rfl) (trivial)
set_option maxHeartbeats 4000000 in
set_option maxRecDepth 100000 in
theorem m_L_spells (l : Launch) (G : GG) (sz : Nat) (aL : Nat) (aT : Nat) (ls : Int) (la : Int) (lk : Int) (aTb : Nat) (tl : Int) (tF : Nat → Int) (si : Nat) (ow : String) (ix : Nat) (tx : String) (hq : sx_L[si]? = some (ow, ix, tx)) (h1 : 0 ≤ ls ∧ ls ≤ la ∧ la ≤ 4096) (hb : byt tF) : MetI l G sz y_L_spells c_L_spells 3 (some .boolean) ({ frames := 4, cells := 0, slots := 0, locals := 85 } : Room) [.ref aL, .ref (G.2.2.1 si)] [(aL, .inr (2, [.ref aT, .int (iI ls), .int (iI la), .int (iI lk)])), (aT, .inr (0, [.ref aTb, .int (iI tl)])), bA G aTb 4096 tF] (fun (r : Int32) (u : Int) => r = iI u ∧ ((u = 1 ∧ seg tF ls.toNat (la - ls).toNat = wl tx) ∨ (u = 0 ∧ ¬ seg tF ls.toNat (la - ls).toNat = wl tx))) (fun (u : Int) => [(aL, .inr (2, [.ref aT, .int (iI ls), .int (iI la), .int (iI lk)])), (aT, .inr (0, [.ref aTb, .int (iI tl)])), bA G aTb 4096 tF]) := by
  refine MetI.mk (by decide) (Nat.le_of_ble_eq_true rfl) (fun X C K => ?_)
  show Zc G X 3 0 0 [(aL, .inr (2, [.ref aT, .int (iI ls), .int (iI la), .int (iI lk)])), (aT, .inr (0, [.ref aTb, .int (iI tl)])), bA G aTb 4096 tF] [(0, .ref aL), (1, .ref (G.2.2.1 si))] 0 []
  have hL : tx.toList.length ≤ 100 := sx_len hq
  refine z_aload_n C d_L_spells_0 0 rfl ?_
  refine z_get C f_L_19 d_L_spells_1 0 rfl rfl ?_
  refine z_aload_n C d_L_spells_4 0 rfl ?_
  refine z_get C f_L_15 d_L_spells_5 0 rfl rfl ?_
  refine z_isub C d_L_spells_8 ?_
  refine z_aload_n C d_L_spells_9 1 rfl ?_
  refine z_calliT (As := []) (rest := [.int (iI (la - ls))]) (wr := [(aL, .inr (2, [.ref aT, .int (iI ls), .int (iI la), .int (iI lk)])), (aT, .inr (0, [.ref aTb, .int (iI tl)])), bA G aTb 4096 tF]) (ws' := fun u => [(aL, .inr (2, [.ref aT, .int (iI ls), .int (iI la), .int (iI lk)])), (aT, .inr (0, [.ref aTb, .int (iI tl)])), bA G aTb 4096 tF]) C k_L_79 kc_jS_length (fun l sz => m_jS_length l G sz si ow ix tx (hq)) rfl rfl (Nat.le_of_ble_eq_true rfl) (by decide) d_L_spells_10 hq [] [0, 1, 2] [0, 1, 2] rfl rfl (by decide) (fun u => rfl) (fun r u h10 => ?_)
  obtain rfl := h10
  show Zc G X 3 0 0 [(aL, .inr (2, [.ref aT, .int (iI ls), .int (iI la), .int (iI lk)])), (aT, .inr (0, [.ref aTb, .int (iI tl)])), bA G aTb 4096 tF] [(0, .ref aL), (1, .ref (G.2.2.1 si))] 13 [.int (iI (tx.toList.length : Int)), .int (iI (la - ls))]
  refine z_icmp_eq (tgt := 18) C d_L_spells_13 (by decide) (by omega) (by omega) (fun c13 => ?_) (fun c13 => ?_)
  ·
    refine z_iconst C d_L_spells_18 ?_
    refine z_istore_n (lv' := [(2, .int (iI 0)), (0, .ref aL), (1, .ref (G.2.2.1 si))]) C d_L_spells_19 (by decide) rfl ?_
    have loop20 : ∀ (kq : Nat) (k : Int), (0 ≤ k ∧ k ≤ tx.toList.length) → (∀ j : Nat, (j : Int) < k → tF (ls + j).toNat = sx_b tx j) → ((tx.toList.length - k).toNat < kq) → Zc G X 3 0 0 [(aL, .inr (2, [.ref aT, .int (iI ls), .int (iI la), .int (iI lk)])), (aT, .inr (0, [.ref aTb, .int (iI tl)])), bA G aTb 4096 tF] [(0, .ref aL), (1, .ref (G.2.2.1 si)), (2, .int (iI k))] 20 [] := by
      intro kq
      induction kq with
      | zero => intro k hk hE hm; exact absurd hm (Nat.not_lt_zero _)
      | succ kq ih20 =>
        intro k hk hE hm
        have hbk := hb (ls + k).toNat
        -- loop body
        refine z_iload_n C d_L_spells_20 2 rfl ?_
        refine z_aload_n C d_L_spells_21 1 rfl ?_
        refine z_calliT (As := []) (rest := [.int (iI k)]) (wr := [(aL, .inr (2, [.ref aT, .int (iI ls), .int (iI la), .int (iI lk)])), (aT, .inr (0, [.ref aTb, .int (iI tl)])), bA G aTb 4096 tF]) (ws' := fun u => [(aL, .inr (2, [.ref aT, .int (iI ls), .int (iI la), .int (iI lk)])), (aT, .inr (0, [.ref aTb, .int (iI tl)])), bA G aTb 4096 tF]) C k_L_79 kc_jS_length (fun l sz => m_jS_length l G sz si ow ix tx (hq)) rfl rfl (Nat.le_of_ble_eq_true rfl) (by decide) d_L_spells_22 hq [] [0, 1, 2] [0, 1, 2] rfl rfl (by decide) (fun u => rfl) (fun r u h22 => ?_)
        obtain rfl := h22
        show Zc G X 3 0 0 [(aL, .inr (2, [.ref aT, .int (iI ls), .int (iI la), .int (iI lk)])), (aT, .inr (0, [.ref aTb, .int (iI tl)])), bA G aTb 4096 tF] [(0, .ref aL), (1, .ref (G.2.2.1 si)), (2, .int (iI k))] 25 [.int (iI (tx.toList.length : Int)), .int (iI k)]
        refine z_icmp_ge (tgt := 58) C d_L_spells_25 (by decide) (by omega) (by omega) (fun c25 => ?_) (fun c25 => ?_)
        ·
          refine z_iconst C d_L_spells_58 ?_
          exact z_iret C K d_L_spells_59 (by decide) 1 (rfl) (show iI 1 = iI 1 ∧ ((1 = 1 ∧ seg tF ls.toNat (la - ls).toNat = wl tx) ∨ (1 = 0 ∧ ¬ seg tF ls.toNat (la - ls).toNat = wl tx)) from ⟨rfl, Or.inl ⟨rfl, by rw [show (la - ls).toNat = tx.toList.length by omega]; exact seg_congr _ _ _ (fun j hj => by rw [show ls.toNat + j = (ls + j).toNat by omega, Nat.zero_add]; exact hE j (by omega))⟩⟩)
        ·
          refine z_aload_n C d_L_spells_28 0 rfl ?_
          refine z_get C f_L_9 d_L_spells_29 0 rfl rfl ?_
          refine z_get C f_L_33 d_L_spells_32 1 rfl rfl ?_
          refine z_aload_n C d_L_spells_35 0 rfl ?_
          refine z_get C f_L_15 d_L_spells_36 0 rfl rfl ?_
          refine z_iload_n C d_L_spells_39 2 rfl ?_
          refine z_iadd C d_L_spells_40 ?_
          refine z_bald C d_L_spells_41 2 rfl (by omega) ?_
          refine z_aload_n C d_L_spells_42 1 rfl ?_
          refine z_iload_n C d_L_spells_43 2 rfl ?_
          refine z_calliT (As := [.int (iI k)]) (rest := [.int (iI (tF ((ls + k).toNat)))]) (wr := [(aL, .inr (2, [.ref aT, .int (iI ls), .int (iI la), .int (iI lk)])), (aT, .inr (0, [.ref aTb, .int (iI tl)])), bA G aTb 4096 tF]) (ws' := fun u => [(aL, .inr (2, [.ref aT, .int (iI ls), .int (iI la), .int (iI lk)])), (aT, .inr (0, [.ref aTb, .int (iI tl)])), bA G aTb 4096 tF]) C k_L_83 kc_jS_charAt (fun l sz => m_jS_charAt l G sz si ow ix tx k (hq) (by omega)) rfl rfl (Nat.le_of_ble_eq_true rfl) (by decide) d_L_spells_44 hq [] [0, 1, 2] [0, 1, 2] rfl rfl (by decide) (fun u => rfl) (fun r u h44 => ?_)
          obtain rfl := h44
          show Zc G X 3 0 0 [(aL, .inr (2, [.ref aT, .int (iI ls), .int (iI la), .int (iI lk)])), (aT, .inr (0, [.ref aTb, .int (iI tl)])), bA G aTb 4096 tF] [(0, .ref aL), (1, .ref (G.2.2.1 si)), (2, .int (iI k))] 47 [.int (iI (sx_b tx k.toNat)), .int (iI (tF ((ls + k).toNat)))]
          refine z_icmp_eq (tgt := 52) C d_L_spells_47 (by decide) (by omega) (by have h9 : 0 ≤ sx_b tx k.toNat ∧ sx_b tx k.toNat < 128 := sx_asc hq k.toNat; omega) (fun c47 => ?_) (fun c47 => ?_)
          ·
            refine z_iinc (lv' := [(2, .int (iI (k + 1))), (0, .ref aL), (1, .ref (G.2.2.1 si))]) C d_L_spells_52 2 rfl (by decide) rfl ?_
            refine z_goto (tgt := 20) C d_L_spells_55 (by decide) ?_
            refine z_lv [1, 2, 0] (lv' := [(0, .ref aL), (1, .ref (G.2.2.1 si)), (2, .int (iI (k + 1)))]) rfl ?_
            exact ih20 _ (by omega) (fun j hj => if e : (j : Int) = k then by rw [show j = k.toNat by omega, show ((k.toNat : Nat) : Int) = k by omega]; exact c47 else hE j (by omega)) (by omega)
          ·
            refine z_iconst C d_L_spells_50 ?_
            exact z_iret C K d_L_spells_51 (by decide) 0 (rfl) (show iI 0 = iI 0 ∧ ((0 = 1 ∧ seg tF ls.toNat (la - ls).toNat = wl tx) ∨ (0 = 0 ∧ ¬ seg tF ls.toNat (la - ls).toNat = wl tx)) from ⟨rfl, Or.inr ⟨rfl, fun z => c47 (by have := congrArg (fun l => l.getD k.toNat 0) z; unfold wl at this; rw [seg_get _ _ _ _ (by omega), seg_get _ _ _ _ (by omega), Nat.zero_add] at this; rw [show (ls + k).toNat = ls.toNat + k.toNat by omega]; exact this)⟩⟩)
    refine z_lv [1, 2, 0] (lv' := [(0, .ref aL), (1, .ref (G.2.2.1 si)), (2, .int (iI 0))]) rfl ?_
    exact loop20 (_ + 1) _ (by omega) (fun j hj => absurd hj (by omega)) (Nat.lt_succ_self _)
  ·
    refine z_iconst C d_L_spells_16 ?_
    exact z_iret C K d_L_spells_17 (by decide) 0 (rfl) (show iI 0 = iI 0 ∧ ((0 = 1 ∧ seg tF ls.toNat (la - ls).toNat = wl tx) ∨ (0 = 0 ∧ ¬ seg tF ls.toNat (la - ls).toNat = wl tx)) from ⟨rfl, Or.inr ⟨rfl, fun z => by have := congrArg List.length z; unfold wl at this; rw [seg_len, seg_len] at this; omega⟩⟩)
set_option maxHeartbeats 4000000 in
set_option maxRecDepth 100000 in
theorem m_L_nameKind (l : Launch) (G : GG) (sz : Nat) (aL : Nat) (aT : Nat) (ls : Int) (la : Int) (lk : Int) (aTb : Nat) (tl : Int) (tF : Nat → Int) (h1 : 0 ≤ ls ∧ ls ≤ la ∧ la ≤ 4096) (hb : byt tF) : MetI l G sz y_L_nameKind c_L_nameKind 1 (some .int) ({ frames := 5, cells := 0, slots := 0, locals := 107 } : Room) [.ref aL] [(aL, .inr (2, [.ref aT, .int (iI ls), .int (iI la), .int (iI lk)])), (aT, .inr (0, [.ref aTb, .int (iI tl)])), bA G aTb 4096 tF] (fun (r : Int32) (u : Unit) => r = iI (nmk (seg tF ls.toNat (la - ls).toNat))) (fun (u : Unit) => [(aL, .inr (2, [.ref aT, .int (iI ls), .int (iI la), .int (iI lk)])), (aT, .inr (0, [.ref aTb, .int (iI tl)])), bA G aTb 4096 tF]) := by
  refine MetI.mk (by decide) (Nat.le_of_ble_eq_true rfl) (fun X C K => ?_)
  show Zc G X 1 0 0 [(aL, .inr (2, [.ref aT, .int (iI ls), .int (iI la), .int (iI lk)])), (aT, .inr (0, [.ref aTb, .int (iI tl)])), bA G aTb 4096 tF] [(0, .ref aL)] 0 []
  refine z_aload_n C d_L_nameKind_0 0 rfl ?_
  refine z_ldcS C d_L_nameKind_1 (i := 15) rfl ?_
  refine z_calli (As := [.ref (G.2.2.1 15)]) (rest := []) (wr := []) (ws' := fun u => [(aL, .inr (2, [.ref aT, .int (iI ls), .int (iI la), .int (iI lk)])), (aT, .inr (0, [.ref aTb, .int (iI tl)])), bA G aTb 4096 tF]) (q0 := 0) C k_L_59 kc_L_spells (fun l sz => m_L_spells l G sz aL aT ls la lk aTb tl tF 15 R_L 57 ("state") (rfl) (by omega) (by omega)) rfl rfl (Nat.le_of_ble_eq_true rfl) (by decide) d_L_nameKind_3 rfl rfl [0, 1, 2] [] [0, 1, 2] rfl rfl (by decide) (fun u => rfl) (fun r u h3 => ?_)
  obtain ⟨rr_3, rfl⟩ : ∃ z, z = u := ⟨_, rfl⟩
  obtain ⟨rfl, he_3⟩ := h3
  have he_3 : (rr_3 = 1 ∧ seg tF ls.toNat (la - ls).toNat = wl ("state")) ∨ (rr_3 = 0 ∧ ¬ seg tF ls.toNat (la - ls).toNat = wl ("state")) := he_3
  show Zc G X 1 0 0 [(aL, .inr (2, [.ref aT, .int (iI ls), .int (iI la), .int (iI lk)])), (aT, .inr (0, [.ref aTb, .int (iI tl)])), bA G aTb 4096 tF] [(0, .ref aL)] 6 [.int (iI rr_3)]
  rcases he_3 with ⟨rfl, e0⟩ | ⟨rfl, e0⟩
  ·
    skip
    refine z_if_eq (tgt := 12) C d_L_nameKind_6 (by decide) (by omega) (fun c6 => ?_) (fun c6 => ?_)
    · exact absurd c6 (by omega)
    ·
      refine z_bipush C d_L_nameKind_9 (by decide) ?_
      exact z_iret C K d_L_nameKind_11 (rfl) () (rfl) (congrArg iI (by unfold nmk; rw [if_pos e0]))
  ·
    skip
    refine z_if_eq (tgt := 12) C d_L_nameKind_6 (by decide) (by omega) (fun c6 => ?_) (fun c6 => ?_)
    ·
      refine z_aload_n C d_L_nameKind_12 0 rfl ?_
      refine z_ldcS C d_L_nameKind_13 (i := 16) rfl ?_
      refine z_calli (As := [.ref (G.2.2.1 16)]) (rest := []) (wr := []) (ws' := fun u => [(aL, .inr (2, [.ref aT, .int (iI ls), .int (iI la), .int (iI lk)])), (aT, .inr (0, [.ref aTb, .int (iI tl)])), bA G aTb 4096 tF]) (q0 := 0) C k_L_59 kc_L_spells (fun l sz => m_L_spells l G sz aL aT ls la lk aTb tl tF 16 R_L 63 ("ask") (rfl) (by omega) (by omega)) rfl rfl (Nat.le_of_ble_eq_true rfl) (by decide) d_L_nameKind_15 rfl rfl [0, 1, 2] [] [0, 1, 2] rfl rfl (by decide) (fun u => rfl) (fun r u h15 => ?_)
      obtain ⟨rr_15, rfl⟩ : ∃ z, z = u := ⟨_, rfl⟩
      obtain ⟨rfl, he_15⟩ := h15
      have he_15 : (rr_15 = 1 ∧ seg tF ls.toNat (la - ls).toNat = wl ("ask")) ∨ (rr_15 = 0 ∧ ¬ seg tF ls.toNat (la - ls).toNat = wl ("ask")) := he_15
      show Zc G X 1 0 0 [(aL, .inr (2, [.ref aT, .int (iI ls), .int (iI la), .int (iI lk)])), (aT, .inr (0, [.ref aTb, .int (iI tl)])), bA G aTb 4096 tF] [(0, .ref aL)] 18 [.int (iI rr_15)]
      rcases he_15 with ⟨rfl, e1⟩ | ⟨rfl, e1⟩
      ·
        skip
        refine z_if_eq (tgt := 24) C d_L_nameKind_18 (by decide) (by omega) (fun c18 => ?_) (fun c18 => ?_)
        · exact absurd c18 (by omega)
        ·
          refine z_bipush C d_L_nameKind_21 (by decide) ?_
          exact z_iret C K d_L_nameKind_23 (rfl) () (rfl) (congrArg iI (by unfold nmk; rw [if_neg e0, if_pos e1]))
      ·
        skip
        refine z_if_eq (tgt := 24) C d_L_nameKind_18 (by decide) (by omega) (fun c18 => ?_) (fun c18 => ?_)
        ·
          refine z_aload_n C d_L_nameKind_24 0 rfl ?_
          refine z_ldcS C d_L_nameKind_25 (i := 17) rfl ?_
          refine z_calli (As := [.ref (G.2.2.1 17)]) (rest := []) (wr := []) (ws' := fun u => [(aL, .inr (2, [.ref aT, .int (iI ls), .int (iI la), .int (iI lk)])), (aT, .inr (0, [.ref aTb, .int (iI tl)])), bA G aTb 4096 tF]) (q0 := 0) C k_L_59 kc_L_spells (fun l sz => m_L_spells l G sz aL aT ls la lk aTb tl tF 17 R_L 65 ("message") (rfl) (by omega) (by omega)) rfl rfl (Nat.le_of_ble_eq_true rfl) (by decide) d_L_nameKind_27 rfl rfl [0, 1, 2] [] [0, 1, 2] rfl rfl (by decide) (fun u => rfl) (fun r u h27 => ?_)
          obtain ⟨rr_27, rfl⟩ : ∃ z, z = u := ⟨_, rfl⟩
          obtain ⟨rfl, he_27⟩ := h27
          have he_27 : (rr_27 = 1 ∧ seg tF ls.toNat (la - ls).toNat = wl ("message")) ∨ (rr_27 = 0 ∧ ¬ seg tF ls.toNat (la - ls).toNat = wl ("message")) := he_27
          show Zc G X 1 0 0 [(aL, .inr (2, [.ref aT, .int (iI ls), .int (iI la), .int (iI lk)])), (aT, .inr (0, [.ref aTb, .int (iI tl)])), bA G aTb 4096 tF] [(0, .ref aL)] 30 [.int (iI rr_27)]
          rcases he_27 with ⟨rfl, e2⟩ | ⟨rfl, e2⟩
          ·
            skip
            refine z_if_eq (tgt := 36) C d_L_nameKind_30 (by decide) (by omega) (fun c30 => ?_) (fun c30 => ?_)
            · exact absurd c30 (by omega)
            ·
              refine z_bipush C d_L_nameKind_33 (by decide) ?_
              exact z_iret C K d_L_nameKind_35 (rfl) () (rfl) (congrArg iI (by unfold nmk; rw [if_neg e0, if_neg e1, if_pos e2]))
          ·
            skip
            refine z_if_eq (tgt := 36) C d_L_nameKind_30 (by decide) (by omega) (fun c30 => ?_) (fun c30 => ?_)
            ·
              refine z_aload_n C d_L_nameKind_36 0 rfl ?_
              refine z_ldcS C d_L_nameKind_37 (i := 18) rfl ?_
              refine z_calli (As := [.ref (G.2.2.1 18)]) (rest := []) (wr := []) (ws' := fun u => [(aL, .inr (2, [.ref aT, .int (iI ls), .int (iI la), .int (iI lk)])), (aT, .inr (0, [.ref aTb, .int (iI tl)])), bA G aTb 4096 tF]) (q0 := 0) C k_L_59 kc_L_spells (fun l sz => m_L_spells l G sz aL aT ls la lk aTb tl tF 18 R_L 67 ("on") (rfl) (by omega) (by omega)) rfl rfl (Nat.le_of_ble_eq_true rfl) (by decide) d_L_nameKind_39 rfl rfl [0, 1, 2] [] [0, 1, 2] rfl rfl (by decide) (fun u => rfl) (fun r u h39 => ?_)
              obtain ⟨rr_39, rfl⟩ : ∃ z, z = u := ⟨_, rfl⟩
              obtain ⟨rfl, he_39⟩ := h39
              have he_39 : (rr_39 = 1 ∧ seg tF ls.toNat (la - ls).toNat = wl ("on")) ∨ (rr_39 = 0 ∧ ¬ seg tF ls.toNat (la - ls).toNat = wl ("on")) := he_39
              show Zc G X 1 0 0 [(aL, .inr (2, [.ref aT, .int (iI ls), .int (iI la), .int (iI lk)])), (aT, .inr (0, [.ref aTb, .int (iI tl)])), bA G aTb 4096 tF] [(0, .ref aL)] 42 [.int (iI rr_39)]
              rcases he_39 with ⟨rfl, e3⟩ | ⟨rfl, e3⟩
              ·
                skip
                refine z_if_eq (tgt := 48) C d_L_nameKind_42 (by decide) (by omega) (fun c42 => ?_) (fun c42 => ?_)
                · exact absurd c42 (by omega)
                ·
                  refine z_bipush C d_L_nameKind_45 (by decide) ?_
                  exact z_iret C K d_L_nameKind_47 (rfl) () (rfl) (congrArg iI (by unfold nmk; rw [if_neg e0, if_neg e1, if_neg e2, if_pos e3]))
              ·
                skip
                refine z_if_eq (tgt := 48) C d_L_nameKind_42 (by decide) (by omega) (fun c42 => ?_) (fun c42 => ?_)
                ·
                  refine z_aload_n C d_L_nameKind_48 0 rfl ?_
                  refine z_ldcS C d_L_nameKind_49 (i := 19) rfl ?_
                  refine z_calli (As := [.ref (G.2.2.1 19)]) (rest := []) (wr := []) (ws' := fun u => [(aL, .inr (2, [.ref aT, .int (iI ls), .int (iI la), .int (iI lk)])), (aT, .inr (0, [.ref aTb, .int (iI tl)])), bA G aTb 4096 tF]) (q0 := 0) C k_L_59 kc_L_spells (fun l sz => m_L_spells l G sz aL aT ls la lk aTb tl tF 19 R_L 69 ("never") (rfl) (by omega) (by omega)) rfl rfl (Nat.le_of_ble_eq_true rfl) (by decide) d_L_nameKind_51 rfl rfl [0, 1, 2] [] [0, 1, 2] rfl rfl (by decide) (fun u => rfl) (fun r u h51 => ?_)
                  obtain ⟨rr_51, rfl⟩ : ∃ z, z = u := ⟨_, rfl⟩
                  obtain ⟨rfl, he_51⟩ := h51
                  have he_51 : (rr_51 = 1 ∧ seg tF ls.toNat (la - ls).toNat = wl ("never")) ∨ (rr_51 = 0 ∧ ¬ seg tF ls.toNat (la - ls).toNat = wl ("never")) := he_51
                  show Zc G X 1 0 0 [(aL, .inr (2, [.ref aT, .int (iI ls), .int (iI la), .int (iI lk)])), (aT, .inr (0, [.ref aTb, .int (iI tl)])), bA G aTb 4096 tF] [(0, .ref aL)] 54 [.int (iI rr_51)]
                  rcases he_51 with ⟨rfl, e4⟩ | ⟨rfl, e4⟩
                  ·
                    skip
                    refine z_if_eq (tgt := 60) C d_L_nameKind_54 (by decide) (by omega) (fun c54 => ?_) (fun c54 => ?_)
                    · exact absurd c54 (by omega)
                    ·
                      refine z_bipush C d_L_nameKind_57 (by decide) ?_
                      exact z_iret C K d_L_nameKind_59 (rfl) () (rfl) (congrArg iI (by unfold nmk; rw [if_neg e0, if_neg e1, if_neg e2, if_neg e3, if_pos e4]))
                  ·
                    skip
                    refine z_if_eq (tgt := 60) C d_L_nameKind_54 (by decide) (by omega) (fun c54 => ?_) (fun c54 => ?_)
                    ·
                      refine z_aload_n C d_L_nameKind_60 0 rfl ?_
                      refine z_ldcS C d_L_nameKind_61 (i := 20) rfl ?_
                      refine z_calli (As := [.ref (G.2.2.1 20)]) (rest := []) (wr := []) (ws' := fun u => [(aL, .inr (2, [.ref aT, .int (iI ls), .int (iI la), .int (iI lk)])), (aT, .inr (0, [.ref aTb, .int (iI tl)])), bA G aTb 4096 tF]) (q0 := 0) C k_L_59 kc_L_spells (fun l sz => m_L_spells l G sz aL aT ls la lk aTb tl tF 20 R_L 71 ("first") (rfl) (by omega) (by omega)) rfl rfl (Nat.le_of_ble_eq_true rfl) (by decide) d_L_nameKind_63 rfl rfl [0, 1, 2] [] [0, 1, 2] rfl rfl (by decide) (fun u => rfl) (fun r u h63 => ?_)
                      obtain ⟨rr_63, rfl⟩ : ∃ z, z = u := ⟨_, rfl⟩
                      obtain ⟨rfl, he_63⟩ := h63
                      have he_63 : (rr_63 = 1 ∧ seg tF ls.toNat (la - ls).toNat = wl ("first")) ∨ (rr_63 = 0 ∧ ¬ seg tF ls.toNat (la - ls).toNat = wl ("first")) := he_63
                      show Zc G X 1 0 0 [(aL, .inr (2, [.ref aT, .int (iI ls), .int (iI la), .int (iI lk)])), (aT, .inr (0, [.ref aTb, .int (iI tl)])), bA G aTb 4096 tF] [(0, .ref aL)] 66 [.int (iI rr_63)]
                      rcases he_63 with ⟨rfl, e5⟩ | ⟨rfl, e5⟩
                      ·
                        skip
                        refine z_if_eq (tgt := 72) C d_L_nameKind_66 (by decide) (by omega) (fun c66 => ?_) (fun c66 => ?_)
                        · exact absurd c66 (by omega)
                        ·
                          refine z_bipush C d_L_nameKind_69 (by decide) ?_
                          exact z_iret C K d_L_nameKind_71 (rfl) () (rfl) (congrArg iI (by unfold nmk; rw [if_neg e0, if_neg e1, if_neg e2, if_neg e3, if_neg e4, if_pos e5]))
                      ·
                        skip
                        refine z_if_eq (tgt := 72) C d_L_nameKind_66 (by decide) (by omega) (fun c66 => ?_) (fun c66 => ?_)
                        ·
                          refine z_aload_n C d_L_nameKind_72 0 rfl ?_
                          refine z_ldcS C d_L_nameKind_73 (i := 21) rfl ?_
                          refine z_calli (As := [.ref (G.2.2.1 21)]) (rest := []) (wr := []) (ws' := fun u => [(aL, .inr (2, [.ref aT, .int (iI ls), .int (iI la), .int (iI lk)])), (aT, .inr (0, [.ref aTb, .int (iI tl)])), bA G aTb 4096 tF]) (q0 := 0) C k_L_59 kc_L_spells (fun l sz => m_L_spells l G sz aL aT ls la lk aTb tl tF 21 R_L 73 ("send") (rfl) (by omega) (by omega)) rfl rfl (Nat.le_of_ble_eq_true rfl) (by decide) d_L_nameKind_75 rfl rfl [0, 1, 2] [] [0, 1, 2] rfl rfl (by decide) (fun u => rfl) (fun r u h75 => ?_)
                          obtain ⟨rr_75, rfl⟩ : ∃ z, z = u := ⟨_, rfl⟩
                          obtain ⟨rfl, he_75⟩ := h75
                          have he_75 : (rr_75 = 1 ∧ seg tF ls.toNat (la - ls).toNat = wl ("send")) ∨ (rr_75 = 0 ∧ ¬ seg tF ls.toNat (la - ls).toNat = wl ("send")) := he_75
                          show Zc G X 1 0 0 [(aL, .inr (2, [.ref aT, .int (iI ls), .int (iI la), .int (iI lk)])), (aT, .inr (0, [.ref aTb, .int (iI tl)])), bA G aTb 4096 tF] [(0, .ref aL)] 78 [.int (iI rr_75)]
                          rcases he_75 with ⟨rfl, e6⟩ | ⟨rfl, e6⟩
                          ·
                            skip
                            refine z_if_eq (tgt := 84) C d_L_nameKind_78 (by decide) (by omega) (fun c78 => ?_) (fun c78 => ?_)
                            · exact absurd c78 (by omega)
                            ·
                              refine z_bipush C d_L_nameKind_81 (by decide) ?_
                              exact z_iret C K d_L_nameKind_83 (rfl) () (rfl) (congrArg iI (by unfold nmk; rw [if_neg e0, if_neg e1, if_neg e2, if_neg e3, if_neg e4, if_neg e5, if_pos e6]))
                          ·
                            skip
                            refine z_if_eq (tgt := 84) C d_L_nameKind_78 (by decide) (by omega) (fun c78 => ?_) (fun c78 => ?_)
                            ·
                              refine z_aload_n C d_L_nameKind_84 0 rfl ?_
                              refine z_ldcS C d_L_nameKind_85 (i := 22) rfl ?_
                              refine z_calli (As := [.ref (G.2.2.1 22)]) (rest := []) (wr := []) (ws' := fun u => [(aL, .inr (2, [.ref aT, .int (iI ls), .int (iI la), .int (iI lk)])), (aT, .inr (0, [.ref aTb, .int (iI tl)])), bA G aTb 4096 tF]) (q0 := 0) C k_L_59 kc_L_spells (fun l sz => m_L_spells l G sz aL aT ls la lk aTb tl tF 22 R_L 75 ("take") (rfl) (by omega) (by omega)) rfl rfl (Nat.le_of_ble_eq_true rfl) (by decide) d_L_nameKind_87 rfl rfl [0, 1, 2] [] [0, 1, 2] rfl rfl (by decide) (fun u => rfl) (fun r u h87 => ?_)
                              obtain ⟨rr_87, rfl⟩ : ∃ z, z = u := ⟨_, rfl⟩
                              obtain ⟨rfl, he_87⟩ := h87
                              have he_87 : (rr_87 = 1 ∧ seg tF ls.toNat (la - ls).toNat = wl ("take")) ∨ (rr_87 = 0 ∧ ¬ seg tF ls.toNat (la - ls).toNat = wl ("take")) := he_87
                              show Zc G X 1 0 0 [(aL, .inr (2, [.ref aT, .int (iI ls), .int (iI la), .int (iI lk)])), (aT, .inr (0, [.ref aTb, .int (iI tl)])), bA G aTb 4096 tF] [(0, .ref aL)] 90 [.int (iI rr_87)]
                              rcases he_87 with ⟨rfl, e7⟩ | ⟨rfl, e7⟩
                              ·
                                skip
                                refine z_if_eq (tgt := 96) C d_L_nameKind_90 (by decide) (by omega) (fun c90 => ?_) (fun c90 => ?_)
                                · exact absurd c90 (by omega)
                                ·
                                  refine z_bipush C d_L_nameKind_93 (by decide) ?_
                                  exact z_iret C K d_L_nameKind_95 (rfl) () (rfl) (congrArg iI (by unfold nmk; rw [if_neg e0, if_neg e1, if_neg e2, if_neg e3, if_neg e4, if_neg e5, if_neg e6, if_pos e7]))
                              ·
                                skip
                                refine z_if_eq (tgt := 96) C d_L_nameKind_90 (by decide) (by omega) (fun c90 => ?_) (fun c90 => ?_)
                                ·
                                  refine z_aload_n C d_L_nameKind_96 0 rfl ?_
                                  refine z_ldcS C d_L_nameKind_97 (i := 23) rfl ?_
                                  refine z_calli (As := [.ref (G.2.2.1 23)]) (rest := []) (wr := []) (ws' := fun u => [(aL, .inr (2, [.ref aT, .int (iI ls), .int (iI la), .int (iI lk)])), (aT, .inr (0, [.ref aTb, .int (iI tl)])), bA G aTb 4096 tF]) (q0 := 0) C k_L_59 kc_L_spells (fun l sz => m_L_spells l G sz aL aT ls la lk aTb tl tF 23 R_L 77 ("keep") (rfl) (by omega) (by omega)) rfl rfl (Nat.le_of_ble_eq_true rfl) (by decide) d_L_nameKind_99 rfl rfl [0, 1, 2] [] [0, 1, 2] rfl rfl (by decide) (fun u => rfl) (fun r u h99 => ?_)
                                  obtain ⟨rr_99, rfl⟩ : ∃ z, z = u := ⟨_, rfl⟩
                                  obtain ⟨rfl, he_99⟩ := h99
                                  have he_99 : (rr_99 = 1 ∧ seg tF ls.toNat (la - ls).toNat = wl ("keep")) ∨ (rr_99 = 0 ∧ ¬ seg tF ls.toNat (la - ls).toNat = wl ("keep")) := he_99
                                  show Zc G X 1 0 0 [(aL, .inr (2, [.ref aT, .int (iI ls), .int (iI la), .int (iI lk)])), (aT, .inr (0, [.ref aTb, .int (iI tl)])), bA G aTb 4096 tF] [(0, .ref aL)] 102 [.int (iI rr_99)]
                                  rcases he_99 with ⟨rfl, e8⟩ | ⟨rfl, e8⟩
                                  ·
                                    skip
                                    refine z_if_eq (tgt := 108) C d_L_nameKind_102 (by decide) (by omega) (fun c102 => ?_) (fun c102 => ?_)
                                    · exact absurd c102 (by omega)
                                    ·
                                      refine z_bipush C d_L_nameKind_105 (by decide) ?_
                                      exact z_iret C K d_L_nameKind_107 (rfl) () (rfl) (congrArg iI (by unfold nmk; rw [if_neg e0, if_neg e1, if_neg e2, if_neg e3, if_neg e4, if_neg e5, if_neg e6, if_neg e7, if_pos e8]))
                                  ·
                                    skip
                                    refine z_if_eq (tgt := 108) C d_L_nameKind_102 (by decide) (by omega) (fun c102 => ?_) (fun c102 => ?_)
                                    ·
                                      refine z_bipush C d_L_nameKind_108 (by decide) ?_
                                      exact z_iret C K d_L_nameKind_110 (rfl) () (rfl) (congrArg iI (by unfold nmk; rw [if_neg e0, if_neg e1, if_neg e2, if_neg e3, if_neg e4, if_neg e5, if_neg e6, if_neg e7, if_neg e8]))
                                    · exact absurd c102 (by omega)
                                · exact absurd c90 (by omega)
                            · exact absurd c78 (by omega)
                        · exact absurd c66 (by omega)
                    · exact absurd c54 (by omega)
                · exact absurd c42 (by omega)
            · exact absurd c30 (by omega)
        · exact absurd c18 (by omega)
    · exact absurd c6 (by omega)
set_option maxHeartbeats 4000000 in
set_option maxRecDepth 100000 in
theorem m_L_skipName (l : Launch) (G : GG) (sz : Nat) (aL : Nat) (aT : Nat) (ls : Int) (la : Int) (lk : Int) (aTb : Nat) (tl : Int) (tF : Nat → Int) (h1 : 0 ≤ la ∧ la ≤ tl ∧ tl ≤ 4096) (hb : byt tF) : MetV l G sz y_L_skipName c_L_skipName 1 ({ frames := 1, cells := 0, slots := 0, locals := 20 } : Room) [.ref aL] [(aL, .inr (2, [.ref aT, .int (iI ls), .int (iI la), .int (iI lk)])), (aT, .inr (0, [.ref aTb, .int (iI tl)])), bA G aTb 4096 tF] (fun (u : Unit) => True) (fun (u : Unit) => [(aL, .inr (2, [.ref aT, .int (iI ls), .int (iI (skN tF (tl - la).toNat la)), .int (iI lk)])), (aT, .inr (0, [.ref aTb, .int (iI tl)])), bA G aTb 4096 tF]) := by
  refine MetV.mk (by decide) (Nat.le_of_ble_eq_true rfl) (fun X C K => ?_)
  show Zc G X 1 0 0 [(aL, .inr (2, [.ref aT, .int (iI ls), .int (iI la), .int (iI lk)])), (aT, .inr (0, [.ref aTb, .int (iI tl)])), bA G aTb 4096 tF] [(0, .ref aL)] 0 []
  have loop0 : ∀ (kq : Nat) (q : Int), (0 ≤ q ∧ q ≤ tl) → (skN tF (tl - q).toNat q = skN tF (tl - la).toNat la) → ((tl - q).toNat < kq) → Zc G X 1 0 0 [(aL, .inr (2, [.ref aT, .int (iI ls), .int (iI q), .int (iI lk)])), (aT, .inr (0, [.ref aTb, .int (iI tl)])), bA G aTb 4096 tF] [(0, .ref aL)] 0 [] := by
    intro kq
    induction kq with
    | zero => intro q hk hE hm; exact absurd hm (Nat.not_lt_zero _)
    | succ kq ih0 =>
      intro q hk hE hm
      have hbq := hb q.toNat
      -- loop body
      refine z_aload_n C d_L_skipName_0 0 rfl ?_
      refine z_get C f_L_19 d_L_skipName_1 0 rfl rfl ?_
      refine z_aload_n C d_L_skipName_4 0 rfl ?_
      refine z_get C f_L_9 d_L_skipName_5 0 rfl rfl ?_
      refine z_get C f_L_28 d_L_skipName_8 1 rfl rfl ?_
      refine z_icmp_ge (tgt := 63) C d_L_skipName_11 (by decide) (by omega) (by omega) (fun c11 => ?_) (fun c11 => ?_)
      ·
        have e2 : q = skN tF (tl - la).toNat la := by rw [← hE]; first | (rw [show (tl - q).toNat = 0 by omega]; rfl) | (rw [skN_step tF (by omega), if_neg (by omega)])
        exact z_vret C K d_L_skipName_63 () (by rw [← e2]) (trivial)
      ·
        refine z_aload_n C d_L_skipName_14 0 rfl ?_
        refine z_get C f_L_9 d_L_skipName_15 0 rfl rfl ?_
        refine z_get C f_L_33 d_L_skipName_18 1 rfl rfl ?_
        refine z_aload_n C d_L_skipName_21 0 rfl ?_
        refine z_get C f_L_19 d_L_skipName_22 0 rfl rfl ?_
        refine z_bald C d_L_skipName_25 2 rfl (by omega) ?_
        refine z_calliS (As := [.int (iI (tF q.toNat))]) (rest := []) (wr := [(aL, .inr (2, [.ref aT, .int (iI ls), .int (iI q), .int (iI lk)])), (aT, .inr (0, [.ref aTb, .int (iI tl)])), bA G aTb 4096 tF]) (ws' := fun u => [(aL, .inr (2, [.ref aT, .int (iI ls), .int (iI q), .int (iI lk)])), (aT, .inr (0, [.ref aTb, .int (iI tl)])), bA G aTb 4096 tF]) C k_L_37 kc_L_isLetter (fun l sz => m_L_isLetter l G sz (tF q.toNat) (by omega)) rfl rfl (Nat.le_of_ble_eq_true rfl) (by decide) d_L_skipName_26 [] [0, 1, 2] [0, 1, 2] rfl rfl (by decide) (fun u => rfl) (fun r u h26 => ?_)
        obtain rfl := h26
        show Zc G X 1 0 0 [(aL, .inr (2, [.ref aT, .int (iI ls), .int (iI q), .int (iI lk)])), (aT, .inr (0, [.ref aTb, .int (iI tl)])), bA G aTb 4096 tF] [(0, .ref aL)] 29 [.int (iI (ltr (tF q.toNat)))]
        refine z_if_ne (tgt := 50) C d_L_skipName_29 (by decide) (by unfold ltr; split <;> omega) (fun c29 => ?_) (fun c29 => ?_)
        ·
          refine z_aload_n C d_L_skipName_50 0 rfl ?_
          refine z_dup C d_L_skipName_51 rfl ?_
          refine z_get C f_L_19 d_L_skipName_52 0 rfl rfl ?_
          refine z_iconst C d_L_skipName_55 ?_
          refine z_iadd C d_L_skipName_56 ?_
          refine z_put C f_L_19 ok_L nm_L d_L_skipName_57 0 rfl rfl rfl rfl (Nat.le_of_ble_eq_true rfl) [(aL, .inr (2, [.ref aT, .int (iI ls), .int (iI (q + 1)), .int (iI lk)])), (aT, .inr (0, [.ref aTb, .int (iI tl)])), bA G aTb 4096 tF] rfl ?_
          refine z_goto (tgt := 0) C d_L_skipName_60 (by decide) ?_
          refine z_lv [0] (lv' := [(0, .ref aL)]) rfl ?_
          exact ih0 _ (by omega) (by rw [skN_step tF (by omega), if_pos (Or.inl (by unfold ltr at c29 ⊢; split at c29 <;> first | rfl | omega))] at hE; exact hE) (by omega)
        ·
          refine z_aload_n C d_L_skipName_32 0 rfl ?_
          refine z_get C f_L_9 d_L_skipName_33 0 rfl rfl ?_
          refine z_get C f_L_33 d_L_skipName_36 1 rfl rfl ?_
          refine z_aload_n C d_L_skipName_39 0 rfl ?_
          refine z_get C f_L_19 d_L_skipName_40 0 rfl rfl ?_
          refine z_bald C d_L_skipName_43 2 rfl (by omega) ?_
          refine z_calliS (As := [.int (iI (tF q.toNat))]) (rest := []) (wr := [(aL, .inr (2, [.ref aT, .int (iI ls), .int (iI q), .int (iI lk)])), (aT, .inr (0, [.ref aTb, .int (iI tl)])), bA G aTb 4096 tF]) (ws' := fun u => [(aL, .inr (2, [.ref aT, .int (iI ls), .int (iI q), .int (iI lk)])), (aT, .inr (0, [.ref aTb, .int (iI tl)])), bA G aTb 4096 tF]) C k_L_54 kc_L_isDigit (fun l sz => m_L_isDigit l G sz (tF q.toNat) (by omega)) rfl rfl (Nat.le_of_ble_eq_true rfl) (by decide) d_L_skipName_44 [] [0, 1, 2] [0, 1, 2] rfl rfl (by decide) (fun u => rfl) (fun r u h44 => ?_)
          obtain rfl := h44
          show Zc G X 1 0 0 [(aL, .inr (2, [.ref aT, .int (iI ls), .int (iI q), .int (iI lk)])), (aT, .inr (0, [.ref aTb, .int (iI tl)])), bA G aTb 4096 tF] [(0, .ref aL)] 47 [.int (iI (dgt (tF q.toNat)))]
          refine z_if_eq (tgt := 63) C d_L_skipName_47 (by decide) (by unfold dgt; split <;> omega) (fun c47 => ?_) (fun c47 => ?_)
          ·
            have e2 : q = skN tF (tl - la).toNat la := by rw [← hE]; first | (rw [show (tl - q).toNat = 0 by omega]; rfl) | (rw [skN_step tF (by omega), if_neg (by omega)])
            exact z_vret C K d_L_skipName_63 () (by rw [← e2]) (trivial)
          ·
            refine z_aload_n C d_L_skipName_50 0 rfl ?_
            refine z_dup C d_L_skipName_51 rfl ?_
            refine z_get C f_L_19 d_L_skipName_52 0 rfl rfl ?_
            refine z_iconst C d_L_skipName_55 ?_
            refine z_iadd C d_L_skipName_56 ?_
            refine z_put C f_L_19 ok_L nm_L d_L_skipName_57 0 rfl rfl rfl rfl (Nat.le_of_ble_eq_true rfl) [(aL, .inr (2, [.ref aT, .int (iI ls), .int (iI (q + 1)), .int (iI lk)])), (aT, .inr (0, [.ref aTb, .int (iI tl)])), bA G aTb 4096 tF] rfl ?_
            refine z_goto (tgt := 0) C d_L_skipName_60 (by decide) ?_
            refine z_lv [0] (lv' := [(0, .ref aL)]) rfl ?_
            exact ih0 _ (by omega) (by rw [skN_step tF (by omega), if_pos (Or.inr (by unfold dgt at c47 ⊢; split at c47 <;> first | rfl | omega))] at hE; exact hE) (by omega)
  refine z_lv [0] (lv' := [(0, .ref aL)]) rfl ?_
  exact loop0 (_ + 1) _ (by omega) (by omega) (Nat.lt_succ_self _)
set_option maxHeartbeats 4000000 in
set_option maxRecDepth 100000 in
theorem m_L_skipWhite (l : Launch) (G : GG) (sz : Nat) (aL : Nat) (aT : Nat) (ls : Int) (la : Int) (lk : Int) (aTb : Nat) (tl : Int) (tF : Nat → Int) (h1 : 0 ≤ la ∧ la ≤ tl ∧ tl ≤ 4096) (hb : byt tF) : MetV l G sz y_L_skipWhite c_L_skipWhite 3 ({ frames := 0, cells := 0, slots := 0, locals := 0 } : Room) [.ref aL] [(aL, .inr (2, [.ref aT, .int (iI ls), .int (iI la), .int (iI lk)])), (aT, .inr (0, [.ref aTb, .int (iI tl)])), bA G aTb 4096 tF] (fun (u : Unit) => True) (fun (u : Unit) => [(aL, .inr (2, [.ref aT, .int (iI ls), .int (iI (lxS tF tl la)), .int (iI lk)])), (aT, .inr (0, [.ref aTb, .int (iI tl)])), bA G aTb 4096 tF]) := by
  refine MetV.mk (by decide) (Nat.le_of_ble_eq_true rfl) (fun X C K => ?_)
  show Zc G X 3 0 0 [(aL, .inr (2, [.ref aT, .int (iI ls), .int (iI la), .int (iI lk)])), (aT, .inr (0, [.ref aTb, .int (iI tl)])), bA G aTb 4096 tF] [(0, .ref aL)] 0 []
  refine z_iconst C d_L_skipWhite_0 ?_
  refine z_istore_n (lv' := [(1, .int (iI 0)), (0, .ref aL)]) C d_L_skipWhite_1 (by decide) rfl ?_
  have loop2 : ∀ (kq : Nat) (q : Int) (f : Int), (0 ≤ q ∧ q ≤ tl ∧ 0 ≤ f ∧ f ≤ 1) → (skW tF (tl - q).toNat f q = skW tF (tl - la).toNat 0 la) → ((tl - q).toNat < kq) → Zc G X 3 0 0 [(aL, .inr (2, [.ref aT, .int (iI ls), .int (iI q), .int (iI lk)])), (aT, .inr (0, [.ref aTb, .int (iI tl)])), bA G aTb 4096 tF] [(0, .ref aL), (1, .int (iI f))] 2 [] := by
    intro kq
    induction kq with
    | zero => intro q f hk hE hm; exact absurd hm (Nat.not_lt_zero _)
    | succ kq ih2 =>
      intro q f hk hE hm
      have hbq := hb q.toNat
      -- loop body
      refine z_aload_n C d_L_skipWhite_2 0 rfl ?_
      refine z_get C f_L_19 d_L_skipWhite_3 0 rfl rfl ?_
      refine z_aload_n C d_L_skipWhite_6 0 rfl ?_
      refine z_get C f_L_9 d_L_skipWhite_7 0 rfl rfl ?_
      refine z_get C f_L_28 d_L_skipWhite_10 1 rfl rfl ?_
      refine z_icmp_ge (tgt := 87) C d_L_skipWhite_13 (by decide) (by omega) (by omega) (fun c13 => ?_) (fun c13 => ?_)
      ·
        have e2 : q = lxS tF tl la := by show q = skW tF (tl - la).toNat 0 la; rw [← hE]; first | (rw [show (tl - q).toNat = 0 by omega]; rfl) | (rw [skW_step tF f (by omega)]; (repeat' split) <;> first | rfl | (exfalso; omega))
        exact z_vret C K d_L_skipWhite_87 () (by rw [← e2]) (trivial)
      ·
        refine z_aload_n C d_L_skipWhite_16 0 rfl ?_
        refine z_get C f_L_9 d_L_skipWhite_17 0 rfl rfl ?_
        refine z_get C f_L_33 d_L_skipWhite_20 1 rfl rfl ?_
        refine z_aload_n C d_L_skipWhite_23 0 rfl ?_
        refine z_get C f_L_19 d_L_skipWhite_24 0 rfl rfl ?_
        refine z_bald C d_L_skipWhite_27 2 rfl (by omega) ?_
        refine z_istore_n (lv' := [(2, .int (iI (tF q.toNat))), (0, .ref aL), (1, .int (iI f))]) C d_L_skipWhite_28 (by decide) rfl ?_
        refine z_iload_n C d_L_skipWhite_29 0 rfl ?_
        refine z_bipush C d_L_skipWhite_30 (by decide) ?_
        refine z_icmp_ne (tgt := 40) C d_L_skipWhite_32 (by decide) (by omega) (by omega) (fun c32 => ?_) (fun c32 => ?_)
        ·
          refine z_iload_n C d_L_skipWhite_40 0 rfl ?_
          refine z_bipush C d_L_skipWhite_41 (by decide) ?_
          refine z_icmp_ne (tgt := 51) C d_L_skipWhite_43 (by decide) (by omega) (by omega) (fun c43 => ?_) (fun c43 => ?_)
          ·
            refine z_iload_n C d_L_skipWhite_51 2 rfl ?_
            refine z_if_ne (tgt := 74) C d_L_skipWhite_52 (by decide) (by omega) (fun c52 => ?_) (fun c52 => ?_)
            ·
              refine z_aload_n C d_L_skipWhite_74 1 rfl ?_
              refine z_dup C d_L_skipWhite_75 rfl ?_
              refine z_get C f_L_19 d_L_skipWhite_76 0 rfl rfl ?_
              refine z_iconst C d_L_skipWhite_79 ?_
              refine z_iadd C d_L_skipWhite_80 ?_
              refine z_put C f_L_19 ok_L nm_L d_L_skipWhite_81 0 rfl rfl rfl rfl (Nat.le_of_ble_eq_true rfl) [(aL, .inr (2, [.ref aT, .int (iI ls), .int (iI (q + 1)), .int (iI lk)])), (aT, .inr (0, [.ref aTb, .int (iI tl)])), bA G aTb 4096 tF] rfl ?_
              refine z_goto (tgt := 2) C d_L_skipWhite_84 (by decide) ?_
              refine z_lv [1, 2] (lv' := [(0, .ref aL), (1, .int (iI f))]) rfl ?_
              exact ih2 _ _ (by omega) (by rw [skW_step tF f (by omega)] at hE; (repeat' split at hE) <;> first | exact hE | (exfalso; omega)) (by omega)
            ·
              refine z_iload_n C d_L_skipWhite_55 0 rfl ?_
              refine z_bipush C d_L_skipWhite_56 (by decide) ?_
              refine z_icmp_eq (tgt := 74) C d_L_skipWhite_58 (by decide) (by omega) (by omega) (fun c58 => ?_) (fun c58 => ?_)
              ·
                refine z_aload_n C d_L_skipWhite_74 1 rfl ?_
                refine z_dup C d_L_skipWhite_75 rfl ?_
                refine z_get C f_L_19 d_L_skipWhite_76 0 rfl rfl ?_
                refine z_iconst C d_L_skipWhite_79 ?_
                refine z_iadd C d_L_skipWhite_80 ?_
                refine z_put C f_L_19 ok_L nm_L d_L_skipWhite_81 0 rfl rfl rfl rfl (Nat.le_of_ble_eq_true rfl) [(aL, .inr (2, [.ref aT, .int (iI ls), .int (iI (q + 1)), .int (iI lk)])), (aT, .inr (0, [.ref aTb, .int (iI tl)])), bA G aTb 4096 tF] rfl ?_
                refine z_goto (tgt := 2) C d_L_skipWhite_84 (by decide) ?_
                refine z_lv [1, 2] (lv' := [(0, .ref aL), (1, .int (iI f))]) rfl ?_
                exact ih2 _ _ (by omega) (by rw [skW_step tF f (by omega)] at hE; (repeat' split at hE) <;> first | exact hE | (exfalso; omega)) (by omega)
              ·
                refine z_iload_n C d_L_skipWhite_61 0 rfl ?_
                refine z_bipush C d_L_skipWhite_62 (by decide) ?_
                refine z_icmp_eq (tgt := 74) C d_L_skipWhite_64 (by decide) (by omega) (by omega) (fun c64 => ?_) (fun c64 => ?_)
                ·
                  refine z_aload_n C d_L_skipWhite_74 1 rfl ?_
                  refine z_dup C d_L_skipWhite_75 rfl ?_
                  refine z_get C f_L_19 d_L_skipWhite_76 0 rfl rfl ?_
                  refine z_iconst C d_L_skipWhite_79 ?_
                  refine z_iadd C d_L_skipWhite_80 ?_
                  refine z_put C f_L_19 ok_L nm_L d_L_skipWhite_81 0 rfl rfl rfl rfl (Nat.le_of_ble_eq_true rfl) [(aL, .inr (2, [.ref aT, .int (iI ls), .int (iI (q + 1)), .int (iI lk)])), (aT, .inr (0, [.ref aTb, .int (iI tl)])), bA G aTb 4096 tF] rfl ?_
                  refine z_goto (tgt := 2) C d_L_skipWhite_84 (by decide) ?_
                  refine z_lv [1, 2] (lv' := [(0, .ref aL), (1, .int (iI f))]) rfl ?_
                  exact ih2 _ _ (by omega) (by rw [skW_step tF f (by omega)] at hE; (repeat' split at hE) <;> first | exact hE | (exfalso; omega)) (by omega)
                ·
                  refine z_iload_n C d_L_skipWhite_67 0 rfl ?_
                  refine z_bipush C d_L_skipWhite_68 (by decide) ?_
                  refine z_icmp_eq (tgt := 74) C d_L_skipWhite_70 (by decide) (by omega) (by omega) (fun c70 => ?_) (fun c70 => ?_)
                  ·
                    refine z_aload_n C d_L_skipWhite_74 1 rfl ?_
                    refine z_dup C d_L_skipWhite_75 rfl ?_
                    refine z_get C f_L_19 d_L_skipWhite_76 0 rfl rfl ?_
                    refine z_iconst C d_L_skipWhite_79 ?_
                    refine z_iadd C d_L_skipWhite_80 ?_
                    refine z_put C f_L_19 ok_L nm_L d_L_skipWhite_81 0 rfl rfl rfl rfl (Nat.le_of_ble_eq_true rfl) [(aL, .inr (2, [.ref aT, .int (iI ls), .int (iI (q + 1)), .int (iI lk)])), (aT, .inr (0, [.ref aTb, .int (iI tl)])), bA G aTb 4096 tF] rfl ?_
                    refine z_goto (tgt := 2) C d_L_skipWhite_84 (by decide) ?_
                    refine z_lv [1, 2] (lv' := [(0, .ref aL), (1, .int (iI f))]) rfl ?_
                    exact ih2 _ _ (by omega) (by rw [skW_step tF f (by omega)] at hE; (repeat' split at hE) <;> first | exact hE | (exfalso; omega)) (by omega)
                  ·
                    have e2 : q = lxS tF tl la := by show q = skW tF (tl - la).toNat 0 la; rw [← hE]; first | (rw [show (tl - q).toNat = 0 by omega]; rfl) | (rw [skW_step tF f (by omega)]; (repeat' split) <;> first | rfl | (exfalso; omega))
                    exact z_vret C K d_L_skipWhite_73 () (by rw [← e2]) (trivial)
          ·
            refine z_iconst C d_L_skipWhite_46 ?_
            refine z_istore_n (lv' := [(1, .int (iI 1)), (2, .int (iI (tF q.toNat))), (0, .ref aL)]) C d_L_skipWhite_47 (by decide) rfl ?_
            refine z_goto (tgt := 74) C d_L_skipWhite_48 (by decide) ?_
            refine z_aload_n C d_L_skipWhite_74 2 rfl ?_
            refine z_dup C d_L_skipWhite_75 rfl ?_
            refine z_get C f_L_19 d_L_skipWhite_76 0 rfl rfl ?_
            refine z_iconst C d_L_skipWhite_79 ?_
            refine z_iadd C d_L_skipWhite_80 ?_
            refine z_put C f_L_19 ok_L nm_L d_L_skipWhite_81 0 rfl rfl rfl rfl (Nat.le_of_ble_eq_true rfl) [(aL, .inr (2, [.ref aT, .int (iI ls), .int (iI (q + 1)), .int (iI lk)])), (aT, .inr (0, [.ref aTb, .int (iI tl)])), bA G aTb 4096 tF] rfl ?_
            refine z_goto (tgt := 2) C d_L_skipWhite_84 (by decide) ?_
            refine z_lv [2, 0] (lv' := [(0, .ref aL), (1, .int (iI 1))]) rfl ?_
            exact ih2 _ _ (by omega) (by rw [skW_step tF f (by omega)] at hE; (repeat' split at hE) <;> first | exact hE | (exfalso; omega)) (by omega)
        ·
          refine z_iconst C d_L_skipWhite_35 ?_
          refine z_istore_n (lv' := [(1, .int (iI 0)), (2, .int (iI (tF q.toNat))), (0, .ref aL)]) C d_L_skipWhite_36 (by decide) rfl ?_
          refine z_goto (tgt := 74) C d_L_skipWhite_37 (by decide) ?_
          refine z_aload_n C d_L_skipWhite_74 2 rfl ?_
          refine z_dup C d_L_skipWhite_75 rfl ?_
          refine z_get C f_L_19 d_L_skipWhite_76 0 rfl rfl ?_
          refine z_iconst C d_L_skipWhite_79 ?_
          refine z_iadd C d_L_skipWhite_80 ?_
          refine z_put C f_L_19 ok_L nm_L d_L_skipWhite_81 0 rfl rfl rfl rfl (Nat.le_of_ble_eq_true rfl) [(aL, .inr (2, [.ref aT, .int (iI ls), .int (iI (q + 1)), .int (iI lk)])), (aT, .inr (0, [.ref aTb, .int (iI tl)])), bA G aTb 4096 tF] rfl ?_
          refine z_goto (tgt := 2) C d_L_skipWhite_84 (by decide) ?_
          refine z_lv [2, 0] (lv' := [(0, .ref aL), (1, .int (iI 0))]) rfl ?_
          exact ih2 _ _ (by omega) (by rw [skW_step tF f (by omega)] at hE; (repeat' split at hE) <;> first | exact hE | (exfalso; omega)) (by omega)
  refine z_lv [1, 0] (lv' := [(0, .ref aL), (1, .int (iI 0))]) rfl ?_
  exact loop2 (_ + 1) _ _ (by omega) (by omega) (Nat.lt_succ_self _)
set_option maxHeartbeats 4000000 in
set_option maxRecDepth 100000 in
theorem m_L_advance (l : Launch) (G : GG) (sz : Nat) (aL : Nat) (aT : Nat) (ls : Int) (la : Int) (lk : Int) (aTb : Nat) (tl : Int) (tF : Nat → Int) (h1 : 0 ≤ la ∧ la ≤ tl ∧ tl ≤ 4096) (hb : byt tF) : MetV l G sz y_L_advance c_L_advance 1 ({ frames := 6, cells := 0, slots := 0, locals := 127 } : Room) [.ref aL] [(aL, .inr (2, [.ref aT, .int (iI ls), .int (iI la), .int (iI lk)])), (aT, .inr (0, [.ref aTb, .int (iI tl)])), bA G aTb 4096 tF] (fun (u : Unit) => True) (fun (u : Unit) => [(aL, .inr (2, [.ref aT, .int (iI (lxS tF tl la)), .int (iI (lxA tF tl la)), .int (iI (lxK tF tl la))])), (aT, .inr (0, [.ref aTb, .int (iI tl)])), bA G aTb 4096 tF]) := by
  refine MetV.mk (by decide) (Nat.le_of_ble_eq_true rfl) (fun X C K => ?_)
  show Zc G X 1 0 0 [(aL, .inr (2, [.ref aT, .int (iI ls), .int (iI la), .int (iI lk)])), (aT, .inr (0, [.ref aTb, .int (iI tl)])), bA G aTb 4096 tF] [(0, .ref aL)] 0 []
  have hw := lx_rg tF (n := tl) (p := la) (by omega)
  have hbq := hb (lxS tF tl la).toNat
  have hl1 := ltr_01 (tF (lxS tF tl la).toNat)
  refine z_aload_n C d_L_advance_0 0 rfl ?_
  refine z_callv (As := []) (rest := []) (wr := []) (ws' := fun u => [(aL, .inr (2, [.ref aT, .int (iI ls), .int (iI (lxS tF tl la)), .int (iI lk)])), (aT, .inr (0, [.ref aTb, .int (iI tl)])), bA G aTb 4096 tF]) (q0 := 0) C k_L_25 kc_L_skipWhite (fun l sz => m_L_skipWhite l G sz aL aT ls la lk aTb tl tF (by omega) (by omega)) rfl rfl (Nat.le_of_ble_eq_true rfl) (by decide) d_L_advance_1 rfl rfl [0, 1, 2] [] [0, 1, 2] rfl rfl (by decide) (fun u => rfl) (fun u h1 => ?_)
  show Zc G X 1 0 0 [(aL, .inr (2, [.ref aT, .int (iI ls), .int (iI (lxS tF tl la)), .int (iI lk)])), (aT, .inr (0, [.ref aTb, .int (iI tl)])), bA G aTb 4096 tF] [(0, .ref aL)] 4 []
  refine z_aload_n C d_L_advance_4 0 rfl ?_
  refine z_aload_n C d_L_advance_5 0 rfl ?_
  refine z_get C f_L_19 d_L_advance_6 0 rfl rfl ?_
  refine z_put C f_L_15 ok_L nm_L d_L_advance_9 0 rfl rfl rfl rfl (Nat.le_of_ble_eq_true rfl) [(aL, .inr (2, [.ref aT, .int (iI (lxS tF tl la)), .int (iI (lxS tF tl la)), .int (iI lk)])), (aT, .inr (0, [.ref aTb, .int (iI tl)])), bA G aTb 4096 tF] rfl ?_
  refine z_aload_n C d_L_advance_12 0 rfl ?_
  refine z_get C f_L_19 d_L_advance_13 0 rfl rfl ?_
  refine z_aload_n C d_L_advance_16 0 rfl ?_
  refine z_get C f_L_9 d_L_advance_17 0 rfl rfl ?_
  refine z_get C f_L_28 d_L_advance_20 1 rfl rfl ?_
  refine z_icmp_lt (tgt := 34) C d_L_advance_23 (by decide) (by omega) (by omega) (fun c23 => ?_) (fun c23 => ?_)
  ·
    refine z_aload_n C d_L_advance_34 0 rfl ?_
    refine z_get C f_L_9 d_L_advance_35 0 rfl rfl ?_
    refine z_get C f_L_33 d_L_advance_38 1 rfl rfl ?_
    refine z_aload_n C d_L_advance_41 0 rfl ?_
    refine z_get C f_L_19 d_L_advance_42 0 rfl rfl ?_
    refine z_bald C d_L_advance_45 2 rfl (by omega) ?_
    refine z_calliS (As := [.int (iI (tF ((lxS tF tl la).toNat)))]) (rest := []) (wr := [(aL, .inr (2, [.ref aT, .int (iI (lxS tF tl la)), .int (iI (lxS tF tl la)), .int (iI lk)])), (aT, .inr (0, [.ref aTb, .int (iI tl)])), bA G aTb 4096 tF]) (ws' := fun u => [(aL, .inr (2, [.ref aT, .int (iI (lxS tF tl la)), .int (iI (lxS tF tl la)), .int (iI lk)])), (aT, .inr (0, [.ref aTb, .int (iI tl)])), bA G aTb 4096 tF]) C k_L_37 kc_L_isLetter (fun l sz => m_L_isLetter l G sz (tF ((lxS tF tl la).toNat)) (by omega)) rfl rfl (Nat.le_of_ble_eq_true rfl) (by decide) d_L_advance_46 [] [0, 1, 2] [0, 1, 2] rfl rfl (by decide) (fun u => rfl) (fun r u h46 => ?_)
    obtain rfl := h46
    show Zc G X 1 0 0 [(aL, .inr (2, [.ref aT, .int (iI (lxS tF tl la)), .int (iI (lxS tF tl la)), .int (iI lk)])), (aT, .inr (0, [.ref aTb, .int (iI tl)])), bA G aTb 4096 tF] [(0, .ref aL)] 49 [.int (iI (ltr (tF ((lxS tF tl la).toNat))))]
    refine z_if_eq (tgt := 85) C d_L_advance_49 (by decide) (by omega) (fun c49 => ?_) (fun c49 => ?_)
    ·
      refine z_aload_n C d_L_advance_85 0 rfl ?_
      refine z_aload_n C d_L_advance_86 0 rfl ?_
      refine z_get C f_L_9 d_L_advance_87 0 rfl rfl ?_
      refine z_get C f_L_33 d_L_advance_90 1 rfl rfl ?_
      refine z_aload_n C d_L_advance_93 0 rfl ?_
      refine z_get C f_L_19 d_L_advance_94 0 rfl rfl ?_
      refine z_bald C d_L_advance_97 2 rfl (by omega) ?_
      refine z_calliS (As := [.int (iI (tF ((lxS tF tl la).toNat)))]) (rest := [.ref aL]) (wr := [(aL, .inr (2, [.ref aT, .int (iI (lxS tF tl la)), .int (iI (lxS tF tl la)), .int (iI lk)])), (aT, .inr (0, [.ref aTb, .int (iI tl)])), bA G aTb 4096 tF]) (ws' := fun u => [(aL, .inr (2, [.ref aT, .int (iI (lxS tF tl la)), .int (iI (lxS tF tl la)), .int (iI lk)])), (aT, .inr (0, [.ref aTb, .int (iI tl)])), bA G aTb 4096 tF]) C k_L_50 kc_L_signKind (fun l sz => m_L_signKind l G sz (tF ((lxS tF tl la).toNat)) (by omega)) rfl rfl (Nat.le_of_ble_eq_true rfl) (by decide) d_L_advance_98 [] [0, 1, 2] [0, 1, 2] rfl rfl (by decide) (fun u => rfl) (fun r u h98 => ?_)
      obtain rfl := h98
      show Zc G X 1 0 0 [(aL, .inr (2, [.ref aT, .int (iI (lxS tF tl la)), .int (iI (lxS tF tl la)), .int (iI lk)])), (aT, .inr (0, [.ref aTb, .int (iI tl)])), bA G aTb 4096 tF] [(0, .ref aL)] 101 [.int (iI (sgk (tF ((lxS tF tl la).toNat)))), .ref aL]
      refine z_put C f_L_22 ok_L nm_L d_L_advance_101 0 rfl rfl rfl rfl (Nat.le_of_ble_eq_true rfl) [(aL, .inr (2, [.ref aT, .int (iI (lxS tF tl la)), .int (iI (lxS tF tl la)), .int (iI (sgk (tF ((lxS tF tl la).toNat))))])), (aT, .inr (0, [.ref aTb, .int (iI tl)])), bA G aTb 4096 tF] rfl ?_
      refine z_aload_n C d_L_advance_104 0 rfl ?_
      refine z_dup C d_L_advance_105 rfl ?_
      refine z_get C f_L_19 d_L_advance_106 0 rfl rfl ?_
      refine z_iconst C d_L_advance_109 ?_
      refine z_iadd C d_L_advance_110 ?_
      refine z_put C f_L_19 ok_L nm_L d_L_advance_111 0 rfl rfl rfl rfl (Nat.le_of_ble_eq_true rfl) [(aL, .inr (2, [.ref aT, .int (iI (lxS tF tl la)), .int (iI ((lxS tF tl la) + 1)), .int (iI (sgk (tF ((lxS tF tl la).toNat))))])), (aT, .inr (0, [.ref aTb, .int (iI tl)])), bA G aTb 4096 tF] rfl ?_
      exact z_vret C K d_L_advance_114 () (by rw [(lx_sign (F := tF) (n := tl) (p := la) (by omega) (by omega)).1, (lx_sign (F := tF) (n := tl) (p := la) (by omega) (by omega)).2]) (trivial)
    ·
      have hsn := skN_rg tF (tl - lxS tF tl la).toNat (lxS tF tl la)
      refine z_aload_n C d_L_advance_52 0 rfl ?_
      refine z_callv (As := []) (rest := []) (wr := []) (ws' := fun u => [(aL, .inr (2, [.ref aT, .int (iI (lxS tF tl la)), .int (iI (skN tF (tl - (lxS tF tl la)).toNat (lxS tF tl la))), .int (iI lk)])), (aT, .inr (0, [.ref aTb, .int (iI tl)])), bA G aTb 4096 tF]) (q0 := 0) C k_L_41 kc_L_skipName (fun l sz => m_L_skipName l G sz aL aT (lxS tF tl la) (lxS tF tl la) lk aTb tl tF (by omega) (by omega)) rfl rfl (Nat.le_of_ble_eq_true rfl) (by decide) d_L_advance_53 rfl rfl [0, 1, 2] [] [0, 1, 2] rfl rfl (by decide) (fun u => rfl) (fun u h53 => ?_)
      show Zc G X 1 0 0 [(aL, .inr (2, [.ref aT, .int (iI (lxS tF tl la)), .int (iI (skN tF (tl - (lxS tF tl la)).toNat (lxS tF tl la))), .int (iI lk)])), (aT, .inr (0, [.ref aTb, .int (iI tl)])), bA G aTb 4096 tF] [(0, .ref aL)] 56 []
      refine z_aload_n C d_L_advance_56 0 rfl ?_
      refine z_aload_n C d_L_advance_57 0 rfl ?_
      refine z_get C f_L_19 d_L_advance_58 0 rfl rfl ?_
      refine z_aload_n C d_L_advance_61 0 rfl ?_
      refine z_get C f_L_15 d_L_advance_62 0 rfl rfl ?_
      refine z_isub C d_L_advance_65 ?_
      refine z_bipush C d_L_advance_66 (by decide) ?_
      refine z_icmp_le (tgt := 75) C d_L_advance_68 (by decide) (by omega) (by omega) (fun c68 => ?_) (fun c68 => ?_)
      ·
        refine z_aload_n C d_L_advance_75 0 rfl ?_
        refine z_calli (As := []) (rest := [.ref aL]) (wr := []) (ws' := fun u => [(aL, .inr (2, [.ref aT, .int (iI (lxS tF tl la)), .int (iI (skN tF (tl - (lxS tF tl la)).toNat (lxS tF tl la))), .int (iI lk)])), (aT, .inr (0, [.ref aTb, .int (iI tl)])), bA G aTb 4096 tF]) (q0 := 0) C k_L_46 kc_L_nameKind (fun l sz => m_L_nameKind l G sz aL aT (lxS tF tl la) (skN tF (tl - (lxS tF tl la)).toNat (lxS tF tl la)) lk aTb tl tF (by omega) (by omega)) rfl rfl (Nat.le_of_ble_eq_true rfl) (by decide) d_L_advance_76 rfl rfl [0, 1, 2] [] [0, 1, 2] rfl rfl (by decide) (fun u => rfl) (fun r u h76 => ?_)
        obtain rfl := h76
        show Zc G X 1 0 0 [(aL, .inr (2, [.ref aT, .int (iI (lxS tF tl la)), .int (iI (skN tF (tl - (lxS tF tl la)).toNat (lxS tF tl la))), .int (iI lk)])), (aT, .inr (0, [.ref aTb, .int (iI tl)])), bA G aTb 4096 tF] [(0, .ref aL)] 79 [.int (iI (nmk (seg tF (lxS tF tl la).toNat ((skN tF (tl - (lxS tF tl la)).toNat (lxS tF tl la)) - (lxS tF tl la)).toNat))), .ref aL]
        refine z_put C f_L_22 ok_L nm_L d_L_advance_79 0 rfl rfl rfl rfl (Nat.le_of_ble_eq_true rfl) [(aL, .inr (2, [.ref aT, .int (iI (lxS tF tl la)), .int (iI (skN tF (tl - (lxS tF tl la)).toNat (lxS tF tl la))), .int (iI (nmk (seg tF (lxS tF tl la).toNat ((skN tF (tl - (lxS tF tl la)).toNat (lxS tF tl la)) - (lxS tF tl la)).toNat)))])), (aT, .inr (0, [.ref aTb, .int (iI tl)])), bA G aTb 4096 tF] rfl ?_
        refine z_goto (tgt := 114) C d_L_advance_82 (by decide) ?_
        have hn := lx_name (F := tF) (n := tl) (p := la) (by omega) (by omega)
        rw [if_pos (by rw [hn.1]; exact c68)] at hn
        exact z_vret C K d_L_advance_114 () (by rw [hn.2, hn.1]) (trivial)
      ·
        refine z_iconst C d_L_advance_71 ?_
        refine z_goto (tgt := 79) C d_L_advance_72 (by decide) ?_
        refine z_put C f_L_22 ok_L nm_L d_L_advance_79 0 rfl rfl rfl rfl (Nat.le_of_ble_eq_true rfl) [(aL, .inr (2, [.ref aT, .int (iI (lxS tF tl la)), .int (iI (skN tF (tl - (lxS tF tl la)).toNat (lxS tF tl la))), .int (iI 1)])), (aT, .inr (0, [.ref aTb, .int (iI tl)])), bA G aTb 4096 tF] rfl ?_
        refine z_goto (tgt := 114) C d_L_advance_82 (by decide) ?_
        have hn := lx_name (F := tF) (n := tl) (p := la) (by omega) (by omega)
        rw [if_neg (by rw [hn.1]; exact c68)] at hn
        exact z_vret C K d_L_advance_114 () (by rw [hn.2, hn.1]) (trivial)
  ·
    refine z_aload_n C d_L_advance_26 0 rfl ?_
    refine z_iconst C d_L_advance_27 ?_
    refine z_put C f_L_22 ok_L nm_L d_L_advance_28 0 rfl rfl rfl rfl (Nat.le_of_ble_eq_true rfl) [(aL, .inr (2, [.ref aT, .int (iI (lxS tF tl la)), .int (iI (lxS tF tl la)), .int (iI 0)])), (aT, .inr (0, [.ref aTb, .int (iI tl)])), bA G aTb 4096 tF] rfl ?_
    refine z_goto (tgt := 114) C d_L_advance_31 (by decide) ?_
    exact z_vret C K d_L_advance_114 () (by rw [(lx_end (F := tF) (n := tl) (p := la) (by omega)).1, (lx_end (F := tF) (n := tl) (p := la) (by omega)).2]) (trivial)
