set_option maxHeartbeats 4000000 in
set_option maxRecDepth 100000 in
theorem m_N_states (l : Launch) (G : GG) (sz : Nat) (aN : Nat) (aNl : Nat) (aNn : Nat) (aNt : Nat) (nt : Nat → Int)  : MetI l G sz y_N_states c_N_states 1 (some .int) ({ frames := 0, cells := 0, slots := 0, locals := 0 } : Room) [.ref aN] [(aN, .inr (3, [.ref aNl, .ref aNn, .ref aNt])), iA G aNt 3 nt] (fun (r : Int32) (u : Unit) => r = iI (nt 0)) (fun (u : Unit) => [(aN, .inr (3, [.ref aNl, .ref aNn, .ref aNt])), iA G aNt 3 nt]) := by
  refine MetI.mk (by decide) (Nat.le_of_ble_eq_true rfl) (fun X C K => ?_)
  show Zc G X 1 0 0 [(aN, .inr (3, [.ref aNl, .ref aNn, .ref aNt])), iA G aNt 3 nt] [(0, .ref aN)] 0 []
  refine z_aload_n C d_N_states_0 0 rfl ?_
  refine z_get C f_N_19 d_N_states_1 0 rfl rfl ?_
  refine z_iconst C d_N_states_4 ?_
  refine z_iald C d_N_states_5 1 rfl (by omega) ?_
  refine z_topi (y := iI (nt 0)) (rfl) ?_
  exact z_iret C K d_N_states_6 (rfl) () (rfl) (rfl)
set_option maxHeartbeats 4000000 in
set_option maxRecDepth 100000 in
theorem m_N_asks (l : Launch) (G : GG) (sz : Nat) (aN : Nat) (aNl : Nat) (aNn : Nat) (aNt : Nat) (nt : Nat → Int)  : MetI l G sz y_N_asks c_N_asks 1 (some .int) ({ frames := 0, cells := 0, slots := 0, locals := 0 } : Room) [.ref aN] [(aN, .inr (3, [.ref aNl, .ref aNn, .ref aNt])), iA G aNt 3 nt] (fun (r : Int32) (u : Unit) => r = iI (nt 1)) (fun (u : Unit) => [(aN, .inr (3, [.ref aNl, .ref aNn, .ref aNt])), iA G aNt 3 nt]) := by
  refine MetI.mk (by decide) (Nat.le_of_ble_eq_true rfl) (fun X C K => ?_)
  show Zc G X 1 0 0 [(aN, .inr (3, [.ref aNl, .ref aNn, .ref aNt])), iA G aNt 3 nt] [(0, .ref aN)] 0 []
  refine z_aload_n C d_N_asks_0 0 rfl ?_
  refine z_get C f_N_19 d_N_asks_1 0 rfl rfl ?_
  refine z_iconst C d_N_asks_4 ?_
  refine z_iald C d_N_asks_5 1 rfl (by omega) ?_
  refine z_topi (y := iI (nt 1)) (rfl) ?_
  exact z_iret C K d_N_asks_6 (rfl) () (rfl) (rfl)
set_option maxHeartbeats 4000000 in
set_option maxRecDepth 100000 in
theorem m_N_messages (l : Launch) (G : GG) (sz : Nat) (aN : Nat) (aNl : Nat) (aNn : Nat) (aNt : Nat) (nt : Nat → Int)  : MetI l G sz y_N_messages c_N_messages 1 (some .int) ({ frames := 0, cells := 0, slots := 0, locals := 0 } : Room) [.ref aN] [(aN, .inr (3, [.ref aNl, .ref aNn, .ref aNt])), iA G aNt 3 nt] (fun (r : Int32) (u : Unit) => r = iI (nt 2)) (fun (u : Unit) => [(aN, .inr (3, [.ref aNl, .ref aNn, .ref aNt])), iA G aNt 3 nt]) := by
  refine MetI.mk (by decide) (Nat.le_of_ble_eq_true rfl) (fun X C K => ?_)
  show Zc G X 1 0 0 [(aN, .inr (3, [.ref aNl, .ref aNn, .ref aNt])), iA G aNt 3 nt] [(0, .ref aN)] 0 []
  refine z_aload_n C d_N_messages_0 0 rfl ?_
  refine z_get C f_N_19 d_N_messages_1 0 rfl rfl ?_
  refine z_iconst C d_N_messages_4 ?_
  refine z_iald C d_N_messages_5 1 rfl (by omega) ?_
  refine z_topi (y := iI (nt 2)) (rfl) ?_
  exact z_iret C K d_N_messages_6 (rfl) () (rfl) (rfl)
set_option maxHeartbeats 4000000 in
set_option maxRecDepth 100000 in
theorem m_N_events (l : Launch) (G : GG) (sz : Nat) (aN : Nat) (aNl : Nat) (aNn : Nat) (aNt : Nat) (nt : Nat → Int)  : MetI l G sz y_N_events c_N_events 1 (some .int) ({ frames := 0, cells := 0, slots := 0, locals := 0 } : Room) [.ref aN] [(aN, .inr (3, [.ref aNl, .ref aNn, .ref aNt])), iA G aNt 3 nt] (fun (r : Int32) (u : Unit) => r = iI (nt 1 + nt 2)) (fun (u : Unit) => [(aN, .inr (3, [.ref aNl, .ref aNn, .ref aNt])), iA G aNt 3 nt]) := by
  refine MetI.mk (by decide) (Nat.le_of_ble_eq_true rfl) (fun X C K => ?_)
  show Zc G X 1 0 0 [(aN, .inr (3, [.ref aNl, .ref aNn, .ref aNt])), iA G aNt 3 nt] [(0, .ref aN)] 0 []
  refine z_aload_n C d_N_events_0 0 rfl ?_
  refine z_get C f_N_19 d_N_events_1 0 rfl rfl ?_
  refine z_iconst C d_N_events_4 ?_
  refine z_iald C d_N_events_5 1 rfl (by omega) ?_
  refine z_topi (y := iI (nt 1)) (rfl) ?_
  refine z_aload_n C d_N_events_6 0 rfl ?_
  refine z_get C f_N_19 d_N_events_7 0 rfl rfl ?_
  refine z_iconst C d_N_events_10 ?_
  refine z_iald C d_N_events_11 1 rfl (by omega) ?_
  refine z_topi (y := iI (nt 2)) (rfl) ?_
  refine z_iadd C d_N_events_12 ?_
  exact z_iret C K d_N_events_13 (rfl) () (rfl) (congrArg iI (by omega))
set_option maxHeartbeats 4000000 in
set_option maxRecDepth 100000 in
theorem m_N_forget (l : Launch) (G : GG) (sz : Nat) (aN : Nat) (aNl : Nat) (aNn : Nat) (aNt : Nat) (nn : Nat → Int) (nt : Nat → Int)  : MetV l G sz y_N_forget c_N_forget 1 ({ frames := 1, cells := 0, slots := 0, locals := 23 } : Room) [.ref aN] [(aN, .inr (3, [.ref aNl, .ref aNn, .ref aNt])), iA G aNn 40 nn, iA G aNt 3 nt] (fun (u : Unit) => True) (fun (u : Unit) => [(aN, .inr (3, [.ref aNl, .ref aNn, .ref aNt])), iA G aNn 40 (flZ 40 0 nn), iA G aNt 3 (flZ 3 0 nt)]) := by
  refine MetV.mk (by decide) (Nat.le_of_ble_eq_true rfl) (fun X C K => ?_)
  show Zc G X 1 0 0 [(aN, .inr (3, [.ref aNl, .ref aNn, .ref aNt])), iA G aNn 40 nn, iA G aNt 3 nt] [(0, .ref aN)] 0 []
  refine z_aload_n C d_N_forget_0 0 rfl ?_
  refine z_get C f_N_15 d_N_forget_1 0 rfl rfl ?_
  refine z_iconst C d_N_forget_4 ?_
  refine z_callvS (As := [.ref aNn, .int (iI 0)]) (rest := []) (wr := [(aN, .inr (3, [.ref aNl, .ref aNn, .ref aNt])), iA G aNt 3 nt]) (ws' := fun u => [(aN, .inr (3, [.ref aNl, .ref aNn, .ref aNt])), iA G aNn 40 (flZ 40 0 nn), iA G aNt 3 nt]) C k_N_22 kc_jA_fill (fun l sz => m_jA_fill l G sz aNn 40 0 nn (by omega)) rfl rfl (Nat.le_of_ble_eq_true rfl) (by decide) d_N_forget_5 [1] [0, 2] [0, 2, 1] rfl rfl (by decide) (fun u => rfl) (fun u h5 => ?_)
  show Zc G X 1 0 0 [(aN, .inr (3, [.ref aNl, .ref aNn, .ref aNt])), iA G aNn 40 (flZ 40 0 nn), iA G aNt 3 nt] [(0, .ref aN)] 8 []
  refine z_aload_n C d_N_forget_8 0 rfl ?_
  refine z_get C f_N_19 d_N_forget_9 0 rfl rfl ?_
  refine z_iconst C d_N_forget_12 ?_
  refine z_callvS (As := [.ref aNt, .int (iI 0)]) (rest := []) (wr := [(aN, .inr (3, [.ref aNl, .ref aNn, .ref aNt])), iA G aNn 40 (flZ 40 0 nn)]) (ws' := fun u => [(aN, .inr (3, [.ref aNl, .ref aNn, .ref aNt])), iA G aNn 40 (flZ 40 0 nn), iA G aNt 3 (flZ 3 0 nt)]) C k_N_22 kc_jA_fill (fun l sz => m_jA_fill l G sz aNt 3 0 nt (by omega)) rfl rfl (Nat.le_of_ble_eq_true rfl) (by decide) d_N_forget_13 [2] [0, 1] [0, 1, 2] rfl rfl (by decide) (fun u => rfl) (fun u h13 => ?_)
  show Zc G X 1 0 0 [(aN, .inr (3, [.ref aNl, .ref aNn, .ref aNt])), iA G aNn 40 (flZ 40 0 nn), iA G aNt 3 (flZ 3 0 nt)] [(0, .ref aN)] 16 []
  exact z_vret C K d_N_forget_16 () (rfl) (trivial)
set_option maxHeartbeats 4000000 in
set_option maxRecDepth 100000 in
theorem m_N_sortOf (l : Launch) (G : GG) (sz : Nat) (sl : Int) (h1 : 0 ≤ sl ∧ sl < 40) : MetI l G sz y_N_sortOf c_N_sortOf 1 (some .int) ({ frames := 0, cells := 0, slots := 0, locals := 0 } : Room) [.int (iI sl)] [] (fun (r : Int32) (u : Unit) => r = iI (srt sl)) (fun (u : Unit) => []) := by
  refine MetI.mk (by decide) (Nat.le_of_ble_eq_true rfl) (fun X C K => ?_)
  show Zc G X 1 0 0 [] [(0, .int (iI sl))] 0 []
  refine z_iload_n C d_N_sortOf_0 0 rfl ?_
  refine z_bipush C d_N_sortOf_1 (by decide) ?_
  refine z_icmp_ge (tgt := 8) C d_N_sortOf_3 (by decide) (by omega) (by omega) (fun c3 => ?_) (fun c3 => ?_)
  ·
    refine z_iload_n C d_N_sortOf_8 0 rfl ?_
    refine z_bipush C d_N_sortOf_9 (by decide) ?_
    refine z_icmp_ge (tgt := 18) C d_N_sortOf_11 (by decide) (by omega) (by omega) (fun c11 => ?_) (fun c11 => ?_)
    ·
      refine z_iconst C d_N_sortOf_18 ?_
      exact z_iret C K d_N_sortOf_19 (rfl) () (rfl) (congrArg iI (by unfold srt; (repeat' split) <;> omega))
    ·
      refine z_iconst C d_N_sortOf_14 ?_
      refine z_goto (tgt := 19) C d_N_sortOf_15 (by decide) ?_
      exact z_iret C K d_N_sortOf_19 (rfl) () (rfl) (congrArg iI (by unfold srt; (repeat' split) <;> omega))
  ·
    refine z_iconst C d_N_sortOf_6 ?_
    exact z_iret C K d_N_sortOf_7 (rfl) () (rfl) (congrArg iI (by unfold srt; (repeat' split) <;> omega))
set_option maxHeartbeats 4000000 in
set_option maxRecDepth 100000 in
theorem m_N_slotOfEvent (l : Launch) (G : GG) (sz : Nat) (aN : Nat) (aNl : Nat) (aNn : Nat) (aNt : Nat) (nt : Nat → Int) (ev : Int) (h1 : 0 ≤ ev ∧ ev ≤ 1000 ∧ 0 ≤ nt 1 ∧ nt 1 ≤ 8) : MetI l G sz y_N_slotOfEvent c_N_slotOfEvent 2 (some .int) ({ frames := 0, cells := 0, slots := 0, locals := 0 } : Room) [.ref aN, .int (iI ev)] [(aN, .inr (3, [.ref aNl, .ref aNn, .ref aNt])), iA G aNt 3 nt] (fun (r : Int32) (u : Unit) => r = iI (evs (nt 1) ev)) (fun (u : Unit) => [(aN, .inr (3, [.ref aNl, .ref aNn, .ref aNt])), iA G aNt 3 nt]) := by
  refine MetI.mk (by decide) (Nat.le_of_ble_eq_true rfl) (fun X C K => ?_)
  show Zc G X 2 0 0 [(aN, .inr (3, [.ref aNl, .ref aNn, .ref aNt])), iA G aNt 3 nt] [(0, .ref aN), (1, .int (iI ev))] 0 []
  refine z_iload_n C d_N_slotOfEvent_0 1 rfl ?_
  refine z_aload_n C d_N_slotOfEvent_1 0 rfl ?_
  refine z_get C f_N_19 d_N_slotOfEvent_2 0 rfl rfl ?_
  refine z_iconst C d_N_slotOfEvent_5 ?_
  refine z_iald C d_N_slotOfEvent_6 1 rfl (by omega) ?_
  refine z_topi (y := iI (nt 1)) (rfl) ?_
  refine z_icmp_ge (tgt := 17) C d_N_slotOfEvent_7 (by decide) (by omega) (by omega) (fun c7 => ?_) (fun c7 => ?_)
  ·
    refine z_bipush C d_N_slotOfEvent_17 (by decide) ?_
    refine z_iload_n C d_N_slotOfEvent_19 1 rfl ?_
    refine z_iadd C d_N_slotOfEvent_20 ?_
    refine z_aload_n C d_N_slotOfEvent_21 0 rfl ?_
    refine z_get C f_N_19 d_N_slotOfEvent_22 0 rfl rfl ?_
    refine z_iconst C d_N_slotOfEvent_25 ?_
    refine z_iald C d_N_slotOfEvent_26 1 rfl (by omega) ?_
    refine z_topi (y := iI (nt 1)) (rfl) ?_
    refine z_isub C d_N_slotOfEvent_27 ?_
    exact z_iret C K d_N_slotOfEvent_28 (rfl) () (rfl) (congrArg iI (by unfold evs; (repeat' split) <;> omega))
  ·
    refine z_bipush C d_N_slotOfEvent_10 (by decide) ?_
    refine z_iload_n C d_N_slotOfEvent_12 1 rfl ?_
    refine z_iadd C d_N_slotOfEvent_13 ?_
    refine z_goto (tgt := 28) C d_N_slotOfEvent_14 (by decide) ?_
    exact z_iret C K d_N_slotOfEvent_28 (rfl) () (rfl) (congrArg iI (by unfold evs; (repeat' split) <;> omega))
set_option maxHeartbeats 4000000 in
set_option maxRecDepth 100000 in
theorem m_N_lengthOf (l : Launch) (G : GG) (sz : Nat) (aN : Nat) (aNl : Nat) (aNn : Nat) (aNt : Nat) (nn : Nat → Int) (sl : Int) (h1 : 0 ≤ sl ∧ sl < 40) : MetI l G sz y_N_lengthOf c_N_lengthOf 2 (some .int) ({ frames := 0, cells := 0, slots := 0, locals := 0 } : Room) [.ref aN, .int (iI sl)] [(aN, .inr (3, [.ref aNl, .ref aNn, .ref aNt])), iA G aNn 40 nn] (fun (r : Int32) (u : Unit) => r = iI (nn sl.toNat)) (fun (u : Unit) => [(aN, .inr (3, [.ref aNl, .ref aNn, .ref aNt])), iA G aNn 40 nn]) := by
  refine MetI.mk (by decide) (Nat.le_of_ble_eq_true rfl) (fun X C K => ?_)
  show Zc G X 2 0 0 [(aN, .inr (3, [.ref aNl, .ref aNn, .ref aNt])), iA G aNn 40 nn] [(0, .ref aN), (1, .int (iI sl))] 0 []
  refine z_aload_n C d_N_lengthOf_0 0 rfl ?_
  refine z_get C f_N_15 d_N_lengthOf_1 0 rfl rfl ?_
  refine z_iload_n C d_N_lengthOf_4 1 rfl ?_
  refine z_iald C d_N_lengthOf_5 1 rfl (by omega) ?_
  exact z_iret C K d_N_lengthOf_6 (rfl) () (rfl) (rfl)
set_option maxHeartbeats 4000000 in
set_option maxRecDepth 100000 in
theorem m_N_isFull (l : Launch) (G : GG) (sz : Nat) (aN : Nat) (aNl : Nat) (aNn : Nat) (aNt : Nat) (nt : Nat → Int) (so : Int) (hs : so = 0 ∨ so = 1 ∨ so = 2) (h1 : cnt nt) : MetI l G sz y_N_isFull c_N_isFull 2 (some .boolean) ({ frames := 0, cells := 0, slots := 0, locals := 0 } : Room) [.ref aN, .int (iI so)] [(aN, .inr (3, [.ref aNl, .ref aNn, .ref aNt])), iA G aNt 3 nt] (fun (r : Int32) (u : Unit) => r = iI (ful nt so)) (fun (u : Unit) => [(aN, .inr (3, [.ref aNl, .ref aNn, .ref aNt])), iA G aNt 3 nt]) := by
  refine MetI.mk (by decide) (Nat.le_of_ble_eq_true rfl) (fun X C K => ?_)
  show Zc G X 2 0 0 [(aN, .inr (3, [.ref aNl, .ref aNn, .ref aNt])), iA G aNt 3 nt] [(0, .ref aN), (1, .int (iI so))] 0 []
  unfold cnt at h1
  rcases hs with rfl | rfl | rfl
  ·
    skip
    refine z_iload_n C d_N_isFull_0 1 rfl ?_
    refine z_lookup (tgt := 28) (off := 27) C d_N_isFull_1 (by decide) (by decide) (by decide) ?_
    refine z_aload_n C d_N_isFull_28 0 rfl ?_
    refine z_get C f_N_19 d_N_isFull_29 0 rfl rfl ?_
    refine z_iconst C d_N_isFull_32 ?_
    refine z_iald C d_N_isFull_33 1 rfl (by omega) ?_
    refine z_topi (y := iI (nt 0)) (rfl) ?_
    refine z_bipush C d_N_isFull_34 (by decide) ?_
    refine z_icmp_lt (tgt := 43) C d_N_isFull_36 (by decide) (by omega) (by omega) (fun c36 => ?_) (fun c36 => ?_)
    ·
      refine z_iconst C d_N_isFull_43 ?_
      exact z_iret C K d_N_isFull_44 (by decide) () (rfl) (congrArg iI (by unfold ful; (repeat' split) <;> omega))
    ·
      refine z_iconst C d_N_isFull_39 ?_
      refine z_goto (tgt := 44) C d_N_isFull_40 (by decide) ?_
      exact z_iret C K d_N_isFull_44 (by decide) () (rfl) (congrArg iI (by unfold ful; (repeat' split) <;> omega))
  ·
    skip
    refine z_iload_n C d_N_isFull_0 1 rfl ?_
    refine z_lookup (tgt := 45) (off := 44) C d_N_isFull_1 (by decide) (by decide) (by decide) ?_
    refine z_aload_n C d_N_isFull_45 0 rfl ?_
    refine z_get C f_N_19 d_N_isFull_46 0 rfl rfl ?_
    refine z_iconst C d_N_isFull_49 ?_
    refine z_iald C d_N_isFull_50 1 rfl (by omega) ?_
    refine z_topi (y := iI (nt 1)) (rfl) ?_
    refine z_bipush C d_N_isFull_51 (by decide) ?_
    refine z_icmp_lt (tgt := 60) C d_N_isFull_53 (by decide) (by omega) (by omega) (fun c53 => ?_) (fun c53 => ?_)
    ·
      refine z_iconst C d_N_isFull_60 ?_
      exact z_iret C K d_N_isFull_61 (by decide) () (rfl) (congrArg iI (by unfold ful; (repeat' split) <;> omega))
    ·
      refine z_iconst C d_N_isFull_56 ?_
      refine z_goto (tgt := 61) C d_N_isFull_57 (by decide) ?_
      exact z_iret C K d_N_isFull_61 (by decide) () (rfl) (congrArg iI (by unfold ful; (repeat' split) <;> omega))
  ·
    skip
    refine z_iload_n C d_N_isFull_0 1 rfl ?_
    refine z_lookup (tgt := 62) (off := 61) C d_N_isFull_1 (by decide) (by decide) (by decide) ?_
    refine z_aload_n C d_N_isFull_62 0 rfl ?_
    refine z_get C f_N_19 d_N_isFull_63 0 rfl rfl ?_
    refine z_iconst C d_N_isFull_66 ?_
    refine z_iald C d_N_isFull_67 1 rfl (by omega) ?_
    refine z_topi (y := iI (nt 2)) (rfl) ?_
    refine z_bipush C d_N_isFull_68 (by decide) ?_
    refine z_icmp_lt (tgt := 77) C d_N_isFull_70 (by decide) (by omega) (by omega) (fun c70 => ?_) (fun c70 => ?_)
    ·
      refine z_iconst C d_N_isFull_77 ?_
      exact z_iret C K d_N_isFull_78 (by decide) () (rfl) (congrArg iI (by unfold ful; (repeat' split) <;> omega))
    ·
      refine z_iconst C d_N_isFull_73 ?_
      refine z_goto (tgt := 78) C d_N_isFull_74 (by decide) ?_
      exact z_iret C K d_N_isFull_78 (by decide) () (rfl) (congrArg iI (by unfold ful; (repeat' split) <;> omega))
set_option maxHeartbeats 4000000 in
set_option maxRecDepth 100000 in
theorem m_N_slotBehindLast (l : Launch) (G : GG) (sz : Nat) (aN : Nat) (aNl : Nat) (aNn : Nat) (aNt : Nat) (nt : Nat → Int) (so : Int) (hs : so = 0 ∨ so = 1 ∨ so = 2) : MetI l G sz y_N_slotBehindLast c_N_slotBehindLast 2 (some .int) ({ frames := 0, cells := 0, slots := 0, locals := 0 } : Room) [.ref aN, .int (iI so)] [(aN, .inr (3, [.ref aNl, .ref aNn, .ref aNt])), iA G aNt 3 nt] (fun (r : Int32) (u : Unit) => r = iI (sbl nt so)) (fun (u : Unit) => [(aN, .inr (3, [.ref aNl, .ref aNn, .ref aNt])), iA G aNt 3 nt]) := by
  refine MetI.mk (by decide) (Nat.le_of_ble_eq_true rfl) (fun X C K => ?_)
  show Zc G X 2 0 0 [(aN, .inr (3, [.ref aNl, .ref aNn, .ref aNt])), iA G aNt 3 nt] [(0, .ref aN), (1, .int (iI so))] 0 []
  rcases hs with rfl | rfl | rfl
  ·
    skip
    refine z_iload_n C d_N_slotBehindLast_0 1 rfl ?_
    refine z_lookup (tgt := 28) (off := 27) C d_N_slotBehindLast_1 (by decide) (by decide) (by decide) ?_
    refine z_aload_n C d_N_slotBehindLast_28 0 rfl ?_
    refine z_get C f_N_19 d_N_slotBehindLast_29 0 rfl rfl ?_
    refine z_iconst C d_N_slotBehindLast_32 ?_
    refine z_iald C d_N_slotBehindLast_33 1 rfl (by omega) ?_
    refine z_topi (y := iI (nt 0)) (rfl) ?_
    exact z_iret C K d_N_slotBehindLast_34 (rfl) () (rfl) (congrArg iI (by unfold sbl; (repeat' split) <;> omega))
  ·
    skip
    refine z_iload_n C d_N_slotBehindLast_0 1 rfl ?_
    refine z_lookup (tgt := 35) (off := 34) C d_N_slotBehindLast_1 (by decide) (by decide) (by decide) ?_
    refine z_bipush C d_N_slotBehindLast_35 (by decide) ?_
    refine z_aload_n C d_N_slotBehindLast_37 0 rfl ?_
    refine z_get C f_N_19 d_N_slotBehindLast_38 0 rfl rfl ?_
    refine z_iconst C d_N_slotBehindLast_41 ?_
    refine z_iald C d_N_slotBehindLast_42 1 rfl (by omega) ?_
    refine z_topi (y := iI (nt 1)) (rfl) ?_
    refine z_iadd C d_N_slotBehindLast_43 ?_
    exact z_iret C K d_N_slotBehindLast_44 (rfl) () (rfl) (congrArg iI (by unfold sbl; (repeat' split) <;> omega))
  ·
    skip
    refine z_iload_n C d_N_slotBehindLast_0 1 rfl ?_
    refine z_lookup (tgt := 45) (off := 44) C d_N_slotBehindLast_1 (by decide) (by decide) (by decide) ?_
    refine z_bipush C d_N_slotBehindLast_45 (by decide) ?_
    refine z_aload_n C d_N_slotBehindLast_47 0 rfl ?_
    refine z_get C f_N_19 d_N_slotBehindLast_48 0 rfl rfl ?_
    refine z_iconst C d_N_slotBehindLast_51 ?_
    refine z_iald C d_N_slotBehindLast_52 1 rfl (by omega) ?_
    refine z_topi (y := iI (nt 2)) (rfl) ?_
    refine z_iadd C d_N_slotBehindLast_53 ?_
    exact z_iret C K d_N_slotBehindLast_54 (rfl) () (rfl) (congrArg iI (by unfold sbl; (repeat' split) <;> omega))
set_option maxHeartbeats 4000000 in
set_option maxRecDepth 100000 in
theorem m_N_isSame (l : Launch) (G : GG) (sz : Nat) (aN : Nat) (aNl : Nat) (aNn : Nat) (aNt : Nat) (nl : Nat → Int) (nn : Nat → Int) (aL : Nat) (aT : Nat) (ls : Int) (la : Int) (lk : Int) (aTb : Nat) (tl : Int) (tF : Nat → Int) (sl : Int) (h1 : 0 ≤ sl ∧ sl < 40 ∧ 0 ≤ nn sl.toNat ∧ nn sl.toNat ≤ 12 ∧ 0 ≤ ls ∧ ls + nn sl.toNat ≤ 4096) (hb : byt nl ∧ byt tF) : MetI l G sz y_N_isSame c_N_isSame 4 (some .boolean) ({ frames := 0, cells := 0, slots := 0, locals := 0 } : Room) [.ref aN, .int (iI sl), .ref aL] [(aN, .inr (3, [.ref aNl, .ref aNn, .ref aNt])), bA G aNl 480 nl, iA G aNn 40 nn, (aL, .inr (2, [.ref aT, .int (iI ls), .int (iI la), .int (iI lk)])), (aT, .inr (0, [.ref aTb, .int (iI tl)])), bA G aTb 4096 tF] (fun (r : Int32) (u : Int) => r = iI u ∧ ((u = 1 ∧ (∀ i : Nat, (i : Int) < nn sl.toNat → nl (sl * 12 + i).toNat = tF (ls + i).toNat)) ∨ (u = 0 ∧ ¬ (∀ i : Nat, (i : Int) < nn sl.toNat → nl (sl * 12 + i).toNat = tF (ls + i).toNat)))) (fun (u : Int) => [(aN, .inr (3, [.ref aNl, .ref aNn, .ref aNt])), bA G aNl 480 nl, iA G aNn 40 nn, (aL, .inr (2, [.ref aT, .int (iI ls), .int (iI la), .int (iI lk)])), (aT, .inr (0, [.ref aTb, .int (iI tl)])), bA G aTb 4096 tF]) := by
  refine MetI.mk (by decide) (Nat.le_of_ble_eq_true rfl) (fun X C K => ?_)
  show Zc G X 4 0 0 [(aN, .inr (3, [.ref aNl, .ref aNn, .ref aNt])), bA G aNl 480 nl, iA G aNn 40 nn, (aL, .inr (2, [.ref aT, .int (iI ls), .int (iI la), .int (iI lk)])), (aT, .inr (0, [.ref aTb, .int (iI tl)])), bA G aTb 4096 tF] [(0, .ref aN), (1, .int (iI sl)), (2, .ref aL)] 0 []
  refine z_iconst C d_N_isSame_0 ?_
  refine z_istore_n (lv' := [(3, .int (iI 0)), (0, .ref aN), (1, .int (iI sl)), (2, .ref aL)]) C d_N_isSame_1 (by decide) rfl ?_
  have loop2 : ∀ (kq : Nat) (k : Int), (0 ≤ k ∧ k ≤ nn sl.toNat) → (∀ i : Nat, (i : Int) < k → nl (sl * 12 + i).toNat = tF (ls + i).toNat) → ((nn sl.toNat - k).toNat < kq) → Zc G X 4 0 0 [(aN, .inr (3, [.ref aNl, .ref aNn, .ref aNt])), bA G aNl 480 nl, iA G aNn 40 nn, (aL, .inr (2, [.ref aT, .int (iI ls), .int (iI la), .int (iI lk)])), (aT, .inr (0, [.ref aTb, .int (iI tl)])), bA G aTb 4096 tF] [(0, .ref aN), (1, .int (iI sl)), (2, .ref aL), (3, .int (iI k))] 2 [] := by
    intro kq
    induction kq with
    | zero => intro k hk hE hm; exact absurd hm (Nat.not_lt_zero _)
    | succ kq ih2 =>
      intro k hk hE hm
      -- loop body
      refine z_iload_n C d_N_isSame_2 3 rfl ?_
      refine z_aload_n C d_N_isSame_3 0 rfl ?_
      refine z_get C f_N_15 d_N_isSame_4 0 rfl rfl ?_
      refine z_iload_n C d_N_isSame_7 1 rfl ?_
      refine z_iald C d_N_isSame_8 2 rfl (by omega) ?_
      refine z_icmp_ge (tgt := 48) C d_N_isSame_9 (by decide) (by omega) (by omega) (fun c9 => ?_) (fun c9 => ?_)
      ·
        refine z_iconst C d_N_isSame_48 ?_
        exact z_iret C K d_N_isSame_49 (by decide) 1 (rfl) (show iI 1 = iI 1 ∧ ((1 = 1 ∧ (∀ i : Nat, (i : Int) < nn sl.toNat → nl (sl * 12 + i).toNat = tF (ls + i).toNat)) ∨ (1 = 0 ∧ ¬ (∀ i : Nat, (i : Int) < nn sl.toNat → nl (sl * 12 + i).toNat = tF (ls + i).toNat))) from ⟨rfl, Or.inl ⟨rfl, fun j hj => hE j (by omega)⟩⟩)
      ·
        refine z_aload_n C d_N_isSame_12 0 rfl ?_
        refine z_get C f_N_11 d_N_isSame_13 0 rfl rfl ?_
        refine z_iload_n C d_N_isSame_16 1 rfl ?_
        refine z_bipush C d_N_isSame_17 (by decide) ?_
        refine z_imul C d_N_isSame_19 ?_
        refine z_iload_n C d_N_isSame_20 3 rfl ?_
        refine z_iadd C d_N_isSame_21 ?_
        refine z_bald C d_N_isSame_22 1 rfl (by omega) ?_
        refine z_aload_n C d_N_isSame_23 2 rfl ?_
        refine z_get C f_N_41 d_N_isSame_24 3 rfl rfl ?_
        refine z_get C f_N_45 d_N_isSame_27 4 rfl rfl ?_
        refine z_aload_n C d_N_isSame_30 2 rfl ?_
        refine z_get C f_N_38 d_N_isSame_31 3 rfl rfl ?_
        refine z_iload_n C d_N_isSame_34 3 rfl ?_
        refine z_iadd C d_N_isSame_35 ?_
        refine z_bald C d_N_isSame_36 5 rfl (by omega) ?_
        refine z_icmp_eq (tgt := 42) C d_N_isSame_37 (by decide) (by have := hb.1 (sl * 12 + k).toNat; omega) (by have := hb.2 (ls + k).toNat; omega) (fun c37 => ?_) (fun c37 => ?_)
        ·
          refine z_iinc (lv' := [(3, .int (iI (k + 1))), (0, .ref aN), (1, .int (iI sl)), (2, .ref aL)]) C d_N_isSame_42 3 rfl (by decide) rfl ?_
          refine z_goto (tgt := 2) C d_N_isSame_45 (by decide) ?_
          refine z_lv [1, 2, 3, 0] (lv' := [(0, .ref aN), (1, .int (iI sl)), (2, .ref aL), (3, .int (iI (k + 1)))]) rfl ?_
          exact ih2 _ (by omega) (fun j hj => if e : (j : Int) = k then by rw [e]; exact c37 else hE j (by omega)) (by omega)
        ·
          refine z_iconst C d_N_isSame_40 ?_
          exact z_iret C K d_N_isSame_41 (by decide) 0 (rfl) (show iI 0 = iI 0 ∧ ((0 = 1 ∧ (∀ i : Nat, (i : Int) < nn sl.toNat → nl (sl * 12 + i).toNat = tF (ls + i).toNat)) ∨ (0 = 0 ∧ ¬ (∀ i : Nat, (i : Int) < nn sl.toNat → nl (sl * 12 + i).toNat = tF (ls + i).toNat))) from ⟨rfl, Or.inr ⟨rfl, fun z => c37 (by have := z k.toNat (by omega); rw [show ((k.toNat : Nat) : Int) = k by omega] at this; exact this)⟩⟩)
  refine z_lv [1, 2, 3, 0] (lv' := [(0, .ref aN), (1, .int (iI sl)), (2, .ref aL), (3, .int (iI 0))]) rfl ?_
  exact loop2 (_ + 1) _ (by omega) (fun j hj => absurd hj (by omega)) (Nat.lt_succ_self _)
