set_option maxHeartbeats 4000000 in
set_option maxRecDepth 100000 in
theorem m_N_slotOf (l : Launch) (G : GG) (sz : Nat) (aN : Nat) (aNl : Nat) (aNn : Nat) (aNt : Nat) (nl : Nat → Int) (nn : Nat → Int) (aL : Nat) (aT : Nat) (ls : Int) (la : Int) (lk : Int) (aTb : Nat) (tl : Int) (tF : Nat → Int) (h1 : 0 ≤ ls ∧ ls ≤ la ∧ la ≤ 4096 ∧ la - ls ≤ 12) (hn : ∀ j, 0 ≤ nn j ∧ nn j ≤ 12) (hb : byt nl ∧ byt tF) : MetI l G sz y_N_slotOf c_N_slotOf 3 (some .int) ({ frames := 1, cells := 0, slots := 0, locals := 23 } : Room) [.ref aN, .ref aL] [(aN, .inr (3, [.ref aNl, .ref aNn, .ref aNt])), bA G aNl 480 nl, iA G aNn 40 nn, (aL, .inr (2, [.ref aT, .int (iI ls), .int (iI la), .int (iI lk)])), (aT, .inr (0, [.ref aTb, .int (iI tl)])), bA G aTb 4096 tF] (fun (r : Int32) (u : Int) => r = iI u ∧ ((0 ≤ u ∧ u < 40 ∧ isN nl nn tF ls la u ∧ ∀ s, 0 ≤ s → s < u → ¬ isN nl nn tF ls la s) ∨ (u = -1 ∧ ∀ s, 0 ≤ s → s < 40 → ¬ isN nl nn tF ls la s))) (fun (u : Int) => [(aN, .inr (3, [.ref aNl, .ref aNn, .ref aNt])), bA G aNl 480 nl, iA G aNn 40 nn, (aL, .inr (2, [.ref aT, .int (iI ls), .int (iI la), .int (iI lk)])), (aT, .inr (0, [.ref aTb, .int (iI tl)])), bA G aTb 4096 tF]) := by
  refine MetI.mk (by decide) (Nat.le_of_ble_eq_true rfl) (fun X C K => ?_)
  show Zc G X 3 0 0 [(aN, .inr (3, [.ref aNl, .ref aNn, .ref aNt])), bA G aNl 480 nl, iA G aNn 40 nn, (aL, .inr (2, [.ref aT, .int (iI ls), .int (iI la), .int (iI lk)])), (aT, .inr (0, [.ref aTb, .int (iI tl)])), bA G aTb 4096 tF] [(0, .ref aN), (1, .ref aL)] 0 []
  refine z_iconst C d_N_slotOf_0 ?_
  refine z_istore_n (lv' := [(2, .int (iI 0)), (0, .ref aN), (1, .ref aL)]) C d_N_slotOf_1 (by decide) rfl ?_
  have loop2 : ∀ (kq : Nat) (k : Int), (0 ≤ k ∧ k ≤ 40) → (∀ s, 0 ≤ s → s < k → ¬ isN nl nn tF ls la s) → ((40 - k).toNat < kq) → Zc G X 3 0 0 [(aN, .inr (3, [.ref aNl, .ref aNn, .ref aNt])), bA G aNl 480 nl, iA G aNn 40 nn, (aL, .inr (2, [.ref aT, .int (iI ls), .int (iI la), .int (iI lk)])), (aT, .inr (0, [.ref aTb, .int (iI tl)])), bA G aTb 4096 tF] [(0, .ref aN), (1, .ref aL), (2, .int (iI k))] 2 [] := by
    intro kq
    induction kq with
    | zero => intro k hk hE hm; exact absurd hm (Nat.not_lt_zero _)
    | succ kq ih2 =>
      intro k hk hE hm
      have hnk := hn k.toNat
      -- loop body
      refine z_iload_n C d_N_slotOf_2 2 rfl ?_
      refine z_bipush C d_N_slotOf_3 (by decide) ?_
      refine z_icmp_ge (tgt := 43) C d_N_slotOf_5 (by decide) (by omega) (by omega) (fun c5 => ?_) (fun c5 => ?_)
      ·
        refine z_iconst C d_N_slotOf_43 ?_
        exact z_iret C K d_N_slotOf_44 (rfl) (-1) (rfl) (show iI (-1) = iI (-1) ∧ ((0 ≤ (-1) ∧ (-1) < 40 ∧ isN nl nn tF ls la (-1) ∧ ∀ s, 0 ≤ s → s < (-1) → ¬ isN nl nn tF ls la s) ∨ ((-1) = -1 ∧ ∀ s, 0 ≤ s → s < 40 → ¬ isN nl nn tF ls la s)) from ⟨rfl, Or.inr ⟨rfl, fun s h0 h2 => hE s h0 (by omega)⟩⟩)
      ·
        refine z_aload_n C d_N_slotOf_8 0 rfl ?_
        refine z_get C f_N_15 d_N_slotOf_9 0 rfl rfl ?_
        refine z_iload_n C d_N_slotOf_12 2 rfl ?_
        refine z_iald C d_N_slotOf_13 2 rfl (by omega) ?_
        refine z_aload_n C d_N_slotOf_14 1 rfl ?_
        refine z_get C f_N_32 d_N_slotOf_15 3 rfl rfl ?_
        refine z_aload_n C d_N_slotOf_18 1 rfl ?_
        refine z_get C f_N_38 d_N_slotOf_19 3 rfl rfl ?_
        refine z_isub C d_N_slotOf_22 ?_
        refine z_icmp_ne (tgt := 37) C d_N_slotOf_23 (by decide) (by omega) (by omega) (fun c23 => ?_) (fun c23 => ?_)
        ·
          refine z_iinc (lv' := [(2, .int (iI (k + 1))), (0, .ref aN), (1, .ref aL)]) C d_N_slotOf_37 2 rfl (by decide) rfl ?_
          refine z_goto (tgt := 2) C d_N_slotOf_40 (by decide) ?_
          refine z_lv [1, 2, 0] (lv' := [(0, .ref aN), (1, .ref aL), (2, .int (iI (k + 1)))]) rfl ?_
          exact ih2 _ (by omega) (fun s h0 hj => if e : s = k then by rw [e]; exact fun z => c23 z.1 else hE s h0 (by omega)) (by omega)
        ·
          refine z_aload_n C d_N_slotOf_26 0 rfl ?_
          refine z_iload_n C d_N_slotOf_27 2 rfl ?_
          refine z_aload_n C d_N_slotOf_28 1 rfl ?_
          refine z_calli (As := [.int (iI k), .ref aL]) (rest := []) (wr := []) (ws' := fun u => [(aN, .inr (3, [.ref aNl, .ref aNn, .ref aNt])), bA G aNl 480 nl, iA G aNn 40 nn, (aL, .inr (2, [.ref aT, .int (iI ls), .int (iI la), .int (iI lk)])), (aT, .inr (0, [.ref aTb, .int (iI tl)])), bA G aTb 4096 tF]) (q0 := 0) C k_N_50 kc_N_isSame (fun l sz => m_N_isSame l G sz aN aNl aNn aNt nl nn aL aT ls la lk aTb tl tF k (by omega) (by omega)) rfl rfl (Nat.le_of_ble_eq_true rfl) (by decide) d_N_slotOf_29 rfl rfl [0, 1, 2, 3, 4, 5] [] [0, 1, 2, 3, 4, 5] rfl rfl (by decide) (fun u => rfl) (fun r u h29 => ?_)
          obtain ⟨rr_29, rfl⟩ : ∃ z, z = u := ⟨_, rfl⟩
          obtain ⟨rfl, he_29⟩ := h29
          have he_29 : (rr_29 = 1 ∧ (∀ i : Nat, (i : Int) < nn k.toNat → nl (k * 12 + i).toNat = tF (ls + i).toNat)) ∨ (rr_29 = 0 ∧ ¬ (∀ i : Nat, (i : Int) < nn k.toNat → nl (k * 12 + i).toNat = tF (ls + i).toNat)) := he_29
          show Zc G X 3 0 0 [(aN, .inr (3, [.ref aNl, .ref aNn, .ref aNt])), bA G aNl 480 nl, iA G aNn 40 nn, (aL, .inr (2, [.ref aT, .int (iI ls), .int (iI la), .int (iI lk)])), (aT, .inr (0, [.ref aTb, .int (iI tl)])), bA G aTb 4096 tF] [(0, .ref aN), (1, .ref aL), (2, .int (iI k))] 32 [.int (iI rr_29)]
          rcases he_29 with ⟨rfl, s29⟩ | ⟨rfl, s29⟩
          ·
            skip
            refine z_if_eq (tgt := 37) C d_N_slotOf_32 (by decide) (by omega) (fun c32 => ?_) (fun c32 => ?_)
            · exact absurd c32 (by omega)
            ·
              refine z_iload_n C d_N_slotOf_35 2 rfl ?_
              exact z_iret C K d_N_slotOf_36 (rfl) k (rfl) (show iI k = iI k ∧ ((0 ≤ k ∧ k < 40 ∧ isN nl nn tF ls la k ∧ ∀ s, 0 ≤ s → s < k → ¬ isN nl nn tF ls la s) ∨ (k = -1 ∧ ∀ s, 0 ≤ s → s < 40 → ¬ isN nl nn tF ls la s)) from ⟨rfl, Or.inl ⟨by omega, by omega, ⟨by omega, s29⟩, hE⟩⟩)
          ·
            skip
            refine z_if_eq (tgt := 37) C d_N_slotOf_32 (by decide) (by omega) (fun c32 => ?_) (fun c32 => ?_)
            ·
              refine z_iinc (lv' := [(2, .int (iI (k + 1))), (0, .ref aN), (1, .ref aL)]) C d_N_slotOf_37 2 rfl (by decide) rfl ?_
              refine z_goto (tgt := 2) C d_N_slotOf_40 (by decide) ?_
              refine z_lv [1, 2, 0] (lv' := [(0, .ref aN), (1, .ref aL), (2, .int (iI (k + 1)))]) rfl ?_
              exact ih2 _ (by omega) (fun s h0 hj => if e : s = k then by rw [e]; exact fun z => s29 z.2 else hE s h0 (by omega)) (by omega)
            · exact absurd c32 (by omega)
  refine z_lv [1, 2, 0] (lv' := [(0, .ref aN), (1, .ref aL), (2, .int (iI 0))]) rfl ?_
  exact loop2 (_ + 1) _ (by omega) (fun s h0 h1 => absurd h1 (by omega)) (Nat.lt_succ_self _)
set_option maxHeartbeats 4000000 in
set_option maxRecDepth 100000 in
theorem m_N_tell (l : Launch) (G : GG) (sz : Nat) (aN : Nat) (aNl : Nat) (aNn : Nat) (aNt : Nat) (nl : Nat → Int) (nn : Nat → Int) (nt : Nat → Int) (aL : Nat) (aT : Nat) (ls : Int) (la : Int) (lk : Int) (aTb : Nat) (tl : Int) (tF : Nat → Int) (so : Int) (h1 : 0 ≤ ls ∧ ls ≤ la ∧ la ≤ 4096 ∧ la - ls ≤ 12) (hs : so = 0 ∨ so = 1 ∨ so = 2) (h2 : 0 ≤ sbl nt so ∧ sbl nt so < 40) (hb : byt nl ∧ byt tF) : MetV l G sz y_N_tell c_N_tell 6 ({ frames := 1, cells := 0, slots := 0, locals := 21 } : Room) [.ref aN, .int (iI so), .ref aL] [(aN, .inr (3, [.ref aNl, .ref aNn, .ref aNt])), bA G aNl 480 nl, iA G aNn 40 nn, iA G aNt 3 nt, (aL, .inr (2, [.ref aT, .int (iI ls), .int (iI la), .int (iI lk)])), (aT, .inr (0, [.ref aTb, .int (iI tl)])), bA G aTb 4096 tF] (fun (u : (Nat → Int)) => (∀ j : Nat, (j : Int) < la - ls → u (sbl nt so * 12 + j).toNat = tF (ls + j).toNat) ∧ (∀ j : Nat, ((j : Int) < sbl nt so * 12 ∨ sbl nt so * 12 + 12 ≤ j) → u j = nl j) ∧ (byt u)) (fun (u : (Nat → Int)) => [(aN, .inr (3, [.ref aNl, .ref aNn, .ref aNt])), bA G aNl 480 u, iA G aNn 40 (uZ nn (sbl nt so).toNat (la - ls)), iA G aNt 3 (uZ nt so.toNat (nt so.toNat + 1)), (aL, .inr (2, [.ref aT, .int (iI ls), .int (iI la), .int (iI lk)])), (aT, .inr (0, [.ref aTb, .int (iI tl)])), bA G aTb 4096 tF]) := by
  refine MetV.mk (by decide) (Nat.le_of_ble_eq_true rfl) (fun X C K => ?_)
  show Zc G X 6 0 0 [(aN, .inr (3, [.ref aNl, .ref aNn, .ref aNt])), bA G aNl 480 nl, iA G aNn 40 nn, iA G aNt 3 nt, (aL, .inr (2, [.ref aT, .int (iI ls), .int (iI la), .int (iI lk)])), (aT, .inr (0, [.ref aTb, .int (iI tl)])), bA G aTb 4096 tF] [(0, .ref aN), (1, .int (iI so)), (2, .ref aL)] 0 []
  refine z_aload_n C d_N_tell_0 0 rfl ?_
  refine z_iload_n C d_N_tell_1 1 rfl ?_
  refine z_calli (As := [.int (iI so)]) (rest := []) (wr := [bA G aNl 480 nl, iA G aNn 40 nn, (aL, .inr (2, [.ref aT, .int (iI ls), .int (iI la), .int (iI lk)])), (aT, .inr (0, [.ref aTb, .int (iI tl)])), bA G aTb 4096 tF]) (ws' := fun u => [(aN, .inr (3, [.ref aNl, .ref aNn, .ref aNt])), bA G aNl 480 nl, iA G aNn 40 nn, iA G aNt 3 nt, (aL, .inr (2, [.ref aT, .int (iI ls), .int (iI la), .int (iI lk)])), (aT, .inr (0, [.ref aTb, .int (iI tl)])), bA G aTb 4096 tF]) (q0 := 0) C k_N_28 kc_N_slotBehindLast (fun l sz => m_N_slotBehindLast l G sz aN aNl aNn aNt nt so (by omega)) rfl rfl (Nat.le_of_ble_eq_true rfl) (by decide) d_N_tell_2 rfl rfl [0, 3] [1, 2, 4, 5, 6] [5, 0, 1, 6, 2, 3, 4] rfl rfl (by decide) (fun u => rfl) (fun r u h2 => ?_)
  obtain rfl := h2
  show Zc G X 6 0 0 [(aN, .inr (3, [.ref aNl, .ref aNn, .ref aNt])), bA G aNl 480 nl, iA G aNn 40 nn, iA G aNt 3 nt, (aL, .inr (2, [.ref aT, .int (iI ls), .int (iI la), .int (iI lk)])), (aT, .inr (0, [.ref aTb, .int (iI tl)])), bA G aTb 4096 tF] [(0, .ref aN), (1, .int (iI so)), (2, .ref aL)] 5 [.int (iI (sbl nt so))]
  refine z_istore_n (lv' := [(3, .int (iI (sbl nt so))), (0, .ref aN), (1, .int (iI so)), (2, .ref aL)]) C d_N_tell_5 (by decide) rfl ?_
  refine z_aload_n C d_N_tell_6 3 rfl ?_
  refine z_get C f_N_32 d_N_tell_7 4 rfl rfl ?_
  refine z_aload_n C d_N_tell_10 3 rfl ?_
  refine z_get C f_N_38 d_N_tell_11 4 rfl rfl ?_
  refine z_isub C d_N_tell_14 ?_
  refine z_istore (lv' := [(4, .int (iI (la - ls))), (3, .int (iI (sbl nt so))), (0, .ref aN), (1, .int (iI so)), (2, .ref aL)]) C d_N_tell_15 (by decide) rfl ?_
  refine z_iconst C d_N_tell_17 ?_
  refine z_istore (lv' := [(5, .int (iI 0)), (4, .int (iI (la - ls))), (3, .int (iI (sbl nt so))), (0, .ref aN), (1, .int (iI so)), (2, .ref aL)]) C d_N_tell_18 (by decide) rfl ?_
  have loop20 : ∀ (kq : Nat) (k : Int) (E : Nat → Int), (0 ≤ k ∧ k ≤ la - ls) → (∀ j : Nat, (j : Int) < k → E (sbl nt so * 12 + j).toNat = tF (ls + j).toNat) → (∀ j : Nat, ((j : Int) < sbl nt so * 12 ∨ sbl nt so * 12 + 12 ≤ j) → E j = nl j) → (byt E) → ((la - ls - k).toNat < kq) → Zc G X 6 0 0 [(aN, .inr (3, [.ref aNl, .ref aNn, .ref aNt])), bA G aNl 480 E, iA G aNn 40 nn, iA G aNt 3 nt, (aL, .inr (2, [.ref aT, .int (iI ls), .int (iI la), .int (iI lk)])), (aT, .inr (0, [.ref aTb, .int (iI tl)])), bA G aTb 4096 tF] [(0, .ref aN), (1, .int (iI so)), (2, .ref aL), (3, .int (iI (sbl nt so))), (4, .int (iI (la - ls))), (5, .int (iI k))] 20 [] := by
    intro kq
    induction kq with
    | zero => intro k E hk hE hO hB hm; exact absurd hm (Nat.not_lt_zero _)
    | succ kq ih20 =>
      intro k E hk hE hO hB hm
      -- loop body
      refine z_iload C d_N_tell_20 5 rfl ?_
      refine z_iload C d_N_tell_22 4 rfl ?_
      refine z_icmp_ge (tgt := 67) C d_N_tell_24 (by decide) (by omega) (by omega) (fun c24 => ?_) (fun c24 => ?_)
      ·
        refine z_aload_n C d_N_tell_67 0 rfl ?_
        refine z_get C f_N_15 d_N_tell_68 0 rfl rfl ?_
        refine z_iload_n C d_N_tell_71 3 rfl ?_
        refine z_iload C d_N_tell_72 4 rfl ?_
        refine z_iast C d_N_tell_74 2 rfl (by omega) [(aN, .inr (3, [.ref aNl, .ref aNn, .ref aNt])), bA G aNl 480 E, iA G aNn 40 (uZ nn ((sbl nt so).toNat) (la - ls)), iA G aNt 3 nt, (aL, .inr (2, [.ref aT, .int (iI ls), .int (iI la), .int (iI lk)])), (aT, .inr (0, [.ref aTb, .int (iI tl)])), bA G aTb 4096 tF] (rfl) ?_
        refine z_aload_n C d_N_tell_75 0 rfl ?_
        refine z_get C f_N_19 d_N_tell_76 0 rfl rfl ?_
        refine z_iload_n C d_N_tell_79 1 rfl ?_
        refine z_dup2 C d_N_tell_80 rfl rfl ?_
        refine z_iald C d_N_tell_81 3 rfl (by omega) ?_
        refine z_iconst C d_N_tell_82 ?_
        refine z_iadd C d_N_tell_83 ?_
        refine z_iast C d_N_tell_84 3 rfl (by omega) [(aN, .inr (3, [.ref aNl, .ref aNn, .ref aNt])), bA G aNl 480 E, iA G aNn 40 (uZ nn ((sbl nt so).toNat) (la - ls)), iA G aNt 3 (uZ nt so.toNat ((nt so.toNat) + 1)), (aL, .inr (2, [.ref aT, .int (iI ls), .int (iI la), .int (iI lk)])), (aT, .inr (0, [.ref aTb, .int (iI tl)])), bA G aTb 4096 tF] (rfl) ?_
        exact z_vret C K d_N_tell_85 E (rfl) (show (∀ j : Nat, (j : Int) < la - ls → E (sbl nt so * 12 + j).toNat = tF (ls + j).toNat) ∧ (∀ j : Nat, ((j : Int) < sbl nt so * 12 ∨ sbl nt so * 12 + 12 ≤ j) → E j = nl j) ∧ (byt E) from ⟨fun j hj => hE j (by omega), hO, hB⟩)
      ·
        refine z_iload C d_N_tell_27 5 rfl ?_
        refine z_bipush C d_N_tell_29 (by decide) ?_
        refine z_icmp_ge (tgt := 67) C d_N_tell_31 (by decide) (by omega) (by omega) (fun c31 => ?_) (fun c31 => ?_)
        · exact absurd c31 (by omega)
        ·
          refine z_aload_n C d_N_tell_34 0 rfl ?_
          refine z_get C f_N_11 d_N_tell_35 0 rfl rfl ?_
          refine z_iload_n C d_N_tell_38 3 rfl ?_
          refine z_bipush C d_N_tell_39 (by decide) ?_
          refine z_imul C d_N_tell_41 ?_
          refine z_iload C d_N_tell_42 5 rfl ?_
          refine z_iadd C d_N_tell_44 ?_
          refine z_aload_n C d_N_tell_45 2 rfl ?_
          refine z_get C f_N_41 d_N_tell_46 4 rfl rfl ?_
          refine z_get C f_N_45 d_N_tell_49 5 rfl rfl ?_
          refine z_aload_n C d_N_tell_52 2 rfl ?_
          refine z_get C f_N_38 d_N_tell_53 4 rfl rfl ?_
          refine z_iload C d_N_tell_56 5 rfl ?_
          refine z_iadd C d_N_tell_58 ?_
          refine z_bald C d_N_tell_59 6 rfl (by omega) ?_
          refine z_bast C d_N_tell_60 1 rfl (by have := hb.2 (ls + k).toNat; omega) [(aN, .inr (3, [.ref aNl, .ref aNn, .ref aNt])), bA G aNl 480 (uZ E ((((sbl nt so) * 12) + k).toNat) (tF ((ls + k).toNat))), iA G aNn 40 nn, iA G aNt 3 nt, (aL, .inr (2, [.ref aT, .int (iI ls), .int (iI la), .int (iI lk)])), (aT, .inr (0, [.ref aTb, .int (iI tl)])), bA G aTb 4096 tF] (rfl) ?_
          refine z_iinc (lv' := [(5, .int (iI (k + 1))), (0, .ref aN), (1, .int (iI so)), (2, .ref aL), (3, .int (iI (sbl nt so))), (4, .int (iI (la - ls)))]) C d_N_tell_61 5 rfl (by decide) rfl ?_
          refine z_goto (tgt := 20) C d_N_tell_64 (by decide) ?_
          refine z_lv [1, 2, 3, 4, 5, 0] (lv' := [(0, .ref aN), (1, .int (iI so)), (2, .ref aL), (3, .int (iI (sbl nt so))), (4, .int (iI (la - ls))), (5, .int (iI (k + 1)))]) rfl ?_
          exact ih20 _ _ (by omega) (fun j hj => if e : (sbl nt so * 12 + (j : Int)).toNat = (sbl nt so * 12 + k).toNat then by rw [e, uZ_s, show k = (j : Int) by omega] else by rw [uZ_n e]; exact hE j (by omega)) (fun j hj => by rw [uZ_n (by omega)]; exact hO j hj) (uZ_byt hB (hb.2 _)) (by omega)
  refine z_lv [3, 4, 5, 2, 1, 0] (lv' := [(0, .ref aN), (1, .int (iI so)), (2, .ref aL), (3, .int (iI (sbl nt so))), (4, .int (iI (la - ls))), (5, .int (iI 0))]) rfl ?_
  exact loop20 (_ + 1) _ _ (by omega) (fun j hj => absurd hj (by omega)) (fun j hj => rfl) (hb.1) (Nat.lt_succ_self _)
set_option maxHeartbeats 4000000 in
set_option maxRecDepth 100000 in
theorem m_N_write (l : Launch) (G : GG) (sz : Nat) (aN : Nat) (aNl : Nat) (aNn : Nat) (aNt : Nat) (nl : Nat → Int) (nn : Nat → Int) (aP : Nat) (aPb : Nat) (pl : Int) (pF : Nat → Int) (sl : Int) (h1 : 0 ≤ sl ∧ sl < 40 ∧ 0 ≤ nn sl.toNat ∧ nn sl.toNat ≤ 12 ∧ 0 ≤ pl ∧ pl + ((nmC nl nn sl).length : Int) ≤ 5632) : MetV l G sz y_N_write c_N_write 4 ({ frames := 1, cells := 0, slots := 0, locals := 21 } : Room) [.ref aN, .int (iI sl), .ref aP] [(aN, .inr (3, [.ref aNl, .ref aNn, .ref aNt])), bA G aNl 480 nl, iA G aNn 40 nn, (aP, .inr (0, [.ref aPb, .int (iI pl)])), bA G aPb 5632 pF] (fun (u : Unit) => True) (fun (u : Unit) => [(aN, .inr (3, [.ref aNl, .ref aNn, .ref aNt])), bA G aNl 480 nl, iA G aNn 40 nn, (aP, .inr (0, [.ref aPb, .int (iI (pl + ((nmC nl nn sl).length : Int)))])), bA G aPb 5632 (wr pF pl (nmC nl nn sl))]) := by
  refine MetV.mk (by decide) (Nat.le_of_ble_eq_true rfl) (fun X C K => ?_)
  show Zc G X 4 0 0 [(aN, .inr (3, [.ref aNl, .ref aNn, .ref aNt])), bA G aNl 480 nl, iA G aNn 40 nn, (aP, .inr (0, [.ref aPb, .int (iI pl)])), bA G aPb 5632 pF] [(0, .ref aN), (1, .int (iI sl)), (2, .ref aP)] 0 []
  have hln := nmC_len (nl := nl) (nn := nn) (s := sl) h1.2.2.1
  refine z_iconst C d_N_write_0 ?_
  refine z_istore_n (lv' := [(3, .int (iI 0)), (0, .ref aN), (1, .int (iI sl)), (2, .ref aP)]) C d_N_write_1 (by decide) rfl ?_
  have loop2 : ∀ (kq : Nat) (k : Int) (q : Int) (E : Nat → Int), (0 ≤ k ∧ k ≤ nn sl.toNat ∧ q = pl + k) → (wr E q (seg nl (sl * 12 + k).toNat (nn sl.toNat - k).toNat) = wr pF pl (seg nl (sl * 12).toNat (nn sl.toNat).toNat)) → ((nn sl.toNat - k).toNat < kq) → Zc G X 4 0 0 [(aN, .inr (3, [.ref aNl, .ref aNn, .ref aNt])), bA G aNl 480 nl, iA G aNn 40 nn, (aP, .inr (0, [.ref aPb, .int (iI q)])), bA G aPb 5632 E] [(0, .ref aN), (1, .int (iI sl)), (2, .ref aP), (3, .int (iI k))] 2 [] := by
    intro kq
    induction kq with
    | zero => intro k q E hk hE hm; exact absurd hm (Nat.not_lt_zero _)
    | succ kq ih2 =>
      intro k q E hk hE hm
      -- loop body
      refine z_iload_n C d_N_write_2 3 rfl ?_
      refine z_aload_n C d_N_write_3 0 rfl ?_
      refine z_get C f_N_15 d_N_write_4 0 rfl rfl ?_
      refine z_iload_n C d_N_write_7 1 rfl ?_
      refine z_iald C d_N_write_8 2 rfl (by omega) ?_
      refine z_icmp_ge (tgt := 33) C d_N_write_9 (by decide) (by omega) (by omega) (fun c9 => ?_) (fun c9 => ?_)
      ·
        have e0 : (nn sl.toNat - k).toNat = 0 := by omega
        rw [e0] at hE
        have hE2 : E = wr pF pl (seg nl (sl * 12).toNat (nn sl.toNat).toNat) := hE
        exact z_vret C K d_N_write_33 () (by rw [show q = pl + ((nmC nl nn sl).length : Int) by omega, hE2]; rfl) (trivial)
      ·
        refine z_aload_n C d_N_write_12 2 rfl ?_
        refine z_aload_n C d_N_write_13 0 rfl ?_
        refine z_get C f_N_11 d_N_write_14 0 rfl rfl ?_
        refine z_iload_n C d_N_write_17 1 rfl ?_
        refine z_bipush C d_N_write_18 (by decide) ?_
        refine z_imul C d_N_write_20 ?_
        refine z_iload_n C d_N_write_21 3 rfl ?_
        refine z_iadd C d_N_write_22 ?_
        refine z_bald C d_N_write_23 1 rfl (by omega) ?_
        refine z_callv (As := [.int (iI (nl (((sl * 12) + k).toNat)))]) (rest := []) (wr := [(aN, .inr (3, [.ref aNl, .ref aNn, .ref aNt])), bA G aNl 480 nl, iA G aNn 40 nn]) (ws' := fun u => [(aN, .inr (3, [.ref aNl, .ref aNn, .ref aNt])), bA G aNl 480 nl, iA G aNn 40 nn, (aP, .inr (0, [.ref aPb, .int (iI (q + 1))])), bA G aPb 5632 (wr E q [(nl (((sl * 12) + k).toNat))])]) (q0 := 3) C k_N_54 kc_B_add (fun l sz => m_B_add l G sz aP aPb 5632 q E (nl (((sl * 12) + k).toNat)) (by omega)) rfl rfl (Nat.le_of_ble_eq_true rfl) (by decide) d_N_write_24 rfl rfl [3, 4] [0, 1, 2] [0, 1, 2, 3, 4] rfl rfl (by decide) (fun u => rfl) (fun u h24 => ?_)
        show Zc G X 4 0 0 [(aN, .inr (3, [.ref aNl, .ref aNn, .ref aNt])), bA G aNl 480 nl, iA G aNn 40 nn, (aP, .inr (0, [.ref aPb, .int (iI (q + 1))])), bA G aPb 5632 (wr E q [(nl (((sl * 12) + k).toNat))])] [(0, .ref aN), (1, .int (iI sl)), (2, .ref aP), (3, .int (iI k))] 27 []
        refine z_iinc (lv' := [(3, .int (iI (k + 1))), (0, .ref aN), (1, .int (iI sl)), (2, .ref aP)]) C d_N_write_27 3 rfl (by decide) rfl ?_
        refine z_goto (tgt := 2) C d_N_write_30 (by decide) ?_
        refine z_lv [1, 2, 3, 0] (lv' := [(0, .ref aN), (1, .int (iI sl)), (2, .ref aP), (3, .int (iI (k + 1)))]) rfl ?_
        exact ih2 _ _ _ (by omega) (by rw [seg_step nl (by omega) (by omega)] at hE; rw [show sl * 12 + (k + 1) = sl * 12 + k + 1 by omega, show nn sl.toNat - (k + 1) = nn sl.toNat - k - 1 by omega]; exact hE) (by omega)
  refine z_lv [1, 2, 3, 0] (lv' := [(0, .ref aN), (1, .int (iI sl)), (2, .ref aP), (3, .int (iI 0))]) rfl ?_
  exact loop2 (_ + 1) _ _ _ (by omega) (by rw [Int.add_zero, Int.sub_zero]) (Nat.lt_succ_self _)
