set_option maxHeartbeats 4000000 in
set_option maxRecDepth 100000 in
theorem m_M_forget (l : Launch) (G : GG) (sz : Nat) (aM : Nat) (aWc : Nat) (aTx : Nat) (aOu : Nat) (aSo : Nat) (aNf : Nat) (aNg : Nat) (aSr : Nat) (aNu : Nat) (aMa : Nat) (aNo : Nat) (aLe : Nat) (aAc : Nat) (aDi : Nat) (aOr : Nat) (mth : Int) (msz : Int) (mwr : Int) (mfa : Int) (mpl : Int) (mle : Int) (mna : Int) (mfi : Int) (mru : Int) (mnv : Int) (mki : Int) (mfr : Int) (mto : Int) (mwh : Int) (ma : Nat → Int) (le : Nat → Int) (ac : Nat → Int)  : MetV l G sz y_M_forget c_M_forget 2 ({ frames := 0, cells := 0, slots := 0, locals := 0 } : Room) [.ref aM] [(aM, .inr (8, [.ref aWc, .int (iI mth), .int (iI msz), .ref aTx, .int (iI mwr), .ref aOu, .int (iI mfa), .int (iI mpl), .int (iI mle), .int (iI mna), .ref aSo, .ref aNf, .ref aNg, .ref aSr, .ref aNu, .ref aMa, .ref aNo, .int (iI mfi), .int (iI mru), .int (iI mnv), .ref aLe, .ref aAc, .ref aDi, .ref aOr, .int (iI mki), .int (iI mfr), .int (iI mto), .int (iI mwh)])), iA G aMa 3 ma, iA G aLe 384 le, iA G aAc 1536 ac] (fun (u : Unit) => True) (fun (u : Unit) => [(aM, .inr (8, [.ref aWc, .int (iI mth), .int (iI msz), .ref aTx, .int (iI mwr), .ref aOu, .int (iI mfa), .int (iI mpl), .int (iI mle), .int (iI 0), .ref aSo, .ref aNf, .ref aNg, .ref aSr, .ref aNu, .ref aMa, .ref aNo, .int (iI 0), .int (iI 0), .int (iI 0), .ref aLe, .ref aAc, .ref aDi, .ref aOr, .int (iI mki), .int (iI mfr), .int (iI mto), .int (iI mwh)])), iA G aMa 3 (flZ 3 0 ma), iA G aLe 384 (flZ 384 (-1) le), iA G aAc 1536 (flZ 1536 (-1) ac)]) := by
  refine MetV.mk (by decide) (Nat.le_of_ble_eq_true rfl) (fun X C K => ?_)
  show Zc G X 2 0 0 [(aM, .inr (8, [.ref aWc, .int (iI mth), .int (iI msz), .ref aTx, .int (iI mwr), .ref aOu, .int (iI mfa), .int (iI mpl), .int (iI mle), .int (iI mna), .ref aSo, .ref aNf, .ref aNg, .ref aSr, .ref aNu, .ref aMa, .ref aNo, .int (iI mfi), .int (iI mru), .int (iI mnv), .ref aLe, .ref aAc, .ref aDi, .ref aOr, .int (iI mki), .int (iI mfr), .int (iI mto), .int (iI mwh)])), iA G aMa 3 ma, iA G aLe 384 le, iA G aAc 1536 ac] [(0, .ref aM)] 0 []
  refine z_aload_n C d_M_forget_0 0 rfl ?_
  refine z_iconst C d_M_forget_1 ?_
  refine z_put C f_M_115 ok_M nm_M d_M_forget_2 0 rfl rfl rfl rfl (Nat.le_of_ble_eq_true rfl) [(aM, .inr (8, [.ref aWc, .int (iI mth), .int (iI msz), .ref aTx, .int (iI mwr), .ref aOu, .int (iI mfa), .int (iI mpl), .int (iI mle), .int (iI 0), .ref aSo, .ref aNf, .ref aNg, .ref aSr, .ref aNu, .ref aMa, .ref aNo, .int (iI mfi), .int (iI mru), .int (iI mnv), .ref aLe, .ref aAc, .ref aDi, .ref aOr, .int (iI mki), .int (iI mfr), .int (iI mto), .int (iI mwh)])), iA G aMa 3 ma, iA G aLe 384 le, iA G aAc 1536 ac] rfl ?_
  refine z_aload_n C d_M_forget_5 0 rfl ?_
  refine z_iconst C d_M_forget_6 ?_
  refine z_put C f_M_151 ok_M nm_M d_M_forget_7 0 rfl rfl rfl rfl (Nat.le_of_ble_eq_true rfl) [(aM, .inr (8, [.ref aWc, .int (iI mth), .int (iI msz), .ref aTx, .int (iI mwr), .ref aOu, .int (iI mfa), .int (iI mpl), .int (iI mle), .int (iI 0), .ref aSo, .ref aNf, .ref aNg, .ref aSr, .ref aNu, .ref aMa, .ref aNo, .int (iI mfi), .int (iI 0), .int (iI mnv), .ref aLe, .ref aAc, .ref aDi, .ref aOr, .int (iI mki), .int (iI mfr), .int (iI mto), .int (iI mwh)])), iA G aMa 3 ma, iA G aLe 384 le, iA G aAc 1536 ac] rfl ?_
  refine z_aload_n C d_M_forget_10 0 rfl ?_
  refine z_iconst C d_M_forget_11 ?_
  refine z_put C f_M_154 ok_M nm_M d_M_forget_12 0 rfl rfl rfl rfl (Nat.le_of_ble_eq_true rfl) [(aM, .inr (8, [.ref aWc, .int (iI mth), .int (iI msz), .ref aTx, .int (iI mwr), .ref aOu, .int (iI mfa), .int (iI mpl), .int (iI mle), .int (iI 0), .ref aSo, .ref aNf, .ref aNg, .ref aSr, .ref aNu, .ref aMa, .ref aNo, .int (iI mfi), .int (iI 0), .int (iI 0), .ref aLe, .ref aAc, .ref aDi, .ref aOr, .int (iI mki), .int (iI mfr), .int (iI mto), .int (iI mwh)])), iA G aMa 3 ma, iA G aLe 384 le, iA G aAc 1536 ac] rfl ?_
  refine z_aload_n C d_M_forget_15 0 rfl ?_
  refine z_iconst C d_M_forget_16 ?_
  refine z_put C f_M_166 ok_M nm_M d_M_forget_17 0 rfl rfl rfl rfl (Nat.le_of_ble_eq_true rfl) [(aM, .inr (8, [.ref aWc, .int (iI mth), .int (iI msz), .ref aTx, .int (iI mwr), .ref aOu, .int (iI mfa), .int (iI mpl), .int (iI mle), .int (iI 0), .ref aSo, .ref aNf, .ref aNg, .ref aSr, .ref aNu, .ref aMa, .ref aNo, .int (iI 0), .int (iI 0), .int (iI 0), .ref aLe, .ref aAc, .ref aDi, .ref aOr, .int (iI mki), .int (iI mfr), .int (iI mto), .int (iI mwh)])), iA G aMa 3 ma, iA G aLe 384 le, iA G aAc 1536 ac] rfl ?_
  refine z_iconst C d_M_forget_20 ?_
  refine z_istore_n (lv' := [(1, .int (iI 0)), (0, .ref aM)]) C d_M_forget_21 (by decide) rfl ?_
  have loop22 : ∀ (kq : Nat) (k : Int) (E : Nat → Int), (0 ≤ k ∧ k ≤ 3) → (∀ j : Nat, E j = if (j : Int) < k then 0 else ma j) → ((3 - k).toNat < kq) → Zc G X 2 0 0 [(aM, .inr (8, [.ref aWc, .int (iI mth), .int (iI msz), .ref aTx, .int (iI mwr), .ref aOu, .int (iI mfa), .int (iI mpl), .int (iI mle), .int (iI 0), .ref aSo, .ref aNf, .ref aNg, .ref aSr, .ref aNu, .ref aMa, .ref aNo, .int (iI 0), .int (iI 0), .int (iI 0), .ref aLe, .ref aAc, .ref aDi, .ref aOr, .int (iI mki), .int (iI mfr), .int (iI mto), .int (iI mwh)])), iA G aMa 3 E, iA G aLe 384 le, iA G aAc 1536 ac] [(0, .ref aM), (1, .int (iI k))] 22 [] := by
    intro kq
    induction kq with
    | zero => intro k E hk hEE hm; exact absurd hm (Nat.not_lt_zero _)
    | succ kq ih22 =>
      intro k E hk hEE hm
      -- loop body
      refine z_iload_n C d_M_forget_22 1 rfl ?_
      refine z_iconst C d_M_forget_23 ?_
      refine z_icmp_ge (tgt := 40) C d_M_forget_24 (by decide) (by omega) (by omega) (fun c24 => ?_) (fun c24 => ?_)
      ·
        have eE : E = flZ 3 0 ma := funext (fun j => by rw [hEE j]; unfold flZ; (repeat' split) <;> first | rfl | (exfalso; omega))
        refine z_iconst C d_M_forget_40 ?_
        refine z_istore_n (lv' := [(1, .int (iI 0)), (0, .ref aM)]) C d_M_forget_41 (by decide) rfl ?_
        have loop42 : ∀ (kq : Nat) (k : Int) (D : Nat → Int), (0 ≤ k ∧ k ≤ 384) → (∀ j : Nat, D j = if (j : Int) < k then (-1) else le j) → ((384 - k).toNat < kq) → Zc G X 2 0 0 [(aM, .inr (8, [.ref aWc, .int (iI mth), .int (iI msz), .ref aTx, .int (iI mwr), .ref aOu, .int (iI mfa), .int (iI mpl), .int (iI mle), .int (iI 0), .ref aSo, .ref aNf, .ref aNg, .ref aSr, .ref aNu, .ref aMa, .ref aNo, .int (iI 0), .int (iI 0), .int (iI 0), .ref aLe, .ref aAc, .ref aDi, .ref aOr, .int (iI mki), .int (iI mfr), .int (iI mto), .int (iI mwh)])), iA G aMa 3 E, iA G aLe 384 D, iA G aAc 1536 ac] [(0, .ref aM), (1, .int (iI k))] 42 [] := by
          intro kq
          induction kq with
          | zero => intro k D hk hED hm; exact absurd hm (Nat.not_lt_zero _)
          | succ kq ih42 =>
            intro k D hk hED hm
            -- loop body
            refine z_iload_n C d_M_forget_42 1 rfl ?_
            refine z_sipush C d_M_forget_43 (by decide) ?_
            refine z_icmp_ge (tgt := 62) C d_M_forget_46 (by decide) (by omega) (by omega) (fun c46 => ?_) (fun c46 => ?_)
            ·
              have eD : D = flZ 384 (-1) le := funext (fun j => by rw [hED j]; unfold flZ; (repeat' split) <;> first | rfl | (exfalso; omega))
              refine z_iconst C d_M_forget_62 ?_
              refine z_istore_n (lv' := [(1, .int (iI 0)), (0, .ref aM)]) C d_M_forget_63 (by decide) rfl ?_
              have loop64 : ∀ (kq : Nat) (k : Int) (Q : Nat → Int), (0 ≤ k ∧ k ≤ 1536) → (∀ j : Nat, Q j = if (j : Int) < k then (-1) else ac j) → ((1536 - k).toNat < kq) → Zc G X 2 0 0 [(aM, .inr (8, [.ref aWc, .int (iI mth), .int (iI msz), .ref aTx, .int (iI mwr), .ref aOu, .int (iI mfa), .int (iI mpl), .int (iI mle), .int (iI 0), .ref aSo, .ref aNf, .ref aNg, .ref aSr, .ref aNu, .ref aMa, .ref aNo, .int (iI 0), .int (iI 0), .int (iI 0), .ref aLe, .ref aAc, .ref aDi, .ref aOr, .int (iI mki), .int (iI mfr), .int (iI mto), .int (iI mwh)])), iA G aMa 3 E, iA G aLe 384 D, iA G aAc 1536 Q] [(0, .ref aM), (1, .int (iI k))] 64 [] := by
                intro kq
                induction kq with
                | zero => intro k Q hk hEQ hm; exact absurd hm (Nat.not_lt_zero _)
                | succ kq ih64 =>
                  intro k Q hk hEQ hm
                  -- loop body
                  refine z_iload_n C d_M_forget_64 1 rfl ?_
                  refine z_sipush C d_M_forget_65 (by decide) ?_
                  refine z_icmp_ge (tgt := 84) C d_M_forget_68 (by decide) (by omega) (by omega) (fun c68 => ?_) (fun c68 => ?_)
                  ·
                    have eQ : Q = flZ 1536 (-1) ac := funext (fun j => by rw [hEQ j]; unfold flZ; (repeat' split) <;> first | rfl | (exfalso; omega))
                    exact z_vret C K d_M_forget_84 () (by rw [eE, eD, eQ]) (trivial)
                  ·
                    refine z_aload_n C d_M_forget_71 0 rfl ?_
                    refine z_get C f_M_43 d_M_forget_72 0 rfl rfl ?_
                    refine z_iload_n C d_M_forget_75 1 rfl ?_
                    refine z_iconst C d_M_forget_76 ?_
                    refine z_iast C d_M_forget_77 3 rfl (by omega) [(aM, .inr (8, [.ref aWc, .int (iI mth), .int (iI msz), .ref aTx, .int (iI mwr), .ref aOu, .int (iI mfa), .int (iI mpl), .int (iI mle), .int (iI 0), .ref aSo, .ref aNf, .ref aNg, .ref aSr, .ref aNu, .ref aMa, .ref aNo, .int (iI 0), .int (iI 0), .int (iI 0), .ref aLe, .ref aAc, .ref aDi, .ref aOr, .int (iI mki), .int (iI mfr), .int (iI mto), .int (iI mwh)])), iA G aMa 3 E, iA G aLe 384 D, iA G aAc 1536 (uZ Q k.toNat (-1))] (rfl) ?_
                    refine z_iinc (lv' := [(1, .int (iI (k + 1))), (0, .ref aM)]) C d_M_forget_78 1 rfl (by decide) rfl ?_
                    refine z_goto (tgt := 64) C d_M_forget_81 (by decide) ?_
                    refine z_lv [1, 0] (lv' := [(0, .ref aM), (1, .int (iI (k + 1)))]) rfl ?_
                    exact ih64 _ _ (by omega) (fun j => by unfold uZ; rw [hEQ j]; (repeat' split) <;> first | rfl | (exfalso; omega)) (by omega)
              refine z_lv [1, 0] (lv' := [(0, .ref aM), (1, .int (iI 0))]) rfl ?_
              exact loop64 (_ + 1) _ _ (by omega) (fun j => by rw [if_neg (by omega)]) (Nat.lt_succ_self _)
            ·
              refine z_aload_n C d_M_forget_49 0 rfl ?_
              refine z_get C f_M_40 d_M_forget_50 0 rfl rfl ?_
              refine z_iload_n C d_M_forget_53 1 rfl ?_
              refine z_iconst C d_M_forget_54 ?_
              refine z_iast C d_M_forget_55 2 rfl (by omega) [(aM, .inr (8, [.ref aWc, .int (iI mth), .int (iI msz), .ref aTx, .int (iI mwr), .ref aOu, .int (iI mfa), .int (iI mpl), .int (iI mle), .int (iI 0), .ref aSo, .ref aNf, .ref aNg, .ref aSr, .ref aNu, .ref aMa, .ref aNo, .int (iI 0), .int (iI 0), .int (iI 0), .ref aLe, .ref aAc, .ref aDi, .ref aOr, .int (iI mki), .int (iI mfr), .int (iI mto), .int (iI mwh)])), iA G aMa 3 E, iA G aLe 384 (uZ D k.toNat (-1)), iA G aAc 1536 ac] (rfl) ?_
              refine z_iinc (lv' := [(1, .int (iI (k + 1))), (0, .ref aM)]) C d_M_forget_56 1 rfl (by decide) rfl ?_
              refine z_goto (tgt := 42) C d_M_forget_59 (by decide) ?_
              refine z_lv [1, 0] (lv' := [(0, .ref aM), (1, .int (iI (k + 1)))]) rfl ?_
              exact ih42 _ _ (by omega) (fun j => by unfold uZ; rw [hED j]; (repeat' split) <;> first | rfl | (exfalso; omega)) (by omega)
        refine z_lv [1, 0] (lv' := [(0, .ref aM), (1, .int (iI 0))]) rfl ?_
        exact loop42 (_ + 1) _ _ (by omega) (fun j => by rw [if_neg (by omega)]) (Nat.lt_succ_self _)
      ·
        refine z_aload_n C d_M_forget_27 0 rfl ?_
        refine z_get C f_M_34 d_M_forget_28 0 rfl rfl ?_
        refine z_iload_n C d_M_forget_31 1 rfl ?_
        refine z_iconst C d_M_forget_32 ?_
        refine z_iast C d_M_forget_33 1 rfl (by omega) [(aM, .inr (8, [.ref aWc, .int (iI mth), .int (iI msz), .ref aTx, .int (iI mwr), .ref aOu, .int (iI mfa), .int (iI mpl), .int (iI mle), .int (iI 0), .ref aSo, .ref aNf, .ref aNg, .ref aSr, .ref aNu, .ref aMa, .ref aNo, .int (iI 0), .int (iI 0), .int (iI 0), .ref aLe, .ref aAc, .ref aDi, .ref aOr, .int (iI mki), .int (iI mfr), .int (iI mto), .int (iI mwh)])), iA G aMa 3 (uZ E k.toNat 0), iA G aLe 384 le, iA G aAc 1536 ac] (rfl) ?_
        refine z_iinc (lv' := [(1, .int (iI (k + 1))), (0, .ref aM)]) C d_M_forget_34 1 rfl (by decide) rfl ?_
        refine z_goto (tgt := 22) C d_M_forget_37 (by decide) ?_
        refine z_lv [1, 0] (lv' := [(0, .ref aM), (1, .int (iI (k + 1)))]) rfl ?_
        exact ih22 _ _ (by omega) (fun j => by unfold uZ; rw [hEE j]; (repeat' split) <;> first | rfl | (exfalso; omega)) (by omega)
  refine z_lv [1, 0] (lv' := [(0, .ref aM), (1, .int (iI 0))]) rfl ?_
  exact loop22 (_ + 1) _ _ (by omega) (fun j => by rw [if_neg (by omega)]) (Nat.lt_succ_self _)
set_option maxHeartbeats 4000000 in
set_option maxRecDepth 100000 in
theorem m_M_say (l : Launch) (G : GG) (sz : Nat) (aM : Nat) (aWc : Nat) (aTx : Nat) (aOu : Nat) (aSo : Nat) (aNf : Nat) (aNg : Nat) (aSr : Nat) (aNu : Nat) (aMa : Nat) (aNo : Nat) (aLe : Nat) (aAc : Nat) (aDi : Nat) (aOr : Nat) (mth : Int) (msz : Int) (mwr : Int) (mfa : Int) (mpl : Int) (mle : Int) (mna : Int) (mfi : Int) (mru : Int) (mnv : Int) (mki : Int) (mfr : Int) (mto : Int) (mwh : Int) (ou : Nat → Int) (v : Int) (h1 : 0 ≤ mwr ∧ mwr < 8192) : MetV l G sz y_M_say c_M_say 2 ({ frames := 0, cells := 0, slots := 0, locals := 0 } : Room) [.ref aM, .int (iI v)] [(aM, .inr (8, [.ref aWc, .int (iI mth), .int (iI msz), .ref aTx, .int (iI mwr), .ref aOu, .int (iI mfa), .int (iI mpl), .int (iI mle), .int (iI mna), .ref aSo, .ref aNf, .ref aNg, .ref aSr, .ref aNu, .ref aMa, .ref aNo, .int (iI mfi), .int (iI mru), .int (iI mnv), .ref aLe, .ref aAc, .ref aDi, .ref aOr, .int (iI mki), .int (iI mfr), .int (iI mto), .int (iI mwh)])), iA G aOu 8192 ou] (fun (u : Unit) => True) (fun (u : Unit) => [(aM, .inr (8, [.ref aWc, .int (iI mth), .int (iI msz), .ref aTx, .int (iI (mwr + 1)), .ref aOu, .int (iI mfa), .int (iI mpl), .int (iI mle), .int (iI mna), .ref aSo, .ref aNf, .ref aNg, .ref aSr, .ref aNu, .ref aMa, .ref aNo, .int (iI mfi), .int (iI mru), .int (iI mnv), .ref aLe, .ref aAc, .ref aDi, .ref aOr, .int (iI mki), .int (iI mfr), .int (iI mto), .int (iI mwh)])), iA G aOu 8192 (wI ou mwr [v])]) := by
  refine MetV.mk (by decide) (Nat.le_of_ble_eq_true rfl) (fun X C K => ?_)
  show Zc G X 2 0 0 [(aM, .inr (8, [.ref aWc, .int (iI mth), .int (iI msz), .ref aTx, .int (iI mwr), .ref aOu, .int (iI mfa), .int (iI mpl), .int (iI mle), .int (iI mna), .ref aSo, .ref aNf, .ref aNg, .ref aSr, .ref aNu, .ref aMa, .ref aNo, .int (iI mfi), .int (iI mru), .int (iI mnv), .ref aLe, .ref aAc, .ref aDi, .ref aOr, .int (iI mki), .int (iI mfr), .int (iI mto), .int (iI mwh)])), iA G aOu 8192 ou] [(0, .ref aM), (1, .int (iI v))] 0 []
  refine z_aload_n C d_M_say_0 0 rfl ?_
  refine z_get C f_M_16 d_M_say_1 0 rfl rfl ?_
  refine z_aload_n C d_M_say_4 0 rfl ?_
  refine z_get C f_M_191 d_M_say_5 0 rfl rfl ?_
  refine z_iload_n C d_M_say_8 1 rfl ?_
  refine z_iast C d_M_say_9 1 rfl (by omega) [(aM, .inr (8, [.ref aWc, .int (iI mth), .int (iI msz), .ref aTx, .int (iI mwr), .ref aOu, .int (iI mfa), .int (iI mpl), .int (iI mle), .int (iI mna), .ref aSo, .ref aNf, .ref aNg, .ref aSr, .ref aNu, .ref aMa, .ref aNo, .int (iI mfi), .int (iI mru), .int (iI mnv), .ref aLe, .ref aAc, .ref aDi, .ref aOr, .int (iI mki), .int (iI mfr), .int (iI mto), .int (iI mwh)])), iA G aOu 8192 (uZ ou mwr.toNat v)] (rfl) ?_
  refine z_aload_n C d_M_say_10 0 rfl ?_
  refine z_dup C d_M_say_11 rfl ?_
  refine z_get C f_M_191 d_M_say_12 0 rfl rfl ?_
  refine z_iconst C d_M_say_15 ?_
  refine z_iadd C d_M_say_16 ?_
  refine z_put C f_M_191 ok_M nm_M d_M_say_17 0 rfl rfl rfl rfl (Nat.le_of_ble_eq_true rfl) [(aM, .inr (8, [.ref aWc, .int (iI mth), .int (iI msz), .ref aTx, .int (iI (mwr + 1)), .ref aOu, .int (iI mfa), .int (iI mpl), .int (iI mle), .int (iI mna), .ref aSo, .ref aNf, .ref aNg, .ref aSr, .ref aNu, .ref aMa, .ref aNo, .int (iI mfi), .int (iI mru), .int (iI mnv), .ref aLe, .ref aAc, .ref aDi, .ref aOr, .int (iI mki), .int (iI mfr), .int (iI mto), .int (iI mwh)])), iA G aOu 8192 (uZ ou mwr.toNat v)] rfl ?_
  exact z_vret C K d_M_say_20 () (rfl) (trivial)
set_option maxHeartbeats 4000000 in
set_option maxRecDepth 100000 in
theorem m_M_endLine (l : Launch) (G : GG) (sz : Nat) (aM : Nat) (aWc : Nat) (aTx : Nat) (aOu : Nat) (aSo : Nat) (aNf : Nat) (aNg : Nat) (aSr : Nat) (aNu : Nat) (aMa : Nat) (aNo : Nat) (aLe : Nat) (aAc : Nat) (aDi : Nat) (aOr : Nat) (mth : Int) (msz : Int) (mwr : Int) (mfa : Int) (mpl : Int) (mle : Int) (mna : Int) (mfi : Int) (mru : Int) (mnv : Int) (mki : Int) (mfr : Int) (mto : Int) (mwh : Int) (ou : Nat → Int) (h1 : 0 ≤ mwr ∧ mwr + 2 ≤ 8192) : MetV l G sz y_M_endLine c_M_endLine 1 ({ frames := 1, cells := 0, slots := 0, locals := 21 } : Room) [.ref aM] [(aM, .inr (8, [.ref aWc, .int (iI mth), .int (iI msz), .ref aTx, .int (iI mwr), .ref aOu, .int (iI mfa), .int (iI mpl), .int (iI mle), .int (iI mna), .ref aSo, .ref aNf, .ref aNg, .ref aSr, .ref aNu, .ref aMa, .ref aNo, .int (iI mfi), .int (iI mru), .int (iI mnv), .ref aLe, .ref aAc, .ref aDi, .ref aOr, .int (iI mki), .int (iI mfr), .int (iI mto), .int (iI mwh)])), iA G aOu 8192 ou] (fun (u : Unit) => True) (fun (u : Unit) => [(aM, .inr (8, [.ref aWc, .int (iI mth), .int (iI msz), .ref aTx, .int (iI (mwr + 2)), .ref aOu, .int (iI mfa), .int (iI mpl), .int (iI mle), .int (iI mna), .ref aSo, .ref aNf, .ref aNg, .ref aSr, .ref aNu, .ref aMa, .ref aNo, .int (iI mfi), .int (iI mru), .int (iI mnv), .ref aLe, .ref aAc, .ref aDi, .ref aOr, .int (iI mki), .int (iI mfr), .int (iI mto), .int (iI mwh)])), iA G aOu 8192 (wI ou mwr [59, 10])]) := by
  refine MetV.mk (by decide) (Nat.le_of_ble_eq_true rfl) (fun X C K => ?_)
  show Zc G X 1 0 0 [(aM, .inr (8, [.ref aWc, .int (iI mth), .int (iI msz), .ref aTx, .int (iI mwr), .ref aOu, .int (iI mfa), .int (iI mpl), .int (iI mle), .int (iI mna), .ref aSo, .ref aNf, .ref aNg, .ref aSr, .ref aNu, .ref aMa, .ref aNo, .int (iI mfi), .int (iI mru), .int (iI mnv), .ref aLe, .ref aAc, .ref aDi, .ref aOr, .int (iI mki), .int (iI mfr), .int (iI mto), .int (iI mwh)])), iA G aOu 8192 ou] [(0, .ref aM)] 0 []
  refine z_aload_n C d_M_endLine_0 0 rfl ?_
  refine z_bipush C d_M_endLine_1 (by decide) ?_
  refine z_callv (As := [.int (iI 59)]) (rest := []) (wr := []) (ws' := fun u => [(aM, .inr (8, [.ref aWc, .int (iI mth), .int (iI msz), .ref aTx, .int (iI (mwr + 1)), .ref aOu, .int (iI mfa), .int (iI mpl), .int (iI mle), .int (iI mna), .ref aSo, .ref aNf, .ref aNg, .ref aSr, .ref aNu, .ref aMa, .ref aNo, .int (iI mfi), .int (iI mru), .int (iI mnv), .ref aLe, .ref aAc, .ref aDi, .ref aOr, .int (iI mki), .int (iI mfr), .int (iI mto), .int (iI mwh)])), iA G aOu 8192 (wI ou mwr [59])]) (q0 := 0) C k_M_194 kc_M_say (fun l sz => m_M_say l G sz aM aWc aTx aOu aSo aNf aNg aSr aNu aMa aNo aLe aAc aDi aOr mth msz mwr mfa mpl mle mna mfi mru mnv mki mfr mto mwh ou 59 (by omega)) rfl rfl (Nat.le_of_ble_eq_true rfl) (by decide) d_M_endLine_3 rfl rfl [0, 1] [] [0, 1] rfl rfl (by decide) (fun u => rfl) (fun u h3 => ?_)
  show Zc G X 1 0 0 [(aM, .inr (8, [.ref aWc, .int (iI mth), .int (iI msz), .ref aTx, .int (iI (mwr + 1)), .ref aOu, .int (iI mfa), .int (iI mpl), .int (iI mle), .int (iI mna), .ref aSo, .ref aNf, .ref aNg, .ref aSr, .ref aNu, .ref aMa, .ref aNo, .int (iI mfi), .int (iI mru), .int (iI mnv), .ref aLe, .ref aAc, .ref aDi, .ref aOr, .int (iI mki), .int (iI mfr), .int (iI mto), .int (iI mwh)])), iA G aOu 8192 (wI ou mwr [59])] [(0, .ref aM)] 6 []
  refine z_aload_n C d_M_endLine_6 0 rfl ?_
  refine z_bipush C d_M_endLine_7 (by decide) ?_
  refine z_callv (As := [.int (iI 10)]) (rest := []) (wr := []) (ws' := fun u => [(aM, .inr (8, [.ref aWc, .int (iI mth), .int (iI msz), .ref aTx, .int (iI ((mwr + 1) + 1)), .ref aOu, .int (iI mfa), .int (iI mpl), .int (iI mle), .int (iI mna), .ref aSo, .ref aNf, .ref aNg, .ref aSr, .ref aNu, .ref aMa, .ref aNo, .int (iI mfi), .int (iI mru), .int (iI mnv), .ref aLe, .ref aAc, .ref aDi, .ref aOr, .int (iI mki), .int (iI mfr), .int (iI mto), .int (iI mwh)])), iA G aOu 8192 (wI (wI ou mwr [59]) (mwr + 1) [10])]) (q0 := 0) C k_M_194 kc_M_say (fun l sz => m_M_say l G sz aM aWc aTx aOu aSo aNf aNg aSr aNu aMa aNo aLe aAc aDi aOr mth msz (mwr + 1) mfa mpl mle mna mfi mru mnv mki mfr mto mwh (wI ou mwr [59]) 10 (by omega)) rfl rfl (Nat.le_of_ble_eq_true rfl) (by decide) d_M_endLine_9 rfl rfl [0, 1] [] [0, 1] rfl rfl (by decide) (fun u => rfl) (fun u h9 => ?_)
  show Zc G X 1 0 0 [(aM, .inr (8, [.ref aWc, .int (iI mth), .int (iI msz), .ref aTx, .int (iI ((mwr + 1) + 1)), .ref aOu, .int (iI mfa), .int (iI mpl), .int (iI mle), .int (iI mna), .ref aSo, .ref aNf, .ref aNg, .ref aSr, .ref aNu, .ref aMa, .ref aNo, .int (iI mfi), .int (iI mru), .int (iI mnv), .ref aLe, .ref aAc, .ref aDi, .ref aOr, .int (iI mki), .int (iI mfr), .int (iI mto), .int (iI mwh)])), iA G aOu 8192 (wI (wI ou mwr [59]) (mwr + 1) [10])] [(0, .ref aM)] 12 []
  exact z_vret C K d_M_endLine_12 () (by rw [show mwr + 1 + 1 = mwr + 2 by omega]; rfl) (trivial)
set_option maxHeartbeats 4000000 in
set_option maxRecDepth 100000 in
theorem m_M_fill (l : Launch) (G : GG) (sz : Nat) (aM : Nat) (aWc : Nat) (aTx : Nat) (aOu : Nat) (aSo : Nat) (aNf : Nat) (aNg : Nat) (aSr : Nat) (aNu : Nat) (aMa : Nat) (aNo : Nat) (aLe : Nat) (aAc : Nat) (aDi : Nat) (aOr : Nat) (mth : Int) (msz : Int) (mwr : Int) (mfa : Int) (mpl : Int) (mle : Int) (mna : Int) (mfi : Int) (mru : Int) (mnv : Int) (mki : Int) (mfr : Int) (mto : Int) (mwh : Int) (ou : Nat → Int) (w : Int) (h1 : 0 ≤ mwr ∧ mwr + ((List.replicate w.toNat (32 : Int)).length : Int) ≤ 8192 ∧ -2147483648 ≤ w ∧ w ≤ 2147483647) : MetV l G sz y_M_fill c_M_fill 3 ({ frames := 1, cells := 0, slots := 0, locals := 21 } : Room) [.ref aM, .int (iI w)] [(aM, .inr (8, [.ref aWc, .int (iI mth), .int (iI msz), .ref aTx, .int (iI mwr), .ref aOu, .int (iI mfa), .int (iI mpl), .int (iI mle), .int (iI mna), .ref aSo, .ref aNf, .ref aNg, .ref aSr, .ref aNu, .ref aMa, .ref aNo, .int (iI mfi), .int (iI mru), .int (iI mnv), .ref aLe, .ref aAc, .ref aDi, .ref aOr, .int (iI mki), .int (iI mfr), .int (iI mto), .int (iI mwh)])), iA G aOu 8192 ou] (fun (u : Unit) => True) (fun (u : Unit) => [(aM, .inr (8, [.ref aWc, .int (iI mth), .int (iI msz), .ref aTx, .int (iI (mwr + ((List.replicate w.toNat (32 : Int)).length : Int))), .ref aOu, .int (iI mfa), .int (iI mpl), .int (iI mle), .int (iI mna), .ref aSo, .ref aNf, .ref aNg, .ref aSr, .ref aNu, .ref aMa, .ref aNo, .int (iI mfi), .int (iI mru), .int (iI mnv), .ref aLe, .ref aAc, .ref aDi, .ref aOr, .int (iI mki), .int (iI mfr), .int (iI mto), .int (iI mwh)])), iA G aOu 8192 (wI ou mwr (List.replicate w.toNat (32 : Int)))]) := by
  refine MetV.mk (by decide) (Nat.le_of_ble_eq_true rfl) (fun X C K => ?_)
  show Zc G X 3 0 0 [(aM, .inr (8, [.ref aWc, .int (iI mth), .int (iI msz), .ref aTx, .int (iI mwr), .ref aOu, .int (iI mfa), .int (iI mpl), .int (iI mle), .int (iI mna), .ref aSo, .ref aNf, .ref aNg, .ref aSr, .ref aNu, .ref aMa, .ref aNo, .int (iI mfi), .int (iI mru), .int (iI mnv), .ref aLe, .ref aAc, .ref aDi, .ref aOr, .int (iI mki), .int (iI mfr), .int (iI mto), .int (iI mwh)])), iA G aOu 8192 ou] [(0, .ref aM), (1, .int (iI w))] 0 []
  rw [List.length_replicate] at h1
  refine z_iconst C d_M_fill_0 ?_
  refine z_istore_n (lv' := [(2, .int (iI 0)), (0, .ref aM), (1, .int (iI w))]) C d_M_fill_1 (by decide) rfl ?_
  have loop2 : ∀ (kq : Nat) (k : Int) (q : Int) (E : Nat → Int), (0 ≤ k ∧ k ≤ w.toNat ∧ q = mwr + k) → (wI E q (List.replicate (w - k).toNat 32) = wI ou mwr (List.replicate w.toNat (32 : Int))) → ((w - k).toNat < kq) → Zc G X 3 0 0 [(aM, .inr (8, [.ref aWc, .int (iI mth), .int (iI msz), .ref aTx, .int (iI q), .ref aOu, .int (iI mfa), .int (iI mpl), .int (iI mle), .int (iI mna), .ref aSo, .ref aNf, .ref aNg, .ref aSr, .ref aNu, .ref aMa, .ref aNo, .int (iI mfi), .int (iI mru), .int (iI mnv), .ref aLe, .ref aAc, .ref aDi, .ref aOr, .int (iI mki), .int (iI mfr), .int (iI mto), .int (iI mwh)])), iA G aOu 8192 E] [(0, .ref aM), (1, .int (iI w)), (2, .int (iI k))] 2 [] := by
    intro kq
    induction kq with
    | zero => intro k q E hk hE hm; exact absurd hm (Nat.not_lt_zero _)
    | succ kq ih2 =>
      intro k q E hk hE hm
      -- loop body
      refine z_iload_n C d_M_fill_2 2 rfl ?_
      refine z_iload_n C d_M_fill_3 1 rfl ?_
      refine z_icmp_ge (tgt := 19) C d_M_fill_4 (by decide) (by omega) (by omega) (fun c4 => ?_) (fun c4 => ?_)
      ·
        rw [show (w - k).toNat = 0 by omega] at hE
        have hE2 : E = wI ou mwr (List.replicate w.toNat (32 : Int)) := hE
        exact z_vret C K d_M_fill_19 () (by rw [List.length_replicate, show q = mwr + (w.toNat : Int) by omega, hE2]) (trivial)
      ·
        refine z_aload_n C d_M_fill_7 0 rfl ?_
        refine z_bipush C d_M_fill_8 (by decide) ?_
        refine z_callv (As := [.int (iI 32)]) (rest := []) (wr := []) (ws' := fun u => [(aM, .inr (8, [.ref aWc, .int (iI mth), .int (iI msz), .ref aTx, .int (iI (q + 1)), .ref aOu, .int (iI mfa), .int (iI mpl), .int (iI mle), .int (iI mna), .ref aSo, .ref aNf, .ref aNg, .ref aSr, .ref aNu, .ref aMa, .ref aNo, .int (iI mfi), .int (iI mru), .int (iI mnv), .ref aLe, .ref aAc, .ref aDi, .ref aOr, .int (iI mki), .int (iI mfr), .int (iI mto), .int (iI mwh)])), iA G aOu 8192 (wI E q [32])]) (q0 := 0) C k_M_194 kc_M_say (fun l sz => m_M_say l G sz aM aWc aTx aOu aSo aNf aNg aSr aNu aMa aNo aLe aAc aDi aOr mth msz q mfa mpl mle mna mfi mru mnv mki mfr mto mwh E 32 (by omega)) rfl rfl (Nat.le_of_ble_eq_true rfl) (by decide) d_M_fill_10 rfl rfl [0, 1] [] [0, 1] rfl rfl (by decide) (fun u => rfl) (fun u h10 => ?_)
        show Zc G X 3 0 0 [(aM, .inr (8, [.ref aWc, .int (iI mth), .int (iI msz), .ref aTx, .int (iI (q + 1)), .ref aOu, .int (iI mfa), .int (iI mpl), .int (iI mle), .int (iI mna), .ref aSo, .ref aNf, .ref aNg, .ref aSr, .ref aNu, .ref aMa, .ref aNo, .int (iI mfi), .int (iI mru), .int (iI mnv), .ref aLe, .ref aAc, .ref aDi, .ref aOr, .int (iI mki), .int (iI mfr), .int (iI mto), .int (iI mwh)])), iA G aOu 8192 (wI E q [32])] [(0, .ref aM), (1, .int (iI w)), (2, .int (iI k))] 13 []
        refine z_iinc (lv' := [(2, .int (iI (k + 1))), (0, .ref aM), (1, .int (iI w))]) C d_M_fill_13 2 rfl (by decide) rfl ?_
        refine z_goto (tgt := 2) C d_M_fill_16 (by decide) ?_
        refine z_lv [1, 2, 0] (lv' := [(0, .ref aM), (1, .int (iI w)), (2, .int (iI (k + 1)))]) rfl ?_
        exact ih2 _ _ _ (by omega) (by rw [show (w - k).toNat = (w - (k + 1)).toNat + 1 by omega, List.replicate_succ] at hE; exact hE) (by omega)
  refine z_lv [1, 2, 0] (lv' := [(0, .ref aM), (1, .int (iI w)), (2, .int (iI 0))]) rfl ?_
  exact loop2 (_ + 1) _ _ _ (by omega) (by rw [Int.sub_zero]) (Nat.lt_succ_self _)
