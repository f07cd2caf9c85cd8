set_option maxHeartbeats 4000000 in
set_option maxRecDepth 100000 in
theorem m_M_reach (l : Launch) (G : GG) (sz : Nat) (aM : Nat) (aWc : Nat) (aTx : Nat) (aOu : Nat) (aSo : Nat) (aNf : Nat) (aNg : Nat) (aSr : Nat) (aNu : Nat) (aMa : Nat) (aNo : Nat) (aLe : Nat) (aAc : Nat) (aDi : Nat) (aOr : Nat) (mth : Int) (msz : Int) (mwr : Int) (mfa : Int) (mpl : Int) (mle : Int) (mna : Int) (mfi : Int) (mru : Int) (mnv : Int) (mki : Int) (mfr : Int) (mto : Int) (mwh : Int) (ma : Nat → Int) (le : Nat → Int) (di : Nat → Int) (od : Nat → Int) (hct : cnt ma) (hgl : ∀ j, -2 ≤ le j ∧ (le j < 0 ∨ le j < ma 0)) (hfi : 0 < ma 0 → 0 ≤ mfi ∧ mfi < ma 0) : MetV l G sz y_M_reach c_M_reach 5 ({ frames := 2, cells := 0, slots := 0, locals := 43 } : Room) [.ref aM] [(aM, .inr (8, [.ref aWc, .int (iI mth), .int (iI msz), .ref aTx, .int (iI mwr), .ref aOu, .int (iI mfa), .int (iI mpl), .int (iI mle), .int (iI mna), .ref aSo, .ref aNf, .ref aNg, .ref aSr, .ref aNu, .ref aMa, .ref aNo, .int (iI mfi), .int (iI mru), .int (iI mnv), .ref aLe, .ref aAc, .ref aDi, .ref aOr, .int (iI mki), .int (iI mfr), .int (iI mto), .int (iI mwh)])), iA G aMa 3 ma, iA G aLe 384 le, iA G aDi 16 di, iA G aOr 16 od] (fun (u : (Nat → Int) × (Nat → Int)) => ((0 < ma 0 → DS (fun (s e : Int) => le (prf ma s e).toNat) (ma 0) (ma 1 + ma 2) mfi u.1) ∧ (¬ 0 < ma 0 → ∀ j : Nat, j < 16 → u.1 j = -1)) ∧ (∀ j : Nat, j < 16 → -1 ≤ u.1 j ∧ u.1 j ≤ 15)) (fun (u : (Nat → Int) × (Nat → Int)) => [(aM, .inr (8, [.ref aWc, .int (iI mth), .int (iI msz), .ref aTx, .int (iI mwr), .ref aOu, .int (iI mfa), .int (iI mpl), .int (iI mle), .int (iI mna), .ref aSo, .ref aNf, .ref aNg, .ref aSr, .ref aNu, .ref aMa, .ref aNo, .int (iI mfi), .int (iI mru), .int (iI mnv), .ref aLe, .ref aAc, .ref aDi, .ref aOr, .int (iI mki), .int (iI mfr), .int (iI mto), .int (iI mwh)])), iA G aMa 3 ma, iA G aLe 384 le, iA G aDi 16 u.1, iA G aOr 16 u.2]) := by
  refine MetV.mk (by decide) (Nat.le_of_ble_eq_true rfl) (fun X C K => ?_)
  show Zc G X 5 0 0 [(aM, .inr (8, [.ref aWc, .int (iI mth), .int (iI msz), .ref aTx, .int (iI mwr), .ref aOu, .int (iI mfa), .int (iI mpl), .int (iI mle), .int (iI mna), .ref aSo, .ref aNf, .ref aNg, .ref aSr, .ref aNu, .ref aMa, .ref aNo, .int (iI mfi), .int (iI mru), .int (iI mnv), .ref aLe, .ref aAc, .ref aDi, .ref aOr, .int (iI mki), .int (iI mfr), .int (iI mto), .int (iI mwh)])), iA G aMa 3 ma, iA G aLe 384 le, iA G aDi 16 di, iA G aOr 16 od] [(0, .ref aM)] 0 []
  have hcc := hct
  unfold cnt at hcc
  refine z_iconst C d_M_reach_0 ?_
  refine z_istore_n (lv' := [(1, .int (iI 0)), (0, .ref aM)]) C d_M_reach_1 (by decide) rfl ?_
  have loop2 : ∀ (kq : Nat) (k : Int) (D : Nat → Int), (0 ≤ k ∧ k ≤ 16) → (∀ j : Nat, D j = if (j : Int) < k then (-1) else di j) → ((16 - k).toNat < kq) → Zc G X 5 0 0 [(aM, .inr (8, [.ref aWc, .int (iI mth), .int (iI msz), .ref aTx, .int (iI mwr), .ref aOu, .int (iI mfa), .int (iI mpl), .int (iI mle), .int (iI mna), .ref aSo, .ref aNf, .ref aNg, .ref aSr, .ref aNu, .ref aMa, .ref aNo, .int (iI mfi), .int (iI mru), .int (iI mnv), .ref aLe, .ref aAc, .ref aDi, .ref aOr, .int (iI mki), .int (iI mfr), .int (iI mto), .int (iI mwh)])), iA G aMa 3 ma, iA G aLe 384 le, iA G aDi 16 D, iA G aOr 16 od] [(0, .ref aM), (1, .int (iI k))] 2 [] := by
    intro kq
    induction kq with
    | zero => intro k D hk hED hm; exact absurd hm (Nat.not_lt_zero _)
    | succ kq ih2 =>
      intro k D hk hED hm
      -- loop body
      refine z_iload_n C d_M_reach_2 1 rfl ?_
      refine z_bipush C d_M_reach_3 (by decide) ?_
      refine z_icmp_ge (tgt := 21) C d_M_reach_5 (by decide) (by omega) (by omega) (fun c5 => ?_) (fun c5 => ?_)
      ·
        have hD0 : ∀ t : Nat, t < 16 → D t = -1 := fun t ht => by rw [hED t, if_pos (by omega)]
        refine z_iconst C d_M_reach_21 ?_
        refine z_istore_n (lv' := [(1, .int (iI 0)), (0, .ref aM)]) C d_M_reach_22 (by decide) rfl ?_
        refine z_aload_n C d_M_reach_23 1 rfl ?_
        refine z_get C f_M_34 d_M_reach_24 0 rfl rfl ?_
        refine z_iconst C d_M_reach_27 ?_
        refine z_iald C d_M_reach_28 1 rfl (by omega) ?_
        refine z_topi (y := iI (ma 0)) (rfl) ?_
        refine z_if_le (tgt := 54) C d_M_reach_29 (by decide) (by omega) (fun c29 => ?_) (fun c29 => ?_)
        ·
          refine z_iconst C d_M_reach_54 ?_
          refine z_istore_n (lv' := [(2, .int (iI 0)), (1, .int (iI 0)), (0, .ref aM)]) C d_M_reach_55 (by decide) rfl ?_
          refine z_iload_n C d_M_reach_56 0 rfl ?_
          refine z_iload_n C d_M_reach_57 1 rfl ?_
          refine z_icmp_ge (tgt := 147) C d_M_reach_58 (by decide) (by omega) (by omega) (fun c58 => ?_) (fun c58 => ?_)
          ·
            exact z_vret C K d_M_reach_147 (D, od) (rfl) (show ((0 < ma 0 → DS (fun (s e : Int) => le (prf ma s e).toNat) (ma 0) (ma 1 + ma 2) mfi D) ∧ (¬ 0 < ma 0 → ∀ j : Nat, j < 16 → D j = -1)) ∧ (∀ j : Nat, j < 16 → -1 ≤ D j ∧ D j ≤ 15) from ⟨⟨fun z => absurd z (by omega), fun _ => hD0⟩, fun j hj => by rw [hD0 j hj]; omega⟩)
          · exact absurd c58 (by omega)
        ·
          have hf9 := hfi (by omega)
          refine z_aload_n C d_M_reach_32 1 rfl ?_
          refine z_get C f_M_46 d_M_reach_33 0 rfl rfl ?_
          refine z_aload_n C d_M_reach_36 1 rfl ?_
          refine z_get C f_M_166 d_M_reach_37 0 rfl rfl ?_
          refine z_iconst C d_M_reach_40 ?_
          refine z_iast C d_M_reach_41 3 rfl (by omega) [(aM, .inr (8, [.ref aWc, .int (iI mth), .int (iI msz), .ref aTx, .int (iI mwr), .ref aOu, .int (iI mfa), .int (iI mpl), .int (iI mle), .int (iI mna), .ref aSo, .ref aNf, .ref aNg, .ref aSr, .ref aNu, .ref aMa, .ref aNo, .int (iI mfi), .int (iI mru), .int (iI mnv), .ref aLe, .ref aAc, .ref aDi, .ref aOr, .int (iI mki), .int (iI mfr), .int (iI mto), .int (iI mwh)])), iA G aMa 3 ma, iA G aLe 384 le, iA G aDi 16 (uZ D mfi.toNat 0), iA G aOr 16 od] (rfl) ?_
          refine z_aload_n C d_M_reach_42 1 rfl ?_
          refine z_get C f_M_49 d_M_reach_43 0 rfl rfl ?_
          refine z_iconst C d_M_reach_46 ?_
          refine z_aload_n C d_M_reach_47 1 rfl ?_
          refine z_get C f_M_166 d_M_reach_48 0 rfl rfl ?_
          refine z_iast C d_M_reach_51 4 rfl (by omega) [(aM, .inr (8, [.ref aWc, .int (iI mth), .int (iI msz), .ref aTx, .int (iI mwr), .ref aOu, .int (iI mfa), .int (iI mpl), .int (iI mle), .int (iI mna), .ref aSo, .ref aNf, .ref aNg, .ref aSr, .ref aNu, .ref aMa, .ref aNo, .int (iI mfi), .int (iI mru), .int (iI mnv), .ref aLe, .ref aAc, .ref aDi, .ref aOr, .int (iI mki), .int (iI mfr), .int (iI mto), .int (iI mwh)])), iA G aMa 3 ma, iA G aLe 384 le, iA G aDi 16 (uZ D mfi.toNat 0), iA G aOr 16 (uZ od 0 mfi)] (rfl) ?_
          refine z_iconst C d_M_reach_52 ?_
          refine z_istore_n (lv' := [(1, .int (iI 1)), (0, .ref aM)]) C d_M_reach_53 (by decide) rfl ?_
          refine z_iconst C d_M_reach_54 ?_
          refine z_istore_n (lv' := [(2, .int (iI 0)), (1, .int (iI 1)), (0, .ref aM)]) C d_M_reach_55 (by decide) rfl ?_
          have loop56 : ∀ (kq : Nat) (k : Int) (n : Int) (dx : Nat → Int) (ox : Nat → Int), (0 ≤ k ∧ k ≤ n ∧ n ≤ 16 ∧ 1 ≤ n) → (RQ (fun (s e : Int) => le (prf ma s e).toNat) (ma 0) (ma 1 + ma 2) mfi k 0 n dx ox) → ((16 - k).toNat < kq) → Zc G X 5 0 0 [(aM, .inr (8, [.ref aWc, .int (iI mth), .int (iI msz), .ref aTx, .int (iI mwr), .ref aOu, .int (iI mfa), .int (iI mpl), .int (iI mle), .int (iI mna), .ref aSo, .ref aNf, .ref aNg, .ref aSr, .ref aNu, .ref aMa, .ref aNo, .int (iI mfi), .int (iI mru), .int (iI mnv), .ref aLe, .ref aAc, .ref aDi, .ref aOr, .int (iI mki), .int (iI mfr), .int (iI mto), .int (iI mwh)])), iA G aMa 3 ma, iA G aLe 384 le, iA G aDi 16 dx, iA G aOr 16 ox] [(0, .ref aM), (1, .int (iI n)), (2, .int (iI k))] 56 [] := by
            intro kq
            induction kq with
            | zero => intro k n dx ox hk hR hm; exact absurd hm (Nat.not_lt_zero _)
            | succ kq ih56 =>
              intro k n dx ox hk hR hm
              -- loop body
              refine z_iload_n C d_M_reach_56 2 rfl ?_
              refine z_iload_n C d_M_reach_57 1 rfl ?_
              refine z_icmp_ge (tgt := 147) C d_M_reach_58 (by decide) (by omega) (by omega) (fun c58 => ?_) (fun c58 => ?_)
              ·
                exact z_vret C K d_M_reach_147 (dx, ox) (rfl) (show ((0 < ma 0 → DS (fun (s e : Int) => le (prf ma s e).toNat) (ma 0) (ma 1 + ma 2) mfi dx) ∧ (¬ 0 < ma 0 → ∀ j : Nat, j < 16 → dx j = -1)) ∧ (∀ j : Nat, j < 16 → -1 ≤ dx j ∧ dx j ≤ 15) from ⟨⟨fun _ => RQ_DS hR (by omega), fun z => absurd (show 0 < ma 0 by omega) z⟩, fun j hj => RQ_rg hR hj⟩)
              ·
                refine z_iconst C d_M_reach_61 ?_
                refine z_istore_n (lv' := [(3, .int (iI 0)), (0, .ref aM), (1, .int (iI n)), (2, .int (iI k))]) C d_M_reach_62 (by decide) rfl ?_
                have loop63 : ∀ (kq : Nat) (e : Int) (n2 : Int) (dy : Nat → Int) (oy : Nat → Int), (0 ≤ e ∧ e ≤ ma 1 + ma 2 ∧ k < n2 ∧ n2 ≤ 16) → (RQ (fun (s e : Int) => le (prf ma s e).toNat) (ma 0) (ma 1 + ma 2) mfi k e n2 dy oy) → ((ma 1 + ma 2 - e).toNat < kq) → Zc G X 5 0 0 [(aM, .inr (8, [.ref aWc, .int (iI mth), .int (iI msz), .ref aTx, .int (iI mwr), .ref aOu, .int (iI mfa), .int (iI mpl), .int (iI mle), .int (iI mna), .ref aSo, .ref aNf, .ref aNg, .ref aSr, .ref aNu, .ref aMa, .ref aNo, .int (iI mfi), .int (iI mru), .int (iI mnv), .ref aLe, .ref aAc, .ref aDi, .ref aOr, .int (iI mki), .int (iI mfr), .int (iI mto), .int (iI mwh)])), iA G aMa 3 ma, iA G aLe 384 le, iA G aDi 16 dy, iA G aOr 16 oy] [(0, .ref aM), (1, .int (iI n2)), (2, .int (iI k)), (3, .int (iI e))] 63 [] := by
                  intro kq
                  induction kq with
                  | zero => intro e n2 dy oy he hS hm; exact absurd hm (Nat.not_lt_zero _)
                  | succ kq ih63 =>
                    intro e n2 dy oy he hS hm
                    -- loop body
                    refine z_iload_n C d_M_reach_63 3 rfl ?_
                    refine z_aload_n C d_M_reach_64 0 rfl ?_
                    refine z_calli (As := []) (rest := [.int (iI e)]) (wr := [iA G aLe 384 le, iA G aDi 16 dy, iA G aOr 16 oy]) (ws' := fun u => [(aM, .inr (8, [.ref aWc, .int (iI mth), .int (iI msz), .ref aTx, .int (iI mwr), .ref aOu, .int (iI mfa), .int (iI mpl), .int (iI mle), .int (iI mna), .ref aSo, .ref aNf, .ref aNg, .ref aSr, .ref aNu, .ref aMa, .ref aNo, .int (iI mfi), .int (iI mru), .int (iI mnv), .ref aLe, .ref aAc, .ref aDi, .ref aOr, .int (iI mki), .int (iI mfr), .int (iI mto), .int (iI mwh)])), iA G aMa 3 ma, iA G aLe 384 le, iA G aDi 16 dy, iA G aOr 16 oy]) (q0 := 0) C k_M_172 kc_M_events (fun l sz => m_M_events l G sz aM aWc aTx aOu aSo aNf aNg aSr aNu aMa aNo aLe aAc aDi aOr mth msz mwr mfa mpl mle mna mfi mru mnv mki mfr mto mwh ma ) rfl rfl (Nat.le_of_ble_eq_true rfl) (by decide) d_M_reach_65 rfl rfl [0, 1] [2, 3, 4] [3, 4, 0, 1, 2] rfl rfl (by decide) (fun u => rfl) (fun r u h65 => ?_)
                    obtain rfl := h65
                    show Zc G X 5 0 0 [(aM, .inr (8, [.ref aWc, .int (iI mth), .int (iI msz), .ref aTx, .int (iI mwr), .ref aOu, .int (iI mfa), .int (iI mpl), .int (iI mle), .int (iI mna), .ref aSo, .ref aNf, .ref aNg, .ref aSr, .ref aNu, .ref aMa, .ref aNo, .int (iI mfi), .int (iI mru), .int (iI mnv), .ref aLe, .ref aAc, .ref aDi, .ref aOr, .int (iI mki), .int (iI mfr), .int (iI mto), .int (iI mwh)])), iA G aMa 3 ma, iA G aLe 384 le, iA G aDi 16 dy, iA G aOr 16 oy] [(0, .ref aM), (1, .int (iI n2)), (2, .int (iI k)), (3, .int (iI e))] 68 [.int (iI (ma 1 + ma 2)), .int (iI e)]
                    refine z_icmp_ge (tgt := 141) C d_M_reach_68 (by decide) (by omega) (by omega) (fun c68 => ?_) (fun c68 => ?_)
                    ·
                      have hR2 := RQ_next hS (by omega) (by omega)
                      refine z_iinc (lv' := [(2, .int (iI (k + 1))), (0, .ref aM), (1, .int (iI n2)), (3, .int (iI e))]) C d_M_reach_141 2 rfl (by decide) rfl ?_
                      refine z_goto (tgt := 56) C d_M_reach_144 (by decide) ?_
                      refine z_lv [1, 2, 0] (lv' := [(0, .ref aM), (1, .int (iI n2)), (2, .int (iI (k + 1)))]) rfl ?_
                      exact ih56 (k + 1) n2 dy oy (by omega) (hR2) (by omega)
                    ·
                      have hs1 := hS.1
                      have hok := hS.2.1 k.toNat (by omega)
                      have hpr := prf_rg hct (s := oy k.toNat) (e := e) (by omega)
                      have hgk := hgl (prf ma (oy k.toNat) e).toNat
                      refine z_aload_n C d_M_reach_71 0 rfl ?_
                      refine z_get C f_M_40 d_M_reach_72 0 rfl rfl ?_
                      refine z_aload_n C d_M_reach_75 0 rfl ?_
                      refine z_aload_n C d_M_reach_76 0 rfl ?_
                      refine z_get C f_M_49 d_M_reach_77 0 rfl rfl ?_
                      refine z_iload_n C d_M_reach_80 2 rfl ?_
                      refine z_iald C d_M_reach_81 4 rfl (by omega) ?_
                      refine z_iload_n C d_M_reach_82 3 rfl ?_
                      refine z_calli (As := [.int (iI (oy k.toNat)), .int (iI e)]) (rest := [.ref aLe]) (wr := [iA G aLe 384 le, iA G aDi 16 dy, iA G aOr 16 oy]) (ws' := fun u => [(aM, .inr (8, [.ref aWc, .int (iI mth), .int (iI msz), .ref aTx, .int (iI mwr), .ref aOu, .int (iI mfa), .int (iI mpl), .int (iI mle), .int (iI mna), .ref aSo, .ref aNf, .ref aNg, .ref aSr, .ref aNu, .ref aMa, .ref aNo, .int (iI mfi), .int (iI mru), .int (iI mnv), .ref aLe, .ref aAc, .ref aDi, .ref aOr, .int (iI mki), .int (iI mfr), .int (iI mto), .int (iI mwh)])), iA G aMa 3 ma, iA G aLe 384 le, iA G aDi 16 dy, iA G aOr 16 oy]) (q0 := 0) C k_M_182 kc_M_at (fun l sz => m_M_at l G sz aM aWc aTx aOu aSo aNf aNg aSr aNu aMa aNo aLe aAc aDi aOr mth msz mwr mfa mpl mle mna mfi mru mnv mki mfr mto mwh ma (oy k.toNat) e (hct) (by omega)) rfl rfl (Nat.le_of_ble_eq_true rfl) (by decide) d_M_reach_83 rfl rfl [0, 1] [2, 3, 4] [3, 4, 0, 1, 2] rfl rfl (by decide) (fun u => rfl) (fun r u h83 => ?_)
                      obtain rfl := h83
                      show Zc G X 5 0 0 [(aM, .inr (8, [.ref aWc, .int (iI mth), .int (iI msz), .ref aTx, .int (iI mwr), .ref aOu, .int (iI mfa), .int (iI mpl), .int (iI mle), .int (iI mna), .ref aSo, .ref aNf, .ref aNg, .ref aSr, .ref aNu, .ref aMa, .ref aNo, .int (iI mfi), .int (iI mru), .int (iI mnv), .ref aLe, .ref aAc, .ref aDi, .ref aOr, .int (iI mki), .int (iI mfr), .int (iI mto), .int (iI mwh)])), iA G aMa 3 ma, iA G aLe 384 le, iA G aDi 16 dy, iA G aOr 16 oy] [(0, .ref aM), (1, .int (iI n2)), (2, .int (iI k)), (3, .int (iI e))] 86 [.int (iI (prf ma (oy k.toNat) e)), .ref aLe]
                      refine z_iald C d_M_reach_86 2 rfl (by omega) ?_
                      refine z_istore (lv' := [(4, .int (iI (le ((prf ma (oy k.toNat) e).toNat)))), (0, .ref aM), (1, .int (iI n2)), (2, .int (iI k)), (3, .int (iI e))]) C d_M_reach_87 (by decide) rfl ?_
                      refine z_iload C d_M_reach_89 0 rfl ?_
                      refine z_if_lt (tgt := 135) C d_M_reach_91 (by decide) (by omega) (fun c91 => ?_) (fun c91 => ?_)
                      ·
                        refine z_iinc (lv' := [(3, .int (iI (e + 1))), (4, .int (iI (le ((prf ma (oy k.toNat) e).toNat)))), (0, .ref aM), (1, .int (iI n2)), (2, .int (iI k))]) C d_M_reach_135 4 rfl (by decide) rfl ?_
                        refine z_goto (tgt := 63) C d_M_reach_138 (by decide) ?_
                        refine z_lv [2, 3, 4, 0] (lv' := [(0, .ref aM), (1, .int (iI n2)), (2, .int (iI k)), (3, .int (iI (e + 1)))]) rfl ?_
                        exact ih63 _ _ _ _ (by omega) (RQ_keep hS (by omega) (by omega) (show le (prf ma (oy k.toNat) e).toNat < 16 by omega) (Or.inl (show le (prf ma (oy k.toNat) e).toNat < 0 by omega))) (by omega)
                      ·
                        have hdr := RQ_rg hS (t := (le (prf ma (oy k.toNat) e).toNat).toNat) (by omega)
                        refine z_aload_n C d_M_reach_94 1 rfl ?_
                        refine z_get C f_M_46 d_M_reach_95 0 rfl rfl ?_
                        refine z_iload C d_M_reach_98 0 rfl ?_
                        refine z_iald C d_M_reach_100 3 rfl (by omega) ?_
                        refine z_if_ge (tgt := 135) C d_M_reach_101 (by decide) (by omega) (fun c101 => ?_) (fun c101 => ?_)
                        ·
                          refine z_iinc (lv' := [(3, .int (iI (e + 1))), (4, .int (iI (le ((prf ma (oy k.toNat) e).toNat)))), (0, .ref aM), (1, .int (iI n2)), (2, .int (iI k))]) C d_M_reach_135 4 rfl (by decide) rfl ?_
                          refine z_goto (tgt := 63) C d_M_reach_138 (by decide) ?_
                          refine z_lv [2, 3, 4, 0] (lv' := [(0, .ref aM), (1, .int (iI n2)), (2, .int (iI k)), (3, .int (iI (e + 1)))]) rfl ?_
                          exact ih63 _ _ _ _ (by omega) (RQ_keep hS (by omega) (by omega) (show le (prf ma (oy k.toNat) e).toNat < 16 by omega) (Or.inr (show ¬ dy (le (prf ma (oy k.toNat) e).toNat).toNat < 0 by omega))) (by omega)
                        ·
                          have hnl := RQ_lt hS (t := le (prf ma (oy k.toNat) e).toNat) (by omega) (by omega)
                          refine z_aload_n C d_M_reach_104 1 rfl ?_
                          refine z_get C f_M_46 d_M_reach_105 0 rfl rfl ?_
                          refine z_iload C d_M_reach_108 0 rfl ?_
                          refine z_aload_n C d_M_reach_110 1 rfl ?_
                          refine z_get C f_M_46 d_M_reach_111 0 rfl rfl ?_
                          refine z_aload_n C d_M_reach_114 1 rfl ?_
                          refine z_get C f_M_49 d_M_reach_115 0 rfl rfl ?_
                          refine z_iload_n C d_M_reach_118 3 rfl ?_
                          refine z_iald C d_M_reach_119 4 rfl (by omega) ?_
                          refine z_iald C d_M_reach_120 3 rfl (by omega) ?_
                          refine z_iconst C d_M_reach_121 ?_
                          refine z_iadd C d_M_reach_122 ?_
                          refine z_iast C d_M_reach_123 3 rfl (by omega) [(aM, .inr (8, [.ref aWc, .int (iI mth), .int (iI msz), .ref aTx, .int (iI mwr), .ref aOu, .int (iI mfa), .int (iI mpl), .int (iI mle), .int (iI mna), .ref aSo, .ref aNf, .ref aNg, .ref aSr, .ref aNu, .ref aMa, .ref aNo, .int (iI mfi), .int (iI mru), .int (iI mnv), .ref aLe, .ref aAc, .ref aDi, .ref aOr, .int (iI mki), .int (iI mfr), .int (iI mto), .int (iI mwh)])), iA G aMa 3 ma, iA G aLe 384 le, iA G aDi 16 (uZ dy ((le ((prf ma (oy k.toNat) e).toNat)).toNat) ((dy ((oy k.toNat).toNat)) + 1)), iA G aOr 16 oy] (rfl) ?_
                          refine z_aload_n C d_M_reach_124 1 rfl ?_
                          refine z_get C f_M_49 d_M_reach_125 0 rfl rfl ?_
                          refine z_iload_n C d_M_reach_128 2 rfl ?_
                          refine z_iload C d_M_reach_129 0 rfl ?_
                          refine z_iast C d_M_reach_131 4 rfl (by omega) [(aM, .inr (8, [.ref aWc, .int (iI mth), .int (iI msz), .ref aTx, .int (iI mwr), .ref aOu, .int (iI mfa), .int (iI mpl), .int (iI mle), .int (iI mna), .ref aSo, .ref aNf, .ref aNg, .ref aSr, .ref aNu, .ref aMa, .ref aNo, .int (iI mfi), .int (iI mru), .int (iI mnv), .ref aLe, .ref aAc, .ref aDi, .ref aOr, .int (iI mki), .int (iI mfr), .int (iI mto), .int (iI mwh)])), iA G aMa 3 ma, iA G aLe 384 le, iA G aDi 16 (uZ dy ((le ((prf ma (oy k.toNat) e).toNat)).toNat) ((dy ((oy k.toNat).toNat)) + 1)), iA G aOr 16 (uZ oy n2.toNat (le ((prf ma (oy k.toNat) e).toNat)))] (rfl) ?_
                          refine z_iinc (lv' := [(1, .int (iI (n2 + 1))), (4, .int (iI (le ((prf ma (oy k.toNat) e).toNat)))), (0, .ref aM), (2, .int (iI k)), (3, .int (iI e))]) C d_M_reach_132 2 rfl (by decide) rfl ?_
                          refine z_iinc (lv' := [(3, .int (iI (e + 1))), (1, .int (iI (n2 + 1))), (4, .int (iI (le ((prf ma (oy k.toNat) e).toNat)))), (0, .ref aM), (2, .int (iI k))]) C d_M_reach_135 4 rfl (by decide) rfl ?_
                          refine z_goto (tgt := 63) C d_M_reach_138 (by decide) ?_
                          refine z_lv [3, 1, 4, 0] (lv' := [(0, .ref aM), (1, .int (iI (n2 + 1))), (2, .int (iI k)), (3, .int (iI (e + 1)))]) rfl ?_
                          exact ih63 _ _ _ _ (by omega) (RQ_add hS (by omega) (by omega) (t := le (prf ma (oy k.toNat) e).toNat) rfl (by omega) (by omega)) (by omega)
                refine z_lv [1, 2, 3, 0] (lv' := [(0, .ref aM), (1, .int (iI n)), (2, .int (iI k)), (3, .int (iI 0))]) rfl ?_
                exact loop63 (_ + 1) _ _ _ _ (by omega) (hR) (Nat.lt_succ_self _)
          refine z_lv [2, 1, 0] (lv' := [(0, .ref aM), (1, .int (iI 1)), (2, .int (iI 0))]) rfl ?_
          exact loop56 (_ + 1) 0 1 _ _ (by omega) (RQ_init hf9 (by omega) hD0) (Nat.lt_succ_self _)
      ·
        refine z_aload_n C d_M_reach_8 0 rfl ?_
        refine z_get C f_M_46 d_M_reach_9 0 rfl rfl ?_
        refine z_iload_n C d_M_reach_12 1 rfl ?_
        refine z_iconst C d_M_reach_13 ?_
        refine z_iast C d_M_reach_14 3 rfl (by omega) [(aM, .inr (8, [.ref aWc, .int (iI mth), .int (iI msz), .ref aTx, .int (iI mwr), .ref aOu, .int (iI mfa), .int (iI mpl), .int (iI mle), .int (iI mna), .ref aSo, .ref aNf, .ref aNg, .ref aSr, .ref aNu, .ref aMa, .ref aNo, .int (iI mfi), .int (iI mru), .int (iI mnv), .ref aLe, .ref aAc, .ref aDi, .ref aOr, .int (iI mki), .int (iI mfr), .int (iI mto), .int (iI mwh)])), iA G aMa 3 ma, iA G aLe 384 le, iA G aDi 16 (uZ D k.toNat (-1)), iA G aOr 16 od] (rfl) ?_
        refine z_iinc (lv' := [(1, .int (iI (k + 1))), (0, .ref aM)]) C d_M_reach_15 1 rfl (by decide) rfl ?_
        refine z_goto (tgt := 2) C d_M_reach_18 (by decide) ?_
        refine z_lv [1, 0] (lv' := [(0, .ref aM), (1, .int (iI (k + 1)))]) rfl ?_
        exact ih2 _ _ (by omega) (fun j => by unfold uZ; rw [hED j]; (repeat' split) <;> first | rfl | (exfalso; omega)) (by omega)
  refine z_lv [1, 0] (lv' := [(0, .ref aM), (1, .int (iI 0))]) rfl ?_
  exact loop2 (_ + 1) _ _ (by omega) (fun j => by rw [if_neg (by omega)]) (Nat.lt_succ_self _)
set_option maxHeartbeats 4000000 in
set_option maxRecDepth 100000 in
theorem m_M_reached (l : Launch) (G : GG) (sz : Nat) (aM : Nat) (aWc : Nat) (aTx : Nat) (aOu : Nat) (aSo : Nat) (aNf : Nat) (aNg : Nat) (aSr : Nat) (aNu : Nat) (aMa : Nat) (aNo : Nat) (aLe : Nat) (aAc : Nat) (aDi : Nat) (aOr : Nat) (mth : Int) (msz : Int) (mwr : Int) (mfa : Int) (mpl : Int) (mle : Int) (mna : Int) (mfi : Int) (mru : Int) (mnv : Int) (mki : Int) (mfr : Int) (mto : Int) (mwh : Int) (ma : Nat → Int) (le : Nat → Int) (di : Nat → Int) (od : Nat → Int) (s : Int) (w : Int) (hct : cnt ma) (hgl : ∀ j, -2 ≤ le j ∧ (le j < 0 ∨ le j < ma 0)) (hfi : 0 < ma 0 → 0 ≤ mfi ∧ mfi < ma 0) (h1 : -2147483648 ≤ s ∧ s ≤ 2147483647 ∧ -2147483648 ≤ w ∧ w ≤ 2147483647) : MetI l G sz y_M_reached c_M_reached 3 (some .int) ({ frames := 3, cells := 0, slots := 0, locals := 67 } : Room) [.ref aM, .int (iI s), .int (iI w)] [(aM, .inr (8, [.ref aWc, .int (iI mth), .int (iI msz), .ref aTx, .int (iI mwr), .ref aOu, .int (iI mfa), .int (iI mpl), .int (iI mle), .int (iI mna), .ref aSo, .ref aNf, .ref aNg, .ref aSr, .ref aNu, .ref aMa, .ref aNo, .int (iI mfi), .int (iI mru), .int (iI mnv), .ref aLe, .ref aAc, .ref aDi, .ref aOr, .int (iI mki), .int (iI mfr), .int (iI mto), .int (iI mwh)])), iA G aMa 3 ma, iA G aLe 384 le, iA G aDi 16 di, iA G aOr 16 od] (fun (r : Int32) (u : Int × Int × (Nat → Int) × (Nat → Int)) => r = iI u.1 ∧ ((¬ (0 ≤ s ∧ s < ma 0 ∧ 0 ≤ w ∧ w ≤ 1) → u.2.1 = 1 ∧ u.1 = 0) ∧ ((0 ≤ s ∧ s < ma 0 ∧ 0 ≤ w ∧ w ≤ 1) → u.2.1 = 0 ∧ ((0 < ma 0 → DS (fun (s e : Int) => le (prf ma s e).toNat) (ma 0) (ma 1 + ma 2) mfi u.2.2.1) ∧ (¬ 0 < ma 0 → ∀ j : Nat, j < 16 → u.2.2.1 j = -1)) ∧ u.1 = if w = 1 then u.2.2.1 s.toNat else rch u.2.2.1 s))) (fun (u : Int × Int × (Nat → Int) × (Nat → Int)) => [(aM, .inr (8, [.ref aWc, .int (iI u.2.1), .int (iI msz), .ref aTx, .int (iI mwr), .ref aOu, .int (iI mfa), .int (iI mpl), .int (iI mle), .int (iI mna), .ref aSo, .ref aNf, .ref aNg, .ref aSr, .ref aNu, .ref aMa, .ref aNo, .int (iI mfi), .int (iI mru), .int (iI mnv), .ref aLe, .ref aAc, .ref aDi, .ref aOr, .int (iI mki), .int (iI mfr), .int (iI mto), .int (iI mwh)])), iA G aMa 3 ma, iA G aLe 384 le, iA G aDi 16 u.2.2.1, iA G aOr 16 u.2.2.2]) := by
  refine MetI.mk (by decide) (Nat.le_of_ble_eq_true rfl) (fun X C K => ?_)
  show Zc G X 3 0 0 [(aM, .inr (8, [.ref aWc, .int (iI mth), .int (iI msz), .ref aTx, .int (iI mwr), .ref aOu, .int (iI mfa), .int (iI mpl), .int (iI mle), .int (iI mna), .ref aSo, .ref aNf, .ref aNg, .ref aSr, .ref aNu, .ref aMa, .ref aNo, .int (iI mfi), .int (iI mru), .int (iI mnv), .ref aLe, .ref aAc, .ref aDi, .ref aOr, .int (iI mki), .int (iI mfr), .int (iI mto), .int (iI mwh)])), iA G aMa 3 ma, iA G aLe 384 le, iA G aDi 16 di, iA G aOr 16 od] [(0, .ref aM), (1, .int (iI s)), (2, .int (iI w))] 0 []
  have hcc := hct
  unfold cnt at hcc
  refine z_aload_n C d_M_reached_0 0 rfl ?_
  refine z_iconst C d_M_reached_1 ?_
  refine z_put C f_M_55 ok_M nm_M d_M_reached_2 0 rfl rfl rfl rfl (Nat.le_of_ble_eq_true rfl) [(aM, .inr (8, [.ref aWc, .int (iI 0), .int (iI msz), .ref aTx, .int (iI mwr), .ref aOu, .int (iI mfa), .int (iI mpl), .int (iI mle), .int (iI mna), .ref aSo, .ref aNf, .ref aNg, .ref aSr, .ref aNu, .ref aMa, .ref aNo, .int (iI mfi), .int (iI mru), .int (iI mnv), .ref aLe, .ref aAc, .ref aDi, .ref aOr, .int (iI mki), .int (iI mfr), .int (iI mto), .int (iI mwh)])), iA G aMa 3 ma, iA G aLe 384 le, iA G aDi 16 di, iA G aOr 16 od] rfl ?_
  refine z_iload_n C d_M_reached_5 1 rfl ?_
  refine z_iconst C d_M_reached_6 ?_
  refine z_aload_n C d_M_reached_7 0 rfl ?_
  refine z_get C f_M_34 d_M_reached_8 0 rfl rfl ?_
  refine z_iconst C d_M_reached_11 ?_
  refine z_iald C d_M_reached_12 1 rfl (by omega) ?_
  refine z_topi (y := iI (ma 0)) (rfl) ?_
  refine z_iconst C d_M_reached_13 ?_
  refine z_isub C d_M_reached_14 ?_
  refine z_calliS (As := [.int (iI s), .int (iI 0), .int (iI ((ma 0) - 1))]) (rest := []) (wr := [(aM, .inr (8, [.ref aWc, .int (iI 0), .int (iI msz), .ref aTx, .int (iI mwr), .ref aOu, .int (iI mfa), .int (iI mpl), .int (iI mle), .int (iI mna), .ref aSo, .ref aNf, .ref aNg, .ref aSr, .ref aNu, .ref aMa, .ref aNo, .int (iI mfi), .int (iI mru), .int (iI mnv), .ref aLe, .ref aAc, .ref aDi, .ref aOr, .int (iI mki), .int (iI mfr), .int (iI mto), .int (iI mwh)])), iA G aMa 3 ma, iA G aLe 384 le, iA G aDi 16 di, iA G aOr 16 od]) (ws' := fun u => [(aM, .inr (8, [.ref aWc, .int (iI 0), .int (iI msz), .ref aTx, .int (iI mwr), .ref aOu, .int (iI mfa), .int (iI mpl), .int (iI mle), .int (iI mna), .ref aSo, .ref aNf, .ref aNg, .ref aSr, .ref aNu, .ref aMa, .ref aNo, .int (iI mfi), .int (iI mru), .int (iI mnv), .ref aLe, .ref aAc, .ref aDi, .ref aOr, .int (iI mki), .int (iI mfr), .int (iI mto), .int (iI mwh)])), iA G aMa 3 ma, iA G aLe 384 le, iA G aDi 16 di, iA G aOr 16 od]) C k_M_66 kc_M_within (fun l sz => m_M_within l G sz s 0 ((ma 0) - 1) (by omega) (by omega) (by omega)) rfl rfl (Nat.le_of_ble_eq_true rfl) (by decide) d_M_reached_15 [] [0, 1, 2, 3, 4] [0, 1, 2, 3, 4] rfl rfl (by decide) (fun u => rfl) (fun r u h15 => ?_)
  obtain rfl := h15
  show Zc G X 3 0 0 [(aM, .inr (8, [.ref aWc, .int (iI 0), .int (iI msz), .ref aTx, .int (iI mwr), .ref aOu, .int (iI mfa), .int (iI mpl), .int (iI mle), .int (iI mna), .ref aSo, .ref aNf, .ref aNg, .ref aSr, .ref aNu, .ref aMa, .ref aNo, .int (iI mfi), .int (iI mru), .int (iI mnv), .ref aLe, .ref aAc, .ref aDi, .ref aOr, .int (iI mki), .int (iI mfr), .int (iI mto), .int (iI mwh)])), iA G aMa 3 ma, iA G aLe 384 le, iA G aDi 16 di, iA G aOr 16 od] [(0, .ref aM), (1, .int (iI s)), (2, .int (iI w))] 18 [.int (iI (wit s 0 ((ma 0) - 1)))]
  have hw1 : wit s 0 (ma 0 - 1) = if 0 ≤ s ∧ s ≤ ma 0 - 1 then 1 else 0 := rfl
  have hw1b := wit_01 s 0 (ma 0 - 1)
  refine z_if_eq (tgt := 30) C d_M_reached_18 (by decide) (by omega) (fun c18 => ?_) (fun c18 => ?_)
  ·
    have hv : ¬ (0 ≤ s ∧ s < ma 0 ∧ 0 ≤ w ∧ w ≤ 1) := by split at hw1 <;> omega
    refine z_aload_n C d_M_reached_30 0 rfl ?_
    refine z_iconst C d_M_reached_31 ?_
    refine z_calli (As := [.int (iI 1)]) (rest := []) (wr := [iA G aMa 3 ma, iA G aLe 384 le, iA G aDi 16 di, iA G aOr 16 od]) (ws' := fun u => [(aM, .inr (8, [.ref aWc, .int (iI 1), .int (iI msz), .ref aTx, .int (iI mwr), .ref aOu, .int (iI mfa), .int (iI mpl), .int (iI mle), .int (iI mna), .ref aSo, .ref aNf, .ref aNg, .ref aSr, .ref aNu, .ref aMa, .ref aNo, .int (iI mfi), .int (iI mru), .int (iI mnv), .ref aLe, .ref aAc, .ref aDi, .ref aOr, .int (iI mki), .int (iI mfr), .int (iI mto), .int (iI mwh)])), iA G aMa 3 ma, iA G aLe 384 le, iA G aDi 16 di, iA G aOr 16 od]) (q0 := 0) C k_M_62 kc_M_fail (fun l sz => m_M_fail l G sz aM aWc aTx aOu aSo aNf aNg aSr aNu aMa aNo aLe aAc aDi aOr 0 msz mwr mfa mpl mle mna mfi mru mnv mki mfr mto mwh 1 ) rfl rfl (Nat.le_of_ble_eq_true rfl) (by decide) d_M_reached_32 rfl rfl [0] [1, 2, 3, 4] [4, 0, 1, 2, 3] rfl rfl (by decide) (fun u => rfl) (fun r u h32 => ?_)
    obtain rfl := h32
    show Zc G X 3 0 0 [(aM, .inr (8, [.ref aWc, .int (iI 1), .int (iI msz), .ref aTx, .int (iI mwr), .ref aOu, .int (iI mfa), .int (iI mpl), .int (iI mle), .int (iI mna), .ref aSo, .ref aNf, .ref aNg, .ref aSr, .ref aNu, .ref aMa, .ref aNo, .int (iI mfi), .int (iI mru), .int (iI mnv), .ref aLe, .ref aAc, .ref aDi, .ref aOr, .int (iI mki), .int (iI mfr), .int (iI mto), .int (iI mwh)])), iA G aMa 3 ma, iA G aLe 384 le, iA G aDi 16 di, iA G aOr 16 od] [(0, .ref aM), (1, .int (iI s)), (2, .int (iI w))] 35 [.int (iI 0)]
    exact z_iret C K d_M_reached_35 (rfl) (0, 1, di, od) (rfl) (show iI 0 = iI 0 ∧ ((¬ (0 ≤ s ∧ s < ma 0 ∧ 0 ≤ w ∧ w ≤ 1) → 1 = 1 ∧ 0 = 0) ∧ ((0 ≤ s ∧ s < ma 0 ∧ 0 ≤ w ∧ w ≤ 1) → 1 = 0 ∧ ((0 < ma 0 → DS (fun (s e : Int) => le (prf ma s e).toNat) (ma 0) (ma 1 + ma 2) mfi di) ∧ (¬ 0 < ma 0 → ∀ j : Nat, j < 16 → di j = -1)) ∧ 0 = if w = 1 then di s.toNat else rch di s)) from ⟨rfl, fun _ => ⟨rfl, rfl⟩, fun z => absurd z hv⟩)
  ·
    refine z_iload_n C d_M_reached_21 2 rfl ?_
    refine z_iconst C d_M_reached_22 ?_
    refine z_iconst C d_M_reached_23 ?_
    refine z_calliS (As := [.int (iI w), .int (iI 0), .int (iI 1)]) (rest := []) (wr := [(aM, .inr (8, [.ref aWc, .int (iI 0), .int (iI msz), .ref aTx, .int (iI mwr), .ref aOu, .int (iI mfa), .int (iI mpl), .int (iI mle), .int (iI mna), .ref aSo, .ref aNf, .ref aNg, .ref aSr, .ref aNu, .ref aMa, .ref aNo, .int (iI mfi), .int (iI mru), .int (iI mnv), .ref aLe, .ref aAc, .ref aDi, .ref aOr, .int (iI mki), .int (iI mfr), .int (iI mto), .int (iI mwh)])), iA G aMa 3 ma, iA G aLe 384 le, iA G aDi 16 di, iA G aOr 16 od]) (ws' := fun u => [(aM, .inr (8, [.ref aWc, .int (iI 0), .int (iI msz), .ref aTx, .int (iI mwr), .ref aOu, .int (iI mfa), .int (iI mpl), .int (iI mle), .int (iI mna), .ref aSo, .ref aNf, .ref aNg, .ref aSr, .ref aNu, .ref aMa, .ref aNo, .int (iI mfi), .int (iI mru), .int (iI mnv), .ref aLe, .ref aAc, .ref aDi, .ref aOr, .int (iI mki), .int (iI mfr), .int (iI mto), .int (iI mwh)])), iA G aMa 3 ma, iA G aLe 384 le, iA G aDi 16 di, iA G aOr 16 od]) C k_M_66 kc_M_within (fun l sz => m_M_within l G sz w 0 1 (by omega) (by omega) (by omega)) rfl rfl (Nat.le_of_ble_eq_true rfl) (by decide) d_M_reached_24 [] [0, 1, 2, 3, 4] [0, 1, 2, 3, 4] rfl rfl (by decide) (fun u => rfl) (fun r u h24 => ?_)
    obtain rfl := h24
    show Zc G X 3 0 0 [(aM, .inr (8, [.ref aWc, .int (iI 0), .int (iI msz), .ref aTx, .int (iI mwr), .ref aOu, .int (iI mfa), .int (iI mpl), .int (iI mle), .int (iI mna), .ref aSo, .ref aNf, .ref aNg, .ref aSr, .ref aNu, .ref aMa, .ref aNo, .int (iI mfi), .int (iI mru), .int (iI mnv), .ref aLe, .ref aAc, .ref aDi, .ref aOr, .int (iI mki), .int (iI mfr), .int (iI mto), .int (iI mwh)])), iA G aMa 3 ma, iA G aLe 384 le, iA G aDi 16 di, iA G aOr 16 od] [(0, .ref aM), (1, .int (iI s)), (2, .int (iI w))] 27 [.int (iI (wit w 0 1))]
    have hw2 : wit w 0 1 = if 0 ≤ w ∧ w ≤ 1 then 1 else 0 := rfl
    have hw2b := wit_01 w 0 1
    refine z_if_ne (tgt := 36) C d_M_reached_27 (by decide) (by omega) (fun c27 => ?_) (fun c27 => ?_)
    ·
      have hv : 0 ≤ s ∧ s < ma 0 ∧ 0 ≤ w ∧ w ≤ 1 := by split at hw1 <;> split at hw2 <;> omega
      refine z_aload_n C d_M_reached_36 0 rfl ?_
      refine z_callv (As := []) (rest := []) (wr := []) (ws' := fun u => [(aM, .inr (8, [.ref aWc, .int (iI 0), .int (iI msz), .ref aTx, .int (iI mwr), .ref aOu, .int (iI mfa), .int (iI mpl), .int (iI mle), .int (iI mna), .ref aSo, .ref aNf, .ref aNg, .ref aSr, .ref aNu, .ref aMa, .ref aNo, .int (iI mfi), .int (iI mru), .int (iI mnv), .ref aLe, .ref aAc, .ref aDi, .ref aOr, .int (iI mki), .int (iI mfr), .int (iI mto), .int (iI mwh)])), iA G aMa 3 ma, iA G aLe 384 le, iA G aDi 16 u.1, iA G aOr 16 u.2]) (q0 := 0) C k_M_185 kc_M_reach (fun l sz => m_M_reach l G sz aM aWc aTx aOu aSo aNf aNg aSr aNu aMa aNo aLe aAc aDi aOr 0 msz mwr mfa mpl mle mna mfi mru mnv mki mfr mto mwh ma le di od (hct) (hgl) (hfi)) rfl rfl (Nat.le_of_ble_eq_true rfl) (by decide) d_M_reached_37 rfl rfl [0, 1, 2, 3, 4] [] [0, 1, 2, 3, 4] rfl rfl (by decide) (fun u => rfl) (fun u h37 => ?_)
      obtain ⟨di2_37, od2_37⟩ := u
      obtain ⟨hd_37, hg_37⟩ := h37
      have hd_37 : (0 < ma 0 → DS (fun (s e : Int) => le (prf ma s e).toNat) (ma 0) (ma 1 + ma 2) mfi di2_37) ∧ (¬ 0 < ma 0 → ∀ j : Nat, j < 16 → di2_37 j = -1) := hd_37
      have hg_37 : ∀ j : Nat, j < 16 → -1 ≤ di2_37 j ∧ di2_37 j ≤ 15 := hg_37
      show Zc G X 3 0 0 [(aM, .inr (8, [.ref aWc, .int (iI 0), .int (iI msz), .ref aTx, .int (iI mwr), .ref aOu, .int (iI mfa), .int (iI mpl), .int (iI mle), .int (iI mna), .ref aSo, .ref aNf, .ref aNg, .ref aSr, .ref aNu, .ref aMa, .ref aNo, .int (iI mfi), .int (iI mru), .int (iI mnv), .ref aLe, .ref aAc, .ref aDi, .ref aOr, .int (iI mki), .int (iI mfr), .int (iI mto), .int (iI mwh)])), iA G aMa 3 ma, iA G aLe 384 le, iA G aDi 16 di2_37, iA G aOr 16 od2_37] [(0, .ref aM), (1, .int (iI s)), (2, .int (iI w))] 40 []
      have hdr := hg_37 s.toNat (by omega)
      refine z_iload_n C d_M_reached_40 2 rfl ?_
      refine z_iconst C d_M_reached_41 ?_
      refine z_icmp_ne (tgt := 54) C d_M_reached_42 (by decide) (by omega) (by omega) (fun c42 => ?_) (fun c42 => ?_)
      ·
        refine z_aload_n C d_M_reached_54 0 rfl ?_
        refine z_get C f_M_46 d_M_reached_55 0 rfl rfl ?_
        refine z_iload_n C d_M_reached_58 1 rfl ?_
        refine z_iald C d_M_reached_59 3 rfl (by omega) ?_
        refine z_if_lt (tgt := 67) C d_M_reached_60 (by decide) (by omega) (fun c60 => ?_) (fun c60 => ?_)
        ·
          refine z_iconst C d_M_reached_67 ?_
          exact z_iret C K d_M_reached_68 (rfl) (0, 0, di2_37, od2_37) (rfl) (show iI 0 = iI 0 ∧ ((¬ (0 ≤ s ∧ s < ma 0 ∧ 0 ≤ w ∧ w ≤ 1) → 0 = 1 ∧ 0 = 0) ∧ ((0 ≤ s ∧ s < ma 0 ∧ 0 ≤ w ∧ w ≤ 1) → 0 = 0 ∧ ((0 < ma 0 → DS (fun (s e : Int) => le (prf ma s e).toNat) (ma 0) (ma 1 + ma 2) mfi di2_37) ∧ (¬ 0 < ma 0 → ∀ j : Nat, j < 16 → di2_37 j = -1)) ∧ 0 = if w = 1 then di2_37 s.toNat else rch di2_37 s)) from ⟨rfl, fun z => absurd hv z, fun _ => ⟨rfl, hd_37, by rw [if_neg (by omega)]; unfold rch; rw [if_pos (by omega)]⟩⟩)
        ·
          refine z_iconst C d_M_reached_63 ?_
          refine z_goto (tgt := 68) C d_M_reached_64 (by decide) ?_
          exact z_iret C K d_M_reached_68 (rfl) (1, 0, di2_37, od2_37) (rfl) (show iI 1 = iI 1 ∧ ((¬ (0 ≤ s ∧ s < ma 0 ∧ 0 ≤ w ∧ w ≤ 1) → 0 = 1 ∧ 1 = 0) ∧ ((0 ≤ s ∧ s < ma 0 ∧ 0 ≤ w ∧ w ≤ 1) → 0 = 0 ∧ ((0 < ma 0 → DS (fun (s e : Int) => le (prf ma s e).toNat) (ma 0) (ma 1 + ma 2) mfi di2_37) ∧ (¬ 0 < ma 0 → ∀ j : Nat, j < 16 → di2_37 j = -1)) ∧ 1 = if w = 1 then di2_37 s.toNat else rch di2_37 s)) from ⟨rfl, fun z => absurd hv z, fun _ => ⟨rfl, hd_37, by rw [if_neg (by omega)]; unfold rch; rw [if_neg (by omega)]⟩⟩)
      ·
        refine z_aload_n C d_M_reached_45 0 rfl ?_
        refine z_get C f_M_46 d_M_reached_46 0 rfl rfl ?_
        refine z_iload_n C d_M_reached_49 1 rfl ?_
        refine z_iald C d_M_reached_50 3 rfl (by omega) ?_
        refine z_goto (tgt := 68) C d_M_reached_51 (by decide) ?_
        exact z_iret C K d_M_reached_68 (rfl) (di2_37 s.toNat, 0, di2_37, od2_37) (rfl) (show iI (di2_37 s.toNat) = iI (di2_37 s.toNat) ∧ ((¬ (0 ≤ s ∧ s < ma 0 ∧ 0 ≤ w ∧ w ≤ 1) → 0 = 1 ∧ (di2_37 s.toNat) = 0) ∧ ((0 ≤ s ∧ s < ma 0 ∧ 0 ≤ w ∧ w ≤ 1) → 0 = 0 ∧ ((0 < ma 0 → DS (fun (s e : Int) => le (prf ma s e).toNat) (ma 0) (ma 1 + ma 2) mfi di2_37) ∧ (¬ 0 < ma 0 → ∀ j : Nat, j < 16 → di2_37 j = -1)) ∧ (di2_37 s.toNat) = if w = 1 then di2_37 s.toNat else rch di2_37 s)) from ⟨rfl, fun z => absurd hv z, fun _ => ⟨rfl, hd_37, by rw [if_pos (by omega)]⟩⟩)
    ·
      have hv : ¬ (0 ≤ s ∧ s < ma 0 ∧ 0 ≤ w ∧ w ≤ 1) := by split at hw2 <;> omega
      refine z_aload_n C d_M_reached_30 0 rfl ?_
      refine z_iconst C d_M_reached_31 ?_
      refine z_calli (As := [.int (iI 1)]) (rest := []) (wr := [iA G aMa 3 ma, iA G aLe 384 le, iA G aDi 16 di, iA G aOr 16 od]) (ws' := fun u => [(aM, .inr (8, [.ref aWc, .int (iI 1), .int (iI msz), .ref aTx, .int (iI mwr), .ref aOu, .int (iI mfa), .int (iI mpl), .int (iI mle), .int (iI mna), .ref aSo, .ref aNf, .ref aNg, .ref aSr, .ref aNu, .ref aMa, .ref aNo, .int (iI mfi), .int (iI mru), .int (iI mnv), .ref aLe, .ref aAc, .ref aDi, .ref aOr, .int (iI mki), .int (iI mfr), .int (iI mto), .int (iI mwh)])), iA G aMa 3 ma, iA G aLe 384 le, iA G aDi 16 di, iA G aOr 16 od]) (q0 := 0) C k_M_62 kc_M_fail (fun l sz => m_M_fail l G sz aM aWc aTx aOu aSo aNf aNg aSr aNu aMa aNo aLe aAc aDi aOr 0 msz mwr mfa mpl mle mna mfi mru mnv mki mfr mto mwh 1 ) rfl rfl (Nat.le_of_ble_eq_true rfl) (by decide) d_M_reached_32 rfl rfl [0] [1, 2, 3, 4] [4, 0, 1, 2, 3] rfl rfl (by decide) (fun u => rfl) (fun r u h32 => ?_)
      obtain rfl := h32
      show Zc G X 3 0 0 [(aM, .inr (8, [.ref aWc, .int (iI 1), .int (iI msz), .ref aTx, .int (iI mwr), .ref aOu, .int (iI mfa), .int (iI mpl), .int (iI mle), .int (iI mna), .ref aSo, .ref aNf, .ref aNg, .ref aSr, .ref aNu, .ref aMa, .ref aNo, .int (iI mfi), .int (iI mru), .int (iI mnv), .ref aLe, .ref aAc, .ref aDi, .ref aOr, .int (iI mki), .int (iI mfr), .int (iI mto), .int (iI mwh)])), iA G aMa 3 ma, iA G aLe 384 le, iA G aDi 16 di, iA G aOr 16 od] [(0, .ref aM), (1, .int (iI s)), (2, .int (iI w))] 35 [.int (iI 0)]
      exact z_iret C K d_M_reached_35 (rfl) (0, 1, di, od) (rfl) (show iI 0 = iI 0 ∧ ((¬ (0 ≤ s ∧ s < ma 0 ∧ 0 ≤ w ∧ w ≤ 1) → 1 = 1 ∧ 0 = 0) ∧ ((0 ≤ s ∧ s < ma 0 ∧ 0 ≤ w ∧ w ≤ 1) → 1 = 0 ∧ ((0 < ma 0 → DS (fun (s e : Int) => le (prf ma s e).toNat) (ma 0) (ma 1 + ma 2) mfi di) ∧ (¬ 0 < ma 0 → ∀ j : Nat, j < 16 → di j = -1)) ∧ 0 = if w = 1 then di s.toNat else rch di s)) from ⟨rfl, fun _ => ⟨rfl, rfl⟩, fun z => absurd z hv⟩)
set_option maxHeartbeats 4000000 in
set_option maxRecDepth 100000 in
theorem m_M_sends (l : Launch) (G : GG) (sz : Nat) (aM : Nat) (aWc : Nat) (aTx : Nat) (aOu : Nat) (aSo : Nat) (aNf : Nat) (aNg : Nat) (aSr : Nat) (aNu : Nat) (aMa : Nat) (aNo : Nat) (aLe : Nat) (aAc : Nat) (aDi : Nat) (aOr : Nat) (mth : Int) (msz : Int) (mwr : Int) (mfa : Int) (mpl : Int) (mle : Int) (mna : Int) (mfi : Int) (mru : Int) (mnv : Int) (mki : Int) (mfr : Int) (mto : Int) (mwh : Int) (ma : Nat → Int) (le : Nat → Int) (ac : Nat → Int) (s : Int) (k : Int) (hct : cnt ma) (hgk : gok ma le ac) (h1 : 0 ≤ s ∧ s < ma 0 ∧ 0 ≤ k ∧ k < 16) : MetI l G sz y_M_sends c_M_sends 6 (some .boolean) ({ frames := 2, cells := 0, slots := 0, locals := 43 } : Room) [.ref aM, .int (iI s), .int (iI k)] [(aM, .inr (8, [.ref aWc, .int (iI mth), .int (iI msz), .ref aTx, .int (iI mwr), .ref aOu, .int (iI mfa), .int (iI mpl), .int (iI mle), .int (iI mna), .ref aSo, .ref aNf, .ref aNg, .ref aSr, .ref aNu, .ref aMa, .ref aNo, .int (iI mfi), .int (iI mru), .int (iI mnv), .ref aLe, .ref aAc, .ref aDi, .ref aOr, .int (iI mki), .int (iI mfr), .int (iI mto), .int (iI mwh)])), iA G aMa 3 ma, iA G aLe 384 le, iA G aAc 1536 ac] (fun (r : Int32) (u : Int) => r = iI u ∧ (flg u (sndM ma le ac s k))) (fun (u : Int) => [(aM, .inr (8, [.ref aWc, .int (iI mth), .int (iI msz), .ref aTx, .int (iI mwr), .ref aOu, .int (iI mfa), .int (iI mpl), .int (iI mle), .int (iI mna), .ref aSo, .ref aNf, .ref aNg, .ref aSr, .ref aNu, .ref aMa, .ref aNo, .int (iI mfi), .int (iI mru), .int (iI mnv), .ref aLe, .ref aAc, .ref aDi, .ref aOr, .int (iI mki), .int (iI mfr), .int (iI mto), .int (iI mwh)])), iA G aMa 3 ma, iA G aLe 384 le, iA G aAc 1536 ac]) := by
  refine MetI.mk (by decide) (Nat.le_of_ble_eq_true rfl) (fun X C K => ?_)
  show Zc G X 6 0 0 [(aM, .inr (8, [.ref aWc, .int (iI mth), .int (iI msz), .ref aTx, .int (iI mwr), .ref aOu, .int (iI mfa), .int (iI mpl), .int (iI mle), .int (iI mna), .ref aSo, .ref aNf, .ref aNg, .ref aSr, .ref aNu, .ref aMa, .ref aNo, .int (iI mfi), .int (iI mru), .int (iI mnv), .ref aLe, .ref aAc, .ref aDi, .ref aOr, .int (iI mki), .int (iI mfr), .int (iI mto), .int (iI mwh)])), iA G aMa 3 ma, iA G aLe 384 le, iA G aAc 1536 ac] [(0, .ref aM), (1, .int (iI s)), (2, .int (iI k))] 0 []
  have hcc := hct
  unfold cnt at hcc
  refine z_iconst C d_M_sends_0 ?_
  refine z_istore_n (lv' := [(3, .int (iI 0)), (0, .ref aM), (1, .int (iI s)), (2, .int (iI k))]) C d_M_sends_1 (by decide) rfl ?_
  refine z_iconst C d_M_sends_2 ?_
  refine z_istore (lv' := [(4, .int (iI 0)), (3, .int (iI 0)), (0, .ref aM), (1, .int (iI s)), (2, .int (iI k))]) C d_M_sends_3 (by decide) rfl ?_
  have loop5 : ∀ (kq : Nat) (f : Int) (e : Int), (0 ≤ e ∧ e ≤ ma 1 + ma 2) → (flg f (sndP ma le ac s k e 0)) → ((ma 1 + ma 2 - e).toNat < kq) → Zc G X 6 0 0 [(aM, .inr (8, [.ref aWc, .int (iI mth), .int (iI msz), .ref aTx, .int (iI mwr), .ref aOu, .int (iI mfa), .int (iI mpl), .int (iI mle), .int (iI mna), .ref aSo, .ref aNf, .ref aNg, .ref aSr, .ref aNu, .ref aMa, .ref aNo, .int (iI mfi), .int (iI mru), .int (iI mnv), .ref aLe, .ref aAc, .ref aDi, .ref aOr, .int (iI mki), .int (iI mfr), .int (iI mto), .int (iI mwh)])), iA G aMa 3 ma, iA G aLe 384 le, iA G aAc 1536 ac] [(0, .ref aM), (1, .int (iI s)), (2, .int (iI k)), (3, .int (iI f)), (4, .int (iI e))] 5 [] := by
    intro kq
    induction kq with
    | zero => intro f e he hF hm; exact absurd hm (Nat.not_lt_zero _)
    | succ kq ih5 =>
      intro f e he hF hm
      -- loop body
      refine z_iload C d_M_sends_5 4 rfl ?_
      refine z_aload_n C d_M_sends_7 0 rfl ?_
      refine z_calli (As := []) (rest := [.int (iI e)]) (wr := [iA G aLe 384 le, iA G aAc 1536 ac]) (ws' := fun u => [(aM, .inr (8, [.ref aWc, .int (iI mth), .int (iI msz), .ref aTx, .int (iI mwr), .ref aOu, .int (iI mfa), .int (iI mpl), .int (iI mle), .int (iI mna), .ref aSo, .ref aNf, .ref aNg, .ref aSr, .ref aNu, .ref aMa, .ref aNo, .int (iI mfi), .int (iI mru), .int (iI mnv), .ref aLe, .ref aAc, .ref aDi, .ref aOr, .int (iI mki), .int (iI mfr), .int (iI mto), .int (iI mwh)])), iA G aMa 3 ma, iA G aLe 384 le, iA G aAc 1536 ac]) (q0 := 0) C k_M_172 kc_M_events (fun l sz => m_M_events l G sz aM aWc aTx aOu aSo aNf aNg aSr aNu aMa aNo aLe aAc aDi aOr mth msz mwr mfa mpl mle mna mfi mru mnv mki mfr mto mwh ma ) rfl rfl (Nat.le_of_ble_eq_true rfl) (by decide) d_M_sends_8 rfl rfl [0, 1] [2, 3] [2, 3, 0, 1] rfl rfl (by decide) (fun u => rfl) (fun r u h8 => ?_)
      obtain rfl := h8
      show Zc G X 6 0 0 [(aM, .inr (8, [.ref aWc, .int (iI mth), .int (iI msz), .ref aTx, .int (iI mwr), .ref aOu, .int (iI mfa), .int (iI mpl), .int (iI mle), .int (iI mna), .ref aSo, .ref aNf, .ref aNg, .ref aSr, .ref aNu, .ref aMa, .ref aNo, .int (iI mfi), .int (iI mru), .int (iI mnv), .ref aLe, .ref aAc, .ref aDi, .ref aOr, .int (iI mki), .int (iI mfr), .int (iI mto), .int (iI mwh)])), iA G aMa 3 ma, iA G aLe 384 le, iA G aAc 1536 ac] [(0, .ref aM), (1, .int (iI s)), (2, .int (iI k)), (3, .int (iI f)), (4, .int (iI e))] 11 [.int (iI (ma 1 + ma 2)), .int (iI e)]
      refine z_icmp_ge (tgt := 81) C d_M_sends_11 (by decide) (by omega) (by omega) (fun c11 => ?_) (fun c11 => ?_)
      ·
        refine z_iload_n C d_M_sends_81 3 rfl ?_
        have ee : e = ma 1 + ma 2 := by omega
        rw [ee] at hF
        exact z_iret C K d_M_sends_82 (by rcases flg_rg hF with e | e <;> rw [e] <;> decide) f (rfl) (show iI f = iI f ∧ (flg f (sndM ma le ac s k)) from ⟨rfl, hF⟩)
      ·
        refine z_iconst C d_M_sends_14 ?_
        refine z_istore (lv' := [(5, .int (iI 0)), (0, .ref aM), (1, .int (iI s)), (2, .int (iI k)), (3, .int (iI f)), (4, .int (iI e))]) C d_M_sends_15 (by decide) rfl ?_
        have loop17 : ∀ (kq : Nat) (f2 : Int) (j : Int), (0 ≤ j ∧ j ≤ 4) → (flg f2 (sndP ma le ac s k e j)) → ((4 - j).toNat < kq) → Zc G X 6 0 0 [(aM, .inr (8, [.ref aWc, .int (iI mth), .int (iI msz), .ref aTx, .int (iI mwr), .ref aOu, .int (iI mfa), .int (iI mpl), .int (iI mle), .int (iI mna), .ref aSo, .ref aNf, .ref aNg, .ref aSr, .ref aNu, .ref aMa, .ref aNo, .int (iI mfi), .int (iI mru), .int (iI mnv), .ref aLe, .ref aAc, .ref aDi, .ref aOr, .int (iI mki), .int (iI mfr), .int (iI mto), .int (iI mwh)])), iA G aMa 3 ma, iA G aLe 384 le, iA G aAc 1536 ac] [(0, .ref aM), (1, .int (iI s)), (2, .int (iI k)), (3, .int (iI f2)), (4, .int (iI e)), (5, .int (iI j))] 17 [] := by
          intro kq
          induction kq with
          | zero => intro f2 j hj hG hm; exact absurd hm (Nat.not_lt_zero _)
          | succ kq ih17 =>
            intro f2 j hj hG hm
            have hfr := flg_rg hG
            -- loop body
            refine z_iload C d_M_sends_17 5 rfl ?_
            refine z_iconst C d_M_sends_19 ?_
            refine z_icmp_ge (tgt := 75) C d_M_sends_20 (by decide) (by omega) (by omega) (fun c20 => ?_) (fun c20 => ?_)
            ·
              refine z_iinc (lv' := [(4, .int (iI (e + 1))), (0, .ref aM), (1, .int (iI s)), (2, .int (iI k)), (3, .int (iI f2)), (5, .int (iI j))]) C d_M_sends_75 4 rfl (by decide) rfl ?_
              refine z_goto (tgt := 5) C d_M_sends_78 (by decide) ?_
              refine z_lv [1, 2, 3, 4, 0] (lv' := [(0, .ref aM), (1, .int (iI s)), (2, .int (iI k)), (3, .int (iI f2)), (4, .int (iI (e + 1)))]) rfl ?_
              exact ih5 _ _ (by omega) (flg_iff hG (sndP_e (by omega))) (by omega)
            ·
              refine z_iload_n C d_M_sends_23 3 rfl ?_
              refine z_if_ne (tgt := 63) C d_M_sends_24 (by decide) (by omega) (fun c24 => ?_) (fun c24 => ?_)
              ·
                refine z_iconst C d_M_sends_63 ?_
                refine z_goto (tgt := 68) C d_M_sends_64 (by decide) ?_
                refine z_istore_n (lv' := [(3, .int (iI 1)), (0, .ref aM), (1, .int (iI s)), (2, .int (iI k)), (4, .int (iI e)), (5, .int (iI j))]) C d_M_sends_68 (by decide) rfl ?_
                refine z_iinc (lv' := [(5, .int (iI (j + 1))), (3, .int (iI 1)), (0, .ref aM), (1, .int (iI s)), (2, .int (iI k)), (4, .int (iI e))]) C d_M_sends_69 5 rfl (by decide) rfl ?_
                refine z_goto (tgt := 17) C d_M_sends_72 (by decide) ?_
                refine z_lv [2, 3, 4, 1, 5, 0] (lv' := [(0, .ref aM), (1, .int (iI s)), (2, .int (iI k)), (3, .int (iI 1)), (4, .int (iI e)), (5, .int (iI (j + 1)))]) rfl ?_
                exact ih17 _ _ (by omega) (flgT ((sndP_i (by omega) (by omega)).mpr (Or.inl ((flg_n hG).1 c24)))) (by omega)
              ·
                have hpr := prf_rg hct (s := s) (e := e) (by omega)
                have hgk1 := hgk.1 (prf ma s e).toNat
                refine z_aload_n C d_M_sends_27 0 rfl ?_
                refine z_get C f_M_40 d_M_sends_28 0 rfl rfl ?_
                refine z_aload_n C d_M_sends_31 0 rfl ?_
                refine z_iload_n C d_M_sends_32 1 rfl ?_
                refine z_iload C d_M_sends_33 4 rfl ?_
                refine z_calli (As := [.int (iI s), .int (iI e)]) (rest := [.ref aLe]) (wr := [iA G aLe 384 le, iA G aAc 1536 ac]) (ws' := fun u => [(aM, .inr (8, [.ref aWc, .int (iI mth), .int (iI msz), .ref aTx, .int (iI mwr), .ref aOu, .int (iI mfa), .int (iI mpl), .int (iI mle), .int (iI mna), .ref aSo, .ref aNf, .ref aNg, .ref aSr, .ref aNu, .ref aMa, .ref aNo, .int (iI mfi), .int (iI mru), .int (iI mnv), .ref aLe, .ref aAc, .ref aDi, .ref aOr, .int (iI mki), .int (iI mfr), .int (iI mto), .int (iI mwh)])), iA G aMa 3 ma, iA G aLe 384 le, iA G aAc 1536 ac]) (q0 := 0) C k_M_182 kc_M_at (fun l sz => m_M_at l G sz aM aWc aTx aOu aSo aNf aNg aSr aNu aMa aNo aLe aAc aDi aOr mth msz mwr mfa mpl mle mna mfi mru mnv mki mfr mto mwh ma s e (hct) (by omega)) rfl rfl (Nat.le_of_ble_eq_true rfl) (by decide) d_M_sends_35 rfl rfl [0, 1] [2, 3] [2, 3, 0, 1] rfl rfl (by decide) (fun u => rfl) (fun r u h35 => ?_)
                obtain rfl := h35
                show Zc G X 6 0 0 [(aM, .inr (8, [.ref aWc, .int (iI mth), .int (iI msz), .ref aTx, .int (iI mwr), .ref aOu, .int (iI mfa), .int (iI mpl), .int (iI mle), .int (iI mna), .ref aSo, .ref aNf, .ref aNg, .ref aSr, .ref aNu, .ref aMa, .ref aNo, .int (iI mfi), .int (iI mru), .int (iI mnv), .ref aLe, .ref aAc, .ref aDi, .ref aOr, .int (iI mki), .int (iI mfr), .int (iI mto), .int (iI mwh)])), iA G aMa 3 ma, iA G aLe 384 le, iA G aAc 1536 ac] [(0, .ref aM), (1, .int (iI s)), (2, .int (iI k)), (3, .int (iI f2)), (4, .int (iI e)), (5, .int (iI j))] 38 [.int (iI (prf ma s e)), .ref aLe]
                refine z_iald C d_M_sends_38 2 rfl (by omega) ?_
                refine z_if_lt (tgt := 67) C d_M_sends_39 (by decide) (by omega) (fun c39 => ?_) (fun c39 => ?_)
                ·
                  refine z_iconst C d_M_sends_67 ?_
                  refine z_istore_n (lv' := [(3, .int (iI 0)), (0, .ref aM), (1, .int (iI s)), (2, .int (iI k)), (4, .int (iI e)), (5, .int (iI j))]) C d_M_sends_68 (by decide) rfl ?_
                  refine z_iinc (lv' := [(5, .int (iI (j + 1))), (3, .int (iI 0)), (0, .ref aM), (1, .int (iI s)), (2, .int (iI k)), (4, .int (iI e))]) C d_M_sends_69 5 rfl (by decide) rfl ?_
                  refine z_goto (tgt := 17) C d_M_sends_72 (by decide) ?_
                  refine z_lv [2, 3, 4, 1, 5, 0] (lv' := [(0, .ref aM), (1, .int (iI s)), (2, .int (iI k)), (3, .int (iI 0)), (4, .int (iI e)), (5, .int (iI (j + 1)))]) rfl ?_
                  exact ih17 _ _ (by omega) (flgF (fun z => ((sndP_i (by omega) (by omega)).mp z).elim ((flg_n hG).2 (by omega)) (fun y => absurd y.1 (by omega)))) (by omega)
                ·
                  have hgk2 := hgk.2 (4 * prf ma s e + j).toNat
                  refine z_aload_n C d_M_sends_42 0 rfl ?_
                  refine z_get C f_M_43 d_M_sends_43 0 rfl rfl ?_
                  refine z_iconst C d_M_sends_46 ?_
                  refine z_aload_n C d_M_sends_47 0 rfl ?_
                  refine z_iload_n C d_M_sends_48 1 rfl ?_
                  refine z_iload C d_M_sends_49 4 rfl ?_
                  refine z_calli (As := [.int (iI s), .int (iI e)]) (rest := [.int (iI 4), .ref aAc]) (wr := [iA G aLe 384 le, iA G aAc 1536 ac]) (ws' := fun u => [(aM, .inr (8, [.ref aWc, .int (iI mth), .int (iI msz), .ref aTx, .int (iI mwr), .ref aOu, .int (iI mfa), .int (iI mpl), .int (iI mle), .int (iI mna), .ref aSo, .ref aNf, .ref aNg, .ref aSr, .ref aNu, .ref aMa, .ref aNo, .int (iI mfi), .int (iI mru), .int (iI mnv), .ref aLe, .ref aAc, .ref aDi, .ref aOr, .int (iI mki), .int (iI mfr), .int (iI mto), .int (iI mwh)])), iA G aMa 3 ma, iA G aLe 384 le, iA G aAc 1536 ac]) (q0 := 0) C k_M_182 kc_M_at (fun l sz => m_M_at l G sz aM aWc aTx aOu aSo aNf aNg aSr aNu aMa aNo aLe aAc aDi aOr mth msz mwr mfa mpl mle mna mfi mru mnv mki mfr mto mwh ma s e (hct) (by omega)) rfl rfl (Nat.le_of_ble_eq_true rfl) (by decide) d_M_sends_51 rfl rfl [0, 1] [2, 3] [2, 3, 0, 1] rfl rfl (by decide) (fun u => rfl) (fun r u h51 => ?_)
                  obtain rfl := h51
                  show Zc G X 6 0 0 [(aM, .inr (8, [.ref aWc, .int (iI mth), .int (iI msz), .ref aTx, .int (iI mwr), .ref aOu, .int (iI mfa), .int (iI mpl), .int (iI mle), .int (iI mna), .ref aSo, .ref aNf, .ref aNg, .ref aSr, .ref aNu, .ref aMa, .ref aNo, .int (iI mfi), .int (iI mru), .int (iI mnv), .ref aLe, .ref aAc, .ref aDi, .ref aOr, .int (iI mki), .int (iI mfr), .int (iI mto), .int (iI mwh)])), iA G aMa 3 ma, iA G aLe 384 le, iA G aAc 1536 ac] [(0, .ref aM), (1, .int (iI s)), (2, .int (iI k)), (3, .int (iI f2)), (4, .int (iI e)), (5, .int (iI j))] 54 [.int (iI (prf ma s e)), .int (iI 4), .ref aAc]
                  refine z_imul C d_M_sends_54 ?_
                  refine z_iload C d_M_sends_55 5 rfl ?_
                  refine z_iadd C d_M_sends_57 ?_
                  refine z_iald C d_M_sends_58 3 rfl (by omega) ?_
                  refine z_iload_n C d_M_sends_59 2 rfl ?_
                  refine z_icmp_ne (tgt := 67) C d_M_sends_60 (by decide) (by omega) (by omega) (fun c60 => ?_) (fun c60 => ?_)
                  ·
                    refine z_iconst C d_M_sends_67 ?_
                    refine z_istore_n (lv' := [(3, .int (iI 0)), (0, .ref aM), (1, .int (iI s)), (2, .int (iI k)), (4, .int (iI e)), (5, .int (iI j))]) C d_M_sends_68 (by decide) rfl ?_
                    refine z_iinc (lv' := [(5, .int (iI (j + 1))), (3, .int (iI 0)), (0, .ref aM), (1, .int (iI s)), (2, .int (iI k)), (4, .int (iI e))]) C d_M_sends_69 5 rfl (by decide) rfl ?_
                    refine z_goto (tgt := 17) C d_M_sends_72 (by decide) ?_
                    refine z_lv [2, 3, 4, 1, 5, 0] (lv' := [(0, .ref aM), (1, .int (iI s)), (2, .int (iI k)), (3, .int (iI 0)), (4, .int (iI e)), (5, .int (iI (j + 1)))]) rfl ?_
                    exact ih17 _ _ (by omega) (flgF (fun z => ((sndP_i (by omega) (by omega)).mp z).elim ((flg_n hG).2 (by omega)) (fun y => absurd y.2 (by omega)))) (by omega)
                  ·
                    refine z_iconst C d_M_sends_63 ?_
                    refine z_goto (tgt := 68) C d_M_sends_64 (by decide) ?_
                    refine z_istore_n (lv' := [(3, .int (iI 1)), (0, .ref aM), (1, .int (iI s)), (2, .int (iI k)), (4, .int (iI e)), (5, .int (iI j))]) C d_M_sends_68 (by decide) rfl ?_
                    refine z_iinc (lv' := [(5, .int (iI (j + 1))), (3, .int (iI 1)), (0, .ref aM), (1, .int (iI s)), (2, .int (iI k)), (4, .int (iI e))]) C d_M_sends_69 5 rfl (by decide) rfl ?_
                    refine z_goto (tgt := 17) C d_M_sends_72 (by decide) ?_
                    refine z_lv [2, 3, 4, 1, 5, 0] (lv' := [(0, .ref aM), (1, .int (iI s)), (2, .int (iI k)), (3, .int (iI 1)), (4, .int (iI e)), (5, .int (iI (j + 1)))]) rfl ?_
                    exact ih17 _ _ (by omega) (flgT ((sndP_i (by omega) (by omega)).mpr (Or.inr ⟨by omega, by omega⟩))) (by omega)
        refine z_lv [1, 2, 3, 4, 5, 0] (lv' := [(0, .ref aM), (1, .int (iI s)), (2, .int (iI k)), (3, .int (iI f)), (4, .int (iI e)), (5, .int (iI 0))]) rfl ?_
        exact loop17 (_ + 1) _ _ (by omega) (hF) (Nat.lt_succ_self _)
  refine z_lv [2, 3, 4, 1, 0] (lv' := [(0, .ref aM), (1, .int (iI s)), (2, .int (iI k)), (3, .int (iI 0)), (4, .int (iI 0))]) rfl ?_
  exact loop5 (_ + 1) _ _ (by omega) (flgF (sndP_0 ma le ac s k)) (Nat.lt_succ_self _)
set_option maxHeartbeats 4000000 in
set_option maxRecDepth 100000 in
theorem m_M_message (l : Launch) (G : GG) (sz : Nat) (aM : Nat) (aWc : Nat) (aTx : Nat) (aOu : Nat) (aSo : Nat) (aNf : Nat) (aNg : Nat) (aSr : Nat) (aNu : Nat) (aMa : Nat) (aNo : Nat) (aLe : Nat) (aAc : Nat) (aDi : Nat) (aOr : Nat) (mth : Int) (msz : Int) (mwr : Int) (mfa : Int) (mpl : Int) (mle : Int) (mna : Int) (mfi : Int) (mru : Int) (mnv : Int) (mki : Int) (mfr : Int) (mto : Int) (mwh : Int) (ma : Nat → Int) (le : Nat → Int) (ac : Nat → Int) (di : Nat → Int) (od : Nat → Int) (k : Int) (hct : cnt ma) (hgk : gok ma le ac) (hfi : 0 < ma 0 → 0 ≤ mfi ∧ mfi < ma 0) (h1 : -2147483648 ≤ k ∧ k ≤ 2147483647) : MetI l G sz y_M_message c_M_message 5 (some .int) ({ frames := 3, cells := 0, slots := 0, locals := 68 } : Room) [.ref aM, .int (iI k)] [(aM, .inr (8, [.ref aWc, .int (iI mth), .int (iI msz), .ref aTx, .int (iI mwr), .ref aOu, .int (iI mfa), .int (iI mpl), .int (iI mle), .int (iI mna), .ref aSo, .ref aNf, .ref aNg, .ref aSr, .ref aNu, .ref aMa, .ref aNo, .int (iI mfi), .int (iI mru), .int (iI mnv), .ref aLe, .ref aAc, .ref aDi, .ref aOr, .int (iI mki), .int (iI mfr), .int (iI mto), .int (iI mwh)])), iA G aMa 3 ma, iA G aLe 384 le, iA G aAc 1536 ac, iA G aDi 16 di, iA G aOr 16 od] (fun (r : Int32) (u : Int × Int × (Nat → Int) × (Nat → Int)) => r = iI u.1 ∧ ((¬ (0 ≤ k ∧ k < ma 2) → u.2.1 = 1 ∧ u.1 = 0) ∧ ((0 ≤ k ∧ k < ma 2) → u.2.1 = 0 ∧ ((0 < ma 0 → DS (fun (s e : Int) => le (prf ma s e).toNat) (ma 0) (ma 1 + ma 2) mfi u.2.2.1) ∧ (¬ 0 < ma 0 → ∀ j : Nat, j < 16 → u.2.2.1 j = -1)) ∧ (¬ snX ma le ac u.2.2.1 k (ma 0) → u.1 = 0) ∧ (snX ma le ac u.2.2.1 k (ma 0) → (awX le u.2.2.1 k (ma 0) → u.1 = 1) ∧ (¬ awX le u.2.2.1 k (ma 0) → u.1 = 3))))) (fun (u : Int × Int × (Nat → Int) × (Nat → Int)) => [(aM, .inr (8, [.ref aWc, .int (iI u.2.1), .int (iI msz), .ref aTx, .int (iI mwr), .ref aOu, .int (iI mfa), .int (iI mpl), .int (iI mle), .int (iI mna), .ref aSo, .ref aNf, .ref aNg, .ref aSr, .ref aNu, .ref aMa, .ref aNo, .int (iI mfi), .int (iI mru), .int (iI mnv), .ref aLe, .ref aAc, .ref aDi, .ref aOr, .int (iI mki), .int (iI mfr), .int (iI mto), .int (iI mwh)])), iA G aMa 3 ma, iA G aLe 384 le, iA G aAc 1536 ac, iA G aDi 16 u.2.2.1, iA G aOr 16 u.2.2.2]) := by
  refine MetI.mk (by decide) (Nat.le_of_ble_eq_true rfl) (fun X C K => ?_)
  show Zc G X 5 0 0 [(aM, .inr (8, [.ref aWc, .int (iI mth), .int (iI msz), .ref aTx, .int (iI mwr), .ref aOu, .int (iI mfa), .int (iI mpl), .int (iI mle), .int (iI mna), .ref aSo, .ref aNf, .ref aNg, .ref aSr, .ref aNu, .ref aMa, .ref aNo, .int (iI mfi), .int (iI mru), .int (iI mnv), .ref aLe, .ref aAc, .ref aDi, .ref aOr, .int (iI mki), .int (iI mfr), .int (iI mto), .int (iI mwh)])), iA G aMa 3 ma, iA G aLe 384 le, iA G aAc 1536 ac, iA G aDi 16 di, iA G aOr 16 od] [(0, .ref aM), (1, .int (iI k))] 0 []
  have hcc := hct
  unfold cnt at hcc
  refine z_aload_n C d_M_message_0 0 rfl ?_
  refine z_iconst C d_M_message_1 ?_
  refine z_put C f_M_55 ok_M nm_M d_M_message_2 0 rfl rfl rfl rfl (Nat.le_of_ble_eq_true rfl) [(aM, .inr (8, [.ref aWc, .int (iI 0), .int (iI msz), .ref aTx, .int (iI mwr), .ref aOu, .int (iI mfa), .int (iI mpl), .int (iI mle), .int (iI mna), .ref aSo, .ref aNf, .ref aNg, .ref aSr, .ref aNu, .ref aMa, .ref aNo, .int (iI mfi), .int (iI mru), .int (iI mnv), .ref aLe, .ref aAc, .ref aDi, .ref aOr, .int (iI mki), .int (iI mfr), .int (iI mto), .int (iI mwh)])), iA G aMa 3 ma, iA G aLe 384 le, iA G aAc 1536 ac, iA G aDi 16 di, iA G aOr 16 od] rfl ?_
  refine z_iload_n C d_M_message_5 1 rfl ?_
  refine z_iconst C d_M_message_6 ?_
  refine z_aload_n C d_M_message_7 0 rfl ?_
  refine z_get C f_M_34 d_M_message_8 0 rfl rfl ?_
  refine z_iconst C d_M_message_11 ?_
  refine z_iald C d_M_message_12 1 rfl (by omega) ?_
  refine z_topi (y := iI (ma 2)) (rfl) ?_
  refine z_iconst C d_M_message_13 ?_
  refine z_isub C d_M_message_14 ?_
  refine z_calliS (As := [.int (iI k), .int (iI 0), .int (iI ((ma 2) - 1))]) (rest := []) (wr := [(aM, .inr (8, [.ref aWc, .int (iI 0), .int (iI msz), .ref aTx, .int (iI mwr), .ref aOu, .int (iI mfa), .int (iI mpl), .int (iI mle), .int (iI mna), .ref aSo, .ref aNf, .ref aNg, .ref aSr, .ref aNu, .ref aMa, .ref aNo, .int (iI mfi), .int (iI mru), .int (iI mnv), .ref aLe, .ref aAc, .ref aDi, .ref aOr, .int (iI mki), .int (iI mfr), .int (iI mto), .int (iI mwh)])), iA G aMa 3 ma, iA G aLe 384 le, iA G aAc 1536 ac, iA G aDi 16 di, iA G aOr 16 od]) (ws' := fun u => [(aM, .inr (8, [.ref aWc, .int (iI 0), .int (iI msz), .ref aTx, .int (iI mwr), .ref aOu, .int (iI mfa), .int (iI mpl), .int (iI mle), .int (iI mna), .ref aSo, .ref aNf, .ref aNg, .ref aSr, .ref aNu, .ref aMa, .ref aNo, .int (iI mfi), .int (iI mru), .int (iI mnv), .ref aLe, .ref aAc, .ref aDi, .ref aOr, .int (iI mki), .int (iI mfr), .int (iI mto), .int (iI mwh)])), iA G aMa 3 ma, iA G aLe 384 le, iA G aAc 1536 ac, iA G aDi 16 di, iA G aOr 16 od]) C k_M_66 kc_M_within (fun l sz => m_M_within l G sz k 0 ((ma 2) - 1) (by omega) (by omega) (by omega)) rfl rfl (Nat.le_of_ble_eq_true rfl) (by decide) d_M_message_15 [] [0, 1, 2, 3, 4, 5] [0, 1, 2, 3, 4, 5] rfl rfl (by decide) (fun u => rfl) (fun r u h15 => ?_)
  obtain rfl := h15
  show Zc G X 5 0 0 [(aM, .inr (8, [.ref aWc, .int (iI 0), .int (iI msz), .ref aTx, .int (iI mwr), .ref aOu, .int (iI mfa), .int (iI mpl), .int (iI mle), .int (iI mna), .ref aSo, .ref aNf, .ref aNg, .ref aSr, .ref aNu, .ref aMa, .ref aNo, .int (iI mfi), .int (iI mru), .int (iI mnv), .ref aLe, .ref aAc, .ref aDi, .ref aOr, .int (iI mki), .int (iI mfr), .int (iI mto), .int (iI mwh)])), iA G aMa 3 ma, iA G aLe 384 le, iA G aAc 1536 ac, iA G aDi 16 di, iA G aOr 16 od] [(0, .ref aM), (1, .int (iI k))] 18 [.int (iI (wit k 0 ((ma 2) - 1)))]
  have hw1 : wit k 0 (ma 2 - 1) = if 0 ≤ k ∧ k ≤ ma 2 - 1 then 1 else 0 := rfl
  have hw1b := wit_01 k 0 (ma 2 - 1)
  refine z_if_ne (tgt := 27) C d_M_message_18 (by decide) (by omega) (fun c18 => ?_) (fun c18 => ?_)
  ·
    have hv : 0 ≤ k ∧ k < ma 2 := by split at hw1 <;> omega
    refine z_aload_n C d_M_message_27 0 rfl ?_
    refine z_callv (As := []) (rest := []) (wr := [iA G aAc 1536 ac]) (ws' := fun u => [(aM, .inr (8, [.ref aWc, .int (iI 0), .int (iI msz), .ref aTx, .int (iI mwr), .ref aOu, .int (iI mfa), .int (iI mpl), .int (iI mle), .int (iI mna), .ref aSo, .ref aNf, .ref aNg, .ref aSr, .ref aNu, .ref aMa, .ref aNo, .int (iI mfi), .int (iI mru), .int (iI mnv), .ref aLe, .ref aAc, .ref aDi, .ref aOr, .int (iI mki), .int (iI mfr), .int (iI mto), .int (iI mwh)])), iA G aMa 3 ma, iA G aLe 384 le, iA G aAc 1536 ac, iA G aDi 16 u.1, iA G aOr 16 u.2]) (q0 := 0) C k_M_185 kc_M_reach (fun l sz => m_M_reach l G sz aM aWc aTx aOu aSo aNf aNg aSr aNu aMa aNo aLe aAc aDi aOr 0 msz mwr mfa mpl mle mna mfi mru mnv mki mfr mto mwh ma le di od (hct) (hgk.1) (hfi)) rfl rfl (Nat.le_of_ble_eq_true rfl) (by decide) d_M_message_28 rfl rfl [0, 1, 2, 4, 5] [3] [1, 2, 3, 0, 4, 5] rfl rfl (by decide) (fun u => rfl) (fun u h28 => ?_)
    obtain ⟨di2_28, od2_28⟩ := u
    obtain ⟨hd_28, hg_28⟩ := h28
    have hd_28 : (0 < ma 0 → DS (fun (s e : Int) => le (prf ma s e).toNat) (ma 0) (ma 1 + ma 2) mfi di2_28) ∧ (¬ 0 < ma 0 → ∀ j : Nat, j < 16 → di2_28 j = -1) := hd_28
    have hg_28 : ∀ j : Nat, j < 16 → -1 ≤ di2_28 j ∧ di2_28 j ≤ 15 := hg_28
    show Zc G X 5 0 0 [(aM, .inr (8, [.ref aWc, .int (iI 0), .int (iI msz), .ref aTx, .int (iI mwr), .ref aOu, .int (iI mfa), .int (iI mpl), .int (iI mle), .int (iI mna), .ref aSo, .ref aNf, .ref aNg, .ref aSr, .ref aNu, .ref aMa, .ref aNo, .int (iI mfi), .int (iI mru), .int (iI mnv), .ref aLe, .ref aAc, .ref aDi, .ref aOr, .int (iI mki), .int (iI mfr), .int (iI mto), .int (iI mwh)])), iA G aMa 3 ma, iA G aLe 384 le, iA G aAc 1536 ac, iA G aDi 16 di2_28, iA G aOr 16 od2_28] [(0, .ref aM), (1, .int (iI k))] 31 []
    refine z_iconst C d_M_message_31 ?_
    refine z_istore_n (lv' := [(2, .int (iI 0)), (0, .ref aM), (1, .int (iI k))]) C d_M_message_32 (by decide) rfl ?_
    refine z_iconst C d_M_message_33 ?_
    refine z_istore_n (lv' := [(3, .int (iI 0)), (2, .int (iI 0)), (0, .ref aM), (1, .int (iI k))]) C d_M_message_34 (by decide) rfl ?_
    refine z_iconst C d_M_message_35 ?_
    refine z_istore (lv' := [(4, .int (iI 0)), (3, .int (iI 0)), (2, .int (iI 0)), (0, .ref aM), (1, .int (iI k))]) C d_M_message_36 (by decide) rfl ?_
    have loop38 : ∀ (kq : Nat) (f : Int) (g : Int) (s : Int), (0 ≤ s ∧ s ≤ ma 0) → (flg f (snX ma le ac di2_28 k s)) → (flg g (awX le di2_28 k s)) → ((ma 0 - s).toNat < kq) → Zc G X 5 0 0 [(aM, .inr (8, [.ref aWc, .int (iI 0), .int (iI msz), .ref aTx, .int (iI mwr), .ref aOu, .int (iI mfa), .int (iI mpl), .int (iI mle), .int (iI mna), .ref aSo, .ref aNf, .ref aNg, .ref aSr, .ref aNu, .ref aMa, .ref aNo, .int (iI mfi), .int (iI mru), .int (iI mnv), .ref aLe, .ref aAc, .ref aDi, .ref aOr, .int (iI mki), .int (iI mfr), .int (iI mto), .int (iI mwh)])), iA G aMa 3 ma, iA G aLe 384 le, iA G aAc 1536 ac, iA G aDi 16 di2_28, iA G aOr 16 od2_28] [(0, .ref aM), (1, .int (iI k)), (2, .int (iI f)), (3, .int (iI g)), (4, .int (iI s))] 38 [] := by
      intro kq
      induction kq with
      | zero => intro f g s hs hF hG hm; exact absurd hm (Nat.not_lt_zero _)
      | succ kq ih38 =>
        intro f g s hs hF hG hm
        have hfr := flg_rg hF
        have hgr := flg_rg hG
        -- loop body
        refine z_iload C d_M_message_38 4 rfl ?_
        refine z_aload_n C d_M_message_40 0 rfl ?_
        refine z_get C f_M_34 d_M_message_41 0 rfl rfl ?_
        refine z_iconst C d_M_message_44 ?_
        refine z_iald C d_M_message_45 1 rfl (by omega) ?_
        refine z_topi (y := iI (ma 0)) (rfl) ?_
        refine z_icmp_ge (tgt := 123) C d_M_message_46 (by decide) (by omega) (by omega) (fun c46 => ?_) (fun c46 => ?_)
        ·
          have es : s = ma 0 := by omega
          rw [es] at hF hG
          refine z_iload_n C d_M_message_123 2 rfl ?_
          refine z_if_ne (tgt := 131) C d_M_message_124 (by decide) (by omega) (fun c124 => ?_) (fun c124 => ?_)
          ·
            refine z_iload_n C d_M_message_131 3 rfl ?_
            refine z_if_eq (tgt := 139) C d_M_message_132 (by decide) (by omega) (fun c132 => ?_) (fun c132 => ?_)
            ·
              refine z_iconst C d_M_message_139 ?_
              exact z_iret C K d_M_message_140 (rfl) (3, 0, di2_28, od2_28) (rfl) (show iI 3 = iI 3 ∧ ((¬ (0 ≤ k ∧ k < ma 2) → 0 = 1 ∧ 3 = 0) ∧ ((0 ≤ k ∧ k < ma 2) → 0 = 0 ∧ ((0 < ma 0 → DS (fun (s e : Int) => le (prf ma s e).toNat) (ma 0) (ma 1 + ma 2) mfi di2_28) ∧ (¬ 0 < ma 0 → ∀ j : Nat, j < 16 → di2_28 j = -1)) ∧ (¬ snX ma le ac di2_28 k (ma 0) → 3 = 0) ∧ (snX ma le ac di2_28 k (ma 0) → (awX le di2_28 k (ma 0) → 3 = 1) ∧ (¬ awX le di2_28 k (ma 0) → 3 = 3)))) from ⟨rfl, fun z => absurd hv z, fun _ => ⟨rfl, hd_28, fun z => absurd ((flg_n hF).1 c124) z, fun _ => ⟨fun z => absurd z ((flg_n hG).2 (by omega)), fun _ => rfl⟩⟩⟩)
            ·
              refine z_iconst C d_M_message_135 ?_
              refine z_goto (tgt := 140) C d_M_message_136 (by decide) ?_
              exact z_iret C K d_M_message_140 (rfl) (1, 0, di2_28, od2_28) (rfl) (show iI 1 = iI 1 ∧ ((¬ (0 ≤ k ∧ k < ma 2) → 0 = 1 ∧ 1 = 0) ∧ ((0 ≤ k ∧ k < ma 2) → 0 = 0 ∧ ((0 < ma 0 → DS (fun (s e : Int) => le (prf ma s e).toNat) (ma 0) (ma 1 + ma 2) mfi di2_28) ∧ (¬ 0 < ma 0 → ∀ j : Nat, j < 16 → di2_28 j = -1)) ∧ (¬ snX ma le ac di2_28 k (ma 0) → 1 = 0) ∧ (snX ma le ac di2_28 k (ma 0) → (awX le di2_28 k (ma 0) → 1 = 1) ∧ (¬ awX le di2_28 k (ma 0) → 1 = 3)))) from ⟨rfl, fun z => absurd hv z, fun _ => ⟨rfl, hd_28, fun z => absurd ((flg_n hF).1 c124) z, fun _ => ⟨fun _ => rfl, fun z => absurd ((flg_n hG).1 (by omega)) z⟩⟩⟩)
          ·
            refine z_iconst C d_M_message_127 ?_
            refine z_goto (tgt := 140) C d_M_message_128 (by decide) ?_
            exact z_iret C K d_M_message_140 (rfl) (0, 0, di2_28, od2_28) (rfl) (show iI 0 = iI 0 ∧ ((¬ (0 ≤ k ∧ k < ma 2) → 0 = 1 ∧ 0 = 0) ∧ ((0 ≤ k ∧ k < ma 2) → 0 = 0 ∧ ((0 < ma 0 → DS (fun (s e : Int) => le (prf ma s e).toNat) (ma 0) (ma 1 + ma 2) mfi di2_28) ∧ (¬ 0 < ma 0 → ∀ j : Nat, j < 16 → di2_28 j = -1)) ∧ (¬ snX ma le ac di2_28 k (ma 0) → 0 = 0) ∧ (snX ma le ac di2_28 k (ma 0) → (awX le di2_28 k (ma 0) → 0 = 1) ∧ (¬ awX le di2_28 k (ma 0) → 0 = 3)))) from ⟨rfl, fun z => absurd hv z, fun _ => ⟨rfl, hd_28, fun _ => rfl, fun z => absurd z ((flg_n hF).2 (by omega))⟩⟩)
        ·
          have hdr := hg_28 s.toNat (by omega)
          have hgw := hgk.1 (24 * s + 8 + k).toNat
          refine z_iload_n C d_M_message_49 2 rfl ?_
          refine z_if_ne (tgt := 73) C d_M_message_50 (by decide) (by omega) (fun c50 => ?_) (fun c50 => ?_)
          ·
            refine z_iconst C d_M_message_73 ?_
            refine z_goto (tgt := 78) C d_M_message_74 (by decide) ?_
            refine z_istore_n (lv' := [(2, .int (iI 1)), (0, .ref aM), (1, .int (iI k)), (3, .int (iI g)), (4, .int (iI s))]) C d_M_message_78 (by decide) rfl ?_
            refine z_iload_n C d_M_message_79 3 rfl ?_
            refine z_if_ne (tgt := 111) C d_M_message_80 (by decide) (by omega) (fun c80 => ?_) (fun c80 => ?_)
            ·
              refine z_iconst C d_M_message_111 ?_
              refine z_goto (tgt := 116) C d_M_message_112 (by decide) ?_
              refine z_istore_n (lv' := [(3, .int (iI 1)), (2, .int (iI 1)), (0, .ref aM), (1, .int (iI k)), (4, .int (iI s))]) C d_M_message_116 (by decide) rfl ?_
              refine z_iinc (lv' := [(4, .int (iI (s + 1))), (3, .int (iI 1)), (2, .int (iI 1)), (0, .ref aM), (1, .int (iI k))]) C d_M_message_117 4 rfl (by decide) rfl ?_
              refine z_goto (tgt := 38) C d_M_message_120 (by decide) ?_
              refine z_lv [3, 4, 2, 1, 0] (lv' := [(0, .ref aM), (1, .int (iI k)), (2, .int (iI 1)), (3, .int (iI 1)), (4, .int (iI (s + 1)))]) rfl ?_
              exact ih38 _ _ _ (by omega) (flgT ((snX_s (by omega)).mpr (Or.inl ((flg_n hF).1 c50)))) (flgT ((awX_s (by omega)).mpr (Or.inl ((flg_n hG).1 c80)))) (by omega)
            ·
              refine z_aload_n C d_M_message_83 1 rfl ?_
              refine z_get C f_M_46 d_M_message_84 0 rfl rfl ?_
              refine z_iload C d_M_message_87 4 rfl ?_
              refine z_iald C d_M_message_89 4 rfl (by omega) ?_
              refine z_if_lt (tgt := 115) C d_M_message_90 (by decide) (by omega) (fun c90 => ?_) (fun c90 => ?_)
              ·
                refine z_iconst C d_M_message_115 ?_
                refine z_istore_n (lv' := [(3, .int (iI 0)), (2, .int (iI 1)), (0, .ref aM), (1, .int (iI k)), (4, .int (iI s))]) C d_M_message_116 (by decide) rfl ?_
                refine z_iinc (lv' := [(4, .int (iI (s + 1))), (3, .int (iI 0)), (2, .int (iI 1)), (0, .ref aM), (1, .int (iI k))]) C d_M_message_117 4 rfl (by decide) rfl ?_
                refine z_goto (tgt := 38) C d_M_message_120 (by decide) ?_
                refine z_lv [3, 4, 2, 1, 0] (lv' := [(0, .ref aM), (1, .int (iI k)), (2, .int (iI 1)), (3, .int (iI 0)), (4, .int (iI (s + 1)))]) rfl ?_
                exact ih38 _ _ _ (by omega) (flgT ((snX_s (by omega)).mpr (Or.inl ((flg_n hF).1 c50)))) (flgF (fun z => ((awX_s (by omega)).mp z).elim ((flg_n hG).2 (by omega)) (fun y => absurd y.1 (by omega)))) (by omega)
              ·
                refine z_aload_n C d_M_message_93 1 rfl ?_
                refine z_get C f_M_40 d_M_message_94 0 rfl rfl ?_
                refine z_bipush C d_M_message_97 (by decide) ?_
                refine z_iload C d_M_message_99 4 rfl ?_
                refine z_imul C d_M_message_101 ?_
                refine z_bipush C d_M_message_102 (by decide) ?_
                refine z_iadd C d_M_message_104 ?_
                refine z_iload_n C d_M_message_105 2 rfl ?_
                refine z_iadd C d_M_message_106 ?_
                refine z_iald C d_M_message_107 2 rfl (by omega) ?_
                refine z_if_lt (tgt := 115) C d_M_message_108 (by decide) (by omega) (fun c108 => ?_) (fun c108 => ?_)
                ·
                  refine z_iconst C d_M_message_115 ?_
                  refine z_istore_n (lv' := [(3, .int (iI 0)), (2, .int (iI 1)), (0, .ref aM), (1, .int (iI k)), (4, .int (iI s))]) C d_M_message_116 (by decide) rfl ?_
                  refine z_iinc (lv' := [(4, .int (iI (s + 1))), (3, .int (iI 0)), (2, .int (iI 1)), (0, .ref aM), (1, .int (iI k))]) C d_M_message_117 4 rfl (by decide) rfl ?_
                  refine z_goto (tgt := 38) C d_M_message_120 (by decide) ?_
                  refine z_lv [3, 4, 2, 1, 0] (lv' := [(0, .ref aM), (1, .int (iI k)), (2, .int (iI 1)), (3, .int (iI 0)), (4, .int (iI (s + 1)))]) rfl ?_
                  exact ih38 _ _ _ (by omega) (flgT ((snX_s (by omega)).mpr (Or.inl ((flg_n hF).1 c50)))) (flgF (fun z => ((awX_s (by omega)).mp z).elim ((flg_n hG).2 (by omega)) (fun y => absurd y.2 (by omega)))) (by omega)
                ·
                  refine z_iconst C d_M_message_111 ?_
                  refine z_goto (tgt := 116) C d_M_message_112 (by decide) ?_
                  refine z_istore_n (lv' := [(3, .int (iI 1)), (2, .int (iI 1)), (0, .ref aM), (1, .int (iI k)), (4, .int (iI s))]) C d_M_message_116 (by decide) rfl ?_
                  refine z_iinc (lv' := [(4, .int (iI (s + 1))), (3, .int (iI 1)), (2, .int (iI 1)), (0, .ref aM), (1, .int (iI k))]) C d_M_message_117 4 rfl (by decide) rfl ?_
                  refine z_goto (tgt := 38) C d_M_message_120 (by decide) ?_
                  refine z_lv [3, 4, 2, 1, 0] (lv' := [(0, .ref aM), (1, .int (iI k)), (2, .int (iI 1)), (3, .int (iI 1)), (4, .int (iI (s + 1)))]) rfl ?_
                  exact ih38 _ _ _ (by omega) (flgT ((snX_s (by omega)).mpr (Or.inl ((flg_n hF).1 c50)))) (flgT ((awX_s (by omega)).mpr (Or.inr ⟨by omega, by omega⟩))) (by omega)
          ·
            refine z_aload_n C d_M_message_53 0 rfl ?_
            refine z_get C f_M_46 d_M_message_54 0 rfl rfl ?_
            refine z_iload C d_M_message_57 4 rfl ?_
            refine z_iald C d_M_message_59 4 rfl (by omega) ?_
            refine z_if_lt (tgt := 77) C d_M_message_60 (by decide) (by omega) (fun c60 => ?_) (fun c60 => ?_)
            ·
              refine z_iconst C d_M_message_77 ?_
              refine z_istore_n (lv' := [(2, .int (iI 0)), (0, .ref aM), (1, .int (iI k)), (3, .int (iI g)), (4, .int (iI s))]) C d_M_message_78 (by decide) rfl ?_
              refine z_iload_n C d_M_message_79 3 rfl ?_
              refine z_if_ne (tgt := 111) C d_M_message_80 (by decide) (by omega) (fun c80 => ?_) (fun c80 => ?_)
              ·
                refine z_iconst C d_M_message_111 ?_
                refine z_goto (tgt := 116) C d_M_message_112 (by decide) ?_
                refine z_istore_n (lv' := [(3, .int (iI 1)), (2, .int (iI 0)), (0, .ref aM), (1, .int (iI k)), (4, .int (iI s))]) C d_M_message_116 (by decide) rfl ?_
                refine z_iinc (lv' := [(4, .int (iI (s + 1))), (3, .int (iI 1)), (2, .int (iI 0)), (0, .ref aM), (1, .int (iI k))]) C d_M_message_117 4 rfl (by decide) rfl ?_
                refine z_goto (tgt := 38) C d_M_message_120 (by decide) ?_
                refine z_lv [3, 4, 2, 1, 0] (lv' := [(0, .ref aM), (1, .int (iI k)), (2, .int (iI 0)), (3, .int (iI 1)), (4, .int (iI (s + 1)))]) rfl ?_
                exact ih38 _ _ _ (by omega) (flgF (fun z => ((snX_s (by omega)).mp z).elim ((flg_n hF).2 (by omega)) (fun y => absurd y.1 (by omega)))) (flgT ((awX_s (by omega)).mpr (Or.inl ((flg_n hG).1 c80)))) (by omega)
              ·
                refine z_aload_n C d_M_message_83 1 rfl ?_
                refine z_get C f_M_46 d_M_message_84 0 rfl rfl ?_
                refine z_iload C d_M_message_87 4 rfl ?_
                refine z_iald C d_M_message_89 4 rfl (by omega) ?_
                refine z_if_lt (tgt := 115) C d_M_message_90 (by decide) (by omega) (fun c90 => ?_) (fun c90 => ?_)
                ·
                  refine z_iconst C d_M_message_115 ?_
                  refine z_istore_n (lv' := [(3, .int (iI 0)), (2, .int (iI 0)), (0, .ref aM), (1, .int (iI k)), (4, .int (iI s))]) C d_M_message_116 (by decide) rfl ?_
                  refine z_iinc (lv' := [(4, .int (iI (s + 1))), (3, .int (iI 0)), (2, .int (iI 0)), (0, .ref aM), (1, .int (iI k))]) C d_M_message_117 4 rfl (by decide) rfl ?_
                  refine z_goto (tgt := 38) C d_M_message_120 (by decide) ?_
                  refine z_lv [3, 4, 2, 1, 0] (lv' := [(0, .ref aM), (1, .int (iI k)), (2, .int (iI 0)), (3, .int (iI 0)), (4, .int (iI (s + 1)))]) rfl ?_
                  exact ih38 _ _ _ (by omega) (flgF (fun z => ((snX_s (by omega)).mp z).elim ((flg_n hF).2 (by omega)) (fun y => absurd y.1 (by omega)))) (flgF (fun z => ((awX_s (by omega)).mp z).elim ((flg_n hG).2 (by omega)) (fun y => absurd y.1 (by omega)))) (by omega)
                ·
                  refine z_aload_n C d_M_message_93 1 rfl ?_
                  refine z_get C f_M_40 d_M_message_94 0 rfl rfl ?_
                  refine z_bipush C d_M_message_97 (by decide) ?_
                  refine z_iload C d_M_message_99 4 rfl ?_
                  refine z_imul C d_M_message_101 ?_
                  refine z_bipush C d_M_message_102 (by decide) ?_
                  refine z_iadd C d_M_message_104 ?_
                  refine z_iload_n C d_M_message_105 2 rfl ?_
                  refine z_iadd C d_M_message_106 ?_
                  refine z_iald C d_M_message_107 2 rfl (by omega) ?_
                  refine z_if_lt (tgt := 115) C d_M_message_108 (by decide) (by omega) (fun c108 => ?_) (fun c108 => ?_)
                  ·
                    refine z_iconst C d_M_message_115 ?_
                    refine z_istore_n (lv' := [(3, .int (iI 0)), (2, .int (iI 0)), (0, .ref aM), (1, .int (iI k)), (4, .int (iI s))]) C d_M_message_116 (by decide) rfl ?_
                    refine z_iinc (lv' := [(4, .int (iI (s + 1))), (3, .int (iI 0)), (2, .int (iI 0)), (0, .ref aM), (1, .int (iI k))]) C d_M_message_117 4 rfl (by decide) rfl ?_
                    refine z_goto (tgt := 38) C d_M_message_120 (by decide) ?_
                    refine z_lv [3, 4, 2, 1, 0] (lv' := [(0, .ref aM), (1, .int (iI k)), (2, .int (iI 0)), (3, .int (iI 0)), (4, .int (iI (s + 1)))]) rfl ?_
                    exact ih38 _ _ _ (by omega) (flgF (fun z => ((snX_s (by omega)).mp z).elim ((flg_n hF).2 (by omega)) (fun y => absurd y.1 (by omega)))) (flgF (fun z => ((awX_s (by omega)).mp z).elim ((flg_n hG).2 (by omega)) (fun y => absurd y.2 (by omega)))) (by omega)
                  ·
                    refine z_iconst C d_M_message_111 ?_
                    refine z_goto (tgt := 116) C d_M_message_112 (by decide) ?_
                    refine z_istore_n (lv' := [(3, .int (iI 1)), (2, .int (iI 0)), (0, .ref aM), (1, .int (iI k)), (4, .int (iI s))]) C d_M_message_116 (by decide) rfl ?_
                    refine z_iinc (lv' := [(4, .int (iI (s + 1))), (3, .int (iI 1)), (2, .int (iI 0)), (0, .ref aM), (1, .int (iI k))]) C d_M_message_117 4 rfl (by decide) rfl ?_
                    refine z_goto (tgt := 38) C d_M_message_120 (by decide) ?_
                    refine z_lv [3, 4, 2, 1, 0] (lv' := [(0, .ref aM), (1, .int (iI k)), (2, .int (iI 0)), (3, .int (iI 1)), (4, .int (iI (s + 1)))]) rfl ?_
                    exact ih38 _ _ _ (by omega) (flgF (fun z => ((snX_s (by omega)).mp z).elim ((flg_n hF).2 (by omega)) (fun y => absurd y.1 (by omega)))) (flgT ((awX_s (by omega)).mpr (Or.inr ⟨by omega, by omega⟩))) (by omega)
            ·
              refine z_aload_n C d_M_message_63 0 rfl ?_
              refine z_iload C d_M_message_64 4 rfl ?_
              refine z_iload_n C d_M_message_66 1 rfl ?_
              refine z_calli (As := [.int (iI s), .int (iI k)]) (rest := []) (wr := [iA G aDi 16 di2_28, iA G aOr 16 od2_28]) (ws' := fun u => [(aM, .inr (8, [.ref aWc, .int (iI 0), .int (iI msz), .ref aTx, .int (iI mwr), .ref aOu, .int (iI mfa), .int (iI mpl), .int (iI mle), .int (iI mna), .ref aSo, .ref aNf, .ref aNg, .ref aSr, .ref aNu, .ref aMa, .ref aNo, .int (iI mfi), .int (iI mru), .int (iI mnv), .ref aLe, .ref aAc, .ref aDi, .ref aOr, .int (iI mki), .int (iI mfr), .int (iI mto), .int (iI mwh)])), iA G aMa 3 ma, iA G aLe 384 le, iA G aAc 1536 ac, iA G aDi 16 di2_28, iA G aOr 16 od2_28]) (q0 := 0) C k_M_188 kc_M_sends (fun l sz => m_M_sends l G sz aM aWc aTx aOu aSo aNf aNg aSr aNu aMa aNo aLe aAc aDi aOr 0 msz mwr mfa mpl mle mna mfi mru mnv mki mfr mto mwh ma le ac s k (hct) (hgk) (by omega)) rfl rfl (Nat.le_of_ble_eq_true rfl) (by decide) d_M_message_67 rfl rfl [0, 1, 2, 3] [4, 5] [2, 3, 4, 5, 0, 1] rfl rfl (by decide) (fun u => rfl) (fun r u h67 => ?_)
              obtain ⟨rr_67, rfl⟩ : ∃ z, z = u := ⟨_, rfl⟩
              obtain ⟨rfl, hf_67⟩ := h67
              have hf_67 : flg rr_67 (sndM ma le ac s k) := hf_67
              show Zc G X 5 0 0 [(aM, .inr (8, [.ref aWc, .int (iI 0), .int (iI msz), .ref aTx, .int (iI mwr), .ref aOu, .int (iI mfa), .int (iI mpl), .int (iI mle), .int (iI mna), .ref aSo, .ref aNf, .ref aNg, .ref aSr, .ref aNu, .ref aMa, .ref aNo, .int (iI mfi), .int (iI mru), .int (iI mnv), .ref aLe, .ref aAc, .ref aDi, .ref aOr, .int (iI mki), .int (iI mfr), .int (iI mto), .int (iI mwh)])), iA G aMa 3 ma, iA G aLe 384 le, iA G aAc 1536 ac, iA G aDi 16 di2_28, iA G aOr 16 od2_28] [(0, .ref aM), (1, .int (iI k)), (2, .int (iI f)), (3, .int (iI g)), (4, .int (iI s))] 70 [.int (iI rr_67)]
              have hfs := flg_rg hf_67
              refine z_if_eq (tgt := 77) C d_M_message_70 (by decide) (by omega) (fun c70 => ?_) (fun c70 => ?_)
              ·
                refine z_iconst C d_M_message_77 ?_
                refine z_istore_n (lv' := [(2, .int (iI 0)), (0, .ref aM), (1, .int (iI k)), (3, .int (iI g)), (4, .int (iI s))]) C d_M_message_78 (by decide) rfl ?_
                refine z_iload_n C d_M_message_79 3 rfl ?_
                refine z_if_ne (tgt := 111) C d_M_message_80 (by decide) (by omega) (fun c80 => ?_) (fun c80 => ?_)
                ·
                  refine z_iconst C d_M_message_111 ?_
                  refine z_goto (tgt := 116) C d_M_message_112 (by decide) ?_
                  refine z_istore_n (lv' := [(3, .int (iI 1)), (2, .int (iI 0)), (0, .ref aM), (1, .int (iI k)), (4, .int (iI s))]) C d_M_message_116 (by decide) rfl ?_
                  refine z_iinc (lv' := [(4, .int (iI (s + 1))), (3, .int (iI 1)), (2, .int (iI 0)), (0, .ref aM), (1, .int (iI k))]) C d_M_message_117 4 rfl (by decide) rfl ?_
                  refine z_goto (tgt := 38) C d_M_message_120 (by decide) ?_
                  refine z_lv [3, 4, 2, 1, 0] (lv' := [(0, .ref aM), (1, .int (iI k)), (2, .int (iI 0)), (3, .int (iI 1)), (4, .int (iI (s + 1)))]) rfl ?_
                  exact ih38 _ _ _ (by omega) (flgF (fun z => ((snX_s (by omega)).mp z).elim ((flg_n hF).2 (by omega)) (fun y => (flg_n hf_67).2 (by omega) y.2))) (flgT ((awX_s (by omega)).mpr (Or.inl ((flg_n hG).1 c80)))) (by omega)
                ·
                  refine z_aload_n C d_M_message_83 1 rfl ?_
                  refine z_get C f_M_46 d_M_message_84 0 rfl rfl ?_
                  refine z_iload C d_M_message_87 4 rfl ?_
                  refine z_iald C d_M_message_89 4 rfl (by omega) ?_
                  refine z_if_lt (tgt := 115) C d_M_message_90 (by decide) (by omega) (fun c90 => ?_) (fun c90 => ?_)
                  ·
                    refine z_iconst C d_M_message_115 ?_
                    refine z_istore_n (lv' := [(3, .int (iI 0)), (2, .int (iI 0)), (0, .ref aM), (1, .int (iI k)), (4, .int (iI s))]) C d_M_message_116 (by decide) rfl ?_
                    refine z_iinc (lv' := [(4, .int (iI (s + 1))), (3, .int (iI 0)), (2, .int (iI 0)), (0, .ref aM), (1, .int (iI k))]) C d_M_message_117 4 rfl (by decide) rfl ?_
                    refine z_goto (tgt := 38) C d_M_message_120 (by decide) ?_
                    refine z_lv [3, 4, 2, 1, 0] (lv' := [(0, .ref aM), (1, .int (iI k)), (2, .int (iI 0)), (3, .int (iI 0)), (4, .int (iI (s + 1)))]) rfl ?_
                    exact ih38 _ _ _ (by omega) (flgF (fun z => ((snX_s (by omega)).mp z).elim ((flg_n hF).2 (by omega)) (fun y => (flg_n hf_67).2 (by omega) y.2))) (flgF (fun z => ((awX_s (by omega)).mp z).elim ((flg_n hG).2 (by omega)) (fun y => absurd y.1 (by omega)))) (by omega)
                  ·
                    refine z_aload_n C d_M_message_93 1 rfl ?_
                    refine z_get C f_M_40 d_M_message_94 0 rfl rfl ?_
                    refine z_bipush C d_M_message_97 (by decide) ?_
                    refine z_iload C d_M_message_99 4 rfl ?_
                    refine z_imul C d_M_message_101 ?_
                    refine z_bipush C d_M_message_102 (by decide) ?_
                    refine z_iadd C d_M_message_104 ?_
                    refine z_iload_n C d_M_message_105 2 rfl ?_
                    refine z_iadd C d_M_message_106 ?_
                    refine z_iald C d_M_message_107 2 rfl (by omega) ?_
                    refine z_if_lt (tgt := 115) C d_M_message_108 (by decide) (by omega) (fun c108 => ?_) (fun c108 => ?_)
                    ·
                      refine z_iconst C d_M_message_115 ?_
                      refine z_istore_n (lv' := [(3, .int (iI 0)), (2, .int (iI 0)), (0, .ref aM), (1, .int (iI k)), (4, .int (iI s))]) C d_M_message_116 (by decide) rfl ?_
                      refine z_iinc (lv' := [(4, .int (iI (s + 1))), (3, .int (iI 0)), (2, .int (iI 0)), (0, .ref aM), (1, .int (iI k))]) C d_M_message_117 4 rfl (by decide) rfl ?_
                      refine z_goto (tgt := 38) C d_M_message_120 (by decide) ?_
                      refine z_lv [3, 4, 2, 1, 0] (lv' := [(0, .ref aM), (1, .int (iI k)), (2, .int (iI 0)), (3, .int (iI 0)), (4, .int (iI (s + 1)))]) rfl ?_
                      exact ih38 _ _ _ (by omega) (flgF (fun z => ((snX_s (by omega)).mp z).elim ((flg_n hF).2 (by omega)) (fun y => (flg_n hf_67).2 (by omega) y.2))) (flgF (fun z => ((awX_s (by omega)).mp z).elim ((flg_n hG).2 (by omega)) (fun y => absurd y.2 (by omega)))) (by omega)
                    ·
                      refine z_iconst C d_M_message_111 ?_
                      refine z_goto (tgt := 116) C d_M_message_112 (by decide) ?_
                      refine z_istore_n (lv' := [(3, .int (iI 1)), (2, .int (iI 0)), (0, .ref aM), (1, .int (iI k)), (4, .int (iI s))]) C d_M_message_116 (by decide) rfl ?_
                      refine z_iinc (lv' := [(4, .int (iI (s + 1))), (3, .int (iI 1)), (2, .int (iI 0)), (0, .ref aM), (1, .int (iI k))]) C d_M_message_117 4 rfl (by decide) rfl ?_
                      refine z_goto (tgt := 38) C d_M_message_120 (by decide) ?_
                      refine z_lv [3, 4, 2, 1, 0] (lv' := [(0, .ref aM), (1, .int (iI k)), (2, .int (iI 0)), (3, .int (iI 1)), (4, .int (iI (s + 1)))]) rfl ?_
                      exact ih38 _ _ _ (by omega) (flgF (fun z => ((snX_s (by omega)).mp z).elim ((flg_n hF).2 (by omega)) (fun y => (flg_n hf_67).2 (by omega) y.2))) (flgT ((awX_s (by omega)).mpr (Or.inr ⟨by omega, by omega⟩))) (by omega)
              ·
                refine z_iconst C d_M_message_73 ?_
                refine z_goto (tgt := 78) C d_M_message_74 (by decide) ?_
                refine z_istore_n (lv' := [(2, .int (iI 1)), (0, .ref aM), (1, .int (iI k)), (3, .int (iI g)), (4, .int (iI s))]) C d_M_message_78 (by decide) rfl ?_
                refine z_iload_n C d_M_message_79 3 rfl ?_
                refine z_if_ne (tgt := 111) C d_M_message_80 (by decide) (by omega) (fun c80 => ?_) (fun c80 => ?_)
                ·
                  refine z_iconst C d_M_message_111 ?_
                  refine z_goto (tgt := 116) C d_M_message_112 (by decide) ?_
                  refine z_istore_n (lv' := [(3, .int (iI 1)), (2, .int (iI 1)), (0, .ref aM), (1, .int (iI k)), (4, .int (iI s))]) C d_M_message_116 (by decide) rfl ?_
                  refine z_iinc (lv' := [(4, .int (iI (s + 1))), (3, .int (iI 1)), (2, .int (iI 1)), (0, .ref aM), (1, .int (iI k))]) C d_M_message_117 4 rfl (by decide) rfl ?_
                  refine z_goto (tgt := 38) C d_M_message_120 (by decide) ?_
                  refine z_lv [3, 4, 2, 1, 0] (lv' := [(0, .ref aM), (1, .int (iI k)), (2, .int (iI 1)), (3, .int (iI 1)), (4, .int (iI (s + 1)))]) rfl ?_
                  exact ih38 _ _ _ (by omega) (flgT ((snX_s (by omega)).mpr (Or.inr ⟨by omega, (flg_n hf_67).1 (by omega)⟩))) (flgT ((awX_s (by omega)).mpr (Or.inl ((flg_n hG).1 c80)))) (by omega)
                ·
                  refine z_aload_n C d_M_message_83 1 rfl ?_
                  refine z_get C f_M_46 d_M_message_84 0 rfl rfl ?_
                  refine z_iload C d_M_message_87 4 rfl ?_
                  refine z_iald C d_M_message_89 4 rfl (by omega) ?_
                  refine z_if_lt (tgt := 115) C d_M_message_90 (by decide) (by omega) (fun c90 => ?_) (fun c90 => ?_)
                  ·
                    refine z_iconst C d_M_message_115 ?_
                    refine z_istore_n (lv' := [(3, .int (iI 0)), (2, .int (iI 1)), (0, .ref aM), (1, .int (iI k)), (4, .int (iI s))]) C d_M_message_116 (by decide) rfl ?_
                    refine z_iinc (lv' := [(4, .int (iI (s + 1))), (3, .int (iI 0)), (2, .int (iI 1)), (0, .ref aM), (1, .int (iI k))]) C d_M_message_117 4 rfl (by decide) rfl ?_
                    refine z_goto (tgt := 38) C d_M_message_120 (by decide) ?_
                    refine z_lv [3, 4, 2, 1, 0] (lv' := [(0, .ref aM), (1, .int (iI k)), (2, .int (iI 1)), (3, .int (iI 0)), (4, .int (iI (s + 1)))]) rfl ?_
                    exact ih38 _ _ _ (by omega) (flgT ((snX_s (by omega)).mpr (Or.inr ⟨by omega, (flg_n hf_67).1 (by omega)⟩))) (flgF (fun z => ((awX_s (by omega)).mp z).elim ((flg_n hG).2 (by omega)) (fun y => absurd y.1 (by omega)))) (by omega)
                  ·
                    refine z_aload_n C d_M_message_93 1 rfl ?_
                    refine z_get C f_M_40 d_M_message_94 0 rfl rfl ?_
                    refine z_bipush C d_M_message_97 (by decide) ?_
                    refine z_iload C d_M_message_99 4 rfl ?_
                    refine z_imul C d_M_message_101 ?_
                    refine z_bipush C d_M_message_102 (by decide) ?_
                    refine z_iadd C d_M_message_104 ?_
                    refine z_iload_n C d_M_message_105 2 rfl ?_
                    refine z_iadd C d_M_message_106 ?_
                    refine z_iald C d_M_message_107 2 rfl (by omega) ?_
                    refine z_if_lt (tgt := 115) C d_M_message_108 (by decide) (by omega) (fun c108 => ?_) (fun c108 => ?_)
                    ·
                      refine z_iconst C d_M_message_115 ?_
                      refine z_istore_n (lv' := [(3, .int (iI 0)), (2, .int (iI 1)), (0, .ref aM), (1, .int (iI k)), (4, .int (iI s))]) C d_M_message_116 (by decide) rfl ?_
                      refine z_iinc (lv' := [(4, .int (iI (s + 1))), (3, .int (iI 0)), (2, .int (iI 1)), (0, .ref aM), (1, .int (iI k))]) C d_M_message_117 4 rfl (by decide) rfl ?_
                      refine z_goto (tgt := 38) C d_M_message_120 (by decide) ?_
                      refine z_lv [3, 4, 2, 1, 0] (lv' := [(0, .ref aM), (1, .int (iI k)), (2, .int (iI 1)), (3, .int (iI 0)), (4, .int (iI (s + 1)))]) rfl ?_
                      exact ih38 _ _ _ (by omega) (flgT ((snX_s (by omega)).mpr (Or.inr ⟨by omega, (flg_n hf_67).1 (by omega)⟩))) (flgF (fun z => ((awX_s (by omega)).mp z).elim ((flg_n hG).2 (by omega)) (fun y => absurd y.2 (by omega)))) (by omega)
                    ·
                      refine z_iconst C d_M_message_111 ?_
                      refine z_goto (tgt := 116) C d_M_message_112 (by decide) ?_
                      refine z_istore_n (lv' := [(3, .int (iI 1)), (2, .int (iI 1)), (0, .ref aM), (1, .int (iI k)), (4, .int (iI s))]) C d_M_message_116 (by decide) rfl ?_
                      refine z_iinc (lv' := [(4, .int (iI (s + 1))), (3, .int (iI 1)), (2, .int (iI 1)), (0, .ref aM), (1, .int (iI k))]) C d_M_message_117 4 rfl (by decide) rfl ?_
                      refine z_goto (tgt := 38) C d_M_message_120 (by decide) ?_
                      refine z_lv [3, 4, 2, 1, 0] (lv' := [(0, .ref aM), (1, .int (iI k)), (2, .int (iI 1)), (3, .int (iI 1)), (4, .int (iI (s + 1)))]) rfl ?_
                      exact ih38 _ _ _ (by omega) (flgT ((snX_s (by omega)).mpr (Or.inr ⟨by omega, (flg_n hf_67).1 (by omega)⟩))) (flgT ((awX_s (by omega)).mpr (Or.inr ⟨by omega, by omega⟩))) (by omega)
    refine z_lv [3, 4, 2, 1, 0] (lv' := [(0, .ref aM), (1, .int (iI k)), (2, .int (iI 0)), (3, .int (iI 0)), (4, .int (iI 0))]) rfl ?_
    exact loop38 (_ + 1) _ _ _ (by omega) (flgF (snX_0 ma le ac di2_28 k)) (flgF (awX_0 le di2_28 k)) (Nat.lt_succ_self _)
  ·
    have hv : ¬ (0 ≤ k ∧ k < ma 2) := by split at hw1 <;> omega
    refine z_aload_n C d_M_message_21 0 rfl ?_
    refine z_iconst C d_M_message_22 ?_
    refine z_calli (As := [.int (iI 1)]) (rest := []) (wr := [iA G aMa 3 ma, iA G aLe 384 le, iA G aAc 1536 ac, iA G aDi 16 di, iA G aOr 16 od]) (ws' := fun u => [(aM, .inr (8, [.ref aWc, .int (iI 1), .int (iI msz), .ref aTx, .int (iI mwr), .ref aOu, .int (iI mfa), .int (iI mpl), .int (iI mle), .int (iI mna), .ref aSo, .ref aNf, .ref aNg, .ref aSr, .ref aNu, .ref aMa, .ref aNo, .int (iI mfi), .int (iI mru), .int (iI mnv), .ref aLe, .ref aAc, .ref aDi, .ref aOr, .int (iI mki), .int (iI mfr), .int (iI mto), .int (iI mwh)])), iA G aMa 3 ma, iA G aLe 384 le, iA G aAc 1536 ac, iA G aDi 16 di, iA G aOr 16 od]) (q0 := 0) C k_M_62 kc_M_fail (fun l sz => m_M_fail l G sz aM aWc aTx aOu aSo aNf aNg aSr aNu aMa aNo aLe aAc aDi aOr 0 msz mwr mfa mpl mle mna mfi mru mnv mki mfr mto mwh 1 ) rfl rfl (Nat.le_of_ble_eq_true rfl) (by decide) d_M_message_23 rfl rfl [0] [1, 2, 3, 4, 5] [5, 0, 1, 2, 3, 4] rfl rfl (by decide) (fun u => rfl) (fun r u h23 => ?_)
    obtain rfl := h23
    show Zc G X 5 0 0 [(aM, .inr (8, [.ref aWc, .int (iI 1), .int (iI msz), .ref aTx, .int (iI mwr), .ref aOu, .int (iI mfa), .int (iI mpl), .int (iI mle), .int (iI mna), .ref aSo, .ref aNf, .ref aNg, .ref aSr, .ref aNu, .ref aMa, .ref aNo, .int (iI mfi), .int (iI mru), .int (iI mnv), .ref aLe, .ref aAc, .ref aDi, .ref aOr, .int (iI mki), .int (iI mfr), .int (iI mto), .int (iI mwh)])), iA G aMa 3 ma, iA G aLe 384 le, iA G aAc 1536 ac, iA G aDi 16 di, iA G aOr 16 od] [(0, .ref aM), (1, .int (iI k))] 26 [.int (iI 0)]
    exact z_iret C K d_M_message_26 (rfl) (0, 1, di, od) (rfl) (show iI 0 = iI 0 ∧ ((¬ (0 ≤ k ∧ k < ma 2) → 1 = 1 ∧ 0 = 0) ∧ ((0 ≤ k ∧ k < ma 2) → 1 = 0 ∧ ((0 < ma 0 → DS (fun (s e : Int) => le (prf ma s e).toNat) (ma 0) (ma 1 + ma 2) mfi di) ∧ (¬ 0 < ma 0 → ∀ j : Nat, j < 16 → di j = -1)) ∧ (¬ snX ma le ac di k (ma 0) → 0 = 0) ∧ (snX ma le ac di k (ma 0) → (awX le di k (ma 0) → 0 = 1) ∧ (¬ awX le di k (ma 0) → 0 = 3)))) from ⟨rfl, fun _ => ⟨rfl, rfl⟩, fun z => absurd z hv⟩)
set_option maxHeartbeats 4000000 in
set_option maxRecDepth 100000 in
theorem m_M_again (l : Launch) (G : GG) (sz : Nat) (aM : Nat) (aWc : Nat) (aTx : Nat) (aOu : Nat) (aSo : Nat) (aNf : Nat) (aNg : Nat) (aSr : Nat) (aNu : Nat) (aMa : Nat) (aNo : Nat) (aLe : Nat) (aAc : Nat) (aDi : Nat) (aOr : Nat) (mth : Int) (msz : Int) (mwr : Int) (mfa : Int) (mpl : Int) (mle : Int) (mna : Int) (mfi : Int) (mru : Int) (mnv : Int) (mki : Int) (mfr : Int) (mto : Int) (mwh : Int) (tx : Nat → Int) (ou : Nat → Int) (h1 : 0 ≤ mwr ∧ mwr ≤ 8192) : MetI l G sz y_M_again c_M_again 2 (some .int) ({ frames := 1, cells := 0, slots := 0, locals := 21 } : Room) [.ref aM] [(aM, .inr (8, [.ref aWc, .int (iI mth), .int (iI msz), .ref aTx, .int (iI mwr), .ref aOu, .int (iI mfa), .int (iI mpl), .int (iI mle), .int (iI mna), .ref aSo, .ref aNf, .ref aNg, .ref aSr, .ref aNu, .ref aMa, .ref aNo, .int (iI mfi), .int (iI mru), .int (iI mnv), .ref aLe, .ref aAc, .ref aDi, .ref aOr, .int (iI mki), .int (iI mfr), .int (iI mto), .int (iI mwh)])), iA G aTx 4200 tx, iA G aOu 8192 ou] (fun (r : Int32) (u : Int × Int × Int × (Nat → Int)) => r = iI u.1 ∧ ((4096 < mwr → u.2.1 = 1 ∧ u.1 = 0 ∧ u.2.2.1 = msz ∧ u.2.2.2 = tx) ∧ (¬ 4096 < mwr → u.2.1 = 0 ∧ u.1 = mwr ∧ u.2.2.1 = mwr ∧ ∀ j : Nat, u.2.2.2 j = if (j : Int) < mwr then ou j else tx j))) (fun (u : Int × Int × Int × (Nat → Int)) => [(aM, .inr (8, [.ref aWc, .int (iI u.2.1), .int (iI u.2.2.1), .ref aTx, .int (iI mwr), .ref aOu, .int (iI mfa), .int (iI mpl), .int (iI mle), .int (iI mna), .ref aSo, .ref aNf, .ref aNg, .ref aSr, .ref aNu, .ref aMa, .ref aNo, .int (iI mfi), .int (iI mru), .int (iI mnv), .ref aLe, .ref aAc, .ref aDi, .ref aOr, .int (iI mki), .int (iI mfr), .int (iI mto), .int (iI mwh)])), iA G aTx 4200 u.2.2.2, iA G aOu 8192 ou]) := by
  refine MetI.mk (by decide) (Nat.le_of_ble_eq_true rfl) (fun X C K => ?_)
  show Zc G X 2 0 0 [(aM, .inr (8, [.ref aWc, .int (iI mth), .int (iI msz), .ref aTx, .int (iI mwr), .ref aOu, .int (iI mfa), .int (iI mpl), .int (iI mle), .int (iI mna), .ref aSo, .ref aNf, .ref aNg, .ref aSr, .ref aNu, .ref aMa, .ref aNo, .int (iI mfi), .int (iI mru), .int (iI mnv), .ref aLe, .ref aAc, .ref aDi, .ref aOr, .int (iI mki), .int (iI mfr), .int (iI mto), .int (iI mwh)])), iA G aTx 4200 tx, iA G aOu 8192 ou] [(0, .ref aM)] 0 []
  refine z_aload_n C d_M_again_0 0 rfl ?_
  refine z_iconst C d_M_again_1 ?_
  refine z_put C f_M_55 ok_M nm_M d_M_again_2 0 rfl rfl rfl rfl (Nat.le_of_ble_eq_true rfl) [(aM, .inr (8, [.ref aWc, .int (iI 0), .int (iI msz), .ref aTx, .int (iI mwr), .ref aOu, .int (iI mfa), .int (iI mpl), .int (iI mle), .int (iI mna), .ref aSo, .ref aNf, .ref aNg, .ref aSr, .ref aNu, .ref aMa, .ref aNo, .int (iI mfi), .int (iI mru), .int (iI mnv), .ref aLe, .ref aAc, .ref aDi, .ref aOr, .int (iI mki), .int (iI mfr), .int (iI mto), .int (iI mwh)])), iA G aTx 4200 tx, iA G aOu 8192 ou] rfl ?_
  refine z_aload_n C d_M_again_5 0 rfl ?_
  refine z_get C f_M_191 d_M_again_6 0 rfl rfl ?_
  refine z_sipush C d_M_again_9 (by decide) ?_
  refine z_icmp_le (tgt := 21) C d_M_again_12 (by decide) (by omega) (by omega) (fun c12 => ?_) (fun c12 => ?_)
  ·
    refine z_aload_n C d_M_again_21 0 rfl ?_
    refine z_aload_n C d_M_again_22 0 rfl ?_
    refine z_get C f_M_191 d_M_again_23 0 rfl rfl ?_
    refine z_put C f_M_59 ok_M nm_M d_M_again_26 0 rfl rfl rfl rfl (Nat.le_of_ble_eq_true rfl) [(aM, .inr (8, [.ref aWc, .int (iI 0), .int (iI mwr), .ref aTx, .int (iI mwr), .ref aOu, .int (iI mfa), .int (iI mpl), .int (iI mle), .int (iI mna), .ref aSo, .ref aNf, .ref aNg, .ref aSr, .ref aNu, .ref aMa, .ref aNo, .int (iI mfi), .int (iI mru), .int (iI mnv), .ref aLe, .ref aAc, .ref aDi, .ref aOr, .int (iI mki), .int (iI mfr), .int (iI mto), .int (iI mwh)])), iA G aTx 4200 tx, iA G aOu 8192 ou] rfl ?_
    refine z_iconst C d_M_again_29 ?_
    refine z_istore_n (lv' := [(1, .int (iI 0)), (0, .ref aM)]) C d_M_again_30 (by decide) rfl ?_
    have loop31 : ∀ (kq : Nat) (k : Int) (E : Nat → Int), (0 ≤ k ∧ k ≤ mwr) → (∀ j : Nat, E j = if (j : Int) < k then ou j else tx j) → ((mwr - k).toNat < kq) → Zc G X 2 0 0 [(aM, .inr (8, [.ref aWc, .int (iI 0), .int (iI mwr), .ref aTx, .int (iI mwr), .ref aOu, .int (iI mfa), .int (iI mpl), .int (iI mle), .int (iI mna), .ref aSo, .ref aNf, .ref aNg, .ref aSr, .ref aNu, .ref aMa, .ref aNo, .int (iI mfi), .int (iI mru), .int (iI mnv), .ref aLe, .ref aAc, .ref aDi, .ref aOr, .int (iI mki), .int (iI mfr), .int (iI mto), .int (iI mwh)])), iA G aTx 4200 E, iA G aOu 8192 ou] [(0, .ref aM), (1, .int (iI k))] 31 [] := by
      intro kq
      induction kq with
      | zero => intro k E hk hE hm; exact absurd hm (Nat.not_lt_zero _)
      | succ kq ih31 =>
        intro k E hk hE hm
        -- loop body
        refine z_iload_n C d_M_again_31 1 rfl ?_
        refine z_aload_n C d_M_again_32 0 rfl ?_
        refine z_get C f_M_191 d_M_again_33 0 rfl rfl ?_
        refine z_icmp_ge (tgt := 57) C d_M_again_36 (by decide) (by omega) (by omega) (fun c36 => ?_) (fun c36 => ?_)
        ·
          refine z_aload_n C d_M_again_57 0 rfl ?_
          refine z_get C f_M_59 d_M_again_58 0 rfl rfl ?_
          exact z_iret C K d_M_again_61 (rfl) (mwr, 0, mwr, E) (rfl) (show iI mwr = iI mwr ∧ ((4096 < mwr → 0 = 1 ∧ mwr = 0 ∧ mwr = msz ∧ E = tx) ∧ (¬ 4096 < mwr → 0 = 0 ∧ mwr = mwr ∧ mwr = mwr ∧ ∀ j : Nat, E j = if (j : Int) < mwr then ou j else tx j)) from ⟨rfl, fun z => absurd z (by omega), fun _ => ⟨rfl, rfl, rfl, fun j => by rw [hE j, show k = mwr by omega]⟩⟩)
        ·
          refine z_aload_n C d_M_again_39 0 rfl ?_
          refine z_get C f_M_13 d_M_again_40 0 rfl rfl ?_
          refine z_iload_n C d_M_again_43 1 rfl ?_
          refine z_aload_n C d_M_again_44 0 rfl ?_
          refine z_get C f_M_16 d_M_again_45 0 rfl rfl ?_
          refine z_iload_n C d_M_again_48 1 rfl ?_
          refine z_iald C d_M_again_49 2 rfl (by omega) ?_
          refine z_iast C d_M_again_50 1 rfl (by omega) [(aM, .inr (8, [.ref aWc, .int (iI 0), .int (iI mwr), .ref aTx, .int (iI mwr), .ref aOu, .int (iI mfa), .int (iI mpl), .int (iI mle), .int (iI mna), .ref aSo, .ref aNf, .ref aNg, .ref aSr, .ref aNu, .ref aMa, .ref aNo, .int (iI mfi), .int (iI mru), .int (iI mnv), .ref aLe, .ref aAc, .ref aDi, .ref aOr, .int (iI mki), .int (iI mfr), .int (iI mto), .int (iI mwh)])), iA G aTx 4200 (uZ E k.toNat (ou k.toNat)), iA G aOu 8192 ou] (rfl) ?_
          refine z_iinc (lv' := [(1, .int (iI (k + 1))), (0, .ref aM)]) C d_M_again_51 1 rfl (by decide) rfl ?_
          refine z_goto (tgt := 31) C d_M_again_54 (by decide) ?_
          refine z_lv [1, 0] (lv' := [(0, .ref aM), (1, .int (iI (k + 1)))]) rfl ?_
          exact ih31 _ _ (by omega) (fun j => if c : j = k.toNat then (by unfold uZ; rw [if_pos c, if_pos (by omega), c]) else (by unfold uZ; rw [if_neg c, hE j]; (repeat' split) <;> first | rfl | (exfalso; omega))) (by omega)
    refine z_lv [1, 0] (lv' := [(0, .ref aM), (1, .int (iI 0))]) rfl ?_
    exact loop31 (_ + 1) _ _ (by omega) (fun j => by rw [if_neg (by omega)]) (Nat.lt_succ_self _)
  ·
    refine z_aload_n C d_M_again_15 0 rfl ?_
    refine z_iconst C d_M_again_16 ?_
    refine z_calli (As := [.int (iI 1)]) (rest := []) (wr := [iA G aTx 4200 tx, iA G aOu 8192 ou]) (ws' := fun u => [(aM, .inr (8, [.ref aWc, .int (iI 1), .int (iI msz), .ref aTx, .int (iI mwr), .ref aOu, .int (iI mfa), .int (iI mpl), .int (iI mle), .int (iI mna), .ref aSo, .ref aNf, .ref aNg, .ref aSr, .ref aNu, .ref aMa, .ref aNo, .int (iI mfi), .int (iI mru), .int (iI mnv), .ref aLe, .ref aAc, .ref aDi, .ref aOr, .int (iI mki), .int (iI mfr), .int (iI mto), .int (iI mwh)])), iA G aTx 4200 tx, iA G aOu 8192 ou]) (q0 := 0) C k_M_62 kc_M_fail (fun l sz => m_M_fail l G sz aM aWc aTx aOu aSo aNf aNg aSr aNu aMa aNo aLe aAc aDi aOr 0 msz mwr mfa mpl mle mna mfi mru mnv mki mfr mto mwh 1 ) rfl rfl (Nat.le_of_ble_eq_true rfl) (by decide) d_M_again_17 rfl rfl [0] [1, 2] [2, 0, 1] rfl rfl (by decide) (fun u => rfl) (fun r u h17 => ?_)
    obtain rfl := h17
    show Zc G X 2 0 0 [(aM, .inr (8, [.ref aWc, .int (iI 1), .int (iI msz), .ref aTx, .int (iI mwr), .ref aOu, .int (iI mfa), .int (iI mpl), .int (iI mle), .int (iI mna), .ref aSo, .ref aNf, .ref aNg, .ref aSr, .ref aNu, .ref aMa, .ref aNo, .int (iI mfi), .int (iI mru), .int (iI mnv), .ref aLe, .ref aAc, .ref aDi, .ref aOr, .int (iI mki), .int (iI mfr), .int (iI mto), .int (iI mwh)])), iA G aTx 4200 tx, iA G aOu 8192 ou] [(0, .ref aM)] 20 [.int (iI 0)]
    exact z_iret C K d_M_again_20 (rfl) (0, 1, msz, tx) (rfl) (show iI 0 = iI 0 ∧ ((4096 < mwr → 1 = 1 ∧ 0 = 0 ∧ msz = msz ∧ tx = tx) ∧ (¬ 4096 < mwr → 1 = 0 ∧ 0 = mwr ∧ msz = mwr ∧ ∀ j : Nat, tx j = if (j : Int) < mwr then ou j else tx j)) from ⟨rfl, fun _ => ⟨rfl, rfl, rfl, rfl⟩, fun z => absurd (show 4096 < mwr by omega) z⟩)
set_option maxHeartbeats 4000000 in
set_option maxRecDepth 100000 in
theorem m_M_missing (l : Launch) (G : GG) (sz : Nat) (aM : Nat) (aWc : Nat) (aTx : Nat) (aOu : Nat) (aSo : Nat) (aNf : Nat) (aNg : Nat) (aSr : Nat) (aNu : Nat) (aMa : Nat) (aNo : Nat) (aLe : Nat) (aAc : Nat) (aDi : Nat) (aOr : Nat) (mth : Int) (msz : Int) (mwr : Int) (mfa : Int) (mpl : Int) (mle : Int) (mna : Int) (mfi : Int) (mru : Int) (mnv : Int) (mki : Int) (mfr : Int) (mto : Int) (mwh : Int) (ma : Nat → Int) (le : Nat → Int) (k : Int) (hct : cnt ma) (hgl : ∀ j, -2 ≤ le j ∧ (le j < 0 ∨ le j < ma 0)) (h1 : -2147483648 ≤ k ∧ k ≤ 2147483647) : MetI l G sz y_M_missing c_M_missing 5 (some .int) ({ frames := 2, cells := 0, slots := 0, locals := 43 } : Room) [.ref aM, .int (iI k)] [(aM, .inr (8, [.ref aWc, .int (iI mth), .int (iI msz), .ref aTx, .int (iI mwr), .ref aOu, .int (iI mfa), .int (iI mpl), .int (iI mle), .int (iI mna), .ref aSo, .ref aNf, .ref aNg, .ref aSr, .ref aNu, .ref aMa, .ref aNo, .int (iI mfi), .int (iI mru), .int (iI mnv), .ref aLe, .ref aAc, .ref aDi, .ref aOr, .int (iI mki), .int (iI mfr), .int (iI mto), .int (iI mwh)])), iA G aMa 3 ma, iA G aLe 384 le] (fun (r : Int32) (u : Int × Int) => r = iI u.1 ∧ ((kth (msS ma le 0 (ma 0).toNat) k = -1 → u.2 = 1 ∧ u.1 = 0) ∧ (¬ kth (msS ma le 0 (ma 0).toNat) k = -1 → u.2 = 0 ∧ u.1 = kth (msS ma le 0 (ma 0).toNat) k))) (fun (u : Int × Int) => [(aM, .inr (8, [.ref aWc, .int (iI u.2), .int (iI msz), .ref aTx, .int (iI mwr), .ref aOu, .int (iI mfa), .int (iI mpl), .int (iI mle), .int (iI mna), .ref aSo, .ref aNf, .ref aNg, .ref aSr, .ref aNu, .ref aMa, .ref aNo, .int (iI mfi), .int (iI mru), .int (iI mnv), .ref aLe, .ref aAc, .ref aDi, .ref aOr, .int (iI mki), .int (iI mfr), .int (iI mto), .int (iI mwh)])), iA G aMa 3 ma, iA G aLe 384 le]) := by
  refine MetI.mk (by decide) (Nat.le_of_ble_eq_true rfl) (fun X C K => ?_)
  show Zc G X 5 0 0 [(aM, .inr (8, [.ref aWc, .int (iI mth), .int (iI msz), .ref aTx, .int (iI mwr), .ref aOu, .int (iI mfa), .int (iI mpl), .int (iI mle), .int (iI mna), .ref aSo, .ref aNf, .ref aNg, .ref aSr, .ref aNu, .ref aMa, .ref aNo, .int (iI mfi), .int (iI mru), .int (iI mnv), .ref aLe, .ref aAc, .ref aDi, .ref aOr, .int (iI mki), .int (iI mfr), .int (iI mto), .int (iI mwh)])), iA G aMa 3 ma, iA G aLe 384 le] [(0, .ref aM), (1, .int (iI k))] 0 []
  have hcc := hct
  unfold cnt at hcc
  refine z_aload_n C d_M_missing_0 0 rfl ?_
  refine z_iconst C d_M_missing_1 ?_
  refine z_put C f_M_55 ok_M nm_M d_M_missing_2 0 rfl rfl rfl rfl (Nat.le_of_ble_eq_true rfl) [(aM, .inr (8, [.ref aWc, .int (iI 0), .int (iI msz), .ref aTx, .int (iI mwr), .ref aOu, .int (iI mfa), .int (iI mpl), .int (iI mle), .int (iI mna), .ref aSo, .ref aNf, .ref aNg, .ref aSr, .ref aNu, .ref aMa, .ref aNo, .int (iI mfi), .int (iI mru), .int (iI mnv), .ref aLe, .ref aAc, .ref aDi, .ref aOr, .int (iI mki), .int (iI mfr), .int (iI mto), .int (iI mwh)])), iA G aMa 3 ma, iA G aLe 384 le] rfl ?_
  refine z_iconst C d_M_missing_5 ?_
  refine z_istore_n (lv' := [(2, .int (iI 0)), (0, .ref aM), (1, .int (iI k))]) C d_M_missing_6 (by decide) rfl ?_
  refine z_iconst C d_M_missing_7 ?_
  refine z_istore_n (lv' := [(3, .int (iI 0)), (2, .int (iI 0)), (0, .ref aM), (1, .int (iI k))]) C d_M_missing_8 (by decide) rfl ?_
  have loop9 : ∀ (kq : Nat) (n : Int) (s : Int), (0 ≤ s ∧ s ≤ ma 0 ∧ 0 ≤ n ∧ n ≤ 24 * s) → (kth (msS ma le s (ma 0 - s).toNat) (k - n) = kth (msS ma le 0 (ma 0).toNat) k) → (k < 0 → n = 0) → ((ma 0 - s).toNat < kq) → Zc G X 5 0 0 [(aM, .inr (8, [.ref aWc, .int (iI 0), .int (iI msz), .ref aTx, .int (iI mwr), .ref aOu, .int (iI mfa), .int (iI mpl), .int (iI mle), .int (iI mna), .ref aSo, .ref aNf, .ref aNg, .ref aSr, .ref aNu, .ref aMa, .ref aNo, .int (iI mfi), .int (iI mru), .int (iI mnv), .ref aLe, .ref aAc, .ref aDi, .ref aOr, .int (iI mki), .int (iI mfr), .int (iI mto), .int (iI mwh)])), iA G aMa 3 ma, iA G aLe 384 le] [(0, .ref aM), (1, .int (iI k)), (2, .int (iI n)), (3, .int (iI s))] 9 [] := by
    intro kq
    induction kq with
    | zero => intro n s hk hE hz hm; exact absurd hm (Nat.not_lt_zero _)
    | succ kq ih9 =>
      intro n s hk hE hz hm
      -- loop body
      refine z_iload_n C d_M_missing_9 3 rfl ?_
      refine z_aload_n C d_M_missing_10 0 rfl ?_
      refine z_get C f_M_34 d_M_missing_11 0 rfl rfl ?_
      refine z_iconst C d_M_missing_14 ?_
      refine z_iald C d_M_missing_15 1 rfl (by omega) ?_
      refine z_topi (y := iI (ma 0)) (rfl) ?_
      refine z_icmp_ge (tgt := 79) C d_M_missing_16 (by decide) (by omega) (by omega) (fun c16 => ?_) (fun c16 => ?_)
      ·
        refine z_aload_n C d_M_missing_79 0 rfl ?_
        refine z_iconst C d_M_missing_80 ?_
        refine z_calli (As := [.int (iI 1)]) (rest := []) (wr := [iA G aMa 3 ma, iA G aLe 384 le]) (ws' := fun u => [(aM, .inr (8, [.ref aWc, .int (iI 1), .int (iI msz), .ref aTx, .int (iI mwr), .ref aOu, .int (iI mfa), .int (iI mpl), .int (iI mle), .int (iI mna), .ref aSo, .ref aNf, .ref aNg, .ref aSr, .ref aNu, .ref aMa, .ref aNo, .int (iI mfi), .int (iI mru), .int (iI mnv), .ref aLe, .ref aAc, .ref aDi, .ref aOr, .int (iI mki), .int (iI mfr), .int (iI mto), .int (iI mwh)])), iA G aMa 3 ma, iA G aLe 384 le]) (q0 := 0) C k_M_62 kc_M_fail (fun l sz => m_M_fail l G sz aM aWc aTx aOu aSo aNf aNg aSr aNu aMa aNo aLe aAc aDi aOr 0 msz mwr mfa mpl mle mna mfi mru mnv mki mfr mto mwh 1 ) rfl rfl (Nat.le_of_ble_eq_true rfl) (by decide) d_M_missing_81 rfl rfl [0] [1, 2] [2, 0, 1] rfl rfl (by decide) (fun u => rfl) (fun r u h81 => ?_)
        obtain rfl := h81
        show Zc G X 5 0 0 [(aM, .inr (8, [.ref aWc, .int (iI 1), .int (iI msz), .ref aTx, .int (iI mwr), .ref aOu, .int (iI mfa), .int (iI mpl), .int (iI mle), .int (iI mna), .ref aSo, .ref aNf, .ref aNg, .ref aSr, .ref aNu, .ref aMa, .ref aNo, .int (iI mfi), .int (iI mru), .int (iI mnv), .ref aLe, .ref aAc, .ref aDi, .ref aOr, .int (iI mki), .int (iI mfr), .int (iI mto), .int (iI mwh)])), iA G aMa 3 ma, iA G aLe 384 le] [(0, .ref aM), (1, .int (iI k)), (2, .int (iI n)), (3, .int (iI s))] 84 [.int (iI 0)]
        rw [show (ma 0 - s).toNat = 0 by omega] at hE
        have hE2 : -1 = kth (msS ma le 0 (ma 0).toNat) k := hE
        exact z_iret C K d_M_missing_84 (rfl) (0, 1) (rfl) (show iI 0 = iI 0 ∧ ((kth (msS ma le 0 (ma 0).toNat) k = -1 → 1 = 1 ∧ 0 = 0) ∧ (¬ kth (msS ma le 0 (ma 0).toNat) k = -1 → 1 = 0 ∧ 0 = kth (msS ma le 0 (ma 0).toNat) k)) from ⟨rfl, fun _ => ⟨rfl, rfl⟩, fun z => absurd hE2.symm z⟩)
      ·
        refine z_iload_n C d_M_missing_19 1 rfl ?_
        refine z_if_lt (tgt := 79) C d_M_missing_20 (by decide) (by omega) (fun c20 => ?_) (fun c20 => ?_)
        ·
          refine z_aload_n C d_M_missing_79 0 rfl ?_
          refine z_iconst C d_M_missing_80 ?_
          refine z_calli (As := [.int (iI 1)]) (rest := []) (wr := [iA G aMa 3 ma, iA G aLe 384 le]) (ws' := fun u => [(aM, .inr (8, [.ref aWc, .int (iI 1), .int (iI msz), .ref aTx, .int (iI mwr), .ref aOu, .int (iI mfa), .int (iI mpl), .int (iI mle), .int (iI mna), .ref aSo, .ref aNf, .ref aNg, .ref aSr, .ref aNu, .ref aMa, .ref aNo, .int (iI mfi), .int (iI mru), .int (iI mnv), .ref aLe, .ref aAc, .ref aDi, .ref aOr, .int (iI mki), .int (iI mfr), .int (iI mto), .int (iI mwh)])), iA G aMa 3 ma, iA G aLe 384 le]) (q0 := 0) C k_M_62 kc_M_fail (fun l sz => m_M_fail l G sz aM aWc aTx aOu aSo aNf aNg aSr aNu aMa aNo aLe aAc aDi aOr 0 msz mwr mfa mpl mle mna mfi mru mnv mki mfr mto mwh 1 ) rfl rfl (Nat.le_of_ble_eq_true rfl) (by decide) d_M_missing_81 rfl rfl [0] [1, 2] [2, 0, 1] rfl rfl (by decide) (fun u => rfl) (fun r u h81 => ?_)
          obtain rfl := h81
          show Zc G X 5 0 0 [(aM, .inr (8, [.ref aWc, .int (iI 1), .int (iI msz), .ref aTx, .int (iI mwr), .ref aOu, .int (iI mfa), .int (iI mpl), .int (iI mle), .int (iI mna), .ref aSo, .ref aNf, .ref aNg, .ref aSr, .ref aNu, .ref aMa, .ref aNo, .int (iI mfi), .int (iI mru), .int (iI mnv), .ref aLe, .ref aAc, .ref aDi, .ref aOr, .int (iI mki), .int (iI mfr), .int (iI mto), .int (iI mwh)])), iA G aMa 3 ma, iA G aLe 384 le] [(0, .ref aM), (1, .int (iI k)), (2, .int (iI n)), (3, .int (iI s))] 84 [.int (iI 0)]
          have hE2 : kth (msS ma le 0 (ma 0).toNat) k = -1 := kth_neg _ _ (by omega)
          exact z_iret C K d_M_missing_84 (rfl) (0, 1) (rfl) (show iI 0 = iI 0 ∧ ((kth (msS ma le 0 (ma 0).toNat) k = -1 → 1 = 1 ∧ 0 = 0) ∧ (¬ kth (msS ma le 0 (ma 0).toNat) k = -1 → 1 = 0 ∧ 0 = kth (msS ma le 0 (ma 0).toNat) k)) from ⟨rfl, fun _ => ⟨rfl, rfl⟩, fun z => absurd hE2 z⟩)
        ·
          rw [msS_step ma le (by omega)] at hE
          refine z_iconst C d_M_missing_23 ?_
          refine z_istore (lv' := [(4, .int (iI 0)), (0, .ref aM), (1, .int (iI k)), (2, .int (iI n)), (3, .int (iI s))]) C d_M_missing_24 (by decide) rfl ?_
          have loop26 : ∀ (kq : Nat) (n2 : Int) (e : Int), (0 ≤ e ∧ e ≤ ma 1 + ma 2 ∧ 0 ≤ n2 ∧ n2 ≤ 24 * s + e) → (kth (msE ma le s e (ma 1 + ma 2 - e).toNat ++ msS ma le (s + 1) (ma 0 - (s + 1)).toNat) (k - n2) = kth (msS ma le 0 (ma 0).toNat) k) → ((ma 1 + ma 2 - e).toNat < kq) → Zc G X 5 0 0 [(aM, .inr (8, [.ref aWc, .int (iI 0), .int (iI msz), .ref aTx, .int (iI mwr), .ref aOu, .int (iI mfa), .int (iI mpl), .int (iI mle), .int (iI mna), .ref aSo, .ref aNf, .ref aNg, .ref aSr, .ref aNu, .ref aMa, .ref aNo, .int (iI mfi), .int (iI mru), .int (iI mnv), .ref aLe, .ref aAc, .ref aDi, .ref aOr, .int (iI mki), .int (iI mfr), .int (iI mto), .int (iI mwh)])), iA G aMa 3 ma, iA G aLe 384 le] [(0, .ref aM), (1, .int (iI k)), (2, .int (iI n2)), (3, .int (iI s)), (4, .int (iI e))] 26 [] := by
            intro kq
            induction kq with
            | zero => intro n2 e he hF hm; exact absurd hm (Nat.not_lt_zero _)
            | succ kq ih26 =>
              intro n2 e he hF hm
              -- loop body
              refine z_iload C d_M_missing_26 4 rfl ?_
              refine z_aload_n C d_M_missing_28 0 rfl ?_
              refine z_calli (As := []) (rest := [.int (iI e)]) (wr := [iA G aLe 384 le]) (ws' := fun u => [(aM, .inr (8, [.ref aWc, .int (iI 0), .int (iI msz), .ref aTx, .int (iI mwr), .ref aOu, .int (iI mfa), .int (iI mpl), .int (iI mle), .int (iI mna), .ref aSo, .ref aNf, .ref aNg, .ref aSr, .ref aNu, .ref aMa, .ref aNo, .int (iI mfi), .int (iI mru), .int (iI mnv), .ref aLe, .ref aAc, .ref aDi, .ref aOr, .int (iI mki), .int (iI mfr), .int (iI mto), .int (iI mwh)])), iA G aMa 3 ma, iA G aLe 384 le]) (q0 := 0) C k_M_172 kc_M_events (fun l sz => m_M_events l G sz aM aWc aTx aOu aSo aNf aNg aSr aNu aMa aNo aLe aAc aDi aOr 0 msz mwr mfa mpl mle mna mfi mru mnv mki mfr mto mwh ma ) rfl rfl (Nat.le_of_ble_eq_true rfl) (by decide) d_M_missing_29 rfl rfl [0, 1] [2] [1, 2, 0] rfl rfl (by decide) (fun u => rfl) (fun r u h29 => ?_)
              obtain rfl := h29
              show Zc G X 5 0 0 [(aM, .inr (8, [.ref aWc, .int (iI 0), .int (iI msz), .ref aTx, .int (iI mwr), .ref aOu, .int (iI mfa), .int (iI mpl), .int (iI mle), .int (iI mna), .ref aSo, .ref aNf, .ref aNg, .ref aSr, .ref aNu, .ref aMa, .ref aNo, .int (iI mfi), .int (iI mru), .int (iI mnv), .ref aLe, .ref aAc, .ref aDi, .ref aOr, .int (iI mki), .int (iI mfr), .int (iI mto), .int (iI mwh)])), iA G aMa 3 ma, iA G aLe 384 le] [(0, .ref aM), (1, .int (iI k)), (2, .int (iI n2)), (3, .int (iI s)), (4, .int (iI e))] 32 [.int (iI (ma 1 + ma 2)), .int (iI e)]
              refine z_icmp_ge (tgt := 73) C d_M_missing_32 (by decide) (by omega) (by omega) (fun c32 => ?_) (fun c32 => ?_)
              ·
                rw [show (ma 1 + ma 2 - e).toNat = 0 by omega] at hF
                have hE3 : kth (msS ma le (s + 1) (ma 0 - (s + 1)).toNat) (k - n2) = kth (msS ma le 0 (ma 0).toNat) k := hF
                refine z_iinc (lv' := [(3, .int (iI (s + 1))), (0, .ref aM), (1, .int (iI k)), (2, .int (iI n2)), (4, .int (iI e))]) C d_M_missing_73 3 rfl (by decide) rfl ?_
                refine z_goto (tgt := 9) C d_M_missing_76 (by decide) ?_
                refine z_lv [1, 2, 3, 0] (lv' := [(0, .ref aM), (1, .int (iI k)), (2, .int (iI n2)), (3, .int (iI (s + 1)))]) rfl ?_
                exact ih9 n2 (s + 1) (by omega) (hE3) (fun z => absurd z (by omega)) (by omega)
              ·
                have hpr := prf_rg hct (s := s) (e := e) (by omega)
                have hgk := hgl (prf ma s e).toNat
                refine z_aload_n C d_M_missing_35 0 rfl ?_
                refine z_get C f_M_40 d_M_missing_36 0 rfl rfl ?_
                refine z_aload_n C d_M_missing_39 0 rfl ?_
                refine z_iload_n C d_M_missing_40 3 rfl ?_
                refine z_iload C d_M_missing_41 4 rfl ?_
                refine z_calli (As := [.int (iI s), .int (iI e)]) (rest := [.ref aLe]) (wr := [iA G aLe 384 le]) (ws' := fun u => [(aM, .inr (8, [.ref aWc, .int (iI 0), .int (iI msz), .ref aTx, .int (iI mwr), .ref aOu, .int (iI mfa), .int (iI mpl), .int (iI mle), .int (iI mna), .ref aSo, .ref aNf, .ref aNg, .ref aSr, .ref aNu, .ref aMa, .ref aNo, .int (iI mfi), .int (iI mru), .int (iI mnv), .ref aLe, .ref aAc, .ref aDi, .ref aOr, .int (iI mki), .int (iI mfr), .int (iI mto), .int (iI mwh)])), iA G aMa 3 ma, iA G aLe 384 le]) (q0 := 0) C k_M_182 kc_M_at (fun l sz => m_M_at l G sz aM aWc aTx aOu aSo aNf aNg aSr aNu aMa aNo aLe aAc aDi aOr 0 msz mwr mfa mpl mle mna mfi mru mnv mki mfr mto mwh ma s e (hct) (by omega)) rfl rfl (Nat.le_of_ble_eq_true rfl) (by decide) d_M_missing_43 rfl rfl [0, 1] [2] [1, 2, 0] rfl rfl (by decide) (fun u => rfl) (fun r u h43 => ?_)
                obtain rfl := h43
                show Zc G X 5 0 0 [(aM, .inr (8, [.ref aWc, .int (iI 0), .int (iI msz), .ref aTx, .int (iI mwr), .ref aOu, .int (iI mfa), .int (iI mpl), .int (iI mle), .int (iI mna), .ref aSo, .ref aNf, .ref aNg, .ref aSr, .ref aNu, .ref aMa, .ref aNo, .int (iI mfi), .int (iI mru), .int (iI mnv), .ref aLe, .ref aAc, .ref aDi, .ref aOr, .int (iI mki), .int (iI mfr), .int (iI mto), .int (iI mwh)])), iA G aMa 3 ma, iA G aLe 384 le] [(0, .ref aM), (1, .int (iI k)), (2, .int (iI n2)), (3, .int (iI s)), (4, .int (iI e))] 46 [.int (iI (prf ma s e)), .ref aLe]
                refine z_iald C d_M_missing_46 2 rfl (by omega) ?_
                refine z_iconst C d_M_missing_47 ?_
                refine z_icmp_ne (tgt := 67) C d_M_missing_48 (by decide) (by omega) (by omega) (fun c48 => ?_) (fun c48 => ?_)
                ·
                  refine z_iinc (lv' := [(4, .int (iI (e + 1))), (0, .ref aM), (1, .int (iI k)), (2, .int (iI n2)), (3, .int (iI s))]) C d_M_missing_67 4 rfl (by decide) rfl ?_
                  refine z_goto (tgt := 26) C d_M_missing_70 (by decide) ?_
                  refine z_lv [1, 2, 3, 4, 0] (lv' := [(0, .ref aM), (1, .int (iI k)), (2, .int (iI n2)), (3, .int (iI s)), (4, .int (iI (e + 1)))]) rfl ?_
                  exact ih26 _ _ (by omega) (by rw [msE_step ma le s (by omega), if_neg (by omega)] at hF; exact hF) (by omega)
                ·
                  refine z_iload_n C d_M_missing_51 2 rfl ?_
                  refine z_iload_n C d_M_missing_52 1 rfl ?_
                  refine z_icmp_ne (tgt := 64) C d_M_missing_53 (by decide) (by omega) (by omega) (fun c53 => ?_) (fun c53 => ?_)
                  ·
                    refine z_iinc (lv' := [(2, .int (iI (n2 + 1))), (0, .ref aM), (1, .int (iI k)), (3, .int (iI s)), (4, .int (iI e))]) C d_M_missing_64 2 rfl (by decide) rfl ?_
                    refine z_iinc (lv' := [(4, .int (iI (e + 1))), (2, .int (iI (n2 + 1))), (0, .ref aM), (1, .int (iI k)), (3, .int (iI s))]) C d_M_missing_67 4 rfl (by decide) rfl ?_
                    refine z_goto (tgt := 26) C d_M_missing_70 (by decide) ?_
                    refine z_lv [2, 3, 1, 4, 0] (lv' := [(0, .ref aM), (1, .int (iI k)), (2, .int (iI (n2 + 1))), (3, .int (iI s)), (4, .int (iI (e + 1)))]) rfl ?_
                    exact ih26 _ _ (by omega) (by rw [msE_step ma le s (by omega), if_pos (by omega), List.cons_append, kth_miss (by omega), show k - n2 - 1 = k - (n2 + 1) by omega] at hF; exact hF) (by omega)
                  ·
                    rw [msE_step ma le s (by omega), if_pos (by omega), List.cons_append, kth_hit (by omega)] at hF
                    refine z_bipush C d_M_missing_56 (by decide) ?_
                    refine z_iload_n C d_M_missing_58 3 rfl ?_
                    refine z_imul C d_M_missing_59 ?_
                    refine z_iload C d_M_missing_60 4 rfl ?_
                    refine z_iadd C d_M_missing_62 ?_
                    exact z_iret C K d_M_missing_63 (rfl) (kth (msS ma le 0 (ma 0).toNat) k, 0) (rfl) (show iI ((100 * s) + e) = iI (kth (msS ma le 0 (ma 0).toNat) k) ∧ ((kth (msS ma le 0 (ma 0).toNat) k = -1 → 0 = 1 ∧ (kth (msS ma le 0 (ma 0).toNat) k) = 0) ∧ (¬ kth (msS ma le 0 (ma 0).toNat) k = -1 → 0 = 0 ∧ (kth (msS ma le 0 (ma 0).toNat) k) = kth (msS ma le 0 (ma 0).toNat) k)) from ⟨congrArg iI (by rw [← hF]; omega), fun z => by rw [← hF] at z; omega, fun _ => ⟨rfl, rfl⟩⟩)
          refine z_lv [1, 2, 3, 4, 0] (lv' := [(0, .ref aM), (1, .int (iI k)), (2, .int (iI n)), (3, .int (iI s)), (4, .int (iI 0))]) rfl ?_
          exact loop26 (_ + 1) _ _ (by omega) (by rw [Int.sub_zero]; exact hE) (Nat.lt_succ_self _)
  refine z_lv [2, 3, 1, 0] (lv' := [(0, .ref aM), (1, .int (iI k)), (2, .int (iI 0)), (3, .int (iI 0))]) rfl ?_
  exact loop9 (_ + 1) _ _ (by omega) (by rw [Int.sub_zero, Int.sub_zero]) (fun _ => rfl) (Nat.lt_succ_self _)
set_option maxHeartbeats 4000000 in
set_option maxRecDepth 100000 in
theorem m_M_count (l : Launch) (G : GG) (sz : Nat) (aM : Nat) (aWc : Nat) (aTx : Nat) (aOu : Nat) (aSo : Nat) (aNf : Nat) (aNg : Nat) (aSr : Nat) (aNu : Nat) (aMa : Nat) (aNo : Nat) (aLe : Nat) (aAc : Nat) (aDi : Nat) (aOr : Nat) (mth : Int) (msz : Int) (mwr : Int) (mfa : Int) (mpl : Int) (mle : Int) (mna : Int) (mfi : Int) (mru : Int) (mnv : Int) (mki : Int) (mfr : Int) (mto : Int) (mwh : Int) (ma : Nat → Int) (le : Nat → Int) (di : Nat → Int) (od : Nat → Int) (w : Int) (hct : cnt ma) (hgl : ∀ j, -2 ≤ le j ∧ (le j < 0 ∨ le j < ma 0)) (hfi : 0 < ma 0 → 0 ≤ mfi ∧ mfi < ma 0) (h1 : -2147483648 ≤ w ∧ w ≤ 2147483647) : MetI l G sz y_M_count c_M_count 4 (some .int) ({ frames := 3, cells := 0, slots := 0, locals := 67 } : Room) [.ref aM, .int (iI w)] [(aM, .inr (8, [.ref aWc, .int (iI mth), .int (iI msz), .ref aTx, .int (iI mwr), .ref aOu, .int (iI mfa), .int (iI mpl), .int (iI mle), .int (iI mna), .ref aSo, .ref aNf, .ref aNg, .ref aSr, .ref aNu, .ref aMa, .ref aNo, .int (iI mfi), .int (iI mru), .int (iI mnv), .ref aLe, .ref aAc, .ref aDi, .ref aOr, .int (iI mki), .int (iI mfr), .int (iI mto), .int (iI mwh)])), iA G aMa 3 ma, iA G aLe 384 le, iA G aDi 16 di, iA G aOr 16 od] (fun (r : Int32) (u : Int × (Nat → Int) × (Nat → Int)) => r = iI u.1 ∧ ((w = 0 → u.1 = msz) ∧ (w = 1 → u.1 = ma 0) ∧ (w = 2 → u.1 = ma 1) ∧ (w = 3 → u.1 = ma 2) ∧ (w = 4 → u.1 = mru) ∧ (w = 5 → u.1 = mnv) ∧ (w = 6 → u.1 = ((msS ma le 0 (ma 0).toNat).length : Int)) ∧ (w = 8 → u.1 = if 0 < ma 0 then mfi else -1) ∧ (w = 9 → u.1 = mwr) ∧ (w = 7 → u.1 = msR ma le u.2.1 0 (ma 0).toNat ∧ ((0 < ma 0 → DS (fun (s e : Int) => le (prf ma s e).toNat) (ma 0) (ma 1 + ma 2) mfi u.2.1) ∧ (¬ 0 < ma 0 → ∀ j : Nat, j < 16 → u.2.1 j = -1))) ∧ (¬ (0 ≤ w ∧ w ≤ 9) → u.1 = -1))) (fun (u : Int × (Nat → Int) × (Nat → Int)) => [(aM, .inr (8, [.ref aWc, .int (iI 0), .int (iI msz), .ref aTx, .int (iI mwr), .ref aOu, .int (iI mfa), .int (iI mpl), .int (iI mle), .int (iI mna), .ref aSo, .ref aNf, .ref aNg, .ref aSr, .ref aNu, .ref aMa, .ref aNo, .int (iI mfi), .int (iI mru), .int (iI mnv), .ref aLe, .ref aAc, .ref aDi, .ref aOr, .int (iI mki), .int (iI mfr), .int (iI mto), .int (iI mwh)])), iA G aMa 3 ma, iA G aLe 384 le, iA G aDi 16 u.2.1, iA G aOr 16 u.2.2]) := by
  refine MetI.mk (by decide) (Nat.le_of_ble_eq_true rfl) (fun X C K => ?_)
  show Zc G X 4 0 0 [(aM, .inr (8, [.ref aWc, .int (iI mth), .int (iI msz), .ref aTx, .int (iI mwr), .ref aOu, .int (iI mfa), .int (iI mpl), .int (iI mle), .int (iI mna), .ref aSo, .ref aNf, .ref aNg, .ref aSr, .ref aNu, .ref aMa, .ref aNo, .int (iI mfi), .int (iI mru), .int (iI mnv), .ref aLe, .ref aAc, .ref aDi, .ref aOr, .int (iI mki), .int (iI mfr), .int (iI mto), .int (iI mwh)])), iA G aMa 3 ma, iA G aLe 384 le, iA G aDi 16 di, iA G aOr 16 od] [(0, .ref aM), (1, .int (iI w))] 0 []
  have hcc := hct
  unfold cnt at hcc
  refine z_aload_n C d_M_count_0 0 rfl ?_
  refine z_iconst C d_M_count_1 ?_
  refine z_put C f_M_55 ok_M nm_M d_M_count_2 0 rfl rfl rfl rfl (Nat.le_of_ble_eq_true rfl) [(aM, .inr (8, [.ref aWc, .int (iI 0), .int (iI msz), .ref aTx, .int (iI mwr), .ref aOu, .int (iI mfa), .int (iI mpl), .int (iI mle), .int (iI mna), .ref aSo, .ref aNf, .ref aNg, .ref aSr, .ref aNu, .ref aMa, .ref aNo, .int (iI mfi), .int (iI mru), .int (iI mnv), .ref aLe, .ref aAc, .ref aDi, .ref aOr, .int (iI mki), .int (iI mfr), .int (iI mto), .int (iI mwh)])), iA G aMa 3 ma, iA G aLe 384 le, iA G aDi 16 di, iA G aOr 16 od] rfl ?_
  refine z_iconst C d_M_count_5 ?_
  refine z_istore_n (lv' := [(2, .int (iI 0)), (0, .ref aM), (1, .int (iI w))]) C d_M_count_6 (by decide) rfl ?_
  rcases (show w = 0 ∨ w = 1 ∨ w = 2 ∨ w = 3 ∨ w = 4 ∨ w = 5 ∨ w = 6 ∨ w = 7 ∨ w = 8 ∨ w = 9 ∨ ¬ (0 ≤ w ∧ w ≤ 9) by omega) with rfl | rfl | rfl | rfl | rfl | rfl | rfl | rfl | rfl | rfl | hw
  ·
    skip
    refine z_iload_n C d_M_count_7 2 rfl ?_
    refine z_tableIn (tgt := 64) (off := 56) C d_M_count_8 (by decide) (by decide) (by decide) (by decide) ?_
    refine z_aload_n C d_M_count_64 1 rfl ?_
    refine z_get C f_M_59 d_M_count_65 0 rfl rfl ?_
    exact z_iret C K d_M_count_68 (rfl) (msz, di, od) (rfl) (show iI msz = iI msz ∧ ((0 = 0 → msz = msz) ∧ (0 = 1 → msz = ma 0) ∧ (0 = 2 → msz = ma 1) ∧ (0 = 3 → msz = ma 2) ∧ (0 = 4 → msz = mru) ∧ (0 = 5 → msz = mnv) ∧ (0 = 6 → msz = ((msS ma le 0 (ma 0).toNat).length : Int)) ∧ (0 = 8 → msz = if 0 < ma 0 then mfi else -1) ∧ (0 = 9 → msz = mwr) ∧ (0 = 7 → msz = msR ma le di 0 (ma 0).toNat ∧ ((0 < ma 0 → DS (fun (s e : Int) => le (prf ma s e).toNat) (ma 0) (ma 1 + ma 2) mfi di) ∧ (¬ 0 < ma 0 → ∀ j : Nat, j < 16 → di j = -1))) ∧ (¬ (0 ≤ 0 ∧ 0 ≤ 9) → msz = -1)) from ⟨rfl, fun _ => rfl, fun z => absurd z (by decide), fun z => absurd z (by decide), fun z => absurd z (by decide), fun z => absurd z (by decide), fun z => absurd z (by decide), fun z => absurd z (by decide), fun z => absurd z (by decide), fun z => absurd z (by decide), fun z => absurd z (by decide), fun z => absurd (show (0 : Int) ≤ 0 ∧ (0 : Int) ≤ 9 by decide) z⟩)
  ·
    skip
    refine z_iload_n C d_M_count_7 2 rfl ?_
    refine z_tableIn (tgt := 69) (off := 61) C d_M_count_8 (by decide) (by decide) (by decide) (by decide) ?_
    refine z_aload_n C d_M_count_69 1 rfl ?_
    refine z_get C f_M_34 d_M_count_70 0 rfl rfl ?_
    refine z_iconst C d_M_count_73 ?_
    refine z_iald C d_M_count_74 1 rfl (by omega) ?_
    refine z_topi (y := iI (ma 0)) (rfl) ?_
    exact z_iret C K d_M_count_75 (rfl) (ma 0, di, od) (rfl) (show iI (ma 0) = iI (ma 0) ∧ ((1 = 0 → (ma 0) = msz) ∧ (1 = 1 → (ma 0) = ma 0) ∧ (1 = 2 → (ma 0) = ma 1) ∧ (1 = 3 → (ma 0) = ma 2) ∧ (1 = 4 → (ma 0) = mru) ∧ (1 = 5 → (ma 0) = mnv) ∧ (1 = 6 → (ma 0) = ((msS ma le 0 (ma 0).toNat).length : Int)) ∧ (1 = 8 → (ma 0) = if 0 < ma 0 then mfi else -1) ∧ (1 = 9 → (ma 0) = mwr) ∧ (1 = 7 → (ma 0) = msR ma le di 0 (ma 0).toNat ∧ ((0 < ma 0 → DS (fun (s e : Int) => le (prf ma s e).toNat) (ma 0) (ma 1 + ma 2) mfi di) ∧ (¬ 0 < ma 0 → ∀ j : Nat, j < 16 → di j = -1))) ∧ (¬ (0 ≤ 1 ∧ 1 ≤ 9) → (ma 0) = -1)) from ⟨rfl, fun z => absurd z (by decide), fun _ => rfl, fun z => absurd z (by decide), fun z => absurd z (by decide), fun z => absurd z (by decide), fun z => absurd z (by decide), fun z => absurd z (by decide), fun z => absurd z (by decide), fun z => absurd z (by decide), fun z => absurd z (by decide), fun z => absurd (show (0 : Int) ≤ 1 ∧ (1 : Int) ≤ 9 by decide) z⟩)
  ·
    skip
    refine z_iload_n C d_M_count_7 2 rfl ?_
    refine z_tableIn (tgt := 76) (off := 68) C d_M_count_8 (by decide) (by decide) (by decide) (by decide) ?_
    refine z_aload_n C d_M_count_76 1 rfl ?_
    refine z_get C f_M_34 d_M_count_77 0 rfl rfl ?_
    refine z_iconst C d_M_count_80 ?_
    refine z_iald C d_M_count_81 1 rfl (by omega) ?_
    refine z_topi (y := iI (ma 1)) (rfl) ?_
    exact z_iret C K d_M_count_82 (rfl) (ma 1, di, od) (rfl) (show iI (ma 1) = iI (ma 1) ∧ ((2 = 0 → (ma 1) = msz) ∧ (2 = 1 → (ma 1) = ma 0) ∧ (2 = 2 → (ma 1) = ma 1) ∧ (2 = 3 → (ma 1) = ma 2) ∧ (2 = 4 → (ma 1) = mru) ∧ (2 = 5 → (ma 1) = mnv) ∧ (2 = 6 → (ma 1) = ((msS ma le 0 (ma 0).toNat).length : Int)) ∧ (2 = 8 → (ma 1) = if 0 < ma 0 then mfi else -1) ∧ (2 = 9 → (ma 1) = mwr) ∧ (2 = 7 → (ma 1) = msR ma le di 0 (ma 0).toNat ∧ ((0 < ma 0 → DS (fun (s e : Int) => le (prf ma s e).toNat) (ma 0) (ma 1 + ma 2) mfi di) ∧ (¬ 0 < ma 0 → ∀ j : Nat, j < 16 → di j = -1))) ∧ (¬ (0 ≤ 2 ∧ 2 ≤ 9) → (ma 1) = -1)) from ⟨rfl, fun z => absurd z (by decide), fun z => absurd z (by decide), fun _ => rfl, fun z => absurd z (by decide), fun z => absurd z (by decide), fun z => absurd z (by decide), fun z => absurd z (by decide), fun z => absurd z (by decide), fun z => absurd z (by decide), fun z => absurd z (by decide), fun z => absurd (show (0 : Int) ≤ 2 ∧ (2 : Int) ≤ 9 by decide) z⟩)
  ·
    skip
    refine z_iload_n C d_M_count_7 2 rfl ?_
    refine z_tableIn (tgt := 83) (off := 75) C d_M_count_8 (by decide) (by decide) (by decide) (by decide) ?_
    refine z_aload_n C d_M_count_83 1 rfl ?_
    refine z_get C f_M_34 d_M_count_84 0 rfl rfl ?_
    refine z_iconst C d_M_count_87 ?_
    refine z_iald C d_M_count_88 1 rfl (by omega) ?_
    refine z_topi (y := iI (ma 2)) (rfl) ?_
    exact z_iret C K d_M_count_89 (rfl) (ma 2, di, od) (rfl) (show iI (ma 2) = iI (ma 2) ∧ ((3 = 0 → (ma 2) = msz) ∧ (3 = 1 → (ma 2) = ma 0) ∧ (3 = 2 → (ma 2) = ma 1) ∧ (3 = 3 → (ma 2) = ma 2) ∧ (3 = 4 → (ma 2) = mru) ∧ (3 = 5 → (ma 2) = mnv) ∧ (3 = 6 → (ma 2) = ((msS ma le 0 (ma 0).toNat).length : Int)) ∧ (3 = 8 → (ma 2) = if 0 < ma 0 then mfi else -1) ∧ (3 = 9 → (ma 2) = mwr) ∧ (3 = 7 → (ma 2) = msR ma le di 0 (ma 0).toNat ∧ ((0 < ma 0 → DS (fun (s e : Int) => le (prf ma s e).toNat) (ma 0) (ma 1 + ma 2) mfi di) ∧ (¬ 0 < ma 0 → ∀ j : Nat, j < 16 → di j = -1))) ∧ (¬ (0 ≤ 3 ∧ 3 ≤ 9) → (ma 2) = -1)) from ⟨rfl, fun z => absurd z (by decide), fun z => absurd z (by decide), fun z => absurd z (by decide), fun _ => rfl, fun z => absurd z (by decide), fun z => absurd z (by decide), fun z => absurd z (by decide), fun z => absurd z (by decide), fun z => absurd z (by decide), fun z => absurd z (by decide), fun z => absurd (show (0 : Int) ≤ 3 ∧ (3 : Int) ≤ 9 by decide) z⟩)
  ·
    skip
    refine z_iload_n C d_M_count_7 2 rfl ?_
    refine z_tableIn (tgt := 90) (off := 82) C d_M_count_8 (by decide) (by decide) (by decide) (by decide) ?_
    refine z_aload_n C d_M_count_90 1 rfl ?_
    refine z_get C f_M_151 d_M_count_91 0 rfl rfl ?_
    exact z_iret C K d_M_count_94 (rfl) (mru, di, od) (rfl) (show iI mru = iI mru ∧ ((4 = 0 → mru = msz) ∧ (4 = 1 → mru = ma 0) ∧ (4 = 2 → mru = ma 1) ∧ (4 = 3 → mru = ma 2) ∧ (4 = 4 → mru = mru) ∧ (4 = 5 → mru = mnv) ∧ (4 = 6 → mru = ((msS ma le 0 (ma 0).toNat).length : Int)) ∧ (4 = 8 → mru = if 0 < ma 0 then mfi else -1) ∧ (4 = 9 → mru = mwr) ∧ (4 = 7 → mru = msR ma le di 0 (ma 0).toNat ∧ ((0 < ma 0 → DS (fun (s e : Int) => le (prf ma s e).toNat) (ma 0) (ma 1 + ma 2) mfi di) ∧ (¬ 0 < ma 0 → ∀ j : Nat, j < 16 → di j = -1))) ∧ (¬ (0 ≤ 4 ∧ 4 ≤ 9) → mru = -1)) from ⟨rfl, fun z => absurd z (by decide), fun z => absurd z (by decide), fun z => absurd z (by decide), fun z => absurd z (by decide), fun _ => rfl, fun z => absurd z (by decide), fun z => absurd z (by decide), fun z => absurd z (by decide), fun z => absurd z (by decide), fun z => absurd z (by decide), fun z => absurd (show (0 : Int) ≤ 4 ∧ (4 : Int) ≤ 9 by decide) z⟩)
  ·
    skip
    refine z_iload_n C d_M_count_7 2 rfl ?_
    refine z_tableIn (tgt := 95) (off := 87) C d_M_count_8 (by decide) (by decide) (by decide) (by decide) ?_
    refine z_aload_n C d_M_count_95 1 rfl ?_
    refine z_get C f_M_154 d_M_count_96 0 rfl rfl ?_
    exact z_iret C K d_M_count_99 (rfl) (mnv, di, od) (rfl) (show iI mnv = iI mnv ∧ ((5 = 0 → mnv = msz) ∧ (5 = 1 → mnv = ma 0) ∧ (5 = 2 → mnv = ma 1) ∧ (5 = 3 → mnv = ma 2) ∧ (5 = 4 → mnv = mru) ∧ (5 = 5 → mnv = mnv) ∧ (5 = 6 → mnv = ((msS ma le 0 (ma 0).toNat).length : Int)) ∧ (5 = 8 → mnv = if 0 < ma 0 then mfi else -1) ∧ (5 = 9 → mnv = mwr) ∧ (5 = 7 → mnv = msR ma le di 0 (ma 0).toNat ∧ ((0 < ma 0 → DS (fun (s e : Int) => le (prf ma s e).toNat) (ma 0) (ma 1 + ma 2) mfi di) ∧ (¬ 0 < ma 0 → ∀ j : Nat, j < 16 → di j = -1))) ∧ (¬ (0 ≤ 5 ∧ 5 ≤ 9) → mnv = -1)) from ⟨rfl, fun z => absurd z (by decide), fun z => absurd z (by decide), fun z => absurd z (by decide), fun z => absurd z (by decide), fun z => absurd z (by decide), fun _ => rfl, fun z => absurd z (by decide), fun z => absurd z (by decide), fun z => absurd z (by decide), fun z => absurd z (by decide), fun z => absurd (show (0 : Int) ≤ 5 ∧ (5 : Int) ≤ 9 by decide) z⟩)
  ·
    skip
    refine z_iload_n C d_M_count_7 2 rfl ?_
    refine z_tableIn (tgt := 100) (off := 92) C d_M_count_8 (by decide) (by decide) (by decide) (by decide) ?_
    refine z_iconst C d_M_count_100 ?_
    refine z_istore_n (lv' := [(3, .int (iI 0)), (2, .int (iI 0)), (0, .ref aM), (1, .int (iI 6))]) C d_M_count_101 (by decide) rfl ?_
    have loop102 : ∀ (kq : Nat) (n : Int) (s : Int), (0 ≤ s ∧ s ≤ ma 0) → (n + ((msS ma le s (ma 0 - s).toNat).length : Int) = ((msS ma le 0 (ma 0).toNat).length : Int)) → ((ma 0 - s).toNat < kq) → Zc G X 4 0 0 [(aM, .inr (8, [.ref aWc, .int (iI 0), .int (iI msz), .ref aTx, .int (iI mwr), .ref aOu, .int (iI mfa), .int (iI mpl), .int (iI mle), .int (iI mna), .ref aSo, .ref aNf, .ref aNg, .ref aSr, .ref aNu, .ref aMa, .ref aNo, .int (iI mfi), .int (iI mru), .int (iI mnv), .ref aLe, .ref aAc, .ref aDi, .ref aOr, .int (iI mki), .int (iI mfr), .int (iI mto), .int (iI mwh)])), iA G aMa 3 ma, iA G aLe 384 le, iA G aDi 16 di, iA G aOr 16 od] [(0, .ref aM), (1, .int (iI 6)), (2, .int (iI n)), (3, .int (iI s))] 102 [] := by
      intro kq
      induction kq with
      | zero => intro n s hk hE hm; exact absurd hm (Nat.not_lt_zero _)
      | succ kq ih102 =>
        intro n s hk hE hm
        -- loop body
        refine z_iload_n C d_M_count_102 3 rfl ?_
        refine z_aload_n C d_M_count_103 0 rfl ?_
        refine z_get C f_M_34 d_M_count_104 0 rfl rfl ?_
        refine z_iconst C d_M_count_107 ?_
        refine z_iald C d_M_count_108 1 rfl (by omega) ?_
        refine z_topi (y := iI (ma 0)) (rfl) ?_
        refine z_icmp_ge (tgt := 126) C d_M_count_109 (by decide) (by omega) (by omega) (fun c109 => ?_) (fun c109 => ?_)
        ·
          refine z_iload_n C d_M_count_126 2 rfl ?_
          rw [show (ma 0 - s).toNat = 0 by omega] at hE
          have hE2 : n = ((msS ma le 0 (ma 0).toNat).length : Int) := by have z : n + (([] : List Int).length : Int) = _ := hE; rw [← z]; simp
          exact z_iret C K d_M_count_127 (rfl) (((msS ma le 0 (ma 0).toNat).length : Int), di, od) (rfl) (show iI n = iI ((msS ma le 0 (ma 0).toNat).length : Int) ∧ ((6 = 0 → ((msS ma le 0 (ma 0).toNat).length : Int) = msz) ∧ (6 = 1 → ((msS ma le 0 (ma 0).toNat).length : Int) = ma 0) ∧ (6 = 2 → ((msS ma le 0 (ma 0).toNat).length : Int) = ma 1) ∧ (6 = 3 → ((msS ma le 0 (ma 0).toNat).length : Int) = ma 2) ∧ (6 = 4 → ((msS ma le 0 (ma 0).toNat).length : Int) = mru) ∧ (6 = 5 → ((msS ma le 0 (ma 0).toNat).length : Int) = mnv) ∧ (6 = 6 → ((msS ma le 0 (ma 0).toNat).length : Int) = ((msS ma le 0 (ma 0).toNat).length : Int)) ∧ (6 = 8 → ((msS ma le 0 (ma 0).toNat).length : Int) = if 0 < ma 0 then mfi else -1) ∧ (6 = 9 → ((msS ma le 0 (ma 0).toNat).length : Int) = mwr) ∧ (6 = 7 → ((msS ma le 0 (ma 0).toNat).length : Int) = msR ma le di 0 (ma 0).toNat ∧ ((0 < ma 0 → DS (fun (s e : Int) => le (prf ma s e).toNat) (ma 0) (ma 1 + ma 2) mfi di) ∧ (¬ 0 < ma 0 → ∀ j : Nat, j < 16 → di j = -1))) ∧ (¬ (0 ≤ 6 ∧ 6 ≤ 9) → ((msS ma le 0 (ma 0).toNat).length : Int) = -1)) from ⟨congrArg iI hE2, fun z => absurd z (by decide), fun z => absurd z (by decide), fun z => absurd z (by decide), fun z => absurd z (by decide), fun z => absurd z (by decide), fun z => absurd z (by decide), fun _ => rfl, fun z => absurd z (by decide), fun z => absurd z (by decide), fun z => absurd z (by decide), fun z => absurd (show (0 : Int) ≤ 6 ∧ (6 : Int) ≤ 9 by decide) z⟩)
        ·
          refine z_iload_n C d_M_count_112 2 rfl ?_
          refine z_aload_n C d_M_count_113 0 rfl ?_
          refine z_iload_n C d_M_count_114 3 rfl ?_
          refine z_calli (As := [.int (iI s)]) (rest := [.int (iI n)]) (wr := [iA G aDi 16 di, iA G aOr 16 od]) (ws' := fun u => [(aM, .inr (8, [.ref aWc, .int (iI 0), .int (iI msz), .ref aTx, .int (iI mwr), .ref aOu, .int (iI mfa), .int (iI mpl), .int (iI mle), .int (iI mna), .ref aSo, .ref aNf, .ref aNg, .ref aSr, .ref aNu, .ref aMa, .ref aNo, .int (iI mfi), .int (iI mru), .int (iI mnv), .ref aLe, .ref aAc, .ref aDi, .ref aOr, .int (iI mki), .int (iI mfr), .int (iI mto), .int (iI mwh)])), iA G aMa 3 ma, iA G aLe 384 le, iA G aDi 16 di, iA G aOr 16 od]) (q0 := 0) C k_M_233 kc_M_missingOf (fun l sz => m_M_missingOf l G sz aM aWc aTx aOu aSo aNf aNg aSr aNu aMa aNo aLe aAc aDi aOr 0 msz mwr mfa mpl mle mna mfi mru mnv mki mfr mto mwh ma le s (hct) (fun j => by have := hgl j; omega) (by omega)) rfl rfl (Nat.le_of_ble_eq_true rfl) (by decide) d_M_count_115 rfl rfl [0, 1, 2] [3, 4] [2, 3, 4, 0, 1] rfl rfl (by decide) (fun u => rfl) (fun r u h115 => ?_)
          obtain rfl := h115
          show Zc G X 4 0 0 [(aM, .inr (8, [.ref aWc, .int (iI 0), .int (iI msz), .ref aTx, .int (iI mwr), .ref aOu, .int (iI mfa), .int (iI mpl), .int (iI mle), .int (iI mna), .ref aSo, .ref aNf, .ref aNg, .ref aSr, .ref aNu, .ref aMa, .ref aNo, .int (iI mfi), .int (iI mru), .int (iI mnv), .ref aLe, .ref aAc, .ref aDi, .ref aOr, .int (iI mki), .int (iI mfr), .int (iI mto), .int (iI mwh)])), iA G aMa 3 ma, iA G aLe 384 le, iA G aDi 16 di, iA G aOr 16 od] [(0, .ref aM), (1, .int (iI 6)), (2, .int (iI n)), (3, .int (iI s))] 118 [.int (iI ((msE ma le s 0 (ma 1 + ma 2).toNat).length : Int)), .int (iI n)]
          refine z_iadd C d_M_count_118 ?_
          refine z_istore_n (lv' := [(2, .int (iI (n + ((msE ma le s 0 (ma 1 + ma 2).toNat).length : Int)))), (0, .ref aM), (1, .int (iI 6)), (3, .int (iI s))]) C d_M_count_119 (by decide) rfl ?_
          refine z_iinc (lv' := [(3, .int (iI (s + 1))), (2, .int (iI (n + ((msE ma le s 0 (ma 1 + ma 2).toNat).length : Int)))), (0, .ref aM), (1, .int (iI 6))]) C d_M_count_120 3 rfl (by decide) rfl ?_
          refine z_goto (tgt := 102) C d_M_count_123 (by decide) ?_
          refine z_lv [2, 3, 1, 0] (lv' := [(0, .ref aM), (1, .int (iI 6)), (2, .int (iI (n + ((msE ma le s 0 (ma 1 + ma 2).toNat).length : Int)))), (3, .int (iI (s + 1)))]) rfl ?_
          exact ih102 _ _ (by omega) (by rw [msS_step ma le (by omega), List.length_append] at hE; omega) (by omega)
    refine z_lv [2, 3, 1, 0] (lv' := [(0, .ref aM), (1, .int (iI 6)), (2, .int (iI 0)), (3, .int (iI 0))]) rfl ?_
    exact loop102 (_ + 1) _ _ (by omega) (by rw [Int.sub_zero, Int.zero_add]) (Nat.lt_succ_self _)
  ·
    skip
    refine z_iload_n C d_M_count_7 2 rfl ?_
    refine z_tableIn (tgt := 128) (off := 120) C d_M_count_8 (by decide) (by decide) (by decide) (by decide) ?_
    refine z_aload_n C d_M_count_128 1 rfl ?_
    refine z_callv (As := []) (rest := []) (wr := []) (ws' := fun u => [(aM, .inr (8, [.ref aWc, .int (iI 0), .int (iI msz), .ref aTx, .int (iI mwr), .ref aOu, .int (iI mfa), .int (iI mpl), .int (iI mle), .int (iI mna), .ref aSo, .ref aNf, .ref aNg, .ref aSr, .ref aNu, .ref aMa, .ref aNo, .int (iI mfi), .int (iI mru), .int (iI mnv), .ref aLe, .ref aAc, .ref aDi, .ref aOr, .int (iI mki), .int (iI mfr), .int (iI mto), .int (iI mwh)])), iA G aMa 3 ma, iA G aLe 384 le, iA G aDi 16 u.1, iA G aOr 16 u.2]) (q0 := 0) C k_M_185 kc_M_reach (fun l sz => m_M_reach l G sz aM aWc aTx aOu aSo aNf aNg aSr aNu aMa aNo aLe aAc aDi aOr 0 msz mwr mfa mpl mle mna mfi mru mnv mki mfr mto mwh ma le di od (hct) (hgl) (hfi)) rfl rfl (Nat.le_of_ble_eq_true rfl) (by decide) d_M_count_129 rfl rfl [0, 1, 2, 3, 4] [] [0, 1, 2, 3, 4] rfl rfl (by decide) (fun u => rfl) (fun u h129 => ?_)
    obtain ⟨di2_129, od2_129⟩ := u
    obtain ⟨hd_129, hg_129⟩ := h129
    have hd_129 : (0 < ma 0 → DS (fun (s e : Int) => le (prf ma s e).toNat) (ma 0) (ma 1 + ma 2) mfi di2_129) ∧ (¬ 0 < ma 0 → ∀ j : Nat, j < 16 → di2_129 j = -1) := hd_129
    have hg_129 : ∀ j : Nat, j < 16 → -1 ≤ di2_129 j ∧ di2_129 j ≤ 15 := hg_129
    show Zc G X 4 0 0 [(aM, .inr (8, [.ref aWc, .int (iI 0), .int (iI msz), .ref aTx, .int (iI mwr), .ref aOu, .int (iI mfa), .int (iI mpl), .int (iI mle), .int (iI mna), .ref aSo, .ref aNf, .ref aNg, .ref aSr, .ref aNu, .ref aMa, .ref aNo, .int (iI mfi), .int (iI mru), .int (iI mnv), .ref aLe, .ref aAc, .ref aDi, .ref aOr, .int (iI mki), .int (iI mfr), .int (iI mto), .int (iI mwh)])), iA G aMa 3 ma, iA G aLe 384 le, iA G aDi 16 di2_129, iA G aOr 16 od2_129] [(2, .int (iI 0)), (0, .ref aM), (1, .int (iI 7))] 132 []
    refine z_iconst C d_M_count_132 ?_
    refine z_istore_n (lv' := [(3, .int (iI 0)), (2, .int (iI 0)), (0, .ref aM), (1, .int (iI 7))]) C d_M_count_133 (by decide) rfl ?_
    have loop134 : ∀ (kq : Nat) (n : Int) (s : Int), (0 ≤ s ∧ s ≤ ma 0) → (n + msR ma le di2_129 s (ma 0 - s).toNat = msR ma le di2_129 0 (ma 0).toNat) → ((ma 0 - s).toNat < kq) → Zc G X 4 0 0 [(aM, .inr (8, [.ref aWc, .int (iI 0), .int (iI msz), .ref aTx, .int (iI mwr), .ref aOu, .int (iI mfa), .int (iI mpl), .int (iI mle), .int (iI mna), .ref aSo, .ref aNf, .ref aNg, .ref aSr, .ref aNu, .ref aMa, .ref aNo, .int (iI mfi), .int (iI mru), .int (iI mnv), .ref aLe, .ref aAc, .ref aDi, .ref aOr, .int (iI mki), .int (iI mfr), .int (iI mto), .int (iI mwh)])), iA G aMa 3 ma, iA G aLe 384 le, iA G aDi 16 di2_129, iA G aOr 16 od2_129] [(0, .ref aM), (1, .int (iI 7)), (2, .int (iI n)), (3, .int (iI s))] 134 [] := by
      intro kq
      induction kq with
      | zero => intro n s hk hE hm; exact absurd hm (Nat.not_lt_zero _)
      | succ kq ih134 =>
        intro n s hk hE hm
        -- loop body
        refine z_iload_n C d_M_count_134 3 rfl ?_
        refine z_aload_n C d_M_count_135 0 rfl ?_
        refine z_get C f_M_34 d_M_count_136 0 rfl rfl ?_
        refine z_iconst C d_M_count_139 ?_
        refine z_iald C d_M_count_140 1 rfl (by omega) ?_
        refine z_topi (y := iI (ma 0)) (rfl) ?_
        refine z_icmp_ge (tgt := 171) C d_M_count_141 (by decide) (by omega) (by omega) (fun c141 => ?_) (fun c141 => ?_)
        ·
          refine z_iload_n C d_M_count_171 2 rfl ?_
          rw [show (ma 0 - s).toNat = 0 by omega] at hE
          have hE2 : n = msR ma le di2_129 0 (ma 0).toNat := by have z : n + 0 = _ := hE; rw [← z]; omega
          exact z_iret C K d_M_count_172 (rfl) (msR ma le di2_129 0 (ma 0).toNat, di2_129, od2_129) (rfl) (show iI n = iI (msR ma le di2_129 0 (ma 0).toNat) ∧ ((7 = 0 → (msR ma le di2_129 0 (ma 0).toNat) = msz) ∧ (7 = 1 → (msR ma le di2_129 0 (ma 0).toNat) = ma 0) ∧ (7 = 2 → (msR ma le di2_129 0 (ma 0).toNat) = ma 1) ∧ (7 = 3 → (msR ma le di2_129 0 (ma 0).toNat) = ma 2) ∧ (7 = 4 → (msR ma le di2_129 0 (ma 0).toNat) = mru) ∧ (7 = 5 → (msR ma le di2_129 0 (ma 0).toNat) = mnv) ∧ (7 = 6 → (msR ma le di2_129 0 (ma 0).toNat) = ((msS ma le 0 (ma 0).toNat).length : Int)) ∧ (7 = 8 → (msR ma le di2_129 0 (ma 0).toNat) = if 0 < ma 0 then mfi else -1) ∧ (7 = 9 → (msR ma le di2_129 0 (ma 0).toNat) = mwr) ∧ (7 = 7 → (msR ma le di2_129 0 (ma 0).toNat) = msR ma le di2_129 0 (ma 0).toNat ∧ ((0 < ma 0 → DS (fun (s e : Int) => le (prf ma s e).toNat) (ma 0) (ma 1 + ma 2) mfi di2_129) ∧ (¬ 0 < ma 0 → ∀ j : Nat, j < 16 → di2_129 j = -1))) ∧ (¬ (0 ≤ 7 ∧ 7 ≤ 9) → (msR ma le di2_129 0 (ma 0).toNat) = -1)) from ⟨congrArg iI hE2, fun z => absurd z (by decide), fun z => absurd z (by decide), fun z => absurd z (by decide), fun z => absurd z (by decide), fun z => absurd z (by decide), fun z => absurd z (by decide), fun z => absurd z (by decide), fun z => absurd z (by decide), fun z => absurd z (by decide), fun _ => ⟨rfl, hd_129⟩, fun z => absurd (show (0 : Int) ≤ 7 ∧ (7 : Int) ≤ 9 by decide) z⟩)
        ·
          have hdr := hg_129 s.toNat (by omega)
          refine z_iload_n C d_M_count_144 2 rfl ?_
          refine z_aload_n C d_M_count_145 0 rfl ?_
          refine z_get C f_M_46 d_M_count_146 0 rfl rfl ?_
          refine z_iload_n C d_M_count_149 3 rfl ?_
          refine z_iald C d_M_count_150 3 rfl (by omega) ?_
          refine z_if_lt (tgt := 162) C d_M_count_151 (by decide) (by omega) (fun c151 => ?_) (fun c151 => ?_)
          ·
            refine z_iconst C d_M_count_162 ?_
            refine z_iadd C d_M_count_163 ?_
            refine z_istore_n (lv' := [(2, .int (iI (n + 0))), (0, .ref aM), (1, .int (iI 7)), (3, .int (iI s))]) C d_M_count_164 (by decide) rfl ?_
            refine z_iinc (lv' := [(3, .int (iI (s + 1))), (2, .int (iI (n + 0))), (0, .ref aM), (1, .int (iI 7))]) C d_M_count_165 3 rfl (by decide) rfl ?_
            refine z_goto (tgt := 134) C d_M_count_168 (by decide) ?_
            refine z_lv [2, 3, 1, 0] (lv' := [(0, .ref aM), (1, .int (iI 7)), (2, .int (iI (n + 0))), (3, .int (iI (s + 1)))]) rfl ?_
            exact ih134 _ _ (by omega) (by rw [msR_step ma le di2_129 (by omega), if_pos (by omega)] at hE; omega) (by omega)
          ·
            refine z_aload_n C d_M_count_154 0 rfl ?_
            refine z_iload_n C d_M_count_155 3 rfl ?_
            refine z_calli (As := [.int (iI s)]) (rest := [.int (iI n)]) (wr := [iA G aDi 16 di2_129, iA G aOr 16 od2_129]) (ws' := fun u => [(aM, .inr (8, [.ref aWc, .int (iI 0), .int (iI msz), .ref aTx, .int (iI mwr), .ref aOu, .int (iI mfa), .int (iI mpl), .int (iI mle), .int (iI mna), .ref aSo, .ref aNf, .ref aNg, .ref aSr, .ref aNu, .ref aMa, .ref aNo, .int (iI mfi), .int (iI mru), .int (iI mnv), .ref aLe, .ref aAc, .ref aDi, .ref aOr, .int (iI mki), .int (iI mfr), .int (iI mto), .int (iI mwh)])), iA G aMa 3 ma, iA G aLe 384 le, iA G aDi 16 di2_129, iA G aOr 16 od2_129]) (q0 := 0) C k_M_233 kc_M_missingOf (fun l sz => m_M_missingOf l G sz aM aWc aTx aOu aSo aNf aNg aSr aNu aMa aNo aLe aAc aDi aOr 0 msz mwr mfa mpl mle mna mfi mru mnv mki mfr mto mwh ma le s (hct) (fun j => by have := hgl j; omega) (by omega)) rfl rfl (Nat.le_of_ble_eq_true rfl) (by decide) d_M_count_156 rfl rfl [0, 1, 2] [3, 4] [2, 3, 4, 0, 1] rfl rfl (by decide) (fun u => rfl) (fun r u h156 => ?_)
            obtain rfl := h156
            show Zc G X 4 0 0 [(aM, .inr (8, [.ref aWc, .int (iI 0), .int (iI msz), .ref aTx, .int (iI mwr), .ref aOu, .int (iI mfa), .int (iI mpl), .int (iI mle), .int (iI mna), .ref aSo, .ref aNf, .ref aNg, .ref aSr, .ref aNu, .ref aMa, .ref aNo, .int (iI mfi), .int (iI mru), .int (iI mnv), .ref aLe, .ref aAc, .ref aDi, .ref aOr, .int (iI mki), .int (iI mfr), .int (iI mto), .int (iI mwh)])), iA G aMa 3 ma, iA G aLe 384 le, iA G aDi 16 di2_129, iA G aOr 16 od2_129] [(0, .ref aM), (1, .int (iI 7)), (2, .int (iI n)), (3, .int (iI s))] 159 [.int (iI ((msE ma le s 0 (ma 1 + ma 2).toNat).length : Int)), .int (iI n)]
            refine z_goto (tgt := 163) C d_M_count_159 (by decide) ?_
            refine z_iadd C d_M_count_163 ?_
            refine z_istore_n (lv' := [(2, .int (iI (n + ((msE ma le s 0 (ma 1 + ma 2).toNat).length : Int)))), (0, .ref aM), (1, .int (iI 7)), (3, .int (iI s))]) C d_M_count_164 (by decide) rfl ?_
            refine z_iinc (lv' := [(3, .int (iI (s + 1))), (2, .int (iI (n + ((msE ma le s 0 (ma 1 + ma 2).toNat).length : Int)))), (0, .ref aM), (1, .int (iI 7))]) C d_M_count_165 3 rfl (by decide) rfl ?_
            refine z_goto (tgt := 134) C d_M_count_168 (by decide) ?_
            refine z_lv [2, 3, 1, 0] (lv' := [(0, .ref aM), (1, .int (iI 7)), (2, .int (iI (n + ((msE ma le s 0 (ma 1 + ma 2).toNat).length : Int)))), (3, .int (iI (s + 1)))]) rfl ?_
            exact ih134 _ _ (by omega) (by rw [msR_step ma le di2_129 (by omega), if_neg (by omega)] at hE; omega) (by omega)
    refine z_lv [2, 3, 1, 0] (lv' := [(0, .ref aM), (1, .int (iI 7)), (2, .int (iI 0)), (3, .int (iI 0))]) rfl ?_
    exact loop134 (_ + 1) _ _ (by omega) (by rw [Int.sub_zero, Int.zero_add]) (Nat.lt_succ_self _)
  ·
    skip
    refine z_iload_n C d_M_count_7 2 rfl ?_
    refine z_tableIn (tgt := 173) (off := 165) C d_M_count_8 (by decide) (by decide) (by decide) (by decide) ?_
    refine z_aload_n C d_M_count_173 1 rfl ?_
    refine z_get C f_M_34 d_M_count_174 0 rfl rfl ?_
    refine z_iconst C d_M_count_177 ?_
    refine z_iald C d_M_count_178 1 rfl (by omega) ?_
    refine z_topi (y := iI (ma 0)) (rfl) ?_
    refine z_if_le (tgt := 189) C d_M_count_179 (by decide) (by omega) (fun c179 => ?_) (fun c179 => ?_)
    ·
      refine z_iconst C d_M_count_189 ?_
      exact z_iret C K d_M_count_190 (rfl) (-1, di, od) (rfl) (show iI (-1) = iI (-1) ∧ ((8 = 0 → (-1) = msz) ∧ (8 = 1 → (-1) = ma 0) ∧ (8 = 2 → (-1) = ma 1) ∧ (8 = 3 → (-1) = ma 2) ∧ (8 = 4 → (-1) = mru) ∧ (8 = 5 → (-1) = mnv) ∧ (8 = 6 → (-1) = ((msS ma le 0 (ma 0).toNat).length : Int)) ∧ (8 = 8 → (-1) = if 0 < ma 0 then mfi else -1) ∧ (8 = 9 → (-1) = mwr) ∧ (8 = 7 → (-1) = msR ma le di 0 (ma 0).toNat ∧ ((0 < ma 0 → DS (fun (s e : Int) => le (prf ma s e).toNat) (ma 0) (ma 1 + ma 2) mfi di) ∧ (¬ 0 < ma 0 → ∀ j : Nat, j < 16 → di j = -1))) ∧ (¬ (0 ≤ 8 ∧ 8 ≤ 9) → (-1) = -1)) from ⟨rfl, fun z => absurd z (by decide), fun z => absurd z (by decide), fun z => absurd z (by decide), fun z => absurd z (by decide), fun z => absurd z (by decide), fun z => absurd z (by decide), fun z => absurd z (by decide), fun _ => by rw [if_neg (by omega)], fun z => absurd z (by decide), fun z => absurd z (by decide), fun z => absurd (show (0 : Int) ≤ 8 ∧ (8 : Int) ≤ 9 by decide) z⟩)
    ·
      refine z_aload_n C d_M_count_182 1 rfl ?_
      refine z_get C f_M_166 d_M_count_183 0 rfl rfl ?_
      refine z_goto (tgt := 190) C d_M_count_186 (by decide) ?_
      exact z_iret C K d_M_count_190 (rfl) (mfi, di, od) (rfl) (show iI mfi = iI mfi ∧ ((8 = 0 → mfi = msz) ∧ (8 = 1 → mfi = ma 0) ∧ (8 = 2 → mfi = ma 1) ∧ (8 = 3 → mfi = ma 2) ∧ (8 = 4 → mfi = mru) ∧ (8 = 5 → mfi = mnv) ∧ (8 = 6 → mfi = ((msS ma le 0 (ma 0).toNat).length : Int)) ∧ (8 = 8 → mfi = if 0 < ma 0 then mfi else -1) ∧ (8 = 9 → mfi = mwr) ∧ (8 = 7 → mfi = msR ma le di 0 (ma 0).toNat ∧ ((0 < ma 0 → DS (fun (s e : Int) => le (prf ma s e).toNat) (ma 0) (ma 1 + ma 2) mfi di) ∧ (¬ 0 < ma 0 → ∀ j : Nat, j < 16 → di j = -1))) ∧ (¬ (0 ≤ 8 ∧ 8 ≤ 9) → mfi = -1)) from ⟨rfl, fun z => absurd z (by decide), fun z => absurd z (by decide), fun z => absurd z (by decide), fun z => absurd z (by decide), fun z => absurd z (by decide), fun z => absurd z (by decide), fun z => absurd z (by decide), fun _ => by rw [if_pos (by omega)], fun z => absurd z (by decide), fun z => absurd z (by decide), fun z => absurd (show (0 : Int) ≤ 8 ∧ (8 : Int) ≤ 9 by decide) z⟩)
  ·
    skip
    refine z_iload_n C d_M_count_7 2 rfl ?_
    refine z_tableIn (tgt := 191) (off := 183) C d_M_count_8 (by decide) (by decide) (by decide) (by decide) ?_
    refine z_aload_n C d_M_count_191 1 rfl ?_
    refine z_get C f_M_191 d_M_count_192 0 rfl rfl ?_
    exact z_iret C K d_M_count_195 (rfl) (mwr, di, od) (rfl) (show iI mwr = iI mwr ∧ ((9 = 0 → mwr = msz) ∧ (9 = 1 → mwr = ma 0) ∧ (9 = 2 → mwr = ma 1) ∧ (9 = 3 → mwr = ma 2) ∧ (9 = 4 → mwr = mru) ∧ (9 = 5 → mwr = mnv) ∧ (9 = 6 → mwr = ((msS ma le 0 (ma 0).toNat).length : Int)) ∧ (9 = 8 → mwr = if 0 < ma 0 then mfi else -1) ∧ (9 = 9 → mwr = mwr) ∧ (9 = 7 → mwr = msR ma le di 0 (ma 0).toNat ∧ ((0 < ma 0 → DS (fun (s e : Int) => le (prf ma s e).toNat) (ma 0) (ma 1 + ma 2) mfi di) ∧ (¬ 0 < ma 0 → ∀ j : Nat, j < 16 → di j = -1))) ∧ (¬ (0 ≤ 9 ∧ 9 ≤ 9) → mwr = -1)) from ⟨rfl, fun z => absurd z (by decide), fun z => absurd z (by decide), fun z => absurd z (by decide), fun z => absurd z (by decide), fun z => absurd z (by decide), fun z => absurd z (by decide), fun z => absurd z (by decide), fun z => absurd z (by decide), fun _ => rfl, fun z => absurd z (by decide), fun z => absurd (show (0 : Int) ≤ 9 ∧ (9 : Int) ≤ 9 by decide) z⟩)
  ·
    skip
    refine z_iload_n C d_M_count_7 2 rfl ?_
    refine z_tableOut (tgt := 196) C d_M_count_8 (by rw [iI_toInt (by omega)]; omega) (by decide) ?_
    refine z_iconst C d_M_count_196 ?_
    exact z_iret C K d_M_count_197 (rfl) (-1, di, od) (rfl) (show iI (-1) = iI (-1) ∧ ((w = 0 → (-1) = msz) ∧ (w = 1 → (-1) = ma 0) ∧ (w = 2 → (-1) = ma 1) ∧ (w = 3 → (-1) = ma 2) ∧ (w = 4 → (-1) = mru) ∧ (w = 5 → (-1) = mnv) ∧ (w = 6 → (-1) = ((msS ma le 0 (ma 0).toNat).length : Int)) ∧ (w = 8 → (-1) = if 0 < ma 0 then mfi else -1) ∧ (w = 9 → (-1) = mwr) ∧ (w = 7 → (-1) = msR ma le di 0 (ma 0).toNat ∧ ((0 < ma 0 → DS (fun (s e : Int) => le (prf ma s e).toNat) (ma 0) (ma 1 + ma 2) mfi di) ∧ (¬ 0 < ma 0 → ∀ j : Nat, j < 16 → di j = -1))) ∧ (¬ (0 ≤ w ∧ w ≤ 9) → (-1) = -1)) from ⟨rfl, fun z => absurd (show 0 ≤ w ∧ w ≤ 9 by omega) hw, fun z => absurd (show 0 ≤ w ∧ w ≤ 9 by omega) hw, fun z => absurd (show 0 ≤ w ∧ w ≤ 9 by omega) hw, fun z => absurd (show 0 ≤ w ∧ w ≤ 9 by omega) hw, fun z => absurd (show 0 ≤ w ∧ w ≤ 9 by omega) hw, fun z => absurd (show 0 ≤ w ∧ w ≤ 9 by omega) hw, fun z => absurd (show 0 ≤ w ∧ w ≤ 9 by omega) hw, fun z => absurd (show 0 ≤ w ∧ w ≤ 9 by omega) hw, fun z => absurd (show 0 ≤ w ∧ w ≤ 9 by omega) hw, fun z => absurd (show 0 ≤ w ∧ w ≤ 9 by omega) hw, fun _ => rfl⟩)
