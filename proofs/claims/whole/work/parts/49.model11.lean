set_option maxHeartbeats 4000000 in
set_option maxRecDepth 100000 in
theorem m_M_sayWord (l : Launch) (G : GG) (sz : Nat) (aM : Nat) (aWc : Nat) (aTx : Nat) (aOu : Nat) (aSo : Nat) (aNf : Nat) (aNg : Nat) (aSr : Nat) (aNu : Nat) (aMa : Nat) (aNo : Nat) (aLe : Nat) (aAc : Nat) (aDi : Nat) (aOr : Nat) (mth : Int) (msz : Int) (mwr : Int) (mfa : Int) (mpl : Int) (mle : Int) (mna : Int) (mfi : Int) (mru : Int) (mnv : Int) (mki : Int) (mfr : Int) (mto : Int) (mwh : Int) (ou : Nat → Int) (w : Int) (h1 : 0 ≤ w ∧ w < 9) (hpl : 0 ≤ mwr ∧ mwr + ((wtZ w).length : Int) ≤ 8192) : MetV l G sz y_M_sayWord c_M_sayWord 4 ({ frames := 1, cells := 0, slots := 0, locals := 21 } : Room) [.ref aM, .int (iI w)] [(aM, .inr (8, [.ref aWc, .int (iI mth), .int (iI msz), .ref aTx, .int (iI mwr), .ref aOu, .int (iI mfa), .int (iI mpl), .int (iI mle), .int (iI mna), .ref aSo, .ref aNf, .ref aNg, .ref aSr, .ref aNu, .ref aMa, .ref aNo, .int (iI mfi), .int (iI mru), .int (iI mnv), .ref aLe, .ref aAc, .ref aDi, .ref aOr, .int (iI mki), .int (iI mfr), .int (iI mto), .int (iI mwh)])), iA G aOu 8192 ou, iA G aWc 48 wch] (fun (u : Unit) => True) (fun (u : Unit) => [(aM, .inr (8, [.ref aWc, .int (iI mth), .int (iI msz), .ref aTx, .int (iI (mwr + ((wtZ w).length : Int))), .ref aOu, .int (iI mfa), .int (iI mpl), .int (iI mle), .int (iI mna), .ref aSo, .ref aNf, .ref aNg, .ref aSr, .ref aNu, .ref aMa, .ref aNo, .int (iI mfi), .int (iI mru), .int (iI mnv), .ref aLe, .ref aAc, .ref aDi, .ref aOr, .int (iI mki), .int (iI mfr), .int (iI mto), .int (iI mwh)])), iA G aOu 8192 (wI ou mwr (wtZ w)), iA G aWc 48 wch]) := by
  refine MetV.mk (by decide) (Nat.le_of_ble_eq_true rfl) (fun X C K => ?_)
  show Zc G X 4 0 0 [(aM, .inr (8, [.ref aWc, .int (iI mth), .int (iI msz), .ref aTx, .int (iI mwr), .ref aOu, .int (iI mfa), .int (iI mpl), .int (iI mle), .int (iI mna), .ref aSo, .ref aNf, .ref aNg, .ref aSr, .ref aNu, .ref aMa, .ref aNo, .int (iI mfi), .int (iI mru), .int (iI mnv), .ref aLe, .ref aAc, .ref aDi, .ref aOr, .int (iI mki), .int (iI mfr), .int (iI mto), .int (iI mwh)])), iA G aOu 8192 ou, iA G aWc 48 wch] [(0, .ref aM), (1, .int (iI w))] 0 []
  have hw0 := wst_0 w.toNat (by omega)
  refine z_iconst C d_M_sayWord_0 ?_
  refine z_istore_n (lv' := [(2, .int (iI 0)), (0, .ref aM), (1, .int (iI w))]) C d_M_sayWord_1 (by decide) rfl ?_
  refine z_iconst C d_M_sayWord_2 ?_
  refine z_istore_n (lv' := [(3, .int (iI 0)), (2, .int (iI 0)), (0, .ref aM), (1, .int (iI w))]) C d_M_sayWord_3 (by decide) rfl ?_
  have loop4 : ∀ (kq : Nat) (k : Int) (a : Int), (0 ≤ k ∧ k ≤ w) → (a = wst k.toNat) → ((w - k).toNat < kq) → Zc G X 4 0 0 [(aM, .inr (8, [.ref aWc, .int (iI mth), .int (iI msz), .ref aTx, .int (iI mwr), .ref aOu, .int (iI mfa), .int (iI mpl), .int (iI mle), .int (iI mna), .ref aSo, .ref aNf, .ref aNg, .ref aSr, .ref aNu, .ref aMa, .ref aNo, .int (iI mfi), .int (iI mru), .int (iI mnv), .ref aLe, .ref aAc, .ref aDi, .ref aOr, .int (iI mki), .int (iI mfr), .int (iI mto), .int (iI mwh)])), iA G aOu 8192 ou, iA G aWc 48 wch] [(0, .ref aM), (1, .int (iI w)), (2, .int (iI a)), (3, .int (iI k))] 4 [] := by
    intro kq
    induction kq with
    | zero => intro k a hk ha hm; exact absurd hm (Nat.not_lt_zero _)
    | succ kq ih4 =>
      intro k a hk ha hm
      have hwk := wst_0 k.toNat (by omega)
      -- loop body
      refine z_iload_n C d_M_sayWord_4 3 rfl ?_
      refine z_iload_n C d_M_sayWord_5 1 rfl ?_
      refine z_icmp_ge (tgt := 33) C d_M_sayWord_6 (by decide) (by omega) (by omega) (fun c6 => ?_) (fun c6 => ?_)
      ·
        have ha2 : a = wst w.toNat := by rw [ha, show k = w by omega]
        refine z_iload_n C d_M_sayWord_33 2 rfl ?_
        refine z_istore_n (lv' := [(3, .int (iI a)), (0, .ref aM), (1, .int (iI w)), (2, .int (iI a))]) C d_M_sayWord_34 (by decide) rfl ?_
        have loop35 : ∀ (kq : Nat) (k3 : Int) (q : Int) (E : Nat → Int), (wst w.toNat ≤ k3 ∧ k3 ≤ wst w.toNat + wle w.toNat ∧ 0 ≤ q) → (wI E q (seg wch k3.toNat (wst w.toNat + wle w.toNat - k3).toNat) = wI ou mwr (wtZ w) ∧ q + ((seg wch k3.toNat (wst w.toNat + wle w.toNat - k3).toNat).length : Int) = mwr + ((wtZ w).length : Int)) → ((wst w.toNat + wle w.toNat - k3).toNat < kq) → Zc G X 4 0 0 [(aM, .inr (8, [.ref aWc, .int (iI mth), .int (iI msz), .ref aTx, .int (iI q), .ref aOu, .int (iI mfa), .int (iI mpl), .int (iI mle), .int (iI mna), .ref aSo, .ref aNf, .ref aNg, .ref aSr, .ref aNu, .ref aMa, .ref aNo, .int (iI mfi), .int (iI mru), .int (iI mnv), .ref aLe, .ref aAc, .ref aDi, .ref aOr, .int (iI mki), .int (iI mfr), .int (iI mto), .int (iI mwh)])), iA G aOu 8192 E, iA G aWc 48 wch] [(0, .ref aM), (1, .int (iI w)), (3, .int (iI k3))] 35 [] := by
          intro kq
          induction kq with
          | zero => intro k3 q E hj hE hm; exact absurd hm (Nat.not_lt_zero _)
          | succ kq ih35 =>
            intro k3 q E hj hE hm
            have hwb := wch_rg k3.toNat
            -- loop body
            refine z_aload_n C d_M_sayWord_35 0 rfl ?_
            refine z_get C f_M_7 d_M_sayWord_36 0 rfl rfl ?_
            refine z_iload_n C d_M_sayWord_39 2 rfl ?_
            refine z_iald C d_M_sayWord_40 2 rfl (by omega) ?_
            refine z_if_eq (tgt := 60) C d_M_sayWord_41 (by decide) (by omega) (fun c41 => ?_) (fun c41 => ?_)
            ·
              have hlt := wst_eq (w := w.toNat) (by omega) rfl (k := k3 - wst w.toNat) (by omega) (by rw [show wst w.toNat + (k3 - wst w.toNat) = k3 by omega]; omega)
              rw [show (wst w.toNat + wle w.toNat - k3).toNat = 0 by omega] at hE
              exact z_vret C K d_M_sayWord_60 () (by rw [(qg_end hE).1, (qg_end hE).2]) (trivial)
            ·
              have hlt := wst_lt (w := w.toNat) (by omega) rfl (k := k3 - wst w.toNat) (by omega) (by rw [show wst w.toNat + (k3 - wst w.toNat) = k3 by omega]; exact c41)
              rw [seg_step wch (by omega) (by omega)] at hE
              have hp0 : wI E q ([wch k3.toNat] ++ seg wch (k3 + 1).toNat (wst w.toNat + wle w.toNat - k3 - 1).toNat) = wI ou mwr (wtZ w) ∧ q + (([wch k3.toNat] ++ seg wch (k3 + 1).toNat (wst w.toNat + wle w.toNat - k3 - 1).toNat).length : Int) = mwr + ((wtZ w).length : Int) := hE
              refine z_aload_n C d_M_sayWord_44 0 rfl ?_
              refine z_aload_n C d_M_sayWord_45 0 rfl ?_
              refine z_get C f_M_7 d_M_sayWord_46 0 rfl rfl ?_
              refine z_iload_n C d_M_sayWord_49 2 rfl ?_
              refine z_iald C d_M_sayWord_50 2 rfl (by omega) ?_
              refine z_callv (As := [.int (iI (wch k3.toNat))]) (rest := []) (wr := [iA G aWc 48 wch]) (ws' := fun u => [(aM, .inr (8, [.ref aWc, .int (iI mth), .int (iI msz), .ref aTx, .int (iI (q + 1)), .ref aOu, .int (iI mfa), .int (iI mpl), .int (iI mle), .int (iI mna), .ref aSo, .ref aNf, .ref aNg, .ref aSr, .ref aNu, .ref aMa, .ref aNo, .int (iI mfi), .int (iI mru), .int (iI mnv), .ref aLe, .ref aAc, .ref aDi, .ref aOr, .int (iI mki), .int (iI mfr), .int (iI mto), .int (iI mwh)])), iA G aOu 8192 (wI E q [(wch k3.toNat)]), iA G aWc 48 wch]) (q0 := 0) C k_M_194 kc_M_say (fun l sz => m_M_say l G sz aM aWc aTx aOu aSo aNf aNg aSr aNu aMa aNo aLe aAc aDi aOr mth msz q mfa mpl mle mna mfi mru mnv mki mfr mto mwh E (wch k3.toNat) (by have h9 := qg_fit1 hp0; omega)) rfl rfl (Nat.le_of_ble_eq_true rfl) (by decide) d_M_sayWord_51 rfl rfl [0, 1] [2] [1, 2, 0] rfl rfl (by decide) (fun u => rfl) (fun u h51 => ?_)
              show Zc G X 4 0 0 [(aM, .inr (8, [.ref aWc, .int (iI mth), .int (iI msz), .ref aTx, .int (iI (q + 1)), .ref aOu, .int (iI mfa), .int (iI mpl), .int (iI mle), .int (iI mna), .ref aSo, .ref aNf, .ref aNg, .ref aSr, .ref aNu, .ref aMa, .ref aNo, .int (iI mfi), .int (iI mru), .int (iI mnv), .ref aLe, .ref aAc, .ref aDi, .ref aOr, .int (iI mki), .int (iI mfr), .int (iI mto), .int (iI mwh)])), iA G aOu 8192 (wI E q [(wch k3.toNat)]), iA G aWc 48 wch] [(0, .ref aM), (1, .int (iI w)), (3, .int (iI k3))] 54 []
              have hp1 : wI (wI E q [(wch k3.toNat)]) (q + 1) (seg wch (k3 + 1).toNat (wst w.toNat + wle w.toNat - k3 - 1).toNat) = wI ou mwr (wtZ w) ∧ (q + 1) + ((seg wch (k3 + 1).toNat (wst w.toNat + wle w.toNat - k3 - 1).toNat).length : Int) = mwr + ((wtZ w).length : Int) := qg_next hp0
              have hg1 : 0 ≤ q + 1 := by omega
              generalize wI E q [(wch k3.toNat)] = E1 at hp1 ⊢
              generalize q + 1 = q1 at hp1 hg1 ⊢
              refine z_iinc (lv' := [(3, .int (iI (k3 + 1))), (0, .ref aM), (1, .int (iI w))]) C d_M_sayWord_54 2 rfl (by decide) rfl ?_
              refine z_goto (tgt := 35) C d_M_sayWord_57 (by decide) ?_
              refine z_lv [1, 2, 0] (lv' := [(0, .ref aM), (1, .int (iI w)), (3, .int (iI (k3 + 1)))]) rfl ?_
              exact ih35 _ _ _ (by omega) (by rw [show wst w.toNat + wle w.toNat - (k3 + 1) = wst w.toNat + wle w.toNat - k3 - 1 by omega]; exact hp1) (by omega)
        refine z_lv [1, 2, 0] (lv' := [(0, .ref aM), (1, .int (iI w)), (3, .int (iI a))]) rfl ?_
        exact loop35 (_ + 1) _ _ _ (by omega) (by rw [ha2, ← wtZ_seg h1]; exact ⟨rfl, rfl⟩) (Nat.lt_succ_self _)
      ·
        have loop9 : ∀ (kq : Nat) (b : Int), (a ≤ b ∧ b ≤ a + wle k.toNat) → ((a + wle k.toNat - b).toNat < kq) → Zc G X 4 0 0 [(aM, .inr (8, [.ref aWc, .int (iI mth), .int (iI msz), .ref aTx, .int (iI mwr), .ref aOu, .int (iI mfa), .int (iI mpl), .int (iI mle), .int (iI mna), .ref aSo, .ref aNf, .ref aNg, .ref aSr, .ref aNu, .ref aMa, .ref aNo, .int (iI mfi), .int (iI mru), .int (iI mnv), .ref aLe, .ref aAc, .ref aDi, .ref aOr, .int (iI mki), .int (iI mfr), .int (iI mto), .int (iI mwh)])), iA G aOu 8192 ou, iA G aWc 48 wch] [(0, .ref aM), (1, .int (iI w)), (2, .int (iI b)), (3, .int (iI k))] 9 [] := by
          intro kq
          induction kq with
          | zero => intro b hb hm; exact absurd hm (Nat.not_lt_zero _)
          | succ kq ih9 =>
            intro b hb hm
            have hwb := wch_rg b.toNat
            -- loop body
            refine z_aload_n C d_M_sayWord_9 0 rfl ?_
            refine z_get C f_M_7 d_M_sayWord_10 0 rfl rfl ?_
            refine z_iload_n C d_M_sayWord_13 2 rfl ?_
            refine z_iald C d_M_sayWord_14 2 rfl (by omega) ?_
            refine z_if_eq (tgt := 24) C d_M_sayWord_15 (by decide) (by omega) (fun c15 => ?_) (fun c15 => ?_)
            ·
              have hlt := wst_eq (w := k.toNat) (by omega) ha (k := b - a) (by omega) (by rw [show a + (b - a) = b by omega]; omega)
              refine z_iinc (lv' := [(2, .int (iI (b + 1))), (0, .ref aM), (1, .int (iI w)), (3, .int (iI k))]) C d_M_sayWord_24 2 rfl (by decide) rfl ?_
              refine z_iinc (lv' := [(3, .int (iI (k + 1))), (2, .int (iI (b + 1))), (0, .ref aM), (1, .int (iI w))]) C d_M_sayWord_27 3 rfl (by decide) rfl ?_
              refine z_goto (tgt := 4) C d_M_sayWord_30 (by decide) ?_
              refine z_lv [2, 3, 1, 0] (lv' := [(0, .ref aM), (1, .int (iI w)), (2, .int (iI (b + 1))), (3, .int (iI (k + 1)))]) rfl ?_
              exact ih4 (k + 1) _ (by omega) (by rw [show (k + 1).toNat = k.toNat + 1 by omega, hwk.2.2.2.1]; omega) (by omega)
            ·
              have hlt := wst_lt (w := k.toNat) (by omega) ha (k := b - a) (by omega) (by rw [show a + (b - a) = b by omega]; exact c15)
              refine z_iinc (lv' := [(2, .int (iI (b + 1))), (0, .ref aM), (1, .int (iI w)), (3, .int (iI k))]) C d_M_sayWord_18 2 rfl (by decide) rfl ?_
              refine z_goto (tgt := 9) C d_M_sayWord_21 (by decide) ?_
              refine z_lv [1, 2, 0, 3] (lv' := [(0, .ref aM), (1, .int (iI w)), (2, .int (iI (b + 1))), (3, .int (iI k))]) rfl ?_
              exact ih9 _ (by omega) (by omega)
        refine z_lv [0, 1, 2, 3] (lv' := [(0, .ref aM), (1, .int (iI w)), (2, .int (iI a)), (3, .int (iI k))]) rfl ?_
        exact loop9 (_ + 1) _ (by omega) (Nat.lt_succ_self _)
  refine z_lv [2, 3, 1, 0] (lv' := [(0, .ref aM), (1, .int (iI w)), (2, .int (iI 0)), (3, .int (iI 0))]) rfl ?_
  exact loop4 (_ + 1) _ _ (by omega) (rfl) (Nat.lt_succ_self _)
set_option maxHeartbeats 4000000 in
set_option maxRecDepth 100000 in
theorem m_M_sayName (l : Launch) (G : GG) (sz : Nat) (aM : Nat) (aWc : Nat) (aTx : Nat) (aOu : Nat) (aSo : Nat) (aNf : Nat) (aNg : Nat) (aSr : Nat) (aNu : Nat) (aMa : Nat) (aNo : Nat) (aLe : Nat) (aAc : Nat) (aDi : Nat) (aOr : Nat) (mth : Int) (msz : Int) (mwr : Int) (mfa : Int) (mpl : Int) (mle : Int) (mna : Int) (mfi : Int) (mru : Int) (mnv : Int) (mki : Int) (mfr : Int) (mto : Int) (mwh : Int) (ou : Nat → Int) (sF : Nat → Int) (nf : Nat → Int) (ng : Nat → Int) (no : Nat → Int) (ma : Nat → Int) (nm : Int → List Int) (s : Int) (n : Int) (sl : Int) (hnm : NmM sF nf ng no ma nm) (hct : cnt ma) (hs : s = 0 ∨ s = 1 ∨ s = 2) (hnn : 0 ≤ n ∧ n < maZ ma s) (hsl : sl = bas s + n) (hpl : 0 ≤ mwr ∧ mwr + ((nm sl).length : Int) ≤ 8192) : MetI l G sz y_M_sayName c_M_sayName 5 (some .int) ({ frames := 1, cells := 0, slots := 0, locals := 21 } : Room) [.ref aM, .int (iI s), .int (iI n)] [(aM, .inr (8, [.ref aWc, .int (iI mth), .int (iI msz), .ref aTx, .int (iI mwr), .ref aOu, .int (iI mfa), .int (iI mpl), .int (iI mle), .int (iI mna), .ref aSo, .ref aNf, .ref aNg, .ref aSr, .ref aNu, .ref aMa, .ref aNo, .int (iI mfi), .int (iI mru), .int (iI mnv), .ref aLe, .ref aAc, .ref aDi, .ref aOr, .int (iI mki), .int (iI mfr), .int (iI mto), .int (iI mwh)])), iA G aOu 8192 ou, iA G aNo 48 no, iA G aNf 40 nf, iA G aNg 40 ng, iA G aSo 4200 sF] (fun (r : Int32) (u : Unit) => r = iI ((nm sl).length : Int)) (fun (u : Unit) => [(aM, .inr (8, [.ref aWc, .int (iI mth), .int (iI msz), .ref aTx, .int (iI (mwr + ((nm sl).length : Int))), .ref aOu, .int (iI mfa), .int (iI mpl), .int (iI mle), .int (iI mna), .ref aSo, .ref aNf, .ref aNg, .ref aSr, .ref aNu, .ref aMa, .ref aNo, .int (iI mfi), .int (iI mru), .int (iI mnv), .ref aLe, .ref aAc, .ref aDi, .ref aOr, .int (iI mki), .int (iI mfr), .int (iI mto), .int (iI mwh)])), iA G aOu 8192 (wI ou mwr (nm sl)), iA G aNo 48 no, iA G aNf 40 nf, iA G aNg 40 ng, iA G aSo 4200 sF]) := by
  refine MetI.mk (by decide) (Nat.le_of_ble_eq_true rfl) (fun X C K => ?_)
  show Zc G X 5 0 0 [(aM, .inr (8, [.ref aWc, .int (iI mth), .int (iI msz), .ref aTx, .int (iI mwr), .ref aOu, .int (iI mfa), .int (iI mpl), .int (iI mle), .int (iI mna), .ref aSo, .ref aNf, .ref aNg, .ref aSr, .ref aNu, .ref aMa, .ref aNo, .int (iI mfi), .int (iI mru), .int (iI mnv), .ref aLe, .ref aAc, .ref aDi, .ref aOr, .int (iI mki), .int (iI mfr), .int (iI mto), .int (iI mwh)])), iA G aOu 8192 ou, iA G aNo 48 no, iA G aNf 40 nf, iA G aNg 40 ng, iA G aSo 4200 sF] [(0, .ref aM), (1, .int (iI s)), (2, .int (iI n))] 0 []
  have hmz := maZ_rg hct hs
  obtain ⟨g1, g2, g3, g4, g5, g6, g7⟩ := hnm s n hs hnn
  have hln := NmM_len hnm hs hnn hsl
  rw [← hsl] at g7
  refine z_aload_n C d_M_sayName_0 0 rfl ?_
  refine z_get C f_M_37 d_M_sayName_1 0 rfl rfl ?_
  refine z_bipush C d_M_sayName_4 (by decide) ?_
  refine z_iload_n C d_M_sayName_6 1 rfl ?_
  refine z_imul C d_M_sayName_7 ?_
  refine z_iload_n C d_M_sayName_8 2 rfl ?_
  refine z_iadd C d_M_sayName_9 ?_
  refine z_iald C d_M_sayName_10 2 rfl (by omega) ?_
  refine z_istore_n (lv' := [(3, .int (iI (no (((16 * s) + n).toNat)))), (0, .ref aM), (1, .int (iI s)), (2, .int (iI n))]) C d_M_sayName_11 (by decide) rfl ?_
  refine z_aload_n C d_M_sayName_12 1 rfl ?_
  refine z_get C f_M_22 d_M_sayName_13 0 rfl rfl ?_
  refine z_iload_n C d_M_sayName_16 0 rfl ?_
  refine z_iald C d_M_sayName_17 3 rfl (by omega) ?_
  refine z_istore (lv' := [(4, .int (iI (nf ((no (((16 * s) + n).toNat)).toNat)))), (3, .int (iI (no (((16 * s) + n).toNat)))), (0, .ref aM), (1, .int (iI s)), (2, .int (iI n))]) C d_M_sayName_18 (by decide) rfl ?_
  have loop20 : ∀ (kq : Nat) (k : Int) (q : Int) (E : Nat → Int), (nf (no (16 * s + n).toNat).toNat ≤ k ∧ k ≤ ng (no (16 * s + n).toNat).toNat ∧ 0 ≤ q) → (wI E q (seg sF k.toNat (ng (no (16 * s + n).toNat).toNat - k).toNat) = wI ou mwr (nm sl) ∧ q + ((seg sF k.toNat (ng (no (16 * s + n).toNat).toNat - k).toNat).length : Int) = mwr + ((nm sl).length : Int)) → ((ng (no (16 * s + n).toNat).toNat - k).toNat < kq) → Zc G X 5 0 0 [(aM, .inr (8, [.ref aWc, .int (iI mth), .int (iI msz), .ref aTx, .int (iI q), .ref aOu, .int (iI mfa), .int (iI mpl), .int (iI mle), .int (iI mna), .ref aSo, .ref aNf, .ref aNg, .ref aSr, .ref aNu, .ref aMa, .ref aNo, .int (iI mfi), .int (iI mru), .int (iI mnv), .ref aLe, .ref aAc, .ref aDi, .ref aOr, .int (iI mki), .int (iI mfr), .int (iI mto), .int (iI mwh)])), iA G aOu 8192 E, iA G aNo 48 no, iA G aNf 40 nf, iA G aNg 40 ng, iA G aSo 4200 sF] [(0, .ref aM), (1, .int (iI s)), (2, .int (iI n)), (3, .int (iI (no (((16 * s) + n).toNat)))), (4, .int (iI k))] 20 [] := by
    intro kq
    induction kq with
    | zero => intro k q E hk hE hm; exact absurd hm (Nat.not_lt_zero _)
    | succ kq ih20 =>
      intro k q E hk hE hm
      -- loop body
      refine z_iload C d_M_sayName_20 4 rfl ?_
      refine z_aload_n C d_M_sayName_22 0 rfl ?_
      refine z_get C f_M_25 d_M_sayName_23 0 rfl rfl ?_
      refine z_iload_n C d_M_sayName_26 3 rfl ?_
      refine z_iald C d_M_sayName_27 4 rfl (by omega) ?_
      refine z_icmp_ge (tgt := 48) C d_M_sayName_28 (by decide) (by omega) (by omega) (fun c28 => ?_) (fun c28 => ?_)
      ·
        rw [show (ng (no (16 * s + n).toNat).toNat - k).toNat = 0 by omega] at hE
        refine z_aload_n C d_M_sayName_48 0 rfl ?_
        refine z_get C f_M_25 d_M_sayName_49 0 rfl rfl ?_
        refine z_iload_n C d_M_sayName_52 3 rfl ?_
        refine z_iald C d_M_sayName_53 4 rfl (by omega) ?_
        refine z_aload_n C d_M_sayName_54 0 rfl ?_
        refine z_get C f_M_22 d_M_sayName_55 0 rfl rfl ?_
        refine z_iload_n C d_M_sayName_58 3 rfl ?_
        refine z_iald C d_M_sayName_59 3 rfl (by omega) ?_
        refine z_isub C d_M_sayName_60 ?_
        exact z_iret C K d_M_sayName_61 (rfl) () (by rw [(qg_end hE).1, (qg_end hE).2]) (congrArg iI hln.1.symm)
      ·
        rw [seg_step sF (by omega) (by omega)] at hE
        have hp0 : wI E q ([sF k.toNat] ++ seg sF (k + 1).toNat (ng (no (16 * s + n).toNat).toNat - k - 1).toNat) = wI ou mwr (nm sl) ∧ q + (([sF k.toNat] ++ seg sF (k + 1).toNat (ng (no (16 * s + n).toNat).toNat - k - 1).toNat).length : Int) = mwr + ((nm sl).length : Int) := hE
        refine z_aload_n C d_M_sayName_31 0 rfl ?_
        refine z_aload_n C d_M_sayName_32 0 rfl ?_
        refine z_get C f_M_19 d_M_sayName_33 0 rfl rfl ?_
        refine z_iload C d_M_sayName_36 4 rfl ?_
        refine z_iald C d_M_sayName_38 5 rfl (by omega) ?_
        refine z_callv (As := [.int (iI (sF k.toNat))]) (rest := []) (wr := [iA G aNo 48 no, iA G aNf 40 nf, iA G aNg 40 ng, iA G aSo 4200 sF]) (ws' := fun u => [(aM, .inr (8, [.ref aWc, .int (iI mth), .int (iI msz), .ref aTx, .int (iI (q + 1)), .ref aOu, .int (iI mfa), .int (iI mpl), .int (iI mle), .int (iI mna), .ref aSo, .ref aNf, .ref aNg, .ref aSr, .ref aNu, .ref aMa, .ref aNo, .int (iI mfi), .int (iI mru), .int (iI mnv), .ref aLe, .ref aAc, .ref aDi, .ref aOr, .int (iI mki), .int (iI mfr), .int (iI mto), .int (iI mwh)])), iA G aOu 8192 (wI E q [(sF k.toNat)]), iA G aNo 48 no, iA G aNf 40 nf, iA G aNg 40 ng, iA G aSo 4200 sF]) (q0 := 0) C k_M_194 kc_M_say (fun l sz => m_M_say l G sz aM aWc aTx aOu aSo aNf aNg aSr aNu aMa aNo aLe aAc aDi aOr mth msz q mfa mpl mle mna mfi mru mnv mki mfr mto mwh E (sF k.toNat) (by have h9 := qg_fit1 hp0; omega)) rfl rfl (Nat.le_of_ble_eq_true rfl) (by decide) d_M_sayName_39 rfl rfl [0, 1] [2, 3, 4, 5] [4, 5, 0, 1, 2, 3] rfl rfl (by decide) (fun u => rfl) (fun u h39 => ?_)
        show Zc G X 5 0 0 [(aM, .inr (8, [.ref aWc, .int (iI mth), .int (iI msz), .ref aTx, .int (iI (q + 1)), .ref aOu, .int (iI mfa), .int (iI mpl), .int (iI mle), .int (iI mna), .ref aSo, .ref aNf, .ref aNg, .ref aSr, .ref aNu, .ref aMa, .ref aNo, .int (iI mfi), .int (iI mru), .int (iI mnv), .ref aLe, .ref aAc, .ref aDi, .ref aOr, .int (iI mki), .int (iI mfr), .int (iI mto), .int (iI mwh)])), iA G aOu 8192 (wI E q [(sF k.toNat)]), iA G aNo 48 no, iA G aNf 40 nf, iA G aNg 40 ng, iA G aSo 4200 sF] [(0, .ref aM), (1, .int (iI s)), (2, .int (iI n)), (3, .int (iI (no (((16 * s) + n).toNat)))), (4, .int (iI k))] 42 []
        have hp1 : wI (wI E q [(sF k.toNat)]) (q + 1) (seg sF (k + 1).toNat (ng (no (16 * s + n).toNat).toNat - k - 1).toNat) = wI ou mwr (nm sl) ∧ (q + 1) + ((seg sF (k + 1).toNat (ng (no (16 * s + n).toNat).toNat - k - 1).toNat).length : Int) = mwr + ((nm sl).length : Int) := qg_next hp0
        have hg1 : 0 ≤ q + 1 := by omega
        generalize wI E q [(sF k.toNat)] = E1 at hp1 ⊢
        generalize q + 1 = q1 at hp1 hg1 ⊢
        refine z_iinc (lv' := [(4, .int (iI (k + 1))), (0, .ref aM), (1, .int (iI s)), (2, .int (iI n)), (3, .int (iI (no (((16 * s) + n).toNat))))]) C d_M_sayName_42 4 rfl (by decide) rfl ?_
        refine z_goto (tgt := 20) C d_M_sayName_45 (by decide) ?_
        refine z_lv [1, 2, 3, 4, 0] (lv' := [(0, .ref aM), (1, .int (iI s)), (2, .int (iI n)), (3, .int (iI (no (((16 * s) + n).toNat)))), (4, .int (iI (k + 1)))]) rfl ?_
        exact ih20 _ _ _ (by omega) (by rw [show ng (no (16 * s + n).toNat).toNat - (k + 1) = ng (no (16 * s + n).toNat).toNat - k - 1 by omega]; exact hp1) (by omega)
  refine z_lv [2, 3, 4, 1, 0] (lv' := [(0, .ref aM), (1, .int (iI s)), (2, .int (iI n)), (3, .int (iI (no (((16 * s) + n).toNat)))), (4, .int (iI (nf ((no (((16 * s) + n).toNat)).toNat))))]) rfl ?_
  exact loop20 (_ + 1) _ _ _ (by omega) (by rw [g7]; exact ⟨rfl, rfl⟩) (Nat.lt_succ_self _)
set_option maxHeartbeats 4000000 in
set_option maxRecDepth 100000 in
theorem m_M_lengthOf (l : Launch) (G : GG) (sz : Nat) (aM : Nat) (aWc : Nat) (aTx : Nat) (aOu : Nat) (aSo : Nat) (aNf : Nat) (aNg : Nat) (aSr : Nat) (aNu : Nat) (aMa : Nat) (aNo : Nat) (aLe : Nat) (aAc : Nat) (aDi : Nat) (aOr : Nat) (mth : Int) (msz : Int) (mwr : Int) (mfa : Int) (mpl : Int) (mle : Int) (mna : Int) (mfi : Int) (mru : Int) (mnv : Int) (mki : Int) (mfr : Int) (mto : Int) (mwh : Int) (sF : Nat → Int) (nf : Nat → Int) (ng : Nat → Int) (no : Nat → Int) (ma : Nat → Int) (nm : Int → List Int) (s : Int) (n : Int) (sl : Int) (hnm : NmM sF nf ng no ma nm) (hct : cnt ma) (hs : s = 0 ∨ s = 1 ∨ s = 2) (hnn : 0 ≤ n ∧ n < maZ ma s) (hsl : sl = bas s + n) : MetI l G sz y_M_lengthOf c_M_lengthOf 3 (some .int) ({ frames := 0, cells := 0, slots := 0, locals := 0 } : Room) [.ref aM, .int (iI s), .int (iI n)] [(aM, .inr (8, [.ref aWc, .int (iI mth), .int (iI msz), .ref aTx, .int (iI mwr), .ref aOu, .int (iI mfa), .int (iI mpl), .int (iI mle), .int (iI mna), .ref aSo, .ref aNf, .ref aNg, .ref aSr, .ref aNu, .ref aMa, .ref aNo, .int (iI mfi), .int (iI mru), .int (iI mnv), .ref aLe, .ref aAc, .ref aDi, .ref aOr, .int (iI mki), .int (iI mfr), .int (iI mto), .int (iI mwh)])), iA G aNo 48 no, iA G aNf 40 nf, iA G aNg 40 ng] (fun (r : Int32) (u : Unit) => r = iI ((nm sl).length : Int)) (fun (u : Unit) => [(aM, .inr (8, [.ref aWc, .int (iI mth), .int (iI msz), .ref aTx, .int (iI mwr), .ref aOu, .int (iI mfa), .int (iI mpl), .int (iI mle), .int (iI mna), .ref aSo, .ref aNf, .ref aNg, .ref aSr, .ref aNu, .ref aMa, .ref aNo, .int (iI mfi), .int (iI mru), .int (iI mnv), .ref aLe, .ref aAc, .ref aDi, .ref aOr, .int (iI mki), .int (iI mfr), .int (iI mto), .int (iI mwh)])), iA G aNo 48 no, iA G aNf 40 nf, iA G aNg 40 ng]) := by
  refine MetI.mk (by decide) (Nat.le_of_ble_eq_true rfl) (fun X C K => ?_)
  show Zc G X 3 0 0 [(aM, .inr (8, [.ref aWc, .int (iI mth), .int (iI msz), .ref aTx, .int (iI mwr), .ref aOu, .int (iI mfa), .int (iI mpl), .int (iI mle), .int (iI mna), .ref aSo, .ref aNf, .ref aNg, .ref aSr, .ref aNu, .ref aMa, .ref aNo, .int (iI mfi), .int (iI mru), .int (iI mnv), .ref aLe, .ref aAc, .ref aDi, .ref aOr, .int (iI mki), .int (iI mfr), .int (iI mto), .int (iI mwh)])), iA G aNo 48 no, iA G aNf 40 nf, iA G aNg 40 ng] [(0, .ref aM), (1, .int (iI s)), (2, .int (iI n))] 0 []
  have hmz := maZ_rg hct hs
  obtain ⟨g1, g2, g3, g4, g5, g6, g7⟩ := hnm s n hs hnn
  have hln := NmM_len hnm hs hnn hsl
  rw [← hsl] at g7
  refine z_aload_n C d_M_lengthOf_0 0 rfl ?_
  refine z_get C f_M_25 d_M_lengthOf_1 0 rfl rfl ?_
  refine z_aload_n C d_M_lengthOf_4 0 rfl ?_
  refine z_get C f_M_37 d_M_lengthOf_5 0 rfl rfl ?_
  refine z_bipush C d_M_lengthOf_8 (by decide) ?_
  refine z_iload_n C d_M_lengthOf_10 1 rfl ?_
  refine z_imul C d_M_lengthOf_11 ?_
  refine z_iload_n C d_M_lengthOf_12 2 rfl ?_
  refine z_iadd C d_M_lengthOf_13 ?_
  refine z_iald C d_M_lengthOf_14 1 rfl (by omega) ?_
  refine z_iald C d_M_lengthOf_15 3 rfl (by omega) ?_
  refine z_aload_n C d_M_lengthOf_16 0 rfl ?_
  refine z_get C f_M_22 d_M_lengthOf_17 0 rfl rfl ?_
  refine z_aload_n C d_M_lengthOf_20 0 rfl ?_
  refine z_get C f_M_37 d_M_lengthOf_21 0 rfl rfl ?_
  refine z_bipush C d_M_lengthOf_24 (by decide) ?_
  refine z_iload_n C d_M_lengthOf_26 1 rfl ?_
  refine z_imul C d_M_lengthOf_27 ?_
  refine z_iload_n C d_M_lengthOf_28 2 rfl ?_
  refine z_iadd C d_M_lengthOf_29 ?_
  refine z_iald C d_M_lengthOf_30 1 rfl (by omega) ?_
  refine z_iald C d_M_lengthOf_31 2 rfl (by omega) ?_
  refine z_isub C d_M_lengthOf_32 ?_
  exact z_iret C K d_M_lengthOf_33 (rfl) () (rfl) (congrArg iI hln.1.symm)
set_option maxHeartbeats 4000000 in
set_option maxRecDepth 100000 in
theorem m_M_sayEvent (l : Launch) (G : GG) (sz : Nat) (aM : Nat) (aWc : Nat) (aTx : Nat) (aOu : Nat) (aSo : Nat) (aNf : Nat) (aNg : Nat) (aSr : Nat) (aNu : Nat) (aMa : Nat) (aNo : Nat) (aLe : Nat) (aAc : Nat) (aDi : Nat) (aOr : Nat) (mth : Int) (msz : Int) (mwr : Int) (mfa : Int) (mpl : Int) (mle : Int) (mna : Int) (mfi : Int) (mru : Int) (mnv : Int) (mki : Int) (mfr : Int) (mto : Int) (mwh : Int) (ou : Nat → Int) (sF : Nat → Int) (nf : Nat → Int) (ng : Nat → Int) (no : Nat → Int) (ma : Nat → Int) (nm : Int → List Int) (e : Int) (hnm : NmM sF nf ng no ma nm) (hct : cnt ma) (h1 : 0 ≤ e ∧ e < ma 1 + ma 2) (hpl : 0 ≤ mwr ∧ mwr + ((nm (evs (ma 1) e)).length : Int) ≤ 8192) : MetI l G sz y_M_sayEvent c_M_sayEvent 2 (some .int) ({ frames := 2, cells := 0, slots := 0, locals := 45 } : Room) [.ref aM, .int (iI e)] [(aM, .inr (8, [.ref aWc, .int (iI mth), .int (iI msz), .ref aTx, .int (iI mwr), .ref aOu, .int (iI mfa), .int (iI mpl), .int (iI mle), .int (iI mna), .ref aSo, .ref aNf, .ref aNg, .ref aSr, .ref aNu, .ref aMa, .ref aNo, .int (iI mfi), .int (iI mru), .int (iI mnv), .ref aLe, .ref aAc, .ref aDi, .ref aOr, .int (iI mki), .int (iI mfr), .int (iI mto), .int (iI mwh)])), iA G aOu 8192 ou, iA G aNo 48 no, iA G aNf 40 nf, iA G aNg 40 ng, iA G aSo 4200 sF, iA G aMa 3 ma] (fun (r : Int32) (u : Unit) => r = iI ((nm (evs (ma 1) e)).length : Int)) (fun (u : Unit) => [(aM, .inr (8, [.ref aWc, .int (iI mth), .int (iI msz), .ref aTx, .int (iI (mwr + ((nm (evs (ma 1) e)).length : Int))), .ref aOu, .int (iI mfa), .int (iI mpl), .int (iI mle), .int (iI mna), .ref aSo, .ref aNf, .ref aNg, .ref aSr, .ref aNu, .ref aMa, .ref aNo, .int (iI mfi), .int (iI mru), .int (iI mnv), .ref aLe, .ref aAc, .ref aDi, .ref aOr, .int (iI mki), .int (iI mfr), .int (iI mto), .int (iI mwh)])), iA G aOu 8192 (wI ou mwr (nm (evs (ma 1) e))), iA G aNo 48 no, iA G aNf 40 nf, iA G aNg 40 ng, iA G aSo 4200 sF, iA G aMa 3 ma]) := by
  refine MetI.mk (by decide) (Nat.le_of_ble_eq_true rfl) (fun X C K => ?_)
  show Zc G X 2 0 0 [(aM, .inr (8, [.ref aWc, .int (iI mth), .int (iI msz), .ref aTx, .int (iI mwr), .ref aOu, .int (iI mfa), .int (iI mpl), .int (iI mle), .int (iI mna), .ref aSo, .ref aNf, .ref aNg, .ref aSr, .ref aNu, .ref aMa, .ref aNo, .int (iI mfi), .int (iI mru), .int (iI mnv), .ref aLe, .ref aAc, .ref aDi, .ref aOr, .int (iI mki), .int (iI mfr), .int (iI mto), .int (iI mwh)])), iA G aOu 8192 ou, iA G aNo 48 no, iA G aNf 40 nf, iA G aNg 40 ng, iA G aSo 4200 sF, iA G aMa 3 ma] [(0, .ref aM), (1, .int (iI e))] 0 []
  have hcc := hct
  unfold cnt at hcc
  refine z_iload_n C d_M_sayEvent_0 1 rfl ?_
  refine z_aload_n C d_M_sayEvent_1 0 rfl ?_
  refine z_get C f_M_34 d_M_sayEvent_2 0 rfl rfl ?_
  refine z_iconst C d_M_sayEvent_5 ?_
  refine z_iald C d_M_sayEvent_6 6 rfl (by omega) ?_
  refine z_topi (y := iI (ma 1)) (rfl) ?_
  refine z_icmp_ge (tgt := 19) C d_M_sayEvent_7 (by decide) (by omega) (by omega) (fun c7 => ?_) (fun c7 => ?_)
  ·
    refine z_aload_n C d_M_sayEvent_19 0 rfl ?_
    refine z_iconst C d_M_sayEvent_20 ?_
    refine z_iload_n C d_M_sayEvent_21 1 rfl ?_
    refine z_aload_n C d_M_sayEvent_22 0 rfl ?_
    refine z_get C f_M_34 d_M_sayEvent_23 0 rfl rfl ?_
    refine z_iconst C d_M_sayEvent_26 ?_
    refine z_iald C d_M_sayEvent_27 6 rfl (by omega) ?_
    refine z_topi (y := iI (ma 1)) (rfl) ?_
    refine z_isub C d_M_sayEvent_28 ?_
    refine z_calli (As := [.int (iI 2), .int (iI (e - (ma 1)))]) (rest := []) (wr := [iA G aMa 3 ma]) (ws' := fun u => [(aM, .inr (8, [.ref aWc, .int (iI mth), .int (iI msz), .ref aTx, .int (iI (mwr + ((nm (evs (ma 1) e)).length : Int))), .ref aOu, .int (iI mfa), .int (iI mpl), .int (iI mle), .int (iI mna), .ref aSo, .ref aNf, .ref aNg, .ref aSr, .ref aNu, .ref aMa, .ref aNo, .int (iI mfi), .int (iI mru), .int (iI mnv), .ref aLe, .ref aAc, .ref aDi, .ref aOr, .int (iI mki), .int (iI mfr), .int (iI mto), .int (iI mwh)])), iA G aOu 8192 (wI ou mwr (nm (evs (ma 1) e))), iA G aNo 48 no, iA G aNf 40 nf, iA G aNg 40 ng, iA G aSo 4200 sF, iA G aMa 3 ma]) (q0 := 0) C k_M_197 kc_M_sayName (fun l sz => m_M_sayName l G sz aM aWc aTx aOu aSo aNf aNg aSr aNu aMa aNo aLe aAc aDi aOr mth msz mwr mfa mpl mle mna mfi mru mnv mki mfr mto mwh ou sF nf ng no ma nm 2 (e - (ma 1)) (evs (ma 1) e) (hnm) (hct) (by omega) (by have h7 := maZ_e ma; have h6 := bas_e; omega) (by have h7 := maZ_e ma; have h6 := bas_e; unfold evs; rw [if_neg (by omega)]; omega) (hpl)) rfl rfl (Nat.le_of_ble_eq_true rfl) (by decide) d_M_sayEvent_29 rfl rfl [0, 1, 2, 3, 4, 5] [6] [1, 2, 3, 4, 5, 6, 0] rfl rfl (by decide) (fun u => rfl) (fun r u h29 => ?_)
    obtain rfl := h29
    show Zc G X 2 0 0 [(aM, .inr (8, [.ref aWc, .int (iI mth), .int (iI msz), .ref aTx, .int (iI (mwr + ((nm (evs (ma 1) e)).length : Int))), .ref aOu, .int (iI mfa), .int (iI mpl), .int (iI mle), .int (iI mna), .ref aSo, .ref aNf, .ref aNg, .ref aSr, .ref aNu, .ref aMa, .ref aNo, .int (iI mfi), .int (iI mru), .int (iI mnv), .ref aLe, .ref aAc, .ref aDi, .ref aOr, .int (iI mki), .int (iI mfr), .int (iI mto), .int (iI mwh)])), iA G aOu 8192 (wI ou mwr (nm (evs (ma 1) e))), iA G aNo 48 no, iA G aNf 40 nf, iA G aNg 40 ng, iA G aSo 4200 sF, iA G aMa 3 ma] [(0, .ref aM), (1, .int (iI e))] 32 [.int (iI ((nm (evs (ma 1) e)).length : Int))]
    exact z_iret C K d_M_sayEvent_32 (rfl) () (rfl) (rfl)
  ·
    refine z_aload_n C d_M_sayEvent_10 0 rfl ?_
    refine z_iconst C d_M_sayEvent_11 ?_
    refine z_iload_n C d_M_sayEvent_12 1 rfl ?_
    refine z_calli (As := [.int (iI 1), .int (iI e)]) (rest := []) (wr := [iA G aMa 3 ma]) (ws' := fun u => [(aM, .inr (8, [.ref aWc, .int (iI mth), .int (iI msz), .ref aTx, .int (iI (mwr + ((nm (evs (ma 1) e)).length : Int))), .ref aOu, .int (iI mfa), .int (iI mpl), .int (iI mle), .int (iI mna), .ref aSo, .ref aNf, .ref aNg, .ref aSr, .ref aNu, .ref aMa, .ref aNo, .int (iI mfi), .int (iI mru), .int (iI mnv), .ref aLe, .ref aAc, .ref aDi, .ref aOr, .int (iI mki), .int (iI mfr), .int (iI mto), .int (iI mwh)])), iA G aOu 8192 (wI ou mwr (nm (evs (ma 1) e))), iA G aNo 48 no, iA G aNf 40 nf, iA G aNg 40 ng, iA G aSo 4200 sF, iA G aMa 3 ma]) (q0 := 0) C k_M_197 kc_M_sayName (fun l sz => m_M_sayName l G sz aM aWc aTx aOu aSo aNf aNg aSr aNu aMa aNo aLe aAc aDi aOr mth msz mwr mfa mpl mle mna mfi mru mnv mki mfr mto mwh ou sF nf ng no ma nm 1 e (evs (ma 1) e) (hnm) (hct) (by omega) (by have h7 := maZ_e ma; have h6 := bas_e; omega) (by have h7 := maZ_e ma; have h6 := bas_e; unfold evs; rw [if_pos (by omega)]; omega) (hpl)) rfl rfl (Nat.le_of_ble_eq_true rfl) (by decide) d_M_sayEvent_13 rfl rfl [0, 1, 2, 3, 4, 5] [6] [1, 2, 3, 4, 5, 6, 0] rfl rfl (by decide) (fun u => rfl) (fun r u h13 => ?_)
    obtain rfl := h13
    show Zc G X 2 0 0 [(aM, .inr (8, [.ref aWc, .int (iI mth), .int (iI msz), .ref aTx, .int (iI (mwr + ((nm (evs (ma 1) e)).length : Int))), .ref aOu, .int (iI mfa), .int (iI mpl), .int (iI mle), .int (iI mna), .ref aSo, .ref aNf, .ref aNg, .ref aSr, .ref aNu, .ref aMa, .ref aNo, .int (iI mfi), .int (iI mru), .int (iI mnv), .ref aLe, .ref aAc, .ref aDi, .ref aOr, .int (iI mki), .int (iI mfr), .int (iI mto), .int (iI mwh)])), iA G aOu 8192 (wI ou mwr (nm (evs (ma 1) e))), iA G aNo 48 no, iA G aNf 40 nf, iA G aNg 40 ng, iA G aSo 4200 sF, iA G aMa 3 ma] [(0, .ref aM), (1, .int (iI e))] 16 [.int (iI ((nm (evs (ma 1) e)).length : Int))]
    refine z_goto (tgt := 32) C d_M_sayEvent_16 (by decide) ?_
    exact z_iret C K d_M_sayEvent_32 (rfl) () (rfl) (rfl)
set_option maxHeartbeats 4000000 in
set_option maxRecDepth 100000 in
theorem m_M_printNames (l : Launch) (G : GG) (sz : Nat) (aM : Nat) (aWc : Nat) (aTx : Nat) (aOu : Nat) (aSo : Nat) (aNf : Nat) (aNg : Nat) (aSr : Nat) (aNu : Nat) (aMa : Nat) (aNo : Nat) (aLe : Nat) (aAc : Nat) (aDi : Nat) (aOr : Nat) (mth : Int) (msz : Int) (mwr : Int) (mfa : Int) (mpl : Int) (mle : Int) (mna : Int) (mfi : Int) (mru : Int) (mnv : Int) (mki : Int) (mfr : Int) (mto : Int) (mwh : Int) (ou : Nat → Int) (sF : Nat → Int) (nf : Nat → Int) (ng : Nat → Int) (no : Nat → Int) (ma : Nat → Int) (nm : Int → List Int) (s : Int) (hnm : NmM sF nf ng no ma nm) (hct : cnt ma) (hs : s = 0 ∨ s = 1 ∨ s = 2) (hpl : 0 ≤ mwr ∧ mwr + ((pnZ nm ma s).length : Int) ≤ 8192) : MetV l G sz y_M_printNames c_M_printNames 3 ({ frames := 2, cells := 0, slots := 0, locals := 45 } : Room) [.ref aM, .int (iI s)] [(aM, .inr (8, [.ref aWc, .int (iI mth), .int (iI msz), .ref aTx, .int (iI mwr), .ref aOu, .int (iI mfa), .int (iI mpl), .int (iI mle), .int (iI mna), .ref aSo, .ref aNf, .ref aNg, .ref aSr, .ref aNu, .ref aMa, .ref aNo, .int (iI mfi), .int (iI mru), .int (iI mnv), .ref aLe, .ref aAc, .ref aDi, .ref aOr, .int (iI mki), .int (iI mfr), .int (iI mto), .int (iI mwh)])), iA G aOu 8192 ou, iA G aNo 48 no, iA G aNf 40 nf, iA G aNg 40 ng, iA G aSo 4200 sF, iA G aMa 3 ma, iA G aWc 48 wch] (fun (u : Unit) => True) (fun (u : Unit) => [(aM, .inr (8, [.ref aWc, .int (iI mth), .int (iI msz), .ref aTx, .int (iI (mwr + ((pnZ nm ma s).length : Int))), .ref aOu, .int (iI mfa), .int (iI mpl), .int (iI mle), .int (iI mna), .ref aSo, .ref aNf, .ref aNg, .ref aSr, .ref aNu, .ref aMa, .ref aNo, .int (iI mfi), .int (iI mru), .int (iI mnv), .ref aLe, .ref aAc, .ref aDi, .ref aOr, .int (iI mki), .int (iI mfr), .int (iI mto), .int (iI mwh)])), iA G aOu 8192 (wI ou mwr (pnZ nm ma s)), iA G aNo 48 no, iA G aNf 40 nf, iA G aNg 40 ng, iA G aSo 4200 sF, iA G aMa 3 ma, iA G aWc 48 wch]) := by
  refine MetV.mk (by decide) (Nat.le_of_ble_eq_true rfl) (fun X C K => ?_)
  show Zc G X 3 0 0 [(aM, .inr (8, [.ref aWc, .int (iI mth), .int (iI msz), .ref aTx, .int (iI mwr), .ref aOu, .int (iI mfa), .int (iI mpl), .int (iI mle), .int (iI mna), .ref aSo, .ref aNf, .ref aNg, .ref aSr, .ref aNu, .ref aMa, .ref aNo, .int (iI mfi), .int (iI mru), .int (iI mnv), .ref aLe, .ref aAc, .ref aDi, .ref aOr, .int (iI mki), .int (iI mfr), .int (iI mto), .int (iI mwh)])), iA G aOu 8192 ou, iA G aNo 48 no, iA G aNf 40 nf, iA G aNg 40 ng, iA G aSo 4200 sF, iA G aMa 3 ma, iA G aWc 48 wch] [(0, .ref aM), (1, .int (iI s))] 0 []
  have hmz := maZ_rg hct hs
  have hme : maZ ma s = ma s.toNat := rfl
  refine z_aload_n C d_M_printNames_0 0 rfl ?_
  refine z_get C f_M_34 d_M_printNames_1 0 rfl rfl ?_
  refine z_iload_n C d_M_printNames_4 1 rfl ?_
  refine z_iald C d_M_printNames_5 6 rfl (by omega) ?_
  refine z_if_ne (tgt := 10) C d_M_printNames_6 (by decide) (by omega) (fun c6 => ?_) (fun c6 => ?_)
  ·
    have ea : pnZ nm ma s = wtZ s ++ ([32] ++ (jnL nm (bas s) (maZ ma s).toNat 0 ++ [59, 10])) := if_neg (by omega)
    have hp0 : wI ou mwr (wtZ s ++ ([32] ++ (jnL nm (bas s) (maZ ma s).toNat 0 ++ [59, 10]))) = wI ou mwr (pnZ nm ma s) ∧ mwr + ((wtZ s ++ ([32] ++ (jnL nm (bas s) (maZ ma s).toNat 0 ++ [59, 10]))).length : Int) = mwr + ((pnZ nm ma s).length : Int) := by rw [ea]; exact ⟨rfl, rfl⟩
    refine z_aload_n C d_M_printNames_10 0 rfl ?_
    refine z_iload_n C d_M_printNames_11 1 rfl ?_
    refine z_callv (As := [.int (iI s)]) (rest := []) (wr := [iA G aNo 48 no, iA G aNf 40 nf, iA G aNg 40 ng, iA G aSo 4200 sF, iA G aMa 3 ma]) (ws' := fun u => [(aM, .inr (8, [.ref aWc, .int (iI mth), .int (iI msz), .ref aTx, .int (iI (mwr + ((wtZ s).length : Int))), .ref aOu, .int (iI mfa), .int (iI mpl), .int (iI mle), .int (iI mna), .ref aSo, .ref aNf, .ref aNg, .ref aSr, .ref aNu, .ref aMa, .ref aNo, .int (iI mfi), .int (iI mru), .int (iI mnv), .ref aLe, .ref aAc, .ref aDi, .ref aOr, .int (iI mki), .int (iI mfr), .int (iI mto), .int (iI mwh)])), iA G aOu 8192 (wI ou mwr (wtZ s)), iA G aNo 48 no, iA G aNf 40 nf, iA G aNg 40 ng, iA G aSo 4200 sF, iA G aMa 3 ma, iA G aWc 48 wch]) (q0 := 0) C k_M_200 kc_M_sayWord (fun l sz => m_M_sayWord l G sz aM aWc aTx aOu aSo aNf aNg aSr aNu aMa aNo aLe aAc aDi aOr mth msz mwr mfa mpl mle mna mfi mru mnv mki mfr mto mwh ou s (by omega) (by have h9 := qg_fit hp0; omega)) rfl rfl (Nat.le_of_ble_eq_true rfl) (by decide) d_M_printNames_12 rfl rfl [0, 1, 7] [2, 3, 4, 5, 6] [5, 6, 0, 1, 2, 3, 4, 7] rfl rfl (by decide) (fun u => rfl) (fun u h12 => ?_)
    show Zc G X 3 0 0 [(aM, .inr (8, [.ref aWc, .int (iI mth), .int (iI msz), .ref aTx, .int (iI (mwr + ((wtZ s).length : Int))), .ref aOu, .int (iI mfa), .int (iI mpl), .int (iI mle), .int (iI mna), .ref aSo, .ref aNf, .ref aNg, .ref aSr, .ref aNu, .ref aMa, .ref aNo, .int (iI mfi), .int (iI mru), .int (iI mnv), .ref aLe, .ref aAc, .ref aDi, .ref aOr, .int (iI mki), .int (iI mfr), .int (iI mto), .int (iI mwh)])), iA G aOu 8192 (wI ou mwr (wtZ s)), iA G aNo 48 no, iA G aNf 40 nf, iA G aNg 40 ng, iA G aSo 4200 sF, iA G aMa 3 ma, iA G aWc 48 wch] [(0, .ref aM), (1, .int (iI s))] 15 []
    have hpA : wI (wI ou mwr (wtZ s)) (mwr + ((wtZ s).length : Int)) ([32] ++ (jnL nm (bas s) (maZ ma s).toNat 0 ++ [59, 10])) = wI ou mwr (pnZ nm ma s) ∧ (mwr + ((wtZ s).length : Int)) + (([32] ++ (jnL nm (bas s) (maZ ma s).toNat 0 ++ [59, 10])).length : Int) = mwr + ((pnZ nm ma s).length : Int) := qg_next hp0
    have hgA : 0 ≤ mwr + ((wtZ s).length : Int) := by omega
    generalize wI ou mwr (wtZ s) = EA at hpA ⊢
    generalize mwr + ((wtZ s).length : Int) = qA at hpA hgA ⊢
    refine z_iconst C d_M_printNames_15 ?_
    refine z_istore_n (lv' := [(2, .int (iI 0)), (0, .ref aM), (1, .int (iI s))]) C d_M_printNames_16 (by decide) rfl ?_
    have loop17 : ∀ (kq : Nat) (k : Int) (q : Int) (E : Nat → Int), (0 ≤ k ∧ k ≤ ma s.toNat ∧ 0 ≤ q) → (wI E q ((if k = 0 then [32] else []) ++ (jnL nm (bas s) (maZ ma s - k).toNat k ++ [59, 10])) = wI ou mwr (pnZ nm ma s) ∧ q + (((if k = 0 then [32] else []) ++ (jnL nm (bas s) (maZ ma s - k).toNat k ++ [59, 10])).length : Int) = mwr + ((pnZ nm ma s).length : Int)) → ((ma s.toNat - k).toNat < kq) → Zc G X 3 0 0 [(aM, .inr (8, [.ref aWc, .int (iI mth), .int (iI msz), .ref aTx, .int (iI q), .ref aOu, .int (iI mfa), .int (iI mpl), .int (iI mle), .int (iI mna), .ref aSo, .ref aNf, .ref aNg, .ref aSr, .ref aNu, .ref aMa, .ref aNo, .int (iI mfi), .int (iI mru), .int (iI mnv), .ref aLe, .ref aAc, .ref aDi, .ref aOr, .int (iI mki), .int (iI mfr), .int (iI mto), .int (iI mwh)])), iA G aOu 8192 E, iA G aNo 48 no, iA G aNf 40 nf, iA G aNg 40 ng, iA G aSo 4200 sF, iA G aMa 3 ma, iA G aWc 48 wch] [(0, .ref aM), (1, .int (iI s)), (2, .int (iI k))] 17 [] := by
      intro kq
      induction kq with
      | zero => intro k q E hk hE hm; exact absurd hm (Nat.not_lt_zero _)
      | succ kq ih17 =>
        intro k q E hk hE hm
        -- loop body
        refine z_iload_n C d_M_printNames_17 2 rfl ?_
        refine z_aload_n C d_M_printNames_18 0 rfl ?_
        refine z_get C f_M_34 d_M_printNames_19 0 rfl rfl ?_
        refine z_iload_n C d_M_printNames_22 1 rfl ?_
        refine z_iald C d_M_printNames_23 6 rfl (by omega) ?_
        refine z_icmp_ge (tgt := 56) C d_M_printNames_24 (by decide) (by omega) (by omega) (fun c24 => ?_) (fun c24 => ?_)
        ·
          rw [if_neg (by omega), List.nil_append, show (maZ ma s - k).toNat = 0 by omega] at hE
          have hp4 : wI E q ([59, 10] ++ []) = wI ou mwr (pnZ nm ma s) ∧ q + (([59, 10] ++ []).length : Int) = mwr + ((pnZ nm ma s).length : Int) := hE
          refine z_aload_n C d_M_printNames_56 0 rfl ?_
          refine z_callv (As := []) (rest := []) (wr := [iA G aNo 48 no, iA G aNf 40 nf, iA G aNg 40 ng, iA G aSo 4200 sF, iA G aMa 3 ma, iA G aWc 48 wch]) (ws' := fun u => [(aM, .inr (8, [.ref aWc, .int (iI mth), .int (iI msz), .ref aTx, .int (iI (q + 2)), .ref aOu, .int (iI mfa), .int (iI mpl), .int (iI mle), .int (iI mna), .ref aSo, .ref aNf, .ref aNg, .ref aSr, .ref aNu, .ref aMa, .ref aNo, .int (iI mfi), .int (iI mru), .int (iI mnv), .ref aLe, .ref aAc, .ref aDi, .ref aOr, .int (iI mki), .int (iI mfr), .int (iI mto), .int (iI mwh)])), iA G aOu 8192 (wI E q [59, 10]), iA G aNo 48 no, iA G aNf 40 nf, iA G aNg 40 ng, iA G aSo 4200 sF, iA G aMa 3 ma, iA G aWc 48 wch]) (q0 := 0) C k_M_203 kc_M_endLine (fun l sz => m_M_endLine l G sz aM aWc aTx aOu aSo aNf aNg aSr aNu aMa aNo aLe aAc aDi aOr mth msz q mfa mpl mle mna mfi mru mnv mki mfr mto mwh E (by have h9 := qg_fit2 hp4; omega)) rfl rfl (Nat.le_of_ble_eq_true rfl) (by decide) d_M_printNames_57 rfl rfl [0, 1] [2, 3, 4, 5, 6, 7] [6, 7, 0, 1, 2, 3, 4, 5] rfl rfl (by decide) (fun u => rfl) (fun u h57 => ?_)
          show Zc G X 3 0 0 [(aM, .inr (8, [.ref aWc, .int (iI mth), .int (iI msz), .ref aTx, .int (iI (q + 2)), .ref aOu, .int (iI mfa), .int (iI mpl), .int (iI mle), .int (iI mna), .ref aSo, .ref aNf, .ref aNg, .ref aSr, .ref aNu, .ref aMa, .ref aNo, .int (iI mfi), .int (iI mru), .int (iI mnv), .ref aLe, .ref aAc, .ref aDi, .ref aOr, .int (iI mki), .int (iI mfr), .int (iI mto), .int (iI mwh)])), iA G aOu 8192 (wI E q [59, 10]), iA G aNo 48 no, iA G aNf 40 nf, iA G aNg 40 ng, iA G aSo 4200 sF, iA G aMa 3 ma, iA G aWc 48 wch] [(0, .ref aM), (1, .int (iI s)), (2, .int (iI k))] 60 []
          have hp5 : wI (wI E q [59, 10]) (q + 2) ([]) = wI ou mwr (pnZ nm ma s) ∧ (q + 2) + (([]).length : Int) = mwr + ((pnZ nm ma s).length : Int) := qg_next hp4
          have hg5 : 0 ≤ q + 2 := by omega
          generalize wI E q [59, 10] = E5 at hp5 ⊢
          generalize q + 2 = q5 at hp5 hg5 ⊢
          exact z_vret C K d_M_printNames_60 () (by rw [(qg_end hp5).1, (qg_end hp5).2]) (trivial)
        ·
          refine z_iload_n C d_M_printNames_27 2 rfl ?_
          refine z_if_le (tgt := 37) C d_M_printNames_28 (by decide) (by omega) (fun c28 => ?_) (fun c28 => ?_)
          ·
            rw [show k = 0 by omega, if_pos rfl] at hE
            have ek : k = 0 := by omega
            rw [← ek] at hE
            rw [jnL_step nm (bas s) (by omega), if_neg (by omega), List.nil_append, List.append_assoc] at hE
            have hp1 := hE
            have hg1 : 0 ≤ q := by omega
            refine z_aload_n C d_M_printNames_37 0 rfl ?_
            refine z_bipush C d_M_printNames_38 (by decide) ?_
            refine z_callv (As := [.int (iI 32)]) (rest := []) (wr := [iA G aNo 48 no, iA G aNf 40 nf, iA G aNg 40 ng, iA G aSo 4200 sF, iA G aMa 3 ma, iA G aWc 48 wch]) (ws' := fun u => [(aM, .inr (8, [.ref aWc, .int (iI mth), .int (iI msz), .ref aTx, .int (iI (q + 1)), .ref aOu, .int (iI mfa), .int (iI mpl), .int (iI mle), .int (iI mna), .ref aSo, .ref aNf, .ref aNg, .ref aSr, .ref aNu, .ref aMa, .ref aNo, .int (iI mfi), .int (iI mru), .int (iI mnv), .ref aLe, .ref aAc, .ref aDi, .ref aOr, .int (iI mki), .int (iI mfr), .int (iI mto), .int (iI mwh)])), iA G aOu 8192 (wI E q [32]), iA G aNo 48 no, iA G aNf 40 nf, iA G aNg 40 ng, iA G aSo 4200 sF, iA G aMa 3 ma, iA G aWc 48 wch]) (q0 := 0) C k_M_194 kc_M_say (fun l sz => m_M_say l G sz aM aWc aTx aOu aSo aNf aNg aSr aNu aMa aNo aLe aAc aDi aOr mth msz q mfa mpl mle mna mfi mru mnv mki mfr mto mwh E 32 (by have h9 := qg_fit1 hp1; omega)) rfl rfl (Nat.le_of_ble_eq_true rfl) (by decide) d_M_printNames_40 rfl rfl [0, 1] [2, 3, 4, 5, 6, 7] [6, 7, 0, 1, 2, 3, 4, 5] rfl rfl (by decide) (fun u => rfl) (fun u h40 => ?_)
            show Zc G X 3 0 0 [(aM, .inr (8, [.ref aWc, .int (iI mth), .int (iI msz), .ref aTx, .int (iI (q + 1)), .ref aOu, .int (iI mfa), .int (iI mpl), .int (iI mle), .int (iI mna), .ref aSo, .ref aNf, .ref aNg, .ref aSr, .ref aNu, .ref aMa, .ref aNo, .int (iI mfi), .int (iI mru), .int (iI mnv), .ref aLe, .ref aAc, .ref aDi, .ref aOr, .int (iI mki), .int (iI mfr), .int (iI mto), .int (iI mwh)])), iA G aOu 8192 (wI E q [32]), iA G aNo 48 no, iA G aNf 40 nf, iA G aNg 40 ng, iA G aSo 4200 sF, iA G aMa 3 ma, iA G aWc 48 wch] [(0, .ref aM), (1, .int (iI s)), (2, .int (iI k))] 43 []
            have hp2 : wI (wI E q [32]) (q + 1) (nm (bas s + k) ++ (jnL nm (bas s) (maZ ma s - (k + 1)).toNat (k + 1) ++ [59, 10])) = wI ou mwr (pnZ nm ma s) ∧ (q + 1) + ((nm (bas s + k) ++ (jnL nm (bas s) (maZ ma s - (k + 1)).toNat (k + 1) ++ [59, 10])).length : Int) = mwr + ((pnZ nm ma s).length : Int) := qg_next hp1
            have hg2 : 0 ≤ q + 1 := by omega
            generalize wI E q [32] = E2 at hp2 ⊢
            generalize q + 1 = q2 at hp2 hg2 ⊢
            refine z_aload_n C d_M_printNames_43 0 rfl ?_
            refine z_iload_n C d_M_printNames_44 1 rfl ?_
            refine z_iload_n C d_M_printNames_45 2 rfl ?_
            refine z_calli (As := [.int (iI s), .int (iI k)]) (rest := []) (wr := [iA G aMa 3 ma, iA G aWc 48 wch]) (ws' := fun u => [(aM, .inr (8, [.ref aWc, .int (iI mth), .int (iI msz), .ref aTx, .int (iI (q2 + ((nm (bas s + k)).length : Int))), .ref aOu, .int (iI mfa), .int (iI mpl), .int (iI mle), .int (iI mna), .ref aSo, .ref aNf, .ref aNg, .ref aSr, .ref aNu, .ref aMa, .ref aNo, .int (iI mfi), .int (iI mru), .int (iI mnv), .ref aLe, .ref aAc, .ref aDi, .ref aOr, .int (iI mki), .int (iI mfr), .int (iI mto), .int (iI mwh)])), iA G aOu 8192 (wI E2 q2 (nm (bas s + k))), iA G aNo 48 no, iA G aNf 40 nf, iA G aNg 40 ng, iA G aSo 4200 sF, iA G aMa 3 ma, iA G aWc 48 wch]) (q0 := 0) C k_M_197 kc_M_sayName (fun l sz => m_M_sayName l G sz aM aWc aTx aOu aSo aNf aNg aSr aNu aMa aNo aLe aAc aDi aOr mth msz q2 mfa mpl mle mna mfi mru mnv mki mfr mto mwh E2 sF nf ng no ma nm s k (bas s + k) (hnm) (hct) (hs) (by omega) (rfl) (by have h9 := qg_fit hp2; omega)) rfl rfl (Nat.le_of_ble_eq_true rfl) (by decide) d_M_printNames_46 rfl rfl [0, 1, 2, 3, 4, 5] [6, 7] [2, 3, 4, 5, 6, 7, 0, 1] rfl rfl (by decide) (fun u => rfl) (fun r u h46 => ?_)
            obtain rfl := h46
            show Zc G X 3 0 0 [(aM, .inr (8, [.ref aWc, .int (iI mth), .int (iI msz), .ref aTx, .int (iI (q2 + ((nm (bas s + k)).length : Int))), .ref aOu, .int (iI mfa), .int (iI mpl), .int (iI mle), .int (iI mna), .ref aSo, .ref aNf, .ref aNg, .ref aSr, .ref aNu, .ref aMa, .ref aNo, .int (iI mfi), .int (iI mru), .int (iI mnv), .ref aLe, .ref aAc, .ref aDi, .ref aOr, .int (iI mki), .int (iI mfr), .int (iI mto), .int (iI mwh)])), iA G aOu 8192 (wI E2 q2 (nm (bas s + k))), iA G aNo 48 no, iA G aNf 40 nf, iA G aNg 40 ng, iA G aSo 4200 sF, iA G aMa 3 ma, iA G aWc 48 wch] [(0, .ref aM), (1, .int (iI s)), (2, .int (iI k))] 49 [.int (iI ((nm (bas s + k)).length : Int))]
            skip
            refine z_pop C d_M_printNames_49 rfl ?_
            have hp3 : wI (wI E2 q2 (nm (bas s + k))) (q2 + ((nm (bas s + k)).length : Int)) (jnL nm (bas s) (maZ ma s - (k + 1)).toNat (k + 1) ++ [59, 10]) = wI ou mwr (pnZ nm ma s) ∧ (q2 + ((nm (bas s + k)).length : Int)) + ((jnL nm (bas s) (maZ ma s - (k + 1)).toNat (k + 1) ++ [59, 10]).length : Int) = mwr + ((pnZ nm ma s).length : Int) := qg_next hp2
            have hg3 : 0 ≤ q2 + ((nm (bas s + k)).length : Int) := by omega
            generalize wI E2 q2 (nm (bas s + k)) = E3 at hp3 ⊢
            generalize q2 + ((nm (bas s + k)).length : Int) = q3 at hp3 hg3 ⊢
            refine z_iinc (lv' := [(2, .int (iI (k + 1))), (0, .ref aM), (1, .int (iI s))]) C d_M_printNames_50 2 rfl (by decide) rfl ?_
            refine z_goto (tgt := 17) C d_M_printNames_53 (by decide) ?_
            refine z_lv [1, 2, 0] (lv' := [(0, .ref aM), (1, .int (iI s)), (2, .int (iI (k + 1)))]) rfl ?_
            exact ih17 _ _ _ (by omega) (by rw [if_neg (by omega), List.nil_append]; exact hp3) (by omega)
          ·
            rw [if_neg (show ¬ k = 0 by omega), List.nil_append, jnL_step nm (bas s) (by omega), if_pos (by omega), wl_t.2.2.2.2.2.2.2.2.2.1, List.append_assoc, List.append_assoc, List.append_assoc] at hE
            refine z_aload_n C d_M_printNames_31 0 rfl ?_
            refine z_bipush C d_M_printNames_32 (by decide) ?_
            refine z_callv (As := [.int (iI 44)]) (rest := []) (wr := [iA G aNo 48 no, iA G aNf 40 nf, iA G aNg 40 ng, iA G aSo 4200 sF, iA G aMa 3 ma, iA G aWc 48 wch]) (ws' := fun u => [(aM, .inr (8, [.ref aWc, .int (iI mth), .int (iI msz), .ref aTx, .int (iI (q + 1)), .ref aOu, .int (iI mfa), .int (iI mpl), .int (iI mle), .int (iI mna), .ref aSo, .ref aNf, .ref aNg, .ref aSr, .ref aNu, .ref aMa, .ref aNo, .int (iI mfi), .int (iI mru), .int (iI mnv), .ref aLe, .ref aAc, .ref aDi, .ref aOr, .int (iI mki), .int (iI mfr), .int (iI mto), .int (iI mwh)])), iA G aOu 8192 (wI E q [44]), iA G aNo 48 no, iA G aNf 40 nf, iA G aNg 40 ng, iA G aSo 4200 sF, iA G aMa 3 ma, iA G aWc 48 wch]) (q0 := 0) C k_M_194 kc_M_say (fun l sz => m_M_say l G sz aM aWc aTx aOu aSo aNf aNg aSr aNu aMa aNo aLe aAc aDi aOr mth msz q mfa mpl mle mna mfi mru mnv mki mfr mto mwh E 44 (by have h9 := qg_fit1 hE; omega)) rfl rfl (Nat.le_of_ble_eq_true rfl) (by decide) d_M_printNames_34 rfl rfl [0, 1] [2, 3, 4, 5, 6, 7] [6, 7, 0, 1, 2, 3, 4, 5] rfl rfl (by decide) (fun u => rfl) (fun u h34 => ?_)
            show Zc G X 3 0 0 [(aM, .inr (8, [.ref aWc, .int (iI mth), .int (iI msz), .ref aTx, .int (iI (q + 1)), .ref aOu, .int (iI mfa), .int (iI mpl), .int (iI mle), .int (iI mna), .ref aSo, .ref aNf, .ref aNg, .ref aSr, .ref aNu, .ref aMa, .ref aNo, .int (iI mfi), .int (iI mru), .int (iI mnv), .ref aLe, .ref aAc, .ref aDi, .ref aOr, .int (iI mki), .int (iI mfr), .int (iI mto), .int (iI mwh)])), iA G aOu 8192 (wI E q [44]), iA G aNo 48 no, iA G aNf 40 nf, iA G aNg 40 ng, iA G aSo 4200 sF, iA G aMa 3 ma, iA G aWc 48 wch] [(0, .ref aM), (1, .int (iI s)), (2, .int (iI k))] 37 []
            have hp1 : wI (wI E q [44]) (q + 1) ([32] ++ (nm (bas s + k) ++ (jnL nm (bas s) (maZ ma s - (k + 1)).toNat (k + 1) ++ [59, 10]))) = wI ou mwr (pnZ nm ma s) ∧ (q + 1) + (([32] ++ (nm (bas s + k) ++ (jnL nm (bas s) (maZ ma s - (k + 1)).toNat (k + 1) ++ [59, 10]))).length : Int) = mwr + ((pnZ nm ma s).length : Int) := qg_next hE
            have hg1 : 0 ≤ q + 1 := by omega
            generalize wI E q [44] = E1 at hp1 ⊢
            generalize q + 1 = q1 at hp1 hg1 ⊢
            refine z_aload_n C d_M_printNames_37 0 rfl ?_
            refine z_bipush C d_M_printNames_38 (by decide) ?_
            refine z_callv (As := [.int (iI 32)]) (rest := []) (wr := [iA G aNo 48 no, iA G aNf 40 nf, iA G aNg 40 ng, iA G aSo 4200 sF, iA G aMa 3 ma, iA G aWc 48 wch]) (ws' := fun u => [(aM, .inr (8, [.ref aWc, .int (iI mth), .int (iI msz), .ref aTx, .int (iI (q1 + 1)), .ref aOu, .int (iI mfa), .int (iI mpl), .int (iI mle), .int (iI mna), .ref aSo, .ref aNf, .ref aNg, .ref aSr, .ref aNu, .ref aMa, .ref aNo, .int (iI mfi), .int (iI mru), .int (iI mnv), .ref aLe, .ref aAc, .ref aDi, .ref aOr, .int (iI mki), .int (iI mfr), .int (iI mto), .int (iI mwh)])), iA G aOu 8192 (wI E1 q1 [32]), iA G aNo 48 no, iA G aNf 40 nf, iA G aNg 40 ng, iA G aSo 4200 sF, iA G aMa 3 ma, iA G aWc 48 wch]) (q0 := 0) C k_M_194 kc_M_say (fun l sz => m_M_say l G sz aM aWc aTx aOu aSo aNf aNg aSr aNu aMa aNo aLe aAc aDi aOr mth msz q1 mfa mpl mle mna mfi mru mnv mki mfr mto mwh E1 32 (by have h9 := qg_fit1 hp1; omega)) rfl rfl (Nat.le_of_ble_eq_true rfl) (by decide) d_M_printNames_40 rfl rfl [0, 1] [2, 3, 4, 5, 6, 7] [6, 7, 0, 1, 2, 3, 4, 5] rfl rfl (by decide) (fun u => rfl) (fun u h40 => ?_)
            show Zc G X 3 0 0 [(aM, .inr (8, [.ref aWc, .int (iI mth), .int (iI msz), .ref aTx, .int (iI (q1 + 1)), .ref aOu, .int (iI mfa), .int (iI mpl), .int (iI mle), .int (iI mna), .ref aSo, .ref aNf, .ref aNg, .ref aSr, .ref aNu, .ref aMa, .ref aNo, .int (iI mfi), .int (iI mru), .int (iI mnv), .ref aLe, .ref aAc, .ref aDi, .ref aOr, .int (iI mki), .int (iI mfr), .int (iI mto), .int (iI mwh)])), iA G aOu 8192 (wI E1 q1 [32]), iA G aNo 48 no, iA G aNf 40 nf, iA G aNg 40 ng, iA G aSo 4200 sF, iA G aMa 3 ma, iA G aWc 48 wch] [(0, .ref aM), (1, .int (iI s)), (2, .int (iI k))] 43 []
            have hp2 : wI (wI E1 q1 [32]) (q1 + 1) (nm (bas s + k) ++ (jnL nm (bas s) (maZ ma s - (k + 1)).toNat (k + 1) ++ [59, 10])) = wI ou mwr (pnZ nm ma s) ∧ (q1 + 1) + ((nm (bas s + k) ++ (jnL nm (bas s) (maZ ma s - (k + 1)).toNat (k + 1) ++ [59, 10])).length : Int) = mwr + ((pnZ nm ma s).length : Int) := qg_next hp1
            have hg2 : 0 ≤ q1 + 1 := by omega
            generalize wI E1 q1 [32] = E2 at hp2 ⊢
            generalize q1 + 1 = q2 at hp2 hg2 ⊢
            refine z_aload_n C d_M_printNames_43 0 rfl ?_
            refine z_iload_n C d_M_printNames_44 1 rfl ?_
            refine z_iload_n C d_M_printNames_45 2 rfl ?_
            refine z_calli (As := [.int (iI s), .int (iI k)]) (rest := []) (wr := [iA G aMa 3 ma, iA G aWc 48 wch]) (ws' := fun u => [(aM, .inr (8, [.ref aWc, .int (iI mth), .int (iI msz), .ref aTx, .int (iI (q2 + ((nm (bas s + k)).length : Int))), .ref aOu, .int (iI mfa), .int (iI mpl), .int (iI mle), .int (iI mna), .ref aSo, .ref aNf, .ref aNg, .ref aSr, .ref aNu, .ref aMa, .ref aNo, .int (iI mfi), .int (iI mru), .int (iI mnv), .ref aLe, .ref aAc, .ref aDi, .ref aOr, .int (iI mki), .int (iI mfr), .int (iI mto), .int (iI mwh)])), iA G aOu 8192 (wI E2 q2 (nm (bas s + k))), iA G aNo 48 no, iA G aNf 40 nf, iA G aNg 40 ng, iA G aSo 4200 sF, iA G aMa 3 ma, iA G aWc 48 wch]) (q0 := 0) C k_M_197 kc_M_sayName (fun l sz => m_M_sayName l G sz aM aWc aTx aOu aSo aNf aNg aSr aNu aMa aNo aLe aAc aDi aOr mth msz q2 mfa mpl mle mna mfi mru mnv mki mfr mto mwh E2 sF nf ng no ma nm s k (bas s + k) (hnm) (hct) (hs) (by omega) (rfl) (by have h9 := qg_fit hp2; omega)) rfl rfl (Nat.le_of_ble_eq_true rfl) (by decide) d_M_printNames_46 rfl rfl [0, 1, 2, 3, 4, 5] [6, 7] [2, 3, 4, 5, 6, 7, 0, 1] rfl rfl (by decide) (fun u => rfl) (fun r u h46 => ?_)
            obtain rfl := h46
            show Zc G X 3 0 0 [(aM, .inr (8, [.ref aWc, .int (iI mth), .int (iI msz), .ref aTx, .int (iI (q2 + ((nm (bas s + k)).length : Int))), .ref aOu, .int (iI mfa), .int (iI mpl), .int (iI mle), .int (iI mna), .ref aSo, .ref aNf, .ref aNg, .ref aSr, .ref aNu, .ref aMa, .ref aNo, .int (iI mfi), .int (iI mru), .int (iI mnv), .ref aLe, .ref aAc, .ref aDi, .ref aOr, .int (iI mki), .int (iI mfr), .int (iI mto), .int (iI mwh)])), iA G aOu 8192 (wI E2 q2 (nm (bas s + k))), iA G aNo 48 no, iA G aNf 40 nf, iA G aNg 40 ng, iA G aSo 4200 sF, iA G aMa 3 ma, iA G aWc 48 wch] [(0, .ref aM), (1, .int (iI s)), (2, .int (iI k))] 49 [.int (iI ((nm (bas s + k)).length : Int))]
            skip
            refine z_pop C d_M_printNames_49 rfl ?_
            have hp3 : wI (wI E2 q2 (nm (bas s + k))) (q2 + ((nm (bas s + k)).length : Int)) (jnL nm (bas s) (maZ ma s - (k + 1)).toNat (k + 1) ++ [59, 10]) = wI ou mwr (pnZ nm ma s) ∧ (q2 + ((nm (bas s + k)).length : Int)) + ((jnL nm (bas s) (maZ ma s - (k + 1)).toNat (k + 1) ++ [59, 10]).length : Int) = mwr + ((pnZ nm ma s).length : Int) := qg_next hp2
            have hg3 : 0 ≤ q2 + ((nm (bas s + k)).length : Int) := by omega
            generalize wI E2 q2 (nm (bas s + k)) = E3 at hp3 ⊢
            generalize q2 + ((nm (bas s + k)).length : Int) = q3 at hp3 hg3 ⊢
            refine z_iinc (lv' := [(2, .int (iI (k + 1))), (0, .ref aM), (1, .int (iI s))]) C d_M_printNames_50 2 rfl (by decide) rfl ?_
            refine z_goto (tgt := 17) C d_M_printNames_53 (by decide) ?_
            refine z_lv [1, 2, 0] (lv' := [(0, .ref aM), (1, .int (iI s)), (2, .int (iI (k + 1)))]) rfl ?_
            exact ih17 _ _ _ (by omega) (by rw [if_neg (by omega), List.nil_append]; exact hp3) (by omega)
    refine z_lv [1, 2, 0] (lv' := [(0, .ref aM), (1, .int (iI s)), (2, .int (iI 0))]) rfl ?_
    exact loop17 (_ + 1) _ _ _ (by omega) (by rw [Int.sub_zero, if_pos rfl]; exact hpA) (Nat.lt_succ_self _)
  ·
    have ea : pnZ nm ma s = [] := if_pos (by omega)
    exact z_vret C K d_M_printNames_9 () (by rw [ea, show mwr + (([] : List Int).length : Int) = mwr by simp]; rfl) (trivial)
set_option maxHeartbeats 4000000 in
set_option maxRecDepth 100000 in
theorem m_M_printActions (l : Launch) (G : GG) (sz : Nat) (aM : Nat) (aWc : Nat) (aTx : Nat) (aOu : Nat) (aSo : Nat) (aNf : Nat) (aNg : Nat) (aSr : Nat) (aNu : Nat) (aMa : Nat) (aNo : Nat) (aLe : Nat) (aAc : Nat) (aDi : Nat) (aOr : Nat) (mth : Int) (msz : Int) (mwr : Int) (mfa : Int) (mpl : Int) (mle : Int) (mna : Int) (mfi : Int) (mru : Int) (mnv : Int) (mki : Int) (mfr : Int) (mto : Int) (mwh : Int) (ou : Nat → Int) (sF : Nat → Int) (nf : Nat → Int) (ng : Nat → Int) (no : Nat → Int) (ma : Nat → Int) (nm : Int → List Int) (le : Nat → Int) (ac : Nat → Int) (p : Int) (hnm : NmM sF nf ng no ma nm) (hct : cnt ma) (hgk : gok ma le ac) (h1 : 0 ≤ p ∧ p < 384) (hpl : 0 ≤ mwr ∧ mwr + ((acL nm ac p 4 0).length : Int) ≤ 8192) : MetV l G sz y_M_printActions c_M_printActions 4 ({ frames := 2, cells := 0, slots := 0, locals := 45 } : Room) [.ref aM, .int (iI p)] [(aM, .inr (8, [.ref aWc, .int (iI mth), .int (iI msz), .ref aTx, .int (iI mwr), .ref aOu, .int (iI mfa), .int (iI mpl), .int (iI mle), .int (iI mna), .ref aSo, .ref aNf, .ref aNg, .ref aSr, .ref aNu, .ref aMa, .ref aNo, .int (iI mfi), .int (iI mru), .int (iI mnv), .ref aLe, .ref aAc, .ref aDi, .ref aOr, .int (iI mki), .int (iI mfr), .int (iI mto), .int (iI mwh)])), iA G aOu 8192 ou, iA G aNo 48 no, iA G aNf 40 nf, iA G aNg 40 ng, iA G aSo 4200 sF, iA G aWc 48 wch, iA G aAc 1536 ac] (fun (u : Unit) => True) (fun (u : Unit) => [(aM, .inr (8, [.ref aWc, .int (iI mth), .int (iI msz), .ref aTx, .int (iI (mwr + ((acL nm ac p 4 0).length : Int))), .ref aOu, .int (iI mfa), .int (iI mpl), .int (iI mle), .int (iI mna), .ref aSo, .ref aNf, .ref aNg, .ref aSr, .ref aNu, .ref aMa, .ref aNo, .int (iI mfi), .int (iI mru), .int (iI mnv), .ref aLe, .ref aAc, .ref aDi, .ref aOr, .int (iI mki), .int (iI mfr), .int (iI mto), .int (iI mwh)])), iA G aOu 8192 (wI ou mwr (acL nm ac p 4 0)), iA G aNo 48 no, iA G aNf 40 nf, iA G aNg 40 ng, iA G aSo 4200 sF, iA G aWc 48 wch, iA G aAc 1536 ac]) := by
  refine MetV.mk (by decide) (Nat.le_of_ble_eq_true rfl) (fun X C K => ?_)
  show Zc G X 4 0 0 [(aM, .inr (8, [.ref aWc, .int (iI mth), .int (iI msz), .ref aTx, .int (iI mwr), .ref aOu, .int (iI mfa), .int (iI mpl), .int (iI mle), .int (iI mna), .ref aSo, .ref aNf, .ref aNg, .ref aSr, .ref aNu, .ref aMa, .ref aNo, .int (iI mfi), .int (iI mru), .int (iI mnv), .ref aLe, .ref aAc, .ref aDi, .ref aOr, .int (iI mki), .int (iI mfr), .int (iI mto), .int (iI mwh)])), iA G aOu 8192 ou, iA G aNo 48 no, iA G aNf 40 nf, iA G aNg 40 ng, iA G aSo 4200 sF, iA G aWc 48 wch, iA G aAc 1536 ac] [(0, .ref aM), (1, .int (iI p))] 0 []
  have hcc := hct
  unfold cnt at hcc
  refine z_iconst C d_M_printActions_0 ?_
  refine z_istore_n (lv' := [(2, .int (iI 0)), (0, .ref aM), (1, .int (iI p))]) C d_M_printActions_1 (by decide) rfl ?_
  have loop2 : ∀ (kq : Nat) (k : Int) (q : Int) (E : Nat → Int), (0 ≤ k ∧ k ≤ 4 ∧ 0 ≤ q) → (wI E q (acL nm ac p (4 - k).toNat k) = wI ou mwr (acL nm ac p 4 0) ∧ q + ((acL nm ac p (4 - k).toNat k).length : Int) = mwr + ((acL nm ac p 4 0).length : Int)) → ((4 - k).toNat < kq) → Zc G X 4 0 0 [(aM, .inr (8, [.ref aWc, .int (iI mth), .int (iI msz), .ref aTx, .int (iI q), .ref aOu, .int (iI mfa), .int (iI mpl), .int (iI mle), .int (iI mna), .ref aSo, .ref aNf, .ref aNg, .ref aSr, .ref aNu, .ref aMa, .ref aNo, .int (iI mfi), .int (iI mru), .int (iI mnv), .ref aLe, .ref aAc, .ref aDi, .ref aOr, .int (iI mki), .int (iI mfr), .int (iI mto), .int (iI mwh)])), iA G aOu 8192 E, iA G aNo 48 no, iA G aNf 40 nf, iA G aNg 40 ng, iA G aSo 4200 sF, iA G aWc 48 wch, iA G aAc 1536 ac] [(0, .ref aM), (1, .int (iI p)), (2, .int (iI k))] 2 [] := by
    intro kq
    induction kq with
    | zero => intro k q E hk hE hm; exact absurd hm (Nat.not_lt_zero _)
    | succ kq ih2 =>
      intro k q E hk hE hm
      have hgc := hgk.2 (4 * p + k).toNat
      have hak : k < 4 → aco ac p k = ac (4 * p + k).toNat := fun z => by unfold aco; rw [if_pos z, show p * 4 + k = 4 * p + k by omega]
      -- loop body
      refine z_iload_n C d_M_printActions_2 2 rfl ?_
      refine z_iconst C d_M_printActions_3 ?_
      refine z_icmp_ge (tgt := 100) C d_M_printActions_4 (by decide) (by omega) (by omega) (fun c4 => ?_) (fun c4 => ?_)
      ·
        rw [show (4 - k).toNat = 0 by omega] at hE
        exact z_vret C K d_M_printActions_100 () (by rw [(qg_end hE).1, (qg_end hE).2]) (trivial)
      ·
        refine z_aload_n C d_M_printActions_7 0 rfl ?_
        refine z_get C f_M_43 d_M_printActions_8 0 rfl rfl ?_
        refine z_iconst C d_M_printActions_11 ?_
        refine z_iload_n C d_M_printActions_12 1 rfl ?_
        refine z_imul C d_M_printActions_13 ?_
        refine z_iload_n C d_M_printActions_14 2 rfl ?_
        refine z_iadd C d_M_printActions_15 ?_
        refine z_iald C d_M_printActions_16 7 rfl (by omega) ?_
        refine z_if_lt (tgt := 100) C d_M_printActions_17 (by decide) (by omega) (fun c17 => ?_) (fun c17 => ?_)
        ·
          rw [acL_step nm ac p (by omega), hak (by omega), if_pos (by omega)] at hE
          exact z_vret C K d_M_printActions_100 () (by rw [(qg_end hE).1, (qg_end hE).2]) (trivial)
        ·
          rw [acL_step nm ac p (by omega), hak (by omega), if_neg (by omega)] at hE
          refine z_aload_n C d_M_printActions_20 0 rfl ?_
          refine z_get C f_M_43 d_M_printActions_21 0 rfl rfl ?_
          refine z_iconst C d_M_printActions_24 ?_
          refine z_iload_n C d_M_printActions_25 1 rfl ?_
          refine z_imul C d_M_printActions_26 ?_
          refine z_iload_n C d_M_printActions_27 2 rfl ?_
          refine z_iadd C d_M_printActions_28 ?_
          refine z_iald C d_M_printActions_29 7 rfl (by omega) ?_
          refine z_istore_n (lv' := [(3, .int (iI (ac (((4 * p) + k).toNat)))), (0, .ref aM), (1, .int (iI p)), (2, .int (iI k))]) C d_M_printActions_30 (by decide) rfl ?_
          refine z_iload_n C d_M_printActions_31 3 rfl ?_
          refine z_if_le (tgt := 41) C d_M_printActions_32 (by decide) (by omega) (fun c32 => ?_) (fun c32 => ?_)
          ·
            rw [if_neg (show ¬ 0 < k by omega), wl_t.2.2.2.2.2.2.2.2.2.2.1] at hE
            have hp1 := hE
            have hg1 : 0 ≤ q := by omega
            refine z_aload_n C d_M_printActions_41 1 rfl ?_
            refine z_bipush C d_M_printActions_42 (by decide) ?_
            refine z_callv (As := [.int (iI 32)]) (rest := []) (wr := [iA G aNo 48 no, iA G aNf 40 nf, iA G aNg 40 ng, iA G aSo 4200 sF, iA G aWc 48 wch, iA G aAc 1536 ac]) (ws' := fun u => [(aM, .inr (8, [.ref aWc, .int (iI mth), .int (iI msz), .ref aTx, .int (iI (q + 1)), .ref aOu, .int (iI mfa), .int (iI mpl), .int (iI mle), .int (iI mna), .ref aSo, .ref aNf, .ref aNg, .ref aSr, .ref aNu, .ref aMa, .ref aNo, .int (iI mfi), .int (iI mru), .int (iI mnv), .ref aLe, .ref aAc, .ref aDi, .ref aOr, .int (iI mki), .int (iI mfr), .int (iI mto), .int (iI mwh)])), iA G aOu 8192 (wI E q [32]), iA G aNo 48 no, iA G aNf 40 nf, iA G aNg 40 ng, iA G aSo 4200 sF, iA G aWc 48 wch, iA G aAc 1536 ac]) (q0 := 0) C k_M_194 kc_M_say (fun l sz => m_M_say l G sz aM aWc aTx aOu aSo aNf aNg aSr aNu aMa aNo aLe aAc aDi aOr mth msz q mfa mpl mle mna mfi mru mnv mki mfr mto mwh E 32 (by have h9 := qg_fit1 hp1; omega)) rfl rfl (Nat.le_of_ble_eq_true rfl) (by decide) d_M_printActions_44 rfl rfl [0, 1] [2, 3, 4, 5, 6, 7] [6, 7, 0, 1, 2, 3, 4, 5] rfl rfl (by decide) (fun u => rfl) (fun u h44 => ?_)
            show Zc G X 4 0 0 [(aM, .inr (8, [.ref aWc, .int (iI mth), .int (iI msz), .ref aTx, .int (iI (q + 1)), .ref aOu, .int (iI mfa), .int (iI mpl), .int (iI mle), .int (iI mna), .ref aSo, .ref aNf, .ref aNg, .ref aSr, .ref aNu, .ref aMa, .ref aNo, .int (iI mfi), .int (iI mru), .int (iI mnv), .ref aLe, .ref aAc, .ref aDi, .ref aOr, .int (iI mki), .int (iI mfr), .int (iI mto), .int (iI mwh)])), iA G aOu 8192 (wI E q [32]), iA G aNo 48 no, iA G aNf 40 nf, iA G aNg 40 ng, iA G aSo 4200 sF, iA G aWc 48 wch, iA G aAc 1536 ac] [(3, .int (iI (ac (((4 * p) + k).toNat)))), (0, .ref aM), (1, .int (iI p)), (2, .int (iI k))] 47 []
            have hp2 : wI (wI E q [32]) (q + 1) (acW nm (ac (4 * p + k).toNat) ++ acL nm ac p (4 - (k + 1)).toNat (k + 1)) = wI ou mwr (acL nm ac p 4 0) ∧ (q + 1) + ((acW nm (ac (4 * p + k).toNat) ++ acL nm ac p (4 - (k + 1)).toNat (k + 1)).length : Int) = mwr + ((acL nm ac p 4 0).length : Int) := qg_next hp1
            have hg2 : 0 ≤ q + 1 := by omega
            generalize wI E q [32] = E2 at hp2 ⊢
            generalize q + 1 = q2 at hp2 hg2 ⊢
            refine z_aload_n C d_M_printActions_47 1 rfl ?_
            refine z_iload_n C d_M_printActions_48 0 rfl ?_
            refine z_bipush C d_M_printActions_49 (by decide) ?_
            refine z_icmp_ne (tgt := 59) C d_M_printActions_51 (by decide) (by omega) (by omega) (fun c51 => ?_) (fun c51 => ?_)
            ·
              refine z_iload_n C d_M_printActions_59 0 rfl ?_
              refine z_bipush C d_M_printActions_60 (by decide) ?_
              refine z_icmp_ne (tgt := 70) C d_M_printActions_62 (by decide) (by omega) (by omega) (fun c62 => ?_) (fun c62 => ?_)
              ·
                refine z_bipush C d_M_printActions_70 (by decide) ?_
                have ea : acW nm (ac (4 * p + k).toNat) = wtZ 6 ++ ([32] ++ nm (24 + ac (4 * p + k).toNat)) := by unfold acW; rw [if_neg (by omega), if_neg (by omega), wl_t.2.2.2.2.2.2.1, List.append_assoc]
                rw [ea, List.append_assoc, List.append_assoc] at hp2
                refine z_callv (As := [.int (iI 6)]) (rest := []) (wr := [iA G aNo 48 no, iA G aNf 40 nf, iA G aNg 40 ng, iA G aSo 4200 sF, iA G aAc 1536 ac]) (ws' := fun u => [(aM, .inr (8, [.ref aWc, .int (iI mth), .int (iI msz), .ref aTx, .int (iI (q2 + ((wtZ 6).length : Int))), .ref aOu, .int (iI mfa), .int (iI mpl), .int (iI mle), .int (iI mna), .ref aSo, .ref aNf, .ref aNg, .ref aSr, .ref aNu, .ref aMa, .ref aNo, .int (iI mfi), .int (iI mru), .int (iI mnv), .ref aLe, .ref aAc, .ref aDi, .ref aOr, .int (iI mki), .int (iI mfr), .int (iI mto), .int (iI mwh)])), iA G aOu 8192 (wI E2 q2 (wtZ 6)), iA G aNo 48 no, iA G aNf 40 nf, iA G aNg 40 ng, iA G aSo 4200 sF, iA G aWc 48 wch, iA G aAc 1536 ac]) (q0 := 0) C k_M_200 kc_M_sayWord (fun l sz => m_M_sayWord l G sz aM aWc aTx aOu aSo aNf aNg aSr aNu aMa aNo aLe aAc aDi aOr mth msz q2 mfa mpl mle mna mfi mru mnv mki mfr mto mwh E2 6 (by omega) (by have h9 := qg_fit hp2; omega)) rfl rfl (Nat.le_of_ble_eq_true rfl) (by decide) d_M_printActions_72 rfl rfl [0, 1, 6] [2, 3, 4, 5, 7] [5, 6, 0, 1, 2, 3, 7, 4] rfl rfl (by decide) (fun u => rfl) (fun u h72 => ?_)
                show Zc G X 4 0 0 [(aM, .inr (8, [.ref aWc, .int (iI mth), .int (iI msz), .ref aTx, .int (iI (q2 + ((wtZ 6).length : Int))), .ref aOu, .int (iI mfa), .int (iI mpl), .int (iI mle), .int (iI mna), .ref aSo, .ref aNf, .ref aNg, .ref aSr, .ref aNu, .ref aMa, .ref aNo, .int (iI mfi), .int (iI mru), .int (iI mnv), .ref aLe, .ref aAc, .ref aDi, .ref aOr, .int (iI mki), .int (iI mfr), .int (iI mto), .int (iI mwh)])), iA G aOu 8192 (wI E2 q2 (wtZ 6)), iA G aNo 48 no, iA G aNf 40 nf, iA G aNg 40 ng, iA G aSo 4200 sF, iA G aWc 48 wch, iA G aAc 1536 ac] [(3, .int (iI (ac (((4 * p) + k).toNat)))), (0, .ref aM), (1, .int (iI p)), (2, .int (iI k))] 75 []
                have hp3 : wI (wI E2 q2 (wtZ 6)) (q2 + ((wtZ 6).length : Int)) ([32] ++ (nm (24 + ac (4 * p + k).toNat) ++ acL nm ac p (4 - (k + 1)).toNat (k + 1))) = wI ou mwr (acL nm ac p 4 0) ∧ (q2 + ((wtZ 6).length : Int)) + (([32] ++ (nm (24 + ac (4 * p + k).toNat) ++ acL nm ac p (4 - (k + 1)).toNat (k + 1))).length : Int) = mwr + ((acL nm ac p 4 0).length : Int) := qg_next hp2
                have hg3 : 0 ≤ q2 + ((wtZ 6).length : Int) := by omega
                generalize wI E2 q2 (wtZ 6) = E3 at hp3 ⊢
                generalize q2 + ((wtZ 6).length : Int) = q3 at hp3 hg3 ⊢
                refine z_iload_n C d_M_printActions_75 0 rfl ?_
                refine z_bipush C d_M_printActions_76 (by decide) ?_
                refine z_icmp_ge (tgt := 94) C d_M_printActions_78 (by decide) (by omega) (by omega) (fun c78 => ?_) (fun c78 => ?_)
                · exact absurd c78 (by omega)
                ·
                  refine z_aload_n C d_M_printActions_81 1 rfl ?_
                  refine z_bipush C d_M_printActions_82 (by decide) ?_
                  refine z_callv (As := [.int (iI 32)]) (rest := []) (wr := [iA G aNo 48 no, iA G aNf 40 nf, iA G aNg 40 ng, iA G aSo 4200 sF, iA G aWc 48 wch, iA G aAc 1536 ac]) (ws' := fun u => [(aM, .inr (8, [.ref aWc, .int (iI mth), .int (iI msz), .ref aTx, .int (iI (q3 + 1)), .ref aOu, .int (iI mfa), .int (iI mpl), .int (iI mle), .int (iI mna), .ref aSo, .ref aNf, .ref aNg, .ref aSr, .ref aNu, .ref aMa, .ref aNo, .int (iI mfi), .int (iI mru), .int (iI mnv), .ref aLe, .ref aAc, .ref aDi, .ref aOr, .int (iI mki), .int (iI mfr), .int (iI mto), .int (iI mwh)])), iA G aOu 8192 (wI E3 q3 [32]), iA G aNo 48 no, iA G aNf 40 nf, iA G aNg 40 ng, iA G aSo 4200 sF, iA G aWc 48 wch, iA G aAc 1536 ac]) (q0 := 0) C k_M_194 kc_M_say (fun l sz => m_M_say l G sz aM aWc aTx aOu aSo aNf aNg aSr aNu aMa aNo aLe aAc aDi aOr mth msz q3 mfa mpl mle mna mfi mru mnv mki mfr mto mwh E3 32 (by have h9 := qg_fit1 hp3; omega)) rfl rfl (Nat.le_of_ble_eq_true rfl) (by decide) d_M_printActions_84 rfl rfl [0, 1] [2, 3, 4, 5, 6, 7] [6, 7, 0, 1, 2, 3, 4, 5] rfl rfl (by decide) (fun u => rfl) (fun u h84 => ?_)
                  show Zc G X 4 0 0 [(aM, .inr (8, [.ref aWc, .int (iI mth), .int (iI msz), .ref aTx, .int (iI (q3 + 1)), .ref aOu, .int (iI mfa), .int (iI mpl), .int (iI mle), .int (iI mna), .ref aSo, .ref aNf, .ref aNg, .ref aSr, .ref aNu, .ref aMa, .ref aNo, .int (iI mfi), .int (iI mru), .int (iI mnv), .ref aLe, .ref aAc, .ref aDi, .ref aOr, .int (iI mki), .int (iI mfr), .int (iI mto), .int (iI mwh)])), iA G aOu 8192 (wI E3 q3 [32]), iA G aNo 48 no, iA G aNf 40 nf, iA G aNg 40 ng, iA G aSo 4200 sF, iA G aWc 48 wch, iA G aAc 1536 ac] [(3, .int (iI (ac (((4 * p) + k).toNat)))), (0, .ref aM), (1, .int (iI p)), (2, .int (iI k))] 87 []
                  have hp4 : wI (wI E3 q3 [32]) (q3 + 1) (nm (24 + ac (4 * p + k).toNat) ++ acL nm ac p (4 - (k + 1)).toNat (k + 1)) = wI ou mwr (acL nm ac p 4 0) ∧ (q3 + 1) + ((nm (24 + ac (4 * p + k).toNat) ++ acL nm ac p (4 - (k + 1)).toNat (k + 1)).length : Int) = mwr + ((acL nm ac p 4 0).length : Int) := qg_next hp3
                  have hg4 : 0 ≤ q3 + 1 := by omega
                  generalize wI E3 q3 [32] = E4 at hp4 ⊢
                  generalize q3 + 1 = q4 at hp4 hg4 ⊢
                  refine z_aload_n C d_M_printActions_87 1 rfl ?_
                  refine z_iconst C d_M_printActions_88 ?_
                  refine z_iload_n C d_M_printActions_89 0 rfl ?_
                  refine z_calli (As := [.int (iI 2), .int (iI (ac (((4 * p) + k).toNat)))]) (rest := []) (wr := [iA G aWc 48 wch, iA G aAc 1536 ac]) (ws' := fun u => [(aM, .inr (8, [.ref aWc, .int (iI mth), .int (iI msz), .ref aTx, .int (iI (q4 + ((nm (24 + ac (4 * p + k).toNat)).length : Int))), .ref aOu, .int (iI mfa), .int (iI mpl), .int (iI mle), .int (iI mna), .ref aSo, .ref aNf, .ref aNg, .ref aSr, .ref aNu, .ref aMa, .ref aNo, .int (iI mfi), .int (iI mru), .int (iI mnv), .ref aLe, .ref aAc, .ref aDi, .ref aOr, .int (iI mki), .int (iI mfr), .int (iI mto), .int (iI mwh)])), iA G aOu 8192 (wI E4 q4 (nm (24 + ac (4 * p + k).toNat))), iA G aNo 48 no, iA G aNf 40 nf, iA G aNg 40 ng, iA G aSo 4200 sF, iA G aWc 48 wch, iA G aAc 1536 ac]) (q0 := 0) C k_M_197 kc_M_sayName (fun l sz => m_M_sayName l G sz aM aWc aTx aOu aSo aNf aNg aSr aNu aMa aNo aLe aAc aDi aOr mth msz q4 mfa mpl mle mna mfi mru mnv mki mfr mto mwh E4 sF nf ng no ma nm 2 (ac (((4 * p) + k).toNat)) (24 + ac (4 * p + k).toNat) (hnm) (hct) (by omega) (by have h7 := maZ_e ma; have h6 := bas_e; omega) (by have h7 := maZ_e ma; have h6 := bas_e; omega) (by have h9 := qg_fit hp4; omega)) rfl rfl (Nat.le_of_ble_eq_true rfl) (by decide) d_M_printActions_90 rfl rfl [0, 1, 2, 3, 4, 5] [6, 7] [2, 3, 4, 5, 6, 7, 0, 1] rfl rfl (by decide) (fun u => rfl) (fun r u h90 => ?_)
                  obtain rfl := h90
                  show Zc G X 4 0 0 [(aM, .inr (8, [.ref aWc, .int (iI mth), .int (iI msz), .ref aTx, .int (iI (q4 + ((nm (24 + ac (4 * p + k).toNat)).length : Int))), .ref aOu, .int (iI mfa), .int (iI mpl), .int (iI mle), .int (iI mna), .ref aSo, .ref aNf, .ref aNg, .ref aSr, .ref aNu, .ref aMa, .ref aNo, .int (iI mfi), .int (iI mru), .int (iI mnv), .ref aLe, .ref aAc, .ref aDi, .ref aOr, .int (iI mki), .int (iI mfr), .int (iI mto), .int (iI mwh)])), iA G aOu 8192 (wI E4 q4 (nm (24 + ac (4 * p + k).toNat))), iA G aNo 48 no, iA G aNf 40 nf, iA G aNg 40 ng, iA G aSo 4200 sF, iA G aWc 48 wch, iA G aAc 1536 ac] [(3, .int (iI (ac (((4 * p) + k).toNat)))), (0, .ref aM), (1, .int (iI p)), (2, .int (iI k))] 93 [.int (iI ((nm (24 + ac (4 * p + k).toNat)).length : Int))]
                  skip
                  refine z_pop C d_M_printActions_93 rfl ?_
                  have hp5 : wI (wI E4 q4 (nm (24 + ac (4 * p + k).toNat))) (q4 + ((nm (24 + ac (4 * p + k).toNat)).length : Int)) (acL nm ac p (4 - (k + 1)).toNat (k + 1)) = wI ou mwr (acL nm ac p 4 0) ∧ (q4 + ((nm (24 + ac (4 * p + k).toNat)).length : Int)) + ((acL nm ac p (4 - (k + 1)).toNat (k + 1)).length : Int) = mwr + ((acL nm ac p 4 0).length : Int) := qg_next hp4
                  have hg5 : 0 ≤ q4 + ((nm (24 + ac (4 * p + k).toNat)).length : Int) := by omega
                  generalize wI E4 q4 (nm (24 + ac (4 * p + k).toNat)) = E5 at hp5 ⊢
                  generalize q4 + ((nm (24 + ac (4 * p + k).toNat)).length : Int) = q5 at hp5 hg5 ⊢
                  refine z_iinc (lv' := [(2, .int (iI (k + 1))), (3, .int (iI (ac (((4 * p) + k).toNat)))), (0, .ref aM), (1, .int (iI p))]) C d_M_printActions_94 3 rfl (by decide) rfl ?_
                  refine z_goto (tgt := 2) C d_M_printActions_97 (by decide) ?_
                  refine z_lv [2, 3, 0] (lv' := [(0, .ref aM), (1, .int (iI p)), (2, .int (iI (k + 1)))]) rfl ?_
                  exact ih2 _ _ _ (by omega) (hp5) (by omega)
              ·
                refine z_bipush C d_M_printActions_65 (by decide) ?_
                refine z_goto (tgt := 72) C d_M_printActions_67 (by decide) ?_
                have ea : acW nm (ac (4 * p + k).toNat) = wtZ 8 := by unfold acW; rw [if_neg (by omega), if_pos (by omega)]; exact wl_t.2.2.2.2.2.2.2.2.1
                rw [ea] at hp2
                refine z_callv (As := [.int (iI 8)]) (rest := []) (wr := [iA G aNo 48 no, iA G aNf 40 nf, iA G aNg 40 ng, iA G aSo 4200 sF, iA G aAc 1536 ac]) (ws' := fun u => [(aM, .inr (8, [.ref aWc, .int (iI mth), .int (iI msz), .ref aTx, .int (iI (q2 + ((wtZ 8).length : Int))), .ref aOu, .int (iI mfa), .int (iI mpl), .int (iI mle), .int (iI mna), .ref aSo, .ref aNf, .ref aNg, .ref aSr, .ref aNu, .ref aMa, .ref aNo, .int (iI mfi), .int (iI mru), .int (iI mnv), .ref aLe, .ref aAc, .ref aDi, .ref aOr, .int (iI mki), .int (iI mfr), .int (iI mto), .int (iI mwh)])), iA G aOu 8192 (wI E2 q2 (wtZ 8)), iA G aNo 48 no, iA G aNf 40 nf, iA G aNg 40 ng, iA G aSo 4200 sF, iA G aWc 48 wch, iA G aAc 1536 ac]) (q0 := 0) C k_M_200 kc_M_sayWord (fun l sz => m_M_sayWord l G sz aM aWc aTx aOu aSo aNf aNg aSr aNu aMa aNo aLe aAc aDi aOr mth msz q2 mfa mpl mle mna mfi mru mnv mki mfr mto mwh E2 8 (by omega) (by have h9 := qg_fit hp2; omega)) rfl rfl (Nat.le_of_ble_eq_true rfl) (by decide) d_M_printActions_72 rfl rfl [0, 1, 6] [2, 3, 4, 5, 7] [5, 6, 0, 1, 2, 3, 7, 4] rfl rfl (by decide) (fun u => rfl) (fun u h72 => ?_)
                show Zc G X 4 0 0 [(aM, .inr (8, [.ref aWc, .int (iI mth), .int (iI msz), .ref aTx, .int (iI (q2 + ((wtZ 8).length : Int))), .ref aOu, .int (iI mfa), .int (iI mpl), .int (iI mle), .int (iI mna), .ref aSo, .ref aNf, .ref aNg, .ref aSr, .ref aNu, .ref aMa, .ref aNo, .int (iI mfi), .int (iI mru), .int (iI mnv), .ref aLe, .ref aAc, .ref aDi, .ref aOr, .int (iI mki), .int (iI mfr), .int (iI mto), .int (iI mwh)])), iA G aOu 8192 (wI E2 q2 (wtZ 8)), iA G aNo 48 no, iA G aNf 40 nf, iA G aNg 40 ng, iA G aSo 4200 sF, iA G aWc 48 wch, iA G aAc 1536 ac] [(3, .int (iI (ac (((4 * p) + k).toNat)))), (0, .ref aM), (1, .int (iI p)), (2, .int (iI k))] 75 []
                have hp5 : wI (wI E2 q2 (wtZ 8)) (q2 + ((wtZ 8).length : Int)) (acL nm ac p (4 - (k + 1)).toNat (k + 1)) = wI ou mwr (acL nm ac p 4 0) ∧ (q2 + ((wtZ 8).length : Int)) + ((acL nm ac p (4 - (k + 1)).toNat (k + 1)).length : Int) = mwr + ((acL nm ac p 4 0).length : Int) := qg_next hp2
                have hg5 : 0 ≤ q2 + ((wtZ 8).length : Int) := by omega
                generalize wI E2 q2 (wtZ 8) = E5 at hp5 ⊢
                generalize q2 + ((wtZ 8).length : Int) = q5 at hp5 hg5 ⊢
                refine z_iload_n C d_M_printActions_75 0 rfl ?_
                refine z_bipush C d_M_printActions_76 (by decide) ?_
                refine z_icmp_ge (tgt := 94) C d_M_printActions_78 (by decide) (by omega) (by omega) (fun c78 => ?_) (fun c78 => ?_)
                ·
                  refine z_iinc (lv' := [(2, .int (iI (k + 1))), (3, .int (iI (ac (((4 * p) + k).toNat)))), (0, .ref aM), (1, .int (iI p))]) C d_M_printActions_94 3 rfl (by decide) rfl ?_
                  refine z_goto (tgt := 2) C d_M_printActions_97 (by decide) ?_
                  refine z_lv [2, 3, 0] (lv' := [(0, .ref aM), (1, .int (iI p)), (2, .int (iI (k + 1)))]) rfl ?_
                  exact ih2 _ _ _ (by omega) (hp5) (by omega)
                · exact absurd c78 (by omega)
            ·
              refine z_bipush C d_M_printActions_54 (by decide) ?_
              refine z_goto (tgt := 72) C d_M_printActions_56 (by decide) ?_
              have ea : acW nm (ac (4 * p + k).toNat) = wtZ 7 := by unfold acW; rw [if_pos (by omega)]; exact wl_t.2.2.2.2.2.2.2.1
              rw [ea] at hp2
              refine z_callv (As := [.int (iI 7)]) (rest := []) (wr := [iA G aNo 48 no, iA G aNf 40 nf, iA G aNg 40 ng, iA G aSo 4200 sF, iA G aAc 1536 ac]) (ws' := fun u => [(aM, .inr (8, [.ref aWc, .int (iI mth), .int (iI msz), .ref aTx, .int (iI (q2 + ((wtZ 7).length : Int))), .ref aOu, .int (iI mfa), .int (iI mpl), .int (iI mle), .int (iI mna), .ref aSo, .ref aNf, .ref aNg, .ref aSr, .ref aNu, .ref aMa, .ref aNo, .int (iI mfi), .int (iI mru), .int (iI mnv), .ref aLe, .ref aAc, .ref aDi, .ref aOr, .int (iI mki), .int (iI mfr), .int (iI mto), .int (iI mwh)])), iA G aOu 8192 (wI E2 q2 (wtZ 7)), iA G aNo 48 no, iA G aNf 40 nf, iA G aNg 40 ng, iA G aSo 4200 sF, iA G aWc 48 wch, iA G aAc 1536 ac]) (q0 := 0) C k_M_200 kc_M_sayWord (fun l sz => m_M_sayWord l G sz aM aWc aTx aOu aSo aNf aNg aSr aNu aMa aNo aLe aAc aDi aOr mth msz q2 mfa mpl mle mna mfi mru mnv mki mfr mto mwh E2 7 (by omega) (by have h9 := qg_fit hp2; omega)) rfl rfl (Nat.le_of_ble_eq_true rfl) (by decide) d_M_printActions_72 rfl rfl [0, 1, 6] [2, 3, 4, 5, 7] [5, 6, 0, 1, 2, 3, 7, 4] rfl rfl (by decide) (fun u => rfl) (fun u h72 => ?_)
              show Zc G X 4 0 0 [(aM, .inr (8, [.ref aWc, .int (iI mth), .int (iI msz), .ref aTx, .int (iI (q2 + ((wtZ 7).length : Int))), .ref aOu, .int (iI mfa), .int (iI mpl), .int (iI mle), .int (iI mna), .ref aSo, .ref aNf, .ref aNg, .ref aSr, .ref aNu, .ref aMa, .ref aNo, .int (iI mfi), .int (iI mru), .int (iI mnv), .ref aLe, .ref aAc, .ref aDi, .ref aOr, .int (iI mki), .int (iI mfr), .int (iI mto), .int (iI mwh)])), iA G aOu 8192 (wI E2 q2 (wtZ 7)), iA G aNo 48 no, iA G aNf 40 nf, iA G aNg 40 ng, iA G aSo 4200 sF, iA G aWc 48 wch, iA G aAc 1536 ac] [(3, .int (iI (ac (((4 * p) + k).toNat)))), (0, .ref aM), (1, .int (iI p)), (2, .int (iI k))] 75 []
              have hp5 : wI (wI E2 q2 (wtZ 7)) (q2 + ((wtZ 7).length : Int)) (acL nm ac p (4 - (k + 1)).toNat (k + 1)) = wI ou mwr (acL nm ac p 4 0) ∧ (q2 + ((wtZ 7).length : Int)) + ((acL nm ac p (4 - (k + 1)).toNat (k + 1)).length : Int) = mwr + ((acL nm ac p 4 0).length : Int) := qg_next hp2
              have hg5 : 0 ≤ q2 + ((wtZ 7).length : Int) := by omega
              generalize wI E2 q2 (wtZ 7) = E5 at hp5 ⊢
              generalize q2 + ((wtZ 7).length : Int) = q5 at hp5 hg5 ⊢
              refine z_iload_n C d_M_printActions_75 0 rfl ?_
              refine z_bipush C d_M_printActions_76 (by decide) ?_
              refine z_icmp_ge (tgt := 94) C d_M_printActions_78 (by decide) (by omega) (by omega) (fun c78 => ?_) (fun c78 => ?_)
              ·
                refine z_iinc (lv' := [(2, .int (iI (k + 1))), (3, .int (iI (ac (((4 * p) + k).toNat)))), (0, .ref aM), (1, .int (iI p))]) C d_M_printActions_94 3 rfl (by decide) rfl ?_
                refine z_goto (tgt := 2) C d_M_printActions_97 (by decide) ?_
                refine z_lv [2, 3, 0] (lv' := [(0, .ref aM), (1, .int (iI p)), (2, .int (iI (k + 1)))]) rfl ?_
                exact ih2 _ _ _ (by omega) (hp5) (by omega)
              · exact absurd c78 (by omega)
          ·
            rw [if_pos (by omega), wl_t.2.2.2.2.2.2.2.2.2.1, List.append_assoc] at hE
            refine z_aload_n C d_M_printActions_35 1 rfl ?_
            refine z_bipush C d_M_printActions_36 (by decide) ?_
            refine z_callv (As := [.int (iI 44)]) (rest := []) (wr := [iA G aNo 48 no, iA G aNf 40 nf, iA G aNg 40 ng, iA G aSo 4200 sF, iA G aWc 48 wch, iA G aAc 1536 ac]) (ws' := fun u => [(aM, .inr (8, [.ref aWc, .int (iI mth), .int (iI msz), .ref aTx, .int (iI (q + 1)), .ref aOu, .int (iI mfa), .int (iI mpl), .int (iI mle), .int (iI mna), .ref aSo, .ref aNf, .ref aNg, .ref aSr, .ref aNu, .ref aMa, .ref aNo, .int (iI mfi), .int (iI mru), .int (iI mnv), .ref aLe, .ref aAc, .ref aDi, .ref aOr, .int (iI mki), .int (iI mfr), .int (iI mto), .int (iI mwh)])), iA G aOu 8192 (wI E q [44]), iA G aNo 48 no, iA G aNf 40 nf, iA G aNg 40 ng, iA G aSo 4200 sF, iA G aWc 48 wch, iA G aAc 1536 ac]) (q0 := 0) C k_M_194 kc_M_say (fun l sz => m_M_say l G sz aM aWc aTx aOu aSo aNf aNg aSr aNu aMa aNo aLe aAc aDi aOr mth msz q mfa mpl mle mna mfi mru mnv mki mfr mto mwh E 44 (by have h9 := qg_fit1 hE; omega)) rfl rfl (Nat.le_of_ble_eq_true rfl) (by decide) d_M_printActions_38 rfl rfl [0, 1] [2, 3, 4, 5, 6, 7] [6, 7, 0, 1, 2, 3, 4, 5] rfl rfl (by decide) (fun u => rfl) (fun u h38 => ?_)
            show Zc G X 4 0 0 [(aM, .inr (8, [.ref aWc, .int (iI mth), .int (iI msz), .ref aTx, .int (iI (q + 1)), .ref aOu, .int (iI mfa), .int (iI mpl), .int (iI mle), .int (iI mna), .ref aSo, .ref aNf, .ref aNg, .ref aSr, .ref aNu, .ref aMa, .ref aNo, .int (iI mfi), .int (iI mru), .int (iI mnv), .ref aLe, .ref aAc, .ref aDi, .ref aOr, .int (iI mki), .int (iI mfr), .int (iI mto), .int (iI mwh)])), iA G aOu 8192 (wI E q [44]), iA G aNo 48 no, iA G aNf 40 nf, iA G aNg 40 ng, iA G aSo 4200 sF, iA G aWc 48 wch, iA G aAc 1536 ac] [(3, .int (iI (ac (((4 * p) + k).toNat)))), (0, .ref aM), (1, .int (iI p)), (2, .int (iI k))] 41 []
            have hp1 : wI (wI E q [44]) (q + 1) ([32] ++ (acW nm (ac (4 * p + k).toNat) ++ acL nm ac p (4 - (k + 1)).toNat (k + 1))) = wI ou mwr (acL nm ac p 4 0) ∧ (q + 1) + (([32] ++ (acW nm (ac (4 * p + k).toNat) ++ acL nm ac p (4 - (k + 1)).toNat (k + 1))).length : Int) = mwr + ((acL nm ac p 4 0).length : Int) := qg_next hE
            have hg1 : 0 ≤ q + 1 := by omega
            generalize wI E q [44] = E1 at hp1 ⊢
            generalize q + 1 = q1 at hp1 hg1 ⊢
            refine z_aload_n C d_M_printActions_41 1 rfl ?_
            refine z_bipush C d_M_printActions_42 (by decide) ?_
            refine z_callv (As := [.int (iI 32)]) (rest := []) (wr := [iA G aNo 48 no, iA G aNf 40 nf, iA G aNg 40 ng, iA G aSo 4200 sF, iA G aWc 48 wch, iA G aAc 1536 ac]) (ws' := fun u => [(aM, .inr (8, [.ref aWc, .int (iI mth), .int (iI msz), .ref aTx, .int (iI (q1 + 1)), .ref aOu, .int (iI mfa), .int (iI mpl), .int (iI mle), .int (iI mna), .ref aSo, .ref aNf, .ref aNg, .ref aSr, .ref aNu, .ref aMa, .ref aNo, .int (iI mfi), .int (iI mru), .int (iI mnv), .ref aLe, .ref aAc, .ref aDi, .ref aOr, .int (iI mki), .int (iI mfr), .int (iI mto), .int (iI mwh)])), iA G aOu 8192 (wI E1 q1 [32]), iA G aNo 48 no, iA G aNf 40 nf, iA G aNg 40 ng, iA G aSo 4200 sF, iA G aWc 48 wch, iA G aAc 1536 ac]) (q0 := 0) C k_M_194 kc_M_say (fun l sz => m_M_say l G sz aM aWc aTx aOu aSo aNf aNg aSr aNu aMa aNo aLe aAc aDi aOr mth msz q1 mfa mpl mle mna mfi mru mnv mki mfr mto mwh E1 32 (by have h9 := qg_fit1 hp1; omega)) rfl rfl (Nat.le_of_ble_eq_true rfl) (by decide) d_M_printActions_44 rfl rfl [0, 1] [2, 3, 4, 5, 6, 7] [6, 7, 0, 1, 2, 3, 4, 5] rfl rfl (by decide) (fun u => rfl) (fun u h44 => ?_)
            show Zc G X 4 0 0 [(aM, .inr (8, [.ref aWc, .int (iI mth), .int (iI msz), .ref aTx, .int (iI (q1 + 1)), .ref aOu, .int (iI mfa), .int (iI mpl), .int (iI mle), .int (iI mna), .ref aSo, .ref aNf, .ref aNg, .ref aSr, .ref aNu, .ref aMa, .ref aNo, .int (iI mfi), .int (iI mru), .int (iI mnv), .ref aLe, .ref aAc, .ref aDi, .ref aOr, .int (iI mki), .int (iI mfr), .int (iI mto), .int (iI mwh)])), iA G aOu 8192 (wI E1 q1 [32]), iA G aNo 48 no, iA G aNf 40 nf, iA G aNg 40 ng, iA G aSo 4200 sF, iA G aWc 48 wch, iA G aAc 1536 ac] [(3, .int (iI (ac (((4 * p) + k).toNat)))), (0, .ref aM), (1, .int (iI p)), (2, .int (iI k))] 47 []
            have hp2 : wI (wI E1 q1 [32]) (q1 + 1) (acW nm (ac (4 * p + k).toNat) ++ acL nm ac p (4 - (k + 1)).toNat (k + 1)) = wI ou mwr (acL nm ac p 4 0) ∧ (q1 + 1) + ((acW nm (ac (4 * p + k).toNat) ++ acL nm ac p (4 - (k + 1)).toNat (k + 1)).length : Int) = mwr + ((acL nm ac p 4 0).length : Int) := qg_next hp1
            have hg2 : 0 ≤ q1 + 1 := by omega
            generalize wI E1 q1 [32] = E2 at hp2 ⊢
            generalize q1 + 1 = q2 at hp2 hg2 ⊢
            refine z_aload_n C d_M_printActions_47 1 rfl ?_
            refine z_iload_n C d_M_printActions_48 0 rfl ?_
            refine z_bipush C d_M_printActions_49 (by decide) ?_
            refine z_icmp_ne (tgt := 59) C d_M_printActions_51 (by decide) (by omega) (by omega) (fun c51 => ?_) (fun c51 => ?_)
            ·
              refine z_iload_n C d_M_printActions_59 0 rfl ?_
              refine z_bipush C d_M_printActions_60 (by decide) ?_
              refine z_icmp_ne (tgt := 70) C d_M_printActions_62 (by decide) (by omega) (by omega) (fun c62 => ?_) (fun c62 => ?_)
              ·
                refine z_bipush C d_M_printActions_70 (by decide) ?_
                have ea : acW nm (ac (4 * p + k).toNat) = wtZ 6 ++ ([32] ++ nm (24 + ac (4 * p + k).toNat)) := by unfold acW; rw [if_neg (by omega), if_neg (by omega), wl_t.2.2.2.2.2.2.1, List.append_assoc]
                rw [ea, List.append_assoc, List.append_assoc] at hp2
                refine z_callv (As := [.int (iI 6)]) (rest := []) (wr := [iA G aNo 48 no, iA G aNf 40 nf, iA G aNg 40 ng, iA G aSo 4200 sF, iA G aAc 1536 ac]) (ws' := fun u => [(aM, .inr (8, [.ref aWc, .int (iI mth), .int (iI msz), .ref aTx, .int (iI (q2 + ((wtZ 6).length : Int))), .ref aOu, .int (iI mfa), .int (iI mpl), .int (iI mle), .int (iI mna), .ref aSo, .ref aNf, .ref aNg, .ref aSr, .ref aNu, .ref aMa, .ref aNo, .int (iI mfi), .int (iI mru), .int (iI mnv), .ref aLe, .ref aAc, .ref aDi, .ref aOr, .int (iI mki), .int (iI mfr), .int (iI mto), .int (iI mwh)])), iA G aOu 8192 (wI E2 q2 (wtZ 6)), iA G aNo 48 no, iA G aNf 40 nf, iA G aNg 40 ng, iA G aSo 4200 sF, iA G aWc 48 wch, iA G aAc 1536 ac]) (q0 := 0) C k_M_200 kc_M_sayWord (fun l sz => m_M_sayWord l G sz aM aWc aTx aOu aSo aNf aNg aSr aNu aMa aNo aLe aAc aDi aOr mth msz q2 mfa mpl mle mna mfi mru mnv mki mfr mto mwh E2 6 (by omega) (by have h9 := qg_fit hp2; omega)) rfl rfl (Nat.le_of_ble_eq_true rfl) (by decide) d_M_printActions_72 rfl rfl [0, 1, 6] [2, 3, 4, 5, 7] [5, 6, 0, 1, 2, 3, 7, 4] rfl rfl (by decide) (fun u => rfl) (fun u h72 => ?_)
                show Zc G X 4 0 0 [(aM, .inr (8, [.ref aWc, .int (iI mth), .int (iI msz), .ref aTx, .int (iI (q2 + ((wtZ 6).length : Int))), .ref aOu, .int (iI mfa), .int (iI mpl), .int (iI mle), .int (iI mna), .ref aSo, .ref aNf, .ref aNg, .ref aSr, .ref aNu, .ref aMa, .ref aNo, .int (iI mfi), .int (iI mru), .int (iI mnv), .ref aLe, .ref aAc, .ref aDi, .ref aOr, .int (iI mki), .int (iI mfr), .int (iI mto), .int (iI mwh)])), iA G aOu 8192 (wI E2 q2 (wtZ 6)), iA G aNo 48 no, iA G aNf 40 nf, iA G aNg 40 ng, iA G aSo 4200 sF, iA G aWc 48 wch, iA G aAc 1536 ac] [(3, .int (iI (ac (((4 * p) + k).toNat)))), (0, .ref aM), (1, .int (iI p)), (2, .int (iI k))] 75 []
                have hp3 : wI (wI E2 q2 (wtZ 6)) (q2 + ((wtZ 6).length : Int)) ([32] ++ (nm (24 + ac (4 * p + k).toNat) ++ acL nm ac p (4 - (k + 1)).toNat (k + 1))) = wI ou mwr (acL nm ac p 4 0) ∧ (q2 + ((wtZ 6).length : Int)) + (([32] ++ (nm (24 + ac (4 * p + k).toNat) ++ acL nm ac p (4 - (k + 1)).toNat (k + 1))).length : Int) = mwr + ((acL nm ac p 4 0).length : Int) := qg_next hp2
                have hg3 : 0 ≤ q2 + ((wtZ 6).length : Int) := by omega
                generalize wI E2 q2 (wtZ 6) = E3 at hp3 ⊢
                generalize q2 + ((wtZ 6).length : Int) = q3 at hp3 hg3 ⊢
                refine z_iload_n C d_M_printActions_75 0 rfl ?_
                refine z_bipush C d_M_printActions_76 (by decide) ?_
                refine z_icmp_ge (tgt := 94) C d_M_printActions_78 (by decide) (by omega) (by omega) (fun c78 => ?_) (fun c78 => ?_)
                · exact absurd c78 (by omega)
                ·
                  refine z_aload_n C d_M_printActions_81 1 rfl ?_
                  refine z_bipush C d_M_printActions_82 (by decide) ?_
                  refine z_callv (As := [.int (iI 32)]) (rest := []) (wr := [iA G aNo 48 no, iA G aNf 40 nf, iA G aNg 40 ng, iA G aSo 4200 sF, iA G aWc 48 wch, iA G aAc 1536 ac]) (ws' := fun u => [(aM, .inr (8, [.ref aWc, .int (iI mth), .int (iI msz), .ref aTx, .int (iI (q3 + 1)), .ref aOu, .int (iI mfa), .int (iI mpl), .int (iI mle), .int (iI mna), .ref aSo, .ref aNf, .ref aNg, .ref aSr, .ref aNu, .ref aMa, .ref aNo, .int (iI mfi), .int (iI mru), .int (iI mnv), .ref aLe, .ref aAc, .ref aDi, .ref aOr, .int (iI mki), .int (iI mfr), .int (iI mto), .int (iI mwh)])), iA G aOu 8192 (wI E3 q3 [32]), iA G aNo 48 no, iA G aNf 40 nf, iA G aNg 40 ng, iA G aSo 4200 sF, iA G aWc 48 wch, iA G aAc 1536 ac]) (q0 := 0) C k_M_194 kc_M_say (fun l sz => m_M_say l G sz aM aWc aTx aOu aSo aNf aNg aSr aNu aMa aNo aLe aAc aDi aOr mth msz q3 mfa mpl mle mna mfi mru mnv mki mfr mto mwh E3 32 (by have h9 := qg_fit1 hp3; omega)) rfl rfl (Nat.le_of_ble_eq_true rfl) (by decide) d_M_printActions_84 rfl rfl [0, 1] [2, 3, 4, 5, 6, 7] [6, 7, 0, 1, 2, 3, 4, 5] rfl rfl (by decide) (fun u => rfl) (fun u h84 => ?_)
                  show Zc G X 4 0 0 [(aM, .inr (8, [.ref aWc, .int (iI mth), .int (iI msz), .ref aTx, .int (iI (q3 + 1)), .ref aOu, .int (iI mfa), .int (iI mpl), .int (iI mle), .int (iI mna), .ref aSo, .ref aNf, .ref aNg, .ref aSr, .ref aNu, .ref aMa, .ref aNo, .int (iI mfi), .int (iI mru), .int (iI mnv), .ref aLe, .ref aAc, .ref aDi, .ref aOr, .int (iI mki), .int (iI mfr), .int (iI mto), .int (iI mwh)])), iA G aOu 8192 (wI E3 q3 [32]), iA G aNo 48 no, iA G aNf 40 nf, iA G aNg 40 ng, iA G aSo 4200 sF, iA G aWc 48 wch, iA G aAc 1536 ac] [(3, .int (iI (ac (((4 * p) + k).toNat)))), (0, .ref aM), (1, .int (iI p)), (2, .int (iI k))] 87 []
                  have hp4 : wI (wI E3 q3 [32]) (q3 + 1) (nm (24 + ac (4 * p + k).toNat) ++ acL nm ac p (4 - (k + 1)).toNat (k + 1)) = wI ou mwr (acL nm ac p 4 0) ∧ (q3 + 1) + ((nm (24 + ac (4 * p + k).toNat) ++ acL nm ac p (4 - (k + 1)).toNat (k + 1)).length : Int) = mwr + ((acL nm ac p 4 0).length : Int) := qg_next hp3
                  have hg4 : 0 ≤ q3 + 1 := by omega
                  generalize wI E3 q3 [32] = E4 at hp4 ⊢
                  generalize q3 + 1 = q4 at hp4 hg4 ⊢
                  refine z_aload_n C d_M_printActions_87 1 rfl ?_
                  refine z_iconst C d_M_printActions_88 ?_
                  refine z_iload_n C d_M_printActions_89 0 rfl ?_
                  refine z_calli (As := [.int (iI 2), .int (iI (ac (((4 * p) + k).toNat)))]) (rest := []) (wr := [iA G aWc 48 wch, iA G aAc 1536 ac]) (ws' := fun u => [(aM, .inr (8, [.ref aWc, .int (iI mth), .int (iI msz), .ref aTx, .int (iI (q4 + ((nm (24 + ac (4 * p + k).toNat)).length : Int))), .ref aOu, .int (iI mfa), .int (iI mpl), .int (iI mle), .int (iI mna), .ref aSo, .ref aNf, .ref aNg, .ref aSr, .ref aNu, .ref aMa, .ref aNo, .int (iI mfi), .int (iI mru), .int (iI mnv), .ref aLe, .ref aAc, .ref aDi, .ref aOr, .int (iI mki), .int (iI mfr), .int (iI mto), .int (iI mwh)])), iA G aOu 8192 (wI E4 q4 (nm (24 + ac (4 * p + k).toNat))), iA G aNo 48 no, iA G aNf 40 nf, iA G aNg 40 ng, iA G aSo 4200 sF, iA G aWc 48 wch, iA G aAc 1536 ac]) (q0 := 0) C k_M_197 kc_M_sayName (fun l sz => m_M_sayName l G sz aM aWc aTx aOu aSo aNf aNg aSr aNu aMa aNo aLe aAc aDi aOr mth msz q4 mfa mpl mle mna mfi mru mnv mki mfr mto mwh E4 sF nf ng no ma nm 2 (ac (((4 * p) + k).toNat)) (24 + ac (4 * p + k).toNat) (hnm) (hct) (by omega) (by have h7 := maZ_e ma; have h6 := bas_e; omega) (by have h7 := maZ_e ma; have h6 := bas_e; omega) (by have h9 := qg_fit hp4; omega)) rfl rfl (Nat.le_of_ble_eq_true rfl) (by decide) d_M_printActions_90 rfl rfl [0, 1, 2, 3, 4, 5] [6, 7] [2, 3, 4, 5, 6, 7, 0, 1] rfl rfl (by decide) (fun u => rfl) (fun r u h90 => ?_)
                  obtain rfl := h90
                  show Zc G X 4 0 0 [(aM, .inr (8, [.ref aWc, .int (iI mth), .int (iI msz), .ref aTx, .int (iI (q4 + ((nm (24 + ac (4 * p + k).toNat)).length : Int))), .ref aOu, .int (iI mfa), .int (iI mpl), .int (iI mle), .int (iI mna), .ref aSo, .ref aNf, .ref aNg, .ref aSr, .ref aNu, .ref aMa, .ref aNo, .int (iI mfi), .int (iI mru), .int (iI mnv), .ref aLe, .ref aAc, .ref aDi, .ref aOr, .int (iI mki), .int (iI mfr), .int (iI mto), .int (iI mwh)])), iA G aOu 8192 (wI E4 q4 (nm (24 + ac (4 * p + k).toNat))), iA G aNo 48 no, iA G aNf 40 nf, iA G aNg 40 ng, iA G aSo 4200 sF, iA G aWc 48 wch, iA G aAc 1536 ac] [(3, .int (iI (ac (((4 * p) + k).toNat)))), (0, .ref aM), (1, .int (iI p)), (2, .int (iI k))] 93 [.int (iI ((nm (24 + ac (4 * p + k).toNat)).length : Int))]
                  skip
                  refine z_pop C d_M_printActions_93 rfl ?_
                  have hp5 : wI (wI E4 q4 (nm (24 + ac (4 * p + k).toNat))) (q4 + ((nm (24 + ac (4 * p + k).toNat)).length : Int)) (acL nm ac p (4 - (k + 1)).toNat (k + 1)) = wI ou mwr (acL nm ac p 4 0) ∧ (q4 + ((nm (24 + ac (4 * p + k).toNat)).length : Int)) + ((acL nm ac p (4 - (k + 1)).toNat (k + 1)).length : Int) = mwr + ((acL nm ac p 4 0).length : Int) := qg_next hp4
                  have hg5 : 0 ≤ q4 + ((nm (24 + ac (4 * p + k).toNat)).length : Int) := by omega
                  generalize wI E4 q4 (nm (24 + ac (4 * p + k).toNat)) = E5 at hp5 ⊢
                  generalize q4 + ((nm (24 + ac (4 * p + k).toNat)).length : Int) = q5 at hp5 hg5 ⊢
                  refine z_iinc (lv' := [(2, .int (iI (k + 1))), (3, .int (iI (ac (((4 * p) + k).toNat)))), (0, .ref aM), (1, .int (iI p))]) C d_M_printActions_94 3 rfl (by decide) rfl ?_
                  refine z_goto (tgt := 2) C d_M_printActions_97 (by decide) ?_
                  refine z_lv [2, 3, 0] (lv' := [(0, .ref aM), (1, .int (iI p)), (2, .int (iI (k + 1)))]) rfl ?_
                  exact ih2 _ _ _ (by omega) (hp5) (by omega)
              ·
                refine z_bipush C d_M_printActions_65 (by decide) ?_
                refine z_goto (tgt := 72) C d_M_printActions_67 (by decide) ?_
                have ea : acW nm (ac (4 * p + k).toNat) = wtZ 8 := by unfold acW; rw [if_neg (by omega), if_pos (by omega)]; exact wl_t.2.2.2.2.2.2.2.2.1
                rw [ea] at hp2
                refine z_callv (As := [.int (iI 8)]) (rest := []) (wr := [iA G aNo 48 no, iA G aNf 40 nf, iA G aNg 40 ng, iA G aSo 4200 sF, iA G aAc 1536 ac]) (ws' := fun u => [(aM, .inr (8, [.ref aWc, .int (iI mth), .int (iI msz), .ref aTx, .int (iI (q2 + ((wtZ 8).length : Int))), .ref aOu, .int (iI mfa), .int (iI mpl), .int (iI mle), .int (iI mna), .ref aSo, .ref aNf, .ref aNg, .ref aSr, .ref aNu, .ref aMa, .ref aNo, .int (iI mfi), .int (iI mru), .int (iI mnv), .ref aLe, .ref aAc, .ref aDi, .ref aOr, .int (iI mki), .int (iI mfr), .int (iI mto), .int (iI mwh)])), iA G aOu 8192 (wI E2 q2 (wtZ 8)), iA G aNo 48 no, iA G aNf 40 nf, iA G aNg 40 ng, iA G aSo 4200 sF, iA G aWc 48 wch, iA G aAc 1536 ac]) (q0 := 0) C k_M_200 kc_M_sayWord (fun l sz => m_M_sayWord l G sz aM aWc aTx aOu aSo aNf aNg aSr aNu aMa aNo aLe aAc aDi aOr mth msz q2 mfa mpl mle mna mfi mru mnv mki mfr mto mwh E2 8 (by omega) (by have h9 := qg_fit hp2; omega)) rfl rfl (Nat.le_of_ble_eq_true rfl) (by decide) d_M_printActions_72 rfl rfl [0, 1, 6] [2, 3, 4, 5, 7] [5, 6, 0, 1, 2, 3, 7, 4] rfl rfl (by decide) (fun u => rfl) (fun u h72 => ?_)
                show Zc G X 4 0 0 [(aM, .inr (8, [.ref aWc, .int (iI mth), .int (iI msz), .ref aTx, .int (iI (q2 + ((wtZ 8).length : Int))), .ref aOu, .int (iI mfa), .int (iI mpl), .int (iI mle), .int (iI mna), .ref aSo, .ref aNf, .ref aNg, .ref aSr, .ref aNu, .ref aMa, .ref aNo, .int (iI mfi), .int (iI mru), .int (iI mnv), .ref aLe, .ref aAc, .ref aDi, .ref aOr, .int (iI mki), .int (iI mfr), .int (iI mto), .int (iI mwh)])), iA G aOu 8192 (wI E2 q2 (wtZ 8)), iA G aNo 48 no, iA G aNf 40 nf, iA G aNg 40 ng, iA G aSo 4200 sF, iA G aWc 48 wch, iA G aAc 1536 ac] [(3, .int (iI (ac (((4 * p) + k).toNat)))), (0, .ref aM), (1, .int (iI p)), (2, .int (iI k))] 75 []
                have hp5 : wI (wI E2 q2 (wtZ 8)) (q2 + ((wtZ 8).length : Int)) (acL nm ac p (4 - (k + 1)).toNat (k + 1)) = wI ou mwr (acL nm ac p 4 0) ∧ (q2 + ((wtZ 8).length : Int)) + ((acL nm ac p (4 - (k + 1)).toNat (k + 1)).length : Int) = mwr + ((acL nm ac p 4 0).length : Int) := qg_next hp2
                have hg5 : 0 ≤ q2 + ((wtZ 8).length : Int) := by omega
                generalize wI E2 q2 (wtZ 8) = E5 at hp5 ⊢
                generalize q2 + ((wtZ 8).length : Int) = q5 at hp5 hg5 ⊢
                refine z_iload_n C d_M_printActions_75 0 rfl ?_
                refine z_bipush C d_M_printActions_76 (by decide) ?_
                refine z_icmp_ge (tgt := 94) C d_M_printActions_78 (by decide) (by omega) (by omega) (fun c78 => ?_) (fun c78 => ?_)
                ·
                  refine z_iinc (lv' := [(2, .int (iI (k + 1))), (3, .int (iI (ac (((4 * p) + k).toNat)))), (0, .ref aM), (1, .int (iI p))]) C d_M_printActions_94 3 rfl (by decide) rfl ?_
                  refine z_goto (tgt := 2) C d_M_printActions_97 (by decide) ?_
                  refine z_lv [2, 3, 0] (lv' := [(0, .ref aM), (1, .int (iI p)), (2, .int (iI (k + 1)))]) rfl ?_
                  exact ih2 _ _ _ (by omega) (hp5) (by omega)
                · exact absurd c78 (by omega)
            ·
              refine z_bipush C d_M_printActions_54 (by decide) ?_
              refine z_goto (tgt := 72) C d_M_printActions_56 (by decide) ?_
              have ea : acW nm (ac (4 * p + k).toNat) = wtZ 7 := by unfold acW; rw [if_pos (by omega)]; exact wl_t.2.2.2.2.2.2.2.1
              rw [ea] at hp2
              refine z_callv (As := [.int (iI 7)]) (rest := []) (wr := [iA G aNo 48 no, iA G aNf 40 nf, iA G aNg 40 ng, iA G aSo 4200 sF, iA G aAc 1536 ac]) (ws' := fun u => [(aM, .inr (8, [.ref aWc, .int (iI mth), .int (iI msz), .ref aTx, .int (iI (q2 + ((wtZ 7).length : Int))), .ref aOu, .int (iI mfa), .int (iI mpl), .int (iI mle), .int (iI mna), .ref aSo, .ref aNf, .ref aNg, .ref aSr, .ref aNu, .ref aMa, .ref aNo, .int (iI mfi), .int (iI mru), .int (iI mnv), .ref aLe, .ref aAc, .ref aDi, .ref aOr, .int (iI mki), .int (iI mfr), .int (iI mto), .int (iI mwh)])), iA G aOu 8192 (wI E2 q2 (wtZ 7)), iA G aNo 48 no, iA G aNf 40 nf, iA G aNg 40 ng, iA G aSo 4200 sF, iA G aWc 48 wch, iA G aAc 1536 ac]) (q0 := 0) C k_M_200 kc_M_sayWord (fun l sz => m_M_sayWord l G sz aM aWc aTx aOu aSo aNf aNg aSr aNu aMa aNo aLe aAc aDi aOr mth msz q2 mfa mpl mle mna mfi mru mnv mki mfr mto mwh E2 7 (by omega) (by have h9 := qg_fit hp2; omega)) rfl rfl (Nat.le_of_ble_eq_true rfl) (by decide) d_M_printActions_72 rfl rfl [0, 1, 6] [2, 3, 4, 5, 7] [5, 6, 0, 1, 2, 3, 7, 4] rfl rfl (by decide) (fun u => rfl) (fun u h72 => ?_)
              show Zc G X 4 0 0 [(aM, .inr (8, [.ref aWc, .int (iI mth), .int (iI msz), .ref aTx, .int (iI (q2 + ((wtZ 7).length : Int))), .ref aOu, .int (iI mfa), .int (iI mpl), .int (iI mle), .int (iI mna), .ref aSo, .ref aNf, .ref aNg, .ref aSr, .ref aNu, .ref aMa, .ref aNo, .int (iI mfi), .int (iI mru), .int (iI mnv), .ref aLe, .ref aAc, .ref aDi, .ref aOr, .int (iI mki), .int (iI mfr), .int (iI mto), .int (iI mwh)])), iA G aOu 8192 (wI E2 q2 (wtZ 7)), iA G aNo 48 no, iA G aNf 40 nf, iA G aNg 40 ng, iA G aSo 4200 sF, iA G aWc 48 wch, iA G aAc 1536 ac] [(3, .int (iI (ac (((4 * p) + k).toNat)))), (0, .ref aM), (1, .int (iI p)), (2, .int (iI k))] 75 []
              have hp5 : wI (wI E2 q2 (wtZ 7)) (q2 + ((wtZ 7).length : Int)) (acL nm ac p (4 - (k + 1)).toNat (k + 1)) = wI ou mwr (acL nm ac p 4 0) ∧ (q2 + ((wtZ 7).length : Int)) + ((acL nm ac p (4 - (k + 1)).toNat (k + 1)).length : Int) = mwr + ((acL nm ac p 4 0).length : Int) := qg_next hp2
              have hg5 : 0 ≤ q2 + ((wtZ 7).length : Int) := by omega
              generalize wI E2 q2 (wtZ 7) = E5 at hp5 ⊢
              generalize q2 + ((wtZ 7).length : Int) = q5 at hp5 hg5 ⊢
              refine z_iload_n C d_M_printActions_75 0 rfl ?_
              refine z_bipush C d_M_printActions_76 (by decide) ?_
              refine z_icmp_ge (tgt := 94) C d_M_printActions_78 (by decide) (by omega) (by omega) (fun c78 => ?_) (fun c78 => ?_)
              ·
                refine z_iinc (lv' := [(2, .int (iI (k + 1))), (3, .int (iI (ac (((4 * p) + k).toNat)))), (0, .ref aM), (1, .int (iI p))]) C d_M_printActions_94 3 rfl (by decide) rfl ?_
                refine z_goto (tgt := 2) C d_M_printActions_97 (by decide) ?_
                refine z_lv [2, 3, 0] (lv' := [(0, .ref aM), (1, .int (iI p)), (2, .int (iI (k + 1)))]) rfl ?_
                exact ih2 _ _ _ (by omega) (hp5) (by omega)
              · exact absurd c78 (by omega)
  refine z_lv [1, 2, 0] (lv' := [(0, .ref aM), (1, .int (iI p)), (2, .int (iI 0))]) rfl ?_
  exact loop2 (_ + 1) _ _ _ (by omega) (⟨rfl, rfl⟩) (Nat.lt_succ_self _)
