set_option maxHeartbeats 4000000 in
set_option maxRecDepth 100000 in
theorem m_M_takePair (l : Launch) (G : GG) (sz : Nat) (aM : Nat) (aWc : Nat) (aTx : Nat) (aOu : Nat) (aSo : Nat) (aNf : Nat) (aNg : Nat) (aSr : Nat) (aNu : Nat) (aMa : Nat) (aNo : Nat) (aLe : Nat) (aAc : Nat) (aDi : Nat) (aOr : Nat) (mth : Int) (msz : Int) (mwr : Int) (mfa : Int) (mpl : Int) (mle : Int) (mna : Int) (mfi : Int) (mru : Int) (mnv : Int) (mki : Int) (mfr : Int) (mto : Int) (mwh : Int) (sF : Nat → Int) (nf : Nat → Int) (ng : Nat → Int) (sr : Nat → Int) (nu : Nat → Int) (ma : Nat → Int) (no : Nat → Int) (le : Nat → Int) (ug : Nat → Int) (N : NL) (R : Int × Int × Cf) (p : Int) (c : Cf) (c2 : Int → Cf) (s : Int) (hS : Sim R sF mle mfa mpl mfr mto mki mwh p c) (hu : u8 sF) (hn : 0 ≤ mle ∧ mle ≤ 4096) (hq : 0 ≤ mki ∧ mki ≤ 3 ∧ -1 ≤ mwh ∧ mwh ≤ 255 ∧ 0 ≤ mto ∧ mto ≤ mle) (hM : NamM sF nf ng sr nu ma no mna N) (hs : 0 ≤ s ∧ s < 16) (hg : gol ug) (hle : ∀ j, j < 384 → le j = ug j) (hst : mfa = 0 → stp c (lxK (bF sF) mle p) (wA (bF sF) mle p) = if ¬ ffl N (lxK (bF sF) mle p) (wA (bF sF) mle p) 1 2 = 0 then (ffl N (lxK (bF sF) mle p) (wA (bF sF) mle p) 1 2, c) else if ¬ ug (s * 24 + slt N (fdI (wA (bF sF) mle p) N).toNat - 16).toNat = -1 then (7, c) else (0, c2 (s * 24 + slt N (fdI (wA (bF sF) mle p) N).toNat - 16))) : MetI l G sz y_M_takePair c_M_takePair 4 (some .int) ({ frames := 3, cells := 0, slots := 0, locals := 68 } : Room) [.ref aM, .int (iI s)] [(aM, .inr (8, [.ref aWc, .int (iI mth), .int (iI msz), .ref aTx, .int (iI mwr), .ref aOu, .int (iI mfa), .int (iI mpl), .int (iI mle), .int (iI mna), .ref aSo, .ref aNf, .ref aNg, .ref aSr, .ref aNu, .ref aMa, .ref aNo, .int (iI mfi), .int (iI mru), .int (iI mnv), .ref aLe, .ref aAc, .ref aDi, .ref aOr, .int (iI mki), .int (iI mfr), .int (iI mto), .int (iI mwh)])), iA G aSo 4200 sF, iA G aWc 48 wch, iA G aNf 40 nf, iA G aNg 40 ng, iA G aSr 40 sr, iA G aNu 40 nu, iA G aLe 384 le] (fun (r : Int32) (u : Int × Int × Int × Int × Int × Int × Int × Int) => r = iI u.1 ∧ (Sim R sF mle u.2.1 u.2.2.1 u.2.2.2.1 u.2.2.2.2.1 u.2.2.2.2.2.1 u.2.2.2.2.2.2.1 u.2.2.2.2.2.2.2 (c2 u.1)) ∧ (0 ≤ u.2.2.2.2.2.1 ∧ u.2.2.2.2.2.1 ≤ 3 ∧ -1 ≤ u.2.2.2.2.2.2.1 ∧ u.2.2.2.2.2.2.1 ≤ 255 ∧ 0 ≤ u.2.2.2.2.1 ∧ u.2.2.2.2.1 ≤ mle) ∧ (0 ≤ u.1 ∧ u.1 < 384) ∧ (u.2.1 = 0 → mfa = 0 ∧ p < u.2.2.2.2.2.2.2)) (fun (u : Int × Int × Int × Int × Int × Int × Int × Int) => [(aM, .inr (8, [.ref aWc, .int (iI mth), .int (iI msz), .ref aTx, .int (iI mwr), .ref aOu, .int (iI u.2.1), .int (iI u.2.2.1), .int (iI mle), .int (iI mna), .ref aSo, .ref aNf, .ref aNg, .ref aSr, .ref aNu, .ref aMa, .ref aNo, .int (iI mfi), .int (iI mru), .int (iI mnv), .ref aLe, .ref aAc, .ref aDi, .ref aOr, .int (iI u.2.2.2.2.2.1), .int (iI u.2.2.2.1), .int (iI u.2.2.2.2.1), .int (iI u.2.2.2.2.2.2.1)])), iA G aSo 4200 sF, iA G aWc 48 wch, iA G aNf 40 nf, iA G aNg 40 ng, iA G aSr 40 sr, iA G aNu 40 nu, iA G aLe 384 le]) := by
  refine MetI.mk (by decide) (Nat.le_of_ble_eq_true rfl) (fun X C K => ?_)
  show Zc G X 4 0 0 [(aM, .inr (8, [.ref aWc, .int (iI mth), .int (iI msz), .ref aTx, .int (iI mwr), .ref aOu, .int (iI mfa), .int (iI mpl), .int (iI mle), .int (iI mna), .ref aSo, .ref aNf, .ref aNg, .ref aSr, .ref aNu, .ref aMa, .ref aNo, .int (iI mfi), .int (iI mru), .int (iI mnv), .ref aLe, .ref aAc, .ref aDi, .ref aOr, .int (iI mki), .int (iI mfr), .int (iI mto), .int (iI mwh)])), iA G aSo 4200 sF, iA G aWc 48 wch, iA G aNf 40 nf, iA G aNg 40 ng, iA G aSr 40 sr, iA G aNu 40 nu, iA G aLe 384 le] [(0, .ref aM), (1, .int (iI s))] 0 []
  have hf07 := Sim_rg hS
  refine z_aload_n C d_M_takePair_0 0 rfl ?_
  refine z_iconst C d_M_takePair_1 ?_
  refine z_iconst C d_M_takePair_2 ?_
  refine z_calli (As := [.int (iI 1), .int (iI 2)]) (rest := []) (wr := [iA G aWc 48 wch, iA G aNu 40 nu, iA G aLe 384 le]) (ws' := fun u => [(aM, .inr (8, [.ref aWc, .int (iI mth), .int (iI msz), .ref aTx, .int (iI mwr), .ref aOu, .int (iI u.2.1), .int (iI u.2.2), .int (iI mle), .int (iI mna), .ref aSo, .ref aNf, .ref aNg, .ref aSr, .ref aNu, .ref aMa, .ref aNo, .int (iI mfi), .int (iI mru), .int (iI mnv), .ref aLe, .ref aAc, .ref aDi, .ref aOr, .int (iI mki), .int (iI mfr), .int (iI mto), .int (iI mwh)])), iA G aSo 4200 sF, iA G aWc 48 wch, iA G aNf 40 nf, iA G aNg 40 ng, iA G aSr 40 sr, iA G aNu 40 nu, iA G aLe 384 le]) (q0 := 0) C k_M_124 kc_M_oldName (fun l sz => m_M_oldName l G sz aM aWc aTx aOu aSo aNf aNg aSr aNu aMa aNo aLe aAc aDi aOr mth msz mwr mfa mpl mle mna mfi mru mnv mki mfr mto mwh sF nf ng sr nu ma no N R p c 1 2 (hS) (hu) (hn) (hq) (hM) (by omega)) rfl rfl (Nat.le_of_ble_eq_true rfl) (by decide) d_M_takePair_3 rfl rfl [0, 1, 3, 4, 5] [2, 6, 7] [3, 4, 0, 5, 6, 7, 1, 2] rfl rfl (by decide) (fun u => rfl) (fun r u h3 => ?_)
  obtain ⟨rr_3, fa2_3, pl2_3⟩ := u
  obtain ⟨rfl, hx_3, ho_3⟩ := h3
  have hx_3 : ¬ mfa = 0 → fa2_3 = mfa ∧ pl2_3 = mpl ∧ rr_3 = 0 := hx_3
  have ho_3 : mfa = 0 → (ffl N (lxK (bF sF) mle p) (wA (bF sF) mle p) 1 2 = 0 → fa2_3 = 0 ∧ pl2_3 = mpl ∧ rr_3 = fdI (wA (bF sF) mle p) N) ∧ (¬ ffl N (lxK (bF sF) mle p) (wA (bF sF) mle p) 1 2 = 0 → fa2_3 = ffl N (lxK (bF sF) mle p) (wA (bF sF) mle p) 1 2 ∧ pl2_3 = mfr ∧ rr_3 = 0) := ho_3
  show Zc G X 4 0 0 [(aM, .inr (8, [.ref aWc, .int (iI mth), .int (iI msz), .ref aTx, .int (iI mwr), .ref aOu, .int (iI fa2_3), .int (iI pl2_3), .int (iI mle), .int (iI mna), .ref aSo, .ref aNf, .ref aNg, .ref aSr, .ref aNu, .ref aMa, .ref aNo, .int (iI mfi), .int (iI mru), .int (iI mnv), .ref aLe, .ref aAc, .ref aDi, .ref aOr, .int (iI mki), .int (iI mfr), .int (iI mto), .int (iI mwh)])), iA G aSo 4200 sF, iA G aWc 48 wch, iA G aNf 40 nf, iA G aNg 40 ng, iA G aSr 40 sr, iA G aNu 40 nu, iA G aLe 384 le] [(0, .ref aM), (1, .int (iI s))] 6 [.int (iI rr_3)]
  refine z_istore_n (lv' := [(2, .int (iI rr_3)), (0, .ref aM), (1, .int (iI s))]) C d_M_takePair_6 (by decide) rfl ?_
  have hfg := Sim_okf hx_3 ho_3 hf07
  refine z_aload_n C d_M_takePair_7 1 rfl ?_
  refine z_get C f_M_70 d_M_takePair_8 0 rfl rfl ?_
  refine z_if_le (tgt := 16) C d_M_takePair_11 (by decide) (by omega) (fun c11 => ?_) (fun c11 => ?_)
  ·
    have hfz : fa2_3 = 0 := by omega
    have h0 : mfa = 0 := Decidable.byContradiction (fun z => by have := hx_3 z; omega)
    obtain ⟨hp, hfr, hto, hkd, hk1, hR⟩ := Sim_0 hS h0
    have hkr := lxK_rg (bF sF) mle p
    have hki := kdR_i hkd (by omega)
    have hlr := lx_rg (bF sF) hp.2
    have hla := lxA_rg (bF sF) hp.2
    have hffr := ffl_rg N (lxK (bF sF) mle p) (wA (bF sF) mle p) 1 2
    have hff : ffl N (lxK (bF sF) mle p) (wA (bF sF) mle p) 1 2 = 0 := Decidable.byContradiction (fun z => by have := (ho_3 h0).2 z; omega)
    have hoo := (ho_3 h0).1 hff
    have hz := ffl_0 hff
    have hfx := fdI_rg (wA (bF sF) mle p) N
    have hml := hM.1
    have hm4 := hM.2.1
    have hnk := hM.2.2.1 (fdI (wA (bF sF) mle p) N).toNat (by omega)
    have hcn := hM.2.2.2.2.1
    have hct := hM.2.2.2.1
    unfold cnt at hcn
    have hcl := cN_lt (N := N) (i := (fdI (wA (bF sF) mle p) N).toNat) (by omega)
    have hcz := cN_nn (sor N (fdI (wA (bF sF) mle p) N).toNat) (N.take (fdI (wA (bF sF) mle p) N).toNat)
    have hnb : nub N (fdI (wA (bF sF) mle p) N).toNat = cN (sor N (fdI (wA (bF sF) mle p) N).toNat) (N.take (fdI (wA (bF sF) mle p) N).toNat) := rfl
    have hsr : sr rr_3.toNat = sor N (fdI (wA (bF sF) mle p) N).toNat := by rw [hoo.2.2]; exact hnk.2.2.2.2.2.2.1
    have hnu : nu rr_3.toNat = nub N (fdI (wA (bF sF) mle p) N).toNat := by rw [hoo.2.2]; exact hnk.2.2.2.2.2.2.2.1
    have hsl : slt N (fdI (wA (bF sF) mle p) N).toNat = bas (sor N (fdI (wA (bF sF) mle p) N).toNat) + nub N (fdI (wA (bF sF) mle p) N).toNat := rfl
    have hbb : bas 1 = 16 ∧ bas 2 = 24 := by decide
    have hs12 : (sor N (fdI (wA (bF sF) mle p) N).toNat = 1 ∧ slt N (fdI (wA (bF sF) mle p) N).toNat = 16 + nub N (fdI (wA (bF sF) mle p) N).toNat ∧ 0 ≤ nub N (fdI (wA (bF sF) mle p) N).toNat ∧ nub N (fdI (wA (bF sF) mle p) N).toNat < 8) ∨ (sor N (fdI (wA (bF sF) mle p) N).toNat = 2 ∧ slt N (fdI (wA (bF sF) mle p) N).toNat = 24 + nub N (fdI (wA (bF sF) mle p) N).toNat ∧ 0 ≤ nub N (fdI (wA (bF sF) mle p) N).toNat ∧ nub N (fdI (wA (bF sF) mle p) N).toNat < 16) := hz.2.2.elim (fun e => by rw [e] at hsl hcl hcz hnb; exact Or.inl ⟨e, by omega, by omega, by omega⟩) (fun e => by rw [e] at hsl hcl hcz hnb; exact Or.inr ⟨e, by omega, by omega, by omega⟩)
    have hpl : pl2_3 = mpl := hoo.2.1
    refine z_bipush C d_M_takePair_16 (by decide) ?_
    refine z_iload_n C d_M_takePair_18 2 rfl ?_
    refine z_imul C d_M_takePair_19 ?_
    refine z_aload_n C d_M_takePair_20 1 rfl ?_
    refine z_get C f_M_28 d_M_takePair_21 0 rfl rfl ?_
    refine z_iload_n C d_M_takePair_24 0 rfl ?_
    refine z_iald C d_M_takePair_25 5 rfl (by omega) ?_
    refine z_iconst C d_M_takePair_26 ?_
    refine z_icmp_ne (tgt := 34) C d_M_takePair_27 (by decide) (by omega) (by omega) (fun c27 => ?_) (fun c27 => ?_)
    ·
      refine z_bipush C d_M_takePair_34 (by decide) ?_
      refine z_iadd C d_M_takePair_36 ?_
      refine z_aload_n C d_M_takePair_37 1 rfl ?_
      refine z_get C f_M_31 d_M_takePair_38 0 rfl rfl ?_
      refine z_iload_n C d_M_takePair_41 0 rfl ?_
      refine z_iald C d_M_takePair_42 6 rfl (by omega) ?_
      refine z_iadd C d_M_takePair_43 ?_
      refine z_topi (y := iI (s * 24 + slt N (fdI (wA (bF sF) mle p) N).toNat - 16)) (congrArg iI (by omega)) ?_
      refine z_istore_n (lv' := [(3, .int (iI (s * 24 + slt N (fdI (wA (bF sF) mle p) N).toNat - 16))), (2, .int (iI rr_3)), (0, .ref aM), (1, .int (iI s))]) C d_M_takePair_44 (by decide) rfl ?_
      have hlp := hle (s * 24 + slt N (fdI (wA (bF sF) mle p) N).toNat - 16).toNat (by omega)
      have hgp := hg (s * 24 + slt N (fdI (wA (bF sF) mle p) N).toNat - 16).toNat
      refine z_aload_n C d_M_takePair_45 2 rfl ?_
      refine z_get C f_M_40 d_M_takePair_46 0 rfl rfl ?_
      refine z_iload_n C d_M_takePair_49 0 rfl ?_
      refine z_iald C d_M_takePair_50 7 rfl (by omega) ?_
      refine z_iconst C d_M_takePair_51 ?_
      refine z_icmp_eq (tgt := 68) C d_M_takePair_52 (by decide) (by omega) (by omega) (fun c52 => ?_) (fun c52 => ?_)
      ·
        refine z_aload_n C d_M_takePair_68 2 rfl ?_
        refine z_callv (As := []) (rest := []) (wr := [iA G aNf 40 nf, iA G aNg 40 ng, iA G aSr 40 sr, iA G aNu 40 nu, iA G aLe 384 le]) (ws' := fun u => [(aM, .inr (8, [.ref aWc, .int (iI mth), .int (iI msz), .ref aTx, .int (iI mwr), .ref aOu, .int (iI u.2.2.2.1), .int (iI u.2.2.2.2), .int (iI mle), .int (iI mna), .ref aSo, .ref aNf, .ref aNg, .ref aSr, .ref aNu, .ref aMa, .ref aNo, .int (iI mfi), .int (iI mru), .int (iI mnv), .ref aLe, .ref aAc, .ref aDi, .ref aOr, .int (iI u.1), .int (iI (lxS (bF sF) mle mto)), .int (iI u.2.2.1), .int (iI u.2.1)])), iA G aSo 4200 sF, iA G aWc 48 wch, iA G aNf 40 nf, iA G aNg 40 ng, iA G aSr 40 sr, iA G aNu 40 nu, iA G aLe 384 le]) (q0 := 0) C k_M_112 kc_M_advance (fun l sz => m_M_advance l G sz aM aWc aTx aOu aSo aNf aNg aSr aNu aMa aNo aLe aAc aDi aOr mth msz mwr fa2_3 pl2_3 mle mna mfi mru mnv mki mfr mto mwh sF (by omega) (hu) (hfz) (by omega)) rfl rfl (Nat.le_of_ble_eq_true rfl) (by decide) d_M_takePair_69 rfl rfl [0, 1, 2] [3, 4, 5, 6, 7] [5, 6, 7, 0, 1, 2, 3, 4] rfl rfl (by decide) (fun u => rfl) (fun u h69 => ?_)
        obtain ⟨ki2_69, wh2_69, to2_69, fa2_69, pl2_69⟩ := u
        obtain ⟨ha_69, hr_69⟩ := h69
        have ha_69 : (lxK (bF sF) mle mto = 1 → fa2_69 = 1 ∧ pl2_69 = lxS (bF sF) mle mto) ∧ (¬ lxK (bF sF) mle mto = 1 → fa2_69 = 0 ∧ pl2_69 = pl2_3 ∧ to2_69 = lxA (bF sF) mle mto ∧ kdR (lxK (bF sF) mle mto) ki2_69 wh2_69) := ha_69
        have hr_69 : 0 ≤ ki2_69 ∧ ki2_69 ≤ 3 ∧ -1 ≤ wh2_69 ∧ wh2_69 ≤ 255 ∧ lxS (bF sF) mle mto ≤ to2_69 ∧ to2_69 ≤ mle := hr_69
        show Zc G X 4 0 0 [(aM, .inr (8, [.ref aWc, .int (iI mth), .int (iI msz), .ref aTx, .int (iI mwr), .ref aOu, .int (iI fa2_69), .int (iI pl2_69), .int (iI mle), .int (iI mna), .ref aSo, .ref aNf, .ref aNg, .ref aSr, .ref aNu, .ref aMa, .ref aNo, .int (iI mfi), .int (iI mru), .int (iI mnv), .ref aLe, .ref aAc, .ref aDi, .ref aOr, .int (iI ki2_69), .int (iI (lxS (bF sF) mle mto)), .int (iI to2_69), .int (iI wh2_69)])), iA G aSo 4200 sF, iA G aWc 48 wch, iA G aNf 40 nf, iA G aNg 40 ng, iA G aSr 40 sr, iA G aNu 40 nu, iA G aLe 384 le] [(3, .int (iI (s * 24 + slt N (fdI (wA (bF sF) mle p) N).toNat - 16))), (2, .int (iI rr_3)), (0, .ref aM), (1, .int (iI s))] 72 []
        refine z_iload_n C d_M_takePair_72 0 rfl ?_
        rw [hpl] at ha_69
        exact z_iret C K d_M_takePair_73 (rfl) (s * 24 + slt N (fdI (wA (bF sF) mle p) N).toNat - 16, fa2_69, pl2_69, lxS (bF sF) mle mto, to2_69, ki2_69, wh2_69, mto) (rfl) (show iI (s * 24 + slt N (fdI (wA (bF sF) mle p) N).toNat - 16) = iI (s * 24 + slt N (fdI (wA (bF sF) mle p) N).toNat - 16) ∧ (Sim R sF mle fa2_69 pl2_69 (lxS (bF sF) mle mto) to2_69 ki2_69 wh2_69 mto (c2 (s * 24 + slt N (fdI (wA (bF sF) mle p) N).toNat - 16))) ∧ (0 ≤ ki2_69 ∧ ki2_69 ≤ 3 ∧ -1 ≤ wh2_69 ∧ wh2_69 ≤ 255 ∧ 0 ≤ to2_69 ∧ to2_69 ≤ mle) ∧ (0 ≤ (s * 24 + slt N (fdI (wA (bF sF) mle p) N).toNat - 16) ∧ (s * 24 + slt N (fdI (wA (bF sF) mle p) N).toNat - 16) < 384) ∧ (fa2_69 = 0 → mfa = 0 ∧ p < mto) from ⟨rfl, Sim_adv hS h0 (by rw [hst h0, if_neg (fun z => z hff), if_neg (fun z => z (by omega))]) (by omega) ha_69, by have h9 := hr_69; have h8 := lx_rg (bF sF) (n := mle) (p := mto) (by omega); omega, by omega, fun _ => ⟨h0, by omega⟩⟩)
      ·
        refine z_aload_n C d_M_takePair_55 2 rfl ?_
        refine z_bipush C d_M_takePair_56 (by decide) ?_
        refine z_aload_n C d_M_takePair_58 2 rfl ?_
        refine z_get C f_M_86 d_M_takePair_59 0 rfl rfl ?_
        refine z_callv (As := [.int (iI 7), .int (iI mfr)]) (rest := []) (wr := [iA G aSo 4200 sF, iA G aWc 48 wch, iA G aNf 40 nf, iA G aNg 40 ng, iA G aSr 40 sr, iA G aNu 40 nu, iA G aLe 384 le]) (ws' := fun u => [(aM, .inr (8, [.ref aWc, .int (iI mth), .int (iI msz), .ref aTx, .int (iI mwr), .ref aOu, .int (iI 7), .int (iI mfr), .int (iI mle), .int (iI mna), .ref aSo, .ref aNf, .ref aNg, .ref aSr, .ref aNu, .ref aMa, .ref aNo, .int (iI mfi), .int (iI mru), .int (iI mnv), .ref aLe, .ref aAc, .ref aDi, .ref aOr, .int (iI mki), .int (iI mfr), .int (iI mto), .int (iI mwh)])), iA G aSo 4200 sF, iA G aWc 48 wch, iA G aNf 40 nf, iA G aNg 40 ng, iA G aSr 40 sr, iA G aNu 40 nu, iA G aLe 384 le]) (q0 := 0) C k_M_105 kc_M_tell (fun l sz => m_M_tell l G sz aM aWc aTx aOu aSo aNf aNg aSr aNu aMa aNo aLe aAc aDi aOr mth msz mwr fa2_3 pl2_3 mle mna mfi mru mnv mki mfr mto mwh 7 mfr (hfz)) rfl rfl (Nat.le_of_ble_eq_true rfl) (by decide) d_M_takePair_62 rfl rfl [0] [1, 2, 3, 4, 5, 6, 7] [7, 0, 1, 2, 3, 4, 5, 6] rfl rfl (by decide) (fun u => rfl) (fun u h62 => ?_)
        show Zc G X 4 0 0 [(aM, .inr (8, [.ref aWc, .int (iI mth), .int (iI msz), .ref aTx, .int (iI mwr), .ref aOu, .int (iI 7), .int (iI mfr), .int (iI mle), .int (iI mna), .ref aSo, .ref aNf, .ref aNg, .ref aSr, .ref aNu, .ref aMa, .ref aNo, .int (iI mfi), .int (iI mru), .int (iI mnv), .ref aLe, .ref aAc, .ref aDi, .ref aOr, .int (iI mki), .int (iI mfr), .int (iI mto), .int (iI mwh)])), iA G aSo 4200 sF, iA G aWc 48 wch, iA G aNf 40 nf, iA G aNg 40 ng, iA G aSr 40 sr, iA G aNu 40 nu, iA G aLe 384 le] [(3, .int (iI (s * 24 + slt N (fdI (wA (bF sF) mle p) N).toNat - 16))), (2, .int (iI rr_3)), (0, .ref aM), (1, .int (iI s))] 65 []
        refine z_goto (tgt := 72) C d_M_takePair_65 (by decide) ?_
        refine z_iload_n C d_M_takePair_72 0 rfl ?_
        exact z_iret C K d_M_takePair_73 (rfl) (s * 24 + slt N (fdI (wA (bF sF) mle p) N).toNat - 16, 7, mfr, mfr, mto, mki, mwh, p) (rfl) (show iI (s * 24 + slt N (fdI (wA (bF sF) mle p) N).toNat - 16) = iI (s * 24 + slt N (fdI (wA (bF sF) mle p) N).toNat - 16) ∧ (Sim R sF mle 7 mfr mfr mto mki mwh p (c2 (s * 24 + slt N (fdI (wA (bF sF) mle p) N).toNat - 16))) ∧ (0 ≤ mki ∧ mki ≤ 3 ∧ -1 ≤ mwh ∧ mwh ≤ 255 ∧ 0 ≤ mto ∧ mto ≤ mle) ∧ (0 ≤ (s * 24 + slt N (fdI (wA (bF sF) mle p) N).toNat - 16) ∧ (s * 24 + slt N (fdI (wA (bF sF) mle p) N).toNat - 16) < 384) ∧ (7 = 0 → mfa = 0 ∧ p < p) from ⟨rfl, Sim_tell hS h0 (by rw [hst h0, if_neg (fun z => z hff), if_pos (by omega)]) (by omega) _ _ _ _ _, hq, by omega, fun z => absurd z (by decide)⟩)
    ·
      refine z_iconst C d_M_takePair_30 ?_
      refine z_goto (tgt := 36) C d_M_takePair_31 (by decide) ?_
      refine z_iadd C d_M_takePair_36 ?_
      refine z_aload_n C d_M_takePair_37 1 rfl ?_
      refine z_get C f_M_31 d_M_takePair_38 0 rfl rfl ?_
      refine z_iload_n C d_M_takePair_41 0 rfl ?_
      refine z_iald C d_M_takePair_42 6 rfl (by omega) ?_
      refine z_iadd C d_M_takePair_43 ?_
      refine z_topi (y := iI (s * 24 + slt N (fdI (wA (bF sF) mle p) N).toNat - 16)) (congrArg iI (by omega)) ?_
      refine z_istore_n (lv' := [(3, .int (iI (s * 24 + slt N (fdI (wA (bF sF) mle p) N).toNat - 16))), (2, .int (iI rr_3)), (0, .ref aM), (1, .int (iI s))]) C d_M_takePair_44 (by decide) rfl ?_
      have hlp := hle (s * 24 + slt N (fdI (wA (bF sF) mle p) N).toNat - 16).toNat (by omega)
      have hgp := hg (s * 24 + slt N (fdI (wA (bF sF) mle p) N).toNat - 16).toNat
      refine z_aload_n C d_M_takePair_45 2 rfl ?_
      refine z_get C f_M_40 d_M_takePair_46 0 rfl rfl ?_
      refine z_iload_n C d_M_takePair_49 0 rfl ?_
      refine z_iald C d_M_takePair_50 7 rfl (by omega) ?_
      refine z_iconst C d_M_takePair_51 ?_
      refine z_icmp_eq (tgt := 68) C d_M_takePair_52 (by decide) (by omega) (by omega) (fun c52 => ?_) (fun c52 => ?_)
      ·
        refine z_aload_n C d_M_takePair_68 2 rfl ?_
        refine z_callv (As := []) (rest := []) (wr := [iA G aNf 40 nf, iA G aNg 40 ng, iA G aSr 40 sr, iA G aNu 40 nu, iA G aLe 384 le]) (ws' := fun u => [(aM, .inr (8, [.ref aWc, .int (iI mth), .int (iI msz), .ref aTx, .int (iI mwr), .ref aOu, .int (iI u.2.2.2.1), .int (iI u.2.2.2.2), .int (iI mle), .int (iI mna), .ref aSo, .ref aNf, .ref aNg, .ref aSr, .ref aNu, .ref aMa, .ref aNo, .int (iI mfi), .int (iI mru), .int (iI mnv), .ref aLe, .ref aAc, .ref aDi, .ref aOr, .int (iI u.1), .int (iI (lxS (bF sF) mle mto)), .int (iI u.2.2.1), .int (iI u.2.1)])), iA G aSo 4200 sF, iA G aWc 48 wch, iA G aNf 40 nf, iA G aNg 40 ng, iA G aSr 40 sr, iA G aNu 40 nu, iA G aLe 384 le]) (q0 := 0) C k_M_112 kc_M_advance (fun l sz => m_M_advance l G sz aM aWc aTx aOu aSo aNf aNg aSr aNu aMa aNo aLe aAc aDi aOr mth msz mwr fa2_3 pl2_3 mle mna mfi mru mnv mki mfr mto mwh sF (by omega) (hu) (hfz) (by omega)) rfl rfl (Nat.le_of_ble_eq_true rfl) (by decide) d_M_takePair_69 rfl rfl [0, 1, 2] [3, 4, 5, 6, 7] [5, 6, 7, 0, 1, 2, 3, 4] rfl rfl (by decide) (fun u => rfl) (fun u h69 => ?_)
        obtain ⟨ki2_69, wh2_69, to2_69, fa2_69, pl2_69⟩ := u
        obtain ⟨ha_69, hr_69⟩ := h69
        have ha_69 : (lxK (bF sF) mle mto = 1 → fa2_69 = 1 ∧ pl2_69 = lxS (bF sF) mle mto) ∧ (¬ lxK (bF sF) mle mto = 1 → fa2_69 = 0 ∧ pl2_69 = pl2_3 ∧ to2_69 = lxA (bF sF) mle mto ∧ kdR (lxK (bF sF) mle mto) ki2_69 wh2_69) := ha_69
        have hr_69 : 0 ≤ ki2_69 ∧ ki2_69 ≤ 3 ∧ -1 ≤ wh2_69 ∧ wh2_69 ≤ 255 ∧ lxS (bF sF) mle mto ≤ to2_69 ∧ to2_69 ≤ mle := hr_69
        show Zc G X 4 0 0 [(aM, .inr (8, [.ref aWc, .int (iI mth), .int (iI msz), .ref aTx, .int (iI mwr), .ref aOu, .int (iI fa2_69), .int (iI pl2_69), .int (iI mle), .int (iI mna), .ref aSo, .ref aNf, .ref aNg, .ref aSr, .ref aNu, .ref aMa, .ref aNo, .int (iI mfi), .int (iI mru), .int (iI mnv), .ref aLe, .ref aAc, .ref aDi, .ref aOr, .int (iI ki2_69), .int (iI (lxS (bF sF) mle mto)), .int (iI to2_69), .int (iI wh2_69)])), iA G aSo 4200 sF, iA G aWc 48 wch, iA G aNf 40 nf, iA G aNg 40 ng, iA G aSr 40 sr, iA G aNu 40 nu, iA G aLe 384 le] [(3, .int (iI (s * 24 + slt N (fdI (wA (bF sF) mle p) N).toNat - 16))), (2, .int (iI rr_3)), (0, .ref aM), (1, .int (iI s))] 72 []
        refine z_iload_n C d_M_takePair_72 0 rfl ?_
        rw [hpl] at ha_69
        exact z_iret C K d_M_takePair_73 (rfl) (s * 24 + slt N (fdI (wA (bF sF) mle p) N).toNat - 16, fa2_69, pl2_69, lxS (bF sF) mle mto, to2_69, ki2_69, wh2_69, mto) (rfl) (show iI (s * 24 + slt N (fdI (wA (bF sF) mle p) N).toNat - 16) = iI (s * 24 + slt N (fdI (wA (bF sF) mle p) N).toNat - 16) ∧ (Sim R sF mle fa2_69 pl2_69 (lxS (bF sF) mle mto) to2_69 ki2_69 wh2_69 mto (c2 (s * 24 + slt N (fdI (wA (bF sF) mle p) N).toNat - 16))) ∧ (0 ≤ ki2_69 ∧ ki2_69 ≤ 3 ∧ -1 ≤ wh2_69 ∧ wh2_69 ≤ 255 ∧ 0 ≤ to2_69 ∧ to2_69 ≤ mle) ∧ (0 ≤ (s * 24 + slt N (fdI (wA (bF sF) mle p) N).toNat - 16) ∧ (s * 24 + slt N (fdI (wA (bF sF) mle p) N).toNat - 16) < 384) ∧ (fa2_69 = 0 → mfa = 0 ∧ p < mto) from ⟨rfl, Sim_adv hS h0 (by rw [hst h0, if_neg (fun z => z hff), if_neg (fun z => z (by omega))]) (by omega) ha_69, by have h9 := hr_69; have h8 := lx_rg (bF sF) (n := mle) (p := mto) (by omega); omega, by omega, fun _ => ⟨h0, by omega⟩⟩)
      ·
        refine z_aload_n C d_M_takePair_55 2 rfl ?_
        refine z_bipush C d_M_takePair_56 (by decide) ?_
        refine z_aload_n C d_M_takePair_58 2 rfl ?_
        refine z_get C f_M_86 d_M_takePair_59 0 rfl rfl ?_
        refine z_callv (As := [.int (iI 7), .int (iI mfr)]) (rest := []) (wr := [iA G aSo 4200 sF, iA G aWc 48 wch, iA G aNf 40 nf, iA G aNg 40 ng, iA G aSr 40 sr, iA G aNu 40 nu, iA G aLe 384 le]) (ws' := fun u => [(aM, .inr (8, [.ref aWc, .int (iI mth), .int (iI msz), .ref aTx, .int (iI mwr), .ref aOu, .int (iI 7), .int (iI mfr), .int (iI mle), .int (iI mna), .ref aSo, .ref aNf, .ref aNg, .ref aSr, .ref aNu, .ref aMa, .ref aNo, .int (iI mfi), .int (iI mru), .int (iI mnv), .ref aLe, .ref aAc, .ref aDi, .ref aOr, .int (iI mki), .int (iI mfr), .int (iI mto), .int (iI mwh)])), iA G aSo 4200 sF, iA G aWc 48 wch, iA G aNf 40 nf, iA G aNg 40 ng, iA G aSr 40 sr, iA G aNu 40 nu, iA G aLe 384 le]) (q0 := 0) C k_M_105 kc_M_tell (fun l sz => m_M_tell l G sz aM aWc aTx aOu aSo aNf aNg aSr aNu aMa aNo aLe aAc aDi aOr mth msz mwr fa2_3 pl2_3 mle mna mfi mru mnv mki mfr mto mwh 7 mfr (hfz)) rfl rfl (Nat.le_of_ble_eq_true rfl) (by decide) d_M_takePair_62 rfl rfl [0] [1, 2, 3, 4, 5, 6, 7] [7, 0, 1, 2, 3, 4, 5, 6] rfl rfl (by decide) (fun u => rfl) (fun u h62 => ?_)
        show Zc G X 4 0 0 [(aM, .inr (8, [.ref aWc, .int (iI mth), .int (iI msz), .ref aTx, .int (iI mwr), .ref aOu, .int (iI 7), .int (iI mfr), .int (iI mle), .int (iI mna), .ref aSo, .ref aNf, .ref aNg, .ref aSr, .ref aNu, .ref aMa, .ref aNo, .int (iI mfi), .int (iI mru), .int (iI mnv), .ref aLe, .ref aAc, .ref aDi, .ref aOr, .int (iI mki), .int (iI mfr), .int (iI mto), .int (iI mwh)])), iA G aSo 4200 sF, iA G aWc 48 wch, iA G aNf 40 nf, iA G aNg 40 ng, iA G aSr 40 sr, iA G aNu 40 nu, iA G aLe 384 le] [(3, .int (iI (s * 24 + slt N (fdI (wA (bF sF) mle p) N).toNat - 16))), (2, .int (iI rr_3)), (0, .ref aM), (1, .int (iI s))] 65 []
        refine z_goto (tgt := 72) C d_M_takePair_65 (by decide) ?_
        refine z_iload_n C d_M_takePair_72 0 rfl ?_
        exact z_iret C K d_M_takePair_73 (rfl) (s * 24 + slt N (fdI (wA (bF sF) mle p) N).toNat - 16, 7, mfr, mfr, mto, mki, mwh, p) (rfl) (show iI (s * 24 + slt N (fdI (wA (bF sF) mle p) N).toNat - 16) = iI (s * 24 + slt N (fdI (wA (bF sF) mle p) N).toNat - 16) ∧ (Sim R sF mle 7 mfr mfr mto mki mwh p (c2 (s * 24 + slt N (fdI (wA (bF sF) mle p) N).toNat - 16))) ∧ (0 ≤ mki ∧ mki ≤ 3 ∧ -1 ≤ mwh ∧ mwh ≤ 255 ∧ 0 ≤ mto ∧ mto ≤ mle) ∧ (0 ≤ (s * 24 + slt N (fdI (wA (bF sF) mle p) N).toNat - 16) ∧ (s * 24 + slt N (fdI (wA (bF sF) mle p) N).toNat - 16) < 384) ∧ (7 = 0 → mfa = 0 ∧ p < p) from ⟨rfl, Sim_tell hS h0 (by rw [hst h0, if_neg (fun z => z hff), if_pos (by omega)]) (by omega) _ _ _ _ _, hq, by omega, fun z => absurd z (by decide)⟩)
  ·
    have hsx : Sim R sF mle fa2_3 pl2_3 mfr mto mki mwh p (c2 0) := Sim_fail hS hx_3 ho_3 (fun e z => by rw [hst e, if_pos z]) (by omega) _ _ _ _ _
    refine z_iconst C d_M_takePair_14 ?_
    exact z_iret C K d_M_takePair_15 (rfl) (0, fa2_3, pl2_3, mfr, mto, mki, mwh, p) (rfl) (show iI 0 = iI 0 ∧ (Sim R sF mle fa2_3 pl2_3 mfr mto mki mwh p (c2 0)) ∧ (0 ≤ mki ∧ mki ≤ 3 ∧ -1 ≤ mwh ∧ mwh ≤ 255 ∧ 0 ≤ mto ∧ mto ≤ mle) ∧ (0 ≤ 0 ∧ 0 < 384) ∧ (fa2_3 = 0 → mfa = 0 ∧ p < p) from ⟨rfl, hsx, hq, by omega, fun z => absurd z (by omega)⟩)
set_option maxHeartbeats 4000000 in
set_option maxRecDepth 100000 in
theorem m_M_newName (l : Launch) (G : GG) (sz : Nat) (aM : Nat) (aWc : Nat) (aTx : Nat) (aOu : Nat) (aSo : Nat) (aNf : Nat) (aNg : Nat) (aSr : Nat) (aNu : Nat) (aMa : Nat) (aNo : Nat) (aLe : Nat) (aAc : Nat) (aDi : Nat) (aOr : Nat) (mth : Int) (msz : Int) (mwr : Int) (mfa : Int) (mpl : Int) (mle : Int) (mna : Int) (mfi : Int) (mru : Int) (mnv : Int) (mki : Int) (mfr : Int) (mto : Int) (mwh : Int) (sF : Nat → Int) (nf : Nat → Int) (ng : Nat → Int) (sr : Nat → Int) (nu : Nat → Int) (ma : Nat → Int) (no : Nat → Int) (N : NL) (R : Int × Int × Cf) (p : Int) (c : Cf) (c2 : Cf) (s : Int) (hS : Sim R sF mle mfa mpl mfr mto mki mwh p c) (hu : u8 sF) (hn : 0 ≤ mle ∧ mle ≤ 4096) (hq : 0 ≤ mki ∧ mki ≤ 3 ∧ -1 ≤ mwh ∧ mwh ≤ 255 ∧ 0 ≤ mto ∧ mto ≤ mle) (hM : NamM sF nf ng sr nu ma no mna N) (hs : s = 0 ∨ s = 1 ∨ s = 2) (hst : mfa = 0 → stp c (lxK (bF sF) mle p) (wA (bF sF) mle p) = if ¬ lxK (bF sF) mle p = 6 then (2, c) else if fuN N s = 1 then (3, c) else if ¬ fdI (wA (bF sF) mle p) N = -1 then (4, c) else (0, c2)) : MetV l G sz y_M_newName c_M_newName 2 ({ frames := 3, cells := 0, slots := 0, locals := 63 } : Room) [.ref aM, .int (iI s)] [(aM, .inr (8, [.ref aWc, .int (iI mth), .int (iI msz), .ref aTx, .int (iI mwr), .ref aOu, .int (iI mfa), .int (iI mpl), .int (iI mle), .int (iI mna), .ref aSo, .ref aNf, .ref aNg, .ref aSr, .ref aNu, .ref aMa, .ref aNo, .int (iI mfi), .int (iI mru), .int (iI mnv), .ref aLe, .ref aAc, .ref aDi, .ref aOr, .int (iI mki), .int (iI mfr), .int (iI mto), .int (iI mwh)])), iA G aSo 4200 sF, iA G aWc 48 wch, iA G aNf 40 nf, iA G aNg 40 ng, iA G aSr 40 sr, iA G aNu 40 nu, iA G aMa 3 ma, iA G aNo 48 no] (fun (u : Int × Int × Int × Int × Int × Int × Int × (Nat → Int) × (Nat → Int) × (Nat → Int) × (Nat → Int) × (Nat → Int) × (Nat → Int) × Int) => (Sim R sF mle u.1 u.2.1 u.2.2.1 u.2.2.2.1 u.2.2.2.2.1 u.2.2.2.2.2.1 u.2.2.2.2.2.2.1 c2) ∧ (0 ≤ u.2.2.2.2.1 ∧ u.2.2.2.2.1 ≤ 3 ∧ -1 ≤ u.2.2.2.2.2.1 ∧ u.2.2.2.2.2.1 ≤ 255 ∧ 0 ≤ u.2.2.2.1 ∧ u.2.2.2.1 ≤ mle) ∧ (u.1 = 0 → p < u.2.2.2.2.2.2.1 ∧ NamM sF u.2.2.2.2.2.2.2.1 u.2.2.2.2.2.2.2.2.1 u.2.2.2.2.2.2.2.2.2.1 u.2.2.2.2.2.2.2.2.2.2.1 u.2.2.2.2.2.2.2.2.2.2.2.1 u.2.2.2.2.2.2.2.2.2.2.2.2.1 u.2.2.2.2.2.2.2.2.2.2.2.2.2 (N ++ [(s, wA (bF sF) mle p)]))) (fun (u : Int × Int × Int × Int × Int × Int × Int × (Nat → Int) × (Nat → Int) × (Nat → Int) × (Nat → Int) × (Nat → Int) × (Nat → Int) × Int) => [(aM, .inr (8, [.ref aWc, .int (iI mth), .int (iI msz), .ref aTx, .int (iI mwr), .ref aOu, .int (iI u.1), .int (iI u.2.1), .int (iI mle), .int (iI u.2.2.2.2.2.2.2.2.2.2.2.2.2), .ref aSo, .ref aNf, .ref aNg, .ref aSr, .ref aNu, .ref aMa, .ref aNo, .int (iI mfi), .int (iI mru), .int (iI mnv), .ref aLe, .ref aAc, .ref aDi, .ref aOr, .int (iI u.2.2.2.2.1), .int (iI u.2.2.1), .int (iI u.2.2.2.1), .int (iI u.2.2.2.2.2.1)])), iA G aSo 4200 sF, iA G aWc 48 wch, iA G aNf 40 u.2.2.2.2.2.2.2.1, iA G aNg 40 u.2.2.2.2.2.2.2.2.1, iA G aSr 40 u.2.2.2.2.2.2.2.2.2.1, iA G aNu 40 u.2.2.2.2.2.2.2.2.2.2.1, iA G aMa 3 u.2.2.2.2.2.2.2.2.2.2.2.1, iA G aNo 48 u.2.2.2.2.2.2.2.2.2.2.2.2.1]) := by
  refine MetV.mk (by decide) (Nat.le_of_ble_eq_true rfl) (fun X C K => ?_)
  show Zc G X 2 0 0 [(aM, .inr (8, [.ref aWc, .int (iI mth), .int (iI msz), .ref aTx, .int (iI mwr), .ref aOu, .int (iI mfa), .int (iI mpl), .int (iI mle), .int (iI mna), .ref aSo, .ref aNf, .ref aNg, .ref aSr, .ref aNu, .ref aMa, .ref aNo, .int (iI mfi), .int (iI mru), .int (iI mnv), .ref aLe, .ref aAc, .ref aDi, .ref aOr, .int (iI mki), .int (iI mfr), .int (iI mto), .int (iI mwh)])), iA G aSo 4200 sF, iA G aWc 48 wch, iA G aNf 40 nf, iA G aNg 40 ng, iA G aSr 40 sr, iA G aNu 40 nu, iA G aMa 3 ma, iA G aNo 48 no] [(0, .ref aM), (1, .int (iI s))] 0 []
  have hf07 := Sim_rg hS
  have hMM := hM
  have hcn := hM.2.2.2.2.1
  unfold cnt at hcn
  have hml := hM.1
  have hm4 := hM.2.1
  rcases hs with rfl | rfl | rfl
  ·
    skip
    refine z_aload_n C d_M_newName_0 0 rfl ?_
    refine z_get C f_M_70 d_M_newName_1 0 rfl rfl ?_
    refine z_if_le (tgt := 8) C d_M_newName_4 (by decide) (by omega) (fun c4 => ?_) (fun c4 => ?_)
    ·
      have h0 : mfa = 0 := by omega
      obtain ⟨hp, hfr, hto, hkd, hk1, hR⟩ := Sim_0 hS h0
      have hkr := lxK_rg (bF sF) mle p
      have hki := kdR_i hkd (by omega)
      have hlr := lx_rg (bF sF) hp.2
      have hla := lxA_rg (bF sF) hp.2
      have hWP : seg (bF sF) mfr.toNat (mto - mfr).toNat = wA (bF sF) mle p := by rw [hfr, hto]; rfl
      refine z_aload_n C d_M_newName_8 0 rfl ?_
      refine z_get C f_M_92 d_M_newName_9 0 rfl rfl ?_
      refine z_iconst C d_M_newName_12 ?_
      refine z_icmp_eq (tgt := 28) C d_M_newName_13 (by decide) (by omega) (by omega) (fun c13 => ?_) (fun c13 => ?_)
      ·
        have h6 : lxK (bF sF) mle p = 6 := by omega
        refine z_aload_n C d_M_newName_28 0 rfl ?_
        refine z_get C f_M_34 d_M_newName_29 0 rfl rfl ?_
        refine z_iload_n C d_M_newName_32 1 rfl ?_
        refine z_iald C d_M_newName_33 7 rfl (by omega) ?_
        refine z_topi (y := iI (ma 0)) (rfl) ?_
        refine z_iload_n C d_M_newName_34 1 rfl ?_
        refine z_iconst C d_M_newName_35 ?_
        refine z_icmp_ne (tgt := 44) C d_M_newName_36 (by decide) (by omega) (by omega) (fun c36 => ?_) (fun c36 => ?_)
        ·
          refine z_bipush C d_M_newName_44 (by decide) ?_
          refine z_icmp_ne (tgt := 61) C d_M_newName_46 (by decide) (by omega) (by omega) (fun c46 => ?_) (fun c46 => ?_)
          ·
            have hfu : ¬ fuN N 0 = 1 := by rw [← NamM_ful hM 0]; unfold ful; split <;> omega
            refine z_aload_n C d_M_newName_61 0 rfl ?_
            refine z_calli (As := []) (rest := []) (wr := [iA G aWc 48 wch, iA G aSr 40 sr, iA G aNu 40 nu, iA G aMa 3 ma, iA G aNo 48 no]) (ws' := fun u => [(aM, .inr (8, [.ref aWc, .int (iI mth), .int (iI msz), .ref aTx, .int (iI mwr), .ref aOu, .int (iI mfa), .int (iI mpl), .int (iI mle), .int (iI mna), .ref aSo, .ref aNf, .ref aNg, .ref aSr, .ref aNu, .ref aMa, .ref aNo, .int (iI mfi), .int (iI mru), .int (iI mnv), .ref aLe, .ref aAc, .ref aDi, .ref aOr, .int (iI mki), .int (iI mfr), .int (iI mto), .int (iI mwh)])), iA G aSo 4200 sF, iA G aWc 48 wch, iA G aNf 40 nf, iA G aNg 40 ng, iA G aSr 40 sr, iA G aNu 40 nu, iA G aMa 3 ma, iA G aNo 48 no]) (q0 := 0) C k_M_121 kc_M_find (fun l sz => m_M_find l G sz aM aWc aTx aOu aSo aNf aNg aSr aNu aMa aNo aLe aAc aDi aOr mth msz mwr mfa mpl mle mna mfi mru mnv mki mfr mto mwh sF nf ng sr nu ma no N (by omega) (hu) (hM)) rfl rfl (Nat.le_of_ble_eq_true rfl) (by decide) d_M_newName_62 rfl rfl [0, 1, 3, 4] [2, 5, 6, 7, 8] [5, 6, 0, 7, 8, 1, 2, 3, 4] rfl rfl (by decide) (fun u => rfl) (fun r u h62 => ?_)
            obtain rfl := h62
            show Zc G X 2 0 0 [(aM, .inr (8, [.ref aWc, .int (iI mth), .int (iI msz), .ref aTx, .int (iI mwr), .ref aOu, .int (iI mfa), .int (iI mpl), .int (iI mle), .int (iI mna), .ref aSo, .ref aNf, .ref aNg, .ref aSr, .ref aNu, .ref aMa, .ref aNo, .int (iI mfi), .int (iI mru), .int (iI mnv), .ref aLe, .ref aAc, .ref aDi, .ref aOr, .int (iI mki), .int (iI mfr), .int (iI mto), .int (iI mwh)])), iA G aSo 4200 sF, iA G aWc 48 wch, iA G aNf 40 nf, iA G aNg 40 ng, iA G aSr 40 sr, iA G aNu 40 nu, iA G aMa 3 ma, iA G aNo 48 no] [(0, .ref aM), (1, .int (iI 0))] 65 [.int (iI (fdI (seg (bF sF) mfr.toNat (mto - mfr).toNat) N))]
            have hfx := fdI_rg (seg (bF sF) mfr.toNat (mto - mfr).toNat) N
            refine z_if_lt (tgt := 77) C d_M_newName_65 (by decide) (by omega) (fun c65 => ?_) (fun c65 => ?_)
            ·
              refine z_aload_n C d_M_newName_77 0 rfl ?_
              refine z_get C f_M_70 d_M_newName_78 0 rfl rfl ?_
              refine z_if_le (tgt := 85) C d_M_newName_81 (by decide) (by omega) (fun c81 => ?_) (fun c81 => ?_)
              ·
                have hfi : fdI (seg (bF sF) mfr.toNat (mto - mfr).toNat) N = -1 := by omega
                have hNN := NamM_tell (s := 0) hM (by omega) hfu (fr := mfr) (to := mto) (by omega) hfi
                have hsum := hNN.2.1
                rw [List.length_append] at hsum
                have hsum2 : N.length + 1 ≤ 40 := hsum
                refine z_aload_n C d_M_newName_85 0 rfl ?_
                refine z_get C f_M_22 d_M_newName_86 0 rfl rfl ?_
                refine z_aload_n C d_M_newName_89 0 rfl ?_
                refine z_get C f_M_115 d_M_newName_90 0 rfl rfl ?_
                refine z_aload_n C d_M_newName_93 0 rfl ?_
                refine z_get C f_M_86 d_M_newName_94 0 rfl rfl ?_
                refine z_iast C d_M_newName_97 3 rfl (by omega) [(aM, .inr (8, [.ref aWc, .int (iI mth), .int (iI msz), .ref aTx, .int (iI mwr), .ref aOu, .int (iI mfa), .int (iI mpl), .int (iI mle), .int (iI mna), .ref aSo, .ref aNf, .ref aNg, .ref aSr, .ref aNu, .ref aMa, .ref aNo, .int (iI mfi), .int (iI mru), .int (iI mnv), .ref aLe, .ref aAc, .ref aDi, .ref aOr, .int (iI mki), .int (iI mfr), .int (iI mto), .int (iI mwh)])), iA G aSo 4200 sF, iA G aWc 48 wch, iA G aNf 40 (uZ nf mna.toNat mfr), iA G aNg 40 ng, iA G aSr 40 sr, iA G aNu 40 nu, iA G aMa 3 ma, iA G aNo 48 no] (rfl) ?_
                refine z_aload_n C d_M_newName_98 0 rfl ?_
                refine z_get C f_M_25 d_M_newName_99 0 rfl rfl ?_
                refine z_aload_n C d_M_newName_102 0 rfl ?_
                refine z_get C f_M_115 d_M_newName_103 0 rfl rfl ?_
                refine z_aload_n C d_M_newName_106 0 rfl ?_
                refine z_get C f_M_76 d_M_newName_107 0 rfl rfl ?_
                refine z_iast C d_M_newName_110 4 rfl (by omega) [(aM, .inr (8, [.ref aWc, .int (iI mth), .int (iI msz), .ref aTx, .int (iI mwr), .ref aOu, .int (iI mfa), .int (iI mpl), .int (iI mle), .int (iI mna), .ref aSo, .ref aNf, .ref aNg, .ref aSr, .ref aNu, .ref aMa, .ref aNo, .int (iI mfi), .int (iI mru), .int (iI mnv), .ref aLe, .ref aAc, .ref aDi, .ref aOr, .int (iI mki), .int (iI mfr), .int (iI mto), .int (iI mwh)])), iA G aSo 4200 sF, iA G aWc 48 wch, iA G aNf 40 (uZ nf mna.toNat mfr), iA G aNg 40 (uZ ng mna.toNat mto), iA G aSr 40 sr, iA G aNu 40 nu, iA G aMa 3 ma, iA G aNo 48 no] (rfl) ?_
                refine z_aload_n C d_M_newName_111 0 rfl ?_
                refine z_get C f_M_28 d_M_newName_112 0 rfl rfl ?_
                refine z_aload_n C d_M_newName_115 0 rfl ?_
                refine z_get C f_M_115 d_M_newName_116 0 rfl rfl ?_
                refine z_iload_n C d_M_newName_119 1 rfl ?_
                refine z_iast C d_M_newName_120 5 rfl (by omega) [(aM, .inr (8, [.ref aWc, .int (iI mth), .int (iI msz), .ref aTx, .int (iI mwr), .ref aOu, .int (iI mfa), .int (iI mpl), .int (iI mle), .int (iI mna), .ref aSo, .ref aNf, .ref aNg, .ref aSr, .ref aNu, .ref aMa, .ref aNo, .int (iI mfi), .int (iI mru), .int (iI mnv), .ref aLe, .ref aAc, .ref aDi, .ref aOr, .int (iI mki), .int (iI mfr), .int (iI mto), .int (iI mwh)])), iA G aSo 4200 sF, iA G aWc 48 wch, iA G aNf 40 (uZ nf mna.toNat mfr), iA G aNg 40 (uZ ng mna.toNat mto), iA G aSr 40 (uZ sr mna.toNat 0), iA G aNu 40 nu, iA G aMa 3 ma, iA G aNo 48 no] (rfl) ?_
                refine z_aload_n C d_M_newName_121 0 rfl ?_
                refine z_get C f_M_31 d_M_newName_122 0 rfl rfl ?_
                refine z_aload_n C d_M_newName_125 0 rfl ?_
                refine z_get C f_M_115 d_M_newName_126 0 rfl rfl ?_
                refine z_aload_n C d_M_newName_129 0 rfl ?_
                refine z_get C f_M_34 d_M_newName_130 0 rfl rfl ?_
                refine z_iload_n C d_M_newName_133 1 rfl ?_
                refine z_iald C d_M_newName_134 7 rfl (by omega) ?_
                refine z_topi (y := iI (ma 0)) (rfl) ?_
                refine z_iast C d_M_newName_135 6 rfl (by omega) [(aM, .inr (8, [.ref aWc, .int (iI mth), .int (iI msz), .ref aTx, .int (iI mwr), .ref aOu, .int (iI mfa), .int (iI mpl), .int (iI mle), .int (iI mna), .ref aSo, .ref aNf, .ref aNg, .ref aSr, .ref aNu, .ref aMa, .ref aNo, .int (iI mfi), .int (iI mru), .int (iI mnv), .ref aLe, .ref aAc, .ref aDi, .ref aOr, .int (iI mki), .int (iI mfr), .int (iI mto), .int (iI mwh)])), iA G aSo 4200 sF, iA G aWc 48 wch, iA G aNf 40 (uZ nf mna.toNat mfr), iA G aNg 40 (uZ ng mna.toNat mto), iA G aSr 40 (uZ sr mna.toNat 0), iA G aNu 40 (uZ nu mna.toNat (ma 0)), iA G aMa 3 ma, iA G aNo 48 no] (rfl) ?_
                refine z_aload_n C d_M_newName_136 0 rfl ?_
                refine z_get C f_M_37 d_M_newName_137 0 rfl rfl ?_
                refine z_bipush C d_M_newName_140 (by decide) ?_
                refine z_iload_n C d_M_newName_142 1 rfl ?_
                refine z_imul C d_M_newName_143 ?_
                refine z_aload_n C d_M_newName_144 0 rfl ?_
                refine z_get C f_M_34 d_M_newName_145 0 rfl rfl ?_
                refine z_iload_n C d_M_newName_148 1 rfl ?_
                refine z_iald C d_M_newName_149 7 rfl (by omega) ?_
                refine z_topi (y := iI (ma 0)) (rfl) ?_
                refine z_iadd C d_M_newName_150 ?_
                refine z_aload_n C d_M_newName_151 0 rfl ?_
                refine z_get C f_M_115 d_M_newName_152 0 rfl rfl ?_
                refine z_iast C d_M_newName_155 8 rfl (by omega) [(aM, .inr (8, [.ref aWc, .int (iI mth), .int (iI msz), .ref aTx, .int (iI mwr), .ref aOu, .int (iI mfa), .int (iI mpl), .int (iI mle), .int (iI mna), .ref aSo, .ref aNf, .ref aNg, .ref aSr, .ref aNu, .ref aMa, .ref aNo, .int (iI mfi), .int (iI mru), .int (iI mnv), .ref aLe, .ref aAc, .ref aDi, .ref aOr, .int (iI mki), .int (iI mfr), .int (iI mto), .int (iI mwh)])), iA G aSo 4200 sF, iA G aWc 48 wch, iA G aNf 40 (uZ nf mna.toNat mfr), iA G aNg 40 (uZ ng mna.toNat mto), iA G aSr 40 (uZ sr mna.toNat 0), iA G aNu 40 (uZ nu mna.toNat (ma 0)), iA G aMa 3 ma, iA G aNo 48 (uZ no (((16 * 0) + (ma 0)).toNat) mna)] (rfl) ?_
                refine z_aload_n C d_M_newName_156 0 rfl ?_
                refine z_dup C d_M_newName_157 rfl ?_
                refine z_get C f_M_115 d_M_newName_158 0 rfl rfl ?_
                refine z_iconst C d_M_newName_161 ?_
                refine z_iadd C d_M_newName_162 ?_
                refine z_put C f_M_115 ok_M nm_M d_M_newName_163 0 rfl rfl rfl rfl (Nat.le_of_ble_eq_true rfl) [(aM, .inr (8, [.ref aWc, .int (iI mth), .int (iI msz), .ref aTx, .int (iI mwr), .ref aOu, .int (iI mfa), .int (iI mpl), .int (iI mle), .int (iI (mna + 1)), .ref aSo, .ref aNf, .ref aNg, .ref aSr, .ref aNu, .ref aMa, .ref aNo, .int (iI mfi), .int (iI mru), .int (iI mnv), .ref aLe, .ref aAc, .ref aDi, .ref aOr, .int (iI mki), .int (iI mfr), .int (iI mto), .int (iI mwh)])), iA G aSo 4200 sF, iA G aWc 48 wch, iA G aNf 40 (uZ nf mna.toNat mfr), iA G aNg 40 (uZ ng mna.toNat mto), iA G aSr 40 (uZ sr mna.toNat 0), iA G aNu 40 (uZ nu mna.toNat (ma 0)), iA G aMa 3 ma, iA G aNo 48 (uZ no (((16 * 0) + (ma 0)).toNat) mna)] rfl ?_
                refine z_aload_n C d_M_newName_166 0 rfl ?_
                refine z_get C f_M_34 d_M_newName_167 0 rfl rfl ?_
                refine z_iload_n C d_M_newName_170 1 rfl ?_
                refine z_dup2 C d_M_newName_171 rfl rfl ?_
                refine z_iald C d_M_newName_172 7 rfl (by omega) ?_
                refine z_topi (y := iI (ma 0)) (rfl) ?_
                refine z_iconst C d_M_newName_173 ?_
                refine z_iadd C d_M_newName_174 ?_
                refine z_iast C d_M_newName_175 7 rfl (by omega) [(aM, .inr (8, [.ref aWc, .int (iI mth), .int (iI msz), .ref aTx, .int (iI mwr), .ref aOu, .int (iI mfa), .int (iI mpl), .int (iI mle), .int (iI (mna + 1)), .ref aSo, .ref aNf, .ref aNg, .ref aSr, .ref aNu, .ref aMa, .ref aNo, .int (iI mfi), .int (iI mru), .int (iI mnv), .ref aLe, .ref aAc, .ref aDi, .ref aOr, .int (iI mki), .int (iI mfr), .int (iI mto), .int (iI mwh)])), iA G aSo 4200 sF, iA G aWc 48 wch, iA G aNf 40 (uZ nf mna.toNat mfr), iA G aNg 40 (uZ ng mna.toNat mto), iA G aSr 40 (uZ sr mna.toNat 0), iA G aNu 40 (uZ nu mna.toNat (ma 0)), iA G aMa 3 (uZ ma 0 ((ma 0) + 1)), iA G aNo 48 (uZ no (((16 * 0) + (ma 0)).toNat) mna)] (rfl) ?_
                refine z_aload_n C d_M_newName_176 0 rfl ?_
                refine z_callv (As := []) (rest := []) (wr := [iA G aNf 40 (uZ nf mna.toNat mfr), iA G aNg 40 (uZ ng mna.toNat mto), iA G aSr 40 (uZ sr mna.toNat 0), iA G aNu 40 (uZ nu mna.toNat (ma 0)), iA G aMa 3 (uZ ma 0 ((ma 0) + 1)), iA G aNo 48 (uZ no (((16 * 0) + (ma 0)).toNat) mna)]) (ws' := fun u => [(aM, .inr (8, [.ref aWc, .int (iI mth), .int (iI msz), .ref aTx, .int (iI mwr), .ref aOu, .int (iI u.2.2.2.1), .int (iI u.2.2.2.2), .int (iI mle), .int (iI (mna + 1)), .ref aSo, .ref aNf, .ref aNg, .ref aSr, .ref aNu, .ref aMa, .ref aNo, .int (iI mfi), .int (iI mru), .int (iI mnv), .ref aLe, .ref aAc, .ref aDi, .ref aOr, .int (iI u.1), .int (iI (lxS (bF sF) mle mto)), .int (iI u.2.2.1), .int (iI u.2.1)])), iA G aSo 4200 sF, iA G aWc 48 wch, iA G aNf 40 (uZ nf mna.toNat mfr), iA G aNg 40 (uZ ng mna.toNat mto), iA G aSr 40 (uZ sr mna.toNat 0), iA G aNu 40 (uZ nu mna.toNat (ma 0)), iA G aMa 3 (uZ ma 0 ((ma 0) + 1)), iA G aNo 48 (uZ no (((16 * 0) + (ma 0)).toNat) mna)]) (q0 := 0) C k_M_112 kc_M_advance (fun l sz => m_M_advance l G sz aM aWc aTx aOu aSo aNf aNg aSr aNu aMa aNo aLe aAc aDi aOr mth msz mwr mfa mpl mle (mna + 1) mfi mru mnv mki mfr mto mwh sF (by omega) (hu) (h0) (by omega)) rfl rfl (Nat.le_of_ble_eq_true rfl) (by decide) d_M_newName_177 rfl rfl [0, 1, 2] [3, 4, 5, 6, 7, 8] [6, 7, 8, 0, 1, 2, 3, 4, 5] rfl rfl (by decide) (fun u => rfl) (fun u h177 => ?_)
                obtain ⟨ki2_177, wh2_177, to2_177, fa2_177, pl2_177⟩ := u
                obtain ⟨ha_177, hr_177⟩ := h177
                have ha_177 : (lxK (bF sF) mle mto = 1 → fa2_177 = 1 ∧ pl2_177 = lxS (bF sF) mle mto) ∧ (¬ lxK (bF sF) mle mto = 1 → fa2_177 = 0 ∧ pl2_177 = mpl ∧ to2_177 = lxA (bF sF) mle mto ∧ kdR (lxK (bF sF) mle mto) ki2_177 wh2_177) := ha_177
                have hr_177 : 0 ≤ ki2_177 ∧ ki2_177 ≤ 3 ∧ -1 ≤ wh2_177 ∧ wh2_177 ≤ 255 ∧ lxS (bF sF) mle mto ≤ to2_177 ∧ to2_177 ≤ mle := hr_177
                show Zc G X 2 0 0 [(aM, .inr (8, [.ref aWc, .int (iI mth), .int (iI msz), .ref aTx, .int (iI mwr), .ref aOu, .int (iI fa2_177), .int (iI pl2_177), .int (iI mle), .int (iI (mna + 1)), .ref aSo, .ref aNf, .ref aNg, .ref aSr, .ref aNu, .ref aMa, .ref aNo, .int (iI mfi), .int (iI mru), .int (iI mnv), .ref aLe, .ref aAc, .ref aDi, .ref aOr, .int (iI ki2_177), .int (iI (lxS (bF sF) mle mto)), .int (iI to2_177), .int (iI wh2_177)])), iA G aSo 4200 sF, iA G aWc 48 wch, iA G aNf 40 (uZ nf mna.toNat mfr), iA G aNg 40 (uZ ng mna.toNat mto), iA G aSr 40 (uZ sr mna.toNat 0), iA G aNu 40 (uZ nu mna.toNat (ma 0)), iA G aMa 3 (uZ ma 0 ((ma 0) + 1)), iA G aNo 48 (uZ no (((16 * 0) + (ma 0)).toNat) mna)] [(0, .ref aM), (1, .int (iI 0))] 180 []
                exact z_vret C K d_M_newName_180 (fa2_177, pl2_177, lxS (bF sF) mle mto, to2_177, ki2_177, wh2_177, mto, uZ nf mna.toNat mfr, uZ ng mna.toNat mto, uZ sr mna.toNat 0, uZ nu mna.toNat (ma 0), uZ ma 0 (ma 0 + 1), uZ no (16 * 0 + ma 0).toNat mna, mna + 1) (rfl) (show (Sim R sF mle fa2_177 pl2_177 (lxS (bF sF) mle mto) to2_177 ki2_177 wh2_177 mto c2) ∧ (0 ≤ ki2_177 ∧ ki2_177 ≤ 3 ∧ -1 ≤ wh2_177 ∧ wh2_177 ≤ 255 ∧ 0 ≤ to2_177 ∧ to2_177 ≤ mle) ∧ (fa2_177 = 0 → p < mto ∧ NamM sF (uZ nf mna.toNat mfr) (uZ ng mna.toNat mto) (uZ sr mna.toNat 0) (uZ nu mna.toNat (ma 0)) (uZ ma 0 (ma 0 + 1)) (uZ no (16 * 0 + ma 0).toNat mna) (mna + 1) (N ++ [(0, wA (bF sF) mle p)])) from ⟨Sim_adv hS h0 (by rw [hst h0, if_neg (by omega), if_neg hfu, if_neg (by rw [← hWP]; omega)]) (by omega) ha_177, by have h9 := hr_177; have h8 := lx_rg (bF sF) (n := mle) (p := mto) (by omega); omega, fun _ => ⟨by omega, by rw [← hWP]; exact hNN⟩⟩)
              · exact absurd c81 (by omega)
            ·
              refine z_aload_n C d_M_newName_68 0 rfl ?_
              refine z_iconst C d_M_newName_69 ?_
              refine z_aload_n C d_M_newName_70 0 rfl ?_
              refine z_get C f_M_86 d_M_newName_71 0 rfl rfl ?_
              refine z_callv (As := [.int (iI 4), .int (iI mfr)]) (rest := []) (wr := [iA G aSo 4200 sF, iA G aWc 48 wch, iA G aNf 40 nf, iA G aNg 40 ng, iA G aSr 40 sr, iA G aNu 40 nu, iA G aMa 3 ma, iA G aNo 48 no]) (ws' := fun u => [(aM, .inr (8, [.ref aWc, .int (iI mth), .int (iI msz), .ref aTx, .int (iI mwr), .ref aOu, .int (iI 4), .int (iI mfr), .int (iI mle), .int (iI mna), .ref aSo, .ref aNf, .ref aNg, .ref aSr, .ref aNu, .ref aMa, .ref aNo, .int (iI mfi), .int (iI mru), .int (iI mnv), .ref aLe, .ref aAc, .ref aDi, .ref aOr, .int (iI mki), .int (iI mfr), .int (iI mto), .int (iI mwh)])), iA G aSo 4200 sF, iA G aWc 48 wch, iA G aNf 40 nf, iA G aNg 40 ng, iA G aSr 40 sr, iA G aNu 40 nu, iA G aMa 3 ma, iA G aNo 48 no]) (q0 := 0) C k_M_105 kc_M_tell (fun l sz => m_M_tell l G sz aM aWc aTx aOu aSo aNf aNg aSr aNu aMa aNo aLe aAc aDi aOr mth msz mwr mfa mpl mle mna mfi mru mnv mki mfr mto mwh 4 mfr (h0)) rfl rfl (Nat.le_of_ble_eq_true rfl) (by decide) d_M_newName_74 rfl rfl [0] [1, 2, 3, 4, 5, 6, 7, 8] [8, 0, 1, 2, 3, 4, 5, 6, 7] rfl rfl (by decide) (fun u => rfl) (fun u h74 => ?_)
              show Zc G X 2 0 0 [(aM, .inr (8, [.ref aWc, .int (iI mth), .int (iI msz), .ref aTx, .int (iI mwr), .ref aOu, .int (iI 4), .int (iI mfr), .int (iI mle), .int (iI mna), .ref aSo, .ref aNf, .ref aNg, .ref aSr, .ref aNu, .ref aMa, .ref aNo, .int (iI mfi), .int (iI mru), .int (iI mnv), .ref aLe, .ref aAc, .ref aDi, .ref aOr, .int (iI mki), .int (iI mfr), .int (iI mto), .int (iI mwh)])), iA G aSo 4200 sF, iA G aWc 48 wch, iA G aNf 40 nf, iA G aNg 40 ng, iA G aSr 40 sr, iA G aNu 40 nu, iA G aMa 3 ma, iA G aNo 48 no] [(0, .ref aM), (1, .int (iI 0))] 77 []
              refine z_aload_n C d_M_newName_77 0 rfl ?_
              refine z_get C f_M_70 d_M_newName_78 0 rfl rfl ?_
              refine z_if_le (tgt := 85) C d_M_newName_81 (by decide) (by omega) (fun c81 => ?_) (fun c81 => ?_)
              · exact absurd c81 (by omega)
              ·
                exact z_vret C K d_M_newName_84 (4, mfr, mfr, mto, mki, mwh, p, nf, ng, sr, nu, ma, no, mna) (rfl) (show (Sim R sF mle 4 mfr mfr mto mki mwh p c2) ∧ (0 ≤ mki ∧ mki ≤ 3 ∧ -1 ≤ mwh ∧ mwh ≤ 255 ∧ 0 ≤ mto ∧ mto ≤ mle) ∧ (4 = 0 → p < p ∧ NamM sF nf ng sr nu ma no mna (N ++ [(0, wA (bF sF) mle p)])) from ⟨Sim_tell hS h0 (by rw [hst h0, if_neg (by omega), if_neg hfu, if_pos (by rw [← hWP]; omega)]) (by omega) _ _ _ _ _, hq, fun z => by omega⟩)
          ·
            have hfu : fuN N 0 = 1 := by rw [← NamM_ful hM 0]; unfold ful; rw [if_pos (by omega)]
            refine z_aload_n C d_M_newName_49 0 rfl ?_
            refine z_iconst C d_M_newName_50 ?_
            refine z_aload_n C d_M_newName_51 0 rfl ?_
            refine z_get C f_M_86 d_M_newName_52 0 rfl rfl ?_
            refine z_callv (As := [.int (iI 3), .int (iI mfr)]) (rest := []) (wr := [iA G aSo 4200 sF, iA G aWc 48 wch, iA G aNf 40 nf, iA G aNg 40 ng, iA G aSr 40 sr, iA G aNu 40 nu, iA G aMa 3 ma, iA G aNo 48 no]) (ws' := fun u => [(aM, .inr (8, [.ref aWc, .int (iI mth), .int (iI msz), .ref aTx, .int (iI mwr), .ref aOu, .int (iI 3), .int (iI mfr), .int (iI mle), .int (iI mna), .ref aSo, .ref aNf, .ref aNg, .ref aSr, .ref aNu, .ref aMa, .ref aNo, .int (iI mfi), .int (iI mru), .int (iI mnv), .ref aLe, .ref aAc, .ref aDi, .ref aOr, .int (iI mki), .int (iI mfr), .int (iI mto), .int (iI mwh)])), iA G aSo 4200 sF, iA G aWc 48 wch, iA G aNf 40 nf, iA G aNg 40 ng, iA G aSr 40 sr, iA G aNu 40 nu, iA G aMa 3 ma, iA G aNo 48 no]) (q0 := 0) C k_M_105 kc_M_tell (fun l sz => m_M_tell l G sz aM aWc aTx aOu aSo aNf aNg aSr aNu aMa aNo aLe aAc aDi aOr mth msz mwr mfa mpl mle mna mfi mru mnv mki mfr mto mwh 3 mfr (h0)) rfl rfl (Nat.le_of_ble_eq_true rfl) (by decide) d_M_newName_55 rfl rfl [0] [1, 2, 3, 4, 5, 6, 7, 8] [8, 0, 1, 2, 3, 4, 5, 6, 7] rfl rfl (by decide) (fun u => rfl) (fun u h55 => ?_)
            show Zc G X 2 0 0 [(aM, .inr (8, [.ref aWc, .int (iI mth), .int (iI msz), .ref aTx, .int (iI mwr), .ref aOu, .int (iI 3), .int (iI mfr), .int (iI mle), .int (iI mna), .ref aSo, .ref aNf, .ref aNg, .ref aSr, .ref aNu, .ref aMa, .ref aNo, .int (iI mfi), .int (iI mru), .int (iI mnv), .ref aLe, .ref aAc, .ref aDi, .ref aOr, .int (iI mki), .int (iI mfr), .int (iI mto), .int (iI mwh)])), iA G aSo 4200 sF, iA G aWc 48 wch, iA G aNf 40 nf, iA G aNg 40 ng, iA G aSr 40 sr, iA G aNu 40 nu, iA G aMa 3 ma, iA G aNo 48 no] [(0, .ref aM), (1, .int (iI 0))] 58 []
            refine z_goto (tgt := 77) C d_M_newName_58 (by decide) ?_
            refine z_aload_n C d_M_newName_77 0 rfl ?_
            refine z_get C f_M_70 d_M_newName_78 0 rfl rfl ?_
            refine z_if_le (tgt := 85) C d_M_newName_81 (by decide) (by omega) (fun c81 => ?_) (fun c81 => ?_)
            · exact absurd c81 (by omega)
            ·
              exact z_vret C K d_M_newName_84 (3, mfr, mfr, mto, mki, mwh, p, nf, ng, sr, nu, ma, no, mna) (rfl) (show (Sim R sF mle 3 mfr mfr mto mki mwh p c2) ∧ (0 ≤ mki ∧ mki ≤ 3 ∧ -1 ≤ mwh ∧ mwh ≤ 255 ∧ 0 ≤ mto ∧ mto ≤ mle) ∧ (3 = 0 → p < p ∧ NamM sF nf ng sr nu ma no mna (N ++ [(0, wA (bF sF) mle p)])) from ⟨Sim_tell hS h0 (by rw [hst h0, if_neg (by omega), if_pos hfu]) (by omega) _ _ _ _ _, hq, fun z => by omega⟩)
        · exact absurd c36 (by omega)
      ·
        refine z_aload_n C d_M_newName_16 0 rfl ?_
        refine z_iconst C d_M_newName_17 ?_
        refine z_aload_n C d_M_newName_18 0 rfl ?_
        refine z_get C f_M_86 d_M_newName_19 0 rfl rfl ?_
        refine z_callv (As := [.int (iI 2), .int (iI mfr)]) (rest := []) (wr := [iA G aSo 4200 sF, iA G aWc 48 wch, iA G aNf 40 nf, iA G aNg 40 ng, iA G aSr 40 sr, iA G aNu 40 nu, iA G aMa 3 ma, iA G aNo 48 no]) (ws' := fun u => [(aM, .inr (8, [.ref aWc, .int (iI mth), .int (iI msz), .ref aTx, .int (iI mwr), .ref aOu, .int (iI 2), .int (iI mfr), .int (iI mle), .int (iI mna), .ref aSo, .ref aNf, .ref aNg, .ref aSr, .ref aNu, .ref aMa, .ref aNo, .int (iI mfi), .int (iI mru), .int (iI mnv), .ref aLe, .ref aAc, .ref aDi, .ref aOr, .int (iI mki), .int (iI mfr), .int (iI mto), .int (iI mwh)])), iA G aSo 4200 sF, iA G aWc 48 wch, iA G aNf 40 nf, iA G aNg 40 ng, iA G aSr 40 sr, iA G aNu 40 nu, iA G aMa 3 ma, iA G aNo 48 no]) (q0 := 0) C k_M_105 kc_M_tell (fun l sz => m_M_tell l G sz aM aWc aTx aOu aSo aNf aNg aSr aNu aMa aNo aLe aAc aDi aOr mth msz mwr mfa mpl mle mna mfi mru mnv mki mfr mto mwh 2 mfr (h0)) rfl rfl (Nat.le_of_ble_eq_true rfl) (by decide) d_M_newName_22 rfl rfl [0] [1, 2, 3, 4, 5, 6, 7, 8] [8, 0, 1, 2, 3, 4, 5, 6, 7] rfl rfl (by decide) (fun u => rfl) (fun u h22 => ?_)
        show Zc G X 2 0 0 [(aM, .inr (8, [.ref aWc, .int (iI mth), .int (iI msz), .ref aTx, .int (iI mwr), .ref aOu, .int (iI 2), .int (iI mfr), .int (iI mle), .int (iI mna), .ref aSo, .ref aNf, .ref aNg, .ref aSr, .ref aNu, .ref aMa, .ref aNo, .int (iI mfi), .int (iI mru), .int (iI mnv), .ref aLe, .ref aAc, .ref aDi, .ref aOr, .int (iI mki), .int (iI mfr), .int (iI mto), .int (iI mwh)])), iA G aSo 4200 sF, iA G aWc 48 wch, iA G aNf 40 nf, iA G aNg 40 ng, iA G aSr 40 sr, iA G aNu 40 nu, iA G aMa 3 ma, iA G aNo 48 no] [(0, .ref aM), (1, .int (iI 0))] 25 []
        refine z_goto (tgt := 77) C d_M_newName_25 (by decide) ?_
        refine z_aload_n C d_M_newName_77 0 rfl ?_
        refine z_get C f_M_70 d_M_newName_78 0 rfl rfl ?_
        refine z_if_le (tgt := 85) C d_M_newName_81 (by decide) (by omega) (fun c81 => ?_) (fun c81 => ?_)
        · exact absurd c81 (by omega)
        ·
          exact z_vret C K d_M_newName_84 (2, mfr, mfr, mto, mki, mwh, p, nf, ng, sr, nu, ma, no, mna) (rfl) (show (Sim R sF mle 2 mfr mfr mto mki mwh p c2) ∧ (0 ≤ mki ∧ mki ≤ 3 ∧ -1 ≤ mwh ∧ mwh ≤ 255 ∧ 0 ≤ mto ∧ mto ≤ mle) ∧ (2 = 0 → p < p ∧ NamM sF nf ng sr nu ma no mna (N ++ [(0, wA (bF sF) mle p)])) from ⟨Sim_tell hS h0 (by rw [hst h0, if_pos (by omega)]) (by omega) _ _ _ _ _, hq, fun z => by omega⟩)
    ·
      exact z_vret C K d_M_newName_7 (mfa, mpl, mfr, mto, mki, mwh, p, nf, ng, sr, nu, ma, no, mna) (rfl) (show (Sim R sF mle mfa mpl mfr mto mki mwh p c2) ∧ (0 ≤ mki ∧ mki ≤ 3 ∧ -1 ≤ mwh ∧ mwh ≤ 255 ∧ 0 ≤ mto ∧ mto ≤ mle) ∧ (mfa = 0 → p < p ∧ NamM sF nf ng sr nu ma no mna (N ++ [(0, wA (bF sF) mle p)])) from ⟨Sim_x hS (by omega) _ _ _ _ _ _, hq, fun z => by omega⟩)
  ·
    skip
    refine z_aload_n C d_M_newName_0 0 rfl ?_
    refine z_get C f_M_70 d_M_newName_1 0 rfl rfl ?_
    refine z_if_le (tgt := 8) C d_M_newName_4 (by decide) (by omega) (fun c4 => ?_) (fun c4 => ?_)
    ·
      have h0 : mfa = 0 := by omega
      obtain ⟨hp, hfr, hto, hkd, hk1, hR⟩ := Sim_0 hS h0
      have hkr := lxK_rg (bF sF) mle p
      have hki := kdR_i hkd (by omega)
      have hlr := lx_rg (bF sF) hp.2
      have hla := lxA_rg (bF sF) hp.2
      have hWP : seg (bF sF) mfr.toNat (mto - mfr).toNat = wA (bF sF) mle p := by rw [hfr, hto]; rfl
      refine z_aload_n C d_M_newName_8 0 rfl ?_
      refine z_get C f_M_92 d_M_newName_9 0 rfl rfl ?_
      refine z_iconst C d_M_newName_12 ?_
      refine z_icmp_eq (tgt := 28) C d_M_newName_13 (by decide) (by omega) (by omega) (fun c13 => ?_) (fun c13 => ?_)
      ·
        have h6 : lxK (bF sF) mle p = 6 := by omega
        refine z_aload_n C d_M_newName_28 0 rfl ?_
        refine z_get C f_M_34 d_M_newName_29 0 rfl rfl ?_
        refine z_iload_n C d_M_newName_32 1 rfl ?_
        refine z_iald C d_M_newName_33 7 rfl (by omega) ?_
        refine z_topi (y := iI (ma 1)) (rfl) ?_
        refine z_iload_n C d_M_newName_34 1 rfl ?_
        refine z_iconst C d_M_newName_35 ?_
        refine z_icmp_ne (tgt := 44) C d_M_newName_36 (by decide) (by omega) (by omega) (fun c36 => ?_) (fun c36 => ?_)
        · exact absurd c36 (by omega)
        ·
          refine z_bipush C d_M_newName_39 (by decide) ?_
          refine z_goto (tgt := 46) C d_M_newName_41 (by decide) ?_
          refine z_icmp_ne (tgt := 61) C d_M_newName_46 (by decide) (by omega) (by omega) (fun c46 => ?_) (fun c46 => ?_)
          ·
            have hfu : ¬ fuN N 1 = 1 := by rw [← NamM_ful hM 1]; unfold ful; split <;> omega
            refine z_aload_n C d_M_newName_61 0 rfl ?_
            refine z_calli (As := []) (rest := []) (wr := [iA G aWc 48 wch, iA G aSr 40 sr, iA G aNu 40 nu, iA G aMa 3 ma, iA G aNo 48 no]) (ws' := fun u => [(aM, .inr (8, [.ref aWc, .int (iI mth), .int (iI msz), .ref aTx, .int (iI mwr), .ref aOu, .int (iI mfa), .int (iI mpl), .int (iI mle), .int (iI mna), .ref aSo, .ref aNf, .ref aNg, .ref aSr, .ref aNu, .ref aMa, .ref aNo, .int (iI mfi), .int (iI mru), .int (iI mnv), .ref aLe, .ref aAc, .ref aDi, .ref aOr, .int (iI mki), .int (iI mfr), .int (iI mto), .int (iI mwh)])), iA G aSo 4200 sF, iA G aWc 48 wch, iA G aNf 40 nf, iA G aNg 40 ng, iA G aSr 40 sr, iA G aNu 40 nu, iA G aMa 3 ma, iA G aNo 48 no]) (q0 := 0) C k_M_121 kc_M_find (fun l sz => m_M_find l G sz aM aWc aTx aOu aSo aNf aNg aSr aNu aMa aNo aLe aAc aDi aOr mth msz mwr mfa mpl mle mna mfi mru mnv mki mfr mto mwh sF nf ng sr nu ma no N (by omega) (hu) (hM)) rfl rfl (Nat.le_of_ble_eq_true rfl) (by decide) d_M_newName_62 rfl rfl [0, 1, 3, 4] [2, 5, 6, 7, 8] [5, 6, 0, 7, 8, 1, 2, 3, 4] rfl rfl (by decide) (fun u => rfl) (fun r u h62 => ?_)
            obtain rfl := h62
            show Zc G X 2 0 0 [(aM, .inr (8, [.ref aWc, .int (iI mth), .int (iI msz), .ref aTx, .int (iI mwr), .ref aOu, .int (iI mfa), .int (iI mpl), .int (iI mle), .int (iI mna), .ref aSo, .ref aNf, .ref aNg, .ref aSr, .ref aNu, .ref aMa, .ref aNo, .int (iI mfi), .int (iI mru), .int (iI mnv), .ref aLe, .ref aAc, .ref aDi, .ref aOr, .int (iI mki), .int (iI mfr), .int (iI mto), .int (iI mwh)])), iA G aSo 4200 sF, iA G aWc 48 wch, iA G aNf 40 nf, iA G aNg 40 ng, iA G aSr 40 sr, iA G aNu 40 nu, iA G aMa 3 ma, iA G aNo 48 no] [(0, .ref aM), (1, .int (iI 1))] 65 [.int (iI (fdI (seg (bF sF) mfr.toNat (mto - mfr).toNat) N))]
            have hfx := fdI_rg (seg (bF sF) mfr.toNat (mto - mfr).toNat) N
            refine z_if_lt (tgt := 77) C d_M_newName_65 (by decide) (by omega) (fun c65 => ?_) (fun c65 => ?_)
            ·
              refine z_aload_n C d_M_newName_77 0 rfl ?_
              refine z_get C f_M_70 d_M_newName_78 0 rfl rfl ?_
              refine z_if_le (tgt := 85) C d_M_newName_81 (by decide) (by omega) (fun c81 => ?_) (fun c81 => ?_)
              ·
                have hfi : fdI (seg (bF sF) mfr.toNat (mto - mfr).toNat) N = -1 := by omega
                have hNN := NamM_tell (s := 1) hM (by omega) hfu (fr := mfr) (to := mto) (by omega) hfi
                have hsum := hNN.2.1
                rw [List.length_append] at hsum
                have hsum2 : N.length + 1 ≤ 40 := hsum
                refine z_aload_n C d_M_newName_85 0 rfl ?_
                refine z_get C f_M_22 d_M_newName_86 0 rfl rfl ?_
                refine z_aload_n C d_M_newName_89 0 rfl ?_
                refine z_get C f_M_115 d_M_newName_90 0 rfl rfl ?_
                refine z_aload_n C d_M_newName_93 0 rfl ?_
                refine z_get C f_M_86 d_M_newName_94 0 rfl rfl ?_
                refine z_iast C d_M_newName_97 3 rfl (by omega) [(aM, .inr (8, [.ref aWc, .int (iI mth), .int (iI msz), .ref aTx, .int (iI mwr), .ref aOu, .int (iI mfa), .int (iI mpl), .int (iI mle), .int (iI mna), .ref aSo, .ref aNf, .ref aNg, .ref aSr, .ref aNu, .ref aMa, .ref aNo, .int (iI mfi), .int (iI mru), .int (iI mnv), .ref aLe, .ref aAc, .ref aDi, .ref aOr, .int (iI mki), .int (iI mfr), .int (iI mto), .int (iI mwh)])), iA G aSo 4200 sF, iA G aWc 48 wch, iA G aNf 40 (uZ nf mna.toNat mfr), iA G aNg 40 ng, iA G aSr 40 sr, iA G aNu 40 nu, iA G aMa 3 ma, iA G aNo 48 no] (rfl) ?_
                refine z_aload_n C d_M_newName_98 0 rfl ?_
                refine z_get C f_M_25 d_M_newName_99 0 rfl rfl ?_
                refine z_aload_n C d_M_newName_102 0 rfl ?_
                refine z_get C f_M_115 d_M_newName_103 0 rfl rfl ?_
                refine z_aload_n C d_M_newName_106 0 rfl ?_
                refine z_get C f_M_76 d_M_newName_107 0 rfl rfl ?_
                refine z_iast C d_M_newName_110 4 rfl (by omega) [(aM, .inr (8, [.ref aWc, .int (iI mth), .int (iI msz), .ref aTx, .int (iI mwr), .ref aOu, .int (iI mfa), .int (iI mpl), .int (iI mle), .int (iI mna), .ref aSo, .ref aNf, .ref aNg, .ref aSr, .ref aNu, .ref aMa, .ref aNo, .int (iI mfi), .int (iI mru), .int (iI mnv), .ref aLe, .ref aAc, .ref aDi, .ref aOr, .int (iI mki), .int (iI mfr), .int (iI mto), .int (iI mwh)])), iA G aSo 4200 sF, iA G aWc 48 wch, iA G aNf 40 (uZ nf mna.toNat mfr), iA G aNg 40 (uZ ng mna.toNat mto), iA G aSr 40 sr, iA G aNu 40 nu, iA G aMa 3 ma, iA G aNo 48 no] (rfl) ?_
                refine z_aload_n C d_M_newName_111 0 rfl ?_
                refine z_get C f_M_28 d_M_newName_112 0 rfl rfl ?_
                refine z_aload_n C d_M_newName_115 0 rfl ?_
                refine z_get C f_M_115 d_M_newName_116 0 rfl rfl ?_
                refine z_iload_n C d_M_newName_119 1 rfl ?_
                refine z_iast C d_M_newName_120 5 rfl (by omega) [(aM, .inr (8, [.ref aWc, .int (iI mth), .int (iI msz), .ref aTx, .int (iI mwr), .ref aOu, .int (iI mfa), .int (iI mpl), .int (iI mle), .int (iI mna), .ref aSo, .ref aNf, .ref aNg, .ref aSr, .ref aNu, .ref aMa, .ref aNo, .int (iI mfi), .int (iI mru), .int (iI mnv), .ref aLe, .ref aAc, .ref aDi, .ref aOr, .int (iI mki), .int (iI mfr), .int (iI mto), .int (iI mwh)])), iA G aSo 4200 sF, iA G aWc 48 wch, iA G aNf 40 (uZ nf mna.toNat mfr), iA G aNg 40 (uZ ng mna.toNat mto), iA G aSr 40 (uZ sr mna.toNat 1), iA G aNu 40 nu, iA G aMa 3 ma, iA G aNo 48 no] (rfl) ?_
                refine z_aload_n C d_M_newName_121 0 rfl ?_
                refine z_get C f_M_31 d_M_newName_122 0 rfl rfl ?_
                refine z_aload_n C d_M_newName_125 0 rfl ?_
                refine z_get C f_M_115 d_M_newName_126 0 rfl rfl ?_
                refine z_aload_n C d_M_newName_129 0 rfl ?_
                refine z_get C f_M_34 d_M_newName_130 0 rfl rfl ?_
                refine z_iload_n C d_M_newName_133 1 rfl ?_
                refine z_iald C d_M_newName_134 7 rfl (by omega) ?_
                refine z_topi (y := iI (ma 1)) (rfl) ?_
                refine z_iast C d_M_newName_135 6 rfl (by omega) [(aM, .inr (8, [.ref aWc, .int (iI mth), .int (iI msz), .ref aTx, .int (iI mwr), .ref aOu, .int (iI mfa), .int (iI mpl), .int (iI mle), .int (iI mna), .ref aSo, .ref aNf, .ref aNg, .ref aSr, .ref aNu, .ref aMa, .ref aNo, .int (iI mfi), .int (iI mru), .int (iI mnv), .ref aLe, .ref aAc, .ref aDi, .ref aOr, .int (iI mki), .int (iI mfr), .int (iI mto), .int (iI mwh)])), iA G aSo 4200 sF, iA G aWc 48 wch, iA G aNf 40 (uZ nf mna.toNat mfr), iA G aNg 40 (uZ ng mna.toNat mto), iA G aSr 40 (uZ sr mna.toNat 1), iA G aNu 40 (uZ nu mna.toNat (ma 1)), iA G aMa 3 ma, iA G aNo 48 no] (rfl) ?_
                refine z_aload_n C d_M_newName_136 0 rfl ?_
                refine z_get C f_M_37 d_M_newName_137 0 rfl rfl ?_
                refine z_bipush C d_M_newName_140 (by decide) ?_
                refine z_iload_n C d_M_newName_142 1 rfl ?_
                refine z_imul C d_M_newName_143 ?_
                refine z_aload_n C d_M_newName_144 0 rfl ?_
                refine z_get C f_M_34 d_M_newName_145 0 rfl rfl ?_
                refine z_iload_n C d_M_newName_148 1 rfl ?_
                refine z_iald C d_M_newName_149 7 rfl (by omega) ?_
                refine z_topi (y := iI (ma 1)) (rfl) ?_
                refine z_iadd C d_M_newName_150 ?_
                refine z_aload_n C d_M_newName_151 0 rfl ?_
                refine z_get C f_M_115 d_M_newName_152 0 rfl rfl ?_
                refine z_iast C d_M_newName_155 8 rfl (by omega) [(aM, .inr (8, [.ref aWc, .int (iI mth), .int (iI msz), .ref aTx, .int (iI mwr), .ref aOu, .int (iI mfa), .int (iI mpl), .int (iI mle), .int (iI mna), .ref aSo, .ref aNf, .ref aNg, .ref aSr, .ref aNu, .ref aMa, .ref aNo, .int (iI mfi), .int (iI mru), .int (iI mnv), .ref aLe, .ref aAc, .ref aDi, .ref aOr, .int (iI mki), .int (iI mfr), .int (iI mto), .int (iI mwh)])), iA G aSo 4200 sF, iA G aWc 48 wch, iA G aNf 40 (uZ nf mna.toNat mfr), iA G aNg 40 (uZ ng mna.toNat mto), iA G aSr 40 (uZ sr mna.toNat 1), iA G aNu 40 (uZ nu mna.toNat (ma 1)), iA G aMa 3 ma, iA G aNo 48 (uZ no (((16 * 1) + (ma 1)).toNat) mna)] (rfl) ?_
                refine z_aload_n C d_M_newName_156 0 rfl ?_
                refine z_dup C d_M_newName_157 rfl ?_
                refine z_get C f_M_115 d_M_newName_158 0 rfl rfl ?_
                refine z_iconst C d_M_newName_161 ?_
                refine z_iadd C d_M_newName_162 ?_
                refine z_put C f_M_115 ok_M nm_M d_M_newName_163 0 rfl rfl rfl rfl (Nat.le_of_ble_eq_true rfl) [(aM, .inr (8, [.ref aWc, .int (iI mth), .int (iI msz), .ref aTx, .int (iI mwr), .ref aOu, .int (iI mfa), .int (iI mpl), .int (iI mle), .int (iI (mna + 1)), .ref aSo, .ref aNf, .ref aNg, .ref aSr, .ref aNu, .ref aMa, .ref aNo, .int (iI mfi), .int (iI mru), .int (iI mnv), .ref aLe, .ref aAc, .ref aDi, .ref aOr, .int (iI mki), .int (iI mfr), .int (iI mto), .int (iI mwh)])), iA G aSo 4200 sF, iA G aWc 48 wch, iA G aNf 40 (uZ nf mna.toNat mfr), iA G aNg 40 (uZ ng mna.toNat mto), iA G aSr 40 (uZ sr mna.toNat 1), iA G aNu 40 (uZ nu mna.toNat (ma 1)), iA G aMa 3 ma, iA G aNo 48 (uZ no (((16 * 1) + (ma 1)).toNat) mna)] rfl ?_
                refine z_aload_n C d_M_newName_166 0 rfl ?_
                refine z_get C f_M_34 d_M_newName_167 0 rfl rfl ?_
                refine z_iload_n C d_M_newName_170 1 rfl ?_
                refine z_dup2 C d_M_newName_171 rfl rfl ?_
                refine z_iald C d_M_newName_172 7 rfl (by omega) ?_
                refine z_topi (y := iI (ma 1)) (rfl) ?_
                refine z_iconst C d_M_newName_173 ?_
                refine z_iadd C d_M_newName_174 ?_
                refine z_iast C d_M_newName_175 7 rfl (by omega) [(aM, .inr (8, [.ref aWc, .int (iI mth), .int (iI msz), .ref aTx, .int (iI mwr), .ref aOu, .int (iI mfa), .int (iI mpl), .int (iI mle), .int (iI (mna + 1)), .ref aSo, .ref aNf, .ref aNg, .ref aSr, .ref aNu, .ref aMa, .ref aNo, .int (iI mfi), .int (iI mru), .int (iI mnv), .ref aLe, .ref aAc, .ref aDi, .ref aOr, .int (iI mki), .int (iI mfr), .int (iI mto), .int (iI mwh)])), iA G aSo 4200 sF, iA G aWc 48 wch, iA G aNf 40 (uZ nf mna.toNat mfr), iA G aNg 40 (uZ ng mna.toNat mto), iA G aSr 40 (uZ sr mna.toNat 1), iA G aNu 40 (uZ nu mna.toNat (ma 1)), iA G aMa 3 (uZ ma 1 ((ma 1) + 1)), iA G aNo 48 (uZ no (((16 * 1) + (ma 1)).toNat) mna)] (rfl) ?_
                refine z_aload_n C d_M_newName_176 0 rfl ?_
                refine z_callv (As := []) (rest := []) (wr := [iA G aNf 40 (uZ nf mna.toNat mfr), iA G aNg 40 (uZ ng mna.toNat mto), iA G aSr 40 (uZ sr mna.toNat 1), iA G aNu 40 (uZ nu mna.toNat (ma 1)), iA G aMa 3 (uZ ma 1 ((ma 1) + 1)), iA G aNo 48 (uZ no (((16 * 1) + (ma 1)).toNat) mna)]) (ws' := fun u => [(aM, .inr (8, [.ref aWc, .int (iI mth), .int (iI msz), .ref aTx, .int (iI mwr), .ref aOu, .int (iI u.2.2.2.1), .int (iI u.2.2.2.2), .int (iI mle), .int (iI (mna + 1)), .ref aSo, .ref aNf, .ref aNg, .ref aSr, .ref aNu, .ref aMa, .ref aNo, .int (iI mfi), .int (iI mru), .int (iI mnv), .ref aLe, .ref aAc, .ref aDi, .ref aOr, .int (iI u.1), .int (iI (lxS (bF sF) mle mto)), .int (iI u.2.2.1), .int (iI u.2.1)])), iA G aSo 4200 sF, iA G aWc 48 wch, iA G aNf 40 (uZ nf mna.toNat mfr), iA G aNg 40 (uZ ng mna.toNat mto), iA G aSr 40 (uZ sr mna.toNat 1), iA G aNu 40 (uZ nu mna.toNat (ma 1)), iA G aMa 3 (uZ ma 1 ((ma 1) + 1)), iA G aNo 48 (uZ no (((16 * 1) + (ma 1)).toNat) mna)]) (q0 := 0) C k_M_112 kc_M_advance (fun l sz => m_M_advance l G sz aM aWc aTx aOu aSo aNf aNg aSr aNu aMa aNo aLe aAc aDi aOr mth msz mwr mfa mpl mle (mna + 1) mfi mru mnv mki mfr mto mwh sF (by omega) (hu) (h0) (by omega)) rfl rfl (Nat.le_of_ble_eq_true rfl) (by decide) d_M_newName_177 rfl rfl [0, 1, 2] [3, 4, 5, 6, 7, 8] [6, 7, 8, 0, 1, 2, 3, 4, 5] rfl rfl (by decide) (fun u => rfl) (fun u h177 => ?_)
                obtain ⟨ki2_177, wh2_177, to2_177, fa2_177, pl2_177⟩ := u
                obtain ⟨ha_177, hr_177⟩ := h177
                have ha_177 : (lxK (bF sF) mle mto = 1 → fa2_177 = 1 ∧ pl2_177 = lxS (bF sF) mle mto) ∧ (¬ lxK (bF sF) mle mto = 1 → fa2_177 = 0 ∧ pl2_177 = mpl ∧ to2_177 = lxA (bF sF) mle mto ∧ kdR (lxK (bF sF) mle mto) ki2_177 wh2_177) := ha_177
                have hr_177 : 0 ≤ ki2_177 ∧ ki2_177 ≤ 3 ∧ -1 ≤ wh2_177 ∧ wh2_177 ≤ 255 ∧ lxS (bF sF) mle mto ≤ to2_177 ∧ to2_177 ≤ mle := hr_177
                show Zc G X 2 0 0 [(aM, .inr (8, [.ref aWc, .int (iI mth), .int (iI msz), .ref aTx, .int (iI mwr), .ref aOu, .int (iI fa2_177), .int (iI pl2_177), .int (iI mle), .int (iI (mna + 1)), .ref aSo, .ref aNf, .ref aNg, .ref aSr, .ref aNu, .ref aMa, .ref aNo, .int (iI mfi), .int (iI mru), .int (iI mnv), .ref aLe, .ref aAc, .ref aDi, .ref aOr, .int (iI ki2_177), .int (iI (lxS (bF sF) mle mto)), .int (iI to2_177), .int (iI wh2_177)])), iA G aSo 4200 sF, iA G aWc 48 wch, iA G aNf 40 (uZ nf mna.toNat mfr), iA G aNg 40 (uZ ng mna.toNat mto), iA G aSr 40 (uZ sr mna.toNat 1), iA G aNu 40 (uZ nu mna.toNat (ma 1)), iA G aMa 3 (uZ ma 1 ((ma 1) + 1)), iA G aNo 48 (uZ no (((16 * 1) + (ma 1)).toNat) mna)] [(0, .ref aM), (1, .int (iI 1))] 180 []
                exact z_vret C K d_M_newName_180 (fa2_177, pl2_177, lxS (bF sF) mle mto, to2_177, ki2_177, wh2_177, mto, uZ nf mna.toNat mfr, uZ ng mna.toNat mto, uZ sr mna.toNat 1, uZ nu mna.toNat (ma 1), uZ ma 1 (ma 1 + 1), uZ no (16 * 1 + ma 1).toNat mna, mna + 1) (rfl) (show (Sim R sF mle fa2_177 pl2_177 (lxS (bF sF) mle mto) to2_177 ki2_177 wh2_177 mto c2) ∧ (0 ≤ ki2_177 ∧ ki2_177 ≤ 3 ∧ -1 ≤ wh2_177 ∧ wh2_177 ≤ 255 ∧ 0 ≤ to2_177 ∧ to2_177 ≤ mle) ∧ (fa2_177 = 0 → p < mto ∧ NamM sF (uZ nf mna.toNat mfr) (uZ ng mna.toNat mto) (uZ sr mna.toNat 1) (uZ nu mna.toNat (ma 1)) (uZ ma 1 (ma 1 + 1)) (uZ no (16 * 1 + ma 1).toNat mna) (mna + 1) (N ++ [(1, wA (bF sF) mle p)])) from ⟨Sim_adv hS h0 (by rw [hst h0, if_neg (by omega), if_neg hfu, if_neg (by rw [← hWP]; omega)]) (by omega) ha_177, by have h9 := hr_177; have h8 := lx_rg (bF sF) (n := mle) (p := mto) (by omega); omega, fun _ => ⟨by omega, by rw [← hWP]; exact hNN⟩⟩)
              · exact absurd c81 (by omega)
            ·
              refine z_aload_n C d_M_newName_68 0 rfl ?_
              refine z_iconst C d_M_newName_69 ?_
              refine z_aload_n C d_M_newName_70 0 rfl ?_
              refine z_get C f_M_86 d_M_newName_71 0 rfl rfl ?_
              refine z_callv (As := [.int (iI 4), .int (iI mfr)]) (rest := []) (wr := [iA G aSo 4200 sF, iA G aWc 48 wch, iA G aNf 40 nf, iA G aNg 40 ng, iA G aSr 40 sr, iA G aNu 40 nu, iA G aMa 3 ma, iA G aNo 48 no]) (ws' := fun u => [(aM, .inr (8, [.ref aWc, .int (iI mth), .int (iI msz), .ref aTx, .int (iI mwr), .ref aOu, .int (iI 4), .int (iI mfr), .int (iI mle), .int (iI mna), .ref aSo, .ref aNf, .ref aNg, .ref aSr, .ref aNu, .ref aMa, .ref aNo, .int (iI mfi), .int (iI mru), .int (iI mnv), .ref aLe, .ref aAc, .ref aDi, .ref aOr, .int (iI mki), .int (iI mfr), .int (iI mto), .int (iI mwh)])), iA G aSo 4200 sF, iA G aWc 48 wch, iA G aNf 40 nf, iA G aNg 40 ng, iA G aSr 40 sr, iA G aNu 40 nu, iA G aMa 3 ma, iA G aNo 48 no]) (q0 := 0) C k_M_105 kc_M_tell (fun l sz => m_M_tell l G sz aM aWc aTx aOu aSo aNf aNg aSr aNu aMa aNo aLe aAc aDi aOr mth msz mwr mfa mpl mle mna mfi mru mnv mki mfr mto mwh 4 mfr (h0)) rfl rfl (Nat.le_of_ble_eq_true rfl) (by decide) d_M_newName_74 rfl rfl [0] [1, 2, 3, 4, 5, 6, 7, 8] [8, 0, 1, 2, 3, 4, 5, 6, 7] rfl rfl (by decide) (fun u => rfl) (fun u h74 => ?_)
              show Zc G X 2 0 0 [(aM, .inr (8, [.ref aWc, .int (iI mth), .int (iI msz), .ref aTx, .int (iI mwr), .ref aOu, .int (iI 4), .int (iI mfr), .int (iI mle), .int (iI mna), .ref aSo, .ref aNf, .ref aNg, .ref aSr, .ref aNu, .ref aMa, .ref aNo, .int (iI mfi), .int (iI mru), .int (iI mnv), .ref aLe, .ref aAc, .ref aDi, .ref aOr, .int (iI mki), .int (iI mfr), .int (iI mto), .int (iI mwh)])), iA G aSo 4200 sF, iA G aWc 48 wch, iA G aNf 40 nf, iA G aNg 40 ng, iA G aSr 40 sr, iA G aNu 40 nu, iA G aMa 3 ma, iA G aNo 48 no] [(0, .ref aM), (1, .int (iI 1))] 77 []
              refine z_aload_n C d_M_newName_77 0 rfl ?_
              refine z_get C f_M_70 d_M_newName_78 0 rfl rfl ?_
              refine z_if_le (tgt := 85) C d_M_newName_81 (by decide) (by omega) (fun c81 => ?_) (fun c81 => ?_)
              · exact absurd c81 (by omega)
              ·
                exact z_vret C K d_M_newName_84 (4, mfr, mfr, mto, mki, mwh, p, nf, ng, sr, nu, ma, no, mna) (rfl) (show (Sim R sF mle 4 mfr mfr mto mki mwh p c2) ∧ (0 ≤ mki ∧ mki ≤ 3 ∧ -1 ≤ mwh ∧ mwh ≤ 255 ∧ 0 ≤ mto ∧ mto ≤ mle) ∧ (4 = 0 → p < p ∧ NamM sF nf ng sr nu ma no mna (N ++ [(1, wA (bF sF) mle p)])) from ⟨Sim_tell hS h0 (by rw [hst h0, if_neg (by omega), if_neg hfu, if_pos (by rw [← hWP]; omega)]) (by omega) _ _ _ _ _, hq, fun z => by omega⟩)
          ·
            have hfu : fuN N 1 = 1 := by rw [← NamM_ful hM 1]; unfold ful; rw [if_pos (by omega)]
            refine z_aload_n C d_M_newName_49 0 rfl ?_
            refine z_iconst C d_M_newName_50 ?_
            refine z_aload_n C d_M_newName_51 0 rfl ?_
            refine z_get C f_M_86 d_M_newName_52 0 rfl rfl ?_
            refine z_callv (As := [.int (iI 3), .int (iI mfr)]) (rest := []) (wr := [iA G aSo 4200 sF, iA G aWc 48 wch, iA G aNf 40 nf, iA G aNg 40 ng, iA G aSr 40 sr, iA G aNu 40 nu, iA G aMa 3 ma, iA G aNo 48 no]) (ws' := fun u => [(aM, .inr (8, [.ref aWc, .int (iI mth), .int (iI msz), .ref aTx, .int (iI mwr), .ref aOu, .int (iI 3), .int (iI mfr), .int (iI mle), .int (iI mna), .ref aSo, .ref aNf, .ref aNg, .ref aSr, .ref aNu, .ref aMa, .ref aNo, .int (iI mfi), .int (iI mru), .int (iI mnv), .ref aLe, .ref aAc, .ref aDi, .ref aOr, .int (iI mki), .int (iI mfr), .int (iI mto), .int (iI mwh)])), iA G aSo 4200 sF, iA G aWc 48 wch, iA G aNf 40 nf, iA G aNg 40 ng, iA G aSr 40 sr, iA G aNu 40 nu, iA G aMa 3 ma, iA G aNo 48 no]) (q0 := 0) C k_M_105 kc_M_tell (fun l sz => m_M_tell l G sz aM aWc aTx aOu aSo aNf aNg aSr aNu aMa aNo aLe aAc aDi aOr mth msz mwr mfa mpl mle mna mfi mru mnv mki mfr mto mwh 3 mfr (h0)) rfl rfl (Nat.le_of_ble_eq_true rfl) (by decide) d_M_newName_55 rfl rfl [0] [1, 2, 3, 4, 5, 6, 7, 8] [8, 0, 1, 2, 3, 4, 5, 6, 7] rfl rfl (by decide) (fun u => rfl) (fun u h55 => ?_)
            show Zc G X 2 0 0 [(aM, .inr (8, [.ref aWc, .int (iI mth), .int (iI msz), .ref aTx, .int (iI mwr), .ref aOu, .int (iI 3), .int (iI mfr), .int (iI mle), .int (iI mna), .ref aSo, .ref aNf, .ref aNg, .ref aSr, .ref aNu, .ref aMa, .ref aNo, .int (iI mfi), .int (iI mru), .int (iI mnv), .ref aLe, .ref aAc, .ref aDi, .ref aOr, .int (iI mki), .int (iI mfr), .int (iI mto), .int (iI mwh)])), iA G aSo 4200 sF, iA G aWc 48 wch, iA G aNf 40 nf, iA G aNg 40 ng, iA G aSr 40 sr, iA G aNu 40 nu, iA G aMa 3 ma, iA G aNo 48 no] [(0, .ref aM), (1, .int (iI 1))] 58 []
            refine z_goto (tgt := 77) C d_M_newName_58 (by decide) ?_
            refine z_aload_n C d_M_newName_77 0 rfl ?_
            refine z_get C f_M_70 d_M_newName_78 0 rfl rfl ?_
            refine z_if_le (tgt := 85) C d_M_newName_81 (by decide) (by omega) (fun c81 => ?_) (fun c81 => ?_)
            · exact absurd c81 (by omega)
            ·
              exact z_vret C K d_M_newName_84 (3, mfr, mfr, mto, mki, mwh, p, nf, ng, sr, nu, ma, no, mna) (rfl) (show (Sim R sF mle 3 mfr mfr mto mki mwh p c2) ∧ (0 ≤ mki ∧ mki ≤ 3 ∧ -1 ≤ mwh ∧ mwh ≤ 255 ∧ 0 ≤ mto ∧ mto ≤ mle) ∧ (3 = 0 → p < p ∧ NamM sF nf ng sr nu ma no mna (N ++ [(1, wA (bF sF) mle p)])) from ⟨Sim_tell hS h0 (by rw [hst h0, if_neg (by omega), if_pos hfu]) (by omega) _ _ _ _ _, hq, fun z => by omega⟩)
      ·
        refine z_aload_n C d_M_newName_16 0 rfl ?_
        refine z_iconst C d_M_newName_17 ?_
        refine z_aload_n C d_M_newName_18 0 rfl ?_
        refine z_get C f_M_86 d_M_newName_19 0 rfl rfl ?_
        refine z_callv (As := [.int (iI 2), .int (iI mfr)]) (rest := []) (wr := [iA G aSo 4200 sF, iA G aWc 48 wch, iA G aNf 40 nf, iA G aNg 40 ng, iA G aSr 40 sr, iA G aNu 40 nu, iA G aMa 3 ma, iA G aNo 48 no]) (ws' := fun u => [(aM, .inr (8, [.ref aWc, .int (iI mth), .int (iI msz), .ref aTx, .int (iI mwr), .ref aOu, .int (iI 2), .int (iI mfr), .int (iI mle), .int (iI mna), .ref aSo, .ref aNf, .ref aNg, .ref aSr, .ref aNu, .ref aMa, .ref aNo, .int (iI mfi), .int (iI mru), .int (iI mnv), .ref aLe, .ref aAc, .ref aDi, .ref aOr, .int (iI mki), .int (iI mfr), .int (iI mto), .int (iI mwh)])), iA G aSo 4200 sF, iA G aWc 48 wch, iA G aNf 40 nf, iA G aNg 40 ng, iA G aSr 40 sr, iA G aNu 40 nu, iA G aMa 3 ma, iA G aNo 48 no]) (q0 := 0) C k_M_105 kc_M_tell (fun l sz => m_M_tell l G sz aM aWc aTx aOu aSo aNf aNg aSr aNu aMa aNo aLe aAc aDi aOr mth msz mwr mfa mpl mle mna mfi mru mnv mki mfr mto mwh 2 mfr (h0)) rfl rfl (Nat.le_of_ble_eq_true rfl) (by decide) d_M_newName_22 rfl rfl [0] [1, 2, 3, 4, 5, 6, 7, 8] [8, 0, 1, 2, 3, 4, 5, 6, 7] rfl rfl (by decide) (fun u => rfl) (fun u h22 => ?_)
        show Zc G X 2 0 0 [(aM, .inr (8, [.ref aWc, .int (iI mth), .int (iI msz), .ref aTx, .int (iI mwr), .ref aOu, .int (iI 2), .int (iI mfr), .int (iI mle), .int (iI mna), .ref aSo, .ref aNf, .ref aNg, .ref aSr, .ref aNu, .ref aMa, .ref aNo, .int (iI mfi), .int (iI mru), .int (iI mnv), .ref aLe, .ref aAc, .ref aDi, .ref aOr, .int (iI mki), .int (iI mfr), .int (iI mto), .int (iI mwh)])), iA G aSo 4200 sF, iA G aWc 48 wch, iA G aNf 40 nf, iA G aNg 40 ng, iA G aSr 40 sr, iA G aNu 40 nu, iA G aMa 3 ma, iA G aNo 48 no] [(0, .ref aM), (1, .int (iI 1))] 25 []
        refine z_goto (tgt := 77) C d_M_newName_25 (by decide) ?_
        refine z_aload_n C d_M_newName_77 0 rfl ?_
        refine z_get C f_M_70 d_M_newName_78 0 rfl rfl ?_
        refine z_if_le (tgt := 85) C d_M_newName_81 (by decide) (by omega) (fun c81 => ?_) (fun c81 => ?_)
        · exact absurd c81 (by omega)
        ·
          exact z_vret C K d_M_newName_84 (2, mfr, mfr, mto, mki, mwh, p, nf, ng, sr, nu, ma, no, mna) (rfl) (show (Sim R sF mle 2 mfr mfr mto mki mwh p c2) ∧ (0 ≤ mki ∧ mki ≤ 3 ∧ -1 ≤ mwh ∧ mwh ≤ 255 ∧ 0 ≤ mto ∧ mto ≤ mle) ∧ (2 = 0 → p < p ∧ NamM sF nf ng sr nu ma no mna (N ++ [(1, wA (bF sF) mle p)])) from ⟨Sim_tell hS h0 (by rw [hst h0, if_pos (by omega)]) (by omega) _ _ _ _ _, hq, fun z => by omega⟩)
    ·
      exact z_vret C K d_M_newName_7 (mfa, mpl, mfr, mto, mki, mwh, p, nf, ng, sr, nu, ma, no, mna) (rfl) (show (Sim R sF mle mfa mpl mfr mto mki mwh p c2) ∧ (0 ≤ mki ∧ mki ≤ 3 ∧ -1 ≤ mwh ∧ mwh ≤ 255 ∧ 0 ≤ mto ∧ mto ≤ mle) ∧ (mfa = 0 → p < p ∧ NamM sF nf ng sr nu ma no mna (N ++ [(1, wA (bF sF) mle p)])) from ⟨Sim_x hS (by omega) _ _ _ _ _ _, hq, fun z => by omega⟩)
  ·
    skip
    refine z_aload_n C d_M_newName_0 0 rfl ?_
    refine z_get C f_M_70 d_M_newName_1 0 rfl rfl ?_
    refine z_if_le (tgt := 8) C d_M_newName_4 (by decide) (by omega) (fun c4 => ?_) (fun c4 => ?_)
    ·
      have h0 : mfa = 0 := by omega
      obtain ⟨hp, hfr, hto, hkd, hk1, hR⟩ := Sim_0 hS h0
      have hkr := lxK_rg (bF sF) mle p
      have hki := kdR_i hkd (by omega)
      have hlr := lx_rg (bF sF) hp.2
      have hla := lxA_rg (bF sF) hp.2
      have hWP : seg (bF sF) mfr.toNat (mto - mfr).toNat = wA (bF sF) mle p := by rw [hfr, hto]; rfl
      refine z_aload_n C d_M_newName_8 0 rfl ?_
      refine z_get C f_M_92 d_M_newName_9 0 rfl rfl ?_
      refine z_iconst C d_M_newName_12 ?_
      refine z_icmp_eq (tgt := 28) C d_M_newName_13 (by decide) (by omega) (by omega) (fun c13 => ?_) (fun c13 => ?_)
      ·
        have h6 : lxK (bF sF) mle p = 6 := by omega
        refine z_aload_n C d_M_newName_28 0 rfl ?_
        refine z_get C f_M_34 d_M_newName_29 0 rfl rfl ?_
        refine z_iload_n C d_M_newName_32 1 rfl ?_
        refine z_iald C d_M_newName_33 7 rfl (by omega) ?_
        refine z_topi (y := iI (ma 2)) (rfl) ?_
        refine z_iload_n C d_M_newName_34 1 rfl ?_
        refine z_iconst C d_M_newName_35 ?_
        refine z_icmp_ne (tgt := 44) C d_M_newName_36 (by decide) (by omega) (by omega) (fun c36 => ?_) (fun c36 => ?_)
        ·
          refine z_bipush C d_M_newName_44 (by decide) ?_
          refine z_icmp_ne (tgt := 61) C d_M_newName_46 (by decide) (by omega) (by omega) (fun c46 => ?_) (fun c46 => ?_)
          ·
            have hfu : ¬ fuN N 2 = 1 := by rw [← NamM_ful hM 2]; unfold ful; split <;> omega
            refine z_aload_n C d_M_newName_61 0 rfl ?_
            refine z_calli (As := []) (rest := []) (wr := [iA G aWc 48 wch, iA G aSr 40 sr, iA G aNu 40 nu, iA G aMa 3 ma, iA G aNo 48 no]) (ws' := fun u => [(aM, .inr (8, [.ref aWc, .int (iI mth), .int (iI msz), .ref aTx, .int (iI mwr), .ref aOu, .int (iI mfa), .int (iI mpl), .int (iI mle), .int (iI mna), .ref aSo, .ref aNf, .ref aNg, .ref aSr, .ref aNu, .ref aMa, .ref aNo, .int (iI mfi), .int (iI mru), .int (iI mnv), .ref aLe, .ref aAc, .ref aDi, .ref aOr, .int (iI mki), .int (iI mfr), .int (iI mto), .int (iI mwh)])), iA G aSo 4200 sF, iA G aWc 48 wch, iA G aNf 40 nf, iA G aNg 40 ng, iA G aSr 40 sr, iA G aNu 40 nu, iA G aMa 3 ma, iA G aNo 48 no]) (q0 := 0) C k_M_121 kc_M_find (fun l sz => m_M_find l G sz aM aWc aTx aOu aSo aNf aNg aSr aNu aMa aNo aLe aAc aDi aOr mth msz mwr mfa mpl mle mna mfi mru mnv mki mfr mto mwh sF nf ng sr nu ma no N (by omega) (hu) (hM)) rfl rfl (Nat.le_of_ble_eq_true rfl) (by decide) d_M_newName_62 rfl rfl [0, 1, 3, 4] [2, 5, 6, 7, 8] [5, 6, 0, 7, 8, 1, 2, 3, 4] rfl rfl (by decide) (fun u => rfl) (fun r u h62 => ?_)
            obtain rfl := h62
            show Zc G X 2 0 0 [(aM, .inr (8, [.ref aWc, .int (iI mth), .int (iI msz), .ref aTx, .int (iI mwr), .ref aOu, .int (iI mfa), .int (iI mpl), .int (iI mle), .int (iI mna), .ref aSo, .ref aNf, .ref aNg, .ref aSr, .ref aNu, .ref aMa, .ref aNo, .int (iI mfi), .int (iI mru), .int (iI mnv), .ref aLe, .ref aAc, .ref aDi, .ref aOr, .int (iI mki), .int (iI mfr), .int (iI mto), .int (iI mwh)])), iA G aSo 4200 sF, iA G aWc 48 wch, iA G aNf 40 nf, iA G aNg 40 ng, iA G aSr 40 sr, iA G aNu 40 nu, iA G aMa 3 ma, iA G aNo 48 no] [(0, .ref aM), (1, .int (iI 2))] 65 [.int (iI (fdI (seg (bF sF) mfr.toNat (mto - mfr).toNat) N))]
            have hfx := fdI_rg (seg (bF sF) mfr.toNat (mto - mfr).toNat) N
            refine z_if_lt (tgt := 77) C d_M_newName_65 (by decide) (by omega) (fun c65 => ?_) (fun c65 => ?_)
            ·
              refine z_aload_n C d_M_newName_77 0 rfl ?_
              refine z_get C f_M_70 d_M_newName_78 0 rfl rfl ?_
              refine z_if_le (tgt := 85) C d_M_newName_81 (by decide) (by omega) (fun c81 => ?_) (fun c81 => ?_)
              ·
                have hfi : fdI (seg (bF sF) mfr.toNat (mto - mfr).toNat) N = -1 := by omega
                have hNN := NamM_tell (s := 2) hM (by omega) hfu (fr := mfr) (to := mto) (by omega) hfi
                have hsum := hNN.2.1
                rw [List.length_append] at hsum
                have hsum2 : N.length + 1 ≤ 40 := hsum
                refine z_aload_n C d_M_newName_85 0 rfl ?_
                refine z_get C f_M_22 d_M_newName_86 0 rfl rfl ?_
                refine z_aload_n C d_M_newName_89 0 rfl ?_
                refine z_get C f_M_115 d_M_newName_90 0 rfl rfl ?_
                refine z_aload_n C d_M_newName_93 0 rfl ?_
                refine z_get C f_M_86 d_M_newName_94 0 rfl rfl ?_
                refine z_iast C d_M_newName_97 3 rfl (by omega) [(aM, .inr (8, [.ref aWc, .int (iI mth), .int (iI msz), .ref aTx, .int (iI mwr), .ref aOu, .int (iI mfa), .int (iI mpl), .int (iI mle), .int (iI mna), .ref aSo, .ref aNf, .ref aNg, .ref aSr, .ref aNu, .ref aMa, .ref aNo, .int (iI mfi), .int (iI mru), .int (iI mnv), .ref aLe, .ref aAc, .ref aDi, .ref aOr, .int (iI mki), .int (iI mfr), .int (iI mto), .int (iI mwh)])), iA G aSo 4200 sF, iA G aWc 48 wch, iA G aNf 40 (uZ nf mna.toNat mfr), iA G aNg 40 ng, iA G aSr 40 sr, iA G aNu 40 nu, iA G aMa 3 ma, iA G aNo 48 no] (rfl) ?_
                refine z_aload_n C d_M_newName_98 0 rfl ?_
                refine z_get C f_M_25 d_M_newName_99 0 rfl rfl ?_
                refine z_aload_n C d_M_newName_102 0 rfl ?_
                refine z_get C f_M_115 d_M_newName_103 0 rfl rfl ?_
                refine z_aload_n C d_M_newName_106 0 rfl ?_
                refine z_get C f_M_76 d_M_newName_107 0 rfl rfl ?_
                refine z_iast C d_M_newName_110 4 rfl (by omega) [(aM, .inr (8, [.ref aWc, .int (iI mth), .int (iI msz), .ref aTx, .int (iI mwr), .ref aOu, .int (iI mfa), .int (iI mpl), .int (iI mle), .int (iI mna), .ref aSo, .ref aNf, .ref aNg, .ref aSr, .ref aNu, .ref aMa, .ref aNo, .int (iI mfi), .int (iI mru), .int (iI mnv), .ref aLe, .ref aAc, .ref aDi, .ref aOr, .int (iI mki), .int (iI mfr), .int (iI mto), .int (iI mwh)])), iA G aSo 4200 sF, iA G aWc 48 wch, iA G aNf 40 (uZ nf mna.toNat mfr), iA G aNg 40 (uZ ng mna.toNat mto), iA G aSr 40 sr, iA G aNu 40 nu, iA G aMa 3 ma, iA G aNo 48 no] (rfl) ?_
                refine z_aload_n C d_M_newName_111 0 rfl ?_
                refine z_get C f_M_28 d_M_newName_112 0 rfl rfl ?_
                refine z_aload_n C d_M_newName_115 0 rfl ?_
                refine z_get C f_M_115 d_M_newName_116 0 rfl rfl ?_
                refine z_iload_n C d_M_newName_119 1 rfl ?_
                refine z_iast C d_M_newName_120 5 rfl (by omega) [(aM, .inr (8, [.ref aWc, .int (iI mth), .int (iI msz), .ref aTx, .int (iI mwr), .ref aOu, .int (iI mfa), .int (iI mpl), .int (iI mle), .int (iI mna), .ref aSo, .ref aNf, .ref aNg, .ref aSr, .ref aNu, .ref aMa, .ref aNo, .int (iI mfi), .int (iI mru), .int (iI mnv), .ref aLe, .ref aAc, .ref aDi, .ref aOr, .int (iI mki), .int (iI mfr), .int (iI mto), .int (iI mwh)])), iA G aSo 4200 sF, iA G aWc 48 wch, iA G aNf 40 (uZ nf mna.toNat mfr), iA G aNg 40 (uZ ng mna.toNat mto), iA G aSr 40 (uZ sr mna.toNat 2), iA G aNu 40 nu, iA G aMa 3 ma, iA G aNo 48 no] (rfl) ?_
                refine z_aload_n C d_M_newName_121 0 rfl ?_
                refine z_get C f_M_31 d_M_newName_122 0 rfl rfl ?_
                refine z_aload_n C d_M_newName_125 0 rfl ?_
                refine z_get C f_M_115 d_M_newName_126 0 rfl rfl ?_
                refine z_aload_n C d_M_newName_129 0 rfl ?_
                refine z_get C f_M_34 d_M_newName_130 0 rfl rfl ?_
                refine z_iload_n C d_M_newName_133 1 rfl ?_
                refine z_iald C d_M_newName_134 7 rfl (by omega) ?_
                refine z_topi (y := iI (ma 2)) (rfl) ?_
                refine z_iast C d_M_newName_135 6 rfl (by omega) [(aM, .inr (8, [.ref aWc, .int (iI mth), .int (iI msz), .ref aTx, .int (iI mwr), .ref aOu, .int (iI mfa), .int (iI mpl), .int (iI mle), .int (iI mna), .ref aSo, .ref aNf, .ref aNg, .ref aSr, .ref aNu, .ref aMa, .ref aNo, .int (iI mfi), .int (iI mru), .int (iI mnv), .ref aLe, .ref aAc, .ref aDi, .ref aOr, .int (iI mki), .int (iI mfr), .int (iI mto), .int (iI mwh)])), iA G aSo 4200 sF, iA G aWc 48 wch, iA G aNf 40 (uZ nf mna.toNat mfr), iA G aNg 40 (uZ ng mna.toNat mto), iA G aSr 40 (uZ sr mna.toNat 2), iA G aNu 40 (uZ nu mna.toNat (ma 2)), iA G aMa 3 ma, iA G aNo 48 no] (rfl) ?_
                refine z_aload_n C d_M_newName_136 0 rfl ?_
                refine z_get C f_M_37 d_M_newName_137 0 rfl rfl ?_
                refine z_bipush C d_M_newName_140 (by decide) ?_
                refine z_iload_n C d_M_newName_142 1 rfl ?_
                refine z_imul C d_M_newName_143 ?_
                refine z_aload_n C d_M_newName_144 0 rfl ?_
                refine z_get C f_M_34 d_M_newName_145 0 rfl rfl ?_
                refine z_iload_n C d_M_newName_148 1 rfl ?_
                refine z_iald C d_M_newName_149 7 rfl (by omega) ?_
                refine z_topi (y := iI (ma 2)) (rfl) ?_
                refine z_iadd C d_M_newName_150 ?_
                refine z_aload_n C d_M_newName_151 0 rfl ?_
                refine z_get C f_M_115 d_M_newName_152 0 rfl rfl ?_
                refine z_iast C d_M_newName_155 8 rfl (by omega) [(aM, .inr (8, [.ref aWc, .int (iI mth), .int (iI msz), .ref aTx, .int (iI mwr), .ref aOu, .int (iI mfa), .int (iI mpl), .int (iI mle), .int (iI mna), .ref aSo, .ref aNf, .ref aNg, .ref aSr, .ref aNu, .ref aMa, .ref aNo, .int (iI mfi), .int (iI mru), .int (iI mnv), .ref aLe, .ref aAc, .ref aDi, .ref aOr, .int (iI mki), .int (iI mfr), .int (iI mto), .int (iI mwh)])), iA G aSo 4200 sF, iA G aWc 48 wch, iA G aNf 40 (uZ nf mna.toNat mfr), iA G aNg 40 (uZ ng mna.toNat mto), iA G aSr 40 (uZ sr mna.toNat 2), iA G aNu 40 (uZ nu mna.toNat (ma 2)), iA G aMa 3 ma, iA G aNo 48 (uZ no (((16 * 2) + (ma 2)).toNat) mna)] (rfl) ?_
                refine z_aload_n C d_M_newName_156 0 rfl ?_
                refine z_dup C d_M_newName_157 rfl ?_
                refine z_get C f_M_115 d_M_newName_158 0 rfl rfl ?_
                refine z_iconst C d_M_newName_161 ?_
                refine z_iadd C d_M_newName_162 ?_
                refine z_put C f_M_115 ok_M nm_M d_M_newName_163 0 rfl rfl rfl rfl (Nat.le_of_ble_eq_true rfl) [(aM, .inr (8, [.ref aWc, .int (iI mth), .int (iI msz), .ref aTx, .int (iI mwr), .ref aOu, .int (iI mfa), .int (iI mpl), .int (iI mle), .int (iI (mna + 1)), .ref aSo, .ref aNf, .ref aNg, .ref aSr, .ref aNu, .ref aMa, .ref aNo, .int (iI mfi), .int (iI mru), .int (iI mnv), .ref aLe, .ref aAc, .ref aDi, .ref aOr, .int (iI mki), .int (iI mfr), .int (iI mto), .int (iI mwh)])), iA G aSo 4200 sF, iA G aWc 48 wch, iA G aNf 40 (uZ nf mna.toNat mfr), iA G aNg 40 (uZ ng mna.toNat mto), iA G aSr 40 (uZ sr mna.toNat 2), iA G aNu 40 (uZ nu mna.toNat (ma 2)), iA G aMa 3 ma, iA G aNo 48 (uZ no (((16 * 2) + (ma 2)).toNat) mna)] rfl ?_
                refine z_aload_n C d_M_newName_166 0 rfl ?_
                refine z_get C f_M_34 d_M_newName_167 0 rfl rfl ?_
                refine z_iload_n C d_M_newName_170 1 rfl ?_
                refine z_dup2 C d_M_newName_171 rfl rfl ?_
                refine z_iald C d_M_newName_172 7 rfl (by omega) ?_
                refine z_topi (y := iI (ma 2)) (rfl) ?_
                refine z_iconst C d_M_newName_173 ?_
                refine z_iadd C d_M_newName_174 ?_
                refine z_iast C d_M_newName_175 7 rfl (by omega) [(aM, .inr (8, [.ref aWc, .int (iI mth), .int (iI msz), .ref aTx, .int (iI mwr), .ref aOu, .int (iI mfa), .int (iI mpl), .int (iI mle), .int (iI (mna + 1)), .ref aSo, .ref aNf, .ref aNg, .ref aSr, .ref aNu, .ref aMa, .ref aNo, .int (iI mfi), .int (iI mru), .int (iI mnv), .ref aLe, .ref aAc, .ref aDi, .ref aOr, .int (iI mki), .int (iI mfr), .int (iI mto), .int (iI mwh)])), iA G aSo 4200 sF, iA G aWc 48 wch, iA G aNf 40 (uZ nf mna.toNat mfr), iA G aNg 40 (uZ ng mna.toNat mto), iA G aSr 40 (uZ sr mna.toNat 2), iA G aNu 40 (uZ nu mna.toNat (ma 2)), iA G aMa 3 (uZ ma 2 ((ma 2) + 1)), iA G aNo 48 (uZ no (((16 * 2) + (ma 2)).toNat) mna)] (rfl) ?_
                refine z_aload_n C d_M_newName_176 0 rfl ?_
                refine z_callv (As := []) (rest := []) (wr := [iA G aNf 40 (uZ nf mna.toNat mfr), iA G aNg 40 (uZ ng mna.toNat mto), iA G aSr 40 (uZ sr mna.toNat 2), iA G aNu 40 (uZ nu mna.toNat (ma 2)), iA G aMa 3 (uZ ma 2 ((ma 2) + 1)), iA G aNo 48 (uZ no (((16 * 2) + (ma 2)).toNat) mna)]) (ws' := fun u => [(aM, .inr (8, [.ref aWc, .int (iI mth), .int (iI msz), .ref aTx, .int (iI mwr), .ref aOu, .int (iI u.2.2.2.1), .int (iI u.2.2.2.2), .int (iI mle), .int (iI (mna + 1)), .ref aSo, .ref aNf, .ref aNg, .ref aSr, .ref aNu, .ref aMa, .ref aNo, .int (iI mfi), .int (iI mru), .int (iI mnv), .ref aLe, .ref aAc, .ref aDi, .ref aOr, .int (iI u.1), .int (iI (lxS (bF sF) mle mto)), .int (iI u.2.2.1), .int (iI u.2.1)])), iA G aSo 4200 sF, iA G aWc 48 wch, iA G aNf 40 (uZ nf mna.toNat mfr), iA G aNg 40 (uZ ng mna.toNat mto), iA G aSr 40 (uZ sr mna.toNat 2), iA G aNu 40 (uZ nu mna.toNat (ma 2)), iA G aMa 3 (uZ ma 2 ((ma 2) + 1)), iA G aNo 48 (uZ no (((16 * 2) + (ma 2)).toNat) mna)]) (q0 := 0) C k_M_112 kc_M_advance (fun l sz => m_M_advance l G sz aM aWc aTx aOu aSo aNf aNg aSr aNu aMa aNo aLe aAc aDi aOr mth msz mwr mfa mpl mle (mna + 1) mfi mru mnv mki mfr mto mwh sF (by omega) (hu) (h0) (by omega)) rfl rfl (Nat.le_of_ble_eq_true rfl) (by decide) d_M_newName_177 rfl rfl [0, 1, 2] [3, 4, 5, 6, 7, 8] [6, 7, 8, 0, 1, 2, 3, 4, 5] rfl rfl (by decide) (fun u => rfl) (fun u h177 => ?_)
                obtain ⟨ki2_177, wh2_177, to2_177, fa2_177, pl2_177⟩ := u
                obtain ⟨ha_177, hr_177⟩ := h177
                have ha_177 : (lxK (bF sF) mle mto = 1 → fa2_177 = 1 ∧ pl2_177 = lxS (bF sF) mle mto) ∧ (¬ lxK (bF sF) mle mto = 1 → fa2_177 = 0 ∧ pl2_177 = mpl ∧ to2_177 = lxA (bF sF) mle mto ∧ kdR (lxK (bF sF) mle mto) ki2_177 wh2_177) := ha_177
                have hr_177 : 0 ≤ ki2_177 ∧ ki2_177 ≤ 3 ∧ -1 ≤ wh2_177 ∧ wh2_177 ≤ 255 ∧ lxS (bF sF) mle mto ≤ to2_177 ∧ to2_177 ≤ mle := hr_177
                show Zc G X 2 0 0 [(aM, .inr (8, [.ref aWc, .int (iI mth), .int (iI msz), .ref aTx, .int (iI mwr), .ref aOu, .int (iI fa2_177), .int (iI pl2_177), .int (iI mle), .int (iI (mna + 1)), .ref aSo, .ref aNf, .ref aNg, .ref aSr, .ref aNu, .ref aMa, .ref aNo, .int (iI mfi), .int (iI mru), .int (iI mnv), .ref aLe, .ref aAc, .ref aDi, .ref aOr, .int (iI ki2_177), .int (iI (lxS (bF sF) mle mto)), .int (iI to2_177), .int (iI wh2_177)])), iA G aSo 4200 sF, iA G aWc 48 wch, iA G aNf 40 (uZ nf mna.toNat mfr), iA G aNg 40 (uZ ng mna.toNat mto), iA G aSr 40 (uZ sr mna.toNat 2), iA G aNu 40 (uZ nu mna.toNat (ma 2)), iA G aMa 3 (uZ ma 2 ((ma 2) + 1)), iA G aNo 48 (uZ no (((16 * 2) + (ma 2)).toNat) mna)] [(0, .ref aM), (1, .int (iI 2))] 180 []
                exact z_vret C K d_M_newName_180 (fa2_177, pl2_177, lxS (bF sF) mle mto, to2_177, ki2_177, wh2_177, mto, uZ nf mna.toNat mfr, uZ ng mna.toNat mto, uZ sr mna.toNat 2, uZ nu mna.toNat (ma 2), uZ ma 2 (ma 2 + 1), uZ no (16 * 2 + ma 2).toNat mna, mna + 1) (rfl) (show (Sim R sF mle fa2_177 pl2_177 (lxS (bF sF) mle mto) to2_177 ki2_177 wh2_177 mto c2) ∧ (0 ≤ ki2_177 ∧ ki2_177 ≤ 3 ∧ -1 ≤ wh2_177 ∧ wh2_177 ≤ 255 ∧ 0 ≤ to2_177 ∧ to2_177 ≤ mle) ∧ (fa2_177 = 0 → p < mto ∧ NamM sF (uZ nf mna.toNat mfr) (uZ ng mna.toNat mto) (uZ sr mna.toNat 2) (uZ nu mna.toNat (ma 2)) (uZ ma 2 (ma 2 + 1)) (uZ no (16 * 2 + ma 2).toNat mna) (mna + 1) (N ++ [(2, wA (bF sF) mle p)])) from ⟨Sim_adv hS h0 (by rw [hst h0, if_neg (by omega), if_neg hfu, if_neg (by rw [← hWP]; omega)]) (by omega) ha_177, by have h9 := hr_177; have h8 := lx_rg (bF sF) (n := mle) (p := mto) (by omega); omega, fun _ => ⟨by omega, by rw [← hWP]; exact hNN⟩⟩)
              · exact absurd c81 (by omega)
            ·
              refine z_aload_n C d_M_newName_68 0 rfl ?_
              refine z_iconst C d_M_newName_69 ?_
              refine z_aload_n C d_M_newName_70 0 rfl ?_
              refine z_get C f_M_86 d_M_newName_71 0 rfl rfl ?_
              refine z_callv (As := [.int (iI 4), .int (iI mfr)]) (rest := []) (wr := [iA G aSo 4200 sF, iA G aWc 48 wch, iA G aNf 40 nf, iA G aNg 40 ng, iA G aSr 40 sr, iA G aNu 40 nu, iA G aMa 3 ma, iA G aNo 48 no]) (ws' := fun u => [(aM, .inr (8, [.ref aWc, .int (iI mth), .int (iI msz), .ref aTx, .int (iI mwr), .ref aOu, .int (iI 4), .int (iI mfr), .int (iI mle), .int (iI mna), .ref aSo, .ref aNf, .ref aNg, .ref aSr, .ref aNu, .ref aMa, .ref aNo, .int (iI mfi), .int (iI mru), .int (iI mnv), .ref aLe, .ref aAc, .ref aDi, .ref aOr, .int (iI mki), .int (iI mfr), .int (iI mto), .int (iI mwh)])), iA G aSo 4200 sF, iA G aWc 48 wch, iA G aNf 40 nf, iA G aNg 40 ng, iA G aSr 40 sr, iA G aNu 40 nu, iA G aMa 3 ma, iA G aNo 48 no]) (q0 := 0) C k_M_105 kc_M_tell (fun l sz => m_M_tell l G sz aM aWc aTx aOu aSo aNf aNg aSr aNu aMa aNo aLe aAc aDi aOr mth msz mwr mfa mpl mle mna mfi mru mnv mki mfr mto mwh 4 mfr (h0)) rfl rfl (Nat.le_of_ble_eq_true rfl) (by decide) d_M_newName_74 rfl rfl [0] [1, 2, 3, 4, 5, 6, 7, 8] [8, 0, 1, 2, 3, 4, 5, 6, 7] rfl rfl (by decide) (fun u => rfl) (fun u h74 => ?_)
              show Zc G X 2 0 0 [(aM, .inr (8, [.ref aWc, .int (iI mth), .int (iI msz), .ref aTx, .int (iI mwr), .ref aOu, .int (iI 4), .int (iI mfr), .int (iI mle), .int (iI mna), .ref aSo, .ref aNf, .ref aNg, .ref aSr, .ref aNu, .ref aMa, .ref aNo, .int (iI mfi), .int (iI mru), .int (iI mnv), .ref aLe, .ref aAc, .ref aDi, .ref aOr, .int (iI mki), .int (iI mfr), .int (iI mto), .int (iI mwh)])), iA G aSo 4200 sF, iA G aWc 48 wch, iA G aNf 40 nf, iA G aNg 40 ng, iA G aSr 40 sr, iA G aNu 40 nu, iA G aMa 3 ma, iA G aNo 48 no] [(0, .ref aM), (1, .int (iI 2))] 77 []
              refine z_aload_n C d_M_newName_77 0 rfl ?_
              refine z_get C f_M_70 d_M_newName_78 0 rfl rfl ?_
              refine z_if_le (tgt := 85) C d_M_newName_81 (by decide) (by omega) (fun c81 => ?_) (fun c81 => ?_)
              · exact absurd c81 (by omega)
              ·
                exact z_vret C K d_M_newName_84 (4, mfr, mfr, mto, mki, mwh, p, nf, ng, sr, nu, ma, no, mna) (rfl) (show (Sim R sF mle 4 mfr mfr mto mki mwh p c2) ∧ (0 ≤ mki ∧ mki ≤ 3 ∧ -1 ≤ mwh ∧ mwh ≤ 255 ∧ 0 ≤ mto ∧ mto ≤ mle) ∧ (4 = 0 → p < p ∧ NamM sF nf ng sr nu ma no mna (N ++ [(2, wA (bF sF) mle p)])) from ⟨Sim_tell hS h0 (by rw [hst h0, if_neg (by omega), if_neg hfu, if_pos (by rw [← hWP]; omega)]) (by omega) _ _ _ _ _, hq, fun z => by omega⟩)
          ·
            have hfu : fuN N 2 = 1 := by rw [← NamM_ful hM 2]; unfold ful; rw [if_pos (by omega)]
            refine z_aload_n C d_M_newName_49 0 rfl ?_
            refine z_iconst C d_M_newName_50 ?_
            refine z_aload_n C d_M_newName_51 0 rfl ?_
            refine z_get C f_M_86 d_M_newName_52 0 rfl rfl ?_
            refine z_callv (As := [.int (iI 3), .int (iI mfr)]) (rest := []) (wr := [iA G aSo 4200 sF, iA G aWc 48 wch, iA G aNf 40 nf, iA G aNg 40 ng, iA G aSr 40 sr, iA G aNu 40 nu, iA G aMa 3 ma, iA G aNo 48 no]) (ws' := fun u => [(aM, .inr (8, [.ref aWc, .int (iI mth), .int (iI msz), .ref aTx, .int (iI mwr), .ref aOu, .int (iI 3), .int (iI mfr), .int (iI mle), .int (iI mna), .ref aSo, .ref aNf, .ref aNg, .ref aSr, .ref aNu, .ref aMa, .ref aNo, .int (iI mfi), .int (iI mru), .int (iI mnv), .ref aLe, .ref aAc, .ref aDi, .ref aOr, .int (iI mki), .int (iI mfr), .int (iI mto), .int (iI mwh)])), iA G aSo 4200 sF, iA G aWc 48 wch, iA G aNf 40 nf, iA G aNg 40 ng, iA G aSr 40 sr, iA G aNu 40 nu, iA G aMa 3 ma, iA G aNo 48 no]) (q0 := 0) C k_M_105 kc_M_tell (fun l sz => m_M_tell l G sz aM aWc aTx aOu aSo aNf aNg aSr aNu aMa aNo aLe aAc aDi aOr mth msz mwr mfa mpl mle mna mfi mru mnv mki mfr mto mwh 3 mfr (h0)) rfl rfl (Nat.le_of_ble_eq_true rfl) (by decide) d_M_newName_55 rfl rfl [0] [1, 2, 3, 4, 5, 6, 7, 8] [8, 0, 1, 2, 3, 4, 5, 6, 7] rfl rfl (by decide) (fun u => rfl) (fun u h55 => ?_)
            show Zc G X 2 0 0 [(aM, .inr (8, [.ref aWc, .int (iI mth), .int (iI msz), .ref aTx, .int (iI mwr), .ref aOu, .int (iI 3), .int (iI mfr), .int (iI mle), .int (iI mna), .ref aSo, .ref aNf, .ref aNg, .ref aSr, .ref aNu, .ref aMa, .ref aNo, .int (iI mfi), .int (iI mru), .int (iI mnv), .ref aLe, .ref aAc, .ref aDi, .ref aOr, .int (iI mki), .int (iI mfr), .int (iI mto), .int (iI mwh)])), iA G aSo 4200 sF, iA G aWc 48 wch, iA G aNf 40 nf, iA G aNg 40 ng, iA G aSr 40 sr, iA G aNu 40 nu, iA G aMa 3 ma, iA G aNo 48 no] [(0, .ref aM), (1, .int (iI 2))] 58 []
            refine z_goto (tgt := 77) C d_M_newName_58 (by decide) ?_
            refine z_aload_n C d_M_newName_77 0 rfl ?_
            refine z_get C f_M_70 d_M_newName_78 0 rfl rfl ?_
            refine z_if_le (tgt := 85) C d_M_newName_81 (by decide) (by omega) (fun c81 => ?_) (fun c81 => ?_)
            · exact absurd c81 (by omega)
            ·
              exact z_vret C K d_M_newName_84 (3, mfr, mfr, mto, mki, mwh, p, nf, ng, sr, nu, ma, no, mna) (rfl) (show (Sim R sF mle 3 mfr mfr mto mki mwh p c2) ∧ (0 ≤ mki ∧ mki ≤ 3 ∧ -1 ≤ mwh ∧ mwh ≤ 255 ∧ 0 ≤ mto ∧ mto ≤ mle) ∧ (3 = 0 → p < p ∧ NamM sF nf ng sr nu ma no mna (N ++ [(2, wA (bF sF) mle p)])) from ⟨Sim_tell hS h0 (by rw [hst h0, if_neg (by omega), if_pos hfu]) (by omega) _ _ _ _ _, hq, fun z => by omega⟩)
        · exact absurd c36 (by omega)
      ·
        refine z_aload_n C d_M_newName_16 0 rfl ?_
        refine z_iconst C d_M_newName_17 ?_
        refine z_aload_n C d_M_newName_18 0 rfl ?_
        refine z_get C f_M_86 d_M_newName_19 0 rfl rfl ?_
        refine z_callv (As := [.int (iI 2), .int (iI mfr)]) (rest := []) (wr := [iA G aSo 4200 sF, iA G aWc 48 wch, iA G aNf 40 nf, iA G aNg 40 ng, iA G aSr 40 sr, iA G aNu 40 nu, iA G aMa 3 ma, iA G aNo 48 no]) (ws' := fun u => [(aM, .inr (8, [.ref aWc, .int (iI mth), .int (iI msz), .ref aTx, .int (iI mwr), .ref aOu, .int (iI 2), .int (iI mfr), .int (iI mle), .int (iI mna), .ref aSo, .ref aNf, .ref aNg, .ref aSr, .ref aNu, .ref aMa, .ref aNo, .int (iI mfi), .int (iI mru), .int (iI mnv), .ref aLe, .ref aAc, .ref aDi, .ref aOr, .int (iI mki), .int (iI mfr), .int (iI mto), .int (iI mwh)])), iA G aSo 4200 sF, iA G aWc 48 wch, iA G aNf 40 nf, iA G aNg 40 ng, iA G aSr 40 sr, iA G aNu 40 nu, iA G aMa 3 ma, iA G aNo 48 no]) (q0 := 0) C k_M_105 kc_M_tell (fun l sz => m_M_tell l G sz aM aWc aTx aOu aSo aNf aNg aSr aNu aMa aNo aLe aAc aDi aOr mth msz mwr mfa mpl mle mna mfi mru mnv mki mfr mto mwh 2 mfr (h0)) rfl rfl (Nat.le_of_ble_eq_true rfl) (by decide) d_M_newName_22 rfl rfl [0] [1, 2, 3, 4, 5, 6, 7, 8] [8, 0, 1, 2, 3, 4, 5, 6, 7] rfl rfl (by decide) (fun u => rfl) (fun u h22 => ?_)
        show Zc G X 2 0 0 [(aM, .inr (8, [.ref aWc, .int (iI mth), .int (iI msz), .ref aTx, .int (iI mwr), .ref aOu, .int (iI 2), .int (iI mfr), .int (iI mle), .int (iI mna), .ref aSo, .ref aNf, .ref aNg, .ref aSr, .ref aNu, .ref aMa, .ref aNo, .int (iI mfi), .int (iI mru), .int (iI mnv), .ref aLe, .ref aAc, .ref aDi, .ref aOr, .int (iI mki), .int (iI mfr), .int (iI mto), .int (iI mwh)])), iA G aSo 4200 sF, iA G aWc 48 wch, iA G aNf 40 nf, iA G aNg 40 ng, iA G aSr 40 sr, iA G aNu 40 nu, iA G aMa 3 ma, iA G aNo 48 no] [(0, .ref aM), (1, .int (iI 2))] 25 []
        refine z_goto (tgt := 77) C d_M_newName_25 (by decide) ?_
        refine z_aload_n C d_M_newName_77 0 rfl ?_
        refine z_get C f_M_70 d_M_newName_78 0 rfl rfl ?_
        refine z_if_le (tgt := 85) C d_M_newName_81 (by decide) (by omega) (fun c81 => ?_) (fun c81 => ?_)
        · exact absurd c81 (by omega)
        ·
          exact z_vret C K d_M_newName_84 (2, mfr, mfr, mto, mki, mwh, p, nf, ng, sr, nu, ma, no, mna) (rfl) (show (Sim R sF mle 2 mfr mfr mto mki mwh p c2) ∧ (0 ≤ mki ∧ mki ≤ 3 ∧ -1 ≤ mwh ∧ mwh ≤ 255 ∧ 0 ≤ mto ∧ mto ≤ mle) ∧ (2 = 0 → p < p ∧ NamM sF nf ng sr nu ma no mna (N ++ [(2, wA (bF sF) mle p)])) from ⟨Sim_tell hS h0 (by rw [hst h0, if_pos (by omega)]) (by omega) _ _ _ _ _, hq, fun z => by omega⟩)
    ·
      exact z_vret C K d_M_newName_7 (mfa, mpl, mfr, mto, mki, mwh, p, nf, ng, sr, nu, ma, no, mna) (rfl) (show (Sim R sF mle mfa mpl mfr mto mki mwh p c2) ∧ (0 ≤ mki ∧ mki ≤ 3 ∧ -1 ≤ mwh ∧ mwh ≤ 255 ∧ 0 ≤ mto ∧ mto ≤ mle) ∧ (mfa = 0 → p < p ∧ NamM sF nf ng sr nu ma no mna (N ++ [(2, wA (bF sF) mle p)])) from ⟨Sim_x hS (by omega) _ _ _ _ _ _, hq, fun z => by omega⟩)
