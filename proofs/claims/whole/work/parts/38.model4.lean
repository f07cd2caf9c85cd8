set_option maxHeartbeats 4000000 in
set_option maxRecDepth 100000 in
theorem m_M_isAt (l : Launch) (G : GG) (sz : Nat) (aM : Nat) (aWc : Nat) (aTx : Nat) (aOu : Nat) (aSo : Nat) (aNf : Nat) (aNg : Nat) (aSr : Nat) (aNu : Nat) (aMa : Nat) (aNo : Nat) (aLe : Nat) (aAc : Nat) (aDi : Nat) (aOr : Nat) (mth : Int) (msz : Int) (mwr : Int) (mfa : Int) (mpl : Int) (mle : Int) (mna : Int) (mfi : Int) (mru : Int) (mnv : Int) (mki : Int) (mfr : Int) (mto : Int) (mwh : Int) (sF : Nat → Int) (nf : Nat → Int) (ng : Nat → Int) (q : Int) (h1 : 0 ≤ q ∧ q < 40 ∧ 0 ≤ mfr ∧ mfr ≤ mto ∧ mto ≤ 4096 ∧ 0 ≤ nf q.toNat ∧ nf q.toNat ≤ ng q.toNat ∧ ng q.toNat ≤ 4096) (hu : u8 sF) : MetI l G sz y_M_isAt c_M_isAt 4 (some .boolean) ({ frames := 0, cells := 0, slots := 0, locals := 0 } : Room) [.ref aM, .int (iI q)] [(aM, .inr (8, [.ref aWc, .int (iI mth), .int (iI msz), .ref aTx, .int (iI mwr), .ref aOu, .int (iI mfa), .int (iI mpl), .int (iI mle), .int (iI mna), .ref aSo, .ref aNf, .ref aNg, .ref aSr, .ref aNu, .ref aMa, .ref aNo, .int (iI mfi), .int (iI mru), .int (iI mnv), .ref aLe, .ref aAc, .ref aDi, .ref aOr, .int (iI mki), .int (iI mfr), .int (iI mto), .int (iI mwh)])), iA G aSo 4200 sF, iA G aNf 40 nf, iA G aNg 40 ng] (fun (r : Int32) (u : Int) => r = iI u ∧ ((u = 1 ∧ seg (bF sF) (nf q.toNat).toNat (ng q.toNat - nf q.toNat).toNat = seg (bF sF) mfr.toNat (mto - mfr).toNat) ∨ (u = 0 ∧ ¬ seg (bF sF) (nf q.toNat).toNat (ng q.toNat - nf q.toNat).toNat = seg (bF sF) mfr.toNat (mto - mfr).toNat))) (fun (u : Int) => [(aM, .inr (8, [.ref aWc, .int (iI mth), .int (iI msz), .ref aTx, .int (iI mwr), .ref aOu, .int (iI mfa), .int (iI mpl), .int (iI mle), .int (iI mna), .ref aSo, .ref aNf, .ref aNg, .ref aSr, .ref aNu, .ref aMa, .ref aNo, .int (iI mfi), .int (iI mru), .int (iI mnv), .ref aLe, .ref aAc, .ref aDi, .ref aOr, .int (iI mki), .int (iI mfr), .int (iI mto), .int (iI mwh)])), iA G aSo 4200 sF, iA G aNf 40 nf, iA G aNg 40 ng]) := by
  refine MetI.mk (by decide) (Nat.le_of_ble_eq_true rfl) (fun X C K => ?_)
  show Zc G X 4 0 0 [(aM, .inr (8, [.ref aWc, .int (iI mth), .int (iI msz), .ref aTx, .int (iI mwr), .ref aOu, .int (iI mfa), .int (iI mpl), .int (iI mle), .int (iI mna), .ref aSo, .ref aNf, .ref aNg, .ref aSr, .ref aNu, .ref aMa, .ref aNo, .int (iI mfi), .int (iI mru), .int (iI mnv), .ref aLe, .ref aAc, .ref aDi, .ref aOr, .int (iI mki), .int (iI mfr), .int (iI mto), .int (iI mwh)])), iA G aSo 4200 sF, iA G aNf 40 nf, iA G aNg 40 ng] [(0, .ref aM), (1, .int (iI q))] 0 []
  have hsg := sgB hu (a := nf q.toNat) (b := mfr) (m := ng q.toNat - nf q.toNat) (n := mto - mfr) (by omega)
  refine z_aload_n C d_M_isAt_0 0 rfl ?_
  refine z_get C f_M_25 d_M_isAt_1 0 rfl rfl ?_
  refine z_iload_n C d_M_isAt_4 1 rfl ?_
  refine z_iald C d_M_isAt_5 3 rfl (by omega) ?_
  refine z_aload_n C d_M_isAt_6 0 rfl ?_
  refine z_get C f_M_22 d_M_isAt_7 0 rfl rfl ?_
  refine z_iload_n C d_M_isAt_10 1 rfl ?_
  refine z_iald C d_M_isAt_11 2 rfl (by omega) ?_
  refine z_isub C d_M_isAt_12 ?_
  refine z_aload_n C d_M_isAt_13 0 rfl ?_
  refine z_get C f_M_76 d_M_isAt_14 0 rfl rfl ?_
  refine z_aload_n C d_M_isAt_17 0 rfl ?_
  refine z_get C f_M_86 d_M_isAt_18 0 rfl rfl ?_
  refine z_isub C d_M_isAt_21 ?_
  refine z_icmp_ne (tgt := 29) C d_M_isAt_22 (by decide) (by omega) (by omega) (fun c22 => ?_) (fun c22 => ?_)
  ·
    refine z_iconst C d_M_isAt_29 ?_
    refine z_istore_n (lv' := [(2, .int (iI 0)), (0, .ref aM), (1, .int (iI q))]) C d_M_isAt_30 (by decide) rfl ?_
    refine z_iconst C d_M_isAt_31 ?_
    refine z_istore_n (lv' := [(3, .int (iI 0)), (2, .int (iI 0)), (0, .ref aM), (1, .int (iI q))]) C d_M_isAt_32 (by decide) rfl ?_
    have loop33 : ∀ (kq : Nat) (f : Int) (k : Int), (0 ≤ k ∧ k ≤ mto - mfr ∧ (f = 0 ∨ f = 1)) → ((f = 1 → ng q.toNat - nf q.toNat = mto - mfr ∧ ∀ j : Nat, (j : Int) < k → sF (nf q.toNat + j).toNat = sF (mfr + j).toNat) ∧ (f = 0 → ¬ seg (bF sF) (nf q.toNat).toNat (ng q.toNat - nf q.toNat).toNat = seg (bF sF) mfr.toNat (mto - mfr).toNat)) → ((mto - mfr - k).toNat < kq) → Zc G X 4 0 0 [(aM, .inr (8, [.ref aWc, .int (iI mth), .int (iI msz), .ref aTx, .int (iI mwr), .ref aOu, .int (iI mfa), .int (iI mpl), .int (iI mle), .int (iI mna), .ref aSo, .ref aNf, .ref aNg, .ref aSr, .ref aNu, .ref aMa, .ref aNo, .int (iI mfi), .int (iI mru), .int (iI mnv), .ref aLe, .ref aAc, .ref aDi, .ref aOr, .int (iI mki), .int (iI mfr), .int (iI mto), .int (iI mwh)])), iA G aSo 4200 sF, iA G aNf 40 nf, iA G aNg 40 ng] [(0, .ref aM), (1, .int (iI q)), (2, .int (iI f)), (3, .int (iI k))] 33 [] := by
      intro kq
      induction kq with
      | zero => intro f k hk hE hm; exact absurd hm (Nat.not_lt_zero _)
      | succ kq ih33 =>
        intro f k hk hE hm
        have hu1 := hu (nf q.toNat + k).toNat
        have hu2 := hu (mfr + k).toNat
        -- loop body
        refine z_iload_n C d_M_isAt_33 3 rfl ?_
        refine z_aload_n C d_M_isAt_34 0 rfl ?_
        refine z_get C f_M_76 d_M_isAt_35 0 rfl rfl ?_
        refine z_aload_n C d_M_isAt_38 0 rfl ?_
        refine z_get C f_M_86 d_M_isAt_39 0 rfl rfl ?_
        refine z_isub C d_M_isAt_42 ?_
        refine z_icmp_ge (tgt := 89) C d_M_isAt_43 (by decide) (by omega) (by omega) (fun c43 => ?_) (fun c43 => ?_)
        ·
          refine z_iload_n C d_M_isAt_89 2 rfl ?_
          have hres : (f = 1 ∧ seg (bF sF) (nf q.toNat).toNat (ng q.toNat - nf q.toNat).toNat = seg (bF sF) mfr.toNat (mto - mfr).toNat) ∨ (f = 0 ∧ ¬ seg (bF sF) (nf q.toNat).toNat (ng q.toNat - nf q.toNat).toNat = seg (bF sF) mfr.toNat (mto - mfr).toNat) := hk.2.2.elim (fun e => Or.inr ⟨e, hE.2 e⟩) (fun e => Or.inl ⟨e, hsg.mpr ⟨(hE.1 e).1, fun j hj => (hE.1 e).2 j (by have := (hE.1 e).1; omega)⟩⟩)
          exact z_iret C K d_M_isAt_90 (by rcases hk.2.2 with e | e <;> rw [e] <;> decide) f (rfl) (show iI f = iI f ∧ ((f = 1 ∧ seg (bF sF) (nf q.toNat).toNat (ng q.toNat - nf q.toNat).toNat = seg (bF sF) mfr.toNat (mto - mfr).toNat) ∨ (f = 0 ∧ ¬ seg (bF sF) (nf q.toNat).toNat (ng q.toNat - nf q.toNat).toNat = seg (bF sF) mfr.toNat (mto - mfr).toNat)) from ⟨rfl, hres⟩)
        ·
          refine z_iload_n C d_M_isAt_46 2 rfl ?_
          refine z_if_eq (tgt := 89) C d_M_isAt_47 (by decide) (by omega) (fun c47 => ?_) (fun c47 => ?_)
          ·
            refine z_iload_n C d_M_isAt_89 2 rfl ?_
            have hres : (f = 1 ∧ seg (bF sF) (nf q.toNat).toNat (ng q.toNat - nf q.toNat).toNat = seg (bF sF) mfr.toNat (mto - mfr).toNat) ∨ (f = 0 ∧ ¬ seg (bF sF) (nf q.toNat).toNat (ng q.toNat - nf q.toNat).toNat = seg (bF sF) mfr.toNat (mto - mfr).toNat) := hk.2.2.elim (fun e => Or.inr ⟨e, hE.2 e⟩) (fun e => Or.inl ⟨e, hsg.mpr ⟨(hE.1 e).1, fun j hj => (hE.1 e).2 j (by have := (hE.1 e).1; omega)⟩⟩)
            exact z_iret C K d_M_isAt_90 (by rcases hk.2.2 with e | e <;> rw [e] <;> decide) f (rfl) (show iI f = iI f ∧ ((f = 1 ∧ seg (bF sF) (nf q.toNat).toNat (ng q.toNat - nf q.toNat).toNat = seg (bF sF) mfr.toNat (mto - mfr).toNat) ∨ (f = 0 ∧ ¬ seg (bF sF) (nf q.toNat).toNat (ng q.toNat - nf q.toNat).toNat = seg (bF sF) mfr.toNat (mto - mfr).toNat)) from ⟨rfl, hres⟩)
          ·
            have hfl := (hE.1 (by omega)).1
            refine z_aload_n C d_M_isAt_50 0 rfl ?_
            refine z_get C f_M_19 d_M_isAt_51 0 rfl rfl ?_
            refine z_aload_n C d_M_isAt_54 0 rfl ?_
            refine z_get C f_M_22 d_M_isAt_55 0 rfl rfl ?_
            refine z_iload_n C d_M_isAt_58 1 rfl ?_
            refine z_iald C d_M_isAt_59 2 rfl (by omega) ?_
            refine z_iload_n C d_M_isAt_60 3 rfl ?_
            refine z_iadd C d_M_isAt_61 ?_
            refine z_iald C d_M_isAt_62 1 rfl (by omega) ?_
            refine z_aload_n C d_M_isAt_63 0 rfl ?_
            refine z_get C f_M_19 d_M_isAt_64 0 rfl rfl ?_
            refine z_aload_n C d_M_isAt_67 0 rfl ?_
            refine z_get C f_M_86 d_M_isAt_68 0 rfl rfl ?_
            refine z_iload_n C d_M_isAt_71 3 rfl ?_
            refine z_iadd C d_M_isAt_72 ?_
            refine z_iald C d_M_isAt_73 1 rfl (by omega) ?_
            refine z_icmp_ne (tgt := 81) C d_M_isAt_74 (by decide) (by omega) (by omega) (fun c74 => ?_) (fun c74 => ?_)
            ·
              refine z_iconst C d_M_isAt_81 ?_
              refine z_istore_n (lv' := [(2, .int (iI 0)), (0, .ref aM), (1, .int (iI q)), (3, .int (iI k))]) C d_M_isAt_82 (by decide) rfl ?_
              refine z_iinc (lv' := [(3, .int (iI (k + 1))), (2, .int (iI 0)), (0, .ref aM), (1, .int (iI q))]) C d_M_isAt_83 3 rfl (by decide) rfl ?_
              refine z_goto (tgt := 33) C d_M_isAt_86 (by decide) ?_
              refine z_lv [2, 3, 1, 0] (lv' := [(0, .ref aM), (1, .int (iI q)), (2, .int (iI 0)), (3, .int (iI (k + 1)))]) rfl ?_
              exact ih33 _ _ (by omega) (⟨fun z => absurd z (by decide), fun _ z => c74 (by have := (hsg.mp z).2 k.toNat (by omega); rw [show ((k.toNat : Nat) : Int) = k by omega] at this; exact this)⟩) (by omega)
            ·
              refine z_iconst C d_M_isAt_77 ?_
              refine z_goto (tgt := 82) C d_M_isAt_78 (by decide) ?_
              refine z_istore_n (lv' := [(2, .int (iI 1)), (0, .ref aM), (1, .int (iI q)), (3, .int (iI k))]) C d_M_isAt_82 (by decide) rfl ?_
              refine z_iinc (lv' := [(3, .int (iI (k + 1))), (2, .int (iI 1)), (0, .ref aM), (1, .int (iI q))]) C d_M_isAt_83 3 rfl (by decide) rfl ?_
              refine z_goto (tgt := 33) C d_M_isAt_86 (by decide) ?_
              refine z_lv [2, 3, 1, 0] (lv' := [(0, .ref aM), (1, .int (iI q)), (2, .int (iI 1)), (3, .int (iI (k + 1)))]) rfl ?_
              exact ih33 _ _ (by omega) (⟨fun _ => ⟨(hE.1 (by omega)).1, fun j hj => if e : (j : Int) = k then by rw [e]; exact Decidable.of_not_not c74 else (hE.1 (by omega)).2 j (by omega)⟩, fun z => absurd z (by decide)⟩) (by omega)
    refine z_lv [2, 3, 1, 0] (lv' := [(0, .ref aM), (1, .int (iI q)), (2, .int (iI 0)), (3, .int (iI 0))]) rfl ?_
    exact loop33 (_ + 1) _ _ (by omega) (⟨fun z => absurd z (by decide), fun _ z => c22 (hsg.mp z).1⟩) (Nat.lt_succ_self _)
  ·
    refine z_iconst C d_M_isAt_25 ?_
    refine z_goto (tgt := 30) C d_M_isAt_26 (by decide) ?_
    refine z_istore_n (lv' := [(2, .int (iI 1)), (0, .ref aM), (1, .int (iI q))]) C d_M_isAt_30 (by decide) rfl ?_
    refine z_iconst C d_M_isAt_31 ?_
    refine z_istore_n (lv' := [(3, .int (iI 0)), (2, .int (iI 1)), (0, .ref aM), (1, .int (iI q))]) C d_M_isAt_32 (by decide) rfl ?_
    have loop33 : ∀ (kq : Nat) (f : Int) (k : Int), (0 ≤ k ∧ k ≤ mto - mfr ∧ (f = 0 ∨ f = 1)) → ((f = 1 → ng q.toNat - nf q.toNat = mto - mfr ∧ ∀ j : Nat, (j : Int) < k → sF (nf q.toNat + j).toNat = sF (mfr + j).toNat) ∧ (f = 0 → ¬ seg (bF sF) (nf q.toNat).toNat (ng q.toNat - nf q.toNat).toNat = seg (bF sF) mfr.toNat (mto - mfr).toNat)) → ((mto - mfr - k).toNat < kq) → Zc G X 4 0 0 [(aM, .inr (8, [.ref aWc, .int (iI mth), .int (iI msz), .ref aTx, .int (iI mwr), .ref aOu, .int (iI mfa), .int (iI mpl), .int (iI mle), .int (iI mna), .ref aSo, .ref aNf, .ref aNg, .ref aSr, .ref aNu, .ref aMa, .ref aNo, .int (iI mfi), .int (iI mru), .int (iI mnv), .ref aLe, .ref aAc, .ref aDi, .ref aOr, .int (iI mki), .int (iI mfr), .int (iI mto), .int (iI mwh)])), iA G aSo 4200 sF, iA G aNf 40 nf, iA G aNg 40 ng] [(0, .ref aM), (1, .int (iI q)), (2, .int (iI f)), (3, .int (iI k))] 33 [] := by
      intro kq
      induction kq with
      | zero => intro f k hk hE hm; exact absurd hm (Nat.not_lt_zero _)
      | succ kq ih33 =>
        intro f k hk hE hm
        have hu1 := hu (nf q.toNat + k).toNat
        have hu2 := hu (mfr + k).toNat
        -- loop body
        refine z_iload_n C d_M_isAt_33 3 rfl ?_
        refine z_aload_n C d_M_isAt_34 0 rfl ?_
        refine z_get C f_M_76 d_M_isAt_35 0 rfl rfl ?_
        refine z_aload_n C d_M_isAt_38 0 rfl ?_
        refine z_get C f_M_86 d_M_isAt_39 0 rfl rfl ?_
        refine z_isub C d_M_isAt_42 ?_
        refine z_icmp_ge (tgt := 89) C d_M_isAt_43 (by decide) (by omega) (by omega) (fun c43 => ?_) (fun c43 => ?_)
        ·
          refine z_iload_n C d_M_isAt_89 2 rfl ?_
          have hres : (f = 1 ∧ seg (bF sF) (nf q.toNat).toNat (ng q.toNat - nf q.toNat).toNat = seg (bF sF) mfr.toNat (mto - mfr).toNat) ∨ (f = 0 ∧ ¬ seg (bF sF) (nf q.toNat).toNat (ng q.toNat - nf q.toNat).toNat = seg (bF sF) mfr.toNat (mto - mfr).toNat) := hk.2.2.elim (fun e => Or.inr ⟨e, hE.2 e⟩) (fun e => Or.inl ⟨e, hsg.mpr ⟨(hE.1 e).1, fun j hj => (hE.1 e).2 j (by have := (hE.1 e).1; omega)⟩⟩)
          exact z_iret C K d_M_isAt_90 (by rcases hk.2.2 with e | e <;> rw [e] <;> decide) f (rfl) (show iI f = iI f ∧ ((f = 1 ∧ seg (bF sF) (nf q.toNat).toNat (ng q.toNat - nf q.toNat).toNat = seg (bF sF) mfr.toNat (mto - mfr).toNat) ∨ (f = 0 ∧ ¬ seg (bF sF) (nf q.toNat).toNat (ng q.toNat - nf q.toNat).toNat = seg (bF sF) mfr.toNat (mto - mfr).toNat)) from ⟨rfl, hres⟩)
        ·
          refine z_iload_n C d_M_isAt_46 2 rfl ?_
          refine z_if_eq (tgt := 89) C d_M_isAt_47 (by decide) (by omega) (fun c47 => ?_) (fun c47 => ?_)
          ·
            refine z_iload_n C d_M_isAt_89 2 rfl ?_
            have hres : (f = 1 ∧ seg (bF sF) (nf q.toNat).toNat (ng q.toNat - nf q.toNat).toNat = seg (bF sF) mfr.toNat (mto - mfr).toNat) ∨ (f = 0 ∧ ¬ seg (bF sF) (nf q.toNat).toNat (ng q.toNat - nf q.toNat).toNat = seg (bF sF) mfr.toNat (mto - mfr).toNat) := hk.2.2.elim (fun e => Or.inr ⟨e, hE.2 e⟩) (fun e => Or.inl ⟨e, hsg.mpr ⟨(hE.1 e).1, fun j hj => (hE.1 e).2 j (by have := (hE.1 e).1; omega)⟩⟩)
            exact z_iret C K d_M_isAt_90 (by rcases hk.2.2 with e | e <;> rw [e] <;> decide) f (rfl) (show iI f = iI f ∧ ((f = 1 ∧ seg (bF sF) (nf q.toNat).toNat (ng q.toNat - nf q.toNat).toNat = seg (bF sF) mfr.toNat (mto - mfr).toNat) ∨ (f = 0 ∧ ¬ seg (bF sF) (nf q.toNat).toNat (ng q.toNat - nf q.toNat).toNat = seg (bF sF) mfr.toNat (mto - mfr).toNat)) from ⟨rfl, hres⟩)
          ·
            have hfl := (hE.1 (by omega)).1
            refine z_aload_n C d_M_isAt_50 0 rfl ?_
            refine z_get C f_M_19 d_M_isAt_51 0 rfl rfl ?_
            refine z_aload_n C d_M_isAt_54 0 rfl ?_
            refine z_get C f_M_22 d_M_isAt_55 0 rfl rfl ?_
            refine z_iload_n C d_M_isAt_58 1 rfl ?_
            refine z_iald C d_M_isAt_59 2 rfl (by omega) ?_
            refine z_iload_n C d_M_isAt_60 3 rfl ?_
            refine z_iadd C d_M_isAt_61 ?_
            refine z_iald C d_M_isAt_62 1 rfl (by omega) ?_
            refine z_aload_n C d_M_isAt_63 0 rfl ?_
            refine z_get C f_M_19 d_M_isAt_64 0 rfl rfl ?_
            refine z_aload_n C d_M_isAt_67 0 rfl ?_
            refine z_get C f_M_86 d_M_isAt_68 0 rfl rfl ?_
            refine z_iload_n C d_M_isAt_71 3 rfl ?_
            refine z_iadd C d_M_isAt_72 ?_
            refine z_iald C d_M_isAt_73 1 rfl (by omega) ?_
            refine z_icmp_ne (tgt := 81) C d_M_isAt_74 (by decide) (by omega) (by omega) (fun c74 => ?_) (fun c74 => ?_)
            ·
              refine z_iconst C d_M_isAt_81 ?_
              refine z_istore_n (lv' := [(2, .int (iI 0)), (0, .ref aM), (1, .int (iI q)), (3, .int (iI k))]) C d_M_isAt_82 (by decide) rfl ?_
              refine z_iinc (lv' := [(3, .int (iI (k + 1))), (2, .int (iI 0)), (0, .ref aM), (1, .int (iI q))]) C d_M_isAt_83 3 rfl (by decide) rfl ?_
              refine z_goto (tgt := 33) C d_M_isAt_86 (by decide) ?_
              refine z_lv [2, 3, 1, 0] (lv' := [(0, .ref aM), (1, .int (iI q)), (2, .int (iI 0)), (3, .int (iI (k + 1)))]) rfl ?_
              exact ih33 _ _ (by omega) (⟨fun z => absurd z (by decide), fun _ z => c74 (by have := (hsg.mp z).2 k.toNat (by omega); rw [show ((k.toNat : Nat) : Int) = k by omega] at this; exact this)⟩) (by omega)
            ·
              refine z_iconst C d_M_isAt_77 ?_
              refine z_goto (tgt := 82) C d_M_isAt_78 (by decide) ?_
              refine z_istore_n (lv' := [(2, .int (iI 1)), (0, .ref aM), (1, .int (iI q)), (3, .int (iI k))]) C d_M_isAt_82 (by decide) rfl ?_
              refine z_iinc (lv' := [(3, .int (iI (k + 1))), (2, .int (iI 1)), (0, .ref aM), (1, .int (iI q))]) C d_M_isAt_83 3 rfl (by decide) rfl ?_
              refine z_goto (tgt := 33) C d_M_isAt_86 (by decide) ?_
              refine z_lv [2, 3, 1, 0] (lv' := [(0, .ref aM), (1, .int (iI q)), (2, .int (iI 1)), (3, .int (iI (k + 1)))]) rfl ?_
              exact ih33 _ _ (by omega) (⟨fun _ => ⟨(hE.1 (by omega)).1, fun j hj => if e : (j : Int) = k then by rw [e]; exact Decidable.of_not_not c74 else (hE.1 (by omega)).2 j (by omega)⟩, fun z => absurd z (by decide)⟩) (by omega)
    refine z_lv [2, 3, 1, 0] (lv' := [(0, .ref aM), (1, .int (iI q)), (2, .int (iI 1)), (3, .int (iI 0))]) rfl ?_
    exact loop33 (_ + 1) _ _ (by omega) (⟨fun _ => ⟨by omega, fun j hj => absurd hj (by omega)⟩, fun z => absurd z (by decide)⟩) (Nat.lt_succ_self _)
set_option maxHeartbeats 4000000 in
set_option maxRecDepth 100000 in
theorem m_M_find (l : Launch) (G : GG) (sz : Nat) (aM : Nat) (aWc : Nat) (aTx : Nat) (aOu : Nat) (aSo : Nat) (aNf : Nat) (aNg : Nat) (aSr : Nat) (aNu : Nat) (aMa : Nat) (aNo : Nat) (aLe : Nat) (aAc : Nat) (aDi : Nat) (aOr : Nat) (mth : Int) (msz : Int) (mwr : Int) (mfa : Int) (mpl : Int) (mle : Int) (mna : Int) (mfi : Int) (mru : Int) (mnv : Int) (mki : Int) (mfr : Int) (mto : Int) (mwh : Int) (sF : Nat → Int) (nf : Nat → Int) (ng : Nat → Int) (sr : Nat → Int) (nu : Nat → Int) (ma : Nat → Int) (no : Nat → Int) (N : NL) (h1 : 0 ≤ mfr ∧ mfr ≤ mto ∧ mto ≤ 4096) (hu : u8 sF) (hM : NamM sF nf ng sr nu ma no mna N) : MetI l G sz y_M_find c_M_find 3 (some .int) ({ frames := 1, cells := 0, slots := 0, locals := 23 } : Room) [.ref aM] [(aM, .inr (8, [.ref aWc, .int (iI mth), .int (iI msz), .ref aTx, .int (iI mwr), .ref aOu, .int (iI mfa), .int (iI mpl), .int (iI mle), .int (iI mna), .ref aSo, .ref aNf, .ref aNg, .ref aSr, .ref aNu, .ref aMa, .ref aNo, .int (iI mfi), .int (iI mru), .int (iI mnv), .ref aLe, .ref aAc, .ref aDi, .ref aOr, .int (iI mki), .int (iI mfr), .int (iI mto), .int (iI mwh)])), iA G aSo 4200 sF, iA G aNf 40 nf, iA G aNg 40 ng] (fun (r : Int32) (u : Unit) => r = iI (fdI (seg (bF sF) mfr.toNat (mto - mfr).toNat) N)) (fun (u : Unit) => [(aM, .inr (8, [.ref aWc, .int (iI mth), .int (iI msz), .ref aTx, .int (iI mwr), .ref aOu, .int (iI mfa), .int (iI mpl), .int (iI mle), .int (iI mna), .ref aSo, .ref aNf, .ref aNg, .ref aSr, .ref aNu, .ref aMa, .ref aNo, .int (iI mfi), .int (iI mru), .int (iI mnv), .ref aLe, .ref aAc, .ref aDi, .ref aOr, .int (iI mki), .int (iI mfr), .int (iI mto), .int (iI mwh)])), iA G aSo 4200 sF, iA G aNf 40 nf, iA G aNg 40 ng]) := by
  refine MetI.mk (by decide) (Nat.le_of_ble_eq_true rfl) (fun X C K => ?_)
  show Zc G X 3 0 0 [(aM, .inr (8, [.ref aWc, .int (iI mth), .int (iI msz), .ref aTx, .int (iI mwr), .ref aOu, .int (iI mfa), .int (iI mpl), .int (iI mle), .int (iI mna), .ref aSo, .ref aNf, .ref aNg, .ref aSr, .ref aNu, .ref aMa, .ref aNo, .int (iI mfi), .int (iI mru), .int (iI mnv), .ref aLe, .ref aAc, .ref aDi, .ref aOr, .int (iI mki), .int (iI mfr), .int (iI mto), .int (iI mwh)])), iA G aSo 4200 sF, iA G aNf 40 nf, iA G aNg 40 ng] [(0, .ref aM)] 0 []
  have hml := hM.2.1
  have hm0 := hM.1
  refine z_iconst C d_M_find_0 ?_
  refine z_istore_n (lv' := [(1, .int (iI (-1))), (0, .ref aM)]) C d_M_find_1 (by decide) rfl ?_
  refine z_iconst C d_M_find_2 ?_
  refine z_istore_n (lv' := [(2, .int (iI 0)), (1, .int (iI (-1))), (0, .ref aM)]) C d_M_find_3 (by decide) rfl ?_
  have loop4 : ∀ (kq : Nat) (f : Int) (k : Int), (0 ≤ k ∧ k ≤ mna ∧ -1 ≤ f ∧ f < 40) → ((f = -1 ∧ ∀ i : Nat, (i : Int) < k → ¬ wrd N i = seg (bF sF) mfr.toNat (mto - mfr).toNat) ∨ (0 ≤ f ∧ f < k ∧ wrd N f.toNat = seg (bF sF) mfr.toNat (mto - mfr).toNat)) → ((mna - k).toNat < kq) → Zc G X 3 0 0 [(aM, .inr (8, [.ref aWc, .int (iI mth), .int (iI msz), .ref aTx, .int (iI mwr), .ref aOu, .int (iI mfa), .int (iI mpl), .int (iI mle), .int (iI mna), .ref aSo, .ref aNf, .ref aNg, .ref aSr, .ref aNu, .ref aMa, .ref aNo, .int (iI mfi), .int (iI mru), .int (iI mnv), .ref aLe, .ref aAc, .ref aDi, .ref aOr, .int (iI mki), .int (iI mfr), .int (iI mto), .int (iI mwh)])), iA G aSo 4200 sF, iA G aNf 40 nf, iA G aNg 40 ng] [(0, .ref aM), (1, .int (iI f)), (2, .int (iI k))] 4 [] := by
    intro kq
    induction kq with
    | zero => intro f k hk hE hm; exact absurd hm (Nat.not_lt_zero _)
    | succ kq ih4 =>
      intro f k hk hE hm
      -- loop body
      refine z_iload_n C d_M_find_4 2 rfl ?_
      refine z_aload_n C d_M_find_5 0 rfl ?_
      refine z_get C f_M_115 d_M_find_6 0 rfl rfl ?_
      refine z_icmp_ge (tgt := 32) C d_M_find_9 (by decide) (by omega) (by omega) (fun c9 => ?_) (fun c9 => ?_)
      ·
        refine z_iload_n C d_M_find_32 1 rfl ?_
        exact z_iret C K d_M_find_33 (rfl) () (rfl) (congrArg iI (fdI_done hM.2.2.2.2.2 (hE.elim (fun z => Or.inl ⟨z.1, fun i hi => z.2 i (by omega)⟩) (fun z => Or.inr ⟨z.1, by omega, z.2.2⟩))))
      ·
        have hnk := hM.2.2.1 k.toNat (by omega)
        have hwk := hnk.2.2.2.2.2.1
        refine z_aload_n C d_M_find_12 0 rfl ?_
        refine z_iload_n C d_M_find_13 2 rfl ?_
        refine z_calli (As := [.int (iI k)]) (rest := []) (wr := []) (ws' := fun u => [(aM, .inr (8, [.ref aWc, .int (iI mth), .int (iI msz), .ref aTx, .int (iI mwr), .ref aOu, .int (iI mfa), .int (iI mpl), .int (iI mle), .int (iI mna), .ref aSo, .ref aNf, .ref aNg, .ref aSr, .ref aNu, .ref aMa, .ref aNo, .int (iI mfi), .int (iI mru), .int (iI mnv), .ref aLe, .ref aAc, .ref aDi, .ref aOr, .int (iI mki), .int (iI mfr), .int (iI mto), .int (iI mwh)])), iA G aSo 4200 sF, iA G aNf 40 nf, iA G aNg 40 ng]) (q0 := 0) C k_M_118 kc_M_isAt (fun l sz => m_M_isAt l G sz aM aWc aTx aOu aSo aNf aNg aSr aNu aMa aNo aLe aAc aDi aOr mth msz mwr mfa mpl mle mna mfi mru mnv mki mfr mto mwh sF nf ng k (by omega) (hu)) rfl rfl (Nat.le_of_ble_eq_true rfl) (by decide) d_M_find_14 rfl rfl [0, 1, 2, 3] [] [0, 1, 2, 3] rfl rfl (by decide) (fun u => rfl) (fun r u h14 => ?_)
        obtain ⟨rr_14, rfl⟩ : ∃ z, z = u := ⟨_, rfl⟩
        obtain ⟨rfl, he_14⟩ := h14
        have he_14 : (rr_14 = 1 ∧ seg (bF sF) (nf k.toNat).toNat (ng k.toNat - nf k.toNat).toNat = seg (bF sF) mfr.toNat (mto - mfr).toNat) ∨ (rr_14 = 0 ∧ ¬ seg (bF sF) (nf k.toNat).toNat (ng k.toNat - nf k.toNat).toNat = seg (bF sF) mfr.toNat (mto - mfr).toNat) := he_14
        show Zc G X 3 0 0 [(aM, .inr (8, [.ref aWc, .int (iI mth), .int (iI msz), .ref aTx, .int (iI mwr), .ref aOu, .int (iI mfa), .int (iI mpl), .int (iI mle), .int (iI mna), .ref aSo, .ref aNf, .ref aNg, .ref aSr, .ref aNu, .ref aMa, .ref aNo, .int (iI mfi), .int (iI mru), .int (iI mnv), .ref aLe, .ref aAc, .ref aDi, .ref aOr, .int (iI mki), .int (iI mfr), .int (iI mto), .int (iI mwh)])), iA G aSo 4200 sF, iA G aNf 40 nf, iA G aNg 40 ng] [(0, .ref aM), (1, .int (iI f)), (2, .int (iI k))] 17 [.int (iI rr_14)]
        rcases he_14 with ⟨rfl, s17⟩ | ⟨rfl, s17⟩
        ·
          skip
          refine z_if_eq (tgt := 24) C d_M_find_17 (by decide) (by omega) (fun c17 => ?_) (fun c17 => ?_)
          · exact absurd c17 (by omega)
          ·
            refine z_iload_n C d_M_find_20 2 rfl ?_
            refine z_goto (tgt := 25) C d_M_find_21 (by decide) ?_
            refine z_istore_n (lv' := [(1, .int (iI k)), (0, .ref aM), (2, .int (iI k))]) C d_M_find_25 (by decide) rfl ?_
            refine z_iinc (lv' := [(2, .int (iI (k + 1))), (1, .int (iI k)), (0, .ref aM)]) C d_M_find_26 2 rfl (by decide) rfl ?_
            refine z_goto (tgt := 4) C d_M_find_29 (by decide) ?_
            refine z_lv [2, 1, 0] (lv' := [(0, .ref aM), (1, .int (iI k)), (2, .int (iI (k + 1)))]) rfl ?_
            exact ih4 _ _ (by omega) (Or.inr ⟨by omega, by omega, hwk.symm.trans s17⟩) (by omega)
        ·
          skip
          refine z_if_eq (tgt := 24) C d_M_find_17 (by decide) (by omega) (fun c17 => ?_) (fun c17 => ?_)
          ·
            refine z_iload_n C d_M_find_24 1 rfl ?_
            refine z_istore_n (lv' := [(1, .int (iI f)), (0, .ref aM), (2, .int (iI k))]) C d_M_find_25 (by decide) rfl ?_
            refine z_iinc (lv' := [(2, .int (iI (k + 1))), (1, .int (iI f)), (0, .ref aM)]) C d_M_find_26 2 rfl (by decide) rfl ?_
            refine z_goto (tgt := 4) C d_M_find_29 (by decide) ?_
            refine z_lv [2, 1, 0] (lv' := [(0, .ref aM), (1, .int (iI f)), (2, .int (iI (k + 1)))]) rfl ?_
            exact ih4 _ _ (by omega) (hE.elim (fun z => Or.inl ⟨z.1, fun i hi => if e : (i : Int) = k then by rw [show i = k.toNat by omega, ← hwk]; exact s17 else z.2 i (by omega)⟩) (fun z => Or.inr ⟨z.1, by omega, z.2.2⟩)) (by omega)
          · exact absurd c17 (by omega)
  refine z_lv [2, 1, 0] (lv' := [(0, .ref aM), (1, .int (iI (-1))), (2, .int (iI 0))]) rfl ?_
  exact loop4 (_ + 1) _ _ (by omega) (Or.inl ⟨rfl, fun i hi => absurd hi (by omega)⟩) (Nat.lt_succ_self _)
set_option maxHeartbeats 4000000 in
set_option maxRecDepth 100000 in
theorem m_M_oldName (l : Launch) (G : GG) (sz : Nat) (aM : Nat) (aWc : Nat) (aTx : Nat) (aOu : Nat) (aSo : Nat) (aNf : Nat) (aNg : Nat) (aSr : Nat) (aNu : Nat) (aMa : Nat) (aNo : Nat) (aLe : Nat) (aAc : Nat) (aDi : Nat) (aOr : Nat) (mth : Int) (msz : Int) (mwr : Int) (mfa : Int) (mpl : Int) (mle : Int) (mna : Int) (mfi : Int) (mru : Int) (mnv : Int) (mki : Int) (mfr : Int) (mto : Int) (mwh : Int) (sF : Nat → Int) (nf : Nat → Int) (ng : Nat → Int) (sr : Nat → Int) (nu : Nat → Int) (ma : Nat → Int) (no : Nat → Int) (N : NL) (R : Int × Int × Cf) (p : Int) (c : Cf) (a : Int) (b : Int) (hS : Sim R sF mle mfa mpl mfr mto mki mwh p c) (hu : u8 sF) (hn : 0 ≤ mle ∧ mle ≤ 4096) (hq : 0 ≤ mki ∧ mki ≤ 3 ∧ -1 ≤ mwh ∧ mwh ≤ 255 ∧ 0 ≤ mto ∧ mto ≤ mle) (hM : NamM sF nf ng sr nu ma no mna N) (hab : 0 ≤ a ∧ a ≤ 2 ∧ 0 ≤ b ∧ b ≤ 2) : MetI l G sz y_M_oldName c_M_oldName 4 (some .int) ({ frames := 2, cells := 0, slots := 0, locals := 45 } : Room) [.ref aM, .int (iI a), .int (iI b)] [(aM, .inr (8, [.ref aWc, .int (iI mth), .int (iI msz), .ref aTx, .int (iI mwr), .ref aOu, .int (iI mfa), .int (iI mpl), .int (iI mle), .int (iI mna), .ref aSo, .ref aNf, .ref aNg, .ref aSr, .ref aNu, .ref aMa, .ref aNo, .int (iI mfi), .int (iI mru), .int (iI mnv), .ref aLe, .ref aAc, .ref aDi, .ref aOr, .int (iI mki), .int (iI mfr), .int (iI mto), .int (iI mwh)])), iA G aSo 4200 sF, iA G aNf 40 nf, iA G aNg 40 ng, iA G aSr 40 sr] (fun (r : Int32) (u : Int × Int × Int) => r = iI u.1 ∧ (¬ mfa = 0 → u.2.1 = mfa ∧ u.2.2 = mpl ∧ u.1 = 0) ∧ (mfa = 0 → (ffl N (lxK (bF sF) mle p) (wA (bF sF) mle p) a b = 0 → u.2.1 = 0 ∧ u.2.2 = mpl ∧ u.1 = fdI (wA (bF sF) mle p) N) ∧ (¬ ffl N (lxK (bF sF) mle p) (wA (bF sF) mle p) a b = 0 → u.2.1 = ffl N (lxK (bF sF) mle p) (wA (bF sF) mle p) a b ∧ u.2.2 = mfr ∧ u.1 = 0))) (fun (u : Int × Int × Int) => [(aM, .inr (8, [.ref aWc, .int (iI mth), .int (iI msz), .ref aTx, .int (iI mwr), .ref aOu, .int (iI u.2.1), .int (iI u.2.2), .int (iI mle), .int (iI mna), .ref aSo, .ref aNf, .ref aNg, .ref aSr, .ref aNu, .ref aMa, .ref aNo, .int (iI mfi), .int (iI mru), .int (iI mnv), .ref aLe, .ref aAc, .ref aDi, .ref aOr, .int (iI mki), .int (iI mfr), .int (iI mto), .int (iI mwh)])), iA G aSo 4200 sF, iA G aNf 40 nf, iA G aNg 40 ng, iA G aSr 40 sr]) := by
  refine MetI.mk (by decide) (Nat.le_of_ble_eq_true rfl) (fun X C K => ?_)
  show Zc G X 4 0 0 [(aM, .inr (8, [.ref aWc, .int (iI mth), .int (iI msz), .ref aTx, .int (iI mwr), .ref aOu, .int (iI mfa), .int (iI mpl), .int (iI mle), .int (iI mna), .ref aSo, .ref aNf, .ref aNg, .ref aSr, .ref aNu, .ref aMa, .ref aNo, .int (iI mfi), .int (iI mru), .int (iI mnv), .ref aLe, .ref aAc, .ref aDi, .ref aOr, .int (iI mki), .int (iI mfr), .int (iI mto), .int (iI mwh)])), iA G aSo 4200 sF, iA G aNf 40 nf, iA G aNg 40 ng, iA G aSr 40 sr] [(0, .ref aM), (1, .int (iI a)), (2, .int (iI b))] 0 []
  have hf07 := Sim_rg hS
  refine z_aload_n C d_M_oldName_0 0 rfl ?_
  refine z_get C f_M_70 d_M_oldName_1 0 rfl rfl ?_
  refine z_if_le (tgt := 9) C d_M_oldName_4 (by decide) (by omega) (fun c4 => ?_) (fun c4 => ?_)
  ·
    have h0 : mfa = 0 := by omega
    obtain ⟨hp, hfr, hto, hkd, hk1, hR⟩ := Sim_0 hS h0
    have hkr := lxK_rg (bF sF) mle p
    have hki := kdR_i hkd (by omega)
    have hlr := lx_rg (bF sF) hp.2
    have hla := lxA_rg (bF sF) hp.2
    have hWP : seg (bF sF) mfr.toNat (mto - mfr).toNat = wA (bF sF) mle p := by rw [hfr, hto]; rfl
    have hml := hM.1
    have hm4 := hM.2.1
    refine z_aload_n C d_M_oldName_9 0 rfl ?_
    refine z_get C f_M_92 d_M_oldName_10 0 rfl rfl ?_
    refine z_iconst C d_M_oldName_13 ?_
    refine z_icmp_ne (tgt := 24) C d_M_oldName_14 (by decide) (by omega) (by omega) (fun c14 => ?_) (fun c14 => ?_)
    ·
      refine z_iconst C d_M_oldName_24 ?_
      refine z_istore_n (lv' := [(3, .int (iI (-1))), (0, .ref aM), (1, .int (iI a)), (2, .int (iI b))]) C d_M_oldName_25 (by decide) rfl ?_
      refine z_aload_n C d_M_oldName_26 1 rfl ?_
      refine z_get C f_M_92 d_M_oldName_27 0 rfl rfl ?_
      refine z_iconst C d_M_oldName_30 ?_
      refine z_icmp_eq (tgt := 46) C d_M_oldName_31 (by decide) (by omega) (by omega) (fun c31 => ?_) (fun c31 => ?_)
      · exact absurd c31 (by omega)
      ·
        refine z_aload_n C d_M_oldName_34 1 rfl ?_
        refine z_iconst C d_M_oldName_35 ?_
        refine z_aload_n C d_M_oldName_36 1 rfl ?_
        refine z_get C f_M_86 d_M_oldName_37 0 rfl rfl ?_
        refine z_callv (As := [.int (iI 2), .int (iI mfr)]) (rest := []) (wr := [iA G aSo 4200 sF, iA G aNf 40 nf, iA G aNg 40 ng, iA G aSr 40 sr]) (ws' := fun u => [(aM, .inr (8, [.ref aWc, .int (iI mth), .int (iI msz), .ref aTx, .int (iI mwr), .ref aOu, .int (iI 2), .int (iI mfr), .int (iI mle), .int (iI mna), .ref aSo, .ref aNf, .ref aNg, .ref aSr, .ref aNu, .ref aMa, .ref aNo, .int (iI mfi), .int (iI mru), .int (iI mnv), .ref aLe, .ref aAc, .ref aDi, .ref aOr, .int (iI mki), .int (iI mfr), .int (iI mto), .int (iI mwh)])), iA G aSo 4200 sF, iA G aNf 40 nf, iA G aNg 40 ng, iA G aSr 40 sr]) (q0 := 0) C k_M_105 kc_M_tell (fun l sz => m_M_tell l G sz aM aWc aTx aOu aSo aNf aNg aSr aNu aMa aNo aLe aAc aDi aOr mth msz mwr mfa mpl mle mna mfi mru mnv mki mfr mto mwh 2 mfr (by omega)) rfl rfl (Nat.le_of_ble_eq_true rfl) (by decide) d_M_oldName_40 rfl rfl [0] [1, 2, 3, 4] [4, 0, 1, 2, 3] rfl rfl (by decide) (fun u => rfl) (fun u h40 => ?_)
        show Zc G X 4 0 0 [(aM, .inr (8, [.ref aWc, .int (iI mth), .int (iI msz), .ref aTx, .int (iI mwr), .ref aOu, .int (iI 2), .int (iI mfr), .int (iI mle), .int (iI mna), .ref aSo, .ref aNf, .ref aNg, .ref aSr, .ref aNu, .ref aMa, .ref aNo, .int (iI mfi), .int (iI mru), .int (iI mnv), .ref aLe, .ref aAc, .ref aDi, .ref aOr, .int (iI mki), .int (iI mfr), .int (iI mto), .int (iI mwh)])), iA G aSo 4200 sF, iA G aNf 40 nf, iA G aNg 40 ng, iA G aSr 40 sr] [(3, .int (iI (-1))), (0, .ref aM), (1, .int (iI a)), (2, .int (iI b))] 43 []
        refine z_goto (tgt := 92) C d_M_oldName_43 (by decide) ?_
        refine z_aload_n C d_M_oldName_92 1 rfl ?_
        refine z_get C f_M_70 d_M_oldName_93 0 rfl rfl ?_
        refine z_if_le (tgt := 103) C d_M_oldName_96 (by decide) (by omega) (fun c96 => ?_) (fun c96 => ?_)
        · exact absurd c96 (by omega)
        ·
          refine z_iconst C d_M_oldName_99 ?_
          refine z_goto (tgt := 104) C d_M_oldName_100 (by decide) ?_
          have hff : ffl N (lxK (bF sF) mle p) (wA (bF sF) mle p) a b = 2 := by unfold ffl; rw [if_pos (by omega)]
          exact z_iret C K d_M_oldName_104 (rfl) (0, 2, mfr) (rfl) (show iI 0 = iI 0 ∧ (¬ mfa = 0 → 2 = mfa ∧ mfr = mpl ∧ 0 = 0) ∧ (mfa = 0 → (ffl N (lxK (bF sF) mle p) (wA (bF sF) mle p) a b = 0 → 2 = 0 ∧ mfr = mpl ∧ 0 = fdI (wA (bF sF) mle p) N) ∧ (¬ ffl N (lxK (bF sF) mle p) (wA (bF sF) mle p) a b = 0 → 2 = ffl N (lxK (bF sF) mle p) (wA (bF sF) mle p) a b ∧ mfr = mfr ∧ 0 = 0)) from ⟨rfl, fun z => absurd h0 z, fun _ => ⟨fun z => by omega, fun _ => ⟨hff.symm, rfl, rfl⟩⟩⟩)
    ·
      refine z_aload_n C d_M_oldName_17 0 rfl ?_
      refine z_calli (As := []) (rest := []) (wr := [iA G aSr 40 sr]) (ws' := fun u => [(aM, .inr (8, [.ref aWc, .int (iI mth), .int (iI msz), .ref aTx, .int (iI mwr), .ref aOu, .int (iI mfa), .int (iI mpl), .int (iI mle), .int (iI mna), .ref aSo, .ref aNf, .ref aNg, .ref aSr, .ref aNu, .ref aMa, .ref aNo, .int (iI mfi), .int (iI mru), .int (iI mnv), .ref aLe, .ref aAc, .ref aDi, .ref aOr, .int (iI mki), .int (iI mfr), .int (iI mto), .int (iI mwh)])), iA G aSo 4200 sF, iA G aNf 40 nf, iA G aNg 40 ng, iA G aSr 40 sr]) (q0 := 0) C k_M_121 kc_M_find (fun l sz => m_M_find l G sz aM aWc aTx aOu aSo aNf aNg aSr aNu aMa aNo aLe aAc aDi aOr mth msz mwr mfa mpl mle mna mfi mru mnv mki mfr mto mwh sF nf ng sr nu ma no N (by omega) (hu) (hM)) rfl rfl (Nat.le_of_ble_eq_true rfl) (by decide) d_M_oldName_18 rfl rfl [0, 1, 2, 3] [4] [1, 2, 3, 4, 0] rfl rfl (by decide) (fun u => rfl) (fun r u h18 => ?_)
      obtain rfl := h18
      show Zc G X 4 0 0 [(aM, .inr (8, [.ref aWc, .int (iI mth), .int (iI msz), .ref aTx, .int (iI mwr), .ref aOu, .int (iI mfa), .int (iI mpl), .int (iI mle), .int (iI mna), .ref aSo, .ref aNf, .ref aNg, .ref aSr, .ref aNu, .ref aMa, .ref aNo, .int (iI mfi), .int (iI mru), .int (iI mnv), .ref aLe, .ref aAc, .ref aDi, .ref aOr, .int (iI mki), .int (iI mfr), .int (iI mto), .int (iI mwh)])), iA G aSo 4200 sF, iA G aNf 40 nf, iA G aNg 40 ng, iA G aSr 40 sr] [(0, .ref aM), (1, .int (iI a)), (2, .int (iI b))] 21 [.int (iI (fdI (seg (bF sF) mfr.toNat (mto - mfr).toNat) N))]
      refine z_goto (tgt := 25) C d_M_oldName_21 (by decide) ?_
      refine z_istore_n (lv' := [(3, .int (iI (fdI (seg (bF sF) mfr.toNat (mto - mfr).toNat) N))), (0, .ref aM), (1, .int (iI a)), (2, .int (iI b))]) C d_M_oldName_25 (by decide) rfl ?_
      refine z_aload_n C d_M_oldName_26 1 rfl ?_
      refine z_get C f_M_92 d_M_oldName_27 0 rfl rfl ?_
      refine z_iconst C d_M_oldName_30 ?_
      refine z_icmp_eq (tgt := 46) C d_M_oldName_31 (by decide) (by omega) (by omega) (fun c31 => ?_) (fun c31 => ?_)
      ·
        have hfr2 := fdI_rg (seg (bF sF) mfr.toNat (mto - mfr).toNat) N
        have h6 : lxK (bF sF) mle p = 6 := by omega
        refine z_iload_n C d_M_oldName_46 0 rfl ?_
        refine z_if_ge (tgt := 62) C d_M_oldName_47 (by decide) (by omega) (fun c47 => ?_) (fun c47 => ?_)
        ·
          have hnk := hM.2.2.1 (fdI (seg (bF sF) mfr.toNat (mto - mfr).toNat) N).toNat (by omega)
          have hsr := hnk.2.2.2.2.2.2.1
          refine z_aload_n C d_M_oldName_62 1 rfl ?_
          refine z_get C f_M_28 d_M_oldName_63 0 rfl rfl ?_
          refine z_iload_n C d_M_oldName_66 0 rfl ?_
          refine z_iald C d_M_oldName_67 4 rfl (by omega) ?_
          refine z_iload_n C d_M_oldName_68 2 rfl ?_
          refine z_icmp_eq (tgt := 92) C d_M_oldName_69 (by decide) (by omega) (by omega) (fun c69 => ?_) (fun c69 => ?_)
          ·
            refine z_aload_n C d_M_oldName_92 1 rfl ?_
            refine z_get C f_M_70 d_M_oldName_93 0 rfl rfl ?_
            refine z_if_le (tgt := 103) C d_M_oldName_96 (by decide) (by omega) (fun c96 => ?_) (fun c96 => ?_)
            ·
              refine z_iload_n C d_M_oldName_103 0 rfl ?_
              have hff : ffl N (lxK (bF sF) mle p) (wA (bF sF) mle p) a b = 0 := by unfold ffl; rw [if_neg (by omega), ← hWP, if_neg (by omega), if_neg (by omega)]
              exact z_iret C K d_M_oldName_104 (rfl) (fdI (seg (bF sF) mfr.toNat (mto - mfr).toNat) N, mfa, mpl) (rfl) (show iI (fdI (seg (bF sF) mfr.toNat (mto - mfr).toNat) N) = iI (fdI (seg (bF sF) mfr.toNat (mto - mfr).toNat) N) ∧ (¬ mfa = 0 → mfa = mfa ∧ mpl = mpl ∧ (fdI (seg (bF sF) mfr.toNat (mto - mfr).toNat) N) = 0) ∧ (mfa = 0 → (ffl N (lxK (bF sF) mle p) (wA (bF sF) mle p) a b = 0 → mfa = 0 ∧ mpl = mpl ∧ (fdI (seg (bF sF) mfr.toNat (mto - mfr).toNat) N) = fdI (wA (bF sF) mle p) N) ∧ (¬ ffl N (lxK (bF sF) mle p) (wA (bF sF) mle p) a b = 0 → mfa = ffl N (lxK (bF sF) mle p) (wA (bF sF) mle p) a b ∧ mpl = mfr ∧ (fdI (seg (bF sF) mfr.toNat (mto - mfr).toNat) N) = 0)) from ⟨rfl, fun z => absurd h0 z, fun _ => ⟨fun _ => ⟨h0, rfl, by rw [hWP]⟩, fun z => absurd hff z⟩⟩)
            · exact absurd c96 (by omega)
          ·
            refine z_aload_n C d_M_oldName_72 1 rfl ?_
            refine z_get C f_M_28 d_M_oldName_73 0 rfl rfl ?_
            refine z_iload_n C d_M_oldName_76 0 rfl ?_
            refine z_iald C d_M_oldName_77 4 rfl (by omega) ?_
            refine z_iload_n C d_M_oldName_78 3 rfl ?_
            refine z_icmp_eq (tgt := 92) C d_M_oldName_79 (by decide) (by omega) (by omega) (fun c79 => ?_) (fun c79 => ?_)
            ·
              refine z_aload_n C d_M_oldName_92 1 rfl ?_
              refine z_get C f_M_70 d_M_oldName_93 0 rfl rfl ?_
              refine z_if_le (tgt := 103) C d_M_oldName_96 (by decide) (by omega) (fun c96 => ?_) (fun c96 => ?_)
              ·
                refine z_iload_n C d_M_oldName_103 0 rfl ?_
                have hff : ffl N (lxK (bF sF) mle p) (wA (bF sF) mle p) a b = 0 := by unfold ffl; rw [if_neg (by omega), ← hWP, if_neg (by omega), if_neg (by omega)]
                exact z_iret C K d_M_oldName_104 (rfl) (fdI (seg (bF sF) mfr.toNat (mto - mfr).toNat) N, mfa, mpl) (rfl) (show iI (fdI (seg (bF sF) mfr.toNat (mto - mfr).toNat) N) = iI (fdI (seg (bF sF) mfr.toNat (mto - mfr).toNat) N) ∧ (¬ mfa = 0 → mfa = mfa ∧ mpl = mpl ∧ (fdI (seg (bF sF) mfr.toNat (mto - mfr).toNat) N) = 0) ∧ (mfa = 0 → (ffl N (lxK (bF sF) mle p) (wA (bF sF) mle p) a b = 0 → mfa = 0 ∧ mpl = mpl ∧ (fdI (seg (bF sF) mfr.toNat (mto - mfr).toNat) N) = fdI (wA (bF sF) mle p) N) ∧ (¬ ffl N (lxK (bF sF) mle p) (wA (bF sF) mle p) a b = 0 → mfa = ffl N (lxK (bF sF) mle p) (wA (bF sF) mle p) a b ∧ mpl = mfr ∧ (fdI (seg (bF sF) mfr.toNat (mto - mfr).toNat) N) = 0)) from ⟨rfl, fun z => absurd h0 z, fun _ => ⟨fun _ => ⟨h0, rfl, by rw [hWP]⟩, fun z => absurd hff z⟩⟩)
              · exact absurd c96 (by omega)
            ·
              refine z_aload_n C d_M_oldName_82 1 rfl ?_
              refine z_bipush C d_M_oldName_83 (by decide) ?_
              refine z_aload_n C d_M_oldName_85 1 rfl ?_
              refine z_get C f_M_86 d_M_oldName_86 0 rfl rfl ?_
              refine z_callv (As := [.int (iI 6), .int (iI mfr)]) (rest := []) (wr := [iA G aSo 4200 sF, iA G aNf 40 nf, iA G aNg 40 ng, iA G aSr 40 sr]) (ws' := fun u => [(aM, .inr (8, [.ref aWc, .int (iI mth), .int (iI msz), .ref aTx, .int (iI mwr), .ref aOu, .int (iI 6), .int (iI mfr), .int (iI mle), .int (iI mna), .ref aSo, .ref aNf, .ref aNg, .ref aSr, .ref aNu, .ref aMa, .ref aNo, .int (iI mfi), .int (iI mru), .int (iI mnv), .ref aLe, .ref aAc, .ref aDi, .ref aOr, .int (iI mki), .int (iI mfr), .int (iI mto), .int (iI mwh)])), iA G aSo 4200 sF, iA G aNf 40 nf, iA G aNg 40 ng, iA G aSr 40 sr]) (q0 := 0) C k_M_105 kc_M_tell (fun l sz => m_M_tell l G sz aM aWc aTx aOu aSo aNf aNg aSr aNu aMa aNo aLe aAc aDi aOr mth msz mwr mfa mpl mle mna mfi mru mnv mki mfr mto mwh 6 mfr (by omega)) rfl rfl (Nat.le_of_ble_eq_true rfl) (by decide) d_M_oldName_89 rfl rfl [0] [1, 2, 3, 4] [4, 0, 1, 2, 3] rfl rfl (by decide) (fun u => rfl) (fun u h89 => ?_)
              show Zc G X 4 0 0 [(aM, .inr (8, [.ref aWc, .int (iI mth), .int (iI msz), .ref aTx, .int (iI mwr), .ref aOu, .int (iI 6), .int (iI mfr), .int (iI mle), .int (iI mna), .ref aSo, .ref aNf, .ref aNg, .ref aSr, .ref aNu, .ref aMa, .ref aNo, .int (iI mfi), .int (iI mru), .int (iI mnv), .ref aLe, .ref aAc, .ref aDi, .ref aOr, .int (iI mki), .int (iI mfr), .int (iI mto), .int (iI mwh)])), iA G aSo 4200 sF, iA G aNf 40 nf, iA G aNg 40 ng, iA G aSr 40 sr] [(3, .int (iI (fdI (seg (bF sF) mfr.toNat (mto - mfr).toNat) N))), (0, .ref aM), (1, .int (iI a)), (2, .int (iI b))] 92 []
              refine z_aload_n C d_M_oldName_92 1 rfl ?_
              refine z_get C f_M_70 d_M_oldName_93 0 rfl rfl ?_
              refine z_if_le (tgt := 103) C d_M_oldName_96 (by decide) (by omega) (fun c96 => ?_) (fun c96 => ?_)
              · exact absurd c96 (by omega)
              ·
                refine z_iconst C d_M_oldName_99 ?_
                refine z_goto (tgt := 104) C d_M_oldName_100 (by decide) ?_
                have hff : ffl N (lxK (bF sF) mle p) (wA (bF sF) mle p) a b = 6 := by unfold ffl; rw [if_neg (by omega), ← hWP, if_neg (by omega), if_pos (by omega)]
                exact z_iret C K d_M_oldName_104 (rfl) (0, 6, mfr) (rfl) (show iI 0 = iI 0 ∧ (¬ mfa = 0 → 6 = mfa ∧ mfr = mpl ∧ 0 = 0) ∧ (mfa = 0 → (ffl N (lxK (bF sF) mle p) (wA (bF sF) mle p) a b = 0 → 6 = 0 ∧ mfr = mpl ∧ 0 = fdI (wA (bF sF) mle p) N) ∧ (¬ ffl N (lxK (bF sF) mle p) (wA (bF sF) mle p) a b = 0 → 6 = ffl N (lxK (bF sF) mle p) (wA (bF sF) mle p) a b ∧ mfr = mfr ∧ 0 = 0)) from ⟨rfl, fun z => absurd h0 z, fun _ => ⟨fun z => by omega, fun _ => ⟨hff.symm, rfl, rfl⟩⟩⟩)
        ·
          refine z_aload_n C d_M_oldName_50 1 rfl ?_
          refine z_iconst C d_M_oldName_51 ?_
          refine z_aload_n C d_M_oldName_52 1 rfl ?_
          refine z_get C f_M_86 d_M_oldName_53 0 rfl rfl ?_
          refine z_callv (As := [.int (iI 5), .int (iI mfr)]) (rest := []) (wr := [iA G aSo 4200 sF, iA G aNf 40 nf, iA G aNg 40 ng, iA G aSr 40 sr]) (ws' := fun u => [(aM, .inr (8, [.ref aWc, .int (iI mth), .int (iI msz), .ref aTx, .int (iI mwr), .ref aOu, .int (iI 5), .int (iI mfr), .int (iI mle), .int (iI mna), .ref aSo, .ref aNf, .ref aNg, .ref aSr, .ref aNu, .ref aMa, .ref aNo, .int (iI mfi), .int (iI mru), .int (iI mnv), .ref aLe, .ref aAc, .ref aDi, .ref aOr, .int (iI mki), .int (iI mfr), .int (iI mto), .int (iI mwh)])), iA G aSo 4200 sF, iA G aNf 40 nf, iA G aNg 40 ng, iA G aSr 40 sr]) (q0 := 0) C k_M_105 kc_M_tell (fun l sz => m_M_tell l G sz aM aWc aTx aOu aSo aNf aNg aSr aNu aMa aNo aLe aAc aDi aOr mth msz mwr mfa mpl mle mna mfi mru mnv mki mfr mto mwh 5 mfr (by omega)) rfl rfl (Nat.le_of_ble_eq_true rfl) (by decide) d_M_oldName_56 rfl rfl [0] [1, 2, 3, 4] [4, 0, 1, 2, 3] rfl rfl (by decide) (fun u => rfl) (fun u h56 => ?_)
          show Zc G X 4 0 0 [(aM, .inr (8, [.ref aWc, .int (iI mth), .int (iI msz), .ref aTx, .int (iI mwr), .ref aOu, .int (iI 5), .int (iI mfr), .int (iI mle), .int (iI mna), .ref aSo, .ref aNf, .ref aNg, .ref aSr, .ref aNu, .ref aMa, .ref aNo, .int (iI mfi), .int (iI mru), .int (iI mnv), .ref aLe, .ref aAc, .ref aDi, .ref aOr, .int (iI mki), .int (iI mfr), .int (iI mto), .int (iI mwh)])), iA G aSo 4200 sF, iA G aNf 40 nf, iA G aNg 40 ng, iA G aSr 40 sr] [(3, .int (iI (fdI (seg (bF sF) mfr.toNat (mto - mfr).toNat) N))), (0, .ref aM), (1, .int (iI a)), (2, .int (iI b))] 59 []
          refine z_goto (tgt := 92) C d_M_oldName_59 (by decide) ?_
          refine z_aload_n C d_M_oldName_92 1 rfl ?_
          refine z_get C f_M_70 d_M_oldName_93 0 rfl rfl ?_
          refine z_if_le (tgt := 103) C d_M_oldName_96 (by decide) (by omega) (fun c96 => ?_) (fun c96 => ?_)
          · exact absurd c96 (by omega)
          ·
            refine z_iconst C d_M_oldName_99 ?_
            refine z_goto (tgt := 104) C d_M_oldName_100 (by decide) ?_
            have hff : ffl N (lxK (bF sF) mle p) (wA (bF sF) mle p) a b = 5 := by unfold ffl; rw [if_neg (by omega), ← hWP, if_pos (by omega)]
            exact z_iret C K d_M_oldName_104 (rfl) (0, 5, mfr) (rfl) (show iI 0 = iI 0 ∧ (¬ mfa = 0 → 5 = mfa ∧ mfr = mpl ∧ 0 = 0) ∧ (mfa = 0 → (ffl N (lxK (bF sF) mle p) (wA (bF sF) mle p) a b = 0 → 5 = 0 ∧ mfr = mpl ∧ 0 = fdI (wA (bF sF) mle p) N) ∧ (¬ ffl N (lxK (bF sF) mle p) (wA (bF sF) mle p) a b = 0 → 5 = ffl N (lxK (bF sF) mle p) (wA (bF sF) mle p) a b ∧ mfr = mfr ∧ 0 = 0)) from ⟨rfl, fun z => absurd h0 z, fun _ => ⟨fun z => by omega, fun _ => ⟨hff.symm, rfl, rfl⟩⟩⟩)
      · exact absurd c31 (by omega)
  ·
    refine z_iconst C d_M_oldName_7 ?_
    exact z_iret C K d_M_oldName_8 (rfl) (0, mfa, mpl) (rfl) (show iI 0 = iI 0 ∧ (¬ mfa = 0 → mfa = mfa ∧ mpl = mpl ∧ 0 = 0) ∧ (mfa = 0 → (ffl N (lxK (bF sF) mle p) (wA (bF sF) mle p) a b = 0 → mfa = 0 ∧ mpl = mpl ∧ 0 = fdI (wA (bF sF) mle p) N) ∧ (¬ ffl N (lxK (bF sF) mle p) (wA (bF sF) mle p) a b = 0 → mfa = ffl N (lxK (bF sF) mle p) (wA (bF sF) mle p) a b ∧ mpl = mfr ∧ 0 = 0)) from ⟨rfl, fun _ => ⟨rfl, rfl, rfl⟩, fun z => by omega⟩)
