theorem W_iff {F : Nat → Int} {fr to : Int} {w : Nat} (hw : w < 9) (h : 0 ≤ fr ∧ fr ≤ to) : seg F fr.toNat (to - fr).toNat = wtx w ↔ (to - fr = wle w ∧ ∀ j : Nat, (j : Int) < wle w → F (fr + j).toNat = wch (wst w + j).toNat) := by
  have h0 := wst_0 w hw
  rw [h0.2.2.2.2.2.2]
  constructor
  · intro e
    have e1 := congrArg List.length e
    rw [seg_len, seg_len] at e1
    refine ⟨by omega, fun j hj => ?_⟩
    have e2 : (seg F fr.toNat (to - fr).toNat).getD j 0 = (seg wch (wst w).toNat (wle w).toNat).getD j 0 := by rw [e]
    rw [seg_get _ _ _ _ (by omega), seg_get _ _ _ _ (by omega)] at e2
    rw [show (fr + (j : Int)).toNat = fr.toNat + j by omega, show (wst w + (j : Int)).toNat = (wst w).toNat + j by omega]
    exact e2
  · intro ⟨e1, e2⟩
    rw [e1]
    refine seg_congr _ _ _ (fun j hj => ?_)
    rw [show fr.toNat + j = (fr + (j : Int)).toNat by omega, show (wst w).toNat + j = (wst w + (j : Int)).toNat by omega]
    exact e2 j (by omega)
theorem bF_wch {sF : Nat → Int} (hu : u8 sF) (j k : Nat) : bF sF j = wch k ↔ wch k = sF j := by
  have h := wch_rg k
  have := bN_eq (hu j) (k := wch k) (by omega)
  unfold bF
  rw [this]
  omega
/-- what a lexeme is, told in the reference's way -/
def kdR (k ki wh : Int) : Prop := (k = 0 → ki = 0) ∧ (2 ≤ k ∧ k ≤ 5 → ki = 2 ∧ wh = (if k = 2 then 58 else if k = 3 then 59 else if k = 4 then 44 else 62)) ∧ (k = 6 → ki = 1 ∧ wh = -1) ∧ (7 ≤ k → ki = 3 ∧ wh = k - 7)
theorem sgk_b {c : Int} (h : 0 ≤ c ∧ c ≤ 255) : sgk (bN c) = sgk c := by
  have k : ∀ q, 0 ≤ q ∧ q < 128 → (bN c = q ↔ c = q) := fun q hq => bN_eq h hq
  unfold sgk
  simp only [k 58 (by omega), k 59 (by omega), k 44 (by omega), k 62 (by omega)]
theorem wit_01 (v a b : Int) : wit v a b = 0 ∨ wit v a b = 1 := by unfold wit; split <;> omega
theorem skN_m {sF : Nat → Int} (hu : u8 sF) {p n : Int} (h : p < n) : skN (bF sF) (n - p).toNat p = if wit (sF p.toNat) 97 122 = 1 ∨ wit (sF p.toNat) 48 57 = 1 then skN (bF sF) (n - (p + 1)).toNat (p + 1) else p := by
  rw [skN_step _ h]
  unfold bF
  rw [ltr_b (hu _), dgt_b (hu _)]
theorem wst_lt {w : Nat} (hw : w < 9) {a k : Int} (ha : a = wst w) (h : 0 ≤ k ∧ k ≤ wle w) (hz : ¬ wch (a + k).toNat = 0) : k < wle w := by
  have h0 := wst_0 w hw
  by_cases e : k = wle w
  · exact absurd (by rw [ha, e]; exact h0.2.2.2.2.2.1) hz
  · omega
theorem wst_eq {w : Nat} (hw : w < 9) {a k : Int} (ha : a = wst w) (h : 0 ≤ k ∧ k ≤ wle w) (hz : wch (a + k).toNat = 0) : k = wle w := by
  have h0 := wst_0 w hw
  by_cases e : k < wle w
  · refine absurd ?_ (wst_n w hw k.toNat (by omega) (by omega))
    rw [show wst w + ((k.toNat : Nat) : Int) = a + k by omega]
    exact hz
  · omega
