/-! the reference: its rows hold bytes from 0 to 255, the class's the same as signed bytes -/
def bF (F : Nat → Int) : Nat → Int := fun j => bN (F j)
def u8 (F : Nat → Int) : Prop := ∀ j, 0 ≤ F j ∧ F j ≤ 255
def wit (v a b : Int) : Int := if a ≤ v ∧ v ≤ b then 1 else 0
def iwh (c : Int) : Int := if c = 9 ∨ c = 10 ∨ c = 13 ∨ c = 32 then 1 else 0
theorem bN_u8 {c : Int} (h : 0 ≤ c ∧ c ≤ 255) : bN c = if c < 128 then c else c - 256 := by
  unfold bN Int.bmod
  have e : c % ((256 : Nat) : Int) = c := Int.emod_eq_of_lt (by omega) (by omega)
  simp only [e]
  (repeat' split) <;> omega
theorem bN_eq {c k : Int} (h : 0 ≤ c ∧ c ≤ 255) (hk : 0 ≤ k ∧ k < 128) : bN c = k ↔ c = k := by
  rw [bN_u8 h]
  split <;> omega
theorem bN_inj {a b : Int} (ha : 0 ≤ a ∧ a ≤ 255) (hb : 0 ≤ b ∧ b ≤ 255) : bN a = bN b ↔ a = b := by
  rw [bN_u8 ha, bN_u8 hb]
  (repeat' split) <;> omega
theorem ltr_b {c : Int} (h : 0 ≤ c ∧ c ≤ 255) : ltr (bN c) = wit c 97 122 := by
  rw [bN_u8 h]
  unfold ltr wit
  (repeat' split) <;> omega
theorem dgt_b {c : Int} (h : 0 ≤ c ∧ c ≤ 255) : dgt (bN c) = wit c 48 57 := by
  rw [bN_u8 h]
  unfold dgt wit
  (repeat' split) <;> omega
/-- the words' letters, each word with a 0 behind it -/
def wcL : List Int := [115, 116, 97, 116, 101, 0, 97, 115, 107, 0, 109, 101, 115, 115, 97, 103, 101, 0, 111, 110, 0, 110, 101, 118, 101, 114, 0, 102, 105, 114, 115, 116, 0, 115, 101, 110, 100, 0, 116, 97, 107, 101, 0, 107, 101, 101, 112, 0]
def wch (j : Nat) : Int := wcL.getD j 0
def wst (w : Nat) : Int := [0, 6, 10, 18, 21, 27, 33, 38, 43, 48].getD w 0
def wle (w : Nat) : Int := [5, 3, 7, 2, 5, 5, 4, 4, 4, 0].getD w 0
def wtx (w : Nat) : List Int := [wl "state", wl "ask", wl "message", wl "on", wl "never", wl "first", wl "send", wl "take", wl "keep"].getD w []
theorem wch_rg0 : ∀ j, j < 48 → 0 ≤ wch j ∧ wch j ≤ 127 := by decide +kernel
theorem wch_rg (j : Nat) : 0 ≤ wch j ∧ wch j ≤ 127 := by
  by_cases h : j < 48
  · exact wch_rg0 j h
  · unfold wch
    rw [List.getD_eq_getElem?_getD, List.getElem?_eq_none (by show 48 ≤ j; omega)]
    exact ⟨by decide, by decide⟩
theorem wst_0 : ∀ w, w < 9 → 0 ≤ wst w ∧ 2 ≤ wle w ∧ wle w ≤ 7 ∧ wst (w + 1) = wst w + wle w + 1 ∧ wst w + wle w ≤ 47 ∧ wch (wst w + wle w).toNat = 0 ∧ wtx w = seg wch (wst w).toNat (wle w).toNat := by decide +kernel
theorem wst_n : ∀ w, w < 9 → ∀ j : Nat, j < 7 → (j : Int) < wle w → ¬ wch (wst w + j).toNat = 0 := by decide +kernel
/-- which word a name is -/
def wrN (w : List Int) : Int := if nmk w = 6 then -1 else nmk w - 7
theorem nmk_wtx (W : List Int) : nmk W = if W = wtx 0 then 7 else if W = wtx 1 then 8 else if W = wtx 2 then 9 else if W = wtx 3 then 10 else if W = wtx 4 then 11 else if W = wtx 5 then 12 else if W = wtx 6 then 13 else if W = wtx 7 then 14 else if W = wtx 8 then 15 else 6 := rfl
theorem wtx_inj : ∀ a, a < 9 → ∀ b, b < 9 → wtx a = wtx b → a = b := by decide +kernel
theorem wrN_hit {W : List Int} {w : Nat} (hw : w < 9) (h : W = wtx w) : wrN W = w := by
  unfold wrN
  rw [nmk_wtx]
  have key : ∀ v, v < 9 → (W = wtx v ↔ w = v) := fun v hv => ⟨fun e => wtx_inj w hw v hv (h.symm.trans e), fun e => by rw [h, e]⟩
  simp only [key 0 (by omega), key 1 (by omega), key 2 (by omega), key 3 (by omega), key 4 (by omega), key 5 (by omega), key 6 (by omega), key 7 (by omega), key 8 (by omega)]
  (repeat' split) <;> omega
theorem wrN_no {W : List Int} (h : ∀ v, v < 9 → ¬ W = wtx v) : wrN W = -1 := by
  unfold wrN
  rw [nmk_wtx, if_neg (h 0 (by omega)), if_neg (h 1 (by omega)), if_neg (h 2 (by omega)), if_neg (h 3 (by omega)), if_neg (h 4 (by omega)), if_neg (h 5 (by omega)), if_neg (h 6 (by omega)), if_neg (h 7 (by omega)), if_neg (h 8 (by omega))]
  rfl
section WHT
variable {sF : Nat → Int} {n t : Int}
theorem skW_end {F : Nat → Int} (c : Int) (h : n ≤ t) : skW F (n - t).toNat c t = t := by
  rw [show (n - t).toNat = 0 by omega]
  rfl
theorem skW_stop (hu : u8 sF) (h : t < n) (h1 : iwh (sF t.toNat) = 0) (h2 : ¬ sF t.toNat = 35) : skW (bF sF) (n - t).toNat 0 t = t := by
  have hc := hu t.toNat
  have k : ∀ q, 0 ≤ q ∧ q < 128 → (bF sF t.toNat = q ↔ sF t.toNat = q) := fun q hq => bN_eq hc hq
  unfold iwh at h1
  split at h1
  · omega
  · rw [skW_step _ _ h, if_neg (by rw [k 10 (by omega)]; omega), if_neg (by rw [k 35 (by omega)]; omega), if_pos ⟨rfl, by rw [ne_eq, k 9 (by omega)]; omega, by rw [ne_eq, k 13 (by omega)]; omega, by rw [ne_eq, k 32 (by omega)]; omega⟩]
theorem skW_wh (hu : u8 sF) (h : t < n) (h1 : ¬ iwh (sF t.toNat) = 0) : skW (bF sF) (n - t).toNat 0 t = skW (bF sF) (n - (t + 1)).toNat 0 (t + 1) := by
  have hc := hu t.toNat
  have k : ∀ q, 0 ≤ q ∧ q < 128 → (bF sF t.toNat = q ↔ sF t.toNat = q) := fun q hq => bN_eq hc hq
  unfold iwh at h1
  split at h1
  · rename_i hh
    rw [skW_step _ _ h]
    by_cases e : sF t.toNat = 10
    · rw [if_pos ((k 10 (by omega)).mpr e)]
    · rw [if_neg (by rw [k 10 (by omega)]; omega), if_neg (by rw [k 35 (by omega)]; omega), if_neg]
      rw [ne_eq, k 9 (by omega), ne_eq, k 13 (by omega), ne_eq, k 32 (by omega)]
      omega
  · omega
theorem skW_hash (hu : u8 sF) (h : t < n) (h1 : sF t.toNat = 35) : skW (bF sF) (n - t).toNat 0 t = skW (bF sF) (n - t).toNat 1 t := by
  have hc := hu t.toNat
  have k : ∀ q, 0 ≤ q ∧ q < 128 → (bF sF t.toNat = q ↔ sF t.toNat = q) := fun q hq => bN_eq hc hq
  rw [skW_step _ _ h, skW_step _ _ h, if_neg (by rw [k 10 (by omega)]; omega), if_pos (by rw [k 35 (by omega)]; omega), if_neg (by rw [k 10 (by omega)]; omega), if_pos (by rw [k 35 (by omega)]; omega)]
theorem skW_cm (hu : u8 sF) (h : t < n) (h1 : ¬ sF t.toNat = 10) : skW (bF sF) (n - t).toNat 1 t = skW (bF sF) (n - (t + 1)).toNat 1 (t + 1) := by
  have hc := hu t.toNat
  have k : ∀ q, 0 ≤ q ∧ q < 128 → (bF sF t.toNat = q ↔ sF t.toNat = q) := fun q hq => bN_eq hc hq
  rw [skW_step _ _ h, if_neg (by rw [k 10 (by omega)]; omega)]
  split
  · rfl
  · rw [if_neg (fun z => absurd z.1 (by decide))]
theorem skW_nl (hu : u8 sF) (h : t < n) (h1 : sF t.toNat = 10) : skW (bF sF) (n - t).toNat 1 t = skW (bF sF) (n - t).toNat 0 t := by
  have hc := hu t.toNat
  have k : ∀ q, 0 ≤ q ∧ q < 128 → (bF sF t.toNat = q ↔ sF t.toNat = q) := fun q hq => bN_eq hc hq
  rw [skW_step _ _ h, skW_step _ _ h, if_pos (by rw [k 10 (by omega)]; omega), if_pos (by rw [k 10 (by omega)]; omega)]
end WHT
