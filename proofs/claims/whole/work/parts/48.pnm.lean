def wtZ (w : Int) : List Int := wtx w.toNat
def maZ (ma : Nat → Int) (s : Int) : Int := ma s.toNat
theorem maZ_e (ma : Nat → Int) : maZ ma 0 = ma 0 ∧ maZ ma 1 = ma 1 ∧ maZ ma 2 = ma 2 := ⟨rfl, rfl, rfl⟩
theorem bas_e : bas 0 = 0 ∧ bas 1 = 16 ∧ bas 2 = 24 := by decide
/-- the reference's rows hold the names 'nm', by slots -/
def NmM (sF nf ng no ma : Nat → Int) (nm : Int → List Int) : Prop := ∀ s n : Int, (s = 0 ∨ s = 1 ∨ s = 2) → 0 ≤ n ∧ n < maZ ma s → 0 ≤ no (16 * s + n).toNat ∧ no (16 * s + n).toNat < 40 ∧ 0 ≤ nf (no (16 * s + n).toNat).toNat ∧ nf (no (16 * s + n).toNat).toNat < ng (no (16 * s + n).toNat).toNat ∧ ng (no (16 * s + n).toNat).toNat ≤ 4096 ∧ ng (no (16 * s + n).toNat).toNat - nf (no (16 * s + n).toNat).toNat ≤ 12 ∧ seg sF (nf (no (16 * s + n).toNat).toNat).toNat (ng (no (16 * s + n).toNat).toNat - nf (no (16 * s + n).toNat).toNat).toNat = nm (bas s + n)
theorem NmM_len {sF nf ng no ma : Nat → Int} {nm : Int → List Int} (h : NmM sF nf ng no ma nm) {s n sl : Int} (hs : s = 0 ∨ s = 1 ∨ s = 2) (hn : 0 ≤ n ∧ n < maZ ma s) (hsl : sl = bas s + n) : ((nm sl).length : Int) = ng (no (16 * s + n).toNat).toNat - nf (no (16 * s + n).toNat).toNat ∧ 1 ≤ (nm sl).length ∧ (nm sl).length ≤ 12 := by
  obtain ⟨h1, h2, h3, h4, h5, h6, h7⟩ := h s n hs hn
  rw [hsl, ← h7, seg_len]
  omega
/-- all goals are states, all actions words or messages -/
def gok (ma le ac : Nat → Int) : Prop := (∀ j, -2 ≤ le j ∧ (le j < 0 ∨ le j < ma 0)) ∧ (∀ j, -1 ≤ ac j ∧ (ac j < 0 ∨ ac j < ma 2 ∨ ac j = 100 ∨ ac j = 101))
theorem gok_gol {ma le ac : Nat → Int} (h : gok ma le ac) (hc : cnt ma) : gol le := fun j => by
  have := h.1 j
  unfold cnt at hc
  omega
theorem gok_act {ma le ac : Nat → Int} (h : gok ma le ac) (hc : cnt ma) : act ac := fun j => by
  have := h.2 j
  unfold cnt at hc
  omega
theorem wtZ_seg {w : Int} (h : 0 ≤ w ∧ w < 9) : wtZ w = seg wch (wst w.toNat).toNat (wst w.toNat + wle w.toNat - wst w.toNat).toNat := by
  have h0 := wst_0 w.toNat (by omega)
  unfold wtZ
  rw [h0.2.2.2.2.2.2, show wst w.toNat + wle w.toNat - wst w.toNat = wle w.toNat by omega]
theorem wl_t : wl "state " = wtZ 0 ++ [32] ∧ wl "ask " = wtZ 1 ++ [32] ∧ wl "message " = wtZ 2 ++ [32] ∧ wl "on " = wtZ 3 ++ [32] ∧ wl "never " = wtZ 4 ++ [32] ∧ wl "first " = wtZ 5 ++ [32] ∧ wl "send " = wtZ 6 ++ [32] ∧ wl "take" = wtZ 7 ∧ wl "keep" = wtZ 8 ∧ wl ", " = [44] ++ [32] ∧ wl " " = [32] ∧ wl " > " = [32] ++ ([62] ++ [32]) := by decide +kernel
theorem wtZ_len : ∀ w : Nat, w < 9 → (wtZ (w : Int)).length ≤ 7 := by decide +kernel
theorem maZ_rg {ma : Nat → Int} (h : cnt ma) {s : Int} (hs : s = 0 ∨ s = 1 ∨ s = 2) : 0 ≤ maZ ma s ∧ maZ ma s ≤ 16 := by
  have e := maZ_e ma
  unfold cnt at h
  rcases hs with rfl | rfl | rfl <;> omega
/-- one sort's names, printed -/
def pnZ (nm : Int → List Int) (ma : Nat → Int) (s : Int) : List Int := if maZ ma s = 0 then [] else wtZ s ++ ([32] ++ (jnL nm (bas s) (maZ ma s).toNat 0 ++ [59, 10]))
theorem pnZ_e (nm : Int → List Int) (ma : Nat → Int) : pnL nm "state " 0 (ma 0) = pnZ nm ma 0 ∧ pnL nm "ask " 16 (ma 1) = pnZ nm ma 1 ∧ pnL nm "message " 24 (ma 2) = pnZ nm ma 2 := by
  obtain ⟨w1, w2, w3, w4⟩ := wl_t
  unfold pnL pnZ
  rw [w1, w2, w3, (maZ_e ma).1, (maZ_e ma).2.1, (maZ_e ma).2.2, bas_e.1, bas_e.2.1, bas_e.2.2, List.append_assoc, List.append_assoc, List.append_assoc]
  exact ⟨rfl, rfl, rfl⟩
