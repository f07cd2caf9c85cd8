theorem iI_shr (x : Int) (hx : -2147483648 ≤ x ∧ x ≤ 2147483647) {k : Int} {s : Nat} (h : k = s) (hs : s = 0 ∨ s = 8 ∨ s = 16 ∨ s = 24) : iI x >>> (iI k &&& 31) = iI (x / 2 ^ s) := by
  have h1 : (iI x).toBitVec.toInt = x := Int32.toInt_ofInt_of_le (by omega) (by omega)
  have h2 : (iI (x / 2 ^ s)).toBitVec.toInt = x / 2 ^ s := by
    refine Int32.toInt_ofInt_of_le ?_ ?_ <;> rcases hs with rfl | rfl | rfl | rfl <;> omega
  have h3 : ((iI k &&& 31).toBitVec.smod 32).toNat = s := by
    subst h
    rcases hs with rfl | rfl | rfl | rfl <;> decide
  apply Int32.toBitVec.inj
  apply BitVec.eq_of_toInt_eq
  rw [Int32.toBitVec_shiftRight, h2]
  show ((iI x).toBitVec.sshiftRight ((iI k &&& 31).toBitVec.smod 32).toNat).toInt = _
  rw [h3, BitVec.toInt_sshiftRight, h1, Int.shiftRight_eq_div_pow]
  rfl
theorem iI_and255 (x : Int) : iI x &&& iI 255 = iI (x % 256) := by
  apply Int32.toBitVec.inj
  apply BitVec.eq_of_toNat_eq
  show ((BitVec.ofInt 32 x) &&& (BitVec.ofInt 32 255)).toNat = (BitVec.ofInt 32 (x % 256)).toNat
  rw [BitVec.toNat_and, BitVec.toNat_ofInt, BitVec.toNat_ofInt, BitVec.toNat_ofInt]
  rw [show ((255 : Int) % ((2 ^ 32 : Nat) : Int)).toNat = 2 ^ 8 - 1 by decide, Nat.and_two_pow_sub_one_eq_mod]
  omega
/-- four bytes of a number, the highest first -/
def b4 (x : Int) : List Int := [x / 2 ^ 24 % 256, x / 2 ^ 16 % 256, x / 2 ^ 8 % 256, x / 2 ^ 0 % 256]
theorem wI16 (F : Nat → Int) (p : Int) (x0 x1 x2 x3 x4 x5 x6 x7 x8 x9 x10 x11 x12 x13 x14 x15 : Int) : wI F p [x0, x1, x2, x3, x4, x5, x6, x7, x8, x9, x10, x11, x12, x13, x14, x15] = uZ (uZ (uZ (uZ (uZ (uZ (uZ (uZ (uZ (uZ (uZ (uZ (uZ (uZ (uZ (uZ F (p + 0).toNat x0) (p + 1).toNat x1) (p + 2).toNat x2) (p + 3).toNat x3) (p + 4).toNat x4) (p + 5).toNat x5) (p + 6).toNat x6) (p + 7).toNat x7) (p + 8).toNat x8) (p + 9).toNat x9) (p + 10).toNat x10) (p + 11).toNat x11) (p + 12).toNat x12) (p + 13).toNat x13) (p + 14).toNat x14) (p + 15).toNat x15 := by
  simp only [wI, Int.add_assoc, Int.reduceAdd, Int.add_zero]
