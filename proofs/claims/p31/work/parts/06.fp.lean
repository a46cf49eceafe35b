/-! floats: no result that is used is a NaN (magnitudes by exponent, K * 2^23) -/
def fK (K : Nat) (x : UInt32) : Prop := x.toNat % 2 ^ 31 < K * 2 ^ 23
theorem fK.up {K L : Nat} {x : UInt32} (h : fK K x) (hKL : K ≤ L) : fK L x := Nat.lt_of_lt_of_le h (Nat.mul_le_mul_right (2 ^ 23) hKL)
theorem fK.n {K : Nat} {x : UInt32} (h : fK K x) (hK : K ≤ 255) : vf_n32 x := by
  have h := h.up hK
  unfold fK at h
  unfold vf_n32
  rw [UInt32.le_iff_toNat_le, FP.Core.mask_toNat32]
  show _ ≤ 2139095040
  omega
theorem fk_i2f (x : Int32) : fK 160 (FP.i2f x) := FP.Core.i2f_mag x
theorem fk_mul {Ka Kb : Nat} {a b : UInt32} (ha : fK Ka a) (hb : fK Kb b) (hKa : Ka ≤ 255) (hKb : Kb ≤ 255) : fK (Ka + Kb - 129 + 3) (FP.fmul a b) := FP.Core.fmul_mag ha hb hKa hKb
theorem fk_div {K L : Nat} {a b : UInt32} (ha : fK K a) (hb : L * 2 ^ 23 ≤ b.toNat % 2 ^ 31) (hb2 : fK 255 b) (hK : K ≤ 255) (hL : 1 ≤ L) : fK (K + (149 - 23 - 1) - L + 3) (FP.fdiv a b) := FP.Core.fdiv_mag ha hb hb2 hK hL
theorem fk_divi {K : Nat} {a : UInt32} {y : Int32} (ha : fK K a) (hK : K ≤ 255) (hy : ¬ y = 0) (hK2 : 2 ≤ K := by decide) : fK (K + 1) (FP.fdiv a (FP.i2f y)) := by
  have hb := FP.Core.i2f_big (FP.Core.int32_ne hy)
  exact (fk_div (L := 127) ha hb.1 hb.2 hK (by decide)).up (by omega)
theorem fk_sub {K : Nat} {a b : UInt32} (ha : fK K a) (hb : fK K b) (hK : K ≤ 255) : fK (K + 2) (FP.fsub a b) := FP.Core.fsub_mag ha hb hK
theorem fk_100 : 133 * 2 ^ 23 ≤ (1120403456 : UInt32).toNat % 2 ^ 31 ∧ fK 255 1120403456 := by unfold fK; decide
theorem fk_365 : 135 * 2 ^ 23 ≤ (1136033792 : UInt32).toNat % 2 ^ 31 ∧ fK 255 1136033792 := by unfold fK; decide
theorem fk_2 : 128 * 2 ^ 23 ≤ (1073741824 : UInt32).toNat % 2 ^ 31 ∧ fK 255 1073741824 := by unfold fK; decide
theorem fk_one : fK 161 FP.fconst1 := by unfold fK; decide
theorem fk_zero : fK 1 FP.fconst0 := by unfold fK; decide
theorem fk_half : fK 161 1056964608 := by unfold fK; decide
theorem fk_1e9 : fK 157 1315859240 := by unfold fK; decide
theorem fk_1e6 : fK 147 1232348160 := by unfold fK; decide
theorem z_ne0 {x : Int32} (h : (0 : Int32) < x) : ¬ x = 0 := by
  intro h0
  rw [h0] at h
  exact absurd h (by decide)
theorem z_ne1 {x : Int32} (h : ¬ x ≤ 0) : ¬ x = 0 := by
  intro h0
  rw [h0] at h
  exact absurd (by decide) h
