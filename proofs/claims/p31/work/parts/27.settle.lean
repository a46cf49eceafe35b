/-! interest, rate, settlement -/
theorem n_one : FP.Core.one32 = 2 ^ 149 := rfl
theorem b_interest {fb g : Nat → Int32} {dep d b r : Nat} (hs : ¬ g 2 = 3) (h0 : g 0 = nI dep) (hd : dep ≤ 1000000) (hf : fb 0 = nI d) (hd2 : d ≤ 99999) (hb : g 1 = nI b) (hbd : b ≤ d) (hr : uP (Int32.toUInt32 (fb 2)) r) (hr2 : r ≤ 2 ^ 147) : ∃ m, m ≤ 2 ^ 27 ∧ s_X1_interestOf fb g = nI m := by
  unfold s_X1_interestOf
  rw [if_neg hs, h0, hf, hb, nI_sub hbd]
  have h1 : uP (FP.i2f (nI dep)) (dep * FP.Core.one32) := u_i2f (by omega)
  have h2 : uP (FP.i2f (nI (d - b))) ((d - b) * FP.Core.one32) := u_i2f (by omega)
  obtain ⟨x, hx, hx1⟩ := u_mul h1 hr (uV_c (c := 1) (k := 167) (by decide) (by decide)) (by
    calc dep * FP.Core.one32 * r = dep * r * FP.Core.one32 := by ac_rfl
      _ ≤ 2 ^ 20 * 2 ^ 147 * FP.Core.one32 := Nat.mul_le_mul_right _ (Nat.mul_le_mul (by omega) hr2)
      _ = 1 * 2 ^ 167 * FP.Core.one32 := by rw [← Nat.pow_add])
  obtain ⟨y, hy, hy1⟩ := u_mul hx h2 (uV_c (c := 1) (k := 184) (by decide) (by decide)) (by
    calc x * ((d - b) * FP.Core.one32) = x * (d - b) * FP.Core.one32 := by ac_rfl
      _ ≤ 1 * 2 ^ 167 * 2 ^ 17 * FP.Core.one32 := Nat.mul_le_mul_right _ (Nat.mul_le_mul hx1 (by omega))
      _ = 1 * 2 ^ 184 * FP.Core.one32 := by rw [Nat.mul_assoc 1, ← Nat.pow_add])
  obtain ⟨z, hz, hz1⟩ := u_div hy u_365 (Nat.mul_pos (by decide) FP.Core.one32_pos) (uV_c (c := 1) (k := 176) (by decide) (by decide)) (by
    calc y * FP.Core.one32 ≤ (1 * 2 ^ 184) * FP.Core.one32 := Nat.mul_le_mul_right _ hy1
      _ = (2 ^ 176 * 2 ^ 8) * FP.Core.one32 := by rw [← Nat.pow_add, Nat.one_mul]
      _ ≤ (2 ^ 176 * 365) * FP.Core.one32 := Nat.mul_le_mul_right _ (Nat.mul_le_mul_left _ (by decide))
      _ = 1 * 2 ^ 176 * (365 * FP.Core.one32) := by ac_rfl)
  refine u_f2i hz (by decide) (Nat.lt_of_le_of_lt hz1 ?_)
  rw [n_one, Nat.one_mul, show (2 : Nat) ^ 176 = 2 ^ 27 * 2 ^ 149 by rw [← Nat.pow_add]]
  exact Nat.mul_lt_mul_of_pos_right (by decide) (by decide)
theorem s_sg_lt (b : Nat) : s_sg b < 2 ^ 24 := by
  unfold s_sg
  split <;> omega
theorem b_flo {b : Nat} : ∀ {j : Nat}, j ≤ 149 → ∃ r, uP (s_flo b j) r ∧ r ≤ (2 ^ 24 - 1) * 2 ^ (149 - j)
  | 0, _ => ⟨_, u_i2f (Nat.le_of_lt (s_sg_lt b)), by rw [n_one]; exact Nat.mul_le_mul_right _ (by have := s_sg_lt b; omega)⟩
  | j + 1, h => by
    obtain ⟨r, hr, hr1⟩ := b_flo (b := b) (j := j) (by omega)
    refine u_div hr u_c2 (Nat.mul_pos (by decide) FP.Core.one32_pos) (uV_c (c := 2 ^ 24 - 1) (k := 149 - (j + 1)) (by decide) (by omega)) ?_
    have e : (2 : Nat) ^ (149 - j) = 2 ^ (149 - (j + 1)) * 2 := by rw [← Nat.pow_succ]; congr 1; omega
    rw [e] at hr1
    calc r * FP.Core.one32 ≤ (2 ^ 24 - 1) * (2 ^ (149 - (j + 1)) * 2) * FP.Core.one32 := Nat.mul_le_mul_right _ hr1
      _ = (2 ^ 24 - 1) * 2 ^ (149 - (j + 1)) * (2 * FP.Core.one32) := by ac_rfl
/-- a rate -/
def rI (x : UInt32) : Prop := fK 125 x ∧ ∃ r, uP x r ∧ r ≤ 2 ^ 147
theorem s_ex_ge (b : Nat) : 1 ≤ s_ex b := by
  unfold s_ex
  by_cases h : nI (b / 2 ^ 23) ≤ 0
  · rw [if_pos h]; omega
  · rw [if_neg h]
    rcases Nat.eq_zero_or_pos (b / 2 ^ 23) with h0 | h0
    · rw [h0] at h; exact absurd (by decide) h
    · exact h0
theorem b_rate {x : Int32} {b : Nat} (hx : x = nI b) (hb : b ≤ 1045220557) : rI (s_rate x) := by
  have e : s_rate x = s_flo b (150 - s_ex b) := by unfold s_rate; rw [hx, nI_clamp (by omega)]
  have h1 := s_ex_le hb
  have h2 := s_ex_ge b
  obtain ⟨r, hr, hr1⟩ := b_flo (b := b) (j := 150 - s_ex b) (by omega)
  rw [e]
  have h3 : (2 : Nat) ^ (149 - (150 - s_ex b)) ≤ 2 ^ 123 := Nat.pow_le_pow_right (by decide) (by omega)
  have h4 : r ≤ (2 ^ 24 - 1) * 2 ^ 123 := Nat.le_trans hr1 (Nat.mul_le_mul_left _ h3)
  have h5 : (2 ^ 24 - 1) * 2 ^ 123 < (2 : Nat) ^ 147 := by decide
  refine ⟨?_, r, hr, by omega⟩
  have hz := FP.Core.zmag_bits32 hr.nn
  obtain ⟨s, c, q, a1, a2, a3, a4⟩ := hr.ex
  rw [a1, a3] at hz
  unfold fK
  refine FP.Core.unitsOf_lt_iff (f := FP.Core.b32).mp ?_
  rw [← hz, ← FP.Core.tails_b32, FP.Core.unitsOf_start (by decide), FP.Core.tails_b32]
  exact Nat.lt_of_le_of_lt h4 (by decide)
/-- a settlement row: what is left, what is owed -/
def stI (f : Nat → Int32) (L B D : Nat) : Prop := f 1 + f 2 + f 3 = f 0 ∧ ∃ l db, f 1 = nI l ∧ f 5 = nI db ∧ l ≤ L ∧ db ≤ B ∧ D ≤ db ∧ (l = 0 ∨ db = 0)
theorem i_sum (a m b c : Int32) : (a - m) + (b + m) + c = a + b + c := by
  rw [show (a - m) + (b + m) = a + b from by rw [Int32.add_comm b m, ← Int32.add_assoc, Int32.sub_add_cancel]]
theorem st_pay {f : Nat → Int32} {L B D x X : Nat} {a : Int32} (h : stI f L B D) (ha : a = nI x) (hx : x ≤ X) (hL : L < 2 ^ 31) (hB : B + X < 2 ^ 31) : stI (w_X4_payLandlord f a) L (B + X) D ∧ w_X4_payLandlord f a 0 = f 0 ∧ w_X4_payLandlord f a 3 = f 3 ∧ w_X4_payLandlord f a 4 = f 4 := by
  obtain ⟨h1, l, db, e1, e2, h2, h3, h4, h5⟩ := h
  refine ⟨⟨?_, ?_⟩, rfl, rfl, rfl⟩
  · show (f 1 - (if f 1 < a then f 1 else a)) + (f 2 + s_X4_take f a) + f 3 = f 0
    rw [← h1]
    exact i_sum _ _ _ _
  · show ∃ l db, f 1 - (if f 1 < a then f 1 else a) = nI l ∧ f 5 + (a - (if f 1 < a then f 1 else a)) = nI db ∧ _
    rw [e1, e2, ha]
    by_cases hlt : nI l < nI x
    · have hlx : l < x := (nI_ltI (by omega) (by omega)).mp hlt
      rw [if_pos hlt, nI_sub (Nat.le_refl l), nI_sub (Nat.le_of_lt hlx), nI_add]
      exact ⟨l - l, db + (x - l), rfl, rfl, by omega, by omega, by omega, by omega⟩
    · have hlx : x ≤ l := Nat.not_lt.mp fun q => hlt (nI_lt q (by omega))
      rw [if_neg hlt, nI_sub hlx, nI_sub (Nat.le_refl x), nI_add]
      exact ⟨l - x, db + (x - x), rfl, rfl, by omega, by omega, by omega, by omega⟩
theorem st_fee {pot fee lf : Nat} (hp : pot < 2 ^ 31) (hf : fee ≤ 50000) (hl : lf ≤ fee) : ∃ D tf, stI (w_X4_takeFee (w_X4_start (nI pot)) (nI lf) (nI fee - nI lf)) pot 50000 D ∧ (w_X4_takeFee (w_X4_start (nI pot)) (nI lf) (nI fee - nI lf)) 0 = nI pot ∧ (w_X4_takeFee (w_X4_start (nI pot)) (nI lf) (nI fee - nI lf)) 3 = nI tf ∧ (w_X4_takeFee (w_X4_start (nI pot)) (nI lf) (nI fee - nI lf)) 4 = nI lf ∧ tf + lf ≤ fee ∧ (0 < D ∨ tf + lf = fee) := by
  rw [nI_sub hl]
  by_cases hlt : nI pot < nI (fee - lf)
  · have h := (nI_ltI (by omega) (by omega)).mp hlt
    refine ⟨fee - lf - pot, pot, ⟨?_, 0, fee - lf - pot, ?_, ?_, by omega, by omega, by omega, by omega⟩, rfl, ?_, rfl, by omega, by omega⟩
    · show (nI pot - (if nI pot < nI (fee - lf) then nI pot else nI (fee - lf))) + 0 + (if nI pot < nI (fee - lf) then nI pot else nI (fee - lf)) = nI pot
      rw [Int32.add_zero, Int32.sub_add_cancel]
    · show nI pot - (if nI pot < nI (fee - lf) then nI pot else nI (fee - lf)) = nI 0
      rw [if_pos hlt, nI_sub (Nat.le_refl _), Nat.sub_self]
    · show 0 + (nI (fee - lf) - (if nI pot < nI (fee - lf) then nI pot else nI (fee - lf))) = _
      rw [if_pos hlt, nI_sub (Nat.le_of_lt h), Int32.zero_add]
    · show (if nI pot < nI (fee - lf) then nI pot else nI (fee - lf)) = _
      rw [if_pos hlt]
  · have h : fee - lf ≤ pot := Nat.not_lt.mp fun q => hlt (nI_lt q (by omega))
    refine ⟨0, fee - lf, ⟨?_, pot - (fee - lf), 0, ?_, ?_, by omega, by omega, by omega, by omega⟩, rfl, ?_, rfl, by omega, by omega⟩
    · show (nI pot - (if nI pot < nI (fee - lf) then nI pot else nI (fee - lf))) + 0 + (if nI pot < nI (fee - lf) then nI pot else nI (fee - lf)) = nI pot
      rw [Int32.add_zero, Int32.sub_add_cancel]
    · show nI pot - (if nI pot < nI (fee - lf) then nI pot else nI (fee - lf)) = _
      rw [if_neg hlt, nI_sub h]
    · show 0 + (nI (fee - lf) - (if nI pot < nI (fee - lf) then nI pot else nI (fee - lf))) = _
      rw [if_neg hlt, nI_sub (Nat.le_refl _), Nat.sub_self, Int32.zero_add]
    · show (if nI pot < nI (fee - lf) then nI pot else nI (fee - lf)) = _
      rw [if_neg hlt]
theorem st_start {pot : Nat} : stI (w_X4_start (nI pot)) pot 50000 0 := by
  refine ⟨?_, pot, 0, rfl, rfl, Nat.le_refl _, by omega, Nat.le_refl _, Or.inr rfl⟩
  show nI pot + 0 + 0 = nI pot
  rw [Int32.add_zero, Int32.add_zero]
