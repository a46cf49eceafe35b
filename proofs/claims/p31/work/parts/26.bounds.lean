/-! bounds of what is computed -/
def nb (x : Int32) (B : Nat) : Prop := ∃ n, n ≤ B ∧ x = nI n
theorem one_H : FP.Core.one32 = 2 * 2 ^ 148 := by unfold FP.Core.one32; decide +kernel
theorem nI_sub {a b : Nat} (h : b ≤ a) : nI a - nI b = nI (a - b) := by
  have h1 : nI (a - b) + nI b = nI a := by rw [nI_add, Nat.sub_add_cancel h]
  rw [← h1, Int32.add_sub_cancel]
theorem nI_mul (a b : Nat) : nI a * nI b = nI (a * b) := (Int32.ofNat_mul a b).symm
theorem nI_neg {a b : Nat} (h : a < b) (hb : b < 2 ^ 30) : nI a - nI b < 0 := by
  rw [Int32.lt_iff_toInt_lt, Int32.toInt_sub, nI_toInt (by omega), nI_toInt (by omega)]
  show Int.bmod _ _ < 0
  rw [Int.bmod_eq_of_le (by omega) (by omega)]
  omega
theorem n_sub0 {a b : Nat} (ha : a < 2 ^ 30) (hb : b < 2 ^ 30) : (if nI a - nI b < 0 then 0 else nI a - nI b) = nI (a - b) := by
  by_cases h : b ≤ a
  · rw [nI_sub h, if_neg (nI_pos (by omega))]
  · rw [if_pos (nI_neg (by omega) hb), show a - b = 0 by omega]
    rfl
theorem b_fair {f : Nat → Int32} {a : Int32} {n l c : Nat} (ha : a = nI n) (hn : n ≤ 200000) (hl : f 2 = nI l) (hl2 : l ≤ 9999) (hc : f 4 = nI c) (hc2 : c ≤ 100) : ∃ k, k ≤ c ∧ s_X3_fairAfter f a = nI k := by
  unfold s_X3_fairAfter
  by_cases h : 0 < f 2
  · rw [if_pos h]
    have hl0 : 0 < l := by
      rcases Nat.eq_zero_or_pos l with h0 | h0
      · rw [hl, h0] at h; exact absurd h (by decide)
      · exact h0
    have e : (100 : Int32) * a / f 2 = nI (100 * n / l) := by
      rw [ha, hl, show (100 : Int32) = nI 100 from rfl, nI_mul, pk_div (by omega) hl0 (by omega)]
    have hq : 100 * n / l ≤ 100 * n := Nat.div_le_self _ _
    rw [e, hc, n_sub0 (by omega) (by omega)]
    exact ⟨_, Nat.sub_le _ _, rfl⟩
  · rw [if_neg h]
    exact ⟨0, Nat.zero_le _, rfl⟩
theorem b_damage {f : Nat → Int32} {a b : Int32} {n l c m : Nat} (ha : a = nI n) (hn : n ≤ 200000) (hl : f 2 = nI l) (hl2 : l ≤ 9999) (hc : f 4 = nI c) (hc2 : c ≤ 100) (hb : b = nI m) (hm : m ≤ 100) : ∃ k, k ≤ 100 ∧ s_X3_damageAfter f a b = nI k := by
  obtain ⟨k, hk, e⟩ := b_fair ha hn hl hl2 hc hc2
  unfold s_X3_damageAfter
  rw [e, hb, n_sub0 (by omega) (by omega)]
  exact ⟨_, by omega, rfl⟩
theorem nI_lt0 {l : Nat} (hl : l < 2 ^ 31) (h : (0 : Int32) < nI l) : 0 < l := by
  rcases Nat.eq_zero_or_pos l with h0 | h0
  · subst h0; exact absurd h (by decide)
  · exact h0
theorem b_rest {f : Nat → Int32} {a : Int32} {n l g : Nat} (ha : a = nI n) (hn : n ≤ 200000) (hl : f 2 = nI l) (hl2 : l ≤ 9999) (hg : f 3 = nI g) (hg2 : g ≤ 9999) : ∃ r, uP (s_X3_restAfter f a) r ∧ r ≤ FP.Core.one32 := by
  unfold s_X3_restAfter
  by_cases h : 0 < f 2
  · rw [if_pos h]
    have hl0 : 0 < l := nI_lt0 (by omega) (hl ▸ h)
    have h1 : uP (FP.i2f (s_X3_ageAfter f a)) ((g + n) * FP.Core.one32) := by
      unfold s_X3_ageAfter
      rw [hg, ha, nI_add]
      exact u_i2f (by omega)
    have h2 : uP (FP.i2f (f 2)) (l * FP.Core.one32) := by rw [hl]; exact u_i2f (by omega)
    have hv : 0 < l * FP.Core.one32 := Nat.mul_pos hl0 FP.Core.one32_pos
    obtain ⟨r, hr, _⟩ := u_div h1 h2 hv h1.v (by
      have : FP.Core.one32 ≤ l * FP.Core.one32 := Nat.le_mul_of_pos_left _ hl0
      exact Nat.mul_le_mul_left _ this)
    obtain ⟨s1, s2⟩ := u_sub1 hr (fk_divi (fk_i2f _) (by decide) (z_ne0 h))
    by_cases hc : 0 ≤ Op.cmpValue (FP.fcmp (FP.fsub FP.fconst1 (FP.fdiv (FP.i2f (s_X3_ageAfter f a)) (FP.i2f (f 2)))) FP.fconst0) CmpOp.g
    · rw [if_pos hc]
      generalize FP.fsub FP.fconst1 (FP.fdiv (FP.i2f (s_X3_ageAfter f a)) (FP.i2f (f 2))) = y at s1 s2 hc ⊢
      have hy : FP.Core.val32 y ≠ .nan := by
        obtain ⟨s, c, q, e⟩ := s1
        rw [e]
        exact FP.Core.Datum.noConfusion
      have hz : 0 ≤ FP.Core.zval FP.Core.b32 (FP.Core.val32 y) := by
        refine Int.not_lt.mp fun hlt => ?_
        have h3 : FP.fcmp y FP.fconst0 = some .lt := FP.Core.fcmp_lt.mpr ⟨hy, u_c0.nn, by rw [u_c0.2]; exact hlt⟩
        rw [h3] at hc
        exact absurd hc (by decide)
      refine ⟨(FP.Core.zval FP.Core.b32 (FP.Core.val32 y)).toNat, ⟨s1, ?_⟩, ?_⟩
      · omega
      · omega
    · rw [if_neg hc]
      exact ⟨0, u_c0, Nat.zero_le _⟩
  · rw [if_neg h]
    exact ⟨0, u_c0, Nat.zero_le _⟩
theorem b_due {f : Nat → Int32} {a b : Int32} {n l c m g v : Nat} (ha : a = nI n) (hn : n ≤ 200000) (hl : f 2 = nI l) (hl2 : l ≤ 9999) (hg : f 3 = nI g) (hg2 : g ≤ 9999) (hc : f 4 = nI c) (hc2 : c ≤ 100) (hb : b = nI m) (hm : m ≤ 100) (hv : f 1 = nI v) (hv2 : v ≤ 500000) : ∃ k, k ≤ v ∧ s_X3_dueAfter f a b = nI k := by
  unfold s_X3_dueAfter
  obtain ⟨r, hr, hr1⟩ := b_rest ha hn hl hl2 hg hg2
  obtain ⟨k, hk, ek⟩ := b_damage ha hn hl hl2 hc hc2 hb hm
  have h1 : uP (FP.i2f (f 1)) (v * FP.Core.one32) := by rw [hv]; exact u_i2f (by omega)
  obtain ⟨x, hx, hx1⟩ := u_mul h1 hr h1.v (Nat.mul_le_mul_left _ hr1)
  have h2 : uP (FP.i2f (s_X3_damageAfter f a b)) (k * FP.Core.one32) := by rw [ek]; exact u_i2f (by omega)
  obtain ⟨y, hy, hy1⟩ := u_div h2 u_100 (Nat.mul_pos (by decide) FP.Core.one32_pos) u_onev (by
    rw [Nat.mul_comm FP.Core.one32 (100 * _)]
    exact Nat.mul_le_mul_right _ (Nat.mul_le_mul_right _ hk))
  obtain ⟨z, hz, hz1⟩ := u_mul hx hy h1.v (Nat.mul_le_mul hx1 hy1)
  exact u_f2i hz (by omega) (Nat.lt_of_le_of_lt hz1 (Nat.mul_lt_mul_of_pos_right (by omega) FP.Core.one32_pos))
theorem b_weight {f : Nat → Int32} {p q : Nat} (hp : f 9 = nI p) (hp2 : p ≤ 10) (hq : f 10 = nI q) (hq2 : q ≤ 10) : ∃ w, uP (s_X3_landlordWeight f) w ∧ w ≤ FP.Core.one32 := by
  unfold s_X3_landlordWeight
  by_cases h : f 9 + f 10 ≤ 0
  · rw [if_pos h]
    exact ⟨_, u_half, by rw [one_H]; omega⟩
  · rw [if_neg h]
    have e : f 9 + f 10 = nI (p + q) := by rw [hp, hq, nI_add]
    have h0 : 0 < p + q := by
      rcases Nat.eq_zero_or_pos (p + q) with h0 | h0
      · rw [e, h0] at h; exact absurd (by decide) h
      · exact h0
    rw [e, hp]
    refine u_div (u_i2f (n := p) (by omega)) (u_i2f (n := p + q) (by omega)) (Nat.mul_pos h0 FP.Core.one32_pos) u_onev ?_
    rw [Nat.mul_comm FP.Core.one32 ((p + q) * _)]
    exact Nat.mul_le_mul_right _ (Nat.mul_le_mul_right _ (by omega))
theorem b_award {f : Nat → Int32} {p q d c : Nat} (hp : f 9 = nI p) (hp2 : p ≤ 10) (hq : f 10 = nI q) (hq2 : q ≤ 10) (hd : f 6 = nI d) (hd2 : d ≤ 500000) (hc : f 7 = nI c) (hc2 : c ≤ 500000) : ∃ a, s_X3_award f = nI a ∧ a ≤ c ∧ (d ≤ c → d ≤ a) ∧ (c ≤ d → a = c) ∧ (f 8 = 1 → a = c) := by
  unfold s_X3_award
  by_cases h8 : f 8 = 2
  · rw [if_pos h8]
    by_cases h : f 6 < f 7
    · rw [if_pos h]
      rw [hd, hc] at h ⊢
      have hdc : d < c := (nI_ltI (by omega) (by omega)).mp h
      obtain ⟨w, hw, hw1⟩ := b_weight hp hp2 hq hq2
      have h1 : uP (FP.i2f (nI (c - d))) ((c - d) * FP.Core.one32) := u_i2f (by omega)
      rw [nI_sub (Nat.le_of_lt hdc)]
      obtain ⟨x, hx, hx1⟩ := u_mul h1 hw h1.v (Nat.mul_le_mul_left _ hw1)
      obtain ⟨m, hm, em⟩ := u_f2i hx (n := c - d) (by omega) (Nat.lt_of_le_of_lt hx1 (Nat.mul_lt_mul_of_pos_right (by omega) FP.Core.one32_pos))
      refine ⟨d + m, by rw [em, nI_add], by omega, fun _ => by omega, fun _ => by omega, fun h1 => ?_⟩
      rw [h8] at h1
      exact absurd h1 (by decide)
    · rw [if_neg h]
      exact ⟨c, hc, Nat.le_refl _, fun h => h, fun _ => rfl, fun _ => rfl⟩
  · rw [if_neg h8]
    exact ⟨c, hc, Nat.le_refl _, fun h => h, fun _ => rfl, fun _ => rfl⟩
/-- a float between fee * D and (fee + 1/2) * D -/
theorem b_near {fee D : Nat} (hf : fee ≤ 50000) (hD : 0 < D) (hD2 : D < 2 ^ 24) : ∃ c k, c < 2 ^ 24 ∧ k ≤ 24 ∧ fee * D ≤ c * 2 ^ k ∧ 2 * (c * 2 ^ k) ≤ (2 * fee + 1) * D := by
  have l1 : 2 ^ D.log2 ≤ D := Nat.log2_self_le (by omega)
  have l2 : D < 2 ^ (D.log2 + 1) := Nat.lt_log2_self
  have l3 : D.log2 < 24 := (Nat.pow_lt_pow_iff_right (by decide : 1 < 2)).mp (Nat.lt_of_le_of_lt l1 hD2)
  generalize D.log2 = L at l1 l2 l3
  rcases Nat.eq_zero_or_pos L with h0 | h0
  · subst h0
    have : D = 1 := by omega
    subst this
    exact ⟨fee, 0, by omega, by omega, by omega, by omega⟩
  · obtain ⟨k, rfl⟩ : ∃ k, L = k + 1 := ⟨L - 1, by omega⟩
    have hk : 0 < 2 ^ k := Nat.two_pow_pos k
    rw [Nat.pow_succ] at l1
    rw [Nat.pow_succ, Nat.pow_succ] at l2
    have e1 := Nat.div_mul_le_self (fee * D) (2 ^ k)
    have e2 := Nat.lt_mul_div_succ (fee * D) hk
    have e3 : fee * D / 2 ^ k ≤ 4 * fee := by
      refine Nat.div_le_of_le_mul ?_
      have : fee * D ≤ fee * (2 ^ k * 2 * 2) := Nat.mul_le_mul_left _ (Nat.le_of_lt l2)
      rw [show 2 ^ k * (4 * fee) = fee * (2 ^ k * 2 * 2) by rw [Nat.mul_comm (2 ^ k), Nat.mul_comm 4 fee, Nat.mul_assoc fee, Nat.mul_assoc (2 ^ k), Nat.mul_comm 4]]
      exact this
    refine ⟨fee * D / 2 ^ k + 1, k, by omega, by omega, ?_, ?_⟩
    · rw [Nat.mul_comm (_ + 1)]
      exact Nat.le_of_lt e2
    · rw [Nat.add_mul, Nat.add_mul (2 * fee), Nat.mul_assoc 2 fee D]
      omega
theorem b_lf {fee D A : Nat} (hf : fee ≤ 50000) (hD : 0 < D) (hD2 : D < 2 ^ 24) (hA : A ≤ D) : ∃ m, m ≤ fee ∧ FP.f2i (FP.fdiv (FP.fmul (FP.i2f (nI fee)) (FP.i2f (nI D - nI A))) (FP.i2f (nI D))) = nI m := by
  obtain ⟨c, k, hc, hk, n1, n2⟩ := b_near hf hD hD2
  rw [nI_sub hA]
  have h1 : uP (FP.i2f (nI fee)) (fee * FP.Core.one32) := u_i2f (by omega)
  have h2 : uP (FP.i2f (nI (D - A))) ((D - A) * FP.Core.one32) := u_i2f (by omega)
  have h3 : uP (FP.i2f (nI D)) (D * FP.Core.one32) := u_i2f (by omega)
  have hV1 : uV (c * 2 ^ k * FP.Core.one32) := by
    have := uV_c (c := c) (k := k + 149) hc (by omega)
    rw [Nat.pow_add, ← Nat.mul_assoc] at this
    exact this
  obtain ⟨x, hx, hx1⟩ := u_mul h1 h2 hV1 (by
    have : fee * (D - A) ≤ c * 2 ^ k := Nat.le_trans (Nat.mul_le_mul_left _ (Nat.sub_le _ _)) n1
    calc fee * FP.Core.one32 * ((D - A) * FP.Core.one32) = (fee * (D - A)) * (FP.Core.one32 * FP.Core.one32) := by ac_rfl
      _ ≤ (c * 2 ^ k) * (FP.Core.one32 * FP.Core.one32) := Nat.mul_le_mul_right _ this
      _ = c * 2 ^ k * FP.Core.one32 * FP.Core.one32 := by ac_rfl)
  have hV2 : uV ((2 * fee + 1) * 2 ^ 148) := uV_c (by omega) (by decide)
  obtain ⟨y, hy, hy1⟩ := u_div hx h3 (Nat.mul_pos hD FP.Core.one32_pos) hV2 (by
    refine Nat.le_trans (Nat.mul_le_mul_right _ hx1) ?_
    calc c * 2 ^ k * FP.Core.one32 * FP.Core.one32 = (2 * (c * 2 ^ k)) * (2 ^ 148 * FP.Core.one32) := by
          rw [Nat.mul_assoc, show FP.Core.one32 * FP.Core.one32 = 2 * 2 ^ 148 * FP.Core.one32 by rw [← one_H]]; ac_rfl
      _ ≤ ((2 * fee + 1) * D) * (2 ^ 148 * FP.Core.one32) := Nat.mul_le_mul_right _ n2
      _ = (2 * fee + 1) * 2 ^ 148 * (D * FP.Core.one32) := by ac_rfl)
  refine u_f2i hy (by omega) (Nat.lt_of_le_of_lt hy1 ?_)
  rw [one_H]
  omega
