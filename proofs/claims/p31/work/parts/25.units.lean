/-! floats from 0 on, as whole numbers of the format's least number -/
def uP (a : UInt32) (u : Nat) : Prop := FP.Core.FFin a ∧ FP.Core.zval FP.Core.b32 (FP.Core.val32 a) = (u : Int)
def uV (w : Nat) : Prop := ∃ s c q, FP.Core.fits FP.Core.b32 (.fin s c q) ∧ FP.Core.zmag FP.Core.b32 (.fin s c q) = w
theorem uP.ex {a : UInt32} {u : Nat} (h : uP a u) : ∃ s c q, FP.Core.val32 a = .fin s c q ∧ FP.Core.fits FP.Core.b32 (.fin s c q) ∧ FP.Core.zmag FP.Core.b32 (.fin s c q) = u ∧ (s = true → c = 0) := by
  obtain ⟨⟨s, c, q, e⟩, hz⟩ := h
  have hf := FP.Core.val32_fits a
  rw [e] at hz hf
  refine ⟨s, c, q, e, hf, ?_⟩
  have hz : FP.Core.signed s (FP.Core.zmag FP.Core.b32 (.fin s c q)) = (u : Int) := hz
  cases s
  · refine ⟨?_, fun h => by cases h⟩
    simp only [FP.Core.signed, Bool.false_eq_true, if_false] at hz
    omega
  · simp only [FP.Core.signed, if_true] at hz
    have h0 : FP.Core.zmag FP.Core.b32 (.fin true c q) = 0 := by omega
    refine ⟨by omega, fun _ => ?_⟩
    rcases Nat.mul_eq_zero.mp (show c * 2 ^ (q - FP.Core.b32.qmin).toNat = 0 from h0) with h | h
    · exact h
    · exact absurd h (Nat.ne_of_gt (Nat.two_pow_pos _))
theorem uP.nn {a : UInt32} {u : Nat} (h : uP a u) : FP.Core.val32 a ≠ .nan := by
  obtain ⟨⟨s, c, q, e⟩, _⟩ := h
  rw [e]
  exact FP.Core.Datum.noConfusion
theorem uP.v {a : UInt32} {u : Nat} (h : uP a u) : uV u := by
  obtain ⟨s, c, q, _, h2, h3, _⟩ := h.ex
  exact ⟨s, c, q, h2, h3⟩
theorem uV_c {c k : Nat} (hc : c < 2 ^ 24) (hk : k ≤ 250) : uV (c * 2 ^ k) := by
  obtain ⟨c', q', h1, h2⟩ := FP.Core.round_exact FP.Core.good_b32 false (c := c) (q := (k : Int) - 149) hc (by rw [FP.Core.qmin_b32]; omega) (by
    have : FP.Core.b32.qmax = 104 := by decide
    rw [this]; omega)
  have hf := FP.Core.round_fits FP.Core.good_b32 (FP.Core.Datum.fin false c ((k : Int) - 149))
  rw [h1] at hf
  refine ⟨false, c', q', hf, ?_⟩
  show FP.Core.inUnits c' q' FP.Core.b32.qmin = _
  rw [h2]
  unfold FP.Core.inUnits
  rw [FP.Core.qmin_b32]
  congr 2
  omega
theorem u_rr {x : UInt32} {s : Bool} {A B w : Nat} {e e0 : Int} (hx : FP.Core.val32 x = FP.Core.roundRatio FP.Core.b32 s A B e) (hB : 0 < B) (h0 : e0 ≤ FP.Core.b32.qmin) (h0e : e0 ≤ e) (hw : uV w)
    (h : FP.Core.inUnits A e e0 ≤ w * 2 ^ (FP.Core.b32.qmin - e0).toNat * B) (hs : s = true → A = 0) : ∃ r, uP x r ∧ r ≤ w := by
  obtain ⟨t, c0, q0, hV, hVz⟩ := hw
  have hle := FP.Core.zmag_roundRatio_le FP.Core.good_b32 (s := s) hB hV FP.Core.Datum.noConfusion h0 h0e (by rw [hVz]; exact h)
  rw [hVz] at hle
  rcases FP.Core.roundRatio_cases FP.Core.b32 s A B e with ⟨c, q, hc⟩ | hc
  · rw [hc] at hle
    cases s
    · refine ⟨_, ⟨⟨false, c, q, hx.trans hc⟩, ?_⟩, hle⟩
      rw [hx, hc]
      show FP.Core.signed false _ = _
      simp only [FP.Core.signed, Bool.false_eq_true, if_false]
    · have hA := hs rfl
      subst hA
      have hz : FP.Core.roundRatio FP.Core.b32 true 0 B e = .fin true 0 FP.Core.b32.qmin := by unfold FP.Core.roundRatio; rw [if_pos rfl]
      refine ⟨0, ⟨⟨true, _, _, hx.trans hz⟩, ?_⟩, Nat.zero_le _⟩
      rw [hx, hz]
      show FP.Core.signed true (0 * _) = _
      rw [Nat.zero_mul]
      rfl
  · exfalso
    rw [hc] at hle
    have h1 : FP.Core.zmag FP.Core.b32 (.fin t c0 q0) < _ := FP.Core.zmag_lt_top FP.Core.good_b32 hV
    rw [hVz] at h1
    exact absurd (Nat.lt_of_le_of_lt hle h1) (Nat.lt_irrefl _)
theorem u_one : 2 ^ (FP.Core.b32.qmin - 2 * FP.Core.b32.qmin).toNat = FP.Core.one32 := by rw [FP.Core.qmin_b32]; rfl
theorem u_one2 : 2 ^ (-FP.Core.b32.qmin).toNat = FP.Core.one32 := by rw [FP.Core.qmin_b32]; rfl
theorem u_mul {a b : UInt32} {u v w : Nat} (ha : uP a u) (hb : uP b v) (hw : uV w) (h : u * v ≤ w * FP.Core.one32) : ∃ r, uP (FP.fmul a b) r ∧ r ≤ w := by
  obtain ⟨s, c, q, a1, a2, a3, a4⟩ := ha.ex
  obtain ⟨t, d, r, b1, b2, b3, b4⟩ := hb.ex
  obtain ⟨p1, p2, p3⟩ := FP.Core.product_units a2 b2
  have hx : FP.Core.val32 (FP.fmul a b) = FP.Core.roundRatio FP.Core.b32 (s != t) (c * d) 1 (q + r) := by
    refine (FP.Core.val32_fmul a b).trans ?_
    rw [a1, b1, p1]
    rfl
  refine u_rr hx (by decide) (e0 := 2 * FP.Core.b32.qmin) (by rw [FP.Core.qmin_b32]; decide) p2 hw ?_ (fun hs => ?_)
  · rw [p3, a3, b3, u_one, Nat.mul_one]
    exact h
  · cases s
    · cases t
      · cases hs
      · rw [b4 rfl, Nat.mul_zero]
    · rw [a4 rfl, Nat.zero_mul]
theorem u_div {a b : UInt32} {u v w : Nat} (ha : uP a u) (hb : uP b v) (hv : 0 < v) (hw : uV w) (h : u * FP.Core.one32 ≤ w * v) : ∃ r, uP (FP.fdiv a b) r ∧ r ≤ w := by
  obtain ⟨s, c, q, a1, a2, a3, a4⟩ := ha.ex
  obtain ⟨t, d, r, b1, b2, b3, b4⟩ := hb.ex
  have hd0 : d ≠ 0 := by
    rintro rfl
    have : FP.Core.zmag FP.Core.b32 (.fin t 0 r) = 0 := Nat.zero_mul _
    omega
  have ht : t = false := by
    cases t
    · rfl
    · exact absurd (b4 rfl) hd0
  subst ht
  have hx : FP.Core.val32 (FP.fdiv a b) = FP.Core.roundRatio FP.Core.b32 (s != false) c d (q - r) := by
    refine (FP.Core.val32_fdiv a b).trans ?_
    rw [a1, b1]
    simp only [FP.Core.quotient, if_neg hd0]
  have hx1 := a2.2.1
  have hy1 := b2.2.1
  have hq := FP.Core.qmin_neg FP.Core.good_b32
  refine u_rr hx (by omega) (e0 := 2 * FP.Core.b32.qmin - r) (by omega) (by omega) hw ?_ (fun hs => ?_)
  · have e1 : FP.Core.inUnits c (q - r) (2 * FP.Core.b32.qmin - r) = FP.Core.zmag FP.Core.b32 (.fin s c q) * 2 ^ (-FP.Core.b32.qmin).toNat := by
      show c * _ = c * _ * _
      rw [Nat.mul_assoc, ← Nat.pow_add]; congr 2; omega
    have e2 : 2 ^ (FP.Core.b32.qmin - (2 * FP.Core.b32.qmin - r)).toNat * d = FP.Core.zmag FP.Core.b32 (.fin false d r) := by
      show _ = d * _
      rw [Nat.mul_comm]; congr 2; omega
    rw [e1, Nat.mul_assoc, e2, a3, b3, u_one2]
    exact h
  · cases s
    · cases hs
    · exact a4 rfl
theorem u_f2i {a : UInt32} {r n : Nat} (ha : uP a r) (hn : n < 2 ^ 31) (h : r < (n + 1) * FP.Core.one32) : ∃ m, m ≤ n ∧ FP.f2i a = nI m := by
  obtain ⟨s, c, q, a1, a2, a3, a4⟩ := ha.ex
  refine ⟨r / FP.Core.one32, ?_, ?_⟩
  · have := (Nat.div_lt_iff_lt_mul FP.Core.one32_pos).mpr h
    omega
  · have hm : r / FP.Core.one32 ≤ n := by
      have := (Nat.div_lt_iff_lt_mul FP.Core.one32_pos).mpr h
      omega
    have hv := FP.Core.f2i_val ha.nn
    have hsg : FP.Core.signed (FP.Core.sgn (FP.Core.val32 a)) (FP.Core.zmag FP.Core.b32 (FP.Core.val32 a) / FP.Core.one32) = ((r / FP.Core.one32 : Nat) : Int) := by
      rw [a1, a3]
      show FP.Core.signed s _ = _
      cases s
      · simp only [FP.Core.signed, Bool.false_eq_true, if_false]
      · have hc := a4 rfl
        subst hc
        have hz : FP.Core.zmag FP.Core.b32 (.fin true 0 q) = 0 := Nat.zero_mul _
        rw [hz] at a3
        rw [← a3, Nat.zero_div]
        rfl
    rw [hsg] at hv
    refine Int32.toInt.inj ?_
    rw [nI_toInt (Nat.lt_of_le_of_lt hm hn)]
    refine Eq.trans hv ?_
    generalize r / FP.Core.one32 = k at hm
    show max (-2147483648 : Int) (min 2147483647 ((k : Nat) : Int)) = _
    omega
theorem u_i2f {n : Nat} (h : n ≤ 2 ^ 24) : uP (FP.i2f (nI n)) (n * FP.Core.one32) := by
  have h1 : (nI n).toInt = (n : Int) := nI_toInt (by omega)
  have h2 : FP.Core.FInt (nI n).toInt (FP.i2f (nI n)) := FP.Core.i2f_int (a := nI n) (by rw [h1]; omega)
  refine ⟨FP.Core.i2f_fin (nI n), ?_⟩
  rw [FP.Core.FInt_zval h2, h1, Int.natCast_mul]
theorem u_c0 : uP FP.fconst0 0 := ⟨⟨false, 0, -149, by decide +kernel⟩, by decide +kernel⟩
theorem u_c1 : uP FP.fconst1 FP.Core.one32 := ⟨⟨false, 8388608, -23, by decide +kernel⟩, by decide +kernel⟩
theorem u_c2 : uP FP.fconst2 (2 * FP.Core.one32) := ⟨⟨false, 8388608, -22, by decide +kernel⟩, by decide +kernel⟩
theorem u_half : uP 1056964608 (2 ^ 148) := ⟨⟨false, 8388608, -24, by decide +kernel⟩, by decide +kernel⟩
theorem u_100 : uP 1120403456 (100 * FP.Core.one32) := ⟨⟨false, 13107200, -17, by decide +kernel⟩, by decide +kernel⟩
theorem u_365 : uP 1136033792 (365 * FP.Core.one32) := ⟨⟨false, 11960320, -15, by decide +kernel⟩, by decide +kernel⟩
theorem u_onev : uV FP.Core.one32 := u_c1.v
theorem u_sub1 {x : UInt32} {u : Nat} (hx : uP x u) (hk : fK 161 x) : FP.Core.FFin (FP.fsub FP.fconst1 x) ∧ FP.Core.zval FP.Core.b32 (FP.Core.val32 (FP.fsub FP.fconst1 x)) ≤ (FP.Core.one32 : Int) := by
  obtain ⟨s, c, q, a1, a2, a3, a4⟩ := hx.ex
  have hle := FP.Core.sum_le FP.Core.good_b32 (x := FP.Core.val32 FP.fconst1) (y := FP.Core.negate (FP.Core.val32 x)) (V := FP.Core.val32 FP.fconst1) u_c1.1 ⟨!s, c, q, by rw [a1]; rfl⟩ (FP.Core.val32_fits _) (FP.Core.negate_fits (FP.Core.val32_fits _)) (FP.Core.val32_fits _) u_c1.nn (by
    rw [FP.Core.zval_negate, hx.2]; omega)
  have e := FP.Core.val32_fsub FP.fconst1 x
  have e : FP.Core.val32 (FP.fsub FP.fconst1 x) = _ := e
  rw [← e, u_c1.2] at hle
  exact ⟨FP.Core.fin_of_lt32 (K := 163) (fk_sub fk_one hk (by decide)) (by decide), hle⟩
