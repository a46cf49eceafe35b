/-! the invariant gives what the law asks -/
theorem b_days {fb g gs : Nat → Int32} (h : iT fb g gs) : ∃ n, n ≤ 99999 ∧ s_X1_daysOf fb g = nI n := by
  obtain ⟨⟨d, b, e, ed, eb, ee, d1, d2, d3⟩, _⟩ := h
  unfold s_X1_daysOf
  by_cases h0 : g 2 = 0
  · rw [if_pos h0, ed, eb, nI_sub (by omega)]
    exact ⟨_, by omega, rfl⟩
  · rw [if_neg h0, ee, eb, nI_sub d2]
    exact ⟨_, by omega, rfl⟩
theorem cmp_g {o : Option Ordering} (h : ¬ o = some .lt) : ¬ Op.cmpValue o CmpOp.g < 0 := by
  rcases o with _ | (_ | _ | _)
  · decide
  · exact absurd rfl h
  · decide
  · decide
theorem cmp_l {o : Option Ordering} (h : ¬ o = some .gt) (h2 : ¬ o = none) : ¬ 0 < Op.cmpValue o CmpOp.l := by
  rcases o with _ | (_ | _ | _)
  · decide
  · decide
  · decide
  · exact absurd rfl h
theorem zV_home {μ : zM} {T I j : Nat} (h : zV μ T I) (hj : j < I) : ∃ k, k < T ∧ μ (1 + (15 + j)) 0 = nI k ∧ z_home μ (μ (1 + (15 + j))) = μ (1 + (3 + 2 * k)) := by
  obtain ⟨k, hk, ek⟩ := (h.2.2.2.2 j hj).1.1
  refine ⟨k, hk, ek, ?_⟩
  have := h.1
  unfold z_home
  rw [ek, nI_clamp (by omega)]
theorem oc_s {μ : zM} {fb g gs : Nat → Int32} {t I w : Nat} (h0 : ¬ g 2 = 0) (h3 : ¬ g 2 = 3) : s_oc μ fb g gs t I w = s_X4_fact (s_settle μ fb g t I) w := by
  unfold s_oc
  rw [if_neg h0, if_neg h3]
theorem nI_lt_n {a b : Nat} (h : b ≤ a) (ha : a < 2 ^ 31) : ¬ nI a < nI b := nI_nlt h ha
theorem zV_A {μ : zM} {T I : Nat} (h : zV μ T I) (z : Nat) : z_hA μ T I z := by
  intro t ht hp
  have hp : ¬ μ (1 + (3 + 2 * t)) 2 ≤ 0 := hp
  have h0 : ¬ μ (1 + (3 + 2 * t)) 2 = 0 := fun e => hp (by rw [e]; decide)
  by_cases h3 : μ (1 + (3 + 2 * t)) 2 = 3
  · obtain ⟨g1, g2, g3⟩ := (h.2.2.2.1 t ht).2.2.2.2 h3
    refine ⟨?_, ?_, ?_, fun h4 => absurd h3 h4⟩
    · rw [oc_3 h3, oc_3 h3, oc_3 h3, oc_3 h3]
      exact g1
    · rw [oc_3 h3, oc_3 h3, oc_3 h3]
      refine g1.trans (g2.trans ?_)
      show _ = μ (1 + (3 + 2 * t)) 0 + s_X1_interestOf (μ 1) (μ (1 + (3 + 2 * t)))
      unfold s_X1_interestOf
      rw [if_pos h3]
    · rw [oc_3 h3, oc_3 h3]
      exact g3
  · obtain ⟨N, l, db, tf, lf, fee, D, e4, hN, ef, hf, g1, g2, e1, e5, ee3, ee4, l1, l2, l3, l4, l5, l6, l7⟩ := b_settle h ht h3
    refine ⟨?_, ?_, ?_, fun _ => ⟨?_, ?_, ?_⟩⟩
    · rw [oc_s h0 h3, oc_s h0 h3, oc_s h0 h3, oc_s h0 h3]
      exact g1
    · rw [oc_s h0 h3, oc_s h0 h3, oc_s h0 h3]
      exact g1.trans g2
    · rw [oc_s h0 h3, oc_s h0 h3]
      show s_settle μ (μ 1) (μ (1 + (3 + 2 * t))) t I 5 ≤ 0 ∨ ¬ 0 < s_settle μ (μ 1) (μ (1 + (3 + 2 * t))) t I 1
      rw [e5, e1]
      rcases l3 with rfl | rfl
      · exact Or.inr (by decide)
      · exact Or.inl (by decide)
    · rw [oc_s h0 h3, oc_s h0 h3]
      show ¬ μ 1 1 < s_settle μ (μ 1) (μ (1 + (3 + 2 * t))) t I 3 + s_settle μ (μ 1) (μ (1 + (3 + 2 * t))) t I 4
      rw [ef, ee3, ee4, nI_add]
      exact nI_lt_n l4 (by omega)
    · rw [oc_s h0 h3, oc_s h0 h3]
      show 0 < s_tot μ t 4 I ∨ s_settle μ (μ 1) (μ (1 + (3 + 2 * t))) t I 3 + s_settle μ (μ 1) (μ (1 + (3 + 2 * t))) t I 4 = 0
      rw [e4, ee3, ee4, nI_add]
      rcases l6 with l6 | l6
      · exact Or.inl (nI_lt (a := 0) l6 (by omega))
      · exact Or.inr (by rw [l6]; rfl)
    · rw [oc_s h0 h3, oc_s h0 h3, oc_s h0 h3]
      show 0 < s_settle μ (μ 1) (μ (1 + (3 + 2 * t))) t I 5 ∨ s_tot μ t 4 I = 0 ∨ s_settle μ (μ 1) (μ (1 + (3 + 2 * t))) t I 3 + s_settle μ (μ 1) (μ (1 + (3 + 2 * t))) t I 4 = μ 1 1
      rw [e5, e4, ee3, ee4, nI_add, ef]
      rcases l7 with l7 | l7 | l7
      · exact Or.inr (Or.inl (by rw [l7]; rfl))
      · exact Or.inl (nI_lt (a := 0) (by omega) (by omega))
      · exact Or.inr (Or.inr (by rw [l7]))
theorem zV_B {μ : zM} {T I : Nat} (h : zV μ T I) : z_hB μ T I := by
  intro j hj
  obtain ⟨k, hk, ek, eh⟩ := zV_home h hj
  obtain ⟨n, hn, en⟩ := b_days (h.2.2.2.1 k hk)
  obtain ⟨_, ⟨v, d, c, f1, f6, f7, v1, v2, v3⟩, ⟨l, hl, el⟩, ⟨ag, hag, eag⟩, ⟨cd, hcd, ecd⟩, _, _, g8, ⟨p, hp, ep⟩, ⟨q, hq, eq⟩⟩ := (h.2.2.2.2 j hj).1
  obtain ⟨a, ea, a1, a2, a3, a4⟩ := b_award ep hp eq hq f6 (by omega) f7 (by omega)
  obtain ⟨fr, hfr, efr⟩ := b_fair (f := μ (1 + (15 + j))) en (by omega) el hl ecd hcd
  obtain ⟨r, hr, hr1⟩ := b_rest (f := μ (1 + (15 + j))) en (by omega) el hl eag hag
  rw [eh]
  refine ⟨?_, fun h0 => ⟨?_, ?_, ?_⟩, ?_, ?_, ?_, ?_⟩
  · show ¬ μ (1 + (15 + j)) 7 < s_X3_award (μ (1 + (15 + j)))
    rw [f7, ea]
    exact nI_lt_n a1 (by omega)
  · have e6 : s_itm (μ (1 + (15 + j))) (μ 1) (μ (1 + (3 + 2 * k))) 6 = nI d := by show s_cf (μ (1 + (15 + j))) (μ 1) (μ (1 + (3 + 2 * k))) 6 = _; unfold s_cf; rw [if_neg h0]; exact f6
    rw [e6]
    show nI d ≤ μ (1 + (15 + j)) 7 → ¬ s_X3_award (μ (1 + (15 + j))) < nI d
    rw [f7, ea]
    intro hle
    exact nI_lt_n (a2 ((nI_leI (by omega) (by omega)).mp hle)) (by omega)
  · have e6 : s_itm (μ (1 + (15 + j))) (μ 1) (μ (1 + (3 + 2 * k))) 6 = nI d := by show s_cf (μ (1 + (15 + j))) (μ 1) (μ (1 + (3 + 2 * k))) 6 = _; unfold s_cf; rw [if_neg h0]; exact f6
    rw [e6]
    show ¬ nI d ≤ μ (1 + (15 + j)) 7 → ¬ s_X3_award (μ (1 + (15 + j))) < μ (1 + (15 + j)) 7
    rw [f7, ea]
    intro hle
    have : c ≤ d := Nat.le_of_lt (Nat.not_le.mp fun q => hle (nI_le q (by omega)))
    rw [a3 this]
    exact nI_lt_n (Nat.le_refl _) (by omega)
  · have e6 : s_itm (μ (1 + (15 + j))) (μ 1) (μ (1 + (3 + 2 * k))) 6 = nI d := by show s_cf (μ (1 + (15 + j))) (μ 1) (μ (1 + (3 + 2 * k))) 6 = _; unfold s_cf; rw [if_neg h0]; exact f6
    rw [e6]
    show ¬ μ (1 + (15 + j)) 1 < nI d
    rw [f1]
    exact nI_lt_n v2 (by omega)
  · refine cmp_g fun e => ?_
    have := (FP.Core.fcmp_lt.mp e).2.2
    rw [hr.2, u_c0.2] at this
    omega
  · refine cmp_l (fun e => ?_) (fun e => ?_)
    · have := (FP.Core.fcmp_gt.mp e).2.2
      rw [hr.2, u_c1.2] at this
      omega
    · rcases (FP.Core.fcmp_none _ _).mp e with q | q
      · exact hr.nn q
      · exact u_c1.nn q
  · show ¬ μ (1 + (15 + j)) 4 < s_X3_fairAfter (μ (1 + (15 + j))) (s_X1_daysOf (μ 1) (μ (1 + (3 + 2 * k))))
    rw [ecd, efr]
    exact nI_lt_n hfr (by omega)
  · show μ (1 + (15 + j)) 8 = 1 → s_X3_award (μ (1 + (15 + j))) = μ (1 + (15 + j)) 7
    rw [ea, f7]
    intro e
    rw [a4 e]
theorem b_tin {μ : zM} : ∀ {T : Nat}, T ≤ 6 → (∀ t, t < T → nb (μ (1 + (3 + 2 * t)) 2) 3) → s_sts μ T = nI (s_tin μ 1 T + 2 * s_tin μ 2 T + 3 * s_tin μ 3 T) ∧ s_tin μ 0 T + s_tin μ 1 T + s_tin μ 2 T + s_tin μ 3 T = T
  | 0, _, _ => ⟨rfl, rfl⟩
  | t + 1, hT, h => by
    obtain ⟨h1, h2⟩ := b_tin (μ := μ) (T := t) (by omega) (fun k hk => h k (by omega))
    obtain ⟨s, hs, es⟩ := h t (by omega)
    have st : ∀ q, s_tin μ q (t + 1) = if μ (1 + (3 + 2 * t)) 2 = nI q then s_tin μ q t + 1 else s_tin μ q t := fun q => rfl
    have sq : s_sts μ (t + 1) = s_sts μ t + μ (1 + (3 + 2 * t)) 2 := rfl
    rw [sq, st, st, st, st, es, h1, nI_add]
    have hcs : s = 0 ∨ s = 1 ∨ s = 2 ∨ s = 3 := by omega
    rcases hcs with rfl | rfl | rfl | rfl
    · rw [if_neg (by decide), if_neg (by decide), if_neg (by decide), if_pos rfl]
      exact ⟨congrArg nI (by omega), by omega⟩
    · rw [if_pos rfl, if_neg (by decide), if_neg (by decide), if_neg (by decide)]
      exact ⟨congrArg nI (by omega), by omega⟩
    · rw [if_neg (by decide), if_pos rfl, if_neg (by decide), if_neg (by decide)]
      exact ⟨congrArg nI (by omega), by omega⟩
    · rw [if_neg (by decide), if_neg (by decide), if_pos rfl, if_neg (by decide)]
      exact ⟨congrArg nI (by omega), by omega⟩
theorem zV_C {μ : zM} {T I : Nat} (h : zV μ T I) (z : Nat) : z_hC μ T I z := by
  obtain ⟨h1, h2⟩ := b_tin (μ := μ) h.1 (fun t ht => (h.2.2.2.1 t ht).2.2.1)
  refine ⟨?_, ?_⟩
  · show s_sts μ T = nI (s_tin μ 1 T) + nI 2 * nI (s_tin μ 2 T) + nI 3 * nI (s_tin μ 3 T)
    rw [nI_mul, nI_mul, nI_add, nI_add]
    exact h1
  · show nI (s_tin μ 0 T) + nI (s_tin μ 1 T) + nI (s_tin μ 2 T) + nI (s_tin μ 3 T) = nI T
    rw [nI_add, nI_add, nI_add, h2]
theorem zV_hd {μ : zM} {T I : Nat} (h : zV μ T I) : μ 1 3 = nI T ∧ μ 1 4 = nI I ∧ T ≤ 6 ∧ I ≤ 24 ∧ fK 125 (Int32.toUInt32 (μ 1 2)) ∧ z_homes μ T I ∧ 0 ≤ μ 1 0 := by
  obtain ⟨h1, h2, ⟨⟨d, hd, ed⟩, _, h3, h4, h5⟩, h6, h7⟩ := h
  exact ⟨h4, h5, h1, h2, h3.1, fun j hj => (h7 j hj).1.1, by rw [ed]; exact nI_pos' (by omega)⟩
theorem u_r0 : uP 1017370378 (10737418 * 2 ^ 120) := ⟨⟨false, 10737418, -29, by decide +kernel⟩, by decide +kernel⟩
theorem zV_ini : zV μ0 0 0 := by
  refine ⟨by decide, by decide, ⟨⟨0, by decide, rfl⟩, ⟨5000, by decide, rfl⟩, ⟨?_, 10737418 * 2 ^ 120, u_r0, by decide⟩, rfl, rfl⟩, fun t ht => absurd ht (Nat.not_lt_zero _), fun t ht => absurd ht (Nat.not_lt_zero _)⟩
  show fK 125 1017370378
  unfold fK
  decide
