/-! the book's invariant, and what the law asks of it -/
def iI (f : Nat → Int32) (T : Nat) : Prop := (∃ h, h < T ∧ f 0 = nI h) ∧ (∃ v d c, f 1 = nI v ∧ f 6 = nI d ∧ f 7 = nI c ∧ v ≤ 500000 ∧ d ≤ v ∧ c ≤ v) ∧ nb (f 2) 9999 ∧ nb (f 3) 9999 ∧ nb (f 4) 100 ∧ nb (f 5) 100 ∧ nb (f 8) 2 ∧ (f 8 = 2 → ¬ f 7 = 0) ∧ nb (f 9) 10 ∧ nb (f 10) 10
def iT (fb g gs : Nat → Int32) : Prop := (∃ d b e, fb 0 = nI d ∧ g 1 = nI b ∧ g 3 = nI e ∧ d ≤ 99999 ∧ b ≤ e ∧ e ≤ d) ∧ nb (g 0) 1000000 ∧ nb (g 2) 3 ∧ nb (g 4) 1000000 ∧ (g 2 = 3 → gs 1 + gs 2 + gs 3 = gs 0 ∧ gs 0 = g 0 + g 5 ∧ (gs 5 ≤ 0 ∨ ¬ 0 < gs 1))
def iB (fb : Nat → Int32) (T I : Nat) : Prop := nb (fb 0) 99999 ∧ nb (fb 1) 50000 ∧ rI (Int32.toUInt32 (fb 2)) ∧ fb 3 = nI T ∧ fb 4 = nI I
def zV (μ : zM) (T I : Nat) : Prop := T ≤ 6 ∧ I ≤ 24 ∧ iB (μ 1) T I ∧ (∀ t, t < T → iT (μ 1) (μ (1 + (3 + 2 * t))) (μ (1 + (3 + 2 * t) + 1))) ∧ ∀ j, j < I → iI (μ (1 + (15 + j))) T ∧ (¬ μ (1 + (15 + j)) 8 = 0 → z_home μ (μ (1 + (15 + j))) 2 = 2 ∨ z_home μ (μ (1 + (15 + j))) 2 = 3)
theorem zV_cg {μ ν : zM} {T I : Nat} (h : zV μ T I) (e : eqv T I μ ν) : zV ν T I := by
  obtain ⟨h1, h2, h3, h4, h5⟩ := h
  refine ⟨h1, h2, by rw [← e.1]; exact h3, fun t ht => ?_, fun j hj => ?_⟩
  · rw [← e.1, ← (e.2.1 t ht).1, ← (e.2.1 t ht).2]
    exact h4 t ht
  · rw [← e.2.2 j hj]
    obtain ⟨g1, g2⟩ := h5 j hj
    refine ⟨g1, ?_⟩
    obtain ⟨h, hh, eh⟩ := g1.1
    have e1 : z_home ν (μ (1 + (15 + j))) = z_home μ (μ (1 + (15 + j))) := by
      unfold z_home
      rw [eh, nI_clamp (by omega)]
      exact (e.2.1 h hh).1.symm
    rw [e1]
    exact g2
theorem b_tot {μ : zM} {T t : Nat} : ∀ {I : Nat}, I ≤ 24 → (∀ j, j < I → iI (μ (1 + (15 + j))) T) → ∃ N D A C, s_tot μ t 4 I = nI N ∧ s_tot μ t 5 I = nI D ∧ s_tot μ t 6 I = nI A ∧ s_tot μ t 1 I = nI C ∧ N ≤ I ∧ D ≤ 500000 * I ∧ A ≤ D ∧ C ≤ I ∧ (N = 0 → D = 0) ∧ (0 < N → 0 < D)
  | 0, _, _ => ⟨0, 0, 0, 0, rfl, rfl, rfl, rfl, Nat.le_refl _, Nat.zero_le _, Nat.le_refl _, Nat.le_refl _, fun _ => rfl, fun h => h⟩
  | j + 1, hI, h => by
    obtain ⟨N, D, A, C, e4, e5, e6, e1, n1, n2, n3, n4, n5, n6⟩ := b_tot (μ := μ) (t := t) (I := j) (by omega) (fun k hk => h k (by omega))
    obtain ⟨_, ⟨v, d, c, f1, f6, f7, v1, v2, v3⟩, _, _, _, _, _, g8, ⟨p, hp, ep⟩, ⟨q, hq, eq⟩⟩ := h j (by omega)
    have st : ∀ w, s_tot μ t w (j + 1) = if μ (1 + (15 + j)) 0 = nI t then s_tot μ t w j + s_share (μ (1 + (15 + j))) w else s_tot μ t w j := fun w => rfl
    rw [st, st, st, st, e4, e5, e6, e1]
    by_cases hh : μ (1 + (15 + j)) 0 = nI t
    · rw [if_pos hh, if_pos hh, if_pos hh, if_pos hh]
      obtain ⟨a, ea, a1, a2, a3, a4⟩ := b_award ep hp eq hq f6 (by omega) f7 (by omega)
      have hc1 : ∃ x, x ≤ 1 ∧ (if μ (1 + (15 + j)) 7 ≤ 0 then (0 : Int32) else 1) = nI x := by
        by_cases h7 : μ (1 + (15 + j)) 7 ≤ 0
        · exact ⟨0, by omega, if_pos h7⟩
        · exact ⟨1, by omega, if_neg h7⟩
      obtain ⟨x, hx, ex⟩ := hc1
      by_cases h8 : μ (1 + (15 + j)) 8 = 2
      · have s1 : s_share (μ (1 + (15 + j))) 1 = nI x := by unfold s_share; rw [if_pos h8]; exact ex
        have s4 : s_share (μ (1 + (15 + j))) 4 = nI 1 := by unfold s_share; rw [if_pos h8]; rfl
        have s5 : s_share (μ (1 + (15 + j))) 5 = nI c := by unfold s_share; rw [if_pos h8]; exact f7
        have s6 : s_share (μ (1 + (15 + j))) 6 = nI a := by unfold s_share; rw [if_pos h8]; exact ea
        have hc0 : 0 < c := by
          rcases Nat.eq_zero_or_pos c with h0 | h0
          · rw [h0] at f7; exact absurd f7 (g8 h8)
          · exact h0
        rw [s1, s4, s5, s6, nI_add, nI_add, nI_add, nI_add]
        exact ⟨_, _, _, _, rfl, rfl, rfl, rfl, by omega, by omega, by omega, by omega, fun h => by omega, fun _ => by omega⟩
      · have s1 : s_share (μ (1 + (15 + j))) 1 = nI x := by unfold s_share; rw [if_neg h8]; exact ex
        have s4 : s_share (μ (1 + (15 + j))) 4 = nI 0 := by unfold s_share; rw [if_neg h8]; rfl
        have s5 : s_share (μ (1 + (15 + j))) 5 = nI 0 := by unfold s_share; rw [if_neg h8]; rfl
        have s6 : s_share (μ (1 + (15 + j))) 6 = nI 0 := by unfold s_share; rw [if_neg h8]; rfl
        rw [s1, s4, s5, s6, nI_add, nI_add, nI_add, nI_add]
        exact ⟨_, _, _, _, rfl, rfl, rfl, rfl, by omega, by omega, by omega, by omega, fun h => by omega, fun h => by omega⟩
    · rw [if_neg hh, if_neg hh, if_neg hh, if_neg hh]
      exact ⟨_, _, _, _, rfl, rfl, rfl, rfl, by omega, by omega, by omega, by omega, n5, n6⟩
theorem b_pay {μ : zM} {T t : Nat} {r : Nat → Int32} {L B D X : Nat} (hX : X = 500000) (hr : stI r L B D) (hL : L < 2 ^ 31) : ∀ {I : Nat}, I ≤ 24 → B + X * I < 2 ^ 31 → (∀ j, j < I → iI (μ (1 + (15 + j))) T) → stI (s_pay μ t r I) L (B + X * I) D ∧ s_pay μ t r I 0 = r 0 ∧ s_pay μ t r I 3 = r 3 ∧ s_pay μ t r I 4 = r 4
  | 0, _, _, _ => ⟨hr, rfl, rfl, rfl⟩
  | j + 1, hI, hB, h => by
    obtain ⟨h1, h2, h3, h4⟩ := b_pay (μ := μ) (t := t) hX hr hL (I := j) (by omega) (by rw [Nat.mul_succ] at hB; omega) (fun k hk => h k (by omega))
    obtain ⟨_, ⟨v, d, c, f1, f6, f7, v1, v2, v3⟩, _, _, _, _, _, g8, ⟨p, hp, ep⟩, ⟨q, hq, eq⟩⟩ := h j (by omega)
    obtain ⟨a, ea, a1, _⟩ := b_award ep hp eq hq f6 (by omega) f7 (by omega)
    have st : s_pay μ t r (j + 1) = if μ (1 + (15 + j)) 0 = nI t then w_X4_payLandlord (s_pay μ t r j) (s_X3_award (μ (1 + (15 + j)))) else s_pay μ t r j := rfl
    rw [st]
    by_cases hh : μ (1 + (15 + j)) 0 = nI t
    · rw [if_pos hh]
      have hB2 : B + X * j + X < 2 ^ 31 := by rw [Nat.add_assoc, ← Nat.mul_succ]; exact hB
      obtain ⟨k1, k2, k3, k4⟩ := st_pay h1 ea (X := X) (show a ≤ X by omega) hL hB2
      exact ⟨by rw [Nat.mul_succ, ← Nat.add_assoc B]; exact k1, k2.trans h2, k3.trans h3, k4.trans h4⟩
    · rw [if_neg hh]
      obtain ⟨m1, l, db, e1, e2, m2, m3, m4⟩ := h1
      exact ⟨⟨m1, l, db, e1, e2, m2, by rw [Nat.mul_succ]; omega, m4⟩, h2, h3, h4⟩
/-- what a settlement comes to -/
theorem b_settle {μ : zM} {T I t : Nat} (h : zV μ T I) (ht : t < T) (h3 : ¬ μ (1 + (3 + 2 * t)) 2 = 3) : ∃ N l db tf lf fee D, s_tot μ t 4 I = nI N ∧ N ≤ 24 ∧ μ 1 1 = nI fee ∧ fee ≤ 50000 ∧
    s_settle μ (μ 1) (μ (1 + (3 + 2 * t))) t I 1 + s_settle μ (μ 1) (μ (1 + (3 + 2 * t))) t I 2 + s_settle μ (μ 1) (μ (1 + (3 + 2 * t))) t I 3 = s_settle μ (μ 1) (μ (1 + (3 + 2 * t))) t I 0 ∧
    s_settle μ (μ 1) (μ (1 + (3 + 2 * t))) t I 0 = μ (1 + (3 + 2 * t)) 0 + s_X1_interestOf (μ 1) (μ (1 + (3 + 2 * t))) ∧
    s_settle μ (μ 1) (μ (1 + (3 + 2 * t))) t I 1 = nI l ∧ s_settle μ (μ 1) (μ (1 + (3 + 2 * t))) t I 5 = nI db ∧ s_settle μ (μ 1) (μ (1 + (3 + 2 * t))) t I 3 = nI tf ∧ s_settle μ (μ 1) (μ (1 + (3 + 2 * t))) t I 4 = nI lf ∧
    l < 2 ^ 30 ∧ db < 2 ^ 30 ∧ (l = 0 ∨ db = 0) ∧ tf + lf ≤ fee ∧ D ≤ db ∧ (0 < N ∨ tf + lf = 0) ∧ (N = 0 ∨ 0 < D ∨ tf + lf = fee) := by
  obtain ⟨hT6, hI24, hB, hT, hJ⟩ := h
  obtain ⟨_, ⟨fee, hf, ef⟩, ⟨_, rr, hrr, hrr2⟩, _, _⟩ := hB
  obtain ⟨⟨d, b, e, ed, eb, ee, d1, d2, d3⟩, ⟨dep, hdep, edep⟩, _, ⟨rent, hrent, erent⟩, _⟩ := hT t ht
  obtain ⟨m, hm, em⟩ := b_interest h3 edep hdep ed d1 eb (by omega) hrr hrr2
  obtain ⟨N, D, A, C, e4, e5, e6, e1, n1, n2, n3, n4, n5, n6⟩ := b_tot (μ := μ) (T := T) (t := t) hI24 (fun j hj => (hJ j hj).1)
  have hpot : s_pot (μ 1) (μ (1 + (3 + 2 * t))) = nI (dep + m) := by unfold s_pot; rw [edep, em, nI_add]
  have hfee : ∃ Dd tf lf, stI (s_fee μ (μ 1) (μ (1 + (3 + 2 * t))) t I) (dep + m) 50000 Dd ∧ s_fee μ (μ 1) (μ (1 + (3 + 2 * t))) t I 0 = nI (dep + m) ∧ s_fee μ (μ 1) (μ (1 + (3 + 2 * t))) t I 3 = nI tf ∧ s_fee μ (μ 1) (μ (1 + (3 + 2 * t))) t I 4 = nI lf ∧ tf + lf ≤ fee ∧ (0 < N ∨ tf + lf = 0) ∧ (N = 0 ∨ 0 < Dd ∨ tf + lf = fee) := by
    unfold s_fee
    rw [e5, hpot]
    by_cases hD : nI D ≤ 0
    · rw [if_pos hD]
      have hD0 : D = 0 := by
        have := (nI_leI (a := D) (b := 0) (by omega) (by omega)).mp hD
        omega
      exact ⟨0, 0, 0, st_start, rfl, rfl, rfl, by omega, Or.inr rfl, Or.inl (by rcases Nat.eq_zero_or_pos N with h0 | h0; exact h0; have := n6 h0; omega)⟩
    · rw [if_neg hD]
      have hD0 : 0 < D := by
        rcases Nat.eq_zero_or_pos D with h0 | h0
        · rw [h0] at hD; exact absurd (by decide) hD
        · exact h0
      have hN0 : 0 < N := by
        rcases Nat.eq_zero_or_pos N with h0 | h0
        · have := n5 h0; omega
        · exact h0
      obtain ⟨lf, hlf, elf⟩ := b_lf (fee := fee) (D := D) (A := A) hf hD0 (by omega) n3
      have e9 : s_lf μ (μ 1) t I = nI lf := by unfold s_lf; rw [ef, e5, e6]; exact elf
      rw [e9, ef]
      obtain ⟨Dd, tf, q1, q2, q3, q4, q5, q6⟩ := st_fee (pot := dep + m) (by omega) hf hlf
      exact ⟨Dd, tf, lf, q1, q2, q3, q4, q5, Or.inl hN0, Or.inr q6⟩
  obtain ⟨Dd, tf, lf, q1, q2, q3, q4, q5, q6, q7⟩ := hfee
  obtain ⟨p1, p2, p3, p4⟩ := b_pay (μ := μ) (T := T) (t := t) (X := 500000) rfl q1 (by omega) hI24 (by omega) (fun j hj => (hJ j hj).1)
  obtain ⟨⟨r1, l, db, r2, r3, r4, r5, r6, r7⟩, s0, s3, s4⟩ := st_pay p1 erent hrent (by omega) (by omega)
  exact ⟨N, l, db, tf, lf, fee, Dd, e4, by omega, ef, hf, r1, (s0.trans p2).trans (q2.trans hpot.symm), r2, r3, (s3.trans p3).trans q3, (s4.trans p4).trans q4, by omega, by omega, r7, q5, r6, q6, q7⟩
