/-! each act, on two books alike -/
def okP (μ : zM) (o z T I : Nat) (A B : Int32 × zM) : Prop := (A.1 < 0 ∧ A.2 = μ ∧ B.1 = A.1) ∨ (0 ≤ A.1 ∧ (∀ n, n < 1 ∨ 40 ≤ n → A.2 n = zp μ o z T I n) ∧ B.1 = A.1 ∧ ∃ T' I', zV A.2 T' I' ∧ eqv T' I' A.2 B.2)
section OK
variable {μ ν : zM} {T I o z o' z' : Nat}
theorem okE {r : Int32} (h : r < 0) : okP μ o z T I (r, μ) (r, ν) := Or.inl ⟨h, rfl, rfl⟩
theorem okS {r : Int32} {M N : zM} {T' I' : Nat} (h : 0 ≤ r) (hn : ∀ n, n < 1 ∨ 40 ≤ n → M n = zp μ o z T I n) (hv : zV M T' I') (he : eqv T' I' M N) : okP μ o z T I (r, M) (r, N) := Or.inr ⟨h, hn, rfl, T', I', hv, he⟩
theorem zP1 : zp μ o z T I 1 = μ 1 := zp_ne (by omega)
theorem eqvP (hT : T ≤ 6) (hI : I ≤ 24) : eqv T I μ (zp μ o z T I) := eqv.off hT hI (fun n g1 g2 => (zp_ne (by omega)).symm)
theorem zVP (h : zV μ T I) : zV (zp μ o z T I) T I := zV_cg h (eqvP h.1 h.2.1)
theorem eqPP (h : zV μ T I) (e : eqv T I μ ν) : eqv T I (zp μ o z T I) (zp ν o' z' T I) := ((eqvP h.1 h.2.1).symm.trans e).trans (eqvP h.1 h.2.1)
theorem out_n {x a b : Int32} {n : Nat} (h : s_out x a b = 0) (ha : ¬ a < 0) (hb : b.toInt = (n : Int)) : ∃ j, j ≤ n ∧ x = nI j :=
  nI_of2 hb (fun q => (s_out0 h).1 (Int32.lt_of_lt_of_le q (Int32.not_lt.mp ha))) (s_out0 h).2
theorem nn {r : Int32} {n : Nat} (h : r = nI n) (hn : n < 2 ^ 31) : 0 ≤ r := by rw [h]; exact nI_pos' hn
theorem home_cg (h : zV μ T I) (e : eqv T I μ ν) {j : Nat} (hj : j < I) : z_home ν (ν (1 + (15 + j))) = z_home μ (μ (1 + (15 + j))) := by
  obtain ⟨k, hk, ek, eh⟩ := zV_home h hj
  have := h.1
  rw [eh, ← e.2.2 j hj]
  unfold z_home
  rw [ek, nI_clamp (by omega)]
  exact (e.2.1 k hk).1.symm
theorem zP_home (h : zV μ T I) {j : Nat} (hj : j < I) : z_home (zp μ o z T I) (zp μ o z T I (1 + (15 + j))) = z_home μ (μ (1 + (15 + j))) := home_cg h (eqvP h.1 h.2.1) hj
theorem rows1 {n0 : Nat} {f : Nat → Int32} (h0 : 1 ≤ n0) (h1 : n0 < 40) : ∀ n, n < 1 ∨ 40 ≤ n → zr (zp μ o z T I) n0 f n = zp μ o z T I n := fun n hn => zr_ne (by omega)
theorem ok_setRate (h : zV μ T I) (e : eqv T I μ ν) (x : Int32) : okP μ o z T I (p_setRate μ (μ 1) o z T I x) (p_setRate ν (ν 1) o' z' T I x) := by
  rw [← e.1]
  unfold p_setRate
  by_cases c1 : s_out x 0 1045220557 = 0
  · rw [if_pos c1, if_pos c1]
    by_cases c2 : Op.cmpValue (FP.fcmp (s_rate x) (Int32.toUInt32 (μ 1 2))) CmpOp.l = 0
    · rw [if_pos c2, if_pos c2]; exact okE (by decide)
    · rw [if_neg c2, if_neg c2]
      obtain ⟨b, hb, eb⟩ := out_n c1 (by decide) (n := 1045220557) (by decide)
      obtain ⟨⟨d, hd, ed⟩, b2, b3, b4, b5⟩ := h.2.2.1
      refine okS (by decide) (rows1 (by decide) (by decide)) (zV_book (zVP h) ⟨⟨d, hd, ed⟩, b2, b_rate eb hb, b4, b5⟩ (by rw [zP1]; exact ed) ed (Nat.le_refl _) hd) (eqv_zr (eqPP h e))
  · rw [if_neg c1, if_neg c1]; exact okE (by decide)
theorem ok_setFee (h : zV μ T I) (e : eqv T I μ ν) (x : Int32) : okP μ o z T I (p_setFee μ (μ 1) o z T I x) (p_setFee ν (ν 1) o' z' T I x) := by
  rw [← e.1]
  unfold p_setFee
  by_cases c1 : s_out x 0 50000 = 0
  · rw [if_pos c1, if_pos c1]
    by_cases c2 : μ 1 1 = x
    · rw [if_pos c2, if_pos c2]; exact okE (by decide)
    · rw [if_neg c2, if_neg c2]
      obtain ⟨b, hb, eb⟩ := out_n c1 (by decide) (n := 50000) (by decide)
      obtain ⟨⟨d, hd, ed⟩, ⟨fe, hfe, efe⟩, b3, b4, b5⟩ := h.2.2.1
      refine okS (nn efe (by omega)) (rows1 (by decide) (by decide)) (zV_book (zVP h) ⟨⟨d, hd, ed⟩, ⟨b, hb, eb⟩, b3, b4, b5⟩ (by rw [zP1]; exact ed) ed (Nat.le_refl _) hd) (eqv_zr (eqPP h e))
  · rw [if_neg c1, if_neg c1]; exact okE (by decide)
theorem ok_pass (h : zV μ T I) (e : eqv T I μ ν) (x : Int32) : okP μ o z T I (p_pass μ (μ 1) o z T I x) (p_pass ν (ν 1) o' z' T I x) := by
  rw [← e.1]
  unfold p_pass
  by_cases c1 : s_out x 1 1000 = 0
  · rw [if_pos c1, if_pos c1]
    by_cases c2 : μ 1 0 + x ≤ 99999
    · rw [if_pos c2, if_pos c2]
      obtain ⟨b, hb, eb⟩ := out_n c1 (by decide) (n := 1000) (by decide)
      obtain ⟨⟨d, hd, ed⟩, b2, b3, b4, b5⟩ := h.2.2.1
      have es : μ 1 0 + x = nI (d + b) := by rw [ed, eb, nI_add]
      have hs : d + b ≤ 99999 := by rw [es] at c2; exact (nI_leI (a := d + b) (b := 99999) (by omega) (by omega)).mp c2
      refine okS (nn es (by omega)) (rows1 (by decide) (by decide)) (zV_book (zVP h) ⟨⟨d + b, hs, es⟩, b2, b3, b4, b5⟩ (by rw [zP1]; exact ed) (d' := d + b) es (by omega) hs) (eqv_zr (eqPP h e))
    · rw [if_neg c2, if_neg c2]; exact okE (by decide)
  · rw [if_neg c1, if_neg c1]; exact okE (by decide)
theorem ok_begin (h : zV μ T I) (e : eqv T I μ ν) (x : Int32) : okP μ o z T I (p_begin μ (μ 1) o z T I x) (p_begin ν (ν 1) o' z' T I x) := by
  rw [← e.1]
  unfold p_begin
  by_cases c1 : s_out x 1000 1000000 = 0
  · rw [if_pos c1, if_pos c1]
    have hT6 := h.1
    by_cases c2 : nI T < 6
    · rw [if_pos c2, if_pos c2]
      obtain ⟨b, hb, eb⟩ := out_n c1 (by decide) (n := 1000000) (by decide)
      have hT : T < 6 := (nI_ltI (a := T) (b := 6) (by omega) (by omega)).mp c2
      subst eb
      have hv : zV (m_addT (zp μ o z T I) (zp μ o z T I 1) T (nI b)) (T + 1) I := zV_addT (zVP h) hT hb
      rw [zP1] at hv
      refine okS (nI_pos' (by omega)) (fun n hn => ?_) hv (eqv_addT hT (eqPP h e))
      unfold m_addT
      rw [zr_ne (by omega), zr_ne (by omega), zr_ne (by omega)]
    · rw [if_neg c2, if_neg c2]; exact okE (by decide)
  · rw [if_neg c1, if_neg c1]; exact okE (by decide)
theorem ok_addItem (h : zV μ T I) (e : eqv T I μ ν) {t : Nat} (ht : t < T) (a b x y : Int32) : okP μ o z T I (p_addItem μ (μ 1) o z T I t (μ (1 + (3 + 2 * t))) a b x y) (p_addItem ν (ν 1) o' z' T I t (ν (1 + (3 + 2 * t))) a b x y) := by
  rw [← e.1, ← (e.2.1 t ht).1]
  unfold p_addItem
  by_cases c1 : s_out a 100 500000 = 0
  · rw [if_pos c1, if_pos c1]
    by_cases c2 : s_out b 30 9999 = 0
    · rw [if_pos c2, if_pos c2]
      by_cases c3 : s_out x 0 9999 = 0
      · rw [if_pos c3, if_pos c3]
        by_cases c4 : s_out y 0 100 = 0
        · rw [if_pos c4, if_pos c4]
          by_cases c5 : μ (1 + (3 + 2 * t)) 2 = 0
          · rw [if_pos c5, if_pos c5]
            by_cases c6 : μ (1 + (3 + 2 * t)) 1 = μ 1 0
            · rw [if_pos c6, if_pos c6]
              have hI24 := h.2.1
              by_cases c7 : nI I < 24
              · rw [if_pos c7, if_pos c7]
                have hI : I < 24 := (nI_ltI (a := I) (b := 24) (by omega) (by omega)).mp c7
                obtain ⟨a1, ha1, ea⟩ := out_n c1 (by decide) (n := 500000) (by decide)
                obtain ⟨b1, hb1, eb⟩ := out_n c2 (by decide) (n := 9999) (by decide)
                obtain ⟨x1, hx1, ex⟩ := out_n c3 (by decide) (n := 9999) (by decide)
                obtain ⟨y1, hy1, ey⟩ := out_n c4 (by decide) (n := 100) (by decide)
                subst ea eb ex ey
                have hv : zV (m_newI (zp μ o z T I) (zp μ o z T I 1) I (nI t) (nI a1) (nI b1) (nI x1) (nI y1)) T (I + 1) := zV_newI (zVP h) hI ht ha1 hb1 hx1 hy1
                rw [zP1] at hv
                refine okS (nI_pos' (by omega)) (fun n hn => ?_) hv (eqv_newI h.1 (eqPP h e))
                unfold m_newI
                rw [zr_ne (by omega), zr_ne (by omega)]
              · rw [if_neg c7, if_neg c7]; exact okE (by decide)
            · rw [if_neg c6, if_neg c6]; exact okE (by decide)
          · rw [if_neg c5, if_neg c5]; exact okE (by decide)
        · rw [if_neg c4, if_neg c4]; exact okE (by decide)
      · rw [if_neg c3, if_neg c3]; exact okE (by decide)
    · rw [if_neg c2, if_neg c2]; exact okE (by decide)
  · rw [if_neg c1, if_neg c1]; exact okE (by decide)
theorem ok_end (h : zV μ T I) (e : eqv T I μ ν) {t : Nat} (ht : t < T) : okP μ o z T I (p_end μ (μ 1) o z T I t (μ (1 + (3 + 2 * t)))) (p_end ν (ν 1) o' z' T I t (ν (1 + (3 + 2 * t)))) := by
  rw [← e.1, ← (e.2.1 t ht).1]
  unfold p_end
  by_cases c1 : μ (1 + (3 + 2 * t)) 2 = 0
  · rw [if_pos c1, if_pos c1]
    have hT6 := h.1
    have hI24 := h.2.1
    obtain ⟨⟨d, b, k, ed, eb, ek, d1, d2, d3⟩, ⟨dep, hdep, edep⟩, _, h4, _⟩ := h.2.2.2.1 t ht
    have hTn : iT (μ 1) (zu (zu (μ (1 + (3 + 2 * t))) 2 1) 3 (μ 1 0)) (μ (1 + (3 + 2 * t) + 1)) := ⟨⟨d, b, d, ed, eb, ed, d1, by omega, Nat.le_refl _⟩, ⟨dep, hdep, edep⟩, ⟨1, by decide, rfl⟩, h4, fun q => absurd (show (1 : Int32) = 3 from q) (by decide)⟩
    obtain ⟨n, hn, en⟩ := b_days hTn
    refine okS (nn en (by omega)) (fun m hm => ?_) (zV_exp (zV_ten (zVP h) ht (by rw [zP1, zp_ne (by omega)]; exact hTn) (fun q => ?_)) en (by omega) (Nat.le_refl I)) (eqv_exp (eqv_zr (eqPP h e)) (Nat.le_refl I))
    · rw [m_exp_ne (fun i hi => by omega), zr_ne (by omega)]
    · rw [zp_ne (by omega), c1] at q
      rcases q with q | q
      · exact absurd q (by decide)
      · exact absurd q (by decide)
  · rw [if_neg c1, if_neg c1]; exact okE (by decide)
theorem ok_claimRent (h : zV μ T I) (e : eqv T I μ ν) {t : Nat} (ht : t < T) (x : Int32) : okP μ o z T I (p_claimRent μ (μ 1) o z T I t (μ (1 + (3 + 2 * t))) x) (p_claimRent ν (ν 1) o' z' T I t (ν (1 + (3 + 2 * t))) x) := by
  rw [← e.1, ← (e.2.1 t ht).1]
  unfold p_claimRent
  by_cases c1 : s_out x 0 1000000 = 0
  · rw [if_pos c1, if_pos c1]
    by_cases c2 : μ (1 + (3 + 2 * t)) 2 = 1
    · rw [if_pos c2, if_pos c2]
      by_cases c3 : μ (1 + (3 + 2 * t)) 4 = x
      · rw [if_pos c3, if_pos c3]; exact okE (by decide)
      · rw [if_neg c3, if_neg c3]
        have hT6 := h.1
        obtain ⟨b, hb, eb⟩ := out_n c1 (by decide) (n := 1000000) (by decide)
        obtain ⟨h1, h2, h3, ⟨r, hr, er⟩, h5⟩ := h.2.2.2.1 t ht
        refine okS (nn er (by omega)) (rows1 (by omega) (by omega)) (zV_ten (zVP h) ht (by rw [zP1, zp_ne (by omega)]; exact ⟨h1, h2, h3, ⟨b, hb, eb⟩, h5⟩) (fun q => ?_)) (eqv_zr (eqPP h e))
        rw [zp_ne (by omega)] at q
        exact q
    · rw [if_neg c2, if_neg c2]; exact okE (by decide)
  · rw [if_neg c1, if_neg c1]; exact okE (by decide)
theorem ok_put (h : zV μ T I) (e : eqv T I μ ν) {t : Nat} (ht : t < T) : okP μ o z T I (p_put μ (μ 1) o z T I t (μ (1 + (3 + 2 * t)))) (p_put ν (ν 1) o' z' T I t (ν (1 + (3 + 2 * t)))) := by
  rw [← e.1, ← (e.2.1 t ht).1]
  unfold p_put
  rw [← s_tot_eq e (Nat.le_refl I)]
  by_cases c1 : μ (1 + (3 + 2 * t)) 2 = 1
  · rw [if_pos c1, if_pos c1]
    have hT6 := h.1
    obtain ⟨N, D, A, C, e4, e5, e6, e1, n1, n2, n3, n4, n5, n6⟩ := b_tot (μ := μ) (T := T) (t := t) h.2.1 (fun j hj => (h.2.2.2.2 j hj).1)
    obtain ⟨h1, h2, h3, h4, h5⟩ := h.2.2.2.1 t ht
    have hI24 := h.2.1
    exact okS (nn e1 (by omega)) (rows1 (by omega) (by omega)) (zV_ten (zVP h) ht (by rw [zP1, zp_ne (by omega)]; exact ⟨h1, h2, ⟨2, by decide, rfl⟩, h4, fun q => absurd (show (2 : Int32) = 3 from q) (by decide)⟩) (fun q => Or.inl rfl)) (eqv_zr (eqPP h e))
  · rw [if_neg c1, if_neg c1]; exact okE (by decide)
theorem ok_close (h : zV μ T I) (e : eqv T I μ ν) {t : Nat} (ht : t < T) : okP μ o z T I (p_close μ (μ 1) o z T I t (μ (1 + (3 + 2 * t)))) (p_close ν (ν 1) o' z' T I t (ν (1 + (3 + 2 * t)))) := by
  rw [← e.1, ← (e.2.1 t ht).1]
  unfold p_close
  rw [← s_settle_cg (eqPP (o := o) (z := z) (o' := o') (z' := z') h e)]
  by_cases c1 : μ (1 + (3 + 2 * t)) 2 = 2
  · rw [if_pos c1, if_pos c1]
    have hT6 := h.1
    have h3 : ¬ zp μ o z T I (1 + (3 + 2 * t)) 2 = 3 := by rw [zp_ne (by omega), c1]; decide
    obtain ⟨N, l, db, tf, lf, fee, D, e4, hN, ef, hf, g1, g2, e1, e5, ee3, ee4, l1, l2, l3, l4, l5, l6, l7⟩ := b_settle (zVP (o := o) (z := z) h) ht h3
    rw [zP1, zp_ne (show 1 + (3 + 2 * t) < 79 ∨ 237 ≤ 1 + (3 + 2 * t) by omega)] at g1 g2 e1 e5
    obtain ⟨h1, h2, _, h4, _⟩ := h.2.2.2.1 t ht
    generalize s_settle (zp μ o z T I) (μ 1) (μ (1 + (3 + 2 * t))) t I = S at g1 g2 e1 e5 ⊢
    refine okS (nn e1 (by omega)) (fun n hn => ?_) (zV_ten (zV_set (zVP h) (by omega) (fun _ => h3)) ht ?_ (fun q => Or.inr rfl)) (eqv_zr (eqv_zr (eqPP h e)))
    · rw [zr_ne (by omega), zr_ne (by omega)]
    · rw [zr_ne (by omega), zP1, zr_same]
      refine ⟨h1, h2, ⟨3, by decide, rfl⟩, h4, fun q => ⟨g1, g2, ?_⟩⟩
      rw [e5, e1]
      rcases l3 with rfl | rfl
      · exact Or.inr (by decide)
      · exact Or.inl (by decide)
  · rw [if_neg c1, if_neg c1]; exact okE (by decide)
theorem ok_inspect (h : zV μ T I) (e : eqv T I μ ν) {j : Nat} (hj : j < I) (x : Int32) : okP μ o z T I (p_inspect μ (μ 1) o z T I j (μ (1 + (15 + j))) (z_home μ (μ (1 + (15 + j)))) x) (p_inspect ν (ν 1) o' z' T I j (ν (1 + (15 + j))) (z_home ν (ν (1 + (15 + j)))) x) := by
  rw [home_cg h e hj, ← e.1, ← e.2.2 j hj]
  unfold p_inspect
  by_cases c1 : s_out x 0 100 = 0
  · rw [if_pos c1, if_pos c1]
    by_cases c2 : z_home μ (μ (1 + (15 + j))) 2 = 1
    · rw [if_pos c2, if_pos c2]
      by_cases c3 : μ (1 + (15 + j)) 5 = x
      · rw [if_pos c3, if_pos c3]; exact okE (by decide)
      · rw [if_neg c3, if_neg c3]
        have hI24 := h.2.1
        obtain ⟨b, hb, eb⟩ := out_n c1 (by decide) (n := 100) (by decide)
        obtain ⟨k, hk, ek, eh⟩ := zV_home h hj
        obtain ⟨n, hn, en⟩ := b_days (h.2.2.2.1 k hk)
        rw [← eh] at en
        obtain ⟨hf, hs⟩ := h.2.2.2.2 j hj
        have hf2 := iI_tell hf en (by omega) eb hb
        obtain ⟨_, ⟨v, d, c, f1, f6, f7, v1, v2, v3⟩, _⟩ := id hf2
        refine okS (nn f6 (by omega)) (rows1 (by omega) (by omega)) (zV_itm (zVP h) hj hf2 (by rw [zp_ne (by omega)]; rfl) ?_) (eqv_zr (eqPP h e))
        rw [zP_home h hj]
        exact hs
    · rw [if_neg c2, if_neg c2]; exact okE (by decide)
  · rw [if_neg c1, if_neg c1]; exact okE (by decide)
theorem ok_claim (h : zV μ T I) (e : eqv T I μ ν) {j : Nat} (hj : j < I) (x : Int32) : okP μ o z T I (p_claim μ (μ 1) o z T I j (μ (1 + (15 + j))) (z_home μ (μ (1 + (15 + j)))) x) (p_claim ν (ν 1) o' z' T I j (ν (1 + (15 + j))) (z_home ν (ν (1 + (15 + j)))) x) := by
  rw [home_cg h e hj, ← e.1, ← e.2.2 j hj]
  unfold p_claim
  by_cases c1 : s_out x 0 (μ (1 + (15 + j)) 1) = 0
  · rw [if_pos c1, if_pos c1]
    by_cases c2 : z_home μ (μ (1 + (15 + j))) 2 = 1
    · rw [if_pos c2, if_pos c2]
      by_cases c3 : μ (1 + (15 + j)) 7 = x
      · rw [if_pos c3, if_pos c3]; exact okE (by decide)
      · rw [if_neg c3, if_neg c3]
        have hI24 := h.2.1
        obtain ⟨⟨a0, ⟨v, d, c, f1, f6, f7, v1, v2, v3⟩, a2, a3, a4, a5, a6, a7, a8, a9⟩, hs⟩ := h.2.2.2.2 j hj
        obtain ⟨b, hb, eb⟩ := out_n c1 (by decide) (n := v) (by rw [f1]; exact nI_toInt (by omega))
        have h8 : μ (1 + (15 + j)) 8 = 0 := by
          refine Classical.byContradiction fun q => ?_
          have := hs q
          rw [c2] at this
          rcases this with q | q
          · exact absurd q (by decide)
          · exact absurd q (by decide)
        have hf2 : iI (zu (μ (1 + (15 + j))) 7 x) T := ⟨a0, ⟨v, d, b, f1, f6, eb, v1, v2, hb⟩, a2, a3, a4, a5, a6, fun q => absurd (h8.symm.trans q) (by decide), a8, a9⟩
        refine okS (nn f7 (by omega)) (rows1 (by omega) (by omega)) (zV_itm (zVP h) hj hf2 (by rw [zp_ne (by omega)]; rfl) ?_) (eqv_zr (eqPP h e))
        intro q
        exact absurd h8 q
    · rw [if_neg c2, if_neg c2]; exact okE (by decide)
  · rw [if_neg c1, if_neg c1]; exact okE (by decide)
theorem ok_answer (h : zV μ T I) (e : eqv T I μ ν) {j : Nat} (hj : j < I) (x : Int32) : okP μ o z T I (p_answer μ (μ 1) o z T I j (μ (1 + (15 + j))) (z_home μ (μ (1 + (15 + j)))) x) (p_answer ν (ν 1) o' z' T I j (ν (1 + (15 + j))) (z_home ν (ν (1 + (15 + j)))) x) := by
  rw [home_cg h e hj, ← e.1, ← e.2.2 j hj]
  unfold p_answer
  by_cases c1 : s_X1_can (μ (1 + (15 + j))) (z_home μ (μ (1 + (15 + j)))) = 0
  · rw [if_pos c1, if_pos c1]; exact okE (by decide)
  · rw [if_neg c1, if_neg c1]
    have hI24 := h.2.1
    have hcan : z_home μ (μ (1 + (15 + j))) 2 = 2 ∧ ¬ μ (1 + (15 + j)) 7 ≤ 0 := by
      unfold s_X1_can at c1
      by_cases q : z_home μ (μ (1 + (15 + j))) 2 = 2
      · rw [if_pos q] at c1
        by_cases q2 : μ (1 + (15 + j)) 7 ≤ 0
        · rw [if_pos q2] at c1; exact absurd rfl c1
        · exact ⟨q, q2⟩
      · rw [if_neg q] at c1; exact absurd rfl c1
    obtain ⟨⟨a0, a1, a2, a3, a4, a5, ⟨rp, hrp, erp⟩, a7, a8, a9⟩, hs⟩ := h.2.2.2.2 j hj
    have h7 : ¬ μ (1 + (15 + j)) 7 = 0 := fun q => hcan.2 (by rw [q]; decide)
    have done : ∀ w : Nat, w ≤ 2 → okP μ o z T I (μ (1 + (15 + j)) 8, zr (zp μ o z T I) (1 + (15 + j)) (zu (μ (1 + (15 + j))) 8 (nI w))) (μ (1 + (15 + j)) 8, zr (zp ν o' z' T I) (1 + (15 + j)) (zu (μ (1 + (15 + j))) 8 (nI w))) := by
      intro w hw
      have hf2 : iI (zu (μ (1 + (15 + j))) 8 (nI w)) T := ⟨a0, a1, a2, a3, a4, a5, ⟨w, hw, rfl⟩, fun _ => h7, a8, a9⟩
      refine okS (nn erp (by omega)) (rows1 (by omega) (by omega)) (zV_itm (zVP h) hj hf2 (by rw [zp_ne (by omega)]; rfl) ?_) (eqv_zr (eqPP h e))
      rw [zP_home h hj]
      exact fun _ => Or.inl hcan.1
    by_cases c2 : x = 0
    · rw [if_pos c2, if_pos c2]
      by_cases c3 : μ (1 + (15 + j)) 8 = 2
      · rw [if_pos c3, if_pos c3]; exact okE (by decide)
      · rw [if_neg c3, if_neg c3]; exact done 2 (by decide)
    · rw [if_neg c2, if_neg c2]
      by_cases c3 : μ (1 + (15 + j)) 8 = 1
      · rw [if_pos c3, if_pos c3]; exact okE (by decide)
      · rw [if_neg c3, if_neg c3]; exact done 1 (by decide)
theorem ok_setEvidence (h : zV μ T I) (e : eqv T I μ ν) {j : Nat} (hj : j < I) (x y : Int32) : okP μ o z T I (p_setEvidence μ (μ 1) o z T I j (μ (1 + (15 + j))) (z_home μ (μ (1 + (15 + j)))) x y) (p_setEvidence ν (ν 1) o' z' T I j (ν (1 + (15 + j))) (z_home ν (ν (1 + (15 + j)))) x y) := by
  rw [home_cg h e hj, ← e.1, ← e.2.2 j hj]
  unfold p_setEvidence
  by_cases c1 : s_out x 0 10 = 0
  · rw [if_pos c1, if_pos c1]
    by_cases c2 : s_out y 0 10 = 0
    · rw [if_pos c2, if_pos c2]
      have hI24 := h.2.1
      obtain ⟨x1, hx1, ex⟩ := out_n c1 (by decide) (n := 10) (by decide)
      obtain ⟨y1, hy1, ey⟩ := out_n c2 (by decide) (n := 10) (by decide)
      obtain ⟨⟨a0, ⟨v, d, c, f1, f6, f7, v1, v2, v3⟩, a2, a3, a4, a5, a6, a7, a8, a9⟩, hs⟩ := h.2.2.2.2 j hj
      have hf2 : iI (zu (zu (μ (1 + (15 + j))) 9 x) 10 y) T := ⟨a0, ⟨v, d, c, f1, f6, f7, v1, v2, v3⟩, a2, a3, a4, a5, a6, a7, ⟨x1, hx1, ex⟩, ⟨y1, hy1, ey⟩⟩
      obtain ⟨a, ea, b1, _⟩ := b_award (f := zu (zu (μ (1 + (15 + j))) 9 x) 10 y) ex hx1 ey hy1 f6 (by omega) f7 (by omega)
      have done : okP μ o z T I (s_X3_award (zu (zu (μ (1 + (15 + j))) 9 x) 10 y), zr (zp μ o z T I) (1 + (15 + j)) (zu (zu (μ (1 + (15 + j))) 9 x) 10 y)) (s_X3_award (zu (zu (μ (1 + (15 + j))) 9 x) 10 y), zr (zp ν o' z' T I) (1 + (15 + j)) (zu (zu (μ (1 + (15 + j))) 9 x) 10 y)) := by
        refine okS (nn ea (by omega)) (rows1 (by omega) (by omega)) (zV_itm (zVP h) hj hf2 (by rw [zp_ne (by omega)]; rfl) ?_) (eqv_zr (eqPP h e))
        rw [zP_home h hj]
        exact hs
      by_cases c3 : z_home μ (μ (1 + (15 + j))) 2 = 1
      · rw [if_pos c3, if_pos c3]; exact done
      · rw [if_neg c3, if_neg c3]
        by_cases c4 : z_home μ (μ (1 + (15 + j))) 2 = 2
        · rw [if_pos c4, if_pos c4]; exact done
        · rw [if_neg c4, if_neg c4]; exact okE (by decide)
    · rw [if_neg c2, if_neg c2]; exact okE (by decide)
  · rw [if_neg c1, if_neg c1]; exact okE (by decide)
end OK
