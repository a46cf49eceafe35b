/-! updates that keep the invariant -/
theorem zr_w {μ : zM} {n j : Nat} {f : Nat → Int32} : zr μ n f j = if j = n then f else μ j := rfl
theorem iT_day {fb fb' g gs : Nat → Int32} {d d' : Nat} (h : iT fb g gs) (e : fb 0 = nI d) (e' : fb' 0 = nI d') (hd : d ≤ d') (h9 : d' ≤ 99999) : iT fb' g gs := by
  obtain ⟨⟨x, b, k, ex, eb, ek, x1, x2, x3⟩, h2⟩ := h
  have : x = d := (nI_eq (by omega) (by omega)).mp (ex.symm.trans e)
  exact ⟨⟨d', b, k, e', eb, ek, h9, x2, by omega⟩, h2⟩
theorem zV_book {M : zM} {T I d d' : Nat} {fb' : Nat → Int32} (h : zV M T I) (hB : iB fb' T I) (e : M 1 0 = nI d) (e' : fb' 0 = nI d') (hd : d ≤ d') (h9 : d' ≤ 99999) : zV (zr M 1 fb') T I := by
  obtain ⟨h1, h2, h3, h4, h5⟩ := h
  refine ⟨h1, h2, by rw [zr_same]; exact hB, fun t ht => ?_, fun j hj => ?_⟩
  · rw [zr_same, zr_ne (by omega), zr_ne (by omega)]
    exact iT_day (h4 t ht) e e' hd h9
  · rw [zr_ne (by omega)]
    obtain ⟨g1, g2⟩ := h5 j hj
    refine ⟨g1, ?_⟩
    unfold z_home at g2 ⊢
    rw [zr_ne (by omega)]
    exact g2
theorem zV_ten {M : zM} {T I t : Nat} {g' : Nat → Int32} (h : zV M T I) (ht : t < T) (hT : iT (M 1) g' (M (1 + (3 + 2 * t) + 1))) (hs : M (1 + (3 + 2 * t)) 2 = 2 ∨ M (1 + (3 + 2 * t)) 2 = 3 → g' 2 = 2 ∨ g' 2 = 3) : zV (zr M (1 + (3 + 2 * t)) g') T I := by
  obtain ⟨h1, h2, h3, h4, h5⟩ := h
  refine ⟨h1, h2, by rw [zr_ne (by omega)]; exact h3, fun i hi => ?_, fun j hj => ?_⟩
  · rw [zr_ne (show 1 ≠ 1 + (3 + 2 * t) by omega), zr_ne (show 1 + (3 + 2 * i) + 1 ≠ 1 + (3 + 2 * t) by omega)]
    by_cases hit : i = t
    · subst hit
      rw [zr_same]
      exact hT
    · rw [zr_ne (by omega)]
      exact h4 i hi
  · rw [zr_ne (by omega)]
    obtain ⟨g1, g2⟩ := h5 j hj
    refine ⟨g1, fun h8 => ?_⟩
    have g2 := g2 h8
    obtain ⟨k, hk, ek⟩ := g1.1
    unfold z_home at g2 ⊢
    rw [ek, nI_clamp (by omega)] at g2 ⊢
    by_cases hkt : k = t
    · subst hkt
      rw [zr_same]
      exact hs g2
    · rw [zr_ne (by omega)]
      exact g2
theorem zV_set {M : zM} {T I t : Nat} {S : Nat → Int32} (h : zV M T I) (hT6 : t < 6) (hs : t < T → ¬ M (1 + (3 + 2 * t)) 2 = 3) : zV (zr M (1 + (3 + 2 * t) + 1) S) T I := by
  obtain ⟨h1, h2, h3, h4, h5⟩ := h
  refine ⟨h1, h2, by rw [zr_ne (by omega)]; exact h3, fun i hi => ?_, fun j hj => ?_⟩
  · rw [zr_ne (show 1 ≠ 1 + (3 + 2 * t) + 1 by omega), zr_ne (show 1 + (3 + 2 * i) ≠ 1 + (3 + 2 * t) + 1 by omega)]
    by_cases hit : i = t
    · subst hit
      obtain ⟨a1, a2, a3, a4, _⟩ := h4 i hi
      exact ⟨a1, a2, a3, a4, fun e => absurd e (hs hi)⟩
    · rw [zr_ne (by omega)]
      exact h4 i hi
  · rw [zr_ne (by omega)]
    obtain ⟨g1, g2⟩ := h5 j hj
    refine ⟨g1, ?_⟩
    obtain ⟨k, hk, ek⟩ := g1.1
    unfold z_home at g2 ⊢
    rw [ek, nI_clamp (by omega)] at g2 ⊢
    rw [zr_ne (by omega)]
    exact g2
theorem zV_itm {M : zM} {T I j : Nat} {f' : Nat → Int32} (h : zV M T I) (hj : j < I) (hI : iI f' T) (he : f' 0 = M (1 + (15 + j)) 0) (hs : ¬ f' 8 = 0 → z_home M (M (1 + (15 + j))) 2 = 2 ∨ z_home M (M (1 + (15 + j))) 2 = 3) : zV (zr M (1 + (15 + j)) f') T I := by
  obtain ⟨h1, h2, h3, h4, h5⟩ := h
  refine ⟨h1, h2, by rw [zr_ne (by omega)]; exact h3, fun i hi => ?_, fun k hk => ?_⟩
  · rw [zr_ne (show 1 ≠ 1 + (15 + j) by omega), zr_ne (by omega), zr_ne (by omega)]
    exact h4 i hi
  · by_cases hkj : k = j
    · subst hkj
      rw [zr_same]
      refine ⟨hI, fun h8 => ?_⟩
      have hs := hs h8
      obtain ⟨q, hq, eq⟩ := hI.1
      unfold z_home at hs ⊢
      rw [← he] at hs
      rw [eq, nI_clamp (by omega)] at hs ⊢
      rw [zr_ne (by omega)]
      exact hs
    · rw [zr_ne (by omega)]
      obtain ⟨g1, g2⟩ := h5 k hk
      refine ⟨g1, fun h8 => ?_⟩
      have g2 := g2 h8
      obtain ⟨q, hq, eq⟩ := g1.1
      unfold z_home at g2 ⊢
      rw [eq, nI_clamp (by omega)] at g2 ⊢
      rw [zr_ne (by omega)]
      exact g2
theorem zV_addT {M : zM} {T I x : Nat} (h : zV M T I) (hT : T < 6) (hx : x ≤ 1000000) : zV (m_addT M (M 1) T (nI x)) (T + 1) I := by
  obtain ⟨h1, h2, ⟨⟨d, hd, ed⟩, b2, b3, b4, b5⟩, h4, h5⟩ := h
  unfold m_addT
  refine ⟨hT, h2, ?_, fun i hi => ?_, fun j hj => ?_⟩
  · rw [zr_ne (by omega), zr_ne (by omega), zr_same]
    exact ⟨⟨d, hd, ed⟩, b2, b3, rfl, b5⟩
  · rw [zr_ne (show 1 ≠ 1 + (3 + 2 * T) + 1 by omega), zr_ne (show 1 ≠ 1 + (3 + 2 * T) by omega), zr_same]
    by_cases hiT : i = T
    · subst hiT
      rw [zr_same, zr_ne (by omega), zr_same]
      refine ⟨⟨d, d, d, ed, ed, ed, hd, Nat.le_refl _, Nat.le_refl _⟩, ⟨x, hx, rfl⟩, ⟨0, by decide, rfl⟩, ⟨0, by decide, rfl⟩, fun e => ?_⟩
      exact absurd (show (0 : Int32) = 3 from e) (by decide)
    · rw [zr_ne (by omega), zr_ne (by omega), zr_ne (by omega), zr_ne (by omega), zr_ne (by omega), zr_ne (by omega)]
      exact iT_day (h4 i (by omega)) ed (show zu (M 1) 3 (nI (T + 1)) 0 = nI d from ed) (Nat.le_refl _) hd
  · rw [zr_ne (by omega), zr_ne (by omega), zr_ne (by omega)]
    obtain ⟨g1, g2⟩ := h5 j hj
    obtain ⟨⟨q, hq, eq⟩, g3⟩ := g1
    refine ⟨⟨⟨q, by omega, eq⟩, g3⟩, fun h8 => ?_⟩
    have g2 := g2 h8
    unfold z_home at g2 ⊢
    rw [eq, nI_clamp (by omega)] at g2 ⊢
    rw [zr_ne (by omega), zr_ne (by omega), zr_ne (by omega)]
    exact g2
theorem zV_newI {M : zM} {T I t a b x y : Nat} (h : zV M T I) (hI : I < 24) (ht : t < T) (ha : a ≤ 500000) (hb : b ≤ 9999) (hx : x ≤ 9999) (hy : y ≤ 100) : zV (m_newI M (M 1) I (nI t) (nI a) (nI b) (nI x) (nI y)) T (I + 1) := by
  obtain ⟨h1, h2, ⟨⟨d, hd, ed⟩, b2, b3, b4, b5⟩, h4, h5⟩ := h
  unfold m_newI
  refine ⟨h1, hI, ?_, fun i hi => ?_, fun j hj => ?_⟩
  · rw [zr_ne (by omega), zr_same]
    exact ⟨⟨d, hd, ed⟩, b2, b3, b4, rfl⟩
  · rw [zr_ne (show 1 ≠ 1 + (15 + I) by omega), zr_same, zr_ne (by omega), zr_ne (by omega), zr_ne (by omega), zr_ne (by omega)]
    exact iT_day (h4 i hi) ed (show zu (M 1) 4 (nI (I + 1)) 0 = nI d from ed) (Nat.le_refl _) hd
  · by_cases hjI : j = I
    · subst hjI
      rw [zr_same]
      refine ⟨⟨⟨t, ht, rfl⟩, ⟨a, 0, 0, rfl, rfl, rfl, ha, Nat.zero_le _, Nat.zero_le _⟩, ⟨b, hb, rfl⟩, ⟨x, hx, rfl⟩, ⟨y, hy, rfl⟩, ⟨0, by decide, rfl⟩, ⟨0, by decide, rfl⟩, fun e => absurd (show (0 : Int32) = 2 from e) (by decide), ⟨0, by decide, rfl⟩, ⟨0, by decide, rfl⟩⟩, fun e => absurd rfl e⟩
    · rw [zr_ne (by omega), zr_ne (by omega)]
      obtain ⟨g1, g2⟩ := h5 j (by omega)
      refine ⟨g1, fun h8 => ?_⟩
      have g2 := g2 h8
      obtain ⟨q, hq, eq⟩ := g1.1
      unfold z_home at g2 ⊢
      rw [eq, nI_clamp (by omega)] at g2 ⊢
      rw [zr_ne (by omega), zr_ne (by omega)]
      exact g2
/-- an item told its end -/
theorem iI_tell {f : Nat → Int32} {T : Nat} {a b : Int32} {n m : Nat} (h : iI f T) (ha : a = nI n) (hn : n ≤ 200000) (hb : b = nI m) (hm : m ≤ 100) : iI (w_X3_tellEnd f a b) T := by
  obtain ⟨h0, ⟨v, d, c, f1, f6, f7, v1, v2, v3⟩, ⟨l, hl, el⟩, ⟨ag, hag, eag⟩, ⟨cd, hcd, ecd⟩, _, h8, g8, hp, hq⟩ := h
  obtain ⟨k, hk, ek⟩ := b_due (f := zu f 5 b) ha hn el hl eag hag ecd hcd hb hm f1 v1
  exact ⟨h0, ⟨v, k, c, f1, ek, f7, v1, hk, v3⟩, ⟨l, hl, el⟩, ⟨ag, hag, eag⟩, ⟨cd, hcd, ecd⟩, ⟨m, hm, hb⟩, h8, g8, hp, hq⟩
theorem zV_exp {M : zM} {T I t n : Nat} {d : Int32} (h : zV M T I) (hd : d = nI n) (hn : n ≤ 200000) : ∀ {I' : Nat}, I' ≤ I → zV (m_exp M t d I') T I
  | 0, _ => h
  | j + 1, hj => by
    have ih := zV_exp (t := t) h hd hn (I' := j) (by omega)
    have hI := h.2.1
    have st : m_exp M t d (j + 1) = if M (1 + (15 + j)) 0 = nI t then zr (m_exp M t d j) (1 + (15 + j)) (w_X3_tellEnd (M (1 + (15 + j))) d (s_X3_fairAfter (M (1 + (15 + j))) d)) else m_exp M t d j := rfl
    rw [st]
    by_cases hh : M (1 + (15 + j)) 0 = nI t
    · rw [if_pos hh]
      have er : m_exp M t d j (1 + (15 + j)) = M (1 + (15 + j)) := m_exp_ne (fun i hi => by omega)
      obtain ⟨hf, _⟩ := h.2.2.2.2 j (by omega)
      obtain ⟨l, hl, el⟩ := hf.2.2.1
      obtain ⟨cd, hcd, ecd⟩ := hf.2.2.2.2.1
      obtain ⟨fr, hfr, efr⟩ := b_fair (f := M (1 + (15 + j))) hd hn el hl ecd hcd
      refine zV_itm ih (by omega) (iI_tell hf hd hn efr (by omega)) (by rw [er]; rfl) ?_
      have := (ih.2.2.2.2 j (by omega)).2
      rw [er] at this ⊢
      exact this
    · rw [if_neg hh]
      exact ih
/-- the same row put -/
theorem eqv_zr {T I n : Nat} {μ ν : zM} {f : Nat → Int32} (h : eqv T I μ ν) : eqv T I (zr μ n f) (zr ν n f) := by
  have hh : ∀ k, μ k = ν k → zr μ n f k = zr ν n f k := fun k e => by rw [zr_w, zr_w, e]
  exact ⟨hh _ h.1, fun i hi => ⟨hh _ (h.2.1 i hi).1, hh _ (h.2.1 i hi).2⟩, fun j hj => hh _ (h.2.2 j hj)⟩
theorem eqv_exp {T I t : Nat} {d : Int32} {μ ν : zM} (h : eqv T I μ ν) : ∀ {I' : Nat}, I' ≤ I → eqv T I (m_exp μ t d I') (m_exp ν t d I')
  | 0, _ => h
  | j + 1, hj => by
    have ih := eqv_exp (t := t) (d := d) h (I' := j) (by omega)
    have st : ∀ M : zM, m_exp M t d (j + 1) = if M (1 + (15 + j)) 0 = nI t then zr (m_exp M t d j) (1 + (15 + j)) (w_X3_tellEnd (M (1 + (15 + j))) d (s_X3_fairAfter (M (1 + (15 + j))) d)) else m_exp M t d j := fun _ => rfl
    rw [st, st, h.2.2 j (by omega)]
    by_cases hh : ν (1 + (15 + j)) 0 = nI t
    · rw [if_pos hh, if_pos hh]
      exact eqv_zr ih
    · rw [if_neg hh, if_neg hh]
      exact ih
theorem eqv_addT {T I : Nat} {fb : Nat → Int32} {x : Int32} {μ ν : zM} (hT : T < 6) (h : eqv T I μ ν) : eqv (T + 1) I (m_addT μ fb T x) (m_addT ν fb T x) := by
  unfold m_addT
  refine ⟨?_, fun i hi => ?_, fun j hj => ?_⟩
  · rw [zr_ne (by omega), zr_ne (by omega), zr_same, zr_ne (by omega), zr_ne (by omega), zr_same]
  · by_cases hiT : i = T
    · subst hiT
      rw [zr_ne (by omega), zr_same, zr_ne (by omega), zr_same, zr_same, zr_same]
      exact ⟨rfl, rfl⟩
    · have e := h.2.1 i (by omega)
      exact ⟨by rw [zr_ne (by omega), zr_ne (by omega), zr_ne (by omega), zr_ne (by omega), zr_ne (by omega), zr_ne (by omega)]; exact e.1, by rw [zr_ne (by omega), zr_ne (by omega), zr_ne (by omega), zr_ne (by omega), zr_ne (by omega), zr_ne (by omega)]; exact e.2⟩
  · rw [zr_ne (by omega), zr_ne (by omega), zr_ne (by omega), zr_ne (by omega), zr_ne (by omega), zr_ne (by omega)]
    exact h.2.2 j hj
theorem eqv_newI {T I : Nat} {fb : Nat → Int32} {t a b x y : Int32} {μ ν : zM} (hT : T ≤ 6) (h : eqv T I μ ν) : eqv T (I + 1) (m_newI μ fb I t a b x y) (m_newI ν fb I t a b x y) := by
  unfold m_newI
  refine ⟨?_, fun i hi => ?_, fun j hj => ?_⟩
  · rw [zr_ne (by omega), zr_same, zr_ne (by omega), zr_same]
  · have e := h.2.1 i hi
    exact ⟨by rw [zr_ne (by omega), zr_ne (by omega), zr_ne (by omega), zr_ne (by omega)]; exact e.1, by rw [zr_ne (by omega), zr_ne (by omega), zr_ne (by omega), zr_ne (by omega)]; exact e.2⟩
  · by_cases hjI : j = I
    · subst hjI
      rw [zr_same, zr_same]
    · rw [zr_ne (by omega), zr_ne (by omega), zr_ne (by omega), zr_ne (by omega)]
      exact h.2.2 j (by omega)
