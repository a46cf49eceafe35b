/-! what is told depends on the live rows of the book alone -/
def eqv (T I : Nat) (μ ν : zM) : Prop := μ 1 = ν 1 ∧ (∀ i, i < T → μ (1 + (3 + 2 * i)) = ν (1 + (3 + 2 * i)) ∧ μ (1 + (3 + 2 * i) + 1) = ν (1 + (3 + 2 * i) + 1)) ∧ ∀ j, j < I → μ (1 + (15 + j)) = ν (1 + (15 + j))
theorem eqv.rf {T I : Nat} {μ : zM} : eqv T I μ μ := ⟨rfl, fun _ _ => ⟨rfl, rfl⟩, fun _ _ => rfl⟩
theorem eqv.symm {T I : Nat} {μ ν : zM} (h : eqv T I μ ν) : eqv T I ν μ := ⟨h.1.symm, fun i hi => ⟨(h.2.1 i hi).1.symm, (h.2.1 i hi).2.symm⟩, fun j hj => (h.2.2 j hj).symm⟩
theorem eqv.trans {T I : Nat} {μ ν ρ : zM} (h : eqv T I μ ν) (h2 : eqv T I ν ρ) : eqv T I μ ρ := ⟨h.1.trans h2.1, fun i hi => ⟨(h.2.1 i hi).1.trans (h2.2.1 i hi).1, (h.2.1 i hi).2.trans (h2.2.1 i hi).2⟩, fun j hj => (h.2.2 j hj).trans (h2.2.2 j hj)⟩
theorem eqv.off {T I : Nat} {μ ν : zM} (hT : T ≤ 6) (hI : I ≤ 24) (h : ∀ n, 1 ≤ n → n < 40 → μ n = ν n) : eqv T I μ ν := ⟨h 1 (by omega) (by omega), fun i hi => ⟨h _ (by omega) (by omega), h _ (by omega) (by omega)⟩, fun j hj => h _ (by omega) (by omega)⟩
theorem eqv_242 {T I : Nat} {μ : zM} {q : Nat → Int32} (hT : T ≤ 6) (hI : I ≤ 24) : eqv T I (zr μ 242 q) μ := eqv.off hT hI (fun n h1 h2 => zr_ne (by omega))
theorem s_tin_cg {T I q : Nat} {μ ν : zM} (h : eqv T I μ ν) : ∀ {T' : Nat}, T' ≤ T → s_tin μ q T' = s_tin ν q T'
  | 0, _ => rfl
  | i + 1, hi => by
    show (if μ (1 + (3 + 2 * i)) 2 = nI q then s_tin μ q i + 1 else s_tin μ q i) = (if ν (1 + (3 + 2 * i)) 2 = nI q then s_tin ν q i + 1 else s_tin ν q i)
    rw [(h.2.1 i hi).1, s_tin_cg h (Nat.le_of_succ_le hi)]
theorem s_cls_cg {T I w : Nat} {μ ν : zM} (h : eqv T I μ ν) : ∀ {T' : Nat}, T' ≤ T → s_cls μ w T' = s_cls ν w T'
  | 0, _ => rfl
  | i + 1, hi => by
    show (if μ (1 + (3 + 2 * i)) 2 = 3 then s_cls μ w i + s_X4_part (μ (1 + (3 + 2 * i) + 1)) w else s_cls μ w i) = (if ν (1 + (3 + 2 * i)) 2 = 3 then s_cls ν w i + s_X4_part (ν (1 + (3 + 2 * i) + 1)) w else s_cls ν w i)
    rw [(h.2.1 i hi).1, (h.2.1 i hi).2, s_cls_cg h (Nat.le_of_succ_le hi)]
theorem s_tot_eq {T I t w : Nat} {μ ν : zM} (h : eqv T I μ ν) : ∀ {I' : Nat}, I' ≤ I → s_tot μ t w I' = s_tot ν t w I'
  | 0, _ => rfl
  | j + 1, hj => by
    show (if μ (1 + (15 + j)) 0 = nI t then s_tot μ t w j + s_share (μ (1 + (15 + j))) w else s_tot μ t w j) = (if ν (1 + (15 + j)) 0 = nI t then s_tot ν t w j + s_share (ν (1 + (15 + j))) w else s_tot ν t w j)
    rw [h.2.2 j hj, s_tot_eq h (Nat.le_of_succ_le hj)]
theorem s_pay_cg {T I t : Nat} {μ ν : zM} {r : Nat → Int32} (h : eqv T I μ ν) : ∀ {I' : Nat}, I' ≤ I → s_pay μ t r I' = s_pay ν t r I'
  | 0, _ => rfl
  | j + 1, hj => by
    show (if μ (1 + (15 + j)) 0 = nI t then w_X4_payLandlord (s_pay μ t r j) (s_X3_award (μ (1 + (15 + j)))) else s_pay μ t r j) = (if ν (1 + (15 + j)) 0 = nI t then w_X4_payLandlord (s_pay ν t r j) (s_X3_award (ν (1 + (15 + j)))) else s_pay ν t r j)
    rw [h.2.2 j hj, s_pay_cg h (Nat.le_of_succ_le hj)]
theorem s_settle_cg {T I t : Nat} {μ ν : zM} {fb g : Nat → Int32} (h : eqv T I μ ν) : s_settle μ fb g t I = s_settle ν fb g t I := by
  unfold s_settle s_fee s_lf
  rw [s_tot_eq h (Nat.le_refl I), s_tot_eq h (Nat.le_refl I), s_pay_cg h (Nat.le_refl I)]
theorem s_oc_cg {T I t w : Nat} {μ ν : zM} {fb g gs : Nat → Int32} (h : eqv T I μ ν) : s_oc μ fb g gs t I w = s_oc ν fb g gs t I w := by
  unfold s_oc
  rw [s_settle_cg h]
theorem s_ten_cg {T I t w : Nat} {μ ν : zM} {fb g : Nat → Int32} (h : eqv T I μ ν) : s_ten μ fb g t I w = s_ten ν fb g t I w := by
  unfold s_ten
  rw [s_tot_eq h (Nat.le_refl I), s_tot_eq h (Nat.le_refl I), s_tot_eq h (Nat.le_refl I), s_tot_eq h (Nat.le_refl I)]
theorem s_cnt_cg {T I z w : Nat} {μ ν : zM} {fb : Nat → Int32} (h : eqv T I μ ν) : s_cnt μ fb T I z w = s_cnt ν fb T I z w := by
  unfold s_cnt
  rw [s_tin_cg h (Nat.le_refl T), s_tin_cg h (Nat.le_refl T), s_tin_cg h (Nat.le_refl T), s_tin_cg h (Nat.le_refl T), s_cls_cg h (Nat.le_refl T), s_cls_cg h (Nat.le_refl T), s_cls_cg h (Nat.le_refl T), s_cls_cg h (Nat.le_refl T)]
theorem s_cnt_z {μ : zM} {fb : Nat → Int32} {T I z w : Nat} (hw : w < 12) : s_cnt μ fb T I z w = s_cnt μ fb T I 0 w := by
  have hcs : w = 0 ∨ w = 1 ∨ w = 2 ∨ w = 3 ∨ w = 4 ∨ w = 5 ∨ w = 6 ∨ w = 7 ∨ w = 8 ∨ w = 9 ∨ w = 10 ∨ w = 11 := by omega
  rcases hcs with rfl | rfl | rfl | rfl | rfl | rfl | rfl | rfl | rfl | rfl | rfl | rfl <;> rfl
theorem m_oc_242 {μ : zM} {fb g : Nat → Int32} {t I : Nat} (q : Nat → Int32) : ∃ q2, m_oc (zr μ 242 q) fb g t I = zr μ 242 q2 := by
  unfold m_oc
  split
  · exact ⟨q, rfl⟩
  · split
    · exact ⟨q, rfl⟩
    · exact ⟨_, zr_zr⟩
/-- the digest -/
def d_0 (fb : Nat → Int32) : Int64 := 93 + (FP.f2i (FP.fmul (Int32.toUInt32 (fb 2)) 1315859240)).toInt64
def d_cnt (μ : zM) (fb : Nat → Int32) (T I : Nat) (h : Int64) : Nat → Int64
  | 0 => h
  | w + 1 => 31 * d_cnt μ fb T I h w + (s_cnt μ fb T I 0 w).toInt64
def d_ten (μ : zM) (fb g : Nat → Int32) (t I : Nat) (h : Int64) : Nat → Int64
  | 0 => h
  | w + 1 => 31 * d_ten μ fb g t I h w + (s_ten μ fb g t I w).toInt64
def d_oc (μ : zM) (fb g gs : Nat → Int32) (t I : Nat) (h : Int64) : Nat → Int64
  | 0 => h
  | w + 1 => 31 * d_oc μ fb g gs t I h w + (s_oc μ fb g gs t I w).toInt64
def d_tens (μ : zM) (fb : Nat → Int32) (I : Nat) (h : Int64) : Nat → Int64
  | 0 => h
  | t + 1 => d_oc μ fb (μ (1 + (3 + 2 * t))) (μ (1 + (3 + 2 * t) + 1)) t I (d_ten μ fb (μ (1 + (3 + 2 * t))) t I (d_tens μ fb I h t) 10) 6
def d_itm (f fb g : Nat → Int32) (h : Int64) : Nat → Int64
  | 0 => h
  | w + 1 => 31 * d_itm f fb g h w + (s_itm f fb g w).toInt64
/-- the tenancy's row of an item -/
def z_home (μ : zM) (f : Nat → Int32) : Nat → Int32 := μ (1 + (3 + 2 * (f 0).toNatClampNeg))
def d_itms (μ : zM) (fb : Nat → Int32) (h : Int64) : Nat → Int64
  | 0 => h
  | j + 1 => 31 * (31 * d_itm (μ (1 + (15 + j))) fb (z_home μ (μ (1 + (15 + j)))) (d_itms μ fb h j) 11 + (FP.f2i (FP.fmul (s_X3_landlordWeight (μ (1 + (15 + j)))) 1232348160)).toInt64) + (s_rsn (μ (1 + (15 + j)))).toInt64
def z_D (μ : zM) (T I : Nat) : Int64 := d_itms μ (μ 1) (d_tens μ (μ 1) I (d_cnt μ (μ 1) T I (d_0 (μ 1)) 12) T) I
theorem d_cnt_cg {T I : Nat} {μ ν : zM} {fb : Nat → Int32} {h0 : Int64} (h : eqv T I μ ν) (w : Nat) : d_cnt μ fb T I h0 w = d_cnt ν fb T I h0 w := by
  induction w with
  | zero => rfl
  | succ w ih => show 31 * _ + _ = 31 * _ + _; rw [ih, s_cnt_cg h]
theorem d_ten_cg {T I t : Nat} {μ ν : zM} {fb g : Nat → Int32} {h0 : Int64} (h : eqv T I μ ν) (w : Nat) : d_ten μ fb g t I h0 w = d_ten ν fb g t I h0 w := by
  induction w with
  | zero => rfl
  | succ w ih => show 31 * _ + _ = 31 * _ + _; rw [ih, s_ten_cg h]
theorem d_oc_cg {T I t : Nat} {μ ν : zM} {fb g gs : Nat → Int32} {h0 : Int64} (h : eqv T I μ ν) (w : Nat) : d_oc μ fb g gs t I h0 w = d_oc ν fb g gs t I h0 w := by
  induction w with
  | zero => rfl
  | succ w ih => show 31 * _ + _ = 31 * _ + _; rw [ih, s_oc_cg h]
theorem d_tens_cg {T I : Nat} {μ ν : zM} {fb : Nat → Int32} {h0 : Int64} (h : eqv T I μ ν) : ∀ {T' : Nat}, T' ≤ T → d_tens μ fb I h0 T' = d_tens ν fb I h0 T'
  | 0, _ => rfl
  | t + 1, ht => by
    show d_oc μ fb (μ (1 + (3 + 2 * t))) (μ (1 + (3 + 2 * t) + 1)) t I (d_ten μ fb (μ (1 + (3 + 2 * t))) t I (d_tens μ fb I h0 t) 10) 6 = d_oc ν fb (ν (1 + (3 + 2 * t))) (ν (1 + (3 + 2 * t) + 1)) t I (d_ten ν fb (ν (1 + (3 + 2 * t))) t I (d_tens ν fb I h0 t) 10) 6
    rw [d_tens_cg h (Nat.le_of_succ_le ht), (h.2.1 t ht).1, (h.2.1 t ht).2, d_ten_cg h, d_oc_cg h]
/-- every item's home is one of the tenancies -/
def z_homes (μ : zM) (T I : Nat) : Prop := ∀ j, j < I → ∃ h, h < T ∧ μ (1 + (15 + j)) 0 = nI h
theorem d_itms_cg {T I : Nat} {μ ν : zM} {fb : Nat → Int32} {h0 : Int64} (hT : T ≤ 6) (h : eqv T I μ ν) (hh : z_homes μ T I) : ∀ {I' : Nat}, I' ≤ I → d_itms μ fb h0 I' = d_itms ν fb h0 I'
  | 0, _ => rfl
  | j + 1, hj => by
    obtain ⟨k, hk, ek⟩ := hh j hj
    have e1 : z_home μ (μ (1 + (15 + j))) = z_home ν (μ (1 + (15 + j))) := by
      unfold z_home
      rw [ek, nI_clamp (by omega)]
      exact (h.2.1 k hk).1
    show 31 * (31 * d_itm (μ (1 + (15 + j))) fb (z_home μ (μ (1 + (15 + j)))) (d_itms μ fb h0 j) 11 + _) + _ = 31 * (31 * d_itm (ν (1 + (15 + j))) fb (z_home ν (ν (1 + (15 + j)))) (d_itms ν fb h0 j) 11 + _) + _
    rw [d_itms_cg hT h hh (Nat.le_of_succ_le hj), e1, h.2.2 j hj]
theorem z_D_cg {T I : Nat} {μ ν : zM} (hT : T ≤ 6) (h : eqv T I μ ν) (hh : z_homes μ T I) : z_D μ T I = z_D ν T I := by
  unfold z_D
  rw [h.1, d_itms_cg hT h hh (Nat.le_refl I), d_tens_cg h (Nat.le_refl T), d_cnt_cg h]
