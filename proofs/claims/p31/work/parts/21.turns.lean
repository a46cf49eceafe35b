def z_hA (μ : zM) (T I z : Nat) : Prop := ∀ t, t < T → ¬ s_ten μ (μ 1) (μ (1 + (3 + 2 * t))) t I 2 ≤ 0 → (s_oc μ (μ 1) (μ (1 + (3 + 2 * t))) (μ (1 + (3 + 2 * t) + 1)) t I 0 + s_oc μ (μ 1) (μ (1 + (3 + 2 * t))) (μ (1 + (3 + 2 * t) + 1)) t I 1 + s_oc μ (μ 1) (μ (1 + (3 + 2 * t))) (μ (1 + (3 + 2 * t) + 1)) t I 2 = s_oc μ (μ 1) (μ (1 + (3 + 2 * t))) (μ (1 + (3 + 2 * t) + 1)) t I 5) ∧ (s_oc μ (μ 1) (μ (1 + (3 + 2 * t))) (μ (1 + (3 + 2 * t) + 1)) t I 0 + s_oc μ (μ 1) (μ (1 + (3 + 2 * t))) (μ (1 + (3 + 2 * t) + 1)) t I 1 + s_oc μ (μ 1) (μ (1 + (3 + 2 * t))) (μ (1 + (3 + 2 * t) + 1)) t I 2 = s_ten μ (μ 1) (μ (1 + (3 + 2 * t))) t I 0 + s_ten μ (μ 1) (μ (1 + (3 + 2 * t))) t I 4) ∧ (s_oc μ (μ 1) (μ (1 + (3 + 2 * t))) (μ (1 + (3 + 2 * t) + 1)) t I 4 ≤ 0 ∨ ¬ 0 < s_oc μ (μ 1) (μ (1 + (3 + 2 * t))) (μ (1 + (3 + 2 * t) + 1)) t I 0) ∧ (¬ s_ten μ (μ 1) (μ (1 + (3 + 2 * t))) t I 2 = 3 → ¬ s_cnt μ (μ 1) T I z 7 < s_oc μ (μ 1) (μ (1 + (3 + 2 * t))) (μ (1 + (3 + 2 * t) + 1)) t I 2 + s_oc μ (μ 1) (μ (1 + (3 + 2 * t))) (μ (1 + (3 + 2 * t) + 1)) t I 3 ∧ (0 < s_ten μ (μ 1) (μ (1 + (3 + 2 * t))) t I 9 ∨ s_oc μ (μ 1) (μ (1 + (3 + 2 * t))) (μ (1 + (3 + 2 * t) + 1)) t I 2 + s_oc μ (μ 1) (μ (1 + (3 + 2 * t))) (μ (1 + (3 + 2 * t) + 1)) t I 3 = 0) ∧ (0 < s_oc μ (μ 1) (μ (1 + (3 + 2 * t))) (μ (1 + (3 + 2 * t) + 1)) t I 4 ∨ s_ten μ (μ 1) (μ (1 + (3 + 2 * t))) t I 9 = 0 ∨ s_oc μ (μ 1) (μ (1 + (3 + 2 * t))) (μ (1 + (3 + 2 * t) + 1)) t I 2 + s_oc μ (μ 1) (μ (1 + (3 + 2 * t))) (μ (1 + (3 + 2 * t) + 1)) t I 3 = s_cnt μ (μ 1) T I z 7))
def z_hB (μ : zM) (T I : Nat) : Prop := ∀ j, j < I → (¬ s_itm (μ (1 + (15 + j))) (μ 1) (z_home μ (μ (1 + (15 + j)))) 7 < s_itm (μ (1 + (15 + j))) (μ 1) (z_home μ (μ (1 + (15 + j)))) 9) ∧ (¬ (z_home μ (μ (1 + (15 + j)))) 2 = 0 → (s_itm (μ (1 + (15 + j))) (μ 1) (z_home μ (μ (1 + (15 + j)))) 6 ≤ s_itm (μ (1 + (15 + j))) (μ 1) (z_home μ (μ (1 + (15 + j)))) 7 → ¬ s_itm (μ (1 + (15 + j))) (μ 1) (z_home μ (μ (1 + (15 + j)))) 9 < s_itm (μ (1 + (15 + j))) (μ 1) (z_home μ (μ (1 + (15 + j)))) 6) ∧ (¬ s_itm (μ (1 + (15 + j))) (μ 1) (z_home μ (μ (1 + (15 + j)))) 6 ≤ s_itm (μ (1 + (15 + j))) (μ 1) (z_home μ (μ (1 + (15 + j)))) 7 → ¬ s_itm (μ (1 + (15 + j))) (μ 1) (z_home μ (μ (1 + (15 + j)))) 9 < s_itm (μ (1 + (15 + j))) (μ 1) (z_home μ (μ (1 + (15 + j)))) 7) ∧ ¬ s_itm (μ (1 + (15 + j))) (μ 1) (z_home μ (μ (1 + (15 + j)))) 1 < s_itm (μ (1 + (15 + j))) (μ 1) (z_home μ (μ (1 + (15 + j)))) 6) ∧ (¬ Op.cmpValue (FP.fcmp (s_X3_restAfter (μ (1 + (15 + j))) (s_X1_daysOf (μ 1) (z_home μ (μ (1 + (15 + j)))))) FP.fconst0) CmpOp.g < 0) ∧ (¬ 0 < Op.cmpValue (FP.fcmp (s_X3_restAfter (μ (1 + (15 + j))) (s_X1_daysOf (μ 1) (z_home μ (μ (1 + (15 + j)))))) FP.fconst1) CmpOp.l) ∧ (¬ s_itm (μ (1 + (15 + j))) (μ 1) (z_home μ (μ (1 + (15 + j)))) 2 < s_itm (μ (1 + (15 + j))) (μ 1) (z_home μ (μ (1 + (15 + j)))) 3) ∧ (s_itm (μ (1 + (15 + j))) (μ 1) (z_home μ (μ (1 + (15 + j)))) 8 = 1 → s_itm (μ (1 + (15 + j))) (μ 1) (z_home μ (μ (1 + (15 + j)))) 9 = s_itm (μ (1 + (15 + j))) (μ 1) (z_home μ (μ (1 + (15 + j)))) 7)
def z_hC (μ : zM) (T I z : Nat) : Prop := (s_sts μ T = s_cnt μ (μ 1) T I z 3 + 2 * s_cnt μ (μ 1) T I z 4 + 3 * s_cnt μ (μ 1) T I z 5) ∧ (s_cnt μ (μ 1) T I z 2 + s_cnt μ (μ 1) T I z 3 + s_cnt μ (μ 1) T I z 4 + s_cnt μ (μ 1) T I z 5 = nI T)
/-- what is asked of the book's invariant V -/
def zInv_cg (V : zM → Nat → Nat → Prop) : Prop := ∀ {μ ν : zM} {T I : Nat}, V μ T I → eqv T I μ ν → V ν T I
def zInv_hd (V : zM → Nat → Nat → Prop) : Prop := ∀ {μ : zM} {T I : Nat}, V μ T I → μ 1 3 = nI T ∧ μ 1 4 = nI I ∧ T ≤ 6 ∧ I ≤ 24 ∧ fK 125 (Int32.toUInt32 (μ 1 2)) ∧ z_homes μ T I ∧ 0 ≤ μ 1 0
def zInv_holds (V : zM → Nat → Nat → Prop) : Prop := ∀ {μ : zM} {T I : Nat}, V μ T I → ∀ z, z_hA μ T I z ∧ z_hB μ T I ∧ z_hC μ T I z
def zInv_act (V : zM → Nat → Nat → Prop) : Prop := ∀ {μ : zM} {T I o z T2 I2 k t i : Nat} {v b : Int32}, V μ T I → o < 4 → z ≤ 4 → k ≤ 15 → k ≠ 14 → t ≤ T → i ≤ I →
    ((a_act μ (μ 1) o z T I T2 I2 k t i v b).1 < 0 ∧ (a_act μ (μ 1) o z T I T2 I2 k t i v b).2 = μ) ∨
    (0 ≤ (a_act μ (μ 1) o z T I T2 I2 k t i v b).1 ∧ (∀ n, n < 1 ∨ 40 ≤ n → (a_act μ (μ 1) o z T I T2 I2 k t i v b).2 n = zp μ o z T I n) ∧ ∃ T' I', V (a_act μ (μ 1) o z T I T2 I2 k t i v b).2 T' I')
def zInv_cong (V : zM → Nat → Nat → Prop) : Prop := ∀ {μ ν : zM} {T I o z o' z' T2 I2 k t i : Nat} {v b : Int32}, V μ T I → eqv T I μ ν → k ≤ 15 → k ≠ 14 → t ≤ T → i ≤ I →
    (a_act ν (ν 1) o' z' T I T2 I2 k t i v b).1 = (a_act μ (μ 1) o z T I T2 I2 k t i v b).1 ∧
    (0 ≤ (a_act μ (μ 1) o z T I T2 I2 k t i v b).1 → ∀ T' I', V (a_act μ (μ 1) o z T I T2 I2 k t i v b).2 T' I' → eqv T' I' (a_act μ (μ 1) o z T I T2 I2 k t i v b).2 (a_act ν (ν 1) o' z' T I T2 I2 k t i v b).2)
def zInv_ini (V : zM → Nat → Nat → Prop) : Prop := V μ0 0 0
def zInv (V : zM → Nat → Nat → Prop) : Prop := zInv_cg V ∧ zInv_hd V ∧ zInv_holds V ∧ zInv_act V ∧ zInv_cong V ∧ zInv_ini V
theorem zInv.cg {V : zM → Nat → Nat → Prop} (h : zInv V) : ∀ {μ ν : zM} {T I : Nat}, V μ T I → eqv T I μ ν → V ν T I := h.1
theorem zInv.hd {V : zM → Nat → Nat → Prop} (h : zInv V) : ∀ {μ : zM} {T I : Nat}, V μ T I → μ 1 3 = nI T ∧ μ 1 4 = nI I ∧ T ≤ 6 ∧ I ≤ 24 ∧ fK 125 (Int32.toUInt32 (μ 1 2)) ∧ z_homes μ T I ∧ 0 ≤ μ 1 0 := h.2.1
theorem zInv.holds {V : zM → Nat → Nat → Prop} (h : zInv V) : ∀ {μ : zM} {T I : Nat}, V μ T I → ∀ z, z_hA μ T I z ∧ z_hB μ T I ∧ z_hC μ T I z := h.2.2.1
theorem zInv.act {V : zM → Nat → Nat → Prop} (h : zInv V) : ∀ {μ : zM} {T I o z T2 I2 k t i : Nat} {v b : Int32}, V μ T I → o < 4 → z ≤ 4 → k ≤ 15 → k ≠ 14 → t ≤ T → i ≤ I →
    ((a_act μ (μ 1) o z T I T2 I2 k t i v b).1 < 0 ∧ (a_act μ (μ 1) o z T I T2 I2 k t i v b).2 = μ) ∨
    (0 ≤ (a_act μ (μ 1) o z T I T2 I2 k t i v b).1 ∧ (∀ n, n < 1 ∨ 40 ≤ n → (a_act μ (μ 1) o z T I T2 I2 k t i v b).2 n = zp μ o z T I n) ∧ ∃ T' I', V (a_act μ (μ 1) o z T I T2 I2 k t i v b).2 T' I') := h.2.2.2.1
theorem zInv.cong {V : zM → Nat → Nat → Prop} (h : zInv V) : ∀ {μ ν : zM} {T I o z o' z' T2 I2 k t i : Nat} {v b : Int32}, V μ T I → eqv T I μ ν → k ≤ 15 → k ≠ 14 → t ≤ T → i ≤ I →
    (a_act ν (ν 1) o' z' T I T2 I2 k t i v b).1 = (a_act μ (μ 1) o z T I T2 I2 k t i v b).1 ∧
    (0 ≤ (a_act μ (μ 1) o z T I T2 I2 k t i v b).1 → ∀ T' I', V (a_act μ (μ 1) o z T I T2 I2 k t i v b).2 T' I' → eqv T' I' (a_act μ (μ 1) o z T I T2 I2 k t i v b).2 (a_act ν (ν 1) o' z' T I T2 I2 k t i v b).2) := h.2.2.2.2.1
theorem zInv.ini {V : zM → Nat → Nat → Prop} (h : zInv V) : V μ0 0 0 := h.2.2.2.2.2
/-- the book at B holds the live rows of κ's book -/
def snb (B : Nat) (μ κ : zM) (T I : Nat) : Prop := ∀ r, zlive T I r → μ (B + r) = κ (1 + r)
theorem snb_eqv {μ κ : zM} {T I : Nat} (h : snb 1 μ κ T I) : eqv T I μ κ := ⟨h 0 (Or.inl rfl), fun i hi => ⟨h (3 + 2 * i) (Or.inr (Or.inl ⟨by omega, by omega⟩)), h (3 + 2 * i + 1) (Or.inr (Or.inl ⟨by omega, by omega⟩))⟩, fun j hj => h (15 + j) (Or.inr (Or.inr ⟨by omega, by omega⟩))⟩
theorem eqv_snb {μ κ : zM} {T I : Nat} (hT : T ≤ 6) (h : eqv T I μ κ) : snb 1 μ κ T I := by
  intro r hr
  rcases hr with rfl | ⟨h1, h2⟩ | ⟨h1, h2⟩
  · exact h.1
  · by_cases hp : r % 2 = 1
    · obtain ⟨i, rfl⟩ : ∃ i, r = 3 + 2 * i := ⟨(r - 3) / 2, by omega⟩
      exact (h.2.1 i (by omega)).1
    · obtain ⟨i, rfl⟩ : ∃ i, r = 3 + 2 * i + 1 := ⟨(r - 4) / 2, by omega⟩
      exact (h.2.1 i (by omega)).2
  · obtain ⟨j, rfl⟩ : ∃ j, r = 15 + j := ⟨r - 15, by omega⟩
    exact h.2.2 j (by omega)
theorem live39 {T I r : Nat} (hT : T ≤ 6) (hI : I ≤ 24) (h : zlive T I r) : r < 39 := by
  rcases h with rfl | ⟨_, _⟩ | ⟨_, _⟩ <;> omega
def zJ (V : zM → Nat → Nat → Prop) (μ κ : zM) (T I o z T2 I2 : Nat) : Prop := (V μ T I) ∧ (μ 79 1 = nI o) ∧ (μ 79 2 = nI z) ∧ (o < 4) ∧ (z ≤ 4) ∧ (μ 0 5 = 1) ∧ (V κ T2 I2) ∧ (snb 40 μ κ T2 I2)
theorem zJ.inv {V : zM → Nat → Nat → Prop} {μ κ : zM} {T I o z T2 I2 : Nat} (h : zJ V μ κ T I o z T2 I2) : V μ T I := h.1
theorem zJ.ho {V : zM → Nat → Nat → Prop} {μ κ : zM} {T I o z T2 I2 : Nat} (h : zJ V μ κ T I o z T2 I2) : μ 79 1 = nI o := h.2.1
theorem zJ.hz {V : zM → Nat → Nat → Prop} {μ κ : zM} {T I o z T2 I2 : Nat} (h : zJ V μ κ T I o z T2 I2) : μ 79 2 = nI z := h.2.2.1
theorem zJ.o4 {V : zM → Nat → Nat → Prop} {μ κ : zM} {T I o z T2 I2 : Nat} (h : zJ V μ κ T I o z T2 I2) : o < 4 := h.2.2.2.1
theorem zJ.z4 {V : zM → Nat → Nat → Prop} {μ κ : zM} {T I o z T2 I2 : Nat} (h : zJ V μ κ T I o z T2 I2) : z ≤ 4 := h.2.2.2.2.1
theorem zJ.k1 {V : zM → Nat → Nat → Prop} {μ κ : zM} {T I o z T2 I2 : Nat} (h : zJ V μ κ T I o z T2 I2) : μ 0 5 = 1 := h.2.2.2.2.2.1
theorem zJ.ink {V : zM → Nat → Nat → Prop} {μ κ : zM} {T I o z T2 I2 : Nat} (h : zJ V μ κ T I o z T2 I2) : V κ T2 I2 := h.2.2.2.2.2.2.1
theorem zJ.snap {V : zM → Nat → Nat → Prop} {μ κ : zM} {T I o z T2 I2 : Nat} (h : zJ V μ κ T I o z T2 I2) : snb 40 μ κ T2 I2 := h.2.2.2.2.2.2.2
section LJ
variable {V : zM → Nat → Nat → Prop} {μ κ : zM} {T I o z T2 I2 : Nat}
/-- another row 242 -/
theorem zJ.q (hV : zInv V) (j : zJ V μ κ T I o z T2 I2) (q : Nat → Int32) : zJ V (zr μ 242 q) κ T I o z T2 I2 := by
  obtain ⟨h1, h2, h3, h4, _⟩ := hV.hd j.inv
  obtain ⟨_, _, k3, k4, _⟩ := hV.hd j.ink
  exact ⟨hV.cg j.inv (eqv_242 h3 h4).symm, by rw [zr_ne (by decide)]; exact j.ho, by rw [zr_ne (by decide)]; exact j.hz, j.o4, j.z4, by rw [zr_ne (by decide)]; exact j.k1, j.ink, fun r hr => by have := live39 k3 k4 hr; rw [zr_ne (by omega)]; exact j.snap r hr⟩
theorem J_dig (l : Launch) (G : zG) (hV : zInv V) (j : zJ V μ κ T I o z T2 I2) : zMet l G yL_digest cL_digest 5 (some .long) 6 138 [.ref (G.1 + 0)] μ (zQlP G (z_D μ T I) (P242 μ)) := by
  obtain ⟨h1, h2, h3, h4, h5, h6, _⟩ := hV.hd j.inv
  exact c_L_digest l G μ (μ 1) (μ 79) rfl rfl T I o z h1 h2 h3 h4 j.ho j.hz j.o4 j.z4 h5 h6
theorem J_hold (l : Launch) (G : zG) (hV : zInv V) (j : zJ V μ κ T I o z T2 I2) : zMet l G yL_holds cL_holds 12 (some .boolean) 6 138 [.ref (G.1 + 0)] μ (zQiP G 1 (P242 μ)) := by
  obtain ⟨h1, h2, h3, h4, h5, h6, _⟩ := hV.hd j.inv
  obtain ⟨g1, g2, g3⟩ := hV.holds j.inv z
  exact c_L_holds l G μ (μ 1) (μ 79) rfl rfl T I o z h1 h2 h3 h4 j.ho j.hz j.o4 j.z4 h5 h6 g1 g2 g3.1 g3.2
theorem J_cnt (l : Launch) (G : zG) (hV : zInv V) (j : zJ V μ κ T I o z T2 I2) : zMet l G yX6_count cX6_count 2 (some .int) 2 45 [.ref (G.1 + 0), .int 12] μ (zQi G (nI z) μ) := by
  obtain ⟨h1, h2, h3, h4, h5, h6, _⟩ := hV.hd j.inv
  exact L_cntz l G μ (μ 1) (μ 79) rfl rfl T I o z h1 h2 h3 h4 j.ho j.hz j.o4 j.z4
theorem J_snap (hV : zInv V) (j : zJ V μ κ T I o z T2 I2) : μ 40 3 = nI T2 ∧ μ 40 4 = nI I2 ∧ T2 ≤ 6 ∧ I2 ≤ 24 ∧ μ 40 = κ 1 := by
  obtain ⟨k1, k2, k3, k4, _⟩ := hV.hd j.ink
  have h : μ 40 = κ 1 := j.snap 0 (Or.inl rfl)
  rw [h]
  exact ⟨k1, k2, k3, k4, rfl⟩
theorem J_act (l : Launch) (G : zG) (hV : zInv V) (j : zJ V μ κ T I o z T2 I2) (v b : Int32) (k t i : Nat) (hk : k ≤ 15) (ek : v &&& 15 = nI k) (ht : t ≤ T) (et : s_low (v >>> ((4 : Int32) &&& 31)) (nI (T + 1)) = nI t) (hi : i ≤ I) (ei : s_low (v >>> ((4 : Int32) &&& 31)) (nI (I + 1)) = nI i) : zMet l G yL_act cL_act 5 (some .int) 7 147 [.ref (G.1 + 0), .int v, .int b] μ (zQi G (a_act μ (μ 1) o z T I T2 I2 k t i v b).1 (a_act μ (μ 1) o z T I T2 I2 k t i v b).2) := by
  obtain ⟨h1, h2, h3, h4, h5, h6, _⟩ := hV.hd j.inv
  obtain ⟨k1, k2, k3, k4, _⟩ := J_snap hV j
  exact c_L_act l G μ (μ 1) (μ 79) rfl rfl T I o z h1 h2 h3 h4 j.ho j.hz j.o4 j.z4 h5 h6 j.k1 T2 I2 k1 k2 k3 k4 v b k t i hk ek ht et hi ei
theorem J_keep (l : Launch) (G : zG) (hV : zInv V) (j : zJ V μ κ T I o z T2 I2) : zMet l G yX6_keep cX6_keep 1 (some .int) 3 66 [.ref (G.1 + 0)] μ (zQi G (μ 1 0) (zr (bc μ 40 1 T I) 0 (zu (μ 0) 5 1))) := by
  obtain ⟨h1, h2, h3, h4, h5, h6, _⟩ := hV.hd j.inv
  exact c_X6_keep l G μ (μ 1) rfl T I h1 h2 h3 h4 (μ 0) (μ 40) rfl rfl
/-- kept: the book is the snapshot -/
theorem zJ.keep (hV : zInv V) (j : zJ V μ κ T I o z T2 I2) : zJ V (zr (bc μ 40 1 T I) 0 (zu (μ 0) 5 1)) μ T I o z T I := by
  obtain ⟨h1, h2, h3, h4, h5, h6, _⟩ := hV.hd j.inv
  refine ⟨hV.cg j.inv (eqv.off h3 h4 fun n g1 g2 => ?_), ?_, ?_, j.o4, j.z4, ?_, j.inv, fun r hr => ?_⟩
  · rw [zr_ne (by omega), bc_out (by omega)]
  · rw [zr_ne (by decide), bc_out (by omega)]; exact j.ho
  · rw [zr_ne (by decide), bc_out (by omega)]; exact j.hz
  · rw [zr_same]; rfl
  · have := live39 h3 h4 hr
    rw [zr_ne (by omega), bc_live this hr]
/-- the place that the next push takes, and its rows behind the push -/
theorem zp_slot {μ : zM} {o z T I r : Nat} (ho : o < 4) (hz : z ≤ 4) (hT : T ≤ 6) (hI : I ≤ 24) (hr : zlive T I r) : zp μ o z T I (81 + 39 * h_p o z + r) = μ (1 + r) := by
  have h1 := live39 hT hI hr
  unfold zp
  rw [zr_ne (by omega), bc_live h1 hr]
theorem h_slot {o z : Nat} (ho : o < 4) (hz : z ≤ 4) : (h_o o z + (h_z z - 1)) % 4 = h_p o z := by
  unfold h_o h_z h_p
  split <;> omega
/-- behind an act that came to pass -/
theorem zJ.done (hV : zInv V) (j : zJ V μ κ T I o z T2 I2) {ν : zM} {T' I' : Nat} (hn : ∀ n, n < 1 ∨ 40 ≤ n → ν n = zp μ o z T I n) (hi : V ν T' I') : zJ V ν κ T' I' (h_o o z) (h_z z) T2 I2 ∧ snb (81 + 39 * h_p o z) ν μ T I := by
  obtain ⟨h1, h2, h3, h4, h5, h6, _⟩ := hV.hd j.inv
  obtain ⟨_, _, k3, k4, _⟩ := hV.hd j.ink
  refine ⟨⟨hi, ?_, ?_, h_o4 j.o4, h_z4 z, ?_, j.ink, fun r hr => ?_⟩, fun r hr => ?_⟩
  · rw [hn 79 (by omega)]; unfold zp; rw [zr_same]; rfl
  · rw [hn 79 (by omega)]; unfold zp; rw [zr_same]; rfl
  · rw [hn 0 (by omega), zp_ne (by omega)]; exact j.k1
  · have := live39 k3 k4 hr
    rw [hn _ (by omega), zp_ne (by omega)]; exact j.snap r hr
  · have := live39 h3 h4 hr
    rw [hn _ (by omega)]
    exact zp_slot j.o4 j.z4 h3 h4 hr
theorem hz_pos (z : Nat) : 0 < h_z z := by unfold h_z; split <;> omega
theorem J_undo (l : Launch) (G : zG) (hV : zInv V) {T0 I0 o0 z0 : Nat} {μ1 : zM} (h0 : V μ1 T0 I0) (ho0 : o0 < 4) (hz0 : z0 ≤ 4) (j : zJ V μ κ T I (h_o o0 z0) (h_z z0) T2 I2) (hs : snb (81 + 39 * h_p o0 z0) μ μ1 T0 I0) : zMet l G yX6_undo cX6_undo 2 (some .int) 3 66 [.ref (G.1 + 0)] μ (zQi G (nI (h_z z0 - 1)) (zr (bc μ 1 (81 + 39 * h_p o0 z0) T0 I0) 79 (zu (μ 79) 2 (nI (h_z z0 - 1))))) := by
  obtain ⟨k1, k2, k3, k4, _⟩ := hV.hd h0
  have h := hs 0 (Or.inl rfl)
  have e := h_slot ho0 hz0
  have := c_X6_undo l G μ (μ 1) (μ 79) rfl rfl (h_o o0 z0) (h_z z0) j.ho j.hz j.o4 (hz_pos z0) j.z4 (μ1 1) (by rw [e]; exact h) T0 I0 k1 k2 k3 k4
  rw [e] at this
  exact this
/-- behind the undoing -/
theorem zJ.undone (hV : zInv V) {T0 I0 o0 z0 : Nat} {μ1 : zM} (h0 : V μ1 T0 I0) (j : zJ V μ κ T I (h_o o0 z0) (h_z z0) T2 I2) (hs : snb (81 + 39 * h_p o0 z0) μ μ1 T0 I0) : zJ V (zr (bc μ 1 (81 + 39 * h_p o0 z0) T0 I0) 79 (zu (μ 79) 2 (nI (h_z z0 - 1)))) κ T0 I0 (h_o o0 z0) (h_z z0 - 1) T2 I2 ∧ eqv T0 I0 μ1 (zr (bc μ 1 (81 + 39 * h_p o0 z0) T0 I0) 79 (zu (μ 79) 2 (nI (h_z z0 - 1)))) := by
  obtain ⟨_, _, k3, k4, _⟩ := hV.hd j.ink
  obtain ⟨_, _, g3, g4, _⟩ := hV.hd h0
  have e : eqv T0 I0 μ1 (zr (bc μ 1 (81 + 39 * h_p o0 z0) T0 I0) 79 (zu (μ 79) 2 (nI (h_z z0 - 1)))) := by
    refine eqv.symm (snb_eqv fun r hr => ?_)
    have := live39 g3 g4 hr
    rw [zr_ne (by omega), bc_live this hr]
    exact hs r hr
  refine ⟨⟨hV.cg h0 e, ?_, ?_, j.o4, by have := j.z4; omega, ?_, j.ink, fun r hr => ?_⟩, e⟩
  · rw [zr_same]; exact j.ho
  · rw [zr_same]; rfl
  · rw [zr_ne (by decide), bc_out (by omega)]; exact j.k1
  · have := live39 k3 k4 hr
    rw [zr_ne (by omega), bc_out (by omega)]; exact j.snap r hr
/-- restore -/
theorem zJ.back (hV : zInv V) (j : zJ V μ κ T I o z T2 I2) : (∀ n, n < 1 ∨ 40 ≤ n → bc (zp μ o z T I) 1 40 T2 I2 n = zp μ o z T I n) ∧ eqv T2 I2 κ (bc (zp μ o z T I) 1 40 T2 I2) ∧ V (bc (zp μ o z T I) 1 40 T2 I2) T2 I2 := by
  obtain ⟨_, _, k3, k4, _⟩ := hV.hd j.ink
  have e : eqv T2 I2 κ (bc (zp μ o z T I) 1 40 T2 I2) := by
    refine eqv.symm (snb_eqv fun r hr => ?_)
    have := live39 k3 k4 hr
    rw [bc_live this hr, zp_ne (by omega)]
    exact j.snap r hr
  exact ⟨fun n hn => bc_out (by omega), e, hV.cg j.ink e⟩
end LJ
