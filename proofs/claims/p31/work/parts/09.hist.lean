abbrev zlive (T I r : Nat) : Prop := r = 0 ∨ (3 ≤ r ∧ r < 3 + 2 * T) ∨ (15 ≤ r ∧ r < 15 + I)
/-- the book at S copied onto the one at D: its own row, T tenancies (each with its settlement), I items -/
def bc (μ : zM) (D S T I : Nat) : zM := fun n => if D ≤ n ∧ n < D + 39 ∧ zlive T I (n - D) then μ (S + (n - D)) else μ n
theorem bc_out {μ : zM} {D S T I n : Nat} (h : n < D ∨ D + 39 ≤ n) : bc μ D S T I n = μ n := if_neg (by omega)
theorem bc_live {μ : zM} {D S T I r : Nat} (hr : r < 39) (h : zlive T I r) : bc μ D S T I (D + r) = μ (S + r) := by
  have e1 : D + r - D = r := by omega
  unfold bc
  rw [e1]
  exact if_pos ⟨by omega, by omega, h⟩
theorem bc_dead {μ : zM} {D S T I r : Nat} (h : ¬ zlive T I r) : bc μ D S T I (D + r) = μ (D + r) := by
  have e1 : D + r - D = r := by omega
  unfold bc
  rw [e1]
  exact if_neg (fun q => h q.2.2)
theorem bc_00 {μ : zM} {D S : Nat} {f : Nat → Int32} (h : μ S = f) : zr μ D f = bc μ D S 0 0 := by
  funext n
  by_cases hn : n = D
  · subst hn
    rw [zr_same]
    exact ((bc_live (μ := μ) (D := n) (S := S) (T := 0) (I := 0) (r := 0) (by omega) (Or.inl rfl)).trans h).symm
  · rw [zr_ne hn]
    exact (if_neg (by rintro ⟨h1, h2, h3⟩; omega)).symm
theorem bc_ten {μ : zM} {D S j : Nat} (hj : j < 6) : zr (zr (bc μ D S j 0) (D + (3 + 2 * j)) (μ (S + (3 + 2 * j)))) (D + (3 + 2 * j) + 1) (μ (S + (3 + 2 * j) + 1)) = bc μ D S (j + 1) 0 := by
  funext n
  by_cases h1 : n = D + (3 + 2 * j) + 1
  · subst h1
    rw [zr_same]
    exact (bc_live (μ := μ) (D := D) (S := S) (T := j + 1) (I := 0) (r := 3 + 2 * j + 1) (by omega) (by omega)).symm
  · rw [zr_ne h1]
    by_cases h2 : n = D + (3 + 2 * j)
    · subst h2
      rw [zr_same]
      exact (bc_live (μ := μ) (D := D) (S := S) (T := j + 1) (I := 0) (r := 3 + 2 * j) (by omega) (by omega)).symm
    · rw [zr_ne h2]
      unfold bc
      by_cases h3 : D ≤ n ∧ n < D + 39 ∧ zlive j 0 (n - D)
      · rw [if_pos h3, if_pos (by omega)]
      · rw [if_neg h3, if_neg (by omega)]
theorem bc_item {μ : zM} {D S T j : Nat} (hj : j < 24) : zr (bc μ D S T j) (D + (15 + j)) (μ (S + (15 + j))) = bc μ D S T (j + 1) := by
  funext n
  by_cases h2 : n = D + (15 + j)
  · subst h2
    rw [zr_same]
    exact (bc_live (μ := μ) (D := D) (S := S) (T := T) (I := j + 1) (r := 15 + j) (by omega) (by omega)).symm
  · rw [zr_ne h2]
    unfold bc
    by_cases h3 : D ≤ n ∧ n < D + 39 ∧ zlive T j (n - D)
    · rw [if_pos h3, if_pos (by omega)]
    · rw [if_neg h3, if_neg (by omega)]
theorem zB_far {D S : Nat} (hD : zB D) (hS : zB S) (h : D ≠ S) : D + 39 ≤ S ∨ S + 39 ≤ D := by
  unfold zB at hD hS
  omega
theorem hdX1_copyFrom : yX1_copyFrom.cls = RX1 ∧ yX1_copyFrom.cls ≠ "java/lang/invoke/MethodHandle" ∧ yX1_copyFrom.cls ≠ "java/lang/invoke/VarHandle" ∧ (parseMethodDescriptor yX1_copyFrom.desc).map (fun d => d.parameters.length) = some 1 := by decide +kernel
set_option maxHeartbeats 4000000 in
set_option maxRecDepth 100000 in
theorem c_X1_copyFrom (l : Launch) (G : zG) (μ : zM) (D S : Nat) (hD : zB D) (hBS : zB S) (hDS : D ≠ S) (fd fs : Nat → Int32) (hfd : μ D = fd) (hfs : μ S = fs) (T I : Nat) (hT : fs 3 = nI T) (hI : fs 4 = nI I) (hT6 : T ≤ 6) (hI24 : I ≤ 24) : zMet l G yX1_copyFrom cX1_copyFrom 5 none 2 42 [.ref (G.1 + D), .ref (G.1 + S)] μ (zQv G (bc μ D S T I)) := by
  refine z_start (lv := [(0, .ref (G.1 + D)), (1, .ref (G.1 + S))]) (by decide) (Nat.le_of_ble_eq_true rfl) rfl ?_
  intro p e s m args below meth c ls hx hb hml hr hlk hts hown hK hZ hS hl
  have hown : s.vm.findClass RX1 = some m.cls := hown
  have hfar := zB_far hD hBS hDS
  have loop2 : ∀ (k j : Nat), j + k = I → ∀ (H : Heap) (locs : List Loc) (ls : Array Slot), zW G (bc μ D S T j) H → va_S (zA G) s.heap H locs → lv_has ls 5 [(0, .ref (G.1 + D)), (1, .ref (G.1 + S)), (2, .int (nI j))] → W p l e { frames := 2, cells := 0, slots := 0, locals := 42 } s m args below meth c H locs 0 0 (MQ below (zQv G (bc μ D S T I)) args s 0 0 (zA G)) (F0 m 86 ls []) := by
    intro k
    induction k with
    | zero =>
      intro j hj H locs ls hZ hS hl
      have hj : I = j := by omega
      subst hj
      refine lv_iload_n hx hb dX1_copyFrom_86 rfl (lv_at hl 2 rfl) ?_
      refine lv_aload_n hx hb dX1_copyFrom_87 rfl (lv_at hl 0 rfl) ?_
      refine z_g1 (f := fs) (v := .int (nI I)) 4 hx hb hts hown hK hZ (zk_book hD) ((bc_live (r := 0) (by omega) (Or.inl rfl)).trans hfs) (by decide) q154 (congrArg (fun z => some (Value.int z)) hI) dX1_copyFrom_88 ?_
      refine lv_icmp_ge (tgt := 128) hx hb dX1_copyFrom_91 (by decide) (fun c_1 => ?_) (fun c_1 => ?_)
      · exact z_vret hx hb hr hlk hK hZ hS rfl dX1_copyFrom_128
      · exact absurd (nI_le (Nat.le_refl _) (by omega)) c_1
    | succ k ih =>
      intro j hj H locs ls hZ hS hl
      refine lv_iload_n hx hb dX1_copyFrom_86 rfl (lv_at hl 2 rfl) ?_
      refine lv_aload_n hx hb dX1_copyFrom_87 rfl (lv_at hl 0 rfl) ?_
      refine z_g1 (f := fs) (v := .int (nI I)) 4 hx hb hts hown hK hZ (zk_book hD) ((bc_live (r := 0) (by omega) (Or.inl rfl)).trans hfs) (by decide) q154 (congrArg (fun z => some (Value.int z)) hI) dX1_copyFrom_88 ?_
      refine lv_icmp_ge (tgt := 128) hx hb dX1_copyFrom_91 (by decide) (fun c_2 => ?_) (fun c_2 => ?_)
      · exact absurd c_2 (nI_ge (by omega) (by omega))
      · refine lv_aload_n hx hb dX1_copyFrom_94 rfl (lv_at hl 0 rfl) ?_
        refine lv_iload_n hx hb dX1_copyFrom_95 rfl (lv_at hl 2 rfl) ?_
        refine z_cVr (As := [.int (nI j)]) (rest := []) hx hb hml hown hts hl hK hZ hS (c_X1_itemAt_ok l G (bc μ D S T j) D hD fs ((bc_live (r := 0) (by omega) (Or.inl rfl)).trans hfs) I j hI hI24 (by omega)) (z_G q273 q274 q275 q2 q276) hdX1_itemAt ⟨Nat.le_of_ble_eq_true rfl, Nat.le_of_ble_eq_true rfl⟩ (zk_book hD) (by decide) rfl rfl rfl rfl (Nat.le_of_ble_eq_true rfl) dX1_copyFrom_96 ⟨(Nat.zero_le _), (Nat.zero_le _)⟩ (fun H locs hZ hS => ?_)
        refine lv_astore_n (lv' := [(3, .ref (G.1 + (D + (15 + j)))), (0, .ref (G.1 + D)), (1, .ref (G.1 + S)), (2, .int (nI j))]) hx hb dX1_copyFrom_99 rfl hl (by decide) rfl (fun ls hl => ?_)
        refine lv_aload_n hx hb dX1_copyFrom_100 rfl (lv_at hl 2 rfl) ?_
        refine lv_iload_n hx hb dX1_copyFrom_101 rfl (lv_at hl 3 rfl) ?_
        refine z_cVr (As := [.int (nI j)]) (rest := []) hx hb hml hown hts hl hK hZ hS (c_X1_itemAt_ok l G (bc μ D S T j) S hBS fs ((bc_out (by omega)).trans hfs) I j hI hI24 (by omega)) (z_G q273 q274 q275 q2 q276) hdX1_itemAt ⟨Nat.le_of_ble_eq_true rfl, Nat.le_of_ble_eq_true rfl⟩ (zk_book hBS) (by decide) rfl rfl rfl rfl (Nat.le_of_ble_eq_true rfl) dX1_copyFrom_102 ⟨(Nat.zero_le _), (Nat.zero_le _)⟩ (fun H locs hZ hS => ?_)
        refine lv_astore (lv' := [(4, .ref (G.1 + (S + (15 + j)))), (3, .ref (G.1 + (D + (15 + j)))), (0, .ref (G.1 + D)), (1, .ref (G.1 + S)), (2, .int (nI j))]) hx hb dX1_copyFrom_105 hl (by decide) rfl (fun ls hl => ?_)
        refine lv_aload_n hx hb dX1_copyFrom_107 rfl (lv_at hl 1 rfl) ?_
        refine lv_ifnull hx hb dX1_copyFrom_108 ?_
        refine lv_aload hx hb dX1_copyFrom_111 (lv_at hl 0 rfl) ?_
        refine lv_ifnull hx hb dX1_copyFrom_113 ?_
        refine lv_aload_n hx hb dX1_copyFrom_116 rfl (lv_at hl 1 rfl) ?_
        refine lv_aload hx hb dX1_copyFrom_117 (lv_at hl 0 rfl) ?_
        refine z_cVv (As := [.ref (G.1 + (S + (15 + j)))]) (rest := []) hx hb hml hown hts hl hK hZ hS (c_X3_copyFrom l G (bc μ D S T j) (D + (15 + j)) (μ (D + (15 + j))) (zk_item hD (by omega)) (bc_dead (by omega)) (S + (15 + j)) (μ (S + (15 + j))) (zk_item hBS (by omega)) (bc_out (by omega)) (by omega)) (z_G q277 q278 q279 q5 q280) hdX3_copyFrom ⟨Nat.le_of_ble_eq_true rfl, Nat.le_of_ble_eq_true rfl⟩ (zk_item hD (by omega)) (by decide) rfl rfl rfl rfl (Nat.le_of_ble_eq_true rfl) dX1_copyFrom_119 ⟨(Nat.zero_le _), (Nat.zero_le _)⟩ (fun H locs hZ hS => ?_)
        refine lv_iinc (v := (nI (j + 1))) (lv' := [(2, .int (nI (j + 1))), (4, .ref (G.1 + (S + (15 + j)))), (3, .ref (G.1 + (D + (15 + j)))), (0, .ref (G.1 + D)), (1, .ref (G.1 + S))]) hx hb dX1_copyFrom_122 hl (k := 4) rfl (nI_1 _) (by decide) rfl (fun ls hl => ?_)
        refine lv_goto (tgt := 86) hx hb dX1_copyFrom_125 (by decide) ?_
        rw [bc_item (by omega)] at hZ
        exact ih (j + 1) (by omega) _ _ _ hZ hS (lv_sub hl [3, 4, 0] rfl)
  have loop1 : ∀ (k j : Nat), j + k = T → ∀ (H : Heap) (locs : List Loc) (ls : Array Slot), zW G (bc μ D S j 0) H → va_S (zA G) s.heap H locs → lv_has ls 5 [(0, .ref (G.1 + D)), (1, .ref (G.1 + S)), (2, .int (nI j))] → W p l e { frames := 2, cells := 0, slots := 0, locals := 42 } s m args below meth c H locs 0 0 (MQ below (zQv G (bc μ D S T I)) args s 0 0 (zA G)) (F0 m 42 ls []) := by
    intro k
    induction k with
    | zero =>
      intro j hj H locs ls hZ hS hl
      have hj : T = j := by omega
      subst hj
      refine lv_iload_n hx hb dX1_copyFrom_42 rfl (lv_at hl 2 rfl) ?_
      refine lv_aload_n hx hb dX1_copyFrom_43 rfl (lv_at hl 0 rfl) ?_
      refine z_g1 (f := fs) (v := .int (nI T)) 3 hx hb hts hown hK hZ (zk_book hD) ((bc_live (r := 0) (by omega) (Or.inl rfl)).trans hfs) (by decide) q152 (congrArg (fun z => some (Value.int z)) hT) dX1_copyFrom_44 ?_
      refine lv_icmp_ge (tgt := 84) hx hb dX1_copyFrom_47 (by decide) (fun c_3 => ?_) (fun c_3 => ?_)
      · refine lv_iconst (v := 0) hx hb dX1_copyFrom_84 (by decide) ?_
        refine lv_istore_n (lv' := [(2, .int 0), (0, .ref (G.1 + D)), (1, .ref (G.1 + S))]) hx hb dX1_copyFrom_85 rfl hl (by decide) rfl (fun ls hl => ?_)
        exact loop2 I 0 (by omega) _ _ _ hZ hS (lv_sub hl [1, 2, 0] rfl)
      · exact absurd (nI_le (Nat.le_refl _) (by omega)) c_3
    | succ k ih =>
      intro j hj H locs ls hZ hS hl
      refine lv_iload_n hx hb dX1_copyFrom_42 rfl (lv_at hl 2 rfl) ?_
      refine lv_aload_n hx hb dX1_copyFrom_43 rfl (lv_at hl 0 rfl) ?_
      refine z_g1 (f := fs) (v := .int (nI T)) 3 hx hb hts hown hK hZ (zk_book hD) ((bc_live (r := 0) (by omega) (Or.inl rfl)).trans hfs) (by decide) q152 (congrArg (fun z => some (Value.int z)) hT) dX1_copyFrom_44 ?_
      refine lv_icmp_ge (tgt := 84) hx hb dX1_copyFrom_47 (by decide) (fun c_4 => ?_) (fun c_4 => ?_)
      · exact absurd c_4 (nI_ge (by omega) (by omega))
      · refine lv_aload_n hx hb dX1_copyFrom_50 rfl (lv_at hl 0 rfl) ?_
        refine lv_iload_n hx hb dX1_copyFrom_51 rfl (lv_at hl 2 rfl) ?_
        refine z_cVr (As := [.int (nI j)]) (rest := []) hx hb hml hown hts hl hK hZ hS (c_X1_tenancyAt_ok l G (bc μ D S j 0) D hD fs ((bc_live (r := 0) (by omega) (Or.inl rfl)).trans hfs) T j hT hT6 (by omega)) (z_G q261 q262 q263 q2 q264) hdX1_tenancyAt ⟨Nat.le_of_ble_eq_true rfl, Nat.le_of_ble_eq_true rfl⟩ (zk_book hD) (by decide) rfl rfl rfl rfl (Nat.le_of_ble_eq_true rfl) dX1_copyFrom_52 ⟨(Nat.zero_le _), (Nat.zero_le _)⟩ (fun H locs hZ hS => ?_)
        refine lv_astore_n (lv' := [(3, .ref (G.1 + (D + (3 + 2 * j)))), (0, .ref (G.1 + D)), (1, .ref (G.1 + S)), (2, .int (nI j))]) hx hb dX1_copyFrom_55 rfl hl (by decide) rfl (fun ls hl => ?_)
        refine lv_aload_n hx hb dX1_copyFrom_56 rfl (lv_at hl 2 rfl) ?_
        refine lv_iload_n hx hb dX1_copyFrom_57 rfl (lv_at hl 3 rfl) ?_
        refine z_cVr (As := [.int (nI j)]) (rest := []) hx hb hml hown hts hl hK hZ hS (c_X1_tenancyAt_ok l G (bc μ D S j 0) S hBS fs ((bc_out (by omega)).trans hfs) T j hT hT6 (by omega)) (z_G q261 q262 q263 q2 q264) hdX1_tenancyAt ⟨Nat.le_of_ble_eq_true rfl, Nat.le_of_ble_eq_true rfl⟩ (zk_book hBS) (by decide) rfl rfl rfl rfl (Nat.le_of_ble_eq_true rfl) dX1_copyFrom_58 ⟨(Nat.zero_le _), (Nat.zero_le _)⟩ (fun H locs hZ hS => ?_)
        refine lv_astore (lv' := [(4, .ref (G.1 + (S + (3 + 2 * j)))), (3, .ref (G.1 + (D + (3 + 2 * j)))), (0, .ref (G.1 + D)), (1, .ref (G.1 + S)), (2, .int (nI j))]) hx hb dX1_copyFrom_61 hl (by decide) rfl (fun ls hl => ?_)
        refine lv_aload_n hx hb dX1_copyFrom_63 rfl (lv_at hl 1 rfl) ?_
        refine lv_ifnull hx hb dX1_copyFrom_64 ?_
        refine lv_aload hx hb dX1_copyFrom_67 (lv_at hl 0 rfl) ?_
        refine lv_ifnull hx hb dX1_copyFrom_69 ?_
        refine lv_aload_n hx hb dX1_copyFrom_72 rfl (lv_at hl 1 rfl) ?_
        refine lv_aload hx hb dX1_copyFrom_73 (lv_at hl 0 rfl) ?_
        refine z_cVv (As := [.ref (G.1 + (S + (3 + 2 * j)))]) (rest := []) hx hb hml hown hts hl hK hZ hS (c_X5_copyFrom l G (bc μ D S j 0) (D + (3 + 2 * j)) (μ (D + (3 + 2 * j))) (zk_ten hD (by omega)) (bc_dead (by omega)) (zk_set1 hD (by omega)) (S + (3 + 2 * j)) (μ (S + (3 + 2 * j))) (zk_ten hBS (by omega)) (bc_out (by omega)) (zk_set1 hBS (by omega)) (μ (D + (3 + 2 * j) + 1)) (μ (S + (3 + 2 * j) + 1)) (bc_dead (r := 3 + 2 * j + 1) (by omega)) (bc_out (by omega)) (by omega) (by omega) (by omega)) (z_G q265 q266 q267 q3 q268) hdX5_copyFrom ⟨Nat.le_of_ble_eq_true rfl, Nat.le_of_ble_eq_true rfl⟩ (zk_ten hD (by omega)) (by decide) rfl rfl rfl rfl (Nat.le_of_ble_eq_true rfl) dX1_copyFrom_75 ⟨(Nat.zero_le _), (Nat.zero_le _)⟩ (fun H locs hZ hS => ?_)
        refine lv_iinc (v := (nI (j + 1))) (lv' := [(2, .int (nI (j + 1))), (4, .ref (G.1 + (S + (3 + 2 * j)))), (3, .ref (G.1 + (D + (3 + 2 * j)))), (0, .ref (G.1 + D)), (1, .ref (G.1 + S))]) hx hb dX1_copyFrom_78 hl (k := 4) rfl (nI_1 _) (by decide) rfl (fun ls hl => ?_)
        refine lv_goto (tgt := 42) hx hb dX1_copyFrom_81 (by decide) ?_
        rw [bc_ten (by omega)] at hZ
        exact ih (j + 1) (by omega) _ _ _ hZ hS (lv_sub hl [3, 4, 0] rfl)
  refine lv_aload_n hx hb dX1_copyFrom_0 rfl (lv_at hl 0 rfl) ?_
  refine lv_aload_n hx hb dX1_copyFrom_1 rfl (lv_at hl 1 rfl) ?_
  refine z_g1 (f := fs) (v := .int (fs 0)) 0 hx hb hts hown hK hZ (zk_book hBS) hfs (by decide) q146 rfl dX1_copyFrom_2 ?_
  refine z_p1 (f := fd) (μ1 := (zr μ D (zu fd 0 (fs 0)))) 0 hx hb hts hown hK hZ hS (zk_book hD) hfd (by decide) q146 rfl pfd_I rfl rfl dX1_copyFrom_5 (fun H locs hZ hS => ?_)
  refine lv_aload_n hx hb dX1_copyFrom_8 rfl (lv_at hl 0 rfl) ?_
  refine lv_aload_n hx hb dX1_copyFrom_9 rfl (lv_at hl 1 rfl) ?_
  refine z_g1 (f := fs) (v := .int (fs 1)) 1 hx hb hts hown hK hZ (zk_book hBS) (zr_at hfs hDS.symm) (by decide) q148 rfl dX1_copyFrom_10 ?_
  refine z_p1 (f := (zu fd 0 (fs 0))) (μ1 := (zr μ D (zu (zu fd 0 (fs 0)) 1 (fs 1)))) 1 hx hb hts hown hK hZ hS (zk_book hD) zr_same (by decide) q148 rfl pfd_I rfl zr_zr dX1_copyFrom_13 (fun H locs hZ hS => ?_)
  refine lv_aload_n hx hb dX1_copyFrom_16 rfl (lv_at hl 0 rfl) ?_
  refine lv_aload_n hx hb dX1_copyFrom_17 rfl (lv_at hl 1 rfl) ?_
  refine z_g1 (f := fs) (v := .float (Int32.toUInt32 (fs 2))) 2 hx hb hts hown hK hZ (zk_book hBS) (zr_at hfs hDS.symm) (by decide) q150 rfl dX1_copyFrom_18 ?_
  refine z_p1f (f := (zu (zu fd 0 (fs 0)) 1 (fs 1))) (μ1 := (zr μ D (zu (zu (zu fd 0 (fs 0)) 1 (fs 1)) 2 (UInt32.toInt32 (Int32.toUInt32 (fs 2)))))) 2 hx hb hts hown hK hZ hS (zk_book hD) zr_same (by decide) q150 rfl pfd_F rfl zr_zr dX1_copyFrom_21 (fun H locs hZ hS => ?_)
  refine lv_aload_n hx hb dX1_copyFrom_24 rfl (lv_at hl 0 rfl) ?_
  refine lv_aload_n hx hb dX1_copyFrom_25 rfl (lv_at hl 1 rfl) ?_
  refine z_g1 (f := fs) (v := .int (nI T)) 3 hx hb hts hown hK hZ (zk_book hBS) (zr_at hfs hDS.symm) (by decide) q152 (congrArg (fun z => some (Value.int z)) hT) dX1_copyFrom_26 ?_
  refine z_p1 (f := (zu (zu (zu fd 0 (fs 0)) 1 (fs 1)) 2 (UInt32.toInt32 (Int32.toUInt32 (fs 2))))) (μ1 := (zr μ D (zu (zu (zu (zu fd 0 (fs 0)) 1 (fs 1)) 2 (UInt32.toInt32 (Int32.toUInt32 (fs 2)))) 3 (nI T)))) 3 hx hb hts hown hK hZ hS (zk_book hD) zr_same (by decide) q152 rfl pfd_I rfl zr_zr dX1_copyFrom_29 (fun H locs hZ hS => ?_)
  refine lv_aload_n hx hb dX1_copyFrom_32 rfl (lv_at hl 0 rfl) ?_
  refine lv_aload_n hx hb dX1_copyFrom_33 rfl (lv_at hl 1 rfl) ?_
  refine z_g1 (f := fs) (v := .int (nI I)) 4 hx hb hts hown hK hZ (zk_book hBS) (zr_at hfs hDS.symm) (by decide) q154 (congrArg (fun z => some (Value.int z)) hI) dX1_copyFrom_34 ?_
  refine z_p1 (f := (zu (zu (zu (zu fd 0 (fs 0)) 1 (fs 1)) 2 (UInt32.toInt32 (Int32.toUInt32 (fs 2)))) 3 (nI T))) (μ1 := (zr μ D (zu (zu (zu (zu (zu fd 0 (fs 0)) 1 (fs 1)) 2 (UInt32.toInt32 (Int32.toUInt32 (fs 2)))) 3 (nI T)) 4 (nI I)))) 4 hx hb hts hown hK hZ hS (zk_book hD) zr_same (by decide) q154 rfl pfd_I rfl zr_zr dX1_copyFrom_37 (fun H locs hZ hS => ?_)
  refine lv_iconst (v := 0) hx hb dX1_copyFrom_40 (by decide) ?_
  refine lv_istore_n (lv' := [(2, .int 0), (0, .ref (G.1 + D)), (1, .ref (G.1 + S))]) hx hb dX1_copyFrom_41 rfl hl (by decide) rfl (fun ls hl => ?_)
  have hZ := hZ.re (g := fs) (zk_book hD) (zE1_eq (by rw [← hT, ← hI]; rfl))
  rw [bc_00 hfs] at hZ
  exact loop1 T 0 (by omega) _ _ _ hZ hS (lv_sub hl [1, 2, 0] rfl)
