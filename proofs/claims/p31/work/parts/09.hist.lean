abbrev zlive (T I r : Nat) : Prop := r = 0 ∨ (3 ≤ r ∧ r < 3 + 2 * T) ∨ (15 ≤ r ∧ r < 15 + I)
/-- the book at S copied onto the one at D: its own row, T tenancies (each with its settlement), I items -/
def bc (μ : zM) (D S T I : Nat) : zM := fun n => if D ≤ n ∧ n < D + 39 ∧ zlive T I (n - D) then μ (S + (n - D)) else μ n
theorem bc_out {μ : zM} {D S T I n : Nat} (h : n < D ∨ D + 39 ≤ n) : bc μ D S T I n = μ n := if_neg (by omega)
theorem bc_live {μ : zM} {D S T I r : Nat} (hr : r < 39) (h : zlive T I r) : bc μ D S T I (D + r) = μ (S + r) := by
  have e1 : D + r - D = r := by omega
  unfold bc
  rw [e1]
  exact if_pos ⟨by omega, by omega, h⟩
theorem bc_dead {μ : zM} {D S T I r : Nat} (h : ¬ zlive T I r) : bc μ D S T I (D + r) = μ (D + r) := by
  have e1 : D + r - D = r := by omega
  unfold bc
  rw [e1]
  exact if_neg (fun q => h q.2.2)
theorem bc_00 {μ : zM} {D S : Nat} {f : Nat → Int32} (h : μ S = f) : zr μ D f = bc μ D S 0 0 := by
  funext n
  by_cases hn : n = D
  · subst hn
    rw [zr_same]
    exact ((bc_live (μ := μ) (D := n) (S := S) (T := 0) (I := 0) (r := 0) (by omega) (Or.inl rfl)).trans h).symm
  · rw [zr_ne hn]
    exact (if_neg (by rintro ⟨h1, h2, h3⟩; omega)).symm
theorem bc_ten {μ : zM} {D S j : Nat} (hj : j < 6) : zr (zr (bc μ D S j 0) (D + (3 + 2 * j)) (μ (S + (3 + 2 * j)))) (D + (3 + 2 * j) + 1) (μ (S + (3 + 2 * j) + 1)) = bc μ D S (j + 1) 0 := by
  funext n
  by_cases h1 : n = D + (3 + 2 * j) + 1
  · subst h1
    rw [zr_same]
    exact (bc_live (μ := μ) (D := D) (S := S) (T := j + 1) (I := 0) (r := 3 + 2 * j + 1) (by omega) (by omega)).symm
  · rw [zr_ne h1]
    by_cases h2 : n = D + (3 + 2 * j)
    · subst h2
      rw [zr_same]
      exact (bc_live (μ := μ) (D := D) (S := S) (T := j + 1) (I := 0) (r := 3 + 2 * j) (by omega) (by omega)).symm
    · rw [zr_ne h2]
      unfold bc
      by_cases h3 : D ≤ n ∧ n < D + 39 ∧ zlive j 0 (n - D)
      · rw [if_pos h3, if_pos (by omega)]
      · rw [if_neg h3, if_neg (by omega)]
theorem bc_item {μ : zM} {D S T j : Nat} (hj : j < 24) : zr (bc μ D S T j) (D + (15 + j)) (μ (S + (15 + j))) = bc μ D S T (j + 1) := by
  funext n
  by_cases h2 : n = D + (15 + j)
  · subst h2
    rw [zr_same]
    exact (bc_live (μ := μ) (D := D) (S := S) (T := T) (I := j + 1) (r := 15 + j) (by omega) (by omega)).symm
  · rw [zr_ne h2]
    unfold bc
    by_cases h3 : D ≤ n ∧ n < D + 39 ∧ zlive T j (n - D)
    · rw [if_pos h3, if_pos (by omega)]
    · rw [if_neg h3, if_neg (by omega)]
theorem zB_far {D S : Nat} (hD : zB D) (hS : zB S) (h : D ≠ S) : D + 39 ≤ S ∨ S + 39 ≤ D := by
  unfold zB at hD hS
  omega
theorem hdX1_copyFrom : yX1_copyFrom.cls = RX1 ∧ yX1_copyFrom.cls ≠ "java/lang/invoke/MethodHandle" ∧ yX1_copyFrom.cls ≠ "java/lang/invoke/VarHandle" ∧ (parseMethodDescriptor yX1_copyFrom.desc).map (fun d => d.parameters.length) = some 1 := by decide +kernel
set_option maxHeartbeats 4000000 in
set_option maxRecDepth 100000 in
theorem c_X1_copyFrom (l : Launch) (G : zG) (μ : zM) (D S : Nat) (hD : zB D) (hBS : zB S) (hDS : D ≠ S) (fd fs : Nat → Int32) (hfd : μ D = fd) (hfs : μ S = fs) (T I : Nat) (hT : fs 3 = nI T) (hI : fs 4 = nI I) (hT6 : T ≤ 6) (hI24 : I ≤ 24) : zMet l G yX1_copyFrom cX1_copyFrom 5 none 2 42 [.ref (G.1 + D), .ref (G.1 + S)] μ (zQv G (bc μ D S T I)) := by
  refine z_start (lv := [(0, .ref (G.1 + D)), (1, .ref (G.1 + S))]) (by decide) (Nat.le_of_ble_eq_true rfl) rfl ?_
  intro p e s m args below meth c ls hx hb hml hr hlk hts hown hK hZ hS hl
  have hown : s.vm.findClass RX1 = some m.cls := hown
  have hfar := zB_far hD hBS hDS
  have loop2 : ∀ (k j : Nat), j + k = I → ∀ (H : Heap) (locs : List Loc) (ls : Array Slot), zW G (bc μ D S T j) H → va_S (zA G) s.heap H locs → lv_has ls 5 [(0, .ref (G.1 + D)), (1, .ref (G.1 + S)), (2, .int (nI j))] → W p l e { frames := 2, cells := 0, slots := 0, locals := 42 } s m args below meth c H locs 0 0 (MQ below (zQv G (bc μ D S T I)) args s 0 0 (zA G)) (F0 m 86 ls []) := by
    intro k
    induction k with
    | zero =>
      intro j hj H locs ls hZ hS hl
      have hj : I = j := by omega
      subst hj
      refine lv_iload_n hx hb dX1_copyFrom_86 rfl (lv_at hl 2 rfl) ?_
      refine lv_aload_n hx hb dX1_copyFrom_87 rfl (lv_at hl 0 rfl) ?_
      refine z_g1 (f := fs) (v := .int (nI I)) 4 hx hb hts hown hK hZ (zk_book hD) ((bc_live (r := 0) (by omega) (Or.inl rfl)).trans hfs) (by decide) q154 (congrArg (fun z => some (Value.int z)) hI) dX1_copyFrom_88 ?_
      refine lv_icmp_ge (tgt := 128) hx hb dX1_copyFrom_91 (by decide) (fun c_1 => ?_) (fun c_1 => ?_)
      · exact z_vret hx hb hr hlk hK hZ hS rfl dX1_copyFrom_128
      · exact absurd (nI_le (Nat.le_refl _) (by omega)) c_1
    | succ k ih =>
      intro j hj H locs ls hZ hS hl
      refine lv_iload_n hx hb dX1_copyFrom_86 rfl (lv_at hl 2 rfl) ?_
      refine lv_aload_n hx hb dX1_copyFrom_87 rfl (lv_at hl 0 rfl) ?_
      refine z_g1 (f := fs) (v := .int (nI I)) 4 hx hb hts hown hK hZ (zk_book hD) ((bc_live (r := 0) (by omega) (Or.inl rfl)).trans hfs) (by decide) q154 (congrArg (fun z => some (Value.int z)) hI) dX1_copyFrom_88 ?_
      refine lv_icmp_ge (tgt := 128) hx hb dX1_copyFrom_91 (by decide) (fun c_2 => ?_) (fun c_2 => ?_)
      · exact absurd c_2 (nI_ge (by omega) (by omega))
      · refine lv_aload_n hx hb dX1_copyFrom_94 rfl (lv_at hl 0 rfl) ?_
        refine lv_iload_n hx hb dX1_copyFrom_95 rfl (lv_at hl 2 rfl) ?_
        refine z_cVr (As := [.int (nI j)]) (rest := []) hx hb hml hown hts hl hK hZ hS (c_X1_itemAt_ok l G (bc μ D S T j) D hD fs ((bc_live (r := 0) (by omega) (Or.inl rfl)).trans hfs) I j hI hI24 (by omega)) (z_G q273 q274 q275 q2 q276) hdX1_itemAt ⟨Nat.le_of_ble_eq_true rfl, Nat.le_of_ble_eq_true rfl⟩ (zk_book hD) (by decide) rfl rfl rfl rfl (Nat.le_of_ble_eq_true rfl) dX1_copyFrom_96 ⟨(Nat.zero_le _), (Nat.zero_le _)⟩ (fun H locs hZ hS => ?_)
        refine lv_astore_n (lv' := [(3, .ref (G.1 + (D + (15 + j)))), (0, .ref (G.1 + D)), (1, .ref (G.1 + S)), (2, .int (nI j))]) hx hb dX1_copyFrom_99 rfl hl (by decide) rfl (fun ls hl => ?_)
        refine lv_aload_n hx hb dX1_copyFrom_100 rfl (lv_at hl 2 rfl) ?_
        refine lv_iload_n hx hb dX1_copyFrom_101 rfl (lv_at hl 3 rfl) ?_
        refine z_cVr (As := [.int (nI j)]) (rest := []) hx hb hml hown hts hl hK hZ hS (c_X1_itemAt_ok l G (bc μ D S T j) S hBS fs ((bc_out (by omega)).trans hfs) I j hI hI24 (by omega)) (z_G q273 q274 q275 q2 q276) hdX1_itemAt ⟨Nat.le_of_ble_eq_true rfl, Nat.le_of_ble_eq_true rfl⟩ (zk_book hBS) (by decide) rfl rfl rfl rfl (Nat.le_of_ble_eq_true rfl) dX1_copyFrom_102 ⟨(Nat.zero_le _), (Nat.zero_le _)⟩ (fun H locs hZ hS => ?_)
        refine lv_astore (lv' := [(4, .ref (G.1 + (S + (15 + j)))), (3, .ref (G.1 + (D + (15 + j)))), (0, .ref (G.1 + D)), (1, .ref (G.1 + S)), (2, .int (nI j))]) hx hb dX1_copyFrom_105 hl (by decide) rfl (fun ls hl => ?_)
        refine lv_aload_n hx hb dX1_copyFrom_107 rfl (lv_at hl 1 rfl) ?_
        refine lv_ifnull hx hb dX1_copyFrom_108 ?_
        refine lv_aload hx hb dX1_copyFrom_111 (lv_at hl 0 rfl) ?_
        refine lv_ifnull hx hb dX1_copyFrom_113 ?_
        refine lv_aload_n hx hb dX1_copyFrom_116 rfl (lv_at hl 1 rfl) ?_
        refine lv_aload hx hb dX1_copyFrom_117 (lv_at hl 0 rfl) ?_
        refine z_cVv (As := [.ref (G.1 + (S + (15 + j)))]) (rest := []) hx hb hml hown hts hl hK hZ hS (c_X3_copyFrom l G (bc μ D S T j) (D + (15 + j)) (μ (D + (15 + j))) (zk_item hD (by omega)) (bc_dead (by omega)) (S + (15 + j)) (μ (S + (15 + j))) (zk_item hBS (by omega)) (bc_out (by omega)) (by omega)) (z_G q277 q278 q279 q5 q280) hdX3_copyFrom ⟨Nat.le_of_ble_eq_true rfl, Nat.le_of_ble_eq_true rfl⟩ (zk_item hD (by omega)) (by decide) rfl rfl rfl rfl (Nat.le_of_ble_eq_true rfl) dX1_copyFrom_119 ⟨(Nat.zero_le _), (Nat.zero_le _)⟩ (fun H locs hZ hS => ?_)
        refine lv_iinc (v := (nI (j + 1))) (lv' := [(2, .int (nI (j + 1))), (4, .ref (G.1 + (S + (15 + j)))), (3, .ref (G.1 + (D + (15 + j)))), (0, .ref (G.1 + D)), (1, .ref (G.1 + S))]) hx hb dX1_copyFrom_122 hl (k := 4) rfl (nI_1 _) (by decide) rfl (fun ls hl => ?_)
        refine lv_goto (tgt := 86) hx hb dX1_copyFrom_125 (by decide) ?_
        rw [bc_item (by omega)] at hZ
        exact ih (j + 1) (by omega) _ _ _ hZ hS (lv_sub hl [3, 4, 0] rfl)
  have loop1 : ∀ (k j : Nat), j + k = T → ∀ (H : Heap) (locs : List Loc) (ls : Array Slot), zW G (bc μ D S j 0) H → va_S (zA G) s.heap H locs → lv_has ls 5 [(0, .ref (G.1 + D)), (1, .ref (G.1 + S)), (2, .int (nI j))] → W p l e { frames := 2, cells := 0, slots := 0, locals := 42 } s m args below meth c H locs 0 0 (MQ below (zQv G (bc μ D S T I)) args s 0 0 (zA G)) (F0 m 42 ls []) := by
    intro k
    induction k with
    | zero =>
      intro j hj H locs ls hZ hS hl
      have hj : T = j := by omega
      subst hj
      refine lv_iload_n hx hb dX1_copyFrom_42 rfl (lv_at hl 2 rfl) ?_
      refine lv_aload_n hx hb dX1_copyFrom_43 rfl (lv_at hl 0 rfl) ?_
      refine z_g1 (f := fs) (v := .int (nI T)) 3 hx hb hts hown hK hZ (zk_book hD) ((bc_live (r := 0) (by omega) (Or.inl rfl)).trans hfs) (by decide) q152 (congrArg (fun z => some (Value.int z)) hT) dX1_copyFrom_44 ?_
      refine lv_icmp_ge (tgt := 84) hx hb dX1_copyFrom_47 (by decide) (fun c_3 => ?_) (fun c_3 => ?_)
      · refine lv_iconst (v := 0) hx hb dX1_copyFrom_84 (by decide) ?_
        refine lv_istore_n (lv' := [(2, .int 0), (0, .ref (G.1 + D)), (1, .ref (G.1 + S))]) hx hb dX1_copyFrom_85 rfl hl (by decide) rfl (fun ls hl => ?_)
        exact loop2 I 0 (by omega) _ _ _ hZ hS (lv_sub hl [1, 2, 0] rfl)
      · exact absurd (nI_le (Nat.le_refl _) (by omega)) c_3
    | succ k ih =>
      intro j hj H locs ls hZ hS hl
      refine lv_iload_n hx hb dX1_copyFrom_42 rfl (lv_at hl 2 rfl) ?_
      refine lv_aload_n hx hb dX1_copyFrom_43 rfl (lv_at hl 0 rfl) ?_
      refine z_g1 (f := fs) (v := .int (nI T)) 3 hx hb hts hown hK hZ (zk_book hD) ((bc_live (r := 0) (by omega) (Or.inl rfl)).trans hfs) (by decide) q152 (congrArg (fun z => some (Value.int z)) hT) dX1_copyFrom_44 ?_
      refine lv_icmp_ge (tgt := 84) hx hb dX1_copyFrom_47 (by decide) (fun c_4 => ?_) (fun c_4 => ?_)
      · exact absurd c_4 (nI_ge (by omega) (by omega))
      · refine lv_aload_n hx hb dX1_copyFrom_50 rfl (lv_at hl 0 rfl) ?_
        refine lv_iload_n hx hb dX1_copyFrom_51 rfl (lv_at hl 2 rfl) ?_
        refine z_cVr (As := [.int (nI j)]) (rest := []) hx hb hml hown hts hl hK hZ hS (c_X1_tenancyAt_ok l G (bc μ D S j 0) D hD fs ((bc_live (r := 0) (by omega) (Or.inl rfl)).trans hfs) T j hT hT6 (by omega)) (z_G q261 q262 q263 q2 q264) hdX1_tenancyAt ⟨Nat.le_of_ble_eq_true rfl, Nat.le_of_ble_eq_true rfl⟩ (zk_book hD) (by decide) rfl rfl rfl rfl (Nat.le_of_ble_eq_true rfl) dX1_copyFrom_52 ⟨(Nat.zero_le _), (Nat.zero_le _)⟩ (fun H locs hZ hS => ?_)
        refine lv_astore_n (lv' := [(3, .ref (G.1 + (D + (3 + 2 * j)))), (0, .ref (G.1 + D)), (1, .ref (G.1 + S)), (2, .int (nI j))]) hx hb dX1_copyFrom_55 rfl hl (by decide) rfl (fun ls hl => ?_)
        refine lv_aload_n hx hb dX1_copyFrom_56 rfl (lv_at hl 2 rfl) ?_
        refine lv_iload_n hx hb dX1_copyFrom_57 rfl (lv_at hl 3 rfl) ?_
        refine z_cVr (As := [.int (nI j)]) (rest := []) hx hb hml hown hts hl hK hZ hS (c_X1_tenancyAt_ok l G (bc μ D S j 0) S hBS fs ((bc_out (by omega)).trans hfs) T j hT hT6 (by omega)) (z_G q261 q262 q263 q2 q264) hdX1_tenancyAt ⟨Nat.le_of_ble_eq_true rfl, Nat.le_of_ble_eq_true rfl⟩ (zk_book hBS) (by decide) rfl rfl rfl rfl (Nat.le_of_ble_eq_true rfl) dX1_copyFrom_58 ⟨(Nat.zero_le _), (Nat.zero_le _)⟩ (fun H locs hZ hS => ?_)
        refine lv_astore (lv' := [(4, .ref (G.1 + (S + (3 + 2 * j)))), (3, .ref (G.1 + (D + (3 + 2 * j)))), (0, .ref (G.1 + D)), (1, .ref (G.1 + S)), (2, .int (nI j))]) hx hb dX1_copyFrom_61 hl (by decide) rfl (fun ls hl => ?_)
        refine lv_aload_n hx hb dX1_copyFrom_63 rfl (lv_at hl 1 rfl) ?_
        refine lv_ifnull hx hb dX1_copyFrom_64 ?_
        refine lv_aload hx hb dX1_copyFrom_67 (lv_at hl 0 rfl) ?_
        refine lv_ifnull hx hb dX1_copyFrom_69 ?_
        refine lv_aload_n hx hb dX1_copyFrom_72 rfl (lv_at hl 1 rfl) ?_
        refine lv_aload hx hb dX1_copyFrom_73 (lv_at hl 0 rfl) ?_
        refine z_cVv (As := [.ref (G.1 + (S + (3 + 2 * j)))]) (rest := []) hx hb hml hown hts hl hK hZ hS (c_X5_copyFrom l G (bc μ D S j 0) (D + (3 + 2 * j)) (μ (D + (3 + 2 * j))) (zk_ten hD (by omega)) (bc_dead (by omega)) (zk_set1 hD (by omega)) (S + (3 + 2 * j)) (μ (S + (3 + 2 * j))) (zk_ten hBS (by omega)) (bc_out (by omega)) (zk_set1 hBS (by omega)) (μ (D + (3 + 2 * j) + 1)) (μ (S + (3 + 2 * j) + 1)) (bc_dead (r := 3 + 2 * j + 1) (by omega)) (bc_out (by omega)) (by omega) (by omega) (by omega)) (z_G q265 q266 q267 q3 q268) hdX5_copyFrom ⟨Nat.le_of_ble_eq_true rfl, Nat.le_of_ble_eq_true rfl⟩ (zk_ten hD (by omega)) (by decide) rfl rfl rfl rfl (Nat.le_of_ble_eq_true rfl) dX1_copyFrom_75 ⟨(Nat.zero_le _), (Nat.zero_le _)⟩ (fun H locs hZ hS => ?_)
        refine lv_iinc (v := (nI (j + 1))) (lv' := [(2, .int (nI (j + 1))), (4, .ref (G.1 + (S + (3 + 2 * j)))), (3, .ref (G.1 + (D + (3 + 2 * j)))), (0, .ref (G.1 + D)), (1, .ref (G.1 + S))]) hx hb dX1_copyFrom_78 hl (k := 4) rfl (nI_1 _) (by decide) rfl (fun ls hl => ?_)
        refine lv_goto (tgt := 42) hx hb dX1_copyFrom_81 (by decide) ?_
        rw [bc_ten (by omega)] at hZ
        exact ih (j + 1) (by omega) _ _ _ hZ hS (lv_sub hl [3, 4, 0] rfl)
  refine lv_aload_n hx hb dX1_copyFrom_0 rfl (lv_at hl 0 rfl) ?_
  refine lv_aload_n hx hb dX1_copyFrom_1 rfl (lv_at hl 1 rfl) ?_
  refine z_g1 (f := fs) (v := .int (fs 0)) 0 hx hb hts hown hK hZ (zk_book hBS) hfs (by decide) q146 rfl dX1_copyFrom_2 ?_
  refine z_p1 (f := fd) (μ1 := (zr μ D (zu fd 0 (fs 0)))) 0 hx hb hts hown hK hZ hS (zk_book hD) hfd (by decide) q146 rfl pfd_I rfl rfl dX1_copyFrom_5 (fun H locs hZ hS => ?_)
  refine lv_aload_n hx hb dX1_copyFrom_8 rfl (lv_at hl 0 rfl) ?_
  refine lv_aload_n hx hb dX1_copyFrom_9 rfl (lv_at hl 1 rfl) ?_
  refine z_g1 (f := fs) (v := .int (fs 1)) 1 hx hb hts hown hK hZ (zk_book hBS) (zr_at hfs hDS.symm) (by decide) q148 rfl dX1_copyFrom_10 ?_
  refine z_p1 (f := (zu fd 0 (fs 0))) (μ1 := (zr μ D (zu (zu fd 0 (fs 0)) 1 (fs 1)))) 1 hx hb hts hown hK hZ hS (zk_book hD) zr_same (by decide) q148 rfl pfd_I rfl zr_zr dX1_copyFrom_13 (fun H locs hZ hS => ?_)
  refine lv_aload_n hx hb dX1_copyFrom_16 rfl (lv_at hl 0 rfl) ?_
  refine lv_aload_n hx hb dX1_copyFrom_17 rfl (lv_at hl 1 rfl) ?_
  refine z_g1 (f := fs) (v := .float (Int32.toUInt32 (fs 2))) 2 hx hb hts hown hK hZ (zk_book hBS) (zr_at hfs hDS.symm) (by decide) q150 rfl dX1_copyFrom_18 ?_
  refine z_p1f (f := (zu (zu fd 0 (fs 0)) 1 (fs 1))) (μ1 := (zr μ D (zu (zu (zu fd 0 (fs 0)) 1 (fs 1)) 2 (UInt32.toInt32 (Int32.toUInt32 (fs 2)))))) 2 hx hb hts hown hK hZ hS (zk_book hD) zr_same (by decide) q150 rfl pfd_F rfl zr_zr dX1_copyFrom_21 (fun H locs hZ hS => ?_)
  refine lv_aload_n hx hb dX1_copyFrom_24 rfl (lv_at hl 0 rfl) ?_
  refine lv_aload_n hx hb dX1_copyFrom_25 rfl (lv_at hl 1 rfl) ?_
  refine z_g1 (f := fs) (v := .int (nI T)) 3 hx hb hts hown hK hZ (zk_book hBS) (zr_at hfs hDS.symm) (by decide) q152 (congrArg (fun z => some (Value.int z)) hT) dX1_copyFrom_26 ?_
  refine z_p1 (f := (zu (zu (zu fd 0 (fs 0)) 1 (fs 1)) 2 (UInt32.toInt32 (Int32.toUInt32 (fs 2))))) (μ1 := (zr μ D (zu (zu (zu (zu fd 0 (fs 0)) 1 (fs 1)) 2 (UInt32.toInt32 (Int32.toUInt32 (fs 2)))) 3 (nI T)))) 3 hx hb hts hown hK hZ hS (zk_book hD) zr_same (by decide) q152 rfl pfd_I rfl zr_zr dX1_copyFrom_29 (fun H locs hZ hS => ?_)
  refine lv_aload_n hx hb dX1_copyFrom_32 rfl (lv_at hl 0 rfl) ?_
  refine lv_aload_n hx hb dX1_copyFrom_33 rfl (lv_at hl 1 rfl) ?_
  refine z_g1 (f := fs) (v := .int (nI I)) 4 hx hb hts hown hK hZ (zk_book hBS) (zr_at hfs hDS.symm) (by decide) q154 (congrArg (fun z => some (Value.int z)) hI) dX1_copyFrom_34 ?_
  refine z_p1 (f := (zu (zu (zu (zu fd 0 (fs 0)) 1 (fs 1)) 2 (UInt32.toInt32 (Int32.toUInt32 (fs 2)))) 3 (nI T))) (μ1 := (zr μ D (zu (zu (zu (zu (zu fd 0 (fs 0)) 1 (fs 1)) 2 (UInt32.toInt32 (Int32.toUInt32 (fs 2)))) 3 (nI T)) 4 (nI I)))) 4 hx hb hts hown hK hZ hS (zk_book hD) zr_same (by decide) q154 rfl pfd_I rfl zr_zr dX1_copyFrom_37 (fun H locs hZ hS => ?_)
  refine lv_iconst (v := 0) hx hb dX1_copyFrom_40 (by decide) ?_
  refine lv_istore_n (lv' := [(2, .int 0), (0, .ref (G.1 + D)), (1, .ref (G.1 + S))]) hx hb dX1_copyFrom_41 rfl hl (by decide) rfl (fun ls hl => ?_)
  have hZ := hZ.re (g := fs) (zk_book hD) (zE1_eq (by rw [← hT, ← hI]; rfl))
  rw [bc_00 hfs] at hZ
  exact loop1 T 0 (by omega) _ _ _ hZ hS (lv_sub hl [1, 2, 0] rfl)
theorem z_mod4 {o k : Nat} (h : o + k < 2 ^ 31) : nI o + nI k - (nI o + nI k) / 4 * 4 = nI ((o + k) % 4) := by
  rw [nI_add]
  exact pk_rem (d := 4) h (by decide) (by decide)
theorem z_sub1 {n : Nat} (h : 0 < n) : nI n - 1 = nI (n - 1) := pk_sub (b := 1) h
theorem zB_h {p : Nat} (h : p < 4) : zB (81 + 39 * p) := by unfold zB; omega
def hr7 (a b : Nat) : Nat → Int32 := fun k => match k with
  | 1 => nI a
  | 2 => nI b
  | _ => 0
def h_o (o z : Nat) : Nat := if z < 4 then o else (o + 1) % 4
def h_p (o z : Nat) : Nat := if z < 4 then (o + z) % 4 else ((o + 1) % 4 + 3) % 4
def h_z (z : Nat) : Nat := if z < 4 then z + 1 else 4
theorem h_o4 {o z : Nat} (h : o < 4) : h_o o z < 4 := by unfold h_o; split <;> omega
theorem h_p4 (o z : Nat) : h_p o z < 4 := by unfold h_p; split <;> omega
theorem h_z4 (z : Nat) : h_z z ≤ 4 := by unfold h_z; split <;> omega
/-- the history behind a push of the book -/
def zp (μ : zM) (o z T I : Nat) : zM := zr (bc μ (81 + 39 * h_p o z) 1 T I) 79 (hr7 (h_o o z) (h_z z))
theorem zp_ne {μ : zM} {o z T I n : Nat} (h : n < 79 ∨ 237 ≤ n) : zp μ o z T I n = μ n := by
  have hp := h_p4 o z
  unfold zp
  rw [zr_ne (by omega), bc_out (by omega)]
theorem bc_zr {μ : zM} {D T I : Nat} {r : Nat → Int32} (hD : 80 ≤ D) : bc (zr μ 79 r) D 1 T I = zr (bc μ D 1 T I) 79 r := by
  funext n
  by_cases hn : n = 79
  · subst hn
    rw [zr_same, bc_out (by omega), zr_same]
  · rw [zr_ne hn]
    unfold bc
    by_cases h3 : D ≤ n ∧ n < D + 39 ∧ zlive T I (n - D)
    · rw [if_pos h3, if_pos h3, zr_ne (by omega)]
    · rw [if_neg h3, if_neg h3, zr_ne hn]
theorem zE7_eq {G : zG} {n : Nat} {f g : Nat → Int32} (h : zF7 G f = zF7 G g) : zE G 7 n f = zE G 7 n g := congrArg (fun z => (Sum.inr (2, z) : va_E)) h
theorem zk79 : zk 79 = 7 := by decide
theorem hdX2_stateAt : yX2_stateAt.cls = RX2 ∧ yX2_stateAt.cls ≠ "java/lang/invoke/MethodHandle" ∧ yX2_stateAt.cls ≠ "java/lang/invoke/VarHandle" ∧ (parseMethodDescriptor yX2_stateAt.desc).map (fun d => d.parameters.length) = some 1 := by decide +kernel
set_option maxHeartbeats 4000000 in
set_option maxRecDepth 100000 in
theorem c_X2_stateAt (l : Launch) (G : zG) (μ : zM) (hh : Nat → Int32) (hfh : μ 79 = hh) (o : Nat) (ho : hh 1 = nI o) (ho4 : o < 4) (k : Nat) (hk4 : k ≤ 4) : zMet l G yX2_stateAt cX2_stateAt 3 (some (.object "TenancyDeposits$Book")) 0 0 [.ref (G.1 + 79), .int (nI k)] μ (zQq G (some (G.1 + (81 + 39 * ((o + k) % 4)))) μ) := by
  refine z_start (lv := [(0, .ref (G.1 + 79)), (1, .int (nI k))]) (by decide) (Nat.le_of_ble_eq_true rfl) rfl ?_
  intro p e s m args below meth c ls hx hb hml hr hlk hts hown hK hZ hS hl
  have hown : s.vm.findClass RX2 = some m.cls := hown
  refine lv_aload_n hx hb dX2_stateAt_0 rfl (lv_at hl 0 rfl) ?_
  refine z_g7 (f := hh) (v := .int (nI o)) 1 hx hb hts hown hK hZ zk79 hfh (by decide) q183 (congrArg (fun z => some (Value.int z)) ho) dX2_stateAt_1 ?_
  refine lv_iload_n hx hb dX2_stateAt_4 rfl (lv_at hl 1 rfl) ?_
  refine lv_iadd hx hb dX2_stateAt_5 ?_
  refine lv_iconst (v := 4) hx hb dX2_stateAt_6 (by decide) ?_
  refine lv_irem hx hb dX2_stateAt_7 (by decide) ?_
  rw [z_mod4 (by omega)]
  refine lv_istore_n (lv' := [(2, .int (nI ((o + k) % 4))), (0, .ref (G.1 + 79)), (1, .int (nI k))]) hx hb dX2_stateAt_8 rfl hl (by decide) rfl (fun ls hl => ?_)
  refine lv_iload_n hx hb dX2_stateAt_9 rfl (lv_at hl 0 rfl) ?_
  refine lv_if_lt (tgt := 31) hx hb dX2_stateAt_10 (by decide) (fun c_1 => ?_) (fun c_1 => ?_)
  · exact absurd c_1 (nI_pos (by omega))
  · refine lv_iload_n hx hb dX2_stateAt_13 rfl (lv_at hl 0 rfl) ?_
    refine lv_aload_n hx hb dX2_stateAt_14 rfl (lv_at hl 1 rfl) ?_
    refine z_g7 (f := hh) (v := .ref (G.1 + 80)) 0 hx hb hts hown hK hZ zk79 hfh (by decide) q182 rfl dX2_stateAt_15 ?_
    refine z_balen hx hb hK hZ dX2_stateAt_18 ?_
    refine lv_icmp_ge (tgt := 31) hx hb dX2_stateAt_19 (by decide) (fun c_2 => ?_) (fun c_2 => ?_)
    · exact absurd (show nI 4 ≤ nI ((o + k) % 4) from c_2) (nI_ge (Nat.mod_lt _ (by decide)) (by decide))
    · refine lv_aload_n hx hb dX2_stateAt_22 rfl (lv_at hl 1 rfl) ?_
      refine z_g7 (f := hh) (v := .ref (G.1 + 80)) 0 hx hb hts hown hK hZ zk79 hfh (by decide) q182 rfl dX2_stateAt_23 ?_
      refine lv_iload_n hx hb dX2_stateAt_26 rfl (lv_at hl 0 rfl) ?_
      refine z_baload hx hb hK hZ (vp_in_nI (Nat.mod_lt _ (by decide)) (by decide)) dX2_stateAt_27 ?_
      rw [nI_clamp (by omega : ((o + k) % 4) < 2 ^ 31)]
      refine lv_goto (tgt := 32) hx hb dX2_stateAt_28 (by decide) ?_
      exact z_aret hx hb hr (Or.inl ⟨_, rfl⟩) hlk hK hZ hS ⟨rfl, rfl⟩ rfl dX2_stateAt_32
theorem hdX2_latest : yX2_latest.cls = RX2 ∧ yX2_latest.cls ≠ "java/lang/invoke/MethodHandle" ∧ yX2_latest.cls ≠ "java/lang/invoke/VarHandle" ∧ (parseMethodDescriptor yX2_latest.desc).map (fun d => d.parameters.length) = some 0 := by decide +kernel
set_option maxHeartbeats 4000000 in
set_option maxRecDepth 100000 in
theorem c_X2_latest (l : Launch) (G : zG) (μ : zM) (hh : Nat → Int32) (hfh : μ 79 = hh) (o : Nat) (ho : hh 1 = nI o) (ho4 : o < 4) (z : Nat) (hz : hh 2 = nI z) (hz0 : 0 < z) (hz4 : z ≤ 4) : zMet l G yX2_latest cX2_latest 1 (some (.object "TenancyDeposits$Book")) 1 22 [.ref (G.1 + 79)] μ (zQq G (some (G.1 + (81 + 39 * ((o + (z - 1)) % 4)))) μ) := by
  refine z_start (lv := [(0, .ref (G.1 + 79))]) (by decide) (Nat.le_of_ble_eq_true rfl) rfl ?_
  intro p e s m args below meth c ls hx hb hml hr hlk hts hown hK hZ hS hl
  have hown : s.vm.findClass RX2 = some m.cls := hown
  refine lv_aload_n hx hb dX2_latest_0 rfl (lv_at hl 0 rfl) ?_
  refine z_g7 (f := hh) (v := .int (nI z)) 2 hx hb hts hown hK hZ zk79 hfh (by decide) q184 (congrArg (fun z => some (Value.int z)) hz) dX2_latest_1 ?_
  refine lv_if_le (tgt := 20) hx hb dX2_latest_4 (by decide) (fun c_1 => ?_) (fun c_1 => ?_)
  · exact absurd c_1 (nI_nle hz0 (by omega))
  · refine lv_aload_n hx hb dX2_latest_7 rfl (lv_at hl 0 rfl) ?_
    refine lv_aload_n hx hb dX2_latest_8 rfl (lv_at hl 0 rfl) ?_
    refine z_g7 (f := hh) (v := .int (nI z)) 2 hx hb hts hown hK hZ zk79 hfh (by decide) q184 (congrArg (fun z => some (Value.int z)) hz) dX2_latest_9 ?_
    refine lv_iconst (v := 1) hx hb dX2_latest_12 (by decide) ?_
    refine lv_isub hx hb dX2_latest_13 ?_
    rw [z_sub1 hz0]
    refine z_cVr (As := [.int (nI (z - 1))]) (rest := []) hx hb hml hown hts hl hK hZ hS (c_X2_stateAt l G μ hh hfh o ho ho4 (z - 1) (by omega)) (z_G q253 q254 q255 q6 q256) hdX2_stateAt ⟨Nat.le_of_ble_eq_true rfl, Nat.le_of_ble_eq_true rfl⟩ zk79 (by decide) rfl rfl rfl rfl (Nat.le_of_ble_eq_true rfl) dX2_latest_14 ⟨(Nat.zero_le _), (Nat.zero_le _)⟩ (fun H locs hZ hS => ?_)
    refine lv_goto (tgt := 21) hx hb dX2_latest_17 (by decide) ?_
    exact z_aret hx hb hr (Or.inl ⟨_, rfl⟩) hlk hK hZ hS ⟨rfl, rfl⟩ rfl dX2_latest_21
set_option maxHeartbeats 4000000 in
set_option maxRecDepth 100000 in
theorem c_X2_latest_no (l : Launch) (G : zG) (μ : zM) (hh : Nat → Int32) (hfh : μ 79 = hh) (hz : hh 2 = nI 0) : zMet l G yX2_latest cX2_latest 1 (some (.object "TenancyDeposits$Book")) 0 0 [.ref (G.1 + 79)] μ (zQq G none μ) := by
  refine z_start (lv := [(0, .ref (G.1 + 79))]) (by decide) (Nat.le_of_ble_eq_true rfl) rfl ?_
  intro p e s m args below meth c ls hx hb hml hr hlk hts hown hK hZ hS hl
  have hown : s.vm.findClass RX2 = some m.cls := hown
  refine lv_aload_n hx hb dX2_latest_0 rfl (lv_at hl 0 rfl) ?_
  refine z_g7 (f := hh) (v := .int (nI 0)) 2 hx hb hts hown hK hZ zk79 hfh (by decide) q184 (congrArg (fun z => some (Value.int z)) hz) dX2_latest_1 ?_
  refine lv_if_le (tgt := 20) hx hb dX2_latest_4 (by decide) (fun c_1 => ?_) (fun c_1 => ?_)
  · refine lv_null hx hb dX2_latest_20 ?_
    exact z_aret hx hb hr (Or.inl ⟨_, rfl⟩) hlk hK hZ hS ⟨rfl, rfl⟩ rfl dX2_latest_21
  · exact absurd (show nI 0 ≤ nI 0 from nI_le (Nat.le_refl _) (by decide)) c_1
theorem hdX2_push : yX2_push.cls = RX2 ∧ yX2_push.cls ≠ "java/lang/invoke/MethodHandle" ∧ yX2_push.cls ≠ "java/lang/invoke/VarHandle" ∧ (parseMethodDescriptor yX2_push.desc).map (fun d => d.parameters.length) = some 1 := by decide +kernel
set_option maxHeartbeats 4000000 in
set_option maxRecDepth 100000 in
theorem c_X2_push_a (l : Launch) (G : zG) (μ : zM) (hh : Nat → Int32) (hfh : μ 79 = hh) (o : Nat) (ho : hh 1 = nI o) (ho4 : o < 4) (z : Nat) (hz : hh 2 = nI z) (hz4 : z < 4) (fb : Nat → Int32) (hfb : μ 1 = fb) (T I : Nat) (hT : fb 3 = nI T) (hI : fb 4 = nI I) (hT6 : T ≤ 6) (hI24 : I ≤ 24) : zMet l G yX2_push cX2_push 3 none 3 66 [.ref (G.1 + 79), .ref (G.1 + 1)] μ (zQv G (zr (bc μ (81 + 39 * ((o + z) % 4)) 1 T I) 79 (hr7 o (z + 1)))) := by
  refine z_start (lv := [(0, .ref (G.1 + 79)), (1, .ref (G.1 + 1))]) (by decide) (Nat.le_of_ble_eq_true rfl) rfl ?_
  intro p e s m args below meth c ls hx hb hml hr hlk hts hown hK hZ hS hl
  have hown : s.vm.findClass RX2 = some m.cls := hown
  refine lv_aload_n hx hb dX2_push_0 rfl (lv_at hl 0 rfl) ?_
  refine z_g7 (f := hh) (v := .int (nI z)) 2 hx hb hts hown hK hZ zk79 hfh (by decide) q184 (congrArg (fun z => some (Value.int z)) hz) dX2_push_1 ?_
  refine lv_iconst (v := 4) hx hb dX2_push_4 (by decide) ?_
  refine lv_icmp_lt (tgt := 30) hx hb dX2_push_5 (by decide) (fun c_1 => ?_) (fun c_1 => ?_)
  · refine lv_aload_n hx hb dX2_push_30 rfl (lv_at hl 0 rfl) ?_
    refine lv_aload_n hx hb dX2_push_31 rfl (lv_at hl 0 rfl) ?_
    refine z_g7 (f := hh) (v := .int (nI z)) 2 hx hb hts hown hK hZ zk79 hfh (by decide) q184 (congrArg (fun z => some (Value.int z)) hz) dX2_push_32 ?_
    refine z_cVr (As := [.int (nI z)]) (rest := []) hx hb hml hown hts hl hK hZ hS (c_X2_stateAt l G μ hh hfh o ho ho4 z (by omega)) (z_G q253 q254 q255 q6 q256) hdX2_stateAt ⟨Nat.le_of_ble_eq_true rfl, Nat.le_of_ble_eq_true rfl⟩ zk79 (by decide) rfl rfl rfl rfl (Nat.le_of_ble_eq_true rfl) dX2_push_35 ⟨(Nat.zero_le _), (Nat.zero_le _)⟩ (fun H locs hZ hS => ?_)
    refine lv_astore_n (lv' := [(2, .ref (G.1 + (81 + 39 * ((o + z) % 4)))), (0, .ref (G.1 + 79)), (1, .ref (G.1 + 1))]) hx hb dX2_push_38 rfl hl (by decide) rfl (fun ls hl => ?_)
    refine lv_aload_n hx hb dX2_push_39 rfl (lv_at hl 0 rfl) ?_
    refine lv_ifnull hx hb dX2_push_40 ?_
    refine lv_aload_n hx hb dX2_push_43 rfl (lv_at hl 0 rfl) ?_
    refine lv_aload_n hx hb dX2_push_44 rfl (lv_at hl 2 rfl) ?_
    refine z_cVv (As := [.ref (G.1 + 1)]) (rest := []) hx hb hml hown hts hl hK hZ hS (c_X1_copyFrom l G μ (81 + 39 * ((o + z) % 4)) 1 (zB_h (by omega)) hB1 (by omega) (μ (81 + 39 * ((o + z) % 4))) fb rfl hfb T I hT hI hT6 hI24) (z_G q293 q258 q259 q2 q260) hdX1_copyFrom ⟨Nat.le_of_ble_eq_true rfl, Nat.le_of_ble_eq_true rfl⟩ (zk_book (zB_h (Nat.mod_lt _ (by decide)))) (by decide) rfl rfl rfl rfl (Nat.le_of_ble_eq_true rfl) dX2_push_45 ⟨(Nat.zero_le _), (Nat.zero_le _)⟩ (fun H locs hZ hS => ?_)
    refine lv_aload_n hx hb dX2_push_48 rfl (lv_at hl 1 rfl) ?_
    refine lv_dup hx hb dX2_push_49 rfl ?_
    refine z_g7 (f := hh) (v := .int (nI z)) 2 hx hb hts hown hK hZ zk79 ((bc_out (by omega)).trans hfh) (by decide) q184 (congrArg (fun z => some (Value.int z)) hz) dX2_push_50 ?_
    refine lv_iconst (v := 1) hx hb dX2_push_53 (by decide) ?_
    refine lv_iadd hx hb dX2_push_54 ?_
    rw [nI_1]
    refine z_p7 (f := hh) (μ1 := (zr (bc μ (81 + 39 * ((o + z) % 4)) 1 T I) 79 (zu hh 2 (nI (z + 1))))) 2 hx hb hts hown hK hZ hS zk79 ((bc_out (by omega)).trans hfh) (by decide) q184 rfl pfd_I rfl rfl dX2_push_55 (fun H locs hZ hS => ?_)
    have hZ := hZ.re (g := hr7 o (z + 1)) zk79 (zE7_eq (by rw [show zF7 G (zu hh 2 (nI (z + 1))) = [.ref (G.1 + 80), .int (hh 1), .int (nI (z + 1))] from rfl, ho]; rfl))
    exact z_vret hx hb hr hlk hK hZ hS rfl dX2_push_58
  · exact absurd (show nI z < nI 4 from nI_lt hz4 (by decide)) c_1
set_option maxHeartbeats 4000000 in
set_option maxRecDepth 100000 in
theorem c_X2_push_b (l : Launch) (G : zG) (μ : zM) (hh : Nat → Int32) (hfh : μ 79 = hh) (o : Nat) (ho : hh 1 = nI o) (ho4 : o < 4) (hz : hh 2 = nI 4) (fb : Nat → Int32) (hfb : μ 1 = fb) (T I : Nat) (hT : fb 3 = nI T) (hI : fb 4 = nI I) (hT6 : T ≤ 6) (hI24 : I ≤ 24) : zMet l G yX2_push cX2_push 3 none 3 66 [.ref (G.1 + 79), .ref (G.1 + 1)] μ (zQv G (zr (bc μ (81 + 39 * (((o + 1) % 4 + 3) % 4)) 1 T I) 79 (hr7 ((o + 1) % 4) 4))) := by
  refine z_start (lv := [(0, .ref (G.1 + 79)), (1, .ref (G.1 + 1))]) (by decide) (Nat.le_of_ble_eq_true rfl) rfl ?_
  intro p e s m args below meth c ls hx hb hml hr hlk hts hown hK hZ hS hl
  have hown : s.vm.findClass RX2 = some m.cls := hown
  refine lv_aload_n hx hb dX2_push_0 rfl (lv_at hl 0 rfl) ?_
  refine z_g7 (f := hh) (v := .int (nI 4)) 2 hx hb hts hown hK hZ zk79 hfh (by decide) q184 (congrArg (fun z => some (Value.int z)) hz) dX2_push_1 ?_
  refine lv_iconst (v := 4) hx hb dX2_push_4 (by decide) ?_
  refine lv_icmp_lt (tgt := 30) hx hb dX2_push_5 (by decide) (fun c_1 => ?_) (fun c_1 => ?_)
  · exact absurd c_1 (by decide)
  · refine lv_aload_n hx hb dX2_push_8 rfl (lv_at hl 0 rfl) ?_
    refine lv_aload_n hx hb dX2_push_9 rfl (lv_at hl 0 rfl) ?_
    refine z_g7 (f := hh) (v := .int (nI o)) 1 hx hb hts hown hK hZ zk79 hfh (by decide) q183 (congrArg (fun z => some (Value.int z)) ho) dX2_push_10 ?_
    refine lv_iconst (v := 1) hx hb dX2_push_13 (by decide) ?_
    refine lv_iadd hx hb dX2_push_14 ?_
    rw [nI_1]
    refine lv_iconst (v := 4) hx hb dX2_push_15 (by decide) ?_
    refine lv_irem hx hb dX2_push_16 (by decide) ?_
    rw [show nI (o + 1) - nI (o + 1) / 4 * 4 = nI ((o + 1) % 4) from pk_rem (d := 4) (by omega) (by decide) (by decide)]
    refine z_p7 (f := hh) (μ1 := (zr μ 79 (zu hh 1 (nI ((o + 1) % 4))))) 1 hx hb hts hown hK hZ hS zk79 hfh (by decide) q183 rfl pfd_I rfl rfl dX2_push_17 (fun H locs hZ hS => ?_)
    refine lv_aload_n hx hb dX2_push_20 rfl (lv_at hl 0 rfl) ?_
    refine lv_dup hx hb dX2_push_21 rfl ?_
    refine z_g7 (f := (zu hh 1 (nI ((o + 1) % 4)))) (v := .int (nI 4)) 2 hx hb hts hown hK hZ zk79 zr_same (by decide) q184 (congrArg (fun z => some (Value.int z)) hz) dX2_push_22 ?_
    refine lv_iconst (v := 1) hx hb dX2_push_25 (by decide) ?_
    refine lv_isub hx hb dX2_push_26 ?_
    rw [show nI 4 - 1 = nI 3 from rfl]
    refine z_p7 (f := (zu hh 1 (nI ((o + 1) % 4)))) (μ1 := (zr μ 79 (zu (zu hh 1 (nI ((o + 1) % 4))) 2 (nI 3)))) 2 hx hb hts hown hK hZ hS zk79 zr_same (by decide) q184 rfl pfd_I rfl zr_zr dX2_push_27 (fun H locs hZ hS => ?_)
    refine lv_aload_n hx hb dX2_push_30 rfl (lv_at hl 0 rfl) ?_
    refine lv_aload_n hx hb dX2_push_31 rfl (lv_at hl 0 rfl) ?_
    refine z_g7 (f := (zu (zu hh 1 (nI ((o + 1) % 4))) 2 (nI 3))) (v := .int (nI 3)) 2 hx hb hts hown hK hZ zk79 zr_same (by decide) q184 rfl dX2_push_32 ?_
    refine z_cVr (As := [.int (nI 3)]) (rest := []) hx hb hml hown hts hl hK hZ hS (c_X2_stateAt l G (zr μ 79 (zu (zu hh 1 (nI ((o + 1) % 4))) 2 (nI 3))) (zu (zu hh 1 (nI ((o + 1) % 4))) 2 (nI 3)) zr_same ((o + 1) % 4) rfl (by omega) 3 (by omega)) (z_G q253 q254 q255 q6 q256) hdX2_stateAt ⟨Nat.le_of_ble_eq_true rfl, Nat.le_of_ble_eq_true rfl⟩ zk79 (by decide) rfl rfl rfl rfl (Nat.le_of_ble_eq_true rfl) dX2_push_35 ⟨(Nat.zero_le _), (Nat.zero_le _)⟩ (fun H locs hZ hS => ?_)
    refine lv_astore_n (lv' := [(2, .ref (G.1 + (81 + 39 * ((((o + 1) % 4) + 3) % 4)))), (0, .ref (G.1 + 79)), (1, .ref (G.1 + 1))]) hx hb dX2_push_38 rfl hl (by decide) rfl (fun ls hl => ?_)
    refine lv_aload_n hx hb dX2_push_39 rfl (lv_at hl 0 rfl) ?_
    refine lv_ifnull hx hb dX2_push_40 ?_
    refine lv_aload_n hx hb dX2_push_43 rfl (lv_at hl 0 rfl) ?_
    refine lv_aload_n hx hb dX2_push_44 rfl (lv_at hl 2 rfl) ?_
    refine z_cVv (As := [.ref (G.1 + 1)]) (rest := []) hx hb hml hown hts hl hK hZ hS (c_X1_copyFrom l G (zr μ 79 (zu (zu hh 1 (nI ((o + 1) % 4))) 2 (nI 3))) (81 + 39 * ((((o + 1) % 4) + 3) % 4)) 1 (zB_h (by omega)) hB1 (by omega) (μ (81 + 39 * ((((o + 1) % 4) + 3) % 4))) fb (zr_at rfl (by omega)) (zr_at hfb (by decide)) T I hT hI hT6 hI24) (z_G q293 q258 q259 q2 q260) hdX1_copyFrom ⟨Nat.le_of_ble_eq_true rfl, Nat.le_of_ble_eq_true rfl⟩ (zk_book (zB_h (Nat.mod_lt _ (by decide)))) (by decide) rfl rfl rfl rfl (Nat.le_of_ble_eq_true rfl) dX2_push_45 ⟨(Nat.zero_le _), (Nat.zero_le _)⟩ (fun H locs hZ hS => ?_)
    refine lv_aload_n hx hb dX2_push_48 rfl (lv_at hl 1 rfl) ?_
    refine lv_dup hx hb dX2_push_49 rfl ?_
    refine z_g7 (f := (zu (zu hh 1 (nI ((o + 1) % 4))) 2 (nI 3))) (v := .int (nI 3)) 2 hx hb hts hown hK hZ zk79 ((bc_out (by omega)).trans zr_same) (by decide) q184 rfl dX2_push_50 ?_
    refine lv_iconst (v := 1) hx hb dX2_push_53 (by decide) ?_
    refine lv_iadd hx hb dX2_push_54 ?_
    rw [nI_1]
    rw [show nI (3 + 1) = nI 4 from rfl]
    refine z_p7 (f := (zu (zu hh 1 (nI ((o + 1) % 4))) 2 (nI 3))) (μ1 := (zr (bc (zr μ 79 (zu (zu hh 1 (nI ((o + 1) % 4))) 2 (nI 3))) (81 + 39 * ((((o + 1) % 4) + 3) % 4)) 1 T I) 79 (zu (zu (zu hh 1 (nI ((o + 1) % 4))) 2 (nI 3)) 2 (nI 4)))) 2 hx hb hts hown hK hZ hS zk79 ((bc_out (by omega)).trans zr_same) (by decide) q184 rfl pfd_I rfl rfl dX2_push_55 (fun H locs hZ hS => ?_)
    rw [bc_zr (by omega), zr_zr] at hZ
    have hZ := hZ.re (g := hr7 ((o + 1) % 4) 4) zk79 (zE7_eq rfl)
    exact z_vret hx hb hr hlk hK hZ hS rfl dX2_push_58
theorem c_X2_push (l : Launch) (G : zG) (μ : zM) (hh : Nat → Int32) (hfh : μ 79 = hh) (o : Nat) (ho : hh 1 = nI o) (ho4 : o < 4) (z : Nat) (hz : hh 2 = nI z) (hz4 : z ≤ 4) (fb : Nat → Int32) (hfb : μ 1 = fb) (T I : Nat) (hT : fb 3 = nI T) (hI : fb 4 = nI I) (hT6 : T ≤ 6) (hI24 : I ≤ 24) : zMet l G yX2_push cX2_push 3 none 3 66 [.ref (G.1 + 79), .ref (G.1 + 1)] μ (zQv G (zp μ o z T I)) := by
  by_cases h : z < 4
  · have := c_X2_push_a l G μ hh hfh o ho ho4 z hz h fb hfb T I hT hI hT6 hI24
    have e1 : zp μ o z T I = zr (bc μ (81 + 39 * ((o + z) % 4)) 1 T I) 79 (hr7 o (z + 1)) := by unfold zp h_p h_o h_z; rw [if_pos h, if_pos h, if_pos h]
    rw [e1]; exact this
  · have h4 : z = 4 := by omega
    subst h4
    have := c_X2_push_b l G μ hh hfh o ho ho4 hz fb hfb T I hT hI hT6 hI24
    have e1 : zp μ o 4 T I = zr (bc μ (81 + 39 * (((o + 1) % 4 + 3) % 4)) 1 T I) 79 (hr7 ((o + 1) % 4) 4) := by unfold zp h_p h_o h_z; rw [if_neg h, if_neg h, if_neg h]
    rw [e1]; exact this
