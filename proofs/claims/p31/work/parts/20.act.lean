theorem nI_nz {n : Nat} (h : n ≤ 100) : ¬ nI (n + 1) = 0 := nI_ne0 (by omega) (by omega)
theorem nI_pr {n : Nat} (h0 : ¬ n = 0) : nI n - 1 = nI (n - 1) := by
  obtain ⟨k, rfl⟩ : ∃ k, n = k + 1 := ⟨n - 1, by omega⟩
  exact nI_pred k
def a_act (μ : zM) (fb : Nat → Int32) (o z T I T2 I2 : Nat) (k t i : Nat) (v b : Int32) : Int32 × zM := match k with
  | 0 => (p_begin μ fb o z T I (900 + (s_low b 60000)))
  | 1 => if T = 0 then ((-1), μ)
    else (p_addItem μ fb o z T I (T - 1) (μ (1 + (3 + 2 * (T - 1)))) (90 + (s_low b 60000)) (30 + (s_low (b >>> ((3 : Int32) &&& 31)) 3000)) (s_low (b >>> ((7 : Int32) &&& 31)) 2000) (s_low (b >>> ((11 : Int32) &&& 31)) 103))
  | 2 => if T = 0 then ((-1), μ)
    else (p_addItem μ fb o z T I (T - 1) (μ (1 + (3 + 2 * (T - 1)))) (90 + (s_low b 60000)) (30 + (s_low (b >>> ((3 : Int32) &&& 31)) 3000)) (s_low (b >>> ((7 : Int32) &&& 31)) 2000) (s_low (b >>> ((11 : Int32) &&& 31)) 103))
  | 3 => (p_pass μ fb o z T I (s_low b 300))
  | 4 => if t = T then ((-1), μ)
    else (p_end μ fb o z T I t (μ (1 + (3 + 2 * t))))
  | 5 => if i = I then ((-1), μ)
    else (p_inspect μ fb o z T I i (μ (1 + (15 + i))) (z_home μ (μ (1 + (15 + i)))) (s_low b 102))
  | 6 => if i = I then if ((b >>> ((20 : Int32) &&& 31)) &&& 1) = 0 then ((-1), μ)
      else ((-1), μ)
    else if ((b >>> ((20 : Int32) &&& 31)) &&& 1) = 0 then (p_claim μ fb o z T I i (μ (1 + (15 + i))) (z_home μ (μ (1 + (15 + i)))) (s_low b 5000))
      else (p_claim μ fb o z T I i (μ (1 + (15 + i))) (z_home μ (μ (1 + (15 + i)))) (s_low b 60000))
  | 7 => if i = I then if ((b >>> ((20 : Int32) &&& 31)) &&& 1) = 0 then ((-1), μ)
      else ((-1), μ)
    else if ((b >>> ((20 : Int32) &&& 31)) &&& 1) = 0 then (p_claim μ fb o z T I i (μ (1 + (15 + i))) (z_home μ (μ (1 + (15 + i)))) (s_low b 5000))
      else (p_claim μ fb o z T I i (μ (1 + (15 + i))) (z_home μ (μ (1 + (15 + i)))) (s_low b 60000))
  | 8 => if t = T then ((-1), μ)
    else (p_claimRent μ fb o z T I t (μ (1 + (3 + 2 * t))) (s_low b 90000))
  | 9 => if t = T then ((-1), μ)
    else (p_put μ fb o z T I t (μ (1 + (3 + 2 * t))))
  | 10 => if i = I then if (b &&& 3) = 0 then ((-1), μ)
      else ((-1), μ)
    else if (b &&& 3) = 0 then (p_answer μ fb o z T I i (μ (1 + (15 + i))) (z_home μ (μ (1 + (15 + i)))) 1)
      else (p_answer μ fb o z T I i (μ (1 + (15 + i))) (z_home μ (μ (1 + (15 + i)))) 0)
  | 11 => if i = I then if (b &&& 3) = 0 then ((-1), μ)
      else ((-1), μ)
    else if (b &&& 3) = 0 then (p_answer μ fb o z T I i (μ (1 + (15 + i))) (z_home μ (μ (1 + (15 + i)))) 1)
      else (p_answer μ fb o z T I i (μ (1 + (15 + i))) (z_home μ (μ (1 + (15 + i)))) 0)
  | 12 => if i = I then ((-1), μ)
    else (p_setEvidence μ fb o z T I i (μ (1 + (15 + i))) (z_home μ (μ (1 + (15 + i)))) (s_low b 12) (s_low (b >>> ((4 : Int32) &&& 31)) 11))
  | 13 => if (b &&& 1) = 0 then (p_setFee μ fb o z T I (s_low (b >>> ((1 : Int32) &&& 31)) 50002))
    else if ((b >>> ((1 : Int32) &&& 31)) &&& 3) = 0 then (p_setRate μ fb o z T I b)
      else (p_setRate μ fb o z T I (1045220557 - ((s_low (b >>> ((3 : Int32) &&& 31)) 50) <<< ((19 : Int32) &&& 31))))
  | 14 => ((μ 40) 0, bc (zp μ o z T I) 1 40 T2 I2)
  | _ => if t = T then ((-1), μ)
    else (p_close μ fb o z T I t (μ (1 + (3 + 2 * t))))
theorem hdL_act : yL_act.cls = RL ∧ yL_act.cls ≠ "java/lang/invoke/MethodHandle" ∧ yL_act.cls ≠ "java/lang/invoke/VarHandle" ∧ (parseMethodDescriptor yL_act.desc).map (fun d => d.parameters.length) = some 3 := by decide +kernel
set_option maxHeartbeats 8000000 in
set_option maxRecDepth 100000 in
theorem c_L_act (l : Launch) (G : zG) (μ : zM) (fb hh : Nat → Int32) (hfb : μ 1 = fb) (hfh : μ 79 = hh) (T I o z : Nat) (hT : fb 3 = nI T) (hI : fb 4 = nI I) (hT6 : T ≤ 6) (hI24 : I ≤ 24) (ho : hh 1 = nI o) (hz : hh 2 = nI z) (ho4 : o < 4) (hz4 : z ≤ 4) (hr8 : fK 125 (Int32.toUInt32 (fb 2))) (hhm : z_homes μ T I) (hk1 : μ 0 5 = 1) (T2 I2 : Nat) (hT2 : μ 40 3 = nI T2) (hI2 : μ 40 4 = nI I2) (hT26 : T2 ≤ 6) (hI224 : I2 ≤ 24) (v b : Int32) (k t i : Nat) (hk : k ≤ 15) (ek : v &&& 15 = nI k) (ht : t ≤ T) (et : s_low (v >>> ((4 : Int32) &&& 31)) (nI (T + 1)) = nI t) (hi : i ≤ I) (ei : s_low (v >>> ((4 : Int32) &&& 31)) (nI (I + 1)) = nI i) : zMet l G yL_act cL_act 5 (some .int) 7 147 [.ref (G.1 + 0), .int v, .int b] μ (zQi G (a_act μ fb o z T I T2 I2 k t i v b).1 (a_act μ fb o z T I T2 I2 k t i v b).2) := by
  refine z_start (lv := [(0, .ref (G.1 + 0)), (1, .int v), (2, .int b)]) (by decide) (Nat.le_of_ble_eq_true rfl) rfl ?_
  intro p e s m args below meth c ls hx hb hml hr hlk hts hown hK hZ hS hl
  have hown : s.vm.findClass RL = some m.cls := hown
  have hhome : ∀ j, j < I → (μ (1 + (15 + j)) 0).toNatClampNeg < T ∧ μ (1 + (15 + j)) 0 = nI (μ (1 + (15 + j)) 0).toNatClampNeg := by
    intro j hj
    obtain ⟨k, hk, ek⟩ := hhm j hj
    rw [ek, nI_clamp (by omega)]
    exact ⟨hk, rfl⟩
  refine lv_iload_n hx hb dL_act_0 rfl (lv_at hl 1 rfl) ?_
  refine lv_iconst (v := 4) hx hb dL_act_1 (by decide) ?_
  refine lv_ishr hx hb dL_act_2 ?_
  refine lv_aload_n hx hb dL_act_3 rfl (lv_at hl 0 rfl) ?_
  refine lv_iconst (v := 1) hx hb dL_act_4 (by decide) ?_
  refine z_cVi (As := [.int 1]) (rest := [.int (v >>> ((4 : Int32) &&& 31))]) hx hb hml hown hts hl hK hZ hS (L_cntT l G μ fb hh hfb hfh T I o z hT hI hT6 hI24 ho hz ho4 hz4) (z_G q294 q295 q296 q1 q297) hdX6_count ⟨Nat.le_of_ble_eq_true rfl, Nat.le_of_ble_eq_true rfl⟩ zk0 (by decide) rfl rfl rfl rfl (Nat.le_of_ble_eq_true rfl) dL_act_5 ⟨(Nat.zero_le _), (Nat.zero_le _)⟩ (fun H locs hZ hS => ?_)
  refine lv_iconst (v := 1) hx hb dL_act_8 (by decide) ?_
  refine lv_iadd hx hb dL_act_9 ?_
  rw [nI_1]
  refine z_cSi (As := [.int (v >>> ((4 : Int32) &&& 31)), .int (nI (T + 1))]) (rest := []) hx hb hml hown hts hl hK hZ hS (c_L_low l G μ (v >>> ((4 : Int32) &&& 31)) (nI (T + 1)) (nI_nz (by omega))) (z_GS q439 q440 q0 q441) hdL_low ⟨Nat.le_of_ble_eq_true rfl, Nat.le_of_ble_eq_true rfl⟩ rfl rfl (Nat.le_of_ble_eq_true rfl) dL_act_10 ⟨(Nat.zero_le _), (Nat.zero_le _)⟩ (fun H locs hZ hS => ?_)
  rw [et]
  refine lv_istore_n (lv' := [(3, .int (nI t)), (0, .ref (G.1 + 0)), (1, .int v), (2, .int b)]) hx hb dL_act_13 rfl hl (by decide) rfl (fun ls hl => ?_)
  refine lv_iload_n hx hb dL_act_14 rfl (lv_at hl 2 rfl) ?_
  refine lv_iconst (v := 4) hx hb dL_act_15 (by decide) ?_
  refine lv_ishr hx hb dL_act_16 ?_
  refine lv_aload_n hx hb dL_act_17 rfl (lv_at hl 1 rfl) ?_
  refine lv_bipush (v := 6) hx hb dL_act_18 (by decide) ?_
  refine z_cVi (As := [.int 6]) (rest := [.int (v >>> ((4 : Int32) &&& 31))]) hx hb hml hown hts hl hK hZ hS (L_cntI l G μ fb hh hfb hfh T I o z hT hI hT6 hI24 ho hz ho4 hz4) (z_G q294 q295 q296 q1 q297) hdX6_count ⟨Nat.le_of_ble_eq_true rfl, Nat.le_of_ble_eq_true rfl⟩ zk0 (by decide) rfl rfl rfl rfl (Nat.le_of_ble_eq_true rfl) dL_act_20 ⟨(Nat.zero_le _), (Nat.zero_le _)⟩ (fun H locs hZ hS => ?_)
  refine lv_iconst (v := 1) hx hb dL_act_23 (by decide) ?_
  refine lv_iadd hx hb dL_act_24 ?_
  rw [nI_1]
  refine z_cSi (As := [.int (v >>> ((4 : Int32) &&& 31)), .int (nI (I + 1))]) (rest := []) hx hb hml hown hts hl hK hZ hS (c_L_low l G μ (v >>> ((4 : Int32) &&& 31)) (nI (I + 1)) (nI_nz (by omega))) (z_GS q439 q440 q0 q441) hdL_low ⟨Nat.le_of_ble_eq_true rfl, Nat.le_of_ble_eq_true rfl⟩ rfl rfl (Nat.le_of_ble_eq_true rfl) dL_act_25 ⟨(Nat.zero_le _), (Nat.zero_le _)⟩ (fun H locs hZ hS => ?_)
  rw [ei]
  refine lv_istore (lv' := [(4, .int (nI i)), (3, .int (nI t)), (0, .ref (G.1 + 0)), (1, .int v), (2, .int b)]) hx hb dL_act_28 hl (by decide) rfl (fun ls hl => ?_)
  refine lv_iload_n hx hb dL_act_30 rfl (lv_at hl 3 rfl) ?_
  refine lv_bipush (v := 15) hx hb dL_act_31 (by decide) ?_
  refine lv_iand hx hb dL_act_33 ?_
  rw [ek]
  have hcs : k = 0 ∨ k = 1 ∨ k = 2 ∨ k = 3 ∨ k = 4 ∨ k = 5 ∨ k = 6 ∨ k = 7 ∨ k = 8 ∨ k = 9 ∨ k = 10 ∨ k = 11 ∨ k = 12 ∨ k = 13 ∨ k = 14 ∨ k = 15 := by omega
  rcases hcs with rfl | rfl | rfl | rfl | rfl | rfl | rfl | rfl | rfl | rfl | rfl | rfl | rfl | rfl | rfl | rfl
  · refine lv_tableIn (off := 74) (tgt := 108) hx hb dL_act_34 (by decide) (by decide) rfl (by decide) ?_
    refine lv_aload_n hx hb dL_act_108 rfl (lv_at hl 2 rfl) ?_
    refine lv_sipush (v := 900) hx hb dL_act_109 (by decide) ?_
    refine lv_iload_n hx hb dL_act_112 rfl (lv_at hl 4 rfl) ?_
    refine lv_ldc hx hb hown (hts _ q443) dL_act_113 ?_
    refine z_cSi (As := [.int b, .int 60000]) (rest := [.int 900, .ref (G.1 + 0)]) hx hb hml hown hts hl hK hZ hS (c_L_low l G μ b 60000 (by decide)) (z_GS q439 q440 q0 q441) hdL_low ⟨Nat.le_of_ble_eq_true rfl, Nat.le_of_ble_eq_true rfl⟩ rfl rfl (Nat.le_of_ble_eq_true rfl) dL_act_115 ⟨(Nat.zero_le _), (Nat.zero_le _)⟩ (fun H locs hZ hS => ?_)
    refine lv_iadd hx hb dL_act_118 ?_
    refine z_cVi (As := [.int (900 + (s_low b 60000))]) (rest := []) hx hb hml hown hts hl hK hZ hS (c_X6_begin l G μ fb hh hfb hfh T I o z hT hI hT6 hI24 ho hz ho4 hz4 (900 + (s_low b 60000))) (z_G q444 q445 q446 q1 q447) hdX6_begin ⟨Nat.le_of_ble_eq_true rfl, Nat.le_of_ble_eq_true rfl⟩ zk0 (by decide) rfl rfl rfl rfl (Nat.le_of_ble_eq_true rfl) dL_act_119 ⟨(Nat.zero_le _), (Nat.zero_le _)⟩ (fun H locs hZ hS => ?_)
    exact z_iret hx hb hr hlk hK hZ hS (show _ ∧ _ from (by rw [show a_act μ fb o z T I T2 I2 0 t i v b = (p_begin μ fb o z T I (900 + (s_low b 60000))) from rfl]; exact ⟨rfl, rfl⟩)) dL_act_122
  · refine lv_tableIn (off := 89) (tgt := 123) hx hb dL_act_34 (by decide) (by decide) rfl (by decide) ?_
    by_cases hc : T = 0
    · refine lv_aload_n hx hb dL_act_123 rfl (lv_at hl 2 rfl) ?_
      refine lv_aload_n hx hb dL_act_124 rfl (lv_at hl 2 rfl) ?_
      refine lv_iconst (v := 1) hx hb dL_act_125 (by decide) ?_
      refine z_cVi (As := [.int 1]) (rest := [.ref (G.1 + 0)]) hx hb hml hown hts hl hK hZ hS (L_cntT l G μ fb hh hfb hfh T I o z hT hI hT6 hI24 ho hz ho4 hz4) (z_G q294 q295 q296 q1 q297) hdX6_count ⟨Nat.le_of_ble_eq_true rfl, Nat.le_of_ble_eq_true rfl⟩ zk0 (by decide) rfl rfl rfl rfl (Nat.le_of_ble_eq_true rfl) dL_act_126 ⟨(Nat.zero_le _), (Nat.zero_le _)⟩ (fun H locs hZ hS => ?_)
      refine lv_iconst (v := 1) hx hb dL_act_129 (by decide) ?_
      refine lv_isub hx hb dL_act_130 ?_
      rw [show nI T - 1 = (-1) from (by rw [hc]; rfl)]
      refine lv_bipush (v := 90) hx hb dL_act_131 (by decide) ?_
      refine lv_iload_n hx hb dL_act_133 rfl (lv_at hl 4 rfl) ?_
      refine lv_ldc hx hb hown (hts _ q443) dL_act_134 ?_
      refine z_cSi (As := [.int b, .int 60000]) (rest := [.int 90, .int (-1), .ref (G.1 + 0)]) hx hb hml hown hts hl hK hZ hS (c_L_low l G μ b 60000 (by decide)) (z_GS q439 q440 q0 q441) hdL_low ⟨Nat.le_of_ble_eq_true rfl, Nat.le_of_ble_eq_true rfl⟩ rfl rfl (Nat.le_of_ble_eq_true rfl) dL_act_136 ⟨(Nat.zero_le _), (Nat.zero_le _)⟩ (fun H locs hZ hS => ?_)
      refine lv_iadd hx hb dL_act_139 ?_
      refine lv_bipush (v := 30) hx hb dL_act_140 (by decide) ?_
      refine lv_iload_n hx hb dL_act_142 rfl (lv_at hl 4 rfl) ?_
      refine lv_iconst (v := 3) hx hb dL_act_143 (by decide) ?_
      refine lv_ishr hx hb dL_act_144 ?_
      refine lv_sipush (v := 3000) hx hb dL_act_145 (by decide) ?_
      refine z_cSi (As := [.int (b >>> ((3 : Int32) &&& 31)), .int 3000]) (rest := [.int 30, .int (90 + (s_low b 60000)), .int (-1), .ref (G.1 + 0)]) hx hb hml hown hts hl hK hZ hS (c_L_low l G μ (b >>> ((3 : Int32) &&& 31)) 3000 (by decide)) (z_GS q439 q440 q0 q441) hdL_low ⟨Nat.le_of_ble_eq_true rfl, Nat.le_of_ble_eq_true rfl⟩ rfl rfl (Nat.le_of_ble_eq_true rfl) dL_act_148 ⟨(Nat.zero_le _), (Nat.zero_le _)⟩ (fun H locs hZ hS => ?_)
      refine lv_iadd hx hb dL_act_151 ?_
      refine lv_iload_n hx hb dL_act_152 rfl (lv_at hl 4 rfl) ?_
      refine lv_bipush (v := 7) hx hb dL_act_153 (by decide) ?_
      refine lv_ishr hx hb dL_act_155 ?_
      refine lv_sipush (v := 2000) hx hb dL_act_156 (by decide) ?_
      refine z_cSi (As := [.int (b >>> ((7 : Int32) &&& 31)), .int 2000]) (rest := [.int (30 + (s_low (b >>> ((3 : Int32) &&& 31)) 3000)), .int (90 + (s_low b 60000)), .int (-1), .ref (G.1 + 0)]) hx hb hml hown hts hl hK hZ hS (c_L_low l G μ (b >>> ((7 : Int32) &&& 31)) 2000 (by decide)) (z_GS q439 q440 q0 q441) hdL_low ⟨Nat.le_of_ble_eq_true rfl, Nat.le_of_ble_eq_true rfl⟩ rfl rfl (Nat.le_of_ble_eq_true rfl) dL_act_159 ⟨(Nat.zero_le _), (Nat.zero_le _)⟩ (fun H locs hZ hS => ?_)
      refine lv_iload_n hx hb dL_act_162 rfl (lv_at hl 4 rfl) ?_
      refine lv_bipush (v := 11) hx hb dL_act_163 (by decide) ?_
      refine lv_ishr hx hb dL_act_165 ?_
      refine lv_bipush (v := 103) hx hb dL_act_166 (by decide) ?_
      refine z_cSi (As := [.int (b >>> ((11 : Int32) &&& 31)), .int 103]) (rest := [.int (s_low (b >>> ((7 : Int32) &&& 31)) 2000), .int (30 + (s_low (b >>> ((3 : Int32) &&& 31)) 3000)), .int (90 + (s_low b 60000)), .int (-1), .ref (G.1 + 0)]) hx hb hml hown hts hl hK hZ hS (c_L_low l G μ (b >>> ((11 : Int32) &&& 31)) 103 (by decide)) (z_GS q439 q440 q0 q441) hdL_low ⟨Nat.le_of_ble_eq_true rfl, Nat.le_of_ble_eq_true rfl⟩ rfl rfl (Nat.le_of_ble_eq_true rfl) dL_act_168 ⟨(Nat.zero_le _), (Nat.zero_le _)⟩ (fun H locs hZ hS => ?_)
      refine z_cVi (As := [.int (-1), .int (90 + (s_low b 60000)), .int (30 + (s_low (b >>> ((3 : Int32) &&& 31)) 3000)), .int (s_low (b >>> ((7 : Int32) &&& 31)) 2000), .int (s_low (b >>> ((11 : Int32) &&& 31)) 103)]) (rest := []) hx hb hml hown hts hl hK hZ hS (c_X6_addItem_no l G μ fb hfb T I hT hI hT6 hI24 (-1) (Or.inl (by decide)) (90 + (s_low b 60000)) (30 + (s_low (b >>> ((3 : Int32) &&& 31)) 3000)) (s_low (b >>> ((7 : Int32) &&& 31)) 2000) (s_low (b >>> ((11 : Int32) &&& 31)) 103)) (z_G q458 q459 q460 q1 q461) hdX6_addItem ⟨Nat.le_of_ble_eq_true rfl, Nat.le_of_ble_eq_true rfl⟩ zk0 (by decide) rfl rfl rfl rfl (Nat.le_of_ble_eq_true rfl) dL_act_171 ⟨(Nat.zero_le _), (Nat.zero_le _)⟩ (fun H locs hZ hS => ?_)
      exact z_iret hx hb hr hlk hK hZ hS (show _ ∧ _ from (by rw [show a_act μ fb o z T I T2 I2 1 t i v b = ((-1), μ) from ((if_pos hc).trans rfl)]; exact ⟨rfl, rfl⟩)) dL_act_174
    · refine lv_aload_n hx hb dL_act_123 rfl (lv_at hl 2 rfl) ?_
      refine lv_aload_n hx hb dL_act_124 rfl (lv_at hl 2 rfl) ?_
      refine lv_iconst (v := 1) hx hb dL_act_125 (by decide) ?_
      refine z_cVi (As := [.int 1]) (rest := [.ref (G.1 + 0)]) hx hb hml hown hts hl hK hZ hS (L_cntT l G μ fb hh hfb hfh T I o z hT hI hT6 hI24 ho hz ho4 hz4) (z_G q294 q295 q296 q1 q297) hdX6_count ⟨Nat.le_of_ble_eq_true rfl, Nat.le_of_ble_eq_true rfl⟩ zk0 (by decide) rfl rfl rfl rfl (Nat.le_of_ble_eq_true rfl) dL_act_126 ⟨(Nat.zero_le _), (Nat.zero_le _)⟩ (fun H locs hZ hS => ?_)
      refine lv_iconst (v := 1) hx hb dL_act_129 (by decide) ?_
      refine lv_isub hx hb dL_act_130 ?_
      rw [nI_pr hc]
      refine lv_bipush (v := 90) hx hb dL_act_131 (by decide) ?_
      refine lv_iload_n hx hb dL_act_133 rfl (lv_at hl 4 rfl) ?_
      refine lv_ldc hx hb hown (hts _ q443) dL_act_134 ?_
      refine z_cSi (As := [.int b, .int 60000]) (rest := [.int 90, .int (nI (T - 1)), .ref (G.1 + 0)]) hx hb hml hown hts hl hK hZ hS (c_L_low l G μ b 60000 (by decide)) (z_GS q439 q440 q0 q441) hdL_low ⟨Nat.le_of_ble_eq_true rfl, Nat.le_of_ble_eq_true rfl⟩ rfl rfl (Nat.le_of_ble_eq_true rfl) dL_act_136 ⟨(Nat.zero_le _), (Nat.zero_le _)⟩ (fun H locs hZ hS => ?_)
      refine lv_iadd hx hb dL_act_139 ?_
      refine lv_bipush (v := 30) hx hb dL_act_140 (by decide) ?_
      refine lv_iload_n hx hb dL_act_142 rfl (lv_at hl 4 rfl) ?_
      refine lv_iconst (v := 3) hx hb dL_act_143 (by decide) ?_
      refine lv_ishr hx hb dL_act_144 ?_
      refine lv_sipush (v := 3000) hx hb dL_act_145 (by decide) ?_
      refine z_cSi (As := [.int (b >>> ((3 : Int32) &&& 31)), .int 3000]) (rest := [.int 30, .int (90 + (s_low b 60000)), .int (nI (T - 1)), .ref (G.1 + 0)]) hx hb hml hown hts hl hK hZ hS (c_L_low l G μ (b >>> ((3 : Int32) &&& 31)) 3000 (by decide)) (z_GS q439 q440 q0 q441) hdL_low ⟨Nat.le_of_ble_eq_true rfl, Nat.le_of_ble_eq_true rfl⟩ rfl rfl (Nat.le_of_ble_eq_true rfl) dL_act_148 ⟨(Nat.zero_le _), (Nat.zero_le _)⟩ (fun H locs hZ hS => ?_)
      refine lv_iadd hx hb dL_act_151 ?_
      refine lv_iload_n hx hb dL_act_152 rfl (lv_at hl 4 rfl) ?_
      refine lv_bipush (v := 7) hx hb dL_act_153 (by decide) ?_
      refine lv_ishr hx hb dL_act_155 ?_
      refine lv_sipush (v := 2000) hx hb dL_act_156 (by decide) ?_
      refine z_cSi (As := [.int (b >>> ((7 : Int32) &&& 31)), .int 2000]) (rest := [.int (30 + (s_low (b >>> ((3 : Int32) &&& 31)) 3000)), .int (90 + (s_low b 60000)), .int (nI (T - 1)), .ref (G.1 + 0)]) hx hb hml hown hts hl hK hZ hS (c_L_low l G μ (b >>> ((7 : Int32) &&& 31)) 2000 (by decide)) (z_GS q439 q440 q0 q441) hdL_low ⟨Nat.le_of_ble_eq_true rfl, Nat.le_of_ble_eq_true rfl⟩ rfl rfl (Nat.le_of_ble_eq_true rfl) dL_act_159 ⟨(Nat.zero_le _), (Nat.zero_le _)⟩ (fun H locs hZ hS => ?_)
      refine lv_iload_n hx hb dL_act_162 rfl (lv_at hl 4 rfl) ?_
      refine lv_bipush (v := 11) hx hb dL_act_163 (by decide) ?_
      refine lv_ishr hx hb dL_act_165 ?_
      refine lv_bipush (v := 103) hx hb dL_act_166 (by decide) ?_
      refine z_cSi (As := [.int (b >>> ((11 : Int32) &&& 31)), .int 103]) (rest := [.int (s_low (b >>> ((7 : Int32) &&& 31)) 2000), .int (30 + (s_low (b >>> ((3 : Int32) &&& 31)) 3000)), .int (90 + (s_low b 60000)), .int (nI (T - 1)), .ref (G.1 + 0)]) hx hb hml hown hts hl hK hZ hS (c_L_low l G μ (b >>> ((11 : Int32) &&& 31)) 103 (by decide)) (z_GS q439 q440 q0 q441) hdL_low ⟨Nat.le_of_ble_eq_true rfl, Nat.le_of_ble_eq_true rfl⟩ rfl rfl (Nat.le_of_ble_eq_true rfl) dL_act_168 ⟨(Nat.zero_le _), (Nat.zero_le _)⟩ (fun H locs hZ hS => ?_)
      refine z_cVi (As := [.int (nI (T - 1)), .int (90 + (s_low b 60000)), .int (30 + (s_low (b >>> ((3 : Int32) &&& 31)) 3000)), .int (s_low (b >>> ((7 : Int32) &&& 31)) 2000), .int (s_low (b >>> ((11 : Int32) &&& 31)) 103)]) (rest := []) hx hb hml hown hts hl hK hZ hS (c_X6_addItem l G μ fb hh hfb hfh T I o z hT hI hT6 hI24 ho hz ho4 hz4 (T - 1) (by omega) _ rfl (90 + (s_low b 60000)) (30 + (s_low (b >>> ((3 : Int32) &&& 31)) 3000)) (s_low (b >>> ((7 : Int32) &&& 31)) 2000) (s_low (b >>> ((11 : Int32) &&& 31)) 103)) (z_G q458 q459 q460 q1 q461) hdX6_addItem ⟨Nat.le_of_ble_eq_true rfl, Nat.le_of_ble_eq_true rfl⟩ zk0 (by decide) rfl rfl rfl rfl (Nat.le_of_ble_eq_true rfl) dL_act_171 ⟨(Nat.zero_le _), (Nat.zero_le _)⟩ (fun H locs hZ hS => ?_)
      exact z_iret hx hb hr hlk hK hZ hS (show _ ∧ _ from (by rw [show a_act μ fb o z T I T2 I2 1 t i v b = (p_addItem μ fb o z T I (T - 1) (μ (1 + (3 + 2 * (T - 1)))) (90 + (s_low b 60000)) (30 + (s_low (b >>> ((3 : Int32) &&& 31)) 3000)) (s_low (b >>> ((7 : Int32) &&& 31)) 2000) (s_low (b >>> ((11 : Int32) &&& 31)) 103)) from ((if_neg hc).trans rfl)]; exact ⟨rfl, rfl⟩)) dL_act_174
  · refine lv_tableIn (off := 89) (tgt := 123) hx hb dL_act_34 (by decide) (by decide) rfl (by decide) ?_
    by_cases hc : T = 0
    · refine lv_aload_n hx hb dL_act_123 rfl (lv_at hl 2 rfl) ?_
      refine lv_aload_n hx hb dL_act_124 rfl (lv_at hl 2 rfl) ?_
      refine lv_iconst (v := 1) hx hb dL_act_125 (by decide) ?_
      refine z_cVi (As := [.int 1]) (rest := [.ref (G.1 + 0)]) hx hb hml hown hts hl hK hZ hS (L_cntT l G μ fb hh hfb hfh T I o z hT hI hT6 hI24 ho hz ho4 hz4) (z_G q294 q295 q296 q1 q297) hdX6_count ⟨Nat.le_of_ble_eq_true rfl, Nat.le_of_ble_eq_true rfl⟩ zk0 (by decide) rfl rfl rfl rfl (Nat.le_of_ble_eq_true rfl) dL_act_126 ⟨(Nat.zero_le _), (Nat.zero_le _)⟩ (fun H locs hZ hS => ?_)
      refine lv_iconst (v := 1) hx hb dL_act_129 (by decide) ?_
      refine lv_isub hx hb dL_act_130 ?_
      rw [show nI T - 1 = (-1) from (by rw [hc]; rfl)]
      refine lv_bipush (v := 90) hx hb dL_act_131 (by decide) ?_
      refine lv_iload_n hx hb dL_act_133 rfl (lv_at hl 4 rfl) ?_
      refine lv_ldc hx hb hown (hts _ q443) dL_act_134 ?_
      refine z_cSi (As := [.int b, .int 60000]) (rest := [.int 90, .int (-1), .ref (G.1 + 0)]) hx hb hml hown hts hl hK hZ hS (c_L_low l G μ b 60000 (by decide)) (z_GS q439 q440 q0 q441) hdL_low ⟨Nat.le_of_ble_eq_true rfl, Nat.le_of_ble_eq_true rfl⟩ rfl rfl (Nat.le_of_ble_eq_true rfl) dL_act_136 ⟨(Nat.zero_le _), (Nat.zero_le _)⟩ (fun H locs hZ hS => ?_)
      refine lv_iadd hx hb dL_act_139 ?_
      refine lv_bipush (v := 30) hx hb dL_act_140 (by decide) ?_
      refine lv_iload_n hx hb dL_act_142 rfl (lv_at hl 4 rfl) ?_
      refine lv_iconst (v := 3) hx hb dL_act_143 (by decide) ?_
      refine lv_ishr hx hb dL_act_144 ?_
      refine lv_sipush (v := 3000) hx hb dL_act_145 (by decide) ?_
      refine z_cSi (As := [.int (b >>> ((3 : Int32) &&& 31)), .int 3000]) (rest := [.int 30, .int (90 + (s_low b 60000)), .int (-1), .ref (G.1 + 0)]) hx hb hml hown hts hl hK hZ hS (c_L_low l G μ (b >>> ((3 : Int32) &&& 31)) 3000 (by decide)) (z_GS q439 q440 q0 q441) hdL_low ⟨Nat.le_of_ble_eq_true rfl, Nat.le_of_ble_eq_true rfl⟩ rfl rfl (Nat.le_of_ble_eq_true rfl) dL_act_148 ⟨(Nat.zero_le _), (Nat.zero_le _)⟩ (fun H locs hZ hS => ?_)
      refine lv_iadd hx hb dL_act_151 ?_
      refine lv_iload_n hx hb dL_act_152 rfl (lv_at hl 4 rfl) ?_
      refine lv_bipush (v := 7) hx hb dL_act_153 (by decide) ?_
      refine lv_ishr hx hb dL_act_155 ?_
      refine lv_sipush (v := 2000) hx hb dL_act_156 (by decide) ?_
      refine z_cSi (As := [.int (b >>> ((7 : Int32) &&& 31)), .int 2000]) (rest := [.int (30 + (s_low (b >>> ((3 : Int32) &&& 31)) 3000)), .int (90 + (s_low b 60000)), .int (-1), .ref (G.1 + 0)]) hx hb hml hown hts hl hK hZ hS (c_L_low l G μ (b >>> ((7 : Int32) &&& 31)) 2000 (by decide)) (z_GS q439 q440 q0 q441) hdL_low ⟨Nat.le_of_ble_eq_true rfl, Nat.le_of_ble_eq_true rfl⟩ rfl rfl (Nat.le_of_ble_eq_true rfl) dL_act_159 ⟨(Nat.zero_le _), (Nat.zero_le _)⟩ (fun H locs hZ hS => ?_)
      refine lv_iload_n hx hb dL_act_162 rfl (lv_at hl 4 rfl) ?_
      refine lv_bipush (v := 11) hx hb dL_act_163 (by decide) ?_
      refine lv_ishr hx hb dL_act_165 ?_
      refine lv_bipush (v := 103) hx hb dL_act_166 (by decide) ?_
      refine z_cSi (As := [.int (b >>> ((11 : Int32) &&& 31)), .int 103]) (rest := [.int (s_low (b >>> ((7 : Int32) &&& 31)) 2000), .int (30 + (s_low (b >>> ((3 : Int32) &&& 31)) 3000)), .int (90 + (s_low b 60000)), .int (-1), .ref (G.1 + 0)]) hx hb hml hown hts hl hK hZ hS (c_L_low l G μ (b >>> ((11 : Int32) &&& 31)) 103 (by decide)) (z_GS q439 q440 q0 q441) hdL_low ⟨Nat.le_of_ble_eq_true rfl, Nat.le_of_ble_eq_true rfl⟩ rfl rfl (Nat.le_of_ble_eq_true rfl) dL_act_168 ⟨(Nat.zero_le _), (Nat.zero_le _)⟩ (fun H locs hZ hS => ?_)
      refine z_cVi (As := [.int (-1), .int (90 + (s_low b 60000)), .int (30 + (s_low (b >>> ((3 : Int32) &&& 31)) 3000)), .int (s_low (b >>> ((7 : Int32) &&& 31)) 2000), .int (s_low (b >>> ((11 : Int32) &&& 31)) 103)]) (rest := []) hx hb hml hown hts hl hK hZ hS (c_X6_addItem_no l G μ fb hfb T I hT hI hT6 hI24 (-1) (Or.inl (by decide)) (90 + (s_low b 60000)) (30 + (s_low (b >>> ((3 : Int32) &&& 31)) 3000)) (s_low (b >>> ((7 : Int32) &&& 31)) 2000) (s_low (b >>> ((11 : Int32) &&& 31)) 103)) (z_G q458 q459 q460 q1 q461) hdX6_addItem ⟨Nat.le_of_ble_eq_true rfl, Nat.le_of_ble_eq_true rfl⟩ zk0 (by decide) rfl rfl rfl rfl (Nat.le_of_ble_eq_true rfl) dL_act_171 ⟨(Nat.zero_le _), (Nat.zero_le _)⟩ (fun H locs hZ hS => ?_)
      exact z_iret hx hb hr hlk hK hZ hS (show _ ∧ _ from (by rw [show a_act μ fb o z T I T2 I2 2 t i v b = ((-1), μ) from ((if_pos hc).trans rfl)]; exact ⟨rfl, rfl⟩)) dL_act_174
    · refine lv_aload_n hx hb dL_act_123 rfl (lv_at hl 2 rfl) ?_
      refine lv_aload_n hx hb dL_act_124 rfl (lv_at hl 2 rfl) ?_
      refine lv_iconst (v := 1) hx hb dL_act_125 (by decide) ?_
      refine z_cVi (As := [.int 1]) (rest := [.ref (G.1 + 0)]) hx hb hml hown hts hl hK hZ hS (L_cntT l G μ fb hh hfb hfh T I o z hT hI hT6 hI24 ho hz ho4 hz4) (z_G q294 q295 q296 q1 q297) hdX6_count ⟨Nat.le_of_ble_eq_true rfl, Nat.le_of_ble_eq_true rfl⟩ zk0 (by decide) rfl rfl rfl rfl (Nat.le_of_ble_eq_true rfl) dL_act_126 ⟨(Nat.zero_le _), (Nat.zero_le _)⟩ (fun H locs hZ hS => ?_)
      refine lv_iconst (v := 1) hx hb dL_act_129 (by decide) ?_
      refine lv_isub hx hb dL_act_130 ?_
      rw [nI_pr hc]
      refine lv_bipush (v := 90) hx hb dL_act_131 (by decide) ?_
      refine lv_iload_n hx hb dL_act_133 rfl (lv_at hl 4 rfl) ?_
      refine lv_ldc hx hb hown (hts _ q443) dL_act_134 ?_
      refine z_cSi (As := [.int b, .int 60000]) (rest := [.int 90, .int (nI (T - 1)), .ref (G.1 + 0)]) hx hb hml hown hts hl hK hZ hS (c_L_low l G μ b 60000 (by decide)) (z_GS q439 q440 q0 q441) hdL_low ⟨Nat.le_of_ble_eq_true rfl, Nat.le_of_ble_eq_true rfl⟩ rfl rfl (Nat.le_of_ble_eq_true rfl) dL_act_136 ⟨(Nat.zero_le _), (Nat.zero_le _)⟩ (fun H locs hZ hS => ?_)
      refine lv_iadd hx hb dL_act_139 ?_
      refine lv_bipush (v := 30) hx hb dL_act_140 (by decide) ?_
      refine lv_iload_n hx hb dL_act_142 rfl (lv_at hl 4 rfl) ?_
      refine lv_iconst (v := 3) hx hb dL_act_143 (by decide) ?_
      refine lv_ishr hx hb dL_act_144 ?_
      refine lv_sipush (v := 3000) hx hb dL_act_145 (by decide) ?_
      refine z_cSi (As := [.int (b >>> ((3 : Int32) &&& 31)), .int 3000]) (rest := [.int 30, .int (90 + (s_low b 60000)), .int (nI (T - 1)), .ref (G.1 + 0)]) hx hb hml hown hts hl hK hZ hS (c_L_low l G μ (b >>> ((3 : Int32) &&& 31)) 3000 (by decide)) (z_GS q439 q440 q0 q441) hdL_low ⟨Nat.le_of_ble_eq_true rfl, Nat.le_of_ble_eq_true rfl⟩ rfl rfl (Nat.le_of_ble_eq_true rfl) dL_act_148 ⟨(Nat.zero_le _), (Nat.zero_le _)⟩ (fun H locs hZ hS => ?_)
      refine lv_iadd hx hb dL_act_151 ?_
      refine lv_iload_n hx hb dL_act_152 rfl (lv_at hl 4 rfl) ?_
      refine lv_bipush (v := 7) hx hb dL_act_153 (by decide) ?_
      refine lv_ishr hx hb dL_act_155 ?_
      refine lv_sipush (v := 2000) hx hb dL_act_156 (by decide) ?_
      refine z_cSi (As := [.int (b >>> ((7 : Int32) &&& 31)), .int 2000]) (rest := [.int (30 + (s_low (b >>> ((3 : Int32) &&& 31)) 3000)), .int (90 + (s_low b 60000)), .int (nI (T - 1)), .ref (G.1 + 0)]) hx hb hml hown hts hl hK hZ hS (c_L_low l G μ (b >>> ((7 : Int32) &&& 31)) 2000 (by decide)) (z_GS q439 q440 q0 q441) hdL_low ⟨Nat.le_of_ble_eq_true rfl, Nat.le_of_ble_eq_true rfl⟩ rfl rfl (Nat.le_of_ble_eq_true rfl) dL_act_159 ⟨(Nat.zero_le _), (Nat.zero_le _)⟩ (fun H locs hZ hS => ?_)
      refine lv_iload_n hx hb dL_act_162 rfl (lv_at hl 4 rfl) ?_
      refine lv_bipush (v := 11) hx hb dL_act_163 (by decide) ?_
      refine lv_ishr hx hb dL_act_165 ?_
      refine lv_bipush (v := 103) hx hb dL_act_166 (by decide) ?_
      refine z_cSi (As := [.int (b >>> ((11 : Int32) &&& 31)), .int 103]) (rest := [.int (s_low (b >>> ((7 : Int32) &&& 31)) 2000), .int (30 + (s_low (b >>> ((3 : Int32) &&& 31)) 3000)), .int (90 + (s_low b 60000)), .int (nI (T - 1)), .ref (G.1 + 0)]) hx hb hml hown hts hl hK hZ hS (c_L_low l G μ (b >>> ((11 : Int32) &&& 31)) 103 (by decide)) (z_GS q439 q440 q0 q441) hdL_low ⟨Nat.le_of_ble_eq_true rfl, Nat.le_of_ble_eq_true rfl⟩ rfl rfl (Nat.le_of_ble_eq_true rfl) dL_act_168 ⟨(Nat.zero_le _), (Nat.zero_le _)⟩ (fun H locs hZ hS => ?_)
      refine z_cVi (As := [.int (nI (T - 1)), .int (90 + (s_low b 60000)), .int (30 + (s_low (b >>> ((3 : Int32) &&& 31)) 3000)), .int (s_low (b >>> ((7 : Int32) &&& 31)) 2000), .int (s_low (b >>> ((11 : Int32) &&& 31)) 103)]) (rest := []) hx hb hml hown hts hl hK hZ hS (c_X6_addItem l G μ fb hh hfb hfh T I o z hT hI hT6 hI24 ho hz ho4 hz4 (T - 1) (by omega) _ rfl (90 + (s_low b 60000)) (30 + (s_low (b >>> ((3 : Int32) &&& 31)) 3000)) (s_low (b >>> ((7 : Int32) &&& 31)) 2000) (s_low (b >>> ((11 : Int32) &&& 31)) 103)) (z_G q458 q459 q460 q1 q461) hdX6_addItem ⟨Nat.le_of_ble_eq_true rfl, Nat.le_of_ble_eq_true rfl⟩ zk0 (by decide) rfl rfl rfl rfl (Nat.le_of_ble_eq_true rfl) dL_act_171 ⟨(Nat.zero_le _), (Nat.zero_le _)⟩ (fun H locs hZ hS => ?_)
      exact z_iret hx hb hr hlk hK hZ hS (show _ ∧ _ from (by rw [show a_act μ fb o z T I T2 I2 2 t i v b = (p_addItem μ fb o z T I (T - 1) (μ (1 + (3 + 2 * (T - 1)))) (90 + (s_low b 60000)) (30 + (s_low (b >>> ((3 : Int32) &&& 31)) 3000)) (s_low (b >>> ((7 : Int32) &&& 31)) 2000) (s_low (b >>> ((11 : Int32) &&& 31)) 103)) from ((if_neg hc).trans rfl)]; exact ⟨rfl, rfl⟩)) dL_act_174
  · refine lv_tableIn (off := 141) (tgt := 175) hx hb dL_act_34 (by decide) (by decide) rfl (by decide) ?_
    refine lv_aload_n hx hb dL_act_175 rfl (lv_at hl 2 rfl) ?_
    refine lv_iload_n hx hb dL_act_176 rfl (lv_at hl 4 rfl) ?_
    refine lv_sipush (v := 300) hx hb dL_act_177 (by decide) ?_
    refine z_cSi (As := [.int b, .int 300]) (rest := [.ref (G.1 + 0)]) hx hb hml hown hts hl hK hZ hS (c_L_low l G μ b 300 (by decide)) (z_GS q439 q440 q0 q441) hdL_low ⟨Nat.le_of_ble_eq_true rfl, Nat.le_of_ble_eq_true rfl⟩ rfl rfl (Nat.le_of_ble_eq_true rfl) dL_act_180 ⟨(Nat.zero_le _), (Nat.zero_le _)⟩ (fun H locs hZ hS => ?_)
    refine z_cVi (As := [.int (s_low b 300)]) (rest := []) hx hb hml hown hts hl hK hZ hS (c_X6_pass l G μ fb hh hfb hfh T I o z hT hI hT6 hI24 ho hz ho4 hz4 (s_low b 300)) (z_G q471 q472 q473 q1 q474) hdX6_pass ⟨Nat.le_of_ble_eq_true rfl, Nat.le_of_ble_eq_true rfl⟩ zk0 (by decide) rfl rfl rfl rfl (Nat.le_of_ble_eq_true rfl) dL_act_183 ⟨(Nat.zero_le _), (Nat.zero_le _)⟩ (fun H locs hZ hS => ?_)
    exact z_iret hx hb hr hlk hK hZ hS (show _ ∧ _ from (by rw [show a_act μ fb o z T I T2 I2 3 t i v b = (p_pass μ fb o z T I (s_low b 300)) from rfl]; exact ⟨rfl, rfl⟩)) dL_act_186
  · refine lv_tableIn (off := 153) (tgt := 187) hx hb dL_act_34 (by decide) (by decide) rfl (by decide) ?_
    by_cases hc : t = T
    · refine lv_aload_n hx hb dL_act_187 rfl (lv_at hl 2 rfl) ?_
      refine lv_iload_n hx hb dL_act_188 rfl (lv_at hl 1 rfl) ?_
      refine z_cVi (As := [.int (nI t)]) (rest := []) hx hb hml hown hts hl hK hZ hS (c_X6_end_no l G μ fb hfb T I hT hI hT6 hI24 (nI t) (Or.inr (show nI T ≤ nI t from nI_le (by omega) (by omega))) ) (z_G q476 q477 q478 q1 q479) hdX6_end ⟨Nat.le_of_ble_eq_true rfl, Nat.le_of_ble_eq_true rfl⟩ zk0 (by decide) rfl rfl rfl rfl (Nat.le_of_ble_eq_true rfl) dL_act_189 ⟨(Nat.zero_le _), (Nat.zero_le _)⟩ (fun H locs hZ hS => ?_)
      exact z_iret hx hb hr hlk hK hZ hS (show _ ∧ _ from (by rw [show a_act μ fb o z T I T2 I2 4 t i v b = ((-1), μ) from ((if_pos hc).trans rfl)]; exact ⟨rfl, rfl⟩)) dL_act_192
    · refine lv_aload_n hx hb dL_act_187 rfl (lv_at hl 2 rfl) ?_
      refine lv_iload_n hx hb dL_act_188 rfl (lv_at hl 1 rfl) ?_
      refine z_cVi (As := [.int (nI t)]) (rest := []) hx hb hml hown hts hl hK hZ hS (c_X6_end l G μ fb hh hfb hfh T I o z hT hI hT6 hI24 ho hz ho4 hz4 t (by omega) _ rfl ) (z_G q476 q477 q478 q1 q479) hdX6_end ⟨Nat.le_of_ble_eq_true rfl, Nat.le_of_ble_eq_true rfl⟩ zk0 (by decide) rfl rfl rfl rfl (Nat.le_of_ble_eq_true rfl) dL_act_189 ⟨(Nat.zero_le _), (Nat.zero_le _)⟩ (fun H locs hZ hS => ?_)
      exact z_iret hx hb hr hlk hK hZ hS (show _ ∧ _ from (by rw [show a_act μ fb o z T I T2 I2 4 t i v b = (p_end μ fb o z T I t (μ (1 + (3 + 2 * t)))) from ((if_neg hc).trans rfl)]; exact ⟨rfl, rfl⟩)) dL_act_192
  · refine lv_tableIn (off := 159) (tgt := 193) hx hb dL_act_34 (by decide) (by decide) rfl (by decide) ?_
    by_cases hc : i = I
    · refine lv_aload_n hx hb dL_act_193 rfl (lv_at hl 2 rfl) ?_
      refine lv_iload hx hb dL_act_194 (lv_at hl 0 rfl) ?_
      refine lv_iload_n hx hb dL_act_196 rfl (lv_at hl 4 rfl) ?_
      refine lv_bipush (v := 102) hx hb dL_act_197 (by decide) ?_
      refine z_cSi (As := [.int b, .int 102]) (rest := [.int (nI i), .ref (G.1 + 0)]) hx hb hml hown hts hl hK hZ hS (c_L_low l G μ b 102 (by decide)) (z_GS q439 q440 q0 q441) hdL_low ⟨Nat.le_of_ble_eq_true rfl, Nat.le_of_ble_eq_true rfl⟩ rfl rfl (Nat.le_of_ble_eq_true rfl) dL_act_199 ⟨(Nat.zero_le _), (Nat.zero_le _)⟩ (fun H locs hZ hS => ?_)
      refine z_cVi (As := [.int (nI i), .int (s_low b 102)]) (rest := []) hx hb hml hown hts hl hK hZ hS (c_X6_inspect_no l G μ fb hfb T I hT hI hT6 hI24 (nI i) (Or.inr (show nI I ≤ nI i from nI_le (by omega) (by omega))) (s_low b 102)) (z_G q501 q502 q503 q1 q504) hdX6_inspect ⟨Nat.le_of_ble_eq_true rfl, Nat.le_of_ble_eq_true rfl⟩ zk0 (by decide) rfl rfl rfl rfl (Nat.le_of_ble_eq_true rfl) dL_act_202 ⟨(Nat.zero_le _), (Nat.zero_le _)⟩ (fun H locs hZ hS => ?_)
      exact z_iret hx hb hr hlk hK hZ hS (show _ ∧ _ from (by rw [show a_act μ fb o z T I T2 I2 5 t i v b = ((-1), μ) from ((if_pos hc).trans rfl)]; exact ⟨rfl, rfl⟩)) dL_act_205
    · obtain ⟨hhh, heh⟩ := hhome i (by omega)
      refine lv_aload_n hx hb dL_act_193 rfl (lv_at hl 2 rfl) ?_
      refine lv_iload hx hb dL_act_194 (lv_at hl 0 rfl) ?_
      refine lv_iload_n hx hb dL_act_196 rfl (lv_at hl 4 rfl) ?_
      refine lv_bipush (v := 102) hx hb dL_act_197 (by decide) ?_
      refine z_cSi (As := [.int b, .int 102]) (rest := [.int (nI i), .ref (G.1 + 0)]) hx hb hml hown hts hl hK hZ hS (c_L_low l G μ b 102 (by decide)) (z_GS q439 q440 q0 q441) hdL_low ⟨Nat.le_of_ble_eq_true rfl, Nat.le_of_ble_eq_true rfl⟩ rfl rfl (Nat.le_of_ble_eq_true rfl) dL_act_199 ⟨(Nat.zero_le _), (Nat.zero_le _)⟩ (fun H locs hZ hS => ?_)
      refine z_cVi (As := [.int (nI i), .int (s_low b 102)]) (rest := []) hx hb hml hown hts hl hK hZ hS (c_X6_inspect l G μ fb hh hfb hfh T I o z hT hI hT6 hI24 ho hz ho4 hz4 i ((μ (1 + (15 + i)) 0).toNatClampNeg) (by omega) hhh _ rfl heh _ rfl (s_low b 102)) (z_G q501 q502 q503 q1 q504) hdX6_inspect ⟨Nat.le_of_ble_eq_true rfl, Nat.le_of_ble_eq_true rfl⟩ zk0 (by decide) rfl rfl rfl rfl (Nat.le_of_ble_eq_true rfl) dL_act_202 ⟨(Nat.zero_le _), (Nat.zero_le _)⟩ (fun H locs hZ hS => ?_)
      exact z_iret hx hb hr hlk hK hZ hS (show _ ∧ _ from (by rw [show a_act μ fb o z T I T2 I2 5 t i v b = (p_inspect μ fb o z T I i (μ (1 + (15 + i))) (z_home μ (μ (1 + (15 + i)))) (s_low b 102)) from ((if_neg hc).trans rfl)]; exact ⟨rfl, rfl⟩)) dL_act_205
  · refine lv_tableIn (off := 172) (tgt := 206) hx hb dL_act_34 (by decide) (by decide) rfl (by decide) ?_
    by_cases hc : i = I
    · refine lv_aload_n hx hb dL_act_206 rfl (lv_at hl 2 rfl) ?_
      refine lv_iload hx hb dL_act_207 (lv_at hl 0 rfl) ?_
      refine lv_iload_n hx hb dL_act_209 rfl (lv_at hl 4 rfl) ?_
      refine lv_iload_n hx hb dL_act_210 rfl (lv_at hl 4 rfl) ?_
      refine lv_bipush (v := 20) hx hb dL_act_211 (by decide) ?_
      refine lv_ishr hx hb dL_act_213 ?_
      refine lv_iconst (v := 1) hx hb dL_act_214 (by decide) ?_
      refine lv_iand hx hb dL_act_215 ?_
      refine lv_if_ne (tgt := 225) hx hb dL_act_216 (by decide) (fun c_1 => ?_) (fun c_1 => ?_)
      · refine lv_ldc hx hb hown (hts _ q443) dL_act_225 ?_
        refine z_cSi (As := [.int b, .int 60000]) (rest := [.int (nI i), .ref (G.1 + 0)]) hx hb hml hown hts hl hK hZ hS (c_L_low l G μ b 60000 (by decide)) (z_GS q439 q440 q0 q441) hdL_low ⟨Nat.le_of_ble_eq_true rfl, Nat.le_of_ble_eq_true rfl⟩ rfl rfl (Nat.le_of_ble_eq_true rfl) dL_act_227 ⟨(Nat.zero_le _), (Nat.zero_le _)⟩ (fun H locs hZ hS => ?_)
        refine z_cVi (As := [.int (nI i), .int (s_low b 60000)]) (rest := []) hx hb hml hown hts hl hK hZ hS (c_X6_claim_no l G μ fb hfb T I hT hI hT6 hI24 (nI i) (Or.inr (show nI I ≤ nI i from nI_le (by omega) (by omega))) (s_low b 60000)) (z_G q506 q507 q508 q1 q509) hdX6_claim ⟨Nat.le_of_ble_eq_true rfl, Nat.le_of_ble_eq_true rfl⟩ zk0 (by decide) rfl rfl rfl rfl (Nat.le_of_ble_eq_true rfl) dL_act_230 ⟨(Nat.zero_le _), (Nat.zero_le _)⟩ (fun H locs hZ hS => ?_)
        exact z_iret hx hb hr hlk hK hZ hS (show _ ∧ _ from (by rw [show a_act μ fb o z T I T2 I2 6 t i v b = ((-1), μ) from ((if_pos hc).trans ((if_neg c_1).trans rfl))]; exact ⟨rfl, rfl⟩)) dL_act_233
      · refine lv_sipush (v := 5000) hx hb dL_act_219 (by decide) ?_
        refine lv_goto (tgt := 227) hx hb dL_act_222 (by decide) ?_
        refine z_cSi (As := [.int b, .int 5000]) (rest := [.int (nI i), .ref (G.1 + 0)]) hx hb hml hown hts hl hK hZ hS (c_L_low l G μ b 5000 (by decide)) (z_GS q439 q440 q0 q441) hdL_low ⟨Nat.le_of_ble_eq_true rfl, Nat.le_of_ble_eq_true rfl⟩ rfl rfl (Nat.le_of_ble_eq_true rfl) dL_act_227 ⟨(Nat.zero_le _), (Nat.zero_le _)⟩ (fun H locs hZ hS => ?_)
        refine z_cVi (As := [.int (nI i), .int (s_low b 5000)]) (rest := []) hx hb hml hown hts hl hK hZ hS (c_X6_claim_no l G μ fb hfb T I hT hI hT6 hI24 (nI i) (Or.inr (show nI I ≤ nI i from nI_le (by omega) (by omega))) (s_low b 5000)) (z_G q506 q507 q508 q1 q509) hdX6_claim ⟨Nat.le_of_ble_eq_true rfl, Nat.le_of_ble_eq_true rfl⟩ zk0 (by decide) rfl rfl rfl rfl (Nat.le_of_ble_eq_true rfl) dL_act_230 ⟨(Nat.zero_le _), (Nat.zero_le _)⟩ (fun H locs hZ hS => ?_)
        exact z_iret hx hb hr hlk hK hZ hS (show _ ∧ _ from (by rw [show a_act μ fb o z T I T2 I2 6 t i v b = ((-1), μ) from ((if_pos hc).trans ((if_pos c_1).trans rfl))]; exact ⟨rfl, rfl⟩)) dL_act_233
    · obtain ⟨hhh, heh⟩ := hhome i (by omega)
      refine lv_aload_n hx hb dL_act_206 rfl (lv_at hl 2 rfl) ?_
      refine lv_iload hx hb dL_act_207 (lv_at hl 0 rfl) ?_
      refine lv_iload_n hx hb dL_act_209 rfl (lv_at hl 4 rfl) ?_
      refine lv_iload_n hx hb dL_act_210 rfl (lv_at hl 4 rfl) ?_
      refine lv_bipush (v := 20) hx hb dL_act_211 (by decide) ?_
      refine lv_ishr hx hb dL_act_213 ?_
      refine lv_iconst (v := 1) hx hb dL_act_214 (by decide) ?_
      refine lv_iand hx hb dL_act_215 ?_
      refine lv_if_ne (tgt := 225) hx hb dL_act_216 (by decide) (fun c_2 => ?_) (fun c_2 => ?_)
      · refine lv_ldc hx hb hown (hts _ q443) dL_act_225 ?_
        refine z_cSi (As := [.int b, .int 60000]) (rest := [.int (nI i), .ref (G.1 + 0)]) hx hb hml hown hts hl hK hZ hS (c_L_low l G μ b 60000 (by decide)) (z_GS q439 q440 q0 q441) hdL_low ⟨Nat.le_of_ble_eq_true rfl, Nat.le_of_ble_eq_true rfl⟩ rfl rfl (Nat.le_of_ble_eq_true rfl) dL_act_227 ⟨(Nat.zero_le _), (Nat.zero_le _)⟩ (fun H locs hZ hS => ?_)
        refine z_cVi (As := [.int (nI i), .int (s_low b 60000)]) (rest := []) hx hb hml hown hts hl hK hZ hS (c_X6_claim l G μ fb hh hfb hfh T I o z hT hI hT6 hI24 ho hz ho4 hz4 i ((μ (1 + (15 + i)) 0).toNatClampNeg) (by omega) hhh _ rfl heh _ rfl (s_low b 60000)) (z_G q506 q507 q508 q1 q509) hdX6_claim ⟨Nat.le_of_ble_eq_true rfl, Nat.le_of_ble_eq_true rfl⟩ zk0 (by decide) rfl rfl rfl rfl (Nat.le_of_ble_eq_true rfl) dL_act_230 ⟨(Nat.zero_le _), (Nat.zero_le _)⟩ (fun H locs hZ hS => ?_)
        exact z_iret hx hb hr hlk hK hZ hS (show _ ∧ _ from (by rw [show a_act μ fb o z T I T2 I2 6 t i v b = (p_claim μ fb o z T I i (μ (1 + (15 + i))) (z_home μ (μ (1 + (15 + i)))) (s_low b 60000)) from ((if_neg hc).trans ((if_neg c_2).trans rfl))]; exact ⟨rfl, rfl⟩)) dL_act_233
      · refine lv_sipush (v := 5000) hx hb dL_act_219 (by decide) ?_
        refine lv_goto (tgt := 227) hx hb dL_act_222 (by decide) ?_
        refine z_cSi (As := [.int b, .int 5000]) (rest := [.int (nI i), .ref (G.1 + 0)]) hx hb hml hown hts hl hK hZ hS (c_L_low l G μ b 5000 (by decide)) (z_GS q439 q440 q0 q441) hdL_low ⟨Nat.le_of_ble_eq_true rfl, Nat.le_of_ble_eq_true rfl⟩ rfl rfl (Nat.le_of_ble_eq_true rfl) dL_act_227 ⟨(Nat.zero_le _), (Nat.zero_le _)⟩ (fun H locs hZ hS => ?_)
        refine z_cVi (As := [.int (nI i), .int (s_low b 5000)]) (rest := []) hx hb hml hown hts hl hK hZ hS (c_X6_claim l G μ fb hh hfb hfh T I o z hT hI hT6 hI24 ho hz ho4 hz4 i ((μ (1 + (15 + i)) 0).toNatClampNeg) (by omega) hhh _ rfl heh _ rfl (s_low b 5000)) (z_G q506 q507 q508 q1 q509) hdX6_claim ⟨Nat.le_of_ble_eq_true rfl, Nat.le_of_ble_eq_true rfl⟩ zk0 (by decide) rfl rfl rfl rfl (Nat.le_of_ble_eq_true rfl) dL_act_230 ⟨(Nat.zero_le _), (Nat.zero_le _)⟩ (fun H locs hZ hS => ?_)
        exact z_iret hx hb hr hlk hK hZ hS (show _ ∧ _ from (by rw [show a_act μ fb o z T I T2 I2 6 t i v b = (p_claim μ fb o z T I i (μ (1 + (15 + i))) (z_home μ (μ (1 + (15 + i)))) (s_low b 5000)) from ((if_neg hc).trans ((if_pos c_2).trans rfl))]; exact ⟨rfl, rfl⟩)) dL_act_233
  · refine lv_tableIn (off := 172) (tgt := 206) hx hb dL_act_34 (by decide) (by decide) rfl (by decide) ?_
    by_cases hc : i = I
    · refine lv_aload_n hx hb dL_act_206 rfl (lv_at hl 2 rfl) ?_
      refine lv_iload hx hb dL_act_207 (lv_at hl 0 rfl) ?_
      refine lv_iload_n hx hb dL_act_209 rfl (lv_at hl 4 rfl) ?_
      refine lv_iload_n hx hb dL_act_210 rfl (lv_at hl 4 rfl) ?_
      refine lv_bipush (v := 20) hx hb dL_act_211 (by decide) ?_
      refine lv_ishr hx hb dL_act_213 ?_
      refine lv_iconst (v := 1) hx hb dL_act_214 (by decide) ?_
      refine lv_iand hx hb dL_act_215 ?_
      refine lv_if_ne (tgt := 225) hx hb dL_act_216 (by decide) (fun c_3 => ?_) (fun c_3 => ?_)
      · refine lv_ldc hx hb hown (hts _ q443) dL_act_225 ?_
        refine z_cSi (As := [.int b, .int 60000]) (rest := [.int (nI i), .ref (G.1 + 0)]) hx hb hml hown hts hl hK hZ hS (c_L_low l G μ b 60000 (by decide)) (z_GS q439 q440 q0 q441) hdL_low ⟨Nat.le_of_ble_eq_true rfl, Nat.le_of_ble_eq_true rfl⟩ rfl rfl (Nat.le_of_ble_eq_true rfl) dL_act_227 ⟨(Nat.zero_le _), (Nat.zero_le _)⟩ (fun H locs hZ hS => ?_)
        refine z_cVi (As := [.int (nI i), .int (s_low b 60000)]) (rest := []) hx hb hml hown hts hl hK hZ hS (c_X6_claim_no l G μ fb hfb T I hT hI hT6 hI24 (nI i) (Or.inr (show nI I ≤ nI i from nI_le (by omega) (by omega))) (s_low b 60000)) (z_G q506 q507 q508 q1 q509) hdX6_claim ⟨Nat.le_of_ble_eq_true rfl, Nat.le_of_ble_eq_true rfl⟩ zk0 (by decide) rfl rfl rfl rfl (Nat.le_of_ble_eq_true rfl) dL_act_230 ⟨(Nat.zero_le _), (Nat.zero_le _)⟩ (fun H locs hZ hS => ?_)
        exact z_iret hx hb hr hlk hK hZ hS (show _ ∧ _ from (by rw [show a_act μ fb o z T I T2 I2 7 t i v b = ((-1), μ) from ((if_pos hc).trans ((if_neg c_3).trans rfl))]; exact ⟨rfl, rfl⟩)) dL_act_233
      · refine lv_sipush (v := 5000) hx hb dL_act_219 (by decide) ?_
        refine lv_goto (tgt := 227) hx hb dL_act_222 (by decide) ?_
        refine z_cSi (As := [.int b, .int 5000]) (rest := [.int (nI i), .ref (G.1 + 0)]) hx hb hml hown hts hl hK hZ hS (c_L_low l G μ b 5000 (by decide)) (z_GS q439 q440 q0 q441) hdL_low ⟨Nat.le_of_ble_eq_true rfl, Nat.le_of_ble_eq_true rfl⟩ rfl rfl (Nat.le_of_ble_eq_true rfl) dL_act_227 ⟨(Nat.zero_le _), (Nat.zero_le _)⟩ (fun H locs hZ hS => ?_)
        refine z_cVi (As := [.int (nI i), .int (s_low b 5000)]) (rest := []) hx hb hml hown hts hl hK hZ hS (c_X6_claim_no l G μ fb hfb T I hT hI hT6 hI24 (nI i) (Or.inr (show nI I ≤ nI i from nI_le (by omega) (by omega))) (s_low b 5000)) (z_G q506 q507 q508 q1 q509) hdX6_claim ⟨Nat.le_of_ble_eq_true rfl, Nat.le_of_ble_eq_true rfl⟩ zk0 (by decide) rfl rfl rfl rfl (Nat.le_of_ble_eq_true rfl) dL_act_230 ⟨(Nat.zero_le _), (Nat.zero_le _)⟩ (fun H locs hZ hS => ?_)
        exact z_iret hx hb hr hlk hK hZ hS (show _ ∧ _ from (by rw [show a_act μ fb o z T I T2 I2 7 t i v b = ((-1), μ) from ((if_pos hc).trans ((if_pos c_3).trans rfl))]; exact ⟨rfl, rfl⟩)) dL_act_233
    · obtain ⟨hhh, heh⟩ := hhome i (by omega)
      refine lv_aload_n hx hb dL_act_206 rfl (lv_at hl 2 rfl) ?_
      refine lv_iload hx hb dL_act_207 (lv_at hl 0 rfl) ?_
      refine lv_iload_n hx hb dL_act_209 rfl (lv_at hl 4 rfl) ?_
      refine lv_iload_n hx hb dL_act_210 rfl (lv_at hl 4 rfl) ?_
      refine lv_bipush (v := 20) hx hb dL_act_211 (by decide) ?_
      refine lv_ishr hx hb dL_act_213 ?_
      refine lv_iconst (v := 1) hx hb dL_act_214 (by decide) ?_
      refine lv_iand hx hb dL_act_215 ?_
      refine lv_if_ne (tgt := 225) hx hb dL_act_216 (by decide) (fun c_4 => ?_) (fun c_4 => ?_)
      · refine lv_ldc hx hb hown (hts _ q443) dL_act_225 ?_
        refine z_cSi (As := [.int b, .int 60000]) (rest := [.int (nI i), .ref (G.1 + 0)]) hx hb hml hown hts hl hK hZ hS (c_L_low l G μ b 60000 (by decide)) (z_GS q439 q440 q0 q441) hdL_low ⟨Nat.le_of_ble_eq_true rfl, Nat.le_of_ble_eq_true rfl⟩ rfl rfl (Nat.le_of_ble_eq_true rfl) dL_act_227 ⟨(Nat.zero_le _), (Nat.zero_le _)⟩ (fun H locs hZ hS => ?_)
        refine z_cVi (As := [.int (nI i), .int (s_low b 60000)]) (rest := []) hx hb hml hown hts hl hK hZ hS (c_X6_claim l G μ fb hh hfb hfh T I o z hT hI hT6 hI24 ho hz ho4 hz4 i ((μ (1 + (15 + i)) 0).toNatClampNeg) (by omega) hhh _ rfl heh _ rfl (s_low b 60000)) (z_G q506 q507 q508 q1 q509) hdX6_claim ⟨Nat.le_of_ble_eq_true rfl, Nat.le_of_ble_eq_true rfl⟩ zk0 (by decide) rfl rfl rfl rfl (Nat.le_of_ble_eq_true rfl) dL_act_230 ⟨(Nat.zero_le _), (Nat.zero_le _)⟩ (fun H locs hZ hS => ?_)
        exact z_iret hx hb hr hlk hK hZ hS (show _ ∧ _ from (by rw [show a_act μ fb o z T I T2 I2 7 t i v b = (p_claim μ fb o z T I i (μ (1 + (15 + i))) (z_home μ (μ (1 + (15 + i)))) (s_low b 60000)) from ((if_neg hc).trans ((if_neg c_4).trans rfl))]; exact ⟨rfl, rfl⟩)) dL_act_233
      · refine lv_sipush (v := 5000) hx hb dL_act_219 (by decide) ?_
        refine lv_goto (tgt := 227) hx hb dL_act_222 (by decide) ?_
        refine z_cSi (As := [.int b, .int 5000]) (rest := [.int (nI i), .ref (G.1 + 0)]) hx hb hml hown hts hl hK hZ hS (c_L_low l G μ b 5000 (by decide)) (z_GS q439 q440 q0 q441) hdL_low ⟨Nat.le_of_ble_eq_true rfl, Nat.le_of_ble_eq_true rfl⟩ rfl rfl (Nat.le_of_ble_eq_true rfl) dL_act_227 ⟨(Nat.zero_le _), (Nat.zero_le _)⟩ (fun H locs hZ hS => ?_)
        refine z_cVi (As := [.int (nI i), .int (s_low b 5000)]) (rest := []) hx hb hml hown hts hl hK hZ hS (c_X6_claim l G μ fb hh hfb hfh T I o z hT hI hT6 hI24 ho hz ho4 hz4 i ((μ (1 + (15 + i)) 0).toNatClampNeg) (by omega) hhh _ rfl heh _ rfl (s_low b 5000)) (z_G q506 q507 q508 q1 q509) hdX6_claim ⟨Nat.le_of_ble_eq_true rfl, Nat.le_of_ble_eq_true rfl⟩ zk0 (by decide) rfl rfl rfl rfl (Nat.le_of_ble_eq_true rfl) dL_act_230 ⟨(Nat.zero_le _), (Nat.zero_le _)⟩ (fun H locs hZ hS => ?_)
        exact z_iret hx hb hr hlk hK hZ hS (show _ ∧ _ from (by rw [show a_act μ fb o z T I T2 I2 7 t i v b = (p_claim μ fb o z T I i (μ (1 + (15 + i))) (z_home μ (μ (1 + (15 + i)))) (s_low b 5000)) from ((if_neg hc).trans ((if_pos c_4).trans rfl))]; exact ⟨rfl, rfl⟩)) dL_act_233
  · refine lv_tableIn (off := 200) (tgt := 234) hx hb dL_act_34 (by decide) (by decide) rfl (by decide) ?_
    by_cases hc : t = T
    · refine lv_aload_n hx hb dL_act_234 rfl (lv_at hl 2 rfl) ?_
      refine lv_iload_n hx hb dL_act_235 rfl (lv_at hl 1 rfl) ?_
      refine lv_iload_n hx hb dL_act_236 rfl (lv_at hl 4 rfl) ?_
      refine lv_ldc hx hb hown (hts _ q510) dL_act_237 ?_
      refine z_cSi (As := [.int b, .int 90000]) (rest := [.int (nI t), .ref (G.1 + 0)]) hx hb hml hown hts hl hK hZ hS (c_L_low l G μ b 90000 (by decide)) (z_GS q439 q440 q0 q441) hdL_low ⟨Nat.le_of_ble_eq_true rfl, Nat.le_of_ble_eq_true rfl⟩ rfl rfl (Nat.le_of_ble_eq_true rfl) dL_act_239 ⟨(Nat.zero_le _), (Nat.zero_le _)⟩ (fun H locs hZ hS => ?_)
      refine z_cVi (As := [.int (nI t), .int (s_low b 90000)]) (rest := []) hx hb hml hown hts hl hK hZ hS (c_X6_claimRent_no l G μ fb hfb T I hT hI hT6 hI24 (nI t) (Or.inr (show nI T ≤ nI t from nI_le (by omega) (by omega))) (s_low b 90000)) (z_G q511 q512 q513 q1 q514) hdX6_claimRent ⟨Nat.le_of_ble_eq_true rfl, Nat.le_of_ble_eq_true rfl⟩ zk0 (by decide) rfl rfl rfl rfl (Nat.le_of_ble_eq_true rfl) dL_act_242 ⟨(Nat.zero_le _), (Nat.zero_le _)⟩ (fun H locs hZ hS => ?_)
      exact z_iret hx hb hr hlk hK hZ hS (show _ ∧ _ from (by rw [show a_act μ fb o z T I T2 I2 8 t i v b = ((-1), μ) from ((if_pos hc).trans rfl)]; exact ⟨rfl, rfl⟩)) dL_act_245
    · refine lv_aload_n hx hb dL_act_234 rfl (lv_at hl 2 rfl) ?_
      refine lv_iload_n hx hb dL_act_235 rfl (lv_at hl 1 rfl) ?_
      refine lv_iload_n hx hb dL_act_236 rfl (lv_at hl 4 rfl) ?_
      refine lv_ldc hx hb hown (hts _ q510) dL_act_237 ?_
      refine z_cSi (As := [.int b, .int 90000]) (rest := [.int (nI t), .ref (G.1 + 0)]) hx hb hml hown hts hl hK hZ hS (c_L_low l G μ b 90000 (by decide)) (z_GS q439 q440 q0 q441) hdL_low ⟨Nat.le_of_ble_eq_true rfl, Nat.le_of_ble_eq_true rfl⟩ rfl rfl (Nat.le_of_ble_eq_true rfl) dL_act_239 ⟨(Nat.zero_le _), (Nat.zero_le _)⟩ (fun H locs hZ hS => ?_)
      refine z_cVi (As := [.int (nI t), .int (s_low b 90000)]) (rest := []) hx hb hml hown hts hl hK hZ hS (c_X6_claimRent l G μ fb hh hfb hfh T I o z hT hI hT6 hI24 ho hz ho4 hz4 t (by omega) _ rfl (s_low b 90000)) (z_G q511 q512 q513 q1 q514) hdX6_claimRent ⟨Nat.le_of_ble_eq_true rfl, Nat.le_of_ble_eq_true rfl⟩ zk0 (by decide) rfl rfl rfl rfl (Nat.le_of_ble_eq_true rfl) dL_act_242 ⟨(Nat.zero_le _), (Nat.zero_le _)⟩ (fun H locs hZ hS => ?_)
      exact z_iret hx hb hr hlk hK hZ hS (show _ ∧ _ from (by rw [show a_act μ fb o z T I T2 I2 8 t i v b = (p_claimRent μ fb o z T I t (μ (1 + (3 + 2 * t))) (s_low b 90000)) from ((if_neg hc).trans rfl)]; exact ⟨rfl, rfl⟩)) dL_act_245
  · refine lv_tableIn (off := 212) (tgt := 246) hx hb dL_act_34 (by decide) (by decide) rfl (by decide) ?_
    by_cases hc : t = T
    · refine lv_aload_n hx hb dL_act_246 rfl (lv_at hl 2 rfl) ?_
      refine lv_iload_n hx hb dL_act_247 rfl (lv_at hl 1 rfl) ?_
      refine z_cVi (As := [.int (nI t)]) (rest := []) hx hb hml hown hts hl hK hZ hS (c_X6_put_no l G μ fb hfb T I hT hI hT6 hI24 (nI t) (Or.inr (show nI T ≤ nI t from nI_le (by omega) (by omega))) ) (z_G q515 q516 q517 q1 q518) hdX6_put ⟨Nat.le_of_ble_eq_true rfl, Nat.le_of_ble_eq_true rfl⟩ zk0 (by decide) rfl rfl rfl rfl (Nat.le_of_ble_eq_true rfl) dL_act_248 ⟨(Nat.zero_le _), (Nat.zero_le _)⟩ (fun H locs hZ hS => ?_)
      exact z_iret hx hb hr hlk hK hZ hS (show _ ∧ _ from (by rw [show a_act μ fb o z T I T2 I2 9 t i v b = ((-1), μ) from ((if_pos hc).trans rfl)]; exact ⟨rfl, rfl⟩)) dL_act_251
    · refine lv_aload_n hx hb dL_act_246 rfl (lv_at hl 2 rfl) ?_
      refine lv_iload_n hx hb dL_act_247 rfl (lv_at hl 1 rfl) ?_
      refine z_cVi (As := [.int (nI t)]) (rest := []) hx hb hml hown hts hl hK hZ hS (c_X6_put l G μ fb hh hfb hfh T I o z hT hI hT6 hI24 ho hz ho4 hz4 t (by omega) _ rfl ) (z_G q515 q516 q517 q1 q518) hdX6_put ⟨Nat.le_of_ble_eq_true rfl, Nat.le_of_ble_eq_true rfl⟩ zk0 (by decide) rfl rfl rfl rfl (Nat.le_of_ble_eq_true rfl) dL_act_248 ⟨(Nat.zero_le _), (Nat.zero_le _)⟩ (fun H locs hZ hS => ?_)
      exact z_iret hx hb hr hlk hK hZ hS (show _ ∧ _ from (by rw [show a_act μ fb o z T I T2 I2 9 t i v b = (p_put μ fb o z T I t (μ (1 + (3 + 2 * t)))) from ((if_neg hc).trans rfl)]; exact ⟨rfl, rfl⟩)) dL_act_251
  · refine lv_tableIn (off := 218) (tgt := 252) hx hb dL_act_34 (by decide) (by decide) rfl (by decide) ?_
    by_cases hc : i = I
    · refine lv_aload_n hx hb dL_act_252 rfl (lv_at hl 2 rfl) ?_
      refine lv_iload hx hb dL_act_253 (lv_at hl 0 rfl) ?_
      refine lv_iload_n hx hb dL_act_255 rfl (lv_at hl 4 rfl) ?_
      refine lv_iconst (v := 3) hx hb dL_act_256 (by decide) ?_
      refine lv_iand hx hb dL_act_257 ?_
      refine lv_if_ne (tgt := 265) hx hb dL_act_258 (by decide) (fun c_5 => ?_) (fun c_5 => ?_)
      · refine lv_iconst (v := 0) hx hb dL_act_265 (by decide) ?_
        refine z_cVi (As := [.int (nI i), .int 0]) (rest := []) hx hb hml hown hts hl hK hZ hS (c_X6_answer_no l G μ fb hfb T I hT hI hT6 hI24 (nI i) (Or.inr (show nI I ≤ nI i from nI_le (by omega) (by omega))) 0) (z_G q519 q520 q521 q1 q522) hdX6_answer ⟨Nat.le_of_ble_eq_true rfl, Nat.le_of_ble_eq_true rfl⟩ zk0 (by decide) rfl rfl rfl rfl (Nat.le_of_ble_eq_true rfl) dL_act_266 ⟨(Nat.zero_le _), (Nat.zero_le _)⟩ (fun H locs hZ hS => ?_)
        exact z_iret hx hb hr hlk hK hZ hS (show _ ∧ _ from (by rw [show a_act μ fb o z T I T2 I2 10 t i v b = ((-1), μ) from ((if_pos hc).trans ((if_neg c_5).trans rfl))]; exact ⟨rfl, rfl⟩)) dL_act_269
      · refine lv_iconst (v := 1) hx hb dL_act_261 (by decide) ?_
        refine lv_goto (tgt := 266) hx hb dL_act_262 (by decide) ?_
        refine z_cVi (As := [.int (nI i), .int 1]) (rest := []) hx hb hml hown hts hl hK hZ hS (c_X6_answer_no l G μ fb hfb T I hT hI hT6 hI24 (nI i) (Or.inr (show nI I ≤ nI i from nI_le (by omega) (by omega))) 1) (z_G q519 q520 q521 q1 q522) hdX6_answer ⟨Nat.le_of_ble_eq_true rfl, Nat.le_of_ble_eq_true rfl⟩ zk0 (by decide) rfl rfl rfl rfl (Nat.le_of_ble_eq_true rfl) dL_act_266 ⟨(Nat.zero_le _), (Nat.zero_le _)⟩ (fun H locs hZ hS => ?_)
        exact z_iret hx hb hr hlk hK hZ hS (show _ ∧ _ from (by rw [show a_act μ fb o z T I T2 I2 10 t i v b = ((-1), μ) from ((if_pos hc).trans ((if_pos c_5).trans rfl))]; exact ⟨rfl, rfl⟩)) dL_act_269
    · obtain ⟨hhh, heh⟩ := hhome i (by omega)
      refine lv_aload_n hx hb dL_act_252 rfl (lv_at hl 2 rfl) ?_
      refine lv_iload hx hb dL_act_253 (lv_at hl 0 rfl) ?_
      refine lv_iload_n hx hb dL_act_255 rfl (lv_at hl 4 rfl) ?_
      refine lv_iconst (v := 3) hx hb dL_act_256 (by decide) ?_
      refine lv_iand hx hb dL_act_257 ?_
      refine lv_if_ne (tgt := 265) hx hb dL_act_258 (by decide) (fun c_6 => ?_) (fun c_6 => ?_)
      · refine lv_iconst (v := 0) hx hb dL_act_265 (by decide) ?_
        refine z_cVi (As := [.int (nI i), .int 0]) (rest := []) hx hb hml hown hts hl hK hZ hS (c_X6_answer l G μ fb hh hfb hfh T I o z hT hI hT6 hI24 ho hz ho4 hz4 i ((μ (1 + (15 + i)) 0).toNatClampNeg) (by omega) hhh _ rfl heh _ rfl 0) (z_G q519 q520 q521 q1 q522) hdX6_answer ⟨Nat.le_of_ble_eq_true rfl, Nat.le_of_ble_eq_true rfl⟩ zk0 (by decide) rfl rfl rfl rfl (Nat.le_of_ble_eq_true rfl) dL_act_266 ⟨(Nat.zero_le _), (Nat.zero_le _)⟩ (fun H locs hZ hS => ?_)
        exact z_iret hx hb hr hlk hK hZ hS (show _ ∧ _ from (by rw [show a_act μ fb o z T I T2 I2 10 t i v b = (p_answer μ fb o z T I i (μ (1 + (15 + i))) (z_home μ (μ (1 + (15 + i)))) 0) from ((if_neg hc).trans ((if_neg c_6).trans rfl))]; exact ⟨rfl, rfl⟩)) dL_act_269
      · refine lv_iconst (v := 1) hx hb dL_act_261 (by decide) ?_
        refine lv_goto (tgt := 266) hx hb dL_act_262 (by decide) ?_
        refine z_cVi (As := [.int (nI i), .int 1]) (rest := []) hx hb hml hown hts hl hK hZ hS (c_X6_answer l G μ fb hh hfb hfh T I o z hT hI hT6 hI24 ho hz ho4 hz4 i ((μ (1 + (15 + i)) 0).toNatClampNeg) (by omega) hhh _ rfl heh _ rfl 1) (z_G q519 q520 q521 q1 q522) hdX6_answer ⟨Nat.le_of_ble_eq_true rfl, Nat.le_of_ble_eq_true rfl⟩ zk0 (by decide) rfl rfl rfl rfl (Nat.le_of_ble_eq_true rfl) dL_act_266 ⟨(Nat.zero_le _), (Nat.zero_le _)⟩ (fun H locs hZ hS => ?_)
        exact z_iret hx hb hr hlk hK hZ hS (show _ ∧ _ from (by rw [show a_act μ fb o z T I T2 I2 10 t i v b = (p_answer μ fb o z T I i (μ (1 + (15 + i))) (z_home μ (μ (1 + (15 + i)))) 1) from ((if_neg hc).trans ((if_pos c_6).trans rfl))]; exact ⟨rfl, rfl⟩)) dL_act_269
  · refine lv_tableIn (off := 218) (tgt := 252) hx hb dL_act_34 (by decide) (by decide) rfl (by decide) ?_
    by_cases hc : i = I
    · refine lv_aload_n hx hb dL_act_252 rfl (lv_at hl 2 rfl) ?_
      refine lv_iload hx hb dL_act_253 (lv_at hl 0 rfl) ?_
      refine lv_iload_n hx hb dL_act_255 rfl (lv_at hl 4 rfl) ?_
      refine lv_iconst (v := 3) hx hb dL_act_256 (by decide) ?_
      refine lv_iand hx hb dL_act_257 ?_
      refine lv_if_ne (tgt := 265) hx hb dL_act_258 (by decide) (fun c_7 => ?_) (fun c_7 => ?_)
      · refine lv_iconst (v := 0) hx hb dL_act_265 (by decide) ?_
        refine z_cVi (As := [.int (nI i), .int 0]) (rest := []) hx hb hml hown hts hl hK hZ hS (c_X6_answer_no l G μ fb hfb T I hT hI hT6 hI24 (nI i) (Or.inr (show nI I ≤ nI i from nI_le (by omega) (by omega))) 0) (z_G q519 q520 q521 q1 q522) hdX6_answer ⟨Nat.le_of_ble_eq_true rfl, Nat.le_of_ble_eq_true rfl⟩ zk0 (by decide) rfl rfl rfl rfl (Nat.le_of_ble_eq_true rfl) dL_act_266 ⟨(Nat.zero_le _), (Nat.zero_le _)⟩ (fun H locs hZ hS => ?_)
        exact z_iret hx hb hr hlk hK hZ hS (show _ ∧ _ from (by rw [show a_act μ fb o z T I T2 I2 11 t i v b = ((-1), μ) from ((if_pos hc).trans ((if_neg c_7).trans rfl))]; exact ⟨rfl, rfl⟩)) dL_act_269
      · refine lv_iconst (v := 1) hx hb dL_act_261 (by decide) ?_
        refine lv_goto (tgt := 266) hx hb dL_act_262 (by decide) ?_
        refine z_cVi (As := [.int (nI i), .int 1]) (rest := []) hx hb hml hown hts hl hK hZ hS (c_X6_answer_no l G μ fb hfb T I hT hI hT6 hI24 (nI i) (Or.inr (show nI I ≤ nI i from nI_le (by omega) (by omega))) 1) (z_G q519 q520 q521 q1 q522) hdX6_answer ⟨Nat.le_of_ble_eq_true rfl, Nat.le_of_ble_eq_true rfl⟩ zk0 (by decide) rfl rfl rfl rfl (Nat.le_of_ble_eq_true rfl) dL_act_266 ⟨(Nat.zero_le _), (Nat.zero_le _)⟩ (fun H locs hZ hS => ?_)
        exact z_iret hx hb hr hlk hK hZ hS (show _ ∧ _ from (by rw [show a_act μ fb o z T I T2 I2 11 t i v b = ((-1), μ) from ((if_pos hc).trans ((if_pos c_7).trans rfl))]; exact ⟨rfl, rfl⟩)) dL_act_269
    · obtain ⟨hhh, heh⟩ := hhome i (by omega)
      refine lv_aload_n hx hb dL_act_252 rfl (lv_at hl 2 rfl) ?_
      refine lv_iload hx hb dL_act_253 (lv_at hl 0 rfl) ?_
      refine lv_iload_n hx hb dL_act_255 rfl (lv_at hl 4 rfl) ?_
      refine lv_iconst (v := 3) hx hb dL_act_256 (by decide) ?_
      refine lv_iand hx hb dL_act_257 ?_
      refine lv_if_ne (tgt := 265) hx hb dL_act_258 (by decide) (fun c_8 => ?_) (fun c_8 => ?_)
      · refine lv_iconst (v := 0) hx hb dL_act_265 (by decide) ?_
        refine z_cVi (As := [.int (nI i), .int 0]) (rest := []) hx hb hml hown hts hl hK hZ hS (c_X6_answer l G μ fb hh hfb hfh T I o z hT hI hT6 hI24 ho hz ho4 hz4 i ((μ (1 + (15 + i)) 0).toNatClampNeg) (by omega) hhh _ rfl heh _ rfl 0) (z_G q519 q520 q521 q1 q522) hdX6_answer ⟨Nat.le_of_ble_eq_true rfl, Nat.le_of_ble_eq_true rfl⟩ zk0 (by decide) rfl rfl rfl rfl (Nat.le_of_ble_eq_true rfl) dL_act_266 ⟨(Nat.zero_le _), (Nat.zero_le _)⟩ (fun H locs hZ hS => ?_)
        exact z_iret hx hb hr hlk hK hZ hS (show _ ∧ _ from (by rw [show a_act μ fb o z T I T2 I2 11 t i v b = (p_answer μ fb o z T I i (μ (1 + (15 + i))) (z_home μ (μ (1 + (15 + i)))) 0) from ((if_neg hc).trans ((if_neg c_8).trans rfl))]; exact ⟨rfl, rfl⟩)) dL_act_269
      · refine lv_iconst (v := 1) hx hb dL_act_261 (by decide) ?_
        refine lv_goto (tgt := 266) hx hb dL_act_262 (by decide) ?_
        refine z_cVi (As := [.int (nI i), .int 1]) (rest := []) hx hb hml hown hts hl hK hZ hS (c_X6_answer l G μ fb hh hfb hfh T I o z hT hI hT6 hI24 ho hz ho4 hz4 i ((μ (1 + (15 + i)) 0).toNatClampNeg) (by omega) hhh _ rfl heh _ rfl 1) (z_G q519 q520 q521 q1 q522) hdX6_answer ⟨Nat.le_of_ble_eq_true rfl, Nat.le_of_ble_eq_true rfl⟩ zk0 (by decide) rfl rfl rfl rfl (Nat.le_of_ble_eq_true rfl) dL_act_266 ⟨(Nat.zero_le _), (Nat.zero_le _)⟩ (fun H locs hZ hS => ?_)
        exact z_iret hx hb hr hlk hK hZ hS (show _ ∧ _ from (by rw [show a_act μ fb o z T I T2 I2 11 t i v b = (p_answer μ fb o z T I i (μ (1 + (15 + i))) (z_home μ (μ (1 + (15 + i)))) 1) from ((if_neg hc).trans ((if_pos c_8).trans rfl))]; exact ⟨rfl, rfl⟩)) dL_act_269
  · refine lv_tableIn (off := 236) (tgt := 270) hx hb dL_act_34 (by decide) (by decide) rfl (by decide) ?_
    by_cases hc : i = I
    · refine lv_aload_n hx hb dL_act_270 rfl (lv_at hl 2 rfl) ?_
      refine lv_iload hx hb dL_act_271 (lv_at hl 0 rfl) ?_
      refine lv_iload_n hx hb dL_act_273 rfl (lv_at hl 4 rfl) ?_
      refine lv_bipush (v := 12) hx hb dL_act_274 (by decide) ?_
      refine z_cSi (As := [.int b, .int 12]) (rest := [.int (nI i), .ref (G.1 + 0)]) hx hb hml hown hts hl hK hZ hS (c_L_low l G μ b 12 (by decide)) (z_GS q439 q440 q0 q441) hdL_low ⟨Nat.le_of_ble_eq_true rfl, Nat.le_of_ble_eq_true rfl⟩ rfl rfl (Nat.le_of_ble_eq_true rfl) dL_act_276 ⟨(Nat.zero_le _), (Nat.zero_le _)⟩ (fun H locs hZ hS => ?_)
      refine lv_iload_n hx hb dL_act_279 rfl (lv_at hl 4 rfl) ?_
      refine lv_iconst (v := 4) hx hb dL_act_280 (by decide) ?_
      refine lv_ishr hx hb dL_act_281 ?_
      refine lv_bipush (v := 11) hx hb dL_act_282 (by decide) ?_
      refine z_cSi (As := [.int (b >>> ((4 : Int32) &&& 31)), .int 11]) (rest := [.int (s_low b 12), .int (nI i), .ref (G.1 + 0)]) hx hb hml hown hts hl hK hZ hS (c_L_low l G μ (b >>> ((4 : Int32) &&& 31)) 11 (by decide)) (z_GS q439 q440 q0 q441) hdL_low ⟨Nat.le_of_ble_eq_true rfl, Nat.le_of_ble_eq_true rfl⟩ rfl rfl (Nat.le_of_ble_eq_true rfl) dL_act_284 ⟨(Nat.zero_le _), (Nat.zero_le _)⟩ (fun H locs hZ hS => ?_)
      refine z_cVi (As := [.int (nI i), .int (s_low b 12), .int (s_low (b >>> ((4 : Int32) &&& 31)) 11)]) (rest := []) hx hb hml hown hts hl hK hZ hS (c_X6_setEvidence_no l G μ fb hfb T I hT hI hT6 hI24 (nI i) (Or.inr (show nI I ≤ nI i from nI_le (by omega) (by omega))) (s_low b 12) (s_low (b >>> ((4 : Int32) &&& 31)) 11)) (z_G q528 q529 q530 q1 q531) hdX6_setEvidence ⟨Nat.le_of_ble_eq_true rfl, Nat.le_of_ble_eq_true rfl⟩ zk0 (by decide) rfl rfl rfl rfl (Nat.le_of_ble_eq_true rfl) dL_act_287 ⟨(Nat.zero_le _), (Nat.zero_le _)⟩ (fun H locs hZ hS => ?_)
      exact z_iret hx hb hr hlk hK hZ hS (show _ ∧ _ from (by rw [show a_act μ fb o z T I T2 I2 12 t i v b = ((-1), μ) from ((if_pos hc).trans rfl)]; exact ⟨rfl, rfl⟩)) dL_act_290
    · obtain ⟨hhh, heh⟩ := hhome i (by omega)
      refine lv_aload_n hx hb dL_act_270 rfl (lv_at hl 2 rfl) ?_
      refine lv_iload hx hb dL_act_271 (lv_at hl 0 rfl) ?_
      refine lv_iload_n hx hb dL_act_273 rfl (lv_at hl 4 rfl) ?_
      refine lv_bipush (v := 12) hx hb dL_act_274 (by decide) ?_
      refine z_cSi (As := [.int b, .int 12]) (rest := [.int (nI i), .ref (G.1 + 0)]) hx hb hml hown hts hl hK hZ hS (c_L_low l G μ b 12 (by decide)) (z_GS q439 q440 q0 q441) hdL_low ⟨Nat.le_of_ble_eq_true rfl, Nat.le_of_ble_eq_true rfl⟩ rfl rfl (Nat.le_of_ble_eq_true rfl) dL_act_276 ⟨(Nat.zero_le _), (Nat.zero_le _)⟩ (fun H locs hZ hS => ?_)
      refine lv_iload_n hx hb dL_act_279 rfl (lv_at hl 4 rfl) ?_
      refine lv_iconst (v := 4) hx hb dL_act_280 (by decide) ?_
      refine lv_ishr hx hb dL_act_281 ?_
      refine lv_bipush (v := 11) hx hb dL_act_282 (by decide) ?_
      refine z_cSi (As := [.int (b >>> ((4 : Int32) &&& 31)), .int 11]) (rest := [.int (s_low b 12), .int (nI i), .ref (G.1 + 0)]) hx hb hml hown hts hl hK hZ hS (c_L_low l G μ (b >>> ((4 : Int32) &&& 31)) 11 (by decide)) (z_GS q439 q440 q0 q441) hdL_low ⟨Nat.le_of_ble_eq_true rfl, Nat.le_of_ble_eq_true rfl⟩ rfl rfl (Nat.le_of_ble_eq_true rfl) dL_act_284 ⟨(Nat.zero_le _), (Nat.zero_le _)⟩ (fun H locs hZ hS => ?_)
      refine z_cVi (As := [.int (nI i), .int (s_low b 12), .int (s_low (b >>> ((4 : Int32) &&& 31)) 11)]) (rest := []) hx hb hml hown hts hl hK hZ hS (c_X6_setEvidence l G μ fb hh hfb hfh T I o z hT hI hT6 hI24 ho hz ho4 hz4 i ((μ (1 + (15 + i)) 0).toNatClampNeg) (by omega) hhh _ rfl heh _ rfl (s_low b 12) (s_low (b >>> ((4 : Int32) &&& 31)) 11)) (z_G q528 q529 q530 q1 q531) hdX6_setEvidence ⟨Nat.le_of_ble_eq_true rfl, Nat.le_of_ble_eq_true rfl⟩ zk0 (by decide) rfl rfl rfl rfl (Nat.le_of_ble_eq_true rfl) dL_act_287 ⟨(Nat.zero_le _), (Nat.zero_le _)⟩ (fun H locs hZ hS => ?_)
      exact z_iret hx hb hr hlk hK hZ hS (show _ ∧ _ from (by rw [show a_act μ fb o z T I T2 I2 12 t i v b = (p_setEvidence μ fb o z T I i (μ (1 + (15 + i))) (z_home μ (μ (1 + (15 + i)))) (s_low b 12) (s_low (b >>> ((4 : Int32) &&& 31)) 11)) from ((if_neg hc).trans rfl)]; exact ⟨rfl, rfl⟩)) dL_act_290
  · refine lv_tableIn (off := 257) (tgt := 291) hx hb dL_act_34 (by decide) (by decide) rfl (by decide) ?_
    refine lv_iload_n hx hb dL_act_291 rfl (lv_at hl 4 rfl) ?_
    refine lv_iconst (v := 1) hx hb dL_act_292 (by decide) ?_
    refine lv_iand hx hb dL_act_293 ?_
    refine lv_if_ne (tgt := 312) hx hb dL_act_294 (by decide) (fun c_9 => ?_) (fun c_9 => ?_)
    · refine lv_aload_n hx hb dL_act_312 rfl (lv_at hl 2 rfl) ?_
      refine lv_iload_n hx hb dL_act_313 rfl (lv_at hl 4 rfl) ?_
      refine lv_iconst (v := 1) hx hb dL_act_314 (by decide) ?_
      refine lv_ishr hx hb dL_act_315 ?_
      refine lv_iconst (v := 3) hx hb dL_act_316 (by decide) ?_
      refine lv_iand hx hb dL_act_317 ?_
      refine lv_if_ne (tgt := 325) hx hb dL_act_318 (by decide) (fun c_10 => ?_) (fun c_10 => ?_)
      · refine lv_ldc hx hb hown (hts _ q538) dL_act_325 ?_
        refine lv_iload_n hx hb dL_act_327 rfl (lv_at hl 4 rfl) ?_
        refine lv_iconst (v := 3) hx hb dL_act_328 (by decide) ?_
        refine lv_ishr hx hb dL_act_329 ?_
        refine lv_bipush (v := 50) hx hb dL_act_330 (by decide) ?_
        refine z_cSi (As := [.int (b >>> ((3 : Int32) &&& 31)), .int 50]) (rest := [.int 1045220557, .ref (G.1 + 0)]) hx hb hml hown hts hl hK hZ hS (c_L_low l G μ (b >>> ((3 : Int32) &&& 31)) 50 (by decide)) (z_GS q439 q440 q0 q441) hdL_low ⟨Nat.le_of_ble_eq_true rfl, Nat.le_of_ble_eq_true rfl⟩ rfl rfl (Nat.le_of_ble_eq_true rfl) dL_act_332 ⟨(Nat.zero_le _), (Nat.zero_le _)⟩ (fun H locs hZ hS => ?_)
        refine lv_bipush (v := 19) hx hb dL_act_335 (by decide) ?_
        refine lv_ishl hx hb dL_act_337 ?_
        refine lv_isub hx hb dL_act_338 ?_
        refine z_cVi (As := [.int (1045220557 - ((s_low (b >>> ((3 : Int32) &&& 31)) 50) <<< ((19 : Int32) &&& 31)))]) (rest := []) hx hb hml hown hts hl hK hZ hS (c_X6_setRate l G μ fb hh hfb hfh T I o z hT hI hT6 hI24 ho hz ho4 hz4 (1045220557 - ((s_low (b >>> ((3 : Int32) &&& 31)) 50) <<< ((19 : Int32) &&& 31)))) (z_G q539 q540 q541 q1 q542) hdX6_setRate ⟨Nat.le_of_ble_eq_true rfl, Nat.le_of_ble_eq_true rfl⟩ zk0 (by decide) rfl rfl rfl rfl (Nat.le_of_ble_eq_true rfl) dL_act_339 ⟨(Nat.zero_le _), (Nat.zero_le _)⟩ (fun H locs hZ hS => ?_)
        exact z_iret hx hb hr hlk hK hZ hS (show _ ∧ _ from (by rw [show a_act μ fb o z T I T2 I2 13 t i v b = (p_setRate μ fb o z T I (1045220557 - ((s_low (b >>> ((3 : Int32) &&& 31)) 50) <<< ((19 : Int32) &&& 31)))) from ((if_neg c_9).trans ((if_neg c_10).trans rfl))]; exact ⟨rfl, rfl⟩)) dL_act_342
      · refine lv_iload_n hx hb dL_act_321 rfl (lv_at hl 4 rfl) ?_
        refine lv_goto (tgt := 339) hx hb dL_act_322 (by decide) ?_
        refine z_cVi (As := [.int b]) (rest := []) hx hb hml hown hts hl hK hZ hS (c_X6_setRate l G μ fb hh hfb hfh T I o z hT hI hT6 hI24 ho hz ho4 hz4 b) (z_G q539 q540 q541 q1 q542) hdX6_setRate ⟨Nat.le_of_ble_eq_true rfl, Nat.le_of_ble_eq_true rfl⟩ zk0 (by decide) rfl rfl rfl rfl (Nat.le_of_ble_eq_true rfl) dL_act_339 ⟨(Nat.zero_le _), (Nat.zero_le _)⟩ (fun H locs hZ hS => ?_)
        exact z_iret hx hb hr hlk hK hZ hS (show _ ∧ _ from (by rw [show a_act μ fb o z T I T2 I2 13 t i v b = (p_setRate μ fb o z T I b) from ((if_neg c_9).trans ((if_pos c_10).trans rfl))]; exact ⟨rfl, rfl⟩)) dL_act_342
    · refine lv_aload_n hx hb dL_act_297 rfl (lv_at hl 2 rfl) ?_
      refine lv_iload_n hx hb dL_act_298 rfl (lv_at hl 4 rfl) ?_
      refine lv_iconst (v := 1) hx hb dL_act_299 (by decide) ?_
      refine lv_ishr hx hb dL_act_300 ?_
      refine lv_ldc hx hb hown (hts _ q532) dL_act_301 ?_
      refine z_cSi (As := [.int (b >>> ((1 : Int32) &&& 31)), .int 50002]) (rest := [.ref (G.1 + 0)]) hx hb hml hown hts hl hK hZ hS (c_L_low l G μ (b >>> ((1 : Int32) &&& 31)) 50002 (by decide)) (z_GS q439 q440 q0 q441) hdL_low ⟨Nat.le_of_ble_eq_true rfl, Nat.le_of_ble_eq_true rfl⟩ rfl rfl (Nat.le_of_ble_eq_true rfl) dL_act_303 ⟨(Nat.zero_le _), (Nat.zero_le _)⟩ (fun H locs hZ hS => ?_)
      refine z_cVi (As := [.int (s_low (b >>> ((1 : Int32) &&& 31)) 50002)]) (rest := []) hx hb hml hown hts hl hK hZ hS (c_X6_setFee l G μ fb hh hfb hfh T I o z hT hI hT6 hI24 ho hz ho4 hz4 (s_low (b >>> ((1 : Int32) &&& 31)) 50002)) (z_G q533 q534 q535 q1 q536) hdX6_setFee ⟨Nat.le_of_ble_eq_true rfl, Nat.le_of_ble_eq_true rfl⟩ zk0 (by decide) rfl rfl rfl rfl (Nat.le_of_ble_eq_true rfl) dL_act_306 ⟨(Nat.zero_le _), (Nat.zero_le _)⟩ (fun H locs hZ hS => ?_)
      refine lv_goto (tgt := 342) hx hb dL_act_309 (by decide) ?_
      exact z_iret hx hb hr hlk hK hZ hS (show _ ∧ _ from (by rw [show a_act μ fb o z T I T2 I2 13 t i v b = (p_setFee μ fb o z T I (s_low (b >>> ((1 : Int32) &&& 31)) 50002)) from ((if_pos c_9).trans rfl)]; exact ⟨rfl, rfl⟩)) dL_act_342
  · refine lv_tableIn (off := 309) (tgt := 343) hx hb dL_act_34 (by decide) (by decide) rfl (by decide) ?_
    refine lv_aload_n hx hb dL_act_343 rfl (lv_at hl 2 rfl) ?_
    refine z_cVi (As := []) (rest := []) hx hb hml hown hts hl hK hZ hS (c_X6_restore l G μ fb hh hfb hfh T I o z hT hI hT6 hI24 ho hz ho4 hz4 _ rfl hk1 _ rfl T2 I2 hT2 hI2 hT26 hI224) (z_G q285 q286 q287 q1 q288) hdX6_restore ⟨Nat.le_of_ble_eq_true rfl, Nat.le_of_ble_eq_true rfl⟩ zk0 (by decide) rfl rfl rfl rfl (Nat.le_of_ble_eq_true rfl) dL_act_344 ⟨(Nat.zero_le _), (Nat.zero_le _)⟩ (fun H locs hZ hS => ?_)
    exact z_iret hx hb hr hlk hK hZ hS (show _ ∧ _ from (by rw [show a_act μ fb o z T I T2 I2 14 t i v b = ((μ 40) 0, bc (zp μ o z T I) 1 40 T2 I2) from rfl]; exact ⟨rfl, rfl⟩)) dL_act_347
  · refine lv_tableOut (tgt := 348) hx hb dL_act_34 (by decide) (by decide) ?_
    by_cases hc : t = T
    · refine lv_aload_n hx hb dL_act_348 rfl (lv_at hl 2 rfl) ?_
      refine lv_iload_n hx hb dL_act_349 rfl (lv_at hl 1 rfl) ?_
      refine z_cVi (As := [.int (nI t)]) (rest := []) hx hb hml hown hts hl hK hZ hS (c_X6_close_no l G μ fb hfb T I hT hI hT6 hI24 (nI t) (Or.inr (show nI T ≤ nI t from nI_le (by omega) (by omega))) ) (z_G q549 q550 q551 q1 q552) hdX6_close ⟨Nat.le_of_ble_eq_true rfl, Nat.le_of_ble_eq_true rfl⟩ zk0 (by decide) rfl rfl rfl rfl (Nat.le_of_ble_eq_true rfl) dL_act_350 ⟨(Nat.zero_le _), (Nat.zero_le _)⟩ (fun H locs hZ hS => ?_)
      exact z_iret hx hb hr hlk hK hZ hS (show _ ∧ _ from (by rw [show a_act μ fb o z T I T2 I2 15 t i v b = ((-1), μ) from ((if_pos hc).trans rfl)]; exact ⟨rfl, rfl⟩)) dL_act_353
    · refine lv_aload_n hx hb dL_act_348 rfl (lv_at hl 2 rfl) ?_
      refine lv_iload_n hx hb dL_act_349 rfl (lv_at hl 1 rfl) ?_
      refine z_cVi (As := [.int (nI t)]) (rest := []) hx hb hml hown hts hl hK hZ hS (c_X6_close l G μ fb hh hfb hfh T I o z hT hI hT6 hI24 ho hz ho4 hz4 t (by omega) _ rfl  hr8) (z_G q549 q550 q551 q1 q552) hdX6_close ⟨Nat.le_of_ble_eq_true rfl, Nat.le_of_ble_eq_true rfl⟩ zk0 (by decide) rfl rfl rfl rfl (Nat.le_of_ble_eq_true rfl) dL_act_350 ⟨(Nat.zero_le _), (Nat.zero_le _)⟩ (fun H locs hZ hS => ?_)
      exact z_iret hx hb hr hlk hK hZ hS (show _ ∧ _ from (by rw [show a_act μ fb o z T I T2 I2 15 t i v b = (p_close μ fb o z T I t (μ (1 + (3 + 2 * t)))) from ((if_neg hc).trans rfl)]; exact ⟨rfl, rfl⟩)) dL_act_353
