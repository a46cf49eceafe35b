def s_sts (μ : zM) : Nat → Int32
  | 0 => 0
  | t + 1 => s_sts μ t + μ (1 + (3 + 2 * t)) 2
theorem cls_out {μ : zM} {w t : Nat} (h : ¬ μ (1 + (3 + 2 * t)) 2 = 3) : s_cls μ w t + 0 = s_cls μ w (t + 1) := by
  rw [Int32.add_zero]
  exact (if_neg h).symm
theorem oc_3 {μ : zM} {fb g gs : Nat → Int32} {t I w : Nat} (h : g 2 = 3) : s_oc μ fb g gs t I w = s_X4_fact gs w := by
  unfold s_oc
  rw [if_neg (by rw [h]; decide), if_pos h]
theorem cls_8 {μ : zM} {fb : Nat → Int32} {I t : Nat} (h : μ (1 + (3 + 2 * t)) 2 = 3) : s_cls μ 8 t + s_oc μ fb (μ (1 + (3 + 2 * t))) (μ (1 + (3 + 2 * t) + 1)) t I 0 = s_cls μ 8 (t + 1) := by rw [oc_3 h]; exact (if_pos h).symm
theorem cls_9 {μ : zM} {fb : Nat → Int32} {I t : Nat} (h : μ (1 + (3 + 2 * t)) 2 = 3) : s_cls μ 9 t + s_oc μ fb (μ (1 + (3 + 2 * t))) (μ (1 + (3 + 2 * t) + 1)) t I 1 = s_cls μ 9 (t + 1) := by rw [oc_3 h]; exact (if_pos h).symm
theorem cls_10 {μ : zM} {fb : Nat → Int32} {I t : Nat} (h : μ (1 + (3 + 2 * t)) 2 = 3) : s_cls μ 10 t + (s_oc μ fb (μ (1 + (3 + 2 * t))) (μ (1 + (3 + 2 * t) + 1)) t I 2 + s_oc μ fb (μ (1 + (3 + 2 * t))) (μ (1 + (3 + 2 * t) + 1)) t I 3) = s_cls μ 10 (t + 1) := by rw [oc_3 h, oc_3 h]; exact (if_pos h).symm
theorem cls_11 {μ : zM} {fb : Nat → Int32} {I t : Nat} (h : μ (1 + (3 + 2 * t)) 2 = 3) : s_cls μ 11 t + s_oc μ fb (μ (1 + (3 + 2 * t))) (μ (1 + (3 + 2 * t) + 1)) t I 4 = s_cls μ 11 (t + 1) := by rw [oc_3 h]; exact (if_pos h).symm
theorem hdL_holds : yL_holds.cls = RL ∧ yL_holds.cls ≠ "java/lang/invoke/MethodHandle" ∧ yL_holds.cls ≠ "java/lang/invoke/VarHandle" ∧ (parseMethodDescriptor yL_holds.desc).map (fun d => d.parameters.length) = some 1 := by decide +kernel
set_option maxHeartbeats 8000000 in
set_option maxRecDepth 100000 in
theorem c_L_holds (l : Launch) (G : zG) (μ : zM) (fb hh : Nat → Int32) (hfb : μ 1 = fb) (hfh : μ 79 = hh) (T I o z : Nat) (hT : fb 3 = nI T) (hI : fb 4 = nI I) (hT6 : T ≤ 6) (hI24 : I ≤ 24) (ho : hh 1 = nI o) (hz : hh 2 = nI z) (ho4 : o < 4) (hz4 : z ≤ 4) (hr8 : fK 125 (Int32.toUInt32 (fb 2))) (hhm : z_homes μ T I) (hA8 : ∀ t, t < T → ¬ s_ten μ fb (μ (1 + (3 + 2 * t))) t I 2 ≤ 0 → (s_oc μ fb (μ (1 + (3 + 2 * t))) (μ (1 + (3 + 2 * t) + 1)) t I 0 + s_oc μ fb (μ (1 + (3 + 2 * t))) (μ (1 + (3 + 2 * t) + 1)) t I 1 + s_oc μ fb (μ (1 + (3 + 2 * t))) (μ (1 + (3 + 2 * t) + 1)) t I 2 = s_oc μ fb (μ (1 + (3 + 2 * t))) (μ (1 + (3 + 2 * t) + 1)) t I 5) ∧ (s_oc μ fb (μ (1 + (3 + 2 * t))) (μ (1 + (3 + 2 * t) + 1)) t I 0 + s_oc μ fb (μ (1 + (3 + 2 * t))) (μ (1 + (3 + 2 * t) + 1)) t I 1 + s_oc μ fb (μ (1 + (3 + 2 * t))) (μ (1 + (3 + 2 * t) + 1)) t I 2 = s_ten μ fb (μ (1 + (3 + 2 * t))) t I 0 + s_ten μ fb (μ (1 + (3 + 2 * t))) t I 4) ∧ (s_oc μ fb (μ (1 + (3 + 2 * t))) (μ (1 + (3 + 2 * t) + 1)) t I 4 ≤ 0 ∨ ¬ 0 < s_oc μ fb (μ (1 + (3 + 2 * t))) (μ (1 + (3 + 2 * t) + 1)) t I 0) ∧ (¬ s_ten μ fb (μ (1 + (3 + 2 * t))) t I 2 = 3 → ¬ s_cnt μ fb T I z 7 < s_oc μ fb (μ (1 + (3 + 2 * t))) (μ (1 + (3 + 2 * t) + 1)) t I 2 + s_oc μ fb (μ (1 + (3 + 2 * t))) (μ (1 + (3 + 2 * t) + 1)) t I 3 ∧ (0 < s_ten μ fb (μ (1 + (3 + 2 * t))) t I 9 ∨ s_oc μ fb (μ (1 + (3 + 2 * t))) (μ (1 + (3 + 2 * t) + 1)) t I 2 + s_oc μ fb (μ (1 + (3 + 2 * t))) (μ (1 + (3 + 2 * t) + 1)) t I 3 = 0) ∧ (0 < s_oc μ fb (μ (1 + (3 + 2 * t))) (μ (1 + (3 + 2 * t) + 1)) t I 4 ∨ s_ten μ fb (μ (1 + (3 + 2 * t))) t I 9 = 0 ∨ s_oc μ fb (μ (1 + (3 + 2 * t))) (μ (1 + (3 + 2 * t) + 1)) t I 2 + s_oc μ fb (μ (1 + (3 + 2 * t))) (μ (1 + (3 + 2 * t) + 1)) t I 3 = s_cnt μ fb T I z 7))) (hB8 : ∀ j, j < I → (¬ s_itm (μ (1 + (15 + j))) fb (z_home μ (μ (1 + (15 + j)))) 7 < s_itm (μ (1 + (15 + j))) fb (z_home μ (μ (1 + (15 + j)))) 9) ∧ (¬ (z_home μ (μ (1 + (15 + j)))) 2 = 0 → (s_itm (μ (1 + (15 + j))) fb (z_home μ (μ (1 + (15 + j)))) 6 ≤ s_itm (μ (1 + (15 + j))) fb (z_home μ (μ (1 + (15 + j)))) 7 → ¬ s_itm (μ (1 + (15 + j))) fb (z_home μ (μ (1 + (15 + j)))) 9 < s_itm (μ (1 + (15 + j))) fb (z_home μ (μ (1 + (15 + j)))) 6) ∧ (¬ s_itm (μ (1 + (15 + j))) fb (z_home μ (μ (1 + (15 + j)))) 6 ≤ s_itm (μ (1 + (15 + j))) fb (z_home μ (μ (1 + (15 + j)))) 7 → ¬ s_itm (μ (1 + (15 + j))) fb (z_home μ (μ (1 + (15 + j)))) 9 < s_itm (μ (1 + (15 + j))) fb (z_home μ (μ (1 + (15 + j)))) 7) ∧ ¬ s_itm (μ (1 + (15 + j))) fb (z_home μ (μ (1 + (15 + j)))) 1 < s_itm (μ (1 + (15 + j))) fb (z_home μ (μ (1 + (15 + j)))) 6) ∧ (¬ Op.cmpValue (FP.fcmp (s_X3_restAfter (μ (1 + (15 + j))) (s_X1_daysOf fb (z_home μ (μ (1 + (15 + j)))))) FP.fconst0) CmpOp.g < 0) ∧ (¬ 0 < Op.cmpValue (FP.fcmp (s_X3_restAfter (μ (1 + (15 + j))) (s_X1_daysOf fb (z_home μ (μ (1 + (15 + j)))))) FP.fconst1) CmpOp.l) ∧ (¬ s_itm (μ (1 + (15 + j))) fb (z_home μ (μ (1 + (15 + j)))) 2 < s_itm (μ (1 + (15 + j))) fb (z_home μ (μ (1 + (15 + j)))) 3) ∧ (s_itm (μ (1 + (15 + j))) fb (z_home μ (μ (1 + (15 + j)))) 8 = 1 → s_itm (μ (1 + (15 + j))) fb (z_home μ (μ (1 + (15 + j)))) 9 = s_itm (μ (1 + (15 + j))) fb (z_home μ (μ (1 + (15 + j)))) 7)) (hC1 : s_sts μ T = s_cnt μ fb T I z 3 + 2 * s_cnt μ fb T I z 4 + 3 * s_cnt μ fb T I z 5) (hC2 : s_cnt μ fb T I z 2 + s_cnt μ fb T I z 3 + s_cnt μ fb T I z 4 + s_cnt μ fb T I z 5 = nI T) : zMet l G yL_holds cL_holds 12 (some .boolean) 6 138 [.ref (G.1 + 0)] μ (zQiP G 1 (P242 μ)) := by
  refine z_start (lv := [(0, .ref (G.1 + 0))]) (by decide) (Nat.le_of_ble_eq_true rfl) rfl ?_
  intro p e s m args below meth c ls hx hb hml hr hlk hts hown hK hZ hS hl
  have hown : s.vm.findClass RL = some m.cls := hown
  have hhome : ∀ j, j < I → (μ (1 + (15 + j)) 0).toNatClampNeg < T ∧ μ (1 + (15 + j)) 0 = nI (μ (1 + (15 + j)) 0).toNatClampNeg := by
    intro j hj
    obtain ⟨k, hk, ek⟩ := hhm j hj
    rw [ek, nI_clamp (by omega)]
    exact ⟨hk, rfl⟩
  obtain ⟨q, hq⟩ : ∃ q, μ = zr μ 242 q := ⟨μ 242, (zr_id rfl).symm⟩
  rw [hq] at hZ
  subst hfb
  have itms : ∀ (k j : Nat), j + k = I → (∀ (q : Nat → Int32) (H : Heap) (locs : List Loc) (ls : Array Slot), zW G (zr μ 242 q) H → va_S (zA G) s.heap H locs → lv_has ls 12 [(0, .ref (G.1 + 0)), (1, .int (s_cls μ 8 T)), (2, .int (s_cls μ 9 T)), (3, .int (s_cls μ 10 T)), (4, .int (s_cls μ 11 T)), (5, .int (s_sts μ T)), (6, .int (nI j))] → W p l e { frames := 6, cells := 0, slots := 0, locals := 138 } s m args below meth c H locs 0 0 (MQ below (zQiP G 1 (P242 μ)) args s 0 0 (zA G)) (F0 m 318 ls [])) := by
    intro k
    induction k with
    | zero =>
      intro j hv q H locs ls hZ hS hl
      have hv : I = j := by omega
      subst hv
      refine lv_iload hx hb dL_holds_318 (lv_at hl 6 rfl) ?_
      refine lv_aload_n hx hb dL_holds_320 rfl (lv_at hl 0 rfl) ?_
      refine lv_bipush (v := 6) hx hb dL_holds_321 (by decide) ?_
      refine z_cVi (As := [.int 6]) (rest := [.int (nI I)]) hx hb hml hown hts hl hK hZ hS (L_cntI l G (zr μ 242 q) (μ 1) hh (zr_at rfl (by decide)) (zr_at hfh (by decide)) T I o z hT hI hT6 hI24 ho hz ho4 hz4) (z_G q294 q295 q296 q1 q297) hdX6_count ⟨Nat.le_of_ble_eq_true rfl, Nat.le_of_ble_eq_true rfl⟩ zk0 (by decide) rfl rfl rfl rfl (Nat.le_of_ble_eq_true rfl) dL_holds_323 ⟨(Nat.zero_le _), (Nat.zero_le _)⟩ (fun H locs hZ hS => ?_)
      refine lv_icmp_ge (tgt := 490) hx hb dL_holds_326 (by decide) (fun c_1 => ?_) (fun c_1 => ?_)
      · refine lv_iload hx hb dL_holds_490 (lv_at hl 5 rfl) ?_
        refine lv_aload_n hx hb dL_holds_492 rfl (lv_at hl 0 rfl) ?_
        refine lv_iconst (v := 3) hx hb dL_holds_493 (by decide) ?_
        refine z_cVi (As := [.int 3]) (rest := [.int (s_sts μ T)]) hx hb hml hown hts hl hK hZ hS (c_X6_count l G (zr μ 242 q) (μ 1) hh (zr_at rfl (by decide)) (zr_at hfh (by decide)) T I o z hT hI hT6 hI24 ho hz ho4 hz4 3 (by omega)) (z_G q294 q295 q296 q1 q297) hdX6_count ⟨Nat.le_of_ble_eq_true rfl, Nat.le_of_ble_eq_true rfl⟩ zk0 (by decide) rfl rfl rfl rfl (Nat.le_of_ble_eq_true rfl) dL_holds_494 ⟨(Nat.zero_le _), (Nat.zero_le _)⟩ (fun H locs hZ hS => ?_)
        rw [s_cnt_cg (eqv_242 hT6 hI24)]
        refine lv_iconst (v := 2) hx hb dL_holds_497 (by decide) ?_
        refine lv_aload_n hx hb dL_holds_498 rfl (lv_at hl 0 rfl) ?_
        refine lv_iconst (v := 4) hx hb dL_holds_499 (by decide) ?_
        refine z_cVi (As := [.int 4]) (rest := [.int 2, .int (s_cnt μ (μ 1) T I z 3), .int (s_sts μ T)]) hx hb hml hown hts hl hK hZ hS (c_X6_count l G (zr μ 242 q) (μ 1) hh (zr_at rfl (by decide)) (zr_at hfh (by decide)) T I o z hT hI hT6 hI24 ho hz ho4 hz4 4 (by omega)) (z_G q294 q295 q296 q1 q297) hdX6_count ⟨Nat.le_of_ble_eq_true rfl, Nat.le_of_ble_eq_true rfl⟩ zk0 (by decide) rfl rfl rfl rfl (Nat.le_of_ble_eq_true rfl) dL_holds_500 ⟨(Nat.zero_le _), (Nat.zero_le _)⟩ (fun H locs hZ hS => ?_)
        rw [s_cnt_cg (eqv_242 hT6 hI24)]
        refine lv_imul hx hb dL_holds_503 ?_
        refine lv_iadd hx hb dL_holds_504 ?_
        refine lv_iconst (v := 3) hx hb dL_holds_505 (by decide) ?_
        refine lv_aload_n hx hb dL_holds_506 rfl (lv_at hl 0 rfl) ?_
        refine lv_iconst (v := 5) hx hb dL_holds_507 (by decide) ?_
        refine z_cVi (As := [.int 5]) (rest := [.int 3, .int ((s_cnt μ (μ 1) T I z 3) + (2 * (s_cnt μ (μ 1) T I z 4))), .int (s_sts μ T)]) hx hb hml hown hts hl hK hZ hS (c_X6_count l G (zr μ 242 q) (μ 1) hh (zr_at rfl (by decide)) (zr_at hfh (by decide)) T I o z hT hI hT6 hI24 ho hz ho4 hz4 5 (by omega)) (z_G q294 q295 q296 q1 q297) hdX6_count ⟨Nat.le_of_ble_eq_true rfl, Nat.le_of_ble_eq_true rfl⟩ zk0 (by decide) rfl rfl rfl rfl (Nat.le_of_ble_eq_true rfl) dL_holds_508 ⟨(Nat.zero_le _), (Nat.zero_le _)⟩ (fun H locs hZ hS => ?_)
        rw [s_cnt_cg (eqv_242 hT6 hI24)]
        refine lv_imul hx hb dL_holds_511 ?_
        refine lv_iadd hx hb dL_holds_512 ?_
        refine lv_icmp_ne (tgt := 551) hx hb dL_holds_513 (by decide) (fun c_2 => ?_) (fun c_2 => ?_)
        · exact absurd hC1 c_2
        · refine lv_aload_n hx hb dL_holds_516 rfl (lv_at hl 0 rfl) ?_
          refine lv_iconst (v := 2) hx hb dL_holds_517 (by decide) ?_
          refine z_cVi (As := [.int 2]) (rest := []) hx hb hml hown hts hl hK hZ hS (c_X6_count l G (zr μ 242 q) (μ 1) hh (zr_at rfl (by decide)) (zr_at hfh (by decide)) T I o z hT hI hT6 hI24 ho hz ho4 hz4 2 (by omega)) (z_G q294 q295 q296 q1 q297) hdX6_count ⟨Nat.le_of_ble_eq_true rfl, Nat.le_of_ble_eq_true rfl⟩ zk0 (by decide) rfl rfl rfl rfl (Nat.le_of_ble_eq_true rfl) dL_holds_518 ⟨(Nat.zero_le _), (Nat.zero_le _)⟩ (fun H locs hZ hS => ?_)
          rw [s_cnt_cg (eqv_242 hT6 hI24)]
          refine lv_aload_n hx hb dL_holds_521 rfl (lv_at hl 0 rfl) ?_
          refine lv_iconst (v := 3) hx hb dL_holds_522 (by decide) ?_
          refine z_cVi (As := [.int 3]) (rest := [.int (s_cnt μ (μ 1) T I z 2)]) hx hb hml hown hts hl hK hZ hS (c_X6_count l G (zr μ 242 q) (μ 1) hh (zr_at rfl (by decide)) (zr_at hfh (by decide)) T I o z hT hI hT6 hI24 ho hz ho4 hz4 3 (by omega)) (z_G q294 q295 q296 q1 q297) hdX6_count ⟨Nat.le_of_ble_eq_true rfl, Nat.le_of_ble_eq_true rfl⟩ zk0 (by decide) rfl rfl rfl rfl (Nat.le_of_ble_eq_true rfl) dL_holds_523 ⟨(Nat.zero_le _), (Nat.zero_le _)⟩ (fun H locs hZ hS => ?_)
          rw [s_cnt_cg (eqv_242 hT6 hI24)]
          refine lv_iadd hx hb dL_holds_526 ?_
          refine lv_aload_n hx hb dL_holds_527 rfl (lv_at hl 0 rfl) ?_
          refine lv_iconst (v := 4) hx hb dL_holds_528 (by decide) ?_
          refine z_cVi (As := [.int 4]) (rest := [.int ((s_cnt μ (μ 1) T I z 2) + (s_cnt μ (μ 1) T I z 3))]) hx hb hml hown hts hl hK hZ hS (c_X6_count l G (zr μ 242 q) (μ 1) hh (zr_at rfl (by decide)) (zr_at hfh (by decide)) T I o z hT hI hT6 hI24 ho hz ho4 hz4 4 (by omega)) (z_G q294 q295 q296 q1 q297) hdX6_count ⟨Nat.le_of_ble_eq_true rfl, Nat.le_of_ble_eq_true rfl⟩ zk0 (by decide) rfl rfl rfl rfl (Nat.le_of_ble_eq_true rfl) dL_holds_529 ⟨(Nat.zero_le _), (Nat.zero_le _)⟩ (fun H locs hZ hS => ?_)
          rw [s_cnt_cg (eqv_242 hT6 hI24)]
          refine lv_iadd hx hb dL_holds_532 ?_
          refine lv_aload_n hx hb dL_holds_533 rfl (lv_at hl 0 rfl) ?_
          refine lv_iconst (v := 5) hx hb dL_holds_534 (by decide) ?_
          refine z_cVi (As := [.int 5]) (rest := [.int (((s_cnt μ (μ 1) T I z 2) + (s_cnt μ (μ 1) T I z 3)) + (s_cnt μ (μ 1) T I z 4))]) hx hb hml hown hts hl hK hZ hS (c_X6_count l G (zr μ 242 q) (μ 1) hh (zr_at rfl (by decide)) (zr_at hfh (by decide)) T I o z hT hI hT6 hI24 ho hz ho4 hz4 5 (by omega)) (z_G q294 q295 q296 q1 q297) hdX6_count ⟨Nat.le_of_ble_eq_true rfl, Nat.le_of_ble_eq_true rfl⟩ zk0 (by decide) rfl rfl rfl rfl (Nat.le_of_ble_eq_true rfl) dL_holds_535 ⟨(Nat.zero_le _), (Nat.zero_le _)⟩ (fun H locs hZ hS => ?_)
          rw [s_cnt_cg (eqv_242 hT6 hI24)]
          refine lv_iadd hx hb dL_holds_538 ?_
          refine lv_aload_n hx hb dL_holds_539 rfl (lv_at hl 0 rfl) ?_
          refine lv_iconst (v := 1) hx hb dL_holds_540 (by decide) ?_
          refine z_cVi (As := [.int 1]) (rest := [.int ((((s_cnt μ (μ 1) T I z 2) + (s_cnt μ (μ 1) T I z 3)) + (s_cnt μ (μ 1) T I z 4)) + (s_cnt μ (μ 1) T I z 5))]) hx hb hml hown hts hl hK hZ hS (L_cntT l G (zr μ 242 q) (μ 1) hh (zr_at rfl (by decide)) (zr_at hfh (by decide)) T I o z hT hI hT6 hI24 ho hz ho4 hz4) (z_G q294 q295 q296 q1 q297) hdX6_count ⟨Nat.le_of_ble_eq_true rfl, Nat.le_of_ble_eq_true rfl⟩ zk0 (by decide) rfl rfl rfl rfl (Nat.le_of_ble_eq_true rfl) dL_holds_541 ⟨(Nat.zero_le _), (Nat.zero_le _)⟩ (fun H locs hZ hS => ?_)
          refine lv_icmp_ne (tgt := 551) hx hb dL_holds_544 (by decide) (fun c_3 => ?_) (fun c_3 => ?_)
          · exact absurd hC2 c_3
          · refine lv_iconst (v := 1) hx hb dL_holds_547 (by decide) ?_
            refine lv_goto (tgt := 552) hx hb dL_holds_548 (by decide) ?_
            refine lv_istore (lv' := [(6, .int 1), (0, .ref (G.1 + 0)), (1, .int (s_cls μ 8 T)), (2, .int (s_cls μ 9 T)), (3, .int (s_cls μ 10 T)), (4, .int (s_cls μ 11 T)), (5, .int (s_sts μ T))]) hx hb dL_holds_552 hl (by decide) rfl (fun ls hl => ?_)
            refine lv_iload hx hb dL_holds_554 (lv_at hl 0 rfl) ?_
            refine lv_if_eq (tgt := 634) hx hb dL_holds_556 (by decide) (fun c_4 => ?_) (fun c_4 => ?_)
            · exact absurd c_4 (by decide)
            · refine lv_iload_n hx hb dL_holds_559 rfl (lv_at hl 2 rfl) ?_
              refine lv_aload_n hx hb dL_holds_560 rfl (lv_at hl 1 rfl) ?_
              refine lv_bipush (v := 8) hx hb dL_holds_561 (by decide) ?_
              refine z_cVi (As := [.int 8]) (rest := [.int (s_cls μ 8 T)]) hx hb hml hown hts hl hK hZ hS (c_X6_count l G (zr μ 242 q) (μ 1) hh (zr_at rfl (by decide)) (zr_at hfh (by decide)) T I o z hT hI hT6 hI24 ho hz ho4 hz4 8 (by omega)) (z_G q294 q295 q296 q1 q297) hdX6_count ⟨Nat.le_of_ble_eq_true rfl, Nat.le_of_ble_eq_true rfl⟩ zk0 (by decide) rfl rfl rfl rfl (Nat.le_of_ble_eq_true rfl) dL_holds_563 ⟨(Nat.zero_le _), (Nat.zero_le _)⟩ (fun H locs hZ hS => ?_)
              rw [s_cnt_cg (eqv_242 hT6 hI24)]
              refine lv_icmp_ne (tgt := 634) hx hb dL_holds_566 (by decide) (fun c_5 => ?_) (fun c_5 => ?_)
              · exact absurd rfl c_5
              · refine lv_iload_n hx hb dL_holds_569 rfl (lv_at hl 3 rfl) ?_
                refine lv_aload_n hx hb dL_holds_570 rfl (lv_at hl 1 rfl) ?_
                refine lv_bipush (v := 9) hx hb dL_holds_571 (by decide) ?_
                refine z_cVi (As := [.int 9]) (rest := [.int (s_cls μ 9 T)]) hx hb hml hown hts hl hK hZ hS (c_X6_count l G (zr μ 242 q) (μ 1) hh (zr_at rfl (by decide)) (zr_at hfh (by decide)) T I o z hT hI hT6 hI24 ho hz ho4 hz4 9 (by omega)) (z_G q294 q295 q296 q1 q297) hdX6_count ⟨Nat.le_of_ble_eq_true rfl, Nat.le_of_ble_eq_true rfl⟩ zk0 (by decide) rfl rfl rfl rfl (Nat.le_of_ble_eq_true rfl) dL_holds_573 ⟨(Nat.zero_le _), (Nat.zero_le _)⟩ (fun H locs hZ hS => ?_)
                rw [s_cnt_cg (eqv_242 hT6 hI24)]
                refine lv_icmp_ne (tgt := 634) hx hb dL_holds_576 (by decide) (fun c_6 => ?_) (fun c_6 => ?_)
                · exact absurd rfl c_6
                · refine lv_iload_n hx hb dL_holds_579 rfl (lv_at hl 4 rfl) ?_
                  refine lv_aload_n hx hb dL_holds_580 rfl (lv_at hl 1 rfl) ?_
                  refine lv_bipush (v := 10) hx hb dL_holds_581 (by decide) ?_
                  refine z_cVi (As := [.int 10]) (rest := [.int (s_cls μ 10 T)]) hx hb hml hown hts hl hK hZ hS (c_X6_count l G (zr μ 242 q) (μ 1) hh (zr_at rfl (by decide)) (zr_at hfh (by decide)) T I o z hT hI hT6 hI24 ho hz ho4 hz4 10 (by omega)) (z_G q294 q295 q296 q1 q297) hdX6_count ⟨Nat.le_of_ble_eq_true rfl, Nat.le_of_ble_eq_true rfl⟩ zk0 (by decide) rfl rfl rfl rfl (Nat.le_of_ble_eq_true rfl) dL_holds_583 ⟨(Nat.zero_le _), (Nat.zero_le _)⟩ (fun H locs hZ hS => ?_)
                  rw [s_cnt_cg (eqv_242 hT6 hI24)]
                  refine lv_icmp_ne (tgt := 634) hx hb dL_holds_586 (by decide) (fun c_7 => ?_) (fun c_7 => ?_)
                  · exact absurd rfl c_7
                  · refine lv_iload hx hb dL_holds_589 (lv_at hl 5 rfl) ?_
                    refine lv_aload_n hx hb dL_holds_591 rfl (lv_at hl 1 rfl) ?_
                    refine lv_bipush (v := 11) hx hb dL_holds_592 (by decide) ?_
                    refine z_cVi (As := [.int 11]) (rest := [.int (s_cls μ 11 T)]) hx hb hml hown hts hl hK hZ hS (c_X6_count l G (zr μ 242 q) (μ 1) hh (zr_at rfl (by decide)) (zr_at hfh (by decide)) T I o z hT hI hT6 hI24 ho hz ho4 hz4 11 (by omega)) (z_G q294 q295 q296 q1 q297) hdX6_count ⟨Nat.le_of_ble_eq_true rfl, Nat.le_of_ble_eq_true rfl⟩ zk0 (by decide) rfl rfl rfl rfl (Nat.le_of_ble_eq_true rfl) dL_holds_594 ⟨(Nat.zero_le _), (Nat.zero_le _)⟩ (fun H locs hZ hS => ?_)
                    rw [s_cnt_cg (eqv_242 hT6 hI24)]
                    refine lv_icmp_ne (tgt := 634) hx hb dL_holds_597 (by decide) (fun c_8 => ?_) (fun c_8 => ?_)
                    · exact absurd rfl c_8
                    · refine lv_aload_n hx hb dL_holds_600 rfl (lv_at hl 1 rfl) ?_
                      refine lv_bipush (v := 24) hx hb dL_holds_601 (by decide) ?_
                      refine z_cVf (As := [.int 24]) (rest := []) hx hb hml hown hts hl hK hZ hS (c_X6_weight_no l G (zr μ 242 q) (μ 1) (zr_at rfl (by decide)) T I hT hI hT6 hI24 24 (Or.inr (show nI I ≤ nI 24 from nI_le hI24 (by decide)))) (z_G q425 q426 q427 q1 q428) hdX6_weight ⟨Nat.le_of_ble_eq_true rfl, Nat.le_of_ble_eq_true rfl⟩ zk0 (by decide) rfl rfl rfl rfl (Nat.le_of_ble_eq_true rfl) dL_holds_603 ⟨(Nat.zero_le _), (Nat.zero_le _)⟩ (fun H locs hZ hS => ?_)
                      refine lv_aload_n hx hb dL_holds_606 rfl (lv_at hl 1 rfl) ?_
                      refine lv_bipush (v := 24) hx hb dL_holds_607 (by decide) ?_
                      refine z_cVf (As := [.int 24]) (rest := [.float 2143289344]) hx hb hml hown hts hl hK hZ hS (c_X6_weight_no l G (zr μ 242 q) (μ 1) (zr_at rfl (by decide)) T I hT hI hT6 hI24 24 (Or.inr (show nI I ≤ nI 24 from nI_le hI24 (by decide)))) (z_G q425 q426 q427 q1 q428) hdX6_weight ⟨Nat.le_of_ble_eq_true rfl, Nat.le_of_ble_eq_true rfl⟩ zk0 (by decide) rfl rfl rfl rfl (Nat.le_of_ble_eq_true rfl) dL_holds_609 ⟨(Nat.zero_le _), (Nat.zero_le _)⟩ (fun H locs hZ hS => ?_)
                      refine lv_fcmp hx hb dL_holds_612 ?_
                      refine lv_if_eq (tgt := 634) hx hb dL_holds_613 (by decide) (fun c_9 => ?_) (fun c_9 => ?_)
                      · exact absurd c_9 (by decide +kernel)
                      · refine lv_aload_n hx hb dL_holds_616 rfl (lv_at hl 1 rfl) ?_
                        refine lv_iconst (v := (-1)) hx hb dL_holds_617 (by decide) ?_
                        refine z_cVf (As := [.int (-1)]) (rest := []) hx hb hml hown hts hl hK hZ hS (c_X6_rest_no l G (zr μ 242 q) (μ 1) (zr_at rfl (by decide)) T I hT hI hT6 hI24 (-1) (Or.inl (by decide))) (z_G q556 q557 q558 q1 q559) hdX6_rest ⟨Nat.le_of_ble_eq_true rfl, Nat.le_of_ble_eq_true rfl⟩ zk0 (by decide) rfl rfl rfl rfl (Nat.le_of_ble_eq_true rfl) dL_holds_618 ⟨(Nat.zero_le _), (Nat.zero_le _)⟩ (fun H locs hZ hS => ?_)
                        refine lv_aload_n hx hb dL_holds_621 rfl (lv_at hl 1 rfl) ?_
                        refine lv_iconst (v := (-1)) hx hb dL_holds_622 (by decide) ?_
                        refine z_cVf (As := [.int (-1)]) (rest := [.float 2143289344]) hx hb hml hown hts hl hK hZ hS (c_X6_rest_no l G (zr μ 242 q) (μ 1) (zr_at rfl (by decide)) T I hT hI hT6 hI24 (-1) (Or.inl (by decide))) (z_G q556 q557 q558 q1 q559) hdX6_rest ⟨Nat.le_of_ble_eq_true rfl, Nat.le_of_ble_eq_true rfl⟩ zk0 (by decide) rfl rfl rfl rfl (Nat.le_of_ble_eq_true rfl) dL_holds_623 ⟨(Nat.zero_le _), (Nat.zero_le _)⟩ (fun H locs hZ hS => ?_)
                        refine lv_fcmp hx hb dL_holds_626 ?_
                        refine lv_if_eq (tgt := 634) hx hb dL_holds_627 (by decide) (fun c_10 => ?_) (fun c_10 => ?_)
                        · exact absurd c_10 (by decide +kernel)
                        · refine lv_iconst (v := 1) hx hb dL_holds_630 (by decide) ?_
                          refine lv_goto (tgt := 635) hx hb dL_holds_631 (by decide) ?_
                          exact W.zret (v := 1) hx hb hr rfl (fun t ht hW => ⟨⟨_, _, rfl, ⟨rfl, q, rfl⟩, by rw [ht]; exact hZ, va_K.moved hW.alike hK⟩, hS.F ht⟩) hS.2.2 dL_holds_635 hlk
      · exact absurd (show nI I ≤ nI I from nI_le (Nat.le_refl _) (by omega)) c_1
    | succ k ih =>
      intro j hv q H locs ls hZ hS hl
      have hjj : j < I := by omega
      obtain ⟨hhh, heh⟩ := hhome j hjj
      obtain ⟨hb1, hb2, hb3, hb4, hb5, hb6⟩ := hB8 j hjj
      refine lv_iload hx hb dL_holds_318 (lv_at hl 6 rfl) ?_
      refine lv_aload_n hx hb dL_holds_320 rfl (lv_at hl 0 rfl) ?_
      refine lv_bipush (v := 6) hx hb dL_holds_321 (by decide) ?_
      refine z_cVi (As := [.int 6]) (rest := [.int (nI j)]) hx hb hml hown hts hl hK hZ hS (L_cntI l G (zr μ 242 q) (μ 1) hh (zr_at rfl (by decide)) (zr_at hfh (by decide)) T I o z hT hI hT6 hI24 ho hz ho4 hz4) (z_G q294 q295 q296 q1 q297) hdX6_count ⟨Nat.le_of_ble_eq_true rfl, Nat.le_of_ble_eq_true rfl⟩ zk0 (by decide) rfl rfl rfl rfl (Nat.le_of_ble_eq_true rfl) dL_holds_323 ⟨(Nat.zero_le _), (Nat.zero_le _)⟩ (fun H locs hZ hS => ?_)
      refine lv_icmp_ge (tgt := 490) hx hb dL_holds_326 (by decide) (fun c_11 => ?_) (fun c_11 => ?_)
      · exact absurd (show nI I ≤ nI j from c_11) (nI_ge (by omega) (by omega))
      · refine lv_aload_n hx hb dL_holds_329 rfl (lv_at hl 0 rfl) ?_
        refine lv_iload hx hb dL_holds_330 (lv_at hl 6 rfl) ?_
        refine lv_bipush (v := 7) hx hb dL_holds_332 (by decide) ?_
        refine z_cVi (As := [.int (nI j), .int 7]) (rest := []) hx hb hml hown hts hl hK hZ hS (c_X6_item l G (zr μ 242 q) (μ 1) (zr_at rfl (by decide)) T I hT hI hT6 hI24 j ((μ (1 + (15 + j)) 0).toNatClampNeg) hjj hhh (μ (1 + (15 + j))) (zr_ne (by omega)) heh (z_home μ (μ (1 + (15 + j)))) (zr_ne (by omega)) 7 (by omega)) (z_G q390 q391 q392 q1 q393) hdX6_item ⟨Nat.le_of_ble_eq_true rfl, Nat.le_of_ble_eq_true rfl⟩ zk0 (by decide) rfl rfl rfl rfl (Nat.le_of_ble_eq_true rfl) dL_holds_334 ⟨(Nat.zero_le _), (Nat.zero_le _)⟩ (fun H locs hZ hS => ?_)
        refine lv_istore (lv' := [(7, .int (s_itm (μ (1 + (15 + j))) (μ 1) (z_home μ (μ (1 + (15 + j)))) 7)), (0, .ref (G.1 + 0)), (1, .int (s_cls μ 8 T)), (2, .int (s_cls μ 9 T)), (3, .int (s_cls μ 10 T)), (4, .int (s_cls μ 11 T)), (5, .int (s_sts μ T)), (6, .int (nI j))]) hx hb dL_holds_337 hl (by decide) rfl (fun ls hl => ?_)
        refine lv_aload_n hx hb dL_holds_339 rfl (lv_at hl 1 rfl) ?_
        refine lv_iload hx hb dL_holds_340 (lv_at hl 7 rfl) ?_
        refine lv_bipush (v := 9) hx hb dL_holds_342 (by decide) ?_
        refine z_cVi (As := [.int (nI j), .int 9]) (rest := []) hx hb hml hown hts hl hK hZ hS (c_X6_item l G (zr μ 242 q) (μ 1) (zr_at rfl (by decide)) T I hT hI hT6 hI24 j ((μ (1 + (15 + j)) 0).toNatClampNeg) hjj hhh (μ (1 + (15 + j))) (zr_ne (by omega)) heh (z_home μ (μ (1 + (15 + j)))) (zr_ne (by omega)) 9 (by omega)) (z_G q390 q391 q392 q1 q393) hdX6_item ⟨Nat.le_of_ble_eq_true rfl, Nat.le_of_ble_eq_true rfl⟩ zk0 (by decide) rfl rfl rfl rfl (Nat.le_of_ble_eq_true rfl) dL_holds_344 ⟨(Nat.zero_le _), (Nat.zero_le _)⟩ (fun H locs hZ hS => ?_)
        refine lv_istore (lv' := [(8, .int (s_itm (μ (1 + (15 + j))) (μ 1) (z_home μ (μ (1 + (15 + j)))) 9)), (7, .int (s_itm (μ (1 + (15 + j))) (μ 1) (z_home μ (μ (1 + (15 + j)))) 7)), (0, .ref (G.1 + 0)), (1, .int (s_cls μ 8 T)), (2, .int (s_cls μ 9 T)), (3, .int (s_cls μ 10 T)), (4, .int (s_cls μ 11 T)), (5, .int (s_sts μ T)), (6, .int (nI j))]) hx hb dL_holds_347 hl (by decide) rfl (fun ls hl => ?_)
        refine lv_aload_n hx hb dL_holds_349 rfl (lv_at hl 2 rfl) ?_
        refine lv_iload hx hb dL_holds_350 (lv_at hl 8 rfl) ?_
        refine lv_bipush (v := 6) hx hb dL_holds_352 (by decide) ?_
        refine z_cVi (As := [.int (nI j), .int 6]) (rest := []) hx hb hml hown hts hl hK hZ hS (c_X6_item l G (zr μ 242 q) (μ 1) (zr_at rfl (by decide)) T I hT hI hT6 hI24 j ((μ (1 + (15 + j)) 0).toNatClampNeg) hjj hhh (μ (1 + (15 + j))) (zr_ne (by omega)) heh (z_home μ (μ (1 + (15 + j)))) (zr_ne (by omega)) 6 (by omega)) (z_G q390 q391 q392 q1 q393) hdX6_item ⟨Nat.le_of_ble_eq_true rfl, Nat.le_of_ble_eq_true rfl⟩ zk0 (by decide) rfl rfl rfl rfl (Nat.le_of_ble_eq_true rfl) dL_holds_354 ⟨(Nat.zero_le _), (Nat.zero_le _)⟩ (fun H locs hZ hS => ?_)
        refine lv_istore (lv' := [(9, .int (s_itm (μ (1 + (15 + j))) (μ 1) (z_home μ (μ (1 + (15 + j)))) 6)), (8, .int (s_itm (μ (1 + (15 + j))) (μ 1) (z_home μ (μ (1 + (15 + j)))) 9)), (7, .int (s_itm (μ (1 + (15 + j))) (μ 1) (z_home μ (μ (1 + (15 + j)))) 7)), (0, .ref (G.1 + 0)), (1, .int (s_cls μ 8 T)), (2, .int (s_cls μ 9 T)), (3, .int (s_cls μ 10 T)), (4, .int (s_cls μ 11 T)), (5, .int (s_sts μ T)), (6, .int (nI j))]) hx hb dL_holds_357 hl (by decide) rfl (fun ls hl => ?_)
        refine lv_aload_n hx hb dL_holds_359 rfl (lv_at hl 3 rfl) ?_
        refine lv_iload hx hb dL_holds_360 (lv_at hl 9 rfl) ?_
        refine z_cVf (As := [.int (nI j)]) (rest := []) hx hb hml hown hts hl hK hZ hS (c_X6_rest l G (zr μ 242 q) (μ 1) (zr_at rfl (by decide)) T I hT hI hT6 hI24 j ((μ (1 + (15 + j)) 0).toNatClampNeg) hjj hhh (μ (1 + (15 + j))) (zr_ne (by omega)) heh (z_home μ (μ (1 + (15 + j)))) (zr_ne (by omega))) (z_G q556 q557 q558 q1 q559) hdX6_rest ⟨Nat.le_of_ble_eq_true rfl, Nat.le_of_ble_eq_true rfl⟩ zk0 (by decide) rfl rfl rfl rfl (Nat.le_of_ble_eq_true rfl) dL_holds_362 ⟨(Nat.zero_le _), (Nat.zero_le _)⟩ (fun H locs hZ hS => ?_)
        refine lv_fstore (lv' := [(10, .float (s_X3_restAfter (μ (1 + (15 + j))) (s_X1_daysOf (μ 1) (z_home μ (μ (1 + (15 + j))))))), (9, .int (s_itm (μ (1 + (15 + j))) (μ 1) (z_home μ (μ (1 + (15 + j)))) 6)), (8, .int (s_itm (μ (1 + (15 + j))) (μ 1) (z_home μ (μ (1 + (15 + j)))) 9)), (7, .int (s_itm (μ (1 + (15 + j))) (μ 1) (z_home μ (μ (1 + (15 + j)))) 7)), (0, .ref (G.1 + 0)), (1, .int (s_cls μ 8 T)), (2, .int (s_cls μ 9 T)), (3, .int (s_cls μ 10 T)), (4, .int (s_cls μ 11 T)), (5, .int (s_sts μ T)), (6, .int (nI j))]) hx hb dL_holds_365 hl (by decide) rfl (fun ls hl => ?_)
        refine lv_aload_n hx hb dL_holds_367 rfl (lv_at hl 4 rfl) ?_
        refine lv_aload_n hx hb dL_holds_368 rfl (lv_at hl 4 rfl) ?_
        refine lv_iload hx hb dL_holds_369 (lv_at hl 10 rfl) ?_
        refine lv_iconst (v := 0) hx hb dL_holds_371 (by decide) ?_
        refine z_cVi (As := [.int (nI j), .int 0]) (rest := [.ref (G.1 + 0)]) hx hb hml hown hts hl hK hZ hS (c_X6_item l G (zr μ 242 q) (μ 1) (zr_at rfl (by decide)) T I hT hI hT6 hI24 j ((μ (1 + (15 + j)) 0).toNatClampNeg) hjj hhh (μ (1 + (15 + j))) (zr_ne (by omega)) heh (z_home μ (μ (1 + (15 + j)))) (zr_ne (by omega)) 0 (by omega)) (z_G q390 q391 q392 q1 q393) hdX6_item ⟨Nat.le_of_ble_eq_true rfl, Nat.le_of_ble_eq_true rfl⟩ zk0 (by decide) rfl rfl rfl rfl (Nat.le_of_ble_eq_true rfl) dL_holds_372 ⟨(Nat.zero_le _), (Nat.zero_le _)⟩ (fun H locs hZ hS => ?_)
        rw [show s_itm (μ (1 + (15 + j))) (μ 1) (z_home μ (μ (1 + (15 + j)))) 0 = nI ((μ (1 + (15 + j))) 0).toNatClampNeg from heh]
        refine lv_iconst (v := 2) hx hb dL_holds_375 (by decide) ?_
        refine z_cVi (As := [.int (nI ((μ (1 + (15 + j))) 0).toNatClampNeg), .int 2]) (rest := []) hx hb hml hown hts hl hK hZ hS (c_X6_tenancy l G (zr μ 242 q) (μ 1) (zr_at rfl (by decide)) T I hT hI hT6 hI24 (((μ (1 + (15 + j))) 0).toNatClampNeg) hhh ((zr μ 242 q) (1 + (3 + 2 * ((μ (1 + (15 + j))) 0).toNatClampNeg))) rfl hr8 2 (by omega)) (z_G q324 q325 q326 q1 q327) hdX6_tenancy ⟨Nat.le_of_ble_eq_true rfl, Nat.le_of_ble_eq_true rfl⟩ zk0 (by decide) rfl rfl rfl rfl (Nat.le_of_ble_eq_true rfl) dL_holds_376 ⟨(Nat.zero_le _), (Nat.zero_le _)⟩ (fun H locs hZ hS => ?_)
        rw [s_ten_cg (eqv_242 (T := T) hT6 hI24)]
        refine lv_if_ne (tgt := 386) hx hb dL_holds_379 (by decide) (fun c_12 => ?_) (fun c_12 => ?_)
        · refine lv_iconst (v := 0) hx hb dL_holds_386 (by decide) ?_
          refine lv_istore (lv' := [(11, .int 0), (10, .float (s_X3_restAfter (μ (1 + (15 + j))) (s_X1_daysOf (μ 1) (z_home μ (μ (1 + (15 + j))))))), (9, .int (s_itm (μ (1 + (15 + j))) (μ 1) (z_home μ (μ (1 + (15 + j)))) 6)), (8, .int (s_itm (μ (1 + (15 + j))) (μ 1) (z_home μ (μ (1 + (15 + j)))) 9)), (7, .int (s_itm (μ (1 + (15 + j))) (μ 1) (z_home μ (μ (1 + (15 + j)))) 7)), (0, .ref (G.1 + 0)), (1, .int (s_cls μ 8 T)), (2, .int (s_cls μ 9 T)), (3, .int (s_cls μ 10 T)), (4, .int (s_cls μ 11 T)), (5, .int (s_sts μ T)), (6, .int (nI j))]) hx hb dL_holds_387 hl (by decide) rfl (fun ls hl => ?_)
          refine lv_iload hx hb dL_holds_389 (lv_at hl 3 rfl) ?_
          refine lv_iload hx hb dL_holds_391 (lv_at hl 4 rfl) ?_
          refine lv_icmp_gt (tgt := 482) hx hb dL_holds_393 (by decide) (fun c_13 => ?_) (fun c_13 => ?_)
          · exact absurd c_13 hb1
          · refine lv_iload hx hb dL_holds_396 (lv_at hl 0 rfl) ?_
            refine lv_if_ne (tgt := 432) hx hb dL_holds_398 (by decide) (fun c_14 => ?_) (fun c_14 => ?_)
            · exact absurd rfl c_14
            · refine lv_iload hx hb dL_holds_401 (lv_at hl 3 rfl) ?_
              refine lv_iload hx hb dL_holds_403 (lv_at hl 4 rfl) ?_
              refine lv_iload hx hb dL_holds_405 (lv_at hl 2 rfl) ?_
              refine lv_icmp_ge (tgt := 415) hx hb dL_holds_407 (by decide) (fun c_15 => ?_) (fun c_15 => ?_)
              · refine lv_iload hx hb dL_holds_415 (lv_at hl 2 rfl) ?_
                refine lv_icmp_lt (tgt := 482) hx hb dL_holds_417 (by decide) (fun c_16 => ?_) (fun c_16 => ?_)
                · exact absurd c_16 ((hb2 (fun e => c_12 ((congrFun (zr_ne (show ¬ _ = 242 by omega)) 2).trans e))).1 c_15)
                · refine lv_iload hx hb dL_holds_420 (lv_at hl 2 rfl) ?_
                  refine lv_aload_n hx hb dL_holds_422 rfl (lv_at hl 5 rfl) ?_
                  refine lv_iload hx hb dL_holds_423 (lv_at hl 11 rfl) ?_
                  refine lv_iconst (v := 1) hx hb dL_holds_425 (by decide) ?_
                  refine z_cVi (As := [.int (nI j), .int 1]) (rest := [.int (s_itm (μ (1 + (15 + j))) (μ 1) (z_home μ (μ (1 + (15 + j)))) 6)]) hx hb hml hown hts hl hK hZ hS (c_X6_item l G (zr μ 242 q) (μ 1) (zr_at rfl (by decide)) T I hT hI hT6 hI24 j ((μ (1 + (15 + j)) 0).toNatClampNeg) hjj hhh (μ (1 + (15 + j))) (zr_ne (by omega)) heh (z_home μ (μ (1 + (15 + j)))) (zr_ne (by omega)) 1 (by omega)) (z_G q390 q391 q392 q1 q393) hdX6_item ⟨Nat.le_of_ble_eq_true rfl, Nat.le_of_ble_eq_true rfl⟩ zk0 (by decide) rfl rfl rfl rfl (Nat.le_of_ble_eq_true rfl) dL_holds_426 ⟨(Nat.zero_le _), (Nat.zero_le _)⟩ (fun H locs hZ hS => ?_)
                  refine lv_icmp_gt (tgt := 482) hx hb dL_holds_429 (by decide) (fun c_17 => ?_) (fun c_17 => ?_)
                  · exact absurd c_17 (hb2 (fun e => c_12 ((congrFun (zr_ne (show ¬ _ = 242 by omega)) 2).trans e))).2.2
                  · refine lv_fload hx hb dL_holds_432 (lv_at hl 1 rfl) ?_
                    refine lv_fconst0 hx hb dL_holds_434 ?_
                    refine lv_fcmp hx hb dL_holds_435 ?_
                    refine lv_if_lt (tgt := 482) hx hb dL_holds_436 (by decide) (fun c_18 => ?_) (fun c_18 => ?_)
                    · exact absurd c_18 hb3
                    · refine lv_fload hx hb dL_holds_439 (lv_at hl 1 rfl) ?_
                      refine lv_fconst1 hx hb dL_holds_441 ?_
                      refine lv_fcmp hx hb dL_holds_442 ?_
                      refine lv_if_gt (tgt := 482) hx hb dL_holds_443 (by decide) (fun c_19 => ?_) (fun c_19 => ?_)
                      · exact absurd c_19 hb4
                      · refine lv_aload_n hx hb dL_holds_446 rfl (lv_at hl 5 rfl) ?_
                        refine lv_iload hx hb dL_holds_447 (lv_at hl 11 rfl) ?_
                        refine lv_iconst (v := 3) hx hb dL_holds_449 (by decide) ?_
                        refine z_cVi (As := [.int (nI j), .int 3]) (rest := []) hx hb hml hown hts hl hK hZ hS (c_X6_item l G (zr μ 242 q) (μ 1) (zr_at rfl (by decide)) T I hT hI hT6 hI24 j ((μ (1 + (15 + j)) 0).toNatClampNeg) hjj hhh (μ (1 + (15 + j))) (zr_ne (by omega)) heh (z_home μ (μ (1 + (15 + j)))) (zr_ne (by omega)) 3 (by omega)) (z_G q390 q391 q392 q1 q393) hdX6_item ⟨Nat.le_of_ble_eq_true rfl, Nat.le_of_ble_eq_true rfl⟩ zk0 (by decide) rfl rfl rfl rfl (Nat.le_of_ble_eq_true rfl) dL_holds_450 ⟨(Nat.zero_le _), (Nat.zero_le _)⟩ (fun H locs hZ hS => ?_)
                        refine lv_aload_n hx hb dL_holds_453 rfl (lv_at hl 5 rfl) ?_
                        refine lv_iload hx hb dL_holds_454 (lv_at hl 11 rfl) ?_
                        refine lv_iconst (v := 2) hx hb dL_holds_456 (by decide) ?_
                        refine z_cVi (As := [.int (nI j), .int 2]) (rest := [.int (s_itm (μ (1 + (15 + j))) (μ 1) (z_home μ (μ (1 + (15 + j)))) 3)]) hx hb hml hown hts hl hK hZ hS (c_X6_item l G (zr μ 242 q) (μ 1) (zr_at rfl (by decide)) T I hT hI hT6 hI24 j ((μ (1 + (15 + j)) 0).toNatClampNeg) hjj hhh (μ (1 + (15 + j))) (zr_ne (by omega)) heh (z_home μ (μ (1 + (15 + j)))) (zr_ne (by omega)) 2 (by omega)) (z_G q390 q391 q392 q1 q393) hdX6_item ⟨Nat.le_of_ble_eq_true rfl, Nat.le_of_ble_eq_true rfl⟩ zk0 (by decide) rfl rfl rfl rfl (Nat.le_of_ble_eq_true rfl) dL_holds_457 ⟨(Nat.zero_le _), (Nat.zero_le _)⟩ (fun H locs hZ hS => ?_)
                        refine lv_icmp_gt (tgt := 482) hx hb dL_holds_460 (by decide) (fun c_20 => ?_) (fun c_20 => ?_)
                        · exact absurd c_20 hb5
                        · refine lv_aload_n hx hb dL_holds_463 rfl (lv_at hl 5 rfl) ?_
                          refine lv_iload hx hb dL_holds_464 (lv_at hl 11 rfl) ?_
                          refine lv_bipush (v := 8) hx hb dL_holds_466 (by decide) ?_
                          refine z_cVi (As := [.int (nI j), .int 8]) (rest := []) hx hb hml hown hts hl hK hZ hS (c_X6_item l G (zr μ 242 q) (μ 1) (zr_at rfl (by decide)) T I hT hI hT6 hI24 j ((μ (1 + (15 + j)) 0).toNatClampNeg) hjj hhh (μ (1 + (15 + j))) (zr_ne (by omega)) heh (z_home μ (μ (1 + (15 + j)))) (zr_ne (by omega)) 8 (by omega)) (z_G q390 q391 q392 q1 q393) hdX6_item ⟨Nat.le_of_ble_eq_true rfl, Nat.le_of_ble_eq_true rfl⟩ zk0 (by decide) rfl rfl rfl rfl (Nat.le_of_ble_eq_true rfl) dL_holds_468 ⟨(Nat.zero_le _), (Nat.zero_le _)⟩ (fun H locs hZ hS => ?_)
                          refine lv_iconst (v := 1) hx hb dL_holds_471 (by decide) ?_
                          refine lv_icmp_ne (tgt := 484) hx hb dL_holds_472 (by decide) (fun c_21 => ?_) (fun c_21 => ?_)
                          · refine lv_iinc (v := (nI (j + 1))) (lv' := [(6, .int (nI (j + 1))), (11, .int 0), (10, .float (s_X3_restAfter (μ (1 + (15 + j))) (s_X1_daysOf (μ 1) (z_home μ (μ (1 + (15 + j))))))), (9, .int (s_itm (μ (1 + (15 + j))) (μ 1) (z_home μ (μ (1 + (15 + j)))) 6)), (8, .int (s_itm (μ (1 + (15 + j))) (μ 1) (z_home μ (μ (1 + (15 + j)))) 9)), (7, .int (s_itm (μ (1 + (15 + j))) (μ 1) (z_home μ (μ (1 + (15 + j)))) 7)), (0, .ref (G.1 + 0)), (1, .int (s_cls μ 8 T)), (2, .int (s_cls μ 9 T)), (3, .int (s_cls μ 10 T)), (4, .int (s_cls μ 11 T)), (5, .int (s_sts μ T))]) hx hb dL_holds_484 hl (k := 11) rfl (nI_1 _) (by decide) rfl (fun ls hl => ?_)
                            refine lv_goto (tgt := 318) hx hb dL_holds_487 (by decide) ?_
                            exact ih (j + 1) (by omega) _ _ _ _ hZ hS (lv_sub hl [6, 7, 8, 9, 10, 11, 0] rfl)
                          · refine lv_iload hx hb dL_holds_475 (lv_at hl 3 rfl) ?_
                            refine lv_iload hx hb dL_holds_477 (lv_at hl 4 rfl) ?_
                            refine lv_icmp_eq (tgt := 484) hx hb dL_holds_479 (by decide) (fun c_22 => ?_) (fun c_22 => ?_)
                            · refine lv_iinc (v := (nI (j + 1))) (lv' := [(6, .int (nI (j + 1))), (11, .int 0), (10, .float (s_X3_restAfter (μ (1 + (15 + j))) (s_X1_daysOf (μ 1) (z_home μ (μ (1 + (15 + j))))))), (9, .int (s_itm (μ (1 + (15 + j))) (μ 1) (z_home μ (μ (1 + (15 + j)))) 6)), (8, .int (s_itm (μ (1 + (15 + j))) (μ 1) (z_home μ (μ (1 + (15 + j)))) 9)), (7, .int (s_itm (μ (1 + (15 + j))) (μ 1) (z_home μ (μ (1 + (15 + j)))) 7)), (0, .ref (G.1 + 0)), (1, .int (s_cls μ 8 T)), (2, .int (s_cls μ 9 T)), (3, .int (s_cls μ 10 T)), (4, .int (s_cls μ 11 T)), (5, .int (s_sts μ T))]) hx hb dL_holds_484 hl (k := 11) rfl (nI_1 _) (by decide) rfl (fun ls hl => ?_)
                              refine lv_goto (tgt := 318) hx hb dL_holds_487 (by decide) ?_
                              exact ih (j + 1) (by omega) _ _ _ _ hZ hS (lv_sub hl [6, 7, 8, 9, 10, 11, 0] rfl)
                            · exact absurd (hb6 c_21) c_22
              · refine lv_iload hx hb dL_holds_410 (lv_at hl 4 rfl) ?_
                refine lv_goto (tgt := 417) hx hb dL_holds_412 (by decide) ?_
                refine lv_icmp_lt (tgt := 482) hx hb dL_holds_417 (by decide) (fun c_23 => ?_) (fun c_23 => ?_)
                · exact absurd c_23 ((hb2 (fun e => c_12 ((congrFun (zr_ne (show ¬ _ = 242 by omega)) 2).trans e))).2.1 c_15)
                · refine lv_iload hx hb dL_holds_420 (lv_at hl 2 rfl) ?_
                  refine lv_aload_n hx hb dL_holds_422 rfl (lv_at hl 5 rfl) ?_
                  refine lv_iload hx hb dL_holds_423 (lv_at hl 11 rfl) ?_
                  refine lv_iconst (v := 1) hx hb dL_holds_425 (by decide) ?_
                  refine z_cVi (As := [.int (nI j), .int 1]) (rest := [.int (s_itm (μ (1 + (15 + j))) (μ 1) (z_home μ (μ (1 + (15 + j)))) 6)]) hx hb hml hown hts hl hK hZ hS (c_X6_item l G (zr μ 242 q) (μ 1) (zr_at rfl (by decide)) T I hT hI hT6 hI24 j ((μ (1 + (15 + j)) 0).toNatClampNeg) hjj hhh (μ (1 + (15 + j))) (zr_ne (by omega)) heh (z_home μ (μ (1 + (15 + j)))) (zr_ne (by omega)) 1 (by omega)) (z_G q390 q391 q392 q1 q393) hdX6_item ⟨Nat.le_of_ble_eq_true rfl, Nat.le_of_ble_eq_true rfl⟩ zk0 (by decide) rfl rfl rfl rfl (Nat.le_of_ble_eq_true rfl) dL_holds_426 ⟨(Nat.zero_le _), (Nat.zero_le _)⟩ (fun H locs hZ hS => ?_)
                  refine lv_icmp_gt (tgt := 482) hx hb dL_holds_429 (by decide) (fun c_24 => ?_) (fun c_24 => ?_)
                  · exact absurd c_24 (hb2 (fun e => c_12 ((congrFun (zr_ne (show ¬ _ = 242 by omega)) 2).trans e))).2.2
                  · refine lv_fload hx hb dL_holds_432 (lv_at hl 1 rfl) ?_
                    refine lv_fconst0 hx hb dL_holds_434 ?_
                    refine lv_fcmp hx hb dL_holds_435 ?_
                    refine lv_if_lt (tgt := 482) hx hb dL_holds_436 (by decide) (fun c_25 => ?_) (fun c_25 => ?_)
                    · exact absurd c_25 hb3
                    · refine lv_fload hx hb dL_holds_439 (lv_at hl 1 rfl) ?_
                      refine lv_fconst1 hx hb dL_holds_441 ?_
                      refine lv_fcmp hx hb dL_holds_442 ?_
                      refine lv_if_gt (tgt := 482) hx hb dL_holds_443 (by decide) (fun c_26 => ?_) (fun c_26 => ?_)
                      · exact absurd c_26 hb4
                      · refine lv_aload_n hx hb dL_holds_446 rfl (lv_at hl 5 rfl) ?_
                        refine lv_iload hx hb dL_holds_447 (lv_at hl 11 rfl) ?_
                        refine lv_iconst (v := 3) hx hb dL_holds_449 (by decide) ?_
                        refine z_cVi (As := [.int (nI j), .int 3]) (rest := []) hx hb hml hown hts hl hK hZ hS (c_X6_item l G (zr μ 242 q) (μ 1) (zr_at rfl (by decide)) T I hT hI hT6 hI24 j ((μ (1 + (15 + j)) 0).toNatClampNeg) hjj hhh (μ (1 + (15 + j))) (zr_ne (by omega)) heh (z_home μ (μ (1 + (15 + j)))) (zr_ne (by omega)) 3 (by omega)) (z_G q390 q391 q392 q1 q393) hdX6_item ⟨Nat.le_of_ble_eq_true rfl, Nat.le_of_ble_eq_true rfl⟩ zk0 (by decide) rfl rfl rfl rfl (Nat.le_of_ble_eq_true rfl) dL_holds_450 ⟨(Nat.zero_le _), (Nat.zero_le _)⟩ (fun H locs hZ hS => ?_)
                        refine lv_aload_n hx hb dL_holds_453 rfl (lv_at hl 5 rfl) ?_
                        refine lv_iload hx hb dL_holds_454 (lv_at hl 11 rfl) ?_
                        refine lv_iconst (v := 2) hx hb dL_holds_456 (by decide) ?_
                        refine z_cVi (As := [.int (nI j), .int 2]) (rest := [.int (s_itm (μ (1 + (15 + j))) (μ 1) (z_home μ (μ (1 + (15 + j)))) 3)]) hx hb hml hown hts hl hK hZ hS (c_X6_item l G (zr μ 242 q) (μ 1) (zr_at rfl (by decide)) T I hT hI hT6 hI24 j ((μ (1 + (15 + j)) 0).toNatClampNeg) hjj hhh (μ (1 + (15 + j))) (zr_ne (by omega)) heh (z_home μ (μ (1 + (15 + j)))) (zr_ne (by omega)) 2 (by omega)) (z_G q390 q391 q392 q1 q393) hdX6_item ⟨Nat.le_of_ble_eq_true rfl, Nat.le_of_ble_eq_true rfl⟩ zk0 (by decide) rfl rfl rfl rfl (Nat.le_of_ble_eq_true rfl) dL_holds_457 ⟨(Nat.zero_le _), (Nat.zero_le _)⟩ (fun H locs hZ hS => ?_)
                        refine lv_icmp_gt (tgt := 482) hx hb dL_holds_460 (by decide) (fun c_27 => ?_) (fun c_27 => ?_)
                        · exact absurd c_27 hb5
                        · refine lv_aload_n hx hb dL_holds_463 rfl (lv_at hl 5 rfl) ?_
                          refine lv_iload hx hb dL_holds_464 (lv_at hl 11 rfl) ?_
                          refine lv_bipush (v := 8) hx hb dL_holds_466 (by decide) ?_
                          refine z_cVi (As := [.int (nI j), .int 8]) (rest := []) hx hb hml hown hts hl hK hZ hS (c_X6_item l G (zr μ 242 q) (μ 1) (zr_at rfl (by decide)) T I hT hI hT6 hI24 j ((μ (1 + (15 + j)) 0).toNatClampNeg) hjj hhh (μ (1 + (15 + j))) (zr_ne (by omega)) heh (z_home μ (μ (1 + (15 + j)))) (zr_ne (by omega)) 8 (by omega)) (z_G q390 q391 q392 q1 q393) hdX6_item ⟨Nat.le_of_ble_eq_true rfl, Nat.le_of_ble_eq_true rfl⟩ zk0 (by decide) rfl rfl rfl rfl (Nat.le_of_ble_eq_true rfl) dL_holds_468 ⟨(Nat.zero_le _), (Nat.zero_le _)⟩ (fun H locs hZ hS => ?_)
                          refine lv_iconst (v := 1) hx hb dL_holds_471 (by decide) ?_
                          refine lv_icmp_ne (tgt := 484) hx hb dL_holds_472 (by decide) (fun c_28 => ?_) (fun c_28 => ?_)
                          · refine lv_iinc (v := (nI (j + 1))) (lv' := [(6, .int (nI (j + 1))), (11, .int 0), (10, .float (s_X3_restAfter (μ (1 + (15 + j))) (s_X1_daysOf (μ 1) (z_home μ (μ (1 + (15 + j))))))), (9, .int (s_itm (μ (1 + (15 + j))) (μ 1) (z_home μ (μ (1 + (15 + j)))) 6)), (8, .int (s_itm (μ (1 + (15 + j))) (μ 1) (z_home μ (μ (1 + (15 + j)))) 9)), (7, .int (s_itm (μ (1 + (15 + j))) (μ 1) (z_home μ (μ (1 + (15 + j)))) 7)), (0, .ref (G.1 + 0)), (1, .int (s_cls μ 8 T)), (2, .int (s_cls μ 9 T)), (3, .int (s_cls μ 10 T)), (4, .int (s_cls μ 11 T)), (5, .int (s_sts μ T))]) hx hb dL_holds_484 hl (k := 11) rfl (nI_1 _) (by decide) rfl (fun ls hl => ?_)
                            refine lv_goto (tgt := 318) hx hb dL_holds_487 (by decide) ?_
                            exact ih (j + 1) (by omega) _ _ _ _ hZ hS (lv_sub hl [6, 7, 8, 9, 10, 11, 0] rfl)
                          · refine lv_iload hx hb dL_holds_475 (lv_at hl 3 rfl) ?_
                            refine lv_iload hx hb dL_holds_477 (lv_at hl 4 rfl) ?_
                            refine lv_icmp_eq (tgt := 484) hx hb dL_holds_479 (by decide) (fun c_29 => ?_) (fun c_29 => ?_)
                            · refine lv_iinc (v := (nI (j + 1))) (lv' := [(6, .int (nI (j + 1))), (11, .int 0), (10, .float (s_X3_restAfter (μ (1 + (15 + j))) (s_X1_daysOf (μ 1) (z_home μ (μ (1 + (15 + j))))))), (9, .int (s_itm (μ (1 + (15 + j))) (μ 1) (z_home μ (μ (1 + (15 + j)))) 6)), (8, .int (s_itm (μ (1 + (15 + j))) (μ 1) (z_home μ (μ (1 + (15 + j)))) 9)), (7, .int (s_itm (μ (1 + (15 + j))) (μ 1) (z_home μ (μ (1 + (15 + j)))) 7)), (0, .ref (G.1 + 0)), (1, .int (s_cls μ 8 T)), (2, .int (s_cls μ 9 T)), (3, .int (s_cls μ 10 T)), (4, .int (s_cls μ 11 T)), (5, .int (s_sts μ T))]) hx hb dL_holds_484 hl (k := 11) rfl (nI_1 _) (by decide) rfl (fun ls hl => ?_)
                              refine lv_goto (tgt := 318) hx hb dL_holds_487 (by decide) ?_
                              exact ih (j + 1) (by omega) _ _ _ _ hZ hS (lv_sub hl [6, 7, 8, 9, 10, 11, 0] rfl)
                            · exact absurd (hb6 c_28) c_29
        · refine lv_iconst (v := 1) hx hb dL_holds_382 (by decide) ?_
          refine lv_goto (tgt := 387) hx hb dL_holds_383 (by decide) ?_
          refine lv_istore (lv' := [(11, .int 1), (10, .float (s_X3_restAfter (μ (1 + (15 + j))) (s_X1_daysOf (μ 1) (z_home μ (μ (1 + (15 + j))))))), (9, .int (s_itm (μ (1 + (15 + j))) (μ 1) (z_home μ (μ (1 + (15 + j)))) 6)), (8, .int (s_itm (μ (1 + (15 + j))) (μ 1) (z_home μ (μ (1 + (15 + j)))) 9)), (7, .int (s_itm (μ (1 + (15 + j))) (μ 1) (z_home μ (μ (1 + (15 + j)))) 7)), (0, .ref (G.1 + 0)), (1, .int (s_cls μ 8 T)), (2, .int (s_cls μ 9 T)), (3, .int (s_cls μ 10 T)), (4, .int (s_cls μ 11 T)), (5, .int (s_sts μ T)), (6, .int (nI j))]) hx hb dL_holds_387 hl (by decide) rfl (fun ls hl => ?_)
          refine lv_iload hx hb dL_holds_389 (lv_at hl 3 rfl) ?_
          refine lv_iload hx hb dL_holds_391 (lv_at hl 4 rfl) ?_
          refine lv_icmp_gt (tgt := 482) hx hb dL_holds_393 (by decide) (fun c_30 => ?_) (fun c_30 => ?_)
          · exact absurd c_30 hb1
          · refine lv_iload hx hb dL_holds_396 (lv_at hl 0 rfl) ?_
            refine lv_if_ne (tgt := 432) hx hb dL_holds_398 (by decide) (fun c_31 => ?_) (fun c_31 => ?_)
            · refine lv_fload hx hb dL_holds_432 (lv_at hl 1 rfl) ?_
              refine lv_fconst0 hx hb dL_holds_434 ?_
              refine lv_fcmp hx hb dL_holds_435 ?_
              refine lv_if_lt (tgt := 482) hx hb dL_holds_436 (by decide) (fun c_32 => ?_) (fun c_32 => ?_)
              · exact absurd c_32 hb3
              · refine lv_fload hx hb dL_holds_439 (lv_at hl 1 rfl) ?_
                refine lv_fconst1 hx hb dL_holds_441 ?_
                refine lv_fcmp hx hb dL_holds_442 ?_
                refine lv_if_gt (tgt := 482) hx hb dL_holds_443 (by decide) (fun c_33 => ?_) (fun c_33 => ?_)
                · exact absurd c_33 hb4
                · refine lv_aload_n hx hb dL_holds_446 rfl (lv_at hl 5 rfl) ?_
                  refine lv_iload hx hb dL_holds_447 (lv_at hl 11 rfl) ?_
                  refine lv_iconst (v := 3) hx hb dL_holds_449 (by decide) ?_
                  refine z_cVi (As := [.int (nI j), .int 3]) (rest := []) hx hb hml hown hts hl hK hZ hS (c_X6_item l G (zr μ 242 q) (μ 1) (zr_at rfl (by decide)) T I hT hI hT6 hI24 j ((μ (1 + (15 + j)) 0).toNatClampNeg) hjj hhh (μ (1 + (15 + j))) (zr_ne (by omega)) heh (z_home μ (μ (1 + (15 + j)))) (zr_ne (by omega)) 3 (by omega)) (z_G q390 q391 q392 q1 q393) hdX6_item ⟨Nat.le_of_ble_eq_true rfl, Nat.le_of_ble_eq_true rfl⟩ zk0 (by decide) rfl rfl rfl rfl (Nat.le_of_ble_eq_true rfl) dL_holds_450 ⟨(Nat.zero_le _), (Nat.zero_le _)⟩ (fun H locs hZ hS => ?_)
                  refine lv_aload_n hx hb dL_holds_453 rfl (lv_at hl 5 rfl) ?_
                  refine lv_iload hx hb dL_holds_454 (lv_at hl 11 rfl) ?_
                  refine lv_iconst (v := 2) hx hb dL_holds_456 (by decide) ?_
                  refine z_cVi (As := [.int (nI j), .int 2]) (rest := [.int (s_itm (μ (1 + (15 + j))) (μ 1) (z_home μ (μ (1 + (15 + j)))) 3)]) hx hb hml hown hts hl hK hZ hS (c_X6_item l G (zr μ 242 q) (μ 1) (zr_at rfl (by decide)) T I hT hI hT6 hI24 j ((μ (1 + (15 + j)) 0).toNatClampNeg) hjj hhh (μ (1 + (15 + j))) (zr_ne (by omega)) heh (z_home μ (μ (1 + (15 + j)))) (zr_ne (by omega)) 2 (by omega)) (z_G q390 q391 q392 q1 q393) hdX6_item ⟨Nat.le_of_ble_eq_true rfl, Nat.le_of_ble_eq_true rfl⟩ zk0 (by decide) rfl rfl rfl rfl (Nat.le_of_ble_eq_true rfl) dL_holds_457 ⟨(Nat.zero_le _), (Nat.zero_le _)⟩ (fun H locs hZ hS => ?_)
                  refine lv_icmp_gt (tgt := 482) hx hb dL_holds_460 (by decide) (fun c_34 => ?_) (fun c_34 => ?_)
                  · exact absurd c_34 hb5
                  · refine lv_aload_n hx hb dL_holds_463 rfl (lv_at hl 5 rfl) ?_
                    refine lv_iload hx hb dL_holds_464 (lv_at hl 11 rfl) ?_
                    refine lv_bipush (v := 8) hx hb dL_holds_466 (by decide) ?_
                    refine z_cVi (As := [.int (nI j), .int 8]) (rest := []) hx hb hml hown hts hl hK hZ hS (c_X6_item l G (zr μ 242 q) (μ 1) (zr_at rfl (by decide)) T I hT hI hT6 hI24 j ((μ (1 + (15 + j)) 0).toNatClampNeg) hjj hhh (μ (1 + (15 + j))) (zr_ne (by omega)) heh (z_home μ (μ (1 + (15 + j)))) (zr_ne (by omega)) 8 (by omega)) (z_G q390 q391 q392 q1 q393) hdX6_item ⟨Nat.le_of_ble_eq_true rfl, Nat.le_of_ble_eq_true rfl⟩ zk0 (by decide) rfl rfl rfl rfl (Nat.le_of_ble_eq_true rfl) dL_holds_468 ⟨(Nat.zero_le _), (Nat.zero_le _)⟩ (fun H locs hZ hS => ?_)
                    refine lv_iconst (v := 1) hx hb dL_holds_471 (by decide) ?_
                    refine lv_icmp_ne (tgt := 484) hx hb dL_holds_472 (by decide) (fun c_35 => ?_) (fun c_35 => ?_)
                    · refine lv_iinc (v := (nI (j + 1))) (lv' := [(6, .int (nI (j + 1))), (11, .int 1), (10, .float (s_X3_restAfter (μ (1 + (15 + j))) (s_X1_daysOf (μ 1) (z_home μ (μ (1 + (15 + j))))))), (9, .int (s_itm (μ (1 + (15 + j))) (μ 1) (z_home μ (μ (1 + (15 + j)))) 6)), (8, .int (s_itm (μ (1 + (15 + j))) (μ 1) (z_home μ (μ (1 + (15 + j)))) 9)), (7, .int (s_itm (μ (1 + (15 + j))) (μ 1) (z_home μ (μ (1 + (15 + j)))) 7)), (0, .ref (G.1 + 0)), (1, .int (s_cls μ 8 T)), (2, .int (s_cls μ 9 T)), (3, .int (s_cls μ 10 T)), (4, .int (s_cls μ 11 T)), (5, .int (s_sts μ T))]) hx hb dL_holds_484 hl (k := 11) rfl (nI_1 _) (by decide) rfl (fun ls hl => ?_)
                      refine lv_goto (tgt := 318) hx hb dL_holds_487 (by decide) ?_
                      exact ih (j + 1) (by omega) _ _ _ _ hZ hS (lv_sub hl [6, 7, 8, 9, 10, 11, 0] rfl)
                    · refine lv_iload hx hb dL_holds_475 (lv_at hl 3 rfl) ?_
                      refine lv_iload hx hb dL_holds_477 (lv_at hl 4 rfl) ?_
                      refine lv_icmp_eq (tgt := 484) hx hb dL_holds_479 (by decide) (fun c_36 => ?_) (fun c_36 => ?_)
                      · refine lv_iinc (v := (nI (j + 1))) (lv' := [(6, .int (nI (j + 1))), (11, .int 1), (10, .float (s_X3_restAfter (μ (1 + (15 + j))) (s_X1_daysOf (μ 1) (z_home μ (μ (1 + (15 + j))))))), (9, .int (s_itm (μ (1 + (15 + j))) (μ 1) (z_home μ (μ (1 + (15 + j)))) 6)), (8, .int (s_itm (μ (1 + (15 + j))) (μ 1) (z_home μ (μ (1 + (15 + j)))) 9)), (7, .int (s_itm (μ (1 + (15 + j))) (μ 1) (z_home μ (μ (1 + (15 + j)))) 7)), (0, .ref (G.1 + 0)), (1, .int (s_cls μ 8 T)), (2, .int (s_cls μ 9 T)), (3, .int (s_cls μ 10 T)), (4, .int (s_cls μ 11 T)), (5, .int (s_sts μ T))]) hx hb dL_holds_484 hl (k := 11) rfl (nI_1 _) (by decide) rfl (fun ls hl => ?_)
                        refine lv_goto (tgt := 318) hx hb dL_holds_487 (by decide) ?_
                        exact ih (j + 1) (by omega) _ _ _ _ hZ hS (lv_sub hl [6, 7, 8, 9, 10, 11, 0] rfl)
                      · exact absurd (hb6 c_35) c_36
            · exact absurd c_31 (by decide)
  have tens : ∀ (k t : Nat), t + k = T → (∀ (q : Nat → Int32) (H : Heap) (locs : List Loc) (ls : Array Slot), zW G (zr μ 242 q) H → va_S (zA G) s.heap H locs → lv_has ls 12 [(0, .ref (G.1 + 0)), (1, .int (s_cls μ 8 t)), (2, .int (s_cls μ 9 t)), (3, .int (s_cls μ 10 t)), (4, .int (s_cls μ 11 t)), (5, .int (s_sts μ t)), (6, .int (nI t))] → W p l e { frames := 6, cells := 0, slots := 0, locals := 138 } s m args below meth c H locs 0 0 (MQ below (zQiP G 1 (P242 μ)) args s 0 0 (zA G)) (F0 m 15 ls [])) := by
    intro k
    induction k with
    | zero =>
      intro t hv q H locs ls hZ hS hl
      have hv : T = t := by omega
      subst hv
      refine lv_iload hx hb dL_holds_15 (lv_at hl 6 rfl) ?_
      refine lv_aload_n hx hb dL_holds_17 rfl (lv_at hl 0 rfl) ?_
      refine lv_iconst (v := 1) hx hb dL_holds_18 (by decide) ?_
      refine z_cVi (As := [.int 1]) (rest := [.int (nI T)]) hx hb hml hown hts hl hK hZ hS (L_cntT l G (zr μ 242 q) (μ 1) hh (zr_at rfl (by decide)) (zr_at hfh (by decide)) T I o z hT hI hT6 hI24 ho hz ho4 hz4) (z_G q294 q295 q296 q1 q297) hdX6_count ⟨Nat.le_of_ble_eq_true rfl, Nat.le_of_ble_eq_true rfl⟩ zk0 (by decide) rfl rfl rfl rfl (Nat.le_of_ble_eq_true rfl) dL_holds_19 ⟨(Nat.zero_le _), (Nat.zero_le _)⟩ (fun H locs hZ hS => ?_)
      refine lv_icmp_ge (tgt := 315) hx hb dL_holds_22 (by decide) (fun c_50 => ?_) (fun c_50 => ?_)
      · refine lv_iconst (v := 0) hx hb dL_holds_315 (by decide) ?_
        refine lv_istore (lv' := [(6, .int 0), (0, .ref (G.1 + 0)), (1, .int (s_cls μ 8 T)), (2, .int (s_cls μ 9 T)), (3, .int (s_cls μ 10 T)), (4, .int (s_cls μ 11 T)), (5, .int (s_sts μ T))]) hx hb dL_holds_316 hl (by decide) rfl (fun ls hl => ?_)
        exact itms I 0 (by omega) _ _ _ _ hZ hS (lv_sub hl [1, 2, 3, 4, 5, 6, 0] rfl)
      · exact absurd (show nI T ≤ nI T from nI_le (Nat.le_refl _) (by omega)) c_50
    | succ k ih =>
      intro t hv q H locs ls hZ hS hl
      have htt : t < T := by omega
      have j219 : (∀ (q : Nat → Int32) (H : Heap) (locs : List Loc) (ls : Array Slot), zW G (zr μ 242 q) H → va_S (zA G) s.heap H locs → lv_has ls 12 [(0, .ref (G.1 + 0)), (1, .int (s_cls μ 8 t)), (2, .int (s_cls μ 9 t)), (3, .int (s_cls μ 10 t)), (4, .int (s_cls μ 11 t)), (5, .int (s_sts μ (t + 1))), (6, .int (nI t)), (7, .int (s_ten μ (μ 1) (μ (1 + (3 + 2 * t))) t I 2))] → W p l e { frames := 6, cells := 0, slots := 0, locals := 138 } s m args below meth c H locs 0 0 (MQ below (zQiP G 1 (P242 μ)) args s 0 0 (zA G)) (F0 m 219 ls [])) := by
        intro q H locs ls hZ hS hl
        refine lv_iload_n hx hb dL_holds_219 rfl (lv_at hl 1 rfl) ?_
        refine lv_iload hx hb dL_holds_220 (lv_at hl 7 rfl) ?_
        refine lv_iconst (v := 3) hx hb dL_holds_222 (by decide) ?_
        refine lv_icmp_ne (tgt := 236) hx hb dL_holds_223 (by decide) (fun c_37 => ?_) (fun c_37 => ?_)
        · refine lv_iconst (v := 0) hx hb dL_holds_236 (by decide) ?_
          refine lv_iadd hx hb dL_holds_237 ?_
          refine lv_istore_n (lv' := [(1, .int ((s_cls μ 8 t) + 0)), (0, .ref (G.1 + 0)), (2, .int (s_cls μ 9 t)), (3, .int (s_cls μ 10 t)), (4, .int (s_cls μ 11 t)), (5, .int (s_sts μ (t + 1))), (6, .int (nI t)), (7, .int (s_ten μ (μ 1) (μ (1 + (3 + 2 * t))) t I 2))]) hx hb dL_holds_238 rfl hl (by decide) rfl (fun ls hl => ?_)
          refine lv_iload_n hx hb dL_holds_239 rfl (lv_at hl 2 rfl) ?_
          refine lv_iload hx hb dL_holds_240 (lv_at hl 7 rfl) ?_
          refine lv_iconst (v := 3) hx hb dL_holds_242 (by decide) ?_
          refine lv_icmp_ne (tgt := 256) hx hb dL_holds_243 (by decide) (fun c_38 => ?_) (fun c_38 => ?_)
          · refine lv_iconst (v := 0) hx hb dL_holds_256 (by decide) ?_
            refine lv_iadd hx hb dL_holds_257 ?_
            refine lv_istore_n (lv' := [(2, .int ((s_cls μ 9 t) + 0)), (1, .int ((s_cls μ 8 t) + 0)), (0, .ref (G.1 + 0)), (3, .int (s_cls μ 10 t)), (4, .int (s_cls μ 11 t)), (5, .int (s_sts μ (t + 1))), (6, .int (nI t)), (7, .int (s_ten μ (μ 1) (μ (1 + (3 + 2 * t))) t I 2))]) hx hb dL_holds_258 rfl hl (by decide) rfl (fun ls hl => ?_)
            refine lv_iload_n hx hb dL_holds_259 rfl (lv_at hl 3 rfl) ?_
            refine lv_iload hx hb dL_holds_260 (lv_at hl 7 rfl) ?_
            refine lv_iconst (v := 3) hx hb dL_holds_262 (by decide) ?_
            refine lv_icmp_ne (tgt := 284) hx hb dL_holds_263 (by decide) (fun c_39 => ?_) (fun c_39 => ?_)
            · refine lv_iconst (v := 0) hx hb dL_holds_284 (by decide) ?_
              refine lv_iadd hx hb dL_holds_285 ?_
              refine lv_istore_n (lv' := [(3, .int ((s_cls μ 10 t) + 0)), (2, .int ((s_cls μ 9 t) + 0)), (1, .int ((s_cls μ 8 t) + 0)), (0, .ref (G.1 + 0)), (4, .int (s_cls μ 11 t)), (5, .int (s_sts μ (t + 1))), (6, .int (nI t)), (7, .int (s_ten μ (μ 1) (μ (1 + (3 + 2 * t))) t I 2))]) hx hb dL_holds_286 rfl hl (by decide) rfl (fun ls hl => ?_)
              refine lv_iload hx hb dL_holds_287 (lv_at hl 4 rfl) ?_
              refine lv_iload hx hb dL_holds_289 (lv_at hl 7 rfl) ?_
              refine lv_iconst (v := 3) hx hb dL_holds_291 (by decide) ?_
              refine lv_icmp_ne (tgt := 305) hx hb dL_holds_292 (by decide) (fun c_40 => ?_) (fun c_40 => ?_)
              · refine lv_iconst (v := 0) hx hb dL_holds_305 (by decide) ?_
                refine lv_iadd hx hb dL_holds_306 ?_
                refine lv_istore (lv' := [(4, .int ((s_cls μ 11 t) + 0)), (3, .int ((s_cls μ 10 t) + 0)), (2, .int ((s_cls μ 9 t) + 0)), (1, .int ((s_cls μ 8 t) + 0)), (0, .ref (G.1 + 0)), (5, .int (s_sts μ (t + 1))), (6, .int (nI t)), (7, .int (s_ten μ (μ 1) (μ (1 + (3 + 2 * t))) t I 2))]) hx hb dL_holds_307 hl (by decide) rfl (fun ls hl => ?_)
                refine lv_iinc (v := (nI (t + 1))) (lv' := [(6, .int (nI (t + 1))), (4, .int ((s_cls μ 11 t) + 0)), (3, .int ((s_cls μ 10 t) + 0)), (2, .int ((s_cls μ 9 t) + 0)), (1, .int ((s_cls μ 8 t) + 0)), (0, .ref (G.1 + 0)), (5, .int (s_sts μ (t + 1))), (7, .int (s_ten μ (μ 1) (μ (1 + (3 + 2 * t))) t I 2))]) hx hb dL_holds_309 hl (k := 6) rfl (nI_1 _) (by decide) rfl (fun ls hl => ?_)
                refine lv_goto (tgt := 15) hx hb dL_holds_312 (by decide) ?_
                rw [cls_out (w := 8) c_40, cls_out (w := 9) c_40, cls_out (w := 10) c_40, cls_out (w := 11) c_40] at hl
                exact ih (t + 1) (by omega) _ _ _ _ hZ hS (lv_sub hl [5, 4, 3, 2, 1, 6, 0] rfl)
              · exact absurd c_40 c_39
            · exact absurd c_39 c_38
          · exact absurd c_38 c_37
        · refine lv_aload_n hx hb dL_holds_226 rfl (lv_at hl 0 rfl) ?_
          refine lv_iload hx hb dL_holds_227 (lv_at hl 6 rfl) ?_
          refine lv_iconst (v := 0) hx hb dL_holds_229 (by decide) ?_
          refine z_cVi (As := [.int (nI t), .int 0]) (rest := [.int (s_cls μ 8 t)]) hx hb hml hown hts hl hK hZ hS (c_X6_outcome l G (zr μ 242 q) (μ 1) (zr_at rfl (by decide)) T I hT hI hT6 hI24 t htt (μ (1 + (3 + 2 * t))) (zr_ne (by omega)) (μ (1 + (3 + 2 * t) + 1)) (zr_ne (by omega)) hr8 0 (by omega)) (z_G q354 q355 q356 q1 q357) hdX6_outcome ⟨Nat.le_of_ble_eq_true rfl, Nat.le_of_ble_eq_true rfl⟩ zk0 (by decide) rfl rfl rfl rfl (Nat.le_of_ble_eq_true rfl) dL_holds_230 ⟨(Nat.zero_le _), (Nat.zero_le _)⟩ (fun H locs hZ hS => ?_)
          obtain ⟨q, hq2⟩ := m_oc_242 (μ := μ) (fb := μ 1) (g := (μ (1 + (3 + 2 * t)))) (t := t) (I := I) q
          rw [hq2] at hZ
          rw [s_oc_cg (eqv_242 (T := T) hT6 hI24)]
          refine lv_goto (tgt := 237) hx hb dL_holds_233 (by decide) ?_
          refine lv_iadd hx hb dL_holds_237 ?_
          refine lv_istore_n (lv' := [(1, .int ((s_cls μ 8 t) + (s_oc μ (μ 1) (μ (1 + (3 + 2 * t))) (μ (1 + (3 + 2 * t) + 1)) t I 0))), (0, .ref (G.1 + 0)), (2, .int (s_cls μ 9 t)), (3, .int (s_cls μ 10 t)), (4, .int (s_cls μ 11 t)), (5, .int (s_sts μ (t + 1))), (6, .int (nI t)), (7, .int (s_ten μ (μ 1) (μ (1 + (3 + 2 * t))) t I 2))]) hx hb dL_holds_238 rfl hl (by decide) rfl (fun ls hl => ?_)
          refine lv_iload_n hx hb dL_holds_239 rfl (lv_at hl 2 rfl) ?_
          refine lv_iload hx hb dL_holds_240 (lv_at hl 7 rfl) ?_
          refine lv_iconst (v := 3) hx hb dL_holds_242 (by decide) ?_
          refine lv_icmp_ne (tgt := 256) hx hb dL_holds_243 (by decide) (fun c_41 => ?_) (fun c_41 => ?_)
          · exact absurd c_37 c_41
          · refine lv_aload_n hx hb dL_holds_246 rfl (lv_at hl 1 rfl) ?_
            refine lv_iload hx hb dL_holds_247 (lv_at hl 6 rfl) ?_
            refine lv_iconst (v := 1) hx hb dL_holds_249 (by decide) ?_
            refine z_cVi (As := [.int (nI t), .int 1]) (rest := [.int (s_cls μ 9 t)]) hx hb hml hown hts hl hK hZ hS (c_X6_outcome l G (zr μ 242 q) (μ 1) (zr_at rfl (by decide)) T I hT hI hT6 hI24 t htt (μ (1 + (3 + 2 * t))) (zr_ne (by omega)) (μ (1 + (3 + 2 * t) + 1)) (zr_ne (by omega)) hr8 1 (by omega)) (z_G q354 q355 q356 q1 q357) hdX6_outcome ⟨Nat.le_of_ble_eq_true rfl, Nat.le_of_ble_eq_true rfl⟩ zk0 (by decide) rfl rfl rfl rfl (Nat.le_of_ble_eq_true rfl) dL_holds_250 ⟨(Nat.zero_le _), (Nat.zero_le _)⟩ (fun H locs hZ hS => ?_)
            obtain ⟨q, hq2⟩ := m_oc_242 (μ := μ) (fb := μ 1) (g := (μ (1 + (3 + 2 * t)))) (t := t) (I := I) q
            rw [hq2] at hZ
            rw [s_oc_cg (eqv_242 (T := T) hT6 hI24)]
            refine lv_goto (tgt := 257) hx hb dL_holds_253 (by decide) ?_
            refine lv_iadd hx hb dL_holds_257 ?_
            refine lv_istore_n (lv' := [(2, .int ((s_cls μ 9 t) + (s_oc μ (μ 1) (μ (1 + (3 + 2 * t))) (μ (1 + (3 + 2 * t) + 1)) t I 1))), (1, .int ((s_cls μ 8 t) + (s_oc μ (μ 1) (μ (1 + (3 + 2 * t))) (μ (1 + (3 + 2 * t) + 1)) t I 0))), (0, .ref (G.1 + 0)), (3, .int (s_cls μ 10 t)), (4, .int (s_cls μ 11 t)), (5, .int (s_sts μ (t + 1))), (6, .int (nI t)), (7, .int (s_ten μ (μ 1) (μ (1 + (3 + 2 * t))) t I 2))]) hx hb dL_holds_258 rfl hl (by decide) rfl (fun ls hl => ?_)
            refine lv_iload_n hx hb dL_holds_259 rfl (lv_at hl 3 rfl) ?_
            refine lv_iload hx hb dL_holds_260 (lv_at hl 7 rfl) ?_
            refine lv_iconst (v := 3) hx hb dL_holds_262 (by decide) ?_
            refine lv_icmp_ne (tgt := 284) hx hb dL_holds_263 (by decide) (fun c_42 => ?_) (fun c_42 => ?_)
            · exact absurd c_41 c_42
            · refine lv_aload_n hx hb dL_holds_266 rfl (lv_at hl 2 rfl) ?_
              refine lv_iload hx hb dL_holds_267 (lv_at hl 6 rfl) ?_
              refine lv_iconst (v := 2) hx hb dL_holds_269 (by decide) ?_
              refine z_cVi (As := [.int (nI t), .int 2]) (rest := [.int (s_cls μ 10 t)]) hx hb hml hown hts hl hK hZ hS (c_X6_outcome l G (zr μ 242 q) (μ 1) (zr_at rfl (by decide)) T I hT hI hT6 hI24 t htt (μ (1 + (3 + 2 * t))) (zr_ne (by omega)) (μ (1 + (3 + 2 * t) + 1)) (zr_ne (by omega)) hr8 2 (by omega)) (z_G q354 q355 q356 q1 q357) hdX6_outcome ⟨Nat.le_of_ble_eq_true rfl, Nat.le_of_ble_eq_true rfl⟩ zk0 (by decide) rfl rfl rfl rfl (Nat.le_of_ble_eq_true rfl) dL_holds_270 ⟨(Nat.zero_le _), (Nat.zero_le _)⟩ (fun H locs hZ hS => ?_)
              obtain ⟨q, hq2⟩ := m_oc_242 (μ := μ) (fb := μ 1) (g := (μ (1 + (3 + 2 * t)))) (t := t) (I := I) q
              rw [hq2] at hZ
              rw [s_oc_cg (eqv_242 (T := T) hT6 hI24)]
              refine lv_aload_n hx hb dL_holds_273 rfl (lv_at hl 2 rfl) ?_
              refine lv_iload hx hb dL_holds_274 (lv_at hl 6 rfl) ?_
              refine lv_iconst (v := 3) hx hb dL_holds_276 (by decide) ?_
              refine z_cVi (As := [.int (nI t), .int 3]) (rest := [.int (s_oc μ (μ 1) (μ (1 + (3 + 2 * t))) (μ (1 + (3 + 2 * t) + 1)) t I 2), .int (s_cls μ 10 t)]) hx hb hml hown hts hl hK hZ hS (c_X6_outcome l G (zr μ 242 q) (μ 1) (zr_at rfl (by decide)) T I hT hI hT6 hI24 t htt (μ (1 + (3 + 2 * t))) (zr_ne (by omega)) (μ (1 + (3 + 2 * t) + 1)) (zr_ne (by omega)) hr8 3 (by omega)) (z_G q354 q355 q356 q1 q357) hdX6_outcome ⟨Nat.le_of_ble_eq_true rfl, Nat.le_of_ble_eq_true rfl⟩ zk0 (by decide) rfl rfl rfl rfl (Nat.le_of_ble_eq_true rfl) dL_holds_277 ⟨(Nat.zero_le _), (Nat.zero_le _)⟩ (fun H locs hZ hS => ?_)
              obtain ⟨q, hq2⟩ := m_oc_242 (μ := μ) (fb := μ 1) (g := (μ (1 + (3 + 2 * t)))) (t := t) (I := I) q
              rw [hq2] at hZ
              rw [s_oc_cg (eqv_242 (T := T) hT6 hI24)]
              refine lv_iadd hx hb dL_holds_280 ?_
              refine lv_goto (tgt := 285) hx hb dL_holds_281 (by decide) ?_
              refine lv_iadd hx hb dL_holds_285 ?_
              refine lv_istore_n (lv' := [(3, .int ((s_cls μ 10 t) + ((s_oc μ (μ 1) (μ (1 + (3 + 2 * t))) (μ (1 + (3 + 2 * t) + 1)) t I 2) + (s_oc μ (μ 1) (μ (1 + (3 + 2 * t))) (μ (1 + (3 + 2 * t) + 1)) t I 3)))), (2, .int ((s_cls μ 9 t) + (s_oc μ (μ 1) (μ (1 + (3 + 2 * t))) (μ (1 + (3 + 2 * t) + 1)) t I 1))), (1, .int ((s_cls μ 8 t) + (s_oc μ (μ 1) (μ (1 + (3 + 2 * t))) (μ (1 + (3 + 2 * t) + 1)) t I 0))), (0, .ref (G.1 + 0)), (4, .int (s_cls μ 11 t)), (5, .int (s_sts μ (t + 1))), (6, .int (nI t)), (7, .int (s_ten μ (μ 1) (μ (1 + (3 + 2 * t))) t I 2))]) hx hb dL_holds_286 rfl hl (by decide) rfl (fun ls hl => ?_)
              refine lv_iload hx hb dL_holds_287 (lv_at hl 4 rfl) ?_
              refine lv_iload hx hb dL_holds_289 (lv_at hl 7 rfl) ?_
              refine lv_iconst (v := 3) hx hb dL_holds_291 (by decide) ?_
              refine lv_icmp_ne (tgt := 305) hx hb dL_holds_292 (by decide) (fun c_43 => ?_) (fun c_43 => ?_)
              · exact absurd c_42 c_43
              · refine lv_aload_n hx hb dL_holds_295 rfl (lv_at hl 3 rfl) ?_
                refine lv_iload hx hb dL_holds_296 (lv_at hl 6 rfl) ?_
                refine lv_iconst (v := 4) hx hb dL_holds_298 (by decide) ?_
                refine z_cVi (As := [.int (nI t), .int 4]) (rest := [.int (s_cls μ 11 t)]) hx hb hml hown hts hl hK hZ hS (c_X6_outcome l G (zr μ 242 q) (μ 1) (zr_at rfl (by decide)) T I hT hI hT6 hI24 t htt (μ (1 + (3 + 2 * t))) (zr_ne (by omega)) (μ (1 + (3 + 2 * t) + 1)) (zr_ne (by omega)) hr8 4 (by omega)) (z_G q354 q355 q356 q1 q357) hdX6_outcome ⟨Nat.le_of_ble_eq_true rfl, Nat.le_of_ble_eq_true rfl⟩ zk0 (by decide) rfl rfl rfl rfl (Nat.le_of_ble_eq_true rfl) dL_holds_299 ⟨(Nat.zero_le _), (Nat.zero_le _)⟩ (fun H locs hZ hS => ?_)
                obtain ⟨q, hq2⟩ := m_oc_242 (μ := μ) (fb := μ 1) (g := (μ (1 + (3 + 2 * t)))) (t := t) (I := I) q
                rw [hq2] at hZ
                rw [s_oc_cg (eqv_242 (T := T) hT6 hI24)]
                refine lv_goto (tgt := 306) hx hb dL_holds_302 (by decide) ?_
                refine lv_iadd hx hb dL_holds_306 ?_
                refine lv_istore (lv' := [(4, .int ((s_cls μ 11 t) + (s_oc μ (μ 1) (μ (1 + (3 + 2 * t))) (μ (1 + (3 + 2 * t) + 1)) t I 4))), (3, .int ((s_cls μ 10 t) + ((s_oc μ (μ 1) (μ (1 + (3 + 2 * t))) (μ (1 + (3 + 2 * t) + 1)) t I 2) + (s_oc μ (μ 1) (μ (1 + (3 + 2 * t))) (μ (1 + (3 + 2 * t) + 1)) t I 3)))), (2, .int ((s_cls μ 9 t) + (s_oc μ (μ 1) (μ (1 + (3 + 2 * t))) (μ (1 + (3 + 2 * t) + 1)) t I 1))), (1, .int ((s_cls μ 8 t) + (s_oc μ (μ 1) (μ (1 + (3 + 2 * t))) (μ (1 + (3 + 2 * t) + 1)) t I 0))), (0, .ref (G.1 + 0)), (5, .int (s_sts μ (t + 1))), (6, .int (nI t)), (7, .int (s_ten μ (μ 1) (μ (1 + (3 + 2 * t))) t I 2))]) hx hb dL_holds_307 hl (by decide) rfl (fun ls hl => ?_)
                refine lv_iinc (v := (nI (t + 1))) (lv' := [(6, .int (nI (t + 1))), (4, .int ((s_cls μ 11 t) + (s_oc μ (μ 1) (μ (1 + (3 + 2 * t))) (μ (1 + (3 + 2 * t) + 1)) t I 4))), (3, .int ((s_cls μ 10 t) + ((s_oc μ (μ 1) (μ (1 + (3 + 2 * t))) (μ (1 + (3 + 2 * t) + 1)) t I 2) + (s_oc μ (μ 1) (μ (1 + (3 + 2 * t))) (μ (1 + (3 + 2 * t) + 1)) t I 3)))), (2, .int ((s_cls μ 9 t) + (s_oc μ (μ 1) (μ (1 + (3 + 2 * t))) (μ (1 + (3 + 2 * t) + 1)) t I 1))), (1, .int ((s_cls μ 8 t) + (s_oc μ (μ 1) (μ (1 + (3 + 2 * t))) (μ (1 + (3 + 2 * t) + 1)) t I 0))), (0, .ref (G.1 + 0)), (5, .int (s_sts μ (t + 1))), (7, .int (s_ten μ (μ 1) (μ (1 + (3 + 2 * t))) t I 2))]) hx hb dL_holds_309 hl (k := 6) rfl (nI_1 _) (by decide) rfl (fun ls hl => ?_)
                refine lv_goto (tgt := 15) hx hb dL_holds_312 (by decide) ?_
                rw [cls_8 c_43, cls_9 c_43, cls_10 c_43, cls_11 c_43] at hl
                exact ih (t + 1) (by omega) _ _ _ _ hZ hS (lv_sub hl [5, 4, 3, 2, 1, 6, 0] rfl)
      have j153 : ¬ s_ten μ (μ 1) (μ (1 + (3 + 2 * t))) t I 2 ≤ 0 → (∀ (q : Nat → Int32) (H : Heap) (locs : List Loc) (ls : Array Slot), zW G (zr μ 242 q) H → va_S (zA G) s.heap H locs → lv_has ls 12 [(0, .ref (G.1 + 0)), (1, .int (s_cls μ 8 t)), (2, .int (s_cls μ 9 t)), (3, .int (s_cls μ 10 t)), (4, .int (s_cls μ 11 t)), (5, .int (s_sts μ (t + 1))), (6, .int (nI t)), (7, .int (s_ten μ (μ 1) (μ (1 + (3 + 2 * t))) t I 2)), (8, .int (((s_oc μ (μ 1) (μ (1 + (3 + 2 * t))) (μ (1 + (3 + 2 * t) + 1)) t I 0) + (s_oc μ (μ 1) (μ (1 + (3 + 2 * t))) (μ (1 + (3 + 2 * t) + 1)) t I 1)) + (s_oc μ (μ 1) (μ (1 + (3 + 2 * t))) (μ (1 + (3 + 2 * t) + 1)) t I 2))), (9, .int ((s_oc μ (μ 1) (μ (1 + (3 + 2 * t))) (μ (1 + (3 + 2 * t) + 1)) t I 2) + (s_oc μ (μ 1) (μ (1 + (3 + 2 * t))) (μ (1 + (3 + 2 * t) + 1)) t I 3)))] → W p l e { frames := 6, cells := 0, slots := 0, locals := 138 } s m args below meth c H locs 0 0 (MQ below (zQiP G 1 (P242 μ)) args s 0 0 (zA G)) (F0 m 153 ls [])) := by
        intro hpos q H locs ls hZ hS hl
        refine lv_iconst (v := 1) hx hb dL_holds_153 (by decide) ?_
        refine lv_goto (tgt := 158) hx hb dL_holds_154 (by decide) ?_
        refine lv_istore (lv' := [(10, .int 1), (0, .ref (G.1 + 0)), (1, .int (s_cls μ 8 t)), (2, .int (s_cls μ 9 t)), (3, .int (s_cls μ 10 t)), (4, .int (s_cls μ 11 t)), (5, .int (s_sts μ (t + 1))), (6, .int (nI t)), (7, .int (s_ten μ (μ 1) (μ (1 + (3 + 2 * t))) t I 2)), (8, .int (((s_oc μ (μ 1) (μ (1 + (3 + 2 * t))) (μ (1 + (3 + 2 * t) + 1)) t I 0) + (s_oc μ (μ 1) (μ (1 + (3 + 2 * t))) (μ (1 + (3 + 2 * t) + 1)) t I 1)) + (s_oc μ (μ 1) (μ (1 + (3 + 2 * t))) (μ (1 + (3 + 2 * t) + 1)) t I 2))), (9, .int ((s_oc μ (μ 1) (μ (1 + (3 + 2 * t))) (μ (1 + (3 + 2 * t) + 1)) t I 2) + (s_oc μ (μ 1) (μ (1 + (3 + 2 * t))) (μ (1 + (3 + 2 * t) + 1)) t I 3)))]) hx hb dL_holds_158 hl (by decide) rfl (fun ls hl => ?_)
        refine lv_iload hx hb dL_holds_160 (lv_at hl 9 rfl) ?_
        refine lv_aload_n hx hb dL_holds_162 rfl (lv_at hl 1 rfl) ?_
        refine lv_iload hx hb dL_holds_163 (lv_at hl 7 rfl) ?_
        refine lv_iconst (v := 5) hx hb dL_holds_165 (by decide) ?_
        refine z_cVi (As := [.int (nI t), .int 5]) (rest := [.int (((s_oc μ (μ 1) (μ (1 + (3 + 2 * t))) (μ (1 + (3 + 2 * t) + 1)) t I 0) + (s_oc μ (μ 1) (μ (1 + (3 + 2 * t))) (μ (1 + (3 + 2 * t) + 1)) t I 1)) + (s_oc μ (μ 1) (μ (1 + (3 + 2 * t))) (μ (1 + (3 + 2 * t) + 1)) t I 2))]) hx hb hml hown hts hl hK hZ hS (c_X6_outcome l G (zr μ 242 q) (μ 1) (zr_at rfl (by decide)) T I hT hI hT6 hI24 t htt (μ (1 + (3 + 2 * t))) (zr_ne (by omega)) (μ (1 + (3 + 2 * t) + 1)) (zr_ne (by omega)) hr8 5 (by omega)) (z_G q354 q355 q356 q1 q357) hdX6_outcome ⟨Nat.le_of_ble_eq_true rfl, Nat.le_of_ble_eq_true rfl⟩ zk0 (by decide) rfl rfl rfl rfl (Nat.le_of_ble_eq_true rfl) dL_holds_166 ⟨(Nat.zero_le _), (Nat.zero_le _)⟩ (fun H locs hZ hS => ?_)
        obtain ⟨q, hq2⟩ := m_oc_242 (μ := μ) (fb := μ 1) (g := (μ (1 + (3 + 2 * t)))) (t := t) (I := I) q
        rw [hq2] at hZ
        rw [s_oc_cg (eqv_242 (T := T) hT6 hI24)]
        refine lv_icmp_ne (tgt := 217) hx hb dL_holds_169 (by decide) (fun c_44 => ?_) (fun c_44 => ?_)
        · exact absurd (hA8 t htt hpos).1 c_44
        · refine lv_iload hx hb dL_holds_172 (lv_at hl 9 rfl) ?_
          refine lv_aload_n hx hb dL_holds_174 rfl (lv_at hl 1 rfl) ?_
          refine lv_iload hx hb dL_holds_175 (lv_at hl 7 rfl) ?_
          refine lv_iconst (v := 0) hx hb dL_holds_177 (by decide) ?_
          refine z_cVi (As := [.int (nI t), .int 0]) (rest := [.int (((s_oc μ (μ 1) (μ (1 + (3 + 2 * t))) (μ (1 + (3 + 2 * t) + 1)) t I 0) + (s_oc μ (μ 1) (μ (1 + (3 + 2 * t))) (μ (1 + (3 + 2 * t) + 1)) t I 1)) + (s_oc μ (μ 1) (μ (1 + (3 + 2 * t))) (μ (1 + (3 + 2 * t) + 1)) t I 2))]) hx hb hml hown hts hl hK hZ hS (c_X6_tenancy l G (zr μ 242 q) (μ 1) (zr_at rfl (by decide)) T I hT hI hT6 hI24 t htt (μ (1 + (3 + 2 * t))) (zr_ne (by omega)) hr8 0 (by omega)) (z_G q324 q325 q326 q1 q327) hdX6_tenancy ⟨Nat.le_of_ble_eq_true rfl, Nat.le_of_ble_eq_true rfl⟩ zk0 (by decide) rfl rfl rfl rfl (Nat.le_of_ble_eq_true rfl) dL_holds_178 ⟨(Nat.zero_le _), (Nat.zero_le _)⟩ (fun H locs hZ hS => ?_)
          rw [s_ten_cg (eqv_242 (T := T) hT6 hI24)]
          refine lv_aload_n hx hb dL_holds_181 rfl (lv_at hl 1 rfl) ?_
          refine lv_iload hx hb dL_holds_182 (lv_at hl 7 rfl) ?_
          refine lv_iconst (v := 4) hx hb dL_holds_184 (by decide) ?_
          refine z_cVi (As := [.int (nI t), .int 4]) (rest := [.int (s_ten μ (μ 1) (μ (1 + (3 + 2 * t))) t I 0), .int (((s_oc μ (μ 1) (μ (1 + (3 + 2 * t))) (μ (1 + (3 + 2 * t) + 1)) t I 0) + (s_oc μ (μ 1) (μ (1 + (3 + 2 * t))) (μ (1 + (3 + 2 * t) + 1)) t I 1)) + (s_oc μ (μ 1) (μ (1 + (3 + 2 * t))) (μ (1 + (3 + 2 * t) + 1)) t I 2))]) hx hb hml hown hts hl hK hZ hS (c_X6_tenancy l G (zr μ 242 q) (μ 1) (zr_at rfl (by decide)) T I hT hI hT6 hI24 t htt (μ (1 + (3 + 2 * t))) (zr_ne (by omega)) hr8 4 (by omega)) (z_G q324 q325 q326 q1 q327) hdX6_tenancy ⟨Nat.le_of_ble_eq_true rfl, Nat.le_of_ble_eq_true rfl⟩ zk0 (by decide) rfl rfl rfl rfl (Nat.le_of_ble_eq_true rfl) dL_holds_185 ⟨(Nat.zero_le _), (Nat.zero_le _)⟩ (fun H locs hZ hS => ?_)
          rw [s_ten_cg (eqv_242 (T := T) hT6 hI24)]
          refine lv_iadd hx hb dL_holds_188 ?_
          refine lv_icmp_ne (tgt := 217) hx hb dL_holds_189 (by decide) (fun c_45 => ?_) (fun c_45 => ?_)
          · exact absurd (hA8 t htt hpos).2.1 c_45
          · refine lv_aload_n hx hb dL_holds_192 rfl (lv_at hl 1 rfl) ?_
            refine lv_iload hx hb dL_holds_193 (lv_at hl 7 rfl) ?_
            refine lv_iconst (v := 4) hx hb dL_holds_195 (by decide) ?_
            refine z_cVi (As := [.int (nI t), .int 4]) (rest := []) hx hb hml hown hts hl hK hZ hS (c_X6_outcome l G (zr μ 242 q) (μ 1) (zr_at rfl (by decide)) T I hT hI hT6 hI24 t htt (μ (1 + (3 + 2 * t))) (zr_ne (by omega)) (μ (1 + (3 + 2 * t) + 1)) (zr_ne (by omega)) hr8 4 (by omega)) (z_G q354 q355 q356 q1 q357) hdX6_outcome ⟨Nat.le_of_ble_eq_true rfl, Nat.le_of_ble_eq_true rfl⟩ zk0 (by decide) rfl rfl rfl rfl (Nat.le_of_ble_eq_true rfl) dL_holds_196 ⟨(Nat.zero_le _), (Nat.zero_le _)⟩ (fun H locs hZ hS => ?_)
            obtain ⟨q, hq2⟩ := m_oc_242 (μ := μ) (fb := μ 1) (g := (μ (1 + (3 + 2 * t)))) (t := t) (I := I) q
            rw [hq2] at hZ
            rw [s_oc_cg (eqv_242 (T := T) hT6 hI24)]
            refine lv_if_le (tgt := 212) hx hb dL_holds_199 (by decide) (fun c_46 => ?_) (fun c_46 => ?_)
            · refine lv_iload hx hb dL_holds_212 (lv_at hl 0 rfl) ?_
              refine lv_if_ne (tgt := 219) hx hb dL_holds_214 (by decide) (fun c_47 => ?_) (fun c_47 => ?_)
              · exact j219 _ _ _ _ hZ hS (lv_sub hl [1, 2, 3, 4, 5, 6, 7, 8] rfl)
              · exact absurd c_47 (by decide)
            · refine lv_aload_n hx hb dL_holds_202 rfl (lv_at hl 1 rfl) ?_
              refine lv_iload hx hb dL_holds_203 (lv_at hl 7 rfl) ?_
              refine lv_iconst (v := 0) hx hb dL_holds_205 (by decide) ?_
              refine z_cVi (As := [.int (nI t), .int 0]) (rest := []) hx hb hml hown hts hl hK hZ hS (c_X6_outcome l G (zr μ 242 q) (μ 1) (zr_at rfl (by decide)) T I hT hI hT6 hI24 t htt (μ (1 + (3 + 2 * t))) (zr_ne (by omega)) (μ (1 + (3 + 2 * t) + 1)) (zr_ne (by omega)) hr8 0 (by omega)) (z_G q354 q355 q356 q1 q357) hdX6_outcome ⟨Nat.le_of_ble_eq_true rfl, Nat.le_of_ble_eq_true rfl⟩ zk0 (by decide) rfl rfl rfl rfl (Nat.le_of_ble_eq_true rfl) dL_holds_206 ⟨(Nat.zero_le _), (Nat.zero_le _)⟩ (fun H locs hZ hS => ?_)
              obtain ⟨q, hq2⟩ := m_oc_242 (μ := μ) (fb := μ 1) (g := (μ (1 + (3 + 2 * t)))) (t := t) (I := I) q
              rw [hq2] at hZ
              rw [s_oc_cg (eqv_242 (T := T) hT6 hI24)]
              refine lv_if_gt (tgt := 217) hx hb dL_holds_209 (by decide) (fun c_48 => ?_) (fun c_48 => ?_)
              · exact absurd c_48 ((hA8 t htt hpos).2.2.1.resolve_left c_46)
              · refine lv_iload hx hb dL_holds_212 (lv_at hl 0 rfl) ?_
                refine lv_if_ne (tgt := 219) hx hb dL_holds_214 (by decide) (fun c_49 => ?_) (fun c_49 => ?_)
                · exact j219 _ _ _ _ hZ hS (lv_sub hl [1, 2, 3, 4, 5, 6, 7, 8] rfl)
                · exact absurd c_49 (by decide)
      refine lv_iload hx hb dL_holds_15 (lv_at hl 6 rfl) ?_
      refine lv_aload_n hx hb dL_holds_17 rfl (lv_at hl 0 rfl) ?_
      refine lv_iconst (v := 1) hx hb dL_holds_18 (by decide) ?_
      refine z_cVi (As := [.int 1]) (rest := [.int (nI t)]) hx hb hml hown hts hl hK hZ hS (L_cntT l G (zr μ 242 q) (μ 1) hh (zr_at rfl (by decide)) (zr_at hfh (by decide)) T I o z hT hI hT6 hI24 ho hz ho4 hz4) (z_G q294 q295 q296 q1 q297) hdX6_count ⟨Nat.le_of_ble_eq_true rfl, Nat.le_of_ble_eq_true rfl⟩ zk0 (by decide) rfl rfl rfl rfl (Nat.le_of_ble_eq_true rfl) dL_holds_19 ⟨(Nat.zero_le _), (Nat.zero_le _)⟩ (fun H locs hZ hS => ?_)
      refine lv_icmp_ge (tgt := 315) hx hb dL_holds_22 (by decide) (fun c_51 => ?_) (fun c_51 => ?_)
      · exact absurd (show nI T ≤ nI t from c_51) (nI_ge (by omega) (by omega))
      · refine lv_aload_n hx hb dL_holds_25 rfl (lv_at hl 0 rfl) ?_
        refine lv_iload hx hb dL_holds_26 (lv_at hl 6 rfl) ?_
        refine lv_iconst (v := 2) hx hb dL_holds_28 (by decide) ?_
        refine z_cVi (As := [.int (nI t), .int 2]) (rest := []) hx hb hml hown hts hl hK hZ hS (c_X6_tenancy l G (zr μ 242 q) (μ 1) (zr_at rfl (by decide)) T I hT hI hT6 hI24 t htt (μ (1 + (3 + 2 * t))) (zr_ne (by omega)) hr8 2 (by omega)) (z_G q324 q325 q326 q1 q327) hdX6_tenancy ⟨Nat.le_of_ble_eq_true rfl, Nat.le_of_ble_eq_true rfl⟩ zk0 (by decide) rfl rfl rfl rfl (Nat.le_of_ble_eq_true rfl) dL_holds_29 ⟨(Nat.zero_le _), (Nat.zero_le _)⟩ (fun H locs hZ hS => ?_)
        rw [s_ten_cg (eqv_242 (T := T) hT6 hI24)]
        refine lv_istore (lv' := [(7, .int (s_ten μ (μ 1) (μ (1 + (3 + 2 * t))) t I 2)), (0, .ref (G.1 + 0)), (1, .int (s_cls μ 8 t)), (2, .int (s_cls μ 9 t)), (3, .int (s_cls μ 10 t)), (4, .int (s_cls μ 11 t)), (5, .int (s_sts μ t)), (6, .int (nI t))]) hx hb dL_holds_32 hl (by decide) rfl (fun ls hl => ?_)
        refine lv_iload hx hb dL_holds_34 (lv_at hl 6 rfl) ?_
        refine lv_iload hx hb dL_holds_36 (lv_at hl 0 rfl) ?_
        refine lv_iadd hx hb dL_holds_38 ?_
        refine lv_istore (lv' := [(5, .int ((s_sts μ t) + (s_ten μ (μ 1) (μ (1 + (3 + 2 * t))) t I 2))), (7, .int (s_ten μ (μ 1) (μ (1 + (3 + 2 * t))) t I 2)), (0, .ref (G.1 + 0)), (1, .int (s_cls μ 8 t)), (2, .int (s_cls μ 9 t)), (3, .int (s_cls μ 10 t)), (4, .int (s_cls μ 11 t)), (6, .int (nI t))]) hx hb dL_holds_39 hl (by decide) rfl (fun ls hl => ?_)
        refine lv_iload hx hb dL_holds_41 (lv_at hl 1 rfl) ?_
        refine lv_if_le (tgt := 219) hx hb dL_holds_43 (by decide) (fun c_52 => ?_) (fun c_52 => ?_)
        · exact j219 _ _ _ _ hZ hS (lv_sub hl [2, 3, 4, 5, 6, 0, 7, 1] rfl)
        · refine lv_aload_n hx hb dL_holds_46 rfl (lv_at hl 2 rfl) ?_
          refine lv_iload hx hb dL_holds_47 (lv_at hl 7 rfl) ?_
          refine lv_iconst (v := 0) hx hb dL_holds_49 (by decide) ?_
          refine z_cVi (As := [.int (nI t), .int 0]) (rest := []) hx hb hml hown hts hl hK hZ hS (c_X6_outcome l G (zr μ 242 q) (μ 1) (zr_at rfl (by decide)) T I hT hI hT6 hI24 t htt (μ (1 + (3 + 2 * t))) (zr_ne (by omega)) (μ (1 + (3 + 2 * t) + 1)) (zr_ne (by omega)) hr8 0 (by omega)) (z_G q354 q355 q356 q1 q357) hdX6_outcome ⟨Nat.le_of_ble_eq_true rfl, Nat.le_of_ble_eq_true rfl⟩ zk0 (by decide) rfl rfl rfl rfl (Nat.le_of_ble_eq_true rfl) dL_holds_50 ⟨(Nat.zero_le _), (Nat.zero_le _)⟩ (fun H locs hZ hS => ?_)
          obtain ⟨q, hq2⟩ := m_oc_242 (μ := μ) (fb := μ 1) (g := (μ (1 + (3 + 2 * t)))) (t := t) (I := I) q
          rw [hq2] at hZ
          rw [s_oc_cg (eqv_242 (T := T) hT6 hI24)]
          refine lv_aload_n hx hb dL_holds_53 rfl (lv_at hl 2 rfl) ?_
          refine lv_iload hx hb dL_holds_54 (lv_at hl 7 rfl) ?_
          refine lv_iconst (v := 1) hx hb dL_holds_56 (by decide) ?_
          refine z_cVi (As := [.int (nI t), .int 1]) (rest := [.int (s_oc μ (μ 1) (μ (1 + (3 + 2 * t))) (μ (1 + (3 + 2 * t) + 1)) t I 0)]) hx hb hml hown hts hl hK hZ hS (c_X6_outcome l G (zr μ 242 q) (μ 1) (zr_at rfl (by decide)) T I hT hI hT6 hI24 t htt (μ (1 + (3 + 2 * t))) (zr_ne (by omega)) (μ (1 + (3 + 2 * t) + 1)) (zr_ne (by omega)) hr8 1 (by omega)) (z_G q354 q355 q356 q1 q357) hdX6_outcome ⟨Nat.le_of_ble_eq_true rfl, Nat.le_of_ble_eq_true rfl⟩ zk0 (by decide) rfl rfl rfl rfl (Nat.le_of_ble_eq_true rfl) dL_holds_57 ⟨(Nat.zero_le _), (Nat.zero_le _)⟩ (fun H locs hZ hS => ?_)
          obtain ⟨q, hq2⟩ := m_oc_242 (μ := μ) (fb := μ 1) (g := (μ (1 + (3 + 2 * t)))) (t := t) (I := I) q
          rw [hq2] at hZ
          rw [s_oc_cg (eqv_242 (T := T) hT6 hI24)]
          refine lv_iadd hx hb dL_holds_60 ?_
          refine lv_aload_n hx hb dL_holds_61 rfl (lv_at hl 2 rfl) ?_
          refine lv_iload hx hb dL_holds_62 (lv_at hl 7 rfl) ?_
          refine lv_iconst (v := 2) hx hb dL_holds_64 (by decide) ?_
          refine z_cVi (As := [.int (nI t), .int 2]) (rest := [.int ((s_oc μ (μ 1) (μ (1 + (3 + 2 * t))) (μ (1 + (3 + 2 * t) + 1)) t I 0) + (s_oc μ (μ 1) (μ (1 + (3 + 2 * t))) (μ (1 + (3 + 2 * t) + 1)) t I 1))]) hx hb hml hown hts hl hK hZ hS (c_X6_outcome l G (zr μ 242 q) (μ 1) (zr_at rfl (by decide)) T I hT hI hT6 hI24 t htt (μ (1 + (3 + 2 * t))) (zr_ne (by omega)) (μ (1 + (3 + 2 * t) + 1)) (zr_ne (by omega)) hr8 2 (by omega)) (z_G q354 q355 q356 q1 q357) hdX6_outcome ⟨Nat.le_of_ble_eq_true rfl, Nat.le_of_ble_eq_true rfl⟩ zk0 (by decide) rfl rfl rfl rfl (Nat.le_of_ble_eq_true rfl) dL_holds_65 ⟨(Nat.zero_le _), (Nat.zero_le _)⟩ (fun H locs hZ hS => ?_)
          obtain ⟨q, hq2⟩ := m_oc_242 (μ := μ) (fb := μ 1) (g := (μ (1 + (3 + 2 * t)))) (t := t) (I := I) q
          rw [hq2] at hZ
          rw [s_oc_cg (eqv_242 (T := T) hT6 hI24)]
          refine lv_iadd hx hb dL_holds_68 ?_
          refine lv_istore (lv' := [(8, .int (((s_oc μ (μ 1) (μ (1 + (3 + 2 * t))) (μ (1 + (3 + 2 * t) + 1)) t I 0) + (s_oc μ (μ 1) (μ (1 + (3 + 2 * t))) (μ (1 + (3 + 2 * t) + 1)) t I 1)) + (s_oc μ (μ 1) (μ (1 + (3 + 2 * t))) (μ (1 + (3 + 2 * t) + 1)) t I 2))), (5, .int ((s_sts μ t) + (s_ten μ (μ 1) (μ (1 + (3 + 2 * t))) t I 2))), (7, .int (s_ten μ (μ 1) (μ (1 + (3 + 2 * t))) t I 2)), (0, .ref (G.1 + 0)), (1, .int (s_cls μ 8 t)), (2, .int (s_cls μ 9 t)), (3, .int (s_cls μ 10 t)), (4, .int (s_cls μ 11 t)), (6, .int (nI t))]) hx hb dL_holds_69 hl (by decide) rfl (fun ls hl => ?_)
          refine lv_aload_n hx hb dL_holds_71 rfl (lv_at hl 3 rfl) ?_
          refine lv_iload hx hb dL_holds_72 (lv_at hl 8 rfl) ?_
          refine lv_iconst (v := 2) hx hb dL_holds_74 (by decide) ?_
          refine z_cVi (As := [.int (nI t), .int 2]) (rest := []) hx hb hml hown hts hl hK hZ hS (c_X6_outcome l G (zr μ 242 q) (μ 1) (zr_at rfl (by decide)) T I hT hI hT6 hI24 t htt (μ (1 + (3 + 2 * t))) (zr_ne (by omega)) (μ (1 + (3 + 2 * t) + 1)) (zr_ne (by omega)) hr8 2 (by omega)) (z_G q354 q355 q356 q1 q357) hdX6_outcome ⟨Nat.le_of_ble_eq_true rfl, Nat.le_of_ble_eq_true rfl⟩ zk0 (by decide) rfl rfl rfl rfl (Nat.le_of_ble_eq_true rfl) dL_holds_75 ⟨(Nat.zero_le _), (Nat.zero_le _)⟩ (fun H locs hZ hS => ?_)
          obtain ⟨q, hq2⟩ := m_oc_242 (μ := μ) (fb := μ 1) (g := (μ (1 + (3 + 2 * t)))) (t := t) (I := I) q
          rw [hq2] at hZ
          rw [s_oc_cg (eqv_242 (T := T) hT6 hI24)]
          refine lv_aload_n hx hb dL_holds_78 rfl (lv_at hl 3 rfl) ?_
          refine lv_iload hx hb dL_holds_79 (lv_at hl 8 rfl) ?_
          refine lv_iconst (v := 3) hx hb dL_holds_81 (by decide) ?_
          refine z_cVi (As := [.int (nI t), .int 3]) (rest := [.int (s_oc μ (μ 1) (μ (1 + (3 + 2 * t))) (μ (1 + (3 + 2 * t) + 1)) t I 2)]) hx hb hml hown hts hl hK hZ hS (c_X6_outcome l G (zr μ 242 q) (μ 1) (zr_at rfl (by decide)) T I hT hI hT6 hI24 t htt (μ (1 + (3 + 2 * t))) (zr_ne (by omega)) (μ (1 + (3 + 2 * t) + 1)) (zr_ne (by omega)) hr8 3 (by omega)) (z_G q354 q355 q356 q1 q357) hdX6_outcome ⟨Nat.le_of_ble_eq_true rfl, Nat.le_of_ble_eq_true rfl⟩ zk0 (by decide) rfl rfl rfl rfl (Nat.le_of_ble_eq_true rfl) dL_holds_82 ⟨(Nat.zero_le _), (Nat.zero_le _)⟩ (fun H locs hZ hS => ?_)
          obtain ⟨q, hq2⟩ := m_oc_242 (μ := μ) (fb := μ 1) (g := (μ (1 + (3 + 2 * t)))) (t := t) (I := I) q
          rw [hq2] at hZ
          rw [s_oc_cg (eqv_242 (T := T) hT6 hI24)]
          refine lv_iadd hx hb dL_holds_85 ?_
          refine lv_istore (lv' := [(9, .int ((s_oc μ (μ 1) (μ (1 + (3 + 2 * t))) (μ (1 + (3 + 2 * t) + 1)) t I 2) + (s_oc μ (μ 1) (μ (1 + (3 + 2 * t))) (μ (1 + (3 + 2 * t) + 1)) t I 3))), (8, .int (((s_oc μ (μ 1) (μ (1 + (3 + 2 * t))) (μ (1 + (3 + 2 * t) + 1)) t I 0) + (s_oc μ (μ 1) (μ (1 + (3 + 2 * t))) (μ (1 + (3 + 2 * t) + 1)) t I 1)) + (s_oc μ (μ 1) (μ (1 + (3 + 2 * t))) (μ (1 + (3 + 2 * t) + 1)) t I 2))), (5, .int ((s_sts μ t) + (s_ten μ (μ 1) (μ (1 + (3 + 2 * t))) t I 2))), (7, .int (s_ten μ (μ 1) (μ (1 + (3 + 2 * t))) t I 2)), (0, .ref (G.1 + 0)), (1, .int (s_cls μ 8 t)), (2, .int (s_cls μ 9 t)), (3, .int (s_cls μ 10 t)), (4, .int (s_cls μ 11 t)), (6, .int (nI t))]) hx hb dL_holds_86 hl (by decide) rfl (fun ls hl => ?_)
          refine lv_iload hx hb dL_holds_88 (lv_at hl 3 rfl) ?_
          refine lv_iconst (v := 3) hx hb dL_holds_90 (by decide) ?_
          refine lv_icmp_eq (tgt := 153) hx hb dL_holds_91 (by decide) (fun c_53 => ?_) (fun c_53 => ?_)
          · exact j153 c_52 _ _ _ _ hZ hS (lv_sub hl [4, 5, 6, 7, 8, 2, 9, 3, 1, 0] rfl)
          · refine lv_iload hx hb dL_holds_94 (lv_at hl 0 rfl) ?_
            refine lv_aload_n hx hb dL_holds_96 rfl (lv_at hl 4 rfl) ?_
            refine lv_bipush (v := 7) hx hb dL_holds_97 (by decide) ?_
            refine z_cVi (As := [.int 7]) (rest := [.int ((s_oc μ (μ 1) (μ (1 + (3 + 2 * t))) (μ (1 + (3 + 2 * t) + 1)) t I 2) + (s_oc μ (μ 1) (μ (1 + (3 + 2 * t))) (μ (1 + (3 + 2 * t) + 1)) t I 3))]) hx hb hml hown hts hl hK hZ hS (c_X6_count l G (zr μ 242 q) (μ 1) hh (zr_at rfl (by decide)) (zr_at hfh (by decide)) T I o z hT hI hT6 hI24 ho hz ho4 hz4 7 (by omega)) (z_G q294 q295 q296 q1 q297) hdX6_count ⟨Nat.le_of_ble_eq_true rfl, Nat.le_of_ble_eq_true rfl⟩ zk0 (by decide) rfl rfl rfl rfl (Nat.le_of_ble_eq_true rfl) dL_holds_99 ⟨(Nat.zero_le _), (Nat.zero_le _)⟩ (fun H locs hZ hS => ?_)
            rw [s_cnt_cg (eqv_242 hT6 hI24)]
            refine lv_icmp_gt (tgt := 157) hx hb dL_holds_102 (by decide) (fun c_54 => ?_) (fun c_54 => ?_)
            · exact absurd c_54 ((hA8 t htt c_52).2.2.2 c_53).1
            · refine lv_aload_n hx hb dL_holds_105 rfl (lv_at hl 4 rfl) ?_
              refine lv_iload hx hb dL_holds_106 (lv_at hl 9 rfl) ?_
              refine lv_bipush (v := 9) hx hb dL_holds_108 (by decide) ?_
              refine z_cVi (As := [.int (nI t), .int 9]) (rest := []) hx hb hml hown hts hl hK hZ hS (c_X6_tenancy l G (zr μ 242 q) (μ 1) (zr_at rfl (by decide)) T I hT hI hT6 hI24 t htt (μ (1 + (3 + 2 * t))) (zr_ne (by omega)) hr8 9 (by omega)) (z_G q324 q325 q326 q1 q327) hdX6_tenancy ⟨Nat.le_of_ble_eq_true rfl, Nat.le_of_ble_eq_true rfl⟩ zk0 (by decide) rfl rfl rfl rfl (Nat.le_of_ble_eq_true rfl) dL_holds_110 ⟨(Nat.zero_le _), (Nat.zero_le _)⟩ (fun H locs hZ hS => ?_)
              rw [s_ten_cg (eqv_242 (T := T) hT6 hI24)]
              refine lv_if_gt (tgt := 121) hx hb dL_holds_113 (by decide) (fun c_55 => ?_) (fun c_55 => ?_)
              · refine lv_aload_n hx hb dL_holds_121 rfl (lv_at hl 4 rfl) ?_
                refine lv_iload hx hb dL_holds_122 (lv_at hl 9 rfl) ?_
                refine lv_iconst (v := 4) hx hb dL_holds_124 (by decide) ?_
                refine z_cVi (As := [.int (nI t), .int 4]) (rest := []) hx hb hml hown hts hl hK hZ hS (c_X6_outcome l G (zr μ 242 q) (μ 1) (zr_at rfl (by decide)) T I hT hI hT6 hI24 t htt (μ (1 + (3 + 2 * t))) (zr_ne (by omega)) (μ (1 + (3 + 2 * t) + 1)) (zr_ne (by omega)) hr8 4 (by omega)) (z_G q354 q355 q356 q1 q357) hdX6_outcome ⟨Nat.le_of_ble_eq_true rfl, Nat.le_of_ble_eq_true rfl⟩ zk0 (by decide) rfl rfl rfl rfl (Nat.le_of_ble_eq_true rfl) dL_holds_125 ⟨(Nat.zero_le _), (Nat.zero_le _)⟩ (fun H locs hZ hS => ?_)
                obtain ⟨q, hq2⟩ := m_oc_242 (μ := μ) (fb := μ 1) (g := (μ (1 + (3 + 2 * t)))) (t := t) (I := I) q
                rw [hq2] at hZ
                rw [s_oc_cg (eqv_242 (T := T) hT6 hI24)]
                refine lv_if_gt (tgt := 153) hx hb dL_holds_128 (by decide) (fun c_56 => ?_) (fun c_56 => ?_)
                · exact j153 c_52 _ _ _ _ hZ hS (lv_sub hl [4, 5, 6, 7, 8, 2, 9, 3, 1, 0] rfl)
                · refine lv_aload_n hx hb dL_holds_131 rfl (lv_at hl 4 rfl) ?_
                  refine lv_iload hx hb dL_holds_132 (lv_at hl 9 rfl) ?_
                  refine lv_bipush (v := 9) hx hb dL_holds_134 (by decide) ?_
                  refine z_cVi (As := [.int (nI t), .int 9]) (rest := []) hx hb hml hown hts hl hK hZ hS (c_X6_tenancy l G (zr μ 242 q) (μ 1) (zr_at rfl (by decide)) T I hT hI hT6 hI24 t htt (μ (1 + (3 + 2 * t))) (zr_ne (by omega)) hr8 9 (by omega)) (z_G q324 q325 q326 q1 q327) hdX6_tenancy ⟨Nat.le_of_ble_eq_true rfl, Nat.le_of_ble_eq_true rfl⟩ zk0 (by decide) rfl rfl rfl rfl (Nat.le_of_ble_eq_true rfl) dL_holds_136 ⟨(Nat.zero_le _), (Nat.zero_le _)⟩ (fun H locs hZ hS => ?_)
                  rw [s_ten_cg (eqv_242 (T := T) hT6 hI24)]
                  refine lv_if_eq (tgt := 153) hx hb dL_holds_139 (by decide) (fun c_57 => ?_) (fun c_57 => ?_)
                  · exact j153 c_52 _ _ _ _ hZ hS (lv_sub hl [4, 5, 6, 7, 8, 2, 9, 3, 1, 0] rfl)
                  · refine lv_iload hx hb dL_holds_142 (lv_at hl 0 rfl) ?_
                    refine lv_aload_n hx hb dL_holds_144 rfl (lv_at hl 4 rfl) ?_
                    refine lv_bipush (v := 7) hx hb dL_holds_145 (by decide) ?_
                    refine z_cVi (As := [.int 7]) (rest := [.int ((s_oc μ (μ 1) (μ (1 + (3 + 2 * t))) (μ (1 + (3 + 2 * t) + 1)) t I 2) + (s_oc μ (μ 1) (μ (1 + (3 + 2 * t))) (μ (1 + (3 + 2 * t) + 1)) t I 3))]) hx hb hml hown hts hl hK hZ hS (c_X6_count l G (zr μ 242 q) (μ 1) hh (zr_at rfl (by decide)) (zr_at hfh (by decide)) T I o z hT hI hT6 hI24 ho hz ho4 hz4 7 (by omega)) (z_G q294 q295 q296 q1 q297) hdX6_count ⟨Nat.le_of_ble_eq_true rfl, Nat.le_of_ble_eq_true rfl⟩ zk0 (by decide) rfl rfl rfl rfl (Nat.le_of_ble_eq_true rfl) dL_holds_147 ⟨(Nat.zero_le _), (Nat.zero_le _)⟩ (fun H locs hZ hS => ?_)
                    rw [s_cnt_cg (eqv_242 hT6 hI24)]
                    refine lv_icmp_ne (tgt := 157) hx hb dL_holds_150 (by decide) (fun c_58 => ?_) (fun c_58 => ?_)
                    · exact absurd ((((hA8 t htt c_52).2.2.2 c_53).2.2.resolve_left c_56).resolve_left c_57) c_58
                    · exact j153 c_52 _ _ _ _ hZ hS (lv_sub hl [4, 5, 6, 7, 8, 2, 9, 3, 1, 0] rfl)
              · refine lv_iload hx hb dL_holds_116 (lv_at hl 0 rfl) ?_
                refine lv_if_ne (tgt := 157) hx hb dL_holds_118 (by decide) (fun c_59 => ?_) (fun c_59 => ?_)
                · exact absurd (((hA8 t htt c_52).2.2.2 c_53).2.1.resolve_left c_55) c_59
                · refine lv_aload_n hx hb dL_holds_121 rfl (lv_at hl 4 rfl) ?_
                  refine lv_iload hx hb dL_holds_122 (lv_at hl 9 rfl) ?_
                  refine lv_iconst (v := 4) hx hb dL_holds_124 (by decide) ?_
                  refine z_cVi (As := [.int (nI t), .int 4]) (rest := []) hx hb hml hown hts hl hK hZ hS (c_X6_outcome l G (zr μ 242 q) (μ 1) (zr_at rfl (by decide)) T I hT hI hT6 hI24 t htt (μ (1 + (3 + 2 * t))) (zr_ne (by omega)) (μ (1 + (3 + 2 * t) + 1)) (zr_ne (by omega)) hr8 4 (by omega)) (z_G q354 q355 q356 q1 q357) hdX6_outcome ⟨Nat.le_of_ble_eq_true rfl, Nat.le_of_ble_eq_true rfl⟩ zk0 (by decide) rfl rfl rfl rfl (Nat.le_of_ble_eq_true rfl) dL_holds_125 ⟨(Nat.zero_le _), (Nat.zero_le _)⟩ (fun H locs hZ hS => ?_)
                  obtain ⟨q, hq2⟩ := m_oc_242 (μ := μ) (fb := μ 1) (g := (μ (1 + (3 + 2 * t)))) (t := t) (I := I) q
                  rw [hq2] at hZ
                  rw [s_oc_cg (eqv_242 (T := T) hT6 hI24)]
                  refine lv_if_gt (tgt := 153) hx hb dL_holds_128 (by decide) (fun c_60 => ?_) (fun c_60 => ?_)
                  · exact j153 c_52 _ _ _ _ hZ hS (lv_sub hl [4, 5, 6, 7, 8, 2, 9, 3, 1, 0] rfl)
                  · refine lv_aload_n hx hb dL_holds_131 rfl (lv_at hl 4 rfl) ?_
                    refine lv_iload hx hb dL_holds_132 (lv_at hl 9 rfl) ?_
                    refine lv_bipush (v := 9) hx hb dL_holds_134 (by decide) ?_
                    refine z_cVi (As := [.int (nI t), .int 9]) (rest := []) hx hb hml hown hts hl hK hZ hS (c_X6_tenancy l G (zr μ 242 q) (μ 1) (zr_at rfl (by decide)) T I hT hI hT6 hI24 t htt (μ (1 + (3 + 2 * t))) (zr_ne (by omega)) hr8 9 (by omega)) (z_G q324 q325 q326 q1 q327) hdX6_tenancy ⟨Nat.le_of_ble_eq_true rfl, Nat.le_of_ble_eq_true rfl⟩ zk0 (by decide) rfl rfl rfl rfl (Nat.le_of_ble_eq_true rfl) dL_holds_136 ⟨(Nat.zero_le _), (Nat.zero_le _)⟩ (fun H locs hZ hS => ?_)
                    rw [s_ten_cg (eqv_242 (T := T) hT6 hI24)]
                    refine lv_if_eq (tgt := 153) hx hb dL_holds_139 (by decide) (fun c_61 => ?_) (fun c_61 => ?_)
                    · exact j153 c_52 _ _ _ _ hZ hS (lv_sub hl [4, 5, 6, 7, 8, 2, 9, 3, 1, 0] rfl)
                    · refine lv_iload hx hb dL_holds_142 (lv_at hl 0 rfl) ?_
                      refine lv_aload_n hx hb dL_holds_144 rfl (lv_at hl 4 rfl) ?_
                      refine lv_bipush (v := 7) hx hb dL_holds_145 (by decide) ?_
                      refine z_cVi (As := [.int 7]) (rest := [.int ((s_oc μ (μ 1) (μ (1 + (3 + 2 * t))) (μ (1 + (3 + 2 * t) + 1)) t I 2) + (s_oc μ (μ 1) (μ (1 + (3 + 2 * t))) (μ (1 + (3 + 2 * t) + 1)) t I 3))]) hx hb hml hown hts hl hK hZ hS (c_X6_count l G (zr μ 242 q) (μ 1) hh (zr_at rfl (by decide)) (zr_at hfh (by decide)) T I o z hT hI hT6 hI24 ho hz ho4 hz4 7 (by omega)) (z_G q294 q295 q296 q1 q297) hdX6_count ⟨Nat.le_of_ble_eq_true rfl, Nat.le_of_ble_eq_true rfl⟩ zk0 (by decide) rfl rfl rfl rfl (Nat.le_of_ble_eq_true rfl) dL_holds_147 ⟨(Nat.zero_le _), (Nat.zero_le _)⟩ (fun H locs hZ hS => ?_)
                      rw [s_cnt_cg (eqv_242 hT6 hI24)]
                      refine lv_icmp_ne (tgt := 157) hx hb dL_holds_150 (by decide) (fun c_62 => ?_) (fun c_62 => ?_)
                      · exact absurd ((((hA8 t htt c_52).2.2.2 c_53).2.2.resolve_left c_60).resolve_left c_61) c_62
                      · exact j153 c_52 _ _ _ _ hZ hS (lv_sub hl [4, 5, 6, 7, 8, 2, 9, 3, 1, 0] rfl)
  refine lv_iconst (v := 0) hx hb dL_holds_0 (by decide) ?_
  refine lv_istore_n (lv' := [(1, .int 0), (0, .ref (G.1 + 0))]) hx hb dL_holds_1 rfl hl (by decide) rfl (fun ls hl => ?_)
  refine lv_iconst (v := 0) hx hb dL_holds_2 (by decide) ?_
  refine lv_istore_n (lv' := [(2, .int 0), (1, .int 0), (0, .ref (G.1 + 0))]) hx hb dL_holds_3 rfl hl (by decide) rfl (fun ls hl => ?_)
  refine lv_iconst (v := 0) hx hb dL_holds_4 (by decide) ?_
  refine lv_istore_n (lv' := [(3, .int 0), (2, .int 0), (1, .int 0), (0, .ref (G.1 + 0))]) hx hb dL_holds_5 rfl hl (by decide) rfl (fun ls hl => ?_)
  refine lv_iconst (v := 0) hx hb dL_holds_6 (by decide) ?_
  refine lv_istore (lv' := [(4, .int 0), (3, .int 0), (2, .int 0), (1, .int 0), (0, .ref (G.1 + 0))]) hx hb dL_holds_7 hl (by decide) rfl (fun ls hl => ?_)
  refine lv_iconst (v := 0) hx hb dL_holds_9 (by decide) ?_
  refine lv_istore (lv' := [(5, .int 0), (4, .int 0), (3, .int 0), (2, .int 0), (1, .int 0), (0, .ref (G.1 + 0))]) hx hb dL_holds_10 hl (by decide) rfl (fun ls hl => ?_)
  refine lv_iconst (v := 0) hx hb dL_holds_12 (by decide) ?_
  refine lv_istore (lv' := [(6, .int 0), (5, .int 0), (4, .int 0), (3, .int 0), (2, .int 0), (1, .int 0), (0, .ref (G.1 + 0))]) hx hb dL_holds_13 hl (by decide) rfl (fun ls hl => ?_)
  exact tens T 0 (by omega) _ _ _ _ hZ hS (lv_sub hl [6, 5, 4, 3, 2, 1, 0] rfl)
