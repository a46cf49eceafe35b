def p_setRate (μ : zM) (fb : Nat → Int32) (o z T I : Nat) (x : Int32) : Int32 × zM := if (s_out x 0 1045220557) = 0 then if (Op.cmpValue (FP.fcmp (s_rate x) (Int32.toUInt32 (fb 2))) CmpOp.l) = 0 then ((-5), μ)
    else (1, (zr (zp μ o z T I) 1 (zu fb 2 (UInt32.toInt32 (s_rate x)))))
  else ((-2), μ)
theorem hdX6_setRate : yX6_setRate.cls = RX6 ∧ yX6_setRate.cls ≠ "java/lang/invoke/MethodHandle" ∧ yX6_setRate.cls ≠ "java/lang/invoke/VarHandle" ∧ (parseMethodDescriptor yX6_setRate.desc).map (fun d => d.parameters.length) = some 1 := by decide +kernel
set_option maxHeartbeats 4000000 in
set_option maxRecDepth 100000 in
theorem c_X6_setRate (l : Launch) (G : zG) (μ : zM) (fb hh : Nat → Int32) (hfb : μ 1 = fb) (hfh : μ 79 = hh) (T I o z : Nat) (hT : fb 3 = nI T) (hI : fb 4 = nI I) (hT6 : T ≤ 6) (hI24 : I ≤ 24) (ho : hh 1 = nI o) (hz : hh 2 = nI z) (ho4 : o < 4) (hz4 : z ≤ 4) (x : Int32) : zMet l G yX6_setRate cX6_setRate 3 (some .int) 4 88 [.ref (G.1 + 0), .int x] μ (zQi G (p_setRate μ fb o z T I x).1 (p_setRate μ fb o z T I x).2) := by
  refine z_start (lv := [(0, .ref (G.1 + 0)), (1, .int x)]) (by decide) (Nat.le_of_ble_eq_true rfl) rfl ?_
  intro p e s m args below meth c ls hx hb hml hr hlk hts hown hK hZ hS hl
  have hown : s.vm.findClass RX6 = some m.cls := hown
  refine lv_iload_n hx hb dX6_setRate_0 rfl (lv_at hl 1 rfl) ?_
  refine lv_iconst (v := 0) hx hb dX6_setRate_1 (by decide) ?_
  refine lv_ldc hx hb hown (hts _ q543) dX6_setRate_2 ?_
  refine z_cSi (As := [.int x, .int 0, .int 1045220557]) (rest := []) hx hb hml hown hts hl hK hZ hS (c_X6_outside l G μ x 0 1045220557) (z_GS q358 q359 q1 q360) hdX6_outside ⟨Nat.le_of_ble_eq_true rfl, Nat.le_of_ble_eq_true rfl⟩ rfl rfl (Nat.le_of_ble_eq_true rfl) dX6_setRate_4 ⟨(Nat.zero_le _), (Nat.zero_le _)⟩ (fun H locs hZ hS => ?_)
  refine lv_if_eq (tgt := 13) hx hb dX6_setRate_7 (by decide) (fun c_1 => ?_) (fun c_1 => ?_)
  · refine lv_iload_n hx hb dX6_setRate_13 rfl (lv_at hl 1 rfl) ?_
    refine z_cSf (As := [.int x]) (rest := []) hx hb hml hown hts hl hK hZ hS (c_X6_floatOf l G μ x c_1) (z_GS q544 q545 q1 q546) hdX6_floatOf ⟨Nat.le_of_ble_eq_true rfl, Nat.le_of_ble_eq_true rfl⟩ rfl rfl (Nat.le_of_ble_eq_true rfl) dX6_setRate_14 ⟨(Nat.zero_le _), (Nat.zero_le _)⟩ (fun H locs hZ hS => ?_)
    refine lv_fstore_n (lv' := [(2, .float (s_rate x)), (0, .ref (G.1 + 0)), (1, .int x)]) hx hb dX6_setRate_17 rfl hl (by decide) rfl (fun ls hl => ?_)
    refine lv_fload_n hx hb dX6_setRate_18 rfl (lv_at hl 0 rfl) ?_
    refine lv_aload_n hx hb dX6_setRate_19 rfl (lv_at hl 1 rfl) ?_
    refine z_g0 (f := (μ 0)) (v := .ref (G.1 + 1)) 0 hx hb hts hown hK hZ zk0 rfl (by decide) q226 rfl dX6_setRate_20 ?_
    refine z_g1 (f := fb) (v := .float (Int32.toUInt32 (fb 2))) 2 hx hb hts hown hK hZ (zk_book hB1) hfb (by decide) q151 rfl dX6_setRate_23 ?_
    refine lv_fcmp hx hb dX6_setRate_26 ?_
    refine lv_if_ne (tgt := 33) hx hb dX6_setRate_27 (by decide) (fun c_2 => ?_) (fun c_2 => ?_)
    · refine lv_aload_n hx hb dX6_setRate_33 rfl (lv_at hl 1 rfl) ?_
      refine z_g0 (f := (μ 0)) (v := .ref (G.1 + 79)) 2 hx hb hts hown hK hZ zk0 rfl (by decide) q228 rfl dX6_setRate_34 ?_
      refine lv_aload_n hx hb dX6_setRate_37 rfl (lv_at hl 1 rfl) ?_
      refine z_g0 (f := (μ 0)) (v := .ref (G.1 + 1)) 0 hx hb hts hown hK hZ zk0 rfl (by decide) q226 rfl dX6_setRate_38 ?_
      refine z_cVv (As := [.ref (G.1 + 1)]) (rest := []) hx hb hml hown hts hl hK hZ hS (c_X2_push l G μ hh hfh o ho ho4 z hz hz4 fb hfb T I hT hI hT6 hI24) (z_G q289 q290 q291 q6 q292) hdX2_push ⟨Nat.le_of_ble_eq_true rfl, Nat.le_of_ble_eq_true rfl⟩ zk79 (by decide) rfl rfl rfl rfl (Nat.le_of_ble_eq_true rfl) dX6_setRate_41 ⟨(Nat.zero_le _), (Nat.zero_le _)⟩ (fun H locs hZ hS => ?_)
      refine lv_aload_n hx hb dX6_setRate_44 rfl (lv_at hl 1 rfl) ?_
      refine z_g0 (f := ((zp μ o z T I) 0)) (v := .ref (G.1 + 1)) 0 hx hb hts hown hK hZ zk0 rfl (by decide) q226 rfl dX6_setRate_45 ?_
      refine lv_fload_n hx hb dX6_setRate_48 rfl (lv_at hl 0 rfl) ?_
      refine z_p1f (f := fb) (μ1 := (zr (zp μ o z T I) 1 (zu fb 2 (UInt32.toInt32 (s_rate x))))) 2 hx hb hts hown hK hZ hS (zk_book hB1) ((zp_ne (by omega)).trans hfb) (by decide) q151 rfl pfd_F rfl rfl dX6_setRate_49 (fun H locs hZ hS => ?_)
      refine lv_iconst (v := 1) hx hb dX6_setRate_52 (by decide) ?_
      exact z_iret hx hb hr hlk hK hZ hS ⟨by rw [p_setRate, if_pos c_1, if_neg c_2], by rw [p_setRate, if_pos c_1, if_neg c_2]⟩ dX6_setRate_53
    · refine lv_bipush (v := (-5)) hx hb dX6_setRate_30 (by decide) ?_
      exact z_iret hx hb hr hlk hK hZ hS ⟨by rw [p_setRate, if_pos c_1, if_pos c_2], by rw [p_setRate, if_pos c_1, if_pos c_2]⟩ dX6_setRate_32
  · refine lv_bipush (v := (-2)) hx hb dX6_setRate_10 (by decide) ?_
    exact z_iret hx hb hr hlk hK hZ hS ⟨by rw [p_setRate, if_neg c_1], by rw [p_setRate, if_neg c_1]⟩ dX6_setRate_12
def p_setFee (μ : zM) (fb : Nat → Int32) (o z T I : Nat) (x : Int32) : Int32 × zM := if (s_out x 0 50000) = 0 then if (fb 1) = x then ((-5), μ)
    else ((fb 1), (zr (zp μ o z T I) 1 (zu fb 1 x)))
  else ((-2), μ)
theorem hdX6_setFee : yX6_setFee.cls = RX6 ∧ yX6_setFee.cls ≠ "java/lang/invoke/MethodHandle" ∧ yX6_setFee.cls ≠ "java/lang/invoke/VarHandle" ∧ (parseMethodDescriptor yX6_setFee.desc).map (fun d => d.parameters.length) = some 1 := by decide +kernel
set_option maxHeartbeats 4000000 in
set_option maxRecDepth 100000 in
theorem c_X6_setFee (l : Launch) (G : zG) (μ : zM) (fb hh : Nat → Int32) (hfb : μ 1 = fb) (hfh : μ 79 = hh) (T I o z : Nat) (hT : fb 3 = nI T) (hI : fb 4 = nI I) (hT6 : T ≤ 6) (hI24 : I ≤ 24) (ho : hh 1 = nI o) (hz : hh 2 = nI z) (ho4 : o < 4) (hz4 : z ≤ 4) (x : Int32) : zMet l G yX6_setFee cX6_setFee 3 (some .int) 4 88 [.ref (G.1 + 0), .int x] μ (zQi G (p_setFee μ fb o z T I x).1 (p_setFee μ fb o z T I x).2) := by
  refine z_start (lv := [(0, .ref (G.1 + 0)), (1, .int x)]) (by decide) (Nat.le_of_ble_eq_true rfl) rfl ?_
  intro p e s m args below meth c ls hx hb hml hr hlk hts hown hK hZ hS hl
  have hown : s.vm.findClass RX6 = some m.cls := hown
  refine lv_iload_n hx hb dX6_setFee_0 rfl (lv_at hl 1 rfl) ?_
  refine lv_iconst (v := 0) hx hb dX6_setFee_1 (by decide) ?_
  refine lv_ldc hx hb hown (hts _ q537) dX6_setFee_2 ?_
  refine z_cSi (As := [.int x, .int 0, .int 50000]) (rest := []) hx hb hml hown hts hl hK hZ hS (c_X6_outside l G μ x 0 50000) (z_GS q358 q359 q1 q360) hdX6_outside ⟨Nat.le_of_ble_eq_true rfl, Nat.le_of_ble_eq_true rfl⟩ rfl rfl (Nat.le_of_ble_eq_true rfl) dX6_setFee_4 ⟨(Nat.zero_le _), (Nat.zero_le _)⟩ (fun H locs hZ hS => ?_)
  refine lv_if_eq (tgt := 13) hx hb dX6_setFee_7 (by decide) (fun c_1 => ?_) (fun c_1 => ?_)
  · refine lv_aload_n hx hb dX6_setFee_13 rfl (lv_at hl 0 rfl) ?_
    refine z_g0 (f := (μ 0)) (v := .ref (G.1 + 1)) 0 hx hb hts hown hK hZ zk0 rfl (by decide) q226 rfl dX6_setFee_14 ?_
    refine z_g1 (f := fb) (v := .int (fb 1)) 1 hx hb hts hown hK hZ (zk_book hB1) hfb (by decide) q149 rfl dX6_setFee_17 ?_
    refine lv_istore_n (lv' := [(2, .int (fb 1)), (0, .ref (G.1 + 0)), (1, .int x)]) hx hb dX6_setFee_20 rfl hl (by decide) rfl (fun ls hl => ?_)
    refine lv_iload_n hx hb dX6_setFee_21 rfl (lv_at hl 0 rfl) ?_
    refine lv_iload_n hx hb dX6_setFee_22 rfl (lv_at hl 2 rfl) ?_
    refine lv_icmp_ne (tgt := 29) hx hb dX6_setFee_23 (by decide) (fun c_2 => ?_) (fun c_2 => ?_)
    · refine lv_aload_n hx hb dX6_setFee_29 rfl (lv_at hl 1 rfl) ?_
      refine z_g0 (f := (μ 0)) (v := .ref (G.1 + 79)) 2 hx hb hts hown hK hZ zk0 rfl (by decide) q228 rfl dX6_setFee_30 ?_
      refine lv_aload_n hx hb dX6_setFee_33 rfl (lv_at hl 1 rfl) ?_
      refine z_g0 (f := (μ 0)) (v := .ref (G.1 + 1)) 0 hx hb hts hown hK hZ zk0 rfl (by decide) q226 rfl dX6_setFee_34 ?_
      refine z_cVv (As := [.ref (G.1 + 1)]) (rest := []) hx hb hml hown hts hl hK hZ hS (c_X2_push l G μ hh hfh o ho ho4 z hz hz4 fb hfb T I hT hI hT6 hI24) (z_G q289 q290 q291 q6 q292) hdX2_push ⟨Nat.le_of_ble_eq_true rfl, Nat.le_of_ble_eq_true rfl⟩ zk79 (by decide) rfl rfl rfl rfl (Nat.le_of_ble_eq_true rfl) dX6_setFee_37 ⟨(Nat.zero_le _), (Nat.zero_le _)⟩ (fun H locs hZ hS => ?_)
      refine lv_aload_n hx hb dX6_setFee_40 rfl (lv_at hl 1 rfl) ?_
      refine z_g0 (f := ((zp μ o z T I) 0)) (v := .ref (G.1 + 1)) 0 hx hb hts hown hK hZ zk0 rfl (by decide) q226 rfl dX6_setFee_41 ?_
      refine lv_iload_n hx hb dX6_setFee_44 rfl (lv_at hl 2 rfl) ?_
      refine z_p1 (f := fb) (μ1 := (zr (zp μ o z T I) 1 (zu fb 1 x))) 1 hx hb hts hown hK hZ hS (zk_book hB1) ((zp_ne (by omega)).trans hfb) (by decide) q149 rfl pfd_I rfl rfl dX6_setFee_45 (fun H locs hZ hS => ?_)
      refine lv_iload_n hx hb dX6_setFee_48 rfl (lv_at hl 0 rfl) ?_
      exact z_iret hx hb hr hlk hK hZ hS ⟨by rw [p_setFee, if_pos c_1, if_neg c_2], by rw [p_setFee, if_pos c_1, if_neg c_2]⟩ dX6_setFee_49
    · refine lv_bipush (v := (-5)) hx hb dX6_setFee_26 (by decide) ?_
      exact z_iret hx hb hr hlk hK hZ hS ⟨by rw [p_setFee, if_pos c_1, if_pos c_2], by rw [p_setFee, if_pos c_1, if_pos c_2]⟩ dX6_setFee_28
  · refine lv_bipush (v := (-2)) hx hb dX6_setFee_10 (by decide) ?_
    exact z_iret hx hb hr hlk hK hZ hS ⟨by rw [p_setFee, if_neg c_1], by rw [p_setFee, if_neg c_1]⟩ dX6_setFee_12
def p_pass (μ : zM) (fb : Nat → Int32) (o z T I : Nat) (x : Int32) : Int32 × zM := if (s_out x 1 1000) = 0 then if ((fb 0) + x) ≤ 99999 then (((fb 0) + x), (zr (zp μ o z T I) 1 (zu fb 0 ((fb 0) + x))))
    else ((-3), μ)
  else ((-2), μ)
theorem hdX6_pass : yX6_pass.cls = RX6 ∧ yX6_pass.cls ≠ "java/lang/invoke/MethodHandle" ∧ yX6_pass.cls ≠ "java/lang/invoke/VarHandle" ∧ (parseMethodDescriptor yX6_pass.desc).map (fun d => d.parameters.length) = some 1 := by decide +kernel
set_option maxHeartbeats 4000000 in
set_option maxRecDepth 100000 in
theorem c_X6_pass (l : Launch) (G : zG) (μ : zM) (fb hh : Nat → Int32) (hfb : μ 1 = fb) (hfh : μ 79 = hh) (T I o z : Nat) (hT : fb 3 = nI T) (hI : fb 4 = nI I) (hT6 : T ≤ 6) (hI24 : I ≤ 24) (ho : hh 1 = nI o) (hz : hh 2 = nI z) (ho4 : o < 4) (hz4 : z ≤ 4) (x : Int32) : zMet l G yX6_pass cX6_pass 2 (some .int) 4 88 [.ref (G.1 + 0), .int x] μ (zQi G (p_pass μ fb o z T I x).1 (p_pass μ fb o z T I x).2) := by
  refine z_start (lv := [(0, .ref (G.1 + 0)), (1, .int x)]) (by decide) (Nat.le_of_ble_eq_true rfl) rfl ?_
  intro p e s m args below meth c ls hx hb hml hr hlk hts hown hK hZ hS hl
  have hown : s.vm.findClass RX6 = some m.cls := hown
  refine lv_iload_n hx hb dX6_pass_0 rfl (lv_at hl 1 rfl) ?_
  refine lv_iconst (v := 1) hx hb dX6_pass_1 (by decide) ?_
  refine lv_sipush (v := 1000) hx hb dX6_pass_2 (by decide) ?_
  refine z_cSi (As := [.int x, .int 1, .int 1000]) (rest := []) hx hb hml hown hts hl hK hZ hS (c_X6_outside l G μ x 1 1000) (z_GS q358 q359 q1 q360) hdX6_outside ⟨Nat.le_of_ble_eq_true rfl, Nat.le_of_ble_eq_true rfl⟩ rfl rfl (Nat.le_of_ble_eq_true rfl) dX6_pass_5 ⟨(Nat.zero_le _), (Nat.zero_le _)⟩ (fun H locs hZ hS => ?_)
  refine lv_if_eq (tgt := 14) hx hb dX6_pass_8 (by decide) (fun c_1 => ?_) (fun c_1 => ?_)
  · refine lv_aload_n hx hb dX6_pass_14 rfl (lv_at hl 0 rfl) ?_
    refine z_g0 (f := (μ 0)) (v := .ref (G.1 + 1)) 0 hx hb hts hown hK hZ zk0 rfl (by decide) q226 rfl dX6_pass_15 ?_
    refine z_g1 (f := fb) (v := .int (fb 0)) 0 hx hb hts hown hK hZ (zk_book hB1) hfb (by decide) q147 rfl dX6_pass_18 ?_
    refine lv_iload_n hx hb dX6_pass_21 rfl (lv_at hl 1 rfl) ?_
    refine lv_iadd hx hb dX6_pass_22 ?_
    refine lv_ldc hx hb hown (hts _ q475) dX6_pass_23 ?_
    refine lv_icmp_le (tgt := 31) hx hb dX6_pass_25 (by decide) (fun c_2 => ?_) (fun c_2 => ?_)
    · refine lv_aload_n hx hb dX6_pass_31 rfl (lv_at hl 0 rfl) ?_
      refine z_g0 (f := (μ 0)) (v := .ref (G.1 + 79)) 2 hx hb hts hown hK hZ zk0 rfl (by decide) q228 rfl dX6_pass_32 ?_
      refine lv_aload_n hx hb dX6_pass_35 rfl (lv_at hl 0 rfl) ?_
      refine z_g0 (f := (μ 0)) (v := .ref (G.1 + 1)) 0 hx hb hts hown hK hZ zk0 rfl (by decide) q226 rfl dX6_pass_36 ?_
      refine z_cVv (As := [.ref (G.1 + 1)]) (rest := []) hx hb hml hown hts hl hK hZ hS (c_X2_push l G μ hh hfh o ho ho4 z hz hz4 fb hfb T I hT hI hT6 hI24) (z_G q289 q290 q291 q6 q292) hdX2_push ⟨Nat.le_of_ble_eq_true rfl, Nat.le_of_ble_eq_true rfl⟩ zk79 (by decide) rfl rfl rfl rfl (Nat.le_of_ble_eq_true rfl) dX6_pass_39 ⟨(Nat.zero_le _), (Nat.zero_le _)⟩ (fun H locs hZ hS => ?_)
      refine lv_aload_n hx hb dX6_pass_42 rfl (lv_at hl 0 rfl) ?_
      refine z_g0 (f := ((zp μ o z T I) 0)) (v := .ref (G.1 + 1)) 0 hx hb hts hown hK hZ zk0 rfl (by decide) q226 rfl dX6_pass_43 ?_
      refine lv_dup hx hb dX6_pass_46 rfl ?_
      refine z_g1 (f := fb) (v := .int (fb 0)) 0 hx hb hts hown hK hZ (zk_book hB1) ((zp_ne (by omega)).trans hfb) (by decide) q147 rfl dX6_pass_47 ?_
      refine lv_iload_n hx hb dX6_pass_50 rfl (lv_at hl 1 rfl) ?_
      refine lv_iadd hx hb dX6_pass_51 ?_
      refine z_p1 (f := fb) (μ1 := (zr (zp μ o z T I) 1 (zu fb 0 ((fb 0) + x)))) 0 hx hb hts hown hK hZ hS (zk_book hB1) ((zp_ne (by omega)).trans hfb) (by decide) q147 rfl pfd_I rfl rfl dX6_pass_52 (fun H locs hZ hS => ?_)
      refine lv_aload_n hx hb dX6_pass_55 rfl (lv_at hl 0 rfl) ?_
      refine z_g0 (f := ((zr (zp μ o z T I) 1 (zu fb 0 ((fb 0) + x))) 0)) (v := .ref (G.1 + 1)) 0 hx hb hts hown hK hZ zk0 rfl (by decide) q226 rfl dX6_pass_56 ?_
      refine z_g1 (f := (zu fb 0 ((fb 0) + x))) (v := .int ((fb 0) + x)) 0 hx hb hts hown hK hZ (zk_book hB1) zr_same (by decide) q147 rfl dX6_pass_59 ?_
      exact z_iret hx hb hr hlk hK hZ hS ⟨by rw [p_pass, if_pos c_1, if_pos c_2], by rw [p_pass, if_pos c_1, if_pos c_2]⟩ dX6_pass_62
    · refine lv_bipush (v := (-3)) hx hb dX6_pass_28 (by decide) ?_
      exact z_iret hx hb hr hlk hK hZ hS ⟨by rw [p_pass, if_pos c_1, if_neg c_2], by rw [p_pass, if_pos c_1, if_neg c_2]⟩ dX6_pass_30
  · refine lv_bipush (v := (-2)) hx hb dX6_pass_11 (by decide) ?_
    exact z_iret hx hb hr hlk hK hZ hS ⟨by rw [p_pass, if_neg c_1], by rw [p_pass, if_neg c_1]⟩ dX6_pass_13
def p_begin (μ : zM) (fb : Nat → Int32) (o z T I : Nat) (x : Int32) : Int32 × zM := if (s_out x 1000 1000000) = 0 then if nI T < 6 then (nI T, (m_addT (zp μ o z T I) fb T x))
    else ((-3), μ)
  else ((-2), μ)
theorem hdX6_begin : yX6_begin.cls = RX6 ∧ yX6_begin.cls ≠ "java/lang/invoke/MethodHandle" ∧ yX6_begin.cls ≠ "java/lang/invoke/VarHandle" ∧ (parseMethodDescriptor yX6_begin.desc).map (fun d => d.parameters.length) = some 1 := by decide +kernel
set_option maxHeartbeats 4000000 in
set_option maxRecDepth 100000 in
theorem c_X6_begin (l : Launch) (G : zG) (μ : zM) (fb hh : Nat → Int32) (hfb : μ 1 = fb) (hfh : μ 79 = hh) (T I o z : Nat) (hT : fb 3 = nI T) (hI : fb 4 = nI I) (hT6 : T ≤ 6) (hI24 : I ≤ 24) (ho : hh 1 = nI o) (hz : hh 2 = nI z) (ho4 : o < 4) (hz4 : z ≤ 4) (x : Int32) : zMet l G yX6_begin cX6_begin 2 (some .int) 4 88 [.ref (G.1 + 0), .int x] μ (zQi G (p_begin μ fb o z T I x).1 (p_begin μ fb o z T I x).2) := by
  refine z_start (lv := [(0, .ref (G.1 + 0)), (1, .int x)]) (by decide) (Nat.le_of_ble_eq_true rfl) rfl ?_
  intro p e s m args below meth c ls hx hb hml hr hlk hts hown hK hZ hS hl
  have hown : s.vm.findClass RX6 = some m.cls := hown
  refine lv_iload_n hx hb dX6_begin_0 rfl (lv_at hl 1 rfl) ?_
  refine lv_sipush (v := 1000) hx hb dX6_begin_1 (by decide) ?_
  refine lv_ldc hx hb hown (hts _ q448) dX6_begin_4 ?_
  refine z_cSi (As := [.int x, .int 1000, .int 1000000]) (rest := []) hx hb hml hown hts hl hK hZ hS (c_X6_outside l G μ x 1000 1000000) (z_GS q358 q359 q1 q360) hdX6_outside ⟨Nat.le_of_ble_eq_true rfl, Nat.le_of_ble_eq_true rfl⟩ rfl rfl (Nat.le_of_ble_eq_true rfl) dX6_begin_6 ⟨(Nat.zero_le _), (Nat.zero_le _)⟩ (fun H locs hZ hS => ?_)
  refine lv_if_eq (tgt := 15) hx hb dX6_begin_9 (by decide) (fun c_1 => ?_) (fun c_1 => ?_)
  · refine lv_aload_n hx hb dX6_begin_15 rfl (lv_at hl 0 rfl) ?_
    refine z_g0 (f := (μ 0)) (v := .ref (G.1 + 1)) 0 hx hb hts hown hK hZ zk0 rfl (by decide) q226 rfl dX6_begin_16 ?_
    refine z_g1 (f := fb) (v := .int (nI T)) 3 hx hb hts hown hK hZ (zk_book hB1) hfb (by decide) q153 (congrArg (fun z => some (Value.int z)) hT) dX6_begin_19 ?_
    refine lv_bipush (v := 6) hx hb dX6_begin_22 (by decide) ?_
    refine lv_icmp_lt (tgt := 30) hx hb dX6_begin_24 (by decide) (fun c_2 => ?_) (fun c_2 => ?_)
    · refine lv_aload_n hx hb dX6_begin_30 rfl (lv_at hl 0 rfl) ?_
      refine z_g0 (f := (μ 0)) (v := .ref (G.1 + 79)) 2 hx hb hts hown hK hZ zk0 rfl (by decide) q228 rfl dX6_begin_31 ?_
      refine lv_aload_n hx hb dX6_begin_34 rfl (lv_at hl 0 rfl) ?_
      refine z_g0 (f := (μ 0)) (v := .ref (G.1 + 1)) 0 hx hb hts hown hK hZ zk0 rfl (by decide) q226 rfl dX6_begin_35 ?_
      refine z_cVv (As := [.ref (G.1 + 1)]) (rest := []) hx hb hml hown hts hl hK hZ hS (c_X2_push l G μ hh hfh o ho ho4 z hz hz4 fb hfb T I hT hI hT6 hI24) (z_G q289 q290 q291 q6 q292) hdX2_push ⟨Nat.le_of_ble_eq_true rfl, Nat.le_of_ble_eq_true rfl⟩ zk79 (by decide) rfl rfl rfl rfl (Nat.le_of_ble_eq_true rfl) dX6_begin_38 ⟨(Nat.zero_le _), (Nat.zero_le _)⟩ (fun H locs hZ hS => ?_)
      refine lv_aload_n hx hb dX6_begin_41 rfl (lv_at hl 0 rfl) ?_
      refine z_g0 (f := ((zp μ o z T I) 0)) (v := .ref (G.1 + 1)) 0 hx hb hts hown hK hZ zk0 rfl (by decide) q226 rfl dX6_begin_42 ?_
      refine lv_iload_n hx hb dX6_begin_45 rfl (lv_at hl 1 rfl) ?_
      refine z_cVi (As := [.int x]) (rest := []) hx hb hml hown hts hl hK hZ hS (c_X1_addTenancy l G (zp μ o z T I) fb ((zp_ne (by omega)).trans hfb) T hT ((nI_ltI (b := 6) (by omega) (by decide)).mp c_2) x) (z_G q449 q450 q451 q2 q452) hdX1_addTenancy ⟨Nat.le_of_ble_eq_true rfl, Nat.le_of_ble_eq_true rfl⟩ (zk_book hB1) (by decide) rfl rfl rfl rfl (Nat.le_of_ble_eq_true rfl) dX6_begin_46 ⟨(Nat.zero_le _), (Nat.zero_le _)⟩ (fun H locs hZ hS => ?_)
      exact z_iret hx hb hr hlk hK hZ hS ⟨by rw [p_begin, if_pos c_1, if_pos c_2], by rw [p_begin, if_pos c_1, if_pos c_2]⟩ dX6_begin_49
    · refine lv_bipush (v := (-3)) hx hb dX6_begin_27 (by decide) ?_
      exact z_iret hx hb hr hlk hK hZ hS ⟨by rw [p_begin, if_pos c_1, if_neg c_2], by rw [p_begin, if_pos c_1, if_neg c_2]⟩ dX6_begin_29
  · refine lv_bipush (v := (-2)) hx hb dX6_begin_12 (by decide) ?_
    exact z_iret hx hb hr hlk hK hZ hS ⟨by rw [p_begin, if_neg c_1], by rw [p_begin, if_neg c_1]⟩ dX6_begin_14
def p_addItem (μ : zM) (fb : Nat → Int32) (o z T I : Nat) (t : Nat) (g : Nat → Int32) (a b x y : Int32) : Int32 × zM := if (s_out a 100 500000) = 0 then if (s_out b 30 9999) = 0 then if (s_out x 0 9999) = 0 then if (s_out y 0 100) = 0 then if (g 2) = 0 then if (g 1) = (fb 0) then if nI I < 24 then (nI I, (m_newI (zp μ o z T I) fb I (nI t) a b x y))
              else ((-3), μ)
            else ((-4), μ)
          else ((-4), μ)
        else ((-2), μ)
      else ((-2), μ)
    else ((-2), μ)
  else ((-2), μ)
theorem hdX6_addItem : yX6_addItem.cls = RX6 ∧ yX6_addItem.cls ≠ "java/lang/invoke/MethodHandle" ∧ yX6_addItem.cls ≠ "java/lang/invoke/VarHandle" ∧ (parseMethodDescriptor yX6_addItem.desc).map (fun d => d.parameters.length) = some 5 := by decide +kernel
set_option maxHeartbeats 4000000 in
set_option maxRecDepth 100000 in
theorem c_X6_addItem (l : Launch) (G : zG) (μ : zM) (fb hh : Nat → Int32) (hfb : μ 1 = fb) (hfh : μ 79 = hh) (T I o z : Nat) (hT : fb 3 = nI T) (hI : fb 4 = nI I) (hT6 : T ≤ 6) (hI24 : I ≤ 24) (ho : hh 1 = nI o) (hz : hh 2 = nI z) (ho4 : o < 4) (hz4 : z ≤ 4) (t : Nat) (ht : t < T) (g : Nat → Int32) (hg : μ (1 + (3 + 2 * t)) = g) (a b x y : Int32) : zMet l G yX6_addItem cX6_addItem 7 (some .int) 4 88 [.ref (G.1 + 0), .int (nI t), .int a, .int b, .int x, .int y] μ (zQi G (p_addItem μ fb o z T I t g a b x y).1 (p_addItem μ fb o z T I t g a b x y).2) := by
  refine z_start (lv := [(0, .ref (G.1 + 0)), (1, .int (nI t)), (2, .int a), (3, .int b), (4, .int x), (5, .int y)]) (by decide) (Nat.le_of_ble_eq_true rfl) rfl ?_
  intro p e s m args below meth c ls hx hb hml hr hlk hts hown hK hZ hS hl
  have hown : s.vm.findClass RX6 = some m.cls := hown
  refine lv_aload_n hx hb dX6_addItem_0 rfl (lv_at hl 0 rfl) ?_
  refine z_g0 (f := (μ 0)) (v := .ref (G.1 + 1)) 0 hx hb hts hown hK hZ zk0 rfl (by decide) q226 rfl dX6_addItem_1 ?_
  refine lv_iload_n hx hb dX6_addItem_4 rfl (lv_at hl 1 rfl) ?_
  refine z_cVr (As := [.int (nI t)]) (rest := []) hx hb hml hown hts hl hK hZ hS (c_X1_tenancyAt_ok l G μ 1 hB1 fb hfb T t hT hT6 (by omega)) (z_G q306 q262 q263 q2 q264) hdX1_tenancyAt ⟨Nat.le_of_ble_eq_true rfl, Nat.le_of_ble_eq_true rfl⟩ (zk_book hB1) (by decide) rfl rfl rfl rfl (Nat.le_of_ble_eq_true rfl) dX6_addItem_5 ⟨(Nat.zero_le _), (Nat.zero_le _)⟩ (fun H locs hZ hS => ?_)
  refine lv_astore (lv' := [(6, .ref (G.1 + (1 + (3 + 2 * t)))), (0, .ref (G.1 + 0)), (1, .int (nI t)), (2, .int a), (3, .int b), (4, .int x), (5, .int y)]) hx hb dX6_addItem_8 hl (by decide) rfl (fun ls hl => ?_)
  refine lv_aload hx hb dX6_addItem_10 (lv_at hl 0 rfl) ?_
  refine lv_ifnonnull (tgt := 17) hx hb dX6_addItem_12 (by decide) ?_
  refine lv_iload_n hx hb dX6_addItem_17 rfl (lv_at hl 3 rfl) ?_
  refine lv_bipush (v := 100) hx hb dX6_addItem_18 (by decide) ?_
  refine lv_ldc hx hb hown (hts _ q462) dX6_addItem_20 ?_
  refine z_cSi (As := [.int a, .int 100, .int 500000]) (rest := []) hx hb hml hown hts hl hK hZ hS (c_X6_outside l G μ a 100 500000) (z_GS q358 q359 q1 q360) hdX6_outside ⟨Nat.le_of_ble_eq_true rfl, Nat.le_of_ble_eq_true rfl⟩ rfl rfl (Nat.le_of_ble_eq_true rfl) dX6_addItem_22 ⟨(Nat.zero_le _), (Nat.zero_le _)⟩ (fun H locs hZ hS => ?_)
  refine lv_if_ne (tgt := 63) hx hb dX6_addItem_25 (by decide) (fun c_1 => ?_) (fun c_1 => ?_)
  · refine lv_bipush (v := (-2)) hx hb dX6_addItem_63 (by decide) ?_
    exact z_iret hx hb hr hlk hK hZ hS ⟨by rw [p_addItem, if_neg c_1], by rw [p_addItem, if_neg c_1]⟩ dX6_addItem_65
  · refine lv_iload_n hx hb dX6_addItem_28 rfl (lv_at hl 4 rfl) ?_
    refine lv_bipush (v := 30) hx hb dX6_addItem_29 (by decide) ?_
    refine lv_sipush (v := 9999) hx hb dX6_addItem_31 (by decide) ?_
    refine z_cSi (As := [.int b, .int 30, .int 9999]) (rest := []) hx hb hml hown hts hl hK hZ hS (c_X6_outside l G μ b 30 9999) (z_GS q358 q359 q1 q360) hdX6_outside ⟨Nat.le_of_ble_eq_true rfl, Nat.le_of_ble_eq_true rfl⟩ rfl rfl (Nat.le_of_ble_eq_true rfl) dX6_addItem_34 ⟨(Nat.zero_le _), (Nat.zero_le _)⟩ (fun H locs hZ hS => ?_)
    refine lv_if_ne (tgt := 63) hx hb dX6_addItem_37 (by decide) (fun c_2 => ?_) (fun c_2 => ?_)
    · refine lv_bipush (v := (-2)) hx hb dX6_addItem_63 (by decide) ?_
      exact z_iret hx hb hr hlk hK hZ hS ⟨by rw [p_addItem, if_pos c_1, if_neg c_2], by rw [p_addItem, if_pos c_1, if_neg c_2]⟩ dX6_addItem_65
    · refine lv_iload hx hb dX6_addItem_40 (lv_at hl 5 rfl) ?_
      refine lv_iconst (v := 0) hx hb dX6_addItem_42 (by decide) ?_
      refine lv_sipush (v := 9999) hx hb dX6_addItem_43 (by decide) ?_
      refine z_cSi (As := [.int x, .int 0, .int 9999]) (rest := []) hx hb hml hown hts hl hK hZ hS (c_X6_outside l G μ x 0 9999) (z_GS q358 q359 q1 q360) hdX6_outside ⟨Nat.le_of_ble_eq_true rfl, Nat.le_of_ble_eq_true rfl⟩ rfl rfl (Nat.le_of_ble_eq_true rfl) dX6_addItem_46 ⟨(Nat.zero_le _), (Nat.zero_le _)⟩ (fun H locs hZ hS => ?_)
      refine lv_if_ne (tgt := 63) hx hb dX6_addItem_49 (by decide) (fun c_3 => ?_) (fun c_3 => ?_)
      · refine lv_bipush (v := (-2)) hx hb dX6_addItem_63 (by decide) ?_
        exact z_iret hx hb hr hlk hK hZ hS ⟨by rw [p_addItem, if_pos c_1, if_pos c_2, if_neg c_3], by rw [p_addItem, if_pos c_1, if_pos c_2, if_neg c_3]⟩ dX6_addItem_65
      · refine lv_iload hx hb dX6_addItem_52 (lv_at hl 6 rfl) ?_
        refine lv_iconst (v := 0) hx hb dX6_addItem_54 (by decide) ?_
        refine lv_bipush (v := 100) hx hb dX6_addItem_55 (by decide) ?_
        refine z_cSi (As := [.int y, .int 0, .int 100]) (rest := []) hx hb hml hown hts hl hK hZ hS (c_X6_outside l G μ y 0 100) (z_GS q358 q359 q1 q360) hdX6_outside ⟨Nat.le_of_ble_eq_true rfl, Nat.le_of_ble_eq_true rfl⟩ rfl rfl (Nat.le_of_ble_eq_true rfl) dX6_addItem_57 ⟨(Nat.zero_le _), (Nat.zero_le _)⟩ (fun H locs hZ hS => ?_)
        refine lv_if_eq (tgt := 66) hx hb dX6_addItem_60 (by decide) (fun c_4 => ?_) (fun c_4 => ?_)
        · refine lv_aload hx hb dX6_addItem_66 (lv_at hl 0 rfl) ?_
          refine z_g4 (f := g) (v := .int (g 2)) 2 hx hb hts hown hK hZ (zk_ten hB1 (by omega)) hg (by decide) q66 rfl dX6_addItem_68 ?_
          refine lv_if_ne (tgt := 89) hx hb dX6_addItem_71 (by decide) (fun c_5 => ?_) (fun c_5 => ?_)
          · refine lv_bipush (v := (-4)) hx hb dX6_addItem_89 (by decide) ?_
            exact z_iret hx hb hr hlk hK hZ hS ⟨by rw [p_addItem, if_pos c_1, if_pos c_2, if_pos c_3, if_pos c_4, if_neg c_5], by rw [p_addItem, if_pos c_1, if_pos c_2, if_pos c_3, if_pos c_4, if_neg c_5]⟩ dX6_addItem_91
          · refine lv_aload hx hb dX6_addItem_74 (lv_at hl 0 rfl) ?_
            refine z_g4 (f := g) (v := .int (g 1)) 1 hx hb hts hown hK hZ (zk_ten hB1 (by omega)) hg (by decide) q63 rfl dX6_addItem_76 ?_
            refine lv_aload_n hx hb dX6_addItem_79 rfl (lv_at hl 1 rfl) ?_
            refine z_g0 (f := (μ 0)) (v := .ref (G.1 + 1)) 0 hx hb hts hown hK hZ zk0 rfl (by decide) q226 rfl dX6_addItem_80 ?_
            refine z_g1 (f := fb) (v := .int (fb 0)) 0 hx hb hts hown hK hZ (zk_book hB1) hfb (by decide) q147 rfl dX6_addItem_83 ?_
            refine lv_icmp_eq (tgt := 92) hx hb dX6_addItem_86 (by decide) (fun c_6 => ?_) (fun c_6 => ?_)
            · refine lv_aload_n hx hb dX6_addItem_92 rfl (lv_at hl 1 rfl) ?_
              refine z_g0 (f := (μ 0)) (v := .ref (G.1 + 1)) 0 hx hb hts hown hK hZ zk0 rfl (by decide) q226 rfl dX6_addItem_93 ?_
              refine z_g1 (f := fb) (v := .int (nI I)) 4 hx hb hts hown hK hZ (zk_book hB1) hfb (by decide) q155 (congrArg (fun z => some (Value.int z)) hI) dX6_addItem_96 ?_
              refine lv_bipush (v := 24) hx hb dX6_addItem_99 (by decide) ?_
              refine lv_icmp_lt (tgt := 107) hx hb dX6_addItem_101 (by decide) (fun c_7 => ?_) (fun c_7 => ?_)
              · refine lv_aload_n hx hb dX6_addItem_107 rfl (lv_at hl 1 rfl) ?_
                refine z_g0 (f := (μ 0)) (v := .ref (G.1 + 79)) 2 hx hb hts hown hK hZ zk0 rfl (by decide) q228 rfl dX6_addItem_108 ?_
                refine lv_aload_n hx hb dX6_addItem_111 rfl (lv_at hl 1 rfl) ?_
                refine z_g0 (f := (μ 0)) (v := .ref (G.1 + 1)) 0 hx hb hts hown hK hZ zk0 rfl (by decide) q226 rfl dX6_addItem_112 ?_
                refine z_cVv (As := [.ref (G.1 + 1)]) (rest := []) hx hb hml hown hts hl hK hZ hS (c_X2_push l G μ hh hfh o ho ho4 z hz hz4 fb hfb T I hT hI hT6 hI24) (z_G q289 q290 q291 q6 q292) hdX2_push ⟨Nat.le_of_ble_eq_true rfl, Nat.le_of_ble_eq_true rfl⟩ zk79 (by decide) rfl rfl rfl rfl (Nat.le_of_ble_eq_true rfl) dX6_addItem_115 ⟨(Nat.zero_le _), (Nat.zero_le _)⟩ (fun H locs hZ hS => ?_)
                refine lv_aload_n hx hb dX6_addItem_118 rfl (lv_at hl 1 rfl) ?_
                refine z_g0 (f := ((zp μ o z T I) 0)) (v := .ref (G.1 + 1)) 0 hx hb hts hown hK hZ zk0 rfl (by decide) q226 rfl dX6_addItem_119 ?_
                refine lv_iload_n hx hb dX6_addItem_122 rfl (lv_at hl 2 rfl) ?_
                refine lv_iload_n hx hb dX6_addItem_123 rfl (lv_at hl 3 rfl) ?_
                refine lv_iload_n hx hb dX6_addItem_124 rfl (lv_at hl 4 rfl) ?_
                refine lv_iload hx hb dX6_addItem_125 (lv_at hl 5 rfl) ?_
                refine lv_iload hx hb dX6_addItem_127 (lv_at hl 6 rfl) ?_
                refine z_cVi (As := [.int (nI t), .int a, .int b, .int x, .int y]) (rest := []) hx hb hml hown hts hl hK hZ hS (c_X1_newItem l G (zp μ o z T I) fb ((zp_ne (by omega)).trans hfb) I hI ((nI_ltI (b := 24) (by omega) (by decide)).mp c_7) (nI t) a b x y) (z_G q463 q464 q465 q2 q466) hdX1_newItem ⟨Nat.le_of_ble_eq_true rfl, Nat.le_of_ble_eq_true rfl⟩ (zk_book hB1) (by decide) rfl rfl rfl rfl (Nat.le_of_ble_eq_true rfl) dX6_addItem_129 ⟨(Nat.zero_le _), (Nat.zero_le _)⟩ (fun H locs hZ hS => ?_)
                exact z_iret hx hb hr hlk hK hZ hS ⟨by rw [p_addItem, if_pos c_1, if_pos c_2, if_pos c_3, if_pos c_4, if_pos c_5, if_pos c_6, if_pos c_7], by rw [p_addItem, if_pos c_1, if_pos c_2, if_pos c_3, if_pos c_4, if_pos c_5, if_pos c_6, if_pos c_7]⟩ dX6_addItem_132
              · refine lv_bipush (v := (-3)) hx hb dX6_addItem_104 (by decide) ?_
                exact z_iret hx hb hr hlk hK hZ hS ⟨by rw [p_addItem, if_pos c_1, if_pos c_2, if_pos c_3, if_pos c_4, if_pos c_5, if_pos c_6, if_neg c_7], by rw [p_addItem, if_pos c_1, if_pos c_2, if_pos c_3, if_pos c_4, if_pos c_5, if_pos c_6, if_neg c_7]⟩ dX6_addItem_106
            · refine lv_bipush (v := (-4)) hx hb dX6_addItem_89 (by decide) ?_
              exact z_iret hx hb hr hlk hK hZ hS ⟨by rw [p_addItem, if_pos c_1, if_pos c_2, if_pos c_3, if_pos c_4, if_pos c_5, if_neg c_6], by rw [p_addItem, if_pos c_1, if_pos c_2, if_pos c_3, if_pos c_4, if_pos c_5, if_neg c_6]⟩ dX6_addItem_91
        · refine lv_bipush (v := (-2)) hx hb dX6_addItem_63 (by decide) ?_
          exact z_iret hx hb hr hlk hK hZ hS ⟨by rw [p_addItem, if_pos c_1, if_pos c_2, if_pos c_3, if_neg c_4], by rw [p_addItem, if_pos c_1, if_pos c_2, if_pos c_3, if_neg c_4]⟩ dX6_addItem_65
set_option maxHeartbeats 4000000 in
set_option maxRecDepth 100000 in
theorem c_X6_addItem_no (l : Launch) (G : zG) (μ : zM) (fb : Nat → Int32) (hfb : μ 1 = fb) (T I : Nat) (hT : fb 3 = nI T) (hI : fb 4 = nI I) (hT6 : T ≤ 6) (hI24 : I ≤ 24) (x : Int32) (hxx : x < 0 ∨ nI T ≤ x) (a : Int32) (b : Int32) (y : Int32) (w : Int32) : zMet l G yX6_addItem cX6_addItem 7 (some .int) 1 21 [.ref (G.1 + 0), .int x, .int a, .int b, .int y, .int w] μ (zQi G (-1) μ) := by
  refine z_start (lv := [(0, .ref (G.1 + 0)), (1, .int x), (2, .int a), (3, .int b), (4, .int y), (5, .int w)]) (by decide) (Nat.le_of_ble_eq_true rfl) rfl ?_
  intro p e s m args below meth c ls hx hb hml hr hlk hts hown hK hZ hS hl
  have hown : s.vm.findClass RX6 = some m.cls := hown
  refine lv_aload_n hx hb dX6_addItem_0 rfl (lv_at hl 0 rfl) ?_
  refine z_g0 (f := (μ 0)) (v := .ref (G.1 + 1)) 0 hx hb hts hown hK hZ zk0 rfl (by decide) q226 rfl dX6_addItem_1 ?_
  refine lv_iload_n hx hb dX6_addItem_4 rfl (lv_at hl 1 rfl) ?_
  refine z_cVn (As := [.int x]) (rest := []) hx hb hml hown hts hl hK hZ hS (c_X1_tenancyAt_no l G μ 1 hB1 fb hfb T hT x hxx) (z_G q306 q262 q263 q2 q264) hdX1_tenancyAt ⟨Nat.le_of_ble_eq_true rfl, Nat.le_of_ble_eq_true rfl⟩ (zk_book hB1) (by decide) rfl rfl rfl rfl (Nat.le_of_ble_eq_true rfl) dX6_addItem_5 ⟨(Nat.zero_le _), (Nat.zero_le _)⟩ (fun H locs hZ hS => ?_)
  refine lv_astoreN (lv' := [(6, .null), (0, .ref (G.1 + 0)), (1, .int x), (2, .int a), (3, .int b), (4, .int y), (5, .int w)]) hx hb dX6_addItem_8 hl (by decide) rfl (fun ls hl => ?_)
  refine lv_aloadN hx hb dX6_addItem_10 (lv_at hl 0 rfl) ?_
  refine lv_ifnonnullN hx hb dX6_addItem_12 ?_
  refine lv_iconst (v := (-1)) hx hb dX6_addItem_15 (by decide) ?_
  exact z_iret hx hb hr hlk hK hZ hS ⟨rfl, rfl⟩ dX6_addItem_16
def p_end (μ : zM) (fb : Nat → Int32) (o z T I : Nat) (t : Nat) (g : Nat → Int32) : Int32 × zM := if (g 2) = 0 then ((s_X1_daysOf fb (zu (zu g 2 1) 3 (fb 0))), (m_exp (zr (zp μ o z T I) (1 + (3 + 2 * t)) (zu (zu g 2 1) 3 (fb 0))) t (s_X1_daysOf fb (zu (zu g 2 1) 3 (fb 0))) I))
  else ((-4), μ)
theorem hdX6_end : yX6_end.cls = RX6 ∧ yX6_end.cls ≠ "java/lang/invoke/MethodHandle" ∧ yX6_end.cls ≠ "java/lang/invoke/VarHandle" ∧ (parseMethodDescriptor yX6_end.desc).map (fun d => d.parameters.length) = some 1 := by decide +kernel
set_option maxHeartbeats 4000000 in
set_option maxRecDepth 100000 in
theorem c_X6_end (l : Launch) (G : zG) (μ : zM) (fb hh : Nat → Int32) (hfb : μ 1 = fb) (hfh : μ 79 = hh) (T I o z : Nat) (hT : fb 3 = nI T) (hI : fb 4 = nI I) (hT6 : T ≤ 6) (hI24 : I ≤ 24) (ho : hh 1 = nI o) (hz : hh 2 = nI z) (ho4 : o < 4) (hz4 : z ≤ 4) (t : Nat) (ht : t < T) (g : Nat → Int32) (hg : μ (1 + (3 + 2 * t)) = g) : zMet l G yX6_end cX6_end 3 (some .int) 6 125 [.ref (G.1 + 0), .int (nI t)] μ (zQi G (p_end μ fb o z T I t g).1 (p_end μ fb o z T I t g).2) := by
  refine z_start (lv := [(0, .ref (G.1 + 0)), (1, .int (nI t))]) (by decide) (Nat.le_of_ble_eq_true rfl) rfl ?_
  intro p e s m args below meth c ls hx hb hml hr hlk hts hown hK hZ hS hl
  have hown : s.vm.findClass RX6 = some m.cls := hown
  refine lv_aload_n hx hb dX6_end_0 rfl (lv_at hl 0 rfl) ?_
  refine z_g0 (f := (μ 0)) (v := .ref (G.1 + 1)) 0 hx hb hts hown hK hZ zk0 rfl (by decide) q226 rfl dX6_end_1 ?_
  refine lv_iload_n hx hb dX6_end_4 rfl (lv_at hl 1 rfl) ?_
  refine z_cVr (As := [.int (nI t)]) (rest := []) hx hb hml hown hts hl hK hZ hS (c_X1_tenancyAt_ok l G μ 1 hB1 fb hfb T t hT hT6 (by omega)) (z_G q306 q262 q263 q2 q264) hdX1_tenancyAt ⟨Nat.le_of_ble_eq_true rfl, Nat.le_of_ble_eq_true rfl⟩ (zk_book hB1) (by decide) rfl rfl rfl rfl (Nat.le_of_ble_eq_true rfl) dX6_end_5 ⟨(Nat.zero_le _), (Nat.zero_le _)⟩ (fun H locs hZ hS => ?_)
  refine lv_astore_n (lv' := [(2, .ref (G.1 + (1 + (3 + 2 * t)))), (0, .ref (G.1 + 0)), (1, .int (nI t))]) hx hb dX6_end_8 rfl hl (by decide) rfl (fun ls hl => ?_)
  refine lv_aload_n hx hb dX6_end_9 rfl (lv_at hl 0 rfl) ?_
  refine lv_ifnonnull (tgt := 15) hx hb dX6_end_10 (by decide) ?_
  refine lv_aload_n hx hb dX6_end_15 rfl (lv_at hl 0 rfl) ?_
  refine z_g4 (f := g) (v := .int (g 2)) 2 hx hb hts hown hK hZ (zk_ten hB1 (by omega)) hg (by decide) q66 rfl dX6_end_16 ?_
  refine lv_if_eq (tgt := 25) hx hb dX6_end_19 (by decide) (fun c_1 => ?_) (fun c_1 => ?_)
  · refine lv_aload_n hx hb dX6_end_25 rfl (lv_at hl 1 rfl) ?_
    refine z_g0 (f := (μ 0)) (v := .ref (G.1 + 79)) 2 hx hb hts hown hK hZ zk0 rfl (by decide) q228 rfl dX6_end_26 ?_
    refine lv_aload_n hx hb dX6_end_29 rfl (lv_at hl 1 rfl) ?_
    refine z_g0 (f := (μ 0)) (v := .ref (G.1 + 1)) 0 hx hb hts hown hK hZ zk0 rfl (by decide) q226 rfl dX6_end_30 ?_
    refine z_cVv (As := [.ref (G.1 + 1)]) (rest := []) hx hb hml hown hts hl hK hZ hS (c_X2_push l G μ hh hfh o ho ho4 z hz hz4 fb hfb T I hT hI hT6 hI24) (z_G q289 q290 q291 q6 q292) hdX2_push ⟨Nat.le_of_ble_eq_true rfl, Nat.le_of_ble_eq_true rfl⟩ zk79 (by decide) rfl rfl rfl rfl (Nat.le_of_ble_eq_true rfl) dX6_end_33 ⟨(Nat.zero_le _), (Nat.zero_le _)⟩ (fun H locs hZ hS => ?_)
    refine lv_aload_n hx hb dX6_end_36 rfl (lv_at hl 0 rfl) ?_
    refine lv_iconst (v := 1) hx hb dX6_end_37 (by decide) ?_
    refine z_p4 (f := g) (μ1 := (zr (zp μ o z T I) (1 + (3 + 2 * t)) (zu g 2 1))) 2 hx hb hts hown hK hZ hS (zk_ten hB1 (by omega)) ((zp_ne (by omega)).trans hg) (by decide) q66 rfl pfd_I rfl rfl dX6_end_38 (fun H locs hZ hS => ?_)
    refine lv_aload_n hx hb dX6_end_41 rfl (lv_at hl 0 rfl) ?_
    refine lv_aload_n hx hb dX6_end_42 rfl (lv_at hl 1 rfl) ?_
    refine z_g0 (f := ((zr (zp μ o z T I) (1 + (3 + 2 * t)) (zu g 2 1)) 0)) (v := .ref (G.1 + 1)) 0 hx hb hts hown hK hZ zk0 rfl (by decide) q226 rfl dX6_end_43 ?_
    refine z_g1 (f := fb) (v := .int (fb 0)) 0 hx hb hts hown hK hZ (zk_book hB1) (zr_at ((zp_ne (by omega)).trans hfb) (by omega)) (by decide) q147 rfl dX6_end_46 ?_
    refine z_p4 (f := (zu g 2 1)) (μ1 := (zr (zp μ o z T I) (1 + (3 + 2 * t)) (zu (zu g 2 1) 3 (fb 0)))) 3 hx hb hts hown hK hZ hS (zk_ten hB1 (by omega)) zr_same (by decide) q69 rfl pfd_I rfl zr_zr dX6_end_49 (fun H locs hZ hS => ?_)
    refine lv_aload_n hx hb dX6_end_52 rfl (lv_at hl 1 rfl) ?_
    refine z_g0 (f := ((zr (zp μ o z T I) (1 + (3 + 2 * t)) (zu (zu g 2 1) 3 (fb 0))) 0)) (v := .ref (G.1 + 1)) 0 hx hb hts hown hK hZ zk0 rfl (by decide) q226 rfl dX6_end_53 ?_
    refine lv_iload_n hx hb dX6_end_56 rfl (lv_at hl 2 rfl) ?_
    refine z_cVv (As := [.int (nI t)]) (rest := []) hx hb hml hown hts hl hK hZ hS (c_X1_expectFairConditions l G (zr (zp μ o z T I) (1 + (3 + 2 * t)) (zu (zu g 2 1) 3 (fb 0))) fb (zr_at ((zp_ne (by omega)).trans hfb) (by omega)) T hT hT6 I hI hI24 t ht (zu (zu g 2 1) 3 (fb 0)) zr_same) (z_G q480 q481 q482 q2 q483) hdX1_expectFairConditions ⟨Nat.le_of_ble_eq_true rfl, Nat.le_of_ble_eq_true rfl⟩ (zk_book hB1) (by decide) rfl rfl rfl rfl (Nat.le_of_ble_eq_true rfl) dX6_end_57 ⟨(Nat.zero_le _), (Nat.zero_le _)⟩ (fun H locs hZ hS => ?_)
    refine lv_aload_n hx hb dX6_end_60 rfl (lv_at hl 1 rfl) ?_
    refine z_g0 (f := ((m_exp (zr (zp μ o z T I) (1 + (3 + 2 * t)) (zu (zu g 2 1) 3 (fb 0))) t (s_X1_daysOf fb (zu (zu g 2 1) 3 (fb 0))) I) 0)) (v := .ref (G.1 + 1)) 0 hx hb hts hown hK hZ zk0 rfl (by decide) q226 rfl dX6_end_61 ?_
    refine lv_aload_n hx hb dX6_end_64 rfl (lv_at hl 0 rfl) ?_
    refine z_cVi (As := [.ref (G.1 + (1 + (3 + 2 * t)))]) (rest := []) hx hb hml hown hts hl hK hZ hS (c_X1_daysOf l G (m_exp (zr (zp μ o z T I) (1 + (3 + 2 * t)) (zu (zu g 2 1) 3 (fb 0))) t (s_X1_daysOf fb (zu (zu g 2 1) 3 (fb 0))) I) 1 fb (zk_book hB1) ((m_exp_ne (fun i hi => by omega)).trans (zr_at ((zp_ne (by omega)).trans hfb) (by omega))) (1 + (3 + 2 * t)) (zu (zu g 2 1) 3 (fb 0)) (zk_ten hB1 (by omega)) ((m_exp_ne (fun i hi => by omega)).trans zr_same)) (z_G q328 q329 q330 q2 q331) hdX1_daysOf ⟨Nat.le_of_ble_eq_true rfl, Nat.le_of_ble_eq_true rfl⟩ (zk_book hB1) (by decide) rfl rfl rfl rfl (Nat.le_of_ble_eq_true rfl) dX6_end_65 ⟨(Nat.zero_le _), (Nat.zero_le _)⟩ (fun H locs hZ hS => ?_)
    exact z_iret hx hb hr hlk hK hZ hS ⟨by rw [p_end, if_pos c_1], by rw [p_end, if_pos c_1]⟩ dX6_end_68
  · refine lv_bipush (v := (-4)) hx hb dX6_end_22 (by decide) ?_
    exact z_iret hx hb hr hlk hK hZ hS ⟨by rw [p_end, if_neg c_1], by rw [p_end, if_neg c_1]⟩ dX6_end_24
set_option maxHeartbeats 4000000 in
set_option maxRecDepth 100000 in
theorem c_X6_end_no (l : Launch) (G : zG) (μ : zM) (fb : Nat → Int32) (hfb : μ 1 = fb) (T I : Nat) (hT : fb 3 = nI T) (hI : fb 4 = nI I) (hT6 : T ≤ 6) (hI24 : I ≤ 24) (x : Int32) (hxx : x < 0 ∨ nI T ≤ x) : zMet l G yX6_end cX6_end 3 (some .int) 1 21 [.ref (G.1 + 0), .int x] μ (zQi G (-1) μ) := by
  refine z_start (lv := [(0, .ref (G.1 + 0)), (1, .int x)]) (by decide) (Nat.le_of_ble_eq_true rfl) rfl ?_
  intro p e s m args below meth c ls hx hb hml hr hlk hts hown hK hZ hS hl
  have hown : s.vm.findClass RX6 = some m.cls := hown
  refine lv_aload_n hx hb dX6_end_0 rfl (lv_at hl 0 rfl) ?_
  refine z_g0 (f := (μ 0)) (v := .ref (G.1 + 1)) 0 hx hb hts hown hK hZ zk0 rfl (by decide) q226 rfl dX6_end_1 ?_
  refine lv_iload_n hx hb dX6_end_4 rfl (lv_at hl 1 rfl) ?_
  refine z_cVn (As := [.int x]) (rest := []) hx hb hml hown hts hl hK hZ hS (c_X1_tenancyAt_no l G μ 1 hB1 fb hfb T hT x hxx) (z_G q306 q262 q263 q2 q264) hdX1_tenancyAt ⟨Nat.le_of_ble_eq_true rfl, Nat.le_of_ble_eq_true rfl⟩ (zk_book hB1) (by decide) rfl rfl rfl rfl (Nat.le_of_ble_eq_true rfl) dX6_end_5 ⟨(Nat.zero_le _), (Nat.zero_le _)⟩ (fun H locs hZ hS => ?_)
  refine lv_astore_nN (lv' := [(2, .null), (0, .ref (G.1 + 0)), (1, .int x)]) hx hb dX6_end_8 rfl hl (by decide) rfl (fun ls hl => ?_)
  refine lv_aload_nN hx hb dX6_end_9 rfl (lv_at hl 0 rfl) ?_
  refine lv_ifnonnullN hx hb dX6_end_10 ?_
  refine lv_iconst (v := (-1)) hx hb dX6_end_13 (by decide) ?_
  exact z_iret hx hb hr hlk hK hZ hS ⟨rfl, rfl⟩ dX6_end_14
def p_inspect (μ : zM) (fb : Nat → Int32) (o z T I : Nat) (j : Nat) (f g : Nat → Int32) (x : Int32) : Int32 × zM := if (s_out x 0 100) = 0 then if (g 2) = 1 then if (f 5) = x then ((-5), μ)
      else (((w_X3_tellEnd f (s_X1_daysOf fb g) x) 6), (zr (zp μ o z T I) (1 + (15 + j)) (w_X3_tellEnd f (s_X1_daysOf fb g) x)))
    else ((-4), μ)
  else ((-2), μ)
theorem hdX6_inspect : yX6_inspect.cls = RX6 ∧ yX6_inspect.cls ≠ "java/lang/invoke/MethodHandle" ∧ yX6_inspect.cls ≠ "java/lang/invoke/VarHandle" ∧ (parseMethodDescriptor yX6_inspect.desc).map (fun d => d.parameters.length) = some 2 := by decide +kernel
set_option maxHeartbeats 4000000 in
set_option maxRecDepth 100000 in
theorem c_X6_inspect (l : Launch) (G : zG) (μ : zM) (fb hh : Nat → Int32) (hfb : μ 1 = fb) (hfh : μ 79 = hh) (T I o z : Nat) (hT : fb 3 = nI T) (hI : fb 4 = nI I) (hT6 : T ≤ 6) (hI24 : I ≤ 24) (ho : hh 1 = nI o) (hz : hh 2 = nI z) (ho4 : o < 4) (hz4 : z ≤ 4) (j h : Nat) (hj : j < I) (hh0 : h < T) (f : Nat → Int32) (hf : μ (1 + (15 + j)) = f) (he : f 0 = nI h) (g : Nat → Int32) (hg : μ (1 + (3 + 2 * h)) = g) (x : Int32) : zMet l G yX6_inspect cX6_inspect 4 (some .int) 5 101 [.ref (G.1 + 0), .int (nI j), .int x] μ (zQi G (p_inspect μ fb o z T I j f g x).1 (p_inspect μ fb o z T I j f g x).2) := by
  refine z_start (lv := [(0, .ref (G.1 + 0)), (1, .int (nI j)), (2, .int x)]) (by decide) (Nat.le_of_ble_eq_true rfl) rfl ?_
  intro p e s m args below meth c ls hx hb hml hr hlk hts hown hK hZ hS hl
  have hown : s.vm.findClass RX6 = some m.cls := hown
  refine lv_aload_n hx hb dX6_inspect_0 rfl (lv_at hl 0 rfl) ?_
  refine z_g0 (f := (μ 0)) (v := .ref (G.1 + 1)) 0 hx hb hts hown hK hZ zk0 rfl (by decide) q226 rfl dX6_inspect_1 ?_
  refine lv_iload_n hx hb dX6_inspect_4 rfl (lv_at hl 1 rfl) ?_
  refine z_cVr (As := [.int (nI j)]) (rest := []) hx hb hml hown hts hl hK hZ hS (c_X1_itemAt_ok l G μ 1 hB1 fb hfb I j hI hI24 (by omega)) (z_G q394 q274 q275 q2 q276) hdX1_itemAt ⟨Nat.le_of_ble_eq_true rfl, Nat.le_of_ble_eq_true rfl⟩ (zk_book hB1) (by decide) rfl rfl rfl rfl (Nat.le_of_ble_eq_true rfl) dX6_inspect_5 ⟨(Nat.zero_le _), (Nat.zero_le _)⟩ (fun H locs hZ hS => ?_)
  refine lv_astore_n (lv' := [(3, .ref (G.1 + (1 + (15 + j)))), (0, .ref (G.1 + 0)), (1, .int (nI j)), (2, .int x)]) hx hb dX6_inspect_8 rfl hl (by decide) rfl (fun ls hl => ?_)
  refine lv_aload_n hx hb dX6_inspect_9 rfl (lv_at hl 0 rfl) ?_
  refine lv_ifnonnull (tgt := 15) hx hb dX6_inspect_10 (by decide) ?_
  refine lv_iload_n hx hb dX6_inspect_15 rfl (lv_at hl 3 rfl) ?_
  refine lv_iconst (v := 0) hx hb dX6_inspect_16 (by decide) ?_
  refine lv_bipush (v := 100) hx hb dX6_inspect_17 (by decide) ?_
  refine z_cSi (As := [.int x, .int 0, .int 100]) (rest := []) hx hb hml hown hts hl hK hZ hS (c_X6_outside l G μ x 0 100) (z_GS q358 q359 q1 q360) hdX6_outside ⟨Nat.le_of_ble_eq_true rfl, Nat.le_of_ble_eq_true rfl⟩ rfl rfl (Nat.le_of_ble_eq_true rfl) dX6_inspect_19 ⟨(Nat.zero_le _), (Nat.zero_le _)⟩ (fun H locs hZ hS => ?_)
  refine lv_if_eq (tgt := 28) hx hb dX6_inspect_22 (by decide) (fun c_1 => ?_) (fun c_1 => ?_)
  · refine lv_aload_n hx hb dX6_inspect_28 rfl (lv_at hl 1 rfl) ?_
    refine z_g0 (f := (μ 0)) (v := .ref (G.1 + 1)) 0 hx hb hts hown hK hZ zk0 rfl (by decide) q226 rfl dX6_inspect_29 ?_
    refine lv_aload_n hx hb dX6_inspect_32 rfl (lv_at hl 0 rfl) ?_
    refine z_cVi (As := [.ref (G.1 + (1 + (15 + j)))]) (rest := []) hx hb hml hown hts hl hK hZ hS (c_X1_stateOf l G μ fb hfb (1 + (15 + j)) f (zk_item hB1 (by omega)) hf T h hT hT6 hh0 he g hg) (z_G q411 q412 q413 q2 q414) hdX1_stateOf ⟨Nat.le_of_ble_eq_true rfl, Nat.le_of_ble_eq_true rfl⟩ (zk_book hB1) (by decide) rfl rfl rfl rfl (Nat.le_of_ble_eq_true rfl) dX6_inspect_33 ⟨(Nat.zero_le _), (Nat.zero_le _)⟩ (fun H locs hZ hS => ?_)
    refine lv_iconst (v := 1) hx hb dX6_inspect_36 (by decide) ?_
    refine lv_icmp_eq (tgt := 43) hx hb dX6_inspect_37 (by decide) (fun c_2 => ?_) (fun c_2 => ?_)
    · refine lv_aload_n hx hb dX6_inspect_43 rfl (lv_at hl 0 rfl) ?_
      refine z_g6 (f := f) (v := .int (f 5)) 5 hx hb hts hown hK hZ (zk_item hB1 (by omega)) hf (by decide) q109 rfl dX6_inspect_44 ?_
      refine lv_iload_n hx hb dX6_inspect_47 rfl (lv_at hl 3 rfl) ?_
      refine lv_icmp_ne (tgt := 54) hx hb dX6_inspect_48 (by decide) (fun c_3 => ?_) (fun c_3 => ?_)
      · refine lv_aload_n hx hb dX6_inspect_54 rfl (lv_at hl 1 rfl) ?_
        refine z_g0 (f := (μ 0)) (v := .ref (G.1 + 79)) 2 hx hb hts hown hK hZ zk0 rfl (by decide) q228 rfl dX6_inspect_55 ?_
        refine lv_aload_n hx hb dX6_inspect_58 rfl (lv_at hl 1 rfl) ?_
        refine z_g0 (f := (μ 0)) (v := .ref (G.1 + 1)) 0 hx hb hts hown hK hZ zk0 rfl (by decide) q226 rfl dX6_inspect_59 ?_
        refine z_cVv (As := [.ref (G.1 + 1)]) (rest := []) hx hb hml hown hts hl hK hZ hS (c_X2_push l G μ hh hfh o ho ho4 z hz hz4 fb hfb T I hT hI hT6 hI24) (z_G q289 q290 q291 q6 q292) hdX2_push ⟨Nat.le_of_ble_eq_true rfl, Nat.le_of_ble_eq_true rfl⟩ zk79 (by decide) rfl rfl rfl rfl (Nat.le_of_ble_eq_true rfl) dX6_inspect_62 ⟨(Nat.zero_le _), (Nat.zero_le _)⟩ (fun H locs hZ hS => ?_)
        refine lv_aload_n hx hb dX6_inspect_65 rfl (lv_at hl 0 rfl) ?_
        refine lv_aload_n hx hb dX6_inspect_66 rfl (lv_at hl 1 rfl) ?_
        refine z_g0 (f := ((zp μ o z T I) 0)) (v := .ref (G.1 + 1)) 0 hx hb hts hown hK hZ zk0 rfl (by decide) q226 rfl dX6_inspect_67 ?_
        refine lv_aload_n hx hb dX6_inspect_70 rfl (lv_at hl 0 rfl) ?_
        refine z_cVi (As := [.ref (G.1 + (1 + (15 + j)))]) (rest := [.ref (G.1 + (1 + (15 + j)))]) hx hb hml hown hts hl hK hZ hS (c_X1_daysOfItem l G (zp μ o z T I) fb ((zp_ne (by omega)).trans hfb) (1 + (15 + j)) f (zk_item hB1 (by omega)) ((zp_ne (by omega)).trans hf) T h hT hT6 hh0 he g ((zp_ne (by omega)).trans hg)) (z_G q395 q396 q397 q2 q398) hdX1_daysOfItem ⟨Nat.le_of_ble_eq_true rfl, Nat.le_of_ble_eq_true rfl⟩ (zk_book hB1) (by decide) rfl rfl rfl rfl (Nat.le_of_ble_eq_true rfl) dX6_inspect_71 ⟨(Nat.zero_le _), (Nat.zero_le _)⟩ (fun H locs hZ hS => ?_)
        refine lv_iload_n hx hb dX6_inspect_74 rfl (lv_at hl 3 rfl) ?_
        refine z_cVv (As := [.int (s_X1_daysOf fb g), .int x]) (rest := []) hx hb hml hown hts hl hK hZ hS (c_X3_tellEnd l G (zp μ o z T I) (1 + (15 + j)) f (zk_item hB1 (by omega)) ((zp_ne (by omega)).trans hf) (s_X1_daysOf fb g) x) (z_G q505 q487 q488 q5 q489) hdX3_tellEnd ⟨Nat.le_of_ble_eq_true rfl, Nat.le_of_ble_eq_true rfl⟩ (zk_item hB1 (by omega)) (by decide) rfl rfl rfl rfl (Nat.le_of_ble_eq_true rfl) dX6_inspect_75 ⟨(Nat.zero_le _), (Nat.zero_le _)⟩ (fun H locs hZ hS => ?_)
        refine lv_aload_n hx hb dX6_inspect_78 rfl (lv_at hl 0 rfl) ?_
        refine z_g6 (f := (w_X3_tellEnd f (s_X1_daysOf fb g) x)) (v := .int ((w_X3_tellEnd f (s_X1_daysOf fb g) x) 6)) 6 hx hb hts hown hK hZ (zk_item hB1 (by omega)) zr_same (by decide) q111 rfl dX6_inspect_79 ?_
        exact z_iret hx hb hr hlk hK hZ hS ⟨by rw [p_inspect, if_pos c_1, if_pos c_2, if_neg c_3], by rw [p_inspect, if_pos c_1, if_pos c_2, if_neg c_3]⟩ dX6_inspect_82
      · refine lv_bipush (v := (-5)) hx hb dX6_inspect_51 (by decide) ?_
        exact z_iret hx hb hr hlk hK hZ hS ⟨by rw [p_inspect, if_pos c_1, if_pos c_2, if_pos c_3], by rw [p_inspect, if_pos c_1, if_pos c_2, if_pos c_3]⟩ dX6_inspect_53
    · refine lv_bipush (v := (-4)) hx hb dX6_inspect_40 (by decide) ?_
      exact z_iret hx hb hr hlk hK hZ hS ⟨by rw [p_inspect, if_pos c_1, if_neg c_2], by rw [p_inspect, if_pos c_1, if_neg c_2]⟩ dX6_inspect_42
  · refine lv_bipush (v := (-2)) hx hb dX6_inspect_25 (by decide) ?_
    exact z_iret hx hb hr hlk hK hZ hS ⟨by rw [p_inspect, if_neg c_1], by rw [p_inspect, if_neg c_1]⟩ dX6_inspect_27
set_option maxHeartbeats 4000000 in
set_option maxRecDepth 100000 in
theorem c_X6_inspect_no (l : Launch) (G : zG) (μ : zM) (fb : Nat → Int32) (hfb : μ 1 = fb) (T I : Nat) (hT : fb 3 = nI T) (hI : fb 4 = nI I) (hT6 : T ≤ 6) (hI24 : I ≤ 24) (x : Int32) (hxx : x < 0 ∨ nI I ≤ x) (a : Int32) : zMet l G yX6_inspect cX6_inspect 4 (some .int) 1 21 [.ref (G.1 + 0), .int x, .int a] μ (zQi G (-1) μ) := by
  refine z_start (lv := [(0, .ref (G.1 + 0)), (1, .int x), (2, .int a)]) (by decide) (Nat.le_of_ble_eq_true rfl) rfl ?_
  intro p e s m args below meth c ls hx hb hml hr hlk hts hown hK hZ hS hl
  have hown : s.vm.findClass RX6 = some m.cls := hown
  refine lv_aload_n hx hb dX6_inspect_0 rfl (lv_at hl 0 rfl) ?_
  refine z_g0 (f := (μ 0)) (v := .ref (G.1 + 1)) 0 hx hb hts hown hK hZ zk0 rfl (by decide) q226 rfl dX6_inspect_1 ?_
  refine lv_iload_n hx hb dX6_inspect_4 rfl (lv_at hl 1 rfl) ?_
  refine z_cVn (As := [.int x]) (rest := []) hx hb hml hown hts hl hK hZ hS (c_X1_itemAt_no l G μ 1 hB1 fb hfb I hI x hxx) (z_G q394 q274 q275 q2 q276) hdX1_itemAt ⟨Nat.le_of_ble_eq_true rfl, Nat.le_of_ble_eq_true rfl⟩ (zk_book hB1) (by decide) rfl rfl rfl rfl (Nat.le_of_ble_eq_true rfl) dX6_inspect_5 ⟨(Nat.zero_le _), (Nat.zero_le _)⟩ (fun H locs hZ hS => ?_)
  refine lv_astore_nN (lv' := [(3, .null), (0, .ref (G.1 + 0)), (1, .int x), (2, .int a)]) hx hb dX6_inspect_8 rfl hl (by decide) rfl (fun ls hl => ?_)
  refine lv_aload_nN hx hb dX6_inspect_9 rfl (lv_at hl 0 rfl) ?_
  refine lv_ifnonnullN hx hb dX6_inspect_10 ?_
  refine lv_iconst (v := (-1)) hx hb dX6_inspect_13 (by decide) ?_
  exact z_iret hx hb hr hlk hK hZ hS ⟨rfl, rfl⟩ dX6_inspect_14
def p_claim (μ : zM) (fb : Nat → Int32) (o z T I : Nat) (j : Nat) (f g : Nat → Int32) (x : Int32) : Int32 × zM := if (s_out x 0 (f 1)) = 0 then if (g 2) = 1 then if (f 7) = x then ((-5), μ)
      else ((f 7), (zr (zp μ o z T I) (1 + (15 + j)) (zu f 7 x)))
    else ((-4), μ)
  else ((-2), μ)
theorem hdX6_claim : yX6_claim.cls = RX6 ∧ yX6_claim.cls ≠ "java/lang/invoke/MethodHandle" ∧ yX6_claim.cls ≠ "java/lang/invoke/VarHandle" ∧ (parseMethodDescriptor yX6_claim.desc).map (fun d => d.parameters.length) = some 2 := by decide +kernel
set_option maxHeartbeats 4000000 in
set_option maxRecDepth 100000 in
theorem c_X6_claim (l : Launch) (G : zG) (μ : zM) (fb hh : Nat → Int32) (hfb : μ 1 = fb) (hfh : μ 79 = hh) (T I o z : Nat) (hT : fb 3 = nI T) (hI : fb 4 = nI I) (hT6 : T ≤ 6) (hI24 : I ≤ 24) (ho : hh 1 = nI o) (hz : hh 2 = nI z) (ho4 : o < 4) (hz4 : z ≤ 4) (j h : Nat) (hj : j < I) (hh0 : h < T) (f : Nat → Int32) (hf : μ (1 + (15 + j)) = f) (he : f 0 = nI h) (g : Nat → Int32) (hg : μ (1 + (3 + 2 * h)) = g) (x : Int32) : zMet l G yX6_claim cX6_claim 5 (some .int) 4 88 [.ref (G.1 + 0), .int (nI j), .int x] μ (zQi G (p_claim μ fb o z T I j f g x).1 (p_claim μ fb o z T I j f g x).2) := by
  refine z_start (lv := [(0, .ref (G.1 + 0)), (1, .int (nI j)), (2, .int x)]) (by decide) (Nat.le_of_ble_eq_true rfl) rfl ?_
  intro p e s m args below meth c ls hx hb hml hr hlk hts hown hK hZ hS hl
  have hown : s.vm.findClass RX6 = some m.cls := hown
  refine lv_aload_n hx hb dX6_claim_0 rfl (lv_at hl 0 rfl) ?_
  refine z_g0 (f := (μ 0)) (v := .ref (G.1 + 1)) 0 hx hb hts hown hK hZ zk0 rfl (by decide) q226 rfl dX6_claim_1 ?_
  refine lv_iload_n hx hb dX6_claim_4 rfl (lv_at hl 1 rfl) ?_
  refine z_cVr (As := [.int (nI j)]) (rest := []) hx hb hml hown hts hl hK hZ hS (c_X1_itemAt_ok l G μ 1 hB1 fb hfb I j hI hI24 (by omega)) (z_G q394 q274 q275 q2 q276) hdX1_itemAt ⟨Nat.le_of_ble_eq_true rfl, Nat.le_of_ble_eq_true rfl⟩ (zk_book hB1) (by decide) rfl rfl rfl rfl (Nat.le_of_ble_eq_true rfl) dX6_claim_5 ⟨(Nat.zero_le _), (Nat.zero_le _)⟩ (fun H locs hZ hS => ?_)
  refine lv_astore_n (lv' := [(3, .ref (G.1 + (1 + (15 + j)))), (0, .ref (G.1 + 0)), (1, .int (nI j)), (2, .int x)]) hx hb dX6_claim_8 rfl hl (by decide) rfl (fun ls hl => ?_)
  refine lv_aload_n hx hb dX6_claim_9 rfl (lv_at hl 0 rfl) ?_
  refine lv_ifnonnull (tgt := 15) hx hb dX6_claim_10 (by decide) ?_
  refine lv_iload_n hx hb dX6_claim_15 rfl (lv_at hl 3 rfl) ?_
  refine lv_iconst (v := 0) hx hb dX6_claim_16 (by decide) ?_
  refine lv_aload_n hx hb dX6_claim_17 rfl (lv_at hl 0 rfl) ?_
  refine z_g6 (f := f) (v := .int (f 1)) 1 hx hb hts hown hK hZ (zk_item hB1 (by omega)) hf (by decide) q103 rfl dX6_claim_18 ?_
  refine z_cSi (As := [.int x, .int 0, .int (f 1)]) (rest := []) hx hb hml hown hts hl hK hZ hS (c_X6_outside l G μ x 0 (f 1)) (z_GS q358 q359 q1 q360) hdX6_outside ⟨Nat.le_of_ble_eq_true rfl, Nat.le_of_ble_eq_true rfl⟩ rfl rfl (Nat.le_of_ble_eq_true rfl) dX6_claim_21 ⟨(Nat.zero_le _), (Nat.zero_le _)⟩ (fun H locs hZ hS => ?_)
  refine lv_if_eq (tgt := 30) hx hb dX6_claim_24 (by decide) (fun c_1 => ?_) (fun c_1 => ?_)
  · refine lv_aload_n hx hb dX6_claim_30 rfl (lv_at hl 1 rfl) ?_
    refine z_g0 (f := (μ 0)) (v := .ref (G.1 + 1)) 0 hx hb hts hown hK hZ zk0 rfl (by decide) q226 rfl dX6_claim_31 ?_
    refine lv_aload_n hx hb dX6_claim_34 rfl (lv_at hl 0 rfl) ?_
    refine z_cVi (As := [.ref (G.1 + (1 + (15 + j)))]) (rest := []) hx hb hml hown hts hl hK hZ hS (c_X1_stateOf l G μ fb hfb (1 + (15 + j)) f (zk_item hB1 (by omega)) hf T h hT hT6 hh0 he g hg) (z_G q411 q412 q413 q2 q414) hdX1_stateOf ⟨Nat.le_of_ble_eq_true rfl, Nat.le_of_ble_eq_true rfl⟩ (zk_book hB1) (by decide) rfl rfl rfl rfl (Nat.le_of_ble_eq_true rfl) dX6_claim_35 ⟨(Nat.zero_le _), (Nat.zero_le _)⟩ (fun H locs hZ hS => ?_)
    refine lv_iconst (v := 1) hx hb dX6_claim_38 (by decide) ?_
    refine lv_icmp_eq (tgt := 45) hx hb dX6_claim_39 (by decide) (fun c_2 => ?_) (fun c_2 => ?_)
    · refine lv_aload_n hx hb dX6_claim_45 rfl (lv_at hl 0 rfl) ?_
      refine z_g6 (f := f) (v := .int (f 7)) 7 hx hb hts hown hK hZ (zk_item hB1 (by omega)) hf (by decide) q114 rfl dX6_claim_46 ?_
      refine lv_istore (lv' := [(4, .int (f 7)), (3, .ref (G.1 + (1 + (15 + j)))), (0, .ref (G.1 + 0)), (1, .int (nI j)), (2, .int x)]) hx hb dX6_claim_49 hl (by decide) rfl (fun ls hl => ?_)
      refine lv_iload hx hb dX6_claim_51 (lv_at hl 0 rfl) ?_
      refine lv_iload_n hx hb dX6_claim_53 rfl (lv_at hl 4 rfl) ?_
      refine lv_icmp_ne (tgt := 60) hx hb dX6_claim_54 (by decide) (fun c_3 => ?_) (fun c_3 => ?_)
      · refine lv_aload_n hx hb dX6_claim_60 rfl (lv_at hl 2 rfl) ?_
        refine z_g0 (f := (μ 0)) (v := .ref (G.1 + 79)) 2 hx hb hts hown hK hZ zk0 rfl (by decide) q228 rfl dX6_claim_61 ?_
        refine lv_aload_n hx hb dX6_claim_64 rfl (lv_at hl 2 rfl) ?_
        refine z_g0 (f := (μ 0)) (v := .ref (G.1 + 1)) 0 hx hb hts hown hK hZ zk0 rfl (by decide) q226 rfl dX6_claim_65 ?_
        refine z_cVv (As := [.ref (G.1 + 1)]) (rest := []) hx hb hml hown hts hl hK hZ hS (c_X2_push l G μ hh hfh o ho ho4 z hz hz4 fb hfb T I hT hI hT6 hI24) (z_G q289 q290 q291 q6 q292) hdX2_push ⟨Nat.le_of_ble_eq_true rfl, Nat.le_of_ble_eq_true rfl⟩ zk79 (by decide) rfl rfl rfl rfl (Nat.le_of_ble_eq_true rfl) dX6_claim_68 ⟨(Nat.zero_le _), (Nat.zero_le _)⟩ (fun H locs hZ hS => ?_)
        refine lv_aload_n hx hb dX6_claim_71 rfl (lv_at hl 1 rfl) ?_
        refine lv_iload_n hx hb dX6_claim_72 rfl (lv_at hl 4 rfl) ?_
        refine z_p6 (f := f) (μ1 := (zr (zp μ o z T I) (1 + (15 + j)) (zu f 7 x))) 7 hx hb hts hown hK hZ hS (zk_item hB1 (by omega)) ((zp_ne (by omega)).trans hf) (by decide) q114 rfl pfd_I rfl rfl dX6_claim_73 (fun H locs hZ hS => ?_)
        refine lv_iload hx hb dX6_claim_76 (lv_at hl 0 rfl) ?_
        exact z_iret hx hb hr hlk hK hZ hS ⟨by rw [p_claim, if_pos c_1, if_pos c_2, if_neg c_3], by rw [p_claim, if_pos c_1, if_pos c_2, if_neg c_3]⟩ dX6_claim_78
      · refine lv_bipush (v := (-5)) hx hb dX6_claim_57 (by decide) ?_
        exact z_iret hx hb hr hlk hK hZ hS ⟨by rw [p_claim, if_pos c_1, if_pos c_2, if_pos c_3], by rw [p_claim, if_pos c_1, if_pos c_2, if_pos c_3]⟩ dX6_claim_59
    · refine lv_bipush (v := (-4)) hx hb dX6_claim_42 (by decide) ?_
      exact z_iret hx hb hr hlk hK hZ hS ⟨by rw [p_claim, if_pos c_1, if_neg c_2], by rw [p_claim, if_pos c_1, if_neg c_2]⟩ dX6_claim_44
  · refine lv_bipush (v := (-2)) hx hb dX6_claim_27 (by decide) ?_
    exact z_iret hx hb hr hlk hK hZ hS ⟨by rw [p_claim, if_neg c_1], by rw [p_claim, if_neg c_1]⟩ dX6_claim_29
set_option maxHeartbeats 4000000 in
set_option maxRecDepth 100000 in
theorem c_X6_claim_no (l : Launch) (G : zG) (μ : zM) (fb : Nat → Int32) (hfb : μ 1 = fb) (T I : Nat) (hT : fb 3 = nI T) (hI : fb 4 = nI I) (hT6 : T ≤ 6) (hI24 : I ≤ 24) (x : Int32) (hxx : x < 0 ∨ nI I ≤ x) (a : Int32) : zMet l G yX6_claim cX6_claim 5 (some .int) 1 21 [.ref (G.1 + 0), .int x, .int a] μ (zQi G (-1) μ) := by
  refine z_start (lv := [(0, .ref (G.1 + 0)), (1, .int x), (2, .int a)]) (by decide) (Nat.le_of_ble_eq_true rfl) rfl ?_
  intro p e s m args below meth c ls hx hb hml hr hlk hts hown hK hZ hS hl
  have hown : s.vm.findClass RX6 = some m.cls := hown
  refine lv_aload_n hx hb dX6_claim_0 rfl (lv_at hl 0 rfl) ?_
  refine z_g0 (f := (μ 0)) (v := .ref (G.1 + 1)) 0 hx hb hts hown hK hZ zk0 rfl (by decide) q226 rfl dX6_claim_1 ?_
  refine lv_iload_n hx hb dX6_claim_4 rfl (lv_at hl 1 rfl) ?_
  refine z_cVn (As := [.int x]) (rest := []) hx hb hml hown hts hl hK hZ hS (c_X1_itemAt_no l G μ 1 hB1 fb hfb I hI x hxx) (z_G q394 q274 q275 q2 q276) hdX1_itemAt ⟨Nat.le_of_ble_eq_true rfl, Nat.le_of_ble_eq_true rfl⟩ (zk_book hB1) (by decide) rfl rfl rfl rfl (Nat.le_of_ble_eq_true rfl) dX6_claim_5 ⟨(Nat.zero_le _), (Nat.zero_le _)⟩ (fun H locs hZ hS => ?_)
  refine lv_astore_nN (lv' := [(3, .null), (0, .ref (G.1 + 0)), (1, .int x), (2, .int a)]) hx hb dX6_claim_8 rfl hl (by decide) rfl (fun ls hl => ?_)
  refine lv_aload_nN hx hb dX6_claim_9 rfl (lv_at hl 0 rfl) ?_
  refine lv_ifnonnullN hx hb dX6_claim_10 ?_
  refine lv_iconst (v := (-1)) hx hb dX6_claim_13 (by decide) ?_
  exact z_iret hx hb hr hlk hK hZ hS ⟨rfl, rfl⟩ dX6_claim_14
def p_claimRent (μ : zM) (fb : Nat → Int32) (o z T I : Nat) (t : Nat) (g : Nat → Int32) (x : Int32) : Int32 × zM := if (s_out x 0 1000000) = 0 then if (g 2) = 1 then if (g 4) = x then ((-5), μ)
      else ((g 4), (zr (zp μ o z T I) (1 + (3 + 2 * t)) (zu g 4 x)))
    else ((-4), μ)
  else ((-2), μ)
theorem hdX6_claimRent : yX6_claimRent.cls = RX6 ∧ yX6_claimRent.cls ≠ "java/lang/invoke/MethodHandle" ∧ yX6_claimRent.cls ≠ "java/lang/invoke/VarHandle" ∧ (parseMethodDescriptor yX6_claimRent.desc).map (fun d => d.parameters.length) = some 2 := by decide +kernel
set_option maxHeartbeats 4000000 in
set_option maxRecDepth 100000 in
theorem c_X6_claimRent (l : Launch) (G : zG) (μ : zM) (fb hh : Nat → Int32) (hfb : μ 1 = fb) (hfh : μ 79 = hh) (T I o z : Nat) (hT : fb 3 = nI T) (hI : fb 4 = nI I) (hT6 : T ≤ 6) (hI24 : I ≤ 24) (ho : hh 1 = nI o) (hz : hh 2 = nI z) (ho4 : o < 4) (hz4 : z ≤ 4) (t : Nat) (ht : t < T) (g : Nat → Int32) (hg : μ (1 + (3 + 2 * t)) = g) (x : Int32) : zMet l G yX6_claimRent cX6_claimRent 5 (some .int) 4 88 [.ref (G.1 + 0), .int (nI t), .int x] μ (zQi G (p_claimRent μ fb o z T I t g x).1 (p_claimRent μ fb o z T I t g x).2) := by
  refine z_start (lv := [(0, .ref (G.1 + 0)), (1, .int (nI t)), (2, .int x)]) (by decide) (Nat.le_of_ble_eq_true rfl) rfl ?_
  intro p e s m args below meth c ls hx hb hml hr hlk hts hown hK hZ hS hl
  have hown : s.vm.findClass RX6 = some m.cls := hown
  refine lv_aload_n hx hb dX6_claimRent_0 rfl (lv_at hl 0 rfl) ?_
  refine z_g0 (f := (μ 0)) (v := .ref (G.1 + 1)) 0 hx hb hts hown hK hZ zk0 rfl (by decide) q226 rfl dX6_claimRent_1 ?_
  refine lv_iload_n hx hb dX6_claimRent_4 rfl (lv_at hl 1 rfl) ?_
  refine z_cVr (As := [.int (nI t)]) (rest := []) hx hb hml hown hts hl hK hZ hS (c_X1_tenancyAt_ok l G μ 1 hB1 fb hfb T t hT hT6 (by omega)) (z_G q306 q262 q263 q2 q264) hdX1_tenancyAt ⟨Nat.le_of_ble_eq_true rfl, Nat.le_of_ble_eq_true rfl⟩ (zk_book hB1) (by decide) rfl rfl rfl rfl (Nat.le_of_ble_eq_true rfl) dX6_claimRent_5 ⟨(Nat.zero_le _), (Nat.zero_le _)⟩ (fun H locs hZ hS => ?_)
  refine lv_astore_n (lv' := [(3, .ref (G.1 + (1 + (3 + 2 * t)))), (0, .ref (G.1 + 0)), (1, .int (nI t)), (2, .int x)]) hx hb dX6_claimRent_8 rfl hl (by decide) rfl (fun ls hl => ?_)
  refine lv_aload_n hx hb dX6_claimRent_9 rfl (lv_at hl 0 rfl) ?_
  refine lv_ifnonnull (tgt := 15) hx hb dX6_claimRent_10 (by decide) ?_
  refine lv_iload_n hx hb dX6_claimRent_15 rfl (lv_at hl 3 rfl) ?_
  refine lv_iconst (v := 0) hx hb dX6_claimRent_16 (by decide) ?_
  refine lv_ldc hx hb hown (hts _ q448) dX6_claimRent_17 ?_
  refine z_cSi (As := [.int x, .int 0, .int 1000000]) (rest := []) hx hb hml hown hts hl hK hZ hS (c_X6_outside l G μ x 0 1000000) (z_GS q358 q359 q1 q360) hdX6_outside ⟨Nat.le_of_ble_eq_true rfl, Nat.le_of_ble_eq_true rfl⟩ rfl rfl (Nat.le_of_ble_eq_true rfl) dX6_claimRent_19 ⟨(Nat.zero_le _), (Nat.zero_le _)⟩ (fun H locs hZ hS => ?_)
  refine lv_if_eq (tgt := 28) hx hb dX6_claimRent_22 (by decide) (fun c_1 => ?_) (fun c_1 => ?_)
  · refine lv_aload_n hx hb dX6_claimRent_28 rfl (lv_at hl 0 rfl) ?_
    refine z_g4 (f := g) (v := .int (g 2)) 2 hx hb hts hown hK hZ (zk_ten hB1 (by omega)) hg (by decide) q66 rfl dX6_claimRent_29 ?_
    refine lv_iconst (v := 1) hx hb dX6_claimRent_32 (by decide) ?_
    refine lv_icmp_eq (tgt := 39) hx hb dX6_claimRent_33 (by decide) (fun c_2 => ?_) (fun c_2 => ?_)
    · refine lv_aload_n hx hb dX6_claimRent_39 rfl (lv_at hl 0 rfl) ?_
      refine z_g4 (f := g) (v := .int (g 4)) 4 hx hb hts hown hK hZ (zk_ten hB1 (by omega)) hg (by decide) q72 rfl dX6_claimRent_40 ?_
      refine lv_istore (lv' := [(4, .int (g 4)), (3, .ref (G.1 + (1 + (3 + 2 * t)))), (0, .ref (G.1 + 0)), (1, .int (nI t)), (2, .int x)]) hx hb dX6_claimRent_43 hl (by decide) rfl (fun ls hl => ?_)
      refine lv_iload hx hb dX6_claimRent_45 (lv_at hl 0 rfl) ?_
      refine lv_iload_n hx hb dX6_claimRent_47 rfl (lv_at hl 4 rfl) ?_
      refine lv_icmp_ne (tgt := 54) hx hb dX6_claimRent_48 (by decide) (fun c_3 => ?_) (fun c_3 => ?_)
      · refine lv_aload_n hx hb dX6_claimRent_54 rfl (lv_at hl 2 rfl) ?_
        refine z_g0 (f := (μ 0)) (v := .ref (G.1 + 79)) 2 hx hb hts hown hK hZ zk0 rfl (by decide) q228 rfl dX6_claimRent_55 ?_
        refine lv_aload_n hx hb dX6_claimRent_58 rfl (lv_at hl 2 rfl) ?_
        refine z_g0 (f := (μ 0)) (v := .ref (G.1 + 1)) 0 hx hb hts hown hK hZ zk0 rfl (by decide) q226 rfl dX6_claimRent_59 ?_
        refine z_cVv (As := [.ref (G.1 + 1)]) (rest := []) hx hb hml hown hts hl hK hZ hS (c_X2_push l G μ hh hfh o ho ho4 z hz hz4 fb hfb T I hT hI hT6 hI24) (z_G q289 q290 q291 q6 q292) hdX2_push ⟨Nat.le_of_ble_eq_true rfl, Nat.le_of_ble_eq_true rfl⟩ zk79 (by decide) rfl rfl rfl rfl (Nat.le_of_ble_eq_true rfl) dX6_claimRent_62 ⟨(Nat.zero_le _), (Nat.zero_le _)⟩ (fun H locs hZ hS => ?_)
        refine lv_aload_n hx hb dX6_claimRent_65 rfl (lv_at hl 1 rfl) ?_
        refine lv_iload_n hx hb dX6_claimRent_66 rfl (lv_at hl 4 rfl) ?_
        refine z_p4 (f := g) (μ1 := (zr (zp μ o z T I) (1 + (3 + 2 * t)) (zu g 4 x))) 4 hx hb hts hown hK hZ hS (zk_ten hB1 (by omega)) ((zp_ne (by omega)).trans hg) (by decide) q72 rfl pfd_I rfl rfl dX6_claimRent_67 (fun H locs hZ hS => ?_)
        refine lv_iload hx hb dX6_claimRent_70 (lv_at hl 0 rfl) ?_
        exact z_iret hx hb hr hlk hK hZ hS ⟨by rw [p_claimRent, if_pos c_1, if_pos c_2, if_neg c_3], by rw [p_claimRent, if_pos c_1, if_pos c_2, if_neg c_3]⟩ dX6_claimRent_72
      · refine lv_bipush (v := (-5)) hx hb dX6_claimRent_51 (by decide) ?_
        exact z_iret hx hb hr hlk hK hZ hS ⟨by rw [p_claimRent, if_pos c_1, if_pos c_2, if_pos c_3], by rw [p_claimRent, if_pos c_1, if_pos c_2, if_pos c_3]⟩ dX6_claimRent_53
    · refine lv_bipush (v := (-4)) hx hb dX6_claimRent_36 (by decide) ?_
      exact z_iret hx hb hr hlk hK hZ hS ⟨by rw [p_claimRent, if_pos c_1, if_neg c_2], by rw [p_claimRent, if_pos c_1, if_neg c_2]⟩ dX6_claimRent_38
  · refine lv_bipush (v := (-2)) hx hb dX6_claimRent_25 (by decide) ?_
    exact z_iret hx hb hr hlk hK hZ hS ⟨by rw [p_claimRent, if_neg c_1], by rw [p_claimRent, if_neg c_1]⟩ dX6_claimRent_27
set_option maxHeartbeats 4000000 in
set_option maxRecDepth 100000 in
theorem c_X6_claimRent_no (l : Launch) (G : zG) (μ : zM) (fb : Nat → Int32) (hfb : μ 1 = fb) (T I : Nat) (hT : fb 3 = nI T) (hI : fb 4 = nI I) (hT6 : T ≤ 6) (hI24 : I ≤ 24) (x : Int32) (hxx : x < 0 ∨ nI T ≤ x) (a : Int32) : zMet l G yX6_claimRent cX6_claimRent 5 (some .int) 1 21 [.ref (G.1 + 0), .int x, .int a] μ (zQi G (-1) μ) := by
  refine z_start (lv := [(0, .ref (G.1 + 0)), (1, .int x), (2, .int a)]) (by decide) (Nat.le_of_ble_eq_true rfl) rfl ?_
  intro p e s m args below meth c ls hx hb hml hr hlk hts hown hK hZ hS hl
  have hown : s.vm.findClass RX6 = some m.cls := hown
  refine lv_aload_n hx hb dX6_claimRent_0 rfl (lv_at hl 0 rfl) ?_
  refine z_g0 (f := (μ 0)) (v := .ref (G.1 + 1)) 0 hx hb hts hown hK hZ zk0 rfl (by decide) q226 rfl dX6_claimRent_1 ?_
  refine lv_iload_n hx hb dX6_claimRent_4 rfl (lv_at hl 1 rfl) ?_
  refine z_cVn (As := [.int x]) (rest := []) hx hb hml hown hts hl hK hZ hS (c_X1_tenancyAt_no l G μ 1 hB1 fb hfb T hT x hxx) (z_G q306 q262 q263 q2 q264) hdX1_tenancyAt ⟨Nat.le_of_ble_eq_true rfl, Nat.le_of_ble_eq_true rfl⟩ (zk_book hB1) (by decide) rfl rfl rfl rfl (Nat.le_of_ble_eq_true rfl) dX6_claimRent_5 ⟨(Nat.zero_le _), (Nat.zero_le _)⟩ (fun H locs hZ hS => ?_)
  refine lv_astore_nN (lv' := [(3, .null), (0, .ref (G.1 + 0)), (1, .int x), (2, .int a)]) hx hb dX6_claimRent_8 rfl hl (by decide) rfl (fun ls hl => ?_)
  refine lv_aload_nN hx hb dX6_claimRent_9 rfl (lv_at hl 0 rfl) ?_
  refine lv_ifnonnullN hx hb dX6_claimRent_10 ?_
  refine lv_iconst (v := (-1)) hx hb dX6_claimRent_13 (by decide) ?_
  exact z_iret hx hb hr hlk hK hZ hS ⟨rfl, rfl⟩ dX6_claimRent_14
theorem s_tot_cg {μ ν : zM} {t w : Nat} (hq : ∀ j, j < 24 → ν (1 + (15 + j)) = μ (1 + (15 + j))) : ∀ {I : Nat}, I ≤ 24 → s_tot ν t w I = s_tot μ t w I
  | 0, _ => rfl
  | j + 1, h => by
    show (if ν (1 + (15 + j)) 0 = nI t then s_tot ν t w j + s_share (ν (1 + (15 + j))) w else s_tot ν t w j) = (if μ (1 + (15 + j)) 0 = nI t then s_tot μ t w j + s_share (μ (1 + (15 + j))) w else s_tot μ t w j)
    rw [hq j (by omega), s_tot_cg hq (Nat.le_of_succ_le h)]
def p_put (μ : zM) (fb : Nat → Int32) (o z T I : Nat) (t : Nat) (g : Nat → Int32) : Int32 × zM := if (g 2) = 1 then ((s_tot μ t 1 I), (zr (zp μ o z T I) (1 + (3 + 2 * t)) (zu g 2 2)))
  else ((-4), μ)
theorem hdX6_put : yX6_put.cls = RX6 ∧ yX6_put.cls ≠ "java/lang/invoke/MethodHandle" ∧ yX6_put.cls ≠ "java/lang/invoke/VarHandle" ∧ (parseMethodDescriptor yX6_put.desc).map (fun d => d.parameters.length) = some 1 := by decide +kernel
set_option maxHeartbeats 4000000 in
set_option maxRecDepth 100000 in
theorem c_X6_put (l : Launch) (G : zG) (μ : zM) (fb hh : Nat → Int32) (hfb : μ 1 = fb) (hfh : μ 79 = hh) (T I o z : Nat) (hT : fb 3 = nI T) (hI : fb 4 = nI I) (hT6 : T ≤ 6) (hI24 : I ≤ 24) (ho : hh 1 = nI o) (hz : hh 2 = nI z) (ho4 : o < 4) (hz4 : z ≤ 4) (t : Nat) (ht : t < T) (g : Nat → Int32) (hg : μ (1 + (3 + 2 * t)) = g) : zMet l G yX6_put cX6_put 3 (some .int) 4 89 [.ref (G.1 + 0), .int (nI t)] μ (zQi G (p_put μ fb o z T I t g).1 (p_put μ fb o z T I t g).2) := by
  refine z_start (lv := [(0, .ref (G.1 + 0)), (1, .int (nI t))]) (by decide) (Nat.le_of_ble_eq_true rfl) rfl ?_
  intro p e s m args below meth c ls hx hb hml hr hlk hts hown hK hZ hS hl
  have hown : s.vm.findClass RX6 = some m.cls := hown
  refine lv_aload_n hx hb dX6_put_0 rfl (lv_at hl 0 rfl) ?_
  refine z_g0 (f := (μ 0)) (v := .ref (G.1 + 1)) 0 hx hb hts hown hK hZ zk0 rfl (by decide) q226 rfl dX6_put_1 ?_
  refine lv_iload_n hx hb dX6_put_4 rfl (lv_at hl 1 rfl) ?_
  refine z_cVr (As := [.int (nI t)]) (rest := []) hx hb hml hown hts hl hK hZ hS (c_X1_tenancyAt_ok l G μ 1 hB1 fb hfb T t hT hT6 (by omega)) (z_G q306 q262 q263 q2 q264) hdX1_tenancyAt ⟨Nat.le_of_ble_eq_true rfl, Nat.le_of_ble_eq_true rfl⟩ (zk_book hB1) (by decide) rfl rfl rfl rfl (Nat.le_of_ble_eq_true rfl) dX6_put_5 ⟨(Nat.zero_le _), (Nat.zero_le _)⟩ (fun H locs hZ hS => ?_)
  refine lv_astore_n (lv' := [(2, .ref (G.1 + (1 + (3 + 2 * t)))), (0, .ref (G.1 + 0)), (1, .int (nI t))]) hx hb dX6_put_8 rfl hl (by decide) rfl (fun ls hl => ?_)
  refine lv_aload_n hx hb dX6_put_9 rfl (lv_at hl 0 rfl) ?_
  refine lv_ifnonnull (tgt := 15) hx hb dX6_put_10 (by decide) ?_
  refine lv_aload_n hx hb dX6_put_15 rfl (lv_at hl 0 rfl) ?_
  refine z_g4 (f := g) (v := .int (g 2)) 2 hx hb hts hown hK hZ (zk_ten hB1 (by omega)) hg (by decide) q66 rfl dX6_put_16 ?_
  refine lv_iconst (v := 1) hx hb dX6_put_19 (by decide) ?_
  refine lv_icmp_eq (tgt := 26) hx hb dX6_put_20 (by decide) (fun c_1 => ?_) (fun c_1 => ?_)
  · refine lv_aload_n hx hb dX6_put_26 rfl (lv_at hl 1 rfl) ?_
    refine z_g0 (f := (μ 0)) (v := .ref (G.1 + 79)) 2 hx hb hts hown hK hZ zk0 rfl (by decide) q228 rfl dX6_put_27 ?_
    refine lv_aload_n hx hb dX6_put_30 rfl (lv_at hl 1 rfl) ?_
    refine z_g0 (f := (μ 0)) (v := .ref (G.1 + 1)) 0 hx hb hts hown hK hZ zk0 rfl (by decide) q226 rfl dX6_put_31 ?_
    refine z_cVv (As := [.ref (G.1 + 1)]) (rest := []) hx hb hml hown hts hl hK hZ hS (c_X2_push l G μ hh hfh o ho ho4 z hz hz4 fb hfb T I hT hI hT6 hI24) (z_G q289 q290 q291 q6 q292) hdX2_push ⟨Nat.le_of_ble_eq_true rfl, Nat.le_of_ble_eq_true rfl⟩ zk79 (by decide) rfl rfl rfl rfl (Nat.le_of_ble_eq_true rfl) dX6_put_34 ⟨(Nat.zero_le _), (Nat.zero_le _)⟩ (fun H locs hZ hS => ?_)
    refine lv_aload_n hx hb dX6_put_37 rfl (lv_at hl 0 rfl) ?_
    refine lv_iconst (v := 2) hx hb dX6_put_38 (by decide) ?_
    refine z_p4 (f := g) (μ1 := (zr (zp μ o z T I) (1 + (3 + 2 * t)) (zu g 2 2))) 2 hx hb hts hown hK hZ hS (zk_ten hB1 (by omega)) ((zp_ne (by omega)).trans hg) (by decide) q66 rfl pfd_I rfl rfl dX6_put_39 (fun H locs hZ hS => ?_)
    refine lv_aload_n hx hb dX6_put_42 rfl (lv_at hl 1 rfl) ?_
    refine z_g0 (f := ((zr (zp μ o z T I) (1 + (3 + 2 * t)) (zu g 2 2)) 0)) (v := .ref (G.1 + 1)) 0 hx hb hts hown hK hZ zk0 rfl (by decide) q226 rfl dX6_put_43 ?_
    refine lv_iload_n hx hb dX6_put_46 rfl (lv_at hl 2 rfl) ?_
    refine lv_iconst (v := 1) hx hb dX6_put_47 (by decide) ?_
    refine z_cVi (As := [.int (nI t), .int 1]) (rest := []) hx hb hml hown hts hl hK hZ hS (c_X1_total l G (zr (zp μ o z T I) (1 + (3 + 2 * t)) (zu g 2 2)) fb (zr_at ((zp_ne (by omega)).trans hfb) (by omega)) I hI hI24 t 1 (by omega)) (z_G q337 q338 q339 q2 q340) hdX1_total ⟨Nat.le_of_ble_eq_true rfl, Nat.le_of_ble_eq_true rfl⟩ (zk_book hB1) (by decide) rfl rfl rfl rfl (Nat.le_of_ble_eq_true rfl) dX6_put_48 ⟨(Nat.zero_le _), (Nat.zero_le _)⟩ (fun H locs hZ hS => ?_)
    rw [s_tot_cg (fun j hj => by rw [zr_ne (by omega), zp_ne (by omega)]) hI24]
    exact z_iret hx hb hr hlk hK hZ hS ⟨by rw [p_put, if_pos c_1], by rw [p_put, if_pos c_1]⟩ dX6_put_51
  · refine lv_bipush (v := (-4)) hx hb dX6_put_23 (by decide) ?_
    exact z_iret hx hb hr hlk hK hZ hS ⟨by rw [p_put, if_neg c_1], by rw [p_put, if_neg c_1]⟩ dX6_put_25
set_option maxHeartbeats 4000000 in
set_option maxRecDepth 100000 in
theorem c_X6_put_no (l : Launch) (G : zG) (μ : zM) (fb : Nat → Int32) (hfb : μ 1 = fb) (T I : Nat) (hT : fb 3 = nI T) (hI : fb 4 = nI I) (hT6 : T ≤ 6) (hI24 : I ≤ 24) (x : Int32) (hxx : x < 0 ∨ nI T ≤ x) : zMet l G yX6_put cX6_put 3 (some .int) 1 21 [.ref (G.1 + 0), .int x] μ (zQi G (-1) μ) := by
  refine z_start (lv := [(0, .ref (G.1 + 0)), (1, .int x)]) (by decide) (Nat.le_of_ble_eq_true rfl) rfl ?_
  intro p e s m args below meth c ls hx hb hml hr hlk hts hown hK hZ hS hl
  have hown : s.vm.findClass RX6 = some m.cls := hown
  refine lv_aload_n hx hb dX6_put_0 rfl (lv_at hl 0 rfl) ?_
  refine z_g0 (f := (μ 0)) (v := .ref (G.1 + 1)) 0 hx hb hts hown hK hZ zk0 rfl (by decide) q226 rfl dX6_put_1 ?_
  refine lv_iload_n hx hb dX6_put_4 rfl (lv_at hl 1 rfl) ?_
  refine z_cVn (As := [.int x]) (rest := []) hx hb hml hown hts hl hK hZ hS (c_X1_tenancyAt_no l G μ 1 hB1 fb hfb T hT x hxx) (z_G q306 q262 q263 q2 q264) hdX1_tenancyAt ⟨Nat.le_of_ble_eq_true rfl, Nat.le_of_ble_eq_true rfl⟩ (zk_book hB1) (by decide) rfl rfl rfl rfl (Nat.le_of_ble_eq_true rfl) dX6_put_5 ⟨(Nat.zero_le _), (Nat.zero_le _)⟩ (fun H locs hZ hS => ?_)
  refine lv_astore_nN (lv' := [(2, .null), (0, .ref (G.1 + 0)), (1, .int x)]) hx hb dX6_put_8 rfl hl (by decide) rfl (fun ls hl => ?_)
  refine lv_aload_nN hx hb dX6_put_9 rfl (lv_at hl 0 rfl) ?_
  refine lv_ifnonnullN hx hb dX6_put_10 ?_
  refine lv_iconst (v := (-1)) hx hb dX6_put_13 (by decide) ?_
  exact z_iret hx hb hr hlk hK hZ hS ⟨rfl, rfl⟩ dX6_put_14
def p_answer (μ : zM) (fb : Nat → Int32) (o z T I : Nat) (j : Nat) (f g : Nat → Int32) (x : Int32) : Int32 × zM := if (s_X1_can f g) = 0 then ((-4), μ)
  else if x = 0 then if (f 8) = 2 then ((-5), μ)
      else ((f 8), (zr (zp μ o z T I) (1 + (15 + j)) (zu f 8 2)))
    else if (f 8) = 1 then ((-5), μ)
      else ((f 8), (zr (zp μ o z T I) (1 + (15 + j)) (zu f 8 1)))
theorem hdX6_answer : yX6_answer.cls = RX6 ∧ yX6_answer.cls ≠ "java/lang/invoke/MethodHandle" ∧ yX6_answer.cls ≠ "java/lang/invoke/VarHandle" ∧ (parseMethodDescriptor yX6_answer.desc).map (fun d => d.parameters.length) = some 2 := by decide +kernel
set_option maxHeartbeats 4000000 in
set_option maxRecDepth 100000 in
theorem c_X6_answer (l : Launch) (G : zG) (μ : zM) (fb hh : Nat → Int32) (hfb : μ 1 = fb) (hfh : μ 79 = hh) (T I o z : Nat) (hT : fb 3 = nI T) (hI : fb 4 = nI I) (hT6 : T ≤ 6) (hI24 : I ≤ 24) (ho : hh 1 = nI o) (hz : hh 2 = nI z) (ho4 : o < 4) (hz4 : z ≤ 4) (j h : Nat) (hj : j < I) (hh0 : h < T) (f : Nat → Int32) (hf : μ (1 + (15 + j)) = f) (he : f 0 = nI h) (g : Nat → Int32) (hg : μ (1 + (3 + 2 * h)) = g) (x : Int32) : zMet l G yX6_answer cX6_answer 6 (some .int) 4 88 [.ref (G.1 + 0), .int (nI j), .int x] μ (zQi G (p_answer μ fb o z T I j f g x).1 (p_answer μ fb o z T I j f g x).2) := by
  refine z_start (lv := [(0, .ref (G.1 + 0)), (1, .int (nI j)), (2, .int x)]) (by decide) (Nat.le_of_ble_eq_true rfl) rfl ?_
  intro p e s m args below meth c ls hx hb hml hr hlk hts hown hK hZ hS hl
  have hown : s.vm.findClass RX6 = some m.cls := hown
  refine lv_aload_n hx hb dX6_answer_0 rfl (lv_at hl 0 rfl) ?_
  refine z_g0 (f := (μ 0)) (v := .ref (G.1 + 1)) 0 hx hb hts hown hK hZ zk0 rfl (by decide) q226 rfl dX6_answer_1 ?_
  refine lv_iload_n hx hb dX6_answer_4 rfl (lv_at hl 1 rfl) ?_
  refine z_cVr (As := [.int (nI j)]) (rest := []) hx hb hml hown hts hl hK hZ hS (c_X1_itemAt_ok l G μ 1 hB1 fb hfb I j hI hI24 (by omega)) (z_G q394 q274 q275 q2 q276) hdX1_itemAt ⟨Nat.le_of_ble_eq_true rfl, Nat.le_of_ble_eq_true rfl⟩ (zk_book hB1) (by decide) rfl rfl rfl rfl (Nat.le_of_ble_eq_true rfl) dX6_answer_5 ⟨(Nat.zero_le _), (Nat.zero_le _)⟩ (fun H locs hZ hS => ?_)
  refine lv_astore_n (lv' := [(3, .ref (G.1 + (1 + (15 + j)))), (0, .ref (G.1 + 0)), (1, .int (nI j)), (2, .int x)]) hx hb dX6_answer_8 rfl hl (by decide) rfl (fun ls hl => ?_)
  refine lv_aload_n hx hb dX6_answer_9 rfl (lv_at hl 0 rfl) ?_
  refine lv_ifnonnull (tgt := 15) hx hb dX6_answer_10 (by decide) ?_
  refine lv_aload_n hx hb dX6_answer_15 rfl (lv_at hl 1 rfl) ?_
  refine z_g0 (f := (μ 0)) (v := .ref (G.1 + 1)) 0 hx hb hts hown hK hZ zk0 rfl (by decide) q226 rfl dX6_answer_16 ?_
  refine lv_aload_n hx hb dX6_answer_19 rfl (lv_at hl 0 rfl) ?_
  refine z_cVi (As := [.ref (G.1 + (1 + (15 + j)))]) (rest := []) hx hb hml hown hts hl hK hZ hS (c_X1_canBeAnswered l G μ fb hfb (1 + (15 + j)) f (zk_item hB1 (by omega)) hf T h hT hT6 hh0 he g hg) (z_G q523 q524 q525 q2 q526) hdX1_canBeAnswered ⟨Nat.le_of_ble_eq_true rfl, Nat.le_of_ble_eq_true rfl⟩ (zk_book hB1) (by decide) rfl rfl rfl rfl (Nat.le_of_ble_eq_true rfl) dX6_answer_20 ⟨(Nat.zero_le _), (Nat.zero_le _)⟩ (fun H locs hZ hS => ?_)
  refine lv_if_ne (tgt := 29) hx hb dX6_answer_23 (by decide) (fun c_1 => ?_) (fun c_1 => ?_)
  · refine lv_aload_n hx hb dX6_answer_29 rfl (lv_at hl 0 rfl) ?_
    refine z_g6 (f := f) (v := .int (f 8)) 8 hx hb hts hown hK hZ (zk_item hB1 (by omega)) hf (by decide) q117 rfl dX6_answer_30 ?_
    refine lv_istore (lv' := [(4, .int (f 8)), (3, .ref (G.1 + (1 + (15 + j)))), (0, .ref (G.1 + 0)), (1, .int (nI j)), (2, .int x)]) hx hb dX6_answer_33 hl (by decide) rfl (fun ls hl => ?_)
    refine lv_iload_n hx hb dX6_answer_35 rfl (lv_at hl 4 rfl) ?_
    refine lv_if_eq (tgt := 43) hx hb dX6_answer_36 (by decide) (fun c_2 => ?_) (fun c_2 => ?_)
    · refine lv_iconst (v := 2) hx hb dX6_answer_43 (by decide) ?_
      refine lv_istore (lv' := [(5, .int 2), (4, .int (f 8)), (3, .ref (G.1 + (1 + (15 + j)))), (0, .ref (G.1 + 0)), (1, .int (nI j)), (2, .int x)]) hx hb dX6_answer_44 hl (by decide) rfl (fun ls hl => ?_)
      refine lv_iload hx hb dX6_answer_46 (lv_at hl 1 rfl) ?_
      refine lv_iload hx hb dX6_answer_48 (lv_at hl 0 rfl) ?_
      refine lv_icmp_ne (tgt := 56) hx hb dX6_answer_50 (by decide) (fun c_3 => ?_) (fun c_3 => ?_)
      · refine lv_aload_n hx hb dX6_answer_56 rfl (lv_at hl 3 rfl) ?_
        refine z_g0 (f := (μ 0)) (v := .ref (G.1 + 79)) 2 hx hb hts hown hK hZ zk0 rfl (by decide) q228 rfl dX6_answer_57 ?_
        refine lv_aload_n hx hb dX6_answer_60 rfl (lv_at hl 3 rfl) ?_
        refine z_g0 (f := (μ 0)) (v := .ref (G.1 + 1)) 0 hx hb hts hown hK hZ zk0 rfl (by decide) q226 rfl dX6_answer_61 ?_
        refine z_cVv (As := [.ref (G.1 + 1)]) (rest := []) hx hb hml hown hts hl hK hZ hS (c_X2_push l G μ hh hfh o ho ho4 z hz hz4 fb hfb T I hT hI hT6 hI24) (z_G q289 q290 q291 q6 q292) hdX2_push ⟨Nat.le_of_ble_eq_true rfl, Nat.le_of_ble_eq_true rfl⟩ zk79 (by decide) rfl rfl rfl rfl (Nat.le_of_ble_eq_true rfl) dX6_answer_64 ⟨(Nat.zero_le _), (Nat.zero_le _)⟩ (fun H locs hZ hS => ?_)
        refine lv_aload_n hx hb dX6_answer_67 rfl (lv_at hl 2 rfl) ?_
        refine lv_iload hx hb dX6_answer_68 (lv_at hl 0 rfl) ?_
        refine z_p6 (f := f) (μ1 := (zr (zp μ o z T I) (1 + (15 + j)) (zu f 8 2))) 8 hx hb hts hown hK hZ hS (zk_item hB1 (by omega)) ((zp_ne (by omega)).trans hf) (by decide) q117 rfl pfd_I rfl rfl dX6_answer_70 (fun H locs hZ hS => ?_)
        refine lv_iload hx hb dX6_answer_73 (lv_at hl 1 rfl) ?_
        exact z_iret hx hb hr hlk hK hZ hS ⟨by rw [p_answer, if_neg c_1, if_pos c_2, if_neg c_3], by rw [p_answer, if_neg c_1, if_pos c_2, if_neg c_3]⟩ dX6_answer_75
      · refine lv_bipush (v := (-5)) hx hb dX6_answer_53 (by decide) ?_
        exact z_iret hx hb hr hlk hK hZ hS ⟨by rw [p_answer, if_neg c_1, if_pos c_2, if_pos c_3], by rw [p_answer, if_neg c_1, if_pos c_2, if_pos c_3]⟩ dX6_answer_55
    · refine lv_iconst (v := 1) hx hb dX6_answer_39 (by decide) ?_
      refine lv_goto (tgt := 44) hx hb dX6_answer_40 (by decide) ?_
      refine lv_istore (lv' := [(5, .int 1), (4, .int (f 8)), (3, .ref (G.1 + (1 + (15 + j)))), (0, .ref (G.1 + 0)), (1, .int (nI j)), (2, .int x)]) hx hb dX6_answer_44 hl (by decide) rfl (fun ls hl => ?_)
      refine lv_iload hx hb dX6_answer_46 (lv_at hl 1 rfl) ?_
      refine lv_iload hx hb dX6_answer_48 (lv_at hl 0 rfl) ?_
      refine lv_icmp_ne (tgt := 56) hx hb dX6_answer_50 (by decide) (fun c_4 => ?_) (fun c_4 => ?_)
      · refine lv_aload_n hx hb dX6_answer_56 rfl (lv_at hl 3 rfl) ?_
        refine z_g0 (f := (μ 0)) (v := .ref (G.1 + 79)) 2 hx hb hts hown hK hZ zk0 rfl (by decide) q228 rfl dX6_answer_57 ?_
        refine lv_aload_n hx hb dX6_answer_60 rfl (lv_at hl 3 rfl) ?_
        refine z_g0 (f := (μ 0)) (v := .ref (G.1 + 1)) 0 hx hb hts hown hK hZ zk0 rfl (by decide) q226 rfl dX6_answer_61 ?_
        refine z_cVv (As := [.ref (G.1 + 1)]) (rest := []) hx hb hml hown hts hl hK hZ hS (c_X2_push l G μ hh hfh o ho ho4 z hz hz4 fb hfb T I hT hI hT6 hI24) (z_G q289 q290 q291 q6 q292) hdX2_push ⟨Nat.le_of_ble_eq_true rfl, Nat.le_of_ble_eq_true rfl⟩ zk79 (by decide) rfl rfl rfl rfl (Nat.le_of_ble_eq_true rfl) dX6_answer_64 ⟨(Nat.zero_le _), (Nat.zero_le _)⟩ (fun H locs hZ hS => ?_)
        refine lv_aload_n hx hb dX6_answer_67 rfl (lv_at hl 2 rfl) ?_
        refine lv_iload hx hb dX6_answer_68 (lv_at hl 0 rfl) ?_
        refine z_p6 (f := f) (μ1 := (zr (zp μ o z T I) (1 + (15 + j)) (zu f 8 1))) 8 hx hb hts hown hK hZ hS (zk_item hB1 (by omega)) ((zp_ne (by omega)).trans hf) (by decide) q117 rfl pfd_I rfl rfl dX6_answer_70 (fun H locs hZ hS => ?_)
        refine lv_iload hx hb dX6_answer_73 (lv_at hl 1 rfl) ?_
        exact z_iret hx hb hr hlk hK hZ hS ⟨by rw [p_answer, if_neg c_1, if_neg c_2, if_neg c_4], by rw [p_answer, if_neg c_1, if_neg c_2, if_neg c_4]⟩ dX6_answer_75
      · refine lv_bipush (v := (-5)) hx hb dX6_answer_53 (by decide) ?_
        exact z_iret hx hb hr hlk hK hZ hS ⟨by rw [p_answer, if_neg c_1, if_neg c_2, if_pos c_4], by rw [p_answer, if_neg c_1, if_neg c_2, if_pos c_4]⟩ dX6_answer_55
  · refine lv_bipush (v := (-4)) hx hb dX6_answer_26 (by decide) ?_
    exact z_iret hx hb hr hlk hK hZ hS ⟨by rw [p_answer, if_pos c_1], by rw [p_answer, if_pos c_1]⟩ dX6_answer_28
set_option maxHeartbeats 4000000 in
set_option maxRecDepth 100000 in
theorem c_X6_answer_no (l : Launch) (G : zG) (μ : zM) (fb : Nat → Int32) (hfb : μ 1 = fb) (T I : Nat) (hT : fb 3 = nI T) (hI : fb 4 = nI I) (hT6 : T ≤ 6) (hI24 : I ≤ 24) (x : Int32) (hxx : x < 0 ∨ nI I ≤ x) (a : Int32) : zMet l G yX6_answer cX6_answer 6 (some .int) 1 21 [.ref (G.1 + 0), .int x, .int a] μ (zQi G (-1) μ) := by
  refine z_start (lv := [(0, .ref (G.1 + 0)), (1, .int x), (2, .int a)]) (by decide) (Nat.le_of_ble_eq_true rfl) rfl ?_
  intro p e s m args below meth c ls hx hb hml hr hlk hts hown hK hZ hS hl
  have hown : s.vm.findClass RX6 = some m.cls := hown
  refine lv_aload_n hx hb dX6_answer_0 rfl (lv_at hl 0 rfl) ?_
  refine z_g0 (f := (μ 0)) (v := .ref (G.1 + 1)) 0 hx hb hts hown hK hZ zk0 rfl (by decide) q226 rfl dX6_answer_1 ?_
  refine lv_iload_n hx hb dX6_answer_4 rfl (lv_at hl 1 rfl) ?_
  refine z_cVn (As := [.int x]) (rest := []) hx hb hml hown hts hl hK hZ hS (c_X1_itemAt_no l G μ 1 hB1 fb hfb I hI x hxx) (z_G q394 q274 q275 q2 q276) hdX1_itemAt ⟨Nat.le_of_ble_eq_true rfl, Nat.le_of_ble_eq_true rfl⟩ (zk_book hB1) (by decide) rfl rfl rfl rfl (Nat.le_of_ble_eq_true rfl) dX6_answer_5 ⟨(Nat.zero_le _), (Nat.zero_le _)⟩ (fun H locs hZ hS => ?_)
  refine lv_astore_nN (lv' := [(3, .null), (0, .ref (G.1 + 0)), (1, .int x), (2, .int a)]) hx hb dX6_answer_8 rfl hl (by decide) rfl (fun ls hl => ?_)
  refine lv_aload_nN hx hb dX6_answer_9 rfl (lv_at hl 0 rfl) ?_
  refine lv_ifnonnullN hx hb dX6_answer_10 ?_
  refine lv_iconst (v := (-1)) hx hb dX6_answer_13 (by decide) ?_
  exact z_iret hx hb hr hlk hK hZ hS ⟨rfl, rfl⟩ dX6_answer_14
def p_setEvidence (μ : zM) (fb : Nat → Int32) (o z T I : Nat) (j : Nat) (f g : Nat → Int32) (x y : Int32) : Int32 × zM := if (s_out x 0 10) = 0 then if (s_out y 0 10) = 0 then if (g 2) = 1 then ((s_X3_award (zu (zu f 9 x) 10 y)), (zr (zp μ o z T I) (1 + (15 + j)) (zu (zu f 9 x) 10 y)))
      else if (g 2) = 2 then ((s_X3_award (zu (zu f 9 x) 10 y)), (zr (zp μ o z T I) (1 + (15 + j)) (zu (zu f 9 x) 10 y)))
        else ((-4), μ)
    else ((-2), μ)
  else ((-2), μ)
theorem hdX6_setEvidence : yX6_setEvidence.cls = RX6 ∧ yX6_setEvidence.cls ≠ "java/lang/invoke/MethodHandle" ∧ yX6_setEvidence.cls ≠ "java/lang/invoke/VarHandle" ∧ (parseMethodDescriptor yX6_setEvidence.desc).map (fun d => d.parameters.length) = some 3 := by decide +kernel
set_option maxHeartbeats 4000000 in
set_option maxRecDepth 100000 in
theorem c_X6_setEvidence (l : Launch) (G : zG) (μ : zM) (fb hh : Nat → Int32) (hfb : μ 1 = fb) (hfh : μ 79 = hh) (T I o z : Nat) (hT : fb 3 = nI T) (hI : fb 4 = nI I) (hT6 : T ≤ 6) (hI24 : I ≤ 24) (ho : hh 1 = nI o) (hz : hh 2 = nI z) (ho4 : o < 4) (hz4 : z ≤ 4) (j h : Nat) (hj : j < I) (hh0 : h < T) (f : Nat → Int32) (hf : μ (1 + (15 + j)) = f) (he : f 0 = nI h) (g : Nat → Int32) (hg : μ (1 + (3 + 2 * h)) = g) (x y : Int32) : zMet l G yX6_setEvidence cX6_setEvidence 6 (some .int) 4 88 [.ref (G.1 + 0), .int (nI j), .int x, .int y] μ (zQi G (p_setEvidence μ fb o z T I j f g x y).1 (p_setEvidence μ fb o z T I j f g x y).2) := by
  refine z_start (lv := [(0, .ref (G.1 + 0)), (1, .int (nI j)), (2, .int x), (3, .int y)]) (by decide) (Nat.le_of_ble_eq_true rfl) rfl ?_
  intro p e s m args below meth c ls hx hb hml hr hlk hts hown hK hZ hS hl
  have hown : s.vm.findClass RX6 = some m.cls := hown
  refine lv_aload_n hx hb dX6_setEvidence_0 rfl (lv_at hl 0 rfl) ?_
  refine z_g0 (f := (μ 0)) (v := .ref (G.1 + 1)) 0 hx hb hts hown hK hZ zk0 rfl (by decide) q226 rfl dX6_setEvidence_1 ?_
  refine lv_iload_n hx hb dX6_setEvidence_4 rfl (lv_at hl 1 rfl) ?_
  refine z_cVr (As := [.int (nI j)]) (rest := []) hx hb hml hown hts hl hK hZ hS (c_X1_itemAt_ok l G μ 1 hB1 fb hfb I j hI hI24 (by omega)) (z_G q394 q274 q275 q2 q276) hdX1_itemAt ⟨Nat.le_of_ble_eq_true rfl, Nat.le_of_ble_eq_true rfl⟩ (zk_book hB1) (by decide) rfl rfl rfl rfl (Nat.le_of_ble_eq_true rfl) dX6_setEvidence_5 ⟨(Nat.zero_le _), (Nat.zero_le _)⟩ (fun H locs hZ hS => ?_)
  refine lv_astore (lv' := [(4, .ref (G.1 + (1 + (15 + j)))), (0, .ref (G.1 + 0)), (1, .int (nI j)), (2, .int x), (3, .int y)]) hx hb dX6_setEvidence_8 hl (by decide) rfl (fun ls hl => ?_)
  refine lv_aload hx hb dX6_setEvidence_10 (lv_at hl 0 rfl) ?_
  refine lv_ifnonnull (tgt := 17) hx hb dX6_setEvidence_12 (by decide) ?_
  refine lv_iload_n hx hb dX6_setEvidence_17 rfl (lv_at hl 3 rfl) ?_
  refine lv_iconst (v := 0) hx hb dX6_setEvidence_18 (by decide) ?_
  refine lv_bipush (v := 10) hx hb dX6_setEvidence_19 (by decide) ?_
  refine z_cSi (As := [.int x, .int 0, .int 10]) (rest := []) hx hb hml hown hts hl hK hZ hS (c_X6_outside l G μ x 0 10) (z_GS q358 q359 q1 q360) hdX6_outside ⟨Nat.le_of_ble_eq_true rfl, Nat.le_of_ble_eq_true rfl⟩ rfl rfl (Nat.le_of_ble_eq_true rfl) dX6_setEvidence_21 ⟨(Nat.zero_le _), (Nat.zero_le _)⟩ (fun H locs hZ hS => ?_)
  refine lv_if_ne (tgt := 37) hx hb dX6_setEvidence_24 (by decide) (fun c_1 => ?_) (fun c_1 => ?_)
  · refine lv_bipush (v := (-2)) hx hb dX6_setEvidence_37 (by decide) ?_
    exact z_iret hx hb hr hlk hK hZ hS ⟨by rw [p_setEvidence, if_neg c_1], by rw [p_setEvidence, if_neg c_1]⟩ dX6_setEvidence_39
  · refine lv_iload_n hx hb dX6_setEvidence_27 rfl (lv_at hl 4 rfl) ?_
    refine lv_iconst (v := 0) hx hb dX6_setEvidence_28 (by decide) ?_
    refine lv_bipush (v := 10) hx hb dX6_setEvidence_29 (by decide) ?_
    refine z_cSi (As := [.int y, .int 0, .int 10]) (rest := []) hx hb hml hown hts hl hK hZ hS (c_X6_outside l G μ y 0 10) (z_GS q358 q359 q1 q360) hdX6_outside ⟨Nat.le_of_ble_eq_true rfl, Nat.le_of_ble_eq_true rfl⟩ rfl rfl (Nat.le_of_ble_eq_true rfl) dX6_setEvidence_31 ⟨(Nat.zero_le _), (Nat.zero_le _)⟩ (fun H locs hZ hS => ?_)
    refine lv_if_eq (tgt := 40) hx hb dX6_setEvidence_34 (by decide) (fun c_2 => ?_) (fun c_2 => ?_)
    · refine lv_aload_n hx hb dX6_setEvidence_40 rfl (lv_at hl 1 rfl) ?_
      refine z_g0 (f := (μ 0)) (v := .ref (G.1 + 1)) 0 hx hb hts hown hK hZ zk0 rfl (by decide) q226 rfl dX6_setEvidence_41 ?_
      refine lv_aload hx hb dX6_setEvidence_44 (lv_at hl 0 rfl) ?_
      refine z_cVi (As := [.ref (G.1 + (1 + (15 + j)))]) (rest := []) hx hb hml hown hts hl hK hZ hS (c_X1_stateOf l G μ fb hfb (1 + (15 + j)) f (zk_item hB1 (by omega)) hf T h hT hT6 hh0 he g hg) (z_G q411 q412 q413 q2 q414) hdX1_stateOf ⟨Nat.le_of_ble_eq_true rfl, Nat.le_of_ble_eq_true rfl⟩ (zk_book hB1) (by decide) rfl rfl rfl rfl (Nat.le_of_ble_eq_true rfl) dX6_setEvidence_46 ⟨(Nat.zero_le _), (Nat.zero_le _)⟩ (fun H locs hZ hS => ?_)
      refine lv_istore (lv' := [(5, .int (g 2)), (4, .ref (G.1 + (1 + (15 + j)))), (0, .ref (G.1 + 0)), (1, .int (nI j)), (2, .int x), (3, .int y)]) hx hb dX6_setEvidence_49 hl (by decide) rfl (fun ls hl => ?_)
      refine lv_iload hx hb dX6_setEvidence_51 (lv_at hl 0 rfl) ?_
      refine lv_iconst (v := 1) hx hb dX6_setEvidence_53 (by decide) ?_
      refine lv_icmp_eq (tgt := 66) hx hb dX6_setEvidence_54 (by decide) (fun c_3 => ?_) (fun c_3 => ?_)
      · refine lv_aload_n hx hb dX6_setEvidence_66 rfl (lv_at hl 2 rfl) ?_
        refine z_g0 (f := (μ 0)) (v := .ref (G.1 + 79)) 2 hx hb hts hown hK hZ zk0 rfl (by decide) q228 rfl dX6_setEvidence_67 ?_
        refine lv_aload_n hx hb dX6_setEvidence_70 rfl (lv_at hl 2 rfl) ?_
        refine z_g0 (f := (μ 0)) (v := .ref (G.1 + 1)) 0 hx hb hts hown hK hZ zk0 rfl (by decide) q226 rfl dX6_setEvidence_71 ?_
        refine z_cVv (As := [.ref (G.1 + 1)]) (rest := []) hx hb hml hown hts hl hK hZ hS (c_X2_push l G μ hh hfh o ho ho4 z hz hz4 fb hfb T I hT hI hT6 hI24) (z_G q289 q290 q291 q6 q292) hdX2_push ⟨Nat.le_of_ble_eq_true rfl, Nat.le_of_ble_eq_true rfl⟩ zk79 (by decide) rfl rfl rfl rfl (Nat.le_of_ble_eq_true rfl) dX6_setEvidence_74 ⟨(Nat.zero_le _), (Nat.zero_le _)⟩ (fun H locs hZ hS => ?_)
        refine lv_aload hx hb dX6_setEvidence_77 (lv_at hl 1 rfl) ?_
        refine lv_iload_n hx hb dX6_setEvidence_79 rfl (lv_at hl 4 rfl) ?_
        refine z_p6 (f := f) (μ1 := (zr (zp μ o z T I) (1 + (15 + j)) (zu f 9 x))) 9 hx hb hts hown hK hZ hS (zk_item hB1 (by omega)) ((zp_ne (by omega)).trans hf) (by decide) q120 rfl pfd_I rfl rfl dX6_setEvidence_80 (fun H locs hZ hS => ?_)
        refine lv_aload hx hb dX6_setEvidence_83 (lv_at hl 1 rfl) ?_
        refine lv_iload_n hx hb dX6_setEvidence_85 rfl (lv_at hl 5 rfl) ?_
        refine z_p6 (f := (zu f 9 x)) (μ1 := (zr (zp μ o z T I) (1 + (15 + j)) (zu (zu f 9 x) 10 y))) 10 hx hb hts hown hK hZ hS (zk_item hB1 (by omega)) zr_same (by decide) q122 rfl pfd_I rfl zr_zr dX6_setEvidence_86 (fun H locs hZ hS => ?_)
        refine lv_aload hx hb dX6_setEvidence_89 (lv_at hl 1 rfl) ?_
        refine z_cVi (As := []) (rest := []) hx hb hml hown hts hl hK hZ hS (c_X3_award l G (zr (zp μ o z T I) (1 + (15 + j)) (zu (zu f 9 x) 10 y)) (1 + (15 + j)) (zu (zu f 9 x) 10 y) (zk_item hB1 (by omega)) zr_same ) (z_G q420 q346 q347 q5 q348) hdX3_award ⟨Nat.le_of_ble_eq_true rfl, Nat.le_of_ble_eq_true rfl⟩ (zk_item hB1 (by omega)) (by decide) rfl rfl rfl rfl (Nat.le_of_ble_eq_true rfl) dX6_setEvidence_91 ⟨(Nat.zero_le _), (Nat.zero_le _)⟩ (fun H locs hZ hS => ?_)
        exact z_iret hx hb hr hlk hK hZ hS ⟨by rw [p_setEvidence, if_pos c_1, if_pos c_2, if_pos c_3], by rw [p_setEvidence, if_pos c_1, if_pos c_2, if_pos c_3]⟩ dX6_setEvidence_94
      · refine lv_iload hx hb dX6_setEvidence_57 (lv_at hl 0 rfl) ?_
        refine lv_iconst (v := 2) hx hb dX6_setEvidence_59 (by decide) ?_
        refine lv_icmp_eq (tgt := 66) hx hb dX6_setEvidence_60 (by decide) (fun c_4 => ?_) (fun c_4 => ?_)
        · refine lv_aload_n hx hb dX6_setEvidence_66 rfl (lv_at hl 2 rfl) ?_
          refine z_g0 (f := (μ 0)) (v := .ref (G.1 + 79)) 2 hx hb hts hown hK hZ zk0 rfl (by decide) q228 rfl dX6_setEvidence_67 ?_
          refine lv_aload_n hx hb dX6_setEvidence_70 rfl (lv_at hl 2 rfl) ?_
          refine z_g0 (f := (μ 0)) (v := .ref (G.1 + 1)) 0 hx hb hts hown hK hZ zk0 rfl (by decide) q226 rfl dX6_setEvidence_71 ?_
          refine z_cVv (As := [.ref (G.1 + 1)]) (rest := []) hx hb hml hown hts hl hK hZ hS (c_X2_push l G μ hh hfh o ho ho4 z hz hz4 fb hfb T I hT hI hT6 hI24) (z_G q289 q290 q291 q6 q292) hdX2_push ⟨Nat.le_of_ble_eq_true rfl, Nat.le_of_ble_eq_true rfl⟩ zk79 (by decide) rfl rfl rfl rfl (Nat.le_of_ble_eq_true rfl) dX6_setEvidence_74 ⟨(Nat.zero_le _), (Nat.zero_le _)⟩ (fun H locs hZ hS => ?_)
          refine lv_aload hx hb dX6_setEvidence_77 (lv_at hl 1 rfl) ?_
          refine lv_iload_n hx hb dX6_setEvidence_79 rfl (lv_at hl 4 rfl) ?_
          refine z_p6 (f := f) (μ1 := (zr (zp μ o z T I) (1 + (15 + j)) (zu f 9 x))) 9 hx hb hts hown hK hZ hS (zk_item hB1 (by omega)) ((zp_ne (by omega)).trans hf) (by decide) q120 rfl pfd_I rfl rfl dX6_setEvidence_80 (fun H locs hZ hS => ?_)
          refine lv_aload hx hb dX6_setEvidence_83 (lv_at hl 1 rfl) ?_
          refine lv_iload_n hx hb dX6_setEvidence_85 rfl (lv_at hl 5 rfl) ?_
          refine z_p6 (f := (zu f 9 x)) (μ1 := (zr (zp μ o z T I) (1 + (15 + j)) (zu (zu f 9 x) 10 y))) 10 hx hb hts hown hK hZ hS (zk_item hB1 (by omega)) zr_same (by decide) q122 rfl pfd_I rfl zr_zr dX6_setEvidence_86 (fun H locs hZ hS => ?_)
          refine lv_aload hx hb dX6_setEvidence_89 (lv_at hl 1 rfl) ?_
          refine z_cVi (As := []) (rest := []) hx hb hml hown hts hl hK hZ hS (c_X3_award l G (zr (zp μ o z T I) (1 + (15 + j)) (zu (zu f 9 x) 10 y)) (1 + (15 + j)) (zu (zu f 9 x) 10 y) (zk_item hB1 (by omega)) zr_same ) (z_G q420 q346 q347 q5 q348) hdX3_award ⟨Nat.le_of_ble_eq_true rfl, Nat.le_of_ble_eq_true rfl⟩ (zk_item hB1 (by omega)) (by decide) rfl rfl rfl rfl (Nat.le_of_ble_eq_true rfl) dX6_setEvidence_91 ⟨(Nat.zero_le _), (Nat.zero_le _)⟩ (fun H locs hZ hS => ?_)
          exact z_iret hx hb hr hlk hK hZ hS ⟨by rw [p_setEvidence, if_pos c_1, if_pos c_2, if_neg c_3, if_pos c_4], by rw [p_setEvidence, if_pos c_1, if_pos c_2, if_neg c_3, if_pos c_4]⟩ dX6_setEvidence_94
        · refine lv_bipush (v := (-4)) hx hb dX6_setEvidence_63 (by decide) ?_
          exact z_iret hx hb hr hlk hK hZ hS ⟨by rw [p_setEvidence, if_pos c_1, if_pos c_2, if_neg c_3, if_neg c_4], by rw [p_setEvidence, if_pos c_1, if_pos c_2, if_neg c_3, if_neg c_4]⟩ dX6_setEvidence_65
    · refine lv_bipush (v := (-2)) hx hb dX6_setEvidence_37 (by decide) ?_
      exact z_iret hx hb hr hlk hK hZ hS ⟨by rw [p_setEvidence, if_pos c_1, if_neg c_2], by rw [p_setEvidence, if_pos c_1, if_neg c_2]⟩ dX6_setEvidence_39
set_option maxHeartbeats 4000000 in
set_option maxRecDepth 100000 in
theorem c_X6_setEvidence_no (l : Launch) (G : zG) (μ : zM) (fb : Nat → Int32) (hfb : μ 1 = fb) (T I : Nat) (hT : fb 3 = nI T) (hI : fb 4 = nI I) (hT6 : T ≤ 6) (hI24 : I ≤ 24) (x : Int32) (hxx : x < 0 ∨ nI I ≤ x) (a : Int32) (b : Int32) : zMet l G yX6_setEvidence cX6_setEvidence 6 (some .int) 1 21 [.ref (G.1 + 0), .int x, .int a, .int b] μ (zQi G (-1) μ) := by
  refine z_start (lv := [(0, .ref (G.1 + 0)), (1, .int x), (2, .int a), (3, .int b)]) (by decide) (Nat.le_of_ble_eq_true rfl) rfl ?_
  intro p e s m args below meth c ls hx hb hml hr hlk hts hown hK hZ hS hl
  have hown : s.vm.findClass RX6 = some m.cls := hown
  refine lv_aload_n hx hb dX6_setEvidence_0 rfl (lv_at hl 0 rfl) ?_
  refine z_g0 (f := (μ 0)) (v := .ref (G.1 + 1)) 0 hx hb hts hown hK hZ zk0 rfl (by decide) q226 rfl dX6_setEvidence_1 ?_
  refine lv_iload_n hx hb dX6_setEvidence_4 rfl (lv_at hl 1 rfl) ?_
  refine z_cVn (As := [.int x]) (rest := []) hx hb hml hown hts hl hK hZ hS (c_X1_itemAt_no l G μ 1 hB1 fb hfb I hI x hxx) (z_G q394 q274 q275 q2 q276) hdX1_itemAt ⟨Nat.le_of_ble_eq_true rfl, Nat.le_of_ble_eq_true rfl⟩ (zk_book hB1) (by decide) rfl rfl rfl rfl (Nat.le_of_ble_eq_true rfl) dX6_setEvidence_5 ⟨(Nat.zero_le _), (Nat.zero_le _)⟩ (fun H locs hZ hS => ?_)
  refine lv_astoreN (lv' := [(4, .null), (0, .ref (G.1 + 0)), (1, .int x), (2, .int a), (3, .int b)]) hx hb dX6_setEvidence_8 hl (by decide) rfl (fun ls hl => ?_)
  refine lv_aloadN hx hb dX6_setEvidence_10 (lv_at hl 0 rfl) ?_
  refine lv_ifnonnullN hx hb dX6_setEvidence_12 ?_
  refine lv_iconst (v := (-1)) hx hb dX6_setEvidence_15 (by decide) ?_
  exact z_iret hx hb hr hlk hK hZ hS ⟨rfl, rfl⟩ dX6_setEvidence_16
def p_close (μ : zM) (fb : Nat → Int32) (o z T I : Nat) (t : Nat) (g : Nat → Int32) : Int32 × zM := if (g 2) = 2 then (((s_settle (zp μ o z T I) fb g t I) 1), (zr (zr (zp μ o z T I) ((1 + (3 + 2 * t)) + 1) (s_settle (zp μ o z T I) fb g t I)) (1 + (3 + 2 * t)) (zu (zu g 5 (s_X1_interestOf fb g)) 2 3)))
  else ((-4), μ)
theorem hdX6_close : yX6_close.cls = RX6 ∧ yX6_close.cls ≠ "java/lang/invoke/MethodHandle" ∧ yX6_close.cls ≠ "java/lang/invoke/VarHandle" ∧ (parseMethodDescriptor yX6_close.desc).map (fun d => d.parameters.length) = some 1 := by decide +kernel
set_option maxHeartbeats 4000000 in
set_option maxRecDepth 100000 in
theorem c_X6_close (l : Launch) (G : zG) (μ : zM) (fb hh : Nat → Int32) (hfb : μ 1 = fb) (hfh : μ 79 = hh) (T I o z : Nat) (hT : fb 3 = nI T) (hI : fb 4 = nI I) (hT6 : T ≤ 6) (hI24 : I ≤ 24) (ho : hh 1 = nI o) (hz : hh 2 = nI z) (ho4 : o < 4) (hz4 : z ≤ 4) (t : Nat) (ht : t < T) (g : Nat → Int32) (hg : μ (1 + (3 + 2 * t)) = g) (hr8 : fK 125 (Int32.toUInt32 (fb 2))) : zMet l G yX6_close cX6_close 3 (some .int) 5 115 [.ref (G.1 + 0), .int (nI t)] μ (zQi G (p_close μ fb o z T I t g).1 (p_close μ fb o z T I t g).2) := by
  refine z_start (lv := [(0, .ref (G.1 + 0)), (1, .int (nI t))]) (by decide) (Nat.le_of_ble_eq_true rfl) rfl ?_
  intro p e s m args below meth c ls hx hb hml hr hlk hts hown hK hZ hS hl
  have hown : s.vm.findClass RX6 = some m.cls := hown
  refine lv_aload_n hx hb dX6_close_0 rfl (lv_at hl 0 rfl) ?_
  refine z_g0 (f := (μ 0)) (v := .ref (G.1 + 1)) 0 hx hb hts hown hK hZ zk0 rfl (by decide) q226 rfl dX6_close_1 ?_
  refine lv_iload_n hx hb dX6_close_4 rfl (lv_at hl 1 rfl) ?_
  refine z_cVr (As := [.int (nI t)]) (rest := []) hx hb hml hown hts hl hK hZ hS (c_X1_tenancyAt_ok l G μ 1 hB1 fb hfb T t hT hT6 (by omega)) (z_G q306 q262 q263 q2 q264) hdX1_tenancyAt ⟨Nat.le_of_ble_eq_true rfl, Nat.le_of_ble_eq_true rfl⟩ (zk_book hB1) (by decide) rfl rfl rfl rfl (Nat.le_of_ble_eq_true rfl) dX6_close_5 ⟨(Nat.zero_le _), (Nat.zero_le _)⟩ (fun H locs hZ hS => ?_)
  refine lv_astore_n (lv' := [(2, .ref (G.1 + (1 + (3 + 2 * t)))), (0, .ref (G.1 + 0)), (1, .int (nI t))]) hx hb dX6_close_8 rfl hl (by decide) rfl (fun ls hl => ?_)
  refine lv_aload_n hx hb dX6_close_9 rfl (lv_at hl 0 rfl) ?_
  refine lv_ifnonnull (tgt := 15) hx hb dX6_close_10 (by decide) ?_
  refine lv_aload_n hx hb dX6_close_15 rfl (lv_at hl 0 rfl) ?_
  refine z_g4 (f := g) (v := .int (g 2)) 2 hx hb hts hown hK hZ (zk_ten hB1 (by omega)) hg (by decide) q66 rfl dX6_close_16 ?_
  refine lv_iconst (v := 2) hx hb dX6_close_19 (by decide) ?_
  refine lv_icmp_eq (tgt := 26) hx hb dX6_close_20 (by decide) (fun c_1 => ?_) (fun c_1 => ?_)
  · refine lv_aload_n hx hb dX6_close_26 rfl (lv_at hl 1 rfl) ?_
    refine z_g0 (f := (μ 0)) (v := .ref (G.1 + 79)) 2 hx hb hts hown hK hZ zk0 rfl (by decide) q228 rfl dX6_close_27 ?_
    refine lv_aload_n hx hb dX6_close_30 rfl (lv_at hl 1 rfl) ?_
    refine z_g0 (f := (μ 0)) (v := .ref (G.1 + 1)) 0 hx hb hts hown hK hZ zk0 rfl (by decide) q226 rfl dX6_close_31 ?_
    refine z_cVv (As := [.ref (G.1 + 1)]) (rest := []) hx hb hml hown hts hl hK hZ hS (c_X2_push l G μ hh hfh o ho ho4 z hz hz4 fb hfb T I hT hI hT6 hI24) (z_G q289 q290 q291 q6 q292) hdX2_push ⟨Nat.le_of_ble_eq_true rfl, Nat.le_of_ble_eq_true rfl⟩ zk79 (by decide) rfl rfl rfl rfl (Nat.le_of_ble_eq_true rfl) dX6_close_34 ⟨(Nat.zero_le _), (Nat.zero_le _)⟩ (fun H locs hZ hS => ?_)
    refine lv_aload_n hx hb dX6_close_37 rfl (lv_at hl 1 rfl) ?_
    refine z_g0 (f := ((zp μ o z T I) 0)) (v := .ref (G.1 + 1)) 0 hx hb hts hown hK hZ zk0 rfl (by decide) q226 rfl dX6_close_38 ?_
    refine lv_iload_n hx hb dX6_close_41 rfl (lv_at hl 2 rfl) ?_
    refine lv_aload_n hx hb dX6_close_42 rfl (lv_at hl 0 rfl) ?_
    refine lv_aload_n hx hb dX6_close_43 rfl (lv_at hl 0 rfl) ?_
    refine z_g4 (f := g) (v := .ref (G.1 + ((1 + (3 + 2 * t)) + 1))) 6 hx hb hts hown hK hZ (zk_ten hB1 (by omega)) ((zp_ne (by omega)).trans hg) (by decide) q78 rfl dX6_close_44 ?_
    refine z_cVv (As := [.int (nI t), .ref (G.1 + (1 + (3 + 2 * t))), .ref (G.1 + ((1 + (3 + 2 * t)) + 1))]) (rest := []) hx hb hml hown hts hl hK hZ hS (c_X1_settle l G (zp μ o z T I) fb ((zp_ne (by omega)).trans hfb) I hI hI24 t (1 + (3 + 2 * t)) g (zk_ten hB1 (by omega)) ((zp_ne (by omega)).trans hg) ((1 + (3 + 2 * t)) + 1) (zk_set1 hB1 (by omega)) (by omega) (by omega) (fun j hj => by omega) hr8) (z_G q365 q366 q367 q2 q368) hdX1_settle ⟨Nat.le_of_ble_eq_true rfl, Nat.le_of_ble_eq_true rfl⟩ (zk_book hB1) (by decide) rfl rfl rfl rfl (Nat.le_of_ble_eq_true rfl) dX6_close_47 ⟨(Nat.zero_le _), (Nat.zero_le _)⟩ (fun H locs hZ hS => ?_)
    refine lv_aload_n hx hb dX6_close_50 rfl (lv_at hl 0 rfl) ?_
    refine lv_aload_n hx hb dX6_close_51 rfl (lv_at hl 1 rfl) ?_
    refine z_g0 (f := ((zr (zp μ o z T I) ((1 + (3 + 2 * t)) + 1) (s_settle (zp μ o z T I) fb g t I)) 0)) (v := .ref (G.1 + 1)) 0 hx hb hts hown hK hZ zk0 rfl (by decide) q226 rfl dX6_close_52 ?_
    refine lv_aload_n hx hb dX6_close_55 rfl (lv_at hl 0 rfl) ?_
    refine z_cVi (As := [.ref (G.1 + (1 + (3 + 2 * t)))]) (rest := [.ref (G.1 + (1 + (3 + 2 * t)))]) hx hb hml hown hts hl hK hZ hS (c_X1_interestOf l G (zr (zp μ o z T I) ((1 + (3 + 2 * t)) + 1) (s_settle (zp μ o z T I) fb g t I)) 1 fb (zk_book hB1) (zr_at ((zp_ne (by omega)).trans hfb) (by omega)) (1 + (3 + 2 * t)) g (zk_ten hB1 (by omega)) (zr_at ((zp_ne (by omega)).trans hg) (by omega)) hr8) (z_G q332 q333 q334 q2 q335) hdX1_interestOf ⟨Nat.le_of_ble_eq_true rfl, Nat.le_of_ble_eq_true rfl⟩ (zk_book hB1) (by decide) rfl rfl rfl rfl (Nat.le_of_ble_eq_true rfl) dX6_close_56 ⟨(Nat.zero_le _), (Nat.zero_le _)⟩ (fun H locs hZ hS => ?_)
    refine z_p4 (f := g) (μ1 := (zr (zr (zp μ o z T I) ((1 + (3 + 2 * t)) + 1) (s_settle (zp μ o z T I) fb g t I)) (1 + (3 + 2 * t)) (zu g 5 (s_X1_interestOf fb g)))) 5 hx hb hts hown hK hZ hS (zk_ten hB1 (by omega)) (zr_at ((zp_ne (by omega)).trans hg) (by omega)) (by decide) q76 rfl pfd_I rfl rfl dX6_close_59 (fun H locs hZ hS => ?_)
    refine lv_aload_n hx hb dX6_close_62 rfl (lv_at hl 0 rfl) ?_
    refine lv_iconst (v := 3) hx hb dX6_close_63 (by decide) ?_
    refine z_p4 (f := (zu g 5 (s_X1_interestOf fb g))) (μ1 := (zr (zr (zp μ o z T I) ((1 + (3 + 2 * t)) + 1) (s_settle (zp μ o z T I) fb g t I)) (1 + (3 + 2 * t)) (zu (zu g 5 (s_X1_interestOf fb g)) 2 3))) 2 hx hb hts hown hK hZ hS (zk_ten hB1 (by omega)) zr_same (by decide) q66 rfl pfd_I rfl zr_zr dX6_close_64 (fun H locs hZ hS => ?_)
    refine lv_aload_n hx hb dX6_close_67 rfl (lv_at hl 0 rfl) ?_
    refine z_g4 (f := (zu (zu g 5 (s_X1_interestOf fb g)) 2 3)) (v := .ref (G.1 + ((1 + (3 + 2 * t)) + 1))) 6 hx hb hts hown hK hZ (zk_ten hB1 (by omega)) zr_same (by decide) q78 rfl dX6_close_68 ?_
    refine z_g5 (f := (s_settle (zp μ o z T I) fb g t I)) (v := .int ((s_settle (zp μ o z T I) fb g t I) 1)) 1 hx hb hts hown hK hZ (zk_set1 hB1 (by omega)) (zr_at zr_same (by omega)) (by decide) q41 rfl dX6_close_71 ?_
    exact z_iret hx hb hr hlk hK hZ hS ⟨by rw [p_close, if_pos c_1], by rw [p_close, if_pos c_1]⟩ dX6_close_74
  · refine lv_bipush (v := (-4)) hx hb dX6_close_23 (by decide) ?_
    exact z_iret hx hb hr hlk hK hZ hS ⟨by rw [p_close, if_neg c_1], by rw [p_close, if_neg c_1]⟩ dX6_close_25
set_option maxHeartbeats 4000000 in
set_option maxRecDepth 100000 in
theorem c_X6_close_no (l : Launch) (G : zG) (μ : zM) (fb : Nat → Int32) (hfb : μ 1 = fb) (T I : Nat) (hT : fb 3 = nI T) (hI : fb 4 = nI I) (hT6 : T ≤ 6) (hI24 : I ≤ 24) (x : Int32) (hxx : x < 0 ∨ nI T ≤ x) : zMet l G yX6_close cX6_close 3 (some .int) 1 21 [.ref (G.1 + 0), .int x] μ (zQi G (-1) μ) := by
  refine z_start (lv := [(0, .ref (G.1 + 0)), (1, .int x)]) (by decide) (Nat.le_of_ble_eq_true rfl) rfl ?_
  intro p e s m args below meth c ls hx hb hml hr hlk hts hown hK hZ hS hl
  have hown : s.vm.findClass RX6 = some m.cls := hown
  refine lv_aload_n hx hb dX6_close_0 rfl (lv_at hl 0 rfl) ?_
  refine z_g0 (f := (μ 0)) (v := .ref (G.1 + 1)) 0 hx hb hts hown hK hZ zk0 rfl (by decide) q226 rfl dX6_close_1 ?_
  refine lv_iload_n hx hb dX6_close_4 rfl (lv_at hl 1 rfl) ?_
  refine z_cVn (As := [.int x]) (rest := []) hx hb hml hown hts hl hK hZ hS (c_X1_tenancyAt_no l G μ 1 hB1 fb hfb T hT x hxx) (z_G q306 q262 q263 q2 q264) hdX1_tenancyAt ⟨Nat.le_of_ble_eq_true rfl, Nat.le_of_ble_eq_true rfl⟩ (zk_book hB1) (by decide) rfl rfl rfl rfl (Nat.le_of_ble_eq_true rfl) dX6_close_5 ⟨(Nat.zero_le _), (Nat.zero_le _)⟩ (fun H locs hZ hS => ?_)
  refine lv_astore_nN (lv' := [(2, .null), (0, .ref (G.1 + 0)), (1, .int x)]) hx hb dX6_close_8 rfl hl (by decide) rfl (fun ls hl => ?_)
  refine lv_aload_nN hx hb dX6_close_9 rfl (lv_at hl 0 rfl) ?_
  refine lv_ifnonnullN hx hb dX6_close_10 ?_
  refine lv_iconst (v := (-1)) hx hb dX6_close_13 (by decide) ?_
  exact z_iret hx hb hr hlk hK hZ hS ⟨rfl, rfl⟩ dX6_close_14
