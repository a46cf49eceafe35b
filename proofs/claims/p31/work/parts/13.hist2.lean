theorem hdX6_undo : yX6_undo.cls = RX6 ∧ yX6_undo.cls ≠ "java/lang/invoke/MethodHandle" ∧ yX6_undo.cls ≠ "java/lang/invoke/VarHandle" ∧ (parseMethodDescriptor yX6_undo.desc).map (fun d => d.parameters.length) = some 0 := by decide +kernel
set_option maxHeartbeats 4000000 in
set_option maxRecDepth 100000 in
theorem c_X6_undo (l : Launch) (G : zG) (μ : zM) (fb hh : Nat → Int32) (hfb : μ 1 = fb) (hfh : μ 79 = hh) (o z : Nat) (ho : hh 1 = nI o) (hz : hh 2 = nI z) (ho4 : o < 4) (hz0 : 0 < z) (hz4 : z ≤ 4) (fs : Nat → Int32) (hfs : μ (81 + 39 * ((o + (z - 1)) % 4)) = fs) (T' I' : Nat) (hT' : fs 3 = nI T') (hI' : fs 4 = nI I') (hT6' : T' ≤ 6) (hI24' : I' ≤ 24) : zMet l G yX6_undo cX6_undo 2 (some .int) 3 66 [.ref (G.1 + 0)] μ (zQi G (nI (z - 1)) (zr (bc μ 1 (81 + 39 * ((o + (z - 1)) % 4)) T' I') 79 (zu hh 2 (nI (z - 1))))) := by
  refine z_start (lv := [(0, .ref (G.1 + 0))]) (by decide) (Nat.le_of_ble_eq_true rfl) rfl ?_
  intro p e s m args below meth c ls hx hb hml hr hlk hts hown hK hZ hS hl
  have hown : s.vm.findClass RX6 = some m.cls := hown
  refine lv_aload_n hx hb dX6_undo_0 rfl (lv_at hl 0 rfl) ?_
  refine z_g0 (f := (μ 0)) (v := .ref (G.1 + 79)) 2 hx hb hts hown hK hZ zk0 rfl (by decide) q228 rfl dX6_undo_1 ?_
  refine z_cVr (As := []) (rest := []) hx hb hml hown hts hl hK hZ hS (c_X2_latest l G μ hh hfh o ho ho4 z hz hz0 hz4) (z_G q249 q250 q251 q6 q252) hdX2_latest ⟨Nat.le_of_ble_eq_true rfl, Nat.le_of_ble_eq_true rfl⟩ zk79 (by decide) rfl rfl rfl rfl (Nat.le_of_ble_eq_true rfl) dX6_undo_4 ⟨(Nat.zero_le _), (Nat.zero_le _)⟩ (fun H locs hZ hS => ?_)
  refine lv_astore_n (lv' := [(1, .ref (G.1 + (81 + 39 * ((o + (z - 1)) % 4)))), (0, .ref (G.1 + 0))]) hx hb dX6_undo_7 rfl hl (by decide) rfl (fun ls hl => ?_)
  refine lv_aload_n hx hb dX6_undo_8 rfl (lv_at hl 0 rfl) ?_
  refine lv_ifnonnull (tgt := 15) hx hb dX6_undo_9 (by decide) ?_
  refine lv_aload_n hx hb dX6_undo_15 rfl (lv_at hl 1 rfl) ?_
  refine z_g0 (f := (μ 0)) (v := .ref (G.1 + 1)) 0 hx hb hts hown hK hZ zk0 rfl (by decide) q226 rfl dX6_undo_16 ?_
  refine lv_aload_n hx hb dX6_undo_19 rfl (lv_at hl 0 rfl) ?_
  refine z_cVv (As := [.ref (G.1 + (81 + 39 * ((o + (z - 1)) % 4)))]) (rest := []) hx hb hml hown hts hl hK hZ hS (c_X1_copyFrom l G μ 1 (81 + 39 * ((o + (z - 1)) % 4)) hB1 (zB_h (Nat.mod_lt _ (by decide))) (by omega) fb fs hfb hfs (T') (I') hT' hI' hT6' hI24') (z_G q257 q258 q259 q2 q260) hdX1_copyFrom ⟨Nat.le_of_ble_eq_true rfl, Nat.le_of_ble_eq_true rfl⟩ (zk_book hB1) (by decide) rfl rfl rfl rfl (Nat.le_of_ble_eq_true rfl) dX6_undo_20 ⟨(Nat.zero_le _), (Nat.zero_le _)⟩ (fun H locs hZ hS => ?_)
  refine lv_aload_n hx hb dX6_undo_23 rfl (lv_at hl 1 rfl) ?_
  refine z_g0 (f := ((bc μ 1 (81 + 39 * ((o + (z - 1)) % 4)) (T') (I')) 0)) (v := .ref (G.1 + 79)) 2 hx hb hts hown hK hZ zk0 rfl (by decide) q228 rfl dX6_undo_24 ?_
  refine lv_dup hx hb dX6_undo_27 rfl ?_
  refine z_g7 (f := hh) (v := .int (nI z)) 2 hx hb hts hown hK hZ zk79 ((bc_out (by omega)).trans hfh) (by decide) q185 (congrArg (fun z => some (Value.int z)) hz) dX6_undo_28 ?_
  refine lv_iconst (v := 1) hx hb dX6_undo_31 (by decide) ?_
  refine lv_isub hx hb dX6_undo_32 ?_
  rw [z_sub1 hz0]
  refine z_p7 (f := hh) (μ1 := (zr (bc μ 1 (81 + 39 * ((o + (z - 1)) % 4)) (T') (I')) 79 (zu hh 2 (nI (z - 1))))) 2 hx hb hts hown hK hZ hS zk79 ((bc_out (by omega)).trans hfh) (by decide) q185 rfl pfd_I rfl rfl dX6_undo_33 (fun H locs hZ hS => ?_)
  refine lv_aload_n hx hb dX6_undo_36 rfl (lv_at hl 1 rfl) ?_
  refine z_g0 (f := ((zr (bc μ 1 (81 + 39 * ((o + (z - 1)) % 4)) (T') (I')) 79 (zu hh 2 (nI (z - 1)))) 0)) (v := .ref (G.1 + 79)) 2 hx hb hts hown hK hZ zk0 rfl (by decide) q228 rfl dX6_undo_37 ?_
  refine z_g7 (f := (zu hh 2 (nI (z - 1)))) (v := .int (nI (z - 1))) 2 hx hb hts hown hK hZ zk79 zr_same (by decide) q185 rfl dX6_undo_40 ?_
  exact z_iret hx hb hr hlk hK hZ hS ⟨rfl, rfl⟩ dX6_undo_43
set_option maxHeartbeats 4000000 in
set_option maxRecDepth 100000 in
theorem c_X6_undo_no (l : Launch) (G : zG) (μ : zM) (hh : Nat → Int32) (hfh : μ 79 = hh) (hz : hh 2 = nI 0) : zMet l G yX6_undo cX6_undo 2 (some .int) 1 20 [.ref (G.1 + 0)] μ (zQi G (-5) μ) := by
  refine z_start (lv := [(0, .ref (G.1 + 0))]) (by decide) (Nat.le_of_ble_eq_true rfl) rfl ?_
  intro p e s m args below meth c ls hx hb hml hr hlk hts hown hK hZ hS hl
  have hown : s.vm.findClass RX6 = some m.cls := hown
  refine lv_aload_n hx hb dX6_undo_0 rfl (lv_at hl 0 rfl) ?_
  refine z_g0 (f := (μ 0)) (v := .ref (G.1 + 79)) 2 hx hb hts hown hK hZ zk0 rfl (by decide) q228 rfl dX6_undo_1 ?_
  refine z_cVn (As := []) (rest := []) hx hb hml hown hts hl hK hZ hS (c_X2_latest_no l G μ hh hfh hz) (z_G q249 q250 q251 q6 q252) hdX2_latest ⟨Nat.le_of_ble_eq_true rfl, Nat.le_of_ble_eq_true rfl⟩ zk79 (by decide) rfl rfl rfl rfl (Nat.le_of_ble_eq_true rfl) dX6_undo_4 ⟨(Nat.zero_le _), (Nat.zero_le _)⟩ (fun H locs hZ hS => ?_)
  refine lv_astore_nN (lv' := [(1, .null), (0, .ref (G.1 + 0))]) hx hb dX6_undo_7 rfl hl (by decide) rfl (fun ls hl => ?_)
  refine lv_aload_nN hx hb dX6_undo_8 rfl (lv_at hl 0 rfl) ?_
  refine lv_ifnonnullN hx hb dX6_undo_9 ?_
  refine lv_bipush (v := (-5)) hx hb dX6_undo_12 (by decide) ?_
  exact z_iret hx hb hr hlk hK hZ hS ⟨rfl, rfl⟩ dX6_undo_14
theorem hdX6_keep : yX6_keep.cls = RX6 ∧ yX6_keep.cls ≠ "java/lang/invoke/MethodHandle" ∧ yX6_keep.cls ≠ "java/lang/invoke/VarHandle" ∧ (parseMethodDescriptor yX6_keep.desc).map (fun d => d.parameters.length) = some 0 := by decide +kernel
set_option maxHeartbeats 4000000 in
set_option maxRecDepth 100000 in
theorem c_X6_keep (l : Launch) (G : zG) (μ : zM) (fb : Nat → Int32) (hfb : μ 1 = fb) (T I : Nat) (hT : fb 3 = nI T) (hI : fb 4 = nI I) (hT6 : T ≤ 6) (hI24 : I ≤ 24) (td f40 : Nat → Int32) (htd : μ 0 = td) (hf40 : μ 40 = f40) : zMet l G yX6_keep cX6_keep 1 (some .int) 3 66 [.ref (G.1 + 0)] μ (zQi G (fb 0) (zr (bc μ 40 1 T I) 0 (zu td 5 1))) := by
  refine z_start (lv := [(0, .ref (G.1 + 0))]) (by decide) (Nat.le_of_ble_eq_true rfl) rfl ?_
  intro p e s m args below meth c ls hx hb hml hr hlk hts hown hK hZ hS hl
  have hown : s.vm.findClass RX6 = some m.cls := hown
  refine lv_aload_n hx hb dX6_keep_0 rfl (lv_at hl 0 rfl) ?_
  refine z_g0 (f := td) (v := .ref (G.1 + 40)) 1 hx hb hts hown hK hZ zk0 htd (by decide) q227 rfl dX6_keep_1 ?_
  refine lv_aload_n hx hb dX6_keep_4 rfl (lv_at hl 0 rfl) ?_
  refine z_g0 (f := td) (v := .ref (G.1 + 1)) 0 hx hb hts hown hK hZ zk0 htd (by decide) q226 rfl dX6_keep_5 ?_
  refine z_cVv (As := [.ref (G.1 + 1)]) (rest := []) hx hb hml hown hts hl hK hZ hS (c_X1_copyFrom l G μ 40 1 hB40 hB1 (by omega) f40 fb hf40 hfb T I hT hI hT6 hI24) (z_G q257 q258 q259 q2 q260) hdX1_copyFrom ⟨Nat.le_of_ble_eq_true rfl, Nat.le_of_ble_eq_true rfl⟩ (zk_book hB40) (by decide) rfl rfl rfl rfl (Nat.le_of_ble_eq_true rfl) dX6_keep_8 ⟨(Nat.zero_le _), (Nat.zero_le _)⟩ (fun H locs hZ hS => ?_)
  refine lv_aload_n hx hb dX6_keep_11 rfl (lv_at hl 0 rfl) ?_
  refine lv_iconst (v := 1) hx hb dX6_keep_12 (by decide) ?_
  refine z_p0z (f := td) (μ1 := (zr (bc μ 40 1 T I) 0 (zu td 5 1))) 5 hx hb hts hown hK hZ hS zk0 ((bc_out (by omega)).trans htd) (by decide) q231 rfl pfd_Z rfl rfl rfl rfl dX6_keep_13 (fun H locs hZ hS => ?_)
  refine lv_aload_n hx hb dX6_keep_16 rfl (lv_at hl 0 rfl) ?_
  refine z_g0 (f := (zu td 5 1)) (v := .ref (G.1 + 1)) 0 hx hb hts hown hK hZ zk0 zr_same (by decide) q226 rfl dX6_keep_17 ?_
  refine z_g1 (f := fb) (v := .int (fb 0)) 0 hx hb hts hown hK hZ (zk_book hB1) (zr_at ((bc_out (by omega)).trans hfb) (by decide)) (by decide) q147 rfl dX6_keep_20 ?_
  exact z_iret hx hb hr hlk hK hZ hS ⟨rfl, rfl⟩ dX6_keep_23
theorem hdX6_restore : yX6_restore.cls = RX6 ∧ yX6_restore.cls ≠ "java/lang/invoke/MethodHandle" ∧ yX6_restore.cls ≠ "java/lang/invoke/VarHandle" ∧ (parseMethodDescriptor yX6_restore.desc).map (fun d => d.parameters.length) = some 0 := by decide +kernel
set_option maxHeartbeats 4000000 in
set_option maxRecDepth 100000 in
theorem c_X6_restore_no (l : Launch) (G : zG) (μ : zM) (td : Nat → Int32) (htd : μ 0 = td) (hk0 : td 5 = 0) : zMet l G yX6_restore cX6_restore 1 (some .int) 0 0 [.ref (G.1 + 0)] μ (zQi G (-5) μ) := by
  refine z_start (lv := [(0, .ref (G.1 + 0))]) (by decide) (Nat.le_of_ble_eq_true rfl) rfl ?_
  intro p e s m args below meth c ls hx hb hml hr hlk hts hown hK hZ hS hl
  have hown : s.vm.findClass RX6 = some m.cls := hown
  refine lv_aload_n hx hb dX6_restore_0 rfl (lv_at hl 0 rfl) ?_
  refine z_g0 (f := td) (v := .int (td 5)) 5 hx hb hts hown hK hZ zk0 htd (by decide) q231 rfl dX6_restore_1 ?_
  refine lv_if_ne (tgt := 10) hx hb dX6_restore_4 (by decide) (fun c_1 => ?_) (fun c_1 => ?_)
  · exact absurd hk0 c_1
  · refine lv_bipush (v := (-5)) hx hb dX6_restore_7 (by decide) ?_
    exact z_iret hx hb hr hlk hK hZ hS ⟨rfl, rfl⟩ dX6_restore_9
set_option maxHeartbeats 4000000 in
set_option maxRecDepth 100000 in
theorem c_X6_restore (l : Launch) (G : zG) (μ : zM) (fb hh : Nat → Int32) (hfb : μ 1 = fb) (hfh : μ 79 = hh) (T I o z : Nat) (hT : fb 3 = nI T) (hI : fb 4 = nI I) (hT6 : T ≤ 6) (hI24 : I ≤ 24) (ho : hh 1 = nI o) (hz : hh 2 = nI z) (ho4 : o < 4) (hz4 : z ≤ 4) (td : Nat → Int32) (htd : μ 0 = td) (hk1 : td 5 = 1) (fs : Nat → Int32) (hfs : μ 40 = fs) (T' I' : Nat) (hT' : fs 3 = nI T') (hI' : fs 4 = nI I') (hT6' : T' ≤ 6) (hI24' : I' ≤ 24) : zMet l G yX6_restore cX6_restore 1 (some .int) 4 88 [.ref (G.1 + 0)] μ (zQi G (fs 0) (bc (zp μ o z T I) 1 40 T' I')) := by
  refine z_start (lv := [(0, .ref (G.1 + 0))]) (by decide) (Nat.le_of_ble_eq_true rfl) rfl ?_
  intro p e s m args below meth c ls hx hb hml hr hlk hts hown hK hZ hS hl
  have hown : s.vm.findClass RX6 = some m.cls := hown
  refine lv_aload_n hx hb dX6_restore_0 rfl (lv_at hl 0 rfl) ?_
  refine z_g0 (f := td) (v := .int (td 5)) 5 hx hb hts hown hK hZ zk0 htd (by decide) q231 rfl dX6_restore_1 ?_
  refine lv_if_ne (tgt := 10) hx hb dX6_restore_4 (by decide) (fun c_1 => ?_) (fun c_1 => ?_)
  · refine lv_aload_n hx hb dX6_restore_10 rfl (lv_at hl 0 rfl) ?_
    refine z_g0 (f := td) (v := .ref (G.1 + 79)) 2 hx hb hts hown hK hZ zk0 htd (by decide) q228 rfl dX6_restore_11 ?_
    refine lv_aload_n hx hb dX6_restore_14 rfl (lv_at hl 0 rfl) ?_
    refine z_g0 (f := td) (v := .ref (G.1 + 1)) 0 hx hb hts hown hK hZ zk0 htd (by decide) q226 rfl dX6_restore_15 ?_
    refine z_cVv (As := [.ref (G.1 + 1)]) (rest := []) hx hb hml hown hts hl hK hZ hS (c_X2_push l G μ hh hfh o ho ho4 z hz hz4 fb hfb T I hT hI hT6 hI24) (z_G q289 q290 q291 q6 q292) hdX2_push ⟨Nat.le_of_ble_eq_true rfl, Nat.le_of_ble_eq_true rfl⟩ zk79 (by decide) rfl rfl rfl rfl (Nat.le_of_ble_eq_true rfl) dX6_restore_18 ⟨(Nat.zero_le _), (Nat.zero_le _)⟩ (fun H locs hZ hS => ?_)
    refine lv_aload_n hx hb dX6_restore_21 rfl (lv_at hl 0 rfl) ?_
    refine z_g0 (f := td) (v := .ref (G.1 + 1)) 0 hx hb hts hown hK hZ zk0 ((zp_ne (by omega)).trans htd) (by decide) q226 rfl dX6_restore_22 ?_
    refine lv_aload_n hx hb dX6_restore_25 rfl (lv_at hl 0 rfl) ?_
    refine z_g0 (f := td) (v := .ref (G.1 + 40)) 1 hx hb hts hown hK hZ zk0 ((zp_ne (by omega)).trans htd) (by decide) q227 rfl dX6_restore_26 ?_
    refine z_cVv (As := [.ref (G.1 + 40)]) (rest := []) hx hb hml hown hts hl hK hZ hS (c_X1_copyFrom l G (zp μ o z T I) 1 40 hB1 hB40 (by omega) fb fs ((zp_ne (by omega)).trans hfb) ((zp_ne (by omega)).trans hfs) (T') (I') hT' hI' hT6' hI24') (z_G q257 q258 q259 q2 q260) hdX1_copyFrom ⟨Nat.le_of_ble_eq_true rfl, Nat.le_of_ble_eq_true rfl⟩ (zk_book hB1) (by decide) rfl rfl rfl rfl (Nat.le_of_ble_eq_true rfl) dX6_restore_29 ⟨(Nat.zero_le _), (Nat.zero_le _)⟩ (fun H locs hZ hS => ?_)
    refine lv_aload_n hx hb dX6_restore_32 rfl (lv_at hl 0 rfl) ?_
    refine z_g0 (f := td) (v := .ref (G.1 + 1)) 0 hx hb hts hown hK hZ zk0 ((bc_out (by omega)).trans ((zp_ne (by omega)).trans htd)) (by decide) q226 rfl dX6_restore_33 ?_
    refine z_g1 (f := fs) (v := .int (fs 0)) 0 hx hb hts hown hK hZ (zk_book hB1) ((bc_live (r := 0) (by omega) (Or.inl rfl)).trans ((zp_ne (by omega)).trans hfs)) (by decide) q147 rfl dX6_restore_36 ?_
    exact z_iret hx hb hr hlk hK hZ hS ⟨rfl, rfl⟩ dX6_restore_39
  · exact absurd c_1 (by rw [hk1]; decide)
