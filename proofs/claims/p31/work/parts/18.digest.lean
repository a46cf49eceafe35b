def s_low (v n : Int32) : Int32 := (v &&& 2147483647) - (v &&& 2147483647) / n * n
theorem hdL_low : yL_low.cls = RL ∧ yL_low.cls ≠ "java/lang/invoke/MethodHandle" ∧ yL_low.cls ≠ "java/lang/invoke/VarHandle" ∧ (parseMethodDescriptor yL_low.desc).map (fun d => d.parameters.length) = some 2 := by decide +kernel
set_option maxHeartbeats 4000000 in
set_option maxRecDepth 100000 in
theorem c_L_low (l : Launch) (G : zG) (μ : zM) (v n : Int32) (hn0 : ¬ n = 0) : zMet l G yL_low cL_low 2 (some .int) 0 0 [.int v, .int n] μ (zQi G (s_low v n) μ) := by
  refine z_start (lv := [(0, .int v), (1, .int n)]) (by decide) (Nat.le_of_ble_eq_true rfl) rfl ?_
  intro p e s m args below meth c ls hx hb hml hr hlk hts hown hK hZ hS hl
  have hown : s.vm.findClass RL = some m.cls := hown
  refine lv_iload_n hx hb dL_low_0 rfl (lv_at hl 0 rfl) ?_
  refine lv_ldc hx hb hown (hts _ q442) dL_low_1 ?_
  refine lv_iand hx hb dL_low_3 ?_
  refine lv_iload_n hx hb dL_low_4 rfl (lv_at hl 1 rfl) ?_
  refine lv_irem hx hb dL_low_5 hn0 ?_
  exact z_iret hx hb hr hlk hK hZ hS ⟨rfl, rfl⟩ dL_low_6
abbrev zQiP (G : zG) (r0 : Int32) (P : zM → Prop) : Array Value → State → Outcome → State → Prop := va_Qi (fun (r : Int32) (u : zM) => r = r0 ∧ P u) (fun u t => zU G u t) (zA G)
abbrev zQlP (G : zG) (r0 : Int64) (P : zM → Prop) : Array Value → State → Outcome → State → Prop := va_Ql (fun (r : Int64) (u : zM) => r = r0 ∧ P u) (fun u t => zU G u t) (zA G)
def P242 (μ u : zM) : Prop := ∃ q, u = zr μ 242 q
theorem L_cntT (l : Launch) (G : zG) (μ : zM) (fb hh : Nat → Int32) (hfb : μ 1 = fb) (hfh : μ 79 = hh) (T I o z : Nat) (hT : fb 3 = nI T) (hI : fb 4 = nI I) (hT6 : T ≤ 6) (hI24 : I ≤ 24) (ho : hh 1 = nI o) (hz : hh 2 = nI z) (ho4 : o < 4) (hz4 : z ≤ 4) : zMet l G yX6_count cX6_count 2 (some .int) 2 45 [.ref (G.1 + 0), .int 1] μ (zQi G (nI T) μ) := c_X6_count l G μ fb hh hfb hfh T I o z hT hI hT6 hI24 ho hz ho4 hz4 1 (by decide)
theorem L_cntI (l : Launch) (G : zG) (μ : zM) (fb hh : Nat → Int32) (hfb : μ 1 = fb) (hfh : μ 79 = hh) (T I o z : Nat) (hT : fb 3 = nI T) (hI : fb 4 = nI I) (hT6 : T ≤ 6) (hI24 : I ≤ 24) (ho : hh 1 = nI o) (hz : hh 2 = nI z) (ho4 : o < 4) (hz4 : z ≤ 4) : zMet l G yX6_count cX6_count 2 (some .int) 2 45 [.ref (G.1 + 0), .int 6] μ (zQi G (nI I) μ) := c_X6_count l G μ fb hh hfb hfh T I o z hT hI hT6 hI24 ho hz ho4 hz4 6 (by decide)
theorem L_cntz (l : Launch) (G : zG) (μ : zM) (fb hh : Nat → Int32) (hfb : μ 1 = fb) (hfh : μ 79 = hh) (T I o z : Nat) (hT : fb 3 = nI T) (hI : fb 4 = nI I) (hT6 : T ≤ 6) (hI24 : I ≤ 24) (ho : hh 1 = nI o) (hz : hh 2 = nI z) (ho4 : o < 4) (hz4 : z ≤ 4) : zMet l G yX6_count cX6_count 2 (some .int) 2 45 [.ref (G.1 + 0), .int 12] μ (zQi G (nI z) μ) := c_X6_count l G μ fb hh hfb hfh T I o z hT hI hT6 hI24 ho hz ho4 hz4 12 (by decide)
theorem hdL_digest : yL_digest.cls = RL ∧ yL_digest.cls ≠ "java/lang/invoke/MethodHandle" ∧ yL_digest.cls ≠ "java/lang/invoke/VarHandle" ∧ (parseMethodDescriptor yL_digest.desc).map (fun d => d.parameters.length) = some 1 := by decide +kernel
set_option maxHeartbeats 4000000 in
set_option maxRecDepth 100000 in
theorem c_L_digest (l : Launch) (G : zG) (μ : zM) (fb hh : Nat → Int32) (hfb : μ 1 = fb) (hfh : μ 79 = hh) (T I o z : Nat) (hT : fb 3 = nI T) (hI : fb 4 = nI I) (hT6 : T ≤ 6) (hI24 : I ≤ 24) (ho : hh 1 = nI o) (hz : hh 2 = nI z) (ho4 : o < 4) (hz4 : z ≤ 4) (hr8 : fK 125 (Int32.toUInt32 (fb 2))) (hhm : z_homes μ T I) : zMet l G yL_digest cL_digest 5 (some .long) 6 138 [.ref (G.1 + 0)] μ (zQlP G (z_D μ T I) (P242 μ)) := by
  refine z_start (lv := [(0, .ref (G.1 + 0))]) (by decide) (Nat.le_of_ble_eq_true rfl) rfl ?_
  intro p e s m args below meth c ls hx hb hml hr hlk hts hown hK hZ hS hl
  have hown : s.vm.findClass RL = some m.cls := hown
  have hhome : ∀ j, j < I → (μ (1 + (15 + j)) 0).toNatClampNeg < T ∧ μ (1 + (15 + j)) 0 = nI (μ (1 + (15 + j)) 0).toNatClampNeg := by
    intro j hj
    obtain ⟨k, hk, ek⟩ := hhm j hj
    rw [ek, nI_clamp (by omega)]
    exact ⟨hk, rfl⟩
  obtain ⟨q, hq⟩ : ∃ q, μ = zr μ 242 q := ⟨μ 242, (zr_id rfl).symm⟩
  rw [hq] at hZ
  subst hfb
  have inI : ∀ (j : Nat), j < I → ∀ (h0 : Int64), (∀ (q : Nat → Int32) (H : Heap) (locs : List Loc) (ls : Array Slot), zW G (zr μ 242 q) H → va_S (zA G) s.heap H locs → lv_has ls 5 [(0, .ref (G.1 + 0)), (1, .long (d_itm (μ (1 + (15 + j))) (μ 1) (z_home μ (μ (1 + (15 + j)))) h0 11)), (3, .int (nI j))] → W p l e { frames := 6, cells := 0, slots := 0, locals := 138 } s m args below meth c H locs 0 0 (MQ below (zQlP G (z_D μ T I) (P242 μ)) args s 0 0 (zA G)) (F0 m 163 ls [])) → ∀ (k w : Nat), w + k = 11 → (∀ (q : Nat → Int32) (H : Heap) (locs : List Loc) (ls : Array Slot), zW G (zr μ 242 q) H → va_S (zA G) s.heap H locs → lv_has ls 5 [(0, .ref (G.1 + 0)), (1, .long (d_itm (μ (1 + (15 + j))) (μ 1) (z_home μ (μ (1 + (15 + j)))) h0 w)), (3, .int (nI j)), (4, .int (nI w))] → W p l e { frames := 6, cells := 0, slots := 0, locals := 138 } s m args below meth c H locs 0 0 (MQ below (zQlP G (z_D μ T I) (P242 μ)) args s 0 0 (zA G)) (F0 m 135 ls [])) := by
    intro j hjj h0 kont k
    obtain ⟨hhh, heh⟩ := hhome j hjj
    induction k with
    | zero =>
      intro w hv q H locs ls hZ hS hl
      have hv : w = 11 := by omega
      subst hv
      refine lv_iload hx hb dL_digest_135 (lv_at hl 3 rfl) ?_
      refine lv_bipush (v := 11) hx hb dL_digest_137 (by decide) ?_
      refine lv_icmp_ge (tgt := 163) hx hb dL_digest_139 (by decide) (fun c_1 => ?_) (fun c_1 => ?_)
      · exact kont _ _ _ _ hZ hS (lv_sub hl [0, 1, 2] rfl)
      · exact absurd (show nI 11 ≤ nI 11 from nI_le (Nat.le_refl _) (by omega)) c_1
    | succ k ih =>
      intro w hv q H locs ls hZ hS hl
      refine lv_iload hx hb dL_digest_135 (lv_at hl 3 rfl) ?_
      refine lv_bipush (v := 11) hx hb dL_digest_137 (by decide) ?_
      refine lv_icmp_ge (tgt := 163) hx hb dL_digest_139 (by decide) (fun c_2 => ?_) (fun c_2 => ?_)
      · exact absurd (show nI 11 ≤ nI w from c_2) (nI_ge (by omega) (by omega))
      · refine lv_ldc2 hx hb hown (hts _ q323) dL_digest_142 ?_
        refine lv_lload_n hx hb dL_digest_145 rfl (lv_at hl 1 rfl) ?_
        refine lv_lmul hx hb dL_digest_146 ?_
        refine lv_aload_n hx hb dL_digest_147 rfl (lv_at hl 0 rfl) ?_
        refine lv_iload_n hx hb dL_digest_148 rfl (lv_at hl 2 rfl) ?_
        refine lv_iload hx hb dL_digest_149 (lv_at hl 3 rfl) ?_
        refine z_cVi (As := [.int (nI j), .int (nI w)]) (rest := [.long (31 * (d_itm (μ (1 + (15 + j))) (μ 1) (z_home μ (μ (1 + (15 + j)))) h0 w))]) hx hb hml hown hts hl hK hZ hS (c_X6_item l G (zr μ 242 q) (μ 1) (zr_at rfl (by decide)) T I hT hI hT6 hI24 j ((μ (1 + (15 + j)) 0).toNatClampNeg) hjj hhh (μ (1 + (15 + j))) (zr_ne (by omega)) heh (z_home μ (μ (1 + (15 + j)))) (zr_ne (by omega)) w (by omega)) (z_G q390 q391 q392 q1 q393) hdX6_item ⟨Nat.le_of_ble_eq_true rfl, Nat.le_of_ble_eq_true rfl⟩ zk0 (by decide) rfl rfl rfl rfl (Nat.le_of_ble_eq_true rfl) dL_digest_151 ⟨(Nat.zero_le _), (Nat.zero_le _)⟩ (fun H locs hZ hS => ?_)
        refine lv_i2l hx hb dL_digest_154 rfl ?_
        refine lv_ladd hx hb dL_digest_155 ?_
        refine lv_lstore_n (lv' := [(1, .long ((31 * (d_itm (μ (1 + (15 + j))) (μ 1) (z_home μ (μ (1 + (15 + j)))) h0 w)) + (Int32.toInt64 (s_itm (μ (1 + (15 + j))) (μ 1) (z_home μ (μ (1 + (15 + j)))) w)))), (0, .ref (G.1 + 0)), (3, .int (nI j)), (4, .int (nI w))]) hx hb dL_digest_156 rfl hl (by decide) rfl (fun ls hl => ?_)
        refine lv_iinc (v := (nI (w + 1))) (lv' := [(4, .int (nI (w + 1))), (1, .long ((31 * (d_itm (μ (1 + (15 + j))) (μ 1) (z_home μ (μ (1 + (15 + j)))) h0 w)) + (Int32.toInt64 (s_itm (μ (1 + (15 + j))) (μ 1) (z_home μ (μ (1 + (15 + j)))) w)))), (0, .ref (G.1 + 0)), (3, .int (nI j))]) hx hb dL_digest_157 hl (k := 3) rfl (nI_1 _) (by decide) rfl (fun ls hl => ?_)
        refine lv_goto (tgt := 135) hx hb dL_digest_160 (by decide) ?_
        exact ih (w + 1) (by omega) _ _ _ _ hZ hS (lv_sub hl [2, 1, 3, 0] rfl)
  have itms : ∀ (k j : Nat), j + k = I → (∀ (q : Nat → Int32) (H : Heap) (locs : List Loc) (ls : Array Slot), zW G (zr μ 242 q) H → va_S (zA G) s.heap H locs → lv_has ls 5 [(0, .ref (G.1 + 0)), (1, .long (d_itms μ (μ 1) (d_tens μ (μ 1) I (d_cnt μ (μ 1) T I (d_0 (μ 1)) 12) T) j)), (3, .int (nI j))] → W p l e { frames := 6, cells := 0, slots := 0, locals := 138 } s m args below meth c H locs 0 0 (MQ below (zQlP G (z_D μ T I) (P242 μ)) args s 0 0 (zA G)) (F0 m 122 ls [])) := by
    intro k
    induction k with
    | zero =>
      intro j hv q H locs ls hZ hS hl
      have hv : I = j := by omega
      subst hv
      refine lv_iload_n hx hb dL_digest_122 rfl (lv_at hl 2 rfl) ?_
      refine lv_aload_n hx hb dL_digest_123 rfl (lv_at hl 0 rfl) ?_
      refine lv_bipush (v := 6) hx hb dL_digest_124 (by decide) ?_
      refine z_cVi (As := [.int 6]) (rest := [.int (nI I)]) hx hb hml hown hts hl hK hZ hS (L_cntI l G (zr μ 242 q) (μ 1) hh (zr_at rfl (by decide)) (zr_at hfh (by decide)) T I o z hT hI hT6 hI24 ho hz ho4 hz4) (z_G q294 q295 q296 q1 q297) hdX6_count ⟨Nat.le_of_ble_eq_true rfl, Nat.le_of_ble_eq_true rfl⟩ zk0 (by decide) rfl rfl rfl rfl (Nat.le_of_ble_eq_true rfl) dL_digest_126 ⟨(Nat.zero_le _), (Nat.zero_le _)⟩ (fun H locs hZ hS => ?_)
      refine lv_icmp_ge (tgt := 197) hx hb dL_digest_129 (by decide) (fun c_3 => ?_) (fun c_3 => ?_)
      · refine lv_lload_n hx hb dL_digest_197 rfl (lv_at hl 1 rfl) ?_
        exact W.lret (v := (d_itms μ (μ 1) (d_tens μ (μ 1) I (d_cnt μ (μ 1) T I (d_0 (μ 1)) 12) T) I)) hx hb hr (fun t ht hW => ⟨⟨_, _, rfl, ⟨rfl, q, rfl⟩, by rw [ht]; exact hZ, va_K.moved hW.alike hK⟩, hS.F ht⟩) hS.2.2 dL_digest_198 hlk
      · exact absurd (show nI I ≤ nI I from nI_le (Nat.le_refl _) (by omega)) c_3
    | succ k ih =>
      intro j hv q H locs ls hZ hS hl
      refine lv_iload_n hx hb dL_digest_122 rfl (lv_at hl 2 rfl) ?_
      refine lv_aload_n hx hb dL_digest_123 rfl (lv_at hl 0 rfl) ?_
      refine lv_bipush (v := 6) hx hb dL_digest_124 (by decide) ?_
      refine z_cVi (As := [.int 6]) (rest := [.int (nI j)]) hx hb hml hown hts hl hK hZ hS (L_cntI l G (zr μ 242 q) (μ 1) hh (zr_at rfl (by decide)) (zr_at hfh (by decide)) T I o z hT hI hT6 hI24 ho hz ho4 hz4) (z_G q294 q295 q296 q1 q297) hdX6_count ⟨Nat.le_of_ble_eq_true rfl, Nat.le_of_ble_eq_true rfl⟩ zk0 (by decide) rfl rfl rfl rfl (Nat.le_of_ble_eq_true rfl) dL_digest_126 ⟨(Nat.zero_le _), (Nat.zero_le _)⟩ (fun H locs hZ hS => ?_)
      refine lv_icmp_ge (tgt := 197) hx hb dL_digest_129 (by decide) (fun c_4 => ?_) (fun c_4 => ?_)
      · exact absurd (show nI I ≤ nI j from c_4) (nI_ge (by omega) (by omega))
      · refine lv_iconst (v := 0) hx hb dL_digest_132 (by decide) ?_
        refine lv_istore (lv' := [(4, .int 0), (0, .ref (G.1 + 0)), (1, .long (d_itms μ (μ 1) (d_tens μ (μ 1) I (d_cnt μ (μ 1) T I (d_0 (μ 1)) 12) T) j)), (3, .int (nI j))]) hx hb dL_digest_133 hl (by decide) rfl (fun ls hl => ?_)
        refine inI j (by omega) (d_itms μ (μ 1) (d_tens μ (μ 1) I (d_cnt μ (μ 1) T I (d_0 (μ 1)) 12) T) j) (fun q H locs ls hZ hS hl => ?_) 11 0 (by omega) _ _ _ _ hZ hS (lv_sub hl [1, 2, 3, 0] rfl)
        refine lv_ldc2 hx hb hown (hts _ q323) dL_digest_163 ?_
        refine lv_ldc2 hx hb hown (hts _ q323) dL_digest_166 ?_
        refine lv_lload_n hx hb dL_digest_169 rfl (lv_at hl 1 rfl) ?_
        refine lv_lmul hx hb dL_digest_170 ?_
        refine lv_aload_n hx hb dL_digest_171 rfl (lv_at hl 0 rfl) ?_
        refine lv_iload_n hx hb dL_digest_172 rfl (lv_at hl 2 rfl) ?_
        refine z_cVf (As := [.int (nI j)]) (rest := [.long (31 * (d_itm (μ (1 + (15 + j))) (μ 1) (z_home μ (μ (1 + (15 + j)))) (d_itms μ (μ 1) (d_tens μ (μ 1) I (d_cnt μ (μ 1) T I (d_0 (μ 1)) 12) T) j) 11)), .long 31]) hx hb hml hown hts hl hK hZ hS (c_X6_weight l G (zr μ 242 q) (μ 1) (zr_at rfl (by decide)) T I hT hI hT6 hI24 j (by omega) (μ (1 + (15 + j))) (zr_ne (by omega))) (z_G q425 q426 q427 q1 q428) hdX6_weight ⟨Nat.le_of_ble_eq_true rfl, Nat.le_of_ble_eq_true rfl⟩ zk0 (by decide) rfl rfl rfl rfl (Nat.le_of_ble_eq_true rfl) dL_digest_173 ⟨(Nat.zero_le _), (Nat.zero_le _)⟩ (fun H locs hZ hS => ?_)
        refine lv_ldcf hx hb hown (hts _ q431) dL_digest_176 ?_
        refine lv_fmul hx hb dL_digest_178 ((fk_mul (fk_weight _) fk_1e6 (by decide) (by decide)).n (by decide)) ?_
        refine lv_f2i hx hb dL_digest_179 ?_
        refine lv_i2l hx hb dL_digest_180 rfl ?_
        refine lv_ladd hx hb dL_digest_181 ?_
        refine lv_lmul hx hb dL_digest_182 ?_
        refine lv_aload_n hx hb dL_digest_183 rfl (lv_at hl 0 rfl) ?_
        refine lv_iload_n hx hb dL_digest_184 rfl (lv_at hl 2 rfl) ?_
        refine z_cVi (As := [.int (nI j)]) (rest := [.long (31 * ((31 * (d_itm (μ (1 + (15 + j))) (μ 1) (z_home μ (μ (1 + (15 + j)))) (d_itms μ (μ 1) (d_tens μ (μ 1) I (d_cnt μ (μ 1) T I (d_0 (μ 1)) 12) T) j) 11)) + (Int32.toInt64 (FP.f2i (FP.fmul (s_X3_landlordWeight (μ (1 + (15 + j)))) 1232348160)))))]) hx hb hml hown hts hl hK hZ hS (c_X6_reason l G (zr μ 242 q) (μ 1) (zr_at rfl (by decide)) T I hT hI hT6 hI24 j (by omega) (μ (1 + (15 + j))) (zr_ne (by omega))) (z_G q432 q433 q434 q1 q435) hdX6_reason ⟨Nat.le_of_ble_eq_true rfl, Nat.le_of_ble_eq_true rfl⟩ zk0 (by decide) rfl rfl rfl rfl (Nat.le_of_ble_eq_true rfl) dL_digest_185 ⟨(Nat.zero_le _), (Nat.zero_le _)⟩ (fun H locs hZ hS => ?_)
        refine lv_i2l hx hb dL_digest_188 rfl ?_
        refine lv_ladd hx hb dL_digest_189 ?_
        refine lv_lstore_n (lv' := [(1, .long ((31 * ((31 * (d_itm (μ (1 + (15 + j))) (μ 1) (z_home μ (μ (1 + (15 + j)))) (d_itms μ (μ 1) (d_tens μ (μ 1) I (d_cnt μ (μ 1) T I (d_0 (μ 1)) 12) T) j) 11)) + (Int32.toInt64 (FP.f2i (FP.fmul (s_X3_landlordWeight (μ (1 + (15 + j)))) 1232348160))))) + (Int32.toInt64 (s_rsn (μ (1 + (15 + j))))))), (0, .ref (G.1 + 0)), (3, .int (nI j))]) hx hb dL_digest_190 rfl hl (by decide) rfl (fun ls hl => ?_)
        refine lv_iinc (v := (nI (j + 1))) (lv' := [(3, .int (nI (j + 1))), (1, .long ((31 * ((31 * (d_itm (μ (1 + (15 + j))) (μ 1) (z_home μ (μ (1 + (15 + j)))) (d_itms μ (μ 1) (d_tens μ (μ 1) I (d_cnt μ (μ 1) T I (d_0 (μ 1)) 12) T) j) 11)) + (Int32.toInt64 (FP.f2i (FP.fmul (s_X3_landlordWeight (μ (1 + (15 + j)))) 1232348160))))) + (Int32.toInt64 (s_rsn (μ (1 + (15 + j))))))), (0, .ref (G.1 + 0))]) hx hb dL_digest_191 hl (k := 2) rfl (nI_1 _) (by decide) rfl (fun ls hl => ?_)
        refine lv_goto (tgt := 122) hx hb dL_digest_194 (by decide) ?_
        exact ih (j + 1) (by omega) _ _ _ _ hZ hS (lv_sub hl [2, 1, 0] rfl)
  have inO : ∀ (t : Nat), t < T → ∀ (h0 : Int64), (∀ (q : Nat → Int32) (H : Heap) (locs : List Loc) (ls : Array Slot), zW G (zr μ 242 q) H → va_S (zA G) s.heap H locs → lv_has ls 5 [(0, .ref (G.1 + 0)), (1, .long (d_oc μ (μ 1) (μ (1 + (3 + 2 * t))) (μ (1 + (3 + 2 * t) + 1)) t I h0 6)), (3, .int (nI t))] → W p l e { frames := 6, cells := 0, slots := 0, locals := 138 } s m args below meth c H locs 0 0 (MQ below (zQlP G (z_D μ T I) (P242 μ)) args s 0 0 (zA G)) (F0 m 114 ls [])) → ∀ (k w : Nat), w + k = 6 → (∀ (q : Nat → Int32) (H : Heap) (locs : List Loc) (ls : Array Slot), zW G (zr μ 242 q) H → va_S (zA G) s.heap H locs → lv_has ls 5 [(0, .ref (G.1 + 0)), (1, .long (d_oc μ (μ 1) (μ (1 + (3 + 2 * t))) (μ (1 + (3 + 2 * t) + 1)) t I h0 w)), (3, .int (nI t)), (4, .int (nI w))] → W p l e { frames := 6, cells := 0, slots := 0, locals := 138 } s m args below meth c H locs 0 0 (MQ below (zQlP G (z_D μ T I) (P242 μ)) args s 0 0 (zA G)) (F0 m 86 ls [])) := by
    intro t htt h0 kont k
    induction k with
    | zero =>
      intro w hv q H locs ls hZ hS hl
      have hv : w = 6 := by omega
      subst hv
      refine lv_iload hx hb dL_digest_86 (lv_at hl 3 rfl) ?_
      refine lv_bipush (v := 6) hx hb dL_digest_88 (by decide) ?_
      refine lv_icmp_ge (tgt := 114) hx hb dL_digest_90 (by decide) (fun c_5 => ?_) (fun c_5 => ?_)
      · exact kont _ _ _ _ hZ hS (lv_sub hl [0, 1, 2] rfl)
      · exact absurd (show nI 6 ≤ nI 6 from nI_le (Nat.le_refl _) (by omega)) c_5
    | succ k ih =>
      intro w hv q H locs ls hZ hS hl
      refine lv_iload hx hb dL_digest_86 (lv_at hl 3 rfl) ?_
      refine lv_bipush (v := 6) hx hb dL_digest_88 (by decide) ?_
      refine lv_icmp_ge (tgt := 114) hx hb dL_digest_90 (by decide) (fun c_6 => ?_) (fun c_6 => ?_)
      · exact absurd (show nI 6 ≤ nI w from c_6) (nI_ge (by omega) (by omega))
      · refine lv_ldc2 hx hb hown (hts _ q323) dL_digest_93 ?_
        refine lv_lload_n hx hb dL_digest_96 rfl (lv_at hl 1 rfl) ?_
        refine lv_lmul hx hb dL_digest_97 ?_
        refine lv_aload_n hx hb dL_digest_98 rfl (lv_at hl 0 rfl) ?_
        refine lv_iload_n hx hb dL_digest_99 rfl (lv_at hl 2 rfl) ?_
        refine lv_iload hx hb dL_digest_100 (lv_at hl 3 rfl) ?_
        refine z_cVi (As := [.int (nI t), .int (nI w)]) (rest := [.long (31 * (d_oc μ (μ 1) (μ (1 + (3 + 2 * t))) (μ (1 + (3 + 2 * t) + 1)) t I h0 w))]) hx hb hml hown hts hl hK hZ hS (c_X6_outcome l G (zr μ 242 q) (μ 1) (zr_at rfl (by decide)) T I hT hI hT6 hI24 t htt (μ (1 + (3 + 2 * t))) (zr_ne (by omega)) (μ (1 + (3 + 2 * t) + 1)) (zr_ne (by omega)) hr8 w (by omega)) (z_G q354 q355 q356 q1 q357) hdX6_outcome ⟨Nat.le_of_ble_eq_true rfl, Nat.le_of_ble_eq_true rfl⟩ zk0 (by decide) rfl rfl rfl rfl (Nat.le_of_ble_eq_true rfl) dL_digest_102 ⟨(Nat.zero_le _), (Nat.zero_le _)⟩ (fun H locs hZ hS => ?_)
        obtain ⟨q2, hq2⟩ := m_oc_242 (μ := μ) (fb := μ 1) (g := (μ (1 + (3 + 2 * t)))) (t := t) (I := I) q
        rw [hq2] at hZ
        rw [s_oc_cg (eqv_242 (T := T) hT6 hI24)]
        refine lv_i2l hx hb dL_digest_105 rfl ?_
        refine lv_ladd hx hb dL_digest_106 ?_
        refine lv_lstore_n (lv' := [(1, .long ((31 * (d_oc μ (μ 1) (μ (1 + (3 + 2 * t))) (μ (1 + (3 + 2 * t) + 1)) t I h0 w)) + (Int32.toInt64 (s_oc μ (μ 1) (μ (1 + (3 + 2 * t))) (μ (1 + (3 + 2 * t) + 1)) t I w)))), (0, .ref (G.1 + 0)), (3, .int (nI t)), (4, .int (nI w))]) hx hb dL_digest_107 rfl hl (by decide) rfl (fun ls hl => ?_)
        refine lv_iinc (v := (nI (w + 1))) (lv' := [(4, .int (nI (w + 1))), (1, .long ((31 * (d_oc μ (μ 1) (μ (1 + (3 + 2 * t))) (μ (1 + (3 + 2 * t) + 1)) t I h0 w)) + (Int32.toInt64 (s_oc μ (μ 1) (μ (1 + (3 + 2 * t))) (μ (1 + (3 + 2 * t) + 1)) t I w)))), (0, .ref (G.1 + 0)), (3, .int (nI t))]) hx hb dL_digest_108 hl (k := 3) rfl (nI_1 _) (by decide) rfl (fun ls hl => ?_)
        refine lv_goto (tgt := 86) hx hb dL_digest_111 (by decide) ?_
        exact ih (w + 1) (by omega) _ _ _ _ hZ hS (lv_sub hl [2, 1, 3, 0] rfl)
  have inT : ∀ (t : Nat), t < T → ∀ (h0 : Int64), (∀ (q : Nat → Int32) (H : Heap) (locs : List Loc) (ls : Array Slot), zW G (zr μ 242 q) H → va_S (zA G) s.heap H locs → lv_has ls 5 [(0, .ref (G.1 + 0)), (1, .long (d_ten μ (μ 1) (μ (1 + (3 + 2 * t))) t I h0 10)), (3, .int (nI t))] → W p l e { frames := 6, cells := 0, slots := 0, locals := 138 } s m args below meth c H locs 0 0 (MQ below (zQlP G (z_D μ T I) (P242 μ)) args s 0 0 (zA G)) (F0 m 83 ls [])) → ∀ (k w : Nat), w + k = 10 → (∀ (q : Nat → Int32) (H : Heap) (locs : List Loc) (ls : Array Slot), zW G (zr μ 242 q) H → va_S (zA G) s.heap H locs → lv_has ls 5 [(0, .ref (G.1 + 0)), (1, .long (d_ten μ (μ 1) (μ (1 + (3 + 2 * t))) t I h0 w)), (3, .int (nI t)), (4, .int (nI w))] → W p l e { frames := 6, cells := 0, slots := 0, locals := 138 } s m args below meth c H locs 0 0 (MQ below (zQlP G (z_D μ T I) (P242 μ)) args s 0 0 (zA G)) (F0 m 55 ls [])) := by
    intro t htt h0 kont k
    induction k with
    | zero =>
      intro w hv q H locs ls hZ hS hl
      have hv : w = 10 := by omega
      subst hv
      refine lv_iload hx hb dL_digest_55 (lv_at hl 3 rfl) ?_
      refine lv_bipush (v := 10) hx hb dL_digest_57 (by decide) ?_
      refine lv_icmp_ge (tgt := 83) hx hb dL_digest_59 (by decide) (fun c_7 => ?_) (fun c_7 => ?_)
      · exact kont _ _ _ _ hZ hS (lv_sub hl [0, 1, 2] rfl)
      · exact absurd (show nI 10 ≤ nI 10 from nI_le (Nat.le_refl _) (by omega)) c_7
    | succ k ih =>
      intro w hv q H locs ls hZ hS hl
      refine lv_iload hx hb dL_digest_55 (lv_at hl 3 rfl) ?_
      refine lv_bipush (v := 10) hx hb dL_digest_57 (by decide) ?_
      refine lv_icmp_ge (tgt := 83) hx hb dL_digest_59 (by decide) (fun c_8 => ?_) (fun c_8 => ?_)
      · exact absurd (show nI 10 ≤ nI w from c_8) (nI_ge (by omega) (by omega))
      · refine lv_ldc2 hx hb hown (hts _ q323) dL_digest_62 ?_
        refine lv_lload_n hx hb dL_digest_65 rfl (lv_at hl 1 rfl) ?_
        refine lv_lmul hx hb dL_digest_66 ?_
        refine lv_aload_n hx hb dL_digest_67 rfl (lv_at hl 0 rfl) ?_
        refine lv_iload_n hx hb dL_digest_68 rfl (lv_at hl 2 rfl) ?_
        refine lv_iload hx hb dL_digest_69 (lv_at hl 3 rfl) ?_
        refine z_cVi (As := [.int (nI t), .int (nI w)]) (rest := [.long (31 * (d_ten μ (μ 1) (μ (1 + (3 + 2 * t))) t I h0 w))]) hx hb hml hown hts hl hK hZ hS (c_X6_tenancy l G (zr μ 242 q) (μ 1) (zr_at rfl (by decide)) T I hT hI hT6 hI24 t htt (μ (1 + (3 + 2 * t))) (zr_ne (by omega)) hr8 w (by omega)) (z_G q324 q325 q326 q1 q327) hdX6_tenancy ⟨Nat.le_of_ble_eq_true rfl, Nat.le_of_ble_eq_true rfl⟩ zk0 (by decide) rfl rfl rfl rfl (Nat.le_of_ble_eq_true rfl) dL_digest_71 ⟨(Nat.zero_le _), (Nat.zero_le _)⟩ (fun H locs hZ hS => ?_)
        rw [s_ten_cg (eqv_242 (T := T) hT6 hI24)]
        refine lv_i2l hx hb dL_digest_74 rfl ?_
        refine lv_ladd hx hb dL_digest_75 ?_
        refine lv_lstore_n (lv' := [(1, .long ((31 * (d_ten μ (μ 1) (μ (1 + (3 + 2 * t))) t I h0 w)) + (Int32.toInt64 (s_ten μ (μ 1) (μ (1 + (3 + 2 * t))) t I w)))), (0, .ref (G.1 + 0)), (3, .int (nI t)), (4, .int (nI w))]) hx hb dL_digest_76 rfl hl (by decide) rfl (fun ls hl => ?_)
        refine lv_iinc (v := (nI (w + 1))) (lv' := [(4, .int (nI (w + 1))), (1, .long ((31 * (d_ten μ (μ 1) (μ (1 + (3 + 2 * t))) t I h0 w)) + (Int32.toInt64 (s_ten μ (μ 1) (μ (1 + (3 + 2 * t))) t I w)))), (0, .ref (G.1 + 0)), (3, .int (nI t))]) hx hb dL_digest_77 hl (k := 3) rfl (nI_1 _) (by decide) rfl (fun ls hl => ?_)
        refine lv_goto (tgt := 55) hx hb dL_digest_80 (by decide) ?_
        exact ih (w + 1) (by omega) _ _ _ _ hZ hS (lv_sub hl [2, 1, 3, 0] rfl)
  have tens : ∀ (k t : Nat), t + k = T → (∀ (q : Nat → Int32) (H : Heap) (locs : List Loc) (ls : Array Slot), zW G (zr μ 242 q) H → va_S (zA G) s.heap H locs → lv_has ls 5 [(0, .ref (G.1 + 0)), (1, .long (d_tens μ (μ 1) I (d_cnt μ (μ 1) T I (d_0 (μ 1)) 12) t)), (3, .int (nI t))] → W p l e { frames := 6, cells := 0, slots := 0, locals := 138 } s m args below meth c H locs 0 0 (MQ below (zQlP G (z_D μ T I) (P242 μ)) args s 0 0 (zA G)) (F0 m 43 ls [])) := by
    intro  k
    induction k with
    | zero =>
      intro t hv q H locs ls hZ hS hl
      have hv : T = t := by omega
      subst hv
      refine lv_iload_n hx hb dL_digest_43 rfl (lv_at hl 2 rfl) ?_
      refine lv_aload_n hx hb dL_digest_44 rfl (lv_at hl 0 rfl) ?_
      refine lv_iconst (v := 1) hx hb dL_digest_45 (by decide) ?_
      refine z_cVi (As := [.int 1]) (rest := [.int (nI T)]) hx hb hml hown hts hl hK hZ hS (L_cntT l G (zr μ 242 q) (μ 1) hh (zr_at rfl (by decide)) (zr_at hfh (by decide)) T I o z hT hI hT6 hI24 ho hz ho4 hz4) (z_G q294 q295 q296 q1 q297) hdX6_count ⟨Nat.le_of_ble_eq_true rfl, Nat.le_of_ble_eq_true rfl⟩ zk0 (by decide) rfl rfl rfl rfl (Nat.le_of_ble_eq_true rfl) dL_digest_46 ⟨(Nat.zero_le _), (Nat.zero_le _)⟩ (fun H locs hZ hS => ?_)
      refine lv_icmp_ge (tgt := 120) hx hb dL_digest_49 (by decide) (fun c_9 => ?_) (fun c_9 => ?_)
      · refine lv_iconst (v := 0) hx hb dL_digest_120 (by decide) ?_
        refine lv_istore_n (lv' := [(3, .int 0), (0, .ref (G.1 + 0)), (1, .long (d_tens μ (μ 1) I (d_cnt μ (μ 1) T I (d_0 (μ 1)) 12) T))]) hx hb dL_digest_121 rfl hl (by decide) rfl (fun ls hl => ?_)
        exact itms I 0 (by omega) _ _ _ _ hZ hS (lv_sub hl [1, 2, 0] rfl)
      · exact absurd (show nI T ≤ nI T from nI_le (Nat.le_refl _) (by omega)) c_9
    | succ k ih =>
      intro t hv q H locs ls hZ hS hl
      refine lv_iload_n hx hb dL_digest_43 rfl (lv_at hl 2 rfl) ?_
      refine lv_aload_n hx hb dL_digest_44 rfl (lv_at hl 0 rfl) ?_
      refine lv_iconst (v := 1) hx hb dL_digest_45 (by decide) ?_
      refine z_cVi (As := [.int 1]) (rest := [.int (nI t)]) hx hb hml hown hts hl hK hZ hS (L_cntT l G (zr μ 242 q) (μ 1) hh (zr_at rfl (by decide)) (zr_at hfh (by decide)) T I o z hT hI hT6 hI24 ho hz ho4 hz4) (z_G q294 q295 q296 q1 q297) hdX6_count ⟨Nat.le_of_ble_eq_true rfl, Nat.le_of_ble_eq_true rfl⟩ zk0 (by decide) rfl rfl rfl rfl (Nat.le_of_ble_eq_true rfl) dL_digest_46 ⟨(Nat.zero_le _), (Nat.zero_le _)⟩ (fun H locs hZ hS => ?_)
      refine lv_icmp_ge (tgt := 120) hx hb dL_digest_49 (by decide) (fun c_10 => ?_) (fun c_10 => ?_)
      · exact absurd (show nI T ≤ nI t from c_10) (nI_ge (by omega) (by omega))
      · refine lv_iconst (v := 0) hx hb dL_digest_52 (by decide) ?_
        refine lv_istore (lv' := [(4, .int 0), (0, .ref (G.1 + 0)), (1, .long (d_tens μ (μ 1) I (d_cnt μ (μ 1) T I (d_0 (μ 1)) 12) t)), (3, .int (nI t))]) hx hb dL_digest_53 hl (by decide) rfl (fun ls hl => ?_)
        refine inT t (by omega) (d_tens μ (μ 1) I (d_cnt μ (μ 1) T I (d_0 (μ 1)) 12) t) (fun q H locs ls hZ hS hl => ?_) 10 0 (by omega) _ _ _ _ hZ hS (lv_sub hl [1, 2, 3, 0] rfl)
        refine lv_iconst (v := 0) hx hb dL_digest_83 (by decide) ?_
        refine lv_istore (lv' := [(4, .int 0), (0, .ref (G.1 + 0)), (1, .long (d_ten μ (μ 1) (μ (1 + (3 + 2 * t))) t I (d_tens μ (μ 1) I (d_cnt μ (μ 1) T I (d_0 (μ 1)) 12) t) 10)), (3, .int (nI t))]) hx hb dL_digest_84 hl (by decide) rfl (fun ls hl => ?_)
        refine inO t (by omega) (d_ten μ (μ 1) (μ (1 + (3 + 2 * t))) t I (d_tens μ (μ 1) I (d_cnt μ (μ 1) T I (d_0 (μ 1)) 12) t) 10) (fun q H locs ls hZ hS hl => ?_) 6 0 (by omega) _ _ _ _ hZ hS (lv_sub hl [1, 2, 3, 0] rfl)
        refine lv_iinc (v := (nI (t + 1))) (lv' := [(3, .int (nI (t + 1))), (0, .ref (G.1 + 0)), (1, .long (d_oc μ (μ 1) (μ (1 + (3 + 2 * t))) (μ (1 + (3 + 2 * t) + 1)) t I (d_ten μ (μ 1) (μ (1 + (3 + 2 * t))) t I (d_tens μ (μ 1) I (d_cnt μ (μ 1) T I (d_0 (μ 1)) 12) t) 10) 6))]) hx hb dL_digest_114 hl (k := 2) rfl (nI_1 _) (by decide) rfl (fun ls hl => ?_)
        refine lv_goto (tgt := 43) hx hb dL_digest_117 (by decide) ?_
        exact ih (t + 1) (by omega) _ _ _ _ hZ hS (lv_sub hl [1, 2, 0] rfl)
  have cnts : ∀ (k w : Nat), w + k = 12 → (∀ (q : Nat → Int32) (H : Heap) (locs : List Loc) (ls : Array Slot), zW G (zr μ 242 q) H → va_S (zA G) s.heap H locs → lv_has ls 5 [(0, .ref (G.1 + 0)), (1, .long (d_cnt μ (μ 1) T I (d_0 (μ 1)) w)), (3, .int (nI w))] → W p l e { frames := 6, cells := 0, slots := 0, locals := 138 } s m args below meth c H locs 0 0 (MQ below (zQlP G (z_D μ T I) (P242 μ)) args s 0 0 (zA G)) (F0 m 16 ls [])) := by
    intro  k
    induction k with
    | zero =>
      intro w hv q H locs ls hZ hS hl
      have hv : w = 12 := by omega
      subst hv
      refine lv_iload_n hx hb dL_digest_16 rfl (lv_at hl 2 rfl) ?_
      refine lv_bipush (v := 12) hx hb dL_digest_17 (by decide) ?_
      refine lv_icmp_ge (tgt := 41) hx hb dL_digest_19 (by decide) (fun c_11 => ?_) (fun c_11 => ?_)
      · refine lv_iconst (v := 0) hx hb dL_digest_41 (by decide) ?_
        refine lv_istore_n (lv' := [(3, .int 0), (0, .ref (G.1 + 0)), (1, .long (d_cnt μ (μ 1) T I (d_0 (μ 1)) 12))]) hx hb dL_digest_42 rfl hl (by decide) rfl (fun ls hl => ?_)
        exact tens T 0 (by omega) _ _ _ _ hZ hS (lv_sub hl [1, 2, 0] rfl)
      · exact absurd (show nI 12 ≤ nI 12 from nI_le (Nat.le_refl _) (by omega)) c_11
    | succ k ih =>
      intro w hv q H locs ls hZ hS hl
      refine lv_iload_n hx hb dL_digest_16 rfl (lv_at hl 2 rfl) ?_
      refine lv_bipush (v := 12) hx hb dL_digest_17 (by decide) ?_
      refine lv_icmp_ge (tgt := 41) hx hb dL_digest_19 (by decide) (fun c_12 => ?_) (fun c_12 => ?_)
      · exact absurd (show nI 12 ≤ nI w from c_12) (nI_ge (by omega) (by omega))
      · refine lv_ldc2 hx hb hown (hts _ q323) dL_digest_22 ?_
        refine lv_lload_n hx hb dL_digest_25 rfl (lv_at hl 1 rfl) ?_
        refine lv_lmul hx hb dL_digest_26 ?_
        refine lv_aload_n hx hb dL_digest_27 rfl (lv_at hl 0 rfl) ?_
        refine lv_iload_n hx hb dL_digest_28 rfl (lv_at hl 2 rfl) ?_
        refine z_cVi (As := [.int (nI w)]) (rest := [.long (31 * (d_cnt μ (μ 1) T I (d_0 (μ 1)) w))]) hx hb hml hown hts hl hK hZ hS (c_X6_count l G (zr μ 242 q) (μ 1) hh (zr_at rfl (by decide)) (zr_at hfh (by decide)) T I o z hT hI hT6 hI24 ho hz ho4 hz4 w (by omega)) (z_G q294 q295 q296 q1 q297) hdX6_count ⟨Nat.le_of_ble_eq_true rfl, Nat.le_of_ble_eq_true rfl⟩ zk0 (by decide) rfl rfl rfl rfl (Nat.le_of_ble_eq_true rfl) dL_digest_29 ⟨(Nat.zero_le _), (Nat.zero_le _)⟩ (fun H locs hZ hS => ?_)
        rw [s_cnt_cg (eqv_242 hT6 hI24), s_cnt_z (by omega)]
        refine lv_i2l hx hb dL_digest_32 rfl ?_
        refine lv_ladd hx hb dL_digest_33 ?_
        refine lv_lstore_n (lv' := [(1, .long ((31 * (d_cnt μ (μ 1) T I (d_0 (μ 1)) w)) + (Int32.toInt64 (s_cnt μ (μ 1) T I 0 w)))), (0, .ref (G.1 + 0)), (3, .int (nI w))]) hx hb dL_digest_34 rfl hl (by decide) rfl (fun ls hl => ?_)
        refine lv_iinc (v := (nI (w + 1))) (lv' := [(3, .int (nI (w + 1))), (1, .long ((31 * (d_cnt μ (μ 1) T I (d_0 (μ 1)) w)) + (Int32.toInt64 (s_cnt μ (μ 1) T I 0 w)))), (0, .ref (G.1 + 0))]) hx hb dL_digest_35 hl (k := 2) rfl (nI_1 _) (by decide) rfl (fun ls hl => ?_)
        refine lv_goto (tgt := 16) hx hb dL_digest_38 (by decide) ?_
        exact ih (w + 1) (by omega) _ _ _ _ hZ hS (lv_sub hl [2, 1, 0] rfl)
  refine lv_ldc2 hx hb hown (hts _ q317) dL_digest_0 ?_
  refine lv_aload_n hx hb dL_digest_3 rfl (lv_at hl 0 rfl) ?_
  refine z_cVf (As := []) (rest := [.long 93]) hx hb hml hown hts hl hK hZ hS (c_X6_rate l G (zr μ 242 q) (μ 1) (zr_at rfl (by decide))) (z_G q318 q319 q320 q1 q321) hdX6_rate ⟨Nat.le_of_ble_eq_true rfl, Nat.le_of_ble_eq_true rfl⟩ zk0 (by decide) rfl rfl rfl rfl (Nat.le_of_ble_eq_true rfl) dL_digest_4 ⟨(Nat.zero_le _), (Nat.zero_le _)⟩ (fun H locs hZ hS => ?_)
  refine lv_ldcf hx hb hown (hts _ q322) dL_digest_7 ?_
  refine lv_fmul hx hb dL_digest_9 ((fk_mul hr8 fk_1e9 (by decide) (by decide)).n (by decide)) ?_
  refine lv_f2i hx hb dL_digest_10 ?_
  refine lv_i2l hx hb dL_digest_11 rfl ?_
  refine lv_ladd hx hb dL_digest_12 ?_
  refine lv_lstore_n (lv' := [(1, .long (93 + (Int32.toInt64 (FP.f2i (FP.fmul (Int32.toUInt32 ((μ 1) 2)) 1315859240))))), (0, .ref (G.1 + 0))]) hx hb dL_digest_13 rfl hl (by decide) rfl (fun ls hl => ?_)
  refine lv_iconst (v := 0) hx hb dL_digest_14 (by decide) ?_
  refine lv_istore_n (lv' := [(3, .int 0), (1, .long (93 + (Int32.toInt64 (FP.f2i (FP.fmul (Int32.toUInt32 ((μ 1) 2)) 1315859240))))), (0, .ref (G.1 + 0))]) hx hb dL_digest_15 rfl hl (by decide) rfl (fun ls hl => ?_)
  exact cnts 12 0 (by omega) _ _ _ _ hZ hS (lv_sub hl [2, 1, 0] rfl)
