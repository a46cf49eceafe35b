def s_out (x a b : Int32) : Int32 := if x < a then 1 else if x ≤ b then 0 else 1
theorem s_out0 {x a b : Int32} (h : s_out x a b = 0) : ¬ x < a ∧ x ≤ b := by
  unfold s_out at h
  by_cases h1 : x < a
  · rw [if_pos h1] at h; exact absurd h (by decide)
  · rw [if_neg h1] at h
    by_cases h2 : x ≤ b
    · exact ⟨h1, h2⟩
    · rw [if_neg h2] at h; exact absurd h (by decide)
theorem s_outI {x : Int32} (h : s_out x 0 1045220557 = 0) : x = nI x.toNatClampNeg ∧ x.toNatClampNeg ≤ 1045220557 := by
  obtain ⟨h1, h2⟩ := s_out0 h
  obtain ⟨j, hj, rfl⟩ := nI_of2 (M := 1045220557) (n := 1045220557) (by decide) h1 h2
  rw [nI_clamp (by omega)]
  exact ⟨rfl, hj⟩
theorem s_outw {w : Nat} (h : w ≤ 5) : s_out (nI w) 0 5 = 0 := by
  unfold s_out
  rw [if_neg (nI_pos (by omega))]
  exact if_pos (show nI w ≤ nI 5 from nI_le h (by decide))
theorem hdX6_outside : yX6_outside.cls = RX6 ∧ yX6_outside.cls ≠ "java/lang/invoke/MethodHandle" ∧ yX6_outside.cls ≠ "java/lang/invoke/VarHandle" ∧ (parseMethodDescriptor yX6_outside.desc).map (fun d => d.parameters.length) = some 3 := by decide +kernel
set_option maxHeartbeats 4000000 in
set_option maxRecDepth 100000 in
theorem c_X6_outside (l : Launch) (G : zG) (μ : zM) (x a b : Int32) : zMet l G yX6_outside cX6_outside 3 (some .boolean) 0 0 [.int x, .int a, .int b] μ (zQi G (s_out x a b) μ) := by
  refine z_start (lv := [(0, .int x), (1, .int a), (2, .int b)]) (by decide) (Nat.le_of_ble_eq_true rfl) rfl ?_
  intro p e s m args below meth c ls hx hb hml hr hlk hts hown hK hZ hS hl
  have hown : s.vm.findClass RX6 = some m.cls := hown
  refine lv_iload_n hx hb dX6_outside_0 rfl (lv_at hl 0 rfl) ?_
  refine lv_iload_n hx hb dX6_outside_1 rfl (lv_at hl 1 rfl) ?_
  refine lv_icmp_lt (tgt := 10) hx hb dX6_outside_2 (by decide) (fun c_1 => ?_) (fun c_1 => ?_)
  · refine lv_iconst (v := 1) hx hb dX6_outside_10 (by decide) ?_
    refine lv_goto (tgt := 15) hx hb dX6_outside_11 (by decide) ?_
    exact z_zret hx hb hr hlk rfl hK hZ hS ⟨by rw [s_out, if_pos c_1], rfl⟩ dX6_outside_15
  · refine lv_iload_n hx hb dX6_outside_5 rfl (lv_at hl 0 rfl) ?_
    refine lv_iload_n hx hb dX6_outside_6 rfl (lv_at hl 2 rfl) ?_
    refine lv_icmp_le (tgt := 14) hx hb dX6_outside_7 (by decide) (fun c_2 => ?_) (fun c_2 => ?_)
    · refine lv_iconst (v := 0) hx hb dX6_outside_14 (by decide) ?_
      exact z_zret hx hb hr hlk rfl hK hZ hS ⟨by rw [s_out, if_neg c_1, if_pos c_2], rfl⟩ dX6_outside_15
    · refine lv_iconst (v := 1) hx hb dX6_outside_10 (by decide) ?_
      refine lv_goto (tgt := 15) hx hb dX6_outside_11 (by decide) ?_
      exact z_zret hx hb hr hlk rfl hK hZ hS ⟨by rw [s_out, if_neg c_1, if_neg c_2], rfl⟩ dX6_outside_15
def s_ex (b : Nat) : Nat := if nI (b / 2 ^ 23) ≤ 0 then 1 else b / 2 ^ 23
def s_sg (b : Nat) : Nat := if nI (b / 2 ^ 23) ≤ 0 then b % 2 ^ 23 else b % 2 ^ 23 + 8388608
def s_flo (b : Nat) : Nat → UInt32
  | 0 => FP.i2f (nI (s_sg b))
  | j + 1 => FP.fdiv (s_flo b j) FP.fconst2
def s_rate (x : Int32) : UInt32 := s_flo x.toNatClampNeg (150 - s_ex x.toNatClampNeg)
theorem fk_c2 : 128 * 2 ^ 23 ≤ FP.fconst2.toNat % 2 ^ 31 ∧ fK 255 FP.fconst2 := by unfold fK; decide
theorem fk_flo (b j : Nat) : fK 160 (s_flo b j) := by
  induction j with
  | zero => exact fk_i2f _
  | succ j ih => exact (fk_div (K := 160) (L := 128) ih fk_c2.1 fk_c2.2 (by decide) (by decide)).up (by decide)
theorem s_ex_le {b : Nat} (h : b ≤ 1045220557) : s_ex b ≤ 124 := by unfold s_ex; split <;> omega
theorem hdX6_floatOf : yX6_floatOf.cls = RX6 ∧ yX6_floatOf.cls ≠ "java/lang/invoke/MethodHandle" ∧ yX6_floatOf.cls ≠ "java/lang/invoke/VarHandle" ∧ (parseMethodDescriptor yX6_floatOf.desc).map (fun d => d.parameters.length) = some 1 := by decide +kernel
set_option maxHeartbeats 4000000 in
set_option maxRecDepth 100000 in
theorem c_X6_floatOf0 (l : Launch) (G : zG) (μ : zM) (b : Nat) (hb8 : b ≤ 1045220557) : zMet l G yX6_floatOf cX6_floatOf 5 (some .float) 0 0 [.int (nI b)] μ (zQf G (s_flo b (150 - s_ex b)) μ) := by
  refine z_start (lv := [(0, .int (nI b))]) (by decide) (Nat.le_of_ble_eq_true rfl) rfl ?_
  intro p e s m args below meth c ls hx hb hml hr hlk hts hown hK hZ hS hl
  have hown : s.vm.findClass RX6 = some m.cls := hown
  have hex := s_ex_le hb8
  have loop : ∀ (k j : Nat), j + k = 150 - s_ex b → ∀ (H : Heap) (locs : List Loc) (ls : Array Slot), zW G μ H → va_S (zA G) s.heap H locs → lv_has ls 5 [(3, .float (s_flo b j)), (4, .int (nI (s_ex b + j)))] → W p l e { frames := 0, cells := 0, slots := 0, locals := 0 } s m args below meth c H locs 0 0 (MQ below (zQf G (s_flo b (150 - s_ex b)) μ) args s 0 0 (zA G)) (F0 m 30 ls []) := by
    intro k
    induction k with
    | zero =>
      intro j hj H locs ls hZ hS hl
      have hj : 150 - s_ex b = j := by omega
      subst hj
      refine lv_iload hx hb dX6_floatOf_30 (lv_at hl 1 rfl) ?_
      refine lv_sipush (v := 150) hx hb dX6_floatOf_32 (by decide) ?_
      refine lv_icmp_ge (tgt := 48) hx hb dX6_floatOf_35 (by decide) (fun c_1 => ?_) (fun c_1 => ?_)
      · refine lv_fload_n hx hb dX6_floatOf_48 rfl (lv_at hl 0 rfl) ?_
        exact z_fret hx hb hr hlk hK hZ hS ⟨rfl, rfl⟩ dX6_floatOf_49
      · exact absurd (show nI 150 ≤ nI (s_ex b + (150 - s_ex b)) from nI_le (by omega) (by omega)) c_1
    | succ k ih =>
      intro j hj H locs ls hZ hS hl
      refine lv_iload hx hb dX6_floatOf_30 (lv_at hl 1 rfl) ?_
      refine lv_sipush (v := 150) hx hb dX6_floatOf_32 (by decide) ?_
      refine lv_icmp_ge (tgt := 48) hx hb dX6_floatOf_35 (by decide) (fun c_2 => ?_) (fun c_2 => ?_)
      · exact absurd (show nI 150 ≤ nI (s_ex b + j) from c_2) (nI_ge (by omega) (by omega))
      · refine lv_fload_n hx hb dX6_floatOf_38 rfl (lv_at hl 0 rfl) ?_
        refine lv_fconst2 hx hb dX6_floatOf_39 ?_
        refine lv_fdiv hx hb dX6_floatOf_40 ((fk_div (fk_flo b j) fk_c2.1 fk_c2.2 (by decide) (by decide)).n (by decide)) ?_
        refine lv_fstore_n (lv' := [(3, .float (FP.fdiv (s_flo b j) FP.fconst2)), (4, .int (nI (s_ex b + j)))]) hx hb dX6_floatOf_41 rfl hl (by decide) rfl (fun ls hl => ?_)
        refine lv_iinc (v := (nI ((s_ex b + j) + 1))) (lv' := [(4, .int (nI ((s_ex b + j) + 1))), (3, .float (FP.fdiv (s_flo b j) FP.fconst2))]) hx hb dX6_floatOf_42 hl (k := 1) rfl (nI_1 _) (by decide) rfl (fun ls hl => ?_)
        refine lv_goto (tgt := 30) hx hb dX6_floatOf_45 (by decide) ?_
        exact ih (j + 1) (by omega) _ _ _ hZ hS (lv_sub hl [1, 0] rfl)
  refine lv_iload_n hx hb dX6_floatOf_0 rfl (lv_at hl 0 rfl) ?_
  refine lv_bipush (v := 23) hx hb dX6_floatOf_1 (by decide) ?_
  refine lv_ishr hx hb dX6_floatOf_3 ?_
  rw [pk_shrN (by omega) (23 &&& 31) 23 (by decide)]
  refine lv_istore_n (lv' := [(1, .int (nI (b / 2 ^ 23))), (0, .int (nI b))]) hx hb dX6_floatOf_4 rfl hl (by decide) rfl (fun ls hl => ?_)
  refine lv_iload_n hx hb dX6_floatOf_5 rfl (lv_at hl 1 rfl) ?_
  refine lv_ldc hx hb hown (hts _ q547) dX6_floatOf_6 ?_
  refine lv_iand hx hb dX6_floatOf_8 ?_
  rw [pk_andN (by omega) 23 (by decide)]
  refine lv_istore_n (lv' := [(2, .int (nI (b % 2 ^ 23))), (1, .int (nI (b / 2 ^ 23))), (0, .int (nI b))]) hx hb dX6_floatOf_9 rfl hl (by decide) rfl (fun ls hl => ?_)
  refine lv_iload_n hx hb dX6_floatOf_10 rfl (lv_at hl 1 rfl) ?_
  refine lv_if_le (tgt := 22) hx hb dX6_floatOf_11 (by decide) (fun c_3 => ?_) (fun c_3 => ?_)
  · refine lv_iconst (v := 1) hx hb dX6_floatOf_22 (by decide) ?_
    refine lv_istore_n (lv' := [(1, .int 1), (2, .int (nI (b % 2 ^ 23))), (0, .int (nI b))]) hx hb dX6_floatOf_23 rfl hl (by decide) rfl (fun ls hl => ?_)
    refine lv_iload_n hx hb dX6_floatOf_24 rfl (lv_at hl 1 rfl) ?_
    refine lv_i2f hx hb dX6_floatOf_25 ?_
    refine lv_fstore_n (lv' := [(3, .float (FP.i2f (nI (b % 2 ^ 23)))), (1, .int 1), (2, .int (nI (b % 2 ^ 23))), (0, .int (nI b))]) hx hb dX6_floatOf_26 rfl hl (by decide) rfl (fun ls hl => ?_)
    refine lv_iload_n hx hb dX6_floatOf_27 rfl (lv_at hl 1 rfl) ?_
    refine lv_istore (lv' := [(4, .int 1), (3, .float (FP.i2f (nI (b % 2 ^ 23)))), (1, .int 1), (2, .int (nI (b % 2 ^ 23))), (0, .int (nI b))]) hx hb dX6_floatOf_28 hl (by decide) rfl (fun ls hl => ?_)
    rw [show b % 2 ^ 23 = s_sg b from (if_pos c_3).symm, show (1 : Int32) = nI (s_ex b + 0) from congrArg nI (if_pos c_3).symm] at hl
    exact loop (150 - s_ex b) 0 (by omega) _ _ _ hZ hS (lv_sub hl [1, 0] rfl)
  · refine lv_iload_n hx hb dX6_floatOf_14 rfl (lv_at hl 0 rfl) ?_
    refine lv_ldc hx hb hown (hts _ q548) dX6_floatOf_15 ?_
    refine lv_iadd hx hb dX6_floatOf_17 ?_
    rw [show nI (b % 2 ^ 23) + 8388608 = nI (b % 2 ^ 23 + 8388608) from nI_add _ _]
    refine lv_istore_n (lv' := [(2, .int (nI (b % 2 ^ 23 + 8388608))), (1, .int (nI (b / 2 ^ 23))), (0, .int (nI b))]) hx hb dX6_floatOf_18 rfl hl (by decide) rfl (fun ls hl => ?_)
    refine lv_goto (tgt := 24) hx hb dX6_floatOf_19 (by decide) ?_
    refine lv_iload_n hx hb dX6_floatOf_24 rfl (lv_at hl 0 rfl) ?_
    refine lv_i2f hx hb dX6_floatOf_25 ?_
    refine lv_fstore_n (lv' := [(3, .float (FP.i2f (nI (b % 2 ^ 23 + 8388608)))), (2, .int (nI (b % 2 ^ 23 + 8388608))), (1, .int (nI (b / 2 ^ 23))), (0, .int (nI b))]) hx hb dX6_floatOf_26 rfl hl (by decide) rfl (fun ls hl => ?_)
    refine lv_iload_n hx hb dX6_floatOf_27 rfl (lv_at hl 2 rfl) ?_
    refine lv_istore (lv' := [(4, .int (nI (b / 2 ^ 23))), (3, .float (FP.i2f (nI (b % 2 ^ 23 + 8388608)))), (2, .int (nI (b % 2 ^ 23 + 8388608))), (1, .int (nI (b / 2 ^ 23))), (0, .int (nI b))]) hx hb dX6_floatOf_28 hl (by decide) rfl (fun ls hl => ?_)
    rw [show b % 2 ^ 23 + 8388608 = s_sg b from (if_neg c_3).symm, show b / 2 ^ 23 = s_ex b from (if_neg c_3).symm] at hl
    exact loop (150 - s_ex b) 0 (by omega) _ _ _ hZ hS (lv_sub hl [1, 0] rfl)
theorem c_X6_floatOf (l : Launch) (G : zG) (μ : zM) (x : Int32) (h : s_out x 0 1045220557 = 0) : zMet l G yX6_floatOf cX6_floatOf 5 (some .float) 0 0 [.int x] μ (zQf G (s_rate x) μ) := by
  obtain ⟨h1, h2⟩ := s_outI h
  have := c_X6_floatOf0 l G μ x.toNatClampNeg h2
  rw [← h1] at this
  exact this
theorem zk0 : zk 0 = 0 := by decide
theorem zk242 : zk 242 = 5 := by decide
theorem hB40 : zB 40 := Or.inr (Or.inl rfl)
def s_cls (μ : zM) (w : Nat) : Nat → Int32
  | 0 => 0
  | i + 1 => if μ (1 + (3 + 2 * i)) 2 = 3 then s_cls μ w i + s_X4_part (μ (1 + (3 + 2 * i) + 1)) w else s_cls μ w i
theorem hdX6_closedSum : yX6_closedSum.cls = RX6 ∧ yX6_closedSum.cls ≠ "java/lang/invoke/MethodHandle" ∧ yX6_closedSum.cls ≠ "java/lang/invoke/VarHandle" ∧ (parseMethodDescriptor yX6_closedSum.desc).map (fun d => d.parameters.length) = some 1 := by decide +kernel
set_option maxHeartbeats 4000000 in
set_option maxRecDepth 100000 in
theorem c_X6_closedSum (l : Launch) (G : zG) (μ : zM) (fb : Nat → Int32) (hfb : μ 1 = fb) (T : Nat) (hT : fb 3 = nI T) (hT6 : T ≤ 6) (w : Nat) (hw8 : 8 ≤ w) (hw : w ≤ 11) : zMet l G yX6_closedSum cX6_closedSum 5 (some .int) 1 21 [.ref (G.1 + 0), .int (nI w)] μ (zQi G (s_cls μ w T) μ) := by
  refine z_start (lv := [(0, .ref (G.1 + 0)), (1, .int (nI w))]) (by decide) (Nat.le_of_ble_eq_true rfl) rfl ?_
  intro p e s m args below meth c ls hx hb hml hr hlk hts hown hK hZ hS hl
  have hown : s.vm.findClass RX6 = some m.cls := hown
  have loop : ∀ (k j : Nat), j + k = T → ∀ (H : Heap) (locs : List Loc) (ls : Array Slot), zW G μ H → va_S (zA G) s.heap H locs → lv_has ls 5 [(0, .ref (G.1 + 0)), (1, .int (nI w)), (2, .int (s_cls μ w j)), (3, .int (nI j))] → W p l e { frames := 1, cells := 0, slots := 0, locals := 21 } s m args below meth c H locs 0 0 (MQ below (zQi G (s_cls μ w T) μ) args s 0 0 (zA G)) (F0 m 4 ls []) := by
    intro k
    induction k with
    | zero =>
      intro j hj H locs ls hZ hS hl
      have hj : T = j := by omega
      subst hj
      refine lv_iload_n hx hb dX6_closedSum_4 rfl (lv_at hl 3 rfl) ?_
      refine lv_aload_n hx hb dX6_closedSum_5 rfl (lv_at hl 0 rfl) ?_
      refine z_g0 (f := (μ 0)) (v := .ref (G.1 + 1)) 0 hx hb hts hown hK hZ zk0 rfl (by decide) q226 rfl dX6_closedSum_6 ?_
      refine z_g1 (f := fb) (v := .int (nI T)) 3 hx hb hts hown hK hZ (zk_book hB1) hfb (by decide) q153 (congrArg (fun z => some (Value.int z)) hT) dX6_closedSum_9 ?_
      refine lv_icmp_ge (tgt := 57) hx hb dX6_closedSum_12 (by decide) (fun c_1 => ?_) (fun c_1 => ?_)
      · refine lv_iload_n hx hb dX6_closedSum_57 rfl (lv_at hl 2 rfl) ?_
        exact z_iret hx hb hr hlk hK hZ hS ⟨rfl, rfl⟩ dX6_closedSum_58
      · exact absurd (nI_le (Nat.le_refl _) (by omega)) c_1
    | succ k ih =>
      intro j hj H locs ls hZ hS hl
      refine lv_iload_n hx hb dX6_closedSum_4 rfl (lv_at hl 3 rfl) ?_
      refine lv_aload_n hx hb dX6_closedSum_5 rfl (lv_at hl 0 rfl) ?_
      refine z_g0 (f := (μ 0)) (v := .ref (G.1 + 1)) 0 hx hb hts hown hK hZ zk0 rfl (by decide) q226 rfl dX6_closedSum_6 ?_
      refine z_g1 (f := fb) (v := .int (nI T)) 3 hx hb hts hown hK hZ (zk_book hB1) hfb (by decide) q153 (congrArg (fun z => some (Value.int z)) hT) dX6_closedSum_9 ?_
      refine lv_icmp_ge (tgt := 57) hx hb dX6_closedSum_12 (by decide) (fun c_2 => ?_) (fun c_2 => ?_)
      · exact absurd c_2 (nI_ge (by omega) (by omega))
      · refine lv_aload_n hx hb dX6_closedSum_15 rfl (lv_at hl 0 rfl) ?_
        refine z_g0 (f := (μ 0)) (v := .ref (G.1 + 1)) 0 hx hb hts hown hK hZ zk0 rfl (by decide) q226 rfl dX6_closedSum_16 ?_
        refine lv_iload_n hx hb dX6_closedSum_19 rfl (lv_at hl 3 rfl) ?_
        refine z_cVr (As := [.int (nI j)]) (rest := []) hx hb hml hown hts hl hK hZ hS (c_X1_tenancyAt_ok l G μ 1 hB1 fb hfb T j hT hT6 (by omega)) (z_G q306 q262 q263 q2 q264) hdX1_tenancyAt ⟨Nat.le_of_ble_eq_true rfl, Nat.le_of_ble_eq_true rfl⟩ (zk_book hB1) (by decide) rfl rfl rfl rfl (Nat.le_of_ble_eq_true rfl) dX6_closedSum_20 ⟨(Nat.zero_le _), (Nat.zero_le _)⟩ (fun H locs hZ hS => ?_)
        refine lv_astore (lv' := [(4, .ref (G.1 + (1 + (3 + 2 * j)))), (0, .ref (G.1 + 0)), (1, .int (nI w)), (2, .int (s_cls μ w j)), (3, .int (nI j))]) hx hb dX6_closedSum_23 hl (by decide) rfl (fun ls hl => ?_)
        refine lv_aload hx hb dX6_closedSum_25 (lv_at hl 0 rfl) ?_
        refine lv_ifnull hx hb dX6_closedSum_27 ?_
        refine lv_aload hx hb dX6_closedSum_30 (lv_at hl 0 rfl) ?_
        refine z_g4 (f := (μ (1 + (3 + 2 * j)))) (v := .int ((μ (1 + (3 + 2 * j))) 2)) 2 hx hb hts hown hK hZ (zk_ten hB1 (by omega)) rfl (by decide) q66 rfl dX6_closedSum_32 ?_
        refine lv_iconst (v := 3) hx hb dX6_closedSum_35 (by decide) ?_
        refine lv_icmp_ne (tgt := 51) hx hb dX6_closedSum_36 (by decide) (fun c_3 => ?_) (fun c_3 => ?_)
        · refine lv_iinc (v := (nI (j + 1))) (lv' := [(3, .int (nI (j + 1))), (4, .ref (G.1 + (1 + (3 + 2 * j)))), (0, .ref (G.1 + 0)), (1, .int (nI w)), (2, .int (s_cls μ w j))]) hx hb dX6_closedSum_51 hl (k := 4) rfl (nI_1 _) (by decide) rfl (fun ls hl => ?_)
          refine lv_goto (tgt := 4) hx hb dX6_closedSum_54 (by decide) ?_
          rw [show s_cls μ w j = s_cls μ w (j + 1) from (if_neg c_3).symm] at hl
          exact ih (j + 1) (by omega) _ _ _ hZ hS (lv_sub hl [2, 3, 4, 0] rfl)
        · refine lv_iload_n hx hb dX6_closedSum_39 rfl (lv_at hl 3 rfl) ?_
          refine lv_aload hx hb dX6_closedSum_40 (lv_at hl 0 rfl) ?_
          refine z_g4 (f := (μ (1 + (3 + 2 * j)))) (v := .ref (G.1 + ((1 + (3 + 2 * j)) + 1))) 6 hx hb hts hown hK hZ (zk_ten hB1 (by omega)) rfl (by decide) q78 rfl dX6_closedSum_42 ?_
          refine lv_iload_n hx hb dX6_closedSum_45 rfl (lv_at hl 2 rfl) ?_
          refine z_cVi (As := [.int (nI w)]) (rest := [.int (s_cls μ w j)]) hx hb hml hown hts hl hK hZ hS (c_X4_part l G μ ((1 + (3 + 2 * j)) + 1) (μ ((1 + (3 + 2 * j)) + 1)) (zk_set1 hB1 (by omega)) rfl w (by omega) (by omega)) (z_G q307 q308 q309 q4 q310) hdX4_part ⟨Nat.le_of_ble_eq_true rfl, Nat.le_of_ble_eq_true rfl⟩ (zk_set1 hB1 (by omega)) (by decide) rfl rfl rfl rfl (Nat.le_of_ble_eq_true rfl) dX6_closedSum_46 ⟨(Nat.zero_le _), (Nat.zero_le _)⟩ (fun H locs hZ hS => ?_)
          refine lv_iadd hx hb dX6_closedSum_49 ?_
          refine lv_istore_n (lv' := [(2, .int ((s_cls μ w j) + (s_X4_part (μ ((1 + (3 + 2 * j)) + 1)) w))), (4, .ref (G.1 + (1 + (3 + 2 * j)))), (0, .ref (G.1 + 0)), (1, .int (nI w)), (3, .int (nI j))]) hx hb dX6_closedSum_50 rfl hl (by decide) rfl (fun ls hl => ?_)
          refine lv_iinc (v := (nI (j + 1))) (lv' := [(3, .int (nI (j + 1))), (2, .int ((s_cls μ w j) + (s_X4_part (μ ((1 + (3 + 2 * j)) + 1)) w))), (4, .ref (G.1 + (1 + (3 + 2 * j)))), (0, .ref (G.1 + 0)), (1, .int (nI w))]) hx hb dX6_closedSum_51 hl (k := 4) rfl (nI_1 _) (by decide) rfl (fun ls hl => ?_)
          refine lv_goto (tgt := 4) hx hb dX6_closedSum_54 (by decide) ?_
          rw [show s_cls μ w j + s_X4_part (μ (1 + (3 + 2 * j) + 1)) w = s_cls μ w (j + 1) from (if_pos c_3).symm] at hl
          exact ih (j + 1) (by omega) _ _ _ hZ hS (lv_sub hl [3, 4, 1, 0] rfl)
  refine lv_iconst (v := 0) hx hb dX6_closedSum_0 (by decide) ?_
  refine lv_istore_n (lv' := [(2, .int 0), (0, .ref (G.1 + 0)), (1, .int (nI w))]) hx hb dX6_closedSum_1 rfl hl (by decide) rfl (fun ls hl => ?_)
  refine lv_iconst (v := 0) hx hb dX6_closedSum_2 (by decide) ?_
  refine lv_istore_n (lv' := [(3, .int 0), (2, .int 0), (0, .ref (G.1 + 0)), (1, .int (nI w))]) hx hb dX6_closedSum_3 rfl hl (by decide) rfl (fun ls hl => ?_)
  exact loop T 0 (by omega) _ _ _ hZ hS (lv_sub hl [2, 3, 1, 0] rfl)
def s_cf (f fb g : Nat → Int32) (w : Nat) : Int32 := if g 2 = 0 then -5 else match w with | 4 => f 5 | 5 => s_X3_damageAfter f (s_X1_daysOf fb g) (f 5) | _ => f 6
theorem hdX6_conditionFact : yX6_conditionFact.cls = RX6 ∧ yX6_conditionFact.cls ≠ "java/lang/invoke/MethodHandle" ∧ yX6_conditionFact.cls ≠ "java/lang/invoke/VarHandle" ∧ (parseMethodDescriptor yX6_conditionFact.desc).map (fun d => d.parameters.length) = some 2 := by decide +kernel
set_option maxHeartbeats 4000000 in
set_option maxRecDepth 100000 in
theorem c_X6_conditionFact (l : Launch) (G : zG) (μ : zM) (fb : Nat → Int32) (hfb : μ 1 = fb) (T h : Nat) (hT : fb 3 = nI T) (hT6 : T ≤ 6) (hh0 : h < T) (n : Nat) (f : Nat → Int32) (hk : zk n = 6) (hf : μ n = f) (he : f 0 = nI h) (g : Nat → Int32) (hg : μ (1 + (3 + 2 * h)) = g) (w : Nat) (hw4 : 4 ≤ w) (hw6 : w ≤ 6) : zMet l G yX6_conditionFact cX6_conditionFact 3 (some .int) 3 56 [.ref (G.1 + 0), .ref (G.1 + n), .int (nI w)] μ (zQi G (s_cf f fb g w) μ) := by
  refine z_start (lv := [(0, .ref (G.1 + 0)), (1, .ref (G.1 + n)), (2, .int (nI w))]) (by decide) (Nat.le_of_ble_eq_true rfl) rfl ?_
  intro p e s m args below meth c ls hx hb hml hr hlk hts hown hK hZ hS hl
  have hown : s.vm.findClass RX6 = some m.cls := hown
  have hcs : w = 4 ∨ w = 5 ∨ w = 6 := by omega
  rcases hcs with rfl | rfl | rfl
  · refine lv_aload_n hx hb dX6_conditionFact_0 rfl (lv_at hl 0 rfl) ?_
    refine z_g0 (f := (μ 0)) (v := .ref (G.1 + 1)) 0 hx hb hts hown hK hZ zk0 rfl (by decide) q226 rfl dX6_conditionFact_1 ?_
    refine lv_aload_n hx hb dX6_conditionFact_4 rfl (lv_at hl 1 rfl) ?_
    refine z_cVi (As := [.ref (G.1 + n)]) (rest := []) hx hb hml hown hts hl hK hZ hS (c_X1_stateOf l G μ fb hfb n f hk hf T h hT hT6 hh0 he g hg) (z_G q411 q412 q413 q2 q414) hdX1_stateOf ⟨Nat.le_of_ble_eq_true rfl, Nat.le_of_ble_eq_true rfl⟩ (zk_book hB1) (by decide) rfl rfl rfl rfl (Nat.le_of_ble_eq_true rfl) dX6_conditionFact_5 ⟨(Nat.zero_le _), (Nat.zero_le _)⟩ (fun H locs hZ hS => ?_)
    refine lv_if_ne (tgt := 14) hx hb dX6_conditionFact_8 (by decide) (fun c_1 => ?_) (fun c_1 => ?_)
    · refine lv_iload_n hx hb dX6_conditionFact_14 rfl (lv_at hl 2 rfl) ?_
      refine lv_iconst (v := 4) hx hb dX6_conditionFact_15 (by decide) ?_
      refine lv_icmp_ne (tgt := 24) hx hb dX6_conditionFact_16 (by decide) (fun c_2 => ?_) (fun c_2 => ?_)
      · exact absurd rfl c_2
      · refine lv_aload_n hx hb dX6_conditionFact_19 rfl (lv_at hl 1 rfl) ?_
        refine z_g6 (f := f) (v := .int (f 5)) 5 hx hb hts hown hK hZ hk hf (by decide) q109 rfl dX6_conditionFact_20 ?_
        exact z_iret hx hb hr hlk hK hZ hS ⟨(if_neg c_1).symm, rfl⟩ dX6_conditionFact_23
    · refine lv_bipush (v := (-5)) hx hb dX6_conditionFact_11 (by decide) ?_
      exact z_iret hx hb hr hlk hK hZ hS ⟨(if_pos c_1).symm, rfl⟩ dX6_conditionFact_13
  · refine lv_aload_n hx hb dX6_conditionFact_0 rfl (lv_at hl 0 rfl) ?_
    refine z_g0 (f := (μ 0)) (v := .ref (G.1 + 1)) 0 hx hb hts hown hK hZ zk0 rfl (by decide) q226 rfl dX6_conditionFact_1 ?_
    refine lv_aload_n hx hb dX6_conditionFact_4 rfl (lv_at hl 1 rfl) ?_
    refine z_cVi (As := [.ref (G.1 + n)]) (rest := []) hx hb hml hown hts hl hK hZ hS (c_X1_stateOf l G μ fb hfb n f hk hf T h hT hT6 hh0 he g hg) (z_G q411 q412 q413 q2 q414) hdX1_stateOf ⟨Nat.le_of_ble_eq_true rfl, Nat.le_of_ble_eq_true rfl⟩ (zk_book hB1) (by decide) rfl rfl rfl rfl (Nat.le_of_ble_eq_true rfl) dX6_conditionFact_5 ⟨(Nat.zero_le _), (Nat.zero_le _)⟩ (fun H locs hZ hS => ?_)
    refine lv_if_ne (tgt := 14) hx hb dX6_conditionFact_8 (by decide) (fun c_3 => ?_) (fun c_3 => ?_)
    · refine lv_iload_n hx hb dX6_conditionFact_14 rfl (lv_at hl 2 rfl) ?_
      refine lv_iconst (v := 4) hx hb dX6_conditionFact_15 (by decide) ?_
      refine lv_icmp_ne (tgt := 24) hx hb dX6_conditionFact_16 (by decide) (fun c_4 => ?_) (fun c_4 => ?_)
      · refine lv_iload_n hx hb dX6_conditionFact_24 rfl (lv_at hl 2 rfl) ?_
        refine lv_iconst (v := 5) hx hb dX6_conditionFact_25 (by decide) ?_
        refine lv_icmp_ne (tgt := 46) hx hb dX6_conditionFact_26 (by decide) (fun c_5 => ?_) (fun c_5 => ?_)
        · exact absurd rfl c_5
        · refine lv_aload_n hx hb dX6_conditionFact_29 rfl (lv_at hl 1 rfl) ?_
          refine lv_aload_n hx hb dX6_conditionFact_30 rfl (lv_at hl 0 rfl) ?_
          refine z_g0 (f := (μ 0)) (v := .ref (G.1 + 1)) 0 hx hb hts hown hK hZ zk0 rfl (by decide) q226 rfl dX6_conditionFact_31 ?_
          refine lv_aload_n hx hb dX6_conditionFact_34 rfl (lv_at hl 1 rfl) ?_
          refine z_cVi (As := [.ref (G.1 + n)]) (rest := [.ref (G.1 + n)]) hx hb hml hown hts hl hK hZ hS (c_X1_daysOfItem l G μ fb hfb n f hk hf T h hT hT6 hh0 he g hg) (z_G q395 q396 q397 q2 q398) hdX1_daysOfItem ⟨Nat.le_of_ble_eq_true rfl, Nat.le_of_ble_eq_true rfl⟩ (zk_book hB1) (by decide) rfl rfl rfl rfl (Nat.le_of_ble_eq_true rfl) dX6_conditionFact_35 ⟨(Nat.zero_le _), (Nat.zero_le _)⟩ (fun H locs hZ hS => ?_)
          refine lv_aload_n hx hb dX6_conditionFact_38 rfl (lv_at hl 1 rfl) ?_
          refine z_g6 (f := f) (v := .int (f 5)) 5 hx hb hts hown hK hZ hk hf (by decide) q109 rfl dX6_conditionFact_39 ?_
          refine z_cVi (As := [.int (s_X1_daysOf fb g), .int (f 5)]) (rest := []) hx hb hml hown hts hl hK hZ hS (c_X3_damageAfter l G μ n f hk hf (s_X1_daysOf fb g) (f 5)) (z_G q415 q416 q417 q5 q418) hdX3_damageAfter ⟨Nat.le_of_ble_eq_true rfl, Nat.le_of_ble_eq_true rfl⟩ hk (by decide) rfl rfl rfl rfl (Nat.le_of_ble_eq_true rfl) dX6_conditionFact_42 ⟨(Nat.zero_le _), (Nat.zero_le _)⟩ (fun H locs hZ hS => ?_)
          exact z_iret hx hb hr hlk hK hZ hS ⟨(if_neg c_3).symm, rfl⟩ dX6_conditionFact_45
      · exact absurd c_4 (by decide)
    · refine lv_bipush (v := (-5)) hx hb dX6_conditionFact_11 (by decide) ?_
      exact z_iret hx hb hr hlk hK hZ hS ⟨(if_pos c_3).symm, rfl⟩ dX6_conditionFact_13
  · refine lv_aload_n hx hb dX6_conditionFact_0 rfl (lv_at hl 0 rfl) ?_
    refine z_g0 (f := (μ 0)) (v := .ref (G.1 + 1)) 0 hx hb hts hown hK hZ zk0 rfl (by decide) q226 rfl dX6_conditionFact_1 ?_
    refine lv_aload_n hx hb dX6_conditionFact_4 rfl (lv_at hl 1 rfl) ?_
    refine z_cVi (As := [.ref (G.1 + n)]) (rest := []) hx hb hml hown hts hl hK hZ hS (c_X1_stateOf l G μ fb hfb n f hk hf T h hT hT6 hh0 he g hg) (z_G q411 q412 q413 q2 q414) hdX1_stateOf ⟨Nat.le_of_ble_eq_true rfl, Nat.le_of_ble_eq_true rfl⟩ (zk_book hB1) (by decide) rfl rfl rfl rfl (Nat.le_of_ble_eq_true rfl) dX6_conditionFact_5 ⟨(Nat.zero_le _), (Nat.zero_le _)⟩ (fun H locs hZ hS => ?_)
    refine lv_if_ne (tgt := 14) hx hb dX6_conditionFact_8 (by decide) (fun c_6 => ?_) (fun c_6 => ?_)
    · refine lv_iload_n hx hb dX6_conditionFact_14 rfl (lv_at hl 2 rfl) ?_
      refine lv_iconst (v := 4) hx hb dX6_conditionFact_15 (by decide) ?_
      refine lv_icmp_ne (tgt := 24) hx hb dX6_conditionFact_16 (by decide) (fun c_7 => ?_) (fun c_7 => ?_)
      · refine lv_iload_n hx hb dX6_conditionFact_24 rfl (lv_at hl 2 rfl) ?_
        refine lv_iconst (v := 5) hx hb dX6_conditionFact_25 (by decide) ?_
        refine lv_icmp_ne (tgt := 46) hx hb dX6_conditionFact_26 (by decide) (fun c_8 => ?_) (fun c_8 => ?_)
        · refine lv_aload_n hx hb dX6_conditionFact_46 rfl (lv_at hl 1 rfl) ?_
          refine z_g6 (f := f) (v := .int (f 6)) 6 hx hb hts hown hK hZ hk hf (by decide) q111 rfl dX6_conditionFact_47 ?_
          exact z_iret hx hb hr hlk hK hZ hS ⟨(if_neg c_6).symm, rfl⟩ dX6_conditionFact_50
        · exact absurd c_8 (by decide)
      · exact absurd c_7 (by decide)
    · refine lv_bipush (v := (-5)) hx hb dX6_conditionFact_11 (by decide) ?_
      exact z_iret hx hb hr hlk hK hZ hS ⟨(if_pos c_6).symm, rfl⟩ dX6_conditionFact_13
