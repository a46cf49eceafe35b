theorem zE6_eq {G : zG} {n : Nat} {f g : Nat → Int32} (h : zF6 f = zF6 g) : zE G 6 n f = zE G 6 n g := congrArg (fun z => (Sum.inr (3, z) : va_E)) h
theorem zE5_eq {G : zG} {n : Nat} {f g : Nat → Int32} (h : zF5 f = zF5 g) : zE G 5 n f = zE G 5 n g := congrArg (fun z => (Sum.inr (4, z) : va_E)) h
theorem zE4_eq {G : zG} {n : Nat} {f g : Nat → Int32} (h : zF4 G n f = zF4 G n g) : zE G 4 n f = zE G 4 n g := congrArg (fun z => (Sum.inr (5, z) : va_E)) h
theorem zE1_eq {G : zG} {n : Nat} {f g : Nat → Int32} (h : zF1 G n f = zF1 G n g) : zE G 1 n f = zE G 1 n g := congrArg (fun z => (Sum.inr (1, z) : va_E)) h
/-- the same world, the row of n written otherwise -/
theorem zW.re {G : zG} {μ : zM} {H : Heap} {n k : Nat} {f g : Nat → Int32} (h : zW G (zr μ n f) H) (hk : zk n = k) (he : zE G k n f = zE G k n g) : zW G (zr μ n g) H := by
  intro j hj
  have hj2 := h j hj
  by_cases hjn : j = n
  · subst hjn
    rw [zr_same] at hj2 ⊢
    subst hk
    rw [← he]
    exact hj2
  · rw [zr_ne hjn] at hj2 ⊢
    exact hj2
def s_X3_ageAfter (f : Nat → Int32) (a : Int32) : Int32 := ((f 3) + a)
theorem hdX3_ageAfter : yX3_ageAfter.cls = RX3 ∧ yX3_ageAfter.cls ≠ "java/lang/invoke/MethodHandle" ∧ yX3_ageAfter.cls ≠ "java/lang/invoke/VarHandle" ∧ (parseMethodDescriptor yX3_ageAfter.desc).map (fun d => d.parameters.length) = some 1 := by decide +kernel
set_option maxHeartbeats 4000000 in
set_option maxRecDepth 100000 in
theorem c_X3_ageAfter (l : Launch) (G : zG) (μ : zM) (n : Nat) (f : Nat → Int32) (hk : zk n = 6) (hf : μ n = f) (a : Int32) : zMet l G yX3_ageAfter cX3_ageAfter 2 (some .int) 0 0 [.ref (G.1 + n), .int a] μ (zQi G (s_X3_ageAfter f a) μ) := by
  refine z_start (lv := [(0, .ref (G.1 + n)), (1, .int a)]) (by decide) (Nat.le_of_ble_eq_true rfl) rfl ?_
  intro p e s m args below meth c ls hx hb hml hr hlk hts hown hK hZ hS hl
  have hown : s.vm.findClass RX3 = some m.cls := hown
  refine lv_aload_n hx hb dX3_ageAfter_0 rfl (lv_at hl 0 rfl) ?_
  refine z_g6 (f := f) (v := .int (f 3)) 3 hx hb hts hown hK hZ hk hf (by decide) q105 rfl dX3_ageAfter_1 ?_
  refine lv_iload_n hx hb dX3_ageAfter_4 rfl (lv_at hl 1 rfl) ?_
  refine lv_iadd hx hb dX3_ageAfter_5 ?_
  exact z_iret hx hb hr hlk hK hZ hS ⟨by rw [s_X3_ageAfter], rfl⟩ dX3_ageAfter_6
def s_X3_fairAfter (f : Nat → Int32) (a : Int32) : Int32 := if 0 < (f 2) then (if ((f 4) - ((100 * a) / (f 2))) < 0 then 0 else ((f 4) - ((100 * a) / (f 2))))
  else 0
theorem hdX3_fairAfter : yX3_fairAfter.cls = RX3 ∧ yX3_fairAfter.cls ≠ "java/lang/invoke/MethodHandle" ∧ yX3_fairAfter.cls ≠ "java/lang/invoke/VarHandle" ∧ (parseMethodDescriptor yX3_fairAfter.desc).map (fun d => d.parameters.length) = some 1 := by decide +kernel
set_option maxHeartbeats 4000000 in
set_option maxRecDepth 100000 in
theorem c_X3_fairAfter (l : Launch) (G : zG) (μ : zM) (n : Nat) (f : Nat → Int32) (hk : zk n = 6) (hf : μ n = f) (a : Int32) : zMet l G yX3_fairAfter cX3_fairAfter 2 (some .int) 1 13 [.ref (G.1 + n), .int a] μ (zQi G (s_X3_fairAfter f a) μ) := by
  refine z_start (lv := [(0, .ref (G.1 + n)), (1, .int a)]) (by decide) (Nat.le_of_ble_eq_true rfl) rfl ?_
  intro p e s m args below meth c ls hx hb hml hr hlk hts hown hK hZ hS hl
  have hown : s.vm.findClass RX3 = some m.cls := hown
  refine lv_aload_n hx hb dX3_fairAfter_0 rfl (lv_at hl 0 rfl) ?_
  refine z_g6 (f := f) (v := .int (f 2)) 2 hx hb hts hown hK hZ hk hf (by decide) q104 rfl dX3_fairAfter_1 ?_
  refine lv_if_gt (tgt := 9) hx hb dX3_fairAfter_4 (by decide) (fun c_1 => ?_) (fun c_1 => ?_)
  · refine lv_aload_n hx hb dX3_fairAfter_9 rfl (lv_at hl 0 rfl) ?_
    refine z_g6 (f := f) (v := .int (f 4)) 4 hx hb hts hown hK hZ hk hf (by decide) q106 rfl dX3_fairAfter_10 ?_
    refine lv_bipush (v := 100) hx hb dX3_fairAfter_13 (by decide) ?_
    refine lv_iload_n hx hb dX3_fairAfter_15 rfl (lv_at hl 1 rfl) ?_
    refine lv_imul hx hb dX3_fairAfter_16 ?_
    refine lv_aload_n hx hb dX3_fairAfter_17 rfl (lv_at hl 0 rfl) ?_
    refine z_g6 (f := f) (v := .int (f 2)) 2 hx hb hts hown hK hZ hk hf (by decide) q104 rfl dX3_fairAfter_18 ?_
    refine lv_idiv hx hb dX3_fairAfter_21 (z_ne0 c_1) ?_
    refine lv_isub hx hb dX3_fairAfter_22 ?_
    refine lv_iconst (v := 0) hx hb dX3_fairAfter_23 (by decide) ?_
    refine va_mmax hx hb (hml.trans hl.1.symm) hown (hts _ q404) (hts _ q405) (hts _ q8) (hts _ q406) (Nat.le_of_ble_eq_true rfl) (Nat.le_of_ble_eq_true rfl) (Nat.zero_le _) (Nat.zero_le _) dX3_fairAfter_24 ?_
    exact z_iret hx hb hr hlk hK hZ hS ⟨by rw [s_X3_fairAfter, if_pos c_1], rfl⟩ dX3_fairAfter_27
  · refine lv_iconst (v := 0) hx hb dX3_fairAfter_7 (by decide) ?_
    exact z_iret hx hb hr hlk hK hZ hS ⟨by rw [s_X3_fairAfter, if_neg c_1], rfl⟩ dX3_fairAfter_8
def s_X3_restAfter (f : Nat → Int32) (a : Int32) : UInt32 := if 0 < (f 2) then if 0 ≤ (Op.cmpValue (FP.fcmp (FP.fsub FP.fconst1 (FP.fdiv (FP.i2f (s_X3_ageAfter f a)) (FP.i2f (f 2)))) FP.fconst0) CmpOp.g) then (FP.fsub FP.fconst1 (FP.fdiv (FP.i2f (s_X3_ageAfter f a)) (FP.i2f (f 2))))
    else FP.fconst0
  else FP.fconst0
theorem hdX3_restAfter : yX3_restAfter.cls = RX3 ∧ yX3_restAfter.cls ≠ "java/lang/invoke/MethodHandle" ∧ yX3_restAfter.cls ≠ "java/lang/invoke/VarHandle" ∧ (parseMethodDescriptor yX3_restAfter.desc).map (fun d => d.parameters.length) = some 1 := by decide +kernel
set_option maxHeartbeats 4000000 in
set_option maxRecDepth 100000 in
theorem c_X3_restAfter (l : Launch) (G : zG) (μ : zM) (n : Nat) (f : Nat → Int32) (hk : zk n = 6) (hf : μ n = f) (a : Int32) : zMet l G yX3_restAfter cX3_restAfter 3 (some .float) 1 21 [.ref (G.1 + n), .int a] μ (zQf G (s_X3_restAfter f a) μ) := by
  refine z_start (lv := [(0, .ref (G.1 + n)), (1, .int a)]) (by decide) (Nat.le_of_ble_eq_true rfl) rfl ?_
  intro p e s m args below meth c ls hx hb hml hr hlk hts hown hK hZ hS hl
  have hown : s.vm.findClass RX3 = some m.cls := hown
  refine lv_aload_n hx hb dX3_restAfter_0 rfl (lv_at hl 0 rfl) ?_
  refine z_g6 (f := f) (v := .int (f 2)) 2 hx hb hts hown hK hZ hk hf (by decide) q104 rfl dX3_restAfter_1 ?_
  refine lv_if_gt (tgt := 9) hx hb dX3_restAfter_4 (by decide) (fun c_1 => ?_) (fun c_1 => ?_)
  · refine lv_fconst1 hx hb dX3_restAfter_9 ?_
    refine lv_aload_n hx hb dX3_restAfter_10 rfl (lv_at hl 0 rfl) ?_
    refine lv_iload_n hx hb dX3_restAfter_11 rfl (lv_at hl 1 rfl) ?_
    refine z_cVi (As := [.int a]) (rest := [.float FP.fconst1]) hx hb hml hown hts hl hK hZ hS (c_X3_ageAfter l G μ n f hk hf a) (z_G q500 q422 q423 q5 q424) hdX3_ageAfter ⟨Nat.le_of_ble_eq_true rfl, Nat.le_of_ble_eq_true rfl⟩ hk (by decide) rfl rfl rfl rfl (Nat.le_of_ble_eq_true rfl) dX3_restAfter_12 ⟨(Nat.zero_le _), (Nat.zero_le _)⟩ (fun H locs hZ hS => ?_)
    refine lv_i2f hx hb dX3_restAfter_15 ?_
    refine lv_aload_n hx hb dX3_restAfter_16 rfl (lv_at hl 0 rfl) ?_
    refine z_g6 (f := f) (v := .int (f 2)) 2 hx hb hts hown hK hZ hk hf (by decide) q104 rfl dX3_restAfter_17 ?_
    refine lv_i2f hx hb dX3_restAfter_20 ?_
    refine lv_fdiv hx hb dX3_restAfter_21 ((fk_divi (fk_i2f _) (by decide) (z_ne0 c_1)).n (by decide)) ?_
    refine lv_fsub hx hb dX3_restAfter_22 ((fk_sub fk_one (fk_divi (fk_i2f _) (by decide) (z_ne0 c_1)) (by decide)).n (by decide)) ?_
    refine lv_fstore_n (lv' := [(2, .float (FP.fsub FP.fconst1 (FP.fdiv (FP.i2f (s_X3_ageAfter f a)) (FP.i2f (f 2))))), (0, .ref (G.1 + n)), (1, .int a)]) hx hb dX3_restAfter_23 rfl hl (by decide) rfl (fun ls hl => ?_)
    refine lv_fload_n hx hb dX3_restAfter_24 rfl (lv_at hl 0 rfl) ?_
    refine lv_fconst0 hx hb dX3_restAfter_25 ?_
    refine lv_fcmp hx hb dX3_restAfter_26 ?_
    refine lv_if_ge (tgt := 34) hx hb dX3_restAfter_27 (by decide) (fun c_2 => ?_) (fun c_2 => ?_)
    · refine lv_fload_n hx hb dX3_restAfter_34 rfl (lv_at hl 0 rfl) ?_
      exact z_fret hx hb hr hlk hK hZ hS ⟨by rw [s_X3_restAfter, if_pos c_1, if_pos c_2], rfl⟩ dX3_restAfter_35
    · refine lv_fconst0 hx hb dX3_restAfter_30 ?_
      refine lv_goto (tgt := 35) hx hb dX3_restAfter_31 (by decide) ?_
      exact z_fret hx hb hr hlk hK hZ hS ⟨by rw [s_X3_restAfter, if_pos c_1, if_neg c_2], rfl⟩ dX3_restAfter_35
  · refine lv_fconst0 hx hb dX3_restAfter_7 ?_
    exact z_fret hx hb hr hlk hK hZ hS ⟨by rw [s_X3_restAfter, if_neg c_1], rfl⟩ dX3_restAfter_8
theorem fk_rest (f : Nat → Int32) (a : Int32) : fK 163 (s_X3_restAfter f a) := by
  unfold s_X3_restAfter
  by_cases h : (0 : Int32) < f 2
  · rw [if_pos h]
    have h1 := fk_sub fk_one (fk_divi (fk_i2f (s_X3_ageAfter f a)) (by decide) (z_ne0 h)) (by decide)
    split
    · exact h1
    · exact fk_zero.up (by decide)
  · rw [if_neg h]
    exact fk_zero.up (by decide)
def s_X3_damageAfter (f : Nat → Int32) (a : Int32) (b : Int32) : Int32 := (if ((s_X3_fairAfter f a) - b) < 0 then 0 else ((s_X3_fairAfter f a) - b))
theorem hdX3_damageAfter : yX3_damageAfter.cls = RX3 ∧ yX3_damageAfter.cls ≠ "java/lang/invoke/MethodHandle" ∧ yX3_damageAfter.cls ≠ "java/lang/invoke/VarHandle" ∧ (parseMethodDescriptor yX3_damageAfter.desc).map (fun d => d.parameters.length) = some 2 := by decide +kernel
set_option maxHeartbeats 4000000 in
set_option maxRecDepth 100000 in
theorem c_X3_damageAfter (l : Launch) (G : zG) (μ : zM) (n : Nat) (f : Nat → Int32) (hk : zk n = 6) (hf : μ n = f) (a : Int32) (b : Int32) : zMet l G yX3_damageAfter cX3_damageAfter 3 (some .int) 2 34 [.ref (G.1 + n), .int a, .int b] μ (zQi G (s_X3_damageAfter f a b) μ) := by
  refine z_start (lv := [(0, .ref (G.1 + n)), (1, .int a), (2, .int b)]) (by decide) (Nat.le_of_ble_eq_true rfl) rfl ?_
  intro p e s m args below meth c ls hx hb hml hr hlk hts hown hK hZ hS hl
  have hown : s.vm.findClass RX3 = some m.cls := hown
  refine lv_aload_n hx hb dX3_damageAfter_0 rfl (lv_at hl 0 rfl) ?_
  refine lv_iload_n hx hb dX3_damageAfter_1 rfl (lv_at hl 1 rfl) ?_
  refine z_cVi (As := [.int a]) (rest := []) hx hb hml hown hts hl hK hZ hS (c_X3_fairAfter l G μ n f hk hf a) (z_G q419 q401 q402 q5 q403) hdX3_fairAfter ⟨Nat.le_of_ble_eq_true rfl, Nat.le_of_ble_eq_true rfl⟩ hk (by decide) rfl rfl rfl rfl (Nat.le_of_ble_eq_true rfl) dX3_damageAfter_2 ⟨(Nat.zero_le _), (Nat.zero_le _)⟩ (fun H locs hZ hS => ?_)
  refine lv_iload_n hx hb dX3_damageAfter_5 rfl (lv_at hl 2 rfl) ?_
  refine lv_isub hx hb dX3_damageAfter_6 ?_
  refine lv_iconst (v := 0) hx hb dX3_damageAfter_7 (by decide) ?_
  refine va_mmax hx hb (hml.trans hl.1.symm) hown (hts _ q404) (hts _ q405) (hts _ q8) (hts _ q406) (Nat.le_of_ble_eq_true rfl) (Nat.le_of_ble_eq_true rfl) (Nat.zero_le _) (Nat.zero_le _) dX3_damageAfter_8 ?_
  exact z_iret hx hb hr hlk hK hZ hS ⟨by rw [s_X3_damageAfter], rfl⟩ dX3_damageAfter_11
def s_X3_dueAfter (f : Nat → Int32) (a : Int32) (b : Int32) : Int32 := (FP.f2i (FP.fmul (FP.fmul (FP.i2f (f 1)) (s_X3_restAfter f a)) (FP.fdiv (FP.i2f (s_X3_damageAfter f a b)) 1120403456)))
theorem hdX3_dueAfter : yX3_dueAfter.cls = RX3 ∧ yX3_dueAfter.cls ≠ "java/lang/invoke/MethodHandle" ∧ yX3_dueAfter.cls ≠ "java/lang/invoke/VarHandle" ∧ (parseMethodDescriptor yX3_dueAfter.desc).map (fun d => d.parameters.length) = some 2 := by decide +kernel
set_option maxHeartbeats 4000000 in
set_option maxRecDepth 100000 in
theorem c_X3_dueAfter (l : Launch) (G : zG) (μ : zM) (n : Nat) (f : Nat → Int32) (hk : zk n = 6) (hf : μ n = f) (a : Int32) (b : Int32) : zMet l G yX3_dueAfter cX3_dueAfter 4 (some .int) 3 56 [.ref (G.1 + n), .int a, .int b] μ (zQi G (s_X3_dueAfter f a b) μ) := by
  refine z_start (lv := [(0, .ref (G.1 + n)), (1, .int a), (2, .int b)]) (by decide) (Nat.le_of_ble_eq_true rfl) rfl ?_
  intro p e s m args below meth c ls hx hb hml hr hlk hts hown hK hZ hS hl
  have hown : s.vm.findClass RX3 = some m.cls := hown
  refine lv_aload_n hx hb dX3_dueAfter_0 rfl (lv_at hl 0 rfl) ?_
  refine lv_iload_n hx hb dX3_dueAfter_1 rfl (lv_at hl 1 rfl) ?_
  refine lv_iload_n hx hb dX3_dueAfter_2 rfl (lv_at hl 2 rfl) ?_
  refine z_cVi (As := [.int a, .int b]) (rest := []) hx hb hml hown hts hl hK hZ hS (c_X3_damageAfter l G μ n f hk hf a b) (z_G q494 q416 q417 q5 q418) hdX3_damageAfter ⟨Nat.le_of_ble_eq_true rfl, Nat.le_of_ble_eq_true rfl⟩ hk (by decide) rfl rfl rfl rfl (Nat.le_of_ble_eq_true rfl) dX3_dueAfter_3 ⟨(Nat.zero_le _), (Nat.zero_le _)⟩ (fun H locs hZ hS => ?_)
  refine lv_i2f hx hb dX3_dueAfter_6 ?_
  refine lv_ldcf hx hb hown (hts _ q495) dX3_dueAfter_7 ?_
  refine lv_fdiv hx hb dX3_dueAfter_9 ((fk_div (fk_i2f _) fk_100.1 fk_100.2 (by decide) (by decide)).n (by decide)) ?_
  refine lv_fstore_n (lv' := [(3, .float (FP.fdiv (FP.i2f (s_X3_damageAfter f a b)) 1120403456)), (0, .ref (G.1 + n)), (1, .int a), (2, .int b)]) hx hb dX3_dueAfter_10 rfl hl (by decide) rfl (fun ls hl => ?_)
  refine lv_aload_n hx hb dX3_dueAfter_11 rfl (lv_at hl 1 rfl) ?_
  refine z_g6 (f := f) (v := .int (f 1)) 1 hx hb hts hown hK hZ hk hf (by decide) q102 rfl dX3_dueAfter_12 ?_
  refine lv_i2f hx hb dX3_dueAfter_15 ?_
  refine lv_aload_n hx hb dX3_dueAfter_16 rfl (lv_at hl 1 rfl) ?_
  refine lv_iload_n hx hb dX3_dueAfter_17 rfl (lv_at hl 2 rfl) ?_
  refine z_cVf (As := [.int a]) (rest := [.float (FP.i2f (f 1))]) hx hb hml hown hts hl hK hZ hS (c_X3_restAfter l G μ n f hk hf a) (z_G q496 q497 q498 q5 q499) hdX3_restAfter ⟨Nat.le_of_ble_eq_true rfl, Nat.le_of_ble_eq_true rfl⟩ hk (by decide) rfl rfl rfl rfl (Nat.le_of_ble_eq_true rfl) dX3_dueAfter_18 ⟨(Nat.zero_le _), (Nat.zero_le _)⟩ (fun H locs hZ hS => ?_)
  refine lv_fmul hx hb dX3_dueAfter_21 ((fk_mul (fk_i2f _) (fk_rest _ _) (by decide) (by decide)).n (by decide)) ?_
  refine lv_fload_n hx hb dX3_dueAfter_22 rfl (lv_at hl 0 rfl) ?_
  refine lv_fmul hx hb dX3_dueAfter_23 ((fk_mul (fk_mul (fk_i2f _) (fk_rest _ _) (by decide) (by decide)) (fk_div (fk_i2f _) fk_100.1 fk_100.2 (by decide) (by decide)) (by decide) (by decide)).n (by decide)) ?_
  refine lv_f2i hx hb dX3_dueAfter_24 ?_
  exact z_iret hx hb hr hlk hK hZ hS ⟨by rw [s_X3_dueAfter], rfl⟩ dX3_dueAfter_25
def s_X3_landlordWeight (f : Nat → Int32)  : UInt32 := if ((f 9) + (f 10)) ≤ 0 then 1056964608
  else (FP.fdiv (FP.i2f (f 9)) (FP.i2f ((f 9) + (f 10))))
theorem hdX3_landlordWeight : yX3_landlordWeight.cls = RX3 ∧ yX3_landlordWeight.cls ≠ "java/lang/invoke/MethodHandle" ∧ yX3_landlordWeight.cls ≠ "java/lang/invoke/VarHandle" ∧ (parseMethodDescriptor yX3_landlordWeight.desc).map (fun d => d.parameters.length) = some 0 := by decide +kernel
set_option maxHeartbeats 4000000 in
set_option maxRecDepth 100000 in
theorem c_X3_landlordWeight (l : Launch) (G : zG) (μ : zM) (n : Nat) (f : Nat → Int32) (hk : zk n = 6) (hf : μ n = f)  : zMet l G yX3_landlordWeight cX3_landlordWeight 2 (some .float) 0 0 [.ref (G.1 + n)] μ (zQf G (s_X3_landlordWeight f) μ) := by
  refine z_start (lv := [(0, .ref (G.1 + n))]) (by decide) (Nat.le_of_ble_eq_true rfl) rfl ?_
  intro p e s m args below meth c ls hx hb hml hr hlk hts hown hK hZ hS hl
  have hown : s.vm.findClass RX3 = some m.cls := hown
  refine lv_aload_n hx hb dX3_landlordWeight_0 rfl (lv_at hl 0 rfl) ?_
  refine z_g6 (f := f) (v := .int (f 9)) 9 hx hb hts hown hK hZ hk hf (by decide) q119 rfl dX3_landlordWeight_1 ?_
  refine lv_aload_n hx hb dX3_landlordWeight_4 rfl (lv_at hl 0 rfl) ?_
  refine z_g6 (f := f) (v := .int (f 10)) 10 hx hb hts hown hK hZ hk hf (by decide) q121 rfl dX3_landlordWeight_5 ?_
  refine lv_iadd hx hb dX3_landlordWeight_8 ?_
  refine lv_istore_n (lv' := [(1, .int ((f 9) + (f 10))), (0, .ref (G.1 + n))]) hx hb dX3_landlordWeight_9 rfl hl (by decide) rfl (fun ls hl => ?_)
  refine lv_iload_n hx hb dX3_landlordWeight_10 rfl (lv_at hl 0 rfl) ?_
  refine lv_if_le (tgt := 25) hx hb dX3_landlordWeight_11 (by decide) (fun c_1 => ?_) (fun c_1 => ?_)
  · refine lv_ldcf hx hb hown (hts _ q353) dX3_landlordWeight_25 ?_
    exact z_fret hx hb hr hlk hK hZ hS ⟨by rw [s_X3_landlordWeight, if_pos c_1], rfl⟩ dX3_landlordWeight_27
  · refine lv_aload_n hx hb dX3_landlordWeight_14 rfl (lv_at hl 1 rfl) ?_
    refine z_g6 (f := f) (v := .int (f 9)) 9 hx hb hts hown hK hZ hk hf (by decide) q119 rfl dX3_landlordWeight_15 ?_
    refine lv_i2f hx hb dX3_landlordWeight_18 ?_
    refine lv_iload_n hx hb dX3_landlordWeight_19 rfl (lv_at hl 0 rfl) ?_
    refine lv_i2f hx hb dX3_landlordWeight_20 ?_
    refine lv_fdiv hx hb dX3_landlordWeight_21 ((fk_divi (fk_i2f _) (by decide) (z_ne1 c_1)).n (by decide)) ?_
    refine lv_goto (tgt := 27) hx hb dX3_landlordWeight_22 (by decide) ?_
    exact z_fret hx hb hr hlk hK hZ hS ⟨by rw [s_X3_landlordWeight, if_neg c_1], rfl⟩ dX3_landlordWeight_27
theorem fk_weight (f : Nat → Int32) : fK 161 (s_X3_landlordWeight f) := by
  unfold s_X3_landlordWeight
  split
  · exact fk_half
  · next h => exact fk_divi (fk_i2f _) (by decide) (z_ne1 h)
def s_X3_award (f : Nat → Int32)  : Int32 := if (f 8) = 2 then if (f 6) < (f 7) then ((f 6) + (FP.f2i (FP.fmul (FP.i2f ((f 7) - (f 6))) (s_X3_landlordWeight f))))
    else (f 7)
  else (f 7)
theorem hdX3_award : yX3_award.cls = RX3 ∧ yX3_award.cls ≠ "java/lang/invoke/MethodHandle" ∧ yX3_award.cls ≠ "java/lang/invoke/VarHandle" ∧ (parseMethodDescriptor yX3_award.desc).map (fun d => d.parameters.length) = some 0 := by decide +kernel
set_option maxHeartbeats 4000000 in
set_option maxRecDepth 100000 in
theorem c_X3_award (l : Launch) (G : zG) (μ : zM) (n : Nat) (f : Nat → Int32) (hk : zk n = 6) (hf : μ n = f)  : zMet l G yX3_award cX3_award 1 (some .int) 1 21 [.ref (G.1 + n)] μ (zQi G (s_X3_award f) μ) := by
  refine z_start (lv := [(0, .ref (G.1 + n))]) (by decide) (Nat.le_of_ble_eq_true rfl) rfl ?_
  intro p e s m args below meth c ls hx hb hml hr hlk hts hown hK hZ hS hl
  have hown : s.vm.findClass RX3 = some m.cls := hown
  refine lv_aload_n hx hb dX3_award_0 rfl (lv_at hl 0 rfl) ?_
  refine z_g6 (f := f) (v := .int (f 8)) 8 hx hb hts hown hK hZ hk hf (by decide) q116 rfl dX3_award_1 ?_
  refine lv_iconst (v := 2) hx hb dX3_award_4 (by decide) ?_
  refine lv_icmp_ne (tgt := 19) hx hb dX3_award_5 (by decide) (fun c_1 => ?_) (fun c_1 => ?_)
  · refine lv_aload_n hx hb dX3_award_19 rfl (lv_at hl 0 rfl) ?_
    refine z_g6 (f := f) (v := .int (f 7)) 7 hx hb hts hown hK hZ hk hf (by decide) q113 rfl dX3_award_20 ?_
    exact z_iret hx hb hr hlk hK hZ hS ⟨by rw [s_X3_award, if_neg c_1], rfl⟩ dX3_award_23
  · refine lv_aload_n hx hb dX3_award_8 rfl (lv_at hl 0 rfl) ?_
    refine z_g6 (f := f) (v := .int (f 7)) 7 hx hb hts hown hK hZ hk hf (by decide) q113 rfl dX3_award_9 ?_
    refine lv_aload_n hx hb dX3_award_12 rfl (lv_at hl 0 rfl) ?_
    refine z_g6 (f := f) (v := .int (f 6)) 6 hx hb hts hown hK hZ hk hf (by decide) q110 rfl dX3_award_13 ?_
    refine lv_icmp_gt (tgt := 24) hx hb dX3_award_16 (by decide) (fun c_2 => ?_) (fun c_2 => ?_)
    · refine lv_aload_n hx hb dX3_award_24 rfl (lv_at hl 0 rfl) ?_
      refine z_g6 (f := f) (v := .int (f 6)) 6 hx hb hts hown hK hZ hk hf (by decide) q110 rfl dX3_award_25 ?_
      refine lv_aload_n hx hb dX3_award_28 rfl (lv_at hl 0 rfl) ?_
      refine z_g6 (f := f) (v := .int (f 7)) 7 hx hb hts hown hK hZ hk hf (by decide) q113 rfl dX3_award_29 ?_
      refine lv_aload_n hx hb dX3_award_32 rfl (lv_at hl 0 rfl) ?_
      refine z_g6 (f := f) (v := .int (f 6)) 6 hx hb hts hown hK hZ hk hf (by decide) q110 rfl dX3_award_33 ?_
      refine lv_isub hx hb dX3_award_36 ?_
      refine lv_i2f hx hb dX3_award_37 ?_
      refine lv_aload_n hx hb dX3_award_38 rfl (lv_at hl 0 rfl) ?_
      refine z_cVf (As := []) (rest := [.float (FP.i2f ((f 7) - (f 6))), .int (f 6)]) hx hb hml hown hts hl hK hZ hS (c_X3_landlordWeight l G μ n f hk hf ) (z_G q349 q350 q351 q5 q352) hdX3_landlordWeight ⟨Nat.le_of_ble_eq_true rfl, Nat.le_of_ble_eq_true rfl⟩ hk (by decide) rfl rfl rfl rfl (Nat.le_of_ble_eq_true rfl) dX3_award_39 ⟨(Nat.zero_le _), (Nat.zero_le _)⟩ (fun H locs hZ hS => ?_)
      refine lv_fmul hx hb dX3_award_42 ((fk_mul (fk_i2f _) (fk_weight _) (by decide) (by decide)).n (by decide)) ?_
      refine lv_f2i hx hb dX3_award_43 ?_
      refine lv_iadd hx hb dX3_award_44 ?_
      exact z_iret hx hb hr hlk hK hZ hS ⟨by rw [s_X3_award, if_pos c_1, if_pos c_2], rfl⟩ dX3_award_45
    · refine lv_aload_n hx hb dX3_award_19 rfl (lv_at hl 0 rfl) ?_
      refine z_g6 (f := f) (v := .int (f 7)) 7 hx hb hts hown hK hZ hk hf (by decide) q113 rfl dX3_award_20 ?_
      exact z_iret hx hb hr hlk hK hZ hS ⟨by rw [s_X3_award, if_pos c_1, if_neg c_2], rfl⟩ dX3_award_23
def w_X3_tellEnd (f : Nat → Int32) (a : Int32) (b : Int32) : Nat → Int32 := (zu (zu f 5 b) 6 (s_X3_dueAfter (zu f 5 b) a b))
theorem hdX3_tellEnd : yX3_tellEnd.cls = RX3 ∧ yX3_tellEnd.cls ≠ "java/lang/invoke/MethodHandle" ∧ yX3_tellEnd.cls ≠ "java/lang/invoke/VarHandle" ∧ (parseMethodDescriptor yX3_tellEnd.desc).map (fun d => d.parameters.length) = some 2 := by decide +kernel
set_option maxHeartbeats 4000000 in
set_option maxRecDepth 100000 in
theorem c_X3_tellEnd (l : Launch) (G : zG) (μ : zM) (n : Nat) (f : Nat → Int32) (hk : zk n = 6) (hf : μ n = f) (a : Int32) (b : Int32) : zMet l G yX3_tellEnd cX3_tellEnd 3 none 4 79 [.ref (G.1 + n), .int a, .int b] μ (zQv G (zr μ n (w_X3_tellEnd f a b))) := by
  refine z_start (lv := [(0, .ref (G.1 + n)), (1, .int a), (2, .int b)]) (by decide) (Nat.le_of_ble_eq_true rfl) rfl ?_
  intro p e s m args below meth c ls hx hb hml hr hlk hts hown hK hZ hS hl
  have hown : s.vm.findClass RX3 = some m.cls := hown
  refine lv_aload_n hx hb dX3_tellEnd_0 rfl (lv_at hl 0 rfl) ?_
  refine lv_iload_n hx hb dX3_tellEnd_1 rfl (lv_at hl 2 rfl) ?_
  refine z_p6 (f := f) (μ1 := (zr μ n (zu f 5 b))) 5 hx hb hts hown hK hZ hS hk hf (by decide) q108 rfl pfd_I rfl rfl dX3_tellEnd_2 (fun H locs hZ hS => ?_)
  refine lv_aload_n hx hb dX3_tellEnd_5 rfl (lv_at hl 0 rfl) ?_
  refine lv_aload_n hx hb dX3_tellEnd_6 rfl (lv_at hl 0 rfl) ?_
  refine lv_iload_n hx hb dX3_tellEnd_7 rfl (lv_at hl 1 rfl) ?_
  refine lv_iload_n hx hb dX3_tellEnd_8 rfl (lv_at hl 2 rfl) ?_
  refine z_cVi (As := [.int a, .int b]) (rest := [.ref (G.1 + n)]) hx hb hml hown hts hl hK hZ hS (c_X3_dueAfter l G (zr μ n (zu f 5 b)) n (zu f 5 b) hk zr_same a b) (z_G q490 q491 q492 q5 q493) hdX3_dueAfter ⟨Nat.le_of_ble_eq_true rfl, Nat.le_of_ble_eq_true rfl⟩ hk (by decide) rfl rfl rfl rfl (Nat.le_of_ble_eq_true rfl) dX3_tellEnd_9 ⟨(Nat.zero_le _), (Nat.zero_le _)⟩ (fun H locs hZ hS => ?_)
  refine z_p6 (f := (zu f 5 b)) (μ1 := (zr μ n (zu (zu f 5 b) 6 (s_X3_dueAfter (zu f 5 b) a b)))) 6 hx hb hts hown hK hZ hS hk zr_same (by decide) q110 rfl pfd_I rfl zr_zr dX3_tellEnd_12 (fun H locs hZ hS => ?_)
  exact z_vret hx hb hr hlk hK hZ hS (by rw [w_X3_tellEnd]) dX3_tellEnd_15
theorem hdX3_copyFrom : yX3_copyFrom.cls = RX3 ∧ yX3_copyFrom.cls ≠ "java/lang/invoke/MethodHandle" ∧ yX3_copyFrom.cls ≠ "java/lang/invoke/VarHandle" ∧ (parseMethodDescriptor yX3_copyFrom.desc).map (fun d => d.parameters.length) = some 1 := by decide +kernel
set_option maxHeartbeats 4000000 in
set_option maxRecDepth 100000 in
theorem c_X3_copyFrom (l : Launch) (G : zG) (μ : zM) (n : Nat) (f : Nat → Int32) (hk : zk n = 6) (hf : μ n = f) (o2 : Nat) (f2 : Nat → Int32) (hkm : zk o2 = 6) (hfm : μ o2 = f2) (hne : o2 ≠ n) : zMet l G yX3_copyFrom cX3_copyFrom 2 none 0 0 [.ref (G.1 + n), .ref (G.1 + o2)] μ (zQv G (zr μ n f2)) := by
  refine z_start (lv := [(0, .ref (G.1 + n)), (1, .ref (G.1 + o2))]) (by decide) (Nat.le_of_ble_eq_true rfl) rfl ?_
  intro p e s m args below meth c ls hx hb hml hr hlk hts hown hK hZ hS hl
  have hown : s.vm.findClass RX3 = some m.cls := hown
  refine lv_aload_n hx hb dX3_copyFrom_0 rfl (lv_at hl 0 rfl) ?_
  refine lv_aload_n hx hb dX3_copyFrom_1 rfl (lv_at hl 1 rfl) ?_
  refine z_g6 (f := f2) (v := .int (f2 0)) 0 hx hb hts hown hK hZ hkm hfm (by decide) q99 rfl dX3_copyFrom_2 ?_
  refine z_p6 (f := f) (μ1 := (zr μ n (zu f 0 (f2 0)))) 0 hx hb hts hown hK hZ hS hk hf (by decide) q99 rfl pfd_I rfl rfl dX3_copyFrom_5 (fun H locs hZ hS => ?_)
  refine lv_aload_n hx hb dX3_copyFrom_8 rfl (lv_at hl 0 rfl) ?_
  refine lv_aload_n hx hb dX3_copyFrom_9 rfl (lv_at hl 1 rfl) ?_
  refine z_g6 (f := f2) (v := .int (f2 1)) 1 hx hb hts hown hK hZ hkm (zr_at hfm hne) (by decide) q102 rfl dX3_copyFrom_10 ?_
  refine z_p6 (f := (zu f 0 (f2 0))) (μ1 := (zr μ n (zu (zu f 0 (f2 0)) 1 (f2 1)))) 1 hx hb hts hown hK hZ hS hk zr_same (by decide) q102 rfl pfd_I rfl zr_zr dX3_copyFrom_13 (fun H locs hZ hS => ?_)
  refine lv_aload_n hx hb dX3_copyFrom_16 rfl (lv_at hl 0 rfl) ?_
  refine lv_aload_n hx hb dX3_copyFrom_17 rfl (lv_at hl 1 rfl) ?_
  refine z_g6 (f := f2) (v := .int (f2 2)) 2 hx hb hts hown hK hZ hkm (zr_at hfm hne) (by decide) q104 rfl dX3_copyFrom_18 ?_
  refine z_p6 (f := (zu (zu f 0 (f2 0)) 1 (f2 1))) (μ1 := (zr μ n (zu (zu (zu f 0 (f2 0)) 1 (f2 1)) 2 (f2 2)))) 2 hx hb hts hown hK hZ hS hk zr_same (by decide) q104 rfl pfd_I rfl zr_zr dX3_copyFrom_21 (fun H locs hZ hS => ?_)
  refine lv_aload_n hx hb dX3_copyFrom_24 rfl (lv_at hl 0 rfl) ?_
  refine lv_aload_n hx hb dX3_copyFrom_25 rfl (lv_at hl 1 rfl) ?_
  refine z_g6 (f := f2) (v := .int (f2 3)) 3 hx hb hts hown hK hZ hkm (zr_at hfm hne) (by decide) q105 rfl dX3_copyFrom_26 ?_
  refine z_p6 (f := (zu (zu (zu f 0 (f2 0)) 1 (f2 1)) 2 (f2 2))) (μ1 := (zr μ n (zu (zu (zu (zu f 0 (f2 0)) 1 (f2 1)) 2 (f2 2)) 3 (f2 3)))) 3 hx hb hts hown hK hZ hS hk zr_same (by decide) q105 rfl pfd_I rfl zr_zr dX3_copyFrom_29 (fun H locs hZ hS => ?_)
  refine lv_aload_n hx hb dX3_copyFrom_32 rfl (lv_at hl 0 rfl) ?_
  refine lv_aload_n hx hb dX3_copyFrom_33 rfl (lv_at hl 1 rfl) ?_
  refine z_g6 (f := f2) (v := .int (f2 4)) 4 hx hb hts hown hK hZ hkm (zr_at hfm hne) (by decide) q106 rfl dX3_copyFrom_34 ?_
  refine z_p6 (f := (zu (zu (zu (zu f 0 (f2 0)) 1 (f2 1)) 2 (f2 2)) 3 (f2 3))) (μ1 := (zr μ n (zu (zu (zu (zu (zu f 0 (f2 0)) 1 (f2 1)) 2 (f2 2)) 3 (f2 3)) 4 (f2 4)))) 4 hx hb hts hown hK hZ hS hk zr_same (by decide) q106 rfl pfd_I rfl zr_zr dX3_copyFrom_37 (fun H locs hZ hS => ?_)
  refine lv_aload_n hx hb dX3_copyFrom_40 rfl (lv_at hl 0 rfl) ?_
  refine lv_aload_n hx hb dX3_copyFrom_41 rfl (lv_at hl 1 rfl) ?_
  refine z_g6 (f := f2) (v := .int (f2 5)) 5 hx hb hts hown hK hZ hkm (zr_at hfm hne) (by decide) q108 rfl dX3_copyFrom_42 ?_
  refine z_p6 (f := (zu (zu (zu (zu (zu f 0 (f2 0)) 1 (f2 1)) 2 (f2 2)) 3 (f2 3)) 4 (f2 4))) (μ1 := (zr μ n (zu (zu (zu (zu (zu (zu f 0 (f2 0)) 1 (f2 1)) 2 (f2 2)) 3 (f2 3)) 4 (f2 4)) 5 (f2 5)))) 5 hx hb hts hown hK hZ hS hk zr_same (by decide) q108 rfl pfd_I rfl zr_zr dX3_copyFrom_45 (fun H locs hZ hS => ?_)
  refine lv_aload_n hx hb dX3_copyFrom_48 rfl (lv_at hl 0 rfl) ?_
  refine lv_aload_n hx hb dX3_copyFrom_49 rfl (lv_at hl 1 rfl) ?_
  refine z_g6 (f := f2) (v := .int (f2 6)) 6 hx hb hts hown hK hZ hkm (zr_at hfm hne) (by decide) q110 rfl dX3_copyFrom_50 ?_
  refine z_p6 (f := (zu (zu (zu (zu (zu (zu f 0 (f2 0)) 1 (f2 1)) 2 (f2 2)) 3 (f2 3)) 4 (f2 4)) 5 (f2 5))) (μ1 := (zr μ n (zu (zu (zu (zu (zu (zu (zu f 0 (f2 0)) 1 (f2 1)) 2 (f2 2)) 3 (f2 3)) 4 (f2 4)) 5 (f2 5)) 6 (f2 6)))) 6 hx hb hts hown hK hZ hS hk zr_same (by decide) q110 rfl pfd_I rfl zr_zr dX3_copyFrom_53 (fun H locs hZ hS => ?_)
  refine lv_aload_n hx hb dX3_copyFrom_56 rfl (lv_at hl 0 rfl) ?_
  refine lv_aload_n hx hb dX3_copyFrom_57 rfl (lv_at hl 1 rfl) ?_
  refine z_g6 (f := f2) (v := .int (f2 7)) 7 hx hb hts hown hK hZ hkm (zr_at hfm hne) (by decide) q113 rfl dX3_copyFrom_58 ?_
  refine z_p6 (f := (zu (zu (zu (zu (zu (zu (zu f 0 (f2 0)) 1 (f2 1)) 2 (f2 2)) 3 (f2 3)) 4 (f2 4)) 5 (f2 5)) 6 (f2 6))) (μ1 := (zr μ n (zu (zu (zu (zu (zu (zu (zu (zu f 0 (f2 0)) 1 (f2 1)) 2 (f2 2)) 3 (f2 3)) 4 (f2 4)) 5 (f2 5)) 6 (f2 6)) 7 (f2 7)))) 7 hx hb hts hown hK hZ hS hk zr_same (by decide) q113 rfl pfd_I rfl zr_zr dX3_copyFrom_61 (fun H locs hZ hS => ?_)
  refine lv_aload_n hx hb dX3_copyFrom_64 rfl (lv_at hl 0 rfl) ?_
  refine lv_aload_n hx hb dX3_copyFrom_65 rfl (lv_at hl 1 rfl) ?_
  refine z_g6 (f := f2) (v := .int (f2 8)) 8 hx hb hts hown hK hZ hkm (zr_at hfm hne) (by decide) q116 rfl dX3_copyFrom_66 ?_
  refine z_p6 (f := (zu (zu (zu (zu (zu (zu (zu (zu f 0 (f2 0)) 1 (f2 1)) 2 (f2 2)) 3 (f2 3)) 4 (f2 4)) 5 (f2 5)) 6 (f2 6)) 7 (f2 7))) (μ1 := (zr μ n (zu (zu (zu (zu (zu (zu (zu (zu (zu f 0 (f2 0)) 1 (f2 1)) 2 (f2 2)) 3 (f2 3)) 4 (f2 4)) 5 (f2 5)) 6 (f2 6)) 7 (f2 7)) 8 (f2 8)))) 8 hx hb hts hown hK hZ hS hk zr_same (by decide) q116 rfl pfd_I rfl zr_zr dX3_copyFrom_69 (fun H locs hZ hS => ?_)
  refine lv_aload_n hx hb dX3_copyFrom_72 rfl (lv_at hl 0 rfl) ?_
  refine lv_aload_n hx hb dX3_copyFrom_73 rfl (lv_at hl 1 rfl) ?_
  refine z_g6 (f := f2) (v := .int (f2 9)) 9 hx hb hts hown hK hZ hkm (zr_at hfm hne) (by decide) q119 rfl dX3_copyFrom_74 ?_
  refine z_p6 (f := (zu (zu (zu (zu (zu (zu (zu (zu (zu f 0 (f2 0)) 1 (f2 1)) 2 (f2 2)) 3 (f2 3)) 4 (f2 4)) 5 (f2 5)) 6 (f2 6)) 7 (f2 7)) 8 (f2 8))) (μ1 := (zr μ n (zu (zu (zu (zu (zu (zu (zu (zu (zu (zu f 0 (f2 0)) 1 (f2 1)) 2 (f2 2)) 3 (f2 3)) 4 (f2 4)) 5 (f2 5)) 6 (f2 6)) 7 (f2 7)) 8 (f2 8)) 9 (f2 9)))) 9 hx hb hts hown hK hZ hS hk zr_same (by decide) q119 rfl pfd_I rfl zr_zr dX3_copyFrom_77 (fun H locs hZ hS => ?_)
  refine lv_aload_n hx hb dX3_copyFrom_80 rfl (lv_at hl 0 rfl) ?_
  refine lv_aload_n hx hb dX3_copyFrom_81 rfl (lv_at hl 1 rfl) ?_
  refine z_g6 (f := f2) (v := .int (f2 10)) 10 hx hb hts hown hK hZ hkm (zr_at hfm hne) (by decide) q121 rfl dX3_copyFrom_82 ?_
  refine z_p6 (f := (zu (zu (zu (zu (zu (zu (zu (zu (zu (zu f 0 (f2 0)) 1 (f2 1)) 2 (f2 2)) 3 (f2 3)) 4 (f2 4)) 5 (f2 5)) 6 (f2 6)) 7 (f2 7)) 8 (f2 8)) 9 (f2 9))) (μ1 := (zr μ n (zu (zu (zu (zu (zu (zu (zu (zu (zu (zu (zu f 0 (f2 0)) 1 (f2 1)) 2 (f2 2)) 3 (f2 3)) 4 (f2 4)) 5 (f2 5)) 6 (f2 6)) 7 (f2 7)) 8 (f2 8)) 9 (f2 9)) 10 (f2 10)))) 10 hx hb hts hown hK hZ hS hk zr_same (by decide) q121 rfl pfd_I rfl zr_zr dX3_copyFrom_85 (fun H locs hZ hS => ?_)
  exact z_vret hx hb hr hlk hK (hZ.re (g := f2) hk (zE6_eq rfl)) hS rfl dX3_copyFrom_88
theorem hdX4_copyFrom : yX4_copyFrom.cls = RX4 ∧ yX4_copyFrom.cls ≠ "java/lang/invoke/MethodHandle" ∧ yX4_copyFrom.cls ≠ "java/lang/invoke/VarHandle" ∧ (parseMethodDescriptor yX4_copyFrom.desc).map (fun d => d.parameters.length) = some 1 := by decide +kernel
set_option maxHeartbeats 4000000 in
set_option maxRecDepth 100000 in
theorem c_X4_copyFrom (l : Launch) (G : zG) (μ : zM) (n : Nat) (f : Nat → Int32) (hk : zk n = 5) (hf : μ n = f) (o2 : Nat) (f2 : Nat → Int32) (hkm : zk o2 = 5) (hfm : μ o2 = f2) (hne : o2 ≠ n) : zMet l G yX4_copyFrom cX4_copyFrom 2 none 0 0 [.ref (G.1 + n), .ref (G.1 + o2)] μ (zQv G (zr μ n f2)) := by
  refine z_start (lv := [(0, .ref (G.1 + n)), (1, .ref (G.1 + o2))]) (by decide) (Nat.le_of_ble_eq_true rfl) rfl ?_
  intro p e s m args below meth c ls hx hb hml hr hlk hts hown hK hZ hS hl
  have hown : s.vm.findClass RX4 = some m.cls := hown
  refine lv_aload_n hx hb dX4_copyFrom_0 rfl (lv_at hl 0 rfl) ?_
  refine lv_aload_n hx hb dX4_copyFrom_1 rfl (lv_at hl 1 rfl) ?_
  refine z_g5 (f := f2) (v := .int (f2 0)) 0 hx hb hts hown hK hZ hkm hfm (by decide) q39 rfl dX4_copyFrom_2 ?_
  refine z_p5 (f := f) (μ1 := (zr μ n (zu f 0 (f2 0)))) 0 hx hb hts hown hK hZ hS hk hf (by decide) q39 rfl pfd_I rfl rfl dX4_copyFrom_5 (fun H locs hZ hS => ?_)
  refine lv_aload_n hx hb dX4_copyFrom_8 rfl (lv_at hl 0 rfl) ?_
  refine lv_aload_n hx hb dX4_copyFrom_9 rfl (lv_at hl 1 rfl) ?_
  refine z_g5 (f := f2) (v := .int (f2 1)) 1 hx hb hts hown hK hZ hkm (zr_at hfm hne) (by decide) q40 rfl dX4_copyFrom_10 ?_
  refine z_p5 (f := (zu f 0 (f2 0))) (μ1 := (zr μ n (zu (zu f 0 (f2 0)) 1 (f2 1)))) 1 hx hb hts hown hK hZ hS hk zr_same (by decide) q40 rfl pfd_I rfl zr_zr dX4_copyFrom_13 (fun H locs hZ hS => ?_)
  refine lv_aload_n hx hb dX4_copyFrom_16 rfl (lv_at hl 0 rfl) ?_
  refine lv_aload_n hx hb dX4_copyFrom_17 rfl (lv_at hl 1 rfl) ?_
  refine z_g5 (f := f2) (v := .int (f2 2)) 2 hx hb hts hown hK hZ hkm (zr_at hfm hne) (by decide) q42 rfl dX4_copyFrom_18 ?_
  refine z_p5 (f := (zu (zu f 0 (f2 0)) 1 (f2 1))) (μ1 := (zr μ n (zu (zu (zu f 0 (f2 0)) 1 (f2 1)) 2 (f2 2)))) 2 hx hb hts hown hK hZ hS hk zr_same (by decide) q42 rfl pfd_I rfl zr_zr dX4_copyFrom_21 (fun H locs hZ hS => ?_)
  refine lv_aload_n hx hb dX4_copyFrom_24 rfl (lv_at hl 0 rfl) ?_
  refine lv_aload_n hx hb dX4_copyFrom_25 rfl (lv_at hl 1 rfl) ?_
  refine z_g5 (f := f2) (v := .int (f2 3)) 3 hx hb hts hown hK hZ hkm (zr_at hfm hne) (by decide) q43 rfl dX4_copyFrom_26 ?_
  refine z_p5 (f := (zu (zu (zu f 0 (f2 0)) 1 (f2 1)) 2 (f2 2))) (μ1 := (zr μ n (zu (zu (zu (zu f 0 (f2 0)) 1 (f2 1)) 2 (f2 2)) 3 (f2 3)))) 3 hx hb hts hown hK hZ hS hk zr_same (by decide) q43 rfl pfd_I rfl zr_zr dX4_copyFrom_29 (fun H locs hZ hS => ?_)
  refine lv_aload_n hx hb dX4_copyFrom_32 rfl (lv_at hl 0 rfl) ?_
  refine lv_aload_n hx hb dX4_copyFrom_33 rfl (lv_at hl 1 rfl) ?_
  refine z_g5 (f := f2) (v := .int (f2 4)) 4 hx hb hts hown hK hZ hkm (zr_at hfm hne) (by decide) q44 rfl dX4_copyFrom_34 ?_
  refine z_p5 (f := (zu (zu (zu (zu f 0 (f2 0)) 1 (f2 1)) 2 (f2 2)) 3 (f2 3))) (μ1 := (zr μ n (zu (zu (zu (zu (zu f 0 (f2 0)) 1 (f2 1)) 2 (f2 2)) 3 (f2 3)) 4 (f2 4)))) 4 hx hb hts hown hK hZ hS hk zr_same (by decide) q44 rfl pfd_I rfl zr_zr dX4_copyFrom_37 (fun H locs hZ hS => ?_)
  refine lv_aload_n hx hb dX4_copyFrom_40 rfl (lv_at hl 0 rfl) ?_
  refine lv_aload_n hx hb dX4_copyFrom_41 rfl (lv_at hl 1 rfl) ?_
  refine z_g5 (f := f2) (v := .int (f2 5)) 5 hx hb hts hown hK hZ hkm (zr_at hfm hne) (by decide) q45 rfl dX4_copyFrom_42 ?_
  refine z_p5 (f := (zu (zu (zu (zu (zu f 0 (f2 0)) 1 (f2 1)) 2 (f2 2)) 3 (f2 3)) 4 (f2 4))) (μ1 := (zr μ n (zu (zu (zu (zu (zu (zu f 0 (f2 0)) 1 (f2 1)) 2 (f2 2)) 3 (f2 3)) 4 (f2 4)) 5 (f2 5)))) 5 hx hb hts hown hK hZ hS hk zr_same (by decide) q45 rfl pfd_I rfl zr_zr dX4_copyFrom_45 (fun H locs hZ hS => ?_)
  exact z_vret hx hb hr hlk hK (hZ.re (g := f2) hk (zE5_eq rfl)) hS rfl dX4_copyFrom_48
def w_X3_start (a b x y z : Int32) : Nat → Int32 := fun k => match k with
  | 0 => a
  | 1 => b
  | 2 => x
  | 3 => y
  | 4 => z
  | _ => 0
theorem hdX3_start : yX3_start.cls = RX3 ∧ yX3_start.cls ≠ "java/lang/invoke/MethodHandle" ∧ yX3_start.cls ≠ "java/lang/invoke/VarHandle" ∧ (parseMethodDescriptor yX3_start.desc).map (fun d => d.parameters.length) = some 5 := by decide +kernel
set_option maxHeartbeats 4000000 in
set_option maxRecDepth 100000 in
theorem c_X3_start (l : Launch) (G : zG) (μ : zM) (n : Nat) (f : Nat → Int32) (hk : zk n = 6) (hf : μ n = f) (a b x y z : Int32) : zMet l G yX3_start cX3_start 6 none 0 0 [.ref (G.1 + n), .int a, .int b, .int x, .int y, .int z] μ (zQv G (zr μ n (w_X3_start a b x y z))) := by
  refine z_start (lv := [(0, .ref (G.1 + n)), (1, .int a), (2, .int b), (3, .int x), (4, .int y), (5, .int z)]) (by decide) (Nat.le_of_ble_eq_true rfl) rfl ?_
  intro p e s m args below meth c ls hx hb hml hr hlk hts hown hK hZ hS hl
  have hown : s.vm.findClass RX3 = some m.cls := hown
  refine lv_aload_n hx hb dX3_start_0 rfl (lv_at hl 0 rfl) ?_
  refine lv_iload_n hx hb dX3_start_1 rfl (lv_at hl 1 rfl) ?_
  refine z_p6 (f := f) (μ1 := (zr μ n (zu f 0 a))) 0 hx hb hts hown hK hZ hS hk hf (by decide) q99 rfl pfd_I rfl rfl dX3_start_2 (fun H locs hZ hS => ?_)
  refine lv_aload_n hx hb dX3_start_5 rfl (lv_at hl 0 rfl) ?_
  refine lv_iload_n hx hb dX3_start_6 rfl (lv_at hl 2 rfl) ?_
  refine z_p6 (f := (zu f 0 a)) (μ1 := (zr μ n (zu (zu f 0 a) 1 b))) 1 hx hb hts hown hK hZ hS hk zr_same (by decide) q102 rfl pfd_I rfl zr_zr dX3_start_7 (fun H locs hZ hS => ?_)
  refine lv_aload_n hx hb dX3_start_10 rfl (lv_at hl 0 rfl) ?_
  refine lv_iload_n hx hb dX3_start_11 rfl (lv_at hl 3 rfl) ?_
  refine z_p6 (f := (zu (zu f 0 a) 1 b)) (μ1 := (zr μ n (zu (zu (zu f 0 a) 1 b) 2 x))) 2 hx hb hts hown hK hZ hS hk zr_same (by decide) q104 rfl pfd_I rfl zr_zr dX3_start_12 (fun H locs hZ hS => ?_)
  refine lv_aload_n hx hb dX3_start_15 rfl (lv_at hl 0 rfl) ?_
  refine lv_iload hx hb dX3_start_16 (lv_at hl 4 rfl) ?_
  refine z_p6 (f := (zu (zu (zu f 0 a) 1 b) 2 x)) (μ1 := (zr μ n (zu (zu (zu (zu f 0 a) 1 b) 2 x) 3 y))) 3 hx hb hts hown hK hZ hS hk zr_same (by decide) q105 rfl pfd_I rfl zr_zr dX3_start_18 (fun H locs hZ hS => ?_)
  refine lv_aload_n hx hb dX3_start_21 rfl (lv_at hl 0 rfl) ?_
  refine lv_iload hx hb dX3_start_22 (lv_at hl 5 rfl) ?_
  refine z_p6 (f := (zu (zu (zu (zu f 0 a) 1 b) 2 x) 3 y)) (μ1 := (zr μ n (zu (zu (zu (zu (zu f 0 a) 1 b) 2 x) 3 y) 4 z))) 4 hx hb hts hown hK hZ hS hk zr_same (by decide) q106 rfl pfd_I rfl zr_zr dX3_start_24 (fun H locs hZ hS => ?_)
  refine lv_aload_n hx hb dX3_start_27 rfl (lv_at hl 0 rfl) ?_
  refine lv_iconst (v := 0) hx hb dX3_start_28 (by decide) ?_
  refine z_p6 (f := (zu (zu (zu (zu (zu f 0 a) 1 b) 2 x) 3 y) 4 z)) (μ1 := (zr μ n (zu (zu (zu (zu (zu (zu f 0 a) 1 b) 2 x) 3 y) 4 z) 5 0))) 5 hx hb hts hown hK hZ hS hk zr_same (by decide) q108 rfl pfd_I rfl zr_zr dX3_start_29 (fun H locs hZ hS => ?_)
  refine lv_aload_n hx hb dX3_start_32 rfl (lv_at hl 0 rfl) ?_
  refine lv_iconst (v := 0) hx hb dX3_start_33 (by decide) ?_
  refine z_p6 (f := (zu (zu (zu (zu (zu (zu f 0 a) 1 b) 2 x) 3 y) 4 z) 5 0)) (μ1 := (zr μ n (zu (zu (zu (zu (zu (zu (zu f 0 a) 1 b) 2 x) 3 y) 4 z) 5 0) 6 0))) 6 hx hb hts hown hK hZ hS hk zr_same (by decide) q110 rfl pfd_I rfl zr_zr dX3_start_34 (fun H locs hZ hS => ?_)
  refine lv_aload_n hx hb dX3_start_37 rfl (lv_at hl 0 rfl) ?_
  refine lv_iconst (v := 0) hx hb dX3_start_38 (by decide) ?_
  refine z_p6 (f := (zu (zu (zu (zu (zu (zu (zu f 0 a) 1 b) 2 x) 3 y) 4 z) 5 0) 6 0)) (μ1 := (zr μ n (zu (zu (zu (zu (zu (zu (zu (zu f 0 a) 1 b) 2 x) 3 y) 4 z) 5 0) 6 0) 7 0))) 7 hx hb hts hown hK hZ hS hk zr_same (by decide) q113 rfl pfd_I rfl zr_zr dX3_start_39 (fun H locs hZ hS => ?_)
  refine lv_aload_n hx hb dX3_start_42 rfl (lv_at hl 0 rfl) ?_
  refine lv_iconst (v := 0) hx hb dX3_start_43 (by decide) ?_
  refine z_p6 (f := (zu (zu (zu (zu (zu (zu (zu (zu f 0 a) 1 b) 2 x) 3 y) 4 z) 5 0) 6 0) 7 0)) (μ1 := (zr μ n (zu (zu (zu (zu (zu (zu (zu (zu (zu f 0 a) 1 b) 2 x) 3 y) 4 z) 5 0) 6 0) 7 0) 8 0))) 8 hx hb hts hown hK hZ hS hk zr_same (by decide) q116 rfl pfd_I rfl zr_zr dX3_start_44 (fun H locs hZ hS => ?_)
  refine lv_aload_n hx hb dX3_start_47 rfl (lv_at hl 0 rfl) ?_
  refine lv_iconst (v := 0) hx hb dX3_start_48 (by decide) ?_
  refine z_p6 (f := (zu (zu (zu (zu (zu (zu (zu (zu (zu f 0 a) 1 b) 2 x) 3 y) 4 z) 5 0) 6 0) 7 0) 8 0)) (μ1 := (zr μ n (zu (zu (zu (zu (zu (zu (zu (zu (zu (zu f 0 a) 1 b) 2 x) 3 y) 4 z) 5 0) 6 0) 7 0) 8 0) 9 0))) 9 hx hb hts hown hK hZ hS hk zr_same (by decide) q119 rfl pfd_I rfl zr_zr dX3_start_49 (fun H locs hZ hS => ?_)
  refine lv_aload_n hx hb dX3_start_52 rfl (lv_at hl 0 rfl) ?_
  refine lv_iconst (v := 0) hx hb dX3_start_53 (by decide) ?_
  refine z_p6 (f := (zu (zu (zu (zu (zu (zu (zu (zu (zu (zu f 0 a) 1 b) 2 x) 3 y) 4 z) 5 0) 6 0) 7 0) 8 0) 9 0)) (μ1 := (zr μ n (zu (zu (zu (zu (zu (zu (zu (zu (zu (zu (zu f 0 a) 1 b) 2 x) 3 y) 4 z) 5 0) 6 0) 7 0) 8 0) 9 0) 10 0))) 10 hx hb hts hown hK hZ hS hk zr_same (by decide) q121 rfl pfd_I rfl zr_zr dX3_start_54 (fun H locs hZ hS => ?_)
  exact z_vret hx hb hr hlk hK (hZ.re (g := (w_X3_start a b x y z)) hk (zE6_eq rfl)) hS rfl dX3_start_57
def w_X4_start (a : Int32) : Nat → Int32 := fun k => match k with
  | 0 => a
  | 1 => a
  | _ => 0
theorem hdX4_start : yX4_start.cls = RX4 ∧ yX4_start.cls ≠ "java/lang/invoke/MethodHandle" ∧ yX4_start.cls ≠ "java/lang/invoke/VarHandle" ∧ (parseMethodDescriptor yX4_start.desc).map (fun d => d.parameters.length) = some 1 := by decide +kernel
set_option maxHeartbeats 4000000 in
set_option maxRecDepth 100000 in
theorem c_X4_start (l : Launch) (G : zG) (μ : zM) (n : Nat) (f : Nat → Int32) (hk : zk n = 5) (hf : μ n = f) (a : Int32) : zMet l G yX4_start cX4_start 2 none 0 0 [.ref (G.1 + n), .int a] μ (zQv G (zr μ n (w_X4_start a))) := by
  refine z_start (lv := [(0, .ref (G.1 + n)), (1, .int a)]) (by decide) (Nat.le_of_ble_eq_true rfl) rfl ?_
  intro p e s m args below meth c ls hx hb hml hr hlk hts hown hK hZ hS hl
  have hown : s.vm.findClass RX4 = some m.cls := hown
  refine lv_aload_n hx hb dX4_start_0 rfl (lv_at hl 0 rfl) ?_
  refine lv_iload_n hx hb dX4_start_1 rfl (lv_at hl 1 rfl) ?_
  refine z_p5 (f := f) (μ1 := (zr μ n (zu f 0 a))) 0 hx hb hts hown hK hZ hS hk hf (by decide) q39 rfl pfd_I rfl rfl dX4_start_2 (fun H locs hZ hS => ?_)
  refine lv_aload_n hx hb dX4_start_5 rfl (lv_at hl 0 rfl) ?_
  refine lv_iload_n hx hb dX4_start_6 rfl (lv_at hl 1 rfl) ?_
  refine z_p5 (f := (zu f 0 a)) (μ1 := (zr μ n (zu (zu f 0 a) 1 a))) 1 hx hb hts hown hK hZ hS hk zr_same (by decide) q40 rfl pfd_I rfl zr_zr dX4_start_7 (fun H locs hZ hS => ?_)
  refine lv_aload_n hx hb dX4_start_10 rfl (lv_at hl 0 rfl) ?_
  refine lv_iconst (v := 0) hx hb dX4_start_11 (by decide) ?_
  refine z_p5 (f := (zu (zu f 0 a) 1 a)) (μ1 := (zr μ n (zu (zu (zu f 0 a) 1 a) 2 0))) 2 hx hb hts hown hK hZ hS hk zr_same (by decide) q42 rfl pfd_I rfl zr_zr dX4_start_12 (fun H locs hZ hS => ?_)
  refine lv_aload_n hx hb dX4_start_15 rfl (lv_at hl 0 rfl) ?_
  refine lv_iconst (v := 0) hx hb dX4_start_16 (by decide) ?_
  refine z_p5 (f := (zu (zu (zu f 0 a) 1 a) 2 0)) (μ1 := (zr μ n (zu (zu (zu (zu f 0 a) 1 a) 2 0) 3 0))) 3 hx hb hts hown hK hZ hS hk zr_same (by decide) q43 rfl pfd_I rfl zr_zr dX4_start_17 (fun H locs hZ hS => ?_)
  refine lv_aload_n hx hb dX4_start_20 rfl (lv_at hl 0 rfl) ?_
  refine lv_iconst (v := 0) hx hb dX4_start_21 (by decide) ?_
  refine z_p5 (f := (zu (zu (zu (zu f 0 a) 1 a) 2 0) 3 0)) (μ1 := (zr μ n (zu (zu (zu (zu (zu f 0 a) 1 a) 2 0) 3 0) 4 0))) 4 hx hb hts hown hK hZ hS hk zr_same (by decide) q44 rfl pfd_I rfl zr_zr dX4_start_22 (fun H locs hZ hS => ?_)
  refine lv_aload_n hx hb dX4_start_25 rfl (lv_at hl 0 rfl) ?_
  refine lv_iconst (v := 0) hx hb dX4_start_26 (by decide) ?_
  refine z_p5 (f := (zu (zu (zu (zu (zu f 0 a) 1 a) 2 0) 3 0) 4 0)) (μ1 := (zr μ n (zu (zu (zu (zu (zu (zu f 0 a) 1 a) 2 0) 3 0) 4 0) 5 0))) 5 hx hb hts hown hK hZ hS hk zr_same (by decide) q45 rfl pfd_I rfl zr_zr dX4_start_27 (fun H locs hZ hS => ?_)
  exact z_vret hx hb hr hlk hK (hZ.re (g := (w_X4_start a)) hk (zE5_eq rfl)) hS rfl dX4_start_30
def s_X4_take (f : Nat → Int32) (a : Int32) : Int32 := (if (f 1) < a then (f 1) else a)
def w_X4_take (f : Nat → Int32) (a : Int32) : Nat → Int32 := (zu (zu f 1 ((f 1) - (if (f 1) < a then (f 1) else a))) 5 ((f 5) + (a - (if (f 1) < a then (f 1) else a))))
theorem hdX4_take : yX4_take.cls = RX4 ∧ yX4_take.cls ≠ "java/lang/invoke/MethodHandle" ∧ yX4_take.cls ≠ "java/lang/invoke/VarHandle" ∧ (parseMethodDescriptor yX4_take.desc).map (fun d => d.parameters.length) = some 1 := by decide +kernel
set_option maxHeartbeats 4000000 in
set_option maxRecDepth 100000 in
theorem c_X4_take (l : Launch) (G : zG) (μ : zM) (n : Nat) (f : Nat → Int32) (hk : zk n = 5) (hf : μ n = f) (a : Int32) : zMet l G yX4_take cX4_take 3 (some .int) 1 13 [.ref (G.1 + n), .int a] μ (zQi G (s_X4_take f a) (zr μ n (w_X4_take f a))) := by
  refine z_start (lv := [(0, .ref (G.1 + n)), (1, .int a)]) (by decide) (Nat.le_of_ble_eq_true rfl) rfl ?_
  intro p e s m args below meth c ls hx hb hml hr hlk hts hown hK hZ hS hl
  have hown : s.vm.findClass RX4 = some m.cls := hown
  refine lv_iload_n hx hb dX4_take_0 rfl (lv_at hl 1 rfl) ?_
  refine lv_aload_n hx hb dX4_take_1 rfl (lv_at hl 0 rfl) ?_
  refine z_g5 (f := f) (v := .int (f 1)) 1 hx hb hts hown hK hZ hk hf (by decide) q40 rfl dX4_take_2 ?_
  refine va_mmin hx hb (hml.trans hl.1.symm) hown (hts _ q383) (hts _ q384) (hts _ q8) (hts _ q385) (Nat.le_of_ble_eq_true rfl) (Nat.le_of_ble_eq_true rfl) (Nat.zero_le _) (Nat.zero_le _) dX4_take_5 ?_
  refine lv_istore_n (lv' := [(2, .int (if (f 1) < a then (f 1) else a)), (0, .ref (G.1 + n)), (1, .int a)]) hx hb dX4_take_8 rfl hl (by decide) rfl (fun ls hl => ?_)
  refine lv_aload_n hx hb dX4_take_9 rfl (lv_at hl 1 rfl) ?_
  refine lv_dup hx hb dX4_take_10 rfl ?_
  refine z_g5 (f := f) (v := .int (f 1)) 1 hx hb hts hown hK hZ hk hf (by decide) q40 rfl dX4_take_11 ?_
  refine lv_iload_n hx hb dX4_take_14 rfl (lv_at hl 0 rfl) ?_
  refine lv_isub hx hb dX4_take_15 ?_
  refine z_p5 (f := f) (μ1 := (zr μ n (zu f 1 ((f 1) - (if (f 1) < a then (f 1) else a))))) 1 hx hb hts hown hK hZ hS hk hf (by decide) q40 rfl pfd_I rfl rfl dX4_take_16 (fun H locs hZ hS => ?_)
  refine lv_aload_n hx hb dX4_take_19 rfl (lv_at hl 1 rfl) ?_
  refine lv_dup hx hb dX4_take_20 rfl ?_
  refine z_g5 (f := (zu f 1 ((f 1) - (if (f 1) < a then (f 1) else a)))) (v := .int (f 5)) 5 hx hb hts hown hK hZ hk zr_same (by decide) q45 rfl dX4_take_21 ?_
  refine lv_iload_n hx hb dX4_take_24 rfl (lv_at hl 2 rfl) ?_
  refine lv_iload_n hx hb dX4_take_25 rfl (lv_at hl 0 rfl) ?_
  refine lv_isub hx hb dX4_take_26 ?_
  refine lv_iadd hx hb dX4_take_27 ?_
  refine z_p5 (f := (zu f 1 ((f 1) - (if (f 1) < a then (f 1) else a)))) (μ1 := (zr μ n (zu (zu f 1 ((f 1) - (if (f 1) < a then (f 1) else a))) 5 ((f 5) + (a - (if (f 1) < a then (f 1) else a)))))) 5 hx hb hts hown hK hZ hS hk zr_same (by decide) q45 rfl pfd_I rfl zr_zr dX4_take_28 (fun H locs hZ hS => ?_)
  refine lv_iload_n hx hb dX4_take_31 rfl (lv_at hl 0 rfl) ?_
  exact z_iret hx hb hr hlk hK hZ hS ⟨by rw [s_X4_take], by rw [w_X4_take]⟩ dX4_take_32
def w_X4_takeFee (f : Nat → Int32) (a : Int32) (b : Int32) : Nat → Int32 := (zu (w_X4_take (zu f 4 a) b) 3 (s_X4_take (zu f 4 a) b))
theorem hdX4_takeFee : yX4_takeFee.cls = RX4 ∧ yX4_takeFee.cls ≠ "java/lang/invoke/MethodHandle" ∧ yX4_takeFee.cls ≠ "java/lang/invoke/VarHandle" ∧ (parseMethodDescriptor yX4_takeFee.desc).map (fun d => d.parameters.length) = some 2 := by decide +kernel
set_option maxHeartbeats 4000000 in
set_option maxRecDepth 100000 in
theorem c_X4_takeFee (l : Launch) (G : zG) (μ : zM) (n : Nat) (f : Nat → Int32) (hk : zk n = 5) (hf : μ n = f) (a : Int32) (b : Int32) : zMet l G yX4_takeFee cX4_takeFee 3 none 2 35 [.ref (G.1 + n), .int a, .int b] μ (zQv G (zr μ n (w_X4_takeFee f a b))) := by
  refine z_start (lv := [(0, .ref (G.1 + n)), (1, .int a), (2, .int b)]) (by decide) (Nat.le_of_ble_eq_true rfl) rfl ?_
  intro p e s m args below meth c ls hx hb hml hr hlk hts hown hK hZ hS hl
  have hown : s.vm.findClass RX4 = some m.cls := hown
  refine lv_aload_n hx hb dX4_takeFee_0 rfl (lv_at hl 0 rfl) ?_
  refine lv_iload_n hx hb dX4_takeFee_1 rfl (lv_at hl 1 rfl) ?_
  refine z_p5 (f := f) (μ1 := (zr μ n (zu f 4 a))) 4 hx hb hts hown hK hZ hS hk hf (by decide) q44 rfl pfd_I rfl rfl dX4_takeFee_2 (fun H locs hZ hS => ?_)
  refine lv_aload_n hx hb dX4_takeFee_5 rfl (lv_at hl 0 rfl) ?_
  refine lv_aload_n hx hb dX4_takeFee_6 rfl (lv_at hl 0 rfl) ?_
  refine lv_iload_n hx hb dX4_takeFee_7 rfl (lv_at hl 2 rfl) ?_
  refine z_cVi (As := [.int b]) (rest := [.ref (G.1 + n)]) hx hb hml hown hts hl hK hZ hS (c_X4_take l G (zr μ n (zu f 4 a)) n (zu f 4 a) hk zr_same b) (z_G q379 q380 q381 q4 q382) hdX4_take ⟨Nat.le_of_ble_eq_true rfl, Nat.le_of_ble_eq_true rfl⟩ hk (by decide) rfl rfl rfl rfl (Nat.le_of_ble_eq_true rfl) dX4_takeFee_8 ⟨(Nat.zero_le _), (Nat.zero_le _)⟩ (fun H locs hZ hS => ?_)
  rw [zr_zr] at hZ
  refine z_p5 (f := (w_X4_take (zu f 4 a) b)) (μ1 := (zr μ n (zu (w_X4_take (zu f 4 a) b) 3 (s_X4_take (zu f 4 a) b)))) 3 hx hb hts hown hK hZ hS hk zr_same (by decide) q43 rfl pfd_I rfl zr_zr dX4_takeFee_11 (fun H locs hZ hS => ?_)
  exact z_vret hx hb hr hlk hK hZ hS (by rw [w_X4_takeFee]) dX4_takeFee_14
def w_X4_payLandlord (f : Nat → Int32) (a : Int32) : Nat → Int32 := (zu (w_X4_take f a) 2 ((f 2) + (s_X4_take f a)))
theorem hdX4_payLandlord : yX4_payLandlord.cls = RX4 ∧ yX4_payLandlord.cls ≠ "java/lang/invoke/MethodHandle" ∧ yX4_payLandlord.cls ≠ "java/lang/invoke/VarHandle" ∧ (parseMethodDescriptor yX4_payLandlord.desc).map (fun d => d.parameters.length) = some 1 := by decide +kernel
set_option maxHeartbeats 4000000 in
set_option maxRecDepth 100000 in
theorem c_X4_payLandlord (l : Launch) (G : zG) (μ : zM) (n : Nat) (f : Nat → Int32) (hk : zk n = 5) (hf : μ n = f) (a : Int32) : zMet l G yX4_payLandlord cX4_payLandlord 2 none 2 35 [.ref (G.1 + n), .int a] μ (zQv G (zr μ n (w_X4_payLandlord f a))) := by
  refine z_start (lv := [(0, .ref (G.1 + n)), (1, .int a)]) (by decide) (Nat.le_of_ble_eq_true rfl) rfl ?_
  intro p e s m args below meth c ls hx hb hml hr hlk hts hown hK hZ hS hl
  have hown : s.vm.findClass RX4 = some m.cls := hown
  refine lv_aload_n hx hb dX4_payLandlord_0 rfl (lv_at hl 0 rfl) ?_
  refine lv_dup hx hb dX4_payLandlord_1 rfl ?_
  refine z_g5 (f := f) (v := .int (f 2)) 2 hx hb hts hown hK hZ hk hf (by decide) q42 rfl dX4_payLandlord_2 ?_
  refine lv_aload_n hx hb dX4_payLandlord_5 rfl (lv_at hl 0 rfl) ?_
  refine lv_iload_n hx hb dX4_payLandlord_6 rfl (lv_at hl 1 rfl) ?_
  refine z_cVi (As := [.int a]) (rest := [.int (f 2), .ref (G.1 + n)]) hx hb hml hown hts hl hK hZ hS (c_X4_take l G μ n f hk hf a) (z_G q379 q380 q381 q4 q382) hdX4_take ⟨Nat.le_of_ble_eq_true rfl, Nat.le_of_ble_eq_true rfl⟩ hk (by decide) rfl rfl rfl rfl (Nat.le_of_ble_eq_true rfl) dX4_payLandlord_7 ⟨(Nat.zero_le _), (Nat.zero_le _)⟩ (fun H locs hZ hS => ?_)
  refine lv_iadd hx hb dX4_payLandlord_10 ?_
  refine z_p5 (f := (w_X4_take f a)) (μ1 := (zr μ n (zu (w_X4_take f a) 2 ((f 2) + (s_X4_take f a))))) 2 hx hb hts hown hK hZ hS hk zr_same (by decide) q42 rfl pfd_I rfl zr_zr dX4_payLandlord_11 (fun H locs hZ hS => ?_)
  exact z_vret hx hb hr hlk hK hZ hS (by rw [w_X4_payLandlord]) dX4_payLandlord_14
def s_X4_fact (f : Nat → Int32) (w : Nat) : Int32 := match w with
  | 0 => f 1
  | 1 => f 2
  | 2 => f 3
  | 3 => f 4
  | 4 => f 5
  | _ => f 0
theorem hdX4_fact : yX4_fact.cls = RX4 ∧ yX4_fact.cls ≠ "java/lang/invoke/MethodHandle" ∧ yX4_fact.cls ≠ "java/lang/invoke/VarHandle" ∧ (parseMethodDescriptor yX4_fact.desc).map (fun d => d.parameters.length) = some 1 := by decide +kernel
set_option maxHeartbeats 4000000 in
set_option maxRecDepth 100000 in
theorem c_X4_fact (l : Launch) (G : zG) (μ : zM) (n : Nat) (f : Nat → Int32) (hk : zk n = 5) (hf : μ n = f) (w : Nat) (hw0 : 0 ≤ w) (hw : w ≤ 5) : zMet l G yX4_fact cX4_fact 2 (some .int) 0 0 [.ref (G.1 + n), .int (nI w)] μ (zQi G (s_X4_fact f w) μ) := by
  refine z_start (lv := [(0, .ref (G.1 + n)), (1, .int (nI w))]) (by decide) (Nat.le_of_ble_eq_true rfl) rfl ?_
  intro p e s m args below meth c ls hx hb hml hr hlk hts hown hK hZ hS hl
  have hown : s.vm.findClass RX4 = some m.cls := hown
  refine lv_iload_n hx hb dX4_fact_0 rfl (lv_at hl 1 rfl) ?_
  have hcs : w = 0 ∨ w = 1 ∨ w = 2 ∨ w = 3 ∨ w = 4 ∨ w = 5 := by omega
  rcases hcs with rfl | rfl | rfl | rfl | rfl | rfl
  · refine lv_tableIn (off := 35) (tgt := 36) hx hb dX4_fact_1 (by decide) (by decide) rfl (by decide) ?_
    refine lv_aload_n hx hb dX4_fact_36 rfl (lv_at hl 0 rfl) ?_
    refine z_g5 (f := f) (v := .int (f 1)) 1 hx hb hts hown hK hZ hk hf (by decide) q40 rfl dX4_fact_37 ?_
    exact z_iret hx hb hr hlk hK hZ hS ⟨rfl, rfl⟩ dX4_fact_40
  · refine lv_tableIn (off := 40) (tgt := 41) hx hb dX4_fact_1 (by decide) (by decide) rfl (by decide) ?_
    refine lv_aload_n hx hb dX4_fact_41 rfl (lv_at hl 0 rfl) ?_
    refine z_g5 (f := f) (v := .int (f 2)) 2 hx hb hts hown hK hZ hk hf (by decide) q42 rfl dX4_fact_42 ?_
    exact z_iret hx hb hr hlk hK hZ hS ⟨rfl, rfl⟩ dX4_fact_45
  · refine lv_tableIn (off := 45) (tgt := 46) hx hb dX4_fact_1 (by decide) (by decide) rfl (by decide) ?_
    refine lv_aload_n hx hb dX4_fact_46 rfl (lv_at hl 0 rfl) ?_
    refine z_g5 (f := f) (v := .int (f 3)) 3 hx hb hts hown hK hZ hk hf (by decide) q43 rfl dX4_fact_47 ?_
    exact z_iret hx hb hr hlk hK hZ hS ⟨rfl, rfl⟩ dX4_fact_50
  · refine lv_tableIn (off := 50) (tgt := 51) hx hb dX4_fact_1 (by decide) (by decide) rfl (by decide) ?_
    refine lv_aload_n hx hb dX4_fact_51 rfl (lv_at hl 0 rfl) ?_
    refine z_g5 (f := f) (v := .int (f 4)) 4 hx hb hts hown hK hZ hk hf (by decide) q44 rfl dX4_fact_52 ?_
    exact z_iret hx hb hr hlk hK hZ hS ⟨rfl, rfl⟩ dX4_fact_55
  · refine lv_tableIn (off := 55) (tgt := 56) hx hb dX4_fact_1 (by decide) (by decide) rfl (by decide) ?_
    refine lv_aload_n hx hb dX4_fact_56 rfl (lv_at hl 0 rfl) ?_
    refine z_g5 (f := f) (v := .int (f 5)) 5 hx hb hts hown hK hZ hk hf (by decide) q45 rfl dX4_fact_57 ?_
    exact z_iret hx hb hr hlk hK hZ hS ⟨rfl, rfl⟩ dX4_fact_60
  · refine lv_tableOut (tgt := 61) hx hb dX4_fact_1 (by decide) (by decide) ?_
    refine lv_aload_n hx hb dX4_fact_61 rfl (lv_at hl 0 rfl) ?_
    refine z_g5 (f := f) (v := .int (f 0)) 0 hx hb hts hown hK hZ hk hf (by decide) q39 rfl dX4_fact_62 ?_
    exact z_iret hx hb hr hlk hK hZ hS ⟨rfl, rfl⟩ dX4_fact_65
def s_X4_part (f : Nat → Int32) (w : Nat) : Int32 := match w with
  | 8 => f 1
  | 9 => f 2
  | 10 => f 3 + f 4
  | _ => f 5
theorem hdX4_part : yX4_part.cls = RX4 ∧ yX4_part.cls ≠ "java/lang/invoke/MethodHandle" ∧ yX4_part.cls ≠ "java/lang/invoke/VarHandle" ∧ (parseMethodDescriptor yX4_part.desc).map (fun d => d.parameters.length) = some 1 := by decide +kernel
set_option maxHeartbeats 4000000 in
set_option maxRecDepth 100000 in
theorem c_X4_part (l : Launch) (G : zG) (μ : zM) (n : Nat) (f : Nat → Int32) (hk : zk n = 5) (hf : μ n = f) (w : Nat) (hw0 : 8 ≤ w) (hw : w ≤ 11) : zMet l G yX4_part cX4_part 2 (some .int) 0 0 [.ref (G.1 + n), .int (nI w)] μ (zQi G (s_X4_part f w) μ) := by
  refine z_start (lv := [(0, .ref (G.1 + n)), (1, .int (nI w))]) (by decide) (Nat.le_of_ble_eq_true rfl) rfl ?_
  intro p e s m args below meth c ls hx hb hml hr hlk hts hown hK hZ hS hl
  have hown : s.vm.findClass RX4 = some m.cls := hown
  refine lv_iload_n hx hb dX4_part_0 rfl (lv_at hl 1 rfl) ?_
  have hcs : w = 8 ∨ w = 9 ∨ w = 10 ∨ w = 11 := by omega
  rcases hcs with rfl | rfl | rfl | rfl
  · refine lv_tableIn (off := 27) (tgt := 28) hx hb dX4_part_1 (by decide) (by decide) rfl (by decide) ?_
    refine lv_aload_n hx hb dX4_part_28 rfl (lv_at hl 0 rfl) ?_
    refine z_g5 (f := f) (v := .int (f 1)) 1 hx hb hts hown hK hZ hk hf (by decide) q40 rfl dX4_part_29 ?_
    exact z_iret hx hb hr hlk hK hZ hS ⟨rfl, rfl⟩ dX4_part_32
  · refine lv_tableIn (off := 32) (tgt := 33) hx hb dX4_part_1 (by decide) (by decide) rfl (by decide) ?_
    refine lv_aload_n hx hb dX4_part_33 rfl (lv_at hl 0 rfl) ?_
    refine z_g5 (f := f) (v := .int (f 2)) 2 hx hb hts hown hK hZ hk hf (by decide) q42 rfl dX4_part_34 ?_
    exact z_iret hx hb hr hlk hK hZ hS ⟨rfl, rfl⟩ dX4_part_37
  · refine lv_tableIn (off := 37) (tgt := 38) hx hb dX4_part_1 (by decide) (by decide) rfl (by decide) ?_
    refine lv_aload_n hx hb dX4_part_38 rfl (lv_at hl 0 rfl) ?_
    refine z_g5 (f := f) (v := .int (f 3)) 3 hx hb hts hown hK hZ hk hf (by decide) q43 rfl dX4_part_39 ?_
    refine lv_aload_n hx hb dX4_part_42 rfl (lv_at hl 0 rfl) ?_
    refine z_g5 (f := f) (v := .int (f 4)) 4 hx hb hts hown hK hZ hk hf (by decide) q44 rfl dX4_part_43 ?_
    refine lv_iadd hx hb dX4_part_46 ?_
    exact z_iret hx hb hr hlk hK hZ hS ⟨rfl, rfl⟩ dX4_part_47
  · refine lv_tableOut (tgt := 48) hx hb dX4_part_1 (by decide) (by decide) ?_
    refine lv_aload_n hx hb dX4_part_48 rfl (lv_at hl 0 rfl) ?_
    refine z_g5 (f := f) (v := .int (f 5)) 5 hx hb hts hown hK hZ hk hf (by decide) q45 rfl dX4_part_49 ?_
    exact z_iret hx hb hr hlk hK hZ hS ⟨rfl, rfl⟩ dX4_part_52
def w_X5_start (a b : Int32) : Nat → Int32 := fun k => match k with
  | 0 => a
  | 1 => b
  | 3 => b
  | _ => 0
theorem zr_swap {μ : zM} {n m : Nat} {f g : Nat → Int32} (h : m ≠ n) : zr (zr μ n f) m g = zr (zr μ m g) n f := by
  funext j
  by_cases h1 : j = n
  · subst h1; rw [zr_ne (Ne.symm h), zr_same, zr_same]
  · by_cases h2 : j = m
    · subst h2; rw [zr_same, zr_ne h1, zr_same]
    · rw [zr_ne h2, zr_ne h1, zr_ne h1, zr_ne h2]
theorem zW.swap {G : zG} {μ : zM} {H : Heap} {n m : Nat} {f g : Nat → Int32} (h : m ≠ n) (hZ : zW G (zr (zr μ n f) m g) H) : zW G (zr (zr μ m g) n f) H := by
  rw [← zr_swap h]; exact hZ
theorem hdX5_start : yX5_start.cls = RX5 ∧ yX5_start.cls ≠ "java/lang/invoke/MethodHandle" ∧ yX5_start.cls ≠ "java/lang/invoke/VarHandle" ∧ (parseMethodDescriptor yX5_start.desc).map (fun d => d.parameters.length) = some 2 := by decide +kernel
set_option maxHeartbeats 4000000 in
set_option maxRecDepth 100000 in
theorem c_X5_start (l : Launch) (G : zG) (μ : zM) (n : Nat) (f : Nat → Int32) (hk : zk n = 4) (hf : μ n = f) (hk1 : zk (n + 1) = 5) (a b : Int32) : zMet l G yX5_start cX5_start 3 none 1 21 [.ref (G.1 + n), .int a, .int b] μ (zQv G (zr (zr μ n (w_X5_start a b)) (n + 1) (w_X4_start 0))) := by
  refine z_start (lv := [(0, .ref (G.1 + n)), (1, .int a), (2, .int b)]) (by decide) (Nat.le_of_ble_eq_true rfl) rfl ?_
  intro p e s m args below meth c ls hx hb hml hr hlk hts hown hK hZ hS hl
  have hown : s.vm.findClass RX5 = some m.cls := hown
  refine lv_aload_n hx hb dX5_start_0 rfl (lv_at hl 0 rfl) ?_
  refine lv_iload_n hx hb dX5_start_1 rfl (lv_at hl 1 rfl) ?_
  refine z_p4 (f := f) (μ1 := (zr μ n (zu f 0 a))) 0 hx hb hts hown hK hZ hS hk hf (by decide) q59 rfl pfd_I rfl rfl dX5_start_2 (fun H locs hZ hS => ?_)
  refine lv_aload_n hx hb dX5_start_5 rfl (lv_at hl 0 rfl) ?_
  refine lv_iload_n hx hb dX5_start_6 rfl (lv_at hl 2 rfl) ?_
  refine z_p4 (f := (zu f 0 a)) (μ1 := (zr μ n (zu (zu f 0 a) 1 b))) 1 hx hb hts hown hK hZ hS hk zr_same (by decide) q62 rfl pfd_I rfl zr_zr dX5_start_7 (fun H locs hZ hS => ?_)
  refine lv_aload_n hx hb dX5_start_10 rfl (lv_at hl 0 rfl) ?_
  refine lv_iconst (v := 0) hx hb dX5_start_11 (by decide) ?_
  refine z_p4 (f := (zu (zu f 0 a) 1 b)) (μ1 := (zr μ n (zu (zu (zu f 0 a) 1 b) 2 0))) 2 hx hb hts hown hK hZ hS hk zr_same (by decide) q65 rfl pfd_I rfl zr_zr dX5_start_12 (fun H locs hZ hS => ?_)
  refine lv_aload_n hx hb dX5_start_15 rfl (lv_at hl 0 rfl) ?_
  refine lv_iload_n hx hb dX5_start_16 rfl (lv_at hl 2 rfl) ?_
  refine z_p4 (f := (zu (zu (zu f 0 a) 1 b) 2 0)) (μ1 := (zr μ n (zu (zu (zu (zu f 0 a) 1 b) 2 0) 3 b))) 3 hx hb hts hown hK hZ hS hk zr_same (by decide) q68 rfl pfd_I rfl zr_zr dX5_start_17 (fun H locs hZ hS => ?_)
  refine lv_aload_n hx hb dX5_start_20 rfl (lv_at hl 0 rfl) ?_
  refine lv_iconst (v := 0) hx hb dX5_start_21 (by decide) ?_
  refine z_p4 (f := (zu (zu (zu (zu f 0 a) 1 b) 2 0) 3 b)) (μ1 := (zr μ n (zu (zu (zu (zu (zu f 0 a) 1 b) 2 0) 3 b) 4 0))) 4 hx hb hts hown hK hZ hS hk zr_same (by decide) q71 rfl pfd_I rfl zr_zr dX5_start_22 (fun H locs hZ hS => ?_)
  refine lv_aload_n hx hb dX5_start_25 rfl (lv_at hl 0 rfl) ?_
  refine lv_iconst (v := 0) hx hb dX5_start_26 (by decide) ?_
  refine z_p4 (f := (zu (zu (zu (zu (zu f 0 a) 1 b) 2 0) 3 b) 4 0)) (μ1 := (zr μ n (zu (zu (zu (zu (zu (zu f 0 a) 1 b) 2 0) 3 b) 4 0) 5 0))) 5 hx hb hts hown hK hZ hS hk zr_same (by decide) q74 rfl pfd_I rfl zr_zr dX5_start_27 (fun H locs hZ hS => ?_)
  refine lv_aload_n hx hb dX5_start_30 rfl (lv_at hl 0 rfl) ?_
  refine z_g4 (f := (zu (zu (zu (zu (zu (zu f 0 a) 1 b) 2 0) 3 b) 4 0) 5 0)) (v := .ref (G.1 + (n + 1))) 6 hx hb hts hown hK hZ hk zr_same (by decide) q77 rfl dX5_start_31 ?_
  refine lv_iconst (v := 0) hx hb dX5_start_34 (by decide) ?_
  refine z_cVv (As := [.int 0]) (rest := []) hx hb hml hown hts hl hK hZ hS (c_X4_start l G (zr μ n (zu (zu (zu (zu (zu (zu f 0 a) 1 b) 2 0) 3 b) 4 0) 5 0)) (n + 1) ((zr μ n (zu (zu (zu (zu (zu (zu f 0 a) 1 b) 2 0) 3 b) 4 0) 5 0)) (n + 1)) hk1 rfl 0) (z_G q457 q371 q372 q4 q373) hdX4_start ⟨Nat.le_of_ble_eq_true rfl, Nat.le_of_ble_eq_true rfl⟩ hk1 (by decide) rfl rfl rfl rfl (Nat.le_of_ble_eq_true rfl) dX5_start_35 ⟨(Nat.zero_le _), (Nat.zero_le _)⟩ (fun H locs hZ hS => ?_)
  have hZ := zW.swap (by omega : n + 1 ≠ n) hZ
  have hZ := hZ.re (g := w_X5_start a b) hk (zE4_eq rfl)
  have hZ := zW.swap (by omega : n ≠ n + 1) hZ
  exact z_vret hx hb hr hlk hK hZ hS rfl dX5_start_38
theorem hdX5_copyFrom : yX5_copyFrom.cls = RX5 ∧ yX5_copyFrom.cls ≠ "java/lang/invoke/MethodHandle" ∧ yX5_copyFrom.cls ≠ "java/lang/invoke/VarHandle" ∧ (parseMethodDescriptor yX5_copyFrom.desc).map (fun d => d.parameters.length) = some 1 := by decide +kernel
set_option maxHeartbeats 4000000 in
set_option maxRecDepth 100000 in
theorem c_X5_copyFrom (l : Launch) (G : zG) (μ : zM) (n : Nat) (f : Nat → Int32) (hk : zk n = 4) (hf : μ n = f) (hk1 : zk (n + 1) = 5) (o2 : Nat) (f2 : Nat → Int32) (hkm : zk o2 = 4) (hfm : μ o2 = f2) (hkm1 : zk (o2 + 1) = 5) (g1 g2 : Nat → Int32) (hg1 : μ (n + 1) = g1) (hg2 : μ (o2 + 1) = g2) (hne : o2 ≠ n) (hne1 : o2 + 1 ≠ n) (hne2 : o2 ≠ n + 1) : zMet l G yX5_copyFrom cX5_copyFrom 2 none 1 21 [.ref (G.1 + n), .ref (G.1 + o2)] μ (zQv G (zr (zr μ n f2) (n + 1) g2)) := by
  refine z_start (lv := [(0, .ref (G.1 + n)), (1, .ref (G.1 + o2))]) (by decide) (Nat.le_of_ble_eq_true rfl) rfl ?_
  intro p e s m args below meth c ls hx hb hml hr hlk hts hown hK hZ hS hl
  have hown : s.vm.findClass RX5 = some m.cls := hown
  refine lv_aload_n hx hb dX5_copyFrom_0 rfl (lv_at hl 0 rfl) ?_
  refine lv_aload_n hx hb dX5_copyFrom_1 rfl (lv_at hl 1 rfl) ?_
  refine z_g4 (f := f2) (v := .int (f2 0)) 0 hx hb hts hown hK hZ hkm hfm (by decide) q59 rfl dX5_copyFrom_2 ?_
  refine z_p4 (f := f) (μ1 := (zr μ n (zu f 0 (f2 0)))) 0 hx hb hts hown hK hZ hS hk hf (by decide) q59 rfl pfd_I rfl rfl dX5_copyFrom_5 (fun H locs hZ hS => ?_)
  refine lv_aload_n hx hb dX5_copyFrom_8 rfl (lv_at hl 0 rfl) ?_
  refine lv_aload_n hx hb dX5_copyFrom_9 rfl (lv_at hl 1 rfl) ?_
  refine z_g4 (f := f2) (v := .int (f2 1)) 1 hx hb hts hown hK hZ hkm (zr_at hfm (by omega)) (by decide) q62 rfl dX5_copyFrom_10 ?_
  refine z_p4 (f := (zu f 0 (f2 0))) (μ1 := (zr μ n (zu (zu f 0 (f2 0)) 1 (f2 1)))) 1 hx hb hts hown hK hZ hS hk zr_same (by decide) q62 rfl pfd_I rfl zr_zr dX5_copyFrom_13 (fun H locs hZ hS => ?_)
  refine lv_aload_n hx hb dX5_copyFrom_16 rfl (lv_at hl 0 rfl) ?_
  refine lv_aload_n hx hb dX5_copyFrom_17 rfl (lv_at hl 1 rfl) ?_
  refine z_g4 (f := f2) (v := .int (f2 2)) 2 hx hb hts hown hK hZ hkm (zr_at hfm (by omega)) (by decide) q65 rfl dX5_copyFrom_18 ?_
  refine z_p4 (f := (zu (zu f 0 (f2 0)) 1 (f2 1))) (μ1 := (zr μ n (zu (zu (zu f 0 (f2 0)) 1 (f2 1)) 2 (f2 2)))) 2 hx hb hts hown hK hZ hS hk zr_same (by decide) q65 rfl pfd_I rfl zr_zr dX5_copyFrom_21 (fun H locs hZ hS => ?_)
  refine lv_aload_n hx hb dX5_copyFrom_24 rfl (lv_at hl 0 rfl) ?_
  refine lv_aload_n hx hb dX5_copyFrom_25 rfl (lv_at hl 1 rfl) ?_
  refine z_g4 (f := f2) (v := .int (f2 3)) 3 hx hb hts hown hK hZ hkm (zr_at hfm (by omega)) (by decide) q68 rfl dX5_copyFrom_26 ?_
  refine z_p4 (f := (zu (zu (zu f 0 (f2 0)) 1 (f2 1)) 2 (f2 2))) (μ1 := (zr μ n (zu (zu (zu (zu f 0 (f2 0)) 1 (f2 1)) 2 (f2 2)) 3 (f2 3)))) 3 hx hb hts hown hK hZ hS hk zr_same (by decide) q68 rfl pfd_I rfl zr_zr dX5_copyFrom_29 (fun H locs hZ hS => ?_)
  refine lv_aload_n hx hb dX5_copyFrom_32 rfl (lv_at hl 0 rfl) ?_
  refine lv_aload_n hx hb dX5_copyFrom_33 rfl (lv_at hl 1 rfl) ?_
  refine z_g4 (f := f2) (v := .int (f2 4)) 4 hx hb hts hown hK hZ hkm (zr_at hfm (by omega)) (by decide) q71 rfl dX5_copyFrom_34 ?_
  refine z_p4 (f := (zu (zu (zu (zu f 0 (f2 0)) 1 (f2 1)) 2 (f2 2)) 3 (f2 3))) (μ1 := (zr μ n (zu (zu (zu (zu (zu f 0 (f2 0)) 1 (f2 1)) 2 (f2 2)) 3 (f2 3)) 4 (f2 4)))) 4 hx hb hts hown hK hZ hS hk zr_same (by decide) q71 rfl pfd_I rfl zr_zr dX5_copyFrom_37 (fun H locs hZ hS => ?_)
  refine lv_aload_n hx hb dX5_copyFrom_40 rfl (lv_at hl 0 rfl) ?_
  refine lv_aload_n hx hb dX5_copyFrom_41 rfl (lv_at hl 1 rfl) ?_
  refine z_g4 (f := f2) (v := .int (f2 5)) 5 hx hb hts hown hK hZ hkm (zr_at hfm (by omega)) (by decide) q74 rfl dX5_copyFrom_42 ?_
  refine z_p4 (f := (zu (zu (zu (zu (zu f 0 (f2 0)) 1 (f2 1)) 2 (f2 2)) 3 (f2 3)) 4 (f2 4))) (μ1 := (zr μ n (zu (zu (zu (zu (zu (zu f 0 (f2 0)) 1 (f2 1)) 2 (f2 2)) 3 (f2 3)) 4 (f2 4)) 5 (f2 5)))) 5 hx hb hts hown hK hZ hS hk zr_same (by decide) q74 rfl pfd_I rfl zr_zr dX5_copyFrom_45 (fun H locs hZ hS => ?_)
  refine lv_aload_n hx hb dX5_copyFrom_48 rfl (lv_at hl 0 rfl) ?_
  refine z_g4 (f := (zu (zu (zu (zu (zu (zu f 0 (f2 0)) 1 (f2 1)) 2 (f2 2)) 3 (f2 3)) 4 (f2 4)) 5 (f2 5))) (v := .ref (G.1 + (n + 1))) 6 hx hb hts hown hK hZ hk zr_same (by decide) q77 rfl dX5_copyFrom_49 ?_
  refine lv_aload_n hx hb dX5_copyFrom_52 rfl (lv_at hl 1 rfl) ?_
  refine z_g4 (f := f2) (v := .ref (G.1 + (o2 + 1))) 6 hx hb hts hown hK hZ hkm (zr_at hfm (by omega)) (by decide) q77 rfl dX5_copyFrom_53 ?_
  refine z_cVv (As := [.ref (G.1 + (o2 + 1))]) (rest := []) hx hb hml hown hts hl hK hZ hS (c_X4_copyFrom l G (zr μ n (zu (zu (zu (zu (zu (zu f 0 (f2 0)) 1 (f2 1)) 2 (f2 2)) 3 (f2 3)) 4 (f2 4)) 5 (f2 5))) (n + 1) g1 hk1 (zr_at hg1 (by omega)) (o2 + 1) g2 hkm1 (zr_at hg2 (by omega)) (by omega)) (z_G q269 q270 q271 q4 q272) hdX4_copyFrom ⟨Nat.le_of_ble_eq_true rfl, Nat.le_of_ble_eq_true rfl⟩ hk1 (by decide) rfl rfl rfl rfl (Nat.le_of_ble_eq_true rfl) dX5_copyFrom_56 ⟨(Nat.zero_le _), (Nat.zero_le _)⟩ (fun H locs hZ hS => ?_)
  have hZ := zW.swap (by omega : n + 1 ≠ n) hZ
  have hZ := hZ.re (g := f2) hk (zE4_eq rfl)
  have hZ := zW.swap (by omega : n ≠ n + 1) hZ
  exact z_vret hx hb hr hlk hK hZ hS rfl dX5_copyFrom_59
