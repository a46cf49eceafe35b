theorem hB1 : zB 1 := Or.inl rfl
theorem zk_set1 {B i : Nat} (h : zB B) (hi : i < 6) : zk (B + (3 + 2 * i) + 1) = 5 := by
  have e1 : B + (3 + 2 * i) + 1 = B + (4 + 2 * i) := by omega
  rw [e1]; exact zk_set h hi
section ZC2
variable {p : Program} {l : Launch} {e : Env} {R : Room} {s : State} {m : MethodId} {args : Array Value} {below : List Frame} {meth : Method} {c : Code} {H : Heap} {locs : List Loc} {cells slots : Nat} {Q : State → Prop}
variable {cc : ByteArray} {pc : Nat} {ls : Array Slot} {rest : List Value} {G : zG} {μ : zM} {H0 : Heap}
theorem z_cVr {own C : String} {T : u_T} {N ci kd n idx nL nA nm fr lo : Nat} {y : MethodName} {cm : ByteArray} {ret : Option FieldType} {As : List Value} {st0 : List Value} {a0 : Nat} {μ1 : zM} {lv : List (Nat × Value)}
    (hx : p.tables.exec = Jvm.exec) (hb : c.code = cc) (hml : c.maxLocals = nL) (hown : s.vm.findClass own = some m.cls) (hts : ∀ w ∈ zall, w.before args s = true) (hl : lv_has ls nL lv) (hK : zKU G s) (hZ : zW G μ H) (hS : va_S (zA G) H0 H locs)
    (hM : zMet l G y cm nm ret fr lo (.ref (G.1 + n) :: As) μ (zQq G (some a0) μ1)) (hG : GoodIn zall (wsV own idx C y (ws_ y cm nm ret)))
    (hd : y.cls = C ∧ y.cls ≠ "java/lang/invoke/MethodHandle" ∧ y.cls ≠ "java/lang/invoke/VarHandle" ∧ (parseMethodDescriptor y.desc).map (fun d => d.parameters.length) = some nA) (hR : fr + 1 ≤ R.frames ∧ 8 + (nm + 11) + lo ≤ R.locals)
    (hn : zk n = kd) (hk9 : kd < 9) {fs : List Value} (he : zE G kd n (μ n) = .inr (ci, fs)) (hc : vwCl[ci]? = some (C, T, N)) (hA : As.length = nA) (hst : st0 = As.reverse ++ .ref (G.1 + n) :: rest) (hW : (rest.map fun v => v.category).sum ≤ 8) (hdg : decode cc pc = .ok (.invokevirtual idx, 3)) (hcs : cells ≤ R.cells ∧ slots ≤ R.slots)
    (kk : ∀ (H1 : Heap) (locs1 : List Loc), zW G μ1 H1 → va_S (zA G) H0 H1 locs1 → W p l e R s m args below meth c H1 locs1 cells slots Q (F0 m (pc + 3) ls (.ref a0 :: rest))) : W p l e R s m args below meth c H locs cells slots Q (F0 m pc ls st0) :=
  z_cVq hx hb hml hown hts hl hK hZ hS hM hG hd hR hn hk9 he hc hA hst hW hdg hcs kk
theorem z_cVn {own C : String} {T : u_T} {N ci kd n idx nL nA nm fr lo : Nat} {y : MethodName} {cm : ByteArray} {ret : Option FieldType} {As : List Value} {st0 : List Value}  {μ1 : zM} {lv : List (Nat × Value)}
    (hx : p.tables.exec = Jvm.exec) (hb : c.code = cc) (hml : c.maxLocals = nL) (hown : s.vm.findClass own = some m.cls) (hts : ∀ w ∈ zall, w.before args s = true) (hl : lv_has ls nL lv) (hK : zKU G s) (hZ : zW G μ H) (hS : va_S (zA G) H0 H locs)
    (hM : zMet l G y cm nm ret fr lo (.ref (G.1 + n) :: As) μ (zQq G none μ1)) (hG : GoodIn zall (wsV own idx C y (ws_ y cm nm ret)))
    (hd : y.cls = C ∧ y.cls ≠ "java/lang/invoke/MethodHandle" ∧ y.cls ≠ "java/lang/invoke/VarHandle" ∧ (parseMethodDescriptor y.desc).map (fun d => d.parameters.length) = some nA) (hR : fr + 1 ≤ R.frames ∧ 8 + (nm + 11) + lo ≤ R.locals)
    (hn : zk n = kd) (hk9 : kd < 9) {fs : List Value} (he : zE G kd n (μ n) = .inr (ci, fs)) (hc : vwCl[ci]? = some (C, T, N)) (hA : As.length = nA) (hst : st0 = As.reverse ++ .ref (G.1 + n) :: rest) (hW : (rest.map fun v => v.category).sum ≤ 8) (hdg : decode cc pc = .ok (.invokevirtual idx, 3)) (hcs : cells ≤ R.cells ∧ slots ≤ R.slots)
    (kk : ∀ (H1 : Heap) (locs1 : List Loc), zW G μ1 H1 → va_S (zA G) H0 H1 locs1 → W p l e R s m args below meth c H1 locs1 cells slots Q (F0 m (pc + 3) ls (.null :: rest))) : W p l e R s m args below meth c H locs cells slots Q (F0 m pc ls st0) :=
  z_cVq hx hb hml hown hts hl hK hZ hS hM hG hd hR hn hk9 he hc hA hst hW hdg hcs kk
end ZC2
theorem hdX1_tenancyAt : yX1_tenancyAt.cls = RX1 ∧ yX1_tenancyAt.cls ≠ "java/lang/invoke/MethodHandle" ∧ yX1_tenancyAt.cls ≠ "java/lang/invoke/VarHandle" ∧ (parseMethodDescriptor yX1_tenancyAt.desc).map (fun d => d.parameters.length) = some 1 := by decide +kernel
set_option maxHeartbeats 4000000 in
set_option maxRecDepth 100000 in
theorem c_X1_tenancyAt_ok (l : Launch) (G : zG) (μ : zM) (B : Nat) (hB : zB B) (fb : Nat → Int32) (hfb : μ B = fb) (T i : Nat) (hT : fb 3 = nI T) (hT6 : T ≤ 6) (hi : i < T) : zMet l G yX1_tenancyAt cX1_tenancyAt 2 (some (.object "TenancyDeposits$Tenancy")) 0 0 [.ref (G.1 + B), .int (nI i)] μ (zQq G (some (G.1 + (B + (3 + 2 * i)))) μ) := by
  refine z_start (lv := [(0, .ref (G.1 + B)), (1, .int (nI i))]) (by decide) (Nat.le_of_ble_eq_true rfl) rfl ?_
  intro p e s m args below meth c ls hx hb hml hr hlk hts hown hK hZ hS hl
  have hown : s.vm.findClass RX1 = some m.cls := hown
  refine lv_iload_n hx hb dX1_tenancyAt_0 rfl (lv_at hl 1 rfl) ?_
  refine lv_if_lt (tgt := 21) hx hb dX1_tenancyAt_1 (by decide) (fun c_1 => ?_) (fun c_1 => ?_)
  · exact absurd c_1 (nI_pos (by omega))
  · refine lv_iload_n hx hb dX1_tenancyAt_4 rfl (lv_at hl 1 rfl) ?_
    refine lv_aload_n hx hb dX1_tenancyAt_5 rfl (lv_at hl 0 rfl) ?_
    refine z_g1 (f := fb) (v := .int (nI T)) 3 hx hb hts hown hK hZ (zk_book hB) hfb (by decide) q152 (congrArg (fun z => some (Value.int z)) hT) dX1_tenancyAt_6 ?_
    refine lv_icmp_ge (tgt := 21) hx hb dX1_tenancyAt_9 (by decide) (fun c_2 => ?_) (fun c_2 => ?_)
    · exact absurd c_2 (nI_ge hi (by omega))
    · refine lv_iload_n hx hb dX1_tenancyAt_12 rfl (lv_at hl 1 rfl) ?_
      refine lv_aload_n hx hb dX1_tenancyAt_13 rfl (lv_at hl 0 rfl) ?_
      refine z_g1 (f := fb) (v := .ref (G.1 + (B + 1))) 5 hx hb hts hown hK hZ (zk_book hB) hfb (by decide) q156 rfl dX1_tenancyAt_14 ?_
      refine z_talen hx hb hK hZ (zk_ta hB) dX1_tenancyAt_17 ?_
      refine lv_icmp_lt (tgt := 23) hx hb dX1_tenancyAt_18 (by decide) (fun c_3 => ?_) (fun c_3 => ?_)
      · refine lv_aload_n hx hb dX1_tenancyAt_23 rfl (lv_at hl 0 rfl) ?_
        refine z_g1 (f := fb) (v := .ref (G.1 + (B + 1))) 5 hx hb hts hown hK hZ (zk_book hB) hfb (by decide) q156 rfl dX1_tenancyAt_24 ?_
        refine lv_iload_n hx hb dX1_tenancyAt_27 rfl (lv_at hl 1 rfl) ?_
        refine z_taload hx hb hK hZ (zk_ta hB) (vp_in_nI (by omega) (by decide)) dX1_tenancyAt_28 ?_
        rw [nI_clamp (by omega : i < 2 ^ 31)]
        exact z_aret hx hb hr (Or.inl ⟨_, rfl⟩) hlk hK hZ hS ⟨rfl, rfl⟩ rfl dX1_tenancyAt_29
      · exact absurd (show nI i < nI 6 from nI_lt (by omega) (by decide)) c_3
set_option maxHeartbeats 4000000 in
set_option maxRecDepth 100000 in
theorem c_X1_tenancyAt_no (l : Launch) (G : zG) (μ : zM) (B : Nat) (hB : zB B) (fb : Nat → Int32) (hfb : μ B = fb) (T : Nat) (hT : fb 3 = nI T) (x : Int32) (hxx : x < 0 ∨ nI T ≤ x) : zMet l G yX1_tenancyAt cX1_tenancyAt 2 (some (.object "TenancyDeposits$Tenancy")) 0 0 [.ref (G.1 + B), .int x] μ (zQq G none μ) := by
  refine z_start (lv := [(0, .ref (G.1 + B)), (1, .int x)]) (by decide) (Nat.le_of_ble_eq_true rfl) rfl ?_
  intro p e s m args below meth c ls hx hb hml hr hlk hts hown hK hZ hS hl
  have hown : s.vm.findClass RX1 = some m.cls := hown
  refine lv_iload_n hx hb dX1_tenancyAt_0 rfl (lv_at hl 1 rfl) ?_
  refine lv_if_lt (tgt := 21) hx hb dX1_tenancyAt_1 (by decide) (fun c_1 => ?_) (fun c_1 => ?_)
  · refine lv_null hx hb dX1_tenancyAt_21 ?_
    exact z_aret hx hb hr (Or.inl ⟨_, rfl⟩) hlk hK hZ hS ⟨rfl, rfl⟩ rfl dX1_tenancyAt_22
  · refine lv_iload_n hx hb dX1_tenancyAt_4 rfl (lv_at hl 1 rfl) ?_
    refine lv_aload_n hx hb dX1_tenancyAt_5 rfl (lv_at hl 0 rfl) ?_
    refine z_g1 (f := fb) (v := .int (nI T)) 3 hx hb hts hown hK hZ (zk_book hB) hfb (by decide) q152 (congrArg (fun z => some (Value.int z)) hT) dX1_tenancyAt_6 ?_
    refine lv_icmp_ge (tgt := 21) hx hb dX1_tenancyAt_9 (by decide) (fun c_2 => ?_) (fun c_2 => ?_)
    · refine lv_null hx hb dX1_tenancyAt_21 ?_
      exact z_aret hx hb hr (Or.inl ⟨_, rfl⟩) hlk hK hZ hS ⟨rfl, rfl⟩ rfl dX1_tenancyAt_22
    · exact absurd (hxx.resolve_left c_1) c_2
theorem hdX1_itemAt : yX1_itemAt.cls = RX1 ∧ yX1_itemAt.cls ≠ "java/lang/invoke/MethodHandle" ∧ yX1_itemAt.cls ≠ "java/lang/invoke/VarHandle" ∧ (parseMethodDescriptor yX1_itemAt.desc).map (fun d => d.parameters.length) = some 1 := by decide +kernel
set_option maxHeartbeats 4000000 in
set_option maxRecDepth 100000 in
theorem c_X1_itemAt_ok (l : Launch) (G : zG) (μ : zM) (B : Nat) (hB : zB B) (fb : Nat → Int32) (hfb : μ B = fb) (I i : Nat) (hT : fb 4 = nI I) (hT6 : I ≤ 24) (hi : i < I) : zMet l G yX1_itemAt cX1_itemAt 2 (some (.object "TenancyDeposits$Item")) 0 0 [.ref (G.1 + B), .int (nI i)] μ (zQq G (some (G.1 + (B + (15 + i)))) μ) := by
  refine z_start (lv := [(0, .ref (G.1 + B)), (1, .int (nI i))]) (by decide) (Nat.le_of_ble_eq_true rfl) rfl ?_
  intro p e s m args below meth c ls hx hb hml hr hlk hts hown hK hZ hS hl
  have hown : s.vm.findClass RX1 = some m.cls := hown
  refine lv_iload_n hx hb dX1_itemAt_0 rfl (lv_at hl 1 rfl) ?_
  refine lv_if_lt (tgt := 21) hx hb dX1_itemAt_1 (by decide) (fun c_1 => ?_) (fun c_1 => ?_)
  · exact absurd c_1 (nI_pos (by omega))
  · refine lv_iload_n hx hb dX1_itemAt_4 rfl (lv_at hl 1 rfl) ?_
    refine lv_aload_n hx hb dX1_itemAt_5 rfl (lv_at hl 0 rfl) ?_
    refine z_g1 (f := fb) (v := .int (nI I)) 4 hx hb hts hown hK hZ (zk_book hB) hfb (by decide) q154 (congrArg (fun z => some (Value.int z)) hT) dX1_itemAt_6 ?_
    refine lv_icmp_ge (tgt := 21) hx hb dX1_itemAt_9 (by decide) (fun c_2 => ?_) (fun c_2 => ?_)
    · exact absurd c_2 (nI_ge hi (by omega))
    · refine lv_iload_n hx hb dX1_itemAt_12 rfl (lv_at hl 1 rfl) ?_
      refine lv_aload_n hx hb dX1_itemAt_13 rfl (lv_at hl 0 rfl) ?_
      refine z_g1 (f := fb) (v := .ref (G.1 + (B + 2))) 6 hx hb hts hown hK hZ (zk_book hB) hfb (by decide) q157 rfl dX1_itemAt_14 ?_
      refine z_ialen hx hb hK hZ (zk_ia hB) dX1_itemAt_17 ?_
      refine lv_icmp_lt (tgt := 23) hx hb dX1_itemAt_18 (by decide) (fun c_3 => ?_) (fun c_3 => ?_)
      · refine lv_aload_n hx hb dX1_itemAt_23 rfl (lv_at hl 0 rfl) ?_
        refine z_g1 (f := fb) (v := .ref (G.1 + (B + 2))) 6 hx hb hts hown hK hZ (zk_book hB) hfb (by decide) q157 rfl dX1_itemAt_24 ?_
        refine lv_iload_n hx hb dX1_itemAt_27 rfl (lv_at hl 1 rfl) ?_
        refine z_iaload hx hb hK hZ (zk_ia hB) (vp_in_nI (by omega) (by decide)) dX1_itemAt_28 ?_
        rw [nI_clamp (by omega : i < 2 ^ 31)]
        exact z_aret hx hb hr (Or.inl ⟨_, rfl⟩) hlk hK hZ hS ⟨rfl, rfl⟩ rfl dX1_itemAt_29
      · exact absurd (show nI i < nI 24 from nI_lt (by omega) (by decide)) c_3
set_option maxHeartbeats 4000000 in
set_option maxRecDepth 100000 in
theorem c_X1_itemAt_no (l : Launch) (G : zG) (μ : zM) (B : Nat) (hB : zB B) (fb : Nat → Int32) (hfb : μ B = fb) (I : Nat) (hT : fb 4 = nI I) (x : Int32) (hxx : x < 0 ∨ nI I ≤ x) : zMet l G yX1_itemAt cX1_itemAt 2 (some (.object "TenancyDeposits$Item")) 0 0 [.ref (G.1 + B), .int x] μ (zQq G none μ) := by
  refine z_start (lv := [(0, .ref (G.1 + B)), (1, .int x)]) (by decide) (Nat.le_of_ble_eq_true rfl) rfl ?_
  intro p e s m args below meth c ls hx hb hml hr hlk hts hown hK hZ hS hl
  have hown : s.vm.findClass RX1 = some m.cls := hown
  refine lv_iload_n hx hb dX1_itemAt_0 rfl (lv_at hl 1 rfl) ?_
  refine lv_if_lt (tgt := 21) hx hb dX1_itemAt_1 (by decide) (fun c_1 => ?_) (fun c_1 => ?_)
  · refine lv_null hx hb dX1_itemAt_21 ?_
    exact z_aret hx hb hr (Or.inl ⟨_, rfl⟩) hlk hK hZ hS ⟨rfl, rfl⟩ rfl dX1_itemAt_22
  · refine lv_iload_n hx hb dX1_itemAt_4 rfl (lv_at hl 1 rfl) ?_
    refine lv_aload_n hx hb dX1_itemAt_5 rfl (lv_at hl 0 rfl) ?_
    refine z_g1 (f := fb) (v := .int (nI I)) 4 hx hb hts hown hK hZ (zk_book hB) hfb (by decide) q154 (congrArg (fun z => some (Value.int z)) hT) dX1_itemAt_6 ?_
    refine lv_icmp_ge (tgt := 21) hx hb dX1_itemAt_9 (by decide) (fun c_2 => ?_) (fun c_2 => ?_)
    · refine lv_null hx hb dX1_itemAt_21 ?_
      exact z_aret hx hb hr (Or.inl ⟨_, rfl⟩) hlk hK hZ hS ⟨rfl, rfl⟩ rfl dX1_itemAt_22
    · exact absurd (hxx.resolve_left c_1) c_2
def s_X1_daysOf (f : Nat → Int32) (g : Nat → Int32) : Int32 := if (g 2) = 0 then ((f 0) - (g 1))
  else ((g 3) - (g 1))
theorem hdX1_daysOf : yX1_daysOf.cls = RX1 ∧ yX1_daysOf.cls ≠ "java/lang/invoke/MethodHandle" ∧ yX1_daysOf.cls ≠ "java/lang/invoke/VarHandle" ∧ (parseMethodDescriptor yX1_daysOf.desc).map (fun d => d.parameters.length) = some 1 := by decide +kernel
set_option maxHeartbeats 4000000 in
set_option maxRecDepth 100000 in
theorem c_X1_daysOf (l : Launch) (G : zG) (μ : zM) (n : Nat) (f : Nat → Int32) (hk : zk n = 1) (hf : μ n = f) (o2 : Nat) (g : Nat → Int32) (hko2 : zk o2 = 4) (hfo2 : μ o2 = g) : zMet l G yX1_daysOf cX1_daysOf 3 (some .int) 0 0 [.ref (G.1 + n), .ref (G.1 + o2)] μ (zQi G (s_X1_daysOf f g) μ) := by
  refine z_start (lv := [(0, .ref (G.1 + n)), (1, .ref (G.1 + o2))]) (by decide) (Nat.le_of_ble_eq_true rfl) rfl ?_
  intro p e s m args below meth c ls hx hb hml hr hlk hts hown hK hZ hS hl
  have hown : s.vm.findClass RX1 = some m.cls := hown
  refine lv_aload_n hx hb dX1_daysOf_0 rfl (lv_at hl 1 rfl) ?_
  refine z_g4 (f := g) (v := .int (g 2)) 2 hx hb hts hown hK hZ hko2 hfo2 (by decide) q67 rfl dX1_daysOf_1 ?_
  refine lv_if_ne (tgt := 14) hx hb dX1_daysOf_4 (by decide) (fun c_1 => ?_) (fun c_1 => ?_)
  · refine lv_aload_n hx hb dX1_daysOf_14 rfl (lv_at hl 1 rfl) ?_
    refine z_g4 (f := g) (v := .int (g 3)) 3 hx hb hts hown hK hZ hko2 hfo2 (by decide) q70 rfl dX1_daysOf_15 ?_
    refine lv_istore_n (lv' := [(2, .int (g 3)), (0, .ref (G.1 + n)), (1, .ref (G.1 + o2))]) hx hb dX1_daysOf_18 rfl hl (by decide) rfl (fun ls hl => ?_)
    refine lv_iload_n hx hb dX1_daysOf_19 rfl (lv_at hl 0 rfl) ?_
    refine lv_aload_n hx hb dX1_daysOf_20 rfl (lv_at hl 2 rfl) ?_
    refine z_g4 (f := g) (v := .int (g 1)) 1 hx hb hts hown hK hZ hko2 hfo2 (by decide) q64 rfl dX1_daysOf_21 ?_
    refine lv_isub hx hb dX1_daysOf_24 ?_
    exact z_iret hx hb hr hlk hK hZ hS ⟨by rw [s_X1_daysOf, if_neg c_1], rfl⟩ dX1_daysOf_25
  · refine lv_aload_n hx hb dX1_daysOf_7 rfl (lv_at hl 0 rfl) ?_
    refine z_g1 (f := f) (v := .int (f 0)) 0 hx hb hts hown hK hZ hk hf (by decide) q146 rfl dX1_daysOf_8 ?_
    refine lv_goto (tgt := 18) hx hb dX1_daysOf_11 (by decide) ?_
    refine lv_istore_n (lv' := [(2, .int (f 0)), (0, .ref (G.1 + n)), (1, .ref (G.1 + o2))]) hx hb dX1_daysOf_18 rfl hl (by decide) rfl (fun ls hl => ?_)
    refine lv_iload_n hx hb dX1_daysOf_19 rfl (lv_at hl 0 rfl) ?_
    refine lv_aload_n hx hb dX1_daysOf_20 rfl (lv_at hl 2 rfl) ?_
    refine z_g4 (f := g) (v := .int (g 1)) 1 hx hb hts hown hK hZ hko2 hfo2 (by decide) q64 rfl dX1_daysOf_21 ?_
    refine lv_isub hx hb dX1_daysOf_24 ?_
    exact z_iret hx hb hr hlk hK hZ hS ⟨by rw [s_X1_daysOf, if_pos c_1], rfl⟩ dX1_daysOf_25
def s_X1_interestOf (f : Nat → Int32) (g : Nat → Int32) : Int32 := if (g 2) = 3 then (g 5)
  else (FP.f2i (FP.fdiv (FP.fmul (FP.fmul (FP.i2f (g 0)) (Int32.toUInt32 (f 2))) (FP.i2f ((f 0) - (g 1)))) 1136033792))
theorem hdX1_interestOf : yX1_interestOf.cls = RX1 ∧ yX1_interestOf.cls ≠ "java/lang/invoke/MethodHandle" ∧ yX1_interestOf.cls ≠ "java/lang/invoke/VarHandle" ∧ (parseMethodDescriptor yX1_interestOf.desc).map (fun d => d.parameters.length) = some 1 := by decide +kernel
set_option maxHeartbeats 4000000 in
set_option maxRecDepth 100000 in
theorem c_X1_interestOf (l : Launch) (G : zG) (μ : zM) (n : Nat) (f : Nat → Int32) (hk : zk n = 1) (hf : μ n = f) (o2 : Nat) (g : Nat → Int32) (hko2 : zk o2 = 4) (hfo2 : μ o2 = g) (hr8 : fK 125 (Int32.toUInt32 (f 2))) : zMet l G yX1_interestOf cX1_interestOf 3 (some .int) 0 0 [.ref (G.1 + n), .ref (G.1 + o2)] μ (zQi G (s_X1_interestOf f g) μ) := by
  refine z_start (lv := [(0, .ref (G.1 + n)), (1, .ref (G.1 + o2))]) (by decide) (Nat.le_of_ble_eq_true rfl) rfl ?_
  intro p e s m args below meth c ls hx hb hml hr hlk hts hown hK hZ hS hl
  have hown : s.vm.findClass RX1 = some m.cls := hown
  refine lv_aload_n hx hb dX1_interestOf_0 rfl (lv_at hl 1 rfl) ?_
  refine z_g4 (f := g) (v := .int (g 2)) 2 hx hb hts hown hK hZ hko2 hfo2 (by decide) q67 rfl dX1_interestOf_1 ?_
  refine lv_iconst (v := 3) hx hb dX1_interestOf_4 (by decide) ?_
  refine lv_icmp_ne (tgt := 13) hx hb dX1_interestOf_5 (by decide) (fun c_1 => ?_) (fun c_1 => ?_)
  · refine lv_aload_n hx hb dX1_interestOf_13 rfl (lv_at hl 0 rfl) ?_
    refine z_g1 (f := f) (v := .int (f 0)) 0 hx hb hts hown hK hZ hk hf (by decide) q146 rfl dX1_interestOf_14 ?_
    refine lv_aload_n hx hb dX1_interestOf_17 rfl (lv_at hl 1 rfl) ?_
    refine z_g4 (f := g) (v := .int (g 1)) 1 hx hb hts hown hK hZ hko2 hfo2 (by decide) q64 rfl dX1_interestOf_18 ?_
    refine lv_isub hx hb dX1_interestOf_21 ?_
    refine lv_istore_n (lv' := [(2, .int ((f 0) - (g 1))), (0, .ref (G.1 + n)), (1, .ref (G.1 + o2))]) hx hb dX1_interestOf_22 rfl hl (by decide) rfl (fun ls hl => ?_)
    refine lv_aload_n hx hb dX1_interestOf_23 rfl (lv_at hl 2 rfl) ?_
    refine z_g4 (f := g) (v := .int (g 0)) 0 hx hb hts hown hK hZ hko2 hfo2 (by decide) q60 rfl dX1_interestOf_24 ?_
    refine lv_i2f hx hb dX1_interestOf_27 ?_
    refine lv_aload_n hx hb dX1_interestOf_28 rfl (lv_at hl 1 rfl) ?_
    refine z_g1 (f := f) (v := .float (Int32.toUInt32 (f 2))) 2 hx hb hts hown hK hZ hk hf (by decide) q150 rfl dX1_interestOf_29 ?_
    refine lv_fmul hx hb dX1_interestOf_32 ((fk_mul (fk_i2f _) hr8 (by decide) (by decide)).n (by decide)) ?_
    refine lv_iload_n hx hb dX1_interestOf_33 rfl (lv_at hl 0 rfl) ?_
    refine lv_i2f hx hb dX1_interestOf_34 ?_
    refine lv_fmul hx hb dX1_interestOf_35 ((fk_mul (fk_mul (fk_i2f _) hr8 (by decide) (by decide)) (fk_i2f _) (by decide) (by decide)).n (by decide)) ?_
    refine lv_ldcf hx hb hown (hts _ q336) dX1_interestOf_36 ?_
    refine lv_fdiv hx hb dX1_interestOf_38 ((fk_div (fk_mul (fk_mul (fk_i2f _) hr8 (by decide) (by decide)) (fk_i2f _) (by decide) (by decide)) fk_365.1 fk_365.2 (by decide) (by decide)).n (by decide)) ?_
    refine lv_f2i hx hb dX1_interestOf_39 ?_
    exact z_iret hx hb hr hlk hK hZ hS ⟨by rw [s_X1_interestOf, if_neg c_1], rfl⟩ dX1_interestOf_40
  · refine lv_aload_n hx hb dX1_interestOf_8 rfl (lv_at hl 1 rfl) ?_
    refine z_g4 (f := g) (v := .int (g 5)) 5 hx hb hts hown hK hZ hko2 hfo2 (by decide) q75 rfl dX1_interestOf_9 ?_
    exact z_iret hx hb hr hlk hK hZ hS ⟨by rw [s_X1_interestOf, if_pos c_1], rfl⟩ dX1_interestOf_12
theorem hdX1_daysOfItem : yX1_daysOfItem.cls = RX1 ∧ yX1_daysOfItem.cls ≠ "java/lang/invoke/MethodHandle" ∧ yX1_daysOfItem.cls ≠ "java/lang/invoke/VarHandle" ∧ (parseMethodDescriptor yX1_daysOfItem.desc).map (fun d => d.parameters.length) = some 1 := by decide +kernel
set_option maxHeartbeats 4000000 in
set_option maxRecDepth 100000 in
theorem c_X1_daysOfItem (l : Launch) (G : zG) (μ : zM) (fb : Nat → Int32) (hfb : μ 1 = fb) (n : Nat) (f : Nat → Int32) (hk : zk n = 6) (hf : μ n = f) (T h : Nat) (hT : fb 3 = nI T) (hT6 : T ≤ 6) (hh : h < T) (he : f 0 = nI h) (g : Nat → Int32) (hg : μ (1 + (3 + 2 * h)) = g) : zMet l G yX1_daysOfItem cX1_daysOfItem 3 (some .int) 1 22 [.ref (G.1 + 1), .ref (G.1 + n)] μ (zQi G (s_X1_daysOf fb g) μ) := by
  refine z_start (lv := [(0, .ref (G.1 + 1)), (1, .ref (G.1 + n))]) (by decide) (Nat.le_of_ble_eq_true rfl) rfl ?_
  intro p e s m args below meth c ls hx hb hml hr hlk hts hown hK hZ hS hl
  have hown : s.vm.findClass RX1 = some m.cls := hown
  refine lv_aload_n hx hb dX1_daysOfItem_0 rfl (lv_at hl 0 rfl) ?_
  refine lv_aload_n hx hb dX1_daysOfItem_1 rfl (lv_at hl 1 rfl) ?_
  refine z_g6 (f := f) (v := .int (nI h)) 0 hx hb hts hown hK hZ hk hf (by decide) q100 (congrArg (fun z => some (Value.int z)) he) dX1_daysOfItem_2 ?_
  refine z_cVr (As := [.int (nI h)]) (rest := []) hx hb hml hown hts hl hK hZ hS (c_X1_tenancyAt_ok l G μ 1 hB1 fb hfb T h hT hT6 hh) (z_G q261 q262 q263 q2 q264) hdX1_tenancyAt ⟨Nat.le_of_ble_eq_true rfl, Nat.le_of_ble_eq_true rfl⟩ (zk_book hB1) (by decide) rfl rfl rfl rfl (Nat.le_of_ble_eq_true rfl) dX1_daysOfItem_5 ⟨(Nat.zero_le _), (Nat.zero_le _)⟩ (fun H locs hZ hS => ?_)
  refine lv_astore_n (lv' := [(2, .ref (G.1 + (1 + (3 + 2 * h)))), (0, .ref (G.1 + 1)), (1, .ref (G.1 + n))]) hx hb dX1_daysOfItem_8 rfl hl (by decide) rfl (fun ls hl => ?_)
  refine lv_aload_n hx hb dX1_daysOfItem_9 rfl (lv_at hl 0 rfl) ?_
  refine lv_ifnonnull (tgt := 17) hx hb dX1_daysOfItem_10 (by decide) ?_
  refine lv_aload_n hx hb dX1_daysOfItem_17 rfl (lv_at hl 1 rfl) ?_
  refine lv_aload_n hx hb dX1_daysOfItem_18 rfl (lv_at hl 0 rfl) ?_
  refine z_cVi (As := [.ref (G.1 + (1 + (3 + 2 * h)))]) (rest := []) hx hb hml hown hts hl hK hZ hS (c_X1_daysOf l G μ 1 fb (zk_book hB1) hfb (1 + (3 + 2 * h)) g (zk_ten hB1 (by omega)) hg) (z_G q399 q329 q330 q2 q331) hdX1_daysOf ⟨Nat.le_of_ble_eq_true rfl, Nat.le_of_ble_eq_true rfl⟩ (zk_book hB1) (by decide) rfl rfl rfl rfl (Nat.le_of_ble_eq_true rfl) dX1_daysOfItem_19 ⟨(Nat.zero_le _), (Nat.zero_le _)⟩ (fun H locs hZ hS => ?_)
  exact z_iret hx hb hr hlk hK hZ hS ⟨rfl, rfl⟩ dX1_daysOfItem_22
theorem hdX1_stateOf : yX1_stateOf.cls = RX1 ∧ yX1_stateOf.cls ≠ "java/lang/invoke/MethodHandle" ∧ yX1_stateOf.cls ≠ "java/lang/invoke/VarHandle" ∧ (parseMethodDescriptor yX1_stateOf.desc).map (fun d => d.parameters.length) = some 1 := by decide +kernel
set_option maxHeartbeats 4000000 in
set_option maxRecDepth 100000 in
theorem c_X1_stateOf (l : Launch) (G : zG) (μ : zM) (fb : Nat → Int32) (hfb : μ 1 = fb) (n : Nat) (f : Nat → Int32) (hk : zk n = 6) (hf : μ n = f) (T h : Nat) (hT : fb 3 = nI T) (hT6 : T ≤ 6) (hh : h < T) (he : f 0 = nI h) (g : Nat → Int32) (hg : μ (1 + (3 + 2 * h)) = g) : zMet l G yX1_stateOf cX1_stateOf 3 (some .int) 1 21 [.ref (G.1 + 1), .ref (G.1 + n)] μ (zQi G (g 2) μ) := by
  refine z_start (lv := [(0, .ref (G.1 + 1)), (1, .ref (G.1 + n))]) (by decide) (Nat.le_of_ble_eq_true rfl) rfl ?_
  intro p e s m args below meth c ls hx hb hml hr hlk hts hown hK hZ hS hl
  have hown : s.vm.findClass RX1 = some m.cls := hown
  refine lv_aload_n hx hb dX1_stateOf_0 rfl (lv_at hl 0 rfl) ?_
  refine lv_aload_n hx hb dX1_stateOf_1 rfl (lv_at hl 1 rfl) ?_
  refine z_g6 (f := f) (v := .int (nI h)) 0 hx hb hts hown hK hZ hk hf (by decide) q100 (congrArg (fun z => some (Value.int z)) he) dX1_stateOf_2 ?_
  refine z_cVr (As := [.int (nI h)]) (rest := []) hx hb hml hown hts hl hK hZ hS (c_X1_tenancyAt_ok l G μ 1 hB1 fb hfb T h hT hT6 hh) (z_G q261 q262 q263 q2 q264) hdX1_tenancyAt ⟨Nat.le_of_ble_eq_true rfl, Nat.le_of_ble_eq_true rfl⟩ (zk_book hB1) (by decide) rfl rfl rfl rfl (Nat.le_of_ble_eq_true rfl) dX1_stateOf_5 ⟨(Nat.zero_le _), (Nat.zero_le _)⟩ (fun H locs hZ hS => ?_)
  refine lv_astore_n (lv' := [(2, .ref (G.1 + (1 + (3 + 2 * h)))), (0, .ref (G.1 + 1)), (1, .ref (G.1 + n))]) hx hb dX1_stateOf_8 rfl hl (by decide) rfl (fun ls hl => ?_)
  refine lv_aload_n hx hb dX1_stateOf_9 rfl (lv_at hl 0 rfl) ?_
  refine lv_ifnonnull (tgt := 17) hx hb dX1_stateOf_10 (by decide) ?_
  refine lv_aload_n hx hb dX1_stateOf_17 rfl (lv_at hl 0 rfl) ?_
  refine z_g4 (f := g) (v := .int (g 2)) 2 hx hb hts hown hK hZ (zk_ten hB1 (by omega)) hg (by decide) q67 rfl dX1_stateOf_18 ?_
  exact z_iret hx hb hr hlk hK hZ hS ⟨rfl, rfl⟩ dX1_stateOf_21
def s_X1_can (f g : Nat → Int32) : Int32 := if g 2 = 2 then (if f 7 ≤ 0 then 0 else 1) else 0
theorem hdX1_canBeAnswered : yX1_canBeAnswered.cls = RX1 ∧ yX1_canBeAnswered.cls ≠ "java/lang/invoke/MethodHandle" ∧ yX1_canBeAnswered.cls ≠ "java/lang/invoke/VarHandle" ∧ (parseMethodDescriptor yX1_canBeAnswered.desc).map (fun d => d.parameters.length) = some 1 := by decide +kernel
set_option maxHeartbeats 4000000 in
set_option maxRecDepth 100000 in
theorem c_X1_canBeAnswered (l : Launch) (G : zG) (μ : zM) (fb : Nat → Int32) (hfb : μ 1 = fb) (n : Nat) (f : Nat → Int32) (hk : zk n = 6) (hf : μ n = f) (T h : Nat) (hT : fb 3 = nI T) (hT6 : T ≤ 6) (hh : h < T) (he : f 0 = nI h) (g : Nat → Int32) (hg : μ (1 + (3 + 2 * h)) = g) : zMet l G yX1_canBeAnswered cX1_canBeAnswered 2 (some .boolean) 2 43 [.ref (G.1 + 1), .ref (G.1 + n)] μ (zQi G (s_X1_can f g) μ) := by
  refine z_start (lv := [(0, .ref (G.1 + 1)), (1, .ref (G.1 + n))]) (by decide) (Nat.le_of_ble_eq_true rfl) rfl ?_
  intro p e s m args below meth c ls hx hb hml hr hlk hts hown hK hZ hS hl
  have hown : s.vm.findClass RX1 = some m.cls := hown
  refine lv_aload_n hx hb dX1_canBeAnswered_0 rfl (lv_at hl 0 rfl) ?_
  refine lv_aload_n hx hb dX1_canBeAnswered_1 rfl (lv_at hl 1 rfl) ?_
  refine z_cVi (As := [.ref (G.1 + n)]) (rest := []) hx hb hml hown hts hl hK hZ hS (c_X1_stateOf l G μ fb hfb n f hk hf T h hT hT6 hh he g hg) (z_G q527 q412 q413 q2 q414) hdX1_stateOf ⟨Nat.le_of_ble_eq_true rfl, Nat.le_of_ble_eq_true rfl⟩ (zk_book hB1) (by decide) rfl rfl rfl rfl (Nat.le_of_ble_eq_true rfl) dX1_canBeAnswered_2 ⟨(Nat.zero_le _), (Nat.zero_le _)⟩ (fun H locs hZ hS => ?_)
  refine lv_iconst (v := 2) hx hb dX1_canBeAnswered_5 (by decide) ?_
  refine lv_icmp_ne (tgt := 20) hx hb dX1_canBeAnswered_6 (by decide) (fun c_1 => ?_) (fun c_1 => ?_)
  · refine lv_iconst (v := 0) hx hb dX1_canBeAnswered_20 (by decide) ?_
    exact z_zret hx hb hr hlk rfl hK hZ hS ⟨by rw [s_X1_can, if_neg c_1], rfl⟩ dX1_canBeAnswered_21
  · refine lv_aload_n hx hb dX1_canBeAnswered_9 rfl (lv_at hl 1 rfl) ?_
    refine z_g6 (f := f) (v := .int (f 7)) 7 hx hb hts hown hK hZ hk hf (by decide) q115 rfl dX1_canBeAnswered_10 ?_
    refine lv_if_le (tgt := 20) hx hb dX1_canBeAnswered_13 (by decide) (fun c_2 => ?_) (fun c_2 => ?_)
    · refine lv_iconst (v := 0) hx hb dX1_canBeAnswered_20 (by decide) ?_
      exact z_zret hx hb hr hlk rfl hK hZ hS ⟨by rw [s_X1_can, if_pos c_1, if_pos c_2], rfl⟩ dX1_canBeAnswered_21
    · refine lv_iconst (v := 1) hx hb dX1_canBeAnswered_16 (by decide) ?_
      refine lv_goto (tgt := 21) hx hb dX1_canBeAnswered_17 (by decide) ?_
      exact z_zret hx hb hr hlk rfl hK hZ hS ⟨by rw [s_X1_can, if_pos c_1, if_neg c_2], rfl⟩ dX1_canBeAnswered_21
def s_share (f : Nat → Int32) (w : Nat) : Int32 := if f 8 = 2 then
    (match w with | 0 => 1 | 1 => (if f 7 ≤ 0 then 0 else 1) | 2 => f 7 | 3 => f 6 | 4 => 1 | 5 => f 7 | 6 => s_X3_award f | _ => 0)
  else (match w with | 0 => 1 | 1 => (if f 7 ≤ 0 then 0 else 1) | 2 => f 7 | 3 => f 6 | _ => 0)
theorem hdX1_shareOf : yX1_shareOf.cls = RX1 ∧ yX1_shareOf.cls ≠ "java/lang/invoke/MethodHandle" ∧ yX1_shareOf.cls ≠ "java/lang/invoke/VarHandle" ∧ (parseMethodDescriptor yX1_shareOf.desc).map (fun d => d.parameters.length) = some 2 := by decide +kernel
set_option maxHeartbeats 4000000 in
set_option maxRecDepth 100000 in
theorem c_X1_shareOf (l : Launch) (G : zG) (μ : zM) (o1 : Nat) (hko : zk o1 = 1) (n : Nat) (f : Nat → Int32) (hk : zk n = 6) (hf : μ n = f) (w : Nat) (hw : w ≤ 6) : zMet l G yX1_shareOf cX1_shareOf 4 (some .int) 2 41 [.ref (G.1 + o1), .ref (G.1 + n), .int (nI w)] μ (zQi G (s_share f w) μ) := by
  refine z_start (lv := [(0, .ref (G.1 + o1)), (1, .ref (G.1 + n)), (2, .int (nI w))]) (by decide) (Nat.le_of_ble_eq_true rfl) rfl ?_
  intro p e s m args below meth c ls hx hb hml hr hlk hts hown hK hZ hS hl
  have hown : s.vm.findClass RX1 = some m.cls := hown
  refine lv_aload_n hx hb dX1_shareOf_0 rfl (lv_at hl 1 rfl) ?_
  refine z_g6 (f := f) (v := .int (f 8)) 8 hx hb hts hown hK hZ hk hf (by decide) q118 rfl dX1_shareOf_1 ?_
  refine lv_iconst (v := 2) hx hb dX1_shareOf_4 (by decide) ?_
  refine lv_icmp_ne (tgt := 12) hx hb dX1_shareOf_5 (by decide) (fun c_1 => ?_) (fun c_1 => ?_)
  · refine lv_iconst (v := 0) hx hb dX1_shareOf_12 (by decide) ?_
    refine lv_istore_n (lv' := [(3, .int 0), (0, .ref (G.1 + o1)), (1, .ref (G.1 + n)), (2, .int (nI w))]) hx hb dX1_shareOf_13 rfl hl (by decide) rfl (fun ls hl => ?_)
    refine lv_iload_n hx hb dX1_shareOf_14 rfl (lv_at hl 3 rfl) ?_
    have hcs : w = 0 ∨ w = 1 ∨ w = 2 ∨ w = 3 ∨ w = 4 ∨ w = 5 ∨ w = 6 := by omega
    rcases hcs with rfl | rfl | rfl | rfl | rfl | rfl | rfl
    · refine lv_tableIn (off := 41) (tgt := 56) hx hb dX1_shareOf_15 (by decide) (by decide) rfl (by decide) ?_
      refine lv_iconst (v := 1) hx hb dX1_shareOf_56 (by decide) ?_
      exact z_iret hx hb hr hlk hK hZ hS ⟨(if_neg c_1).symm, rfl⟩ dX1_shareOf_57
    · refine lv_tableIn (off := 43) (tgt := 58) hx hb dX1_shareOf_15 (by decide) (by decide) rfl (by decide) ?_
      refine lv_aload_n hx hb dX1_shareOf_58 rfl (lv_at hl 2 rfl) ?_
      refine z_g6 (f := f) (v := .int (f 7)) 7 hx hb hts hown hK hZ hk hf (by decide) q115 rfl dX1_shareOf_59 ?_
      refine lv_if_le (tgt := 69) hx hb dX1_shareOf_62 (by decide) (fun c_2 => ?_) (fun c_2 => ?_)
      · refine lv_iconst (v := 0) hx hb dX1_shareOf_69 (by decide) ?_
        exact z_iret hx hb hr hlk hK hZ hS ⟨((if_neg c_1).trans (if_pos c_2)).symm, rfl⟩ dX1_shareOf_70
      · refine lv_iconst (v := 1) hx hb dX1_shareOf_65 (by decide) ?_
        refine lv_goto (tgt := 70) hx hb dX1_shareOf_66 (by decide) ?_
        exact z_iret hx hb hr hlk hK hZ hS ⟨((if_neg c_1).trans (if_neg c_2)).symm, rfl⟩ dX1_shareOf_70
    · refine lv_tableIn (off := 56) (tgt := 71) hx hb dX1_shareOf_15 (by decide) (by decide) rfl (by decide) ?_
      refine lv_aload_n hx hb dX1_shareOf_71 rfl (lv_at hl 2 rfl) ?_
      refine z_g6 (f := f) (v := .int (f 7)) 7 hx hb hts hown hK hZ hk hf (by decide) q115 rfl dX1_shareOf_72 ?_
      exact z_iret hx hb hr hlk hK hZ hS ⟨(if_neg c_1).symm, rfl⟩ dX1_shareOf_75
    · refine lv_tableIn (off := 61) (tgt := 76) hx hb dX1_shareOf_15 (by decide) (by decide) rfl (by decide) ?_
      refine lv_aload_n hx hb dX1_shareOf_76 rfl (lv_at hl 2 rfl) ?_
      refine z_g6 (f := f) (v := .int (f 6)) 6 hx hb hts hown hK hZ hk hf (by decide) q112 rfl dX1_shareOf_77 ?_
      exact z_iret hx hb hr hlk hK hZ hS ⟨(if_neg c_1).symm, rfl⟩ dX1_shareOf_80
    · refine lv_tableIn (off := 66) (tgt := 81) hx hb dX1_shareOf_15 (by decide) (by decide) rfl (by decide) ?_
      refine lv_iload_n hx hb dX1_shareOf_81 rfl (lv_at hl 0 rfl) ?_
      refine lv_if_eq (tgt := 89) hx hb dX1_shareOf_82 (by decide) (fun c_3 => ?_) (fun c_3 => ?_)
      · refine lv_iconst (v := 0) hx hb dX1_shareOf_89 (by decide) ?_
        exact z_iret hx hb hr hlk hK hZ hS ⟨(if_neg c_1).symm, rfl⟩ dX1_shareOf_90
      · exact absurd rfl c_3
    · refine lv_tableIn (off := 76) (tgt := 91) hx hb dX1_shareOf_15 (by decide) (by decide) rfl (by decide) ?_
      refine lv_iload_n hx hb dX1_shareOf_91 rfl (lv_at hl 0 rfl) ?_
      refine lv_if_eq (tgt := 102) hx hb dX1_shareOf_92 (by decide) (fun c_4 => ?_) (fun c_4 => ?_)
      · refine lv_iconst (v := 0) hx hb dX1_shareOf_102 (by decide) ?_
        exact z_iret hx hb hr hlk hK hZ hS ⟨(if_neg c_1).symm, rfl⟩ dX1_shareOf_103
      · exact absurd rfl c_4
    · refine lv_tableIn (off := 89) (tgt := 104) hx hb dX1_shareOf_15 (by decide) (by decide) rfl (by decide) ?_
      refine lv_iload_n hx hb dX1_shareOf_104 rfl (lv_at hl 0 rfl) ?_
      refine lv_if_eq (tgt := 115) hx hb dX1_shareOf_105 (by decide) (fun c_5 => ?_) (fun c_5 => ?_)
      · refine lv_iconst (v := 0) hx hb dX1_shareOf_115 (by decide) ?_
        exact z_iret hx hb hr hlk hK hZ hS ⟨(if_neg c_1).symm, rfl⟩ dX1_shareOf_116
      · exact absurd rfl c_5
  · refine lv_iconst (v := 1) hx hb dX1_shareOf_8 (by decide) ?_
    refine lv_goto (tgt := 13) hx hb dX1_shareOf_9 (by decide) ?_
    refine lv_istore_n (lv' := [(3, .int 1), (0, .ref (G.1 + o1)), (1, .ref (G.1 + n)), (2, .int (nI w))]) hx hb dX1_shareOf_13 rfl hl (by decide) rfl (fun ls hl => ?_)
    refine lv_iload_n hx hb dX1_shareOf_14 rfl (lv_at hl 3 rfl) ?_
    have hcs : w = 0 ∨ w = 1 ∨ w = 2 ∨ w = 3 ∨ w = 4 ∨ w = 5 ∨ w = 6 := by omega
    rcases hcs with rfl | rfl | rfl | rfl | rfl | rfl | rfl
    · refine lv_tableIn (off := 41) (tgt := 56) hx hb dX1_shareOf_15 (by decide) (by decide) rfl (by decide) ?_
      refine lv_iconst (v := 1) hx hb dX1_shareOf_56 (by decide) ?_
      exact z_iret hx hb hr hlk hK hZ hS ⟨(if_pos c_1).symm, rfl⟩ dX1_shareOf_57
    · refine lv_tableIn (off := 43) (tgt := 58) hx hb dX1_shareOf_15 (by decide) (by decide) rfl (by decide) ?_
      refine lv_aload_n hx hb dX1_shareOf_58 rfl (lv_at hl 2 rfl) ?_
      refine z_g6 (f := f) (v := .int (f 7)) 7 hx hb hts hown hK hZ hk hf (by decide) q115 rfl dX1_shareOf_59 ?_
      refine lv_if_le (tgt := 69) hx hb dX1_shareOf_62 (by decide) (fun c_6 => ?_) (fun c_6 => ?_)
      · refine lv_iconst (v := 0) hx hb dX1_shareOf_69 (by decide) ?_
        exact z_iret hx hb hr hlk hK hZ hS ⟨((if_pos c_1).trans (if_pos c_6)).symm, rfl⟩ dX1_shareOf_70
      · refine lv_iconst (v := 1) hx hb dX1_shareOf_65 (by decide) ?_
        refine lv_goto (tgt := 70) hx hb dX1_shareOf_66 (by decide) ?_
        exact z_iret hx hb hr hlk hK hZ hS ⟨((if_pos c_1).trans (if_neg c_6)).symm, rfl⟩ dX1_shareOf_70
    · refine lv_tableIn (off := 56) (tgt := 71) hx hb dX1_shareOf_15 (by decide) (by decide) rfl (by decide) ?_
      refine lv_aload_n hx hb dX1_shareOf_71 rfl (lv_at hl 2 rfl) ?_
      refine z_g6 (f := f) (v := .int (f 7)) 7 hx hb hts hown hK hZ hk hf (by decide) q115 rfl dX1_shareOf_72 ?_
      exact z_iret hx hb hr hlk hK hZ hS ⟨(if_pos c_1).symm, rfl⟩ dX1_shareOf_75
    · refine lv_tableIn (off := 61) (tgt := 76) hx hb dX1_shareOf_15 (by decide) (by decide) rfl (by decide) ?_
      refine lv_aload_n hx hb dX1_shareOf_76 rfl (lv_at hl 2 rfl) ?_
      refine z_g6 (f := f) (v := .int (f 6)) 6 hx hb hts hown hK hZ hk hf (by decide) q112 rfl dX1_shareOf_77 ?_
      exact z_iret hx hb hr hlk hK hZ hS ⟨(if_pos c_1).symm, rfl⟩ dX1_shareOf_80
    · refine lv_tableIn (off := 66) (tgt := 81) hx hb dX1_shareOf_15 (by decide) (by decide) rfl (by decide) ?_
      refine lv_iload_n hx hb dX1_shareOf_81 rfl (lv_at hl 0 rfl) ?_
      refine lv_if_eq (tgt := 89) hx hb dX1_shareOf_82 (by decide) (fun c_7 => ?_) (fun c_7 => ?_)
      · exact absurd c_7 (by decide)
      · refine lv_iconst (v := 1) hx hb dX1_shareOf_85 (by decide) ?_
        refine lv_goto (tgt := 90) hx hb dX1_shareOf_86 (by decide) ?_
        exact z_iret hx hb hr hlk hK hZ hS ⟨(if_pos c_1).symm, rfl⟩ dX1_shareOf_90
    · refine lv_tableIn (off := 76) (tgt := 91) hx hb dX1_shareOf_15 (by decide) (by decide) rfl (by decide) ?_
      refine lv_iload_n hx hb dX1_shareOf_91 rfl (lv_at hl 0 rfl) ?_
      refine lv_if_eq (tgt := 102) hx hb dX1_shareOf_92 (by decide) (fun c_8 => ?_) (fun c_8 => ?_)
      · exact absurd c_8 (by decide)
      · refine lv_aload_n hx hb dX1_shareOf_95 rfl (lv_at hl 2 rfl) ?_
        refine z_g6 (f := f) (v := .int (f 7)) 7 hx hb hts hown hK hZ hk hf (by decide) q115 rfl dX1_shareOf_96 ?_
        refine lv_goto (tgt := 103) hx hb dX1_shareOf_99 (by decide) ?_
        exact z_iret hx hb hr hlk hK hZ hS ⟨(if_pos c_1).symm, rfl⟩ dX1_shareOf_103
    · refine lv_tableIn (off := 89) (tgt := 104) hx hb dX1_shareOf_15 (by decide) (by decide) rfl (by decide) ?_
      refine lv_iload_n hx hb dX1_shareOf_104 rfl (lv_at hl 0 rfl) ?_
      refine lv_if_eq (tgt := 115) hx hb dX1_shareOf_105 (by decide) (fun c_9 => ?_) (fun c_9 => ?_)
      · exact absurd c_9 (by decide)
      · refine lv_aload_n hx hb dX1_shareOf_108 rfl (lv_at hl 2 rfl) ?_
        refine z_cVi (As := []) (rest := []) hx hb hml hown hts hl hK hZ hS (c_X3_award l G μ n f hk hf ) (z_G q345 q346 q347 q5 q348) hdX3_award ⟨Nat.le_of_ble_eq_true rfl, Nat.le_of_ble_eq_true rfl⟩ hk (by decide) rfl rfl rfl rfl (Nat.le_of_ble_eq_true rfl) dX1_shareOf_109 ⟨(Nat.zero_le _), (Nat.zero_le _)⟩ (fun H locs hZ hS => ?_)
        refine lv_goto (tgt := 116) hx hb dX1_shareOf_112 (by decide) ?_
        exact z_iret hx hb hr hlk hK hZ hS ⟨(if_pos c_1).symm, rfl⟩ dX1_shareOf_116
def s_tot (μ : zM) (t w : Nat) : Nat → Int32
  | 0 => 0
  | j + 1 => if μ (1 + (15 + j)) 0 = nI t then s_tot μ t w j + s_share (μ (1 + (15 + j))) w else s_tot μ t w j
theorem hdX1_total : yX1_total.cls = RX1 ∧ yX1_total.cls ≠ "java/lang/invoke/MethodHandle" ∧ yX1_total.cls ≠ "java/lang/invoke/VarHandle" ∧ (parseMethodDescriptor yX1_total.desc).map (fun d => d.parameters.length) = some 2 := by decide +kernel
set_option maxHeartbeats 4000000 in
set_option maxRecDepth 100000 in
theorem c_X1_total (l : Launch) (G : zG) (μ : zM) (fb : Nat → Int32) (hfb : μ 1 = fb) (I : Nat) (hI : fb 4 = nI I) (hI24 : I ≤ 24) (t w : Nat) (hw : w ≤ 6) : zMet l G yX1_total cX1_total 6 (some .int) 3 64 [.ref (G.1 + 1), .int (nI t), .int (nI w)] μ (zQi G (s_tot μ t w I) μ) := by
  refine z_start (lv := [(0, .ref (G.1 + 1)), (1, .int (nI t)), (2, .int (nI w))]) (by decide) (Nat.le_of_ble_eq_true rfl) rfl ?_
  intro p e s m args below meth c ls hx hb hml hr hlk hts hown hK hZ hS hl
  have hown : s.vm.findClass RX1 = some m.cls := hown
  have loop : ∀ (k j : Nat), j + k = I → ∀ (H : Heap) (locs : List Loc) (ls : Array Slot), zW G μ H → va_S (zA G) s.heap H locs → lv_has ls 6 [(0, .ref (G.1 + 1)), (1, .int (nI t)), (2, .int (nI w)), (3, .int (s_tot μ t w j)), (4, .int (nI j))] → W p l e { frames := 3, cells := 0, slots := 0, locals := 64 } s m args below meth c H locs 0 0 (MQ below (zQi G (s_tot μ t w I) μ) args s 0 0 (zA G)) (F0 m 5 ls []) := by
    intro k
    induction k with
    | zero =>
      intro j hj H locs ls hZ hS hl
      have hj : I = j := by omega
      subst hj
      refine lv_iload hx hb dX1_total_5 (lv_at hl 4 rfl) ?_
      refine lv_aload_n hx hb dX1_total_7 rfl (lv_at hl 0 rfl) ?_
      refine z_g1 (f := fb) (v := .int (nI I)) 4 hx hb hts hown hK hZ (zk_book hB1) hfb (by decide) q154 (congrArg (fun z => some (Value.int z)) hI) dX1_total_8 ?_
      refine lv_icmp_ge (tgt := 52) hx hb dX1_total_11 (by decide) (fun c_1 => ?_) (fun c_1 => ?_)
      · refine lv_iload_n hx hb dX1_total_52 rfl (lv_at hl 3 rfl) ?_
        exact z_iret hx hb hr hlk hK hZ hS ⟨rfl, rfl⟩ dX1_total_53
      · exact absurd (nI_le (Nat.le_refl _) (by omega)) c_1
    | succ k ih =>
      intro j hj H locs ls hZ hS hl
      refine lv_iload hx hb dX1_total_5 (lv_at hl 4 rfl) ?_
      refine lv_aload_n hx hb dX1_total_7 rfl (lv_at hl 0 rfl) ?_
      refine z_g1 (f := fb) (v := .int (nI I)) 4 hx hb hts hown hK hZ (zk_book hB1) hfb (by decide) q154 (congrArg (fun z => some (Value.int z)) hI) dX1_total_8 ?_
      refine lv_icmp_ge (tgt := 52) hx hb dX1_total_11 (by decide) (fun c_2 => ?_) (fun c_2 => ?_)
      · exact absurd c_2 (nI_ge (by omega) (by omega))
      · refine lv_aload_n hx hb dX1_total_14 rfl (lv_at hl 0 rfl) ?_
        refine lv_iload hx hb dX1_total_15 (lv_at hl 4 rfl) ?_
        refine z_cVr (As := [.int (nI j)]) (rest := []) hx hb hml hown hts hl hK hZ hS (c_X1_itemAt_ok l G μ 1 hB1 fb hfb I j hI hI24 (by omega)) (z_G q273 q274 q275 q2 q276) hdX1_itemAt ⟨Nat.le_of_ble_eq_true rfl, Nat.le_of_ble_eq_true rfl⟩ (zk_book hB1) (by decide) rfl rfl rfl rfl (Nat.le_of_ble_eq_true rfl) dX1_total_17 ⟨(Nat.zero_le _), (Nat.zero_le _)⟩ (fun H locs hZ hS => ?_)
        refine lv_astore (lv' := [(5, .ref (G.1 + (1 + (15 + j)))), (0, .ref (G.1 + 1)), (1, .int (nI t)), (2, .int (nI w)), (3, .int (s_tot μ t w j)), (4, .int (nI j))]) hx hb dX1_total_20 hl (by decide) rfl (fun ls hl => ?_)
        refine lv_aload hx hb dX1_total_22 (lv_at hl 0 rfl) ?_
        refine lv_ifnull hx hb dX1_total_24 ?_
        refine lv_aload hx hb dX1_total_27 (lv_at hl 0 rfl) ?_
        refine z_g6 (f := (μ (1 + (15 + j)))) (v := .int ((μ (1 + (15 + j))) 0)) 0 hx hb hts hown hK hZ (zk_item hB1 (by omega)) rfl (by decide) q100 rfl dX1_total_29 ?_
        refine lv_iload_n hx hb dX1_total_32 rfl (lv_at hl 2 rfl) ?_
        refine lv_icmp_ne (tgt := 46) hx hb dX1_total_33 (by decide) (fun c_3 => ?_) (fun c_3 => ?_)
        · refine lv_iinc (v := (nI (j + 1))) (lv' := [(4, .int (nI (j + 1))), (5, .ref (G.1 + (1 + (15 + j)))), (0, .ref (G.1 + 1)), (1, .int (nI t)), (2, .int (nI w)), (3, .int (s_tot μ t w j))]) hx hb dX1_total_46 hl (k := 5) rfl (nI_1 _) (by decide) rfl (fun ls hl => ?_)
          refine lv_goto (tgt := 5) hx hb dX1_total_49 (by decide) ?_
          rw [show s_tot μ t w j = s_tot μ t w (j + 1) from (if_neg c_3).symm] at hl
          exact ih (j + 1) (by omega) _ _ _ hZ hS (lv_sub hl [2, 3, 4, 5, 0] rfl)
        · refine lv_iload_n hx hb dX1_total_36 rfl (lv_at hl 4 rfl) ?_
          refine lv_aload_n hx hb dX1_total_37 rfl (lv_at hl 1 rfl) ?_
          refine lv_aload hx hb dX1_total_38 (lv_at hl 0 rfl) ?_
          refine lv_iload_n hx hb dX1_total_40 rfl (lv_at hl 3 rfl) ?_
          refine z_cVi (As := [.ref (G.1 + (1 + (15 + j))), .int (nI w)]) (rest := [.int (s_tot μ t w j)]) hx hb hml hown hts hl hK hZ hS (c_X1_shareOf l G μ 1 (zk_book hB1) (1 + (15 + j)) (μ (1 + (15 + j))) (zk_item hB1 (by omega)) rfl w (by omega)) (z_G q341 q342 q343 q2 q344) hdX1_shareOf ⟨Nat.le_of_ble_eq_true rfl, Nat.le_of_ble_eq_true rfl⟩ (zk_book hB1) (by decide) rfl rfl rfl rfl (Nat.le_of_ble_eq_true rfl) dX1_total_41 ⟨(Nat.zero_le _), (Nat.zero_le _)⟩ (fun H locs hZ hS => ?_)
          refine lv_iadd hx hb dX1_total_44 ?_
          refine lv_istore_n (lv' := [(3, .int ((s_tot μ t w j) + (s_share (μ (1 + (15 + j))) w))), (5, .ref (G.1 + (1 + (15 + j)))), (0, .ref (G.1 + 1)), (1, .int (nI t)), (2, .int (nI w)), (4, .int (nI j))]) hx hb dX1_total_45 rfl hl (by decide) rfl (fun ls hl => ?_)
          refine lv_iinc (v := (nI (j + 1))) (lv' := [(4, .int (nI (j + 1))), (3, .int ((s_tot μ t w j) + (s_share (μ (1 + (15 + j))) w))), (5, .ref (G.1 + (1 + (15 + j)))), (0, .ref (G.1 + 1)), (1, .int (nI t)), (2, .int (nI w))]) hx hb dX1_total_46 hl (k := 5) rfl (nI_1 _) (by decide) rfl (fun ls hl => ?_)
          refine lv_goto (tgt := 5) hx hb dX1_total_49 (by decide) ?_
          rw [show s_tot μ t w j + s_share (μ (1 + (15 + j))) w = s_tot μ t w (j + 1) from (if_pos c_3).symm] at hl
          exact ih (j + 1) (by omega) _ _ _ hZ hS (lv_sub hl [3, 4, 5, 1, 0] rfl)
  refine lv_iconst (v := 0) hx hb dX1_total_0 (by decide) ?_
  refine lv_istore_n (lv' := [(3, .int 0), (0, .ref (G.1 + 1)), (1, .int (nI t)), (2, .int (nI w))]) hx hb dX1_total_1 rfl hl (by decide) rfl (fun ls hl => ?_)
  refine lv_iconst (v := 0) hx hb dX1_total_2 (by decide) ?_
  refine lv_istore (lv' := [(4, .int 0), (3, .int 0), (0, .ref (G.1 + 1)), (1, .int (nI t)), (2, .int (nI w))]) hx hb dX1_total_3 hl (by decide) rfl (fun ls hl => ?_)
  exact loop I 0 (by omega) _ _ _ hZ hS (lv_sub hl [2, 3, 4, 1, 0] rfl)
def s_tin (μ : zM) (q : Nat) : Nat → Nat
  | 0 => 0
  | i + 1 => if μ (1 + (3 + 2 * i)) 2 = nI q then s_tin μ q i + 1 else s_tin μ q i
theorem hdX1_tenanciesIn : yX1_tenanciesIn.cls = RX1 ∧ yX1_tenanciesIn.cls ≠ "java/lang/invoke/MethodHandle" ∧ yX1_tenanciesIn.cls ≠ "java/lang/invoke/VarHandle" ∧ (parseMethodDescriptor yX1_tenanciesIn.desc).map (fun d => d.parameters.length) = some 1 := by decide +kernel
set_option maxHeartbeats 4000000 in
set_option maxRecDepth 100000 in
theorem c_X1_tenanciesIn (l : Launch) (G : zG) (μ : zM) (fb : Nat → Int32) (hfb : μ 1 = fb) (T : Nat) (hT : fb 3 = nI T) (hT6 : T ≤ 6) (q : Nat) : zMet l G yX1_tenanciesIn cX1_tenanciesIn 5 (some .int) 1 21 [.ref (G.1 + 1), .int (nI q)] μ (zQi G (nI (s_tin μ q T)) μ) := by
  refine z_start (lv := [(0, .ref (G.1 + 1)), (1, .int (nI q))]) (by decide) (Nat.le_of_ble_eq_true rfl) rfl ?_
  intro p e s m args below meth c ls hx hb hml hr hlk hts hown hK hZ hS hl
  have hown : s.vm.findClass RX1 = some m.cls := hown
  have loop : ∀ (k j : Nat), j + k = T → ∀ (H : Heap) (locs : List Loc) (ls : Array Slot), zW G μ H → va_S (zA G) s.heap H locs → lv_has ls 5 [(0, .ref (G.1 + 1)), (1, .int (nI q)), (2, .int (nI (s_tin μ q j))), (3, .int (nI j))] → W p l e { frames := 1, cells := 0, slots := 0, locals := 21 } s m args below meth c H locs 0 0 (MQ below (zQi G (nI (s_tin μ q T)) μ) args s 0 0 (zA G)) (F0 m 4 ls []) := by
    intro k
    induction k with
    | zero =>
      intro j hj H locs ls hZ hS hl
      have hj : T = j := by omega
      subst hj
      refine lv_iload_n hx hb dX1_tenanciesIn_4 rfl (lv_at hl 3 rfl) ?_
      refine lv_aload_n hx hb dX1_tenanciesIn_5 rfl (lv_at hl 0 rfl) ?_
      refine z_g1 (f := fb) (v := .int (nI T)) 3 hx hb hts hown hK hZ (zk_book hB1) hfb (by decide) q152 (congrArg (fun z => some (Value.int z)) hT) dX1_tenanciesIn_6 ?_
      refine lv_icmp_ge (tgt := 42) hx hb dX1_tenanciesIn_9 (by decide) (fun c_1 => ?_) (fun c_1 => ?_)
      · refine lv_iload_n hx hb dX1_tenanciesIn_42 rfl (lv_at hl 2 rfl) ?_
        exact z_iret hx hb hr hlk hK hZ hS ⟨rfl, rfl⟩ dX1_tenanciesIn_43
      · exact absurd (nI_le (Nat.le_refl _) (by omega)) c_1
    | succ k ih =>
      intro j hj H locs ls hZ hS hl
      refine lv_iload_n hx hb dX1_tenanciesIn_4 rfl (lv_at hl 3 rfl) ?_
      refine lv_aload_n hx hb dX1_tenanciesIn_5 rfl (lv_at hl 0 rfl) ?_
      refine z_g1 (f := fb) (v := .int (nI T)) 3 hx hb hts hown hK hZ (zk_book hB1) hfb (by decide) q152 (congrArg (fun z => some (Value.int z)) hT) dX1_tenanciesIn_6 ?_
      refine lv_icmp_ge (tgt := 42) hx hb dX1_tenanciesIn_9 (by decide) (fun c_2 => ?_) (fun c_2 => ?_)
      · exact absurd c_2 (nI_ge (by omega) (by omega))
      · refine lv_aload_n hx hb dX1_tenanciesIn_12 rfl (lv_at hl 0 rfl) ?_
        refine lv_iload_n hx hb dX1_tenanciesIn_13 rfl (lv_at hl 3 rfl) ?_
        refine z_cVr (As := [.int (nI j)]) (rest := []) hx hb hml hown hts hl hK hZ hS (c_X1_tenancyAt_ok l G μ 1 hB1 fb hfb T j hT hT6 (by omega)) (z_G q261 q262 q263 q2 q264) hdX1_tenancyAt ⟨Nat.le_of_ble_eq_true rfl, Nat.le_of_ble_eq_true rfl⟩ (zk_book hB1) (by decide) rfl rfl rfl rfl (Nat.le_of_ble_eq_true rfl) dX1_tenanciesIn_14 ⟨(Nat.zero_le _), (Nat.zero_le _)⟩ (fun H locs hZ hS => ?_)
        refine lv_astore (lv' := [(4, .ref (G.1 + (1 + (3 + 2 * j)))), (0, .ref (G.1 + 1)), (1, .int (nI q)), (2, .int (nI (s_tin μ q j))), (3, .int (nI j))]) hx hb dX1_tenanciesIn_17 hl (by decide) rfl (fun ls hl => ?_)
        refine lv_aload hx hb dX1_tenanciesIn_19 (lv_at hl 0 rfl) ?_
        refine lv_ifnull hx hb dX1_tenanciesIn_21 ?_
        refine lv_aload hx hb dX1_tenanciesIn_24 (lv_at hl 0 rfl) ?_
        refine z_g4 (f := (μ (1 + (3 + 2 * j)))) (v := .int ((μ (1 + (3 + 2 * j))) 2)) 2 hx hb hts hown hK hZ (zk_ten hB1 (by omega)) rfl (by decide) q67 rfl dX1_tenanciesIn_26 ?_
        refine lv_iload_n hx hb dX1_tenanciesIn_29 rfl (lv_at hl 2 rfl) ?_
        refine lv_icmp_ne (tgt := 36) hx hb dX1_tenanciesIn_30 (by decide) (fun c_3 => ?_) (fun c_3 => ?_)
        · refine lv_iinc (v := (nI (j + 1))) (lv' := [(3, .int (nI (j + 1))), (4, .ref (G.1 + (1 + (3 + 2 * j)))), (0, .ref (G.1 + 1)), (1, .int (nI q)), (2, .int (nI (s_tin μ q j)))]) hx hb dX1_tenanciesIn_36 hl (k := 4) rfl (nI_1 _) (by decide) rfl (fun ls hl => ?_)
          refine lv_goto (tgt := 4) hx hb dX1_tenanciesIn_39 (by decide) ?_
          rw [show s_tin μ q j = s_tin μ q (j + 1) from (if_neg c_3).symm] at hl
          exact ih (j + 1) (by omega) _ _ _ hZ hS (lv_sub hl [2, 3, 4, 0] rfl)
        · refine lv_iinc (v := (nI ((s_tin μ q j) + 1))) (lv' := [(2, .int (nI ((s_tin μ q j) + 1))), (4, .ref (G.1 + (1 + (3 + 2 * j)))), (0, .ref (G.1 + 1)), (1, .int (nI q)), (3, .int (nI j))]) hx hb dX1_tenanciesIn_33 hl (k := 3) rfl (nI_1 _) (by decide) rfl (fun ls hl => ?_)
          refine lv_iinc (v := (nI (j + 1))) (lv' := [(3, .int (nI (j + 1))), (2, .int (nI ((s_tin μ q j) + 1))), (4, .ref (G.1 + (1 + (3 + 2 * j)))), (0, .ref (G.1 + 1)), (1, .int (nI q))]) hx hb dX1_tenanciesIn_36 hl (k := 4) rfl (nI_1 _) (by decide) rfl (fun ls hl => ?_)
          refine lv_goto (tgt := 4) hx hb dX1_tenanciesIn_39 (by decide) ?_
          rw [show s_tin μ q j + 1 = s_tin μ q (j + 1) from (if_pos c_3).symm] at hl
          exact ih (j + 1) (by omega) _ _ _ hZ hS (lv_sub hl [3, 4, 1, 0] rfl)
  refine lv_iconst (v := 0) hx hb dX1_tenanciesIn_0 (by decide) ?_
  refine lv_istore_n (lv' := [(2, .int 0), (0, .ref (G.1 + 1)), (1, .int (nI q))]) hx hb dX1_tenanciesIn_1 rfl hl (by decide) rfl (fun ls hl => ?_)
  refine lv_iconst (v := 0) hx hb dX1_tenanciesIn_2 (by decide) ?_
  refine lv_istore_n (lv' := [(3, .int 0), (2, .int 0), (0, .ref (G.1 + 1)), (1, .int (nI q))]) hx hb dX1_tenanciesIn_3 rfl hl (by decide) rfl (fun ls hl => ?_)
  exact loop T 0 (by omega) _ _ _ hZ hS (lv_sub hl [2, 3, 1, 0] rfl)
theorem s_tot_zr {μ : zM} {q t w : Nat} {r : Nat → Int32} (hq : ∀ j, j < 24 → q ≠ 1 + (15 + j)) : ∀ {I : Nat}, I ≤ 24 → s_tot (zr μ q r) t w I = s_tot μ t w I
  | 0, _ => rfl
  | j + 1, h => by
    have hj : zr μ q r (1 + (15 + j)) = μ (1 + (15 + j)) := zr_ne (Ne.symm (hq j (by omega)))
    show (if zr μ q r (1 + (15 + j)) 0 = nI t then s_tot (zr μ q r) t w j + s_share (zr μ q r (1 + (15 + j))) w else s_tot (zr μ q r) t w j) = (if μ (1 + (15 + j)) 0 = nI t then s_tot μ t w j + s_share (μ (1 + (15 + j))) w else s_tot μ t w j)
    rw [hj, s_tot_zr hq (Nat.le_of_succ_le h)]
def s_lf (μ : zM) (fb : Nat → Int32) (t I : Nat) : Int32 := FP.f2i (FP.fdiv (FP.fmul (FP.i2f (fb 1)) (FP.i2f (s_tot μ t 5 I - s_tot μ t 6 I))) (FP.i2f (s_tot μ t 5 I)))
def s_pot (fb g : Nat → Int32) : Int32 := g 0 + s_X1_interestOf fb g
def s_fee (μ : zM) (fb g : Nat → Int32) (t I : Nat) : Nat → Int32 := if s_tot μ t 5 I ≤ 0 then w_X4_start (s_pot fb g) else w_X4_takeFee (w_X4_start (s_pot fb g)) (s_lf μ fb t I) (fb 1 - s_lf μ fb t I)
def s_pay (μ : zM) (t : Nat) (r : Nat → Int32) : Nat → Nat → Int32
  | 0 => r
  | j + 1 => if μ (1 + (15 + j)) 0 = nI t then w_X4_payLandlord (s_pay μ t r j) (s_X3_award (μ (1 + (15 + j)))) else s_pay μ t r j
def s_settle (μ : zM) (fb g : Nat → Int32) (t I : Nat) : Nat → Int32 := w_X4_payLandlord (s_pay μ t (s_fee μ fb g t I) I) (g 4)
theorem hdX1_settle : yX1_settle.cls = RX1 ∧ yX1_settle.cls ≠ "java/lang/invoke/MethodHandle" ∧ yX1_settle.cls ≠ "java/lang/invoke/VarHandle" ∧ (parseMethodDescriptor yX1_settle.desc).map (fun d => d.parameters.length) = some 3 := by decide +kernel
set_option maxHeartbeats 4000000 in
set_option maxRecDepth 100000 in
theorem c_X1_settle (l : Launch) (G : zG) (μ : zM) (fb : Nat → Int32) (hfb : μ 1 = fb) (I : Nat) (hI : fb 4 = nI I) (hI24 : I ≤ 24) (t n : Nat) (g : Nat → Int32) (hkn : zk n = 4) (hg : μ n = g) (q : Nat) (hkq : zk q = 5) (hq1 : q ≠ 1) (hqn : q ≠ n) (hqi : ∀ j, j < 24 → q ≠ 1 + (15 + j)) (hr8 : fK 125 (Int32.toUInt32 (fb 2))) : zMet l G yX1_settle cX1_settle 7 none 4 89 [.ref (G.1 + 1), .int (nI t), .ref (G.1 + n), .ref (G.1 + q)] μ (zQv G (zr μ q (s_settle μ fb g t I))) := by
  refine z_start (lv := [(0, .ref (G.1 + 1)), (1, .int (nI t)), (2, .ref (G.1 + n)), (3, .ref (G.1 + q))]) (by decide) (Nat.le_of_ble_eq_true rfl) rfl ?_
  intro p e s m args below meth c ls hx hb hml hr hlk hts hown hK hZ hS hl
  have hown : s.vm.findClass RX1 = some m.cls := hown
  have loop : ∀ (k j : Nat), j + k = I → ∀ (H : Heap) (locs : List Loc) (ls : Array Slot), zW G (zr μ q (s_pay μ t (s_fee μ fb g t I) j)) H → va_S (zA G) s.heap H locs → lv_has ls 7 [(0, .ref (G.1 + 1)), (1, .int (nI t)), (2, .ref (G.1 + n)), (3, .ref (G.1 + q)), (5, .int (nI j))] → W p l e { frames := 4, cells := 0, slots := 0, locals := 89 } s m args below meth c H locs 0 0 (MQ below (zQv G (zr μ q (s_settle μ fb g t I))) args s 0 0 (zA G)) (F0 m 71 ls []) := by
    intro k
    induction k with
    | zero =>
      intro j hj H locs ls hZ hS hl
      have hj : I = j := by omega
      subst hj
      refine lv_iload hx hb dX1_settle_71 (lv_at hl 4 rfl) ?_
      refine lv_aload_n hx hb dX1_settle_73 rfl (lv_at hl 0 rfl) ?_
      refine z_g1 (f := fb) (v := .int (nI I)) 4 hx hb hts hown hK hZ (zk_book hB1) (zr_at hfb (Ne.symm hq1)) (by decide) q154 (congrArg (fun z => some (Value.int z)) hI) dX1_settle_74 ?_
      refine lv_icmp_ge (tgt := 117) hx hb dX1_settle_77 (by decide) (fun c_1 => ?_) (fun c_1 => ?_)
      · refine lv_aload_n hx hb dX1_settle_117 rfl (lv_at hl 3 rfl) ?_
        refine lv_aload_n hx hb dX1_settle_118 rfl (lv_at hl 2 rfl) ?_
        refine z_g4 (f := g) (v := .int (g 4)) 4 hx hb hts hown hK hZ hkn (zr_at hg (Ne.symm hqn)) (by decide) q73 rfl dX1_settle_119 ?_
        refine z_cVv (As := [.int (g 4)]) (rest := []) hx hb hml hown hts hl hK hZ hS (c_X4_payLandlord l G (zr μ q (s_pay μ t (s_fee μ fb g t I) I)) q (s_pay μ t (s_fee μ fb g t I) I) hkq zr_same (g 4)) (z_G q386 q387 q388 q4 q389) hdX4_payLandlord ⟨Nat.le_of_ble_eq_true rfl, Nat.le_of_ble_eq_true rfl⟩ hkq (by decide) rfl rfl rfl rfl (Nat.le_of_ble_eq_true rfl) dX1_settle_122 ⟨(Nat.zero_le _), (Nat.zero_le _)⟩ (fun H locs hZ hS => ?_)
        rw [zr_zr] at hZ
        exact z_vret hx hb hr hlk hK hZ hS rfl dX1_settle_125
      · exact absurd (nI_le (Nat.le_refl _) (by omega)) c_1
    | succ k ih =>
      intro j hj H locs ls hZ hS hl
      refine lv_iload hx hb dX1_settle_71 (lv_at hl 4 rfl) ?_
      refine lv_aload_n hx hb dX1_settle_73 rfl (lv_at hl 0 rfl) ?_
      refine z_g1 (f := fb) (v := .int (nI I)) 4 hx hb hts hown hK hZ (zk_book hB1) (zr_at hfb (Ne.symm hq1)) (by decide) q154 (congrArg (fun z => some (Value.int z)) hI) dX1_settle_74 ?_
      refine lv_icmp_ge (tgt := 117) hx hb dX1_settle_77 (by decide) (fun c_2 => ?_) (fun c_2 => ?_)
      · exact absurd c_2 (nI_ge (by omega) (by omega))
      · refine lv_aload_n hx hb dX1_settle_80 rfl (lv_at hl 0 rfl) ?_
        refine lv_iload hx hb dX1_settle_81 (lv_at hl 4 rfl) ?_
        refine z_cVr (As := [.int (nI j)]) (rest := []) hx hb hml hown hts hl hK hZ hS (c_X1_itemAt_ok l G (zr μ q (s_pay μ t (s_fee μ fb g t I) j)) 1 hB1 fb (zr_at hfb (Ne.symm hq1)) I j hI hI24 (by omega)) (z_G q273 q274 q275 q2 q276) hdX1_itemAt ⟨Nat.le_of_ble_eq_true rfl, Nat.le_of_ble_eq_true rfl⟩ (zk_book hB1) (by decide) rfl rfl rfl rfl (Nat.le_of_ble_eq_true rfl) dX1_settle_83 ⟨(Nat.zero_le _), (Nat.zero_le _)⟩ (fun H locs hZ hS => ?_)
        refine lv_astore (lv' := [(6, .ref (G.1 + (1 + (15 + j)))), (0, .ref (G.1 + 1)), (1, .int (nI t)), (2, .ref (G.1 + n)), (3, .ref (G.1 + q)), (5, .int (nI j))]) hx hb dX1_settle_86 hl (by decide) rfl (fun ls hl => ?_)
        refine lv_aload hx hb dX1_settle_88 (lv_at hl 0 rfl) ?_
        refine lv_ifnull hx hb dX1_settle_90 ?_
        refine lv_aload hx hb dX1_settle_93 (lv_at hl 0 rfl) ?_
        refine z_g6 (f := (μ (1 + (15 + j)))) (v := .int ((μ (1 + (15 + j))) 0)) 0 hx hb hts hown hK hZ (zk_item hB1 (by omega)) (zr_ne (Ne.symm (hqi j (by omega)))) (by decide) q100 rfl dX1_settle_95 ?_
        refine lv_iload_n hx hb dX1_settle_98 rfl (lv_at hl 2 rfl) ?_
        refine lv_icmp_ne (tgt := 111) hx hb dX1_settle_99 (by decide) (fun c_3 => ?_) (fun c_3 => ?_)
        · refine lv_iinc (v := (nI (j + 1))) (lv' := [(5, .int (nI (j + 1))), (6, .ref (G.1 + (1 + (15 + j)))), (0, .ref (G.1 + 1)), (1, .int (nI t)), (2, .ref (G.1 + n)), (3, .ref (G.1 + q))]) hx hb dX1_settle_111 hl (k := 5) rfl (nI_1 _) (by decide) rfl (fun ls hl => ?_)
          refine lv_goto (tgt := 71) hx hb dX1_settle_114 (by decide) ?_
          rw [show (s_pay μ t (s_fee μ fb g t I) j) = s_pay μ t (s_fee μ fb g t I) (j + 1) from (if_neg c_3).symm] at hZ
          exact ih (j + 1) (by omega) _ _ _ hZ hS (lv_sub hl [2, 3, 4, 5, 0] rfl)
        · refine lv_aload_n hx hb dX1_settle_102 rfl (lv_at hl 4 rfl) ?_
          refine lv_aload hx hb dX1_settle_103 (lv_at hl 0 rfl) ?_
          refine z_cVi (As := []) (rest := [.ref (G.1 + q)]) hx hb hml hown hts hl hK hZ hS (c_X3_award l G (zr μ q (s_pay μ t (s_fee μ fb g t I) j)) (1 + (15 + j)) (μ (1 + (15 + j))) (zk_item hB1 (by omega)) (zr_ne (Ne.symm (hqi j (by omega)))) ) (z_G q345 q346 q347 q5 q348) hdX3_award ⟨Nat.le_of_ble_eq_true rfl, Nat.le_of_ble_eq_true rfl⟩ (zk_item hB1 (by omega)) (by decide) rfl rfl rfl rfl (Nat.le_of_ble_eq_true rfl) dX1_settle_105 ⟨(Nat.zero_le _), (Nat.zero_le _)⟩ (fun H locs hZ hS => ?_)
          refine z_cVv (As := [.int (s_X3_award (μ (1 + (15 + j))))]) (rest := []) hx hb hml hown hts hl hK hZ hS (c_X4_payLandlord l G (zr μ q (s_pay μ t (s_fee μ fb g t I) j)) q (s_pay μ t (s_fee μ fb g t I) j) hkq zr_same (s_X3_award (μ (1 + (15 + j))))) (z_G q386 q387 q388 q4 q389) hdX4_payLandlord ⟨Nat.le_of_ble_eq_true rfl, Nat.le_of_ble_eq_true rfl⟩ hkq (by decide) rfl rfl rfl rfl (Nat.le_of_ble_eq_true rfl) dX1_settle_108 ⟨(Nat.zero_le _), (Nat.zero_le _)⟩ (fun H locs hZ hS => ?_)
          rw [zr_zr] at hZ
          refine lv_iinc (v := (nI (j + 1))) (lv' := [(5, .int (nI (j + 1))), (6, .ref (G.1 + (1 + (15 + j)))), (0, .ref (G.1 + 1)), (1, .int (nI t)), (2, .ref (G.1 + n)), (3, .ref (G.1 + q))]) hx hb dX1_settle_111 hl (k := 5) rfl (nI_1 _) (by decide) rfl (fun ls hl => ?_)
          refine lv_goto (tgt := 71) hx hb dX1_settle_114 (by decide) ?_
          rw [show (w_X4_payLandlord (s_pay μ t (s_fee μ fb g t I) j) (s_X3_award (μ (1 + (15 + j))))) = s_pay μ t (s_fee μ fb g t I) (j + 1) from (if_pos c_3).symm] at hZ
          exact ih (j + 1) (by omega) _ _ _ hZ hS (lv_sub hl [2, 3, 4, 5, 0] rfl)
  refine lv_aload_n hx hb dX1_settle_0 rfl (lv_at hl 3 rfl) ?_
  refine lv_aload_n hx hb dX1_settle_1 rfl (lv_at hl 2 rfl) ?_
  refine z_g4 (f := g) (v := .int (g 0)) 0 hx hb hts hown hK hZ hkn hg (by decide) q60 rfl dX1_settle_2 ?_
  refine lv_aload_n hx hb dX1_settle_5 rfl (lv_at hl 0 rfl) ?_
  refine lv_aload_n hx hb dX1_settle_6 rfl (lv_at hl 2 rfl) ?_
  refine z_cVi (As := [.ref (G.1 + n)]) (rest := [.int (g 0), .ref (G.1 + q)]) hx hb hml hown hts hl hK hZ hS (c_X1_interestOf l G μ 1 fb (zk_book hB1) hfb n g hkn hg hr8) (z_G q369 q333 q334 q2 q335) hdX1_interestOf ⟨Nat.le_of_ble_eq_true rfl, Nat.le_of_ble_eq_true rfl⟩ (zk_book hB1) (by decide) rfl rfl rfl rfl (Nat.le_of_ble_eq_true rfl) dX1_settle_7 ⟨(Nat.zero_le _), (Nat.zero_le _)⟩ (fun H locs hZ hS => ?_)
  refine lv_iadd hx hb dX1_settle_10 ?_
  refine z_cVv (As := [.int ((g 0) + (s_X1_interestOf fb g))]) (rest := []) hx hb hml hown hts hl hK hZ hS (c_X4_start l G μ q (μ q) hkq rfl ((g 0) + (s_X1_interestOf fb g))) (z_G q370 q371 q372 q4 q373) hdX4_start ⟨Nat.le_of_ble_eq_true rfl, Nat.le_of_ble_eq_true rfl⟩ hkq (by decide) rfl rfl rfl rfl (Nat.le_of_ble_eq_true rfl) dX1_settle_11 ⟨(Nat.zero_le _), (Nat.zero_le _)⟩ (fun H locs hZ hS => ?_)
  refine lv_aload_n hx hb dX1_settle_14 rfl (lv_at hl 0 rfl) ?_
  refine lv_iload_n hx hb dX1_settle_15 rfl (lv_at hl 1 rfl) ?_
  refine lv_iconst (v := 5) hx hb dX1_settle_16 (by decide) ?_
  refine z_cVi (As := [.int (nI t), .int 5]) (rest := []) hx hb hml hown hts hl hK hZ hS (c_X1_total l G (zr μ q (w_X4_start ((g 0) + (s_X1_interestOf fb g)))) fb (zr_at hfb (Ne.symm hq1)) I hI hI24 t 5 (by omega)) (z_G q374 q338 q339 q2 q340) hdX1_total ⟨Nat.le_of_ble_eq_true rfl, Nat.le_of_ble_eq_true rfl⟩ (zk_book hB1) (by decide) rfl rfl rfl rfl (Nat.le_of_ble_eq_true rfl) dX1_settle_17 ⟨(Nat.zero_le _), (Nat.zero_le _)⟩ (fun H locs hZ hS => ?_)
  rw [s_tot_zr hqi hI24]
  refine lv_istore (lv' := [(4, .int (s_tot μ t 5 I)), (0, .ref (G.1 + 1)), (1, .int (nI t)), (2, .ref (G.1 + n)), (3, .ref (G.1 + q))]) hx hb dX1_settle_20 hl (by decide) rfl (fun ls hl => ?_)
  refine lv_iload hx hb dX1_settle_22 (lv_at hl 0 rfl) ?_
  refine lv_if_le (tgt := 68) hx hb dX1_settle_24 (by decide) (fun c_4 => ?_) (fun c_4 => ?_)
  · refine lv_iconst (v := 0) hx hb dX1_settle_68 (by decide) ?_
    refine lv_istore (lv' := [(5, .int 0), (4, .int (s_tot μ t 5 I)), (0, .ref (G.1 + 1)), (1, .int (nI t)), (2, .ref (G.1 + n)), (3, .ref (G.1 + q))]) hx hb dX1_settle_69 hl (by decide) rfl (fun ls hl => ?_)
    rw [show (w_X4_start ((g 0) + (s_X1_interestOf fb g))) = s_fee μ fb g t I from (if_pos c_4).symm] at hZ
    exact loop I 0 (by omega) _ _ _ hZ hS (lv_sub hl [2, 3, 4, 5, 0] rfl)
  · refine lv_iload hx hb dX1_settle_27 (lv_at hl 0 rfl) ?_
    refine lv_aload_n hx hb dX1_settle_29 rfl (lv_at hl 1 rfl) ?_
    refine lv_iload_n hx hb dX1_settle_30 rfl (lv_at hl 2 rfl) ?_
    refine lv_bipush (v := 6) hx hb dX1_settle_31 (by decide) ?_
    refine z_cVi (As := [.int (nI t), .int 6]) (rest := [.int (s_tot μ t 5 I)]) hx hb hml hown hts hl hK hZ hS (c_X1_total l G (zr μ q (w_X4_start ((g 0) + (s_X1_interestOf fb g)))) fb (zr_at hfb (Ne.symm hq1)) I hI hI24 t 6 (by omega)) (z_G q374 q338 q339 q2 q340) hdX1_total ⟨Nat.le_of_ble_eq_true rfl, Nat.le_of_ble_eq_true rfl⟩ (zk_book hB1) (by decide) rfl rfl rfl rfl (Nat.le_of_ble_eq_true rfl) dX1_settle_33 ⟨(Nat.zero_le _), (Nat.zero_le _)⟩ (fun H locs hZ hS => ?_)
    rw [s_tot_zr hqi hI24]
    refine lv_isub hx hb dX1_settle_36 ?_
    refine lv_istore (lv' := [(5, .int ((s_tot μ t 5 I) - (s_tot μ t 6 I))), (4, .int (s_tot μ t 5 I)), (0, .ref (G.1 + 1)), (1, .int (nI t)), (2, .ref (G.1 + n)), (3, .ref (G.1 + q))]) hx hb dX1_settle_37 hl (by decide) rfl (fun ls hl => ?_)
    refine lv_aload_n hx hb dX1_settle_39 rfl (lv_at hl 2 rfl) ?_
    refine z_g1 (f := fb) (v := .int (fb 1)) 1 hx hb hts hown hK hZ (zk_book hB1) (zr_at hfb (Ne.symm hq1)) (by decide) q148 rfl dX1_settle_40 ?_
    refine lv_i2f hx hb dX1_settle_43 ?_
    refine lv_iload hx hb dX1_settle_44 (lv_at hl 0 rfl) ?_
    refine lv_i2f hx hb dX1_settle_46 ?_
    refine lv_fmul hx hb dX1_settle_47 ((fk_mul (fk_i2f _) (fk_i2f _) (by decide) (by decide)).n (by decide)) ?_
    refine lv_iload hx hb dX1_settle_48 (lv_at hl 1 rfl) ?_
    refine lv_i2f hx hb dX1_settle_50 ?_
    refine lv_fdiv hx hb dX1_settle_51 ((fk_divi (fk_mul (fk_i2f _) (fk_i2f _) (by decide) (by decide)) (by decide) (z_ne1 c_4)).n (by decide)) ?_
    refine lv_f2i hx hb dX1_settle_52 ?_
    refine lv_istore (lv' := [(6, .int (FP.f2i (FP.fdiv (FP.fmul (FP.i2f (fb 1)) (FP.i2f ((s_tot μ t 5 I) - (s_tot μ t 6 I)))) (FP.i2f (s_tot μ t 5 I))))), (5, .int ((s_tot μ t 5 I) - (s_tot μ t 6 I))), (4, .int (s_tot μ t 5 I)), (0, .ref (G.1 + 1)), (1, .int (nI t)), (2, .ref (G.1 + n)), (3, .ref (G.1 + q))]) hx hb dX1_settle_53 hl (by decide) rfl (fun ls hl => ?_)
    refine lv_aload_n hx hb dX1_settle_55 rfl (lv_at hl 6 rfl) ?_
    refine lv_iload hx hb dX1_settle_56 (lv_at hl 0 rfl) ?_
    refine lv_aload_n hx hb dX1_settle_58 rfl (lv_at hl 3 rfl) ?_
    refine z_g1 (f := fb) (v := .int (fb 1)) 1 hx hb hts hown hK hZ (zk_book hB1) (zr_at hfb (Ne.symm hq1)) (by decide) q148 rfl dX1_settle_59 ?_
    refine lv_iload hx hb dX1_settle_62 (lv_at hl 0 rfl) ?_
    refine lv_isub hx hb dX1_settle_64 ?_
    refine z_cVv (As := [.int (FP.f2i (FP.fdiv (FP.fmul (FP.i2f (fb 1)) (FP.i2f ((s_tot μ t 5 I) - (s_tot μ t 6 I)))) (FP.i2f (s_tot μ t 5 I)))), .int ((fb 1) - (FP.f2i (FP.fdiv (FP.fmul (FP.i2f (fb 1)) (FP.i2f ((s_tot μ t 5 I) - (s_tot μ t 6 I)))) (FP.i2f (s_tot μ t 5 I)))))]) (rest := []) hx hb hml hown hts hl hK hZ hS (c_X4_takeFee l G (zr μ q (w_X4_start ((g 0) + (s_X1_interestOf fb g)))) q (w_X4_start ((g 0) + (s_X1_interestOf fb g))) hkq zr_same (FP.f2i (FP.fdiv (FP.fmul (FP.i2f (fb 1)) (FP.i2f ((s_tot μ t 5 I) - (s_tot μ t 6 I)))) (FP.i2f (s_tot μ t 5 I)))) ((fb 1) - (FP.f2i (FP.fdiv (FP.fmul (FP.i2f (fb 1)) (FP.i2f ((s_tot μ t 5 I) - (s_tot μ t 6 I)))) (FP.i2f (s_tot μ t 5 I)))))) (z_G q375 q376 q377 q4 q378) hdX4_takeFee ⟨Nat.le_of_ble_eq_true rfl, Nat.le_of_ble_eq_true rfl⟩ hkq (by decide) rfl rfl rfl rfl (Nat.le_of_ble_eq_true rfl) dX1_settle_65 ⟨(Nat.zero_le _), (Nat.zero_le _)⟩ (fun H locs hZ hS => ?_)
    rw [zr_zr] at hZ
    refine lv_iconst (v := 0) hx hb dX1_settle_68 (by decide) ?_
    refine lv_istore (lv' := [(5, .int 0), (6, .int (FP.f2i (FP.fdiv (FP.fmul (FP.i2f (fb 1)) (FP.i2f ((s_tot μ t 5 I) - (s_tot μ t 6 I)))) (FP.i2f (s_tot μ t 5 I))))), (4, .int (s_tot μ t 5 I)), (0, .ref (G.1 + 1)), (1, .int (nI t)), (2, .ref (G.1 + n)), (3, .ref (G.1 + q))]) hx hb dX1_settle_69 hl (by decide) rfl (fun ls hl => ?_)
    rw [show (w_X4_takeFee (w_X4_start ((g 0) + (s_X1_interestOf fb g))) (FP.f2i (FP.fdiv (FP.fmul (FP.i2f (fb 1)) (FP.i2f ((s_tot μ t 5 I) - (s_tot μ t 6 I)))) (FP.i2f (s_tot μ t 5 I)))) ((fb 1) - (FP.f2i (FP.fdiv (FP.fmul (FP.i2f (fb 1)) (FP.i2f ((s_tot μ t 5 I) - (s_tot μ t 6 I)))) (FP.i2f (s_tot μ t 5 I)))))) = s_fee μ fb g t I from (if_neg c_4).symm] at hZ
    exact loop I 0 (by omega) _ _ _ hZ hS (lv_sub hl [3, 4, 5, 6, 0] rfl)
def m_exp (μ : zM) (t : Nat) (d : Int32) : Nat → zM
  | 0 => μ
  | j + 1 => if μ (1 + (15 + j)) 0 = nI t then zr (m_exp μ t d j) (1 + (15 + j)) (w_X3_tellEnd (μ (1 + (15 + j))) d (s_X3_fairAfter (μ (1 + (15 + j))) d)) else m_exp μ t d j
theorem m_exp_ne {μ : zM} {t : Nat} {d : Int32} {n : Nat} : ∀ {j : Nat}, (∀ i, i < j → n ≠ 1 + (15 + i)) → m_exp μ t d j n = μ n
  | 0, _ => rfl
  | j + 1, h => by
    have ih := m_exp_ne (μ := μ) (t := t) (d := d) (n := n) (j := j) (fun i hi => h i (by omega))
    show (if μ (1 + (15 + j)) 0 = nI t then zr (m_exp μ t d j) (1 + (15 + j)) (w_X3_tellEnd (μ (1 + (15 + j))) d (s_X3_fairAfter (μ (1 + (15 + j))) d)) else m_exp μ t d j) n = μ n
    split
    · rw [zr_ne (h j (by omega))]; exact ih
    · exact ih
theorem hdX1_expectFairConditions : yX1_expectFairConditions.cls = RX1 ∧ yX1_expectFairConditions.cls ≠ "java/lang/invoke/MethodHandle" ∧ yX1_expectFairConditions.cls ≠ "java/lang/invoke/VarHandle" ∧ (parseMethodDescriptor yX1_expectFairConditions.desc).map (fun d => d.parameters.length) = some 1 := by decide +kernel
set_option maxHeartbeats 4000000 in
set_option maxRecDepth 100000 in
theorem c_X1_expectFairConditions (l : Launch) (G : zG) (μ : zM) (fb : Nat → Int32) (hfb : μ 1 = fb) (T : Nat) (hT : fb 3 = nI T) (hT6 : T ≤ 6) (I : Nat) (hI : fb 4 = nI I) (hI24 : I ≤ 24) (t : Nat) (ht : t < T) (g : Nat → Int32) (hg : μ (1 + (3 + 2 * t)) = g) : zMet l G yX1_expectFairConditions cX1_expectFairConditions 5 none 5 101 [.ref (G.1 + 1), .int (nI t)] μ (zQv G (m_exp μ t (s_X1_daysOf fb g) I)) := by
  refine z_start (lv := [(0, .ref (G.1 + 1)), (1, .int (nI t))]) (by decide) (Nat.le_of_ble_eq_true rfl) rfl ?_
  intro p e s m args below meth c ls hx hb hml hr hlk hts hown hK hZ hS hl
  have hown : s.vm.findClass RX1 = some m.cls := hown
  have loop : ∀ (k j : Nat), j + k = I → ∀ (H : Heap) (locs : List Loc) (ls : Array Slot), zW G (m_exp μ t (s_X1_daysOf fb g) j) H → va_S (zA G) s.heap H locs → lv_has ls 5 [(0, .ref (G.1 + 1)), (1, .int (nI t)), (2, .int (nI j))] → W p l e { frames := 5, cells := 0, slots := 0, locals := 101 } s m args below meth c H locs 0 0 (MQ below (zQv G (m_exp μ t (s_X1_daysOf fb g) I)) args s 0 0 (zA G)) (F0 m 2 ls []) := by
    intro k
    induction k with
    | zero =>
      intro j hj H locs ls hZ hS hl
      have hj : I = j := by omega
      subst hj
      refine lv_iload_n hx hb dX1_expectFairConditions_2 rfl (lv_at hl 2 rfl) ?_
      refine lv_aload_n hx hb dX1_expectFairConditions_3 rfl (lv_at hl 0 rfl) ?_
      refine z_g1 (f := fb) (v := .int (nI I)) 4 hx hb hts hown hK hZ (zk_book hB1) ((m_exp_ne (fun i hi => by omega)).trans hfb) (by decide) q154 (congrArg (fun z => some (Value.int z)) hI) dX1_expectFairConditions_4 ?_
      refine lv_icmp_ge (tgt := 53) hx hb dX1_expectFairConditions_7 (by decide) (fun c_1 => ?_) (fun c_1 => ?_)
      · exact z_vret hx hb hr hlk hK hZ hS rfl dX1_expectFairConditions_53
      · exact absurd (nI_le (Nat.le_refl _) (by omega)) c_1
    | succ k ih =>
      intro j hj H locs ls hZ hS hl
      refine lv_iload_n hx hb dX1_expectFairConditions_2 rfl (lv_at hl 2 rfl) ?_
      refine lv_aload_n hx hb dX1_expectFairConditions_3 rfl (lv_at hl 0 rfl) ?_
      refine z_g1 (f := fb) (v := .int (nI I)) 4 hx hb hts hown hK hZ (zk_book hB1) ((m_exp_ne (fun i hi => by omega)).trans hfb) (by decide) q154 (congrArg (fun z => some (Value.int z)) hI) dX1_expectFairConditions_4 ?_
      refine lv_icmp_ge (tgt := 53) hx hb dX1_expectFairConditions_7 (by decide) (fun c_2 => ?_) (fun c_2 => ?_)
      · exact absurd c_2 (nI_ge (by omega) (by omega))
      · refine lv_aload_n hx hb dX1_expectFairConditions_10 rfl (lv_at hl 0 rfl) ?_
        refine lv_iload_n hx hb dX1_expectFairConditions_11 rfl (lv_at hl 2 rfl) ?_
        refine z_cVr (As := [.int (nI j)]) (rest := []) hx hb hml hown hts hl hK hZ hS (c_X1_itemAt_ok l G (m_exp μ t (s_X1_daysOf fb g) j) 1 hB1 fb ((m_exp_ne (fun i hi => by omega)).trans hfb) I j hI hI24 (by omega)) (z_G q273 q274 q275 q2 q276) hdX1_itemAt ⟨Nat.le_of_ble_eq_true rfl, Nat.le_of_ble_eq_true rfl⟩ (zk_book hB1) (by decide) rfl rfl rfl rfl (Nat.le_of_ble_eq_true rfl) dX1_expectFairConditions_12 ⟨(Nat.zero_le _), (Nat.zero_le _)⟩ (fun H locs hZ hS => ?_)
        refine lv_astore_n (lv' := [(3, .ref (G.1 + (1 + (15 + j)))), (0, .ref (G.1 + 1)), (1, .int (nI t)), (2, .int (nI j))]) hx hb dX1_expectFairConditions_15 rfl hl (by decide) rfl (fun ls hl => ?_)
        refine lv_aload_n hx hb dX1_expectFairConditions_16 rfl (lv_at hl 0 rfl) ?_
        refine lv_ifnull hx hb dX1_expectFairConditions_17 ?_
        refine lv_aload_n hx hb dX1_expectFairConditions_20 rfl (lv_at hl 0 rfl) ?_
        refine z_g6 (f := (μ (1 + (15 + j)))) (v := .int ((μ (1 + (15 + j))) 0)) 0 hx hb hts hown hK hZ (zk_item hB1 (by omega)) (m_exp_ne (fun i hi => by omega)) (by decide) q100 rfl dX1_expectFairConditions_21 ?_
        refine lv_iload_n hx hb dX1_expectFairConditions_24 rfl (lv_at hl 2 rfl) ?_
        refine lv_icmp_ne (tgt := 47) hx hb dX1_expectFairConditions_25 (by decide) (fun c_3 => ?_) (fun c_3 => ?_)
        · refine lv_iinc (v := (nI (j + 1))) (lv' := [(2, .int (nI (j + 1))), (3, .ref (G.1 + (1 + (15 + j)))), (0, .ref (G.1 + 1)), (1, .int (nI t))]) hx hb dX1_expectFairConditions_47 hl (k := 3) rfl (nI_1 _) (by decide) rfl (fun ls hl => ?_)
          refine lv_goto (tgt := 2) hx hb dX1_expectFairConditions_50 (by decide) ?_
          rw [show (m_exp μ t (s_X1_daysOf fb g) j) = m_exp μ t (s_X1_daysOf fb g) (j + 1) from (if_neg c_3).symm] at hZ
          exact ih (j + 1) (by omega) _ _ _ hZ hS (lv_sub hl [2, 3, 0] rfl)
        · refine lv_aload_n hx hb dX1_expectFairConditions_28 rfl (lv_at hl 1 rfl) ?_
          refine lv_aload_n hx hb dX1_expectFairConditions_29 rfl (lv_at hl 0 rfl) ?_
          refine z_cVi (As := [.ref (G.1 + (1 + (15 + j)))]) (rest := []) hx hb hml hown hts hl hK hZ hS (c_X1_daysOfItem l G (m_exp μ t (s_X1_daysOf fb g) j) fb ((m_exp_ne (fun i hi => by omega)).trans hfb) (1 + (15 + j)) (μ (1 + (15 + j))) (zk_item hB1 (by omega)) (m_exp_ne (fun i hi => by omega)) T t hT hT6 ht c_3 g ((m_exp_ne (fun i hi => by omega)).trans hg)) (z_G q484 q396 q397 q2 q398) hdX1_daysOfItem ⟨Nat.le_of_ble_eq_true rfl, Nat.le_of_ble_eq_true rfl⟩ (zk_book hB1) (by decide) rfl rfl rfl rfl (Nat.le_of_ble_eq_true rfl) dX1_expectFairConditions_30 ⟨(Nat.zero_le _), (Nat.zero_le _)⟩ (fun H locs hZ hS => ?_)
          refine lv_istore (lv' := [(4, .int (s_X1_daysOf fb g)), (3, .ref (G.1 + (1 + (15 + j)))), (0, .ref (G.1 + 1)), (1, .int (nI t)), (2, .int (nI j))]) hx hb dX1_expectFairConditions_33 hl (by decide) rfl (fun ls hl => ?_)
          refine lv_aload_n hx hb dX1_expectFairConditions_35 rfl (lv_at hl 1 rfl) ?_
          refine lv_iload hx hb dX1_expectFairConditions_36 (lv_at hl 0 rfl) ?_
          refine lv_aload_n hx hb dX1_expectFairConditions_38 rfl (lv_at hl 1 rfl) ?_
          refine lv_iload hx hb dX1_expectFairConditions_39 (lv_at hl 0 rfl) ?_
          refine z_cVi (As := [.int (s_X1_daysOf fb g)]) (rest := [.int (s_X1_daysOf fb g), .ref (G.1 + (1 + (15 + j)))]) hx hb hml hown hts hl hK hZ hS (c_X3_fairAfter l G (m_exp μ t (s_X1_daysOf fb g) j) (1 + (15 + j)) (μ (1 + (15 + j))) (zk_item hB1 (by omega)) (m_exp_ne (fun i hi => by omega)) (s_X1_daysOf fb g)) (z_G q485 q401 q402 q5 q403) hdX3_fairAfter ⟨Nat.le_of_ble_eq_true rfl, Nat.le_of_ble_eq_true rfl⟩ (zk_item hB1 (by omega)) (by decide) rfl rfl rfl rfl (Nat.le_of_ble_eq_true rfl) dX1_expectFairConditions_41 ⟨(Nat.zero_le _), (Nat.zero_le _)⟩ (fun H locs hZ hS => ?_)
          refine z_cVv (As := [.int (s_X1_daysOf fb g), .int (s_X3_fairAfter (μ (1 + (15 + j))) (s_X1_daysOf fb g))]) (rest := []) hx hb hml hown hts hl hK hZ hS (c_X3_tellEnd l G (m_exp μ t (s_X1_daysOf fb g) j) (1 + (15 + j)) (μ (1 + (15 + j))) (zk_item hB1 (by omega)) (m_exp_ne (fun i hi => by omega)) (s_X1_daysOf fb g) (s_X3_fairAfter (μ (1 + (15 + j))) (s_X1_daysOf fb g))) (z_G q486 q487 q488 q5 q489) hdX3_tellEnd ⟨Nat.le_of_ble_eq_true rfl, Nat.le_of_ble_eq_true rfl⟩ (zk_item hB1 (by omega)) (by decide) rfl rfl rfl rfl (Nat.le_of_ble_eq_true rfl) dX1_expectFairConditions_44 ⟨(Nat.zero_le _), (Nat.zero_le _)⟩ (fun H locs hZ hS => ?_)
          refine lv_iinc (v := (nI (j + 1))) (lv' := [(2, .int (nI (j + 1))), (4, .int (s_X1_daysOf fb g)), (3, .ref (G.1 + (1 + (15 + j)))), (0, .ref (G.1 + 1)), (1, .int (nI t))]) hx hb dX1_expectFairConditions_47 hl (k := 4) rfl (nI_1 _) (by decide) rfl (fun ls hl => ?_)
          refine lv_goto (tgt := 2) hx hb dX1_expectFairConditions_50 (by decide) ?_
          rw [show (zr (m_exp μ t (s_X1_daysOf fb g) j) (1 + (15 + j)) (w_X3_tellEnd (μ (1 + (15 + j))) (s_X1_daysOf fb g) (s_X3_fairAfter (μ (1 + (15 + j))) (s_X1_daysOf fb g)))) = m_exp μ t (s_X1_daysOf fb g) (j + 1) from (if_pos c_3).symm] at hZ
          exact ih (j + 1) (by omega) _ _ _ hZ hS (lv_sub hl [3, 4, 0] rfl)
  refine lv_iconst (v := 0) hx hb dX1_expectFairConditions_0 (by decide) ?_
  refine lv_istore_n (lv' := [(2, .int 0), (0, .ref (G.1 + 1)), (1, .int (nI t))]) hx hb dX1_expectFairConditions_1 rfl hl (by decide) rfl (fun ls hl => ?_)
  exact loop I 0 (by omega) _ _ _ hZ hS (lv_sub hl [1, 2, 0] rfl)
def m_addT (μ : zM) (fb : Nat → Int32) (T : Nat) (a : Int32) : zM := zr (zr (zr μ 1 (zu fb 3 (nI (T + 1)))) (1 + (3 + 2 * T)) (w_X5_start a (fb 0))) (1 + (3 + 2 * T) + 1) (w_X4_start 0)
def m_newI (μ : zM) (fb : Nat → Int32) (I : Nat) (a b x y z : Int32) : zM := zr (zr μ 1 (zu fb 4 (nI (I + 1)))) (1 + (15 + I)) (w_X3_start a b x y z)
theorem hdX1_addTenancy : yX1_addTenancy.cls = RX1 ∧ yX1_addTenancy.cls ≠ "java/lang/invoke/MethodHandle" ∧ yX1_addTenancy.cls ≠ "java/lang/invoke/VarHandle" ∧ (parseMethodDescriptor yX1_addTenancy.desc).map (fun d => d.parameters.length) = some 1 := by decide +kernel
set_option maxHeartbeats 4000000 in
set_option maxRecDepth 100000 in
theorem c_X1_addTenancy (l : Launch) (G : zG) (μ : zM) (fb : Nat → Int32) (hfb : μ 1 = fb) (T : Nat) (hT : fb 3 = nI T) (hT6 : T < 6) (a : Int32) : zMet l G yX1_addTenancy cX1_addTenancy 4 (some .int) 2 43 [.ref (G.1 + 1), .int a] μ (zQi G (nI T) (m_addT μ fb T a)) := by
  refine z_start (lv := [(0, .ref (G.1 + 1)), (1, .int a)]) (by decide) (Nat.le_of_ble_eq_true rfl) rfl ?_
  intro p e s m args below meth c ls hx hb hml hr hlk hts hown hK hZ hS hl
  have hown : s.vm.findClass RX1 = some m.cls := hown
  refine lv_aload_n hx hb dX1_addTenancy_0 rfl (lv_at hl 0 rfl) ?_
  refine z_g1 (f := fb) (v := .int (nI T)) 3 hx hb hts hown hK hZ (zk_book hB1) hfb (by decide) q152 (congrArg (fun z => some (Value.int z)) hT) dX1_addTenancy_1 ?_
  refine lv_istore_n (lv' := [(2, .int (nI T)), (0, .ref (G.1 + 1)), (1, .int a)]) hx hb dX1_addTenancy_4 rfl hl (by decide) rfl (fun ls hl => ?_)
  refine lv_aload_n hx hb dX1_addTenancy_5 rfl (lv_at hl 1 rfl) ?_
  refine lv_dup hx hb dX1_addTenancy_6 rfl ?_
  refine z_g1 (f := fb) (v := .int (nI T)) 3 hx hb hts hown hK hZ (zk_book hB1) hfb (by decide) q152 (congrArg (fun z => some (Value.int z)) hT) dX1_addTenancy_7 ?_
  refine lv_iconst (v := 1) hx hb dX1_addTenancy_10 (by decide) ?_
  refine lv_iadd hx hb dX1_addTenancy_11 ?_
  rw [nI_1]
  refine z_p1 (f := fb) (μ1 := (zr μ 1 (zu fb 3 (nI (T + 1))))) 3 hx hb hts hown hK hZ hS (zk_book hB1) hfb (by decide) q152 rfl pfd_I rfl rfl dX1_addTenancy_12 (fun H locs hZ hS => ?_)
  refine lv_aload_n hx hb dX1_addTenancy_15 rfl (lv_at hl 1 rfl) ?_
  refine lv_iload_n hx hb dX1_addTenancy_16 rfl (lv_at hl 0 rfl) ?_
  refine z_cVr (As := [.int (nI T)]) (rest := []) hx hb hml hown hts hl hK hZ hS (c_X1_tenancyAt_ok l G (zr μ 1 (zu fb 3 (nI (T + 1)))) 1 hB1 (zu fb 3 (nI (T + 1))) zr_same (T + 1) T rfl (by omega) (by omega)) (z_G q261 q262 q263 q2 q264) hdX1_tenancyAt ⟨Nat.le_of_ble_eq_true rfl, Nat.le_of_ble_eq_true rfl⟩ (zk_book hB1) (by decide) rfl rfl rfl rfl (Nat.le_of_ble_eq_true rfl) dX1_addTenancy_17 ⟨(Nat.zero_le _), (Nat.zero_le _)⟩ (fun H locs hZ hS => ?_)
  refine lv_astore_n (lv' := [(3, .ref (G.1 + (1 + (3 + 2 * T)))), (2, .int (nI T)), (0, .ref (G.1 + 1)), (1, .int a)]) hx hb dX1_addTenancy_20 rfl hl (by decide) rfl (fun ls hl => ?_)
  refine lv_aload_n hx hb dX1_addTenancy_21 rfl (lv_at hl 0 rfl) ?_
  refine lv_ifnull hx hb dX1_addTenancy_22 ?_
  refine lv_aload_n hx hb dX1_addTenancy_25 rfl (lv_at hl 0 rfl) ?_
  refine lv_iload_n hx hb dX1_addTenancy_26 rfl (lv_at hl 3 rfl) ?_
  refine lv_aload_n hx hb dX1_addTenancy_27 rfl (lv_at hl 2 rfl) ?_
  refine z_g1 (f := (zu fb 3 (nI (T + 1)))) (v := .int (fb 0)) 0 hx hb hts hown hK hZ (zk_book hB1) zr_same (by decide) q146 rfl dX1_addTenancy_28 ?_
  refine z_cVv (As := [.int a, .int (fb 0)]) (rest := []) hx hb hml hown hts hl hK hZ hS (c_X5_start l G (zr μ 1 (zu fb 3 (nI (T + 1)))) (1 + (3 + 2 * T)) (μ (1 + (3 + 2 * T))) (zk_ten hB1 (by omega)) (zr_at rfl (by omega)) (zk_set1 hB1 (by omega)) a (fb 0)) (z_G q453 q454 q455 q3 q456) hdX5_start ⟨Nat.le_of_ble_eq_true rfl, Nat.le_of_ble_eq_true rfl⟩ (zk_ten hB1 (by omega)) (by decide) rfl rfl rfl rfl (Nat.le_of_ble_eq_true rfl) dX1_addTenancy_31 ⟨(Nat.zero_le _), (Nat.zero_le _)⟩ (fun H locs hZ hS => ?_)
  refine lv_iload_n hx hb dX1_addTenancy_34 rfl (lv_at hl 1 rfl) ?_
  exact z_iret hx hb hr hlk hK hZ hS ⟨rfl, rfl⟩ dX1_addTenancy_35
theorem hdX1_newItem : yX1_newItem.cls = RX1 ∧ yX1_newItem.cls ≠ "java/lang/invoke/MethodHandle" ∧ yX1_newItem.cls ≠ "java/lang/invoke/VarHandle" ∧ (parseMethodDescriptor yX1_newItem.desc).map (fun d => d.parameters.length) = some 5 := by decide +kernel
set_option maxHeartbeats 4000000 in
set_option maxRecDepth 100000 in
theorem c_X1_newItem (l : Launch) (G : zG) (μ : zM) (fb : Nat → Int32) (hfb : μ 1 = fb) (I : Nat) (hI : fb 4 = nI I) (hI24 : I < 24) (a b x y z : Int32) : zMet l G yX1_newItem cX1_newItem 8 (some .int) 1 25 [.ref (G.1 + 1), .int a, .int b, .int x, .int y, .int z] μ (zQi G (nI I) (m_newI μ fb I a b x y z)) := by
  refine z_start (lv := [(0, .ref (G.1 + 1)), (1, .int a), (2, .int b), (3, .int x), (4, .int y), (5, .int z)]) (by decide) (Nat.le_of_ble_eq_true rfl) rfl ?_
  intro p e s m args below meth c ls hx hb hml hr hlk hts hown hK hZ hS hl
  have hown : s.vm.findClass RX1 = some m.cls := hown
  refine lv_aload_n hx hb dX1_newItem_0 rfl (lv_at hl 0 rfl) ?_
  refine z_g1 (f := fb) (v := .int (nI I)) 4 hx hb hts hown hK hZ (zk_book hB1) hfb (by decide) q154 (congrArg (fun z => some (Value.int z)) hI) dX1_newItem_1 ?_
  refine lv_istore (lv' := [(6, .int (nI I)), (0, .ref (G.1 + 1)), (1, .int a), (2, .int b), (3, .int x), (4, .int y), (5, .int z)]) hx hb dX1_newItem_4 hl (by decide) rfl (fun ls hl => ?_)
  refine lv_aload_n hx hb dX1_newItem_6 rfl (lv_at hl 1 rfl) ?_
  refine lv_dup hx hb dX1_newItem_7 rfl ?_
  refine z_g1 (f := fb) (v := .int (nI I)) 4 hx hb hts hown hK hZ (zk_book hB1) hfb (by decide) q154 (congrArg (fun z => some (Value.int z)) hI) dX1_newItem_8 ?_
  refine lv_iconst (v := 1) hx hb dX1_newItem_11 (by decide) ?_
  refine lv_iadd hx hb dX1_newItem_12 ?_
  rw [nI_1]
  refine z_p1 (f := fb) (μ1 := (zr μ 1 (zu fb 4 (nI (I + 1))))) 4 hx hb hts hown hK hZ hS (zk_book hB1) hfb (by decide) q154 rfl pfd_I rfl rfl dX1_newItem_13 (fun H locs hZ hS => ?_)
  refine lv_aload_n hx hb dX1_newItem_16 rfl (lv_at hl 1 rfl) ?_
  refine lv_iload hx hb dX1_newItem_17 (lv_at hl 0 rfl) ?_
  refine z_cVr (As := [.int (nI I)]) (rest := []) hx hb hml hown hts hl hK hZ hS (c_X1_itemAt_ok l G (zr μ 1 (zu fb 4 (nI (I + 1)))) 1 hB1 (zu fb 4 (nI (I + 1))) zr_same (I + 1) I rfl (by omega) (by omega)) (z_G q273 q274 q275 q2 q276) hdX1_itemAt ⟨Nat.le_of_ble_eq_true rfl, Nat.le_of_ble_eq_true rfl⟩ (zk_book hB1) (by decide) rfl rfl rfl rfl (Nat.le_of_ble_eq_true rfl) dX1_newItem_19 ⟨(Nat.zero_le _), (Nat.zero_le _)⟩ (fun H locs hZ hS => ?_)
  refine lv_astore (lv' := [(7, .ref (G.1 + (1 + (15 + I)))), (6, .int (nI I)), (0, .ref (G.1 + 1)), (1, .int a), (2, .int b), (3, .int x), (4, .int y), (5, .int z)]) hx hb dX1_newItem_22 hl (by decide) rfl (fun ls hl => ?_)
  refine lv_aload hx hb dX1_newItem_24 (lv_at hl 0 rfl) ?_
  refine lv_ifnull hx hb dX1_newItem_26 ?_
  refine lv_aload hx hb dX1_newItem_29 (lv_at hl 0 rfl) ?_
  refine lv_iload_n hx hb dX1_newItem_31 rfl (lv_at hl 3 rfl) ?_
  refine lv_iload_n hx hb dX1_newItem_32 rfl (lv_at hl 4 rfl) ?_
  refine lv_iload_n hx hb dX1_newItem_33 rfl (lv_at hl 5 rfl) ?_
  refine lv_iload hx hb dX1_newItem_34 (lv_at hl 6 rfl) ?_
  refine lv_iload hx hb dX1_newItem_36 (lv_at hl 7 rfl) ?_
  refine z_cVv (As := [.int a, .int b, .int x, .int y, .int z]) (rest := []) hx hb hml hown hts hl hK hZ hS (c_X3_start l G (zr μ 1 (zu fb 4 (nI (I + 1)))) (1 + (15 + I)) (μ (1 + (15 + I))) (zk_item hB1 (by omega)) (zr_at rfl (by omega)) a b x y z) (z_G q467 q468 q469 q5 q470) hdX3_start ⟨Nat.le_of_ble_eq_true rfl, Nat.le_of_ble_eq_true rfl⟩ (zk_item hB1 (by omega)) (by decide) rfl rfl rfl rfl (Nat.le_of_ble_eq_true rfl) dX1_newItem_38 ⟨(Nat.zero_le _), (Nat.zero_le _)⟩ (fun H locs hZ hS => ?_)
  refine lv_iload hx hb dX1_newItem_41 (lv_at hl 1 rfl) ?_
  exact z_iret hx hb hr hlk hK hZ hS ⟨rfl, rfl⟩ dX1_newItem_43
