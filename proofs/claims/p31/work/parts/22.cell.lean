section LC
variable {p : Program} {l : Launch} {e : Env} {R : Room} {s : State} {m : MethodId} {args : Array Value} {below : List Frame} {meth : Method} {c : Code} {H : Heap} {locs : List Loc} {cells slots : Nat} {Q : State → Prop}
variable {cc : ByteArray} {pc : Nat} {ls : Array Slot} {rest : List Value} {G : zG} {μ : zM} {H0 : Heap}
theorem z_cSlP {own : String} {idx nL nA nm fr lo : Nat} {y : MethodName} {cm : ByteArray} {ret : Option FieldType} {As : List Value} {st0 : List Value} {r0 : Int64} {lv : List (Nat × Value)}
    (hx : p.tables.exec = Jvm.exec) (hb : c.code = cc) (hml : c.maxLocals = nL) (hown : s.vm.findClass own = some m.cls) (hts : ∀ w ∈ zall, w.before args s = true) (hl : lv_has ls nL lv) (hK : zKU G s) (hZ : zW G μ H) (hS : va_S (zA G) H0 H locs)
    (hM : zMet l G y cm nm ret fr lo As μ (zQlP G r0 (P242 μ))) (hG : GoodIn zall (wsS own idx y (ws_ y cm nm ret)))
    (hd : y.cls = own ∧ y.cls ≠ "java/lang/invoke/MethodHandle" ∧ y.cls ≠ "java/lang/invoke/VarHandle" ∧ (parseMethodDescriptor y.desc).map (fun d => d.parameters.length) = some nA) (hR : fr + 1 ≤ R.frames ∧ 8 + (nm + 11) + lo ≤ R.locals)
    (hA : As.length = nA) (hst : st0 = As.reverse ++ rest) (hW : (rest.map fun v => v.category).sum ≤ 8) (hdg : decode cc pc = .ok (.invokestatic idx, 3)) (hcs : cells ≤ R.cells ∧ slots ≤ R.slots)
    (kk : ∀ (q : Nat → Int32) (H1 : Heap) (locs1 : List Loc), zW G (zr μ 242 q) H1 → va_S (zA G) H0 H1 locs1 → W p l e R s m args below meth c H1 locs1 cells slots Q (F0 m (pc + 3) ls (.long r0 :: rest))) : W p l e R s m args below meth c H locs cells slots Q (F0 m pc ls st0) := by
  refine va_calll (va_runS (As := As) (rest := rest) ⟨hx, hb, hml, hown, hts⟩ hM (cwS nA hts hG rfl rfl rfl hd hR) ⟨fun a U g mk q => ⟨q.1, q.2.calling⟩, fun U hU hW => ⟨rfl, by rw [hU]; exact hZ, va_K.moved hW.alike hK⟩⟩ rfl hA hl.1 hst (lv_room hW) hdg hcs) hS (fun q _ h => h) (fun q h => h) (fun r u t H1 locs1 ht hvm hw hB hz1 hk1 hS1 => ?_)
  obtain ⟨rfl, q, rfl⟩ := hw
  exact kk q H1 locs1 (by rw [← ht]; exact hB.1) hS1
theorem z_cSiP {own : String} {idx nL nA nm fr lo : Nat} {y : MethodName} {cm : ByteArray} {ret : Option FieldType} {As : List Value} {st0 : List Value} {r0 : Int32} {lv : List (Nat × Value)}
    (hx : p.tables.exec = Jvm.exec) (hb : c.code = cc) (hml : c.maxLocals = nL) (hown : s.vm.findClass own = some m.cls) (hts : ∀ w ∈ zall, w.before args s = true) (hl : lv_has ls nL lv) (hK : zKU G s) (hZ : zW G μ H) (hS : va_S (zA G) H0 H locs)
    (hM : zMet l G y cm nm ret fr lo As μ (zQiP G r0 (P242 μ))) (hG : GoodIn zall (wsS own idx y (ws_ y cm nm ret)))
    (hd : y.cls = own ∧ y.cls ≠ "java/lang/invoke/MethodHandle" ∧ y.cls ≠ "java/lang/invoke/VarHandle" ∧ (parseMethodDescriptor y.desc).map (fun d => d.parameters.length) = some nA) (hR : fr + 1 ≤ R.frames ∧ 8 + (nm + 11) + lo ≤ R.locals)
    (hA : As.length = nA) (hst : st0 = As.reverse ++ rest) (hW : (rest.map fun v => v.category).sum ≤ 8) (hdg : decode cc pc = .ok (.invokestatic idx, 3)) (hcs : cells ≤ R.cells ∧ slots ≤ R.slots)
    (kk : ∀ (q : Nat → Int32) (H1 : Heap) (locs1 : List Loc), zW G (zr μ 242 q) H1 → va_S (zA G) H0 H1 locs1 → W p l e R s m args below meth c H1 locs1 cells slots Q (F0 m (pc + 3) ls (.int r0 :: rest))) : W p l e R s m args below meth c H locs cells slots Q (F0 m pc ls st0) := by
  refine va_calli (va_runS (As := As) (rest := rest) ⟨hx, hb, hml, hown, hts⟩ hM (cwS nA hts hG rfl rfl rfl hd hR) ⟨fun a U g mk q => ⟨q.1, q.2.calling⟩, fun U hU hW => ⟨rfl, by rw [hU]; exact hZ, va_K.moved hW.alike hK⟩⟩ rfl hA hl.1 hst (lv_room hW) hdg hcs) hS (fun q _ h => h) (fun q h => h) (fun r u t H1 locs1 ht hvm hw hB hz1 hk1 hS1 => ?_)
  obtain ⟨rfl, q, rfl⟩ := hw
  exact kk q H1 locs1 (by rw [← ht]; exact hB.1) hS1
def s_cell (xs : Nat → Int32) (L k : Nat) : Int32 := if nI L ≤ nI k then (7919 * (nI k + 3)) * (nI k + 11) else xs k
def zUX (G : zG) (μ : zM) (b L : Nat) (xs : Nat → Int32) (U : State) : Prop := zU G μ U ∧ va_X b L xs U U.heap ∧ b < G.1 ∧ b < U.heap.size
theorem zUX.calling {b L : Nat} {xs : Nat → Int32} {U : State} {g : JFrame} {mk : MethodId} {a : Array Value} (h : zUX G μ b L xs U) : zUX G μ b L xs (U.calling g mk a) := ⟨h.1.calling, va_X.moved (u := U) (U := U.calling g mk a) (Vm.Alike.refl U.vm) h.2.1, h.2.2⟩
theorem z_cCell {b L k idx nL : Nat} {xs : Nat → Int32} {st0 : List Value} {lv : List (Nat × Value)}
    (hM : Met l yL_cell (ws_ yL_cell cL_cell 2 (some .int)) { frames := 0, cells := 0, slots := 0, locals := 0 } (va_Pc [.ref b, .int (nI k)] (zUX G μ b L xs)) (zQi G (s_cell xs L k) μ) 0 0 (zA G))
    (hd : yL_cell.cls = RL ∧ yL_cell.cls ≠ "java/lang/invoke/MethodHandle" ∧ yL_cell.cls ≠ "java/lang/invoke/VarHandle" ∧ (parseMethodDescriptor yL_cell.desc).map (fun d => d.parameters.length) = some 2)
    (hx : p.tables.exec = Jvm.exec) (hb : c.code = cc) (hml : c.maxLocals = nL) (hown : s.vm.findClass RL = some m.cls) (hts : ∀ w ∈ zall, w.before args s = true) (hl : lv_has ls nL lv) (hK : zKU G s) (hZ : zW G μ H) (hS : va_S (zA G) s.heap H locs) (hX : va_X b L xs s s.heap) (hbl : b < s.heap.size) (hbG : b < G.1)
    (hG : GoodIn zall (wsS RL idx yL_cell (ws_ yL_cell cL_cell 2 (some .int)))) (hR : 1 ≤ R.frames ∧ 8 + (2 + 11) + 0 ≤ R.locals)
    (hst : st0 = .int (nI k) :: .ref b :: rest) (hW : (rest.map fun v => v.category).sum ≤ 8) (hdg : decode cc pc = .ok (.invokestatic idx, 3)) (hcs : cells ≤ R.cells ∧ slots ≤ R.slots)
    (kk : ∀ (H1 : Heap) (locs1 : List Loc), zW G μ H1 → va_S (zA G) s.heap H1 locs1 → W p l e R s m args below meth c H1 locs1 cells slots Q (F0 m (pc + 3) ls (.int (s_cell xs L k) :: rest))) : W p l e R s m args below meth c H locs cells slots Q (F0 m pc ls st0) := by
  have hXH : va_X b L xs s H := hX.kept (hS.2.1 b hbl (Nat.not_le.mpr hbG))
  have hbH : b < H.size := Nat.lt_of_lt_of_le hbl hS.1
  refine va_calli (va_runS (As := [.ref b, .int (nI k)]) (rest := rest) ⟨hx, hb, hml, hown, hts⟩ hM (cwS 2 hts hG rfl rfl rfl hd hR) ⟨fun a U g mk q => ⟨q.1, q.2.calling⟩, fun U hU hW => ⟨rfl, ⟨by rw [hU]; exact hZ, va_K.moved hW.alike hK⟩, by rw [hU]; exact va_X.moved hW.alike hXH, hbG, by rw [hU]; exact hbH⟩⟩ rfl rfl hl.1 hst (lv_room hW) hdg hcs) hS (fun q _ h => h) (fun q h => h) (fun r u t H1 locs1 ht hvm hw hB hz1 hk1 hS1 => ?_)
  obtain ⟨rfl, rfl⟩ := hw
  exact kk H1 locs1 (by rw [← ht]; exact hB.1) hS1
end LC
theorem hdL_cell : yL_cell.cls = RL ∧ yL_cell.cls ≠ "java/lang/invoke/MethodHandle" ∧ yL_cell.cls ≠ "java/lang/invoke/VarHandle" ∧ (parseMethodDescriptor yL_cell.desc).map (fun d => d.parameters.length) = some 2 := by decide +kernel
set_option maxRecDepth 100000 in
theorem c_L_cell (l : Launch) (G : zG) (μ : zM) (b L k : Nat) (xs : Nat → Int32) (hL : L ≤ 260) (hk : k ≤ 260) : Met l yL_cell (ws_ yL_cell cL_cell 2 (some .int)) { frames := 0, cells := 0, slots := 0, locals := 0 } (va_Pc [.ref b, .int (nI k)] (zUX G μ b L xs)) (zQi G (s_cell xs L k) μ) 0 0 (zA G) := by
  refine Met.ofW (cc := cL_cell) (maxL := 2) (ret := some .int) (by decide) rfl ?_
  intro p e s m args below meth c s₁ B hml hv
  obtain ⟨rfl, ⟨hZ, hK⟩, hX, hbG, hbl⟩ := hv
  have hts : ∀ w ∈ zall, w.before ([.ref b, .int (nI k)] : List Value).toArray s = true := fun w h => atoms_spec (ws := ws_ yL_cell cL_cell 2 (some .int)) B.pre w (List.mem_cons_of_mem _ h)
  have hl := lv_entry ([.ref b, .int (nI k)] : List Value) (n := 2) (Nat.le_of_ble_eq_true rfl)
  rw [lg_entry_eq]
  generalize (lg_sl ([.ref b, .int (nI k)] : List Value) ++ List.replicate (2 - (lg_sl ([.ref b, .int (nI k)] : List Value)).length) Slot.unset).toArray = ls at hl ⊢
  have hl : lv_has ls 2 [(0, .ref b), (1, .int (nI k))] := hl
  have hx := B.exec
  have hb := B.bytes
  have hr := B.returns
  have hlk := B.notSynchronized
  have hbA : ¬ zA G b := Nat.not_le.mpr hbG
  have hS : va_S (zA G) s.heap s.heap [] := va_S.rf
  refine lv_iload_n hx hb dL_cell_0 rfl (lv_at hl 1 rfl) ?_
  refine lv_aload_n hx hb dL_cell_1 rfl (lv_at hl 0 rfl) ?_
  refine va_slen hx hb hX hbl hbA hS dL_cell_2 ?_
  refine lv_icmp_ge (tgt := 12) hx hb dL_cell_3 (by decide) (fun c_1 => ?_) (fun c_1 => ?_)
  · refine lv_sipush (v := 7919) hx hb dL_cell_12 (by decide) ?_
    refine lv_iload_n hx hb dL_cell_15 rfl (lv_at hl 1 rfl) ?_
    refine lv_iconst (v := 3) hx hb dL_cell_16 (by decide) ?_
    refine lv_iadd hx hb dL_cell_17 ?_
    refine lv_imul hx hb dL_cell_18 ?_
    refine lv_iload_n hx hb dL_cell_19 rfl (lv_at hl 1 rfl) ?_
    refine lv_bipush (v := 11) hx hb dL_cell_20 (by decide) ?_
    refine lv_iadd hx hb dL_cell_22 ?_
    refine lv_imul hx hb dL_cell_23 ?_
    exact z_iret hx hb hr hlk hK hZ hS ⟨(if_pos c_1).symm, rfl⟩ dL_cell_24
  · have hkL : k < L := Nat.not_le.mp fun h => c_1 (nI_le h (by omega))
    refine lv_aload_n hx hb dL_cell_6 rfl (lv_at hl 0 rfl) ?_
    refine lv_iload_n hx hb dL_cell_7 rfl (lv_at hl 1 rfl) ?_
    refine va_sld hx hb hX hbl hbA hS (vp_in_nI hkL (by omega)) dL_cell_8 ?_
    refine lv_goto (tgt := 24) hx hb dL_cell_9 (by decide) ?_
    rw [nI_clamp (by omega)]
    exact z_iret hx hb hr hlk hK hZ hS ⟨(if_neg c_1).symm, rfl⟩ dL_cell_24
