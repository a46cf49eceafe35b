def zr (μ : zM) (n : Nat) (f : Nat → Int32) : zM := fun j => if j = n then f else μ j
theorem zr_same {μ : zM} {n : Nat} {f : Nat → Int32} : zr μ n f n = f := by unfold zr; rw [if_pos rfl]
theorem zr_ne {μ : zM} {n j : Nat} {f : Nat → Int32} (h : j ≠ n) : zr μ n f j = μ j := by unfold zr; rw [if_neg h]
theorem zr_at {μ : zM} {n j : Nat} {f g : Nat → Int32} (h : μ j = g) (hne : j ≠ n) : zr μ n f j = g := (zr_ne hne).trans h
theorem zr_zr {μ : zM} {n : Nat} {f g : Nat → Int32} : zr (zr μ n f) n g = zr μ n g := by
  funext j
  by_cases h : j = n
  · subst h; rw [zr_same, zr_same]
  · rw [zr_ne h, zr_ne h, zr_ne h]
theorem zr_id {μ : zM} {n : Nat} {f : Nat → Int32} (h : μ n = f) : zr μ n f = μ := by
  funext j
  by_cases hj : j = n
  · subst hj; rw [zr_same]; exact h.symm
  · exact zr_ne hj
section ZC
variable {p : Program} {l : Launch} {e : Env} {R : Room} {s : State} {m : MethodId} {args : Array Value} {below : List Frame} {meth : Method} {c : Code} {H : Heap} {locs : List Loc} {cells slots : Nat} {Q : State → Prop}
variable {cc : ByteArray} {pc : Nat} {ls : Array Slot} {rest : List Value} {G : zG} {μ : zM} {H0 : Heap}
theorem z_cVi {own C : String} {T : u_T} {N ci kd n idx nL nA nm fr lo : Nat} {y : MethodName} {cm : ByteArray} {ret : Option FieldType} {As : List Value} {st0 : List Value} {r0 : Int32} {μ1 : zM} {lv : List (Nat × Value)}
    (hx : p.tables.exec = Jvm.exec) (hb : c.code = cc) (hml : c.maxLocals = nL) (hown : s.vm.findClass own = some m.cls) (hts : ∀ w ∈ zall, w.before args s = true) (hl : lv_has ls nL lv) (hK : zKU G s) (hZ : zW G μ H) (hS : va_S (zA G) H0 H locs)
    (hM : zMet l G y cm nm ret fr lo (.ref (G.1 + n) :: As) μ (zQi G r0 μ1)) (hG : GoodIn zall (wsV own idx C y (ws_ y cm nm ret)))
    (hd : y.cls = C ∧ y.cls ≠ "java/lang/invoke/MethodHandle" ∧ y.cls ≠ "java/lang/invoke/VarHandle" ∧ (parseMethodDescriptor y.desc).map (fun d => d.parameters.length) = some nA) (hR : fr + 1 ≤ R.frames ∧ 8 + (nm + 11) + lo ≤ R.locals)
    (hn : zk n = kd) (hk9 : kd < 9) {fs : List Value} (he : zE G kd n (μ n) = .inr (ci, fs)) (hc : vwCl[ci]? = some (C, T, N)) (hA : As.length = nA) (hst : st0 = As.reverse ++ .ref (G.1 + n) :: rest) (hW : (rest.map fun v => v.category).sum ≤ 8) (hdg : decode cc pc = .ok (.invokevirtual idx, 3)) (hcs : cells ≤ R.cells ∧ slots ≤ R.slots)
    (kk : ∀ (H1 : Heap) (locs1 : List Loc), zW G μ1 H1 → va_S (zA G) H0 H1 locs1 → W p l e R s m args below meth c H1 locs1 cells slots Q (F0 m (pc + 3) ls (.int r0 :: rest))) : W p l e R s m args below meth c H locs cells slots Q (F0 m pc ls st0) := by
  refine va_calli (va_runV (As := As) (rest := rest) ⟨hx, hb, hml, hown, hts⟩ hM (cwV nA hts hG rfl rfl rfl hd hR) ⟨fun a U g mk q => ⟨q.1, q.2.calling⟩, z_recv hK hZ hn hk9 he hc, fun U hU hW => ⟨rfl, by rw [hU]; exact hZ, va_K.moved hW.alike hK⟩⟩ rfl hA hl.1 hst (lv_room hW) hdg hcs) hS (fun q _ h => h) (fun q h => h) (fun r u t H1 locs1 ht hvm hw hB hz1 hk1 hS1 => ?_)
  obtain ⟨rfl, rfl⟩ := hw
  exact kk H1 locs1 (by rw [← ht]; exact hB.1) hS1
theorem z_cSi {own : String} {idx nL nA nm fr lo : Nat} {y : MethodName} {cm : ByteArray} {ret : Option FieldType} {As : List Value} {st0 : List Value} {r0 : Int32} {μ1 : zM} {lv : List (Nat × Value)}
    (hx : p.tables.exec = Jvm.exec) (hb : c.code = cc) (hml : c.maxLocals = nL) (hown : s.vm.findClass own = some m.cls) (hts : ∀ w ∈ zall, w.before args s = true) (hl : lv_has ls nL lv) (hK : zKU G s) (hZ : zW G μ H) (hS : va_S (zA G) H0 H locs)
    (hM : zMet l G y cm nm ret fr lo As μ (zQi G r0 μ1)) (hG : GoodIn zall (wsS own idx y (ws_ y cm nm ret)))
    (hd : y.cls = own ∧ y.cls ≠ "java/lang/invoke/MethodHandle" ∧ y.cls ≠ "java/lang/invoke/VarHandle" ∧ (parseMethodDescriptor y.desc).map (fun d => d.parameters.length) = some nA) (hR : fr + 1 ≤ R.frames ∧ 8 + (nm + 11) + lo ≤ R.locals)
    (hA : As.length = nA) (hst : st0 = As.reverse ++ rest) (hW : (rest.map fun v => v.category).sum ≤ 8) (hdg : decode cc pc = .ok (.invokestatic idx, 3)) (hcs : cells ≤ R.cells ∧ slots ≤ R.slots)
    (kk : ∀ (H1 : Heap) (locs1 : List Loc), zW G μ1 H1 → va_S (zA G) H0 H1 locs1 → W p l e R s m args below meth c H1 locs1 cells slots Q (F0 m (pc + 3) ls (.int r0 :: rest))) : W p l e R s m args below meth c H locs cells slots Q (F0 m pc ls st0) := by
  refine va_calli (va_runS (As := As) (rest := rest) ⟨hx, hb, hml, hown, hts⟩ hM (cwS nA hts hG rfl rfl rfl hd hR) ⟨fun a U g mk q => ⟨q.1, q.2.calling⟩, fun U hU hW => ⟨rfl, by rw [hU]; exact hZ, va_K.moved hW.alike hK⟩⟩ rfl hA hl.1 hst (lv_room hW) hdg hcs) hS (fun q _ h => h) (fun q h => h) (fun r u t H1 locs1 ht hvm hw hB hz1 hk1 hS1 => ?_)
  obtain ⟨rfl, rfl⟩ := hw
  exact kk H1 locs1 (by rw [← ht]; exact hB.1) hS1
theorem z_cVl {own C : String} {T : u_T} {N ci kd n idx nL nA nm fr lo : Nat} {y : MethodName} {cm : ByteArray} {ret : Option FieldType} {As : List Value} {st0 : List Value} {r0 : Int64} {μ1 : zM} {lv : List (Nat × Value)}
    (hx : p.tables.exec = Jvm.exec) (hb : c.code = cc) (hml : c.maxLocals = nL) (hown : s.vm.findClass own = some m.cls) (hts : ∀ w ∈ zall, w.before args s = true) (hl : lv_has ls nL lv) (hK : zKU G s) (hZ : zW G μ H) (hS : va_S (zA G) H0 H locs)
    (hM : zMet l G y cm nm ret fr lo (.ref (G.1 + n) :: As) μ (zQl G r0 μ1)) (hG : GoodIn zall (wsV own idx C y (ws_ y cm nm ret)))
    (hd : y.cls = C ∧ y.cls ≠ "java/lang/invoke/MethodHandle" ∧ y.cls ≠ "java/lang/invoke/VarHandle" ∧ (parseMethodDescriptor y.desc).map (fun d => d.parameters.length) = some nA) (hR : fr + 1 ≤ R.frames ∧ 8 + (nm + 11) + lo ≤ R.locals)
    (hn : zk n = kd) (hk9 : kd < 9) {fs : List Value} (he : zE G kd n (μ n) = .inr (ci, fs)) (hc : vwCl[ci]? = some (C, T, N)) (hA : As.length = nA) (hst : st0 = As.reverse ++ .ref (G.1 + n) :: rest) (hW : (rest.map fun v => v.category).sum ≤ 8) (hdg : decode cc pc = .ok (.invokevirtual idx, 3)) (hcs : cells ≤ R.cells ∧ slots ≤ R.slots)
    (kk : ∀ (H1 : Heap) (locs1 : List Loc), zW G μ1 H1 → va_S (zA G) H0 H1 locs1 → W p l e R s m args below meth c H1 locs1 cells slots Q (F0 m (pc + 3) ls (.long r0 :: rest))) : W p l e R s m args below meth c H locs cells slots Q (F0 m pc ls st0) := by
  refine va_calll (va_runV (As := As) (rest := rest) ⟨hx, hb, hml, hown, hts⟩ hM (cwV nA hts hG rfl rfl rfl hd hR) ⟨fun a U g mk q => ⟨q.1, q.2.calling⟩, z_recv hK hZ hn hk9 he hc, fun U hU hW => ⟨rfl, by rw [hU]; exact hZ, va_K.moved hW.alike hK⟩⟩ rfl hA hl.1 hst (lv_room hW) hdg hcs) hS (fun q _ h => h) (fun q h => h) (fun r u t H1 locs1 ht hvm hw hB hz1 hk1 hS1 => ?_)
  obtain ⟨rfl, rfl⟩ := hw
  exact kk H1 locs1 (by rw [← ht]; exact hB.1) hS1
theorem z_cSl {own : String} {idx nL nA nm fr lo : Nat} {y : MethodName} {cm : ByteArray} {ret : Option FieldType} {As : List Value} {st0 : List Value} {r0 : Int64} {μ1 : zM} {lv : List (Nat × Value)}
    (hx : p.tables.exec = Jvm.exec) (hb : c.code = cc) (hml : c.maxLocals = nL) (hown : s.vm.findClass own = some m.cls) (hts : ∀ w ∈ zall, w.before args s = true) (hl : lv_has ls nL lv) (hK : zKU G s) (hZ : zW G μ H) (hS : va_S (zA G) H0 H locs)
    (hM : zMet l G y cm nm ret fr lo As μ (zQl G r0 μ1)) (hG : GoodIn zall (wsS own idx y (ws_ y cm nm ret)))
    (hd : y.cls = own ∧ y.cls ≠ "java/lang/invoke/MethodHandle" ∧ y.cls ≠ "java/lang/invoke/VarHandle" ∧ (parseMethodDescriptor y.desc).map (fun d => d.parameters.length) = some nA) (hR : fr + 1 ≤ R.frames ∧ 8 + (nm + 11) + lo ≤ R.locals)
    (hA : As.length = nA) (hst : st0 = As.reverse ++ rest) (hW : (rest.map fun v => v.category).sum ≤ 8) (hdg : decode cc pc = .ok (.invokestatic idx, 3)) (hcs : cells ≤ R.cells ∧ slots ≤ R.slots)
    (kk : ∀ (H1 : Heap) (locs1 : List Loc), zW G μ1 H1 → va_S (zA G) H0 H1 locs1 → W p l e R s m args below meth c H1 locs1 cells slots Q (F0 m (pc + 3) ls (.long r0 :: rest))) : W p l e R s m args below meth c H locs cells slots Q (F0 m pc ls st0) := by
  refine va_calll (va_runS (As := As) (rest := rest) ⟨hx, hb, hml, hown, hts⟩ hM (cwS nA hts hG rfl rfl rfl hd hR) ⟨fun a U g mk q => ⟨q.1, q.2.calling⟩, fun U hU hW => ⟨rfl, by rw [hU]; exact hZ, va_K.moved hW.alike hK⟩⟩ rfl hA hl.1 hst (lv_room hW) hdg hcs) hS (fun q _ h => h) (fun q h => h) (fun r u t H1 locs1 ht hvm hw hB hz1 hk1 hS1 => ?_)
  obtain ⟨rfl, rfl⟩ := hw
  exact kk H1 locs1 (by rw [← ht]; exact hB.1) hS1
theorem z_cVf {own C : String} {T : u_T} {N ci kd n idx nL nA nm fr lo : Nat} {y : MethodName} {cm : ByteArray} {ret : Option FieldType} {As : List Value} {st0 : List Value} {r0 : UInt32} {μ1 : zM} {lv : List (Nat × Value)}
    (hx : p.tables.exec = Jvm.exec) (hb : c.code = cc) (hml : c.maxLocals = nL) (hown : s.vm.findClass own = some m.cls) (hts : ∀ w ∈ zall, w.before args s = true) (hl : lv_has ls nL lv) (hK : zKU G s) (hZ : zW G μ H) (hS : va_S (zA G) H0 H locs)
    (hM : zMet l G y cm nm ret fr lo (.ref (G.1 + n) :: As) μ (zQf G r0 μ1)) (hG : GoodIn zall (wsV own idx C y (ws_ y cm nm ret)))
    (hd : y.cls = C ∧ y.cls ≠ "java/lang/invoke/MethodHandle" ∧ y.cls ≠ "java/lang/invoke/VarHandle" ∧ (parseMethodDescriptor y.desc).map (fun d => d.parameters.length) = some nA) (hR : fr + 1 ≤ R.frames ∧ 8 + (nm + 11) + lo ≤ R.locals)
    (hn : zk n = kd) (hk9 : kd < 9) {fs : List Value} (he : zE G kd n (μ n) = .inr (ci, fs)) (hc : vwCl[ci]? = some (C, T, N)) (hA : As.length = nA) (hst : st0 = As.reverse ++ .ref (G.1 + n) :: rest) (hW : (rest.map fun v => v.category).sum ≤ 8) (hdg : decode cc pc = .ok (.invokevirtual idx, 3)) (hcs : cells ≤ R.cells ∧ slots ≤ R.slots)
    (kk : ∀ (H1 : Heap) (locs1 : List Loc), zW G μ1 H1 → va_S (zA G) H0 H1 locs1 → W p l e R s m args below meth c H1 locs1 cells slots Q (F0 m (pc + 3) ls (.float r0 :: rest))) : W p l e R s m args below meth c H locs cells slots Q (F0 m pc ls st0) := by
  refine va_callf (va_runV (As := As) (rest := rest) ⟨hx, hb, hml, hown, hts⟩ hM (cwV nA hts hG rfl rfl rfl hd hR) ⟨fun a U g mk q => ⟨q.1, q.2.calling⟩, z_recv hK hZ hn hk9 he hc, fun U hU hW => ⟨rfl, by rw [hU]; exact hZ, va_K.moved hW.alike hK⟩⟩ rfl hA hl.1 hst (lv_room hW) hdg hcs) hS (fun q _ h => h) (fun q h => h) (fun r u t H1 locs1 ht hvm hw hB hz1 hk1 hS1 => ?_)
  obtain ⟨rfl, rfl⟩ := hw
  exact kk H1 locs1 (by rw [← ht]; exact hB.1) hS1
theorem z_cSf {own : String} {idx nL nA nm fr lo : Nat} {y : MethodName} {cm : ByteArray} {ret : Option FieldType} {As : List Value} {st0 : List Value} {r0 : UInt32} {μ1 : zM} {lv : List (Nat × Value)}
    (hx : p.tables.exec = Jvm.exec) (hb : c.code = cc) (hml : c.maxLocals = nL) (hown : s.vm.findClass own = some m.cls) (hts : ∀ w ∈ zall, w.before args s = true) (hl : lv_has ls nL lv) (hK : zKU G s) (hZ : zW G μ H) (hS : va_S (zA G) H0 H locs)
    (hM : zMet l G y cm nm ret fr lo As μ (zQf G r0 μ1)) (hG : GoodIn zall (wsS own idx y (ws_ y cm nm ret)))
    (hd : y.cls = own ∧ y.cls ≠ "java/lang/invoke/MethodHandle" ∧ y.cls ≠ "java/lang/invoke/VarHandle" ∧ (parseMethodDescriptor y.desc).map (fun d => d.parameters.length) = some nA) (hR : fr + 1 ≤ R.frames ∧ 8 + (nm + 11) + lo ≤ R.locals)
    (hA : As.length = nA) (hst : st0 = As.reverse ++ rest) (hW : (rest.map fun v => v.category).sum ≤ 8) (hdg : decode cc pc = .ok (.invokestatic idx, 3)) (hcs : cells ≤ R.cells ∧ slots ≤ R.slots)
    (kk : ∀ (H1 : Heap) (locs1 : List Loc), zW G μ1 H1 → va_S (zA G) H0 H1 locs1 → W p l e R s m args below meth c H1 locs1 cells slots Q (F0 m (pc + 3) ls (.float r0 :: rest))) : W p l e R s m args below meth c H locs cells slots Q (F0 m pc ls st0) := by
  refine va_callf (va_runS (As := As) (rest := rest) ⟨hx, hb, hml, hown, hts⟩ hM (cwS nA hts hG rfl rfl rfl hd hR) ⟨fun a U g mk q => ⟨q.1, q.2.calling⟩, fun U hU hW => ⟨rfl, by rw [hU]; exact hZ, va_K.moved hW.alike hK⟩⟩ rfl hA hl.1 hst (lv_room hW) hdg hcs) hS (fun q _ h => h) (fun q h => h) (fun r u t H1 locs1 ht hvm hw hB hz1 hk1 hS1 => ?_)
  obtain ⟨rfl, rfl⟩ := hw
  exact kk H1 locs1 (by rw [← ht]; exact hB.1) hS1
theorem z_cVv {own C : String} {T : u_T} {N ci kd n idx nL nA nm fr lo : Nat} {y : MethodName} {cm : ByteArray} {ret : Option FieldType} {As : List Value} {st0 : List Value}  {μ1 : zM} {lv : List (Nat × Value)}
    (hx : p.tables.exec = Jvm.exec) (hb : c.code = cc) (hml : c.maxLocals = nL) (hown : s.vm.findClass own = some m.cls) (hts : ∀ w ∈ zall, w.before args s = true) (hl : lv_has ls nL lv) (hK : zKU G s) (hZ : zW G μ H) (hS : va_S (zA G) H0 H locs)
    (hM : zMet l G y cm nm ret fr lo (.ref (G.1 + n) :: As) μ (zQv G μ1)) (hG : GoodIn zall (wsV own idx C y (ws_ y cm nm ret)))
    (hd : y.cls = C ∧ y.cls ≠ "java/lang/invoke/MethodHandle" ∧ y.cls ≠ "java/lang/invoke/VarHandle" ∧ (parseMethodDescriptor y.desc).map (fun d => d.parameters.length) = some nA) (hR : fr + 1 ≤ R.frames ∧ 8 + (nm + 11) + lo ≤ R.locals)
    (hn : zk n = kd) (hk9 : kd < 9) {fs : List Value} (he : zE G kd n (μ n) = .inr (ci, fs)) (hc : vwCl[ci]? = some (C, T, N)) (hA : As.length = nA) (hst : st0 = As.reverse ++ .ref (G.1 + n) :: rest) (hW : (rest.map fun v => v.category).sum ≤ 8) (hdg : decode cc pc = .ok (.invokevirtual idx, 3)) (hcs : cells ≤ R.cells ∧ slots ≤ R.slots)
    (kk : ∀ (H1 : Heap) (locs1 : List Loc), zW G μ1 H1 → va_S (zA G) H0 H1 locs1 → W p l e R s m args below meth c H1 locs1 cells slots Q (F0 m (pc + 3) ls (rest))) : W p l e R s m args below meth c H locs cells slots Q (F0 m pc ls st0) := by
  refine va_callv (va_runV (As := As) (rest := rest) ⟨hx, hb, hml, hown, hts⟩ hM (cwV nA hts hG rfl rfl rfl hd hR) ⟨fun a U g mk q => ⟨q.1, q.2.calling⟩, z_recv hK hZ hn hk9 he hc, fun U hU hW => ⟨rfl, by rw [hU]; exact hZ, va_K.moved hW.alike hK⟩⟩ rfl hA hl.1 hst (lv_room hW) hdg hcs) hS (fun q _ h => h) (fun q h => h) (fun u t H1 locs1 ht hvm hw hB hz1 hk1 hS1 => ?_)
  obtain rfl := hw
  exact kk H1 locs1 (by rw [← ht]; exact hB.1) hS1
theorem z_cSv {own : String} {idx nL nA nm fr lo : Nat} {y : MethodName} {cm : ByteArray} {ret : Option FieldType} {As : List Value} {st0 : List Value}  {μ1 : zM} {lv : List (Nat × Value)}
    (hx : p.tables.exec = Jvm.exec) (hb : c.code = cc) (hml : c.maxLocals = nL) (hown : s.vm.findClass own = some m.cls) (hts : ∀ w ∈ zall, w.before args s = true) (hl : lv_has ls nL lv) (hK : zKU G s) (hZ : zW G μ H) (hS : va_S (zA G) H0 H locs)
    (hM : zMet l G y cm nm ret fr lo As μ (zQv G μ1)) (hG : GoodIn zall (wsS own idx y (ws_ y cm nm ret)))
    (hd : y.cls = own ∧ y.cls ≠ "java/lang/invoke/MethodHandle" ∧ y.cls ≠ "java/lang/invoke/VarHandle" ∧ (parseMethodDescriptor y.desc).map (fun d => d.parameters.length) = some nA) (hR : fr + 1 ≤ R.frames ∧ 8 + (nm + 11) + lo ≤ R.locals)
    (hA : As.length = nA) (hst : st0 = As.reverse ++ rest) (hW : (rest.map fun v => v.category).sum ≤ 8) (hdg : decode cc pc = .ok (.invokestatic idx, 3)) (hcs : cells ≤ R.cells ∧ slots ≤ R.slots)
    (kk : ∀ (H1 : Heap) (locs1 : List Loc), zW G μ1 H1 → va_S (zA G) H0 H1 locs1 → W p l e R s m args below meth c H1 locs1 cells slots Q (F0 m (pc + 3) ls (rest))) : W p l e R s m args below meth c H locs cells slots Q (F0 m pc ls st0) := by
  refine va_callv (va_runS (As := As) (rest := rest) ⟨hx, hb, hml, hown, hts⟩ hM (cwS nA hts hG rfl rfl rfl hd hR) ⟨fun a U g mk q => ⟨q.1, q.2.calling⟩, fun U hU hW => ⟨rfl, by rw [hU]; exact hZ, va_K.moved hW.alike hK⟩⟩ rfl hA hl.1 hst (lv_room hW) hdg hcs) hS (fun q _ h => h) (fun q h => h) (fun u t H1 locs1 ht hvm hw hB hz1 hk1 hS1 => ?_)
  obtain rfl := hw
  exact kk H1 locs1 (by rw [← ht]; exact hB.1) hS1
theorem z_cVq {own C : String} {T : u_T} {N ci kd n idx nL nA nm fr lo : Nat} {y : MethodName} {cm : ByteArray} {ret : Option FieldType} {As : List Value} {st0 : List Value} {r0 : Option Nat} {μ1 : zM} {lv : List (Nat × Value)}
    (hx : p.tables.exec = Jvm.exec) (hb : c.code = cc) (hml : c.maxLocals = nL) (hown : s.vm.findClass own = some m.cls) (hts : ∀ w ∈ zall, w.before args s = true) (hl : lv_has ls nL lv) (hK : zKU G s) (hZ : zW G μ H) (hS : va_S (zA G) H0 H locs)
    (hM : zMet l G y cm nm ret fr lo (.ref (G.1 + n) :: As) μ (zQq G r0 μ1)) (hG : GoodIn zall (wsV own idx C y (ws_ y cm nm ret)))
    (hd : y.cls = C ∧ y.cls ≠ "java/lang/invoke/MethodHandle" ∧ y.cls ≠ "java/lang/invoke/VarHandle" ∧ (parseMethodDescriptor y.desc).map (fun d => d.parameters.length) = some nA) (hR : fr + 1 ≤ R.frames ∧ 8 + (nm + 11) + lo ≤ R.locals)
    (hn : zk n = kd) (hk9 : kd < 9) {fs : List Value} (he : zE G kd n (μ n) = .inr (ci, fs)) (hc : vwCl[ci]? = some (C, T, N)) (hA : As.length = nA) (hst : st0 = As.reverse ++ .ref (G.1 + n) :: rest) (hW : (rest.map fun v => v.category).sum ≤ 8) (hdg : decode cc pc = .ok (.invokevirtual idx, 3)) (hcs : cells ≤ R.cells ∧ slots ≤ R.slots)
    (kk : ∀ (H1 : Heap) (locs1 : List Loc), zW G μ1 H1 → va_S (zA G) H0 H1 locs1 → W p l e R s m args below meth c H1 locs1 cells slots Q (F0 m (pc + 3) ls (va_rf r0 :: rest))) : W p l e R s m args below meth c H locs cells slots Q (F0 m pc ls st0) := by
  refine va_callq (va_runV (As := As) (rest := rest) ⟨hx, hb, hml, hown, hts⟩ hM (cwV nA hts hG rfl rfl rfl hd hR) ⟨fun a U g mk q => ⟨q.1, q.2.calling⟩, z_recv hK hZ hn hk9 he hc, fun U hU hW => ⟨rfl, by rw [hU]; exact hZ, va_K.moved hW.alike hK⟩⟩ rfl hA hl.1 hst (lv_room hW) hdg hcs) hS (fun q _ h => h) (fun q h => h) (fun r u t H1 locs1 ht hvm hw hB hz1 hk1 hS1 => ?_)
  obtain ⟨rfl, rfl⟩ := hw
  exact kk H1 locs1 (by rw [← ht]; exact hB.1) hS1
theorem z_cSq {own : String} {idx nL nA nm fr lo : Nat} {y : MethodName} {cm : ByteArray} {ret : Option FieldType} {As : List Value} {st0 : List Value} {r0 : Option Nat} {μ1 : zM} {lv : List (Nat × Value)}
    (hx : p.tables.exec = Jvm.exec) (hb : c.code = cc) (hml : c.maxLocals = nL) (hown : s.vm.findClass own = some m.cls) (hts : ∀ w ∈ zall, w.before args s = true) (hl : lv_has ls nL lv) (hK : zKU G s) (hZ : zW G μ H) (hS : va_S (zA G) H0 H locs)
    (hM : zMet l G y cm nm ret fr lo As μ (zQq G r0 μ1)) (hG : GoodIn zall (wsS own idx y (ws_ y cm nm ret)))
    (hd : y.cls = own ∧ y.cls ≠ "java/lang/invoke/MethodHandle" ∧ y.cls ≠ "java/lang/invoke/VarHandle" ∧ (parseMethodDescriptor y.desc).map (fun d => d.parameters.length) = some nA) (hR : fr + 1 ≤ R.frames ∧ 8 + (nm + 11) + lo ≤ R.locals)
    (hA : As.length = nA) (hst : st0 = As.reverse ++ rest) (hW : (rest.map fun v => v.category).sum ≤ 8) (hdg : decode cc pc = .ok (.invokestatic idx, 3)) (hcs : cells ≤ R.cells ∧ slots ≤ R.slots)
    (kk : ∀ (H1 : Heap) (locs1 : List Loc), zW G μ1 H1 → va_S (zA G) H0 H1 locs1 → W p l e R s m args below meth c H1 locs1 cells slots Q (F0 m (pc + 3) ls (va_rf r0 :: rest))) : W p l e R s m args below meth c H locs cells slots Q (F0 m pc ls st0) := by
  refine va_callq (va_runS (As := As) (rest := rest) ⟨hx, hb, hml, hown, hts⟩ hM (cwS nA hts hG rfl rfl rfl hd hR) ⟨fun a U g mk q => ⟨q.1, q.2.calling⟩, fun U hU hW => ⟨rfl, by rw [hU]; exact hZ, va_K.moved hW.alike hK⟩⟩ rfl hA hl.1 hst (lv_room hW) hdg hcs) hS (fun q _ h => h) (fun q h => h) (fun r u t H1 locs1 ht hvm hw hB hz1 hk1 hS1 => ?_)
  obtain ⟨rfl, rfl⟩ := hw
  exact kk H1 locs1 (by rw [← ht]; exact hB.1) hS1
theorem z_g0 {own : String} {index n : Nat} {f : Nat → Int32} (k : Nat) {v : Value} (hx : p.tables.exec = Jvm.exec) (hb : c.code = cc) (hts : ∀ w ∈ zall, w.before args s = true) (hown : s.vm.findClass own = some m.cls) (hK : zKU G s) (hZ : zW G μ H) (hn : zk n = 0) (hf : μ n = f) (hk : k < 6) (hlink : Cond.fieldLink own index (TX6 k).1 (TX6 k).2.1 (TX6 k).2.2.1 ∈ zall) (hv : (zF0 G f)[k]? = some v) (hdg : decode cc pc = .ok (.getfield index, 3))
    (kk : W p l e R s m args below meth c H locs cells slots Q (F0 m (pc + 3) ls (v :: rest))) : W p l e R s m args below meth c H locs cells slots Q (F0 m pc ls (.ref (G.1 + n) :: rest)) := by
  subst hf
  exact z_get (C := RX6) (T := TX6) (N := 6) hx hb hts inX6 hown hK hZ hn (by decide) rfl rfl k hk hlink hv hdg kk
theorem z_p0z {own : String} {index n : Nat} {f : Nat → Int32} {μ1 : zM} (k : Nat) {x : Int32} (hx : p.tables.exec = Jvm.exec) (hb : c.code = cc) (hts : ∀ w ∈ zall, w.before args s = true) (hown : s.vm.findClass own = some m.cls) (hK : zKU G s) (hZ : zW G μ H) (hS : va_S (zA G) H0 H locs) (hn : zk n = 0) (hf : μ n = f) (hk : k < 6) (hlink : Cond.fieldLink own index (TX6 k).1 (TX6 k).2.1 (TX6 k).2.2.1 ∈ zall) (hfin : (TX6 k).2.2.2 = false) (hd : parseFieldDescriptor (TX6 k).2.2.1 = some .boolean) (hz : narrow .boolean (.int x) = .int x) (hz2 : fits .boolean (.int x) = true) (hset : zF0 G (zu f k x) = (zF0 G f).set k (.int x)) (hμ : zr μ n (zu f k x) = μ1) (hdg : decode cc pc = .ok (.putfield index, 3))
    (kk : ∀ (H1 : Heap) (locs1 : List Loc), zW G μ1 H1 → va_S (zA G) H0 H1 locs1 → W p l e R s m args below meth c H1 locs1 cells slots Q (F0 m (pc + 3) ls rest)) : W p l e R s m args below meth c H locs cells slots Q (F0 m pc ls (.int x :: .ref (G.1 + n) :: rest)) := by
  subst hf
  subst hμ
  exact z_put (C := RX6) (T := TX6) (N := 6) hx hb hts inX6 tyX6 tyX6_ok nmX6 hown hK hZ hn (by decide) (fs := zF0 G (μ n)) rfl rfl k hk hlink hfin hd hz hz2 (by show k < 6; exact hk) (μ1 := zr μ n (zu (μ n) k x)) (by rw [zr_same]; exact congrArg (fun z => (Sum.inr (6, z) : va_E)) hset) (fun j hj => zr_ne hj) hS hdg kk
theorem z_g1 {own : String} {index n : Nat} {f : Nat → Int32} (k : Nat) {v : Value} (hx : p.tables.exec = Jvm.exec) (hb : c.code = cc) (hts : ∀ w ∈ zall, w.before args s = true) (hown : s.vm.findClass own = some m.cls) (hK : zKU G s) (hZ : zW G μ H) (hn : zk n = 1) (hf : μ n = f) (hk : k < 7) (hlink : Cond.fieldLink own index (TX1 k).1 (TX1 k).2.1 (TX1 k).2.2.1 ∈ zall) (hv : (zF1 G n f)[k]? = some v) (hdg : decode cc pc = .ok (.getfield index, 3))
    (kk : W p l e R s m args below meth c H locs cells slots Q (F0 m (pc + 3) ls (v :: rest))) : W p l e R s m args below meth c H locs cells slots Q (F0 m pc ls (.ref (G.1 + n) :: rest)) := by
  subst hf
  exact z_get (C := RX1) (T := TX1) (N := 7) hx hb hts inX1 hown hK hZ hn (by decide) rfl rfl k hk hlink hv hdg kk
theorem z_p1 {own : String} {index n : Nat} {f : Nat → Int32} {μ1 : zM} (k : Nat) {x : Int32} (hx : p.tables.exec = Jvm.exec) (hb : c.code = cc) (hts : ∀ w ∈ zall, w.before args s = true) (hown : s.vm.findClass own = some m.cls) (hK : zKU G s) (hZ : zW G μ H) (hS : va_S (zA G) H0 H locs) (hn : zk n = 1) (hf : μ n = f) (hk : k < 7) (hlink : Cond.fieldLink own index (TX1 k).1 (TX1 k).2.1 (TX1 k).2.2.1 ∈ zall) (hfin : (TX1 k).2.2.2 = false) (hd : parseFieldDescriptor (TX1 k).2.2.1 = some .int) (hset : zF1 G n (zu f k x) = (zF1 G n f).set k (.int x)) (hμ : zr μ n (zu f k x) = μ1) (hdg : decode cc pc = .ok (.putfield index, 3))
    (kk : ∀ (H1 : Heap) (locs1 : List Loc), zW G μ1 H1 → va_S (zA G) H0 H1 locs1 → W p l e R s m args below meth c H1 locs1 cells slots Q (F0 m (pc + 3) ls rest)) : W p l e R s m args below meth c H locs cells slots Q (F0 m pc ls (.int x :: .ref (G.1 + n) :: rest)) := by
  subst hf
  subst hμ
  exact z_put (C := RX1) (T := TX1) (N := 7) hx hb hts inX1 tyX1 tyX1_ok nmX1 hown hK hZ hn (by decide) (fs := zF1 G n (μ n)) rfl rfl k hk hlink hfin hd rfl rfl (by show k < 7; exact hk) (μ1 := zr μ n (zu (μ n) k x)) (by rw [zr_same]; exact congrArg (fun z => (Sum.inr (1, z) : va_E)) hset) (fun j hj => zr_ne hj) hS hdg kk
theorem z_p1f {own : String} {index n : Nat} {f : Nat → Int32} {μ1 : zM} (k : Nat) {x : UInt32} (hx : p.tables.exec = Jvm.exec) (hb : c.code = cc) (hts : ∀ w ∈ zall, w.before args s = true) (hown : s.vm.findClass own = some m.cls) (hK : zKU G s) (hZ : zW G μ H) (hS : va_S (zA G) H0 H locs) (hn : zk n = 1) (hf : μ n = f) (hk : k < 7) (hlink : Cond.fieldLink own index (TX1 k).1 (TX1 k).2.1 (TX1 k).2.2.1 ∈ zall) (hfin : (TX1 k).2.2.2 = false) (hd : parseFieldDescriptor (TX1 k).2.2.1 = some .float) (hset : zF1 G n (zu f k x.toInt32) = (zF1 G n f).set k (.float x)) (hμ : zr μ n (zu f k x.toInt32) = μ1) (hdg : decode cc pc = .ok (.putfield index, 3))
    (kk : ∀ (H1 : Heap) (locs1 : List Loc), zW G μ1 H1 → va_S (zA G) H0 H1 locs1 → W p l e R s m args below meth c H1 locs1 cells slots Q (F0 m (pc + 3) ls rest)) : W p l e R s m args below meth c H locs cells slots Q (F0 m pc ls (.float x :: .ref (G.1 + n) :: rest)) := by
  subst hf
  subst hμ
  exact z_put (C := RX1) (T := TX1) (N := 7) hx hb hts inX1 tyX1 tyX1_ok nmX1 hown hK hZ hn (by decide) (fs := zF1 G n (μ n)) rfl rfl k hk hlink hfin hd rfl rfl (by show k < 7; exact hk) (μ1 := zr μ n (zu (μ n) k x.toInt32)) (by rw [zr_same]; exact congrArg (fun z => (Sum.inr (1, z) : va_E)) hset) (fun j hj => zr_ne hj) hS hdg kk
theorem z_g4 {own : String} {index n : Nat} {f : Nat → Int32} (k : Nat) {v : Value} (hx : p.tables.exec = Jvm.exec) (hb : c.code = cc) (hts : ∀ w ∈ zall, w.before args s = true) (hown : s.vm.findClass own = some m.cls) (hK : zKU G s) (hZ : zW G μ H) (hn : zk n = 4) (hf : μ n = f) (hk : k < 7) (hlink : Cond.fieldLink own index (TX5 k).1 (TX5 k).2.1 (TX5 k).2.2.1 ∈ zall) (hv : (zF4 G n f)[k]? = some v) (hdg : decode cc pc = .ok (.getfield index, 3))
    (kk : W p l e R s m args below meth c H locs cells slots Q (F0 m (pc + 3) ls (v :: rest))) : W p l e R s m args below meth c H locs cells slots Q (F0 m pc ls (.ref (G.1 + n) :: rest)) := by
  subst hf
  exact z_get (C := RX5) (T := TX5) (N := 7) hx hb hts inX5 hown hK hZ hn (by decide) rfl rfl k hk hlink hv hdg kk
theorem z_p4 {own : String} {index n : Nat} {f : Nat → Int32} {μ1 : zM} (k : Nat) {x : Int32} (hx : p.tables.exec = Jvm.exec) (hb : c.code = cc) (hts : ∀ w ∈ zall, w.before args s = true) (hown : s.vm.findClass own = some m.cls) (hK : zKU G s) (hZ : zW G μ H) (hS : va_S (zA G) H0 H locs) (hn : zk n = 4) (hf : μ n = f) (hk : k < 7) (hlink : Cond.fieldLink own index (TX5 k).1 (TX5 k).2.1 (TX5 k).2.2.1 ∈ zall) (hfin : (TX5 k).2.2.2 = false) (hd : parseFieldDescriptor (TX5 k).2.2.1 = some .int) (hset : zF4 G n (zu f k x) = (zF4 G n f).set k (.int x)) (hμ : zr μ n (zu f k x) = μ1) (hdg : decode cc pc = .ok (.putfield index, 3))
    (kk : ∀ (H1 : Heap) (locs1 : List Loc), zW G μ1 H1 → va_S (zA G) H0 H1 locs1 → W p l e R s m args below meth c H1 locs1 cells slots Q (F0 m (pc + 3) ls rest)) : W p l e R s m args below meth c H locs cells slots Q (F0 m pc ls (.int x :: .ref (G.1 + n) :: rest)) := by
  subst hf
  subst hμ
  exact z_put (C := RX5) (T := TX5) (N := 7) hx hb hts inX5 tyX5 tyX5_ok nmX5 hown hK hZ hn (by decide) (fs := zF4 G n (μ n)) rfl rfl k hk hlink hfin hd rfl rfl (by show k < 7; exact hk) (μ1 := zr μ n (zu (μ n) k x)) (by rw [zr_same]; exact congrArg (fun z => (Sum.inr (5, z) : va_E)) hset) (fun j hj => zr_ne hj) hS hdg kk
theorem z_g5 {own : String} {index n : Nat} {f : Nat → Int32} (k : Nat) {v : Value} (hx : p.tables.exec = Jvm.exec) (hb : c.code = cc) (hts : ∀ w ∈ zall, w.before args s = true) (hown : s.vm.findClass own = some m.cls) (hK : zKU G s) (hZ : zW G μ H) (hn : zk n = 5) (hf : μ n = f) (hk : k < 6) (hlink : Cond.fieldLink own index (TX4 k).1 (TX4 k).2.1 (TX4 k).2.2.1 ∈ zall) (hv : (zF5 f)[k]? = some v) (hdg : decode cc pc = .ok (.getfield index, 3))
    (kk : W p l e R s m args below meth c H locs cells slots Q (F0 m (pc + 3) ls (v :: rest))) : W p l e R s m args below meth c H locs cells slots Q (F0 m pc ls (.ref (G.1 + n) :: rest)) := by
  subst hf
  exact z_get (C := RX4) (T := TX4) (N := 6) hx hb hts inX4 hown hK hZ hn (by decide) rfl rfl k hk hlink hv hdg kk
theorem z_p5 {own : String} {index n : Nat} {f : Nat → Int32} {μ1 : zM} (k : Nat) {x : Int32} (hx : p.tables.exec = Jvm.exec) (hb : c.code = cc) (hts : ∀ w ∈ zall, w.before args s = true) (hown : s.vm.findClass own = some m.cls) (hK : zKU G s) (hZ : zW G μ H) (hS : va_S (zA G) H0 H locs) (hn : zk n = 5) (hf : μ n = f) (hk : k < 6) (hlink : Cond.fieldLink own index (TX4 k).1 (TX4 k).2.1 (TX4 k).2.2.1 ∈ zall) (hfin : (TX4 k).2.2.2 = false) (hd : parseFieldDescriptor (TX4 k).2.2.1 = some .int) (hset : zF5 (zu f k x) = (zF5 f).set k (.int x)) (hμ : zr μ n (zu f k x) = μ1) (hdg : decode cc pc = .ok (.putfield index, 3))
    (kk : ∀ (H1 : Heap) (locs1 : List Loc), zW G μ1 H1 → va_S (zA G) H0 H1 locs1 → W p l e R s m args below meth c H1 locs1 cells slots Q (F0 m (pc + 3) ls rest)) : W p l e R s m args below meth c H locs cells slots Q (F0 m pc ls (.int x :: .ref (G.1 + n) :: rest)) := by
  subst hf
  subst hμ
  exact z_put (C := RX4) (T := TX4) (N := 6) hx hb hts inX4 tyX4 tyX4_ok nmX4 hown hK hZ hn (by decide) (fs := zF5 (μ n)) rfl rfl k hk hlink hfin hd rfl rfl (by show k < 6; exact hk) (μ1 := zr μ n (zu (μ n) k x)) (by rw [zr_same]; exact congrArg (fun z => (Sum.inr (4, z) : va_E)) hset) (fun j hj => zr_ne hj) hS hdg kk
theorem z_g6 {own : String} {index n : Nat} {f : Nat → Int32} (k : Nat) {v : Value} (hx : p.tables.exec = Jvm.exec) (hb : c.code = cc) (hts : ∀ w ∈ zall, w.before args s = true) (hown : s.vm.findClass own = some m.cls) (hK : zKU G s) (hZ : zW G μ H) (hn : zk n = 6) (hf : μ n = f) (hk : k < 11) (hlink : Cond.fieldLink own index (TX3 k).1 (TX3 k).2.1 (TX3 k).2.2.1 ∈ zall) (hv : (zF6 f)[k]? = some v) (hdg : decode cc pc = .ok (.getfield index, 3))
    (kk : W p l e R s m args below meth c H locs cells slots Q (F0 m (pc + 3) ls (v :: rest))) : W p l e R s m args below meth c H locs cells slots Q (F0 m pc ls (.ref (G.1 + n) :: rest)) := by
  subst hf
  exact z_get (C := RX3) (T := TX3) (N := 11) hx hb hts inX3 hown hK hZ hn (by decide) rfl rfl k hk hlink hv hdg kk
theorem z_p6 {own : String} {index n : Nat} {f : Nat → Int32} {μ1 : zM} (k : Nat) {x : Int32} (hx : p.tables.exec = Jvm.exec) (hb : c.code = cc) (hts : ∀ w ∈ zall, w.before args s = true) (hown : s.vm.findClass own = some m.cls) (hK : zKU G s) (hZ : zW G μ H) (hS : va_S (zA G) H0 H locs) (hn : zk n = 6) (hf : μ n = f) (hk : k < 11) (hlink : Cond.fieldLink own index (TX3 k).1 (TX3 k).2.1 (TX3 k).2.2.1 ∈ zall) (hfin : (TX3 k).2.2.2 = false) (hd : parseFieldDescriptor (TX3 k).2.2.1 = some .int) (hset : zF6 (zu f k x) = (zF6 f).set k (.int x)) (hμ : zr μ n (zu f k x) = μ1) (hdg : decode cc pc = .ok (.putfield index, 3))
    (kk : ∀ (H1 : Heap) (locs1 : List Loc), zW G μ1 H1 → va_S (zA G) H0 H1 locs1 → W p l e R s m args below meth c H1 locs1 cells slots Q (F0 m (pc + 3) ls rest)) : W p l e R s m args below meth c H locs cells slots Q (F0 m pc ls (.int x :: .ref (G.1 + n) :: rest)) := by
  subst hf
  subst hμ
  exact z_put (C := RX3) (T := TX3) (N := 11) hx hb hts inX3 tyX3 tyX3_ok nmX3 hown hK hZ hn (by decide) (fs := zF6 (μ n)) rfl rfl k hk hlink hfin hd rfl rfl (by show k < 11; exact hk) (μ1 := zr μ n (zu (μ n) k x)) (by rw [zr_same]; exact congrArg (fun z => (Sum.inr (3, z) : va_E)) hset) (fun j hj => zr_ne hj) hS hdg kk
theorem z_g7 {own : String} {index n : Nat} {f : Nat → Int32} (k : Nat) {v : Value} (hx : p.tables.exec = Jvm.exec) (hb : c.code = cc) (hts : ∀ w ∈ zall, w.before args s = true) (hown : s.vm.findClass own = some m.cls) (hK : zKU G s) (hZ : zW G μ H) (hn : zk n = 7) (hf : μ n = f) (hk : k < 3) (hlink : Cond.fieldLink own index (TX2 k).1 (TX2 k).2.1 (TX2 k).2.2.1 ∈ zall) (hv : (zF7 G f)[k]? = some v) (hdg : decode cc pc = .ok (.getfield index, 3))
    (kk : W p l e R s m args below meth c H locs cells slots Q (F0 m (pc + 3) ls (v :: rest))) : W p l e R s m args below meth c H locs cells slots Q (F0 m pc ls (.ref (G.1 + n) :: rest)) := by
  subst hf
  exact z_get (C := RX2) (T := TX2) (N := 3) hx hb hts inX2 hown hK hZ hn (by decide) rfl rfl k hk hlink hv hdg kk
theorem z_p7 {own : String} {index n : Nat} {f : Nat → Int32} {μ1 : zM} (k : Nat) {x : Int32} (hx : p.tables.exec = Jvm.exec) (hb : c.code = cc) (hts : ∀ w ∈ zall, w.before args s = true) (hown : s.vm.findClass own = some m.cls) (hK : zKU G s) (hZ : zW G μ H) (hS : va_S (zA G) H0 H locs) (hn : zk n = 7) (hf : μ n = f) (hk : k < 3) (hlink : Cond.fieldLink own index (TX2 k).1 (TX2 k).2.1 (TX2 k).2.2.1 ∈ zall) (hfin : (TX2 k).2.2.2 = false) (hd : parseFieldDescriptor (TX2 k).2.2.1 = some .int) (hset : zF7 G (zu f k x) = (zF7 G f).set k (.int x)) (hμ : zr μ n (zu f k x) = μ1) (hdg : decode cc pc = .ok (.putfield index, 3))
    (kk : ∀ (H1 : Heap) (locs1 : List Loc), zW G μ1 H1 → va_S (zA G) H0 H1 locs1 → W p l e R s m args below meth c H1 locs1 cells slots Q (F0 m (pc + 3) ls rest)) : W p l e R s m args below meth c H locs cells slots Q (F0 m pc ls (.int x :: .ref (G.1 + n) :: rest)) := by
  subst hf
  subst hμ
  exact z_put (C := RX2) (T := TX2) (N := 3) hx hb hts inX2 tyX2 tyX2_ok nmX2 hown hK hZ hn (by decide) (fs := zF7 G (μ n)) rfl rfl k hk hlink hfin hd rfl rfl (by show k < 3; exact hk) (μ1 := zr μ n (zu (μ n) k x)) (by rw [zr_same]; exact congrArg (fun z => (Sum.inr (2, z) : va_E)) hset) (fun j hj => zr_ne hj) hS hdg kk
theorem z_taload {B : Nat} {x : Int32} (hx : p.tables.exec = Jvm.exec) (hb : c.code = cc) (hK : zKU G s) (hZ : zW G μ H) (hB : zk (B + 1) = 2) (hin : vp_in x 6) (hdg : decode cc pc = .ok (.aaload, 1))
    (kk : W p l e R s m args below meth c H locs cells slots Q (F0 m (pc + 1) ls (.ref (G.1 + (B + (3 + 2 * x.toNatClampNeg))) :: rest))) : W p l e R s m args below meth c H locs cells slots Q (F0 m pc ls (.int x :: .ref (G.1 + (B + 1)) :: rest)) := by
  refine va_aldq hx hb hK (hZ.one hB (by decide)) 0 0 (C := "TenancyDeposits$Tenancy") rfl rfl hin hdg ?_
  have e1 : B + (3 + 2 * x.toNatClampNeg) = B + 1 + 2 + 2 * x.toNatClampNeg := by omega
  rw [e1] at kk
  exact kk
theorem z_iaload {B : Nat} {x : Int32} (hx : p.tables.exec = Jvm.exec) (hb : c.code = cc) (hK : zKU G s) (hZ : zW G μ H) (hB : zk (B + 2) = 3) (hin : vp_in x 24) (hdg : decode cc pc = .ok (.aaload, 1))
    (kk : W p l e R s m args below meth c H locs cells slots Q (F0 m (pc + 1) ls (.ref (G.1 + (B + (15 + x.toNatClampNeg))) :: rest))) : W p l e R s m args below meth c H locs cells slots Q (F0 m pc ls (.int x :: .ref (G.1 + (B + 2)) :: rest)) := by
  refine va_aldq hx hb hK (hZ.one hB (by decide)) 0 1 (C := "TenancyDeposits$Item") rfl rfl hin hdg ?_
  have e1 : B + (15 + x.toNatClampNeg) = B + 2 + 13 + x.toNatClampNeg := by omega
  rw [e1] at kk
  exact kk
theorem z_baload {x : Int32} (hx : p.tables.exec = Jvm.exec) (hb : c.code = cc) (hK : zKU G s) (hZ : zW G μ H) (hin : vp_in x 4) (hdg : decode cc pc = .ok (.aaload, 1))
    (kk : W p l e R s m args below meth c H locs cells slots Q (F0 m (pc + 1) ls (.ref (G.1 + (81 + 39 * x.toNatClampNeg)) :: rest))) : W p l e R s m args below meth c H locs cells slots Q (F0 m pc ls (.int x :: .ref (G.1 + 80) :: rest)) :=
  va_aldq hx hb hK (hZ.one (n := 80) (k := 8) (by decide) (by decide)) 0 2 (C := "TenancyDeposits$Book") rfl rfl hin hdg kk
theorem z_talen {B : Nat} (hx : p.tables.exec = Jvm.exec) (hb : c.code = cc) (hK : zKU G s) (hZ : zW G μ H) (hB : zk (B + 1) = 2) (hdg : decode cc pc = .ok (.arraylength, 1))
    (kk : W p l e R s m args below meth c H locs cells slots Q (F0 m (pc + 1) ls (.int 6 :: rest))) : W p l e R s m args below meth c H locs cells slots Q (F0 m pc ls (.ref (G.1 + (B + 1)) :: rest)) :=
  va_alen (v := 6) hx hb hK (hZ.one hB (by decide)) 0 0 rfl rfl rfl hdg kk
theorem z_ialen {B : Nat} (hx : p.tables.exec = Jvm.exec) (hb : c.code = cc) (hK : zKU G s) (hZ : zW G μ H) (hB : zk (B + 2) = 3) (hdg : decode cc pc = .ok (.arraylength, 1))
    (kk : W p l e R s m args below meth c H locs cells slots Q (F0 m (pc + 1) ls (.int 24 :: rest))) : W p l e R s m args below meth c H locs cells slots Q (F0 m pc ls (.ref (G.1 + (B + 2)) :: rest)) :=
  va_alen (v := 24) hx hb hK (hZ.one hB (by decide)) 0 1 rfl rfl rfl hdg kk
theorem z_balen (hx : p.tables.exec = Jvm.exec) (hb : c.code = cc) (hK : zKU G s) (hZ : zW G μ H) (hdg : decode cc pc = .ok (.arraylength, 1))
    (kk : W p l e R s m args below meth c H locs cells slots Q (F0 m (pc + 1) ls (.int 4 :: rest))) : W p l e R s m args below meth c H locs cells slots Q (F0 m pc ls (.ref (G.1 + 80) :: rest)) :=
  va_alen (v := 4) hx hb hK (hZ.one (n := 80) (k := 8) (by decide) (by decide)) 0 2 rfl rfl rfl hdg kk
end ZC
