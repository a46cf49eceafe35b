/-! THE WORLD: the 243 objects that one TenancyDeposits makes lie one behind the other from G.1 on; object n's numbers are μ n. -/
abbrev zM : Type := Nat → Nat → Int32
abbrev zG : Type := Nat × va_G × ClassId × ClassId × ClassId
/-- the kind of a book's r-th object: 1 the book, 2 its tenancies, 3 its items (arrays), 4 a tenancy, 5 its settlement, 6 an item -/
def zkb (r : Nat) : Nat := if r = 0 then 1 else if r = 1 then 2 else if r = 2 then 3 else if r < 15 then (if r % 2 = 1 then 4 else 5) else 6
/-- the kind of object n: 0 the TenancyDeposits, 7 the history, 8 its array; 9: not held -/
def zk (n : Nat) : Nat := if n = 0 then 0 else if n < 79 then zkb ((n - 1) % 39) else if n = 79 then 7 else if n = 80 then 8 else if n < 237 then zkb ((n - 81) % 39) else if n = 242 then 5 else 9
/-- the books' places -/
def zB (B : Nat) : Prop := B = 1 ∨ B = 40 ∨ B = 81 ∨ B = 120 ∨ B = 159 ∨ B = 198
theorem zk_book {B : Nat} (h : zB B) : zk B = 1 := by rcases h with h | h | h | h | h | h <;> subst h <;> decide
theorem zk_ta {B : Nat} (h : zB B) : zk (B + 1) = 2 := by rcases h with h | h | h | h | h | h <;> subst h <;> decide
theorem zk_ia {B : Nat} (h : zB B) : zk (B + 2) = 3 := by rcases h with h | h | h | h | h | h <;> subst h <;> decide
theorem zk_ten {B i : Nat} (h : zB B) (hi : i < 6) : zk (B + (3 + 2 * i)) = 4 := by
  have k : ∀ i, i < 6 → zk (1 + (3 + 2 * i)) = 4 ∧ zk (40 + (3 + 2 * i)) = 4 ∧ zk (81 + (3 + 2 * i)) = 4 ∧ zk (120 + (3 + 2 * i)) = 4 ∧ zk (159 + (3 + 2 * i)) = 4 ∧ zk (198 + (3 + 2 * i)) = 4 := by decide
  obtain ⟨k1, k2, k3, k4, k5, k6⟩ := k i hi
  rcases h with h | h | h | h | h | h <;> subst h <;> assumption
theorem zk_set {B i : Nat} (h : zB B) (hi : i < 6) : zk (B + (4 + 2 * i)) = 5 := by
  have k : ∀ i, i < 6 → zk (1 + (4 + 2 * i)) = 5 ∧ zk (40 + (4 + 2 * i)) = 5 ∧ zk (81 + (4 + 2 * i)) = 5 ∧ zk (120 + (4 + 2 * i)) = 5 ∧ zk (159 + (4 + 2 * i)) = 5 ∧ zk (198 + (4 + 2 * i)) = 5 := by decide
  obtain ⟨k1, k2, k3, k4, k5, k6⟩ := k i hi
  rcases h with h | h | h | h | h | h <;> subst h <;> assumption
theorem zk_item {B i : Nat} (h : zB B) (hi : i < 24) : zk (B + (15 + i)) = 6 := by
  have k : ∀ i, i < 24 → zk (1 + (15 + i)) = 6 ∧ zk (40 + (15 + i)) = 6 ∧ zk (81 + (15 + i)) = 6 ∧ zk (120 + (15 + i)) = 6 ∧ zk (159 + (15 + i)) = 6 ∧ zk (198 + (15 + i)) = 6 := by decide
  obtain ⟨k1, k2, k3, k4, k5, k6⟩ := k i hi
  rcases h with h | h | h | h | h | h <;> subst h <;> assumption
abbrev zRows (n : Nat) (f : Nat → Option Nat) : vp_A := (n, .inr (.inr (.inr (.inr f))))
abbrev zF0 (G : zG) (f : Nat → Int32) : List Value := [.ref (G.1 + 1), .ref (G.1 + 40), .ref (G.1 + 79), .ref (G.1 + 237), .ref (G.1 + 242), .int (f 5)]
abbrev zF1 (G : zG) (n : Nat) (f : Nat → Int32) : List Value := [.int (f 0), .int (f 1), .float (f 2).toUInt32, .int (f 3), .int (f 4), .ref (G.1 + (n + 1)), .ref (G.1 + (n + 2))]
abbrev zF4 (G : zG) (n : Nat) (f : Nat → Int32) : List Value := [.int (f 0), .int (f 1), .int (f 2), .int (f 3), .int (f 4), .int (f 5), .ref (G.1 + (n + 1))]
abbrev zF5 (f : Nat → Int32) : List Value := [.int (f 0), .int (f 1), .int (f 2), .int (f 3), .int (f 4), .int (f 5)]
abbrev zF6 (f : Nat → Int32) : List Value := [.int (f 0), .int (f 1), .int (f 2), .int (f 3), .int (f 4), .int (f 5), .int (f 6), .int (f 7), .int (f 8), .int (f 9), .int (f 10)]
abbrev zF7 (G : zG) (f : Nat → Int32) : List Value := [.ref (G.1 + 80), .int (f 1), .int (f 2)]
/-- what a cell of kind k holds -/
def zE (G : zG) (k n : Nat) (f : Nat → Int32) : va_E := match k with
  | 0 => .inr (6, zF0 G f)
  | 1 => .inr (1, zF1 G n f)
  | 2 => .inl (G.2.2.1, zRows 6 (fun i => some (G.1 + (n + 2 + 2 * i))))
  | 3 => .inl (G.2.2.2.1, zRows 24 (fun i => some (G.1 + (n + 13 + i))))
  | 4 => .inr (5, zF4 G n f)
  | 5 => .inr (4, zF5 f)
  | 6 => .inr (3, zF6 f)
  | 7 => .inr (2, zF7 G f)
  | _ => .inl (G.2.2.2.2, zRows 4 (fun i => some (G.1 + (81 + 39 * i))))
def zW (G : zG) (μ : zM) (H : Heap) : Prop := ∀ n, zk n < 9 → va_at G.2.1 vwCl (G.1 + n, zE G (zk n) n (μ n)) H
abbrev zT (G : zG) : List (ClassId × FieldType) := [(G.2.2.1, .object "TenancyDeposits$Tenancy"), (G.2.2.2.1, .object "TenancyDeposits$Item"), (G.2.2.2.2, .object "TenancyDeposits$Book")]
abbrev zKU (G : zG) (U : State) : Prop := va_K G.2.1 vwCl (zT G) U
def zA (G : zG) : Nat → Prop := fun q => G.1 ≤ q
def zU (G : zG) (μ : zM) (U : State) : Prop := zW G μ U.heap ∧ zKU G U
/-- number x in place k of object n -/
def zu (f : Nat → Int32) (k : Nat) (x : Int32) : Nat → Int32 := fun i => if i = k then x else f i
def zs (μ : zM) (n k : Nat) (x : Int32) : zM := fun j => if j = n then zu (μ j) k x else μ j
theorem zs_same (μ : zM) (n k : Nat) (x : Int32) : zs μ n k x n = zu (μ n) k x := by unfold zs; rw [if_pos rfl]
theorem zs_other (μ : zM) {n j : Nat} (k : Nat) (x : Int32) (h : j ≠ n) : zs μ n k x j = μ j := by unfold zs; rw [if_neg h]
theorem zW.one {G : zG} {μ : zM} {H : Heap} (h : zW G μ H) {n k : Nat} (hn : zk n = k) (hk : k < 9) : va_P G.2.1 vwCl [(G.1 + n, zE G k n (μ n))] H := by
  subst hn
  intro i q hq
  match i, hq with
  | 0, hq => cases hq; exact h n hk
  | i + 1, hq => simp at hq
theorem pfd_I : parseFieldDescriptor "I" = some .int := by decide +kernel
theorem pfd_F : parseFieldDescriptor "F" = some .float := by decide +kernel
theorem pfd_Z : parseFieldDescriptor "Z" = some .boolean := by decide +kernel
section ZR
variable {p : Program} {l : Launch} {e : Env} {R : Room} {s : State} {m : MethodId} {args : Array Value} {below : List Frame} {meth : Method} {c : Code} {H : Heap} {locs : List Loc} {cells slots : Nat} {Q : State → Prop}
variable {cc : ByteArray} {pc : Nat} {ls : Array Slot} {rest : List Value} {G : zG} {μ : zM} {H0 : Heap}
theorem zU.calling {U : State} {g : JFrame} {mk : MethodId} {a : Array Value} (h : zU G μ U) : zU G μ (U.calling g mk a) := ⟨h.1, va_K.moved (u := U) (U := U.calling g mk a) (Vm.Alike.refl U.vm) h.2⟩
theorem z_get (hexec : p.tables.exec = Jvm.exec) (hb : c.code = cc) {own C : String} {T : u_T} {N ci index : Nat} (hts : ∀ w ∈ zall, w.before args s = true) (hin : ∀ w ∈ u_ws C T N, w ∈ zall) (hown : s.vm.findClass own = some m.cls) (hK : zKU G s) (hZ : zW G μ H) {n kd : Nat} (hn : zk n = kd) (hk9 : kd < 9) {fs : List Value} (he : zE G kd n (μ n) = .inr (ci, fs)) (hc : vwCl[ci]? = some (C, T, N)) (k : Nat) (hk : k < N) (hlink : Cond.fieldLink own index (T k).1 (T k).2.1 (T k).2.2.1 ∈ zall) {v : Value} (hv : fs[k]? = some v) (hdg : decode cc pc = .ok (.getfield index, 3))
    (kk : W p l e R s m args below meth c H locs cells slots Q (F0 m (pc + 3) ls (v :: rest))) : W p l e R s m args below meth c H locs cells slots Q (F0 m pc ls (.ref (G.1 + n) :: rest)) := by
  have h1 := hZ.one hn hk9
  rw [he] at h1
  exact va_get (ref := (T k).1) hexec hb hts hin hown hK h1 0 rfl hc k hk (hts _ hlink) (fun _ h => h) hv hdg kk
theorem z_put (hexec : p.tables.exec = Jvm.exec) (hb : c.code = cc) {own C : String} {T : u_T} {N ci index : Nat} (hts : ∀ w ∈ zall, w.before args s = true) (hin : ∀ w ∈ u_ws C T N, w ∈ zall) (ty0 : Nat → FieldType) (hty : ∀ k, k < N → parseFieldDescriptor (T k).2.2.1 = some (ty0 k)) (hnm : ∀ a, a < N → ∀ b, b < N → a ≠ b → (T a).2.1 ≠ (T b).2.1) (hown : s.vm.findClass own = some m.cls) (hK : zKU G s) (hZ : zW G μ H) {n kd : Nat} (hn : zk n = kd) (hk9 : kd < 9) {fs : List Value} (he : zE G kd n (μ n) = .inr (ci, fs)) (hc : vwCl[ci]? = some (C, T, N)) (k : Nat) (hk : k < N) (hlink : Cond.fieldLink own index (T k).1 (T k).2.1 (T k).2.2.1 ∈ zall) (hfin : (T k).2.2.2 = false) {ty : FieldType} {v : Value} (hd : parseFieldDescriptor (T k).2.2.1 = some ty) (hnar : narrow ty v = v) (hfit : fits ty v = true) (hl : k < fs.length)
    {μ1 : zM} (he1 : zE G kd n (μ1 n) = .inr (ci, fs.set k v)) (ho : ∀ j, j ≠ n → μ1 j = μ j) (hS : va_S (zA G) H0 H locs) (hdg : decode cc pc = .ok (.putfield index, 3))
    (kk : ∀ (H1 : Heap) (locs1 : List Loc), zW G μ1 H1 → va_S (zA G) H0 H1 locs1 → W p l e R s m args below meth c H1 locs1 cells slots Q (F0 m (pc + 3) ls rest)) : W p l e R s m args below meth c H locs cells slots Q (F0 m pc ls (v :: .ref (G.1 + n) :: rest)) := by
  have hap := va_apart (own := own) hts hin ty0 hty hnm hK hc
  have hat := hZ n (by rw [hn]; exact hk9)
  rw [hn, he] at hat
  obtain ⟨r, h1, cell, q1, q2, q3, q4⟩ := hat
  have hr : r = (C, T, N) := Option.some.inj (h1.symm.trans hc)
  subst hr
  obtain ⟨hSl, hfc, kC, hkC, hkind⟩ := hK.1 ci _ hc
  obtain ⟨cf, kf, fi, f, hi, hsl⟩ := hSl k hk
  have hlay := hts _ (hin _ (u_in_lay hk))
  unfold u_lay at hlay
  rw [if_neg (by rw [hfin]; decide)] at hlay
  have hst := (u_facts hfc hkC (u_lays hts hin hk) hi).1
  have h6 := u_store hfc hkC hkind hlay hi hd hnar hfit
  refine W.putK hexec hb (f := f) ⟨hown, hts _ hlink, ⟨_, _, _, hi⟩, hst⟩ (by rw [q2]; exact h6) q1 q3 (by rw [hsl]; exact k2_hasslot (q4 k hk)) rfl rfl hdg fun H1 e1 e2 e3 => ?_
  rw [hsl] at e1 ⊢
  refine kk H1 _ (fun j hj => ?_) (hS.put e2 e3 (show zA G (G.1 + n) from Nat.le_add_right _ _))
  by_cases hjn : j = n
  · subst hjn
    rw [hn, he1]
    exact ⟨_, hc, t_OB.to (V := updV (vp_V fs) k v) ⟨_, e1, q2, q3, t_set q4 hap hk v⟩ (fun j _ => vp_updV_set hl v j)⟩
  · rw [ho j hjn]
    exact (hZ j hj).kept (e3 _ (by show G.1 + j ≠ G.1 + n; omega))
theorem z_recv (hK : zKU G s) (hZ : zW G μ H) {n kd ci N : Nat} {C : String} {T : u_T} (hn : zk n = kd) (hk9 : kd < 9) {fs : List Value} (he : zE G kd n (μ n) = .inr (ci, fs)) (hc : vwCl[ci]? = some (C, T, N)) : ∃ cellB : Cell, H[G.1 + n]? = some cellB ∧ cellB.vm.isStatics = false ∧ s.vm.findClass C = some cellB.cls := by
  have h1 := hZ.one hn hk9
  rw [he] at h1
  exact va_recv hK h1 hc (q0 := 0) rfl
/-- a contract: start world μ, answer r0, end world μ1 -/
abbrev zQi (G : zG) (r0 : Int32) (μ1 : zM) : Array Value → State → Outcome → State → Prop := va_Qi (fun (r : Int32) (u : zM) => r = r0 ∧ u = μ1) (fun u t => zU G u t) (zA G)
abbrev zQl (G : zG) (r0 : Int64) (μ1 : zM) : Array Value → State → Outcome → State → Prop := va_Ql (fun (r : Int64) (u : zM) => r = r0 ∧ u = μ1) (fun u t => zU G u t) (zA G)
abbrev zQf (G : zG) (r0 : UInt32) (μ1 : zM) : Array Value → State → Outcome → State → Prop := va_Qf (fun (r : UInt32) (u : zM) => r = r0 ∧ u = μ1) (fun u t => zU G u t) (zA G)
abbrev zQv (G : zG) (μ1 : zM) : Array Value → State → Outcome → State → Prop := va_Qv (fun (u : zM) => u = μ1) (fun u t => zU G u t) (zA G)
abbrev zQq (G : zG) (r0 : Option Nat) (μ1 : zM) : Array Value → State → Outcome → State → Prop := va_Qq (fun (r : Option Nat) (u : zM) => r = r0 ∧ u = μ1) (fun u t => zU G u t) (zA G)
abbrev zMet (l : Launch) (G : zG) (y : MethodName) (cm : ByteArray) (nm : Nat) (ret : Option FieldType) (fr lo : Nat) (av : List Value) (μ : zM) (Qc : Array Value → State → Outcome → State → Prop) : Prop := Met l y (ws_ y cm nm ret) { frames := fr, cells := 0, slots := 0, locals := lo } (va_Pc av (zU G μ)) Qc 0 0 (zA G)
theorem z_start {y : MethodName} {cm : ByteArray} {nm fr lo : Nat} {ret : Option FieldType} {av : List Value} {Qc : Array Value → State → Outcome → State → Prop} {lv : List (Nat × Value)} (hy : plainName y.cls = true) (hlen : (lg_sl av).length ≤ nm) (hlv : lv_args 0 av = lv)
    (body : ∀ (p : Program) (e : Env) (s : State) (m : MethodId) (args : Array Value) (below : List Frame) (meth : Method) (c : Code) (ls : Array Slot), p.tables.exec = Jvm.exec → c.code = cm → c.maxLocals = nm → meth.sig.returnType = ret → meth.locks = false → (∀ w ∈ zall, w.before args s = true) → s.vm.findClass y.cls = some m.cls → zKU G s → zW G μ s.heap → va_S (zA G) s.heap s.heap [] → lv_has ls nm lv →
      W p l e { frames := fr, cells := 0, slots := 0, locals := lo } s m args below meth c s.heap [] 0 0 (MQ below Qc args s 0 0 (zA G)) (F0 m 0 ls [])) : zMet l G y cm nm ret fr lo av μ Qc := by
  refine Met.ofW (cc := cm) (maxL := nm) (ret := ret) hy rfl ?_
  intro p e s m args below meth c s₁ B hml hv
  obtain ⟨rfl, hZ, hK⟩ := hv
  have hts : ∀ w ∈ zall, w.before av.toArray s = true := fun w h => atoms_spec (ws := ws_ y cm nm ret) B.pre w (List.mem_cons_of_mem _ h)
  have hl := lv_entry av (n := nm) hlen
  rw [lg_entry_eq]
  rw [hlv] at hl
  exact body p e s m _ below meth c _ B.exec B.bytes hml B.returns B.notSynchronized hts (findClass_of_methodNamed B.named) hK hZ va_S.rf hl
theorem z_iret {r r0 : Int32} {μ1 : zM} (hexec : p.tables.exec = Jvm.exec) (hb : c.code = cc) (hr : meth.sig.returnType = some .int) (hlocks : meth.locks = false) (hK : zKU G s) (hZ : zW G μ H) (hS : va_S (zA G) s.heap H locs) (h : r = r0 ∧ μ = μ1) (hdg : decode cc pc = .ok (.ireturn, 1)) : W p l e R s m args below meth c H locs 0 0 (MQ below (zQi G r0 μ1) args s 0 0 (zA G)) (F0 m pc ls [.int r]) :=
  W.iret (v := r) hexec hb hr (fun t ht hW => ⟨⟨r, μ, rfl, h, by rw [ht]; exact hZ, va_K.moved hW.alike hK⟩, hS.F ht⟩) hS.2.2 hdg hlocks
theorem z_zret {r r0 : Int32} {μ1 : zM} (hexec : p.tables.exec = Jvm.exec) (hb : c.code = cc) (hr : meth.sig.returnType = some .boolean) (hlocks : meth.locks = false) (hn : narrow .boolean (.int r) = .int r) (hK : zKU G s) (hZ : zW G μ H) (hS : va_S (zA G) s.heap H locs) (h : r = r0 ∧ μ = μ1) (hdg : decode cc pc = .ok (.ireturn, 1)) : W p l e R s m args below meth c H locs 0 0 (MQ below (zQi G r0 μ1) args s 0 0 (zA G)) (F0 m pc ls [.int r]) :=
  W.zret (v := r) hexec hb hr hn (fun t ht hW => ⟨⟨r, μ, rfl, h, by rw [ht]; exact hZ, va_K.moved hW.alike hK⟩, hS.F ht⟩) hS.2.2 hdg hlocks
theorem z_lret {r r0 : Int64} {μ1 : zM} (hexec : p.tables.exec = Jvm.exec) (hb : c.code = cc) (hr : meth.sig.returnType = some .long) (hlocks : meth.locks = false) (hK : zKU G s) (hZ : zW G μ H) (hS : va_S (zA G) s.heap H locs) (h : r = r0 ∧ μ = μ1) (hdg : decode cc pc = .ok (.lreturn, 1)) : W p l e R s m args below meth c H locs 0 0 (MQ below (zQl G r0 μ1) args s 0 0 (zA G)) (F0 m pc ls [.long r]) :=
  W.lret (v := r) hexec hb hr (fun t ht hW => ⟨⟨r, μ, rfl, h, by rw [ht]; exact hZ, va_K.moved hW.alike hK⟩, hS.F ht⟩) hS.2.2 hdg hlocks
theorem z_fret {r r0 : UInt32} {μ1 : zM} (hexec : p.tables.exec = Jvm.exec) (hb : c.code = cc) (hr : meth.sig.returnType = some .float) (hlocks : meth.locks = false) (hK : zKU G s) (hZ : zW G μ H) (hS : va_S (zA G) s.heap H locs) (h : r = r0 ∧ μ = μ1) (hdg : decode cc pc = .ok (.freturn, 1)) : W p l e R s m args below meth c H locs 0 0 (MQ below (zQf G r0 μ1) args s 0 0 (zA G)) (F0 m pc ls [.float r]) :=
  W.fret (v := r) hexec hb hr (fun t ht hW => ⟨⟨r, μ, rfl, h, by rw [ht]; exact hZ, va_K.moved hW.alike hK⟩, hS.F ht⟩) hS.2.2 hdg hlocks
theorem z_vret {μ1 : zM} (hexec : p.tables.exec = Jvm.exec) (hb : c.code = cc) (hr : meth.sig.returnType = none) (hlocks : meth.locks = false) (hK : zKU G s) (hZ : zW G μ H) (hS : va_S (zA G) s.heap H locs) (h : μ = μ1) (hdg : decode cc pc = .ok (.return_, 1)) : W p l e R s m args below meth c H locs 0 0 (MQ below (zQv G μ1) args s 0 0 (zA G)) (F0 m pc ls []) :=
  W.vret hexec hb hr (fun t ht hW => ⟨⟨μ, rfl, h, by rw [ht]; exact hZ, va_K.moved hW.alike hK⟩, hS.F ht⟩) hS.2.2 hdg hlocks
theorem z_aret {r r0 : Option Nat} {μ1 : zM} {rt : FieldType} (hexec : p.tables.exec = Jvm.exec) (hb : c.code = cc) (hr : meth.sig.returnType = some rt) (hrt : (∃ n, rt = .object n) ∨ ∃ t, rt = .array t) (hlocks : meth.locks = false) (hK : zKU G s) (hZ : zW G μ H) (hS : va_S (zA G) s.heap H locs) (h : r = r0 ∧ μ = μ1) {v : Value} (hv : va_rf r = v) (hdg : decode cc pc = .ok (.areturn, 1)) : W p l e R s m args below meth c H locs 0 0 (MQ below (zQq G r0 μ1) args s 0 0 (zA G)) (F0 m pc ls [v]) := by
  subst hv
  exact W.aret (v := va_rf r) hexec hb hr hrt (va_rf_or r) (fun t ht hW => ⟨⟨r, μ, rfl, h, by rw [ht]; exact hZ, va_K.moved hW.alike hK⟩, hS.F ht⟩) hS.2.2 hdg hlocks
end ZR
