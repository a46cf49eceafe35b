/-! THE MAKING: partial worlds. e says what object n (at G.1 + n) holds so far; N objects lie there. -/
abbrev xM : Type := Nat → Option va_E
def xu (e : xM) (n : Nat) (x : va_E) : xM := fun q => if q = n then some x else e q
theorem xu_same {e : xM} {n : Nat} {x : va_E} : xu e n x n = some x := by unfold xu; rw [if_pos rfl]
theorem xu_ne {e : xM} {n q : Nat} {x : va_E} (h : q ≠ n) : xu e n x q = e q := by unfold xu; rw [if_neg h]
theorem xu_at {e : xM} {n q : Nat} {x y : va_E} (h : e q = some y) (hne : q ≠ n) : xu e n x q = some y := (xu_ne hne).trans h
theorem xu_xu {e : xM} {n : Nat} {x y : va_E} : xu (xu e n x) n y = xu e n y := by
  funext q
  by_cases h : q = n
  · subst h; rw [xu_same, xu_same]
  · rw [xu_ne h, xu_ne h, xu_ne h]
theorem xu_swap {e : xM} {n k : Nat} {x y : va_E} (h : k ≠ n) : xu (xu e n x) k y = xu (xu e k y) n x := by
  funext j
  by_cases h1 : j = n
  · subst h1; rw [xu_ne (Ne.symm h), xu_same, xu_same]
  · by_cases h2 : j = k
    · subst h2; rw [xu_same, xu_ne h1, xu_same]
    · rw [xu_ne h2, xu_ne h1, xu_ne h1, xu_ne h2]
theorem xu_id {e : xM} {n : Nat} {x : va_E} (h : e n = some x) : xu e n x = e := by
  funext q
  by_cases hq : q = n
  · subst hq; rw [xu_same]; exact h.symm
  · exact xu_ne hq
def zX (G : zG) (e : xM) (H : Heap) : Prop := ∀ n x, e n = some x → va_at G.2.1 vwCl (G.1 + n, x) H
theorem zX.one {G : zG} {e : xM} {H : Heap} (h : zX G e H) {n : Nat} {x : va_E} (he : e n = some x) : va_P G.2.1 vwCl [(G.1 + n, x)] H := by
  intro i q hq
  match i, hq with
  | 0, hq => cases hq; exact h n x he
  | i + 1, hq => simp at hq
/-- what holds alike -/
def xeqv (G : zG) (n : Nat) (x y : va_E) : Prop := ∀ H : Heap, va_at G.2.1 vwCl (G.1 + n, x) H → va_at G.2.1 vwCl (G.1 + n, y) H
theorem zX.re {G : zG} {e e1 : xM} {H : Heap} (h : zX G e H) (hle : ∀ n y, e1 n = some y → ∃ x, e n = some x ∧ xeqv G n x y) : zX G e1 H := by
  intro n y hy
  obtain ⟨x, hx, hv⟩ := hle n y hy
  exact hv H (h n x hx)
theorem xeqv.rf {G : zG} {n : Nat} {x : va_E} : xeqv G n x x := fun _ h => h
theorem arrV_cg {cA : ClassId} {N : Nat} {f g : Nat → Value} (h : ∀ j, j < N → f j = g j) : arrV cA N f = arrV cA N g := by
  unfold arrV
  rw [show (fun j : Fin N => f j.val) = (fun j : Fin N => g j.val) from funext fun j => h j.val j.isLt]
theorem xeqv.rows {G : zG} {n N : Nat} {cA : ClassId} {f g : Nat → Option Nat} (h : ∀ j, j < N → f j = g j) : xeqv G n (.inl (cA, zRows N f)) (.inl (cA, zRows N g)) := by
  intro H hH
  show H[G.1 + n]? = some (vp_cell cA (zRows N g))
  have hH : H[G.1 + n]? = some (vp_cell cA (zRows N f)) := hH
  rw [hH, vp_cell_q, vp_cell_q, arrV_cg (fun j hj => by rw [h j hj])]
abbrev nw1 : Cond := .methodLinkNest RX1 41 yX5_init "TenancyDeposits"
abbrev nw2 : Cond := .methodLinkNest RX5 32 yX4_init "TenancyDeposits"
abbrev nw3 : Cond := .methodLinkNest RX1 42 yX3_init "TenancyDeposits"
abbrev nw4 : Cond := .methodLinkNest RX6 28 yX0_init "TenancyDeposits"
abbrev nw5 : Cond := .methodLinkNest RX6 35 yX4_init "TenancyDeposits"
def zN (U : State) : Prop := va_Nw nw1 U ∧ va_Nw nw2 U ∧ va_Nw nw3 U ∧ va_Nw nw4 U ∧ va_Nw nw5 U ∧ va_AO "TenancyDeposits$Tenancy" U ∧ va_AO "TenancyDeposits$Item" U ∧ va_AO "TenancyDeposits$Book" U
theorem zN.warm {s U : State} (hW : s.WarmedH U.vm) (h : zN s) : zN U :=
  ⟨va_Nw.warmM hW h.1, va_Nw.warmM hW h.2.1, va_Nw.warmM hW h.2.2.1, va_Nw.warmM hW h.2.2.2.1, va_Nw.warmM hW h.2.2.2.2.1, h.2.2.2.2.2.1.moved hW.alike, h.2.2.2.2.2.2.1.moved hW.alike, h.2.2.2.2.2.2.2.moved hW.alike⟩
theorem zN.calling {U : State} {g : JFrame} {mk : MethodId} {a : Array Value} (h : zN U) : zN (U.calling g mk a) :=
  ⟨va_Nw.same rfl rfl h.1, va_Nw.same rfl rfl h.2.1, va_Nw.same rfl rfl h.2.2.1, va_Nw.same rfl rfl h.2.2.2.1, va_Nw.same rfl rfl h.2.2.2.2.1, va_AO.moved (u := U) (U := U.calling g mk a) (Vm.Alike.refl U.vm) h.2.2.2.2.2.1, va_AO.moved (u := U) (U := U.calling g mk a) (Vm.Alike.refl U.vm) h.2.2.2.2.2.2.1, va_AO.moved (u := U) (U := U.calling g mk a) (Vm.Alike.refl U.vm) h.2.2.2.2.2.2.2⟩
def zI (G : zG) (e : xM) (N : Nat) (U : State) : Prop := U.heap.size = G.1 + N ∧ zX G e U.heap ∧ zKU G U ∧ zN U
abbrev xMet (l : Launch) (G : zG) (y : MethodName) (cm : ByteArray) (nm fr lo mc ms : Nat) (n : Nat) (e : xM) (N : Nat) (e1 : xM) (N1 : Nat) : Prop := Met l y (ws_ y cm nm none) { frames := fr, cells := mc, slots := ms, locals := lo } (va_Pc [.ref (G.1 + n)] (zI G e N)) (va_Qv (fun _ : Unit => True) (fun _ t => zI G e1 N1 t) (zA G)) mc ms (zA G)
section ZX
variable {p : Program} {l : Launch} {e0 : Env} {R : Room} {s : State} {m : MethodId} {args : Array Value} {below : List Frame} {meth : Method} {c : Code} {H : Heap} {locs : List Loc} {cells slots : Nat} {Q : State → Prop}
variable {cc : ByteArray} {pc : Nat} {ls : Array Slot} {rest : List Value} {G : zG} {e : xM} {H0 : Heap}
theorem x_start {y : MethodName} {cm : ByteArray} {nm fr lo mc ms n N : Nat} {Qc : Array Value → State → Outcome → State → Prop} (hy : plainName y.cls = true) (hyn : y.name = "<init>") (hlen : (lg_sl [Value.ref (G.1 + n)]).length ≤ nm)
    (body : ∀ (p : Program) (e0 : Env) (s : State) (m : MethodId) (args : Array Value) (below : List Frame) (meth : Method) (c : Code) (ls : Array Slot), p.tables.exec = Jvm.exec → c.code = cm → c.maxLocals = nm → meth.sig.returnType = none → meth.locks = false → meth.name = "<init>" → (∀ w ∈ zall, w.before args s = true) → s.vm.findClass y.cls = some m.cls → zKU G s → zN s → s.heap.size = G.1 + N → zX G e s.heap → va_S (zA G) s.heap s.heap [] → lv_has ls nm [(0, .ref (G.1 + n))] →
      W p l e0 { frames := fr, cells := mc, slots := ms, locals := lo } s m args below meth c s.heap [] 0 0 (MQ below Qc args s mc ms (zA G)) (F0 m 0 ls [])) : Met l y (ws_ y cm nm none) { frames := fr, cells := mc, slots := ms, locals := lo } (va_Pc [.ref (G.1 + n)] (zI G e N)) Qc mc ms (zA G) := by
  refine Met.ofW (cc := cm) (maxL := nm) (ret := none) hy rfl ?_
  intro p e0 s m args below meth c s₁ B hml hv
  obtain ⟨rfl, hz, hX, hK, hN⟩ := hv
  have hts : ∀ w ∈ zall, w.before [Value.ref (G.1 + n)].toArray s = true := fun w h => atoms_spec (ws := ws_ y cm nm none) B.pre w (List.mem_cons_of_mem _ h)
  have hin : meth.name = "<init>" := ((name_of_methodNamed B.named B.method).1).trans hyn
  have hl := lv_entry [Value.ref (G.1 + n)] (n := nm) hlen
  rw [lg_entry_eq]
  exact body p e0 s m _ below meth c _ B.exec B.bytes hml B.returns B.notSynchronized hin hts (findClass_of_methodNamed B.named) hK hN hz hX va_S.rf hl
theorem x_vret {mc ms N : Nat} {e1 : xM} (hexec : p.tables.exec = Jvm.exec) (hb : c.code = cc) (hr : meth.sig.returnType = none) (hlocks : meth.locks = false) (hK : zKU G s) (hN : zN s) (hz : H.size = G.1 + N) (hX : zX G e1 H) (hS : va_S (zA G) s.heap H locs) (hc : cells ≤ mc) (hs : slots ≤ ms) (hdg : decode cc pc = .ok (.return_, 1)) : W p l e0 R s m args below meth c H locs cells slots (MQ below (va_Qv (fun _ : Unit => True) (fun _ t => zI G e1 N t) (zA G)) args s mc ms (zA G)) (F0 m pc ls []) := by
  refine W.widen (k := mc) (n := ms) hc hs ?_
  exact W.vret hexec hb hr (fun t ht hW => ⟨⟨(), rfl, trivial, by rw [ht]; exact hz, by rw [ht]; exact hX, va_K.moved hW.alike hK, hN.warm hW⟩, hS.F ht⟩) hS.2.2 hdg hlocks
theorem x_get (hexec : p.tables.exec = Jvm.exec) (hb : c.code = cc) {own C : String} {T : u_T} {N ci index n : Nat} (hts : ∀ w ∈ zall, w.before args s = true) (hin : ∀ w ∈ u_ws C T N, w ∈ zall) (hown : s.vm.findClass own = some m.cls) (hK : zKU G s) (hX : zX G e H) {fs : List Value} (he : e n = some (.inr (ci, fs))) (hc : vwCl[ci]? = some (C, T, N)) (k : Nat) (hk : k < N) (hlink : Cond.fieldLink own index (T k).1 (T k).2.1 (T k).2.2.1 ∈ zall) {v : Value} (hv : fs[k]? = some v) (hdg : decode cc pc = .ok (.getfield index, 3))
    (kk : W p l e0 R s m args below meth c H locs cells slots Q (F0 m (pc + 3) ls (v :: rest))) : W p l e0 R s m args below meth c H locs cells slots Q (F0 m pc ls (.ref (G.1 + n) :: rest)) :=
  va_get (ref := (T k).1) hexec hb hts hin hown hK (hX.one he) 0 rfl hc k hk (hts _ hlink) (fun _ h => h) hv hdg kk
theorem zX.put {e1 : xM} {H1 : Heap} {n : Nat} {x : va_E} (hX : zX G e H) (h1 : va_at G.2.1 vwCl (G.1 + n, x) H1) (ho : ∀ q : Nat, q ≠ G.1 + n → H1[q]? = H[q]?) (he1 : xu e n x = e1) : zX G e1 H1 := by
  subst he1
  intro j y hj
  by_cases hjn : j = n
  · subst hjn
    rw [xu_same] at hj
    cases hj
    exact h1
  · rw [xu_ne hjn] at hj
    exact (hX j y hj).kept (ho _ (by show G.1 + j ≠ G.1 + n; omega))
theorem x_put (hexec : p.tables.exec = Jvm.exec) (hb : c.code = cc) {own C : String} {T : u_T} {N ci index n M : Nat} (hts : ∀ w ∈ zall, w.before args s = true) (hin : ∀ w ∈ u_ws C T N, w ∈ zall) (ty0 : Nat → FieldType) (hty : ∀ k, k < N → parseFieldDescriptor (T k).2.2.1 = some (ty0 k)) (hnm : ∀ a, a < N → ∀ b, b < N → a ≠ b → (T a).2.1 ≠ (T b).2.1) (hown : s.vm.findClass own = some m.cls) (hK : zKU G s) (hz : H.size = G.1 + M) (hX : zX G e H) {fs : List Value} (he : e n = some (.inr (ci, fs))) (hc : vwCl[ci]? = some (C, T, N)) (k : Nat) (hk : k < N) (hlink : Cond.fieldLink own index (T k).1 (T k).2.1 (T k).2.2.1 ∈ zall) (hinit : meth.name = "<init>") (hdecl : (T k).1 = own) {ty : FieldType} {v : Value} (hd : parseFieldDescriptor (T k).2.2.1 = some ty) (hnar : narrow ty v = v) (hfit : fits ty v = true) (hl : k < fs.length)
    {e1 : xM} (he1 : xu e n (.inr (ci, fs.set k v)) = e1) (hS : va_S (zA G) H0 H locs) (hdg : decode cc pc = .ok (.putfield index, 3))
    (kk : ∀ (H1 : Heap) (locs1 : List Loc), H1.size = G.1 + M → zX G e1 H1 → va_S (zA G) H0 H1 locs1 → W p l e0 R s m args below meth c H1 locs1 cells slots Q (F0 m (pc + 3) ls rest)) : W p l e0 R s m args below meth c H locs cells slots Q (F0 m pc ls (v :: .ref (G.1 + n) :: rest)) := by
  have hap := va_apart (own := own) hts hin ty0 hty hnm hK hc
  obtain ⟨r, h1, cell, q1, q2, q3, q4⟩ := hX n _ he
  have hr : r = (C, T, N) := Option.some.inj (h1.symm.trans hc)
  subst hr
  obtain ⟨hSl, hfc, kC, hkC, hkind⟩ := hK.1 ci _ hc
  obtain ⟨cf, kf, fi, f, hi, hsl⟩ := hSl k hk
  have hlay := hts _ (hin _ (u_in_lay hk))
  have hst := (u_facts hfc hkC (u_lays hts hin hk) hi).1
  by_cases hfin : (T k).2.2.2 = true
  · unfold u_lay at hlay
    rw [if_pos hfin] at hlay
    have hcf : m.cls = cf := by
      obtain ⟨_, _, c', _, _, _, -, -, hf', -, -, -, hown2, -⟩ := Cond.laysFinal_spec hlay
      have e1 : c' = cf := by have := hi.symm.trans hf'; simp at this; exact this.1.symm
      rw [hdecl] at hown2
      rw [← e1]; exact Option.some.inj (hown.symm.trans hown2)
    have h6 := u_fits hfc hkC hkind (Or.inr hlay) hi hd hnar hfit
    refine W.putFinK hexec hb hown (hts _ hlink) hi hst hcf hinit (by rw [q2]; exact h6) q1 q3 (by rw [hsl]; exact k2_hasslot (q4 k hk)) rfl rfl hdg fun H1 g1 g2 g3 => ?_
    rw [hsl] at g1 ⊢
    exact kk H1 _ (g2.trans hz) (hX.put (n := n) (x := .inr (ci, fs.set k v)) ⟨_, hc, t_OB.to (V := updV (vp_V fs) k v) ⟨_, g1, q2, q3, t_set q4 hap hk v⟩ (fun j _ => vp_updV_set hl v j)⟩ g3 he1) (hS.put g2 g3 (show zA G (G.1 + n) from Nat.le_add_right _ _))
  · unfold u_lay at hlay
    rw [if_neg hfin] at hlay
    have h6 := u_store hfc hkC hkind hlay hi hd hnar hfit
    refine W.putK hexec hb (f := f) ⟨hown, hts _ hlink, ⟨_, _, _, hi⟩, hst⟩ (by rw [q2]; exact h6) q1 q3 (by rw [hsl]; exact k2_hasslot (q4 k hk)) rfl rfl hdg fun H1 g1 g2 g3 => ?_
    rw [hsl] at g1 ⊢
    exact kk H1 _ (g2.trans hz) (hX.put (n := n) (x := .inr (ci, fs.set k v)) ⟨_, hc, t_OB.to (V := updV (vp_V fs) k v) ⟨_, g1, q2, q3, t_set q4 hap hk v⟩ (fun j _ => vp_updV_set hl v j)⟩ g3 he1) (hS.put g2 g3 (show zA G (G.1 + n) from Nat.le_add_right _ _))
theorem x_new (hexec : p.tables.exec = Jvm.exec) (hb : c.code = cc) {own C : String} {T : u_T} {N ci index M : Nat} (hts : ∀ w ∈ zall, w.before args s = true) (hin : ∀ w ∈ u_ws C T N, w ∈ zall) (ty : Nat → FieldType) (hty : ∀ k, k < N → parseFieldDescriptor (T k).2.2.1 = some (ty k)) (hown : s.vm.findClass own = some m.cls) (hcl : Cond.classLink own index C ∈ zall) (hinst : Cond.instantiable C N ∈ zall) (hini : Cond.initialized C ∈ zall)
    (hK : zKU G s) (hz : H.size = G.1 + M) (hX : zX G e H) (hS : va_S (zA G) H0 H locs) (hc : vwCl[ci]? = some (C, T, N)) {fs : List Value} (hfs : ∀ j, j < N → defaultValue (ty j) = vp_V fs j) (hcells : cells + 1 ≤ R.cells) (hslots : slots + N ≤ R.slots) (hdg : decode cc pc = .ok (.new index, 3))
    (kk : ∀ (H1 : Heap), H1.size = G.1 + (M + 1) → zX G (xu e M (.inr (ci, fs))) H1 → va_S (zA G) H0 H1 locs → W p l e0 R s m args below meth c H1 locs (cells + 1) (slots + N) Q (F0 m (pc + 3) ls (.ref (G.1 + M) :: rest))) : W p l e0 R s m args below meth c H locs cells slots Q (F0 m pc ls rest) := by
  have hKn := hK.1 ci _ hc
  refine W.newcK hexec hb hown (hts _ hcl) (hts _ hinst) (hts _ hini) rfl hdg hcells hslots hKn.2.1 hz fun H1 kC hkC g1 z1 o1 => ?_
  refine kk H1 (by omega) ?_ ⟨Nat.le_trans hS.1 (by omega), fun x h1 h2 => (o1 x (by have := hS.1; omega)).trans (hS.2.1 x h1 h2), hS.2.2⟩
  intro j y hj
  by_cases hjn : j = M
  · subst hjn
    rw [xu_same] at hj
    cases hj
    exact ⟨_, hc, (u_born ty hts hin hKn hkC g1 hty).to hfs⟩
  · rw [xu_ne hjn] at hj
    have hlt := (hX j y hj).lt
    exact (hX j y hj).kept (o1 _ (by omega))
theorem x_newq (hexec : p.tables.exec = Jvm.exec) (hb : c.code = cc) {own C : String} {index M t0 : Nat} {cA : ClassId} (hts : ∀ w ∈ zall, w.before args s = true) (hown : s.vm.findClass own = some m.cls) (hcl : Cond.classLink own index C ∈ zall) (hover : va_AO C s) (hK : zKU G s) (ht : (zT G)[t0]? = some (cA, .object C)) (hz : H.size = G.1 + M) (hX : zX G e H) (hS : va_S (zA G) H0 H locs)
    {n : Int32} {N' : Nat} (hn : ¬ n < 0) (hN : n.toNatClampNeg = N') (hbytes : N' * 4 ≤ 536870912) (hcells : cells + 1 ≤ R.cells) (hslots : slots + N' ≤ R.slots) (hdg : decode cc pc = .ok (.anewarray index, 3))
    (kk : ∀ (H1 : Heap), H1.size = G.1 + (M + 1) → zX G (xu e M (.inl (cA, zRows N' (fun _ => none)))) H1 → va_S (zA G) H0 H1 locs → W p l e0 R s m args below meth c H1 locs (cells + 1) (slots + N') Q (F0 m (pc + 3) ls (.ref (G.1 + M) :: rest))) : W p l e0 R s m args below meth c H locs cells slots Q (F0 m pc ls (.int n :: rest)) := by
  subst hN
  refine W.anew hexec hb hown (hts _ hcl) (va_AO.use hover) rfl hdg rfl hn hbytes hcells hslots fun cA1 kA comp f1 f2 f3 f4 => ?_
  obtain ⟨kA', comp', k1, k2, k3, k4⟩ := (hK.2 t0 _ ht).2
  have hcA : cA1 = cA := Option.some.inj (f1.symm.trans k4)
  subst hcA
  generalize hH1 : H.push ({ cls := cA1, slots := Array.replicate n.toNatClampNeg .null, vm := .none } : Cell) = H1
  have z1 : H1.size = H.size + 1 := by rw [← hH1, Array.size_push]
  have g1 : H1[H.size]? = some (arrV cA1 n.toNatClampNeg (fun _ => .null)) := by rw [← hH1, Array.getElem?_push_size, ← arrV_new]
  have o1 : ∀ q : Nat, q < H.size → H1[q]? = H[q]? := fun q hq => by rw [← hH1, Array.getElem?_push, if_neg (Nat.ne_of_lt hq)]
  rw [hz] at g1 ⊢
  refine kk H1 (by omega) ?_ ⟨Nat.le_trans hS.1 (by omega), fun x h1 h2 => (o1 x (by have := hS.1; omega)).trans (hS.2.1 x h1 h2), hS.2.2⟩
  intro j y hj
  by_cases hjn : j = M
  · subst hjn
    rw [xu_same] at hj
    cases hj
    exact g1
  · rw [xu_ne hjn] at hj
    have hlt := (hX j y hj).lt
    exact (hX j y hj).kept (o1 _ (by omega))
theorem x_newa (hexec : p.tables.exec = Jvm.exec) (hb : c.code = cc) {atype : ArrayType} {M : Nat} (hts : ∀ w ∈ zall, w.before args s = true) (harr : Cond.arrayClass (newarray.typeOf atype) ∈ zall) (hz : H.size = G.1 + M) (hX : zX G e H) (hS : va_S (zA G) H0 H locs)
    {n : Int32} {N' : Nat} (hn : ¬ n < 0) (hN : n.toNatClampNeg = N') (hbytes : N' * componentBytes (newarray.typeOf atype) ≤ 536870912) (hcells : cells + 1 ≤ R.cells) (hslots : slots + N' ≤ R.slots) (hdg : decode cc pc = .ok (.newarray atype, 2))
    (kk : ∀ (H1 : Heap), H1.size = G.1 + (M + 1) → zX G e H1 → va_S (zA G) H0 H1 locs → W p l e0 R s m args below meth c H1 locs (cells + 1) (slots + N') Q (F0 m (pc + 2) ls (.ref (G.1 + M) :: rest))) : W p l e0 R s m args below meth c H locs cells slots Q (F0 m pc ls (.int n :: rest)) := by
  refine va_newaK hexec hb (hts _ harr) rfl hdg rfl hn hN hbytes hcells hslots hz fun H1 cA g1 z1 o1 hAr hNm => ?_
  refine kk H1 (by omega) (fun j y hj => ?_) ⟨Nat.le_trans hS.1 (by omega), fun x h1 h2 => (o1 x (by have := hS.1; omega)).trans (hS.2.1 x h1 h2), hS.2.2⟩
  have hlt := (hX j y hj).lt
  exact (hX j y hj).kept (o1 _ (by omega))
theorem x_ast {M : Nat} (hexec : p.tables.exec = Jvm.exec) (hb : c.code = cc) (hK : zKU G s) (hz : H.size = G.1 + M) (hX : zX G e H) (hS : va_S (zA G) H0 H locs) (t0 : Nat) {cA : ClassId} {r : vw_C} {n k N ci : Nat} {vs : List Value} {f : Nat → Option Nat} (ha : e n = some (.inl (cA, zRows N f))) (ht : (zT G)[t0]? = some (cA, .object r.1)) (hv : e k = some (.inr (ci, vs))) (hc : vwCl[ci]? = some r) {i : Int32} (hin : vp_in i N) {e1 : xM} (he1 : xu e n (.inl (cA, zRows N (va_up f i.toNatClampNeg (some (G.1 + k))))) = e1) (hdg : decode cc pc = .ok (.aastore, 1))
    (kk : ∀ (H1 : Heap) (locs1 : List Loc), H1.size = G.1 + M → zX G e1 H1 → va_S (zA G) H0 H1 locs1 → W p l e0 R s m args below meth c H1 locs1 cells slots Q (F0 m (pc + 1) ls rest)) : W p l e0 R s m args below meth c H locs cells slots Q (F0 m pc ls (.ref (G.1 + k) :: .int i :: .ref (G.1 + n) :: rest)) := by
  have hlt : i.toNatClampNeg < N := Nat.not_le.mp fun q => hin (Or.inr q)
  have h0 : ¬ i < 0 := fun q => hin (Or.inl q)
  obtain ⟨r', hr', cellV, g1, g2, g3, -⟩ := hX k _ hv
  have hcls := (hK.1 ci r hc).2
  obtain ⟨kA, comp, k1, k2, k3, -⟩ := (hK.2 t0 _ ht).2
  have hcomp : comp = G.2.1.1 ci := Option.some.inj (k3.symm.trans hcls.1)
  subst hcomp
  obtain ⟨kC, hkC, -⟩ := hcls.2
  refine W.aast hexec hb (hX n _ ha) (fun q h => by cases h) (fun h => by cases h) k1 k2 rfl hkC ⟨h0, by show _ < (arrV _ _ _).slots.size; rw [arrV_size]; exact hlt⟩ g1 (fun q h => by rw [g3] at h; cases h) (by rw [g2]; exact hkC) (by rw [g2]; exact va_assign hcls) rfl rfl hdg fun H1 f1 f2 f3 => ?_
  refine kk H1 _ (f2.trans hz) (hX.put (n := n) (x := .inl (cA, zRows N (va_up f i.toNatClampNeg (some (G.1 + k))))) ?_ f3 he1) (hS.put f2 f3 (show zA G (G.1 + n) from Nat.le_add_right _ _))
  show H1[G.1 + n]? = some (vp_cell _ _)
  rw [f1]
  rw [vp_cell_q, vp_cell_q, arrV_store]
  congr 2
  funext q
  by_cases hq : q = i.toNatClampNeg
  · subst hq
    simp [updV, va_up, va_rf]
  · simp [updV, va_up, hq]
theorem x_alen (hexec : p.tables.exec = Jvm.exec) (hb : c.code = cc) (hK : zKU G s) (hX : zX G e H) (t0 : Nat) {cA : ClassId} {ty : FieldType} {n N : Nat} {f : Nat → Option Nat} (ha : e n = some (.inl (cA, zRows N f))) (ht : (zT G)[t0]? = some (cA, ty)) {v : Int32} (hv : Int32.ofNat N = v) (hdg : decode cc pc = .ok (.arraylength, 1))
    (kk : W p l e0 R s m args below meth c H locs cells slots Q (F0 m (pc + 1) ls (.int v :: rest))) : W p l e0 R s m args below meth c H locs cells slots Q (F0 m pc ls (.ref (G.1 + n) :: rest)) :=
  va_alen (x := zRows N f) hexec hb hK (hX.one ha) 0 t0 rfl ht hv hdg kk
theorem x_callI {own : String} {idx nL nm fr lo mc ms n M M1 : Nat} {y : MethodName} {cm : ByteArray} {e1 : xM} {lv : List (Nat × Value)} {st0 : List Value}
    (hx : p.tables.exec = Jvm.exec) (hb : c.code = cc) (hml : c.maxLocals = nL) (hown : s.vm.findClass own = some m.cls) (hts : ∀ w ∈ zall, w.before args s = true) (hl : lv_has ls nL lv) (hK : zKU G s) (hN : zN s) (hz : H.size = G.1 + M) (hX : zX G e H) (hS : va_S (zA G) H0 H locs)
    (hM : xMet l G y cm nm fr lo mc ms n e M e1 M1) (q5 : Cond.code y cm nm none ∈ zall) (q1 : Cond.initialized y.cls ∈ zall) (q2 : Cond.methodLink own idx y ∈ zall) (q3 : Cond.instanceMethod y ∈ zall) (hyn : y.name = "<init>")
    (hd : y.cls ≠ "java/lang/invoke/MethodHandle" ∧ y.cls ≠ "java/lang/invoke/VarHandle" ∧ (parseMethodDescriptor y.desc).map (fun d => d.parameters.length) = some 0) (hR : fr + 1 ≤ R.frames ∧ 8 + (nm + 11) + lo ≤ R.locals)
    (hst : st0 = .ref (G.1 + n) :: rest) (hW : (rest.map fun v => v.category).sum ≤ 8) (hdg : decode cc pc = .ok (.invokespecial idx, 3)) (hcs : cells + mc ≤ R.cells ∧ slots + ms ≤ R.slots)
    (kk : ∀ (H1 : Heap) (locs1 : List Loc), H1.size = G.1 + M1 → zX G e1 H1 → va_S (zA G) H0 H1 locs1 → W p l e0 R s m args below meth c H1 locs1 (cells + mc) (slots + ms) Q (F0 m (pc + 3) ls rest)) : W p l e0 R s m args below meth c H locs cells slots Q (F0 m pc ls st0) := by
  refine va_callv (va_runI (As := []) (rest := rest) ⟨hx, hb, hml, hown, hts⟩ hM (cwI 0 hts (z_GI q5) rfl rfl rfl (hts _ q1) (hts _ q2) (hts _ q3) hyn hd hR) ⟨fun a U g mk q => ⟨q.1, q.2.1, q.2.2.1, va_K.moved (u := U) (U := U.calling g mk a) (Vm.Alike.refl U.vm) q.2.2.2.1, q.2.2.2.2.calling⟩, fun U hU hW => ⟨rfl, by rw [hU]; exact hz, by rw [hU]; exact hX, va_K.moved hW.alike hK, hN.warm hW⟩⟩ rfl rfl hl.1 hst (lv_room hW) hdg hcs) hS (fun q _ h => h) (fun q h => h) (fun u t H1 locs1 ht hvm hw hB hz1 hk1 hS1 => ?_)
  exact kk H1 locs1 (by rw [← ht]; exact hB.1) (by rw [← ht]; exact hB.2.1) hS1
theorem x_callIN {own host : String} {idx nL nm fr lo mc ms n M M1 : Nat} {y : MethodName} {cm : ByteArray} {e1 : xM} {lv : List (Nat × Value)} {st0 : List Value}
    (hx : p.tables.exec = Jvm.exec) (hb : c.code = cc) (hml : c.maxLocals = nL) (hown : s.vm.findClass own = some m.cls) (hts : ∀ w ∈ zall, w.before args s = true) (hl : lv_has ls nL lv) (hK : zKU G s) (hN : zN s) (hz : H.size = G.1 + M) (hX : zX G e H) (hS : va_S (zA G) H0 H locs)
    (hM : xMet l G y cm nm fr lo mc ms n e M e1 M1) (q5 : Cond.code y cm nm none ∈ zall) (q1 : Cond.initialized y.cls ∈ zall) (q2 : va_Nw (.methodLinkNest own idx y host) s) (q3 : Cond.instanceMethod y ∈ zall) (hyn : y.name = "<init>")
    (hd : y.cls ≠ "java/lang/invoke/MethodHandle" ∧ y.cls ≠ "java/lang/invoke/VarHandle" ∧ (parseMethodDescriptor y.desc).map (fun d => d.parameters.length) = some 0) (hR : fr + 1 ≤ R.frames ∧ 8 + (nm + 11) + lo ≤ R.locals)
    (hst : st0 = .ref (G.1 + n) :: rest) (hW : (rest.map fun v => v.category).sum ≤ 8) (hdg : decode cc pc = .ok (.invokespecial idx, 3)) (hcs : cells + mc ≤ R.cells ∧ slots + ms ≤ R.slots)
    (kk : ∀ (H1 : Heap) (locs1 : List Loc), H1.size = G.1 + M1 → zX G e1 H1 → va_S (zA G) H0 H1 locs1 → W p l e0 R s m args below meth c H1 locs1 (cells + mc) (slots + ms) Q (F0 m (pc + 3) ls rest)) : W p l e0 R s m args below meth c H locs cells slots Q (F0 m pc ls st0) := by
  refine va_callv (va_runIN (As := []) (rest := rest) ⟨hx, hb, hml, hown, hts⟩ hM ⟨va_cnB 0 hts (z_GI q5) rfl rfl rfl q2 (hts _ q1) hd hR, hyn, hts _ q3⟩ ⟨fun a U g mk q => ⟨q.1, q.2.1, q.2.2.1, va_K.moved (u := U) (U := U.calling g mk a) (Vm.Alike.refl U.vm) q.2.2.2.1, q.2.2.2.2.calling⟩, fun U hU hW => ⟨rfl, by rw [hU]; exact hz, by rw [hU]; exact hX, va_K.moved hW.alike hK, hN.warm hW⟩⟩ rfl rfl hl.1 hst (lv_room hW) hdg hcs) hS (fun q _ h => h) (fun q h => h) (fun u t H1 locs1 ht hvm hw hB hz1 hk1 hS1 => ?_)
  exact kk H1 locs1 (by rw [← ht]; exact hB.1) (by rw [← ht]; exact hB.2.1) hS1
end ZX
