def R_law : String := "TenancyDepositsLaw"
def lw_P (b : Addr) (xs : List Int32) (args : Array Value) (s : State) : Prop := args = #[.ref b] ∧ s.IntsAt b xs ∧ xs.length ≤ 260 ∧ (Jvm.Cond.and given_1 narrow_1).before args s = true
theorem lw_closed {s t : State} {o : Outcome} {d0 : Drawn} {L : List Loc} {k n : Nat} (hd0 : s.drawn.sameBut d0 lw_cs) (hv : ∃ v, o = .returned v) (hW : (s.setDrawn d0).WarmedH t.vm) (hs : (s.setDrawn d0).sameButNew ({ t with vm := s.vm } : State) L k n) : State.butDraws s t lw_cs (fun t1 => Framed s o t1 L k n) := by
  have h2 : t.drawn = d0 := congrArg State.drawn hs.1
  refine ⟨⟨hv, hW, State.sameButNew.setDrawn hs s.drawn⟩, ?_, by decide⟩
  rw [h2]
  exact hd0
def lw_Q (_ : Array Value) (s : State) (o : Outcome) (t : State) : Prop := o = .returned (some (.int 1)) ∧ State.butDraws s t lw_cs (fun t1 => Framed s o t1 [] 600000 7302250)
def lw_Z (below : List Frame) (a : Array Value) (s : State) : State → Prop := fun t => ∃ o, t.status = .running ∧ Ended t below o ∧ lw_Q a s o t
theorem lw_ret {p : Program} {l : Launch} {e : Env} {s : State} {m : MethodId} {below : List Frame} {meth : Method} {c : Code} {b : Nat} {d0 : Drawn} (hd0 : s.drawn.sameBut d0 lw_cs) (hx : p.tables.exec = Jvm.exec) (hb : c.code = code) (hr : meth.sig.returnType = ret) (hlocks : meth.locks = false) {pc : Nat} {H : Heap} {ls : Array Slot} (hdg : decode code pc = .ok (.ireturn, 1)) : W p l e room_1 (s.setDrawn d0) m #[Value.ref b] below meth c H [] 600000 7302250 (lw_Z below #[Value.ref b] s) (F0 m pc ls [.int 1]) := by
  intro T hT X
  obtain ⟨fs, hret, hrun, hended, hW, hframe⟩ := X.leave (v := some (.int 1)) (hlocks := hlocks) (fun h => by rw [hr] at h; cases h)
  have hmeth' : T.vm.method? m = some meth := X.method'
  refine ⟨T.setFrames fs, ?_, .returned (some (.int 1)), hrun, hended, rfl, lw_closed hd0 ⟨_, rfl⟩ hW hframe⟩
  jvm_step X.here [X.here.top, hx, hb, hdg, hmeth', hr, ret, narrow_b1]
  (try refine ⟨rfl, ?_⟩); (try refine ⟨rfl, ?_⟩)
  first | (intro acts; rw [hret _ acts rfl rfl rfl]) | rw [hret _ _ rfl rfl rfl]
  exact Steps.refl _
def lw_At (p : Program) (s : State) (m : MethodId) (meth : Method) (c : Code) (b L : Nat) (xs : Nat → Int32) : Prop :=
  p.tables.exec = Jvm.exec ∧ c.code = code ∧ meth.sig.returnType = ret ∧ c.maxLocals = 14 ∧ s.vm.findClass R_law = some m.cls ∧ (∀ w ∈ lw_tbl, w.before #[Value.ref b] s = true) ∧ va_X b L xs s s.heap ∧ b < s.heap.size ∧ meth.locks = false ∧ (Jvm.Cond.and given_1 narrow_1).before #[Value.ref b] s = true
theorem lg_same (x : Int64) : lg_cmp x x = 0 := by unfold lg_cmp; rw [if_neg Int64.lt_irrefl, if_pos rfl]
theorem low_ix (v : Int32) {n : Nat} (hn : n ≤ 100) : ∃ t, t ≤ n ∧ s_low v (nI (n + 1)) = nI t := by
  obtain ⟨j, hj, e⟩ := pk_andE v (m := 2147483647) 31 (by decide)
  have h : s_low v (nI (n + 1)) = nI (j % (n + 1)) := by
    unfold s_low
    rw [e]
    exact pk_rem hj (by omega) (by omega)
  exact ⟨j % (n + 1), by have := Nat.mod_lt j (show 0 < n + 1 by omega); omega, h⟩
theorem snb_q {B : Nat} {μ κ : zM} {T I : Nat} (hB : B + 39 ≤ 242) (hT : T ≤ 6) (hI : I ≤ 24) (h : snb B μ κ T I) (q : Nat → Int32) : snb B (zr μ 242 q) κ T I := by
  intro r hr
  have := live39 hT hI hr
  rw [zr_ne (by omega)]
  exact h r hr
section LT
variable {V : zM → Nat → Nat → Prop} {μ κ : zM} {T I o z T2 I2 : Nat}
theorem zJ.D (hV : zInv V) (j : zJ V μ κ T I o z T2 I2) (q : Nat → Int32) : z_D μ T I = z_D (zr μ 242 q) T I := by
  obtain ⟨h1, h2, h3, h4, h5, h6, _⟩ := hV.hd j.inv
  exact z_D_cg h3 (eqv_242 h3 h4).symm h6
theorem J_turn (hV : zInv V) (j : zJ V μ κ T I o z T2 I2) {k t i : Nat} {v b : Int32} (hk : k ≤ 15) (ht : t ≤ T) (hi : i ≤ I) {A : Int32 × zM} (hA : A = a_act μ (μ 1) o z T I T2 I2 k t i v b) :
    (A.1 < 0 ∧ A.2 = μ) ∨ (0 ≤ A.1 ∧ (∀ n, n < 1 ∨ 40 ≤ n → A.2 n = zp μ o z T I n) ∧ ∃ T' I', V A.2 T' I' ∧ (k = 14 → T' = T2 ∧ I' = I2 ∧ eqv T2 I2 κ A.2)) := by
  subst hA
  by_cases h14 : k = 14
  · subst h14
    obtain ⟨g1, g2, g3⟩ := j.back hV
    refine Or.inr ⟨?_, g1, T2, I2, g3, fun _ => ⟨rfl, rfl, g2⟩⟩
    show 0 ≤ μ 40 0
    rw [(J_snap hV j).2.2.2.2]
    exact (hV.hd j.ink).2.2.2.2.2.2
  · rcases hV.act (T2 := T2) (I2 := I2) (v := v) (b := b) j.inv j.o4 j.z4 hk h14 ht hi with h | ⟨h1, h2, T', I', h3⟩
    · exact Or.inl h
    · exact Or.inr ⟨h1, h2, T', I', h3, fun e => absurd e h14⟩
theorem J_again (hV : zInv V) {ν : zM} {o' z' : Nat} (j : zJ V μ κ T I o z T2 I2) (j2 : zJ V ν κ T I o' z' T2 I2) (he : eqv T I μ ν) {k t i : Nat} {v b : Int32} (hk : k ≤ 15) (ht : t ≤ T) (hi : i ≤ I) {A B : Int32 × zM} (hA : A = a_act μ (μ 1) o z T I T2 I2 k t i v b) (hB : B = a_act ν (ν 1) o' z' T I T2 I2 k t i v b) :
    B.1 = A.1 ∧ (0 ≤ A.1 → ∀ T' I', V A.2 T' I' → (k = 14 → T' = T2 ∧ I' = I2 ∧ eqv T2 I2 κ A.2) → eqv T' I' A.2 B.2) := by
  subst hA
  subst hB
  by_cases h14 : k = 14
  · subst h14
    refine ⟨?_, fun _ T' I' _ h => ?_⟩
    · show ν 40 0 = μ 40 0
      rw [(J_snap hV j).2.2.2.2, (J_snap hV j2).2.2.2.2]
    · obtain ⟨rfl, rfl, h3⟩ := h rfl
      exact h3.symm.trans (j2.back hV).2.1
  · obtain ⟨h1, h2⟩ := hV.cong (o := o) (z := z) (o' := o') (z' := z') (T2 := T2) (I2 := I2) (v := v) (b := b) j.inv he hk h14 ht hi
    exact ⟨h1, fun h0 T' I' hv _ => h2 h0 T' I' hv⟩
theorem hz_4 {z : Nat} (h4 : z ≤ 4) (h : (4 : Int32) ≤ nI z) : nI (h_z z) = 4 := by
  have : z = 4 := by
    have := (nI_leI (a := 4) (b := z) (by decide) (by omega)).mp h
    omega
  subst this
  rfl
theorem hz_l {z : Nat} (h4 : z ≤ 4) (h : ¬ (4 : Int32) ≤ nI z) : nI (h_z z) = nI (z + 1) := by
  have : z < 4 := Nat.not_le.mp fun g => h (nI_le (a := 4) g (by omega))
  unfold h_z
  rw [if_pos this]
end LT
theorem nI_mul2 (n : Nat) : 2 * nI n = nI (2 * n) := (Int32.ofNat_mul 2 n).symm
set_option maxHeartbeats 8000000 in
set_option maxRecDepth 100000 in
theorem law_loop {V : zM → Nat → Nat → Prop} (hV : zInv V) {p : Program} {e : Env} {s : State} {m : MethodId} {below : List Frame} {meth : Method} {c : Code} (l : Launch) {b L : Nat} {xs : Nat → Int32} (hL : L ≤ 260) (C0 : lw_At p s m meth c b L xs) (G : zG) (hG1 : s.heap.size = G.1) (hK : zKU G s) :
    ∀ (k n : Nat), n + k = 40 → ∀ (κ : zM) (T2 I2 : Nat) (μ : zM) (T I o z : Nat), zJ V μ κ T I o z T2 I2 → ∀ (H : Heap) (locs : List Loc) (ls : Array Slot), zW G μ H → va_S (zA G) s.heap H locs → lv_has ls 14 [(0, .ref b), (1, .ref (G.1 + 0)), (2, .long (z_D κ T2 I2)), (4, .int (nI n))] → W p l e room_1 s m #[Value.ref b] below meth c H locs 243 2450 (lw_Z below #[Value.ref b] s) (F0 m 43 ls []) := by
  obtain ⟨hx, hb, hr, hml, hown, hts0, hX, hbl, hlk, hgv⟩ := id C0
  have hts : ∀ w ∈ zall, w.before #[Value.ref b] s = true := fun w h => hts0 w (zall_tbl h)
  have hown : s.vm.findClass RL = some m.cls := hown
  have hbG : b < G.1 := hG1 ▸ hbl
  intro k
  induction k with
  | zero =>
    intro n hv κ T2 I2 μ T I o z j H locs ls hZ hS hl
    have hv : n = 40 := by omega
    subst hv
    refine lv_iload hx hb dL_law_43 (lv_at hl 3 rfl) ?_
    refine lv_bipush (v := 40) hx hb dL_law_45 (by decide) ?_
    refine lv_icmp_ge (tgt := 281) hx hb dL_law_47 (by decide) (fun c_43 => ?_) (fun c_43 => ?_)
    · refine lv_iconst (v := 1) hx hb dL_law_281 (by decide) ?_
      refine va_forget (fun q hq => ?_) (W.widen (k := 600000) (n := 7302250) (Nat.le_of_ble_eq_true rfl) (Nat.le_of_ble_eq_true rfl) (lw_ret (d0 := s.drawn) (Drawn.sameBut.refl s.drawn lw_cs) hx hb hr hlk dL_law_282))
      have := hS.2.2 q hq
      rw [hG1]
      exact this
    · exact absurd (show nI 40 ≤ nI 40 from nI_le (Nat.le_refl _) (by decide)) c_43
  | succ k ih =>
    intro n hv κ T2 I2 μ T I o z j
    have fin : ∀ (μ : zM) (T I o z : Nat), zJ V μ κ T I o z T2 I2 → ∀ (v : Int32) (D : Int64), D = z_D μ T I → ∀ (H : Heap) (locs : List Loc) (ls : Array Slot), zW G μ H → va_S (zA G) s.heap H locs → lv_has ls 14 [(0, .ref b), (1, .ref (G.1 + 0)), (2, .long (z_D κ T2 I2)), (4, .int (nI n)), (5, .int v), (11, .long D)] → W p l e room_1 s m #[Value.ref b] below meth c H locs 243 2450 (lw_Z below #[Value.ref b] s) (F0 m 247 ls []) := by
      intro μ T I o z j v D hD H locs ls hZ hS hl
      refine lv_aload_n hx hb dL_law_247 rfl (lv_at hl 1 rfl) ?_
      refine z_cSiP (As := [.ref (G.1 + 0)]) (rest := []) hx hb hml hown hts hl hK hZ hS (J_hold l G hV j) (z_GS q553 q554 q0 q555) hdL_holds ⟨Nat.le_of_ble_eq_true rfl, Nat.le_of_ble_eq_true rfl⟩ rfl rfl (Nat.le_of_ble_eq_true rfl) dL_law_248 ⟨(Nat.le_of_ble_eq_true rfl), (Nat.le_of_ble_eq_true rfl)⟩ (fun q H locs hZ hS => ?_)
      rw [j.D hV q] at hD
      replace j := j.q hV q
      generalize zr μ 242 q = μ at j hZ hD ⊢
      refine lv_if_ne (tgt := 256) hx hb dL_law_251 (by decide) (fun c_1 => ?_) (fun c_1 => ?_)
      · refine lv_iload hx hb dL_law_256 (lv_at hl 4 rfl) ?_
        refine lv_bipush (v := 11) hx hb dL_law_258 (by decide) ?_
        refine lv_ishr hx hb dL_law_260 ?_
        refine lv_bipush (v := 7) hx hb dL_law_261 (by decide) ?_
        refine lv_iand hx hb dL_law_263 ?_
        refine lv_if_ne (tgt := 275) hx hb dL_law_264 (by decide) (fun c_2 => ?_) (fun c_2 => ?_)
        · refine lv_iinc (v := (nI (n + 1))) (lv' := [(4, .int (nI (n + 1))), (0, .ref b), (1, .ref (G.1 + 0)), (2, .long (z_D κ T2 I2)), (5, .int v), (11, .long D)]) hx hb dL_law_275 hl (k := 3) rfl (nI_1 _) (by decide) rfl (fun ls hl => ?_)
          refine lv_goto (tgt := 43) hx hb dL_law_278 (by decide) ?_
          exact ih (n + 1) (by omega) κ T2 I2 μ T I o z j _ _ _ hZ hS (lv_sub hl [1, 2, 3, 0] rfl)
        · refine lv_aload_n hx hb dL_law_267 rfl (lv_at hl 1 rfl) ?_
          refine z_cVi (As := []) (rest := []) hx hb hml hown hts hl hK hZ hS (J_keep l G hV j) (z_G q281 q282 q283 q1 q284) hdX6_keep ⟨Nat.le_of_ble_eq_true rfl, Nat.le_of_ble_eq_true rfl⟩ zk0 (by decide) rfl rfl rfl rfl (Nat.le_of_ble_eq_true rfl) dL_law_268 ⟨(Nat.le_of_ble_eq_true rfl), (Nat.le_of_ble_eq_true rfl)⟩ (fun H locs hZ hS => ?_)
          refine lv_pop hx hb dL_law_271 rfl ?_
          refine lv_lload hx hb dL_law_272 (lv_at hl 5 rfl) ?_
          refine lv_lstore_n (lv' := [(2, .long D), (0, .ref b), (1, .ref (G.1 + 0)), (4, .int (nI n)), (5, .int v), (11, .long D)]) hx hb dL_law_274 rfl hl (by decide) rfl (fun ls hl => ?_)
          refine lv_iinc (v := (nI (n + 1))) (lv' := [(4, .int (nI (n + 1))), (2, .long D), (0, .ref b), (1, .ref (G.1 + 0)), (5, .int v), (11, .long D)]) hx hb dL_law_275 hl (k := 3) rfl (nI_1 _) (by decide) rfl (fun ls hl => ?_)
          refine lv_goto (tgt := 43) hx hb dL_law_278 (by decide) ?_
          subst hD
          exact ih (n + 1) (by omega) μ T I _ T I o z (j.keep hV) _ _ _ hZ hS (lv_sub hl [2, 3, 1, 0] rfl)
      · exact absurd c_1 (by decide)
    intro H locs ls hZ hS hl
    refine lv_iload hx hb dL_law_43 (lv_at hl 3 rfl) ?_
    refine lv_bipush (v := 40) hx hb dL_law_45 (by decide) ?_
    refine lv_icmp_ge (tgt := 281) hx hb dL_law_47 (by decide) (fun c_3 => ?_) (fun c_3 => ?_)
    · exact absurd c_3 (show ¬ nI 40 ≤ nI n from nI_ge (by omega) (by decide))
    · refine lv_aload_n hx hb dL_law_50 rfl (lv_at hl 0 rfl) ?_
      refine lv_iconst (v := 2) hx hb dL_law_51 (by decide) ?_
      refine lv_iload hx hb dL_law_52 (lv_at hl 3 rfl) ?_
      refine lv_imul hx hb dL_law_54 ?_
      rw [show 2 * nI n = nI (2 * n) from nI_mul2 n]
      refine z_cCell (k := 2 * n) (rest := []) (c_L_cell l G μ b L (2 * n) xs hL (by omega)) hdL_cell hx hb hml hown hts hl hK hZ hS hX hbl hbG (z_GS q311 q312 q0 q313) ⟨Nat.le_of_ble_eq_true rfl, Nat.le_of_ble_eq_true rfl⟩ rfl (Nat.le_of_ble_eq_true rfl) dL_law_55 ⟨(Nat.le_of_ble_eq_true rfl), (Nat.le_of_ble_eq_true rfl)⟩ (fun H locs hZ hS => ?_)
      generalize s_cell xs L (2 * n) = v
      refine lv_istore (lv' := [(5, .int v), (0, .ref b), (1, .ref (G.1 + 0)), (2, .long (z_D κ T2 I2)), (4, .int (nI n))]) hx hb dL_law_58 hl (by decide) rfl (fun ls hl => ?_)
      refine lv_aload_n hx hb dL_law_60 rfl (lv_at hl 1 rfl) ?_
      refine lv_iconst (v := 2) hx hb dL_law_61 (by decide) ?_
      refine lv_iload hx hb dL_law_62 (lv_at hl 4 rfl) ?_
      refine lv_imul hx hb dL_law_64 ?_
      rw [show 2 * nI n = nI (2 * n) from nI_mul2 n]
      refine lv_iconst (v := 1) hx hb dL_law_65 (by decide) ?_
      refine lv_iadd hx hb dL_law_66 ?_
      rw [nI_1]
      refine z_cCell (k := 2 * n + 1) (rest := []) (c_L_cell l G μ b L (2 * n + 1) xs hL (by omega)) hdL_cell hx hb hml hown hts hl hK hZ hS hX hbl hbG (z_GS q311 q312 q0 q313) ⟨Nat.le_of_ble_eq_true rfl, Nat.le_of_ble_eq_true rfl⟩ rfl (Nat.le_of_ble_eq_true rfl) dL_law_67 ⟨(Nat.le_of_ble_eq_true rfl), (Nat.le_of_ble_eq_true rfl)⟩ (fun H locs hZ hS => ?_)
      generalize s_cell xs L (2 * n + 1) = w
      refine lv_istore (lv' := [(6, .int w), (5, .int v), (0, .ref b), (1, .ref (G.1 + 0)), (2, .long (z_D κ T2 I2)), (4, .int (nI n))]) hx hb dL_law_70 hl (by decide) rfl (fun ls hl => ?_)
      refine lv_aload_n hx hb dL_law_72 rfl (lv_at hl 3 rfl) ?_
      refine z_cSlP (As := [.ref (G.1 + 0)]) (rest := []) hx hb hml hown hts hl hK hZ hS (J_dig l G hV j) (z_GS q314 q315 q0 q316) hdL_digest ⟨Nat.le_of_ble_eq_true rfl, Nat.le_of_ble_eq_true rfl⟩ rfl rfl (Nat.le_of_ble_eq_true rfl) dL_law_73 ⟨(Nat.le_of_ble_eq_true rfl), (Nat.le_of_ble_eq_true rfl)⟩ (fun q H locs hZ hS => ?_)
      rw [j.D hV q]
      replace j := j.q hV q
      generalize zr μ 242 q = μ at j hZ ⊢
      refine lv_lstore (lv' := [(7, .long (z_D μ T I)), (6, .int w), (5, .int v), (0, .ref b), (1, .ref (G.1 + 0)), (2, .long (z_D κ T2 I2)), (4, .int (nI n))]) hx hb dL_law_76 hl (by decide) rfl (fun ls hl => ?_)
      refine lv_aload_n hx hb dL_law_78 rfl (lv_at hl 4 rfl) ?_
      refine lv_bipush (v := 12) hx hb dL_law_79 (by decide) ?_
      refine z_cVi (As := [.int 12]) (rest := []) hx hb hml hown hts hl hK hZ hS (J_cnt l G hV j) (z_G q294 q295 q296 q1 q297) hdX6_count ⟨Nat.le_of_ble_eq_true rfl, Nat.le_of_ble_eq_true rfl⟩ zk0 (by decide) rfl rfl rfl rfl (Nat.le_of_ble_eq_true rfl) dL_law_81 ⟨(Nat.le_of_ble_eq_true rfl), (Nat.le_of_ble_eq_true rfl)⟩ (fun H locs hZ hS => ?_)
      refine lv_istore (lv' := [(9, .int (nI z)), (7, .long (z_D μ T I)), (6, .int w), (5, .int v), (0, .ref b), (1, .ref (G.1 + 0)), (2, .long (z_D κ T2 I2)), (4, .int (nI n))]) hx hb dL_law_84 hl (by decide) rfl (fun ls hl => ?_)
      refine lv_aload_n hx hb dL_law_86 rfl (lv_at hl 5 rfl) ?_
      refine lv_iload hx hb dL_law_87 (lv_at hl 3 rfl) ?_
      refine lv_iload hx hb dL_law_89 (lv_at hl 2 rfl) ?_
      obtain ⟨k, hk, ek⟩ := pk_andE v (m := 15) 4 (by decide)
      have hk : k < 16 := hk
      have h3 := (hV.hd j.inv).2.2.1
      have h4 := (hV.hd j.inv).2.2.2.1
      obtain ⟨t, ht, et⟩ := low_ix (v >>> ((4 : Int32) &&& 31)) (show T ≤ 100 by omega)
      obtain ⟨i, hi, ei⟩ := low_ix (v >>> ((4 : Int32) &&& 31)) (show I ≤ 100 by omega)
      refine z_cSi (As := [.ref (G.1 + 0), .int v, .int w]) (rest := []) hx hb hml hown hts hl hK hZ hS (J_act l G hV j v w k t i (by omega) ek ht et hi ei) (z_GS q436 q437 q0 q438) hdL_act ⟨Nat.le_of_ble_eq_true rfl, Nat.le_of_ble_eq_true rfl⟩ rfl rfl (Nat.le_of_ble_eq_true rfl) dL_law_91 ⟨(Nat.le_of_ble_eq_true rfl), (Nat.le_of_ble_eq_true rfl)⟩ (fun H locs hZ hS => ?_)
      have hT := J_turn hV j (A := a_act μ (μ 1) o z T I T2 I2 k t i v w) (v := v) (b := w) (show k ≤ 15 by omega) ht hi rfl
      generalize hA : a_act μ (μ 1) o z T I T2 I2 k t i v w = A at hT hZ ⊢
      rcases hT with ⟨hr0, hm⟩ | ⟨hr0, hn, T1, I1, hi1, h14⟩
      · rw [hm] at hZ
        refine lv_istore (lv' := [(10, .int A.1), (9, .int (nI z)), (7, .long (z_D μ T I)), (6, .int w), (5, .int v), (0, .ref b), (1, .ref (G.1 + 0)), (2, .long (z_D κ T2 I2)), (4, .int (nI n))]) hx hb dL_law_94 hl (by decide) rfl (fun ls hl => ?_)
        refine lv_aload_n hx hb dL_law_96 rfl (lv_at hl 6 rfl) ?_
        refine z_cSlP (As := [.ref (G.1 + 0)]) (rest := []) hx hb hml hown hts hl hK hZ hS (J_dig l G hV j) (z_GS q314 q315 q0 q316) hdL_digest ⟨Nat.le_of_ble_eq_true rfl, Nat.le_of_ble_eq_true rfl⟩ rfl rfl (Nat.le_of_ble_eq_true rfl) dL_law_97 ⟨(Nat.le_of_ble_eq_true rfl), (Nat.le_of_ble_eq_true rfl)⟩ (fun q H locs hZ hS => ?_)
        have hD := j.D hV q
        have j1 := j.q hV q
        generalize zr μ 242 q = μ1 at j1 hZ hD ⊢
        refine lv_lstore (lv' := [(11, .long (z_D μ T I)), (10, .int A.1), (9, .int (nI z)), (7, .long (z_D μ T I)), (6, .int w), (5, .int v), (0, .ref b), (1, .ref (G.1 + 0)), (2, .long (z_D κ T2 I2)), (4, .int (nI n))]) hx hb dL_law_100 hl (by decide) rfl (fun ls hl => ?_)
        refine lv_iload hx hb dL_law_102 (lv_at hl 1 rfl) ?_
        refine lv_if_ge (tgt := 129) hx hb dL_law_104 (by decide) (fun c_4 => ?_) (fun c_4 => ?_)
        · exact absurd c_4 (Int32.not_le.mpr hr0)
        · refine lv_lload hx hb dL_law_107 (lv_at hl 0 rfl) ?_
          refine lv_lload hx hb dL_law_109 (lv_at hl 3 rfl) ?_
          refine W.lcmp hx hb dL_law_111 ?_
          rw [lg_same]
          refine lv_if_ne (tgt := 152) hx hb dL_law_112 (by decide) (fun c_5 => ?_) (fun c_5 => ?_)
          · exact absurd rfl c_5
          · refine lv_aload_n hx hb dL_law_115 rfl (lv_at hl 7 rfl) ?_
            refine lv_bipush (v := 12) hx hb dL_law_116 (by decide) ?_
            refine z_cVi (As := [.int 12]) (rest := []) hx hb hml hown hts hl hK hZ hS (J_cnt l G hV j1) (z_G q294 q295 q296 q1 q297) hdX6_count ⟨Nat.le_of_ble_eq_true rfl, Nat.le_of_ble_eq_true rfl⟩ zk0 (by decide) rfl rfl rfl rfl (Nat.le_of_ble_eq_true rfl) dL_law_118 ⟨(Nat.le_of_ble_eq_true rfl), (Nat.le_of_ble_eq_true rfl)⟩ (fun H locs hZ hS => ?_)
            refine lv_iload hx hb dL_law_121 (lv_at hl 2 rfl) ?_
            refine lv_icmp_eq (tgt := 154) hx hb dL_law_123 (by decide) (fun c_6 => ?_) (fun c_6 => ?_)
            · refine lv_iload hx hb dL_law_154 (lv_at hl 1 rfl) ?_
              refine lv_if_lt (tgt := 178) hx hb dL_law_156 (by decide) (fun c_7 => ?_) (fun c_7 => ?_)
              · refine lv_iload hx hb dL_law_178 (lv_at hl 1 rfl) ?_
                refine lv_if_lt (tgt := 247) hx hb dL_law_180 (by decide) (fun c_8 => ?_) (fun c_8 => ?_)
                · exact fin μ1 T I o z j1 v _ hD _ _ _ hZ hS (lv_sub hl [6, 7, 8, 9, 5, 0] rfl)
                · exact absurd hr0 c_8
              · exact absurd hr0 c_7
            · exact absurd rfl c_6
      · obtain ⟨j1, hs1⟩ := j.done hV hn hi1
        refine lv_istore (lv' := [(10, .int A.1), (9, .int (nI z)), (7, .long (z_D μ T I)), (6, .int w), (5, .int v), (0, .ref b), (1, .ref (G.1 + 0)), (2, .long (z_D κ T2 I2)), (4, .int (nI n))]) hx hb dL_law_94 hl (by decide) rfl (fun ls hl => ?_)
        refine lv_aload_n hx hb dL_law_96 rfl (lv_at hl 6 rfl) ?_
        refine z_cSlP (As := [.ref (G.1 + 0)]) (rest := []) hx hb hml hown hts hl hK hZ hS (J_dig l G hV j1) (z_GS q314 q315 q0 q316) hdL_digest ⟨Nat.le_of_ble_eq_true rfl, Nat.le_of_ble_eq_true rfl⟩ rfl rfl (Nat.le_of_ble_eq_true rfl) dL_law_97 ⟨(Nat.le_of_ble_eq_true rfl), (Nat.le_of_ble_eq_true rfl)⟩ (fun q H locs hZ hS => ?_)
        have hD := j1.D hV q
        have e1 : eqv T1 I1 (zr A.2 242 q) A.2 := eqv_242 (hV.hd j1.inv).2.2.1 (hV.hd j1.inv).2.2.2.1
        have hs2 := snb_q (by have := h_p4 o z; omega) h3 h4 hs1 q
        have j2 := j1.q hV q
        generalize zr A.2 242 q = μ1 at j2 hZ hD hs2 e1 ⊢
        refine lv_lstore (lv' := [(11, .long (z_D A.2 T1 I1)), (10, .int A.1), (9, .int (nI z)), (7, .long (z_D μ T I)), (6, .int w), (5, .int v), (0, .ref b), (1, .ref (G.1 + 0)), (2, .long (z_D κ T2 I2)), (4, .int (nI n))]) hx hb dL_law_100 hl (by decide) rfl (fun ls hl => ?_)
        refine lv_iload hx hb dL_law_102 (lv_at hl 1 rfl) ?_
        refine lv_if_ge (tgt := 129) hx hb dL_law_104 (by decide) (fun c_9 => ?_) (fun c_9 => ?_)
        · refine lv_aload_n hx hb dL_law_129 rfl (lv_at hl 7 rfl) ?_
          refine lv_bipush (v := 12) hx hb dL_law_130 (by decide) ?_
          refine z_cVi (As := [.int 12]) (rest := []) hx hb hml hown hts hl hK hZ hS (J_cnt l G hV j2) (z_G q294 q295 q296 q1 q297) hdX6_count ⟨Nat.le_of_ble_eq_true rfl, Nat.le_of_ble_eq_true rfl⟩ zk0 (by decide) rfl rfl rfl rfl (Nat.le_of_ble_eq_true rfl) dL_law_132 ⟨(Nat.le_of_ble_eq_true rfl), (Nat.le_of_ble_eq_true rfl)⟩ (fun H locs hZ hS => ?_)
          refine lv_iload hx hb dL_law_135 (lv_at hl 2 rfl) ?_
          refine lv_iconst (v := 4) hx hb dL_law_137 (by decide) ?_
          refine lv_icmp_ge (tgt := 148) hx hb dL_law_138 (by decide) (fun c_10 => ?_) (fun c_10 => ?_)
          · refine lv_iconst (v := 4) hx hb dL_law_148 (by decide) ?_
            refine lv_icmp_eq (tgt := 154) hx hb dL_law_149 (by decide) (fun c_11 => ?_) (fun c_11 => ?_)
            · refine lv_iload hx hb dL_law_154 (lv_at hl 1 rfl) ?_
              refine lv_if_lt (tgt := 178) hx hb dL_law_156 (by decide) (fun c_12 => ?_) (fun c_12 => ?_)
              · exact absurd c_12 (Int32.not_lt.mpr hr0)
              · refine lv_iload hx hb dL_law_159 (lv_at hl 5 rfl) ?_
                refine lv_bipush (v := 15) hx hb dL_law_161 (by decide) ?_
                refine lv_iand hx hb dL_law_163 ?_
                rw [ek]
                refine lv_bipush (v := 14) hx hb dL_law_164 (by decide) ?_
                refine lv_icmp_ne (tgt := 178) hx hb dL_law_166 (by decide) (fun c_13 => ?_) (fun c_13 => ?_)
                · refine lv_iload hx hb dL_law_178 (lv_at hl 1 rfl) ?_
                  refine lv_if_lt (tgt := 247) hx hb dL_law_180 (by decide) (fun c_14 => ?_) (fun c_14 => ?_)
                  · exact absurd c_14 (Int32.not_lt.mpr hr0)
                  · refine lv_iload hx hb dL_law_183 (lv_at hl 5 rfl) ?_
                    refine lv_bipush (v := 10) hx hb dL_law_185 (by decide) ?_
                    refine lv_ishr hx hb dL_law_187 ?_
                    refine lv_iconst (v := 1) hx hb dL_law_188 (by decide) ?_
                    refine lv_iand hx hb dL_law_189 ?_
                    refine lv_if_ne (tgt := 247) hx hb dL_law_190 (by decide) (fun c_15 => ?_) (fun c_15 => ?_)
                    · exact fin μ1 T1 I1 _ _ j2 v _ hD _ _ _ hZ hS (lv_sub hl [6, 7, 8, 9, 5, 0] rfl)
                    · refine lv_aload_n hx hb dL_law_193 rfl (lv_at hl 7 rfl) ?_
                      refine lv_bipush (v := 12) hx hb dL_law_194 (by decide) ?_
                      refine z_cVi (As := [.int 12]) (rest := []) hx hb hml hown hts hl hK hZ hS (J_cnt l G hV j2) (z_G q294 q295 q296 q1 q297) hdX6_count ⟨Nat.le_of_ble_eq_true rfl, Nat.le_of_ble_eq_true rfl⟩ zk0 (by decide) rfl rfl rfl rfl (Nat.le_of_ble_eq_true rfl) dL_law_196 ⟨(Nat.le_of_ble_eq_true rfl), (Nat.le_of_ble_eq_true rfl)⟩ (fun H locs hZ hS => ?_)
                      refine lv_iconst (v := 1) hx hb dL_law_199 (by decide) ?_
                      refine lv_isub hx hb dL_law_200 ?_
                      rw [nI_pr (show ¬ h_z z = 0 by have := hz_pos z; omega)]
                      refine lv_istore (lv' := [(13, .int (nI (h_z z - 1))), (11, .long (z_D A.2 T1 I1)), (10, .int A.1), (9, .int (nI z)), (7, .long (z_D μ T I)), (6, .int w), (5, .int v), (0, .ref b), (1, .ref (G.1 + 0)), (2, .long (z_D κ T2 I2)), (4, .int (nI n))]) hx hb dL_law_201 hl (by decide) rfl (fun ls hl => ?_)
                      refine lv_aload_n hx hb dL_law_203 rfl (lv_at hl 8 rfl) ?_
                      refine z_cVi (As := []) (rest := []) hx hb hml hown hts hl hK hZ hS (J_undo l G hV j.inv j.o4 j.z4 j2 hs2) (z_G q245 q246 q247 q1 q248) hdX6_undo ⟨Nat.le_of_ble_eq_true rfl, Nat.le_of_ble_eq_true rfl⟩ zk0 (by decide) rfl rfl rfl rfl (Nat.le_of_ble_eq_true rfl) dL_law_204 ⟨(Nat.le_of_ble_eq_true rfl), (Nat.le_of_ble_eq_true rfl)⟩ (fun H locs hZ hS => ?_)
                      refine lv_iload hx hb dL_law_207 (lv_at hl 0 rfl) ?_
                      refine lv_icmp_ne (tgt := 245) hx hb dL_law_209 (by decide) (fun c_16 => ?_) (fun c_16 => ?_)
                      · exact absurd rfl c_16
                      · refine lv_aload_n hx hb dL_law_212 rfl (lv_at hl 8 rfl) ?_
                        obtain ⟨j3, e3⟩ := j2.undone hV j.inv hs2
                        refine z_cSlP (As := [.ref (G.1 + 0)]) (rest := []) hx hb hml hown hts hl hK hZ hS (J_dig l G hV j3) (z_GS q314 q315 q0 q316) hdL_digest ⟨Nat.le_of_ble_eq_true rfl, Nat.le_of_ble_eq_true rfl⟩ rfl rfl (Nat.le_of_ble_eq_true rfl) dL_law_213 ⟨(Nat.le_of_ble_eq_true rfl), (Nat.le_of_ble_eq_true rfl)⟩ (fun q H locs hZ hS => ?_)
                        have hD3 : z_D μ T I = z_D (zr (bc μ1 1 (81 + 39 * h_p o z) T I) 79 (zu (μ1 79) 2 (nI (h_z z - 1)))) T I := z_D_cg h3 e3 (hV.hd j.inv).2.2.2.2.2.1
                        have e4 := e3.trans (eqv_242 (q := q) h3 h4).symm
                        have j4 := j3.q hV q
                        rw [← hD3]
                        generalize zr (zr (bc μ1 1 (81 + 39 * h_p o z) T I) 79 (zu (μ1 79) 2 (nI (h_z z - 1)))) 242 q = μ2 at j4 e4 hZ ⊢
                        refine lv_lload hx hb dL_law_216 (lv_at hl 4 rfl) ?_
                        refine W.lcmp hx hb dL_law_218 ?_
                        rw [lg_same]
                        refine lv_if_ne (tgt := 245) hx hb dL_law_219 (by decide) (fun c_17 => ?_) (fun c_17 => ?_)
                        · exact absurd rfl c_17
                        · refine lv_aload_n hx hb dL_law_222 rfl (lv_at hl 8 rfl) ?_
                          refine lv_iload hx hb dL_law_223 (lv_at hl 6 rfl) ?_
                          refine lv_iload hx hb dL_law_225 (lv_at hl 5 rfl) ?_
                          refine z_cSi (As := [.ref (G.1 + 0), .int v, .int w]) (rest := []) hx hb hml hown hts hl hK hZ hS (J_act l G hV j4 v w k t i (by omega) ek ht et hi ei) (z_GS q436 q437 q0 q438) hdL_act ⟨Nat.le_of_ble_eq_true rfl, Nat.le_of_ble_eq_true rfl⟩ rfl rfl (Nat.le_of_ble_eq_true rfl) dL_law_227 ⟨(Nat.le_of_ble_eq_true rfl), (Nat.le_of_ble_eq_true rfl)⟩ (fun H locs hZ hS => ?_)
                          obtain ⟨g1, g2⟩ := J_again hV j j4 e4 (show k ≤ 15 by omega) ht hi (v := v) (b := w) hA.symm rfl
                          have g3 := J_turn hV j4 (v := v) (b := w) (show k ≤ 15 by omega) ht hi rfl
                          generalize a_act μ2 (μ2 1) (h_o o z) (h_z z - 1) T I T2 I2 k t i v w = B at g1 g2 g3 hZ ⊢
                          refine lv_iload hx hb dL_law_230 (lv_at hl 2 rfl) ?_
                          refine lv_icmp_ne (tgt := 245) hx hb dL_law_232 (by decide) (fun c_18 => ?_) (fun c_18 => ?_)
                          · exact absurd g1 c_18
                          · refine lv_aload_n hx hb dL_law_235 rfl (lv_at hl 8 rfl) ?_
                            have e5 := g2 hr0 T1 I1 hi1 h14
                            have j5 := ((g3.resolve_left (fun h => absurd (g1 ▸ hr0) (Int32.not_le.mpr h.1))).elim (fun _ h => j4.done hV h.1 (hV.cg hi1 e5))).1
                            refine z_cSlP (As := [.ref (G.1 + 0)]) (rest := []) hx hb hml hown hts hl hK hZ hS (J_dig l G hV j5) (z_GS q314 q315 q0 q316) hdL_digest ⟨Nat.le_of_ble_eq_true rfl, Nat.le_of_ble_eq_true rfl⟩ rfl rfl (Nat.le_of_ble_eq_true rfl) dL_law_236 ⟨(Nat.le_of_ble_eq_true rfl), (Nat.le_of_ble_eq_true rfl)⟩ (fun q H locs hZ hS => ?_)
                            have hD5 : z_D A.2 T1 I1 = z_D B.2 T1 I1 := z_D_cg (hV.hd j1.inv).2.2.1 e5 (hV.hd j1.inv).2.2.2.2.2.1
                            have hD6 := hD5.trans (j5.D hV q)
                            have j6 := j5.q hV q
                            rw [← hD5]
                            generalize zr B.2 242 q = μ3 at j6 hD6 hZ ⊢
                            refine lv_lload hx hb dL_law_239 (lv_at hl 1 rfl) ?_
                            refine W.lcmp hx hb dL_law_241 ?_
                            rw [lg_same]
                            refine lv_if_eq (tgt := 247) hx hb dL_law_242 (by decide) (fun c_19 => ?_) (fun c_19 => ?_)
                            · exact fin μ3 T1 I1 _ _ j6 v _ hD6 _ _ _ hZ hS (lv_sub hl [7, 8, 9, 10, 6, 1] rfl)
                            · exact absurd rfl c_19
                · refine lv_lload hx hb dL_law_169 (lv_at hl 0 rfl) ?_
                  refine lv_lload_n hx hb dL_law_171 rfl (lv_at hl 8 rfl) ?_
                  refine W.lcmp hx hb dL_law_172 ?_
                  obtain ⟨y1, y2, y3⟩ := h14 ((nI_eq (a := k) (b := 14) (by omega) (by decide)).mp c_13)
                  rw [show z_D A.2 T1 I1 = z_D κ T2 I2 from (by rw [y1, y2]; exact (z_D_cg (hV.hd j.ink).2.2.1 y3 (hV.hd j.ink).2.2.2.2.2.1).symm), lg_same]
                  refine lv_if_eq (tgt := 178) hx hb dL_law_173 (by decide) (fun c_20 => ?_) (fun c_20 => ?_)
                  · refine lv_iload hx hb dL_law_178 (lv_at hl 1 rfl) ?_
                    refine lv_if_lt (tgt := 247) hx hb dL_law_180 (by decide) (fun c_21 => ?_) (fun c_21 => ?_)
                    · exact absurd c_21 (Int32.not_lt.mpr hr0)
                    · refine lv_iload hx hb dL_law_183 (lv_at hl 5 rfl) ?_
                      refine lv_bipush (v := 10) hx hb dL_law_185 (by decide) ?_
                      refine lv_ishr hx hb dL_law_187 ?_
                      refine lv_iconst (v := 1) hx hb dL_law_188 (by decide) ?_
                      refine lv_iand hx hb dL_law_189 ?_
                      refine lv_if_ne (tgt := 247) hx hb dL_law_190 (by decide) (fun c_22 => ?_) (fun c_22 => ?_)
                      · exact fin μ1 T1 I1 _ _ j2 v _ hD _ _ _ hZ hS (lv_sub hl [6, 7, 8, 9, 5, 0] rfl)
                      · refine lv_aload_n hx hb dL_law_193 rfl (lv_at hl 7 rfl) ?_
                        refine lv_bipush (v := 12) hx hb dL_law_194 (by decide) ?_
                        refine z_cVi (As := [.int 12]) (rest := []) hx hb hml hown hts hl hK hZ hS (J_cnt l G hV j2) (z_G q294 q295 q296 q1 q297) hdX6_count ⟨Nat.le_of_ble_eq_true rfl, Nat.le_of_ble_eq_true rfl⟩ zk0 (by decide) rfl rfl rfl rfl (Nat.le_of_ble_eq_true rfl) dL_law_196 ⟨(Nat.le_of_ble_eq_true rfl), (Nat.le_of_ble_eq_true rfl)⟩ (fun H locs hZ hS => ?_)
                        refine lv_iconst (v := 1) hx hb dL_law_199 (by decide) ?_
                        refine lv_isub hx hb dL_law_200 ?_
                        rw [nI_pr (show ¬ h_z z = 0 by have := hz_pos z; omega)]
                        refine lv_istore (lv' := [(13, .int (nI (h_z z - 1))), (11, .long (z_D A.2 T1 I1)), (10, .int A.1), (9, .int (nI z)), (7, .long (z_D μ T I)), (6, .int w), (5, .int v), (0, .ref b), (1, .ref (G.1 + 0)), (2, .long (z_D κ T2 I2)), (4, .int (nI n))]) hx hb dL_law_201 hl (by decide) rfl (fun ls hl => ?_)
                        refine lv_aload_n hx hb dL_law_203 rfl (lv_at hl 8 rfl) ?_
                        refine z_cVi (As := []) (rest := []) hx hb hml hown hts hl hK hZ hS (J_undo l G hV j.inv j.o4 j.z4 j2 hs2) (z_G q245 q246 q247 q1 q248) hdX6_undo ⟨Nat.le_of_ble_eq_true rfl, Nat.le_of_ble_eq_true rfl⟩ zk0 (by decide) rfl rfl rfl rfl (Nat.le_of_ble_eq_true rfl) dL_law_204 ⟨(Nat.le_of_ble_eq_true rfl), (Nat.le_of_ble_eq_true rfl)⟩ (fun H locs hZ hS => ?_)
                        refine lv_iload hx hb dL_law_207 (lv_at hl 0 rfl) ?_
                        refine lv_icmp_ne (tgt := 245) hx hb dL_law_209 (by decide) (fun c_23 => ?_) (fun c_23 => ?_)
                        · exact absurd rfl c_23
                        · refine lv_aload_n hx hb dL_law_212 rfl (lv_at hl 8 rfl) ?_
                          obtain ⟨j3, e3⟩ := j2.undone hV j.inv hs2
                          refine z_cSlP (As := [.ref (G.1 + 0)]) (rest := []) hx hb hml hown hts hl hK hZ hS (J_dig l G hV j3) (z_GS q314 q315 q0 q316) hdL_digest ⟨Nat.le_of_ble_eq_true rfl, Nat.le_of_ble_eq_true rfl⟩ rfl rfl (Nat.le_of_ble_eq_true rfl) dL_law_213 ⟨(Nat.le_of_ble_eq_true rfl), (Nat.le_of_ble_eq_true rfl)⟩ (fun q H locs hZ hS => ?_)
                          have hD3 : z_D μ T I = z_D (zr (bc μ1 1 (81 + 39 * h_p o z) T I) 79 (zu (μ1 79) 2 (nI (h_z z - 1)))) T I := z_D_cg h3 e3 (hV.hd j.inv).2.2.2.2.2.1
                          have e4 := e3.trans (eqv_242 (q := q) h3 h4).symm
                          have j4 := j3.q hV q
                          rw [← hD3]
                          generalize zr (zr (bc μ1 1 (81 + 39 * h_p o z) T I) 79 (zu (μ1 79) 2 (nI (h_z z - 1)))) 242 q = μ2 at j4 e4 hZ ⊢
                          refine lv_lload hx hb dL_law_216 (lv_at hl 4 rfl) ?_
                          refine W.lcmp hx hb dL_law_218 ?_
                          rw [lg_same]
                          refine lv_if_ne (tgt := 245) hx hb dL_law_219 (by decide) (fun c_24 => ?_) (fun c_24 => ?_)
                          · exact absurd rfl c_24
                          · refine lv_aload_n hx hb dL_law_222 rfl (lv_at hl 8 rfl) ?_
                            refine lv_iload hx hb dL_law_223 (lv_at hl 6 rfl) ?_
                            refine lv_iload hx hb dL_law_225 (lv_at hl 5 rfl) ?_
                            refine z_cSi (As := [.ref (G.1 + 0), .int v, .int w]) (rest := []) hx hb hml hown hts hl hK hZ hS (J_act l G hV j4 v w k t i (by omega) ek ht et hi ei) (z_GS q436 q437 q0 q438) hdL_act ⟨Nat.le_of_ble_eq_true rfl, Nat.le_of_ble_eq_true rfl⟩ rfl rfl (Nat.le_of_ble_eq_true rfl) dL_law_227 ⟨(Nat.le_of_ble_eq_true rfl), (Nat.le_of_ble_eq_true rfl)⟩ (fun H locs hZ hS => ?_)
                            obtain ⟨g1, g2⟩ := J_again hV j j4 e4 (show k ≤ 15 by omega) ht hi (v := v) (b := w) hA.symm rfl
                            have g3 := J_turn hV j4 (v := v) (b := w) (show k ≤ 15 by omega) ht hi rfl
                            generalize a_act μ2 (μ2 1) (h_o o z) (h_z z - 1) T I T2 I2 k t i v w = B at g1 g2 g3 hZ ⊢
                            refine lv_iload hx hb dL_law_230 (lv_at hl 2 rfl) ?_
                            refine lv_icmp_ne (tgt := 245) hx hb dL_law_232 (by decide) (fun c_25 => ?_) (fun c_25 => ?_)
                            · exact absurd g1 c_25
                            · refine lv_aload_n hx hb dL_law_235 rfl (lv_at hl 8 rfl) ?_
                              have e5 := g2 hr0 T1 I1 hi1 h14
                              have j5 := ((g3.resolve_left (fun h => absurd (g1 ▸ hr0) (Int32.not_le.mpr h.1))).elim (fun _ h => j4.done hV h.1 (hV.cg hi1 e5))).1
                              refine z_cSlP (As := [.ref (G.1 + 0)]) (rest := []) hx hb hml hown hts hl hK hZ hS (J_dig l G hV j5) (z_GS q314 q315 q0 q316) hdL_digest ⟨Nat.le_of_ble_eq_true rfl, Nat.le_of_ble_eq_true rfl⟩ rfl rfl (Nat.le_of_ble_eq_true rfl) dL_law_236 ⟨(Nat.le_of_ble_eq_true rfl), (Nat.le_of_ble_eq_true rfl)⟩ (fun q H locs hZ hS => ?_)
                              have hD5 : z_D A.2 T1 I1 = z_D B.2 T1 I1 := z_D_cg (hV.hd j1.inv).2.2.1 e5 (hV.hd j1.inv).2.2.2.2.2.1
                              have hD6 := hD5.trans (j5.D hV q)
                              have j6 := j5.q hV q
                              rw [← hD5]
                              generalize zr B.2 242 q = μ3 at j6 hD6 hZ ⊢
                              refine lv_lload hx hb dL_law_239 (lv_at hl 1 rfl) ?_
                              refine W.lcmp hx hb dL_law_241 ?_
                              rw [lg_same]
                              refine lv_if_eq (tgt := 247) hx hb dL_law_242 (by decide) (fun c_26 => ?_) (fun c_26 => ?_)
                              · exact fin μ3 T1 I1 _ _ j6 v _ hD6 _ _ _ hZ hS (lv_sub hl [7, 8, 9, 10, 6, 1] rfl)
                              · exact absurd rfl c_26
                  · exact absurd rfl c_20
            · exact absurd (hz_4 j.z4 c_10) c_11
          · refine lv_iload hx hb dL_law_141 (lv_at hl 2 rfl) ?_
            refine lv_iconst (v := 1) hx hb dL_law_143 (by decide) ?_
            refine lv_iadd hx hb dL_law_144 ?_
            rw [nI_1]
            refine lv_goto (tgt := 149) hx hb dL_law_145 (by decide) ?_
            refine lv_icmp_eq (tgt := 154) hx hb dL_law_149 (by decide) (fun c_27 => ?_) (fun c_27 => ?_)
            · refine lv_iload hx hb dL_law_154 (lv_at hl 1 rfl) ?_
              refine lv_if_lt (tgt := 178) hx hb dL_law_156 (by decide) (fun c_28 => ?_) (fun c_28 => ?_)
              · exact absurd c_28 (Int32.not_lt.mpr hr0)
              · refine lv_iload hx hb dL_law_159 (lv_at hl 5 rfl) ?_
                refine lv_bipush (v := 15) hx hb dL_law_161 (by decide) ?_
                refine lv_iand hx hb dL_law_163 ?_
                rw [ek]
                refine lv_bipush (v := 14) hx hb dL_law_164 (by decide) ?_
                refine lv_icmp_ne (tgt := 178) hx hb dL_law_166 (by decide) (fun c_29 => ?_) (fun c_29 => ?_)
                · refine lv_iload hx hb dL_law_178 (lv_at hl 1 rfl) ?_
                  refine lv_if_lt (tgt := 247) hx hb dL_law_180 (by decide) (fun c_30 => ?_) (fun c_30 => ?_)
                  · exact absurd c_30 (Int32.not_lt.mpr hr0)
                  · refine lv_iload hx hb dL_law_183 (lv_at hl 5 rfl) ?_
                    refine lv_bipush (v := 10) hx hb dL_law_185 (by decide) ?_
                    refine lv_ishr hx hb dL_law_187 ?_
                    refine lv_iconst (v := 1) hx hb dL_law_188 (by decide) ?_
                    refine lv_iand hx hb dL_law_189 ?_
                    refine lv_if_ne (tgt := 247) hx hb dL_law_190 (by decide) (fun c_31 => ?_) (fun c_31 => ?_)
                    · exact fin μ1 T1 I1 _ _ j2 v _ hD _ _ _ hZ hS (lv_sub hl [6, 7, 8, 9, 5, 0] rfl)
                    · refine lv_aload_n hx hb dL_law_193 rfl (lv_at hl 7 rfl) ?_
                      refine lv_bipush (v := 12) hx hb dL_law_194 (by decide) ?_
                      refine z_cVi (As := [.int 12]) (rest := []) hx hb hml hown hts hl hK hZ hS (J_cnt l G hV j2) (z_G q294 q295 q296 q1 q297) hdX6_count ⟨Nat.le_of_ble_eq_true rfl, Nat.le_of_ble_eq_true rfl⟩ zk0 (by decide) rfl rfl rfl rfl (Nat.le_of_ble_eq_true rfl) dL_law_196 ⟨(Nat.le_of_ble_eq_true rfl), (Nat.le_of_ble_eq_true rfl)⟩ (fun H locs hZ hS => ?_)
                      refine lv_iconst (v := 1) hx hb dL_law_199 (by decide) ?_
                      refine lv_isub hx hb dL_law_200 ?_
                      rw [nI_pr (show ¬ h_z z = 0 by have := hz_pos z; omega)]
                      refine lv_istore (lv' := [(13, .int (nI (h_z z - 1))), (11, .long (z_D A.2 T1 I1)), (10, .int A.1), (9, .int (nI z)), (7, .long (z_D μ T I)), (6, .int w), (5, .int v), (0, .ref b), (1, .ref (G.1 + 0)), (2, .long (z_D κ T2 I2)), (4, .int (nI n))]) hx hb dL_law_201 hl (by decide) rfl (fun ls hl => ?_)
                      refine lv_aload_n hx hb dL_law_203 rfl (lv_at hl 8 rfl) ?_
                      refine z_cVi (As := []) (rest := []) hx hb hml hown hts hl hK hZ hS (J_undo l G hV j.inv j.o4 j.z4 j2 hs2) (z_G q245 q246 q247 q1 q248) hdX6_undo ⟨Nat.le_of_ble_eq_true rfl, Nat.le_of_ble_eq_true rfl⟩ zk0 (by decide) rfl rfl rfl rfl (Nat.le_of_ble_eq_true rfl) dL_law_204 ⟨(Nat.le_of_ble_eq_true rfl), (Nat.le_of_ble_eq_true rfl)⟩ (fun H locs hZ hS => ?_)
                      refine lv_iload hx hb dL_law_207 (lv_at hl 0 rfl) ?_
                      refine lv_icmp_ne (tgt := 245) hx hb dL_law_209 (by decide) (fun c_32 => ?_) (fun c_32 => ?_)
                      · exact absurd rfl c_32
                      · refine lv_aload_n hx hb dL_law_212 rfl (lv_at hl 8 rfl) ?_
                        obtain ⟨j3, e3⟩ := j2.undone hV j.inv hs2
                        refine z_cSlP (As := [.ref (G.1 + 0)]) (rest := []) hx hb hml hown hts hl hK hZ hS (J_dig l G hV j3) (z_GS q314 q315 q0 q316) hdL_digest ⟨Nat.le_of_ble_eq_true rfl, Nat.le_of_ble_eq_true rfl⟩ rfl rfl (Nat.le_of_ble_eq_true rfl) dL_law_213 ⟨(Nat.le_of_ble_eq_true rfl), (Nat.le_of_ble_eq_true rfl)⟩ (fun q H locs hZ hS => ?_)
                        have hD3 : z_D μ T I = z_D (zr (bc μ1 1 (81 + 39 * h_p o z) T I) 79 (zu (μ1 79) 2 (nI (h_z z - 1)))) T I := z_D_cg h3 e3 (hV.hd j.inv).2.2.2.2.2.1
                        have e4 := e3.trans (eqv_242 (q := q) h3 h4).symm
                        have j4 := j3.q hV q
                        rw [← hD3]
                        generalize zr (zr (bc μ1 1 (81 + 39 * h_p o z) T I) 79 (zu (μ1 79) 2 (nI (h_z z - 1)))) 242 q = μ2 at j4 e4 hZ ⊢
                        refine lv_lload hx hb dL_law_216 (lv_at hl 4 rfl) ?_
                        refine W.lcmp hx hb dL_law_218 ?_
                        rw [lg_same]
                        refine lv_if_ne (tgt := 245) hx hb dL_law_219 (by decide) (fun c_33 => ?_) (fun c_33 => ?_)
                        · exact absurd rfl c_33
                        · refine lv_aload_n hx hb dL_law_222 rfl (lv_at hl 8 rfl) ?_
                          refine lv_iload hx hb dL_law_223 (lv_at hl 6 rfl) ?_
                          refine lv_iload hx hb dL_law_225 (lv_at hl 5 rfl) ?_
                          refine z_cSi (As := [.ref (G.1 + 0), .int v, .int w]) (rest := []) hx hb hml hown hts hl hK hZ hS (J_act l G hV j4 v w k t i (by omega) ek ht et hi ei) (z_GS q436 q437 q0 q438) hdL_act ⟨Nat.le_of_ble_eq_true rfl, Nat.le_of_ble_eq_true rfl⟩ rfl rfl (Nat.le_of_ble_eq_true rfl) dL_law_227 ⟨(Nat.le_of_ble_eq_true rfl), (Nat.le_of_ble_eq_true rfl)⟩ (fun H locs hZ hS => ?_)
                          obtain ⟨g1, g2⟩ := J_again hV j j4 e4 (show k ≤ 15 by omega) ht hi (v := v) (b := w) hA.symm rfl
                          have g3 := J_turn hV j4 (v := v) (b := w) (show k ≤ 15 by omega) ht hi rfl
                          generalize a_act μ2 (μ2 1) (h_o o z) (h_z z - 1) T I T2 I2 k t i v w = B at g1 g2 g3 hZ ⊢
                          refine lv_iload hx hb dL_law_230 (lv_at hl 2 rfl) ?_
                          refine lv_icmp_ne (tgt := 245) hx hb dL_law_232 (by decide) (fun c_34 => ?_) (fun c_34 => ?_)
                          · exact absurd g1 c_34
                          · refine lv_aload_n hx hb dL_law_235 rfl (lv_at hl 8 rfl) ?_
                            have e5 := g2 hr0 T1 I1 hi1 h14
                            have j5 := ((g3.resolve_left (fun h => absurd (g1 ▸ hr0) (Int32.not_le.mpr h.1))).elim (fun _ h => j4.done hV h.1 (hV.cg hi1 e5))).1
                            refine z_cSlP (As := [.ref (G.1 + 0)]) (rest := []) hx hb hml hown hts hl hK hZ hS (J_dig l G hV j5) (z_GS q314 q315 q0 q316) hdL_digest ⟨Nat.le_of_ble_eq_true rfl, Nat.le_of_ble_eq_true rfl⟩ rfl rfl (Nat.le_of_ble_eq_true rfl) dL_law_236 ⟨(Nat.le_of_ble_eq_true rfl), (Nat.le_of_ble_eq_true rfl)⟩ (fun q H locs hZ hS => ?_)
                            have hD5 : z_D A.2 T1 I1 = z_D B.2 T1 I1 := z_D_cg (hV.hd j1.inv).2.2.1 e5 (hV.hd j1.inv).2.2.2.2.2.1
                            have hD6 := hD5.trans (j5.D hV q)
                            have j6 := j5.q hV q
                            rw [← hD5]
                            generalize zr B.2 242 q = μ3 at j6 hD6 hZ ⊢
                            refine lv_lload hx hb dL_law_239 (lv_at hl 1 rfl) ?_
                            refine W.lcmp hx hb dL_law_241 ?_
                            rw [lg_same]
                            refine lv_if_eq (tgt := 247) hx hb dL_law_242 (by decide) (fun c_35 => ?_) (fun c_35 => ?_)
                            · exact fin μ3 T1 I1 _ _ j6 v _ hD6 _ _ _ hZ hS (lv_sub hl [7, 8, 9, 10, 6, 1] rfl)
                            · exact absurd rfl c_35
                · refine lv_lload hx hb dL_law_169 (lv_at hl 0 rfl) ?_
                  refine lv_lload_n hx hb dL_law_171 rfl (lv_at hl 8 rfl) ?_
                  refine W.lcmp hx hb dL_law_172 ?_
                  obtain ⟨y1, y2, y3⟩ := h14 ((nI_eq (a := k) (b := 14) (by omega) (by decide)).mp c_29)
                  rw [show z_D A.2 T1 I1 = z_D κ T2 I2 from (by rw [y1, y2]; exact (z_D_cg (hV.hd j.ink).2.2.1 y3 (hV.hd j.ink).2.2.2.2.2.1).symm), lg_same]
                  refine lv_if_eq (tgt := 178) hx hb dL_law_173 (by decide) (fun c_36 => ?_) (fun c_36 => ?_)
                  · refine lv_iload hx hb dL_law_178 (lv_at hl 1 rfl) ?_
                    refine lv_if_lt (tgt := 247) hx hb dL_law_180 (by decide) (fun c_37 => ?_) (fun c_37 => ?_)
                    · exact absurd c_37 (Int32.not_lt.mpr hr0)
                    · refine lv_iload hx hb dL_law_183 (lv_at hl 5 rfl) ?_
                      refine lv_bipush (v := 10) hx hb dL_law_185 (by decide) ?_
                      refine lv_ishr hx hb dL_law_187 ?_
                      refine lv_iconst (v := 1) hx hb dL_law_188 (by decide) ?_
                      refine lv_iand hx hb dL_law_189 ?_
                      refine lv_if_ne (tgt := 247) hx hb dL_law_190 (by decide) (fun c_38 => ?_) (fun c_38 => ?_)
                      · exact fin μ1 T1 I1 _ _ j2 v _ hD _ _ _ hZ hS (lv_sub hl [6, 7, 8, 9, 5, 0] rfl)
                      · refine lv_aload_n hx hb dL_law_193 rfl (lv_at hl 7 rfl) ?_
                        refine lv_bipush (v := 12) hx hb dL_law_194 (by decide) ?_
                        refine z_cVi (As := [.int 12]) (rest := []) hx hb hml hown hts hl hK hZ hS (J_cnt l G hV j2) (z_G q294 q295 q296 q1 q297) hdX6_count ⟨Nat.le_of_ble_eq_true rfl, Nat.le_of_ble_eq_true rfl⟩ zk0 (by decide) rfl rfl rfl rfl (Nat.le_of_ble_eq_true rfl) dL_law_196 ⟨(Nat.le_of_ble_eq_true rfl), (Nat.le_of_ble_eq_true rfl)⟩ (fun H locs hZ hS => ?_)
                        refine lv_iconst (v := 1) hx hb dL_law_199 (by decide) ?_
                        refine lv_isub hx hb dL_law_200 ?_
                        rw [nI_pr (show ¬ h_z z = 0 by have := hz_pos z; omega)]
                        refine lv_istore (lv' := [(13, .int (nI (h_z z - 1))), (11, .long (z_D A.2 T1 I1)), (10, .int A.1), (9, .int (nI z)), (7, .long (z_D μ T I)), (6, .int w), (5, .int v), (0, .ref b), (1, .ref (G.1 + 0)), (2, .long (z_D κ T2 I2)), (4, .int (nI n))]) hx hb dL_law_201 hl (by decide) rfl (fun ls hl => ?_)
                        refine lv_aload_n hx hb dL_law_203 rfl (lv_at hl 8 rfl) ?_
                        refine z_cVi (As := []) (rest := []) hx hb hml hown hts hl hK hZ hS (J_undo l G hV j.inv j.o4 j.z4 j2 hs2) (z_G q245 q246 q247 q1 q248) hdX6_undo ⟨Nat.le_of_ble_eq_true rfl, Nat.le_of_ble_eq_true rfl⟩ zk0 (by decide) rfl rfl rfl rfl (Nat.le_of_ble_eq_true rfl) dL_law_204 ⟨(Nat.le_of_ble_eq_true rfl), (Nat.le_of_ble_eq_true rfl)⟩ (fun H locs hZ hS => ?_)
                        refine lv_iload hx hb dL_law_207 (lv_at hl 0 rfl) ?_
                        refine lv_icmp_ne (tgt := 245) hx hb dL_law_209 (by decide) (fun c_39 => ?_) (fun c_39 => ?_)
                        · exact absurd rfl c_39
                        · refine lv_aload_n hx hb dL_law_212 rfl (lv_at hl 8 rfl) ?_
                          obtain ⟨j3, e3⟩ := j2.undone hV j.inv hs2
                          refine z_cSlP (As := [.ref (G.1 + 0)]) (rest := []) hx hb hml hown hts hl hK hZ hS (J_dig l G hV j3) (z_GS q314 q315 q0 q316) hdL_digest ⟨Nat.le_of_ble_eq_true rfl, Nat.le_of_ble_eq_true rfl⟩ rfl rfl (Nat.le_of_ble_eq_true rfl) dL_law_213 ⟨(Nat.le_of_ble_eq_true rfl), (Nat.le_of_ble_eq_true rfl)⟩ (fun q H locs hZ hS => ?_)
                          have hD3 : z_D μ T I = z_D (zr (bc μ1 1 (81 + 39 * h_p o z) T I) 79 (zu (μ1 79) 2 (nI (h_z z - 1)))) T I := z_D_cg h3 e3 (hV.hd j.inv).2.2.2.2.2.1
                          have e4 := e3.trans (eqv_242 (q := q) h3 h4).symm
                          have j4 := j3.q hV q
                          rw [← hD3]
                          generalize zr (zr (bc μ1 1 (81 + 39 * h_p o z) T I) 79 (zu (μ1 79) 2 (nI (h_z z - 1)))) 242 q = μ2 at j4 e4 hZ ⊢
                          refine lv_lload hx hb dL_law_216 (lv_at hl 4 rfl) ?_
                          refine W.lcmp hx hb dL_law_218 ?_
                          rw [lg_same]
                          refine lv_if_ne (tgt := 245) hx hb dL_law_219 (by decide) (fun c_40 => ?_) (fun c_40 => ?_)
                          · exact absurd rfl c_40
                          · refine lv_aload_n hx hb dL_law_222 rfl (lv_at hl 8 rfl) ?_
                            refine lv_iload hx hb dL_law_223 (lv_at hl 6 rfl) ?_
                            refine lv_iload hx hb dL_law_225 (lv_at hl 5 rfl) ?_
                            refine z_cSi (As := [.ref (G.1 + 0), .int v, .int w]) (rest := []) hx hb hml hown hts hl hK hZ hS (J_act l G hV j4 v w k t i (by omega) ek ht et hi ei) (z_GS q436 q437 q0 q438) hdL_act ⟨Nat.le_of_ble_eq_true rfl, Nat.le_of_ble_eq_true rfl⟩ rfl rfl (Nat.le_of_ble_eq_true rfl) dL_law_227 ⟨(Nat.le_of_ble_eq_true rfl), (Nat.le_of_ble_eq_true rfl)⟩ (fun H locs hZ hS => ?_)
                            obtain ⟨g1, g2⟩ := J_again hV j j4 e4 (show k ≤ 15 by omega) ht hi (v := v) (b := w) hA.symm rfl
                            have g3 := J_turn hV j4 (v := v) (b := w) (show k ≤ 15 by omega) ht hi rfl
                            generalize a_act μ2 (μ2 1) (h_o o z) (h_z z - 1) T I T2 I2 k t i v w = B at g1 g2 g3 hZ ⊢
                            refine lv_iload hx hb dL_law_230 (lv_at hl 2 rfl) ?_
                            refine lv_icmp_ne (tgt := 245) hx hb dL_law_232 (by decide) (fun c_41 => ?_) (fun c_41 => ?_)
                            · exact absurd g1 c_41
                            · refine lv_aload_n hx hb dL_law_235 rfl (lv_at hl 8 rfl) ?_
                              have e5 := g2 hr0 T1 I1 hi1 h14
                              have j5 := ((g3.resolve_left (fun h => absurd (g1 ▸ hr0) (Int32.not_le.mpr h.1))).elim (fun _ h => j4.done hV h.1 (hV.cg hi1 e5))).1
                              refine z_cSlP (As := [.ref (G.1 + 0)]) (rest := []) hx hb hml hown hts hl hK hZ hS (J_dig l G hV j5) (z_GS q314 q315 q0 q316) hdL_digest ⟨Nat.le_of_ble_eq_true rfl, Nat.le_of_ble_eq_true rfl⟩ rfl rfl (Nat.le_of_ble_eq_true rfl) dL_law_236 ⟨(Nat.le_of_ble_eq_true rfl), (Nat.le_of_ble_eq_true rfl)⟩ (fun q H locs hZ hS => ?_)
                              have hD5 : z_D A.2 T1 I1 = z_D B.2 T1 I1 := z_D_cg (hV.hd j1.inv).2.2.1 e5 (hV.hd j1.inv).2.2.2.2.2.1
                              have hD6 := hD5.trans (j5.D hV q)
                              have j6 := j5.q hV q
                              rw [← hD5]
                              generalize zr B.2 242 q = μ3 at j6 hD6 hZ ⊢
                              refine lv_lload hx hb dL_law_239 (lv_at hl 1 rfl) ?_
                              refine W.lcmp hx hb dL_law_241 ?_
                              rw [lg_same]
                              refine lv_if_eq (tgt := 247) hx hb dL_law_242 (by decide) (fun c_42 => ?_) (fun c_42 => ?_)
                              · exact fin μ3 T1 I1 _ _ j6 v _ hD6 _ _ _ hZ hS (lv_sub hl [7, 8, 9, 10, 6, 1] rfl)
                              · exact absurd rfl c_42
                  · exact absurd rfl c_36
            · exact absurd (hz_l j.z4 c_10) c_27
        · exact absurd (Int32.not_le.mp c_9) (Int32.not_lt.mpr hr0)
