theorem zInv.st_eqv {V : zM → Nat → Nat → Prop} (_ : zInv V) : eqv 0 0 (zr (bc μ0 40 1 0 0) 0 (zu (μ0 0) 5 1)) μ0 := eqv.off (by decide) (by decide) (fun n g1 g2 => by rw [zr_ne (by omega), bc_out (by omega)])
theorem zInv.st {V : zM → Nat → Nat → Prop} (hV : zInv V) : zJ V (zr (bc μ0 40 1 0 0) 0 (zu (μ0 0) 5 1)) μ0 0 0 0 0 0 0 := by
  refine ⟨hV.cg hV.ini hV.st_eqv.symm, ?_, ?_, by decide, by decide, ?_, hV.ini, fun r hr => ?_⟩
  · rw [zr_ne (by decide), bc_out (by omega)]; rfl
  · rw [zr_ne (by decide), bc_out (by omega)]; rfl
  · rw [zr_same]; rfl
  · have := live39 (T := 0) (I := 0) (by decide) (by decide) hr
    rw [zr_ne (by omega), bc_live this hr]
set_option maxHeartbeats 8000000 in
set_option maxRecDepth 100000 in
theorem whole_from {V : zM → Nat → Nat → Prop} (hV : zInv V) {p : Program} {e : Env} {s : State} {m : MethodId} {below : List Frame} {meth : Method} {c : Code} (l : Launch) {b L : Nat} {xs : Nat → Int32} (hL : L ≤ 260) (C0 : lw_At p s m meth c b L xs) : W p l e room_1 s m #[Value.ref b] below meth c s.heap [] 0 0 (lw_Z below #[Value.ref b] s) (entryFrame m ([Value.ref b] : List Value).toArray 14) := by
  obtain ⟨hx, hb, hr, hml, hown, hts0, hX, hbl, hlk, hgv⟩ := id C0
  have hts : ∀ w ∈ zall, w.before #[Value.ref b] s = true := fun w h => hts0 w (zall_tbl h)
  have hown : s.vm.findClass RL = some m.cls := hown
  obtain ⟨c0, iS0, hKn0⟩ := u_known (C := RX0) (T := TX0) (N := 7) (n := 7) hts inX0 (hts _ q194)
  obtain ⟨c1, iS1, hKn1⟩ := u_known (C := RX1) (T := TX1) (N := 7) (n := 7) hts inX1 (hts _ q18)
  obtain ⟨c2, iS2, hKn2⟩ := u_known (C := RX2) (T := TX2) (N := 3) (n := 3) hts inX2 (hts _ q174)
  obtain ⟨c3, iS3, hKn3⟩ := u_known (C := RX3) (T := TX3) (N := 11) (n := 11) hts inX3 (hts _ q94)
  obtain ⟨c4, iS4, hKn4⟩ := u_known (C := RX4) (T := TX4) (N := 6) (n := 6) hts inX4 (hts _ q34)
  obtain ⟨c5, iS5, hKn5⟩ := u_known (C := RX5) (T := TX5) (N := 7) (n := 7) hts inX5 (hts _ q28)
  obtain ⟨c6, iS6, hKn6⟩ := u_known (C := RX6) (T := TX6) (N := 6) (n := 6) hts inX6 (hts _ q10)
  obtain ⟨dC, dI, hKc⟩ : ∃ (dC : Nat → ClassId) (dI : Nat → Nat → Nat), ∀ (k : Nat) (q : vw_C), vwCl[k]? = some q → u_Kn s q.1 q.2.1 q.2.2 (dC k) (dI k) := by
    refine ⟨fun k => if k = 0 then c0 else if k = 1 then c1 else if k = 2 then c2 else if k = 3 then c3 else if k = 4 then c4 else if k = 5 then c5 else c6, fun k => if k = 0 then iS0 else if k = 1 then iS1 else if k = 2 then iS2 else if k = 3 then iS3 else if k = 4 then iS4 else if k = 5 then iS5 else iS6, ?_⟩
    intro k q hq
    match k, hq with
    | 0, hq => cases hq; exact hKn0
    | 1, hq => cases hq; exact hKn1
    | 2, hq => cases hq; exact hKn2
    | 3, hq => cases hq; exact hKn3
    | 4, hq => cases hq; exact hKn4
    | 5, hq => cases hq; exact hKn5
    | 6, hq => cases hq; exact hKn6
    | k + 7, hq => simp [vwCl] at hq
  obtain ⟨comp0, cA0, kA0, f01, f02, f03, f04, f05⟩ := Cond.arrayOver_spec (hts0 _ q25)
  obtain ⟨comp1, cA1, kA1, f11, f12, f13, f14, f15⟩ := Cond.arrayOver_spec (hts0 _ q27)
  obtain ⟨comp2, cA2, kA2, f21, f22, f23, f24, f25⟩ := Cond.arrayOver_spec (hts0 _ q180)
  obtain ⟨G, eG⟩ : ∃ G : zG, G = (s.heap.size, (dC, dI), cA0, cA1, cA2) := ⟨_, rfl⟩
  have hG1 : s.heap.size = G.1 := by rw [eG]
  have hK : zKU G s := by
    rw [eG]
    refine ⟨hKc, fun k q hk => ?_⟩
    match k, hk with
    | 0, hk => cases hk; exact ⟨fun N z => ⟨(fun k h => by cases h), kA0, f03, comp0, f04⟩, ⟨kA0, comp0, f03, f04, f01, f05⟩⟩
    | 1, hk => cases hk; exact ⟨fun N z => ⟨(fun k h => by cases h), kA1, f13, comp1, f14⟩, ⟨kA1, comp1, f13, f14, f11, f15⟩⟩
    | 2, hk => cases hk; exact ⟨fun N z => ⟨(fun k h => by cases h), kA2, f23, comp2, f24⟩, ⟨kA2, comp2, f23, f24, f21, f25⟩⟩
    | k + 3, hk => simp [zT] at hk
  have hN : zN s := ⟨va_Nw.of rfl (hts0 _ q29), va_Nw.of rfl (hts0 _ q35), va_Nw.of rfl (hts0 _ q95), va_Nw.of rfl (hts0 _ q195), va_Nw.of rfl (hts0 _ q225), va_AO.of (hts0 _ q25), va_AO.of (hts0 _ q27), va_AO.of (hts0 _ q180)⟩
  have hS : va_S (zA G) s.heap s.heap [] := va_S.rf
  have hz : s.heap.size = G.1 + 0 := hG1
  have hXe : zX G (fun _ => none) s.heap := fun n x h => by simp at h
  have hl := lv_entry ([.ref b]) (n := 14) (Nat.le_of_ble_eq_true rfl)
  rw [lg_entry_eq]
  generalize (lg_sl ([.ref b]) ++ List.replicate (14 - (lg_sl ([.ref b])).length) Slot.unset).toArray = ls at hl ⊢
  have hl : lv_has ls 14 [(0, .ref b)] := hl
  refine x_new (ci := 6) (fs := [.null, .null, .null, .null, .null, .int 0]) (C := RX6) (T := TX6) (N := 6) hx hb hts inX6 tyX6 tyX6_ok hown q9 q10 q1 hK hz hXe hS rfl (fun j hj => by rcases (show j = 0 ∨ j = 1 ∨ j = 2 ∨ j = 3 ∨ j = 4 ∨ j = 5 by omega) with rfl | rfl | rfl | rfl | rfl | rfl <;> rfl) (Nat.le_of_ble_eq_true rfl) (Nat.le_of_ble_eq_true rfl) dL_law_0 (fun H hz hXe hS => ?_)
  refine lv_dup hx hb dL_law_3 rfl ?_
  refine x_callI (rest := [.ref (G.1 + 0)]) hx hb hml hown hts hl hK hN hz hXe hS (c_X6_init l G (xu (fun _ => none) 0 (.inr (6, [.null, .null, .null, .null, .null, .int 0]))) xu_same) q13 q1 q11 q12 rfl hxX6_init ⟨Nat.le_of_ble_eq_true rfl, Nat.le_of_ble_eq_true rfl⟩ rfl (Nat.le_of_ble_eq_true rfl) dL_law_4 ⟨Nat.le_of_ble_eq_true rfl, Nat.le_of_ble_eq_true rfl⟩ (fun H locs hz hXe hS => ?_)
  have hZ : zW G μ0 H := e_fin_zW hXe
  refine lv_astore_n (lv' := [(1, .ref (G.1 + 0)), (0, .ref b)]) hx hb dL_law_7 rfl hl (by decide) rfl (fun ls hl => ?_)
  refine lv_aload_n hx hb dL_law_8 rfl (lv_at hl 0 rfl) ?_
  refine z_cVi (As := []) (rest := []) hx hb hml hown hts hl hK hZ hS (c_X6_undo_no l G μ0 (μ0 79) rfl rfl) (z_G q245 q246 q247 q1 q248) hdX6_undo ⟨Nat.le_of_ble_eq_true rfl, Nat.le_of_ble_eq_true rfl⟩ zk0 (by decide) rfl rfl rfl rfl (Nat.le_of_ble_eq_true rfl) dL_law_9 ⟨(Nat.le_of_ble_eq_true rfl), (Nat.le_of_ble_eq_true rfl)⟩ (fun H locs hZ hS => ?_)
  refine lv_bipush (v := (-5)) hx hb dL_law_12 (by decide) ?_
  refine lv_icmp_ne (tgt := 33) hx hb dL_law_14 (by decide) (fun c_1 => ?_) (fun c_1 => ?_)
  · exact absurd rfl c_1
  · refine lv_aload_n hx hb dL_law_17 rfl (lv_at hl 0 rfl) ?_
    refine z_cVi (As := []) (rest := []) hx hb hml hown hts hl hK hZ hS (c_X6_restore_no l G μ0 (μ0 0) rfl rfl) (z_G q285 q286 q287 q1 q288) hdX6_restore ⟨Nat.le_of_ble_eq_true rfl, Nat.le_of_ble_eq_true rfl⟩ zk0 (by decide) rfl rfl rfl rfl (Nat.le_of_ble_eq_true rfl) dL_law_18 ⟨(Nat.le_of_ble_eq_true rfl), (Nat.le_of_ble_eq_true rfl)⟩ (fun H locs hZ hS => ?_)
    refine lv_bipush (v := (-5)) hx hb dL_law_21 (by decide) ?_
    refine lv_icmp_ne (tgt := 33) hx hb dL_law_23 (by decide) (fun c_2 => ?_) (fun c_2 => ?_)
    · exact absurd rfl c_2
    · refine lv_aload_n hx hb dL_law_26 rfl (lv_at hl 0 rfl) ?_
      refine z_cVi (As := []) (rest := []) hx hb hml hown hts hl hK hZ hS (c_X6_keep l G μ0 (μ0 1) rfl 0 0 rfl rfl (by decide) (by decide) (μ0 0) (μ0 40) rfl rfl) (z_G q281 q282 q283 q1 q284) hdX6_keep ⟨Nat.le_of_ble_eq_true rfl, Nat.le_of_ble_eq_true rfl⟩ zk0 (by decide) rfl rfl rfl rfl (Nat.le_of_ble_eq_true rfl) dL_law_27 ⟨(Nat.le_of_ble_eq_true rfl), (Nat.le_of_ble_eq_true rfl)⟩ (fun H locs hZ hS => ?_)
      refine lv_if_eq (tgt := 35) hx hb dL_law_30 (by decide) (fun c_3 => ?_) (fun c_3 => ?_)
      · refine lv_aload_n hx hb dL_law_35 rfl (lv_at hl 0 rfl) ?_
        have j := hV.st
        refine z_cSlP (As := [.ref (G.1 + 0)]) (rest := []) hx hb hml hown hts hl hK hZ hS (J_dig l G hV j) (z_GS q314 q315 q0 q316) hdL_digest ⟨Nat.le_of_ble_eq_true rfl, Nat.le_of_ble_eq_true rfl⟩ rfl rfl (Nat.le_of_ble_eq_true rfl) dL_law_36 ⟨(Nat.le_of_ble_eq_true rfl), (Nat.le_of_ble_eq_true rfl)⟩ (fun q H locs hZ hS => ?_)
        rw [show z_D (zr (bc μ0 40 1 0 0) 0 (zu (μ0 0) 5 1)) 0 0 = z_D μ0 0 0 from z_D_cg (by decide) (hV.st_eqv) (hV.hd j.inv).2.2.2.2.2.1]
        refine lv_lstore_n (lv' := [(2, .long (z_D μ0 0 0)), (1, .ref (G.1 + 0)), (0, .ref b)]) hx hb dL_law_39 rfl hl (by decide) rfl (fun ls hl => ?_)
        refine lv_iconst (v := 0) hx hb dL_law_40 (by decide) ?_
        refine lv_istore (lv' := [(4, .int 0), (2, .long (z_D μ0 0 0)), (1, .ref (G.1 + 0)), (0, .ref b)]) hx hb dL_law_41 hl (by decide) rfl (fun ls hl => ?_)
        exact law_loop hV l hL C0 G hG1 hK 40 0 rfl μ0 0 0 _ 0 0 0 0 (j.q hV q) _ _ _ hZ hS (lv_sub hl [3, 2, 1, 0] rfl)
      · exact absurd rfl c_3
